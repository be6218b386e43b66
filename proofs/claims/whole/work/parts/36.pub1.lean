theorem in_X5_change_X5 : ∀ w ∈ wsX50, w ∈ wsX5_change := by decide +kernel
theorem in_X5_circle_X1 : ∀ w ∈ wsX10, w ∈ wsX5_circle := by decide +kernel
theorem in_X5_circle_X5 : ∀ w ∈ wsX50, w ∈ wsX5_circle := by decide +kernel
theorem in_X5_closest_X3 : ∀ w ∈ wsX30, w ∈ wsX5_closest := by decide +kernel
theorem in_X5_closest_X5 : ∀ w ∈ wsX50, w ∈ wsX5_closest := by decide +kernel
theorem in_X5_lengths_X3 : ∀ w ∈ wsX30, w ∈ wsX5_lengths := by decide +kernel
theorem in_X5_lengths_X5 : ∀ w ∈ wsX50, w ∈ wsX5_lengths := by decide +kernel
theorem in_X5_letter_X4 : ∀ w ∈ wsX40, w ∈ wsX5_letter := by decide +kernel
theorem in_X5_letter_X5 : ∀ w ∈ wsX50, w ∈ wsX5_letter := by decide +kernel
theorem in_X5_many_X3 : ∀ w ∈ wsX30, w ∈ wsX5_many := by decide +kernel
theorem in_X5_many_X5 : ∀ w ∈ wsX50, w ∈ wsX5_many := by decide +kernel
theorem in_X5_marks_X3 : ∀ w ∈ wsX30, w ∈ wsX5_marks := by decide +kernel
theorem in_X5_marks_X5 : ∀ w ∈ wsX50, w ∈ wsX5_marks := by decide +kernel
theorem in_X5_of_X5 : ∀ w ∈ wsX50, w ∈ wsX5_of := by decide +kernel
theorem in_X5_place_X5 : ∀ w ∈ wsX50, w ∈ wsX5_place := by decide +kernel
theorem in_X5_walker_X1 : ∀ w ∈ wsX10, w ∈ wsX5_walker := by decide +kernel
theorem in_X5_walker_X5 : ∀ w ∈ wsX50, w ∈ wsX5_walker := by decide +kernel
set_option maxHeartbeats 4000000 in
set_option maxRecDepth 100000 in
theorem c_X5_place (l : Launch) (D : va_G) (cI cZ cR : ClassId) (x r t im tx ch ro rf pl ot cl : Nat) (hi : Int32) (F : Nat → Int32) (rn : Nat) (q nw : Int32) (v : Nat → Int32) (w k : Int32) (sz : Nat) : Met l yX5_place wsX5_place ({ frames := 4, cells := 0, slots := 0, locals := 98 }) (PcW D cI cZ cR [.ref x, .int w, .int k] [(x, .inr (5, [.ref r, .ref t, .ref im, .int hi, .ref tx, .ref ch, .ref ro, .ref rf, .ref pl, .ref ot, .ref cl])), (rf, .inl (cI, 6, .inl F)), (r, .inr (1, [.int q, .int nw, .ref rn])), (rn, .inl (cI, 20, .inl v))] sz) (va_Qi (fun (res : Int32) (u : (Nat → Int32)) => res = (if rf_num nw w k 0 4000 = 0 then rg_pb q v (rg_val v w 0) w k.toInt64 else rf_num nw w k 0 4000) ∧ u = (if rf_num nw w k 0 4000 = 0 then F else rf_bump F (rf_num nw w k 0 4000))) (Bw D (fun (u : (Nat → Int32)) => [(x, .inr (5, [.ref r, .ref t, .ref im, .int hi, .ref tx, .ref ch, .ref ro, .ref rf, .ref pl, .ref ot, .ref cl])), (rf, .inl (cI, 6, .inl u)), (r, .inr (1, [.int q, .int nw, .ref rn])), (rn, .inl (cI, 20, .inl v))]) (va_A [(x, .inr (5, [.ref r, .ref t, .ref im, .int hi, .ref tx, .ref ch, .ref ro, .ref rf, .ref pl, .ref ot, .ref cl])), (rf, .inl (cI, 6, .inl F)), (r, .inr (1, [.int q, .int nw, .ref rn])), (rn, .inl (cI, 20, .inl v))] sz)) (va_A [(x, .inr (5, [.ref r, .ref t, .ref im, .int hi, .ref tx, .ref ch, .ref ro, .ref rf, .ref pl, .ref ot, .ref cl])), (rf, .inl (cI, 6, .inl F)), (r, .inr (1, [.int q, .int nw, .ref rn])), (rn, .inl (cI, 20, .inl v))] sz)) 0 0 (va_A [(x, .inr (5, [.ref r, .ref t, .ref im, .int hi, .ref tx, .ref ch, .ref ro, .ref rf, .ref pl, .ref ot, .ref cl])), (rf, .inl (cI, 6, .inl F)), (r, .inr (1, [.int q, .int nw, .ref rn])), (rn, .inl (cI, 20, .inl v))] sz) := by
  refine Met.ofW (cc := cX5_place) (maxL := 4) (ret := (some .int)) (by decide) rfl ?_
  intro p e s m args below meth c s₁ B hml hv
  obtain ⟨rfl, hsz, hP, hK, hD0, hN⟩ := hv
  have hx := B.exec
  have hb := B.bytes
  have hr := B.returns
  have hts := atoms_spec (ws := wsX5_place) B.pre
  have hown : s.vm.findClass RX5 = some m.cls := findClass_of_methodNamed B.named
  have hlocks := B.notSynchronized
  subst hsz
  have hD := hD0.self (sz := s.heap.size)
  generalize hAe : va_A [(x, .inr (5, [.ref r, .ref t, .ref im, .int hi, .ref tx, .ref ch, .ref ro, .ref rf, .ref pl, .ref ot, .ref cl])), (rf, .inl (cI, 6, .inl F)), (r, .inr (1, [.int q, .int nw, .ref rn])), (rn, .inl (cI, 20, .inl v))] s.heap.size = A at hD ⊢
  have hA : ∀ q : Nat, s.heap.size ≤ q → A q := fun q h => by rw [← hAe]; exact Or.inr h
  have hS : va_S A s.heap s.heap [] := va_S.rf
  have hP : va_P D vwCl [(x, .inr (5, [.ref r, .ref t, .ref im, .int hi, .ref tx, .ref ch, .ref ro, .ref rf, .ref pl, .ref ot, .ref cl])), (rf, .inl (cI, 6, .inl F)), (r, .inr (1, [.int q, .int nw, .ref rn])), (rn, .inl (cI, 20, .inl v))] s.heap := hP
  have hl := lv_entry ([.ref x, .int w, .int k]) (n := 4) (Nat.le_of_ble_eq_true rfl)
  rw [lg_entry_eq]
  generalize (lg_sl ([.ref x, .int w, .int k]) ++ List.replicate (4 - (lg_sl ([.ref x, .int w, .int k])).length) Slot.unset).toArray = ls at hl ⊢
  have hl : lv_has ls 4 [(0, .ref x), (1, .int w), (2, .int k)] := hl
  refine lv_aload_n hx hb dX5_place_0 rfl (lv_at hl 0 rfl) ?_
  refine lv_iload_n hx hb dX5_place_1 rfl (lv_at hl 1 rfl) ?_
  refine lv_iload_n hx hb dX5_place_2 rfl (lv_at hl 2 rfl) ?_
  refine lv_iconst (v := 0) hx hb dX5_place_3 (by decide) ?_
  refine lv_sipush (v := 4000) hx hb dX5_place_4 (by decide) ?_
  refine rdV (As := [.int w, .int k, .int 0, .int 4000]) (rest := []) ⟨hx, hb, hml, hown, hts⟩ (c_X5_refusalOfNumber l D cI cZ cR x r t im tx ch ro rf pl ot cl hi rn q nw v w k 0 4000 ) (cwV 4 hts gX5_place_X5_refusalOfNumber rfl rfl rfl (by decide +kernel) ⟨Nat.le_of_ble_eq_true rfl, Nat.le_of_ble_eq_true rfl⟩) hK hN hP 0 5 rfl rfl rfl [0, 2, 3] rfl rfl hl.1 rfl (Nat.le_of_ble_eq_true rfl) dX5_place_7 ⟨Nat.zero_le _, Nat.zero_le _⟩ ?_
  refine lv_istore_n (lv' := [(3, .int (rf_num nw w k 0 4000)), (0, .ref x), (1, .int w), (2, .int k)]) hx hb dX5_place_10 rfl hl (by decide) rfl (fun ls hl => ?_)
  refine lv_iload_n hx hb dX5_place_11 rfl (lv_at hl 0 rfl) ?_
  refine lv_if_eq (tgt := 21) hx hb dX5_place_12 (by decide) (fun c_12 => ?_) (fun c_12 => ?_)
  · skip
    refine lv_aload_n hx hb dX5_place_21 rfl (lv_at hl 1 rfl) ?_
    refine va_get (D := D) (ci := 5) (v := .ref r) (C := RX5) (T := TX5) (N := 11) hx hb hts (in_X5_place_X5) hown hK hP 0 rfl rfl 0 (by decide) (hts (.fieldLink RX5 10 "StepsRoundCircle" "ring" "LStepsRoundCircle$Ring;") (by decide +kernel)) (fun _ h9 => h9) rfl dX5_place_22 ?_
    refine lv_iload_n hx hb dX5_place_25 rfl (lv_at hl 2 rfl) ?_
    refine lv_iload_n hx hb dX5_place_26 rfl (lv_at hl 3 rfl) ?_
    refine rdV (As := [.int w, .int k]) (rest := []) ⟨hx, hb, hml, hown, hts⟩ (c_X1_placeOf l D cI cZ cR r rn q nw v w k ) (cwV 2 hts gX5_place_X1_placeOf rfl rfl rfl (by decide +kernel) ⟨Nat.le_of_ble_eq_true rfl, Nat.le_of_ble_eq_true rfl⟩) hK hN hP 2 1 rfl rfl rfl [2, 3] rfl rfl hl.1 rfl (Nat.le_of_ble_eq_true rfl) dX5_place_27 ⟨Nat.zero_le _, Nat.zero_le _⟩ ?_
    exact wrI (w1 := (fun (u : (Nat → Int32)) => [(x, .inr (5, [.ref r, .ref t, .ref im, .int hi, .ref tx, .ref ch, .ref ro, .ref rf, .ref pl, .ref ot, .ref cl])), (rf, .inl (cI, 6, .inl u)), (r, .inr (1, [.int q, .int nw, .ref rn])), (rn, .inl (cI, 20, .inl v))])) F hx hb hr hlocks dX5_place_30 hS (hP.sub [0, 1, 2, 3] rfl) (hD.sub [0, 1, 2, 3] (by decide) rfl) (by first | exact ⟨rfl, rfl⟩ | rfl | (simp [bi, c_12]; done))
  · skip
    refine lv_aload_n hx hb dX5_place_15 rfl (lv_at hl 1 rfl) ?_
    refine lv_iload_n hx hb dX5_place_16 rfl (lv_at hl 0 rfl) ?_
    refine wrVi (As := [.int (rf_num nw w k 0 4000)]) (rest := []) (wr := [(r, .inr (1, [.int q, .int nw, .ref rn])), (rn, .inl (cI, 20, .inl v))]) (A := A) ⟨hx, hb, hml, hown, hts⟩ (c_X5_refuse l D cI cZ cR x r t im tx ch ro rf pl ot cl hi F (rf_num nw w k 0 4000)  s.heap.size) (cwV 1 hts gX5_place_X5_refuse rfl rfl rfl (by decide +kernel) ⟨Nat.le_of_ble_eq_true rfl, Nat.le_of_ble_eq_true rfl⟩) hK hN hP hD hS hA 0 5 rfl rfl rfl [0, 1] [2, 3] rfl (by decide) rfl (by decide) (by decide) rfl hl.1 rfl (Nat.le_of_ble_eq_true rfl) dX5_place_17 ⟨Nat.zero_le _, Nat.zero_le _⟩ (fun r_17 u H locs hw hP hD hS => ?_)
    obtain ⟨F_17, rfl⟩ : ∃ z, z = u := ⟨_, rfl⟩
    try dsimp only at hw
    obtain ⟨q1_17, q2_17⟩ := hw
    have q1_17 := q1_17.symm
    subst q1_17
    have q2_17 := q2_17.symm
    subst q2_17
    have hP : va_P D vwCl [(x, .inr (5, [.ref r, .ref t, .ref im, .int hi, .ref tx, .ref ch, .ref ro, .ref rf, .ref pl, .ref ot, .ref cl])), (rf, .inl (cI, 6, .inl (rf_bump F (rf_num nw w k 0 4000)))), (r, .inr (1, [.int q, .int nw, .ref rn])), (rn, .inl (cI, 20, .inl v))] H := hP.sub [2, 3, 0, 1] rfl
    have hD : va_D A [(x, .inr (5, [.ref r, .ref t, .ref im, .int hi, .ref tx, .ref ch, .ref ro, .ref rf, .ref pl, .ref ot, .ref cl])), (rf, .inl (cI, 6, .inl (rf_bump F (rf_num nw w k 0 4000)))), (r, .inr (1, [.int q, .int nw, .ref rn])), (rn, .inl (cI, 20, .inl v))] := hD.sub [2, 3, 0, 1] (by decide) rfl
    exact wrI (w1 := (fun (u : (Nat → Int32)) => [(x, .inr (5, [.ref r, .ref t, .ref im, .int hi, .ref tx, .ref ch, .ref ro, .ref rf, .ref pl, .ref ot, .ref cl])), (rf, .inl (cI, 6, .inl u)), (r, .inr (1, [.int q, .int nw, .ref rn])), (rn, .inl (cI, 20, .inl v))])) (rf_bump F (rf_num nw w k 0 4000)) hx hb hr hlocks dX5_place_20 hS (hP.sub [0, 1, 2, 3] rfl) (hD.sub [0, 1, 2, 3] (by decide) rfl) (by first | exact ⟨rfl, rfl⟩ | rfl | (simp [bi, c_12]; done))

set_option maxHeartbeats 4000000 in
set_option maxRecDepth 100000 in
theorem c_X5_of (l : Launch) (D : va_G) (cI cZ cR : ClassId) (x r t im tx ch ro rf pl ot cl : Nat) (hi : Int32) (F : Nat → Int32) (rn : Nat) (q nw : Int32) (v : Nat → Int32) (w k : Int32) (sz : Nat) : Met l yX5_of wsX5_of ({ frames := 5, cells := 0, slots := 0, locals := 121 }) (PcW D cI cZ cR [.ref x, .int w, .int k] [(x, .inr (5, [.ref r, .ref t, .ref im, .int hi, .ref tx, .ref ch, .ref ro, .ref rf, .ref pl, .ref ot, .ref cl])), (rf, .inl (cI, 6, .inl F)), (r, .inr (1, [.int q, .int nw, .ref rn])), (rn, .inl (cI, 20, .inl v))] sz) (va_Qi (fun (res : Int32) (u : (Nat → Int32)) => res = (if rf_of nw w k = 0 then (if k = 4 then ffk (fun j => plK q v w j = rg_val v w 2) 1 2000 else rg_val v w k) else rf_of nw w k) ∧ u = (if rf_of nw w k = 0 then F else rf_bump F (rf_of nw w k))) (Bw D (fun (u : (Nat → Int32)) => [(x, .inr (5, [.ref r, .ref t, .ref im, .int hi, .ref tx, .ref ch, .ref ro, .ref rf, .ref pl, .ref ot, .ref cl])), (rf, .inl (cI, 6, .inl u)), (r, .inr (1, [.int q, .int nw, .ref rn])), (rn, .inl (cI, 20, .inl v))]) (va_A [(x, .inr (5, [.ref r, .ref t, .ref im, .int hi, .ref tx, .ref ch, .ref ro, .ref rf, .ref pl, .ref ot, .ref cl])), (rf, .inl (cI, 6, .inl F)), (r, .inr (1, [.int q, .int nw, .ref rn])), (rn, .inl (cI, 20, .inl v))] sz)) (va_A [(x, .inr (5, [.ref r, .ref t, .ref im, .int hi, .ref tx, .ref ch, .ref ro, .ref rf, .ref pl, .ref ot, .ref cl])), (rf, .inl (cI, 6, .inl F)), (r, .inr (1, [.int q, .int nw, .ref rn])), (rn, .inl (cI, 20, .inl v))] sz)) 0 0 (va_A [(x, .inr (5, [.ref r, .ref t, .ref im, .int hi, .ref tx, .ref ch, .ref ro, .ref rf, .ref pl, .ref ot, .ref cl])), (rf, .inl (cI, 6, .inl F)), (r, .inr (1, [.int q, .int nw, .ref rn])), (rn, .inl (cI, 20, .inl v))] sz) := by
  refine Met.ofW (cc := cX5_of) (maxL := 3) (ret := (some .int)) (by decide) rfl ?_
  intro p e s m args below meth c s₁ B hml hv
  obtain ⟨rfl, hsz, hP, hK, hD0, hN⟩ := hv
  have hx := B.exec
  have hb := B.bytes
  have hr := B.returns
  have hts := atoms_spec (ws := wsX5_of) B.pre
  have hown : s.vm.findClass RX5 = some m.cls := findClass_of_methodNamed B.named
  have hlocks := B.notSynchronized
  subst hsz
  have hD := hD0.self (sz := s.heap.size)
  generalize hAe : va_A [(x, .inr (5, [.ref r, .ref t, .ref im, .int hi, .ref tx, .ref ch, .ref ro, .ref rf, .ref pl, .ref ot, .ref cl])), (rf, .inl (cI, 6, .inl F)), (r, .inr (1, [.int q, .int nw, .ref rn])), (rn, .inl (cI, 20, .inl v))] s.heap.size = A at hD ⊢
  have hA : ∀ q : Nat, s.heap.size ≤ q → A q := fun q h => by rw [← hAe]; exact Or.inr h
  have hS : va_S A s.heap s.heap [] := va_S.rf
  have hP : va_P D vwCl [(x, .inr (5, [.ref r, .ref t, .ref im, .int hi, .ref tx, .ref ch, .ref ro, .ref rf, .ref pl, .ref ot, .ref cl])), (rf, .inl (cI, 6, .inl F)), (r, .inr (1, [.int q, .int nw, .ref rn])), (rn, .inl (cI, 20, .inl v))] s.heap := hP
  have hl := lv_entry ([.ref x, .int w, .int k]) (n := 3) (Nat.le_of_ble_eq_true rfl)
  rw [lg_entry_eq]
  generalize (lg_sl ([.ref x, .int w, .int k]) ++ List.replicate (3 - (lg_sl ([.ref x, .int w, .int k])).length) Slot.unset).toArray = ls at hl ⊢
  have hl : lv_has ls 3 [(0, .ref x), (1, .int w), (2, .int k)] := hl
  refine lv_aload_n hx hb dX5_of_0 rfl (lv_at hl 0 rfl) ?_
  refine va_get (D := D) (ci := 5) (v := .ref r) (C := RX5) (T := TX5) (N := 11) hx hb hts (in_X5_of_X5) hown hK hP 0 rfl rfl 0 (by decide) (hts (.fieldLink RX5 10 "StepsRoundCircle" "ring" "LStepsRoundCircle$Ring;") (by decide +kernel)) (fun _ h9 => h9) rfl dX5_of_1 ?_
  refine lv_iload_n hx hb dX5_of_4 rfl (lv_at hl 1 rfl) ?_
  refine rdV (As := [.int w]) (rest := []) ⟨hx, hb, hml, hown, hts⟩ (c_X1_has l D cI cZ cR r rn q nw v w ) (cwV 1 hts gX5_of_X1_has rfl rfl rfl (by decide +kernel) ⟨Nat.le_of_ble_eq_true rfl, Nat.le_of_ble_eq_true rfl⟩) hK hN hP 2 1 rfl rfl rfl [2, 3] rfl rfl hl.1 rfl (Nat.le_of_ble_eq_true rfl) dX5_of_5 ⟨Nat.zero_le _, Nat.zero_le _⟩ ?_
  refine lv_if_ne (tgt := 17) hx hb dX5_of_8 (by decide) (fun c_8 => ?_) (fun c_8 => ?_)
  · skip
    have c_8 := bi_ne0.mp c_8
    refine lv_iload_n hx hb dX5_of_17 rfl (lv_at hl 2 rfl) ?_
    refine lv_iconst (v := 5) hx hb dX5_of_18 (by decide) ?_
    refine rdS (As := [.int k, .int 5]) (rest := []) ⟨hx, hb, hml, hown, hts⟩ (c_X5_isBelow l D cI cZ cR k 5 ) (va_cwS 2 hts gX5_of_X5_isBelow rfl rfl rfl (by decide +kernel) ⟨Nat.le_of_ble_eq_true rfl, Nat.le_of_ble_eq_true rfl⟩) hK hN hP [] rfl rfl hl.1 rfl (Nat.le_of_ble_eq_true rfl) dX5_of_19 ⟨Nat.zero_le _, Nat.zero_le _⟩ ?_
    refine lv_if_ne (tgt := 32) hx hb dX5_of_22 (by decide) (fun c_22 => ?_) (fun c_22 => ?_)
    · skip
      have c_22 := bi_ne0.mp c_22
      refine lv_iload_n hx hb dX5_of_32 rfl (lv_at hl 2 rfl) ?_
      refine lv_iconst (v := 4) hx hb dX5_of_33 (by decide) ?_
      refine lv_icmp_ne (tgt := 45) hx hb dX5_of_34 (by decide) (fun c_34 => ?_) (fun c_34 => ?_)
      · skip
        refine lv_aload_n hx hb dX5_of_45 rfl (lv_at hl 0 rfl) ?_
        refine va_get (D := D) (ci := 5) (v := .ref r) (C := RX5) (T := TX5) (N := 11) hx hb hts (in_X5_of_X5) hown hK hP 0 rfl rfl 0 (by decide) (hts (.fieldLink RX5 10 "StepsRoundCircle" "ring" "LStepsRoundCircle$Ring;") (by decide +kernel)) (fun _ h9 => h9) rfl dX5_of_46 ?_
        refine lv_iload_n hx hb dX5_of_49 rfl (lv_at hl 1 rfl) ?_
        refine lv_iload_n hx hb dX5_of_50 rfl (lv_at hl 2 rfl) ?_
        refine rdV (As := [.int w, .int k]) (rest := []) ⟨hx, hb, hml, hown, hts⟩ (c_X1_value l D cI cZ cR r rn q nw v w k ) (cwV 2 hts gX5_of_X1_value rfl rfl rfl (by decide +kernel) ⟨Nat.le_of_ble_eq_true rfl, Nat.le_of_ble_eq_true rfl⟩) hK hN hP 2 1 rfl rfl rfl [2, 3] rfl rfl hl.1 rfl (Nat.le_of_ble_eq_true rfl) dX5_of_51 ⟨Nat.zero_le _, Nat.zero_le _⟩ ?_
        exact wrI (w1 := (fun (u : (Nat → Int32)) => [(x, .inr (5, [.ref r, .ref t, .ref im, .int hi, .ref tx, .ref ch, .ref ro, .ref rf, .ref pl, .ref ot, .ref cl])), (rf, .inl (cI, 6, .inl u)), (r, .inr (1, [.int q, .int nw, .ref rn])), (rn, .inl (cI, 20, .inl v))])) F hx hb hr hlocks dX5_of_54 hS (hP.sub [0, 1, 2, 3] rfl) (hD.sub [0, 1, 2, 3] (by decide) rfl) (by first | exact ⟨rfl, rfl⟩ | rfl | (simp [bi, rf_of, c_8, c_22, c_34]; done))
      · skip
        refine lv_aload_n hx hb dX5_of_37 rfl (lv_at hl 0 rfl) ?_
        refine lv_iload_n hx hb dX5_of_38 rfl (lv_at hl 1 rfl) ?_
        refine rdV (As := [.int w]) (rest := []) ⟨hx, hb, hml, hown, hts⟩ (c_X5_returnOf l D cI cZ cR x r t im tx ch ro rf pl ot cl hi rn q nw v w ) (cwV 1 hts gX5_of_X5_returnOf rfl rfl rfl (by decide +kernel) ⟨Nat.le_of_ble_eq_true rfl, Nat.le_of_ble_eq_true rfl⟩) hK hN hP 0 5 rfl rfl rfl [0, 2, 3] rfl rfl hl.1 rfl (Nat.le_of_ble_eq_true rfl) dX5_of_39 ⟨Nat.zero_le _, Nat.zero_le _⟩ ?_
        refine lv_goto (tgt := 54) hx hb dX5_of_42 (by decide) ?_
        exact wrI (w1 := (fun (u : (Nat → Int32)) => [(x, .inr (5, [.ref r, .ref t, .ref im, .int hi, .ref tx, .ref ch, .ref ro, .ref rf, .ref pl, .ref ot, .ref cl])), (rf, .inl (cI, 6, .inl u)), (r, .inr (1, [.int q, .int nw, .ref rn])), (rn, .inl (cI, 20, .inl v))])) F hx hb hr hlocks dX5_of_54 hS (hP.sub [0, 1, 2, 3] rfl) (hD.sub [0, 1, 2, 3] (by decide) rfl) (by first | exact ⟨rfl, rfl⟩ | rfl | (simp [bi, rf_of, c_8, c_22, c_34]; done))
    · skip
      have c_22 := bi_eq0.mp c_22
      refine lv_aload_n hx hb dX5_of_25 rfl (lv_at hl 0 rfl) ?_
      refine lv_bipush (v := (-2)) hx hb dX5_of_26 (by decide) ?_
      refine wrVi (As := [.int (-2)]) (rest := []) (wr := [(r, .inr (1, [.int q, .int nw, .ref rn])), (rn, .inl (cI, 20, .inl v))]) (A := A) ⟨hx, hb, hml, hown, hts⟩ (c_X5_refuse l D cI cZ cR x r t im tx ch ro rf pl ot cl hi F (-2)  s.heap.size) (cwV 1 hts gX5_of_X5_refuse rfl rfl rfl (by decide +kernel) ⟨Nat.le_of_ble_eq_true rfl, Nat.le_of_ble_eq_true rfl⟩) hK hN hP hD hS hA 0 5 rfl rfl rfl [0, 1] [2, 3] rfl (by decide) rfl (by decide) (by decide) rfl hl.1 rfl (Nat.le_of_ble_eq_true rfl) dX5_of_28 ⟨Nat.zero_le _, Nat.zero_le _⟩ (fun r_28 u H locs hw hP hD hS => ?_)
      obtain ⟨F_28, rfl⟩ : ∃ z, z = u := ⟨_, rfl⟩
      try dsimp only at hw
      obtain ⟨q1_28, q2_28⟩ := hw
      have q1_28 := q1_28.symm
      subst q1_28
      have q2_28 := q2_28.symm
      subst q2_28
      have hP : va_P D vwCl [(x, .inr (5, [.ref r, .ref t, .ref im, .int hi, .ref tx, .ref ch, .ref ro, .ref rf, .ref pl, .ref ot, .ref cl])), (rf, .inl (cI, 6, .inl (rf_bump F (-2)))), (r, .inr (1, [.int q, .int nw, .ref rn])), (rn, .inl (cI, 20, .inl v))] H := hP.sub [2, 3, 0, 1] rfl
      have hD : va_D A [(x, .inr (5, [.ref r, .ref t, .ref im, .int hi, .ref tx, .ref ch, .ref ro, .ref rf, .ref pl, .ref ot, .ref cl])), (rf, .inl (cI, 6, .inl (rf_bump F (-2)))), (r, .inr (1, [.int q, .int nw, .ref rn])), (rn, .inl (cI, 20, .inl v))] := hD.sub [2, 3, 0, 1] (by decide) rfl
      exact wrI (w1 := (fun (u : (Nat → Int32)) => [(x, .inr (5, [.ref r, .ref t, .ref im, .int hi, .ref tx, .ref ch, .ref ro, .ref rf, .ref pl, .ref ot, .ref cl])), (rf, .inl (cI, 6, .inl u)), (r, .inr (1, [.int q, .int nw, .ref rn])), (rn, .inl (cI, 20, .inl v))])) (rf_bump F (-2)) hx hb hr hlocks dX5_of_31 hS (hP.sub [0, 1, 2, 3] rfl) (hD.sub [0, 1, 2, 3] (by decide) rfl) (by first | exact ⟨rfl, rfl⟩ | rfl | (simp [bi, rf_of, c_8, c_22]; done))
  · skip
    have c_8 := bi_eq0.mp c_8
    refine lv_aload_n hx hb dX5_of_11 rfl (lv_at hl 0 rfl) ?_
    refine lv_iconst (v := (-1)) hx hb dX5_of_12 (by decide) ?_
    refine wrVi (As := [.int (-1)]) (rest := []) (wr := [(r, .inr (1, [.int q, .int nw, .ref rn])), (rn, .inl (cI, 20, .inl v))]) (A := A) ⟨hx, hb, hml, hown, hts⟩ (c_X5_refuse l D cI cZ cR x r t im tx ch ro rf pl ot cl hi F (-1)  s.heap.size) (cwV 1 hts gX5_of_X5_refuse rfl rfl rfl (by decide +kernel) ⟨Nat.le_of_ble_eq_true rfl, Nat.le_of_ble_eq_true rfl⟩) hK hN hP hD hS hA 0 5 rfl rfl rfl [0, 1] [2, 3] rfl (by decide) rfl (by decide) (by decide) rfl hl.1 rfl (Nat.le_of_ble_eq_true rfl) dX5_of_13 ⟨Nat.zero_le _, Nat.zero_le _⟩ (fun r_13 u H locs hw hP hD hS => ?_)
    obtain ⟨F_13, rfl⟩ : ∃ z, z = u := ⟨_, rfl⟩
    try dsimp only at hw
    obtain ⟨q1_13, q2_13⟩ := hw
    have q1_13 := q1_13.symm
    subst q1_13
    have q2_13 := q2_13.symm
    subst q2_13
    have hP : va_P D vwCl [(x, .inr (5, [.ref r, .ref t, .ref im, .int hi, .ref tx, .ref ch, .ref ro, .ref rf, .ref pl, .ref ot, .ref cl])), (rf, .inl (cI, 6, .inl (rf_bump F (-1)))), (r, .inr (1, [.int q, .int nw, .ref rn])), (rn, .inl (cI, 20, .inl v))] H := hP.sub [2, 3, 0, 1] rfl
    have hD : va_D A [(x, .inr (5, [.ref r, .ref t, .ref im, .int hi, .ref tx, .ref ch, .ref ro, .ref rf, .ref pl, .ref ot, .ref cl])), (rf, .inl (cI, 6, .inl (rf_bump F (-1)))), (r, .inr (1, [.int q, .int nw, .ref rn])), (rn, .inl (cI, 20, .inl v))] := hD.sub [2, 3, 0, 1] (by decide) rfl
    exact wrI (w1 := (fun (u : (Nat → Int32)) => [(x, .inr (5, [.ref r, .ref t, .ref im, .int hi, .ref tx, .ref ch, .ref ro, .ref rf, .ref pl, .ref ot, .ref cl])), (rf, .inl (cI, 6, .inl u)), (r, .inr (1, [.int q, .int nw, .ref rn])), (rn, .inl (cI, 20, .inl v))])) (rf_bump F (-1)) hx hb hr hlocks dX5_of_16 hS (hP.sub [0, 1, 2, 3] rfl) (hD.sub [0, 1, 2, 3] (by decide) rfl) (by first | exact ⟨rfl, rfl⟩ | rfl | (simp [bi, rf_of, c_8]; done))

set_option maxHeartbeats 4000000 in
set_option maxRecDepth 100000 in
theorem c_X5_letter (l : Launch) (D : va_G) (cI cZ cR : ClassId) (x r t im tx ch ro rf pl ot cl : Nat) (hi : Int32) (F : Nat → Int32) (tn : Nat) (tz : Int32) (tf : Nat → Int32) (x0 : Int32) (htz : 0 ≤ tz) (sz : Nat) : Met l yX5_letter wsX5_letter ({ frames := 2, cells := 0, slots := 0, locals := 43 }) (PcW D cI cZ cR [.ref x, .int x0] [(x, .inr (5, [.ref r, .ref t, .ref im, .int hi, .ref tx, .ref ch, .ref ro, .ref rf, .ref pl, .ref ot, .ref cl])), (rf, .inl (cI, 6, .inl F)), (tx, .inr (4, [.int tz, .ref tn])), (tn, .inl (cI, 72, .inl tf))] sz) (va_Qi (fun (res : Int32) (u : (Nat → Int32) × Int32 × (Nat → Int32)) => res = (if rf_let tz x0 = 0 then tz + 1 else rf_let tz x0) ∧ u.1 = (if rf_let tz x0 = 0 then F else rf_bump F (rf_let tz x0)) ∧ u.2.1 = (if rf_let tz x0 = 0 then tz + 1 else tz) ∧ u.2.2 = (if rf_let tz x0 = 0 then upd tf tz.toNatClampNeg x0 else tf)) (Bw D (fun (u : (Nat → Int32) × Int32 × (Nat → Int32)) => [(x, .inr (5, [.ref r, .ref t, .ref im, .int hi, .ref tx, .ref ch, .ref ro, .ref rf, .ref pl, .ref ot, .ref cl])), (rf, .inl (cI, 6, .inl u.1)), (tx, .inr (4, [.int u.2.1, .ref tn])), (tn, .inl (cI, 72, .inl u.2.2))]) (va_A [(x, .inr (5, [.ref r, .ref t, .ref im, .int hi, .ref tx, .ref ch, .ref ro, .ref rf, .ref pl, .ref ot, .ref cl])), (rf, .inl (cI, 6, .inl F)), (tx, .inr (4, [.int tz, .ref tn])), (tn, .inl (cI, 72, .inl tf))] sz)) (va_A [(x, .inr (5, [.ref r, .ref t, .ref im, .int hi, .ref tx, .ref ch, .ref ro, .ref rf, .ref pl, .ref ot, .ref cl])), (rf, .inl (cI, 6, .inl F)), (tx, .inr (4, [.int tz, .ref tn])), (tn, .inl (cI, 72, .inl tf))] sz)) 0 0 (va_A [(x, .inr (5, [.ref r, .ref t, .ref im, .int hi, .ref tx, .ref ch, .ref ro, .ref rf, .ref pl, .ref ot, .ref cl])), (rf, .inl (cI, 6, .inl F)), (tx, .inr (4, [.int tz, .ref tn])), (tn, .inl (cI, 72, .inl tf))] sz) := by
  refine Met.ofW (cc := cX5_letter) (maxL := 2) (ret := (some .int)) (by decide) rfl ?_
  intro p e s m args below meth c s₁ B hml hv
  obtain ⟨rfl, hsz, hP, hK, hD0, hN⟩ := hv
  have hx := B.exec
  have hb := B.bytes
  have hr := B.returns
  have hts := atoms_spec (ws := wsX5_letter) B.pre
  have hown : s.vm.findClass RX5 = some m.cls := findClass_of_methodNamed B.named
  have hlocks := B.notSynchronized
  subst hsz
  have hD := hD0.self (sz := s.heap.size)
  generalize hAe : va_A [(x, .inr (5, [.ref r, .ref t, .ref im, .int hi, .ref tx, .ref ch, .ref ro, .ref rf, .ref pl, .ref ot, .ref cl])), (rf, .inl (cI, 6, .inl F)), (tx, .inr (4, [.int tz, .ref tn])), (tn, .inl (cI, 72, .inl tf))] s.heap.size = A at hD ⊢
  have hA : ∀ q : Nat, s.heap.size ≤ q → A q := fun q h => by rw [← hAe]; exact Or.inr h
  have hS : va_S A s.heap s.heap [] := va_S.rf
  have hP : va_P D vwCl [(x, .inr (5, [.ref r, .ref t, .ref im, .int hi, .ref tx, .ref ch, .ref ro, .ref rf, .ref pl, .ref ot, .ref cl])), (rf, .inl (cI, 6, .inl F)), (tx, .inr (4, [.int tz, .ref tn])), (tn, .inl (cI, 72, .inl tf))] s.heap := hP
  have hl := lv_entry ([.ref x, .int x0]) (n := 2) (Nat.le_of_ble_eq_true rfl)
  rw [lg_entry_eq]
  generalize (lg_sl ([.ref x, .int x0]) ++ List.replicate (2 - (lg_sl ([.ref x, .int x0])).length) Slot.unset).toArray = ls at hl ⊢
  have hl : lv_has ls 2 [(0, .ref x), (1, .int x0)] := hl
  refine lv_iload_n hx hb dX5_letter_0 rfl (lv_at hl 1 rfl) ?_
  refine lv_if_ge (tgt := 11) hx hb dX5_letter_1 (by decide) (fun c_1 => ?_) (fun c_1 => ?_)
  · skip
    refine lv_iload_n hx hb dX5_letter_11 rfl (lv_at hl 1 rfl) ?_
    refine lv_sipush (v := 255) hx hb dX5_letter_12 (by decide) ?_
    refine lv_icmp_gt (tgt := 28) hx hb dX5_letter_15 (by decide) (fun c_15 => ?_) (fun c_15 => ?_)
    · skip
      refine lv_aload_n hx hb dX5_letter_28 rfl (lv_at hl 0 rfl) ?_
      refine lv_bipush (v := (-6)) hx hb dX5_letter_29 (by decide) ?_
      refine wrVi (As := [.int (-6)]) (rest := []) (wr := [(tx, .inr (4, [.int tz, .ref tn])), (tn, .inl (cI, 72, .inl tf))]) (A := A) ⟨hx, hb, hml, hown, hts⟩ (c_X5_refuse l D cI cZ cR x r t im tx ch ro rf pl ot cl hi F (-6)  s.heap.size) (cwV 1 hts gX5_letter_X5_refuse rfl rfl rfl (by decide +kernel) ⟨Nat.le_of_ble_eq_true rfl, Nat.le_of_ble_eq_true rfl⟩) hK hN hP hD hS hA 0 5 rfl rfl rfl [0, 1] [2, 3] rfl (by decide) rfl (by decide) (by decide) rfl hl.1 rfl (Nat.le_of_ble_eq_true rfl) dX5_letter_31 ⟨Nat.zero_le _, Nat.zero_le _⟩ (fun r_31 u H locs hw hP hD hS => ?_)
      obtain ⟨F_31, rfl⟩ : ∃ z, z = u := ⟨_, rfl⟩
      try dsimp only at hw
      obtain ⟨q1_31, q2_31⟩ := hw
      have q1_31 := q1_31.symm
      subst q1_31
      have q2_31 := q2_31.symm
      subst q2_31
      have hP : va_P D vwCl [(x, .inr (5, [.ref r, .ref t, .ref im, .int hi, .ref tx, .ref ch, .ref ro, .ref rf, .ref pl, .ref ot, .ref cl])), (rf, .inl (cI, 6, .inl (rf_bump F (-6)))), (tx, .inr (4, [.int tz, .ref tn])), (tn, .inl (cI, 72, .inl tf))] H := hP.sub [2, 3, 0, 1] rfl
      have hD : va_D A [(x, .inr (5, [.ref r, .ref t, .ref im, .int hi, .ref tx, .ref ch, .ref ro, .ref rf, .ref pl, .ref ot, .ref cl])), (rf, .inl (cI, 6, .inl (rf_bump F (-6)))), (tx, .inr (4, [.int tz, .ref tn])), (tn, .inl (cI, 72, .inl tf))] := hD.sub [2, 3, 0, 1] (by decide) rfl
      exact wrI (w1 := (fun (u : (Nat → Int32) × Int32 × (Nat → Int32)) => [(x, .inr (5, [.ref r, .ref t, .ref im, .int hi, .ref tx, .ref ch, .ref ro, .ref rf, .ref pl, .ref ot, .ref cl])), (rf, .inl (cI, 6, .inl u.1)), (tx, .inr (4, [.int u.2.1, .ref tn])), (tn, .inl (cI, 72, .inl u.2.2))])) ((rf_bump F (-6)), tz, tf) hx hb hr hlocks dX5_letter_34 hS (hP.sub [0, 1, 2, 3] rfl) (hD.sub [0, 1, 2, 3] (by decide) rfl) (by simp [rf_let, c_1, Int32.not_lt.mpr c_1, c_15, Int32.not_le.mpr c_15])
    · skip
      refine lv_aload_n hx hb dX5_letter_18 rfl (lv_at hl 0 rfl) ?_
      refine va_get (D := D) (ci := 5) (v := .ref tx) (C := RX5) (T := TX5) (N := 11) hx hb hts (in_X5_letter_X5) hown hK hP 0 rfl rfl 4 (by decide) (hts (.fieldLink RX5 29 "StepsRoundCircle" "text" "LStepsRoundCircle$Text;") (by decide +kernel)) (fun _ h9 => h9) rfl dX5_letter_19 ?_
      refine rdV (As := []) (rest := []) ⟨hx, hb, hml, hown, hts⟩ (c_X4_isFull l D cI cZ cR tx tn tz tf ) (cwV 0 hts gX5_letter_X4_isFull rfl rfl rfl (by decide +kernel) ⟨Nat.le_of_ble_eq_true rfl, Nat.le_of_ble_eq_true rfl⟩) hK hN hP 2 4 rfl rfl rfl [2, 3] rfl rfl hl.1 rfl (Nat.le_of_ble_eq_true rfl) dX5_letter_22 ⟨Nat.zero_le _, Nat.zero_le _⟩ ?_
      refine lv_if_eq (tgt := 35) hx hb dX5_letter_25 (by decide) (fun c_25 => ?_) (fun c_25 => ?_)
      · skip
        have c_25 := bi_eq0.mp c_25
        refine lv_aload_n hx hb dX5_letter_35 rfl (lv_at hl 0 rfl) ?_
        refine va_get (D := D) (ci := 5) (v := .ref tx) (C := RX5) (T := TX5) (N := 11) hx hb hts (in_X5_letter_X5) hown hK hP 0 rfl rfl 4 (by decide) (hts (.fieldLink RX5 29 "StepsRoundCircle" "text" "LStepsRoundCircle$Text;") (by decide +kernel)) (fun _ h9 => h9) rfl dX5_letter_36 ?_
        refine lv_iload_n hx hb dX5_letter_39 rfl (lv_at hl 1 rfl) ?_
        refine wrVv (As := [.int x0]) (rest := []) (wr := [(x, .inr (5, [.ref r, .ref t, .ref im, .int hi, .ref tx, .ref ch, .ref ro, .ref rf, .ref pl, .ref ot, .ref cl])), (rf, .inl (cI, 6, .inl F))]) (A := A) ⟨hx, hb, hml, hown, hts⟩ (c_X4_add l D cI cZ cR tx tn tz tf x0  s.heap.size) (cwV 1 hts gX5_letter_X4_add rfl rfl rfl (by decide +kernel) ⟨Nat.le_of_ble_eq_true rfl, Nat.le_of_ble_eq_true rfl⟩) hK hN hP hD hS hA 2 4 rfl rfl rfl [2, 3] [0, 1] rfl (by decide) rfl (by decide) (by decide) rfl hl.1 rfl (Nat.le_of_ble_eq_true rfl) dX5_letter_40 ⟨Nat.zero_le _, Nat.zero_le _⟩ (fun u H locs hw hP hD hS => ?_)
        obtain ⟨z_40, f_40⟩ := u
        try dsimp only at hw
        obtain ⟨q1_40, q2_40⟩ := hw
        have q1_40 := q1_40.symm
        subst q1_40
        have q2_40 := q2_40.symm
        subst q2_40
        have hP : va_P D vwCl [(x, .inr (5, [.ref r, .ref t, .ref im, .int hi, .ref tx, .ref ch, .ref ro, .ref rf, .ref pl, .ref ot, .ref cl])), (rf, .inl (cI, 6, .inl F)), (tx, .inr (4, [.int (if 0 ≤ tz ∧ tz < 72 then tz + 1 else tz), .ref tn])), (tn, .inl (cI, 72, .inl (if 0 ≤ tz ∧ tz < 72 then upd tf tz.toNatClampNeg x0 else tf)))] H := hP.sub [0, 1, 2, 3] rfl
        have hD : va_D A [(x, .inr (5, [.ref r, .ref t, .ref im, .int hi, .ref tx, .ref ch, .ref ro, .ref rf, .ref pl, .ref ot, .ref cl])), (rf, .inl (cI, 6, .inl F)), (tx, .inr (4, [.int (if 0 ≤ tz ∧ tz < 72 then tz + 1 else tz), .ref tn])), (tn, .inl (cI, 72, .inl (if 0 ≤ tz ∧ tz < 72 then upd tf tz.toNatClampNeg x0 else tf)))] := hD.sub [0, 1, 2, 3] (by decide) rfl
        refine lv_aload_n hx hb dX5_letter_43 rfl (lv_at hl 0 rfl) ?_
        refine va_get (D := D) (ci := 5) (v := .ref tx) (C := RX5) (T := TX5) (N := 11) hx hb hts (in_X5_letter_X5) hown hK hP 0 rfl rfl 4 (by decide) (hts (.fieldLink RX5 29 "StepsRoundCircle" "text" "LStepsRoundCircle$Text;") (by decide +kernel)) (fun _ h9 => h9) rfl dX5_letter_44 ?_
        refine va_get (D := D) (ci := 4) (v := .int (if 0 ≤ tz ∧ tz < 72 then tz + 1 else tz)) (C := RX4) (T := TX4) (N := 2) hx hb hts (in_X5_letter_X4) hown hK hP 2 rfl rfl 0 (by decide) (hts (.fieldLink RX5 76 "StepsRoundCircle$Text" "size" "I") (by decide +kernel)) (fun _ h9 => h9) rfl dX5_letter_47 ?_
        exact wrI (w1 := (fun (u : (Nat → Int32) × Int32 × (Nat → Int32)) => [(x, .inr (5, [.ref r, .ref t, .ref im, .int hi, .ref tx, .ref ch, .ref ro, .ref rf, .ref pl, .ref ot, .ref cl])), (rf, .inl (cI, 6, .inl u.1)), (tx, .inr (4, [.int u.2.1, .ref tn])), (tn, .inl (cI, 72, .inl u.2.2))])) (F, (if 0 ≤ tz ∧ tz < 72 then tz + 1 else tz), (if 0 ≤ tz ∧ tz < 72 then upd tf tz.toNatClampNeg x0 else tf)) hx hb hr hlocks dX5_letter_50 hS (hP.sub [0, 1, 2, 3] rfl) (hD.sub [0, 1, 2, 3] (by decide) rfl) (by have e9 : rf_let tz x0 = 0 := (by simp [rf_let, c_1, Int32.not_lt.mpr c_1, c_15, Int32.not_lt.mp c_15, c_25]); have e8 : 0 ≤ tz ∧ tz < 72 := ⟨htz, Int32.not_le.mp c_25⟩; simp [e9, e8])
      · skip
        have c_25 := bi_ne0.mp c_25
        refine lv_aload_n hx hb dX5_letter_28 rfl (lv_at hl 0 rfl) ?_
        refine lv_bipush (v := (-6)) hx hb dX5_letter_29 (by decide) ?_
        refine wrVi (As := [.int (-6)]) (rest := []) (wr := [(tx, .inr (4, [.int tz, .ref tn])), (tn, .inl (cI, 72, .inl tf))]) (A := A) ⟨hx, hb, hml, hown, hts⟩ (c_X5_refuse l D cI cZ cR x r t im tx ch ro rf pl ot cl hi F (-6)  s.heap.size) (cwV 1 hts gX5_letter_X5_refuse rfl rfl rfl (by decide +kernel) ⟨Nat.le_of_ble_eq_true rfl, Nat.le_of_ble_eq_true rfl⟩) hK hN hP hD hS hA 0 5 rfl rfl rfl [0, 1] [2, 3] rfl (by decide) rfl (by decide) (by decide) rfl hl.1 rfl (Nat.le_of_ble_eq_true rfl) dX5_letter_31 ⟨Nat.zero_le _, Nat.zero_le _⟩ (fun r_31 u H locs hw hP hD hS => ?_)
        obtain ⟨F_31, rfl⟩ : ∃ z, z = u := ⟨_, rfl⟩
        try dsimp only at hw
        obtain ⟨q1_31, q2_31⟩ := hw
        have q1_31 := q1_31.symm
        subst q1_31
        have q2_31 := q2_31.symm
        subst q2_31
        have hP : va_P D vwCl [(x, .inr (5, [.ref r, .ref t, .ref im, .int hi, .ref tx, .ref ch, .ref ro, .ref rf, .ref pl, .ref ot, .ref cl])), (rf, .inl (cI, 6, .inl (rf_bump F (-6)))), (tx, .inr (4, [.int tz, .ref tn])), (tn, .inl (cI, 72, .inl tf))] H := hP.sub [2, 3, 0, 1] rfl
        have hD : va_D A [(x, .inr (5, [.ref r, .ref t, .ref im, .int hi, .ref tx, .ref ch, .ref ro, .ref rf, .ref pl, .ref ot, .ref cl])), (rf, .inl (cI, 6, .inl (rf_bump F (-6)))), (tx, .inr (4, [.int tz, .ref tn])), (tn, .inl (cI, 72, .inl tf))] := hD.sub [2, 3, 0, 1] (by decide) rfl
        exact wrI (w1 := (fun (u : (Nat → Int32) × Int32 × (Nat → Int32)) => [(x, .inr (5, [.ref r, .ref t, .ref im, .int hi, .ref tx, .ref ch, .ref ro, .ref rf, .ref pl, .ref ot, .ref cl])), (rf, .inl (cI, 6, .inl u.1)), (tx, .inr (4, [.int u.2.1, .ref tn])), (tn, .inl (cI, 72, .inl u.2.2))])) ((rf_bump F (-6)), tz, tf) hx hb hr hlocks dX5_letter_34 hS (hP.sub [0, 1, 2, 3] rfl) (hD.sub [0, 1, 2, 3] (by decide) rfl) (by simp [rf_let, c_1, Int32.not_lt.mpr c_1, c_15, Int32.not_lt.mp c_15, c_25])
  · skip
    refine lv_aload_n hx hb dX5_letter_4 rfl (lv_at hl 0 rfl) ?_
    refine lv_bipush (v := (-4)) hx hb dX5_letter_5 (by decide) ?_
    refine wrVi (As := [.int (-4)]) (rest := []) (wr := [(tx, .inr (4, [.int tz, .ref tn])), (tn, .inl (cI, 72, .inl tf))]) (A := A) ⟨hx, hb, hml, hown, hts⟩ (c_X5_refuse l D cI cZ cR x r t im tx ch ro rf pl ot cl hi F (-4)  s.heap.size) (cwV 1 hts gX5_letter_X5_refuse rfl rfl rfl (by decide +kernel) ⟨Nat.le_of_ble_eq_true rfl, Nat.le_of_ble_eq_true rfl⟩) hK hN hP hD hS hA 0 5 rfl rfl rfl [0, 1] [2, 3] rfl (by decide) rfl (by decide) (by decide) rfl hl.1 rfl (Nat.le_of_ble_eq_true rfl) dX5_letter_7 ⟨Nat.zero_le _, Nat.zero_le _⟩ (fun r_7 u H locs hw hP hD hS => ?_)
    obtain ⟨F_7, rfl⟩ : ∃ z, z = u := ⟨_, rfl⟩
    try dsimp only at hw
    obtain ⟨q1_7, q2_7⟩ := hw
    have q1_7 := q1_7.symm
    subst q1_7
    have q2_7 := q2_7.symm
    subst q2_7
    have hP : va_P D vwCl [(x, .inr (5, [.ref r, .ref t, .ref im, .int hi, .ref tx, .ref ch, .ref ro, .ref rf, .ref pl, .ref ot, .ref cl])), (rf, .inl (cI, 6, .inl (rf_bump F (-4)))), (tx, .inr (4, [.int tz, .ref tn])), (tn, .inl (cI, 72, .inl tf))] H := hP.sub [2, 3, 0, 1] rfl
    have hD : va_D A [(x, .inr (5, [.ref r, .ref t, .ref im, .int hi, .ref tx, .ref ch, .ref ro, .ref rf, .ref pl, .ref ot, .ref cl])), (rf, .inl (cI, 6, .inl (rf_bump F (-4)))), (tx, .inr (4, [.int tz, .ref tn])), (tn, .inl (cI, 72, .inl tf))] := hD.sub [2, 3, 0, 1] (by decide) rfl
    exact wrI (w1 := (fun (u : (Nat → Int32) × Int32 × (Nat → Int32)) => [(x, .inr (5, [.ref r, .ref t, .ref im, .int hi, .ref tx, .ref ch, .ref ro, .ref rf, .ref pl, .ref ot, .ref cl])), (rf, .inl (cI, 6, .inl u.1)), (tx, .inr (4, [.int u.2.1, .ref tn])), (tn, .inl (cI, 72, .inl u.2.2))])) ((rf_bump F (-4)), tz, tf) hx hb hr hlocks dX5_letter_10 hS (hP.sub [0, 1, 2, 3] rfl) (hD.sub [0, 1, 2, 3] (by decide) rfl) (by simp [rf_let, c_1, Int32.not_le.mp c_1])

set_option maxHeartbeats 4000000 in
set_option maxRecDepth 100000 in
theorem c_X5_circle (l : Launch) (D : va_G) (cI cZ cR : ClassId) (x r t im tx ch ro rf pl ot cl : Nat) (hi : Int32) (F : Nat → Int32) (rn : Nat) (q nw : Int32) (v : Nat → Int32) (cn : Nat) (cz : Int32) (cf : Nat → Int32) (n : Int32) (sz : Nat) : Met l yX5_circle wsX5_circle ({ frames := 3, cells := 0, slots := 0, locals := 66 }) (PcW D cI cZ cR [.ref x, .int n] [(x, .inr (5, [.ref r, .ref t, .ref im, .int hi, .ref tx, .ref ch, .ref ro, .ref rf, .ref pl, .ref ot, .ref cl])), (rf, .inl (cI, 6, .inl F)), (r, .inr (1, [.int q, .int nw, .ref rn])), (rn, .inl (cI, 20, .inl v)), (ch, .inr (0, [.int cz, .ref cn])), (cn, .inl (cI, 48, .inl cf))] sz) (va_Qi (fun (res : Int32) (u : (Nat → Int32) × Int32 × Int32) => res = (if rf_cir v nw n = 0 then q else rf_cir v nw n) ∧ u.1 = (if rf_cir v nw n = 0 then F else rf_bump F (rf_cir v nw n)) ∧ u.2.1 = (if rf_cir v nw n = 0 then n else q) ∧ u.2.2 = (if rf_cir v nw n = 0 then 0 else cz)) (Bw D (fun (u : (Nat → Int32) × Int32 × Int32) => [(x, .inr (5, [.ref r, .ref t, .ref im, .int hi, .ref tx, .ref ch, .ref ro, .ref rf, .ref pl, .ref ot, .ref cl])), (rf, .inl (cI, 6, .inl u.1)), (r, .inr (1, [.int u.2.1, .int nw, .ref rn])), (rn, .inl (cI, 20, .inl v)), (ch, .inr (0, [.int u.2.2, .ref cn])), (cn, .inl (cI, 48, .inl cf))]) (va_A [(x, .inr (5, [.ref r, .ref t, .ref im, .int hi, .ref tx, .ref ch, .ref ro, .ref rf, .ref pl, .ref ot, .ref cl])), (rf, .inl (cI, 6, .inl F)), (r, .inr (1, [.int q, .int nw, .ref rn])), (rn, .inl (cI, 20, .inl v)), (ch, .inr (0, [.int cz, .ref cn])), (cn, .inl (cI, 48, .inl cf))] sz)) (va_A [(x, .inr (5, [.ref r, .ref t, .ref im, .int hi, .ref tx, .ref ch, .ref ro, .ref rf, .ref pl, .ref ot, .ref cl])), (rf, .inl (cI, 6, .inl F)), (r, .inr (1, [.int q, .int nw, .ref rn])), (rn, .inl (cI, 20, .inl v)), (ch, .inr (0, [.int cz, .ref cn])), (cn, .inl (cI, 48, .inl cf))] sz)) 0 0 (va_A [(x, .inr (5, [.ref r, .ref t, .ref im, .int hi, .ref tx, .ref ch, .ref ro, .ref rf, .ref pl, .ref ot, .ref cl])), (rf, .inl (cI, 6, .inl F)), (r, .inr (1, [.int q, .int nw, .ref rn])), (rn, .inl (cI, 20, .inl v)), (ch, .inr (0, [.int cz, .ref cn])), (cn, .inl (cI, 48, .inl cf))] sz) := by
  refine Met.ofW (cc := cX5_circle) (maxL := 3) (ret := (some .int)) (by decide) rfl ?_
  intro p e s m args below meth c s₁ B hml hv
  obtain ⟨rfl, hsz, hP, hK, hD0, hN⟩ := hv
  have hx := B.exec
  have hb := B.bytes
  have hr := B.returns
  have hts := atoms_spec (ws := wsX5_circle) B.pre
  have hown : s.vm.findClass RX5 = some m.cls := findClass_of_methodNamed B.named
  have hlocks := B.notSynchronized
  subst hsz
  have hD := hD0.self (sz := s.heap.size)
  generalize hAe : va_A [(x, .inr (5, [.ref r, .ref t, .ref im, .int hi, .ref tx, .ref ch, .ref ro, .ref rf, .ref pl, .ref ot, .ref cl])), (rf, .inl (cI, 6, .inl F)), (r, .inr (1, [.int q, .int nw, .ref rn])), (rn, .inl (cI, 20, .inl v)), (ch, .inr (0, [.int cz, .ref cn])), (cn, .inl (cI, 48, .inl cf))] s.heap.size = A at hD ⊢
  have hA : ∀ q : Nat, s.heap.size ≤ q → A q := fun q h => by rw [← hAe]; exact Or.inr h
  have hS : va_S A s.heap s.heap [] := va_S.rf
  have hP : va_P D vwCl [(x, .inr (5, [.ref r, .ref t, .ref im, .int hi, .ref tx, .ref ch, .ref ro, .ref rf, .ref pl, .ref ot, .ref cl])), (rf, .inl (cI, 6, .inl F)), (r, .inr (1, [.int q, .int nw, .ref rn])), (rn, .inl (cI, 20, .inl v)), (ch, .inr (0, [.int cz, .ref cn])), (cn, .inl (cI, 48, .inl cf))] s.heap := hP
  have hl := lv_entry ([.ref x, .int n]) (n := 3) (Nat.le_of_ble_eq_true rfl)
  rw [lg_entry_eq]
  generalize (lg_sl ([.ref x, .int n]) ++ List.replicate (3 - (lg_sl ([.ref x, .int n])).length) Slot.unset).toArray = ls at hl ⊢
  have hl : lv_has ls 3 [(0, .ref x), (1, .int n)] := hl
  refine lv_iload_n hx hb dX5_circle_0 rfl (lv_at hl 1 rfl) ?_
  refine lv_iconst (v := 2) hx hb dX5_circle_1 (by decide) ?_
  refine lv_icmp_ge (tgt := 12) hx hb dX5_circle_2 (by decide) (fun c_2 => ?_) (fun c_2 => ?_)
  · skip
    refine lv_iload_n hx hb dX5_circle_12 rfl (lv_at hl 1 rfl) ?_
    refine lv_sipush (v := 2000) hx hb dX5_circle_13 (by decide) ?_
    refine lv_icmp_le (tgt := 26) hx hb dX5_circle_16 (by decide) (fun c_16 => ?_) (fun c_16 => ?_)
    · skip
      refine lv_aload_n hx hb dX5_circle_26 rfl (lv_at hl 0 rfl) ?_
      refine va_get (D := D) (ci := 5) (v := .ref r) (C := RX5) (T := TX5) (N := 11) hx hb hts (in_X5_circle_X5) hown hK hP 0 rfl rfl 0 (by decide) (hts (.fieldLink RX5 10 "StepsRoundCircle" "ring" "LStepsRoundCircle$Ring;") (by decide +kernel)) (fun _ h9 => h9) rfl dX5_circle_27 ?_
      refine lv_iload_n hx hb dX5_circle_30 rfl (lv_at hl 1 rfl) ?_
      refine rdV (As := [.int n]) (rest := []) ⟨hx, hb, hml, hown, hts⟩ (c_X1_allBelow l D cI cZ cR r rn q nw v n ) (cwV 1 hts gX5_circle_X1_allBelow rfl rfl rfl (by decide +kernel) ⟨Nat.le_of_ble_eq_true rfl, Nat.le_of_ble_eq_true rfl⟩) hK hN hP 2 1 rfl rfl rfl [2, 3] rfl rfl hl.1 rfl (Nat.le_of_ble_eq_true rfl) dX5_circle_31 ⟨Nat.zero_le _, Nat.zero_le _⟩ ?_
      refine lv_if_ne (tgt := 44) hx hb dX5_circle_34 (by decide) (fun c_34 => ?_) (fun c_34 => ?_)
      · skip
        have c_34 := bi_ne0.mp c_34
        refine lv_aload_n hx hb dX5_circle_44 rfl (lv_at hl 0 rfl) ?_
        refine va_get (D := D) (ci := 5) (v := .ref r) (C := RX5) (T := TX5) (N := 11) hx hb hts (in_X5_circle_X5) hown hK hP 0 rfl rfl 0 (by decide) (hts (.fieldLink RX5 10 "StepsRoundCircle" "ring" "LStepsRoundCircle$Ring;") (by decide +kernel)) (fun _ h9 => h9) rfl dX5_circle_45 ?_
        refine va_get (D := D) (ci := 1) (v := .int q) (C := RX1) (T := TX1) (N := 3) hx hb hts (in_X5_circle_X1) hown hK hP 2 rfl rfl 0 (by decide) (hts (.fieldLink RX5 91 "StepsRoundCircle$Ring" "size" "I") (by decide +kernel)) (fun _ h9 => h9) rfl dX5_circle_48 ?_
        refine lv_istore_n (lv' := [(2, .int q), (0, .ref x), (1, .int n)]) hx hb dX5_circle_51 rfl hl (by decide) rfl (fun ls hl => ?_)
        refine lv_aload_n hx hb dX5_circle_52 rfl (lv_at hl 1 rfl) ?_
        refine va_get (D := D) (ci := 5) (v := .ref r) (C := RX5) (T := TX5) (N := 11) hx hb hts (in_X5_circle_X5) hown hK hP 0 rfl rfl 0 (by decide) (hts (.fieldLink RX5 10 "StepsRoundCircle" "ring" "LStepsRoundCircle$Ring;") (by decide +kernel)) (fun _ h9 => h9) rfl dX5_circle_53 ?_
        refine lv_iload_n hx hb dX5_circle_56 rfl (lv_at hl 2 rfl) ?_
        refine va_put (D := D) (ci := 1) (v := .int n) (ty := .int) (C := RX1) (T := TX1) (N := 3) hx hb hts (in_X5_circle_X1) tyX1 tyX1_ok nmX1 hown hK hP hD hS 2 rfl rfl 0 (by decide) (hts (.fieldLink RX5 91 "StepsRoundCircle$Ring" "size" "I") (by decide +kernel)) (fun _ h9 => h9) rfl (by decide +kernel) rfl rfl (Nat.le_of_ble_eq_true rfl) dX5_circle_57 (fun H locs hP hD hS => ?_)
        have hP : va_P D vwCl [(x, .inr (5, [.ref r, .ref t, .ref im, .int hi, .ref tx, .ref ch, .ref ro, .ref rf, .ref pl, .ref ot, .ref cl])), (rf, .inl (cI, 6, .inl F)), (r, .inr (1, [.int n, .int nw, .ref rn])), (rn, .inl (cI, 20, .inl v)), (ch, .inr (0, [.int cz, .ref cn])), (cn, .inl (cI, 48, .inl cf))] H := hP
        have hD : va_D A [(x, .inr (5, [.ref r, .ref t, .ref im, .int hi, .ref tx, .ref ch, .ref ro, .ref rf, .ref pl, .ref ot, .ref cl])), (rf, .inl (cI, 6, .inl F)), (r, .inr (1, [.int n, .int nw, .ref rn])), (rn, .inl (cI, 20, .inl v)), (ch, .inr (0, [.int cz, .ref cn])), (cn, .inl (cI, 48, .inl cf))] := hD
        refine lv_aload_n hx hb dX5_circle_60 rfl (lv_at hl 1 rfl) ?_
        refine va_get (D := D) (ci := 5) (v := .ref ch) (C := RX5) (T := TX5) (N := 11) hx hb hts (in_X5_circle_X5) hown hK hP 0 rfl rfl 5 (by decide) (hts (.fieldLink RX5 36 "StepsRoundCircle" "changes" "LStepsRoundCircle$Changes;") (by decide +kernel)) (fun _ h9 => h9) rfl dX5_circle_61 ?_
        refine wrVv (As := []) (rest := []) (wr := [(x, .inr (5, [.ref r, .ref t, .ref im, .int hi, .ref tx, .ref ch, .ref ro, .ref rf, .ref pl, .ref ot, .ref cl])), (rf, .inl (cI, 6, .inl F)), (r, .inr (1, [.int n, .int nw, .ref rn])), (rn, .inl (cI, 20, .inl v))]) (A := A) ⟨hx, hb, hml, hown, hts⟩ (c_X0_clear l D cI cZ cR ch cn cz cf  H.size) (cwV 0 hts gX5_circle_X0_clear rfl rfl rfl (by decide +kernel) ⟨Nat.le_of_ble_eq_true rfl, Nat.le_of_ble_eq_true rfl⟩) hK hN hP hD hS hA 4 0 rfl rfl rfl [4, 5] [0, 1, 2, 3] rfl (by decide) rfl (by decide) (by decide) rfl hl.1 rfl (Nat.le_of_ble_eq_true rfl) dX5_circle_64 ⟨Nat.zero_le _, Nat.zero_le _⟩ (fun u H locs hw hP hD hS => ?_)
        obtain ⟨z_64, rfl⟩ : ∃ z, z = u := ⟨_, rfl⟩
        try dsimp only at hw
        have q1_64 := hw
        have q1_64 := q1_64.symm
        subst q1_64
        have hP : va_P D vwCl [(x, .inr (5, [.ref r, .ref t, .ref im, .int hi, .ref tx, .ref ch, .ref ro, .ref rf, .ref pl, .ref ot, .ref cl])), (rf, .inl (cI, 6, .inl F)), (r, .inr (1, [.int n, .int nw, .ref rn])), (rn, .inl (cI, 20, .inl v)), (ch, .inr (0, [.int 0, .ref cn])), (cn, .inl (cI, 48, .inl cf))] H := hP.sub [0, 1, 2, 3, 4, 5] rfl
        have hD : va_D A [(x, .inr (5, [.ref r, .ref t, .ref im, .int hi, .ref tx, .ref ch, .ref ro, .ref rf, .ref pl, .ref ot, .ref cl])), (rf, .inl (cI, 6, .inl F)), (r, .inr (1, [.int n, .int nw, .ref rn])), (rn, .inl (cI, 20, .inl v)), (ch, .inr (0, [.int 0, .ref cn])), (cn, .inl (cI, 48, .inl cf))] := hD.sub [0, 1, 2, 3, 4, 5] (by decide) rfl
        refine lv_iload_n hx hb dX5_circle_67 rfl (lv_at hl 0 rfl) ?_
        exact wrI (w1 := (fun (u : (Nat → Int32) × Int32 × Int32) => [(x, .inr (5, [.ref r, .ref t, .ref im, .int hi, .ref tx, .ref ch, .ref ro, .ref rf, .ref pl, .ref ot, .ref cl])), (rf, .inl (cI, 6, .inl u.1)), (r, .inr (1, [.int u.2.1, .int nw, .ref rn])), (rn, .inl (cI, 20, .inl v)), (ch, .inr (0, [.int u.2.2, .ref cn])), (cn, .inl (cI, 48, .inl cf))])) (F, n, 0) hx hb hr hlocks dX5_circle_68 hS (hP.sub [0, 1, 2, 3, 4, 5] rfl) (hD.sub [0, 1, 2, 3, 4, 5] (by decide) rfl) (by have e9 : rf_cir v nw n = 0 := (by unfold rf_cir; rw [if_neg (Int32.not_lt.mpr c_2), if_neg (Int32.not_lt.mpr c_16), if_pos c_34]); simp [e9])
      · skip
        have c_34 := bi_eq0.mp c_34
        refine lv_aload_n hx hb dX5_circle_37 rfl (lv_at hl 0 rfl) ?_
        refine lv_bipush (v := (-3)) hx hb dX5_circle_38 (by decide) ?_
        refine wrVi (As := [.int (-3)]) (rest := []) (wr := [(r, .inr (1, [.int q, .int nw, .ref rn])), (rn, .inl (cI, 20, .inl v)), (ch, .inr (0, [.int cz, .ref cn])), (cn, .inl (cI, 48, .inl cf))]) (A := A) ⟨hx, hb, hml, hown, hts⟩ (c_X5_refuse l D cI cZ cR x r t im tx ch ro rf pl ot cl hi F (-3)  s.heap.size) (cwV 1 hts gX5_circle_X5_refuse rfl rfl rfl (by decide +kernel) ⟨Nat.le_of_ble_eq_true rfl, Nat.le_of_ble_eq_true rfl⟩) hK hN hP hD hS hA 0 5 rfl rfl rfl [0, 1] [2, 3, 4, 5] rfl (by decide) rfl (by decide) (by decide) rfl hl.1 rfl (Nat.le_of_ble_eq_true rfl) dX5_circle_40 ⟨Nat.zero_le _, Nat.zero_le _⟩ (fun r_40 u H locs hw hP hD hS => ?_)
        obtain ⟨F_40, rfl⟩ : ∃ z, z = u := ⟨_, rfl⟩
        try dsimp only at hw
        obtain ⟨q1_40, q2_40⟩ := hw
        have q1_40 := q1_40.symm
        subst q1_40
        have q2_40 := q2_40.symm
        subst q2_40
        have hP : va_P D vwCl [(x, .inr (5, [.ref r, .ref t, .ref im, .int hi, .ref tx, .ref ch, .ref ro, .ref rf, .ref pl, .ref ot, .ref cl])), (rf, .inl (cI, 6, .inl (rf_bump F (-3)))), (r, .inr (1, [.int q, .int nw, .ref rn])), (rn, .inl (cI, 20, .inl v)), (ch, .inr (0, [.int cz, .ref cn])), (cn, .inl (cI, 48, .inl cf))] H := hP.sub [4, 5, 0, 1, 2, 3] rfl
        have hD : va_D A [(x, .inr (5, [.ref r, .ref t, .ref im, .int hi, .ref tx, .ref ch, .ref ro, .ref rf, .ref pl, .ref ot, .ref cl])), (rf, .inl (cI, 6, .inl (rf_bump F (-3)))), (r, .inr (1, [.int q, .int nw, .ref rn])), (rn, .inl (cI, 20, .inl v)), (ch, .inr (0, [.int cz, .ref cn])), (cn, .inl (cI, 48, .inl cf))] := hD.sub [4, 5, 0, 1, 2, 3] (by decide) rfl
        exact wrI (w1 := (fun (u : (Nat → Int32) × Int32 × Int32) => [(x, .inr (5, [.ref r, .ref t, .ref im, .int hi, .ref tx, .ref ch, .ref ro, .ref rf, .ref pl, .ref ot, .ref cl])), (rf, .inl (cI, 6, .inl u.1)), (r, .inr (1, [.int u.2.1, .int nw, .ref rn])), (rn, .inl (cI, 20, .inl v)), (ch, .inr (0, [.int u.2.2, .ref cn])), (cn, .inl (cI, 48, .inl cf))])) ((rf_bump F (-3)), q, cz) hx hb hr hlocks dX5_circle_43 hS (hP.sub [0, 1, 2, 3, 4, 5] rfl) (hD.sub [0, 1, 2, 3, 4, 5] (by decide) rfl) (by have e9 : rf_cir v nw n = -3 := (by unfold rf_cir; rw [if_neg (Int32.not_lt.mpr c_2), if_neg (Int32.not_lt.mpr c_16), if_neg c_34]); simp [e9])
    · skip
      refine lv_aload_n hx hb dX5_circle_19 rfl (lv_at hl 0 rfl) ?_
      refine lv_bipush (v := (-6)) hx hb dX5_circle_20 (by decide) ?_
      refine wrVi (As := [.int (-6)]) (rest := []) (wr := [(r, .inr (1, [.int q, .int nw, .ref rn])), (rn, .inl (cI, 20, .inl v)), (ch, .inr (0, [.int cz, .ref cn])), (cn, .inl (cI, 48, .inl cf))]) (A := A) ⟨hx, hb, hml, hown, hts⟩ (c_X5_refuse l D cI cZ cR x r t im tx ch ro rf pl ot cl hi F (-6)  s.heap.size) (cwV 1 hts gX5_circle_X5_refuse rfl rfl rfl (by decide +kernel) ⟨Nat.le_of_ble_eq_true rfl, Nat.le_of_ble_eq_true rfl⟩) hK hN hP hD hS hA 0 5 rfl rfl rfl [0, 1] [2, 3, 4, 5] rfl (by decide) rfl (by decide) (by decide) rfl hl.1 rfl (Nat.le_of_ble_eq_true rfl) dX5_circle_22 ⟨Nat.zero_le _, Nat.zero_le _⟩ (fun r_22 u H locs hw hP hD hS => ?_)
      obtain ⟨F_22, rfl⟩ : ∃ z, z = u := ⟨_, rfl⟩
      try dsimp only at hw
      obtain ⟨q1_22, q2_22⟩ := hw
      have q1_22 := q1_22.symm
      subst q1_22
      have q2_22 := q2_22.symm
      subst q2_22
      have hP : va_P D vwCl [(x, .inr (5, [.ref r, .ref t, .ref im, .int hi, .ref tx, .ref ch, .ref ro, .ref rf, .ref pl, .ref ot, .ref cl])), (rf, .inl (cI, 6, .inl (rf_bump F (-6)))), (r, .inr (1, [.int q, .int nw, .ref rn])), (rn, .inl (cI, 20, .inl v)), (ch, .inr (0, [.int cz, .ref cn])), (cn, .inl (cI, 48, .inl cf))] H := hP.sub [4, 5, 0, 1, 2, 3] rfl
      have hD : va_D A [(x, .inr (5, [.ref r, .ref t, .ref im, .int hi, .ref tx, .ref ch, .ref ro, .ref rf, .ref pl, .ref ot, .ref cl])), (rf, .inl (cI, 6, .inl (rf_bump F (-6)))), (r, .inr (1, [.int q, .int nw, .ref rn])), (rn, .inl (cI, 20, .inl v)), (ch, .inr (0, [.int cz, .ref cn])), (cn, .inl (cI, 48, .inl cf))] := hD.sub [4, 5, 0, 1, 2, 3] (by decide) rfl
      exact wrI (w1 := (fun (u : (Nat → Int32) × Int32 × Int32) => [(x, .inr (5, [.ref r, .ref t, .ref im, .int hi, .ref tx, .ref ch, .ref ro, .ref rf, .ref pl, .ref ot, .ref cl])), (rf, .inl (cI, 6, .inl u.1)), (r, .inr (1, [.int u.2.1, .int nw, .ref rn])), (rn, .inl (cI, 20, .inl v)), (ch, .inr (0, [.int u.2.2, .ref cn])), (cn, .inl (cI, 48, .inl cf))])) ((rf_bump F (-6)), q, cz) hx hb hr hlocks dX5_circle_25 hS (hP.sub [0, 1, 2, 3, 4, 5] rfl) (hD.sub [0, 1, 2, 3, 4, 5] (by decide) rfl) (by first | exact ⟨rfl, rfl⟩ | rfl | (simp [bi, rf_cir, c_2, Int32.not_lt.mpr c_2, c_16, Int32.not_le.mp c_16]; done))
  · skip
    refine lv_aload_n hx hb dX5_circle_5 rfl (lv_at hl 0 rfl) ?_
    refine lv_bipush (v := (-4)) hx hb dX5_circle_6 (by decide) ?_
    refine wrVi (As := [.int (-4)]) (rest := []) (wr := [(r, .inr (1, [.int q, .int nw, .ref rn])), (rn, .inl (cI, 20, .inl v)), (ch, .inr (0, [.int cz, .ref cn])), (cn, .inl (cI, 48, .inl cf))]) (A := A) ⟨hx, hb, hml, hown, hts⟩ (c_X5_refuse l D cI cZ cR x r t im tx ch ro rf pl ot cl hi F (-4)  s.heap.size) (cwV 1 hts gX5_circle_X5_refuse rfl rfl rfl (by decide +kernel) ⟨Nat.le_of_ble_eq_true rfl, Nat.le_of_ble_eq_true rfl⟩) hK hN hP hD hS hA 0 5 rfl rfl rfl [0, 1] [2, 3, 4, 5] rfl (by decide) rfl (by decide) (by decide) rfl hl.1 rfl (Nat.le_of_ble_eq_true rfl) dX5_circle_8 ⟨Nat.zero_le _, Nat.zero_le _⟩ (fun r_8 u H locs hw hP hD hS => ?_)
    obtain ⟨F_8, rfl⟩ : ∃ z, z = u := ⟨_, rfl⟩
    try dsimp only at hw
    obtain ⟨q1_8, q2_8⟩ := hw
    have q1_8 := q1_8.symm
    subst q1_8
    have q2_8 := q2_8.symm
    subst q2_8
    have hP : va_P D vwCl [(x, .inr (5, [.ref r, .ref t, .ref im, .int hi, .ref tx, .ref ch, .ref ro, .ref rf, .ref pl, .ref ot, .ref cl])), (rf, .inl (cI, 6, .inl (rf_bump F (-4)))), (r, .inr (1, [.int q, .int nw, .ref rn])), (rn, .inl (cI, 20, .inl v)), (ch, .inr (0, [.int cz, .ref cn])), (cn, .inl (cI, 48, .inl cf))] H := hP.sub [4, 5, 0, 1, 2, 3] rfl
    have hD : va_D A [(x, .inr (5, [.ref r, .ref t, .ref im, .int hi, .ref tx, .ref ch, .ref ro, .ref rf, .ref pl, .ref ot, .ref cl])), (rf, .inl (cI, 6, .inl (rf_bump F (-4)))), (r, .inr (1, [.int q, .int nw, .ref rn])), (rn, .inl (cI, 20, .inl v)), (ch, .inr (0, [.int cz, .ref cn])), (cn, .inl (cI, 48, .inl cf))] := hD.sub [4, 5, 0, 1, 2, 3] (by decide) rfl
    exact wrI (w1 := (fun (u : (Nat → Int32) × Int32 × Int32) => [(x, .inr (5, [.ref r, .ref t, .ref im, .int hi, .ref tx, .ref ch, .ref ro, .ref rf, .ref pl, .ref ot, .ref cl])), (rf, .inl (cI, 6, .inl u.1)), (r, .inr (1, [.int u.2.1, .int nw, .ref rn])), (rn, .inl (cI, 20, .inl v)), (ch, .inr (0, [.int u.2.2, .ref cn])), (cn, .inl (cI, 48, .inl cf))])) ((rf_bump F (-4)), q, cz) hx hb hr hlocks dX5_circle_11 hS (hP.sub [0, 1, 2, 3, 4, 5] rfl) (hD.sub [0, 1, 2, 3, 4, 5] (by decide) rfl) (by first | exact ⟨rfl, rfl⟩ | rfl | (simp [bi, rf_cir, c_2, Int32.not_le.mp c_2]; done))

set_option maxHeartbeats 4000000 in
set_option maxRecDepth 100000 in
theorem c_X5_walker (l : Launch) (D : va_G) (cI cZ cR : ClassId) (x r t im tx ch ro rf pl ot cl : Nat) (hi : Int32) (F : Nat → Int32) (rn : Nat) (q nw : Int32) (v : Nat → Int32) (cn : Nat) (cz : Int32) (cf : Nat → Int32) (x0 x1 x2 x3 : Int32) (sz : Nat) : Met l yX5_walker wsX5_walker ({ frames := 3, cells := 0, slots := 0, locals := 69 }) (PcW D cI cZ cR [.ref x, .int x0, .int x1, .int x2, .int x3] [(x, .inr (5, [.ref r, .ref t, .ref im, .int hi, .ref tx, .ref ch, .ref ro, .ref rf, .ref pl, .ref ot, .ref cl])), (rf, .inl (cI, 6, .inl F)), (r, .inr (1, [.int q, .int nw, .ref rn])), (rn, .inl (cI, 20, .inl v)), (ch, .inr (0, [.int cz, .ref cn])), (cn, .inl (cI, 48, .inl cf))] sz) (va_Qi (fun (res : Int32) (u : (Nat → Int32) × Int32 × (Nat → Int32) × Int32) => res = (if rf_wal q nw x0 x1 x2 x3 = 0 then nw + 1 - 1 else rf_wal q nw x0 x1 x2 x3) ∧ u.1 = (if rf_wal q nw x0 x1 x2 x3 = 0 then F else rf_bump F (rf_wal q nw x0 x1 x2 x3)) ∧ u.2.1 = (if rf_wal q nw x0 x1 x2 x3 = 0 then nw + 1 else nw) ∧ u.2.2.1 = (if rf_wal q nw x0 x1 x2 x3 = 0 then wadd v nw x0 x1 x2 x3 else v) ∧ u.2.2.2 = (if rf_wal q nw x0 x1 x2 x3 = 0 then 0 else cz)) (Bw D (fun (u : (Nat → Int32) × Int32 × (Nat → Int32) × Int32) => [(x, .inr (5, [.ref r, .ref t, .ref im, .int hi, .ref tx, .ref ch, .ref ro, .ref rf, .ref pl, .ref ot, .ref cl])), (rf, .inl (cI, 6, .inl u.1)), (r, .inr (1, [.int q, .int u.2.1, .ref rn])), (rn, .inl (cI, 20, .inl u.2.2.1)), (ch, .inr (0, [.int u.2.2.2, .ref cn])), (cn, .inl (cI, 48, .inl cf))]) (va_A [(x, .inr (5, [.ref r, .ref t, .ref im, .int hi, .ref tx, .ref ch, .ref ro, .ref rf, .ref pl, .ref ot, .ref cl])), (rf, .inl (cI, 6, .inl F)), (r, .inr (1, [.int q, .int nw, .ref rn])), (rn, .inl (cI, 20, .inl v)), (ch, .inr (0, [.int cz, .ref cn])), (cn, .inl (cI, 48, .inl cf))] sz)) (va_A [(x, .inr (5, [.ref r, .ref t, .ref im, .int hi, .ref tx, .ref ch, .ref ro, .ref rf, .ref pl, .ref ot, .ref cl])), (rf, .inl (cI, 6, .inl F)), (r, .inr (1, [.int q, .int nw, .ref rn])), (rn, .inl (cI, 20, .inl v)), (ch, .inr (0, [.int cz, .ref cn])), (cn, .inl (cI, 48, .inl cf))] sz)) 0 0 (va_A [(x, .inr (5, [.ref r, .ref t, .ref im, .int hi, .ref tx, .ref ch, .ref ro, .ref rf, .ref pl, .ref ot, .ref cl])), (rf, .inl (cI, 6, .inl F)), (r, .inr (1, [.int q, .int nw, .ref rn])), (rn, .inl (cI, 20, .inl v)), (ch, .inr (0, [.int cz, .ref cn])), (cn, .inl (cI, 48, .inl cf))] sz) := by
  refine Met.ofW (cc := cX5_walker) (maxL := 5) (ret := (some .int)) (by decide) rfl ?_
  intro p e s m args below meth c s₁ B hml hv
  obtain ⟨rfl, hsz, hP, hK, hD0, hN⟩ := hv
  have hx := B.exec
  have hb := B.bytes
  have hr := B.returns
  have hts := atoms_spec (ws := wsX5_walker) B.pre
  have hown : s.vm.findClass RX5 = some m.cls := findClass_of_methodNamed B.named
  have hlocks := B.notSynchronized
  subst hsz
  have hD := hD0.self (sz := s.heap.size)
  generalize hAe : va_A [(x, .inr (5, [.ref r, .ref t, .ref im, .int hi, .ref tx, .ref ch, .ref ro, .ref rf, .ref pl, .ref ot, .ref cl])), (rf, .inl (cI, 6, .inl F)), (r, .inr (1, [.int q, .int nw, .ref rn])), (rn, .inl (cI, 20, .inl v)), (ch, .inr (0, [.int cz, .ref cn])), (cn, .inl (cI, 48, .inl cf))] s.heap.size = A at hD ⊢
  have hA : ∀ q : Nat, s.heap.size ≤ q → A q := fun q h => by rw [← hAe]; exact Or.inr h
  have hS : va_S A s.heap s.heap [] := va_S.rf
  have hP : va_P D vwCl [(x, .inr (5, [.ref r, .ref t, .ref im, .int hi, .ref tx, .ref ch, .ref ro, .ref rf, .ref pl, .ref ot, .ref cl])), (rf, .inl (cI, 6, .inl F)), (r, .inr (1, [.int q, .int nw, .ref rn])), (rn, .inl (cI, 20, .inl v)), (ch, .inr (0, [.int cz, .ref cn])), (cn, .inl (cI, 48, .inl cf))] s.heap := hP
  have hl := lv_entry ([.ref x, .int x0, .int x1, .int x2, .int x3]) (n := 5) (Nat.le_of_ble_eq_true rfl)
  rw [lg_entry_eq]
  generalize (lg_sl ([.ref x, .int x0, .int x1, .int x2, .int x3]) ++ List.replicate (5 - (lg_sl ([.ref x, .int x0, .int x1, .int x2, .int x3])).length) Slot.unset).toArray = ls at hl ⊢
  have hl : lv_has ls 5 [(0, .ref x), (1, .int x0), (2, .int x1), (3, .int x2), (4, .int x3)] := hl
  refine lv_iload_n hx hb dX5_walker_0 rfl (lv_at hl 1 rfl) ?_
  refine rdS (As := [.int x0]) (rest := []) ⟨hx, hb, hml, hown, hts⟩ (c_X5_isKind l D cI cZ cR x0 ) (va_cwS 1 hts gX5_walker_X5_isKind rfl rfl rfl (by decide +kernel) ⟨Nat.le_of_ble_eq_true rfl, Nat.le_of_ble_eq_true rfl⟩) hK hN hP [] rfl rfl hl.1 rfl (Nat.le_of_ble_eq_true rfl) dX5_walker_1 ⟨Nat.zero_le _, Nat.zero_le _⟩ ?_
  refine lv_if_ne (tgt := 14) hx hb dX5_walker_4 (by decide) (fun c_4 => ?_) (fun c_4 => ?_)
  · skip
    have c_4 := bi_ne0.mp c_4
    refine lv_iload_n hx hb dX5_walker_14 rfl (lv_at hl 2 rfl) ?_
    refine lv_if_lt (tgt := 27) hx hb dX5_walker_15 (by decide) (fun c_15 => ?_) (fun c_15 => ?_)
    · skip
      refine lv_aload_n hx hb dX5_walker_27 rfl (lv_at hl 0 rfl) ?_
      refine lv_bipush (v := (-4)) hx hb dX5_walker_28 (by decide) ?_
      refine wrVi (As := [.int (-4)]) (rest := []) (wr := [(r, .inr (1, [.int q, .int nw, .ref rn])), (rn, .inl (cI, 20, .inl v)), (ch, .inr (0, [.int cz, .ref cn])), (cn, .inl (cI, 48, .inl cf))]) (A := A) ⟨hx, hb, hml, hown, hts⟩ (c_X5_refuse l D cI cZ cR x r t im tx ch ro rf pl ot cl hi F (-4)  s.heap.size) (cwV 1 hts gX5_walker_X5_refuse rfl rfl rfl (by decide +kernel) ⟨Nat.le_of_ble_eq_true rfl, Nat.le_of_ble_eq_true rfl⟩) hK hN hP hD hS hA 0 5 rfl rfl rfl [0, 1] [2, 3, 4, 5] rfl (by decide) rfl (by decide) (by decide) rfl hl.1 rfl (Nat.le_of_ble_eq_true rfl) dX5_walker_30 ⟨Nat.zero_le _, Nat.zero_le _⟩ (fun r_30 u H locs hw hP hD hS => ?_)
      obtain ⟨F_30, rfl⟩ : ∃ z, z = u := ⟨_, rfl⟩
      try dsimp only at hw
      obtain ⟨q1_30, q2_30⟩ := hw
      have q1_30 := q1_30.symm
      subst q1_30
      have q2_30 := q2_30.symm
      subst q2_30
      have hP : va_P D vwCl [(x, .inr (5, [.ref r, .ref t, .ref im, .int hi, .ref tx, .ref ch, .ref ro, .ref rf, .ref pl, .ref ot, .ref cl])), (rf, .inl (cI, 6, .inl (rf_bump F (-4)))), (r, .inr (1, [.int q, .int nw, .ref rn])), (rn, .inl (cI, 20, .inl v)), (ch, .inr (0, [.int cz, .ref cn])), (cn, .inl (cI, 48, .inl cf))] H := hP.sub [4, 5, 0, 1, 2, 3] rfl
      have hD : va_D A [(x, .inr (5, [.ref r, .ref t, .ref im, .int hi, .ref tx, .ref ch, .ref ro, .ref rf, .ref pl, .ref ot, .ref cl])), (rf, .inl (cI, 6, .inl (rf_bump F (-4)))), (r, .inr (1, [.int q, .int nw, .ref rn])), (rn, .inl (cI, 20, .inl v)), (ch, .inr (0, [.int cz, .ref cn])), (cn, .inl (cI, 48, .inl cf))] := hD.sub [4, 5, 0, 1, 2, 3] (by decide) rfl
      exact wrI (w1 := (fun (u : (Nat → Int32) × Int32 × (Nat → Int32) × Int32) => [(x, .inr (5, [.ref r, .ref t, .ref im, .int hi, .ref tx, .ref ch, .ref ro, .ref rf, .ref pl, .ref ot, .ref cl])), (rf, .inl (cI, 6, .inl u.1)), (r, .inr (1, [.int q, .int u.2.1, .ref rn])), (rn, .inl (cI, 20, .inl u.2.2.1)), (ch, .inr (0, [.int u.2.2.2, .ref cn])), (cn, .inl (cI, 48, .inl cf))])) ((rf_bump F (-4)), nw, v, cz) hx hb hr hlocks dX5_walker_33 hS (hP.sub [0, 1, 2, 3, 4, 5] rfl) (hD.sub [0, 1, 2, 3, 4, 5] (by decide) rfl) (by have e9 : rf_wal q nw x0 x1 x2 x3 = -4 := (by simp [rf_wal, c_4, c_15, Int32.not_le.mpr c_15]); simp [e9, wadd])
    · skip
      refine lv_iload_n hx hb dX5_walker_18 rfl (lv_at hl 3 rfl) ?_
      refine lv_if_lt (tgt := 27) hx hb dX5_walker_19 (by decide) (fun c_19 => ?_) (fun c_19 => ?_)
      · skip
        refine lv_aload_n hx hb dX5_walker_27 rfl (lv_at hl 0 rfl) ?_
        refine lv_bipush (v := (-4)) hx hb dX5_walker_28 (by decide) ?_
        refine wrVi (As := [.int (-4)]) (rest := []) (wr := [(r, .inr (1, [.int q, .int nw, .ref rn])), (rn, .inl (cI, 20, .inl v)), (ch, .inr (0, [.int cz, .ref cn])), (cn, .inl (cI, 48, .inl cf))]) (A := A) ⟨hx, hb, hml, hown, hts⟩ (c_X5_refuse l D cI cZ cR x r t im tx ch ro rf pl ot cl hi F (-4)  s.heap.size) (cwV 1 hts gX5_walker_X5_refuse rfl rfl rfl (by decide +kernel) ⟨Nat.le_of_ble_eq_true rfl, Nat.le_of_ble_eq_true rfl⟩) hK hN hP hD hS hA 0 5 rfl rfl rfl [0, 1] [2, 3, 4, 5] rfl (by decide) rfl (by decide) (by decide) rfl hl.1 rfl (Nat.le_of_ble_eq_true rfl) dX5_walker_30 ⟨Nat.zero_le _, Nat.zero_le _⟩ (fun r_30 u H locs hw hP hD hS => ?_)
        obtain ⟨F_30, rfl⟩ : ∃ z, z = u := ⟨_, rfl⟩
        try dsimp only at hw
        obtain ⟨q1_30, q2_30⟩ := hw
        have q1_30 := q1_30.symm
        subst q1_30
        have q2_30 := q2_30.symm
        subst q2_30
        have hP : va_P D vwCl [(x, .inr (5, [.ref r, .ref t, .ref im, .int hi, .ref tx, .ref ch, .ref ro, .ref rf, .ref pl, .ref ot, .ref cl])), (rf, .inl (cI, 6, .inl (rf_bump F (-4)))), (r, .inr (1, [.int q, .int nw, .ref rn])), (rn, .inl (cI, 20, .inl v)), (ch, .inr (0, [.int cz, .ref cn])), (cn, .inl (cI, 48, .inl cf))] H := hP.sub [4, 5, 0, 1, 2, 3] rfl
        have hD : va_D A [(x, .inr (5, [.ref r, .ref t, .ref im, .int hi, .ref tx, .ref ch, .ref ro, .ref rf, .ref pl, .ref ot, .ref cl])), (rf, .inl (cI, 6, .inl (rf_bump F (-4)))), (r, .inr (1, [.int q, .int nw, .ref rn])), (rn, .inl (cI, 20, .inl v)), (ch, .inr (0, [.int cz, .ref cn])), (cn, .inl (cI, 48, .inl cf))] := hD.sub [4, 5, 0, 1, 2, 3] (by decide) rfl
        exact wrI (w1 := (fun (u : (Nat → Int32) × Int32 × (Nat → Int32) × Int32) => [(x, .inr (5, [.ref r, .ref t, .ref im, .int hi, .ref tx, .ref ch, .ref ro, .ref rf, .ref pl, .ref ot, .ref cl])), (rf, .inl (cI, 6, .inl u.1)), (r, .inr (1, [.int q, .int u.2.1, .ref rn])), (rn, .inl (cI, 20, .inl u.2.2.1)), (ch, .inr (0, [.int u.2.2.2, .ref cn])), (cn, .inl (cI, 48, .inl cf))])) ((rf_bump F (-4)), nw, v, cz) hx hb hr hlocks dX5_walker_33 hS (hP.sub [0, 1, 2, 3, 4, 5] rfl) (hD.sub [0, 1, 2, 3, 4, 5] (by decide) rfl) (by have e9 : rf_wal q nw x0 x1 x2 x3 = -4 := (by simp [rf_wal, c_4, c_15, Int32.not_lt.mp c_15, c_19, Int32.not_le.mpr c_19]); simp [e9, wadd])
      · skip
        refine lv_iload hx hb dX5_walker_22 (lv_at hl 4 rfl) ?_
        refine lv_if_ge (tgt := 34) hx hb dX5_walker_24 (by decide) (fun c_24 => ?_) (fun c_24 => ?_)
        · skip
          refine lv_aload_n hx hb dX5_walker_34 rfl (lv_at hl 0 rfl) ?_
          refine va_get (D := D) (ci := 5) (v := .ref r) (C := RX5) (T := TX5) (N := 11) hx hb hts (in_X5_walker_X5) hown hK hP 0 rfl rfl 0 (by decide) (hts (.fieldLink RX5 10 "StepsRoundCircle" "ring" "LStepsRoundCircle$Ring;") (by decide +kernel)) (fun _ h9 => h9) rfl dX5_walker_35 ?_
          refine lv_iload_n hx hb dX5_walker_38 rfl (lv_at hl 1 rfl) ?_
          refine lv_iload_n hx hb dX5_walker_39 rfl (lv_at hl 2 rfl) ?_
          refine lv_iload_n hx hb dX5_walker_40 rfl (lv_at hl 3 rfl) ?_
          refine lv_iload hx hb dX5_walker_41 (lv_at hl 4 rfl) ?_
          refine rdV (As := [.int x0, .int x1, .int x2, .int x3]) (rest := []) ⟨hx, hb, hml, hown, hts⟩ (c_X1_hasRoomFor l D cI cZ cR r rn q nw v x0 x1 x2 x3 ) (cwV 4 hts gX5_walker_X1_hasRoomFor rfl rfl rfl (by decide +kernel) ⟨Nat.le_of_ble_eq_true rfl, Nat.le_of_ble_eq_true rfl⟩) hK hN hP 2 1 rfl rfl rfl [2, 3] rfl rfl hl.1 rfl (Nat.le_of_ble_eq_true rfl) dX5_walker_43 ⟨Nat.zero_le _, Nat.zero_le _⟩ ?_
          refine lv_if_ne (tgt := 56) hx hb dX5_walker_46 (by decide) (fun c_46 => ?_) (fun c_46 => ?_)
          · skip
            have c_46 := bi_ne0.mp c_46
            refine lv_aload_n hx hb dX5_walker_56 rfl (lv_at hl 0 rfl) ?_
            refine va_get (D := D) (ci := 5) (v := .ref r) (C := RX5) (T := TX5) (N := 11) hx hb hts (in_X5_walker_X5) hown hK hP 0 rfl rfl 0 (by decide) (hts (.fieldLink RX5 10 "StepsRoundCircle" "ring" "LStepsRoundCircle$Ring;") (by decide +kernel)) (fun _ h9 => h9) rfl dX5_walker_57 ?_
            refine lv_iload_n hx hb dX5_walker_60 rfl (lv_at hl 1 rfl) ?_
            refine lv_iload_n hx hb dX5_walker_61 rfl (lv_at hl 2 rfl) ?_
            refine lv_iload_n hx hb dX5_walker_62 rfl (lv_at hl 3 rfl) ?_
            refine lv_iload hx hb dX5_walker_63 (lv_at hl 4 rfl) ?_
            refine wrVv (As := [.int x0, .int x1, .int x2, .int x3]) (rest := []) (wr := [(x, .inr (5, [.ref r, .ref t, .ref im, .int hi, .ref tx, .ref ch, .ref ro, .ref rf, .ref pl, .ref ot, .ref cl])), (rf, .inl (cI, 6, .inl F)), (ch, .inr (0, [.int cz, .ref cn])), (cn, .inl (cI, 48, .inl cf))]) (A := A) ⟨hx, hb, hml, hown, hts⟩ (c_X1_add l D cI cZ cR r rn q nw v x0 x1 x2 x3  s.heap.size) (cwV 4 hts gX5_walker_X1_add rfl rfl rfl (by decide +kernel) ⟨Nat.le_of_ble_eq_true rfl, Nat.le_of_ble_eq_true rfl⟩) hK hN hP hD hS hA 2 1 rfl rfl rfl [2, 3] [0, 1, 4, 5] rfl (by decide) rfl (by decide) (by decide) rfl hl.1 rfl (Nat.le_of_ble_eq_true rfl) dX5_walker_65 ⟨Nat.zero_le _, Nat.zero_le _⟩ (fun u H locs hw hP hD hS => ?_)
            obtain ⟨nw_65, v_65⟩ := u
            try dsimp only at hw
            obtain ⟨q1_65, q2_65⟩ := hw
            have q1_65 := q1_65.symm
            subst q1_65
            have q2_65 := q2_65.symm
            subst q2_65
            have hP : va_P D vwCl [(x, .inr (5, [.ref r, .ref t, .ref im, .int hi, .ref tx, .ref ch, .ref ro, .ref rf, .ref pl, .ref ot, .ref cl])), (rf, .inl (cI, 6, .inl F)), (r, .inr (1, [.int q, .int (nw + 1), .ref rn])), (rn, .inl (cI, 20, .inl (rg_set (rg_set (rg_set (rg_set v nw 0 x0) nw 1 x1) nw 2 x2) nw 3 x3))), (ch, .inr (0, [.int cz, .ref cn])), (cn, .inl (cI, 48, .inl cf))] H := hP.sub [0, 1, 4, 5, 2, 3] rfl
            have hD : va_D A [(x, .inr (5, [.ref r, .ref t, .ref im, .int hi, .ref tx, .ref ch, .ref ro, .ref rf, .ref pl, .ref ot, .ref cl])), (rf, .inl (cI, 6, .inl F)), (r, .inr (1, [.int q, .int (nw + 1), .ref rn])), (rn, .inl (cI, 20, .inl (rg_set (rg_set (rg_set (rg_set v nw 0 x0) nw 1 x1) nw 2 x2) nw 3 x3))), (ch, .inr (0, [.int cz, .ref cn])), (cn, .inl (cI, 48, .inl cf))] := hD.sub [0, 1, 4, 5, 2, 3] (by decide) rfl
            refine lv_aload_n hx hb dX5_walker_68 rfl (lv_at hl 0 rfl) ?_
            refine va_get (D := D) (ci := 5) (v := .ref ch) (C := RX5) (T := TX5) (N := 11) hx hb hts (in_X5_walker_X5) hown hK hP 0 rfl rfl 5 (by decide) (hts (.fieldLink RX5 36 "StepsRoundCircle" "changes" "LStepsRoundCircle$Changes;") (by decide +kernel)) (fun _ h9 => h9) rfl dX5_walker_69 ?_
            refine wrVv (As := []) (rest := []) (wr := [(x, .inr (5, [.ref r, .ref t, .ref im, .int hi, .ref tx, .ref ch, .ref ro, .ref rf, .ref pl, .ref ot, .ref cl])), (rf, .inl (cI, 6, .inl F)), (r, .inr (1, [.int q, .int (nw + 1), .ref rn])), (rn, .inl (cI, 20, .inl (rg_set (rg_set (rg_set (rg_set v nw 0 x0) nw 1 x1) nw 2 x2) nw 3 x3)))]) (A := A) ⟨hx, hb, hml, hown, hts⟩ (c_X0_clear l D cI cZ cR ch cn cz cf  H.size) (cwV 0 hts gX5_walker_X0_clear rfl rfl rfl (by decide +kernel) ⟨Nat.le_of_ble_eq_true rfl, Nat.le_of_ble_eq_true rfl⟩) hK hN hP hD hS hA 4 0 rfl rfl rfl [4, 5] [0, 1, 2, 3] rfl (by decide) rfl (by decide) (by decide) rfl hl.1 rfl (Nat.le_of_ble_eq_true rfl) dX5_walker_72 ⟨Nat.zero_le _, Nat.zero_le _⟩ (fun u H locs hw hP hD hS => ?_)
            obtain ⟨z_72, rfl⟩ : ∃ z, z = u := ⟨_, rfl⟩
            try dsimp only at hw
            have q1_72 := hw
            have q1_72 := q1_72.symm
            subst q1_72
            have hP : va_P D vwCl [(x, .inr (5, [.ref r, .ref t, .ref im, .int hi, .ref tx, .ref ch, .ref ro, .ref rf, .ref pl, .ref ot, .ref cl])), (rf, .inl (cI, 6, .inl F)), (r, .inr (1, [.int q, .int (nw + 1), .ref rn])), (rn, .inl (cI, 20, .inl (rg_set (rg_set (rg_set (rg_set v nw 0 x0) nw 1 x1) nw 2 x2) nw 3 x3))), (ch, .inr (0, [.int 0, .ref cn])), (cn, .inl (cI, 48, .inl cf))] H := hP.sub [0, 1, 2, 3, 4, 5] rfl
            have hD : va_D A [(x, .inr (5, [.ref r, .ref t, .ref im, .int hi, .ref tx, .ref ch, .ref ro, .ref rf, .ref pl, .ref ot, .ref cl])), (rf, .inl (cI, 6, .inl F)), (r, .inr (1, [.int q, .int (nw + 1), .ref rn])), (rn, .inl (cI, 20, .inl (rg_set (rg_set (rg_set (rg_set v nw 0 x0) nw 1 x1) nw 2 x2) nw 3 x3))), (ch, .inr (0, [.int 0, .ref cn])), (cn, .inl (cI, 48, .inl cf))] := hD.sub [0, 1, 2, 3, 4, 5] (by decide) rfl
            refine lv_aload_n hx hb dX5_walker_75 rfl (lv_at hl 0 rfl) ?_
            refine va_get (D := D) (ci := 5) (v := .ref r) (C := RX5) (T := TX5) (N := 11) hx hb hts (in_X5_walker_X5) hown hK hP 0 rfl rfl 0 (by decide) (hts (.fieldLink RX5 10 "StepsRoundCircle" "ring" "LStepsRoundCircle$Ring;") (by decide +kernel)) (fun _ h9 => h9) rfl dX5_walker_76 ?_
            refine va_get (D := D) (ci := 1) (v := .int (nw + 1)) (C := RX1) (T := TX1) (N := 3) hx hb hts (in_X5_walker_X1) hown hK hP 2 rfl rfl 1 (by decide) (hts (.fieldLink RX5 103 "StepsRoundCircle$Ring" "walkers" "I") (by decide +kernel)) (fun _ h9 => h9) rfl dX5_walker_79 ?_
            refine lv_iconst (v := 1) hx hb dX5_walker_82 (by decide) ?_
            refine lv_isub hx hb dX5_walker_83 ?_
            exact wrI (w1 := (fun (u : (Nat → Int32) × Int32 × (Nat → Int32) × Int32) => [(x, .inr (5, [.ref r, .ref t, .ref im, .int hi, .ref tx, .ref ch, .ref ro, .ref rf, .ref pl, .ref ot, .ref cl])), (rf, .inl (cI, 6, .inl u.1)), (r, .inr (1, [.int q, .int u.2.1, .ref rn])), (rn, .inl (cI, 20, .inl u.2.2.1)), (ch, .inr (0, [.int u.2.2.2, .ref cn])), (cn, .inl (cI, 48, .inl cf))])) (F, (nw + 1), (rg_set (rg_set (rg_set (rg_set v nw 0 x0) nw 1 x1) nw 2 x2) nw 3 x3), 0) hx hb hr hlocks dX5_walker_84 hS (hP.sub [0, 1, 2, 3, 4, 5] rfl) (hD.sub [0, 1, 2, 3, 4, 5] (by decide) rfl) (by have e9 : rf_wal q nw x0 x1 x2 x3 = 0 := (by simp [rf_wal, c_4, c_15, Int32.not_lt.mp c_15, c_19, Int32.not_lt.mp c_19, c_24, Int32.not_lt.mpr c_24, c_46]); simp [e9, wadd])
          · skip
            have c_46 := bi_eq0.mp c_46
            refine lv_aload_n hx hb dX5_walker_49 rfl (lv_at hl 0 rfl) ?_
            refine lv_bipush (v := (-6)) hx hb dX5_walker_50 (by decide) ?_
            refine wrVi (As := [.int (-6)]) (rest := []) (wr := [(r, .inr (1, [.int q, .int nw, .ref rn])), (rn, .inl (cI, 20, .inl v)), (ch, .inr (0, [.int cz, .ref cn])), (cn, .inl (cI, 48, .inl cf))]) (A := A) ⟨hx, hb, hml, hown, hts⟩ (c_X5_refuse l D cI cZ cR x r t im tx ch ro rf pl ot cl hi F (-6)  s.heap.size) (cwV 1 hts gX5_walker_X5_refuse rfl rfl rfl (by decide +kernel) ⟨Nat.le_of_ble_eq_true rfl, Nat.le_of_ble_eq_true rfl⟩) hK hN hP hD hS hA 0 5 rfl rfl rfl [0, 1] [2, 3, 4, 5] rfl (by decide) rfl (by decide) (by decide) rfl hl.1 rfl (Nat.le_of_ble_eq_true rfl) dX5_walker_52 ⟨Nat.zero_le _, Nat.zero_le _⟩ (fun r_52 u H locs hw hP hD hS => ?_)
            obtain ⟨F_52, rfl⟩ : ∃ z, z = u := ⟨_, rfl⟩
            try dsimp only at hw
            obtain ⟨q1_52, q2_52⟩ := hw
            have q1_52 := q1_52.symm
            subst q1_52
            have q2_52 := q2_52.symm
            subst q2_52
            have hP : va_P D vwCl [(x, .inr (5, [.ref r, .ref t, .ref im, .int hi, .ref tx, .ref ch, .ref ro, .ref rf, .ref pl, .ref ot, .ref cl])), (rf, .inl (cI, 6, .inl (rf_bump F (-6)))), (r, .inr (1, [.int q, .int nw, .ref rn])), (rn, .inl (cI, 20, .inl v)), (ch, .inr (0, [.int cz, .ref cn])), (cn, .inl (cI, 48, .inl cf))] H := hP.sub [4, 5, 0, 1, 2, 3] rfl
            have hD : va_D A [(x, .inr (5, [.ref r, .ref t, .ref im, .int hi, .ref tx, .ref ch, .ref ro, .ref rf, .ref pl, .ref ot, .ref cl])), (rf, .inl (cI, 6, .inl (rf_bump F (-6)))), (r, .inr (1, [.int q, .int nw, .ref rn])), (rn, .inl (cI, 20, .inl v)), (ch, .inr (0, [.int cz, .ref cn])), (cn, .inl (cI, 48, .inl cf))] := hD.sub [4, 5, 0, 1, 2, 3] (by decide) rfl
            exact wrI (w1 := (fun (u : (Nat → Int32) × Int32 × (Nat → Int32) × Int32) => [(x, .inr (5, [.ref r, .ref t, .ref im, .int hi, .ref tx, .ref ch, .ref ro, .ref rf, .ref pl, .ref ot, .ref cl])), (rf, .inl (cI, 6, .inl u.1)), (r, .inr (1, [.int q, .int u.2.1, .ref rn])), (rn, .inl (cI, 20, .inl u.2.2.1)), (ch, .inr (0, [.int u.2.2.2, .ref cn])), (cn, .inl (cI, 48, .inl cf))])) ((rf_bump F (-6)), nw, v, cz) hx hb hr hlocks dX5_walker_55 hS (hP.sub [0, 1, 2, 3, 4, 5] rfl) (hD.sub [0, 1, 2, 3, 4, 5] (by decide) rfl) (by have e9 : rf_wal q nw x0 x1 x2 x3 = -6 := (by simp [rf_wal, c_4, c_15, Int32.not_lt.mp c_15, c_19, Int32.not_lt.mp c_19, c_24, Int32.not_lt.mpr c_24, c_46]); simp [e9, wadd])
        · skip
          refine lv_aload_n hx hb dX5_walker_27 rfl (lv_at hl 0 rfl) ?_
          refine lv_bipush (v := (-4)) hx hb dX5_walker_28 (by decide) ?_
          refine wrVi (As := [.int (-4)]) (rest := []) (wr := [(r, .inr (1, [.int q, .int nw, .ref rn])), (rn, .inl (cI, 20, .inl v)), (ch, .inr (0, [.int cz, .ref cn])), (cn, .inl (cI, 48, .inl cf))]) (A := A) ⟨hx, hb, hml, hown, hts⟩ (c_X5_refuse l D cI cZ cR x r t im tx ch ro rf pl ot cl hi F (-4)  s.heap.size) (cwV 1 hts gX5_walker_X5_refuse rfl rfl rfl (by decide +kernel) ⟨Nat.le_of_ble_eq_true rfl, Nat.le_of_ble_eq_true rfl⟩) hK hN hP hD hS hA 0 5 rfl rfl rfl [0, 1] [2, 3, 4, 5] rfl (by decide) rfl (by decide) (by decide) rfl hl.1 rfl (Nat.le_of_ble_eq_true rfl) dX5_walker_30 ⟨Nat.zero_le _, Nat.zero_le _⟩ (fun r_30 u H locs hw hP hD hS => ?_)
          obtain ⟨F_30, rfl⟩ : ∃ z, z = u := ⟨_, rfl⟩
          try dsimp only at hw
          obtain ⟨q1_30, q2_30⟩ := hw
          have q1_30 := q1_30.symm
          subst q1_30
          have q2_30 := q2_30.symm
          subst q2_30
          have hP : va_P D vwCl [(x, .inr (5, [.ref r, .ref t, .ref im, .int hi, .ref tx, .ref ch, .ref ro, .ref rf, .ref pl, .ref ot, .ref cl])), (rf, .inl (cI, 6, .inl (rf_bump F (-4)))), (r, .inr (1, [.int q, .int nw, .ref rn])), (rn, .inl (cI, 20, .inl v)), (ch, .inr (0, [.int cz, .ref cn])), (cn, .inl (cI, 48, .inl cf))] H := hP.sub [4, 5, 0, 1, 2, 3] rfl
          have hD : va_D A [(x, .inr (5, [.ref r, .ref t, .ref im, .int hi, .ref tx, .ref ch, .ref ro, .ref rf, .ref pl, .ref ot, .ref cl])), (rf, .inl (cI, 6, .inl (rf_bump F (-4)))), (r, .inr (1, [.int q, .int nw, .ref rn])), (rn, .inl (cI, 20, .inl v)), (ch, .inr (0, [.int cz, .ref cn])), (cn, .inl (cI, 48, .inl cf))] := hD.sub [4, 5, 0, 1, 2, 3] (by decide) rfl
          exact wrI (w1 := (fun (u : (Nat → Int32) × Int32 × (Nat → Int32) × Int32) => [(x, .inr (5, [.ref r, .ref t, .ref im, .int hi, .ref tx, .ref ch, .ref ro, .ref rf, .ref pl, .ref ot, .ref cl])), (rf, .inl (cI, 6, .inl u.1)), (r, .inr (1, [.int q, .int u.2.1, .ref rn])), (rn, .inl (cI, 20, .inl u.2.2.1)), (ch, .inr (0, [.int u.2.2.2, .ref cn])), (cn, .inl (cI, 48, .inl cf))])) ((rf_bump F (-4)), nw, v, cz) hx hb hr hlocks dX5_walker_33 hS (hP.sub [0, 1, 2, 3, 4, 5] rfl) (hD.sub [0, 1, 2, 3, 4, 5] (by decide) rfl) (by have e9 : rf_wal q nw x0 x1 x2 x3 = -4 := (by simp [rf_wal, c_4, c_15, Int32.not_lt.mp c_15, c_19, Int32.not_lt.mp c_19, c_24, Int32.not_le.mp c_24]); simp [e9, wadd])
  · skip
    have c_4 := bi_eq0.mp c_4
    refine lv_aload_n hx hb dX5_walker_7 rfl (lv_at hl 0 rfl) ?_
    refine lv_bipush (v := (-2)) hx hb dX5_walker_8 (by decide) ?_
    refine wrVi (As := [.int (-2)]) (rest := []) (wr := [(r, .inr (1, [.int q, .int nw, .ref rn])), (rn, .inl (cI, 20, .inl v)), (ch, .inr (0, [.int cz, .ref cn])), (cn, .inl (cI, 48, .inl cf))]) (A := A) ⟨hx, hb, hml, hown, hts⟩ (c_X5_refuse l D cI cZ cR x r t im tx ch ro rf pl ot cl hi F (-2)  s.heap.size) (cwV 1 hts gX5_walker_X5_refuse rfl rfl rfl (by decide +kernel) ⟨Nat.le_of_ble_eq_true rfl, Nat.le_of_ble_eq_true rfl⟩) hK hN hP hD hS hA 0 5 rfl rfl rfl [0, 1] [2, 3, 4, 5] rfl (by decide) rfl (by decide) (by decide) rfl hl.1 rfl (Nat.le_of_ble_eq_true rfl) dX5_walker_10 ⟨Nat.zero_le _, Nat.zero_le _⟩ (fun r_10 u H locs hw hP hD hS => ?_)
    obtain ⟨F_10, rfl⟩ : ∃ z, z = u := ⟨_, rfl⟩
    try dsimp only at hw
    obtain ⟨q1_10, q2_10⟩ := hw
    have q1_10 := q1_10.symm
    subst q1_10
    have q2_10 := q2_10.symm
    subst q2_10
    have hP : va_P D vwCl [(x, .inr (5, [.ref r, .ref t, .ref im, .int hi, .ref tx, .ref ch, .ref ro, .ref rf, .ref pl, .ref ot, .ref cl])), (rf, .inl (cI, 6, .inl (rf_bump F (-2)))), (r, .inr (1, [.int q, .int nw, .ref rn])), (rn, .inl (cI, 20, .inl v)), (ch, .inr (0, [.int cz, .ref cn])), (cn, .inl (cI, 48, .inl cf))] H := hP.sub [4, 5, 0, 1, 2, 3] rfl
    have hD : va_D A [(x, .inr (5, [.ref r, .ref t, .ref im, .int hi, .ref tx, .ref ch, .ref ro, .ref rf, .ref pl, .ref ot, .ref cl])), (rf, .inl (cI, 6, .inl (rf_bump F (-2)))), (r, .inr (1, [.int q, .int nw, .ref rn])), (rn, .inl (cI, 20, .inl v)), (ch, .inr (0, [.int cz, .ref cn])), (cn, .inl (cI, 48, .inl cf))] := hD.sub [4, 5, 0, 1, 2, 3] (by decide) rfl
    exact wrI (w1 := (fun (u : (Nat → Int32) × Int32 × (Nat → Int32) × Int32) => [(x, .inr (5, [.ref r, .ref t, .ref im, .int hi, .ref tx, .ref ch, .ref ro, .ref rf, .ref pl, .ref ot, .ref cl])), (rf, .inl (cI, 6, .inl u.1)), (r, .inr (1, [.int q, .int u.2.1, .ref rn])), (rn, .inl (cI, 20, .inl u.2.2.1)), (ch, .inr (0, [.int u.2.2.2, .ref cn])), (cn, .inl (cI, 48, .inl cf))])) ((rf_bump F (-2)), nw, v, cz) hx hb hr hlocks dX5_walker_13 hS (hP.sub [0, 1, 2, 3, 4, 5] rfl) (hD.sub [0, 1, 2, 3, 4, 5] (by decide) rfl) (by have e9 : rf_wal q nw x0 x1 x2 x3 = -2 := (by simp [rf_wal, c_4]); simp [e9, wadd])

set_option maxHeartbeats 4000000 in
set_option maxRecDepth 100000 in
theorem c_X5_change (l : Launch) (D : va_G) (cI cZ cR : ClassId) (x r t im tx ch ro rf pl ot cl : Nat) (hi : Int32) (F : Nat → Int32) (rn : Nat) (q nw : Int32) (v : Nat → Int32) (cn : Nat) (cz : Int32) (cf : Nat → Int32) (w k x0 : Int32) (sz : Nat) : Met l yX5_change wsX5_change ({ frames := 3, cells := 0, slots := 0, locals := 83 }) (PcW D cI cZ cR [.ref x, .int w, .int k, .int x0] [(x, .inr (5, [.ref r, .ref t, .ref im, .int hi, .ref tx, .ref ch, .ref ro, .ref rf, .ref pl, .ref ot, .ref cl])), (rf, .inl (cI, 6, .inl F)), (r, .inr (1, [.int q, .int nw, .ref rn])), (rn, .inl (cI, 20, .inl v)), (ch, .inr (0, [.int cz, .ref cn])), (cn, .inl (cI, 48, .inl cf))] sz) (va_Qi (fun (res : Int32) (u : (Nat → Int32) × (Nat → Int32) × Int32 × (Nat → Int32)) => res = (if rf_chg q nw w k x0 = 0 then rg_val v w k else rf_chg q nw w k x0) ∧ u.1 = (if rf_chg q nw w k x0 = 0 then F else rf_bump F (rf_chg q nw w k x0)) ∧ u.2.1 = (if rf_chg q nw w k x0 = 0 then rg_set v w k x0 else v) ∧ u.2.2.1 = (if rf_chg q nw w k x0 = 0 then ch_z cz + 1 else cz) ∧ u.2.2.2 = (if rf_chg q nw w k x0 = 0 then ch_keep cz cf w k (rg_val v w k) else cf)) (Bw D (fun (u : (Nat → Int32) × (Nat → Int32) × Int32 × (Nat → Int32)) => [(x, .inr (5, [.ref r, .ref t, .ref im, .int hi, .ref tx, .ref ch, .ref ro, .ref rf, .ref pl, .ref ot, .ref cl])), (rf, .inl (cI, 6, .inl u.1)), (r, .inr (1, [.int q, .int nw, .ref rn])), (rn, .inl (cI, 20, .inl u.2.1)), (ch, .inr (0, [.int u.2.2.1, .ref cn])), (cn, .inl (cI, 48, .inl u.2.2.2))]) (va_A [(x, .inr (5, [.ref r, .ref t, .ref im, .int hi, .ref tx, .ref ch, .ref ro, .ref rf, .ref pl, .ref ot, .ref cl])), (rf, .inl (cI, 6, .inl F)), (r, .inr (1, [.int q, .int nw, .ref rn])), (rn, .inl (cI, 20, .inl v)), (ch, .inr (0, [.int cz, .ref cn])), (cn, .inl (cI, 48, .inl cf))] sz)) (va_A [(x, .inr (5, [.ref r, .ref t, .ref im, .int hi, .ref tx, .ref ch, .ref ro, .ref rf, .ref pl, .ref ot, .ref cl])), (rf, .inl (cI, 6, .inl F)), (r, .inr (1, [.int q, .int nw, .ref rn])), (rn, .inl (cI, 20, .inl v)), (ch, .inr (0, [.int cz, .ref cn])), (cn, .inl (cI, 48, .inl cf))] sz)) 0 0 (va_A [(x, .inr (5, [.ref r, .ref t, .ref im, .int hi, .ref tx, .ref ch, .ref ro, .ref rf, .ref pl, .ref ot, .ref cl])), (rf, .inl (cI, 6, .inl F)), (r, .inr (1, [.int q, .int nw, .ref rn])), (rn, .inl (cI, 20, .inl v)), (ch, .inr (0, [.int cz, .ref cn])), (cn, .inl (cI, 48, .inl cf))] sz) := by
  refine Met.ofW (cc := cX5_change) (maxL := 5) (ret := (some .int)) (by decide) rfl ?_
  intro p e s m args below meth c s₁ B hml hv
  obtain ⟨rfl, hsz, hP, hK, hD0, hN⟩ := hv
  have hx := B.exec
  have hb := B.bytes
  have hr := B.returns
  have hts := atoms_spec (ws := wsX5_change) B.pre
  have hown : s.vm.findClass RX5 = some m.cls := findClass_of_methodNamed B.named
  have hlocks := B.notSynchronized
  subst hsz
  have hD := hD0.self (sz := s.heap.size)
  generalize hAe : va_A [(x, .inr (5, [.ref r, .ref t, .ref im, .int hi, .ref tx, .ref ch, .ref ro, .ref rf, .ref pl, .ref ot, .ref cl])), (rf, .inl (cI, 6, .inl F)), (r, .inr (1, [.int q, .int nw, .ref rn])), (rn, .inl (cI, 20, .inl v)), (ch, .inr (0, [.int cz, .ref cn])), (cn, .inl (cI, 48, .inl cf))] s.heap.size = A at hD ⊢
  have hA : ∀ q : Nat, s.heap.size ≤ q → A q := fun q h => by rw [← hAe]; exact Or.inr h
  have hS : va_S A s.heap s.heap [] := va_S.rf
  have hP : va_P D vwCl [(x, .inr (5, [.ref r, .ref t, .ref im, .int hi, .ref tx, .ref ch, .ref ro, .ref rf, .ref pl, .ref ot, .ref cl])), (rf, .inl (cI, 6, .inl F)), (r, .inr (1, [.int q, .int nw, .ref rn])), (rn, .inl (cI, 20, .inl v)), (ch, .inr (0, [.int cz, .ref cn])), (cn, .inl (cI, 48, .inl cf))] s.heap := hP
  have hl := lv_entry ([.ref x, .int w, .int k, .int x0]) (n := 5) (Nat.le_of_ble_eq_true rfl)
  rw [lg_entry_eq]
  generalize (lg_sl ([.ref x, .int w, .int k, .int x0]) ++ List.replicate (5 - (lg_sl ([.ref x, .int w, .int k, .int x0])).length) Slot.unset).toArray = ls at hl ⊢
  have hl : lv_has ls 5 [(0, .ref x), (1, .int w), (2, .int k), (3, .int x0)] := hl
  refine lv_aload_n hx hb dX5_change_0 rfl (lv_at hl 0 rfl) ?_
  refine va_get (D := D) (ci := 5) (v := .ref r) (C := RX5) (T := TX5) (N := 11) hx hb hts (in_X5_change_X5) hown hK hP 0 rfl rfl 0 (by decide) (hts (.fieldLink RX5 10 "StepsRoundCircle" "ring" "LStepsRoundCircle$Ring;") (by decide +kernel)) (fun _ h9 => h9) rfl dX5_change_1 ?_
  refine lv_iload_n hx hb dX5_change_4 rfl (lv_at hl 1 rfl) ?_
  refine rdV (As := [.int w]) (rest := []) ⟨hx, hb, hml, hown, hts⟩ (c_X1_has l D cI cZ cR r rn q nw v w ) (cwV 1 hts gX5_change_X1_has rfl rfl rfl (by decide +kernel) ⟨Nat.le_of_ble_eq_true rfl, Nat.le_of_ble_eq_true rfl⟩) hK hN hP 2 1 rfl rfl rfl [2, 3] rfl rfl hl.1 rfl (Nat.le_of_ble_eq_true rfl) dX5_change_5 ⟨Nat.zero_le _, Nat.zero_le _⟩ ?_
  refine lv_if_ne (tgt := 17) hx hb dX5_change_8 (by decide) (fun c_8 => ?_) (fun c_8 => ?_)
  · skip
    have c_8 := bi_ne0.mp c_8
    refine lv_iload_n hx hb dX5_change_17 rfl (lv_at hl 2 rfl) ?_
    refine lv_iconst (v := 4) hx hb dX5_change_18 (by decide) ?_
    refine rdS (As := [.int k, .int 4]) (rest := []) ⟨hx, hb, hml, hown, hts⟩ (c_X5_isBelow l D cI cZ cR k 4 ) (va_cwS 2 hts gX5_change_X5_isBelow rfl rfl rfl (by decide +kernel) ⟨Nat.le_of_ble_eq_true rfl, Nat.le_of_ble_eq_true rfl⟩) hK hN hP [] rfl rfl hl.1 rfl (Nat.le_of_ble_eq_true rfl) dX5_change_19 ⟨Nat.zero_le _, Nat.zero_le _⟩ ?_
    refine lv_if_ne (tgt := 32) hx hb dX5_change_22 (by decide) (fun c_22 => ?_) (fun c_22 => ?_)
    · skip
      have c_22 := bi_ne0.mp c_22
      refine lv_iload_n hx hb dX5_change_32 rfl (lv_at hl 3 rfl) ?_
      refine lv_if_ge (tgt := 43) hx hb dX5_change_33 (by decide) (fun c_33 => ?_) (fun c_33 => ?_)
      · skip
        refine lv_iload_n hx hb dX5_change_43 rfl (lv_at hl 3 rfl) ?_
        refine lv_aload_n hx hb dX5_change_44 rfl (lv_at hl 0 rfl) ?_
        refine va_get (D := D) (ci := 5) (v := .ref r) (C := RX5) (T := TX5) (N := 11) hx hb hts (in_X5_change_X5) hown hK hP 0 rfl rfl 0 (by decide) (hts (.fieldLink RX5 10 "StepsRoundCircle" "ring" "LStepsRoundCircle$Ring;") (by decide +kernel)) (fun _ h9 => h9) rfl dX5_change_45 ?_
        refine lv_iload_n hx hb dX5_change_48 rfl (lv_at hl 2 rfl) ?_
        refine rdV (As := [.int k]) (rest := [.int x0]) ⟨hx, hb, hml, hown, hts⟩ (c_X1_greatest l D cI cZ cR r rn q nw v k ) (cwV 1 hts gX5_change_X1_greatest rfl rfl rfl (by decide +kernel) ⟨Nat.le_of_ble_eq_true rfl, Nat.le_of_ble_eq_true rfl⟩) hK hN hP 2 1 rfl rfl rfl [2, 3] rfl rfl hl.1 rfl (Nat.le_of_ble_eq_true rfl) dX5_change_49 ⟨Nat.zero_le _, Nat.zero_le _⟩ ?_
        refine lv_icmp_le (tgt := 62) hx hb dX5_change_52 (by decide) (fun c_52 => ?_) (fun c_52 => ?_)
        · skip
          refine lv_aload_n hx hb dX5_change_62 rfl (lv_at hl 0 rfl) ?_
          refine va_get (D := D) (ci := 5) (v := .ref r) (C := RX5) (T := TX5) (N := 11) hx hb hts (in_X5_change_X5) hown hK hP 0 rfl rfl 0 (by decide) (hts (.fieldLink RX5 10 "StepsRoundCircle" "ring" "LStepsRoundCircle$Ring;") (by decide +kernel)) (fun _ h9 => h9) rfl dX5_change_63 ?_
          refine lv_iload_n hx hb dX5_change_66 rfl (lv_at hl 1 rfl) ?_
          refine lv_iload_n hx hb dX5_change_67 rfl (lv_at hl 2 rfl) ?_
          refine rdV (As := [.int w, .int k]) (rest := []) ⟨hx, hb, hml, hown, hts⟩ (c_X1_value l D cI cZ cR r rn q nw v w k ) (cwV 2 hts gX5_change_X1_value rfl rfl rfl (by decide +kernel) ⟨Nat.le_of_ble_eq_true rfl, Nat.le_of_ble_eq_true rfl⟩) hK hN hP 2 1 rfl rfl rfl [2, 3] rfl rfl hl.1 rfl (Nat.le_of_ble_eq_true rfl) dX5_change_68 ⟨Nat.zero_le _, Nat.zero_le _⟩ ?_
          refine lv_istore (lv' := [(4, .int (rg_val v w k)), (0, .ref x), (1, .int w), (2, .int k), (3, .int x0)]) hx hb dX5_change_71 hl (by decide) rfl (fun ls hl => ?_)
          refine lv_aload_n hx hb dX5_change_73 rfl (lv_at hl 1 rfl) ?_
          refine va_get (D := D) (ci := 5) (v := .ref ch) (C := RX5) (T := TX5) (N := 11) hx hb hts (in_X5_change_X5) hown hK hP 0 rfl rfl 5 (by decide) (hts (.fieldLink RX5 36 "StepsRoundCircle" "changes" "LStepsRoundCircle$Changes;") (by decide +kernel)) (fun _ h9 => h9) rfl dX5_change_74 ?_
          refine lv_iload_n hx hb dX5_change_77 rfl (lv_at hl 2 rfl) ?_
          refine lv_iload_n hx hb dX5_change_78 rfl (lv_at hl 3 rfl) ?_
          refine lv_iload hx hb dX5_change_79 (lv_at hl 0 rfl) ?_
          refine wrVv (As := [.int w, .int k, .int (rg_val v w k)]) (rest := []) (wr := [(x, .inr (5, [.ref r, .ref t, .ref im, .int hi, .ref tx, .ref ch, .ref ro, .ref rf, .ref pl, .ref ot, .ref cl])), (rf, .inl (cI, 6, .inl F)), (r, .inr (1, [.int q, .int nw, .ref rn])), (rn, .inl (cI, 20, .inl v))]) (A := A) ⟨hx, hb, hml, hown, hts⟩ (c_X0_keep l D cI cZ cR ch cn cz cf w k (rg_val v w k)  s.heap.size) (cwV 3 hts gX5_change_X0_keep rfl rfl rfl (by decide +kernel) ⟨Nat.le_of_ble_eq_true rfl, Nat.le_of_ble_eq_true rfl⟩) hK hN hP hD hS hA 4 0 rfl rfl rfl [4, 5] [0, 1, 2, 3] rfl (by decide) rfl (by decide) (by decide) rfl hl.1 rfl (Nat.le_of_ble_eq_true rfl) dX5_change_81 ⟨Nat.zero_le _, Nat.zero_le _⟩ (fun u H locs hw hP hD hS => ?_)
          obtain ⟨z_81, f_81⟩ := u
          try dsimp only at hw
          obtain ⟨q1_81, q2_81⟩ := hw
          have q1_81 := q1_81.symm
          subst q1_81
          have q2_81 := q2_81.symm
          subst q2_81
          have hP : va_P D vwCl [(x, .inr (5, [.ref r, .ref t, .ref im, .int hi, .ref tx, .ref ch, .ref ro, .ref rf, .ref pl, .ref ot, .ref cl])), (rf, .inl (cI, 6, .inl F)), (r, .inr (1, [.int q, .int nw, .ref rn])), (rn, .inl (cI, 20, .inl v)), (ch, .inr (0, [.int (ch_z cz + 1), .ref cn])), (cn, .inl (cI, 48, .inl (ch_keep cz cf w k (rg_val v w k))))] H := hP.sub [0, 1, 2, 3, 4, 5] rfl
          have hD : va_D A [(x, .inr (5, [.ref r, .ref t, .ref im, .int hi, .ref tx, .ref ch, .ref ro, .ref rf, .ref pl, .ref ot, .ref cl])), (rf, .inl (cI, 6, .inl F)), (r, .inr (1, [.int q, .int nw, .ref rn])), (rn, .inl (cI, 20, .inl v)), (ch, .inr (0, [.int (ch_z cz + 1), .ref cn])), (cn, .inl (cI, 48, .inl (ch_keep cz cf w k (rg_val v w k))))] := hD.sub [0, 1, 2, 3, 4, 5] (by decide) rfl
          refine lv_aload_n hx hb dX5_change_84 rfl (lv_at hl 1 rfl) ?_
          refine va_get (D := D) (ci := 5) (v := .ref r) (C := RX5) (T := TX5) (N := 11) hx hb hts (in_X5_change_X5) hown hK hP 0 rfl rfl 0 (by decide) (hts (.fieldLink RX5 10 "StepsRoundCircle" "ring" "LStepsRoundCircle$Ring;") (by decide +kernel)) (fun _ h9 => h9) rfl dX5_change_85 ?_
          refine lv_iload_n hx hb dX5_change_88 rfl (lv_at hl 2 rfl) ?_
          refine lv_iload_n hx hb dX5_change_89 rfl (lv_at hl 3 rfl) ?_
          refine lv_iload_n hx hb dX5_change_90 rfl (lv_at hl 4 rfl) ?_
          refine wrVv (As := [.int w, .int k, .int x0]) (rest := []) (wr := [(x, .inr (5, [.ref r, .ref t, .ref im, .int hi, .ref tx, .ref ch, .ref ro, .ref rf, .ref pl, .ref ot, .ref cl])), (rf, .inl (cI, 6, .inl F)), (ch, .inr (0, [.int (ch_z cz + 1), .ref cn])), (cn, .inl (cI, 48, .inl (ch_keep cz cf w k (rg_val v w k))))]) (A := A) ⟨hx, hb, hml, hown, hts⟩ (c_X1_setValue l D cI cZ cR r rn q nw v w k x0  H.size) (cwV 3 hts gX5_change_X1_setValue rfl rfl rfl (by decide +kernel) ⟨Nat.le_of_ble_eq_true rfl, Nat.le_of_ble_eq_true rfl⟩) hK hN hP hD hS hA 2 1 rfl rfl rfl [2, 3] [0, 1, 4, 5] rfl (by decide) rfl (by decide) (by decide) rfl hl.1 rfl (Nat.le_of_ble_eq_true rfl) dX5_change_91 ⟨Nat.zero_le _, Nat.zero_le _⟩ (fun u H locs hw hP hD hS => ?_)
          obtain ⟨v_91, rfl⟩ : ∃ z, z = u := ⟨_, rfl⟩
          try dsimp only at hw
          have q1_91 := hw
          have q1_91 := q1_91.symm
          subst q1_91
          have hP : va_P D vwCl [(x, .inr (5, [.ref r, .ref t, .ref im, .int hi, .ref tx, .ref ch, .ref ro, .ref rf, .ref pl, .ref ot, .ref cl])), (rf, .inl (cI, 6, .inl F)), (r, .inr (1, [.int q, .int nw, .ref rn])), (rn, .inl (cI, 20, .inl (rg_set v w k x0))), (ch, .inr (0, [.int (ch_z cz + 1), .ref cn])), (cn, .inl (cI, 48, .inl (ch_keep cz cf w k (rg_val v w k))))] H := hP.sub [0, 1, 4, 5, 2, 3] rfl
          have hD : va_D A [(x, .inr (5, [.ref r, .ref t, .ref im, .int hi, .ref tx, .ref ch, .ref ro, .ref rf, .ref pl, .ref ot, .ref cl])), (rf, .inl (cI, 6, .inl F)), (r, .inr (1, [.int q, .int nw, .ref rn])), (rn, .inl (cI, 20, .inl (rg_set v w k x0))), (ch, .inr (0, [.int (ch_z cz + 1), .ref cn])), (cn, .inl (cI, 48, .inl (ch_keep cz cf w k (rg_val v w k))))] := hD.sub [0, 1, 4, 5, 2, 3] (by decide) rfl
          refine lv_iload hx hb dX5_change_94 (lv_at hl 0 rfl) ?_
          exact wrI (w1 := (fun (u : (Nat → Int32) × (Nat → Int32) × Int32 × (Nat → Int32)) => [(x, .inr (5, [.ref r, .ref t, .ref im, .int hi, .ref tx, .ref ch, .ref ro, .ref rf, .ref pl, .ref ot, .ref cl])), (rf, .inl (cI, 6, .inl u.1)), (r, .inr (1, [.int q, .int nw, .ref rn])), (rn, .inl (cI, 20, .inl u.2.1)), (ch, .inr (0, [.int u.2.2.1, .ref cn])), (cn, .inl (cI, 48, .inl u.2.2.2))])) (F, (rg_set v w k x0), (ch_z cz + 1), (ch_keep cz cf w k (rg_val v w k))) hx hb hr hlocks dX5_change_96 hS (hP.sub [0, 1, 2, 3, 4, 5] rfl) (hD.sub [0, 1, 2, 3, 4, 5] (by decide) rfl) (by have e9 : rf_chg q nw w k x0 = 0 := (by simp [rf_chg, c_8, c_22, c_33, Int32.not_lt.mpr c_33, c_52, Int32.not_lt.mpr c_52]); simp [e9])
        · skip
          refine lv_aload_n hx hb dX5_change_55 rfl (lv_at hl 0 rfl) ?_
          refine lv_bipush (v := (-6)) hx hb dX5_change_56 (by decide) ?_
          refine wrVi (As := [.int (-6)]) (rest := []) (wr := [(r, .inr (1, [.int q, .int nw, .ref rn])), (rn, .inl (cI, 20, .inl v)), (ch, .inr (0, [.int cz, .ref cn])), (cn, .inl (cI, 48, .inl cf))]) (A := A) ⟨hx, hb, hml, hown, hts⟩ (c_X5_refuse l D cI cZ cR x r t im tx ch ro rf pl ot cl hi F (-6)  s.heap.size) (cwV 1 hts gX5_change_X5_refuse rfl rfl rfl (by decide +kernel) ⟨Nat.le_of_ble_eq_true rfl, Nat.le_of_ble_eq_true rfl⟩) hK hN hP hD hS hA 0 5 rfl rfl rfl [0, 1] [2, 3, 4, 5] rfl (by decide) rfl (by decide) (by decide) rfl hl.1 rfl (Nat.le_of_ble_eq_true rfl) dX5_change_58 ⟨Nat.zero_le _, Nat.zero_le _⟩ (fun r_58 u H locs hw hP hD hS => ?_)
          obtain ⟨F_58, rfl⟩ : ∃ z, z = u := ⟨_, rfl⟩
          try dsimp only at hw
          obtain ⟨q1_58, q2_58⟩ := hw
          have q1_58 := q1_58.symm
          subst q1_58
          have q2_58 := q2_58.symm
          subst q2_58
          have hP : va_P D vwCl [(x, .inr (5, [.ref r, .ref t, .ref im, .int hi, .ref tx, .ref ch, .ref ro, .ref rf, .ref pl, .ref ot, .ref cl])), (rf, .inl (cI, 6, .inl (rf_bump F (-6)))), (r, .inr (1, [.int q, .int nw, .ref rn])), (rn, .inl (cI, 20, .inl v)), (ch, .inr (0, [.int cz, .ref cn])), (cn, .inl (cI, 48, .inl cf))] H := hP.sub [4, 5, 0, 1, 2, 3] rfl
          have hD : va_D A [(x, .inr (5, [.ref r, .ref t, .ref im, .int hi, .ref tx, .ref ch, .ref ro, .ref rf, .ref pl, .ref ot, .ref cl])), (rf, .inl (cI, 6, .inl (rf_bump F (-6)))), (r, .inr (1, [.int q, .int nw, .ref rn])), (rn, .inl (cI, 20, .inl v)), (ch, .inr (0, [.int cz, .ref cn])), (cn, .inl (cI, 48, .inl cf))] := hD.sub [4, 5, 0, 1, 2, 3] (by decide) rfl
          exact wrI (w1 := (fun (u : (Nat → Int32) × (Nat → Int32) × Int32 × (Nat → Int32)) => [(x, .inr (5, [.ref r, .ref t, .ref im, .int hi, .ref tx, .ref ch, .ref ro, .ref rf, .ref pl, .ref ot, .ref cl])), (rf, .inl (cI, 6, .inl u.1)), (r, .inr (1, [.int q, .int nw, .ref rn])), (rn, .inl (cI, 20, .inl u.2.1)), (ch, .inr (0, [.int u.2.2.1, .ref cn])), (cn, .inl (cI, 48, .inl u.2.2.2))])) ((rf_bump F (-6)), v, cz, cf) hx hb hr hlocks dX5_change_61 hS (hP.sub [0, 1, 2, 3, 4, 5] rfl) (hD.sub [0, 1, 2, 3, 4, 5] (by decide) rfl) (by have e9 : rf_chg q nw w k x0 = -6 := (by simp [rf_chg, c_8, c_22, c_33, Int32.not_lt.mpr c_33, c_52, Int32.not_le.mp c_52]); simp [e9])
      · skip
        refine lv_aload_n hx hb dX5_change_36 rfl (lv_at hl 0 rfl) ?_
        refine lv_bipush (v := (-4)) hx hb dX5_change_37 (by decide) ?_
        refine wrVi (As := [.int (-4)]) (rest := []) (wr := [(r, .inr (1, [.int q, .int nw, .ref rn])), (rn, .inl (cI, 20, .inl v)), (ch, .inr (0, [.int cz, .ref cn])), (cn, .inl (cI, 48, .inl cf))]) (A := A) ⟨hx, hb, hml, hown, hts⟩ (c_X5_refuse l D cI cZ cR x r t im tx ch ro rf pl ot cl hi F (-4)  s.heap.size) (cwV 1 hts gX5_change_X5_refuse rfl rfl rfl (by decide +kernel) ⟨Nat.le_of_ble_eq_true rfl, Nat.le_of_ble_eq_true rfl⟩) hK hN hP hD hS hA 0 5 rfl rfl rfl [0, 1] [2, 3, 4, 5] rfl (by decide) rfl (by decide) (by decide) rfl hl.1 rfl (Nat.le_of_ble_eq_true rfl) dX5_change_39 ⟨Nat.zero_le _, Nat.zero_le _⟩ (fun r_39 u H locs hw hP hD hS => ?_)
        obtain ⟨F_39, rfl⟩ : ∃ z, z = u := ⟨_, rfl⟩
        try dsimp only at hw
        obtain ⟨q1_39, q2_39⟩ := hw
        have q1_39 := q1_39.symm
        subst q1_39
        have q2_39 := q2_39.symm
        subst q2_39
        have hP : va_P D vwCl [(x, .inr (5, [.ref r, .ref t, .ref im, .int hi, .ref tx, .ref ch, .ref ro, .ref rf, .ref pl, .ref ot, .ref cl])), (rf, .inl (cI, 6, .inl (rf_bump F (-4)))), (r, .inr (1, [.int q, .int nw, .ref rn])), (rn, .inl (cI, 20, .inl v)), (ch, .inr (0, [.int cz, .ref cn])), (cn, .inl (cI, 48, .inl cf))] H := hP.sub [4, 5, 0, 1, 2, 3] rfl
        have hD : va_D A [(x, .inr (5, [.ref r, .ref t, .ref im, .int hi, .ref tx, .ref ch, .ref ro, .ref rf, .ref pl, .ref ot, .ref cl])), (rf, .inl (cI, 6, .inl (rf_bump F (-4)))), (r, .inr (1, [.int q, .int nw, .ref rn])), (rn, .inl (cI, 20, .inl v)), (ch, .inr (0, [.int cz, .ref cn])), (cn, .inl (cI, 48, .inl cf))] := hD.sub [4, 5, 0, 1, 2, 3] (by decide) rfl
        exact wrI (w1 := (fun (u : (Nat → Int32) × (Nat → Int32) × Int32 × (Nat → Int32)) => [(x, .inr (5, [.ref r, .ref t, .ref im, .int hi, .ref tx, .ref ch, .ref ro, .ref rf, .ref pl, .ref ot, .ref cl])), (rf, .inl (cI, 6, .inl u.1)), (r, .inr (1, [.int q, .int nw, .ref rn])), (rn, .inl (cI, 20, .inl u.2.1)), (ch, .inr (0, [.int u.2.2.1, .ref cn])), (cn, .inl (cI, 48, .inl u.2.2.2))])) ((rf_bump F (-4)), v, cz, cf) hx hb hr hlocks dX5_change_42 hS (hP.sub [0, 1, 2, 3, 4, 5] rfl) (hD.sub [0, 1, 2, 3, 4, 5] (by decide) rfl) (by have e9 : rf_chg q nw w k x0 = -4 := (by simp [rf_chg, c_8, c_22, c_33, Int32.not_le.mp c_33]); simp [e9])
    · skip
      have c_22 := bi_eq0.mp c_22
      refine lv_aload_n hx hb dX5_change_25 rfl (lv_at hl 0 rfl) ?_
      refine lv_bipush (v := (-2)) hx hb dX5_change_26 (by decide) ?_
      refine wrVi (As := [.int (-2)]) (rest := []) (wr := [(r, .inr (1, [.int q, .int nw, .ref rn])), (rn, .inl (cI, 20, .inl v)), (ch, .inr (0, [.int cz, .ref cn])), (cn, .inl (cI, 48, .inl cf))]) (A := A) ⟨hx, hb, hml, hown, hts⟩ (c_X5_refuse l D cI cZ cR x r t im tx ch ro rf pl ot cl hi F (-2)  s.heap.size) (cwV 1 hts gX5_change_X5_refuse rfl rfl rfl (by decide +kernel) ⟨Nat.le_of_ble_eq_true rfl, Nat.le_of_ble_eq_true rfl⟩) hK hN hP hD hS hA 0 5 rfl rfl rfl [0, 1] [2, 3, 4, 5] rfl (by decide) rfl (by decide) (by decide) rfl hl.1 rfl (Nat.le_of_ble_eq_true rfl) dX5_change_28 ⟨Nat.zero_le _, Nat.zero_le _⟩ (fun r_28 u H locs hw hP hD hS => ?_)
      obtain ⟨F_28, rfl⟩ : ∃ z, z = u := ⟨_, rfl⟩
      try dsimp only at hw
      obtain ⟨q1_28, q2_28⟩ := hw
      have q1_28 := q1_28.symm
      subst q1_28
      have q2_28 := q2_28.symm
      subst q2_28
      have hP : va_P D vwCl [(x, .inr (5, [.ref r, .ref t, .ref im, .int hi, .ref tx, .ref ch, .ref ro, .ref rf, .ref pl, .ref ot, .ref cl])), (rf, .inl (cI, 6, .inl (rf_bump F (-2)))), (r, .inr (1, [.int q, .int nw, .ref rn])), (rn, .inl (cI, 20, .inl v)), (ch, .inr (0, [.int cz, .ref cn])), (cn, .inl (cI, 48, .inl cf))] H := hP.sub [4, 5, 0, 1, 2, 3] rfl
      have hD : va_D A [(x, .inr (5, [.ref r, .ref t, .ref im, .int hi, .ref tx, .ref ch, .ref ro, .ref rf, .ref pl, .ref ot, .ref cl])), (rf, .inl (cI, 6, .inl (rf_bump F (-2)))), (r, .inr (1, [.int q, .int nw, .ref rn])), (rn, .inl (cI, 20, .inl v)), (ch, .inr (0, [.int cz, .ref cn])), (cn, .inl (cI, 48, .inl cf))] := hD.sub [4, 5, 0, 1, 2, 3] (by decide) rfl
      exact wrI (w1 := (fun (u : (Nat → Int32) × (Nat → Int32) × Int32 × (Nat → Int32)) => [(x, .inr (5, [.ref r, .ref t, .ref im, .int hi, .ref tx, .ref ch, .ref ro, .ref rf, .ref pl, .ref ot, .ref cl])), (rf, .inl (cI, 6, .inl u.1)), (r, .inr (1, [.int q, .int nw, .ref rn])), (rn, .inl (cI, 20, .inl u.2.1)), (ch, .inr (0, [.int u.2.2.1, .ref cn])), (cn, .inl (cI, 48, .inl u.2.2.2))])) ((rf_bump F (-2)), v, cz, cf) hx hb hr hlocks dX5_change_31 hS (hP.sub [0, 1, 2, 3, 4, 5] rfl) (hD.sub [0, 1, 2, 3, 4, 5] (by decide) rfl) (by have e9 : rf_chg q nw w k x0 = -2 := (by simp [rf_chg, c_8, c_22]); simp [e9])
  · skip
    have c_8 := bi_eq0.mp c_8
    refine lv_aload_n hx hb dX5_change_11 rfl (lv_at hl 0 rfl) ?_
    refine lv_iconst (v := (-1)) hx hb dX5_change_12 (by decide) ?_
    refine wrVi (As := [.int (-1)]) (rest := []) (wr := [(r, .inr (1, [.int q, .int nw, .ref rn])), (rn, .inl (cI, 20, .inl v)), (ch, .inr (0, [.int cz, .ref cn])), (cn, .inl (cI, 48, .inl cf))]) (A := A) ⟨hx, hb, hml, hown, hts⟩ (c_X5_refuse l D cI cZ cR x r t im tx ch ro rf pl ot cl hi F (-1)  s.heap.size) (cwV 1 hts gX5_change_X5_refuse rfl rfl rfl (by decide +kernel) ⟨Nat.le_of_ble_eq_true rfl, Nat.le_of_ble_eq_true rfl⟩) hK hN hP hD hS hA 0 5 rfl rfl rfl [0, 1] [2, 3, 4, 5] rfl (by decide) rfl (by decide) (by decide) rfl hl.1 rfl (Nat.le_of_ble_eq_true rfl) dX5_change_13 ⟨Nat.zero_le _, Nat.zero_le _⟩ (fun r_13 u H locs hw hP hD hS => ?_)
    obtain ⟨F_13, rfl⟩ : ∃ z, z = u := ⟨_, rfl⟩
    try dsimp only at hw
    obtain ⟨q1_13, q2_13⟩ := hw
    have q1_13 := q1_13.symm
    subst q1_13
    have q2_13 := q2_13.symm
    subst q2_13
    have hP : va_P D vwCl [(x, .inr (5, [.ref r, .ref t, .ref im, .int hi, .ref tx, .ref ch, .ref ro, .ref rf, .ref pl, .ref ot, .ref cl])), (rf, .inl (cI, 6, .inl (rf_bump F (-1)))), (r, .inr (1, [.int q, .int nw, .ref rn])), (rn, .inl (cI, 20, .inl v)), (ch, .inr (0, [.int cz, .ref cn])), (cn, .inl (cI, 48, .inl cf))] H := hP.sub [4, 5, 0, 1, 2, 3] rfl
    have hD : va_D A [(x, .inr (5, [.ref r, .ref t, .ref im, .int hi, .ref tx, .ref ch, .ref ro, .ref rf, .ref pl, .ref ot, .ref cl])), (rf, .inl (cI, 6, .inl (rf_bump F (-1)))), (r, .inr (1, [.int q, .int nw, .ref rn])), (rn, .inl (cI, 20, .inl v)), (ch, .inr (0, [.int cz, .ref cn])), (cn, .inl (cI, 48, .inl cf))] := hD.sub [4, 5, 0, 1, 2, 3] (by decide) rfl
    exact wrI (w1 := (fun (u : (Nat → Int32) × (Nat → Int32) × Int32 × (Nat → Int32)) => [(x, .inr (5, [.ref r, .ref t, .ref im, .int hi, .ref tx, .ref ch, .ref ro, .ref rf, .ref pl, .ref ot, .ref cl])), (rf, .inl (cI, 6, .inl u.1)), (r, .inr (1, [.int q, .int nw, .ref rn])), (rn, .inl (cI, 20, .inl u.2.1)), (ch, .inr (0, [.int u.2.2.1, .ref cn])), (cn, .inl (cI, 48, .inl u.2.2.2))])) ((rf_bump F (-1)), v, cz, cf) hx hb hr hlocks dX5_change_16 hS (hP.sub [0, 1, 2, 3, 4, 5] rfl) (hD.sub [0, 1, 2, 3, 4, 5] (by decide) rfl) (by have e9 : rf_chg q nw w k x0 = -1 := (by simp [rf_chg, c_8]); simp [e9])

set_option maxHeartbeats 4000000 in
set_option maxRecDepth 100000 in
theorem c_X5_marks (l : Launch) (D : va_G) (cI cZ cR : ClassId) (x r t im tx ch ro rf pl ot cl : Nat) (hi : Int32) (F : Nat → Int32) (rn : Nat) (q nw : Int32) (v : Nat → Int32) (pn : Nat) (pz : Int32) (pf : Nat → Int32) (w n k : Int32) (sz : Nat) : Met l yX5_marks wsX5_marks ({ frames := 5, cells := 0, slots := 0, locals := 127 }) (PcW D cI cZ cR [.ref x, .int w, .int n, .int k] [(x, .inr (5, [.ref r, .ref t, .ref im, .int hi, .ref tx, .ref ch, .ref ro, .ref rf, .ref pl, .ref ot, .ref cl])), (rf, .inl (cI, 6, .inl F)), (r, .inr (1, [.int q, .int nw, .ref rn])), (rn, .inl (cI, 20, .inl v)), (pl, .inr (3, [.int pz, .ref pn])), (pn, .inl (cI, 200, .inl pf))] sz) (va_Qi (fun (res : Int32) (u : (Nat → Int32) × Int32 × (Nat → Int32)) => res = (if rf_beh nw w n k 3 = 0 then mkA (mk (plK q v w) n.toNatClampNeg) k else rf_beh nw w n k 3) ∧ u.1 = (if rf_beh nw w n k 3 = 0 then F else rf_bump F (rf_beh nw w n k 3))) (Bw D (fun (u : (Nat → Int32) × Int32 × (Nat → Int32)) => [(x, .inr (5, [.ref r, .ref t, .ref im, .int hi, .ref tx, .ref ch, .ref ro, .ref rf, .ref pl, .ref ot, .ref cl])), (rf, .inl (cI, 6, .inl u.1)), (r, .inr (1, [.int q, .int nw, .ref rn])), (rn, .inl (cI, 20, .inl v)), (pl, .inr (3, [.int u.2.1, .ref pn])), (pn, .inl (cI, 200, .inl u.2.2))]) (va_A [(x, .inr (5, [.ref r, .ref t, .ref im, .int hi, .ref tx, .ref ch, .ref ro, .ref rf, .ref pl, .ref ot, .ref cl])), (rf, .inl (cI, 6, .inl F)), (r, .inr (1, [.int q, .int nw, .ref rn])), (rn, .inl (cI, 20, .inl v)), (pl, .inr (3, [.int pz, .ref pn])), (pn, .inl (cI, 200, .inl pf))] sz)) (va_A [(x, .inr (5, [.ref r, .ref t, .ref im, .int hi, .ref tx, .ref ch, .ref ro, .ref rf, .ref pl, .ref ot, .ref cl])), (rf, .inl (cI, 6, .inl F)), (r, .inr (1, [.int q, .int nw, .ref rn])), (rn, .inl (cI, 20, .inl v)), (pl, .inr (3, [.int pz, .ref pn])), (pn, .inl (cI, 200, .inl pf))] sz)) 0 0 (va_A [(x, .inr (5, [.ref r, .ref t, .ref im, .int hi, .ref tx, .ref ch, .ref ro, .ref rf, .ref pl, .ref ot, .ref cl])), (rf, .inl (cI, 6, .inl F)), (r, .inr (1, [.int q, .int nw, .ref rn])), (rn, .inl (cI, 20, .inl v)), (pl, .inr (3, [.int pz, .ref pn])), (pn, .inl (cI, 200, .inl pf))] sz) := by
  refine Met.ofW (cc := cX5_marks) (maxL := 5) (ret := (some .int)) (by decide) rfl ?_
  intro p e s m args below meth c s₁ B hml hv
  obtain ⟨rfl, hsz, hP, hK, hD0, hN⟩ := hv
  have hx := B.exec
  have hb := B.bytes
  have hr := B.returns
  have hts := atoms_spec (ws := wsX5_marks) B.pre
  have hown : s.vm.findClass RX5 = some m.cls := findClass_of_methodNamed B.named
  have hlocks := B.notSynchronized
  subst hsz
  have hD := hD0.self (sz := s.heap.size)
  generalize hAe : va_A [(x, .inr (5, [.ref r, .ref t, .ref im, .int hi, .ref tx, .ref ch, .ref ro, .ref rf, .ref pl, .ref ot, .ref cl])), (rf, .inl (cI, 6, .inl F)), (r, .inr (1, [.int q, .int nw, .ref rn])), (rn, .inl (cI, 20, .inl v)), (pl, .inr (3, [.int pz, .ref pn])), (pn, .inl (cI, 200, .inl pf))] s.heap.size = A at hD ⊢
  have hA : ∀ q : Nat, s.heap.size ≤ q → A q := fun q h => by rw [← hAe]; exact Or.inr h
  have hS : va_S A s.heap s.heap [] := va_S.rf
  have hP : va_P D vwCl [(x, .inr (5, [.ref r, .ref t, .ref im, .int hi, .ref tx, .ref ch, .ref ro, .ref rf, .ref pl, .ref ot, .ref cl])), (rf, .inl (cI, 6, .inl F)), (r, .inr (1, [.int q, .int nw, .ref rn])), (rn, .inl (cI, 20, .inl v)), (pl, .inr (3, [.int pz, .ref pn])), (pn, .inl (cI, 200, .inl pf))] s.heap := hP
  have hl := lv_entry ([.ref x, .int w, .int n, .int k]) (n := 5) (Nat.le_of_ble_eq_true rfl)
  rw [lg_entry_eq]
  generalize (lg_sl ([.ref x, .int w, .int n, .int k]) ++ List.replicate (5 - (lg_sl ([.ref x, .int w, .int n, .int k])).length) Slot.unset).toArray = ls at hl ⊢
  have hl : lv_has ls 5 [(0, .ref x), (1, .int w), (2, .int n), (3, .int k)] := hl
  refine lv_aload_n hx hb dX5_marks_0 rfl (lv_at hl 0 rfl) ?_
  refine lv_iload_n hx hb dX5_marks_1 rfl (lv_at hl 1 rfl) ?_
  refine lv_iload_n hx hb dX5_marks_2 rfl (lv_at hl 2 rfl) ?_
  refine lv_iload_n hx hb dX5_marks_3 rfl (lv_at hl 3 rfl) ?_
  refine lv_iconst (v := 3) hx hb dX5_marks_4 (by decide) ?_
  refine rdV (As := [.int w, .int n, .int k, .int 3]) (rest := []) ⟨hx, hb, hml, hown, hts⟩ (c_X5_refusalBehind l D cI cZ cR x r t im tx ch ro rf pl ot cl hi rn q nw v w n k 3 ) (cwV 4 hts gX5_marks_X5_refusalBehind rfl rfl rfl (by decide +kernel) ⟨Nat.le_of_ble_eq_true rfl, Nat.le_of_ble_eq_true rfl⟩) hK hN hP 0 5 rfl rfl rfl [0, 2, 3] rfl rfl hl.1 rfl (Nat.le_of_ble_eq_true rfl) dX5_marks_5 ⟨Nat.zero_le _, Nat.zero_le _⟩ ?_
  refine lv_istore (lv' := [(4, .int (rf_beh nw w n k 3)), (0, .ref x), (1, .int w), (2, .int n), (3, .int k)]) hx hb dX5_marks_8 hl (by decide) rfl (fun ls hl => ?_)
  refine lv_iload hx hb dX5_marks_10 (lv_at hl 0 rfl) ?_
  refine lv_if_eq (tgt := 22) hx hb dX5_marks_12 (by decide) (fun c_12 => ?_) (fun c_12 => ?_)
  · skip
    have hok := rf_beh_ok c_12
    have hn := n200 hok.2.1
    have hM0 := mk_ne (pl := plK q v w) (n := n.toNatClampNeg) (by omega)
    refine lv_aload_n hx hb dX5_marks_22 rfl (lv_at hl 1 rfl) ?_
    refine lv_aload_n hx hb dX5_marks_23 rfl (lv_at hl 1 rfl) ?_
    refine va_get (D := D) (ci := 5) (v := .ref pl) (C := RX5) (T := TX5) (N := 11) hx hb hts (in_X5_marks_X5) hown hK hP 0 rfl rfl 8 (by decide) (hts (.fieldLink RX5 53 "StepsRoundCircle" "places" "LStepsRoundCircle$Sorted;") (by decide +kernel)) (fun _ h9 => h9) rfl dX5_marks_24 ?_
    refine lv_iload_n hx hb dX5_marks_27 rfl (lv_at hl 2 rfl) ?_
    refine lv_iload_n hx hb dX5_marks_28 rfl (lv_at hl 3 rfl) ?_
    refine wrVv (As := [.ref pl, .int w, .int n]) (rest := []) (wr := [(rf, .inl (cI, 6, .inl F))]) (A := A) ⟨hx, hb, hml, hown, hts⟩ (c_X5_takeMarks l D cI cZ cR x r t im tx ch ro rf pl ot cl hi rn q nw v pl pn pz pf w n hn.2.1 s.heap.size) (cwV 3 hts gX5_marks_X5_takeMarks rfl rfl rfl (by decide +kernel) ⟨Nat.le_of_ble_eq_true rfl, Nat.le_of_ble_eq_true rfl⟩) hK hN hP hD hS hA 0 5 rfl rfl rfl [0, 2, 3, 4, 5] [1] rfl (by decide) rfl (by decide) (by decide) rfl hl.1 rfl (Nat.le_of_ble_eq_true rfl) dX5_marks_29 ⟨Nat.zero_le _, Nat.zero_le _⟩ (fun u H locs hw hP hD hS => ?_)
    obtain ⟨z_29, f_29⟩ := u
    try dsimp only at hw
    have h1_29 := hw
    have hP : va_P D vwCl [(x, .inr (5, [.ref r, .ref t, .ref im, .int hi, .ref tx, .ref ch, .ref ro, .ref rf, .ref pl, .ref ot, .ref cl])), (rf, .inl (cI, 6, .inl F)), (r, .inr (1, [.int q, .int nw, .ref rn])), (rn, .inl (cI, 20, .inl v)), (pl, .inr (3, [.int z_29, .ref pn])), (pn, .inl (cI, 200, .inl f_29))] H := hP.sub [1, 0, 2, 3, 4, 5] rfl
    have hD : va_D A [(x, .inr (5, [.ref r, .ref t, .ref im, .int hi, .ref tx, .ref ch, .ref ro, .ref rf, .ref pl, .ref ot, .ref cl])), (rf, .inl (cI, 6, .inl F)), (r, .inr (1, [.int q, .int nw, .ref rn])), (rn, .inl (cI, 20, .inl v)), (pl, .inr (3, [.int z_29, .ref pn])), (pn, .inl (cI, 200, .inl f_29))] := hD.sub [1, 0, 2, 3, 4, 5] (by decide) rfl
    refine lv_iload_n hx hb dX5_marks_32 rfl (lv_at hl 4 rfl) ?_
    by_cases c_33_0 : k = 0
    · skip
      refine lv_lookup (off := 27) (tgt := 60) hx hb dX5_marks_33 (by decide) (by rw [c_33_0]; rfl) (by decide) ?_
      refine lv_aload_n hx hb dX5_marks_60 rfl (lv_at hl 1 rfl) ?_
      refine va_get (D := D) (ci := 5) (v := .ref pl) (C := RX5) (T := TX5) (N := 11) hx hb hts (in_X5_marks_X5) hown hK hP 0 rfl rfl 8 (by decide) (hts (.fieldLink RX5 53 "StepsRoundCircle" "places" "LStepsRoundCircle$Sorted;") (by decide +kernel)) (fun _ h9 => h9) rfl dX5_marks_61 ?_
      refine va_get (D := D) (ci := 3) (v := .int z_29) (C := RX3) (T := TX3) (N := 2) hx hb hts (in_X5_marks_X3) hown hK hP 4 rfl rfl 0 (by decide) (hts (.fieldLink RX5 150 "StepsRoundCircle$Sorted" "size" "I") (by decide +kernel)) (fun _ h9 => h9) rfl dX5_marks_64 ?_
      exact wrI (w1 := (fun (u : (Nat → Int32) × Int32 × (Nat → Int32)) => [(x, .inr (5, [.ref r, .ref t, .ref im, .int hi, .ref tx, .ref ch, .ref ro, .ref rf, .ref pl, .ref ot, .ref cl])), (rf, .inl (cI, 6, .inl u.1)), (r, .inr (1, [.int q, .int nw, .ref rn])), (rn, .inl (cI, 20, .inl v)), (pl, .inr (3, [.int u.2.1, .ref pn])), (pn, .inl (cI, 200, .inl u.2.2))])) (F, z_29, f_29) hx hb hr hlocks dX5_marks_67 hS (hP.sub [0, 1, 2, 3, 4, 5] rfl) (hD.sub [0, 1, 2, 3, 4, 5] (by decide) rfl) (⟨by rw [if_pos c_12]; unfold mkA; rw [if_pos c_33_0]; exact h1_29.1, by rw [if_pos c_12]⟩)
    by_cases c_33_1 : k = 1
    · skip
      refine lv_lookup (off := 35) (tgt := 68) hx hb dX5_marks_33 (by decide) (by rw [c_33_1]; rfl) (by decide) ?_
      refine lv_aload_n hx hb dX5_marks_68 rfl (lv_at hl 1 rfl) ?_
      refine va_get (D := D) (ci := 5) (v := .ref pl) (C := RX5) (T := TX5) (N := 11) hx hb hts (in_X5_marks_X5) hown hK hP 0 rfl rfl 8 (by decide) (hts (.fieldLink RX5 53 "StepsRoundCircle" "places" "LStepsRoundCircle$Sorted;") (by decide +kernel)) (fun _ h9 => h9) rfl dX5_marks_69 ?_
      refine lv_iconst (v := 0) hx hb dX5_marks_72 (by decide) ?_
      refine rdV (As := [.int 0]) (rest := []) ⟨hx, hb, hml, hown, hts⟩ (c_X3_get l D cI cZ cR pl pn z_29 f_29 0 ) (cwV 1 hts gX5_marks_X3_get rfl rfl rfl (by decide +kernel) ⟨Nat.le_of_ble_eq_true rfl, Nat.le_of_ble_eq_true rfl⟩) hK hN hP 4 3 rfl rfl rfl [4, 5] rfl rfl hl.1 rfl (Nat.le_of_ble_eq_true rfl) dX5_marks_73 ⟨Nat.zero_le _, Nat.zero_le _⟩ ?_
      exact wrI (w1 := (fun (u : (Nat → Int32) × Int32 × (Nat → Int32)) => [(x, .inr (5, [.ref r, .ref t, .ref im, .int hi, .ref tx, .ref ch, .ref ro, .ref rf, .ref pl, .ref ot, .ref cl])), (rf, .inl (cI, 6, .inl u.1)), (r, .inr (1, [.int q, .int nw, .ref rn])), (rn, .inl (cI, 20, .inl v)), (pl, .inr (3, [.int u.2.1, .ref pn])), (pn, .inl (cI, 200, .inl u.2.2))])) (F, z_29, f_29) hx hb hr hlocks dX5_marks_76 hS (hP.sub [0, 1, 2, 3, 4, 5] rfl) (hD.sub [0, 1, 2, 3, 4, 5] (by decide) rfl) (⟨by rw [if_pos c_12]; unfold mkA; rw [if_neg c_33_0, if_pos c_33_1]; exact so_get_rep (j := 0) h1_29 hM0, by rw [if_pos c_12]⟩)
    refine lv_lookup (off := 44) (tgt := 77) hx hb dX5_marks_33 (by decide) (by rw [show Op.lookupswitch.offset _ _ _ = _ from lv_osw c_33_0 (by decide)]; rw [show Op.lookupswitch.offset _ _ _ = _ from lv_osw c_33_1 (by decide)]; rfl) (by decide) ?_
    refine lv_aload_n hx hb dX5_marks_77 rfl (lv_at hl 1 rfl) ?_
    refine va_get (D := D) (ci := 5) (v := .ref pl) (C := RX5) (T := TX5) (N := 11) hx hb hts (in_X5_marks_X5) hown hK hP 0 rfl rfl 8 (by decide) (hts (.fieldLink RX5 53 "StepsRoundCircle" "places" "LStepsRoundCircle$Sorted;") (by decide +kernel)) (fun _ h9 => h9) rfl dX5_marks_78 ?_
    refine lv_aload_n hx hb dX5_marks_81 rfl (lv_at hl 1 rfl) ?_
    refine va_get (D := D) (ci := 5) (v := .ref pl) (C := RX5) (T := TX5) (N := 11) hx hb hts (in_X5_marks_X5) hown hK hP 0 rfl rfl 8 (by decide) (hts (.fieldLink RX5 53 "StepsRoundCircle" "places" "LStepsRoundCircle$Sorted;") (by decide +kernel)) (fun _ h9 => h9) rfl dX5_marks_82 ?_
    refine va_get (D := D) (ci := 3) (v := .int z_29) (C := RX3) (T := TX3) (N := 2) hx hb hts (in_X5_marks_X3) hown hK hP 4 rfl rfl 0 (by decide) (hts (.fieldLink RX5 150 "StepsRoundCircle$Sorted" "size" "I") (by decide +kernel)) (fun _ h9 => h9) rfl dX5_marks_85 ?_
    refine lv_iconst (v := 1) hx hb dX5_marks_88 (by decide) ?_
    refine lv_isub hx hb dX5_marks_89 ?_
    refine rdV (As := [.int (z_29 - 1)]) (rest := []) ⟨hx, hb, hml, hown, hts⟩ (c_X3_get l D cI cZ cR pl pn z_29 f_29 (z_29 - 1) ) (cwV 1 hts gX5_marks_X3_get rfl rfl rfl (by decide +kernel) ⟨Nat.le_of_ble_eq_true rfl, Nat.le_of_ble_eq_true rfl⟩) hK hN hP 4 3 rfl rfl rfl [4, 5] rfl rfl hl.1 rfl (Nat.le_of_ble_eq_true rfl) dX5_marks_90 ⟨Nat.zero_le _, Nat.zero_le _⟩ ?_
    exact wrI (w1 := (fun (u : (Nat → Int32) × Int32 × (Nat → Int32)) => [(x, .inr (5, [.ref r, .ref t, .ref im, .int hi, .ref tx, .ref ch, .ref ro, .ref rf, .ref pl, .ref ot, .ref cl])), (rf, .inl (cI, 6, .inl u.1)), (r, .inr (1, [.int q, .int nw, .ref rn])), (rn, .inl (cI, 20, .inl v)), (pl, .inr (3, [.int u.2.1, .ref pn])), (pn, .inl (cI, 200, .inl u.2.2))])) (F, z_29, f_29) hx hb hr hlocks dX5_marks_93 hS (hP.sub [0, 1, 2, 3, 4, 5] rfl) (hD.sub [0, 1, 2, 3, 4, 5] (by decide) rfl) (⟨by rw [if_pos c_12]; unfold mkA; rw [if_neg c_33_0, if_neg c_33_1, ← so_get_rep h1_29 (show (mk (plK q v w) n.toNatClampNeg).length - 1 < (mk (plK q v w) n.toNatClampNeg).length by omega)]; congr 1; rw [h1_29.1]; exact pk_sub (a := (mk (plK q v w) n.toNatClampNeg).length) (b := 1) hM0, by rw [if_pos c_12]⟩)
  · skip
    refine lv_aload_n hx hb dX5_marks_15 rfl (lv_at hl 1 rfl) ?_
    refine lv_iload hx hb dX5_marks_16 (lv_at hl 0 rfl) ?_
    refine wrVi (As := [.int (rf_beh nw w n k 3)]) (rest := []) (wr := [(r, .inr (1, [.int q, .int nw, .ref rn])), (rn, .inl (cI, 20, .inl v)), (pl, .inr (3, [.int pz, .ref pn])), (pn, .inl (cI, 200, .inl pf))]) (A := A) ⟨hx, hb, hml, hown, hts⟩ (c_X5_refuse l D cI cZ cR x r t im tx ch ro rf pl ot cl hi F (rf_beh nw w n k 3)  s.heap.size) (cwV 1 hts gX5_marks_X5_refuse rfl rfl rfl (by decide +kernel) ⟨Nat.le_of_ble_eq_true rfl, Nat.le_of_ble_eq_true rfl⟩) hK hN hP hD hS hA 0 5 rfl rfl rfl [0, 1] [2, 3, 4, 5] rfl (by decide) rfl (by decide) (by decide) rfl hl.1 rfl (Nat.le_of_ble_eq_true rfl) dX5_marks_18 ⟨Nat.zero_le _, Nat.zero_le _⟩ (fun r_18 u H locs hw hP hD hS => ?_)
    obtain ⟨F_18, rfl⟩ : ∃ z, z = u := ⟨_, rfl⟩
    try dsimp only at hw
    obtain ⟨q1_18, q2_18⟩ := hw
    have q1_18 := q1_18.symm
    subst q1_18
    have q2_18 := q2_18.symm
    subst q2_18
    have hP : va_P D vwCl [(x, .inr (5, [.ref r, .ref t, .ref im, .int hi, .ref tx, .ref ch, .ref ro, .ref rf, .ref pl, .ref ot, .ref cl])), (rf, .inl (cI, 6, .inl (rf_bump F (rf_beh nw w n k 3)))), (r, .inr (1, [.int q, .int nw, .ref rn])), (rn, .inl (cI, 20, .inl v)), (pl, .inr (3, [.int pz, .ref pn])), (pn, .inl (cI, 200, .inl pf))] H := hP.sub [4, 5, 0, 1, 2, 3] rfl
    have hD : va_D A [(x, .inr (5, [.ref r, .ref t, .ref im, .int hi, .ref tx, .ref ch, .ref ro, .ref rf, .ref pl, .ref ot, .ref cl])), (rf, .inl (cI, 6, .inl (rf_bump F (rf_beh nw w n k 3)))), (r, .inr (1, [.int q, .int nw, .ref rn])), (rn, .inl (cI, 20, .inl v)), (pl, .inr (3, [.int pz, .ref pn])), (pn, .inl (cI, 200, .inl pf))] := hD.sub [4, 5, 0, 1, 2, 3] (by decide) rfl
    exact wrI (w1 := (fun (u : (Nat → Int32) × Int32 × (Nat → Int32)) => [(x, .inr (5, [.ref r, .ref t, .ref im, .int hi, .ref tx, .ref ch, .ref ro, .ref rf, .ref pl, .ref ot, .ref cl])), (rf, .inl (cI, 6, .inl u.1)), (r, .inr (1, [.int q, .int nw, .ref rn])), (rn, .inl (cI, 20, .inl v)), (pl, .inr (3, [.int u.2.1, .ref pn])), (pn, .inl (cI, 200, .inl u.2.2))])) ((rf_bump F (rf_beh nw w n k 3)), pz, pf) hx hb hr hlocks dX5_marks_21 hS (hP.sub [0, 1, 2, 3, 4, 5] rfl) (hD.sub [0, 1, 2, 3, 4, 5] (by decide) rfl) (by simp [c_12])

set_option maxHeartbeats 4000000 in
set_option maxRecDepth 100000 in
theorem c_X5_lengths (l : Launch) (D : va_G) (cI cZ cR : ClassId) (x r t im tx ch ro rf pl ot cl : Nat) (hi : Int32) (F : Nat → Int32) (rn : Nat) (q nw : Int32) (v : Nat → Int32) (pn : Nat) (pz : Int32) (pf : Nat → Int32) (on : Nat) (oz : Int32) (og : Nat → Int32) (w n j : Int32) (sz : Nat) : Met l yX5_lengths wsX5_lengths ({ frames := 6, cells := 0, slots := 0, locals := 150 }) (PcW D cI cZ cR [.ref x, .int w, .int n, .int j] [(x, .inr (5, [.ref r, .ref t, .ref im, .int hi, .ref tx, .ref ch, .ref ro, .ref rf, .ref pl, .ref ot, .ref cl])), (rf, .inl (cI, 6, .inl F)), (r, .inr (1, [.int q, .int nw, .ref rn])), (rn, .inl (cI, 20, .inl v)), (pl, .inr (3, [.int pz, .ref pn])), (pn, .inl (cI, 200, .inl pf)), (ot, .inr (3, [.int oz, .ref on])), (on, .inl (cI, 200, .inl og))] sz) (va_Qi (fun (res : Int32) (u : (Nat → Int32) × Int32 × (Nat → Int32) × Int32 × (Nat → Int32)) => res = (if rf_nth nw w n j (-1) = 0 then lenA q (mk (plK q v w) n.toNatClampNeg) j else rf_nth nw w n j (-1)) ∧ u.1 = (if rf_nth nw w n j (-1) = 0 then F else rf_bump F (rf_nth nw w n j (-1)))) (Bw D (fun (u : (Nat → Int32) × Int32 × (Nat → Int32) × Int32 × (Nat → Int32)) => [(x, .inr (5, [.ref r, .ref t, .ref im, .int hi, .ref tx, .ref ch, .ref ro, .ref rf, .ref pl, .ref ot, .ref cl])), (rf, .inl (cI, 6, .inl u.1)), (r, .inr (1, [.int q, .int nw, .ref rn])), (rn, .inl (cI, 20, .inl v)), (pl, .inr (3, [.int u.2.1, .ref pn])), (pn, .inl (cI, 200, .inl u.2.2.1)), (ot, .inr (3, [.int u.2.2.2.1, .ref on])), (on, .inl (cI, 200, .inl u.2.2.2.2))]) (va_A [(x, .inr (5, [.ref r, .ref t, .ref im, .int hi, .ref tx, .ref ch, .ref ro, .ref rf, .ref pl, .ref ot, .ref cl])), (rf, .inl (cI, 6, .inl F)), (r, .inr (1, [.int q, .int nw, .ref rn])), (rn, .inl (cI, 20, .inl v)), (pl, .inr (3, [.int pz, .ref pn])), (pn, .inl (cI, 200, .inl pf)), (ot, .inr (3, [.int oz, .ref on])), (on, .inl (cI, 200, .inl og))] sz)) (va_A [(x, .inr (5, [.ref r, .ref t, .ref im, .int hi, .ref tx, .ref ch, .ref ro, .ref rf, .ref pl, .ref ot, .ref cl])), (rf, .inl (cI, 6, .inl F)), (r, .inr (1, [.int q, .int nw, .ref rn])), (rn, .inl (cI, 20, .inl v)), (pl, .inr (3, [.int pz, .ref pn])), (pn, .inl (cI, 200, .inl pf)), (ot, .inr (3, [.int oz, .ref on])), (on, .inl (cI, 200, .inl og))] sz)) 0 0 (va_A [(x, .inr (5, [.ref r, .ref t, .ref im, .int hi, .ref tx, .ref ch, .ref ro, .ref rf, .ref pl, .ref ot, .ref cl])), (rf, .inl (cI, 6, .inl F)), (r, .inr (1, [.int q, .int nw, .ref rn])), (rn, .inl (cI, 20, .inl v)), (pl, .inr (3, [.int pz, .ref pn])), (pn, .inl (cI, 200, .inl pf)), (ot, .inr (3, [.int oz, .ref on])), (on, .inl (cI, 200, .inl og))] sz) := by
  refine Met.ofW (cc := cX5_lengths) (maxL := 5) (ret := (some .int)) (by decide) rfl ?_
  intro p e s m args below meth c s₁ B hml hv
  obtain ⟨rfl, hsz, hP, hK, hD0, hN⟩ := hv
  have hx := B.exec
  have hb := B.bytes
  have hr := B.returns
  have hts := atoms_spec (ws := wsX5_lengths) B.pre
  have hown : s.vm.findClass RX5 = some m.cls := findClass_of_methodNamed B.named
  have hlocks := B.notSynchronized
  subst hsz
  have hD := hD0.self (sz := s.heap.size)
  generalize hAe : va_A [(x, .inr (5, [.ref r, .ref t, .ref im, .int hi, .ref tx, .ref ch, .ref ro, .ref rf, .ref pl, .ref ot, .ref cl])), (rf, .inl (cI, 6, .inl F)), (r, .inr (1, [.int q, .int nw, .ref rn])), (rn, .inl (cI, 20, .inl v)), (pl, .inr (3, [.int pz, .ref pn])), (pn, .inl (cI, 200, .inl pf)), (ot, .inr (3, [.int oz, .ref on])), (on, .inl (cI, 200, .inl og))] s.heap.size = A at hD ⊢
  have hA : ∀ q : Nat, s.heap.size ≤ q → A q := fun q h => by rw [← hAe]; exact Or.inr h
  have hS : va_S A s.heap s.heap [] := va_S.rf
  have hP : va_P D vwCl [(x, .inr (5, [.ref r, .ref t, .ref im, .int hi, .ref tx, .ref ch, .ref ro, .ref rf, .ref pl, .ref ot, .ref cl])), (rf, .inl (cI, 6, .inl F)), (r, .inr (1, [.int q, .int nw, .ref rn])), (rn, .inl (cI, 20, .inl v)), (pl, .inr (3, [.int pz, .ref pn])), (pn, .inl (cI, 200, .inl pf)), (ot, .inr (3, [.int oz, .ref on])), (on, .inl (cI, 200, .inl og))] s.heap := hP
  have hl := lv_entry ([.ref x, .int w, .int n, .int j]) (n := 5) (Nat.le_of_ble_eq_true rfl)
  rw [lg_entry_eq]
  generalize (lg_sl ([.ref x, .int w, .int n, .int j]) ++ List.replicate (5 - (lg_sl ([.ref x, .int w, .int n, .int j])).length) Slot.unset).toArray = ls at hl ⊢
  have hl : lv_has ls 5 [(0, .ref x), (1, .int w), (2, .int n), (3, .int j)] := hl
  refine lv_aload_n hx hb dX5_lengths_0 rfl (lv_at hl 0 rfl) ?_
  refine lv_iload_n hx hb dX5_lengths_1 rfl (lv_at hl 1 rfl) ?_
  refine lv_iload_n hx hb dX5_lengths_2 rfl (lv_at hl 2 rfl) ?_
  refine lv_iload_n hx hb dX5_lengths_3 rfl (lv_at hl 3 rfl) ?_
  refine lv_iconst (v := (-1)) hx hb dX5_lengths_4 (by decide) ?_
  refine rdV (As := [.int w, .int n, .int j, .int (-1)]) (rest := []) ⟨hx, hb, hml, hown, hts⟩ (c_X5_refusalOfNth l D cI cZ cR x r t im tx ch ro rf pl ot cl hi rn q nw v w n j (-1) ) (cwV 4 hts gX5_lengths_X5_refusalOfNth rfl rfl rfl (by decide +kernel) ⟨Nat.le_of_ble_eq_true rfl, Nat.le_of_ble_eq_true rfl⟩) hK hN hP 0 5 rfl rfl rfl [0, 2, 3] rfl rfl hl.1 rfl (Nat.le_of_ble_eq_true rfl) dX5_lengths_5 ⟨Nat.zero_le _, Nat.zero_le _⟩ ?_
  refine lv_istore (lv' := [(4, .int (rf_nth nw w n j (-1))), (0, .ref x), (1, .int w), (2, .int n), (3, .int j)]) hx hb dX5_lengths_8 hl (by decide) rfl (fun ls hl => ?_)
  refine lv_iload hx hb dX5_lengths_10 (lv_at hl 0 rfl) ?_
  refine lv_if_eq (tgt := 22) hx hb dX5_lengths_12 (by decide) (fun c_12 => ?_) (fun c_12 => ?_)
  · skip
    have hok := rf_nth_ok c_12
    have hn := n200 hok.2.1
    have hM0 := mk_ne (pl := plK q v w) (n := n.toNatClampNeg) (by omega)
    refine lv_aload_n hx hb dX5_lengths_22 rfl (lv_at hl 1 rfl) ?_
    refine lv_iload_n hx hb dX5_lengths_23 rfl (lv_at hl 2 rfl) ?_
    refine lv_iload_n hx hb dX5_lengths_24 rfl (lv_at hl 3 rfl) ?_
    refine wrVv (As := [.int w, .int n]) (rest := []) (wr := [(rf, .inl (cI, 6, .inl F))]) (A := A) ⟨hx, hb, hml, hown, hts⟩ (c_X5_takeLengths l D cI cZ cR x r t im tx ch ro rf pl ot cl hi rn q nw v pn pz pf on oz og w n hn.2.1 s.heap.size) (cwV 2 hts gX5_lengths_X5_takeLengths rfl rfl rfl (by decide +kernel) ⟨Nat.le_of_ble_eq_true rfl, Nat.le_of_ble_eq_true rfl⟩) hK hN hP hD hS hA 0 5 rfl rfl rfl [0, 2, 3, 4, 5, 6, 7] [1] rfl (by decide) rfl (by decide) (by decide) rfl hl.1 rfl (Nat.le_of_ble_eq_true rfl) dX5_lengths_25 ⟨Nat.zero_le _, Nat.zero_le _⟩ (fun u H locs hw hP hD hS => ?_)
    obtain ⟨z2_25, f2_25, z3_25, f3_25⟩ := u
    try dsimp only at hw
    obtain ⟨h1_25, h2_25⟩ := hw
    have hP : va_P D vwCl [(x, .inr (5, [.ref r, .ref t, .ref im, .int hi, .ref tx, .ref ch, .ref ro, .ref rf, .ref pl, .ref ot, .ref cl])), (rf, .inl (cI, 6, .inl F)), (r, .inr (1, [.int q, .int nw, .ref rn])), (rn, .inl (cI, 20, .inl v)), (pl, .inr (3, [.int z2_25, .ref pn])), (pn, .inl (cI, 200, .inl f2_25)), (ot, .inr (3, [.int z3_25, .ref on])), (on, .inl (cI, 200, .inl f3_25))] H := hP.sub [1, 0, 2, 3, 4, 5, 6, 7] rfl
    have hD : va_D A [(x, .inr (5, [.ref r, .ref t, .ref im, .int hi, .ref tx, .ref ch, .ref ro, .ref rf, .ref pl, .ref ot, .ref cl])), (rf, .inl (cI, 6, .inl F)), (r, .inr (1, [.int q, .int nw, .ref rn])), (rn, .inl (cI, 20, .inl v)), (pl, .inr (3, [.int z2_25, .ref pn])), (pn, .inl (cI, 200, .inl f2_25)), (ot, .inr (3, [.int z3_25, .ref on])), (on, .inl (cI, 200, .inl f3_25))] := hD.sub [1, 0, 2, 3, 4, 5, 6, 7] (by decide) rfl
    have hG := gaps_rep h1_25 h2_25
    refine lv_iload_n hx hb dX5_lengths_28 rfl (lv_at hl 4 rfl) ?_
    refine lv_iconst (v := (-1)) hx hb dX5_lengths_29 (by decide) ?_
    refine lv_icmp_ne (tgt := 41) hx hb dX5_lengths_30 (by decide) (fun c_30 => ?_) (fun c_30 => ?_)
    · skip
      refine lv_iload_n hx hb dX5_lengths_41 rfl (lv_at hl 4 rfl) ?_
      refine lv_aload_n hx hb dX5_lengths_42 rfl (lv_at hl 1 rfl) ?_
      refine va_get (D := D) (ci := 5) (v := .ref ot) (C := RX5) (T := TX5) (N := 11) hx hb hts (in_X5_lengths_X5) hown hK hP 0 rfl rfl 9 (by decide) (hts (.fieldLink RX5 57 "StepsRoundCircle" "others" "LStepsRoundCircle$Sorted;") (by decide +kernel)) (fun _ h9 => h9) rfl dX5_lengths_43 ?_
      refine va_get (D := D) (ci := 3) (v := .int z3_25) (C := RX3) (T := TX3) (N := 2) hx hb hts (in_X5_lengths_X3) hown hK hP 6 rfl rfl 0 (by decide) (hts (.fieldLink RX5 150 "StepsRoundCircle$Sorted" "size" "I") (by decide +kernel)) (fun _ h9 => h9) rfl dX5_lengths_46 ?_
      refine lv_icmp_ge (tgt := 63) hx hb dX5_lengths_49 (by decide) (fun c_49 => ?_) (fun c_49 => ?_)
      · skip
        refine lv_bipush (v := (-9)) hx hb dX5_lengths_63 (by decide) ?_
        exact wrI (w1 := (fun (u : (Nat → Int32) × Int32 × (Nat → Int32) × Int32 × (Nat → Int32)) => [(x, .inr (5, [.ref r, .ref t, .ref im, .int hi, .ref tx, .ref ch, .ref ro, .ref rf, .ref pl, .ref ot, .ref cl])), (rf, .inl (cI, 6, .inl u.1)), (r, .inr (1, [.int q, .int nw, .ref rn])), (rn, .inl (cI, 20, .inl v)), (pl, .inr (3, [.int u.2.1, .ref pn])), (pn, .inl (cI, 200, .inl u.2.2.1)), (ot, .inr (3, [.int u.2.2.2.1, .ref on])), (on, .inl (cI, 200, .inl u.2.2.2.2))])) (F, z2_25, f2_25, z3_25, f3_25) hx hb hr hlocks dX5_lengths_65 hS (hP.sub [0, 1, 2, 3, 4, 5, 6, 7] rfl) (hD.sub [0, 1, 2, 3, 4, 5, 6, 7] (by decide) rfl) (⟨by rw [if_pos c_12]; unfold lenA; rw [if_neg c_30, if_neg (by rw [← hG.1]; exact Int32.not_lt.mpr c_49)], by rw [if_pos c_12]⟩)
      · skip
        refine lv_aload_n hx hb dX5_lengths_52 rfl (lv_at hl 1 rfl) ?_
        refine va_get (D := D) (ci := 5) (v := .ref ot) (C := RX5) (T := TX5) (N := 11) hx hb hts (in_X5_lengths_X5) hown hK hP 0 rfl rfl 9 (by decide) (hts (.fieldLink RX5 57 "StepsRoundCircle" "others" "LStepsRoundCircle$Sorted;") (by decide +kernel)) (fun _ h9 => h9) rfl dX5_lengths_53 ?_
        refine lv_iload_n hx hb dX5_lengths_56 rfl (lv_at hl 4 rfl) ?_
        refine rdV (As := [.int j]) (rest := []) ⟨hx, hb, hml, hown, hts⟩ (c_X3_get l D cI cZ cR ot on z3_25 f3_25 j ) (cwV 1 hts gX5_lengths_X3_get rfl rfl rfl (by decide +kernel) ⟨Nat.le_of_ble_eq_true rfl, Nat.le_of_ble_eq_true rfl⟩) hK hN hP 6 3 rfl rfl rfl [6, 7] rfl rfl hl.1 rfl (Nat.le_of_ble_eq_true rfl) dX5_lengths_57 ⟨Nat.zero_le _, Nat.zero_le _⟩ ?_
        refine lv_goto (tgt := 65) hx hb dX5_lengths_60 (by decide) ?_
        exact wrI (w1 := (fun (u : (Nat → Int32) × Int32 × (Nat → Int32) × Int32 × (Nat → Int32)) => [(x, .inr (5, [.ref r, .ref t, .ref im, .int hi, .ref tx, .ref ch, .ref ro, .ref rf, .ref pl, .ref ot, .ref cl])), (rf, .inl (cI, 6, .inl u.1)), (r, .inr (1, [.int q, .int nw, .ref rn])), (rn, .inl (cI, 20, .inl v)), (pl, .inr (3, [.int u.2.1, .ref pn])), (pn, .inl (cI, 200, .inl u.2.2.1)), (ot, .inr (3, [.int u.2.2.2.1, .ref on])), (on, .inl (cI, 200, .inl u.2.2.2.2))])) (F, z2_25, f2_25, z3_25, f3_25) hx hb hr hlocks dX5_lengths_65 hS (hP.sub [0, 1, 2, 3, 4, 5, 6, 7] rfl) (hD.sub [0, 1, 2, 3, 4, 5, 6, 7] (by decide) rfl) (⟨by rw [if_pos c_12]; unfold lenA; rw [if_neg c_30, if_pos (by rw [← hG.1]; exact Int32.not_le.mp c_49)]; exact so_get_j hG (j_0 hok.2.2 c_30) (Int32.not_le.mp c_49), by rw [if_pos c_12]⟩)
    · skip
      refine lv_aload_n hx hb dX5_lengths_33 rfl (lv_at hl 1 rfl) ?_
      refine va_get (D := D) (ci := 5) (v := .ref ot) (C := RX5) (T := TX5) (N := 11) hx hb hts (in_X5_lengths_X5) hown hK hP 0 rfl rfl 9 (by decide) (hts (.fieldLink RX5 57 "StepsRoundCircle" "others" "LStepsRoundCircle$Sorted;") (by decide +kernel)) (fun _ h9 => h9) rfl dX5_lengths_34 ?_
      refine va_get (D := D) (ci := 3) (v := .int z3_25) (C := RX3) (T := TX3) (N := 2) hx hb hts (in_X5_lengths_X3) hown hK hP 6 rfl rfl 0 (by decide) (hts (.fieldLink RX5 150 "StepsRoundCircle$Sorted" "size" "I") (by decide +kernel)) (fun _ h9 => h9) rfl dX5_lengths_37 ?_
      exact wrI (w1 := (fun (u : (Nat → Int32) × Int32 × (Nat → Int32) × Int32 × (Nat → Int32)) => [(x, .inr (5, [.ref r, .ref t, .ref im, .int hi, .ref tx, .ref ch, .ref ro, .ref rf, .ref pl, .ref ot, .ref cl])), (rf, .inl (cI, 6, .inl u.1)), (r, .inr (1, [.int q, .int nw, .ref rn])), (rn, .inl (cI, 20, .inl v)), (pl, .inr (3, [.int u.2.1, .ref pn])), (pn, .inl (cI, 200, .inl u.2.2.1)), (ot, .inr (3, [.int u.2.2.2.1, .ref on])), (on, .inl (cI, 200, .inl u.2.2.2.2))])) (F, z2_25, f2_25, z3_25, f3_25) hx hb hr hlocks dX5_lengths_40 hS (hP.sub [0, 1, 2, 3, 4, 5, 6, 7] rfl) (hD.sub [0, 1, 2, 3, 4, 5, 6, 7] (by decide) rfl) (⟨by rw [if_pos c_12]; unfold lenA; rw [if_pos c_30]; exact hG.1, by rw [if_pos c_12]⟩)
  · skip
    refine lv_aload_n hx hb dX5_lengths_15 rfl (lv_at hl 1 rfl) ?_
    refine lv_iload hx hb dX5_lengths_16 (lv_at hl 0 rfl) ?_
    refine wrVi (As := [.int (rf_nth nw w n j (-1))]) (rest := []) (wr := [(r, .inr (1, [.int q, .int nw, .ref rn])), (rn, .inl (cI, 20, .inl v)), (pl, .inr (3, [.int pz, .ref pn])), (pn, .inl (cI, 200, .inl pf)), (ot, .inr (3, [.int oz, .ref on])), (on, .inl (cI, 200, .inl og))]) (A := A) ⟨hx, hb, hml, hown, hts⟩ (c_X5_refuse l D cI cZ cR x r t im tx ch ro rf pl ot cl hi F (rf_nth nw w n j (-1))  s.heap.size) (cwV 1 hts gX5_lengths_X5_refuse rfl rfl rfl (by decide +kernel) ⟨Nat.le_of_ble_eq_true rfl, Nat.le_of_ble_eq_true rfl⟩) hK hN hP hD hS hA 0 5 rfl rfl rfl [0, 1] [2, 3, 4, 5, 6, 7] rfl (by decide) rfl (by decide) (by decide) rfl hl.1 rfl (Nat.le_of_ble_eq_true rfl) dX5_lengths_18 ⟨Nat.zero_le _, Nat.zero_le _⟩ (fun r_18 u H locs hw hP hD hS => ?_)
    obtain ⟨F_18, rfl⟩ : ∃ z, z = u := ⟨_, rfl⟩
    try dsimp only at hw
    obtain ⟨q1_18, q2_18⟩ := hw
    have q1_18 := q1_18.symm
    subst q1_18
    have q2_18 := q2_18.symm
    subst q2_18
    have hP : va_P D vwCl [(x, .inr (5, [.ref r, .ref t, .ref im, .int hi, .ref tx, .ref ch, .ref ro, .ref rf, .ref pl, .ref ot, .ref cl])), (rf, .inl (cI, 6, .inl (rf_bump F (rf_nth nw w n j (-1))))), (r, .inr (1, [.int q, .int nw, .ref rn])), (rn, .inl (cI, 20, .inl v)), (pl, .inr (3, [.int pz, .ref pn])), (pn, .inl (cI, 200, .inl pf)), (ot, .inr (3, [.int oz, .ref on])), (on, .inl (cI, 200, .inl og))] H := hP.sub [6, 7, 0, 1, 2, 3, 4, 5] rfl
    have hD : va_D A [(x, .inr (5, [.ref r, .ref t, .ref im, .int hi, .ref tx, .ref ch, .ref ro, .ref rf, .ref pl, .ref ot, .ref cl])), (rf, .inl (cI, 6, .inl (rf_bump F (rf_nth nw w n j (-1))))), (r, .inr (1, [.int q, .int nw, .ref rn])), (rn, .inl (cI, 20, .inl v)), (pl, .inr (3, [.int pz, .ref pn])), (pn, .inl (cI, 200, .inl pf)), (ot, .inr (3, [.int oz, .ref on])), (on, .inl (cI, 200, .inl og))] := hD.sub [6, 7, 0, 1, 2, 3, 4, 5] (by decide) rfl
    exact wrI (w1 := (fun (u : (Nat → Int32) × Int32 × (Nat → Int32) × Int32 × (Nat → Int32)) => [(x, .inr (5, [.ref r, .ref t, .ref im, .int hi, .ref tx, .ref ch, .ref ro, .ref rf, .ref pl, .ref ot, .ref cl])), (rf, .inl (cI, 6, .inl u.1)), (r, .inr (1, [.int q, .int nw, .ref rn])), (rn, .inl (cI, 20, .inl v)), (pl, .inr (3, [.int u.2.1, .ref pn])), (pn, .inl (cI, 200, .inl u.2.2.1)), (ot, .inr (3, [.int u.2.2.2.1, .ref on])), (on, .inl (cI, 200, .inl u.2.2.2.2))])) ((rf_bump F (rf_nth nw w n j (-1))), pz, pf, oz, og) hx hb hr hlocks dX5_lengths_21 hS (hP.sub [0, 1, 2, 3, 4, 5, 6, 7] rfl) (hD.sub [0, 1, 2, 3, 4, 5, 6, 7] (by decide) rfl) (by simp [c_12])

set_option maxHeartbeats 4000000 in
set_option maxRecDepth 100000 in
theorem c_X5_many (l : Launch) (D : va_G) (cI cZ cR : ClassId) (x r t im tx ch ro rf pl ot cl : Nat) (hi : Int32) (F : Nat → Int32) (rn : Nat) (q nw : Int32) (v : Nat → Int32) (pn : Nat) (pz : Int32) (pf : Nat → Int32) (on : Nat) (oz : Int32) (og : Nat → Int32) (w n j : Int32) (sz : Nat) : Met l yX5_many wsX5_many ({ frames := 6, cells := 0, slots := 0, locals := 150 }) (PcW D cI cZ cR [.ref x, .int w, .int n, .int j] [(x, .inr (5, [.ref r, .ref t, .ref im, .int hi, .ref tx, .ref ch, .ref ro, .ref rf, .ref pl, .ref ot, .ref cl])), (rf, .inl (cI, 6, .inl F)), (r, .inr (1, [.int q, .int nw, .ref rn])), (rn, .inl (cI, 20, .inl v)), (pl, .inr (3, [.int pz, .ref pn])), (pn, .inl (cI, 200, .inl pf)), (ot, .inr (3, [.int oz, .ref on])), (on, .inl (cI, 200, .inl og))] sz) (va_Qi (fun (res : Int32) (u : (Nat → Int32) × Int32 × (Nat → Int32) × Int32 × (Nat → Int32)) => res = (if rf_nth nw w n j 0 = 0 then manA q (mk (plK q v w) n.toNatClampNeg) j else rf_nth nw w n j 0) ∧ u.1 = (if rf_nth nw w n j 0 = 0 then F else rf_bump F (rf_nth nw w n j 0))) (Bw D (fun (u : (Nat → Int32) × Int32 × (Nat → Int32) × Int32 × (Nat → Int32)) => [(x, .inr (5, [.ref r, .ref t, .ref im, .int hi, .ref tx, .ref ch, .ref ro, .ref rf, .ref pl, .ref ot, .ref cl])), (rf, .inl (cI, 6, .inl u.1)), (r, .inr (1, [.int q, .int nw, .ref rn])), (rn, .inl (cI, 20, .inl v)), (pl, .inr (3, [.int u.2.1, .ref pn])), (pn, .inl (cI, 200, .inl u.2.2.1)), (ot, .inr (3, [.int u.2.2.2.1, .ref on])), (on, .inl (cI, 200, .inl u.2.2.2.2))]) (va_A [(x, .inr (5, [.ref r, .ref t, .ref im, .int hi, .ref tx, .ref ch, .ref ro, .ref rf, .ref pl, .ref ot, .ref cl])), (rf, .inl (cI, 6, .inl F)), (r, .inr (1, [.int q, .int nw, .ref rn])), (rn, .inl (cI, 20, .inl v)), (pl, .inr (3, [.int pz, .ref pn])), (pn, .inl (cI, 200, .inl pf)), (ot, .inr (3, [.int oz, .ref on])), (on, .inl (cI, 200, .inl og))] sz)) (va_A [(x, .inr (5, [.ref r, .ref t, .ref im, .int hi, .ref tx, .ref ch, .ref ro, .ref rf, .ref pl, .ref ot, .ref cl])), (rf, .inl (cI, 6, .inl F)), (r, .inr (1, [.int q, .int nw, .ref rn])), (rn, .inl (cI, 20, .inl v)), (pl, .inr (3, [.int pz, .ref pn])), (pn, .inl (cI, 200, .inl pf)), (ot, .inr (3, [.int oz, .ref on])), (on, .inl (cI, 200, .inl og))] sz)) 0 0 (va_A [(x, .inr (5, [.ref r, .ref t, .ref im, .int hi, .ref tx, .ref ch, .ref ro, .ref rf, .ref pl, .ref ot, .ref cl])), (rf, .inl (cI, 6, .inl F)), (r, .inr (1, [.int q, .int nw, .ref rn])), (rn, .inl (cI, 20, .inl v)), (pl, .inr (3, [.int pz, .ref pn])), (pn, .inl (cI, 200, .inl pf)), (ot, .inr (3, [.int oz, .ref on])), (on, .inl (cI, 200, .inl og))] sz) := by
  refine Met.ofW (cc := cX5_many) (maxL := 5) (ret := (some .int)) (by decide) rfl ?_
  intro p e s m args below meth c s₁ B hml hv
  obtain ⟨rfl, hsz, hP, hK, hD0, hN⟩ := hv
  have hx := B.exec
  have hb := B.bytes
  have hr := B.returns
  have hts := atoms_spec (ws := wsX5_many) B.pre
  have hown : s.vm.findClass RX5 = some m.cls := findClass_of_methodNamed B.named
  have hlocks := B.notSynchronized
  subst hsz
  have hD := hD0.self (sz := s.heap.size)
  generalize hAe : va_A [(x, .inr (5, [.ref r, .ref t, .ref im, .int hi, .ref tx, .ref ch, .ref ro, .ref rf, .ref pl, .ref ot, .ref cl])), (rf, .inl (cI, 6, .inl F)), (r, .inr (1, [.int q, .int nw, .ref rn])), (rn, .inl (cI, 20, .inl v)), (pl, .inr (3, [.int pz, .ref pn])), (pn, .inl (cI, 200, .inl pf)), (ot, .inr (3, [.int oz, .ref on])), (on, .inl (cI, 200, .inl og))] s.heap.size = A at hD ⊢
  have hA : ∀ q : Nat, s.heap.size ≤ q → A q := fun q h => by rw [← hAe]; exact Or.inr h
  have hS : va_S A s.heap s.heap [] := va_S.rf
  have hP : va_P D vwCl [(x, .inr (5, [.ref r, .ref t, .ref im, .int hi, .ref tx, .ref ch, .ref ro, .ref rf, .ref pl, .ref ot, .ref cl])), (rf, .inl (cI, 6, .inl F)), (r, .inr (1, [.int q, .int nw, .ref rn])), (rn, .inl (cI, 20, .inl v)), (pl, .inr (3, [.int pz, .ref pn])), (pn, .inl (cI, 200, .inl pf)), (ot, .inr (3, [.int oz, .ref on])), (on, .inl (cI, 200, .inl og))] s.heap := hP
  have hl := lv_entry ([.ref x, .int w, .int n, .int j]) (n := 5) (Nat.le_of_ble_eq_true rfl)
  rw [lg_entry_eq]
  generalize (lg_sl ([.ref x, .int w, .int n, .int j]) ++ List.replicate (5 - (lg_sl ([.ref x, .int w, .int n, .int j])).length) Slot.unset).toArray = ls at hl ⊢
  have hl : lv_has ls 5 [(0, .ref x), (1, .int w), (2, .int n), (3, .int j)] := hl
  refine lv_aload_n hx hb dX5_many_0 rfl (lv_at hl 0 rfl) ?_
  refine lv_iload_n hx hb dX5_many_1 rfl (lv_at hl 1 rfl) ?_
  refine lv_iload_n hx hb dX5_many_2 rfl (lv_at hl 2 rfl) ?_
  refine lv_iload_n hx hb dX5_many_3 rfl (lv_at hl 3 rfl) ?_
  refine lv_iconst (v := 0) hx hb dX5_many_4 (by decide) ?_
  refine rdV (As := [.int w, .int n, .int j, .int 0]) (rest := []) ⟨hx, hb, hml, hown, hts⟩ (c_X5_refusalOfNth l D cI cZ cR x r t im tx ch ro rf pl ot cl hi rn q nw v w n j 0 ) (cwV 4 hts gX5_many_X5_refusalOfNth rfl rfl rfl (by decide +kernel) ⟨Nat.le_of_ble_eq_true rfl, Nat.le_of_ble_eq_true rfl⟩) hK hN hP 0 5 rfl rfl rfl [0, 2, 3] rfl rfl hl.1 rfl (Nat.le_of_ble_eq_true rfl) dX5_many_5 ⟨Nat.zero_le _, Nat.zero_le _⟩ ?_
  refine lv_istore (lv' := [(4, .int (rf_nth nw w n j 0)), (0, .ref x), (1, .int w), (2, .int n), (3, .int j)]) hx hb dX5_many_8 hl (by decide) rfl (fun ls hl => ?_)
  refine lv_iload hx hb dX5_many_10 (lv_at hl 0 rfl) ?_
  refine lv_if_eq (tgt := 22) hx hb dX5_many_12 (by decide) (fun c_12 => ?_) (fun c_12 => ?_)
  · skip
    have hok := rf_nth_ok c_12
    have hn := n200 hok.2.1
    have hM0 := mk_ne (pl := plK q v w) (n := n.toNatClampNeg) (by omega)
    refine lv_aload_n hx hb dX5_many_22 rfl (lv_at hl 1 rfl) ?_
    refine lv_iload_n hx hb dX5_many_23 rfl (lv_at hl 2 rfl) ?_
    refine lv_iload_n hx hb dX5_many_24 rfl (lv_at hl 3 rfl) ?_
    refine wrVv (As := [.int w, .int n]) (rest := []) (wr := [(rf, .inl (cI, 6, .inl F))]) (A := A) ⟨hx, hb, hml, hown, hts⟩ (c_X5_takeLengths l D cI cZ cR x r t im tx ch ro rf pl ot cl hi rn q nw v pn pz pf on oz og w n hn.2.1 s.heap.size) (cwV 2 hts gX5_many_X5_takeLengths rfl rfl rfl (by decide +kernel) ⟨Nat.le_of_ble_eq_true rfl, Nat.le_of_ble_eq_true rfl⟩) hK hN hP hD hS hA 0 5 rfl rfl rfl [0, 2, 3, 4, 5, 6, 7] [1] rfl (by decide) rfl (by decide) (by decide) rfl hl.1 rfl (Nat.le_of_ble_eq_true rfl) dX5_many_25 ⟨Nat.zero_le _, Nat.zero_le _⟩ (fun u H locs hw hP hD hS => ?_)
    obtain ⟨z2_25, f2_25, z3_25, f3_25⟩ := u
    try dsimp only at hw
    obtain ⟨h1_25, h2_25⟩ := hw
    have hP : va_P D vwCl [(x, .inr (5, [.ref r, .ref t, .ref im, .int hi, .ref tx, .ref ch, .ref ro, .ref rf, .ref pl, .ref ot, .ref cl])), (rf, .inl (cI, 6, .inl F)), (r, .inr (1, [.int q, .int nw, .ref rn])), (rn, .inl (cI, 20, .inl v)), (pl, .inr (3, [.int z2_25, .ref pn])), (pn, .inl (cI, 200, .inl f2_25)), (ot, .inr (3, [.int z3_25, .ref on])), (on, .inl (cI, 200, .inl f3_25))] H := hP.sub [1, 0, 2, 3, 4, 5, 6, 7] rfl
    have hD : va_D A [(x, .inr (5, [.ref r, .ref t, .ref im, .int hi, .ref tx, .ref ch, .ref ro, .ref rf, .ref pl, .ref ot, .ref cl])), (rf, .inl (cI, 6, .inl F)), (r, .inr (1, [.int q, .int nw, .ref rn])), (rn, .inl (cI, 20, .inl v)), (pl, .inr (3, [.int z2_25, .ref pn])), (pn, .inl (cI, 200, .inl f2_25)), (ot, .inr (3, [.int z3_25, .ref on])), (on, .inl (cI, 200, .inl f3_25))] := hD.sub [1, 0, 2, 3, 4, 5, 6, 7] (by decide) rfl
    have hG := gaps_rep h1_25 h2_25
    have hMl := h1_25.2.1
    refine lv_iload_n hx hb dX5_many_28 rfl (lv_at hl 4 rfl) ?_
    refine lv_aload_n hx hb dX5_many_29 rfl (lv_at hl 1 rfl) ?_
    refine va_get (D := D) (ci := 5) (v := .ref ot) (C := RX5) (T := TX5) (N := 11) hx hb hts (in_X5_many_X5) hown hK hP 0 rfl rfl 9 (by decide) (hts (.fieldLink RX5 57 "StepsRoundCircle" "others" "LStepsRoundCircle$Sorted;") (by decide +kernel)) (fun _ h9 => h9) rfl dX5_many_30 ?_
    refine va_get (D := D) (ci := 3) (v := .int z3_25) (C := RX3) (T := TX3) (N := 2) hx hb hts (in_X5_many_X3) hown hK hP 6 rfl rfl 0 (by decide) (hts (.fieldLink RX5 150 "StepsRoundCircle$Sorted" "size" "I") (by decide +kernel)) (fun _ h9 => h9) rfl dX5_many_33 ?_
    refine lv_icmp_ge (tgt := 54) hx hb dX5_many_36 (by decide) (fun c_36 => ?_) (fun c_36 => ?_)
    · skip
      refine lv_bipush (v := (-9)) hx hb dX5_many_54 (by decide) ?_
      exact wrI (w1 := (fun (u : (Nat → Int32) × Int32 × (Nat → Int32) × Int32 × (Nat → Int32)) => [(x, .inr (5, [.ref r, .ref t, .ref im, .int hi, .ref tx, .ref ch, .ref ro, .ref rf, .ref pl, .ref ot, .ref cl])), (rf, .inl (cI, 6, .inl u.1)), (r, .inr (1, [.int q, .int nw, .ref rn])), (rn, .inl (cI, 20, .inl v)), (pl, .inr (3, [.int u.2.1, .ref pn])), (pn, .inl (cI, 200, .inl u.2.2.1)), (ot, .inr (3, [.int u.2.2.2.1, .ref on])), (on, .inl (cI, 200, .inl u.2.2.2.2))])) (F, z2_25, f2_25, z3_25, f3_25) hx hb hr hlocks dX5_many_56 hS (hP.sub [0, 1, 2, 3, 4, 5, 6, 7] rfl) (hD.sub [0, 1, 2, 3, 4, 5, 6, 7] (by decide) rfl) (⟨by rw [if_pos c_12]; unfold manA; rw [if_neg (by rw [← hG.1]; exact Int32.not_lt.mpr c_36)], by rw [if_pos c_12]⟩)
    · skip
      refine lv_aload_n hx hb dX5_many_39 rfl (lv_at hl 1 rfl) ?_
      refine lv_aload_n hx hb dX5_many_40 rfl (lv_at hl 1 rfl) ?_
      refine va_get (D := D) (ci := 5) (v := .ref ot) (C := RX5) (T := TX5) (N := 11) hx hb hts (in_X5_many_X5) hown hK hP 0 rfl rfl 9 (by decide) (hts (.fieldLink RX5 57 "StepsRoundCircle" "others" "LStepsRoundCircle$Sorted;") (by decide +kernel)) (fun _ h9 => h9) rfl dX5_many_41 ?_
      refine lv_iload_n hx hb dX5_many_44 rfl (lv_at hl 4 rfl) ?_
      refine rdV (As := [.int j]) (rest := [.ref x]) ⟨hx, hb, hml, hown, hts⟩ (c_X3_get l D cI cZ cR ot on z3_25 f3_25 j ) (cwV 1 hts gX5_many_X3_get rfl rfl rfl (by decide +kernel) ⟨Nat.le_of_ble_eq_true rfl, Nat.le_of_ble_eq_true rfl⟩) hK hN hP 6 3 rfl rfl rfl [6, 7] rfl rfl hl.1 rfl (Nat.le_of_ble_eq_true rfl) dX5_many_45 ⟨Nat.zero_le _, Nat.zero_le _⟩ ?_
      refine rdV (As := [.int (so_get z3_25 f3_25 j)]) (rest := []) ⟨hx, hb, hml, hown, hts⟩ (c_X5_gapsOfLength l D cI cZ cR x r t im tx ch ro rf pl ot cl hi rn q nw v pn z2_25 f2_25 (so_get z3_25 f3_25 j) ) (cwV 1 hts gX5_many_X5_gapsOfLength rfl rfl rfl (by decide +kernel) ⟨Nat.le_of_ble_eq_true rfl, Nat.le_of_ble_eq_true rfl⟩) hK hN hP 0 5 rfl rfl rfl [0, 2, 3, 4, 5] rfl rfl hl.1 rfl (Nat.le_of_ble_eq_true rfl) dX5_many_48 ⟨Nat.zero_le _, Nat.zero_le _⟩ ?_
      refine lv_goto (tgt := 56) hx hb dX5_many_51 (by decide) ?_
      exact wrI (w1 := (fun (u : (Nat → Int32) × Int32 × (Nat → Int32) × Int32 × (Nat → Int32)) => [(x, .inr (5, [.ref r, .ref t, .ref im, .int hi, .ref tx, .ref ch, .ref ro, .ref rf, .ref pl, .ref ot, .ref cl])), (rf, .inl (cI, 6, .inl u.1)), (r, .inr (1, [.int q, .int nw, .ref rn])), (rn, .inl (cI, 20, .inl v)), (pl, .inr (3, [.int u.2.1, .ref pn])), (pn, .inl (cI, 200, .inl u.2.2.1)), (ot, .inr (3, [.int u.2.2.2.1, .ref on])), (on, .inl (cI, 200, .inl u.2.2.2.2))])) (F, z2_25, f2_25, z3_25, f3_25) hx hb hr hlocks dX5_many_56 hS (hP.sub [0, 1, 2, 3, 4, 5, 6, 7] rfl) (hD.sub [0, 1, 2, 3, 4, 5, 6, 7] (by decide) rfl) (⟨by rw [if_pos c_12]; unfold manA; rw [if_pos (by rw [← hG.1]; exact Int32.not_le.mp c_36), so_get_j hG hok.2.2 (Int32.not_le.mp c_36)]; congr 1; rw [show z2_25.toNatClampNeg = (mk (plK q v w) n.toNatClampNeg).length by rw [h1_25.1]; exact nI_clamp (by omega)]; exact fa_cnt_cong (fun k9 hk9 => by rw [gp_gpL h1_25 hk9]), by rw [if_pos c_12]⟩)
  · skip
    refine lv_aload_n hx hb dX5_many_15 rfl (lv_at hl 1 rfl) ?_
    refine lv_iload hx hb dX5_many_16 (lv_at hl 0 rfl) ?_
    refine wrVi (As := [.int (rf_nth nw w n j 0)]) (rest := []) (wr := [(r, .inr (1, [.int q, .int nw, .ref rn])), (rn, .inl (cI, 20, .inl v)), (pl, .inr (3, [.int pz, .ref pn])), (pn, .inl (cI, 200, .inl pf)), (ot, .inr (3, [.int oz, .ref on])), (on, .inl (cI, 200, .inl og))]) (A := A) ⟨hx, hb, hml, hown, hts⟩ (c_X5_refuse l D cI cZ cR x r t im tx ch ro rf pl ot cl hi F (rf_nth nw w n j 0)  s.heap.size) (cwV 1 hts gX5_many_X5_refuse rfl rfl rfl (by decide +kernel) ⟨Nat.le_of_ble_eq_true rfl, Nat.le_of_ble_eq_true rfl⟩) hK hN hP hD hS hA 0 5 rfl rfl rfl [0, 1] [2, 3, 4, 5, 6, 7] rfl (by decide) rfl (by decide) (by decide) rfl hl.1 rfl (Nat.le_of_ble_eq_true rfl) dX5_many_18 ⟨Nat.zero_le _, Nat.zero_le _⟩ (fun r_18 u H locs hw hP hD hS => ?_)
    obtain ⟨F_18, rfl⟩ : ∃ z, z = u := ⟨_, rfl⟩
    try dsimp only at hw
    obtain ⟨q1_18, q2_18⟩ := hw
    have q1_18 := q1_18.symm
    subst q1_18
    have q2_18 := q2_18.symm
    subst q2_18
    have hP : va_P D vwCl [(x, .inr (5, [.ref r, .ref t, .ref im, .int hi, .ref tx, .ref ch, .ref ro, .ref rf, .ref pl, .ref ot, .ref cl])), (rf, .inl (cI, 6, .inl (rf_bump F (rf_nth nw w n j 0)))), (r, .inr (1, [.int q, .int nw, .ref rn])), (rn, .inl (cI, 20, .inl v)), (pl, .inr (3, [.int pz, .ref pn])), (pn, .inl (cI, 200, .inl pf)), (ot, .inr (3, [.int oz, .ref on])), (on, .inl (cI, 200, .inl og))] H := hP.sub [6, 7, 0, 1, 2, 3, 4, 5] rfl
    have hD : va_D A [(x, .inr (5, [.ref r, .ref t, .ref im, .int hi, .ref tx, .ref ch, .ref ro, .ref rf, .ref pl, .ref ot, .ref cl])), (rf, .inl (cI, 6, .inl (rf_bump F (rf_nth nw w n j 0)))), (r, .inr (1, [.int q, .int nw, .ref rn])), (rn, .inl (cI, 20, .inl v)), (pl, .inr (3, [.int pz, .ref pn])), (pn, .inl (cI, 200, .inl pf)), (ot, .inr (3, [.int oz, .ref on])), (on, .inl (cI, 200, .inl og))] := hD.sub [6, 7, 0, 1, 2, 3, 4, 5] (by decide) rfl
    exact wrI (w1 := (fun (u : (Nat → Int32) × Int32 × (Nat → Int32) × Int32 × (Nat → Int32)) => [(x, .inr (5, [.ref r, .ref t, .ref im, .int hi, .ref tx, .ref ch, .ref ro, .ref rf, .ref pl, .ref ot, .ref cl])), (rf, .inl (cI, 6, .inl u.1)), (r, .inr (1, [.int q, .int nw, .ref rn])), (rn, .inl (cI, 20, .inl v)), (pl, .inr (3, [.int u.2.1, .ref pn])), (pn, .inl (cI, 200, .inl u.2.2.1)), (ot, .inr (3, [.int u.2.2.2.1, .ref on])), (on, .inl (cI, 200, .inl u.2.2.2.2))])) ((rf_bump F (rf_nth nw w n j 0)), pz, pf, oz, og) hx hb hr hlocks dX5_many_21 hS (hP.sub [0, 1, 2, 3, 4, 5, 6, 7] rfl) (hD.sub [0, 1, 2, 3, 4, 5, 6, 7] (by decide) rfl) (by simp [c_12])

set_option maxHeartbeats 4000000 in
set_option maxRecDepth 100000 in
theorem c_X5_closest (l : Launch) (D : va_G) (cI cZ cR : ClassId) (x r t im tx ch ro rf pl ot cl : Nat) (hi : Int32) (F : Nat → Int32) (rn : Nat) (q nw : Int32) (v : Nat → Int32) (pn : Nat) (pz : Int32) (pf : Nat → Int32) (w n k : Int32) (sz : Nat) : Met l yX5_closest wsX5_closest ({ frames := 5, cells := 0, slots := 0, locals := 127 }) (PcW D cI cZ cR [.ref x, .int w, .int n, .int k] [(x, .inr (5, [.ref r, .ref t, .ref im, .int hi, .ref tx, .ref ch, .ref ro, .ref rf, .ref pl, .ref ot, .ref cl])), (rf, .inl (cI, 6, .inl F)), (r, .inr (1, [.int q, .int nw, .ref rn])), (rn, .inl (cI, 20, .inl v)), (pl, .inr (3, [.int pz, .ref pn])), (pn, .inl (cI, 200, .inl pf))] sz) (va_Qi (fun (res : Int32) (u : (Nat → Int32) × Int32 × (Nat → Int32)) => res = (if rf_beh nw w n k 2 = 0 then cloA q (mk (plK q v w) n.toNatClampNeg) k else rf_beh nw w n k 2) ∧ u.1 = (if rf_beh nw w n k 2 = 0 then F else rf_bump F (rf_beh nw w n k 2))) (Bw D (fun (u : (Nat → Int32) × Int32 × (Nat → Int32)) => [(x, .inr (5, [.ref r, .ref t, .ref im, .int hi, .ref tx, .ref ch, .ref ro, .ref rf, .ref pl, .ref ot, .ref cl])), (rf, .inl (cI, 6, .inl u.1)), (r, .inr (1, [.int q, .int nw, .ref rn])), (rn, .inl (cI, 20, .inl v)), (pl, .inr (3, [.int u.2.1, .ref pn])), (pn, .inl (cI, 200, .inl u.2.2))]) (va_A [(x, .inr (5, [.ref r, .ref t, .ref im, .int hi, .ref tx, .ref ch, .ref ro, .ref rf, .ref pl, .ref ot, .ref cl])), (rf, .inl (cI, 6, .inl F)), (r, .inr (1, [.int q, .int nw, .ref rn])), (rn, .inl (cI, 20, .inl v)), (pl, .inr (3, [.int pz, .ref pn])), (pn, .inl (cI, 200, .inl pf))] sz)) (va_A [(x, .inr (5, [.ref r, .ref t, .ref im, .int hi, .ref tx, .ref ch, .ref ro, .ref rf, .ref pl, .ref ot, .ref cl])), (rf, .inl (cI, 6, .inl F)), (r, .inr (1, [.int q, .int nw, .ref rn])), (rn, .inl (cI, 20, .inl v)), (pl, .inr (3, [.int pz, .ref pn])), (pn, .inl (cI, 200, .inl pf))] sz)) 0 0 (va_A [(x, .inr (5, [.ref r, .ref t, .ref im, .int hi, .ref tx, .ref ch, .ref ro, .ref rf, .ref pl, .ref ot, .ref cl])), (rf, .inl (cI, 6, .inl F)), (r, .inr (1, [.int q, .int nw, .ref rn])), (rn, .inl (cI, 20, .inl v)), (pl, .inr (3, [.int pz, .ref pn])), (pn, .inl (cI, 200, .inl pf))] sz) := by
  refine Met.ofW (cc := cX5_closest) (maxL := 7) (ret := (some .int)) (by decide) rfl ?_
  intro p e s m args below meth c s₁ B hml hv
  obtain ⟨rfl, hsz, hP, hK, hD0, hN⟩ := hv
  have hx := B.exec
  have hb := B.bytes
  have hr := B.returns
  have hts := atoms_spec (ws := wsX5_closest) B.pre
  have hown : s.vm.findClass RX5 = some m.cls := findClass_of_methodNamed B.named
  have hlocks := B.notSynchronized
  subst hsz
  have hD := hD0.self (sz := s.heap.size)
  generalize hAe : va_A [(x, .inr (5, [.ref r, .ref t, .ref im, .int hi, .ref tx, .ref ch, .ref ro, .ref rf, .ref pl, .ref ot, .ref cl])), (rf, .inl (cI, 6, .inl F)), (r, .inr (1, [.int q, .int nw, .ref rn])), (rn, .inl (cI, 20, .inl v)), (pl, .inr (3, [.int pz, .ref pn])), (pn, .inl (cI, 200, .inl pf))] s.heap.size = A at hD ⊢
  have hA : ∀ q : Nat, s.heap.size ≤ q → A q := fun q h => by rw [← hAe]; exact Or.inr h
  have hS : va_S A s.heap s.heap [] := va_S.rf
  have hP : va_P D vwCl [(x, .inr (5, [.ref r, .ref t, .ref im, .int hi, .ref tx, .ref ch, .ref ro, .ref rf, .ref pl, .ref ot, .ref cl])), (rf, .inl (cI, 6, .inl F)), (r, .inr (1, [.int q, .int nw, .ref rn])), (rn, .inl (cI, 20, .inl v)), (pl, .inr (3, [.int pz, .ref pn])), (pn, .inl (cI, 200, .inl pf))] s.heap := hP
  have hl := lv_entry ([.ref x, .int w, .int n, .int k]) (n := 7) (Nat.le_of_ble_eq_true rfl)
  rw [lg_entry_eq]
  generalize (lg_sl ([.ref x, .int w, .int n, .int k]) ++ List.replicate (7 - (lg_sl ([.ref x, .int w, .int n, .int k])).length) Slot.unset).toArray = ls at hl ⊢
  have hl : lv_has ls 7 [(0, .ref x), (1, .int w), (2, .int n), (3, .int k)] := hl
  refine lv_aload_n hx hb dX5_closest_0 rfl (lv_at hl 0 rfl) ?_
  refine lv_iload_n hx hb dX5_closest_1 rfl (lv_at hl 1 rfl) ?_
  refine lv_iload_n hx hb dX5_closest_2 rfl (lv_at hl 2 rfl) ?_
  refine lv_iload_n hx hb dX5_closest_3 rfl (lv_at hl 3 rfl) ?_
  refine lv_iconst (v := 2) hx hb dX5_closest_4 (by decide) ?_
  refine rdV (As := [.int w, .int n, .int k, .int 2]) (rest := []) ⟨hx, hb, hml, hown, hts⟩ (c_X5_refusalBehind l D cI cZ cR x r t im tx ch ro rf pl ot cl hi rn q nw v w n k 2 ) (cwV 4 hts gX5_closest_X5_refusalBehind rfl rfl rfl (by decide +kernel) ⟨Nat.le_of_ble_eq_true rfl, Nat.le_of_ble_eq_true rfl⟩) hK hN hP 0 5 rfl rfl rfl [0, 2, 3] rfl rfl hl.1 rfl (Nat.le_of_ble_eq_true rfl) dX5_closest_5 ⟨Nat.zero_le _, Nat.zero_le _⟩ ?_
  refine lv_istore (lv' := [(4, .int (rf_beh nw w n k 2)), (0, .ref x), (1, .int w), (2, .int n), (3, .int k)]) hx hb dX5_closest_8 hl (by decide) rfl (fun ls hl => ?_)
  refine lv_iload hx hb dX5_closest_10 (lv_at hl 0 rfl) ?_
  refine lv_if_eq (tgt := 22) hx hb dX5_closest_12 (by decide) (fun c_12 => ?_) (fun c_12 => ?_)
  · skip
    have hok := rf_beh_ok c_12
    have hn := n200 hok.2.1
    have hM0 := mk_ne (pl := plK q v w) (n := n.toNatClampNeg) (by omega)
    refine lv_aload_n hx hb dX5_closest_22 rfl (lv_at hl 1 rfl) ?_
    refine lv_aload_n hx hb dX5_closest_23 rfl (lv_at hl 1 rfl) ?_
    refine va_get (D := D) (ci := 5) (v := .ref pl) (C := RX5) (T := TX5) (N := 11) hx hb hts (in_X5_closest_X5) hown hK hP 0 rfl rfl 8 (by decide) (hts (.fieldLink RX5 53 "StepsRoundCircle" "places" "LStepsRoundCircle$Sorted;") (by decide +kernel)) (fun _ h9 => h9) rfl dX5_closest_24 ?_
    refine lv_iload_n hx hb dX5_closest_27 rfl (lv_at hl 2 rfl) ?_
    refine lv_iload_n hx hb dX5_closest_28 rfl (lv_at hl 3 rfl) ?_
    refine wrVv (As := [.ref pl, .int w, .int n]) (rest := []) (wr := [(rf, .inl (cI, 6, .inl F))]) (A := A) ⟨hx, hb, hml, hown, hts⟩ (c_X5_takeMarks l D cI cZ cR x r t im tx ch ro rf pl ot cl hi rn q nw v pl pn pz pf w n hn.2.1 s.heap.size) (cwV 3 hts gX5_closest_X5_takeMarks rfl rfl rfl (by decide +kernel) ⟨Nat.le_of_ble_eq_true rfl, Nat.le_of_ble_eq_true rfl⟩) hK hN hP hD hS hA 0 5 rfl rfl rfl [0, 2, 3, 4, 5] [1] rfl (by decide) rfl (by decide) (by decide) rfl hl.1 rfl (Nat.le_of_ble_eq_true rfl) dX5_closest_29 ⟨Nat.zero_le _, Nat.zero_le _⟩ (fun u H locs hw hP hD hS => ?_)
    obtain ⟨z_29, f_29⟩ := u
    try dsimp only at hw
    have h1_29 := hw
    have hP : va_P D vwCl [(x, .inr (5, [.ref r, .ref t, .ref im, .int hi, .ref tx, .ref ch, .ref ro, .ref rf, .ref pl, .ref ot, .ref cl])), (rf, .inl (cI, 6, .inl F)), (r, .inr (1, [.int q, .int nw, .ref rn])), (rn, .inl (cI, 20, .inl v)), (pl, .inr (3, [.int z_29, .ref pn])), (pn, .inl (cI, 200, .inl f_29))] H := hP.sub [1, 0, 2, 3, 4, 5] rfl
    have hD : va_D A [(x, .inr (5, [.ref r, .ref t, .ref im, .int hi, .ref tx, .ref ch, .ref ro, .ref rf, .ref pl, .ref ot, .ref cl])), (rf, .inl (cI, 6, .inl F)), (r, .inr (1, [.int q, .int nw, .ref rn])), (rn, .inl (cI, 20, .inl v)), (pl, .inr (3, [.int z_29, .ref pn])), (pn, .inl (cI, 200, .inl f_29))] := hD.sub [1, 0, 2, 3, 4, 5] (by decide) rfl
    have hMl := h1_29.2.1
    refine lv_iconst (v := 0) hx hb dX5_closest_32 (by decide) ?_
    refine lv_istore (lv' := [(5, .int 0), (4, .int (rf_beh nw w n k 2)), (0, .ref x), (1, .int w), (2, .int n), (3, .int k)]) hx hb dX5_closest_33 hl (by decide) rfl (fun ls hl => ?_)
    refine lv_iconst (v := 1) hx hb dX5_closest_35 (by decide) ?_
    refine lv_istore (lv' := [(6, .int 1), (5, .int 0), (4, .int (rf_beh nw w n k 2)), (0, .ref x), (1, .int w), (2, .int n), (3, .int k)]) hx hb dX5_closest_36 hl (by decide) rfl (fun ls hl => ?_)
    have loop_38 : ∀ (fuel : Nat), ∀ (i : Nat), (1 ≤ i) → (i ≤ (mk (plK q v w) n.toNatClampNeg).length) → ((mk (plK q v w) n.toNatClampNeg).length + 1 ≤ i + fuel) → ∀ (y5 : Int32), y5 = nI (clo q (mk (plK q v w) n.toNatClampNeg) i) → ∀ (y6 : Int32), y6 = nI i → ∀ (ls : Array Slot), lv_has ls 7 [(5, .int y5), (6, .int y6), (4, .int (rf_beh nw w n k 2)), (0, .ref x), (1, .int w), (2, .int n), (3, .int k)] → W p l e (headSpec wsX5_closest ({ frames := 5, cells := 0, slots := 0, locals := 127 })).room s m ([.ref x, .int w, .int n, .int k] : List Value).toArray below meth c H locs 0 0 (MQ below (va_Qi (fun (res : Int32) (u : (Nat → Int32) × Int32 × (Nat → Int32)) => res = (if rf_beh nw w n k 2 = 0 then cloA q (mk (plK q v w) n.toNatClampNeg) k else rf_beh nw w n k 2) ∧ u.1 = (if rf_beh nw w n k 2 = 0 then F else rf_bump F (rf_beh nw w n k 2))) (Bw D (fun (u : (Nat → Int32) × Int32 × (Nat → Int32)) => [(x, .inr (5, [.ref r, .ref t, .ref im, .int hi, .ref tx, .ref ch, .ref ro, .ref rf, .ref pl, .ref ot, .ref cl])), (rf, .inl (cI, 6, .inl u.1)), (r, .inr (1, [.int q, .int nw, .ref rn])), (rn, .inl (cI, 20, .inl v)), (pl, .inr (3, [.int u.2.1, .ref pn])), (pn, .inl (cI, 200, .inl u.2.2))]) A) A) ([.ref x, .int w, .int n, .int k] : List Value).toArray s 0 0 A) (F0 m 38 ls []) := by
      intro fuel
      induction fuel with
      | zero =>
        intro i hi1 hi9 hfu
        exact False.elim (by omega)
      | succ fuel ih_38 =>
        intro i hi1 hi9 hfu y5 ey5 y6 ey6 ls hl
        subst ey5
        subst ey6
        refine lv_iload hx hb dX5_closest_38 (lv_at hl 1 rfl) ?_
        refine lv_aload_n hx hb dX5_closest_40 rfl (lv_at hl 3 rfl) ?_
        refine va_get (D := D) (ci := 5) (v := .ref pl) (C := RX5) (T := TX5) (N := 11) hx hb hts (in_X5_closest_X5) hown hK hP 0 rfl rfl 8 (by decide) (hts (.fieldLink RX5 53 "StepsRoundCircle" "places" "LStepsRoundCircle$Sorted;") (by decide +kernel)) (fun _ h9 => h9) rfl dX5_closest_41 ?_
        refine va_get (D := D) (ci := 3) (v := .int z_29) (C := RX3) (T := TX3) (N := 2) hx hb hts (in_X5_closest_X3) hown hK hP 4 rfl rfl 0 (by decide) (hts (.fieldLink RX5 150 "StepsRoundCircle$Sorted" "size" "I") (by decide +kernel)) (fun _ h9 => h9) rfl dX5_closest_44 ?_
        refine lv_topi (fun z_47 hz_47 => ?_)
        have hz_47 : z_47 = nI (mk (plK q v w) n.toNatClampNeg).length := hz_47.trans h1_29.1
        subst hz_47
        refine lv_icmp_ge (tgt := 75) hx hb dX5_closest_47 (by decide) (fun c_47 => ?_) (fun c_47 => ?_)
        · skip
          have hend : i = (mk (plK q v w) n.toNatClampNeg).length := by have := (nI_leI (by omega) (by omega)).mp c_47; omega
          have hcl := clo_lt q (mk (plK q v w) n.toNatClampNeg) i hi1
          refine lv_iload_n hx hb dX5_closest_75 rfl (lv_at hl 6 rfl) ?_
          refine lv_if_ne (tgt := 88) hx hb dX5_closest_76 (by decide) (fun c_76 => ?_) (fun c_76 => ?_)
          · skip
            refine lv_aload_n hx hb dX5_closest_88 rfl (lv_at hl 3 rfl) ?_
            refine va_get (D := D) (ci := 5) (v := .ref pl) (C := RX5) (T := TX5) (N := 11) hx hb hts (in_X5_closest_X5) hown hK hP 0 rfl rfl 8 (by decide) (hts (.fieldLink RX5 53 "StepsRoundCircle" "places" "LStepsRoundCircle$Sorted;") (by decide +kernel)) (fun _ h9 => h9) rfl dX5_closest_89 ?_
            refine lv_iload hx hb dX5_closest_92 (lv_at hl 0 rfl) ?_
            refine rdV (As := [.int (nI (clo q (mk (plK q v w) n.toNatClampNeg) i))]) (rest := []) ⟨hx, hb, hml, hown, hts⟩ (c_X3_get l D cI cZ cR pl pn z_29 f_29 (nI (clo q (mk (plK q v w) n.toNatClampNeg) i)) ) (cwV 1 hts gX5_closest_X3_get rfl rfl rfl (by decide +kernel) ⟨Nat.le_of_ble_eq_true rfl, Nat.le_of_ble_eq_true rfl⟩) hK hN hP 4 3 rfl rfl rfl [4, 5] rfl rfl hl.1 rfl (Nat.le_of_ble_eq_true rfl) dX5_closest_94 ⟨Nat.zero_le _, Nat.zero_le _⟩ ?_
            exact wrI (w1 := (fun (u : (Nat → Int32) × Int32 × (Nat → Int32)) => [(x, .inr (5, [.ref r, .ref t, .ref im, .int hi, .ref tx, .ref ch, .ref ro, .ref rf, .ref pl, .ref ot, .ref cl])), (rf, .inl (cI, 6, .inl u.1)), (r, .inr (1, [.int q, .int nw, .ref rn])), (rn, .inl (cI, 20, .inl v)), (pl, .inr (3, [.int u.2.1, .ref pn])), (pn, .inl (cI, 200, .inl u.2.2))])) (F, z_29, f_29) hx hb hr hlocks dX5_closest_97 hS (hP.sub [0, 1, 2, 3, 4, 5] rfl) (hD.sub [0, 1, 2, 3, 4, 5] (by decide) rfl) (⟨by rw [if_pos c_12]; unfold cloA; rw [if_neg c_76, ← hend]; exact so_get_rep h1_29 (by omega), by rw [if_pos c_12]⟩)
          · skip
            refine lv_aload_n hx hb dX5_closest_79 rfl (lv_at hl 3 rfl) ?_
            refine lv_iload hx hb dX5_closest_80 (lv_at hl 0 rfl) ?_
            refine rdV (As := [.int (nI (clo q (mk (plK q v w) n.toNatClampNeg) i))]) (rest := []) ⟨hx, hb, hml, hown, hts⟩ (c_X5_gapBehind l D cI cZ cR x r t im tx ch ro rf pl ot cl hi rn q nw v pn z_29 f_29 (nI (clo q (mk (plK q v w) n.toNatClampNeg) i)) ) (cwV 1 hts gX5_closest_X5_gapBehind rfl rfl rfl (by decide +kernel) ⟨Nat.le_of_ble_eq_true rfl, Nat.le_of_ble_eq_true rfl⟩) hK hN hP 0 5 rfl rfl rfl [0, 2, 3, 4, 5] rfl rfl hl.1 rfl (Nat.le_of_ble_eq_true rfl) dX5_closest_82 ⟨Nat.zero_le _, Nat.zero_le _⟩ ?_
            refine lv_goto (tgt := 97) hx hb dX5_closest_85 (by decide) ?_
            exact wrI (w1 := (fun (u : (Nat → Int32) × Int32 × (Nat → Int32)) => [(x, .inr (5, [.ref r, .ref t, .ref im, .int hi, .ref tx, .ref ch, .ref ro, .ref rf, .ref pl, .ref ot, .ref cl])), (rf, .inl (cI, 6, .inl u.1)), (r, .inr (1, [.int q, .int nw, .ref rn])), (rn, .inl (cI, 20, .inl v)), (pl, .inr (3, [.int u.2.1, .ref pn])), (pn, .inl (cI, 200, .inl u.2.2))])) (F, z_29, f_29) hx hb hr hlocks dX5_closest_97 hS (hP.sub [0, 1, 2, 3, 4, 5] rfl) (hD.sub [0, 1, 2, 3, 4, 5] (by decide) rfl) (⟨by rw [if_pos c_12]; unfold cloA; rw [if_pos c_76, ← hend]; exact gp_gpL h1_29 (by omega), by rw [if_pos c_12]⟩)
        · skip
          have hiN : i < (mk (plK q v w) n.toNatClampNeg).length := by rcases Nat.lt_or_ge i (mk (plK q v w) n.toNatClampNeg).length with q9 | q9; exact q9; exact absurd (nI_le q9 (by omega)) c_47
          have hcl := clo_lt q (mk (plK q v w) n.toNatClampNeg) i hi1
          refine lv_aload_n hx hb dX5_closest_50 rfl (lv_at hl 3 rfl) ?_
          refine lv_iload hx hb dX5_closest_51 (lv_at hl 1 rfl) ?_
          refine rdV (As := [.int (nI i)]) (rest := []) ⟨hx, hb, hml, hown, hts⟩ (c_X5_gapBehind l D cI cZ cR x r t im tx ch ro rf pl ot cl hi rn q nw v pn z_29 f_29 (nI i) ) (cwV 1 hts gX5_closest_X5_gapBehind rfl rfl rfl (by decide +kernel) ⟨Nat.le_of_ble_eq_true rfl, Nat.le_of_ble_eq_true rfl⟩) hK hN hP 0 5 rfl rfl rfl [0, 2, 3, 4, 5] rfl rfl hl.1 rfl (Nat.le_of_ble_eq_true rfl) dX5_closest_53 ⟨Nat.zero_le _, Nat.zero_le _⟩ ?_
          refine lv_topi (fun z_56 hz_56 => ?_)
          have hz_56 : z_56 = gpL q (mk (plK q v w) n.toNatClampNeg) i := hz_56.trans (gp_gpL h1_29 hiN)
          subst hz_56
          refine lv_aload_n hx hb dX5_closest_56 rfl (lv_at hl 3 rfl) ?_
          refine lv_iload hx hb dX5_closest_57 (lv_at hl 0 rfl) ?_
          refine rdV (As := [.int (nI (clo q (mk (plK q v w) n.toNatClampNeg) i))]) (rest := [.int (gpL q (mk (plK q v w) n.toNatClampNeg) i)]) ⟨hx, hb, hml, hown, hts⟩ (c_X5_gapBehind l D cI cZ cR x r t im tx ch ro rf pl ot cl hi rn q nw v pn z_29 f_29 (nI (clo q (mk (plK q v w) n.toNatClampNeg) i)) ) (cwV 1 hts gX5_closest_X5_gapBehind rfl rfl rfl (by decide +kernel) ⟨Nat.le_of_ble_eq_true rfl, Nat.le_of_ble_eq_true rfl⟩) hK hN hP 0 5 rfl rfl rfl [0, 2, 3, 4, 5] rfl rfl hl.1 rfl (Nat.le_of_ble_eq_true rfl) dX5_closest_59 ⟨Nat.zero_le _, Nat.zero_le _⟩ ?_
          refine lv_topi (fun z_62 hz_62 => ?_)
          have hz_62 : z_62 = gpL q (mk (plK q v w) n.toNatClampNeg) (clo q (mk (plK q v w) n.toNatClampNeg) i) := hz_62.trans (gp_gpL h1_29 (by omega))
          subst hz_62
          refine lv_icmp_ge (tgt := 69) hx hb dX5_closest_62 (by decide) (fun c_62 => ?_) (fun c_62 => ?_)
          · skip
            refine lv_iinc (v := (nI i) + 1) (lv' := [(6, .int ((nI i) + 1)), (5, .int (nI (clo q (mk (plK q v w) n.toNatClampNeg) i))), (4, .int (rf_beh nw w n k 2)), (0, .ref x), (1, .int w), (2, .int n), (3, .int k)]) hx hb dX5_closest_69 hl (k := 1) rfl (by rfl) (by decide) rfl (fun ls hl => ?_)
            refine lv_goto (tgt := 38) hx hb dX5_closest_72 (by decide) ?_
            exact ih_38 (i + 1) (by omega) (by omega) (by omega) _ (by rw [clo, if_neg (fun z9 => absurd z9 (Int32.not_lt.mpr c_62))]) _ (by first | rfl | exact nI_1 _ | exact nI_0.symm) ls (lv_sub hl [1, 0, 2, 3, 4, 5, 6] rfl)
          · skip
            refine lv_iload hx hb dX5_closest_65 (lv_at hl 1 rfl) ?_
            refine lv_istore (lv' := [(5, .int (nI i)), (6, .int (nI i)), (4, .int (rf_beh nw w n k 2)), (0, .ref x), (1, .int w), (2, .int n), (3, .int k)]) hx hb dX5_closest_67 hl (by decide) rfl (fun ls hl => ?_)
            refine lv_iinc (v := (nI i) + 1) (lv' := [(6, .int ((nI i) + 1)), (5, .int (nI i)), (4, .int (rf_beh nw w n k 2)), (0, .ref x), (1, .int w), (2, .int n), (3, .int k)]) hx hb dX5_closest_69 hl (k := 1) rfl (by rfl) (by decide) rfl (fun ls hl => ?_)
            refine lv_goto (tgt := 38) hx hb dX5_closest_72 (by decide) ?_
            exact ih_38 (i + 1) (by omega) (by omega) (by omega) _ (by rw [clo, if_pos (Int32.not_le.mp c_62)]) _ (by first | rfl | exact nI_1 _ | exact nI_0.symm) ls (lv_sub hl [1, 0, 2, 3, 4, 5, 6] rfl)
    exact loop_38 ((mk (plK q v w) n.toNatClampNeg).length + 1) 1 (by omega) (by omega) (by omega) _ (by rw [clo_1]; exact nI_0.symm) _ (by first | rfl | exact nI_1 _ | exact nI_0.symm) ls (lv_sub hl [1, 0, 2, 3, 4, 5, 6] rfl)
  · skip
    refine lv_aload_n hx hb dX5_closest_15 rfl (lv_at hl 1 rfl) ?_
    refine lv_iload hx hb dX5_closest_16 (lv_at hl 0 rfl) ?_
    refine wrVi (As := [.int (rf_beh nw w n k 2)]) (rest := []) (wr := [(r, .inr (1, [.int q, .int nw, .ref rn])), (rn, .inl (cI, 20, .inl v)), (pl, .inr (3, [.int pz, .ref pn])), (pn, .inl (cI, 200, .inl pf))]) (A := A) ⟨hx, hb, hml, hown, hts⟩ (c_X5_refuse l D cI cZ cR x r t im tx ch ro rf pl ot cl hi F (rf_beh nw w n k 2)  s.heap.size) (cwV 1 hts gX5_closest_X5_refuse rfl rfl rfl (by decide +kernel) ⟨Nat.le_of_ble_eq_true rfl, Nat.le_of_ble_eq_true rfl⟩) hK hN hP hD hS hA 0 5 rfl rfl rfl [0, 1] [2, 3, 4, 5] rfl (by decide) rfl (by decide) (by decide) rfl hl.1 rfl (Nat.le_of_ble_eq_true rfl) dX5_closest_18 ⟨Nat.zero_le _, Nat.zero_le _⟩ (fun r_18 u H locs hw hP hD hS => ?_)
    obtain ⟨F_18, rfl⟩ : ∃ z, z = u := ⟨_, rfl⟩
    try dsimp only at hw
    obtain ⟨q1_18, q2_18⟩ := hw
    have q1_18 := q1_18.symm
    subst q1_18
    have q2_18 := q2_18.symm
    subst q2_18
    have hP : va_P D vwCl [(x, .inr (5, [.ref r, .ref t, .ref im, .int hi, .ref tx, .ref ch, .ref ro, .ref rf, .ref pl, .ref ot, .ref cl])), (rf, .inl (cI, 6, .inl (rf_bump F (rf_beh nw w n k 2)))), (r, .inr (1, [.int q, .int nw, .ref rn])), (rn, .inl (cI, 20, .inl v)), (pl, .inr (3, [.int pz, .ref pn])), (pn, .inl (cI, 200, .inl pf))] H := hP.sub [4, 5, 0, 1, 2, 3] rfl
    have hD : va_D A [(x, .inr (5, [.ref r, .ref t, .ref im, .int hi, .ref tx, .ref ch, .ref ro, .ref rf, .ref pl, .ref ot, .ref cl])), (rf, .inl (cI, 6, .inl (rf_bump F (rf_beh nw w n k 2)))), (r, .inr (1, [.int q, .int nw, .ref rn])), (rn, .inl (cI, 20, .inl v)), (pl, .inr (3, [.int pz, .ref pn])), (pn, .inl (cI, 200, .inl pf))] := hD.sub [4, 5, 0, 1, 2, 3] (by decide) rfl
    exact wrI (w1 := (fun (u : (Nat → Int32) × Int32 × (Nat → Int32)) => [(x, .inr (5, [.ref r, .ref t, .ref im, .int hi, .ref tx, .ref ch, .ref ro, .ref rf, .ref pl, .ref ot, .ref cl])), (rf, .inl (cI, 6, .inl u.1)), (r, .inr (1, [.int q, .int nw, .ref rn])), (rn, .inl (cI, 20, .inl v)), (pl, .inr (3, [.int u.2.1, .ref pn])), (pn, .inl (cI, 200, .inl u.2.2))])) ((rf_bump F (rf_beh nw w n k 2)), pz, pf) hx hb hr hlocks dX5_closest_21 hS (hP.sub [0, 1, 2, 3, 4, 5] rfl) (hD.sub [0, 1, 2, 3, 4, 5] (by decide) rfl) (by simp [c_12])
