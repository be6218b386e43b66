theorem in_X5_follow_X5 : ∀ w ∈ wsX50, w ∈ wsX5_follow := by decide +kernel
theorem in_X5_followCircle_X1 : ∀ w ∈ wsX10, w ∈ wsX5_followCircle := by decide +kernel
theorem in_X5_followCircle_X5 : ∀ w ∈ wsX50, w ∈ wsX5_followCircle := by decide +kernel
theorem in_X5_followGone_X5 : ∀ w ∈ wsX50, w ∈ wsX5_followGone := by decide +kernel
theorem in_X5_followStep_X5 : ∀ w ∈ wsX50, w ∈ wsX5_followStep := by decide +kernel
theorem in_X5_followWalker_X5 : ∀ w ∈ wsX50, w ∈ wsX5_followWalker := by decide +kernel
theorem in_X5_readWalk_X4 : ∀ w ∈ wsX40, w ∈ wsX5_readWalk := by decide +kernel
theorem in_X5_readWalk_X5 : ∀ w ∈ wsX50, w ∈ wsX5_readWalk := by decide +kernel
theorem in_X5_walk_X5 : ∀ w ∈ wsX50, w ∈ wsX5_walk := by decide +kernel
set_option maxHeartbeats 4000000 in
set_option maxRecDepth 100000 in
theorem c_X5_followCircle (l : Launch) (D : va_G) (cI cZ cR : ClassId) (x r t im tx ch ro rf pl ot cl : Nat) (hi : Int32) (tm : Nat) (tq tw : Int32) (tv : Nat → Int32) (n : Int32) (sz : Nat) : Met l yX5_followCircle wsX5_followCircle ({ frames := 3, cells := 0, slots := 0, locals := 66 }) (PcW D cI cZ cR [.ref x, .int n] [(x, .inr (5, [.ref r, .ref t, .ref im, .int hi, .ref tx, .ref ch, .ref ro, .ref rf, .ref pl, .ref ot, .ref cl])), (t, .inr (1, [.int tq, .int tw, .ref tm])), (tm, .inl (cI, 20, .inl tv))] sz) (va_Qi (fun (res : Int32) (u : Int32) => res = bi (foC tv tw n) ∧ u = (if foC tv tw n then n else tq)) (Bw D (fun (u : Int32) => [(x, .inr (5, [.ref r, .ref t, .ref im, .int hi, .ref tx, .ref ch, .ref ro, .ref rf, .ref pl, .ref ot, .ref cl])), (t, .inr (1, [.int u, .int tw, .ref tm])), (tm, .inl (cI, 20, .inl tv))]) (va_A [(x, .inr (5, [.ref r, .ref t, .ref im, .int hi, .ref tx, .ref ch, .ref ro, .ref rf, .ref pl, .ref ot, .ref cl])), (t, .inr (1, [.int tq, .int tw, .ref tm])), (tm, .inl (cI, 20, .inl tv))] sz)) (va_A [(x, .inr (5, [.ref r, .ref t, .ref im, .int hi, .ref tx, .ref ch, .ref ro, .ref rf, .ref pl, .ref ot, .ref cl])), (t, .inr (1, [.int tq, .int tw, .ref tm])), (tm, .inl (cI, 20, .inl tv))] sz)) 0 0 (va_A [(x, .inr (5, [.ref r, .ref t, .ref im, .int hi, .ref tx, .ref ch, .ref ro, .ref rf, .ref pl, .ref ot, .ref cl])), (t, .inr (1, [.int tq, .int tw, .ref tm])), (tm, .inl (cI, 20, .inl tv))] sz) := by
  refine Met.ofW (cc := cX5_followCircle) (maxL := 2) (ret := (some .boolean)) (by decide) rfl ?_
  intro p e s m args below meth c s₁ B hml hv
  obtain ⟨rfl, hsz, hP, hK, hD0, hN⟩ := hv
  have hx := B.exec
  have hb := B.bytes
  have hr := B.returns
  have hts := atoms_spec (ws := wsX5_followCircle) B.pre
  have hown : s.vm.findClass RX5 = some m.cls := findClass_of_methodNamed B.named
  have hlocks := B.notSynchronized
  subst hsz
  have hD := hD0.self (sz := s.heap.size)
  generalize hAe : va_A [(x, .inr (5, [.ref r, .ref t, .ref im, .int hi, .ref tx, .ref ch, .ref ro, .ref rf, .ref pl, .ref ot, .ref cl])), (t, .inr (1, [.int tq, .int tw, .ref tm])), (tm, .inl (cI, 20, .inl tv))] s.heap.size = A at hD ⊢
  have hA : ∀ q : Nat, s.heap.size ≤ q → A q := fun q h => by rw [← hAe]; exact Or.inr h
  have hS : va_S A s.heap s.heap [] := va_S.rf
  have hP : va_P D vwCl [(x, .inr (5, [.ref r, .ref t, .ref im, .int hi, .ref tx, .ref ch, .ref ro, .ref rf, .ref pl, .ref ot, .ref cl])), (t, .inr (1, [.int tq, .int tw, .ref tm])), (tm, .inl (cI, 20, .inl tv))] s.heap := hP
  have hl := lv_entry ([.ref x, .int n]) (n := 2) (Nat.le_of_ble_eq_true rfl)
  rw [lg_entry_eq]
  generalize (lg_sl ([.ref x, .int n]) ++ List.replicate (2 - (lg_sl ([.ref x, .int n])).length) Slot.unset).toArray = ls at hl ⊢
  have hl : lv_has ls 2 [(0, .ref x), (1, .int n)] := hl
  refine lv_iload_n hx hb dX5_followCircle_0 rfl (lv_at hl 1 rfl) ?_
  refine lv_iconst (v := 2) hx hb dX5_followCircle_1 (by decide) ?_
  refine lv_icmp_lt (tgt := 23) hx hb dX5_followCircle_2 (by decide) (fun c_2 => ?_) (fun c_2 => ?_)
  · skip
    refine lv_iconst (v := 0) hx hb dX5_followCircle_23 (by decide) ?_
    exact wrZ (foC tv tw n) (bi_f (fun z9 => absurd z9.1 (Int32.not_le.mpr c_2))).symm (w1 := (fun (u : Int32) => [(x, .inr (5, [.ref r, .ref t, .ref im, .int hi, .ref tx, .ref ch, .ref ro, .ref rf, .ref pl, .ref ot, .ref cl])), (t, .inr (1, [.int u, .int tw, .ref tm])), (tm, .inl (cI, 20, .inl tv))])) tq hx hb hr hlocks dX5_followCircle_24 hS (hP.sub [0, 1, 2] rfl) (hD.sub [0, 1, 2] (by decide) rfl) (⟨(bi_f (fun z9 => absurd z9.1 (Int32.not_le.mpr c_2))).symm, (if_neg (fun z9 => absurd z9.1 (Int32.not_le.mpr c_2))).symm⟩)
  · skip
    refine lv_iload_n hx hb dX5_followCircle_5 rfl (lv_at hl 1 rfl) ?_
    refine lv_sipush (v := 2000) hx hb dX5_followCircle_6 (by decide) ?_
    refine lv_icmp_gt (tgt := 23) hx hb dX5_followCircle_9 (by decide) (fun c_9 => ?_) (fun c_9 => ?_)
    · skip
      refine lv_iconst (v := 0) hx hb dX5_followCircle_23 (by decide) ?_
      exact wrZ (foC tv tw n) (bi_f (fun z9 => absurd z9.2.1 (Int32.not_le.mpr c_9))).symm (w1 := (fun (u : Int32) => [(x, .inr (5, [.ref r, .ref t, .ref im, .int hi, .ref tx, .ref ch, .ref ro, .ref rf, .ref pl, .ref ot, .ref cl])), (t, .inr (1, [.int u, .int tw, .ref tm])), (tm, .inl (cI, 20, .inl tv))])) tq hx hb hr hlocks dX5_followCircle_24 hS (hP.sub [0, 1, 2] rfl) (hD.sub [0, 1, 2] (by decide) rfl) (⟨(bi_f (fun z9 => absurd z9.2.1 (Int32.not_le.mpr c_9))).symm, (if_neg (fun z9 => absurd z9.2.1 (Int32.not_le.mpr c_9))).symm⟩)
    · skip
      refine lv_aload_n hx hb dX5_followCircle_12 rfl (lv_at hl 0 rfl) ?_
      refine va_get (D := D) (ci := 5) (v := .ref t) (C := RX5) (T := TX5) (N := 11) hx hb hts (in_X5_followCircle_X5) hown hK hP 0 rfl rfl 1 (by decide) (hts (.fieldLink RX5 16 "StepsRoundCircle" "trial" "LStepsRoundCircle$Ring;") (by decide +kernel)) (fun _ h9 => h9) rfl dX5_followCircle_13 ?_
      refine lv_iload_n hx hb dX5_followCircle_16 rfl (lv_at hl 1 rfl) ?_
      refine rdV (As := [.int n]) (rest := []) ⟨hx, hb, hml, hown, hts⟩ (c_X1_allBelow l D cI cZ cR t tm tq tw tv n ) (cwV 1 hts gX5_followCircle_X1_allBelow rfl rfl rfl (by decide +kernel) ⟨Nat.le_of_ble_eq_true rfl, Nat.le_of_ble_eq_true rfl⟩) hK hN hP 1 1 rfl rfl rfl [1, 2] rfl rfl hl.1 rfl (Nat.le_of_ble_eq_true rfl) dX5_followCircle_17 ⟨Nat.zero_le _, Nat.zero_le _⟩ ?_
      refine lv_if_ne (tgt := 25) hx hb dX5_followCircle_20 (by decide) (fun c_20 => ?_) (fun c_20 => ?_)
      · skip
        have c_20 := bi_ne0.mp c_20
        refine lv_aload_n hx hb dX5_followCircle_25 rfl (lv_at hl 0 rfl) ?_
        refine va_get (D := D) (ci := 5) (v := .ref t) (C := RX5) (T := TX5) (N := 11) hx hb hts (in_X5_followCircle_X5) hown hK hP 0 rfl rfl 1 (by decide) (hts (.fieldLink RX5 16 "StepsRoundCircle" "trial" "LStepsRoundCircle$Ring;") (by decide +kernel)) (fun _ h9 => h9) rfl dX5_followCircle_26 ?_
        refine lv_iload_n hx hb dX5_followCircle_29 rfl (lv_at hl 1 rfl) ?_
        refine va_put (D := D) (ci := 1) (v := .int n) (ty := .int) (C := RX1) (T := TX1) (N := 3) hx hb hts (in_X5_followCircle_X1) tyX1 tyX1_ok nmX1 hown hK hP hD hS 1 rfl rfl 0 (by decide) (hts (.fieldLink RX5 91 "StepsRoundCircle$Ring" "size" "I") (by decide +kernel)) (fun _ h9 => h9) rfl (by decide +kernel) rfl rfl (Nat.le_of_ble_eq_true rfl) dX5_followCircle_30 (fun H locs hP hD hS => ?_)
        have hP : va_P D vwCl [(x, .inr (5, [.ref r, .ref t, .ref im, .int hi, .ref tx, .ref ch, .ref ro, .ref rf, .ref pl, .ref ot, .ref cl])), (t, .inr (1, [.int n, .int tw, .ref tm])), (tm, .inl (cI, 20, .inl tv))] H := hP
        have hD : va_D A [(x, .inr (5, [.ref r, .ref t, .ref im, .int hi, .ref tx, .ref ch, .ref ro, .ref rf, .ref pl, .ref ot, .ref cl])), (t, .inr (1, [.int n, .int tw, .ref tm])), (tm, .inl (cI, 20, .inl tv))] := hD
        refine lv_iconst (v := 1) hx hb dX5_followCircle_33 (by decide) ?_
        exact wrZ (foC tv tw n) (bi_t ⟨Int32.not_lt.mp c_2, Int32.not_lt.mp c_9, c_20⟩).symm (w1 := (fun (u : Int32) => [(x, .inr (5, [.ref r, .ref t, .ref im, .int hi, .ref tx, .ref ch, .ref ro, .ref rf, .ref pl, .ref ot, .ref cl])), (t, .inr (1, [.int u, .int tw, .ref tm])), (tm, .inl (cI, 20, .inl tv))])) n hx hb hr hlocks dX5_followCircle_34 hS (hP.sub [0, 1, 2] rfl) (hD.sub [0, 1, 2] (by decide) rfl) (⟨(bi_t ⟨Int32.not_lt.mp c_2, Int32.not_lt.mp c_9, c_20⟩).symm, (if_pos ⟨Int32.not_lt.mp c_2, Int32.not_lt.mp c_9, c_20⟩).symm⟩)
      · skip
        have c_20 := bi_eq0.mp c_20
        refine lv_iconst (v := 0) hx hb dX5_followCircle_23 (by decide) ?_
        exact wrZ (foC tv tw n) (bi_f (fun z9 => c_20 z9.2.2)).symm (w1 := (fun (u : Int32) => [(x, .inr (5, [.ref r, .ref t, .ref im, .int hi, .ref tx, .ref ch, .ref ro, .ref rf, .ref pl, .ref ot, .ref cl])), (t, .inr (1, [.int u, .int tw, .ref tm])), (tm, .inl (cI, 20, .inl tv))])) tq hx hb hr hlocks dX5_followCircle_24 hS (hP.sub [0, 1, 2] rfl) (hD.sub [0, 1, 2] (by decide) rfl) (⟨(bi_f (fun z9 => c_20 z9.2.2)).symm, (if_neg (fun z9 => c_20 z9.2.2)).symm⟩)

set_option maxHeartbeats 4000000 in
set_option maxRecDepth 100000 in
theorem c_X5_followWalker (l : Launch) (D : va_G) (cI cZ cR : ClassId) (x r t im tx ch ro rf pl ot cl : Nat) (hi : Int32) (tn : Nat) (tz : Int32) (tf : Nat → Int32) (tm : Nat) (tq tw : Int32) (tv : Nat → Int32) (a9 nT : Nat) (htz : tz = nI nT) (hnT : nT ≤ 72) (ha9 : a9 + 12 ≤ nT) (sz : Nat) : Met l yX5_followWalker wsX5_followWalker ({ frames := 3, cells := 0, slots := 0, locals := 69 }) (PcW D cI cZ cR [.ref x, .int (nI a9)] [(x, .inr (5, [.ref r, .ref t, .ref im, .int hi, .ref tx, .ref ch, .ref ro, .ref rf, .ref pl, .ref ot, .ref cl])), (tx, .inr (4, [.int tz, .ref tn])), (tn, .inl (cI, 72, .inl tf)), (t, .inr (1, [.int tq, .int tw, .ref tm])), (tm, .inl (cI, 20, .inl tv))] sz) (va_Qi (fun (res : Int32) (u : Int32 × (Nat → Int32)) => res = bi (foR tf a9 tq tw) ∧ u.1 = (if foR tf a9 tq tw then tw + 1 else tw) ∧ u.2 = (if foR tf a9 tq tw then wadd tv tw (nmb tf (a9 + 1) 1) (nmb tf (a9 + 2) 4) (nmb tf (a9 + 6) 4) (nmb tf (a9 + 10) 1) else tv)) (Bw D (fun (u : Int32 × (Nat → Int32)) => [(x, .inr (5, [.ref r, .ref t, .ref im, .int hi, .ref tx, .ref ch, .ref ro, .ref rf, .ref pl, .ref ot, .ref cl])), (tx, .inr (4, [.int tz, .ref tn])), (tn, .inl (cI, 72, .inl tf)), (t, .inr (1, [.int tq, .int u.1, .ref tm])), (tm, .inl (cI, 20, .inl u.2))]) (va_A [(x, .inr (5, [.ref r, .ref t, .ref im, .int hi, .ref tx, .ref ch, .ref ro, .ref rf, .ref pl, .ref ot, .ref cl])), (tx, .inr (4, [.int tz, .ref tn])), (tn, .inl (cI, 72, .inl tf)), (t, .inr (1, [.int tq, .int tw, .ref tm])), (tm, .inl (cI, 20, .inl tv))] sz)) (va_A [(x, .inr (5, [.ref r, .ref t, .ref im, .int hi, .ref tx, .ref ch, .ref ro, .ref rf, .ref pl, .ref ot, .ref cl])), (tx, .inr (4, [.int tz, .ref tn])), (tn, .inl (cI, 72, .inl tf)), (t, .inr (1, [.int tq, .int tw, .ref tm])), (tm, .inl (cI, 20, .inl tv))] sz)) 0 0 (va_A [(x, .inr (5, [.ref r, .ref t, .ref im, .int hi, .ref tx, .ref ch, .ref ro, .ref rf, .ref pl, .ref ot, .ref cl])), (tx, .inr (4, [.int tz, .ref tn])), (tn, .inl (cI, 72, .inl tf)), (t, .inr (1, [.int tq, .int tw, .ref tm])), (tm, .inl (cI, 20, .inl tv))] sz) := by
  refine Met.ofW (cc := cX5_followWalker) (maxL := 6) (ret := (some .boolean)) (by decide) rfl ?_
  intro p e s m args below meth c s₁ B hml hv
  obtain ⟨rfl, hsz, hP, hK, hD0, hN⟩ := hv
  have hx := B.exec
  have hb := B.bytes
  have hr := B.returns
  have hts := atoms_spec (ws := wsX5_followWalker) B.pre
  have hown : s.vm.findClass RX5 = some m.cls := findClass_of_methodNamed B.named
  have hlocks := B.notSynchronized
  subst hsz
  have hD := hD0.self (sz := s.heap.size)
  generalize hAe : va_A [(x, .inr (5, [.ref r, .ref t, .ref im, .int hi, .ref tx, .ref ch, .ref ro, .ref rf, .ref pl, .ref ot, .ref cl])), (tx, .inr (4, [.int tz, .ref tn])), (tn, .inl (cI, 72, .inl tf)), (t, .inr (1, [.int tq, .int tw, .ref tm])), (tm, .inl (cI, 20, .inl tv))] s.heap.size = A at hD ⊢
  have hA : ∀ q : Nat, s.heap.size ≤ q → A q := fun q h => by rw [← hAe]; exact Or.inr h
  have hS : va_S A s.heap s.heap [] := va_S.rf
  have hP : va_P D vwCl [(x, .inr (5, [.ref r, .ref t, .ref im, .int hi, .ref tx, .ref ch, .ref ro, .ref rf, .ref pl, .ref ot, .ref cl])), (tx, .inr (4, [.int tz, .ref tn])), (tn, .inl (cI, 72, .inl tf)), (t, .inr (1, [.int tq, .int tw, .ref tm])), (tm, .inl (cI, 20, .inl tv))] s.heap := hP
  have hl := lv_entry ([.ref x, .int (nI a9)]) (n := 6) (Nat.le_of_ble_eq_true rfl)
  rw [lg_entry_eq]
  generalize (lg_sl ([.ref x, .int (nI a9)]) ++ List.replicate (6 - (lg_sl ([.ref x, .int (nI a9)])).length) Slot.unset).toArray = ls at hl ⊢
  have hl : lv_has ls 6 [(0, .ref x), (1, .int (nI a9))] := hl
  refine lv_aload_n hx hb dX5_followWalker_0 rfl (lv_at hl 0 rfl) ?_
  refine va_get (D := D) (ci := 5) (v := .ref tx) (C := RX5) (T := TX5) (N := 11) hx hb hts (in_X5_followWalker_X5) hown hK hP 0 rfl rfl 4 (by decide) (hts (.fieldLink RX5 29 "StepsRoundCircle" "text" "LStepsRoundCircle$Text;") (by decide +kernel)) (fun _ h9 => h9) rfl dX5_followWalker_1 ?_
  refine lv_iload_n hx hb dX5_followWalker_4 rfl (lv_at hl 1 rfl) ?_
  refine lv_iconst (v := 1) hx hb dX5_followWalker_5 (by decide) ?_
  refine lv_iadd hx hb dX5_followWalker_6 ?_
  refine lv_topi (fun z_7 hz_7 => ?_)
  have hz_7 : (nI (a9 + 1)) = z_7 := (hz_7.trans (nI_add a9 1)).symm
  subst hz_7
  refine lv_iconst (v := 1) hx hb dX5_followWalker_7 (by decide) ?_
  refine lv_topi (fun z_8 hz_8 => ?_)
  have hz_8 : (nI 1) = z_8 := (hz_8.trans rfl).symm
  subst hz_8
  refine rdV (As := [.int (nI (a9 + 1)), .int (nI 1)]) (rest := []) ⟨hx, hb, hml, hown, hts⟩ (c_X4_number l D cI cZ cR tx tn tz tf (a9 + 1) 1 nT htz hnT (by omega)) (cwV 2 hts gX5_followWalker_X4_number rfl rfl rfl (by decide +kernel) ⟨Nat.le_of_ble_eq_true rfl, Nat.le_of_ble_eq_true rfl⟩) hK hN hP 1 4 rfl rfl rfl [1, 2] rfl rfl hl.1 rfl (Nat.le_of_ble_eq_true rfl) dX5_followWalker_8 ⟨Nat.zero_le _, Nat.zero_le _⟩ ?_
  refine lv_istore_n (lv' := [(2, .int (nmb tf (a9 + 1) 1)), (0, .ref x), (1, .int (nI a9))]) hx hb dX5_followWalker_11 rfl hl (by decide) rfl (fun ls hl => ?_)
  refine lv_aload_n hx hb dX5_followWalker_12 rfl (lv_at hl 1 rfl) ?_
  refine va_get (D := D) (ci := 5) (v := .ref tx) (C := RX5) (T := TX5) (N := 11) hx hb hts (in_X5_followWalker_X5) hown hK hP 0 rfl rfl 4 (by decide) (hts (.fieldLink RX5 29 "StepsRoundCircle" "text" "LStepsRoundCircle$Text;") (by decide +kernel)) (fun _ h9 => h9) rfl dX5_followWalker_13 ?_
  refine lv_iload_n hx hb dX5_followWalker_16 rfl (lv_at hl 2 rfl) ?_
  refine lv_iconst (v := 2) hx hb dX5_followWalker_17 (by decide) ?_
  refine lv_iadd hx hb dX5_followWalker_18 ?_
  refine lv_topi (fun z_19 hz_19 => ?_)
  have hz_19 : (nI (a9 + 2)) = z_19 := (hz_19.trans (nI_add a9 2)).symm
  subst hz_19
  refine lv_iconst (v := 4) hx hb dX5_followWalker_19 (by decide) ?_
  refine lv_topi (fun z_20 hz_20 => ?_)
  have hz_20 : (nI 4) = z_20 := (hz_20.trans rfl).symm
  subst hz_20
  refine rdV (As := [.int (nI (a9 + 2)), .int (nI 4)]) (rest := []) ⟨hx, hb, hml, hown, hts⟩ (c_X4_number l D cI cZ cR tx tn tz tf (a9 + 2) 4 nT htz hnT (by omega)) (cwV 2 hts gX5_followWalker_X4_number rfl rfl rfl (by decide +kernel) ⟨Nat.le_of_ble_eq_true rfl, Nat.le_of_ble_eq_true rfl⟩) hK hN hP 1 4 rfl rfl rfl [1, 2] rfl rfl hl.1 rfl (Nat.le_of_ble_eq_true rfl) dX5_followWalker_20 ⟨Nat.zero_le _, Nat.zero_le _⟩ ?_
  refine lv_istore_n (lv' := [(3, .int (nmb tf (a9 + 2) 4)), (2, .int (nmb tf (a9 + 1) 1)), (0, .ref x), (1, .int (nI a9))]) hx hb dX5_followWalker_23 rfl hl (by decide) rfl (fun ls hl => ?_)
  refine lv_aload_n hx hb dX5_followWalker_24 rfl (lv_at hl 2 rfl) ?_
  refine va_get (D := D) (ci := 5) (v := .ref tx) (C := RX5) (T := TX5) (N := 11) hx hb hts (in_X5_followWalker_X5) hown hK hP 0 rfl rfl 4 (by decide) (hts (.fieldLink RX5 29 "StepsRoundCircle" "text" "LStepsRoundCircle$Text;") (by decide +kernel)) (fun _ h9 => h9) rfl dX5_followWalker_25 ?_
  refine lv_iload_n hx hb dX5_followWalker_28 rfl (lv_at hl 3 rfl) ?_
  refine lv_bipush (v := 6) hx hb dX5_followWalker_29 (by decide) ?_
  refine lv_iadd hx hb dX5_followWalker_31 ?_
  refine lv_topi (fun z_32 hz_32 => ?_)
  have hz_32 : (nI (a9 + 6)) = z_32 := (hz_32.trans (nI_add a9 6)).symm
  subst hz_32
  refine lv_iconst (v := 4) hx hb dX5_followWalker_32 (by decide) ?_
  refine lv_topi (fun z_33 hz_33 => ?_)
  have hz_33 : (nI 4) = z_33 := (hz_33.trans rfl).symm
  subst hz_33
  refine rdV (As := [.int (nI (a9 + 6)), .int (nI 4)]) (rest := []) ⟨hx, hb, hml, hown, hts⟩ (c_X4_number l D cI cZ cR tx tn tz tf (a9 + 6) 4 nT htz hnT (by omega)) (cwV 2 hts gX5_followWalker_X4_number rfl rfl rfl (by decide +kernel) ⟨Nat.le_of_ble_eq_true rfl, Nat.le_of_ble_eq_true rfl⟩) hK hN hP 1 4 rfl rfl rfl [1, 2] rfl rfl hl.1 rfl (Nat.le_of_ble_eq_true rfl) dX5_followWalker_33 ⟨Nat.zero_le _, Nat.zero_le _⟩ ?_
  refine lv_istore (lv' := [(4, .int (nmb tf (a9 + 6) 4)), (3, .int (nmb tf (a9 + 2) 4)), (2, .int (nmb tf (a9 + 1) 1)), (0, .ref x), (1, .int (nI a9))]) hx hb dX5_followWalker_36 hl (by decide) rfl (fun ls hl => ?_)
  refine lv_aload_n hx hb dX5_followWalker_38 rfl (lv_at hl 3 rfl) ?_
  refine va_get (D := D) (ci := 5) (v := .ref tx) (C := RX5) (T := TX5) (N := 11) hx hb hts (in_X5_followWalker_X5) hown hK hP 0 rfl rfl 4 (by decide) (hts (.fieldLink RX5 29 "StepsRoundCircle" "text" "LStepsRoundCircle$Text;") (by decide +kernel)) (fun _ h9 => h9) rfl dX5_followWalker_39 ?_
  refine lv_iload_n hx hb dX5_followWalker_42 rfl (lv_at hl 4 rfl) ?_
  refine lv_bipush (v := 10) hx hb dX5_followWalker_43 (by decide) ?_
  refine lv_iadd hx hb dX5_followWalker_45 ?_
  refine lv_topi (fun z_46 hz_46 => ?_)
  have hz_46 : (nI (a9 + 10)) = z_46 := (hz_46.trans (nI_add a9 10)).symm
  subst hz_46
  refine lv_iconst (v := 1) hx hb dX5_followWalker_46 (by decide) ?_
  refine lv_topi (fun z_47 hz_47 => ?_)
  have hz_47 : (nI 1) = z_47 := (hz_47.trans rfl).symm
  subst hz_47
  refine rdV (As := [.int (nI (a9 + 10)), .int (nI 1)]) (rest := []) ⟨hx, hb, hml, hown, hts⟩ (c_X4_number l D cI cZ cR tx tn tz tf (a9 + 10) 1 nT htz hnT (by omega)) (cwV 2 hts gX5_followWalker_X4_number rfl rfl rfl (by decide +kernel) ⟨Nat.le_of_ble_eq_true rfl, Nat.le_of_ble_eq_true rfl⟩) hK hN hP 1 4 rfl rfl rfl [1, 2] rfl rfl hl.1 rfl (Nat.le_of_ble_eq_true rfl) dX5_followWalker_47 ⟨Nat.zero_le _, Nat.zero_le _⟩ ?_
  refine lv_istore (lv' := [(5, .int (nmb tf (a9 + 10) 1)), (4, .int (nmb tf (a9 + 6) 4)), (3, .int (nmb tf (a9 + 2) 4)), (2, .int (nmb tf (a9 + 1) 1)), (0, .ref x), (1, .int (nI a9))]) hx hb dX5_followWalker_50 hl (by decide) rfl (fun ls hl => ?_)
  refine lv_aload_n hx hb dX5_followWalker_52 rfl (lv_at hl 4 rfl) ?_
  refine va_get (D := D) (ci := 5) (v := .ref t) (C := RX5) (T := TX5) (N := 11) hx hb hts (in_X5_followWalker_X5) hown hK hP 0 rfl rfl 1 (by decide) (hts (.fieldLink RX5 16 "StepsRoundCircle" "trial" "LStepsRoundCircle$Ring;") (by decide +kernel)) (fun _ h9 => h9) rfl dX5_followWalker_53 ?_
  refine lv_iload_n hx hb dX5_followWalker_56 rfl (lv_at hl 3 rfl) ?_
  refine lv_iload_n hx hb dX5_followWalker_57 rfl (lv_at hl 2 rfl) ?_
  refine lv_iload hx hb dX5_followWalker_58 (lv_at hl 1 rfl) ?_
  refine lv_iload hx hb dX5_followWalker_60 (lv_at hl 0 rfl) ?_
  refine rdV (As := [.int (nmb tf (a9 + 1) 1), .int (nmb tf (a9 + 2) 4), .int (nmb tf (a9 + 6) 4), .int (nmb tf (a9 + 10) 1)]) (rest := []) ⟨hx, hb, hml, hown, hts⟩ (c_X1_hasRoomFor l D cI cZ cR t tm tq tw tv (nmb tf (a9 + 1) 1) (nmb tf (a9 + 2) 4) (nmb tf (a9 + 6) 4) (nmb tf (a9 + 10) 1) ) (cwV 4 hts gX5_followWalker_X1_hasRoomFor rfl rfl rfl (by decide +kernel) ⟨Nat.le_of_ble_eq_true rfl, Nat.le_of_ble_eq_true rfl⟩) hK hN hP 3 1 rfl rfl rfl [3, 4] rfl rfl hl.1 rfl (Nat.le_of_ble_eq_true rfl) dX5_followWalker_62 ⟨Nat.zero_le _, Nat.zero_le _⟩ ?_
  refine lv_if_ne (tgt := 70) hx hb dX5_followWalker_65 (by decide) (fun c_65 => ?_) (fun c_65 => ?_)
  · skip
    have c_65 := bi_ne0.mp c_65
    refine lv_aload_n hx hb dX5_followWalker_70 rfl (lv_at hl 4 rfl) ?_
    refine va_get (D := D) (ci := 5) (v := .ref t) (C := RX5) (T := TX5) (N := 11) hx hb hts (in_X5_followWalker_X5) hown hK hP 0 rfl rfl 1 (by decide) (hts (.fieldLink RX5 16 "StepsRoundCircle" "trial" "LStepsRoundCircle$Ring;") (by decide +kernel)) (fun _ h9 => h9) rfl dX5_followWalker_71 ?_
    refine lv_iload_n hx hb dX5_followWalker_74 rfl (lv_at hl 3 rfl) ?_
    refine lv_iload_n hx hb dX5_followWalker_75 rfl (lv_at hl 2 rfl) ?_
    refine lv_iload hx hb dX5_followWalker_76 (lv_at hl 1 rfl) ?_
    refine lv_iload hx hb dX5_followWalker_78 (lv_at hl 0 rfl) ?_
    refine wrVv (As := [.int (nmb tf (a9 + 1) 1), .int (nmb tf (a9 + 2) 4), .int (nmb tf (a9 + 6) 4), .int (nmb tf (a9 + 10) 1)]) (rest := []) (wr := [(x, .inr (5, [.ref r, .ref t, .ref im, .int hi, .ref tx, .ref ch, .ref ro, .ref rf, .ref pl, .ref ot, .ref cl])), (tx, .inr (4, [.int tz, .ref tn])), (tn, .inl (cI, 72, .inl tf))]) (A := A) ⟨hx, hb, hml, hown, hts⟩ (c_X1_add l D cI cZ cR t tm tq tw tv (nmb tf (a9 + 1) 1) (nmb tf (a9 + 2) 4) (nmb tf (a9 + 6) 4) (nmb tf (a9 + 10) 1)  s.heap.size) (cwV 4 hts gX5_followWalker_X1_add rfl rfl rfl (by decide +kernel) ⟨Nat.le_of_ble_eq_true rfl, Nat.le_of_ble_eq_true rfl⟩) hK hN hP hD hS hA 3 1 rfl rfl rfl [3, 4] [0, 1, 2] rfl (by decide) rfl (by decide) (by decide) rfl hl.1 rfl (Nat.le_of_ble_eq_true rfl) dX5_followWalker_80 ⟨Nat.zero_le _, Nat.zero_le _⟩ (fun u H locs hw hP hD hS => ?_)
    obtain ⟨nw_80, v_80⟩ := u
    try dsimp only at hw
    obtain ⟨q1_80, q2_80⟩ := hw
    have q1_80 := q1_80.symm
    subst q1_80
    have q2_80 := q2_80.symm
    subst q2_80
    have hP : va_P D vwCl [(x, .inr (5, [.ref r, .ref t, .ref im, .int hi, .ref tx, .ref ch, .ref ro, .ref rf, .ref pl, .ref ot, .ref cl])), (tx, .inr (4, [.int tz, .ref tn])), (tn, .inl (cI, 72, .inl tf)), (t, .inr (1, [.int tq, .int (tw + 1), .ref tm])), (tm, .inl (cI, 20, .inl (rg_set (rg_set (rg_set (rg_set tv tw 0 (nmb tf (a9 + 1) 1)) tw 1 (nmb tf (a9 + 2) 4)) tw 2 (nmb tf (a9 + 6) 4)) tw 3 (nmb tf (a9 + 10) 1))))] H := hP.sub [0, 1, 2, 3, 4] rfl
    have hD : va_D A [(x, .inr (5, [.ref r, .ref t, .ref im, .int hi, .ref tx, .ref ch, .ref ro, .ref rf, .ref pl, .ref ot, .ref cl])), (tx, .inr (4, [.int tz, .ref tn])), (tn, .inl (cI, 72, .inl tf)), (t, .inr (1, [.int tq, .int (tw + 1), .ref tm])), (tm, .inl (cI, 20, .inl (rg_set (rg_set (rg_set (rg_set tv tw 0 (nmb tf (a9 + 1) 1)) tw 1 (nmb tf (a9 + 2) 4)) tw 2 (nmb tf (a9 + 6) 4)) tw 3 (nmb tf (a9 + 10) 1))))] := hD.sub [0, 1, 2, 3, 4] (by decide) rfl
    refine lv_iconst (v := 1) hx hb dX5_followWalker_83 (by decide) ?_
    exact wrZ (foR tf a9 tq tw) (bi_t c_65).symm (w1 := (fun (u : Int32 × (Nat → Int32)) => [(x, .inr (5, [.ref r, .ref t, .ref im, .int hi, .ref tx, .ref ch, .ref ro, .ref rf, .ref pl, .ref ot, .ref cl])), (tx, .inr (4, [.int tz, .ref tn])), (tn, .inl (cI, 72, .inl tf)), (t, .inr (1, [.int tq, .int u.1, .ref tm])), (tm, .inl (cI, 20, .inl u.2))])) ((tw + 1), (rg_set (rg_set (rg_set (rg_set tv tw 0 (nmb tf (a9 + 1) 1)) tw 1 (nmb tf (a9 + 2) 4)) tw 2 (nmb tf (a9 + 6) 4)) tw 3 (nmb tf (a9 + 10) 1))) hx hb hr hlocks dX5_followWalker_84 hS (hP.sub [0, 1, 2, 3, 4] rfl) (hD.sub [0, 1, 2, 3, 4] (by decide) rfl) (⟨(bi_t c_65).symm, (if_pos c_65).symm, (if_pos c_65).symm⟩)
  · skip
    have c_65 := bi_eq0.mp c_65
    refine lv_iconst (v := 0) hx hb dX5_followWalker_68 (by decide) ?_
    exact wrZ (foR tf a9 tq tw) (bi_f c_65).symm (w1 := (fun (u : Int32 × (Nat → Int32)) => [(x, .inr (5, [.ref r, .ref t, .ref im, .int hi, .ref tx, .ref ch, .ref ro, .ref rf, .ref pl, .ref ot, .ref cl])), (tx, .inr (4, [.int tz, .ref tn])), (tn, .inl (cI, 72, .inl tf)), (t, .inr (1, [.int tq, .int u.1, .ref tm])), (tm, .inl (cI, 20, .inl u.2))])) (tw, tv) hx hb hr hlocks dX5_followWalker_69 hS (hP.sub [0, 1, 2, 3, 4] rfl) (hD.sub [0, 1, 2, 3, 4] (by decide) rfl) (⟨(bi_f c_65).symm, (if_neg c_65).symm, (if_neg c_65).symm⟩)

set_option maxHeartbeats 4000000 in
set_option maxRecDepth 100000 in
theorem c_X5_followStep (l : Launch) (D : va_G) (cI cZ cR : ClassId) (x r t im tx ch ro rf pl ot cl : Nat) (hi : Int32) (tm : Nat) (tq tw : Int32) (tv : Nat → Int32) (w k : Int32) (sz : Nat) : Met l yX5_followStep wsX5_followStep ({ frames := 2, cells := 0, slots := 0, locals := 45 }) (PcW D cI cZ cR [.ref x, .int w, .int k] [(x, .inr (5, [.ref r, .ref t, .ref im, .int hi, .ref tx, .ref ch, .ref ro, .ref rf, .ref pl, .ref ot, .ref cl])), (t, .inr (1, [.int tq, .int tw, .ref tm])), (tm, .inl (cI, 20, .inl tv))] sz) (va_Qi (fun (res : Int32) (u : (Nat → Int32)) => (res = bi (foH tw w ∧ k ≤ rg_gr tq 1)) ∧ (u = (if foH tw w ∧ k ≤ rg_gr tq 1 then rg_set tv w 1 k else tv))) (Bw D (fun (u : (Nat → Int32)) => [(x, .inr (5, [.ref r, .ref t, .ref im, .int hi, .ref tx, .ref ch, .ref ro, .ref rf, .ref pl, .ref ot, .ref cl])), (t, .inr (1, [.int tq, .int tw, .ref tm])), (tm, .inl (cI, 20, .inl u))]) (va_A [(x, .inr (5, [.ref r, .ref t, .ref im, .int hi, .ref tx, .ref ch, .ref ro, .ref rf, .ref pl, .ref ot, .ref cl])), (t, .inr (1, [.int tq, .int tw, .ref tm])), (tm, .inl (cI, 20, .inl tv))] sz)) (va_A [(x, .inr (5, [.ref r, .ref t, .ref im, .int hi, .ref tx, .ref ch, .ref ro, .ref rf, .ref pl, .ref ot, .ref cl])), (t, .inr (1, [.int tq, .int tw, .ref tm])), (tm, .inl (cI, 20, .inl tv))] sz)) 0 0 (va_A [(x, .inr (5, [.ref r, .ref t, .ref im, .int hi, .ref tx, .ref ch, .ref ro, .ref rf, .ref pl, .ref ot, .ref cl])), (t, .inr (1, [.int tq, .int tw, .ref tm])), (tm, .inl (cI, 20, .inl tv))] sz) := by
  refine Met.ofW (cc := cX5_followStep) (maxL := 3) (ret := (some .boolean)) (by decide) rfl ?_
  intro p e s m args below meth c s₁ B hml hv
  obtain ⟨rfl, hsz, hP, hK, hD0, hN⟩ := hv
  have hx := B.exec
  have hb := B.bytes
  have hr := B.returns
  have hts := atoms_spec (ws := wsX5_followStep) B.pre
  have hown : s.vm.findClass RX5 = some m.cls := findClass_of_methodNamed B.named
  have hlocks := B.notSynchronized
  subst hsz
  have hD := hD0.self (sz := s.heap.size)
  generalize hAe : va_A [(x, .inr (5, [.ref r, .ref t, .ref im, .int hi, .ref tx, .ref ch, .ref ro, .ref rf, .ref pl, .ref ot, .ref cl])), (t, .inr (1, [.int tq, .int tw, .ref tm])), (tm, .inl (cI, 20, .inl tv))] s.heap.size = A at hD ⊢
  have hA : ∀ q : Nat, s.heap.size ≤ q → A q := fun q h => by rw [← hAe]; exact Or.inr h
  have hS : va_S A s.heap s.heap [] := va_S.rf
  have hP : va_P D vwCl [(x, .inr (5, [.ref r, .ref t, .ref im, .int hi, .ref tx, .ref ch, .ref ro, .ref rf, .ref pl, .ref ot, .ref cl])), (t, .inr (1, [.int tq, .int tw, .ref tm])), (tm, .inl (cI, 20, .inl tv))] s.heap := hP
  have hl := lv_entry ([.ref x, .int w, .int k]) (n := 3) (Nat.le_of_ble_eq_true rfl)
  rw [lg_entry_eq]
  generalize (lg_sl ([.ref x, .int w, .int k]) ++ List.replicate (3 - (lg_sl ([.ref x, .int w, .int k])).length) Slot.unset).toArray = ls at hl ⊢
  have hl : lv_has ls 3 [(0, .ref x), (1, .int w), (2, .int k)] := hl
  refine lv_aload_n hx hb dX5_followStep_0 rfl (lv_at hl 0 rfl) ?_
  refine va_get (D := D) (ci := 5) (v := .ref t) (C := RX5) (T := TX5) (N := 11) hx hb hts (in_X5_followStep_X5) hown hK hP 0 rfl rfl 1 (by decide) (hts (.fieldLink RX5 16 "StepsRoundCircle" "trial" "LStepsRoundCircle$Ring;") (by decide +kernel)) (fun _ h9 => h9) rfl dX5_followStep_1 ?_
  refine lv_iload_n hx hb dX5_followStep_4 rfl (lv_at hl 1 rfl) ?_
  refine rdV (As := [.int w]) (rest := []) ⟨hx, hb, hml, hown, hts⟩ (c_X1_has l D cI cZ cR t tm tq tw tv w ) (cwV 1 hts gX5_followStep_X1_has rfl rfl rfl (by decide +kernel) ⟨Nat.le_of_ble_eq_true rfl, Nat.le_of_ble_eq_true rfl⟩) hK hN hP 1 1 rfl rfl rfl [1, 2] rfl rfl hl.1 rfl (Nat.le_of_ble_eq_true rfl) dX5_followStep_5 ⟨Nat.zero_le _, Nat.zero_le _⟩ ?_
  refine lv_if_eq (tgt := 23) hx hb dX5_followStep_8 (by decide) (fun c_8 => ?_) (fun c_8 => ?_)
  · skip
    have c_8 := bi_eq0.mp c_8
    refine lv_iconst (v := 0) hx hb dX5_followStep_23 (by decide) ?_
    exact wrZ (foH tw w ∧ k ≤ rg_gr tq 1) (bi_f (fun z9 => c_8 z9.1)).symm (w1 := (fun (u : (Nat → Int32)) => [(x, .inr (5, [.ref r, .ref t, .ref im, .int hi, .ref tx, .ref ch, .ref ro, .ref rf, .ref pl, .ref ot, .ref cl])), (t, .inr (1, [.int tq, .int tw, .ref tm])), (tm, .inl (cI, 20, .inl u))])) tv hx hb hr hlocks dX5_followStep_24 hS (hP.sub [0, 1, 2] rfl) (hD.sub [0, 1, 2] (by decide) rfl) (⟨(bi_f (fun z9 => c_8 z9.1)).symm, (if_neg (fun z9 => c_8 z9.1)).symm⟩)
  · skip
    have c_8 := bi_ne0.mp c_8
    refine lv_iload_n hx hb dX5_followStep_11 rfl (lv_at hl 2 rfl) ?_
    refine lv_aload_n hx hb dX5_followStep_12 rfl (lv_at hl 0 rfl) ?_
    refine va_get (D := D) (ci := 5) (v := .ref t) (C := RX5) (T := TX5) (N := 11) hx hb hts (in_X5_followStep_X5) hown hK hP 0 rfl rfl 1 (by decide) (hts (.fieldLink RX5 16 "StepsRoundCircle" "trial" "LStepsRoundCircle$Ring;") (by decide +kernel)) (fun _ h9 => h9) rfl dX5_followStep_13 ?_
    refine lv_iconst (v := 1) hx hb dX5_followStep_16 (by decide) ?_
    refine rdV (As := [.int 1]) (rest := [.int k]) ⟨hx, hb, hml, hown, hts⟩ (c_X1_greatest l D cI cZ cR t tm tq tw tv 1 ) (cwV 1 hts gX5_followStep_X1_greatest rfl rfl rfl (by decide +kernel) ⟨Nat.le_of_ble_eq_true rfl, Nat.le_of_ble_eq_true rfl⟩) hK hN hP 1 1 rfl rfl rfl [1, 2] rfl rfl hl.1 rfl (Nat.le_of_ble_eq_true rfl) dX5_followStep_17 ⟨Nat.zero_le _, Nat.zero_le _⟩ ?_
    refine lv_icmp_le (tgt := 25) hx hb dX5_followStep_20 (by decide) (fun c_20 => ?_) (fun c_20 => ?_)
    · skip
      refine lv_aload_n hx hb dX5_followStep_25 rfl (lv_at hl 0 rfl) ?_
      refine va_get (D := D) (ci := 5) (v := .ref t) (C := RX5) (T := TX5) (N := 11) hx hb hts (in_X5_followStep_X5) hown hK hP 0 rfl rfl 1 (by decide) (hts (.fieldLink RX5 16 "StepsRoundCircle" "trial" "LStepsRoundCircle$Ring;") (by decide +kernel)) (fun _ h9 => h9) rfl dX5_followStep_26 ?_
      refine lv_iload_n hx hb dX5_followStep_29 rfl (lv_at hl 1 rfl) ?_
      refine lv_iconst (v := 1) hx hb dX5_followStep_30 (by decide) ?_
      refine lv_iload_n hx hb dX5_followStep_31 rfl (lv_at hl 2 rfl) ?_
      refine wrVv (As := [.int w, .int 1, .int k]) (rest := []) (wr := [(x, .inr (5, [.ref r, .ref t, .ref im, .int hi, .ref tx, .ref ch, .ref ro, .ref rf, .ref pl, .ref ot, .ref cl]))]) (A := A) ⟨hx, hb, hml, hown, hts⟩ (c_X1_setValue l D cI cZ cR t tm tq tw tv w 1 k  s.heap.size) (cwV 3 hts gX5_followStep_X1_setValue rfl rfl rfl (by decide +kernel) ⟨Nat.le_of_ble_eq_true rfl, Nat.le_of_ble_eq_true rfl⟩) hK hN hP hD hS hA 1 1 rfl rfl rfl [1, 2] [0] rfl (by decide) rfl (by decide) (by decide) rfl hl.1 rfl (Nat.le_of_ble_eq_true rfl) dX5_followStep_32 ⟨Nat.zero_le _, Nat.zero_le _⟩ (fun u H locs hw hP hD hS => ?_)
      obtain ⟨v_32, rfl⟩ : ∃ z, z = u := ⟨_, rfl⟩
      try dsimp only at hw
      have q1_32 := hw
      have q1_32 := q1_32.symm
      subst q1_32
      have hP : va_P D vwCl [(x, .inr (5, [.ref r, .ref t, .ref im, .int hi, .ref tx, .ref ch, .ref ro, .ref rf, .ref pl, .ref ot, .ref cl])), (t, .inr (1, [.int tq, .int tw, .ref tm])), (tm, .inl (cI, 20, .inl (rg_set tv w 1 k)))] H := hP.sub [0, 1, 2] rfl
      have hD : va_D A [(x, .inr (5, [.ref r, .ref t, .ref im, .int hi, .ref tx, .ref ch, .ref ro, .ref rf, .ref pl, .ref ot, .ref cl])), (t, .inr (1, [.int tq, .int tw, .ref tm])), (tm, .inl (cI, 20, .inl (rg_set tv w 1 k)))] := hD.sub [0, 1, 2] (by decide) rfl
      refine lv_iconst (v := 1) hx hb dX5_followStep_35 (by decide) ?_
      exact wrZ (foH tw w ∧ k ≤ rg_gr tq 1) (bi_t ⟨c_8, c_20⟩).symm (w1 := (fun (u : (Nat → Int32)) => [(x, .inr (5, [.ref r, .ref t, .ref im, .int hi, .ref tx, .ref ch, .ref ro, .ref rf, .ref pl, .ref ot, .ref cl])), (t, .inr (1, [.int tq, .int tw, .ref tm])), (tm, .inl (cI, 20, .inl u))])) (rg_set tv w 1 k) hx hb hr hlocks dX5_followStep_36 hS (hP.sub [0, 1, 2] rfl) (hD.sub [0, 1, 2] (by decide) rfl) (⟨(bi_t ⟨c_8, c_20⟩).symm, (if_pos ⟨c_8, c_20⟩).symm⟩)
    · skip
      refine lv_iconst (v := 0) hx hb dX5_followStep_23 (by decide) ?_
      exact wrZ (foH tw w ∧ k ≤ rg_gr tq 1) (bi_f (fun z9 => c_20 z9.2)).symm (w1 := (fun (u : (Nat → Int32)) => [(x, .inr (5, [.ref r, .ref t, .ref im, .int hi, .ref tx, .ref ch, .ref ro, .ref rf, .ref pl, .ref ot, .ref cl])), (t, .inr (1, [.int tq, .int tw, .ref tm])), (tm, .inl (cI, 20, .inl u))])) tv hx hb hr hlocks dX5_followStep_24 hS (hP.sub [0, 1, 2] rfl) (hD.sub [0, 1, 2] (by decide) rfl) (⟨(bi_f (fun z9 => c_20 z9.2)).symm, (if_neg (fun z9 => c_20 z9.2)).symm⟩)

set_option maxHeartbeats 4000000 in
set_option maxRecDepth 100000 in
theorem c_X5_followGone (l : Launch) (D : va_G) (cI cZ cR : ClassId) (x r t im tx ch ro rf pl ot cl : Nat) (hi : Int32) (tm : Nat) (tq tw : Int32) (tv : Nat → Int32) (w : Int32) (htw : 0 ≤ tw ∧ tw ≤ 5) (sz : Nat) : Met l yX5_followGone wsX5_followGone ({ frames := 3, cells := 0, slots := 0, locals := 68 }) (PcW D cI cZ cR [.ref x, .int w] [(x, .inr (5, [.ref r, .ref t, .ref im, .int hi, .ref tx, .ref ch, .ref ro, .ref rf, .ref pl, .ref ot, .ref cl])), (t, .inr (1, [.int tq, .int tw, .ref tm])), (tm, .inl (cI, 20, .inl tv))] sz) (va_Qi (fun (res : Int32) (u : Int32 × (Nat → Int32)) => res = bi (foH tw w) ∧ u.1 = (if foH tw w then tw - 1 else tw) ∧ u.2 = (if foH tw w then rg_cp tv w.toNatClampNeg tw.toNatClampNeg else tv)) (Bw D (fun (u : Int32 × (Nat → Int32)) => [(x, .inr (5, [.ref r, .ref t, .ref im, .int hi, .ref tx, .ref ch, .ref ro, .ref rf, .ref pl, .ref ot, .ref cl])), (t, .inr (1, [.int tq, .int u.1, .ref tm])), (tm, .inl (cI, 20, .inl u.2))]) (va_A [(x, .inr (5, [.ref r, .ref t, .ref im, .int hi, .ref tx, .ref ch, .ref ro, .ref rf, .ref pl, .ref ot, .ref cl])), (t, .inr (1, [.int tq, .int tw, .ref tm])), (tm, .inl (cI, 20, .inl tv))] sz)) (va_A [(x, .inr (5, [.ref r, .ref t, .ref im, .int hi, .ref tx, .ref ch, .ref ro, .ref rf, .ref pl, .ref ot, .ref cl])), (t, .inr (1, [.int tq, .int tw, .ref tm])), (tm, .inl (cI, 20, .inl tv))] sz)) 0 0 (va_A [(x, .inr (5, [.ref r, .ref t, .ref im, .int hi, .ref tx, .ref ch, .ref ro, .ref rf, .ref pl, .ref ot, .ref cl])), (t, .inr (1, [.int tq, .int tw, .ref tm])), (tm, .inl (cI, 20, .inl tv))] sz) := by
  refine Met.ofW (cc := cX5_followGone) (maxL := 2) (ret := (some .boolean)) (by decide) rfl ?_
  intro p e s m args below meth c s₁ B hml hv
  obtain ⟨rfl, hsz, hP, hK, hD0, hN⟩ := hv
  have hx := B.exec
  have hb := B.bytes
  have hr := B.returns
  have hts := atoms_spec (ws := wsX5_followGone) B.pre
  have hown : s.vm.findClass RX5 = some m.cls := findClass_of_methodNamed B.named
  have hlocks := B.notSynchronized
  subst hsz
  have hD := hD0.self (sz := s.heap.size)
  generalize hAe : va_A [(x, .inr (5, [.ref r, .ref t, .ref im, .int hi, .ref tx, .ref ch, .ref ro, .ref rf, .ref pl, .ref ot, .ref cl])), (t, .inr (1, [.int tq, .int tw, .ref tm])), (tm, .inl (cI, 20, .inl tv))] s.heap.size = A at hD ⊢
  have hA : ∀ q : Nat, s.heap.size ≤ q → A q := fun q h => by rw [← hAe]; exact Or.inr h
  have hS : va_S A s.heap s.heap [] := va_S.rf
  have hP : va_P D vwCl [(x, .inr (5, [.ref r, .ref t, .ref im, .int hi, .ref tx, .ref ch, .ref ro, .ref rf, .ref pl, .ref ot, .ref cl])), (t, .inr (1, [.int tq, .int tw, .ref tm])), (tm, .inl (cI, 20, .inl tv))] s.heap := hP
  have hl := lv_entry ([.ref x, .int w]) (n := 2) (Nat.le_of_ble_eq_true rfl)
  rw [lg_entry_eq]
  generalize (lg_sl ([.ref x, .int w]) ++ List.replicate (2 - (lg_sl ([.ref x, .int w])).length) Slot.unset).toArray = ls at hl ⊢
  have hl : lv_has ls 2 [(0, .ref x), (1, .int w)] := hl
  refine lv_aload_n hx hb dX5_followGone_0 rfl (lv_at hl 0 rfl) ?_
  refine va_get (D := D) (ci := 5) (v := .ref t) (C := RX5) (T := TX5) (N := 11) hx hb hts (in_X5_followGone_X5) hown hK hP 0 rfl rfl 1 (by decide) (hts (.fieldLink RX5 16 "StepsRoundCircle" "trial" "LStepsRoundCircle$Ring;") (by decide +kernel)) (fun _ h9 => h9) rfl dX5_followGone_1 ?_
  refine lv_iload_n hx hb dX5_followGone_4 rfl (lv_at hl 1 rfl) ?_
  refine rdV (As := [.int w]) (rest := []) ⟨hx, hb, hml, hown, hts⟩ (c_X1_has l D cI cZ cR t tm tq tw tv w ) (cwV 1 hts gX5_followGone_X1_has rfl rfl rfl (by decide +kernel) ⟨Nat.le_of_ble_eq_true rfl, Nat.le_of_ble_eq_true rfl⟩) hK hN hP 1 1 rfl rfl rfl [1, 2] rfl rfl hl.1 rfl (Nat.le_of_ble_eq_true rfl) dX5_followGone_5 ⟨Nat.zero_le _, Nat.zero_le _⟩ ?_
  refine lv_if_ne (tgt := 13) hx hb dX5_followGone_8 (by decide) (fun c_8 => ?_) (fun c_8 => ?_)
  · skip
    have c_8 := bi_ne0.mp c_8
    refine lv_aload_n hx hb dX5_followGone_13 rfl (lv_at hl 0 rfl) ?_
    refine va_get (D := D) (ci := 5) (v := .ref t) (C := RX5) (T := TX5) (N := 11) hx hb hts (in_X5_followGone_X5) hown hK hP 0 rfl rfl 1 (by decide) (hts (.fieldLink RX5 16 "StepsRoundCircle" "trial" "LStepsRoundCircle$Ring;") (by decide +kernel)) (fun _ h9 => h9) rfl dX5_followGone_14 ?_
    refine lv_iload_n hx hb dX5_followGone_17 rfl (lv_at hl 1 rfl) ?_
    refine lv_topi (fun z_18 hz_18 => ?_)
    have hz_18 : (nI w.toNatClampNeg) = z_18 := (hz_18.trans (asN c_8.1)).symm
    subst hz_18
    refine wrVv (As := [.int (nI w.toNatClampNeg)]) (rest := []) (wr := [(x, .inr (5, [.ref r, .ref t, .ref im, .int hi, .ref tx, .ref ch, .ref ro, .ref rf, .ref pl, .ref ot, .ref cl]))]) (A := A) ⟨hx, hb, hml, hown, hts⟩ (c_X1_remove l D cI cZ cR t tm tq tw tv w.toNatClampNeg tw.toNatClampNeg (asN htw.1) (has_N c_8) (n5 htw.2) s.heap.size) (cwV 1 hts gX5_followGone_X1_remove rfl rfl rfl (by decide +kernel) ⟨Nat.le_of_ble_eq_true rfl, Nat.le_of_ble_eq_true rfl⟩) hK hN hP hD hS hA 1 1 rfl rfl rfl [1, 2] [0] rfl (by decide) rfl (by decide) (by decide) rfl hl.1 rfl (Nat.le_of_ble_eq_true rfl) dX5_followGone_18 ⟨Nat.zero_le _, Nat.zero_le _⟩ (fun u H locs hw hP hD hS => ?_)
    obtain ⟨nw_18, v_18⟩ := u
    try dsimp only at hw
    obtain ⟨q1_18, q2_18⟩ := hw
    have q1_18 := q1_18.symm
    subst q1_18
    have q2_18 := q2_18.symm
    subst q2_18
    have hP : va_P D vwCl [(x, .inr (5, [.ref r, .ref t, .ref im, .int hi, .ref tx, .ref ch, .ref ro, .ref rf, .ref pl, .ref ot, .ref cl])), (t, .inr (1, [.int tq, .int (tw - 1), .ref tm])), (tm, .inl (cI, 20, .inl (rg_cp tv w.toNatClampNeg tw.toNatClampNeg)))] H := hP.sub [0, 1, 2] rfl
    have hD : va_D A [(x, .inr (5, [.ref r, .ref t, .ref im, .int hi, .ref tx, .ref ch, .ref ro, .ref rf, .ref pl, .ref ot, .ref cl])), (t, .inr (1, [.int tq, .int (tw - 1), .ref tm])), (tm, .inl (cI, 20, .inl (rg_cp tv w.toNatClampNeg tw.toNatClampNeg)))] := hD.sub [0, 1, 2] (by decide) rfl
    refine lv_iconst (v := 1) hx hb dX5_followGone_21 (by decide) ?_
    exact wrZ (foH tw w) (bi_t c_8).symm (w1 := (fun (u : Int32 × (Nat → Int32)) => [(x, .inr (5, [.ref r, .ref t, .ref im, .int hi, .ref tx, .ref ch, .ref ro, .ref rf, .ref pl, .ref ot, .ref cl])), (t, .inr (1, [.int tq, .int u.1, .ref tm])), (tm, .inl (cI, 20, .inl u.2))])) ((tw - 1), (rg_cp tv w.toNatClampNeg tw.toNatClampNeg)) hx hb hr hlocks dX5_followGone_22 hS (hP.sub [0, 1, 2] rfl) (hD.sub [0, 1, 2] (by decide) rfl) (⟨(bi_t c_8).symm, (if_pos c_8).symm, (if_pos c_8).symm⟩)
  · skip
    have c_8 := bi_eq0.mp c_8
    refine lv_iconst (v := 0) hx hb dX5_followGone_11 (by decide) ?_
    exact wrZ (foH tw w) (bi_f c_8).symm (w1 := (fun (u : Int32 × (Nat → Int32)) => [(x, .inr (5, [.ref r, .ref t, .ref im, .int hi, .ref tx, .ref ch, .ref ro, .ref rf, .ref pl, .ref ot, .ref cl])), (t, .inr (1, [.int tq, .int u.1, .ref tm])), (tm, .inl (cI, 20, .inl u.2))])) (tw, tv) hx hb hr hlocks dX5_followGone_12 hS (hP.sub [0, 1, 2] rfl) (hD.sub [0, 1, 2] (by decide) rfl) (⟨(bi_f c_8).symm, (if_neg c_8).symm, (if_neg c_8).symm⟩)

set_option maxHeartbeats 4000000 in
set_option maxRecDepth 100000 in
theorem c_X5_follow (l : Launch) (D : va_G) (cI cZ cR : ClassId) (x r t im tx ch ro rf pl ot cl : Nat) (hi : Int32) (tn : Nat) (tz : Int32) (tf : Nat → Int32) (tm : Nat) (tq tw : Int32) (tv : Nat → Int32) (a9 nT : Nat) (htz : tz = nI nT) (hnT : nT ≤ 72) (ha9 : a9 ≤ 72) (hsf : sfA nT tf a9 = -9) (htw : 0 ≤ tw ∧ tw ≤ 5) (sz : Nat) : Met l yX5_follow wsX5_follow ({ frames := 4, cells := 0, slots := 0, locals := 94 }) (PcW D cI cZ cR [.ref x, .int (nI a9)] [(x, .inr (5, [.ref r, .ref t, .ref im, .int hi, .ref tx, .ref ch, .ref ro, .ref rf, .ref pl, .ref ot, .ref cl])), (tx, .inr (4, [.int tz, .ref tn])), (tn, .inl (cI, 72, .inl tf)), (t, .inr (1, [.int tq, .int tw, .ref tm])), (tm, .inl (cI, 20, .inl tv))] sz) (va_Qi (fun (res : Int32) (u : Int32 × Int32 × (Nat → Int32)) => res = bi (folP tf a9 tq tw tv) ∧ u.1 = folQ tf a9 tq tw tv ∧ u.2.1 = folN tf a9 tq tw ∧ u.2.2 = folV tf a9 tq tw tv) (Bw D (fun (u : Int32 × Int32 × (Nat → Int32)) => [(x, .inr (5, [.ref r, .ref t, .ref im, .int hi, .ref tx, .ref ch, .ref ro, .ref rf, .ref pl, .ref ot, .ref cl])), (tx, .inr (4, [.int tz, .ref tn])), (tn, .inl (cI, 72, .inl tf)), (t, .inr (1, [.int u.1, .int u.2.1, .ref tm])), (tm, .inl (cI, 20, .inl u.2.2))]) (va_A [(x, .inr (5, [.ref r, .ref t, .ref im, .int hi, .ref tx, .ref ch, .ref ro, .ref rf, .ref pl, .ref ot, .ref cl])), (tx, .inr (4, [.int tz, .ref tn])), (tn, .inl (cI, 72, .inl tf)), (t, .inr (1, [.int tq, .int tw, .ref tm])), (tm, .inl (cI, 20, .inl tv))] sz)) (va_A [(x, .inr (5, [.ref r, .ref t, .ref im, .int hi, .ref tx, .ref ch, .ref ro, .ref rf, .ref pl, .ref ot, .ref cl])), (tx, .inr (4, [.int tz, .ref tn])), (tn, .inl (cI, 72, .inl tf)), (t, .inr (1, [.int tq, .int tw, .ref tm])), (tm, .inl (cI, 20, .inl tv))] sz)) 0 0 (va_A [(x, .inr (5, [.ref r, .ref t, .ref im, .int hi, .ref tx, .ref ch, .ref ro, .ref rf, .ref pl, .ref ot, .ref cl])), (tx, .inr (4, [.int tz, .ref tn])), (tn, .inl (cI, 72, .inl tf)), (t, .inr (1, [.int tq, .int tw, .ref tm])), (tm, .inl (cI, 20, .inl tv))] sz) := by
  refine Met.ofW (cc := cX5_follow) (maxL := 2) (ret := (some .boolean)) (by decide) rfl ?_
  intro p e s m args below meth c s₁ B hml hv
  obtain ⟨rfl, hsz, hP, hK, hD0, hN⟩ := hv
  have hx := B.exec
  have hb := B.bytes
  have hr := B.returns
  have hts := atoms_spec (ws := wsX5_follow) B.pre
  have hown : s.vm.findClass RX5 = some m.cls := findClass_of_methodNamed B.named
  have hlocks := B.notSynchronized
  subst hsz
  have hD := hD0.self (sz := s.heap.size)
  generalize hAe : va_A [(x, .inr (5, [.ref r, .ref t, .ref im, .int hi, .ref tx, .ref ch, .ref ro, .ref rf, .ref pl, .ref ot, .ref cl])), (tx, .inr (4, [.int tz, .ref tn])), (tn, .inl (cI, 72, .inl tf)), (t, .inr (1, [.int tq, .int tw, .ref tm])), (tm, .inl (cI, 20, .inl tv))] s.heap.size = A at hD ⊢
  have hA : ∀ q : Nat, s.heap.size ≤ q → A q := fun q h => by rw [← hAe]; exact Or.inr h
  have hS : va_S A s.heap s.heap [] := va_S.rf
  have hP : va_P D vwCl [(x, .inr (5, [.ref r, .ref t, .ref im, .int hi, .ref tx, .ref ch, .ref ro, .ref rf, .ref pl, .ref ot, .ref cl])), (tx, .inr (4, [.int tz, .ref tn])), (tn, .inl (cI, 72, .inl tf)), (t, .inr (1, [.int tq, .int tw, .ref tm])), (tm, .inl (cI, 20, .inl tv))] s.heap := hP
  have hl := lv_entry ([.ref x, .int (nI a9)]) (n := 2) (Nat.le_of_ble_eq_true rfl)
  rw [lg_entry_eq]
  generalize (lg_sl ([.ref x, .int (nI a9)]) ++ List.replicate (2 - (lg_sl ([.ref x, .int (nI a9)])).length) Slot.unset).toArray = ls at hl ⊢
  have hl : lv_has ls 2 [(0, .ref x), (1, .int (nI a9))] := hl
  have hsa := sf_all hnT ha9 hsf
  refine lv_aload_n hx hb dX5_follow_0 rfl (lv_at hl 0 rfl) ?_
  refine va_get (D := D) (ci := 5) (v := .ref tx) (C := RX5) (T := TX5) (N := 11) hx hb hts (in_X5_follow_X5) hown hK hP 0 rfl rfl 4 (by decide) (hts (.fieldLink RX5 29 "StepsRoundCircle" "text" "LStepsRoundCircle$Text;") (by decide +kernel)) (fun _ h9 => h9) rfl dX5_follow_1 ?_
  refine lv_iload_n hx hb dX5_follow_4 rfl (lv_at hl 1 rfl) ?_
  refine rdV (As := [.int (nI a9)]) (rest := []) ⟨hx, hb, hml, hown, hts⟩ (c_X4_get l D cI cZ cR tx tn tz tf (nI a9) ) (cwV 1 hts gX5_follow_X4_get rfl rfl rfl (by decide +kernel) ⟨Nat.le_of_ble_eq_true rfl, Nat.le_of_ble_eq_true rfl⟩) hK hN hP 1 4 rfl rfl rfl [1, 2] rfl rfl hl.1 rfl (Nat.le_of_ble_eq_true rfl) dX5_follow_5 ⟨Nat.zero_le _, Nat.zero_le _⟩ ?_
  refine lv_topi (fun z_8 hz_8 => ?_)
  have hz_8 : (tf a9) = z_8 := (hz_8.trans (by rw [tx_gt htz hnT (by omega), gt_in (by omega)])).symm
  subst hz_8
  by_cases c_8_99 : (tf a9) = 99
  · skip
    refine lv_lookup (off := 36) (tgt := 44) hx hb dX5_follow_8 (by decide) (by rw [c_8_99]; rfl) (by decide) ?_
    have hdg : dgN nT tf a9 = 4 := by rcases hsa.2.2.2 with h9 | h9 | h9 | h9 <;> first | exact h9.2 | exact absurd (h9.1.symm.trans c_8_99) (by decide)
    refine lv_aload_n hx hb dX5_follow_44 rfl (lv_at hl 0 rfl) ?_
    refine lv_aload_n hx hb dX5_follow_45 rfl (lv_at hl 0 rfl) ?_
    refine va_get (D := D) (ci := 5) (v := .ref tx) (C := RX5) (T := TX5) (N := 11) hx hb hts (in_X5_follow_X5) hown hK hP 0 rfl rfl 4 (by decide) (hts (.fieldLink RX5 29 "StepsRoundCircle" "text" "LStepsRoundCircle$Text;") (by decide +kernel)) (fun _ h9 => h9) rfl dX5_follow_46 ?_
    refine lv_iload_n hx hb dX5_follow_49 rfl (lv_at hl 1 rfl) ?_
    refine lv_iconst (v := 1) hx hb dX5_follow_50 (by decide) ?_
    refine lv_iadd hx hb dX5_follow_51 ?_
    refine lv_topi (fun z_52 hz_52 => ?_)
    have hz_52 : (nI (a9 + 1)) = z_52 := (hz_52.trans (nI_add a9 1)).symm
    subst hz_52
    refine lv_iconst (v := 4) hx hb dX5_follow_52 (by decide) ?_
    refine lv_topi (fun z_53 hz_53 => ?_)
    have hz_53 : (nI 4) = z_53 := (hz_53.trans rfl).symm
    subst hz_53
    refine rdV (As := [.int (nI (a9 + 1)), .int (nI 4)]) (rest := [.ref x]) ⟨hx, hb, hml, hown, hts⟩ (c_X4_number l D cI cZ cR tx tn tz tf (a9 + 1) 4 nT htz hnT (by omega)) (cwV 2 hts gX5_follow_X4_number rfl rfl rfl (by decide +kernel) ⟨Nat.le_of_ble_eq_true rfl, Nat.le_of_ble_eq_true rfl⟩) hK hN hP 1 4 rfl rfl rfl [1, 2] rfl rfl hl.1 rfl (Nat.le_of_ble_eq_true rfl) dX5_follow_53 ⟨Nat.zero_le _, Nat.zero_le _⟩ ?_
    refine wrVi (As := [.int (nmb tf (a9 + 1) 4)]) (rest := []) (wr := [(tx, .inr (4, [.int tz, .ref tn])), (tn, .inl (cI, 72, .inl tf))]) (A := A) ⟨hx, hb, hml, hown, hts⟩ (c_X5_followCircle l D cI cZ cR x r t im tx ch ro rf pl ot cl hi tm tq tw tv (nmb tf (a9 + 1) 4)  s.heap.size) (cwV 1 hts gX5_follow_X5_followCircle rfl rfl rfl (by decide +kernel) ⟨Nat.le_of_ble_eq_true rfl, Nat.le_of_ble_eq_true rfl⟩) hK hN hP hD hS hA 0 5 rfl rfl rfl [0, 3, 4] [1, 2] rfl (by decide) rfl (by decide) (by decide) rfl hl.1 rfl (Nat.le_of_ble_eq_true rfl) dX5_follow_56 ⟨Nat.zero_le _, Nat.zero_le _⟩ (fun r_56 u H locs hw hP hD hS => ?_)
    obtain ⟨q_56, rfl⟩ : ∃ z, z = u := ⟨_, rfl⟩
    try dsimp only at hw
    obtain ⟨q1_56, q2_56⟩ := hw
    have q1_56 := q1_56.symm
    subst q1_56
    have q2_56 := q2_56.symm
    subst q2_56
    have hP : va_P D vwCl [(x, .inr (5, [.ref r, .ref t, .ref im, .int hi, .ref tx, .ref ch, .ref ro, .ref rf, .ref pl, .ref ot, .ref cl])), (tx, .inr (4, [.int tz, .ref tn])), (tn, .inl (cI, 72, .inl tf)), (t, .inr (1, [.int (if foC tv tw (nmb tf (a9 + 1) 4) then (nmb tf (a9 + 1) 4) else tq), .int tw, .ref tm])), (tm, .inl (cI, 20, .inl tv))] H := hP.sub [2, 0, 1, 3, 4] rfl
    have hD : va_D A [(x, .inr (5, [.ref r, .ref t, .ref im, .int hi, .ref tx, .ref ch, .ref ro, .ref rf, .ref pl, .ref ot, .ref cl])), (tx, .inr (4, [.int tz, .ref tn])), (tn, .inl (cI, 72, .inl tf)), (t, .inr (1, [.int (if foC tv tw (nmb tf (a9 + 1) 4) then (nmb tf (a9 + 1) 4) else tq), .int tw, .ref tm])), (tm, .inl (cI, 20, .inl tv))] := hD.sub [2, 0, 1, 3, 4] (by decide) rfl
    exact wrZ (folP tf a9 tq tw tv) (bi_cg (Iff.of_eq (if_pos c_8_99).symm)) (w1 := (fun (u : Int32 × Int32 × (Nat → Int32)) => [(x, .inr (5, [.ref r, .ref t, .ref im, .int hi, .ref tx, .ref ch, .ref ro, .ref rf, .ref pl, .ref ot, .ref cl])), (tx, .inr (4, [.int tz, .ref tn])), (tn, .inl (cI, 72, .inl tf)), (t, .inr (1, [.int u.1, .int u.2.1, .ref tm])), (tm, .inl (cI, 20, .inl u.2.2))])) ((if foC tv tw (nmb tf (a9 + 1) 4) then (nmb tf (a9 + 1) 4) else tq), tw, tv) hx hb hr hlocks dX5_follow_59 hS (hP.sub [0, 1, 2, 3, 4] rfl) (hD.sub [0, 1, 2, 3, 4] (by decide) rfl) (⟨bi_cg (Iff.of_eq (if_pos c_8_99).symm), (by unfold folQ; simp only [if_pos c_8_99]), (by unfold folN; simp only [if_pos c_8_99]), (by unfold folV; simp only [if_pos c_8_99])⟩)
  by_cases c_8_115 : (tf a9) = 115
  · skip
    refine lv_lookup (off := 58) (tgt := 66) hx hb dX5_follow_8 (by decide) (by rw [c_8_115]; rfl) (by decide) ?_
    have hdg : dgN nT tf a9 = 5 := by rcases hsa.2.2.2 with h9 | h9 | h9 | h9 <;> first | exact h9.2 | exact absurd (h9.1.symm.trans c_8_115) (by decide)
    refine lv_aload_n hx hb dX5_follow_66 rfl (lv_at hl 0 rfl) ?_
    refine lv_aload_n hx hb dX5_follow_67 rfl (lv_at hl 0 rfl) ?_
    refine va_get (D := D) (ci := 5) (v := .ref tx) (C := RX5) (T := TX5) (N := 11) hx hb hts (in_X5_follow_X5) hown hK hP 0 rfl rfl 4 (by decide) (hts (.fieldLink RX5 29 "StepsRoundCircle" "text" "LStepsRoundCircle$Text;") (by decide +kernel)) (fun _ h9 => h9) rfl dX5_follow_68 ?_
    refine lv_iload_n hx hb dX5_follow_71 rfl (lv_at hl 1 rfl) ?_
    refine lv_iconst (v := 1) hx hb dX5_follow_72 (by decide) ?_
    refine lv_iadd hx hb dX5_follow_73 ?_
    refine lv_topi (fun z_74 hz_74 => ?_)
    have hz_74 : (nI (a9 + 1)) = z_74 := (hz_74.trans (nI_add a9 1)).symm
    subst hz_74
    refine lv_iconst (v := 1) hx hb dX5_follow_74 (by decide) ?_
    refine lv_topi (fun z_75 hz_75 => ?_)
    have hz_75 : (nI 1) = z_75 := (hz_75.trans rfl).symm
    subst hz_75
    refine rdV (As := [.int (nI (a9 + 1)), .int (nI 1)]) (rest := [.ref x]) ⟨hx, hb, hml, hown, hts⟩ (c_X4_number l D cI cZ cR tx tn tz tf (a9 + 1) 1 nT htz hnT (by omega)) (cwV 2 hts gX5_follow_X4_number rfl rfl rfl (by decide +kernel) ⟨Nat.le_of_ble_eq_true rfl, Nat.le_of_ble_eq_true rfl⟩) hK hN hP 1 4 rfl rfl rfl [1, 2] rfl rfl hl.1 rfl (Nat.le_of_ble_eq_true rfl) dX5_follow_75 ⟨Nat.zero_le _, Nat.zero_le _⟩ ?_
    refine lv_aload_n hx hb dX5_follow_78 rfl (lv_at hl 0 rfl) ?_
    refine va_get (D := D) (ci := 5) (v := .ref tx) (C := RX5) (T := TX5) (N := 11) hx hb hts (in_X5_follow_X5) hown hK hP 0 rfl rfl 4 (by decide) (hts (.fieldLink RX5 29 "StepsRoundCircle" "text" "LStepsRoundCircle$Text;") (by decide +kernel)) (fun _ h9 => h9) rfl dX5_follow_79 ?_
    refine lv_iload_n hx hb dX5_follow_82 rfl (lv_at hl 1 rfl) ?_
    refine lv_iconst (v := 2) hx hb dX5_follow_83 (by decide) ?_
    refine lv_iadd hx hb dX5_follow_84 ?_
    refine lv_topi (fun z_85 hz_85 => ?_)
    have hz_85 : (nI (a9 + 2)) = z_85 := (hz_85.trans (nI_add a9 2)).symm
    subst hz_85
    refine lv_iconst (v := 4) hx hb dX5_follow_85 (by decide) ?_
    refine lv_topi (fun z_86 hz_86 => ?_)
    have hz_86 : (nI 4) = z_86 := (hz_86.trans rfl).symm
    subst hz_86
    refine rdV (As := [.int (nI (a9 + 2)), .int (nI 4)]) (rest := [.int (nmb tf (a9 + 1) 1), .ref x]) ⟨hx, hb, hml, hown, hts⟩ (c_X4_number l D cI cZ cR tx tn tz tf (a9 + 2) 4 nT htz hnT (by omega)) (cwV 2 hts gX5_follow_X4_number rfl rfl rfl (by decide +kernel) ⟨Nat.le_of_ble_eq_true rfl, Nat.le_of_ble_eq_true rfl⟩) hK hN hP 1 4 rfl rfl rfl [1, 2] rfl rfl hl.1 rfl (Nat.le_of_ble_eq_true rfl) dX5_follow_86 ⟨Nat.zero_le _, Nat.zero_le _⟩ ?_
    refine wrVi (As := [.int (nmb tf (a9 + 1) 1), .int (nmb tf (a9 + 2) 4)]) (rest := []) (wr := [(tx, .inr (4, [.int tz, .ref tn])), (tn, .inl (cI, 72, .inl tf))]) (A := A) ⟨hx, hb, hml, hown, hts⟩ (c_X5_followStep l D cI cZ cR x r t im tx ch ro rf pl ot cl hi tm tq tw tv (nmb tf (a9 + 1) 1) (nmb tf (a9 + 2) 4)  s.heap.size) (cwV 2 hts gX5_follow_X5_followStep rfl rfl rfl (by decide +kernel) ⟨Nat.le_of_ble_eq_true rfl, Nat.le_of_ble_eq_true rfl⟩) hK hN hP hD hS hA 0 5 rfl rfl rfl [0, 3, 4] [1, 2] rfl (by decide) rfl (by decide) (by decide) rfl hl.1 rfl (Nat.le_of_ble_eq_true rfl) dX5_follow_89 ⟨Nat.zero_le _, Nat.zero_le _⟩ (fun r_89 u H locs hw hP hD hS => ?_)
    obtain ⟨v_89, rfl⟩ : ∃ z, z = u := ⟨_, rfl⟩
    try dsimp only at hw
    obtain ⟨q1_89, q2_89⟩ := hw
    have q1_89 := q1_89.symm
    subst q1_89
    have q2_89 := q2_89.symm
    subst q2_89
    have hP : va_P D vwCl [(x, .inr (5, [.ref r, .ref t, .ref im, .int hi, .ref tx, .ref ch, .ref ro, .ref rf, .ref pl, .ref ot, .ref cl])), (tx, .inr (4, [.int tz, .ref tn])), (tn, .inl (cI, 72, .inl tf)), (t, .inr (1, [.int tq, .int tw, .ref tm])), (tm, .inl (cI, 20, .inl (if foH tw (nmb tf (a9 + 1) 1) ∧ (nmb tf (a9 + 2) 4) ≤ rg_gr tq 1 then rg_set tv (nmb tf (a9 + 1) 1) 1 (nmb tf (a9 + 2) 4) else tv)))] H := hP.sub [2, 0, 1, 3, 4] rfl
    have hD : va_D A [(x, .inr (5, [.ref r, .ref t, .ref im, .int hi, .ref tx, .ref ch, .ref ro, .ref rf, .ref pl, .ref ot, .ref cl])), (tx, .inr (4, [.int tz, .ref tn])), (tn, .inl (cI, 72, .inl tf)), (t, .inr (1, [.int tq, .int tw, .ref tm])), (tm, .inl (cI, 20, .inl (if foH tw (nmb tf (a9 + 1) 1) ∧ (nmb tf (a9 + 2) 4) ≤ rg_gr tq 1 then rg_set tv (nmb tf (a9 + 1) 1) 1 (nmb tf (a9 + 2) 4) else tv)))] := hD.sub [2, 0, 1, 3, 4] (by decide) rfl
    exact wrZ (folP tf a9 tq tw tv) (bi_cg (Iff.of_eq ((if_neg c_8_99).trans ((if_neg (show ¬ tf a9 = 119 by rw [c_8_115]; decide)).trans (if_pos c_8_115))).symm)) (w1 := (fun (u : Int32 × Int32 × (Nat → Int32)) => [(x, .inr (5, [.ref r, .ref t, .ref im, .int hi, .ref tx, .ref ch, .ref ro, .ref rf, .ref pl, .ref ot, .ref cl])), (tx, .inr (4, [.int tz, .ref tn])), (tn, .inl (cI, 72, .inl tf)), (t, .inr (1, [.int u.1, .int u.2.1, .ref tm])), (tm, .inl (cI, 20, .inl u.2.2))])) (tq, tw, (if foH tw (nmb tf (a9 + 1) 1) ∧ (nmb tf (a9 + 2) 4) ≤ rg_gr tq 1 then rg_set tv (nmb tf (a9 + 1) 1) 1 (nmb tf (a9 + 2) 4) else tv)) hx hb hr hlocks dX5_follow_92 hS (hP.sub [0, 1, 2, 3, 4] rfl) (hD.sub [0, 1, 2, 3, 4] (by decide) rfl) (⟨bi_cg (Iff.of_eq ((if_neg c_8_99).trans ((if_neg (show ¬ tf a9 = 119 by rw [c_8_115]; decide)).trans (if_pos c_8_115))).symm), (by unfold folQ; simp only [if_neg c_8_99, if_neg (show ¬ tf a9 = 119 by rw [c_8_115]; decide), if_pos c_8_115]), (by unfold folN; simp only [if_neg c_8_99, if_neg (show ¬ tf a9 = 119 by rw [c_8_115]; decide), if_pos c_8_115]), (by unfold folV; simp only [if_neg c_8_99, if_neg (show ¬ tf a9 = 119 by rw [c_8_115]; decide), if_pos c_8_115])⟩)
  by_cases c_8_119 : (tf a9) = 119
  · skip
    refine lv_lookup (off := 52) (tgt := 60) hx hb dX5_follow_8 (by decide) (by rw [c_8_119]; rfl) (by decide) ?_
    have hdg : dgN nT tf a9 = 10 := by rcases hsa.2.2.2 with h9 | h9 | h9 | h9 <;> first | exact h9.2 | exact absurd (h9.1.symm.trans c_8_119) (by decide)
    refine lv_aload_n hx hb dX5_follow_60 rfl (lv_at hl 0 rfl) ?_
    refine lv_iload_n hx hb dX5_follow_61 rfl (lv_at hl 1 rfl) ?_
    refine wrVi (As := [.int (nI a9)]) (rest := []) (wr := []) (A := A) ⟨hx, hb, hml, hown, hts⟩ (c_X5_followWalker l D cI cZ cR x r t im tx ch ro rf pl ot cl hi tn tz tf tm tq tw tv a9 nT htz hnT (by omega) s.heap.size) (cwV 1 hts gX5_follow_X5_followWalker rfl rfl rfl (by decide +kernel) ⟨Nat.le_of_ble_eq_true rfl, Nat.le_of_ble_eq_true rfl⟩) hK hN hP hD hS hA 0 5 rfl rfl rfl [0, 1, 2, 3, 4] [] rfl (by decide) rfl (by decide) (by decide) rfl hl.1 rfl (Nat.le_of_ble_eq_true rfl) dX5_follow_62 ⟨Nat.zero_le _, Nat.zero_le _⟩ (fun r_62 u H locs hw hP hD hS => ?_)
    obtain ⟨nw_62, v_62⟩ := u
    try dsimp only at hw
    obtain ⟨q1_62, q2_62, q3_62⟩ := hw
    have q1_62 := q1_62.symm
    subst q1_62
    have q2_62 := q2_62.symm
    subst q2_62
    have q3_62 := q3_62.symm
    subst q3_62
    have hP : va_P D vwCl [(x, .inr (5, [.ref r, .ref t, .ref im, .int hi, .ref tx, .ref ch, .ref ro, .ref rf, .ref pl, .ref ot, .ref cl])), (tx, .inr (4, [.int tz, .ref tn])), (tn, .inl (cI, 72, .inl tf)), (t, .inr (1, [.int tq, .int (if foR tf a9 tq tw then tw + 1 else tw), .ref tm])), (tm, .inl (cI, 20, .inl (if foR tf a9 tq tw then wadd tv tw (nmb tf (a9 + 1) 1) (nmb tf (a9 + 2) 4) (nmb tf (a9 + 6) 4) (nmb tf (a9 + 10) 1) else tv)))] H := hP.sub [0, 1, 2, 3, 4] rfl
    have hD : va_D A [(x, .inr (5, [.ref r, .ref t, .ref im, .int hi, .ref tx, .ref ch, .ref ro, .ref rf, .ref pl, .ref ot, .ref cl])), (tx, .inr (4, [.int tz, .ref tn])), (tn, .inl (cI, 72, .inl tf)), (t, .inr (1, [.int tq, .int (if foR tf a9 tq tw then tw + 1 else tw), .ref tm])), (tm, .inl (cI, 20, .inl (if foR tf a9 tq tw then wadd tv tw (nmb tf (a9 + 1) 1) (nmb tf (a9 + 2) 4) (nmb tf (a9 + 6) 4) (nmb tf (a9 + 10) 1) else tv)))] := hD.sub [0, 1, 2, 3, 4] (by decide) rfl
    exact wrZ (folP tf a9 tq tw tv) (bi_cg (Iff.of_eq ((if_neg c_8_99).trans (if_pos c_8_119)).symm)) (w1 := (fun (u : Int32 × Int32 × (Nat → Int32)) => [(x, .inr (5, [.ref r, .ref t, .ref im, .int hi, .ref tx, .ref ch, .ref ro, .ref rf, .ref pl, .ref ot, .ref cl])), (tx, .inr (4, [.int tz, .ref tn])), (tn, .inl (cI, 72, .inl tf)), (t, .inr (1, [.int u.1, .int u.2.1, .ref tm])), (tm, .inl (cI, 20, .inl u.2.2))])) (tq, (if foR tf a9 tq tw then tw + 1 else tw), (if foR tf a9 tq tw then wadd tv tw (nmb tf (a9 + 1) 1) (nmb tf (a9 + 2) 4) (nmb tf (a9 + 6) 4) (nmb tf (a9 + 10) 1) else tv)) hx hb hr hlocks dX5_follow_65 hS (hP.sub [0, 1, 2, 3, 4] rfl) (hD.sub [0, 1, 2, 3, 4] (by decide) rfl) (⟨bi_cg (Iff.of_eq ((if_neg c_8_99).trans (if_pos c_8_119)).symm), (by unfold folQ; simp only [if_neg c_8_99, if_pos c_8_119]), (by unfold folN; simp only [if_neg c_8_99, if_pos c_8_119]), (by unfold folV; simp only [if_neg c_8_99, if_pos c_8_119])⟩)
  refine lv_lookup (off := 85) (tgt := 93) hx hb dX5_follow_8 (by decide) (by rw [show Op.lookupswitch.offset _ _ _ = _ from lv_osw c_8_99 (by decide)]; rw [show Op.lookupswitch.offset _ _ _ = _ from lv_osw c_8_115 (by decide)]; rw [show Op.lookupswitch.offset _ _ _ = _ from lv_osw c_8_119 (by decide)]; rfl) (by decide) ?_
  have hdg : dgN nT tf a9 = 1 := by rcases hsa.2.2.2 with h9 | h9 | h9 | h9; exact absurd h9.1 c_8_99; exact absurd h9.1 c_8_115; exact absurd h9.1 c_8_119; exact h9.2
  refine lv_aload_n hx hb dX5_follow_93 rfl (lv_at hl 0 rfl) ?_
  refine lv_aload_n hx hb dX5_follow_94 rfl (lv_at hl 0 rfl) ?_
  refine va_get (D := D) (ci := 5) (v := .ref tx) (C := RX5) (T := TX5) (N := 11) hx hb hts (in_X5_follow_X5) hown hK hP 0 rfl rfl 4 (by decide) (hts (.fieldLink RX5 29 "StepsRoundCircle" "text" "LStepsRoundCircle$Text;") (by decide +kernel)) (fun _ h9 => h9) rfl dX5_follow_95 ?_
  refine lv_iload_n hx hb dX5_follow_98 rfl (lv_at hl 1 rfl) ?_
  refine lv_iconst (v := 1) hx hb dX5_follow_99 (by decide) ?_
  refine lv_iadd hx hb dX5_follow_100 ?_
  refine lv_topi (fun z_101 hz_101 => ?_)
  have hz_101 : (nI (a9 + 1)) = z_101 := (hz_101.trans (nI_add a9 1)).symm
  subst hz_101
  refine lv_iconst (v := 1) hx hb dX5_follow_101 (by decide) ?_
  refine lv_topi (fun z_102 hz_102 => ?_)
  have hz_102 : (nI 1) = z_102 := (hz_102.trans rfl).symm
  subst hz_102
  refine rdV (As := [.int (nI (a9 + 1)), .int (nI 1)]) (rest := [.ref x]) ⟨hx, hb, hml, hown, hts⟩ (c_X4_number l D cI cZ cR tx tn tz tf (a9 + 1) 1 nT htz hnT (by omega)) (cwV 2 hts gX5_follow_X4_number rfl rfl rfl (by decide +kernel) ⟨Nat.le_of_ble_eq_true rfl, Nat.le_of_ble_eq_true rfl⟩) hK hN hP 1 4 rfl rfl rfl [1, 2] rfl rfl hl.1 rfl (Nat.le_of_ble_eq_true rfl) dX5_follow_102 ⟨Nat.zero_le _, Nat.zero_le _⟩ ?_
  refine wrVi (As := [.int (nmb tf (a9 + 1) 1)]) (rest := []) (wr := [(tx, .inr (4, [.int tz, .ref tn])), (tn, .inl (cI, 72, .inl tf))]) (A := A) ⟨hx, hb, hml, hown, hts⟩ (c_X5_followGone l D cI cZ cR x r t im tx ch ro rf pl ot cl hi tm tq tw tv (nmb tf (a9 + 1) 1) htw s.heap.size) (cwV 1 hts gX5_follow_X5_followGone rfl rfl rfl (by decide +kernel) ⟨Nat.le_of_ble_eq_true rfl, Nat.le_of_ble_eq_true rfl⟩) hK hN hP hD hS hA 0 5 rfl rfl rfl [0, 3, 4] [1, 2] rfl (by decide) rfl (by decide) (by decide) rfl hl.1 rfl (Nat.le_of_ble_eq_true rfl) dX5_follow_105 ⟨Nat.zero_le _, Nat.zero_le _⟩ (fun r_105 u H locs hw hP hD hS => ?_)
  obtain ⟨nw_105, v_105⟩ := u
  try dsimp only at hw
  obtain ⟨q1_105, q2_105, q3_105⟩ := hw
  have q1_105 := q1_105.symm
  subst q1_105
  have q2_105 := q2_105.symm
  subst q2_105
  have q3_105 := q3_105.symm
  subst q3_105
  have hP : va_P D vwCl [(x, .inr (5, [.ref r, .ref t, .ref im, .int hi, .ref tx, .ref ch, .ref ro, .ref rf, .ref pl, .ref ot, .ref cl])), (tx, .inr (4, [.int tz, .ref tn])), (tn, .inl (cI, 72, .inl tf)), (t, .inr (1, [.int tq, .int (if foH tw (nmb tf (a9 + 1) 1) then tw - 1 else tw), .ref tm])), (tm, .inl (cI, 20, .inl (if foH tw (nmb tf (a9 + 1) 1) then rg_cp tv (nmb tf (a9 + 1) 1).toNatClampNeg tw.toNatClampNeg else tv)))] H := hP.sub [2, 0, 1, 3, 4] rfl
  have hD : va_D A [(x, .inr (5, [.ref r, .ref t, .ref im, .int hi, .ref tx, .ref ch, .ref ro, .ref rf, .ref pl, .ref ot, .ref cl])), (tx, .inr (4, [.int tz, .ref tn])), (tn, .inl (cI, 72, .inl tf)), (t, .inr (1, [.int tq, .int (if foH tw (nmb tf (a9 + 1) 1) then tw - 1 else tw), .ref tm])), (tm, .inl (cI, 20, .inl (if foH tw (nmb tf (a9 + 1) 1) then rg_cp tv (nmb tf (a9 + 1) 1).toNatClampNeg tw.toNatClampNeg else tv)))] := hD.sub [2, 0, 1, 3, 4] (by decide) rfl
  exact wrZ (folP tf a9 tq tw tv) (bi_cg (Iff.of_eq ((if_neg c_8_99).trans ((if_neg c_8_119).trans (if_neg c_8_115))).symm)) (w1 := (fun (u : Int32 × Int32 × (Nat → Int32)) => [(x, .inr (5, [.ref r, .ref t, .ref im, .int hi, .ref tx, .ref ch, .ref ro, .ref rf, .ref pl, .ref ot, .ref cl])), (tx, .inr (4, [.int tz, .ref tn])), (tn, .inl (cI, 72, .inl tf)), (t, .inr (1, [.int u.1, .int u.2.1, .ref tm])), (tm, .inl (cI, 20, .inl u.2.2))])) (tq, (if foH tw (nmb tf (a9 + 1) 1) then tw - 1 else tw), (if foH tw (nmb tf (a9 + 1) 1) then rg_cp tv (nmb tf (a9 + 1) 1).toNatClampNeg tw.toNatClampNeg else tv)) hx hb hr hlocks dX5_follow_108 hS (hP.sub [0, 1, 2, 3, 4] rfl) (hD.sub [0, 1, 2, 3, 4] (by decide) rfl) (⟨bi_cg (Iff.of_eq ((if_neg c_8_99).trans ((if_neg c_8_119).trans (if_neg c_8_115))).symm), (by unfold folQ; simp only [if_neg c_8_99, if_neg c_8_119, if_neg c_8_115]), (by unfold folN; simp only [if_neg c_8_99, if_neg c_8_119, if_neg c_8_115]), (by unfold folV; simp only [if_neg c_8_99, if_neg c_8_119, if_neg c_8_115])⟩)

set_option maxHeartbeats 4000000 in
set_option maxRecDepth 100000 in
theorem c_X5_readWalk (l : Launch) (D : va_G) (cI cZ cR : ClassId) (x r t im tx ch ro rf pl ot cl : Nat) (hi : Int32) (rn : Nat) (q nw : Int32) (v : Nat → Int32) (cn : Nat) (cz : Int32) (cf : Nat → Int32) (tn : Nat) (tz : Int32) (tf : Nat → Int32) (tm : Nat) (tq tw : Int32) (tv : Nat → Int32) (nT : Nat) (htz : tz = nI nT) (hnT : nT ≤ 72) (hok : okS q nw v) (sz : Nat) : Met l yX5_readWalk wsX5_readWalk ({ frames := 5, cells := 0, slots := 0, locals := 115 }) (PcW D cI cZ cR [.ref x] [(x, .inr (5, [.ref r, .ref t, .ref im, .int hi, .ref tx, .ref ch, .ref ro, .ref rf, .ref pl, .ref ot, .ref cl])), (r, .inr (1, [.int q, .int nw, .ref rn])), (rn, .inl (cI, 20, .inl v)), (ch, .inr (0, [.int cz, .ref cn])), (cn, .inl (cI, 48, .inl cf)), (tx, .inr (4, [.int tz, .ref tn])), (tn, .inl (cI, 72, .inl tf)), (t, .inr (1, [.int tq, .int tw, .ref tm])), (tm, .inl (cI, 20, .inl tv))] sz) (va_Qi (fun (res : Int32) (u : Int32 × Int32 × (Nat → Int32) × Int32 × Int32 × Int32 × (Nat → Int32)) => res = (wk nT tf q nw v).1 ∧ u.1 = (wkS nT tf q nw v).1 ∧ u.2.1 = (wkS nT tf q nw v).2.1 ∧ u.2.2.1 = (wkS nT tf q nw v).2.2 ∧ u.2.2.2.1 = wkC nT tf q nw v cz) (Bw D (fun (u : Int32 × Int32 × (Nat → Int32) × Int32 × Int32 × Int32 × (Nat → Int32)) => [(x, .inr (5, [.ref r, .ref t, .ref im, .int hi, .ref tx, .ref ch, .ref ro, .ref rf, .ref pl, .ref ot, .ref cl])), (r, .inr (1, [.int u.1, .int u.2.1, .ref rn])), (rn, .inl (cI, 20, .inl u.2.2.1)), (ch, .inr (0, [.int u.2.2.2.1, .ref cn])), (cn, .inl (cI, 48, .inl cf)), (tx, .inr (4, [.int tz, .ref tn])), (tn, .inl (cI, 72, .inl tf)), (t, .inr (1, [.int u.2.2.2.2.1, .int u.2.2.2.2.2.1, .ref tm])), (tm, .inl (cI, 20, .inl u.2.2.2.2.2.2))]) (va_A [(x, .inr (5, [.ref r, .ref t, .ref im, .int hi, .ref tx, .ref ch, .ref ro, .ref rf, .ref pl, .ref ot, .ref cl])), (r, .inr (1, [.int q, .int nw, .ref rn])), (rn, .inl (cI, 20, .inl v)), (ch, .inr (0, [.int cz, .ref cn])), (cn, .inl (cI, 48, .inl cf)), (tx, .inr (4, [.int tz, .ref tn])), (tn, .inl (cI, 72, .inl tf)), (t, .inr (1, [.int tq, .int tw, .ref tm])), (tm, .inl (cI, 20, .inl tv))] sz)) (va_A [(x, .inr (5, [.ref r, .ref t, .ref im, .int hi, .ref tx, .ref ch, .ref ro, .ref rf, .ref pl, .ref ot, .ref cl])), (r, .inr (1, [.int q, .int nw, .ref rn])), (rn, .inl (cI, 20, .inl v)), (ch, .inr (0, [.int cz, .ref cn])), (cn, .inl (cI, 48, .inl cf)), (tx, .inr (4, [.int tz, .ref tn])), (tn, .inl (cI, 72, .inl tf)), (t, .inr (1, [.int tq, .int tw, .ref tm])), (tm, .inl (cI, 20, .inl tv))] sz)) 0 0 (va_A [(x, .inr (5, [.ref r, .ref t, .ref im, .int hi, .ref tx, .ref ch, .ref ro, .ref rf, .ref pl, .ref ot, .ref cl])), (r, .inr (1, [.int q, .int nw, .ref rn])), (rn, .inl (cI, 20, .inl v)), (ch, .inr (0, [.int cz, .ref cn])), (cn, .inl (cI, 48, .inl cf)), (tx, .inr (4, [.int tz, .ref tn])), (tn, .inl (cI, 72, .inl tf)), (t, .inr (1, [.int tq, .int tw, .ref tm])), (tm, .inl (cI, 20, .inl tv))] sz) := by
  refine Met.ofW (cc := cX5_readWalk) (maxL := 4) (ret := (some .int)) (by decide) rfl ?_
  intro p e s m args below meth c s₁ B hml hv
  obtain ⟨rfl, hsz, hP, hK, hD0, hN⟩ := hv
  have hx := B.exec
  have hb := B.bytes
  have hr := B.returns
  have hts := atoms_spec (ws := wsX5_readWalk) B.pre
  have hown : s.vm.findClass RX5 = some m.cls := findClass_of_methodNamed B.named
  have hlocks := B.notSynchronized
  subst hsz
  have hD := hD0.self (sz := s.heap.size)
  generalize hAe : va_A [(x, .inr (5, [.ref r, .ref t, .ref im, .int hi, .ref tx, .ref ch, .ref ro, .ref rf, .ref pl, .ref ot, .ref cl])), (r, .inr (1, [.int q, .int nw, .ref rn])), (rn, .inl (cI, 20, .inl v)), (ch, .inr (0, [.int cz, .ref cn])), (cn, .inl (cI, 48, .inl cf)), (tx, .inr (4, [.int tz, .ref tn])), (tn, .inl (cI, 72, .inl tf)), (t, .inr (1, [.int tq, .int tw, .ref tm])), (tm, .inl (cI, 20, .inl tv))] s.heap.size = A at hD ⊢
  have hA : ∀ q : Nat, s.heap.size ≤ q → A q := fun q h => by rw [← hAe]; exact Or.inr h
  have hS : va_S A s.heap s.heap [] := va_S.rf
  have hP : va_P D vwCl [(x, .inr (5, [.ref r, .ref t, .ref im, .int hi, .ref tx, .ref ch, .ref ro, .ref rf, .ref pl, .ref ot, .ref cl])), (r, .inr (1, [.int q, .int nw, .ref rn])), (rn, .inl (cI, 20, .inl v)), (ch, .inr (0, [.int cz, .ref cn])), (cn, .inl (cI, 48, .inl cf)), (tx, .inr (4, [.int tz, .ref tn])), (tn, .inl (cI, 72, .inl tf)), (t, .inr (1, [.int tq, .int tw, .ref tm])), (tm, .inl (cI, 20, .inl tv))] s.heap := hP
  have hl := lv_entry ([.ref x]) (n := 4) (Nat.le_of_ble_eq_true rfl)
  rw [lg_entry_eq]
  generalize (lg_sl ([.ref x]) ++ List.replicate (4 - (lg_sl ([.ref x])).length) Slot.unset).toArray = ls at hl ⊢
  have hl : lv_has ls 4 [(0, .ref x)] := hl
  refine lv_aload_n hx hb dX5_readWalk_0 rfl (lv_at hl 0 rfl) ?_
  refine va_get (D := D) (ci := 5) (v := .ref tx) (C := RX5) (T := TX5) (N := 11) hx hb hts (in_X5_readWalk_X5) hown hK hP 0 rfl rfl 4 (by decide) (hts (.fieldLink RX5 29 "StepsRoundCircle" "text" "LStepsRoundCircle$Text;") (by decide +kernel)) (fun _ h9 => h9) rfl dX5_readWalk_1 ?_
  refine rdV (As := []) (rest := []) ⟨hx, hb, hml, hown, hts⟩ (c_X4_formFault l D cI cZ cR tx tn tz tf nT htz hnT) (cwV 0 hts gX5_readWalk_X4_formFault rfl rfl rfl (by decide +kernel) ⟨Nat.le_of_ble_eq_true rfl, Nat.le_of_ble_eq_true rfl⟩) hK hN hP 5 4 rfl rfl rfl [5, 6] rfl rfl hl.1 rfl (Nat.le_of_ble_eq_true rfl) dX5_readWalk_4 ⟨Nat.zero_le _, Nat.zero_le _⟩ ?_
  refine lv_istore_n (lv' := [(1, .int (wF nT tf 72 0)), (0, .ref x)]) hx hb dX5_readWalk_7 rfl hl (by decide) rfl (fun ls hl => ?_)
  refine lv_iload_n hx hb dX5_readWalk_8 rfl (lv_at hl 0 rfl) ?_
  refine lv_bipush (v := (-9)) hx hb dX5_readWalk_9 (by decide) ?_
  refine lv_icmp_eq (tgt := 20) hx hb dX5_readWalk_11 (by decide) (fun c_11 => ?_) (fun c_11 => ?_)
  · skip
    refine lv_aload_n hx hb dX5_readWalk_20 rfl (lv_at hl 1 rfl) ?_
    refine va_get (D := D) (ci := 5) (v := .ref t) (C := RX5) (T := TX5) (N := 11) hx hb hts (in_X5_readWalk_X5) hown hK hP 0 rfl rfl 1 (by decide) (hts (.fieldLink RX5 16 "StepsRoundCircle" "trial" "LStepsRoundCircle$Ring;") (by decide +kernel)) (fun _ h9 => h9) rfl dX5_readWalk_21 ?_
    refine lv_aload_n hx hb dX5_readWalk_24 rfl (lv_at hl 1 rfl) ?_
    refine va_get (D := D) (ci := 5) (v := .ref r) (C := RX5) (T := TX5) (N := 11) hx hb hts (in_X5_readWalk_X5) hown hK hP 0 rfl rfl 0 (by decide) (hts (.fieldLink RX5 10 "StepsRoundCircle" "ring" "LStepsRoundCircle$Ring;") (by decide +kernel)) (fun _ h9 => h9) rfl dX5_readWalk_25 ?_
    refine wrVv (As := [.ref r]) (rest := []) (wr := [(x, .inr (5, [.ref r, .ref t, .ref im, .int hi, .ref tx, .ref ch, .ref ro, .ref rf, .ref pl, .ref ot, .ref cl])), (ch, .inr (0, [.int cz, .ref cn])), (cn, .inl (cI, 48, .inl cf)), (tx, .inr (4, [.int tz, .ref tn])), (tn, .inl (cI, 72, .inl tf))]) (A := A) ⟨hx, hb, hml, hown, hts⟩ (c_X1_copyFrom l D cI cZ cR t tm tq tw tv r rn q nw v  s.heap.size) (cwV 1 hts gX5_readWalk_X1_copyFrom rfl rfl rfl (by decide +kernel) ⟨Nat.le_of_ble_eq_true rfl, Nat.le_of_ble_eq_true rfl⟩) hK hN hP hD hS hA 7 1 rfl rfl rfl [7, 8, 1, 2] [0, 3, 4, 5, 6] rfl (by decide) rfl (by decide) (by decide) rfl hl.1 rfl (Nat.le_of_ble_eq_true rfl) dX5_readWalk_28 ⟨Nat.zero_le _, Nat.zero_le _⟩ (fun u H locs hw hP hD hS => ?_)
    obtain ⟨q_28, nw_28, v_28⟩ := u
    try dsimp only at hw
    obtain ⟨q1_28, q2_28, q3_28⟩ := hw
    have q1_28 := q1_28.symm
    subst q1_28
    have q2_28 := q2_28.symm
    subst q2_28
    have q3_28 := q3_28.symm
    subst q3_28
    have hP : va_P D vwCl [(x, .inr (5, [.ref r, .ref t, .ref im, .int hi, .ref tx, .ref ch, .ref ro, .ref rf, .ref pl, .ref ot, .ref cl])), (r, .inr (1, [.int q, .int nw, .ref rn])), (rn, .inl (cI, 20, .inl v)), (ch, .inr (0, [.int cz, .ref cn])), (cn, .inl (cI, 48, .inl cf)), (tx, .inr (4, [.int tz, .ref tn])), (tn, .inl (cI, 72, .inl tf)), (t, .inr (1, [.int q, .int nw, .ref tm])), (tm, .inl (cI, 20, .inl v))] H := hP.sub [0, 7, 8, 1, 2, 3, 4, 5, 6] rfl
    have hD : va_D A [(x, .inr (5, [.ref r, .ref t, .ref im, .int hi, .ref tx, .ref ch, .ref ro, .ref rf, .ref pl, .ref ot, .ref cl])), (r, .inr (1, [.int q, .int nw, .ref rn])), (rn, .inl (cI, 20, .inl v)), (ch, .inr (0, [.int cz, .ref cn])), (cn, .inl (cI, 48, .inl cf)), (tx, .inr (4, [.int tz, .ref tn])), (tn, .inl (cI, 72, .inl tf)), (t, .inr (1, [.int q, .int nw, .ref tm])), (tm, .inl (cI, 20, .inl v))] := hD.sub [0, 7, 8, 1, 2, 3, 4, 5, 6] (by decide) rfl
    refine lv_iconst (v := 0) hx hb dX5_readWalk_31 (by decide) ?_
    refine lv_istore_n (lv' := [(2, .int 0), (1, .int (wF nT tf 72 0)), (0, .ref x)]) hx hb dX5_readWalk_32 rfl hl (by decide) rfl (fun ls hl => ?_)
    refine lv_iconst (v := 0) hx hb dX5_readWalk_33 (by decide) ?_
    refine lv_istore_n (lv' := [(3, .int 0), (2, .int 0), (1, .int (wF nT tf 72 0)), (0, .ref x)]) hx hb dX5_readWalk_34 rfl hl (by decide) rfl (fun ls hl => ?_)
    have loop_35 : ∀ (fuel : Nat), ∀ (i p9 : Nat), ∀ (sq sw : Int32), ∀ (sv : Nat → Int32), (3 * i ≤ p9) → (p9 ≤ nT) → (okS sq sw sv) → (p9 < nT → ∃ j, 216 ≤ 3 * j + p9 ∧ wF nT tf j p9 = -9) → (wG nT tf 72 0 0 (q, nw, v) = wG nT tf (72 - i) p9 i (sq, sw, sv)) → (73 ≤ i + fuel) → ∀ (y2 : Int32), y2 = nI i → ∀ (y3 : Int32), y3 = nI p9 → ∀ (H : Heap) (locs : List Loc), va_P D vwCl [(x, .inr (5, [.ref r, .ref t, .ref im, .int hi, .ref tx, .ref ch, .ref ro, .ref rf, .ref pl, .ref ot, .ref cl])), (r, .inr (1, [.int q, .int nw, .ref rn])), (rn, .inl (cI, 20, .inl v)), (ch, .inr (0, [.int cz, .ref cn])), (cn, .inl (cI, 48, .inl cf)), (tx, .inr (4, [.int tz, .ref tn])), (tn, .inl (cI, 72, .inl tf)), (t, .inr (1, [.int sq, .int sw, .ref tm])), (tm, .inl (cI, 20, .inl sv))] H → va_D A [(x, .inr (5, [.ref r, .ref t, .ref im, .int hi, .ref tx, .ref ch, .ref ro, .ref rf, .ref pl, .ref ot, .ref cl])), (r, .inr (1, [.int q, .int nw, .ref rn])), (rn, .inl (cI, 20, .inl v)), (ch, .inr (0, [.int cz, .ref cn])), (cn, .inl (cI, 48, .inl cf)), (tx, .inr (4, [.int tz, .ref tn])), (tn, .inl (cI, 72, .inl tf)), (t, .inr (1, [.int sq, .int sw, .ref tm])), (tm, .inl (cI, 20, .inl sv))] → va_S A s.heap H locs → ∀ (ls : Array Slot), lv_has ls 4 [(2, .int y2), (3, .int y3), (0, .ref x), (1, .int (wF nT tf 72 0))] → W p l e (headSpec wsX5_readWalk ({ frames := 5, cells := 0, slots := 0, locals := 115 })).room s m ([.ref x] : List Value).toArray below meth c H locs 0 0 (MQ below (va_Qi (fun (res : Int32) (u : Int32 × Int32 × (Nat → Int32) × Int32 × Int32 × Int32 × (Nat → Int32)) => res = (wk nT tf q nw v).1 ∧ u.1 = (wkS nT tf q nw v).1 ∧ u.2.1 = (wkS nT tf q nw v).2.1 ∧ u.2.2.1 = (wkS nT tf q nw v).2.2 ∧ u.2.2.2.1 = wkC nT tf q nw v cz) (Bw D (fun (u : Int32 × Int32 × (Nat → Int32) × Int32 × Int32 × Int32 × (Nat → Int32)) => [(x, .inr (5, [.ref r, .ref t, .ref im, .int hi, .ref tx, .ref ch, .ref ro, .ref rf, .ref pl, .ref ot, .ref cl])), (r, .inr (1, [.int u.1, .int u.2.1, .ref rn])), (rn, .inl (cI, 20, .inl u.2.2.1)), (ch, .inr (0, [.int u.2.2.2.1, .ref cn])), (cn, .inl (cI, 48, .inl cf)), (tx, .inr (4, [.int tz, .ref tn])), (tn, .inl (cI, 72, .inl tf)), (t, .inr (1, [.int u.2.2.2.2.1, .int u.2.2.2.2.2.1, .ref tm])), (tm, .inl (cI, 20, .inl u.2.2.2.2.2.2))]) A) A) ([.ref x] : List Value).toArray s 0 0 A) (F0 m 35 ls []) := by
      intro fuel
      induction fuel with
      | zero =>
        intro i p9 sq sw sv h3 hp9 hsk hform hinv hfu
        exact False.elim (by omega)
      | succ fuel ih_35 =>
        intro i p9 sq sw sv h3 hp9 hsk hform hinv hfu y2 ey2 y3 ey3 H locs hP hD hS ls hl
        subst ey2
        subst ey3
        refine lv_iload_n hx hb dX5_readWalk_35 rfl (lv_at hl 0 rfl) ?_
        refine lv_bipush (v := 72) hx hb dX5_readWalk_36 (by decide) ?_
        refine lv_icmp_ge (tgt := 83) hx hb dX5_readWalk_38 (by decide) (fun c_38 => ?_) (fun c_38 => ?_)
        · skip
          exact False.elim (by have h9 := (nI_leI (a := 72) (b := i) (by omega) (by omega)).mp c_38; omega)
        · skip
          refine lv_iload_n hx hb dX5_readWalk_41 rfl (lv_at hl 1 rfl) ?_
          refine lv_aload_n hx hb dX5_readWalk_42 rfl (lv_at hl 2 rfl) ?_
          refine va_get (D := D) (ci := 5) (v := .ref tx) (C := RX5) (T := TX5) (N := 11) hx hb hts (in_X5_readWalk_X5) hown hK hP 0 rfl rfl 4 (by decide) (hts (.fieldLink RX5 29 "StepsRoundCircle" "text" "LStepsRoundCircle$Text;") (by decide +kernel)) (fun _ h9 => h9) rfl dX5_readWalk_43 ?_
          refine va_get (D := D) (ci := 4) (v := .int tz) (C := RX4) (T := TX4) (N := 2) hx hb hts (in_X5_readWalk_X4) hown hK hP 5 rfl rfl 0 (by decide) (hts (.fieldLink RX5 76 "StepsRoundCircle$Text" "size" "I") (by decide +kernel)) (fun _ h9 => h9) rfl dX5_readWalk_46 ?_
          refine lv_topi (fun z_49 hz_49 => ?_)
          have hz_49 : (nI nT) = z_49 := (hz_49.trans htz).symm
          subst hz_49
          refine lv_icmp_ge (tgt := 83) hx hb dX5_readWalk_49 (by decide) (fun c_49 => ?_) (fun c_49 => ?_)
          · skip
            have hend : ¬ p9 < nT := by have := (nI_leI (by omega) (by omega)).mp c_49; omega
            refine lv_aload_n hx hb dX5_readWalk_83 rfl (lv_at hl 2 rfl) ?_
            refine va_get (D := D) (ci := 5) (v := .ref r) (C := RX5) (T := TX5) (N := 11) hx hb hts (in_X5_readWalk_X5) hown hK hP 0 rfl rfl 0 (by decide) (hts (.fieldLink RX5 10 "StepsRoundCircle" "ring" "LStepsRoundCircle$Ring;") (by decide +kernel)) (fun _ h9 => h9) rfl dX5_readWalk_84 ?_
            refine lv_aload_n hx hb dX5_readWalk_87 rfl (lv_at hl 2 rfl) ?_
            refine va_get (D := D) (ci := 5) (v := .ref t) (C := RX5) (T := TX5) (N := 11) hx hb hts (in_X5_readWalk_X5) hown hK hP 0 rfl rfl 1 (by decide) (hts (.fieldLink RX5 16 "StepsRoundCircle" "trial" "LStepsRoundCircle$Ring;") (by decide +kernel)) (fun _ h9 => h9) rfl dX5_readWalk_88 ?_
            refine wrVv (As := [.ref t]) (rest := []) (wr := [(x, .inr (5, [.ref r, .ref t, .ref im, .int hi, .ref tx, .ref ch, .ref ro, .ref rf, .ref pl, .ref ot, .ref cl])), (ch, .inr (0, [.int cz, .ref cn])), (cn, .inl (cI, 48, .inl cf)), (tx, .inr (4, [.int tz, .ref tn])), (tn, .inl (cI, 72, .inl tf))]) (A := A) ⟨hx, hb, hml, hown, hts⟩ (c_X1_copyFrom l D cI cZ cR r rn q nw v t tm sq sw sv  H.size) (cwV 1 hts gX5_readWalk_X1_copyFrom rfl rfl rfl (by decide +kernel) ⟨Nat.le_of_ble_eq_true rfl, Nat.le_of_ble_eq_true rfl⟩) hK hN hP hD hS hA 1 1 rfl rfl rfl [1, 2, 7, 8] [0, 3, 4, 5, 6] rfl (by decide) rfl (by decide) (by decide) rfl hl.1 rfl (Nat.le_of_ble_eq_true rfl) dX5_readWalk_91 ⟨Nat.zero_le _, Nat.zero_le _⟩ (fun u H locs hw hP hD hS => ?_)
            obtain ⟨q_91, nw_91, v_91⟩ := u
            try dsimp only at hw
            obtain ⟨q1_91, q2_91, q3_91⟩ := hw
            have q1_91 := q1_91.symm
            subst q1_91
            have q2_91 := q2_91.symm
            subst q2_91
            have q3_91 := q3_91.symm
            subst q3_91
            have hP : va_P D vwCl [(x, .inr (5, [.ref r, .ref t, .ref im, .int hi, .ref tx, .ref ch, .ref ro, .ref rf, .ref pl, .ref ot, .ref cl])), (r, .inr (1, [.int sq, .int sw, .ref rn])), (rn, .inl (cI, 20, .inl sv)), (ch, .inr (0, [.int cz, .ref cn])), (cn, .inl (cI, 48, .inl cf)), (tx, .inr (4, [.int tz, .ref tn])), (tn, .inl (cI, 72, .inl tf)), (t, .inr (1, [.int sq, .int sw, .ref tm])), (tm, .inl (cI, 20, .inl sv))] H := hP.sub [0, 5, 6, 1, 2, 3, 4, 7, 8] rfl
            have hD : va_D A [(x, .inr (5, [.ref r, .ref t, .ref im, .int hi, .ref tx, .ref ch, .ref ro, .ref rf, .ref pl, .ref ot, .ref cl])), (r, .inr (1, [.int sq, .int sw, .ref rn])), (rn, .inl (cI, 20, .inl sv)), (ch, .inr (0, [.int cz, .ref cn])), (cn, .inl (cI, 48, .inl cf)), (tx, .inr (4, [.int tz, .ref tn])), (tn, .inl (cI, 72, .inl tf)), (t, .inr (1, [.int sq, .int sw, .ref tm])), (tm, .inl (cI, 20, .inl sv))] := hD.sub [0, 5, 6, 1, 2, 3, 4, 7, 8] (by decide) rfl
            refine lv_aload_n hx hb dX5_readWalk_94 rfl (lv_at hl 2 rfl) ?_
            refine va_get (D := D) (ci := 5) (v := .ref ch) (C := RX5) (T := TX5) (N := 11) hx hb hts (in_X5_readWalk_X5) hown hK hP 0 rfl rfl 5 (by decide) (hts (.fieldLink RX5 36 "StepsRoundCircle" "changes" "LStepsRoundCircle$Changes;") (by decide +kernel)) (fun _ h9 => h9) rfl dX5_readWalk_95 ?_
            refine wrVv (As := []) (rest := []) (wr := [(x, .inr (5, [.ref r, .ref t, .ref im, .int hi, .ref tx, .ref ch, .ref ro, .ref rf, .ref pl, .ref ot, .ref cl])), (r, .inr (1, [.int sq, .int sw, .ref rn])), (rn, .inl (cI, 20, .inl sv)), (tx, .inr (4, [.int tz, .ref tn])), (tn, .inl (cI, 72, .inl tf)), (t, .inr (1, [.int sq, .int sw, .ref tm])), (tm, .inl (cI, 20, .inl sv))]) (A := A) ⟨hx, hb, hml, hown, hts⟩ (c_X0_clear l D cI cZ cR ch cn cz cf  H.size) (cwV 0 hts gX5_readWalk_X0_clear rfl rfl rfl (by decide +kernel) ⟨Nat.le_of_ble_eq_true rfl, Nat.le_of_ble_eq_true rfl⟩) hK hN hP hD hS hA 3 0 rfl rfl rfl [3, 4] [0, 1, 2, 5, 6, 7, 8] rfl (by decide) rfl (by decide) (by decide) rfl hl.1 rfl (Nat.le_of_ble_eq_true rfl) dX5_readWalk_98 ⟨Nat.zero_le _, Nat.zero_le _⟩ (fun u H locs hw hP hD hS => ?_)
            obtain ⟨z_98, rfl⟩ : ∃ z, z = u := ⟨_, rfl⟩
            try dsimp only at hw
            have q1_98 := hw
            have q1_98 := q1_98.symm
            subst q1_98
            have hP : va_P D vwCl [(x, .inr (5, [.ref r, .ref t, .ref im, .int hi, .ref tx, .ref ch, .ref ro, .ref rf, .ref pl, .ref ot, .ref cl])), (r, .inr (1, [.int sq, .int sw, .ref rn])), (rn, .inl (cI, 20, .inl sv)), (ch, .inr (0, [.int 0, .ref cn])), (cn, .inl (cI, 48, .inl cf)), (tx, .inr (4, [.int tz, .ref tn])), (tn, .inl (cI, 72, .inl tf)), (t, .inr (1, [.int sq, .int sw, .ref tm])), (tm, .inl (cI, 20, .inl sv))] H := hP.sub [0, 1, 2, 7, 8, 3, 4, 5, 6] rfl
            have hD : va_D A [(x, .inr (5, [.ref r, .ref t, .ref im, .int hi, .ref tx, .ref ch, .ref ro, .ref rf, .ref pl, .ref ot, .ref cl])), (r, .inr (1, [.int sq, .int sw, .ref rn])), (rn, .inl (cI, 20, .inl sv)), (ch, .inr (0, [.int 0, .ref cn])), (cn, .inl (cI, 48, .inl cf)), (tx, .inr (4, [.int tz, .ref tn])), (tn, .inl (cI, 72, .inl tf)), (t, .inr (1, [.int sq, .int sw, .ref tm])), (tm, .inl (cI, 20, .inl sv))] := hD.sub [0, 1, 2, 7, 8, 3, 4, 5, 6] (by decide) rfl
            refine lv_iload_n hx hb dX5_readWalk_101 rfl (lv_at hl 0 rfl) ?_
            exact wrI (w1 := (fun (u : Int32 × Int32 × (Nat → Int32) × Int32 × Int32 × Int32 × (Nat → Int32)) => [(x, .inr (5, [.ref r, .ref t, .ref im, .int hi, .ref tx, .ref ch, .ref ro, .ref rf, .ref pl, .ref ot, .ref cl])), (r, .inr (1, [.int u.1, .int u.2.1, .ref rn])), (rn, .inl (cI, 20, .inl u.2.2.1)), (ch, .inr (0, [.int u.2.2.2.1, .ref cn])), (cn, .inl (cI, 48, .inl cf)), (tx, .inr (4, [.int tz, .ref tn])), (tn, .inl (cI, 72, .inl tf)), (t, .inr (1, [.int u.2.2.2.2.1, .int u.2.2.2.2.2.1, .ref tm])), (tm, .inl (cI, 20, .inl u.2.2.2.2.2.2))])) (sq, sw, sv, 0, sq, sw, sv) hx hb hr hlocks dX5_readWalk_102 hS (hP.sub [0, 1, 2, 3, 4, 5, 6, 7, 8] rfl) (hD.sub [0, 1, 2, 3, 4, 5, 6, 7, 8] (by decide) rfl) (by have e9 : wk nT tf q nw v = (nI i, some (sq, sw, sv)) := ((if_pos c_11).trans hinv).trans (wG_end hend); unfold wkS wkC; rw [e9]; exact ⟨rfl, rfl, rfl, rfl, rfl⟩)
          · skip
            have hpn : p9 < nT := by rcases Nat.lt_or_ge p9 nT with q9 | q9; exact q9; exact absurd (nI_le q9 (by omega)) c_49
            obtain ⟨j9, hj9, hwf⟩ := hform hpn
            have hokj := wF_ok (by omega) hwf
            have hsf := hokj.1
            have hsa := sf_all hnT (by omega) hsf
            refine lv_aload_n hx hb dX5_readWalk_52 rfl (lv_at hl 2 rfl) ?_
            refine lv_iload_n hx hb dX5_readWalk_53 rfl (lv_at hl 1 rfl) ?_
            refine wrVi (As := [.int (nI p9)]) (rest := []) (wr := [(r, .inr (1, [.int q, .int nw, .ref rn])), (rn, .inl (cI, 20, .inl v)), (ch, .inr (0, [.int cz, .ref cn])), (cn, .inl (cI, 48, .inl cf))]) (A := A) ⟨hx, hb, hml, hown, hts⟩ (c_X5_follow l D cI cZ cR x r t im tx ch ro rf pl ot cl hi tn tz tf tm sq sw sv p9 nT htz hnT (by omega) hsf (⟨hsk.2.1, hsk.2.2.1⟩) H.size) (cwV 1 hts gX5_readWalk_X5_follow rfl rfl rfl (by decide +kernel) ⟨Nat.le_of_ble_eq_true rfl, Nat.le_of_ble_eq_true rfl⟩) hK hN hP hD hS hA 0 5 rfl rfl rfl [0, 5, 6, 7, 8] [1, 2, 3, 4] rfl (by decide) rfl (by decide) (by decide) rfl hl.1 rfl (Nat.le_of_ble_eq_true rfl) dX5_readWalk_54 ⟨Nat.zero_le _, Nat.zero_le _⟩ (fun r_54 u H locs hw hP hD hS => ?_)
            obtain ⟨q_54, nw_54, v_54⟩ := u
            try dsimp only at hw
            obtain ⟨q1_54, q2_54, q3_54, q4_54⟩ := hw
            have q1_54 := q1_54.symm
            subst q1_54
            have q2_54 := q2_54.symm
            subst q2_54
            have q3_54 := q3_54.symm
            subst q3_54
            have q4_54 := q4_54.symm
            subst q4_54
            have hP : va_P D vwCl [(x, .inr (5, [.ref r, .ref t, .ref im, .int hi, .ref tx, .ref ch, .ref ro, .ref rf, .ref pl, .ref ot, .ref cl])), (r, .inr (1, [.int q, .int nw, .ref rn])), (rn, .inl (cI, 20, .inl v)), (ch, .inr (0, [.int cz, .ref cn])), (cn, .inl (cI, 48, .inl cf)), (tx, .inr (4, [.int tz, .ref tn])), (tn, .inl (cI, 72, .inl tf)), (t, .inr (1, [.int (folQ tf p9 sq sw sv), .int (folN tf p9 sq sw), .ref tm])), (tm, .inl (cI, 20, .inl (folV tf p9 sq sw sv)))] H := hP.sub [4, 0, 1, 2, 3, 5, 6, 7, 8] rfl
            have hD : va_D A [(x, .inr (5, [.ref r, .ref t, .ref im, .int hi, .ref tx, .ref ch, .ref ro, .ref rf, .ref pl, .ref ot, .ref cl])), (r, .inr (1, [.int q, .int nw, .ref rn])), (rn, .inl (cI, 20, .inl v)), (ch, .inr (0, [.int cz, .ref cn])), (cn, .inl (cI, 48, .inl cf)), (tx, .inr (4, [.int tz, .ref tn])), (tn, .inl (cI, 72, .inl tf)), (t, .inr (1, [.int (folQ tf p9 sq sw sv), .int (folN tf p9 sq sw), .ref tm])), (tm, .inl (cI, 20, .inl (folV tf p9 sq sw sv)))] := hD.sub [4, 0, 1, 2, 3, 5, 6, 7, 8] (by decide) rfl
            refine lv_if_ne (tgt := 66) hx hb dX5_readWalk_57 (by decide) (fun c_57 => ?_) (fun c_57 => ?_)
            · skip
              have c_57 := bi_ne0.mp c_57
              refine lv_iload_n hx hb dX5_readWalk_66 rfl (lv_at hl 1 rfl) ?_
              refine lv_aload_n hx hb dX5_readWalk_67 rfl (lv_at hl 2 rfl) ?_
              refine va_get (D := D) (ci := 5) (v := .ref tx) (C := RX5) (T := TX5) (N := 11) hx hb hts (in_X5_readWalk_X5) hown hK hP 0 rfl rfl 4 (by decide) (hts (.fieldLink RX5 29 "StepsRoundCircle" "text" "LStepsRoundCircle$Text;") (by decide +kernel)) (fun _ h9 => h9) rfl dX5_readWalk_68 ?_
              refine lv_iload_n hx hb dX5_readWalk_71 rfl (lv_at hl 1 rfl) ?_
              refine rdV (As := [.int (nI p9)]) (rest := [.int (nI p9)]) ⟨hx, hb, hml, hown, hts⟩ (c_X4_statementLength l D cI cZ cR tx tn tz tf (nI p9) ) (cwV 1 hts gX5_readWalk_X4_statementLength rfl rfl rfl (by decide +kernel) ⟨Nat.le_of_ble_eq_true rfl, Nat.le_of_ble_eq_true rfl⟩) hK hN hP 5 4 rfl rfl rfl [5, 6] rfl rfl hl.1 rfl (Nat.le_of_ble_eq_true rfl) dX5_readWalk_72 ⟨Nat.zero_le _, Nat.zero_le _⟩ ?_
              refine lv_topi (fun z_75 hz_75 => ?_)
              have hz_75 : (nI (dgN nT tf p9 + 2)) = z_75 := (hz_75.trans (by have h8 := sf_ok hnT (show p9 ≤ 72 by omega) hsf; rw [tx_gt htz hnT (by omega), (dg_n h8.1).1]; exact nI_add _ 2)).symm
              subst hz_75
              refine lv_iadd hx hb dX5_readWalk_75 ?_
              refine lv_topi (fun z_76 hz_76 => ?_)
              have hz_76 : (nI (p9 + (dgN nT tf p9 + 2))) = z_76 := (hz_76.trans (nI_add _ _)).symm
              subst hz_76
              refine lv_istore_n (lv' := [(3, .int (nI (p9 + (dgN nT tf p9 + 2)))), (2, .int (nI i)), (0, .ref x), (1, .int (wF nT tf 72 0))]) hx hb dX5_readWalk_76 rfl hl (by decide) rfl (fun ls hl => ?_)
              refine lv_iinc (v := (nI i) + 1) (lv' := [(2, .int ((nI i) + 1)), (3, .int (nI (p9 + (dgN nT tf p9 + 2)))), (0, .ref x), (1, .int (wF nT tf 72 0))]) hx hb dX5_readWalk_77 hl (k := 1) rfl (by rfl) (by decide) rfl (fun ls hl => ?_)
              refine lv_goto (tgt := 35) hx hb dX5_readWalk_80 (by decide) ?_
              exact ih_35 (i + 1) (p9 + (dgN nT tf p9 + 2)) (folQ tf p9 sq sw sv) (folN tf p9 sq sw) (folV tf p9 sq sw sv) (by omega) (by omega) (fol_ok hnT (by omega) hsf hsk c_57) (fun h2 => ⟨j9 - 1, by omega, hokj.2 h2⟩) (hinv.trans (by rw [wG_go (by omega) hpn c_57, show 72 - i - 1 = 72 - (i + 1) by omega])) (by omega) _ (by first | rfl | exact nI_1 _ | exact nI_0.symm) _ rfl _ _ (hP.sub [0, 1, 2, 3, 4, 5, 6, 7, 8] rfl) (hD.sub [0, 1, 2, 3, 4, 5, 6, 7, 8] (by decide) rfl) hS ls (lv_sub hl [0, 1, 2, 3] rfl)
            · skip
              have c_57 := bi_eq0.mp c_57
              refine lv_sipush (v := (-2000)) hx hb dX5_readWalk_60 (by decide) ?_
              refine lv_iload_n hx hb dX5_readWalk_63 rfl (lv_at hl 1 rfl) ?_
              refine lv_isub hx hb dX5_readWalk_64 ?_
              exact wrI (w1 := (fun (u : Int32 × Int32 × (Nat → Int32) × Int32 × Int32 × Int32 × (Nat → Int32)) => [(x, .inr (5, [.ref r, .ref t, .ref im, .int hi, .ref tx, .ref ch, .ref ro, .ref rf, .ref pl, .ref ot, .ref cl])), (r, .inr (1, [.int u.1, .int u.2.1, .ref rn])), (rn, .inl (cI, 20, .inl u.2.2.1)), (ch, .inr (0, [.int u.2.2.2.1, .ref cn])), (cn, .inl (cI, 48, .inl cf)), (tx, .inr (4, [.int tz, .ref tn])), (tn, .inl (cI, 72, .inl tf)), (t, .inr (1, [.int u.2.2.2.2.1, .int u.2.2.2.2.2.1, .ref tm])), (tm, .inl (cI, 20, .inl u.2.2.2.2.2.2))])) (q, nw, v, cz, (folQ tf p9 sq sw sv), (folN tf p9 sq sw), (folV tf p9 sq sw sv)) hx hb hr hlocks dX5_readWalk_65 hS (hP.sub [0, 1, 2, 3, 4, 5, 6, 7, 8] rfl) (hD.sub [0, 1, 2, 3, 4, 5, 6, 7, 8] (by decide) rfl) (by have e9 : wk nT tf q nw v = (-2000 - nI p9, none) := ((if_pos c_11).trans hinv).trans (wG_no (by omega) hpn c_57); unfold wkS wkC; rw [e9]; exact ⟨rfl, rfl, rfl, rfl, rfl⟩)
    exact loop_35 73 0 0 q nw v (by omega) (by omega) hok (fun _ => ⟨72, by omega, c_11⟩) rfl (by omega) _ (by first | rfl | exact nI_1 _ | exact nI_0.symm) _ (by first | rfl | exact nI_1 _ | exact nI_0.symm) _ _ (hP.sub [0, 1, 2, 3, 4, 5, 6, 7, 8] rfl) (hD.sub [0, 1, 2, 3, 4, 5, 6, 7, 8] (by decide) rfl) hS ls (lv_sub hl [1, 0, 3, 2] rfl)
  · skip
    refine lv_sipush (v := (-1000)) hx hb dX5_readWalk_14 (by decide) ?_
    refine lv_iload_n hx hb dX5_readWalk_17 rfl (lv_at hl 0 rfl) ?_
    refine lv_isub hx hb dX5_readWalk_18 ?_
    exact wrI (w1 := (fun (u : Int32 × Int32 × (Nat → Int32) × Int32 × Int32 × Int32 × (Nat → Int32)) => [(x, .inr (5, [.ref r, .ref t, .ref im, .int hi, .ref tx, .ref ch, .ref ro, .ref rf, .ref pl, .ref ot, .ref cl])), (r, .inr (1, [.int u.1, .int u.2.1, .ref rn])), (rn, .inl (cI, 20, .inl u.2.2.1)), (ch, .inr (0, [.int u.2.2.2.1, .ref cn])), (cn, .inl (cI, 48, .inl cf)), (tx, .inr (4, [.int tz, .ref tn])), (tn, .inl (cI, 72, .inl tf)), (t, .inr (1, [.int u.2.2.2.2.1, .int u.2.2.2.2.2.1, .ref tm])), (tm, .inl (cI, 20, .inl u.2.2.2.2.2.2))])) (q, nw, v, cz, tq, tw, tv) hx hb hr hlocks dX5_readWalk_19 hS (hP.sub [0, 1, 2, 3, 4, 5, 6, 7, 8] rfl) (hD.sub [0, 1, 2, 3, 4, 5, 6, 7, 8] (by decide) rfl) (by have e9 : wk nT tf q nw v = (-1000 - wF nT tf 72 0, none) := if_neg c_11; unfold wkS wkC; rw [e9]; exact ⟨rfl, rfl, rfl, rfl, rfl⟩)

set_option maxHeartbeats 4000000 in
set_option maxRecDepth 100000 in
theorem c_X5_walk (l : Launch) (D : va_G) (cI cZ cR : ClassId) (x r t im tx ch ro rf pl ot cl : Nat) (hi : Int32) (rn : Nat) (q nw : Int32) (v : Nat → Int32) (cn : Nat) (cz : Int32) (cf : Nat → Int32) (tn : Nat) (tz : Int32) (tf : Nat → Int32) (tm : Nat) (tq tw : Int32) (tv : Nat → Int32) (nT : Nat) (htz : tz = nI nT) (hnT : nT ≤ 72) (hok : okS q nw v) (sz : Nat) : Met l yX5_walk wsX5_walk ({ frames := 6, cells := 0, slots := 0, locals := 138 }) (PcW D cI cZ cR [.ref x] [(x, .inr (5, [.ref r, .ref t, .ref im, .int hi, .ref tx, .ref ch, .ref ro, .ref rf, .ref pl, .ref ot, .ref cl])), (r, .inr (1, [.int q, .int nw, .ref rn])), (rn, .inl (cI, 20, .inl v)), (ch, .inr (0, [.int cz, .ref cn])), (cn, .inl (cI, 48, .inl cf)), (tx, .inr (4, [.int tz, .ref tn])), (tn, .inl (cI, 72, .inl tf)), (t, .inr (1, [.int tq, .int tw, .ref tm])), (tm, .inl (cI, 20, .inl tv))] sz) (va_Qi (fun (res : Int32) (u : Int32 × Int32 × (Nat → Int32) × Int32 × Int32 × Int32 × Int32 × (Nat → Int32)) => res = (wk nT tf q nw v).1 ∧ u.1 = (wkS nT tf q nw v).1 ∧ u.2.1 = (wkS nT tf q nw v).2.1 ∧ u.2.2.1 = (wkS nT tf q nw v).2.2 ∧ u.2.2.2.1 = wkC nT tf q nw v cz ∧ u.2.2.2.2.1 = 0) (Bw D (fun (u : Int32 × Int32 × (Nat → Int32) × Int32 × Int32 × Int32 × Int32 × (Nat → Int32)) => [(x, .inr (5, [.ref r, .ref t, .ref im, .int hi, .ref tx, .ref ch, .ref ro, .ref rf, .ref pl, .ref ot, .ref cl])), (r, .inr (1, [.int u.1, .int u.2.1, .ref rn])), (rn, .inl (cI, 20, .inl u.2.2.1)), (ch, .inr (0, [.int u.2.2.2.1, .ref cn])), (cn, .inl (cI, 48, .inl cf)), (tx, .inr (4, [.int u.2.2.2.2.1, .ref tn])), (tn, .inl (cI, 72, .inl tf)), (t, .inr (1, [.int u.2.2.2.2.2.1, .int u.2.2.2.2.2.2.1, .ref tm])), (tm, .inl (cI, 20, .inl u.2.2.2.2.2.2.2))]) (va_A [(x, .inr (5, [.ref r, .ref t, .ref im, .int hi, .ref tx, .ref ch, .ref ro, .ref rf, .ref pl, .ref ot, .ref cl])), (r, .inr (1, [.int q, .int nw, .ref rn])), (rn, .inl (cI, 20, .inl v)), (ch, .inr (0, [.int cz, .ref cn])), (cn, .inl (cI, 48, .inl cf)), (tx, .inr (4, [.int tz, .ref tn])), (tn, .inl (cI, 72, .inl tf)), (t, .inr (1, [.int tq, .int tw, .ref tm])), (tm, .inl (cI, 20, .inl tv))] sz)) (va_A [(x, .inr (5, [.ref r, .ref t, .ref im, .int hi, .ref tx, .ref ch, .ref ro, .ref rf, .ref pl, .ref ot, .ref cl])), (r, .inr (1, [.int q, .int nw, .ref rn])), (rn, .inl (cI, 20, .inl v)), (ch, .inr (0, [.int cz, .ref cn])), (cn, .inl (cI, 48, .inl cf)), (tx, .inr (4, [.int tz, .ref tn])), (tn, .inl (cI, 72, .inl tf)), (t, .inr (1, [.int tq, .int tw, .ref tm])), (tm, .inl (cI, 20, .inl tv))] sz)) 0 0 (va_A [(x, .inr (5, [.ref r, .ref t, .ref im, .int hi, .ref tx, .ref ch, .ref ro, .ref rf, .ref pl, .ref ot, .ref cl])), (r, .inr (1, [.int q, .int nw, .ref rn])), (rn, .inl (cI, 20, .inl v)), (ch, .inr (0, [.int cz, .ref cn])), (cn, .inl (cI, 48, .inl cf)), (tx, .inr (4, [.int tz, .ref tn])), (tn, .inl (cI, 72, .inl tf)), (t, .inr (1, [.int tq, .int tw, .ref tm])), (tm, .inl (cI, 20, .inl tv))] sz) := by
  refine Met.ofW (cc := cX5_walk) (maxL := 2) (ret := (some .int)) (by decide) rfl ?_
  intro p e s m args below meth c s₁ B hml hv
  obtain ⟨rfl, hsz, hP, hK, hD0, hN⟩ := hv
  have hx := B.exec
  have hb := B.bytes
  have hr := B.returns
  have hts := atoms_spec (ws := wsX5_walk) B.pre
  have hown : s.vm.findClass RX5 = some m.cls := findClass_of_methodNamed B.named
  have hlocks := B.notSynchronized
  subst hsz
  have hD := hD0.self (sz := s.heap.size)
  generalize hAe : va_A [(x, .inr (5, [.ref r, .ref t, .ref im, .int hi, .ref tx, .ref ch, .ref ro, .ref rf, .ref pl, .ref ot, .ref cl])), (r, .inr (1, [.int q, .int nw, .ref rn])), (rn, .inl (cI, 20, .inl v)), (ch, .inr (0, [.int cz, .ref cn])), (cn, .inl (cI, 48, .inl cf)), (tx, .inr (4, [.int tz, .ref tn])), (tn, .inl (cI, 72, .inl tf)), (t, .inr (1, [.int tq, .int tw, .ref tm])), (tm, .inl (cI, 20, .inl tv))] s.heap.size = A at hD ⊢
  have hA : ∀ q : Nat, s.heap.size ≤ q → A q := fun q h => by rw [← hAe]; exact Or.inr h
  have hS : va_S A s.heap s.heap [] := va_S.rf
  have hP : va_P D vwCl [(x, .inr (5, [.ref r, .ref t, .ref im, .int hi, .ref tx, .ref ch, .ref ro, .ref rf, .ref pl, .ref ot, .ref cl])), (r, .inr (1, [.int q, .int nw, .ref rn])), (rn, .inl (cI, 20, .inl v)), (ch, .inr (0, [.int cz, .ref cn])), (cn, .inl (cI, 48, .inl cf)), (tx, .inr (4, [.int tz, .ref tn])), (tn, .inl (cI, 72, .inl tf)), (t, .inr (1, [.int tq, .int tw, .ref tm])), (tm, .inl (cI, 20, .inl tv))] s.heap := hP
  have hl := lv_entry ([.ref x]) (n := 2) (Nat.le_of_ble_eq_true rfl)
  rw [lg_entry_eq]
  generalize (lg_sl ([.ref x]) ++ List.replicate (2 - (lg_sl ([.ref x])).length) Slot.unset).toArray = ls at hl ⊢
  have hl : lv_has ls 2 [(0, .ref x)] := hl
  refine lv_aload_n hx hb dX5_walk_0 rfl (lv_at hl 0 rfl) ?_
  refine wrVi (As := []) (rest := []) (wr := []) (A := A) ⟨hx, hb, hml, hown, hts⟩ (c_X5_readWalk l D cI cZ cR x r t im tx ch ro rf pl ot cl hi rn q nw v cn cz cf tn tz tf tm tq tw tv nT htz hnT hok s.heap.size) (cwV 0 hts gX5_walk_X5_readWalk rfl rfl rfl (by decide +kernel) ⟨Nat.le_of_ble_eq_true rfl, Nat.le_of_ble_eq_true rfl⟩) hK hN hP hD hS hA 0 5 rfl rfl rfl [0, 1, 2, 3, 4, 5, 6, 7, 8] [] rfl (by decide) rfl (by decide) (by decide) rfl hl.1 rfl (Nat.le_of_ble_eq_true rfl) dX5_walk_1 ⟨Nat.zero_le _, Nat.zero_le _⟩ (fun r_1 u H locs hw hP hD hS => ?_)
  obtain ⟨q_1, nw_1, v_1, cz_1, tq_1, tw_1, tv_1⟩ := u
  try dsimp only at hw
  obtain ⟨q1_1, q2_1, q3_1, q4_1, q5_1⟩ := hw
  have q1_1 := q1_1.symm
  subst q1_1
  have q2_1 := q2_1.symm
  subst q2_1
  have q3_1 := q3_1.symm
  subst q3_1
  have q4_1 := q4_1.symm
  subst q4_1
  have q5_1 := q5_1.symm
  subst q5_1
  have hP : va_P D vwCl [(x, .inr (5, [.ref r, .ref t, .ref im, .int hi, .ref tx, .ref ch, .ref ro, .ref rf, .ref pl, .ref ot, .ref cl])), (r, .inr (1, [.int ((wkS nT tf q nw v).1), .int ((wkS nT tf q nw v).2.1), .ref rn])), (rn, .inl (cI, 20, .inl ((wkS nT tf q nw v).2.2))), (ch, .inr (0, [.int (wkC nT tf q nw v cz), .ref cn])), (cn, .inl (cI, 48, .inl cf)), (tx, .inr (4, [.int tz, .ref tn])), (tn, .inl (cI, 72, .inl tf)), (t, .inr (1, [.int tq_1, .int tw_1, .ref tm])), (tm, .inl (cI, 20, .inl tv_1))] H := hP.sub [0, 1, 2, 3, 4, 5, 6, 7, 8] rfl
  have hD : va_D A [(x, .inr (5, [.ref r, .ref t, .ref im, .int hi, .ref tx, .ref ch, .ref ro, .ref rf, .ref pl, .ref ot, .ref cl])), (r, .inr (1, [.int ((wkS nT tf q nw v).1), .int ((wkS nT tf q nw v).2.1), .ref rn])), (rn, .inl (cI, 20, .inl ((wkS nT tf q nw v).2.2))), (ch, .inr (0, [.int (wkC nT tf q nw v cz), .ref cn])), (cn, .inl (cI, 48, .inl cf)), (tx, .inr (4, [.int tz, .ref tn])), (tn, .inl (cI, 72, .inl tf)), (t, .inr (1, [.int tq_1, .int tw_1, .ref tm])), (tm, .inl (cI, 20, .inl tv_1))] := hD.sub [0, 1, 2, 3, 4, 5, 6, 7, 8] (by decide) rfl
  refine lv_istore_n (lv' := [(1, .int ((wk nT tf q nw v).1)), (0, .ref x)]) hx hb dX5_walk_4 rfl hl (by decide) rfl (fun ls hl => ?_)
  refine lv_aload_n hx hb dX5_walk_5 rfl (lv_at hl 1 rfl) ?_
  refine va_get (D := D) (ci := 5) (v := .ref tx) (C := RX5) (T := TX5) (N := 11) hx hb hts (in_X5_walk_X5) hown hK hP 0 rfl rfl 4 (by decide) (hts (.fieldLink RX5 29 "StepsRoundCircle" "text" "LStepsRoundCircle$Text;") (by decide +kernel)) (fun _ h9 => h9) rfl dX5_walk_6 ?_
  refine wrVv (As := []) (rest := []) (wr := [(x, .inr (5, [.ref r, .ref t, .ref im, .int hi, .ref tx, .ref ch, .ref ro, .ref rf, .ref pl, .ref ot, .ref cl])), (r, .inr (1, [.int ((wkS nT tf q nw v).1), .int ((wkS nT tf q nw v).2.1), .ref rn])), (rn, .inl (cI, 20, .inl ((wkS nT tf q nw v).2.2))), (ch, .inr (0, [.int (wkC nT tf q nw v cz), .ref cn])), (cn, .inl (cI, 48, .inl cf)), (t, .inr (1, [.int tq_1, .int tw_1, .ref tm])), (tm, .inl (cI, 20, .inl tv_1))]) (A := A) ⟨hx, hb, hml, hown, hts⟩ (c_X4_clear l D cI cZ cR tx tn tz tf  H.size) (cwV 0 hts gX5_walk_X4_clear rfl rfl rfl (by decide +kernel) ⟨Nat.le_of_ble_eq_true rfl, Nat.le_of_ble_eq_true rfl⟩) hK hN hP hD hS hA 5 4 rfl rfl rfl [5, 6] [0, 1, 2, 3, 4, 7, 8] rfl (by decide) rfl (by decide) (by decide) rfl hl.1 rfl (Nat.le_of_ble_eq_true rfl) dX5_walk_9 ⟨Nat.zero_le _, Nat.zero_le _⟩ (fun u H locs hw hP hD hS => ?_)
  obtain ⟨z_9, rfl⟩ : ∃ z, z = u := ⟨_, rfl⟩
  try dsimp only at hw
  have q1_9 := hw
  have q1_9 := q1_9.symm
  subst q1_9
  have hP : va_P D vwCl [(x, .inr (5, [.ref r, .ref t, .ref im, .int hi, .ref tx, .ref ch, .ref ro, .ref rf, .ref pl, .ref ot, .ref cl])), (r, .inr (1, [.int ((wkS nT tf q nw v).1), .int ((wkS nT tf q nw v).2.1), .ref rn])), (rn, .inl (cI, 20, .inl ((wkS nT tf q nw v).2.2))), (ch, .inr (0, [.int (wkC nT tf q nw v cz), .ref cn])), (cn, .inl (cI, 48, .inl cf)), (tx, .inr (4, [.int 0, .ref tn])), (tn, .inl (cI, 72, .inl tf)), (t, .inr (1, [.int tq_1, .int tw_1, .ref tm])), (tm, .inl (cI, 20, .inl tv_1))] H := hP.sub [0, 1, 2, 3, 4, 7, 8, 5, 6] rfl
  have hD : va_D A [(x, .inr (5, [.ref r, .ref t, .ref im, .int hi, .ref tx, .ref ch, .ref ro, .ref rf, .ref pl, .ref ot, .ref cl])), (r, .inr (1, [.int ((wkS nT tf q nw v).1), .int ((wkS nT tf q nw v).2.1), .ref rn])), (rn, .inl (cI, 20, .inl ((wkS nT tf q nw v).2.2))), (ch, .inr (0, [.int (wkC nT tf q nw v cz), .ref cn])), (cn, .inl (cI, 48, .inl cf)), (tx, .inr (4, [.int 0, .ref tn])), (tn, .inl (cI, 72, .inl tf)), (t, .inr (1, [.int tq_1, .int tw_1, .ref tm])), (tm, .inl (cI, 20, .inl tv_1))] := hD.sub [0, 1, 2, 3, 4, 7, 8, 5, 6] (by decide) rfl
  refine lv_iload_n hx hb dX5_walk_12 rfl (lv_at hl 0 rfl) ?_
  exact wrI (w1 := (fun (u : Int32 × Int32 × (Nat → Int32) × Int32 × Int32 × Int32 × Int32 × (Nat → Int32)) => [(x, .inr (5, [.ref r, .ref t, .ref im, .int hi, .ref tx, .ref ch, .ref ro, .ref rf, .ref pl, .ref ot, .ref cl])), (r, .inr (1, [.int u.1, .int u.2.1, .ref rn])), (rn, .inl (cI, 20, .inl u.2.2.1)), (ch, .inr (0, [.int u.2.2.2.1, .ref cn])), (cn, .inl (cI, 48, .inl cf)), (tx, .inr (4, [.int u.2.2.2.2.1, .ref tn])), (tn, .inl (cI, 72, .inl tf)), (t, .inr (1, [.int u.2.2.2.2.2.1, .int u.2.2.2.2.2.2.1, .ref tm])), (tm, .inl (cI, 20, .inl u.2.2.2.2.2.2.2))])) (((wkS nT tf q nw v).1), ((wkS nT tf q nw v).2.1), ((wkS nT tf q nw v).2.2), (wkC nT tf q nw v cz), 0, tq_1, tw_1, tv_1) hx hb hr hlocks dX5_walk_13 hS (hP.sub [0, 1, 2, 3, 4, 5, 6, 7, 8] rfl) (hD.sub [0, 1, 2, 3, 4, 5, 6, 7, 8] (by decide) rfl) (⟨rfl, rfl, rfl, rfl, rfl, rfl⟩)
