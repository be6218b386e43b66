theorem in_X5_firstOtherwise_X2 : ∀ w ∈ wsX20, w ∈ wsX5_firstOtherwise := by decide +kernel
theorem in_X5_firstOtherwise_X5 : ∀ w ∈ wsX50, w ∈ wsX5_firstOtherwise := by decide +kernel
theorem in_X5_judge_X5 : ∀ w ∈ wsX50, w ∈ wsX5_judge := by decide +kernel
theorem in_X5_kinds_X5 : ∀ w ∈ wsX50, w ∈ wsX5_kinds := by decide +kernel
theorem in_X5_lays_X2 : ∀ w ∈ wsX20, w ∈ wsX5_lays := by decide +kernel
theorem in_X5_lays_X5 : ∀ w ∈ wsX50, w ∈ wsX5_lays := by decide +kernel
theorem in_X5_rowOf_X5 : ∀ w ∈ wsX50, w ∈ wsX5_rowOf := by decide +kernel
theorem in_X5_stepBy_X2 : ∀ w ∈ wsX20, w ∈ wsX5_stepBy := by decide +kernel
theorem in_X5_stepBy_X5 : ∀ w ∈ wsX50, w ∈ wsX5_stepBy := by decide +kernel
theorem in_X5_tellsPlaces_X1 : ∀ w ∈ wsX10, w ∈ wsX5_tellsPlaces := by decide +kernel
theorem in_X5_tellsPlaces_X2 : ∀ w ∈ wsX20, w ∈ wsX5_tellsPlaces := by decide +kernel
theorem in_X5_tellsPlaces_X5 : ∀ w ∈ wsX50, w ∈ wsX5_tellsPlaces := by decide +kernel
set_option maxHeartbeats 4000000 in
set_option maxRecDepth 100000 in
theorem c_X5_rowOf (l : Launch) (D : va_G) (cI cZ cR : ClassId) (x r t im tx ch ro rf pl ot cl : Nat) (hi : Int32) (rof : Nat → Option Nat) (li ra : Nat) (hli : li < 3) (hro : rof li = some ra) : Met l yX5_rowOf wsX5_rowOf ({ frames := 1, cells := 0, slots := 0, locals := 21 }) (PcR D cI cZ cR [.ref x, .int (nI li)] [(x, .inr (5, [.ref r, .ref t, .ref im, .int hi, .ref tx, .ref ch, .ref ro, .ref rf, .ref pl, .ref ot, .ref cl])), (ro, .inl (cR, 3, .inr (.inr (.inr (.inr rof)))))]) (k2_QcV (.ref ra)) 0 0 (fun _ => False) := by
  refine Met.ofW (cc := cX5_rowOf) (maxL := 2) (ret := (some (.object "StepsRoundCircle$Row"))) (by decide) rfl ?_
  intro p e s m args below meth c s₁ B hml hv
  obtain ⟨rfl, hP, hK, hN⟩ := hv
  have hx := B.exec
  have hb := B.bytes
  have hr := B.returns
  have hts := atoms_spec (ws := wsX5_rowOf) B.pre
  have hown : s.vm.findClass RX5 = some m.cls := findClass_of_methodNamed B.named
  have hlocks := B.notSynchronized
  have hP : va_P D vwCl [(x, .inr (5, [.ref r, .ref t, .ref im, .int hi, .ref tx, .ref ch, .ref ro, .ref rf, .ref pl, .ref ot, .ref cl])), (ro, .inl (cR, 3, .inr (.inr (.inr (.inr rof)))))] s.heap := hP
  have hl := lv_entry ([.ref x, .int (nI li)]) (n := 2) (Nat.le_of_ble_eq_true rfl)
  rw [lg_entry_eq]
  generalize (lg_sl ([.ref x, .int (nI li)]) ++ List.replicate (2 - (lg_sl ([.ref x, .int (nI li)])).length) Slot.unset).toArray = ls at hl ⊢
  have hl : lv_has ls 2 [(0, .ref x), (1, .int (nI li))] := hl
  refine lv_iload_n hx hb dX5_rowOf_0 rfl (lv_at hl 1 rfl) ?_
  refine lv_aload_n hx hb dX5_rowOf_1 rfl (lv_at hl 0 rfl) ?_
  refine va_get (D := D) (ci := 5) (v := .ref ro) (C := RX5) (T := TX5) (N := 11) hx hb hts (in_X5_rowOf_X5) hown hK hP 0 rfl rfl 6 (by decide) (hts (.fieldLink RX5 42 "StepsRoundCircle" "rows" "[LStepsRoundCircle$Row;") (by decide +kernel)) (fun _ h9 => h9) rfl dX5_rowOf_2 ?_
  refine va_alen (v := 3) hx hb hK hP 1 2 rfl rfl rfl dX5_rowOf_5 ?_
  refine rdS (As := [.int (nI li), .int 3]) (rest := []) ⟨hx, hb, hml, hown, hts⟩ (c_X5_isBelow l D cI cZ cR (nI li) 3 ) (va_cwS 2 hts gX5_rowOf_X5_isBelow rfl rfl rfl (by decide +kernel) ⟨Nat.le_of_ble_eq_true rfl, Nat.le_of_ble_eq_true rfl⟩) hK hN hP [] rfl rfl hl.1 rfl (Nat.le_of_ble_eq_true rfl) dX5_rowOf_6 ⟨Nat.zero_le _, Nat.zero_le _⟩ ?_
  refine lv_if_eq (tgt := 21) hx hb dX5_rowOf_9 (by decide) (fun c_9 => ?_) (fun c_9 => ?_)
  · skip
    have c_9 := bi_eq0.mp c_9
    exact False.elim (c_9 ⟨nI_pos' (by omega), nI_lt (b := 3) hli (by omega)⟩)
  · skip
    have c_9 := bi_ne0.mp c_9
    refine lv_aload_n hx hb dX5_rowOf_12 rfl (lv_at hl 0 rfl) ?_
    refine va_get (D := D) (ci := 5) (v := .ref ro) (C := RX5) (T := TX5) (N := 11) hx hb hts (in_X5_rowOf_X5) hown hK hP 0 rfl rfl 6 (by decide) (hts (.fieldLink RX5 42 "StepsRoundCircle" "rows" "[LStepsRoundCircle$Row;") (by decide +kernel)) (fun _ h9 => h9) rfl dX5_rowOf_13 ?_
    refine lv_iload_n hx hb dX5_rowOf_16 rfl (lv_at hl 1 rfl) ?_
    refine va_aldq hx hb hK hP 1 2 rfl rfl (vp_in_nI hli (by omega)) dX5_rowOf_17 ?_
    refine lv_goto (tgt := 22) hx hb dX5_rowOf_18 (by decide) ?_
    exact rdA hx hb hr hlocks dX5_rowOf_22 (Or.inr ⟨_, rfl⟩) (by rw [nI_clamp (by omega), hro]; rfl)

set_option maxHeartbeats 4000000 in
set_option maxRecDepth 100000 in
theorem c_X5_rowOf_no (l : Launch) (D : va_G) (cI cZ cR : ClassId) (x r t im tx ch ro rf pl ot cl : Nat) (hi : Int32) (rof : Nat → Option Nat) (li : Int32) (hli : ¬ (0 ≤ li ∧ li < 3)) : Met l yX5_rowOf wsX5_rowOf ({ frames := 1, cells := 0, slots := 0, locals := 21 }) (PcR D cI cZ cR [.ref x, .int li] [(x, .inr (5, [.ref r, .ref t, .ref im, .int hi, .ref tx, .ref ch, .ref ro, .ref rf, .ref pl, .ref ot, .ref cl])), (ro, .inl (cR, 3, .inr (.inr (.inr (.inr rof)))))]) (k2_QcV (.null)) 0 0 (fun _ => False) := by
  refine Met.ofW (cc := cX5_rowOf) (maxL := 2) (ret := (some (.object "StepsRoundCircle$Row"))) (by decide) rfl ?_
  intro p e s m args below meth c s₁ B hml hv
  obtain ⟨rfl, hP, hK, hN⟩ := hv
  have hx := B.exec
  have hb := B.bytes
  have hr := B.returns
  have hts := atoms_spec (ws := wsX5_rowOf) B.pre
  have hown : s.vm.findClass RX5 = some m.cls := findClass_of_methodNamed B.named
  have hlocks := B.notSynchronized
  have hP : va_P D vwCl [(x, .inr (5, [.ref r, .ref t, .ref im, .int hi, .ref tx, .ref ch, .ref ro, .ref rf, .ref pl, .ref ot, .ref cl])), (ro, .inl (cR, 3, .inr (.inr (.inr (.inr rof)))))] s.heap := hP
  have hl := lv_entry ([.ref x, .int li]) (n := 2) (Nat.le_of_ble_eq_true rfl)
  rw [lg_entry_eq]
  generalize (lg_sl ([.ref x, .int li]) ++ List.replicate (2 - (lg_sl ([.ref x, .int li])).length) Slot.unset).toArray = ls at hl ⊢
  have hl : lv_has ls 2 [(0, .ref x), (1, .int li)] := hl
  refine lv_iload_n hx hb dX5_rowOf_0 rfl (lv_at hl 1 rfl) ?_
  refine lv_aload_n hx hb dX5_rowOf_1 rfl (lv_at hl 0 rfl) ?_
  refine va_get (D := D) (ci := 5) (v := .ref ro) (C := RX5) (T := TX5) (N := 11) hx hb hts (in_X5_rowOf_X5) hown hK hP 0 rfl rfl 6 (by decide) (hts (.fieldLink RX5 42 "StepsRoundCircle" "rows" "[LStepsRoundCircle$Row;") (by decide +kernel)) (fun _ h9 => h9) rfl dX5_rowOf_2 ?_
  refine va_alen (v := 3) hx hb hK hP 1 2 rfl rfl rfl dX5_rowOf_5 ?_
  refine rdS (As := [.int li, .int 3]) (rest := []) ⟨hx, hb, hml, hown, hts⟩ (c_X5_isBelow l D cI cZ cR li 3 ) (va_cwS 2 hts gX5_rowOf_X5_isBelow rfl rfl rfl (by decide +kernel) ⟨Nat.le_of_ble_eq_true rfl, Nat.le_of_ble_eq_true rfl⟩) hK hN hP [] rfl rfl hl.1 rfl (Nat.le_of_ble_eq_true rfl) dX5_rowOf_6 ⟨Nat.zero_le _, Nat.zero_le _⟩ ?_
  refine lv_if_eq (tgt := 21) hx hb dX5_rowOf_9 (by decide) (fun c_9 => ?_) (fun c_9 => ?_)
  · skip
    have c_9 := bi_eq0.mp c_9
    refine lv_null hx hb dX5_rowOf_21 ?_
    exact rdA hx hb hr hlocks dX5_rowOf_22 (Or.inl rfl) rfl
  · skip
    have c_9 := bi_ne0.mp c_9
    exact False.elim (hli c_9)

set_option maxHeartbeats 4000000 in
set_option maxRecDepth 100000 in
theorem c_X5_firstOtherwise (l : Launch) (D : va_G) (cI cZ cR : ClassId) (x r t im tx ch ro rf pl ot cl : Nat) (hi : Int32) (rn : Nat) (q nw : Int32) (v : Nat → Int32) (a an : Nat) (z : Int32) (f : Nat → Int32) (w kd : Int32) (hz : z ≤ 40) : Met l yX5_firstOtherwise wsX5_firstOtherwise ({ frames := 3, cells := 0, slots := 0, locals := 76 }) (PcR D cI cZ cR [.ref x, .ref a, .int w, .int kd] [(x, .inr (5, [.ref r, .ref t, .ref im, .int hi, .ref tx, .ref ch, .ref ro, .ref rf, .ref pl, .ref ot, .ref cl])), (r, .inr (1, [.int q, .int nw, .ref rn])), (rn, .inl (cI, 20, .inl v)), (a, .inr (2, [.int z, .ref an])), (an, .inl (cI, 40, .inl f))]) (k2_QcV (.int (ffk (foP q v kd w f) 0 z.toNatClampNeg))) 0 0 (fun _ => False) := by
  refine Met.ofW (cc := cX5_firstOtherwise) (maxL := 5) (ret := (some .int)) (by decide) rfl ?_
  intro p e s m args below meth c s₁ B hml hv
  obtain ⟨rfl, hP, hK, hN⟩ := hv
  have hx := B.exec
  have hb := B.bytes
  have hr := B.returns
  have hts := atoms_spec (ws := wsX5_firstOtherwise) B.pre
  have hown : s.vm.findClass RX5 = some m.cls := findClass_of_methodNamed B.named
  have hlocks := B.notSynchronized
  have hP : va_P D vwCl [(x, .inr (5, [.ref r, .ref t, .ref im, .int hi, .ref tx, .ref ch, .ref ro, .ref rf, .ref pl, .ref ot, .ref cl])), (r, .inr (1, [.int q, .int nw, .ref rn])), (rn, .inl (cI, 20, .inl v)), (a, .inr (2, [.int z, .ref an])), (an, .inl (cI, 40, .inl f))] s.heap := hP
  have hl := lv_entry ([.ref x, .ref a, .int w, .int kd]) (n := 5) (Nat.le_of_ble_eq_true rfl)
  rw [lg_entry_eq]
  generalize (lg_sl ([.ref x, .ref a, .int w, .int kd]) ++ List.replicate (5 - (lg_sl ([.ref x, .ref a, .int w, .int kd])).length) Slot.unset).toArray = ls at hl ⊢
  have hl : lv_has ls 5 [(0, .ref x), (1, .ref a), (2, .int w), (3, .int kd)] := hl
  have hz4 := z40 hz
  refine lv_iconst (v := 0) hx hb dX5_firstOtherwise_0 (by decide) ?_
  refine lv_istore (lv' := [(4, .int 0), (0, .ref x), (1, .ref a), (2, .int w), (3, .int kd)]) hx hb dX5_firstOtherwise_1 hl (by decide) rfl (fun ls hl => ?_)
  have loop_3 : ∀ (fuel : Nat), ∀ (i : Nat), (i ≤ z.toNatClampNeg) → (ffk (foP q v kd w f) 0 z.toNatClampNeg = ffk (foP q v kd w f) i (z.toNatClampNeg - i)) → (z.toNatClampNeg + 1 ≤ i + fuel) → ∀ (y4 : Int32), y4 = nI i → ∀ (ls : Array Slot), lv_has ls 5 [(4, .int y4), (0, .ref x), (1, .ref a), (2, .int w), (3, .int kd)] → W p l e (headSpec wsX5_firstOtherwise ({ frames := 3, cells := 0, slots := 0, locals := 76 })).room s m ([.ref x, .ref a, .int w, .int kd] : List Value).toArray below meth c s.heap [] 0 0 (MQ below (k2_QcV (.int (ffk (foP q v kd w f) 0 z.toNatClampNeg))) ([.ref x, .ref a, .int w, .int kd] : List Value).toArray s 0 0 (fun _ => False)) (F0 m 3 ls []) := by
    intro fuel
    induction fuel with
    | zero =>
      intro i hi9 hinv hfu
      exact False.elim (by omega)
    | succ fuel ih_3 =>
      intro i hi9 hinv hfu y4 ey4 ls hl
      subst ey4
      refine lv_iload hx hb dX5_firstOtherwise_3 (lv_at hl 0 rfl) ?_
      refine lv_aload_n hx hb dX5_firstOtherwise_5 rfl (lv_at hl 2 rfl) ?_
      refine va_get (D := D) (ci := 2) (v := .int z) (C := RX2) (T := TX2) (N := 2) hx hb hts (in_X5_firstOtherwise_X2) hown hK hP 3 rfl rfl 0 (by decide) (hts (.fieldLink RX5 262 "StepsRoundCircle$Row" "size" "I") (by decide +kernel)) (fun _ h9 => h9) rfl dX5_firstOtherwise_6 ?_
      refine lv_icmp_ge (tgt := 42) hx hb dX5_firstOtherwise_9 (by decide) (fun c_9 => ?_) (fun c_9 => ?_)
      · skip
        refine lv_bipush (v := (-9)) hx hb dX5_firstOtherwise_42 (by decide) ?_
        exact rdI hx hb hr hlocks dX5_firstOtherwise_44 (by rw [hinv, show z.toNatClampNeg - i = 0 by have := (le_clamp (by omega)).mp c_9; omega]; rfl)
      · skip
        have hiN : i < z.toNatClampNeg := (lt_clamp (by omega)).mp (Int32.not_le.mp c_9)
        refine lv_aload_n hx hb dX5_firstOtherwise_12 rfl (lv_at hl 2 rfl) ?_
        refine lv_iload hx hb dX5_firstOtherwise_13 (lv_at hl 0 rfl) ?_
        refine rdV (As := [.int (nI i)]) (rest := []) ⟨hx, hb, hml, hown, hts⟩ (c_X2_get l D cI cZ cR a an z f (nI i) ) (cwV 1 hts gX5_firstOtherwise_X2_get rfl rfl rfl (by decide +kernel) ⟨Nat.le_of_ble_eq_true rfl, Nat.le_of_ble_eq_true rfl⟩) hK hN hP 3 2 rfl rfl rfl [3, 4] rfl rfl hl.1 rfl (Nat.le_of_ble_eq_true rfl) dX5_firstOtherwise_15 ⟨Nat.zero_le _, Nat.zero_le _⟩ ?_
        refine lv_topi (fun z_18 hz_18 => ?_)
        have hz_18 : z_18 = f i := hz_18.trans (rw_getN hz hiN)
        subst hz_18
        refine lv_aload_n hx hb dX5_firstOtherwise_18 rfl (lv_at hl 1 rfl) ?_
        refine va_get (D := D) (ci := 5) (v := .ref r) (C := RX5) (T := TX5) (N := 11) hx hb hts (in_X5_firstOtherwise_X5) hown hK hP 0 rfl rfl 0 (by decide) (hts (.fieldLink RX5 10 "StepsRoundCircle" "ring" "LStepsRoundCircle$Ring;") (by decide +kernel)) (fun _ h9 => h9) rfl dX5_firstOtherwise_19 ?_
        refine lv_iload_n hx hb dX5_firstOtherwise_22 rfl (lv_at hl 4 rfl) ?_
        refine lv_iload_n hx hb dX5_firstOtherwise_23 rfl (lv_at hl 3 rfl) ?_
        refine lv_iload hx hb dX5_firstOtherwise_24 (lv_at hl 0 rfl) ?_
        refine lv_i2l hx hb dX5_firstOtherwise_26 rfl ?_
        refine rdV (As := [.int kd, .int w, .long ((nI i).toInt64)]) (rest := [.int (f i)]) ⟨hx, hb, hml, hown, hts⟩ (c_X1_placeBy l D cI cZ cR r rn q nw v kd w ((nI i).toInt64) ) (cwV 3 hts gX5_firstOtherwise_X1_placeBy rfl rfl rfl (by decide +kernel) ⟨Nat.le_of_ble_eq_true rfl, Nat.le_of_ble_eq_true rfl⟩) hK hN hP 1 1 rfl rfl rfl [1, 2] rfl rfl hl.1 rfl (Nat.le_of_ble_eq_true rfl) dX5_firstOtherwise_27 ⟨Nat.zero_le _, Nat.zero_le _⟩ ?_
        refine lv_icmp_eq (tgt := 36) hx hb dX5_firstOtherwise_30 (by decide) (fun c_30 => ?_) (fun c_30 => ?_)
        · skip
          refine lv_iinc (v := (nI i) + 1) (lv' := [(4, .int ((nI i) + 1)), (0, .ref x), (1, .ref a), (2, .int w), (3, .int kd)]) hx hb dX5_firstOtherwise_36 hl (k := 0) rfl (by rfl) (by decide) rfl (fun ls hl => ?_)
          refine lv_goto (tgt := 3) hx hb dX5_firstOtherwise_39 (by decide) ?_
          exact ih_3 (i + 1) (by omega) (hinv.trans (ffk_no (p := foP q v kd w f) (fun z9 => z9 c_30) (by omega))) (by omega) _ (by first | rfl | exact nI_1 _ | exact nI_0.symm) ls (lv_sub hl [0, 1, 2, 3, 4] rfl)
        · skip
          refine lv_iload hx hb dX5_firstOtherwise_33 (lv_at hl 0 rfl) ?_
          exact rdI hx hb hr hlocks dX5_firstOtherwise_35 (by rw [hinv, ffk_yes (p := foP q v kd w f) c_30 (by omega)])
  exact loop_3 (z.toNatClampNeg + 1) 0 (by omega) rfl (by omega) _ (by first | rfl | exact nI_1 _ | exact nI_0.symm) ls (lv_sub hl [0, 1, 2, 3, 4] rfl)

set_option maxHeartbeats 4000000 in
set_option maxRecDepth 100000 in
theorem c_X5_tellsPlaces (l : Launch) (D : va_G) (cI cZ cR : ClassId) (x r t im tx ch ro rf pl ot cl : Nat) (hi : Int32) (rn : Nat) (q nw : Int32) (v : Nat → Int32) (a an : Nat) (z : Int32) (f : Nat → Int32) (hz : z ≤ 40) : Met l yX5_tellsPlaces wsX5_tellsPlaces ({ frames := 3, cells := 0, slots := 0, locals := 63 }) (PcR D cI cZ cR [.ref x, .ref a] [(x, .inr (5, [.ref r, .ref t, .ref im, .int hi, .ref tx, .ref ch, .ref ro, .ref rf, .ref pl, .ref ot, .ref cl])), (r, .inr (1, [.int q, .int nw, .ref rn])), (rn, .inl (cI, 20, .inl v)), (a, .inr (2, [.int z, .ref an])), (an, .inl (cI, 40, .inl f))]) (k2_QcV (.int (bi (tells q z f)))) 0 0 (fun _ => False) := by
  refine Met.ofW (cc := cX5_tellsPlaces) (maxL := 3) (ret := (some .boolean)) (by decide) rfl ?_
  intro p e s m args below meth c s₁ B hml hv
  obtain ⟨rfl, hP, hK, hN⟩ := hv
  have hx := B.exec
  have hb := B.bytes
  have hr := B.returns
  have hts := atoms_spec (ws := wsX5_tellsPlaces) B.pre
  have hown : s.vm.findClass RX5 = some m.cls := findClass_of_methodNamed B.named
  have hlocks := B.notSynchronized
  have hP : va_P D vwCl [(x, .inr (5, [.ref r, .ref t, .ref im, .int hi, .ref tx, .ref ch, .ref ro, .ref rf, .ref pl, .ref ot, .ref cl])), (r, .inr (1, [.int q, .int nw, .ref rn])), (rn, .inl (cI, 20, .inl v)), (a, .inr (2, [.int z, .ref an])), (an, .inl (cI, 40, .inl f))] s.heap := hP
  have hl := lv_entry ([.ref x, .ref a]) (n := 3) (Nat.le_of_ble_eq_true rfl)
  rw [lg_entry_eq]
  generalize (lg_sl ([.ref x, .ref a]) ++ List.replicate (3 - (lg_sl ([.ref x, .ref a])).length) Slot.unset).toArray = ls at hl ⊢
  have hl : lv_has ls 3 [(0, .ref x), (1, .ref a)] := hl
  have hz4 := z40 hz
  refine lv_iconst (v := 0) hx hb dX5_tellsPlaces_0 (by decide) ?_
  refine lv_istore_n (lv' := [(2, .int 0), (0, .ref x), (1, .ref a)]) hx hb dX5_tellsPlaces_1 rfl hl (by decide) rfl (fun ls hl => ?_)
  have loop_2 : ∀ (fuel : Nat), ∀ (i : Nat), (i ≤ z.toNatClampNeg) → (∀ k, k < i → 0 ≤ f k ∧ f k < q) → (z.toNatClampNeg + 1 ≤ i + fuel) → ∀ (y2 : Int32), y2 = nI i → ∀ (ls : Array Slot), lv_has ls 3 [(2, .int y2), (0, .ref x), (1, .ref a)] → W p l e (headSpec wsX5_tellsPlaces ({ frames := 3, cells := 0, slots := 0, locals := 63 })).room s m ([.ref x, .ref a] : List Value).toArray below meth c s.heap [] 0 0 (MQ below (k2_QcV (.int (bi (tells q z f)))) ([.ref x, .ref a] : List Value).toArray s 0 0 (fun _ => False)) (F0 m 2 ls []) := by
    intro fuel
    induction fuel with
    | zero =>
      intro i hi9 hg hfu
      exact False.elim (by omega)
    | succ fuel ih_2 =>
      intro i hi9 hg hfu y2 ey2 ls hl
      subst ey2
      refine lv_iload_n hx hb dX5_tellsPlaces_2 rfl (lv_at hl 0 rfl) ?_
      refine lv_aload_n hx hb dX5_tellsPlaces_3 rfl (lv_at hl 2 rfl) ?_
      refine va_get (D := D) (ci := 2) (v := .int z) (C := RX2) (T := TX2) (N := 2) hx hb hts (in_X5_tellsPlaces_X2) hown hK hP 3 rfl rfl 0 (by decide) (hts (.fieldLink RX5 262 "StepsRoundCircle$Row" "size" "I") (by decide +kernel)) (fun _ h9 => h9) rfl dX5_tellsPlaces_4 ?_
      refine lv_icmp_ge (tgt := 36) hx hb dX5_tellsPlaces_7 (by decide) (fun c_7 => ?_) (fun c_7 => ?_)
      · skip
        refine lv_aload_n hx hb dX5_tellsPlaces_36 rfl (lv_at hl 2 rfl) ?_
        refine va_get (D := D) (ci := 2) (v := .int z) (C := RX2) (T := TX2) (N := 2) hx hb hts (in_X5_tellsPlaces_X2) hown hK hP 3 rfl rfl 0 (by decide) (hts (.fieldLink RX5 262 "StepsRoundCircle$Row" "size" "I") (by decide +kernel)) (fun _ h9 => h9) rfl dX5_tellsPlaces_37 ?_
        refine lv_iconst (v := 2) hx hb dX5_tellsPlaces_40 (by decide) ?_
        refine lv_icmp_lt (tgt := 48) hx hb dX5_tellsPlaces_41 (by decide) (fun c_41 => ?_) (fun c_41 => ?_)
        · skip
          refine lv_iconst (v := 0) hx hb dX5_tellsPlaces_48 (by decide) ?_
          exact rdZ hx hb hr hlocks dX5_tellsPlaces_49 ((bi_f (fun z9 => absurd z9.2 (Int32.not_le.mpr c_41))).symm)
        · skip
          refine lv_iconst (v := 1) hx hb dX5_tellsPlaces_44 (by decide) ?_
          refine lv_goto (tgt := 49) hx hb dX5_tellsPlaces_45 (by decide) ?_
          exact rdZ hx hb hr hlocks dX5_tellsPlaces_49 ((bi_t ⟨fun k hk => hg k (by have := (le_clamp (by omega)).mp c_7; omega), Int32.not_lt.mp c_41⟩).symm)
      · skip
        have hiN : i < z.toNatClampNeg := (lt_clamp (by omega)).mp (Int32.not_le.mp c_7)
        refine lv_aload_n hx hb dX5_tellsPlaces_10 rfl (lv_at hl 2 rfl) ?_
        refine lv_iload_n hx hb dX5_tellsPlaces_11 rfl (lv_at hl 0 rfl) ?_
        refine rdV (As := [.int (nI i)]) (rest := []) ⟨hx, hb, hml, hown, hts⟩ (c_X2_get l D cI cZ cR a an z f (nI i) ) (cwV 1 hts gX5_tellsPlaces_X2_get rfl rfl rfl (by decide +kernel) ⟨Nat.le_of_ble_eq_true rfl, Nat.le_of_ble_eq_true rfl⟩) hK hN hP 3 2 rfl rfl rfl [3, 4] rfl rfl hl.1 rfl (Nat.le_of_ble_eq_true rfl) dX5_tellsPlaces_12 ⟨Nat.zero_le _, Nat.zero_le _⟩ ?_
        refine lv_topi (fun z_15 hz_15 => ?_)
        have hz_15 : z_15 = f i := hz_15.trans (rw_getN hz hiN)
        subst hz_15
        refine lv_aload_n hx hb dX5_tellsPlaces_15 rfl (lv_at hl 1 rfl) ?_
        refine va_get (D := D) (ci := 5) (v := .ref r) (C := RX5) (T := TX5) (N := 11) hx hb hts (in_X5_tellsPlaces_X5) hown hK hP 0 rfl rfl 0 (by decide) (hts (.fieldLink RX5 10 "StepsRoundCircle" "ring" "LStepsRoundCircle$Ring;") (by decide +kernel)) (fun _ h9 => h9) rfl dX5_tellsPlaces_16 ?_
        refine va_get (D := D) (ci := 1) (v := .int q) (C := RX1) (T := TX1) (N := 3) hx hb hts (in_X5_tellsPlaces_X1) hown hK hP 1 rfl rfl 0 (by decide) (hts (.fieldLink RX5 91 "StepsRoundCircle$Ring" "size" "I") (by decide +kernel)) (fun _ h9 => h9) rfl dX5_tellsPlaces_19 ?_
        refine rdS (As := [.int (f i), .int q]) (rest := []) ⟨hx, hb, hml, hown, hts⟩ (c_X5_isBelow l D cI cZ cR (f i) q ) (va_cwS 2 hts gX5_tellsPlaces_X5_isBelow rfl rfl rfl (by decide +kernel) ⟨Nat.le_of_ble_eq_true rfl, Nat.le_of_ble_eq_true rfl⟩) hK hN hP [] rfl rfl hl.1 rfl (Nat.le_of_ble_eq_true rfl) dX5_tellsPlaces_22 ⟨Nat.zero_le _, Nat.zero_le _⟩ ?_
        refine lv_if_ne (tgt := 30) hx hb dX5_tellsPlaces_25 (by decide) (fun c_25 => ?_) (fun c_25 => ?_)
        · skip
          have c_25 := bi_ne0.mp c_25
          refine lv_iinc (v := (nI i) + 1) (lv' := [(2, .int ((nI i) + 1)), (0, .ref x), (1, .ref a)]) hx hb dX5_tellsPlaces_30 hl (k := 0) rfl (by rfl) (by decide) rfl (fun ls hl => ?_)
          refine lv_goto (tgt := 2) hx hb dX5_tellsPlaces_33 (by decide) ?_
          exact ih_2 (i + 1) (by omega) (lt_s hg c_25) (by omega) _ (by first | rfl | exact nI_1 _ | exact nI_0.symm) ls (lv_sub hl [0, 1, 2] rfl)
        · skip
          have c_25 := bi_eq0.mp c_25
          refine lv_iconst (v := 0) hx hb dX5_tellsPlaces_28 (by decide) ?_
          exact rdZ hx hb hr hlocks dX5_tellsPlaces_29 ((bi_f (fun z9 => c_25 (z9.1 i hiN))).symm)
  exact loop_2 (z.toNatClampNeg + 1) 0 (by omega) (fun j hj => absurd hj (Nat.not_lt_zero j)) (by omega) _ (by first | rfl | exact nI_1 _ | exact nI_0.symm) ls (lv_sub hl [0, 1, 2] rfl)

set_option maxHeartbeats 4000000 in
set_option maxRecDepth 100000 in
theorem c_X5_stepBy (l : Launch) (D : va_G) (cI cZ cR : ClassId) (x r t im tx ch ro rf pl ot cl : Nat) (hi : Int32) (rn : Nat) (q nw : Int32) (v : Nat → Int32) (a an : Nat) (z : Int32) (f : Nat → Int32) (hz : z ≤ 40) (hz2 : 2 ≤ z) : Met l yX5_stepBy wsX5_stepBy ({ frames := 3, cells := 0, slots := 0, locals := 63 }) (PcR D cI cZ cR [.ref x, .ref a] [(x, .inr (5, [.ref r, .ref t, .ref im, .int hi, .ref tx, .ref ch, .ref ro, .ref rf, .ref pl, .ref ot, .ref cl])), (r, .inr (1, [.int q, .int nw, .ref rn])), (rn, .inl (cI, 20, .inl v)), (a, .inr (2, [.int z, .ref an])), (an, .inl (cI, 40, .inl f))]) (k2_QcV (.int (stpB q z f))) 0 0 (fun _ => False) := by
  refine Met.ofW (cc := cX5_stepBy) (maxL := 4) (ret := (some .int)) (by decide) rfl ?_
  intro p e s m args below meth c s₁ B hml hv
  obtain ⟨rfl, hP, hK, hN⟩ := hv
  have hx := B.exec
  have hb := B.bytes
  have hr := B.returns
  have hts := atoms_spec (ws := wsX5_stepBy) B.pre
  have hown : s.vm.findClass RX5 = some m.cls := findClass_of_methodNamed B.named
  have hlocks := B.notSynchronized
  have hP : va_P D vwCl [(x, .inr (5, [.ref r, .ref t, .ref im, .int hi, .ref tx, .ref ch, .ref ro, .ref rf, .ref pl, .ref ot, .ref cl])), (r, .inr (1, [.int q, .int nw, .ref rn])), (rn, .inl (cI, 20, .inl v)), (a, .inr (2, [.int z, .ref an])), (an, .inl (cI, 40, .inl f))] s.heap := hP
  have hl := lv_entry ([.ref x, .ref a]) (n := 4) (Nat.le_of_ble_eq_true rfl)
  rw [lg_entry_eq]
  generalize (lg_sl ([.ref x, .ref a]) ++ List.replicate (4 - (lg_sl ([.ref x, .ref a])).length) Slot.unset).toArray = ls at hl ⊢
  have hl : lv_has ls 4 [(0, .ref x), (1, .ref a)] := hl
  have hz4 := z40 hz
  have hz2N := z2N hz2
  refine lv_aload_n hx hb dX5_stepBy_0 rfl (lv_at hl 0 rfl) ?_
  refine va_get (D := D) (ci := 5) (v := .ref r) (C := RX5) (T := TX5) (N := 11) hx hb hts (in_X5_stepBy_X5) hown hK hP 0 rfl rfl 0 (by decide) (hts (.fieldLink RX5 10 "StepsRoundCircle" "ring" "LStepsRoundCircle$Ring;") (by decide +kernel)) (fun _ h9 => h9) rfl dX5_stepBy_1 ?_
  refine lv_aload_n hx hb dX5_stepBy_4 rfl (lv_at hl 1 rfl) ?_
  refine lv_iconst (v := 1) hx hb dX5_stepBy_5 (by decide) ?_
  refine rdV (As := [.int 1]) (rest := [.ref r]) ⟨hx, hb, hml, hown, hts⟩ (c_X2_get l D cI cZ cR a an z f 1 ) (cwV 1 hts gX5_stepBy_X2_get rfl rfl rfl (by decide +kernel) ⟨Nat.le_of_ble_eq_true rfl, Nat.le_of_ble_eq_true rfl⟩) hK hN hP 3 2 rfl rfl rfl [3, 4] rfl rfl hl.1 rfl (Nat.le_of_ble_eq_true rfl) dX5_stepBy_6 ⟨Nat.zero_le _, Nat.zero_le _⟩ ?_
  refine lv_topi (fun z_9 hz_9 => ?_)
  have hz_9 : z_9 = f 1 := hz_9.trans (rw_getN (k := 1) hz (by omega))
  subst hz_9
  refine lv_aload_n hx hb dX5_stepBy_9 rfl (lv_at hl 1 rfl) ?_
  refine lv_iconst (v := 0) hx hb dX5_stepBy_10 (by decide) ?_
  refine rdV (As := [.int 0]) (rest := [.int (f 1), .ref r]) ⟨hx, hb, hml, hown, hts⟩ (c_X2_get l D cI cZ cR a an z f 0 ) (cwV 1 hts gX5_stepBy_X2_get rfl rfl rfl (by decide +kernel) ⟨Nat.le_of_ble_eq_true rfl, Nat.le_of_ble_eq_true rfl⟩) hK hN hP 3 2 rfl rfl rfl [3, 4] rfl rfl hl.1 rfl (Nat.le_of_ble_eq_true rfl) dX5_stepBy_11 ⟨Nat.zero_le _, Nat.zero_le _⟩ ?_
  refine lv_topi (fun z_14 hz_14 => ?_)
  have hz_14 : z_14 = f 0 := hz_14.trans (rw_getN (k := 0) hz (by omega))
  subst hz_14
  refine lv_isub hx hb dX5_stepBy_14 ?_
  refine lv_i2l hx hb dX5_stepBy_15 rfl ?_
  refine rdV (As := [.long (((f 1) - (f 0)).toInt64)]) (rest := []) ⟨hx, hb, hml, hown, hts⟩ (c_X1_around l D cI cZ cR r rn q nw v (((f 1) - (f 0)).toInt64) ) (cwV 1 hts gX5_stepBy_X1_around rfl rfl rfl (by decide +kernel) ⟨Nat.le_of_ble_eq_true rfl, Nat.le_of_ble_eq_true rfl⟩) hK hN hP 1 1 rfl rfl rfl [1, 2] rfl rfl hl.1 rfl (Nat.le_of_ble_eq_true rfl) dX5_stepBy_16 ⟨Nat.zero_le _, Nat.zero_le _⟩ ?_
  refine lv_topi (fun z_19 hz_19 => ?_)
  have hz_19 : z_19 = stO q f := hz_19.trans rfl
  subst hz_19
  refine lv_istore_n (lv' := [(2, .int (stO q f)), (0, .ref x), (1, .ref a)]) hx hb dX5_stepBy_19 rfl hl (by decide) rfl (fun ls hl => ?_)
  refine lv_iconst (v := 2) hx hb dX5_stepBy_20 (by decide) ?_
  refine lv_istore_n (lv' := [(3, .int 2), (2, .int (stO q f)), (0, .ref x), (1, .ref a)]) hx hb dX5_stepBy_21 rfl hl (by decide) rfl (fun ls hl => ?_)
  have loop_22 : ∀ (fuel : Nat), ∀ (i : Nat), (2 ≤ i) → (i ≤ z.toNatClampNeg) → (∀ k, k < i → 2 ≤ k → f k = rg_ar q (f (k - 1) + stO q f).toInt64) → (z.toNatClampNeg + 1 ≤ i + fuel) → ∀ (y3 : Int32), y3 = nI i → ∀ (ls : Array Slot), lv_has ls 4 [(3, .int y3), (2, .int (stO q f)), (0, .ref x), (1, .ref a)] → W p l e (headSpec wsX5_stepBy ({ frames := 3, cells := 0, slots := 0, locals := 63 })).room s m ([.ref x, .ref a] : List Value).toArray below meth c s.heap [] 0 0 (MQ below (k2_QcV (.int (stpB q z f))) ([.ref x, .ref a] : List Value).toArray s 0 0 (fun _ => False)) (F0 m 22 ls []) := by
    intro fuel
    induction fuel with
    | zero =>
      intro i hi2 hi9 hg hfu
      exact False.elim (by omega)
    | succ fuel ih_22 =>
      intro i hi2 hi9 hg hfu y3 ey3 ls hl
      subst ey3
      refine lv_iload_n hx hb dX5_stepBy_22 rfl (lv_at hl 0 rfl) ?_
      refine lv_aload_n hx hb dX5_stepBy_23 rfl (lv_at hl 3 rfl) ?_
      refine va_get (D := D) (ci := 2) (v := .int z) (C := RX2) (T := TX2) (N := 2) hx hb hts (in_X5_stepBy_X2) hown hK hP 3 rfl rfl 0 (by decide) (hts (.fieldLink RX5 262 "StepsRoundCircle$Row" "size" "I") (by decide +kernel)) (fun _ h9 => h9) rfl dX5_stepBy_24 ?_
      refine lv_icmp_ge (tgt := 64) hx hb dX5_stepBy_27 (by decide) (fun c_27 => ?_) (fun c_27 => ?_)
      · skip
        refine lv_iload_n hx hb dX5_stepBy_64 rfl (lv_at hl 1 rfl) ?_
        exact rdI hx hb hr hlocks dX5_stepBy_65 (by unfold stpB; rw [if_pos (fun k h1 h2 => hg k (by have := (le_clamp (by omega)).mp c_27; omega) h2)])
      · skip
        have hiN : i < z.toNatClampNeg := (lt_clamp (by omega)).mp (Int32.not_le.mp c_27)
        refine lv_aload_n hx hb dX5_stepBy_30 rfl (lv_at hl 3 rfl) ?_
        refine lv_iload_n hx hb dX5_stepBy_31 rfl (lv_at hl 0 rfl) ?_
        refine rdV (As := [.int (nI i)]) (rest := []) ⟨hx, hb, hml, hown, hts⟩ (c_X2_get l D cI cZ cR a an z f (nI i) ) (cwV 1 hts gX5_stepBy_X2_get rfl rfl rfl (by decide +kernel) ⟨Nat.le_of_ble_eq_true rfl, Nat.le_of_ble_eq_true rfl⟩) hK hN hP 3 2 rfl rfl rfl [3, 4] rfl rfl hl.1 rfl (Nat.le_of_ble_eq_true rfl) dX5_stepBy_32 ⟨Nat.zero_le _, Nat.zero_le _⟩ ?_
        refine lv_topi (fun z_35 hz_35 => ?_)
        have hz_35 : z_35 = f i := hz_35.trans (rw_getN hz hiN)
        subst hz_35
        refine lv_aload_n hx hb dX5_stepBy_35 rfl (lv_at hl 2 rfl) ?_
        refine va_get (D := D) (ci := 5) (v := .ref r) (C := RX5) (T := TX5) (N := 11) hx hb hts (in_X5_stepBy_X5) hown hK hP 0 rfl rfl 0 (by decide) (hts (.fieldLink RX5 10 "StepsRoundCircle" "ring" "LStepsRoundCircle$Ring;") (by decide +kernel)) (fun _ h9 => h9) rfl dX5_stepBy_36 ?_
        refine lv_aload_n hx hb dX5_stepBy_39 rfl (lv_at hl 3 rfl) ?_
        refine lv_iload_n hx hb dX5_stepBy_40 rfl (lv_at hl 0 rfl) ?_
        refine lv_iconst (v := 1) hx hb dX5_stepBy_41 (by decide) ?_
        refine lv_isub hx hb dX5_stepBy_42 ?_
        refine lv_topi (fun z_43 hz_43 => ?_)
        have hz_43 : z_43 = nI (i - 1) := hz_43.trans (pk_sub (b := 1) (by omega))
        subst hz_43
        refine rdV (As := [.int (nI (i - 1))]) (rest := [.ref r, .int (f i)]) ⟨hx, hb, hml, hown, hts⟩ (c_X2_get l D cI cZ cR a an z f (nI (i - 1)) ) (cwV 1 hts gX5_stepBy_X2_get rfl rfl rfl (by decide +kernel) ⟨Nat.le_of_ble_eq_true rfl, Nat.le_of_ble_eq_true rfl⟩) hK hN hP 3 2 rfl rfl rfl [3, 4] rfl rfl hl.1 rfl (Nat.le_of_ble_eq_true rfl) dX5_stepBy_43 ⟨Nat.zero_le _, Nat.zero_le _⟩ ?_
        refine lv_topi (fun z_46 hz_46 => ?_)
        have hz_46 : z_46 = f (i - 1) := hz_46.trans (rw_getN hz (by omega))
        subst hz_46
        refine lv_iload_n hx hb dX5_stepBy_46 rfl (lv_at hl 1 rfl) ?_
        refine lv_iadd hx hb dX5_stepBy_47 ?_
        refine lv_i2l hx hb dX5_stepBy_48 rfl ?_
        refine rdV (As := [.long (((f (i - 1)) + (stO q f)).toInt64)]) (rest := [.int (f i)]) ⟨hx, hb, hml, hown, hts⟩ (c_X1_around l D cI cZ cR r rn q nw v (((f (i - 1)) + (stO q f)).toInt64) ) (cwV 1 hts gX5_stepBy_X1_around rfl rfl rfl (by decide +kernel) ⟨Nat.le_of_ble_eq_true rfl, Nat.le_of_ble_eq_true rfl⟩) hK hN hP 1 1 rfl rfl rfl [1, 2] rfl rfl hl.1 rfl (Nat.le_of_ble_eq_true rfl) dX5_stepBy_49 ⟨Nat.zero_le _, Nat.zero_le _⟩ ?_
        refine lv_icmp_eq (tgt := 58) hx hb dX5_stepBy_52 (by decide) (fun c_52 => ?_) (fun c_52 => ?_)
        · skip
          refine lv_iinc (v := (nI i) + 1) (lv' := [(3, .int ((nI i) + 1)), (2, .int (stO q f)), (0, .ref x), (1, .ref a)]) hx hb dX5_stepBy_58 hl (k := 0) rfl (by rfl) (by decide) rfl (fun ls hl => ?_)
          refine lv_goto (tgt := 22) hx hb dX5_stepBy_61 (by decide) ?_
          exact ih_22 (i + 1) (by omega) (by omega) (lt_s hg (fun _ => c_52)) (by omega) _ (by first | rfl | exact nI_1 _ | exact nI_0.symm) ls (lv_sub hl [0, 1, 2, 3] rfl)
        · skip
          refine lv_bipush (v := (-9)) hx hb dX5_stepBy_55 (by decide) ?_
          exact rdI hx hb hr hlocks dX5_stepBy_57 (by unfold stpB; rw [if_neg (fun z9 => c_52 (z9 i hiN hi2))])
  exact loop_22 (z.toNatClampNeg + 1) 2 (by omega) (by omega) (fun j h1 h2 => absurd h1 (by omega)) (by omega) _ (by first | rfl | exact nI_1 _ | exact nI_0.symm) ls (lv_sub hl [0, 1, 2, 3] rfl)

set_option maxHeartbeats 4000000 in
set_option maxRecDepth 100000 in
theorem c_X5_list (l : Launch) (D : va_G) (cI cZ cR : ClassId) (x r t im tx ch ro rf pl ot cl : Nat) (hi : Int32) (F : Nat → Int32) (rof : Nat → Option Nat) (li ra rb : Nat) (z : Int32) (f : Nat → Int32) (n : Int32) (hli : li < 3) (hro : rof li = some ra) (sz : Nat) : Met l yX5_list wsX5_list ({ frames := 2, cells := 0, slots := 0, locals := 44 }) (PcW D cI cZ cR [.ref x, .int (nI li), .int n] [(x, .inr (5, [.ref r, .ref t, .ref im, .int hi, .ref tx, .ref ch, .ref ro, .ref rf, .ref pl, .ref ot, .ref cl])), (rf, .inl (cI, 6, .inl F)), (ro, .inl (cR, 3, .inr (.inr (.inr (.inr rof))))), (ra, .inr (2, [.int z, .ref rb])), (rb, .inl (cI, 40, .inl f))] sz) (va_Qi (fun (res : Int32) (u : (Nat → Int32) × Int32 × (Nat → Int32)) => res = (if rf_lis n = 0 then 1 else rf_lis n) ∧ u.1 = (if rf_lis n = 0 then F else rf_bump F (rf_lis n)) ∧ u.2.1 = (if rf_lis n = 0 then n else z) ∧ u.2.2 = (if rf_lis n = 0 then (fun _ => 0) else f)) (Bw D (fun (u : (Nat → Int32) × Int32 × (Nat → Int32)) => [(x, .inr (5, [.ref r, .ref t, .ref im, .int hi, .ref tx, .ref ch, .ref ro, .ref rf, .ref pl, .ref ot, .ref cl])), (rf, .inl (cI, 6, .inl u.1)), (ro, .inl (cR, 3, .inr (.inr (.inr (.inr rof))))), (ra, .inr (2, [.int u.2.1, .ref rb])), (rb, .inl (cI, 40, .inl u.2.2))]) (va_A [(x, .inr (5, [.ref r, .ref t, .ref im, .int hi, .ref tx, .ref ch, .ref ro, .ref rf, .ref pl, .ref ot, .ref cl])), (rf, .inl (cI, 6, .inl F)), (ro, .inl (cR, 3, .inr (.inr (.inr (.inr rof))))), (ra, .inr (2, [.int z, .ref rb])), (rb, .inl (cI, 40, .inl f))] sz)) (va_A [(x, .inr (5, [.ref r, .ref t, .ref im, .int hi, .ref tx, .ref ch, .ref ro, .ref rf, .ref pl, .ref ot, .ref cl])), (rf, .inl (cI, 6, .inl F)), (ro, .inl (cR, 3, .inr (.inr (.inr (.inr rof))))), (ra, .inr (2, [.int z, .ref rb])), (rb, .inl (cI, 40, .inl f))] sz)) 0 0 (va_A [(x, .inr (5, [.ref r, .ref t, .ref im, .int hi, .ref tx, .ref ch, .ref ro, .ref rf, .ref pl, .ref ot, .ref cl])), (rf, .inl (cI, 6, .inl F)), (ro, .inl (cR, 3, .inr (.inr (.inr (.inr rof))))), (ra, .inr (2, [.int z, .ref rb])), (rb, .inl (cI, 40, .inl f))] sz) := by
  refine Met.ofW (cc := cX5_list) (maxL := 4) (ret := (some .int)) (by decide) rfl ?_
  intro p e s m args below meth c s₁ B hml hv
  obtain ⟨rfl, hsz, hP, hK, hD0, hN⟩ := hv
  have hx := B.exec
  have hb := B.bytes
  have hr := B.returns
  have hts := atoms_spec (ws := wsX5_list) B.pre
  have hown : s.vm.findClass RX5 = some m.cls := findClass_of_methodNamed B.named
  have hlocks := B.notSynchronized
  subst hsz
  have hD := hD0.self (sz := s.heap.size)
  generalize hAe : va_A [(x, .inr (5, [.ref r, .ref t, .ref im, .int hi, .ref tx, .ref ch, .ref ro, .ref rf, .ref pl, .ref ot, .ref cl])), (rf, .inl (cI, 6, .inl F)), (ro, .inl (cR, 3, .inr (.inr (.inr (.inr rof))))), (ra, .inr (2, [.int z, .ref rb])), (rb, .inl (cI, 40, .inl f))] s.heap.size = A at hD ⊢
  have hA : ∀ q : Nat, s.heap.size ≤ q → A q := fun q h => by rw [← hAe]; exact Or.inr h
  have hS : va_S A s.heap s.heap [] := va_S.rf
  have hP : va_P D vwCl [(x, .inr (5, [.ref r, .ref t, .ref im, .int hi, .ref tx, .ref ch, .ref ro, .ref rf, .ref pl, .ref ot, .ref cl])), (rf, .inl (cI, 6, .inl F)), (ro, .inl (cR, 3, .inr (.inr (.inr (.inr rof))))), (ra, .inr (2, [.int z, .ref rb])), (rb, .inl (cI, 40, .inl f))] s.heap := hP
  have hl := lv_entry ([.ref x, .int (nI li), .int n]) (n := 4) (Nat.le_of_ble_eq_true rfl)
  rw [lg_entry_eq]
  generalize (lg_sl ([.ref x, .int (nI li), .int n]) ++ List.replicate (4 - (lg_sl ([.ref x, .int (nI li), .int n])).length) Slot.unset).toArray = ls at hl ⊢
  have hl : lv_has ls 4 [(0, .ref x), (1, .int (nI li)), (2, .int n)] := hl
  refine lv_aload_n hx hb dX5_list_0 rfl (lv_at hl 0 rfl) ?_
  refine lv_iload_n hx hb dX5_list_1 rfl (lv_at hl 1 rfl) ?_
  refine rdV (As := [.int (nI li)]) (rest := []) ⟨hx, hb, hml, hown, hts⟩ (c_X5_rowOf l D cI cZ cR x r t im tx ch ro rf pl ot cl hi rof li ra hli hro) (cwV 1 hts gX5_list_X5_rowOf rfl rfl rfl (by decide +kernel) ⟨Nat.le_of_ble_eq_true rfl, Nat.le_of_ble_eq_true rfl⟩) hK hN hP 0 5 rfl rfl rfl [0, 2] rfl rfl hl.1 rfl (Nat.le_of_ble_eq_true rfl) dX5_list_2 ⟨Nat.zero_le _, Nat.zero_le _⟩ ?_
  refine lv_astore_n (lv' := [(3, .ref ra), (0, .ref x), (1, .int (nI li)), (2, .int n)]) hx hb dX5_list_5 rfl hl (by decide) rfl (fun ls hl => ?_)
  refine lv_aload_n hx hb dX5_list_6 rfl (lv_at hl 0 rfl) ?_
  refine lv_ifnonnull (tgt := 16) hx hb dX5_list_7 (by decide) ?_
  refine lv_iload_n hx hb dX5_list_16 rfl (lv_at hl 3 rfl) ?_
  refine lv_bipush (v := 40) hx hb dX5_list_17 (by decide) ?_
  refine lv_icmp_le (tgt := 29) hx hb dX5_list_19 (by decide) (fun c_19 => ?_) (fun c_19 => ?_)
  · skip
    refine lv_iload_n hx hb dX5_list_29 rfl (lv_at hl 3 rfl) ?_
    refine lv_if_ge (tgt := 36) hx hb dX5_list_30 (by decide) (fun c_30 => ?_) (fun c_30 => ?_)
    · skip
      refine lv_aload_n hx hb dX5_list_36 rfl (lv_at hl 0 rfl) ?_
      refine lv_iload_n hx hb dX5_list_37 rfl (lv_at hl 3 rfl) ?_
      refine wrVv (As := [.int n]) (rest := []) (wr := [(x, .inr (5, [.ref r, .ref t, .ref im, .int hi, .ref tx, .ref ch, .ref ro, .ref rf, .ref pl, .ref ot, .ref cl])), (rf, .inl (cI, 6, .inl F)), (ro, .inl (cR, 3, .inr (.inr (.inr (.inr rof)))))]) (A := A) ⟨hx, hb, hml, hown, hts⟩ (c_X2_begin l D cI cZ cR ra rb z f n  s.heap.size) (cwV 1 hts gX5_list_X2_begin rfl rfl rfl (by decide +kernel) ⟨Nat.le_of_ble_eq_true rfl, Nat.le_of_ble_eq_true rfl⟩) hK hN hP hD hS hA 3 2 rfl rfl rfl [3, 4] [0, 1, 2] rfl (by decide) rfl (by decide) (by decide) rfl hl.1 rfl (Nat.le_of_ble_eq_true rfl) dX5_list_38 ⟨Nat.zero_le _, Nat.zero_le _⟩ (fun u H locs hw hP hD hS => ?_)
      obtain ⟨z_38, f_38⟩ := u
      try dsimp only at hw
      obtain ⟨q1_38, q2_38⟩ := hw
      have q1_38 := q1_38.symm
      subst q1_38
      have q2_38 := q2_38.symm
      subst q2_38
      have hP : va_P D vwCl [(x, .inr (5, [.ref r, .ref t, .ref im, .int hi, .ref tx, .ref ch, .ref ro, .ref rf, .ref pl, .ref ot, .ref cl])), (rf, .inl (cI, 6, .inl F)), (ro, .inl (cR, 3, .inr (.inr (.inr (.inr rof))))), (ra, .inr (2, [.int n, .ref rb])), (rb, .inl (cI, 40, .inl (fun _ => 0)))] H := hP.sub [0, 1, 2, 3, 4] rfl
      have hD : va_D A [(x, .inr (5, [.ref r, .ref t, .ref im, .int hi, .ref tx, .ref ch, .ref ro, .ref rf, .ref pl, .ref ot, .ref cl])), (rf, .inl (cI, 6, .inl F)), (ro, .inl (cR, 3, .inr (.inr (.inr (.inr rof))))), (ra, .inr (2, [.int n, .ref rb])), (rb, .inl (cI, 40, .inl (fun _ => 0)))] := hD.sub [0, 1, 2, 3, 4] (by decide) rfl
      refine lv_iconst (v := 1) hx hb dX5_list_41 (by decide) ?_
      exact wrI (w1 := (fun (u : (Nat → Int32) × Int32 × (Nat → Int32)) => [(x, .inr (5, [.ref r, .ref t, .ref im, .int hi, .ref tx, .ref ch, .ref ro, .ref rf, .ref pl, .ref ot, .ref cl])), (rf, .inl (cI, 6, .inl u.1)), (ro, .inl (cR, 3, .inr (.inr (.inr (.inr rof))))), (ra, .inr (2, [.int u.2.1, .ref rb])), (rb, .inl (cI, 40, .inl u.2.2))])) (F, n, (fun _ => 0)) hx hb hr hlocks dX5_list_42 hS (hP.sub [0, 1, 2, 3, 4] rfl) (hD.sub [0, 1, 2, 3, 4] (by decide) rfl) (by have e9 : rf_lis n = 0 := (by simp [rf_lis, c_19, Int32.not_lt.mpr c_19, c_30, Int32.not_lt.mpr c_30]); simp [e9, bmp_11, bmp_13, bmp_14])
    · skip
      refine lv_bipush (v := (-14)) hx hb dX5_list_33 (by decide) ?_
      exact wrI (w1 := (fun (u : (Nat → Int32) × Int32 × (Nat → Int32)) => [(x, .inr (5, [.ref r, .ref t, .ref im, .int hi, .ref tx, .ref ch, .ref ro, .ref rf, .ref pl, .ref ot, .ref cl])), (rf, .inl (cI, 6, .inl u.1)), (ro, .inl (cR, 3, .inr (.inr (.inr (.inr rof))))), (ra, .inr (2, [.int u.2.1, .ref rb])), (rb, .inl (cI, 40, .inl u.2.2))])) (F, z, f) hx hb hr hlocks dX5_list_35 hS (hP.sub [0, 1, 2, 3, 4] rfl) (hD.sub [0, 1, 2, 3, 4] (by decide) rfl) (by have e9 : rf_lis n = -14 := (by simp [rf_lis, c_19, Int32.not_lt.mpr c_19, c_30, Int32.not_le.mp c_30]); simp [e9, bmp_11, bmp_13, bmp_14])
  · skip
    refine lv_aload_n hx hb dX5_list_22 rfl (lv_at hl 1 rfl) ?_
    refine lv_bipush (v := (-6)) hx hb dX5_list_23 (by decide) ?_
    refine wrVi (As := [.int (-6)]) (rest := []) (wr := [(ro, .inl (cR, 3, .inr (.inr (.inr (.inr rof))))), (ra, .inr (2, [.int z, .ref rb])), (rb, .inl (cI, 40, .inl f))]) (A := A) ⟨hx, hb, hml, hown, hts⟩ (c_X5_refuse l D cI cZ cR x r t im tx ch ro rf pl ot cl hi F (-6)  s.heap.size) (cwV 1 hts gX5_list_X5_refuse rfl rfl rfl (by decide +kernel) ⟨Nat.le_of_ble_eq_true rfl, Nat.le_of_ble_eq_true rfl⟩) hK hN hP hD hS hA 0 5 rfl rfl rfl [0, 1] [2, 3, 4] rfl (by decide) rfl (by decide) (by decide) rfl hl.1 rfl (Nat.le_of_ble_eq_true rfl) dX5_list_25 ⟨Nat.zero_le _, Nat.zero_le _⟩ (fun r_25 u H locs hw hP hD hS => ?_)
    obtain ⟨F_25, rfl⟩ : ∃ z, z = u := ⟨_, rfl⟩
    try dsimp only at hw
    obtain ⟨q1_25, q2_25⟩ := hw
    have q1_25 := q1_25.symm
    subst q1_25
    have q2_25 := q2_25.symm
    subst q2_25
    have hP : va_P D vwCl [(x, .inr (5, [.ref r, .ref t, .ref im, .int hi, .ref tx, .ref ch, .ref ro, .ref rf, .ref pl, .ref ot, .ref cl])), (rf, .inl (cI, 6, .inl (rf_bump F (-6)))), (ro, .inl (cR, 3, .inr (.inr (.inr (.inr rof))))), (ra, .inr (2, [.int z, .ref rb])), (rb, .inl (cI, 40, .inl f))] H := hP.sub [3, 4, 0, 1, 2] rfl
    have hD : va_D A [(x, .inr (5, [.ref r, .ref t, .ref im, .int hi, .ref tx, .ref ch, .ref ro, .ref rf, .ref pl, .ref ot, .ref cl])), (rf, .inl (cI, 6, .inl (rf_bump F (-6)))), (ro, .inl (cR, 3, .inr (.inr (.inr (.inr rof))))), (ra, .inr (2, [.int z, .ref rb])), (rb, .inl (cI, 40, .inl f))] := hD.sub [3, 4, 0, 1, 2] (by decide) rfl
    exact wrI (w1 := (fun (u : (Nat → Int32) × Int32 × (Nat → Int32)) => [(x, .inr (5, [.ref r, .ref t, .ref im, .int hi, .ref tx, .ref ch, .ref ro, .ref rf, .ref pl, .ref ot, .ref cl])), (rf, .inl (cI, 6, .inl u.1)), (ro, .inl (cR, 3, .inr (.inr (.inr (.inr rof))))), (ra, .inr (2, [.int u.2.1, .ref rb])), (rb, .inl (cI, 40, .inl u.2.2))])) ((rf_bump F (-6)), z, f) hx hb hr hlocks dX5_list_28 hS (hP.sub [0, 1, 2, 3, 4] rfl) (hD.sub [0, 1, 2, 3, 4] (by decide) rfl) (by have e9 : rf_lis n = -6 := (by simp [rf_lis, c_19, Int32.not_le.mp c_19]); simp [e9, bmp_11, bmp_13, bmp_14])

set_option maxHeartbeats 4000000 in
set_option maxRecDepth 100000 in
theorem c_X5_put (l : Launch) (D : va_G) (cI cZ cR : ClassId) (x r t im tx ch ro rf pl ot cl : Nat) (hi : Int32) (rof : Nat → Option Nat) (li ra rb : Nat) (z : Int32) (f : Nat → Int32) (i x0 : Int32) (hli : li < 3) (hro : rof li = some ra) (sz : Nat) : Met l yX5_put wsX5_put ({ frames := 3, cells := 0, slots := 0, locals := 64 }) (PcW D cI cZ cR [.ref x, .int (nI li), .int i, .int x0] [(x, .inr (5, [.ref r, .ref t, .ref im, .int hi, .ref tx, .ref ch, .ref ro, .ref rf, .ref pl, .ref ot, .ref cl])), (ro, .inl (cR, 3, .inr (.inr (.inr (.inr rof))))), (ra, .inr (2, [.int z, .ref rb])), (rb, .inl (cI, 40, .inl f))] sz) (va_Qi (fun (res : Int32) (u : (Nat → Int32)) => res = (if rf_put z i = 0 then 1 else rf_put z i) ∧ u = (if rf_put z i = 0 then rw_set z f i x0 else f)) (Bw D (fun (u : (Nat → Int32)) => [(x, .inr (5, [.ref r, .ref t, .ref im, .int hi, .ref tx, .ref ch, .ref ro, .ref rf, .ref pl, .ref ot, .ref cl])), (ro, .inl (cR, 3, .inr (.inr (.inr (.inr rof))))), (ra, .inr (2, [.int z, .ref rb])), (rb, .inl (cI, 40, .inl u))]) (va_A [(x, .inr (5, [.ref r, .ref t, .ref im, .int hi, .ref tx, .ref ch, .ref ro, .ref rf, .ref pl, .ref ot, .ref cl])), (ro, .inl (cR, 3, .inr (.inr (.inr (.inr rof))))), (ra, .inr (2, [.int z, .ref rb])), (rb, .inl (cI, 40, .inl f))] sz)) (va_A [(x, .inr (5, [.ref r, .ref t, .ref im, .int hi, .ref tx, .ref ch, .ref ro, .ref rf, .ref pl, .ref ot, .ref cl])), (ro, .inl (cR, 3, .inr (.inr (.inr (.inr rof))))), (ra, .inr (2, [.int z, .ref rb])), (rb, .inl (cI, 40, .inl f))] sz)) 0 0 (va_A [(x, .inr (5, [.ref r, .ref t, .ref im, .int hi, .ref tx, .ref ch, .ref ro, .ref rf, .ref pl, .ref ot, .ref cl])), (ro, .inl (cR, 3, .inr (.inr (.inr (.inr rof))))), (ra, .inr (2, [.int z, .ref rb])), (rb, .inl (cI, 40, .inl f))] sz) := by
  refine Met.ofW (cc := cX5_put) (maxL := 5) (ret := (some .int)) (by decide) rfl ?_
  intro p e s m args below meth c s₁ B hml hv
  obtain ⟨rfl, hsz, hP, hK, hD0, hN⟩ := hv
  have hx := B.exec
  have hb := B.bytes
  have hr := B.returns
  have hts := atoms_spec (ws := wsX5_put) B.pre
  have hown : s.vm.findClass RX5 = some m.cls := findClass_of_methodNamed B.named
  have hlocks := B.notSynchronized
  subst hsz
  have hD := hD0.self (sz := s.heap.size)
  generalize hAe : va_A [(x, .inr (5, [.ref r, .ref t, .ref im, .int hi, .ref tx, .ref ch, .ref ro, .ref rf, .ref pl, .ref ot, .ref cl])), (ro, .inl (cR, 3, .inr (.inr (.inr (.inr rof))))), (ra, .inr (2, [.int z, .ref rb])), (rb, .inl (cI, 40, .inl f))] s.heap.size = A at hD ⊢
  have hA : ∀ q : Nat, s.heap.size ≤ q → A q := fun q h => by rw [← hAe]; exact Or.inr h
  have hS : va_S A s.heap s.heap [] := va_S.rf
  have hP : va_P D vwCl [(x, .inr (5, [.ref r, .ref t, .ref im, .int hi, .ref tx, .ref ch, .ref ro, .ref rf, .ref pl, .ref ot, .ref cl])), (ro, .inl (cR, 3, .inr (.inr (.inr (.inr rof))))), (ra, .inr (2, [.int z, .ref rb])), (rb, .inl (cI, 40, .inl f))] s.heap := hP
  have hl := lv_entry ([.ref x, .int (nI li), .int i, .int x0]) (n := 5) (Nat.le_of_ble_eq_true rfl)
  rw [lg_entry_eq]
  generalize (lg_sl ([.ref x, .int (nI li), .int i, .int x0]) ++ List.replicate (5 - (lg_sl ([.ref x, .int (nI li), .int i, .int x0])).length) Slot.unset).toArray = ls at hl ⊢
  have hl : lv_has ls 5 [(0, .ref x), (1, .int (nI li)), (2, .int i), (3, .int x0)] := hl
  refine lv_aload_n hx hb dX5_put_0 rfl (lv_at hl 0 rfl) ?_
  refine lv_iload_n hx hb dX5_put_1 rfl (lv_at hl 1 rfl) ?_
  refine rdV (As := [.int (nI li)]) (rest := []) ⟨hx, hb, hml, hown, hts⟩ (c_X5_rowOf l D cI cZ cR x r t im tx ch ro rf pl ot cl hi rof li ra hli hro) (cwV 1 hts gX5_put_X5_rowOf rfl rfl rfl (by decide +kernel) ⟨Nat.le_of_ble_eq_true rfl, Nat.le_of_ble_eq_true rfl⟩) hK hN hP 0 5 rfl rfl rfl [0, 1] rfl rfl hl.1 rfl (Nat.le_of_ble_eq_true rfl) dX5_put_2 ⟨Nat.zero_le _, Nat.zero_le _⟩ ?_
  refine lv_astore (lv' := [(4, .ref ra), (0, .ref x), (1, .int (nI li)), (2, .int i), (3, .int x0)]) hx hb dX5_put_5 hl (by decide) rfl (fun ls hl => ?_)
  refine lv_aload hx hb dX5_put_7 (lv_at hl 0 rfl) ?_
  refine lv_ifnonnull (tgt := 18) hx hb dX5_put_9 (by decide) ?_
  refine lv_aload hx hb dX5_put_18 (lv_at hl 0 rfl) ?_
  refine rdV (As := []) (rest := []) ⟨hx, hb, hml, hown, hts⟩ (c_X2_isMissing l D cI cZ cR ra rb z f ) (cwV 0 hts gX5_put_X2_isMissing rfl rfl rfl (by decide +kernel) ⟨Nat.le_of_ble_eq_true rfl, Nat.le_of_ble_eq_true rfl⟩) hK hN hP 2 2 rfl rfl rfl [2, 3] rfl rfl hl.1 rfl (Nat.le_of_ble_eq_true rfl) dX5_put_20 ⟨Nat.zero_le _, Nat.zero_le _⟩ ?_
  refine lv_if_eq (tgt := 29) hx hb dX5_put_23 (by decide) (fun c_23 => ?_) (fun c_23 => ?_)
  · skip
    have c_23 := bi_eq0.mp c_23
    refine lv_aload hx hb dX5_put_29 (lv_at hl 0 rfl) ?_
    refine lv_iload_n hx hb dX5_put_31 rfl (lv_at hl 3 rfl) ?_
    refine rdV (As := [.int i]) (rest := []) ⟨hx, hb, hml, hown, hts⟩ (c_X2_hasPlace l D cI cZ cR ra rb z f i ) (cwV 1 hts gX5_put_X2_hasPlace rfl rfl rfl (by decide +kernel) ⟨Nat.le_of_ble_eq_true rfl, Nat.le_of_ble_eq_true rfl⟩) hK hN hP 2 2 rfl rfl rfl [2, 3] rfl rfl hl.1 rfl (Nat.le_of_ble_eq_true rfl) dX5_put_32 ⟨Nat.zero_le _, Nat.zero_le _⟩ ?_
    refine lv_if_ne (tgt := 41) hx hb dX5_put_35 (by decide) (fun c_35 => ?_) (fun c_35 => ?_)
    · skip
      have c_35 := bi_ne0.mp c_35
      refine lv_aload hx hb dX5_put_41 (lv_at hl 0 rfl) ?_
      refine lv_iload_n hx hb dX5_put_43 rfl (lv_at hl 3 rfl) ?_
      refine lv_iload_n hx hb dX5_put_44 rfl (lv_at hl 4 rfl) ?_
      refine wrVv (As := [.int i, .int x0]) (rest := []) (wr := [(x, .inr (5, [.ref r, .ref t, .ref im, .int hi, .ref tx, .ref ch, .ref ro, .ref rf, .ref pl, .ref ot, .ref cl])), (ro, .inl (cR, 3, .inr (.inr (.inr (.inr rof)))))]) (A := A) ⟨hx, hb, hml, hown, hts⟩ (c_X2_set l D cI cZ cR ra rb z f i x0  s.heap.size) (cwV 2 hts gX5_put_X2_set rfl rfl rfl (by decide +kernel) ⟨Nat.le_of_ble_eq_true rfl, Nat.le_of_ble_eq_true rfl⟩) hK hN hP hD hS hA 2 2 rfl rfl rfl [2, 3] [0, 1] rfl (by decide) rfl (by decide) (by decide) rfl hl.1 rfl (Nat.le_of_ble_eq_true rfl) dX5_put_45 ⟨Nat.zero_le _, Nat.zero_le _⟩ (fun u H locs hw hP hD hS => ?_)
      obtain ⟨f_45, rfl⟩ : ∃ z, z = u := ⟨_, rfl⟩
      try dsimp only at hw
      have q1_45 := hw
      have q1_45 := q1_45.symm
      subst q1_45
      have hP : va_P D vwCl [(x, .inr (5, [.ref r, .ref t, .ref im, .int hi, .ref tx, .ref ch, .ref ro, .ref rf, .ref pl, .ref ot, .ref cl])), (ro, .inl (cR, 3, .inr (.inr (.inr (.inr rof))))), (ra, .inr (2, [.int z, .ref rb])), (rb, .inl (cI, 40, .inl (rw_set z f i x0)))] H := hP.sub [0, 1, 2, 3] rfl
      have hD : va_D A [(x, .inr (5, [.ref r, .ref t, .ref im, .int hi, .ref tx, .ref ch, .ref ro, .ref rf, .ref pl, .ref ot, .ref cl])), (ro, .inl (cR, 3, .inr (.inr (.inr (.inr rof))))), (ra, .inr (2, [.int z, .ref rb])), (rb, .inl (cI, 40, .inl (rw_set z f i x0)))] := hD.sub [0, 1, 2, 3] (by decide) rfl
      refine lv_iconst (v := 1) hx hb dX5_put_48 (by decide) ?_
      exact wrI (w1 := (fun (u : (Nat → Int32)) => [(x, .inr (5, [.ref r, .ref t, .ref im, .int hi, .ref tx, .ref ch, .ref ro, .ref rf, .ref pl, .ref ot, .ref cl])), (ro, .inl (cR, 3, .inr (.inr (.inr (.inr rof))))), (ra, .inr (2, [.int z, .ref rb])), (rb, .inl (cI, 40, .inl u))])) (rw_set z f i x0) hx hb hr hlocks dX5_put_49 hS (hP.sub [0, 1, 2, 3] rfl) (hD.sub [0, 1, 2, 3] (by decide) rfl) (by have e9 : rf_put z i = 0 := (by unfold rf_put; rw [if_neg c_23, if_pos c_35]); simp [e9])
    · skip
      have c_35 := bi_eq0.mp c_35
      refine lv_bipush (v := (-13)) hx hb dX5_put_38 (by decide) ?_
      exact wrI (w1 := (fun (u : (Nat → Int32)) => [(x, .inr (5, [.ref r, .ref t, .ref im, .int hi, .ref tx, .ref ch, .ref ro, .ref rf, .ref pl, .ref ot, .ref cl])), (ro, .inl (cR, 3, .inr (.inr (.inr (.inr rof))))), (ra, .inr (2, [.int z, .ref rb])), (rb, .inl (cI, 40, .inl u))])) f hx hb hr hlocks dX5_put_40 hS (hP.sub [0, 1, 2, 3] rfl) (hD.sub [0, 1, 2, 3] (by decide) rfl) (by have e9 : rf_put z i = -13 := (by unfold rf_put; rw [if_neg c_23, if_neg c_35]); simp [e9])
  · skip
    have c_23 := bi_ne0.mp c_23
    refine lv_bipush (v := (-11)) hx hb dX5_put_26 (by decide) ?_
    exact wrI (w1 := (fun (u : (Nat → Int32)) => [(x, .inr (5, [.ref r, .ref t, .ref im, .int hi, .ref tx, .ref ch, .ref ro, .ref rf, .ref pl, .ref ot, .ref cl])), (ro, .inl (cR, 3, .inr (.inr (.inr (.inr rof))))), (ra, .inr (2, [.int z, .ref rb])), (rb, .inl (cI, 40, .inl u))])) f hx hb hr hlocks dX5_put_28 hS (hP.sub [0, 1, 2, 3] rfl) (hD.sub [0, 1, 2, 3] (by decide) rfl) (by have e9 : rf_put z i = -11 := (by unfold rf_put; rw [if_pos c_23]); simp [e9])

set_option maxHeartbeats 4000000 in
set_option maxRecDepth 100000 in
theorem c_X5_look (l : Launch) (D : va_G) (cI cZ cR : ClassId) (x r t im tx ch ro rf pl ot cl : Nat) (hi : Int32) (rof : Nat → Option Nat) (li ra rb : Nat) (z : Int32) (f : Nat → Int32) (i : Int32) (hli : li < 3) (hro : rof li = some ra) : Met l yX5_look wsX5_look ({ frames := 3, cells := 0, slots := 0, locals := 63 }) (PcR D cI cZ cR [.ref x, .int (nI li), .int i] [(x, .inr (5, [.ref r, .ref t, .ref im, .int hi, .ref tx, .ref ch, .ref ro, .ref rf, .ref pl, .ref ot, .ref cl])), (ro, .inl (cR, 3, .inr (.inr (.inr (.inr rof))))), (ra, .inr (2, [.int z, .ref rb])), (rb, .inl (cI, 40, .inl f))]) (k2_QcV (.long (if rf_put z i = 0 then (rw_get z f i).toInt64 else 4000000000000000000 - (rf_put z i).toInt64))) 0 0 (fun _ => False) := by
  refine Met.ofW (cc := cX5_look) (maxL := 4) (ret := (some .long)) (by decide) rfl ?_
  intro p e s m args below meth c s₁ B hml hv
  obtain ⟨rfl, hP, hK, hN⟩ := hv
  have hx := B.exec
  have hb := B.bytes
  have hr := B.returns
  have hts := atoms_spec (ws := wsX5_look) B.pre
  have hown : s.vm.findClass RX5 = some m.cls := findClass_of_methodNamed B.named
  have hlocks := B.notSynchronized
  have hP : va_P D vwCl [(x, .inr (5, [.ref r, .ref t, .ref im, .int hi, .ref tx, .ref ch, .ref ro, .ref rf, .ref pl, .ref ot, .ref cl])), (ro, .inl (cR, 3, .inr (.inr (.inr (.inr rof))))), (ra, .inr (2, [.int z, .ref rb])), (rb, .inl (cI, 40, .inl f))] s.heap := hP
  have hl := lv_entry ([.ref x, .int (nI li), .int i]) (n := 4) (Nat.le_of_ble_eq_true rfl)
  rw [lg_entry_eq]
  generalize (lg_sl ([.ref x, .int (nI li), .int i]) ++ List.replicate (4 - (lg_sl ([.ref x, .int (nI li), .int i])).length) Slot.unset).toArray = ls at hl ⊢
  have hl : lv_has ls 4 [(0, .ref x), (1, .int (nI li)), (2, .int i)] := hl
  refine lv_aload_n hx hb dX5_look_0 rfl (lv_at hl 0 rfl) ?_
  refine lv_iload_n hx hb dX5_look_1 rfl (lv_at hl 1 rfl) ?_
  refine rdV (As := [.int (nI li)]) (rest := []) ⟨hx, hb, hml, hown, hts⟩ (c_X5_rowOf l D cI cZ cR x r t im tx ch ro rf pl ot cl hi rof li ra hli hro) (cwV 1 hts gX5_look_X5_rowOf rfl rfl rfl (by decide +kernel) ⟨Nat.le_of_ble_eq_true rfl, Nat.le_of_ble_eq_true rfl⟩) hK hN hP 0 5 rfl rfl rfl [0, 1] rfl rfl hl.1 rfl (Nat.le_of_ble_eq_true rfl) dX5_look_2 ⟨Nat.zero_le _, Nat.zero_le _⟩ ?_
  refine lv_astore_n (lv' := [(3, .ref ra), (0, .ref x), (1, .int (nI li)), (2, .int i)]) hx hb dX5_look_5 rfl hl (by decide) rfl (fun ls hl => ?_)
  refine lv_aload_n hx hb dX5_look_6 rfl (lv_at hl 0 rfl) ?_
  refine lv_ifnonnull (tgt := 16) hx hb dX5_look_7 (by decide) ?_
  refine lv_aload_n hx hb dX5_look_16 rfl (lv_at hl 0 rfl) ?_
  refine rdV (As := []) (rest := []) ⟨hx, hb, hml, hown, hts⟩ (c_X2_isMissing l D cI cZ cR ra rb z f ) (cwV 0 hts gX5_look_X2_isMissing rfl rfl rfl (by decide +kernel) ⟨Nat.le_of_ble_eq_true rfl, Nat.le_of_ble_eq_true rfl⟩) hK hN hP 2 2 rfl rfl rfl [2, 3] rfl rfl hl.1 rfl (Nat.le_of_ble_eq_true rfl) dX5_look_17 ⟨Nat.zero_le _, Nat.zero_le _⟩ ?_
  refine lv_if_eq (tgt := 27) hx hb dX5_look_20 (by decide) (fun c_20 => ?_) (fun c_20 => ?_)
  · skip
    have c_20 := bi_eq0.mp c_20
    refine lv_aload_n hx hb dX5_look_27 rfl (lv_at hl 0 rfl) ?_
    refine lv_iload_n hx hb dX5_look_28 rfl (lv_at hl 3 rfl) ?_
    refine rdV (As := [.int i]) (rest := []) ⟨hx, hb, hml, hown, hts⟩ (c_X2_hasPlace l D cI cZ cR ra rb z f i ) (cwV 1 hts gX5_look_X2_hasPlace rfl rfl rfl (by decide +kernel) ⟨Nat.le_of_ble_eq_true rfl, Nat.le_of_ble_eq_true rfl⟩) hK hN hP 2 2 rfl rfl rfl [2, 3] rfl rfl hl.1 rfl (Nat.le_of_ble_eq_true rfl) dX5_look_29 ⟨Nat.zero_le _, Nat.zero_le _⟩ ?_
    refine lv_if_ne (tgt := 39) hx hb dX5_look_32 (by decide) (fun c_32 => ?_) (fun c_32 => ?_)
    · skip
      have c_32 := bi_ne0.mp c_32
      refine lv_aload_n hx hb dX5_look_39 rfl (lv_at hl 0 rfl) ?_
      refine lv_iload_n hx hb dX5_look_40 rfl (lv_at hl 3 rfl) ?_
      refine rdV (As := [.int i]) (rest := []) ⟨hx, hb, hml, hown, hts⟩ (c_X2_get l D cI cZ cR ra rb z f i ) (cwV 1 hts gX5_look_X2_get rfl rfl rfl (by decide +kernel) ⟨Nat.le_of_ble_eq_true rfl, Nat.le_of_ble_eq_true rfl⟩) hK hN hP 2 2 rfl rfl rfl [2, 3] rfl rfl hl.1 rfl (Nat.le_of_ble_eq_true rfl) dX5_look_41 ⟨Nat.zero_le _, Nat.zero_le _⟩ ?_
      refine lv_i2l hx hb dX5_look_44 rfl ?_
      exact rdL hx hb hr hlocks dX5_look_45 (by have e9 : rf_put z i = 0 := (by unfold rf_put; rw [if_neg c_20, if_pos c_32]); rw [e9]; rfl)
    · skip
      have c_32 := bi_eq0.mp c_32
      refine lv_ldc2 (v := 4000000000000000013) hx hb hown (hts (.constantLong RX5 259 4000000000000000013) (by decide +kernel)) dX5_look_35 ?_
      exact rdL hx hb hr hlocks dX5_look_38 (by have e9 : rf_put z i = -13 := (by unfold rf_put; rw [if_neg c_20, if_neg c_32]); rw [e9]; rfl)
  · skip
    have c_20 := bi_ne0.mp c_20
    refine lv_ldc2 (v := 4000000000000000011) hx hb hown (hts (.constantLong RX5 257 4000000000000000011) (by decide +kernel)) dX5_look_23 ?_
    exact rdL hx hb hr hlocks dX5_look_26 (by have e9 : rf_put z i = -11 := (by unfold rf_put; rw [if_pos c_20]); rw [e9]; rfl)

set_option maxHeartbeats 4000000 in
set_option maxRecDepth 100000 in
theorem c_X5_lays (l : Launch) (D : va_G) (cI cZ cR : ClassId) (x r t im tx ch ro rf pl ot cl : Nat) (hi : Int32) (F : Nat → Int32) (rn : Nat) (q nw : Int32) (v : Nat → Int32) (rof : Nat → Option Nat) (li ra rb : Nat) (z : Int32) (f : Nat → Int32) (i w : Int32) (hli : li < 3) (hro : rof li = some ra) (hz : z ≤ 40) (sz : Nat) : Met l yX5_lays wsX5_lays ({ frames := 4, cells := 0, slots := 0, locals := 98 }) (PcW D cI cZ cR [.ref x, .int (nI li), .int i, .int w] [(x, .inr (5, [.ref r, .ref t, .ref im, .int hi, .ref tx, .ref ch, .ref ro, .ref rf, .ref pl, .ref ot, .ref cl])), (rf, .inl (cI, 6, .inl F)), (r, .inr (1, [.int q, .int nw, .ref rn])), (rn, .inl (cI, 20, .inl v)), (ro, .inl (cR, 3, .inr (.inr (.inr (.inr rof))))), (ra, .inr (2, [.int z, .ref rb])), (rb, .inl (cI, 40, .inl f))] sz) (va_Qi (fun (res : Int32) (u : (Nat → Int32) × (Nat → Int32)) => res = (if rf_lay nw w z i = 0 then z - i else rf_lay nw w z i) ∧ u.1 = (if rf_lay nw w z i = 0 then F else rf_bump F (rf_lay nw w z i)) ∧ u.2 = (if rf_lay nw w z i = 0 then fb_put f (plK q v w) i.toNatClampNeg (z.toNatClampNeg - i.toNatClampNeg) else f)) (Bw D (fun (u : (Nat → Int32) × (Nat → Int32)) => [(x, .inr (5, [.ref r, .ref t, .ref im, .int hi, .ref tx, .ref ch, .ref ro, .ref rf, .ref pl, .ref ot, .ref cl])), (rf, .inl (cI, 6, .inl u.1)), (r, .inr (1, [.int q, .int nw, .ref rn])), (rn, .inl (cI, 20, .inl v)), (ro, .inl (cR, 3, .inr (.inr (.inr (.inr rof))))), (ra, .inr (2, [.int z, .ref rb])), (rb, .inl (cI, 40, .inl u.2))]) (va_A [(x, .inr (5, [.ref r, .ref t, .ref im, .int hi, .ref tx, .ref ch, .ref ro, .ref rf, .ref pl, .ref ot, .ref cl])), (rf, .inl (cI, 6, .inl F)), (r, .inr (1, [.int q, .int nw, .ref rn])), (rn, .inl (cI, 20, .inl v)), (ro, .inl (cR, 3, .inr (.inr (.inr (.inr rof))))), (ra, .inr (2, [.int z, .ref rb])), (rb, .inl (cI, 40, .inl f))] sz)) (va_A [(x, .inr (5, [.ref r, .ref t, .ref im, .int hi, .ref tx, .ref ch, .ref ro, .ref rf, .ref pl, .ref ot, .ref cl])), (rf, .inl (cI, 6, .inl F)), (r, .inr (1, [.int q, .int nw, .ref rn])), (rn, .inl (cI, 20, .inl v)), (ro, .inl (cR, 3, .inr (.inr (.inr (.inr rof))))), (ra, .inr (2, [.int z, .ref rb])), (rb, .inl (cI, 40, .inl f))] sz)) 0 0 (va_A [(x, .inr (5, [.ref r, .ref t, .ref im, .int hi, .ref tx, .ref ch, .ref ro, .ref rf, .ref pl, .ref ot, .ref cl])), (rf, .inl (cI, 6, .inl F)), (r, .inr (1, [.int q, .int nw, .ref rn])), (rn, .inl (cI, 20, .inl v)), (ro, .inl (cR, 3, .inr (.inr (.inr (.inr rof))))), (ra, .inr (2, [.int z, .ref rb])), (rb, .inl (cI, 40, .inl f))] sz) := by
  refine Met.ofW (cc := cX5_lays) (maxL := 6) (ret := (some .int)) (by decide) rfl ?_
  intro p e s m args below meth c s₁ B hml hv
  obtain ⟨rfl, hsz, hP, hK, hD0, hN⟩ := hv
  have hx := B.exec
  have hb := B.bytes
  have hr := B.returns
  have hts := atoms_spec (ws := wsX5_lays) B.pre
  have hown : s.vm.findClass RX5 = some m.cls := findClass_of_methodNamed B.named
  have hlocks := B.notSynchronized
  subst hsz
  have hD := hD0.self (sz := s.heap.size)
  generalize hAe : va_A [(x, .inr (5, [.ref r, .ref t, .ref im, .int hi, .ref tx, .ref ch, .ref ro, .ref rf, .ref pl, .ref ot, .ref cl])), (rf, .inl (cI, 6, .inl F)), (r, .inr (1, [.int q, .int nw, .ref rn])), (rn, .inl (cI, 20, .inl v)), (ro, .inl (cR, 3, .inr (.inr (.inr (.inr rof))))), (ra, .inr (2, [.int z, .ref rb])), (rb, .inl (cI, 40, .inl f))] s.heap.size = A at hD ⊢
  have hA : ∀ q : Nat, s.heap.size ≤ q → A q := fun q h => by rw [← hAe]; exact Or.inr h
  have hS : va_S A s.heap s.heap [] := va_S.rf
  have hP : va_P D vwCl [(x, .inr (5, [.ref r, .ref t, .ref im, .int hi, .ref tx, .ref ch, .ref ro, .ref rf, .ref pl, .ref ot, .ref cl])), (rf, .inl (cI, 6, .inl F)), (r, .inr (1, [.int q, .int nw, .ref rn])), (rn, .inl (cI, 20, .inl v)), (ro, .inl (cR, 3, .inr (.inr (.inr (.inr rof))))), (ra, .inr (2, [.int z, .ref rb])), (rb, .inl (cI, 40, .inl f))] s.heap := hP
  have hl := lv_entry ([.ref x, .int (nI li), .int i, .int w]) (n := 6) (Nat.le_of_ble_eq_true rfl)
  rw [lg_entry_eq]
  generalize (lg_sl ([.ref x, .int (nI li), .int i, .int w]) ++ List.replicate (6 - (lg_sl ([.ref x, .int (nI li), .int i, .int w])).length) Slot.unset).toArray = ls at hl ⊢
  have hl : lv_has ls 6 [(0, .ref x), (1, .int (nI li)), (2, .int i), (3, .int w)] := hl
  have hz4 := z40 hz
  refine lv_aload_n hx hb dX5_lays_0 rfl (lv_at hl 0 rfl) ?_
  refine lv_iload_n hx hb dX5_lays_1 rfl (lv_at hl 1 rfl) ?_
  refine rdV (As := [.int (nI li)]) (rest := []) ⟨hx, hb, hml, hown, hts⟩ (c_X5_rowOf l D cI cZ cR x r t im tx ch ro rf pl ot cl hi rof li ra hli hro) (cwV 1 hts gX5_lays_X5_rowOf rfl rfl rfl (by decide +kernel) ⟨Nat.le_of_ble_eq_true rfl, Nat.le_of_ble_eq_true rfl⟩) hK hN hP 0 5 rfl rfl rfl [0, 4] rfl rfl hl.1 rfl (Nat.le_of_ble_eq_true rfl) dX5_lays_2 ⟨Nat.zero_le _, Nat.zero_le _⟩ ?_
  refine lv_astore (lv' := [(4, .ref ra), (0, .ref x), (1, .int (nI li)), (2, .int i), (3, .int w)]) hx hb dX5_lays_5 hl (by decide) rfl (fun ls hl => ?_)
  refine lv_aload hx hb dX5_lays_7 (lv_at hl 0 rfl) ?_
  refine lv_ifnull hx hb dX5_lays_9 ?_
  refine lv_aload_n hx hb dX5_lays_12 rfl (lv_at hl 1 rfl) ?_
  refine va_get (D := D) (ci := 5) (v := .ref r) (C := RX5) (T := TX5) (N := 11) hx hb hts (in_X5_lays_X5) hown hK hP 0 rfl rfl 0 (by decide) (hts (.fieldLink RX5 10 "StepsRoundCircle" "ring" "LStepsRoundCircle$Ring;") (by decide +kernel)) (fun _ h9 => h9) rfl dX5_lays_13 ?_
  refine lv_iload_n hx hb dX5_lays_16 rfl (lv_at hl 4 rfl) ?_
  refine rdV (As := [.int w]) (rest := []) ⟨hx, hb, hml, hown, hts⟩ (c_X1_has l D cI cZ cR r rn q nw v w ) (cwV 1 hts gX5_lays_X1_has rfl rfl rfl (by decide +kernel) ⟨Nat.le_of_ble_eq_true rfl, Nat.le_of_ble_eq_true rfl⟩) hK hN hP 2 1 rfl rfl rfl [2, 3] rfl rfl hl.1 rfl (Nat.le_of_ble_eq_true rfl) dX5_lays_17 ⟨Nat.zero_le _, Nat.zero_le _⟩ ?_
  refine lv_if_ne (tgt := 29) hx hb dX5_lays_20 (by decide) (fun c_20 => ?_) (fun c_20 => ?_)
  · skip
    have c_20 := bi_ne0.mp c_20
    refine lv_aload hx hb dX5_lays_29 (lv_at hl 0 rfl) ?_
    refine rdV (As := []) (rest := []) ⟨hx, hb, hml, hown, hts⟩ (c_X2_isMissing l D cI cZ cR ra rb z f ) (cwV 0 hts gX5_lays_X2_isMissing rfl rfl rfl (by decide +kernel) ⟨Nat.le_of_ble_eq_true rfl, Nat.le_of_ble_eq_true rfl⟩) hK hN hP 5 2 rfl rfl rfl [5, 6] rfl rfl hl.1 rfl (Nat.le_of_ble_eq_true rfl) dX5_lays_31 ⟨Nat.zero_le _, Nat.zero_le _⟩ ?_
    refine lv_if_eq (tgt := 40) hx hb dX5_lays_34 (by decide) (fun c_34 => ?_) (fun c_34 => ?_)
    · skip
      have c_34 := bi_eq0.mp c_34
      refine lv_aload hx hb dX5_lays_40 (lv_at hl 0 rfl) ?_
      refine lv_iload_n hx hb dX5_lays_42 rfl (lv_at hl 3 rfl) ?_
      refine rdV (As := [.int i]) (rest := []) ⟨hx, hb, hml, hown, hts⟩ (c_X2_hasPlace l D cI cZ cR ra rb z f i ) (cwV 1 hts gX5_lays_X2_hasPlace rfl rfl rfl (by decide +kernel) ⟨Nat.le_of_ble_eq_true rfl, Nat.le_of_ble_eq_true rfl⟩) hK hN hP 5 2 rfl rfl rfl [5, 6] rfl rfl hl.1 rfl (Nat.le_of_ble_eq_true rfl) dX5_lays_43 ⟨Nat.zero_le _, Nat.zero_le _⟩ ?_
      refine lv_if_ne (tgt := 52) hx hb dX5_lays_46 (by decide) (fun c_46 => ?_) (fun c_46 => ?_)
      · skip
        have c_46 := bi_ne0.mp c_46
        have eR : rf_lay nw w z i = 0 := by unfold rf_lay; rw [if_neg (fun z9 => z9 c_20), if_neg c_34, if_pos c_46]
        have hiN9 := rw_has_N c_46
        have hP : va_P D vwCl [(x, .inr (5, [.ref r, .ref t, .ref im, .int hi, .ref tx, .ref ch, .ref ro, .ref rf, .ref pl, .ref ot, .ref cl])), (rf, .inl (cI, 6, .inl F)), (r, .inr (1, [.int q, .int nw, .ref rn])), (rn, .inl (cI, 20, .inl v)), (ro, .inl (cR, 3, .inr (.inr (.inr (.inr rof))))), (ra, .inr (2, [.int z, .ref rb])), (rb, .inl (cI, 40, .inl (fb_put f (plK q v w) i.toNatClampNeg 0)))] s.heap := P_cg hP 6 (fb_put f (plK q v w) i.toNatClampNeg 0) rfl (fun j hj => by rw [fb_put_0])
        have hD : va_D A [(x, .inr (5, [.ref r, .ref t, .ref im, .int hi, .ref tx, .ref ch, .ref ro, .ref rf, .ref pl, .ref ot, .ref cl])), (rf, .inl (cI, 6, .inl F)), (r, .inr (1, [.int q, .int nw, .ref rn])), (rn, .inl (cI, 20, .inl v)), (ro, .inl (cR, 3, .inr (.inr (.inr (.inr rof))))), (ra, .inr (2, [.int z, .ref rb])), (rb, .inl (cI, 40, .inl (fb_put f (plK q v w) i.toNatClampNeg 0)))] := D_cg hD 6 _ rfl
        refine lv_iload_n hx hb dX5_lays_52 rfl (lv_at hl 3 rfl) ?_
        refine lv_istore (lv' := [(5, .int i), (4, .ref ra), (0, .ref x), (1, .int (nI li)), (2, .int i), (3, .int w)]) hx hb dX5_lays_53 hl (by decide) rfl (fun ls hl => ?_)
        have loop_55 : ∀ (fuel : Nat), ∀ (t9 : Nat), (i.toNatClampNeg + t9 ≤ z.toNatClampNeg) → (z.toNatClampNeg + 1 ≤ i.toNatClampNeg + t9 + fuel) → ∀ (y5 : Int32), y5 = nI (i.toNatClampNeg + t9) → ∀ (H : Heap) (locs : List Loc), va_P D vwCl [(x, .inr (5, [.ref r, .ref t, .ref im, .int hi, .ref tx, .ref ch, .ref ro, .ref rf, .ref pl, .ref ot, .ref cl])), (rf, .inl (cI, 6, .inl F)), (r, .inr (1, [.int q, .int nw, .ref rn])), (rn, .inl (cI, 20, .inl v)), (ro, .inl (cR, 3, .inr (.inr (.inr (.inr rof))))), (ra, .inr (2, [.int z, .ref rb])), (rb, .inl (cI, 40, .inl (fb_put f (plK q v w) i.toNatClampNeg t9)))] H → va_D A [(x, .inr (5, [.ref r, .ref t, .ref im, .int hi, .ref tx, .ref ch, .ref ro, .ref rf, .ref pl, .ref ot, .ref cl])), (rf, .inl (cI, 6, .inl F)), (r, .inr (1, [.int q, .int nw, .ref rn])), (rn, .inl (cI, 20, .inl v)), (ro, .inl (cR, 3, .inr (.inr (.inr (.inr rof))))), (ra, .inr (2, [.int z, .ref rb])), (rb, .inl (cI, 40, .inl (fb_put f (plK q v w) i.toNatClampNeg t9)))] → va_S A s.heap H locs → ∀ (ls : Array Slot), lv_has ls 6 [(5, .int y5), (0, .ref x), (1, .int (nI li)), (2, .int i), (3, .int w), (4, .ref ra)] → W p l e (headSpec wsX5_lays ({ frames := 4, cells := 0, slots := 0, locals := 98 })).room s m ([.ref x, .int (nI li), .int i, .int w] : List Value).toArray below meth c H locs 0 0 (MQ below (va_Qi (fun (res : Int32) (u : (Nat → Int32) × (Nat → Int32)) => res = (if rf_lay nw w z i = 0 then z - i else rf_lay nw w z i) ∧ u.1 = (if rf_lay nw w z i = 0 then F else rf_bump F (rf_lay nw w z i)) ∧ u.2 = (if rf_lay nw w z i = 0 then fb_put f (plK q v w) i.toNatClampNeg (z.toNatClampNeg - i.toNatClampNeg) else f)) (Bw D (fun (u : (Nat → Int32) × (Nat → Int32)) => [(x, .inr (5, [.ref r, .ref t, .ref im, .int hi, .ref tx, .ref ch, .ref ro, .ref rf, .ref pl, .ref ot, .ref cl])), (rf, .inl (cI, 6, .inl u.1)), (r, .inr (1, [.int q, .int nw, .ref rn])), (rn, .inl (cI, 20, .inl v)), (ro, .inl (cR, 3, .inr (.inr (.inr (.inr rof))))), (ra, .inr (2, [.int z, .ref rb])), (rb, .inl (cI, 40, .inl u.2))]) A) A) ([.ref x, .int (nI li), .int i, .int w] : List Value).toArray s 0 0 A) (F0 m 55 ls []) := by
          intro fuel
          induction fuel with
          | zero =>
            intro t9 hi9 hfu
            exact False.elim (by omega)
          | succ fuel ih_55 =>
            intro t9 hi9 hfu y5 ey5 H locs hP hD hS ls hl
            subst ey5
            refine lv_iload hx hb dX5_lays_55 (lv_at hl 0 rfl) ?_
            refine lv_aload hx hb dX5_lays_57 (lv_at hl 5 rfl) ?_
            refine va_get (D := D) (ci := 2) (v := .int z) (C := RX2) (T := TX2) (N := 2) hx hb hts (in_X5_lays_X2) hown hK hP 5 rfl rfl 0 (by decide) (hts (.fieldLink RX5 262 "StepsRoundCircle$Row" "size" "I") (by decide +kernel)) (fun _ h9 => h9) rfl dX5_lays_59 ?_
            refine lv_icmp_ge (tgt := 90) hx hb dX5_lays_62 (by decide) (fun c_62 => ?_) (fun c_62 => ?_)
            · skip
              have hend : t9 = z.toNatClampNeg - i.toNatClampNeg := by have := (le_clamp (by omega)).mp c_62; omega
              refine lv_aload hx hb dX5_lays_90 (lv_at hl 5 rfl) ?_
              refine va_get (D := D) (ci := 2) (v := .int z) (C := RX2) (T := TX2) (N := 2) hx hb hts (in_X5_lays_X2) hown hK hP 5 rfl rfl 0 (by decide) (hts (.fieldLink RX5 262 "StepsRoundCircle$Row" "size" "I") (by decide +kernel)) (fun _ h9 => h9) rfl dX5_lays_92 ?_
              refine lv_iload_n hx hb dX5_lays_95 rfl (lv_at hl 3 rfl) ?_
              refine lv_isub hx hb dX5_lays_96 ?_
              exact wrI (w1 := (fun (u : (Nat → Int32) × (Nat → Int32)) => [(x, .inr (5, [.ref r, .ref t, .ref im, .int hi, .ref tx, .ref ch, .ref ro, .ref rf, .ref pl, .ref ot, .ref cl])), (rf, .inl (cI, 6, .inl u.1)), (r, .inr (1, [.int q, .int nw, .ref rn])), (rn, .inl (cI, 20, .inl v)), (ro, .inl (cR, 3, .inr (.inr (.inr (.inr rof))))), (ra, .inr (2, [.int z, .ref rb])), (rb, .inl (cI, 40, .inl u.2))])) (F, (fb_put f (plK q v w) i.toNatClampNeg t9)) hx hb hr hlocks dX5_lays_97 hS (hP.sub [0, 1, 2, 3, 4, 5, 6] rfl) (hD.sub [0, 1, 2, 3, 4, 5, 6] (by decide) rfl) (by rw [if_pos eR, if_pos eR, if_pos eR, hend]; exact ⟨rfl, rfl, rfl⟩)
            · skip
              have htN : i.toNatClampNeg + t9 < z.toNatClampNeg := (lt_clamp (by omega)).mp (Int32.not_le.mp c_62)
              refine lv_aload hx hb dX5_lays_65 (lv_at hl 5 rfl) ?_
              refine lv_iload hx hb dX5_lays_67 (lv_at hl 0 rfl) ?_
              refine lv_aload_n hx hb dX5_lays_69 rfl (lv_at hl 1 rfl) ?_
              refine va_get (D := D) (ci := 5) (v := .ref r) (C := RX5) (T := TX5) (N := 11) hx hb hts (in_X5_lays_X5) hown hK hP 0 rfl rfl 0 (by decide) (hts (.fieldLink RX5 10 "StepsRoundCircle" "ring" "LStepsRoundCircle$Ring;") (by decide +kernel)) (fun _ h9 => h9) rfl dX5_lays_70 ?_
              refine lv_iload_n hx hb dX5_lays_73 rfl (lv_at hl 4 rfl) ?_
              refine lv_iload hx hb dX5_lays_74 (lv_at hl 0 rfl) ?_
              refine lv_iload_n hx hb dX5_lays_76 rfl (lv_at hl 3 rfl) ?_
              refine lv_isub hx hb dX5_lays_77 ?_
              refine lv_topi (fun z_78 hz_78 => ?_)
              have hz_78 : z_78 = nI t9 := hz_78.trans (by have e9 := pk_sub (a := i.toNatClampNeg + t9) (b := i.toNatClampNeg) (by omega); rw [← hiN9.1] at e9; rw [e9]; congr 1; omega)
              subst hz_78
              refine rdV (As := [.int w, .int (nI t9)]) (rest := [.int (nI (i.toNatClampNeg + t9)), .ref ra]) ⟨hx, hb, hml, hown, hts⟩ (c_X1_placeOf l D cI cZ cR r rn q nw v w (nI t9) ) (cwV 2 hts gX5_lays_X1_placeOf rfl rfl rfl (by decide +kernel) ⟨Nat.le_of_ble_eq_true rfl, Nat.le_of_ble_eq_true rfl⟩) hK hN hP 2 1 rfl rfl rfl [2, 3] rfl rfl hl.1 rfl (Nat.le_of_ble_eq_true rfl) dX5_lays_78 ⟨Nat.zero_le _, Nat.zero_le _⟩ ?_
              refine lv_topi (fun z_81 hz_81 => ?_)
              have hz_81 : z_81 = plK q v w t9 := hz_81.trans rfl
              subst hz_81
              refine wrVv (As := [.int (nI (i.toNatClampNeg + t9)), .int (plK q v w t9)]) (rest := []) (wr := [(x, .inr (5, [.ref r, .ref t, .ref im, .int hi, .ref tx, .ref ch, .ref ro, .ref rf, .ref pl, .ref ot, .ref cl])), (rf, .inl (cI, 6, .inl F)), (r, .inr (1, [.int q, .int nw, .ref rn])), (rn, .inl (cI, 20, .inl v)), (ro, .inl (cR, 3, .inr (.inr (.inr (.inr rof)))))]) (A := A) ⟨hx, hb, hml, hown, hts⟩ (c_X2_set l D cI cZ cR ra rb z (fb_put f (plK q v w) i.toNatClampNeg t9) (nI (i.toNatClampNeg + t9)) (plK q v w t9)  H.size) (cwV 2 hts gX5_lays_X2_set rfl rfl rfl (by decide +kernel) ⟨Nat.le_of_ble_eq_true rfl, Nat.le_of_ble_eq_true rfl⟩) hK hN hP hD hS hA 5 2 rfl rfl rfl [5, 6] [0, 1, 2, 3, 4] rfl (by decide) rfl (by decide) (by decide) rfl hl.1 rfl (Nat.le_of_ble_eq_true rfl) dX5_lays_81 ⟨Nat.zero_le _, Nat.zero_le _⟩ (fun u H locs hw hP hD hS => ?_)
              obtain ⟨f_81, rfl⟩ : ∃ z, z = u := ⟨_, rfl⟩
              try dsimp only at hw
              have q1_81 := hw
              have q1_81 := q1_81.symm
              subst q1_81
              have hP : va_P D vwCl [(x, .inr (5, [.ref r, .ref t, .ref im, .int hi, .ref tx, .ref ch, .ref ro, .ref rf, .ref pl, .ref ot, .ref cl])), (rf, .inl (cI, 6, .inl F)), (r, .inr (1, [.int q, .int nw, .ref rn])), (rn, .inl (cI, 20, .inl v)), (ro, .inl (cR, 3, .inr (.inr (.inr (.inr rof))))), (ra, .inr (2, [.int z, .ref rb])), (rb, .inl (cI, 40, .inl (rw_set z (fb_put f (plK q v w) i.toNatClampNeg t9) (nI (i.toNatClampNeg + t9)) (plK q v w t9))))] H := hP.sub [0, 1, 2, 3, 4, 5, 6] rfl
              have hD : va_D A [(x, .inr (5, [.ref r, .ref t, .ref im, .int hi, .ref tx, .ref ch, .ref ro, .ref rf, .ref pl, .ref ot, .ref cl])), (rf, .inl (cI, 6, .inl F)), (r, .inr (1, [.int q, .int nw, .ref rn])), (rn, .inl (cI, 20, .inl v)), (ro, .inl (cR, 3, .inr (.inr (.inr (.inr rof))))), (ra, .inr (2, [.int z, .ref rb])), (rb, .inl (cI, 40, .inl (rw_set z (fb_put f (plK q v w) i.toNatClampNeg t9) (nI (i.toNatClampNeg + t9)) (plK q v w t9))))] := hD.sub [0, 1, 2, 3, 4, 5, 6] (by decide) rfl
              have hP : va_P D vwCl [(x, .inr (5, [.ref r, .ref t, .ref im, .int hi, .ref tx, .ref ch, .ref ro, .ref rf, .ref pl, .ref ot, .ref cl])), (rf, .inl (cI, 6, .inl F)), (r, .inr (1, [.int q, .int nw, .ref rn])), (rn, .inl (cI, 20, .inl v)), (ro, .inl (cR, 3, .inr (.inr (.inr (.inr rof))))), (ra, .inr (2, [.int z, .ref rb])), (rb, .inl (cI, 40, .inl (fb_put f (plK q v w) i.toNatClampNeg (t9 + 1))))] H := P_cg hP 6 (fb_put f (plK q v w) i.toNatClampNeg (t9 + 1)) rfl (fun j hj => by rw [rw_setN hz htN, fb_put_succ])
              have hD : va_D A [(x, .inr (5, [.ref r, .ref t, .ref im, .int hi, .ref tx, .ref ch, .ref ro, .ref rf, .ref pl, .ref ot, .ref cl])), (rf, .inl (cI, 6, .inl F)), (r, .inr (1, [.int q, .int nw, .ref rn])), (rn, .inl (cI, 20, .inl v)), (ro, .inl (cR, 3, .inr (.inr (.inr (.inr rof))))), (ra, .inr (2, [.int z, .ref rb])), (rb, .inl (cI, 40, .inl (fb_put f (plK q v w) i.toNatClampNeg (t9 + 1))))] := D_cg hD 6 _ rfl
              refine lv_iinc (v := (nI (i.toNatClampNeg + t9)) + 1) (lv' := [(5, .int ((nI (i.toNatClampNeg + t9)) + 1)), (0, .ref x), (1, .int (nI li)), (2, .int i), (3, .int w), (4, .ref ra)]) hx hb dX5_lays_84 hl (k := 0) rfl (by rfl) (by decide) rfl (fun ls hl => ?_)
              refine lv_goto (tgt := 55) hx hb dX5_lays_87 (by decide) ?_
              exact ih_55 (t9 + 1) (by omega) (by omega) _ (nI_1 _) _ _ (hP.sub [0, 1, 2, 3, 4, 5, 6] rfl) (hD.sub [0, 1, 2, 3, 4, 5, 6] (by decide) rfl) hS ls (lv_sub hl [0, 1, 2, 3, 4, 5] rfl)
        exact loop_55 (z.toNatClampNeg + 1) 0 (by omega) (by omega) _ hiN9.1 _ _ (hP.sub [0, 1, 2, 3, 4, 5, 6] rfl) (hD.sub [0, 1, 2, 3, 4, 5, 6] (by decide) rfl) hS ls (lv_sub hl [0, 2, 3, 4, 5, 1] rfl)
      · skip
        have c_46 := bi_eq0.mp c_46
        refine lv_bipush (v := (-13)) hx hb dX5_lays_49 (by decide) ?_
        exact wrI (w1 := (fun (u : (Nat → Int32) × (Nat → Int32)) => [(x, .inr (5, [.ref r, .ref t, .ref im, .int hi, .ref tx, .ref ch, .ref ro, .ref rf, .ref pl, .ref ot, .ref cl])), (rf, .inl (cI, 6, .inl u.1)), (r, .inr (1, [.int q, .int nw, .ref rn])), (rn, .inl (cI, 20, .inl v)), (ro, .inl (cR, 3, .inr (.inr (.inr (.inr rof))))), (ra, .inr (2, [.int z, .ref rb])), (rb, .inl (cI, 40, .inl u.2))])) (F, f) hx hb hr hlocks dX5_lays_51 hS (hP.sub [0, 1, 2, 3, 4, 5, 6] rfl) (hD.sub [0, 1, 2, 3, 4, 5, 6] (by decide) rfl) (by have e9 : rf_lay nw w z i = -13 := (by unfold rf_lay; rw [if_neg (fun z9 => z9 c_20), if_neg c_34, if_neg c_46]); simp [e9, bmp_13])
    · skip
      have c_34 := bi_ne0.mp c_34
      refine lv_bipush (v := (-11)) hx hb dX5_lays_37 (by decide) ?_
      exact wrI (w1 := (fun (u : (Nat → Int32) × (Nat → Int32)) => [(x, .inr (5, [.ref r, .ref t, .ref im, .int hi, .ref tx, .ref ch, .ref ro, .ref rf, .ref pl, .ref ot, .ref cl])), (rf, .inl (cI, 6, .inl u.1)), (r, .inr (1, [.int q, .int nw, .ref rn])), (rn, .inl (cI, 20, .inl v)), (ro, .inl (cR, 3, .inr (.inr (.inr (.inr rof))))), (ra, .inr (2, [.int z, .ref rb])), (rb, .inl (cI, 40, .inl u.2))])) (F, f) hx hb hr hlocks dX5_lays_39 hS (hP.sub [0, 1, 2, 3, 4, 5, 6] rfl) (hD.sub [0, 1, 2, 3, 4, 5, 6] (by decide) rfl) (by have e9 : rf_lay nw w z i = -11 := (by unfold rf_lay; rw [if_neg (fun z9 => z9 c_20), if_pos c_34]); simp [e9, bmp_11])
  · skip
    have c_20 := bi_eq0.mp c_20
    refine lv_aload_n hx hb dX5_lays_23 rfl (lv_at hl 1 rfl) ?_
    refine lv_iconst (v := (-1)) hx hb dX5_lays_24 (by decide) ?_
    refine wrVi (As := [.int (-1)]) (rest := []) (wr := [(r, .inr (1, [.int q, .int nw, .ref rn])), (rn, .inl (cI, 20, .inl v)), (ro, .inl (cR, 3, .inr (.inr (.inr (.inr rof))))), (ra, .inr (2, [.int z, .ref rb])), (rb, .inl (cI, 40, .inl f))]) (A := A) ⟨hx, hb, hml, hown, hts⟩ (c_X5_refuse l D cI cZ cR x r t im tx ch ro rf pl ot cl hi F (-1)  s.heap.size) (cwV 1 hts gX5_lays_X5_refuse rfl rfl rfl (by decide +kernel) ⟨Nat.le_of_ble_eq_true rfl, Nat.le_of_ble_eq_true rfl⟩) hK hN hP hD hS hA 0 5 rfl rfl rfl [0, 1] [2, 3, 4, 5, 6] rfl (by decide) rfl (by decide) (by decide) rfl hl.1 rfl (Nat.le_of_ble_eq_true rfl) dX5_lays_25 ⟨Nat.zero_le _, Nat.zero_le _⟩ (fun r_25 u H locs hw hP hD hS => ?_)
    obtain ⟨F_25, rfl⟩ : ∃ z, z = u := ⟨_, rfl⟩
    try dsimp only at hw
    obtain ⟨q1_25, q2_25⟩ := hw
    have q1_25 := q1_25.symm
    subst q1_25
    have q2_25 := q2_25.symm
    subst q2_25
    have hP : va_P D vwCl [(x, .inr (5, [.ref r, .ref t, .ref im, .int hi, .ref tx, .ref ch, .ref ro, .ref rf, .ref pl, .ref ot, .ref cl])), (rf, .inl (cI, 6, .inl (rf_bump F (-1)))), (r, .inr (1, [.int q, .int nw, .ref rn])), (rn, .inl (cI, 20, .inl v)), (ro, .inl (cR, 3, .inr (.inr (.inr (.inr rof))))), (ra, .inr (2, [.int z, .ref rb])), (rb, .inl (cI, 40, .inl f))] H := hP.sub [5, 6, 0, 1, 2, 3, 4] rfl
    have hD : va_D A [(x, .inr (5, [.ref r, .ref t, .ref im, .int hi, .ref tx, .ref ch, .ref ro, .ref rf, .ref pl, .ref ot, .ref cl])), (rf, .inl (cI, 6, .inl (rf_bump F (-1)))), (r, .inr (1, [.int q, .int nw, .ref rn])), (rn, .inl (cI, 20, .inl v)), (ro, .inl (cR, 3, .inr (.inr (.inr (.inr rof))))), (ra, .inr (2, [.int z, .ref rb])), (rb, .inl (cI, 40, .inl f))] := hD.sub [5, 6, 0, 1, 2, 3, 4] (by decide) rfl
    exact wrI (w1 := (fun (u : (Nat → Int32) × (Nat → Int32)) => [(x, .inr (5, [.ref r, .ref t, .ref im, .int hi, .ref tx, .ref ch, .ref ro, .ref rf, .ref pl, .ref ot, .ref cl])), (rf, .inl (cI, 6, .inl u.1)), (r, .inr (1, [.int q, .int nw, .ref rn])), (rn, .inl (cI, 20, .inl v)), (ro, .inl (cR, 3, .inr (.inr (.inr (.inr rof))))), (ra, .inr (2, [.int z, .ref rb])), (rb, .inl (cI, 40, .inl u.2))])) ((rf_bump F (-1)), f) hx hb hr hlocks dX5_lays_28 hS (hP.sub [0, 1, 2, 3, 4, 5, 6] rfl) (hD.sub [0, 1, 2, 3, 4, 5, 6] (by decide) rfl) (by have e9 : rf_lay nw w z i = -1 := (by unfold rf_lay; rw [if_pos c_20]); simp [e9])

set_option maxHeartbeats 4000000 in
set_option maxRecDepth 100000 in
theorem c_X5_judge (l : Launch) (D : va_G) (cI cZ cR : ClassId) (x r t im tx ch ro rf pl ot cl : Nat) (hi : Int32) (F : Nat → Int32) (rn : Nat) (q nw : Int32) (v : Nat → Int32) (rof : Nat → Option Nat) (li ra rb : Nat) (z : Int32) (f : Nat → Int32) (w : Int32) (hli : li < 3) (hro : rof li = some ra) (hz : z ≤ 40) (sz : Nat) : Met l yX5_judge wsX5_judge ({ frames := 4, cells := 0, slots := 0, locals := 100 }) (PcW D cI cZ cR [.ref x, .int (nI li), .int w] [(x, .inr (5, [.ref r, .ref t, .ref im, .int hi, .ref tx, .ref ch, .ref ro, .ref rf, .ref pl, .ref ot, .ref cl])), (rf, .inl (cI, 6, .inl F)), (r, .inr (1, [.int q, .int nw, .ref rn])), (rn, .inl (cI, 20, .inl v)), (ro, .inl (cR, 3, .inr (.inr (.inr (.inr rof))))), (ra, .inr (2, [.int z, .ref rb])), (rb, .inl (cI, 40, .inl f))] sz) (va_Qi (fun (res : Int32) (u : (Nat → Int32)) => res = (if rf_jud nw w z = 0 then ffk (foP q v (rg_val v w 0) w f) 0 z.toNatClampNeg else rf_jud nw w z) ∧ u = (if rf_jud nw w z = 0 then F else rf_bump F (rf_jud nw w z))) (Bw D (fun (u : (Nat → Int32)) => [(x, .inr (5, [.ref r, .ref t, .ref im, .int hi, .ref tx, .ref ch, .ref ro, .ref rf, .ref pl, .ref ot, .ref cl])), (rf, .inl (cI, 6, .inl u)), (r, .inr (1, [.int q, .int nw, .ref rn])), (rn, .inl (cI, 20, .inl v)), (ro, .inl (cR, 3, .inr (.inr (.inr (.inr rof))))), (ra, .inr (2, [.int z, .ref rb])), (rb, .inl (cI, 40, .inl f))]) (va_A [(x, .inr (5, [.ref r, .ref t, .ref im, .int hi, .ref tx, .ref ch, .ref ro, .ref rf, .ref pl, .ref ot, .ref cl])), (rf, .inl (cI, 6, .inl F)), (r, .inr (1, [.int q, .int nw, .ref rn])), (rn, .inl (cI, 20, .inl v)), (ro, .inl (cR, 3, .inr (.inr (.inr (.inr rof))))), (ra, .inr (2, [.int z, .ref rb])), (rb, .inl (cI, 40, .inl f))] sz)) (va_A [(x, .inr (5, [.ref r, .ref t, .ref im, .int hi, .ref tx, .ref ch, .ref ro, .ref rf, .ref pl, .ref ot, .ref cl])), (rf, .inl (cI, 6, .inl F)), (r, .inr (1, [.int q, .int nw, .ref rn])), (rn, .inl (cI, 20, .inl v)), (ro, .inl (cR, 3, .inr (.inr (.inr (.inr rof))))), (ra, .inr (2, [.int z, .ref rb])), (rb, .inl (cI, 40, .inl f))] sz)) 0 0 (va_A [(x, .inr (5, [.ref r, .ref t, .ref im, .int hi, .ref tx, .ref ch, .ref ro, .ref rf, .ref pl, .ref ot, .ref cl])), (rf, .inl (cI, 6, .inl F)), (r, .inr (1, [.int q, .int nw, .ref rn])), (rn, .inl (cI, 20, .inl v)), (ro, .inl (cR, 3, .inr (.inr (.inr (.inr rof))))), (ra, .inr (2, [.int z, .ref rb])), (rb, .inl (cI, 40, .inl f))] sz) := by
  refine Met.ofW (cc := cX5_judge) (maxL := 4) (ret := (some .int)) (by decide) rfl ?_
  intro p e s m args below meth c s₁ B hml hv
  obtain ⟨rfl, hsz, hP, hK, hD0, hN⟩ := hv
  have hx := B.exec
  have hb := B.bytes
  have hr := B.returns
  have hts := atoms_spec (ws := wsX5_judge) B.pre
  have hown : s.vm.findClass RX5 = some m.cls := findClass_of_methodNamed B.named
  have hlocks := B.notSynchronized
  subst hsz
  have hD := hD0.self (sz := s.heap.size)
  generalize hAe : va_A [(x, .inr (5, [.ref r, .ref t, .ref im, .int hi, .ref tx, .ref ch, .ref ro, .ref rf, .ref pl, .ref ot, .ref cl])), (rf, .inl (cI, 6, .inl F)), (r, .inr (1, [.int q, .int nw, .ref rn])), (rn, .inl (cI, 20, .inl v)), (ro, .inl (cR, 3, .inr (.inr (.inr (.inr rof))))), (ra, .inr (2, [.int z, .ref rb])), (rb, .inl (cI, 40, .inl f))] s.heap.size = A at hD ⊢
  have hA : ∀ q : Nat, s.heap.size ≤ q → A q := fun q h => by rw [← hAe]; exact Or.inr h
  have hS : va_S A s.heap s.heap [] := va_S.rf
  have hP : va_P D vwCl [(x, .inr (5, [.ref r, .ref t, .ref im, .int hi, .ref tx, .ref ch, .ref ro, .ref rf, .ref pl, .ref ot, .ref cl])), (rf, .inl (cI, 6, .inl F)), (r, .inr (1, [.int q, .int nw, .ref rn])), (rn, .inl (cI, 20, .inl v)), (ro, .inl (cR, 3, .inr (.inr (.inr (.inr rof))))), (ra, .inr (2, [.int z, .ref rb])), (rb, .inl (cI, 40, .inl f))] s.heap := hP
  have hl := lv_entry ([.ref x, .int (nI li), .int w]) (n := 4) (Nat.le_of_ble_eq_true rfl)
  rw [lg_entry_eq]
  generalize (lg_sl ([.ref x, .int (nI li), .int w]) ++ List.replicate (4 - (lg_sl ([.ref x, .int (nI li), .int w])).length) Slot.unset).toArray = ls at hl ⊢
  have hl : lv_has ls 4 [(0, .ref x), (1, .int (nI li)), (2, .int w)] := hl
  refine lv_aload_n hx hb dX5_judge_0 rfl (lv_at hl 0 rfl) ?_
  refine lv_iload_n hx hb dX5_judge_1 rfl (lv_at hl 1 rfl) ?_
  refine rdV (As := [.int (nI li)]) (rest := []) ⟨hx, hb, hml, hown, hts⟩ (c_X5_rowOf l D cI cZ cR x r t im tx ch ro rf pl ot cl hi rof li ra hli hro) (cwV 1 hts gX5_judge_X5_rowOf rfl rfl rfl (by decide +kernel) ⟨Nat.le_of_ble_eq_true rfl, Nat.le_of_ble_eq_true rfl⟩) hK hN hP 0 5 rfl rfl rfl [0, 4] rfl rfl hl.1 rfl (Nat.le_of_ble_eq_true rfl) dX5_judge_2 ⟨Nat.zero_le _, Nat.zero_le _⟩ ?_
  refine lv_astore_n (lv' := [(3, .ref ra), (0, .ref x), (1, .int (nI li)), (2, .int w)]) hx hb dX5_judge_5 rfl hl (by decide) rfl (fun ls hl => ?_)
  refine lv_aload_n hx hb dX5_judge_6 rfl (lv_at hl 0 rfl) ?_
  refine lv_ifnull hx hb dX5_judge_7 ?_
  refine lv_aload_n hx hb dX5_judge_10 rfl (lv_at hl 1 rfl) ?_
  refine va_get (D := D) (ci := 5) (v := .ref r) (C := RX5) (T := TX5) (N := 11) hx hb hts (in_X5_judge_X5) hown hK hP 0 rfl rfl 0 (by decide) (hts (.fieldLink RX5 10 "StepsRoundCircle" "ring" "LStepsRoundCircle$Ring;") (by decide +kernel)) (fun _ h9 => h9) rfl dX5_judge_11 ?_
  refine lv_iload_n hx hb dX5_judge_14 rfl (lv_at hl 3 rfl) ?_
  refine rdV (As := [.int w]) (rest := []) ⟨hx, hb, hml, hown, hts⟩ (c_X1_has l D cI cZ cR r rn q nw v w ) (cwV 1 hts gX5_judge_X1_has rfl rfl rfl (by decide +kernel) ⟨Nat.le_of_ble_eq_true rfl, Nat.le_of_ble_eq_true rfl⟩) hK hN hP 2 1 rfl rfl rfl [2, 3] rfl rfl hl.1 rfl (Nat.le_of_ble_eq_true rfl) dX5_judge_15 ⟨Nat.zero_le _, Nat.zero_le _⟩ ?_
  refine lv_if_ne (tgt := 27) hx hb dX5_judge_18 (by decide) (fun c_18 => ?_) (fun c_18 => ?_)
  · skip
    have c_18 := bi_ne0.mp c_18
    refine lv_aload_n hx hb dX5_judge_27 rfl (lv_at hl 0 rfl) ?_
    refine rdV (As := []) (rest := []) ⟨hx, hb, hml, hown, hts⟩ (c_X2_isMissing l D cI cZ cR ra rb z f ) (cwV 0 hts gX5_judge_X2_isMissing rfl rfl rfl (by decide +kernel) ⟨Nat.le_of_ble_eq_true rfl, Nat.le_of_ble_eq_true rfl⟩) hK hN hP 5 2 rfl rfl rfl [5, 6] rfl rfl hl.1 rfl (Nat.le_of_ble_eq_true rfl) dX5_judge_28 ⟨Nat.zero_le _, Nat.zero_le _⟩ ?_
    refine lv_if_eq (tgt := 37) hx hb dX5_judge_31 (by decide) (fun c_31 => ?_) (fun c_31 => ?_)
    · skip
      have c_31 := bi_eq0.mp c_31
      refine lv_aload_n hx hb dX5_judge_37 rfl (lv_at hl 1 rfl) ?_
      refine lv_aload_n hx hb dX5_judge_38 rfl (lv_at hl 0 rfl) ?_
      refine lv_iload_n hx hb dX5_judge_39 rfl (lv_at hl 3 rfl) ?_
      refine lv_aload_n hx hb dX5_judge_40 rfl (lv_at hl 1 rfl) ?_
      refine va_get (D := D) (ci := 5) (v := .ref r) (C := RX5) (T := TX5) (N := 11) hx hb hts (in_X5_judge_X5) hown hK hP 0 rfl rfl 0 (by decide) (hts (.fieldLink RX5 10 "StepsRoundCircle" "ring" "LStepsRoundCircle$Ring;") (by decide +kernel)) (fun _ h9 => h9) rfl dX5_judge_41 ?_
      refine lv_iload_n hx hb dX5_judge_44 rfl (lv_at hl 3 rfl) ?_
      refine lv_iconst (v := 0) hx hb dX5_judge_45 (by decide) ?_
      refine rdV (As := [.int w, .int 0]) (rest := [.int w, .ref ra, .ref x]) ⟨hx, hb, hml, hown, hts⟩ (c_X1_value l D cI cZ cR r rn q nw v w 0 ) (cwV 2 hts gX5_judge_X1_value rfl rfl rfl (by decide +kernel) ⟨Nat.le_of_ble_eq_true rfl, Nat.le_of_ble_eq_true rfl⟩) hK hN hP 2 1 rfl rfl rfl [2, 3] rfl rfl hl.1 rfl (Nat.le_of_ble_eq_true rfl) dX5_judge_46 ⟨Nat.zero_le _, Nat.zero_le _⟩ ?_
      refine rdV (As := [.ref ra, .int w, .int (rg_val v w 0)]) (rest := []) ⟨hx, hb, hml, hown, hts⟩ (c_X5_firstOtherwise l D cI cZ cR x r t im tx ch ro rf pl ot cl hi rn q nw v ra rb z f w (rg_val v w 0) hz) (cwV 3 hts gX5_judge_X5_firstOtherwise rfl rfl rfl (by decide +kernel) ⟨Nat.le_of_ble_eq_true rfl, Nat.le_of_ble_eq_true rfl⟩) hK hN hP 0 5 rfl rfl rfl [0, 2, 3, 5, 6] rfl rfl hl.1 rfl (Nat.le_of_ble_eq_true rfl) dX5_judge_49 ⟨Nat.zero_le _, Nat.zero_le _⟩ ?_
      exact wrI (w1 := (fun (u : (Nat → Int32)) => [(x, .inr (5, [.ref r, .ref t, .ref im, .int hi, .ref tx, .ref ch, .ref ro, .ref rf, .ref pl, .ref ot, .ref cl])), (rf, .inl (cI, 6, .inl u)), (r, .inr (1, [.int q, .int nw, .ref rn])), (rn, .inl (cI, 20, .inl v)), (ro, .inl (cR, 3, .inr (.inr (.inr (.inr rof))))), (ra, .inr (2, [.int z, .ref rb])), (rb, .inl (cI, 40, .inl f))])) F hx hb hr hlocks dX5_judge_52 hS (hP.sub [0, 1, 2, 3, 4, 5, 6] rfl) (hD.sub [0, 1, 2, 3, 4, 5, 6] (by decide) rfl) (by have e9 : rf_jud nw w z = 0 := (by unfold rf_jud; rw [if_neg (fun z9 => z9 c_18), if_neg c_31]); rw [if_pos e9, if_pos e9]; exact ⟨rfl, rfl⟩)
    · skip
      have c_31 := bi_ne0.mp c_31
      refine lv_bipush (v := (-11)) hx hb dX5_judge_34 (by decide) ?_
      exact wrI (w1 := (fun (u : (Nat → Int32)) => [(x, .inr (5, [.ref r, .ref t, .ref im, .int hi, .ref tx, .ref ch, .ref ro, .ref rf, .ref pl, .ref ot, .ref cl])), (rf, .inl (cI, 6, .inl u)), (r, .inr (1, [.int q, .int nw, .ref rn])), (rn, .inl (cI, 20, .inl v)), (ro, .inl (cR, 3, .inr (.inr (.inr (.inr rof))))), (ra, .inr (2, [.int z, .ref rb])), (rb, .inl (cI, 40, .inl f))])) F hx hb hr hlocks dX5_judge_36 hS (hP.sub [0, 1, 2, 3, 4, 5, 6] rfl) (hD.sub [0, 1, 2, 3, 4, 5, 6] (by decide) rfl) (by have e9 : rf_jud nw w z = -11 := (by unfold rf_jud; rw [if_neg (fun z9 => z9 c_18), if_pos c_31]); simp [e9, bmp_11])
  · skip
    have c_18 := bi_eq0.mp c_18
    refine lv_aload_n hx hb dX5_judge_21 rfl (lv_at hl 1 rfl) ?_
    refine lv_iconst (v := (-1)) hx hb dX5_judge_22 (by decide) ?_
    refine wrVi (As := [.int (-1)]) (rest := []) (wr := [(r, .inr (1, [.int q, .int nw, .ref rn])), (rn, .inl (cI, 20, .inl v)), (ro, .inl (cR, 3, .inr (.inr (.inr (.inr rof))))), (ra, .inr (2, [.int z, .ref rb])), (rb, .inl (cI, 40, .inl f))]) (A := A) ⟨hx, hb, hml, hown, hts⟩ (c_X5_refuse l D cI cZ cR x r t im tx ch ro rf pl ot cl hi F (-1)  s.heap.size) (cwV 1 hts gX5_judge_X5_refuse rfl rfl rfl (by decide +kernel) ⟨Nat.le_of_ble_eq_true rfl, Nat.le_of_ble_eq_true rfl⟩) hK hN hP hD hS hA 0 5 rfl rfl rfl [0, 1] [2, 3, 4, 5, 6] rfl (by decide) rfl (by decide) (by decide) rfl hl.1 rfl (Nat.le_of_ble_eq_true rfl) dX5_judge_23 ⟨Nat.zero_le _, Nat.zero_le _⟩ (fun r_23 u H locs hw hP hD hS => ?_)
    obtain ⟨F_23, rfl⟩ : ∃ z, z = u := ⟨_, rfl⟩
    try dsimp only at hw
    obtain ⟨q1_23, q2_23⟩ := hw
    have q1_23 := q1_23.symm
    subst q1_23
    have q2_23 := q2_23.symm
    subst q2_23
    have hP : va_P D vwCl [(x, .inr (5, [.ref r, .ref t, .ref im, .int hi, .ref tx, .ref ch, .ref ro, .ref rf, .ref pl, .ref ot, .ref cl])), (rf, .inl (cI, 6, .inl (rf_bump F (-1)))), (r, .inr (1, [.int q, .int nw, .ref rn])), (rn, .inl (cI, 20, .inl v)), (ro, .inl (cR, 3, .inr (.inr (.inr (.inr rof))))), (ra, .inr (2, [.int z, .ref rb])), (rb, .inl (cI, 40, .inl f))] H := hP.sub [5, 6, 0, 1, 2, 3, 4] rfl
    have hD : va_D A [(x, .inr (5, [.ref r, .ref t, .ref im, .int hi, .ref tx, .ref ch, .ref ro, .ref rf, .ref pl, .ref ot, .ref cl])), (rf, .inl (cI, 6, .inl (rf_bump F (-1)))), (r, .inr (1, [.int q, .int nw, .ref rn])), (rn, .inl (cI, 20, .inl v)), (ro, .inl (cR, 3, .inr (.inr (.inr (.inr rof))))), (ra, .inr (2, [.int z, .ref rb])), (rb, .inl (cI, 40, .inl f))] := hD.sub [5, 6, 0, 1, 2, 3, 4] (by decide) rfl
    exact wrI (w1 := (fun (u : (Nat → Int32)) => [(x, .inr (5, [.ref r, .ref t, .ref im, .int hi, .ref tx, .ref ch, .ref ro, .ref rf, .ref pl, .ref ot, .ref cl])), (rf, .inl (cI, 6, .inl u)), (r, .inr (1, [.int q, .int nw, .ref rn])), (rn, .inl (cI, 20, .inl v)), (ro, .inl (cR, 3, .inr (.inr (.inr (.inr rof))))), (ra, .inr (2, [.int z, .ref rb])), (rb, .inl (cI, 40, .inl f))])) (rf_bump F (-1)) hx hb hr hlocks dX5_judge_26 hS (hP.sub [0, 1, 2, 3, 4, 5, 6] rfl) (hD.sub [0, 1, 2, 3, 4, 5, 6] (by decide) rfl) (by have e9 : rf_jud nw w z = -1 := (by unfold rf_jud; rw [if_pos c_18]); simp [e9])

set_option maxHeartbeats 4000000 in
set_option maxRecDepth 100000 in
theorem c_X5_steps (l : Launch) (D : va_G) (cI cZ cR : ClassId) (x r t im tx ch ro rf pl ot cl : Nat) (hi : Int32) (F : Nat → Int32) (rn : Nat) (q nw : Int32) (v : Nat → Int32) (rof : Nat → Option Nat) (li ra rb : Nat) (z : Int32) (f : Nat → Int32) (k : Int32) (hli : li < 3) (hro : rof li = some ra) (hz : z ≤ 40) (sz : Nat) : Met l yX5_steps wsX5_steps ({ frames := 4, cells := 0, slots := 0, locals := 86 }) (PcW D cI cZ cR [.ref x, .int (nI li), .int k] [(x, .inr (5, [.ref r, .ref t, .ref im, .int hi, .ref tx, .ref ch, .ref ro, .ref rf, .ref pl, .ref ot, .ref cl])), (rf, .inl (cI, 6, .inl F)), (r, .inr (1, [.int q, .int nw, .ref rn])), (rn, .inl (cI, 20, .inl v)), (ro, .inl (cR, 3, .inr (.inr (.inr (.inr rof))))), (ra, .inr (2, [.int z, .ref rb])), (rb, .inl (cI, 40, .inl f))] sz) (va_Qi (fun (res : Int32) (u : (Nat → Int32)) => res = (if rf_ste q z f k = 0 then steA q z f k else rf_ste q z f k) ∧ u = (if rf_ste q z f k = 0 then F else rf_bump F (rf_ste q z f k))) (Bw D (fun (u : (Nat → Int32)) => [(x, .inr (5, [.ref r, .ref t, .ref im, .int hi, .ref tx, .ref ch, .ref ro, .ref rf, .ref pl, .ref ot, .ref cl])), (rf, .inl (cI, 6, .inl u)), (r, .inr (1, [.int q, .int nw, .ref rn])), (rn, .inl (cI, 20, .inl v)), (ro, .inl (cR, 3, .inr (.inr (.inr (.inr rof))))), (ra, .inr (2, [.int z, .ref rb])), (rb, .inl (cI, 40, .inl f))]) (va_A [(x, .inr (5, [.ref r, .ref t, .ref im, .int hi, .ref tx, .ref ch, .ref ro, .ref rf, .ref pl, .ref ot, .ref cl])), (rf, .inl (cI, 6, .inl F)), (r, .inr (1, [.int q, .int nw, .ref rn])), (rn, .inl (cI, 20, .inl v)), (ro, .inl (cR, 3, .inr (.inr (.inr (.inr rof))))), (ra, .inr (2, [.int z, .ref rb])), (rb, .inl (cI, 40, .inl f))] sz)) (va_A [(x, .inr (5, [.ref r, .ref t, .ref im, .int hi, .ref tx, .ref ch, .ref ro, .ref rf, .ref pl, .ref ot, .ref cl])), (rf, .inl (cI, 6, .inl F)), (r, .inr (1, [.int q, .int nw, .ref rn])), (rn, .inl (cI, 20, .inl v)), (ro, .inl (cR, 3, .inr (.inr (.inr (.inr rof))))), (ra, .inr (2, [.int z, .ref rb])), (rb, .inl (cI, 40, .inl f))] sz)) 0 0 (va_A [(x, .inr (5, [.ref r, .ref t, .ref im, .int hi, .ref tx, .ref ch, .ref ro, .ref rf, .ref pl, .ref ot, .ref cl])), (rf, .inl (cI, 6, .inl F)), (r, .inr (1, [.int q, .int nw, .ref rn])), (rn, .inl (cI, 20, .inl v)), (ro, .inl (cR, 3, .inr (.inr (.inr (.inr rof))))), (ra, .inr (2, [.int z, .ref rb])), (rb, .inl (cI, 40, .inl f))] sz) := by
  refine Met.ofW (cc := cX5_steps) (maxL := 5) (ret := (some .int)) (by decide) rfl ?_
  intro p e s m args below meth c s₁ B hml hv
  obtain ⟨rfl, hsz, hP, hK, hD0, hN⟩ := hv
  have hx := B.exec
  have hb := B.bytes
  have hr := B.returns
  have hts := atoms_spec (ws := wsX5_steps) B.pre
  have hown : s.vm.findClass RX5 = some m.cls := findClass_of_methodNamed B.named
  have hlocks := B.notSynchronized
  subst hsz
  have hD := hD0.self (sz := s.heap.size)
  generalize hAe : va_A [(x, .inr (5, [.ref r, .ref t, .ref im, .int hi, .ref tx, .ref ch, .ref ro, .ref rf, .ref pl, .ref ot, .ref cl])), (rf, .inl (cI, 6, .inl F)), (r, .inr (1, [.int q, .int nw, .ref rn])), (rn, .inl (cI, 20, .inl v)), (ro, .inl (cR, 3, .inr (.inr (.inr (.inr rof))))), (ra, .inr (2, [.int z, .ref rb])), (rb, .inl (cI, 40, .inl f))] s.heap.size = A at hD ⊢
  have hA : ∀ q : Nat, s.heap.size ≤ q → A q := fun q h => by rw [← hAe]; exact Or.inr h
  have hS : va_S A s.heap s.heap [] := va_S.rf
  have hP : va_P D vwCl [(x, .inr (5, [.ref r, .ref t, .ref im, .int hi, .ref tx, .ref ch, .ref ro, .ref rf, .ref pl, .ref ot, .ref cl])), (rf, .inl (cI, 6, .inl F)), (r, .inr (1, [.int q, .int nw, .ref rn])), (rn, .inl (cI, 20, .inl v)), (ro, .inl (cR, 3, .inr (.inr (.inr (.inr rof))))), (ra, .inr (2, [.int z, .ref rb])), (rb, .inl (cI, 40, .inl f))] s.heap := hP
  have hl := lv_entry ([.ref x, .int (nI li), .int k]) (n := 5) (Nat.le_of_ble_eq_true rfl)
  rw [lg_entry_eq]
  generalize (lg_sl ([.ref x, .int (nI li), .int k]) ++ List.replicate (5 - (lg_sl ([.ref x, .int (nI li), .int k])).length) Slot.unset).toArray = ls at hl ⊢
  have hl : lv_has ls 5 [(0, .ref x), (1, .int (nI li)), (2, .int k)] := hl
  refine lv_aload_n hx hb dX5_steps_0 rfl (lv_at hl 0 rfl) ?_
  refine lv_iload_n hx hb dX5_steps_1 rfl (lv_at hl 1 rfl) ?_
  refine rdV (As := [.int (nI li)]) (rest := []) ⟨hx, hb, hml, hown, hts⟩ (c_X5_rowOf l D cI cZ cR x r t im tx ch ro rf pl ot cl hi rof li ra hli hro) (cwV 1 hts gX5_steps_X5_rowOf rfl rfl rfl (by decide +kernel) ⟨Nat.le_of_ble_eq_true rfl, Nat.le_of_ble_eq_true rfl⟩) hK hN hP 0 5 rfl rfl rfl [0, 4] rfl rfl hl.1 rfl (Nat.le_of_ble_eq_true rfl) dX5_steps_2 ⟨Nat.zero_le _, Nat.zero_le _⟩ ?_
  refine lv_astore_n (lv' := [(3, .ref ra), (0, .ref x), (1, .int (nI li)), (2, .int k)]) hx hb dX5_steps_5 rfl hl (by decide) rfl (fun ls hl => ?_)
  refine lv_aload_n hx hb dX5_steps_6 rfl (lv_at hl 0 rfl) ?_
  refine lv_ifnonnull (tgt := 16) hx hb dX5_steps_7 (by decide) ?_
  refine lv_iload_n hx hb dX5_steps_16 rfl (lv_at hl 3 rfl) ?_
  refine lv_iconst (v := 2) hx hb dX5_steps_17 (by decide) ?_
  refine rdS (As := [.int k, .int 2]) (rest := []) ⟨hx, hb, hml, hown, hts⟩ (c_X5_isBelow l D cI cZ cR k 2 ) (va_cwS 2 hts gX5_steps_X5_isBelow rfl rfl rfl (by decide +kernel) ⟨Nat.le_of_ble_eq_true rfl, Nat.le_of_ble_eq_true rfl⟩) hK hN hP [] rfl rfl hl.1 rfl (Nat.le_of_ble_eq_true rfl) dX5_steps_18 ⟨Nat.zero_le _, Nat.zero_le _⟩ ?_
  refine lv_if_ne (tgt := 31) hx hb dX5_steps_21 (by decide) (fun c_21 => ?_) (fun c_21 => ?_)
  · skip
    have c_21 := bi_ne0.mp c_21
    refine lv_aload_n hx hb dX5_steps_31 rfl (lv_at hl 0 rfl) ?_
    refine rdV (As := []) (rest := []) ⟨hx, hb, hml, hown, hts⟩ (c_X2_isMissing l D cI cZ cR ra rb z f ) (cwV 0 hts gX5_steps_X2_isMissing rfl rfl rfl (by decide +kernel) ⟨Nat.le_of_ble_eq_true rfl, Nat.le_of_ble_eq_true rfl⟩) hK hN hP 5 2 rfl rfl rfl [5, 6] rfl rfl hl.1 rfl (Nat.le_of_ble_eq_true rfl) dX5_steps_32 ⟨Nat.zero_le _, Nat.zero_le _⟩ ?_
    refine lv_if_eq (tgt := 41) hx hb dX5_steps_35 (by decide) (fun c_35 => ?_) (fun c_35 => ?_)
    · skip
      have c_35 := bi_eq0.mp c_35
      refine lv_aload_n hx hb dX5_steps_41 rfl (lv_at hl 1 rfl) ?_
      refine lv_aload_n hx hb dX5_steps_42 rfl (lv_at hl 0 rfl) ?_
      refine rdV (As := [.ref ra]) (rest := []) ⟨hx, hb, hml, hown, hts⟩ (c_X5_tellsPlaces l D cI cZ cR x r t im tx ch ro rf pl ot cl hi rn q nw v ra rb z f hz) (cwV 1 hts gX5_steps_X5_tellsPlaces rfl rfl rfl (by decide +kernel) ⟨Nat.le_of_ble_eq_true rfl, Nat.le_of_ble_eq_true rfl⟩) hK hN hP 0 5 rfl rfl rfl [0, 2, 3, 5, 6] rfl rfl hl.1 rfl (Nat.le_of_ble_eq_true rfl) dX5_steps_43 ⟨Nat.zero_le _, Nat.zero_le _⟩ ?_
      refine lv_if_ne (tgt := 56) hx hb dX5_steps_46 (by decide) (fun c_46 => ?_) (fun c_46 => ?_)
      · skip
        have c_46 := bi_ne0.mp c_46
        have eR : rf_ste q z f k = 0 := by unfold rf_ste; rw [if_neg (fun z9 => z9 c_21), if_neg c_35, if_pos c_46]
        refine lv_aload_n hx hb dX5_steps_56 rfl (lv_at hl 1 rfl) ?_
        refine lv_aload_n hx hb dX5_steps_57 rfl (lv_at hl 0 rfl) ?_
        refine rdV (As := [.ref ra]) (rest := []) ⟨hx, hb, hml, hown, hts⟩ (c_X5_stepBy l D cI cZ cR x r t im tx ch ro rf pl ot cl hi rn q nw v ra rb z f hz c_46.2) (cwV 1 hts gX5_steps_X5_stepBy rfl rfl rfl (by decide +kernel) ⟨Nat.le_of_ble_eq_true rfl, Nat.le_of_ble_eq_true rfl⟩) hK hN hP 0 5 rfl rfl rfl [0, 2, 3, 5, 6] rfl rfl hl.1 rfl (Nat.le_of_ble_eq_true rfl) dX5_steps_58 ⟨Nat.zero_le _, Nat.zero_le _⟩ ?_
        refine lv_istore (lv' := [(4, .int (stpB q z f)), (3, .ref ra), (0, .ref x), (1, .int (nI li)), (2, .int k)]) hx hb dX5_steps_61 hl (by decide) rfl (fun ls hl => ?_)
        refine lv_iload_n hx hb dX5_steps_63 rfl (lv_at hl 4 rfl) ?_
        refine lv_if_ne (tgt := 80) hx hb dX5_steps_64 (by decide) (fun c_64 => ?_) (fun c_64 => ?_)
        · skip
          refine lv_iload hx hb dX5_steps_80 (lv_at hl 0 rfl) ?_
          exact wrI (w1 := (fun (u : (Nat → Int32)) => [(x, .inr (5, [.ref r, .ref t, .ref im, .int hi, .ref tx, .ref ch, .ref ro, .ref rf, .ref pl, .ref ot, .ref cl])), (rf, .inl (cI, 6, .inl u)), (r, .inr (1, [.int q, .int nw, .ref rn])), (rn, .inl (cI, 20, .inl v)), (ro, .inl (cR, 3, .inr (.inr (.inr (.inr rof))))), (ra, .inr (2, [.int z, .ref rb])), (rb, .inl (cI, 40, .inl f))])) F hx hb hr hlocks dX5_steps_82 hS (hP.sub [0, 1, 2, 3, 4, 5, 6] rfl) (hD.sub [0, 1, 2, 3, 4, 5, 6] (by decide) rfl) (by rw [if_pos eR, if_pos eR]; refine ⟨?_, rfl⟩; unfold steA; rw [if_neg c_64])
        · skip
          refine lv_iload hx hb dX5_steps_67 (lv_at hl 0 rfl) ?_
          refine lv_bipush (v := (-9)) hx hb dX5_steps_69 (by decide) ?_
          refine lv_icmp_ne (tgt := 78) hx hb dX5_steps_71 (by decide) (fun c_71 => ?_) (fun c_71 => ?_)
          · skip
            refine lv_iconst (v := 1) hx hb dX5_steps_78 (by decide) ?_
            exact wrI (w1 := (fun (u : (Nat → Int32)) => [(x, .inr (5, [.ref r, .ref t, .ref im, .int hi, .ref tx, .ref ch, .ref ro, .ref rf, .ref pl, .ref ot, .ref cl])), (rf, .inl (cI, 6, .inl u)), (r, .inr (1, [.int q, .int nw, .ref rn])), (rn, .inl (cI, 20, .inl v)), (ro, .inl (cR, 3, .inr (.inr (.inr (.inr rof))))), (ra, .inr (2, [.int z, .ref rb])), (rb, .inl (cI, 40, .inl f))])) F hx hb hr hlocks dX5_steps_79 hS (hP.sub [0, 1, 2, 3, 4, 5, 6] rfl) (hD.sub [0, 1, 2, 3, 4, 5, 6] (by decide) rfl) (by rw [if_pos eR, if_pos eR]; refine ⟨?_, rfl⟩; unfold steA; rw [if_pos c_64, if_neg c_71])
          · skip
            refine lv_iconst (v := 0) hx hb dX5_steps_74 (by decide) ?_
            refine lv_goto (tgt := 79) hx hb dX5_steps_75 (by decide) ?_
            exact wrI (w1 := (fun (u : (Nat → Int32)) => [(x, .inr (5, [.ref r, .ref t, .ref im, .int hi, .ref tx, .ref ch, .ref ro, .ref rf, .ref pl, .ref ot, .ref cl])), (rf, .inl (cI, 6, .inl u)), (r, .inr (1, [.int q, .int nw, .ref rn])), (rn, .inl (cI, 20, .inl v)), (ro, .inl (cR, 3, .inr (.inr (.inr (.inr rof))))), (ra, .inr (2, [.int z, .ref rb])), (rb, .inl (cI, 40, .inl f))])) F hx hb hr hlocks dX5_steps_79 hS (hP.sub [0, 1, 2, 3, 4, 5, 6] rfl) (hD.sub [0, 1, 2, 3, 4, 5, 6] (by decide) rfl) (by rw [if_pos eR, if_pos eR]; refine ⟨?_, rfl⟩; unfold steA; rw [if_pos c_64, if_pos c_71])
      · skip
        have c_46 := bi_eq0.mp c_46
        refine lv_aload_n hx hb dX5_steps_49 rfl (lv_at hl 1 rfl) ?_
        refine lv_bipush (v := (-3)) hx hb dX5_steps_50 (by decide) ?_
        refine wrVi (As := [.int (-3)]) (rest := []) (wr := [(r, .inr (1, [.int q, .int nw, .ref rn])), (rn, .inl (cI, 20, .inl v)), (ro, .inl (cR, 3, .inr (.inr (.inr (.inr rof))))), (ra, .inr (2, [.int z, .ref rb])), (rb, .inl (cI, 40, .inl f))]) (A := A) ⟨hx, hb, hml, hown, hts⟩ (c_X5_refuse l D cI cZ cR x r t im tx ch ro rf pl ot cl hi F (-3)  s.heap.size) (cwV 1 hts gX5_steps_X5_refuse rfl rfl rfl (by decide +kernel) ⟨Nat.le_of_ble_eq_true rfl, Nat.le_of_ble_eq_true rfl⟩) hK hN hP hD hS hA 0 5 rfl rfl rfl [0, 1] [2, 3, 4, 5, 6] rfl (by decide) rfl (by decide) (by decide) rfl hl.1 rfl (Nat.le_of_ble_eq_true rfl) dX5_steps_52 ⟨Nat.zero_le _, Nat.zero_le _⟩ (fun r_52 u H locs hw hP hD hS => ?_)
        obtain ⟨F_52, rfl⟩ : ∃ z, z = u := ⟨_, rfl⟩
        try dsimp only at hw
        obtain ⟨q1_52, q2_52⟩ := hw
        have q1_52 := q1_52.symm
        subst q1_52
        have q2_52 := q2_52.symm
        subst q2_52
        have hP : va_P D vwCl [(x, .inr (5, [.ref r, .ref t, .ref im, .int hi, .ref tx, .ref ch, .ref ro, .ref rf, .ref pl, .ref ot, .ref cl])), (rf, .inl (cI, 6, .inl (rf_bump F (-3)))), (r, .inr (1, [.int q, .int nw, .ref rn])), (rn, .inl (cI, 20, .inl v)), (ro, .inl (cR, 3, .inr (.inr (.inr (.inr rof))))), (ra, .inr (2, [.int z, .ref rb])), (rb, .inl (cI, 40, .inl f))] H := hP.sub [5, 6, 0, 1, 2, 3, 4] rfl
        have hD : va_D A [(x, .inr (5, [.ref r, .ref t, .ref im, .int hi, .ref tx, .ref ch, .ref ro, .ref rf, .ref pl, .ref ot, .ref cl])), (rf, .inl (cI, 6, .inl (rf_bump F (-3)))), (r, .inr (1, [.int q, .int nw, .ref rn])), (rn, .inl (cI, 20, .inl v)), (ro, .inl (cR, 3, .inr (.inr (.inr (.inr rof))))), (ra, .inr (2, [.int z, .ref rb])), (rb, .inl (cI, 40, .inl f))] := hD.sub [5, 6, 0, 1, 2, 3, 4] (by decide) rfl
        exact wrI (w1 := (fun (u : (Nat → Int32)) => [(x, .inr (5, [.ref r, .ref t, .ref im, .int hi, .ref tx, .ref ch, .ref ro, .ref rf, .ref pl, .ref ot, .ref cl])), (rf, .inl (cI, 6, .inl u)), (r, .inr (1, [.int q, .int nw, .ref rn])), (rn, .inl (cI, 20, .inl v)), (ro, .inl (cR, 3, .inr (.inr (.inr (.inr rof))))), (ra, .inr (2, [.int z, .ref rb])), (rb, .inl (cI, 40, .inl f))])) (rf_bump F (-3)) hx hb hr hlocks dX5_steps_55 hS (hP.sub [0, 1, 2, 3, 4, 5, 6] rfl) (hD.sub [0, 1, 2, 3, 4, 5, 6] (by decide) rfl) (by have e9 : rf_ste q z f k = -3 := (by unfold rf_ste; rw [if_neg (fun z9 => z9 c_21), if_neg c_35, if_neg c_46]); simp [e9, bmp_11])
    · skip
      have c_35 := bi_ne0.mp c_35
      refine lv_bipush (v := (-11)) hx hb dX5_steps_38 (by decide) ?_
      exact wrI (w1 := (fun (u : (Nat → Int32)) => [(x, .inr (5, [.ref r, .ref t, .ref im, .int hi, .ref tx, .ref ch, .ref ro, .ref rf, .ref pl, .ref ot, .ref cl])), (rf, .inl (cI, 6, .inl u)), (r, .inr (1, [.int q, .int nw, .ref rn])), (rn, .inl (cI, 20, .inl v)), (ro, .inl (cR, 3, .inr (.inr (.inr (.inr rof))))), (ra, .inr (2, [.int z, .ref rb])), (rb, .inl (cI, 40, .inl f))])) F hx hb hr hlocks dX5_steps_40 hS (hP.sub [0, 1, 2, 3, 4, 5, 6] rfl) (hD.sub [0, 1, 2, 3, 4, 5, 6] (by decide) rfl) (by have e9 : rf_ste q z f k = -11 := (by unfold rf_ste; rw [if_neg (fun z9 => z9 c_21), if_pos c_35]); simp [e9, bmp_11])
  · skip
    have c_21 := bi_eq0.mp c_21
    refine lv_aload_n hx hb dX5_steps_24 rfl (lv_at hl 1 rfl) ?_
    refine lv_bipush (v := (-2)) hx hb dX5_steps_25 (by decide) ?_
    refine wrVi (As := [.int (-2)]) (rest := []) (wr := [(r, .inr (1, [.int q, .int nw, .ref rn])), (rn, .inl (cI, 20, .inl v)), (ro, .inl (cR, 3, .inr (.inr (.inr (.inr rof))))), (ra, .inr (2, [.int z, .ref rb])), (rb, .inl (cI, 40, .inl f))]) (A := A) ⟨hx, hb, hml, hown, hts⟩ (c_X5_refuse l D cI cZ cR x r t im tx ch ro rf pl ot cl hi F (-2)  s.heap.size) (cwV 1 hts gX5_steps_X5_refuse rfl rfl rfl (by decide +kernel) ⟨Nat.le_of_ble_eq_true rfl, Nat.le_of_ble_eq_true rfl⟩) hK hN hP hD hS hA 0 5 rfl rfl rfl [0, 1] [2, 3, 4, 5, 6] rfl (by decide) rfl (by decide) (by decide) rfl hl.1 rfl (Nat.le_of_ble_eq_true rfl) dX5_steps_27 ⟨Nat.zero_le _, Nat.zero_le _⟩ (fun r_27 u H locs hw hP hD hS => ?_)
    obtain ⟨F_27, rfl⟩ : ∃ z, z = u := ⟨_, rfl⟩
    try dsimp only at hw
    obtain ⟨q1_27, q2_27⟩ := hw
    have q1_27 := q1_27.symm
    subst q1_27
    have q2_27 := q2_27.symm
    subst q2_27
    have hP : va_P D vwCl [(x, .inr (5, [.ref r, .ref t, .ref im, .int hi, .ref tx, .ref ch, .ref ro, .ref rf, .ref pl, .ref ot, .ref cl])), (rf, .inl (cI, 6, .inl (rf_bump F (-2)))), (r, .inr (1, [.int q, .int nw, .ref rn])), (rn, .inl (cI, 20, .inl v)), (ro, .inl (cR, 3, .inr (.inr (.inr (.inr rof))))), (ra, .inr (2, [.int z, .ref rb])), (rb, .inl (cI, 40, .inl f))] H := hP.sub [5, 6, 0, 1, 2, 3, 4] rfl
    have hD : va_D A [(x, .inr (5, [.ref r, .ref t, .ref im, .int hi, .ref tx, .ref ch, .ref ro, .ref rf, .ref pl, .ref ot, .ref cl])), (rf, .inl (cI, 6, .inl (rf_bump F (-2)))), (r, .inr (1, [.int q, .int nw, .ref rn])), (rn, .inl (cI, 20, .inl v)), (ro, .inl (cR, 3, .inr (.inr (.inr (.inr rof))))), (ra, .inr (2, [.int z, .ref rb])), (rb, .inl (cI, 40, .inl f))] := hD.sub [5, 6, 0, 1, 2, 3, 4] (by decide) rfl
    exact wrI (w1 := (fun (u : (Nat → Int32)) => [(x, .inr (5, [.ref r, .ref t, .ref im, .int hi, .ref tx, .ref ch, .ref ro, .ref rf, .ref pl, .ref ot, .ref cl])), (rf, .inl (cI, 6, .inl u)), (r, .inr (1, [.int q, .int nw, .ref rn])), (rn, .inl (cI, 20, .inl v)), (ro, .inl (cR, 3, .inr (.inr (.inr (.inr rof))))), (ra, .inr (2, [.int z, .ref rb])), (rb, .inl (cI, 40, .inl f))])) (rf_bump F (-2)) hx hb hr hlocks dX5_steps_30 hS (hP.sub [0, 1, 2, 3, 4, 5, 6] rfl) (hD.sub [0, 1, 2, 3, 4, 5, 6] (by decide) rfl) (by have e9 : rf_ste q z f k = -2 := (by unfold rf_ste; rw [if_pos c_21]); simp [e9, bmp_11])

set_option maxHeartbeats 4000000 in
set_option maxRecDepth 100000 in
theorem c_X5_kinds (l : Launch) (D : va_G) (cI cZ cR : ClassId) (x r t im tx ch ro rf pl ot cl : Nat) (hi : Int32) (F : Nat → Int32) (rn : Nat) (q nw : Int32) (v : Nat → Int32) (rof : Nat → Option Nat) (li ra rb : Nat) (z : Int32) (f : Nat → Int32) (w : Int32) (hli : li < 3) (hro : rof li = some ra) (hz : z ≤ 40) (sz : Nat) : Met l yX5_kinds wsX5_kinds ({ frames := 4, cells := 0, slots := 0, locals := 100 }) (PcW D cI cZ cR [.ref x, .int (nI li), .int w] [(x, .inr (5, [.ref r, .ref t, .ref im, .int hi, .ref tx, .ref ch, .ref ro, .ref rf, .ref pl, .ref ot, .ref cl])), (rf, .inl (cI, 6, .inl F)), (r, .inr (1, [.int q, .int nw, .ref rn])), (rn, .inl (cI, 20, .inl v)), (ro, .inl (cR, 3, .inr (.inr (.inr (.inr rof))))), (ra, .inr (2, [.int z, .ref rb])), (rb, .inl (cI, 40, .inl f))] sz) (va_Qi (fun (res : Int32) (u : (Nat → Int32)) => res = (if rf_kin nw w q z f = 0 then kinA q v w z f 6 else rf_kin nw w q z f) ∧ u = (if rf_kin nw w q z f = 0 then F else rf_bump F (rf_kin nw w q z f))) (Bw D (fun (u : (Nat → Int32)) => [(x, .inr (5, [.ref r, .ref t, .ref im, .int hi, .ref tx, .ref ch, .ref ro, .ref rf, .ref pl, .ref ot, .ref cl])), (rf, .inl (cI, 6, .inl u)), (r, .inr (1, [.int q, .int nw, .ref rn])), (rn, .inl (cI, 20, .inl v)), (ro, .inl (cR, 3, .inr (.inr (.inr (.inr rof))))), (ra, .inr (2, [.int z, .ref rb])), (rb, .inl (cI, 40, .inl f))]) (va_A [(x, .inr (5, [.ref r, .ref t, .ref im, .int hi, .ref tx, .ref ch, .ref ro, .ref rf, .ref pl, .ref ot, .ref cl])), (rf, .inl (cI, 6, .inl F)), (r, .inr (1, [.int q, .int nw, .ref rn])), (rn, .inl (cI, 20, .inl v)), (ro, .inl (cR, 3, .inr (.inr (.inr (.inr rof))))), (ra, .inr (2, [.int z, .ref rb])), (rb, .inl (cI, 40, .inl f))] sz)) (va_A [(x, .inr (5, [.ref r, .ref t, .ref im, .int hi, .ref tx, .ref ch, .ref ro, .ref rf, .ref pl, .ref ot, .ref cl])), (rf, .inl (cI, 6, .inl F)), (r, .inr (1, [.int q, .int nw, .ref rn])), (rn, .inl (cI, 20, .inl v)), (ro, .inl (cR, 3, .inr (.inr (.inr (.inr rof))))), (ra, .inr (2, [.int z, .ref rb])), (rb, .inl (cI, 40, .inl f))] sz)) 0 0 (va_A [(x, .inr (5, [.ref r, .ref t, .ref im, .int hi, .ref tx, .ref ch, .ref ro, .ref rf, .ref pl, .ref ot, .ref cl])), (rf, .inl (cI, 6, .inl F)), (r, .inr (1, [.int q, .int nw, .ref rn])), (rn, .inl (cI, 20, .inl v)), (ro, .inl (cR, 3, .inr (.inr (.inr (.inr rof))))), (ra, .inr (2, [.int z, .ref rb])), (rb, .inl (cI, 40, .inl f))] sz) := by
  refine Met.ofW (cc := cX5_kinds) (maxL := 6) (ret := (some .int)) (by decide) rfl ?_
  intro p e s m args below meth c s₁ B hml hv
  obtain ⟨rfl, hsz, hP, hK, hD0, hN⟩ := hv
  have hx := B.exec
  have hb := B.bytes
  have hr := B.returns
  have hts := atoms_spec (ws := wsX5_kinds) B.pre
  have hown : s.vm.findClass RX5 = some m.cls := findClass_of_methodNamed B.named
  have hlocks := B.notSynchronized
  subst hsz
  have hD := hD0.self (sz := s.heap.size)
  generalize hAe : va_A [(x, .inr (5, [.ref r, .ref t, .ref im, .int hi, .ref tx, .ref ch, .ref ro, .ref rf, .ref pl, .ref ot, .ref cl])), (rf, .inl (cI, 6, .inl F)), (r, .inr (1, [.int q, .int nw, .ref rn])), (rn, .inl (cI, 20, .inl v)), (ro, .inl (cR, 3, .inr (.inr (.inr (.inr rof))))), (ra, .inr (2, [.int z, .ref rb])), (rb, .inl (cI, 40, .inl f))] s.heap.size = A at hD ⊢
  have hA : ∀ q : Nat, s.heap.size ≤ q → A q := fun q h => by rw [← hAe]; exact Or.inr h
  have hS : va_S A s.heap s.heap [] := va_S.rf
  have hP : va_P D vwCl [(x, .inr (5, [.ref r, .ref t, .ref im, .int hi, .ref tx, .ref ch, .ref ro, .ref rf, .ref pl, .ref ot, .ref cl])), (rf, .inl (cI, 6, .inl F)), (r, .inr (1, [.int q, .int nw, .ref rn])), (rn, .inl (cI, 20, .inl v)), (ro, .inl (cR, 3, .inr (.inr (.inr (.inr rof))))), (ra, .inr (2, [.int z, .ref rb])), (rb, .inl (cI, 40, .inl f))] s.heap := hP
  have hl := lv_entry ([.ref x, .int (nI li), .int w]) (n := 6) (Nat.le_of_ble_eq_true rfl)
  rw [lg_entry_eq]
  generalize (lg_sl ([.ref x, .int (nI li), .int w]) ++ List.replicate (6 - (lg_sl ([.ref x, .int (nI li), .int w])).length) Slot.unset).toArray = ls at hl ⊢
  have hl : lv_has ls 6 [(0, .ref x), (1, .int (nI li)), (2, .int w)] := hl
  refine lv_aload_n hx hb dX5_kinds_0 rfl (lv_at hl 0 rfl) ?_
  refine lv_iload_n hx hb dX5_kinds_1 rfl (lv_at hl 1 rfl) ?_
  refine rdV (As := [.int (nI li)]) (rest := []) ⟨hx, hb, hml, hown, hts⟩ (c_X5_rowOf l D cI cZ cR x r t im tx ch ro rf pl ot cl hi rof li ra hli hro) (cwV 1 hts gX5_kinds_X5_rowOf rfl rfl rfl (by decide +kernel) ⟨Nat.le_of_ble_eq_true rfl, Nat.le_of_ble_eq_true rfl⟩) hK hN hP 0 5 rfl rfl rfl [0, 4] rfl rfl hl.1 rfl (Nat.le_of_ble_eq_true rfl) dX5_kinds_2 ⟨Nat.zero_le _, Nat.zero_le _⟩ ?_
  refine lv_astore_n (lv' := [(3, .ref ra), (0, .ref x), (1, .int (nI li)), (2, .int w)]) hx hb dX5_kinds_5 rfl hl (by decide) rfl (fun ls hl => ?_)
  refine lv_aload_n hx hb dX5_kinds_6 rfl (lv_at hl 0 rfl) ?_
  refine lv_ifnull hx hb dX5_kinds_7 ?_
  refine lv_aload_n hx hb dX5_kinds_10 rfl (lv_at hl 1 rfl) ?_
  refine va_get (D := D) (ci := 5) (v := .ref r) (C := RX5) (T := TX5) (N := 11) hx hb hts (in_X5_kinds_X5) hown hK hP 0 rfl rfl 0 (by decide) (hts (.fieldLink RX5 10 "StepsRoundCircle" "ring" "LStepsRoundCircle$Ring;") (by decide +kernel)) (fun _ h9 => h9) rfl dX5_kinds_11 ?_
  refine lv_iload_n hx hb dX5_kinds_14 rfl (lv_at hl 3 rfl) ?_
  refine rdV (As := [.int w]) (rest := []) ⟨hx, hb, hml, hown, hts⟩ (c_X1_has l D cI cZ cR r rn q nw v w ) (cwV 1 hts gX5_kinds_X1_has rfl rfl rfl (by decide +kernel) ⟨Nat.le_of_ble_eq_true rfl, Nat.le_of_ble_eq_true rfl⟩) hK hN hP 2 1 rfl rfl rfl [2, 3] rfl rfl hl.1 rfl (Nat.le_of_ble_eq_true rfl) dX5_kinds_15 ⟨Nat.zero_le _, Nat.zero_le _⟩ ?_
  refine lv_if_ne (tgt := 27) hx hb dX5_kinds_18 (by decide) (fun c_18 => ?_) (fun c_18 => ?_)
  · skip
    have c_18 := bi_ne0.mp c_18
    refine lv_aload_n hx hb dX5_kinds_27 rfl (lv_at hl 0 rfl) ?_
    refine rdV (As := []) (rest := []) ⟨hx, hb, hml, hown, hts⟩ (c_X2_isMissing l D cI cZ cR ra rb z f ) (cwV 0 hts gX5_kinds_X2_isMissing rfl rfl rfl (by decide +kernel) ⟨Nat.le_of_ble_eq_true rfl, Nat.le_of_ble_eq_true rfl⟩) hK hN hP 5 2 rfl rfl rfl [5, 6] rfl rfl hl.1 rfl (Nat.le_of_ble_eq_true rfl) dX5_kinds_28 ⟨Nat.zero_le _, Nat.zero_le _⟩ ?_
    refine lv_if_eq (tgt := 37) hx hb dX5_kinds_31 (by decide) (fun c_31 => ?_) (fun c_31 => ?_)
    · skip
      have c_31 := bi_eq0.mp c_31
      refine lv_aload_n hx hb dX5_kinds_37 rfl (lv_at hl 1 rfl) ?_
      refine lv_aload_n hx hb dX5_kinds_38 rfl (lv_at hl 0 rfl) ?_
      refine rdV (As := [.ref ra]) (rest := []) ⟨hx, hb, hml, hown, hts⟩ (c_X5_tellsPlaces l D cI cZ cR x r t im tx ch ro rf pl ot cl hi rn q nw v ra rb z f hz) (cwV 1 hts gX5_kinds_X5_tellsPlaces rfl rfl rfl (by decide +kernel) ⟨Nat.le_of_ble_eq_true rfl, Nat.le_of_ble_eq_true rfl⟩) hK hN hP 0 5 rfl rfl rfl [0, 2, 3, 5, 6] rfl rfl hl.1 rfl (Nat.le_of_ble_eq_true rfl) dX5_kinds_39 ⟨Nat.zero_le _, Nat.zero_le _⟩ ?_
      refine lv_if_ne (tgt := 52) hx hb dX5_kinds_42 (by decide) (fun c_42 => ?_) (fun c_42 => ?_)
      · skip
        have c_42 := bi_ne0.mp c_42
        have eR : rf_kin nw w q z f = 0 := by unfold rf_kin; rw [if_neg (fun z9 => z9 c_18), if_neg c_31, if_pos c_42]
        refine lv_iconst (v := 0) hx hb dX5_kinds_52 (by decide) ?_
        refine lv_istore (lv' := [(4, .int 0), (3, .ref ra), (0, .ref x), (1, .int (nI li)), (2, .int w)]) hx hb dX5_kinds_53 hl (by decide) rfl (fun ls hl => ?_)
        refine lv_iconst (v := 0) hx hb dX5_kinds_55 (by decide) ?_
        refine lv_istore (lv' := [(5, .int 0), (4, .int 0), (3, .ref ra), (0, .ref x), (1, .int (nI li)), (2, .int w)]) hx hb dX5_kinds_56 hl (by decide) rfl (fun ls hl => ?_)
        have loop_58 : ∀ (fuel : Nat), ∀ (i : Nat), (i ≤ 6) → (7 ≤ i + fuel) → ∀ (y4 : Int32), y4 = kinA q v w z f i → ∀ (y5 : Int32), y5 = nI i → ∀ (ls : Array Slot), lv_has ls 6 [(4, .int y4), (5, .int y5), (0, .ref x), (1, .int (nI li)), (2, .int w), (3, .ref ra)] → W p l e (headSpec wsX5_kinds ({ frames := 4, cells := 0, slots := 0, locals := 100 })).room s m ([.ref x, .int (nI li), .int w] : List Value).toArray below meth c s.heap [] 0 0 (MQ below (va_Qi (fun (res : Int32) (u : (Nat → Int32)) => res = (if rf_kin nw w q z f = 0 then kinA q v w z f 6 else rf_kin nw w q z f) ∧ u = (if rf_kin nw w q z f = 0 then F else rf_bump F (rf_kin nw w q z f))) (Bw D (fun (u : (Nat → Int32)) => [(x, .inr (5, [.ref r, .ref t, .ref im, .int hi, .ref tx, .ref ch, .ref ro, .ref rf, .ref pl, .ref ot, .ref cl])), (rf, .inl (cI, 6, .inl u)), (r, .inr (1, [.int q, .int nw, .ref rn])), (rn, .inl (cI, 20, .inl v)), (ro, .inl (cR, 3, .inr (.inr (.inr (.inr rof))))), (ra, .inr (2, [.int z, .ref rb])), (rb, .inl (cI, 40, .inl f))]) A) A) ([.ref x, .int (nI li), .int w] : List Value).toArray s 0 0 A) (F0 m 58 ls []) := by
          intro fuel
          induction fuel with
          | zero =>
            intro i hi9 hfu
            exact False.elim (by omega)
          | succ fuel ih_58 =>
            intro i hi9 hfu y4 ey4 y5 ey5 ls hl
            subst ey4
            subst ey5
            refine lv_iload hx hb dX5_kinds_58 (lv_at hl 1 rfl) ?_
            refine lv_bipush (v := 6) hx hb dX5_kinds_60 (by decide) ?_
            refine lv_icmp_ge (tgt := 93) hx hb dX5_kinds_62 (by decide) (fun c_62 => ?_) (fun c_62 => ?_)
            · skip
              refine lv_iload hx hb dX5_kinds_93 (lv_at hl 0 rfl) ?_
              exact wrI (w1 := (fun (u : (Nat → Int32)) => [(x, .inr (5, [.ref r, .ref t, .ref im, .int hi, .ref tx, .ref ch, .ref ro, .ref rf, .ref pl, .ref ot, .ref cl])), (rf, .inl (cI, 6, .inl u)), (r, .inr (1, [.int q, .int nw, .ref rn])), (rn, .inl (cI, 20, .inl v)), (ro, .inl (cR, 3, .inr (.inr (.inr (.inr rof))))), (ra, .inr (2, [.int z, .ref rb])), (rb, .inl (cI, 40, .inl f))])) F hx hb hr hlocks dX5_kinds_95 hS (hP.sub [0, 1, 2, 3, 4, 5, 6] rfl) (hD.sub [0, 1, 2, 3, 4, 5, 6] (by decide) rfl) (by rw [if_pos eR, if_pos eR, show i = 6 by have := (nI_leI (a := 6) (b := i) (by omega) (by omega)).mp c_62; omega]; exact ⟨rfl, rfl⟩)
            · skip
              have hiN : i < 6 := by rcases Nat.lt_or_ge i 6 with q9 | q9; exact q9; exact absurd (nI_le q9 (by omega)) c_62
              refine lv_aload_n hx hb dX5_kinds_65 rfl (lv_at hl 2 rfl) ?_
              refine lv_aload_n hx hb dX5_kinds_66 rfl (lv_at hl 5 rfl) ?_
              refine lv_iload_n hx hb dX5_kinds_67 rfl (lv_at hl 4 rfl) ?_
              refine lv_iload hx hb dX5_kinds_68 (lv_at hl 1 rfl) ?_
              refine rdV (As := [.ref ra, .int w, .int (nI i)]) (rest := []) ⟨hx, hb, hml, hown, hts⟩ (c_X5_firstOtherwise l D cI cZ cR x r t im tx ch ro rf pl ot cl hi rn q nw v ra rb z f w (nI i) hz) (cwV 3 hts gX5_kinds_X5_firstOtherwise rfl rfl rfl (by decide +kernel) ⟨Nat.le_of_ble_eq_true rfl, Nat.le_of_ble_eq_true rfl⟩) hK hN hP 0 5 rfl rfl rfl [0, 2, 3, 5, 6] rfl rfl hl.1 rfl (Nat.le_of_ble_eq_true rfl) dX5_kinds_70 ⟨Nat.zero_le _, Nat.zero_le _⟩ ?_
              refine lv_bipush (v := (-9)) hx hb dX5_kinds_73 (by decide) ?_
              refine lv_icmp_ne (tgt := 87) hx hb dX5_kinds_75 (by decide) (fun c_75 => ?_) (fun c_75 => ?_)
              · skip
                refine lv_iinc (v := (nI i) + 1) (lv' := [(5, .int ((nI i) + 1)), (4, .int (kinA q v w z f i)), (0, .ref x), (1, .int (nI li)), (2, .int w), (3, .ref ra)]) hx hb dX5_kinds_87 hl (k := 1) rfl (by rfl) (by decide) rfl (fun ls hl => ?_)
                refine lv_goto (tgt := 58) hx hb dX5_kinds_90 (by decide) ?_
                exact ih_58 (i + 1) (by omega) (by omega) _ (by rw [kinA, if_neg c_75]) _ (by first | rfl | exact nI_1 _ | exact nI_0.symm) ls (lv_sub hl [1, 0, 2, 3, 4, 5] rfl)
              · skip
                refine lv_iload hx hb dX5_kinds_78 (lv_at hl 0 rfl) ?_
                refine lv_iconst (v := 1) hx hb dX5_kinds_80 (by decide) ?_
                refine lv_iload hx hb dX5_kinds_81 (lv_at hl 1 rfl) ?_
                refine lv_ishl hx hb dX5_kinds_83 ?_
                refine lv_ior hx hb dX5_kinds_84 ?_
                refine lv_istore (lv' := [(4, .int ((kinA q v w z f i) ||| (1 <<< ((nI i) &&& 31)))), (5, .int (nI i)), (0, .ref x), (1, .int (nI li)), (2, .int w), (3, .ref ra)]) hx hb dX5_kinds_85 hl (by decide) rfl (fun ls hl => ?_)
                refine lv_iinc (v := (nI i) + 1) (lv' := [(5, .int ((nI i) + 1)), (4, .int ((kinA q v w z f i) ||| (1 <<< ((nI i) &&& 31)))), (0, .ref x), (1, .int (nI li)), (2, .int w), (3, .ref ra)]) hx hb dX5_kinds_87 hl (k := 1) rfl (by rfl) (by decide) rfl (fun ls hl => ?_)
                refine lv_goto (tgt := 58) hx hb dX5_kinds_90 (by decide) ?_
                exact ih_58 (i + 1) (by omega) (by omega) _ (by rw [kinA, if_pos c_75]) _ (by first | rfl | exact nI_1 _ | exact nI_0.symm) ls (lv_sub hl [1, 0, 2, 3, 4, 5] rfl)
        exact loop_58 7 0 (by omega) (by omega) _ rfl _ (by first | rfl | exact nI_1 _ | exact nI_0.symm) ls (lv_sub hl [1, 0, 3, 4, 5, 2] rfl)
      · skip
        have c_42 := bi_eq0.mp c_42
        refine lv_aload_n hx hb dX5_kinds_45 rfl (lv_at hl 1 rfl) ?_
        refine lv_bipush (v := (-3)) hx hb dX5_kinds_46 (by decide) ?_
        refine wrVi (As := [.int (-3)]) (rest := []) (wr := [(r, .inr (1, [.int q, .int nw, .ref rn])), (rn, .inl (cI, 20, .inl v)), (ro, .inl (cR, 3, .inr (.inr (.inr (.inr rof))))), (ra, .inr (2, [.int z, .ref rb])), (rb, .inl (cI, 40, .inl f))]) (A := A) ⟨hx, hb, hml, hown, hts⟩ (c_X5_refuse l D cI cZ cR x r t im tx ch ro rf pl ot cl hi F (-3)  s.heap.size) (cwV 1 hts gX5_kinds_X5_refuse rfl rfl rfl (by decide +kernel) ⟨Nat.le_of_ble_eq_true rfl, Nat.le_of_ble_eq_true rfl⟩) hK hN hP hD hS hA 0 5 rfl rfl rfl [0, 1] [2, 3, 4, 5, 6] rfl (by decide) rfl (by decide) (by decide) rfl hl.1 rfl (Nat.le_of_ble_eq_true rfl) dX5_kinds_48 ⟨Nat.zero_le _, Nat.zero_le _⟩ (fun r_48 u H locs hw hP hD hS => ?_)
        obtain ⟨F_48, rfl⟩ : ∃ z, z = u := ⟨_, rfl⟩
        try dsimp only at hw
        obtain ⟨q1_48, q2_48⟩ := hw
        have q1_48 := q1_48.symm
        subst q1_48
        have q2_48 := q2_48.symm
        subst q2_48
        have hP : va_P D vwCl [(x, .inr (5, [.ref r, .ref t, .ref im, .int hi, .ref tx, .ref ch, .ref ro, .ref rf, .ref pl, .ref ot, .ref cl])), (rf, .inl (cI, 6, .inl (rf_bump F (-3)))), (r, .inr (1, [.int q, .int nw, .ref rn])), (rn, .inl (cI, 20, .inl v)), (ro, .inl (cR, 3, .inr (.inr (.inr (.inr rof))))), (ra, .inr (2, [.int z, .ref rb])), (rb, .inl (cI, 40, .inl f))] H := hP.sub [5, 6, 0, 1, 2, 3, 4] rfl
        have hD : va_D A [(x, .inr (5, [.ref r, .ref t, .ref im, .int hi, .ref tx, .ref ch, .ref ro, .ref rf, .ref pl, .ref ot, .ref cl])), (rf, .inl (cI, 6, .inl (rf_bump F (-3)))), (r, .inr (1, [.int q, .int nw, .ref rn])), (rn, .inl (cI, 20, .inl v)), (ro, .inl (cR, 3, .inr (.inr (.inr (.inr rof))))), (ra, .inr (2, [.int z, .ref rb])), (rb, .inl (cI, 40, .inl f))] := hD.sub [5, 6, 0, 1, 2, 3, 4] (by decide) rfl
        exact wrI (w1 := (fun (u : (Nat → Int32)) => [(x, .inr (5, [.ref r, .ref t, .ref im, .int hi, .ref tx, .ref ch, .ref ro, .ref rf, .ref pl, .ref ot, .ref cl])), (rf, .inl (cI, 6, .inl u)), (r, .inr (1, [.int q, .int nw, .ref rn])), (rn, .inl (cI, 20, .inl v)), (ro, .inl (cR, 3, .inr (.inr (.inr (.inr rof))))), (ra, .inr (2, [.int z, .ref rb])), (rb, .inl (cI, 40, .inl f))])) (rf_bump F (-3)) hx hb hr hlocks dX5_kinds_51 hS (hP.sub [0, 1, 2, 3, 4, 5, 6] rfl) (hD.sub [0, 1, 2, 3, 4, 5, 6] (by decide) rfl) (by have e9 : rf_kin nw w q z f = -3 := (by unfold rf_kin; rw [if_neg (fun z9 => z9 c_18), if_neg c_31, if_neg c_42]); simp [e9, bmp_11])
    · skip
      have c_31 := bi_ne0.mp c_31
      refine lv_bipush (v := (-11)) hx hb dX5_kinds_34 (by decide) ?_
      exact wrI (w1 := (fun (u : (Nat → Int32)) => [(x, .inr (5, [.ref r, .ref t, .ref im, .int hi, .ref tx, .ref ch, .ref ro, .ref rf, .ref pl, .ref ot, .ref cl])), (rf, .inl (cI, 6, .inl u)), (r, .inr (1, [.int q, .int nw, .ref rn])), (rn, .inl (cI, 20, .inl v)), (ro, .inl (cR, 3, .inr (.inr (.inr (.inr rof))))), (ra, .inr (2, [.int z, .ref rb])), (rb, .inl (cI, 40, .inl f))])) F hx hb hr hlocks dX5_kinds_36 hS (hP.sub [0, 1, 2, 3, 4, 5, 6] rfl) (hD.sub [0, 1, 2, 3, 4, 5, 6] (by decide) rfl) (by have e9 : rf_kin nw w q z f = -11 := (by unfold rf_kin; rw [if_neg (fun z9 => z9 c_18), if_pos c_31]); simp [e9, bmp_11])
  · skip
    have c_18 := bi_eq0.mp c_18
    refine lv_aload_n hx hb dX5_kinds_21 rfl (lv_at hl 1 rfl) ?_
    refine lv_iconst (v := (-1)) hx hb dX5_kinds_22 (by decide) ?_
    refine wrVi (As := [.int (-1)]) (rest := []) (wr := [(r, .inr (1, [.int q, .int nw, .ref rn])), (rn, .inl (cI, 20, .inl v)), (ro, .inl (cR, 3, .inr (.inr (.inr (.inr rof))))), (ra, .inr (2, [.int z, .ref rb])), (rb, .inl (cI, 40, .inl f))]) (A := A) ⟨hx, hb, hml, hown, hts⟩ (c_X5_refuse l D cI cZ cR x r t im tx ch ro rf pl ot cl hi F (-1)  s.heap.size) (cwV 1 hts gX5_kinds_X5_refuse rfl rfl rfl (by decide +kernel) ⟨Nat.le_of_ble_eq_true rfl, Nat.le_of_ble_eq_true rfl⟩) hK hN hP hD hS hA 0 5 rfl rfl rfl [0, 1] [2, 3, 4, 5, 6] rfl (by decide) rfl (by decide) (by decide) rfl hl.1 rfl (Nat.le_of_ble_eq_true rfl) dX5_kinds_23 ⟨Nat.zero_le _, Nat.zero_le _⟩ (fun r_23 u H locs hw hP hD hS => ?_)
    obtain ⟨F_23, rfl⟩ : ∃ z, z = u := ⟨_, rfl⟩
    try dsimp only at hw
    obtain ⟨q1_23, q2_23⟩ := hw
    have q1_23 := q1_23.symm
    subst q1_23
    have q2_23 := q2_23.symm
    subst q2_23
    have hP : va_P D vwCl [(x, .inr (5, [.ref r, .ref t, .ref im, .int hi, .ref tx, .ref ch, .ref ro, .ref rf, .ref pl, .ref ot, .ref cl])), (rf, .inl (cI, 6, .inl (rf_bump F (-1)))), (r, .inr (1, [.int q, .int nw, .ref rn])), (rn, .inl (cI, 20, .inl v)), (ro, .inl (cR, 3, .inr (.inr (.inr (.inr rof))))), (ra, .inr (2, [.int z, .ref rb])), (rb, .inl (cI, 40, .inl f))] H := hP.sub [5, 6, 0, 1, 2, 3, 4] rfl
    have hD : va_D A [(x, .inr (5, [.ref r, .ref t, .ref im, .int hi, .ref tx, .ref ch, .ref ro, .ref rf, .ref pl, .ref ot, .ref cl])), (rf, .inl (cI, 6, .inl (rf_bump F (-1)))), (r, .inr (1, [.int q, .int nw, .ref rn])), (rn, .inl (cI, 20, .inl v)), (ro, .inl (cR, 3, .inr (.inr (.inr (.inr rof))))), (ra, .inr (2, [.int z, .ref rb])), (rb, .inl (cI, 40, .inl f))] := hD.sub [5, 6, 0, 1, 2, 3, 4] (by decide) rfl
    exact wrI (w1 := (fun (u : (Nat → Int32)) => [(x, .inr (5, [.ref r, .ref t, .ref im, .int hi, .ref tx, .ref ch, .ref ro, .ref rf, .ref pl, .ref ot, .ref cl])), (rf, .inl (cI, 6, .inl u)), (r, .inr (1, [.int q, .int nw, .ref rn])), (rn, .inl (cI, 20, .inl v)), (ro, .inl (cR, 3, .inr (.inr (.inr (.inr rof))))), (ra, .inr (2, [.int z, .ref rb])), (rb, .inl (cI, 40, .inl f))])) (rf_bump F (-1)) hx hb hr hlocks dX5_kinds_26 hS (hP.sub [0, 1, 2, 3, 4, 5, 6] rfl) (hD.sub [0, 1, 2, 3, 4, 5, 6] (by decide) rfl) (by have e9 : rf_kin nw w q z f = -1 := (by unfold rf_kin; rw [if_pos c_18]); simp [e9, bmp_11])

set_option maxHeartbeats 4000000 in
set_option maxRecDepth 100000 in
theorem c_X5_list_no (l : Launch) (D : va_G) (cI cZ cR : ClassId) (x r t im tx ch ro rf pl ot cl : Nat) (hi : Int32) (F : Nat → Int32) (rof : Nat → Option Nat) (li n : Int32) (hli : ¬ (0 ≤ li ∧ li < 3)) (sz : Nat) : Met l yX5_list wsX5_list ({ frames := 2, cells := 0, slots := 0, locals := 43 }) (PcW D cI cZ cR [.ref x, .int li, .int n] [(x, .inr (5, [.ref r, .ref t, .ref im, .int hi, .ref tx, .ref ch, .ref ro, .ref rf, .ref pl, .ref ot, .ref cl])), (rf, .inl (cI, 6, .inl F)), (ro, .inl (cR, 3, .inr (.inr (.inr (.inr rof)))))] sz) (va_Qi (fun (res : Int32) (u : (Nat → Int32)) => res = -1 ∧ u = rf_bump F (-1)) (Bw D (fun (u : (Nat → Int32)) => [(x, .inr (5, [.ref r, .ref t, .ref im, .int hi, .ref tx, .ref ch, .ref ro, .ref rf, .ref pl, .ref ot, .ref cl])), (rf, .inl (cI, 6, .inl u)), (ro, .inl (cR, 3, .inr (.inr (.inr (.inr rof)))))]) (va_A [(x, .inr (5, [.ref r, .ref t, .ref im, .int hi, .ref tx, .ref ch, .ref ro, .ref rf, .ref pl, .ref ot, .ref cl])), (rf, .inl (cI, 6, .inl F)), (ro, .inl (cR, 3, .inr (.inr (.inr (.inr rof)))))] sz)) (va_A [(x, .inr (5, [.ref r, .ref t, .ref im, .int hi, .ref tx, .ref ch, .ref ro, .ref rf, .ref pl, .ref ot, .ref cl])), (rf, .inl (cI, 6, .inl F)), (ro, .inl (cR, 3, .inr (.inr (.inr (.inr rof)))))] sz)) 0 0 (va_A [(x, .inr (5, [.ref r, .ref t, .ref im, .int hi, .ref tx, .ref ch, .ref ro, .ref rf, .ref pl, .ref ot, .ref cl])), (rf, .inl (cI, 6, .inl F)), (ro, .inl (cR, 3, .inr (.inr (.inr (.inr rof)))))] sz) := by
  refine Met.ofW (cc := cX5_list) (maxL := 4) (ret := (some .int)) (by decide) rfl ?_
  intro p e s m args below meth c s₁ B hml hv
  obtain ⟨rfl, hsz, hP, hK, hD0, hN⟩ := hv
  have hx := B.exec
  have hb := B.bytes
  have hr := B.returns
  have hts := atoms_spec (ws := wsX5_list) B.pre
  have hown : s.vm.findClass RX5 = some m.cls := findClass_of_methodNamed B.named
  have hlocks := B.notSynchronized
  subst hsz
  have hD := hD0.self (sz := s.heap.size)
  generalize hAe : va_A [(x, .inr (5, [.ref r, .ref t, .ref im, .int hi, .ref tx, .ref ch, .ref ro, .ref rf, .ref pl, .ref ot, .ref cl])), (rf, .inl (cI, 6, .inl F)), (ro, .inl (cR, 3, .inr (.inr (.inr (.inr rof)))))] s.heap.size = A at hD ⊢
  have hA : ∀ q : Nat, s.heap.size ≤ q → A q := fun q h => by rw [← hAe]; exact Or.inr h
  have hS : va_S A s.heap s.heap [] := va_S.rf
  have hP : va_P D vwCl [(x, .inr (5, [.ref r, .ref t, .ref im, .int hi, .ref tx, .ref ch, .ref ro, .ref rf, .ref pl, .ref ot, .ref cl])), (rf, .inl (cI, 6, .inl F)), (ro, .inl (cR, 3, .inr (.inr (.inr (.inr rof)))))] s.heap := hP
  have hl := lv_entry ([.ref x, .int li, .int n]) (n := 4) (Nat.le_of_ble_eq_true rfl)
  rw [lg_entry_eq]
  generalize (lg_sl ([.ref x, .int li, .int n]) ++ List.replicate (4 - (lg_sl ([.ref x, .int li, .int n])).length) Slot.unset).toArray = ls at hl ⊢
  have hl : lv_has ls 4 [(0, .ref x), (1, .int li), (2, .int n)] := hl
  refine lv_aload_n hx hb dX5_list_0 rfl (lv_at hl 0 rfl) ?_
  refine lv_iload_n hx hb dX5_list_1 rfl (lv_at hl 1 rfl) ?_
  refine rdV (As := [.int li]) (rest := []) ⟨hx, hb, hml, hown, hts⟩ (c_X5_rowOf_no l D cI cZ cR x r t im tx ch ro rf pl ot cl hi rof li hli) (cwV 1 hts gX5_list_X5_rowOf rfl rfl rfl (by decide +kernel) ⟨Nat.le_of_ble_eq_true rfl, Nat.le_of_ble_eq_true rfl⟩) hK hN hP 0 5 rfl rfl rfl [0, 2] rfl rfl hl.1 rfl (Nat.le_of_ble_eq_true rfl) dX5_list_2 ⟨Nat.zero_le _, Nat.zero_le _⟩ ?_
  refine lv_astore_nN (lv' := [(3, .null), (0, .ref x), (1, .int li), (2, .int n)]) hx hb dX5_list_5 rfl hl (by decide) rfl (fun ls hl => ?_)
  refine lv_aload_nN hx hb dX5_list_6 rfl (lv_at hl 0 rfl) ?_
  refine lv_ifnonnullN hx hb dX5_list_7 ?_
  refine lv_aload_n hx hb dX5_list_10 rfl (lv_at hl 1 rfl) ?_
  refine lv_iconst (v := (-1)) hx hb dX5_list_11 (by decide) ?_
  refine wrVi (As := [.int (-1)]) (rest := []) (wr := [(ro, .inl (cR, 3, .inr (.inr (.inr (.inr rof)))))]) (A := A) ⟨hx, hb, hml, hown, hts⟩ (c_X5_refuse l D cI cZ cR x r t im tx ch ro rf pl ot cl hi F (-1)  s.heap.size) (cwV 1 hts gX5_list_X5_refuse rfl rfl rfl (by decide +kernel) ⟨Nat.le_of_ble_eq_true rfl, Nat.le_of_ble_eq_true rfl⟩) hK hN hP hD hS hA 0 5 rfl rfl rfl [0, 1] [2] rfl (by decide) rfl (by decide) (by decide) rfl hl.1 rfl (Nat.le_of_ble_eq_true rfl) dX5_list_12 ⟨Nat.zero_le _, Nat.zero_le _⟩ (fun r_12 u H locs hw hP hD hS => ?_)
  obtain ⟨F_12, rfl⟩ : ∃ z, z = u := ⟨_, rfl⟩
  try dsimp only at hw
  obtain ⟨q1_12, q2_12⟩ := hw
  have q1_12 := q1_12.symm
  subst q1_12
  have q2_12 := q2_12.symm
  subst q2_12
  have hP : va_P D vwCl [(x, .inr (5, [.ref r, .ref t, .ref im, .int hi, .ref tx, .ref ch, .ref ro, .ref rf, .ref pl, .ref ot, .ref cl])), (rf, .inl (cI, 6, .inl (rf_bump F (-1)))), (ro, .inl (cR, 3, .inr (.inr (.inr (.inr rof)))))] H := hP.sub [1, 2, 0] rfl
  have hD : va_D A [(x, .inr (5, [.ref r, .ref t, .ref im, .int hi, .ref tx, .ref ch, .ref ro, .ref rf, .ref pl, .ref ot, .ref cl])), (rf, .inl (cI, 6, .inl (rf_bump F (-1)))), (ro, .inl (cR, 3, .inr (.inr (.inr (.inr rof)))))] := hD.sub [1, 2, 0] (by decide) rfl
  exact wrI (w1 := (fun (u : (Nat → Int32)) => [(x, .inr (5, [.ref r, .ref t, .ref im, .int hi, .ref tx, .ref ch, .ref ro, .ref rf, .ref pl, .ref ot, .ref cl])), (rf, .inl (cI, 6, .inl u)), (ro, .inl (cR, 3, .inr (.inr (.inr (.inr rof)))))])) (rf_bump F (-1)) hx hb hr hlocks dX5_list_15 hS (hP.sub [0, 1, 2] rfl) (hD.sub [0, 1, 2] (by decide) rfl) (by first | exact ⟨rfl, rfl⟩ | rfl | (simp [bi]; done))

set_option maxHeartbeats 4000000 in
set_option maxRecDepth 100000 in
theorem c_X5_put_no (l : Launch) (D : va_G) (cI cZ cR : ClassId) (x r t im tx ch ro rf pl ot cl : Nat) (hi : Int32) (F : Nat → Int32) (rof : Nat → Option Nat) (li i x0 : Int32) (hli : ¬ (0 ≤ li ∧ li < 3)) (sz : Nat) : Met l yX5_put wsX5_put ({ frames := 2, cells := 0, slots := 0, locals := 43 }) (PcW D cI cZ cR [.ref x, .int li, .int i, .int x0] [(x, .inr (5, [.ref r, .ref t, .ref im, .int hi, .ref tx, .ref ch, .ref ro, .ref rf, .ref pl, .ref ot, .ref cl])), (rf, .inl (cI, 6, .inl F)), (ro, .inl (cR, 3, .inr (.inr (.inr (.inr rof)))))] sz) (va_Qi (fun (res : Int32) (u : (Nat → Int32)) => res = -1 ∧ u = rf_bump F (-1)) (Bw D (fun (u : (Nat → Int32)) => [(x, .inr (5, [.ref r, .ref t, .ref im, .int hi, .ref tx, .ref ch, .ref ro, .ref rf, .ref pl, .ref ot, .ref cl])), (rf, .inl (cI, 6, .inl u)), (ro, .inl (cR, 3, .inr (.inr (.inr (.inr rof)))))]) (va_A [(x, .inr (5, [.ref r, .ref t, .ref im, .int hi, .ref tx, .ref ch, .ref ro, .ref rf, .ref pl, .ref ot, .ref cl])), (rf, .inl (cI, 6, .inl F)), (ro, .inl (cR, 3, .inr (.inr (.inr (.inr rof)))))] sz)) (va_A [(x, .inr (5, [.ref r, .ref t, .ref im, .int hi, .ref tx, .ref ch, .ref ro, .ref rf, .ref pl, .ref ot, .ref cl])), (rf, .inl (cI, 6, .inl F)), (ro, .inl (cR, 3, .inr (.inr (.inr (.inr rof)))))] sz)) 0 0 (va_A [(x, .inr (5, [.ref r, .ref t, .ref im, .int hi, .ref tx, .ref ch, .ref ro, .ref rf, .ref pl, .ref ot, .ref cl])), (rf, .inl (cI, 6, .inl F)), (ro, .inl (cR, 3, .inr (.inr (.inr (.inr rof)))))] sz) := by
  refine Met.ofW (cc := cX5_put) (maxL := 5) (ret := (some .int)) (by decide) rfl ?_
  intro p e s m args below meth c s₁ B hml hv
  obtain ⟨rfl, hsz, hP, hK, hD0, hN⟩ := hv
  have hx := B.exec
  have hb := B.bytes
  have hr := B.returns
  have hts := atoms_spec (ws := wsX5_put) B.pre
  have hown : s.vm.findClass RX5 = some m.cls := findClass_of_methodNamed B.named
  have hlocks := B.notSynchronized
  subst hsz
  have hD := hD0.self (sz := s.heap.size)
  generalize hAe : va_A [(x, .inr (5, [.ref r, .ref t, .ref im, .int hi, .ref tx, .ref ch, .ref ro, .ref rf, .ref pl, .ref ot, .ref cl])), (rf, .inl (cI, 6, .inl F)), (ro, .inl (cR, 3, .inr (.inr (.inr (.inr rof)))))] s.heap.size = A at hD ⊢
  have hA : ∀ q : Nat, s.heap.size ≤ q → A q := fun q h => by rw [← hAe]; exact Or.inr h
  have hS : va_S A s.heap s.heap [] := va_S.rf
  have hP : va_P D vwCl [(x, .inr (5, [.ref r, .ref t, .ref im, .int hi, .ref tx, .ref ch, .ref ro, .ref rf, .ref pl, .ref ot, .ref cl])), (rf, .inl (cI, 6, .inl F)), (ro, .inl (cR, 3, .inr (.inr (.inr (.inr rof)))))] s.heap := hP
  have hl := lv_entry ([.ref x, .int li, .int i, .int x0]) (n := 5) (Nat.le_of_ble_eq_true rfl)
  rw [lg_entry_eq]
  generalize (lg_sl ([.ref x, .int li, .int i, .int x0]) ++ List.replicate (5 - (lg_sl ([.ref x, .int li, .int i, .int x0])).length) Slot.unset).toArray = ls at hl ⊢
  have hl : lv_has ls 5 [(0, .ref x), (1, .int li), (2, .int i), (3, .int x0)] := hl
  refine lv_aload_n hx hb dX5_put_0 rfl (lv_at hl 0 rfl) ?_
  refine lv_iload_n hx hb dX5_put_1 rfl (lv_at hl 1 rfl) ?_
  refine rdV (As := [.int li]) (rest := []) ⟨hx, hb, hml, hown, hts⟩ (c_X5_rowOf_no l D cI cZ cR x r t im tx ch ro rf pl ot cl hi rof li hli) (cwV 1 hts gX5_put_X5_rowOf rfl rfl rfl (by decide +kernel) ⟨Nat.le_of_ble_eq_true rfl, Nat.le_of_ble_eq_true rfl⟩) hK hN hP 0 5 rfl rfl rfl [0, 2] rfl rfl hl.1 rfl (Nat.le_of_ble_eq_true rfl) dX5_put_2 ⟨Nat.zero_le _, Nat.zero_le _⟩ ?_
  refine lv_astoreN (lv' := [(4, .null), (0, .ref x), (1, .int li), (2, .int i), (3, .int x0)]) hx hb dX5_put_5 hl (by decide) rfl (fun ls hl => ?_)
  refine lv_aloadN hx hb dX5_put_7 (lv_at hl 0 rfl) ?_
  refine lv_ifnonnullN hx hb dX5_put_9 ?_
  refine lv_aload_n hx hb dX5_put_12 rfl (lv_at hl 1 rfl) ?_
  refine lv_iconst (v := (-1)) hx hb dX5_put_13 (by decide) ?_
  refine wrVi (As := [.int (-1)]) (rest := []) (wr := [(ro, .inl (cR, 3, .inr (.inr (.inr (.inr rof)))))]) (A := A) ⟨hx, hb, hml, hown, hts⟩ (c_X5_refuse l D cI cZ cR x r t im tx ch ro rf pl ot cl hi F (-1)  s.heap.size) (cwV 1 hts gX5_put_X5_refuse rfl rfl rfl (by decide +kernel) ⟨Nat.le_of_ble_eq_true rfl, Nat.le_of_ble_eq_true rfl⟩) hK hN hP hD hS hA 0 5 rfl rfl rfl [0, 1] [2] rfl (by decide) rfl (by decide) (by decide) rfl hl.1 rfl (Nat.le_of_ble_eq_true rfl) dX5_put_14 ⟨Nat.zero_le _, Nat.zero_le _⟩ (fun r_14 u H locs hw hP hD hS => ?_)
  obtain ⟨F_14, rfl⟩ : ∃ z, z = u := ⟨_, rfl⟩
  try dsimp only at hw
  obtain ⟨q1_14, q2_14⟩ := hw
  have q1_14 := q1_14.symm
  subst q1_14
  have q2_14 := q2_14.symm
  subst q2_14
  have hP : va_P D vwCl [(x, .inr (5, [.ref r, .ref t, .ref im, .int hi, .ref tx, .ref ch, .ref ro, .ref rf, .ref pl, .ref ot, .ref cl])), (rf, .inl (cI, 6, .inl (rf_bump F (-1)))), (ro, .inl (cR, 3, .inr (.inr (.inr (.inr rof)))))] H := hP.sub [1, 2, 0] rfl
  have hD : va_D A [(x, .inr (5, [.ref r, .ref t, .ref im, .int hi, .ref tx, .ref ch, .ref ro, .ref rf, .ref pl, .ref ot, .ref cl])), (rf, .inl (cI, 6, .inl (rf_bump F (-1)))), (ro, .inl (cR, 3, .inr (.inr (.inr (.inr rof)))))] := hD.sub [1, 2, 0] (by decide) rfl
  exact wrI (w1 := (fun (u : (Nat → Int32)) => [(x, .inr (5, [.ref r, .ref t, .ref im, .int hi, .ref tx, .ref ch, .ref ro, .ref rf, .ref pl, .ref ot, .ref cl])), (rf, .inl (cI, 6, .inl u)), (ro, .inl (cR, 3, .inr (.inr (.inr (.inr rof)))))])) (rf_bump F (-1)) hx hb hr hlocks dX5_put_17 hS (hP.sub [0, 1, 2] rfl) (hD.sub [0, 1, 2] (by decide) rfl) (by first | exact ⟨rfl, rfl⟩ | rfl | (simp [bi]; done))

set_option maxHeartbeats 4000000 in
set_option maxRecDepth 100000 in
theorem c_X5_look_no (l : Launch) (D : va_G) (cI cZ cR : ClassId) (x r t im tx ch ro rf pl ot cl : Nat) (hi : Int32) (F : Nat → Int32) (rof : Nat → Option Nat) (li i : Int32) (hli : ¬ (0 ≤ li ∧ li < 3)) (sz : Nat) : Met l yX5_look wsX5_look ({ frames := 3, cells := 0, slots := 0, locals := 64 }) (PcW D cI cZ cR [.ref x, .int li, .int i] [(x, .inr (5, [.ref r, .ref t, .ref im, .int hi, .ref tx, .ref ch, .ref ro, .ref rf, .ref pl, .ref ot, .ref cl])), (rf, .inl (cI, 6, .inl F)), (ro, .inl (cR, 3, .inr (.inr (.inr (.inr rof)))))] sz) (va_Ql (fun (res : Int64) (u : (Nat → Int32)) => res = 4000000000000000001 ∧ u = rf_bump F (-1)) (Bw D (fun (u : (Nat → Int32)) => [(x, .inr (5, [.ref r, .ref t, .ref im, .int hi, .ref tx, .ref ch, .ref ro, .ref rf, .ref pl, .ref ot, .ref cl])), (rf, .inl (cI, 6, .inl u)), (ro, .inl (cR, 3, .inr (.inr (.inr (.inr rof)))))]) (va_A [(x, .inr (5, [.ref r, .ref t, .ref im, .int hi, .ref tx, .ref ch, .ref ro, .ref rf, .ref pl, .ref ot, .ref cl])), (rf, .inl (cI, 6, .inl F)), (ro, .inl (cR, 3, .inr (.inr (.inr (.inr rof)))))] sz)) (va_A [(x, .inr (5, [.ref r, .ref t, .ref im, .int hi, .ref tx, .ref ch, .ref ro, .ref rf, .ref pl, .ref ot, .ref cl])), (rf, .inl (cI, 6, .inl F)), (ro, .inl (cR, 3, .inr (.inr (.inr (.inr rof)))))] sz)) 0 0 (va_A [(x, .inr (5, [.ref r, .ref t, .ref im, .int hi, .ref tx, .ref ch, .ref ro, .ref rf, .ref pl, .ref ot, .ref cl])), (rf, .inl (cI, 6, .inl F)), (ro, .inl (cR, 3, .inr (.inr (.inr (.inr rof)))))] sz) := by
  refine Met.ofW (cc := cX5_look) (maxL := 4) (ret := (some .long)) (by decide) rfl ?_
  intro p e s m args below meth c s₁ B hml hv
  obtain ⟨rfl, hsz, hP, hK, hD0, hN⟩ := hv
  have hx := B.exec
  have hb := B.bytes
  have hr := B.returns
  have hts := atoms_spec (ws := wsX5_look) B.pre
  have hown : s.vm.findClass RX5 = some m.cls := findClass_of_methodNamed B.named
  have hlocks := B.notSynchronized
  subst hsz
  have hD := hD0.self (sz := s.heap.size)
  generalize hAe : va_A [(x, .inr (5, [.ref r, .ref t, .ref im, .int hi, .ref tx, .ref ch, .ref ro, .ref rf, .ref pl, .ref ot, .ref cl])), (rf, .inl (cI, 6, .inl F)), (ro, .inl (cR, 3, .inr (.inr (.inr (.inr rof)))))] s.heap.size = A at hD ⊢
  have hA : ∀ q : Nat, s.heap.size ≤ q → A q := fun q h => by rw [← hAe]; exact Or.inr h
  have hS : va_S A s.heap s.heap [] := va_S.rf
  have hP : va_P D vwCl [(x, .inr (5, [.ref r, .ref t, .ref im, .int hi, .ref tx, .ref ch, .ref ro, .ref rf, .ref pl, .ref ot, .ref cl])), (rf, .inl (cI, 6, .inl F)), (ro, .inl (cR, 3, .inr (.inr (.inr (.inr rof)))))] s.heap := hP
  have hl := lv_entry ([.ref x, .int li, .int i]) (n := 4) (Nat.le_of_ble_eq_true rfl)
  rw [lg_entry_eq]
  generalize (lg_sl ([.ref x, .int li, .int i]) ++ List.replicate (4 - (lg_sl ([.ref x, .int li, .int i])).length) Slot.unset).toArray = ls at hl ⊢
  have hl : lv_has ls 4 [(0, .ref x), (1, .int li), (2, .int i)] := hl
  refine lv_aload_n hx hb dX5_look_0 rfl (lv_at hl 0 rfl) ?_
  refine lv_iload_n hx hb dX5_look_1 rfl (lv_at hl 1 rfl) ?_
  refine rdV (As := [.int li]) (rest := []) ⟨hx, hb, hml, hown, hts⟩ (c_X5_rowOf_no l D cI cZ cR x r t im tx ch ro rf pl ot cl hi rof li hli) (cwV 1 hts gX5_look_X5_rowOf rfl rfl rfl (by decide +kernel) ⟨Nat.le_of_ble_eq_true rfl, Nat.le_of_ble_eq_true rfl⟩) hK hN hP 0 5 rfl rfl rfl [0, 2] rfl rfl hl.1 rfl (Nat.le_of_ble_eq_true rfl) dX5_look_2 ⟨Nat.zero_le _, Nat.zero_le _⟩ ?_
  refine lv_astore_nN (lv' := [(3, .null), (0, .ref x), (1, .int li), (2, .int i)]) hx hb dX5_look_5 rfl hl (by decide) rfl (fun ls hl => ?_)
  refine lv_aload_nN hx hb dX5_look_6 rfl (lv_at hl 0 rfl) ?_
  refine lv_ifnonnullN hx hb dX5_look_7 ?_
  refine lv_aload_n hx hb dX5_look_10 rfl (lv_at hl 1 rfl) ?_
  refine lv_iconst (v := (-1)) hx hb dX5_look_11 (by decide) ?_
  refine wrVl (As := [.int (-1)]) (rest := []) (wr := [(ro, .inl (cR, 3, .inr (.inr (.inr (.inr rof)))))]) (A := A) ⟨hx, hb, hml, hown, hts⟩ (c_X5_refuseLong l D cI cZ cR x r t im tx ch ro rf pl ot cl hi F (-1)  s.heap.size) (cwV 1 hts gX5_look_X5_refuseLong rfl rfl rfl (by decide +kernel) ⟨Nat.le_of_ble_eq_true rfl, Nat.le_of_ble_eq_true rfl⟩) hK hN hP hD hS hA 0 5 rfl rfl rfl [0, 1] [2] rfl (by decide) rfl (by decide) (by decide) rfl hl.1 rfl (Nat.le_of_ble_eq_true rfl) dX5_look_12 ⟨Nat.zero_le _, Nat.zero_le _⟩ (fun r_12 u H locs hw hP hD hS => ?_)
  obtain ⟨F_12, rfl⟩ : ∃ z, z = u := ⟨_, rfl⟩
  try dsimp only at hw
  obtain ⟨q1_12, q2_12⟩ := hw
  have q1_12 := q1_12.symm
  subst q1_12
  have q2_12 := q2_12.symm
  subst q2_12
  have hP : va_P D vwCl [(x, .inr (5, [.ref r, .ref t, .ref im, .int hi, .ref tx, .ref ch, .ref ro, .ref rf, .ref pl, .ref ot, .ref cl])), (rf, .inl (cI, 6, .inl (rf_bump F (-1)))), (ro, .inl (cR, 3, .inr (.inr (.inr (.inr rof)))))] H := hP.sub [1, 2, 0] rfl
  have hD : va_D A [(x, .inr (5, [.ref r, .ref t, .ref im, .int hi, .ref tx, .ref ch, .ref ro, .ref rf, .ref pl, .ref ot, .ref cl])), (rf, .inl (cI, 6, .inl (rf_bump F (-1)))), (ro, .inl (cR, 3, .inr (.inr (.inr (.inr rof)))))] := hD.sub [1, 2, 0] (by decide) rfl
  exact wrL (w1 := (fun (u : (Nat → Int32)) => [(x, .inr (5, [.ref r, .ref t, .ref im, .int hi, .ref tx, .ref ch, .ref ro, .ref rf, .ref pl, .ref ot, .ref cl])), (rf, .inl (cI, 6, .inl u)), (ro, .inl (cR, 3, .inr (.inr (.inr (.inr rof)))))])) (rf_bump F (-1)) hx hb hr hlocks dX5_look_15 hS (hP.sub [0, 1, 2] rfl) (hD.sub [0, 1, 2] (by decide) rfl) (by first | exact ⟨rfl, rfl⟩ | rfl | (simp [bi]; done))

set_option maxHeartbeats 4000000 in
set_option maxRecDepth 100000 in
theorem c_X5_lays_no (l : Launch) (D : va_G) (cI cZ cR : ClassId) (x r t im tx ch ro rf pl ot cl : Nat) (hi : Int32) (F : Nat → Int32) (rof : Nat → Option Nat) (li i w : Int32) (hli : ¬ (0 ≤ li ∧ li < 3)) (sz : Nat) : Met l yX5_lays wsX5_lays ({ frames := 2, cells := 0, slots := 0, locals := 43 }) (PcW D cI cZ cR [.ref x, .int li, .int i, .int w] [(x, .inr (5, [.ref r, .ref t, .ref im, .int hi, .ref tx, .ref ch, .ref ro, .ref rf, .ref pl, .ref ot, .ref cl])), (rf, .inl (cI, 6, .inl F)), (ro, .inl (cR, 3, .inr (.inr (.inr (.inr rof)))))] sz) (va_Qi (fun (res : Int32) (u : (Nat → Int32)) => res = -1 ∧ u = rf_bump F (-1)) (Bw D (fun (u : (Nat → Int32)) => [(x, .inr (5, [.ref r, .ref t, .ref im, .int hi, .ref tx, .ref ch, .ref ro, .ref rf, .ref pl, .ref ot, .ref cl])), (rf, .inl (cI, 6, .inl u)), (ro, .inl (cR, 3, .inr (.inr (.inr (.inr rof)))))]) (va_A [(x, .inr (5, [.ref r, .ref t, .ref im, .int hi, .ref tx, .ref ch, .ref ro, .ref rf, .ref pl, .ref ot, .ref cl])), (rf, .inl (cI, 6, .inl F)), (ro, .inl (cR, 3, .inr (.inr (.inr (.inr rof)))))] sz)) (va_A [(x, .inr (5, [.ref r, .ref t, .ref im, .int hi, .ref tx, .ref ch, .ref ro, .ref rf, .ref pl, .ref ot, .ref cl])), (rf, .inl (cI, 6, .inl F)), (ro, .inl (cR, 3, .inr (.inr (.inr (.inr rof)))))] sz)) 0 0 (va_A [(x, .inr (5, [.ref r, .ref t, .ref im, .int hi, .ref tx, .ref ch, .ref ro, .ref rf, .ref pl, .ref ot, .ref cl])), (rf, .inl (cI, 6, .inl F)), (ro, .inl (cR, 3, .inr (.inr (.inr (.inr rof)))))] sz) := by
  refine Met.ofW (cc := cX5_lays) (maxL := 6) (ret := (some .int)) (by decide) rfl ?_
  intro p e s m args below meth c s₁ B hml hv
  obtain ⟨rfl, hsz, hP, hK, hD0, hN⟩ := hv
  have hx := B.exec
  have hb := B.bytes
  have hr := B.returns
  have hts := atoms_spec (ws := wsX5_lays) B.pre
  have hown : s.vm.findClass RX5 = some m.cls := findClass_of_methodNamed B.named
  have hlocks := B.notSynchronized
  subst hsz
  have hD := hD0.self (sz := s.heap.size)
  generalize hAe : va_A [(x, .inr (5, [.ref r, .ref t, .ref im, .int hi, .ref tx, .ref ch, .ref ro, .ref rf, .ref pl, .ref ot, .ref cl])), (rf, .inl (cI, 6, .inl F)), (ro, .inl (cR, 3, .inr (.inr (.inr (.inr rof)))))] s.heap.size = A at hD ⊢
  have hA : ∀ q : Nat, s.heap.size ≤ q → A q := fun q h => by rw [← hAe]; exact Or.inr h
  have hS : va_S A s.heap s.heap [] := va_S.rf
  have hP : va_P D vwCl [(x, .inr (5, [.ref r, .ref t, .ref im, .int hi, .ref tx, .ref ch, .ref ro, .ref rf, .ref pl, .ref ot, .ref cl])), (rf, .inl (cI, 6, .inl F)), (ro, .inl (cR, 3, .inr (.inr (.inr (.inr rof)))))] s.heap := hP
  have hl := lv_entry ([.ref x, .int li, .int i, .int w]) (n := 6) (Nat.le_of_ble_eq_true rfl)
  rw [lg_entry_eq]
  generalize (lg_sl ([.ref x, .int li, .int i, .int w]) ++ List.replicate (6 - (lg_sl ([.ref x, .int li, .int i, .int w])).length) Slot.unset).toArray = ls at hl ⊢
  have hl : lv_has ls 6 [(0, .ref x), (1, .int li), (2, .int i), (3, .int w)] := hl
  refine lv_aload_n hx hb dX5_lays_0 rfl (lv_at hl 0 rfl) ?_
  refine lv_iload_n hx hb dX5_lays_1 rfl (lv_at hl 1 rfl) ?_
  refine rdV (As := [.int li]) (rest := []) ⟨hx, hb, hml, hown, hts⟩ (c_X5_rowOf_no l D cI cZ cR x r t im tx ch ro rf pl ot cl hi rof li hli) (cwV 1 hts gX5_lays_X5_rowOf rfl rfl rfl (by decide +kernel) ⟨Nat.le_of_ble_eq_true rfl, Nat.le_of_ble_eq_true rfl⟩) hK hN hP 0 5 rfl rfl rfl [0, 2] rfl rfl hl.1 rfl (Nat.le_of_ble_eq_true rfl) dX5_lays_2 ⟨Nat.zero_le _, Nat.zero_le _⟩ ?_
  refine lv_astoreN (lv' := [(4, .null), (0, .ref x), (1, .int li), (2, .int i), (3, .int w)]) hx hb dX5_lays_5 hl (by decide) rfl (fun ls hl => ?_)
  refine lv_aloadN hx hb dX5_lays_7 (lv_at hl 0 rfl) ?_
  refine lv_ifnullN (tgt := 23) hx hb dX5_lays_9 (by decide) ?_
  refine lv_aload_n hx hb dX5_lays_23 rfl (lv_at hl 1 rfl) ?_
  refine lv_iconst (v := (-1)) hx hb dX5_lays_24 (by decide) ?_
  refine wrVi (As := [.int (-1)]) (rest := []) (wr := [(ro, .inl (cR, 3, .inr (.inr (.inr (.inr rof)))))]) (A := A) ⟨hx, hb, hml, hown, hts⟩ (c_X5_refuse l D cI cZ cR x r t im tx ch ro rf pl ot cl hi F (-1)  s.heap.size) (cwV 1 hts gX5_lays_X5_refuse rfl rfl rfl (by decide +kernel) ⟨Nat.le_of_ble_eq_true rfl, Nat.le_of_ble_eq_true rfl⟩) hK hN hP hD hS hA 0 5 rfl rfl rfl [0, 1] [2] rfl (by decide) rfl (by decide) (by decide) rfl hl.1 rfl (Nat.le_of_ble_eq_true rfl) dX5_lays_25 ⟨Nat.zero_le _, Nat.zero_le _⟩ (fun r_25 u H locs hw hP hD hS => ?_)
  obtain ⟨F_25, rfl⟩ : ∃ z, z = u := ⟨_, rfl⟩
  try dsimp only at hw
  obtain ⟨q1_25, q2_25⟩ := hw
  have q1_25 := q1_25.symm
  subst q1_25
  have q2_25 := q2_25.symm
  subst q2_25
  have hP : va_P D vwCl [(x, .inr (5, [.ref r, .ref t, .ref im, .int hi, .ref tx, .ref ch, .ref ro, .ref rf, .ref pl, .ref ot, .ref cl])), (rf, .inl (cI, 6, .inl (rf_bump F (-1)))), (ro, .inl (cR, 3, .inr (.inr (.inr (.inr rof)))))] H := hP.sub [1, 2, 0] rfl
  have hD : va_D A [(x, .inr (5, [.ref r, .ref t, .ref im, .int hi, .ref tx, .ref ch, .ref ro, .ref rf, .ref pl, .ref ot, .ref cl])), (rf, .inl (cI, 6, .inl (rf_bump F (-1)))), (ro, .inl (cR, 3, .inr (.inr (.inr (.inr rof)))))] := hD.sub [1, 2, 0] (by decide) rfl
  exact wrI (w1 := (fun (u : (Nat → Int32)) => [(x, .inr (5, [.ref r, .ref t, .ref im, .int hi, .ref tx, .ref ch, .ref ro, .ref rf, .ref pl, .ref ot, .ref cl])), (rf, .inl (cI, 6, .inl u)), (ro, .inl (cR, 3, .inr (.inr (.inr (.inr rof)))))])) (rf_bump F (-1)) hx hb hr hlocks dX5_lays_28 hS (hP.sub [0, 1, 2] rfl) (hD.sub [0, 1, 2] (by decide) rfl) (by first | exact ⟨rfl, rfl⟩ | rfl | (simp [bi]; done))

set_option maxHeartbeats 4000000 in
set_option maxRecDepth 100000 in
theorem c_X5_judge_no (l : Launch) (D : va_G) (cI cZ cR : ClassId) (x r t im tx ch ro rf pl ot cl : Nat) (hi : Int32) (F : Nat → Int32) (rof : Nat → Option Nat) (li w : Int32) (hli : ¬ (0 ≤ li ∧ li < 3)) (sz : Nat) : Met l yX5_judge wsX5_judge ({ frames := 2, cells := 0, slots := 0, locals := 43 }) (PcW D cI cZ cR [.ref x, .int li, .int w] [(x, .inr (5, [.ref r, .ref t, .ref im, .int hi, .ref tx, .ref ch, .ref ro, .ref rf, .ref pl, .ref ot, .ref cl])), (rf, .inl (cI, 6, .inl F)), (ro, .inl (cR, 3, .inr (.inr (.inr (.inr rof)))))] sz) (va_Qi (fun (res : Int32) (u : (Nat → Int32)) => res = -1 ∧ u = rf_bump F (-1)) (Bw D (fun (u : (Nat → Int32)) => [(x, .inr (5, [.ref r, .ref t, .ref im, .int hi, .ref tx, .ref ch, .ref ro, .ref rf, .ref pl, .ref ot, .ref cl])), (rf, .inl (cI, 6, .inl u)), (ro, .inl (cR, 3, .inr (.inr (.inr (.inr rof)))))]) (va_A [(x, .inr (5, [.ref r, .ref t, .ref im, .int hi, .ref tx, .ref ch, .ref ro, .ref rf, .ref pl, .ref ot, .ref cl])), (rf, .inl (cI, 6, .inl F)), (ro, .inl (cR, 3, .inr (.inr (.inr (.inr rof)))))] sz)) (va_A [(x, .inr (5, [.ref r, .ref t, .ref im, .int hi, .ref tx, .ref ch, .ref ro, .ref rf, .ref pl, .ref ot, .ref cl])), (rf, .inl (cI, 6, .inl F)), (ro, .inl (cR, 3, .inr (.inr (.inr (.inr rof)))))] sz)) 0 0 (va_A [(x, .inr (5, [.ref r, .ref t, .ref im, .int hi, .ref tx, .ref ch, .ref ro, .ref rf, .ref pl, .ref ot, .ref cl])), (rf, .inl (cI, 6, .inl F)), (ro, .inl (cR, 3, .inr (.inr (.inr (.inr rof)))))] sz) := by
  refine Met.ofW (cc := cX5_judge) (maxL := 4) (ret := (some .int)) (by decide) rfl ?_
  intro p e s m args below meth c s₁ B hml hv
  obtain ⟨rfl, hsz, hP, hK, hD0, hN⟩ := hv
  have hx := B.exec
  have hb := B.bytes
  have hr := B.returns
  have hts := atoms_spec (ws := wsX5_judge) B.pre
  have hown : s.vm.findClass RX5 = some m.cls := findClass_of_methodNamed B.named
  have hlocks := B.notSynchronized
  subst hsz
  have hD := hD0.self (sz := s.heap.size)
  generalize hAe : va_A [(x, .inr (5, [.ref r, .ref t, .ref im, .int hi, .ref tx, .ref ch, .ref ro, .ref rf, .ref pl, .ref ot, .ref cl])), (rf, .inl (cI, 6, .inl F)), (ro, .inl (cR, 3, .inr (.inr (.inr (.inr rof)))))] s.heap.size = A at hD ⊢
  have hA : ∀ q : Nat, s.heap.size ≤ q → A q := fun q h => by rw [← hAe]; exact Or.inr h
  have hS : va_S A s.heap s.heap [] := va_S.rf
  have hP : va_P D vwCl [(x, .inr (5, [.ref r, .ref t, .ref im, .int hi, .ref tx, .ref ch, .ref ro, .ref rf, .ref pl, .ref ot, .ref cl])), (rf, .inl (cI, 6, .inl F)), (ro, .inl (cR, 3, .inr (.inr (.inr (.inr rof)))))] s.heap := hP
  have hl := lv_entry ([.ref x, .int li, .int w]) (n := 4) (Nat.le_of_ble_eq_true rfl)
  rw [lg_entry_eq]
  generalize (lg_sl ([.ref x, .int li, .int w]) ++ List.replicate (4 - (lg_sl ([.ref x, .int li, .int w])).length) Slot.unset).toArray = ls at hl ⊢
  have hl : lv_has ls 4 [(0, .ref x), (1, .int li), (2, .int w)] := hl
  refine lv_aload_n hx hb dX5_judge_0 rfl (lv_at hl 0 rfl) ?_
  refine lv_iload_n hx hb dX5_judge_1 rfl (lv_at hl 1 rfl) ?_
  refine rdV (As := [.int li]) (rest := []) ⟨hx, hb, hml, hown, hts⟩ (c_X5_rowOf_no l D cI cZ cR x r t im tx ch ro rf pl ot cl hi rof li hli) (cwV 1 hts gX5_judge_X5_rowOf rfl rfl rfl (by decide +kernel) ⟨Nat.le_of_ble_eq_true rfl, Nat.le_of_ble_eq_true rfl⟩) hK hN hP 0 5 rfl rfl rfl [0, 2] rfl rfl hl.1 rfl (Nat.le_of_ble_eq_true rfl) dX5_judge_2 ⟨Nat.zero_le _, Nat.zero_le _⟩ ?_
  refine lv_astore_nN (lv' := [(3, .null), (0, .ref x), (1, .int li), (2, .int w)]) hx hb dX5_judge_5 rfl hl (by decide) rfl (fun ls hl => ?_)
  refine lv_aload_nN hx hb dX5_judge_6 rfl (lv_at hl 0 rfl) ?_
  refine lv_ifnullN (tgt := 21) hx hb dX5_judge_7 (by decide) ?_
  refine lv_aload_n hx hb dX5_judge_21 rfl (lv_at hl 1 rfl) ?_
  refine lv_iconst (v := (-1)) hx hb dX5_judge_22 (by decide) ?_
  refine wrVi (As := [.int (-1)]) (rest := []) (wr := [(ro, .inl (cR, 3, .inr (.inr (.inr (.inr rof)))))]) (A := A) ⟨hx, hb, hml, hown, hts⟩ (c_X5_refuse l D cI cZ cR x r t im tx ch ro rf pl ot cl hi F (-1)  s.heap.size) (cwV 1 hts gX5_judge_X5_refuse rfl rfl rfl (by decide +kernel) ⟨Nat.le_of_ble_eq_true rfl, Nat.le_of_ble_eq_true rfl⟩) hK hN hP hD hS hA 0 5 rfl rfl rfl [0, 1] [2] rfl (by decide) rfl (by decide) (by decide) rfl hl.1 rfl (Nat.le_of_ble_eq_true rfl) dX5_judge_23 ⟨Nat.zero_le _, Nat.zero_le _⟩ (fun r_23 u H locs hw hP hD hS => ?_)
  obtain ⟨F_23, rfl⟩ : ∃ z, z = u := ⟨_, rfl⟩
  try dsimp only at hw
  obtain ⟨q1_23, q2_23⟩ := hw
  have q1_23 := q1_23.symm
  subst q1_23
  have q2_23 := q2_23.symm
  subst q2_23
  have hP : va_P D vwCl [(x, .inr (5, [.ref r, .ref t, .ref im, .int hi, .ref tx, .ref ch, .ref ro, .ref rf, .ref pl, .ref ot, .ref cl])), (rf, .inl (cI, 6, .inl (rf_bump F (-1)))), (ro, .inl (cR, 3, .inr (.inr (.inr (.inr rof)))))] H := hP.sub [1, 2, 0] rfl
  have hD : va_D A [(x, .inr (5, [.ref r, .ref t, .ref im, .int hi, .ref tx, .ref ch, .ref ro, .ref rf, .ref pl, .ref ot, .ref cl])), (rf, .inl (cI, 6, .inl (rf_bump F (-1)))), (ro, .inl (cR, 3, .inr (.inr (.inr (.inr rof)))))] := hD.sub [1, 2, 0] (by decide) rfl
  exact wrI (w1 := (fun (u : (Nat → Int32)) => [(x, .inr (5, [.ref r, .ref t, .ref im, .int hi, .ref tx, .ref ch, .ref ro, .ref rf, .ref pl, .ref ot, .ref cl])), (rf, .inl (cI, 6, .inl u)), (ro, .inl (cR, 3, .inr (.inr (.inr (.inr rof)))))])) (rf_bump F (-1)) hx hb hr hlocks dX5_judge_26 hS (hP.sub [0, 1, 2] rfl) (hD.sub [0, 1, 2] (by decide) rfl) (by first | exact ⟨rfl, rfl⟩ | rfl | (simp [bi]; done))

set_option maxHeartbeats 4000000 in
set_option maxRecDepth 100000 in
theorem c_X5_steps_no (l : Launch) (D : va_G) (cI cZ cR : ClassId) (x r t im tx ch ro rf pl ot cl : Nat) (hi : Int32) (F : Nat → Int32) (rof : Nat → Option Nat) (li k : Int32) (hli : ¬ (0 ≤ li ∧ li < 3)) (sz : Nat) : Met l yX5_steps wsX5_steps ({ frames := 2, cells := 0, slots := 0, locals := 43 }) (PcW D cI cZ cR [.ref x, .int li, .int k] [(x, .inr (5, [.ref r, .ref t, .ref im, .int hi, .ref tx, .ref ch, .ref ro, .ref rf, .ref pl, .ref ot, .ref cl])), (rf, .inl (cI, 6, .inl F)), (ro, .inl (cR, 3, .inr (.inr (.inr (.inr rof)))))] sz) (va_Qi (fun (res : Int32) (u : (Nat → Int32)) => res = -1 ∧ u = rf_bump F (-1)) (Bw D (fun (u : (Nat → Int32)) => [(x, .inr (5, [.ref r, .ref t, .ref im, .int hi, .ref tx, .ref ch, .ref ro, .ref rf, .ref pl, .ref ot, .ref cl])), (rf, .inl (cI, 6, .inl u)), (ro, .inl (cR, 3, .inr (.inr (.inr (.inr rof)))))]) (va_A [(x, .inr (5, [.ref r, .ref t, .ref im, .int hi, .ref tx, .ref ch, .ref ro, .ref rf, .ref pl, .ref ot, .ref cl])), (rf, .inl (cI, 6, .inl F)), (ro, .inl (cR, 3, .inr (.inr (.inr (.inr rof)))))] sz)) (va_A [(x, .inr (5, [.ref r, .ref t, .ref im, .int hi, .ref tx, .ref ch, .ref ro, .ref rf, .ref pl, .ref ot, .ref cl])), (rf, .inl (cI, 6, .inl F)), (ro, .inl (cR, 3, .inr (.inr (.inr (.inr rof)))))] sz)) 0 0 (va_A [(x, .inr (5, [.ref r, .ref t, .ref im, .int hi, .ref tx, .ref ch, .ref ro, .ref rf, .ref pl, .ref ot, .ref cl])), (rf, .inl (cI, 6, .inl F)), (ro, .inl (cR, 3, .inr (.inr (.inr (.inr rof)))))] sz) := by
  refine Met.ofW (cc := cX5_steps) (maxL := 5) (ret := (some .int)) (by decide) rfl ?_
  intro p e s m args below meth c s₁ B hml hv
  obtain ⟨rfl, hsz, hP, hK, hD0, hN⟩ := hv
  have hx := B.exec
  have hb := B.bytes
  have hr := B.returns
  have hts := atoms_spec (ws := wsX5_steps) B.pre
  have hown : s.vm.findClass RX5 = some m.cls := findClass_of_methodNamed B.named
  have hlocks := B.notSynchronized
  subst hsz
  have hD := hD0.self (sz := s.heap.size)
  generalize hAe : va_A [(x, .inr (5, [.ref r, .ref t, .ref im, .int hi, .ref tx, .ref ch, .ref ro, .ref rf, .ref pl, .ref ot, .ref cl])), (rf, .inl (cI, 6, .inl F)), (ro, .inl (cR, 3, .inr (.inr (.inr (.inr rof)))))] s.heap.size = A at hD ⊢
  have hA : ∀ q : Nat, s.heap.size ≤ q → A q := fun q h => by rw [← hAe]; exact Or.inr h
  have hS : va_S A s.heap s.heap [] := va_S.rf
  have hP : va_P D vwCl [(x, .inr (5, [.ref r, .ref t, .ref im, .int hi, .ref tx, .ref ch, .ref ro, .ref rf, .ref pl, .ref ot, .ref cl])), (rf, .inl (cI, 6, .inl F)), (ro, .inl (cR, 3, .inr (.inr (.inr (.inr rof)))))] s.heap := hP
  have hl := lv_entry ([.ref x, .int li, .int k]) (n := 5) (Nat.le_of_ble_eq_true rfl)
  rw [lg_entry_eq]
  generalize (lg_sl ([.ref x, .int li, .int k]) ++ List.replicate (5 - (lg_sl ([.ref x, .int li, .int k])).length) Slot.unset).toArray = ls at hl ⊢
  have hl : lv_has ls 5 [(0, .ref x), (1, .int li), (2, .int k)] := hl
  refine lv_aload_n hx hb dX5_steps_0 rfl (lv_at hl 0 rfl) ?_
  refine lv_iload_n hx hb dX5_steps_1 rfl (lv_at hl 1 rfl) ?_
  refine rdV (As := [.int li]) (rest := []) ⟨hx, hb, hml, hown, hts⟩ (c_X5_rowOf_no l D cI cZ cR x r t im tx ch ro rf pl ot cl hi rof li hli) (cwV 1 hts gX5_steps_X5_rowOf rfl rfl rfl (by decide +kernel) ⟨Nat.le_of_ble_eq_true rfl, Nat.le_of_ble_eq_true rfl⟩) hK hN hP 0 5 rfl rfl rfl [0, 2] rfl rfl hl.1 rfl (Nat.le_of_ble_eq_true rfl) dX5_steps_2 ⟨Nat.zero_le _, Nat.zero_le _⟩ ?_
  refine lv_astore_nN (lv' := [(3, .null), (0, .ref x), (1, .int li), (2, .int k)]) hx hb dX5_steps_5 rfl hl (by decide) rfl (fun ls hl => ?_)
  refine lv_aload_nN hx hb dX5_steps_6 rfl (lv_at hl 0 rfl) ?_
  refine lv_ifnonnullN hx hb dX5_steps_7 ?_
  refine lv_aload_n hx hb dX5_steps_10 rfl (lv_at hl 1 rfl) ?_
  refine lv_iconst (v := (-1)) hx hb dX5_steps_11 (by decide) ?_
  refine wrVi (As := [.int (-1)]) (rest := []) (wr := [(ro, .inl (cR, 3, .inr (.inr (.inr (.inr rof)))))]) (A := A) ⟨hx, hb, hml, hown, hts⟩ (c_X5_refuse l D cI cZ cR x r t im tx ch ro rf pl ot cl hi F (-1)  s.heap.size) (cwV 1 hts gX5_steps_X5_refuse rfl rfl rfl (by decide +kernel) ⟨Nat.le_of_ble_eq_true rfl, Nat.le_of_ble_eq_true rfl⟩) hK hN hP hD hS hA 0 5 rfl rfl rfl [0, 1] [2] rfl (by decide) rfl (by decide) (by decide) rfl hl.1 rfl (Nat.le_of_ble_eq_true rfl) dX5_steps_12 ⟨Nat.zero_le _, Nat.zero_le _⟩ (fun r_12 u H locs hw hP hD hS => ?_)
  obtain ⟨F_12, rfl⟩ : ∃ z, z = u := ⟨_, rfl⟩
  try dsimp only at hw
  obtain ⟨q1_12, q2_12⟩ := hw
  have q1_12 := q1_12.symm
  subst q1_12
  have q2_12 := q2_12.symm
  subst q2_12
  have hP : va_P D vwCl [(x, .inr (5, [.ref r, .ref t, .ref im, .int hi, .ref tx, .ref ch, .ref ro, .ref rf, .ref pl, .ref ot, .ref cl])), (rf, .inl (cI, 6, .inl (rf_bump F (-1)))), (ro, .inl (cR, 3, .inr (.inr (.inr (.inr rof)))))] H := hP.sub [1, 2, 0] rfl
  have hD : va_D A [(x, .inr (5, [.ref r, .ref t, .ref im, .int hi, .ref tx, .ref ch, .ref ro, .ref rf, .ref pl, .ref ot, .ref cl])), (rf, .inl (cI, 6, .inl (rf_bump F (-1)))), (ro, .inl (cR, 3, .inr (.inr (.inr (.inr rof)))))] := hD.sub [1, 2, 0] (by decide) rfl
  exact wrI (w1 := (fun (u : (Nat → Int32)) => [(x, .inr (5, [.ref r, .ref t, .ref im, .int hi, .ref tx, .ref ch, .ref ro, .ref rf, .ref pl, .ref ot, .ref cl])), (rf, .inl (cI, 6, .inl u)), (ro, .inl (cR, 3, .inr (.inr (.inr (.inr rof)))))])) (rf_bump F (-1)) hx hb hr hlocks dX5_steps_15 hS (hP.sub [0, 1, 2] rfl) (hD.sub [0, 1, 2] (by decide) rfl) (by first | exact ⟨rfl, rfl⟩ | rfl | (simp [bi]; done))

set_option maxHeartbeats 4000000 in
set_option maxRecDepth 100000 in
theorem c_X5_kinds_no (l : Launch) (D : va_G) (cI cZ cR : ClassId) (x r t im tx ch ro rf pl ot cl : Nat) (hi : Int32) (F : Nat → Int32) (rof : Nat → Option Nat) (li w : Int32) (hli : ¬ (0 ≤ li ∧ li < 3)) (sz : Nat) : Met l yX5_kinds wsX5_kinds ({ frames := 2, cells := 0, slots := 0, locals := 43 }) (PcW D cI cZ cR [.ref x, .int li, .int w] [(x, .inr (5, [.ref r, .ref t, .ref im, .int hi, .ref tx, .ref ch, .ref ro, .ref rf, .ref pl, .ref ot, .ref cl])), (rf, .inl (cI, 6, .inl F)), (ro, .inl (cR, 3, .inr (.inr (.inr (.inr rof)))))] sz) (va_Qi (fun (res : Int32) (u : (Nat → Int32)) => res = -1 ∧ u = rf_bump F (-1)) (Bw D (fun (u : (Nat → Int32)) => [(x, .inr (5, [.ref r, .ref t, .ref im, .int hi, .ref tx, .ref ch, .ref ro, .ref rf, .ref pl, .ref ot, .ref cl])), (rf, .inl (cI, 6, .inl u)), (ro, .inl (cR, 3, .inr (.inr (.inr (.inr rof)))))]) (va_A [(x, .inr (5, [.ref r, .ref t, .ref im, .int hi, .ref tx, .ref ch, .ref ro, .ref rf, .ref pl, .ref ot, .ref cl])), (rf, .inl (cI, 6, .inl F)), (ro, .inl (cR, 3, .inr (.inr (.inr (.inr rof)))))] sz)) (va_A [(x, .inr (5, [.ref r, .ref t, .ref im, .int hi, .ref tx, .ref ch, .ref ro, .ref rf, .ref pl, .ref ot, .ref cl])), (rf, .inl (cI, 6, .inl F)), (ro, .inl (cR, 3, .inr (.inr (.inr (.inr rof)))))] sz)) 0 0 (va_A [(x, .inr (5, [.ref r, .ref t, .ref im, .int hi, .ref tx, .ref ch, .ref ro, .ref rf, .ref pl, .ref ot, .ref cl])), (rf, .inl (cI, 6, .inl F)), (ro, .inl (cR, 3, .inr (.inr (.inr (.inr rof)))))] sz) := by
  refine Met.ofW (cc := cX5_kinds) (maxL := 6) (ret := (some .int)) (by decide) rfl ?_
  intro p e s m args below meth c s₁ B hml hv
  obtain ⟨rfl, hsz, hP, hK, hD0, hN⟩ := hv
  have hx := B.exec
  have hb := B.bytes
  have hr := B.returns
  have hts := atoms_spec (ws := wsX5_kinds) B.pre
  have hown : s.vm.findClass RX5 = some m.cls := findClass_of_methodNamed B.named
  have hlocks := B.notSynchronized
  subst hsz
  have hD := hD0.self (sz := s.heap.size)
  generalize hAe : va_A [(x, .inr (5, [.ref r, .ref t, .ref im, .int hi, .ref tx, .ref ch, .ref ro, .ref rf, .ref pl, .ref ot, .ref cl])), (rf, .inl (cI, 6, .inl F)), (ro, .inl (cR, 3, .inr (.inr (.inr (.inr rof)))))] s.heap.size = A at hD ⊢
  have hA : ∀ q : Nat, s.heap.size ≤ q → A q := fun q h => by rw [← hAe]; exact Or.inr h
  have hS : va_S A s.heap s.heap [] := va_S.rf
  have hP : va_P D vwCl [(x, .inr (5, [.ref r, .ref t, .ref im, .int hi, .ref tx, .ref ch, .ref ro, .ref rf, .ref pl, .ref ot, .ref cl])), (rf, .inl (cI, 6, .inl F)), (ro, .inl (cR, 3, .inr (.inr (.inr (.inr rof)))))] s.heap := hP
  have hl := lv_entry ([.ref x, .int li, .int w]) (n := 6) (Nat.le_of_ble_eq_true rfl)
  rw [lg_entry_eq]
  generalize (lg_sl ([.ref x, .int li, .int w]) ++ List.replicate (6 - (lg_sl ([.ref x, .int li, .int w])).length) Slot.unset).toArray = ls at hl ⊢
  have hl : lv_has ls 6 [(0, .ref x), (1, .int li), (2, .int w)] := hl
  refine lv_aload_n hx hb dX5_kinds_0 rfl (lv_at hl 0 rfl) ?_
  refine lv_iload_n hx hb dX5_kinds_1 rfl (lv_at hl 1 rfl) ?_
  refine rdV (As := [.int li]) (rest := []) ⟨hx, hb, hml, hown, hts⟩ (c_X5_rowOf_no l D cI cZ cR x r t im tx ch ro rf pl ot cl hi rof li hli) (cwV 1 hts gX5_kinds_X5_rowOf rfl rfl rfl (by decide +kernel) ⟨Nat.le_of_ble_eq_true rfl, Nat.le_of_ble_eq_true rfl⟩) hK hN hP 0 5 rfl rfl rfl [0, 2] rfl rfl hl.1 rfl (Nat.le_of_ble_eq_true rfl) dX5_kinds_2 ⟨Nat.zero_le _, Nat.zero_le _⟩ ?_
  refine lv_astore_nN (lv' := [(3, .null), (0, .ref x), (1, .int li), (2, .int w)]) hx hb dX5_kinds_5 rfl hl (by decide) rfl (fun ls hl => ?_)
  refine lv_aload_nN hx hb dX5_kinds_6 rfl (lv_at hl 0 rfl) ?_
  refine lv_ifnullN (tgt := 21) hx hb dX5_kinds_7 (by decide) ?_
  refine lv_aload_n hx hb dX5_kinds_21 rfl (lv_at hl 1 rfl) ?_
  refine lv_iconst (v := (-1)) hx hb dX5_kinds_22 (by decide) ?_
  refine wrVi (As := [.int (-1)]) (rest := []) (wr := [(ro, .inl (cR, 3, .inr (.inr (.inr (.inr rof)))))]) (A := A) ⟨hx, hb, hml, hown, hts⟩ (c_X5_refuse l D cI cZ cR x r t im tx ch ro rf pl ot cl hi F (-1)  s.heap.size) (cwV 1 hts gX5_kinds_X5_refuse rfl rfl rfl (by decide +kernel) ⟨Nat.le_of_ble_eq_true rfl, Nat.le_of_ble_eq_true rfl⟩) hK hN hP hD hS hA 0 5 rfl rfl rfl [0, 1] [2] rfl (by decide) rfl (by decide) (by decide) rfl hl.1 rfl (Nat.le_of_ble_eq_true rfl) dX5_kinds_23 ⟨Nat.zero_le _, Nat.zero_le _⟩ (fun r_23 u H locs hw hP hD hS => ?_)
  obtain ⟨F_23, rfl⟩ : ∃ z, z = u := ⟨_, rfl⟩
  try dsimp only at hw
  obtain ⟨q1_23, q2_23⟩ := hw
  have q1_23 := q1_23.symm
  subst q1_23
  have q2_23 := q2_23.symm
  subst q2_23
  have hP : va_P D vwCl [(x, .inr (5, [.ref r, .ref t, .ref im, .int hi, .ref tx, .ref ch, .ref ro, .ref rf, .ref pl, .ref ot, .ref cl])), (rf, .inl (cI, 6, .inl (rf_bump F (-1)))), (ro, .inl (cR, 3, .inr (.inr (.inr (.inr rof)))))] H := hP.sub [1, 2, 0] rfl
  have hD : va_D A [(x, .inr (5, [.ref r, .ref t, .ref im, .int hi, .ref tx, .ref ch, .ref ro, .ref rf, .ref pl, .ref ot, .ref cl])), (rf, .inl (cI, 6, .inl (rf_bump F (-1)))), (ro, .inl (cR, 3, .inr (.inr (.inr (.inr rof)))))] := hD.sub [1, 2, 0] (by decide) rfl
  exact wrI (w1 := (fun (u : (Nat → Int32)) => [(x, .inr (5, [.ref r, .ref t, .ref im, .int hi, .ref tx, .ref ch, .ref ro, .ref rf, .ref pl, .ref ot, .ref cl])), (rf, .inl (cI, 6, .inl u)), (ro, .inl (cR, 3, .inr (.inr (.inr (.inr rof)))))])) (rf_bump F (-1)) hx hb hr hlocks dX5_kinds_26 hS (hP.sub [0, 1, 2] rfl) (hD.sub [0, 1, 2] (by decide) rfl) (by first | exact ⟨rfl, rfl⟩ | rfl | (simp [bi]; done))
