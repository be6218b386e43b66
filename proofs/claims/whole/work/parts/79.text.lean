theorem in_X4_formFault_X4 : ∀ w ∈ wsX40, w ∈ wsX4_formFault := by decide +kernel
theorem in_X6_numberAt_X6 : ∀ w ∈ wsX60, w ∈ wsX6_numberAt := by decide +kernel
theorem in_X6_wrongLetter_X6 : ∀ w ∈ wsX60, w ∈ wsX6_wrongLetter := by decide +kernel
set_option maxHeartbeats 4000000 in
set_option maxRecDepth 100000 in
theorem c_X4_number (l : Launch) (D : va_G) (cI cZ cR : ClassId) (a an : Nat) (z : Int32) (f : Nat → Int32) (fr d9 nT : Nat) (htz : z = nI nT) (hnT : nT ≤ 72) (hfd : fr + d9 ≤ nT) : Met l yX4_number wsX4_number ({ frames := 2, cells := 0, slots := 0, locals := 42 }) (PcR D cI cZ cR [.ref a, .int (nI fr), .int (nI d9)] [(a, .inr (4, [.int z, .ref an])), (an, .inl (cI, 72, .inl f))]) (k2_QcV (.int (nmb f fr d9))) 0 0 (fun _ => False) := by
  refine Met.ofW (cc := cX4_number) (maxL := 5) (ret := (some .int)) (by decide) rfl ?_
  intro p e s m args below meth c s₁ B hml hv
  obtain ⟨rfl, hP, hK, hN⟩ := hv
  have hx := B.exec
  have hb := B.bytes
  have hr := B.returns
  have hts := atoms_spec (ws := wsX4_number) B.pre
  have hown : s.vm.findClass RX4 = some m.cls := findClass_of_methodNamed B.named
  have hlocks := B.notSynchronized
  have hP : va_P D vwCl [(a, .inr (4, [.int z, .ref an])), (an, .inl (cI, 72, .inl f))] s.heap := hP
  have hl := lv_entry ([.ref a, .int (nI fr), .int (nI d9)]) (n := 5) (Nat.le_of_ble_eq_true rfl)
  rw [lg_entry_eq]
  generalize (lg_sl ([.ref a, .int (nI fr), .int (nI d9)]) ++ List.replicate (5 - (lg_sl ([.ref a, .int (nI fr), .int (nI d9)])).length) Slot.unset).toArray = ls at hl ⊢
  have hl : lv_has ls 5 [(0, .ref a), (1, .int (nI fr)), (2, .int (nI d9))] := hl
  refine lv_iconst (v := 0) hx hb dX4_number_0 (by decide) ?_
  refine lv_istore_n (lv' := [(3, .int 0), (0, .ref a), (1, .int (nI fr)), (2, .int (nI d9))]) hx hb dX4_number_1 rfl hl (by decide) rfl (fun ls hl => ?_)
  refine lv_iload_n hx hb dX4_number_2 rfl (lv_at hl 2 rfl) ?_
  refine lv_istore (lv' := [(4, .int (nI fr)), (3, .int 0), (0, .ref a), (1, .int (nI fr)), (2, .int (nI d9))]) hx hb dX4_number_3 hl (by decide) rfl (fun ls hl => ?_)
  have loop_5 : ∀ (fuel : Nat), ∀ (i : Nat), (i ≤ d9) → (d9 + 1 ≤ i + fuel) → ∀ (y3 : Int32), y3 = nmb f fr i → ∀ (y4 : Int32), y4 = nI (fr + i) → ∀ (ls : Array Slot), lv_has ls 5 [(3, .int y3), (4, .int y4), (0, .ref a), (1, .int (nI fr)), (2, .int (nI d9))] → W p l e (headSpec wsX4_number ({ frames := 2, cells := 0, slots := 0, locals := 42 })).room s m ([.ref a, .int (nI fr), .int (nI d9)] : List Value).toArray below meth c s.heap [] 0 0 (MQ below (k2_QcV (.int (nmb f fr d9))) ([.ref a, .int (nI fr), .int (nI d9)] : List Value).toArray s 0 0 (fun _ => False)) (F0 m 5 ls []) := by
    intro fuel
    induction fuel with
    | zero =>
      intro i hi hfu
      exact False.elim (by omega)
    | succ fuel ih_5 =>
      intro i hi hfu y3 ey3 y4 ey4 ls hl
      subst ey3
      subst ey4
      refine lv_iload hx hb dX4_number_5 (lv_at hl 1 rfl) ?_
      refine lv_iload_n hx hb dX4_number_7 rfl (lv_at hl 3 rfl) ?_
      refine lv_iload_n hx hb dX4_number_8 rfl (lv_at hl 4 rfl) ?_
      refine lv_iadd hx hb dX4_number_9 ?_
      refine lv_topi (fun z_10 hz_10 => ?_)
      have hz_10 : (nI (fr + d9)) = z_10 := (hz_10.trans (nI_add _ _)).symm
      subst hz_10
      refine lv_icmp_ge (tgt := 34) hx hb dX4_number_10 (by decide) (fun c_10 => ?_) (fun c_10 => ?_)
      · skip
        refine lv_iload_n hx hb dX4_number_34 rfl (lv_at hl 0 rfl) ?_
        exact rdI hx hb hr hlocks dX4_number_35 (by rw [show i = d9 by have := (nI_leI (by omega) (by omega)).mp c_10; omega])
      · skip
        have hiN : i < d9 := by rcases Nat.lt_or_ge i d9 with q9 | q9; exact q9; exact absurd (nI_le (show fr + d9 ≤ fr + i by omega) (by omega)) c_10
        refine lv_iload_n hx hb dX4_number_13 rfl (lv_at hl 0 rfl) ?_
        refine lv_bipush (v := 10) hx hb dX4_number_14 (by decide) ?_
        refine lv_imul hx hb dX4_number_16 ?_
        refine lv_aload_n hx hb dX4_number_17 rfl (lv_at hl 2 rfl) ?_
        refine lv_iload hx hb dX4_number_18 (lv_at hl 1 rfl) ?_
        refine rdV (As := [.int (nI (fr + i))]) (rest := [.int ((nmb f fr i) * 10)]) ⟨hx, hb, hml, hown, hts⟩ (c_X4_get l D cI cZ cR a an z f (nI (fr + i)) ) (cwV 1 hts gX4_number_X4_get rfl rfl rfl (by decide +kernel) ⟨Nat.le_of_ble_eq_true rfl, Nat.le_of_ble_eq_true rfl⟩) hK hN hP 0 4 rfl rfl rfl [0, 1] rfl rfl hl.1 rfl (Nat.le_of_ble_eq_true rfl) dX4_number_20 ⟨Nat.zero_le _, Nat.zero_le _⟩ ?_
        refine lv_topi (fun z_23 hz_23 => ?_)
        have hz_23 : (f (fr + i)) = z_23 := (hz_23.trans (by rw [tx_gt htz hnT (by omega), gt_in (by omega)])).symm
        subst hz_23
        refine lv_iadd hx hb dX4_number_23 ?_
        refine lv_bipush (v := 48) hx hb dX4_number_24 (by decide) ?_
        refine lv_isub hx hb dX4_number_26 ?_
        refine lv_istore_n (lv' := [(3, .int ((((nmb f fr i) * 10) + (f (fr + i))) - 48)), (4, .int (nI (fr + i))), (0, .ref a), (1, .int (nI fr)), (2, .int (nI d9))]) hx hb dX4_number_27 rfl hl (by decide) rfl (fun ls hl => ?_)
        refine lv_iinc (v := (nI (fr + i)) + 1) (lv' := [(4, .int ((nI (fr + i)) + 1)), (3, .int ((((nmb f fr i) * 10) + (f (fr + i))) - 48)), (0, .ref a), (1, .int (nI fr)), (2, .int (nI d9))]) hx hb dX4_number_28 hl (k := 1) rfl (by rfl) (by decide) rfl (fun ls hl => ?_)
        refine lv_goto (tgt := 5) hx hb dX4_number_31 (by decide) ?_
        exact ih_5 (i + 1) (by omega) (by omega) _ rfl _ (nI_1 _) ls (lv_sub hl [1, 0, 2, 3, 4] rfl)
  exact loop_5 (d9 + 1) 0 (by omega) (by omega) _ rfl _ rfl ls (lv_sub hl [1, 0, 2, 3, 4] rfl)

set_option maxHeartbeats 4000000 in
set_option maxRecDepth 100000 in
theorem c_X4_statementFault (l : Launch) (D : va_G) (cI cZ cR : ClassId) (a an : Nat) (z : Int32) (f : Nat → Int32) (a9 nT : Nat) (htz : z = nI nT) (hnT : nT ≤ 72) (ha9 : a9 ≤ 1000) : Met l yX4_statementFault wsX4_statementFault ({ frames := 2, cells := 0, slots := 0, locals := 42 }) (PcR D cI cZ cR [.ref a, .int (nI a9)] [(a, .inr (4, [.int z, .ref an])), (an, .inl (cI, 72, .inl f))]) (k2_QcV (.int (sfA nT f a9))) 0 0 (fun _ => False) := by
  refine Met.ofW (cc := cX4_statementFault) (maxL := 4) (ret := (some .int)) (by decide) rfl ?_
  intro p e s m args below meth c s₁ B hml hv
  obtain ⟨rfl, hP, hK, hN⟩ := hv
  have hx := B.exec
  have hb := B.bytes
  have hr := B.returns
  have hts := atoms_spec (ws := wsX4_statementFault) B.pre
  have hown : s.vm.findClass RX4 = some m.cls := findClass_of_methodNamed B.named
  have hlocks := B.notSynchronized
  have hP : va_P D vwCl [(a, .inr (4, [.int z, .ref an])), (an, .inl (cI, 72, .inl f))] s.heap := hP
  have hl := lv_entry ([.ref a, .int (nI a9)]) (n := 4) (Nat.le_of_ble_eq_true rfl)
  rw [lg_entry_eq]
  generalize (lg_sl ([.ref a, .int (nI a9)]) ++ List.replicate (4 - (lg_sl ([.ref a, .int (nI a9)])).length) Slot.unset).toArray = ls at hl ⊢
  have hl : lv_has ls 4 [(0, .ref a), (1, .int (nI a9))] := hl
  refine lv_aload_n hx hb dX4_statementFault_0 rfl (lv_at hl 0 rfl) ?_
  refine lv_iload_n hx hb dX4_statementFault_1 rfl (lv_at hl 1 rfl) ?_
  refine rdV (As := [.int (nI a9)]) (rest := []) ⟨hx, hb, hml, hown, hts⟩ (c_X4_get l D cI cZ cR a an z f (nI a9) ) (cwV 1 hts gX4_statementFault_X4_get rfl rfl rfl (by decide +kernel) ⟨Nat.le_of_ble_eq_true rfl, Nat.le_of_ble_eq_true rfl⟩) hK hN hP 0 4 rfl rfl rfl [0, 1] rfl rfl hl.1 rfl (Nat.le_of_ble_eq_true rfl) dX4_statementFault_2 ⟨Nat.zero_le _, Nat.zero_le _⟩ ?_
  refine lv_topi (fun z_5 hz_5 => ?_)
  have hz_5 : (gtx nT f a9) = z_5 := (hz_5.trans (tx_gt htz hnT (by omega))).symm
  subst hz_5
  refine rdS (As := [.int (gtx nT f a9)]) (rest := []) ⟨hx, hb, hml, hown, hts⟩ (c_X4_digitsBehind l D cI cZ cR (gtx nT f a9) ) (va_cwS 1 hts gX4_statementFault_X4_digitsBehind rfl rfl rfl (by decide +kernel) ⟨Nat.le_of_ble_eq_true rfl, Nat.le_of_ble_eq_true rfl⟩) hK hN hP [] rfl rfl hl.1 rfl (Nat.le_of_ble_eq_true rfl) dX4_statementFault_5 ⟨Nat.zero_le _, Nat.zero_le _⟩ ?_
  refine lv_istore_n (lv' := [(2, .int (tx_dg (gtx nT f a9))), (0, .ref a), (1, .int (nI a9))]) hx hb dX4_statementFault_8 rfl hl (by decide) rfl (fun ls hl => ?_)
  refine lv_iload_n hx hb dX4_statementFault_9 rfl (lv_at hl 0 rfl) ?_
  refine lv_if_ge (tgt := 15) hx hb dX4_statementFault_10 (by decide) (fun c_10 => ?_) (fun c_10 => ?_)
  · skip
    have hD := dg_n c_10
    refine lv_iload_n hx hb dX4_statementFault_15 rfl (lv_at hl 2 rfl) ?_
    refine lv_iconst (v := 1) hx hb dX4_statementFault_16 (by decide) ?_
    refine lv_iadd hx hb dX4_statementFault_17 ?_
    refine lv_istore_n (lv' := [(3, .int ((nI a9) + 1)), (2, .int (tx_dg (gtx nT f a9))), (0, .ref a), (1, .int (nI a9))]) hx hb dX4_statementFault_18 rfl hl (by decide) rfl (fun ls hl => ?_)
    have loop_19 : ∀ (fuel : Nat), ∀ (i : Nat), (a9 + 1 ≤ i) → (i ≤ a9 + dgN nT f a9 + 1) → (sfL nT f (dgN nT f a9) (a9 + 1) = sfL nT f (a9 + dgN nT f a9 + 1 - i) i) → (a9 + dgN nT f a9 + 2 ≤ i + fuel) → ∀ (y3 : Int32), y3 = nI i → ∀ (ls : Array Slot), lv_has ls 4 [(3, .int y3), (0, .ref a), (1, .int (nI a9)), (2, .int (tx_dg (gtx nT f a9)))] → W p l e (headSpec wsX4_statementFault ({ frames := 2, cells := 0, slots := 0, locals := 42 })).room s m ([.ref a, .int (nI a9)] : List Value).toArray below meth c s.heap [] 0 0 (MQ below (k2_QcV (.int (sfA nT f a9))) ([.ref a, .int (nI a9)] : List Value).toArray s 0 0 (fun _ => False)) (F0 m 19 ls []) := by
      intro fuel
      induction fuel with
      | zero =>
        intro i hi1 hi hinv hfu
        exact False.elim (by omega)
      | succ fuel ih_19 =>
        intro i hi1 hi hinv hfu y3 ey3 ls hl
        subst ey3
        refine lv_iload_n hx hb dX4_statementFault_19 rfl (lv_at hl 0 rfl) ?_
        refine lv_iload_n hx hb dX4_statementFault_20 rfl (lv_at hl 2 rfl) ?_
        refine lv_iload_n hx hb dX4_statementFault_21 rfl (lv_at hl 3 rfl) ?_
        refine lv_iadd hx hb dX4_statementFault_22 ?_
        refine lv_topi (fun z_23 hz_23 => ?_)
        have hz_23 : (nI (a9 + dgN nT f a9)) = z_23 := (hz_23.trans (by rw [hD.1, nI_add])).symm
        subst hz_23
        refine lv_icmp_gt (tgt := 54) hx hb dX4_statementFault_23 (by decide) (fun c_23 => ?_) (fun c_23 => ?_)
        · skip
          have hie : i = a9 + dgN nT f a9 + 1 := by have := (nI_ltI (by omega) (by omega)).mp c_23; omega
          refine lv_iload_n hx hb dX4_statementFault_54 rfl (lv_at hl 2 rfl) ?_
          refine lv_iload_n hx hb dX4_statementFault_55 rfl (lv_at hl 3 rfl) ?_
          refine lv_iadd hx hb dX4_statementFault_56 ?_
          refine lv_topi (fun z_57 hz_57 => ?_)
          have hz_57 : (nI (a9 + dgN nT f a9)) = z_57 := (hz_57.trans (by rw [hD.1, nI_add])).symm
          subst hz_57
          refine lv_iconst (v := 1) hx hb dX4_statementFault_57 (by decide) ?_
          refine lv_iadd hx hb dX4_statementFault_58 ?_
          refine lv_topi (fun z_59 hz_59 => ?_)
          have hz_59 : (nI (a9 + dgN nT f a9 + 1)) = z_59 := (hz_59.trans (nI_1 _)).symm
          subst hz_59
          refine lv_istore_n (lv' := [(3, .int (nI (a9 + dgN nT f a9 + 1))), (0, .ref a), (1, .int (nI a9)), (2, .int (tx_dg (gtx nT f a9)))]) hx hb dX4_statementFault_59 rfl hl (by decide) rfl (fun ls hl => ?_)
          refine lv_aload_n hx hb dX4_statementFault_60 rfl (lv_at hl 1 rfl) ?_
          refine lv_iload_n hx hb dX4_statementFault_61 rfl (lv_at hl 0 rfl) ?_
          refine rdV (As := [.int (nI (a9 + dgN nT f a9 + 1))]) (rest := []) ⟨hx, hb, hml, hown, hts⟩ (c_X4_get l D cI cZ cR a an z f (nI (a9 + dgN nT f a9 + 1)) ) (cwV 1 hts gX4_statementFault_X4_get rfl rfl rfl (by decide +kernel) ⟨Nat.le_of_ble_eq_true rfl, Nat.le_of_ble_eq_true rfl⟩) hK hN hP 0 4 rfl rfl rfl [0, 1] rfl rfl hl.1 rfl (Nat.le_of_ble_eq_true rfl) dX4_statementFault_62 ⟨Nat.zero_le _, Nat.zero_le _⟩ ?_
          refine lv_topi (fun z_65 hz_65 => ?_)
          have hz_65 : (gtx nT f (a9 + dgN nT f a9 + 1)) = z_65 := (hz_65.trans (tx_gt htz hnT (by omega))).symm
          subst hz_65
          refine lv_bipush (v := 59) hx hb dX4_statementFault_65 (by decide) ?_
          refine lv_icmp_ne (tgt := 75) hx hb dX4_statementFault_67 (by decide) (fun c_67 => ?_) (fun c_67 => ?_)
          · skip
            refine lv_iload_n hx hb dX4_statementFault_75 rfl (lv_at hl 0 rfl) ?_
            exact rdI hx hb hr hlocks dX4_statementFault_76 (by rw [sf_go c_10, hinv, hie, Nat.sub_self]; unfold sfL sfE; rw [if_neg c_67])
          · skip
            refine lv_bipush (v := (-9)) hx hb dX4_statementFault_70 (by decide) ?_
            refine lv_goto (tgt := 76) hx hb dX4_statementFault_72 (by decide) ?_
            exact rdI hx hb hr hlocks dX4_statementFault_76 (by rw [sf_go c_10, hinv, hie, Nat.sub_self]; unfold sfL sfE; rw [if_pos c_67])
        · skip
          have hiN : i ≤ a9 + dgN nT f a9 := by rcases Nat.lt_or_ge (a9 + dgN nT f a9) i with q9 | q9; exact absurd (nI_lt q9 (by omega)) c_23; exact q9
          refine lv_aload_n hx hb dX4_statementFault_26 rfl (lv_at hl 1 rfl) ?_
          refine lv_iload_n hx hb dX4_statementFault_27 rfl (lv_at hl 0 rfl) ?_
          refine rdV (As := [.int (nI i)]) (rest := []) ⟨hx, hb, hml, hown, hts⟩ (c_X4_get l D cI cZ cR a an z f (nI i) ) (cwV 1 hts gX4_statementFault_X4_get rfl rfl rfl (by decide +kernel) ⟨Nat.le_of_ble_eq_true rfl, Nat.le_of_ble_eq_true rfl⟩) hK hN hP 0 4 rfl rfl rfl [0, 1] rfl rfl hl.1 rfl (Nat.le_of_ble_eq_true rfl) dX4_statementFault_28 ⟨Nat.zero_le _, Nat.zero_le _⟩ ?_
          refine lv_topi (fun z_31 hz_31 => ?_)
          have hz_31 : (gtx nT f i) = z_31 := (hz_31.trans (tx_gt htz hnT (by omega))).symm
          subst hz_31
          refine lv_bipush (v := 48) hx hb dX4_statementFault_31 (by decide) ?_
          refine lv_icmp_lt (tgt := 46) hx hb dX4_statementFault_33 (by decide) (fun c_33 => ?_) (fun c_33 => ?_)
          · skip
            refine lv_iload_n hx hb dX4_statementFault_46 rfl (lv_at hl 0 rfl) ?_
            exact rdI hx hb hr hlocks dX4_statementFault_47 (by rw [sf_go c_10, hinv, sfL_no (fun z9 => absurd z9.1 (Int32.not_le.mpr c_33)) (by omega)])
          · skip
            refine lv_aload_n hx hb dX4_statementFault_36 rfl (lv_at hl 1 rfl) ?_
            refine lv_iload_n hx hb dX4_statementFault_37 rfl (lv_at hl 0 rfl) ?_
            refine rdV (As := [.int (nI i)]) (rest := []) ⟨hx, hb, hml, hown, hts⟩ (c_X4_get l D cI cZ cR a an z f (nI i) ) (cwV 1 hts gX4_statementFault_X4_get rfl rfl rfl (by decide +kernel) ⟨Nat.le_of_ble_eq_true rfl, Nat.le_of_ble_eq_true rfl⟩) hK hN hP 0 4 rfl rfl rfl [0, 1] rfl rfl hl.1 rfl (Nat.le_of_ble_eq_true rfl) dX4_statementFault_38 ⟨Nat.zero_le _, Nat.zero_le _⟩ ?_
            refine lv_topi (fun z_41 hz_41 => ?_)
            have hz_41 : (gtx nT f i) = z_41 := (hz_41.trans (tx_gt htz hnT (by omega))).symm
            subst hz_41
            refine lv_bipush (v := 57) hx hb dX4_statementFault_41 (by decide) ?_
            refine lv_icmp_le (tgt := 48) hx hb dX4_statementFault_43 (by decide) (fun c_43 => ?_) (fun c_43 => ?_)
            · skip
              refine lv_iinc (v := (nI i) + 1) (lv' := [(3, .int ((nI i) + 1)), (0, .ref a), (1, .int (nI a9)), (2, .int (tx_dg (gtx nT f a9)))]) hx hb dX4_statementFault_48 hl (k := 0) rfl (by rfl) (by decide) rfl (fun ls hl => ?_)
              refine lv_goto (tgt := 19) hx hb dX4_statementFault_51 (by decide) ?_
              exact ih_19 (i + 1) (by omega) (by omega) (hinv.trans (by rw [sfL_yes ⟨Int32.not_lt.mp c_33, c_43⟩ (by omega), show a9 + dgN nT f a9 + 1 - i - 1 = a9 + dgN nT f a9 + 1 - (i + 1) by omega])) (by omega) _ (by first | rfl | exact nI_1 _ | exact nI_0.symm) ls (lv_sub hl [0, 1, 2, 3] rfl)
            · skip
              refine lv_iload_n hx hb dX4_statementFault_46 rfl (lv_at hl 0 rfl) ?_
              exact rdI hx hb hr hlocks dX4_statementFault_47 (by rw [sf_go c_10, hinv, sfL_no (fun z9 => c_43 z9.2) (by omega)])
    exact loop_19 (dgN nT f a9 + 2) (a9 + 1) (by omega) (by omega) (by rw [show a9 + dgN nT f a9 + 1 - (a9 + 1) = dgN nT f a9 by omega]) (by omega) _ (by first | rfl | exact nI_1 _ | exact nI_0.symm) ls (lv_sub hl [0, 2, 3, 1] rfl)
  · skip
    refine lv_iload_n hx hb dX4_statementFault_13 rfl (lv_at hl 2 rfl) ?_
    exact rdI hx hb hr hlocks dX4_statementFault_14 ((sf_bad (fun z9 => absurd z9 (Int32.not_le.mpr (Int32.not_le.mp c_10)))).symm)

set_option maxHeartbeats 4000000 in
set_option maxRecDepth 100000 in
theorem c_X4_formFault (l : Launch) (D : va_G) (cI cZ cR : ClassId) (a an : Nat) (z : Int32) (f : Nat → Int32) (nT : Nat) (htz : z = nI nT) (hnT : nT ≤ 72) : Met l yX4_formFault wsX4_formFault ({ frames := 3, cells := 0, slots := 0, locals := 65 }) (PcR D cI cZ cR [.ref a] [(a, .inr (4, [.int z, .ref an])), (an, .inl (cI, 72, .inl f))]) (k2_QcV (.int (wF nT f 72 0))) 0 0 (fun _ => False) := by
  refine Met.ofW (cc := cX4_formFault) (maxL := 4) (ret := (some .int)) (by decide) rfl ?_
  intro p e s m args below meth c s₁ B hml hv
  obtain ⟨rfl, hP, hK, hN⟩ := hv
  have hx := B.exec
  have hb := B.bytes
  have hr := B.returns
  have hts := atoms_spec (ws := wsX4_formFault) B.pre
  have hown : s.vm.findClass RX4 = some m.cls := findClass_of_methodNamed B.named
  have hlocks := B.notSynchronized
  have hP : va_P D vwCl [(a, .inr (4, [.int z, .ref an])), (an, .inl (cI, 72, .inl f))] s.heap := hP
  have hl := lv_entry ([.ref a]) (n := 4) (Nat.le_of_ble_eq_true rfl)
  rw [lg_entry_eq]
  generalize (lg_sl ([.ref a]) ++ List.replicate (4 - (lg_sl ([.ref a])).length) Slot.unset).toArray = ls at hl ⊢
  have hl : lv_has ls 4 [(0, .ref a)] := hl
  refine lv_iconst (v := 0) hx hb dX4_formFault_0 (by decide) ?_
  refine lv_istore_n (lv' := [(1, .int 0), (0, .ref a)]) hx hb dX4_formFault_1 rfl hl (by decide) rfl (fun ls hl => ?_)
  refine lv_iconst (v := 0) hx hb dX4_formFault_2 (by decide) ?_
  refine lv_istore_n (lv' := [(2, .int 0), (1, .int 0), (0, .ref a)]) hx hb dX4_formFault_3 rfl hl (by decide) rfl (fun ls hl => ?_)
  have loop_4 : ∀ (fuel : Nat), ∀ (i p9 : Nat), (i ≤ 72) → (p9 ≤ 72) → (wF nT f 72 0 = wF nT f (72 - i) p9) → (73 ≤ i + fuel) → ∀ (y1 : Int32), y1 = nI p9 → ∀ (y2 : Int32), y2 = nI i → ∀ (ls : Array Slot), lv_has ls 4 [(1, .int y1), (2, .int y2), (0, .ref a)] → W p l e (headSpec wsX4_formFault ({ frames := 3, cells := 0, slots := 0, locals := 65 })).room s m ([.ref a] : List Value).toArray below meth c s.heap [] 0 0 (MQ below (k2_QcV (.int (wF nT f 72 0))) ([.ref a] : List Value).toArray s 0 0 (fun _ => False)) (F0 m 4 ls []) := by
    intro fuel
    induction fuel with
    | zero =>
      intro i p9 hi hp9 hinv hfu
      exact False.elim (by omega)
    | succ fuel ih_4 =>
      intro i p9 hi hp9 hinv hfu y1 ey1 y2 ey2 ls hl
      subst ey1
      subst ey2
      refine lv_iload_n hx hb dX4_formFault_4 rfl (lv_at hl 1 rfl) ?_
      refine lv_bipush (v := 72) hx hb dX4_formFault_5 (by decide) ?_
      refine lv_icmp_ge (tgt := 49) hx hb dX4_formFault_7 (by decide) (fun c_7 => ?_) (fun c_7 => ?_)
      · skip
        refine lv_bipush (v := (-9)) hx hb dX4_formFault_49 (by decide) ?_
        exact rdI hx hb hr hlocks dX4_formFault_51 (by rw [hinv, show 72 - i = 0 by have := (nI_leI (a := 72) (b := i) (by omega) (by omega)).mp c_7; omega]; rfl)
      · skip
        have hiN : i < 72 := by rcases Nat.lt_or_ge i 72 with q9 | q9; exact q9; exact absurd (nI_le q9 (by omega)) c_7
        refine lv_aload_n hx hb dX4_formFault_10 rfl (lv_at hl 2 rfl) ?_
        refine lv_iload_n hx hb dX4_formFault_11 rfl (lv_at hl 0 rfl) ?_
        refine rdV (As := [.int (nI p9)]) (rest := []) ⟨hx, hb, hml, hown, hts⟩ (c_X4_statementFault l D cI cZ cR a an z f p9 nT htz hnT (by omega)) (cwV 1 hts gX4_formFault_X4_statementFault rfl rfl rfl (by decide +kernel) ⟨Nat.le_of_ble_eq_true rfl, Nat.le_of_ble_eq_true rfl⟩) hK hN hP 0 4 rfl rfl rfl [0, 1] rfl rfl hl.1 rfl (Nat.le_of_ble_eq_true rfl) dX4_formFault_12 ⟨Nat.zero_le _, Nat.zero_le _⟩ ?_
        refine lv_istore_n (lv' := [(3, .int (sfA nT f p9)), (1, .int (nI p9)), (2, .int (nI i)), (0, .ref a)]) hx hb dX4_formFault_15 rfl hl (by decide) rfl (fun ls hl => ?_)
        refine lv_iload_n hx hb dX4_formFault_16 rfl (lv_at hl 0 rfl) ?_
        refine lv_bipush (v := (-9)) hx hb dX4_formFault_17 (by decide) ?_
        refine lv_icmp_eq (tgt := 24) hx hb dX4_formFault_19 (by decide) (fun c_19 => ?_) (fun c_19 => ?_)
        · skip
          have hok := sf_ok hnT hp9 c_19
          have hD := dg_n hok.1
          refine lv_iload_n hx hb dX4_formFault_24 rfl (lv_at hl 1 rfl) ?_
          refine lv_aload_n hx hb dX4_formFault_25 rfl (lv_at hl 3 rfl) ?_
          refine lv_iload_n hx hb dX4_formFault_26 rfl (lv_at hl 1 rfl) ?_
          refine rdV (As := [.int (nI p9)]) (rest := [.int (nI p9)]) ⟨hx, hb, hml, hown, hts⟩ (c_X4_statementLength l D cI cZ cR a an z f (nI p9) ) (cwV 1 hts gX4_formFault_X4_statementLength rfl rfl rfl (by decide +kernel) ⟨Nat.le_of_ble_eq_true rfl, Nat.le_of_ble_eq_true rfl⟩) hK hN hP 0 4 rfl rfl rfl [0, 1] rfl rfl hl.1 rfl (Nat.le_of_ble_eq_true rfl) dX4_formFault_27 ⟨Nat.zero_le _, Nat.zero_le _⟩ ?_
          refine lv_topi (fun z_30 hz_30 => ?_)
          have hz_30 : (nI (dgN nT f p9 + 2)) = z_30 := (hz_30.trans (by rw [tx_gt htz hnT (by omega), hD.1]; exact nI_add _ 2)).symm
          subst hz_30
          refine lv_iadd hx hb dX4_formFault_30 ?_
          refine lv_topi (fun z_31 hz_31 => ?_)
          have hz_31 : (nI (p9 + (dgN nT f p9 + 2))) = z_31 := (hz_31.trans (nI_add _ _)).symm
          subst hz_31
          refine lv_istore_n (lv' := [(1, .int (nI (p9 + (dgN nT f p9 + 2)))), (3, .int (sfA nT f p9)), (2, .int (nI i)), (0, .ref a)]) hx hb dX4_formFault_31 rfl hl (by decide) rfl (fun ls hl => ?_)
          refine lv_iload_n hx hb dX4_formFault_32 rfl (lv_at hl 0 rfl) ?_
          refine lv_aload_n hx hb dX4_formFault_33 rfl (lv_at hl 3 rfl) ?_
          refine va_get (D := D) (ci := 4) (v := .int z) (C := RX4) (T := TX4) (N := 2) hx hb hts (in_X4_formFault_X4) hown hK hP 0 rfl rfl 0 (by decide) (hts (.fieldLink RX4 9 "StepsRoundCircle$Text" "size" "I") (by decide +kernel)) (fun _ h9 => h9) rfl dX4_formFault_34 ?_
          refine lv_topi (fun z_37 hz_37 => ?_)
          have hz_37 : (nI nT) = z_37 := (hz_37.trans htz).symm
          subst hz_37
          refine lv_icmp_lt (tgt := 43) hx hb dX4_formFault_37 (by decide) (fun c_37 => ?_) (fun c_37 => ?_)
          · skip
            have hlt : p9 + (dgN nT f p9 + 2) < nT := (nI_ltI (by omega) (by omega)).mp c_37
            refine lv_iinc (v := (nI i) + 1) (lv' := [(2, .int ((nI i) + 1)), (1, .int (nI (p9 + (dgN nT f p9 + 2)))), (3, .int (sfA nT f p9)), (0, .ref a)]) hx hb dX4_formFault_43 hl (k := 2) rfl (by rfl) (by decide) rfl (fun ls hl => ?_)
            refine lv_goto (tgt := 4) hx hb dX4_formFault_46 (by decide) ?_
            exact ih_4 (i + 1) (p9 + (dgN nT f p9 + 2)) (by omega) (by omega) (hinv.trans (by rw [wF_go (by omega) c_19 hlt, show 72 - i - 1 = 72 - (i + 1) by omega])) (by omega) _ rfl _ (by first | rfl | exact nI_1 _ | exact nI_0.symm) ls (lv_sub hl [1, 0, 3] rfl)
          · skip
            refine lv_bipush (v := (-9)) hx hb dX4_formFault_40 (by decide) ?_
            exact rdI hx hb hr hlocks dX4_formFault_42 (by rw [hinv, wF_end (by omega) c_19 (fun z9 => c_37 (nI_lt z9 (by omega)))])
        · skip
          refine lv_iload_n hx hb dX4_formFault_22 rfl (lv_at hl 0 rfl) ?_
          exact rdI hx hb hr hlocks dX4_formFault_23 (by rw [hinv, wF_bad (by omega) c_19])
  exact loop_4 73 0 0 (by omega) (by omega) rfl (by omega) _ (by first | rfl | exact nI_1 _ | exact nI_0.symm) _ (by first | rfl | exact nI_1 _ | exact nI_0.symm) ls (lv_sub hl [1, 0, 2] rfl)

set_option maxHeartbeats 4000000 in
set_option maxRecDepth 100000 in
theorem c_X6_digits (l : Launch) (D : va_G) (cI cZ cR : ClassId) (x0 : Int32) : Met l yX6_digits wsX6_digits ({ frames := 0, cells := 0, slots := 0, locals := 0 }) (PcR D cI cZ cR [.int x0] []) (k2_QcV (.int (tx_dg x0))) 0 0 (fun _ => False) := by
  refine Met.ofW (cc := cX6_digits) (maxL := 1) (ret := (some .int)) (by decide) rfl ?_
  intro p e s m args below meth c s₁ B hml hv
  obtain ⟨rfl, hP, hK, hN⟩ := hv
  have hx := B.exec
  have hb := B.bytes
  have hr := B.returns
  have hts := atoms_spec (ws := wsX6_digits) B.pre
  have hown : s.vm.findClass RX6 = some m.cls := findClass_of_methodNamed B.named
  have hlocks := B.notSynchronized
  have hP : va_P D vwCl [] s.heap := hP
  have hl := lv_entry ([.int x0]) (n := 1) (Nat.le_of_ble_eq_true rfl)
  rw [lg_entry_eq]
  generalize (lg_sl ([.int x0]) ++ List.replicate (1 - (lg_sl ([.int x0])).length) Slot.unset).toArray = ls at hl ⊢
  have hl : lv_has ls 1 [(0, .int x0)] := hl
  refine lv_iload_n hx hb dX6_digits_0 rfl (lv_at hl 0 rfl) ?_
  refine lv_bipush (v := 99) hx hb dX6_digits_1 (by decide) ?_
  refine lv_icmp_ne (tgt := 10) hx hb dX6_digits_3 (by decide) (fun c_3 => ?_) (fun c_3 => ?_)
  · skip
    refine lv_iload_n hx hb dX6_digits_10 rfl (lv_at hl 0 rfl) ?_
    refine lv_bipush (v := 119) hx hb dX6_digits_11 (by decide) ?_
    refine lv_icmp_ne (tgt := 21) hx hb dX6_digits_13 (by decide) (fun c_13 => ?_) (fun c_13 => ?_)
    · skip
      refine lv_iload_n hx hb dX6_digits_21 rfl (lv_at hl 0 rfl) ?_
      refine lv_bipush (v := 115) hx hb dX6_digits_22 (by decide) ?_
      refine lv_icmp_ne (tgt := 31) hx hb dX6_digits_24 (by decide) (fun c_24 => ?_) (fun c_24 => ?_)
      · skip
        refine lv_iload_n hx hb dX6_digits_31 rfl (lv_at hl 0 rfl) ?_
        refine lv_bipush (v := 120) hx hb dX6_digits_32 (by decide) ?_
        refine lv_icmp_ne (tgt := 41) hx hb dX6_digits_34 (by decide) (fun c_34 => ?_) (fun c_34 => ?_)
        · skip
          refine lv_iconst (v := (-1)) hx hb dX6_digits_41 (by decide) ?_
          exact rdI hx hb hr hlocks dX6_digits_42 (by unfold tx_dg; rw [if_neg c_3, if_neg c_24, if_neg c_13, if_neg c_34])
        · skip
          refine lv_iconst (v := 1) hx hb dX6_digits_37 (by decide) ?_
          refine lv_goto (tgt := 42) hx hb dX6_digits_38 (by decide) ?_
          exact rdI hx hb hr hlocks dX6_digits_42 (by rw [c_34]; rfl)
      · skip
        refine lv_iconst (v := 5) hx hb dX6_digits_27 (by decide) ?_
        refine lv_goto (tgt := 42) hx hb dX6_digits_28 (by decide) ?_
        exact rdI hx hb hr hlocks dX6_digits_42 (by rw [c_24]; rfl)
    · skip
      refine lv_bipush (v := 10) hx hb dX6_digits_16 (by decide) ?_
      refine lv_goto (tgt := 42) hx hb dX6_digits_18 (by decide) ?_
      exact rdI hx hb hr hlocks dX6_digits_42 (by rw [c_13]; rfl)
  · skip
    refine lv_iconst (v := 4) hx hb dX6_digits_6 (by decide) ?_
    refine lv_goto (tgt := 42) hx hb dX6_digits_7 (by decide) ?_
    exact rdI hx hb hr hlocks dX6_digits_42 (by rw [c_3]; rfl)

set_option maxHeartbeats 4000000 in
set_option maxRecDepth 100000 in
theorem c_X6_numberAt (l : Launch) (D : va_G) (cI cZ cR : ClassId) (y yr yw yc yl ys yp ym yo yk yt yi yz yx yu : Nat) (mq mn mc me md mz km kr : Int32) (lf : Nat → Int32) (fr d9 : Nat) (hfd : fr + d9 ≤ 72) : Met l yX6_numberAt wsX6_numberAt ({ frames := 0, cells := 0, slots := 0, locals := 0 }) (PcR D cI cZ cR [.ref y, .int (nI fr), .int (nI d9)] [(y, .inr (6, [.ref yr, .int mq, .int mn, .ref yw, .ref yc, .int mc, .ref yl, .int me, .ref ys, .ref yp, .ref ym, .int md, .ref yo, .ref yk, .ref yt, .int mz, .ref yi, .ref yz, .ref yx, .ref yu, .int km, .int kr])), (yl, .inl (cI, 72, .inl lf))]) (k2_QcV (.int (nmb lf fr d9))) 0 0 (fun _ => False) := by
  refine Met.ofW (cc := cX6_numberAt) (maxL := 5) (ret := (some .int)) (by decide) rfl ?_
  intro p e s m args below meth c s₁ B hml hv
  obtain ⟨rfl, hP, hK, hN⟩ := hv
  have hx := B.exec
  have hb := B.bytes
  have hr := B.returns
  have hts := atoms_spec (ws := wsX6_numberAt) B.pre
  have hown : s.vm.findClass RX6 = some m.cls := findClass_of_methodNamed B.named
  have hlocks := B.notSynchronized
  have hP : va_P D vwCl [(y, .inr (6, [.ref yr, .int mq, .int mn, .ref yw, .ref yc, .int mc, .ref yl, .int me, .ref ys, .ref yp, .ref ym, .int md, .ref yo, .ref yk, .ref yt, .int mz, .ref yi, .ref yz, .ref yx, .ref yu, .int km, .int kr])), (yl, .inl (cI, 72, .inl lf))] s.heap := hP
  have hl := lv_entry ([.ref y, .int (nI fr), .int (nI d9)]) (n := 5) (Nat.le_of_ble_eq_true rfl)
  rw [lg_entry_eq]
  generalize (lg_sl ([.ref y, .int (nI fr), .int (nI d9)]) ++ List.replicate (5 - (lg_sl ([.ref y, .int (nI fr), .int (nI d9)])).length) Slot.unset).toArray = ls at hl ⊢
  have hl : lv_has ls 5 [(0, .ref y), (1, .int (nI fr)), (2, .int (nI d9))] := hl
  refine lv_iconst (v := 0) hx hb dX6_numberAt_0 (by decide) ?_
  refine lv_istore_n (lv' := [(3, .int 0), (0, .ref y), (1, .int (nI fr)), (2, .int (nI d9))]) hx hb dX6_numberAt_1 rfl hl (by decide) rfl (fun ls hl => ?_)
  refine lv_iconst (v := 0) hx hb dX6_numberAt_2 (by decide) ?_
  refine lv_istore (lv' := [(4, .int 0), (3, .int 0), (0, .ref y), (1, .int (nI fr)), (2, .int (nI d9))]) hx hb dX6_numberAt_3 hl (by decide) rfl (fun ls hl => ?_)
  have loop_5 : ∀ (fuel : Nat), ∀ (i : Nat), (i ≤ d9) → (d9 + 1 ≤ i + fuel) → ∀ (y3 : Int32), y3 = nmb lf fr i → ∀ (y4 : Int32), y4 = nI i → ∀ (ls : Array Slot), lv_has ls 5 [(3, .int y3), (4, .int y4), (0, .ref y), (1, .int (nI fr)), (2, .int (nI d9))] → W p l e (headSpec wsX6_numberAt ({ frames := 0, cells := 0, slots := 0, locals := 0 })).room s m ([.ref y, .int (nI fr), .int (nI d9)] : List Value).toArray below meth c s.heap [] 0 0 (MQ below (k2_QcV (.int (nmb lf fr d9))) ([.ref y, .int (nI fr), .int (nI d9)] : List Value).toArray s 0 0 (fun _ => False)) (F0 m 5 ls []) := by
    intro fuel
    induction fuel with
    | zero =>
      intro i hi hfu
      exact False.elim (by omega)
    | succ fuel ih_5 =>
      intro i hi hfu y3 ey3 y4 ey4 ls hl
      subst ey3
      subst ey4
      refine lv_iload hx hb dX6_numberAt_5 (lv_at hl 1 rfl) ?_
      refine lv_iload_n hx hb dX6_numberAt_7 rfl (lv_at hl 4 rfl) ?_
      refine lv_icmp_ge (tgt := 35) hx hb dX6_numberAt_8 (by decide) (fun c_8 => ?_) (fun c_8 => ?_)
      · skip
        refine lv_iload_n hx hb dX6_numberAt_35 rfl (lv_at hl 0 rfl) ?_
        exact rdI hx hb hr hlocks dX6_numberAt_36 (by rw [show i = d9 by have := (nI_leI (by omega) (by omega)).mp c_8; omega])
      · skip
        have hiN : i < d9 := by rcases Nat.lt_or_ge i d9 with q9 | q9; exact q9; exact absurd (nI_le q9 (by omega)) c_8
        refine lv_bipush (v := 10) hx hb dX6_numberAt_11 (by decide) ?_
        refine lv_iload_n hx hb dX6_numberAt_13 rfl (lv_at hl 0 rfl) ?_
        refine lv_imul hx hb dX6_numberAt_14 ?_
        refine lv_aload_n hx hb dX6_numberAt_15 rfl (lv_at hl 2 rfl) ?_
        refine va_get (D := D) (ci := 6) (v := .ref yl) (C := RX6) (T := TX6) (N := 22) hx hb hts (in_X6_numberAt_X6) hown hK hP 0 rfl rfl 6 (by decide) (hts (.fieldLink RX6 23 "StepsRoundCircleModel" "letters" "[I") (by decide +kernel)) (fun _ h9 => h9) rfl dX6_numberAt_16 ?_
        refine lv_iload_n hx hb dX6_numberAt_19 rfl (lv_at hl 3 rfl) ?_
        refine lv_iload hx hb dX6_numberAt_20 (lv_at hl 1 rfl) ?_
        refine lv_iadd hx hb dX6_numberAt_22 ?_
        refine lv_topi (fun z_23 hz_23 => ?_)
        have hz_23 : (nI (fr + i)) = z_23 := (hz_23.trans (nI_add _ _)).symm
        subst hz_23
        refine va_iald hx hb hK hP 1 0 rfl rfl (vp_in_nI (by omega) (by omega)) dX6_numberAt_23 ?_
        refine lv_topi (fun z_24 hz_24 => ?_)
        have hz_24 : (lf (fr + i)) = z_24 := (hz_24.trans (by rw [nI_clamp (by omega)])).symm
        subst hz_24
        refine lv_iadd hx hb dX6_numberAt_24 ?_
        refine lv_bipush (v := 48) hx hb dX6_numberAt_25 (by decide) ?_
        refine lv_isub hx hb dX6_numberAt_27 ?_
        refine lv_istore_n (lv' := [(3, .int (((10 * (nmb lf fr i)) + (lf (fr + i))) - 48)), (4, .int (nI i)), (0, .ref y), (1, .int (nI fr)), (2, .int (nI d9))]) hx hb dX6_numberAt_28 rfl hl (by decide) rfl (fun ls hl => ?_)
        refine lv_iinc (v := (nI i) + 1) (lv' := [(4, .int ((nI i) + 1)), (3, .int (((10 * (nmb lf fr i)) + (lf (fr + i))) - 48)), (0, .ref y), (1, .int (nI fr)), (2, .int (nI d9))]) hx hb dX6_numberAt_29 hl (k := 1) rfl (by rfl) (by decide) rfl (fun ls hl => ?_)
        refine lv_goto (tgt := 5) hx hb dX6_numberAt_32 (by decide) ?_
        exact ih_5 (i + 1) (by omega) (by omega) _ (by rw [Int32.mul_comm]; rfl) _ (by first | rfl | exact nI_1 _ | exact nI_0.symm) ls (lv_sub hl [1, 0, 2, 3, 4] rfl)
  exact loop_5 (d9 + 1) 0 (by omega) (by omega) _ rfl _ (by first | rfl | exact nI_1 _ | exact nI_0.symm) ls (lv_sub hl [1, 0, 2, 3, 4] rfl)

set_option maxHeartbeats 4000000 in
set_option maxRecDepth 100000 in
theorem c_X6_wrongLetter (l : Launch) (D : va_G) (cI cZ cR : ClassId) (y yr yw yc yl ys yp ym yo yk yt yi yz yx yu : Nat) (mq mn mc me md mz km kr : Int32) (lf : Nat → Int32) (nT : Nat) (hme : me = nI nT) (hnT : nT ≤ 72) : Met l yX6_wrongLetter wsX6_wrongLetter ({ frames := 1, cells := 0, slots := 0, locals := 25 }) (PcR D cI cZ cR [.ref y] [(y, .inr (6, [.ref yr, .int mq, .int mn, .ref yw, .ref yc, .int mc, .ref yl, .int me, .ref ys, .ref yp, .ref ym, .int md, .ref yo, .ref yk, .ref yt, .int mz, .ref yi, .ref yz, .ref yx, .ref yu, .int km, .int kr])), (yl, .inl (cI, 72, .inl lf))]) (k2_QcV (.int (wF nT lf 72 0))) 0 0 (fun _ => False) := by
  refine Met.ofW (cc := cX6_wrongLetter) (maxL := 4) (ret := (some .int)) (by decide) rfl ?_
  intro p e s m args below meth c s₁ B hml hv
  obtain ⟨rfl, hP, hK, hN⟩ := hv
  have hx := B.exec
  have hb := B.bytes
  have hr := B.returns
  have hts := atoms_spec (ws := wsX6_wrongLetter) B.pre
  have hown : s.vm.findClass RX6 = some m.cls := findClass_of_methodNamed B.named
  have hlocks := B.notSynchronized
  have hP : va_P D vwCl [(y, .inr (6, [.ref yr, .int mq, .int mn, .ref yw, .ref yc, .int mc, .ref yl, .int me, .ref ys, .ref yp, .ref ym, .int md, .ref yo, .ref yk, .ref yt, .int mz, .ref yi, .ref yz, .ref yx, .ref yu, .int km, .int kr])), (yl, .inl (cI, 72, .inl lf))] s.heap := hP
  have hl := lv_entry ([.ref y]) (n := 4) (Nat.le_of_ble_eq_true rfl)
  rw [lg_entry_eq]
  generalize (lg_sl ([.ref y]) ++ List.replicate (4 - (lg_sl ([.ref y])).length) Slot.unset).toArray = ls at hl ⊢
  have hl : lv_has ls 4 [(0, .ref y)] := hl
  refine lv_iconst (v := 0) hx hb dX6_wrongLetter_0 (by decide) ?_
  refine lv_istore_n (lv' := [(1, .int 0), (0, .ref y)]) hx hb dX6_wrongLetter_1 rfl hl (by decide) rfl (fun ls hl => ?_)
  have loop_2 : ∀ (fuel : Nat), ∀ (p9 k9 : Nat), (p9 = 0 ∨ p9 ≤ nT) → (216 ≤ 3 * k9 + p9) → (wF nT lf 72 0 = if p9 < nT ∨ p9 = 0 then wF nT lf k9 p9 else -9) → (nT + 1 ≤ p9 + fuel) → ∀ (y1 : Int32), y1 = nI p9 → ∀ (ls : Array Slot), lv_has ls 4 [(1, .int y1), (0, .ref y)] → W p l e (headSpec wsX6_wrongLetter ({ frames := 1, cells := 0, slots := 0, locals := 25 })).room s m ([.ref y] : List Value).toArray below meth c s.heap [] 0 0 (MQ below (k2_QcV (.int (wF nT lf 72 0))) ([.ref y] : List Value).toArray s 0 0 (fun _ => False)) (F0 m 2 ls []) := by
    intro fuel
    induction fuel with
    | zero =>
      intro p9 k9 hp hk hinv hfu
      exact False.elim (by omega)
    | succ fuel ih_2 =>
      intro p9 k9 hp hk hinv hfu y1 ey1 ls hl
      subst ey1
      refine lv_iload_n hx hb dX6_wrongLetter_2 rfl (lv_at hl 0 rfl) ?_
      refine lv_aload_n hx hb dX6_wrongLetter_3 rfl (lv_at hl 1 rfl) ?_
      refine va_get (D := D) (ci := 6) (v := .int me) (C := RX6) (T := TX6) (N := 22) hx hb hts (in_X6_wrongLetter_X6) hown hK hP 0 rfl rfl 7 (by decide) (hts (.fieldLink RX6 122 "StepsRoundCircleModel" "lettered" "I") (by decide +kernel)) (fun _ h9 => h9) rfl dX6_wrongLetter_4 ?_
      refine lv_topi (fun z_7 hz_7 => ?_)
      have hz_7 : (nI nT) = z_7 := (hz_7.trans hme).symm
      subst hz_7
      refine lv_icmp_lt (tgt := 14) hx hb dX6_wrongLetter_7 (by decide) (fun c_7 => ?_) (fun c_7 => ?_)
      · skip
        have hbody : wF nT lf 72 0 = wF nT lf k9 p9 := by rw [hinv, if_pos (Or.inl ((nI_ltI (by omega) (by omega)).mp c_7))]
        refine lv_iload_n hx hb dX6_wrongLetter_14 rfl (lv_at hl 0 rfl) ?_
        refine lv_aload_n hx hb dX6_wrongLetter_15 rfl (lv_at hl 1 rfl) ?_
        refine va_get (D := D) (ci := 6) (v := .int me) (C := RX6) (T := TX6) (N := 22) hx hb hts (in_X6_wrongLetter_X6) hown hK hP 0 rfl rfl 7 (by decide) (hts (.fieldLink RX6 122 "StepsRoundCircleModel" "lettered" "I") (by decide +kernel)) (fun _ h9 => h9) rfl dX6_wrongLetter_16 ?_
        refine lv_topi (fun z_19 hz_19 => ?_)
        have hz_19 : (nI nT) = z_19 := (hz_19.trans hme).symm
        subst hz_19
        refine lv_icmp_eq (tgt := 34) hx hb dX6_wrongLetter_19 (by decide) (fun c_19 => ?_) (fun c_19 => ?_)
        · skip
          have hd9 : ¬ 0 ≤ tx_dg (gtx nT lf p9) := by rw [gt_out (by have := (nI_eq (by omega) (by omega)).mp c_19; omega)]; decide
          refine lv_iload_n hx hb dX6_wrongLetter_34 rfl (lv_at hl 0 rfl) ?_
          exact rdI hx hb hr hlocks dX6_wrongLetter_35 (by rw [hbody, wF_bad (by omega) (by rw [sf_bad hd9]; exact nI_n9 (by omega)), sf_bad hd9])
        · skip
          have hpn : p9 < nT := by rcases Nat.lt_or_ge p9 nT with q9 | q9; exact q9; exact absurd (congrArg nI (show p9 = nT by omega)) c_19
          have hgp : gtx nT lf p9 = lf p9 := gt_in hpn
          refine lv_aload_n hx hb dX6_wrongLetter_22 rfl (lv_at hl 1 rfl) ?_
          refine va_get (D := D) (ci := 6) (v := .ref yl) (C := RX6) (T := TX6) (N := 22) hx hb hts (in_X6_wrongLetter_X6) hown hK hP 0 rfl rfl 6 (by decide) (hts (.fieldLink RX6 23 "StepsRoundCircleModel" "letters" "[I") (by decide +kernel)) (fun _ h9 => h9) rfl dX6_wrongLetter_23 ?_
          refine lv_iload_n hx hb dX6_wrongLetter_26 rfl (lv_at hl 0 rfl) ?_
          refine va_iald hx hb hK hP 1 0 rfl rfl (vp_in_nI (by omega) (by omega)) dX6_wrongLetter_27 ?_
          refine lv_topi (fun z_28 hz_28 => ?_)
          have hz_28 : (gtx nT lf p9) = z_28 := (hz_28.trans (by rw [nI_clamp (by omega), hgp])).symm
          subst hz_28
          refine rdS (As := [.int (gtx nT lf p9)]) (rest := []) ⟨hx, hb, hml, hown, hts⟩ (c_X6_digits l D cI cZ cR (gtx nT lf p9) ) (va_cwS 1 hts gX6_wrongLetter_X6_digits rfl rfl rfl (by decide +kernel) ⟨Nat.le_of_ble_eq_true rfl, Nat.le_of_ble_eq_true rfl⟩) hK hN hP [] rfl rfl hl.1 rfl (Nat.le_of_ble_eq_true rfl) dX6_wrongLetter_28 ⟨Nat.zero_le _, Nat.zero_le _⟩ ?_
          refine lv_if_ge (tgt := 36) hx hb dX6_wrongLetter_31 (by decide) (fun c_31 => ?_) (fun c_31 => ?_)
          · skip
            have hD0 := c_31
            have hD := dg_n hD0
            refine lv_aload_n hx hb dX6_wrongLetter_36 rfl (lv_at hl 1 rfl) ?_
            refine va_get (D := D) (ci := 6) (v := .ref yl) (C := RX6) (T := TX6) (N := 22) hx hb hts (in_X6_wrongLetter_X6) hown hK hP 0 rfl rfl 6 (by decide) (hts (.fieldLink RX6 23 "StepsRoundCircleModel" "letters" "[I") (by decide +kernel)) (fun _ h9 => h9) rfl dX6_wrongLetter_37 ?_
            refine lv_iload_n hx hb dX6_wrongLetter_40 rfl (lv_at hl 0 rfl) ?_
            refine va_iald hx hb hK hP 1 0 rfl rfl (vp_in_nI (by omega) (by omega)) dX6_wrongLetter_41 ?_
            refine lv_topi (fun z_42 hz_42 => ?_)
            have hz_42 : (gtx nT lf p9) = z_42 := (hz_42.trans (by rw [nI_clamp (by omega), hgp])).symm
            subst hz_42
            refine rdS (As := [.int (gtx nT lf p9)]) (rest := []) ⟨hx, hb, hml, hown, hts⟩ (c_X6_digits l D cI cZ cR (gtx nT lf p9) ) (va_cwS 1 hts gX6_wrongLetter_X6_digits rfl rfl rfl (by decide +kernel) ⟨Nat.le_of_ble_eq_true rfl, Nat.le_of_ble_eq_true rfl⟩) hK hN hP [] rfl rfl hl.1 rfl (Nat.le_of_ble_eq_true rfl) dX6_wrongLetter_42 ⟨Nat.zero_le _, Nat.zero_le _⟩ ?_
            refine lv_topi (fun z_45 hz_45 => ?_)
            have hz_45 : (nI (dgN nT lf p9)) = z_45 := (hz_45.trans hD.1).symm
            subst hz_45
            refine lv_istore_n (lv' := [(2, .int (nI (dgN nT lf p9))), (1, .int (nI p9)), (0, .ref y)]) hx hb dX6_wrongLetter_45 rfl hl (by decide) rfl (fun ls hl => ?_)
            refine lv_iinc (v := (nI p9) + 1) (lv' := [(1, .int ((nI p9) + 1)), (2, .int (nI (dgN nT lf p9))), (0, .ref y)]) hx hb dX6_wrongLetter_46 hl (k := 1) rfl (by rfl) (by decide) rfl (fun ls hl => ?_)
            refine lv_iconst (v := 0) hx hb dX6_wrongLetter_49 (by decide) ?_
            refine lv_istore_n (lv' := [(3, .int 0), (1, .int ((nI p9) + 1)), (2, .int (nI (dgN nT lf p9))), (0, .ref y)]) hx hb dX6_wrongLetter_50 rfl hl (by decide) rfl (fun ls hl => ?_)
            have loop_51 : ∀ (fuel : Nat), ∀ (k : Nat), (k ≤ dgN nT lf p9) → (sfL nT lf (dgN nT lf p9) (p9 + 1) = sfL nT lf (dgN nT lf p9 - k) (p9 + 1 + k)) → (p9 + 1 + k ≤ nT) → (dgN nT lf p9 + 1 ≤ k + fuel) → ∀ (y1 : Int32), y1 = nI (p9 + 1 + k) → ∀ (y3 : Int32), y3 = nI k → ∀ (ls : Array Slot), lv_has ls 4 [(1, .int y1), (3, .int y3), (0, .ref y), (2, .int (nI (dgN nT lf p9)))] → W p l e (headSpec wsX6_wrongLetter ({ frames := 1, cells := 0, slots := 0, locals := 25 })).room s m ([.ref y] : List Value).toArray below meth c s.heap [] 0 0 (MQ below (k2_QcV (.int (wF nT lf 72 0))) ([.ref y] : List Value).toArray s 0 0 (fun _ => False)) (F0 m 51 ls []) := by
              intro fuel
              induction fuel with
              | zero =>
                intro k hk2 hL hpk hfu2
                exact False.elim (by omega)
              | succ fuel ih_51 =>
                intro k hk2 hL hpk hfu2 y1 ey1 y3 ey3 ls hl
                subst ey1
                subst ey3
                refine lv_iload_n hx hb dX6_wrongLetter_51 rfl (lv_at hl 1 rfl) ?_
                refine lv_iload_n hx hb dX6_wrongLetter_52 rfl (lv_at hl 3 rfl) ?_
                refine lv_icmp_ge (tgt := 94) hx hb dX6_wrongLetter_53 (by decide) (fun c_53 => ?_) (fun c_53 => ?_)
                · skip
                  have hkD : k = dgN nT lf p9 := by have := (nI_leI (by omega) (by omega)).mp c_53; omega
                  refine lv_iload_n hx hb dX6_wrongLetter_94 rfl (lv_at hl 0 rfl) ?_
                  refine lv_aload_n hx hb dX6_wrongLetter_95 rfl (lv_at hl 2 rfl) ?_
                  refine va_get (D := D) (ci := 6) (v := .int me) (C := RX6) (T := TX6) (N := 22) hx hb hts (in_X6_wrongLetter_X6) hown hK hP 0 rfl rfl 7 (by decide) (hts (.fieldLink RX6 122 "StepsRoundCircleModel" "lettered" "I") (by decide +kernel)) (fun _ h9 => h9) rfl dX6_wrongLetter_96 ?_
                  refine lv_topi (fun z_99 hz_99 => ?_)
                  have hz_99 : (nI nT) = z_99 := (hz_99.trans hme).symm
                  subst hz_99
                  refine lv_icmp_eq (tgt := 113) hx hb dX6_wrongLetter_99 (by decide) (fun c_99 => ?_) (fun c_99 => ?_)
                  · skip
                    have hns : ¬ gtx nT lf (p9 + 1 + dgN nT lf p9) = 59 := by rw [gt_out (by have := (nI_eq (by omega) (by omega)).mp c_99; omega)]; decide
                    refine lv_iload_n hx hb dX6_wrongLetter_113 rfl (lv_at hl 0 rfl) ?_
                    exact rdI hx hb hr hlocks dX6_wrongLetter_114 (by have e9 : sfA nT lf p9 = nI (p9 + 1 + k) := (by rw [sf_go hD0, hL, hkD, Nat.sub_self]; unfold sfL sfE; rw [if_neg hns]); rw [hbody, wF_bad (by omega) (by rw [e9]; exact nI_n9 (by omega)), e9])
                  · skip
                    have hkn2 : p9 + 1 + k < nT := by rcases Nat.lt_or_ge (p9 + 1 + k) nT with q9 | q9; exact q9; exact absurd (congrArg nI (show p9 + 1 + k = nT by omega)) c_99
                    refine lv_aload_n hx hb dX6_wrongLetter_102 rfl (lv_at hl 2 rfl) ?_
                    refine va_get (D := D) (ci := 6) (v := .ref yl) (C := RX6) (T := TX6) (N := 22) hx hb hts (in_X6_wrongLetter_X6) hown hK hP 0 rfl rfl 6 (by decide) (hts (.fieldLink RX6 23 "StepsRoundCircleModel" "letters" "[I") (by decide +kernel)) (fun _ h9 => h9) rfl dX6_wrongLetter_103 ?_
                    refine lv_iload_n hx hb dX6_wrongLetter_106 rfl (lv_at hl 0 rfl) ?_
                    refine va_iald hx hb hK hP 1 0 rfl rfl (vp_in_nI (by omega) (by omega)) dX6_wrongLetter_107 ?_
                    refine lv_topi (fun z_108 hz_108 => ?_)
                    have hz_108 : (lf (p9 + 1 + k)) = z_108 := (hz_108.trans (by rw [nI_clamp (by omega)])).symm
                    subst hz_108
                    refine lv_bipush (v := 59) hx hb dX6_wrongLetter_108 (by decide) ?_
                    refine lv_icmp_eq (tgt := 115) hx hb dX6_wrongLetter_110 (by decide) (fun c_110 => ?_) (fun c_110 => ?_)
                    · skip
                      have hsf : sfA nT lf p9 = -9 := by rw [sf_go hD0, hL, hkD, Nat.sub_self]; unfold sfL sfE; rw [if_pos (by rw [← hkD, gt_in hkn2]; exact c_110)]
                      have hnext : wF nT lf 72 0 = if p9 + 1 + dgN nT lf p9 + 1 < nT ∨ p9 + 1 + dgN nT lf p9 + 1 = 0 then wF nT lf (k9 - 1) (p9 + 1 + dgN nT lf p9 + 1) else -9 := by
                        rw [hbody]
                        by_cases h9 : p9 + (dgN nT lf p9 + 2) < nT
                        · rw [wF_go (by omega) hsf h9, if_pos (Or.inl (by omega)), show p9 + (dgN nT lf p9 + 2) = p9 + 1 + dgN nT lf p9 + 1 by omega]
                        · rw [wF_end (by omega) hsf h9, if_neg (by omega)]
                      refine lv_iinc (v := (nI (p9 + 1 + k)) + 1) (lv' := [(1, .int ((nI (p9 + 1 + k)) + 1)), (3, .int (nI k)), (0, .ref y), (2, .int (nI (dgN nT lf p9)))]) hx hb dX6_wrongLetter_115 hl (k := 0) rfl (by rfl) (by decide) rfl (fun ls hl => ?_)
                      refine lv_goto (tgt := 2) hx hb dX6_wrongLetter_118 (by decide) ?_
                      exact ih_2 (p9 + 1 + dgN nT lf p9 + 1) (k9 - 1) (Or.inr (by omega)) (by omega) hnext (by omega) _ (by rw [hkD]; exact nI_1 _) ls (lv_sub hl [0, 2] rfl)
                    · skip
                      have hns : ¬ gtx nT lf (p9 + 1 + dgN nT lf p9) = 59 := by rw [← hkD, gt_in hkn2]; exact c_110
                      refine lv_iload_n hx hb dX6_wrongLetter_113 rfl (lv_at hl 0 rfl) ?_
                      exact rdI hx hb hr hlocks dX6_wrongLetter_114 (by have e9 : sfA nT lf p9 = nI (p9 + 1 + k) := (by rw [sf_go hD0, hL, hkD, Nat.sub_self]; unfold sfL sfE; rw [if_neg hns]); rw [hbody, wF_bad (by omega) (by rw [e9]; exact nI_n9 (by omega)), e9])
                · skip
                  have hkN : k < dgN nT lf p9 := by rcases Nat.lt_or_ge k (dgN nT lf p9) with q9 | q9; exact q9; exact absurd (nI_le q9 (by omega)) c_53
                  refine lv_iload_n hx hb dX6_wrongLetter_56 rfl (lv_at hl 0 rfl) ?_
                  refine lv_aload_n hx hb dX6_wrongLetter_57 rfl (lv_at hl 2 rfl) ?_
                  refine va_get (D := D) (ci := 6) (v := .int me) (C := RX6) (T := TX6) (N := 22) hx hb hts (in_X6_wrongLetter_X6) hown hK hP 0 rfl rfl 7 (by decide) (hts (.fieldLink RX6 122 "StepsRoundCircleModel" "lettered" "I") (by decide +kernel)) (fun _ h9 => h9) rfl dX6_wrongLetter_58 ?_
                  refine lv_topi (fun z_61 hz_61 => ?_)
                  have hz_61 : (nI nT) = z_61 := (hz_61.trans hme).symm
                  subst hz_61
                  refine lv_icmp_eq (tgt := 83) hx hb dX6_wrongLetter_61 (by decide) (fun c_61 => ?_) (fun c_61 => ?_)
                  · skip
                    have hnd : ¬ isD (gtx nT lf (p9 + 1 + k)) := by rw [gt_out (by have := (nI_eq (by omega) (by omega)).mp c_61; omega)]; exact not_isD
                    refine lv_iload_n hx hb dX6_wrongLetter_83 rfl (lv_at hl 0 rfl) ?_
                    exact rdI hx hb hr hlocks dX6_wrongLetter_84 (by rw [hbody, wF_bad (by omega) (by rw [sf_go hD0, hL, sfL_no hnd (by omega)]; exact nI_n9 (by omega)), sf_go hD0, hL, sfL_no hnd (by omega)])
                  · skip
                    have hkn : p9 + 1 + k < nT := by rcases Nat.lt_or_ge (p9 + 1 + k) nT with q9 | q9; exact q9; exact absurd (congrArg nI (show p9 + 1 + k = nT by omega)) c_61
                    refine lv_aload_n hx hb dX6_wrongLetter_64 rfl (lv_at hl 2 rfl) ?_
                    refine va_get (D := D) (ci := 6) (v := .ref yl) (C := RX6) (T := TX6) (N := 22) hx hb hts (in_X6_wrongLetter_X6) hown hK hP 0 rfl rfl 6 (by decide) (hts (.fieldLink RX6 23 "StepsRoundCircleModel" "letters" "[I") (by decide +kernel)) (fun _ h9 => h9) rfl dX6_wrongLetter_65 ?_
                    refine lv_iload_n hx hb dX6_wrongLetter_68 rfl (lv_at hl 0 rfl) ?_
                    refine va_iald hx hb hK hP 1 0 rfl rfl (vp_in_nI (by omega) (by omega)) dX6_wrongLetter_69 ?_
                    refine lv_topi (fun z_70 hz_70 => ?_)
                    have hz_70 : (lf (p9 + 1 + k)) = z_70 := (hz_70.trans (by rw [nI_clamp (by omega)])).symm
                    subst hz_70
                    refine lv_i2l hx hb dX6_wrongLetter_70 rfl ?_
                    refine lv_ldc2 (v := 48) hx hb hown (hts (.constantLong RX6 128 48) (by decide +kernel)) dX6_wrongLetter_71 ?_
                    refine lv_ldc2 (v := 57) hx hb hown (hts (.constantLong RX6 130 57) (by decide +kernel)) dX6_wrongLetter_74 ?_
                    refine rdS (As := [.long ((lf (p9 + 1 + k)).toInt64), .long 48, .long 57]) (rest := []) ⟨hx, hb, hml, hown, hts⟩ (c_X6_in l D cI cZ cR ((lf (p9 + 1 + k)).toInt64) 48 57 ) (va_cwS 3 hts gX6_wrongLetter_X6_in rfl rfl rfl (by decide +kernel) ⟨Nat.le_of_ble_eq_true rfl, Nat.le_of_ble_eq_true rfl⟩) hK hN hP [] rfl rfl hl.1 rfl (Nat.le_of_ble_eq_true rfl) dX6_wrongLetter_77 ⟨Nat.zero_le _, Nat.zero_le _⟩ ?_
                    refine lv_if_ne (tgt := 85) hx hb dX6_wrongLetter_80 (by decide) (fun c_80 => ?_) (fun c_80 => ?_)
                    · skip
                      have c_80 := bi_ne0.mp c_80
                      refine lv_iinc (v := (nI (p9 + 1 + k)) + 1) (lv' := [(1, .int ((nI (p9 + 1 + k)) + 1)), (3, .int (nI k)), (0, .ref y), (2, .int (nI (dgN nT lf p9)))]) hx hb dX6_wrongLetter_85 hl (k := 0) rfl (by rfl) (by decide) rfl (fun ls hl => ?_)
                      refine lv_iinc (v := (nI k) + 1) (lv' := [(3, .int ((nI k) + 1)), (1, .int ((nI (p9 + 1 + k)) + 1)), (0, .ref y), (2, .int (nI (dgN nT lf p9)))]) hx hb dX6_wrongLetter_88 hl (k := 1) rfl (by rfl) (by decide) rfl (fun ls hl => ?_)
                      refine lv_goto (tgt := 51) hx hb dX6_wrongLetter_91 (by decide) ?_
                      exact ih_51 (k + 1) (by omega) (hL.trans (by rw [sfL_yes (by rw [gt_in hkn]; exact (in48 _).mp c_80) (by omega), show dgN nT lf p9 - k - 1 = dgN nT lf p9 - (k + 1) by omega]; rfl)) (by omega) (by omega) _ (nI_1 _) _ (by first | rfl | exact nI_1 _ | exact nI_0.symm) ls (lv_sub hl [1, 0, 2, 3] rfl)
                    · skip
                      have c_80 := bi_eq0.mp c_80
                      have hnd : ¬ isD (gtx nT lf (p9 + 1 + k)) := by rw [gt_in hkn]; exact fun z9 => c_80 ((in48 _).mpr z9)
                      refine lv_iload_n hx hb dX6_wrongLetter_83 rfl (lv_at hl 0 rfl) ?_
                      exact rdI hx hb hr hlocks dX6_wrongLetter_84 (by rw [hbody, wF_bad (by omega) (by rw [sf_go hD0, hL, sfL_no hnd (by omega)]; exact nI_n9 (by omega)), sf_go hD0, hL, sfL_no hnd (by omega)])
            exact loop_51 (dgN nT lf p9 + 1) 0 (by omega) rfl (by omega) (by omega) _ (nI_1 p9) _ (by first | rfl | exact nI_1 _ | exact nI_0.symm) ls (lv_sub hl [1, 0, 3, 2] rfl)
          · skip
            have hd9 : ¬ 0 ≤ tx_dg (gtx nT lf p9) := c_31
            refine lv_iload_n hx hb dX6_wrongLetter_34 rfl (lv_at hl 0 rfl) ?_
            exact rdI hx hb hr hlocks dX6_wrongLetter_35 (by rw [hbody, wF_bad (by omega) (by rw [sf_bad hd9]; exact nI_n9 (by omega)), sf_bad hd9])
      · skip
        refine lv_iload_n hx hb dX6_wrongLetter_10 rfl (lv_at hl 0 rfl) ?_
        refine lv_if_ne (tgt := 121) hx hb dX6_wrongLetter_11 (by decide) (fun c_11 => ?_) (fun c_11 => ?_)
        · skip
          refine lv_bipush (v := (-9)) hx hb dX6_wrongLetter_121 (by decide) ?_
          exact rdI hx hb hr hlocks dX6_wrongLetter_123 (by rw [hinv, if_neg (fun z9 => z9.elim (fun h8 => absurd (nI_lt h8 (by omega)) c_7) (fun h8 => c_11 (by rw [h8]; exact nI_0)))])
        · skip
          have hbody : wF nT lf 72 0 = wF nT lf k9 p9 := by rw [hinv, if_pos (Or.inr ((nI_eq (b := 0) (by omega) (by omega)).mp c_11))]
          refine lv_iload_n hx hb dX6_wrongLetter_14 rfl (lv_at hl 0 rfl) ?_
          refine lv_aload_n hx hb dX6_wrongLetter_15 rfl (lv_at hl 1 rfl) ?_
          refine va_get (D := D) (ci := 6) (v := .int me) (C := RX6) (T := TX6) (N := 22) hx hb hts (in_X6_wrongLetter_X6) hown hK hP 0 rfl rfl 7 (by decide) (hts (.fieldLink RX6 122 "StepsRoundCircleModel" "lettered" "I") (by decide +kernel)) (fun _ h9 => h9) rfl dX6_wrongLetter_16 ?_
          refine lv_topi (fun z_19 hz_19 => ?_)
          have hz_19 : (nI nT) = z_19 := (hz_19.trans hme).symm
          subst hz_19
          refine lv_icmp_eq (tgt := 34) hx hb dX6_wrongLetter_19 (by decide) (fun c_19 => ?_) (fun c_19 => ?_)
          · skip
            have hd9 : ¬ 0 ≤ tx_dg (gtx nT lf p9) := by rw [gt_out (by have := (nI_eq (by omega) (by omega)).mp c_19; omega)]; decide
            refine lv_iload_n hx hb dX6_wrongLetter_34 rfl (lv_at hl 0 rfl) ?_
            exact rdI hx hb hr hlocks dX6_wrongLetter_35 (by rw [hbody, wF_bad (by omega) (by rw [sf_bad hd9]; exact nI_n9 (by omega)), sf_bad hd9])
          · skip
            have hpn : p9 < nT := by rcases Nat.lt_or_ge p9 nT with q9 | q9; exact q9; exact absurd (congrArg nI (show p9 = nT by omega)) c_19
            have hgp : gtx nT lf p9 = lf p9 := gt_in hpn
            refine lv_aload_n hx hb dX6_wrongLetter_22 rfl (lv_at hl 1 rfl) ?_
            refine va_get (D := D) (ci := 6) (v := .ref yl) (C := RX6) (T := TX6) (N := 22) hx hb hts (in_X6_wrongLetter_X6) hown hK hP 0 rfl rfl 6 (by decide) (hts (.fieldLink RX6 23 "StepsRoundCircleModel" "letters" "[I") (by decide +kernel)) (fun _ h9 => h9) rfl dX6_wrongLetter_23 ?_
            refine lv_iload_n hx hb dX6_wrongLetter_26 rfl (lv_at hl 0 rfl) ?_
            refine va_iald hx hb hK hP 1 0 rfl rfl (vp_in_nI (by omega) (by omega)) dX6_wrongLetter_27 ?_
            refine lv_topi (fun z_28 hz_28 => ?_)
            have hz_28 : (gtx nT lf p9) = z_28 := (hz_28.trans (by rw [nI_clamp (by omega), hgp])).symm
            subst hz_28
            refine rdS (As := [.int (gtx nT lf p9)]) (rest := []) ⟨hx, hb, hml, hown, hts⟩ (c_X6_digits l D cI cZ cR (gtx nT lf p9) ) (va_cwS 1 hts gX6_wrongLetter_X6_digits rfl rfl rfl (by decide +kernel) ⟨Nat.le_of_ble_eq_true rfl, Nat.le_of_ble_eq_true rfl⟩) hK hN hP [] rfl rfl hl.1 rfl (Nat.le_of_ble_eq_true rfl) dX6_wrongLetter_28 ⟨Nat.zero_le _, Nat.zero_le _⟩ ?_
            refine lv_if_ge (tgt := 36) hx hb dX6_wrongLetter_31 (by decide) (fun c_31 => ?_) (fun c_31 => ?_)
            · skip
              have hD0 := c_31
              have hD := dg_n hD0
              refine lv_aload_n hx hb dX6_wrongLetter_36 rfl (lv_at hl 1 rfl) ?_
              refine va_get (D := D) (ci := 6) (v := .ref yl) (C := RX6) (T := TX6) (N := 22) hx hb hts (in_X6_wrongLetter_X6) hown hK hP 0 rfl rfl 6 (by decide) (hts (.fieldLink RX6 23 "StepsRoundCircleModel" "letters" "[I") (by decide +kernel)) (fun _ h9 => h9) rfl dX6_wrongLetter_37 ?_
              refine lv_iload_n hx hb dX6_wrongLetter_40 rfl (lv_at hl 0 rfl) ?_
              refine va_iald hx hb hK hP 1 0 rfl rfl (vp_in_nI (by omega) (by omega)) dX6_wrongLetter_41 ?_
              refine lv_topi (fun z_42 hz_42 => ?_)
              have hz_42 : (gtx nT lf p9) = z_42 := (hz_42.trans (by rw [nI_clamp (by omega), hgp])).symm
              subst hz_42
              refine rdS (As := [.int (gtx nT lf p9)]) (rest := []) ⟨hx, hb, hml, hown, hts⟩ (c_X6_digits l D cI cZ cR (gtx nT lf p9) ) (va_cwS 1 hts gX6_wrongLetter_X6_digits rfl rfl rfl (by decide +kernel) ⟨Nat.le_of_ble_eq_true rfl, Nat.le_of_ble_eq_true rfl⟩) hK hN hP [] rfl rfl hl.1 rfl (Nat.le_of_ble_eq_true rfl) dX6_wrongLetter_42 ⟨Nat.zero_le _, Nat.zero_le _⟩ ?_
              refine lv_topi (fun z_45 hz_45 => ?_)
              have hz_45 : (nI (dgN nT lf p9)) = z_45 := (hz_45.trans hD.1).symm
              subst hz_45
              refine lv_istore_n (lv' := [(2, .int (nI (dgN nT lf p9))), (1, .int (nI p9)), (0, .ref y)]) hx hb dX6_wrongLetter_45 rfl hl (by decide) rfl (fun ls hl => ?_)
              refine lv_iinc (v := (nI p9) + 1) (lv' := [(1, .int ((nI p9) + 1)), (2, .int (nI (dgN nT lf p9))), (0, .ref y)]) hx hb dX6_wrongLetter_46 hl (k := 1) rfl (by rfl) (by decide) rfl (fun ls hl => ?_)
              refine lv_iconst (v := 0) hx hb dX6_wrongLetter_49 (by decide) ?_
              refine lv_istore_n (lv' := [(3, .int 0), (1, .int ((nI p9) + 1)), (2, .int (nI (dgN nT lf p9))), (0, .ref y)]) hx hb dX6_wrongLetter_50 rfl hl (by decide) rfl (fun ls hl => ?_)
              have loop_51 : ∀ (fuel : Nat), ∀ (k : Nat), (k ≤ dgN nT lf p9) → (sfL nT lf (dgN nT lf p9) (p9 + 1) = sfL nT lf (dgN nT lf p9 - k) (p9 + 1 + k)) → (p9 + 1 + k ≤ nT) → (dgN nT lf p9 + 1 ≤ k + fuel) → ∀ (y1 : Int32), y1 = nI (p9 + 1 + k) → ∀ (y3 : Int32), y3 = nI k → ∀ (ls : Array Slot), lv_has ls 4 [(1, .int y1), (3, .int y3), (0, .ref y), (2, .int (nI (dgN nT lf p9)))] → W p l e (headSpec wsX6_wrongLetter ({ frames := 1, cells := 0, slots := 0, locals := 25 })).room s m ([.ref y] : List Value).toArray below meth c s.heap [] 0 0 (MQ below (k2_QcV (.int (wF nT lf 72 0))) ([.ref y] : List Value).toArray s 0 0 (fun _ => False)) (F0 m 51 ls []) := by
                intro fuel
                induction fuel with
                | zero =>
                  intro k hk2 hL hpk hfu2
                  exact False.elim (by omega)
                | succ fuel ih_51 =>
                  intro k hk2 hL hpk hfu2 y1 ey1 y3 ey3 ls hl
                  subst ey1
                  subst ey3
                  refine lv_iload_n hx hb dX6_wrongLetter_51 rfl (lv_at hl 1 rfl) ?_
                  refine lv_iload_n hx hb dX6_wrongLetter_52 rfl (lv_at hl 3 rfl) ?_
                  refine lv_icmp_ge (tgt := 94) hx hb dX6_wrongLetter_53 (by decide) (fun c_53 => ?_) (fun c_53 => ?_)
                  · skip
                    have hkD : k = dgN nT lf p9 := by have := (nI_leI (by omega) (by omega)).mp c_53; omega
                    refine lv_iload_n hx hb dX6_wrongLetter_94 rfl (lv_at hl 0 rfl) ?_
                    refine lv_aload_n hx hb dX6_wrongLetter_95 rfl (lv_at hl 2 rfl) ?_
                    refine va_get (D := D) (ci := 6) (v := .int me) (C := RX6) (T := TX6) (N := 22) hx hb hts (in_X6_wrongLetter_X6) hown hK hP 0 rfl rfl 7 (by decide) (hts (.fieldLink RX6 122 "StepsRoundCircleModel" "lettered" "I") (by decide +kernel)) (fun _ h9 => h9) rfl dX6_wrongLetter_96 ?_
                    refine lv_topi (fun z_99 hz_99 => ?_)
                    have hz_99 : (nI nT) = z_99 := (hz_99.trans hme).symm
                    subst hz_99
                    refine lv_icmp_eq (tgt := 113) hx hb dX6_wrongLetter_99 (by decide) (fun c_99 => ?_) (fun c_99 => ?_)
                    · skip
                      have hns : ¬ gtx nT lf (p9 + 1 + dgN nT lf p9) = 59 := by rw [gt_out (by have := (nI_eq (by omega) (by omega)).mp c_99; omega)]; decide
                      refine lv_iload_n hx hb dX6_wrongLetter_113 rfl (lv_at hl 0 rfl) ?_
                      exact rdI hx hb hr hlocks dX6_wrongLetter_114 (by have e9 : sfA nT lf p9 = nI (p9 + 1 + k) := (by rw [sf_go hD0, hL, hkD, Nat.sub_self]; unfold sfL sfE; rw [if_neg hns]); rw [hbody, wF_bad (by omega) (by rw [e9]; exact nI_n9 (by omega)), e9])
                    · skip
                      have hkn2 : p9 + 1 + k < nT := by rcases Nat.lt_or_ge (p9 + 1 + k) nT with q9 | q9; exact q9; exact absurd (congrArg nI (show p9 + 1 + k = nT by omega)) c_99
                      refine lv_aload_n hx hb dX6_wrongLetter_102 rfl (lv_at hl 2 rfl) ?_
                      refine va_get (D := D) (ci := 6) (v := .ref yl) (C := RX6) (T := TX6) (N := 22) hx hb hts (in_X6_wrongLetter_X6) hown hK hP 0 rfl rfl 6 (by decide) (hts (.fieldLink RX6 23 "StepsRoundCircleModel" "letters" "[I") (by decide +kernel)) (fun _ h9 => h9) rfl dX6_wrongLetter_103 ?_
                      refine lv_iload_n hx hb dX6_wrongLetter_106 rfl (lv_at hl 0 rfl) ?_
                      refine va_iald hx hb hK hP 1 0 rfl rfl (vp_in_nI (by omega) (by omega)) dX6_wrongLetter_107 ?_
                      refine lv_topi (fun z_108 hz_108 => ?_)
                      have hz_108 : (lf (p9 + 1 + k)) = z_108 := (hz_108.trans (by rw [nI_clamp (by omega)])).symm
                      subst hz_108
                      refine lv_bipush (v := 59) hx hb dX6_wrongLetter_108 (by decide) ?_
                      refine lv_icmp_eq (tgt := 115) hx hb dX6_wrongLetter_110 (by decide) (fun c_110 => ?_) (fun c_110 => ?_)
                      · skip
                        have hsf : sfA nT lf p9 = -9 := by rw [sf_go hD0, hL, hkD, Nat.sub_self]; unfold sfL sfE; rw [if_pos (by rw [← hkD, gt_in hkn2]; exact c_110)]
                        have hnext : wF nT lf 72 0 = if p9 + 1 + dgN nT lf p9 + 1 < nT ∨ p9 + 1 + dgN nT lf p9 + 1 = 0 then wF nT lf (k9 - 1) (p9 + 1 + dgN nT lf p9 + 1) else -9 := by
                          rw [hbody]
                          by_cases h9 : p9 + (dgN nT lf p9 + 2) < nT
                          · rw [wF_go (by omega) hsf h9, if_pos (Or.inl (by omega)), show p9 + (dgN nT lf p9 + 2) = p9 + 1 + dgN nT lf p9 + 1 by omega]
                          · rw [wF_end (by omega) hsf h9, if_neg (by omega)]
                        refine lv_iinc (v := (nI (p9 + 1 + k)) + 1) (lv' := [(1, .int ((nI (p9 + 1 + k)) + 1)), (3, .int (nI k)), (0, .ref y), (2, .int (nI (dgN nT lf p9)))]) hx hb dX6_wrongLetter_115 hl (k := 0) rfl (by rfl) (by decide) rfl (fun ls hl => ?_)
                        refine lv_goto (tgt := 2) hx hb dX6_wrongLetter_118 (by decide) ?_
                        exact ih_2 (p9 + 1 + dgN nT lf p9 + 1) (k9 - 1) (Or.inr (by omega)) (by omega) hnext (by omega) _ (by rw [hkD]; exact nI_1 _) ls (lv_sub hl [0, 2] rfl)
                      · skip
                        have hns : ¬ gtx nT lf (p9 + 1 + dgN nT lf p9) = 59 := by rw [← hkD, gt_in hkn2]; exact c_110
                        refine lv_iload_n hx hb dX6_wrongLetter_113 rfl (lv_at hl 0 rfl) ?_
                        exact rdI hx hb hr hlocks dX6_wrongLetter_114 (by have e9 : sfA nT lf p9 = nI (p9 + 1 + k) := (by rw [sf_go hD0, hL, hkD, Nat.sub_self]; unfold sfL sfE; rw [if_neg hns]); rw [hbody, wF_bad (by omega) (by rw [e9]; exact nI_n9 (by omega)), e9])
                  · skip
                    have hkN : k < dgN nT lf p9 := by rcases Nat.lt_or_ge k (dgN nT lf p9) with q9 | q9; exact q9; exact absurd (nI_le q9 (by omega)) c_53
                    refine lv_iload_n hx hb dX6_wrongLetter_56 rfl (lv_at hl 0 rfl) ?_
                    refine lv_aload_n hx hb dX6_wrongLetter_57 rfl (lv_at hl 2 rfl) ?_
                    refine va_get (D := D) (ci := 6) (v := .int me) (C := RX6) (T := TX6) (N := 22) hx hb hts (in_X6_wrongLetter_X6) hown hK hP 0 rfl rfl 7 (by decide) (hts (.fieldLink RX6 122 "StepsRoundCircleModel" "lettered" "I") (by decide +kernel)) (fun _ h9 => h9) rfl dX6_wrongLetter_58 ?_
                    refine lv_topi (fun z_61 hz_61 => ?_)
                    have hz_61 : (nI nT) = z_61 := (hz_61.trans hme).symm
                    subst hz_61
                    refine lv_icmp_eq (tgt := 83) hx hb dX6_wrongLetter_61 (by decide) (fun c_61 => ?_) (fun c_61 => ?_)
                    · skip
                      have hnd : ¬ isD (gtx nT lf (p9 + 1 + k)) := by rw [gt_out (by have := (nI_eq (by omega) (by omega)).mp c_61; omega)]; exact not_isD
                      refine lv_iload_n hx hb dX6_wrongLetter_83 rfl (lv_at hl 0 rfl) ?_
                      exact rdI hx hb hr hlocks dX6_wrongLetter_84 (by rw [hbody, wF_bad (by omega) (by rw [sf_go hD0, hL, sfL_no hnd (by omega)]; exact nI_n9 (by omega)), sf_go hD0, hL, sfL_no hnd (by omega)])
                    · skip
                      have hkn : p9 + 1 + k < nT := by rcases Nat.lt_or_ge (p9 + 1 + k) nT with q9 | q9; exact q9; exact absurd (congrArg nI (show p9 + 1 + k = nT by omega)) c_61
                      refine lv_aload_n hx hb dX6_wrongLetter_64 rfl (lv_at hl 2 rfl) ?_
                      refine va_get (D := D) (ci := 6) (v := .ref yl) (C := RX6) (T := TX6) (N := 22) hx hb hts (in_X6_wrongLetter_X6) hown hK hP 0 rfl rfl 6 (by decide) (hts (.fieldLink RX6 23 "StepsRoundCircleModel" "letters" "[I") (by decide +kernel)) (fun _ h9 => h9) rfl dX6_wrongLetter_65 ?_
                      refine lv_iload_n hx hb dX6_wrongLetter_68 rfl (lv_at hl 0 rfl) ?_
                      refine va_iald hx hb hK hP 1 0 rfl rfl (vp_in_nI (by omega) (by omega)) dX6_wrongLetter_69 ?_
                      refine lv_topi (fun z_70 hz_70 => ?_)
                      have hz_70 : (lf (p9 + 1 + k)) = z_70 := (hz_70.trans (by rw [nI_clamp (by omega)])).symm
                      subst hz_70
                      refine lv_i2l hx hb dX6_wrongLetter_70 rfl ?_
                      refine lv_ldc2 (v := 48) hx hb hown (hts (.constantLong RX6 128 48) (by decide +kernel)) dX6_wrongLetter_71 ?_
                      refine lv_ldc2 (v := 57) hx hb hown (hts (.constantLong RX6 130 57) (by decide +kernel)) dX6_wrongLetter_74 ?_
                      refine rdS (As := [.long ((lf (p9 + 1 + k)).toInt64), .long 48, .long 57]) (rest := []) ⟨hx, hb, hml, hown, hts⟩ (c_X6_in l D cI cZ cR ((lf (p9 + 1 + k)).toInt64) 48 57 ) (va_cwS 3 hts gX6_wrongLetter_X6_in rfl rfl rfl (by decide +kernel) ⟨Nat.le_of_ble_eq_true rfl, Nat.le_of_ble_eq_true rfl⟩) hK hN hP [] rfl rfl hl.1 rfl (Nat.le_of_ble_eq_true rfl) dX6_wrongLetter_77 ⟨Nat.zero_le _, Nat.zero_le _⟩ ?_
                      refine lv_if_ne (tgt := 85) hx hb dX6_wrongLetter_80 (by decide) (fun c_80 => ?_) (fun c_80 => ?_)
                      · skip
                        have c_80 := bi_ne0.mp c_80
                        refine lv_iinc (v := (nI (p9 + 1 + k)) + 1) (lv' := [(1, .int ((nI (p9 + 1 + k)) + 1)), (3, .int (nI k)), (0, .ref y), (2, .int (nI (dgN nT lf p9)))]) hx hb dX6_wrongLetter_85 hl (k := 0) rfl (by rfl) (by decide) rfl (fun ls hl => ?_)
                        refine lv_iinc (v := (nI k) + 1) (lv' := [(3, .int ((nI k) + 1)), (1, .int ((nI (p9 + 1 + k)) + 1)), (0, .ref y), (2, .int (nI (dgN nT lf p9)))]) hx hb dX6_wrongLetter_88 hl (k := 1) rfl (by rfl) (by decide) rfl (fun ls hl => ?_)
                        refine lv_goto (tgt := 51) hx hb dX6_wrongLetter_91 (by decide) ?_
                        exact ih_51 (k + 1) (by omega) (hL.trans (by rw [sfL_yes (by rw [gt_in hkn]; exact (in48 _).mp c_80) (by omega), show dgN nT lf p9 - k - 1 = dgN nT lf p9 - (k + 1) by omega]; rfl)) (by omega) (by omega) _ (nI_1 _) _ (by first | rfl | exact nI_1 _ | exact nI_0.symm) ls (lv_sub hl [1, 0, 2, 3] rfl)
                      · skip
                        have c_80 := bi_eq0.mp c_80
                        have hnd : ¬ isD (gtx nT lf (p9 + 1 + k)) := by rw [gt_in hkn]; exact fun z9 => c_80 ((in48 _).mpr z9)
                        refine lv_iload_n hx hb dX6_wrongLetter_83 rfl (lv_at hl 0 rfl) ?_
                        exact rdI hx hb hr hlocks dX6_wrongLetter_84 (by rw [hbody, wF_bad (by omega) (by rw [sf_go hD0, hL, sfL_no hnd (by omega)]; exact nI_n9 (by omega)), sf_go hD0, hL, sfL_no hnd (by omega)])
              exact loop_51 (dgN nT lf p9 + 1) 0 (by omega) rfl (by omega) (by omega) _ (nI_1 p9) _ (by first | rfl | exact nI_1 _ | exact nI_0.symm) ls (lv_sub hl [1, 0, 3, 2] rfl)
            · skip
              have hd9 : ¬ 0 ≤ tx_dg (gtx nT lf p9) := c_31
              refine lv_iload_n hx hb dX6_wrongLetter_34 rfl (lv_at hl 0 rfl) ?_
              exact rdI hx hb hr hlocks dX6_wrongLetter_35 (by rw [hbody, wF_bad (by omega) (by rw [sf_bad hd9]; exact nI_n9 (by omega)), sf_bad hd9])
  exact loop_2 (nT + 1) 0 72 (Or.inl rfl) (by omega) (by rw [if_pos (Or.inr rfl)]) (by omega) _ (by first | rfl | exact nI_1 _ | exact nI_0.symm) ls (lv_sub hl [0, 1] rfl)
