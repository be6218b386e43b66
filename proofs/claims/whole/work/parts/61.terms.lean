
set_option maxHeartbeats 4000000 in
set_option maxRecDepth 100000 in
theorem c_X5_termAt (l : Launch) (D : va_G) (cI cZ cR : ClassId) (a9 b9 L9 : Nat) (j : Int32) (ha : a9 < 1000000) (hb9 : b9 < 1000000) (hL : eL a9 b9 L9) (hL9 : L9 ≤ 92) : Met l yX5_termAt wsX5_termAt ({ frames := 0, cells := 0, slots := 0, locals := 0 }) (PcR D cI cZ cR [.int (nI a9), .int (nI b9), .int j] []) (k2_QcV (.int (if 0 ≤ j ∧ j < nI L9 then nI (eT a9 b9 j.toNatClampNeg) else -9))) 0 0 (fun _ => False) := by
  refine Met.ofW (cc := cX5_termAt) (maxL := 7) (ret := (some .int)) (by decide) rfl ?_
  intro p e s m args below meth c s₁ B hml hv
  obtain ⟨rfl, hP, hK, hN⟩ := hv
  have hx := B.exec
  have hb := B.bytes
  have hr := B.returns
  have hts := atoms_spec (ws := wsX5_termAt) B.pre
  have hown : s.vm.findClass RX5 = some m.cls := findClass_of_methodNamed B.named
  have hlocks := B.notSynchronized
  have hP : va_P D vwCl [] s.heap := hP
  have hl := lv_entry ([.int (nI a9), .int (nI b9), .int j]) (n := 7) (Nat.le_of_ble_eq_true rfl)
  rw [lg_entry_eq]
  generalize (lg_sl ([.int (nI a9), .int (nI b9), .int j]) ++ List.replicate (7 - (lg_sl ([.int (nI a9), .int (nI b9), .int j])).length) Slot.unset).toArray = ls at hl ⊢
  have hl : lv_has ls 7 [(0, .int (nI a9)), (1, .int (nI b9)), (2, .int j)] := hl
  refine lv_iload_n hx hb dX5_termAt_0 rfl (lv_at hl 0 rfl) ?_
  refine lv_istore_n (lv' := [(3, .int (nI a9)), (0, .int (nI a9)), (1, .int (nI b9)), (2, .int j)]) hx hb dX5_termAt_1 rfl hl (by decide) rfl (fun ls hl => ?_)
  refine lv_iload_n hx hb dX5_termAt_2 rfl (lv_at hl 2 rfl) ?_
  refine lv_istore (lv' := [(4, .int (nI b9)), (3, .int (nI a9)), (0, .int (nI a9)), (1, .int (nI b9)), (2, .int j)]) hx hb dX5_termAt_3 hl (by decide) rfl (fun ls hl => ?_)
  refine lv_iconst (v := 0) hx hb dX5_termAt_5 (by decide) ?_
  refine lv_istore (lv' := [(5, .int 0), (4, .int (nI b9)), (3, .int (nI a9)), (0, .int (nI a9)), (1, .int (nI b9)), (2, .int j)]) hx hb dX5_termAt_6 hl (by decide) rfl (fun ls hl => ?_)
  have loop_8 : ∀ (fuel : Nat), ∀ (i : Nat), (i ≤ L9) → (∀ t, t < i → ¬ nI t = j) → (L9 + 1 ≤ i + fuel) → ∀ (y3 : Int32), y3 = nI (eS a9 b9 i).1 → ∀ (y4 : Int32), y4 = nI (eS a9 b9 i).2 → ∀ (y5 : Int32), y5 = nI i → ∀ (ls : Array Slot), lv_has ls 7 [(3, .int y3), (4, .int y4), (5, .int y5), (0, .int (nI a9)), (1, .int (nI b9)), (2, .int j)] → W p l e (headSpec wsX5_termAt ({ frames := 0, cells := 0, slots := 0, locals := 0 })).room s m ([.int (nI a9), .int (nI b9), .int j] : List Value).toArray below meth c s.heap [] 0 0 (MQ below (k2_QcV (.int (if 0 ≤ j ∧ j < nI L9 then nI (eT a9 b9 j.toNatClampNeg) else -9))) ([.int (nI a9), .int (nI b9), .int j] : List Value).toArray s 0 0 (fun _ => False)) (F0 m 8 ls []) := by
    intro fuel
    induction fuel with
    | zero =>
      intro i hi hno hfu
      exact False.elim (by omega)
    | succ fuel ih_8 =>
      intro i hi hno hfu y3 ey3 y4 ey4 y5 ey5 ls hl
      subst ey3
      subst ey4
      subst ey5
      refine lv_iload hx hb dX5_termAt_8 (lv_at hl 2 rfl) ?_
      refine lv_sipush (v := 200) hx hb dX5_termAt_10 (by decide) ?_
      refine lv_icmp_ge (tgt := 51) hx hb dX5_termAt_13 (by decide) (fun c_13 => ?_) (fun c_13 => ?_)
      · skip
        exact False.elim (by have h9 := (nI_leI (a := 200) (b := i) (by omega) (by omega)).mp c_13; omega)
      · skip
        have hbd := eS_bd ha hb9 i (fun t ht => hL.1 t (by omega))
        refine lv_iload hx hb dX5_termAt_16 (lv_at hl 1 rfl) ?_
        refine lv_if_eq (tgt := 51) hx hb dX5_termAt_18 (by decide) (fun c_18 => ?_) (fun c_18 => ?_)
        · skip
          refine lv_bipush (v := (-9)) hx hb dX5_termAt_51 (by decide) ?_
          exact rdI hx hb hr hlocks dX5_termAt_53 (by have hz9 : (eS a9 b9 i).2 = 0 := (nI_eq (b := 0) (by omega) (by omega)).mp c_18; have hiL : i = L9 := (by rcases Nat.lt_or_ge i L9 with q9 | q9; exact absurd (hL.1 i q9) (by omega); omega); rw [if_neg]; rintro ⟨z1, z2⟩; obtain ⟨t9, ht9, rfl⟩ : ∃ t9 : Nat, t9 < 2147483648 ∧ j = nI t9 := nI_of (Int32.not_lt.mpr z1); exact hno t9 (by have := (nI_ltI (by omega) (by omega)).mp z2; omega) rfl)
        · skip
          have hp0 : 0 < (eS a9 b9 i).2 := by rcases Nat.eq_zero_or_pos (eS a9 b9 i).2 with q9 | q9; exact absurd (by rw [q9]; exact nI_0) c_18; exact q9
          have hiL : i < L9 := by rcases Nat.lt_or_ge i L9 with q9 | q9; exact q9; exact absurd hL.2 (by rw [show L9 = i by omega]; omega)
          refine lv_iload hx hb dX5_termAt_21 (lv_at hl 2 rfl) ?_
          refine lv_iload_n hx hb dX5_termAt_23 rfl (lv_at hl 5 rfl) ?_
          refine lv_icmp_ne (tgt := 32) hx hb dX5_termAt_24 (by decide) (fun c_24 => ?_) (fun c_24 => ?_)
          · skip
            refine lv_iload_n hx hb dX5_termAt_32 rfl (lv_at hl 0 rfl) ?_
            refine lv_iload hx hb dX5_termAt_33 (lv_at hl 1 rfl) ?_
            refine lv_irem hx hb dX5_termAt_35 c_18 ?_
            refine lv_topi (fun z_36 hz_36 => ?_)
            have hz_36 : z_36 = nI ((eS a9 b9 i).1 % (eS a9 b9 i).2) := hz_36.trans (pk_rem (by omega) hp0 (by omega))
            subst hz_36
            refine lv_istore (lv' := [(6, .int (nI ((eS a9 b9 i).1 % (eS a9 b9 i).2))), (3, .int (nI (eS a9 b9 i).1)), (4, .int (nI (eS a9 b9 i).2)), (5, .int (nI i)), (0, .int (nI a9)), (1, .int (nI b9)), (2, .int j)]) hx hb dX5_termAt_36 hl (by decide) rfl (fun ls hl => ?_)
            refine lv_iload hx hb dX5_termAt_38 (lv_at hl 2 rfl) ?_
            refine lv_istore_n (lv' := [(3, .int (nI (eS a9 b9 i).2)), (6, .int (nI ((eS a9 b9 i).1 % (eS a9 b9 i).2))), (4, .int (nI (eS a9 b9 i).2)), (5, .int (nI i)), (0, .int (nI a9)), (1, .int (nI b9)), (2, .int j)]) hx hb dX5_termAt_40 rfl hl (by decide) rfl (fun ls hl => ?_)
            refine lv_iload hx hb dX5_termAt_41 (lv_at hl 1 rfl) ?_
            refine lv_istore (lv' := [(4, .int (nI ((eS a9 b9 i).1 % (eS a9 b9 i).2))), (3, .int (nI (eS a9 b9 i).2)), (6, .int (nI ((eS a9 b9 i).1 % (eS a9 b9 i).2))), (5, .int (nI i)), (0, .int (nI a9)), (1, .int (nI b9)), (2, .int j)]) hx hb dX5_termAt_43 hl (by decide) rfl (fun ls hl => ?_)
            refine lv_iinc (v := (nI i) + 1) (lv' := [(5, .int ((nI i) + 1)), (4, .int (nI ((eS a9 b9 i).1 % (eS a9 b9 i).2))), (3, .int (nI (eS a9 b9 i).2)), (6, .int (nI ((eS a9 b9 i).1 % (eS a9 b9 i).2))), (0, .int (nI a9)), (1, .int (nI b9)), (2, .int j)]) hx hb dX5_termAt_45 hl (k := 3) rfl (by rfl) (by decide) rfl (fun ls hl => ?_)
            refine lv_goto (tgt := 8) hx hb dX5_termAt_48 (by decide) ?_
            exact ih_8 (i + 1) (by omega) (lt_s hno c_24) (by omega) _ rfl _ rfl _ (by first | rfl | exact nI_1 _ | exact nI_0.symm) ls (lv_sub hl [2, 1, 0, 4, 5, 6] rfl)
          · skip
            refine lv_iload_n hx hb dX5_termAt_27 rfl (lv_at hl 0 rfl) ?_
            refine lv_iload hx hb dX5_termAt_28 (lv_at hl 1 rfl) ?_
            refine lv_idiv hx hb dX5_termAt_30 c_18 ?_
            refine lv_topi (fun z_31 hz_31 => ?_)
            have hz_31 : z_31 = nI (eT a9 b9 i) := hz_31.trans (pk_div (by omega) hp0 (by omega))
            subst hz_31
            exact rdI hx hb hr hlocks dX5_termAt_31 (by rw [← c_24, if_pos ⟨nI_pos' (by omega), nI_lt hiL (by omega)⟩, nI_clamp (by omega)])
  exact loop_8 (L9 + 1) 0 (by omega) (fun t ht => absurd ht (Nat.not_lt_zero t)) (by omega) _ rfl _ rfl _ (by first | rfl | exact nI_1 _ | exact nI_0.symm) ls (lv_sub hl [2, 1, 0, 3, 4, 5] rfl)

set_option maxHeartbeats 4000000 in
set_option maxRecDepth 100000 in
theorem c_X5_howManyTerms (l : Launch) (D : va_G) (cI cZ cR : ClassId) (a9 b9 L9 : Nat) (ha : a9 < 1000000) (hb9 : b9 < 1000000) (hL : eL a9 b9 L9) (hL9 : L9 ≤ 92) : Met l yX5_howManyTerms wsX5_howManyTerms ({ frames := 1, cells := 0, slots := 0, locals := 26 }) (PcR D cI cZ cR [.int (nI a9), .int (nI b9)] []) (k2_QcV (.int (nI L9))) 0 0 (fun _ => False) := by
  refine Met.ofW (cc := cX5_howManyTerms) (maxL := 3) (ret := (some .int)) (by decide) rfl ?_
  intro p e s m args below meth c s₁ B hml hv
  obtain ⟨rfl, hP, hK, hN⟩ := hv
  have hx := B.exec
  have hb := B.bytes
  have hr := B.returns
  have hts := atoms_spec (ws := wsX5_howManyTerms) B.pre
  have hown : s.vm.findClass RX5 = some m.cls := findClass_of_methodNamed B.named
  have hlocks := B.notSynchronized
  have hP : va_P D vwCl [] s.heap := hP
  have hl := lv_entry ([.int (nI a9), .int (nI b9)]) (n := 3) (Nat.le_of_ble_eq_true rfl)
  rw [lg_entry_eq]
  generalize (lg_sl ([.int (nI a9), .int (nI b9)]) ++ List.replicate (3 - (lg_sl ([.int (nI a9), .int (nI b9)])).length) Slot.unset).toArray = ls at hl ⊢
  have hl : lv_has ls 3 [(0, .int (nI a9)), (1, .int (nI b9))] := hl
  refine lv_iconst (v := 0) hx hb dX5_howManyTerms_0 (by decide) ?_
  refine lv_istore_n (lv' := [(2, .int 0), (0, .int (nI a9)), (1, .int (nI b9))]) hx hb dX5_howManyTerms_1 rfl hl (by decide) rfl (fun ls hl => ?_)
  have loop_2 : ∀ (fuel : Nat), ∀ (i : Nat), (i ≤ L9) → (L9 + 1 ≤ i + fuel) → ∀ (y2 : Int32), y2 = nI i → ∀ (ls : Array Slot), lv_has ls 3 [(2, .int y2), (0, .int (nI a9)), (1, .int (nI b9))] → W p l e (headSpec wsX5_howManyTerms ({ frames := 1, cells := 0, slots := 0, locals := 26 })).room s m ([.int (nI a9), .int (nI b9)] : List Value).toArray below meth c s.heap [] 0 0 (MQ below (k2_QcV (.int (nI L9))) ([.int (nI a9), .int (nI b9)] : List Value).toArray s 0 0 (fun _ => False)) (F0 m 2 ls []) := by
    intro fuel
    induction fuel with
    | zero =>
      intro i hi hfu
      exact False.elim (by omega)
    | succ fuel ih_2 =>
      intro i hi hfu y2 ey2 ls hl
      subst ey2
      refine lv_iload_n hx hb dX5_howManyTerms_2 rfl (lv_at hl 0 rfl) ?_
      refine lv_sipush (v := 200) hx hb dX5_howManyTerms_3 (by decide) ?_
      refine lv_icmp_ge (tgt := 26) hx hb dX5_howManyTerms_6 (by decide) (fun c_6 => ?_) (fun c_6 => ?_)
      · skip
        exact False.elim (by have h9 := (nI_leI (a := 200) (b := i) (by omega) (by omega)).mp c_6; omega)
      · skip
        refine lv_iload_n hx hb dX5_howManyTerms_9 rfl (lv_at hl 1 rfl) ?_
        refine lv_iload_n hx hb dX5_howManyTerms_10 rfl (lv_at hl 2 rfl) ?_
        refine lv_iload_n hx hb dX5_howManyTerms_11 rfl (lv_at hl 0 rfl) ?_
        refine rdS (As := [.int (nI a9), .int (nI b9), .int (nI i)]) (rest := []) ⟨hx, hb, hml, hown, hts⟩ (c_X5_termAt l D cI cZ cR a9 b9 L9 (nI i) ha hb9 hL hL9) (va_cwS 3 hts gX5_howManyTerms_X5_termAt rfl rfl rfl (by decide +kernel) ⟨Nat.le_of_ble_eq_true rfl, Nat.le_of_ble_eq_true rfl⟩) hK hN hP [] rfl rfl hl.1 rfl (Nat.le_of_ble_eq_true rfl) dX5_howManyTerms_12 ⟨Nat.zero_le _, Nat.zero_le _⟩ ?_
        refine lv_bipush (v := (-9)) hx hb dX5_howManyTerms_15 (by decide) ?_
        refine lv_icmp_eq (tgt := 26) hx hb dX5_howManyTerms_17 (by decide) (fun c_17 => ?_) (fun c_17 => ?_)
        · skip
          refine lv_iload_n hx hb dX5_howManyTerms_26 rfl (lv_at hl 0 rfl) ?_
          exact rdI hx hb hr hlocks dX5_howManyTerms_27 (by rcases Nat.lt_or_ge i L9 with q9 | q9; (· rw [if_pos ⟨nI_pos' (by omega), nI_lt q9 (by omega)⟩] at c_17; exact absurd c_17 (eT_ne9 ha hb9 hL (by omega) (by rw [nI_clamp (by omega)]; exact q9))); (· exact congrArg nI (by omega)))
        · skip
          have hiL : i < L9 := by rcases Nat.lt_or_ge i L9 with q9 | q9; exact q9; exact absurd (if_neg (fun z9 => absurd z9.2 (nI_nlt q9 (by omega)))) c_17
          refine lv_iinc (v := (nI i) + 1) (lv' := [(2, .int ((nI i) + 1)), (0, .int (nI a9)), (1, .int (nI b9))]) hx hb dX5_howManyTerms_20 hl (k := 0) rfl (by rfl) (by decide) rfl (fun ls hl => ?_)
          refine lv_goto (tgt := 2) hx hb dX5_howManyTerms_23 (by decide) ?_
          exact ih_2 (i + 1) hiL (by omega) _ (by first | rfl | exact nI_1 _ | exact nI_0.symm) ls (lv_sub hl [0, 1, 2] rfl)
  exact loop_2 (L9 + 1) 0 (by omega) (by omega) _ (by first | rfl | exact nI_1 _ | exact nI_0.symm) ls (lv_sub hl [0, 1, 2] rfl)
