theorem in_X5_convergent_X1 : ∀ w ∈ wsX10, w ∈ wsX5_convergent := by decide +kernel
theorem in_X5_convergent_X5 : ∀ w ∈ wsX50, w ∈ wsX5_convergent := by decide +kernel
theorem in_X5_convergentPart_X1 : ∀ w ∈ wsX10, w ∈ wsX5_convergentPart := by decide +kernel
theorem in_X5_convergentPart_X5 : ∀ w ∈ wsX50, w ∈ wsX5_convergentPart := by decide +kernel
theorem in_X6_convergent_X6 : ∀ w ∈ wsX60, w ∈ wsX6_convergent := by decide +kernel
set_option maxHeartbeats 4000000 in
set_option maxRecDepth 100000 in
theorem c_X5_convergentPart (l : Launch) (D : va_G) (cI cZ cR : ClassId) (x r t im tx ch ro rf pl ot cl : Nat) (hi : Int32) (rn : Nat) (q nw : Int32) (v : Nat → Int32) (a9 i9 L9 o9 n9 : Nat) (hq : okQ q) (ha : a9 < 2001) (hL : eL a9 q.toNatClampNeg L9) (hL9 : L9 ≤ 92) (hi9L : i9 < L9) : Met l yX5_convergentPart wsX5_convergentPart ({ frames := 1, cells := 0, slots := 0, locals := 26 }) (PcR D cI cZ cR [.ref x, .int (nI a9), .int (nI i9), .long (lN o9), .long (lN n9)] [(x, .inr (5, [.ref r, .ref t, .ref im, .int hi, .ref tx, .ref ch, .ref ro, .ref rf, .ref pl, .ref ot, .ref cl])), (r, .inr (1, [.int q, .int nw, .ref rn])), (rn, .inl (cI, 20, .inl v))]) (k2_QcV (.long (lN (cG (eT a9 q.toNatClampNeg) 0 (i9 + 1) o9 n9)))) 0 0 (fun _ => False) := by
  refine Met.ofW (cc := cX5_convergentPart) (maxL := 14) (ret := (some .long)) (by decide) rfl ?_
  intro p e s m args below meth c s₁ B hml hv
  obtain ⟨rfl, hP, hK, hN⟩ := hv
  have hx := B.exec
  have hb := B.bytes
  have hr := B.returns
  have hts := atoms_spec (ws := wsX5_convergentPart) B.pre
  have hown : s.vm.findClass RX5 = some m.cls := findClass_of_methodNamed B.named
  have hlocks := B.notSynchronized
  have hP : va_P D vwCl [(x, .inr (5, [.ref r, .ref t, .ref im, .int hi, .ref tx, .ref ch, .ref ro, .ref rf, .ref pl, .ref ot, .ref cl])), (r, .inr (1, [.int q, .int nw, .ref rn])), (rn, .inl (cI, 20, .inl v))] s.heap := hP
  have hl := lv_entry ([.ref x, .int (nI a9), .int (nI i9), .long (lN o9), .long (lN n9)]) (n := 14) (Nat.le_of_ble_eq_true rfl)
  rw [lg_entry_eq]
  generalize (lg_sl ([.ref x, .int (nI a9), .int (nI i9), .long (lN o9), .long (lN n9)]) ++ List.replicate (14 - (lg_sl ([.ref x, .int (nI a9), .int (nI i9), .long (lN o9), .long (lN n9)])).length) Slot.unset).toArray = ls at hl ⊢
  have hl : lv_has ls 14 [(0, .ref x), (1, .int (nI a9)), (2, .int (nI i9)), (3, .long (lN o9)), (5, .long (lN n9))] := hl
  have hqN := okQ_N hq
  refine lv_lload_n hx hb dX5_convergentPart_0 rfl (lv_at hl 3 rfl) ?_
  refine lv_lstore (lv' := [(7, .long (lN o9)), (0, .ref x), (1, .int (nI a9)), (2, .int (nI i9)), (3, .long (lN o9)), (5, .long (lN n9))]) hx hb dX5_convergentPart_1 hl (by decide) rfl (fun ls hl => ?_)
  refine lv_lload hx hb dX5_convergentPart_3 (lv_at hl 5 rfl) ?_
  refine lv_lstore (lv' := [(9, .long (lN n9)), (7, .long (lN o9)), (0, .ref x), (1, .int (nI a9)), (2, .int (nI i9)), (3, .long (lN o9)), (5, .long (lN n9))]) hx hb dX5_convergentPart_5 hl (by decide) rfl (fun ls hl => ?_)
  refine lv_iconst (v := 0) hx hb dX5_convergentPart_7 (by decide) ?_
  refine lv_istore (lv' := [(11, .int 0), (9, .long (lN n9)), (7, .long (lN o9)), (0, .ref x), (1, .int (nI a9)), (2, .int (nI i9)), (3, .long (lN o9)), (5, .long (lN n9))]) hx hb dX5_convergentPart_8 hl (by decide) rfl (fun ls hl => ?_)
  have loop_10 : ∀ (fuel : Nat), ∀ (t9 oo nn : Nat), (t9 ≤ i9 + 1) → (cG (eT a9 q.toNatClampNeg) 0 (i9 + 1) o9 n9 = cG (eT a9 q.toNatClampNeg) t9 (i9 + 1 - t9) oo nn) → (i9 + 2 ≤ t9 + fuel) → ∀ (y7 : Int64), y7 = lN oo → ∀ (y9 : Int64), y9 = lN nn → ∀ (y11 : Int32), y11 = nI t9 → ∀ (ls : Array Slot), lv_has ls 14 [(7, .long y7), (9, .long y9), (11, .int y11), (0, .ref x), (1, .int (nI a9)), (2, .int (nI i9))] → W p l e (headSpec wsX5_convergentPart ({ frames := 1, cells := 0, slots := 0, locals := 26 })).room s m ([.ref x, .int (nI a9), .int (nI i9), .long (lN o9), .long (lN n9)] : List Value).toArray below meth c s.heap [] 0 0 (MQ below (k2_QcV (.long (lN (cG (eT a9 q.toNatClampNeg) 0 (i9 + 1) o9 n9)))) ([.ref x, .int (nI a9), .int (nI i9), .long (lN o9), .long (lN n9)] : List Value).toArray s 0 0 (fun _ => False)) (F0 m 10 ls []) := by
    intro fuel
    induction fuel with
    | zero =>
      intro t9 oo nn ht9 hinv hfu
      exact False.elim (by omega)
    | succ fuel ih_10 =>
      intro t9 oo nn ht9 hinv hfu y7 ey7 y9 ey9 y11 ey11 ls hl
      subst ey7
      subst ey9
      subst ey11
      refine lv_iload hx hb dX5_convergentPart_10 (lv_at hl 2 rfl) ?_
      refine lv_iload_n hx hb dX5_convergentPart_12 rfl (lv_at hl 5 rfl) ?_
      refine lv_icmp_gt (tgt := 60) hx hb dX5_convergentPart_13 (by decide) (fun c_13 => ?_) (fun c_13 => ?_)
      · skip
        refine lv_lload hx hb dX5_convergentPart_60 (lv_at hl 1 rfl) ?_
        exact rdL hx hb hr hlocks dX5_convergentPart_62 (by rw [hinv, show i9 + 1 - t9 = 0 by have := (nI_ltI (by omega) (by omega)).mp c_13; omega]; rfl)
      · skip
        have htN : t9 ≤ i9 := by rcases Nat.lt_or_ge i9 t9 with q9 | q9; exact absurd (nI_lt q9 (by omega)) c_13; exact q9
        have htb := eT_bd (i := t9) ha (show q.toNatClampNeg < 2001 by omega) hL (by omega)
        refine lv_iload hx hb dX5_convergentPart_16 (lv_at hl 2 rfl) ?_
        refine lv_sipush (v := 200) hx hb dX5_convergentPart_18 (by decide) ?_
        refine lv_icmp_ge (tgt := 60) hx hb dX5_convergentPart_21 (by decide) (fun c_21 => ?_) (fun c_21 => ?_)
        · skip
          exact False.elim (by have h9 := (nI_leI (a := 200) (b := t9) (by omega) (by omega)).mp c_21; omega)
        · skip
          refine lv_iload_n hx hb dX5_convergentPart_24 rfl (lv_at hl 4 rfl) ?_
          refine lv_aload_n hx hb dX5_convergentPart_25 rfl (lv_at hl 3 rfl) ?_
          refine va_get (D := D) (ci := 5) (v := .ref r) (C := RX5) (T := TX5) (N := 11) hx hb hts (in_X5_convergentPart_X5) hown hK hP 0 rfl rfl 0 (by decide) (hts (.fieldLink RX5 10 "StepsRoundCircle" "ring" "LStepsRoundCircle$Ring;") (by decide +kernel)) (fun _ h9 => h9) rfl dX5_convergentPart_26 ?_
          refine va_get (D := D) (ci := 1) (v := .int q) (C := RX1) (T := TX1) (N := 3) hx hb hts (in_X5_convergentPart_X1) hown hK hP 1 rfl rfl 0 (by decide) (hts (.fieldLink RX5 91 "StepsRoundCircle$Ring" "size" "I") (by decide +kernel)) (fun _ h9 => h9) rfl dX5_convergentPart_29 ?_
          refine lv_topi (fun z_32 hz_32 => ?_)
          have hz_32 : (nI q.toNatClampNeg) = z_32 := (hz_32.trans (asN (okQ_0 hq))).symm
          subst hz_32
          refine lv_iload hx hb dX5_convergentPart_32 (lv_at hl 2 rfl) ?_
          refine rdS (As := [.int (nI a9), .int (nI q.toNatClampNeg), .int (nI t9)]) (rest := []) ⟨hx, hb, hml, hown, hts⟩ (c_X5_termAt l D cI cZ cR a9 q.toNatClampNeg L9 (nI t9) (by omega) (by omega) hL hL9) (va_cwS 3 hts gX5_convergentPart_X5_termAt rfl rfl rfl (by decide +kernel) ⟨Nat.le_of_ble_eq_true rfl, Nat.le_of_ble_eq_true rfl⟩) hK hN hP [] rfl rfl hl.1 rfl (Nat.le_of_ble_eq_true rfl) dX5_convergentPart_34 ⟨Nat.zero_le _, Nat.zero_le _⟩ ?_
          refine lv_topi (fun z_37 hz_37 => ?_)
          have hz_37 : (nI (eT a9 q.toNatClampNeg t9)) = z_37 := (hz_37.trans (by rw [if_pos ⟨nI_pos' (by omega), nI_lt (by omega) (by omega)⟩, nI_clamp (by omega)])).symm
          subst hz_37
          refine lv_i2l hx hb dX5_convergentPart_37 rfl ?_
          refine lv_lload hx hb dX5_convergentPart_38 (lv_at hl 1 rfl) ?_
          refine lv_lmul hx hb dX5_convergentPart_40 ?_
          refine lv_lload hx hb dX5_convergentPart_41 (lv_at hl 0 rfl) ?_
          refine lv_ladd hx hb dX5_convergentPart_43 ?_
          refine lv_topl (fun z_44 hz_44 => ?_)
          have hz_44 : (lN (eT a9 q.toNatClampNeg t9 * nn + oo)) = z_44 := (hz_44.trans (by rw [nI_l (by omega), lN_mul, lN_add])).symm
          subst hz_44
          refine lv_lstore (lv' := [(12, .long (lN (eT a9 q.toNatClampNeg t9 * nn + oo))), (7, .long (lN oo)), (9, .long (lN nn)), (11, .int (nI t9)), (0, .ref x), (1, .int (nI a9)), (2, .int (nI i9))]) hx hb dX5_convergentPart_44 hl (by decide) rfl (fun ls hl => ?_)
          refine lv_lload hx hb dX5_convergentPart_46 (lv_at hl 2 rfl) ?_
          refine lv_lstore (lv' := [(7, .long (lN nn)), (12, .long (lN (eT a9 q.toNatClampNeg t9 * nn + oo))), (9, .long (lN nn)), (11, .int (nI t9)), (0, .ref x), (1, .int (nI a9)), (2, .int (nI i9))]) hx hb dX5_convergentPart_48 hl (by decide) rfl (fun ls hl => ?_)
          refine lv_lload hx hb dX5_convergentPart_50 (lv_at hl 1 rfl) ?_
          refine lv_lstore (lv' := [(9, .long (lN (eT a9 q.toNatClampNeg t9 * nn + oo))), (7, .long (lN nn)), (12, .long (lN (eT a9 q.toNatClampNeg t9 * nn + oo))), (11, .int (nI t9)), (0, .ref x), (1, .int (nI a9)), (2, .int (nI i9))]) hx hb dX5_convergentPart_52 hl (by decide) rfl (fun ls hl => ?_)
          refine lv_iinc (v := (nI t9) + 1) (lv' := [(11, .int ((nI t9) + 1)), (9, .long (lN (eT a9 q.toNatClampNeg t9 * nn + oo))), (7, .long (lN nn)), (12, .long (lN (eT a9 q.toNatClampNeg t9 * nn + oo))), (0, .ref x), (1, .int (nI a9)), (2, .int (nI i9))]) hx hb dX5_convergentPart_54 hl (k := 3) rfl (by rfl) (by decide) rfl (fun ls hl => ?_)
          refine lv_goto (tgt := 10) hx hb dX5_convergentPart_57 (by decide) ?_
          exact ih_10 (t9 + 1) nn (eT a9 q.toNatClampNeg t9 * nn + oo) (by omega) (hinv.trans (cG_step (by omega))) (by omega) _ rfl _ rfl _ (by first | rfl | exact nI_1 _ | exact nI_0.symm) ls (lv_sub hl [2, 1, 0, 4, 5, 6] rfl)
  exact loop_10 (i9 + 2) 0 o9 n9 (by omega) rfl (by omega) _ rfl _ rfl _ (by first | rfl | exact nI_1 _ | exact nI_0.symm) ls (lv_sub hl [2, 1, 0, 3, 4, 5] rfl)

set_option maxHeartbeats 4000000 in
set_option maxRecDepth 100000 in
theorem c_X5_convergent (l : Launch) (D : va_G) (cI cZ cR : ClassId) (x r t im tx ch ro rf pl ot cl : Nat) (hi : Int32) (F : Nat → Int32) (rn : Nat) (q nw : Int32) (v : Nat → Int32) (w j k : Int32) (L9 : Nat) (hq : okQ q) (hws : ∀ w, 0 ≤ w ∧ w < nw → okW q v w) (hL : eL (rg_val v w 1).toNatClampNeg q.toNatClampNeg L9) (hL9 : L9 ≤ 40) (sz : Nat) : Met l yX5_convergent wsX5_convergent ({ frames := 3, cells := 0, slots := 0, locals := 64 }) (PcW D cI cZ cR [.ref x, .int w, .int j, .int k] [(x, .inr (5, [.ref r, .ref t, .ref im, .int hi, .ref tx, .ref ch, .ref ro, .ref rf, .ref pl, .ref ot, .ref cl])), (rf, .inl (cI, 6, .inl F)), (r, .inr (1, [.int q, .int nw, .ref rn])), (rn, .inl (cI, 20, .inl v))] sz) (va_Ql (fun (res : Int64) (u : (Nat → Int32)) => res = (if rf_con nw w j L9 k = 0 then cvA (rg_val v w 1).toNatClampNeg q.toNatClampNeg j.toNatClampNeg k else 4000000000000000000 - (rf_con nw w j L9 k).toInt64) ∧ u = (if rf_con nw w j L9 k = 0 then F else rf_bump F (rf_con nw w j L9 k))) (Bw D (fun (u : (Nat → Int32)) => [(x, .inr (5, [.ref r, .ref t, .ref im, .int hi, .ref tx, .ref ch, .ref ro, .ref rf, .ref pl, .ref ot, .ref cl])), (rf, .inl (cI, 6, .inl u)), (r, .inr (1, [.int q, .int nw, .ref rn])), (rn, .inl (cI, 20, .inl v))]) (va_A [(x, .inr (5, [.ref r, .ref t, .ref im, .int hi, .ref tx, .ref ch, .ref ro, .ref rf, .ref pl, .ref ot, .ref cl])), (rf, .inl (cI, 6, .inl F)), (r, .inr (1, [.int q, .int nw, .ref rn])), (rn, .inl (cI, 20, .inl v))] sz)) (va_A [(x, .inr (5, [.ref r, .ref t, .ref im, .int hi, .ref tx, .ref ch, .ref ro, .ref rf, .ref pl, .ref ot, .ref cl])), (rf, .inl (cI, 6, .inl F)), (r, .inr (1, [.int q, .int nw, .ref rn])), (rn, .inl (cI, 20, .inl v))] sz)) 0 0 (va_A [(x, .inr (5, [.ref r, .ref t, .ref im, .int hi, .ref tx, .ref ch, .ref ro, .ref rf, .ref pl, .ref ot, .ref cl])), (rf, .inl (cI, 6, .inl F)), (r, .inr (1, [.int q, .int nw, .ref rn])), (rn, .inl (cI, 20, .inl v))] sz) := by
  refine Met.ofW (cc := cX5_convergent) (maxL := 5) (ret := (some .long)) (by decide) rfl ?_
  intro p e s m args below meth c s₁ B hml hv
  obtain ⟨rfl, hsz, hP, hK, hD0, hN⟩ := hv
  have hx := B.exec
  have hb := B.bytes
  have hr := B.returns
  have hts := atoms_spec (ws := wsX5_convergent) B.pre
  have hown : s.vm.findClass RX5 = some m.cls := findClass_of_methodNamed B.named
  have hlocks := B.notSynchronized
  subst hsz
  have hD := hD0.self (sz := s.heap.size)
  generalize hAe : va_A [(x, .inr (5, [.ref r, .ref t, .ref im, .int hi, .ref tx, .ref ch, .ref ro, .ref rf, .ref pl, .ref ot, .ref cl])), (rf, .inl (cI, 6, .inl F)), (r, .inr (1, [.int q, .int nw, .ref rn])), (rn, .inl (cI, 20, .inl v))] s.heap.size = A at hD ⊢
  have hA : ∀ q : Nat, s.heap.size ≤ q → A q := fun q h => by rw [← hAe]; exact Or.inr h
  have hS : va_S A s.heap s.heap [] := va_S.rf
  have hP : va_P D vwCl [(x, .inr (5, [.ref r, .ref t, .ref im, .int hi, .ref tx, .ref ch, .ref ro, .ref rf, .ref pl, .ref ot, .ref cl])), (rf, .inl (cI, 6, .inl F)), (r, .inr (1, [.int q, .int nw, .ref rn])), (rn, .inl (cI, 20, .inl v))] s.heap := hP
  have hl := lv_entry ([.ref x, .int w, .int j, .int k]) (n := 5) (Nat.le_of_ble_eq_true rfl)
  rw [lg_entry_eq]
  generalize (lg_sl ([.ref x, .int w, .int j, .int k]) ++ List.replicate (5 - (lg_sl ([.ref x, .int w, .int j, .int k])).length) Slot.unset).toArray = ls at hl ⊢
  have hl : lv_has ls 5 [(0, .ref x), (1, .int w), (2, .int j), (3, .int k)] := hl
  refine lv_aload_n hx hb dX5_convergent_0 rfl (lv_at hl 0 rfl) ?_
  refine va_get (D := D) (ci := 5) (v := .ref r) (C := RX5) (T := TX5) (N := 11) hx hb hts (in_X5_convergent_X5) hown hK hP 0 rfl rfl 0 (by decide) (hts (.fieldLink RX5 10 "StepsRoundCircle" "ring" "LStepsRoundCircle$Ring;") (by decide +kernel)) (fun _ h9 => h9) rfl dX5_convergent_1 ?_
  refine lv_iload_n hx hb dX5_convergent_4 rfl (lv_at hl 1 rfl) ?_
  refine rdV (As := [.int w]) (rest := []) ⟨hx, hb, hml, hown, hts⟩ (c_X1_has l D cI cZ cR r rn q nw v w ) (cwV 1 hts gX5_convergent_X1_has rfl rfl rfl (by decide +kernel) ⟨Nat.le_of_ble_eq_true rfl, Nat.le_of_ble_eq_true rfl⟩) hK hN hP 2 1 rfl rfl rfl [2, 3] rfl rfl hl.1 rfl (Nat.le_of_ble_eq_true rfl) dX5_convergent_5 ⟨Nat.zero_le _, Nat.zero_le _⟩ ?_
  refine lv_if_ne (tgt := 17) hx hb dX5_convergent_8 (by decide) (fun c_8 => ?_) (fun c_8 => ?_)
  · skip
    have c_8 := bi_ne0.mp c_8
    refine lv_iload_n hx hb dX5_convergent_17 rfl (lv_at hl 2 rfl) ?_
    refine lv_if_ge (tgt := 28) hx hb dX5_convergent_18 (by decide) (fun c_18 => ?_) (fun c_18 => ?_)
    · skip
      have hqN := okQ_N hq
      have hsN := st_N hq (hws w c_8).2.1
      refine lv_aload_n hx hb dX5_convergent_28 rfl (lv_at hl 0 rfl) ?_
      refine va_get (D := D) (ci := 5) (v := .ref r) (C := RX5) (T := TX5) (N := 11) hx hb hts (in_X5_convergent_X5) hown hK hP 0 rfl rfl 0 (by decide) (hts (.fieldLink RX5 10 "StepsRoundCircle" "ring" "LStepsRoundCircle$Ring;") (by decide +kernel)) (fun _ h9 => h9) rfl dX5_convergent_29 ?_
      refine lv_iload_n hx hb dX5_convergent_32 rfl (lv_at hl 1 rfl) ?_
      refine lv_iconst (v := 1) hx hb dX5_convergent_33 (by decide) ?_
      refine rdV (As := [.int w, .int 1]) (rest := []) ⟨hx, hb, hml, hown, hts⟩ (c_X1_value l D cI cZ cR r rn q nw v w 1 ) (cwV 2 hts gX5_convergent_X1_value rfl rfl rfl (by decide +kernel) ⟨Nat.le_of_ble_eq_true rfl, Nat.le_of_ble_eq_true rfl⟩) hK hN hP 2 1 rfl rfl rfl [2, 3] rfl rfl hl.1 rfl (Nat.le_of_ble_eq_true rfl) dX5_convergent_34 ⟨Nat.zero_le _, Nat.zero_le _⟩ ?_
      refine lv_istore (lv' := [(4, .int (rg_val v w 1)), (0, .ref x), (1, .int w), (2, .int j), (3, .int k)]) hx hb dX5_convergent_37 hl (by decide) rfl (fun ls hl => ?_)
      refine lv_iload_n hx hb dX5_convergent_39 rfl (lv_at hl 3 rfl) ?_
      refine lv_iload hx hb dX5_convergent_40 (lv_at hl 0 rfl) ?_
      refine lv_topi (fun z_42 hz_42 => ?_)
      have hz_42 : (nI (rg_val v w 1).toNatClampNeg) = z_42 := (hz_42.trans (asN (hws w c_8).2.1.1)).symm
      subst hz_42
      refine lv_aload_n hx hb dX5_convergent_42 rfl (lv_at hl 1 rfl) ?_
      refine va_get (D := D) (ci := 5) (v := .ref r) (C := RX5) (T := TX5) (N := 11) hx hb hts (in_X5_convergent_X5) hown hK hP 0 rfl rfl 0 (by decide) (hts (.fieldLink RX5 10 "StepsRoundCircle" "ring" "LStepsRoundCircle$Ring;") (by decide +kernel)) (fun _ h9 => h9) rfl dX5_convergent_43 ?_
      refine va_get (D := D) (ci := 1) (v := .int q) (C := RX1) (T := TX1) (N := 3) hx hb hts (in_X5_convergent_X1) hown hK hP 2 rfl rfl 0 (by decide) (hts (.fieldLink RX5 91 "StepsRoundCircle$Ring" "size" "I") (by decide +kernel)) (fun _ h9 => h9) rfl dX5_convergent_46 ?_
      refine lv_topi (fun z_49 hz_49 => ?_)
      have hz_49 : (nI q.toNatClampNeg) = z_49 := (hz_49.trans (asN (okQ_0 hq))).symm
      subst hz_49
      refine rdS (As := [.int (nI (rg_val v w 1).toNatClampNeg), .int (nI q.toNatClampNeg)]) (rest := [.int j]) ⟨hx, hb, hml, hown, hts⟩ (c_X5_howManyTerms l D cI cZ cR ((rg_val v w 1).toNatClampNeg) q.toNatClampNeg L9 (by omega) (by omega) hL (by omega)) (va_cwS 2 hts gX5_convergent_X5_howManyTerms rfl rfl rfl (by decide +kernel) ⟨Nat.le_of_ble_eq_true rfl, Nat.le_of_ble_eq_true rfl⟩) hK hN hP [] rfl rfl hl.1 rfl (Nat.le_of_ble_eq_true rfl) dX5_convergent_49 ⟨Nat.zero_le _, Nat.zero_le _⟩ ?_
      refine lv_icmp_lt (tgt := 62) hx hb dX5_convergent_52 (by decide) (fun c_52 => ?_) (fun c_52 => ?_)
      · skip
        refine lv_iload_n hx hb dX5_convergent_62 rfl (lv_at hl 4 rfl) ?_
        refine lv_iconst (v := 2) hx hb dX5_convergent_63 (by decide) ?_
        refine rdS (As := [.int k, .int 2]) (rest := []) ⟨hx, hb, hml, hown, hts⟩ (c_X5_isBelow l D cI cZ cR k 2 ) (va_cwS 2 hts gX5_convergent_X5_isBelow rfl rfl rfl (by decide +kernel) ⟨Nat.le_of_ble_eq_true rfl, Nat.le_of_ble_eq_true rfl⟩) hK hN hP [] rfl rfl hl.1 rfl (Nat.le_of_ble_eq_true rfl) dX5_convergent_64 ⟨Nat.zero_le _, Nat.zero_le _⟩ ?_
        refine lv_if_ne (tgt := 77) hx hb dX5_convergent_67 (by decide) (fun c_67 => ?_) (fun c_67 => ?_)
        · skip
          have c_67 := bi_ne0.mp c_67
          have eR := con_ok c_8 c_18 c_52 c_67
          have hjL := j_L c_18 c_52 (by omega)
          refine lv_iload_n hx hb dX5_convergent_77 rfl (lv_at hl 4 rfl) ?_
          refine lv_if_ne (tgt := 93) hx hb dX5_convergent_78 (by decide) (fun c_78 => ?_) (fun c_78 => ?_)
          · skip
            refine lv_aload_n hx hb dX5_convergent_93 rfl (lv_at hl 1 rfl) ?_
            refine lv_iload hx hb dX5_convergent_94 (lv_at hl 0 rfl) ?_
            refine lv_topi (fun z_96 hz_96 => ?_)
            have hz_96 : (nI (rg_val v w 1).toNatClampNeg) = z_96 := (hz_96.trans (asN (hws w c_8).2.1.1)).symm
            subst hz_96
            refine lv_iload_n hx hb dX5_convergent_96 rfl (lv_at hl 3 rfl) ?_
            refine lv_topi (fun z_97 hz_97 => ?_)
            have hz_97 : (nI j.toNatClampNeg) = z_97 := (hz_97.trans (asN c_18)).symm
            subst hz_97
            refine lv_lconst (v := 1) hx hb dX5_convergent_97 (by decide) ?_
            refine lv_topl (fun z_98 hz_98 => ?_)
            have hz_98 : (lN 1) = z_98 := (hz_98.trans rfl).symm
            subst hz_98
            refine lv_lconst (v := 0) hx hb dX5_convergent_98 (by decide) ?_
            refine lv_topl (fun z_99 hz_99 => ?_)
            have hz_99 : (lN 0) = z_99 := (hz_99.trans rfl).symm
            subst hz_99
            refine rdV (As := [.int (nI (rg_val v w 1).toNatClampNeg), .int (nI j.toNatClampNeg), .long (lN 1), .long (lN 0)]) (rest := []) ⟨hx, hb, hml, hown, hts⟩ (c_X5_convergentPart l D cI cZ cR x r t im tx ch ro rf pl ot cl hi rn q nw v ((rg_val v w 1).toNatClampNeg) j.toNatClampNeg L9 1 0 hq (by omega) hL (by omega) hjL) (cwV 4 hts gX5_convergent_X5_convergentPart rfl rfl rfl (by decide +kernel) ⟨Nat.le_of_ble_eq_true rfl, Nat.le_of_ble_eq_true rfl⟩) hK hN hP 0 5 rfl rfl rfl [0, 2, 3] rfl rfl hl.1 rfl (Nat.le_of_ble_eq_true rfl) dX5_convergent_99 ⟨Nat.zero_le _, Nat.zero_le _⟩ ?_
            exact wrL (w1 := (fun (u : (Nat → Int32)) => [(x, .inr (5, [.ref r, .ref t, .ref im, .int hi, .ref tx, .ref ch, .ref ro, .ref rf, .ref pl, .ref ot, .ref cl])), (rf, .inl (cI, 6, .inl u)), (r, .inr (1, [.int q, .int nw, .ref rn])), (rn, .inl (cI, 20, .inl v))])) F hx hb hr hlocks dX5_convergent_102 hS (hP.sub [0, 1, 2, 3] rfl) (hD.sub [0, 1, 2, 3] (by decide) rfl) (by rw [if_pos eR, if_pos eR]; refine ⟨?_, rfl⟩; rw [cv_1]; unfold cvA; rw [if_neg c_78])
          · skip
            refine lv_aload_n hx hb dX5_convergent_81 rfl (lv_at hl 1 rfl) ?_
            refine lv_iload hx hb dX5_convergent_82 (lv_at hl 0 rfl) ?_
            refine lv_topi (fun z_84 hz_84 => ?_)
            have hz_84 : (nI (rg_val v w 1).toNatClampNeg) = z_84 := (hz_84.trans (asN (hws w c_8).2.1.1)).symm
            subst hz_84
            refine lv_iload_n hx hb dX5_convergent_84 rfl (lv_at hl 3 rfl) ?_
            refine lv_topi (fun z_85 hz_85 => ?_)
            have hz_85 : (nI j.toNatClampNeg) = z_85 := (hz_85.trans (asN c_18)).symm
            subst hz_85
            refine lv_lconst (v := 0) hx hb dX5_convergent_85 (by decide) ?_
            refine lv_topl (fun z_86 hz_86 => ?_)
            have hz_86 : (lN 0) = z_86 := (hz_86.trans rfl).symm
            subst hz_86
            refine lv_lconst (v := 1) hx hb dX5_convergent_86 (by decide) ?_
            refine lv_topl (fun z_87 hz_87 => ?_)
            have hz_87 : (lN 1) = z_87 := (hz_87.trans rfl).symm
            subst hz_87
            refine rdV (As := [.int (nI (rg_val v w 1).toNatClampNeg), .int (nI j.toNatClampNeg), .long (lN 0), .long (lN 1)]) (rest := []) ⟨hx, hb, hml, hown, hts⟩ (c_X5_convergentPart l D cI cZ cR x r t im tx ch ro rf pl ot cl hi rn q nw v ((rg_val v w 1).toNatClampNeg) j.toNatClampNeg L9 0 1 hq (by omega) hL (by omega) hjL) (cwV 4 hts gX5_convergent_X5_convergentPart rfl rfl rfl (by decide +kernel) ⟨Nat.le_of_ble_eq_true rfl, Nat.le_of_ble_eq_true rfl⟩) hK hN hP 0 5 rfl rfl rfl [0, 2, 3] rfl rfl hl.1 rfl (Nat.le_of_ble_eq_true rfl) dX5_convergent_87 ⟨Nat.zero_le _, Nat.zero_le _⟩ ?_
            refine lv_goto (tgt := 102) hx hb dX5_convergent_90 (by decide) ?_
            exact wrL (w1 := (fun (u : (Nat → Int32)) => [(x, .inr (5, [.ref r, .ref t, .ref im, .int hi, .ref tx, .ref ch, .ref ro, .ref rf, .ref pl, .ref ot, .ref cl])), (rf, .inl (cI, 6, .inl u)), (r, .inr (1, [.int q, .int nw, .ref rn])), (rn, .inl (cI, 20, .inl v))])) F hx hb hr hlocks dX5_convergent_102 hS (hP.sub [0, 1, 2, 3] rfl) (hD.sub [0, 1, 2, 3] (by decide) rfl) (by rw [if_pos eR, if_pos eR]; refine ⟨?_, rfl⟩; rw [cv_0]; unfold cvA; rw [if_pos c_78])
        · skip
          have c_67 := bi_eq0.mp c_67
          refine lv_aload_n hx hb dX5_convergent_70 rfl (lv_at hl 1 rfl) ?_
          refine lv_bipush (v := (-2)) hx hb dX5_convergent_71 (by decide) ?_
          refine wrVl (As := [.int (-2)]) (rest := []) (wr := [(r, .inr (1, [.int q, .int nw, .ref rn])), (rn, .inl (cI, 20, .inl v))]) (A := A) ⟨hx, hb, hml, hown, hts⟩ (c_X5_refuseLong l D cI cZ cR x r t im tx ch ro rf pl ot cl hi F (-2)  s.heap.size) (cwV 1 hts gX5_convergent_X5_refuseLong rfl rfl rfl (by decide +kernel) ⟨Nat.le_of_ble_eq_true rfl, Nat.le_of_ble_eq_true rfl⟩) hK hN hP hD hS hA 0 5 rfl rfl rfl [0, 1] [2, 3] rfl (by decide) rfl (by decide) (by decide) rfl hl.1 rfl (Nat.le_of_ble_eq_true rfl) dX5_convergent_73 ⟨Nat.zero_le _, Nat.zero_le _⟩ (fun r_73 u H locs hw hP hD hS => ?_)
          obtain ⟨F_73, rfl⟩ : ∃ z, z = u := ⟨_, rfl⟩
          try dsimp only at hw
          obtain ⟨q1_73, q2_73⟩ := hw
          have q1_73 := q1_73.symm
          subst q1_73
          have q2_73 := q2_73.symm
          subst q2_73
          have hP : va_P D vwCl [(x, .inr (5, [.ref r, .ref t, .ref im, .int hi, .ref tx, .ref ch, .ref ro, .ref rf, .ref pl, .ref ot, .ref cl])), (rf, .inl (cI, 6, .inl (rf_bump F (-2)))), (r, .inr (1, [.int q, .int nw, .ref rn])), (rn, .inl (cI, 20, .inl v))] H := hP.sub [2, 3, 0, 1] rfl
          have hD : va_D A [(x, .inr (5, [.ref r, .ref t, .ref im, .int hi, .ref tx, .ref ch, .ref ro, .ref rf, .ref pl, .ref ot, .ref cl])), (rf, .inl (cI, 6, .inl (rf_bump F (-2)))), (r, .inr (1, [.int q, .int nw, .ref rn])), (rn, .inl (cI, 20, .inl v))] := hD.sub [2, 3, 0, 1] (by decide) rfl
          exact wrL (w1 := (fun (u : (Nat → Int32)) => [(x, .inr (5, [.ref r, .ref t, .ref im, .int hi, .ref tx, .ref ch, .ref ro, .ref rf, .ref pl, .ref ot, .ref cl])), (rf, .inl (cI, 6, .inl u)), (r, .inr (1, [.int q, .int nw, .ref rn])), (rn, .inl (cI, 20, .inl v))])) (rf_bump F (-2)) hx hb hr hlocks dX5_convergent_76 hS (hP.sub [0, 1, 2, 3] rfl) (hD.sub [0, 1, 2, 3] (by decide) rfl) (by have e9 : rf_con nw w j L9 k = -2 := (by unfold rf_con; rw [if_neg (fun z => z c_8), if_neg (Int32.not_lt.mpr c_18), if_neg (Int32.not_le.mpr c_52), if_neg c_67]); rw [e9, if_neg (by decide), if_neg (by decide)]; exact ⟨rfl, rfl⟩)
      · skip
        refine lv_aload_n hx hb dX5_convergent_55 rfl (lv_at hl 1 rfl) ?_
        refine lv_bipush (v := (-6)) hx hb dX5_convergent_56 (by decide) ?_
        refine wrVl (As := [.int (-6)]) (rest := []) (wr := [(r, .inr (1, [.int q, .int nw, .ref rn])), (rn, .inl (cI, 20, .inl v))]) (A := A) ⟨hx, hb, hml, hown, hts⟩ (c_X5_refuseLong l D cI cZ cR x r t im tx ch ro rf pl ot cl hi F (-6)  s.heap.size) (cwV 1 hts gX5_convergent_X5_refuseLong rfl rfl rfl (by decide +kernel) ⟨Nat.le_of_ble_eq_true rfl, Nat.le_of_ble_eq_true rfl⟩) hK hN hP hD hS hA 0 5 rfl rfl rfl [0, 1] [2, 3] rfl (by decide) rfl (by decide) (by decide) rfl hl.1 rfl (Nat.le_of_ble_eq_true rfl) dX5_convergent_58 ⟨Nat.zero_le _, Nat.zero_le _⟩ (fun r_58 u H locs hw hP hD hS => ?_)
        obtain ⟨F_58, rfl⟩ : ∃ z, z = u := ⟨_, rfl⟩
        try dsimp only at hw
        obtain ⟨q1_58, q2_58⟩ := hw
        have q1_58 := q1_58.symm
        subst q1_58
        have q2_58 := q2_58.symm
        subst q2_58
        have hP : va_P D vwCl [(x, .inr (5, [.ref r, .ref t, .ref im, .int hi, .ref tx, .ref ch, .ref ro, .ref rf, .ref pl, .ref ot, .ref cl])), (rf, .inl (cI, 6, .inl (rf_bump F (-6)))), (r, .inr (1, [.int q, .int nw, .ref rn])), (rn, .inl (cI, 20, .inl v))] H := hP.sub [2, 3, 0, 1] rfl
        have hD : va_D A [(x, .inr (5, [.ref r, .ref t, .ref im, .int hi, .ref tx, .ref ch, .ref ro, .ref rf, .ref pl, .ref ot, .ref cl])), (rf, .inl (cI, 6, .inl (rf_bump F (-6)))), (r, .inr (1, [.int q, .int nw, .ref rn])), (rn, .inl (cI, 20, .inl v))] := hD.sub [2, 3, 0, 1] (by decide) rfl
        exact wrL (w1 := (fun (u : (Nat → Int32)) => [(x, .inr (5, [.ref r, .ref t, .ref im, .int hi, .ref tx, .ref ch, .ref ro, .ref rf, .ref pl, .ref ot, .ref cl])), (rf, .inl (cI, 6, .inl u)), (r, .inr (1, [.int q, .int nw, .ref rn])), (rn, .inl (cI, 20, .inl v))])) (rf_bump F (-6)) hx hb hr hlocks dX5_convergent_61 hS (hP.sub [0, 1, 2, 3] rfl) (hD.sub [0, 1, 2, 3] (by decide) rfl) (by have e9 : rf_con nw w j L9 k = -6 := (by unfold rf_con; rw [if_neg (fun z => z c_8), if_neg (Int32.not_lt.mpr c_18), if_pos (Int32.not_lt.mp c_52)]); rw [e9, if_neg (by decide), if_neg (by decide)]; exact ⟨rfl, rfl⟩)
    · skip
      refine lv_aload_n hx hb dX5_convergent_21 rfl (lv_at hl 0 rfl) ?_
      refine lv_bipush (v := (-4)) hx hb dX5_convergent_22 (by decide) ?_
      refine wrVl (As := [.int (-4)]) (rest := []) (wr := [(r, .inr (1, [.int q, .int nw, .ref rn])), (rn, .inl (cI, 20, .inl v))]) (A := A) ⟨hx, hb, hml, hown, hts⟩ (c_X5_refuseLong l D cI cZ cR x r t im tx ch ro rf pl ot cl hi F (-4)  s.heap.size) (cwV 1 hts gX5_convergent_X5_refuseLong rfl rfl rfl (by decide +kernel) ⟨Nat.le_of_ble_eq_true rfl, Nat.le_of_ble_eq_true rfl⟩) hK hN hP hD hS hA 0 5 rfl rfl rfl [0, 1] [2, 3] rfl (by decide) rfl (by decide) (by decide) rfl hl.1 rfl (Nat.le_of_ble_eq_true rfl) dX5_convergent_24 ⟨Nat.zero_le _, Nat.zero_le _⟩ (fun r_24 u H locs hw hP hD hS => ?_)
      obtain ⟨F_24, rfl⟩ : ∃ z, z = u := ⟨_, rfl⟩
      try dsimp only at hw
      obtain ⟨q1_24, q2_24⟩ := hw
      have q1_24 := q1_24.symm
      subst q1_24
      have q2_24 := q2_24.symm
      subst q2_24
      have hP : va_P D vwCl [(x, .inr (5, [.ref r, .ref t, .ref im, .int hi, .ref tx, .ref ch, .ref ro, .ref rf, .ref pl, .ref ot, .ref cl])), (rf, .inl (cI, 6, .inl (rf_bump F (-4)))), (r, .inr (1, [.int q, .int nw, .ref rn])), (rn, .inl (cI, 20, .inl v))] H := hP.sub [2, 3, 0, 1] rfl
      have hD : va_D A [(x, .inr (5, [.ref r, .ref t, .ref im, .int hi, .ref tx, .ref ch, .ref ro, .ref rf, .ref pl, .ref ot, .ref cl])), (rf, .inl (cI, 6, .inl (rf_bump F (-4)))), (r, .inr (1, [.int q, .int nw, .ref rn])), (rn, .inl (cI, 20, .inl v))] := hD.sub [2, 3, 0, 1] (by decide) rfl
      exact wrL (w1 := (fun (u : (Nat → Int32)) => [(x, .inr (5, [.ref r, .ref t, .ref im, .int hi, .ref tx, .ref ch, .ref ro, .ref rf, .ref pl, .ref ot, .ref cl])), (rf, .inl (cI, 6, .inl u)), (r, .inr (1, [.int q, .int nw, .ref rn])), (rn, .inl (cI, 20, .inl v))])) (rf_bump F (-4)) hx hb hr hlocks dX5_convergent_27 hS (hP.sub [0, 1, 2, 3] rfl) (hD.sub [0, 1, 2, 3] (by decide) rfl) (by have e9 : rf_con nw w j L9 k = -4 := (by unfold rf_con; rw [if_neg (fun z => z c_8), if_pos (Int32.not_le.mp c_18)]); rw [e9, if_neg (by decide), if_neg (by decide)]; exact ⟨rfl, rfl⟩)
  · skip
    have c_8 := bi_eq0.mp c_8
    refine lv_aload_n hx hb dX5_convergent_11 rfl (lv_at hl 0 rfl) ?_
    refine lv_iconst (v := (-1)) hx hb dX5_convergent_12 (by decide) ?_
    refine wrVl (As := [.int (-1)]) (rest := []) (wr := [(r, .inr (1, [.int q, .int nw, .ref rn])), (rn, .inl (cI, 20, .inl v))]) (A := A) ⟨hx, hb, hml, hown, hts⟩ (c_X5_refuseLong l D cI cZ cR x r t im tx ch ro rf pl ot cl hi F (-1)  s.heap.size) (cwV 1 hts gX5_convergent_X5_refuseLong rfl rfl rfl (by decide +kernel) ⟨Nat.le_of_ble_eq_true rfl, Nat.le_of_ble_eq_true rfl⟩) hK hN hP hD hS hA 0 5 rfl rfl rfl [0, 1] [2, 3] rfl (by decide) rfl (by decide) (by decide) rfl hl.1 rfl (Nat.le_of_ble_eq_true rfl) dX5_convergent_13 ⟨Nat.zero_le _, Nat.zero_le _⟩ (fun r_13 u H locs hw hP hD hS => ?_)
    obtain ⟨F_13, rfl⟩ : ∃ z, z = u := ⟨_, rfl⟩
    try dsimp only at hw
    obtain ⟨q1_13, q2_13⟩ := hw
    have q1_13 := q1_13.symm
    subst q1_13
    have q2_13 := q2_13.symm
    subst q2_13
    have hP : va_P D vwCl [(x, .inr (5, [.ref r, .ref t, .ref im, .int hi, .ref tx, .ref ch, .ref ro, .ref rf, .ref pl, .ref ot, .ref cl])), (rf, .inl (cI, 6, .inl (rf_bump F (-1)))), (r, .inr (1, [.int q, .int nw, .ref rn])), (rn, .inl (cI, 20, .inl v))] H := hP.sub [2, 3, 0, 1] rfl
    have hD : va_D A [(x, .inr (5, [.ref r, .ref t, .ref im, .int hi, .ref tx, .ref ch, .ref ro, .ref rf, .ref pl, .ref ot, .ref cl])), (rf, .inl (cI, 6, .inl (rf_bump F (-1)))), (r, .inr (1, [.int q, .int nw, .ref rn])), (rn, .inl (cI, 20, .inl v))] := hD.sub [2, 3, 0, 1] (by decide) rfl
    exact wrL (w1 := (fun (u : (Nat → Int32)) => [(x, .inr (5, [.ref r, .ref t, .ref im, .int hi, .ref tx, .ref ch, .ref ro, .ref rf, .ref pl, .ref ot, .ref cl])), (rf, .inl (cI, 6, .inl u)), (r, .inr (1, [.int q, .int nw, .ref rn])), (rn, .inl (cI, 20, .inl v))])) (rf_bump F (-1)) hx hb hr hlocks dX5_convergent_16 hS (hP.sub [0, 1, 2, 3] rfl) (hD.sub [0, 1, 2, 3] (by decide) rfl) (by have e9 : rf_con nw w j L9 k = -1 := (by unfold rf_con; rw [if_pos c_8]); rw [e9, if_neg (by decide), if_neg (by decide)]; exact ⟨rfl, rfl⟩)

set_option maxHeartbeats 4000000 in
set_option maxRecDepth 100000 in
theorem c_X6_convergent (l : Launch) (D : va_G) (cI cZ cR : ClassId) (y yr yw yc yl ys yp ym yo yk yt yi yz yx yu : Nat) (mq mn mc me md mz km kr : Int32) (G : Nat → Int32) (v tf9 : Nat → Int32) (w j k : Int32) (L9 : Nat) (hq : okQ mq) (hmn : 0 ≤ mn) (hm5 : mn ≤ 5) (hws : ∀ w, 0 ≤ w ∧ w < mn → okW mq v w) (hL : eL (rg_val v w 1).toNatClampNeg mq.toNatClampNeg L9) (hL9 : L9 ≤ 40) (sz : Nat) : Met l yX6_convergent wsX6_convergent ({ frames := 2, cells := 0, slots := 0, locals := 55 }) (PcW D cI cZ cR [.ref y, .int w, .int j, .int k] [(y, .inr (6, [.ref yr, .int mq, .int mn, .ref yw, .ref yc, .int mc, .ref yl, .int me, .ref ys, .ref yp, .ref ym, .int md, .ref yo, .ref yk, .ref yt, .int mz, .ref yi, .ref yz, .ref yx, .ref yu, .int km, .int kr])), (yr, .inl (cI, 7, .inl G)), (yw, .inl (cI, 20, .inl v)), (yt, .inl (cI, 40, .inl tf9))] sz) (va_Ql (fun (res : Int64) (u : (Nat → Int32) × (Nat → Int32)) => res = (if rf_con mn w j L9 k = 0 then cvA (rg_val v w 1).toNatClampNeg mq.toNatClampNeg j.toNatClampNeg k else 4000000000000000000 - (rf_con mn w j L9 k).toInt64) ∧ u.1 = (if rf_con mn w j L9 k = 0 then G else md_bump G (rf_con mn w j L9 k))) (Bw D (fun (u : (Nat → Int32) × (Nat → Int32)) => [(y, .inr (6, [.ref yr, .int mq, .int mn, .ref yw, .ref yc, .int mc, .ref yl, .int me, .ref ys, .ref yp, .ref ym, .int md, .ref yo, .ref yk, .ref yt, .int mz, .ref yi, .ref yz, .ref yx, .ref yu, .int km, .int kr])), (yr, .inl (cI, 7, .inl u.1)), (yw, .inl (cI, 20, .inl v)), (yt, .inl (cI, 40, .inl u.2))]) (va_A [(y, .inr (6, [.ref yr, .int mq, .int mn, .ref yw, .ref yc, .int mc, .ref yl, .int me, .ref ys, .ref yp, .ref ym, .int md, .ref yo, .ref yk, .ref yt, .int mz, .ref yi, .ref yz, .ref yx, .ref yu, .int km, .int kr])), (yr, .inl (cI, 7, .inl G)), (yw, .inl (cI, 20, .inl v)), (yt, .inl (cI, 40, .inl tf9))] sz)) (va_A [(y, .inr (6, [.ref yr, .int mq, .int mn, .ref yw, .ref yc, .int mc, .ref yl, .int me, .ref ys, .ref yp, .ref ym, .int md, .ref yo, .ref yk, .ref yt, .int mz, .ref yi, .ref yz, .ref yx, .ref yu, .int km, .int kr])), (yr, .inl (cI, 7, .inl G)), (yw, .inl (cI, 20, .inl v)), (yt, .inl (cI, 40, .inl tf9))] sz)) 0 0 (va_A [(y, .inr (6, [.ref yr, .int mq, .int mn, .ref yw, .ref yc, .int mc, .ref yl, .int me, .ref ys, .ref yp, .ref ym, .int md, .ref yo, .ref yk, .ref yt, .int mz, .ref yi, .ref yz, .ref yx, .ref yu, .int km, .int kr])), (yr, .inl (cI, 7, .inl G)), (yw, .inl (cI, 20, .inl v)), (yt, .inl (cI, 40, .inl tf9))] sz) := by
  refine Met.ofW (cc := cX6_convergent) (maxL := 12) (ret := (some .long)) (by decide) rfl ?_
  intro p e s m args below meth c s₁ B hml hv
  obtain ⟨rfl, hsz, hP, hK, hD0, hN⟩ := hv
  have hx := B.exec
  have hb := B.bytes
  have hr := B.returns
  have hts := atoms_spec (ws := wsX6_convergent) B.pre
  have hown : s.vm.findClass RX6 = some m.cls := findClass_of_methodNamed B.named
  have hlocks := B.notSynchronized
  subst hsz
  have hD := hD0.self (sz := s.heap.size)
  generalize hAe : va_A [(y, .inr (6, [.ref yr, .int mq, .int mn, .ref yw, .ref yc, .int mc, .ref yl, .int me, .ref ys, .ref yp, .ref ym, .int md, .ref yo, .ref yk, .ref yt, .int mz, .ref yi, .ref yz, .ref yx, .ref yu, .int km, .int kr])), (yr, .inl (cI, 7, .inl G)), (yw, .inl (cI, 20, .inl v)), (yt, .inl (cI, 40, .inl tf9))] s.heap.size = A at hD ⊢
  have hA : ∀ q : Nat, s.heap.size ≤ q → A q := fun q h => by rw [← hAe]; exact Or.inr h
  have hS : va_S A s.heap s.heap [] := va_S.rf
  have hP : va_P D vwCl [(y, .inr (6, [.ref yr, .int mq, .int mn, .ref yw, .ref yc, .int mc, .ref yl, .int me, .ref ys, .ref yp, .ref ym, .int md, .ref yo, .ref yk, .ref yt, .int mz, .ref yi, .ref yz, .ref yx, .ref yu, .int km, .int kr])), (yr, .inl (cI, 7, .inl G)), (yw, .inl (cI, 20, .inl v)), (yt, .inl (cI, 40, .inl tf9))] s.heap := hP
  have hl := lv_entry ([.ref y, .int w, .int j, .int k]) (n := 12) (Nat.le_of_ble_eq_true rfl)
  rw [lg_entry_eq]
  generalize (lg_sl ([.ref y, .int w, .int j, .int k]) ++ List.replicate (12 - (lg_sl ([.ref y, .int w, .int j, .int k])).length) Slot.unset).toArray = ls at hl ⊢
  have hl : lv_has ls 12 [(0, .ref y), (1, .int w), (2, .int j), (3, .int k)] := hl
  refine lv_aload_n hx hb dX6_convergent_0 rfl (lv_at hl 0 rfl) ?_
  refine lv_iload_n hx hb dX6_convergent_1 rfl (lv_at hl 1 rfl) ?_
  refine rdV (As := [.int w]) (rest := []) ⟨hx, hb, hml, hown, hts⟩ (c_X6_isWalker l D cI cZ cR y yr yw yc yl ys yp ym yo yk yt yi yz yx yu mq mn mc me md mz km kr w hmn) (cwV 1 hts gX6_convergent_X6_isWalker rfl rfl rfl (by decide +kernel) ⟨Nat.le_of_ble_eq_true rfl, Nat.le_of_ble_eq_true rfl⟩) hK hN hP 0 6 rfl rfl rfl [0] rfl rfl hl.1 rfl (Nat.le_of_ble_eq_true rfl) dX6_convergent_2 ⟨Nat.zero_le _, Nat.zero_le _⟩ ?_
  refine lv_if_ne (tgt := 14) hx hb dX6_convergent_5 (by decide) (fun c_5 => ?_) (fun c_5 => ?_)
  · skip
    have c_5 := bi_ne0.mp c_5
    refine lv_iload_n hx hb dX6_convergent_14 rfl (lv_at hl 2 rfl) ?_
    refine lv_if_ge (tgt := 25) hx hb dX6_convergent_15 (by decide) (fun c_15 => ?_) (fun c_15 => ?_)
    · skip
      have hqN := okQ_N hq
      have hsN := st_N hq (hws w c_5).2.1
      refine lv_aload_n hx hb dX6_convergent_25 rfl (lv_at hl 0 rfl) ?_
      refine lv_iload_n hx hb dX6_convergent_26 rfl (lv_at hl 1 rfl) ?_
      refine wrVi (As := [.int w]) (rest := []) (wr := [(yr, .inl (cI, 7, .inl G))]) (A := A) ⟨hx, hb, hml, hown, hts⟩ (c_X6_takesTerms l D cI cZ cR y yr yw yc yl ys yp ym yo yk yt yi yz yx yu mq mn mc me md mz km kr v tf9 w L9 hq (w5 hm5 c_5) (hws w c_5) hL hL9 s.heap.size) (cwV 1 hts gX6_convergent_X6_takesTerms rfl rfl rfl (by decide +kernel) ⟨Nat.le_of_ble_eq_true rfl, Nat.le_of_ble_eq_true rfl⟩) hK hN hP hD hS hA 0 6 rfl rfl rfl [0, 2, 3] [1] rfl (by decide) rfl (by decide) (by decide) rfl hl.1 rfl (Nat.le_of_ble_eq_true rfl) dX6_convergent_27 ⟨Nat.zero_le _, Nat.zero_le _⟩ (fun r_27 u H locs hw hP hD hS => ?_)
      obtain ⟨tf_27, rfl⟩ : ∃ z, z = u := ⟨_, rfl⟩
      try dsimp only at hw
      obtain ⟨q1_27, h1_27⟩ := hw
      have q1_27 := q1_27.symm
      subst q1_27
      have hP : va_P D vwCl [(y, .inr (6, [.ref yr, .int mq, .int mn, .ref yw, .ref yc, .int mc, .ref yl, .int me, .ref ys, .ref yp, .ref ym, .int md, .ref yo, .ref yk, .ref yt, .int mz, .ref yi, .ref yz, .ref yx, .ref yu, .int km, .int kr])), (yr, .inl (cI, 7, .inl G)), (yw, .inl (cI, 20, .inl v)), (yt, .inl (cI, 40, .inl tf_27))] H := hP.sub [1, 0, 2, 3] rfl
      have hD : va_D A [(y, .inr (6, [.ref yr, .int mq, .int mn, .ref yw, .ref yc, .int mc, .ref yl, .int me, .ref ys, .ref yp, .ref ym, .int md, .ref yo, .ref yk, .ref yt, .int mz, .ref yi, .ref yz, .ref yx, .ref yu, .int km, .int kr])), (yr, .inl (cI, 7, .inl G)), (yw, .inl (cI, 20, .inl v)), (yt, .inl (cI, 40, .inl tf_27))] := hD.sub [1, 0, 2, 3] (by decide) rfl
      refine lv_istore (lv' := [(4, .int (nI L9)), (0, .ref y), (1, .int w), (2, .int j), (3, .int k)]) hx hb dX6_convergent_30 hl (by decide) rfl (fun ls hl => ?_)
      refine lv_iload_n hx hb dX6_convergent_32 rfl (lv_at hl 3 rfl) ?_
      refine lv_iload hx hb dX6_convergent_33 (lv_at hl 0 rfl) ?_
      refine lv_icmp_lt (tgt := 45) hx hb dX6_convergent_35 (by decide) (fun c_35 => ?_) (fun c_35 => ?_)
      · skip
        refine lv_iload_n hx hb dX6_convergent_45 rfl (lv_at hl 4 rfl) ?_
        refine lv_i2l hx hb dX6_convergent_46 rfl ?_
        refine lv_lconst (v := 0) hx hb dX6_convergent_47 (by decide) ?_
        refine lv_lconst (v := 1) hx hb dX6_convergent_48 (by decide) ?_
        refine rdS (As := [.long k.toInt64, .long 0, .long 1]) (rest := []) ⟨hx, hb, hml, hown, hts⟩ (c_X6_in l D cI cZ cR k.toInt64 0 1 ) (va_cwS 3 hts gX6_convergent_X6_in rfl rfl rfl (by decide +kernel) ⟨Nat.le_of_ble_eq_true rfl, Nat.le_of_ble_eq_true rfl⟩) hK hN hP [] rfl rfl hl.1 rfl (Nat.le_of_ble_eq_true rfl) dX6_convergent_49 ⟨Nat.zero_le _, Nat.zero_le _⟩ ?_
        refine lv_if_ne (tgt := 62) hx hb dX6_convergent_52 (by decide) (fun c_52 => ?_) (fun c_52 => ?_)
        · skip
          have c_52 := bi_ne0.mp c_52
          have eR := con_ok c_5 c_15 c_35 ((md_w1 k).mp c_52)
          have hjL := j_L c_15 c_35 (by omega)
          have hjb := eT_bd (i := j.toNatClampNeg) (show (rg_val v w 1).toNatClampNeg < 2001 by omega) (show mq.toNatClampNeg < 2001 by omega) hL hjL
          have hjN := jN c_15
          refine lv_aload_n hx hb dX6_convergent_62 rfl (lv_at hl 1 rfl) ?_
          refine va_get (D := D) (ci := 6) (v := .ref yt) (C := RX6) (T := TX6) (N := 22) hx hb hts (in_X6_convergent_X6) hown hK hP 0 rfl rfl 14 (by decide) (hts (.fieldLink RX6 41 "StepsRoundCircleModel" "terms" "[I") (by decide +kernel)) (fun _ h9 => h9) rfl dX6_convergent_63 ?_
          refine lv_iload_n hx hb dX6_convergent_66 rfl (lv_at hl 3 rfl) ?_
          refine va_iald hx hb hK hP 3 0 rfl rfl (vp_in_iff.mpr ⟨by have h9 := c_15; rw [fa_le] at h9; exact h9, by have e9 : j.toNatClampNeg = j.toInt.toNat := rfl; have h9 := c_15; rw [fa_le] at h9; have c0 : (0 : Int32).toInt = 0 := rfl; omega⟩) dX6_convergent_67 ?_
          refine lv_topi (fun z_68 hz_68 => ?_)
          have hz_68 : (nI (eT (rg_val v w 1).toNatClampNeg mq.toNatClampNeg j.toNatClampNeg)) = z_68 := (hz_68.trans (h1_27 _ hjL)).symm
          subst hz_68
          refine lv_i2l hx hb dX6_convergent_68 rfl ?_
          refine lv_lstore (lv' := [(5, .long ((nI (eT (rg_val v w 1).toNatClampNeg mq.toNatClampNeg j.toNatClampNeg)).toInt64)), (4, .int (nI L9)), (0, .ref y), (1, .int w), (2, .int j), (3, .int k)]) hx hb dX6_convergent_69 hl (by decide) rfl (fun ls hl => ?_)
          refine lv_lconst (v := 1) hx hb dX6_convergent_71 (by decide) ?_
          refine lv_lstore (lv' := [(7, .long 1), (5, .long ((nI (eT (rg_val v w 1).toNatClampNeg mq.toNatClampNeg j.toNatClampNeg)).toInt64)), (4, .int (nI L9)), (0, .ref y), (1, .int w), (2, .int j), (3, .int k)]) hx hb dX6_convergent_72 hl (by decide) rfl (fun ls hl => ?_)
          refine lv_iload_n hx hb dX6_convergent_74 rfl (lv_at hl 5 rfl) ?_
          refine lv_iconst (v := 1) hx hb dX6_convergent_75 (by decide) ?_
          refine lv_isub hx hb dX6_convergent_76 ?_
          refine lv_istore (lv' := [(9, .int (j - 1)), (7, .long 1), (5, .long ((nI (eT (rg_val v w 1).toNatClampNeg mq.toNatClampNeg j.toNatClampNeg)).toInt64)), (4, .int (nI L9)), (0, .ref y), (1, .int w), (2, .int j), (3, .int k)]) hx hb dX6_convergent_77 hl (by decide) rfl (fun ls hl => ?_)
          have loop_79 : ∀ (fuel : Nat), ∀ (d9 : Nat), (d9 ≤ j.toNatClampNeg) → (d9 + 1 ≤ fuel) → ∀ (y5 : Int64), y5 = lN (cB (eT (rg_val v w 1).toNatClampNeg mq.toNatClampNeg) d9 (j.toNatClampNeg + 1 - d9)).1 → ∀ (y7 : Int64), y7 = lN (cB (eT (rg_val v w 1).toNatClampNeg mq.toNatClampNeg) d9 (j.toNatClampNeg + 1 - d9)).2 → ∀ (y9 : Int32), y9 = nI d9 - 1 → ∀ (ls : Array Slot), lv_has ls 12 [(5, .long y5), (7, .long y7), (9, .int y9), (0, .ref y), (1, .int w), (2, .int j), (3, .int k), (4, .int (nI L9))] → W p l e (headSpec wsX6_convergent ({ frames := 2, cells := 0, slots := 0, locals := 55 })).room s m ([.ref y, .int w, .int j, .int k] : List Value).toArray below meth c H locs 0 0 (MQ below (va_Ql (fun (res : Int64) (u : (Nat → Int32) × (Nat → Int32)) => res = (if rf_con mn w j L9 k = 0 then cvA (rg_val v w 1).toNatClampNeg mq.toNatClampNeg j.toNatClampNeg k else 4000000000000000000 - (rf_con mn w j L9 k).toInt64) ∧ u.1 = (if rf_con mn w j L9 k = 0 then G else md_bump G (rf_con mn w j L9 k))) (Bw D (fun (u : (Nat → Int32) × (Nat → Int32)) => [(y, .inr (6, [.ref yr, .int mq, .int mn, .ref yw, .ref yc, .int mc, .ref yl, .int me, .ref ys, .ref yp, .ref ym, .int md, .ref yo, .ref yk, .ref yt, .int mz, .ref yi, .ref yz, .ref yx, .ref yu, .int km, .int kr])), (yr, .inl (cI, 7, .inl u.1)), (yw, .inl (cI, 20, .inl v)), (yt, .inl (cI, 40, .inl u.2))]) A) A) ([.ref y, .int w, .int j, .int k] : List Value).toArray s 0 0 A) (F0 m 79 ls []) := by
            intro fuel
            induction fuel with
            | zero =>
              intro d9 hd9 hfu
              exact False.elim (by omega)
            | succ fuel ih_79 =>
              intro d9 hd9 hfu y5 ey5 y7 ey7 y9 ey9 ls hl
              subst ey5
              subst ey7
              subst ey9
              refine lv_iload hx hb dX6_convergent_79 (lv_at hl 2 rfl) ?_
              refine lv_if_lt (tgt := 114) hx hb dX6_convergent_81 (by decide) (fun c_81 => ?_) (fun c_81 => ?_)
              · skip
                have hdz : d9 = 0 := by rcases Nat.eq_zero_or_pos d9 with q9 | q9; exact q9; exact absurd c_81 (by rw [show nI d9 - 1 = nI (d9 - 1) from pk_sub (b := 1) q9]; exact nI_pos (by omega))
                have hcb := cB_ok (i := j.toNatClampNeg) (show (rg_val v w 1).toNatClampNeg < 2001 by omega) (show mq.toNatClampNeg < 2001 by omega) hL hjL
                refine lv_lload hx hb dX6_convergent_114 (lv_at hl 0 rfl) ?_
                refine lv_topl (fun z_116 hz_116 => ?_)
                have hz_116 : (lN (cB (eT (rg_val v w 1).toNatClampNeg mq.toNatClampNeg) 0 (j.toNatClampNeg + 1)).1) = z_116 := (hz_116.trans (by rw [hdz, Nat.sub_zero])).symm
                subst hz_116
                refine lv_lload hx hb dX6_convergent_116 (lv_at hl 1 rfl) ?_
                refine lv_topl (fun z_118 hz_118 => ?_)
                have hz_118 : (lN (cB (eT (rg_val v w 1).toNatClampNeg mq.toNatClampNeg) 0 (j.toNatClampNeg + 1)).2) = z_118 := (hz_118.trans (by rw [hdz, Nat.sub_zero])).symm
                subst hz_118
                refine lv_iload_n hx hb dX6_convergent_118 rfl (lv_at hl 6 rfl) ?_
                refine rdS (As := [.long (lN (cB (eT (rg_val v w 1).toNatClampNeg mq.toNatClampNeg) 0 (j.toNatClampNeg + 1)).1), .long (lN (cB (eT (rg_val v w 1).toNatClampNeg mq.toNatClampNeg) 0 (j.toNatClampNeg + 1)).2), .int k]) (rest := []) ⟨hx, hb, hml, hown, hts⟩ (c_X6_part l D cI cZ cR ((cB (eT (rg_val v w 1).toNatClampNeg mq.toNatClampNeg) 0 (j.toNatClampNeg + 1)).1) ((cB (eT (rg_val v w 1).toNatClampNeg mq.toNatClampNeg) 0 (j.toNatClampNeg + 1)).2) k (by omega) (by omega) (by omega)) (va_cwS 3 hts gX6_convergent_X6_part rfl rfl rfl (by decide +kernel) ⟨Nat.le_of_ble_eq_true rfl, Nat.le_of_ble_eq_true rfl⟩) hK hN hP [] rfl rfl hl.1 rfl (Nat.le_of_ble_eq_true rfl) dX6_convergent_119 ⟨Nat.zero_le _, Nat.zero_le _⟩ ?_
                exact wrL (w1 := (fun (u : (Nat → Int32) × (Nat → Int32)) => [(y, .inr (6, [.ref yr, .int mq, .int mn, .ref yw, .ref yc, .int mc, .ref yl, .int me, .ref ys, .ref yp, .ref ym, .int md, .ref yo, .ref yk, .ref yt, .int mz, .ref yi, .ref yz, .ref yx, .ref yu, .int km, .int kr])), (yr, .inl (cI, 7, .inl u.1)), (yw, .inl (cI, 20, .inl v)), (yt, .inl (cI, 40, .inl u.2))])) (G, tf_27) hx hb hr hlocks dX6_convergent_122 hS (hP.sub [0, 1, 2, 3] rfl) (hD.sub [0, 1, 2, 3] (by decide) rfl) (by rw [if_pos eR, if_pos eR]; refine ⟨?_, rfl⟩; rw [cB_gcd, Nat.div_one])
              · skip
                have hd0 : 0 < d9 := by rcases Nat.eq_zero_or_pos d9 with q9 | q9; exact absurd c_81 (by rw [q9]; decide); exact q9
                have hdb := eT_bd (i := d9 - 1) (show (rg_val v w 1).toNatClampNeg < 2001 by omega) (show mq.toNatClampNeg < 2001 by omega) hL (by omega)
                refine lv_lload hx hb dX6_convergent_84 (lv_at hl 0 rfl) ?_
                refine lv_lstore (lv' := [(10, .long (lN (cB (eT (rg_val v w 1).toNatClampNeg mq.toNatClampNeg) d9 (j.toNatClampNeg + 1 - d9)).1)), (5, .long (lN (cB (eT (rg_val v w 1).toNatClampNeg mq.toNatClampNeg) d9 (j.toNatClampNeg + 1 - d9)).1)), (7, .long (lN (cB (eT (rg_val v w 1).toNatClampNeg mq.toNatClampNeg) d9 (j.toNatClampNeg + 1 - d9)).2)), (9, .int (nI d9 - 1)), (0, .ref y), (1, .int w), (2, .int j), (3, .int k), (4, .int (nI L9))]) hx hb dX6_convergent_86 hl (by decide) rfl (fun ls hl => ?_)
                refine lv_aload_n hx hb dX6_convergent_88 rfl (lv_at hl 4 rfl) ?_
                refine va_get (D := D) (ci := 6) (v := .ref yt) (C := RX6) (T := TX6) (N := 22) hx hb hts (in_X6_convergent_X6) hown hK hP 0 rfl rfl 14 (by decide) (hts (.fieldLink RX6 41 "StepsRoundCircleModel" "terms" "[I") (by decide +kernel)) (fun _ h9 => h9) rfl dX6_convergent_89 ?_
                refine lv_iload hx hb dX6_convergent_92 (lv_at hl 3 rfl) ?_
                refine lv_topi (fun z_94 hz_94 => ?_)
                have hz_94 : (nI (d9 - 1)) = z_94 := (hz_94.trans (pk_sub (b := 1) hd0)).symm
                subst hz_94
                refine va_iald hx hb hK hP 3 0 rfl rfl (vp_in_nI (by omega) (by omega)) dX6_convergent_94 ?_
                refine lv_topi (fun z_95 hz_95 => ?_)
                have hz_95 : (nI (eT (rg_val v w 1).toNatClampNeg mq.toNatClampNeg (d9 - 1))) = z_95 := (hz_95.trans (by rw [nI_clamp (by omega)]; exact h1_27 _ (by omega))).symm
                subst hz_95
                refine lv_i2l hx hb dX6_convergent_95 rfl ?_
                refine lv_lload hx hb dX6_convergent_96 (lv_at hl 1 rfl) ?_
                refine lv_lmul hx hb dX6_convergent_98 ?_
                refine lv_lload hx hb dX6_convergent_99 (lv_at hl 2 rfl) ?_
                refine lv_ladd hx hb dX6_convergent_101 ?_
                refine lv_topl (fun z_102 hz_102 => ?_)
                have hz_102 : (lN (eT (rg_val v w 1).toNatClampNeg mq.toNatClampNeg (d9 - 1) * (cB (eT (rg_val v w 1).toNatClampNeg mq.toNatClampNeg) d9 (j.toNatClampNeg + 1 - d9)).1 + (cB (eT (rg_val v w 1).toNatClampNeg mq.toNatClampNeg) d9 (j.toNatClampNeg + 1 - d9)).2)) = z_102 := (hz_102.trans (by rw [nI_l (by omega), lN_mul, lN_add])).symm
                subst hz_102
                refine lv_lstore (lv' := [(5, .long (lN (eT (rg_val v w 1).toNatClampNeg mq.toNatClampNeg (d9 - 1) * (cB (eT (rg_val v w 1).toNatClampNeg mq.toNatClampNeg) d9 (j.toNatClampNeg + 1 - d9)).1 + (cB (eT (rg_val v w 1).toNatClampNeg mq.toNatClampNeg) d9 (j.toNatClampNeg + 1 - d9)).2))), (10, .long (lN (cB (eT (rg_val v w 1).toNatClampNeg mq.toNatClampNeg) d9 (j.toNatClampNeg + 1 - d9)).1)), (7, .long (lN (cB (eT (rg_val v w 1).toNatClampNeg mq.toNatClampNeg) d9 (j.toNatClampNeg + 1 - d9)).2)), (9, .int (nI d9 - 1)), (0, .ref y), (1, .int w), (2, .int j), (3, .int k), (4, .int (nI L9))]) hx hb dX6_convergent_102 hl (by decide) rfl (fun ls hl => ?_)
                refine lv_lload hx hb dX6_convergent_104 (lv_at hl 1 rfl) ?_
                refine lv_lstore (lv' := [(7, .long (lN (cB (eT (rg_val v w 1).toNatClampNeg mq.toNatClampNeg) d9 (j.toNatClampNeg + 1 - d9)).1)), (5, .long (lN (eT (rg_val v w 1).toNatClampNeg mq.toNatClampNeg (d9 - 1) * (cB (eT (rg_val v w 1).toNatClampNeg mq.toNatClampNeg) d9 (j.toNatClampNeg + 1 - d9)).1 + (cB (eT (rg_val v w 1).toNatClampNeg mq.toNatClampNeg) d9 (j.toNatClampNeg + 1 - d9)).2))), (10, .long (lN (cB (eT (rg_val v w 1).toNatClampNeg mq.toNatClampNeg) d9 (j.toNatClampNeg + 1 - d9)).1)), (9, .int (nI d9 - 1)), (0, .ref y), (1, .int w), (2, .int j), (3, .int k), (4, .int (nI L9))]) hx hb dX6_convergent_106 hl (by decide) rfl (fun ls hl => ?_)
                refine lv_iinc (v := (nI d9 - 1) + (-1)) (lv' := [(9, .int ((nI d9 - 1) + (-1))), (7, .long (lN (cB (eT (rg_val v w 1).toNatClampNeg mq.toNatClampNeg) d9 (j.toNatClampNeg + 1 - d9)).1)), (5, .long (lN (eT (rg_val v w 1).toNatClampNeg mq.toNatClampNeg (d9 - 1) * (cB (eT (rg_val v w 1).toNatClampNeg mq.toNatClampNeg) d9 (j.toNatClampNeg + 1 - d9)).1 + (cB (eT (rg_val v w 1).toNatClampNeg mq.toNatClampNeg) d9 (j.toNatClampNeg + 1 - d9)).2))), (10, .long (lN (cB (eT (rg_val v w 1).toNatClampNeg mq.toNatClampNeg) d9 (j.toNatClampNeg + 1 - d9)).1)), (0, .ref y), (1, .int w), (2, .int j), (3, .int k), (4, .int (nI L9))]) hx hb dX6_convergent_108 hl (k := 3) rfl (by rfl) (by decide) rfl (fun ls hl => ?_)
                refine lv_goto (tgt := 79) hx hb dX6_convergent_111 (by decide) ?_
                exact ih_79 (d9 - 1) (by omega) (by omega) _ (by rw [show j.toNatClampNeg + 1 - (d9 - 1) = j.toNatClampNeg + 1 - d9 + 1 by omega, cB_step _ hd0]) _ (by rw [show j.toNatClampNeg + 1 - (d9 - 1) = j.toNatClampNeg + 1 - d9 + 1 by omega, cB_step _ hd0]) _ (nI_d1 hd0) ls (lv_sub hl [2, 1, 0, 4, 5, 6, 7, 8] rfl)
          exact loop_79 (j.toNatClampNeg + 1) j.toNatClampNeg (by omega) (by omega) _ (by rw [show j.toNatClampNeg + 1 - j.toNatClampNeg = 0 + 1 by omega, nI_l (by omega)]; show _ = lN (eT (rg_val v w 1).toNatClampNeg mq.toNatClampNeg j.toNatClampNeg * 1 + 0); rw [Nat.mul_one, Nat.add_zero]) _ (by rw [show j.toNatClampNeg + 1 - j.toNatClampNeg = 0 + 1 by omega]; rfl) _ (congrArg (fun t => t - 1) (asN c_15)) ls (lv_sub hl [2, 1, 0, 4, 5, 6, 7, 3] rfl)
        · skip
          have c_52 := bi_eq0.mp c_52
          refine lv_aload_n hx hb dX6_convergent_55 rfl (lv_at hl 1 rfl) ?_
          refine lv_bipush (v := (-2)) hx hb dX6_convergent_56 (by decide) ?_
          refine wrVl (As := [.int (-2)]) (rest := []) (wr := [(yw, .inl (cI, 20, .inl v)), (yt, .inl (cI, 40, .inl tf_27))]) (A := A) ⟨hx, hb, hml, hown, hts⟩ (c_X6_noLong l D cI cZ cR y yr yw yc yl ys yp ym yo yk yt yi yz yx yu mq mn mc me md mz km kr G (-2) (by decide) H.size) (cwV 1 hts gX6_convergent_X6_noLong rfl rfl rfl (by decide +kernel) ⟨Nat.le_of_ble_eq_true rfl, Nat.le_of_ble_eq_true rfl⟩) hK hN hP hD hS hA 0 6 rfl rfl rfl [0, 1] [2, 3] rfl (by decide) rfl (by decide) (by decide) rfl hl.1 rfl (Nat.le_of_ble_eq_true rfl) dX6_convergent_58 ⟨Nat.zero_le _, Nat.zero_le _⟩ (fun r_58 u H locs hw hP hD hS => ?_)
          obtain ⟨G_58, rfl⟩ : ∃ z, z = u := ⟨_, rfl⟩
          try dsimp only at hw
          obtain ⟨q1_58, q2_58⟩ := hw
          have q1_58 := q1_58.symm
          subst q1_58
          have q2_58 := q2_58.symm
          subst q2_58
          have hP : va_P D vwCl [(y, .inr (6, [.ref yr, .int mq, .int mn, .ref yw, .ref yc, .int mc, .ref yl, .int me, .ref ys, .ref yp, .ref ym, .int md, .ref yo, .ref yk, .ref yt, .int mz, .ref yi, .ref yz, .ref yx, .ref yu, .int km, .int kr])), (yr, .inl (cI, 7, .inl (md_bump G (-2)))), (yw, .inl (cI, 20, .inl v)), (yt, .inl (cI, 40, .inl tf_27))] H := hP.sub [2, 3, 0, 1] rfl
          have hD : va_D A [(y, .inr (6, [.ref yr, .int mq, .int mn, .ref yw, .ref yc, .int mc, .ref yl, .int me, .ref ys, .ref yp, .ref ym, .int md, .ref yo, .ref yk, .ref yt, .int mz, .ref yi, .ref yz, .ref yx, .ref yu, .int km, .int kr])), (yr, .inl (cI, 7, .inl (md_bump G (-2)))), (yw, .inl (cI, 20, .inl v)), (yt, .inl (cI, 40, .inl tf_27))] := hD.sub [2, 3, 0, 1] (by decide) rfl
          exact wrL (w1 := (fun (u : (Nat → Int32) × (Nat → Int32)) => [(y, .inr (6, [.ref yr, .int mq, .int mn, .ref yw, .ref yc, .int mc, .ref yl, .int me, .ref ys, .ref yp, .ref ym, .int md, .ref yo, .ref yk, .ref yt, .int mz, .ref yi, .ref yz, .ref yx, .ref yu, .int km, .int kr])), (yr, .inl (cI, 7, .inl u.1)), (yw, .inl (cI, 20, .inl v)), (yt, .inl (cI, 40, .inl u.2))])) ((md_bump G (-2)), tf_27) hx hb hr hlocks dX6_convergent_61 hS (hP.sub [0, 1, 2, 3] rfl) (hD.sub [0, 1, 2, 3] (by decide) rfl) (by have e9 : rf_con mn w j L9 k = -2 := (by unfold rf_con; rw [if_neg (fun z => z c_5), if_neg (Int32.not_lt.mpr c_15), if_neg (Int32.not_le.mpr c_35), if_neg (mt (md_w1 k).mpr c_52)]); rw [e9, if_neg (by decide), if_neg (by decide)]; exact ⟨rfl, rfl⟩)
      · skip
        refine lv_aload_n hx hb dX6_convergent_38 rfl (lv_at hl 1 rfl) ?_
        refine lv_bipush (v := (-6)) hx hb dX6_convergent_39 (by decide) ?_
        refine wrVl (As := [.int (-6)]) (rest := []) (wr := [(yw, .inl (cI, 20, .inl v)), (yt, .inl (cI, 40, .inl tf_27))]) (A := A) ⟨hx, hb, hml, hown, hts⟩ (c_X6_noLong l D cI cZ cR y yr yw yc yl ys yp ym yo yk yt yi yz yx yu mq mn mc me md mz km kr G (-6) (by decide) H.size) (cwV 1 hts gX6_convergent_X6_noLong rfl rfl rfl (by decide +kernel) ⟨Nat.le_of_ble_eq_true rfl, Nat.le_of_ble_eq_true rfl⟩) hK hN hP hD hS hA 0 6 rfl rfl rfl [0, 1] [2, 3] rfl (by decide) rfl (by decide) (by decide) rfl hl.1 rfl (Nat.le_of_ble_eq_true rfl) dX6_convergent_41 ⟨Nat.zero_le _, Nat.zero_le _⟩ (fun r_41 u H locs hw hP hD hS => ?_)
        obtain ⟨G_41, rfl⟩ : ∃ z, z = u := ⟨_, rfl⟩
        try dsimp only at hw
        obtain ⟨q1_41, q2_41⟩ := hw
        have q1_41 := q1_41.symm
        subst q1_41
        have q2_41 := q2_41.symm
        subst q2_41
        have hP : va_P D vwCl [(y, .inr (6, [.ref yr, .int mq, .int mn, .ref yw, .ref yc, .int mc, .ref yl, .int me, .ref ys, .ref yp, .ref ym, .int md, .ref yo, .ref yk, .ref yt, .int mz, .ref yi, .ref yz, .ref yx, .ref yu, .int km, .int kr])), (yr, .inl (cI, 7, .inl (md_bump G (-6)))), (yw, .inl (cI, 20, .inl v)), (yt, .inl (cI, 40, .inl tf_27))] H := hP.sub [2, 3, 0, 1] rfl
        have hD : va_D A [(y, .inr (6, [.ref yr, .int mq, .int mn, .ref yw, .ref yc, .int mc, .ref yl, .int me, .ref ys, .ref yp, .ref ym, .int md, .ref yo, .ref yk, .ref yt, .int mz, .ref yi, .ref yz, .ref yx, .ref yu, .int km, .int kr])), (yr, .inl (cI, 7, .inl (md_bump G (-6)))), (yw, .inl (cI, 20, .inl v)), (yt, .inl (cI, 40, .inl tf_27))] := hD.sub [2, 3, 0, 1] (by decide) rfl
        exact wrL (w1 := (fun (u : (Nat → Int32) × (Nat → Int32)) => [(y, .inr (6, [.ref yr, .int mq, .int mn, .ref yw, .ref yc, .int mc, .ref yl, .int me, .ref ys, .ref yp, .ref ym, .int md, .ref yo, .ref yk, .ref yt, .int mz, .ref yi, .ref yz, .ref yx, .ref yu, .int km, .int kr])), (yr, .inl (cI, 7, .inl u.1)), (yw, .inl (cI, 20, .inl v)), (yt, .inl (cI, 40, .inl u.2))])) ((md_bump G (-6)), tf_27) hx hb hr hlocks dX6_convergent_44 hS (hP.sub [0, 1, 2, 3] rfl) (hD.sub [0, 1, 2, 3] (by decide) rfl) (by have e9 : rf_con mn w j L9 k = -6 := (by unfold rf_con; rw [if_neg (fun z => z c_5), if_neg (Int32.not_lt.mpr c_15), if_pos (Int32.not_lt.mp c_35)]); rw [e9, if_neg (by decide), if_neg (by decide)]; exact ⟨rfl, rfl⟩)
    · skip
      refine lv_aload_n hx hb dX6_convergent_18 rfl (lv_at hl 0 rfl) ?_
      refine lv_bipush (v := (-4)) hx hb dX6_convergent_19 (by decide) ?_
      refine wrVl (As := [.int (-4)]) (rest := []) (wr := [(yw, .inl (cI, 20, .inl v)), (yt, .inl (cI, 40, .inl tf9))]) (A := A) ⟨hx, hb, hml, hown, hts⟩ (c_X6_noLong l D cI cZ cR y yr yw yc yl ys yp ym yo yk yt yi yz yx yu mq mn mc me md mz km kr G (-4) (by decide) s.heap.size) (cwV 1 hts gX6_convergent_X6_noLong rfl rfl rfl (by decide +kernel) ⟨Nat.le_of_ble_eq_true rfl, Nat.le_of_ble_eq_true rfl⟩) hK hN hP hD hS hA 0 6 rfl rfl rfl [0, 1] [2, 3] rfl (by decide) rfl (by decide) (by decide) rfl hl.1 rfl (Nat.le_of_ble_eq_true rfl) dX6_convergent_21 ⟨Nat.zero_le _, Nat.zero_le _⟩ (fun r_21 u H locs hw hP hD hS => ?_)
      obtain ⟨G_21, rfl⟩ : ∃ z, z = u := ⟨_, rfl⟩
      try dsimp only at hw
      obtain ⟨q1_21, q2_21⟩ := hw
      have q1_21 := q1_21.symm
      subst q1_21
      have q2_21 := q2_21.symm
      subst q2_21
      have hP : va_P D vwCl [(y, .inr (6, [.ref yr, .int mq, .int mn, .ref yw, .ref yc, .int mc, .ref yl, .int me, .ref ys, .ref yp, .ref ym, .int md, .ref yo, .ref yk, .ref yt, .int mz, .ref yi, .ref yz, .ref yx, .ref yu, .int km, .int kr])), (yr, .inl (cI, 7, .inl (md_bump G (-4)))), (yw, .inl (cI, 20, .inl v)), (yt, .inl (cI, 40, .inl tf9))] H := hP.sub [2, 3, 0, 1] rfl
      have hD : va_D A [(y, .inr (6, [.ref yr, .int mq, .int mn, .ref yw, .ref yc, .int mc, .ref yl, .int me, .ref ys, .ref yp, .ref ym, .int md, .ref yo, .ref yk, .ref yt, .int mz, .ref yi, .ref yz, .ref yx, .ref yu, .int km, .int kr])), (yr, .inl (cI, 7, .inl (md_bump G (-4)))), (yw, .inl (cI, 20, .inl v)), (yt, .inl (cI, 40, .inl tf9))] := hD.sub [2, 3, 0, 1] (by decide) rfl
      exact wrL (w1 := (fun (u : (Nat → Int32) × (Nat → Int32)) => [(y, .inr (6, [.ref yr, .int mq, .int mn, .ref yw, .ref yc, .int mc, .ref yl, .int me, .ref ys, .ref yp, .ref ym, .int md, .ref yo, .ref yk, .ref yt, .int mz, .ref yi, .ref yz, .ref yx, .ref yu, .int km, .int kr])), (yr, .inl (cI, 7, .inl u.1)), (yw, .inl (cI, 20, .inl v)), (yt, .inl (cI, 40, .inl u.2))])) ((md_bump G (-4)), tf9) hx hb hr hlocks dX6_convergent_24 hS (hP.sub [0, 1, 2, 3] rfl) (hD.sub [0, 1, 2, 3] (by decide) rfl) (by have e9 : rf_con mn w j L9 k = -4 := (by unfold rf_con; rw [if_neg (fun z => z c_5), if_pos (Int32.not_le.mp c_15)]); rw [e9, if_neg (by decide), if_neg (by decide)]; exact ⟨rfl, rfl⟩)
  · skip
    have c_5 := bi_eq0.mp c_5
    refine lv_aload_n hx hb dX6_convergent_8 rfl (lv_at hl 0 rfl) ?_
    refine lv_iconst (v := (-1)) hx hb dX6_convergent_9 (by decide) ?_
    refine wrVl (As := [.int (-1)]) (rest := []) (wr := [(yw, .inl (cI, 20, .inl v)), (yt, .inl (cI, 40, .inl tf9))]) (A := A) ⟨hx, hb, hml, hown, hts⟩ (c_X6_noLong l D cI cZ cR y yr yw yc yl ys yp ym yo yk yt yi yz yx yu mq mn mc me md mz km kr G (-1) (by decide) s.heap.size) (cwV 1 hts gX6_convergent_X6_noLong rfl rfl rfl (by decide +kernel) ⟨Nat.le_of_ble_eq_true rfl, Nat.le_of_ble_eq_true rfl⟩) hK hN hP hD hS hA 0 6 rfl rfl rfl [0, 1] [2, 3] rfl (by decide) rfl (by decide) (by decide) rfl hl.1 rfl (Nat.le_of_ble_eq_true rfl) dX6_convergent_10 ⟨Nat.zero_le _, Nat.zero_le _⟩ (fun r_10 u H locs hw hP hD hS => ?_)
    obtain ⟨G_10, rfl⟩ : ∃ z, z = u := ⟨_, rfl⟩
    try dsimp only at hw
    obtain ⟨q1_10, q2_10⟩ := hw
    have q1_10 := q1_10.symm
    subst q1_10
    have q2_10 := q2_10.symm
    subst q2_10
    have hP : va_P D vwCl [(y, .inr (6, [.ref yr, .int mq, .int mn, .ref yw, .ref yc, .int mc, .ref yl, .int me, .ref ys, .ref yp, .ref ym, .int md, .ref yo, .ref yk, .ref yt, .int mz, .ref yi, .ref yz, .ref yx, .ref yu, .int km, .int kr])), (yr, .inl (cI, 7, .inl (md_bump G (-1)))), (yw, .inl (cI, 20, .inl v)), (yt, .inl (cI, 40, .inl tf9))] H := hP.sub [2, 3, 0, 1] rfl
    have hD : va_D A [(y, .inr (6, [.ref yr, .int mq, .int mn, .ref yw, .ref yc, .int mc, .ref yl, .int me, .ref ys, .ref yp, .ref ym, .int md, .ref yo, .ref yk, .ref yt, .int mz, .ref yi, .ref yz, .ref yx, .ref yu, .int km, .int kr])), (yr, .inl (cI, 7, .inl (md_bump G (-1)))), (yw, .inl (cI, 20, .inl v)), (yt, .inl (cI, 40, .inl tf9))] := hD.sub [2, 3, 0, 1] (by decide) rfl
    exact wrL (w1 := (fun (u : (Nat → Int32) × (Nat → Int32)) => [(y, .inr (6, [.ref yr, .int mq, .int mn, .ref yw, .ref yc, .int mc, .ref yl, .int me, .ref ys, .ref yp, .ref ym, .int md, .ref yo, .ref yk, .ref yt, .int mz, .ref yi, .ref yz, .ref yx, .ref yu, .int km, .int kr])), (yr, .inl (cI, 7, .inl u.1)), (yw, .inl (cI, 20, .inl v)), (yt, .inl (cI, 40, .inl u.2))])) ((md_bump G (-1)), tf9) hx hb hr hlocks dX6_convergent_13 hS (hP.sub [0, 1, 2, 3] rfl) (hD.sub [0, 1, 2, 3] (by decide) rfl) (by have e9 : rf_con mn w j L9 k = -1 := (by unfold rf_con; rw [if_pos c_5]); rw [e9, if_neg (by decide), if_neg (by decide)]; exact ⟨rfl, rfl⟩)
