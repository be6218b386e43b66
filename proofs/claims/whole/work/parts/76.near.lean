theorem in_X5_nearest_X1 : ∀ w ∈ wsX10, w ∈ wsX5_nearest := by decide +kernel
theorem in_X5_nearest_X5 : ∀ w ∈ wsX50, w ∈ wsX5_nearest := by decide +kernel
theorem in_X6_nearest_X6 : ∀ w ∈ wsX60, w ∈ wsX6_nearest := by decide +kernel
set_option maxHeartbeats 4000000 in
set_option maxRecDepth 100000 in
theorem c_X5_nearest (l : Launch) (D : va_G) (cI cZ cR : ClassId) (x r t im tx ch ro rf pl ot cl : Nat) (hi : Int32) (F : Nat → Int32) (rn : Nat) (q nw : Int32) (v : Nat → Int32) (w n k : Int32) (hq : okQ q) (hws : ∀ w, 0 ≤ w ∧ w < nw → okW q v w) (sz : Nat) : Met l yX5_nearest wsX5_nearest ({ frames := 3, cells := 0, slots := 0, locals := 66 }) (PcW D cI cZ cR [.ref x, .int w, .int n, .int k] [(x, .inr (5, [.ref r, .ref t, .ref im, .int hi, .ref tx, .ref ch, .ref ro, .ref rf, .ref pl, .ref ot, .ref cl])), (rf, .inl (cI, 6, .inl F)), (r, .inr (1, [.int q, .int nw, .ref rn])), (rn, .inl (cI, 20, .inl v))] sz) (va_Qi (fun (res : Int32) (u : (Nat → Int32)) => res = (if rf_nea nw w n k = 0 then neaA q.toNatClampNeg (rg_val v w 1).toNatClampNeg n.toNatClampNeg k else rf_nea nw w n k) ∧ u = (if rf_nea nw w n k = 0 then F else rf_bump F (rf_nea nw w n k))) (Bw D (fun (u : (Nat → Int32)) => [(x, .inr (5, [.ref r, .ref t, .ref im, .int hi, .ref tx, .ref ch, .ref ro, .ref rf, .ref pl, .ref ot, .ref cl])), (rf, .inl (cI, 6, .inl u)), (r, .inr (1, [.int q, .int nw, .ref rn])), (rn, .inl (cI, 20, .inl v))]) (va_A [(x, .inr (5, [.ref r, .ref t, .ref im, .int hi, .ref tx, .ref ch, .ref ro, .ref rf, .ref pl, .ref ot, .ref cl])), (rf, .inl (cI, 6, .inl F)), (r, .inr (1, [.int q, .int nw, .ref rn])), (rn, .inl (cI, 20, .inl v))] sz)) (va_A [(x, .inr (5, [.ref r, .ref t, .ref im, .int hi, .ref tx, .ref ch, .ref ro, .ref rf, .ref pl, .ref ot, .ref cl])), (rf, .inl (cI, 6, .inl F)), (r, .inr (1, [.int q, .int nw, .ref rn])), (rn, .inl (cI, 20, .inl v))] sz)) 0 0 (va_A [(x, .inr (5, [.ref r, .ref t, .ref im, .int hi, .ref tx, .ref ch, .ref ro, .ref rf, .ref pl, .ref ot, .ref cl])), (rf, .inl (cI, 6, .inl F)), (r, .inr (1, [.int q, .int nw, .ref rn])), (rn, .inl (cI, 20, .inl v))] sz) := by
  refine Met.ofW (cc := cX5_nearest) (maxL := 11) (ret := (some .int)) (by decide) rfl ?_
  intro p e s m args below meth c s₁ B hml hv
  obtain ⟨rfl, hsz, hP, hK, hD0, hN⟩ := hv
  have hx := B.exec
  have hb := B.bytes
  have hr := B.returns
  have hts := atoms_spec (ws := wsX5_nearest) B.pre
  have hown : s.vm.findClass RX5 = some m.cls := findClass_of_methodNamed B.named
  have hlocks := B.notSynchronized
  subst hsz
  have hD := hD0.self (sz := s.heap.size)
  generalize hAe : va_A [(x, .inr (5, [.ref r, .ref t, .ref im, .int hi, .ref tx, .ref ch, .ref ro, .ref rf, .ref pl, .ref ot, .ref cl])), (rf, .inl (cI, 6, .inl F)), (r, .inr (1, [.int q, .int nw, .ref rn])), (rn, .inl (cI, 20, .inl v))] s.heap.size = A at hD ⊢
  have hA : ∀ q : Nat, s.heap.size ≤ q → A q := fun q h => by rw [← hAe]; exact Or.inr h
  have hS : va_S A s.heap s.heap [] := va_S.rf
  have hP : va_P D vwCl [(x, .inr (5, [.ref r, .ref t, .ref im, .int hi, .ref tx, .ref ch, .ref ro, .ref rf, .ref pl, .ref ot, .ref cl])), (rf, .inl (cI, 6, .inl F)), (r, .inr (1, [.int q, .int nw, .ref rn])), (rn, .inl (cI, 20, .inl v))] s.heap := hP
  have hl := lv_entry ([.ref x, .int w, .int n, .int k]) (n := 11) (Nat.le_of_ble_eq_true rfl)
  rw [lg_entry_eq]
  generalize (lg_sl ([.ref x, .int w, .int n, .int k]) ++ List.replicate (11 - (lg_sl ([.ref x, .int w, .int n, .int k])).length) Slot.unset).toArray = ls at hl ⊢
  have hl : lv_has ls 11 [(0, .ref x), (1, .int w), (2, .int n), (3, .int k)] := hl
  refine lv_aload_n hx hb dX5_nearest_0 rfl (lv_at hl 0 rfl) ?_
  refine lv_iload_n hx hb dX5_nearest_1 rfl (lv_at hl 1 rfl) ?_
  refine lv_iload_n hx hb dX5_nearest_2 rfl (lv_at hl 2 rfl) ?_
  refine lv_iconst (v := 1) hx hb dX5_nearest_3 (by decide) ?_
  refine lv_bipush (v := 99) hx hb dX5_nearest_4 (by decide) ?_
  refine rdV (As := [.int w, .int n, .int 1, .int 99]) (rest := []) ⟨hx, hb, hml, hown, hts⟩ (c_X5_refusalOfNumber l D cI cZ cR x r t im tx ch ro rf pl ot cl hi rn q nw v w n 1 99 ) (cwV 4 hts gX5_nearest_X5_refusalOfNumber rfl rfl rfl (by decide +kernel) ⟨Nat.le_of_ble_eq_true rfl, Nat.le_of_ble_eq_true rfl⟩) hK hN hP 0 5 rfl rfl rfl [0, 2, 3] rfl rfl hl.1 rfl (Nat.le_of_ble_eq_true rfl) dX5_nearest_6 ⟨Nat.zero_le _, Nat.zero_le _⟩ ?_
  refine lv_istore (lv' := [(4, .int (rf_num nw w n 1 99)), (0, .ref x), (1, .int w), (2, .int n), (3, .int k)]) hx hb dX5_nearest_9 hl (by decide) rfl (fun ls hl => ?_)
  refine lv_iload hx hb dX5_nearest_11 (lv_at hl 0 rfl) ?_
  refine lv_if_eq (tgt := 23) hx hb dX5_nearest_13 (by decide) (fun c_13 => ?_) (fun c_13 => ?_)
  · skip
    refine lv_iload_n hx hb dX5_nearest_23 rfl (lv_at hl 4 rfl) ?_
    refine lv_iconst (v := 2) hx hb dX5_nearest_24 (by decide) ?_
    refine rdS (As := [.int k, .int 2]) (rest := []) ⟨hx, hb, hml, hown, hts⟩ (c_X5_isBelow l D cI cZ cR k 2 ) (va_cwS 2 hts gX5_nearest_X5_isBelow rfl rfl rfl (by decide +kernel) ⟨Nat.le_of_ble_eq_true rfl, Nat.le_of_ble_eq_true rfl⟩) hK hN hP [] rfl rfl hl.1 rfl (Nat.le_of_ble_eq_true rfl) dX5_nearest_25 ⟨Nat.zero_le _, Nat.zero_le _⟩ ?_
    refine lv_if_ne (tgt := 38) hx hb dX5_nearest_28 (by decide) (fun c_28 => ?_) (fun c_28 => ?_)
    · skip
      have c_28 := bi_ne0.mp c_28
      have eR : rf_nea nw w n k = 0 := by unfold rf_nea; rw [if_pos c_13, if_pos c_28]
      have hok := rf_num_ok c_13
      have hn := n99 hok.2
      have hqN := okQ_N hq
      have hst := (hws w hok.1).2.1
      have hst0 := hst.1
      have hsN := (f_N hq hst).2
      refine lv_aload_n hx hb dX5_nearest_38 rfl (lv_at hl 1 rfl) ?_
      refine va_get (D := D) (ci := 5) (v := .ref r) (C := RX5) (T := TX5) (N := 11) hx hb hts (in_X5_nearest_X5) hown hK hP 0 rfl rfl 0 (by decide) (hts (.fieldLink RX5 10 "StepsRoundCircle" "ring" "LStepsRoundCircle$Ring;") (by decide +kernel)) (fun _ h9 => h9) rfl dX5_nearest_39 ?_
      refine lv_iload_n hx hb dX5_nearest_42 rfl (lv_at hl 2 rfl) ?_
      refine lv_iconst (v := 1) hx hb dX5_nearest_43 (by decide) ?_
      refine rdV (As := [.int w, .int 1]) (rest := []) ⟨hx, hb, hml, hown, hts⟩ (c_X1_value l D cI cZ cR r rn q nw v w 1 ) (cwV 2 hts gX5_nearest_X1_value rfl rfl rfl (by decide +kernel) ⟨Nat.le_of_ble_eq_true rfl, Nat.le_of_ble_eq_true rfl⟩) hK hN hP 2 1 rfl rfl rfl [2, 3] rfl rfl hl.1 rfl (Nat.le_of_ble_eq_true rfl) dX5_nearest_44 ⟨Nat.zero_le _, Nat.zero_le _⟩ ?_
      refine lv_istore (lv' := [(5, .int (rg_val v w 1)), (4, .int (rf_num nw w n 1 99)), (0, .ref x), (1, .int w), (2, .int n), (3, .int k)]) hx hb dX5_nearest_47 hl (by decide) rfl (fun ls hl => ?_)
      refine lv_iconst (v := 0) hx hb dX5_nearest_49 (by decide) ?_
      refine lv_istore (lv' := [(6, .int 0), (5, .int (rg_val v w 1)), (4, .int (rf_num nw w n 1 99)), (0, .ref x), (1, .int w), (2, .int n), (3, .int k)]) hx hb dX5_nearest_50 hl (by decide) rfl (fun ls hl => ?_)
      refine lv_iconst (v := 1) hx hb dX5_nearest_52 (by decide) ?_
      refine lv_istore (lv' := [(7, .int 1), (6, .int 0), (5, .int (rg_val v w 1)), (4, .int (rf_num nw w n 1 99)), (0, .ref x), (1, .int w), (2, .int n), (3, .int k)]) hx hb dX5_nearest_53 hl (by decide) rfl (fun ls hl => ?_)
      refine lv_iconst (v := 1) hx hb dX5_nearest_55 (by decide) ?_
      refine lv_istore (lv' := [(8, .int 1), (7, .int 1), (6, .int 0), (5, .int (rg_val v w 1)), (4, .int (rf_num nw w n 1 99)), (0, .ref x), (1, .int w), (2, .int n), (3, .int k)]) hx hb dX5_nearest_56 hl (by decide) rfl (fun ls hl => ?_)
      have loop_58 : ∀ (fuel : Nat), ∀ (t9 : Nat), (t9 ≤ n.toNatClampNeg) → (n.toNatClampNeg + 1 ≤ t9 + fuel) → ∀ (y6 : Int32), y6 = nI (nB q.toNatClampNeg (rg_val v w 1).toNatClampNeg t9).1 → ∀ (y7 : Int32), y7 = nI (nB q.toNatClampNeg (rg_val v w 1).toNatClampNeg t9).2 → ∀ (y8 : Int32), y8 = nI (t9 + 1) → ∀ (ls : Array Slot), lv_has ls 11 [(6, .int y6), (7, .int y7), (8, .int y8), (0, .ref x), (1, .int w), (2, .int n), (3, .int k), (4, .int (rf_num nw w n 1 99)), (5, .int (rg_val v w 1))] → W p l e (headSpec wsX5_nearest ({ frames := 3, cells := 0, slots := 0, locals := 66 })).room s m ([.ref x, .int w, .int n, .int k] : List Value).toArray below meth c s.heap [] 0 0 (MQ below (va_Qi (fun (res : Int32) (u : (Nat → Int32)) => res = (if rf_nea nw w n k = 0 then neaA q.toNatClampNeg (rg_val v w 1).toNatClampNeg n.toNatClampNeg k else rf_nea nw w n k) ∧ u = (if rf_nea nw w n k = 0 then F else rf_bump F (rf_nea nw w n k))) (Bw D (fun (u : (Nat → Int32)) => [(x, .inr (5, [.ref r, .ref t, .ref im, .int hi, .ref tx, .ref ch, .ref ro, .ref rf, .ref pl, .ref ot, .ref cl])), (rf, .inl (cI, 6, .inl u)), (r, .inr (1, [.int q, .int nw, .ref rn])), (rn, .inl (cI, 20, .inl v))]) A) A) ([.ref x, .int w, .int n, .int k] : List Value).toArray s 0 0 A) (F0 m 58 ls []) := by
        intro fuel
        induction fuel with
        | zero =>
          intro t9 ht9 hfu
          exact False.elim (by omega)
        | succ fuel ih_58 =>
          intro t9 ht9 hfu y6 ey6 y7 ey7 y8 ey8 ls hl
          subst ey6
          subst ey7
          subst ey8
          refine lv_iload hx hb dX5_nearest_58 (lv_at hl 2 rfl) ?_
          refine lv_iload_n hx hb dX5_nearest_60 rfl (lv_at hl 5 rfl) ?_
          refine lv_icmp_gt (tgt := 150) hx hb dX5_nearest_61 (by decide) (fun c_61 => ?_) (fun c_61 => ?_)
          · skip
            have hend : t9 = n.toNatClampNeg := by have h9 := c_61; rw [hn.2.2] at h9; have := (nI_ltI (by omega) (by omega)).mp h9; omega
            refine lv_iload_n hx hb dX5_nearest_150 rfl (lv_at hl 6 rfl) ?_
            refine lv_if_ne (tgt := 159) hx hb dX5_nearest_151 (by decide) (fun c_151 => ?_) (fun c_151 => ?_)
            · skip
              refine lv_iload hx hb dX5_nearest_159 (lv_at hl 1 rfl) ?_
              exact wrI (w1 := (fun (u : (Nat → Int32)) => [(x, .inr (5, [.ref r, .ref t, .ref im, .int hi, .ref tx, .ref ch, .ref ro, .ref rf, .ref pl, .ref ot, .ref cl])), (rf, .inl (cI, 6, .inl u)), (r, .inr (1, [.int q, .int nw, .ref rn])), (rn, .inl (cI, 20, .inl v))])) F hx hb hr hlocks dX5_nearest_161 hS (hP.sub [0, 1, 2, 3] rfl) (hD.sub [0, 1, 2, 3] (by decide) rfl) (by rw [if_pos eR, if_pos eR]; refine ⟨?_, rfl⟩; unfold neaA; rw [if_neg c_151, hend])
            · skip
              refine lv_iload hx hb dX5_nearest_154 (lv_at hl 0 rfl) ?_
              refine lv_goto (tgt := 161) hx hb dX5_nearest_156 (by decide) ?_
              exact wrI (w1 := (fun (u : (Nat → Int32)) => [(x, .inr (5, [.ref r, .ref t, .ref im, .int hi, .ref tx, .ref ch, .ref ro, .ref rf, .ref pl, .ref ot, .ref cl])), (rf, .inl (cI, 6, .inl u)), (r, .inr (1, [.int q, .int nw, .ref rn])), (rn, .inl (cI, 20, .inl v))])) F hx hb hr hlocks dX5_nearest_161 hS (hP.sub [0, 1, 2, 3] rfl) (hD.sub [0, 1, 2, 3] (by decide) rfl) (by rw [if_pos eR, if_pos eR]; refine ⟨?_, rfl⟩; unfold neaA; rw [if_pos c_151, hend])
          · skip
            have htN : t9 + 1 ≤ n.toNatClampNeg := by rcases Nat.lt_or_ge n.toNatClampNeg (t9 + 1) with q9 | q9; exact absurd (by rw [hn.2.2]; exact nI_lt q9 (by omega)) c_61; exact q9
            have hcl := cut_lt (k := t9 + 1) hsN (by omega)
            have hnb := nB_bd hsN t9 (by omega)
            refine lv_iload hx hb dX5_nearest_64 (lv_at hl 2 rfl) ?_
            refine lv_i2l hx hb dX5_nearest_66 rfl ?_
            refine lv_iload hx hb dX5_nearest_67 (lv_at hl 8 rfl) ?_
            refine lv_i2l hx hb dX5_nearest_69 rfl ?_
            refine lv_lmul hx hb dX5_nearest_70 ?_
            refine lv_aload_n hx hb dX5_nearest_71 rfl (lv_at hl 3 rfl) ?_
            refine va_get (D := D) (ci := 5) (v := .ref r) (C := RX5) (T := TX5) (N := 11) hx hb hts (in_X5_nearest_X5) hown hK hP 0 rfl rfl 0 (by decide) (hts (.fieldLink RX5 10 "StepsRoundCircle" "ring" "LStepsRoundCircle$Ring;") (by decide +kernel)) (fun _ h9 => h9) rfl dX5_nearest_72 ?_
            refine va_get (D := D) (ci := 1) (v := .int q) (C := RX1) (T := TX1) (N := 3) hx hb hts (in_X5_nearest_X1) hown hK hP 2 rfl rfl 0 (by decide) (hts (.fieldLink RX5 91 "StepsRoundCircle$Ring" "size" "I") (by decide +kernel)) (fun _ h9 => h9) rfl dX5_nearest_75 ?_
            refine lv_i2l hx hb dX5_nearest_78 rfl ?_
            refine rdS (As := [.long (((nI (t9 + 1)).toInt64) * ((rg_val v w 1).toInt64)), .long q.toInt64]) (rest := []) ⟨hx, hb, hml, hown, hts⟩ (c_X5_quotient l D cI cZ cR (((nI (t9 + 1)).toInt64) * ((rg_val v w 1).toInt64)) q.toInt64 ) (va_cwS 2 hts gX5_nearest_X5_quotient rfl rfl rfl (by decide +kernel) ⟨Nat.le_of_ble_eq_true rfl, Nat.le_of_ble_eq_true rfl⟩) hK hN hP [] rfl rfl hl.1 rfl (Nat.le_of_ble_eq_true rfl) dX5_nearest_79 ⟨Nat.zero_le _, Nat.zero_le _⟩ ?_
            refine lv_l2i hx hb dX5_nearest_82 rfl ?_
            refine lv_topi (fun z_83 hz_83 => ?_)
            have hz_83 : (nI ((t9 + 1) * (rg_val v w 1).toNatClampNeg / q.toNatClampNeg)) = z_83 := (hz_83.trans (by unfold lq; rw [if_neg (q_ne hq), nI_l (by omega), wideN hst0, wideN (okQ_0 hq), lN_mul, pk_lDiv (by have := Nat.mul_le_mul (show t9 + 1 ≤ 99 by omega) (show (rg_val v w 1).toNatClampNeg ≤ 2000 by omega); omega) (by omega) (by omega), lN_i])).symm
            subst hz_83
            refine lv_istore (lv' := [(9, .int (nI ((t9 + 1) * (rg_val v w 1).toNatClampNeg / q.toNatClampNeg))), (6, .int (nI (nB q.toNatClampNeg (rg_val v w 1).toNatClampNeg t9).1)), (7, .int (nI (nB q.toNatClampNeg (rg_val v w 1).toNatClampNeg t9).2)), (8, .int (nI (t9 + 1))), (0, .ref x), (1, .int w), (2, .int n), (3, .int k), (4, .int (rf_num nw w n 1 99)), (5, .int (rg_val v w 1))]) hx hb dX5_nearest_83 hl (by decide) rfl (fun ls hl => ?_)
            refine lv_iload hx hb dX5_nearest_85 (lv_at hl 0 rfl) ?_
            refine lv_istore (lv' := [(10, .int (nI ((t9 + 1) * (rg_val v w 1).toNatClampNeg / q.toNatClampNeg))), (9, .int (nI ((t9 + 1) * (rg_val v w 1).toNatClampNeg / q.toNatClampNeg))), (6, .int (nI (nB q.toNatClampNeg (rg_val v w 1).toNatClampNeg t9).1)), (7, .int (nI (nB q.toNatClampNeg (rg_val v w 1).toNatClampNeg t9).2)), (8, .int (nI (t9 + 1))), (0, .ref x), (1, .int w), (2, .int n), (3, .int k), (4, .int (rf_num nw w n 1 99)), (5, .int (rg_val v w 1))]) hx hb dX5_nearest_87 hl (by decide) rfl (fun ls hl => ?_)
            have loop_89 : ∀ (fuel : Nat), ∀ (d9 : Nat), (d9 ≤ 2) → (3 ≤ d9 + fuel) → ∀ (y6 : Int32), y6 = nI (nF q.toNatClampNeg (rg_val v w 1).toNatClampNeg (nB q.toNatClampNeg (rg_val v w 1).toNatClampNeg t9) (t9 + 1) ((t9 + 1) * (rg_val v w 1).toNatClampNeg / q.toNatClampNeg) d9).1 → ∀ (y7 : Int32), y7 = nI (nF q.toNatClampNeg (rg_val v w 1).toNatClampNeg (nB q.toNatClampNeg (rg_val v w 1).toNatClampNeg t9) (t9 + 1) ((t9 + 1) * (rg_val v w 1).toNatClampNeg / q.toNatClampNeg) d9).2 → ∀ (y10 : Int32), y10 = nI (((t9 + 1) * (rg_val v w 1).toNatClampNeg / q.toNatClampNeg) + d9) → ∀ (ls : Array Slot), lv_has ls 11 [(6, .int y6), (7, .int y7), (10, .int y10), (0, .ref x), (1, .int w), (2, .int n), (3, .int k), (4, .int (rf_num nw w n 1 99)), (5, .int (rg_val v w 1)), (8, .int (nI (t9 + 1))), (9, .int (nI ((t9 + 1) * (rg_val v w 1).toNatClampNeg / q.toNatClampNeg)))] → W p l e (headSpec wsX5_nearest ({ frames := 3, cells := 0, slots := 0, locals := 66 })).room s m ([.ref x, .int w, .int n, .int k] : List Value).toArray below meth c s.heap [] 0 0 (MQ below (va_Qi (fun (res : Int32) (u : (Nat → Int32)) => res = (if rf_nea nw w n k = 0 then neaA q.toNatClampNeg (rg_val v w 1).toNatClampNeg n.toNatClampNeg k else rf_nea nw w n k) ∧ u = (if rf_nea nw w n k = 0 then F else rf_bump F (rf_nea nw w n k))) (Bw D (fun (u : (Nat → Int32)) => [(x, .inr (5, [.ref r, .ref t, .ref im, .int hi, .ref tx, .ref ch, .ref ro, .ref rf, .ref pl, .ref ot, .ref cl])), (rf, .inl (cI, 6, .inl u)), (r, .inr (1, [.int q, .int nw, .ref rn])), (rn, .inl (cI, 20, .inl v))]) A) A) ([.ref x, .int w, .int n, .int k] : List Value).toArray s 0 0 A) (F0 m 89 ls []) := by
              intro fuel
              induction fuel with
              | zero =>
                intro d9 hd9 hfu2
                exact False.elim (by omega)
              | succ fuel ih_89 =>
                intro d9 hd9 hfu2 y6 ey6 y7 ey7 y10 ey10 ls hl
                subst ey6
                subst ey7
                subst ey10
                refine lv_iload hx hb dX5_nearest_89 (lv_at hl 2 rfl) ?_
                refine lv_iload hx hb dX5_nearest_91 (lv_at hl 10 rfl) ?_
                refine lv_iconst (v := 1) hx hb dX5_nearest_93 (by decide) ?_
                refine lv_iadd hx hb dX5_nearest_94 ?_
                refine lv_topi (fun z_95 hz_95 => ?_)
                have hz_95 : (nI (((t9 + 1) * (rg_val v w 1).toNatClampNeg / q.toNatClampNeg) + 1)) = z_95 := (hz_95.trans (nI_1 _)).symm
                subst hz_95
                refine lv_icmp_gt (tgt := 144) hx hb dX5_nearest_95 (by decide) (fun c_95 => ?_) (fun c_95 => ?_)
                · skip
                  have hd2 : d9 = 2 := by have := (nI_ltI (by omega) (by omega)).mp c_95; omega
                  refine lv_iinc (v := (nI (t9 + 1)) + 1) (lv' := [(8, .int ((nI (t9 + 1)) + 1)), (6, .int (nI (nF q.toNatClampNeg (rg_val v w 1).toNatClampNeg (nB q.toNatClampNeg (rg_val v w 1).toNatClampNeg t9) (t9 + 1) ((t9 + 1) * (rg_val v w 1).toNatClampNeg / q.toNatClampNeg) d9).1)), (7, .int (nI (nF q.toNatClampNeg (rg_val v w 1).toNatClampNeg (nB q.toNatClampNeg (rg_val v w 1).toNatClampNeg t9) (t9 + 1) ((t9 + 1) * (rg_val v w 1).toNatClampNeg / q.toNatClampNeg) d9).2)), (10, .int (nI (((t9 + 1) * (rg_val v w 1).toNatClampNeg / q.toNatClampNeg) + d9))), (0, .ref x), (1, .int w), (2, .int n), (3, .int k), (4, .int (rf_num nw w n 1 99)), (5, .int (rg_val v w 1)), (9, .int (nI ((t9 + 1) * (rg_val v w 1).toNatClampNeg / q.toNatClampNeg)))]) hx hb dX5_nearest_144 hl (k := 9) rfl (by rfl) (by decide) rfl (fun ls hl => ?_)
                  refine lv_goto (tgt := 58) hx hb dX5_nearest_147 (by decide) ?_
                  exact ih_58 (t9 + 1) (by omega) (by omega) _ (by rw [hd2]; rfl) _ (by rw [hd2]; rfl) _ (nI_1 _) ls (lv_sub hl [1, 2, 0, 4, 5, 6, 7, 8, 9] rfl)
                · skip
                  have hdN : d9 < 2 := by rcases Nat.lt_or_ge d9 2 with q9 | q9; exact q9; exact absurd (nI_lt (show ((t9 + 1) * (rg_val v w 1).toNatClampNeg / q.toNatClampNeg) + 1 < ((t9 + 1) * (rg_val v w 1).toNatClampNeg / q.toNatClampNeg) + d9 by omega) (by omega)) c_95
                  have hfb := nF_bd (Q := q.toNatClampNeg) (S := (rg_val v w 1).toNatClampNeg) (M := 99) (c := ((t9 + 1) * (rg_val v w 1).toNatClampNeg / q.toNatClampNeg)) hnb (show t9 + 1 ≤ 99 by omega) d9 (by omega)
                  have hD1 := nD_bd (show q.toNatClampNeg ≤ 2000 by omega) (show (rg_val v w 1).toNatClampNeg ≤ 2000 by omega) (show ((t9 + 1) * (rg_val v w 1).toNatClampNeg / q.toNatClampNeg) + d9 ≤ 99 by omega) (show t9 + 1 ≤ 99 by omega)
                  have hD2 := nD_bd (show q.toNatClampNeg ≤ 2000 by omega) (show (rg_val v w 1).toNatClampNeg ≤ 2000 by omega) hfb.1 hfb.2
                  have hM1 := Nat.mul_le_mul hD1 hfb.2
                  have hM2 := Nat.mul_le_mul hD2 (show t9 + 1 ≤ 99 by omega)
                  refine lv_aload_n hx hb dX5_nearest_98 rfl (lv_at hl 3 rfl) ?_
                  refine lv_iload hx hb dX5_nearest_99 (lv_at hl 2 rfl) ?_
                  refine lv_iload hx hb dX5_nearest_101 (lv_at hl 9 rfl) ?_
                  refine lv_iload hx hb dX5_nearest_103 (lv_at hl 8 rfl) ?_
                  refine rdV (As := [.int (nI (((t9 + 1) * (rg_val v w 1).toNatClampNeg / q.toNatClampNeg) + d9)), .int (nI (t9 + 1)), .int (rg_val v w 1)]) (rest := []) ⟨hx, hb, hml, hown, hts⟩ (c_X5_apart l D cI cZ cR x r t im tx ch ro rf pl ot cl hi rn q nw v (nI (((t9 + 1) * (rg_val v w 1).toNatClampNeg / q.toNatClampNeg) + d9)) (nI (t9 + 1)) (rg_val v w 1) ) (cwV 3 hts gX5_nearest_X5_apart rfl rfl rfl (by decide +kernel) ⟨Nat.le_of_ble_eq_true rfl, Nat.le_of_ble_eq_true rfl⟩) hK hN hP 0 5 rfl rfl rfl [0, 2, 3] rfl rfl hl.1 rfl (Nat.le_of_ble_eq_true rfl) dX5_nearest_105 ⟨Nat.zero_le _, Nat.zero_le _⟩ ?_
                  refine lv_topl (fun z_108 hz_108 => ?_)
                  have hz_108 : (lN (nD q.toNatClampNeg (rg_val v w 1).toNatClampNeg (((t9 + 1) * (rg_val v w 1).toNatClampNeg / q.toNatClampNeg) + d9) (t9 + 1))) = z_108 := (hz_108.trans (by rw [nI_l (by omega), nI_l (by omega), wideN (okQ_0 hq), wideN hst0]; exact ap_1 (by omega) (by omega) (by omega) (by omega))).symm
                  subst hz_108
                  refine lv_iload hx hb dX5_nearest_108 (lv_at hl 1 rfl) ?_
                  refine lv_i2l hx hb dX5_nearest_110 rfl ?_
                  refine lv_lmul hx hb dX5_nearest_111 ?_
                  refine lv_topl (fun z_112 hz_112 => ?_)
                  have hz_112 : (lN (nD q.toNatClampNeg (rg_val v w 1).toNatClampNeg (((t9 + 1) * (rg_val v w 1).toNatClampNeg / q.toNatClampNeg) + d9) (t9 + 1) * (nF q.toNatClampNeg (rg_val v w 1).toNatClampNeg (nB q.toNatClampNeg (rg_val v w 1).toNatClampNeg t9) (t9 + 1) ((t9 + 1) * (rg_val v w 1).toNatClampNeg / q.toNatClampNeg) d9).2)) = z_112 := (hz_112.trans (by rw [nI_l (by omega), lN_mul])).symm
                  subst hz_112
                  refine lv_aload_n hx hb dX5_nearest_112 rfl (lv_at hl 3 rfl) ?_
                  refine lv_iload hx hb dX5_nearest_113 (lv_at hl 0 rfl) ?_
                  refine lv_iload hx hb dX5_nearest_115 (lv_at hl 1 rfl) ?_
                  refine lv_iload hx hb dX5_nearest_117 (lv_at hl 8 rfl) ?_
                  refine rdV (As := [.int (nI (nF q.toNatClampNeg (rg_val v w 1).toNatClampNeg (nB q.toNatClampNeg (rg_val v w 1).toNatClampNeg t9) (t9 + 1) ((t9 + 1) * (rg_val v w 1).toNatClampNeg / q.toNatClampNeg) d9).1), .int (nI (nF q.toNatClampNeg (rg_val v w 1).toNatClampNeg (nB q.toNatClampNeg (rg_val v w 1).toNatClampNeg t9) (t9 + 1) ((t9 + 1) * (rg_val v w 1).toNatClampNeg / q.toNatClampNeg) d9).2), .int (rg_val v w 1)]) (rest := [.long (lN (nD q.toNatClampNeg (rg_val v w 1).toNatClampNeg (((t9 + 1) * (rg_val v w 1).toNatClampNeg / q.toNatClampNeg) + d9) (t9 + 1) * (nF q.toNatClampNeg (rg_val v w 1).toNatClampNeg (nB q.toNatClampNeg (rg_val v w 1).toNatClampNeg t9) (t9 + 1) ((t9 + 1) * (rg_val v w 1).toNatClampNeg / q.toNatClampNeg) d9).2))]) ⟨hx, hb, hml, hown, hts⟩ (c_X5_apart l D cI cZ cR x r t im tx ch ro rf pl ot cl hi rn q nw v (nI (nF q.toNatClampNeg (rg_val v w 1).toNatClampNeg (nB q.toNatClampNeg (rg_val v w 1).toNatClampNeg t9) (t9 + 1) ((t9 + 1) * (rg_val v w 1).toNatClampNeg / q.toNatClampNeg) d9).1) (nI (nF q.toNatClampNeg (rg_val v w 1).toNatClampNeg (nB q.toNatClampNeg (rg_val v w 1).toNatClampNeg t9) (t9 + 1) ((t9 + 1) * (rg_val v w 1).toNatClampNeg / q.toNatClampNeg) d9).2) (rg_val v w 1) ) (cwV 3 hts gX5_nearest_X5_apart rfl rfl rfl (by decide +kernel) ⟨Nat.le_of_ble_eq_true rfl, Nat.le_of_ble_eq_true rfl⟩) hK hN hP 0 5 rfl rfl rfl [0, 2, 3] rfl rfl hl.1 rfl (Nat.le_of_ble_eq_true rfl) dX5_nearest_119 ⟨Nat.zero_le _, Nat.zero_le _⟩ ?_
                  refine lv_topl (fun z_122 hz_122 => ?_)
                  have hz_122 : (lN (nD q.toNatClampNeg (rg_val v w 1).toNatClampNeg (nF q.toNatClampNeg (rg_val v w 1).toNatClampNeg (nB q.toNatClampNeg (rg_val v w 1).toNatClampNeg t9) (t9 + 1) ((t9 + 1) * (rg_val v w 1).toNatClampNeg / q.toNatClampNeg) d9).1 (nF q.toNatClampNeg (rg_val v w 1).toNatClampNeg (nB q.toNatClampNeg (rg_val v w 1).toNatClampNeg t9) (t9 + 1) ((t9 + 1) * (rg_val v w 1).toNatClampNeg / q.toNatClampNeg) d9).2)) = z_122 := (hz_122.trans (by rw [nI_l (by omega), nI_l (by omega), wideN (okQ_0 hq), wideN hst0]; exact ap_1 (by omega) (by omega) (by omega) (by omega))).symm
                  subst hz_122
                  refine lv_iload hx hb dX5_nearest_122 (lv_at hl 9 rfl) ?_
                  refine lv_i2l hx hb dX5_nearest_124 rfl ?_
                  refine lv_lmul hx hb dX5_nearest_125 ?_
                  refine lv_topl (fun z_126 hz_126 => ?_)
                  have hz_126 : (lN (nD q.toNatClampNeg (rg_val v w 1).toNatClampNeg (nF q.toNatClampNeg (rg_val v w 1).toNatClampNeg (nB q.toNatClampNeg (rg_val v w 1).toNatClampNeg t9) (t9 + 1) ((t9 + 1) * (rg_val v w 1).toNatClampNeg / q.toNatClampNeg) d9).1 (nF q.toNatClampNeg (rg_val v w 1).toNatClampNeg (nB q.toNatClampNeg (rg_val v w 1).toNatClampNeg t9) (t9 + 1) ((t9 + 1) * (rg_val v w 1).toNatClampNeg / q.toNatClampNeg) d9).2 * (t9 + 1))) = z_126 := (hz_126.trans (by rw [nI_l (by omega), lN_mul])).symm
                  subst hz_126
                  refine W.lcmp hx hb dX5_nearest_126 ?_
                  refine lv_if_ge (tgt := 138) hx hb dX5_nearest_127 (by decide) (fun c_127 => ?_) (fun c_127 => ?_)
                  · skip
                    have c_127 := (lg_cmp_ge _ _).mp c_127
                    refine lv_iinc (v := (nI (((t9 + 1) * (rg_val v w 1).toNatClampNeg / q.toNatClampNeg) + d9)) + 1) (lv' := [(10, .int ((nI (((t9 + 1) * (rg_val v w 1).toNatClampNeg / q.toNatClampNeg) + d9)) + 1)), (6, .int (nI (nF q.toNatClampNeg (rg_val v w 1).toNatClampNeg (nB q.toNatClampNeg (rg_val v w 1).toNatClampNeg t9) (t9 + 1) ((t9 + 1) * (rg_val v w 1).toNatClampNeg / q.toNatClampNeg) d9).1)), (7, .int (nI (nF q.toNatClampNeg (rg_val v w 1).toNatClampNeg (nB q.toNatClampNeg (rg_val v w 1).toNatClampNeg t9) (t9 + 1) ((t9 + 1) * (rg_val v w 1).toNatClampNeg / q.toNatClampNeg) d9).2)), (0, .ref x), (1, .int w), (2, .int n), (3, .int k), (4, .int (rf_num nw w n 1 99)), (5, .int (rg_val v w 1)), (8, .int (nI (t9 + 1))), (9, .int (nI ((t9 + 1) * (rg_val v w 1).toNatClampNeg / q.toNatClampNeg)))]) hx hb dX5_nearest_138 hl (k := 2) rfl (by rfl) (by decide) rfl (fun ls hl => ?_)
                    refine lv_goto (tgt := 89) hx hb dX5_nearest_141 (by decide) ?_
                    exact ih_89 (d9 + 1) (by omega) (by omega) _ (by rw [nF, nU, if_neg (fun z9 => absurd ((pk_lLT (by omega) (by omega)).mpr z9) (Int64.not_lt.mpr c_127))]) _ (by rw [nF, nU, if_neg (fun z9 => absurd ((pk_lLT (by omega) (by omega)).mpr z9) (Int64.not_lt.mpr c_127))]) _ (nI_1 _) ls (lv_sub hl [1, 2, 0, 3, 4, 5, 6, 7, 8, 9, 10] rfl)
                  · skip
                    have c_127 := mt (lg_cmp_ge _ _).mpr c_127
                    refine lv_iload hx hb dX5_nearest_130 (lv_at hl 2 rfl) ?_
                    refine lv_istore (lv' := [(6, .int (nI (((t9 + 1) * (rg_val v w 1).toNatClampNeg / q.toNatClampNeg) + d9))), (7, .int (nI (nF q.toNatClampNeg (rg_val v w 1).toNatClampNeg (nB q.toNatClampNeg (rg_val v w 1).toNatClampNeg t9) (t9 + 1) ((t9 + 1) * (rg_val v w 1).toNatClampNeg / q.toNatClampNeg) d9).2)), (10, .int (nI (((t9 + 1) * (rg_val v w 1).toNatClampNeg / q.toNatClampNeg) + d9))), (0, .ref x), (1, .int w), (2, .int n), (3, .int k), (4, .int (rf_num nw w n 1 99)), (5, .int (rg_val v w 1)), (8, .int (nI (t9 + 1))), (9, .int (nI ((t9 + 1) * (rg_val v w 1).toNatClampNeg / q.toNatClampNeg)))]) hx hb dX5_nearest_132 hl (by decide) rfl (fun ls hl => ?_)
                    refine lv_iload hx hb dX5_nearest_134 (lv_at hl 9 rfl) ?_
                    refine lv_istore (lv' := [(7, .int (nI (t9 + 1))), (6, .int (nI (((t9 + 1) * (rg_val v w 1).toNatClampNeg / q.toNatClampNeg) + d9))), (10, .int (nI (((t9 + 1) * (rg_val v w 1).toNatClampNeg / q.toNatClampNeg) + d9))), (0, .ref x), (1, .int w), (2, .int n), (3, .int k), (4, .int (rf_num nw w n 1 99)), (5, .int (rg_val v w 1)), (8, .int (nI (t9 + 1))), (9, .int (nI ((t9 + 1) * (rg_val v w 1).toNatClampNeg / q.toNatClampNeg)))]) hx hb dX5_nearest_136 hl (by decide) rfl (fun ls hl => ?_)
                    refine lv_iinc (v := (nI (((t9 + 1) * (rg_val v w 1).toNatClampNeg / q.toNatClampNeg) + d9)) + 1) (lv' := [(10, .int ((nI (((t9 + 1) * (rg_val v w 1).toNatClampNeg / q.toNatClampNeg) + d9)) + 1)), (7, .int (nI (t9 + 1))), (6, .int (nI (((t9 + 1) * (rg_val v w 1).toNatClampNeg / q.toNatClampNeg) + d9))), (0, .ref x), (1, .int w), (2, .int n), (3, .int k), (4, .int (rf_num nw w n 1 99)), (5, .int (rg_val v w 1)), (8, .int (nI (t9 + 1))), (9, .int (nI ((t9 + 1) * (rg_val v w 1).toNatClampNeg / q.toNatClampNeg)))]) hx hb dX5_nearest_138 hl (k := 2) rfl (by rfl) (by decide) rfl (fun ls hl => ?_)
                    refine lv_goto (tgt := 89) hx hb dX5_nearest_141 (by decide) ?_
                    exact ih_89 (d9 + 1) (by omega) (by omega) _ (by rw [nF, nU, if_pos ((pk_lLT (by omega) (by omega)).mp (Int64.not_le.mp c_127))]) _ (by rw [nF, nU, if_pos ((pk_lLT (by omega) (by omega)).mp (Int64.not_le.mp c_127))]) _ (nI_1 _) ls (lv_sub hl [2, 1, 0, 3, 4, 5, 6, 7, 8, 9, 10] rfl)
            exact loop_89 3 0 (by omega) (by omega) _ rfl _ rfl _ rfl ls (lv_sub hl [2, 3, 0, 5, 6, 7, 8, 9, 10, 4, 1] rfl)
      exact loop_58 (n.toNatClampNeg + 1) 0 (by omega) (by omega) _ rfl _ rfl _ rfl ls (lv_sub hl [2, 1, 0, 5, 6, 7, 8, 4, 3] rfl)
    · skip
      have c_28 := bi_eq0.mp c_28
      refine lv_aload_n hx hb dX5_nearest_31 rfl (lv_at hl 1 rfl) ?_
      refine lv_bipush (v := (-2)) hx hb dX5_nearest_32 (by decide) ?_
      refine wrVi (As := [.int (-2)]) (rest := []) (wr := [(r, .inr (1, [.int q, .int nw, .ref rn])), (rn, .inl (cI, 20, .inl v))]) (A := A) ⟨hx, hb, hml, hown, hts⟩ (c_X5_refuse l D cI cZ cR x r t im tx ch ro rf pl ot cl hi F (-2)  s.heap.size) (cwV 1 hts gX5_nearest_X5_refuse rfl rfl rfl (by decide +kernel) ⟨Nat.le_of_ble_eq_true rfl, Nat.le_of_ble_eq_true rfl⟩) hK hN hP hD hS hA 0 5 rfl rfl rfl [0, 1] [2, 3] rfl (by decide) rfl (by decide) (by decide) rfl hl.1 rfl (Nat.le_of_ble_eq_true rfl) dX5_nearest_34 ⟨Nat.zero_le _, Nat.zero_le _⟩ (fun r_34 u H locs hw hP hD hS => ?_)
      obtain ⟨F_34, rfl⟩ : ∃ z, z = u := ⟨_, rfl⟩
      try dsimp only at hw
      obtain ⟨q1_34, q2_34⟩ := hw
      have q1_34 := q1_34.symm
      subst q1_34
      have q2_34 := q2_34.symm
      subst q2_34
      have hP : va_P D vwCl [(x, .inr (5, [.ref r, .ref t, .ref im, .int hi, .ref tx, .ref ch, .ref ro, .ref rf, .ref pl, .ref ot, .ref cl])), (rf, .inl (cI, 6, .inl (rf_bump F (-2)))), (r, .inr (1, [.int q, .int nw, .ref rn])), (rn, .inl (cI, 20, .inl v))] H := hP.sub [2, 3, 0, 1] rfl
      have hD : va_D A [(x, .inr (5, [.ref r, .ref t, .ref im, .int hi, .ref tx, .ref ch, .ref ro, .ref rf, .ref pl, .ref ot, .ref cl])), (rf, .inl (cI, 6, .inl (rf_bump F (-2)))), (r, .inr (1, [.int q, .int nw, .ref rn])), (rn, .inl (cI, 20, .inl v))] := hD.sub [2, 3, 0, 1] (by decide) rfl
      exact wrI (w1 := (fun (u : (Nat → Int32)) => [(x, .inr (5, [.ref r, .ref t, .ref im, .int hi, .ref tx, .ref ch, .ref ro, .ref rf, .ref pl, .ref ot, .ref cl])), (rf, .inl (cI, 6, .inl u)), (r, .inr (1, [.int q, .int nw, .ref rn])), (rn, .inl (cI, 20, .inl v))])) (rf_bump F (-2)) hx hb hr hlocks dX5_nearest_37 hS (hP.sub [0, 1, 2, 3] rfl) (hD.sub [0, 1, 2, 3] (by decide) rfl) (by have e9 : rf_nea nw w n k = -2 := (by unfold rf_nea; rw [if_pos c_13, if_neg c_28]); simp [e9])
  · skip
    refine lv_aload_n hx hb dX5_nearest_16 rfl (lv_at hl 1 rfl) ?_
    refine lv_iload hx hb dX5_nearest_17 (lv_at hl 0 rfl) ?_
    refine wrVi (As := [.int (rf_num nw w n 1 99)]) (rest := []) (wr := [(r, .inr (1, [.int q, .int nw, .ref rn])), (rn, .inl (cI, 20, .inl v))]) (A := A) ⟨hx, hb, hml, hown, hts⟩ (c_X5_refuse l D cI cZ cR x r t im tx ch ro rf pl ot cl hi F (rf_num nw w n 1 99)  s.heap.size) (cwV 1 hts gX5_nearest_X5_refuse rfl rfl rfl (by decide +kernel) ⟨Nat.le_of_ble_eq_true rfl, Nat.le_of_ble_eq_true rfl⟩) hK hN hP hD hS hA 0 5 rfl rfl rfl [0, 1] [2, 3] rfl (by decide) rfl (by decide) (by decide) rfl hl.1 rfl (Nat.le_of_ble_eq_true rfl) dX5_nearest_19 ⟨Nat.zero_le _, Nat.zero_le _⟩ (fun r_19 u H locs hw hP hD hS => ?_)
    obtain ⟨F_19, rfl⟩ : ∃ z, z = u := ⟨_, rfl⟩
    try dsimp only at hw
    obtain ⟨q1_19, q2_19⟩ := hw
    have q1_19 := q1_19.symm
    subst q1_19
    have q2_19 := q2_19.symm
    subst q2_19
    have hP : va_P D vwCl [(x, .inr (5, [.ref r, .ref t, .ref im, .int hi, .ref tx, .ref ch, .ref ro, .ref rf, .ref pl, .ref ot, .ref cl])), (rf, .inl (cI, 6, .inl (rf_bump F (rf_num nw w n 1 99)))), (r, .inr (1, [.int q, .int nw, .ref rn])), (rn, .inl (cI, 20, .inl v))] H := hP.sub [2, 3, 0, 1] rfl
    have hD : va_D A [(x, .inr (5, [.ref r, .ref t, .ref im, .int hi, .ref tx, .ref ch, .ref ro, .ref rf, .ref pl, .ref ot, .ref cl])), (rf, .inl (cI, 6, .inl (rf_bump F (rf_num nw w n 1 99)))), (r, .inr (1, [.int q, .int nw, .ref rn])), (rn, .inl (cI, 20, .inl v))] := hD.sub [2, 3, 0, 1] (by decide) rfl
    exact wrI (w1 := (fun (u : (Nat → Int32)) => [(x, .inr (5, [.ref r, .ref t, .ref im, .int hi, .ref tx, .ref ch, .ref ro, .ref rf, .ref pl, .ref ot, .ref cl])), (rf, .inl (cI, 6, .inl u)), (r, .inr (1, [.int q, .int nw, .ref rn])), (rn, .inl (cI, 20, .inl v))])) (rf_bump F (rf_num nw w n 1 99)) hx hb hr hlocks dX5_nearest_22 hS (hP.sub [0, 1, 2, 3] rfl) (hD.sub [0, 1, 2, 3] (by decide) rfl) (by have e9 : rf_nea nw w n k = rf_num nw w n 1 99 := (by unfold rf_nea; rw [if_neg c_13]); rw [e9, if_neg c_13, if_neg c_13]; exact ⟨rfl, rfl⟩)

set_option maxHeartbeats 4000000 in
set_option maxRecDepth 100000 in
theorem c_X6_nearest (l : Launch) (D : va_G) (cI cZ cR : ClassId) (y yr yw yc yl ys yp ym yo yk yt yi yz yx yu : Nat) (mq mn mc me md mz km kr : Int32) (G : Nat → Int32) (v : Nat → Int32) (w n k : Int32) (hq : okQ mq) (hmn : 0 ≤ mn) (hm5 : mn ≤ 5) (hws : ∀ w, 0 ≤ w ∧ w < mn → okW mq v w) (sz : Nat) : Met l yX6_nearest wsX6_nearest ({ frames := 2, cells := 0, slots := 0, locals := 46 }) (PcW D cI cZ cR [.ref y, .int w, .int n, .int k] [(y, .inr (6, [.ref yr, .int mq, .int mn, .ref yw, .ref yc, .int mc, .ref yl, .int me, .ref ys, .ref yp, .ref ym, .int md, .ref yo, .ref yk, .ref yt, .int mz, .ref yi, .ref yz, .ref yx, .ref yu, .int km, .int kr])), (yr, .inl (cI, 7, .inl G)), (yw, .inl (cI, 20, .inl v))] sz) (va_Qi (fun (res : Int32) (u : (Nat → Int32)) => res = (if rf_nea mn w n k = 0 then neaA mq.toNatClampNeg (rg_val v w 1).toNatClampNeg n.toNatClampNeg k else rf_nea mn w n k) ∧ u = (if rf_nea mn w n k = 0 then G else md_bump G (rf_nea mn w n k))) (Bw D (fun (u : (Nat → Int32)) => [(y, .inr (6, [.ref yr, .int mq, .int mn, .ref yw, .ref yc, .int mc, .ref yl, .int me, .ref ys, .ref yp, .ref ym, .int md, .ref yo, .ref yk, .ref yt, .int mz, .ref yi, .ref yz, .ref yx, .ref yu, .int km, .int kr])), (yr, .inl (cI, 7, .inl u)), (yw, .inl (cI, 20, .inl v))]) (va_A [(y, .inr (6, [.ref yr, .int mq, .int mn, .ref yw, .ref yc, .int mc, .ref yl, .int me, .ref ys, .ref yp, .ref ym, .int md, .ref yo, .ref yk, .ref yt, .int mz, .ref yi, .ref yz, .ref yx, .ref yu, .int km, .int kr])), (yr, .inl (cI, 7, .inl G)), (yw, .inl (cI, 20, .inl v))] sz)) (va_A [(y, .inr (6, [.ref yr, .int mq, .int mn, .ref yw, .ref yc, .int mc, .ref yl, .int me, .ref ys, .ref yp, .ref ym, .int md, .ref yo, .ref yk, .ref yt, .int mz, .ref yi, .ref yz, .ref yx, .ref yu, .int km, .int kr])), (yr, .inl (cI, 7, .inl G)), (yw, .inl (cI, 20, .inl v))] sz)) 0 0 (va_A [(y, .inr (6, [.ref yr, .int mq, .int mn, .ref yw, .ref yc, .int mc, .ref yl, .int me, .ref ys, .ref yp, .ref ym, .int md, .ref yo, .ref yk, .ref yt, .int mz, .ref yi, .ref yz, .ref yx, .ref yu, .int km, .int kr])), (yr, .inl (cI, 7, .inl G)), (yw, .inl (cI, 20, .inl v))] sz) := by
  refine Met.ofW (cc := cX6_nearest) (maxL := 15) (ret := (some .int)) (by decide) rfl ?_
  intro p e s m args below meth c s₁ B hml hv
  obtain ⟨rfl, hsz, hP, hK, hD0, hN⟩ := hv
  have hx := B.exec
  have hb := B.bytes
  have hr := B.returns
  have hts := atoms_spec (ws := wsX6_nearest) B.pre
  have hown : s.vm.findClass RX6 = some m.cls := findClass_of_methodNamed B.named
  have hlocks := B.notSynchronized
  subst hsz
  have hD := hD0.self (sz := s.heap.size)
  generalize hAe : va_A [(y, .inr (6, [.ref yr, .int mq, .int mn, .ref yw, .ref yc, .int mc, .ref yl, .int me, .ref ys, .ref yp, .ref ym, .int md, .ref yo, .ref yk, .ref yt, .int mz, .ref yi, .ref yz, .ref yx, .ref yu, .int km, .int kr])), (yr, .inl (cI, 7, .inl G)), (yw, .inl (cI, 20, .inl v))] s.heap.size = A at hD ⊢
  have hA : ∀ q : Nat, s.heap.size ≤ q → A q := fun q h => by rw [← hAe]; exact Or.inr h
  have hS : va_S A s.heap s.heap [] := va_S.rf
  have hP : va_P D vwCl [(y, .inr (6, [.ref yr, .int mq, .int mn, .ref yw, .ref yc, .int mc, .ref yl, .int me, .ref ys, .ref yp, .ref ym, .int md, .ref yo, .ref yk, .ref yt, .int mz, .ref yi, .ref yz, .ref yx, .ref yu, .int km, .int kr])), (yr, .inl (cI, 7, .inl G)), (yw, .inl (cI, 20, .inl v))] s.heap := hP
  have hl := lv_entry ([.ref y, .int w, .int n, .int k]) (n := 15) (Nat.le_of_ble_eq_true rfl)
  rw [lg_entry_eq]
  generalize (lg_sl ([.ref y, .int w, .int n, .int k]) ++ List.replicate (15 - (lg_sl ([.ref y, .int w, .int n, .int k])).length) Slot.unset).toArray = ls at hl ⊢
  have hl : lv_has ls 15 [(0, .ref y), (1, .int w), (2, .int n), (3, .int k)] := hl
  refine lv_aload_n hx hb dX6_nearest_0 rfl (lv_at hl 0 rfl) ?_
  refine lv_iload_n hx hb dX6_nearest_1 rfl (lv_at hl 1 rfl) ?_
  refine rdV (As := [.int w]) (rest := []) ⟨hx, hb, hml, hown, hts⟩ (c_X6_isWalker l D cI cZ cR y yr yw yc yl ys yp ym yo yk yt yi yz yx yu mq mn mc me md mz km kr w hmn) (cwV 1 hts gX6_nearest_X6_isWalker rfl rfl rfl (by decide +kernel) ⟨Nat.le_of_ble_eq_true rfl, Nat.le_of_ble_eq_true rfl⟩) hK hN hP 0 6 rfl rfl rfl [0] rfl rfl hl.1 rfl (Nat.le_of_ble_eq_true rfl) dX6_nearest_2 ⟨Nat.zero_le _, Nat.zero_le _⟩ ?_
  refine lv_if_ne (tgt := 14) hx hb dX6_nearest_5 (by decide) (fun c_5 => ?_) (fun c_5 => ?_)
  · skip
    have c_5 := bi_ne0.mp c_5
    refine lv_iload_n hx hb dX6_nearest_14 rfl (lv_at hl 2 rfl) ?_
    refine lv_iconst (v := 1) hx hb dX6_nearest_15 (by decide) ?_
    refine lv_bipush (v := 99) hx hb dX6_nearest_16 (by decide) ?_
    refine rdS (As := [.int n, .int 1, .int 99]) (rest := []) ⟨hx, hb, hml, hown, hts⟩ (c_X6_range l D cI cZ cR n 1 99 ) (va_cwS 3 hts gX6_nearest_X6_range rfl rfl rfl (by decide +kernel) ⟨Nat.le_of_ble_eq_true rfl, Nat.le_of_ble_eq_true rfl⟩) hK hN hP [] rfl rfl hl.1 rfl (Nat.le_of_ble_eq_true rfl) dX6_nearest_18 ⟨Nat.zero_le _, Nat.zero_le _⟩ ?_
    refine lv_istore (lv' := [(4, .int (rng n 1 99)), (0, .ref y), (1, .int w), (2, .int n), (3, .int k)]) hx hb dX6_nearest_21 hl (by decide) rfl (fun ls hl => ?_)
    refine lv_iload hx hb dX6_nearest_23 (lv_at hl 0 rfl) ?_
    refine lv_if_eq (tgt := 35) hx hb dX6_nearest_25 (by decide) (fun c_25 => ?_) (fun c_25 => ?_)
    · skip
      refine lv_iload_n hx hb dX6_nearest_35 rfl (lv_at hl 4 rfl) ?_
      refine lv_i2l hx hb dX6_nearest_36 rfl ?_
      refine lv_lconst (v := 0) hx hb dX6_nearest_37 (by decide) ?_
      refine lv_lconst (v := 1) hx hb dX6_nearest_38 (by decide) ?_
      refine rdS (As := [.long k.toInt64, .long 0, .long 1]) (rest := []) ⟨hx, hb, hml, hown, hts⟩ (c_X6_in l D cI cZ cR k.toInt64 0 1 ) (va_cwS 3 hts gX6_nearest_X6_in rfl rfl rfl (by decide +kernel) ⟨Nat.le_of_ble_eq_true rfl, Nat.le_of_ble_eq_true rfl⟩) hK hN hP [] rfl rfl hl.1 rfl (Nat.le_of_ble_eq_true rfl) dX6_nearest_39 ⟨Nat.zero_le _, Nat.zero_le _⟩ ?_
      refine lv_if_ne (tgt := 52) hx hb dX6_nearest_42 (by decide) (fun c_42 => ?_) (fun c_42 => ?_)
      · skip
        have c_42 := bi_ne0.mp c_42
        have eR : rf_nea mn w n k = 0 := by unfold rf_nea; rw [rf_num_r c_5, if_pos c_25, if_pos ((md_w1 k).mp c_42)]
        have hn := n99 (rng_0 c_25)
        have hqN := okQ_N hq
        have hst := (hws w c_5).2.1
        have hst0 := hst.1
        have hsN := (f_N hq hst).2
        refine lv_aload_n hx hb dX6_nearest_52 rfl (lv_at hl 1 rfl) ?_
        refine lv_iload_n hx hb dX6_nearest_53 rfl (lv_at hl 2 rfl) ?_
        refine lv_iconst (v := 1) hx hb dX6_nearest_54 (by decide) ?_
        refine rdV (As := [.int w, .int 1]) (rest := []) ⟨hx, hb, hml, hown, hts⟩ (c_X6_at l D cI cZ cR y yr yw yc yl ys yp ym yo yk yt yi yz yx yu mq mn mc me md mz km kr v w 1 (w5 hm5 c_5) (by decide)) (cwV 2 hts gX6_nearest_X6_at rfl rfl rfl (by decide +kernel) ⟨Nat.le_of_ble_eq_true rfl, Nat.le_of_ble_eq_true rfl⟩) hK hN hP 0 6 rfl rfl rfl [0, 2] rfl rfl hl.1 rfl (Nat.le_of_ble_eq_true rfl) dX6_nearest_55 ⟨Nat.zero_le _, Nat.zero_le _⟩ ?_
        refine lv_i2l hx hb dX6_nearest_58 rfl ?_
        refine lv_topl (fun z_59 hz_59 => ?_)
        have hz_59 : (lN (rg_val v w 1).toNatClampNeg) = z_59 := (hz_59.trans (wideN hst0)).symm
        subst hz_59
        refine lv_lstore (lv' := [(5, .long (lN (rg_val v w 1).toNatClampNeg)), (4, .int (rng n 1 99)), (0, .ref y), (1, .int w), (2, .int n), (3, .int k)]) hx hb dX6_nearest_59 hl (by decide) rfl (fun ls hl => ?_)
        refine lv_ldc2 (v := (-1)) hx hb hown (hts (.constantLong RX6 190 (-1)) (by decide +kernel)) dX6_nearest_61 ?_
        refine lv_lstore (lv' := [(7, .long (-1)), (5, .long (lN (rg_val v w 1).toNatClampNeg)), (4, .int (rng n 1 99)), (0, .ref y), (1, .int w), (2, .int n), (3, .int k)]) hx hb dX6_nearest_64 hl (by decide) rfl (fun ls hl => ?_)
        refine lv_iconst (v := 0) hx hb dX6_nearest_66 (by decide) ?_
        refine lv_istore (lv' := [(9, .int 0), (7, .long (-1)), (5, .long (lN (rg_val v w 1).toNatClampNeg)), (4, .int (rng n 1 99)), (0, .ref y), (1, .int w), (2, .int n), (3, .int k)]) hx hb dX6_nearest_67 hl (by decide) rfl (fun ls hl => ?_)
        refine lv_iconst (v := 1) hx hb dX6_nearest_69 (by decide) ?_
        refine lv_istore (lv' := [(10, .int 1), (9, .int 0), (7, .long (-1)), (5, .long (lN (rg_val v w 1).toNatClampNeg)), (4, .int (rng n 1 99)), (0, .ref y), (1, .int w), (2, .int n), (3, .int k)]) hx hb dX6_nearest_70 hl (by decide) rfl (fun ls hl => ?_)
        refine lv_iconst (v := 1) hx hb dX6_nearest_72 (by decide) ?_
        refine lv_istore (lv' := [(11, .int 1), (10, .int 1), (9, .int 0), (7, .long (-1)), (5, .long (lN (rg_val v w 1).toNatClampNeg)), (4, .int (rng n 1 99)), (0, .ref y), (1, .int w), (2, .int n), (3, .int k)]) hx hb dX6_nearest_73 hl (by decide) rfl (fun ls hl => ?_)
        have loop_75 : ∀ (fuel : Nat), ∀ (t9 : Nat), ∀ (bo : Int64), (t9 ≤ n.toNatClampNeg) → (bo = lN (nD mq.toNatClampNeg (rg_val v w 1).toNatClampNeg (nB mq.toNatClampNeg (rg_val v w 1).toNatClampNeg t9).1 (nB mq.toNatClampNeg (rg_val v w 1).toNatClampNeg t9).2) ∨ (t9 = 0 ∧ bo = -1)) → (n.toNatClampNeg + 1 ≤ t9 + fuel) → ∀ (y9 : Int32), y9 = nI (nB mq.toNatClampNeg (rg_val v w 1).toNatClampNeg t9).1 → ∀ (y10 : Int32), y10 = nI (nB mq.toNatClampNeg (rg_val v w 1).toNatClampNeg t9).2 → ∀ (y11 : Int32), y11 = nI (t9 + 1) → ∀ (ls : Array Slot), lv_has ls 15 [(7, .long bo), (9, .int y9), (10, .int y10), (11, .int y11), (0, .ref y), (1, .int w), (2, .int n), (3, .int k), (4, .int (rng n 1 99)), (5, .long (lN (rg_val v w 1).toNatClampNeg))] → W p l e (headSpec wsX6_nearest ({ frames := 2, cells := 0, slots := 0, locals := 46 })).room s m ([.ref y, .int w, .int n, .int k] : List Value).toArray below meth c s.heap [] 0 0 (MQ below (va_Qi (fun (res : Int32) (u : (Nat → Int32)) => res = (if rf_nea mn w n k = 0 then neaA mq.toNatClampNeg (rg_val v w 1).toNatClampNeg n.toNatClampNeg k else rf_nea mn w n k) ∧ u = (if rf_nea mn w n k = 0 then G else md_bump G (rf_nea mn w n k))) (Bw D (fun (u : (Nat → Int32)) => [(y, .inr (6, [.ref yr, .int mq, .int mn, .ref yw, .ref yc, .int mc, .ref yl, .int me, .ref ys, .ref yp, .ref ym, .int md, .ref yo, .ref yk, .ref yt, .int mz, .ref yi, .ref yz, .ref yx, .ref yu, .int km, .int kr])), (yr, .inl (cI, 7, .inl u)), (yw, .inl (cI, 20, .inl v))]) A) A) ([.ref y, .int w, .int n, .int k] : List Value).toArray s 0 0 A) (F0 m 75 ls []) := by
          intro fuel
          induction fuel with
          | zero =>
            intro t9 bo ht9 hbo hfu
            exact False.elim (by omega)
          | succ fuel ih_75 =>
            intro t9 bo ht9 hbo hfu y9 ey9 y10 ey10 y11 ey11 ls hl
            subst ey9
            subst ey10
            subst ey11
            refine lv_iload hx hb dX6_nearest_75 (lv_at hl 3 rfl) ?_
            refine lv_iload_n hx hb dX6_nearest_77 rfl (lv_at hl 6 rfl) ?_
            refine lv_icmp_gt (tgt := 193) hx hb dX6_nearest_78 (by decide) (fun c_78 => ?_) (fun c_78 => ?_)
            · skip
              have hend : t9 = n.toNatClampNeg := by have h9 := c_78; rw [hn.2.2] at h9; have := (nI_ltI (by omega) (by omega)).mp h9; omega
              refine lv_iload_n hx hb dX6_nearest_193 rfl (lv_at hl 7 rfl) ?_
              refine lv_if_ne (tgt := 202) hx hb dX6_nearest_194 (by decide) (fun c_194 => ?_) (fun c_194 => ?_)
              · skip
                refine lv_iload hx hb dX6_nearest_202 (lv_at hl 2 rfl) ?_
                exact wrI (w1 := (fun (u : (Nat → Int32)) => [(y, .inr (6, [.ref yr, .int mq, .int mn, .ref yw, .ref yc, .int mc, .ref yl, .int me, .ref ys, .ref yp, .ref ym, .int md, .ref yo, .ref yk, .ref yt, .int mz, .ref yi, .ref yz, .ref yx, .ref yu, .int km, .int kr])), (yr, .inl (cI, 7, .inl u)), (yw, .inl (cI, 20, .inl v))])) G hx hb hr hlocks dX6_nearest_204 hS (hP.sub [0, 1, 2] rfl) (hD.sub [0, 1, 2] (by decide) rfl) (by rw [if_pos eR, if_pos eR]; refine ⟨?_, rfl⟩; unfold neaA; rw [if_neg c_194, hend])
              · skip
                refine lv_iload hx hb dX6_nearest_197 (lv_at hl 1 rfl) ?_
                refine lv_goto (tgt := 204) hx hb dX6_nearest_199 (by decide) ?_
                exact wrI (w1 := (fun (u : (Nat → Int32)) => [(y, .inr (6, [.ref yr, .int mq, .int mn, .ref yw, .ref yc, .int mc, .ref yl, .int me, .ref ys, .ref yp, .ref ym, .int md, .ref yo, .ref yk, .ref yt, .int mz, .ref yi, .ref yz, .ref yx, .ref yu, .int km, .int kr])), (yr, .inl (cI, 7, .inl u)), (yw, .inl (cI, 20, .inl v))])) G hx hb hr hlocks dX6_nearest_204 hS (hP.sub [0, 1, 2] rfl) (hD.sub [0, 1, 2] (by decide) rfl) (by rw [if_pos eR, if_pos eR]; refine ⟨?_, rfl⟩; unfold neaA; rw [if_pos c_194, hend])
            · skip
              have htN : t9 + 1 ≤ n.toNatClampNeg := by rcases Nat.lt_or_ge n.toNatClampNeg (t9 + 1) with q9 | q9; exact absurd (by rw [hn.2.2]; exact nI_lt q9 (by omega)) c_78; exact q9
              have hnb := nB_bd hsN t9 (by omega)
              have hnd := nB_dom hsN t9
              refine lv_iconst (v := 0) hx hb dX6_nearest_81 (by decide) ?_
              refine lv_istore (lv' := [(12, .int 0), (7, .long bo), (9, .int (nI (nB mq.toNatClampNeg (rg_val v w 1).toNatClampNeg t9).1)), (10, .int (nI (nB mq.toNatClampNeg (rg_val v w 1).toNatClampNeg t9).2)), (11, .int (nI (t9 + 1))), (0, .ref y), (1, .int w), (2, .int n), (3, .int k), (4, .int (rng n 1 99)), (5, .long (lN (rg_val v w 1).toNatClampNeg))]) hx hb dX6_nearest_82 hl (by decide) rfl (fun ls hl => ?_)
              have loop_84 : ∀ (fuel : Nat), ∀ (h9 : Nat), ∀ (bo2 : Int64), (h9 ≤ t9 + 1 + 1) → (bo2 = lN (nD mq.toNatClampNeg (rg_val v w 1).toNatClampNeg (nF mq.toNatClampNeg (rg_val v w 1).toNatClampNeg (nB mq.toNatClampNeg (rg_val v w 1).toNatClampNeg t9) (t9 + 1) 0 h9).1 (nF mq.toNatClampNeg (rg_val v w 1).toNatClampNeg (nB mq.toNatClampNeg (rg_val v w 1).toNatClampNeg t9) (t9 + 1) 0 h9).2) ∨ (t9 = 0 ∧ h9 = 0 ∧ bo2 = -1)) → (t9 + 3 ≤ h9 + fuel) → ∀ (y9 : Int32), y9 = nI (nF mq.toNatClampNeg (rg_val v w 1).toNatClampNeg (nB mq.toNatClampNeg (rg_val v w 1).toNatClampNeg t9) (t9 + 1) 0 h9).1 → ∀ (y10 : Int32), y10 = nI (nF mq.toNatClampNeg (rg_val v w 1).toNatClampNeg (nB mq.toNatClampNeg (rg_val v w 1).toNatClampNeg t9) (t9 + 1) 0 h9).2 → ∀ (y12 : Int32), y12 = nI h9 → ∀ (ls : Array Slot), lv_has ls 15 [(7, .long bo2), (9, .int y9), (10, .int y10), (12, .int y12), (0, .ref y), (1, .int w), (2, .int n), (3, .int k), (4, .int (rng n 1 99)), (5, .long (lN (rg_val v w 1).toNatClampNeg)), (11, .int (nI (t9 + 1)))] → W p l e (headSpec wsX6_nearest ({ frames := 2, cells := 0, slots := 0, locals := 46 })).room s m ([.ref y, .int w, .int n, .int k] : List Value).toArray below meth c s.heap [] 0 0 (MQ below (va_Qi (fun (res : Int32) (u : (Nat → Int32)) => res = (if rf_nea mn w n k = 0 then neaA mq.toNatClampNeg (rg_val v w 1).toNatClampNeg n.toNatClampNeg k else rf_nea mn w n k) ∧ u = (if rf_nea mn w n k = 0 then G else md_bump G (rf_nea mn w n k))) (Bw D (fun (u : (Nat → Int32)) => [(y, .inr (6, [.ref yr, .int mq, .int mn, .ref yw, .ref yc, .int mc, .ref yl, .int me, .ref ys, .ref yp, .ref ym, .int md, .ref yo, .ref yk, .ref yt, .int mz, .ref yi, .ref yz, .ref yx, .ref yu, .int km, .int kr])), (yr, .inl (cI, 7, .inl u)), (yw, .inl (cI, 20, .inl v))]) A) A) ([.ref y, .int w, .int n, .int k] : List Value).toArray s 0 0 A) (F0 m 84 ls []) := by
                intro fuel
                induction fuel with
                | zero =>
                  intro h9 bo2 hh9 hbo2 hfu2
                  exact False.elim (by omega)
                | succ fuel ih_84 =>
                  intro h9 bo2 hh9 hbo2 hfu2 y9 ey9 y10 ey10 y12 ey12 ls hl
                  subst ey9
                  subst ey10
                  subst ey12
                  refine lv_iload hx hb dX6_nearest_84 (lv_at hl 3 rfl) ?_
                  refine lv_iload hx hb dX6_nearest_86 (lv_at hl 10 rfl) ?_
                  refine lv_icmp_gt (tgt := 187) hx hb dX6_nearest_88 (by decide) (fun c_88 => ?_) (fun c_88 => ?_)
                  · skip
                    have hh2 : h9 = t9 + 1 + 1 := by have := (nI_ltI (by omega) (by omega)).mp c_88; omega
                    have hrow : (nF mq.toNatClampNeg (rg_val v w 1).toNatClampNeg (nB mq.toNatClampNeg (rg_val v w 1).toNatClampNeg t9) (t9 + 1) 0 h9) = nB mq.toNatClampNeg (rg_val v w 1).toNatClampNeg (t9 + 1) := by rw [hh2]; exact nF_row hsN hnd.2 (by omega)
                    have hbN : bo2 = lN (nD mq.toNatClampNeg (rg_val v w 1).toNatClampNeg (nF mq.toNatClampNeg (rg_val v w 1).toNatClampNeg (nB mq.toNatClampNeg (rg_val v w 1).toNatClampNeg t9) (t9 + 1) 0 h9).1 (nF mq.toNatClampNeg (rg_val v w 1).toNatClampNeg (nB mq.toNatClampNeg (rg_val v w 1).toNatClampNeg t9) (t9 + 1) 0 h9).2) := by rcases hbo2 with h8 | h8; exact h8; exact absurd h8.2.1 (by omega)
                    refine lv_iinc (v := (nI (t9 + 1)) + 1) (lv' := [(11, .int ((nI (t9 + 1)) + 1)), (7, .long bo2), (9, .int (nI (nF mq.toNatClampNeg (rg_val v w 1).toNatClampNeg (nB mq.toNatClampNeg (rg_val v w 1).toNatClampNeg t9) (t9 + 1) 0 h9).1)), (10, .int (nI (nF mq.toNatClampNeg (rg_val v w 1).toNatClampNeg (nB mq.toNatClampNeg (rg_val v w 1).toNatClampNeg t9) (t9 + 1) 0 h9).2)), (12, .int (nI h9)), (0, .ref y), (1, .int w), (2, .int n), (3, .int k), (4, .int (rng n 1 99)), (5, .long (lN (rg_val v w 1).toNatClampNeg))]) hx hb dX6_nearest_187 hl (k := 10) rfl (by rfl) (by decide) rfl (fun ls hl => ?_)
                    refine lv_goto (tgt := 75) hx hb dX6_nearest_190 (by decide) ?_
                    exact ih_75 (t9 + 1) bo2 (by omega) (Or.inl (by rw [← hrow]; exact hbN)) (by omega) _ (by rw [← hrow]) _ (by rw [← hrow]) _ (nI_1 _) ls (lv_sub hl [1, 2, 3, 0, 5, 6, 7, 8, 9, 10] rfl)
                  · skip
                    have hhN : h9 ≤ t9 + 1 := by rcases Nat.lt_or_ge (t9 + 1) h9 with q9 | q9; exact absurd (nI_lt q9 (by omega)) c_88; exact q9
                    have hfb := nF_bd (Q := mq.toNatClampNeg) (S := (rg_val v w 1).toNatClampNeg) (M := 99) (c := 0) hnb (show t9 + 1 ≤ 99 by omega) h9 (by omega)
                    have hdm := nF_dom (k := t9 + 1) (c := 0) (by omega) hnd.2 hnd.1 h9
                    have hof := lcm_0 (show mq.toNatClampNeg ≤ 2000 by omega) (show (rg_val v w 1).toNatClampNeg ≤ 2000 by omega) (show h9 ≤ 99 by omega) (show t9 + 1 ≤ 99 by omega)
                    have hD1 := nD_bd (show mq.toNatClampNeg ≤ 2000 by omega) (show (rg_val v w 1).toNatClampNeg ≤ 2000 by omega) (show h9 ≤ 99 by omega) (show t9 + 1 ≤ 99 by omega)
                    have hD2 := nD_bd (show mq.toNatClampNeg ≤ 2000 by omega) (show (rg_val v w 1).toNatClampNeg ≤ 2000 by omega) hfb.1 hfb.2
                    have hM1 := Nat.mul_le_mul hD1 hfb.2
                    have hM2 := Nat.mul_le_mul hD2 (show t9 + 1 ≤ 99 by omega)
                    refine lv_iload hx hb dX6_nearest_91 (lv_at hl 3 rfl) ?_
                    refine lv_i2l hx hb dX6_nearest_93 rfl ?_
                    refine lv_topl (fun z_94 hz_94 => ?_)
                    have hz_94 : (lN h9) = z_94 := (hz_94.trans (nI_l (by omega))).symm
                    subst hz_94
                    refine lv_iload hx hb dX6_nearest_94 (lv_at hl 10 rfl) ?_
                    refine lv_i2l hx hb dX6_nearest_96 rfl ?_
                    refine lv_topl (fun z_97 hz_97 => ?_)
                    have hz_97 : (lN (t9 + 1)) = z_97 := (hz_97.trans (nI_l (by omega))).symm
                    subst hz_97
                    refine rdS (As := [.long (lN h9), .long (lN (t9 + 1))]) (rest := []) ⟨hx, hb, hml, hown, hts⟩ (c_X6_common l D cI cZ cR h9 (t9 + 1) (by omega) (by omega)) (va_cwS 2 hts gX6_nearest_X6_common rfl rfl rfl (by decide +kernel) ⟨Nat.le_of_ble_eq_true rfl, Nat.le_of_ble_eq_true rfl⟩) hK hN hP [] rfl rfl hl.1 rfl (Nat.le_of_ble_eq_true rfl) dX6_nearest_97 ⟨Nat.zero_le _, Nat.zero_le _⟩ ?_
                    refine lv_lconst (v := 1) hx hb dX6_nearest_100 (by decide) ?_
                    refine W.lcmp hx hb dX6_nearest_101 ?_
                    refine lv_if_eq (tgt := 108) hx hb dX6_nearest_102 (by decide) (fun c_102 => ?_) (fun c_102 => ?_)
                    · skip
                      have c_102 := (lg_cmp_eq _ _).mp c_102
                      refine lv_iload hx hb dX6_nearest_108 (lv_at hl 3 rfl) ?_
                      refine lv_i2l hx hb dX6_nearest_110 rfl ?_
                      refine lv_topl (fun z_111 hz_111 => ?_)
                      have hz_111 : (lN h9) = z_111 := (hz_111.trans (nI_l (by omega))).symm
                      subst hz_111
                      refine lv_aload_n hx hb dX6_nearest_111 rfl (lv_at hl 4 rfl) ?_
                      refine va_get (D := D) (ci := 6) (v := .int mq) (C := RX6) (T := TX6) (N := 22) hx hb hts (in_X6_nearest_X6) hown hK hP 0 rfl rfl 1 (by decide) (hts (.fieldLink RX6 13 "StepsRoundCircleModel" "round" "I") (by decide +kernel)) (fun _ h9 => h9) rfl dX6_nearest_112 ?_
                      refine lv_i2l hx hb dX6_nearest_115 rfl ?_
                      refine lv_topl (fun z_116 hz_116 => ?_)
                      have hz_116 : (lN mq.toNatClampNeg) = z_116 := (hz_116.trans (wideN (okQ_0 hq))).symm
                      subst hz_116
                      refine lv_lmul hx hb dX6_nearest_116 ?_
                      refine lv_iload hx hb dX6_nearest_117 (lv_at hl 10 rfl) ?_
                      refine lv_i2l hx hb dX6_nearest_119 rfl ?_
                      refine lv_topl (fun z_120 hz_120 => ?_)
                      have hz_120 : (lN (t9 + 1)) = z_120 := (hz_120.trans (nI_l (by omega))).symm
                      subst hz_120
                      refine lv_lload hx hb dX6_nearest_120 (lv_at hl 9 rfl) ?_
                      refine lv_lmul hx hb dX6_nearest_122 ?_
                      refine lv_lsub hx hb dX6_nearest_123 ?_
                      refine lv_lstore (lv' := [(13, .long (((lN h9) * (lN mq.toNatClampNeg)) - ((lN (t9 + 1)) * (lN (rg_val v w 1).toNatClampNeg)))), (7, .long bo2), (9, .int (nI (nF mq.toNatClampNeg (rg_val v w 1).toNatClampNeg (nB mq.toNatClampNeg (rg_val v w 1).toNatClampNeg t9) (t9 + 1) 0 h9).1)), (10, .int (nI (nF mq.toNatClampNeg (rg_val v w 1).toNatClampNeg (nB mq.toNatClampNeg (rg_val v w 1).toNatClampNeg t9) (t9 + 1) 0 h9).2)), (12, .int (nI h9)), (0, .ref y), (1, .int w), (2, .int n), (3, .int k), (4, .int (rng n 1 99)), (5, .long (lN (rg_val v w 1).toNatClampNeg)), (11, .int (nI (t9 + 1)))]) hx hb dX6_nearest_124 hl (by decide) rfl (fun ls hl => ?_)
                      refine lv_lload hx hb dX6_nearest_126 (lv_at hl 0 rfl) ?_
                      refine lv_lconst (v := 0) hx hb dX6_nearest_128 (by decide) ?_
                      refine W.lcmp hx hb dX6_nearest_129 ?_
                      refine lv_if_ge (tgt := 139) hx hb dX6_nearest_130 (by decide) (fun c_130 => ?_) (fun c_130 => ?_)
                      · skip
                        have c_130 := (lg_cmp_ge _ _).mp c_130
                        refine lv_lload hx hb dX6_nearest_139 (lv_at hl 0 rfl) ?_
                        refine lv_topl (fun z_141 hz_141 => ?_)
                        have hz_141 : (lN (nD mq.toNatClampNeg (rg_val v w 1).toNatClampNeg h9 (t9 + 1))) = z_141 := (hz_141.trans (hof.1 c_130)).symm
                        subst hz_141
                        refine lv_lstore (lv' := [(13, .long (lN (nD mq.toNatClampNeg (rg_val v w 1).toNatClampNeg h9 (t9 + 1)))), (7, .long bo2), (9, .int (nI (nF mq.toNatClampNeg (rg_val v w 1).toNatClampNeg (nB mq.toNatClampNeg (rg_val v w 1).toNatClampNeg t9) (t9 + 1) 0 h9).1)), (10, .int (nI (nF mq.toNatClampNeg (rg_val v w 1).toNatClampNeg (nB mq.toNatClampNeg (rg_val v w 1).toNatClampNeg t9) (t9 + 1) 0 h9).2)), (12, .int (nI h9)), (0, .ref y), (1, .int w), (2, .int n), (3, .int k), (4, .int (rng n 1 99)), (5, .long (lN (rg_val v w 1).toNatClampNeg)), (11, .int (nI (t9 + 1)))]) hx hb dX6_nearest_141 hl (by decide) rfl (fun ls hl => ?_)
                        refine lv_lload hx hb dX6_nearest_143 (lv_at hl 1 rfl) ?_
                        refine lv_lconst (v := 0) hx hb dX6_nearest_145 (by decide) ?_
                        refine W.lcmp hx hb dX6_nearest_146 ?_
                        refine lv_if_lt (tgt := 169) hx hb dX6_nearest_147 (by decide) (fun c_147 => ?_) (fun c_147 => ?_)
                        · skip
                          have c_147 := (lg_cmp_lt _ _).mp c_147
                          have h147 : t9 = 0 ∧ h9 = 0 := by rcases hbo2 with h8 | h8; exact absurd c_147 (by rw [h8]; exact Int64.not_lt.mpr (lN_nn (by omega))); exact ⟨h8.1, h8.2.1⟩
                          refine lv_lload hx hb dX6_nearest_169 (lv_at hl 0 rfl) ?_
                          refine lv_lstore (lv' := [(7, .long (lN (nD mq.toNatClampNeg (rg_val v w 1).toNatClampNeg h9 (t9 + 1)))), (13, .long (lN (nD mq.toNatClampNeg (rg_val v w 1).toNatClampNeg h9 (t9 + 1)))), (9, .int (nI (nF mq.toNatClampNeg (rg_val v w 1).toNatClampNeg (nB mq.toNatClampNeg (rg_val v w 1).toNatClampNeg t9) (t9 + 1) 0 h9).1)), (10, .int (nI (nF mq.toNatClampNeg (rg_val v w 1).toNatClampNeg (nB mq.toNatClampNeg (rg_val v w 1).toNatClampNeg t9) (t9 + 1) 0 h9).2)), (12, .int (nI h9)), (0, .ref y), (1, .int w), (2, .int n), (3, .int k), (4, .int (rng n 1 99)), (5, .long (lN (rg_val v w 1).toNatClampNeg)), (11, .int (nI (t9 + 1)))]) hx hb dX6_nearest_171 hl (by decide) rfl (fun ls hl => ?_)
                          refine lv_iload hx hb dX6_nearest_173 (lv_at hl 4 rfl) ?_
                          refine lv_istore (lv' := [(9, .int (nI h9)), (7, .long (lN (nD mq.toNatClampNeg (rg_val v w 1).toNatClampNeg h9 (t9 + 1)))), (13, .long (lN (nD mq.toNatClampNeg (rg_val v w 1).toNatClampNeg h9 (t9 + 1)))), (10, .int (nI (nF mq.toNatClampNeg (rg_val v w 1).toNatClampNeg (nB mq.toNatClampNeg (rg_val v w 1).toNatClampNeg t9) (t9 + 1) 0 h9).2)), (12, .int (nI h9)), (0, .ref y), (1, .int w), (2, .int n), (3, .int k), (4, .int (rng n 1 99)), (5, .long (lN (rg_val v w 1).toNatClampNeg)), (11, .int (nI (t9 + 1)))]) hx hb dX6_nearest_175 hl (by decide) rfl (fun ls hl => ?_)
                          refine lv_iload hx hb dX6_nearest_177 (lv_at hl 11 rfl) ?_
                          refine lv_istore (lv' := [(10, .int (nI (t9 + 1))), (9, .int (nI h9)), (7, .long (lN (nD mq.toNatClampNeg (rg_val v w 1).toNatClampNeg h9 (t9 + 1)))), (13, .long (lN (nD mq.toNatClampNeg (rg_val v w 1).toNatClampNeg h9 (t9 + 1)))), (12, .int (nI h9)), (0, .ref y), (1, .int w), (2, .int n), (3, .int k), (4, .int (rng n 1 99)), (5, .long (lN (rg_val v w 1).toNatClampNeg)), (11, .int (nI (t9 + 1)))]) hx hb dX6_nearest_179 hl (by decide) rfl (fun ls hl => ?_)
                          refine lv_iinc (v := (nI h9) + 1) (lv' := [(12, .int ((nI h9) + 1)), (10, .int (nI (t9 + 1))), (9, .int (nI h9)), (7, .long (lN (nD mq.toNatClampNeg (rg_val v w 1).toNatClampNeg h9 (t9 + 1)))), (13, .long (lN (nD mq.toNatClampNeg (rg_val v w 1).toNatClampNeg h9 (t9 + 1)))), (0, .ref y), (1, .int w), (2, .int n), (3, .int k), (4, .int (rng n 1 99)), (5, .long (lN (rg_val v w 1).toNatClampNeg)), (11, .int (nI (t9 + 1)))]) hx hb dX6_nearest_181 hl (k := 4) rfl (by rfl) (by decide) rfl (fun ls hl => ?_)
                          refine lv_goto (tgt := 84) hx hb dX6_nearest_184 (by decide) ?_
                          exact ih_84 (h9 + 1) (lN (nD mq.toNatClampNeg (rg_val v w 1).toNatClampNeg h9 (t9 + 1))) (by omega) (Or.inl (by rw [h147.1, h147.2, nF_start] <;> rfl)) (by omega) _ (by rw [h147.1, h147.2, nF_start] <;> rfl) _ (by rw [h147.1, h147.2, nF_start] <;> rfl) _ (by first | rfl | exact nI_1 _ | exact nI_0.symm) ls (lv_sub hl [3, 2, 1, 0, 5, 6, 7, 8, 9, 10, 11] rfl)
                        · skip
                          have c_147 := mt (lg_cmp_lt _ _).mpr c_147
                          have h147 : bo2 = lN (nD mq.toNatClampNeg (rg_val v w 1).toNatClampNeg (nF mq.toNatClampNeg (rg_val v w 1).toNatClampNeg (nB mq.toNatClampNeg (rg_val v w 1).toNatClampNeg t9) (t9 + 1) 0 h9).1 (nF mq.toNatClampNeg (rg_val v w 1).toNatClampNeg (nB mq.toNatClampNeg (rg_val v w 1).toNatClampNeg t9) (t9 + 1) 0 h9).2) := by rcases hbo2 with h8 | h8; exact h8; exact absurd (by rw [h8.2.2]; decide) c_147
                          refine lv_lload hx hb dX6_nearest_150 (lv_at hl 0 rfl) ?_
                          refine lv_iload hx hb dX6_nearest_152 (lv_at hl 3 rfl) ?_
                          refine lv_i2l hx hb dX6_nearest_154 rfl ?_
                          refine lv_lmul hx hb dX6_nearest_155 ?_
                          refine lv_topl (fun z_156 hz_156 => ?_)
                          have hz_156 : (lN (nD mq.toNatClampNeg (rg_val v w 1).toNatClampNeg h9 (t9 + 1) * (nF mq.toNatClampNeg (rg_val v w 1).toNatClampNeg (nB mq.toNatClampNeg (rg_val v w 1).toNatClampNeg t9) (t9 + 1) 0 h9).2)) = z_156 := (hz_156.trans (by rw [nI_l (by omega), lN_mul])).symm
                          subst hz_156
                          refine lv_lload hx hb dX6_nearest_156 (lv_at hl 1 rfl) ?_
                          refine lv_iload hx hb dX6_nearest_158 (lv_at hl 11 rfl) ?_
                          refine lv_i2l hx hb dX6_nearest_160 rfl ?_
                          refine lv_lmul hx hb dX6_nearest_161 ?_
                          refine lv_topl (fun z_162 hz_162 => ?_)
                          have hz_162 : (lN (nD mq.toNatClampNeg (rg_val v w 1).toNatClampNeg (nF mq.toNatClampNeg (rg_val v w 1).toNatClampNeg (nB mq.toNatClampNeg (rg_val v w 1).toNatClampNeg t9) (t9 + 1) 0 h9).1 (nF mq.toNatClampNeg (rg_val v w 1).toNatClampNeg (nB mq.toNatClampNeg (rg_val v w 1).toNatClampNeg t9) (t9 + 1) 0 h9).2 * (t9 + 1))) = z_162 := (hz_162.trans (by rw [h147, nI_l (by omega), lN_mul])).symm
                          subst hz_162
                          refine W.lcmp hx hb dX6_nearest_162 ?_
                          refine lv_if_lt (tgt := 169) hx hb dX6_nearest_163 (by decide) (fun c_163 => ?_) (fun c_163 => ?_)
                          · skip
                            have c_163 := (lg_cmp_lt _ _).mp c_163
                            have hup : nD mq.toNatClampNeg (rg_val v w 1).toNatClampNeg h9 (t9 + 1) * (nF mq.toNatClampNeg (rg_val v w 1).toNatClampNeg (nB mq.toNatClampNeg (rg_val v w 1).toNatClampNeg t9) (t9 + 1) 0 h9).2 < nD mq.toNatClampNeg (rg_val v w 1).toNatClampNeg (nF mq.toNatClampNeg (rg_val v w 1).toNatClampNeg (nB mq.toNatClampNeg (rg_val v w 1).toNatClampNeg t9) (t9 + 1) 0 h9).1 (nF mq.toNatClampNeg (rg_val v w 1).toNatClampNeg (nB mq.toNatClampNeg (rg_val v w 1).toNatClampNeg t9) (t9 + 1) 0 h9).2 * (t9 + 1) := (pk_lLT (by omega) (by omega)).mp c_163
                            refine lv_lload hx hb dX6_nearest_169 (lv_at hl 0 rfl) ?_
                            refine lv_lstore (lv' := [(7, .long (lN (nD mq.toNatClampNeg (rg_val v w 1).toNatClampNeg h9 (t9 + 1)))), (13, .long (lN (nD mq.toNatClampNeg (rg_val v w 1).toNatClampNeg h9 (t9 + 1)))), (9, .int (nI (nF mq.toNatClampNeg (rg_val v w 1).toNatClampNeg (nB mq.toNatClampNeg (rg_val v w 1).toNatClampNeg t9) (t9 + 1) 0 h9).1)), (10, .int (nI (nF mq.toNatClampNeg (rg_val v w 1).toNatClampNeg (nB mq.toNatClampNeg (rg_val v w 1).toNatClampNeg t9) (t9 + 1) 0 h9).2)), (12, .int (nI h9)), (0, .ref y), (1, .int w), (2, .int n), (3, .int k), (4, .int (rng n 1 99)), (5, .long (lN (rg_val v w 1).toNatClampNeg)), (11, .int (nI (t9 + 1)))]) hx hb dX6_nearest_171 hl (by decide) rfl (fun ls hl => ?_)
                            refine lv_iload hx hb dX6_nearest_173 (lv_at hl 4 rfl) ?_
                            refine lv_istore (lv' := [(9, .int (nI h9)), (7, .long (lN (nD mq.toNatClampNeg (rg_val v w 1).toNatClampNeg h9 (t9 + 1)))), (13, .long (lN (nD mq.toNatClampNeg (rg_val v w 1).toNatClampNeg h9 (t9 + 1)))), (10, .int (nI (nF mq.toNatClampNeg (rg_val v w 1).toNatClampNeg (nB mq.toNatClampNeg (rg_val v w 1).toNatClampNeg t9) (t9 + 1) 0 h9).2)), (12, .int (nI h9)), (0, .ref y), (1, .int w), (2, .int n), (3, .int k), (4, .int (rng n 1 99)), (5, .long (lN (rg_val v w 1).toNatClampNeg)), (11, .int (nI (t9 + 1)))]) hx hb dX6_nearest_175 hl (by decide) rfl (fun ls hl => ?_)
                            refine lv_iload hx hb dX6_nearest_177 (lv_at hl 11 rfl) ?_
                            refine lv_istore (lv' := [(10, .int (nI (t9 + 1))), (9, .int (nI h9)), (7, .long (lN (nD mq.toNatClampNeg (rg_val v w 1).toNatClampNeg h9 (t9 + 1)))), (13, .long (lN (nD mq.toNatClampNeg (rg_val v w 1).toNatClampNeg h9 (t9 + 1)))), (12, .int (nI h9)), (0, .ref y), (1, .int w), (2, .int n), (3, .int k), (4, .int (rng n 1 99)), (5, .long (lN (rg_val v w 1).toNatClampNeg)), (11, .int (nI (t9 + 1)))]) hx hb dX6_nearest_179 hl (by decide) rfl (fun ls hl => ?_)
                            refine lv_iinc (v := (nI h9) + 1) (lv' := [(12, .int ((nI h9) + 1)), (10, .int (nI (t9 + 1))), (9, .int (nI h9)), (7, .long (lN (nD mq.toNatClampNeg (rg_val v w 1).toNatClampNeg h9 (t9 + 1)))), (13, .long (lN (nD mq.toNatClampNeg (rg_val v w 1).toNatClampNeg h9 (t9 + 1)))), (0, .ref y), (1, .int w), (2, .int n), (3, .int k), (4, .int (rng n 1 99)), (5, .long (lN (rg_val v w 1).toNatClampNeg)), (11, .int (nI (t9 + 1)))]) hx hb dX6_nearest_181 hl (k := 4) rfl (by rfl) (by decide) rfl (fun ls hl => ?_)
                            refine lv_goto (tgt := 84) hx hb dX6_nearest_184 (by decide) ?_
                            exact ih_84 (h9 + 1) (lN (nD mq.toNatClampNeg (rg_val v w 1).toNatClampNeg h9 (t9 + 1))) (by omega) (Or.inl (by rw [show nF mq.toNatClampNeg (rg_val v w 1).toNatClampNeg (nB mq.toNatClampNeg (rg_val v w 1).toNatClampNeg t9) (t9 + 1) 0 (h9 + 1) = nU mq.toNatClampNeg (rg_val v w 1).toNatClampNeg (nF mq.toNatClampNeg (rg_val v w 1).toNatClampNeg (nB mq.toNatClampNeg (rg_val v w 1).toNatClampNeg t9) (t9 + 1) 0 h9) (0 + h9) (t9 + 1) from rfl, Nat.zero_add, nU, if_pos hup])) (by omega) _ (by rw [show nF mq.toNatClampNeg (rg_val v w 1).toNatClampNeg (nB mq.toNatClampNeg (rg_val v w 1).toNatClampNeg t9) (t9 + 1) 0 (h9 + 1) = nU mq.toNatClampNeg (rg_val v w 1).toNatClampNeg (nF mq.toNatClampNeg (rg_val v w 1).toNatClampNeg (nB mq.toNatClampNeg (rg_val v w 1).toNatClampNeg t9) (t9 + 1) 0 h9) (0 + h9) (t9 + 1) from rfl, Nat.zero_add, nU, if_pos hup]) _ (by rw [show nF mq.toNatClampNeg (rg_val v w 1).toNatClampNeg (nB mq.toNatClampNeg (rg_val v w 1).toNatClampNeg t9) (t9 + 1) 0 (h9 + 1) = nU mq.toNatClampNeg (rg_val v w 1).toNatClampNeg (nF mq.toNatClampNeg (rg_val v w 1).toNatClampNeg (nB mq.toNatClampNeg (rg_val v w 1).toNatClampNeg t9) (t9 + 1) 0 h9) (0 + h9) (t9 + 1) from rfl, Nat.zero_add, nU, if_pos hup]) _ (by first | rfl | exact nI_1 _ | exact nI_0.symm) ls (lv_sub hl [3, 2, 1, 0, 5, 6, 7, 8, 9, 10, 11] rfl)
                          · skip
                            have c_163 := mt (lg_cmp_lt _ _).mpr c_163
                            have hup : ¬ nD mq.toNatClampNeg (rg_val v w 1).toNatClampNeg h9 (t9 + 1) * (nF mq.toNatClampNeg (rg_val v w 1).toNatClampNeg (nB mq.toNatClampNeg (rg_val v w 1).toNatClampNeg t9) (t9 + 1) 0 h9).2 < nD mq.toNatClampNeg (rg_val v w 1).toNatClampNeg (nF mq.toNatClampNeg (rg_val v w 1).toNatClampNeg (nB mq.toNatClampNeg (rg_val v w 1).toNatClampNeg t9) (t9 + 1) 0 h9).1 (nF mq.toNatClampNeg (rg_val v w 1).toNatClampNeg (nB mq.toNatClampNeg (rg_val v w 1).toNatClampNeg t9) (t9 + 1) 0 h9).2 * (t9 + 1) := fun z9 => c_163 ((pk_lLT (by omega) (by omega)).mpr z9)
                            refine lv_goto (tgt := 181) hx hb dX6_nearest_166 (by decide) ?_
                            refine lv_iinc (v := (nI h9) + 1) (lv' := [(12, .int ((nI h9) + 1)), (13, .long (lN (nD mq.toNatClampNeg (rg_val v w 1).toNatClampNeg h9 (t9 + 1)))), (7, .long bo2), (9, .int (nI (nF mq.toNatClampNeg (rg_val v w 1).toNatClampNeg (nB mq.toNatClampNeg (rg_val v w 1).toNatClampNeg t9) (t9 + 1) 0 h9).1)), (10, .int (nI (nF mq.toNatClampNeg (rg_val v w 1).toNatClampNeg (nB mq.toNatClampNeg (rg_val v w 1).toNatClampNeg t9) (t9 + 1) 0 h9).2)), (0, .ref y), (1, .int w), (2, .int n), (3, .int k), (4, .int (rng n 1 99)), (5, .long (lN (rg_val v w 1).toNatClampNeg)), (11, .int (nI (t9 + 1)))]) hx hb dX6_nearest_181 hl (k := 4) rfl (by rfl) (by decide) rfl (fun ls hl => ?_)
                            refine lv_goto (tgt := 84) hx hb dX6_nearest_184 (by decide) ?_
                            exact ih_84 (h9 + 1) bo2 (by omega) (Or.inl (by rw [show nF mq.toNatClampNeg (rg_val v w 1).toNatClampNeg (nB mq.toNatClampNeg (rg_val v w 1).toNatClampNeg t9) (t9 + 1) 0 (h9 + 1) = nU mq.toNatClampNeg (rg_val v w 1).toNatClampNeg (nF mq.toNatClampNeg (rg_val v w 1).toNatClampNeg (nB mq.toNatClampNeg (rg_val v w 1).toNatClampNeg t9) (t9 + 1) 0 h9) (0 + h9) (t9 + 1) from rfl, Nat.zero_add, nU, if_neg hup]; exact h147)) (by omega) _ (by rw [show nF mq.toNatClampNeg (rg_val v w 1).toNatClampNeg (nB mq.toNatClampNeg (rg_val v w 1).toNatClampNeg t9) (t9 + 1) 0 (h9 + 1) = nU mq.toNatClampNeg (rg_val v w 1).toNatClampNeg (nF mq.toNatClampNeg (rg_val v w 1).toNatClampNeg (nB mq.toNatClampNeg (rg_val v w 1).toNatClampNeg t9) (t9 + 1) 0 h9) (0 + h9) (t9 + 1) from rfl, Nat.zero_add, nU, if_neg hup]) _ (by rw [show nF mq.toNatClampNeg (rg_val v w 1).toNatClampNeg (nB mq.toNatClampNeg (rg_val v w 1).toNatClampNeg t9) (t9 + 1) 0 (h9 + 1) = nU mq.toNatClampNeg (rg_val v w 1).toNatClampNeg (nF mq.toNatClampNeg (rg_val v w 1).toNatClampNeg (nB mq.toNatClampNeg (rg_val v w 1).toNatClampNeg t9) (t9 + 1) 0 h9) (0 + h9) (t9 + 1) from rfl, Nat.zero_add, nU, if_neg hup]) _ (by first | rfl | exact nI_1 _ | exact nI_0.symm) ls (lv_sub hl [2, 3, 4, 0, 5, 6, 7, 8, 9, 10, 11] rfl)
                      · skip
                        have c_130 := mt (lg_cmp_ge _ _).mpr c_130
                        refine lv_lload hx hb dX6_nearest_133 (lv_at hl 0 rfl) ?_
                        refine lv_lneg hx hb dX6_nearest_135 ?_
                        refine lv_goto (tgt := 141) hx hb dX6_nearest_136 (by decide) ?_
                        refine lv_topl (fun z_141 hz_141 => ?_)
                        have hz_141 : (lN (nD mq.toNatClampNeg (rg_val v w 1).toNatClampNeg h9 (t9 + 1))) = z_141 := (hz_141.trans (hof.2 c_130)).symm
                        subst hz_141
                        refine lv_lstore (lv' := [(13, .long (lN (nD mq.toNatClampNeg (rg_val v w 1).toNatClampNeg h9 (t9 + 1)))), (7, .long bo2), (9, .int (nI (nF mq.toNatClampNeg (rg_val v w 1).toNatClampNeg (nB mq.toNatClampNeg (rg_val v w 1).toNatClampNeg t9) (t9 + 1) 0 h9).1)), (10, .int (nI (nF mq.toNatClampNeg (rg_val v w 1).toNatClampNeg (nB mq.toNatClampNeg (rg_val v w 1).toNatClampNeg t9) (t9 + 1) 0 h9).2)), (12, .int (nI h9)), (0, .ref y), (1, .int w), (2, .int n), (3, .int k), (4, .int (rng n 1 99)), (5, .long (lN (rg_val v w 1).toNatClampNeg)), (11, .int (nI (t9 + 1)))]) hx hb dX6_nearest_141 hl (by decide) rfl (fun ls hl => ?_)
                        refine lv_lload hx hb dX6_nearest_143 (lv_at hl 1 rfl) ?_
                        refine lv_lconst (v := 0) hx hb dX6_nearest_145 (by decide) ?_
                        refine W.lcmp hx hb dX6_nearest_146 ?_
                        refine lv_if_lt (tgt := 169) hx hb dX6_nearest_147 (by decide) (fun c_147 => ?_) (fun c_147 => ?_)
                        · skip
                          have c_147 := (lg_cmp_lt _ _).mp c_147
                          have h147 : t9 = 0 ∧ h9 = 0 := by rcases hbo2 with h8 | h8; exact absurd c_147 (by rw [h8]; exact Int64.not_lt.mpr (lN_nn (by omega))); exact ⟨h8.1, h8.2.1⟩
                          refine lv_lload hx hb dX6_nearest_169 (lv_at hl 0 rfl) ?_
                          refine lv_lstore (lv' := [(7, .long (lN (nD mq.toNatClampNeg (rg_val v w 1).toNatClampNeg h9 (t9 + 1)))), (13, .long (lN (nD mq.toNatClampNeg (rg_val v w 1).toNatClampNeg h9 (t9 + 1)))), (9, .int (nI (nF mq.toNatClampNeg (rg_val v w 1).toNatClampNeg (nB mq.toNatClampNeg (rg_val v w 1).toNatClampNeg t9) (t9 + 1) 0 h9).1)), (10, .int (nI (nF mq.toNatClampNeg (rg_val v w 1).toNatClampNeg (nB mq.toNatClampNeg (rg_val v w 1).toNatClampNeg t9) (t9 + 1) 0 h9).2)), (12, .int (nI h9)), (0, .ref y), (1, .int w), (2, .int n), (3, .int k), (4, .int (rng n 1 99)), (5, .long (lN (rg_val v w 1).toNatClampNeg)), (11, .int (nI (t9 + 1)))]) hx hb dX6_nearest_171 hl (by decide) rfl (fun ls hl => ?_)
                          refine lv_iload hx hb dX6_nearest_173 (lv_at hl 4 rfl) ?_
                          refine lv_istore (lv' := [(9, .int (nI h9)), (7, .long (lN (nD mq.toNatClampNeg (rg_val v w 1).toNatClampNeg h9 (t9 + 1)))), (13, .long (lN (nD mq.toNatClampNeg (rg_val v w 1).toNatClampNeg h9 (t9 + 1)))), (10, .int (nI (nF mq.toNatClampNeg (rg_val v w 1).toNatClampNeg (nB mq.toNatClampNeg (rg_val v w 1).toNatClampNeg t9) (t9 + 1) 0 h9).2)), (12, .int (nI h9)), (0, .ref y), (1, .int w), (2, .int n), (3, .int k), (4, .int (rng n 1 99)), (5, .long (lN (rg_val v w 1).toNatClampNeg)), (11, .int (nI (t9 + 1)))]) hx hb dX6_nearest_175 hl (by decide) rfl (fun ls hl => ?_)
                          refine lv_iload hx hb dX6_nearest_177 (lv_at hl 11 rfl) ?_
                          refine lv_istore (lv' := [(10, .int (nI (t9 + 1))), (9, .int (nI h9)), (7, .long (lN (nD mq.toNatClampNeg (rg_val v w 1).toNatClampNeg h9 (t9 + 1)))), (13, .long (lN (nD mq.toNatClampNeg (rg_val v w 1).toNatClampNeg h9 (t9 + 1)))), (12, .int (nI h9)), (0, .ref y), (1, .int w), (2, .int n), (3, .int k), (4, .int (rng n 1 99)), (5, .long (lN (rg_val v w 1).toNatClampNeg)), (11, .int (nI (t9 + 1)))]) hx hb dX6_nearest_179 hl (by decide) rfl (fun ls hl => ?_)
                          refine lv_iinc (v := (nI h9) + 1) (lv' := [(12, .int ((nI h9) + 1)), (10, .int (nI (t9 + 1))), (9, .int (nI h9)), (7, .long (lN (nD mq.toNatClampNeg (rg_val v w 1).toNatClampNeg h9 (t9 + 1)))), (13, .long (lN (nD mq.toNatClampNeg (rg_val v w 1).toNatClampNeg h9 (t9 + 1)))), (0, .ref y), (1, .int w), (2, .int n), (3, .int k), (4, .int (rng n 1 99)), (5, .long (lN (rg_val v w 1).toNatClampNeg)), (11, .int (nI (t9 + 1)))]) hx hb dX6_nearest_181 hl (k := 4) rfl (by rfl) (by decide) rfl (fun ls hl => ?_)
                          refine lv_goto (tgt := 84) hx hb dX6_nearest_184 (by decide) ?_
                          exact ih_84 (h9 + 1) (lN (nD mq.toNatClampNeg (rg_val v w 1).toNatClampNeg h9 (t9 + 1))) (by omega) (Or.inl (by rw [h147.1, h147.2, nF_start] <;> rfl)) (by omega) _ (by rw [h147.1, h147.2, nF_start] <;> rfl) _ (by rw [h147.1, h147.2, nF_start] <;> rfl) _ (by first | rfl | exact nI_1 _ | exact nI_0.symm) ls (lv_sub hl [3, 2, 1, 0, 5, 6, 7, 8, 9, 10, 11] rfl)
                        · skip
                          have c_147 := mt (lg_cmp_lt _ _).mpr c_147
                          have h147 : bo2 = lN (nD mq.toNatClampNeg (rg_val v w 1).toNatClampNeg (nF mq.toNatClampNeg (rg_val v w 1).toNatClampNeg (nB mq.toNatClampNeg (rg_val v w 1).toNatClampNeg t9) (t9 + 1) 0 h9).1 (nF mq.toNatClampNeg (rg_val v w 1).toNatClampNeg (nB mq.toNatClampNeg (rg_val v w 1).toNatClampNeg t9) (t9 + 1) 0 h9).2) := by rcases hbo2 with h8 | h8; exact h8; exact absurd (by rw [h8.2.2]; decide) c_147
                          refine lv_lload hx hb dX6_nearest_150 (lv_at hl 0 rfl) ?_
                          refine lv_iload hx hb dX6_nearest_152 (lv_at hl 3 rfl) ?_
                          refine lv_i2l hx hb dX6_nearest_154 rfl ?_
                          refine lv_lmul hx hb dX6_nearest_155 ?_
                          refine lv_topl (fun z_156 hz_156 => ?_)
                          have hz_156 : (lN (nD mq.toNatClampNeg (rg_val v w 1).toNatClampNeg h9 (t9 + 1) * (nF mq.toNatClampNeg (rg_val v w 1).toNatClampNeg (nB mq.toNatClampNeg (rg_val v w 1).toNatClampNeg t9) (t9 + 1) 0 h9).2)) = z_156 := (hz_156.trans (by rw [nI_l (by omega), lN_mul])).symm
                          subst hz_156
                          refine lv_lload hx hb dX6_nearest_156 (lv_at hl 1 rfl) ?_
                          refine lv_iload hx hb dX6_nearest_158 (lv_at hl 11 rfl) ?_
                          refine lv_i2l hx hb dX6_nearest_160 rfl ?_
                          refine lv_lmul hx hb dX6_nearest_161 ?_
                          refine lv_topl (fun z_162 hz_162 => ?_)
                          have hz_162 : (lN (nD mq.toNatClampNeg (rg_val v w 1).toNatClampNeg (nF mq.toNatClampNeg (rg_val v w 1).toNatClampNeg (nB mq.toNatClampNeg (rg_val v w 1).toNatClampNeg t9) (t9 + 1) 0 h9).1 (nF mq.toNatClampNeg (rg_val v w 1).toNatClampNeg (nB mq.toNatClampNeg (rg_val v w 1).toNatClampNeg t9) (t9 + 1) 0 h9).2 * (t9 + 1))) = z_162 := (hz_162.trans (by rw [h147, nI_l (by omega), lN_mul])).symm
                          subst hz_162
                          refine W.lcmp hx hb dX6_nearest_162 ?_
                          refine lv_if_lt (tgt := 169) hx hb dX6_nearest_163 (by decide) (fun c_163 => ?_) (fun c_163 => ?_)
                          · skip
                            have c_163 := (lg_cmp_lt _ _).mp c_163
                            have hup : nD mq.toNatClampNeg (rg_val v w 1).toNatClampNeg h9 (t9 + 1) * (nF mq.toNatClampNeg (rg_val v w 1).toNatClampNeg (nB mq.toNatClampNeg (rg_val v w 1).toNatClampNeg t9) (t9 + 1) 0 h9).2 < nD mq.toNatClampNeg (rg_val v w 1).toNatClampNeg (nF mq.toNatClampNeg (rg_val v w 1).toNatClampNeg (nB mq.toNatClampNeg (rg_val v w 1).toNatClampNeg t9) (t9 + 1) 0 h9).1 (nF mq.toNatClampNeg (rg_val v w 1).toNatClampNeg (nB mq.toNatClampNeg (rg_val v w 1).toNatClampNeg t9) (t9 + 1) 0 h9).2 * (t9 + 1) := (pk_lLT (by omega) (by omega)).mp c_163
                            refine lv_lload hx hb dX6_nearest_169 (lv_at hl 0 rfl) ?_
                            refine lv_lstore (lv' := [(7, .long (lN (nD mq.toNatClampNeg (rg_val v w 1).toNatClampNeg h9 (t9 + 1)))), (13, .long (lN (nD mq.toNatClampNeg (rg_val v w 1).toNatClampNeg h9 (t9 + 1)))), (9, .int (nI (nF mq.toNatClampNeg (rg_val v w 1).toNatClampNeg (nB mq.toNatClampNeg (rg_val v w 1).toNatClampNeg t9) (t9 + 1) 0 h9).1)), (10, .int (nI (nF mq.toNatClampNeg (rg_val v w 1).toNatClampNeg (nB mq.toNatClampNeg (rg_val v w 1).toNatClampNeg t9) (t9 + 1) 0 h9).2)), (12, .int (nI h9)), (0, .ref y), (1, .int w), (2, .int n), (3, .int k), (4, .int (rng n 1 99)), (5, .long (lN (rg_val v w 1).toNatClampNeg)), (11, .int (nI (t9 + 1)))]) hx hb dX6_nearest_171 hl (by decide) rfl (fun ls hl => ?_)
                            refine lv_iload hx hb dX6_nearest_173 (lv_at hl 4 rfl) ?_
                            refine lv_istore (lv' := [(9, .int (nI h9)), (7, .long (lN (nD mq.toNatClampNeg (rg_val v w 1).toNatClampNeg h9 (t9 + 1)))), (13, .long (lN (nD mq.toNatClampNeg (rg_val v w 1).toNatClampNeg h9 (t9 + 1)))), (10, .int (nI (nF mq.toNatClampNeg (rg_val v w 1).toNatClampNeg (nB mq.toNatClampNeg (rg_val v w 1).toNatClampNeg t9) (t9 + 1) 0 h9).2)), (12, .int (nI h9)), (0, .ref y), (1, .int w), (2, .int n), (3, .int k), (4, .int (rng n 1 99)), (5, .long (lN (rg_val v w 1).toNatClampNeg)), (11, .int (nI (t9 + 1)))]) hx hb dX6_nearest_175 hl (by decide) rfl (fun ls hl => ?_)
                            refine lv_iload hx hb dX6_nearest_177 (lv_at hl 11 rfl) ?_
                            refine lv_istore (lv' := [(10, .int (nI (t9 + 1))), (9, .int (nI h9)), (7, .long (lN (nD mq.toNatClampNeg (rg_val v w 1).toNatClampNeg h9 (t9 + 1)))), (13, .long (lN (nD mq.toNatClampNeg (rg_val v w 1).toNatClampNeg h9 (t9 + 1)))), (12, .int (nI h9)), (0, .ref y), (1, .int w), (2, .int n), (3, .int k), (4, .int (rng n 1 99)), (5, .long (lN (rg_val v w 1).toNatClampNeg)), (11, .int (nI (t9 + 1)))]) hx hb dX6_nearest_179 hl (by decide) rfl (fun ls hl => ?_)
                            refine lv_iinc (v := (nI h9) + 1) (lv' := [(12, .int ((nI h9) + 1)), (10, .int (nI (t9 + 1))), (9, .int (nI h9)), (7, .long (lN (nD mq.toNatClampNeg (rg_val v w 1).toNatClampNeg h9 (t9 + 1)))), (13, .long (lN (nD mq.toNatClampNeg (rg_val v w 1).toNatClampNeg h9 (t9 + 1)))), (0, .ref y), (1, .int w), (2, .int n), (3, .int k), (4, .int (rng n 1 99)), (5, .long (lN (rg_val v w 1).toNatClampNeg)), (11, .int (nI (t9 + 1)))]) hx hb dX6_nearest_181 hl (k := 4) rfl (by rfl) (by decide) rfl (fun ls hl => ?_)
                            refine lv_goto (tgt := 84) hx hb dX6_nearest_184 (by decide) ?_
                            exact ih_84 (h9 + 1) (lN (nD mq.toNatClampNeg (rg_val v w 1).toNatClampNeg h9 (t9 + 1))) (by omega) (Or.inl (by rw [show nF mq.toNatClampNeg (rg_val v w 1).toNatClampNeg (nB mq.toNatClampNeg (rg_val v w 1).toNatClampNeg t9) (t9 + 1) 0 (h9 + 1) = nU mq.toNatClampNeg (rg_val v w 1).toNatClampNeg (nF mq.toNatClampNeg (rg_val v w 1).toNatClampNeg (nB mq.toNatClampNeg (rg_val v w 1).toNatClampNeg t9) (t9 + 1) 0 h9) (0 + h9) (t9 + 1) from rfl, Nat.zero_add, nU, if_pos hup])) (by omega) _ (by rw [show nF mq.toNatClampNeg (rg_val v w 1).toNatClampNeg (nB mq.toNatClampNeg (rg_val v w 1).toNatClampNeg t9) (t9 + 1) 0 (h9 + 1) = nU mq.toNatClampNeg (rg_val v w 1).toNatClampNeg (nF mq.toNatClampNeg (rg_val v w 1).toNatClampNeg (nB mq.toNatClampNeg (rg_val v w 1).toNatClampNeg t9) (t9 + 1) 0 h9) (0 + h9) (t9 + 1) from rfl, Nat.zero_add, nU, if_pos hup]) _ (by rw [show nF mq.toNatClampNeg (rg_val v w 1).toNatClampNeg (nB mq.toNatClampNeg (rg_val v w 1).toNatClampNeg t9) (t9 + 1) 0 (h9 + 1) = nU mq.toNatClampNeg (rg_val v w 1).toNatClampNeg (nF mq.toNatClampNeg (rg_val v w 1).toNatClampNeg (nB mq.toNatClampNeg (rg_val v w 1).toNatClampNeg t9) (t9 + 1) 0 h9) (0 + h9) (t9 + 1) from rfl, Nat.zero_add, nU, if_pos hup]) _ (by first | rfl | exact nI_1 _ | exact nI_0.symm) ls (lv_sub hl [3, 2, 1, 0, 5, 6, 7, 8, 9, 10, 11] rfl)
                          · skip
                            have c_163 := mt (lg_cmp_lt _ _).mpr c_163
                            have hup : ¬ nD mq.toNatClampNeg (rg_val v w 1).toNatClampNeg h9 (t9 + 1) * (nF mq.toNatClampNeg (rg_val v w 1).toNatClampNeg (nB mq.toNatClampNeg (rg_val v w 1).toNatClampNeg t9) (t9 + 1) 0 h9).2 < nD mq.toNatClampNeg (rg_val v w 1).toNatClampNeg (nF mq.toNatClampNeg (rg_val v w 1).toNatClampNeg (nB mq.toNatClampNeg (rg_val v w 1).toNatClampNeg t9) (t9 + 1) 0 h9).1 (nF mq.toNatClampNeg (rg_val v w 1).toNatClampNeg (nB mq.toNatClampNeg (rg_val v w 1).toNatClampNeg t9) (t9 + 1) 0 h9).2 * (t9 + 1) := fun z9 => c_163 ((pk_lLT (by omega) (by omega)).mpr z9)
                            refine lv_goto (tgt := 181) hx hb dX6_nearest_166 (by decide) ?_
                            refine lv_iinc (v := (nI h9) + 1) (lv' := [(12, .int ((nI h9) + 1)), (13, .long (lN (nD mq.toNatClampNeg (rg_val v w 1).toNatClampNeg h9 (t9 + 1)))), (7, .long bo2), (9, .int (nI (nF mq.toNatClampNeg (rg_val v w 1).toNatClampNeg (nB mq.toNatClampNeg (rg_val v w 1).toNatClampNeg t9) (t9 + 1) 0 h9).1)), (10, .int (nI (nF mq.toNatClampNeg (rg_val v w 1).toNatClampNeg (nB mq.toNatClampNeg (rg_val v w 1).toNatClampNeg t9) (t9 + 1) 0 h9).2)), (0, .ref y), (1, .int w), (2, .int n), (3, .int k), (4, .int (rng n 1 99)), (5, .long (lN (rg_val v w 1).toNatClampNeg)), (11, .int (nI (t9 + 1)))]) hx hb dX6_nearest_181 hl (k := 4) rfl (by rfl) (by decide) rfl (fun ls hl => ?_)
                            refine lv_goto (tgt := 84) hx hb dX6_nearest_184 (by decide) ?_
                            exact ih_84 (h9 + 1) bo2 (by omega) (Or.inl (by rw [show nF mq.toNatClampNeg (rg_val v w 1).toNatClampNeg (nB mq.toNatClampNeg (rg_val v w 1).toNatClampNeg t9) (t9 + 1) 0 (h9 + 1) = nU mq.toNatClampNeg (rg_val v w 1).toNatClampNeg (nF mq.toNatClampNeg (rg_val v w 1).toNatClampNeg (nB mq.toNatClampNeg (rg_val v w 1).toNatClampNeg t9) (t9 + 1) 0 h9) (0 + h9) (t9 + 1) from rfl, Nat.zero_add, nU, if_neg hup]; exact h147)) (by omega) _ (by rw [show nF mq.toNatClampNeg (rg_val v w 1).toNatClampNeg (nB mq.toNatClampNeg (rg_val v w 1).toNatClampNeg t9) (t9 + 1) 0 (h9 + 1) = nU mq.toNatClampNeg (rg_val v w 1).toNatClampNeg (nF mq.toNatClampNeg (rg_val v w 1).toNatClampNeg (nB mq.toNatClampNeg (rg_val v w 1).toNatClampNeg t9) (t9 + 1) 0 h9) (0 + h9) (t9 + 1) from rfl, Nat.zero_add, nU, if_neg hup]) _ (by rw [show nF mq.toNatClampNeg (rg_val v w 1).toNatClampNeg (nB mq.toNatClampNeg (rg_val v w 1).toNatClampNeg t9) (t9 + 1) 0 (h9 + 1) = nU mq.toNatClampNeg (rg_val v w 1).toNatClampNeg (nF mq.toNatClampNeg (rg_val v w 1).toNatClampNeg (nB mq.toNatClampNeg (rg_val v w 1).toNatClampNeg t9) (t9 + 1) 0 h9) (0 + h9) (t9 + 1) from rfl, Nat.zero_add, nU, if_neg hup]) _ (by first | rfl | exact nI_1 _ | exact nI_0.symm) ls (lv_sub hl [2, 3, 4, 0, 5, 6, 7, 8, 9, 10, 11] rfl)
                    · skip
                      have c_102 := mt (lg_cmp_eq _ _).mpr c_102
                      have hgc : ¬ Nat.gcd h9 (t9 + 1) = 1 := fun z9 => c_102 (by rw [z9]; rfl)
                      have hbN : bo2 = lN (nD mq.toNatClampNeg (rg_val v w 1).toNatClampNeg (nF mq.toNatClampNeg (rg_val v w 1).toNatClampNeg (nB mq.toNatClampNeg (rg_val v w 1).toNatClampNeg t9) (t9 + 1) 0 h9).1 (nF mq.toNatClampNeg (rg_val v w 1).toNatClampNeg (nB mq.toNatClampNeg (rg_val v w 1).toNatClampNeg t9) (t9 + 1) 0 h9).2) := by rcases hbo2 with h8 | h8; exact h8; exact absurd (by rw [h8.1, h8.2.1]; rfl) hgc
                      refine lv_goto (tgt := 181) hx hb dX6_nearest_105 (by decide) ?_
                      refine lv_iinc (v := (nI h9) + 1) (lv' := [(12, .int ((nI h9) + 1)), (7, .long bo2), (9, .int (nI (nF mq.toNatClampNeg (rg_val v w 1).toNatClampNeg (nB mq.toNatClampNeg (rg_val v w 1).toNatClampNeg t9) (t9 + 1) 0 h9).1)), (10, .int (nI (nF mq.toNatClampNeg (rg_val v w 1).toNatClampNeg (nB mq.toNatClampNeg (rg_val v w 1).toNatClampNeg t9) (t9 + 1) 0 h9).2)), (0, .ref y), (1, .int w), (2, .int n), (3, .int k), (4, .int (rng n 1 99)), (5, .long (lN (rg_val v w 1).toNatClampNeg)), (11, .int (nI (t9 + 1)))]) hx hb dX6_nearest_181 hl (k := 3) rfl (by rfl) (by decide) rfl (fun ls hl => ?_)
                      refine lv_goto (tgt := 84) hx hb dX6_nearest_184 (by decide) ?_
                      exact ih_84 (h9 + 1) bo2 (by omega) (Or.inl (by rw [show nF mq.toNatClampNeg (rg_val v w 1).toNatClampNeg (nB mq.toNatClampNeg (rg_val v w 1).toNatClampNeg t9) (t9 + 1) 0 (h9 + 1) = nU mq.toNatClampNeg (rg_val v w 1).toNatClampNeg (nF mq.toNatClampNeg (rg_val v w 1).toNatClampNeg (nB mq.toNatClampNeg (rg_val v w 1).toNatClampNeg t9) (t9 + 1) 0 h9) (0 + h9) (t9 + 1) from rfl, Nat.zero_add, nU_non hdm.1 hgc]; exact hbN)) (by omega) _ (by rw [show nF mq.toNatClampNeg (rg_val v w 1).toNatClampNeg (nB mq.toNatClampNeg (rg_val v w 1).toNatClampNeg t9) (t9 + 1) 0 (h9 + 1) = nU mq.toNatClampNeg (rg_val v w 1).toNatClampNeg (nF mq.toNatClampNeg (rg_val v w 1).toNatClampNeg (nB mq.toNatClampNeg (rg_val v w 1).toNatClampNeg t9) (t9 + 1) 0 h9) (0 + h9) (t9 + 1) from rfl, Nat.zero_add, nU_non hdm.1 hgc]) _ (by rw [show nF mq.toNatClampNeg (rg_val v w 1).toNatClampNeg (nB mq.toNatClampNeg (rg_val v w 1).toNatClampNeg t9) (t9 + 1) 0 (h9 + 1) = nU mq.toNatClampNeg (rg_val v w 1).toNatClampNeg (nF mq.toNatClampNeg (rg_val v w 1).toNatClampNeg (nB mq.toNatClampNeg (rg_val v w 1).toNatClampNeg t9) (t9 + 1) 0 h9) (0 + h9) (t9 + 1) from rfl, Nat.zero_add, nU_non hdm.1 hgc]) _ (by first | rfl | exact nI_1 _ | exact nI_0.symm) ls (lv_sub hl [1, 2, 3, 0, 4, 5, 6, 7, 8, 9, 10] rfl)
              exact loop_84 (t9 + 3) 0 bo (by omega) (hbo.elim (fun z9 => Or.inl z9) (fun z9 => Or.inr ⟨z9.1, rfl, z9.2⟩)) (by omega) _ rfl _ rfl _ (by first | rfl | exact nI_1 _ | exact nI_0.symm) ls (lv_sub hl [1, 2, 3, 0, 5, 6, 7, 8, 9, 10, 4] rfl)
        exact loop_75 (n.toNatClampNeg + 1) 0 (-1) (by omega) (Or.inr ⟨rfl, rfl⟩) (by omega) _ rfl _ rfl _ rfl ls (lv_sub hl [3, 2, 1, 0, 6, 7, 8, 9, 5, 4] rfl)
      · skip
        have c_42 := bi_eq0.mp c_42
        refine lv_aload_n hx hb dX6_nearest_45 rfl (lv_at hl 1 rfl) ?_
        refine lv_bipush (v := (-2)) hx hb dX6_nearest_46 (by decide) ?_
        refine wrVi (As := [.int (-2)]) (rest := []) (wr := [(yw, .inl (cI, 20, .inl v))]) (A := A) ⟨hx, hb, hml, hown, hts⟩ (c_X6_no l D cI cZ cR y yr yw yc yl ys yp ym yo yk yt yi yz yx yu mq mn mc me md mz km kr G (-2) (by decide) s.heap.size) (cwV 1 hts gX6_nearest_X6_no rfl rfl rfl (by decide +kernel) ⟨Nat.le_of_ble_eq_true rfl, Nat.le_of_ble_eq_true rfl⟩) hK hN hP hD hS hA 0 6 rfl rfl rfl [0, 1] [2] rfl (by decide) rfl (by decide) (by decide) rfl hl.1 rfl (Nat.le_of_ble_eq_true rfl) dX6_nearest_48 ⟨Nat.zero_le _, Nat.zero_le _⟩ (fun r_48 u H locs hw hP hD hS => ?_)
        obtain ⟨G_48, rfl⟩ : ∃ z, z = u := ⟨_, rfl⟩
        try dsimp only at hw
        obtain ⟨q1_48, q2_48⟩ := hw
        have q1_48 := q1_48.symm
        subst q1_48
        have q2_48 := q2_48.symm
        subst q2_48
        have hP : va_P D vwCl [(y, .inr (6, [.ref yr, .int mq, .int mn, .ref yw, .ref yc, .int mc, .ref yl, .int me, .ref ys, .ref yp, .ref ym, .int md, .ref yo, .ref yk, .ref yt, .int mz, .ref yi, .ref yz, .ref yx, .ref yu, .int km, .int kr])), (yr, .inl (cI, 7, .inl (md_bump G (-2)))), (yw, .inl (cI, 20, .inl v))] H := hP.sub [1, 2, 0] rfl
        have hD : va_D A [(y, .inr (6, [.ref yr, .int mq, .int mn, .ref yw, .ref yc, .int mc, .ref yl, .int me, .ref ys, .ref yp, .ref ym, .int md, .ref yo, .ref yk, .ref yt, .int mz, .ref yi, .ref yz, .ref yx, .ref yu, .int km, .int kr])), (yr, .inl (cI, 7, .inl (md_bump G (-2)))), (yw, .inl (cI, 20, .inl v))] := hD.sub [1, 2, 0] (by decide) rfl
        exact wrI (w1 := (fun (u : (Nat → Int32)) => [(y, .inr (6, [.ref yr, .int mq, .int mn, .ref yw, .ref yc, .int mc, .ref yl, .int me, .ref ys, .ref yp, .ref ym, .int md, .ref yo, .ref yk, .ref yt, .int mz, .ref yi, .ref yz, .ref yx, .ref yu, .int km, .int kr])), (yr, .inl (cI, 7, .inl u)), (yw, .inl (cI, 20, .inl v))])) (md_bump G (-2)) hx hb hr hlocks dX6_nearest_51 hS (hP.sub [0, 1, 2] rfl) (hD.sub [0, 1, 2] (by decide) rfl) (by have e8 := rf_num_r (n := n) (a := 1) (b := 99) c_5; have e9 : rf_nea mn w n k = -2 := (by unfold rf_nea; rw [e8, if_pos c_25, if_neg (mt (md_w1 k).mpr c_42)]); simp [e9])
    · skip
      refine lv_aload_n hx hb dX6_nearest_28 rfl (lv_at hl 1 rfl) ?_
      refine lv_iload hx hb dX6_nearest_29 (lv_at hl 0 rfl) ?_
      refine wrVi (As := [.int (rng n 1 99)]) (rest := []) (wr := [(yw, .inl (cI, 20, .inl v))]) (A := A) ⟨hx, hb, hml, hown, hts⟩ (c_X6_no l D cI cZ cR y yr yw yc yl ys yp ym yo yk yt yi yz yx yu mq mn mc me md mz km kr G (rng n 1 99) (rng_le _ _ _) s.heap.size) (cwV 1 hts gX6_nearest_X6_no rfl rfl rfl (by decide +kernel) ⟨Nat.le_of_ble_eq_true rfl, Nat.le_of_ble_eq_true rfl⟩) hK hN hP hD hS hA 0 6 rfl rfl rfl [0, 1] [2] rfl (by decide) rfl (by decide) (by decide) rfl hl.1 rfl (Nat.le_of_ble_eq_true rfl) dX6_nearest_31 ⟨Nat.zero_le _, Nat.zero_le _⟩ (fun r_31 u H locs hw hP hD hS => ?_)
      obtain ⟨G_31, rfl⟩ : ∃ z, z = u := ⟨_, rfl⟩
      try dsimp only at hw
      obtain ⟨q1_31, q2_31⟩ := hw
      have q1_31 := q1_31.symm
      subst q1_31
      have q2_31 := q2_31.symm
      subst q2_31
      have hP : va_P D vwCl [(y, .inr (6, [.ref yr, .int mq, .int mn, .ref yw, .ref yc, .int mc, .ref yl, .int me, .ref ys, .ref yp, .ref ym, .int md, .ref yo, .ref yk, .ref yt, .int mz, .ref yi, .ref yz, .ref yx, .ref yu, .int km, .int kr])), (yr, .inl (cI, 7, .inl (md_bump G (rng n 1 99)))), (yw, .inl (cI, 20, .inl v))] H := hP.sub [1, 2, 0] rfl
      have hD : va_D A [(y, .inr (6, [.ref yr, .int mq, .int mn, .ref yw, .ref yc, .int mc, .ref yl, .int me, .ref ys, .ref yp, .ref ym, .int md, .ref yo, .ref yk, .ref yt, .int mz, .ref yi, .ref yz, .ref yx, .ref yu, .int km, .int kr])), (yr, .inl (cI, 7, .inl (md_bump G (rng n 1 99)))), (yw, .inl (cI, 20, .inl v))] := hD.sub [1, 2, 0] (by decide) rfl
      exact wrI (w1 := (fun (u : (Nat → Int32)) => [(y, .inr (6, [.ref yr, .int mq, .int mn, .ref yw, .ref yc, .int mc, .ref yl, .int me, .ref ys, .ref yp, .ref ym, .int md, .ref yo, .ref yk, .ref yt, .int mz, .ref yi, .ref yz, .ref yx, .ref yu, .int km, .int kr])), (yr, .inl (cI, 7, .inl u)), (yw, .inl (cI, 20, .inl v))])) (md_bump G (rng n 1 99)) hx hb hr hlocks dX6_nearest_34 hS (hP.sub [0, 1, 2] rfl) (hD.sub [0, 1, 2] (by decide) rfl) (by have e8 := rf_num_r (n := n) (a := 1) (b := 99) c_5; have e9 : rf_nea mn w n k = rng n 1 99 := (by unfold rf_nea; rw [e8, if_neg c_25]); rw [e9, if_neg c_25, if_neg c_25]; exact ⟨rfl, rfl⟩)
  · skip
    have c_5 := bi_eq0.mp c_5
    refine lv_aload_n hx hb dX6_nearest_8 rfl (lv_at hl 0 rfl) ?_
    refine lv_iconst (v := (-1)) hx hb dX6_nearest_9 (by decide) ?_
    refine wrVi (As := [.int (-1)]) (rest := []) (wr := [(yw, .inl (cI, 20, .inl v))]) (A := A) ⟨hx, hb, hml, hown, hts⟩ (c_X6_no l D cI cZ cR y yr yw yc yl ys yp ym yo yk yt yi yz yx yu mq mn mc me md mz km kr G (-1) (by decide) s.heap.size) (cwV 1 hts gX6_nearest_X6_no rfl rfl rfl (by decide +kernel) ⟨Nat.le_of_ble_eq_true rfl, Nat.le_of_ble_eq_true rfl⟩) hK hN hP hD hS hA 0 6 rfl rfl rfl [0, 1] [2] rfl (by decide) rfl (by decide) (by decide) rfl hl.1 rfl (Nat.le_of_ble_eq_true rfl) dX6_nearest_10 ⟨Nat.zero_le _, Nat.zero_le _⟩ (fun r_10 u H locs hw hP hD hS => ?_)
    obtain ⟨G_10, rfl⟩ : ∃ z, z = u := ⟨_, rfl⟩
    try dsimp only at hw
    obtain ⟨q1_10, q2_10⟩ := hw
    have q1_10 := q1_10.symm
    subst q1_10
    have q2_10 := q2_10.symm
    subst q2_10
    have hP : va_P D vwCl [(y, .inr (6, [.ref yr, .int mq, .int mn, .ref yw, .ref yc, .int mc, .ref yl, .int me, .ref ys, .ref yp, .ref ym, .int md, .ref yo, .ref yk, .ref yt, .int mz, .ref yi, .ref yz, .ref yx, .ref yu, .int km, .int kr])), (yr, .inl (cI, 7, .inl (md_bump G (-1)))), (yw, .inl (cI, 20, .inl v))] H := hP.sub [1, 2, 0] rfl
    have hD : va_D A [(y, .inr (6, [.ref yr, .int mq, .int mn, .ref yw, .ref yc, .int mc, .ref yl, .int me, .ref ys, .ref yp, .ref ym, .int md, .ref yo, .ref yk, .ref yt, .int mz, .ref yi, .ref yz, .ref yx, .ref yu, .int km, .int kr])), (yr, .inl (cI, 7, .inl (md_bump G (-1)))), (yw, .inl (cI, 20, .inl v))] := hD.sub [1, 2, 0] (by decide) rfl
    exact wrI (w1 := (fun (u : (Nat → Int32)) => [(y, .inr (6, [.ref yr, .int mq, .int mn, .ref yw, .ref yc, .int mc, .ref yl, .int me, .ref ys, .ref yp, .ref ym, .int md, .ref yo, .ref yk, .ref yt, .int mz, .ref yi, .ref yz, .ref yx, .ref yu, .int km, .int kr])), (yr, .inl (cI, 7, .inl u)), (yw, .inl (cI, 20, .inl v))])) (md_bump G (-1)) hx hb hr hlocks dX6_nearest_13 hS (hP.sub [0, 1, 2] rfl) (hD.sub [0, 1, 2] (by decide) rfl) (by have e9 : rf_nea mn w n k = -1 := (by have e8 : rf_num mn w n 1 99 = -1 := (by unfold rf_num; rw [if_pos c_5]); unfold rf_nea; rw [e8]; rfl); simp [e9])
