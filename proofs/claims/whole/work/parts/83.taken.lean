theorem in_X5_taken_X5 : ∀ w ∈ wsX50, w ∈ wsX5_taken := by decide +kernel
set_option maxHeartbeats 4000000 in
set_option maxRecDepth 100000 in
theorem c_X5_isOfKind (l : Launch) (D : va_G) (cI cZ cR : ClassId) (o9 kd : Int32) (ho9 : 0 ≤ o9 ∧ o9 < 6) : Met l yX5_isOfKind wsX5_isOfKind ({ frames := 1, cells := 0, slots := 0, locals := 21 }) (PcF undE D cI cZ cR [.int o9, .int kd] []) (k2_QcV (.int (bi (tkA 6 o9 kd = 1)))) 0 0 (fun _ => False) := by
  refine Met.ofW (cc := cX5_isOfKind) (maxL := 4) (ret := (some .boolean)) (by decide) rfl ?_
  intro p e s m args below meth c s₁ B hml hv
  obtain ⟨rfl, hP, hK, hN, hE⟩ := hv
  have hx := B.exec
  have hb := B.bytes
  have hr := B.returns
  have hts := atoms_spec (ws := wsX5_isOfKind) B.pre
  have hown : s.vm.findClass RX5 = some m.cls := findClass_of_methodNamed B.named
  have hlocks := B.notSynchronized
  obtain ⟨un9, hUZ, hUT⟩ := hE
  have hP : va_P D vwCl [] s.heap := hP
  have hl := lv_entry ([.int o9, .int kd]) (n := 4) (Nat.le_of_ble_eq_true rfl)
  rw [lg_entry_eq]
  generalize (lg_sl ([.int o9, .int kd]) ++ List.replicate (4 - (lg_sl ([.int o9, .int kd])).length) Slot.unset).toArray = ls at hl ⊢
  have hl : lv_has ls 4 [(0, .int o9), (1, .int kd)] := hl
  refine lv_iload_n hx hb dX5_isOfKind_0 rfl (lv_at hl 0 rfl) ?_
  refine lv_istore_n (lv' := [(2, .int o9), (0, .int o9), (1, .int kd)]) hx hb dX5_isOfKind_1 rfl hl (by decide) rfl (fun ls hl => ?_)
  refine lv_iconst (v := 0) hx hb dX5_isOfKind_2 (by decide) ?_
  refine lv_istore_n (lv' := [(3, .int 0), (2, .int o9), (0, .int o9), (1, .int kd)]) hx hb dX5_isOfKind_3 rfl hl (by decide) rfl (fun ls hl => ?_)
  have loop_4 : ∀ (fuel : Nat), ∀ (i : Nat), ∀ (x9 : Int32), (i ≤ 6) → (tkW i x9) → (tkA 6 o9 kd = tkA (6 - i) x9 kd) → (7 ≤ i + fuel) → ∀ (y3 : Int32), y3 = nI i → ∀ (ls : Array Slot), lv_has ls 4 [(2, .int x9), (3, .int y3), (0, .int o9), (1, .int kd)] → W p l e (headSpec wsX5_isOfKind ({ frames := 1, cells := 0, slots := 0, locals := 21 })).room s m ([.int o9, .int kd] : List Value).toArray below meth c s.heap [] 0 0 (MQ below (k2_QcV (.int (bi (tkA 6 o9 kd = 1)))) ([.int o9, .int kd] : List Value).toArray s 0 0 (fun _ => False)) (F0 m 4 ls []) := by
    intro fuel
    induction fuel with
    | zero =>
      intro i x9 hi htk hinv hfu
      exact False.elim (by omega)
    | succ fuel ih_4 =>
      intro i x9 hi htk hinv hfu y3 ey3 ls hl
      subst ey3
      refine lv_iload_n hx hb dX5_isOfKind_4 rfl (lv_at hl 1 rfl) ?_
      refine lv_bipush (v := 6) hx hb dX5_isOfKind_5 (by decide) ?_
      refine lv_icmp_ge (tgt := 40) hx hb dX5_isOfKind_7 (by decide) (fun c_7 => ?_) (fun c_7 => ?_)
      · skip
        refine lv_iconst (v := 0) hx hb dX5_isOfKind_40 (by decide) ?_
        exact rdZ hx hb hr hlocks dX5_isOfKind_41 ((bi_f (by have h9 := tkW_lt htk; have h8 := (nI_leI (a := 6) (b := i) (by omega) (by omega)).mp c_7; omega)).symm)
      · skip
        have hiN : i < 6 := by rcases Nat.lt_or_ge i 6 with q9 | q9; exact q9; exact absurd (nI_le q9 (by omega)) c_7
        refine lv_iload_n hx hb dX5_isOfKind_10 rfl (lv_at hl 0 rfl) ?_
        refine va_gets hx hb hUZ va_S.rf hown (hts (.fieldLink RX5 319 "StepsRoundCircle" "UNDER" "[I") (by decide +kernel)) (fun _ h9 => h9) dX5_isOfKind_11 ?_
        refine va_tlen (v := 6) hx hb hUT va_S.rf rfl dX5_isOfKind_14 ?_
        refine rdS (As := [.int x9, .int 6]) (rest := []) ⟨hx, hb, hml, hown, hts⟩ (c_X5_isBelow l D cI cZ cR x9 6 ) (va_cwS 2 hts gX5_isOfKind_X5_isBelow rfl rfl rfl (by decide +kernel) ⟨Nat.le_of_ble_eq_true rfl, Nat.le_of_ble_eq_true rfl⟩) hK hN hP [] rfl rfl hl.1 rfl (Nat.le_of_ble_eq_true rfl) dX5_isOfKind_15 ⟨Nat.zero_le _, Nat.zero_le _⟩ ?_
        refine lv_if_eq (tgt := 40) hx hb dX5_isOfKind_18 (by decide) (fun c_18 => ?_) (fun c_18 => ?_)
        · skip
          have c_18 := bi_eq0.mp c_18
          refine lv_iconst (v := 0) hx hb dX5_isOfKind_40 (by decide) ?_
          exact rdZ hx hb hr hlocks dX5_isOfKind_41 ((bi_f (by rw [hinv, tkA_no (fun z9 => c_18 ⟨z9, (tkW_lt htk).2.1⟩)]; decide)).symm)
        · skip
          have c_18 := bi_ne0.mp c_18
          refine lv_iload_n hx hb dX5_isOfKind_21 rfl (lv_at hl 0 rfl) ?_
          refine lv_iload_n hx hb dX5_isOfKind_22 rfl (lv_at hl 3 rfl) ?_
          refine lv_icmp_ne (tgt := 28) hx hb dX5_isOfKind_23 (by decide) (fun c_23 => ?_) (fun c_23 => ?_)
          · skip
            refine va_gets hx hb hUZ va_S.rf hown (hts (.fieldLink RX5 319 "StepsRoundCircle" "UNDER" "[I") (by decide +kernel)) (fun _ h9 => h9) dX5_isOfKind_28 ?_
            refine lv_iload_n hx hb dX5_isOfKind_31 rfl (lv_at hl 0 rfl) ?_
            refine va_ti (v := .int (und x9.toNatClampNeg)) hx hb hUT va_S.rf (vp_lit (n := 6) (by decide) c_18) rfl dX5_isOfKind_32 ?_
            refine lv_istore_n (lv' := [(2, .int (und x9.toNatClampNeg)), (3, .int (nI i)), (0, .int o9), (1, .int kd)]) hx hb dX5_isOfKind_33 rfl hl (by decide) rfl (fun ls hl => ?_)
            refine lv_iinc (v := (nI i) + 1) (lv' := [(3, .int ((nI i) + 1)), (2, .int (und x9.toNatClampNeg)), (0, .int o9), (1, .int kd)]) hx hb dX5_isOfKind_34 hl (k := 1) rfl (by rfl) (by decide) rfl (fun ls hl => ?_)
            refine lv_goto (tgt := 4) hx hb dX5_isOfKind_37 (by decide) ?_
            exact ih_4 (i + 1) (und x9.toNatClampNeg) (by omega) (by rw [und_k c_18]; exact tkW_next htk c_18.1) (hinv.trans (by rw [tkA_go (by omega) c_18.1 c_23, und_k c_18, show 6 - i - 1 = 6 - (i + 1) by omega])) (by omega) _ (by first | rfl | exact nI_1 _ | exact nI_0.symm) ls (lv_sub hl [1, 0, 2, 3] rfl)
          · skip
            refine lv_iconst (v := 1) hx hb dX5_isOfKind_26 (by decide) ?_
            exact rdZ hx hb hr hlocks dX5_isOfKind_27 ((bi_t (by rw [hinv, tkA_hit (by omega) c_18.1 c_23])).symm)
  exact loop_4 7 0 o9 (by omega) (Or.inl ⟨rfl, ho9⟩) rfl (by omega) _ (by first | rfl | exact nI_1 _ | exact nI_0.symm) ls (lv_sub hl [1, 0, 2, 3] rfl)

set_option maxHeartbeats 4000000 in
set_option maxRecDepth 100000 in
theorem c_X5_taken (l : Launch) (D : va_G) (cI cZ cR : ClassId) (x r t im tx ch ro rf pl ot cl : Nat) (hi : Int32) (F : Nat → Int32) (rn : Nat) (q nw : Int32) (v : Nat → Int32) (w kd : Int32) (hws : ∀ w, 0 ≤ w ∧ w < nw → okW q v w) (sz : Nat) : Met l yX5_taken wsX5_taken ({ frames := 2, cells := 0, slots := 0, locals := 44 }) (PcE undE D cI cZ cR [.ref x, .int w, .int kd] [(x, .inr (5, [.ref r, .ref t, .ref im, .int hi, .ref tx, .ref ch, .ref ro, .ref rf, .ref pl, .ref ot, .ref cl])), (rf, .inl (cI, 6, .inl F)), (r, .inr (1, [.int q, .int nw, .ref rn])), (rn, .inl (cI, 20, .inl v))] sz) (va_Qi (fun (res : Int32) (u : (Nat → Int32)) => res = (if rf_tak nw w kd = 0 then takA (rg_val v w 0) kd else rf_tak nw w kd) ∧ u = (if rf_tak nw w kd = 0 then F else rf_bump F (rf_tak nw w kd))) (Bw D (fun (u : (Nat → Int32)) => [(x, .inr (5, [.ref r, .ref t, .ref im, .int hi, .ref tx, .ref ch, .ref ro, .ref rf, .ref pl, .ref ot, .ref cl])), (rf, .inl (cI, 6, .inl u)), (r, .inr (1, [.int q, .int nw, .ref rn])), (rn, .inl (cI, 20, .inl v))]) (va_A [(x, .inr (5, [.ref r, .ref t, .ref im, .int hi, .ref tx, .ref ch, .ref ro, .ref rf, .ref pl, .ref ot, .ref cl])), (rf, .inl (cI, 6, .inl F)), (r, .inr (1, [.int q, .int nw, .ref rn])), (rn, .inl (cI, 20, .inl v))] sz)) (va_A [(x, .inr (5, [.ref r, .ref t, .ref im, .int hi, .ref tx, .ref ch, .ref ro, .ref rf, .ref pl, .ref ot, .ref cl])), (rf, .inl (cI, 6, .inl F)), (r, .inr (1, [.int q, .int nw, .ref rn])), (rn, .inl (cI, 20, .inl v))] sz)) 0 0 (va_A [(x, .inr (5, [.ref r, .ref t, .ref im, .int hi, .ref tx, .ref ch, .ref ro, .ref rf, .ref pl, .ref ot, .ref cl])), (rf, .inl (cI, 6, .inl F)), (r, .inr (1, [.int q, .int nw, .ref rn])), (rn, .inl (cI, 20, .inl v))] sz) := by
  refine Met.ofW (cc := cX5_taken) (maxL := 4) (ret := (some .int)) (by decide) rfl ?_
  intro p e s m args below meth c s₁ B hml hv
  obtain ⟨rfl, hsz, hP, hK, hD0, hN, hE⟩ := hv
  have hx := B.exec
  have hb := B.bytes
  have hr := B.returns
  have hts := atoms_spec (ws := wsX5_taken) B.pre
  have hown : s.vm.findClass RX5 = some m.cls := findClass_of_methodNamed B.named
  have hlocks := B.notSynchronized
  obtain ⟨un9, hUZ, hUT⟩ := hE
  subst hsz
  have hD := hD0.self (sz := s.heap.size)
  generalize hAe : va_A [(x, .inr (5, [.ref r, .ref t, .ref im, .int hi, .ref tx, .ref ch, .ref ro, .ref rf, .ref pl, .ref ot, .ref cl])), (rf, .inl (cI, 6, .inl F)), (r, .inr (1, [.int q, .int nw, .ref rn])), (rn, .inl (cI, 20, .inl v))] s.heap.size = A at hD ⊢
  have hA : ∀ q : Nat, s.heap.size ≤ q → A q := fun q h => by rw [← hAe]; exact Or.inr h
  have hS : va_S A s.heap s.heap [] := va_S.rf
  have hP : va_P D vwCl [(x, .inr (5, [.ref r, .ref t, .ref im, .int hi, .ref tx, .ref ch, .ref ro, .ref rf, .ref pl, .ref ot, .ref cl])), (rf, .inl (cI, 6, .inl F)), (r, .inr (1, [.int q, .int nw, .ref rn])), (rn, .inl (cI, 20, .inl v))] s.heap := hP
  have hl := lv_entry ([.ref x, .int w, .int kd]) (n := 4) (Nat.le_of_ble_eq_true rfl)
  rw [lg_entry_eq]
  generalize (lg_sl ([.ref x, .int w, .int kd]) ++ List.replicate (4 - (lg_sl ([.ref x, .int w, .int kd])).length) Slot.unset).toArray = ls at hl ⊢
  have hl : lv_has ls 4 [(0, .ref x), (1, .int w), (2, .int kd)] := hl
  refine lv_aload_n hx hb dX5_taken_0 rfl (lv_at hl 0 rfl) ?_
  refine va_get (D := D) (ci := 5) (v := .ref r) (C := RX5) (T := TX5) (N := 11) hx hb hts (in_X5_taken_X5) hown hK hP 0 rfl rfl 0 (by decide) (hts (.fieldLink RX5 10 "StepsRoundCircle" "ring" "LStepsRoundCircle$Ring;") (by decide +kernel)) (fun _ h9 => h9) rfl dX5_taken_1 ?_
  refine lv_iload_n hx hb dX5_taken_4 rfl (lv_at hl 1 rfl) ?_
  refine rdV (As := [.int w]) (rest := []) ⟨hx, hb, hml, hown, hts⟩ (c_X1_has l D cI cZ cR r rn q nw v w ) (cwV 1 hts gX5_taken_X1_has rfl rfl rfl (by decide +kernel) ⟨Nat.le_of_ble_eq_true rfl, Nat.le_of_ble_eq_true rfl⟩) hK hN hP 2 1 rfl rfl rfl [2, 3] rfl rfl hl.1 rfl (Nat.le_of_ble_eq_true rfl) dX5_taken_5 ⟨Nat.zero_le _, Nat.zero_le _⟩ ?_
  refine lv_if_ne (tgt := 17) hx hb dX5_taken_8 (by decide) (fun c_8 => ?_) (fun c_8 => ?_)
  · skip
    have c_8 := bi_ne0.mp c_8
    refine lv_iload_n hx hb dX5_taken_17 rfl (lv_at hl 2 rfl) ?_
    refine rdS (As := [.int kd]) (rest := []) ⟨hx, hb, hml, hown, hts⟩ (c_X5_isKind l D cI cZ cR kd ) (va_cwS 1 hts gX5_taken_X5_isKind rfl rfl rfl (by decide +kernel) ⟨Nat.le_of_ble_eq_true rfl, Nat.le_of_ble_eq_true rfl⟩) hK hN hP [] rfl rfl hl.1 rfl (Nat.le_of_ble_eq_true rfl) dX5_taken_18 ⟨Nat.zero_le _, Nat.zero_le _⟩ ?_
    refine lv_if_ne (tgt := 31) hx hb dX5_taken_21 (by decide) (fun c_21 => ?_) (fun c_21 => ?_)
    · skip
      have c_21 := bi_ne0.mp c_21
      refine lv_aload_n hx hb dX5_taken_31 rfl (lv_at hl 0 rfl) ?_
      refine va_get (D := D) (ci := 5) (v := .ref r) (C := RX5) (T := TX5) (N := 11) hx hb hts (in_X5_taken_X5) hown hK hP 0 rfl rfl 0 (by decide) (hts (.fieldLink RX5 10 "StepsRoundCircle" "ring" "LStepsRoundCircle$Ring;") (by decide +kernel)) (fun _ h9 => h9) rfl dX5_taken_32 ?_
      refine lv_iload_n hx hb dX5_taken_35 rfl (lv_at hl 1 rfl) ?_
      refine lv_iconst (v := 0) hx hb dX5_taken_36 (by decide) ?_
      refine rdV (As := [.int w, .int 0]) (rest := []) ⟨hx, hb, hml, hown, hts⟩ (c_X1_value l D cI cZ cR r rn q nw v w 0 ) (cwV 2 hts gX5_taken_X1_value rfl rfl rfl (by decide +kernel) ⟨Nat.le_of_ble_eq_true rfl, Nat.le_of_ble_eq_true rfl⟩) hK hN hP 2 1 rfl rfl rfl [2, 3] rfl rfl hl.1 rfl (Nat.le_of_ble_eq_true rfl) dX5_taken_37 ⟨Nat.zero_le _, Nat.zero_le _⟩ ?_
      refine lv_istore_n (lv' := [(3, .int (rg_val v w 0)), (0, .ref x), (1, .int w), (2, .int kd)]) hx hb dX5_taken_40 rfl hl (by decide) rfl (fun ls hl => ?_)
      refine lv_iload_n hx hb dX5_taken_41 rfl (lv_at hl 0 rfl) ?_
      refine lv_iload_n hx hb dX5_taken_42 rfl (lv_at hl 3 rfl) ?_
      refine rdSE (As := [.int (rg_val v w 0), .int kd]) (rest := []) undE_blind (undE_at ⟨un9, hUZ, hUT⟩) ⟨hx, hb, hml, hown, hts⟩ (c_X5_isOfKind l D cI cZ cR (rg_val v w 0) kd ((hws w c_8).1)) (va_cwS 2 hts gX5_taken_X5_isOfKind rfl rfl rfl (by decide +kernel) ⟨Nat.le_of_ble_eq_true rfl, Nat.le_of_ble_eq_true rfl⟩) hK hN hP [] rfl rfl hl.1 rfl (Nat.le_of_ble_eq_true rfl) dX5_taken_43 ⟨Nat.zero_le _, Nat.zero_le _⟩ ?_
      refine lv_if_eq (tgt := 53) hx hb dX5_taken_46 (by decide) (fun c_46 => ?_) (fun c_46 => ?_)
      · skip
        have c_46 := bi_eq0.mp c_46
        refine lv_bipush (v := (-16)) hx hb dX5_taken_53 (by decide) ?_
        exact wrI (w1 := (fun (u : (Nat → Int32)) => [(x, .inr (5, [.ref r, .ref t, .ref im, .int hi, .ref tx, .ref ch, .ref ro, .ref rf, .ref pl, .ref ot, .ref cl])), (rf, .inl (cI, 6, .inl u)), (r, .inr (1, [.int q, .int nw, .ref rn])), (rn, .inl (cI, 20, .inl v))])) F hx hb hr hlocks dX5_taken_55 hS (hP.sub [0, 1, 2, 3] rfl) (hD.sub [0, 1, 2, 3] (by decide) rfl) (by have e9 : rf_tak nw w kd = 0 := (by unfold rf_tak; rw [if_neg (fun z => z c_8), if_pos c_21]); rw [if_pos e9, if_pos e9]; refine ⟨?_, rfl⟩; unfold takA; rw [if_neg c_46])
      · skip
        have c_46 := bi_ne0.mp c_46
        refine lv_iload_n hx hb dX5_taken_49 rfl (lv_at hl 0 rfl) ?_
        refine lv_goto (tgt := 55) hx hb dX5_taken_50 (by decide) ?_
        exact wrI (w1 := (fun (u : (Nat → Int32)) => [(x, .inr (5, [.ref r, .ref t, .ref im, .int hi, .ref tx, .ref ch, .ref ro, .ref rf, .ref pl, .ref ot, .ref cl])), (rf, .inl (cI, 6, .inl u)), (r, .inr (1, [.int q, .int nw, .ref rn])), (rn, .inl (cI, 20, .inl v))])) F hx hb hr hlocks dX5_taken_55 hS (hP.sub [0, 1, 2, 3] rfl) (hD.sub [0, 1, 2, 3] (by decide) rfl) (by have e9 : rf_tak nw w kd = 0 := (by unfold rf_tak; rw [if_neg (fun z => z c_8), if_pos c_21]); rw [if_pos e9, if_pos e9]; refine ⟨?_, rfl⟩; unfold takA; rw [if_pos c_46])
    · skip
      have c_21 := bi_eq0.mp c_21
      refine lv_aload_n hx hb dX5_taken_24 rfl (lv_at hl 0 rfl) ?_
      refine lv_bipush (v := (-2)) hx hb dX5_taken_25 (by decide) ?_
      refine wrVi (As := [.int (-2)]) (rest := []) (wr := [(r, .inr (1, [.int q, .int nw, .ref rn])), (rn, .inl (cI, 20, .inl v))]) (A := A) ⟨hx, hb, hml, hown, hts⟩ (c_X5_refuse l D cI cZ cR x r t im tx ch ro rf pl ot cl hi F (-2)  s.heap.size) (cwV 1 hts gX5_taken_X5_refuse rfl rfl rfl (by decide +kernel) ⟨Nat.le_of_ble_eq_true rfl, Nat.le_of_ble_eq_true rfl⟩) hK hN hP hD hS hA 0 5 rfl rfl rfl [0, 1] [2, 3] rfl (by decide) rfl (by decide) (by decide) rfl hl.1 rfl (Nat.le_of_ble_eq_true rfl) dX5_taken_27 ⟨Nat.zero_le _, Nat.zero_le _⟩ (fun r_27 u H locs hw hP hD hS => ?_)
      obtain ⟨F_27, rfl⟩ : ∃ z, z = u := ⟨_, rfl⟩
      try dsimp only at hw
      obtain ⟨q1_27, q2_27⟩ := hw
      have q1_27 := q1_27.symm
      subst q1_27
      have q2_27 := q2_27.symm
      subst q2_27
      have hP : va_P D vwCl [(x, .inr (5, [.ref r, .ref t, .ref im, .int hi, .ref tx, .ref ch, .ref ro, .ref rf, .ref pl, .ref ot, .ref cl])), (rf, .inl (cI, 6, .inl (rf_bump F (-2)))), (r, .inr (1, [.int q, .int nw, .ref rn])), (rn, .inl (cI, 20, .inl v))] H := hP.sub [2, 3, 0, 1] rfl
      have hD : va_D A [(x, .inr (5, [.ref r, .ref t, .ref im, .int hi, .ref tx, .ref ch, .ref ro, .ref rf, .ref pl, .ref ot, .ref cl])), (rf, .inl (cI, 6, .inl (rf_bump F (-2)))), (r, .inr (1, [.int q, .int nw, .ref rn])), (rn, .inl (cI, 20, .inl v))] := hD.sub [2, 3, 0, 1] (by decide) rfl
      exact wrI (w1 := (fun (u : (Nat → Int32)) => [(x, .inr (5, [.ref r, .ref t, .ref im, .int hi, .ref tx, .ref ch, .ref ro, .ref rf, .ref pl, .ref ot, .ref cl])), (rf, .inl (cI, 6, .inl u)), (r, .inr (1, [.int q, .int nw, .ref rn])), (rn, .inl (cI, 20, .inl v))])) (rf_bump F (-2)) hx hb hr hlocks dX5_taken_30 hS (hP.sub [0, 1, 2, 3] rfl) (hD.sub [0, 1, 2, 3] (by decide) rfl) (by have e9 : rf_tak nw w kd = -2 := (by unfold rf_tak; rw [if_neg (fun z => z c_8), if_neg c_21]); simp [e9])
  · skip
    have c_8 := bi_eq0.mp c_8
    refine lv_aload_n hx hb dX5_taken_11 rfl (lv_at hl 0 rfl) ?_
    refine lv_iconst (v := (-1)) hx hb dX5_taken_12 (by decide) ?_
    refine wrVi (As := [.int (-1)]) (rest := []) (wr := [(r, .inr (1, [.int q, .int nw, .ref rn])), (rn, .inl (cI, 20, .inl v))]) (A := A) ⟨hx, hb, hml, hown, hts⟩ (c_X5_refuse l D cI cZ cR x r t im tx ch ro rf pl ot cl hi F (-1)  s.heap.size) (cwV 1 hts gX5_taken_X5_refuse rfl rfl rfl (by decide +kernel) ⟨Nat.le_of_ble_eq_true rfl, Nat.le_of_ble_eq_true rfl⟩) hK hN hP hD hS hA 0 5 rfl rfl rfl [0, 1] [2, 3] rfl (by decide) rfl (by decide) (by decide) rfl hl.1 rfl (Nat.le_of_ble_eq_true rfl) dX5_taken_13 ⟨Nat.zero_le _, Nat.zero_le _⟩ (fun r_13 u H locs hw hP hD hS => ?_)
    obtain ⟨F_13, rfl⟩ : ∃ z, z = u := ⟨_, rfl⟩
    try dsimp only at hw
    obtain ⟨q1_13, q2_13⟩ := hw
    have q1_13 := q1_13.symm
    subst q1_13
    have q2_13 := q2_13.symm
    subst q2_13
    have hP : va_P D vwCl [(x, .inr (5, [.ref r, .ref t, .ref im, .int hi, .ref tx, .ref ch, .ref ro, .ref rf, .ref pl, .ref ot, .ref cl])), (rf, .inl (cI, 6, .inl (rf_bump F (-1)))), (r, .inr (1, [.int q, .int nw, .ref rn])), (rn, .inl (cI, 20, .inl v))] H := hP.sub [2, 3, 0, 1] rfl
    have hD : va_D A [(x, .inr (5, [.ref r, .ref t, .ref im, .int hi, .ref tx, .ref ch, .ref ro, .ref rf, .ref pl, .ref ot, .ref cl])), (rf, .inl (cI, 6, .inl (rf_bump F (-1)))), (r, .inr (1, [.int q, .int nw, .ref rn])), (rn, .inl (cI, 20, .inl v))] := hD.sub [2, 3, 0, 1] (by decide) rfl
    exact wrI (w1 := (fun (u : (Nat → Int32)) => [(x, .inr (5, [.ref r, .ref t, .ref im, .int hi, .ref tx, .ref ch, .ref ro, .ref rf, .ref pl, .ref ot, .ref cl])), (rf, .inl (cI, 6, .inl u)), (r, .inr (1, [.int q, .int nw, .ref rn])), (rn, .inl (cI, 20, .inl v))])) (rf_bump F (-1)) hx hb hr hlocks dX5_taken_16 hS (hP.sub [0, 1, 2, 3] rfl) (hD.sub [0, 1, 2, 3] (by decide) rfl) (by have e9 : rf_tak nw w kd = -1 := (by unfold rf_tak; rw [if_pos c_8]); simp [e9])

set_option maxHeartbeats 4000000 in
set_option maxRecDepth 100000 in
theorem c_X6_taken (l : Launch) (D : va_G) (cI cZ cR : ClassId) (y yr yw yc yl ys yp ym yo yk yt yi yz yx yu : Nat) (mq mn mc me md mz km kr : Int32) (G : Nat → Int32) (v : Nat → Int32) (w kd : Int32) (hq : okQ mq) (hmn : 0 ≤ mn) (hm5 : mn ≤ 5) (hws : ∀ w, 0 ≤ w ∧ w < mn → okW mq v w) (sz : Nat) : Met l yX6_taken wsX6_taken ({ frames := 2, cells := 0, slots := 0, locals := 46 }) (PcW D cI cZ cR [.ref y, .int w, .int kd] [(y, .inr (6, [.ref yr, .int mq, .int mn, .ref yw, .ref yc, .int mc, .ref yl, .int me, .ref ys, .ref yp, .ref ym, .int md, .ref yo, .ref yk, .ref yt, .int mz, .ref yi, .ref yz, .ref yx, .ref yu, .int km, .int kr])), (yr, .inl (cI, 7, .inl G)), (yw, .inl (cI, 20, .inl v))] sz) (va_Qi (fun (res : Int32) (u : (Nat → Int32)) => res = (if rf_tak mn w kd = 0 then takA (rg_val v w 0) kd else rf_tak mn w kd) ∧ u = (if rf_tak mn w kd = 0 then G else md_bump G (rf_tak mn w kd))) (Bw D (fun (u : (Nat → Int32)) => [(y, .inr (6, [.ref yr, .int mq, .int mn, .ref yw, .ref yc, .int mc, .ref yl, .int me, .ref ys, .ref yp, .ref ym, .int md, .ref yo, .ref yk, .ref yt, .int mz, .ref yi, .ref yz, .ref yx, .ref yu, .int km, .int kr])), (yr, .inl (cI, 7, .inl u)), (yw, .inl (cI, 20, .inl v))]) (va_A [(y, .inr (6, [.ref yr, .int mq, .int mn, .ref yw, .ref yc, .int mc, .ref yl, .int me, .ref ys, .ref yp, .ref ym, .int md, .ref yo, .ref yk, .ref yt, .int mz, .ref yi, .ref yz, .ref yx, .ref yu, .int km, .int kr])), (yr, .inl (cI, 7, .inl G)), (yw, .inl (cI, 20, .inl v))] sz)) (va_A [(y, .inr (6, [.ref yr, .int mq, .int mn, .ref yw, .ref yc, .int mc, .ref yl, .int me, .ref ys, .ref yp, .ref ym, .int md, .ref yo, .ref yk, .ref yt, .int mz, .ref yi, .ref yz, .ref yx, .ref yu, .int km, .int kr])), (yr, .inl (cI, 7, .inl G)), (yw, .inl (cI, 20, .inl v))] sz)) 0 0 (va_A [(y, .inr (6, [.ref yr, .int mq, .int mn, .ref yw, .ref yc, .int mc, .ref yl, .int me, .ref ys, .ref yp, .ref ym, .int md, .ref yo, .ref yk, .ref yt, .int mz, .ref yi, .ref yz, .ref yx, .ref yu, .int km, .int kr])), (yr, .inl (cI, 7, .inl G)), (yw, .inl (cI, 20, .inl v))] sz) := by
  refine Met.ofW (cc := cX6_taken) (maxL := 4) (ret := (some .int)) (by decide) rfl ?_
  intro p e s m args below meth c s₁ B hml hv
  obtain ⟨rfl, hsz, hP, hK, hD0, hN⟩ := hv
  have hx := B.exec
  have hb := B.bytes
  have hr := B.returns
  have hts := atoms_spec (ws := wsX6_taken) B.pre
  have hown : s.vm.findClass RX6 = some m.cls := findClass_of_methodNamed B.named
  have hlocks := B.notSynchronized
  subst hsz
  have hD := hD0.self (sz := s.heap.size)
  generalize hAe : va_A [(y, .inr (6, [.ref yr, .int mq, .int mn, .ref yw, .ref yc, .int mc, .ref yl, .int me, .ref ys, .ref yp, .ref ym, .int md, .ref yo, .ref yk, .ref yt, .int mz, .ref yi, .ref yz, .ref yx, .ref yu, .int km, .int kr])), (yr, .inl (cI, 7, .inl G)), (yw, .inl (cI, 20, .inl v))] s.heap.size = A at hD ⊢
  have hA : ∀ q : Nat, s.heap.size ≤ q → A q := fun q h => by rw [← hAe]; exact Or.inr h
  have hS : va_S A s.heap s.heap [] := va_S.rf
  have hP : va_P D vwCl [(y, .inr (6, [.ref yr, .int mq, .int mn, .ref yw, .ref yc, .int mc, .ref yl, .int me, .ref ys, .ref yp, .ref ym, .int md, .ref yo, .ref yk, .ref yt, .int mz, .ref yi, .ref yz, .ref yx, .ref yu, .int km, .int kr])), (yr, .inl (cI, 7, .inl G)), (yw, .inl (cI, 20, .inl v))] s.heap := hP
  have hl := lv_entry ([.ref y, .int w, .int kd]) (n := 4) (Nat.le_of_ble_eq_true rfl)
  rw [lg_entry_eq]
  generalize (lg_sl ([.ref y, .int w, .int kd]) ++ List.replicate (4 - (lg_sl ([.ref y, .int w, .int kd])).length) Slot.unset).toArray = ls at hl ⊢
  have hl : lv_has ls 4 [(0, .ref y), (1, .int w), (2, .int kd)] := hl
  refine lv_aload_n hx hb dX6_taken_0 rfl (lv_at hl 0 rfl) ?_
  refine lv_iload_n hx hb dX6_taken_1 rfl (lv_at hl 1 rfl) ?_
  refine rdV (As := [.int w]) (rest := []) ⟨hx, hb, hml, hown, hts⟩ (c_X6_isWalker l D cI cZ cR y yr yw yc yl ys yp ym yo yk yt yi yz yx yu mq mn mc me md mz km kr w hmn) (cwV 1 hts gX6_taken_X6_isWalker rfl rfl rfl (by decide +kernel) ⟨Nat.le_of_ble_eq_true rfl, Nat.le_of_ble_eq_true rfl⟩) hK hN hP 0 6 rfl rfl rfl [0] rfl rfl hl.1 rfl (Nat.le_of_ble_eq_true rfl) dX6_taken_2 ⟨Nat.zero_le _, Nat.zero_le _⟩ ?_
  refine lv_if_ne (tgt := 14) hx hb dX6_taken_5 (by decide) (fun c_5 => ?_) (fun c_5 => ?_)
  · skip
    have c_5 := bi_ne0.mp c_5
    refine lv_iload_n hx hb dX6_taken_14 rfl (lv_at hl 2 rfl) ?_
    refine lv_i2l hx hb dX6_taken_15 rfl ?_
    refine lv_lconst (v := 0) hx hb dX6_taken_16 (by decide) ?_
    refine lv_ldc2 (v := 5) hx hb hown (hts (.constantLong RX6 105 5) (by decide +kernel)) dX6_taken_17 ?_
    refine rdS (As := [.long kd.toInt64, .long 0, .long 5]) (rest := []) ⟨hx, hb, hml, hown, hts⟩ (c_X6_in l D cI cZ cR kd.toInt64 0 5 ) (va_cwS 3 hts gX6_taken_X6_in rfl rfl rfl (by decide +kernel) ⟨Nat.le_of_ble_eq_true rfl, Nat.le_of_ble_eq_true rfl⟩) hK hN hP [] rfl rfl hl.1 rfl (Nat.le_of_ble_eq_true rfl) dX6_taken_20 ⟨Nat.zero_le _, Nat.zero_le _⟩ ?_
    refine lv_if_ne (tgt := 33) hx hb dX6_taken_23 (by decide) (fun c_23 => ?_) (fun c_23 => ?_)
    · skip
      have c_23 := bi_ne0.mp c_23
      have eR : rf_tak mn w kd = 0 := by unfold rf_tak; rw [if_neg (fun z => z c_5), if_pos ((md_w5 kd).mp c_23)]
      refine lv_aload_n hx hb dX6_taken_33 rfl (lv_at hl 0 rfl) ?_
      refine lv_iload_n hx hb dX6_taken_34 rfl (lv_at hl 1 rfl) ?_
      refine lv_iconst (v := 0) hx hb dX6_taken_35 (by decide) ?_
      refine rdV (As := [.int w, .int 0]) (rest := []) ⟨hx, hb, hml, hown, hts⟩ (c_X6_at l D cI cZ cR y yr yw yc yl ys yp ym yo yk yt yi yz yx yu mq mn mc me md mz km kr v w 0 (w5 hm5 c_5) (by decide)) (cwV 2 hts gX6_taken_X6_at rfl rfl rfl (by decide +kernel) ⟨Nat.le_of_ble_eq_true rfl, Nat.le_of_ble_eq_true rfl⟩) hK hN hP 0 6 rfl rfl rfl [0, 2] rfl rfl hl.1 rfl (Nat.le_of_ble_eq_true rfl) dX6_taken_36 ⟨Nat.zero_le _, Nat.zero_le _⟩ ?_
      refine lv_istore_n (lv' := [(3, .int (rg_val v w 0)), (0, .ref y), (1, .int w), (2, .int kd)]) hx hb dX6_taken_39 rfl hl (by decide) rfl (fun ls hl => ?_)
      have loop_40 : ∀ (fuel : Nat), ∀ (i : Nat), ∀ (x9 : Int32), (tkW i x9) → (tkA 6 (rg_val v w 0) kd = tkA (6 - i) x9 kd) → (4 ≤ i + fuel) → ∀ (ls : Array Slot), lv_has ls 4 [(3, .int x9), (0, .ref y), (1, .int w), (2, .int kd)] → W p l e (headSpec wsX6_taken ({ frames := 2, cells := 0, slots := 0, locals := 46 })).room s m ([.ref y, .int w, .int kd] : List Value).toArray below meth c s.heap [] 0 0 (MQ below (va_Qi (fun (res : Int32) (u : (Nat → Int32)) => res = (if rf_tak mn w kd = 0 then takA (rg_val v w 0) kd else rf_tak mn w kd) ∧ u = (if rf_tak mn w kd = 0 then G else md_bump G (rf_tak mn w kd))) (Bw D (fun (u : (Nat → Int32)) => [(y, .inr (6, [.ref yr, .int mq, .int mn, .ref yw, .ref yc, .int mc, .ref yl, .int me, .ref ys, .ref yp, .ref ym, .int md, .ref yo, .ref yk, .ref yt, .int mz, .ref yi, .ref yz, .ref yx, .ref yu, .int km, .int kr])), (yr, .inl (cI, 7, .inl u)), (yw, .inl (cI, 20, .inl v))]) A) A) ([.ref y, .int w, .int kd] : List Value).toArray s 0 0 A) (F0 m 40 ls []) := by
        intro fuel
        induction fuel with
        | zero =>
          intro i x9 htk hinv hfu
          exact False.elim (by have h9 := tkW_lt htk; omega)
        | succ fuel ih_40 =>
          intro i x9 htk hinv hfu ls hl
          refine lv_iload_n hx hb dX6_taken_40 rfl (lv_at hl 0 rfl) ?_
          refine lv_if_lt (tgt := 64) hx hb dX6_taken_41 (by decide) (fun c_41 => ?_) (fun c_41 => ?_)
          · skip
            refine lv_bipush (v := (-16)) hx hb dX6_taken_64 (by decide) ?_
            exact wrI (w1 := (fun (u : (Nat → Int32)) => [(y, .inr (6, [.ref yr, .int mq, .int mn, .ref yw, .ref yc, .int mc, .ref yl, .int me, .ref ys, .ref yp, .ref ym, .int md, .ref yo, .ref yk, .ref yt, .int mz, .ref yi, .ref yz, .ref yx, .ref yu, .int km, .int kr])), (yr, .inl (cI, 7, .inl u)), (yw, .inl (cI, 20, .inl v))])) G hx hb hr hlocks dX6_taken_66 hS (hP.sub [0, 1, 2] rfl) (hD.sub [0, 1, 2] (by decide) rfl) (by rw [if_pos eR, if_pos eR]; refine ⟨?_, rfl⟩; unfold takA; rw [if_neg (by rw [hinv, tkA_no (Int32.not_le.mpr c_41)]; decide)])
          · skip
            have hx0 : 0 ≤ x9 := Int32.not_lt.mp c_41
            refine lv_iload_n hx hb dX6_taken_44 rfl (lv_at hl 0 rfl) ?_
            refine lv_iload_n hx hb dX6_taken_45 rfl (lv_at hl 3 rfl) ?_
            refine lv_icmp_ne (tgt := 56) hx hb dX6_taken_46 (by decide) (fun c_46 => ?_) (fun c_46 => ?_)
            · skip
              refine lv_iload_n hx hb dX6_taken_56 rfl (lv_at hl 0 rfl) ?_
              refine rdS (As := [.int x9]) (rest := []) ⟨hx, hb, hml, hown, hts⟩ (c_X6_over l D cI cZ cR x9 ) (va_cwS 1 hts gX6_taken_X6_over rfl rfl rfl (by decide +kernel) ⟨Nat.le_of_ble_eq_true rfl, Nat.le_of_ble_eq_true rfl⟩) hK hN hP [] rfl rfl hl.1 rfl (Nat.le_of_ble_eq_true rfl) dX6_taken_57 ⟨Nat.zero_le _, Nat.zero_le _⟩ ?_
              refine lv_topi (fun z_60 hz_60 => ?_)
              have hz_60 : (kOv x9) = z_60 := (hz_60.trans rfl).symm
              subst hz_60
              refine lv_istore_n (lv' := [(3, .int (kOv x9)), (0, .ref y), (1, .int w), (2, .int kd)]) hx hb dX6_taken_60 rfl hl (by decide) rfl (fun ls hl => ?_)
              refine lv_goto (tgt := 40) hx hb dX6_taken_61 (by decide) ?_
              exact ih_40 (i + 1) (kOv x9) (tkW_next htk hx0) (hinv.trans (by rw [tkA_go (by have := tkW_lt htk; omega) hx0 c_46, show 6 - i - 1 = 6 - (i + 1) by omega])) (by omega) ls (lv_sub hl [0, 1, 2, 3] rfl)
            · skip
              refine lv_aload_n hx hb dX6_taken_49 rfl (lv_at hl 1 rfl) ?_
              refine lv_iload_n hx hb dX6_taken_50 rfl (lv_at hl 2 rfl) ?_
              refine lv_iconst (v := 0) hx hb dX6_taken_51 (by decide) ?_
              refine rdV (As := [.int w, .int 0]) (rest := []) ⟨hx, hb, hml, hown, hts⟩ (c_X6_at l D cI cZ cR y yr yw yc yl ys yp ym yo yk yt yi yz yx yu mq mn mc me md mz km kr v w 0 (w5 hm5 c_5) (by decide)) (cwV 2 hts gX6_taken_X6_at rfl rfl rfl (by decide +kernel) ⟨Nat.le_of_ble_eq_true rfl, Nat.le_of_ble_eq_true rfl⟩) hK hN hP 0 6 rfl rfl rfl [0, 2] rfl rfl hl.1 rfl (Nat.le_of_ble_eq_true rfl) dX6_taken_52 ⟨Nat.zero_le _, Nat.zero_le _⟩ ?_
              exact wrI (w1 := (fun (u : (Nat → Int32)) => [(y, .inr (6, [.ref yr, .int mq, .int mn, .ref yw, .ref yc, .int mc, .ref yl, .int me, .ref ys, .ref yp, .ref ym, .int md, .ref yo, .ref yk, .ref yt, .int mz, .ref yi, .ref yz, .ref yx, .ref yu, .int km, .int kr])), (yr, .inl (cI, 7, .inl u)), (yw, .inl (cI, 20, .inl v))])) G hx hb hr hlocks dX6_taken_55 hS (hP.sub [0, 1, 2] rfl) (hD.sub [0, 1, 2] (by decide) rfl) (by rw [if_pos eR, if_pos eR]; refine ⟨?_, rfl⟩; unfold takA; rw [if_pos (by rw [hinv, tkA_hit (by have := tkW_lt htk; omega) hx0 c_46])])
      exact loop_40 4 0 (rg_val v w 0) (Or.inl ⟨rfl, (hws w c_5).1⟩) rfl (by omega) ls (lv_sub hl [0, 1, 2, 3] rfl)
    · skip
      have c_23 := bi_eq0.mp c_23
      refine lv_aload_n hx hb dX6_taken_26 rfl (lv_at hl 0 rfl) ?_
      refine lv_bipush (v := (-2)) hx hb dX6_taken_27 (by decide) ?_
      refine wrVi (As := [.int (-2)]) (rest := []) (wr := [(yw, .inl (cI, 20, .inl v))]) (A := A) ⟨hx, hb, hml, hown, hts⟩ (c_X6_no l D cI cZ cR y yr yw yc yl ys yp ym yo yk yt yi yz yx yu mq mn mc me md mz km kr G (-2) (by decide) s.heap.size) (cwV 1 hts gX6_taken_X6_no rfl rfl rfl (by decide +kernel) ⟨Nat.le_of_ble_eq_true rfl, Nat.le_of_ble_eq_true rfl⟩) hK hN hP hD hS hA 0 6 rfl rfl rfl [0, 1] [2] rfl (by decide) rfl (by decide) (by decide) rfl hl.1 rfl (Nat.le_of_ble_eq_true rfl) dX6_taken_29 ⟨Nat.zero_le _, Nat.zero_le _⟩ (fun r_29 u H locs hw hP hD hS => ?_)
      obtain ⟨G_29, rfl⟩ : ∃ z, z = u := ⟨_, rfl⟩
      try dsimp only at hw
      obtain ⟨q1_29, q2_29⟩ := hw
      have q1_29 := q1_29.symm
      subst q1_29
      have q2_29 := q2_29.symm
      subst q2_29
      have hP : va_P D vwCl [(y, .inr (6, [.ref yr, .int mq, .int mn, .ref yw, .ref yc, .int mc, .ref yl, .int me, .ref ys, .ref yp, .ref ym, .int md, .ref yo, .ref yk, .ref yt, .int mz, .ref yi, .ref yz, .ref yx, .ref yu, .int km, .int kr])), (yr, .inl (cI, 7, .inl (md_bump G (-2)))), (yw, .inl (cI, 20, .inl v))] H := hP.sub [1, 2, 0] rfl
      have hD : va_D A [(y, .inr (6, [.ref yr, .int mq, .int mn, .ref yw, .ref yc, .int mc, .ref yl, .int me, .ref ys, .ref yp, .ref ym, .int md, .ref yo, .ref yk, .ref yt, .int mz, .ref yi, .ref yz, .ref yx, .ref yu, .int km, .int kr])), (yr, .inl (cI, 7, .inl (md_bump G (-2)))), (yw, .inl (cI, 20, .inl v))] := hD.sub [1, 2, 0] (by decide) rfl
      exact wrI (w1 := (fun (u : (Nat → Int32)) => [(y, .inr (6, [.ref yr, .int mq, .int mn, .ref yw, .ref yc, .int mc, .ref yl, .int me, .ref ys, .ref yp, .ref ym, .int md, .ref yo, .ref yk, .ref yt, .int mz, .ref yi, .ref yz, .ref yx, .ref yu, .int km, .int kr])), (yr, .inl (cI, 7, .inl u)), (yw, .inl (cI, 20, .inl v))])) (md_bump G (-2)) hx hb hr hlocks dX6_taken_32 hS (hP.sub [0, 1, 2] rfl) (hD.sub [0, 1, 2] (by decide) rfl) (by have e9 : rf_tak mn w kd = -2 := (by unfold rf_tak; rw [if_neg (fun z => z c_5), if_neg (mt (md_w5 kd).mpr c_23)]); simp [e9])
  · skip
    have c_5 := bi_eq0.mp c_5
    refine lv_aload_n hx hb dX6_taken_8 rfl (lv_at hl 0 rfl) ?_
    refine lv_iconst (v := (-1)) hx hb dX6_taken_9 (by decide) ?_
    refine wrVi (As := [.int (-1)]) (rest := []) (wr := [(yw, .inl (cI, 20, .inl v))]) (A := A) ⟨hx, hb, hml, hown, hts⟩ (c_X6_no l D cI cZ cR y yr yw yc yl ys yp ym yo yk yt yi yz yx yu mq mn mc me md mz km kr G (-1) (by decide) s.heap.size) (cwV 1 hts gX6_taken_X6_no rfl rfl rfl (by decide +kernel) ⟨Nat.le_of_ble_eq_true rfl, Nat.le_of_ble_eq_true rfl⟩) hK hN hP hD hS hA 0 6 rfl rfl rfl [0, 1] [2] rfl (by decide) rfl (by decide) (by decide) rfl hl.1 rfl (Nat.le_of_ble_eq_true rfl) dX6_taken_10 ⟨Nat.zero_le _, Nat.zero_le _⟩ (fun r_10 u H locs hw hP hD hS => ?_)
    obtain ⟨G_10, rfl⟩ : ∃ z, z = u := ⟨_, rfl⟩
    try dsimp only at hw
    obtain ⟨q1_10, q2_10⟩ := hw
    have q1_10 := q1_10.symm
    subst q1_10
    have q2_10 := q2_10.symm
    subst q2_10
    have hP : va_P D vwCl [(y, .inr (6, [.ref yr, .int mq, .int mn, .ref yw, .ref yc, .int mc, .ref yl, .int me, .ref ys, .ref yp, .ref ym, .int md, .ref yo, .ref yk, .ref yt, .int mz, .ref yi, .ref yz, .ref yx, .ref yu, .int km, .int kr])), (yr, .inl (cI, 7, .inl (md_bump G (-1)))), (yw, .inl (cI, 20, .inl v))] H := hP.sub [1, 2, 0] rfl
    have hD : va_D A [(y, .inr (6, [.ref yr, .int mq, .int mn, .ref yw, .ref yc, .int mc, .ref yl, .int me, .ref ys, .ref yp, .ref ym, .int md, .ref yo, .ref yk, .ref yt, .int mz, .ref yi, .ref yz, .ref yx, .ref yu, .int km, .int kr])), (yr, .inl (cI, 7, .inl (md_bump G (-1)))), (yw, .inl (cI, 20, .inl v))] := hD.sub [1, 2, 0] (by decide) rfl
    exact wrI (w1 := (fun (u : (Nat → Int32)) => [(y, .inr (6, [.ref yr, .int mq, .int mn, .ref yw, .ref yc, .int mc, .ref yl, .int me, .ref ys, .ref yp, .ref ym, .int md, .ref yo, .ref yk, .ref yt, .int mz, .ref yi, .ref yz, .ref yx, .ref yu, .int km, .int kr])), (yr, .inl (cI, 7, .inl u)), (yw, .inl (cI, 20, .inl v))])) (md_bump G (-1)) hx hb hr hlocks dX6_taken_13 hS (hP.sub [0, 1, 2] rfl) (hD.sub [0, 1, 2] (by decide) rfl) (by have e9 : rf_tak mn w kd = -1 := (by unfold rf_tak; rw [if_pos c_5]); simp [e9])
