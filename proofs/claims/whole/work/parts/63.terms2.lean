theorem in_X5_terms_X1 : ∀ w ∈ wsX10, w ∈ wsX5_terms := by decide +kernel
theorem in_X5_terms_X5 : ∀ w ∈ wsX50, w ∈ wsX5_terms := by decide +kernel
theorem in_X6_takesTerms_X6 : ∀ w ∈ wsX60, w ∈ wsX6_takesTerms := by decide +kernel
theorem in_X6_terms_X6 : ∀ w ∈ wsX60, w ∈ wsX6_terms := by decide +kernel
set_option maxHeartbeats 4000000 in
set_option maxRecDepth 100000 in
theorem c_X5_terms (l : Launch) (D : va_G) (cI cZ cR : ClassId) (x r t im tx ch ro rf pl ot cl : Nat) (hi : Int32) (F : Nat → Int32) (rn : Nat) (q nw : Int32) (v : Nat → Int32) (w j : Int32) (L9 : Nat) (hq : okQ q) (hws : ∀ w, 0 ≤ w ∧ w < nw → okW q v w) (hL : eL (rg_val v w 1).toNatClampNeg q.toNatClampNeg L9) (hL9 : L9 ≤ 40) (sz : Nat) : Met l yX5_terms wsX5_terms ({ frames := 2, cells := 0, slots := 0, locals := 48 }) (PcW D cI cZ cR [.ref x, .int w, .int j] [(x, .inr (5, [.ref r, .ref t, .ref im, .int hi, .ref tx, .ref ch, .ref ro, .ref rf, .ref pl, .ref ot, .ref cl])), (rf, .inl (cI, 6, .inl F)), (r, .inr (1, [.int q, .int nw, .ref rn])), (rn, .inl (cI, 20, .inl v))] sz) (va_Qi (fun (res : Int32) (u : (Nat → Int32)) => res = (if rf_ter nw w j = 0 then terA (rg_val v w 1).toNatClampNeg q.toNatClampNeg L9 j else rf_ter nw w j) ∧ u = (if rf_ter nw w j = 0 then F else rf_bump F (rf_ter nw w j))) (Bw D (fun (u : (Nat → Int32)) => [(x, .inr (5, [.ref r, .ref t, .ref im, .int hi, .ref tx, .ref ch, .ref ro, .ref rf, .ref pl, .ref ot, .ref cl])), (rf, .inl (cI, 6, .inl u)), (r, .inr (1, [.int q, .int nw, .ref rn])), (rn, .inl (cI, 20, .inl v))]) (va_A [(x, .inr (5, [.ref r, .ref t, .ref im, .int hi, .ref tx, .ref ch, .ref ro, .ref rf, .ref pl, .ref ot, .ref cl])), (rf, .inl (cI, 6, .inl F)), (r, .inr (1, [.int q, .int nw, .ref rn])), (rn, .inl (cI, 20, .inl v))] sz)) (va_A [(x, .inr (5, [.ref r, .ref t, .ref im, .int hi, .ref tx, .ref ch, .ref ro, .ref rf, .ref pl, .ref ot, .ref cl])), (rf, .inl (cI, 6, .inl F)), (r, .inr (1, [.int q, .int nw, .ref rn])), (rn, .inl (cI, 20, .inl v))] sz)) 0 0 (va_A [(x, .inr (5, [.ref r, .ref t, .ref im, .int hi, .ref tx, .ref ch, .ref ro, .ref rf, .ref pl, .ref ot, .ref cl])), (rf, .inl (cI, 6, .inl F)), (r, .inr (1, [.int q, .int nw, .ref rn])), (rn, .inl (cI, 20, .inl v))] sz) := by
  refine Met.ofW (cc := cX5_terms) (maxL := 4) (ret := (some .int)) (by decide) rfl ?_
  intro p e s m args below meth c s₁ B hml hv
  obtain ⟨rfl, hsz, hP, hK, hD0, hN⟩ := hv
  have hx := B.exec
  have hb := B.bytes
  have hr := B.returns
  have hts := atoms_spec (ws := wsX5_terms) B.pre
  have hown : s.vm.findClass RX5 = some m.cls := findClass_of_methodNamed B.named
  have hlocks := B.notSynchronized
  subst hsz
  have hD := hD0.self (sz := s.heap.size)
  generalize hAe : va_A [(x, .inr (5, [.ref r, .ref t, .ref im, .int hi, .ref tx, .ref ch, .ref ro, .ref rf, .ref pl, .ref ot, .ref cl])), (rf, .inl (cI, 6, .inl F)), (r, .inr (1, [.int q, .int nw, .ref rn])), (rn, .inl (cI, 20, .inl v))] s.heap.size = A at hD ⊢
  have hA : ∀ q : Nat, s.heap.size ≤ q → A q := fun q h => by rw [← hAe]; exact Or.inr h
  have hS : va_S A s.heap s.heap [] := va_S.rf
  have hP : va_P D vwCl [(x, .inr (5, [.ref r, .ref t, .ref im, .int hi, .ref tx, .ref ch, .ref ro, .ref rf, .ref pl, .ref ot, .ref cl])), (rf, .inl (cI, 6, .inl F)), (r, .inr (1, [.int q, .int nw, .ref rn])), (rn, .inl (cI, 20, .inl v))] s.heap := hP
  have hl := lv_entry ([.ref x, .int w, .int j]) (n := 4) (Nat.le_of_ble_eq_true rfl)
  rw [lg_entry_eq]
  generalize (lg_sl ([.ref x, .int w, .int j]) ++ List.replicate (4 - (lg_sl ([.ref x, .int w, .int j])).length) Slot.unset).toArray = ls at hl ⊢
  have hl : lv_has ls 4 [(0, .ref x), (1, .int w), (2, .int j)] := hl
  refine lv_aload_n hx hb dX5_terms_0 rfl (lv_at hl 0 rfl) ?_
  refine va_get (D := D) (ci := 5) (v := .ref r) (C := RX5) (T := TX5) (N := 11) hx hb hts (in_X5_terms_X5) hown hK hP 0 rfl rfl 0 (by decide) (hts (.fieldLink RX5 10 "StepsRoundCircle" "ring" "LStepsRoundCircle$Ring;") (by decide +kernel)) (fun _ h9 => h9) rfl dX5_terms_1 ?_
  refine lv_iload_n hx hb dX5_terms_4 rfl (lv_at hl 1 rfl) ?_
  refine rdV (As := [.int w]) (rest := []) ⟨hx, hb, hml, hown, hts⟩ (c_X1_has l D cI cZ cR r rn q nw v w ) (cwV 1 hts gX5_terms_X1_has rfl rfl rfl (by decide +kernel) ⟨Nat.le_of_ble_eq_true rfl, Nat.le_of_ble_eq_true rfl⟩) hK hN hP 2 1 rfl rfl rfl [2, 3] rfl rfl hl.1 rfl (Nat.le_of_ble_eq_true rfl) dX5_terms_5 ⟨Nat.zero_le _, Nat.zero_le _⟩ ?_
  refine lv_if_ne (tgt := 17) hx hb dX5_terms_8 (by decide) (fun c_8 => ?_) (fun c_8 => ?_)
  · skip
    have c_8 := bi_ne0.mp c_8
    refine lv_iload_n hx hb dX5_terms_17 rfl (lv_at hl 2 rfl) ?_
    refine lv_iconst (v := (-1)) hx hb dX5_terms_18 (by decide) ?_
    refine lv_icmp_ge (tgt := 29) hx hb dX5_terms_19 (by decide) (fun c_19 => ?_) (fun c_19 => ?_)
    · skip
      have hqN := okQ_N hq
      have hsN := st_N hq (hws w c_8).2.1
      have eR : rf_ter nw w j = 0 := by unfold rf_ter; rw [if_neg (fun z => z c_8), if_neg (Int32.not_lt.mpr c_19)]
      refine lv_aload_n hx hb dX5_terms_29 rfl (lv_at hl 0 rfl) ?_
      refine va_get (D := D) (ci := 5) (v := .ref r) (C := RX5) (T := TX5) (N := 11) hx hb hts (in_X5_terms_X5) hown hK hP 0 rfl rfl 0 (by decide) (hts (.fieldLink RX5 10 "StepsRoundCircle" "ring" "LStepsRoundCircle$Ring;") (by decide +kernel)) (fun _ h9 => h9) rfl dX5_terms_30 ?_
      refine lv_iload_n hx hb dX5_terms_33 rfl (lv_at hl 1 rfl) ?_
      refine lv_iconst (v := 1) hx hb dX5_terms_34 (by decide) ?_
      refine rdV (As := [.int w, .int 1]) (rest := []) ⟨hx, hb, hml, hown, hts⟩ (c_X1_value l D cI cZ cR r rn q nw v w 1 ) (cwV 2 hts gX5_terms_X1_value rfl rfl rfl (by decide +kernel) ⟨Nat.le_of_ble_eq_true rfl, Nat.le_of_ble_eq_true rfl⟩) hK hN hP 2 1 rfl rfl rfl [2, 3] rfl rfl hl.1 rfl (Nat.le_of_ble_eq_true rfl) dX5_terms_35 ⟨Nat.zero_le _, Nat.zero_le _⟩ ?_
      refine lv_istore_n (lv' := [(3, .int (rg_val v w 1)), (0, .ref x), (1, .int w), (2, .int j)]) hx hb dX5_terms_38 rfl hl (by decide) rfl (fun ls hl => ?_)
      refine lv_iload_n hx hb dX5_terms_39 rfl (lv_at hl 3 rfl) ?_
      refine lv_iconst (v := (-1)) hx hb dX5_terms_40 (by decide) ?_
      refine lv_icmp_ne (tgt := 58) hx hb dX5_terms_41 (by decide) (fun c_41 => ?_) (fun c_41 => ?_)
      · skip
        refine lv_iload_n hx hb dX5_terms_58 rfl (lv_at hl 0 rfl) ?_
        refine lv_topi (fun z_59 hz_59 => ?_)
        have hz_59 : z_59 = nI (rg_val v w 1).toNatClampNeg := hz_59.trans (asN (hws w c_8).2.1.1)
        subst hz_59
        refine lv_aload_n hx hb dX5_terms_59 rfl (lv_at hl 1 rfl) ?_
        refine va_get (D := D) (ci := 5) (v := .ref r) (C := RX5) (T := TX5) (N := 11) hx hb hts (in_X5_terms_X5) hown hK hP 0 rfl rfl 0 (by decide) (hts (.fieldLink RX5 10 "StepsRoundCircle" "ring" "LStepsRoundCircle$Ring;") (by decide +kernel)) (fun _ h9 => h9) rfl dX5_terms_60 ?_
        refine va_get (D := D) (ci := 1) (v := .int q) (C := RX1) (T := TX1) (N := 3) hx hb hts (in_X5_terms_X1) hown hK hP 2 rfl rfl 0 (by decide) (hts (.fieldLink RX5 91 "StepsRoundCircle$Ring" "size" "I") (by decide +kernel)) (fun _ h9 => h9) rfl dX5_terms_63 ?_
        refine lv_topi (fun z_66 hz_66 => ?_)
        have hz_66 : z_66 = nI q.toNatClampNeg := hz_66.trans (asN (okQ_0 hq))
        subst hz_66
        refine lv_iload_n hx hb dX5_terms_66 rfl (lv_at hl 3 rfl) ?_
        refine rdS (As := [.int (nI (rg_val v w 1).toNatClampNeg), .int (nI q.toNatClampNeg), .int j]) (rest := []) ⟨hx, hb, hml, hown, hts⟩ (c_X5_termAt l D cI cZ cR ((rg_val v w 1).toNatClampNeg) q.toNatClampNeg L9 j (by omega) (by omega) hL (by omega)) (va_cwS 3 hts gX5_terms_X5_termAt rfl rfl rfl (by decide +kernel) ⟨Nat.le_of_ble_eq_true rfl, Nat.le_of_ble_eq_true rfl⟩) hK hN hP [] rfl rfl hl.1 rfl (Nat.le_of_ble_eq_true rfl) dX5_terms_67 ⟨Nat.zero_le _, Nat.zero_le _⟩ ?_
        exact wrI (w1 := (fun (u : (Nat → Int32)) => [(x, .inr (5, [.ref r, .ref t, .ref im, .int hi, .ref tx, .ref ch, .ref ro, .ref rf, .ref pl, .ref ot, .ref cl])), (rf, .inl (cI, 6, .inl u)), (r, .inr (1, [.int q, .int nw, .ref rn])), (rn, .inl (cI, 20, .inl v))])) F hx hb hr hlocks dX5_terms_70 hS (hP.sub [0, 1, 2, 3] rfl) (hD.sub [0, 1, 2, 3] (by decide) rfl) (⟨by rw [if_pos eR]; unfold terA; rw [if_neg c_41], by rw [if_pos eR]⟩)
      · skip
        refine lv_iload_n hx hb dX5_terms_44 rfl (lv_at hl 0 rfl) ?_
        refine lv_topi (fun z_45 hz_45 => ?_)
        have hz_45 : z_45 = nI (rg_val v w 1).toNatClampNeg := hz_45.trans (asN (hws w c_8).2.1.1)
        subst hz_45
        refine lv_aload_n hx hb dX5_terms_45 rfl (lv_at hl 1 rfl) ?_
        refine va_get (D := D) (ci := 5) (v := .ref r) (C := RX5) (T := TX5) (N := 11) hx hb hts (in_X5_terms_X5) hown hK hP 0 rfl rfl 0 (by decide) (hts (.fieldLink RX5 10 "StepsRoundCircle" "ring" "LStepsRoundCircle$Ring;") (by decide +kernel)) (fun _ h9 => h9) rfl dX5_terms_46 ?_
        refine va_get (D := D) (ci := 1) (v := .int q) (C := RX1) (T := TX1) (N := 3) hx hb hts (in_X5_terms_X1) hown hK hP 2 rfl rfl 0 (by decide) (hts (.fieldLink RX5 91 "StepsRoundCircle$Ring" "size" "I") (by decide +kernel)) (fun _ h9 => h9) rfl dX5_terms_49 ?_
        refine lv_topi (fun z_52 hz_52 => ?_)
        have hz_52 : z_52 = nI q.toNatClampNeg := hz_52.trans (asN (okQ_0 hq))
        subst hz_52
        refine rdS (As := [.int (nI (rg_val v w 1).toNatClampNeg), .int (nI q.toNatClampNeg)]) (rest := []) ⟨hx, hb, hml, hown, hts⟩ (c_X5_howManyTerms l D cI cZ cR ((rg_val v w 1).toNatClampNeg) q.toNatClampNeg L9 (by omega) (by omega) hL (by omega)) (va_cwS 2 hts gX5_terms_X5_howManyTerms rfl rfl rfl (by decide +kernel) ⟨Nat.le_of_ble_eq_true rfl, Nat.le_of_ble_eq_true rfl⟩) hK hN hP [] rfl rfl hl.1 rfl (Nat.le_of_ble_eq_true rfl) dX5_terms_52 ⟨Nat.zero_le _, Nat.zero_le _⟩ ?_
        refine lv_goto (tgt := 70) hx hb dX5_terms_55 (by decide) ?_
        exact wrI (w1 := (fun (u : (Nat → Int32)) => [(x, .inr (5, [.ref r, .ref t, .ref im, .int hi, .ref tx, .ref ch, .ref ro, .ref rf, .ref pl, .ref ot, .ref cl])), (rf, .inl (cI, 6, .inl u)), (r, .inr (1, [.int q, .int nw, .ref rn])), (rn, .inl (cI, 20, .inl v))])) F hx hb hr hlocks dX5_terms_70 hS (hP.sub [0, 1, 2, 3] rfl) (hD.sub [0, 1, 2, 3] (by decide) rfl) (⟨by rw [if_pos eR]; unfold terA; rw [if_pos c_41], by rw [if_pos eR]⟩)
    · skip
      refine lv_aload_n hx hb dX5_terms_22 rfl (lv_at hl 0 rfl) ?_
      refine lv_bipush (v := (-4)) hx hb dX5_terms_23 (by decide) ?_
      refine wrVi (As := [.int (-4)]) (rest := []) (wr := [(r, .inr (1, [.int q, .int nw, .ref rn])), (rn, .inl (cI, 20, .inl v))]) (A := A) ⟨hx, hb, hml, hown, hts⟩ (c_X5_refuse l D cI cZ cR x r t im tx ch ro rf pl ot cl hi F (-4)  s.heap.size) (cwV 1 hts gX5_terms_X5_refuse rfl rfl rfl (by decide +kernel) ⟨Nat.le_of_ble_eq_true rfl, Nat.le_of_ble_eq_true rfl⟩) hK hN hP hD hS hA 0 5 rfl rfl rfl [0, 1] [2, 3] rfl (by decide) rfl (by decide) (by decide) rfl hl.1 rfl (Nat.le_of_ble_eq_true rfl) dX5_terms_25 ⟨Nat.zero_le _, Nat.zero_le _⟩ (fun r_25 u H locs hw hP hD hS => ?_)
      obtain ⟨F_25, rfl⟩ : ∃ z, z = u := ⟨_, rfl⟩
      try dsimp only at hw
      obtain ⟨q1_25, q2_25⟩ := hw
      have q1_25 := q1_25.symm
      subst q1_25
      have q2_25 := q2_25.symm
      subst q2_25
      have hP : va_P D vwCl [(x, .inr (5, [.ref r, .ref t, .ref im, .int hi, .ref tx, .ref ch, .ref ro, .ref rf, .ref pl, .ref ot, .ref cl])), (rf, .inl (cI, 6, .inl (rf_bump F (-4)))), (r, .inr (1, [.int q, .int nw, .ref rn])), (rn, .inl (cI, 20, .inl v))] H := hP.sub [2, 3, 0, 1] rfl
      have hD : va_D A [(x, .inr (5, [.ref r, .ref t, .ref im, .int hi, .ref tx, .ref ch, .ref ro, .ref rf, .ref pl, .ref ot, .ref cl])), (rf, .inl (cI, 6, .inl (rf_bump F (-4)))), (r, .inr (1, [.int q, .int nw, .ref rn])), (rn, .inl (cI, 20, .inl v))] := hD.sub [2, 3, 0, 1] (by decide) rfl
      exact wrI (w1 := (fun (u : (Nat → Int32)) => [(x, .inr (5, [.ref r, .ref t, .ref im, .int hi, .ref tx, .ref ch, .ref ro, .ref rf, .ref pl, .ref ot, .ref cl])), (rf, .inl (cI, 6, .inl u)), (r, .inr (1, [.int q, .int nw, .ref rn])), (rn, .inl (cI, 20, .inl v))])) (rf_bump F (-4)) hx hb hr hlocks dX5_terms_28 hS (hP.sub [0, 1, 2, 3] rfl) (hD.sub [0, 1, 2, 3] (by decide) rfl) (by have e9 : rf_ter nw w j = -4 := (by unfold rf_ter; rw [if_neg (fun z => z c_8), if_pos (Int32.not_le.mp c_19)]); simp [e9])
  · skip
    have c_8 := bi_eq0.mp c_8
    refine lv_aload_n hx hb dX5_terms_11 rfl (lv_at hl 0 rfl) ?_
    refine lv_iconst (v := (-1)) hx hb dX5_terms_12 (by decide) ?_
    refine wrVi (As := [.int (-1)]) (rest := []) (wr := [(r, .inr (1, [.int q, .int nw, .ref rn])), (rn, .inl (cI, 20, .inl v))]) (A := A) ⟨hx, hb, hml, hown, hts⟩ (c_X5_refuse l D cI cZ cR x r t im tx ch ro rf pl ot cl hi F (-1)  s.heap.size) (cwV 1 hts gX5_terms_X5_refuse rfl rfl rfl (by decide +kernel) ⟨Nat.le_of_ble_eq_true rfl, Nat.le_of_ble_eq_true rfl⟩) hK hN hP hD hS hA 0 5 rfl rfl rfl [0, 1] [2, 3] rfl (by decide) rfl (by decide) (by decide) rfl hl.1 rfl (Nat.le_of_ble_eq_true rfl) dX5_terms_13 ⟨Nat.zero_le _, Nat.zero_le _⟩ (fun r_13 u H locs hw hP hD hS => ?_)
    obtain ⟨F_13, rfl⟩ : ∃ z, z = u := ⟨_, rfl⟩
    try dsimp only at hw
    obtain ⟨q1_13, q2_13⟩ := hw
    have q1_13 := q1_13.symm
    subst q1_13
    have q2_13 := q2_13.symm
    subst q2_13
    have hP : va_P D vwCl [(x, .inr (5, [.ref r, .ref t, .ref im, .int hi, .ref tx, .ref ch, .ref ro, .ref rf, .ref pl, .ref ot, .ref cl])), (rf, .inl (cI, 6, .inl (rf_bump F (-1)))), (r, .inr (1, [.int q, .int nw, .ref rn])), (rn, .inl (cI, 20, .inl v))] H := hP.sub [2, 3, 0, 1] rfl
    have hD : va_D A [(x, .inr (5, [.ref r, .ref t, .ref im, .int hi, .ref tx, .ref ch, .ref ro, .ref rf, .ref pl, .ref ot, .ref cl])), (rf, .inl (cI, 6, .inl (rf_bump F (-1)))), (r, .inr (1, [.int q, .int nw, .ref rn])), (rn, .inl (cI, 20, .inl v))] := hD.sub [2, 3, 0, 1] (by decide) rfl
    exact wrI (w1 := (fun (u : (Nat → Int32)) => [(x, .inr (5, [.ref r, .ref t, .ref im, .int hi, .ref tx, .ref ch, .ref ro, .ref rf, .ref pl, .ref ot, .ref cl])), (rf, .inl (cI, 6, .inl u)), (r, .inr (1, [.int q, .int nw, .ref rn])), (rn, .inl (cI, 20, .inl v))])) (rf_bump F (-1)) hx hb hr hlocks dX5_terms_16 hS (hP.sub [0, 1, 2, 3] rfl) (hD.sub [0, 1, 2, 3] (by decide) rfl) (by have e9 : rf_ter nw w j = -1 := (by unfold rf_ter; rw [if_pos c_8]); simp [e9])

set_option maxHeartbeats 4000000 in
set_option maxRecDepth 100000 in
theorem c_X6_takesTerms (l : Launch) (D : va_G) (cI cZ cR : ClassId) (y yr yw yc yl ys yp ym yo yk yt yi yz yx yu : Nat) (mq mn mc me md mz km kr : Int32) (v tf9 : Nat → Int32) (w : Int32) (L9 : Nat) (hq : okQ mq) (hw : 0 ≤ w ∧ w < 5) (hv : okW mq v w) (hL : eL (rg_val v w 1).toNatClampNeg mq.toNatClampNeg L9) (hL9 : L9 ≤ 40) (sz : Nat) : Met l yX6_takesTerms wsX6_takesTerms ({ frames := 1, cells := 0, slots := 0, locals := 22 }) (PcW D cI cZ cR [.ref y, .int w] [(y, .inr (6, [.ref yr, .int mq, .int mn, .ref yw, .ref yc, .int mc, .ref yl, .int me, .ref ys, .ref yp, .ref ym, .int md, .ref yo, .ref yk, .ref yt, .int mz, .ref yi, .ref yz, .ref yx, .ref yu, .int km, .int kr])), (yw, .inl (cI, 20, .inl v)), (yt, .inl (cI, 40, .inl tf9))] sz) (va_Qi (fun (res : Int32) (u : (Nat → Int32)) => res = nI L9 ∧ (∀ t, t < L9 → u t = nI (eT (rg_val v w 1).toNatClampNeg mq.toNatClampNeg t))) (Bw D (fun (u : (Nat → Int32)) => [(y, .inr (6, [.ref yr, .int mq, .int mn, .ref yw, .ref yc, .int mc, .ref yl, .int me, .ref ys, .ref yp, .ref ym, .int md, .ref yo, .ref yk, .ref yt, .int mz, .ref yi, .ref yz, .ref yx, .ref yu, .int km, .int kr])), (yw, .inl (cI, 20, .inl v)), (yt, .inl (cI, 40, .inl u))]) (va_A [(y, .inr (6, [.ref yr, .int mq, .int mn, .ref yw, .ref yc, .int mc, .ref yl, .int me, .ref ys, .ref yp, .ref ym, .int md, .ref yo, .ref yk, .ref yt, .int mz, .ref yi, .ref yz, .ref yx, .ref yu, .int km, .int kr])), (yw, .inl (cI, 20, .inl v)), (yt, .inl (cI, 40, .inl tf9))] sz)) (va_A [(y, .inr (6, [.ref yr, .int mq, .int mn, .ref yw, .ref yc, .int mc, .ref yl, .int me, .ref ys, .ref yp, .ref ym, .int md, .ref yo, .ref yk, .ref yt, .int mz, .ref yi, .ref yz, .ref yx, .ref yu, .int km, .int kr])), (yw, .inl (cI, 20, .inl v)), (yt, .inl (cI, 40, .inl tf9))] sz)) 0 0 (va_A [(y, .inr (6, [.ref yr, .int mq, .int mn, .ref yw, .ref yc, .int mc, .ref yl, .int me, .ref ys, .ref yp, .ref ym, .int md, .ref yo, .ref yk, .ref yt, .int mz, .ref yi, .ref yz, .ref yx, .ref yu, .int km, .int kr])), (yw, .inl (cI, 20, .inl v)), (yt, .inl (cI, 40, .inl tf9))] sz) := by
  refine Met.ofW (cc := cX6_takesTerms) (maxL := 6) (ret := (some .int)) (by decide) rfl ?_
  intro p e s m args below meth c s₁ B hml hv
  obtain ⟨rfl, hsz, hP, hK, hD0, hN⟩ := hv
  have hx := B.exec
  have hb := B.bytes
  have hr := B.returns
  have hts := atoms_spec (ws := wsX6_takesTerms) B.pre
  have hown : s.vm.findClass RX6 = some m.cls := findClass_of_methodNamed B.named
  have hlocks := B.notSynchronized
  subst hsz
  have hD := hD0.self (sz := s.heap.size)
  generalize hAe : va_A [(y, .inr (6, [.ref yr, .int mq, .int mn, .ref yw, .ref yc, .int mc, .ref yl, .int me, .ref ys, .ref yp, .ref ym, .int md, .ref yo, .ref yk, .ref yt, .int mz, .ref yi, .ref yz, .ref yx, .ref yu, .int km, .int kr])), (yw, .inl (cI, 20, .inl v)), (yt, .inl (cI, 40, .inl tf9))] s.heap.size = A at hD ⊢
  have hA : ∀ q : Nat, s.heap.size ≤ q → A q := fun q h => by rw [← hAe]; exact Or.inr h
  have hS : va_S A s.heap s.heap [] := va_S.rf
  have hP : va_P D vwCl [(y, .inr (6, [.ref yr, .int mq, .int mn, .ref yw, .ref yc, .int mc, .ref yl, .int me, .ref ys, .ref yp, .ref ym, .int md, .ref yo, .ref yk, .ref yt, .int mz, .ref yi, .ref yz, .ref yx, .ref yu, .int km, .int kr])), (yw, .inl (cI, 20, .inl v)), (yt, .inl (cI, 40, .inl tf9))] s.heap := hP
  have hl := lv_entry ([.ref y, .int w]) (n := 6) (Nat.le_of_ble_eq_true rfl)
  rw [lg_entry_eq]
  generalize (lg_sl ([.ref y, .int w]) ++ List.replicate (6 - (lg_sl ([.ref y, .int w])).length) Slot.unset).toArray = ls at hl ⊢
  have hl : lv_has ls 6 [(0, .ref y), (1, .int w)] := hl
  have hqN := okQ_N hq
  have hsN := st_N hq hv.2.1
  refine lv_aload_n hx hb dX6_takesTerms_0 rfl (lv_at hl 0 rfl) ?_
  refine lv_iload_n hx hb dX6_takesTerms_1 rfl (lv_at hl 1 rfl) ?_
  refine lv_iconst (v := 1) hx hb dX6_takesTerms_2 (by decide) ?_
  refine rdV (As := [.int w, .int 1]) (rest := []) ⟨hx, hb, hml, hown, hts⟩ (c_X6_at l D cI cZ cR y yr yw yc yl ys yp ym yo yk yt yi yz yx yu mq mn mc me md mz km kr v w 1 hw (by decide)) (cwV 2 hts gX6_takesTerms_X6_at rfl rfl rfl (by decide +kernel) ⟨Nat.le_of_ble_eq_true rfl, Nat.le_of_ble_eq_true rfl⟩) hK hN hP 0 6 rfl rfl rfl [0, 1] rfl rfl hl.1 rfl (Nat.le_of_ble_eq_true rfl) dX6_takesTerms_3 ⟨Nat.zero_le _, Nat.zero_le _⟩ ?_
  refine lv_istore_n (lv' := [(2, .int (rg_val v w 1)), (0, .ref y), (1, .int w)]) hx hb dX6_takesTerms_6 rfl hl (by decide) rfl (fun ls hl => ?_)
  refine lv_aload_n hx hb dX6_takesTerms_7 rfl (lv_at hl 1 rfl) ?_
  refine va_get (D := D) (ci := 6) (v := .int mq) (C := RX6) (T := TX6) (N := 22) hx hb hts (in_X6_takesTerms_X6) hown hK hP 0 rfl rfl 1 (by decide) (hts (.fieldLink RX6 13 "StepsRoundCircleModel" "round" "I") (by decide +kernel)) (fun _ h9 => h9) rfl dX6_takesTerms_8 ?_
  refine lv_istore_n (lv' := [(3, .int mq), (2, .int (rg_val v w 1)), (0, .ref y), (1, .int w)]) hx hb dX6_takesTerms_11 rfl hl (by decide) rfl (fun ls hl => ?_)
  refine lv_iconst (v := 0) hx hb dX6_takesTerms_12 (by decide) ?_
  refine lv_istore (lv' := [(4, .int 0), (3, .int mq), (2, .int (rg_val v w 1)), (0, .ref y), (1, .int w)]) hx hb dX6_takesTerms_13 hl (by decide) rfl (fun ls hl => ?_)
  have loop_15 : ∀ (fuel : Nat), ∀ (i : Nat), ∀ (g : Nat → Int32), (i ≤ L9) → (∀ t, t < i → g t = nI (eT (rg_val v w 1).toNatClampNeg mq.toNatClampNeg t)) → (L9 + 1 ≤ i + fuel) → ∀ (y2 : Int32), y2 = nI (eS (rg_val v w 1).toNatClampNeg mq.toNatClampNeg i).1 → ∀ (y3 : Int32), y3 = nI (eS (rg_val v w 1).toNatClampNeg mq.toNatClampNeg i).2 → ∀ (y4 : Int32), y4 = nI i → ∀ (H : Heap) (locs : List Loc), va_P D vwCl [(y, .inr (6, [.ref yr, .int mq, .int mn, .ref yw, .ref yc, .int mc, .ref yl, .int me, .ref ys, .ref yp, .ref ym, .int md, .ref yo, .ref yk, .ref yt, .int mz, .ref yi, .ref yz, .ref yx, .ref yu, .int km, .int kr])), (yw, .inl (cI, 20, .inl v)), (yt, .inl (cI, 40, .inl g))] H → va_D A [(y, .inr (6, [.ref yr, .int mq, .int mn, .ref yw, .ref yc, .int mc, .ref yl, .int me, .ref ys, .ref yp, .ref ym, .int md, .ref yo, .ref yk, .ref yt, .int mz, .ref yi, .ref yz, .ref yx, .ref yu, .int km, .int kr])), (yw, .inl (cI, 20, .inl v)), (yt, .inl (cI, 40, .inl g))] → va_S A s.heap H locs → ∀ (ls : Array Slot), lv_has ls 6 [(2, .int y2), (3, .int y3), (4, .int y4), (0, .ref y), (1, .int w)] → W p l e (headSpec wsX6_takesTerms ({ frames := 1, cells := 0, slots := 0, locals := 22 })).room s m ([.ref y, .int w] : List Value).toArray below meth c H locs 0 0 (MQ below (va_Qi (fun (res : Int32) (u : (Nat → Int32)) => res = nI L9 ∧ (∀ t, t < L9 → u t = nI (eT (rg_val v w 1).toNatClampNeg mq.toNatClampNeg t))) (Bw D (fun (u : (Nat → Int32)) => [(y, .inr (6, [.ref yr, .int mq, .int mn, .ref yw, .ref yc, .int mc, .ref yl, .int me, .ref ys, .ref yp, .ref ym, .int md, .ref yo, .ref yk, .ref yt, .int mz, .ref yi, .ref yz, .ref yx, .ref yu, .int km, .int kr])), (yw, .inl (cI, 20, .inl v)), (yt, .inl (cI, 40, .inl u))]) A) A) ([.ref y, .int w] : List Value).toArray s 0 0 A) (F0 m 15 ls []) := by
    intro fuel
    induction fuel with
    | zero =>
      intro i g hi hg hfu
      exact False.elim (by omega)
    | succ fuel ih_15 =>
      intro i g hi hg hfu y2 ey2 y3 ey3 y4 ey4 H locs hP hD hS ls hl
      subst ey2
      subst ey3
      subst ey4
      have hbd := eS_bd (M := 2001) (show (rg_val v w 1).toNatClampNeg < 2001 by omega) (show mq.toNatClampNeg < 2001 by omega) i (fun t ht => hL.1 t (by omega))
      refine lv_iload_n hx hb dX6_takesTerms_15 rfl (lv_at hl 1 rfl) ?_
      refine lv_if_le (tgt := 45) hx hb dX6_takesTerms_16 (by decide) (fun c_16 => ?_) (fun c_16 => ?_)
      · skip
        refine lv_iload hx hb dX6_takesTerms_45 (lv_at hl 2 rfl) ?_
        exact wrI (w1 := (fun (u : (Nat → Int32)) => [(y, .inr (6, [.ref yr, .int mq, .int mn, .ref yw, .ref yc, .int mc, .ref yl, .int me, .ref ys, .ref yp, .ref ym, .int md, .ref yo, .ref yk, .ref yt, .int mz, .ref yi, .ref yz, .ref yx, .ref yu, .int km, .int kr])), (yw, .inl (cI, 20, .inl v)), (yt, .inl (cI, 40, .inl u))])) g hx hb hr hlocks dX6_takesTerms_47 hS (hP.sub [0, 1, 2] rfl) (hD.sub [0, 1, 2] (by decide) rfl) (by have hz9 : (eS (rg_val v w 1).toNatClampNeg mq.toNatClampNeg i).2 = 0 := (by have := (nI_leI (b := 0) (by omega) (by omega)).mp c_16; omega); have hiL : i = L9 := (by rcases Nat.lt_or_ge i L9 with q9 | q9; exact absurd (hL.1 i q9) (by omega); omega); refine ⟨by rw [hiL], ?_⟩; rw [← hiL]; exact hg)
      · skip
        have hp0 : 0 < (eS (rg_val v w 1).toNatClampNeg mq.toNatClampNeg i).2 := by rcases Nat.eq_zero_or_pos (eS (rg_val v w 1).toNatClampNeg mq.toNatClampNeg i).2 with q9 | q9; exact absurd (by rw [q9]; exact nI_0 ▸ (Int32.le_refl _)) c_16; exact q9
        have hiL : i < L9 := by rcases Nat.lt_or_ge i L9 with q9 | q9; exact q9; exact absurd hL.2 (by rw [show L9 = i by omega]; omega)
        refine lv_aload_n hx hb dX6_takesTerms_19 rfl (lv_at hl 3 rfl) ?_
        refine va_get (D := D) (ci := 6) (v := .ref yt) (C := RX6) (T := TX6) (N := 22) hx hb hts (in_X6_takesTerms_X6) hown hK hP 0 rfl rfl 14 (by decide) (hts (.fieldLink RX6 41 "StepsRoundCircleModel" "terms" "[I") (by decide +kernel)) (fun _ h9 => h9) rfl dX6_takesTerms_20 ?_
        refine lv_iload hx hb dX6_takesTerms_23 (lv_at hl 2 rfl) ?_
        refine lv_iload_n hx hb dX6_takesTerms_25 rfl (lv_at hl 0 rfl) ?_
        refine lv_iload_n hx hb dX6_takesTerms_26 rfl (lv_at hl 1 rfl) ?_
        refine lv_idiv hx hb dX6_takesTerms_27 (nI_ne0 hp0 (by omega)) ?_
        refine lv_topi (fun z_28 hz_28 => ?_)
        have hz_28 : z_28 = nI (eT (rg_val v w 1).toNatClampNeg mq.toNatClampNeg i) := hz_28.trans (pk_div (by omega) hp0 (by omega))
        subst hz_28
        refine va_iast hx hb hK hP hD hS 2 0 rfl rfl (vp_in_nI (by omega) (by omega)) dX6_takesTerms_28 (fun H locs hP hD hS => ?_)
        have hP : va_P D vwCl [(y, .inr (6, [.ref yr, .int mq, .int mn, .ref yw, .ref yc, .int mc, .ref yl, .int me, .ref ys, .ref yp, .ref ym, .int md, .ref yo, .ref yk, .ref yt, .int mz, .ref yi, .ref yz, .ref yx, .ref yu, .int km, .int kr])), (yw, .inl (cI, 20, .inl v)), (yt, .inl (cI, 40, .inl (upd g ((nI i).toNatClampNeg) (nI (eT (rg_val v w 1).toNatClampNeg mq.toNatClampNeg i)))))] H := hP
        have hD : va_D A [(y, .inr (6, [.ref yr, .int mq, .int mn, .ref yw, .ref yc, .int mc, .ref yl, .int me, .ref ys, .ref yp, .ref ym, .int md, .ref yo, .ref yk, .ref yt, .int mz, .ref yi, .ref yz, .ref yx, .ref yu, .int km, .int kr])), (yw, .inl (cI, 20, .inl v)), (yt, .inl (cI, 40, .inl (upd g ((nI i).toNatClampNeg) (nI (eT (rg_val v w 1).toNatClampNeg mq.toNatClampNeg i)))))] := hD
        refine lv_iinc (v := (nI i) + 1) (lv' := [(4, .int ((nI i) + 1)), (2, .int (nI (eS (rg_val v w 1).toNatClampNeg mq.toNatClampNeg i).1)), (3, .int (nI (eS (rg_val v w 1).toNatClampNeg mq.toNatClampNeg i).2)), (0, .ref y), (1, .int w)]) hx hb dX6_takesTerms_29 hl (k := 2) rfl (by rfl) (by decide) rfl (fun ls hl => ?_)
        refine lv_iload_n hx hb dX6_takesTerms_32 rfl (lv_at hl 1 rfl) ?_
        refine lv_iload_n hx hb dX6_takesTerms_33 rfl (lv_at hl 2 rfl) ?_
        refine lv_irem hx hb dX6_takesTerms_34 (nI_ne0 hp0 (by omega)) ?_
        refine lv_topi (fun z_35 hz_35 => ?_)
        have hz_35 : z_35 = nI ((eS (rg_val v w 1).toNatClampNeg mq.toNatClampNeg i).1 % (eS (rg_val v w 1).toNatClampNeg mq.toNatClampNeg i).2) := hz_35.trans (pk_rem (by omega) hp0 (by omega))
        subst hz_35
        refine lv_istore (lv' := [(5, .int (nI ((eS (rg_val v w 1).toNatClampNeg mq.toNatClampNeg i).1 % (eS (rg_val v w 1).toNatClampNeg mq.toNatClampNeg i).2))), (4, .int ((nI i) + 1)), (2, .int (nI (eS (rg_val v w 1).toNatClampNeg mq.toNatClampNeg i).1)), (3, .int (nI (eS (rg_val v w 1).toNatClampNeg mq.toNatClampNeg i).2)), (0, .ref y), (1, .int w)]) hx hb dX6_takesTerms_35 hl (by decide) rfl (fun ls hl => ?_)
        refine lv_iload_n hx hb dX6_takesTerms_37 rfl (lv_at hl 3 rfl) ?_
        refine lv_istore_n (lv' := [(2, .int (nI (eS (rg_val v w 1).toNatClampNeg mq.toNatClampNeg i).2)), (5, .int (nI ((eS (rg_val v w 1).toNatClampNeg mq.toNatClampNeg i).1 % (eS (rg_val v w 1).toNatClampNeg mq.toNatClampNeg i).2))), (4, .int ((nI i) + 1)), (3, .int (nI (eS (rg_val v w 1).toNatClampNeg mq.toNatClampNeg i).2)), (0, .ref y), (1, .int w)]) hx hb dX6_takesTerms_38 rfl hl (by decide) rfl (fun ls hl => ?_)
        refine lv_iload hx hb dX6_takesTerms_39 (lv_at hl 1 rfl) ?_
        refine lv_istore_n (lv' := [(3, .int (nI ((eS (rg_val v w 1).toNatClampNeg mq.toNatClampNeg i).1 % (eS (rg_val v w 1).toNatClampNeg mq.toNatClampNeg i).2))), (2, .int (nI (eS (rg_val v w 1).toNatClampNeg mq.toNatClampNeg i).2)), (5, .int (nI ((eS (rg_val v w 1).toNatClampNeg mq.toNatClampNeg i).1 % (eS (rg_val v w 1).toNatClampNeg mq.toNatClampNeg i).2))), (4, .int ((nI i) + 1)), (0, .ref y), (1, .int w)]) hx hb dX6_takesTerms_41 rfl hl (by decide) rfl (fun ls hl => ?_)
        refine lv_goto (tgt := 15) hx hb dX6_takesTerms_42 (by decide) ?_
        exact ih_15 (i + 1) (upd g ((nI i).toNatClampNeg) (nI (eT (rg_val v w 1).toNatClampNeg mq.toNatClampNeg i))) (by omega) (by intro t ht; rw [nI_clamp (by omega)]; by_cases e9 : t = i; (· subst e9; exact pk_us); (· rw [pk_un e9]; exact hg t (by omega))) (by omega) _ rfl _ rfl _ (by first | rfl | exact nI_1 _ | exact nI_0.symm) _ _ (hP.sub [0, 1, 2] rfl) (hD.sub [0, 1, 2] (by decide) rfl) hS ls (lv_sub hl [1, 0, 3, 4, 5] rfl)
  exact loop_15 (L9 + 1) 0 tf9 (by omega) (fun t ht => absurd ht (Nat.not_lt_zero t)) (by omega) _ (asN hv.2.1.1) _ (asN (okQ_0 hq)) _ (by first | rfl | exact nI_1 _ | exact nI_0.symm) _ _ (hP.sub [0, 1, 2] rfl) (hD.sub [0, 1, 2] (by decide) rfl) hS ls (lv_sub hl [2, 1, 0, 3, 4] rfl)

set_option maxHeartbeats 4000000 in
set_option maxRecDepth 100000 in
theorem c_X6_terms (l : Launch) (D : va_G) (cI cZ cR : ClassId) (y yr yw yc yl ys yp ym yo yk yt yi yz yx yu : Nat) (mq mn mc me md mz km kr : Int32) (G : Nat → Int32) (v tf9 : Nat → Int32) (w j : Int32) (L9 : Nat) (hq : okQ mq) (hmn : 0 ≤ mn) (hm5 : mn ≤ 5) (hws : ∀ w, 0 ≤ w ∧ w < mn → okW mq v w) (hL : eL (rg_val v w 1).toNatClampNeg mq.toNatClampNeg L9) (hL9 : L9 ≤ 40) (sz : Nat) : Met l yX6_terms wsX6_terms ({ frames := 2, cells := 0, slots := 0, locals := 47 }) (PcW D cI cZ cR [.ref y, .int w, .int j] [(y, .inr (6, [.ref yr, .int mq, .int mn, .ref yw, .ref yc, .int mc, .ref yl, .int me, .ref ys, .ref yp, .ref ym, .int md, .ref yo, .ref yk, .ref yt, .int mz, .ref yi, .ref yz, .ref yx, .ref yu, .int km, .int kr])), (yr, .inl (cI, 7, .inl G)), (yw, .inl (cI, 20, .inl v)), (yt, .inl (cI, 40, .inl tf9))] sz) (va_Qi (fun (res : Int32) (u : (Nat → Int32) × (Nat → Int32)) => res = (if rf_ter mn w j = 0 then terA (rg_val v w 1).toNatClampNeg mq.toNatClampNeg L9 j else rf_ter mn w j) ∧ u.1 = (if rf_ter mn w j = 0 then G else md_bump G (rf_ter mn w j))) (Bw D (fun (u : (Nat → Int32) × (Nat → Int32)) => [(y, .inr (6, [.ref yr, .int mq, .int mn, .ref yw, .ref yc, .int mc, .ref yl, .int me, .ref ys, .ref yp, .ref ym, .int md, .ref yo, .ref yk, .ref yt, .int mz, .ref yi, .ref yz, .ref yx, .ref yu, .int km, .int kr])), (yr, .inl (cI, 7, .inl u.1)), (yw, .inl (cI, 20, .inl v)), (yt, .inl (cI, 40, .inl u.2))]) (va_A [(y, .inr (6, [.ref yr, .int mq, .int mn, .ref yw, .ref yc, .int mc, .ref yl, .int me, .ref ys, .ref yp, .ref ym, .int md, .ref yo, .ref yk, .ref yt, .int mz, .ref yi, .ref yz, .ref yx, .ref yu, .int km, .int kr])), (yr, .inl (cI, 7, .inl G)), (yw, .inl (cI, 20, .inl v)), (yt, .inl (cI, 40, .inl tf9))] sz)) (va_A [(y, .inr (6, [.ref yr, .int mq, .int mn, .ref yw, .ref yc, .int mc, .ref yl, .int me, .ref ys, .ref yp, .ref ym, .int md, .ref yo, .ref yk, .ref yt, .int mz, .ref yi, .ref yz, .ref yx, .ref yu, .int km, .int kr])), (yr, .inl (cI, 7, .inl G)), (yw, .inl (cI, 20, .inl v)), (yt, .inl (cI, 40, .inl tf9))] sz)) 0 0 (va_A [(y, .inr (6, [.ref yr, .int mq, .int mn, .ref yw, .ref yc, .int mc, .ref yl, .int me, .ref ys, .ref yp, .ref ym, .int md, .ref yo, .ref yk, .ref yt, .int mz, .ref yi, .ref yz, .ref yx, .ref yu, .int km, .int kr])), (yr, .inl (cI, 7, .inl G)), (yw, .inl (cI, 20, .inl v)), (yt, .inl (cI, 40, .inl tf9))] sz) := by
  refine Met.ofW (cc := cX6_terms) (maxL := 4) (ret := (some .int)) (by decide) rfl ?_
  intro p e s m args below meth c s₁ B hml hv
  obtain ⟨rfl, hsz, hP, hK, hD0, hN⟩ := hv
  have hx := B.exec
  have hb := B.bytes
  have hr := B.returns
  have hts := atoms_spec (ws := wsX6_terms) B.pre
  have hown : s.vm.findClass RX6 = some m.cls := findClass_of_methodNamed B.named
  have hlocks := B.notSynchronized
  subst hsz
  have hD := hD0.self (sz := s.heap.size)
  generalize hAe : va_A [(y, .inr (6, [.ref yr, .int mq, .int mn, .ref yw, .ref yc, .int mc, .ref yl, .int me, .ref ys, .ref yp, .ref ym, .int md, .ref yo, .ref yk, .ref yt, .int mz, .ref yi, .ref yz, .ref yx, .ref yu, .int km, .int kr])), (yr, .inl (cI, 7, .inl G)), (yw, .inl (cI, 20, .inl v)), (yt, .inl (cI, 40, .inl tf9))] s.heap.size = A at hD ⊢
  have hA : ∀ q : Nat, s.heap.size ≤ q → A q := fun q h => by rw [← hAe]; exact Or.inr h
  have hS : va_S A s.heap s.heap [] := va_S.rf
  have hP : va_P D vwCl [(y, .inr (6, [.ref yr, .int mq, .int mn, .ref yw, .ref yc, .int mc, .ref yl, .int me, .ref ys, .ref yp, .ref ym, .int md, .ref yo, .ref yk, .ref yt, .int mz, .ref yi, .ref yz, .ref yx, .ref yu, .int km, .int kr])), (yr, .inl (cI, 7, .inl G)), (yw, .inl (cI, 20, .inl v)), (yt, .inl (cI, 40, .inl tf9))] s.heap := hP
  have hl := lv_entry ([.ref y, .int w, .int j]) (n := 4) (Nat.le_of_ble_eq_true rfl)
  rw [lg_entry_eq]
  generalize (lg_sl ([.ref y, .int w, .int j]) ++ List.replicate (4 - (lg_sl ([.ref y, .int w, .int j])).length) Slot.unset).toArray = ls at hl ⊢
  have hl : lv_has ls 4 [(0, .ref y), (1, .int w), (2, .int j)] := hl
  refine lv_aload_n hx hb dX6_terms_0 rfl (lv_at hl 0 rfl) ?_
  refine lv_iload_n hx hb dX6_terms_1 rfl (lv_at hl 1 rfl) ?_
  refine rdV (As := [.int w]) (rest := []) ⟨hx, hb, hml, hown, hts⟩ (c_X6_isWalker l D cI cZ cR y yr yw yc yl ys yp ym yo yk yt yi yz yx yu mq mn mc me md mz km kr w hmn) (cwV 1 hts gX6_terms_X6_isWalker rfl rfl rfl (by decide +kernel) ⟨Nat.le_of_ble_eq_true rfl, Nat.le_of_ble_eq_true rfl⟩) hK hN hP 0 6 rfl rfl rfl [0] rfl rfl hl.1 rfl (Nat.le_of_ble_eq_true rfl) dX6_terms_2 ⟨Nat.zero_le _, Nat.zero_le _⟩ ?_
  refine lv_if_ne (tgt := 14) hx hb dX6_terms_5 (by decide) (fun c_5 => ?_) (fun c_5 => ?_)
  · skip
    have c_5 := bi_ne0.mp c_5
    refine lv_iload_n hx hb dX6_terms_14 rfl (lv_at hl 2 rfl) ?_
    refine lv_iconst (v := (-1)) hx hb dX6_terms_15 (by decide) ?_
    refine lv_icmp_ge (tgt := 26) hx hb dX6_terms_16 (by decide) (fun c_16 => ?_) (fun c_16 => ?_)
    · skip
      have eR : rf_ter mn w j = 0 := by unfold rf_ter; rw [if_neg (fun z => z c_5), if_neg (Int32.not_lt.mpr c_16)]
      refine lv_aload_n hx hb dX6_terms_26 rfl (lv_at hl 0 rfl) ?_
      refine lv_iload_n hx hb dX6_terms_27 rfl (lv_at hl 1 rfl) ?_
      refine wrVi (As := [.int w]) (rest := []) (wr := [(yr, .inl (cI, 7, .inl G))]) (A := A) ⟨hx, hb, hml, hown, hts⟩ (c_X6_takesTerms l D cI cZ cR y yr yw yc yl ys yp ym yo yk yt yi yz yx yu mq mn mc me md mz km kr v tf9 w L9 hq (w5 hm5 c_5) (hws w c_5) hL hL9 s.heap.size) (cwV 1 hts gX6_terms_X6_takesTerms rfl rfl rfl (by decide +kernel) ⟨Nat.le_of_ble_eq_true rfl, Nat.le_of_ble_eq_true rfl⟩) hK hN hP hD hS hA 0 6 rfl rfl rfl [0, 2, 3] [1] rfl (by decide) rfl (by decide) (by decide) rfl hl.1 rfl (Nat.le_of_ble_eq_true rfl) dX6_terms_28 ⟨Nat.zero_le _, Nat.zero_le _⟩ (fun r_28 u H locs hw hP hD hS => ?_)
      obtain ⟨tf_28, rfl⟩ : ∃ z, z = u := ⟨_, rfl⟩
      try dsimp only at hw
      obtain ⟨q1_28, h1_28⟩ := hw
      have q1_28 := q1_28.symm
      subst q1_28
      have hP : va_P D vwCl [(y, .inr (6, [.ref yr, .int mq, .int mn, .ref yw, .ref yc, .int mc, .ref yl, .int me, .ref ys, .ref yp, .ref ym, .int md, .ref yo, .ref yk, .ref yt, .int mz, .ref yi, .ref yz, .ref yx, .ref yu, .int km, .int kr])), (yr, .inl (cI, 7, .inl G)), (yw, .inl (cI, 20, .inl v)), (yt, .inl (cI, 40, .inl tf_28))] H := hP.sub [1, 0, 2, 3] rfl
      have hD : va_D A [(y, .inr (6, [.ref yr, .int mq, .int mn, .ref yw, .ref yc, .int mc, .ref yl, .int me, .ref ys, .ref yp, .ref ym, .int md, .ref yo, .ref yk, .ref yt, .int mz, .ref yi, .ref yz, .ref yx, .ref yu, .int km, .int kr])), (yr, .inl (cI, 7, .inl G)), (yw, .inl (cI, 20, .inl v)), (yt, .inl (cI, 40, .inl tf_28))] := hD.sub [1, 0, 2, 3] (by decide) rfl
      refine lv_istore_n (lv' := [(3, .int (nI L9)), (0, .ref y), (1, .int w), (2, .int j)]) hx hb dX6_terms_31 rfl hl (by decide) rfl (fun ls hl => ?_)
      refine lv_iload_n hx hb dX6_terms_32 rfl (lv_at hl 3 rfl) ?_
      refine lv_iconst (v := (-1)) hx hb dX6_terms_33 (by decide) ?_
      refine lv_icmp_ne (tgt := 41) hx hb dX6_terms_34 (by decide) (fun c_34 => ?_) (fun c_34 => ?_)
      · skip
        refine lv_iload_n hx hb dX6_terms_41 rfl (lv_at hl 3 rfl) ?_
        refine lv_iload_n hx hb dX6_terms_42 rfl (lv_at hl 0 rfl) ?_
        refine lv_icmp_ge (tgt := 55) hx hb dX6_terms_43 (by decide) (fun c_43 => ?_) (fun c_43 => ?_)
        · skip
          refine lv_bipush (v := (-9)) hx hb dX6_terms_55 (by decide) ?_
          exact wrI (w1 := (fun (u : (Nat → Int32) × (Nat → Int32)) => [(y, .inr (6, [.ref yr, .int mq, .int mn, .ref yw, .ref yc, .int mc, .ref yl, .int me, .ref ys, .ref yp, .ref ym, .int md, .ref yo, .ref yk, .ref yt, .int mz, .ref yi, .ref yz, .ref yx, .ref yu, .int km, .int kr])), (yr, .inl (cI, 7, .inl u.1)), (yw, .inl (cI, 20, .inl v)), (yt, .inl (cI, 40, .inl u.2))])) (G, tf_28) hx hb hr hlocks dX6_terms_57 hS (hP.sub [0, 1, 2, 3] rfl) (hD.sub [0, 1, 2, 3] (by decide) rfl) (⟨by rw [if_pos eR]; unfold terA; rw [if_neg c_34, if_neg (fun z9 => absurd z9.2 (Int32.not_lt.mpr c_43))], by rw [if_pos eR]⟩)
        · skip
          have hj0 := j_0 c_16 c_34
          have hjN := jN hj0
          have hjL : j.toNatClampNeg < L9 := by have h9 := Int32.not_le.mp c_43; rw [hjN.1] at h9; exact (nI_ltI (by omega) (by omega)).mp h9
          refine lv_aload_n hx hb dX6_terms_46 rfl (lv_at hl 1 rfl) ?_
          refine va_get (D := D) (ci := 6) (v := .ref yt) (C := RX6) (T := TX6) (N := 22) hx hb hts (in_X6_terms_X6) hown hK hP 0 rfl rfl 14 (by decide) (hts (.fieldLink RX6 41 "StepsRoundCircleModel" "terms" "[I") (by decide +kernel)) (fun _ h9 => h9) rfl dX6_terms_47 ?_
          refine lv_iload_n hx hb dX6_terms_50 rfl (lv_at hl 3 rfl) ?_
          refine va_iald hx hb hK hP 3 0 rfl rfl (vp_in_iff.mpr ⟨by have h9 := hj0; rw [fa_le] at h9; exact h9, by have e9 : j.toNatClampNeg = j.toInt.toNat := rfl; have h9 := hj0; rw [fa_le] at h9; have c0 : (0 : Int32).toInt = 0 := rfl; omega⟩) dX6_terms_51 ?_
          refine lv_goto (tgt := 57) hx hb dX6_terms_52 (by decide) ?_
          exact wrI (w1 := (fun (u : (Nat → Int32) × (Nat → Int32)) => [(y, .inr (6, [.ref yr, .int mq, .int mn, .ref yw, .ref yc, .int mc, .ref yl, .int me, .ref ys, .ref yp, .ref ym, .int md, .ref yo, .ref yk, .ref yt, .int mz, .ref yi, .ref yz, .ref yx, .ref yu, .int km, .int kr])), (yr, .inl (cI, 7, .inl u.1)), (yw, .inl (cI, 20, .inl v)), (yt, .inl (cI, 40, .inl u.2))])) (G, tf_28) hx hb hr hlocks dX6_terms_57 hS (hP.sub [0, 1, 2, 3] rfl) (hD.sub [0, 1, 2, 3] (by decide) rfl) (⟨by rw [if_pos eR]; unfold terA; rw [if_neg c_34, if_pos ⟨hj0, Int32.not_le.mp c_43⟩]; exact h1_28 _ hjL, by rw [if_pos eR]⟩)
      · skip
        refine lv_iload_n hx hb dX6_terms_37 rfl (lv_at hl 0 rfl) ?_
        refine lv_goto (tgt := 57) hx hb dX6_terms_38 (by decide) ?_
        exact wrI (w1 := (fun (u : (Nat → Int32) × (Nat → Int32)) => [(y, .inr (6, [.ref yr, .int mq, .int mn, .ref yw, .ref yc, .int mc, .ref yl, .int me, .ref ys, .ref yp, .ref ym, .int md, .ref yo, .ref yk, .ref yt, .int mz, .ref yi, .ref yz, .ref yx, .ref yu, .int km, .int kr])), (yr, .inl (cI, 7, .inl u.1)), (yw, .inl (cI, 20, .inl v)), (yt, .inl (cI, 40, .inl u.2))])) (G, tf_28) hx hb hr hlocks dX6_terms_57 hS (hP.sub [0, 1, 2, 3] rfl) (hD.sub [0, 1, 2, 3] (by decide) rfl) (⟨by rw [if_pos eR]; unfold terA; rw [if_pos c_34], by rw [if_pos eR]⟩)
    · skip
      refine lv_aload_n hx hb dX6_terms_19 rfl (lv_at hl 0 rfl) ?_
      refine lv_bipush (v := (-4)) hx hb dX6_terms_20 (by decide) ?_
      refine wrVi (As := [.int (-4)]) (rest := []) (wr := [(yw, .inl (cI, 20, .inl v)), (yt, .inl (cI, 40, .inl tf9))]) (A := A) ⟨hx, hb, hml, hown, hts⟩ (c_X6_no l D cI cZ cR y yr yw yc yl ys yp ym yo yk yt yi yz yx yu mq mn mc me md mz km kr G (-4) (by decide) s.heap.size) (cwV 1 hts gX6_terms_X6_no rfl rfl rfl (by decide +kernel) ⟨Nat.le_of_ble_eq_true rfl, Nat.le_of_ble_eq_true rfl⟩) hK hN hP hD hS hA 0 6 rfl rfl rfl [0, 1] [2, 3] rfl (by decide) rfl (by decide) (by decide) rfl hl.1 rfl (Nat.le_of_ble_eq_true rfl) dX6_terms_22 ⟨Nat.zero_le _, Nat.zero_le _⟩ (fun r_22 u H locs hw hP hD hS => ?_)
      obtain ⟨G_22, rfl⟩ : ∃ z, z = u := ⟨_, rfl⟩
      try dsimp only at hw
      obtain ⟨q1_22, q2_22⟩ := hw
      have q1_22 := q1_22.symm
      subst q1_22
      have q2_22 := q2_22.symm
      subst q2_22
      have hP : va_P D vwCl [(y, .inr (6, [.ref yr, .int mq, .int mn, .ref yw, .ref yc, .int mc, .ref yl, .int me, .ref ys, .ref yp, .ref ym, .int md, .ref yo, .ref yk, .ref yt, .int mz, .ref yi, .ref yz, .ref yx, .ref yu, .int km, .int kr])), (yr, .inl (cI, 7, .inl (md_bump G (-4)))), (yw, .inl (cI, 20, .inl v)), (yt, .inl (cI, 40, .inl tf9))] H := hP.sub [2, 3, 0, 1] rfl
      have hD : va_D A [(y, .inr (6, [.ref yr, .int mq, .int mn, .ref yw, .ref yc, .int mc, .ref yl, .int me, .ref ys, .ref yp, .ref ym, .int md, .ref yo, .ref yk, .ref yt, .int mz, .ref yi, .ref yz, .ref yx, .ref yu, .int km, .int kr])), (yr, .inl (cI, 7, .inl (md_bump G (-4)))), (yw, .inl (cI, 20, .inl v)), (yt, .inl (cI, 40, .inl tf9))] := hD.sub [2, 3, 0, 1] (by decide) rfl
      exact wrI (w1 := (fun (u : (Nat → Int32) × (Nat → Int32)) => [(y, .inr (6, [.ref yr, .int mq, .int mn, .ref yw, .ref yc, .int mc, .ref yl, .int me, .ref ys, .ref yp, .ref ym, .int md, .ref yo, .ref yk, .ref yt, .int mz, .ref yi, .ref yz, .ref yx, .ref yu, .int km, .int kr])), (yr, .inl (cI, 7, .inl u.1)), (yw, .inl (cI, 20, .inl v)), (yt, .inl (cI, 40, .inl u.2))])) ((md_bump G (-4)), tf9) hx hb hr hlocks dX6_terms_25 hS (hP.sub [0, 1, 2, 3] rfl) (hD.sub [0, 1, 2, 3] (by decide) rfl) (by have e9 : rf_ter mn w j = -4 := (by unfold rf_ter; rw [if_neg (fun z => z c_5), if_pos (Int32.not_le.mp c_16)]); simp [e9])
  · skip
    have c_5 := bi_eq0.mp c_5
    refine lv_aload_n hx hb dX6_terms_8 rfl (lv_at hl 0 rfl) ?_
    refine lv_iconst (v := (-1)) hx hb dX6_terms_9 (by decide) ?_
    refine wrVi (As := [.int (-1)]) (rest := []) (wr := [(yw, .inl (cI, 20, .inl v)), (yt, .inl (cI, 40, .inl tf9))]) (A := A) ⟨hx, hb, hml, hown, hts⟩ (c_X6_no l D cI cZ cR y yr yw yc yl ys yp ym yo yk yt yi yz yx yu mq mn mc me md mz km kr G (-1) (by decide) s.heap.size) (cwV 1 hts gX6_terms_X6_no rfl rfl rfl (by decide +kernel) ⟨Nat.le_of_ble_eq_true rfl, Nat.le_of_ble_eq_true rfl⟩) hK hN hP hD hS hA 0 6 rfl rfl rfl [0, 1] [2, 3] rfl (by decide) rfl (by decide) (by decide) rfl hl.1 rfl (Nat.le_of_ble_eq_true rfl) dX6_terms_10 ⟨Nat.zero_le _, Nat.zero_le _⟩ (fun r_10 u H locs hw hP hD hS => ?_)
    obtain ⟨G_10, rfl⟩ : ∃ z, z = u := ⟨_, rfl⟩
    try dsimp only at hw
    obtain ⟨q1_10, q2_10⟩ := hw
    have q1_10 := q1_10.symm
    subst q1_10
    have q2_10 := q2_10.symm
    subst q2_10
    have hP : va_P D vwCl [(y, .inr (6, [.ref yr, .int mq, .int mn, .ref yw, .ref yc, .int mc, .ref yl, .int me, .ref ys, .ref yp, .ref ym, .int md, .ref yo, .ref yk, .ref yt, .int mz, .ref yi, .ref yz, .ref yx, .ref yu, .int km, .int kr])), (yr, .inl (cI, 7, .inl (md_bump G (-1)))), (yw, .inl (cI, 20, .inl v)), (yt, .inl (cI, 40, .inl tf9))] H := hP.sub [2, 3, 0, 1] rfl
    have hD : va_D A [(y, .inr (6, [.ref yr, .int mq, .int mn, .ref yw, .ref yc, .int mc, .ref yl, .int me, .ref ys, .ref yp, .ref ym, .int md, .ref yo, .ref yk, .ref yt, .int mz, .ref yi, .ref yz, .ref yx, .ref yu, .int km, .int kr])), (yr, .inl (cI, 7, .inl (md_bump G (-1)))), (yw, .inl (cI, 20, .inl v)), (yt, .inl (cI, 40, .inl tf9))] := hD.sub [2, 3, 0, 1] (by decide) rfl
    exact wrI (w1 := (fun (u : (Nat → Int32) × (Nat → Int32)) => [(y, .inr (6, [.ref yr, .int mq, .int mn, .ref yw, .ref yc, .int mc, .ref yl, .int me, .ref ys, .ref yp, .ref ym, .int md, .ref yo, .ref yk, .ref yt, .int mz, .ref yi, .ref yz, .ref yx, .ref yu, .int km, .int kr])), (yr, .inl (cI, 7, .inl u.1)), (yw, .inl (cI, 20, .inl v)), (yt, .inl (cI, 40, .inl u.2))])) ((md_bump G (-1)), tf9) hx hb hr hlocks dX6_terms_13 hS (hP.sub [0, 1, 2, 3] rfl) (hD.sub [0, 1, 2, 3] (by decide) rfl) (by have e9 : rf_ter mn w j = -1 := (by unfold rf_ter; rw [if_pos c_5]); simp [e9])
