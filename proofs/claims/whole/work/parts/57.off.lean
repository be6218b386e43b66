theorem in_X5_off_X1 : ∀ w ∈ wsX10, w ∈ wsX5_off := by decide +kernel
theorem in_X5_off_X3 : ∀ w ∈ wsX30, w ∈ wsX5_off := by decide +kernel
theorem in_X5_off_X5 : ∀ w ∈ wsX50, w ∈ wsX5_off := by decide +kernel
theorem in_X6_off_X6 : ∀ w ∈ wsX60, w ∈ wsX6_off := by decide +kernel
set_option maxHeartbeats 4000000 in
set_option maxRecDepth 100000 in
theorem c_X5_off (l : Launch) (D : va_G) (cI cZ cR : ClassId) (x r t im tx ch ro rf pl ot cl : Nat) (hi : Int32) (F : Nat → Int32) (rn : Nat) (q nw : Int32) (v : Nat → Int32) (pn : Nat) (pz : Int32) (pf : Nat → Int32) (w n k : Int32) (hq : okQ q) (sz : Nat) : Met l yX5_off wsX5_off ({ frames := 5, cells := 0, slots := 0, locals := 121 }) (PcW D cI cZ cR [.ref x, .int w, .int n, .int k] [(x, .inr (5, [.ref r, .ref t, .ref im, .int hi, .ref tx, .ref ch, .ref ro, .ref rf, .ref pl, .ref ot, .ref cl])), (rf, .inl (cI, 6, .inl F)), (r, .inr (1, [.int q, .int nw, .ref rn])), (rn, .inl (cI, 20, .inl v)), (pl, .inr (3, [.int pz, .ref pn])), (pn, .inl (cI, 200, .inl pf))] sz) (va_Ql (fun (res : Int64) (u : (Nat → Int32) × Int32 × (Nat → Int32)) => res = (if rf_beh nw w n k 2 = 0 then lN ((if k = 0 then (ofF q n (ms (plK q v w) n.toNatClampNeg) n.toNatClampNeg).toInt.toNat else (n.toNatClampNeg * q.toNatClampNeg)) / Nat.gcd (ofF q n (ms (plK q v w) n.toNatClampNeg) n.toNatClampNeg).toInt.toNat (n.toNatClampNeg * q.toNatClampNeg)) else 4000000000000000000 - (rf_beh nw w n k 2).toInt64) ∧ u.1 = (if rf_beh nw w n k 2 = 0 then F else rf_bump F (rf_beh nw w n k 2))) (Bw D (fun (u : (Nat → Int32) × Int32 × (Nat → Int32)) => [(x, .inr (5, [.ref r, .ref t, .ref im, .int hi, .ref tx, .ref ch, .ref ro, .ref rf, .ref pl, .ref ot, .ref cl])), (rf, .inl (cI, 6, .inl u.1)), (r, .inr (1, [.int q, .int nw, .ref rn])), (rn, .inl (cI, 20, .inl v)), (pl, .inr (3, [.int u.2.1, .ref pn])), (pn, .inl (cI, 200, .inl u.2.2))]) (va_A [(x, .inr (5, [.ref r, .ref t, .ref im, .int hi, .ref tx, .ref ch, .ref ro, .ref rf, .ref pl, .ref ot, .ref cl])), (rf, .inl (cI, 6, .inl F)), (r, .inr (1, [.int q, .int nw, .ref rn])), (rn, .inl (cI, 20, .inl v)), (pl, .inr (3, [.int pz, .ref pn])), (pn, .inl (cI, 200, .inl pf))] sz)) (va_A [(x, .inr (5, [.ref r, .ref t, .ref im, .int hi, .ref tx, .ref ch, .ref ro, .ref rf, .ref pl, .ref ot, .ref cl])), (rf, .inl (cI, 6, .inl F)), (r, .inr (1, [.int q, .int nw, .ref rn])), (rn, .inl (cI, 20, .inl v)), (pl, .inr (3, [.int pz, .ref pn])), (pn, .inl (cI, 200, .inl pf))] sz)) 0 0 (va_A [(x, .inr (5, [.ref r, .ref t, .ref im, .int hi, .ref tx, .ref ch, .ref ro, .ref rf, .ref pl, .ref ot, .ref cl])), (rf, .inl (cI, 6, .inl F)), (r, .inr (1, [.int q, .int nw, .ref rn])), (rn, .inl (cI, 20, .inl v)), (pl, .inr (3, [.int pz, .ref pn])), (pn, .inl (cI, 200, .inl pf))] sz) := by
  refine Met.ofW (cc := cX5_off) (maxL := 14) (ret := (some .long)) (by decide) rfl ?_
  intro p e s m args below meth c s₁ B hml hv
  obtain ⟨rfl, hsz, hP, hK, hD0, hN⟩ := hv
  have hx := B.exec
  have hb := B.bytes
  have hr := B.returns
  have hts := atoms_spec (ws := wsX5_off) B.pre
  have hown : s.vm.findClass RX5 = some m.cls := findClass_of_methodNamed B.named
  have hlocks := B.notSynchronized
  subst hsz
  have hD := hD0.self (sz := s.heap.size)
  generalize hAe : va_A [(x, .inr (5, [.ref r, .ref t, .ref im, .int hi, .ref tx, .ref ch, .ref ro, .ref rf, .ref pl, .ref ot, .ref cl])), (rf, .inl (cI, 6, .inl F)), (r, .inr (1, [.int q, .int nw, .ref rn])), (rn, .inl (cI, 20, .inl v)), (pl, .inr (3, [.int pz, .ref pn])), (pn, .inl (cI, 200, .inl pf))] s.heap.size = A at hD ⊢
  have hA : ∀ q : Nat, s.heap.size ≤ q → A q := fun q h => by rw [← hAe]; exact Or.inr h
  have hS : va_S A s.heap s.heap [] := va_S.rf
  have hP : va_P D vwCl [(x, .inr (5, [.ref r, .ref t, .ref im, .int hi, .ref tx, .ref ch, .ref ro, .ref rf, .ref pl, .ref ot, .ref cl])), (rf, .inl (cI, 6, .inl F)), (r, .inr (1, [.int q, .int nw, .ref rn])), (rn, .inl (cI, 20, .inl v)), (pl, .inr (3, [.int pz, .ref pn])), (pn, .inl (cI, 200, .inl pf))] s.heap := hP
  have hl := lv_entry ([.ref x, .int w, .int n, .int k]) (n := 14) (Nat.le_of_ble_eq_true rfl)
  rw [lg_entry_eq]
  generalize (lg_sl ([.ref x, .int w, .int n, .int k]) ++ List.replicate (14 - (lg_sl ([.ref x, .int w, .int n, .int k])).length) Slot.unset).toArray = ls at hl ⊢
  have hl : lv_has ls 14 [(0, .ref x), (1, .int w), (2, .int n), (3, .int k)] := hl
  refine lv_aload_n hx hb dX5_off_0 rfl (lv_at hl 0 rfl) ?_
  refine lv_iload_n hx hb dX5_off_1 rfl (lv_at hl 1 rfl) ?_
  refine lv_iload_n hx hb dX5_off_2 rfl (lv_at hl 2 rfl) ?_
  refine lv_iload_n hx hb dX5_off_3 rfl (lv_at hl 3 rfl) ?_
  refine lv_iconst (v := 2) hx hb dX5_off_4 (by decide) ?_
  refine rdV (As := [.int w, .int n, .int k, .int 2]) (rest := []) ⟨hx, hb, hml, hown, hts⟩ (c_X5_refusalBehind l D cI cZ cR x r t im tx ch ro rf pl ot cl hi rn q nw v w n k 2 ) (cwV 4 hts gX5_off_X5_refusalBehind rfl rfl rfl (by decide +kernel) ⟨Nat.le_of_ble_eq_true rfl, Nat.le_of_ble_eq_true rfl⟩) hK hN hP 0 5 rfl rfl rfl [0, 2, 3] rfl rfl hl.1 rfl (Nat.le_of_ble_eq_true rfl) dX5_off_5 ⟨Nat.zero_le _, Nat.zero_le _⟩ ?_
  refine lv_istore (lv' := [(4, .int (rf_beh nw w n k 2)), (0, .ref x), (1, .int w), (2, .int n), (3, .int k)]) hx hb dX5_off_8 hl (by decide) rfl (fun ls hl => ?_)
  refine lv_iload hx hb dX5_off_10 (lv_at hl 0 rfl) ?_
  refine lv_if_eq (tgt := 22) hx hb dX5_off_12 (by decide) (fun c_12 => ?_) (fun c_12 => ?_)
  · skip
    have hok := rf_beh_ok c_12
    have hn := n200 hok.2.1
    have hSl := ms_len (plK q v w) n.toNatClampNeg
    have hnq := nq_N hok.2.1 hq
    refine lv_aload_n hx hb dX5_off_22 rfl (lv_at hl 1 rfl) ?_
    refine lv_iload_n hx hb dX5_off_23 rfl (lv_at hl 2 rfl) ?_
    refine lv_iload_n hx hb dX5_off_24 rfl (lv_at hl 3 rfl) ?_
    refine wrVv (As := [.int w, .int n]) (rest := []) (wr := [(rf, .inl (cI, 6, .inl F))]) (A := A) ⟨hx, hb, hml, hown, hts⟩ (c_X5_takePlaces l D cI cZ cR x r t im tx ch ro rf pl ot cl hi rn q nw v pn pz pf w n hn.2.1 s.heap.size) (cwV 2 hts gX5_off_X5_takePlaces rfl rfl rfl (by decide +kernel) ⟨Nat.le_of_ble_eq_true rfl, Nat.le_of_ble_eq_true rfl⟩) hK hN hP hD hS hA 0 5 rfl rfl rfl [0, 2, 3, 4, 5] [1] rfl (by decide) rfl (by decide) (by decide) rfl hl.1 rfl (Nat.le_of_ble_eq_true rfl) dX5_off_25 ⟨Nat.zero_le _, Nat.zero_le _⟩ (fun u H locs hw hP hD hS => ?_)
    obtain ⟨z_25, f_25⟩ := u
    try dsimp only at hw
    have h1_25 := hw
    have hP : va_P D vwCl [(x, .inr (5, [.ref r, .ref t, .ref im, .int hi, .ref tx, .ref ch, .ref ro, .ref rf, .ref pl, .ref ot, .ref cl])), (rf, .inl (cI, 6, .inl F)), (r, .inr (1, [.int q, .int nw, .ref rn])), (rn, .inl (cI, 20, .inl v)), (pl, .inr (3, [.int z_25, .ref pn])), (pn, .inl (cI, 200, .inl f_25))] H := hP.sub [1, 0, 2, 3, 4, 5] rfl
    have hD : va_D A [(x, .inr (5, [.ref r, .ref t, .ref im, .int hi, .ref tx, .ref ch, .ref ro, .ref rf, .ref pl, .ref ot, .ref cl])), (rf, .inl (cI, 6, .inl F)), (r, .inr (1, [.int q, .int nw, .ref rn])), (rn, .inl (cI, 20, .inl v)), (pl, .inr (3, [.int z_25, .ref pn])), (pn, .inl (cI, 200, .inl f_25))] := hD.sub [1, 0, 2, 3, 4, 5] (by decide) rfl
    refine lv_lconst (v := 0) hx hb dX5_off_28 (by decide) ?_
    refine lv_lstore (lv' := [(5, .long 0), (4, .int (rf_beh nw w n k 2)), (0, .ref x), (1, .int w), (2, .int n), (3, .int k)]) hx hb dX5_off_29 hl (by decide) rfl (fun ls hl => ?_)
    refine lv_iconst (v := 0) hx hb dX5_off_31 (by decide) ?_
    refine lv_istore (lv' := [(7, .int 0), (5, .long 0), (4, .int (rf_beh nw w n k 2)), (0, .ref x), (1, .int w), (2, .int n), (3, .int k)]) hx hb dX5_off_32 hl (by decide) rfl (fun ls hl => ?_)
    have loop_34 : ∀ (fuel : Nat), ∀ (i : Nat), (i ≤ n.toNatClampNeg) → (n.toNatClampNeg + 1 ≤ i + fuel) → ∀ (y5 : Int64), y5 = ofF q n (ms (plK q v w) n.toNatClampNeg) i → ∀ (y7 : Int32), y7 = nI i → ∀ (ls : Array Slot), lv_has ls 14 [(5, .long y5), (7, .int y7), (0, .ref x), (1, .int w), (2, .int n), (3, .int k), (4, .int (rf_beh nw w n k 2))] → W p l e (headSpec wsX5_off ({ frames := 5, cells := 0, slots := 0, locals := 121 })).room s m ([.ref x, .int w, .int n, .int k] : List Value).toArray below meth c H locs 0 0 (MQ below (va_Ql (fun (res : Int64) (u : (Nat → Int32) × Int32 × (Nat → Int32)) => res = (if rf_beh nw w n k 2 = 0 then lN ((if k = 0 then (ofF q n (ms (plK q v w) n.toNatClampNeg) n.toNatClampNeg).toInt.toNat else (n.toNatClampNeg * q.toNatClampNeg)) / Nat.gcd (ofF q n (ms (plK q v w) n.toNatClampNeg) n.toNatClampNeg).toInt.toNat (n.toNatClampNeg * q.toNatClampNeg)) else 4000000000000000000 - (rf_beh nw w n k 2).toInt64) ∧ u.1 = (if rf_beh nw w n k 2 = 0 then F else rf_bump F (rf_beh nw w n k 2))) (Bw D (fun (u : (Nat → Int32) × Int32 × (Nat → Int32)) => [(x, .inr (5, [.ref r, .ref t, .ref im, .int hi, .ref tx, .ref ch, .ref ro, .ref rf, .ref pl, .ref ot, .ref cl])), (rf, .inl (cI, 6, .inl u.1)), (r, .inr (1, [.int q, .int nw, .ref rn])), (rn, .inl (cI, 20, .inl v)), (pl, .inr (3, [.int u.2.1, .ref pn])), (pn, .inl (cI, 200, .inl u.2.2))]) A) A) ([.ref x, .int w, .int n, .int k] : List Value).toArray s 0 0 A) (F0 m 34 ls []) := by
      intro fuel
      induction fuel with
      | zero =>
        intro i hi9 hfu
        exact False.elim (by omega)
      | succ fuel ih_34 =>
        intro i hi9 hfu y5 ey5 y7 ey7 ls hl
        subst ey5
        subst ey7
        refine lv_iload hx hb dX5_off_34 (lv_at hl 1 rfl) ?_
        refine lv_aload_n hx hb dX5_off_36 rfl (lv_at hl 2 rfl) ?_
        refine va_get (D := D) (ci := 5) (v := .ref pl) (C := RX5) (T := TX5) (N := 11) hx hb hts (in_X5_off_X5) hown hK hP 0 rfl rfl 8 (by decide) (hts (.fieldLink RX5 53 "StepsRoundCircle" "places" "LStepsRoundCircle$Sorted;") (by decide +kernel)) (fun _ h9 => h9) rfl dX5_off_37 ?_
        refine va_get (D := D) (ci := 3) (v := .int z_25) (C := RX3) (T := TX3) (N := 2) hx hb hts (in_X5_off_X3) hown hK hP 4 rfl rfl 0 (by decide) (hts (.fieldLink RX5 150 "StepsRoundCircle$Sorted" "size" "I") (by decide +kernel)) (fun _ h9 => h9) rfl dX5_off_40 ?_
        refine lv_topi (fun z_43 hz_43 => ?_)
        have hz_43 : z_43 = nI n.toNatClampNeg := hz_43.trans (by rw [h1_25.1, hSl])
        subst hz_43
        refine lv_icmp_ge (tgt := 117) hx hb dX5_off_43 (by decide) (fun c_43 => ?_) (fun c_43 => ?_)
        · skip
          have hend : i = n.toNatClampNeg := by have := (nI_leI (by omega) (by omega)).mp c_43; omega
          have hob := ofF_N (ofF_bd (n := n) hq hok.2.1 (ms_bd hq (v := v) (w := w) (n := n.toNatClampNeg)) (by omega) n.toNatClampNeg (by omega))
          refine lv_lload hx hb dX5_off_117 (lv_at hl 0 rfl) ?_
          refine lv_topl (fun z_119 hz_119 => ?_)
          have hz_119 : z_119 = lN (ofF q n (ms (plK q v w) n.toNatClampNeg) n.toNatClampNeg).toInt.toNat := hz_119.trans (by rw [hend]; exact hob.1)
          subst hz_119
          refine lv_iload_n hx hb dX5_off_119 rfl (lv_at hl 4 rfl) ?_
          refine lv_i2l hx hb dX5_off_120 rfl ?_
          refine lv_aload_n hx hb dX5_off_121 rfl (lv_at hl 2 rfl) ?_
          refine va_get (D := D) (ci := 5) (v := .ref r) (C := RX5) (T := TX5) (N := 11) hx hb hts (in_X5_off_X5) hown hK hP 0 rfl rfl 0 (by decide) (hts (.fieldLink RX5 10 "StepsRoundCircle" "ring" "LStepsRoundCircle$Ring;") (by decide +kernel)) (fun _ h9 => h9) rfl dX5_off_122 ?_
          refine va_get (D := D) (ci := 1) (v := .int q) (C := RX1) (T := TX1) (N := 3) hx hb hts (in_X5_off_X1) hown hK hP 2 rfl rfl 0 (by decide) (hts (.fieldLink RX5 91 "StepsRoundCircle$Ring" "size" "I") (by decide +kernel)) (fun _ h9 => h9) rfl dX5_off_125 ?_
          refine lv_i2l hx hb dX5_off_128 rfl ?_
          refine lv_lmul hx hb dX5_off_129 ?_
          refine lv_topl (fun z_130 hz_130 => ?_)
          have hz_130 : z_130 = lN (n.toNatClampNeg * q.toNatClampNeg) := hz_130.trans hnq.1
          subst hz_130
          refine lv_iload_n hx hb dX5_off_130 rfl (lv_at hl 5 rfl) ?_
          refine rdS (As := [.long (lN (ofF q n (ms (plK q v w) n.toNatClampNeg) n.toNatClampNeg).toInt.toNat), .long (lN (n.toNatClampNeg * q.toNatClampNeg)), .int k]) (rest := []) ⟨hx, hb, hml, hown, hts⟩ (c_X5_partOf l D cI cZ cR ((ofF q n (ms (plK q v w) n.toNatClampNeg) n.toNatClampNeg).toInt.toNat) (n.toNatClampNeg * q.toNatClampNeg) k (by omega) (by omega) hnq.2.1) (va_cwS 3 hts gX5_off_X5_partOf rfl rfl rfl (by decide +kernel) ⟨Nat.le_of_ble_eq_true rfl, Nat.le_of_ble_eq_true rfl⟩) hK hN hP [] rfl rfl hl.1 rfl (Nat.le_of_ble_eq_true rfl) dX5_off_131 ⟨Nat.zero_le _, Nat.zero_le _⟩ ?_
          exact wrL (w1 := (fun (u : (Nat → Int32) × Int32 × (Nat → Int32)) => [(x, .inr (5, [.ref r, .ref t, .ref im, .int hi, .ref tx, .ref ch, .ref ro, .ref rf, .ref pl, .ref ot, .ref cl])), (rf, .inl (cI, 6, .inl u.1)), (r, .inr (1, [.int q, .int nw, .ref rn])), (rn, .inl (cI, 20, .inl v)), (pl, .inr (3, [.int u.2.1, .ref pn])), (pn, .inl (cI, 200, .inl u.2.2))])) (F, z_25, f_25) hx hb hr hlocks dX5_off_134 hS (hP.sub [0, 1, 2, 3, 4, 5] rfl) (hD.sub [0, 1, 2, 3, 4, 5] (by decide) rfl) (by rw [if_pos c_12, if_pos c_12]; exact ⟨rfl, rfl⟩)
        · skip
          have hiN : i < n.toNatClampNeg := by rcases Nat.lt_or_ge i n.toNatClampNeg with q9 | q9; exact q9; exact absurd (nI_le q9 (by omega)) c_43
          refine lv_aload_n hx hb dX5_off_46 rfl (lv_at hl 2 rfl) ?_
          refine va_get (D := D) (ci := 5) (v := .ref pl) (C := RX5) (T := TX5) (N := 11) hx hb hts (in_X5_off_X5) hown hK hP 0 rfl rfl 8 (by decide) (hts (.fieldLink RX5 53 "StepsRoundCircle" "places" "LStepsRoundCircle$Sorted;") (by decide +kernel)) (fun _ h9 => h9) rfl dX5_off_47 ?_
          refine lv_iload hx hb dX5_off_50 (lv_at hl 1 rfl) ?_
          refine rdV (As := [.int (nI i)]) (rest := []) ⟨hx, hb, hml, hown, hts⟩ (c_X3_get l D cI cZ cR pl pn z_25 f_25 (nI i) ) (cwV 1 hts gX5_off_X3_get rfl rfl rfl (by decide +kernel) ⟨Nat.le_of_ble_eq_true rfl, Nat.le_of_ble_eq_true rfl⟩) hK hN hP 4 3 rfl rfl rfl [4, 5] rfl rfl hl.1 rfl (Nat.le_of_ble_eq_true rfl) dX5_off_52 ⟨Nat.zero_le _, Nat.zero_le _⟩ ?_
          refine lv_topi (fun z_55 hz_55 => ?_)
          have hz_55 : z_55 = (ms (plK q v w) n.toNatClampNeg).getD i 0 := hz_55.trans (so_get_rep h1_25 (by omega))
          subst hz_55
          refine lv_i2l hx hb dX5_off_55 rfl ?_
          refine lv_iload_n hx hb dX5_off_56 rfl (lv_at hl 4 rfl) ?_
          refine lv_i2l hx hb dX5_off_57 rfl ?_
          refine lv_lmul hx hb dX5_off_58 ?_
          refine lv_lstore (lv' := [(8, .long ((((ms (plK q v w) n.toNatClampNeg).getD i 0).toInt64) * n.toInt64)), (5, .long (ofF q n (ms (plK q v w) n.toNatClampNeg) i)), (7, .int (nI i)), (0, .ref x), (1, .int w), (2, .int n), (3, .int k), (4, .int (rf_beh nw w n k 2))]) hx hb dX5_off_59 hl (by decide) rfl (fun ls hl => ?_)
          refine lv_iload hx hb dX5_off_61 (lv_at hl 2 rfl) ?_
          refine lv_iconst (v := 1) hx hb dX5_off_63 (by decide) ?_
          refine lv_iadd hx hb dX5_off_64 ?_
          refine lv_topi (fun z_65 hz_65 => ?_)
          have hz_65 : z_65 = nI (i + 1) := hz_65.trans (nI_1 i)
          subst hz_65
          refine lv_i2l hx hb dX5_off_65 rfl ?_
          refine lv_aload_n hx hb dX5_off_66 rfl (lv_at hl 3 rfl) ?_
          refine va_get (D := D) (ci := 5) (v := .ref r) (C := RX5) (T := TX5) (N := 11) hx hb hts (in_X5_off_X5) hown hK hP 0 rfl rfl 0 (by decide) (hts (.fieldLink RX5 10 "StepsRoundCircle" "ring" "LStepsRoundCircle$Ring;") (by decide +kernel)) (fun _ h9 => h9) rfl dX5_off_67 ?_
          refine va_get (D := D) (ci := 1) (v := .int q) (C := RX1) (T := TX1) (N := 3) hx hb hts (in_X5_off_X1) hown hK hP 2 rfl rfl 0 (by decide) (hts (.fieldLink RX5 91 "StepsRoundCircle$Ring" "size" "I") (by decide +kernel)) (fun _ h9 => h9) rfl dX5_off_70 ?_
          refine lv_i2l hx hb dX5_off_73 rfl ?_
          refine lv_lmul hx hb dX5_off_74 ?_
          refine lv_lload hx hb dX5_off_75 (lv_at hl 0 rfl) ?_
          refine lv_lsub hx hb dX5_off_77 ?_
          refine lv_lstore (lv' := [(10, .long ((((nI (i + 1)).toInt64) * q.toInt64) - ((((ms (plK q v w) n.toNatClampNeg).getD i 0).toInt64) * n.toInt64))), (8, .long ((((ms (plK q v w) n.toNatClampNeg).getD i 0).toInt64) * n.toInt64)), (5, .long (ofF q n (ms (plK q v w) n.toNatClampNeg) i)), (7, .int (nI i)), (0, .ref x), (1, .int w), (2, .int n), (3, .int k), (4, .int (rf_beh nw w n k 2))]) hx hb dX5_off_78 hl (by decide) rfl (fun ls hl => ?_)
          refine lv_lload hx hb dX5_off_80 (lv_at hl 1 rfl) ?_
          refine lv_iload hx hb dX5_off_82 (lv_at hl 3 rfl) ?_
          refine lv_i2l hx hb dX5_off_84 rfl ?_
          refine lv_aload_n hx hb dX5_off_85 rfl (lv_at hl 4 rfl) ?_
          refine va_get (D := D) (ci := 5) (v := .ref r) (C := RX5) (T := TX5) (N := 11) hx hb hts (in_X5_off_X5) hown hK hP 0 rfl rfl 0 (by decide) (hts (.fieldLink RX5 10 "StepsRoundCircle" "ring" "LStepsRoundCircle$Ring;") (by decide +kernel)) (fun _ h9 => h9) rfl dX5_off_86 ?_
          refine va_get (D := D) (ci := 1) (v := .int q) (C := RX1) (T := TX1) (N := 3) hx hb hts (in_X5_off_X1) hown hK hP 2 rfl rfl 0 (by decide) (hts (.fieldLink RX5 91 "StepsRoundCircle$Ring" "size" "I") (by decide +kernel)) (fun _ h9 => h9) rfl dX5_off_89 ?_
          refine lv_i2l hx hb dX5_off_92 rfl ?_
          refine lv_lmul hx hb dX5_off_93 ?_
          refine lv_lsub hx hb dX5_off_94 ?_
          refine lv_lstore (lv' := [(12, .long (((((ms (plK q v w) n.toNatClampNeg).getD i 0).toInt64) * n.toInt64) - (((nI i).toInt64) * q.toInt64))), (10, .long ((((nI (i + 1)).toInt64) * q.toInt64) - ((((ms (plK q v w) n.toNatClampNeg).getD i 0).toInt64) * n.toInt64))), (8, .long ((((ms (plK q v w) n.toNatClampNeg).getD i 0).toInt64) * n.toInt64)), (5, .long (ofF q n (ms (plK q v w) n.toNatClampNeg) i)), (7, .int (nI i)), (0, .ref x), (1, .int w), (2, .int n), (3, .int k), (4, .int (rf_beh nw w n k 2))]) hx hb dX5_off_95 hl (by decide) rfl (fun ls hl => ?_)
          refine lv_lload hx hb dX5_off_97 (lv_at hl 3 rfl) ?_
          refine lv_lload hx hb dX5_off_99 (lv_at hl 1 rfl) ?_
          refine lv_lload hx hb dX5_off_101 (lv_at hl 0 rfl) ?_
          refine va_mmax_long hx hb (hml.trans hl.1.symm) hown (hts (.methodLink RX5 186 Lib.MathLoose.max_long.x) (by decide +kernel)) (hts (.static Lib.MathLoose.max_long.x) (by decide +kernel)) (hts (.initialized "java/lang/Math") (by decide +kernel)) (hts (.code Lib.MathLoose.max_long.x Lib.MathLoose.max_long.code 4 (some .long)) (by decide +kernel)) (Nat.le_of_ble_eq_true rfl) (Nat.le_of_ble_eq_true rfl) (Nat.zero_le _) (Nat.zero_le _) dX5_off_103 ?_
          refine va_mmax_long hx hb (hml.trans hl.1.symm) hown (hts (.methodLink RX5 186 Lib.MathLoose.max_long.x) (by decide +kernel)) (hts (.static Lib.MathLoose.max_long.x) (by decide +kernel)) (hts (.initialized "java/lang/Math") (by decide +kernel)) (hts (.code Lib.MathLoose.max_long.x Lib.MathLoose.max_long.code 4 (some .long)) (by decide +kernel)) (Nat.le_of_ble_eq_true rfl) (Nat.le_of_ble_eq_true rfl) (Nat.zero_le _) (Nat.zero_le _) dX5_off_106 ?_
          refine lv_lstore (lv' := [(5, .long (if (if (((((ms (plK q v w) n.toNatClampNeg).getD i 0).toInt64) * n.toInt64) - (((nI i).toInt64) * q.toInt64)) < ((((nI (i + 1)).toInt64) * q.toInt64) - ((((ms (plK q v w) n.toNatClampNeg).getD i 0).toInt64) * n.toInt64)) then ((((nI (i + 1)).toInt64) * q.toInt64) - ((((ms (plK q v w) n.toNatClampNeg).getD i 0).toInt64) * n.toInt64)) else (((((ms (plK q v w) n.toNatClampNeg).getD i 0).toInt64) * n.toInt64) - (((nI i).toInt64) * q.toInt64))) < (ofF q n (ms (plK q v w) n.toNatClampNeg) i) then (ofF q n (ms (plK q v w) n.toNatClampNeg) i) else (if (((((ms (plK q v w) n.toNatClampNeg).getD i 0).toInt64) * n.toInt64) - (((nI i).toInt64) * q.toInt64)) < ((((nI (i + 1)).toInt64) * q.toInt64) - ((((ms (plK q v w) n.toNatClampNeg).getD i 0).toInt64) * n.toInt64)) then ((((nI (i + 1)).toInt64) * q.toInt64) - ((((ms (plK q v w) n.toNatClampNeg).getD i 0).toInt64) * n.toInt64)) else (((((ms (plK q v w) n.toNatClampNeg).getD i 0).toInt64) * n.toInt64) - (((nI i).toInt64) * q.toInt64))))), (12, .long (((((ms (plK q v w) n.toNatClampNeg).getD i 0).toInt64) * n.toInt64) - (((nI i).toInt64) * q.toInt64))), (10, .long ((((nI (i + 1)).toInt64) * q.toInt64) - ((((ms (plK q v w) n.toNatClampNeg).getD i 0).toInt64) * n.toInt64))), (8, .long ((((ms (plK q v w) n.toNatClampNeg).getD i 0).toInt64) * n.toInt64)), (7, .int (nI i)), (0, .ref x), (1, .int w), (2, .int n), (3, .int k), (4, .int (rf_beh nw w n k 2))]) hx hb dX5_off_109 hl (by decide) rfl (fun ls hl => ?_)
          refine lv_iinc (v := (nI i) + 1) (lv' := [(7, .int ((nI i) + 1)), (5, .long (if (if (((((ms (plK q v w) n.toNatClampNeg).getD i 0).toInt64) * n.toInt64) - (((nI i).toInt64) * q.toInt64)) < ((((nI (i + 1)).toInt64) * q.toInt64) - ((((ms (plK q v w) n.toNatClampNeg).getD i 0).toInt64) * n.toInt64)) then ((((nI (i + 1)).toInt64) * q.toInt64) - ((((ms (plK q v w) n.toNatClampNeg).getD i 0).toInt64) * n.toInt64)) else (((((ms (plK q v w) n.toNatClampNeg).getD i 0).toInt64) * n.toInt64) - (((nI i).toInt64) * q.toInt64))) < (ofF q n (ms (plK q v w) n.toNatClampNeg) i) then (ofF q n (ms (plK q v w) n.toNatClampNeg) i) else (if (((((ms (plK q v w) n.toNatClampNeg).getD i 0).toInt64) * n.toInt64) - (((nI i).toInt64) * q.toInt64)) < ((((nI (i + 1)).toInt64) * q.toInt64) - ((((ms (plK q v w) n.toNatClampNeg).getD i 0).toInt64) * n.toInt64)) then ((((nI (i + 1)).toInt64) * q.toInt64) - ((((ms (plK q v w) n.toNatClampNeg).getD i 0).toInt64) * n.toInt64)) else (((((ms (plK q v w) n.toNatClampNeg).getD i 0).toInt64) * n.toInt64) - (((nI i).toInt64) * q.toInt64))))), (12, .long (((((ms (plK q v w) n.toNatClampNeg).getD i 0).toInt64) * n.toInt64) - (((nI i).toInt64) * q.toInt64))), (10, .long ((((nI (i + 1)).toInt64) * q.toInt64) - ((((ms (plK q v w) n.toNatClampNeg).getD i 0).toInt64) * n.toInt64))), (8, .long ((((ms (plK q v w) n.toNatClampNeg).getD i 0).toInt64) * n.toInt64)), (0, .ref x), (1, .int w), (2, .int n), (3, .int k), (4, .int (rf_beh nw w n k 2))]) hx hb dX5_off_111 hl (k := 4) rfl (by rfl) (by decide) rfl (fun ls hl => ?_)
          refine lv_goto (tgt := 34) hx hb dX5_off_114 (by decide) ?_
          exact ih_34 (i + 1) (by omega) (by omega) _ rfl _ (by first | rfl | exact nI_1 _ | exact nI_0.symm) ls (lv_sub hl [1, 0, 5, 6, 7, 8, 9] rfl)
    exact loop_34 (n.toNatClampNeg + 1) 0 (by omega) (by omega) _ rfl _ (by first | rfl | exact nI_1 _ | exact nI_0.symm) ls (lv_sub hl [1, 0, 3, 4, 5, 6, 2] rfl)
  · skip
    refine lv_aload_n hx hb dX5_off_15 rfl (lv_at hl 1 rfl) ?_
    refine lv_iload hx hb dX5_off_16 (lv_at hl 0 rfl) ?_
    refine wrVl (As := [.int (rf_beh nw w n k 2)]) (rest := []) (wr := [(r, .inr (1, [.int q, .int nw, .ref rn])), (rn, .inl (cI, 20, .inl v)), (pl, .inr (3, [.int pz, .ref pn])), (pn, .inl (cI, 200, .inl pf))]) (A := A) ⟨hx, hb, hml, hown, hts⟩ (c_X5_refuseLong l D cI cZ cR x r t im tx ch ro rf pl ot cl hi F (rf_beh nw w n k 2)  s.heap.size) (cwV 1 hts gX5_off_X5_refuseLong rfl rfl rfl (by decide +kernel) ⟨Nat.le_of_ble_eq_true rfl, Nat.le_of_ble_eq_true rfl⟩) hK hN hP hD hS hA 0 5 rfl rfl rfl [0, 1] [2, 3, 4, 5] rfl (by decide) rfl (by decide) (by decide) rfl hl.1 rfl (Nat.le_of_ble_eq_true rfl) dX5_off_18 ⟨Nat.zero_le _, Nat.zero_le _⟩ (fun r_18 u H locs hw hP hD hS => ?_)
    obtain ⟨F_18, rfl⟩ : ∃ z, z = u := ⟨_, rfl⟩
    try dsimp only at hw
    obtain ⟨q1_18, q2_18⟩ := hw
    have q1_18 := q1_18.symm
    subst q1_18
    have q2_18 := q2_18.symm
    subst q2_18
    have hP : va_P D vwCl [(x, .inr (5, [.ref r, .ref t, .ref im, .int hi, .ref tx, .ref ch, .ref ro, .ref rf, .ref pl, .ref ot, .ref cl])), (rf, .inl (cI, 6, .inl (rf_bump F (rf_beh nw w n k 2)))), (r, .inr (1, [.int q, .int nw, .ref rn])), (rn, .inl (cI, 20, .inl v)), (pl, .inr (3, [.int pz, .ref pn])), (pn, .inl (cI, 200, .inl pf))] H := hP.sub [4, 5, 0, 1, 2, 3] rfl
    have hD : va_D A [(x, .inr (5, [.ref r, .ref t, .ref im, .int hi, .ref tx, .ref ch, .ref ro, .ref rf, .ref pl, .ref ot, .ref cl])), (rf, .inl (cI, 6, .inl (rf_bump F (rf_beh nw w n k 2)))), (r, .inr (1, [.int q, .int nw, .ref rn])), (rn, .inl (cI, 20, .inl v)), (pl, .inr (3, [.int pz, .ref pn])), (pn, .inl (cI, 200, .inl pf))] := hD.sub [4, 5, 0, 1, 2, 3] (by decide) rfl
    exact wrL (w1 := (fun (u : (Nat → Int32) × Int32 × (Nat → Int32)) => [(x, .inr (5, [.ref r, .ref t, .ref im, .int hi, .ref tx, .ref ch, .ref ro, .ref rf, .ref pl, .ref ot, .ref cl])), (rf, .inl (cI, 6, .inl u.1)), (r, .inr (1, [.int q, .int nw, .ref rn])), (rn, .inl (cI, 20, .inl v)), (pl, .inr (3, [.int u.2.1, .ref pn])), (pn, .inl (cI, 200, .inl u.2.2))])) ((rf_bump F (rf_beh nw w n k 2)), pz, pf) hx hb hr hlocks dX5_off_21 hS (hP.sub [0, 1, 2, 3, 4, 5] rfl) (hD.sub [0, 1, 2, 3, 4, 5] (by decide) rfl) (by rw [if_neg c_12, if_neg c_12]; exact ⟨rfl, rfl⟩)

set_option maxHeartbeats 4000000 in
set_option maxRecDepth 100000 in
theorem c_X6_off (l : Launch) (D : va_G) (cI cZ cR : ClassId) (y yr yw yc yl ys yp ym yo yk yt yi yz yx yu : Nat) (mq mn mc me md mz km kr : Int32) (G : Nat → Int32) (v P Mf : Nat → Int32) (w n k : Int32) (hq : okQ mq) (hmn : 0 ≤ mn) (hm5 : mn ≤ 5) (hws : ∀ w, 0 ≤ w ∧ w < mn → okW mq v w) (sz : Nat) : Met l yX6_off wsX6_off ({ frames := 4, cells := 0, slots := 0, locals := 99 }) (PcW D cI cZ cR [.ref y, .int w, .int n, .int k] [(y, .inr (6, [.ref yr, .int mq, .int mn, .ref yw, .ref yc, .int mc, .ref yl, .int me, .ref ys, .ref yp, .ref ym, .int md, .ref yo, .ref yk, .ref yt, .int mz, .ref yi, .ref yz, .ref yx, .ref yu, .int km, .int kr])), (yr, .inl (cI, 7, .inl G)), (yw, .inl (cI, 20, .inl v)), (yp, .inl (cI, 200, .inl P)), (ym, .inl (cI, 200, .inl Mf))] sz) (va_Ql (fun (res : Int64) (u : (Nat → Int32) × Int32 × (Nat → Int32) × (Nat → Int32)) => res = (if rf_beh mn w n k 2 = 0 then lN ((if k = 0 then (ofF mq n (ms (plK mq v w) n.toNatClampNeg) n.toNatClampNeg).toInt.toNat else (n.toNatClampNeg * mq.toNatClampNeg)) / Nat.gcd (ofF mq n (ms (plK mq v w) n.toNatClampNeg) n.toNatClampNeg).toInt.toNat (n.toNatClampNeg * mq.toNatClampNeg)) else 4000000000000000000 - (rf_beh mn w n k 2).toInt64) ∧ u.1 = (if rf_beh mn w n k 2 = 0 then G else md_bump G (rf_beh mn w n k 2))) (Bw D (fun (u : (Nat → Int32) × Int32 × (Nat → Int32) × (Nat → Int32)) => [(y, .inr (6, [.ref yr, .int mq, .int mn, .ref yw, .ref yc, .int mc, .ref yl, .int me, .ref ys, .ref yp, .ref ym, .int u.2.1, .ref yo, .ref yk, .ref yt, .int mz, .ref yi, .ref yz, .ref yx, .ref yu, .int km, .int kr])), (yr, .inl (cI, 7, .inl u.1)), (yw, .inl (cI, 20, .inl v)), (yp, .inl (cI, 200, .inl u.2.2.1)), (ym, .inl (cI, 200, .inl u.2.2.2))]) (va_A [(y, .inr (6, [.ref yr, .int mq, .int mn, .ref yw, .ref yc, .int mc, .ref yl, .int me, .ref ys, .ref yp, .ref ym, .int md, .ref yo, .ref yk, .ref yt, .int mz, .ref yi, .ref yz, .ref yx, .ref yu, .int km, .int kr])), (yr, .inl (cI, 7, .inl G)), (yw, .inl (cI, 20, .inl v)), (yp, .inl (cI, 200, .inl P)), (ym, .inl (cI, 200, .inl Mf))] sz)) (va_A [(y, .inr (6, [.ref yr, .int mq, .int mn, .ref yw, .ref yc, .int mc, .ref yl, .int me, .ref ys, .ref yp, .ref ym, .int md, .ref yo, .ref yk, .ref yt, .int mz, .ref yi, .ref yz, .ref yx, .ref yu, .int km, .int kr])), (yr, .inl (cI, 7, .inl G)), (yw, .inl (cI, 20, .inl v)), (yp, .inl (cI, 200, .inl P)), (ym, .inl (cI, 200, .inl Mf))] sz)) 0 0 (va_A [(y, .inr (6, [.ref yr, .int mq, .int mn, .ref yw, .ref yc, .int mc, .ref yl, .int me, .ref ys, .ref yp, .ref ym, .int md, .ref yo, .ref yk, .ref yt, .int mz, .ref yi, .ref yz, .ref yx, .ref yu, .int km, .int kr])), (yr, .inl (cI, 7, .inl G)), (yw, .inl (cI, 20, .inl v)), (yp, .inl (cI, 200, .inl P)), (ym, .inl (cI, 200, .inl Mf))] sz) := by
  refine Met.ofW (cc := cX6_off) (maxL := 12) (ret := (some .long)) (by decide) rfl ?_
  intro p e s m args below meth c s₁ B hml hv
  obtain ⟨rfl, hsz, hP, hK, hD0, hN⟩ := hv
  have hx := B.exec
  have hb := B.bytes
  have hr := B.returns
  have hts := atoms_spec (ws := wsX6_off) B.pre
  have hown : s.vm.findClass RX6 = some m.cls := findClass_of_methodNamed B.named
  have hlocks := B.notSynchronized
  subst hsz
  have hD := hD0.self (sz := s.heap.size)
  generalize hAe : va_A [(y, .inr (6, [.ref yr, .int mq, .int mn, .ref yw, .ref yc, .int mc, .ref yl, .int me, .ref ys, .ref yp, .ref ym, .int md, .ref yo, .ref yk, .ref yt, .int mz, .ref yi, .ref yz, .ref yx, .ref yu, .int km, .int kr])), (yr, .inl (cI, 7, .inl G)), (yw, .inl (cI, 20, .inl v)), (yp, .inl (cI, 200, .inl P)), (ym, .inl (cI, 200, .inl Mf))] s.heap.size = A at hD ⊢
  have hA : ∀ q : Nat, s.heap.size ≤ q → A q := fun q h => by rw [← hAe]; exact Or.inr h
  have hS : va_S A s.heap s.heap [] := va_S.rf
  have hP : va_P D vwCl [(y, .inr (6, [.ref yr, .int mq, .int mn, .ref yw, .ref yc, .int mc, .ref yl, .int me, .ref ys, .ref yp, .ref ym, .int md, .ref yo, .ref yk, .ref yt, .int mz, .ref yi, .ref yz, .ref yx, .ref yu, .int km, .int kr])), (yr, .inl (cI, 7, .inl G)), (yw, .inl (cI, 20, .inl v)), (yp, .inl (cI, 200, .inl P)), (ym, .inl (cI, 200, .inl Mf))] s.heap := hP
  have hl := lv_entry ([.ref y, .int w, .int n, .int k]) (n := 12) (Nat.le_of_ble_eq_true rfl)
  rw [lg_entry_eq]
  generalize (lg_sl ([.ref y, .int w, .int n, .int k]) ++ List.replicate (12 - (lg_sl ([.ref y, .int w, .int n, .int k])).length) Slot.unset).toArray = ls at hl ⊢
  have hl : lv_has ls 12 [(0, .ref y), (1, .int w), (2, .int n), (3, .int k)] := hl
  refine lv_aload_n hx hb dX6_off_0 rfl (lv_at hl 0 rfl) ?_
  refine lv_iload_n hx hb dX6_off_1 rfl (lv_at hl 1 rfl) ?_
  refine lv_iload_n hx hb dX6_off_2 rfl (lv_at hl 2 rfl) ?_
  refine rdV (As := [.int w, .int n]) (rest := []) ⟨hx, hb, hml, hown, hts⟩ (c_X6_refusal l D cI cZ cR y yr yw yc yl ys yp ym yo yk yt yi yz yx yu mq mn mc me md mz km kr w n hmn) (cwV 2 hts gX6_off_X6_refusal rfl rfl rfl (by decide +kernel) ⟨Nat.le_of_ble_eq_true rfl, Nat.le_of_ble_eq_true rfl⟩) hK hN hP 0 6 rfl rfl rfl [0] rfl rfl hl.1 rfl (Nat.le_of_ble_eq_true rfl) dX6_off_3 ⟨Nat.zero_le _, Nat.zero_le _⟩ ?_
  refine lv_istore (lv' := [(4, .int (rf_num mn w n 1 200)), (0, .ref y), (1, .int w), (2, .int n), (3, .int k)]) hx hb dX6_off_6 hl (by decide) rfl (fun ls hl => ?_)
  refine lv_iload hx hb dX6_off_8 (lv_at hl 0 rfl) ?_
  refine lv_if_eq (tgt := 20) hx hb dX6_off_10 (by decide) (fun c_10 => ?_) (fun c_10 => ?_)
  · skip
    have hw9 := (rf_num_ok c_10).1
    have hn9 := (rf_num_ok c_10).2
    have hn := n200 hn9
    have hM0 := mk_ne (pl := plK mq v w) (n := n.toNatClampNeg) (by omega)
    have hqN := okQ_N hq
    refine lv_iload_n hx hb dX6_off_20 rfl (lv_at hl 4 rfl) ?_
    refine lv_i2l hx hb dX6_off_21 rfl ?_
    refine lv_lconst (v := 0) hx hb dX6_off_22 (by decide) ?_
    refine lv_lconst (v := 1) hx hb dX6_off_23 (by decide) ?_
    refine rdS (As := [.long k.toInt64, .long 0, .long 1]) (rest := []) ⟨hx, hb, hml, hown, hts⟩ (c_X6_in l D cI cZ cR k.toInt64 0 1 ) (va_cwS 3 hts gX6_off_X6_in rfl rfl rfl (by decide +kernel) ⟨Nat.le_of_ble_eq_true rfl, Nat.le_of_ble_eq_true rfl⟩) hK hN hP [] rfl rfl hl.1 rfl (Nat.le_of_ble_eq_true rfl) dX6_off_24 ⟨Nat.zero_le _, Nat.zero_le _⟩ ?_
    refine lv_if_ne (tgt := 37) hx hb dX6_off_27 (by decide) (fun c_27 => ?_) (fun c_27 => ?_)
    · skip
      have c_27 := bi_ne0.mp c_27
      refine lv_aload_n hx hb dX6_off_37 rfl (lv_at hl 1 rfl) ?_
      refine lv_iload_n hx hb dX6_off_38 rfl (lv_at hl 2 rfl) ?_
      refine lv_iload_n hx hb dX6_off_39 rfl (lv_at hl 3 rfl) ?_
      refine wrVv (As := [.int w, .int n]) (rest := []) (wr := [(yr, .inl (cI, 7, .inl G))]) (A := A) ⟨hx, hb, hml, hown, hts⟩ (c_X6_sorts l D cI cZ cR y yr yw yc yl ys yp ym yo yk yt yi yz yx yu mq mn mc me md mz km kr v P Mf w n hq (w5 hm5 hw9) (hws w hw9) hn.2.1 s.heap.size) (cwV 2 hts gX6_off_X6_sorts rfl rfl rfl (by decide +kernel) ⟨Nat.le_of_ble_eq_true rfl, Nat.le_of_ble_eq_true rfl⟩) hK hN hP hD hS hA 0 6 rfl rfl rfl [0, 2, 3, 4] [1] rfl (by decide) rfl (by decide) (by decide) rfl hl.1 rfl (Nat.le_of_ble_eq_true rfl) dX6_off_40 ⟨Nat.zero_le _, Nat.zero_le _⟩ (fun u H locs hw hP hD hS => ?_)
      obtain ⟨md_40, P_40, M_40⟩ := u
      try dsimp only at hw
      obtain ⟨h1_40, h2_40⟩ := hw
      have hP : va_P D vwCl [(y, .inr (6, [.ref yr, .int mq, .int mn, .ref yw, .ref yc, .int mc, .ref yl, .int me, .ref ys, .ref yp, .ref ym, .int md_40, .ref yo, .ref yk, .ref yt, .int mz, .ref yi, .ref yz, .ref yx, .ref yu, .int km, .int kr])), (yr, .inl (cI, 7, .inl G)), (yw, .inl (cI, 20, .inl v)), (yp, .inl (cI, 200, .inl P_40)), (ym, .inl (cI, 200, .inl M_40))] H := hP.sub [1, 0, 2, 3, 4] rfl
      have hD : va_D A [(y, .inr (6, [.ref yr, .int mq, .int mn, .ref yw, .ref yc, .int mc, .ref yl, .int me, .ref ys, .ref yp, .ref ym, .int md_40, .ref yo, .ref yk, .ref yt, .int mz, .ref yi, .ref yz, .ref yx, .ref yu, .int km, .int kr])), (yr, .inl (cI, 7, .inl G)), (yw, .inl (cI, 20, .inl v)), (yp, .inl (cI, 200, .inl P_40)), (ym, .inl (cI, 200, .inl M_40))] := hD.sub [1, 0, 2, 3, 4] (by decide) rfl
      have e0 := rf_beh_m c_10 ((md_w1 k).mp c_27)
      have hSl := ms_len (plK mq v w) n.toNatClampNeg
      have hnq := nq_N hn9 hq
      refine lv_lconst (v := 0) hx hb dX6_off_43 (by decide) ?_
      refine lv_lstore (lv' := [(5, .long 0), (4, .int (rf_num mn w n 1 200)), (0, .ref y), (1, .int w), (2, .int n), (3, .int k)]) hx hb dX6_off_44 hl (by decide) rfl (fun ls hl => ?_)
      refine lv_iconst (v := 0) hx hb dX6_off_46 (by decide) ?_
      refine lv_istore (lv' := [(7, .int 0), (5, .long 0), (4, .int (rf_num mn w n 1 200)), (0, .ref y), (1, .int w), (2, .int n), (3, .int k)]) hx hb dX6_off_47 hl (by decide) rfl (fun ls hl => ?_)
      have loop_49 : ∀ (fuel : Nat), ∀ (i : Nat), (i ≤ n.toNatClampNeg) → (n.toNatClampNeg + 1 ≤ i + fuel) → ∀ (y5 : Int64), y5 = ofF mq n (ms (plK mq v w) n.toNatClampNeg) i → ∀ (y7 : Int32), y7 = nI i → ∀ (ls : Array Slot), lv_has ls 12 [(5, .long y5), (7, .int y7), (0, .ref y), (1, .int w), (2, .int n), (3, .int k), (4, .int (rf_num mn w n 1 200))] → W p l e (headSpec wsX6_off ({ frames := 4, cells := 0, slots := 0, locals := 99 })).room s m ([.ref y, .int w, .int n, .int k] : List Value).toArray below meth c H locs 0 0 (MQ below (va_Ql (fun (res : Int64) (u : (Nat → Int32) × Int32 × (Nat → Int32) × (Nat → Int32)) => res = (if rf_beh mn w n k 2 = 0 then lN ((if k = 0 then (ofF mq n (ms (plK mq v w) n.toNatClampNeg) n.toNatClampNeg).toInt.toNat else (n.toNatClampNeg * mq.toNatClampNeg)) / Nat.gcd (ofF mq n (ms (plK mq v w) n.toNatClampNeg) n.toNatClampNeg).toInt.toNat (n.toNatClampNeg * mq.toNatClampNeg)) else 4000000000000000000 - (rf_beh mn w n k 2).toInt64) ∧ u.1 = (if rf_beh mn w n k 2 = 0 then G else md_bump G (rf_beh mn w n k 2))) (Bw D (fun (u : (Nat → Int32) × Int32 × (Nat → Int32) × (Nat → Int32)) => [(y, .inr (6, [.ref yr, .int mq, .int mn, .ref yw, .ref yc, .int mc, .ref yl, .int me, .ref ys, .ref yp, .ref ym, .int u.2.1, .ref yo, .ref yk, .ref yt, .int mz, .ref yi, .ref yz, .ref yx, .ref yu, .int km, .int kr])), (yr, .inl (cI, 7, .inl u.1)), (yw, .inl (cI, 20, .inl v)), (yp, .inl (cI, 200, .inl u.2.2.1)), (ym, .inl (cI, 200, .inl u.2.2.2))]) A) A) ([.ref y, .int w, .int n, .int k] : List Value).toArray s 0 0 A) (F0 m 49 ls []) := by
        intro fuel
        induction fuel with
        | zero =>
          intro i hi9 hfu
          exact False.elim (by omega)
        | succ fuel ih_49 =>
          intro i hi9 hfu y5 ey5 y7 ey7 ls hl
          subst ey5
          subst ey7
          refine lv_iload hx hb dX6_off_49 (lv_at hl 1 rfl) ?_
          refine lv_iload_n hx hb dX6_off_51 rfl (lv_at hl 4 rfl) ?_
          refine lv_icmp_ge (tgt := 143) hx hb dX6_off_52 (by decide) (fun c_52 => ?_) (fun c_52 => ?_)
          · skip
            have hend : i = n.toNatClampNeg := by have := (le_clamp (by omega)).mp c_52; omega
            have hob := ofF_N (ofF_bd (n := n) hq hn9 (ms_bd hq (v := v) (w := w) (n := n.toNatClampNeg)) (by omega) n.toNatClampNeg (by omega))
            refine lv_lload hx hb dX6_off_143 (lv_at hl 0 rfl) ?_
            refine lv_topl (fun z_145 hz_145 => ?_)
            have hz_145 : z_145 = lN (ofF mq n (ms (plK mq v w) n.toNatClampNeg) n.toNatClampNeg).toInt.toNat := hz_145.trans (by rw [hend]; exact hob.1)
            subst hz_145
            refine lv_iload_n hx hb dX6_off_145 rfl (lv_at hl 4 rfl) ?_
            refine lv_i2l hx hb dX6_off_146 rfl ?_
            refine lv_aload_n hx hb dX6_off_147 rfl (lv_at hl 2 rfl) ?_
            refine va_get (D := D) (ci := 6) (v := .int mq) (C := RX6) (T := TX6) (N := 22) hx hb hts (in_X6_off_X6) hown hK hP 0 rfl rfl 1 (by decide) (hts (.fieldLink RX6 13 "StepsRoundCircleModel" "round" "I") (by decide +kernel)) (fun _ h9 => h9) rfl dX6_off_148 ?_
            refine lv_i2l hx hb dX6_off_151 rfl ?_
            refine lv_lmul hx hb dX6_off_152 ?_
            refine lv_topl (fun z_153 hz_153 => ?_)
            have hz_153 : z_153 = lN (n.toNatClampNeg * mq.toNatClampNeg) := hz_153.trans hnq.1
            subst hz_153
            refine lv_iload_n hx hb dX6_off_153 rfl (lv_at hl 5 rfl) ?_
            refine rdS (As := [.long (lN (ofF mq n (ms (plK mq v w) n.toNatClampNeg) n.toNatClampNeg).toInt.toNat), .long (lN (n.toNatClampNeg * mq.toNatClampNeg)), .int k]) (rest := []) ⟨hx, hb, hml, hown, hts⟩ (c_X6_part l D cI cZ cR ((ofF mq n (ms (plK mq v w) n.toNatClampNeg) n.toNatClampNeg).toInt.toNat) (n.toNatClampNeg * mq.toNatClampNeg) k (by omega) (by omega) hnq.2.1) (va_cwS 3 hts gX6_off_X6_part rfl rfl rfl (by decide +kernel) ⟨Nat.le_of_ble_eq_true rfl, Nat.le_of_ble_eq_true rfl⟩) hK hN hP [] rfl rfl hl.1 rfl (Nat.le_of_ble_eq_true rfl) dX6_off_154 ⟨Nat.zero_le _, Nat.zero_le _⟩ ?_
            exact wrL (w1 := (fun (u : (Nat → Int32) × Int32 × (Nat → Int32) × (Nat → Int32)) => [(y, .inr (6, [.ref yr, .int mq, .int mn, .ref yw, .ref yc, .int mc, .ref yl, .int me, .ref ys, .ref yp, .ref ym, .int u.2.1, .ref yo, .ref yk, .ref yt, .int mz, .ref yi, .ref yz, .ref yx, .ref yu, .int km, .int kr])), (yr, .inl (cI, 7, .inl u.1)), (yw, .inl (cI, 20, .inl v)), (yp, .inl (cI, 200, .inl u.2.2.1)), (ym, .inl (cI, 200, .inl u.2.2.2))])) (G, md_40, P_40, M_40) hx hb hr hlocks dX6_off_157 hS (hP.sub [0, 1, 2, 3, 4] rfl) (hD.sub [0, 1, 2, 3, 4] (by decide) rfl) (by rw [if_pos e0, if_pos e0]; exact ⟨rfl, rfl⟩)
          · skip
            have hiN : i < n.toNatClampNeg := (lt_clamp (by omega)).mp (Int32.not_le.mp c_52)
            refine lv_iload hx hb dX6_off_55 (lv_at hl 1 rfl) ?_
            refine lv_i2l hx hb dX6_off_57 rfl ?_
            refine lv_lconst (v := 1) hx hb dX6_off_58 (by decide) ?_
            refine lv_ladd hx hb dX6_off_59 ?_
            refine lv_topl (fun z_60 hz_60 => ?_)
            have hz_60 : z_60 = (nI (i + 1)).toInt64 := hz_60.trans (by rw [nI_l (by omega), nI_l (by omega)]; exact lN_1 i)
            subst hz_60
            refine lv_aload_n hx hb dX6_off_60 rfl (lv_at hl 2 rfl) ?_
            refine va_get (D := D) (ci := 6) (v := .int mq) (C := RX6) (T := TX6) (N := 22) hx hb hts (in_X6_off_X6) hown hK hP 0 rfl rfl 1 (by decide) (hts (.fieldLink RX6 13 "StepsRoundCircleModel" "round" "I") (by decide +kernel)) (fun _ h9 => h9) rfl dX6_off_61 ?_
            refine lv_i2l hx hb dX6_off_64 rfl ?_
            refine lv_lmul hx hb dX6_off_65 ?_
            refine lv_aload_n hx hb dX6_off_66 rfl (lv_at hl 2 rfl) ?_
            refine va_get (D := D) (ci := 6) (v := .ref yp) (C := RX6) (T := TX6) (N := 22) hx hb hts (in_X6_off_X6) hown hK hP 0 rfl rfl 9 (by decide) (hts (.fieldLink RX6 29 "StepsRoundCircleModel" "places" "[I") (by decide +kernel)) (fun _ h9 => h9) rfl dX6_off_67 ?_
            refine lv_iload hx hb dX6_off_70 (lv_at hl 1 rfl) ?_
            refine va_iald hx hb hK hP 3 0 rfl rfl (vp_in_nI (by omega) (by omega)) dX6_off_72 ?_
            refine lv_topi (fun z_73 hz_73 => ?_)
            have hz_73 : z_73 = (ms (plK mq v w) n.toNatClampNeg).getD i 0 := hz_73.trans (by rw [nI_clamp (by omega)]; exact h1_40 i hiN)
            subst hz_73
            refine lv_i2l hx hb dX6_off_73 rfl ?_
            refine lv_iload_n hx hb dX6_off_74 rfl (lv_at hl 4 rfl) ?_
            refine lv_i2l hx hb dX6_off_75 rfl ?_
            refine lv_lmul hx hb dX6_off_76 ?_
            refine lv_lsub hx hb dX6_off_77 ?_
            refine lv_topl (fun z_78 hz_78 => ?_)
            have hz_78 : z_78 = oBeh mq n (ms (plK mq v w) n.toNatClampNeg) i := hz_78.trans rfl
            subst hz_78
            refine lv_lstore (lv' := [(8, .long (oBeh mq n (ms (plK mq v w) n.toNatClampNeg) i)), (5, .long (ofF mq n (ms (plK mq v w) n.toNatClampNeg) i)), (7, .int (nI i)), (0, .ref y), (1, .int w), (2, .int n), (3, .int k), (4, .int (rf_num mn w n 1 200))]) hx hb dX6_off_78 hl (by decide) rfl (fun ls hl => ?_)
            refine lv_aload_n hx hb dX6_off_80 rfl (lv_at hl 3 rfl) ?_
            refine va_get (D := D) (ci := 6) (v := .ref yp) (C := RX6) (T := TX6) (N := 22) hx hb hts (in_X6_off_X6) hown hK hP 0 rfl rfl 9 (by decide) (hts (.fieldLink RX6 29 "StepsRoundCircleModel" "places" "[I") (by decide +kernel)) (fun _ h9 => h9) rfl dX6_off_81 ?_
            refine lv_iload hx hb dX6_off_84 (lv_at hl 2 rfl) ?_
            refine va_iald hx hb hK hP 3 0 rfl rfl (vp_in_nI (by omega) (by omega)) dX6_off_86 ?_
            refine lv_topi (fun z_87 hz_87 => ?_)
            have hz_87 : z_87 = (ms (plK mq v w) n.toNatClampNeg).getD i 0 := hz_87.trans (by rw [nI_clamp (by omega)]; exact h1_40 i hiN)
            subst hz_87
            refine lv_i2l hx hb dX6_off_87 rfl ?_
            refine lv_iload_n hx hb dX6_off_88 rfl (lv_at hl 5 rfl) ?_
            refine lv_i2l hx hb dX6_off_89 rfl ?_
            refine lv_lmul hx hb dX6_off_90 ?_
            refine lv_iload hx hb dX6_off_91 (lv_at hl 2 rfl) ?_
            refine lv_i2l hx hb dX6_off_93 rfl ?_
            refine lv_aload_n hx hb dX6_off_94 rfl (lv_at hl 3 rfl) ?_
            refine va_get (D := D) (ci := 6) (v := .int mq) (C := RX6) (T := TX6) (N := 22) hx hb hts (in_X6_off_X6) hown hK hP 0 rfl rfl 1 (by decide) (hts (.fieldLink RX6 13 "StepsRoundCircleModel" "round" "I") (by decide +kernel)) (fun _ h9 => h9) rfl dX6_off_95 ?_
            refine lv_i2l hx hb dX6_off_98 rfl ?_
            refine lv_lmul hx hb dX6_off_99 ?_
            refine lv_lsub hx hb dX6_off_100 ?_
            refine lv_topl (fun z_101 hz_101 => ?_)
            have hz_101 : z_101 = oAhe mq n (ms (plK mq v w) n.toNatClampNeg) i := hz_101.trans rfl
            subst hz_101
            refine lv_lstore (lv' := [(10, .long (oAhe mq n (ms (plK mq v w) n.toNatClampNeg) i)), (8, .long (oBeh mq n (ms (plK mq v w) n.toNatClampNeg) i)), (5, .long (ofF mq n (ms (plK mq v w) n.toNatClampNeg) i)), (7, .int (nI i)), (0, .ref y), (1, .int w), (2, .int n), (3, .int k), (4, .int (rf_num mn w n 1 200))]) hx hb dX6_off_101 hl (by decide) rfl (fun ls hl => ?_)
            refine lv_lload hx hb dX6_off_103 (lv_at hl 1 rfl) ?_
            refine lv_lload hx hb dX6_off_105 (lv_at hl 2 rfl) ?_
            refine W.lcmp hx hb dX6_off_107 ?_
            refine lv_if_le (tgt := 116) hx hb dX6_off_108 (by decide) (fun c_108 => ?_) (fun c_108 => ?_)
            · skip
              have c_108 := (lg_cmp_le _ _).mp c_108
              refine lv_lload hx hb dX6_off_116 (lv_at hl 2 rfl) ?_
              refine lv_lstore (lv' := [(5, .long (ofF mq n (ms (plK mq v w) n.toNatClampNeg) i)), (10, .long (oAhe mq n (ms (plK mq v w) n.toNatClampNeg) i)), (8, .long (oBeh mq n (ms (plK mq v w) n.toNatClampNeg) i)), (7, .int (nI i)), (0, .ref y), (1, .int w), (2, .int n), (3, .int k), (4, .int (rf_num mn w n 1 200))]) hx hb dX6_off_118 hl (by decide) rfl (fun ls hl => ?_)
              refine lv_lload hx hb dX6_off_120 (lv_at hl 1 rfl) ?_
              refine lv_lload hx hb dX6_off_122 (lv_at hl 0 rfl) ?_
              refine W.lcmp hx hb dX6_off_124 ?_
              refine lv_if_le (tgt := 133) hx hb dX6_off_125 (by decide) (fun c_125 => ?_) (fun c_125 => ?_)
              · skip
                have c_125 := (lg_cmp_le _ _).mp c_125
                refine lv_lload hx hb dX6_off_133 (lv_at hl 0 rfl) ?_
                refine lv_lstore (lv' := [(5, .long (ofF mq n (ms (plK mq v w) n.toNatClampNeg) i)), (10, .long (oAhe mq n (ms (plK mq v w) n.toNatClampNeg) i)), (8, .long (oBeh mq n (ms (plK mq v w) n.toNatClampNeg) i)), (7, .int (nI i)), (0, .ref y), (1, .int w), (2, .int n), (3, .int k), (4, .int (rf_num mn w n 1 200))]) hx hb dX6_off_135 hl (by decide) rfl (fun ls hl => ?_)
                refine lv_iinc (v := (nI i) + 1) (lv' := [(7, .int ((nI i) + 1)), (5, .long (ofF mq n (ms (plK mq v w) n.toNatClampNeg) i)), (10, .long (oAhe mq n (ms (plK mq v w) n.toNatClampNeg) i)), (8, .long (oBeh mq n (ms (plK mq v w) n.toNatClampNeg) i)), (0, .ref y), (1, .int w), (2, .int n), (3, .int k), (4, .int (rf_num mn w n 1 200))]) hx hb dX6_off_137 hl (k := 3) rfl (by rfl) (by decide) rfl (fun ls hl => ?_)
                refine lv_goto (tgt := 49) hx hb dX6_off_140 (by decide) ?_
                exact ih_49 (i + 1) (by omega) (by omega) _ (by rw [ofF, mx3]; exact ((if_pos c_108).trans (if_pos c_125)).symm) _ (by first | rfl | exact nI_1 _ | exact nI_0.symm) ls (lv_sub hl [1, 0, 4, 5, 6, 7, 8] rfl)
              · skip
                have c_125 := mt (lg_cmp_le _ _).mpr c_125
                refine lv_lload hx hb dX6_off_128 (lv_at hl 1 rfl) ?_
                refine lv_goto (tgt := 135) hx hb dX6_off_130 (by decide) ?_
                refine lv_lstore (lv' := [(5, .long (oAhe mq n (ms (plK mq v w) n.toNatClampNeg) i)), (10, .long (oAhe mq n (ms (plK mq v w) n.toNatClampNeg) i)), (8, .long (oBeh mq n (ms (plK mq v w) n.toNatClampNeg) i)), (7, .int (nI i)), (0, .ref y), (1, .int w), (2, .int n), (3, .int k), (4, .int (rf_num mn w n 1 200))]) hx hb dX6_off_135 hl (by decide) rfl (fun ls hl => ?_)
                refine lv_iinc (v := (nI i) + 1) (lv' := [(7, .int ((nI i) + 1)), (5, .long (oAhe mq n (ms (plK mq v w) n.toNatClampNeg) i)), (10, .long (oAhe mq n (ms (plK mq v w) n.toNatClampNeg) i)), (8, .long (oBeh mq n (ms (plK mq v w) n.toNatClampNeg) i)), (0, .ref y), (1, .int w), (2, .int n), (3, .int k), (4, .int (rf_num mn w n 1 200))]) hx hb dX6_off_137 hl (k := 3) rfl (by rfl) (by decide) rfl (fun ls hl => ?_)
                refine lv_goto (tgt := 49) hx hb dX6_off_140 (by decide) ?_
                exact ih_49 (i + 1) (by omega) (by omega) _ (by rw [ofF, mx3]; exact ((if_pos c_108).trans (if_neg c_125)).symm) _ (by first | rfl | exact nI_1 _ | exact nI_0.symm) ls (lv_sub hl [1, 0, 4, 5, 6, 7, 8] rfl)
            · skip
              have c_108 := mt (lg_cmp_le _ _).mpr c_108
              refine lv_lload hx hb dX6_off_111 (lv_at hl 1 rfl) ?_
              refine lv_goto (tgt := 118) hx hb dX6_off_113 (by decide) ?_
              refine lv_lstore (lv' := [(5, .long (oBeh mq n (ms (plK mq v w) n.toNatClampNeg) i)), (10, .long (oAhe mq n (ms (plK mq v w) n.toNatClampNeg) i)), (8, .long (oBeh mq n (ms (plK mq v w) n.toNatClampNeg) i)), (7, .int (nI i)), (0, .ref y), (1, .int w), (2, .int n), (3, .int k), (4, .int (rf_num mn w n 1 200))]) hx hb dX6_off_118 hl (by decide) rfl (fun ls hl => ?_)
              refine lv_lload hx hb dX6_off_120 (lv_at hl 1 rfl) ?_
              refine lv_lload hx hb dX6_off_122 (lv_at hl 0 rfl) ?_
              refine W.lcmp hx hb dX6_off_124 ?_
              refine lv_if_le (tgt := 133) hx hb dX6_off_125 (by decide) (fun c_125 => ?_) (fun c_125 => ?_)
              · skip
                have c_125 := (lg_cmp_le _ _).mp c_125
                refine lv_lload hx hb dX6_off_133 (lv_at hl 0 rfl) ?_
                refine lv_lstore (lv' := [(5, .long (oBeh mq n (ms (plK mq v w) n.toNatClampNeg) i)), (10, .long (oAhe mq n (ms (plK mq v w) n.toNatClampNeg) i)), (8, .long (oBeh mq n (ms (plK mq v w) n.toNatClampNeg) i)), (7, .int (nI i)), (0, .ref y), (1, .int w), (2, .int n), (3, .int k), (4, .int (rf_num mn w n 1 200))]) hx hb dX6_off_135 hl (by decide) rfl (fun ls hl => ?_)
                refine lv_iinc (v := (nI i) + 1) (lv' := [(7, .int ((nI i) + 1)), (5, .long (oBeh mq n (ms (plK mq v w) n.toNatClampNeg) i)), (10, .long (oAhe mq n (ms (plK mq v w) n.toNatClampNeg) i)), (8, .long (oBeh mq n (ms (plK mq v w) n.toNatClampNeg) i)), (0, .ref y), (1, .int w), (2, .int n), (3, .int k), (4, .int (rf_num mn w n 1 200))]) hx hb dX6_off_137 hl (k := 3) rfl (by rfl) (by decide) rfl (fun ls hl => ?_)
                refine lv_goto (tgt := 49) hx hb dX6_off_140 (by decide) ?_
                exact ih_49 (i + 1) (by omega) (by omega) _ (by rw [ofF, mx3]; exact ((if_neg c_108).trans (if_pos c_125)).symm) _ (by first | rfl | exact nI_1 _ | exact nI_0.symm) ls (lv_sub hl [1, 0, 4, 5, 6, 7, 8] rfl)
              · skip
                have c_125 := mt (lg_cmp_le _ _).mpr c_125
                refine lv_lload hx hb dX6_off_128 (lv_at hl 1 rfl) ?_
                refine lv_goto (tgt := 135) hx hb dX6_off_130 (by decide) ?_
                refine lv_lstore (lv' := [(5, .long (oAhe mq n (ms (plK mq v w) n.toNatClampNeg) i)), (10, .long (oAhe mq n (ms (plK mq v w) n.toNatClampNeg) i)), (8, .long (oBeh mq n (ms (plK mq v w) n.toNatClampNeg) i)), (7, .int (nI i)), (0, .ref y), (1, .int w), (2, .int n), (3, .int k), (4, .int (rf_num mn w n 1 200))]) hx hb dX6_off_135 hl (by decide) rfl (fun ls hl => ?_)
                refine lv_iinc (v := (nI i) + 1) (lv' := [(7, .int ((nI i) + 1)), (5, .long (oAhe mq n (ms (plK mq v w) n.toNatClampNeg) i)), (10, .long (oAhe mq n (ms (plK mq v w) n.toNatClampNeg) i)), (8, .long (oBeh mq n (ms (plK mq v w) n.toNatClampNeg) i)), (0, .ref y), (1, .int w), (2, .int n), (3, .int k), (4, .int (rf_num mn w n 1 200))]) hx hb dX6_off_137 hl (k := 3) rfl (by rfl) (by decide) rfl (fun ls hl => ?_)
                refine lv_goto (tgt := 49) hx hb dX6_off_140 (by decide) ?_
                exact ih_49 (i + 1) (by omega) (by omega) _ (by rw [ofF, mx3]; exact ((if_neg c_108).trans (if_neg c_125)).symm) _ (by first | rfl | exact nI_1 _ | exact nI_0.symm) ls (lv_sub hl [1, 0, 4, 5, 6, 7, 8] rfl)
      exact loop_49 (n.toNatClampNeg + 1) 0 (by omega) (by omega) _ rfl _ (by first | rfl | exact nI_1 _ | exact nI_0.symm) ls (lv_sub hl [1, 0, 3, 4, 5, 6, 2] rfl)
    · skip
      have c_27 := bi_eq0.mp c_27
      refine lv_aload_n hx hb dX6_off_30 rfl (lv_at hl 1 rfl) ?_
      refine lv_bipush (v := (-2)) hx hb dX6_off_31 (by decide) ?_
      refine wrVl (As := [.int (-2)]) (rest := []) (wr := [(yw, .inl (cI, 20, .inl v)), (yp, .inl (cI, 200, .inl P)), (ym, .inl (cI, 200, .inl Mf))]) (A := A) ⟨hx, hb, hml, hown, hts⟩ (c_X6_noLong l D cI cZ cR y yr yw yc yl ys yp ym yo yk yt yi yz yx yu mq mn mc me md mz km kr G (-2) (by decide) s.heap.size) (cwV 1 hts gX6_off_X6_noLong rfl rfl rfl (by decide +kernel) ⟨Nat.le_of_ble_eq_true rfl, Nat.le_of_ble_eq_true rfl⟩) hK hN hP hD hS hA 0 6 rfl rfl rfl [0, 1] [2, 3, 4] rfl (by decide) rfl (by decide) (by decide) rfl hl.1 rfl (Nat.le_of_ble_eq_true rfl) dX6_off_33 ⟨Nat.zero_le _, Nat.zero_le _⟩ (fun r_33 u H locs hw hP hD hS => ?_)
      obtain ⟨G_33, rfl⟩ : ∃ z, z = u := ⟨_, rfl⟩
      try dsimp only at hw
      obtain ⟨q1_33, q2_33⟩ := hw
      have q1_33 := q1_33.symm
      subst q1_33
      have q2_33 := q2_33.symm
      subst q2_33
      have hP : va_P D vwCl [(y, .inr (6, [.ref yr, .int mq, .int mn, .ref yw, .ref yc, .int mc, .ref yl, .int me, .ref ys, .ref yp, .ref ym, .int md, .ref yo, .ref yk, .ref yt, .int mz, .ref yi, .ref yz, .ref yx, .ref yu, .int km, .int kr])), (yr, .inl (cI, 7, .inl (md_bump G (-2)))), (yw, .inl (cI, 20, .inl v)), (yp, .inl (cI, 200, .inl P)), (ym, .inl (cI, 200, .inl Mf))] H := hP.sub [3, 4, 0, 1, 2] rfl
      have hD : va_D A [(y, .inr (6, [.ref yr, .int mq, .int mn, .ref yw, .ref yc, .int mc, .ref yl, .int me, .ref ys, .ref yp, .ref ym, .int md, .ref yo, .ref yk, .ref yt, .int mz, .ref yi, .ref yz, .ref yx, .ref yu, .int km, .int kr])), (yr, .inl (cI, 7, .inl (md_bump G (-2)))), (yw, .inl (cI, 20, .inl v)), (yp, .inl (cI, 200, .inl P)), (ym, .inl (cI, 200, .inl Mf))] := hD.sub [3, 4, 0, 1, 2] (by decide) rfl
      exact wrL (w1 := (fun (u : (Nat → Int32) × Int32 × (Nat → Int32) × (Nat → Int32)) => [(y, .inr (6, [.ref yr, .int mq, .int mn, .ref yw, .ref yc, .int mc, .ref yl, .int me, .ref ys, .ref yp, .ref ym, .int u.2.1, .ref yo, .ref yk, .ref yt, .int mz, .ref yi, .ref yz, .ref yx, .ref yu, .int km, .int kr])), (yr, .inl (cI, 7, .inl u.1)), (yw, .inl (cI, 20, .inl v)), (yp, .inl (cI, 200, .inl u.2.2.1)), (ym, .inl (cI, 200, .inl u.2.2.2))])) ((md_bump G (-2)), md, P, Mf) hx hb hr hlocks dX6_off_36 hS (hP.sub [0, 1, 2, 3, 4] rfl) (hD.sub [0, 1, 2, 3, 4] (by decide) rfl) (by have e9 := rf_beh_2 c_10 (mt (md_w1 k).mpr c_27); rw [e9, if_neg (by decide), if_neg (by decide)]; exact ⟨rfl, rfl⟩)
  · skip
    refine lv_aload_n hx hb dX6_off_13 rfl (lv_at hl 1 rfl) ?_
    refine lv_iload hx hb dX6_off_14 (lv_at hl 0 rfl) ?_
    refine wrVl (As := [.int (rf_num mn w n 1 200)]) (rest := []) (wr := [(yw, .inl (cI, 20, .inl v)), (yp, .inl (cI, 200, .inl P)), (ym, .inl (cI, 200, .inl Mf))]) (A := A) ⟨hx, hb, hml, hown, hts⟩ (c_X6_noLong l D cI cZ cR y yr yw yc yl ys yp ym yo yk yt yi yz yx yu mq mn mc me md mz km kr G (rf_num mn w n 1 200) (rf_num_le _ _ _ _ _) s.heap.size) (cwV 1 hts gX6_off_X6_noLong rfl rfl rfl (by decide +kernel) ⟨Nat.le_of_ble_eq_true rfl, Nat.le_of_ble_eq_true rfl⟩) hK hN hP hD hS hA 0 6 rfl rfl rfl [0, 1] [2, 3, 4] rfl (by decide) rfl (by decide) (by decide) rfl hl.1 rfl (Nat.le_of_ble_eq_true rfl) dX6_off_16 ⟨Nat.zero_le _, Nat.zero_le _⟩ (fun r_16 u H locs hw hP hD hS => ?_)
    obtain ⟨G_16, rfl⟩ : ∃ z, z = u := ⟨_, rfl⟩
    try dsimp only at hw
    obtain ⟨q1_16, q2_16⟩ := hw
    have q1_16 := q1_16.symm
    subst q1_16
    have q2_16 := q2_16.symm
    subst q2_16
    have hP : va_P D vwCl [(y, .inr (6, [.ref yr, .int mq, .int mn, .ref yw, .ref yc, .int mc, .ref yl, .int me, .ref ys, .ref yp, .ref ym, .int md, .ref yo, .ref yk, .ref yt, .int mz, .ref yi, .ref yz, .ref yx, .ref yu, .int km, .int kr])), (yr, .inl (cI, 7, .inl (md_bump G (rf_num mn w n 1 200)))), (yw, .inl (cI, 20, .inl v)), (yp, .inl (cI, 200, .inl P)), (ym, .inl (cI, 200, .inl Mf))] H := hP.sub [3, 4, 0, 1, 2] rfl
    have hD : va_D A [(y, .inr (6, [.ref yr, .int mq, .int mn, .ref yw, .ref yc, .int mc, .ref yl, .int me, .ref ys, .ref yp, .ref ym, .int md, .ref yo, .ref yk, .ref yt, .int mz, .ref yi, .ref yz, .ref yx, .ref yu, .int km, .int kr])), (yr, .inl (cI, 7, .inl (md_bump G (rf_num mn w n 1 200)))), (yw, .inl (cI, 20, .inl v)), (yp, .inl (cI, 200, .inl P)), (ym, .inl (cI, 200, .inl Mf))] := hD.sub [3, 4, 0, 1, 2] (by decide) rfl
    exact wrL (w1 := (fun (u : (Nat → Int32) × Int32 × (Nat → Int32) × (Nat → Int32)) => [(y, .inr (6, [.ref yr, .int mq, .int mn, .ref yw, .ref yc, .int mc, .ref yl, .int me, .ref ys, .ref yp, .ref ym, .int u.2.1, .ref yo, .ref yk, .ref yt, .int mz, .ref yi, .ref yz, .ref yx, .ref yu, .int km, .int kr])), (yr, .inl (cI, 7, .inl u.1)), (yw, .inl (cI, 20, .inl v)), (yp, .inl (cI, 200, .inl u.2.2.1)), (ym, .inl (cI, 200, .inl u.2.2.2))])) ((md_bump G (rf_num mn w n 1 200)), md, P, Mf) hx hb hr hlocks dX6_off_19 hS (hP.sub [0, 1, 2, 3, 4] rfl) (hD.sub [0, 1, 2, 3, 4] (by decide) rfl) (by have e9 := rf_beh_n (k := k) (ks := 2) c_10; have e8 : ¬ rf_beh mn w n k 2 = 0 := (by rw [e9]; exact c_10); rw [if_neg e8, if_neg e8, e9]; exact ⟨rfl, rfl⟩)
