theorem in_X5_lots_X1 : ∀ w ∈ wsX10, w ∈ wsX5_lots := by decide +kernel
theorem in_X5_lots_X3 : ∀ w ∈ wsX30, w ∈ wsX5_lots := by decide +kernel
theorem in_X5_lots_X5 : ∀ w ∈ wsX50, w ∈ wsX5_lots := by decide +kernel
set_option maxHeartbeats 4000000 in
set_option maxRecDepth 100000 in
theorem c_X5_lots (l : Launch) (D : va_G) (cI cZ cR : ClassId) (x r t im tx ch ro rf pl ot cl : Nat) (hi : Int32) (F : Nat → Int32) (rn : Nat) (q nw : Int32) (v : Nat → Int32) (on : Nat) (oz : Int32) (og : Nat → Int32) (n z0 k : Int32) (sz : Nat) : Met l yX5_lots wsX5_lots ({ frames := 4, cells := 0, slots := 0, locals := 103 }) (PcW D cI cZ cR [.ref x, .int n, .int z0, .int k] [(x, .inr (5, [.ref r, .ref t, .ref im, .int hi, .ref tx, .ref ch, .ref ro, .ref rf, .ref pl, .ref ot, .ref cl])), (rf, .inl (cI, 6, .inl F)), (r, .inr (1, [.int q, .int nw, .ref rn])), (rn, .inl (cI, 20, .inl v)), (ot, .inr (3, [.int oz, .ref on])), (on, .inl (cI, 200, .inl og))] sz) (va_Qi (fun (res : Int32) (u : (Nat → Int32) × Int32 × (Nat → Int32)) => res = (if rf_lot nw n k = 0 then lotA q nw v z0 n.toNatClampNeg k else rf_lot nw n k) ∧ u.1 = (if rf_lot nw n k = 0 then F else rf_bump F (rf_lot nw n k))) (Bw D (fun (u : (Nat → Int32) × Int32 × (Nat → Int32)) => [(x, .inr (5, [.ref r, .ref t, .ref im, .int hi, .ref tx, .ref ch, .ref ro, .ref rf, .ref pl, .ref ot, .ref cl])), (rf, .inl (cI, 6, .inl u.1)), (r, .inr (1, [.int q, .int nw, .ref rn])), (rn, .inl (cI, 20, .inl v)), (ot, .inr (3, [.int u.2.1, .ref on])), (on, .inl (cI, 200, .inl u.2.2))]) (va_A [(x, .inr (5, [.ref r, .ref t, .ref im, .int hi, .ref tx, .ref ch, .ref ro, .ref rf, .ref pl, .ref ot, .ref cl])), (rf, .inl (cI, 6, .inl F)), (r, .inr (1, [.int q, .int nw, .ref rn])), (rn, .inl (cI, 20, .inl v)), (ot, .inr (3, [.int oz, .ref on])), (on, .inl (cI, 200, .inl og))] sz)) (va_A [(x, .inr (5, [.ref r, .ref t, .ref im, .int hi, .ref tx, .ref ch, .ref ro, .ref rf, .ref pl, .ref ot, .ref cl])), (rf, .inl (cI, 6, .inl F)), (r, .inr (1, [.int q, .int nw, .ref rn])), (rn, .inl (cI, 20, .inl v)), (ot, .inr (3, [.int oz, .ref on])), (on, .inl (cI, 200, .inl og))] sz)) 0 0 (va_A [(x, .inr (5, [.ref r, .ref t, .ref im, .int hi, .ref tx, .ref ch, .ref ro, .ref rf, .ref pl, .ref ot, .ref cl])), (rf, .inl (cI, 6, .inl F)), (r, .inr (1, [.int q, .int nw, .ref rn])), (rn, .inl (cI, 20, .inl v)), (ot, .inr (3, [.int oz, .ref on])), (on, .inl (cI, 200, .inl og))] sz) := by
  refine Met.ofW (cc := cX5_lots) (maxL := 9) (ret := (some .int)) (by decide) rfl ?_
  intro p e s m args below meth c s₁ B hml hv
  obtain ⟨rfl, hsz, hP, hK, hD0, hN⟩ := hv
  have hx := B.exec
  have hb := B.bytes
  have hr := B.returns
  have hts := atoms_spec (ws := wsX5_lots) B.pre
  have hown : s.vm.findClass RX5 = some m.cls := findClass_of_methodNamed B.named
  have hlocks := B.notSynchronized
  subst hsz
  have hD := hD0.self (sz := s.heap.size)
  generalize hAe : va_A [(x, .inr (5, [.ref r, .ref t, .ref im, .int hi, .ref tx, .ref ch, .ref ro, .ref rf, .ref pl, .ref ot, .ref cl])), (rf, .inl (cI, 6, .inl F)), (r, .inr (1, [.int q, .int nw, .ref rn])), (rn, .inl (cI, 20, .inl v)), (ot, .inr (3, [.int oz, .ref on])), (on, .inl (cI, 200, .inl og))] s.heap.size = A at hD ⊢
  have hA : ∀ q : Nat, s.heap.size ≤ q → A q := fun q h => by rw [← hAe]; exact Or.inr h
  have hS : va_S A s.heap s.heap [] := va_S.rf
  have hP : va_P D vwCl [(x, .inr (5, [.ref r, .ref t, .ref im, .int hi, .ref tx, .ref ch, .ref ro, .ref rf, .ref pl, .ref ot, .ref cl])), (rf, .inl (cI, 6, .inl F)), (r, .inr (1, [.int q, .int nw, .ref rn])), (rn, .inl (cI, 20, .inl v)), (ot, .inr (3, [.int oz, .ref on])), (on, .inl (cI, 200, .inl og))] s.heap := hP
  have hl := lv_entry ([.ref x, .int n, .int z0, .int k]) (n := 9) (Nat.le_of_ble_eq_true rfl)
  rw [lg_entry_eq]
  generalize (lg_sl ([.ref x, .int n, .int z0, .int k]) ++ List.replicate (9 - (lg_sl ([.ref x, .int n, .int z0, .int k])).length) Slot.unset).toArray = ls at hl ⊢
  have hl : lv_has ls 9 [(0, .ref x), (1, .int n), (2, .int z0), (3, .int k)] := hl
  refine lv_iload_n hx hb dX5_lots_0 rfl (lv_at hl 1 rfl) ?_
  refine lv_iconst (v := 1) hx hb dX5_lots_1 (by decide) ?_
  refine lv_icmp_ge (tgt := 12) hx hb dX5_lots_2 (by decide) (fun c_2 => ?_) (fun c_2 => ?_)
  · skip
    refine lv_iload_n hx hb dX5_lots_12 rfl (lv_at hl 1 rfl) ?_
    refine lv_bipush (v := 50) hx hb dX5_lots_13 (by decide) ?_
    refine lv_icmp_le (tgt := 25) hx hb dX5_lots_15 (by decide) (fun c_15 => ?_) (fun c_15 => ?_)
    · skip
      refine lv_iload_n hx hb dX5_lots_25 rfl (lv_at hl 3 rfl) ?_
      refine lv_iconst (v := 2) hx hb dX5_lots_26 (by decide) ?_
      refine rdS (As := [.int k, .int 2]) (rest := []) ⟨hx, hb, hml, hown, hts⟩ (c_X5_isBelow l D cI cZ cR k 2 ) (va_cwS 2 hts gX5_lots_X5_isBelow rfl rfl rfl (by decide +kernel) ⟨Nat.le_of_ble_eq_true rfl, Nat.le_of_ble_eq_true rfl⟩) hK hN hP [] rfl rfl hl.1 rfl (Nat.le_of_ble_eq_true rfl) dX5_lots_27 ⟨Nat.zero_le _, Nat.zero_le _⟩ ?_
      refine lv_if_ne (tgt := 40) hx hb dX5_lots_30 (by decide) (fun c_30 => ?_) (fun c_30 => ?_)
      · skip
        have c_30 := bi_ne0.mp c_30
        refine lv_aload_n hx hb dX5_lots_40 rfl (lv_at hl 0 rfl) ?_
        refine va_get (D := D) (ci := 5) (v := .ref r) (C := RX5) (T := TX5) (N := 11) hx hb hts (in_X5_lots_X5) hown hK hP 0 rfl rfl 0 (by decide) (hts (.fieldLink RX5 10 "StepsRoundCircle" "ring" "LStepsRoundCircle$Ring;") (by decide +kernel)) (fun _ h9 => h9) rfl dX5_lots_41 ?_
        refine va_get (D := D) (ci := 1) (v := .int nw) (C := RX1) (T := TX1) (N := 3) hx hb hts (in_X5_lots_X1) hown hK hP 2 rfl rfl 1 (by decide) (hts (.fieldLink RX5 103 "StepsRoundCircle$Ring" "walkers" "I") (by decide +kernel)) (fun _ h9 => h9) rfl dX5_lots_44 ?_
        refine lv_if_ne (tgt := 57) hx hb dX5_lots_47 (by decide) (fun c_47 => ?_) (fun c_47 => ?_)
        · skip
          have eR : rf_lot nw n k = 0 := by unfold rf_lot; rw [if_neg (Int32.not_lt.mpr c_2), if_neg (Int32.not_lt.mpr c_15), if_neg (fun z => z c_30), if_neg c_47]
          have hn := n50 c_2 c_15
          refine lv_aload_n hx hb dX5_lots_57 rfl (lv_at hl 0 rfl) ?_
          refine va_get (D := D) (ci := 5) (v := .ref ot) (C := RX5) (T := TX5) (N := 11) hx hb hts (in_X5_lots_X5) hown hK hP 0 rfl rfl 9 (by decide) (hts (.fieldLink RX5 57 "StepsRoundCircle" "others" "LStepsRoundCircle$Sorted;") (by decide +kernel)) (fun _ h9 => h9) rfl dX5_lots_58 ?_
          refine wrVv (As := []) (rest := []) (wr := [(x, .inr (5, [.ref r, .ref t, .ref im, .int hi, .ref tx, .ref ch, .ref ro, .ref rf, .ref pl, .ref ot, .ref cl])), (rf, .inl (cI, 6, .inl F)), (r, .inr (1, [.int q, .int nw, .ref rn])), (rn, .inl (cI, 20, .inl v))]) (A := A) ⟨hx, hb, hml, hown, hts⟩ (c_X3_clear l D cI cZ cR ot on oz og  s.heap.size) (cwV 0 hts gX5_lots_X3_clear rfl rfl rfl (by decide +kernel) ⟨Nat.le_of_ble_eq_true rfl, Nat.le_of_ble_eq_true rfl⟩) hK hN hP hD hS hA 4 3 rfl rfl rfl [4, 5] [0, 1, 2, 3] rfl (by decide) rfl (by decide) (by decide) rfl hl.1 rfl (Nat.le_of_ble_eq_true rfl) dX5_lots_61 ⟨Nat.zero_le _, Nat.zero_le _⟩ (fun u H locs hw hP hD hS => ?_)
          obtain ⟨z_61, rfl⟩ : ∃ z, z = u := ⟨_, rfl⟩
          try dsimp only at hw
          have q1_61 := hw
          have q1_61 := q1_61.symm
          subst q1_61
          have hP : va_P D vwCl [(x, .inr (5, [.ref r, .ref t, .ref im, .int hi, .ref tx, .ref ch, .ref ro, .ref rf, .ref pl, .ref ot, .ref cl])), (rf, .inl (cI, 6, .inl F)), (r, .inr (1, [.int q, .int nw, .ref rn])), (rn, .inl (cI, 20, .inl v)), (ot, .inr (3, [.int 0, .ref on])), (on, .inl (cI, 200, .inl og))] H := hP.sub [0, 1, 2, 3, 4, 5] rfl
          have hD : va_D A [(x, .inr (5, [.ref r, .ref t, .ref im, .int hi, .ref tx, .ref ch, .ref ro, .ref rf, .ref pl, .ref ot, .ref cl])), (rf, .inl (cI, 6, .inl F)), (r, .inr (1, [.int q, .int nw, .ref rn])), (rn, .inl (cI, 20, .inl v)), (ot, .inr (3, [.int 0, .ref on])), (on, .inl (cI, 200, .inl og))] := hD.sub [0, 1, 2, 3, 4, 5] (by decide) rfl
          refine lv_iload_n hx hb dX5_lots_64 rfl (lv_at hl 2 rfl) ?_
          refine lv_istore (lv' := [(4, .int z0), (0, .ref x), (1, .int n), (2, .int z0), (3, .int k)]) hx hb dX5_lots_65 hl (by decide) rfl (fun ls hl => ?_)
          refine lv_iconst (v := 0) hx hb dX5_lots_67 (by decide) ?_
          refine lv_istore (lv' := [(5, .int 0), (4, .int z0), (0, .ref x), (1, .int n), (2, .int z0), (3, .int k)]) hx hb dX5_lots_68 hl (by decide) rfl (fun ls hl => ?_)
          refine lv_iconst (v := 0) hx hb dX5_lots_70 (by decide) ?_
          refine lv_istore (lv' := [(6, .int 0), (5, .int 0), (4, .int z0), (0, .ref x), (1, .int n), (2, .int z0), (3, .int k)]) hx hb dX5_lots_71 hl (by decide) rfl (fun ls hl => ?_)
          have loop_73 : ∀ (fuel : Nat), ∀ (i : Nat), ∀ (zz : Int32), ∀ (gg : Nat → Int32), (i ≤ n.toNatClampNeg) → (so_rep (mk (lotP q nw v z0) i) zz gg) → (n.toNatClampNeg + 1 ≤ i + fuel) → ∀ (y4 : Int32), y4 = sd z0 i → ∀ (y5 : Int32), y5 = isum (lotP q nw v z0) i → ∀ (y6 : Int32), y6 = nI i → ∀ (H : Heap) (locs : List Loc), va_P D vwCl [(x, .inr (5, [.ref r, .ref t, .ref im, .int hi, .ref tx, .ref ch, .ref ro, .ref rf, .ref pl, .ref ot, .ref cl])), (rf, .inl (cI, 6, .inl F)), (r, .inr (1, [.int q, .int nw, .ref rn])), (rn, .inl (cI, 20, .inl v)), (ot, .inr (3, [.int zz, .ref on])), (on, .inl (cI, 200, .inl gg))] H → va_D A [(x, .inr (5, [.ref r, .ref t, .ref im, .int hi, .ref tx, .ref ch, .ref ro, .ref rf, .ref pl, .ref ot, .ref cl])), (rf, .inl (cI, 6, .inl F)), (r, .inr (1, [.int q, .int nw, .ref rn])), (rn, .inl (cI, 20, .inl v)), (ot, .inr (3, [.int zz, .ref on])), (on, .inl (cI, 200, .inl gg))] → va_S A s.heap H locs → ∀ (ls : Array Slot), lv_has ls 9 [(4, .int y4), (5, .int y5), (6, .int y6), (0, .ref x), (1, .int n), (2, .int z0), (3, .int k)] → W p l e (headSpec wsX5_lots ({ frames := 4, cells := 0, slots := 0, locals := 103 })).room s m ([.ref x, .int n, .int z0, .int k] : List Value).toArray below meth c H locs 0 0 (MQ below (va_Qi (fun (res : Int32) (u : (Nat → Int32) × Int32 × (Nat → Int32)) => res = (if rf_lot nw n k = 0 then lotA q nw v z0 n.toNatClampNeg k else rf_lot nw n k) ∧ u.1 = (if rf_lot nw n k = 0 then F else rf_bump F (rf_lot nw n k))) (Bw D (fun (u : (Nat → Int32) × Int32 × (Nat → Int32)) => [(x, .inr (5, [.ref r, .ref t, .ref im, .int hi, .ref tx, .ref ch, .ref ro, .ref rf, .ref pl, .ref ot, .ref cl])), (rf, .inl (cI, 6, .inl u.1)), (r, .inr (1, [.int q, .int nw, .ref rn])), (rn, .inl (cI, 20, .inl v)), (ot, .inr (3, [.int u.2.1, .ref on])), (on, .inl (cI, 200, .inl u.2.2))]) A) A) ([.ref x, .int n, .int z0, .int k] : List Value).toArray s 0 0 A) (F0 m 73 ls []) := by
            intro fuel
            induction fuel with
            | zero =>
              intro i zz gg hi9 hrep hfu
              exact False.elim (by omega)
            | succ fuel ih_73 =>
              intro i zz gg hi9 hrep hfu y4 ey4 y5 ey5 y6 ey6 H locs hP hD hS ls hl
              subst ey4
              subst ey5
              subst ey6
              refine lv_iload hx hb dX5_lots_73 (lv_at hl 2 rfl) ?_
              refine lv_iload_n hx hb dX5_lots_75 rfl (lv_at hl 4 rfl) ?_
              refine lv_icmp_ge (tgt := 148) hx hb dX5_lots_76 (by decide) (fun c_76 => ?_) (fun c_76 => ?_)
              · skip
                have hend : i = n.toNatClampNeg := by have := (le_clamp (by omega)).mp c_76; omega
                refine lv_iload_n hx hb dX5_lots_148 rfl (lv_at hl 6 rfl) ?_
                refine lv_if_ne (tgt := 162) hx hb dX5_lots_149 (by decide) (fun c_149 => ?_) (fun c_149 => ?_)
                · skip
                  refine lv_iload hx hb dX5_lots_162 (lv_at hl 1 rfl) ?_
                  exact wrI (w1 := (fun (u : (Nat → Int32) × Int32 × (Nat → Int32)) => [(x, .inr (5, [.ref r, .ref t, .ref im, .int hi, .ref tx, .ref ch, .ref ro, .ref rf, .ref pl, .ref ot, .ref cl])), (rf, .inl (cI, 6, .inl u.1)), (r, .inr (1, [.int q, .int nw, .ref rn])), (rn, .inl (cI, 20, .inl v)), (ot, .inr (3, [.int u.2.1, .ref on])), (on, .inl (cI, 200, .inl u.2.2))])) (F, zz, gg) hx hb hr hlocks dX5_lots_164 hS (hP.sub [0, 1, 2, 3, 4, 5] rfl) (hD.sub [0, 1, 2, 3, 4, 5] (by decide) rfl) (⟨by rw [if_pos eR]; unfold lotA; rw [if_neg c_149]; rw [hend], by rw [if_pos eR]⟩)
                · skip
                  refine lv_aload_n hx hb dX5_lots_152 rfl (lv_at hl 3 rfl) ?_
                  refine va_get (D := D) (ci := 5) (v := .ref ot) (C := RX5) (T := TX5) (N := 11) hx hb hts (in_X5_lots_X5) hown hK hP 0 rfl rfl 9 (by decide) (hts (.fieldLink RX5 57 "StepsRoundCircle" "others" "LStepsRoundCircle$Sorted;") (by decide +kernel)) (fun _ h9 => h9) rfl dX5_lots_153 ?_
                  refine va_get (D := D) (ci := 3) (v := .int zz) (C := RX3) (T := TX3) (N := 2) hx hb hts (in_X5_lots_X3) hown hK hP 4 rfl rfl 0 (by decide) (hts (.fieldLink RX5 150 "StepsRoundCircle$Sorted" "size" "I") (by decide +kernel)) (fun _ h9 => h9) rfl dX5_lots_156 ?_
                  refine lv_goto (tgt := 164) hx hb dX5_lots_159 (by decide) ?_
                  exact wrI (w1 := (fun (u : (Nat → Int32) × Int32 × (Nat → Int32)) => [(x, .inr (5, [.ref r, .ref t, .ref im, .int hi, .ref tx, .ref ch, .ref ro, .ref rf, .ref pl, .ref ot, .ref cl])), (rf, .inl (cI, 6, .inl u.1)), (r, .inr (1, [.int q, .int nw, .ref rn])), (rn, .inl (cI, 20, .inl v)), (ot, .inr (3, [.int u.2.1, .ref on])), (on, .inl (cI, 200, .inl u.2.2))])) (F, zz, gg) hx hb hr hlocks dX5_lots_164 hS (hP.sub [0, 1, 2, 3, 4, 5] rfl) (hD.sub [0, 1, 2, 3, 4, 5] (by decide) rfl) (⟨by rw [if_pos eR]; unfold lotA; rw [if_pos c_149]; rw [← hend]; exact hrep.1, by rw [if_pos eR]⟩)
              · skip
                have hiN : i < n.toNatClampNeg := (lt_clamp (by omega)).mp (Int32.not_le.mp c_76)
                have hgl := mk_len (lotP q nw v z0) i
                refine lv_iload hx hb dX5_lots_79 (lv_at hl 0 rfl) ?_
                refine rdS (As := [.int (sd z0 i)]) (rest := []) ⟨hx, hb, hml, hown, hts⟩ (c_X5_nextSeed l D cI cZ cR (sd z0 i) ) (va_cwS 1 hts gX5_lots_X5_nextSeed rfl rfl rfl (by decide +kernel) ⟨Nat.le_of_ble_eq_true rfl, Nat.le_of_ble_eq_true rfl⟩) hK hN hP [] rfl rfl hl.1 rfl (Nat.le_of_ble_eq_true rfl) dX5_lots_81 ⟨Nat.zero_le _, Nat.zero_le _⟩ ?_
                refine lv_istore (lv' := [(4, .int (fseed (sd z0 i))), (5, .int (isum (lotP q nw v z0) i)), (6, .int (nI i)), (0, .ref x), (1, .int n), (2, .int z0), (3, .int k)]) hx hb dX5_lots_84 hl (by decide) rfl (fun ls hl => ?_)
                refine lv_iload hx hb dX5_lots_86 (lv_at hl 0 rfl) ?_
                refine lv_aload_n hx hb dX5_lots_88 rfl (lv_at hl 3 rfl) ?_
                refine va_get (D := D) (ci := 5) (v := .ref r) (C := RX5) (T := TX5) (N := 11) hx hb hts (in_X5_lots_X5) hown hK hP 0 rfl rfl 0 (by decide) (hts (.fieldLink RX5 10 "StepsRoundCircle" "ring" "LStepsRoundCircle$Ring;") (by decide +kernel)) (fun _ h9 => h9) rfl dX5_lots_89 ?_
                refine va_get (D := D) (ci := 1) (v := .int nw) (C := RX1) (T := TX1) (N := 3) hx hb hts (in_X5_lots_X1) hown hK hP 2 rfl rfl 1 (by decide) (hts (.fieldLink RX5 103 "StepsRoundCircle$Ring" "walkers" "I") (by decide +kernel)) (fun _ h9 => h9) rfl dX5_lots_92 ?_
                refine rdS (As := [.int (fseed (sd z0 i)), .int nw]) (rest := []) ⟨hx, hb, hml, hown, hts⟩ (c_X5_drawn l D cI cZ cR (fseed (sd z0 i)) nw ) (va_cwS 2 hts gX5_lots_X5_drawn rfl rfl rfl (by decide +kernel) ⟨Nat.le_of_ble_eq_true rfl, Nat.le_of_ble_eq_true rfl⟩) hK hN hP [] rfl rfl hl.1 rfl (Nat.le_of_ble_eq_true rfl) dX5_lots_95 ⟨Nat.zero_le _, Nat.zero_le _⟩ ?_
                refine lv_istore (lv' := [(7, .int (fdraw (fseed (sd z0 i)) nw)), (4, .int (fseed (sd z0 i))), (5, .int (isum (lotP q nw v z0) i)), (6, .int (nI i)), (0, .ref x), (1, .int n), (2, .int z0), (3, .int k)]) hx hb dX5_lots_98 hl (by decide) rfl (fun ls hl => ?_)
                refine lv_iload hx hb dX5_lots_100 (lv_at hl 1 rfl) ?_
                refine rdS (As := [.int (fseed (sd z0 i))]) (rest := []) ⟨hx, hb, hml, hown, hts⟩ (c_X5_nextSeed l D cI cZ cR (fseed (sd z0 i)) ) (va_cwS 1 hts gX5_lots_X5_nextSeed rfl rfl rfl (by decide +kernel) ⟨Nat.le_of_ble_eq_true rfl, Nat.le_of_ble_eq_true rfl⟩) hK hN hP [] rfl rfl hl.1 rfl (Nat.le_of_ble_eq_true rfl) dX5_lots_102 ⟨Nat.zero_le _, Nat.zero_le _⟩ ?_
                refine lv_istore (lv' := [(4, .int (fseed (fseed (sd z0 i)))), (7, .int (fdraw (fseed (sd z0 i)) nw)), (5, .int (isum (lotP q nw v z0) i)), (6, .int (nI i)), (0, .ref x), (1, .int n), (2, .int z0), (3, .int k)]) hx hb dX5_lots_105 hl (by decide) rfl (fun ls hl => ?_)
                refine lv_aload_n hx hb dX5_lots_107 rfl (lv_at hl 4 rfl) ?_
                refine va_get (D := D) (ci := 5) (v := .ref r) (C := RX5) (T := TX5) (N := 11) hx hb hts (in_X5_lots_X5) hown hK hP 0 rfl rfl 0 (by decide) (hts (.fieldLink RX5 10 "StepsRoundCircle" "ring" "LStepsRoundCircle$Ring;") (by decide +kernel)) (fun _ h9 => h9) rfl dX5_lots_108 ?_
                refine lv_iload hx hb dX5_lots_111 (lv_at hl 1 rfl) ?_
                refine lv_iload hx hb dX5_lots_113 (lv_at hl 0 rfl) ?_
                refine lv_sipush (v := 200) hx hb dX5_lots_115 (by decide) ?_
                refine rdS (As := [.int (fseed (fseed (sd z0 i))), .int 200]) (rest := [.int (fdraw (fseed (sd z0 i)) nw), .ref r]) ⟨hx, hb, hml, hown, hts⟩ (c_X5_drawn l D cI cZ cR (fseed (fseed (sd z0 i))) 200 ) (va_cwS 2 hts gX5_lots_X5_drawn rfl rfl rfl (by decide +kernel) ⟨Nat.le_of_ble_eq_true rfl, Nat.le_of_ble_eq_true rfl⟩) hK hN hP [] rfl rfl hl.1 rfl (Nat.le_of_ble_eq_true rfl) dX5_lots_118 ⟨Nat.zero_le _, Nat.zero_le _⟩ ?_
                refine rdV (As := [.int (fdraw (fseed (sd z0 i)) nw), .int (fdraw (fseed (fseed (sd z0 i))) 200)]) (rest := []) ⟨hx, hb, hml, hown, hts⟩ (c_X1_placeOf l D cI cZ cR r rn q nw v (fdraw (fseed (sd z0 i)) nw) (fdraw (fseed (fseed (sd z0 i))) 200) ) (cwV 2 hts gX5_lots_X1_placeOf rfl rfl rfl (by decide +kernel) ⟨Nat.le_of_ble_eq_true rfl, Nat.le_of_ble_eq_true rfl⟩) hK hN hP 2 1 rfl rfl rfl [2, 3] rfl rfl hl.1 rfl (Nat.le_of_ble_eq_true rfl) dX5_lots_121 ⟨Nat.zero_le _, Nat.zero_le _⟩ ?_
                refine lv_topi (fun z_124 hz_124 => ?_)
                have hz_124 : z_124 = lotP q nw v z0 i := hz_124.trans rfl
                subst hz_124
                refine lv_istore (lv' := [(8, .int (lotP q nw v z0 i)), (4, .int (fseed (fseed (sd z0 i)))), (7, .int (fdraw (fseed (sd z0 i)) nw)), (5, .int (isum (lotP q nw v z0) i)), (6, .int (nI i)), (0, .ref x), (1, .int n), (2, .int z0), (3, .int k)]) hx hb dX5_lots_124 hl (by decide) rfl (fun ls hl => ?_)
                refine lv_aload_n hx hb dX5_lots_126 rfl (lv_at hl 5 rfl) ?_
                refine va_get (D := D) (ci := 5) (v := .ref ot) (C := RX5) (T := TX5) (N := 11) hx hb hts (in_X5_lots_X5) hown hK hP 0 rfl rfl 9 (by decide) (hts (.fieldLink RX5 57 "StepsRoundCircle" "others" "LStepsRoundCircle$Sorted;") (by decide +kernel)) (fun _ h9 => h9) rfl dX5_lots_127 ?_
                refine lv_iload hx hb dX5_lots_130 (lv_at hl 0 rfl) ?_
                refine wrVv (As := [.int (lotP q nw v z0 i)]) (rest := []) (wr := [(x, .inr (5, [.ref r, .ref t, .ref im, .int hi, .ref tx, .ref ch, .ref ro, .ref rf, .ref pl, .ref ot, .ref cl])), (rf, .inl (cI, 6, .inl F)), (r, .inr (1, [.int q, .int nw, .ref rn])), (rn, .inl (cI, 20, .inl v))]) (A := A) ⟨hx, hb, hml, hown, hts⟩ (c_X3_addOnce l D cI cZ cR ot on zz gg (mk (lotP q nw v z0) i) (lotP q nw v z0 i) hrep (so_str_ord (mk_str _ i)) (by omega) H.size) (cwV 1 hts gX5_lots_X3_addOnce rfl rfl rfl (by decide +kernel) ⟨Nat.le_of_ble_eq_true rfl, Nat.le_of_ble_eq_true rfl⟩) hK hN hP hD hS hA 4 3 rfl rfl rfl [4, 5] [0, 1, 2, 3] rfl (by decide) rfl (by decide) (by decide) rfl hl.1 rfl (Nat.le_of_ble_eq_true rfl) dX5_lots_132 ⟨Nat.zero_le _, Nat.zero_le _⟩ (fun u H locs hw hP hD hS => ?_)
                obtain ⟨z_132, f_132⟩ := u
                try dsimp only at hw
                have h1_132 := hw
                have hP : va_P D vwCl [(x, .inr (5, [.ref r, .ref t, .ref im, .int hi, .ref tx, .ref ch, .ref ro, .ref rf, .ref pl, .ref ot, .ref cl])), (rf, .inl (cI, 6, .inl F)), (r, .inr (1, [.int q, .int nw, .ref rn])), (rn, .inl (cI, 20, .inl v)), (ot, .inr (3, [.int z_132, .ref on])), (on, .inl (cI, 200, .inl f_132))] H := hP.sub [0, 1, 2, 3, 4, 5] rfl
                have hD : va_D A [(x, .inr (5, [.ref r, .ref t, .ref im, .int hi, .ref tx, .ref ch, .ref ro, .ref rf, .ref pl, .ref ot, .ref cl])), (rf, .inl (cI, 6, .inl F)), (r, .inr (1, [.int q, .int nw, .ref rn])), (rn, .inl (cI, 20, .inl v)), (ot, .inr (3, [.int z_132, .ref on])), (on, .inl (cI, 200, .inl f_132))] := hD.sub [0, 1, 2, 3, 4, 5] (by decide) rfl
                refine lv_iload hx hb dX5_lots_135 (lv_at hl 3 rfl) ?_
                refine lv_iload hx hb dX5_lots_137 (lv_at hl 0 rfl) ?_
                refine lv_iadd hx hb dX5_lots_139 ?_
                refine lv_istore (lv' := [(5, .int ((isum (lotP q nw v z0) i) + (lotP q nw v z0 i))), (8, .int (lotP q nw v z0 i)), (4, .int (fseed (fseed (sd z0 i)))), (7, .int (fdraw (fseed (sd z0 i)) nw)), (6, .int (nI i)), (0, .ref x), (1, .int n), (2, .int z0), (3, .int k)]) hx hb dX5_lots_140 hl (by decide) rfl (fun ls hl => ?_)
                refine lv_iinc (v := (nI i) + 1) (lv' := [(6, .int ((nI i) + 1)), (5, .int ((isum (lotP q nw v z0) i) + (lotP q nw v z0 i))), (8, .int (lotP q nw v z0 i)), (4, .int (fseed (fseed (sd z0 i)))), (7, .int (fdraw (fseed (sd z0 i)) nw)), (0, .ref x), (1, .int n), (2, .int z0), (3, .int k)]) hx hb dX5_lots_142 hl (k := 4) rfl (by rfl) (by decide) rfl (fun ls hl => ?_)
                refine lv_goto (tgt := 73) hx hb dX5_lots_145 (by decide) ?_
                exact ih_73 (i + 1) z_132 f_132 (by omega) h1_132 (by omega) _ rfl _ rfl _ (by first | rfl | exact nI_1 _ | exact nI_0.symm) _ _ (hP.sub [0, 1, 2, 3, 4, 5] rfl) (hD.sub [0, 1, 2, 3, 4, 5] (by decide) rfl) hS ls (lv_sub hl [3, 1, 0, 5, 6, 7, 8] rfl)
          exact loop_73 (n.toNatClampNeg + 1) 0 0 og (by omega) ⟨nI_0.symm, Nat.zero_le _, fun j hj => absurd hj (Nat.not_lt_zero j)⟩ (by omega) _ rfl _ rfl _ (by first | rfl | exact nI_1 _ | exact nI_0.symm) _ _ (hP.sub [0, 1, 2, 3, 4, 5] rfl) (hD.sub [0, 1, 2, 3, 4, 5] (by decide) rfl) hS ls (lv_sub hl [2, 1, 0, 3, 4, 5, 6] rfl)
        · skip
          refine lv_aload_n hx hb dX5_lots_50 rfl (lv_at hl 0 rfl) ?_
          refine lv_bipush (v := (-3)) hx hb dX5_lots_51 (by decide) ?_
          refine wrVi (As := [.int (-3)]) (rest := []) (wr := [(r, .inr (1, [.int q, .int nw, .ref rn])), (rn, .inl (cI, 20, .inl v)), (ot, .inr (3, [.int oz, .ref on])), (on, .inl (cI, 200, .inl og))]) (A := A) ⟨hx, hb, hml, hown, hts⟩ (c_X5_refuse l D cI cZ cR x r t im tx ch ro rf pl ot cl hi F (-3)  s.heap.size) (cwV 1 hts gX5_lots_X5_refuse rfl rfl rfl (by decide +kernel) ⟨Nat.le_of_ble_eq_true rfl, Nat.le_of_ble_eq_true rfl⟩) hK hN hP hD hS hA 0 5 rfl rfl rfl [0, 1] [2, 3, 4, 5] rfl (by decide) rfl (by decide) (by decide) rfl hl.1 rfl (Nat.le_of_ble_eq_true rfl) dX5_lots_53 ⟨Nat.zero_le _, Nat.zero_le _⟩ (fun r_53 u H locs hw hP hD hS => ?_)
          obtain ⟨F_53, rfl⟩ : ∃ z, z = u := ⟨_, rfl⟩
          try dsimp only at hw
          obtain ⟨q1_53, q2_53⟩ := hw
          have q1_53 := q1_53.symm
          subst q1_53
          have q2_53 := q2_53.symm
          subst q2_53
          have hP : va_P D vwCl [(x, .inr (5, [.ref r, .ref t, .ref im, .int hi, .ref tx, .ref ch, .ref ro, .ref rf, .ref pl, .ref ot, .ref cl])), (rf, .inl (cI, 6, .inl (rf_bump F (-3)))), (r, .inr (1, [.int q, .int nw, .ref rn])), (rn, .inl (cI, 20, .inl v)), (ot, .inr (3, [.int oz, .ref on])), (on, .inl (cI, 200, .inl og))] H := hP.sub [4, 5, 0, 1, 2, 3] rfl
          have hD : va_D A [(x, .inr (5, [.ref r, .ref t, .ref im, .int hi, .ref tx, .ref ch, .ref ro, .ref rf, .ref pl, .ref ot, .ref cl])), (rf, .inl (cI, 6, .inl (rf_bump F (-3)))), (r, .inr (1, [.int q, .int nw, .ref rn])), (rn, .inl (cI, 20, .inl v)), (ot, .inr (3, [.int oz, .ref on])), (on, .inl (cI, 200, .inl og))] := hD.sub [4, 5, 0, 1, 2, 3] (by decide) rfl
          exact wrI (w1 := (fun (u : (Nat → Int32) × Int32 × (Nat → Int32)) => [(x, .inr (5, [.ref r, .ref t, .ref im, .int hi, .ref tx, .ref ch, .ref ro, .ref rf, .ref pl, .ref ot, .ref cl])), (rf, .inl (cI, 6, .inl u.1)), (r, .inr (1, [.int q, .int nw, .ref rn])), (rn, .inl (cI, 20, .inl v)), (ot, .inr (3, [.int u.2.1, .ref on])), (on, .inl (cI, 200, .inl u.2.2))])) ((rf_bump F (-3)), oz, og) hx hb hr hlocks dX5_lots_56 hS (hP.sub [0, 1, 2, 3, 4, 5] rfl) (hD.sub [0, 1, 2, 3, 4, 5] (by decide) rfl) (by have e9 : rf_lot nw n k = -3 := (by unfold rf_lot; rw [if_neg (Int32.not_lt.mpr c_2), if_neg (Int32.not_lt.mpr c_15), if_neg (fun z => z c_30), if_pos c_47]); simp [e9])
      · skip
        have c_30 := bi_eq0.mp c_30
        refine lv_aload_n hx hb dX5_lots_33 rfl (lv_at hl 0 rfl) ?_
        refine lv_bipush (v := (-2)) hx hb dX5_lots_34 (by decide) ?_
        refine wrVi (As := [.int (-2)]) (rest := []) (wr := [(r, .inr (1, [.int q, .int nw, .ref rn])), (rn, .inl (cI, 20, .inl v)), (ot, .inr (3, [.int oz, .ref on])), (on, .inl (cI, 200, .inl og))]) (A := A) ⟨hx, hb, hml, hown, hts⟩ (c_X5_refuse l D cI cZ cR x r t im tx ch ro rf pl ot cl hi F (-2)  s.heap.size) (cwV 1 hts gX5_lots_X5_refuse rfl rfl rfl (by decide +kernel) ⟨Nat.le_of_ble_eq_true rfl, Nat.le_of_ble_eq_true rfl⟩) hK hN hP hD hS hA 0 5 rfl rfl rfl [0, 1] [2, 3, 4, 5] rfl (by decide) rfl (by decide) (by decide) rfl hl.1 rfl (Nat.le_of_ble_eq_true rfl) dX5_lots_36 ⟨Nat.zero_le _, Nat.zero_le _⟩ (fun r_36 u H locs hw hP hD hS => ?_)
        obtain ⟨F_36, rfl⟩ : ∃ z, z = u := ⟨_, rfl⟩
        try dsimp only at hw
        obtain ⟨q1_36, q2_36⟩ := hw
        have q1_36 := q1_36.symm
        subst q1_36
        have q2_36 := q2_36.symm
        subst q2_36
        have hP : va_P D vwCl [(x, .inr (5, [.ref r, .ref t, .ref im, .int hi, .ref tx, .ref ch, .ref ro, .ref rf, .ref pl, .ref ot, .ref cl])), (rf, .inl (cI, 6, .inl (rf_bump F (-2)))), (r, .inr (1, [.int q, .int nw, .ref rn])), (rn, .inl (cI, 20, .inl v)), (ot, .inr (3, [.int oz, .ref on])), (on, .inl (cI, 200, .inl og))] H := hP.sub [4, 5, 0, 1, 2, 3] rfl
        have hD : va_D A [(x, .inr (5, [.ref r, .ref t, .ref im, .int hi, .ref tx, .ref ch, .ref ro, .ref rf, .ref pl, .ref ot, .ref cl])), (rf, .inl (cI, 6, .inl (rf_bump F (-2)))), (r, .inr (1, [.int q, .int nw, .ref rn])), (rn, .inl (cI, 20, .inl v)), (ot, .inr (3, [.int oz, .ref on])), (on, .inl (cI, 200, .inl og))] := hD.sub [4, 5, 0, 1, 2, 3] (by decide) rfl
        exact wrI (w1 := (fun (u : (Nat → Int32) × Int32 × (Nat → Int32)) => [(x, .inr (5, [.ref r, .ref t, .ref im, .int hi, .ref tx, .ref ch, .ref ro, .ref rf, .ref pl, .ref ot, .ref cl])), (rf, .inl (cI, 6, .inl u.1)), (r, .inr (1, [.int q, .int nw, .ref rn])), (rn, .inl (cI, 20, .inl v)), (ot, .inr (3, [.int u.2.1, .ref on])), (on, .inl (cI, 200, .inl u.2.2))])) ((rf_bump F (-2)), oz, og) hx hb hr hlocks dX5_lots_39 hS (hP.sub [0, 1, 2, 3, 4, 5] rfl) (hD.sub [0, 1, 2, 3, 4, 5] (by decide) rfl) (by have e9 : rf_lot nw n k = -2 := (by unfold rf_lot; rw [if_neg (Int32.not_lt.mpr c_2), if_neg (Int32.not_lt.mpr c_15), if_pos c_30]); simp [e9])
    · skip
      refine lv_aload_n hx hb dX5_lots_18 rfl (lv_at hl 0 rfl) ?_
      refine lv_bipush (v := (-6)) hx hb dX5_lots_19 (by decide) ?_
      refine wrVi (As := [.int (-6)]) (rest := []) (wr := [(r, .inr (1, [.int q, .int nw, .ref rn])), (rn, .inl (cI, 20, .inl v)), (ot, .inr (3, [.int oz, .ref on])), (on, .inl (cI, 200, .inl og))]) (A := A) ⟨hx, hb, hml, hown, hts⟩ (c_X5_refuse l D cI cZ cR x r t im tx ch ro rf pl ot cl hi F (-6)  s.heap.size) (cwV 1 hts gX5_lots_X5_refuse rfl rfl rfl (by decide +kernel) ⟨Nat.le_of_ble_eq_true rfl, Nat.le_of_ble_eq_true rfl⟩) hK hN hP hD hS hA 0 5 rfl rfl rfl [0, 1] [2, 3, 4, 5] rfl (by decide) rfl (by decide) (by decide) rfl hl.1 rfl (Nat.le_of_ble_eq_true rfl) dX5_lots_21 ⟨Nat.zero_le _, Nat.zero_le _⟩ (fun r_21 u H locs hw hP hD hS => ?_)
      obtain ⟨F_21, rfl⟩ : ∃ z, z = u := ⟨_, rfl⟩
      try dsimp only at hw
      obtain ⟨q1_21, q2_21⟩ := hw
      have q1_21 := q1_21.symm
      subst q1_21
      have q2_21 := q2_21.symm
      subst q2_21
      have hP : va_P D vwCl [(x, .inr (5, [.ref r, .ref t, .ref im, .int hi, .ref tx, .ref ch, .ref ro, .ref rf, .ref pl, .ref ot, .ref cl])), (rf, .inl (cI, 6, .inl (rf_bump F (-6)))), (r, .inr (1, [.int q, .int nw, .ref rn])), (rn, .inl (cI, 20, .inl v)), (ot, .inr (3, [.int oz, .ref on])), (on, .inl (cI, 200, .inl og))] H := hP.sub [4, 5, 0, 1, 2, 3] rfl
      have hD : va_D A [(x, .inr (5, [.ref r, .ref t, .ref im, .int hi, .ref tx, .ref ch, .ref ro, .ref rf, .ref pl, .ref ot, .ref cl])), (rf, .inl (cI, 6, .inl (rf_bump F (-6)))), (r, .inr (1, [.int q, .int nw, .ref rn])), (rn, .inl (cI, 20, .inl v)), (ot, .inr (3, [.int oz, .ref on])), (on, .inl (cI, 200, .inl og))] := hD.sub [4, 5, 0, 1, 2, 3] (by decide) rfl
      exact wrI (w1 := (fun (u : (Nat → Int32) × Int32 × (Nat → Int32)) => [(x, .inr (5, [.ref r, .ref t, .ref im, .int hi, .ref tx, .ref ch, .ref ro, .ref rf, .ref pl, .ref ot, .ref cl])), (rf, .inl (cI, 6, .inl u.1)), (r, .inr (1, [.int q, .int nw, .ref rn])), (rn, .inl (cI, 20, .inl v)), (ot, .inr (3, [.int u.2.1, .ref on])), (on, .inl (cI, 200, .inl u.2.2))])) ((rf_bump F (-6)), oz, og) hx hb hr hlocks dX5_lots_24 hS (hP.sub [0, 1, 2, 3, 4, 5] rfl) (hD.sub [0, 1, 2, 3, 4, 5] (by decide) rfl) (by have e9 : rf_lot nw n k = -6 := (by unfold rf_lot; rw [if_neg (Int32.not_lt.mpr c_2), if_pos (Int32.not_le.mp c_15)]); simp [e9])
  · skip
    refine lv_aload_n hx hb dX5_lots_5 rfl (lv_at hl 0 rfl) ?_
    refine lv_bipush (v := (-4)) hx hb dX5_lots_6 (by decide) ?_
    refine wrVi (As := [.int (-4)]) (rest := []) (wr := [(r, .inr (1, [.int q, .int nw, .ref rn])), (rn, .inl (cI, 20, .inl v)), (ot, .inr (3, [.int oz, .ref on])), (on, .inl (cI, 200, .inl og))]) (A := A) ⟨hx, hb, hml, hown, hts⟩ (c_X5_refuse l D cI cZ cR x r t im tx ch ro rf pl ot cl hi F (-4)  s.heap.size) (cwV 1 hts gX5_lots_X5_refuse rfl rfl rfl (by decide +kernel) ⟨Nat.le_of_ble_eq_true rfl, Nat.le_of_ble_eq_true rfl⟩) hK hN hP hD hS hA 0 5 rfl rfl rfl [0, 1] [2, 3, 4, 5] rfl (by decide) rfl (by decide) (by decide) rfl hl.1 rfl (Nat.le_of_ble_eq_true rfl) dX5_lots_8 ⟨Nat.zero_le _, Nat.zero_le _⟩ (fun r_8 u H locs hw hP hD hS => ?_)
    obtain ⟨F_8, rfl⟩ : ∃ z, z = u := ⟨_, rfl⟩
    try dsimp only at hw
    obtain ⟨q1_8, q2_8⟩ := hw
    have q1_8 := q1_8.symm
    subst q1_8
    have q2_8 := q2_8.symm
    subst q2_8
    have hP : va_P D vwCl [(x, .inr (5, [.ref r, .ref t, .ref im, .int hi, .ref tx, .ref ch, .ref ro, .ref rf, .ref pl, .ref ot, .ref cl])), (rf, .inl (cI, 6, .inl (rf_bump F (-4)))), (r, .inr (1, [.int q, .int nw, .ref rn])), (rn, .inl (cI, 20, .inl v)), (ot, .inr (3, [.int oz, .ref on])), (on, .inl (cI, 200, .inl og))] H := hP.sub [4, 5, 0, 1, 2, 3] rfl
    have hD : va_D A [(x, .inr (5, [.ref r, .ref t, .ref im, .int hi, .ref tx, .ref ch, .ref ro, .ref rf, .ref pl, .ref ot, .ref cl])), (rf, .inl (cI, 6, .inl (rf_bump F (-4)))), (r, .inr (1, [.int q, .int nw, .ref rn])), (rn, .inl (cI, 20, .inl v)), (ot, .inr (3, [.int oz, .ref on])), (on, .inl (cI, 200, .inl og))] := hD.sub [4, 5, 0, 1, 2, 3] (by decide) rfl
    exact wrI (w1 := (fun (u : (Nat → Int32) × Int32 × (Nat → Int32)) => [(x, .inr (5, [.ref r, .ref t, .ref im, .int hi, .ref tx, .ref ch, .ref ro, .ref rf, .ref pl, .ref ot, .ref cl])), (rf, .inl (cI, 6, .inl u.1)), (r, .inr (1, [.int q, .int nw, .ref rn])), (rn, .inl (cI, 20, .inl v)), (ot, .inr (3, [.int u.2.1, .ref on])), (on, .inl (cI, 200, .inl u.2.2))])) ((rf_bump F (-4)), oz, og) hx hb hr hlocks dX5_lots_11 hS (hP.sub [0, 1, 2, 3, 4, 5] rfl) (hD.sub [0, 1, 2, 3, 4, 5] (by decide) rfl) (by have e9 : rf_lot nw n k = -4 := (by unfold rf_lot; rw [if_pos (Int32.not_le.mp c_2)]); simp [e9])
