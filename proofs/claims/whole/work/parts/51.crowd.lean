theorem in_X5_crowded_X5 : ∀ w ∈ wsX50, w ∈ wsX5_crowded := by decide +kernel
theorem in_X6_crowded_X6 : ∀ w ∈ wsX60, w ∈ wsX6_crowded := by decide +kernel
set_option maxHeartbeats 4000000 in
set_option maxRecDepth 100000 in
theorem c_X5_crowded (l : Launch) (D : va_G) (cI cZ cR : ClassId) (x r t im tx ch ro rf pl ot cl : Nat) (hi : Int32) (F : Nat → Int32) (rn : Nat) (q nw : Int32) (v : Nat → Int32) (kf : Nat → Int32) (w n mo k : Int32) (hq : okQ q) (sz : Nat) : Met l yX5_crowded wsX5_crowded ({ frames := 4, cells := 0, slots := 0, locals := 98 }) (PcW D cI cZ cR [.ref x, .int w, .int n, .int mo, .int k] [(x, .inr (5, [.ref r, .ref t, .ref im, .int hi, .ref tx, .ref ch, .ref ro, .ref rf, .ref pl, .ref ot, .ref cl])), (rf, .inl (cI, 6, .inl F)), (r, .inr (1, [.int q, .int nw, .ref rn])), (rn, .inl (cI, 20, .inl v)), (cl, .inl (cI, 9, .inl kf))] sz) (va_Qi (fun (res : Int32) (u : (Nat → Int32) × (Nat → Int32)) => res = (if rf_cro nw w n mo k = 0 then croA (cr (plK q v w) mo n.toNatClampNeg) mo k else rf_cro nw w n mo k) ∧ u.1 = (if rf_cro nw w n mo k = 0 then F else rf_bump F (rf_cro nw w n mo k))) (Bw D (fun (u : (Nat → Int32) × (Nat → Int32)) => [(x, .inr (5, [.ref r, .ref t, .ref im, .int hi, .ref tx, .ref ch, .ref ro, .ref rf, .ref pl, .ref ot, .ref cl])), (rf, .inl (cI, 6, .inl u.1)), (r, .inr (1, [.int q, .int nw, .ref rn])), (rn, .inl (cI, 20, .inl v)), (cl, .inl (cI, 9, .inl u.2))]) (va_A [(x, .inr (5, [.ref r, .ref t, .ref im, .int hi, .ref tx, .ref ch, .ref ro, .ref rf, .ref pl, .ref ot, .ref cl])), (rf, .inl (cI, 6, .inl F)), (r, .inr (1, [.int q, .int nw, .ref rn])), (rn, .inl (cI, 20, .inl v)), (cl, .inl (cI, 9, .inl kf))] sz)) (va_A [(x, .inr (5, [.ref r, .ref t, .ref im, .int hi, .ref tx, .ref ch, .ref ro, .ref rf, .ref pl, .ref ot, .ref cl])), (rf, .inl (cI, 6, .inl F)), (r, .inr (1, [.int q, .int nw, .ref rn])), (rn, .inl (cI, 20, .inl v)), (cl, .inl (cI, 9, .inl kf))] sz)) 0 0 (va_A [(x, .inr (5, [.ref r, .ref t, .ref im, .int hi, .ref tx, .ref ch, .ref ro, .ref rf, .ref pl, .ref ot, .ref cl])), (rf, .inl (cI, 6, .inl F)), (r, .inr (1, [.int q, .int nw, .ref rn])), (rn, .inl (cI, 20, .inl v)), (cl, .inl (cI, 9, .inl kf))] sz) := by
  refine Met.ofW (cc := cX5_crowded) (maxL := 8) (ret := (some .int)) (by decide) rfl ?_
  intro p e s m args below meth c s₁ B hml hv
  obtain ⟨rfl, hsz, hP, hK, hD0, hN⟩ := hv
  have hx := B.exec
  have hb := B.bytes
  have hr := B.returns
  have hts := atoms_spec (ws := wsX5_crowded) B.pre
  have hown : s.vm.findClass RX5 = some m.cls := findClass_of_methodNamed B.named
  have hlocks := B.notSynchronized
  subst hsz
  have hD := hD0.self (sz := s.heap.size)
  generalize hAe : va_A [(x, .inr (5, [.ref r, .ref t, .ref im, .int hi, .ref tx, .ref ch, .ref ro, .ref rf, .ref pl, .ref ot, .ref cl])), (rf, .inl (cI, 6, .inl F)), (r, .inr (1, [.int q, .int nw, .ref rn])), (rn, .inl (cI, 20, .inl v)), (cl, .inl (cI, 9, .inl kf))] s.heap.size = A at hD ⊢
  have hA : ∀ q : Nat, s.heap.size ≤ q → A q := fun q h => by rw [← hAe]; exact Or.inr h
  have hS : va_S A s.heap s.heap [] := va_S.rf
  have hP : va_P D vwCl [(x, .inr (5, [.ref r, .ref t, .ref im, .int hi, .ref tx, .ref ch, .ref ro, .ref rf, .ref pl, .ref ot, .ref cl])), (rf, .inl (cI, 6, .inl F)), (r, .inr (1, [.int q, .int nw, .ref rn])), (rn, .inl (cI, 20, .inl v)), (cl, .inl (cI, 9, .inl kf))] s.heap := hP
  have hl := lv_entry ([.ref x, .int w, .int n, .int mo, .int k]) (n := 8) (Nat.le_of_ble_eq_true rfl)
  rw [lg_entry_eq]
  generalize (lg_sl ([.ref x, .int w, .int n, .int mo, .int k]) ++ List.replicate (8 - (lg_sl ([.ref x, .int w, .int n, .int mo, .int k])).length) Slot.unset).toArray = ls at hl ⊢
  have hl : lv_has ls 8 [(0, .ref x), (1, .int w), (2, .int n), (3, .int mo), (4, .int k)] := hl
  refine lv_aload_n hx hb dX5_crowded_0 rfl (lv_at hl 0 rfl) ?_
  refine lv_iload_n hx hb dX5_crowded_1 rfl (lv_at hl 1 rfl) ?_
  refine lv_iload_n hx hb dX5_crowded_2 rfl (lv_at hl 2 rfl) ?_
  refine lv_iload_n hx hb dX5_crowded_3 rfl (lv_at hl 3 rfl) ?_
  refine lv_iload hx hb dX5_crowded_4 (lv_at hl 4 rfl) ?_
  refine rdV (As := [.int w, .int n, .int mo, .int k]) (rest := []) ⟨hx, hb, hml, hown, hts⟩ (c_X5_refusalOfCrowded l D cI cZ cR x r t im tx ch ro rf pl ot cl hi rn q nw v w n mo k ) (cwV 4 hts gX5_crowded_X5_refusalOfCrowded rfl rfl rfl (by decide +kernel) ⟨Nat.le_of_ble_eq_true rfl, Nat.le_of_ble_eq_true rfl⟩) hK hN hP 0 5 rfl rfl rfl [0, 2, 3] rfl rfl hl.1 rfl (Nat.le_of_ble_eq_true rfl) dX5_crowded_6 ⟨Nat.zero_le _, Nat.zero_le _⟩ ?_
  refine lv_istore (lv' := [(5, .int (rf_cro nw w n mo k)), (0, .ref x), (1, .int w), (2, .int n), (3, .int mo), (4, .int k)]) hx hb dX5_crowded_9 hl (by decide) rfl (fun ls hl => ?_)
  refine lv_iload hx hb dX5_crowded_11 (lv_at hl 0 rfl) ?_
  refine lv_if_eq (tgt := 23) hx hb dX5_crowded_13 (by decide) (fun c_13 => ?_) (fun c_13 => ?_)
  · skip
    have hok := rf_cro_ok c_13
    have hn := n200 hok.2.1
    have hmo := mo9 hok.2.2.1
    obtain ⟨b9, hb1, hb2, hb3, hb4⟩ := hmo
    refine lv_aload_n hx hb dX5_crowded_23 rfl (lv_at hl 1 rfl) ?_
    refine va_get (D := D) (ci := 5) (v := .ref cl) (C := RX5) (T := TX5) (N := 11) hx hb hts (in_X5_crowded_X5) hown hK hP 0 rfl rfl 10 (by decide) (hts (.fieldLink RX5 60 "StepsRoundCircle" "classes" "[I") (by decide +kernel)) (fun _ h9 => h9) rfl dX5_crowded_24 ?_
    refine lv_iconst (v := 0) hx hb dX5_crowded_27 (by decide) ?_
    refine wrSv (As := [.ref cl, .int 0]) (rest := []) (wr := [(x, .inr (5, [.ref r, .ref t, .ref im, .int hi, .ref tx, .ref ch, .ref ro, .ref rf, .ref pl, .ref ot, .ref cl])), (rf, .inl (cI, 6, .inl F)), (r, .inr (1, [.int q, .int nw, .ref rn])), (rn, .inl (cI, 20, .inl v))]) (A := A) ⟨hx, hb, hml, hown, hts⟩ (c_J7_fill_53178 l D cI cZ cR cl 9 kf 0 (by decide) s.heap.size) (va_cwS 2 hts gX5_crowded_J7_fill_53178 rfl rfl rfl (by decide +kernel) ⟨Nat.le_of_ble_eq_true rfl, Nat.le_of_ble_eq_true rfl⟩) hK hN hP hD hS hA [4] [0, 1, 2, 3] rfl (by decide) rfl (by decide) (by decide) rfl hl.1 rfl (Nat.le_of_ble_eq_true rfl) dX5_crowded_28 ⟨Nat.zero_le _, Nat.zero_le _⟩ (fun u H locs hw hP hD hS => ?_)
    obtain ⟨f_28, rfl⟩ : ∃ z, z = u := ⟨_, rfl⟩
    try dsimp only at hw
    have q1_28 := hw
    have q1_28 := q1_28.symm
    subst q1_28
    have hP : va_P D vwCl [(x, .inr (5, [.ref r, .ref t, .ref im, .int hi, .ref tx, .ref ch, .ref ro, .ref rf, .ref pl, .ref ot, .ref cl])), (rf, .inl (cI, 6, .inl F)), (r, .inr (1, [.int q, .int nw, .ref rn])), (rn, .inl (cI, 20, .inl v)), (cl, .inl (cI, 9, .inl (fun _ => 0)))] H := hP.sub [0, 1, 2, 3, 4] rfl
    have hD : va_D A [(x, .inr (5, [.ref r, .ref t, .ref im, .int hi, .ref tx, .ref ch, .ref ro, .ref rf, .ref pl, .ref ot, .ref cl])), (rf, .inl (cI, 6, .inl F)), (r, .inr (1, [.int q, .int nw, .ref rn])), (rn, .inl (cI, 20, .inl v)), (cl, .inl (cI, 9, .inl (fun _ => 0)))] := hD.sub [0, 1, 2, 3, 4] (by decide) rfl
    refine lv_iconst (v := 0) hx hb dX5_crowded_31 (by decide) ?_
    refine lv_istore (lv' := [(6, .int 0), (5, .int (rf_cro nw w n mo k)), (0, .ref x), (1, .int w), (2, .int n), (3, .int mo), (4, .int k)]) hx hb dX5_crowded_32 hl (by decide) rfl (fun ls hl => ?_)
    have loop_34 : ∀ (fuel : Nat), ∀ (i : Nat), ∀ (g : Nat → Int32), (i ≤ n.toNatClampNeg) → (∀ j, j < 9 → g j = cr (plK q v w) mo i j) → (n.toNatClampNeg + 1 ≤ i + fuel) → ∀ (y6 : Int32), y6 = nI i → ∀ (H : Heap) (locs : List Loc), va_P D vwCl [(x, .inr (5, [.ref r, .ref t, .ref im, .int hi, .ref tx, .ref ch, .ref ro, .ref rf, .ref pl, .ref ot, .ref cl])), (rf, .inl (cI, 6, .inl F)), (r, .inr (1, [.int q, .int nw, .ref rn])), (rn, .inl (cI, 20, .inl v)), (cl, .inl (cI, 9, .inl g))] H → va_D A [(x, .inr (5, [.ref r, .ref t, .ref im, .int hi, .ref tx, .ref ch, .ref ro, .ref rf, .ref pl, .ref ot, .ref cl])), (rf, .inl (cI, 6, .inl F)), (r, .inr (1, [.int q, .int nw, .ref rn])), (rn, .inl (cI, 20, .inl v)), (cl, .inl (cI, 9, .inl g))] → va_S A s.heap H locs → ∀ (ls : Array Slot), lv_has ls 8 [(6, .int y6), (0, .ref x), (1, .int w), (2, .int n), (3, .int mo), (4, .int k), (5, .int (rf_cro nw w n mo k))] → W p l e (headSpec wsX5_crowded ({ frames := 4, cells := 0, slots := 0, locals := 98 })).room s m ([.ref x, .int w, .int n, .int mo, .int k] : List Value).toArray below meth c H locs 0 0 (MQ below (va_Qi (fun (res : Int32) (u : (Nat → Int32) × (Nat → Int32)) => res = (if rf_cro nw w n mo k = 0 then croA (cr (plK q v w) mo n.toNatClampNeg) mo k else rf_cro nw w n mo k) ∧ u.1 = (if rf_cro nw w n mo k = 0 then F else rf_bump F (rf_cro nw w n mo k))) (Bw D (fun (u : (Nat → Int32) × (Nat → Int32)) => [(x, .inr (5, [.ref r, .ref t, .ref im, .int hi, .ref tx, .ref ch, .ref ro, .ref rf, .ref pl, .ref ot, .ref cl])), (rf, .inl (cI, 6, .inl u.1)), (r, .inr (1, [.int q, .int nw, .ref rn])), (rn, .inl (cI, 20, .inl v)), (cl, .inl (cI, 9, .inl u.2))]) A) A) ([.ref x, .int w, .int n, .int mo, .int k] : List Value).toArray s 0 0 A) (F0 m 34 ls []) := by
      intro fuel
      induction fuel with
      | zero =>
        intro i g hi9 hg hfu
        exact False.elim (by omega)
      | succ fuel ih_34 =>
        intro i g hi9 hg hfu y6 ey6 H locs hP hD hS ls hl
        subst ey6
        refine lv_iload hx hb dX5_crowded_34 (lv_at hl 0 rfl) ?_
        refine lv_iload_n hx hb dX5_crowded_36 rfl (lv_at hl 3 rfl) ?_
        refine lv_icmp_ge (tgt := 89) hx hb dX5_crowded_37 (by decide) (fun c_37 => ?_) (fun c_37 => ?_)
        · skip
          have hend : i = n.toNatClampNeg := by have := (le_clamp (by omega)).mp c_37; omega
          have hP : va_P D vwCl [(x, .inr (5, [.ref r, .ref t, .ref im, .int hi, .ref tx, .ref ch, .ref ro, .ref rf, .ref pl, .ref ot, .ref cl])), (rf, .inl (cI, 6, .inl F)), (r, .inr (1, [.int q, .int nw, .ref rn])), (rn, .inl (cI, 20, .inl v)), (cl, .inl (cI, 9, .inl (cr (plK q v w) mo n.toNatClampNeg)))] H := P_cg hP 4 (cr (plK q v w) mo n.toNatClampNeg) rfl (fun j hj => by rw [← hend]; exact hg j hj)
          have hD : va_D A [(x, .inr (5, [.ref r, .ref t, .ref im, .int hi, .ref tx, .ref ch, .ref ro, .ref rf, .ref pl, .ref ot, .ref cl])), (rf, .inl (cI, 6, .inl F)), (r, .inr (1, [.int q, .int nw, .ref rn])), (rn, .inl (cI, 20, .inl v)), (cl, .inl (cI, 9, .inl (cr (plK q v w) mo n.toNatClampNeg)))] := D_cg hD 4 _ rfl
          refine lv_iconst (v := 0) hx hb dX5_crowded_89 (by decide) ?_
          refine lv_istore (lv' := [(6, .int 0), (0, .ref x), (1, .int w), (2, .int n), (3, .int mo), (4, .int k), (5, .int (rf_cro nw w n mo k))]) hx hb dX5_crowded_90 hl (by decide) rfl (fun ls hl => ?_)
          refine lv_iconst (v := 1) hx hb dX5_crowded_92 (by decide) ?_
          refine lv_istore (lv' := [(7, .int 1), (6, .int 0), (0, .ref x), (1, .int w), (2, .int n), (3, .int mo), (4, .int k), (5, .int (rf_cro nw w n mo k))]) hx hb dX5_crowded_93 hl (by decide) rfl (fun ls hl => ?_)
          have loop_95 : ∀ (fuel : Nat), ∀ (i2 : Nat), (1 ≤ i2) → (i2 ≤ mo.toNatClampNeg) → (mo.toNatClampNeg + 1 ≤ i2 + fuel) → ∀ (y6 : Int32), y6 = nI (bs (cr (plK q v w) mo n.toNatClampNeg) i2) → ∀ (y7 : Int32), y7 = nI i2 → ∀ (ls : Array Slot), lv_has ls 8 [(6, .int y6), (7, .int y7), (0, .ref x), (1, .int w), (2, .int n), (3, .int mo), (4, .int k), (5, .int (rf_cro nw w n mo k))] → W p l e (headSpec wsX5_crowded ({ frames := 4, cells := 0, slots := 0, locals := 98 })).room s m ([.ref x, .int w, .int n, .int mo, .int k] : List Value).toArray below meth c H locs 0 0 (MQ below (va_Qi (fun (res : Int32) (u : (Nat → Int32) × (Nat → Int32)) => res = (if rf_cro nw w n mo k = 0 then croA (cr (plK q v w) mo n.toNatClampNeg) mo k else rf_cro nw w n mo k) ∧ u.1 = (if rf_cro nw w n mo k = 0 then F else rf_bump F (rf_cro nw w n mo k))) (Bw D (fun (u : (Nat → Int32) × (Nat → Int32)) => [(x, .inr (5, [.ref r, .ref t, .ref im, .int hi, .ref tx, .ref ch, .ref ro, .ref rf, .ref pl, .ref ot, .ref cl])), (rf, .inl (cI, 6, .inl u.1)), (r, .inr (1, [.int q, .int nw, .ref rn])), (rn, .inl (cI, 20, .inl v)), (cl, .inl (cI, 9, .inl u.2))]) A) A) ([.ref x, .int w, .int n, .int mo, .int k] : List Value).toArray s 0 0 A) (F0 m 95 ls []) := by
            intro fuel
            induction fuel with
            | zero =>
              intro i2 hj1 hj9 hfu2
              exact False.elim (by omega)
            | succ fuel ih_95 =>
              intro i2 hj1 hj9 hfu2 y6 ey6 y7 ey7 ls hl
              subst ey6
              subst ey7
              refine lv_iload hx hb dX5_crowded_95 (lv_at hl 1 rfl) ?_
              refine lv_iload_n hx hb dX5_crowded_97 rfl (lv_at hl 5 rfl) ?_
              refine lv_icmp_ge (tgt := 138) hx hb dX5_crowded_98 (by decide) (fun c_98 => ?_) (fun c_98 => ?_)
              · skip
                have hend2 : i2 = mo.toNatClampNeg := by have := (le_clamp (by omega)).mp c_98; omega
                have hbs := bs_lt (cr (plK q v w) mo n.toNatClampNeg) i2 hj1
                refine lv_iload hx hb dX5_crowded_138 (lv_at hl 6 rfl) ?_
                refine lv_if_ne (tgt := 148) hx hb dX5_crowded_140 (by decide) (fun c_140 => ?_) (fun c_140 => ?_)
                · skip
                  refine lv_aload_n hx hb dX5_crowded_148 rfl (lv_at hl 2 rfl) ?_
                  refine va_get (D := D) (ci := 5) (v := .ref cl) (C := RX5) (T := TX5) (N := 11) hx hb hts (in_X5_crowded_X5) hown hK hP 0 rfl rfl 10 (by decide) (hts (.fieldLink RX5 60 "StepsRoundCircle" "classes" "[I") (by decide +kernel)) (fun _ h9 => h9) rfl dX5_crowded_149 ?_
                  refine lv_iload hx hb dX5_crowded_152 (lv_at hl 0 rfl) ?_
                  refine va_iald hx hb hK hP 4 0 rfl rfl (vp_in_nI (by omega) (by omega)) dX5_crowded_154 ?_
                  exact wrI (w1 := (fun (u : (Nat → Int32) × (Nat → Int32)) => [(x, .inr (5, [.ref r, .ref t, .ref im, .int hi, .ref tx, .ref ch, .ref ro, .ref rf, .ref pl, .ref ot, .ref cl])), (rf, .inl (cI, 6, .inl u.1)), (r, .inr (1, [.int q, .int nw, .ref rn])), (rn, .inl (cI, 20, .inl v)), (cl, .inl (cI, 9, .inl u.2))])) (F, (cr (plK q v w) mo n.toNatClampNeg)) hx hb hr hlocks dX5_crowded_155 hS (hP.sub [0, 1, 2, 3, 4] rfl) (hD.sub [0, 1, 2, 3, 4] (by decide) rfl) (⟨by rw [if_pos c_13]; unfold croA; rw [if_neg c_140, ← hend2, nI_clamp (by omega)], by rw [if_pos c_13]⟩)
                · skip
                  refine lv_iload hx hb dX5_crowded_143 (lv_at hl 0 rfl) ?_
                  refine lv_goto (tgt := 155) hx hb dX5_crowded_145 (by decide) ?_
                  exact wrI (w1 := (fun (u : (Nat → Int32) × (Nat → Int32)) => [(x, .inr (5, [.ref r, .ref t, .ref im, .int hi, .ref tx, .ref ch, .ref ro, .ref rf, .ref pl, .ref ot, .ref cl])), (rf, .inl (cI, 6, .inl u.1)), (r, .inr (1, [.int q, .int nw, .ref rn])), (rn, .inl (cI, 20, .inl v)), (cl, .inl (cI, 9, .inl u.2))])) (F, (cr (plK q v w) mo n.toNatClampNeg)) hx hb hr hlocks dX5_crowded_155 hS (hP.sub [0, 1, 2, 3, 4] rfl) (hD.sub [0, 1, 2, 3, 4] (by decide) rfl) (⟨by rw [if_pos c_13]; unfold croA; rw [if_pos c_140, ← hend2], by rw [if_pos c_13]⟩)
              · skip
                have hjN : i2 < mo.toNatClampNeg := (lt_clamp (by omega)).mp (Int32.not_le.mp c_98)
                have hbs := bs_lt (cr (plK q v w) mo n.toNatClampNeg) i2 hj1
                refine lv_iload hx hb dX5_crowded_101 (lv_at hl 1 rfl) ?_
                refine lv_aload_n hx hb dX5_crowded_103 rfl (lv_at hl 2 rfl) ?_
                refine va_get (D := D) (ci := 5) (v := .ref cl) (C := RX5) (T := TX5) (N := 11) hx hb hts (in_X5_crowded_X5) hown hK hP 0 rfl rfl 10 (by decide) (hts (.fieldLink RX5 60 "StepsRoundCircle" "classes" "[I") (by decide +kernel)) (fun _ h9 => h9) rfl dX5_crowded_104 ?_
                refine va_alen (v := 9) hx hb hK hP 4 0 rfl rfl rfl dX5_crowded_107 ?_
                refine lv_icmp_ge (tgt := 138) hx hb dX5_crowded_108 (by decide) (fun c_108 => ?_) (fun c_108 => ?_)
                · skip
                  exact False.elim (absurd c_108 (nI_ge (b := 9) (by omega) (by omega)))
                · skip
                  refine lv_aload_n hx hb dX5_crowded_111 rfl (lv_at hl 2 rfl) ?_
                  refine va_get (D := D) (ci := 5) (v := .ref cl) (C := RX5) (T := TX5) (N := 11) hx hb hts (in_X5_crowded_X5) hown hK hP 0 rfl rfl 10 (by decide) (hts (.fieldLink RX5 60 "StepsRoundCircle" "classes" "[I") (by decide +kernel)) (fun _ h9 => h9) rfl dX5_crowded_112 ?_
                  refine lv_iload hx hb dX5_crowded_115 (lv_at hl 1 rfl) ?_
                  refine va_iald hx hb hK hP 4 0 rfl rfl (vp_in_nI (by omega) (by omega)) dX5_crowded_117 ?_
                  refine lv_topi (fun z_118 hz_118 => ?_)
                  have hz_118 : z_118 = (cr (plK q v w) mo n.toNatClampNeg) i2 := hz_118.trans (by rw [nI_clamp (by omega)])
                  subst hz_118
                  refine lv_aload_n hx hb dX5_crowded_118 rfl (lv_at hl 2 rfl) ?_
                  refine va_get (D := D) (ci := 5) (v := .ref cl) (C := RX5) (T := TX5) (N := 11) hx hb hts (in_X5_crowded_X5) hown hK hP 0 rfl rfl 10 (by decide) (hts (.fieldLink RX5 60 "StepsRoundCircle" "classes" "[I") (by decide +kernel)) (fun _ h9 => h9) rfl dX5_crowded_119 ?_
                  refine lv_iload hx hb dX5_crowded_122 (lv_at hl 0 rfl) ?_
                  refine va_iald hx hb hK hP 4 0 rfl rfl (vp_in_nI (by omega) (by omega)) dX5_crowded_124 ?_
                  refine lv_topi (fun z_125 hz_125 => ?_)
                  have hz_125 : z_125 = (cr (plK q v w) mo n.toNatClampNeg) (bs (cr (plK q v w) mo n.toNatClampNeg) i2) := hz_125.trans (by rw [nI_clamp (by omega)])
                  subst hz_125
                  refine lv_icmp_le (tgt := 132) hx hb dX5_crowded_125 (by decide) (fun c_125 => ?_) (fun c_125 => ?_)
                  · skip
                    refine lv_iinc (v := (nI i2) + 1) (lv' := [(7, .int ((nI i2) + 1)), (6, .int (nI (bs (cr (plK q v w) mo n.toNatClampNeg) i2))), (0, .ref x), (1, .int w), (2, .int n), (3, .int mo), (4, .int k), (5, .int (rf_cro nw w n mo k))]) hx hb dX5_crowded_132 hl (k := 1) rfl (by rfl) (by decide) rfl (fun ls hl => ?_)
                    refine lv_goto (tgt := 95) hx hb dX5_crowded_135 (by decide) ?_
                    exact ih_95 (i2 + 1) (by omega) (by omega) (by omega) _ (by rw [bs, if_neg (Int32.not_lt.mpr c_125)]) _ (by first | rfl | exact nI_1 _ | exact nI_0.symm) ls (lv_sub hl [1, 0, 2, 3, 4, 5, 6, 7] rfl)
                  · skip
                    refine lv_iload hx hb dX5_crowded_128 (lv_at hl 1 rfl) ?_
                    refine lv_istore (lv' := [(6, .int (nI i2)), (7, .int (nI i2)), (0, .ref x), (1, .int w), (2, .int n), (3, .int mo), (4, .int k), (5, .int (rf_cro nw w n mo k))]) hx hb dX5_crowded_130 hl (by decide) rfl (fun ls hl => ?_)
                    refine lv_iinc (v := (nI i2) + 1) (lv' := [(7, .int ((nI i2) + 1)), (6, .int (nI i2)), (0, .ref x), (1, .int w), (2, .int n), (3, .int mo), (4, .int k), (5, .int (rf_cro nw w n mo k))]) hx hb dX5_crowded_132 hl (k := 1) rfl (by rfl) (by decide) rfl (fun ls hl => ?_)
                    refine lv_goto (tgt := 95) hx hb dX5_crowded_135 (by decide) ?_
                    exact ih_95 (i2 + 1) (by omega) (by omega) (by omega) _ (by rw [bs, if_pos (Int32.not_le.mp c_125)]) _ (by first | rfl | exact nI_1 _ | exact nI_0.symm) ls (lv_sub hl [1, 0, 2, 3, 4, 5, 6, 7] rfl)
          exact loop_95 (mo.toNatClampNeg + 1) 1 (by omega) (by omega) (by omega) _ (by rw [bs_1]; exact nI_0.symm) _ (by first | rfl | exact nI_1 _ | exact nI_0.symm) ls (lv_sub hl [1, 0, 2, 3, 4, 5, 6, 7] rfl)
        · skip
          have hiN : i < n.toNatClampNeg := (lt_clamp (by omega)).mp (Int32.not_le.mp c_37)
          have hix := cr_ix (plK_bd hq v w i).1 hok.2.2.1
          refine lv_aload_n hx hb dX5_crowded_40 rfl (lv_at hl 1 rfl) ?_
          refine va_get (D := D) (ci := 5) (v := .ref r) (C := RX5) (T := TX5) (N := 11) hx hb hts (in_X5_crowded_X5) hown hK hP 0 rfl rfl 0 (by decide) (hts (.fieldLink RX5 10 "StepsRoundCircle" "ring" "LStepsRoundCircle$Ring;") (by decide +kernel)) (fun _ h9 => h9) rfl dX5_crowded_41 ?_
          refine lv_iload_n hx hb dX5_crowded_44 rfl (lv_at hl 2 rfl) ?_
          refine lv_iload hx hb dX5_crowded_45 (lv_at hl 0 rfl) ?_
          refine rdV (As := [.int w, .int (nI i)]) (rest := []) ⟨hx, hb, hml, hown, hts⟩ (c_X1_placeOf l D cI cZ cR r rn q nw v w (nI i) ) (cwV 2 hts gX5_crowded_X1_placeOf rfl rfl rfl (by decide +kernel) ⟨Nat.le_of_ble_eq_true rfl, Nat.le_of_ble_eq_true rfl⟩) hK hN hP 2 1 rfl rfl rfl [2, 3] rfl rfl hl.1 rfl (Nat.le_of_ble_eq_true rfl) dX5_crowded_47 ⟨Nat.zero_le _, Nat.zero_le _⟩ ?_
          refine lv_i2l hx hb dX5_crowded_50 rfl ?_
          refine lv_iload_n hx hb dX5_crowded_51 rfl (lv_at hl 4 rfl) ?_
          refine lv_i2l hx hb dX5_crowded_52 rfl ?_
          refine rdS (As := [.long ((rg_pb q v (rg_val v w 0) w (nI i).toInt64).toInt64), .long mo.toInt64]) (rest := []) ⟨hx, hb, hml, hown, hts⟩ (c_X5_rest l D cI cZ cR ((rg_pb q v (rg_val v w 0) w (nI i).toInt64).toInt64) mo.toInt64 ) (va_cwS 2 hts gX5_crowded_X5_rest rfl rfl rfl (by decide +kernel) ⟨Nat.le_of_ble_eq_true rfl, Nat.le_of_ble_eq_true rfl⟩) hK hN hP [] rfl rfl hl.1 rfl (Nat.le_of_ble_eq_true rfl) dX5_crowded_53 ⟨Nat.zero_le _, Nat.zero_le _⟩ ?_
          refine lv_l2i hx hb dX5_crowded_56 rfl ?_
          refine lv_topi (fun z_57 hz_57 => ?_)
          have hz_57 : z_57 = nI (crI (plK q v w i) mo) := hz_57.trans hix.1
          subst hz_57
          refine lv_istore (lv' := [(7, .int (nI (crI (plK q v w i) mo))), (6, .int (nI i)), (0, .ref x), (1, .int w), (2, .int n), (3, .int mo), (4, .int k), (5, .int (rf_cro nw w n mo k))]) hx hb dX5_crowded_57 hl (by decide) rfl (fun ls hl => ?_)
          refine lv_iload hx hb dX5_crowded_59 (lv_at hl 0 rfl) ?_
          refine lv_aload_n hx hb dX5_crowded_61 rfl (lv_at hl 2 rfl) ?_
          refine va_get (D := D) (ci := 5) (v := .ref cl) (C := RX5) (T := TX5) (N := 11) hx hb hts (in_X5_crowded_X5) hown hK hP 0 rfl rfl 10 (by decide) (hts (.fieldLink RX5 60 "StepsRoundCircle" "classes" "[I") (by decide +kernel)) (fun _ h9 => h9) rfl dX5_crowded_62 ?_
          refine va_alen (v := 9) hx hb hK hP 4 0 rfl rfl rfl dX5_crowded_65 ?_
          refine rdS (As := [.int (nI (crI (plK q v w i) mo)), .int 9]) (rest := []) ⟨hx, hb, hml, hown, hts⟩ (c_X5_isBelow l D cI cZ cR (nI (crI (plK q v w i) mo)) 9 ) (va_cwS 2 hts gX5_crowded_X5_isBelow rfl rfl rfl (by decide +kernel) ⟨Nat.le_of_ble_eq_true rfl, Nat.le_of_ble_eq_true rfl⟩) hK hN hP [] rfl rfl hl.1 rfl (Nat.le_of_ble_eq_true rfl) dX5_crowded_66 ⟨Nat.zero_le _, Nat.zero_le _⟩ ?_
          refine lv_if_eq (tgt := 83) hx hb dX5_crowded_69 (by decide) (fun c_69 => ?_) (fun c_69 => ?_)
          · skip
            have c_69 := bi_eq0.mp c_69
            exact False.elim (c_69 ⟨nI_pos' (by omega), nI_lt (b := 9) (by omega) (by omega)⟩)
          · skip
            have c_69 := bi_ne0.mp c_69
            refine lv_aload_n hx hb dX5_crowded_72 rfl (lv_at hl 2 rfl) ?_
            refine va_get (D := D) (ci := 5) (v := .ref cl) (C := RX5) (T := TX5) (N := 11) hx hb hts (in_X5_crowded_X5) hown hK hP 0 rfl rfl 10 (by decide) (hts (.fieldLink RX5 60 "StepsRoundCircle" "classes" "[I") (by decide +kernel)) (fun _ h9 => h9) rfl dX5_crowded_73 ?_
            refine lv_iload hx hb dX5_crowded_76 (lv_at hl 0 rfl) ?_
            refine lv_dup2_11 hx hb dX5_crowded_78 rfl rfl ?_
            refine va_iald hx hb hK hP 4 0 rfl rfl (vp_in_nI (by omega) (by omega)) dX5_crowded_79 ?_
            refine lv_iconst (v := 1) hx hb dX5_crowded_80 (by decide) ?_
            refine lv_iadd hx hb dX5_crowded_81 ?_
            refine va_iast hx hb hK hP hD hS 4 0 rfl rfl (vp_in_nI (by omega) (by omega)) dX5_crowded_82 (fun H locs hP hD hS => ?_)
            have hP : va_P D vwCl [(x, .inr (5, [.ref r, .ref t, .ref im, .int hi, .ref tx, .ref ch, .ref ro, .ref rf, .ref pl, .ref ot, .ref cl])), (rf, .inl (cI, 6, .inl F)), (r, .inr (1, [.int q, .int nw, .ref rn])), (rn, .inl (cI, 20, .inl v)), (cl, .inl (cI, 9, .inl (upd g ((nI (crI (plK q v w i) mo)).toNatClampNeg) ((g ((nI (crI (plK q v w i) mo)).toNatClampNeg)) + 1))))] H := hP
            have hD : va_D A [(x, .inr (5, [.ref r, .ref t, .ref im, .int hi, .ref tx, .ref ch, .ref ro, .ref rf, .ref pl, .ref ot, .ref cl])), (rf, .inl (cI, 6, .inl F)), (r, .inr (1, [.int q, .int nw, .ref rn])), (rn, .inl (cI, 20, .inl v)), (cl, .inl (cI, 9, .inl (upd g ((nI (crI (plK q v w i) mo)).toNatClampNeg) ((g ((nI (crI (plK q v w i) mo)).toNatClampNeg)) + 1))))] := hD
            refine lv_iinc (v := (nI i) + 1) (lv' := [(6, .int ((nI i) + 1)), (7, .int (nI (crI (plK q v w i) mo))), (0, .ref x), (1, .int w), (2, .int n), (3, .int mo), (4, .int k), (5, .int (rf_cro nw w n mo k))]) hx hb dX5_crowded_83 hl (k := 1) rfl (by rfl) (by decide) rfl (fun ls hl => ?_)
            refine lv_goto (tgt := 34) hx hb dX5_crowded_86 (by decide) ?_
            exact ih_34 (i + 1) (upd g ((nI (crI (plK q v w i) mo)).toNatClampNeg) ((g ((nI (crI (plK q v w i) mo)).toNatClampNeg)) + 1)) (by omega) (fun j hj => by rw [nI_clamp (by omega), cr]; by_cases e9 : j = crI (plK q v w i) mo; (· rw [e9, pk_us, pk_us, hg _ (by omega)]); (· rw [pk_un e9, pk_un e9]; exact hg j hj)) (by omega) _ (by first | rfl | exact nI_1 _ | exact nI_0.symm) _ _ (hP.sub [0, 1, 2, 3, 4] rfl) (hD.sub [0, 1, 2, 3, 4] (by decide) rfl) hS ls (lv_sub hl [0, 2, 3, 4, 5, 6, 7] rfl)
    exact loop_34 (n.toNatClampNeg + 1) 0 (fun _ => 0) (by omega) (fun j hj => rfl) (by omega) _ (by first | rfl | exact nI_1 _ | exact nI_0.symm) _ _ (hP.sub [0, 1, 2, 3, 4] rfl) (hD.sub [0, 1, 2, 3, 4] (by decide) rfl) hS ls (lv_sub hl [0, 2, 3, 4, 5, 6, 1] rfl)
  · skip
    refine lv_aload_n hx hb dX5_crowded_16 rfl (lv_at hl 1 rfl) ?_
    refine lv_iload hx hb dX5_crowded_17 (lv_at hl 0 rfl) ?_
    refine wrVi (As := [.int (rf_cro nw w n mo k)]) (rest := []) (wr := [(r, .inr (1, [.int q, .int nw, .ref rn])), (rn, .inl (cI, 20, .inl v)), (cl, .inl (cI, 9, .inl kf))]) (A := A) ⟨hx, hb, hml, hown, hts⟩ (c_X5_refuse l D cI cZ cR x r t im tx ch ro rf pl ot cl hi F (rf_cro nw w n mo k)  s.heap.size) (cwV 1 hts gX5_crowded_X5_refuse rfl rfl rfl (by decide +kernel) ⟨Nat.le_of_ble_eq_true rfl, Nat.le_of_ble_eq_true rfl⟩) hK hN hP hD hS hA 0 5 rfl rfl rfl [0, 1] [2, 3, 4] rfl (by decide) rfl (by decide) (by decide) rfl hl.1 rfl (Nat.le_of_ble_eq_true rfl) dX5_crowded_19 ⟨Nat.zero_le _, Nat.zero_le _⟩ (fun r_19 u H locs hw hP hD hS => ?_)
    obtain ⟨F_19, rfl⟩ : ∃ z, z = u := ⟨_, rfl⟩
    try dsimp only at hw
    obtain ⟨q1_19, q2_19⟩ := hw
    have q1_19 := q1_19.symm
    subst q1_19
    have q2_19 := q2_19.symm
    subst q2_19
    have hP : va_P D vwCl [(x, .inr (5, [.ref r, .ref t, .ref im, .int hi, .ref tx, .ref ch, .ref ro, .ref rf, .ref pl, .ref ot, .ref cl])), (rf, .inl (cI, 6, .inl (rf_bump F (rf_cro nw w n mo k)))), (r, .inr (1, [.int q, .int nw, .ref rn])), (rn, .inl (cI, 20, .inl v)), (cl, .inl (cI, 9, .inl kf))] H := hP.sub [3, 4, 0, 1, 2] rfl
    have hD : va_D A [(x, .inr (5, [.ref r, .ref t, .ref im, .int hi, .ref tx, .ref ch, .ref ro, .ref rf, .ref pl, .ref ot, .ref cl])), (rf, .inl (cI, 6, .inl (rf_bump F (rf_cro nw w n mo k)))), (r, .inr (1, [.int q, .int nw, .ref rn])), (rn, .inl (cI, 20, .inl v)), (cl, .inl (cI, 9, .inl kf))] := hD.sub [3, 4, 0, 1, 2] (by decide) rfl
    exact wrI (w1 := (fun (u : (Nat → Int32) × (Nat → Int32)) => [(x, .inr (5, [.ref r, .ref t, .ref im, .int hi, .ref tx, .ref ch, .ref ro, .ref rf, .ref pl, .ref ot, .ref cl])), (rf, .inl (cI, 6, .inl u.1)), (r, .inr (1, [.int q, .int nw, .ref rn])), (rn, .inl (cI, 20, .inl v)), (cl, .inl (cI, 9, .inl u.2))])) ((rf_bump F (rf_cro nw w n mo k)), kf) hx hb hr hlocks dX5_crowded_22 hS (hP.sub [0, 1, 2, 3, 4] rfl) (hD.sub [0, 1, 2, 3, 4] (by decide) rfl) (by simp [c_13])

set_option maxHeartbeats 4000000 in
set_option maxRecDepth 100000 in
theorem c_X6_crowded (l : Launch) (D : va_G) (cI cZ cR : ClassId) (y yr yw yc yl ys yp ym yo yk yt yi yz yx yu : Nat) (mq mn mc me md mz km kr : Int32) (G : Nat → Int32) (v : Nat → Int32) (kf : Nat → Int32) (w n mo k : Int32) (hq : okQ mq) (hmn : 0 ≤ mn) (hm5 : mn ≤ 5) (hws : ∀ w, 0 ≤ w ∧ w < mn → okW mq v w) (sz : Nat) : Met l yX6_crowded wsX6_crowded ({ frames := 3, cells := 0, slots := 0, locals := 74 }) (PcW D cI cZ cR [.ref y, .int w, .int n, .int mo, .int k] [(y, .inr (6, [.ref yr, .int mq, .int mn, .ref yw, .ref yc, .int mc, .ref yl, .int me, .ref ys, .ref yp, .ref ym, .int md, .ref yo, .ref yk, .ref yt, .int mz, .ref yi, .ref yz, .ref yx, .ref yu, .int km, .int kr])), (yr, .inl (cI, 7, .inl G)), (yw, .inl (cI, 20, .inl v)), (yk, .inl (cI, 9, .inl kf))] sz) (va_Qi (fun (res : Int32) (u : (Nat → Int32) × (Nat → Int32)) => res = (if rf_cro mn w n mo k = 0 then croA (cr (plK mq v w) mo n.toNatClampNeg) mo k else rf_cro mn w n mo k) ∧ u.1 = (if rf_cro mn w n mo k = 0 then G else md_bump G (rf_cro mn w n mo k))) (Bw D (fun (u : (Nat → Int32) × (Nat → Int32)) => [(y, .inr (6, [.ref yr, .int mq, .int mn, .ref yw, .ref yc, .int mc, .ref yl, .int me, .ref ys, .ref yp, .ref ym, .int md, .ref yo, .ref yk, .ref yt, .int mz, .ref yi, .ref yz, .ref yx, .ref yu, .int km, .int kr])), (yr, .inl (cI, 7, .inl u.1)), (yw, .inl (cI, 20, .inl v)), (yk, .inl (cI, 9, .inl u.2))]) (va_A [(y, .inr (6, [.ref yr, .int mq, .int mn, .ref yw, .ref yc, .int mc, .ref yl, .int me, .ref ys, .ref yp, .ref ym, .int md, .ref yo, .ref yk, .ref yt, .int mz, .ref yi, .ref yz, .ref yx, .ref yu, .int km, .int kr])), (yr, .inl (cI, 7, .inl G)), (yw, .inl (cI, 20, .inl v)), (yk, .inl (cI, 9, .inl kf))] sz)) (va_A [(y, .inr (6, [.ref yr, .int mq, .int mn, .ref yw, .ref yc, .int mc, .ref yl, .int me, .ref ys, .ref yp, .ref ym, .int md, .ref yo, .ref yk, .ref yt, .int mz, .ref yi, .ref yz, .ref yx, .ref yu, .int km, .int kr])), (yr, .inl (cI, 7, .inl G)), (yw, .inl (cI, 20, .inl v)), (yk, .inl (cI, 9, .inl kf))] sz)) 0 0 (va_A [(y, .inr (6, [.ref yr, .int mq, .int mn, .ref yw, .ref yc, .int mc, .ref yl, .int me, .ref ys, .ref yp, .ref ym, .int md, .ref yo, .ref yk, .ref yt, .int mz, .ref yi, .ref yz, .ref yx, .ref yu, .int km, .int kr])), (yr, .inl (cI, 7, .inl G)), (yw, .inl (cI, 20, .inl v)), (yk, .inl (cI, 9, .inl kf))] sz) := by
  refine Met.ofW (cc := cX6_crowded) (maxL := 7) (ret := (some .int)) (by decide) rfl ?_
  intro p e s m args below meth c s₁ B hml hv
  obtain ⟨rfl, hsz, hP, hK, hD0, hN⟩ := hv
  have hx := B.exec
  have hb := B.bytes
  have hr := B.returns
  have hts := atoms_spec (ws := wsX6_crowded) B.pre
  have hown : s.vm.findClass RX6 = some m.cls := findClass_of_methodNamed B.named
  have hlocks := B.notSynchronized
  subst hsz
  have hD := hD0.self (sz := s.heap.size)
  generalize hAe : va_A [(y, .inr (6, [.ref yr, .int mq, .int mn, .ref yw, .ref yc, .int mc, .ref yl, .int me, .ref ys, .ref yp, .ref ym, .int md, .ref yo, .ref yk, .ref yt, .int mz, .ref yi, .ref yz, .ref yx, .ref yu, .int km, .int kr])), (yr, .inl (cI, 7, .inl G)), (yw, .inl (cI, 20, .inl v)), (yk, .inl (cI, 9, .inl kf))] s.heap.size = A at hD ⊢
  have hA : ∀ q : Nat, s.heap.size ≤ q → A q := fun q h => by rw [← hAe]; exact Or.inr h
  have hS : va_S A s.heap s.heap [] := va_S.rf
  have hP : va_P D vwCl [(y, .inr (6, [.ref yr, .int mq, .int mn, .ref yw, .ref yc, .int mc, .ref yl, .int me, .ref ys, .ref yp, .ref ym, .int md, .ref yo, .ref yk, .ref yt, .int mz, .ref yi, .ref yz, .ref yx, .ref yu, .int km, .int kr])), (yr, .inl (cI, 7, .inl G)), (yw, .inl (cI, 20, .inl v)), (yk, .inl (cI, 9, .inl kf))] s.heap := hP
  have hl := lv_entry ([.ref y, .int w, .int n, .int mo, .int k]) (n := 7) (Nat.le_of_ble_eq_true rfl)
  rw [lg_entry_eq]
  generalize (lg_sl ([.ref y, .int w, .int n, .int mo, .int k]) ++ List.replicate (7 - (lg_sl ([.ref y, .int w, .int n, .int mo, .int k])).length) Slot.unset).toArray = ls at hl ⊢
  have hl : lv_has ls 7 [(0, .ref y), (1, .int w), (2, .int n), (3, .int mo), (4, .int k)] := hl
  refine lv_aload_n hx hb dX6_crowded_0 rfl (lv_at hl 0 rfl) ?_
  refine lv_iload_n hx hb dX6_crowded_1 rfl (lv_at hl 1 rfl) ?_
  refine rdV (As := [.int w]) (rest := []) ⟨hx, hb, hml, hown, hts⟩ (c_X6_isWalker l D cI cZ cR y yr yw yc yl ys yp ym yo yk yt yi yz yx yu mq mn mc me md mz km kr w (by first | assumption | omega)) (cwV 1 hts gX6_crowded_X6_isWalker rfl rfl rfl (by decide +kernel) ⟨Nat.le_of_ble_eq_true rfl, Nat.le_of_ble_eq_true rfl⟩) hK hN hP 0 6 rfl rfl rfl [0] rfl rfl hl.1 rfl (Nat.le_of_ble_eq_true rfl) dX6_crowded_2 ⟨Nat.zero_le _, Nat.zero_le _⟩ ?_
  refine lv_if_ne (tgt := 14) hx hb dX6_crowded_5 (by decide) (fun c_5 => ?_) (fun c_5 => ?_)
  · skip
    have c_5 := bi_ne0.mp c_5
    refine lv_iload_n hx hb dX6_crowded_14 rfl (lv_at hl 2 rfl) ?_
    refine lv_iconst (v := 1) hx hb dX6_crowded_15 (by decide) ?_
    refine lv_icmp_lt (tgt := 24) hx hb dX6_crowded_16 (by decide) (fun c_16 => ?_) (fun c_16 => ?_)
    · skip
      refine lv_aload_n hx hb dX6_crowded_24 rfl (lv_at hl 0 rfl) ?_
      refine lv_bipush (v := (-4)) hx hb dX6_crowded_25 (by decide) ?_
      refine wrVi (As := [.int (-4)]) (rest := []) (wr := [(yw, .inl (cI, 20, .inl v)), (yk, .inl (cI, 9, .inl kf))]) (A := A) ⟨hx, hb, hml, hown, hts⟩ (c_X6_no l D cI cZ cR y yr yw yc yl ys yp ym yo yk yt yi yz yx yu mq mn mc me md mz km kr G (-4) (by decide) s.heap.size) (cwV 1 hts gX6_crowded_X6_no rfl rfl rfl (by decide +kernel) ⟨Nat.le_of_ble_eq_true rfl, Nat.le_of_ble_eq_true rfl⟩) hK hN hP hD hS hA 0 6 rfl rfl rfl [0, 1] [2, 3] rfl (by decide) rfl (by decide) (by decide) rfl hl.1 rfl (Nat.le_of_ble_eq_true rfl) dX6_crowded_27 ⟨Nat.zero_le _, Nat.zero_le _⟩ (fun r_27 u H locs hw hP hD hS => ?_)
      obtain ⟨G_27, rfl⟩ : ∃ z, z = u := ⟨_, rfl⟩
      try dsimp only at hw
      obtain ⟨q1_27, q2_27⟩ := hw
      have q1_27 := q1_27.symm
      subst q1_27
      have q2_27 := q2_27.symm
      subst q2_27
      have hP : va_P D vwCl [(y, .inr (6, [.ref yr, .int mq, .int mn, .ref yw, .ref yc, .int mc, .ref yl, .int me, .ref ys, .ref yp, .ref ym, .int md, .ref yo, .ref yk, .ref yt, .int mz, .ref yi, .ref yz, .ref yx, .ref yu, .int km, .int kr])), (yr, .inl (cI, 7, .inl (md_bump G (-4)))), (yw, .inl (cI, 20, .inl v)), (yk, .inl (cI, 9, .inl kf))] H := hP.sub [2, 3, 0, 1] rfl
      have hD : va_D A [(y, .inr (6, [.ref yr, .int mq, .int mn, .ref yw, .ref yc, .int mc, .ref yl, .int me, .ref ys, .ref yp, .ref ym, .int md, .ref yo, .ref yk, .ref yt, .int mz, .ref yi, .ref yz, .ref yx, .ref yu, .int km, .int kr])), (yr, .inl (cI, 7, .inl (md_bump G (-4)))), (yw, .inl (cI, 20, .inl v)), (yk, .inl (cI, 9, .inl kf))] := hD.sub [2, 3, 0, 1] (by decide) rfl
      exact wrI (w1 := (fun (u : (Nat → Int32) × (Nat → Int32)) => [(y, .inr (6, [.ref yr, .int mq, .int mn, .ref yw, .ref yc, .int mc, .ref yl, .int me, .ref ys, .ref yp, .ref ym, .int md, .ref yo, .ref yk, .ref yt, .int mz, .ref yi, .ref yz, .ref yx, .ref yu, .int km, .int kr])), (yr, .inl (cI, 7, .inl u.1)), (yw, .inl (cI, 20, .inl v)), (yk, .inl (cI, 9, .inl u.2))])) ((md_bump G (-4)), kf) hx hb hr hlocks dX6_crowded_30 hS (hP.sub [0, 1, 2, 3] rfl) (hD.sub [0, 1, 2, 3] (by decide) rfl) (by have e9 : rf_cro mn w n mo k = -4 := (by unfold rf_cro; rw [if_neg (fun z => z c_5), if_pos c_16]); simp [e9])
    · skip
      refine lv_iload_n hx hb dX6_crowded_19 rfl (lv_at hl 3 rfl) ?_
      refine lv_iconst (v := 1) hx hb dX6_crowded_20 (by decide) ?_
      refine lv_icmp_ge (tgt := 31) hx hb dX6_crowded_21 (by decide) (fun c_21 => ?_) (fun c_21 => ?_)
      · skip
        refine lv_iload_n hx hb dX6_crowded_31 rfl (lv_at hl 2 rfl) ?_
        refine lv_sipush (v := 200) hx hb dX6_crowded_32 (by decide) ?_
        refine lv_icmp_gt (tgt := 44) hx hb dX6_crowded_35 (by decide) (fun c_35 => ?_) (fun c_35 => ?_)
        · skip
          refine lv_aload_n hx hb dX6_crowded_44 rfl (lv_at hl 0 rfl) ?_
          refine lv_bipush (v := (-6)) hx hb dX6_crowded_45 (by decide) ?_
          refine wrVi (As := [.int (-6)]) (rest := []) (wr := [(yw, .inl (cI, 20, .inl v)), (yk, .inl (cI, 9, .inl kf))]) (A := A) ⟨hx, hb, hml, hown, hts⟩ (c_X6_no l D cI cZ cR y yr yw yc yl ys yp ym yo yk yt yi yz yx yu mq mn mc me md mz km kr G (-6) (by decide) s.heap.size) (cwV 1 hts gX6_crowded_X6_no rfl rfl rfl (by decide +kernel) ⟨Nat.le_of_ble_eq_true rfl, Nat.le_of_ble_eq_true rfl⟩) hK hN hP hD hS hA 0 6 rfl rfl rfl [0, 1] [2, 3] rfl (by decide) rfl (by decide) (by decide) rfl hl.1 rfl (Nat.le_of_ble_eq_true rfl) dX6_crowded_47 ⟨Nat.zero_le _, Nat.zero_le _⟩ (fun r_47 u H locs hw hP hD hS => ?_)
          obtain ⟨G_47, rfl⟩ : ∃ z, z = u := ⟨_, rfl⟩
          try dsimp only at hw
          obtain ⟨q1_47, q2_47⟩ := hw
          have q1_47 := q1_47.symm
          subst q1_47
          have q2_47 := q2_47.symm
          subst q2_47
          have hP : va_P D vwCl [(y, .inr (6, [.ref yr, .int mq, .int mn, .ref yw, .ref yc, .int mc, .ref yl, .int me, .ref ys, .ref yp, .ref ym, .int md, .ref yo, .ref yk, .ref yt, .int mz, .ref yi, .ref yz, .ref yx, .ref yu, .int km, .int kr])), (yr, .inl (cI, 7, .inl (md_bump G (-6)))), (yw, .inl (cI, 20, .inl v)), (yk, .inl (cI, 9, .inl kf))] H := hP.sub [2, 3, 0, 1] rfl
          have hD : va_D A [(y, .inr (6, [.ref yr, .int mq, .int mn, .ref yw, .ref yc, .int mc, .ref yl, .int me, .ref ys, .ref yp, .ref ym, .int md, .ref yo, .ref yk, .ref yt, .int mz, .ref yi, .ref yz, .ref yx, .ref yu, .int km, .int kr])), (yr, .inl (cI, 7, .inl (md_bump G (-6)))), (yw, .inl (cI, 20, .inl v)), (yk, .inl (cI, 9, .inl kf))] := hD.sub [2, 3, 0, 1] (by decide) rfl
          exact wrI (w1 := (fun (u : (Nat → Int32) × (Nat → Int32)) => [(y, .inr (6, [.ref yr, .int mq, .int mn, .ref yw, .ref yc, .int mc, .ref yl, .int me, .ref ys, .ref yp, .ref ym, .int md, .ref yo, .ref yk, .ref yt, .int mz, .ref yi, .ref yz, .ref yx, .ref yu, .int km, .int kr])), (yr, .inl (cI, 7, .inl u.1)), (yw, .inl (cI, 20, .inl v)), (yk, .inl (cI, 9, .inl u.2))])) ((md_bump G (-6)), kf) hx hb hr hlocks dX6_crowded_50 hS (hP.sub [0, 1, 2, 3] rfl) (hD.sub [0, 1, 2, 3] (by decide) rfl) (by have e9 : rf_cro mn w n mo k = -6 := (by unfold rf_cro; rw [if_neg (fun z => z c_5), if_neg c_16, if_neg (Int32.not_lt.mpr c_21), if_pos c_35]); simp [e9])
        · skip
          refine lv_iload_n hx hb dX6_crowded_38 rfl (lv_at hl 3 rfl) ?_
          refine lv_bipush (v := 9) hx hb dX6_crowded_39 (by decide) ?_
          refine lv_icmp_le (tgt := 51) hx hb dX6_crowded_41 (by decide) (fun c_41 => ?_) (fun c_41 => ?_)
          · skip
            refine lv_iload hx hb dX6_crowded_51 (lv_at hl 4 rfl) ?_
            refine lv_i2l hx hb dX6_crowded_53 rfl ?_
            refine lv_lconst (v := 0) hx hb dX6_crowded_54 (by decide) ?_
            refine lv_lconst (v := 1) hx hb dX6_crowded_55 (by decide) ?_
            refine rdS (As := [.long k.toInt64, .long 0, .long 1]) (rest := []) ⟨hx, hb, hml, hown, hts⟩ (c_X6_in l D cI cZ cR k.toInt64 0 1 ) (va_cwS 3 hts gX6_crowded_X6_in rfl rfl rfl (by decide +kernel) ⟨Nat.le_of_ble_eq_true rfl, Nat.le_of_ble_eq_true rfl⟩) hK hN hP [] rfl rfl hl.1 rfl (Nat.le_of_ble_eq_true rfl) dX6_crowded_56 ⟨Nat.zero_le _, Nat.zero_le _⟩ ?_
            refine lv_if_ne (tgt := 69) hx hb dX6_crowded_59 (by decide) (fun c_59 => ?_) (fun c_59 => ?_)
            · skip
              have c_59 := bi_ne0.mp c_59
              have eR : rf_cro mn w n mo k = 0 := by unfold rf_cro; rw [if_neg (fun z => z c_5), if_neg c_16, if_neg (Int32.not_lt.mpr c_21), if_neg c_35, if_neg (Int32.not_lt.mpr c_41), if_pos ((md_w1 k).mp c_59)]
              have hok := rf_cro_ok eR
              have hn := n200 hok.2.1
              obtain ⟨b9, hb1, hb2, hb3, hb4⟩ := mo9 hok.2.2.1
              refine lv_iconst (v := 0) hx hb dX6_crowded_69 (by decide) ?_
              refine lv_istore (lv' := [(5, .int 0), (0, .ref y), (1, .int w), (2, .int n), (3, .int mo), (4, .int k)]) hx hb dX6_crowded_70 hl (by decide) rfl (fun ls hl => ?_)
              have loop_72 : ∀ (fuel : Nat), ∀ (i : Nat), ∀ (g : Nat → Int32), (i ≤ 9) → (∀ j, j < i → g j = 0) → (10 ≤ i + fuel) → ∀ (y5 : Int32), y5 = nI i → ∀ (H : Heap) (locs : List Loc), va_P D vwCl [(y, .inr (6, [.ref yr, .int mq, .int mn, .ref yw, .ref yc, .int mc, .ref yl, .int me, .ref ys, .ref yp, .ref ym, .int md, .ref yo, .ref yk, .ref yt, .int mz, .ref yi, .ref yz, .ref yx, .ref yu, .int km, .int kr])), (yr, .inl (cI, 7, .inl G)), (yw, .inl (cI, 20, .inl v)), (yk, .inl (cI, 9, .inl g))] H → va_D A [(y, .inr (6, [.ref yr, .int mq, .int mn, .ref yw, .ref yc, .int mc, .ref yl, .int me, .ref ys, .ref yp, .ref ym, .int md, .ref yo, .ref yk, .ref yt, .int mz, .ref yi, .ref yz, .ref yx, .ref yu, .int km, .int kr])), (yr, .inl (cI, 7, .inl G)), (yw, .inl (cI, 20, .inl v)), (yk, .inl (cI, 9, .inl g))] → va_S A s.heap H locs → ∀ (ls : Array Slot), lv_has ls 7 [(5, .int y5), (0, .ref y), (1, .int w), (2, .int n), (3, .int mo), (4, .int k)] → W p l e (headSpec wsX6_crowded ({ frames := 3, cells := 0, slots := 0, locals := 74 })).room s m ([.ref y, .int w, .int n, .int mo, .int k] : List Value).toArray below meth c H locs 0 0 (MQ below (va_Qi (fun (res : Int32) (u : (Nat → Int32) × (Nat → Int32)) => res = (if rf_cro mn w n mo k = 0 then croA (cr (plK mq v w) mo n.toNatClampNeg) mo k else rf_cro mn w n mo k) ∧ u.1 = (if rf_cro mn w n mo k = 0 then G else md_bump G (rf_cro mn w n mo k))) (Bw D (fun (u : (Nat → Int32) × (Nat → Int32)) => [(y, .inr (6, [.ref yr, .int mq, .int mn, .ref yw, .ref yc, .int mc, .ref yl, .int me, .ref ys, .ref yp, .ref ym, .int md, .ref yo, .ref yk, .ref yt, .int mz, .ref yi, .ref yz, .ref yx, .ref yu, .int km, .int kr])), (yr, .inl (cI, 7, .inl u.1)), (yw, .inl (cI, 20, .inl v)), (yk, .inl (cI, 9, .inl u.2))]) A) A) ([.ref y, .int w, .int n, .int mo, .int k] : List Value).toArray s 0 0 A) (F0 m 72 ls []) := by
                intro fuel
                induction fuel with
                | zero =>
                  intro i g hi hg0 hfu0
                  exact False.elim (by omega)
                | succ fuel ih_72 =>
                  intro i g hi hg0 hfu0 y5 ey5 H locs hP hD hS ls hl
                  subst ey5
                  refine lv_iload hx hb dX6_crowded_72 (lv_at hl 0 rfl) ?_
                  refine lv_bipush (v := 9) hx hb dX6_crowded_74 (by decide) ?_
                  refine lv_icmp_ge (tgt := 93) hx hb dX6_crowded_76 (by decide) (fun c_76 => ?_) (fun c_76 => ?_)
                  · skip
                    have hi09 : i = 9 := by have := (nI_leI (a := 9) (b := i) (by omega) (by omega)).mp c_76; omega
                    refine lv_iconst (v := 0) hx hb dX6_crowded_93 (by decide) ?_
                    refine lv_istore (lv' := [(5, .int 0), (0, .ref y), (1, .int w), (2, .int n), (3, .int mo), (4, .int k)]) hx hb dX6_crowded_94 hl (by decide) rfl (fun ls hl => ?_)
                    have loop_96 : ∀ (fuel : Nat), ∀ (i1 : Nat), ∀ (g1 : Nat → Int32), (i1 ≤ n.toNatClampNeg) → (∀ j, j < 9 → g1 j = cr (plK mq v w) mo i1 j) → (n.toNatClampNeg + 1 ≤ i1 + fuel) → ∀ (y5 : Int32), y5 = nI i1 → ∀ (H : Heap) (locs : List Loc), va_P D vwCl [(y, .inr (6, [.ref yr, .int mq, .int mn, .ref yw, .ref yc, .int mc, .ref yl, .int me, .ref ys, .ref yp, .ref ym, .int md, .ref yo, .ref yk, .ref yt, .int mz, .ref yi, .ref yz, .ref yx, .ref yu, .int km, .int kr])), (yr, .inl (cI, 7, .inl G)), (yw, .inl (cI, 20, .inl v)), (yk, .inl (cI, 9, .inl g1))] H → va_D A [(y, .inr (6, [.ref yr, .int mq, .int mn, .ref yw, .ref yc, .int mc, .ref yl, .int me, .ref ys, .ref yp, .ref ym, .int md, .ref yo, .ref yk, .ref yt, .int mz, .ref yi, .ref yz, .ref yx, .ref yu, .int km, .int kr])), (yr, .inl (cI, 7, .inl G)), (yw, .inl (cI, 20, .inl v)), (yk, .inl (cI, 9, .inl g1))] → va_S A s.heap H locs → ∀ (ls : Array Slot), lv_has ls 7 [(5, .int y5), (0, .ref y), (1, .int w), (2, .int n), (3, .int mo), (4, .int k)] → W p l e (headSpec wsX6_crowded ({ frames := 3, cells := 0, slots := 0, locals := 74 })).room s m ([.ref y, .int w, .int n, .int mo, .int k] : List Value).toArray below meth c H locs 0 0 (MQ below (va_Qi (fun (res : Int32) (u : (Nat → Int32) × (Nat → Int32)) => res = (if rf_cro mn w n mo k = 0 then croA (cr (plK mq v w) mo n.toNatClampNeg) mo k else rf_cro mn w n mo k) ∧ u.1 = (if rf_cro mn w n mo k = 0 then G else md_bump G (rf_cro mn w n mo k))) (Bw D (fun (u : (Nat → Int32) × (Nat → Int32)) => [(y, .inr (6, [.ref yr, .int mq, .int mn, .ref yw, .ref yc, .int mc, .ref yl, .int me, .ref ys, .ref yp, .ref ym, .int md, .ref yo, .ref yk, .ref yt, .int mz, .ref yi, .ref yz, .ref yx, .ref yu, .int km, .int kr])), (yr, .inl (cI, 7, .inl u.1)), (yw, .inl (cI, 20, .inl v)), (yk, .inl (cI, 9, .inl u.2))]) A) A) ([.ref y, .int w, .int n, .int mo, .int k] : List Value).toArray s 0 0 A) (F0 m 96 ls []) := by
                      intro fuel
                      induction fuel with
                      | zero =>
                        intro i1 g1 hi9 hg hfu
                        exact False.elim (by omega)
                      | succ fuel ih_96 =>
                        intro i1 g1 hi9 hg hfu y5 ey5 H locs hP hD hS ls hl
                        subst ey5
                        refine lv_iload hx hb dX6_crowded_96 (lv_at hl 0 rfl) ?_
                        refine lv_iload_n hx hb dX6_crowded_98 rfl (lv_at hl 3 rfl) ?_
                        refine lv_icmp_ge (tgt := 126) hx hb dX6_crowded_99 (by decide) (fun c_99 => ?_) (fun c_99 => ?_)
                        · skip
                          have hend : i1 = n.toNatClampNeg := by have := (le_clamp (by omega)).mp c_99; omega
                          have hP : va_P D vwCl [(y, .inr (6, [.ref yr, .int mq, .int mn, .ref yw, .ref yc, .int mc, .ref yl, .int me, .ref ys, .ref yp, .ref ym, .int md, .ref yo, .ref yk, .ref yt, .int mz, .ref yi, .ref yz, .ref yx, .ref yu, .int km, .int kr])), (yr, .inl (cI, 7, .inl G)), (yw, .inl (cI, 20, .inl v)), (yk, .inl (cI, 9, .inl (cr (plK mq v w) mo n.toNatClampNeg)))] H := P_cg hP 3 (cr (plK mq v w) mo n.toNatClampNeg) rfl (fun j hj => by rw [← hend]; exact hg j hj)
                          have hD : va_D A [(y, .inr (6, [.ref yr, .int mq, .int mn, .ref yw, .ref yc, .int mc, .ref yl, .int me, .ref ys, .ref yp, .ref ym, .int md, .ref yo, .ref yk, .ref yt, .int mz, .ref yi, .ref yz, .ref yx, .ref yu, .int km, .int kr])), (yr, .inl (cI, 7, .inl G)), (yw, .inl (cI, 20, .inl v)), (yk, .inl (cI, 9, .inl (cr (plK mq v w) mo n.toNatClampNeg)))] := D_cg hD 3 _ rfl
                          refine lv_iconst (v := 0) hx hb dX6_crowded_126 (by decide) ?_
                          refine lv_istore (lv' := [(5, .int 0), (0, .ref y), (1, .int w), (2, .int n), (3, .int mo), (4, .int k)]) hx hb dX6_crowded_127 hl (by decide) rfl (fun ls hl => ?_)
                          refine lv_iconst (v := 1) hx hb dX6_crowded_129 (by decide) ?_
                          refine lv_istore (lv' := [(6, .int 1), (5, .int 0), (0, .ref y), (1, .int w), (2, .int n), (3, .int mo), (4, .int k)]) hx hb dX6_crowded_130 hl (by decide) rfl (fun ls hl => ?_)
                          have loop_132 : ∀ (fuel : Nat), ∀ (i2 : Nat), (1 ≤ i2) → (i2 ≤ mo.toNatClampNeg) → (mo.toNatClampNeg + 1 ≤ i2 + fuel) → ∀ (y5 : Int32), y5 = nI (bs (cr (plK mq v w) mo n.toNatClampNeg) i2) → ∀ (y6 : Int32), y6 = nI i2 → ∀ (ls : Array Slot), lv_has ls 7 [(5, .int y5), (6, .int y6), (0, .ref y), (1, .int w), (2, .int n), (3, .int mo), (4, .int k)] → W p l e (headSpec wsX6_crowded ({ frames := 3, cells := 0, slots := 0, locals := 74 })).room s m ([.ref y, .int w, .int n, .int mo, .int k] : List Value).toArray below meth c H locs 0 0 (MQ below (va_Qi (fun (res : Int32) (u : (Nat → Int32) × (Nat → Int32)) => res = (if rf_cro mn w n mo k = 0 then croA (cr (plK mq v w) mo n.toNatClampNeg) mo k else rf_cro mn w n mo k) ∧ u.1 = (if rf_cro mn w n mo k = 0 then G else md_bump G (rf_cro mn w n mo k))) (Bw D (fun (u : (Nat → Int32) × (Nat → Int32)) => [(y, .inr (6, [.ref yr, .int mq, .int mn, .ref yw, .ref yc, .int mc, .ref yl, .int me, .ref ys, .ref yp, .ref ym, .int md, .ref yo, .ref yk, .ref yt, .int mz, .ref yi, .ref yz, .ref yx, .ref yu, .int km, .int kr])), (yr, .inl (cI, 7, .inl u.1)), (yw, .inl (cI, 20, .inl v)), (yk, .inl (cI, 9, .inl u.2))]) A) A) ([.ref y, .int w, .int n, .int mo, .int k] : List Value).toArray s 0 0 A) (F0 m 132 ls []) := by
                            intro fuel
                            induction fuel with
                            | zero =>
                              intro i2 hj1 hj9 hfu2
                              exact False.elim (by omega)
                            | succ fuel ih_132 =>
                              intro i2 hj1 hj9 hfu2 y5 ey5 y6 ey6 ls hl
                              subst ey5
                              subst ey6
                              refine lv_iload hx hb dX6_crowded_132 (lv_at hl 1 rfl) ?_
                              refine lv_iload_n hx hb dX6_crowded_134 rfl (lv_at hl 5 rfl) ?_
                              refine lv_icmp_ge (tgt := 170) hx hb dX6_crowded_135 (by decide) (fun c_135 => ?_) (fun c_135 => ?_)
                              · skip
                                have hend2 : i2 = mo.toNatClampNeg := by have := (le_clamp (by omega)).mp c_135; omega
                                have hbs := bs_lt (cr (plK mq v w) mo n.toNatClampNeg) i2 hj1
                                refine lv_iload hx hb dX6_crowded_170 (lv_at hl 6 rfl) ?_
                                refine lv_if_ne (tgt := 180) hx hb dX6_crowded_172 (by decide) (fun c_172 => ?_) (fun c_172 => ?_)
                                · skip
                                  refine lv_aload_n hx hb dX6_crowded_180 rfl (lv_at hl 2 rfl) ?_
                                  refine va_get (D := D) (ci := 6) (v := .ref yk) (C := RX6) (T := TX6) (N := 22) hx hb hts (in_X6_crowded_X6) hown hK hP 0 rfl rfl 13 (by decide) (hts (.fieldLink RX6 38 "StepsRoundCircleModel" "classes" "[I") (by decide +kernel)) (fun _ h9 => h9) rfl dX6_crowded_181 ?_
                                  refine lv_iload hx hb dX6_crowded_184 (lv_at hl 0 rfl) ?_
                                  refine va_iald hx hb hK hP 3 0 rfl rfl (vp_in_nI (by omega) (by omega)) dX6_crowded_186 ?_
                                  exact wrI (w1 := (fun (u : (Nat → Int32) × (Nat → Int32)) => [(y, .inr (6, [.ref yr, .int mq, .int mn, .ref yw, .ref yc, .int mc, .ref yl, .int me, .ref ys, .ref yp, .ref ym, .int md, .ref yo, .ref yk, .ref yt, .int mz, .ref yi, .ref yz, .ref yx, .ref yu, .int km, .int kr])), (yr, .inl (cI, 7, .inl u.1)), (yw, .inl (cI, 20, .inl v)), (yk, .inl (cI, 9, .inl u.2))])) (G, (cr (plK mq v w) mo n.toNatClampNeg)) hx hb hr hlocks dX6_crowded_187 hS (hP.sub [0, 1, 2, 3] rfl) (hD.sub [0, 1, 2, 3] (by decide) rfl) (⟨by rw [if_pos eR]; unfold croA; rw [if_neg c_172, ← hend2, nI_clamp (by omega)], by rw [if_pos eR]⟩)
                                · skip
                                  refine lv_iload hx hb dX6_crowded_175 (lv_at hl 0 rfl) ?_
                                  refine lv_goto (tgt := 187) hx hb dX6_crowded_177 (by decide) ?_
                                  exact wrI (w1 := (fun (u : (Nat → Int32) × (Nat → Int32)) => [(y, .inr (6, [.ref yr, .int mq, .int mn, .ref yw, .ref yc, .int mc, .ref yl, .int me, .ref ys, .ref yp, .ref ym, .int md, .ref yo, .ref yk, .ref yt, .int mz, .ref yi, .ref yz, .ref yx, .ref yu, .int km, .int kr])), (yr, .inl (cI, 7, .inl u.1)), (yw, .inl (cI, 20, .inl v)), (yk, .inl (cI, 9, .inl u.2))])) (G, (cr (plK mq v w) mo n.toNatClampNeg)) hx hb hr hlocks dX6_crowded_187 hS (hP.sub [0, 1, 2, 3] rfl) (hD.sub [0, 1, 2, 3] (by decide) rfl) (⟨by rw [if_pos eR]; unfold croA; rw [if_pos c_172, ← hend2], by rw [if_pos eR]⟩)
                              · skip
                                have hjN : i2 < mo.toNatClampNeg := (lt_clamp (by omega)).mp (Int32.not_le.mp c_135)
                                have hbs := bs_lt (cr (plK mq v w) mo n.toNatClampNeg) i2 hj1
                                refine lv_aload_n hx hb dX6_crowded_138 rfl (lv_at hl 2 rfl) ?_
                                refine va_get (D := D) (ci := 6) (v := .ref yk) (C := RX6) (T := TX6) (N := 22) hx hb hts (in_X6_crowded_X6) hown hK hP 0 rfl rfl 13 (by decide) (hts (.fieldLink RX6 38 "StepsRoundCircleModel" "classes" "[I") (by decide +kernel)) (fun _ h9 => h9) rfl dX6_crowded_139 ?_
                                refine lv_iload hx hb dX6_crowded_142 (lv_at hl 1 rfl) ?_
                                refine va_iald hx hb hK hP 3 0 rfl rfl (vp_in_nI (by omega) (by omega)) dX6_crowded_144 ?_
                                refine lv_topi (fun z_145 hz_145 => ?_)
                                have hz_145 : z_145 = (cr (plK mq v w) mo n.toNatClampNeg) i2 := hz_145.trans (by rw [nI_clamp (by omega)])
                                subst hz_145
                                refine lv_aload_n hx hb dX6_crowded_145 rfl (lv_at hl 2 rfl) ?_
                                refine va_get (D := D) (ci := 6) (v := .ref yk) (C := RX6) (T := TX6) (N := 22) hx hb hts (in_X6_crowded_X6) hown hK hP 0 rfl rfl 13 (by decide) (hts (.fieldLink RX6 38 "StepsRoundCircleModel" "classes" "[I") (by decide +kernel)) (fun _ h9 => h9) rfl dX6_crowded_146 ?_
                                refine lv_iload hx hb dX6_crowded_149 (lv_at hl 0 rfl) ?_
                                refine va_iald hx hb hK hP 3 0 rfl rfl (vp_in_nI (by omega) (by omega)) dX6_crowded_151 ?_
                                refine lv_topi (fun z_152 hz_152 => ?_)
                                have hz_152 : z_152 = (cr (plK mq v w) mo n.toNatClampNeg) (bs (cr (plK mq v w) mo n.toNatClampNeg) i2) := hz_152.trans (by rw [nI_clamp (by omega)])
                                subst hz_152
                                refine lv_icmp_le (tgt := 160) hx hb dX6_crowded_152 (by decide) (fun c_152 => ?_) (fun c_152 => ?_)
                                · skip
                                  refine lv_iload hx hb dX6_crowded_160 (lv_at hl 0 rfl) ?_
                                  refine lv_istore (lv' := [(5, .int (nI (bs (cr (plK mq v w) mo n.toNatClampNeg) i2))), (6, .int (nI i2)), (0, .ref y), (1, .int w), (2, .int n), (3, .int mo), (4, .int k)]) hx hb dX6_crowded_162 hl (by decide) rfl (fun ls hl => ?_)
                                  refine lv_iinc (v := (nI i2) + 1) (lv' := [(6, .int ((nI i2) + 1)), (5, .int (nI (bs (cr (plK mq v w) mo n.toNatClampNeg) i2))), (0, .ref y), (1, .int w), (2, .int n), (3, .int mo), (4, .int k)]) hx hb dX6_crowded_164 hl (k := 1) rfl (by rfl) (by decide) rfl (fun ls hl => ?_)
                                  refine lv_goto (tgt := 132) hx hb dX6_crowded_167 (by decide) ?_
                                  exact ih_132 (i2 + 1) (by omega) (by omega) (by omega) _ (by rw [bs, if_neg (Int32.not_lt.mpr c_152)]) _ (by first | rfl | exact nI_1 _ | exact nI_0.symm) ls (lv_sub hl [1, 0, 2, 3, 4, 5, 6] rfl)
                                · skip
                                  refine lv_iload hx hb dX6_crowded_155 (lv_at hl 1 rfl) ?_
                                  refine lv_goto (tgt := 162) hx hb dX6_crowded_157 (by decide) ?_
                                  refine lv_istore (lv' := [(5, .int (nI i2)), (6, .int (nI i2)), (0, .ref y), (1, .int w), (2, .int n), (3, .int mo), (4, .int k)]) hx hb dX6_crowded_162 hl (by decide) rfl (fun ls hl => ?_)
                                  refine lv_iinc (v := (nI i2) + 1) (lv' := [(6, .int ((nI i2) + 1)), (5, .int (nI i2)), (0, .ref y), (1, .int w), (2, .int n), (3, .int mo), (4, .int k)]) hx hb dX6_crowded_164 hl (k := 1) rfl (by rfl) (by decide) rfl (fun ls hl => ?_)
                                  refine lv_goto (tgt := 132) hx hb dX6_crowded_167 (by decide) ?_
                                  exact ih_132 (i2 + 1) (by omega) (by omega) (by omega) _ (by rw [bs, if_pos (Int32.not_le.mp c_152)]) _ (by first | rfl | exact nI_1 _ | exact nI_0.symm) ls (lv_sub hl [1, 0, 2, 3, 4, 5, 6] rfl)
                          exact loop_132 (mo.toNatClampNeg + 1) 1 (by omega) (by omega) (by omega) _ (by rw [bs_1]; exact nI_0.symm) _ (by first | rfl | exact nI_1 _ | exact nI_0.symm) ls (lv_sub hl [1, 0, 2, 3, 4, 5, 6] rfl)
                        · skip
                          have hiN : i1 < n.toNatClampNeg := (lt_clamp (by omega)).mp (Int32.not_le.mp c_99)
                          have hix := cr_ix (plK_bd hq v w i1).1 hok.2.2.1
                          refine lv_aload_n hx hb dX6_crowded_102 rfl (lv_at hl 1 rfl) ?_
                          refine va_get (D := D) (ci := 6) (v := .ref yk) (C := RX6) (T := TX6) (N := 22) hx hb hts (in_X6_crowded_X6) hown hK hP 0 rfl rfl 13 (by decide) (hts (.fieldLink RX6 38 "StepsRoundCircleModel" "classes" "[I") (by decide +kernel)) (fun _ h9 => h9) rfl dX6_crowded_103 ?_
                          refine lv_aload_n hx hb dX6_crowded_106 rfl (lv_at hl 1 rfl) ?_
                          refine lv_iload_n hx hb dX6_crowded_107 rfl (lv_at hl 2 rfl) ?_
                          refine lv_iload hx hb dX6_crowded_108 (lv_at hl 0 rfl) ?_
                          refine rdV (As := [.int w, .int (nI i1)]) (rest := [.ref yk]) ⟨hx, hb, hml, hown, hts⟩ (c_X6_placeOf l D cI cZ cR y yr yw yc yl ys yp ym yo yk yt yi yz yx yu mq mn mc me md mz km kr v w (nI i1) hq (w5 hm5 c_5) (hws w c_5) (⟨nI_pos' (by omega), nI_le (b := 4000) (by omega) (by omega)⟩)) (cwV 2 hts gX6_crowded_X6_placeOf rfl rfl rfl (by decide +kernel) ⟨Nat.le_of_ble_eq_true rfl, Nat.le_of_ble_eq_true rfl⟩) hK hN hP 0 6 rfl rfl rfl [0, 2] rfl rfl hl.1 rfl (Nat.le_of_ble_eq_true rfl) dX6_crowded_110 ⟨Nat.zero_le _, Nat.zero_le _⟩ ?_
                          refine lv_iload_n hx hb dX6_crowded_113 rfl (lv_at hl 4 rfl) ?_
                          refine lv_irem hx hb dX6_crowded_114 hix.2.2.2.2 ?_
                          refine lv_topi (fun z_115 hz_115 => ?_)
                          have hz_115 : z_115 = nI (crI (plK mq v w i1) mo) := hz_115.trans hix.2.2.2.1
                          subst hz_115
                          refine lv_dup2_11 hx hb dX6_crowded_115 rfl rfl ?_
                          refine va_iald hx hb hK hP 3 0 rfl rfl (vp_in_nI (by omega) (by omega)) dX6_crowded_116 ?_
                          refine lv_iconst (v := 1) hx hb dX6_crowded_117 (by decide) ?_
                          refine lv_iadd hx hb dX6_crowded_118 ?_
                          refine va_iast hx hb hK hP hD hS 3 0 rfl rfl (vp_in_nI (by omega) (by omega)) dX6_crowded_119 (fun H locs hP hD hS => ?_)
                          have hP : va_P D vwCl [(y, .inr (6, [.ref yr, .int mq, .int mn, .ref yw, .ref yc, .int mc, .ref yl, .int me, .ref ys, .ref yp, .ref ym, .int md, .ref yo, .ref yk, .ref yt, .int mz, .ref yi, .ref yz, .ref yx, .ref yu, .int km, .int kr])), (yr, .inl (cI, 7, .inl G)), (yw, .inl (cI, 20, .inl v)), (yk, .inl (cI, 9, .inl (upd g1 ((nI (crI (plK mq v w i1) mo)).toNatClampNeg) ((g1 ((nI (crI (plK mq v w i1) mo)).toNatClampNeg)) + 1))))] H := hP
                          have hD : va_D A [(y, .inr (6, [.ref yr, .int mq, .int mn, .ref yw, .ref yc, .int mc, .ref yl, .int me, .ref ys, .ref yp, .ref ym, .int md, .ref yo, .ref yk, .ref yt, .int mz, .ref yi, .ref yz, .ref yx, .ref yu, .int km, .int kr])), (yr, .inl (cI, 7, .inl G)), (yw, .inl (cI, 20, .inl v)), (yk, .inl (cI, 9, .inl (upd g1 ((nI (crI (plK mq v w i1) mo)).toNatClampNeg) ((g1 ((nI (crI (plK mq v w i1) mo)).toNatClampNeg)) + 1))))] := hD
                          refine lv_iinc (v := (nI i1) + 1) (lv' := [(5, .int ((nI i1) + 1)), (0, .ref y), (1, .int w), (2, .int n), (3, .int mo), (4, .int k)]) hx hb dX6_crowded_120 hl (k := 0) rfl (by rfl) (by decide) rfl (fun ls hl => ?_)
                          refine lv_goto (tgt := 96) hx hb dX6_crowded_123 (by decide) ?_
                          exact ih_96 (i1 + 1) (upd g1 ((nI (crI (plK mq v w i1) mo)).toNatClampNeg) ((g1 ((nI (crI (plK mq v w i1) mo)).toNatClampNeg)) + 1)) (by omega) (fun j hj => by rw [nI_clamp (by omega), cr]; by_cases e9 : j = crI (plK mq v w i1) mo; (· rw [e9, pk_us, pk_us, hg _ (by omega)]); (· rw [pk_un e9, pk_un e9]; exact hg j hj)) (by omega) _ (by first | rfl | exact nI_1 _ | exact nI_0.symm) _ _ (hP.sub [0, 1, 2, 3] rfl) (hD.sub [0, 1, 2, 3] (by decide) rfl) hS ls (lv_sub hl [0, 1, 2, 3, 4, 5] rfl)
                    exact loop_96 (n.toNatClampNeg + 1) 0 g (by omega) (fun j hj => hg0 j (by omega)) (by omega) _ (by first | rfl | exact nI_1 _ | exact nI_0.symm) _ _ (hP.sub [0, 1, 2, 3] rfl) (hD.sub [0, 1, 2, 3] (by decide) rfl) hS ls (lv_sub hl [0, 1, 2, 3, 4, 5] rfl)
                  · skip
                    have hiN0 : i < 9 := by rcases Nat.lt_or_ge i 9 with q9 | q9; exact q9; exact absurd (nI_le q9 (by omega)) c_76
                    refine lv_aload_n hx hb dX6_crowded_79 rfl (lv_at hl 1 rfl) ?_
                    refine va_get (D := D) (ci := 6) (v := .ref yk) (C := RX6) (T := TX6) (N := 22) hx hb hts (in_X6_crowded_X6) hown hK hP 0 rfl rfl 13 (by decide) (hts (.fieldLink RX6 38 "StepsRoundCircleModel" "classes" "[I") (by decide +kernel)) (fun _ h9 => h9) rfl dX6_crowded_80 ?_
                    refine lv_iload hx hb dX6_crowded_83 (lv_at hl 0 rfl) ?_
                    refine lv_iconst (v := 0) hx hb dX6_crowded_85 (by decide) ?_
                    refine va_iast hx hb hK hP hD hS 3 0 rfl rfl (vp_in_nI (by omega) (by omega)) dX6_crowded_86 (fun H locs hP hD hS => ?_)
                    have hP : va_P D vwCl [(y, .inr (6, [.ref yr, .int mq, .int mn, .ref yw, .ref yc, .int mc, .ref yl, .int me, .ref ys, .ref yp, .ref ym, .int md, .ref yo, .ref yk, .ref yt, .int mz, .ref yi, .ref yz, .ref yx, .ref yu, .int km, .int kr])), (yr, .inl (cI, 7, .inl G)), (yw, .inl (cI, 20, .inl v)), (yk, .inl (cI, 9, .inl (upd g ((nI i).toNatClampNeg) 0)))] H := hP
                    have hD : va_D A [(y, .inr (6, [.ref yr, .int mq, .int mn, .ref yw, .ref yc, .int mc, .ref yl, .int me, .ref ys, .ref yp, .ref ym, .int md, .ref yo, .ref yk, .ref yt, .int mz, .ref yi, .ref yz, .ref yx, .ref yu, .int km, .int kr])), (yr, .inl (cI, 7, .inl G)), (yw, .inl (cI, 20, .inl v)), (yk, .inl (cI, 9, .inl (upd g ((nI i).toNatClampNeg) 0)))] := hD
                    refine lv_iinc (v := (nI i) + 1) (lv' := [(5, .int ((nI i) + 1)), (0, .ref y), (1, .int w), (2, .int n), (3, .int mo), (4, .int k)]) hx hb dX6_crowded_87 hl (k := 0) rfl (by rfl) (by decide) rfl (fun ls hl => ?_)
                    refine lv_goto (tgt := 72) hx hb dX6_crowded_90 (by decide) ?_
                    exact ih_72 (i + 1) (upd g ((nI i).toNatClampNeg) 0) (by omega) (by intro j hj; rw [nI_clamp (by omega)]; by_cases e9 : j = i; (· subst e9; exact pk_us); (· rw [pk_un e9]; exact hg0 j (by omega))) (by omega) _ (by first | rfl | exact nI_1 _ | exact nI_0.symm) _ _ (hP.sub [0, 1, 2, 3] rfl) (hD.sub [0, 1, 2, 3] (by decide) rfl) hS ls (lv_sub hl [0, 1, 2, 3, 4, 5] rfl)
              exact loop_72 10 0 kf (by omega) (fun j hj => absurd hj (Nat.not_lt_zero j)) (by omega) _ (by first | rfl | exact nI_1 _ | exact nI_0.symm) _ _ (hP.sub [0, 1, 2, 3] rfl) (hD.sub [0, 1, 2, 3] (by decide) rfl) hS ls (lv_sub hl [0, 1, 2, 3, 4, 5] rfl)
            · skip
              have c_59 := bi_eq0.mp c_59
              refine lv_aload_n hx hb dX6_crowded_62 rfl (lv_at hl 0 rfl) ?_
              refine lv_bipush (v := (-2)) hx hb dX6_crowded_63 (by decide) ?_
              refine wrVi (As := [.int (-2)]) (rest := []) (wr := [(yw, .inl (cI, 20, .inl v)), (yk, .inl (cI, 9, .inl kf))]) (A := A) ⟨hx, hb, hml, hown, hts⟩ (c_X6_no l D cI cZ cR y yr yw yc yl ys yp ym yo yk yt yi yz yx yu mq mn mc me md mz km kr G (-2) (by decide) s.heap.size) (cwV 1 hts gX6_crowded_X6_no rfl rfl rfl (by decide +kernel) ⟨Nat.le_of_ble_eq_true rfl, Nat.le_of_ble_eq_true rfl⟩) hK hN hP hD hS hA 0 6 rfl rfl rfl [0, 1] [2, 3] rfl (by decide) rfl (by decide) (by decide) rfl hl.1 rfl (Nat.le_of_ble_eq_true rfl) dX6_crowded_65 ⟨Nat.zero_le _, Nat.zero_le _⟩ (fun r_65 u H locs hw hP hD hS => ?_)
              obtain ⟨G_65, rfl⟩ : ∃ z, z = u := ⟨_, rfl⟩
              try dsimp only at hw
              obtain ⟨q1_65, q2_65⟩ := hw
              have q1_65 := q1_65.symm
              subst q1_65
              have q2_65 := q2_65.symm
              subst q2_65
              have hP : va_P D vwCl [(y, .inr (6, [.ref yr, .int mq, .int mn, .ref yw, .ref yc, .int mc, .ref yl, .int me, .ref ys, .ref yp, .ref ym, .int md, .ref yo, .ref yk, .ref yt, .int mz, .ref yi, .ref yz, .ref yx, .ref yu, .int km, .int kr])), (yr, .inl (cI, 7, .inl (md_bump G (-2)))), (yw, .inl (cI, 20, .inl v)), (yk, .inl (cI, 9, .inl kf))] H := hP.sub [2, 3, 0, 1] rfl
              have hD : va_D A [(y, .inr (6, [.ref yr, .int mq, .int mn, .ref yw, .ref yc, .int mc, .ref yl, .int me, .ref ys, .ref yp, .ref ym, .int md, .ref yo, .ref yk, .ref yt, .int mz, .ref yi, .ref yz, .ref yx, .ref yu, .int km, .int kr])), (yr, .inl (cI, 7, .inl (md_bump G (-2)))), (yw, .inl (cI, 20, .inl v)), (yk, .inl (cI, 9, .inl kf))] := hD.sub [2, 3, 0, 1] (by decide) rfl
              exact wrI (w1 := (fun (u : (Nat → Int32) × (Nat → Int32)) => [(y, .inr (6, [.ref yr, .int mq, .int mn, .ref yw, .ref yc, .int mc, .ref yl, .int me, .ref ys, .ref yp, .ref ym, .int md, .ref yo, .ref yk, .ref yt, .int mz, .ref yi, .ref yz, .ref yx, .ref yu, .int km, .int kr])), (yr, .inl (cI, 7, .inl u.1)), (yw, .inl (cI, 20, .inl v)), (yk, .inl (cI, 9, .inl u.2))])) ((md_bump G (-2)), kf) hx hb hr hlocks dX6_crowded_68 hS (hP.sub [0, 1, 2, 3] rfl) (hD.sub [0, 1, 2, 3] (by decide) rfl) (by have e9 : rf_cro mn w n mo k = -2 := (by unfold rf_cro; rw [if_neg (fun z => z c_5), if_neg c_16, if_neg (Int32.not_lt.mpr c_21), if_neg c_35, if_neg (Int32.not_lt.mpr c_41), if_neg (mt (md_w1 k).mpr c_59)]); simp [e9])
          · skip
            refine lv_aload_n hx hb dX6_crowded_44 rfl (lv_at hl 0 rfl) ?_
            refine lv_bipush (v := (-6)) hx hb dX6_crowded_45 (by decide) ?_
            refine wrVi (As := [.int (-6)]) (rest := []) (wr := [(yw, .inl (cI, 20, .inl v)), (yk, .inl (cI, 9, .inl kf))]) (A := A) ⟨hx, hb, hml, hown, hts⟩ (c_X6_no l D cI cZ cR y yr yw yc yl ys yp ym yo yk yt yi yz yx yu mq mn mc me md mz km kr G (-6) (by decide) s.heap.size) (cwV 1 hts gX6_crowded_X6_no rfl rfl rfl (by decide +kernel) ⟨Nat.le_of_ble_eq_true rfl, Nat.le_of_ble_eq_true rfl⟩) hK hN hP hD hS hA 0 6 rfl rfl rfl [0, 1] [2, 3] rfl (by decide) rfl (by decide) (by decide) rfl hl.1 rfl (Nat.le_of_ble_eq_true rfl) dX6_crowded_47 ⟨Nat.zero_le _, Nat.zero_le _⟩ (fun r_47 u H locs hw hP hD hS => ?_)
            obtain ⟨G_47, rfl⟩ : ∃ z, z = u := ⟨_, rfl⟩
            try dsimp only at hw
            obtain ⟨q1_47, q2_47⟩ := hw
            have q1_47 := q1_47.symm
            subst q1_47
            have q2_47 := q2_47.symm
            subst q2_47
            have hP : va_P D vwCl [(y, .inr (6, [.ref yr, .int mq, .int mn, .ref yw, .ref yc, .int mc, .ref yl, .int me, .ref ys, .ref yp, .ref ym, .int md, .ref yo, .ref yk, .ref yt, .int mz, .ref yi, .ref yz, .ref yx, .ref yu, .int km, .int kr])), (yr, .inl (cI, 7, .inl (md_bump G (-6)))), (yw, .inl (cI, 20, .inl v)), (yk, .inl (cI, 9, .inl kf))] H := hP.sub [2, 3, 0, 1] rfl
            have hD : va_D A [(y, .inr (6, [.ref yr, .int mq, .int mn, .ref yw, .ref yc, .int mc, .ref yl, .int me, .ref ys, .ref yp, .ref ym, .int md, .ref yo, .ref yk, .ref yt, .int mz, .ref yi, .ref yz, .ref yx, .ref yu, .int km, .int kr])), (yr, .inl (cI, 7, .inl (md_bump G (-6)))), (yw, .inl (cI, 20, .inl v)), (yk, .inl (cI, 9, .inl kf))] := hD.sub [2, 3, 0, 1] (by decide) rfl
            exact wrI (w1 := (fun (u : (Nat → Int32) × (Nat → Int32)) => [(y, .inr (6, [.ref yr, .int mq, .int mn, .ref yw, .ref yc, .int mc, .ref yl, .int me, .ref ys, .ref yp, .ref ym, .int md, .ref yo, .ref yk, .ref yt, .int mz, .ref yi, .ref yz, .ref yx, .ref yu, .int km, .int kr])), (yr, .inl (cI, 7, .inl u.1)), (yw, .inl (cI, 20, .inl v)), (yk, .inl (cI, 9, .inl u.2))])) ((md_bump G (-6)), kf) hx hb hr hlocks dX6_crowded_50 hS (hP.sub [0, 1, 2, 3] rfl) (hD.sub [0, 1, 2, 3] (by decide) rfl) (by have e9 : rf_cro mn w n mo k = -6 := (by unfold rf_cro; rw [if_neg (fun z => z c_5), if_neg c_16, if_neg (Int32.not_lt.mpr c_21), if_neg c_35, if_pos (Int32.not_le.mp c_41)]); simp [e9])
      · skip
        refine lv_aload_n hx hb dX6_crowded_24 rfl (lv_at hl 0 rfl) ?_
        refine lv_bipush (v := (-4)) hx hb dX6_crowded_25 (by decide) ?_
        refine wrVi (As := [.int (-4)]) (rest := []) (wr := [(yw, .inl (cI, 20, .inl v)), (yk, .inl (cI, 9, .inl kf))]) (A := A) ⟨hx, hb, hml, hown, hts⟩ (c_X6_no l D cI cZ cR y yr yw yc yl ys yp ym yo yk yt yi yz yx yu mq mn mc me md mz km kr G (-4) (by decide) s.heap.size) (cwV 1 hts gX6_crowded_X6_no rfl rfl rfl (by decide +kernel) ⟨Nat.le_of_ble_eq_true rfl, Nat.le_of_ble_eq_true rfl⟩) hK hN hP hD hS hA 0 6 rfl rfl rfl [0, 1] [2, 3] rfl (by decide) rfl (by decide) (by decide) rfl hl.1 rfl (Nat.le_of_ble_eq_true rfl) dX6_crowded_27 ⟨Nat.zero_le _, Nat.zero_le _⟩ (fun r_27 u H locs hw hP hD hS => ?_)
        obtain ⟨G_27, rfl⟩ : ∃ z, z = u := ⟨_, rfl⟩
        try dsimp only at hw
        obtain ⟨q1_27, q2_27⟩ := hw
        have q1_27 := q1_27.symm
        subst q1_27
        have q2_27 := q2_27.symm
        subst q2_27
        have hP : va_P D vwCl [(y, .inr (6, [.ref yr, .int mq, .int mn, .ref yw, .ref yc, .int mc, .ref yl, .int me, .ref ys, .ref yp, .ref ym, .int md, .ref yo, .ref yk, .ref yt, .int mz, .ref yi, .ref yz, .ref yx, .ref yu, .int km, .int kr])), (yr, .inl (cI, 7, .inl (md_bump G (-4)))), (yw, .inl (cI, 20, .inl v)), (yk, .inl (cI, 9, .inl kf))] H := hP.sub [2, 3, 0, 1] rfl
        have hD : va_D A [(y, .inr (6, [.ref yr, .int mq, .int mn, .ref yw, .ref yc, .int mc, .ref yl, .int me, .ref ys, .ref yp, .ref ym, .int md, .ref yo, .ref yk, .ref yt, .int mz, .ref yi, .ref yz, .ref yx, .ref yu, .int km, .int kr])), (yr, .inl (cI, 7, .inl (md_bump G (-4)))), (yw, .inl (cI, 20, .inl v)), (yk, .inl (cI, 9, .inl kf))] := hD.sub [2, 3, 0, 1] (by decide) rfl
        exact wrI (w1 := (fun (u : (Nat → Int32) × (Nat → Int32)) => [(y, .inr (6, [.ref yr, .int mq, .int mn, .ref yw, .ref yc, .int mc, .ref yl, .int me, .ref ys, .ref yp, .ref ym, .int md, .ref yo, .ref yk, .ref yt, .int mz, .ref yi, .ref yz, .ref yx, .ref yu, .int km, .int kr])), (yr, .inl (cI, 7, .inl u.1)), (yw, .inl (cI, 20, .inl v)), (yk, .inl (cI, 9, .inl u.2))])) ((md_bump G (-4)), kf) hx hb hr hlocks dX6_crowded_30 hS (hP.sub [0, 1, 2, 3] rfl) (hD.sub [0, 1, 2, 3] (by decide) rfl) (by have e9 : rf_cro mn w n mo k = -4 := (by unfold rf_cro; rw [if_neg (fun z => z c_5), if_neg c_16, if_pos (Int32.not_le.mp c_21)]); simp [e9])
  · skip
    have c_5 := bi_eq0.mp c_5
    refine lv_aload_n hx hb dX6_crowded_8 rfl (lv_at hl 0 rfl) ?_
    refine lv_iconst (v := (-1)) hx hb dX6_crowded_9 (by decide) ?_
    refine wrVi (As := [.int (-1)]) (rest := []) (wr := [(yw, .inl (cI, 20, .inl v)), (yk, .inl (cI, 9, .inl kf))]) (A := A) ⟨hx, hb, hml, hown, hts⟩ (c_X6_no l D cI cZ cR y yr yw yc yl ys yp ym yo yk yt yi yz yx yu mq mn mc me md mz km kr G (-1) (by decide) s.heap.size) (cwV 1 hts gX6_crowded_X6_no rfl rfl rfl (by decide +kernel) ⟨Nat.le_of_ble_eq_true rfl, Nat.le_of_ble_eq_true rfl⟩) hK hN hP hD hS hA 0 6 rfl rfl rfl [0, 1] [2, 3] rfl (by decide) rfl (by decide) (by decide) rfl hl.1 rfl (Nat.le_of_ble_eq_true rfl) dX6_crowded_10 ⟨Nat.zero_le _, Nat.zero_le _⟩ (fun r_10 u H locs hw hP hD hS => ?_)
    obtain ⟨G_10, rfl⟩ : ∃ z, z = u := ⟨_, rfl⟩
    try dsimp only at hw
    obtain ⟨q1_10, q2_10⟩ := hw
    have q1_10 := q1_10.symm
    subst q1_10
    have q2_10 := q2_10.symm
    subst q2_10
    have hP : va_P D vwCl [(y, .inr (6, [.ref yr, .int mq, .int mn, .ref yw, .ref yc, .int mc, .ref yl, .int me, .ref ys, .ref yp, .ref ym, .int md, .ref yo, .ref yk, .ref yt, .int mz, .ref yi, .ref yz, .ref yx, .ref yu, .int km, .int kr])), (yr, .inl (cI, 7, .inl (md_bump G (-1)))), (yw, .inl (cI, 20, .inl v)), (yk, .inl (cI, 9, .inl kf))] H := hP.sub [2, 3, 0, 1] rfl
    have hD : va_D A [(y, .inr (6, [.ref yr, .int mq, .int mn, .ref yw, .ref yc, .int mc, .ref yl, .int me, .ref ys, .ref yp, .ref ym, .int md, .ref yo, .ref yk, .ref yt, .int mz, .ref yi, .ref yz, .ref yx, .ref yu, .int km, .int kr])), (yr, .inl (cI, 7, .inl (md_bump G (-1)))), (yw, .inl (cI, 20, .inl v)), (yk, .inl (cI, 9, .inl kf))] := hD.sub [2, 3, 0, 1] (by decide) rfl
    exact wrI (w1 := (fun (u : (Nat → Int32) × (Nat → Int32)) => [(y, .inr (6, [.ref yr, .int mq, .int mn, .ref yw, .ref yc, .int mc, .ref yl, .int me, .ref ys, .ref yp, .ref ym, .int md, .ref yo, .ref yk, .ref yt, .int mz, .ref yi, .ref yz, .ref yx, .ref yu, .int km, .int kr])), (yr, .inl (cI, 7, .inl u.1)), (yw, .inl (cI, 20, .inl v)), (yk, .inl (cI, 9, .inl u.2))])) ((md_bump G (-1)), kf) hx hb hr hlocks dX6_crowded_13 hS (hP.sub [0, 1, 2, 3] rfl) (hD.sub [0, 1, 2, 3] (by decide) rfl) (by have e9 : rf_cro mn w n mo k = -1 := (by unfold rf_cro; rw [if_pos c_5]); simp [e9])
