theorem in_X5_meeting_X5 : ∀ w ∈ wsX50, w ∈ wsX5_meeting := by decide +kernel
theorem in_X5_nearer_X1 : ∀ w ∈ wsX10, w ∈ wsX5_nearer := by decide +kernel
theorem in_X5_nearer_X5 : ∀ w ∈ wsX50, w ∈ wsX5_nearer := by decide +kernel
theorem in_X5_seen_X3 : ∀ w ∈ wsX30, w ∈ wsX5_seen := by decide +kernel
theorem in_X5_seen_X5 : ∀ w ∈ wsX50, w ∈ wsX5_seen := by decide +kernel
theorem in_X5_split_X3 : ∀ w ∈ wsX30, w ∈ wsX5_split := by decide +kernel
theorem in_X5_split_X5 : ∀ w ∈ wsX50, w ∈ wsX5_split := by decide +kernel
set_option maxHeartbeats 4000000 in
set_option maxRecDepth 100000 in
theorem c_X5_seen (l : Launch) (D : va_G) (cI cZ cR : ClassId) (x r t im tx ch ro rf pl ot cl : Nat) (hi : Int32) (F : Nat → Int32) (rn : Nat) (q nw : Int32) (v : Nat → Int32) (pn : Nat) (pz : Int32) (pf : Nat → Int32) (on : Nat) (oz : Int32) (og : Nat → Int32) (w n j : Int32) (sz : Nat) : Met l yX5_seen wsX5_seen ({ frames := 5, cells := 0, slots := 0, locals := 127 }) (PcW D cI cZ cR [.ref x, .int w, .int n, .int j] [(x, .inr (5, [.ref r, .ref t, .ref im, .int hi, .ref tx, .ref ch, .ref ro, .ref rf, .ref pl, .ref ot, .ref cl])), (rf, .inl (cI, 6, .inl F)), (r, .inr (1, [.int q, .int nw, .ref rn])), (rn, .inl (cI, 20, .inl v)), (pl, .inr (3, [.int pz, .ref pn])), (pn, .inl (cI, 200, .inl pf)), (ot, .inr (3, [.int oz, .ref on])), (on, .inl (cI, 200, .inl og))] sz) (va_Qi (fun (res : Int32) (u : (Nat → Int32) × Int32 × (Nat → Int32) × Int32 × (Nat → Int32)) => res = (if rf_nth nw w n j 0 = 0 then seeA q (mk (plK q v w) n.toNatClampNeg) j else rf_nth nw w n j 0) ∧ u.1 = (if rf_nth nw w n j 0 = 0 then F else rf_bump F (rf_nth nw w n j 0))) (Bw D (fun (u : (Nat → Int32) × Int32 × (Nat → Int32) × Int32 × (Nat → Int32)) => [(x, .inr (5, [.ref r, .ref t, .ref im, .int hi, .ref tx, .ref ch, .ref ro, .ref rf, .ref pl, .ref ot, .ref cl])), (rf, .inl (cI, 6, .inl u.1)), (r, .inr (1, [.int q, .int nw, .ref rn])), (rn, .inl (cI, 20, .inl v)), (pl, .inr (3, [.int u.2.1, .ref pn])), (pn, .inl (cI, 200, .inl u.2.2.1)), (ot, .inr (3, [.int u.2.2.2.1, .ref on])), (on, .inl (cI, 200, .inl u.2.2.2.2))]) (va_A [(x, .inr (5, [.ref r, .ref t, .ref im, .int hi, .ref tx, .ref ch, .ref ro, .ref rf, .ref pl, .ref ot, .ref cl])), (rf, .inl (cI, 6, .inl F)), (r, .inr (1, [.int q, .int nw, .ref rn])), (rn, .inl (cI, 20, .inl v)), (pl, .inr (3, [.int pz, .ref pn])), (pn, .inl (cI, 200, .inl pf)), (ot, .inr (3, [.int oz, .ref on])), (on, .inl (cI, 200, .inl og))] sz)) (va_A [(x, .inr (5, [.ref r, .ref t, .ref im, .int hi, .ref tx, .ref ch, .ref ro, .ref rf, .ref pl, .ref ot, .ref cl])), (rf, .inl (cI, 6, .inl F)), (r, .inr (1, [.int q, .int nw, .ref rn])), (rn, .inl (cI, 20, .inl v)), (pl, .inr (3, [.int pz, .ref pn])), (pn, .inl (cI, 200, .inl pf)), (ot, .inr (3, [.int oz, .ref on])), (on, .inl (cI, 200, .inl og))] sz)) 0 0 (va_A [(x, .inr (5, [.ref r, .ref t, .ref im, .int hi, .ref tx, .ref ch, .ref ro, .ref rf, .ref pl, .ref ot, .ref cl])), (rf, .inl (cI, 6, .inl F)), (r, .inr (1, [.int q, .int nw, .ref rn])), (rn, .inl (cI, 20, .inl v)), (pl, .inr (3, [.int pz, .ref pn])), (pn, .inl (cI, 200, .inl pf)), (ot, .inr (3, [.int oz, .ref on])), (on, .inl (cI, 200, .inl og))] sz) := by
  refine Met.ofW (cc := cX5_seen) (maxL := 7) (ret := (some .int)) (by decide) rfl ?_
  intro p e s m args below meth c s₁ B hml hv
  obtain ⟨rfl, hsz, hP, hK, hD0, hN⟩ := hv
  have hx := B.exec
  have hb := B.bytes
  have hr := B.returns
  have hts := atoms_spec (ws := wsX5_seen) B.pre
  have hown : s.vm.findClass RX5 = some m.cls := findClass_of_methodNamed B.named
  have hlocks := B.notSynchronized
  subst hsz
  have hD := hD0.self (sz := s.heap.size)
  generalize hAe : va_A [(x, .inr (5, [.ref r, .ref t, .ref im, .int hi, .ref tx, .ref ch, .ref ro, .ref rf, .ref pl, .ref ot, .ref cl])), (rf, .inl (cI, 6, .inl F)), (r, .inr (1, [.int q, .int nw, .ref rn])), (rn, .inl (cI, 20, .inl v)), (pl, .inr (3, [.int pz, .ref pn])), (pn, .inl (cI, 200, .inl pf)), (ot, .inr (3, [.int oz, .ref on])), (on, .inl (cI, 200, .inl og))] s.heap.size = A at hD ⊢
  have hA : ∀ q : Nat, s.heap.size ≤ q → A q := fun q h => by rw [← hAe]; exact Or.inr h
  have hS : va_S A s.heap s.heap [] := va_S.rf
  have hP : va_P D vwCl [(x, .inr (5, [.ref r, .ref t, .ref im, .int hi, .ref tx, .ref ch, .ref ro, .ref rf, .ref pl, .ref ot, .ref cl])), (rf, .inl (cI, 6, .inl F)), (r, .inr (1, [.int q, .int nw, .ref rn])), (rn, .inl (cI, 20, .inl v)), (pl, .inr (3, [.int pz, .ref pn])), (pn, .inl (cI, 200, .inl pf)), (ot, .inr (3, [.int oz, .ref on])), (on, .inl (cI, 200, .inl og))] s.heap := hP
  have hl := lv_entry ([.ref x, .int w, .int n, .int j]) (n := 7) (Nat.le_of_ble_eq_true rfl)
  rw [lg_entry_eq]
  generalize (lg_sl ([.ref x, .int w, .int n, .int j]) ++ List.replicate (7 - (lg_sl ([.ref x, .int w, .int n, .int j])).length) Slot.unset).toArray = ls at hl ⊢
  have hl : lv_has ls 7 [(0, .ref x), (1, .int w), (2, .int n), (3, .int j)] := hl
  refine lv_aload_n hx hb dX5_seen_0 rfl (lv_at hl 0 rfl) ?_
  refine lv_iload_n hx hb dX5_seen_1 rfl (lv_at hl 1 rfl) ?_
  refine lv_iload_n hx hb dX5_seen_2 rfl (lv_at hl 2 rfl) ?_
  refine lv_iload_n hx hb dX5_seen_3 rfl (lv_at hl 3 rfl) ?_
  refine lv_iconst (v := 0) hx hb dX5_seen_4 (by decide) ?_
  refine rdV (As := [.int w, .int n, .int j, .int 0]) (rest := []) ⟨hx, hb, hml, hown, hts⟩ (c_X5_refusalOfNth l D cI cZ cR x r t im tx ch ro rf pl ot cl hi rn q nw v w n j 0 ) (cwV 4 hts gX5_seen_X5_refusalOfNth rfl rfl rfl (by decide +kernel) ⟨Nat.le_of_ble_eq_true rfl, Nat.le_of_ble_eq_true rfl⟩) hK hN hP 0 5 rfl rfl rfl [0, 2, 3] rfl rfl hl.1 rfl (Nat.le_of_ble_eq_true rfl) dX5_seen_5 ⟨Nat.zero_le _, Nat.zero_le _⟩ ?_
  refine lv_istore (lv' := [(4, .int (rf_nth nw w n j 0)), (0, .ref x), (1, .int w), (2, .int n), (3, .int j)]) hx hb dX5_seen_8 hl (by decide) rfl (fun ls hl => ?_)
  refine lv_iload hx hb dX5_seen_10 (lv_at hl 0 rfl) ?_
  refine lv_if_eq (tgt := 22) hx hb dX5_seen_12 (by decide) (fun c_12 => ?_) (fun c_12 => ?_)
  · skip
    have hok := rf_nth_ok c_12
    have hn := n200 hok.2.1
    have hM0 := mk_ne (pl := plK q v w) (n := n.toNatClampNeg) (by omega)
    refine lv_aload_n hx hb dX5_seen_22 rfl (lv_at hl 1 rfl) ?_
    refine lv_aload_n hx hb dX5_seen_23 rfl (lv_at hl 1 rfl) ?_
    refine va_get (D := D) (ci := 5) (v := .ref pl) (C := RX5) (T := TX5) (N := 11) hx hb hts (in_X5_seen_X5) hown hK hP 0 rfl rfl 8 (by decide) (hts (.fieldLink RX5 53 "StepsRoundCircle" "places" "LStepsRoundCircle$Sorted;") (by decide +kernel)) (fun _ h9 => h9) rfl dX5_seen_24 ?_
    refine lv_iload_n hx hb dX5_seen_27 rfl (lv_at hl 2 rfl) ?_
    refine lv_iload_n hx hb dX5_seen_28 rfl (lv_at hl 3 rfl) ?_
    refine wrVv (As := [.ref pl, .int w, .int n]) (rest := []) (wr := [(rf, .inl (cI, 6, .inl F)), (ot, .inr (3, [.int oz, .ref on])), (on, .inl (cI, 200, .inl og))]) (A := A) ⟨hx, hb, hml, hown, hts⟩ (c_X5_takeMarks l D cI cZ cR x r t im tx ch ro rf pl ot cl hi rn q nw v pl pn pz pf w n hn.2.1 s.heap.size) (cwV 3 hts gX5_seen_X5_takeMarks rfl rfl rfl (by decide +kernel) ⟨Nat.le_of_ble_eq_true rfl, Nat.le_of_ble_eq_true rfl⟩) hK hN hP hD hS hA 0 5 rfl rfl rfl [0, 2, 3, 4, 5] [1, 6, 7] rfl (by decide) rfl (by decide) (by decide) rfl hl.1 rfl (Nat.le_of_ble_eq_true rfl) dX5_seen_29 ⟨Nat.zero_le _, Nat.zero_le _⟩ (fun u H locs hw hP hD hS => ?_)
    obtain ⟨z_29, f_29⟩ := u
    try dsimp only at hw
    have h1_29 := hw
    have hP : va_P D vwCl [(x, .inr (5, [.ref r, .ref t, .ref im, .int hi, .ref tx, .ref ch, .ref ro, .ref rf, .ref pl, .ref ot, .ref cl])), (rf, .inl (cI, 6, .inl F)), (r, .inr (1, [.int q, .int nw, .ref rn])), (rn, .inl (cI, 20, .inl v)), (pl, .inr (3, [.int z_29, .ref pn])), (pn, .inl (cI, 200, .inl f_29)), (ot, .inr (3, [.int oz, .ref on])), (on, .inl (cI, 200, .inl og))] H := hP.sub [3, 0, 4, 5, 6, 7, 1, 2] rfl
    have hD : va_D A [(x, .inr (5, [.ref r, .ref t, .ref im, .int hi, .ref tx, .ref ch, .ref ro, .ref rf, .ref pl, .ref ot, .ref cl])), (rf, .inl (cI, 6, .inl F)), (r, .inr (1, [.int q, .int nw, .ref rn])), (rn, .inl (cI, 20, .inl v)), (pl, .inr (3, [.int z_29, .ref pn])), (pn, .inl (cI, 200, .inl f_29)), (ot, .inr (3, [.int oz, .ref on])), (on, .inl (cI, 200, .inl og))] := hD.sub [3, 0, 4, 5, 6, 7, 1, 2] (by decide) rfl
    have hMl := h1_29.2.1
    refine lv_aload_n hx hb dX5_seen_32 rfl (lv_at hl 1 rfl) ?_
    refine va_get (D := D) (ci := 5) (v := .ref ot) (C := RX5) (T := TX5) (N := 11) hx hb hts (in_X5_seen_X5) hown hK hP 0 rfl rfl 9 (by decide) (hts (.fieldLink RX5 57 "StepsRoundCircle" "others" "LStepsRoundCircle$Sorted;") (by decide +kernel)) (fun _ h9 => h9) rfl dX5_seen_33 ?_
    refine wrVv (As := []) (rest := []) (wr := [(x, .inr (5, [.ref r, .ref t, .ref im, .int hi, .ref tx, .ref ch, .ref ro, .ref rf, .ref pl, .ref ot, .ref cl])), (rf, .inl (cI, 6, .inl F)), (r, .inr (1, [.int q, .int nw, .ref rn])), (rn, .inl (cI, 20, .inl v)), (pl, .inr (3, [.int z_29, .ref pn])), (pn, .inl (cI, 200, .inl f_29))]) (A := A) ⟨hx, hb, hml, hown, hts⟩ (c_X3_clear l D cI cZ cR ot on oz og  H.size) (cwV 0 hts gX5_seen_X3_clear rfl rfl rfl (by decide +kernel) ⟨Nat.le_of_ble_eq_true rfl, Nat.le_of_ble_eq_true rfl⟩) hK hN hP hD hS hA 6 3 rfl rfl rfl [6, 7] [0, 1, 2, 3, 4, 5] rfl (by decide) rfl (by decide) (by decide) rfl hl.1 rfl (Nat.le_of_ble_eq_true rfl) dX5_seen_36 ⟨Nat.zero_le _, Nat.zero_le _⟩ (fun u H locs hw hP hD hS => ?_)
    obtain ⟨z_36, rfl⟩ : ∃ z, z = u := ⟨_, rfl⟩
    try dsimp only at hw
    have q1_36 := hw
    have q1_36 := q1_36.symm
    subst q1_36
    have hP : va_P D vwCl [(x, .inr (5, [.ref r, .ref t, .ref im, .int hi, .ref tx, .ref ch, .ref ro, .ref rf, .ref pl, .ref ot, .ref cl])), (rf, .inl (cI, 6, .inl F)), (r, .inr (1, [.int q, .int nw, .ref rn])), (rn, .inl (cI, 20, .inl v)), (pl, .inr (3, [.int z_29, .ref pn])), (pn, .inl (cI, 200, .inl f_29)), (ot, .inr (3, [.int 0, .ref on])), (on, .inl (cI, 200, .inl og))] H := hP.sub [0, 1, 2, 3, 4, 5, 6, 7] rfl
    have hD : va_D A [(x, .inr (5, [.ref r, .ref t, .ref im, .int hi, .ref tx, .ref ch, .ref ro, .ref rf, .ref pl, .ref ot, .ref cl])), (rf, .inl (cI, 6, .inl F)), (r, .inr (1, [.int q, .int nw, .ref rn])), (rn, .inl (cI, 20, .inl v)), (pl, .inr (3, [.int z_29, .ref pn])), (pn, .inl (cI, 200, .inl f_29)), (ot, .inr (3, [.int 0, .ref on])), (on, .inl (cI, 200, .inl og))] := hD.sub [0, 1, 2, 3, 4, 5, 6, 7] (by decide) rfl
    refine lv_iconst (v := 0) hx hb dX5_seen_39 (by decide) ?_
    refine lv_istore (lv' := [(5, .int 0), (4, .int (rf_nth nw w n j 0)), (0, .ref x), (1, .int w), (2, .int n), (3, .int j)]) hx hb dX5_seen_40 hl (by decide) rfl (fun ls hl => ?_)
    have loop_42 : ∀ (fuel : Nat), ∀ (i : Nat), ∀ (zz : Int32), ∀ (gg : Nat → Int32), (i ≤ (mk (plK q v w) n.toNatClampNeg).length) → (so_rep (mk (gpL q (mk (plK q v w) n.toNatClampNeg)) i) zz gg) → (seeA q (mk (plK q v w) n.toNatClampNeg) j = ff2 (seeP q (mk (plK q v w) n.toNatClampNeg) j) (gpL q (mk (plK q v w) n.toNatClampNeg)) i ((mk (plK q v w) n.toNatClampNeg).length - i)) → ((mk (plK q v w) n.toNatClampNeg).length + 1 ≤ i + fuel) → ∀ (y5 : Int32), y5 = nI i → ∀ (H : Heap) (locs : List Loc), va_P D vwCl [(x, .inr (5, [.ref r, .ref t, .ref im, .int hi, .ref tx, .ref ch, .ref ro, .ref rf, .ref pl, .ref ot, .ref cl])), (rf, .inl (cI, 6, .inl F)), (r, .inr (1, [.int q, .int nw, .ref rn])), (rn, .inl (cI, 20, .inl v)), (pl, .inr (3, [.int z_29, .ref pn])), (pn, .inl (cI, 200, .inl f_29)), (ot, .inr (3, [.int zz, .ref on])), (on, .inl (cI, 200, .inl gg))] H → va_D A [(x, .inr (5, [.ref r, .ref t, .ref im, .int hi, .ref tx, .ref ch, .ref ro, .ref rf, .ref pl, .ref ot, .ref cl])), (rf, .inl (cI, 6, .inl F)), (r, .inr (1, [.int q, .int nw, .ref rn])), (rn, .inl (cI, 20, .inl v)), (pl, .inr (3, [.int z_29, .ref pn])), (pn, .inl (cI, 200, .inl f_29)), (ot, .inr (3, [.int zz, .ref on])), (on, .inl (cI, 200, .inl gg))] → va_S A s.heap H locs → ∀ (ls : Array Slot), lv_has ls 7 [(5, .int y5), (0, .ref x), (1, .int w), (2, .int n), (3, .int j), (4, .int (rf_nth nw w n j 0))] → W p l e (headSpec wsX5_seen ({ frames := 5, cells := 0, slots := 0, locals := 127 })).room s m ([.ref x, .int w, .int n, .int j] : List Value).toArray below meth c H locs 0 0 (MQ below (va_Qi (fun (res : Int32) (u : (Nat → Int32) × Int32 × (Nat → Int32) × Int32 × (Nat → Int32)) => res = (if rf_nth nw w n j 0 = 0 then seeA q (mk (plK q v w) n.toNatClampNeg) j else rf_nth nw w n j 0) ∧ u.1 = (if rf_nth nw w n j 0 = 0 then F else rf_bump F (rf_nth nw w n j 0))) (Bw D (fun (u : (Nat → Int32) × Int32 × (Nat → Int32) × Int32 × (Nat → Int32)) => [(x, .inr (5, [.ref r, .ref t, .ref im, .int hi, .ref tx, .ref ch, .ref ro, .ref rf, .ref pl, .ref ot, .ref cl])), (rf, .inl (cI, 6, .inl u.1)), (r, .inr (1, [.int q, .int nw, .ref rn])), (rn, .inl (cI, 20, .inl v)), (pl, .inr (3, [.int u.2.1, .ref pn])), (pn, .inl (cI, 200, .inl u.2.2.1)), (ot, .inr (3, [.int u.2.2.2.1, .ref on])), (on, .inl (cI, 200, .inl u.2.2.2.2))]) A) A) ([.ref x, .int w, .int n, .int j] : List Value).toArray s 0 0 A) (F0 m 42 ls []) := by
      intro fuel
      induction fuel with
      | zero =>
        intro i zz gg hi9 hrep hinv hfu
        exact False.elim (by omega)
      | succ fuel ih_42 =>
        intro i zz gg hi9 hrep hinv hfu y5 ey5 H locs hP hD hS ls hl
        subst ey5
        refine lv_iload hx hb dX5_seen_42 (lv_at hl 0 rfl) ?_
        refine lv_aload_n hx hb dX5_seen_44 rfl (lv_at hl 1 rfl) ?_
        refine va_get (D := D) (ci := 5) (v := .ref pl) (C := RX5) (T := TX5) (N := 11) hx hb hts (in_X5_seen_X5) hown hK hP 0 rfl rfl 8 (by decide) (hts (.fieldLink RX5 53 "StepsRoundCircle" "places" "LStepsRoundCircle$Sorted;") (by decide +kernel)) (fun _ h9 => h9) rfl dX5_seen_45 ?_
        refine va_get (D := D) (ci := 3) (v := .int z_29) (C := RX3) (T := TX3) (N := 2) hx hb hts (in_X5_seen_X3) hown hK hP 4 rfl rfl 0 (by decide) (hts (.fieldLink RX5 150 "StepsRoundCircle$Sorted" "size" "I") (by decide +kernel)) (fun _ h9 => h9) rfl dX5_seen_48 ?_
        refine lv_topi (fun z_51 hz_51 => ?_)
        have hz_51 : z_51 = nI (mk (plK q v w) n.toNatClampNeg).length := hz_51.trans h1_29.1
        subst hz_51
        refine lv_icmp_ge (tgt := 103) hx hb dX5_seen_51 (by decide) (fun c_51 => ?_) (fun c_51 => ?_)
        · skip
          refine lv_bipush (v := (-9)) hx hb dX5_seen_103 (by decide) ?_
          exact wrI (w1 := (fun (u : (Nat → Int32) × Int32 × (Nat → Int32) × Int32 × (Nat → Int32)) => [(x, .inr (5, [.ref r, .ref t, .ref im, .int hi, .ref tx, .ref ch, .ref ro, .ref rf, .ref pl, .ref ot, .ref cl])), (rf, .inl (cI, 6, .inl u.1)), (r, .inr (1, [.int q, .int nw, .ref rn])), (rn, .inl (cI, 20, .inl v)), (pl, .inr (3, [.int u.2.1, .ref pn])), (pn, .inl (cI, 200, .inl u.2.2.1)), (ot, .inr (3, [.int u.2.2.2.1, .ref on])), (on, .inl (cI, 200, .inl u.2.2.2.2))])) (F, z_29, f_29, zz, gg) hx hb hr hlocks dX5_seen_105 hS (hP.sub [0, 1, 2, 3, 4, 5, 6, 7] rfl) (hD.sub [0, 1, 2, 3, 4, 5, 6, 7] (by decide) rfl) (⟨by rw [if_pos c_12, hinv, show (mk (plK q v w) n.toNatClampNeg).length - i = 0 by have := (nI_leI (by omega) (by omega)).mp c_51; omega]; rfl, by rw [if_pos c_12]⟩)
        · skip
          have hiN : i < (mk (plK q v w) n.toNatClampNeg).length := by rcases Nat.lt_or_ge i (mk (plK q v w) n.toNatClampNeg).length with q9 | q9; exact q9; exact absurd (nI_le q9 (by omega)) c_51
          have hgl := mk_len (gpL q (mk (plK q v w) n.toNatClampNeg)) i
          refine lv_aload_n hx hb dX5_seen_54 rfl (lv_at hl 1 rfl) ?_
          refine lv_iload hx hb dX5_seen_55 (lv_at hl 0 rfl) ?_
          refine rdV (As := [.int (nI i)]) (rest := []) ⟨hx, hb, hml, hown, hts⟩ (c_X5_gapBehind l D cI cZ cR x r t im tx ch ro rf pl ot cl hi rn q nw v pn z_29 f_29 (nI i) ) (cwV 1 hts gX5_seen_X5_gapBehind rfl rfl rfl (by decide +kernel) ⟨Nat.le_of_ble_eq_true rfl, Nat.le_of_ble_eq_true rfl⟩) hK hN hP 0 5 rfl rfl rfl [0, 2, 3, 4, 5] rfl rfl hl.1 rfl (Nat.le_of_ble_eq_true rfl) dX5_seen_57 ⟨Nat.zero_le _, Nat.zero_le _⟩ ?_
          refine lv_topi (fun z_60 hz_60 => ?_)
          have hz_60 : z_60 = gpL q (mk (plK q v w) n.toNatClampNeg) i := hz_60.trans (gp_gpL h1_29 hiN)
          subst hz_60
          refine lv_istore (lv' := [(6, .int (gpL q (mk (plK q v w) n.toNatClampNeg) i)), (5, .int (nI i)), (0, .ref x), (1, .int w), (2, .int n), (3, .int j), (4, .int (rf_nth nw w n j 0))]) hx hb dX5_seen_60 hl (by decide) rfl (fun ls hl => ?_)
          refine lv_aload_n hx hb dX5_seen_62 rfl (lv_at hl 2 rfl) ?_
          refine va_get (D := D) (ci := 5) (v := .ref ot) (C := RX5) (T := TX5) (N := 11) hx hb hts (in_X5_seen_X5) hown hK hP 0 rfl rfl 9 (by decide) (hts (.fieldLink RX5 57 "StepsRoundCircle" "others" "LStepsRoundCircle$Sorted;") (by decide +kernel)) (fun _ h9 => h9) rfl dX5_seen_63 ?_
          refine lv_iload hx hb dX5_seen_66 (lv_at hl 0 rfl) ?_
          refine rdV (As := [.int (gpL q (mk (plK q v w) n.toNatClampNeg) i)]) (rest := []) ⟨hx, hb, hml, hown, hts⟩ (c_X3_has l D cI cZ cR ot on zz gg (mk (gpL q (mk (plK q v w) n.toNatClampNeg)) i) (gpL q (mk (plK q v w) n.toNatClampNeg) i) hrep (so_str_ord (mk_str _ i))) (cwV 1 hts gX5_seen_X3_has rfl rfl rfl (by decide +kernel) ⟨Nat.le_of_ble_eq_true rfl, Nat.le_of_ble_eq_true rfl⟩) hK hN hP 6 3 rfl rfl rfl [6, 7] rfl rfl hl.1 rfl (Nat.le_of_ble_eq_true rfl) dX5_seen_68 ⟨Nat.zero_le _, Nat.zero_le _⟩ ?_
          refine lv_if_ne (tgt := 88) hx hb dX5_seen_71 (by decide) (fun c_71 => ?_) (fun c_71 => ?_)
          · skip
            have c_71 := bi_ne0.mp c_71
            refine lv_aload_n hx hb dX5_seen_88 rfl (lv_at hl 2 rfl) ?_
            refine va_get (D := D) (ci := 5) (v := .ref ot) (C := RX5) (T := TX5) (N := 11) hx hb hts (in_X5_seen_X5) hown hK hP 0 rfl rfl 9 (by decide) (hts (.fieldLink RX5 57 "StepsRoundCircle" "others" "LStepsRoundCircle$Sorted;") (by decide +kernel)) (fun _ h9 => h9) rfl dX5_seen_89 ?_
            refine lv_iload hx hb dX5_seen_92 (lv_at hl 0 rfl) ?_
            refine wrVv (As := [.int (gpL q (mk (plK q v w) n.toNatClampNeg) i)]) (rest := []) (wr := [(x, .inr (5, [.ref r, .ref t, .ref im, .int hi, .ref tx, .ref ch, .ref ro, .ref rf, .ref pl, .ref ot, .ref cl])), (rf, .inl (cI, 6, .inl F)), (r, .inr (1, [.int q, .int nw, .ref rn])), (rn, .inl (cI, 20, .inl v)), (pl, .inr (3, [.int z_29, .ref pn])), (pn, .inl (cI, 200, .inl f_29))]) (A := A) ⟨hx, hb, hml, hown, hts⟩ (c_X3_addOnce l D cI cZ cR ot on zz gg (mk (gpL q (mk (plK q v w) n.toNatClampNeg)) i) (gpL q (mk (plK q v w) n.toNatClampNeg) i) hrep (so_str_ord (mk_str _ i)) (by omega) H.size) (cwV 1 hts gX5_seen_X3_addOnce rfl rfl rfl (by decide +kernel) ⟨Nat.le_of_ble_eq_true rfl, Nat.le_of_ble_eq_true rfl⟩) hK hN hP hD hS hA 6 3 rfl rfl rfl [6, 7] [0, 1, 2, 3, 4, 5] rfl (by decide) rfl (by decide) (by decide) rfl hl.1 rfl (Nat.le_of_ble_eq_true rfl) dX5_seen_94 ⟨Nat.zero_le _, Nat.zero_le _⟩ (fun u H locs hw hP hD hS => ?_)
            obtain ⟨z_94, f_94⟩ := u
            try dsimp only at hw
            have h1_94 := hw
            have hP : va_P D vwCl [(x, .inr (5, [.ref r, .ref t, .ref im, .int hi, .ref tx, .ref ch, .ref ro, .ref rf, .ref pl, .ref ot, .ref cl])), (rf, .inl (cI, 6, .inl F)), (r, .inr (1, [.int q, .int nw, .ref rn])), (rn, .inl (cI, 20, .inl v)), (pl, .inr (3, [.int z_29, .ref pn])), (pn, .inl (cI, 200, .inl f_29)), (ot, .inr (3, [.int z_94, .ref on])), (on, .inl (cI, 200, .inl f_94))] H := hP.sub [0, 1, 2, 3, 4, 5, 6, 7] rfl
            have hD : va_D A [(x, .inr (5, [.ref r, .ref t, .ref im, .int hi, .ref tx, .ref ch, .ref ro, .ref rf, .ref pl, .ref ot, .ref cl])), (rf, .inl (cI, 6, .inl F)), (r, .inr (1, [.int q, .int nw, .ref rn])), (rn, .inl (cI, 20, .inl v)), (pl, .inr (3, [.int z_29, .ref pn])), (pn, .inl (cI, 200, .inl f_29)), (ot, .inr (3, [.int z_94, .ref on])), (on, .inl (cI, 200, .inl f_94))] := hD.sub [0, 1, 2, 3, 4, 5, 6, 7] (by decide) rfl
            refine lv_iinc (v := (nI i) + 1) (lv' := [(5, .int ((nI i) + 1)), (6, .int (gpL q (mk (plK q v w) n.toNatClampNeg) i)), (0, .ref x), (1, .int w), (2, .int n), (3, .int j), (4, .int (rf_nth nw w n j 0))]) hx hb dX5_seen_97 hl (k := 1) rfl (by rfl) (by decide) rfl (fun ls hl => ?_)
            refine lv_goto (tgt := 42) hx hb dX5_seen_100 (by decide) ?_
            exact ih_42 (i + 1) z_94 f_94 (by omega) h1_94 (hinv.trans (ff2_no (fun z9 => (isF_mem.mp c_71) z9.1) (by omega))) (by omega) _ (by first | rfl | exact nI_1 _ | exact nI_0.symm) _ _ (hP.sub [0, 1, 2, 3, 4, 5, 6, 7] rfl) (hD.sub [0, 1, 2, 3, 4, 5, 6, 7] (by decide) rfl) hS ls (lv_sub hl [0, 2, 3, 4, 5, 6] rfl)
          · skip
            have c_71 := bi_eq0.mp c_71
            refine lv_aload_n hx hb dX5_seen_74 rfl (lv_at hl 2 rfl) ?_
            refine va_get (D := D) (ci := 5) (v := .ref ot) (C := RX5) (T := TX5) (N := 11) hx hb hts (in_X5_seen_X5) hown hK hP 0 rfl rfl 9 (by decide) (hts (.fieldLink RX5 57 "StepsRoundCircle" "others" "LStepsRoundCircle$Sorted;") (by decide +kernel)) (fun _ h9 => h9) rfl dX5_seen_75 ?_
            refine va_get (D := D) (ci := 3) (v := .int zz) (C := RX3) (T := TX3) (N := 2) hx hb hts (in_X5_seen_X3) hown hK hP 6 rfl rfl 0 (by decide) (hts (.fieldLink RX5 150 "StepsRoundCircle$Sorted" "size" "I") (by decide +kernel)) (fun _ h9 => h9) rfl dX5_seen_78 ?_
            refine lv_topi (fun z_81 hz_81 => ?_)
            have hz_81 : z_81 = nI (fa_cnt (fun t => decide (isF q (mk (plK q v w) n.toNatClampNeg) t)) i) := hz_81.trans (hrep.1.trans (congrArg nI (isF_cnt q (mk (plK q v w) n.toNatClampNeg) i)))
            subst hz_81
            refine lv_iload_n hx hb dX5_seen_81 rfl (lv_at hl 5 rfl) ?_
            refine lv_icmp_ne (tgt := 88) hx hb dX5_seen_82 (by decide) (fun c_82 => ?_) (fun c_82 => ?_)
            · skip
              refine lv_aload_n hx hb dX5_seen_88 rfl (lv_at hl 2 rfl) ?_
              refine va_get (D := D) (ci := 5) (v := .ref ot) (C := RX5) (T := TX5) (N := 11) hx hb hts (in_X5_seen_X5) hown hK hP 0 rfl rfl 9 (by decide) (hts (.fieldLink RX5 57 "StepsRoundCircle" "others" "LStepsRoundCircle$Sorted;") (by decide +kernel)) (fun _ h9 => h9) rfl dX5_seen_89 ?_
              refine lv_iload hx hb dX5_seen_92 (lv_at hl 0 rfl) ?_
              refine wrVv (As := [.int (gpL q (mk (plK q v w) n.toNatClampNeg) i)]) (rest := []) (wr := [(x, .inr (5, [.ref r, .ref t, .ref im, .int hi, .ref tx, .ref ch, .ref ro, .ref rf, .ref pl, .ref ot, .ref cl])), (rf, .inl (cI, 6, .inl F)), (r, .inr (1, [.int q, .int nw, .ref rn])), (rn, .inl (cI, 20, .inl v)), (pl, .inr (3, [.int z_29, .ref pn])), (pn, .inl (cI, 200, .inl f_29))]) (A := A) ⟨hx, hb, hml, hown, hts⟩ (c_X3_addOnce l D cI cZ cR ot on zz gg (mk (gpL q (mk (plK q v w) n.toNatClampNeg)) i) (gpL q (mk (plK q v w) n.toNatClampNeg) i) hrep (so_str_ord (mk_str _ i)) (by omega) H.size) (cwV 1 hts gX5_seen_X3_addOnce rfl rfl rfl (by decide +kernel) ⟨Nat.le_of_ble_eq_true rfl, Nat.le_of_ble_eq_true rfl⟩) hK hN hP hD hS hA 6 3 rfl rfl rfl [6, 7] [0, 1, 2, 3, 4, 5] rfl (by decide) rfl (by decide) (by decide) rfl hl.1 rfl (Nat.le_of_ble_eq_true rfl) dX5_seen_94 ⟨Nat.zero_le _, Nat.zero_le _⟩ (fun u H locs hw hP hD hS => ?_)
              obtain ⟨z_94, f_94⟩ := u
              try dsimp only at hw
              have h1_94 := hw
              have hP : va_P D vwCl [(x, .inr (5, [.ref r, .ref t, .ref im, .int hi, .ref tx, .ref ch, .ref ro, .ref rf, .ref pl, .ref ot, .ref cl])), (rf, .inl (cI, 6, .inl F)), (r, .inr (1, [.int q, .int nw, .ref rn])), (rn, .inl (cI, 20, .inl v)), (pl, .inr (3, [.int z_29, .ref pn])), (pn, .inl (cI, 200, .inl f_29)), (ot, .inr (3, [.int z_94, .ref on])), (on, .inl (cI, 200, .inl f_94))] H := hP.sub [0, 1, 2, 3, 4, 5, 6, 7] rfl
              have hD : va_D A [(x, .inr (5, [.ref r, .ref t, .ref im, .int hi, .ref tx, .ref ch, .ref ro, .ref rf, .ref pl, .ref ot, .ref cl])), (rf, .inl (cI, 6, .inl F)), (r, .inr (1, [.int q, .int nw, .ref rn])), (rn, .inl (cI, 20, .inl v)), (pl, .inr (3, [.int z_29, .ref pn])), (pn, .inl (cI, 200, .inl f_29)), (ot, .inr (3, [.int z_94, .ref on])), (on, .inl (cI, 200, .inl f_94))] := hD.sub [0, 1, 2, 3, 4, 5, 6, 7] (by decide) rfl
              refine lv_iinc (v := (nI i) + 1) (lv' := [(5, .int ((nI i) + 1)), (6, .int (gpL q (mk (plK q v w) n.toNatClampNeg) i)), (0, .ref x), (1, .int w), (2, .int n), (3, .int j), (4, .int (rf_nth nw w n j 0))]) hx hb dX5_seen_97 hl (k := 1) rfl (by rfl) (by decide) rfl (fun ls hl => ?_)
              refine lv_goto (tgt := 42) hx hb dX5_seen_100 (by decide) ?_
              exact ih_42 (i + 1) z_94 f_94 (by omega) h1_94 (hinv.trans (ff2_no (fun z9 => c_82 z9.2) (by omega))) (by omega) _ (by first | rfl | exact nI_1 _ | exact nI_0.symm) _ _ (hP.sub [0, 1, 2, 3, 4, 5, 6, 7] rfl) (hD.sub [0, 1, 2, 3, 4, 5, 6, 7] (by decide) rfl) hS ls (lv_sub hl [0, 2, 3, 4, 5, 6] rfl)
            · skip
              refine lv_iload hx hb dX5_seen_85 (lv_at hl 0 rfl) ?_
              exact wrI (w1 := (fun (u : (Nat → Int32) × Int32 × (Nat → Int32) × Int32 × (Nat → Int32)) => [(x, .inr (5, [.ref r, .ref t, .ref im, .int hi, .ref tx, .ref ch, .ref ro, .ref rf, .ref pl, .ref ot, .ref cl])), (rf, .inl (cI, 6, .inl u.1)), (r, .inr (1, [.int q, .int nw, .ref rn])), (rn, .inl (cI, 20, .inl v)), (pl, .inr (3, [.int u.2.1, .ref pn])), (pn, .inl (cI, 200, .inl u.2.2.1)), (ot, .inr (3, [.int u.2.2.2.1, .ref on])), (on, .inl (cI, 200, .inl u.2.2.2.2))])) (F, z_29, f_29, zz, gg) hx hb hr hlocks dX5_seen_87 hS (hP.sub [0, 1, 2, 3, 4, 5, 6, 7] rfl) (hD.sub [0, 1, 2, 3, 4, 5, 6, 7] (by decide) rfl) (⟨by rw [if_pos c_12, hinv, ff2_yes ⟨(Classical.not_not.mp (mt isF_mem.mpr c_71)), c_82⟩ (by omega)], by rw [if_pos c_12]⟩)
    exact loop_42 ((mk (plK q v w) n.toNatClampNeg).length + 1) 0 0 og (by omega) ⟨nI_0.symm, Nat.zero_le _, fun j hj => absurd hj (Nat.not_lt_zero j)⟩ rfl (by omega) _ (by first | rfl | exact nI_1 _ | exact nI_0.symm) _ _ (hP.sub [0, 1, 2, 3, 4, 5, 6, 7] rfl) (hD.sub [0, 1, 2, 3, 4, 5, 6, 7] (by decide) rfl) hS ls (lv_sub hl [0, 2, 3, 4, 5, 1] rfl)
  · skip
    refine lv_aload_n hx hb dX5_seen_15 rfl (lv_at hl 1 rfl) ?_
    refine lv_iload hx hb dX5_seen_16 (lv_at hl 0 rfl) ?_
    refine wrVi (As := [.int (rf_nth nw w n j 0)]) (rest := []) (wr := [(r, .inr (1, [.int q, .int nw, .ref rn])), (rn, .inl (cI, 20, .inl v)), (pl, .inr (3, [.int pz, .ref pn])), (pn, .inl (cI, 200, .inl pf)), (ot, .inr (3, [.int oz, .ref on])), (on, .inl (cI, 200, .inl og))]) (A := A) ⟨hx, hb, hml, hown, hts⟩ (c_X5_refuse l D cI cZ cR x r t im tx ch ro rf pl ot cl hi F (rf_nth nw w n j 0)  s.heap.size) (cwV 1 hts gX5_seen_X5_refuse rfl rfl rfl (by decide +kernel) ⟨Nat.le_of_ble_eq_true rfl, Nat.le_of_ble_eq_true rfl⟩) hK hN hP hD hS hA 0 5 rfl rfl rfl [0, 1] [2, 3, 4, 5, 6, 7] rfl (by decide) rfl (by decide) (by decide) rfl hl.1 rfl (Nat.le_of_ble_eq_true rfl) dX5_seen_18 ⟨Nat.zero_le _, Nat.zero_le _⟩ (fun r_18 u H locs hw hP hD hS => ?_)
    obtain ⟨F_18, rfl⟩ : ∃ z, z = u := ⟨_, rfl⟩
    try dsimp only at hw
    obtain ⟨q1_18, q2_18⟩ := hw
    have q1_18 := q1_18.symm
    subst q1_18
    have q2_18 := q2_18.symm
    subst q2_18
    have hP : va_P D vwCl [(x, .inr (5, [.ref r, .ref t, .ref im, .int hi, .ref tx, .ref ch, .ref ro, .ref rf, .ref pl, .ref ot, .ref cl])), (rf, .inl (cI, 6, .inl (rf_bump F (rf_nth nw w n j 0)))), (r, .inr (1, [.int q, .int nw, .ref rn])), (rn, .inl (cI, 20, .inl v)), (pl, .inr (3, [.int pz, .ref pn])), (pn, .inl (cI, 200, .inl pf)), (ot, .inr (3, [.int oz, .ref on])), (on, .inl (cI, 200, .inl og))] H := hP.sub [6, 7, 0, 1, 2, 3, 4, 5] rfl
    have hD : va_D A [(x, .inr (5, [.ref r, .ref t, .ref im, .int hi, .ref tx, .ref ch, .ref ro, .ref rf, .ref pl, .ref ot, .ref cl])), (rf, .inl (cI, 6, .inl (rf_bump F (rf_nth nw w n j 0)))), (r, .inr (1, [.int q, .int nw, .ref rn])), (rn, .inl (cI, 20, .inl v)), (pl, .inr (3, [.int pz, .ref pn])), (pn, .inl (cI, 200, .inl pf)), (ot, .inr (3, [.int oz, .ref on])), (on, .inl (cI, 200, .inl og))] := hD.sub [6, 7, 0, 1, 2, 3, 4, 5] (by decide) rfl
    exact wrI (w1 := (fun (u : (Nat → Int32) × Int32 × (Nat → Int32) × Int32 × (Nat → Int32)) => [(x, .inr (5, [.ref r, .ref t, .ref im, .int hi, .ref tx, .ref ch, .ref ro, .ref rf, .ref pl, .ref ot, .ref cl])), (rf, .inl (cI, 6, .inl u.1)), (r, .inr (1, [.int q, .int nw, .ref rn])), (rn, .inl (cI, 20, .inl v)), (pl, .inr (3, [.int u.2.1, .ref pn])), (pn, .inl (cI, 200, .inl u.2.2.1)), (ot, .inr (3, [.int u.2.2.2.1, .ref on])), (on, .inl (cI, 200, .inl u.2.2.2.2))])) ((rf_bump F (rf_nth nw w n j 0)), pz, pf, oz, og) hx hb hr hlocks dX5_seen_21 hS (hP.sub [0, 1, 2, 3, 4, 5, 6, 7] rfl) (hD.sub [0, 1, 2, 3, 4, 5, 6, 7] (by decide) rfl) (by simp [c_12])

set_option maxHeartbeats 4000000 in
set_option maxRecDepth 100000 in
theorem c_X5_split (l : Launch) (D : va_G) (cI cZ cR : ClassId) (x r t im tx ch ro rf pl ot cl : Nat) (hi : Int32) (F : Nat → Int32) (rn : Nat) (q nw : Int32) (v : Nat → Int32) (pn : Nat) (pz : Int32) (pf : Nat → Int32) (w n k : Int32) (sz : Nat) : Met l yX5_split wsX5_split ({ frames := 5, cells := 0, slots := 0, locals := 127 }) (PcW D cI cZ cR [.ref x, .int w, .int n, .int k] [(x, .inr (5, [.ref r, .ref t, .ref im, .int hi, .ref tx, .ref ch, .ref ro, .ref rf, .ref pl, .ref ot, .ref cl])), (rf, .inl (cI, 6, .inl F)), (r, .inr (1, [.int q, .int nw, .ref rn])), (rn, .inl (cI, 20, .inl v)), (pl, .inr (3, [.int pz, .ref pn])), (pn, .inl (cI, 200, .inl pf))] sz) (va_Qi (fun (res : Int32) (u : (Nat → Int32) × Int32 × (Nat → Int32)) => res = (if rf_beh nw w n k 2 = 0 then splA q (mk (plK q v w) n.toNatClampNeg) (rg_pb q v (rg_val v w 0) w n.toInt64) k else rf_beh nw w n k 2) ∧ u.1 = (if rf_beh nw w n k 2 = 0 then F else rf_bump F (rf_beh nw w n k 2))) (Bw D (fun (u : (Nat → Int32) × Int32 × (Nat → Int32)) => [(x, .inr (5, [.ref r, .ref t, .ref im, .int hi, .ref tx, .ref ch, .ref ro, .ref rf, .ref pl, .ref ot, .ref cl])), (rf, .inl (cI, 6, .inl u.1)), (r, .inr (1, [.int q, .int nw, .ref rn])), (rn, .inl (cI, 20, .inl v)), (pl, .inr (3, [.int u.2.1, .ref pn])), (pn, .inl (cI, 200, .inl u.2.2))]) (va_A [(x, .inr (5, [.ref r, .ref t, .ref im, .int hi, .ref tx, .ref ch, .ref ro, .ref rf, .ref pl, .ref ot, .ref cl])), (rf, .inl (cI, 6, .inl F)), (r, .inr (1, [.int q, .int nw, .ref rn])), (rn, .inl (cI, 20, .inl v)), (pl, .inr (3, [.int pz, .ref pn])), (pn, .inl (cI, 200, .inl pf))] sz)) (va_A [(x, .inr (5, [.ref r, .ref t, .ref im, .int hi, .ref tx, .ref ch, .ref ro, .ref rf, .ref pl, .ref ot, .ref cl])), (rf, .inl (cI, 6, .inl F)), (r, .inr (1, [.int q, .int nw, .ref rn])), (rn, .inl (cI, 20, .inl v)), (pl, .inr (3, [.int pz, .ref pn])), (pn, .inl (cI, 200, .inl pf))] sz)) 0 0 (va_A [(x, .inr (5, [.ref r, .ref t, .ref im, .int hi, .ref tx, .ref ch, .ref ro, .ref rf, .ref pl, .ref ot, .ref cl])), (rf, .inl (cI, 6, .inl F)), (r, .inr (1, [.int q, .int nw, .ref rn])), (rn, .inl (cI, 20, .inl v)), (pl, .inr (3, [.int pz, .ref pn])), (pn, .inl (cI, 200, .inl pf))] sz) := by
  refine Met.ofW (cc := cX5_split) (maxL := 8) (ret := (some .int)) (by decide) rfl ?_
  intro p e s m args below meth c s₁ B hml hv
  obtain ⟨rfl, hsz, hP, hK, hD0, hN⟩ := hv
  have hx := B.exec
  have hb := B.bytes
  have hr := B.returns
  have hts := atoms_spec (ws := wsX5_split) B.pre
  have hown : s.vm.findClass RX5 = some m.cls := findClass_of_methodNamed B.named
  have hlocks := B.notSynchronized
  subst hsz
  have hD := hD0.self (sz := s.heap.size)
  generalize hAe : va_A [(x, .inr (5, [.ref r, .ref t, .ref im, .int hi, .ref tx, .ref ch, .ref ro, .ref rf, .ref pl, .ref ot, .ref cl])), (rf, .inl (cI, 6, .inl F)), (r, .inr (1, [.int q, .int nw, .ref rn])), (rn, .inl (cI, 20, .inl v)), (pl, .inr (3, [.int pz, .ref pn])), (pn, .inl (cI, 200, .inl pf))] s.heap.size = A at hD ⊢
  have hA : ∀ q : Nat, s.heap.size ≤ q → A q := fun q h => by rw [← hAe]; exact Or.inr h
  have hS : va_S A s.heap s.heap [] := va_S.rf
  have hP : va_P D vwCl [(x, .inr (5, [.ref r, .ref t, .ref im, .int hi, .ref tx, .ref ch, .ref ro, .ref rf, .ref pl, .ref ot, .ref cl])), (rf, .inl (cI, 6, .inl F)), (r, .inr (1, [.int q, .int nw, .ref rn])), (rn, .inl (cI, 20, .inl v)), (pl, .inr (3, [.int pz, .ref pn])), (pn, .inl (cI, 200, .inl pf))] s.heap := hP
  have hl := lv_entry ([.ref x, .int w, .int n, .int k]) (n := 8) (Nat.le_of_ble_eq_true rfl)
  rw [lg_entry_eq]
  generalize (lg_sl ([.ref x, .int w, .int n, .int k]) ++ List.replicate (8 - (lg_sl ([.ref x, .int w, .int n, .int k])).length) Slot.unset).toArray = ls at hl ⊢
  have hl : lv_has ls 8 [(0, .ref x), (1, .int w), (2, .int n), (3, .int k)] := hl
  refine lv_aload_n hx hb dX5_split_0 rfl (lv_at hl 0 rfl) ?_
  refine lv_iload_n hx hb dX5_split_1 rfl (lv_at hl 1 rfl) ?_
  refine lv_iload_n hx hb dX5_split_2 rfl (lv_at hl 2 rfl) ?_
  refine lv_iload_n hx hb dX5_split_3 rfl (lv_at hl 3 rfl) ?_
  refine lv_iconst (v := 2) hx hb dX5_split_4 (by decide) ?_
  refine rdV (As := [.int w, .int n, .int k, .int 2]) (rest := []) ⟨hx, hb, hml, hown, hts⟩ (c_X5_refusalBehind l D cI cZ cR x r t im tx ch ro rf pl ot cl hi rn q nw v w n k 2 ) (cwV 4 hts gX5_split_X5_refusalBehind rfl rfl rfl (by decide +kernel) ⟨Nat.le_of_ble_eq_true rfl, Nat.le_of_ble_eq_true rfl⟩) hK hN hP 0 5 rfl rfl rfl [0, 2, 3] rfl rfl hl.1 rfl (Nat.le_of_ble_eq_true rfl) dX5_split_5 ⟨Nat.zero_le _, Nat.zero_le _⟩ ?_
  refine lv_istore (lv' := [(4, .int (rf_beh nw w n k 2)), (0, .ref x), (1, .int w), (2, .int n), (3, .int k)]) hx hb dX5_split_8 hl (by decide) rfl (fun ls hl => ?_)
  refine lv_iload hx hb dX5_split_10 (lv_at hl 0 rfl) ?_
  refine lv_if_eq (tgt := 22) hx hb dX5_split_12 (by decide) (fun c_12 => ?_) (fun c_12 => ?_)
  · skip
    have hok := rf_beh_ok c_12
    have hn := n200 hok.2.1
    have hM0 := mk_ne (pl := plK q v w) (n := n.toNatClampNeg) (by omega)
    refine lv_aload_n hx hb dX5_split_22 rfl (lv_at hl 1 rfl) ?_
    refine lv_aload_n hx hb dX5_split_23 rfl (lv_at hl 1 rfl) ?_
    refine va_get (D := D) (ci := 5) (v := .ref pl) (C := RX5) (T := TX5) (N := 11) hx hb hts (in_X5_split_X5) hown hK hP 0 rfl rfl 8 (by decide) (hts (.fieldLink RX5 53 "StepsRoundCircle" "places" "LStepsRoundCircle$Sorted;") (by decide +kernel)) (fun _ h9 => h9) rfl dX5_split_24 ?_
    refine lv_iload_n hx hb dX5_split_27 rfl (lv_at hl 2 rfl) ?_
    refine lv_iload_n hx hb dX5_split_28 rfl (lv_at hl 3 rfl) ?_
    refine wrVv (As := [.ref pl, .int w, .int n]) (rest := []) (wr := [(rf, .inl (cI, 6, .inl F))]) (A := A) ⟨hx, hb, hml, hown, hts⟩ (c_X5_takeMarks l D cI cZ cR x r t im tx ch ro rf pl ot cl hi rn q nw v pl pn pz pf w n hn.2.1 s.heap.size) (cwV 3 hts gX5_split_X5_takeMarks rfl rfl rfl (by decide +kernel) ⟨Nat.le_of_ble_eq_true rfl, Nat.le_of_ble_eq_true rfl⟩) hK hN hP hD hS hA 0 5 rfl rfl rfl [0, 2, 3, 4, 5] [1] rfl (by decide) rfl (by decide) (by decide) rfl hl.1 rfl (Nat.le_of_ble_eq_true rfl) dX5_split_29 ⟨Nat.zero_le _, Nat.zero_le _⟩ (fun u H locs hw hP hD hS => ?_)
    obtain ⟨z_29, f_29⟩ := u
    try dsimp only at hw
    have h1_29 := hw
    have hP : va_P D vwCl [(x, .inr (5, [.ref r, .ref t, .ref im, .int hi, .ref tx, .ref ch, .ref ro, .ref rf, .ref pl, .ref ot, .ref cl])), (rf, .inl (cI, 6, .inl F)), (r, .inr (1, [.int q, .int nw, .ref rn])), (rn, .inl (cI, 20, .inl v)), (pl, .inr (3, [.int z_29, .ref pn])), (pn, .inl (cI, 200, .inl f_29))] H := hP.sub [1, 0, 2, 3, 4, 5] rfl
    have hD : va_D A [(x, .inr (5, [.ref r, .ref t, .ref im, .int hi, .ref tx, .ref ch, .ref ro, .ref rf, .ref pl, .ref ot, .ref cl])), (rf, .inl (cI, 6, .inl F)), (r, .inr (1, [.int q, .int nw, .ref rn])), (rn, .inl (cI, 20, .inl v)), (pl, .inr (3, [.int z_29, .ref pn])), (pn, .inl (cI, 200, .inl f_29))] := hD.sub [1, 0, 2, 3, 4, 5] (by decide) rfl
    have hMl := h1_29.2.1
    have hcl := so_cnt_le (rg_pb q v (rg_val v w 0) w n.toInt64) (mk (plK q v w) n.toNatClampNeg)
    have hso := so_str_ord (mk_str (plK q v w) n.toNatClampNeg)
    refine lv_aload_n hx hb dX5_split_32 rfl (lv_at hl 1 rfl) ?_
    refine va_get (D := D) (ci := 5) (v := .ref r) (C := RX5) (T := TX5) (N := 11) hx hb hts (in_X5_split_X5) hown hK hP 0 rfl rfl 0 (by decide) (hts (.fieldLink RX5 10 "StepsRoundCircle" "ring" "LStepsRoundCircle$Ring;") (by decide +kernel)) (fun _ h9 => h9) rfl dX5_split_33 ?_
    refine lv_iload_n hx hb dX5_split_36 rfl (lv_at hl 2 rfl) ?_
    refine lv_iload_n hx hb dX5_split_37 rfl (lv_at hl 3 rfl) ?_
    refine rdV (As := [.int w, .int n]) (rest := []) ⟨hx, hb, hml, hown, hts⟩ (c_X1_placeOf l D cI cZ cR r rn q nw v w n ) (cwV 2 hts gX5_split_X1_placeOf rfl rfl rfl (by decide +kernel) ⟨Nat.le_of_ble_eq_true rfl, Nat.le_of_ble_eq_true rfl⟩) hK hN hP 2 1 rfl rfl rfl [2, 3] rfl rfl hl.1 rfl (Nat.le_of_ble_eq_true rfl) dX5_split_38 ⟨Nat.zero_le _, Nat.zero_le _⟩ ?_
    refine lv_istore (lv' := [(5, .int (rg_pb q v (rg_val v w 0) w n.toInt64)), (4, .int (rf_beh nw w n k 2)), (0, .ref x), (1, .int w), (2, .int n), (3, .int k)]) hx hb dX5_split_41 hl (by decide) rfl (fun ls hl => ?_)
    refine lv_aload_n hx hb dX5_split_43 rfl (lv_at hl 2 rfl) ?_
    refine va_get (D := D) (ci := 5) (v := .ref pl) (C := RX5) (T := TX5) (N := 11) hx hb hts (in_X5_split_X5) hown hK hP 0 rfl rfl 8 (by decide) (hts (.fieldLink RX5 53 "StepsRoundCircle" "places" "LStepsRoundCircle$Sorted;") (by decide +kernel)) (fun _ h9 => h9) rfl dX5_split_44 ?_
    refine lv_iload hx hb dX5_split_47 (lv_at hl 0 rfl) ?_
    refine rdV (As := [.int (rg_pb q v (rg_val v w 0) w n.toInt64)]) (rest := []) ⟨hx, hb, hml, hown, hts⟩ (c_X3_has l D cI cZ cR pl pn z_29 f_29 (mk (plK q v w) n.toNatClampNeg) (rg_pb q v (rg_val v w 0) w n.toInt64) h1_29 hso) (cwV 1 hts gX5_split_X3_has rfl rfl rfl (by decide +kernel) ⟨Nat.le_of_ble_eq_true rfl, Nat.le_of_ble_eq_true rfl⟩) hK hN hP 4 3 rfl rfl rfl [4, 5] rfl rfl hl.1 rfl (Nat.le_of_ble_eq_true rfl) dX5_split_49 ⟨Nat.zero_le _, Nat.zero_le _⟩ ?_
    refine lv_if_eq (tgt := 58) hx hb dX5_split_52 (by decide) (fun c_52 => ?_) (fun c_52 => ?_)
    · skip
      have c_52 := bi_eq0.mp c_52
      refine lv_aload_n hx hb dX5_split_58 rfl (lv_at hl 2 rfl) ?_
      refine va_get (D := D) (ci := 5) (v := .ref pl) (C := RX5) (T := TX5) (N := 11) hx hb hts (in_X5_split_X5) hown hK hP 0 rfl rfl 8 (by decide) (hts (.fieldLink RX5 53 "StepsRoundCircle" "places" "LStepsRoundCircle$Sorted;") (by decide +kernel)) (fun _ h9 => h9) rfl dX5_split_59 ?_
      refine lv_iload hx hb dX5_split_62 (lv_at hl 0 rfl) ?_
      refine rdV (As := [.int (rg_pb q v (rg_val v w 0) w n.toInt64)]) (rest := []) ⟨hx, hb, hml, hown, hts⟩ (c_X3_howManyBelow l D cI cZ cR pl pn z_29 f_29 (mk (plK q v w) n.toNatClampNeg) (rg_pb q v (rg_val v w 0) w n.toInt64) h1_29 hso) (cwV 1 hts gX5_split_X3_howManyBelow rfl rfl rfl (by decide +kernel) ⟨Nat.le_of_ble_eq_true rfl, Nat.le_of_ble_eq_true rfl⟩) hK hN hP 4 3 rfl rfl rfl [4, 5] rfl rfl hl.1 rfl (Nat.le_of_ble_eq_true rfl) dX5_split_64 ⟨Nat.zero_le _, Nat.zero_le _⟩ ?_
      refine lv_istore (lv' := [(6, .int (nI (so_cnt (rg_pb q v (rg_val v w 0) w n.toInt64) (mk (plK q v w) n.toNatClampNeg)))), (5, .int (rg_pb q v (rg_val v w 0) w n.toInt64)), (4, .int (rf_beh nw w n k 2)), (0, .ref x), (1, .int w), (2, .int n), (3, .int k)]) hx hb dX5_split_67 hl (by decide) rfl (fun ls hl => ?_)
      refine lv_aload_n hx hb dX5_split_69 rfl (lv_at hl 3 rfl) ?_
      refine va_get (D := D) (ci := 5) (v := .ref pl) (C := RX5) (T := TX5) (N := 11) hx hb hts (in_X5_split_X5) hown hK hP 0 rfl rfl 8 (by decide) (hts (.fieldLink RX5 53 "StepsRoundCircle" "places" "LStepsRoundCircle$Sorted;") (by decide +kernel)) (fun _ h9 => h9) rfl dX5_split_70 ?_
      refine lv_iload hx hb dX5_split_73 (lv_at hl 0 rfl) ?_
      refine lv_if_le (tgt := 85) hx hb dX5_split_75 (by decide) (fun c_75 => ?_) (fun c_75 => ?_)
      · skip
        refine lv_aload_n hx hb dX5_split_85 rfl (lv_at hl 3 rfl) ?_
        refine va_get (D := D) (ci := 5) (v := .ref pl) (C := RX5) (T := TX5) (N := 11) hx hb hts (in_X5_split_X5) hown hK hP 0 rfl rfl 8 (by decide) (hts (.fieldLink RX5 53 "StepsRoundCircle" "places" "LStepsRoundCircle$Sorted;") (by decide +kernel)) (fun _ h9 => h9) rfl dX5_split_86 ?_
        refine va_get (D := D) (ci := 3) (v := .int z_29) (C := RX3) (T := TX3) (N := 2) hx hb hts (in_X5_split_X3) hown hK hP 4 rfl rfl 0 (by decide) (hts (.fieldLink RX5 150 "StepsRoundCircle$Sorted" "size" "I") (by decide +kernel)) (fun _ h9 => h9) rfl dX5_split_89 ?_
        refine lv_iconst (v := 1) hx hb dX5_split_92 (by decide) ?_
        refine lv_isub hx hb dX5_split_93 ?_
        refine lv_topi (fun z_94 hz_94 => ?_)
        have hz_94 : z_94 = nI (if (so_cnt (rg_pb q v (rg_val v w 0) w n.toInt64) (mk (plK q v w) n.toNatClampNeg)) = 0 then (mk (plK q v w) n.toNatClampNeg).length - 1 else (so_cnt (rg_pb q v (rg_val v w 0) w n.toInt64) (mk (plK q v w) n.toNatClampNeg)) - 1) := hz_94.trans (by have e9 : (so_cnt (rg_pb q v (rg_val v w 0) w n.toInt64) (mk (plK q v w) n.toNatClampNeg)) = 0 := (by have := (nI_leI (a := (so_cnt (rg_pb q v (rg_val v w 0) w n.toInt64) (mk (plK q v w) n.toNatClampNeg))) (b := 0) (by omega) (by omega)).mp c_75; omega); rw [if_pos e9, h1_29.1]; exact pk_sub (b := 1) hM0)
        subst hz_94
        have hix : (if (so_cnt (rg_pb q v (rg_val v w 0) w n.toInt64) (mk (plK q v w) n.toNatClampNeg)) = 0 then (mk (plK q v w) n.toNatClampNeg).length - 1 else (so_cnt (rg_pb q v (rg_val v w 0) w n.toInt64) (mk (plK q v w) n.toNatClampNeg)) - 1) < (mk (plK q v w) n.toNatClampNeg).length := by split <;> omega
        refine rdV (As := [.int (nI (if (so_cnt (rg_pb q v (rg_val v w 0) w n.toInt64) (mk (plK q v w) n.toNatClampNeg)) = 0 then (mk (plK q v w) n.toNatClampNeg).length - 1 else (so_cnt (rg_pb q v (rg_val v w 0) w n.toInt64) (mk (plK q v w) n.toNatClampNeg)) - 1))]) (rest := []) ⟨hx, hb, hml, hown, hts⟩ (c_X3_get l D cI cZ cR pl pn z_29 f_29 (nI (if (so_cnt (rg_pb q v (rg_val v w 0) w n.toInt64) (mk (plK q v w) n.toNatClampNeg)) = 0 then (mk (plK q v w) n.toNatClampNeg).length - 1 else (so_cnt (rg_pb q v (rg_val v w 0) w n.toInt64) (mk (plK q v w) n.toNatClampNeg)) - 1)) ) (cwV 1 hts gX5_split_X3_get rfl rfl rfl (by decide +kernel) ⟨Nat.le_of_ble_eq_true rfl, Nat.le_of_ble_eq_true rfl⟩) hK hN hP 4 3 rfl rfl rfl [4, 5] rfl rfl hl.1 rfl (Nat.le_of_ble_eq_true rfl) dX5_split_94 ⟨Nat.zero_le _, Nat.zero_le _⟩ ?_
        refine lv_topi (fun z_97 hz_97 => ?_)
        have hz_97 : z_97 = (mk (plK q v w) n.toNatClampNeg).getD (if (so_cnt (rg_pb q v (rg_val v w 0) w n.toInt64) (mk (plK q v w) n.toNatClampNeg)) = 0 then (mk (plK q v w) n.toNatClampNeg).length - 1 else (so_cnt (rg_pb q v (rg_val v w 0) w n.toInt64) (mk (plK q v w) n.toNatClampNeg)) - 1) 0 := hz_97.trans (so_get_rep h1_29 hix)
        subst hz_97
        refine lv_istore (lv' := [(7, .int ((mk (plK q v w) n.toNatClampNeg).getD (if (so_cnt (rg_pb q v (rg_val v w 0) w n.toInt64) (mk (plK q v w) n.toNatClampNeg)) = 0 then (mk (plK q v w) n.toNatClampNeg).length - 1 else (so_cnt (rg_pb q v (rg_val v w 0) w n.toInt64) (mk (plK q v w) n.toNatClampNeg)) - 1) 0)), (6, .int (nI (so_cnt (rg_pb q v (rg_val v w 0) w n.toInt64) (mk (plK q v w) n.toNatClampNeg)))), (5, .int (rg_pb q v (rg_val v w 0) w n.toInt64)), (4, .int (rf_beh nw w n k 2)), (0, .ref x), (1, .int w), (2, .int n), (3, .int k)]) hx hb dX5_split_97 hl (by decide) rfl (fun ls hl => ?_)
        refine lv_iload_n hx hb dX5_split_99 rfl (lv_at hl 7 rfl) ?_
        refine lv_if_ne (tgt := 108) hx hb dX5_split_100 (by decide) (fun c_100 => ?_) (fun c_100 => ?_)
        · skip
          refine lv_aload_n hx hb dX5_split_108 rfl (lv_at hl 4 rfl) ?_
          refine va_get (D := D) (ci := 5) (v := .ref r) (C := RX5) (T := TX5) (N := 11) hx hb hts (in_X5_split_X5) hown hK hP 0 rfl rfl 0 (by decide) (hts (.fieldLink RX5 10 "StepsRoundCircle" "ring" "LStepsRoundCircle$Ring;") (by decide +kernel)) (fun _ h9 => h9) rfl dX5_split_109 ?_
          refine lv_iload hx hb dX5_split_112 (lv_at hl 2 rfl) ?_
          refine lv_iload hx hb dX5_split_114 (lv_at hl 0 rfl) ?_
          refine lv_isub hx hb dX5_split_116 ?_
          refine lv_i2l hx hb dX5_split_117 rfl ?_
          refine rdV (As := [.long (((rg_pb q v (rg_val v w 0) w n.toInt64) - ((mk (plK q v w) n.toNatClampNeg).getD (if (so_cnt (rg_pb q v (rg_val v w 0) w n.toInt64) (mk (plK q v w) n.toNatClampNeg)) = 0 then (mk (plK q v w) n.toNatClampNeg).length - 1 else (so_cnt (rg_pb q v (rg_val v w 0) w n.toInt64) (mk (plK q v w) n.toNatClampNeg)) - 1) 0)).toInt64)]) (rest := []) ⟨hx, hb, hml, hown, hts⟩ (c_X1_around l D cI cZ cR r rn q nw v (((rg_pb q v (rg_val v w 0) w n.toInt64) - ((mk (plK q v w) n.toNatClampNeg).getD (if (so_cnt (rg_pb q v (rg_val v w 0) w n.toInt64) (mk (plK q v w) n.toNatClampNeg)) = 0 then (mk (plK q v w) n.toNatClampNeg).length - 1 else (so_cnt (rg_pb q v (rg_val v w 0) w n.toInt64) (mk (plK q v w) n.toNatClampNeg)) - 1) 0)).toInt64) ) (cwV 1 hts gX5_split_X1_around rfl rfl rfl (by decide +kernel) ⟨Nat.le_of_ble_eq_true rfl, Nat.le_of_ble_eq_true rfl⟩) hK hN hP 2 1 rfl rfl rfl [2, 3] rfl rfl hl.1 rfl (Nat.le_of_ble_eq_true rfl) dX5_split_118 ⟨Nat.zero_le _, Nat.zero_le _⟩ ?_
          exact wrI (w1 := (fun (u : (Nat → Int32) × Int32 × (Nat → Int32)) => [(x, .inr (5, [.ref r, .ref t, .ref im, .int hi, .ref tx, .ref ch, .ref ro, .ref rf, .ref pl, .ref ot, .ref cl])), (rf, .inl (cI, 6, .inl u.1)), (r, .inr (1, [.int q, .int nw, .ref rn])), (rn, .inl (cI, 20, .inl v)), (pl, .inr (3, [.int u.2.1, .ref pn])), (pn, .inl (cI, 200, .inl u.2.2))])) (F, z_29, f_29) hx hb hr hlocks dX5_split_121 hS (hP.sub [0, 1, 2, 3, 4, 5] rfl) (hD.sub [0, 1, 2, 3, 4, 5] (by decide) rfl) (⟨by rw [if_pos c_12]; unfold splA; rw [if_neg c_52, if_neg c_100], by rw [if_pos c_12]⟩)
        · skip
          refine lv_iload hx hb dX5_split_103 (lv_at hl 0 rfl) ?_
          refine lv_goto (tgt := 121) hx hb dX5_split_105 (by decide) ?_
          exact wrI (w1 := (fun (u : (Nat → Int32) × Int32 × (Nat → Int32)) => [(x, .inr (5, [.ref r, .ref t, .ref im, .int hi, .ref tx, .ref ch, .ref ro, .ref rf, .ref pl, .ref ot, .ref cl])), (rf, .inl (cI, 6, .inl u.1)), (r, .inr (1, [.int q, .int nw, .ref rn])), (rn, .inl (cI, 20, .inl v)), (pl, .inr (3, [.int u.2.1, .ref pn])), (pn, .inl (cI, 200, .inl u.2.2))])) (F, z_29, f_29) hx hb hr hlocks dX5_split_121 hS (hP.sub [0, 1, 2, 3, 4, 5] rfl) (hD.sub [0, 1, 2, 3, 4, 5] (by decide) rfl) (⟨by rw [if_pos c_12]; unfold splA; rw [if_neg c_52, if_pos c_100], by rw [if_pos c_12]⟩)
      · skip
        refine lv_iload hx hb dX5_split_78 (lv_at hl 0 rfl) ?_
        refine lv_iconst (v := 1) hx hb dX5_split_80 (by decide) ?_
        refine lv_isub hx hb dX5_split_81 ?_
        refine lv_goto (tgt := 94) hx hb dX5_split_82 (by decide) ?_
        refine lv_topi (fun z_94 hz_94 => ?_)
        have hz_94 : z_94 = nI (if (so_cnt (rg_pb q v (rg_val v w 0) w n.toInt64) (mk (plK q v w) n.toNatClampNeg)) = 0 then (mk (plK q v w) n.toNatClampNeg).length - 1 else (so_cnt (rg_pb q v (rg_val v w 0) w n.toInt64) (mk (plK q v w) n.toNatClampNeg)) - 1) := hz_94.trans (by have e9 : ¬ (so_cnt (rg_pb q v (rg_val v w 0) w n.toInt64) (mk (plK q v w) n.toNatClampNeg)) = 0 := (fun z9 => c_75 (by rw [z9]; exact nI_0 ▸ (Int32.le_refl _))); rw [if_neg e9]; exact pk_sub (b := 1) (by omega))
        subst hz_94
        have hix : (if (so_cnt (rg_pb q v (rg_val v w 0) w n.toInt64) (mk (plK q v w) n.toNatClampNeg)) = 0 then (mk (plK q v w) n.toNatClampNeg).length - 1 else (so_cnt (rg_pb q v (rg_val v w 0) w n.toInt64) (mk (plK q v w) n.toNatClampNeg)) - 1) < (mk (plK q v w) n.toNatClampNeg).length := by split <;> omega
        refine rdV (As := [.int (nI (if (so_cnt (rg_pb q v (rg_val v w 0) w n.toInt64) (mk (plK q v w) n.toNatClampNeg)) = 0 then (mk (plK q v w) n.toNatClampNeg).length - 1 else (so_cnt (rg_pb q v (rg_val v w 0) w n.toInt64) (mk (plK q v w) n.toNatClampNeg)) - 1))]) (rest := []) ⟨hx, hb, hml, hown, hts⟩ (c_X3_get l D cI cZ cR pl pn z_29 f_29 (nI (if (so_cnt (rg_pb q v (rg_val v w 0) w n.toInt64) (mk (plK q v w) n.toNatClampNeg)) = 0 then (mk (plK q v w) n.toNatClampNeg).length - 1 else (so_cnt (rg_pb q v (rg_val v w 0) w n.toInt64) (mk (plK q v w) n.toNatClampNeg)) - 1)) ) (cwV 1 hts gX5_split_X3_get rfl rfl rfl (by decide +kernel) ⟨Nat.le_of_ble_eq_true rfl, Nat.le_of_ble_eq_true rfl⟩) hK hN hP 4 3 rfl rfl rfl [4, 5] rfl rfl hl.1 rfl (Nat.le_of_ble_eq_true rfl) dX5_split_94 ⟨Nat.zero_le _, Nat.zero_le _⟩ ?_
        refine lv_topi (fun z_97 hz_97 => ?_)
        have hz_97 : z_97 = (mk (plK q v w) n.toNatClampNeg).getD (if (so_cnt (rg_pb q v (rg_val v w 0) w n.toInt64) (mk (plK q v w) n.toNatClampNeg)) = 0 then (mk (plK q v w) n.toNatClampNeg).length - 1 else (so_cnt (rg_pb q v (rg_val v w 0) w n.toInt64) (mk (plK q v w) n.toNatClampNeg)) - 1) 0 := hz_97.trans (so_get_rep h1_29 hix)
        subst hz_97
        refine lv_istore (lv' := [(7, .int ((mk (plK q v w) n.toNatClampNeg).getD (if (so_cnt (rg_pb q v (rg_val v w 0) w n.toInt64) (mk (plK q v w) n.toNatClampNeg)) = 0 then (mk (plK q v w) n.toNatClampNeg).length - 1 else (so_cnt (rg_pb q v (rg_val v w 0) w n.toInt64) (mk (plK q v w) n.toNatClampNeg)) - 1) 0)), (6, .int (nI (so_cnt (rg_pb q v (rg_val v w 0) w n.toInt64) (mk (plK q v w) n.toNatClampNeg)))), (5, .int (rg_pb q v (rg_val v w 0) w n.toInt64)), (4, .int (rf_beh nw w n k 2)), (0, .ref x), (1, .int w), (2, .int n), (3, .int k)]) hx hb dX5_split_97 hl (by decide) rfl (fun ls hl => ?_)
        refine lv_iload_n hx hb dX5_split_99 rfl (lv_at hl 7 rfl) ?_
        refine lv_if_ne (tgt := 108) hx hb dX5_split_100 (by decide) (fun c_100 => ?_) (fun c_100 => ?_)
        · skip
          refine lv_aload_n hx hb dX5_split_108 rfl (lv_at hl 4 rfl) ?_
          refine va_get (D := D) (ci := 5) (v := .ref r) (C := RX5) (T := TX5) (N := 11) hx hb hts (in_X5_split_X5) hown hK hP 0 rfl rfl 0 (by decide) (hts (.fieldLink RX5 10 "StepsRoundCircle" "ring" "LStepsRoundCircle$Ring;") (by decide +kernel)) (fun _ h9 => h9) rfl dX5_split_109 ?_
          refine lv_iload hx hb dX5_split_112 (lv_at hl 2 rfl) ?_
          refine lv_iload hx hb dX5_split_114 (lv_at hl 0 rfl) ?_
          refine lv_isub hx hb dX5_split_116 ?_
          refine lv_i2l hx hb dX5_split_117 rfl ?_
          refine rdV (As := [.long (((rg_pb q v (rg_val v w 0) w n.toInt64) - ((mk (plK q v w) n.toNatClampNeg).getD (if (so_cnt (rg_pb q v (rg_val v w 0) w n.toInt64) (mk (plK q v w) n.toNatClampNeg)) = 0 then (mk (plK q v w) n.toNatClampNeg).length - 1 else (so_cnt (rg_pb q v (rg_val v w 0) w n.toInt64) (mk (plK q v w) n.toNatClampNeg)) - 1) 0)).toInt64)]) (rest := []) ⟨hx, hb, hml, hown, hts⟩ (c_X1_around l D cI cZ cR r rn q nw v (((rg_pb q v (rg_val v w 0) w n.toInt64) - ((mk (plK q v w) n.toNatClampNeg).getD (if (so_cnt (rg_pb q v (rg_val v w 0) w n.toInt64) (mk (plK q v w) n.toNatClampNeg)) = 0 then (mk (plK q v w) n.toNatClampNeg).length - 1 else (so_cnt (rg_pb q v (rg_val v w 0) w n.toInt64) (mk (plK q v w) n.toNatClampNeg)) - 1) 0)).toInt64) ) (cwV 1 hts gX5_split_X1_around rfl rfl rfl (by decide +kernel) ⟨Nat.le_of_ble_eq_true rfl, Nat.le_of_ble_eq_true rfl⟩) hK hN hP 2 1 rfl rfl rfl [2, 3] rfl rfl hl.1 rfl (Nat.le_of_ble_eq_true rfl) dX5_split_118 ⟨Nat.zero_le _, Nat.zero_le _⟩ ?_
          exact wrI (w1 := (fun (u : (Nat → Int32) × Int32 × (Nat → Int32)) => [(x, .inr (5, [.ref r, .ref t, .ref im, .int hi, .ref tx, .ref ch, .ref ro, .ref rf, .ref pl, .ref ot, .ref cl])), (rf, .inl (cI, 6, .inl u.1)), (r, .inr (1, [.int q, .int nw, .ref rn])), (rn, .inl (cI, 20, .inl v)), (pl, .inr (3, [.int u.2.1, .ref pn])), (pn, .inl (cI, 200, .inl u.2.2))])) (F, z_29, f_29) hx hb hr hlocks dX5_split_121 hS (hP.sub [0, 1, 2, 3, 4, 5] rfl) (hD.sub [0, 1, 2, 3, 4, 5] (by decide) rfl) (⟨by rw [if_pos c_12]; unfold splA; rw [if_neg c_52, if_neg c_100], by rw [if_pos c_12]⟩)
        · skip
          refine lv_iload hx hb dX5_split_103 (lv_at hl 0 rfl) ?_
          refine lv_goto (tgt := 121) hx hb dX5_split_105 (by decide) ?_
          exact wrI (w1 := (fun (u : (Nat → Int32) × Int32 × (Nat → Int32)) => [(x, .inr (5, [.ref r, .ref t, .ref im, .int hi, .ref tx, .ref ch, .ref ro, .ref rf, .ref pl, .ref ot, .ref cl])), (rf, .inl (cI, 6, .inl u.1)), (r, .inr (1, [.int q, .int nw, .ref rn])), (rn, .inl (cI, 20, .inl v)), (pl, .inr (3, [.int u.2.1, .ref pn])), (pn, .inl (cI, 200, .inl u.2.2))])) (F, z_29, f_29) hx hb hr hlocks dX5_split_121 hS (hP.sub [0, 1, 2, 3, 4, 5] rfl) (hD.sub [0, 1, 2, 3, 4, 5] (by decide) rfl) (⟨by rw [if_pos c_12]; unfold splA; rw [if_neg c_52, if_pos c_100], by rw [if_pos c_12]⟩)
    · skip
      have c_52 := bi_ne0.mp c_52
      refine lv_bipush (v := (-9)) hx hb dX5_split_55 (by decide) ?_
      exact wrI (w1 := (fun (u : (Nat → Int32) × Int32 × (Nat → Int32)) => [(x, .inr (5, [.ref r, .ref t, .ref im, .int hi, .ref tx, .ref ch, .ref ro, .ref rf, .ref pl, .ref ot, .ref cl])), (rf, .inl (cI, 6, .inl u.1)), (r, .inr (1, [.int q, .int nw, .ref rn])), (rn, .inl (cI, 20, .inl v)), (pl, .inr (3, [.int u.2.1, .ref pn])), (pn, .inl (cI, 200, .inl u.2.2))])) (F, z_29, f_29) hx hb hr hlocks dX5_split_57 hS (hP.sub [0, 1, 2, 3, 4, 5] rfl) (hD.sub [0, 1, 2, 3, 4, 5] (by decide) rfl) (⟨by rw [if_pos c_12]; unfold splA; rw [if_pos c_52], by rw [if_pos c_12]⟩)
  · skip
    refine lv_aload_n hx hb dX5_split_15 rfl (lv_at hl 1 rfl) ?_
    refine lv_iload hx hb dX5_split_16 (lv_at hl 0 rfl) ?_
    refine wrVi (As := [.int (rf_beh nw w n k 2)]) (rest := []) (wr := [(r, .inr (1, [.int q, .int nw, .ref rn])), (rn, .inl (cI, 20, .inl v)), (pl, .inr (3, [.int pz, .ref pn])), (pn, .inl (cI, 200, .inl pf))]) (A := A) ⟨hx, hb, hml, hown, hts⟩ (c_X5_refuse l D cI cZ cR x r t im tx ch ro rf pl ot cl hi F (rf_beh nw w n k 2)  s.heap.size) (cwV 1 hts gX5_split_X5_refuse rfl rfl rfl (by decide +kernel) ⟨Nat.le_of_ble_eq_true rfl, Nat.le_of_ble_eq_true rfl⟩) hK hN hP hD hS hA 0 5 rfl rfl rfl [0, 1] [2, 3, 4, 5] rfl (by decide) rfl (by decide) (by decide) rfl hl.1 rfl (Nat.le_of_ble_eq_true rfl) dX5_split_18 ⟨Nat.zero_le _, Nat.zero_le _⟩ (fun r_18 u H locs hw hP hD hS => ?_)
    obtain ⟨F_18, rfl⟩ : ∃ z, z = u := ⟨_, rfl⟩
    try dsimp only at hw
    obtain ⟨q1_18, q2_18⟩ := hw
    have q1_18 := q1_18.symm
    subst q1_18
    have q2_18 := q2_18.symm
    subst q2_18
    have hP : va_P D vwCl [(x, .inr (5, [.ref r, .ref t, .ref im, .int hi, .ref tx, .ref ch, .ref ro, .ref rf, .ref pl, .ref ot, .ref cl])), (rf, .inl (cI, 6, .inl (rf_bump F (rf_beh nw w n k 2)))), (r, .inr (1, [.int q, .int nw, .ref rn])), (rn, .inl (cI, 20, .inl v)), (pl, .inr (3, [.int pz, .ref pn])), (pn, .inl (cI, 200, .inl pf))] H := hP.sub [4, 5, 0, 1, 2, 3] rfl
    have hD : va_D A [(x, .inr (5, [.ref r, .ref t, .ref im, .int hi, .ref tx, .ref ch, .ref ro, .ref rf, .ref pl, .ref ot, .ref cl])), (rf, .inl (cI, 6, .inl (rf_bump F (rf_beh nw w n k 2)))), (r, .inr (1, [.int q, .int nw, .ref rn])), (rn, .inl (cI, 20, .inl v)), (pl, .inr (3, [.int pz, .ref pn])), (pn, .inl (cI, 200, .inl pf))] := hD.sub [4, 5, 0, 1, 2, 3] (by decide) rfl
    exact wrI (w1 := (fun (u : (Nat → Int32) × Int32 × (Nat → Int32)) => [(x, .inr (5, [.ref r, .ref t, .ref im, .int hi, .ref tx, .ref ch, .ref ro, .ref rf, .ref pl, .ref ot, .ref cl])), (rf, .inl (cI, 6, .inl u.1)), (r, .inr (1, [.int q, .int nw, .ref rn])), (rn, .inl (cI, 20, .inl v)), (pl, .inr (3, [.int u.2.1, .ref pn])), (pn, .inl (cI, 200, .inl u.2.2))])) ((rf_bump F (rf_beh nw w n k 2)), pz, pf) hx hb hr hlocks dX5_split_21 hS (hP.sub [0, 1, 2, 3, 4, 5] rfl) (hD.sub [0, 1, 2, 3, 4, 5] (by decide) rfl) (by simp [c_12])

set_option maxHeartbeats 4000000 in
set_option maxRecDepth 100000 in
theorem c_X5_nearer (l : Launch) (D : va_G) (cI cZ cR : ClassId) (x r t im tx ch ro rf pl ot cl : Nat) (hi : Int32) (F : Nat → Int32) (rn : Nat) (q nw : Int32) (v : Nat → Int32) (w n j : Int32) (sz : Nat) : Met l yX5_nearer wsX5_nearer ({ frames := 5, cells := 0, slots := 0, locals := 121 }) (PcW D cI cZ cR [.ref x, .int w, .int n, .int j] [(x, .inr (5, [.ref r, .ref t, .ref im, .int hi, .ref tx, .ref ch, .ref ro, .ref rf, .ref pl, .ref ot, .ref cl])), (rf, .inl (cI, 6, .inl F)), (r, .inr (1, [.int q, .int nw, .ref rn])), (rn, .inl (cI, 20, .inl v))] sz) (va_Qi (fun (res : Int32) (u : (Nat → Int32)) => res = (if rf_nth nw w n j (-1) = 0 then nrL (far q v w) j (n.toNatClampNeg - 1) 1 0 q else rf_nth nw w n j (-1)) ∧ u = (if rf_nth nw w n j (-1) = 0 then F else rf_bump F (rf_nth nw w n j (-1)))) (Bw D (fun (u : (Nat → Int32)) => [(x, .inr (5, [.ref r, .ref t, .ref im, .int hi, .ref tx, .ref ch, .ref ro, .ref rf, .ref pl, .ref ot, .ref cl])), (rf, .inl (cI, 6, .inl u)), (r, .inr (1, [.int q, .int nw, .ref rn])), (rn, .inl (cI, 20, .inl v))]) (va_A [(x, .inr (5, [.ref r, .ref t, .ref im, .int hi, .ref tx, .ref ch, .ref ro, .ref rf, .ref pl, .ref ot, .ref cl])), (rf, .inl (cI, 6, .inl F)), (r, .inr (1, [.int q, .int nw, .ref rn])), (rn, .inl (cI, 20, .inl v))] sz)) (va_A [(x, .inr (5, [.ref r, .ref t, .ref im, .int hi, .ref tx, .ref ch, .ref ro, .ref rf, .ref pl, .ref ot, .ref cl])), (rf, .inl (cI, 6, .inl F)), (r, .inr (1, [.int q, .int nw, .ref rn])), (rn, .inl (cI, 20, .inl v))] sz)) 0 0 (va_A [(x, .inr (5, [.ref r, .ref t, .ref im, .int hi, .ref tx, .ref ch, .ref ro, .ref rf, .ref pl, .ref ot, .ref cl])), (rf, .inl (cI, 6, .inl F)), (r, .inr (1, [.int q, .int nw, .ref rn])), (rn, .inl (cI, 20, .inl v))] sz) := by
  refine Met.ofW (cc := cX5_nearer) (maxL := 9) (ret := (some .int)) (by decide) rfl ?_
  intro p e s m args below meth c s₁ B hml hv
  obtain ⟨rfl, hsz, hP, hK, hD0, hN⟩ := hv
  have hx := B.exec
  have hb := B.bytes
  have hr := B.returns
  have hts := atoms_spec (ws := wsX5_nearer) B.pre
  have hown : s.vm.findClass RX5 = some m.cls := findClass_of_methodNamed B.named
  have hlocks := B.notSynchronized
  subst hsz
  have hD := hD0.self (sz := s.heap.size)
  generalize hAe : va_A [(x, .inr (5, [.ref r, .ref t, .ref im, .int hi, .ref tx, .ref ch, .ref ro, .ref rf, .ref pl, .ref ot, .ref cl])), (rf, .inl (cI, 6, .inl F)), (r, .inr (1, [.int q, .int nw, .ref rn])), (rn, .inl (cI, 20, .inl v))] s.heap.size = A at hD ⊢
  have hA : ∀ q : Nat, s.heap.size ≤ q → A q := fun q h => by rw [← hAe]; exact Or.inr h
  have hS : va_S A s.heap s.heap [] := va_S.rf
  have hP : va_P D vwCl [(x, .inr (5, [.ref r, .ref t, .ref im, .int hi, .ref tx, .ref ch, .ref ro, .ref rf, .ref pl, .ref ot, .ref cl])), (rf, .inl (cI, 6, .inl F)), (r, .inr (1, [.int q, .int nw, .ref rn])), (rn, .inl (cI, 20, .inl v))] s.heap := hP
  have hl := lv_entry ([.ref x, .int w, .int n, .int j]) (n := 9) (Nat.le_of_ble_eq_true rfl)
  rw [lg_entry_eq]
  generalize (lg_sl ([.ref x, .int w, .int n, .int j]) ++ List.replicate (9 - (lg_sl ([.ref x, .int w, .int n, .int j])).length) Slot.unset).toArray = ls at hl ⊢
  have hl : lv_has ls 9 [(0, .ref x), (1, .int w), (2, .int n), (3, .int j)] := hl
  refine lv_aload_n hx hb dX5_nearer_0 rfl (lv_at hl 0 rfl) ?_
  refine lv_iload_n hx hb dX5_nearer_1 rfl (lv_at hl 1 rfl) ?_
  refine lv_iload_n hx hb dX5_nearer_2 rfl (lv_at hl 2 rfl) ?_
  refine lv_iload_n hx hb dX5_nearer_3 rfl (lv_at hl 3 rfl) ?_
  refine lv_iconst (v := (-1)) hx hb dX5_nearer_4 (by decide) ?_
  refine rdV (As := [.int w, .int n, .int j, .int (-1)]) (rest := []) ⟨hx, hb, hml, hown, hts⟩ (c_X5_refusalOfNth l D cI cZ cR x r t im tx ch ro rf pl ot cl hi rn q nw v w n j (-1) ) (cwV 4 hts gX5_nearer_X5_refusalOfNth rfl rfl rfl (by decide +kernel) ⟨Nat.le_of_ble_eq_true rfl, Nat.le_of_ble_eq_true rfl⟩) hK hN hP 0 5 rfl rfl rfl [0, 2, 3] rfl rfl hl.1 rfl (Nat.le_of_ble_eq_true rfl) dX5_nearer_5 ⟨Nat.zero_le _, Nat.zero_le _⟩ ?_
  refine lv_istore (lv' := [(4, .int (rf_nth nw w n j (-1))), (0, .ref x), (1, .int w), (2, .int n), (3, .int j)]) hx hb dX5_nearer_8 hl (by decide) rfl (fun ls hl => ?_)
  refine lv_iload hx hb dX5_nearer_10 (lv_at hl 0 rfl) ?_
  refine lv_if_eq (tgt := 22) hx hb dX5_nearer_12 (by decide) (fun c_12 => ?_) (fun c_12 => ?_)
  · skip
    have hok := rf_nth_ok c_12
    have hn := n200 hok.2.1
    refine lv_iconst (v := 0) hx hb dX5_nearer_22 (by decide) ?_
    refine lv_istore (lv' := [(5, .int 0), (4, .int (rf_nth nw w n j (-1))), (0, .ref x), (1, .int w), (2, .int n), (3, .int j)]) hx hb dX5_nearer_23 hl (by decide) rfl (fun ls hl => ?_)
    refine lv_aload_n hx hb dX5_nearer_25 rfl (lv_at hl 2 rfl) ?_
    refine va_get (D := D) (ci := 5) (v := .ref r) (C := RX5) (T := TX5) (N := 11) hx hb hts (in_X5_nearer_X5) hown hK hP 0 rfl rfl 0 (by decide) (hts (.fieldLink RX5 10 "StepsRoundCircle" "ring" "LStepsRoundCircle$Ring;") (by decide +kernel)) (fun _ h9 => h9) rfl dX5_nearer_26 ?_
    refine va_get (D := D) (ci := 1) (v := .int q) (C := RX1) (T := TX1) (N := 3) hx hb hts (in_X5_nearer_X1) hown hK hP 2 rfl rfl 0 (by decide) (hts (.fieldLink RX5 91 "StepsRoundCircle$Ring" "size" "I") (by decide +kernel)) (fun _ h9 => h9) rfl dX5_nearer_29 ?_
    refine lv_istore (lv' := [(6, .int q), (5, .int 0), (4, .int (rf_nth nw w n j (-1))), (0, .ref x), (1, .int w), (2, .int n), (3, .int j)]) hx hb dX5_nearer_32 hl (by decide) rfl (fun ls hl => ?_)
    refine lv_iconst (v := 1) hx hb dX5_nearer_34 (by decide) ?_
    refine lv_istore (lv' := [(7, .int 1), (6, .int q), (5, .int 0), (4, .int (rf_nth nw w n j (-1))), (0, .ref x), (1, .int w), (2, .int n), (3, .int j)]) hx hb dX5_nearer_35 hl (by decide) rfl (fun ls hl => ?_)
    have loop_37 : ∀ (fuel : Nat), ∀ (i : Nat), ∀ (cnt lst : Int32), (1 ≤ i) → (i ≤ n.toNatClampNeg) → (nrL (far q v w) j (n.toNatClampNeg - 1) 1 0 q = nrL (far q v w) j (n.toNatClampNeg - i) i cnt lst) → (n.toNatClampNeg + 1 ≤ i + fuel) → ∀ (y7 : Int32), y7 = nI i → ∀ (ls : Array Slot), lv_has ls 9 [(5, .int cnt), (6, .int lst), (7, .int y7), (0, .ref x), (1, .int w), (2, .int n), (3, .int j), (4, .int (rf_nth nw w n j (-1)))] → W p l e (headSpec wsX5_nearer ({ frames := 5, cells := 0, slots := 0, locals := 121 })).room s m ([.ref x, .int w, .int n, .int j] : List Value).toArray below meth c s.heap [] 0 0 (MQ below (va_Qi (fun (res : Int32) (u : (Nat → Int32)) => res = (if rf_nth nw w n j (-1) = 0 then nrL (far q v w) j (n.toNatClampNeg - 1) 1 0 q else rf_nth nw w n j (-1)) ∧ u = (if rf_nth nw w n j (-1) = 0 then F else rf_bump F (rf_nth nw w n j (-1)))) (Bw D (fun (u : (Nat → Int32)) => [(x, .inr (5, [.ref r, .ref t, .ref im, .int hi, .ref tx, .ref ch, .ref ro, .ref rf, .ref pl, .ref ot, .ref cl])), (rf, .inl (cI, 6, .inl u)), (r, .inr (1, [.int q, .int nw, .ref rn])), (rn, .inl (cI, 20, .inl v))]) A) A) ([.ref x, .int w, .int n, .int j] : List Value).toArray s 0 0 A) (F0 m 37 ls []) := by
      intro fuel
      induction fuel with
      | zero =>
        intro i cnt lst hi1 hi9 hinv hfu
        exact False.elim (by omega)
      | succ fuel ih_37 =>
        intro i cnt lst hi1 hi9 hinv hfu y7 ey7 ls hl
        subst ey7
        refine lv_iload hx hb dX5_nearer_37 (lv_at hl 2 rfl) ?_
        refine lv_iload_n hx hb dX5_nearer_39 rfl (lv_at hl 5 rfl) ?_
        refine lv_icmp_ge (tgt := 81) hx hb dX5_nearer_40 (by decide) (fun c_40 => ?_) (fun c_40 => ?_)
        · skip
          refine lv_iload_n hx hb dX5_nearer_81 rfl (lv_at hl 6 rfl) ?_
          refine lv_iconst (v := (-1)) hx hb dX5_nearer_82 (by decide) ?_
          refine lv_icmp_ne (tgt := 91) hx hb dX5_nearer_83 (by decide) (fun c_83 => ?_) (fun c_83 => ?_)
          · skip
            refine lv_bipush (v := (-9)) hx hb dX5_nearer_91 (by decide) ?_
            exact wrI (w1 := (fun (u : (Nat → Int32)) => [(x, .inr (5, [.ref r, .ref t, .ref im, .int hi, .ref tx, .ref ch, .ref ro, .ref rf, .ref pl, .ref ot, .ref cl])), (rf, .inl (cI, 6, .inl u)), (r, .inr (1, [.int q, .int nw, .ref rn])), (rn, .inl (cI, 20, .inl v))])) F hx hb hr hlocks dX5_nearer_93 hS (hP.sub [0, 1, 2, 3] rfl) (hD.sub [0, 1, 2, 3] (by decide) rfl) (⟨by rw [if_pos c_12, hinv, show n.toNatClampNeg - i = 0 by have := (le_clamp (by omega)).mp c_40; omega]; unfold nrL; rw [if_neg c_83], by rw [if_pos c_12]⟩)
          · skip
            refine lv_iload hx hb dX5_nearer_86 (lv_at hl 0 rfl) ?_
            refine lv_goto (tgt := 93) hx hb dX5_nearer_88 (by decide) ?_
            exact wrI (w1 := (fun (u : (Nat → Int32)) => [(x, .inr (5, [.ref r, .ref t, .ref im, .int hi, .ref tx, .ref ch, .ref ro, .ref rf, .ref pl, .ref ot, .ref cl])), (rf, .inl (cI, 6, .inl u)), (r, .inr (1, [.int q, .int nw, .ref rn])), (rn, .inl (cI, 20, .inl v))])) F hx hb hr hlocks dX5_nearer_93 hS (hP.sub [0, 1, 2, 3] rfl) (hD.sub [0, 1, 2, 3] (by decide) rfl) (⟨by rw [if_pos c_12, hinv, show n.toNatClampNeg - i = 0 by have := (le_clamp (by omega)).mp c_40; omega]; unfold nrL; rw [if_pos c_83], by rw [if_pos c_12]⟩)
        · skip
          have hiN : i < n.toNatClampNeg := (lt_clamp (by omega)).mp (Int32.not_le.mp c_40)
          refine lv_aload_n hx hb dX5_nearer_43 rfl (lv_at hl 3 rfl) ?_
          refine lv_iload_n hx hb dX5_nearer_44 rfl (lv_at hl 4 rfl) ?_
          refine lv_iload hx hb dX5_nearer_45 (lv_at hl 2 rfl) ?_
          refine rdV (As := [.int w, .int (nI i)]) (rest := []) ⟨hx, hb, hml, hown, hts⟩ (c_X5_farFromStart l D cI cZ cR x r t im tx ch ro rf pl ot cl hi rn q nw v w (nI i) ) (cwV 2 hts gX5_nearer_X5_farFromStart rfl rfl rfl (by decide +kernel) ⟨Nat.le_of_ble_eq_true rfl, Nat.le_of_ble_eq_true rfl⟩) hK hN hP 0 5 rfl rfl rfl [0, 2, 3] rfl rfl hl.1 rfl (Nat.le_of_ble_eq_true rfl) dX5_nearer_47 ⟨Nat.zero_le _, Nat.zero_le _⟩ ?_
          refine lv_topi (fun z_50 hz_50 => ?_)
          have hz_50 : z_50 = far q v w i := hz_50.trans rfl
          subst hz_50
          refine lv_istore (lv' := [(8, .int (far q v w i)), (5, .int cnt), (6, .int lst), (7, .int (nI i)), (0, .ref x), (1, .int w), (2, .int n), (3, .int j), (4, .int (rf_nth nw w n j (-1)))]) hx hb dX5_nearer_50 hl (by decide) rfl (fun ls hl => ?_)
          refine lv_iload hx hb dX5_nearer_52 (lv_at hl 0 rfl) ?_
          refine lv_iload hx hb dX5_nearer_54 (lv_at hl 2 rfl) ?_
          refine lv_icmp_ge (tgt := 75) hx hb dX5_nearer_56 (by decide) (fun c_56 => ?_) (fun c_56 => ?_)
          · skip
            refine lv_iinc (v := (nI i) + 1) (lv' := [(7, .int ((nI i) + 1)), (8, .int (far q v w i)), (5, .int cnt), (6, .int lst), (0, .ref x), (1, .int w), (2, .int n), (3, .int j), (4, .int (rf_nth nw w n j (-1)))]) hx hb dX5_nearer_75 hl (k := 3) rfl (by rfl) (by decide) rfl (fun ls hl => ?_)
            refine lv_goto (tgt := 37) hx hb dX5_nearer_78 (by decide) ?_
            exact ih_37 (i + 1) cnt lst (by omega) (by omega) (hinv.trans (nrL_ge (by omega) c_56)) (by omega) _ (by first | rfl | exact nI_1 _ | exact nI_0.symm) ls (lv_sub hl [2, 3, 0, 4, 5, 6, 7, 8] rfl)
          · skip
            refine lv_iload hx hb dX5_nearer_59 (lv_at hl 1 rfl) ?_
            refine lv_iload_n hx hb dX5_nearer_61 rfl (lv_at hl 7 rfl) ?_
            refine lv_icmp_ne (tgt := 68) hx hb dX5_nearer_62 (by decide) (fun c_62 => ?_) (fun c_62 => ?_)
            · skip
              refine lv_iload hx hb dX5_nearer_68 (lv_at hl 0 rfl) ?_
              refine lv_istore (lv' := [(6, .int (far q v w i)), (8, .int (far q v w i)), (5, .int cnt), (7, .int (nI i)), (0, .ref x), (1, .int w), (2, .int n), (3, .int j), (4, .int (rf_nth nw w n j (-1)))]) hx hb dX5_nearer_70 hl (by decide) rfl (fun ls hl => ?_)
              refine lv_iinc (v := cnt + 1) (lv' := [(5, .int (cnt + 1)), (6, .int (far q v w i)), (8, .int (far q v w i)), (7, .int (nI i)), (0, .ref x), (1, .int w), (2, .int n), (3, .int j), (4, .int (rf_nth nw w n j (-1)))]) hx hb dX5_nearer_72 hl (k := 2) rfl (by rfl) (by decide) rfl (fun ls hl => ?_)
              refine lv_iinc (v := (nI i) + 1) (lv' := [(7, .int ((nI i) + 1)), (5, .int (cnt + 1)), (6, .int (far q v w i)), (8, .int (far q v w i)), (0, .ref x), (1, .int w), (2, .int n), (3, .int j), (4, .int (rf_nth nw w n j (-1)))]) hx hb dX5_nearer_75 hl (k := 3) rfl (by rfl) (by decide) rfl (fun ls hl => ?_)
              refine lv_goto (tgt := 37) hx hb dX5_nearer_78 (by decide) ?_
              exact ih_37 (i + 1) (cnt + 1) (far q v w i) (by omega) (by omega) (hinv.trans (nrL_go (by omega) (Int32.not_le.mp c_56) c_62)) (by omega) _ (by first | rfl | exact nI_1 _ | exact nI_0.symm) ls (lv_sub hl [1, 2, 0, 4, 5, 6, 7, 8] rfl)
            · skip
              refine lv_iload hx hb dX5_nearer_65 (lv_at hl 3 rfl) ?_
              exact wrI (w1 := (fun (u : (Nat → Int32)) => [(x, .inr (5, [.ref r, .ref t, .ref im, .int hi, .ref tx, .ref ch, .ref ro, .ref rf, .ref pl, .ref ot, .ref cl])), (rf, .inl (cI, 6, .inl u)), (r, .inr (1, [.int q, .int nw, .ref rn])), (rn, .inl (cI, 20, .inl v))])) F hx hb hr hlocks dX5_nearer_67 hS (hP.sub [0, 1, 2, 3] rfl) (hD.sub [0, 1, 2, 3] (by decide) rfl) (⟨by rw [if_pos c_12, hinv, nrL_hit (by omega) (Int32.not_le.mp c_56) c_62], by rw [if_pos c_12]⟩)
    exact loop_37 (n.toNatClampNeg + 1) 1 0 q (by omega) (by omega) rfl (by omega) _ (by first | rfl | exact nI_1 _ | exact nI_0.symm) ls (lv_sub hl [2, 1, 0, 4, 5, 6, 7, 3] rfl)
  · skip
    refine lv_aload_n hx hb dX5_nearer_15 rfl (lv_at hl 1 rfl) ?_
    refine lv_iload hx hb dX5_nearer_16 (lv_at hl 0 rfl) ?_
    refine wrVi (As := [.int (rf_nth nw w n j (-1))]) (rest := []) (wr := [(r, .inr (1, [.int q, .int nw, .ref rn])), (rn, .inl (cI, 20, .inl v))]) (A := A) ⟨hx, hb, hml, hown, hts⟩ (c_X5_refuse l D cI cZ cR x r t im tx ch ro rf pl ot cl hi F (rf_nth nw w n j (-1))  s.heap.size) (cwV 1 hts gX5_nearer_X5_refuse rfl rfl rfl (by decide +kernel) ⟨Nat.le_of_ble_eq_true rfl, Nat.le_of_ble_eq_true rfl⟩) hK hN hP hD hS hA 0 5 rfl rfl rfl [0, 1] [2, 3] rfl (by decide) rfl (by decide) (by decide) rfl hl.1 rfl (Nat.le_of_ble_eq_true rfl) dX5_nearer_18 ⟨Nat.zero_le _, Nat.zero_le _⟩ (fun r_18 u H locs hw hP hD hS => ?_)
    obtain ⟨F_18, rfl⟩ : ∃ z, z = u := ⟨_, rfl⟩
    try dsimp only at hw
    obtain ⟨q1_18, q2_18⟩ := hw
    have q1_18 := q1_18.symm
    subst q1_18
    have q2_18 := q2_18.symm
    subst q2_18
    have hP : va_P D vwCl [(x, .inr (5, [.ref r, .ref t, .ref im, .int hi, .ref tx, .ref ch, .ref ro, .ref rf, .ref pl, .ref ot, .ref cl])), (rf, .inl (cI, 6, .inl (rf_bump F (rf_nth nw w n j (-1))))), (r, .inr (1, [.int q, .int nw, .ref rn])), (rn, .inl (cI, 20, .inl v))] H := hP.sub [2, 3, 0, 1] rfl
    have hD : va_D A [(x, .inr (5, [.ref r, .ref t, .ref im, .int hi, .ref tx, .ref ch, .ref ro, .ref rf, .ref pl, .ref ot, .ref cl])), (rf, .inl (cI, 6, .inl (rf_bump F (rf_nth nw w n j (-1))))), (r, .inr (1, [.int q, .int nw, .ref rn])), (rn, .inl (cI, 20, .inl v))] := hD.sub [2, 3, 0, 1] (by decide) rfl
    exact wrI (w1 := (fun (u : (Nat → Int32)) => [(x, .inr (5, [.ref r, .ref t, .ref im, .int hi, .ref tx, .ref ch, .ref ro, .ref rf, .ref pl, .ref ot, .ref cl])), (rf, .inl (cI, 6, .inl u)), (r, .inr (1, [.int q, .int nw, .ref rn])), (rn, .inl (cI, 20, .inl v))])) (rf_bump F (rf_nth nw w n j (-1))) hx hb hr hlocks dX5_nearer_21 hS (hP.sub [0, 1, 2, 3] rfl) (hD.sub [0, 1, 2, 3] (by decide) rfl) (by simp [c_12])

set_option maxHeartbeats 4000000 in
set_option maxRecDepth 100000 in
theorem c_X5_meeting (l : Launch) (D : va_G) (cI cZ cR : ClassId) (x r t im tx ch ro rf pl ot cl : Nat) (hi : Int32) (F : Nat → Int32) (rn : Nat) (q nw : Int32) (v : Nat → Int32) (o oo k : Int32) (sz : Nat) : Met l yX5_meeting wsX5_meeting ({ frames := 4, cells := 0, slots := 0, locals := 98 }) (PcW D cI cZ cR [.ref x, .int o, .int oo, .int k] [(x, .inr (5, [.ref r, .ref t, .ref im, .int hi, .ref tx, .ref ch, .ref ro, .ref rf, .ref pl, .ref ot, .ref cl])), (rf, .inl (cI, 6, .inl F)), (r, .inr (1, [.int q, .int nw, .ref rn])), (rn, .inl (cI, 20, .inl v))] sz) (va_Qi (fun (res : Int32) (u : (Nat → Int32)) => res = (if rf_mee nw o oo k = 0 then meeA q v o oo k else rf_mee nw o oo k) ∧ u = (if rf_mee nw o oo k = 0 then F else rf_bump F (rf_mee nw o oo k))) (Bw D (fun (u : (Nat → Int32)) => [(x, .inr (5, [.ref r, .ref t, .ref im, .int hi, .ref tx, .ref ch, .ref ro, .ref rf, .ref pl, .ref ot, .ref cl])), (rf, .inl (cI, 6, .inl u)), (r, .inr (1, [.int q, .int nw, .ref rn])), (rn, .inl (cI, 20, .inl v))]) (va_A [(x, .inr (5, [.ref r, .ref t, .ref im, .int hi, .ref tx, .ref ch, .ref ro, .ref rf, .ref pl, .ref ot, .ref cl])), (rf, .inl (cI, 6, .inl F)), (r, .inr (1, [.int q, .int nw, .ref rn])), (rn, .inl (cI, 20, .inl v))] sz)) (va_A [(x, .inr (5, [.ref r, .ref t, .ref im, .int hi, .ref tx, .ref ch, .ref ro, .ref rf, .ref pl, .ref ot, .ref cl])), (rf, .inl (cI, 6, .inl F)), (r, .inr (1, [.int q, .int nw, .ref rn])), (rn, .inl (cI, 20, .inl v))] sz)) 0 0 (va_A [(x, .inr (5, [.ref r, .ref t, .ref im, .int hi, .ref tx, .ref ch, .ref ro, .ref rf, .ref pl, .ref ot, .ref cl])), (rf, .inl (cI, 6, .inl F)), (r, .inr (1, [.int q, .int nw, .ref rn])), (rn, .inl (cI, 20, .inl v))] sz) := by
  refine Met.ofW (cc := cX5_meeting) (maxL := 6) (ret := (some .int)) (by decide) rfl ?_
  intro p e s m args below meth c s₁ B hml hv
  obtain ⟨rfl, hsz, hP, hK, hD0, hN⟩ := hv
  have hx := B.exec
  have hb := B.bytes
  have hr := B.returns
  have hts := atoms_spec (ws := wsX5_meeting) B.pre
  have hown : s.vm.findClass RX5 = some m.cls := findClass_of_methodNamed B.named
  have hlocks := B.notSynchronized
  subst hsz
  have hD := hD0.self (sz := s.heap.size)
  generalize hAe : va_A [(x, .inr (5, [.ref r, .ref t, .ref im, .int hi, .ref tx, .ref ch, .ref ro, .ref rf, .ref pl, .ref ot, .ref cl])), (rf, .inl (cI, 6, .inl F)), (r, .inr (1, [.int q, .int nw, .ref rn])), (rn, .inl (cI, 20, .inl v))] s.heap.size = A at hD ⊢
  have hA : ∀ q : Nat, s.heap.size ≤ q → A q := fun q h => by rw [← hAe]; exact Or.inr h
  have hS : va_S A s.heap s.heap [] := va_S.rf
  have hP : va_P D vwCl [(x, .inr (5, [.ref r, .ref t, .ref im, .int hi, .ref tx, .ref ch, .ref ro, .ref rf, .ref pl, .ref ot, .ref cl])), (rf, .inl (cI, 6, .inl F)), (r, .inr (1, [.int q, .int nw, .ref rn])), (rn, .inl (cI, 20, .inl v))] s.heap := hP
  have hl := lv_entry ([.ref x, .int o, .int oo, .int k]) (n := 6) (Nat.le_of_ble_eq_true rfl)
  rw [lg_entry_eq]
  generalize (lg_sl ([.ref x, .int o, .int oo, .int k]) ++ List.replicate (6 - (lg_sl ([.ref x, .int o, .int oo, .int k])).length) Slot.unset).toArray = ls at hl ⊢
  have hl : lv_has ls 6 [(0, .ref x), (1, .int o), (2, .int oo), (3, .int k)] := hl
  refine lv_aload_n hx hb dX5_meeting_0 rfl (lv_at hl 0 rfl) ?_
  refine lv_iload_n hx hb dX5_meeting_1 rfl (lv_at hl 1 rfl) ?_
  refine lv_iload_n hx hb dX5_meeting_2 rfl (lv_at hl 2 rfl) ?_
  refine rdV (As := [.int o, .int oo]) (rest := []) ⟨hx, hb, hml, hown, hts⟩ (c_X5_areTwo l D cI cZ cR x r t im tx ch ro rf pl ot cl hi rn q nw v o oo ) (cwV 2 hts gX5_meeting_X5_areTwo rfl rfl rfl (by decide +kernel) ⟨Nat.le_of_ble_eq_true rfl, Nat.le_of_ble_eq_true rfl⟩) hK hN hP 0 5 rfl rfl rfl [0, 2, 3] rfl rfl hl.1 rfl (Nat.le_of_ble_eq_true rfl) dX5_meeting_3 ⟨Nat.zero_le _, Nat.zero_le _⟩ ?_
  refine lv_if_ne (tgt := 15) hx hb dX5_meeting_6 (by decide) (fun c_6 => ?_) (fun c_6 => ?_)
  · skip
    have c_6 := bi_ne0.mp c_6
    refine lv_iload_n hx hb dX5_meeting_15 rfl (lv_at hl 3 rfl) ?_
    refine lv_iconst (v := 2) hx hb dX5_meeting_16 (by decide) ?_
    refine rdS (As := [.int k, .int 2]) (rest := []) ⟨hx, hb, hml, hown, hts⟩ (c_X5_isBelow l D cI cZ cR k 2 ) (va_cwS 2 hts gX5_meeting_X5_isBelow rfl rfl rfl (by decide +kernel) ⟨Nat.le_of_ble_eq_true rfl, Nat.le_of_ble_eq_true rfl⟩) hK hN hP [] rfl rfl hl.1 rfl (Nat.le_of_ble_eq_true rfl) dX5_meeting_17 ⟨Nat.zero_le _, Nat.zero_le _⟩ ?_
    refine lv_if_ne (tgt := 30) hx hb dX5_meeting_20 (by decide) (fun c_20 => ?_) (fun c_20 => ?_)
    · skip
      have c_20 := bi_ne0.mp c_20
      have e0 : rf_mee nw o oo k = 0 := by unfold rf_mee; rw [if_pos c_6, if_pos c_20]
      refine lv_iconst (v := 0) hx hb dX5_meeting_30 (by decide) ?_
      refine lv_istore (lv' := [(4, .int 0), (0, .ref x), (1, .int o), (2, .int oo), (3, .int k)]) hx hb dX5_meeting_31 hl (by decide) rfl (fun ls hl => ?_)
      have loop_33 : ∀ (fuel : Nat), ∀ (i : Nat), (i ≤ 2001) → (meeA q v o oo k = ff2 (fun i => plK q v o i = plK q v oo i) (fun i => if k = 0 then nI i else plK q v o i) i (2001 - i)) → (2002 ≤ i + fuel) → ∀ (y4 : Int32), y4 = nI i → ∀ (ls : Array Slot), lv_has ls 6 [(4, .int y4), (0, .ref x), (1, .int o), (2, .int oo), (3, .int k)] → W p l e (headSpec wsX5_meeting ({ frames := 4, cells := 0, slots := 0, locals := 98 })).room s m ([.ref x, .int o, .int oo, .int k] : List Value).toArray below meth c s.heap [] 0 0 (MQ below (va_Qi (fun (res : Int32) (u : (Nat → Int32)) => res = (if rf_mee nw o oo k = 0 then meeA q v o oo k else rf_mee nw o oo k) ∧ u = (if rf_mee nw o oo k = 0 then F else rf_bump F (rf_mee nw o oo k))) (Bw D (fun (u : (Nat → Int32)) => [(x, .inr (5, [.ref r, .ref t, .ref im, .int hi, .ref tx, .ref ch, .ref ro, .ref rf, .ref pl, .ref ot, .ref cl])), (rf, .inl (cI, 6, .inl u)), (r, .inr (1, [.int q, .int nw, .ref rn])), (rn, .inl (cI, 20, .inl v))]) A) A) ([.ref x, .int o, .int oo, .int k] : List Value).toArray s 0 0 A) (F0 m 33 ls []) := by
        intro fuel
        induction fuel with
        | zero =>
          intro i hi9 hinv hfu
          exact False.elim (by omega)
        | succ fuel ih_33 =>
          intro i hi9 hinv hfu y4 ey4 ls hl
          subst ey4
          refine lv_iload hx hb dX5_meeting_33 (lv_at hl 0 rfl) ?_
          refine lv_sipush (v := 2000) hx hb dX5_meeting_35 (by decide) ?_
          refine lv_icmp_gt (tgt := 86) hx hb dX5_meeting_38 (by decide) (fun c_38 => ?_) (fun c_38 => ?_)
          · skip
            refine lv_bipush (v := (-9)) hx hb dX5_meeting_86 (by decide) ?_
            exact wrI (w1 := (fun (u : (Nat → Int32)) => [(x, .inr (5, [.ref r, .ref t, .ref im, .int hi, .ref tx, .ref ch, .ref ro, .ref rf, .ref pl, .ref ot, .ref cl])), (rf, .inl (cI, 6, .inl u)), (r, .inr (1, [.int q, .int nw, .ref rn])), (rn, .inl (cI, 20, .inl v))])) F hx hb hr hlocks dX5_meeting_88 hS (hP.sub [0, 1, 2, 3] rfl) (hD.sub [0, 1, 2, 3] (by decide) rfl) (⟨by rw [if_pos e0, hinv, show 2001 - i = 0 by have := (nI_ltI (a := 2000) (b := i) (by omega) (by omega)).mp c_38; omega]; rfl, by rw [if_pos e0]⟩)
          · skip
            have hiN : i ≤ 2000 := by rcases Nat.lt_or_ge 2000 i with q9 | q9; exact absurd (nI_lt (a := 2000) q9 (by omega)) c_38; exact q9
            refine lv_aload_n hx hb dX5_meeting_41 rfl (lv_at hl 1 rfl) ?_
            refine va_get (D := D) (ci := 5) (v := .ref r) (C := RX5) (T := TX5) (N := 11) hx hb hts (in_X5_meeting_X5) hown hK hP 0 rfl rfl 0 (by decide) (hts (.fieldLink RX5 10 "StepsRoundCircle" "ring" "LStepsRoundCircle$Ring;") (by decide +kernel)) (fun _ h9 => h9) rfl dX5_meeting_42 ?_
            refine lv_iload_n hx hb dX5_meeting_45 rfl (lv_at hl 2 rfl) ?_
            refine lv_iload hx hb dX5_meeting_46 (lv_at hl 0 rfl) ?_
            refine rdV (As := [.int o, .int (nI i)]) (rest := []) ⟨hx, hb, hml, hown, hts⟩ (c_X1_placeOf l D cI cZ cR r rn q nw v o (nI i) ) (cwV 2 hts gX5_meeting_X1_placeOf rfl rfl rfl (by decide +kernel) ⟨Nat.le_of_ble_eq_true rfl, Nat.le_of_ble_eq_true rfl⟩) hK hN hP 2 1 rfl rfl rfl [2, 3] rfl rfl hl.1 rfl (Nat.le_of_ble_eq_true rfl) dX5_meeting_48 ⟨Nat.zero_le _, Nat.zero_le _⟩ ?_
            refine lv_istore (lv' := [(5, .int (rg_pb q v (rg_val v o 0) o (nI i).toInt64)), (4, .int (nI i)), (0, .ref x), (1, .int o), (2, .int oo), (3, .int k)]) hx hb dX5_meeting_51 hl (by decide) rfl (fun ls hl => ?_)
            refine lv_iload hx hb dX5_meeting_53 (lv_at hl 0 rfl) ?_
            refine lv_aload_n hx hb dX5_meeting_55 rfl (lv_at hl 2 rfl) ?_
            refine va_get (D := D) (ci := 5) (v := .ref r) (C := RX5) (T := TX5) (N := 11) hx hb hts (in_X5_meeting_X5) hown hK hP 0 rfl rfl 0 (by decide) (hts (.fieldLink RX5 10 "StepsRoundCircle" "ring" "LStepsRoundCircle$Ring;") (by decide +kernel)) (fun _ h9 => h9) rfl dX5_meeting_56 ?_
            refine lv_iload_n hx hb dX5_meeting_59 rfl (lv_at hl 4 rfl) ?_
            refine lv_iload hx hb dX5_meeting_60 (lv_at hl 1 rfl) ?_
            refine rdV (As := [.int oo, .int (nI i)]) (rest := [.int (rg_pb q v (rg_val v o 0) o (nI i).toInt64)]) ⟨hx, hb, hml, hown, hts⟩ (c_X1_placeOf l D cI cZ cR r rn q nw v oo (nI i) ) (cwV 2 hts gX5_meeting_X1_placeOf rfl rfl rfl (by decide +kernel) ⟨Nat.le_of_ble_eq_true rfl, Nat.le_of_ble_eq_true rfl⟩) hK hN hP 2 1 rfl rfl rfl [2, 3] rfl rfl hl.1 rfl (Nat.le_of_ble_eq_true rfl) dX5_meeting_62 ⟨Nat.zero_le _, Nat.zero_le _⟩ ?_
            refine lv_icmp_ne (tgt := 80) hx hb dX5_meeting_65 (by decide) (fun c_65 => ?_) (fun c_65 => ?_)
            · skip
              refine lv_iinc (v := (nI i) + 1) (lv' := [(4, .int ((nI i) + 1)), (5, .int (rg_pb q v (rg_val v o 0) o (nI i).toInt64)), (0, .ref x), (1, .int o), (2, .int oo), (3, .int k)]) hx hb dX5_meeting_80 hl (k := 1) rfl (by rfl) (by decide) rfl (fun ls hl => ?_)
              refine lv_goto (tgt := 33) hx hb dX5_meeting_83 (by decide) ?_
              exact ih_33 (i + 1) (by omega) (hinv.trans (ff2_no (p := (fun i => plK q v o i = plK q v oo i)) c_65 (by omega))) (by omega) _ (by first | rfl | exact nI_1 _ | exact nI_0.symm) ls (lv_sub hl [0, 2, 3, 4, 5] rfl)
            · skip
              refine lv_iload_n hx hb dX5_meeting_68 rfl (lv_at hl 5 rfl) ?_
              refine lv_if_ne (tgt := 77) hx hb dX5_meeting_69 (by decide) (fun c_69 => ?_) (fun c_69 => ?_)
              · skip
                refine lv_iload hx hb dX5_meeting_77 (lv_at hl 0 rfl) ?_
                exact wrI (w1 := (fun (u : (Nat → Int32)) => [(x, .inr (5, [.ref r, .ref t, .ref im, .int hi, .ref tx, .ref ch, .ref ro, .ref rf, .ref pl, .ref ot, .ref cl])), (rf, .inl (cI, 6, .inl u)), (r, .inr (1, [.int q, .int nw, .ref rn])), (rn, .inl (cI, 20, .inl v))])) F hx hb hr hlocks dX5_meeting_79 hS (hP.sub [0, 1, 2, 3] rfl) (hD.sub [0, 1, 2, 3] (by decide) rfl) (⟨by rw [if_pos e0, hinv, ff2_yes (p := (fun i => plK q v o i = plK q v oo i)) c_65 (by omega)]; exact (if_neg c_69).symm, by rw [if_pos e0]⟩)
              · skip
                refine lv_iload hx hb dX5_meeting_72 (lv_at hl 1 rfl) ?_
                refine lv_goto (tgt := 79) hx hb dX5_meeting_74 (by decide) ?_
                exact wrI (w1 := (fun (u : (Nat → Int32)) => [(x, .inr (5, [.ref r, .ref t, .ref im, .int hi, .ref tx, .ref ch, .ref ro, .ref rf, .ref pl, .ref ot, .ref cl])), (rf, .inl (cI, 6, .inl u)), (r, .inr (1, [.int q, .int nw, .ref rn])), (rn, .inl (cI, 20, .inl v))])) F hx hb hr hlocks dX5_meeting_79 hS (hP.sub [0, 1, 2, 3] rfl) (hD.sub [0, 1, 2, 3] (by decide) rfl) (⟨by rw [if_pos e0, hinv, ff2_yes (p := (fun i => plK q v o i = plK q v oo i)) c_65 (by omega)]; exact (if_pos c_69).symm, by rw [if_pos e0]⟩)
      exact loop_33 2002 0 (by omega) rfl (by omega) _ (by first | rfl | exact nI_1 _ | exact nI_0.symm) ls (lv_sub hl [0, 1, 2, 3, 4] rfl)
    · skip
      have c_20 := bi_eq0.mp c_20
      refine lv_aload_n hx hb dX5_meeting_23 rfl (lv_at hl 0 rfl) ?_
      refine lv_bipush (v := (-2)) hx hb dX5_meeting_24 (by decide) ?_
      refine wrVi (As := [.int (-2)]) (rest := []) (wr := [(r, .inr (1, [.int q, .int nw, .ref rn])), (rn, .inl (cI, 20, .inl v))]) (A := A) ⟨hx, hb, hml, hown, hts⟩ (c_X5_refuse l D cI cZ cR x r t im tx ch ro rf pl ot cl hi F (-2)  s.heap.size) (cwV 1 hts gX5_meeting_X5_refuse rfl rfl rfl (by decide +kernel) ⟨Nat.le_of_ble_eq_true rfl, Nat.le_of_ble_eq_true rfl⟩) hK hN hP hD hS hA 0 5 rfl rfl rfl [0, 1] [2, 3] rfl (by decide) rfl (by decide) (by decide) rfl hl.1 rfl (Nat.le_of_ble_eq_true rfl) dX5_meeting_26 ⟨Nat.zero_le _, Nat.zero_le _⟩ (fun r_26 u H locs hw hP hD hS => ?_)
      obtain ⟨F_26, rfl⟩ : ∃ z, z = u := ⟨_, rfl⟩
      try dsimp only at hw
      obtain ⟨q1_26, q2_26⟩ := hw
      have q1_26 := q1_26.symm
      subst q1_26
      have q2_26 := q2_26.symm
      subst q2_26
      have hP : va_P D vwCl [(x, .inr (5, [.ref r, .ref t, .ref im, .int hi, .ref tx, .ref ch, .ref ro, .ref rf, .ref pl, .ref ot, .ref cl])), (rf, .inl (cI, 6, .inl (rf_bump F (-2)))), (r, .inr (1, [.int q, .int nw, .ref rn])), (rn, .inl (cI, 20, .inl v))] H := hP.sub [2, 3, 0, 1] rfl
      have hD : va_D A [(x, .inr (5, [.ref r, .ref t, .ref im, .int hi, .ref tx, .ref ch, .ref ro, .ref rf, .ref pl, .ref ot, .ref cl])), (rf, .inl (cI, 6, .inl (rf_bump F (-2)))), (r, .inr (1, [.int q, .int nw, .ref rn])), (rn, .inl (cI, 20, .inl v))] := hD.sub [2, 3, 0, 1] (by decide) rfl
      exact wrI (w1 := (fun (u : (Nat → Int32)) => [(x, .inr (5, [.ref r, .ref t, .ref im, .int hi, .ref tx, .ref ch, .ref ro, .ref rf, .ref pl, .ref ot, .ref cl])), (rf, .inl (cI, 6, .inl u)), (r, .inr (1, [.int q, .int nw, .ref rn])), (rn, .inl (cI, 20, .inl v))])) (rf_bump F (-2)) hx hb hr hlocks dX5_meeting_29 hS (hP.sub [0, 1, 2, 3] rfl) (hD.sub [0, 1, 2, 3] (by decide) rfl) (by have e9 : rf_mee nw o oo k = -2 := (by unfold rf_mee; rw [if_pos c_6, if_neg c_20]); simp [e9])
  · skip
    have c_6 := bi_eq0.mp c_6
    refine lv_aload_n hx hb dX5_meeting_9 rfl (lv_at hl 0 rfl) ?_
    refine lv_iconst (v := (-1)) hx hb dX5_meeting_10 (by decide) ?_
    refine wrVi (As := [.int (-1)]) (rest := []) (wr := [(r, .inr (1, [.int q, .int nw, .ref rn])), (rn, .inl (cI, 20, .inl v))]) (A := A) ⟨hx, hb, hml, hown, hts⟩ (c_X5_refuse l D cI cZ cR x r t im tx ch ro rf pl ot cl hi F (-1)  s.heap.size) (cwV 1 hts gX5_meeting_X5_refuse rfl rfl rfl (by decide +kernel) ⟨Nat.le_of_ble_eq_true rfl, Nat.le_of_ble_eq_true rfl⟩) hK hN hP hD hS hA 0 5 rfl rfl rfl [0, 1] [2, 3] rfl (by decide) rfl (by decide) (by decide) rfl hl.1 rfl (Nat.le_of_ble_eq_true rfl) dX5_meeting_11 ⟨Nat.zero_le _, Nat.zero_le _⟩ (fun r_11 u H locs hw hP hD hS => ?_)
    obtain ⟨F_11, rfl⟩ : ∃ z, z = u := ⟨_, rfl⟩
    try dsimp only at hw
    obtain ⟨q1_11, q2_11⟩ := hw
    have q1_11 := q1_11.symm
    subst q1_11
    have q2_11 := q2_11.symm
    subst q2_11
    have hP : va_P D vwCl [(x, .inr (5, [.ref r, .ref t, .ref im, .int hi, .ref tx, .ref ch, .ref ro, .ref rf, .ref pl, .ref ot, .ref cl])), (rf, .inl (cI, 6, .inl (rf_bump F (-1)))), (r, .inr (1, [.int q, .int nw, .ref rn])), (rn, .inl (cI, 20, .inl v))] H := hP.sub [2, 3, 0, 1] rfl
    have hD : va_D A [(x, .inr (5, [.ref r, .ref t, .ref im, .int hi, .ref tx, .ref ch, .ref ro, .ref rf, .ref pl, .ref ot, .ref cl])), (rf, .inl (cI, 6, .inl (rf_bump F (-1)))), (r, .inr (1, [.int q, .int nw, .ref rn])), (rn, .inl (cI, 20, .inl v))] := hD.sub [2, 3, 0, 1] (by decide) rfl
    exact wrI (w1 := (fun (u : (Nat → Int32)) => [(x, .inr (5, [.ref r, .ref t, .ref im, .int hi, .ref tx, .ref ch, .ref ro, .ref rf, .ref pl, .ref ot, .ref cl])), (rf, .inl (cI, 6, .inl u)), (r, .inr (1, [.int q, .int nw, .ref rn])), (rn, .inl (cI, 20, .inl v))])) (rf_bump F (-1)) hx hb hr hlocks dX5_meeting_14 hS (hP.sub [0, 1, 2, 3] rfl) (hD.sub [0, 1, 2, 3] (by decide) rfl) (by have e9 : rf_mee nw o oo k = -1 := (by unfold rf_mee; rw [if_neg c_6]); simp [e9])
