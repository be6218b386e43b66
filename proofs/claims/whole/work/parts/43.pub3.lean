theorem in_X1_remove_X1 : ∀ w ∈ wsX10, w ∈ wsX1_remove := by decide +kernel
theorem in_X5_count_X0 : ∀ w ∈ wsX00, w ∈ wsX5_count := by decide +kernel
theorem in_X5_count_X1 : ∀ w ∈ wsX10, w ∈ wsX5_count := by decide +kernel
theorem in_X5_count_X4 : ∀ w ∈ wsX40, w ∈ wsX5_count := by decide +kernel
theorem in_X5_count_X5 : ∀ w ∈ wsX50, w ∈ wsX5_count := by decide +kernel
theorem in_X5_drop_X1 : ∀ w ∈ wsX10, w ∈ wsX5_drop := by decide +kernel
theorem in_X5_drop_X5 : ∀ w ∈ wsX50, w ∈ wsX5_drop := by decide +kernel
theorem in_X5_image_X1 : ∀ w ∈ wsX10, w ∈ wsX5_image := by decide +kernel
theorem in_X5_image_X5 : ∀ w ∈ wsX50, w ∈ wsX5_image := by decide +kernel
theorem in_X5_on_X1 : ∀ w ∈ wsX10, w ∈ wsX5_on := by decide +kernel
theorem in_X5_on_X5 : ∀ w ∈ wsX50, w ∈ wsX5_on := by decide +kernel
theorem in_X5_undo_X0 : ∀ w ∈ wsX00, w ∈ wsX5_undo := by decide +kernel
theorem in_X5_undo_X5 : ∀ w ∈ wsX50, w ∈ wsX5_undo := by decide +kernel
set_option maxHeartbeats 4000000 in
set_option maxRecDepth 100000 in
theorem c_X1_remove (l : Launch) (D : va_G) (cI cZ cR : ClassId) (a an : Nat) (q nw : Int32) (v : Nat → Int32) (w K : Nat) (hnw : nw = nI K) (hw : w < K) (hK : K ≤ 5) (sz : Nat) : Met l yX1_remove wsX1_remove ({ frames := 2, cells := 0, slots := 0, locals := 45 }) (PcW D cI cZ cR [.ref a, .int (nI w)] [(a, .inr (1, [.int q, .int nw, .ref an])), (an, .inl (cI, 20, .inl v))] sz) (va_Qv (fun (u : Int32 × (Nat → Int32)) => u.1 = nw - 1 ∧ u.2 = rg_cp v w K) (Bw D (fun (u : Int32 × (Nat → Int32)) => [(a, .inr (1, [.int q, .int u.1, .ref an])), (an, .inl (cI, 20, .inl u.2))]) (va_A [(a, .inr (1, [.int q, .int nw, .ref an])), (an, .inl (cI, 20, .inl v))] sz)) (va_A [(a, .inr (1, [.int q, .int nw, .ref an])), (an, .inl (cI, 20, .inl v))] sz)) 0 0 (va_A [(a, .inr (1, [.int q, .int nw, .ref an])), (an, .inl (cI, 20, .inl v))] sz) := by
  refine Met.ofW (cc := cX1_remove) (maxL := 4) (ret := none) (by decide) rfl ?_
  intro p e s m args below meth c s₁ B hml hv
  obtain ⟨rfl, hsz, hP, hK, hD0, hN⟩ := hv
  have hx := B.exec
  have hb := B.bytes
  have hr := B.returns
  have hts := atoms_spec (ws := wsX1_remove) B.pre
  have hown : s.vm.findClass RX1 = some m.cls := findClass_of_methodNamed B.named
  have hlocks := B.notSynchronized
  subst hsz
  have hD := hD0.self (sz := s.heap.size)
  generalize hAe : va_A [(a, .inr (1, [.int q, .int nw, .ref an])), (an, .inl (cI, 20, .inl v))] s.heap.size = A at hD ⊢
  have hA : ∀ q : Nat, s.heap.size ≤ q → A q := fun q h => by rw [← hAe]; exact Or.inr h
  have hS : va_S A s.heap s.heap [] := va_S.rf
  have hP : va_P D vwCl [(a, .inr (1, [.int q, .int nw, .ref an])), (an, .inl (cI, 20, .inl v))] s.heap := hP
  have hl := lv_entry ([.ref a, .int (nI w)]) (n := 4) (Nat.le_of_ble_eq_true rfl)
  rw [lg_entry_eq]
  generalize (lg_sl ([.ref a, .int (nI w)]) ++ List.replicate (4 - (lg_sl ([.ref a, .int (nI w)])).length) Slot.unset).toArray = ls at hl ⊢
  have hl : lv_has ls 4 [(0, .ref a), (1, .int (nI w))] := hl
  refine lv_iload_n hx hb dX1_remove_0 rfl (lv_at hl 1 rfl) ?_
  refine lv_istore_n (lv' := [(2, .int (nI w)), (0, .ref a), (1, .int (nI w))]) hx hb dX1_remove_1 rfl hl (by decide) rfl (fun ls hl => ?_)
  have loop_2 : ∀ (fuel : Nat), ∀ (i : Nat), ∀ (g : Nat → Int32), (w ≤ i) → (i + 1 ≤ K) → (∀ j, j < 20 → g j = if 4 * w ≤ j ∧ j < 4 * i then v (j + 4) else v j) → (K ≤ i + fuel) → ∀ (y2 : Int32), y2 = nI i → ∀ (H : Heap) (locs : List Loc), va_P D vwCl [(a, .inr (1, [.int q, .int nw, .ref an])), (an, .inl (cI, 20, .inl g))] H → va_D A [(a, .inr (1, [.int q, .int nw, .ref an])), (an, .inl (cI, 20, .inl g))] → va_S A s.heap H locs → ∀ (ls : Array Slot), lv_has ls 4 [(2, .int y2), (0, .ref a), (1, .int (nI w))] → W p l e (headSpec wsX1_remove ({ frames := 2, cells := 0, slots := 0, locals := 45 })).room s m ([.ref a, .int (nI w)] : List Value).toArray below meth c H locs 0 0 (MQ below (va_Qv (fun (u : Int32 × (Nat → Int32)) => u.1 = nw - 1 ∧ u.2 = rg_cp v w K) (Bw D (fun (u : Int32 × (Nat → Int32)) => [(a, .inr (1, [.int q, .int u.1, .ref an])), (an, .inl (cI, 20, .inl u.2))]) A) A) ([.ref a, .int (nI w)] : List Value).toArray s 0 0 A) (F0 m 2 ls []) := by
    intro fuel
    induction fuel with
    | zero =>
      intro i g hwi hi hg hfu
      exact False.elim (by omega)
    | succ fuel ih_2 =>
      intro i g hwi hi hg hfu y2 ey2 H locs hP hD hS ls hl
      subst ey2
      refine lv_iload_n hx hb dX1_remove_2 rfl (lv_at hl 0 rfl) ?_
      refine lv_aload_n hx hb dX1_remove_3 rfl (lv_at hl 1 rfl) ?_
      refine va_get (D := D) (ci := 1) (v := .int nw) (C := RX1) (T := TX1) (N := 3) hx hb hts (in_X1_remove_X1) hown hK hP 0 rfl rfl 1 (by decide) (hts (.fieldLink RX1 15 "StepsRoundCircle$Ring" "walkers" "I") (by decide +kernel)) (fun _ h9 => h9) rfl dX1_remove_4 ?_
      refine lv_iconst (v := 1) hx hb dX1_remove_7 (by decide) ?_
      refine lv_isub hx hb dX1_remove_8 ?_
      refine lv_topi (fun z_9 hz_9 => ?_)
      have hz_9 : z_9 = nI (K - 1) := hz_9.trans (by rw [hnw]; exact pk_sub (b := 1) (by omega))
      subst hz_9
      refine lv_icmp_ge (tgt := 45) hx hb dX1_remove_9 (by decide) (fun c_9 => ?_) (fun c_9 => ?_)
      · skip
        have hi9 : i = K - 1 := by have := (nI_leI (by omega) (by omega)).mp c_9; omega
        have hP : va_P D vwCl [(a, .inr (1, [.int q, .int nw, .ref an])), (an, .inl (cI, 20, .inl (rg_cp v w K)))] H := P_cg hP 1 (rg_cp v w K) rfl (fun j hj => by rw [hg j hj]; unfold rg_cp; by_cases e9 : 4 * w ≤ j ∧ j < 4 * i; (· rw [if_pos e9, if_pos (by omega)]); (· rw [if_neg e9, if_neg (by omega)]))
        have hD : va_D A [(a, .inr (1, [.int q, .int nw, .ref an])), (an, .inl (cI, 20, .inl (rg_cp v w K)))] := D_cg hD 1 _ rfl
        refine lv_aload_n hx hb dX1_remove_45 rfl (lv_at hl 1 rfl) ?_
        refine lv_dup hx hb dX1_remove_46 rfl ?_
        refine va_get (D := D) (ci := 1) (v := .int nw) (C := RX1) (T := TX1) (N := 3) hx hb hts (in_X1_remove_X1) hown hK hP 0 rfl rfl 1 (by decide) (hts (.fieldLink RX1 15 "StepsRoundCircle$Ring" "walkers" "I") (by decide +kernel)) (fun _ h9 => h9) rfl dX1_remove_47 ?_
        refine lv_iconst (v := 1) hx hb dX1_remove_50 (by decide) ?_
        refine lv_isub hx hb dX1_remove_51 ?_
        refine va_put (D := D) (ci := 1) (v := .int (nw - 1)) (ty := .int) (C := RX1) (T := TX1) (N := 3) hx hb hts (in_X1_remove_X1) tyX1 tyX1_ok nmX1 hown hK hP hD hS 0 rfl rfl 1 (by decide) (hts (.fieldLink RX1 15 "StepsRoundCircle$Ring" "walkers" "I") (by decide +kernel)) (fun _ h9 => h9) rfl (by decide +kernel) rfl rfl (Nat.le_of_ble_eq_true rfl) dX1_remove_52 (fun H locs hP hD hS => ?_)
        have hP : va_P D vwCl [(a, .inr (1, [.int q, .int (nw - 1), .ref an])), (an, .inl (cI, 20, .inl (rg_cp v w K)))] H := hP
        have hD : va_D A [(a, .inr (1, [.int q, .int (nw - 1), .ref an])), (an, .inl (cI, 20, .inl (rg_cp v w K)))] := hD
        exact wrV (w1 := (fun (u : Int32 × (Nat → Int32)) => [(a, .inr (1, [.int q, .int u.1, .ref an])), (an, .inl (cI, 20, .inl u.2))])) ((nw - 1), (rg_cp v w K)) hx hb hr hlocks dX1_remove_55 hS (hP.sub [0, 1] rfl) (hD.sub [0, 1] (by decide) rfl) (by first | exact ⟨rfl, rfl⟩ | rfl | (simp [bi, c_9, Int32.not_lt.mpr c_9]; done))
      · skip
        have hiK : i < K - 1 := by rcases Nat.lt_or_ge i (K - 1) with q9 | q9; exact q9; exact absurd (nI_le q9 (by omega)) c_9
        refine lv_iconst (v := 0) hx hb dX1_remove_12 (by decide) ?_
        refine lv_istore_n (lv' := [(3, .int 0), (2, .int (nI i)), (0, .ref a), (1, .int (nI w))]) hx hb dX1_remove_13 rfl hl (by decide) rfl (fun ls hl => ?_)
        have loop_14 : ∀ (fuel : Nat), ∀ (t : Nat), ∀ (g2 : Nat → Int32), (t ≤ 4) → (∀ j, j < 20 → g2 j = if 4 * w ≤ j ∧ j < 4 * i + t then v (j + 4) else v j) → (5 ≤ t + fuel) → ∀ (y3 : Int32), y3 = nI t → ∀ (H : Heap) (locs : List Loc), va_P D vwCl [(a, .inr (1, [.int q, .int nw, .ref an])), (an, .inl (cI, 20, .inl g2))] H → va_D A [(a, .inr (1, [.int q, .int nw, .ref an])), (an, .inl (cI, 20, .inl g2))] → va_S A s.heap H locs → ∀ (ls : Array Slot), lv_has ls 4 [(3, .int y3), (0, .ref a), (1, .int (nI w)), (2, .int (nI i))] → W p l e (headSpec wsX1_remove ({ frames := 2, cells := 0, slots := 0, locals := 45 })).room s m ([.ref a, .int (nI w)] : List Value).toArray below meth c H locs 0 0 (MQ below (va_Qv (fun (u : Int32 × (Nat → Int32)) => u.1 = nw - 1 ∧ u.2 = rg_cp v w K) (Bw D (fun (u : Int32 × (Nat → Int32)) => [(a, .inr (1, [.int q, .int u.1, .ref an])), (an, .inl (cI, 20, .inl u.2))]) A) A) ([.ref a, .int (nI w)] : List Value).toArray s 0 0 A) (F0 m 14 ls []) := by
          intro fuel
          induction fuel with
          | zero =>
            intro t g2 ht hg2 hfu2
            exact False.elim (by omega)
          | succ fuel ih_14 =>
            intro t g2 ht hg2 hfu2 y3 ey3 H locs hP hD hS ls hl
            subst ey3
            refine lv_iload_n hx hb dX1_remove_14 rfl (lv_at hl 0 rfl) ?_
            refine lv_iconst (v := 4) hx hb dX1_remove_15 (by decide) ?_
            refine lv_icmp_ge (tgt := 39) hx hb dX1_remove_16 (by decide) (fun c_16 => ?_) (fun c_16 => ?_)
            · skip
              have ht9 : t = 4 := by have := (nI_leI (a := 4) (b := t) (by omega) (by omega)).mp c_16; omega
              refine lv_iinc (v := (nI i) + 1) (lv' := [(2, .int ((nI i) + 1)), (3, .int (nI t)), (0, .ref a), (1, .int (nI w))]) hx hb dX1_remove_39 hl (k := 3) rfl (by rfl) (by decide) rfl (fun ls hl => ?_)
              refine lv_goto (tgt := 2) hx hb dX1_remove_42 (by decide) ?_
              exact ih_2 (i + 1) g2 (by omega) (by omega) (fun j hj => by rw [hg2 j hj]; by_cases e9 : 4 * w ≤ j ∧ j < 4 * i + t; (· rw [if_pos e9, if_pos (by omega)]); (· rw [if_neg e9, if_neg (by omega)])) (by omega) _ (by first | rfl | exact nI_1 _ | exact nI_0.symm) _ _ (hP.sub [0, 1] rfl) (hD.sub [0, 1] (by decide) rfl) hS ls (lv_sub hl [0, 2, 3] rfl)
            · skip
              have ht4 : t < 4 := by rcases Nat.lt_or_ge t 4 with q9 | q9; exact q9; exact absurd (nI_le q9 (by omega)) c_16
              refine lv_aload_n hx hb dX1_remove_19 rfl (lv_at hl 1 rfl) ?_
              refine lv_iload_n hx hb dX1_remove_20 rfl (lv_at hl 3 rfl) ?_
              refine lv_iload_n hx hb dX1_remove_21 rfl (lv_at hl 0 rfl) ?_
              refine lv_aload_n hx hb dX1_remove_22 rfl (lv_at hl 1 rfl) ?_
              refine lv_iload_n hx hb dX1_remove_23 rfl (lv_at hl 3 rfl) ?_
              refine lv_iconst (v := 1) hx hb dX1_remove_24 (by decide) ?_
              refine lv_iadd hx hb dX1_remove_25 ?_
              refine lv_iload_n hx hb dX1_remove_26 rfl (lv_at hl 0 rfl) ?_
              refine rdV (As := [.int ((nI i) + 1), .int (nI t)]) (rest := [.int (nI t), .int (nI i), .ref a]) ⟨hx, hb, hml, hown, hts⟩ (c_X1_value l D cI cZ cR a an q nw g2 ((nI i) + 1) (nI t) ) (cwV 2 hts gX1_remove_X1_value rfl rfl rfl (by decide +kernel) ⟨Nat.le_of_ble_eq_true rfl, Nat.le_of_ble_eq_true rfl⟩) hK hN hP 0 1 rfl rfl rfl [0, 1] rfl rfl hl.1 rfl (Nat.le_of_ble_eq_true rfl) dX1_remove_27 ⟨Nat.zero_le _, Nat.zero_le _⟩ ?_
              refine lv_topi (fun z_30 hz_30 => ?_)
              have hz_30 : z_30 = v (4 * (i + 1) + t) := hz_30.trans (by rw [nI_1, rg_valN (by omega), hg2 _ (by omega), if_neg (by omega)])
              subst hz_30
              refine wrVv (As := [.int (nI i), .int (nI t), .int (v (4 * (i + 1) + t))]) (rest := []) (wr := []) (A := A) ⟨hx, hb, hml, hown, hts⟩ (c_X1_setValue l D cI cZ cR a an q nw g2 (nI i) (nI t) (v (4 * (i + 1) + t))  H.size) (cwV 3 hts gX1_remove_X1_setValue rfl rfl rfl (by decide +kernel) ⟨Nat.le_of_ble_eq_true rfl, Nat.le_of_ble_eq_true rfl⟩) hK hN hP hD hS hA 0 1 rfl rfl rfl [0, 1] [] rfl (by decide) rfl (by decide) (by decide) rfl hl.1 rfl (Nat.le_of_ble_eq_true rfl) dX1_remove_30 ⟨Nat.zero_le _, Nat.zero_le _⟩ (fun u H locs hw hP hD hS => ?_)
              obtain ⟨v_30, rfl⟩ : ∃ z, z = u := ⟨_, rfl⟩
              try dsimp only at hw
              have q1_30 := hw
              have q1_30 := q1_30.symm
              subst q1_30
              have hP : va_P D vwCl [(a, .inr (1, [.int q, .int nw, .ref an])), (an, .inl (cI, 20, .inl (rg_set g2 (nI i) (nI t) (v (4 * (i + 1) + t)))))] H := hP.sub [0, 1] rfl
              have hD : va_D A [(a, .inr (1, [.int q, .int nw, .ref an])), (an, .inl (cI, 20, .inl (rg_set g2 (nI i) (nI t) (v (4 * (i + 1) + t)))))] := hD.sub [0, 1] (by decide) rfl
              refine lv_iinc (v := (nI t) + 1) (lv' := [(3, .int ((nI t) + 1)), (0, .ref a), (1, .int (nI w)), (2, .int (nI i))]) hx hb dX1_remove_33 hl (k := 0) rfl (by rfl) (by decide) rfl (fun ls hl => ?_)
              refine lv_goto (tgt := 14) hx hb dX1_remove_36 (by decide) ?_
              exact ih_14 (t + 1) (rg_set g2 (nI i) (nI t) (v (4 * (i + 1) + t))) (by omega) (fun j hj => by rw [rg_setN (by omega)]; by_cases e9 : j = 4 * i + t; (· rw [e9, pk_us, if_pos (by omega)]; congr 1; omega); (· rw [pk_un e9, hg2 j hj]; by_cases e8 : 4 * w ≤ j ∧ j < 4 * i + t; (· rw [if_pos e8, if_pos (by omega)]); (· rw [if_neg e8, if_neg (by omega)]))) (by omega) _ (by first | rfl | exact nI_1 _ | exact nI_0.symm) _ _ (hP.sub [0, 1] rfl) (hD.sub [0, 1] (by decide) rfl) hS ls (lv_sub hl [0, 1, 2, 3] rfl)
        exact loop_14 5 0 g (by omega) hg (by omega) _ (by first | rfl | exact nI_1 _ | exact nI_0.symm) _ _ (hP.sub [0, 1] rfl) (hD.sub [0, 1] (by decide) rfl) hS ls (lv_sub hl [0, 2, 3, 1] rfl)
  exact loop_2 K w v (by omega) (by omega) (fun j hj => by rw [if_neg (by omega)]) (by omega) _ rfl _ _ (hP.sub [0, 1] rfl) (hD.sub [0, 1] (by decide) rfl) hS ls (lv_sub hl [0, 1, 2] rfl)

set_option maxHeartbeats 4000000 in
set_option maxRecDepth 100000 in
theorem c_X5_drop (l : Launch) (D : va_G) (cI cZ cR : ClassId) (x r t im tx ch ro rf pl ot cl : Nat) (hi : Int32) (F : Nat → Int32) (rn : Nat) (q nw : Int32) (v : Nat → Int32) (cn : Nat) (cz : Int32) (cf : Nat → Int32) (K : Nat) (hnw : nw = nI K) (hK5 : K ≤ 5) (sz : Nat) : Met l yX5_drop wsX5_drop ({ frames := 3, cells := 0, slots := 0, locals := 68 }) (PcW D cI cZ cR [.ref x] [(x, .inr (5, [.ref r, .ref t, .ref im, .int hi, .ref tx, .ref ch, .ref ro, .ref rf, .ref pl, .ref ot, .ref cl])), (rf, .inl (cI, 6, .inl F)), (r, .inr (1, [.int q, .int nw, .ref rn])), (rn, .inl (cI, 20, .inl v)), (ch, .inr (0, [.int cz, .ref cn])), (cn, .inl (cI, 48, .inl cf))] sz) (va_Qi (fun (res : Int32) (u : (Nat → Int32) × Int32 × Int32) => res = (if rf_z nw = 0 then nw - 1 else rf_z nw) ∧ u.1 = (if rf_z nw = 0 then F else rf_bump F (rf_z nw)) ∧ u.2.1 = (if rf_z nw = 0 then nw - 1 else nw) ∧ u.2.2 = (if rf_z nw = 0 then 0 else cz)) (Bw D (fun (u : (Nat → Int32) × Int32 × Int32) => [(x, .inr (5, [.ref r, .ref t, .ref im, .int hi, .ref tx, .ref ch, .ref ro, .ref rf, .ref pl, .ref ot, .ref cl])), (rf, .inl (cI, 6, .inl u.1)), (r, .inr (1, [.int q, .int u.2.1, .ref rn])), (rn, .inl (cI, 20, .inl v)), (ch, .inr (0, [.int u.2.2, .ref cn])), (cn, .inl (cI, 48, .inl cf))]) (va_A [(x, .inr (5, [.ref r, .ref t, .ref im, .int hi, .ref tx, .ref ch, .ref ro, .ref rf, .ref pl, .ref ot, .ref cl])), (rf, .inl (cI, 6, .inl F)), (r, .inr (1, [.int q, .int nw, .ref rn])), (rn, .inl (cI, 20, .inl v)), (ch, .inr (0, [.int cz, .ref cn])), (cn, .inl (cI, 48, .inl cf))] sz)) (va_A [(x, .inr (5, [.ref r, .ref t, .ref im, .int hi, .ref tx, .ref ch, .ref ro, .ref rf, .ref pl, .ref ot, .ref cl])), (rf, .inl (cI, 6, .inl F)), (r, .inr (1, [.int q, .int nw, .ref rn])), (rn, .inl (cI, 20, .inl v)), (ch, .inr (0, [.int cz, .ref cn])), (cn, .inl (cI, 48, .inl cf))] sz)) 0 0 (va_A [(x, .inr (5, [.ref r, .ref t, .ref im, .int hi, .ref tx, .ref ch, .ref ro, .ref rf, .ref pl, .ref ot, .ref cl])), (rf, .inl (cI, 6, .inl F)), (r, .inr (1, [.int q, .int nw, .ref rn])), (rn, .inl (cI, 20, .inl v)), (ch, .inr (0, [.int cz, .ref cn])), (cn, .inl (cI, 48, .inl cf))] sz) := by
  refine Met.ofW (cc := cX5_drop) (maxL := 1) (ret := (some .int)) (by decide) rfl ?_
  intro p e s m args below meth c s₁ B hml hv
  obtain ⟨rfl, hsz, hP, hK, hD0, hN⟩ := hv
  have hx := B.exec
  have hb := B.bytes
  have hr := B.returns
  have hts := atoms_spec (ws := wsX5_drop) B.pre
  have hown : s.vm.findClass RX5 = some m.cls := findClass_of_methodNamed B.named
  have hlocks := B.notSynchronized
  subst hsz
  have hD := hD0.self (sz := s.heap.size)
  generalize hAe : va_A [(x, .inr (5, [.ref r, .ref t, .ref im, .int hi, .ref tx, .ref ch, .ref ro, .ref rf, .ref pl, .ref ot, .ref cl])), (rf, .inl (cI, 6, .inl F)), (r, .inr (1, [.int q, .int nw, .ref rn])), (rn, .inl (cI, 20, .inl v)), (ch, .inr (0, [.int cz, .ref cn])), (cn, .inl (cI, 48, .inl cf))] s.heap.size = A at hD ⊢
  have hA : ∀ q : Nat, s.heap.size ≤ q → A q := fun q h => by rw [← hAe]; exact Or.inr h
  have hS : va_S A s.heap s.heap [] := va_S.rf
  have hP : va_P D vwCl [(x, .inr (5, [.ref r, .ref t, .ref im, .int hi, .ref tx, .ref ch, .ref ro, .ref rf, .ref pl, .ref ot, .ref cl])), (rf, .inl (cI, 6, .inl F)), (r, .inr (1, [.int q, .int nw, .ref rn])), (rn, .inl (cI, 20, .inl v)), (ch, .inr (0, [.int cz, .ref cn])), (cn, .inl (cI, 48, .inl cf))] s.heap := hP
  have hl := lv_entry ([.ref x]) (n := 1) (Nat.le_of_ble_eq_true rfl)
  rw [lg_entry_eq]
  generalize (lg_sl ([.ref x]) ++ List.replicate (1 - (lg_sl ([.ref x])).length) Slot.unset).toArray = ls at hl ⊢
  have hl : lv_has ls 1 [(0, .ref x)] := hl
  refine lv_aload_n hx hb dX5_drop_0 rfl (lv_at hl 0 rfl) ?_
  refine va_get (D := D) (ci := 5) (v := .ref r) (C := RX5) (T := TX5) (N := 11) hx hb hts (in_X5_drop_X5) hown hK hP 0 rfl rfl 0 (by decide) (hts (.fieldLink RX5 10 "StepsRoundCircle" "ring" "LStepsRoundCircle$Ring;") (by decide +kernel)) (fun _ h9 => h9) rfl dX5_drop_1 ?_
  refine va_get (D := D) (ci := 1) (v := .int nw) (C := RX1) (T := TX1) (N := 3) hx hb hts (in_X5_drop_X1) hown hK hP 2 rfl rfl 1 (by decide) (hts (.fieldLink RX5 103 "StepsRoundCircle$Ring" "walkers" "I") (by decide +kernel)) (fun _ h9 => h9) rfl dX5_drop_4 ?_
  refine lv_if_ne (tgt := 17) hx hb dX5_drop_7 (by decide) (fun c_7 => ?_) (fun c_7 => ?_)
  · skip
    have hK0 : 0 < K := by rcases Nat.eq_zero_or_pos K with q9 | q9; exact absurd (by rw [hnw, q9]; exact nI_0) c_7; exact q9
    refine lv_aload_n hx hb dX5_drop_17 rfl (lv_at hl 0 rfl) ?_
    refine va_get (D := D) (ci := 5) (v := .ref r) (C := RX5) (T := TX5) (N := 11) hx hb hts (in_X5_drop_X5) hown hK hP 0 rfl rfl 0 (by decide) (hts (.fieldLink RX5 10 "StepsRoundCircle" "ring" "LStepsRoundCircle$Ring;") (by decide +kernel)) (fun _ h9 => h9) rfl dX5_drop_18 ?_
    refine lv_aload_n hx hb dX5_drop_21 rfl (lv_at hl 0 rfl) ?_
    refine va_get (D := D) (ci := 5) (v := .ref r) (C := RX5) (T := TX5) (N := 11) hx hb hts (in_X5_drop_X5) hown hK hP 0 rfl rfl 0 (by decide) (hts (.fieldLink RX5 10 "StepsRoundCircle" "ring" "LStepsRoundCircle$Ring;") (by decide +kernel)) (fun _ h9 => h9) rfl dX5_drop_22 ?_
    refine va_get (D := D) (ci := 1) (v := .int nw) (C := RX1) (T := TX1) (N := 3) hx hb hts (in_X5_drop_X1) hown hK hP 2 rfl rfl 1 (by decide) (hts (.fieldLink RX5 103 "StepsRoundCircle$Ring" "walkers" "I") (by decide +kernel)) (fun _ h9 => h9) rfl dX5_drop_25 ?_
    refine lv_iconst (v := 1) hx hb dX5_drop_28 (by decide) ?_
    refine lv_isub hx hb dX5_drop_29 ?_
    refine lv_topi (fun z_30 hz_30 => ?_)
    have hz_30 : z_30 = nI (K - 1) := hz_30.trans (by rw [hnw]; exact pk_sub (b := 1) hK0)
    subst hz_30
    refine wrVv (As := [.int (nI (K - 1))]) (rest := []) (wr := [(x, .inr (5, [.ref r, .ref t, .ref im, .int hi, .ref tx, .ref ch, .ref ro, .ref rf, .ref pl, .ref ot, .ref cl])), (rf, .inl (cI, 6, .inl F)), (ch, .inr (0, [.int cz, .ref cn])), (cn, .inl (cI, 48, .inl cf))]) (A := A) ⟨hx, hb, hml, hown, hts⟩ (c_X1_remove l D cI cZ cR r rn q nw v (K - 1) K hnw (by omega) hK5 s.heap.size) (cwV 1 hts gX5_drop_X1_remove rfl rfl rfl (by decide +kernel) ⟨Nat.le_of_ble_eq_true rfl, Nat.le_of_ble_eq_true rfl⟩) hK hN hP hD hS hA 2 1 rfl rfl rfl [2, 3] [0, 1, 4, 5] rfl (by decide) rfl (by decide) (by decide) rfl hl.1 rfl (Nat.le_of_ble_eq_true rfl) dX5_drop_30 ⟨Nat.zero_le _, Nat.zero_le _⟩ (fun u H locs hw hP hD hS => ?_)
    obtain ⟨nw_30, v_30⟩ := u
    try dsimp only at hw
    obtain ⟨q1_30, q2_30⟩ := hw
    have q1_30 := q1_30.symm
    subst q1_30
    have q2_30 := q2_30.symm
    subst q2_30
    have hP : va_P D vwCl [(x, .inr (5, [.ref r, .ref t, .ref im, .int hi, .ref tx, .ref ch, .ref ro, .ref rf, .ref pl, .ref ot, .ref cl])), (rf, .inl (cI, 6, .inl F)), (r, .inr (1, [.int q, .int (nw - 1), .ref rn])), (rn, .inl (cI, 20, .inl (rg_cp v (K - 1) K))), (ch, .inr (0, [.int cz, .ref cn])), (cn, .inl (cI, 48, .inl cf))] H := hP.sub [0, 1, 4, 5, 2, 3] rfl
    have hD : va_D A [(x, .inr (5, [.ref r, .ref t, .ref im, .int hi, .ref tx, .ref ch, .ref ro, .ref rf, .ref pl, .ref ot, .ref cl])), (rf, .inl (cI, 6, .inl F)), (r, .inr (1, [.int q, .int (nw - 1), .ref rn])), (rn, .inl (cI, 20, .inl (rg_cp v (K - 1) K))), (ch, .inr (0, [.int cz, .ref cn])), (cn, .inl (cI, 48, .inl cf))] := hD.sub [0, 1, 4, 5, 2, 3] (by decide) rfl
    have hP : va_P D vwCl [(x, .inr (5, [.ref r, .ref t, .ref im, .int hi, .ref tx, .ref ch, .ref ro, .ref rf, .ref pl, .ref ot, .ref cl])), (rf, .inl (cI, 6, .inl F)), (r, .inr (1, [.int q, .int (nw - 1), .ref rn])), (rn, .inl (cI, 20, .inl v)), (ch, .inr (0, [.int cz, .ref cn])), (cn, .inl (cI, 48, .inl cf))] H := P_cg hP 3 v rfl (rg_cp_end v hK0)
    have hD : va_D A [(x, .inr (5, [.ref r, .ref t, .ref im, .int hi, .ref tx, .ref ch, .ref ro, .ref rf, .ref pl, .ref ot, .ref cl])), (rf, .inl (cI, 6, .inl F)), (r, .inr (1, [.int q, .int (nw - 1), .ref rn])), (rn, .inl (cI, 20, .inl v)), (ch, .inr (0, [.int cz, .ref cn])), (cn, .inl (cI, 48, .inl cf))] := D_cg hD 3 _ rfl
    refine lv_aload_n hx hb dX5_drop_33 rfl (lv_at hl 0 rfl) ?_
    refine va_get (D := D) (ci := 5) (v := .ref ch) (C := RX5) (T := TX5) (N := 11) hx hb hts (in_X5_drop_X5) hown hK hP 0 rfl rfl 5 (by decide) (hts (.fieldLink RX5 36 "StepsRoundCircle" "changes" "LStepsRoundCircle$Changes;") (by decide +kernel)) (fun _ h9 => h9) rfl dX5_drop_34 ?_
    refine wrVv (As := []) (rest := []) (wr := [(x, .inr (5, [.ref r, .ref t, .ref im, .int hi, .ref tx, .ref ch, .ref ro, .ref rf, .ref pl, .ref ot, .ref cl])), (rf, .inl (cI, 6, .inl F)), (r, .inr (1, [.int q, .int (nw - 1), .ref rn])), (rn, .inl (cI, 20, .inl v))]) (A := A) ⟨hx, hb, hml, hown, hts⟩ (c_X0_clear l D cI cZ cR ch cn cz cf  H.size) (cwV 0 hts gX5_drop_X0_clear rfl rfl rfl (by decide +kernel) ⟨Nat.le_of_ble_eq_true rfl, Nat.le_of_ble_eq_true rfl⟩) hK hN hP hD hS hA 4 0 rfl rfl rfl [4, 5] [0, 1, 2, 3] rfl (by decide) rfl (by decide) (by decide) rfl hl.1 rfl (Nat.le_of_ble_eq_true rfl) dX5_drop_37 ⟨Nat.zero_le _, Nat.zero_le _⟩ (fun u H locs hw hP hD hS => ?_)
    obtain ⟨z_37, rfl⟩ : ∃ z, z = u := ⟨_, rfl⟩
    try dsimp only at hw
    have q1_37 := hw
    have q1_37 := q1_37.symm
    subst q1_37
    have hP : va_P D vwCl [(x, .inr (5, [.ref r, .ref t, .ref im, .int hi, .ref tx, .ref ch, .ref ro, .ref rf, .ref pl, .ref ot, .ref cl])), (rf, .inl (cI, 6, .inl F)), (r, .inr (1, [.int q, .int (nw - 1), .ref rn])), (rn, .inl (cI, 20, .inl v)), (ch, .inr (0, [.int 0, .ref cn])), (cn, .inl (cI, 48, .inl cf))] H := hP.sub [0, 1, 2, 3, 4, 5] rfl
    have hD : va_D A [(x, .inr (5, [.ref r, .ref t, .ref im, .int hi, .ref tx, .ref ch, .ref ro, .ref rf, .ref pl, .ref ot, .ref cl])), (rf, .inl (cI, 6, .inl F)), (r, .inr (1, [.int q, .int (nw - 1), .ref rn])), (rn, .inl (cI, 20, .inl v)), (ch, .inr (0, [.int 0, .ref cn])), (cn, .inl (cI, 48, .inl cf))] := hD.sub [0, 1, 2, 3, 4, 5] (by decide) rfl
    refine lv_aload_n hx hb dX5_drop_40 rfl (lv_at hl 0 rfl) ?_
    refine va_get (D := D) (ci := 5) (v := .ref r) (C := RX5) (T := TX5) (N := 11) hx hb hts (in_X5_drop_X5) hown hK hP 0 rfl rfl 0 (by decide) (hts (.fieldLink RX5 10 "StepsRoundCircle" "ring" "LStepsRoundCircle$Ring;") (by decide +kernel)) (fun _ h9 => h9) rfl dX5_drop_41 ?_
    refine va_get (D := D) (ci := 1) (v := .int (nw - 1)) (C := RX1) (T := TX1) (N := 3) hx hb hts (in_X5_drop_X1) hown hK hP 2 rfl rfl 1 (by decide) (hts (.fieldLink RX5 103 "StepsRoundCircle$Ring" "walkers" "I") (by decide +kernel)) (fun _ h9 => h9) rfl dX5_drop_44 ?_
    exact wrI (w1 := (fun (u : (Nat → Int32) × Int32 × Int32) => [(x, .inr (5, [.ref r, .ref t, .ref im, .int hi, .ref tx, .ref ch, .ref ro, .ref rf, .ref pl, .ref ot, .ref cl])), (rf, .inl (cI, 6, .inl u.1)), (r, .inr (1, [.int q, .int u.2.1, .ref rn])), (rn, .inl (cI, 20, .inl v)), (ch, .inr (0, [.int u.2.2, .ref cn])), (cn, .inl (cI, 48, .inl cf))])) (F, (nw - 1), 0) hx hb hr hlocks dX5_drop_47 hS (hP.sub [0, 1, 2, 3, 4, 5] rfl) (hD.sub [0, 1, 2, 3, 4, 5] (by decide) rfl) (by first | exact ⟨rfl, rfl⟩ | rfl | (simp [bi, rf_z, c_7]; done))
  · skip
    refine lv_aload_n hx hb dX5_drop_10 rfl (lv_at hl 0 rfl) ?_
    refine lv_bipush (v := (-3)) hx hb dX5_drop_11 (by decide) ?_
    refine wrVi (As := [.int (-3)]) (rest := []) (wr := [(r, .inr (1, [.int q, .int nw, .ref rn])), (rn, .inl (cI, 20, .inl v)), (ch, .inr (0, [.int cz, .ref cn])), (cn, .inl (cI, 48, .inl cf))]) (A := A) ⟨hx, hb, hml, hown, hts⟩ (c_X5_refuse l D cI cZ cR x r t im tx ch ro rf pl ot cl hi F (-3)  s.heap.size) (cwV 1 hts gX5_drop_X5_refuse rfl rfl rfl (by decide +kernel) ⟨Nat.le_of_ble_eq_true rfl, Nat.le_of_ble_eq_true rfl⟩) hK hN hP hD hS hA 0 5 rfl rfl rfl [0, 1] [2, 3, 4, 5] rfl (by decide) rfl (by decide) (by decide) rfl hl.1 rfl (Nat.le_of_ble_eq_true rfl) dX5_drop_13 ⟨Nat.zero_le _, Nat.zero_le _⟩ (fun r_13 u H locs hw hP hD hS => ?_)
    obtain ⟨F_13, rfl⟩ : ∃ z, z = u := ⟨_, rfl⟩
    try dsimp only at hw
    obtain ⟨q1_13, q2_13⟩ := hw
    have q1_13 := q1_13.symm
    subst q1_13
    have q2_13 := q2_13.symm
    subst q2_13
    have hP : va_P D vwCl [(x, .inr (5, [.ref r, .ref t, .ref im, .int hi, .ref tx, .ref ch, .ref ro, .ref rf, .ref pl, .ref ot, .ref cl])), (rf, .inl (cI, 6, .inl (rf_bump F (-3)))), (r, .inr (1, [.int q, .int nw, .ref rn])), (rn, .inl (cI, 20, .inl v)), (ch, .inr (0, [.int cz, .ref cn])), (cn, .inl (cI, 48, .inl cf))] H := hP.sub [4, 5, 0, 1, 2, 3] rfl
    have hD : va_D A [(x, .inr (5, [.ref r, .ref t, .ref im, .int hi, .ref tx, .ref ch, .ref ro, .ref rf, .ref pl, .ref ot, .ref cl])), (rf, .inl (cI, 6, .inl (rf_bump F (-3)))), (r, .inr (1, [.int q, .int nw, .ref rn])), (rn, .inl (cI, 20, .inl v)), (ch, .inr (0, [.int cz, .ref cn])), (cn, .inl (cI, 48, .inl cf))] := hD.sub [4, 5, 0, 1, 2, 3] (by decide) rfl
    exact wrI (w1 := (fun (u : (Nat → Int32) × Int32 × Int32) => [(x, .inr (5, [.ref r, .ref t, .ref im, .int hi, .ref tx, .ref ch, .ref ro, .ref rf, .ref pl, .ref ot, .ref cl])), (rf, .inl (cI, 6, .inl u.1)), (r, .inr (1, [.int q, .int u.2.1, .ref rn])), (rn, .inl (cI, 20, .inl v)), (ch, .inr (0, [.int u.2.2, .ref cn])), (cn, .inl (cI, 48, .inl cf))])) ((rf_bump F (-3)), nw, cz) hx hb hr hlocks dX5_drop_16 hS (hP.sub [0, 1, 2, 3, 4, 5] rfl) (hD.sub [0, 1, 2, 3, 4, 5] (by decide) rfl) (by first | exact ⟨rfl, rfl⟩ | rfl | (simp [bi, rf_z, c_7]; done))

set_option maxHeartbeats 4000000 in
set_option maxRecDepth 100000 in
theorem c_X5_undo (l : Launch) (D : va_G) (cI cZ cR : ClassId) (x r t im tx ch ro rf pl ot cl : Nat) (hi : Int32) (F : Nat → Int32) (rn : Nat) (q nw : Int32) (v : Nat → Int32) (cn : Nat) (cz : Int32) (cf : Nat → Int32) (sz : Nat) : Met l yX5_undo wsX5_undo ({ frames := 3, cells := 0, slots := 0, locals := 63 }) (PcW D cI cZ cR [.ref x] [(x, .inr (5, [.ref r, .ref t, .ref im, .int hi, .ref tx, .ref ch, .ref ro, .ref rf, .ref pl, .ref ot, .ref cl])), (rf, .inl (cI, 6, .inl F)), (r, .inr (1, [.int q, .int nw, .ref rn])), (rn, .inl (cI, 20, .inl v)), (ch, .inr (0, [.int cz, .ref cn])), (cn, .inl (cI, 48, .inl cf))] sz) (va_Qi (fun (res : Int32) (u : (Nat → Int32) × (Nat → Int32) × Int32) => res = (if rf_z cz = 0 then ch_less cz else rf_z cz) ∧ u.1 = (if rf_z cz = 0 then F else rf_bump F (rf_z cz)) ∧ u.2.1 = (if rf_z cz = 0 then undv v cf cz else v) ∧ u.2.2 = (if rf_z cz = 0 then ch_less cz else cz)) (Bw D (fun (u : (Nat → Int32) × (Nat → Int32) × Int32) => [(x, .inr (5, [.ref r, .ref t, .ref im, .int hi, .ref tx, .ref ch, .ref ro, .ref rf, .ref pl, .ref ot, .ref cl])), (rf, .inl (cI, 6, .inl u.1)), (r, .inr (1, [.int q, .int nw, .ref rn])), (rn, .inl (cI, 20, .inl u.2.1)), (ch, .inr (0, [.int u.2.2, .ref cn])), (cn, .inl (cI, 48, .inl cf))]) (va_A [(x, .inr (5, [.ref r, .ref t, .ref im, .int hi, .ref tx, .ref ch, .ref ro, .ref rf, .ref pl, .ref ot, .ref cl])), (rf, .inl (cI, 6, .inl F)), (r, .inr (1, [.int q, .int nw, .ref rn])), (rn, .inl (cI, 20, .inl v)), (ch, .inr (0, [.int cz, .ref cn])), (cn, .inl (cI, 48, .inl cf))] sz)) (va_A [(x, .inr (5, [.ref r, .ref t, .ref im, .int hi, .ref tx, .ref ch, .ref ro, .ref rf, .ref pl, .ref ot, .ref cl])), (rf, .inl (cI, 6, .inl F)), (r, .inr (1, [.int q, .int nw, .ref rn])), (rn, .inl (cI, 20, .inl v)), (ch, .inr (0, [.int cz, .ref cn])), (cn, .inl (cI, 48, .inl cf))] sz)) 0 0 (va_A [(x, .inr (5, [.ref r, .ref t, .ref im, .int hi, .ref tx, .ref ch, .ref ro, .ref rf, .ref pl, .ref ot, .ref cl])), (rf, .inl (cI, 6, .inl F)), (r, .inr (1, [.int q, .int nw, .ref rn])), (rn, .inl (cI, 20, .inl v)), (ch, .inr (0, [.int cz, .ref cn])), (cn, .inl (cI, 48, .inl cf))] sz) := by
  refine Met.ofW (cc := cX5_undo) (maxL := 2) (ret := (some .int)) (by decide) rfl ?_
  intro p e s m args below meth c s₁ B hml hv
  obtain ⟨rfl, hsz, hP, hK, hD0, hN⟩ := hv
  have hx := B.exec
  have hb := B.bytes
  have hr := B.returns
  have hts := atoms_spec (ws := wsX5_undo) B.pre
  have hown : s.vm.findClass RX5 = some m.cls := findClass_of_methodNamed B.named
  have hlocks := B.notSynchronized
  subst hsz
  have hD := hD0.self (sz := s.heap.size)
  generalize hAe : va_A [(x, .inr (5, [.ref r, .ref t, .ref im, .int hi, .ref tx, .ref ch, .ref ro, .ref rf, .ref pl, .ref ot, .ref cl])), (rf, .inl (cI, 6, .inl F)), (r, .inr (1, [.int q, .int nw, .ref rn])), (rn, .inl (cI, 20, .inl v)), (ch, .inr (0, [.int cz, .ref cn])), (cn, .inl (cI, 48, .inl cf))] s.heap.size = A at hD ⊢
  have hA : ∀ q : Nat, s.heap.size ≤ q → A q := fun q h => by rw [← hAe]; exact Or.inr h
  have hS : va_S A s.heap s.heap [] := va_S.rf
  have hP : va_P D vwCl [(x, .inr (5, [.ref r, .ref t, .ref im, .int hi, .ref tx, .ref ch, .ref ro, .ref rf, .ref pl, .ref ot, .ref cl])), (rf, .inl (cI, 6, .inl F)), (r, .inr (1, [.int q, .int nw, .ref rn])), (rn, .inl (cI, 20, .inl v)), (ch, .inr (0, [.int cz, .ref cn])), (cn, .inl (cI, 48, .inl cf))] s.heap := hP
  have hl := lv_entry ([.ref x]) (n := 2) (Nat.le_of_ble_eq_true rfl)
  rw [lg_entry_eq]
  generalize (lg_sl ([.ref x]) ++ List.replicate (2 - (lg_sl ([.ref x])).length) Slot.unset).toArray = ls at hl ⊢
  have hl : lv_has ls 2 [(0, .ref x)] := hl
  refine lv_aload_n hx hb dX5_undo_0 rfl (lv_at hl 0 rfl) ?_
  refine va_get (D := D) (ci := 5) (v := .ref ch) (C := RX5) (T := TX5) (N := 11) hx hb hts (in_X5_undo_X5) hown hK hP 0 rfl rfl 5 (by decide) (hts (.fieldLink RX5 36 "StepsRoundCircle" "changes" "LStepsRoundCircle$Changes;") (by decide +kernel)) (fun _ h9 => h9) rfl dX5_undo_1 ?_
  refine va_get (D := D) (ci := 0) (v := .int cz) (C := RX0) (T := TX0) (N := 2) hx hb hts (in_X5_undo_X0) hown hK hP 4 rfl rfl 0 (by decide) (hts (.fieldLink RX5 275 "StepsRoundCircle$Changes" "size" "I") (by decide +kernel)) (fun _ h9 => h9) rfl dX5_undo_4 ?_
  refine lv_if_ne (tgt := 17) hx hb dX5_undo_7 (by decide) (fun c_7 => ?_) (fun c_7 => ?_)
  · skip
    refine lv_aload_n hx hb dX5_undo_17 rfl (lv_at hl 0 rfl) ?_
    refine va_get (D := D) (ci := 5) (v := .ref ch) (C := RX5) (T := TX5) (N := 11) hx hb hts (in_X5_undo_X5) hown hK hP 0 rfl rfl 5 (by decide) (hts (.fieldLink RX5 36 "StepsRoundCircle" "changes" "LStepsRoundCircle$Changes;") (by decide +kernel)) (fun _ h9 => h9) rfl dX5_undo_18 ?_
    refine va_get (D := D) (ci := 0) (v := .int cz) (C := RX0) (T := TX0) (N := 2) hx hb hts (in_X5_undo_X0) hown hK hP 4 rfl rfl 0 (by decide) (hts (.fieldLink RX5 275 "StepsRoundCircle$Changes" "size" "I") (by decide +kernel)) (fun _ h9 => h9) rfl dX5_undo_21 ?_
    refine lv_iconst (v := 1) hx hb dX5_undo_24 (by decide) ?_
    refine lv_isub hx hb dX5_undo_25 ?_
    refine lv_istore_n (lv' := [(1, .int (cz - 1)), (0, .ref x)]) hx hb dX5_undo_26 rfl hl (by decide) rfl (fun ls hl => ?_)
    refine lv_aload_n hx hb dX5_undo_27 rfl (lv_at hl 1 rfl) ?_
    refine va_get (D := D) (ci := 5) (v := .ref r) (C := RX5) (T := TX5) (N := 11) hx hb hts (in_X5_undo_X5) hown hK hP 0 rfl rfl 0 (by decide) (hts (.fieldLink RX5 10 "StepsRoundCircle" "ring" "LStepsRoundCircle$Ring;") (by decide +kernel)) (fun _ h9 => h9) rfl dX5_undo_28 ?_
    refine lv_aload_n hx hb dX5_undo_31 rfl (lv_at hl 1 rfl) ?_
    refine va_get (D := D) (ci := 5) (v := .ref ch) (C := RX5) (T := TX5) (N := 11) hx hb hts (in_X5_undo_X5) hown hK hP 0 rfl rfl 5 (by decide) (hts (.fieldLink RX5 36 "StepsRoundCircle" "changes" "LStepsRoundCircle$Changes;") (by decide +kernel)) (fun _ h9 => h9) rfl dX5_undo_32 ?_
    refine lv_iload_n hx hb dX5_undo_35 rfl (lv_at hl 0 rfl) ?_
    refine rdV (As := [.int (cz - 1)]) (rest := [.ref r]) ⟨hx, hb, hml, hown, hts⟩ (c_X0_walkerAt l D cI cZ cR ch cn cz cf (cz - 1) ) (cwV 1 hts gX5_undo_X0_walkerAt rfl rfl rfl (by decide +kernel) ⟨Nat.le_of_ble_eq_true rfl, Nat.le_of_ble_eq_true rfl⟩) hK hN hP 4 0 rfl rfl rfl [4, 5] rfl rfl hl.1 rfl (Nat.le_of_ble_eq_true rfl) dX5_undo_36 ⟨Nat.zero_le _, Nat.zero_le _⟩ ?_
    refine lv_aload_n hx hb dX5_undo_39 rfl (lv_at hl 1 rfl) ?_
    refine va_get (D := D) (ci := 5) (v := .ref ch) (C := RX5) (T := TX5) (N := 11) hx hb hts (in_X5_undo_X5) hown hK hP 0 rfl rfl 5 (by decide) (hts (.fieldLink RX5 36 "StepsRoundCircle" "changes" "LStepsRoundCircle$Changes;") (by decide +kernel)) (fun _ h9 => h9) rfl dX5_undo_40 ?_
    refine lv_iload_n hx hb dX5_undo_43 rfl (lv_at hl 0 rfl) ?_
    refine rdV (As := [.int (cz - 1)]) (rest := [.int (ch_at cf ((cz - 1) * 3)), .ref r]) ⟨hx, hb, hml, hown, hts⟩ (c_X0_whatAt l D cI cZ cR ch cn cz cf (cz - 1) ) (cwV 1 hts gX5_undo_X0_whatAt rfl rfl rfl (by decide +kernel) ⟨Nat.le_of_ble_eq_true rfl, Nat.le_of_ble_eq_true rfl⟩) hK hN hP 4 0 rfl rfl rfl [4, 5] rfl rfl hl.1 rfl (Nat.le_of_ble_eq_true rfl) dX5_undo_44 ⟨Nat.zero_le _, Nat.zero_le _⟩ ?_
    refine lv_aload_n hx hb dX5_undo_47 rfl (lv_at hl 1 rfl) ?_
    refine va_get (D := D) (ci := 5) (v := .ref ch) (C := RX5) (T := TX5) (N := 11) hx hb hts (in_X5_undo_X5) hown hK hP 0 rfl rfl 5 (by decide) (hts (.fieldLink RX5 36 "StepsRoundCircle" "changes" "LStepsRoundCircle$Changes;") (by decide +kernel)) (fun _ h9 => h9) rfl dX5_undo_48 ?_
    refine lv_iload_n hx hb dX5_undo_51 rfl (lv_at hl 0 rfl) ?_
    refine rdV (As := [.int (cz - 1)]) (rest := [.int (ch_at cf ((cz - 1) * 3 + 1)), .int (ch_at cf ((cz - 1) * 3)), .ref r]) ⟨hx, hb, hml, hown, hts⟩ (c_X0_wasAt l D cI cZ cR ch cn cz cf (cz - 1) ) (cwV 1 hts gX5_undo_X0_wasAt rfl rfl rfl (by decide +kernel) ⟨Nat.le_of_ble_eq_true rfl, Nat.le_of_ble_eq_true rfl⟩) hK hN hP 4 0 rfl rfl rfl [4, 5] rfl rfl hl.1 rfl (Nat.le_of_ble_eq_true rfl) dX5_undo_52 ⟨Nat.zero_le _, Nat.zero_le _⟩ ?_
    refine wrVv (As := [.int (ch_at cf ((cz - 1) * 3)), .int (ch_at cf ((cz - 1) * 3 + 1)), .int (ch_at cf ((cz - 1) * 3 + 2))]) (rest := []) (wr := [(x, .inr (5, [.ref r, .ref t, .ref im, .int hi, .ref tx, .ref ch, .ref ro, .ref rf, .ref pl, .ref ot, .ref cl])), (rf, .inl (cI, 6, .inl F)), (ch, .inr (0, [.int cz, .ref cn])), (cn, .inl (cI, 48, .inl cf))]) (A := A) ⟨hx, hb, hml, hown, hts⟩ (c_X1_setValue l D cI cZ cR r rn q nw v (ch_at cf ((cz - 1) * 3)) (ch_at cf ((cz - 1) * 3 + 1)) (ch_at cf ((cz - 1) * 3 + 2))  s.heap.size) (cwV 3 hts gX5_undo_X1_setValue rfl rfl rfl (by decide +kernel) ⟨Nat.le_of_ble_eq_true rfl, Nat.le_of_ble_eq_true rfl⟩) hK hN hP hD hS hA 2 1 rfl rfl rfl [2, 3] [0, 1, 4, 5] rfl (by decide) rfl (by decide) (by decide) rfl hl.1 rfl (Nat.le_of_ble_eq_true rfl) dX5_undo_55 ⟨Nat.zero_le _, Nat.zero_le _⟩ (fun u H locs hw hP hD hS => ?_)
    obtain ⟨v_55, rfl⟩ : ∃ z, z = u := ⟨_, rfl⟩
    try dsimp only at hw
    have q1_55 := hw
    have q1_55 := q1_55.symm
    subst q1_55
    have hP : va_P D vwCl [(x, .inr (5, [.ref r, .ref t, .ref im, .int hi, .ref tx, .ref ch, .ref ro, .ref rf, .ref pl, .ref ot, .ref cl])), (rf, .inl (cI, 6, .inl F)), (r, .inr (1, [.int q, .int nw, .ref rn])), (rn, .inl (cI, 20, .inl (rg_set v (ch_at cf ((cz - 1) * 3)) (ch_at cf ((cz - 1) * 3 + 1)) (ch_at cf ((cz - 1) * 3 + 2))))), (ch, .inr (0, [.int cz, .ref cn])), (cn, .inl (cI, 48, .inl cf))] H := hP.sub [0, 1, 4, 5, 2, 3] rfl
    have hD : va_D A [(x, .inr (5, [.ref r, .ref t, .ref im, .int hi, .ref tx, .ref ch, .ref ro, .ref rf, .ref pl, .ref ot, .ref cl])), (rf, .inl (cI, 6, .inl F)), (r, .inr (1, [.int q, .int nw, .ref rn])), (rn, .inl (cI, 20, .inl (rg_set v (ch_at cf ((cz - 1) * 3)) (ch_at cf ((cz - 1) * 3 + 1)) (ch_at cf ((cz - 1) * 3 + 2))))), (ch, .inr (0, [.int cz, .ref cn])), (cn, .inl (cI, 48, .inl cf))] := hD.sub [0, 1, 4, 5, 2, 3] (by decide) rfl
    refine lv_aload_n hx hb dX5_undo_58 rfl (lv_at hl 1 rfl) ?_
    refine va_get (D := D) (ci := 5) (v := .ref ch) (C := RX5) (T := TX5) (N := 11) hx hb hts (in_X5_undo_X5) hown hK hP 0 rfl rfl 5 (by decide) (hts (.fieldLink RX5 36 "StepsRoundCircle" "changes" "LStepsRoundCircle$Changes;") (by decide +kernel)) (fun _ h9 => h9) rfl dX5_undo_59 ?_
    refine wrVv (As := []) (rest := []) (wr := [(x, .inr (5, [.ref r, .ref t, .ref im, .int hi, .ref tx, .ref ch, .ref ro, .ref rf, .ref pl, .ref ot, .ref cl])), (rf, .inl (cI, 6, .inl F)), (r, .inr (1, [.int q, .int nw, .ref rn])), (rn, .inl (cI, 20, .inl (rg_set v (ch_at cf ((cz - 1) * 3)) (ch_at cf ((cz - 1) * 3 + 1)) (ch_at cf ((cz - 1) * 3 + 2)))))]) (A := A) ⟨hx, hb, hml, hown, hts⟩ (c_X0_forgetLast l D cI cZ cR ch cn cz cf  H.size) (cwV 0 hts gX5_undo_X0_forgetLast rfl rfl rfl (by decide +kernel) ⟨Nat.le_of_ble_eq_true rfl, Nat.le_of_ble_eq_true rfl⟩) hK hN hP hD hS hA 4 0 rfl rfl rfl [4, 5] [0, 1, 2, 3] rfl (by decide) rfl (by decide) (by decide) rfl hl.1 rfl (Nat.le_of_ble_eq_true rfl) dX5_undo_62 ⟨Nat.zero_le _, Nat.zero_le _⟩ (fun u H locs hw hP hD hS => ?_)
    obtain ⟨z_62, rfl⟩ : ∃ z, z = u := ⟨_, rfl⟩
    try dsimp only at hw
    have q1_62 := hw
    have q1_62 := q1_62.symm
    subst q1_62
    have hP : va_P D vwCl [(x, .inr (5, [.ref r, .ref t, .ref im, .int hi, .ref tx, .ref ch, .ref ro, .ref rf, .ref pl, .ref ot, .ref cl])), (rf, .inl (cI, 6, .inl F)), (r, .inr (1, [.int q, .int nw, .ref rn])), (rn, .inl (cI, 20, .inl (rg_set v (ch_at cf ((cz - 1) * 3)) (ch_at cf ((cz - 1) * 3 + 1)) (ch_at cf ((cz - 1) * 3 + 2))))), (ch, .inr (0, [.int (ch_less cz), .ref cn])), (cn, .inl (cI, 48, .inl cf))] H := hP.sub [0, 1, 2, 3, 4, 5] rfl
    have hD : va_D A [(x, .inr (5, [.ref r, .ref t, .ref im, .int hi, .ref tx, .ref ch, .ref ro, .ref rf, .ref pl, .ref ot, .ref cl])), (rf, .inl (cI, 6, .inl F)), (r, .inr (1, [.int q, .int nw, .ref rn])), (rn, .inl (cI, 20, .inl (rg_set v (ch_at cf ((cz - 1) * 3)) (ch_at cf ((cz - 1) * 3 + 1)) (ch_at cf ((cz - 1) * 3 + 2))))), (ch, .inr (0, [.int (ch_less cz), .ref cn])), (cn, .inl (cI, 48, .inl cf))] := hD.sub [0, 1, 2, 3, 4, 5] (by decide) rfl
    refine lv_aload_n hx hb dX5_undo_65 rfl (lv_at hl 1 rfl) ?_
    refine va_get (D := D) (ci := 5) (v := .ref ch) (C := RX5) (T := TX5) (N := 11) hx hb hts (in_X5_undo_X5) hown hK hP 0 rfl rfl 5 (by decide) (hts (.fieldLink RX5 36 "StepsRoundCircle" "changes" "LStepsRoundCircle$Changes;") (by decide +kernel)) (fun _ h9 => h9) rfl dX5_undo_66 ?_
    refine va_get (D := D) (ci := 0) (v := .int (ch_less cz)) (C := RX0) (T := TX0) (N := 2) hx hb hts (in_X5_undo_X0) hown hK hP 4 rfl rfl 0 (by decide) (hts (.fieldLink RX5 275 "StepsRoundCircle$Changes" "size" "I") (by decide +kernel)) (fun _ h9 => h9) rfl dX5_undo_69 ?_
    exact wrI (w1 := (fun (u : (Nat → Int32) × (Nat → Int32) × Int32) => [(x, .inr (5, [.ref r, .ref t, .ref im, .int hi, .ref tx, .ref ch, .ref ro, .ref rf, .ref pl, .ref ot, .ref cl])), (rf, .inl (cI, 6, .inl u.1)), (r, .inr (1, [.int q, .int nw, .ref rn])), (rn, .inl (cI, 20, .inl u.2.1)), (ch, .inr (0, [.int u.2.2, .ref cn])), (cn, .inl (cI, 48, .inl cf))])) (F, (rg_set v (ch_at cf ((cz - 1) * 3)) (ch_at cf ((cz - 1) * 3 + 1)) (ch_at cf ((cz - 1) * 3 + 2))), (ch_less cz)) hx hb hr hlocks dX5_undo_72 hS (hP.sub [0, 1, 2, 3, 4, 5] rfl) (hD.sub [0, 1, 2, 3, 4, 5] (by decide) rfl) (by first | exact ⟨rfl, rfl⟩ | rfl | (simp [bi, rf_z, undv, c_7]; done))
  · skip
    refine lv_aload_n hx hb dX5_undo_10 rfl (lv_at hl 0 rfl) ?_
    refine lv_bipush (v := (-3)) hx hb dX5_undo_11 (by decide) ?_
    refine wrVi (As := [.int (-3)]) (rest := []) (wr := [(r, .inr (1, [.int q, .int nw, .ref rn])), (rn, .inl (cI, 20, .inl v)), (ch, .inr (0, [.int cz, .ref cn])), (cn, .inl (cI, 48, .inl cf))]) (A := A) ⟨hx, hb, hml, hown, hts⟩ (c_X5_refuse l D cI cZ cR x r t im tx ch ro rf pl ot cl hi F (-3)  s.heap.size) (cwV 1 hts gX5_undo_X5_refuse rfl rfl rfl (by decide +kernel) ⟨Nat.le_of_ble_eq_true rfl, Nat.le_of_ble_eq_true rfl⟩) hK hN hP hD hS hA 0 5 rfl rfl rfl [0, 1] [2, 3, 4, 5] rfl (by decide) rfl (by decide) (by decide) rfl hl.1 rfl (Nat.le_of_ble_eq_true rfl) dX5_undo_13 ⟨Nat.zero_le _, Nat.zero_le _⟩ (fun r_13 u H locs hw hP hD hS => ?_)
    obtain ⟨F_13, rfl⟩ : ∃ z, z = u := ⟨_, rfl⟩
    try dsimp only at hw
    obtain ⟨q1_13, q2_13⟩ := hw
    have q1_13 := q1_13.symm
    subst q1_13
    have q2_13 := q2_13.symm
    subst q2_13
    have hP : va_P D vwCl [(x, .inr (5, [.ref r, .ref t, .ref im, .int hi, .ref tx, .ref ch, .ref ro, .ref rf, .ref pl, .ref ot, .ref cl])), (rf, .inl (cI, 6, .inl (rf_bump F (-3)))), (r, .inr (1, [.int q, .int nw, .ref rn])), (rn, .inl (cI, 20, .inl v)), (ch, .inr (0, [.int cz, .ref cn])), (cn, .inl (cI, 48, .inl cf))] H := hP.sub [4, 5, 0, 1, 2, 3] rfl
    have hD : va_D A [(x, .inr (5, [.ref r, .ref t, .ref im, .int hi, .ref tx, .ref ch, .ref ro, .ref rf, .ref pl, .ref ot, .ref cl])), (rf, .inl (cI, 6, .inl (rf_bump F (-3)))), (r, .inr (1, [.int q, .int nw, .ref rn])), (rn, .inl (cI, 20, .inl v)), (ch, .inr (0, [.int cz, .ref cn])), (cn, .inl (cI, 48, .inl cf))] := hD.sub [4, 5, 0, 1, 2, 3] (by decide) rfl
    exact wrI (w1 := (fun (u : (Nat → Int32) × (Nat → Int32) × Int32) => [(x, .inr (5, [.ref r, .ref t, .ref im, .int hi, .ref tx, .ref ch, .ref ro, .ref rf, .ref pl, .ref ot, .ref cl])), (rf, .inl (cI, 6, .inl u.1)), (r, .inr (1, [.int q, .int nw, .ref rn])), (rn, .inl (cI, 20, .inl u.2.1)), (ch, .inr (0, [.int u.2.2, .ref cn])), (cn, .inl (cI, 48, .inl cf))])) ((rf_bump F (-3)), v, cz) hx hb hr hlocks dX5_undo_16 hS (hP.sub [0, 1, 2, 3, 4, 5] rfl) (hD.sub [0, 1, 2, 3, 4, 5] (by decide) rfl) (by first | exact ⟨rfl, rfl⟩ | rfl | (simp [bi, rf_z, undv, c_7]; done))

set_option maxHeartbeats 4000000 in
set_option maxRecDepth 100000 in
theorem c_X5_image (l : Launch) (D : va_G) (cI cZ cR : ClassId) (x r t im tx ch ro rf pl ot cl : Nat) (hi : Int32) (rn : Nat) (q nw : Int32) (v : Nat → Int32) (imn : Nat) (qi nwi : Int32) (vi : Nat → Int32) (sz : Nat) : Met l yX5_image wsX5_image ({ frames := 1, cells := 0, slots := 0, locals := 22 }) (PcW D cI cZ cR [.ref x] [(x, .inr (5, [.ref r, .ref t, .ref im, .int hi, .ref tx, .ref ch, .ref ro, .ref rf, .ref pl, .ref ot, .ref cl])), (r, .inr (1, [.int q, .int nw, .ref rn])), (rn, .inl (cI, 20, .inl v)), (im, .inr (1, [.int qi, .int nwi, .ref imn])), (imn, .inl (cI, 20, .inl vi))] sz) (va_Qi (fun (res : Int32) (u : Int32 × Int32 × Int32 × (Nat → Int32)) => res = nw ∧ u.1 = 1 ∧ u.2.1 = q ∧ u.2.2.1 = nw ∧ u.2.2.2 = v) (Bw D (fun (u : Int32 × Int32 × Int32 × (Nat → Int32)) => [(x, .inr (5, [.ref r, .ref t, .ref im, .int u.1, .ref tx, .ref ch, .ref ro, .ref rf, .ref pl, .ref ot, .ref cl])), (r, .inr (1, [.int q, .int nw, .ref rn])), (rn, .inl (cI, 20, .inl v)), (im, .inr (1, [.int u.2.1, .int u.2.2.1, .ref imn])), (imn, .inl (cI, 20, .inl u.2.2.2))]) (va_A [(x, .inr (5, [.ref r, .ref t, .ref im, .int hi, .ref tx, .ref ch, .ref ro, .ref rf, .ref pl, .ref ot, .ref cl])), (r, .inr (1, [.int q, .int nw, .ref rn])), (rn, .inl (cI, 20, .inl v)), (im, .inr (1, [.int qi, .int nwi, .ref imn])), (imn, .inl (cI, 20, .inl vi))] sz)) (va_A [(x, .inr (5, [.ref r, .ref t, .ref im, .int hi, .ref tx, .ref ch, .ref ro, .ref rf, .ref pl, .ref ot, .ref cl])), (r, .inr (1, [.int q, .int nw, .ref rn])), (rn, .inl (cI, 20, .inl v)), (im, .inr (1, [.int qi, .int nwi, .ref imn])), (imn, .inl (cI, 20, .inl vi))] sz)) 0 0 (va_A [(x, .inr (5, [.ref r, .ref t, .ref im, .int hi, .ref tx, .ref ch, .ref ro, .ref rf, .ref pl, .ref ot, .ref cl])), (r, .inr (1, [.int q, .int nw, .ref rn])), (rn, .inl (cI, 20, .inl v)), (im, .inr (1, [.int qi, .int nwi, .ref imn])), (imn, .inl (cI, 20, .inl vi))] sz) := by
  refine Met.ofW (cc := cX5_image) (maxL := 1) (ret := (some .int)) (by decide) rfl ?_
  intro p e s m args below meth c s₁ B hml hv
  obtain ⟨rfl, hsz, hP, hK, hD0, hN⟩ := hv
  have hx := B.exec
  have hb := B.bytes
  have hr := B.returns
  have hts := atoms_spec (ws := wsX5_image) B.pre
  have hown : s.vm.findClass RX5 = some m.cls := findClass_of_methodNamed B.named
  have hlocks := B.notSynchronized
  subst hsz
  have hD := hD0.self (sz := s.heap.size)
  generalize hAe : va_A [(x, .inr (5, [.ref r, .ref t, .ref im, .int hi, .ref tx, .ref ch, .ref ro, .ref rf, .ref pl, .ref ot, .ref cl])), (r, .inr (1, [.int q, .int nw, .ref rn])), (rn, .inl (cI, 20, .inl v)), (im, .inr (1, [.int qi, .int nwi, .ref imn])), (imn, .inl (cI, 20, .inl vi))] s.heap.size = A at hD ⊢
  have hA : ∀ q : Nat, s.heap.size ≤ q → A q := fun q h => by rw [← hAe]; exact Or.inr h
  have hS : va_S A s.heap s.heap [] := va_S.rf
  have hP : va_P D vwCl [(x, .inr (5, [.ref r, .ref t, .ref im, .int hi, .ref tx, .ref ch, .ref ro, .ref rf, .ref pl, .ref ot, .ref cl])), (r, .inr (1, [.int q, .int nw, .ref rn])), (rn, .inl (cI, 20, .inl v)), (im, .inr (1, [.int qi, .int nwi, .ref imn])), (imn, .inl (cI, 20, .inl vi))] s.heap := hP
  have hl := lv_entry ([.ref x]) (n := 1) (Nat.le_of_ble_eq_true rfl)
  rw [lg_entry_eq]
  generalize (lg_sl ([.ref x]) ++ List.replicate (1 - (lg_sl ([.ref x])).length) Slot.unset).toArray = ls at hl ⊢
  have hl : lv_has ls 1 [(0, .ref x)] := hl
  refine lv_aload_n hx hb dX5_image_0 rfl (lv_at hl 0 rfl) ?_
  refine va_get (D := D) (ci := 5) (v := .ref im) (C := RX5) (T := TX5) (N := 11) hx hb hts (in_X5_image_X5) hown hK hP 0 rfl rfl 2 (by decide) (hts (.fieldLink RX5 19 "StepsRoundCircle" "imaged" "LStepsRoundCircle$Ring;") (by decide +kernel)) (fun _ h9 => h9) rfl dX5_image_1 ?_
  refine lv_aload_n hx hb dX5_image_4 rfl (lv_at hl 0 rfl) ?_
  refine va_get (D := D) (ci := 5) (v := .ref r) (C := RX5) (T := TX5) (N := 11) hx hb hts (in_X5_image_X5) hown hK hP 0 rfl rfl 0 (by decide) (hts (.fieldLink RX5 10 "StepsRoundCircle" "ring" "LStepsRoundCircle$Ring;") (by decide +kernel)) (fun _ h9 => h9) rfl dX5_image_5 ?_
  refine wrVv (As := [.ref r]) (rest := []) (wr := [(x, .inr (5, [.ref r, .ref t, .ref im, .int hi, .ref tx, .ref ch, .ref ro, .ref rf, .ref pl, .ref ot, .ref cl]))]) (A := A) ⟨hx, hb, hml, hown, hts⟩ (c_X1_copyFrom l D cI cZ cR im imn qi nwi vi r rn q nw v  s.heap.size) (cwV 1 hts gX5_image_X1_copyFrom rfl rfl rfl (by decide +kernel) ⟨Nat.le_of_ble_eq_true rfl, Nat.le_of_ble_eq_true rfl⟩) hK hN hP hD hS hA 3 1 rfl rfl rfl [3, 4, 1, 2] [0] rfl (by decide) rfl (by decide) (by decide) rfl hl.1 rfl (Nat.le_of_ble_eq_true rfl) dX5_image_8 ⟨Nat.zero_le _, Nat.zero_le _⟩ (fun u H locs hw hP hD hS => ?_)
  obtain ⟨q_8, nw_8, v_8⟩ := u
  try dsimp only at hw
  obtain ⟨q1_8, q2_8, q3_8⟩ := hw
  have q1_8 := q1_8.symm
  subst q1_8
  have q2_8 := q2_8.symm
  subst q2_8
  have q3_8 := q3_8.symm
  subst q3_8
  have hP : va_P D vwCl [(x, .inr (5, [.ref r, .ref t, .ref im, .int hi, .ref tx, .ref ch, .ref ro, .ref rf, .ref pl, .ref ot, .ref cl])), (r, .inr (1, [.int q, .int nw, .ref rn])), (rn, .inl (cI, 20, .inl v)), (im, .inr (1, [.int q, .int nw, .ref imn])), (imn, .inl (cI, 20, .inl v))] H := hP.sub [0, 3, 4, 1, 2] rfl
  have hD : va_D A [(x, .inr (5, [.ref r, .ref t, .ref im, .int hi, .ref tx, .ref ch, .ref ro, .ref rf, .ref pl, .ref ot, .ref cl])), (r, .inr (1, [.int q, .int nw, .ref rn])), (rn, .inl (cI, 20, .inl v)), (im, .inr (1, [.int q, .int nw, .ref imn])), (imn, .inl (cI, 20, .inl v))] := hD.sub [0, 3, 4, 1, 2] (by decide) rfl
  refine lv_aload_n hx hb dX5_image_11 rfl (lv_at hl 0 rfl) ?_
  refine lv_iconst (v := 1) hx hb dX5_image_12 (by decide) ?_
  refine va_put (D := D) (ci := 5) (v := .int 1) (ty := .boolean) (C := RX5) (T := TX5) (N := 11) hx hb hts (in_X5_image_X5) tyX5 tyX5_ok nmX5 hown hK hP hD hS 0 rfl rfl 3 (by decide) (hts (.fieldLink RX5 22 "StepsRoundCircle" "hasImage" "Z") (by decide +kernel)) (fun _ h9 => h9) rfl (by decide +kernel) rfl rfl (Nat.le_of_ble_eq_true rfl) dX5_image_13 (fun H locs hP hD hS => ?_)
  have hP : va_P D vwCl [(x, .inr (5, [.ref r, .ref t, .ref im, .int 1, .ref tx, .ref ch, .ref ro, .ref rf, .ref pl, .ref ot, .ref cl])), (r, .inr (1, [.int q, .int nw, .ref rn])), (rn, .inl (cI, 20, .inl v)), (im, .inr (1, [.int q, .int nw, .ref imn])), (imn, .inl (cI, 20, .inl v))] H := hP
  have hD : va_D A [(x, .inr (5, [.ref r, .ref t, .ref im, .int 1, .ref tx, .ref ch, .ref ro, .ref rf, .ref pl, .ref ot, .ref cl])), (r, .inr (1, [.int q, .int nw, .ref rn])), (rn, .inl (cI, 20, .inl v)), (im, .inr (1, [.int q, .int nw, .ref imn])), (imn, .inl (cI, 20, .inl v))] := hD
  refine lv_aload_n hx hb dX5_image_16 rfl (lv_at hl 0 rfl) ?_
  refine va_get (D := D) (ci := 5) (v := .ref im) (C := RX5) (T := TX5) (N := 11) hx hb hts (in_X5_image_X5) hown hK hP 0 rfl rfl 2 (by decide) (hts (.fieldLink RX5 19 "StepsRoundCircle" "imaged" "LStepsRoundCircle$Ring;") (by decide +kernel)) (fun _ h9 => h9) rfl dX5_image_17 ?_
  refine va_get (D := D) (ci := 1) (v := .int nw) (C := RX1) (T := TX1) (N := 3) hx hb hts (in_X5_image_X1) hown hK hP 3 rfl rfl 1 (by decide) (hts (.fieldLink RX5 103 "StepsRoundCircle$Ring" "walkers" "I") (by decide +kernel)) (fun _ h9 => h9) rfl dX5_image_20 ?_
  exact wrI (w1 := (fun (u : Int32 × Int32 × Int32 × (Nat → Int32)) => [(x, .inr (5, [.ref r, .ref t, .ref im, .int u.1, .ref tx, .ref ch, .ref ro, .ref rf, .ref pl, .ref ot, .ref cl])), (r, .inr (1, [.int q, .int nw, .ref rn])), (rn, .inl (cI, 20, .inl v)), (im, .inr (1, [.int u.2.1, .int u.2.2.1, .ref imn])), (imn, .inl (cI, 20, .inl u.2.2.2))])) (1, q, nw, v) hx hb hr hlocks dX5_image_23 hS (hP.sub [0, 1, 2, 3, 4] rfl) (hD.sub [0, 1, 2, 3, 4] (by decide) rfl) (⟨rfl, rfl, rfl, rfl, rfl⟩)

set_option maxHeartbeats 4000000 in
set_option maxRecDepth 100000 in
theorem c_X5_on (l : Launch) (D : va_G) (cI cZ cR : ClassId) (x r t im tx ch ro rf pl ot cl : Nat) (hi : Int32) (F : Nat → Int32) (rn : Nat) (q nw : Int32) (v : Nat → Int32) (imn : Nat) (qi nwi : Int32) (vi : Nat → Int32) (cn : Nat) (cz : Int32) (cf : Nat → Int32) (sz : Nat) : Met l yX5_on wsX5_on ({ frames := 2, cells := 0, slots := 0, locals := 43 }) (PcW D cI cZ cR [.ref x] [(x, .inr (5, [.ref r, .ref t, .ref im, .int hi, .ref tx, .ref ch, .ref ro, .ref rf, .ref pl, .ref ot, .ref cl])), (rf, .inl (cI, 6, .inl F)), (r, .inr (1, [.int q, .int nw, .ref rn])), (rn, .inl (cI, 20, .inl v)), (im, .inr (1, [.int qi, .int nwi, .ref imn])), (imn, .inl (cI, 20, .inl vi)), (ch, .inr (0, [.int cz, .ref cn])), (cn, .inl (cI, 48, .inl cf))] sz) (va_Qi (fun (res : Int32) (u : (Nat → Int32) × Int32 × Int32 × (Nat → Int32) × Int32) => res = (if rf_z hi = 0 then nwi else rf_z hi) ∧ u.1 = (if rf_z hi = 0 then F else rf_bump F (rf_z hi)) ∧ u.2.1 = (if rf_z hi = 0 then qi else q) ∧ u.2.2.1 = (if rf_z hi = 0 then nwi else nw) ∧ u.2.2.2.1 = (if rf_z hi = 0 then vi else v) ∧ u.2.2.2.2 = (if rf_z hi = 0 then 0 else cz)) (Bw D (fun (u : (Nat → Int32) × Int32 × Int32 × (Nat → Int32) × Int32) => [(x, .inr (5, [.ref r, .ref t, .ref im, .int hi, .ref tx, .ref ch, .ref ro, .ref rf, .ref pl, .ref ot, .ref cl])), (rf, .inl (cI, 6, .inl u.1)), (r, .inr (1, [.int u.2.1, .int u.2.2.1, .ref rn])), (rn, .inl (cI, 20, .inl u.2.2.2.1)), (im, .inr (1, [.int qi, .int nwi, .ref imn])), (imn, .inl (cI, 20, .inl vi)), (ch, .inr (0, [.int u.2.2.2.2, .ref cn])), (cn, .inl (cI, 48, .inl cf))]) (va_A [(x, .inr (5, [.ref r, .ref t, .ref im, .int hi, .ref tx, .ref ch, .ref ro, .ref rf, .ref pl, .ref ot, .ref cl])), (rf, .inl (cI, 6, .inl F)), (r, .inr (1, [.int q, .int nw, .ref rn])), (rn, .inl (cI, 20, .inl v)), (im, .inr (1, [.int qi, .int nwi, .ref imn])), (imn, .inl (cI, 20, .inl vi)), (ch, .inr (0, [.int cz, .ref cn])), (cn, .inl (cI, 48, .inl cf))] sz)) (va_A [(x, .inr (5, [.ref r, .ref t, .ref im, .int hi, .ref tx, .ref ch, .ref ro, .ref rf, .ref pl, .ref ot, .ref cl])), (rf, .inl (cI, 6, .inl F)), (r, .inr (1, [.int q, .int nw, .ref rn])), (rn, .inl (cI, 20, .inl v)), (im, .inr (1, [.int qi, .int nwi, .ref imn])), (imn, .inl (cI, 20, .inl vi)), (ch, .inr (0, [.int cz, .ref cn])), (cn, .inl (cI, 48, .inl cf))] sz)) 0 0 (va_A [(x, .inr (5, [.ref r, .ref t, .ref im, .int hi, .ref tx, .ref ch, .ref ro, .ref rf, .ref pl, .ref ot, .ref cl])), (rf, .inl (cI, 6, .inl F)), (r, .inr (1, [.int q, .int nw, .ref rn])), (rn, .inl (cI, 20, .inl v)), (im, .inr (1, [.int qi, .int nwi, .ref imn])), (imn, .inl (cI, 20, .inl vi)), (ch, .inr (0, [.int cz, .ref cn])), (cn, .inl (cI, 48, .inl cf))] sz) := by
  refine Met.ofW (cc := cX5_on) (maxL := 1) (ret := (some .int)) (by decide) rfl ?_
  intro p e s m args below meth c s₁ B hml hv
  obtain ⟨rfl, hsz, hP, hK, hD0, hN⟩ := hv
  have hx := B.exec
  have hb := B.bytes
  have hr := B.returns
  have hts := atoms_spec (ws := wsX5_on) B.pre
  have hown : s.vm.findClass RX5 = some m.cls := findClass_of_methodNamed B.named
  have hlocks := B.notSynchronized
  subst hsz
  have hD := hD0.self (sz := s.heap.size)
  generalize hAe : va_A [(x, .inr (5, [.ref r, .ref t, .ref im, .int hi, .ref tx, .ref ch, .ref ro, .ref rf, .ref pl, .ref ot, .ref cl])), (rf, .inl (cI, 6, .inl F)), (r, .inr (1, [.int q, .int nw, .ref rn])), (rn, .inl (cI, 20, .inl v)), (im, .inr (1, [.int qi, .int nwi, .ref imn])), (imn, .inl (cI, 20, .inl vi)), (ch, .inr (0, [.int cz, .ref cn])), (cn, .inl (cI, 48, .inl cf))] s.heap.size = A at hD ⊢
  have hA : ∀ q : Nat, s.heap.size ≤ q → A q := fun q h => by rw [← hAe]; exact Or.inr h
  have hS : va_S A s.heap s.heap [] := va_S.rf
  have hP : va_P D vwCl [(x, .inr (5, [.ref r, .ref t, .ref im, .int hi, .ref tx, .ref ch, .ref ro, .ref rf, .ref pl, .ref ot, .ref cl])), (rf, .inl (cI, 6, .inl F)), (r, .inr (1, [.int q, .int nw, .ref rn])), (rn, .inl (cI, 20, .inl v)), (im, .inr (1, [.int qi, .int nwi, .ref imn])), (imn, .inl (cI, 20, .inl vi)), (ch, .inr (0, [.int cz, .ref cn])), (cn, .inl (cI, 48, .inl cf))] s.heap := hP
  have hl := lv_entry ([.ref x]) (n := 1) (Nat.le_of_ble_eq_true rfl)
  rw [lg_entry_eq]
  generalize (lg_sl ([.ref x]) ++ List.replicate (1 - (lg_sl ([.ref x])).length) Slot.unset).toArray = ls at hl ⊢
  have hl : lv_has ls 1 [(0, .ref x)] := hl
  refine lv_aload_n hx hb dX5_on_0 rfl (lv_at hl 0 rfl) ?_
  refine va_get (D := D) (ci := 5) (v := .int hi) (C := RX5) (T := TX5) (N := 11) hx hb hts (in_X5_on_X5) hown hK hP 0 rfl rfl 3 (by decide) (hts (.fieldLink RX5 22 "StepsRoundCircle" "hasImage" "Z") (by decide +kernel)) (fun _ h9 => h9) rfl dX5_on_1 ?_
  refine lv_if_ne (tgt := 14) hx hb dX5_on_4 (by decide) (fun c_4 => ?_) (fun c_4 => ?_)
  · skip
    refine lv_aload_n hx hb dX5_on_14 rfl (lv_at hl 0 rfl) ?_
    refine va_get (D := D) (ci := 5) (v := .ref r) (C := RX5) (T := TX5) (N := 11) hx hb hts (in_X5_on_X5) hown hK hP 0 rfl rfl 0 (by decide) (hts (.fieldLink RX5 10 "StepsRoundCircle" "ring" "LStepsRoundCircle$Ring;") (by decide +kernel)) (fun _ h9 => h9) rfl dX5_on_15 ?_
    refine lv_aload_n hx hb dX5_on_18 rfl (lv_at hl 0 rfl) ?_
    refine va_get (D := D) (ci := 5) (v := .ref im) (C := RX5) (T := TX5) (N := 11) hx hb hts (in_X5_on_X5) hown hK hP 0 rfl rfl 2 (by decide) (hts (.fieldLink RX5 19 "StepsRoundCircle" "imaged" "LStepsRoundCircle$Ring;") (by decide +kernel)) (fun _ h9 => h9) rfl dX5_on_19 ?_
    refine wrVv (As := [.ref im]) (rest := []) (wr := [(x, .inr (5, [.ref r, .ref t, .ref im, .int hi, .ref tx, .ref ch, .ref ro, .ref rf, .ref pl, .ref ot, .ref cl])), (rf, .inl (cI, 6, .inl F)), (ch, .inr (0, [.int cz, .ref cn])), (cn, .inl (cI, 48, .inl cf))]) (A := A) ⟨hx, hb, hml, hown, hts⟩ (c_X1_copyFrom l D cI cZ cR r rn q nw v im imn qi nwi vi  s.heap.size) (cwV 1 hts gX5_on_X1_copyFrom rfl rfl rfl (by decide +kernel) ⟨Nat.le_of_ble_eq_true rfl, Nat.le_of_ble_eq_true rfl⟩) hK hN hP hD hS hA 2 1 rfl rfl rfl [2, 3, 4, 5] [0, 1, 6, 7] rfl (by decide) rfl (by decide) (by decide) rfl hl.1 rfl (Nat.le_of_ble_eq_true rfl) dX5_on_22 ⟨Nat.zero_le _, Nat.zero_le _⟩ (fun u H locs hw hP hD hS => ?_)
    obtain ⟨q_22, nw_22, v_22⟩ := u
    try dsimp only at hw
    obtain ⟨q1_22, q2_22, q3_22⟩ := hw
    have q1_22 := q1_22.symm
    subst q1_22
    have q2_22 := q2_22.symm
    subst q2_22
    have q3_22 := q3_22.symm
    subst q3_22
    have hP : va_P D vwCl [(x, .inr (5, [.ref r, .ref t, .ref im, .int hi, .ref tx, .ref ch, .ref ro, .ref rf, .ref pl, .ref ot, .ref cl])), (rf, .inl (cI, 6, .inl F)), (r, .inr (1, [.int qi, .int nwi, .ref rn])), (rn, .inl (cI, 20, .inl vi)), (im, .inr (1, [.int qi, .int nwi, .ref imn])), (imn, .inl (cI, 20, .inl vi)), (ch, .inr (0, [.int cz, .ref cn])), (cn, .inl (cI, 48, .inl cf))] H := hP.sub [0, 1, 4, 5, 6, 7, 2, 3] rfl
    have hD : va_D A [(x, .inr (5, [.ref r, .ref t, .ref im, .int hi, .ref tx, .ref ch, .ref ro, .ref rf, .ref pl, .ref ot, .ref cl])), (rf, .inl (cI, 6, .inl F)), (r, .inr (1, [.int qi, .int nwi, .ref rn])), (rn, .inl (cI, 20, .inl vi)), (im, .inr (1, [.int qi, .int nwi, .ref imn])), (imn, .inl (cI, 20, .inl vi)), (ch, .inr (0, [.int cz, .ref cn])), (cn, .inl (cI, 48, .inl cf))] := hD.sub [0, 1, 4, 5, 6, 7, 2, 3] (by decide) rfl
    refine lv_aload_n hx hb dX5_on_25 rfl (lv_at hl 0 rfl) ?_
    refine va_get (D := D) (ci := 5) (v := .ref ch) (C := RX5) (T := TX5) (N := 11) hx hb hts (in_X5_on_X5) hown hK hP 0 rfl rfl 5 (by decide) (hts (.fieldLink RX5 36 "StepsRoundCircle" "changes" "LStepsRoundCircle$Changes;") (by decide +kernel)) (fun _ h9 => h9) rfl dX5_on_26 ?_
    refine wrVv (As := []) (rest := []) (wr := [(x, .inr (5, [.ref r, .ref t, .ref im, .int hi, .ref tx, .ref ch, .ref ro, .ref rf, .ref pl, .ref ot, .ref cl])), (rf, .inl (cI, 6, .inl F)), (r, .inr (1, [.int qi, .int nwi, .ref rn])), (rn, .inl (cI, 20, .inl vi)), (im, .inr (1, [.int qi, .int nwi, .ref imn])), (imn, .inl (cI, 20, .inl vi))]) (A := A) ⟨hx, hb, hml, hown, hts⟩ (c_X0_clear l D cI cZ cR ch cn cz cf  H.size) (cwV 0 hts gX5_on_X0_clear rfl rfl rfl (by decide +kernel) ⟨Nat.le_of_ble_eq_true rfl, Nat.le_of_ble_eq_true rfl⟩) hK hN hP hD hS hA 6 0 rfl rfl rfl [6, 7] [0, 1, 2, 3, 4, 5] rfl (by decide) rfl (by decide) (by decide) rfl hl.1 rfl (Nat.le_of_ble_eq_true rfl) dX5_on_29 ⟨Nat.zero_le _, Nat.zero_le _⟩ (fun u H locs hw hP hD hS => ?_)
    obtain ⟨z_29, rfl⟩ : ∃ z, z = u := ⟨_, rfl⟩
    try dsimp only at hw
    have q1_29 := hw
    have q1_29 := q1_29.symm
    subst q1_29
    have hP : va_P D vwCl [(x, .inr (5, [.ref r, .ref t, .ref im, .int hi, .ref tx, .ref ch, .ref ro, .ref rf, .ref pl, .ref ot, .ref cl])), (rf, .inl (cI, 6, .inl F)), (r, .inr (1, [.int qi, .int nwi, .ref rn])), (rn, .inl (cI, 20, .inl vi)), (im, .inr (1, [.int qi, .int nwi, .ref imn])), (imn, .inl (cI, 20, .inl vi)), (ch, .inr (0, [.int 0, .ref cn])), (cn, .inl (cI, 48, .inl cf))] H := hP.sub [0, 1, 2, 3, 4, 5, 6, 7] rfl
    have hD : va_D A [(x, .inr (5, [.ref r, .ref t, .ref im, .int hi, .ref tx, .ref ch, .ref ro, .ref rf, .ref pl, .ref ot, .ref cl])), (rf, .inl (cI, 6, .inl F)), (r, .inr (1, [.int qi, .int nwi, .ref rn])), (rn, .inl (cI, 20, .inl vi)), (im, .inr (1, [.int qi, .int nwi, .ref imn])), (imn, .inl (cI, 20, .inl vi)), (ch, .inr (0, [.int 0, .ref cn])), (cn, .inl (cI, 48, .inl cf))] := hD.sub [0, 1, 2, 3, 4, 5, 6, 7] (by decide) rfl
    refine lv_aload_n hx hb dX5_on_32 rfl (lv_at hl 0 rfl) ?_
    refine va_get (D := D) (ci := 5) (v := .ref r) (C := RX5) (T := TX5) (N := 11) hx hb hts (in_X5_on_X5) hown hK hP 0 rfl rfl 0 (by decide) (hts (.fieldLink RX5 10 "StepsRoundCircle" "ring" "LStepsRoundCircle$Ring;") (by decide +kernel)) (fun _ h9 => h9) rfl dX5_on_33 ?_
    refine va_get (D := D) (ci := 1) (v := .int nwi) (C := RX1) (T := TX1) (N := 3) hx hb hts (in_X5_on_X1) hown hK hP 2 rfl rfl 1 (by decide) (hts (.fieldLink RX5 103 "StepsRoundCircle$Ring" "walkers" "I") (by decide +kernel)) (fun _ h9 => h9) rfl dX5_on_36 ?_
    exact wrI (w1 := (fun (u : (Nat → Int32) × Int32 × Int32 × (Nat → Int32) × Int32) => [(x, .inr (5, [.ref r, .ref t, .ref im, .int hi, .ref tx, .ref ch, .ref ro, .ref rf, .ref pl, .ref ot, .ref cl])), (rf, .inl (cI, 6, .inl u.1)), (r, .inr (1, [.int u.2.1, .int u.2.2.1, .ref rn])), (rn, .inl (cI, 20, .inl u.2.2.2.1)), (im, .inr (1, [.int qi, .int nwi, .ref imn])), (imn, .inl (cI, 20, .inl vi)), (ch, .inr (0, [.int u.2.2.2.2, .ref cn])), (cn, .inl (cI, 48, .inl cf))])) (F, qi, nwi, vi, 0) hx hb hr hlocks dX5_on_39 hS (hP.sub [0, 1, 2, 3, 4, 5, 6, 7] rfl) (hD.sub [0, 1, 2, 3, 4, 5, 6, 7] (by decide) rfl) (by first | exact ⟨rfl, rfl⟩ | rfl | (simp [bi, rf_z, c_4]; done))
  · skip
    refine lv_aload_n hx hb dX5_on_7 rfl (lv_at hl 0 rfl) ?_
    refine lv_bipush (v := (-3)) hx hb dX5_on_8 (by decide) ?_
    refine wrVi (As := [.int (-3)]) (rest := []) (wr := [(r, .inr (1, [.int q, .int nw, .ref rn])), (rn, .inl (cI, 20, .inl v)), (im, .inr (1, [.int qi, .int nwi, .ref imn])), (imn, .inl (cI, 20, .inl vi)), (ch, .inr (0, [.int cz, .ref cn])), (cn, .inl (cI, 48, .inl cf))]) (A := A) ⟨hx, hb, hml, hown, hts⟩ (c_X5_refuse l D cI cZ cR x r t im tx ch ro rf pl ot cl hi F (-3)  s.heap.size) (cwV 1 hts gX5_on_X5_refuse rfl rfl rfl (by decide +kernel) ⟨Nat.le_of_ble_eq_true rfl, Nat.le_of_ble_eq_true rfl⟩) hK hN hP hD hS hA 0 5 rfl rfl rfl [0, 1] [2, 3, 4, 5, 6, 7] rfl (by decide) rfl (by decide) (by decide) rfl hl.1 rfl (Nat.le_of_ble_eq_true rfl) dX5_on_10 ⟨Nat.zero_le _, Nat.zero_le _⟩ (fun r_10 u H locs hw hP hD hS => ?_)
    obtain ⟨F_10, rfl⟩ : ∃ z, z = u := ⟨_, rfl⟩
    try dsimp only at hw
    obtain ⟨q1_10, q2_10⟩ := hw
    have q1_10 := q1_10.symm
    subst q1_10
    have q2_10 := q2_10.symm
    subst q2_10
    have hP : va_P D vwCl [(x, .inr (5, [.ref r, .ref t, .ref im, .int hi, .ref tx, .ref ch, .ref ro, .ref rf, .ref pl, .ref ot, .ref cl])), (rf, .inl (cI, 6, .inl (rf_bump F (-3)))), (r, .inr (1, [.int q, .int nw, .ref rn])), (rn, .inl (cI, 20, .inl v)), (im, .inr (1, [.int qi, .int nwi, .ref imn])), (imn, .inl (cI, 20, .inl vi)), (ch, .inr (0, [.int cz, .ref cn])), (cn, .inl (cI, 48, .inl cf))] H := hP.sub [6, 7, 0, 1, 2, 3, 4, 5] rfl
    have hD : va_D A [(x, .inr (5, [.ref r, .ref t, .ref im, .int hi, .ref tx, .ref ch, .ref ro, .ref rf, .ref pl, .ref ot, .ref cl])), (rf, .inl (cI, 6, .inl (rf_bump F (-3)))), (r, .inr (1, [.int q, .int nw, .ref rn])), (rn, .inl (cI, 20, .inl v)), (im, .inr (1, [.int qi, .int nwi, .ref imn])), (imn, .inl (cI, 20, .inl vi)), (ch, .inr (0, [.int cz, .ref cn])), (cn, .inl (cI, 48, .inl cf))] := hD.sub [6, 7, 0, 1, 2, 3, 4, 5] (by decide) rfl
    exact wrI (w1 := (fun (u : (Nat → Int32) × Int32 × Int32 × (Nat → Int32) × Int32) => [(x, .inr (5, [.ref r, .ref t, .ref im, .int hi, .ref tx, .ref ch, .ref ro, .ref rf, .ref pl, .ref ot, .ref cl])), (rf, .inl (cI, 6, .inl u.1)), (r, .inr (1, [.int u.2.1, .int u.2.2.1, .ref rn])), (rn, .inl (cI, 20, .inl u.2.2.2.1)), (im, .inr (1, [.int qi, .int nwi, .ref imn])), (imn, .inl (cI, 20, .inl vi)), (ch, .inr (0, [.int u.2.2.2.2, .ref cn])), (cn, .inl (cI, 48, .inl cf))])) ((rf_bump F (-3)), q, nw, v, cz) hx hb hr hlocks dX5_on_13 hS (hP.sub [0, 1, 2, 3, 4, 5, 6, 7] rfl) (hD.sub [0, 1, 2, 3, 4, 5, 6, 7] (by decide) rfl) (by first | exact ⟨rfl, rfl⟩ | rfl | (simp [bi, rf_z, c_4]; done))

set_option maxHeartbeats 4000000 in
set_option maxRecDepth 100000 in
theorem c_X5_count (l : Launch) (D : va_G) (cI cZ cR : ClassId) (x r t im tx ch ro rf pl ot cl : Nat) (hi : Int32) (F : Nat → Int32) (rn : Nat) (q nw : Int32) (v : Nat → Int32) (tn : Nat) (tz : Int32) (tf : Nat → Int32) (cn : Nat) (cz : Int32) (cf : Nat → Int32) (n : Int32) : Met l yX5_count wsX5_count ({ frames := 1, cells := 0, slots := 0, locals := 21 }) (PcR D cI cZ cR [.ref x, .int n] [(x, .inr (5, [.ref r, .ref t, .ref im, .int hi, .ref tx, .ref ch, .ref ro, .ref rf, .ref pl, .ref ot, .ref cl])), (rf, .inl (cI, 6, .inl F)), (r, .inr (1, [.int q, .int nw, .ref rn])), (rn, .inl (cI, 20, .inl v)), (tx, .inr (4, [.int tz, .ref tn])), (tn, .inl (cI, 72, .inl tf)), (ch, .inr (0, [.int cz, .ref cn])), (cn, .inl (cI, 48, .inl cf))]) (k2_QcV (.int (cntA q nw tz cz F n))) 0 0 (fun _ => False) := by
  refine Met.ofW (cc := cX5_count) (maxL := 2) (ret := (some .int)) (by decide) rfl ?_
  intro p e s m args below meth c s₁ B hml hv
  obtain ⟨rfl, hP, hK, hN⟩ := hv
  have hx := B.exec
  have hb := B.bytes
  have hr := B.returns
  have hts := atoms_spec (ws := wsX5_count) B.pre
  have hown : s.vm.findClass RX5 = some m.cls := findClass_of_methodNamed B.named
  have hlocks := B.notSynchronized
  have hP : va_P D vwCl [(x, .inr (5, [.ref r, .ref t, .ref im, .int hi, .ref tx, .ref ch, .ref ro, .ref rf, .ref pl, .ref ot, .ref cl])), (rf, .inl (cI, 6, .inl F)), (r, .inr (1, [.int q, .int nw, .ref rn])), (rn, .inl (cI, 20, .inl v)), (tx, .inr (4, [.int tz, .ref tn])), (tn, .inl (cI, 72, .inl tf)), (ch, .inr (0, [.int cz, .ref cn])), (cn, .inl (cI, 48, .inl cf))] s.heap := hP
  have hl := lv_entry ([.ref x, .int n]) (n := 2) (Nat.le_of_ble_eq_true rfl)
  rw [lg_entry_eq]
  generalize (lg_sl ([.ref x, .int n]) ++ List.replicate (2 - (lg_sl ([.ref x, .int n])).length) Slot.unset).toArray = ls at hl ⊢
  have hl : lv_has ls 2 [(0, .ref x), (1, .int n)] := hl
  refine lv_iload_n hx hb dX5_count_0 rfl (lv_at hl 1 rfl) ?_
  by_cases c_1_0 : n = 0
  · skip
    refine lv_tableIn (off := 31) (tgt := 32) hx hb dX5_count_1 (by rw [c_1_0]; decide) (by rw [c_1_0]; decide) (by rw [c_1_0]; rfl) (by decide) ?_
    refine lv_aload_n hx hb dX5_count_32 rfl (lv_at hl 0 rfl) ?_
    refine va_get (D := D) (ci := 5) (v := .ref r) (C := RX5) (T := TX5) (N := 11) hx hb hts (in_X5_count_X5) hown hK hP 0 rfl rfl 0 (by decide) (hts (.fieldLink RX5 10 "StepsRoundCircle" "ring" "LStepsRoundCircle$Ring;") (by decide +kernel)) (fun _ h9 => h9) rfl dX5_count_33 ?_
    refine va_get (D := D) (ci := 1) (v := .int nw) (C := RX1) (T := TX1) (N := 3) hx hb hts (in_X5_count_X1) hown hK hP 2 rfl rfl 1 (by decide) (hts (.fieldLink RX5 103 "StepsRoundCircle$Ring" "walkers" "I") (by decide +kernel)) (fun _ h9 => h9) rfl dX5_count_36 ?_
    exact rdI hx hb hr hlocks dX5_count_39 (by first | rfl | (simp [bi, cntA, c_1_0]; done))
  by_cases c_1_1 : n = 1
  · skip
    refine lv_tableIn (off := 39) (tgt := 40) hx hb dX5_count_1 (by rw [c_1_1]; decide) (by rw [c_1_1]; decide) (by rw [c_1_1]; rfl) (by decide) ?_
    refine lv_aload_n hx hb dX5_count_40 rfl (lv_at hl 0 rfl) ?_
    refine va_get (D := D) (ci := 5) (v := .ref r) (C := RX5) (T := TX5) (N := 11) hx hb hts (in_X5_count_X5) hown hK hP 0 rfl rfl 0 (by decide) (hts (.fieldLink RX5 10 "StepsRoundCircle" "ring" "LStepsRoundCircle$Ring;") (by decide +kernel)) (fun _ h9 => h9) rfl dX5_count_41 ?_
    refine va_get (D := D) (ci := 1) (v := .int q) (C := RX1) (T := TX1) (N := 3) hx hb hts (in_X5_count_X1) hown hK hP 2 rfl rfl 0 (by decide) (hts (.fieldLink RX5 91 "StepsRoundCircle$Ring" "size" "I") (by decide +kernel)) (fun _ h9 => h9) rfl dX5_count_44 ?_
    exact rdI hx hb hr hlocks dX5_count_47 (by first | rfl | (simp [bi, cntA, c_1_0, c_1_1]; done))
  by_cases c_1_2 : n = 2
  · skip
    refine lv_tableIn (off := 47) (tgt := 48) hx hb dX5_count_1 (by rw [c_1_2]; decide) (by rw [c_1_2]; decide) (by rw [c_1_2]; rfl) (by decide) ?_
    refine lv_aload_n hx hb dX5_count_48 rfl (lv_at hl 0 rfl) ?_
    refine va_get (D := D) (ci := 5) (v := .ref tx) (C := RX5) (T := TX5) (N := 11) hx hb hts (in_X5_count_X5) hown hK hP 0 rfl rfl 4 (by decide) (hts (.fieldLink RX5 29 "StepsRoundCircle" "text" "LStepsRoundCircle$Text;") (by decide +kernel)) (fun _ h9 => h9) rfl dX5_count_49 ?_
    refine va_get (D := D) (ci := 4) (v := .int tz) (C := RX4) (T := TX4) (N := 2) hx hb hts (in_X5_count_X4) hown hK hP 4 rfl rfl 0 (by decide) (hts (.fieldLink RX5 76 "StepsRoundCircle$Text" "size" "I") (by decide +kernel)) (fun _ h9 => h9) rfl dX5_count_52 ?_
    exact rdI hx hb hr hlocks dX5_count_55 (by first | rfl | (simp [bi, cntA, c_1_0, c_1_1, c_1_2]; done))
  by_cases c_1_3 : n = 3
  · skip
    refine lv_tableIn (off := 55) (tgt := 56) hx hb dX5_count_1 (by rw [c_1_3]; decide) (by rw [c_1_3]; decide) (by rw [c_1_3]; rfl) (by decide) ?_
    refine lv_aload_n hx hb dX5_count_56 rfl (lv_at hl 0 rfl) ?_
    refine va_get (D := D) (ci := 5) (v := .ref ch) (C := RX5) (T := TX5) (N := 11) hx hb hts (in_X5_count_X5) hown hK hP 0 rfl rfl 5 (by decide) (hts (.fieldLink RX5 36 "StepsRoundCircle" "changes" "LStepsRoundCircle$Changes;") (by decide +kernel)) (fun _ h9 => h9) rfl dX5_count_57 ?_
    refine va_get (D := D) (ci := 0) (v := .int cz) (C := RX0) (T := TX0) (N := 2) hx hb hts (in_X5_count_X0) hown hK hP 6 rfl rfl 0 (by decide) (hts (.fieldLink RX5 275 "StepsRoundCircle$Changes" "size" "I") (by decide +kernel)) (fun _ h9 => h9) rfl dX5_count_60 ?_
    exact rdI hx hb hr hlocks dX5_count_63 (by first | rfl | (simp [bi, cntA, c_1_0, c_1_1, c_1_2, c_1_3]; done))
  by_cases co_1 : n.toInt < 0 ∨ 3 < n.toInt
  · skip
    refine lv_tableOut (tgt := 64) hx hb dX5_count_1 co_1 (by decide) ?_
    refine lv_iload_n hx hb dX5_count_64 rfl (lv_at hl 1 rfl) ?_
    refine lv_bipush (v := 11) hx hb dX5_count_65 (by decide) ?_
    refine lv_isub hx hb dX5_count_67 ?_
    refine lv_aload_n hx hb dX5_count_68 rfl (lv_at hl 0 rfl) ?_
    refine va_get (D := D) (ci := 5) (v := .ref rf) (C := RX5) (T := TX5) (N := 11) hx hb hts (in_X5_count_X5) hown hK hP 0 rfl rfl 7 (by decide) (hts (.fieldLink RX5 46 "StepsRoundCircle" "refusals" "[I") (by decide +kernel)) (fun _ h9 => h9) rfl dX5_count_69 ?_
    refine va_alen (v := 6) hx hb hK hP 1 0 rfl rfl rfl dX5_count_72 ?_
    refine rdS (As := [.int (n - 11), .int 6]) (rest := []) ⟨hx, hb, hml, hown, hts⟩ (c_X5_isBelow l D cI cZ cR (n - 11) 6 ) (va_cwS 2 hts gX5_count_X5_isBelow rfl rfl rfl (by decide +kernel) ⟨Nat.le_of_ble_eq_true rfl, Nat.le_of_ble_eq_true rfl⟩) hK hN hP [] rfl rfl hl.1 rfl (Nat.le_of_ble_eq_true rfl) dX5_count_73 ⟨Nat.zero_le _, Nat.zero_le _⟩ ?_
    refine lv_if_eq (tgt := 91) hx hb dX5_count_76 (by decide) (fun c_76 => ?_) (fun c_76 => ?_)
    · skip
      have c_76 := bi_eq0.mp c_76
      refine lv_bipush (v := (-9)) hx hb dX5_count_91 (by decide) ?_
      exact rdI hx hb hr hlocks dX5_count_93 (by first | rfl | (simp [bi, cntA, c_1_0, c_1_1, c_1_2, c_1_3, c_76]; done))
    · skip
      have c_76 := bi_ne0.mp c_76
      refine lv_aload_n hx hb dX5_count_79 rfl (lv_at hl 0 rfl) ?_
      refine va_get (D := D) (ci := 5) (v := .ref rf) (C := RX5) (T := TX5) (N := 11) hx hb hts (in_X5_count_X5) hown hK hP 0 rfl rfl 7 (by decide) (hts (.fieldLink RX5 46 "StepsRoundCircle" "refusals" "[I") (by decide +kernel)) (fun _ h9 => h9) rfl dX5_count_80 ?_
      refine lv_iload_n hx hb dX5_count_83 rfl (lv_at hl 1 rfl) ?_
      refine lv_bipush (v := 11) hx hb dX5_count_84 (by decide) ?_
      refine lv_isub hx hb dX5_count_86 ?_
      refine va_iald hx hb hK hP 1 0 rfl rfl (vp_lit (n := 6) (by decide) c_76) dX5_count_87 ?_
      refine lv_goto (tgt := 93) hx hb dX5_count_88 (by decide) ?_
      exact rdI hx hb hr hlocks dX5_count_93 (by first | rfl | (simp [bi, cntA, c_1_0, c_1_1, c_1_2, c_1_3, c_76]; done))
  exact False.elim (by have q0 := lv_neT c_1_0 (show (0 : Int32).toInt = 0 by decide); have q1 := lv_neT c_1_1 (show (1 : Int32).toInt = 1 by decide); have q2 := lv_neT c_1_2 (show (2 : Int32).toInt = 2 by decide); have q3 := lv_neT c_1_3 (show (3 : Int32).toInt = 3 by decide); omega)
