theorem in_X6_lots_X6 : ∀ w ∈ wsX60, w ∈ wsX6_lots := by decide +kernel
set_option maxHeartbeats 4000000 in
set_option maxRecDepth 100000 in
theorem c_X6_lots (l : Launch) (D : va_G) (cI cZ cR : ClassId) (y yr yw yc yl ys yp ym yo yk yt yi yz yx yu : Nat) (mq mn mc me md mz km kr : Int32) (G : Nat → Int32) (v of9 : Nat → Int32) (n z0 k : Int32) (hq : okQ mq) (hmn : 0 ≤ mn) (hm5 : mn ≤ 5) (hws : ∀ w, 0 ≤ w ∧ w < mn → okW mq v w) (sz : Nat) : Met l yX6_lots wsX6_lots ({ frames := 3, cells := 0, slots := 0, locals := 74 }) (PcW D cI cZ cR [.ref y, .int n, .int z0, .int k] [(y, .inr (6, [.ref yr, .int mq, .int mn, .ref yw, .ref yc, .int mc, .ref yl, .int me, .ref ys, .ref yp, .ref ym, .int md, .ref yo, .ref yk, .ref yt, .int mz, .ref yi, .ref yz, .ref yx, .ref yu, .int km, .int kr])), (yr, .inl (cI, 7, .inl G)), (yw, .inl (cI, 20, .inl v)), (yo, .inl (cI, 200, .inl of9))] sz) (va_Qi (fun (res : Int32) (u : Int32 × (Nat → Int32) × (Nat → Int32)) => res = (if rf_lot mn n k = 0 then lotA mq mn v z0 n.toNatClampNeg k else rf_lot mn n k) ∧ u.2.1 = (if rf_lot mn n k = 0 then G else md_bump G (rf_lot mn n k))) (Bw D (fun (u : Int32 × (Nat → Int32) × (Nat → Int32)) => [(y, .inr (6, [.ref yr, .int mq, .int mn, .ref yw, .ref yc, .int mc, .ref yl, .int me, .ref ys, .ref yp, .ref ym, .int md, .ref yo, .ref yk, .ref yt, .int u.1, .ref yi, .ref yz, .ref yx, .ref yu, .int km, .int kr])), (yr, .inl (cI, 7, .inl u.2.1)), (yw, .inl (cI, 20, .inl v)), (yo, .inl (cI, 200, .inl u.2.2))]) (va_A [(y, .inr (6, [.ref yr, .int mq, .int mn, .ref yw, .ref yc, .int mc, .ref yl, .int me, .ref ys, .ref yp, .ref ym, .int md, .ref yo, .ref yk, .ref yt, .int mz, .ref yi, .ref yz, .ref yx, .ref yu, .int km, .int kr])), (yr, .inl (cI, 7, .inl G)), (yw, .inl (cI, 20, .inl v)), (yo, .inl (cI, 200, .inl of9))] sz)) (va_A [(y, .inr (6, [.ref yr, .int mq, .int mn, .ref yw, .ref yc, .int mc, .ref yl, .int me, .ref ys, .ref yp, .ref ym, .int md, .ref yo, .ref yk, .ref yt, .int mz, .ref yi, .ref yz, .ref yx, .ref yu, .int km, .int kr])), (yr, .inl (cI, 7, .inl G)), (yw, .inl (cI, 20, .inl v)), (yo, .inl (cI, 200, .inl of9))] sz)) 0 0 (va_A [(y, .inr (6, [.ref yr, .int mq, .int mn, .ref yw, .ref yc, .int mc, .ref yl, .int me, .ref ys, .ref yp, .ref ym, .int md, .ref yo, .ref yk, .ref yt, .int mz, .ref yi, .ref yz, .ref yx, .ref yu, .int km, .int kr])), (yr, .inl (cI, 7, .inl G)), (yw, .inl (cI, 20, .inl v)), (yo, .inl (cI, 200, .inl of9))] sz) := by
  refine Met.ofW (cc := cX6_lots) (maxL := 12) (ret := (some .int)) (by decide) rfl ?_
  intro p e s m args below meth c s₁ B hml hv
  obtain ⟨rfl, hsz, hP, hK, hD0, hN⟩ := hv
  have hx := B.exec
  have hb := B.bytes
  have hr := B.returns
  have hts := atoms_spec (ws := wsX6_lots) B.pre
  have hown : s.vm.findClass RX6 = some m.cls := findClass_of_methodNamed B.named
  have hlocks := B.notSynchronized
  subst hsz
  have hD := hD0.self (sz := s.heap.size)
  generalize hAe : va_A [(y, .inr (6, [.ref yr, .int mq, .int mn, .ref yw, .ref yc, .int mc, .ref yl, .int me, .ref ys, .ref yp, .ref ym, .int md, .ref yo, .ref yk, .ref yt, .int mz, .ref yi, .ref yz, .ref yx, .ref yu, .int km, .int kr])), (yr, .inl (cI, 7, .inl G)), (yw, .inl (cI, 20, .inl v)), (yo, .inl (cI, 200, .inl of9))] s.heap.size = A at hD ⊢
  have hA : ∀ q : Nat, s.heap.size ≤ q → A q := fun q h => by rw [← hAe]; exact Or.inr h
  have hS : va_S A s.heap s.heap [] := va_S.rf
  have hP : va_P D vwCl [(y, .inr (6, [.ref yr, .int mq, .int mn, .ref yw, .ref yc, .int mc, .ref yl, .int me, .ref ys, .ref yp, .ref ym, .int md, .ref yo, .ref yk, .ref yt, .int mz, .ref yi, .ref yz, .ref yx, .ref yu, .int km, .int kr])), (yr, .inl (cI, 7, .inl G)), (yw, .inl (cI, 20, .inl v)), (yo, .inl (cI, 200, .inl of9))] s.heap := hP
  have hl := lv_entry ([.ref y, .int n, .int z0, .int k]) (n := 12) (Nat.le_of_ble_eq_true rfl)
  rw [lg_entry_eq]
  generalize (lg_sl ([.ref y, .int n, .int z0, .int k]) ++ List.replicate (12 - (lg_sl ([.ref y, .int n, .int z0, .int k])).length) Slot.unset).toArray = ls at hl ⊢
  have hl : lv_has ls 12 [(0, .ref y), (1, .int n), (2, .int z0), (3, .int k)] := hl
  refine lv_iload_n hx hb dX6_lots_0 rfl (lv_at hl 1 rfl) ?_
  refine lv_iconst (v := 1) hx hb dX6_lots_1 (by decide) ?_
  refine lv_bipush (v := 50) hx hb dX6_lots_2 (by decide) ?_
  refine rdS (As := [.int n, .int 1, .int 50]) (rest := []) ⟨hx, hb, hml, hown, hts⟩ (c_X6_range l D cI cZ cR n 1 50 ) (va_cwS 3 hts gX6_lots_X6_range rfl rfl rfl (by decide +kernel) ⟨Nat.le_of_ble_eq_true rfl, Nat.le_of_ble_eq_true rfl⟩) hK hN hP [] rfl rfl hl.1 rfl (Nat.le_of_ble_eq_true rfl) dX6_lots_4 ⟨Nat.zero_le _, Nat.zero_le _⟩ ?_
  refine lv_istore (lv' := [(4, .int (rng n 1 50)), (0, .ref y), (1, .int n), (2, .int z0), (3, .int k)]) hx hb dX6_lots_7 hl (by decide) rfl (fun ls hl => ?_)
  refine lv_iload hx hb dX6_lots_9 (lv_at hl 0 rfl) ?_
  refine lv_if_eq (tgt := 21) hx hb dX6_lots_11 (by decide) (fun c_11 => ?_) (fun c_11 => ?_)
  · skip
    refine lv_iload_n hx hb dX6_lots_21 rfl (lv_at hl 4 rfl) ?_
    refine lv_i2l hx hb dX6_lots_22 rfl ?_
    refine lv_lconst (v := 0) hx hb dX6_lots_23 (by decide) ?_
    refine lv_lconst (v := 1) hx hb dX6_lots_24 (by decide) ?_
    refine rdS (As := [.long k.toInt64, .long 0, .long 1]) (rest := []) ⟨hx, hb, hml, hown, hts⟩ (c_X6_in l D cI cZ cR k.toInt64 0 1 ) (va_cwS 3 hts gX6_lots_X6_in rfl rfl rfl (by decide +kernel) ⟨Nat.le_of_ble_eq_true rfl, Nat.le_of_ble_eq_true rfl⟩) hK hN hP [] rfl rfl hl.1 rfl (Nat.le_of_ble_eq_true rfl) dX6_lots_25 ⟨Nat.zero_le _, Nat.zero_le _⟩ ?_
    refine lv_if_ne (tgt := 38) hx hb dX6_lots_28 (by decide) (fun c_28 => ?_) (fun c_28 => ?_)
    · skip
      have c_28 := bi_ne0.mp c_28
      refine lv_aload_n hx hb dX6_lots_38 rfl (lv_at hl 1 rfl) ?_
      refine va_get (D := D) (ci := 6) (v := .int mn) (C := RX6) (T := TX6) (N := 22) hx hb hts (in_X6_lots_X6) hown hK hP 0 rfl rfl 2 (by decide) (hts (.fieldLink RX6 70 "StepsRoundCircleModel" "many" "I") (by decide +kernel)) (fun _ h9 => h9) rfl dX6_lots_39 ?_
      refine lv_if_ne (tgt := 52) hx hb dX6_lots_42 (by decide) (fun c_42 => ?_) (fun c_42 => ?_)
      · skip
        have hn := n50 (rng_0 c_11).1 (rng_0 c_11).2
        have eR : rf_lot mn n k = 0 := by unfold rf_lot; rw [if_neg (Int32.not_lt.mpr (rng_0 c_11).1), if_neg (Int32.not_lt.mpr (rng_0 c_11).2), if_neg (fun z => z ((md_w1 k).mp c_28)), if_neg c_42]
        have hK0 : 0 < mn.toNatClampNeg := by rcases Nat.eq_zero_or_pos mn.toNatClampNeg with q9 | q9; exact absurd (by rw [asN hmn, q9]; exact nI_0) c_42; exact q9
        refine lv_aload_n hx hb dX6_lots_52 rfl (lv_at hl 1 rfl) ?_
        refine lv_iload_n hx hb dX6_lots_53 rfl (lv_at hl 3 rfl) ?_
        refine va_put (D := D) (ci := 6) (v := .int z0) (ty := .int) (C := RX6) (T := TX6) (N := 22) hx hb hts (in_X6_lots_X6) tyX6 tyX6_ok nmX6 hown hK hP hD hS 0 rfl rfl 15 (by decide) (hts (.fieldLink RX6 195 "StepsRoundCircleModel" "drawn" "I") (by decide +kernel)) (fun _ h9 => h9) rfl (by decide +kernel) rfl rfl (Nat.le_of_ble_eq_true rfl) dX6_lots_54 (fun H locs hP hD hS => ?_)
        have hP : va_P D vwCl [(y, .inr (6, [.ref yr, .int mq, .int mn, .ref yw, .ref yc, .int mc, .ref yl, .int me, .ref ys, .ref yp, .ref ym, .int md, .ref yo, .ref yk, .ref yt, .int z0, .ref yi, .ref yz, .ref yx, .ref yu, .int km, .int kr])), (yr, .inl (cI, 7, .inl G)), (yw, .inl (cI, 20, .inl v)), (yo, .inl (cI, 200, .inl of9))] H := hP
        have hD : va_D A [(y, .inr (6, [.ref yr, .int mq, .int mn, .ref yw, .ref yc, .int mc, .ref yl, .int me, .ref ys, .ref yp, .ref ym, .int md, .ref yo, .ref yk, .ref yt, .int z0, .ref yi, .ref yz, .ref yx, .ref yu, .int km, .int kr])), (yr, .inl (cI, 7, .inl G)), (yw, .inl (cI, 20, .inl v)), (yo, .inl (cI, 200, .inl of9))] := hD
        refine lv_iconst (v := 0) hx hb dX6_lots_57 (by decide) ?_
        refine lv_istore (lv' := [(5, .int 0), (4, .int (rng n 1 50)), (0, .ref y), (1, .int n), (2, .int z0), (3, .int k)]) hx hb dX6_lots_58 hl (by decide) rfl (fun ls hl => ?_)
        refine lv_iconst (v := 0) hx hb dX6_lots_60 (by decide) ?_
        refine lv_istore (lv' := [(6, .int 0), (5, .int 0), (4, .int (rng n 1 50)), (0, .ref y), (1, .int n), (2, .int z0), (3, .int k)]) hx hb dX6_lots_61 hl (by decide) rfl (fun ls hl => ?_)
        refine lv_iconst (v := 0) hx hb dX6_lots_63 (by decide) ?_
        refine lv_istore (lv' := [(7, .int 0), (6, .int 0), (5, .int 0), (4, .int (rng n 1 50)), (0, .ref y), (1, .int n), (2, .int z0), (3, .int k)]) hx hb dX6_lots_64 hl (by decide) rfl (fun ls hl => ?_)
        have loop_66 : ∀ (fuel : Nat), ∀ (i : Nat), ∀ (U : List Int32), ∀ (g : Nat → Int32), (i ≤ n.toNatClampNeg) → (U.length = (mk (lotP mq mn v z0) i).length) → (∀ x, x ∈ U ↔ x ∈ mk (lotP mq mn v z0) i) → (∀ j, j < U.length → g j = U.getD j 0) → (n.toNatClampNeg + 1 ≤ i + fuel) → ∀ (y5 : Int32), y5 = nI U.length → ∀ (y6 : Int32), y6 = isum (lotP mq mn v z0) i → ∀ (y7 : Int32), y7 = nI i → ∀ (H : Heap) (locs : List Loc), va_P D vwCl [(y, .inr (6, [.ref yr, .int mq, .int mn, .ref yw, .ref yc, .int mc, .ref yl, .int me, .ref ys, .ref yp, .ref ym, .int md, .ref yo, .ref yk, .ref yt, .int (sd z0 i), .ref yi, .ref yz, .ref yx, .ref yu, .int km, .int kr])), (yr, .inl (cI, 7, .inl G)), (yw, .inl (cI, 20, .inl v)), (yo, .inl (cI, 200, .inl g))] H → va_D A [(y, .inr (6, [.ref yr, .int mq, .int mn, .ref yw, .ref yc, .int mc, .ref yl, .int me, .ref ys, .ref yp, .ref ym, .int md, .ref yo, .ref yk, .ref yt, .int (sd z0 i), .ref yi, .ref yz, .ref yx, .ref yu, .int km, .int kr])), (yr, .inl (cI, 7, .inl G)), (yw, .inl (cI, 20, .inl v)), (yo, .inl (cI, 200, .inl g))] → va_S A s.heap H locs → ∀ (ls : Array Slot), lv_has ls 12 [(5, .int y5), (6, .int y6), (7, .int y7), (0, .ref y), (1, .int n), (2, .int z0), (3, .int k), (4, .int (rng n 1 50))] → W p l e (headSpec wsX6_lots ({ frames := 3, cells := 0, slots := 0, locals := 74 })).room s m ([.ref y, .int n, .int z0, .int k] : List Value).toArray below meth c H locs 0 0 (MQ below (va_Qi (fun (res : Int32) (u : Int32 × (Nat → Int32) × (Nat → Int32)) => res = (if rf_lot mn n k = 0 then lotA mq mn v z0 n.toNatClampNeg k else rf_lot mn n k) ∧ u.2.1 = (if rf_lot mn n k = 0 then G else md_bump G (rf_lot mn n k))) (Bw D (fun (u : Int32 × (Nat → Int32) × (Nat → Int32)) => [(y, .inr (6, [.ref yr, .int mq, .int mn, .ref yw, .ref yc, .int mc, .ref yl, .int me, .ref ys, .ref yp, .ref ym, .int md, .ref yo, .ref yk, .ref yt, .int u.1, .ref yi, .ref yz, .ref yx, .ref yu, .int km, .int kr])), (yr, .inl (cI, 7, .inl u.2.1)), (yw, .inl (cI, 20, .inl v)), (yo, .inl (cI, 200, .inl u.2.2))]) A) A) ([.ref y, .int n, .int z0, .int k] : List Value).toArray s 0 0 A) (F0 m 66 ls []) := by
          intro fuel
          induction fuel with
          | zero =>
            intro i U g hi9 hU hUm hg hfu
            exact False.elim (by omega)
          | succ fuel ih_66 =>
            intro i U g hi9 hU hUm hg hfu y5 ey5 y6 ey6 y7 ey7 H locs hP hD hS ls hl
            subst ey5
            subst ey6
            subst ey7
            refine lv_iload hx hb dX6_lots_66 (lv_at hl 2 rfl) ?_
            refine lv_iload_n hx hb dX6_lots_68 rfl (lv_at hl 4 rfl) ?_
            refine lv_icmp_ge (tgt := 170) hx hb dX6_lots_69 (by decide) (fun c_69 => ?_) (fun c_69 => ?_)
            · skip
              have hend : i = n.toNatClampNeg := by have := (le_clamp (by omega)).mp c_69; omega
              refine lv_iload_n hx hb dX6_lots_170 rfl (lv_at hl 6 rfl) ?_
              refine lv_if_ne (tgt := 179) hx hb dX6_lots_171 (by decide) (fun c_171 => ?_) (fun c_171 => ?_)
              · skip
                refine lv_iload hx hb dX6_lots_179 (lv_at hl 1 rfl) ?_
                exact wrI (w1 := (fun (u : Int32 × (Nat → Int32) × (Nat → Int32)) => [(y, .inr (6, [.ref yr, .int mq, .int mn, .ref yw, .ref yc, .int mc, .ref yl, .int me, .ref ys, .ref yp, .ref ym, .int md, .ref yo, .ref yk, .ref yt, .int u.1, .ref yi, .ref yz, .ref yx, .ref yu, .int km, .int kr])), (yr, .inl (cI, 7, .inl u.2.1)), (yw, .inl (cI, 20, .inl v)), (yo, .inl (cI, 200, .inl u.2.2))])) ((sd z0 i), G, g) hx hb hr hlocks dX6_lots_181 hS (hP.sub [0, 1, 2, 3] rfl) (hD.sub [0, 1, 2, 3] (by decide) rfl) (⟨by rw [if_pos eR]; unfold lotA; rw [if_neg c_171]; rw [hend], by rw [if_pos eR]⟩)
              · skip
                refine lv_iload hx hb dX6_lots_174 (lv_at hl 0 rfl) ?_
                refine lv_goto (tgt := 181) hx hb dX6_lots_176 (by decide) ?_
                exact wrI (w1 := (fun (u : Int32 × (Nat → Int32) × (Nat → Int32)) => [(y, .inr (6, [.ref yr, .int mq, .int mn, .ref yw, .ref yc, .int mc, .ref yl, .int me, .ref ys, .ref yp, .ref ym, .int md, .ref yo, .ref yk, .ref yt, .int u.1, .ref yi, .ref yz, .ref yx, .ref yu, .int km, .int kr])), (yr, .inl (cI, 7, .inl u.2.1)), (yw, .inl (cI, 20, .inl v)), (yo, .inl (cI, 200, .inl u.2.2))])) ((sd z0 i), G, g) hx hb hr hlocks dX6_lots_181 hS (hP.sub [0, 1, 2, 3] rfl) (hD.sub [0, 1, 2, 3] (by decide) rfl) (⟨by rw [if_pos eR]; unfold lotA; rw [if_pos c_171]; rw [hU, hend], by rw [if_pos eR]⟩)
            · skip
              have hiN : i < n.toNatClampNeg := (lt_clamp (by omega)).mp (Int32.not_le.mp c_69)
              have hgl := mk_len (lotP mq mn v z0) i
              obtain ⟨c1, hc1, hc2⟩ := (draw_is (x := fseed (sd z0 i)) (asN hmn) hK0 (clamp_lt mn)).2
              have hW : 0 ≤ fdraw (fseed (sd z0 i)) mn ∧ fdraw (fseed (sd z0 i)) mn < mn := by rw [hc2]; exact ⟨nI_pos' (by have := clamp_lt mn; omega), by rw [lt_clamp (by have := clamp_lt mn; omega)]; exact hc1⟩
              obtain ⟨c2, hd1, hd2⟩ := (draw_is (x := fseed (fseed (sd z0 i))) (b := 200) (B := 200) rfl (by decide) (by decide)).2
              refine lv_aload_n hx hb dX6_lots_72 rfl (lv_at hl 3 rfl) ?_
              refine lv_aload_n hx hb dX6_lots_73 rfl (lv_at hl 3 rfl) ?_
              refine va_get (D := D) (ci := 6) (v := .int mn) (C := RX6) (T := TX6) (N := 22) hx hb hts (in_X6_lots_X6) hown hK hP 0 rfl rfl 2 (by decide) (hts (.fieldLink RX6 70 "StepsRoundCircleModel" "many" "I") (by decide +kernel)) (fun _ h9 => h9) rfl dX6_lots_74 ?_
              refine wrVi (As := [.int mn]) (rest := []) (wr := [(yr, .inl (cI, 7, .inl G)), (yw, .inl (cI, 20, .inl v)), (yo, .inl (cI, 200, .inl g))]) (A := A) ⟨hx, hb, hml, hown, hts⟩ (c_X6_draw l D cI cZ cR y yr yw yc yl ys yp ym yo yk yt yi yz yx yu mq mn mc me md (sd z0 i) km kr mn mn.toNatClampNeg (asN hmn) hK0 (clamp_lt mn) H.size) (cwV 1 hts gX6_lots_X6_draw rfl rfl rfl (by decide +kernel) ⟨Nat.le_of_ble_eq_true rfl, Nat.le_of_ble_eq_true rfl⟩) hK hN hP hD hS hA 0 6 rfl rfl rfl [0] [1, 2, 3] rfl (by decide) rfl (by decide) (by decide) rfl hl.1 rfl (Nat.le_of_ble_eq_true rfl) dX6_lots_77 ⟨Nat.zero_le _, Nat.zero_le _⟩ (fun r_77 u H locs hw hP hD hS => ?_)
              obtain ⟨mz_77, rfl⟩ : ∃ z, z = u := ⟨_, rfl⟩
              try dsimp only at hw
              obtain ⟨q1_77, q2_77⟩ := hw
              have q1_77 := q1_77.symm
              subst q1_77
              have q2_77 := q2_77.symm
              subst q2_77
              have hP : va_P D vwCl [(y, .inr (6, [.ref yr, .int mq, .int mn, .ref yw, .ref yc, .int mc, .ref yl, .int me, .ref ys, .ref yp, .ref ym, .int md, .ref yo, .ref yk, .ref yt, .int (fseed (sd z0 i)), .ref yi, .ref yz, .ref yx, .ref yu, .int km, .int kr])), (yr, .inl (cI, 7, .inl G)), (yw, .inl (cI, 20, .inl v)), (yo, .inl (cI, 200, .inl g))] H := hP.sub [3, 0, 1, 2] rfl
              have hD : va_D A [(y, .inr (6, [.ref yr, .int mq, .int mn, .ref yw, .ref yc, .int mc, .ref yl, .int me, .ref ys, .ref yp, .ref ym, .int md, .ref yo, .ref yk, .ref yt, .int (fseed (sd z0 i)), .ref yi, .ref yz, .ref yx, .ref yu, .int km, .int kr])), (yr, .inl (cI, 7, .inl G)), (yw, .inl (cI, 20, .inl v)), (yo, .inl (cI, 200, .inl g))] := hD.sub [3, 0, 1, 2] (by decide) rfl
              refine lv_istore (lv' := [(8, .int (fdraw (fseed (sd z0 i)) mn)), (5, .int (nI U.length)), (6, .int (isum (lotP mq mn v z0) i)), (7, .int (nI i)), (0, .ref y), (1, .int n), (2, .int z0), (3, .int k), (4, .int (rng n 1 50))]) hx hb dX6_lots_80 hl (by decide) rfl (fun ls hl => ?_)
              refine lv_aload_n hx hb dX6_lots_82 rfl (lv_at hl 4 rfl) ?_
              refine lv_iload hx hb dX6_lots_83 (lv_at hl 0 rfl) ?_
              refine lv_aload_n hx hb dX6_lots_85 rfl (lv_at hl 4 rfl) ?_
              refine lv_sipush (v := 200) hx hb dX6_lots_86 (by decide) ?_
              refine wrVi (As := [.int 200]) (rest := [.int (fdraw (fseed (sd z0 i)) mn), .ref y]) (wr := [(yr, .inl (cI, 7, .inl G)), (yw, .inl (cI, 20, .inl v)), (yo, .inl (cI, 200, .inl g))]) (A := A) ⟨hx, hb, hml, hown, hts⟩ (c_X6_draw l D cI cZ cR y yr yw yc yl ys yp ym yo yk yt yi yz yx yu mq mn mc me md (fseed (sd z0 i)) km kr 200 200 rfl (by decide) (by decide) H.size) (cwV 1 hts gX6_lots_X6_draw rfl rfl rfl (by decide +kernel) ⟨Nat.le_of_ble_eq_true rfl, Nat.le_of_ble_eq_true rfl⟩) hK hN hP hD hS hA 0 6 rfl rfl rfl [0] [1, 2, 3] rfl (by decide) rfl (by decide) (by decide) rfl hl.1 rfl (Nat.le_of_ble_eq_true rfl) dX6_lots_89 ⟨Nat.zero_le _, Nat.zero_le _⟩ (fun r_89 u H locs hw hP hD hS => ?_)
              obtain ⟨mz_89, rfl⟩ : ∃ z, z = u := ⟨_, rfl⟩
              try dsimp only at hw
              obtain ⟨q1_89, q2_89⟩ := hw
              have q1_89 := q1_89.symm
              subst q1_89
              have q2_89 := q2_89.symm
              subst q2_89
              have hP : va_P D vwCl [(y, .inr (6, [.ref yr, .int mq, .int mn, .ref yw, .ref yc, .int mc, .ref yl, .int me, .ref ys, .ref yp, .ref ym, .int md, .ref yo, .ref yk, .ref yt, .int (fseed (fseed (sd z0 i))), .ref yi, .ref yz, .ref yx, .ref yu, .int km, .int kr])), (yr, .inl (cI, 7, .inl G)), (yw, .inl (cI, 20, .inl v)), (yo, .inl (cI, 200, .inl g))] H := hP.sub [3, 0, 1, 2] rfl
              have hD : va_D A [(y, .inr (6, [.ref yr, .int mq, .int mn, .ref yw, .ref yc, .int mc, .ref yl, .int me, .ref ys, .ref yp, .ref ym, .int md, .ref yo, .ref yk, .ref yt, .int (fseed (fseed (sd z0 i))), .ref yi, .ref yz, .ref yx, .ref yu, .int km, .int kr])), (yr, .inl (cI, 7, .inl G)), (yw, .inl (cI, 20, .inl v)), (yo, .inl (cI, 200, .inl g))] := hD.sub [3, 0, 1, 2] (by decide) rfl
              refine rdV (As := [.int (fdraw (fseed (sd z0 i)) mn), .int (fdraw (fseed (fseed (sd z0 i))) 200)]) (rest := []) ⟨hx, hb, hml, hown, hts⟩ (c_X6_placeOf l D cI cZ cR y yr yw yc yl ys yp ym yo yk yt yi yz yx yu mq mn mc me md (fseed (fseed (sd z0 i))) km kr v (fdraw (fseed (sd z0 i)) mn) (fdraw (fseed (fseed (sd z0 i))) 200) hq (w5 hm5 hW) (hws _ hW) (by rw [hd2]; exact ⟨nI_pos' (by omega), nI_le (b := 4000) (by omega) (by omega)⟩)) (cwV 2 hts gX6_lots_X6_placeOf rfl rfl rfl (by decide +kernel) ⟨Nat.le_of_ble_eq_true rfl, Nat.le_of_ble_eq_true rfl⟩) hK hN hP 0 6 rfl rfl rfl [0, 2] rfl rfl hl.1 rfl (Nat.le_of_ble_eq_true rfl) dX6_lots_92 ⟨Nat.zero_le _, Nat.zero_le _⟩ ?_
              refine lv_topi (fun z_95 hz_95 => ?_)
              have hz_95 : z_95 = lotP mq mn v z0 i := hz_95.trans rfl
              subst hz_95
              refine lv_istore (lv' := [(9, .int (lotP mq mn v z0 i)), (8, .int (fdraw (fseed (sd z0 i)) mn)), (5, .int (nI U.length)), (6, .int (isum (lotP mq mn v z0) i)), (7, .int (nI i)), (0, .ref y), (1, .int n), (2, .int z0), (3, .int k), (4, .int (rng n 1 50))]) hx hb dX6_lots_95 hl (by decide) rfl (fun ls hl => ?_)
              refine lv_iload hx hb dX6_lots_97 (lv_at hl 3 rfl) ?_
              refine lv_iload hx hb dX6_lots_99 (lv_at hl 0 rfl) ?_
              refine lv_iadd hx hb dX6_lots_101 ?_
              refine lv_istore (lv' := [(6, .int ((isum (lotP mq mn v z0) i) + (lotP mq mn v z0 i))), (9, .int (lotP mq mn v z0 i)), (8, .int (fdraw (fseed (sd z0 i)) mn)), (5, .int (nI U.length)), (7, .int (nI i)), (0, .ref y), (1, .int n), (2, .int z0), (3, .int k), (4, .int (rng n 1 50))]) hx hb dX6_lots_102 hl (by decide) rfl (fun ls hl => ?_)
              refine lv_iconst (v := 0) hx hb dX6_lots_104 (by decide) ?_
              refine lv_istore (lv' := [(10, .int 0), (6, .int ((isum (lotP mq mn v z0) i) + (lotP mq mn v z0 i))), (9, .int (lotP mq mn v z0 i)), (8, .int (fdraw (fseed (sd z0 i)) mn)), (5, .int (nI U.length)), (7, .int (nI i)), (0, .ref y), (1, .int n), (2, .int z0), (3, .int k), (4, .int (rng n 1 50))]) hx hb dX6_lots_105 hl (by decide) rfl (fun ls hl => ?_)
              refine lv_iconst (v := 0) hx hb dX6_lots_107 (by decide) ?_
              refine lv_istore (lv' := [(11, .int 0), (10, .int 0), (6, .int ((isum (lotP mq mn v z0) i) + (lotP mq mn v z0 i))), (9, .int (lotP mq mn v z0 i)), (8, .int (fdraw (fseed (sd z0 i)) mn)), (5, .int (nI U.length)), (7, .int (nI i)), (0, .ref y), (1, .int n), (2, .int z0), (3, .int k), (4, .int (rng n 1 50))]) hx hb dX6_lots_108 hl (by decide) rfl (fun ls hl => ?_)
              have loop_110 : ∀ (fuel : Nat), ∀ (i3 : Nat), (i3 ≤ U.length) → (U.length + 1 ≤ i3 + fuel) → ∀ (y10 : Int32), y10 = bi (lotP mq mn v z0 i ∈ U.take i3) → ∀ (y11 : Int32), y11 = nI i3 → ∀ (ls : Array Slot), lv_has ls 12 [(10, .int y10), (11, .int y11), (0, .ref y), (1, .int n), (2, .int z0), (3, .int k), (4, .int (rng n 1 50)), (5, .int (nI U.length)), (6, .int ((isum (lotP mq mn v z0) i) + (lotP mq mn v z0 i))), (7, .int (nI i)), (8, .int (fdraw (fseed (sd z0 i)) mn)), (9, .int (lotP mq mn v z0 i))] → W p l e (headSpec wsX6_lots ({ frames := 3, cells := 0, slots := 0, locals := 74 })).room s m ([.ref y, .int n, .int z0, .int k] : List Value).toArray below meth c H locs 0 0 (MQ below (va_Qi (fun (res : Int32) (u : Int32 × (Nat → Int32) × (Nat → Int32)) => res = (if rf_lot mn n k = 0 then lotA mq mn v z0 n.toNatClampNeg k else rf_lot mn n k) ∧ u.2.1 = (if rf_lot mn n k = 0 then G else md_bump G (rf_lot mn n k))) (Bw D (fun (u : Int32 × (Nat → Int32) × (Nat → Int32)) => [(y, .inr (6, [.ref yr, .int mq, .int mn, .ref yw, .ref yc, .int mc, .ref yl, .int me, .ref ys, .ref yp, .ref ym, .int md, .ref yo, .ref yk, .ref yt, .int u.1, .ref yi, .ref yz, .ref yx, .ref yu, .int km, .int kr])), (yr, .inl (cI, 7, .inl u.2.1)), (yw, .inl (cI, 20, .inl v)), (yo, .inl (cI, 200, .inl u.2.2))]) A) A) ([.ref y, .int n, .int z0, .int k] : List Value).toArray s 0 0 A) (F0 m 110 ls []) := by
                intro fuel
                induction fuel with
                | zero =>
                  intro i3 hi3 hfu3
                  exact False.elim (by omega)
                | succ fuel ih_110 =>
                  intro i3 hi3 hfu3 y10 ey10 y11 ey11 ls hl
                  subst ey10
                  subst ey11
                  refine lv_iload hx hb dX6_lots_110 (lv_at hl 1 rfl) ?_
                  refine lv_iload hx hb dX6_lots_112 (lv_at hl 7 rfl) ?_
                  refine lv_icmp_ge (tgt := 147) hx hb dX6_lots_114 (by decide) (fun c_114 => ?_) (fun c_114 => ?_)
                  · skip
                    have h3e : i3 = U.length := by have := (nI_leI (by omega) (by omega)).mp c_114; omega
                    refine lv_iload hx hb dX6_lots_147 (lv_at hl 0 rfl) ?_
                    refine lv_if_ne (tgt := 164) hx hb dX6_lots_149 (by decide) (fun c_149 => ?_) (fun c_149 => ?_)
                    · skip
                      have c_149 := bi_ne0.mp c_149
                      have hmem : lotP mq mn v z0 i ∈ U := by have h9 := c_149; rw [h3e, List.take_length] at h9; exact h9
                      refine lv_iinc (v := (nI i) + 1) (lv' := [(7, .int ((nI i) + 1)), (10, .int (bi (lotP mq mn v z0 i ∈ U.take i3))), (11, .int (nI i3)), (0, .ref y), (1, .int n), (2, .int z0), (3, .int k), (4, .int (rng n 1 50)), (5, .int (nI U.length)), (6, .int ((isum (lotP mq mn v z0) i) + (lotP mq mn v z0 i))), (8, .int (fdraw (fseed (sd z0 i)) mn)), (9, .int (lotP mq mn v z0 i))]) hx hb dX6_lots_164 hl (k := 9) rfl (by rfl) (by decide) rfl (fun ls hl => ?_)
                      refine lv_goto (tgt := 66) hx hb dX6_lots_167 (by decide) ?_
                      exact ih_66 (i + 1) U g (by omega) (lot_old hU hUm hmem).1 (lot_old hU hUm hmem).2 hg (by omega) _ rfl _ rfl _ (by first | rfl | exact nI_1 _ | exact nI_0.symm) _ _ (hP.sub [0, 1, 2, 3] rfl) (hD.sub [0, 1, 2, 3] (by decide) rfl) hS ls (lv_sub hl [8, 9, 0, 3, 4, 5, 6, 7] rfl)
                    · skip
                      have c_149 := bi_eq0.mp c_149
                      have hmem : ¬ lotP mq mn v z0 i ∈ U := by have h9 := c_149; rw [h3e, List.take_length] at h9; exact h9
                      refine lv_aload_n hx hb dX6_lots_152 rfl (lv_at hl 2 rfl) ?_
                      refine va_get (D := D) (ci := 6) (v := .ref yo) (C := RX6) (T := TX6) (N := 22) hx hb hts (in_X6_lots_X6) hown hK hP 0 rfl rfl 12 (by decide) (hts (.fieldLink RX6 35 "StepsRoundCircleModel" "others" "[I") (by decide +kernel)) (fun _ h9 => h9) rfl dX6_lots_153 ?_
                      refine lv_iload hx hb dX6_lots_156 (lv_at hl 7 rfl) ?_
                      refine lv_iload hx hb dX6_lots_158 (lv_at hl 11 rfl) ?_
                      refine va_iast hx hb hK hP hD hS 3 0 rfl rfl (vp_in_nI (by omega) (by omega)) dX6_lots_160 (fun H locs hP hD hS => ?_)
                      have hP : va_P D vwCl [(y, .inr (6, [.ref yr, .int mq, .int mn, .ref yw, .ref yc, .int mc, .ref yl, .int me, .ref ys, .ref yp, .ref ym, .int md, .ref yo, .ref yk, .ref yt, .int (fseed (fseed (sd z0 i))), .ref yi, .ref yz, .ref yx, .ref yu, .int km, .int kr])), (yr, .inl (cI, 7, .inl G)), (yw, .inl (cI, 20, .inl v)), (yo, .inl (cI, 200, .inl (upd g ((nI U.length).toNatClampNeg) (lotP mq mn v z0 i))))] H := hP
                      have hD : va_D A [(y, .inr (6, [.ref yr, .int mq, .int mn, .ref yw, .ref yc, .int mc, .ref yl, .int me, .ref ys, .ref yp, .ref ym, .int md, .ref yo, .ref yk, .ref yt, .int (fseed (fseed (sd z0 i))), .ref yi, .ref yz, .ref yx, .ref yu, .int km, .int kr])), (yr, .inl (cI, 7, .inl G)), (yw, .inl (cI, 20, .inl v)), (yo, .inl (cI, 200, .inl (upd g ((nI U.length).toNatClampNeg) (lotP mq mn v z0 i))))] := hD
                      refine lv_iinc (v := (nI U.length) + 1) (lv' := [(5, .int ((nI U.length) + 1)), (10, .int (bi (lotP mq mn v z0 i ∈ U.take i3))), (11, .int (nI i3)), (0, .ref y), (1, .int n), (2, .int z0), (3, .int k), (4, .int (rng n 1 50)), (6, .int ((isum (lotP mq mn v z0) i) + (lotP mq mn v z0 i))), (7, .int (nI i)), (8, .int (fdraw (fseed (sd z0 i)) mn)), (9, .int (lotP mq mn v z0 i))]) hx hb dX6_lots_161 hl (k := 7) rfl (by rfl) (by decide) rfl (fun ls hl => ?_)
                      refine lv_iinc (v := (nI i) + 1) (lv' := [(7, .int ((nI i) + 1)), (5, .int ((nI U.length) + 1)), (10, .int (bi (lotP mq mn v z0 i ∈ U.take i3))), (11, .int (nI i3)), (0, .ref y), (1, .int n), (2, .int z0), (3, .int k), (4, .int (rng n 1 50)), (6, .int ((isum (lotP mq mn v z0) i) + (lotP mq mn v z0 i))), (8, .int (fdraw (fseed (sd z0 i)) mn)), (9, .int (lotP mq mn v z0 i))]) hx hb dX6_lots_164 hl (k := 9) rfl (by rfl) (by decide) rfl (fun ls hl => ?_)
                      refine lv_goto (tgt := 66) hx hb dX6_lots_167 (by decide) ?_
                      exact ih_66 (i + 1) (U ++ [lotP mq mn v z0 i]) (upd g ((nI U.length).toNatClampNeg) (lotP mq mn v z0 i)) (by omega) (lot_new hU hUm hmem).1 (lot_new hU hUm hmem).2 (by rw [nI_clamp (by omega)]; exact lot_app hg) (by omega) _ (by rw [List.length_append]; exact nI_1 _) _ rfl _ (by first | rfl | exact nI_1 _ | exact nI_0.symm) _ _ (hP.sub [0, 1, 2, 3] rfl) (hD.sub [0, 1, 2, 3] (by decide) rfl) hS ls (lv_sub hl [1, 9, 0, 4, 5, 6, 7, 8] rfl)
                  · skip
                    have hi3N : i3 < U.length := by rcases Nat.lt_or_ge i3 U.length with q9 | q9; exact q9; exact absurd (nI_le q9 (by omega)) c_114
                    refine lv_iload hx hb dX6_lots_117 (lv_at hl 0 rfl) ?_
                    refine lv_if_ne (tgt := 134) hx hb dX6_lots_119 (by decide) (fun c_119 => ?_) (fun c_119 => ?_)
                    · skip
                      have c_119 := bi_ne0.mp c_119
                      refine lv_iconst (v := 1) hx hb dX6_lots_134 (by decide) ?_
                      refine lv_goto (tgt := 139) hx hb dX6_lots_135 (by decide) ?_
                      refine lv_istore (lv' := [(10, .int 1), (11, .int (nI i3)), (0, .ref y), (1, .int n), (2, .int z0), (3, .int k), (4, .int (rng n 1 50)), (5, .int (nI U.length)), (6, .int ((isum (lotP mq mn v z0) i) + (lotP mq mn v z0 i))), (7, .int (nI i)), (8, .int (fdraw (fseed (sd z0 i)) mn)), (9, .int (lotP mq mn v z0 i))]) hx hb dX6_lots_139 hl (by decide) rfl (fun ls hl => ?_)
                      refine lv_iinc (v := (nI i3) + 1) (lv' := [(11, .int ((nI i3) + 1)), (10, .int 1), (0, .ref y), (1, .int n), (2, .int z0), (3, .int k), (4, .int (rng n 1 50)), (5, .int (nI U.length)), (6, .int ((isum (lotP mq mn v z0) i) + (lotP mq mn v z0 i))), (7, .int (nI i)), (8, .int (fdraw (fseed (sd z0 i)) mn)), (9, .int (lotP mq mn v z0 i))]) hx hb dX6_lots_141 hl (k := 1) rfl (by rfl) (by decide) rfl (fun ls hl => ?_)
                      refine lv_goto (tgt := 110) hx hb dX6_lots_144 (by decide) ?_
                      exact ih_110 (i3 + 1) (by omega) (by omega) _ (bi_t ((take_mem hi3N).mpr (Or.inl c_119))).symm _ (by first | rfl | exact nI_1 _ | exact nI_0.symm) ls (lv_sub hl [1, 0, 2, 3, 4, 5, 6, 7, 8, 9, 10, 11] rfl)
                    · skip
                      have c_119 := bi_eq0.mp c_119
                      refine lv_aload_n hx hb dX6_lots_122 rfl (lv_at hl 2 rfl) ?_
                      refine va_get (D := D) (ci := 6) (v := .ref yo) (C := RX6) (T := TX6) (N := 22) hx hb hts (in_X6_lots_X6) hown hK hP 0 rfl rfl 12 (by decide) (hts (.fieldLink RX6 35 "StepsRoundCircleModel" "others" "[I") (by decide +kernel)) (fun _ h9 => h9) rfl dX6_lots_123 ?_
                      refine lv_iload hx hb dX6_lots_126 (lv_at hl 1 rfl) ?_
                      refine va_iald hx hb hK hP 3 0 rfl rfl (vp_in_nI (by omega) (by omega)) dX6_lots_128 ?_
                      refine lv_topi (fun z_129 hz_129 => ?_)
                      have hz_129 : z_129 = U.getD i3 0 := hz_129.trans (by rw [nI_clamp (by omega)]; exact hg _ hi3N)
                      subst hz_129
                      refine lv_iload hx hb dX6_lots_129 (lv_at hl 11 rfl) ?_
                      refine lv_icmp_ne (tgt := 138) hx hb dX6_lots_131 (by decide) (fun c_131 => ?_) (fun c_131 => ?_)
                      · skip
                        refine lv_iconst (v := 0) hx hb dX6_lots_138 (by decide) ?_
                        refine lv_istore (lv' := [(10, .int 0), (11, .int (nI i3)), (0, .ref y), (1, .int n), (2, .int z0), (3, .int k), (4, .int (rng n 1 50)), (5, .int (nI U.length)), (6, .int ((isum (lotP mq mn v z0) i) + (lotP mq mn v z0 i))), (7, .int (nI i)), (8, .int (fdraw (fseed (sd z0 i)) mn)), (9, .int (lotP mq mn v z0 i))]) hx hb dX6_lots_139 hl (by decide) rfl (fun ls hl => ?_)
                        refine lv_iinc (v := (nI i3) + 1) (lv' := [(11, .int ((nI i3) + 1)), (10, .int 0), (0, .ref y), (1, .int n), (2, .int z0), (3, .int k), (4, .int (rng n 1 50)), (5, .int (nI U.length)), (6, .int ((isum (lotP mq mn v z0) i) + (lotP mq mn v z0 i))), (7, .int (nI i)), (8, .int (fdraw (fseed (sd z0 i)) mn)), (9, .int (lotP mq mn v z0 i))]) hx hb dX6_lots_141 hl (k := 1) rfl (by rfl) (by decide) rfl (fun ls hl => ?_)
                        refine lv_goto (tgt := 110) hx hb dX6_lots_144 (by decide) ?_
                        exact ih_110 (i3 + 1) (by omega) (by omega) _ (bi_f (fun z9 => ((take_mem hi3N).mp z9).elim c_119 c_131)).symm _ (by first | rfl | exact nI_1 _ | exact nI_0.symm) ls (lv_sub hl [1, 0, 2, 3, 4, 5, 6, 7, 8, 9, 10, 11] rfl)
                      · skip
                        refine lv_iconst (v := 1) hx hb dX6_lots_134 (by decide) ?_
                        refine lv_goto (tgt := 139) hx hb dX6_lots_135 (by decide) ?_
                        refine lv_istore (lv' := [(10, .int 1), (11, .int (nI i3)), (0, .ref y), (1, .int n), (2, .int z0), (3, .int k), (4, .int (rng n 1 50)), (5, .int (nI U.length)), (6, .int ((isum (lotP mq mn v z0) i) + (lotP mq mn v z0 i))), (7, .int (nI i)), (8, .int (fdraw (fseed (sd z0 i)) mn)), (9, .int (lotP mq mn v z0 i))]) hx hb dX6_lots_139 hl (by decide) rfl (fun ls hl => ?_)
                        refine lv_iinc (v := (nI i3) + 1) (lv' := [(11, .int ((nI i3) + 1)), (10, .int 1), (0, .ref y), (1, .int n), (2, .int z0), (3, .int k), (4, .int (rng n 1 50)), (5, .int (nI U.length)), (6, .int ((isum (lotP mq mn v z0) i) + (lotP mq mn v z0 i))), (7, .int (nI i)), (8, .int (fdraw (fseed (sd z0 i)) mn)), (9, .int (lotP mq mn v z0 i))]) hx hb dX6_lots_141 hl (k := 1) rfl (by rfl) (by decide) rfl (fun ls hl => ?_)
                        refine lv_goto (tgt := 110) hx hb dX6_lots_144 (by decide) ?_
                        exact ih_110 (i3 + 1) (by omega) (by omega) _ (bi_t ((take_mem hi3N).mpr (Or.inr c_131))).symm _ (by first | rfl | exact nI_1 _ | exact nI_0.symm) ls (lv_sub hl [1, 0, 2, 3, 4, 5, 6, 7, 8, 9, 10, 11] rfl)
              exact loop_110 (U.length + 1) 0 (by omega) (by omega) _ (bi_f (by simp)).symm _ (by first | rfl | exact nI_1 _ | exact nI_0.symm) ls (lv_sub hl [1, 0, 7, 8, 9, 10, 11, 5, 2, 6, 4, 3] rfl)
        exact loop_66 (n.toNatClampNeg + 1) 0 [] of9 (by omega) rfl (fun x => Iff.rfl) (fun j hj => absurd hj (Nat.not_lt_zero j)) (by omega) _ (by first | rfl | exact nI_1 _ | exact nI_0.symm) _ rfl _ (by first | rfl | exact nI_1 _ | exact nI_0.symm) _ _ (hP.sub [0, 1, 2, 3] rfl) (hD.sub [0, 1, 2, 3] (by decide) rfl) hS ls (lv_sub hl [2, 1, 0, 4, 5, 6, 7, 3] rfl)
      · skip
        refine lv_aload_n hx hb dX6_lots_45 rfl (lv_at hl 1 rfl) ?_
        refine lv_bipush (v := (-3)) hx hb dX6_lots_46 (by decide) ?_
        refine wrVi (As := [.int (-3)]) (rest := []) (wr := [(yw, .inl (cI, 20, .inl v)), (yo, .inl (cI, 200, .inl of9))]) (A := A) ⟨hx, hb, hml, hown, hts⟩ (c_X6_no l D cI cZ cR y yr yw yc yl ys yp ym yo yk yt yi yz yx yu mq mn mc me md mz km kr G (-3) (by decide) s.heap.size) (cwV 1 hts gX6_lots_X6_no rfl rfl rfl (by decide +kernel) ⟨Nat.le_of_ble_eq_true rfl, Nat.le_of_ble_eq_true rfl⟩) hK hN hP hD hS hA 0 6 rfl rfl rfl [0, 1] [2, 3] rfl (by decide) rfl (by decide) (by decide) rfl hl.1 rfl (Nat.le_of_ble_eq_true rfl) dX6_lots_48 ⟨Nat.zero_le _, Nat.zero_le _⟩ (fun r_48 u H locs hw hP hD hS => ?_)
        obtain ⟨G_48, rfl⟩ : ∃ z, z = u := ⟨_, rfl⟩
        try dsimp only at hw
        obtain ⟨q1_48, q2_48⟩ := hw
        have q1_48 := q1_48.symm
        subst q1_48
        have q2_48 := q2_48.symm
        subst q2_48
        have hP : va_P D vwCl [(y, .inr (6, [.ref yr, .int mq, .int mn, .ref yw, .ref yc, .int mc, .ref yl, .int me, .ref ys, .ref yp, .ref ym, .int md, .ref yo, .ref yk, .ref yt, .int mz, .ref yi, .ref yz, .ref yx, .ref yu, .int km, .int kr])), (yr, .inl (cI, 7, .inl (md_bump G (-3)))), (yw, .inl (cI, 20, .inl v)), (yo, .inl (cI, 200, .inl of9))] H := hP.sub [2, 3, 0, 1] rfl
        have hD : va_D A [(y, .inr (6, [.ref yr, .int mq, .int mn, .ref yw, .ref yc, .int mc, .ref yl, .int me, .ref ys, .ref yp, .ref ym, .int md, .ref yo, .ref yk, .ref yt, .int mz, .ref yi, .ref yz, .ref yx, .ref yu, .int km, .int kr])), (yr, .inl (cI, 7, .inl (md_bump G (-3)))), (yw, .inl (cI, 20, .inl v)), (yo, .inl (cI, 200, .inl of9))] := hD.sub [2, 3, 0, 1] (by decide) rfl
        exact wrI (w1 := (fun (u : Int32 × (Nat → Int32) × (Nat → Int32)) => [(y, .inr (6, [.ref yr, .int mq, .int mn, .ref yw, .ref yc, .int mc, .ref yl, .int me, .ref ys, .ref yp, .ref ym, .int md, .ref yo, .ref yk, .ref yt, .int u.1, .ref yi, .ref yz, .ref yx, .ref yu, .int km, .int kr])), (yr, .inl (cI, 7, .inl u.2.1)), (yw, .inl (cI, 20, .inl v)), (yo, .inl (cI, 200, .inl u.2.2))])) (mz, (md_bump G (-3)), of9) hx hb hr hlocks dX6_lots_51 hS (hP.sub [0, 1, 2, 3] rfl) (hD.sub [0, 1, 2, 3] (by decide) rfl) (by have e9 : rf_lot mn n k = -3 := (by unfold rf_lot; rw [if_neg (Int32.not_lt.mpr (rng_0 c_11).1), if_neg (Int32.not_lt.mpr (rng_0 c_11).2), if_neg (fun z => z ((md_w1 k).mp c_28)), if_pos c_42]); simp [e9])
    · skip
      have c_28 := bi_eq0.mp c_28
      refine lv_aload_n hx hb dX6_lots_31 rfl (lv_at hl 1 rfl) ?_
      refine lv_bipush (v := (-2)) hx hb dX6_lots_32 (by decide) ?_
      refine wrVi (As := [.int (-2)]) (rest := []) (wr := [(yw, .inl (cI, 20, .inl v)), (yo, .inl (cI, 200, .inl of9))]) (A := A) ⟨hx, hb, hml, hown, hts⟩ (c_X6_no l D cI cZ cR y yr yw yc yl ys yp ym yo yk yt yi yz yx yu mq mn mc me md mz km kr G (-2) (by decide) s.heap.size) (cwV 1 hts gX6_lots_X6_no rfl rfl rfl (by decide +kernel) ⟨Nat.le_of_ble_eq_true rfl, Nat.le_of_ble_eq_true rfl⟩) hK hN hP hD hS hA 0 6 rfl rfl rfl [0, 1] [2, 3] rfl (by decide) rfl (by decide) (by decide) rfl hl.1 rfl (Nat.le_of_ble_eq_true rfl) dX6_lots_34 ⟨Nat.zero_le _, Nat.zero_le _⟩ (fun r_34 u H locs hw hP hD hS => ?_)
      obtain ⟨G_34, rfl⟩ : ∃ z, z = u := ⟨_, rfl⟩
      try dsimp only at hw
      obtain ⟨q1_34, q2_34⟩ := hw
      have q1_34 := q1_34.symm
      subst q1_34
      have q2_34 := q2_34.symm
      subst q2_34
      have hP : va_P D vwCl [(y, .inr (6, [.ref yr, .int mq, .int mn, .ref yw, .ref yc, .int mc, .ref yl, .int me, .ref ys, .ref yp, .ref ym, .int md, .ref yo, .ref yk, .ref yt, .int mz, .ref yi, .ref yz, .ref yx, .ref yu, .int km, .int kr])), (yr, .inl (cI, 7, .inl (md_bump G (-2)))), (yw, .inl (cI, 20, .inl v)), (yo, .inl (cI, 200, .inl of9))] H := hP.sub [2, 3, 0, 1] rfl
      have hD : va_D A [(y, .inr (6, [.ref yr, .int mq, .int mn, .ref yw, .ref yc, .int mc, .ref yl, .int me, .ref ys, .ref yp, .ref ym, .int md, .ref yo, .ref yk, .ref yt, .int mz, .ref yi, .ref yz, .ref yx, .ref yu, .int km, .int kr])), (yr, .inl (cI, 7, .inl (md_bump G (-2)))), (yw, .inl (cI, 20, .inl v)), (yo, .inl (cI, 200, .inl of9))] := hD.sub [2, 3, 0, 1] (by decide) rfl
      exact wrI (w1 := (fun (u : Int32 × (Nat → Int32) × (Nat → Int32)) => [(y, .inr (6, [.ref yr, .int mq, .int mn, .ref yw, .ref yc, .int mc, .ref yl, .int me, .ref ys, .ref yp, .ref ym, .int md, .ref yo, .ref yk, .ref yt, .int u.1, .ref yi, .ref yz, .ref yx, .ref yu, .int km, .int kr])), (yr, .inl (cI, 7, .inl u.2.1)), (yw, .inl (cI, 20, .inl v)), (yo, .inl (cI, 200, .inl u.2.2))])) (mz, (md_bump G (-2)), of9) hx hb hr hlocks dX6_lots_37 hS (hP.sub [0, 1, 2, 3] rfl) (hD.sub [0, 1, 2, 3] (by decide) rfl) (by have e9 : rf_lot mn n k = -2 := (by unfold rf_lot; rw [if_neg (Int32.not_lt.mpr (rng_0 c_11).1), if_neg (Int32.not_lt.mpr (rng_0 c_11).2), if_pos (mt (md_w1 k).mpr c_28)]); simp [e9])
  · skip
    refine lv_aload_n hx hb dX6_lots_14 rfl (lv_at hl 1 rfl) ?_
    refine lv_iload hx hb dX6_lots_15 (lv_at hl 0 rfl) ?_
    refine wrVi (As := [.int (rng n 1 50)]) (rest := []) (wr := [(yw, .inl (cI, 20, .inl v)), (yo, .inl (cI, 200, .inl of9))]) (A := A) ⟨hx, hb, hml, hown, hts⟩ (c_X6_no l D cI cZ cR y yr yw yc yl ys yp ym yo yk yt yi yz yx yu mq mn mc me md mz km kr G (rng n 1 50) (rng_le _ _ _) s.heap.size) (cwV 1 hts gX6_lots_X6_no rfl rfl rfl (by decide +kernel) ⟨Nat.le_of_ble_eq_true rfl, Nat.le_of_ble_eq_true rfl⟩) hK hN hP hD hS hA 0 6 rfl rfl rfl [0, 1] [2, 3] rfl (by decide) rfl (by decide) (by decide) rfl hl.1 rfl (Nat.le_of_ble_eq_true rfl) dX6_lots_17 ⟨Nat.zero_le _, Nat.zero_le _⟩ (fun r_17 u H locs hw hP hD hS => ?_)
    obtain ⟨G_17, rfl⟩ : ∃ z, z = u := ⟨_, rfl⟩
    try dsimp only at hw
    obtain ⟨q1_17, q2_17⟩ := hw
    have q1_17 := q1_17.symm
    subst q1_17
    have q2_17 := q2_17.symm
    subst q2_17
    have hP : va_P D vwCl [(y, .inr (6, [.ref yr, .int mq, .int mn, .ref yw, .ref yc, .int mc, .ref yl, .int me, .ref ys, .ref yp, .ref ym, .int md, .ref yo, .ref yk, .ref yt, .int mz, .ref yi, .ref yz, .ref yx, .ref yu, .int km, .int kr])), (yr, .inl (cI, 7, .inl (md_bump G (rng n 1 50)))), (yw, .inl (cI, 20, .inl v)), (yo, .inl (cI, 200, .inl of9))] H := hP.sub [2, 3, 0, 1] rfl
    have hD : va_D A [(y, .inr (6, [.ref yr, .int mq, .int mn, .ref yw, .ref yc, .int mc, .ref yl, .int me, .ref ys, .ref yp, .ref ym, .int md, .ref yo, .ref yk, .ref yt, .int mz, .ref yi, .ref yz, .ref yx, .ref yu, .int km, .int kr])), (yr, .inl (cI, 7, .inl (md_bump G (rng n 1 50)))), (yw, .inl (cI, 20, .inl v)), (yo, .inl (cI, 200, .inl of9))] := hD.sub [2, 3, 0, 1] (by decide) rfl
    exact wrI (w1 := (fun (u : Int32 × (Nat → Int32) × (Nat → Int32)) => [(y, .inr (6, [.ref yr, .int mq, .int mn, .ref yw, .ref yc, .int mc, .ref yl, .int me, .ref ys, .ref yp, .ref ym, .int md, .ref yo, .ref yk, .ref yt, .int u.1, .ref yi, .ref yz, .ref yx, .ref yu, .int km, .int kr])), (yr, .inl (cI, 7, .inl u.2.1)), (yw, .inl (cI, 20, .inl v)), (yo, .inl (cI, 200, .inl u.2.2))])) (mz, (md_bump G (rng n 1 50)), of9) hx hb hr hlocks dX6_lots_20 hS (hP.sub [0, 1, 2, 3] rfl) (hD.sub [0, 1, 2, 3] (by decide) rfl) (by have e9 : rf_lot mn n k = rng n 1 50 := lot_r c_11; simp [e9, c_11])
