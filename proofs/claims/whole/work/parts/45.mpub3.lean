theorem in_X6_comes_X6 : ∀ w ∈ wsX60, w ∈ wsX6_comes := by decide +kernel
theorem in_X6_count_X6 : ∀ w ∈ wsX60, w ∈ wsX6_count := by decide +kernel
theorem in_X6_drop_X6 : ∀ w ∈ wsX60, w ∈ wsX6_drop := by decide +kernel
theorem in_X6_image_X6 : ∀ w ∈ wsX60, w ∈ wsX6_image := by decide +kernel
theorem in_X6_on_X6 : ∀ w ∈ wsX60, w ∈ wsX6_on := by decide +kernel
theorem in_X6_split_X6 : ∀ w ∈ wsX60, w ∈ wsX6_split := by decide +kernel
theorem in_X6_walker_X6 : ∀ w ∈ wsX60, w ∈ wsX6_walker := by decide +kernel
set_option maxHeartbeats 4000000 in
set_option maxRecDepth 100000 in
theorem c_X6_drop (l : Launch) (D : va_G) (cI cZ cR : ClassId) (y yr yw yc yl ys yp ym yo yk yt yi yz yx yu : Nat) (mq mn mc me md mz km kr : Int32) (G : Nat → Int32) (sz : Nat) : Met l yX6_drop wsX6_drop ({ frames := 1, cells := 0, slots := 0, locals := 21 }) (PcW D cI cZ cR [.ref y] [(y, .inr (6, [.ref yr, .int mq, .int mn, .ref yw, .ref yc, .int mc, .ref yl, .int me, .ref ys, .ref yp, .ref ym, .int md, .ref yo, .ref yk, .ref yt, .int mz, .ref yi, .ref yz, .ref yx, .ref yu, .int km, .int kr])), (yr, .inl (cI, 7, .inl G))] sz) (va_Qi (fun (res : Int32) (u : Int32 × Int32 × (Nat → Int32)) => res = (if rf_z mn = 0 then mn - 1 else rf_z mn) ∧ u.1 = (if rf_z mn = 0 then mn - 1 else mn) ∧ u.2.1 = (if rf_z mn = 0 then 0 else mc) ∧ u.2.2 = (if rf_z mn = 0 then G else md_bump G (rf_z mn))) (Bw D (fun (u : Int32 × Int32 × (Nat → Int32)) => [(y, .inr (6, [.ref yr, .int mq, .int u.1, .ref yw, .ref yc, .int u.2.1, .ref yl, .int me, .ref ys, .ref yp, .ref ym, .int md, .ref yo, .ref yk, .ref yt, .int mz, .ref yi, .ref yz, .ref yx, .ref yu, .int km, .int kr])), (yr, .inl (cI, 7, .inl u.2.2))]) (va_A [(y, .inr (6, [.ref yr, .int mq, .int mn, .ref yw, .ref yc, .int mc, .ref yl, .int me, .ref ys, .ref yp, .ref ym, .int md, .ref yo, .ref yk, .ref yt, .int mz, .ref yi, .ref yz, .ref yx, .ref yu, .int km, .int kr])), (yr, .inl (cI, 7, .inl G))] sz)) (va_A [(y, .inr (6, [.ref yr, .int mq, .int mn, .ref yw, .ref yc, .int mc, .ref yl, .int me, .ref ys, .ref yp, .ref ym, .int md, .ref yo, .ref yk, .ref yt, .int mz, .ref yi, .ref yz, .ref yx, .ref yu, .int km, .int kr])), (yr, .inl (cI, 7, .inl G))] sz)) 0 0 (va_A [(y, .inr (6, [.ref yr, .int mq, .int mn, .ref yw, .ref yc, .int mc, .ref yl, .int me, .ref ys, .ref yp, .ref ym, .int md, .ref yo, .ref yk, .ref yt, .int mz, .ref yi, .ref yz, .ref yx, .ref yu, .int km, .int kr])), (yr, .inl (cI, 7, .inl G))] sz) := by
  refine Met.ofW (cc := cX6_drop) (maxL := 1) (ret := (some .int)) (by decide) rfl ?_
  intro p e s m args below meth c s₁ B hml hv
  obtain ⟨rfl, hsz, hP, hK, hD0, hN⟩ := hv
  have hx := B.exec
  have hb := B.bytes
  have hr := B.returns
  have hts := atoms_spec (ws := wsX6_drop) B.pre
  have hown : s.vm.findClass RX6 = some m.cls := findClass_of_methodNamed B.named
  have hlocks := B.notSynchronized
  subst hsz
  have hD := hD0.self (sz := s.heap.size)
  generalize hAe : va_A [(y, .inr (6, [.ref yr, .int mq, .int mn, .ref yw, .ref yc, .int mc, .ref yl, .int me, .ref ys, .ref yp, .ref ym, .int md, .ref yo, .ref yk, .ref yt, .int mz, .ref yi, .ref yz, .ref yx, .ref yu, .int km, .int kr])), (yr, .inl (cI, 7, .inl G))] s.heap.size = A at hD ⊢
  have hA : ∀ q : Nat, s.heap.size ≤ q → A q := fun q h => by rw [← hAe]; exact Or.inr h
  have hS : va_S A s.heap s.heap [] := va_S.rf
  have hP : va_P D vwCl [(y, .inr (6, [.ref yr, .int mq, .int mn, .ref yw, .ref yc, .int mc, .ref yl, .int me, .ref ys, .ref yp, .ref ym, .int md, .ref yo, .ref yk, .ref yt, .int mz, .ref yi, .ref yz, .ref yx, .ref yu, .int km, .int kr])), (yr, .inl (cI, 7, .inl G))] s.heap := hP
  have hl := lv_entry ([.ref y]) (n := 1) (Nat.le_of_ble_eq_true rfl)
  rw [lg_entry_eq]
  generalize (lg_sl ([.ref y]) ++ List.replicate (1 - (lg_sl ([.ref y])).length) Slot.unset).toArray = ls at hl ⊢
  have hl : lv_has ls 1 [(0, .ref y)] := hl
  refine lv_aload_n hx hb dX6_drop_0 rfl (lv_at hl 0 rfl) ?_
  refine va_get (D := D) (ci := 6) (v := .int mn) (C := RX6) (T := TX6) (N := 22) hx hb hts (in_X6_drop_X6) hown hK hP 0 rfl rfl 2 (by decide) (hts (.fieldLink RX6 70 "StepsRoundCircleModel" "many" "I") (by decide +kernel)) (fun _ h9 => h9) rfl dX6_drop_1 ?_
  refine lv_if_ne (tgt := 14) hx hb dX6_drop_4 (by decide) (fun c_4 => ?_) (fun c_4 => ?_)
  · skip
    refine lv_aload_n hx hb dX6_drop_14 rfl (lv_at hl 0 rfl) ?_
    refine lv_dup hx hb dX6_drop_15 rfl ?_
    refine va_get (D := D) (ci := 6) (v := .int mn) (C := RX6) (T := TX6) (N := 22) hx hb hts (in_X6_drop_X6) hown hK hP 0 rfl rfl 2 (by decide) (hts (.fieldLink RX6 70 "StepsRoundCircleModel" "many" "I") (by decide +kernel)) (fun _ h9 => h9) rfl dX6_drop_16 ?_
    refine lv_iconst (v := 1) hx hb dX6_drop_19 (by decide) ?_
    refine lv_isub hx hb dX6_drop_20 ?_
    refine va_put (D := D) (ci := 6) (v := .int (mn - 1)) (ty := .int) (C := RX6) (T := TX6) (N := 22) hx hb hts (in_X6_drop_X6) tyX6 tyX6_ok nmX6 hown hK hP hD hS 0 rfl rfl 2 (by decide) (hts (.fieldLink RX6 70 "StepsRoundCircleModel" "many" "I") (by decide +kernel)) (fun _ h9 => h9) rfl (by decide +kernel) rfl rfl (Nat.le_of_ble_eq_true rfl) dX6_drop_21 (fun H locs hP hD hS => ?_)
    have hP : va_P D vwCl [(y, .inr (6, [.ref yr, .int mq, .int (mn - 1), .ref yw, .ref yc, .int mc, .ref yl, .int me, .ref ys, .ref yp, .ref ym, .int md, .ref yo, .ref yk, .ref yt, .int mz, .ref yi, .ref yz, .ref yx, .ref yu, .int km, .int kr])), (yr, .inl (cI, 7, .inl G))] H := hP
    have hD : va_D A [(y, .inr (6, [.ref yr, .int mq, .int (mn - 1), .ref yw, .ref yc, .int mc, .ref yl, .int me, .ref ys, .ref yp, .ref ym, .int md, .ref yo, .ref yk, .ref yt, .int mz, .ref yi, .ref yz, .ref yx, .ref yu, .int km, .int kr])), (yr, .inl (cI, 7, .inl G))] := hD
    refine lv_aload_n hx hb dX6_drop_24 rfl (lv_at hl 0 rfl) ?_
    refine lv_iconst (v := 0) hx hb dX6_drop_25 (by decide) ?_
    refine va_put (D := D) (ci := 6) (v := .int 0) (ty := .int) (C := RX6) (T := TX6) (N := 22) hx hb hts (in_X6_drop_X6) tyX6 tyX6_ok nmX6 hown hK hP hD hS 0 rfl rfl 5 (by decide) (hts (.fieldLink RX6 102 "StepsRoundCircleModel" "changes" "I") (by decide +kernel)) (fun _ h9 => h9) rfl (by decide +kernel) rfl rfl (Nat.le_of_ble_eq_true rfl) dX6_drop_26 (fun H locs hP hD hS => ?_)
    have hP : va_P D vwCl [(y, .inr (6, [.ref yr, .int mq, .int (mn - 1), .ref yw, .ref yc, .int 0, .ref yl, .int me, .ref ys, .ref yp, .ref ym, .int md, .ref yo, .ref yk, .ref yt, .int mz, .ref yi, .ref yz, .ref yx, .ref yu, .int km, .int kr])), (yr, .inl (cI, 7, .inl G))] H := hP
    have hD : va_D A [(y, .inr (6, [.ref yr, .int mq, .int (mn - 1), .ref yw, .ref yc, .int 0, .ref yl, .int me, .ref ys, .ref yp, .ref ym, .int md, .ref yo, .ref yk, .ref yt, .int mz, .ref yi, .ref yz, .ref yx, .ref yu, .int km, .int kr])), (yr, .inl (cI, 7, .inl G))] := hD
    refine lv_aload_n hx hb dX6_drop_29 rfl (lv_at hl 0 rfl) ?_
    refine va_get (D := D) (ci := 6) (v := .int (mn - 1)) (C := RX6) (T := TX6) (N := 22) hx hb hts (in_X6_drop_X6) hown hK hP 0 rfl rfl 2 (by decide) (hts (.fieldLink RX6 70 "StepsRoundCircleModel" "many" "I") (by decide +kernel)) (fun _ h9 => h9) rfl dX6_drop_30 ?_
    exact wrI (w1 := (fun (u : Int32 × Int32 × (Nat → Int32)) => [(y, .inr (6, [.ref yr, .int mq, .int u.1, .ref yw, .ref yc, .int u.2.1, .ref yl, .int me, .ref ys, .ref yp, .ref ym, .int md, .ref yo, .ref yk, .ref yt, .int mz, .ref yi, .ref yz, .ref yx, .ref yu, .int km, .int kr])), (yr, .inl (cI, 7, .inl u.2.2))])) ((mn - 1), 0, G) hx hb hr hlocks dX6_drop_33 hS (hP.sub [0, 1] rfl) (hD.sub [0, 1] (by decide) rfl) (by first | exact ⟨rfl, rfl⟩ | rfl | (simp [bi, rf_z, c_4]; done))
  · skip
    refine lv_aload_n hx hb dX6_drop_7 rfl (lv_at hl 0 rfl) ?_
    refine lv_bipush (v := (-3)) hx hb dX6_drop_8 (by decide) ?_
    refine wrVi (As := [.int (-3)]) (rest := []) (wr := []) (A := A) ⟨hx, hb, hml, hown, hts⟩ (c_X6_no l D cI cZ cR y yr yw yc yl ys yp ym yo yk yt yi yz yx yu mq mn mc me md mz km kr G (-3) (by decide) s.heap.size) (cwV 1 hts gX6_drop_X6_no rfl rfl rfl (by decide +kernel) ⟨Nat.le_of_ble_eq_true rfl, Nat.le_of_ble_eq_true rfl⟩) hK hN hP hD hS hA 0 6 rfl rfl rfl [0, 1] [] rfl (by decide) rfl (by decide) (by decide) rfl hl.1 rfl (Nat.le_of_ble_eq_true rfl) dX6_drop_10 ⟨Nat.zero_le _, Nat.zero_le _⟩ (fun r_10 u H locs hw hP hD hS => ?_)
    obtain ⟨G_10, rfl⟩ : ∃ z, z = u := ⟨_, rfl⟩
    try dsimp only at hw
    obtain ⟨q1_10, q2_10⟩ := hw
    have q1_10 := q1_10.symm
    subst q1_10
    have q2_10 := q2_10.symm
    subst q2_10
    have hP : va_P D vwCl [(y, .inr (6, [.ref yr, .int mq, .int mn, .ref yw, .ref yc, .int mc, .ref yl, .int me, .ref ys, .ref yp, .ref ym, .int md, .ref yo, .ref yk, .ref yt, .int mz, .ref yi, .ref yz, .ref yx, .ref yu, .int km, .int kr])), (yr, .inl (cI, 7, .inl (md_bump G (-3))))] H := hP.sub [0, 1] rfl
    have hD : va_D A [(y, .inr (6, [.ref yr, .int mq, .int mn, .ref yw, .ref yc, .int mc, .ref yl, .int me, .ref ys, .ref yp, .ref ym, .int md, .ref yo, .ref yk, .ref yt, .int mz, .ref yi, .ref yz, .ref yx, .ref yu, .int km, .int kr])), (yr, .inl (cI, 7, .inl (md_bump G (-3))))] := hD.sub [0, 1] (by decide) rfl
    exact wrI (w1 := (fun (u : Int32 × Int32 × (Nat → Int32)) => [(y, .inr (6, [.ref yr, .int mq, .int u.1, .ref yw, .ref yc, .int u.2.1, .ref yl, .int me, .ref ys, .ref yp, .ref ym, .int md, .ref yo, .ref yk, .ref yt, .int mz, .ref yi, .ref yz, .ref yx, .ref yu, .int km, .int kr])), (yr, .inl (cI, 7, .inl u.2.2))])) (mn, mc, (md_bump G (-3))) hx hb hr hlocks dX6_drop_13 hS (hP.sub [0, 1] rfl) (hD.sub [0, 1] (by decide) rfl) (by first | exact ⟨rfl, rfl⟩ | rfl | (simp [bi, rf_z, c_4]; done))

set_option maxHeartbeats 4000000 in
set_option maxRecDepth 100000 in
theorem c_X6_image (l : Launch) (D : va_G) (cI cZ cR : ClassId) (y yr yw yc yl ys yp ym yo yk yt yi yz yx yu : Nat) (mq mn mc me md mz km kr : Int32) (v : Nat → Int32) (uf : Nat → Int32) (sz : Nat) : Met l yX6_image wsX6_image ({ frames := 0, cells := 0, slots := 0, locals := 0 }) (PcW D cI cZ cR [.ref y] [(y, .inr (6, [.ref yr, .int mq, .int mn, .ref yw, .ref yc, .int mc, .ref yl, .int me, .ref ys, .ref yp, .ref ym, .int md, .ref yo, .ref yk, .ref yt, .int mz, .ref yi, .ref yz, .ref yx, .ref yu, .int km, .int kr])), (yw, .inl (cI, 20, .inl v)), (yu, .inl (cI, 20, .inl uf))] sz) (va_Qi (fun (res : Int32) (u : Int32 × Int32 × (Nat → Int32)) => res = mn ∧ u.1 = mn ∧ u.2.1 = mq ∧ u.2.2 = v) (Bw D (fun (u : Int32 × Int32 × (Nat → Int32)) => [(y, .inr (6, [.ref yr, .int mq, .int mn, .ref yw, .ref yc, .int mc, .ref yl, .int me, .ref ys, .ref yp, .ref ym, .int md, .ref yo, .ref yk, .ref yt, .int mz, .ref yi, .ref yz, .ref yx, .ref yu, .int u.1, .int u.2.1])), (yw, .inl (cI, 20, .inl v)), (yu, .inl (cI, 20, .inl u.2.2))]) (va_A [(y, .inr (6, [.ref yr, .int mq, .int mn, .ref yw, .ref yc, .int mc, .ref yl, .int me, .ref ys, .ref yp, .ref ym, .int md, .ref yo, .ref yk, .ref yt, .int mz, .ref yi, .ref yz, .ref yx, .ref yu, .int km, .int kr])), (yw, .inl (cI, 20, .inl v)), (yu, .inl (cI, 20, .inl uf))] sz)) (va_A [(y, .inr (6, [.ref yr, .int mq, .int mn, .ref yw, .ref yc, .int mc, .ref yl, .int me, .ref ys, .ref yp, .ref ym, .int md, .ref yo, .ref yk, .ref yt, .int mz, .ref yi, .ref yz, .ref yx, .ref yu, .int km, .int kr])), (yw, .inl (cI, 20, .inl v)), (yu, .inl (cI, 20, .inl uf))] sz)) 0 0 (va_A [(y, .inr (6, [.ref yr, .int mq, .int mn, .ref yw, .ref yc, .int mc, .ref yl, .int me, .ref ys, .ref yp, .ref ym, .int md, .ref yo, .ref yk, .ref yt, .int mz, .ref yi, .ref yz, .ref yx, .ref yu, .int km, .int kr])), (yw, .inl (cI, 20, .inl v)), (yu, .inl (cI, 20, .inl uf))] sz) := by
  refine Met.ofW (cc := cX6_image) (maxL := 2) (ret := (some .int)) (by decide) rfl ?_
  intro p e s m args below meth c s₁ B hml hv
  obtain ⟨rfl, hsz, hP, hK, hD0, hN⟩ := hv
  have hx := B.exec
  have hb := B.bytes
  have hr := B.returns
  have hts := atoms_spec (ws := wsX6_image) B.pre
  have hown : s.vm.findClass RX6 = some m.cls := findClass_of_methodNamed B.named
  have hlocks := B.notSynchronized
  subst hsz
  have hD := hD0.self (sz := s.heap.size)
  generalize hAe : va_A [(y, .inr (6, [.ref yr, .int mq, .int mn, .ref yw, .ref yc, .int mc, .ref yl, .int me, .ref ys, .ref yp, .ref ym, .int md, .ref yo, .ref yk, .ref yt, .int mz, .ref yi, .ref yz, .ref yx, .ref yu, .int km, .int kr])), (yw, .inl (cI, 20, .inl v)), (yu, .inl (cI, 20, .inl uf))] s.heap.size = A at hD ⊢
  have hA : ∀ q : Nat, s.heap.size ≤ q → A q := fun q h => by rw [← hAe]; exact Or.inr h
  have hS : va_S A s.heap s.heap [] := va_S.rf
  have hP : va_P D vwCl [(y, .inr (6, [.ref yr, .int mq, .int mn, .ref yw, .ref yc, .int mc, .ref yl, .int me, .ref ys, .ref yp, .ref ym, .int md, .ref yo, .ref yk, .ref yt, .int mz, .ref yi, .ref yz, .ref yx, .ref yu, .int km, .int kr])), (yw, .inl (cI, 20, .inl v)), (yu, .inl (cI, 20, .inl uf))] s.heap := hP
  have hl := lv_entry ([.ref y]) (n := 2) (Nat.le_of_ble_eq_true rfl)
  rw [lg_entry_eq]
  generalize (lg_sl ([.ref y]) ++ List.replicate (2 - (lg_sl ([.ref y])).length) Slot.unset).toArray = ls at hl ⊢
  have hl : lv_has ls 2 [(0, .ref y)] := hl
  refine lv_iconst (v := 0) hx hb dX6_image_0 (by decide) ?_
  refine lv_istore_n (lv' := [(1, .int 0), (0, .ref y)]) hx hb dX6_image_1 rfl hl (by decide) rfl (fun ls hl => ?_)
  have loop_2 : ∀ (fuel : Nat), ∀ (i : Nat), ∀ (g : Nat → Int32), (i ≤ 20) → (∀ j, j < i → g j = v j) → (21 ≤ i + fuel) → ∀ (y1 : Int32), y1 = nI i → ∀ (H : Heap) (locs : List Loc), va_P D vwCl [(y, .inr (6, [.ref yr, .int mq, .int mn, .ref yw, .ref yc, .int mc, .ref yl, .int me, .ref ys, .ref yp, .ref ym, .int md, .ref yo, .ref yk, .ref yt, .int mz, .ref yi, .ref yz, .ref yx, .ref yu, .int km, .int kr])), (yw, .inl (cI, 20, .inl v)), (yu, .inl (cI, 20, .inl g))] H → va_D A [(y, .inr (6, [.ref yr, .int mq, .int mn, .ref yw, .ref yc, .int mc, .ref yl, .int me, .ref ys, .ref yp, .ref ym, .int md, .ref yo, .ref yk, .ref yt, .int mz, .ref yi, .ref yz, .ref yx, .ref yu, .int km, .int kr])), (yw, .inl (cI, 20, .inl v)), (yu, .inl (cI, 20, .inl g))] → va_S A s.heap H locs → ∀ (ls : Array Slot), lv_has ls 2 [(1, .int y1), (0, .ref y)] → W p l e (headSpec wsX6_image ({ frames := 0, cells := 0, slots := 0, locals := 0 })).room s m ([.ref y] : List Value).toArray below meth c H locs 0 0 (MQ below (va_Qi (fun (res : Int32) (u : Int32 × Int32 × (Nat → Int32)) => res = mn ∧ u.1 = mn ∧ u.2.1 = mq ∧ u.2.2 = v) (Bw D (fun (u : Int32 × Int32 × (Nat → Int32)) => [(y, .inr (6, [.ref yr, .int mq, .int mn, .ref yw, .ref yc, .int mc, .ref yl, .int me, .ref ys, .ref yp, .ref ym, .int md, .ref yo, .ref yk, .ref yt, .int mz, .ref yi, .ref yz, .ref yx, .ref yu, .int u.1, .int u.2.1])), (yw, .inl (cI, 20, .inl v)), (yu, .inl (cI, 20, .inl u.2.2))]) A) A) ([.ref y] : List Value).toArray s 0 0 A) (F0 m 2 ls []) := by
    intro fuel
    induction fuel with
    | zero =>
      intro i g hi hg hfu
      exact False.elim (by omega)
    | succ fuel ih_2 =>
      intro i g hi hg hfu y1 ey1 H locs hP hD hS ls hl
      subst ey1
      refine lv_iload_n hx hb dX6_image_2 rfl (lv_at hl 0 rfl) ?_
      refine lv_bipush (v := 20) hx hb dX6_image_3 (by decide) ?_
      refine lv_icmp_ge (tgt := 26) hx hb dX6_image_5 (by decide) (fun c_5 => ?_) (fun c_5 => ?_)
      · skip
        have hP : va_P D vwCl [(y, .inr (6, [.ref yr, .int mq, .int mn, .ref yw, .ref yc, .int mc, .ref yl, .int me, .ref ys, .ref yp, .ref ym, .int md, .ref yo, .ref yk, .ref yt, .int mz, .ref yi, .ref yz, .ref yx, .ref yu, .int km, .int kr])), (yw, .inl (cI, 20, .inl v)), (yu, .inl (cI, 20, .inl v))] H := P_cg hP 2 v rfl (fun j hj => hg j (by rcases Nat.lt_or_ge i 20 with q | q; exact absurd c_5 (nI_ge (b := 20) q (by omega)); omega))
        have hD : va_D A [(y, .inr (6, [.ref yr, .int mq, .int mn, .ref yw, .ref yc, .int mc, .ref yl, .int me, .ref ys, .ref yp, .ref ym, .int md, .ref yo, .ref yk, .ref yt, .int mz, .ref yi, .ref yz, .ref yx, .ref yu, .int km, .int kr])), (yw, .inl (cI, 20, .inl v)), (yu, .inl (cI, 20, .inl v))] := D_cg hD 2 _ rfl
        refine lv_aload_n hx hb dX6_image_26 rfl (lv_at hl 1 rfl) ?_
        refine lv_aload_n hx hb dX6_image_27 rfl (lv_at hl 1 rfl) ?_
        refine va_get (D := D) (ci := 6) (v := .int mn) (C := RX6) (T := TX6) (N := 22) hx hb hts (in_X6_image_X6) hown hK hP 0 rfl rfl 2 (by decide) (hts (.fieldLink RX6 70 "StepsRoundCircleModel" "many" "I") (by decide +kernel)) (fun _ h9 => h9) rfl dX6_image_28 ?_
        refine va_put (D := D) (ci := 6) (v := .int mn) (ty := .int) (C := RX6) (T := TX6) (N := 22) hx hb hts (in_X6_image_X6) tyX6 tyX6_ok nmX6 hown hK hP hD hS 0 rfl rfl 20 (by decide) (hts (.fieldLink RX6 57 "StepsRoundCircleModel" "keptMany" "I") (by decide +kernel)) (fun _ h9 => h9) rfl (by decide +kernel) rfl rfl (Nat.le_of_ble_eq_true rfl) dX6_image_31 (fun H locs hP hD hS => ?_)
        have hP : va_P D vwCl [(y, .inr (6, [.ref yr, .int mq, .int mn, .ref yw, .ref yc, .int mc, .ref yl, .int me, .ref ys, .ref yp, .ref ym, .int md, .ref yo, .ref yk, .ref yt, .int mz, .ref yi, .ref yz, .ref yx, .ref yu, .int mn, .int kr])), (yw, .inl (cI, 20, .inl v)), (yu, .inl (cI, 20, .inl v))] H := hP
        have hD : va_D A [(y, .inr (6, [.ref yr, .int mq, .int mn, .ref yw, .ref yc, .int mc, .ref yl, .int me, .ref ys, .ref yp, .ref ym, .int md, .ref yo, .ref yk, .ref yt, .int mz, .ref yi, .ref yz, .ref yx, .ref yu, .int mn, .int kr])), (yw, .inl (cI, 20, .inl v)), (yu, .inl (cI, 20, .inl v))] := hD
        refine lv_aload_n hx hb dX6_image_34 rfl (lv_at hl 1 rfl) ?_
        refine lv_aload_n hx hb dX6_image_35 rfl (lv_at hl 1 rfl) ?_
        refine va_get (D := D) (ci := 6) (v := .int mq) (C := RX6) (T := TX6) (N := 22) hx hb hts (in_X6_image_X6) hown hK hP 0 rfl rfl 1 (by decide) (hts (.fieldLink RX6 13 "StepsRoundCircleModel" "round" "I") (by decide +kernel)) (fun _ h9 => h9) rfl dX6_image_36 ?_
        refine va_put (D := D) (ci := 6) (v := .int mq) (ty := .int) (C := RX6) (T := TX6) (N := 22) hx hb hts (in_X6_image_X6) tyX6 tyX6_ok nmX6 hown hK hP hD hS 0 rfl rfl 21 (by decide) (hts (.fieldLink RX6 216 "StepsRoundCircleModel" "keptRound" "I") (by decide +kernel)) (fun _ h9 => h9) rfl (by decide +kernel) rfl rfl (Nat.le_of_ble_eq_true rfl) dX6_image_39 (fun H locs hP hD hS => ?_)
        have hP : va_P D vwCl [(y, .inr (6, [.ref yr, .int mq, .int mn, .ref yw, .ref yc, .int mc, .ref yl, .int me, .ref ys, .ref yp, .ref ym, .int md, .ref yo, .ref yk, .ref yt, .int mz, .ref yi, .ref yz, .ref yx, .ref yu, .int mn, .int mq])), (yw, .inl (cI, 20, .inl v)), (yu, .inl (cI, 20, .inl v))] H := hP
        have hD : va_D A [(y, .inr (6, [.ref yr, .int mq, .int mn, .ref yw, .ref yc, .int mc, .ref yl, .int me, .ref ys, .ref yp, .ref ym, .int md, .ref yo, .ref yk, .ref yt, .int mz, .ref yi, .ref yz, .ref yx, .ref yu, .int mn, .int mq])), (yw, .inl (cI, 20, .inl v)), (yu, .inl (cI, 20, .inl v))] := hD
        refine lv_aload_n hx hb dX6_image_42 rfl (lv_at hl 1 rfl) ?_
        refine va_get (D := D) (ci := 6) (v := .int mn) (C := RX6) (T := TX6) (N := 22) hx hb hts (in_X6_image_X6) hown hK hP 0 rfl rfl 2 (by decide) (hts (.fieldLink RX6 70 "StepsRoundCircleModel" "many" "I") (by decide +kernel)) (fun _ h9 => h9) rfl dX6_image_43 ?_
        exact wrI (w1 := (fun (u : Int32 × Int32 × (Nat → Int32)) => [(y, .inr (6, [.ref yr, .int mq, .int mn, .ref yw, .ref yc, .int mc, .ref yl, .int me, .ref ys, .ref yp, .ref ym, .int md, .ref yo, .ref yk, .ref yt, .int mz, .ref yi, .ref yz, .ref yx, .ref yu, .int u.1, .int u.2.1])), (yw, .inl (cI, 20, .inl v)), (yu, .inl (cI, 20, .inl u.2.2))])) (mn, mq, v) hx hb hr hlocks dX6_image_46 hS (hP.sub [0, 1, 2] rfl) (hD.sub [0, 1, 2] (by decide) rfl) (⟨rfl, rfl, rfl, rfl⟩)
      · skip
        have hiN : i < 20 := by rcases Nat.lt_or_ge i 20 with q | q; exact q; exact absurd (nI_le q (by omega)) c_5
        refine lv_aload_n hx hb dX6_image_8 rfl (lv_at hl 1 rfl) ?_
        refine va_get (D := D) (ci := 6) (v := .ref yu) (C := RX6) (T := TX6) (N := 22) hx hb hts (in_X6_image_X6) hown hK hP 0 rfl rfl 19 (by decide) (hts (.fieldLink RX6 54 "StepsRoundCircleModel" "kept" "[I") (by decide +kernel)) (fun _ h9 => h9) rfl dX6_image_9 ?_
        refine lv_iload_n hx hb dX6_image_12 rfl (lv_at hl 0 rfl) ?_
        refine lv_aload_n hx hb dX6_image_13 rfl (lv_at hl 1 rfl) ?_
        refine va_get (D := D) (ci := 6) (v := .ref yw) (C := RX6) (T := TX6) (N := 22) hx hb hts (in_X6_image_X6) hown hK hP 0 rfl rfl 3 (by decide) (hts (.fieldLink RX6 17 "StepsRoundCircleModel" "walkers" "[I") (by decide +kernel)) (fun _ h9 => h9) rfl dX6_image_14 ?_
        refine lv_iload_n hx hb dX6_image_17 rfl (lv_at hl 0 rfl) ?_
        refine va_iald hx hb hK hP 1 0 rfl rfl (vp_in_nI hiN (by omega)) dX6_image_18 ?_
        refine va_iast hx hb hK hP hD hS 2 0 rfl rfl (vp_in_nI hiN (by omega)) dX6_image_19 (fun H locs hP hD hS => ?_)
        have hP : va_P D vwCl [(y, .inr (6, [.ref yr, .int mq, .int mn, .ref yw, .ref yc, .int mc, .ref yl, .int me, .ref ys, .ref yp, .ref ym, .int md, .ref yo, .ref yk, .ref yt, .int mz, .ref yi, .ref yz, .ref yx, .ref yu, .int km, .int kr])), (yw, .inl (cI, 20, .inl v)), (yu, .inl (cI, 20, .inl (upd g ((nI i).toNatClampNeg) (v ((nI i).toNatClampNeg)))))] H := hP
        have hD : va_D A [(y, .inr (6, [.ref yr, .int mq, .int mn, .ref yw, .ref yc, .int mc, .ref yl, .int me, .ref ys, .ref yp, .ref ym, .int md, .ref yo, .ref yk, .ref yt, .int mz, .ref yi, .ref yz, .ref yx, .ref yu, .int km, .int kr])), (yw, .inl (cI, 20, .inl v)), (yu, .inl (cI, 20, .inl (upd g ((nI i).toNatClampNeg) (v ((nI i).toNatClampNeg)))))] := hD
        refine lv_iinc (v := (nI i) + 1) (lv' := [(1, .int ((nI i) + 1)), (0, .ref y)]) hx hb dX6_image_20 hl (k := 0) rfl (by rfl) (by decide) rfl (fun ls hl => ?_)
        refine lv_goto (tgt := 2) hx hb dX6_image_23 (by decide) ?_
        exact ih_2 (i + 1) (upd g ((nI i).toNatClampNeg) (v ((nI i).toNatClampNeg))) (by omega) (by intro j hj; rw [nI_clamp (by omega)]; by_cases e9 : j = i; (· subst e9; exact pk_us); (· rw [pk_un e9]; exact hg j (by omega))) (by omega) _ (by first | rfl | exact nI_1 _ | exact nI_0.symm) _ _ (hP.sub [0, 1, 2] rfl) (hD.sub [0, 1, 2] (by decide) rfl) hS ls (lv_sub hl [0, 1] rfl)
  exact loop_2 21 0 uf (by omega) (fun j hj => absurd hj (Nat.not_lt_zero j)) (by omega) _ (by first | rfl | exact nI_1 _ | exact nI_0.symm) _ _ (hP.sub [0, 1, 2] rfl) (hD.sub [0, 1, 2] (by decide) rfl) hS ls (lv_sub hl [0, 1] rfl)

set_option maxHeartbeats 4000000 in
set_option maxRecDepth 100000 in
theorem c_X6_on (l : Launch) (D : va_G) (cI cZ cR : ClassId) (y yr yw yc yl ys yp ym yo yk yt yi yz yx yu : Nat) (mq mn mc me md mz km kr : Int32) (G : Nat → Int32) (v : Nat → Int32) (uf : Nat → Int32) (sz : Nat) : Met l yX6_on wsX6_on ({ frames := 1, cells := 0, slots := 0, locals := 21 }) (PcW D cI cZ cR [.ref y] [(y, .inr (6, [.ref yr, .int mq, .int mn, .ref yw, .ref yc, .int mc, .ref yl, .int me, .ref ys, .ref yp, .ref ym, .int md, .ref yo, .ref yk, .ref yt, .int mz, .ref yi, .ref yz, .ref yx, .ref yu, .int km, .int kr])), (yr, .inl (cI, 7, .inl G)), (yw, .inl (cI, 20, .inl v)), (yu, .inl (cI, 20, .inl uf))] sz) (va_Qi (fun (res : Int32) (u : Int32 × Int32 × Int32 × (Nat → Int32) × (Nat → Int32)) => res = (if km = -9 then -3 else km) ∧ u.1 = (if km = -9 then mq else kr) ∧ u.2.1 = (if km = -9 then mn else km) ∧ u.2.2.1 = (if km = -9 then mc else 0) ∧ u.2.2.2.1 = (if km = -9 then md_bump G (-3) else G) ∧ u.2.2.2.2 = (if km = -9 then v else uf)) (Bw D (fun (u : Int32 × Int32 × Int32 × (Nat → Int32) × (Nat → Int32)) => [(y, .inr (6, [.ref yr, .int u.1, .int u.2.1, .ref yw, .ref yc, .int u.2.2.1, .ref yl, .int me, .ref ys, .ref yp, .ref ym, .int md, .ref yo, .ref yk, .ref yt, .int mz, .ref yi, .ref yz, .ref yx, .ref yu, .int km, .int kr])), (yr, .inl (cI, 7, .inl u.2.2.2.1)), (yw, .inl (cI, 20, .inl u.2.2.2.2)), (yu, .inl (cI, 20, .inl uf))]) (va_A [(y, .inr (6, [.ref yr, .int mq, .int mn, .ref yw, .ref yc, .int mc, .ref yl, .int me, .ref ys, .ref yp, .ref ym, .int md, .ref yo, .ref yk, .ref yt, .int mz, .ref yi, .ref yz, .ref yx, .ref yu, .int km, .int kr])), (yr, .inl (cI, 7, .inl G)), (yw, .inl (cI, 20, .inl v)), (yu, .inl (cI, 20, .inl uf))] sz)) (va_A [(y, .inr (6, [.ref yr, .int mq, .int mn, .ref yw, .ref yc, .int mc, .ref yl, .int me, .ref ys, .ref yp, .ref ym, .int md, .ref yo, .ref yk, .ref yt, .int mz, .ref yi, .ref yz, .ref yx, .ref yu, .int km, .int kr])), (yr, .inl (cI, 7, .inl G)), (yw, .inl (cI, 20, .inl v)), (yu, .inl (cI, 20, .inl uf))] sz)) 0 0 (va_A [(y, .inr (6, [.ref yr, .int mq, .int mn, .ref yw, .ref yc, .int mc, .ref yl, .int me, .ref ys, .ref yp, .ref ym, .int md, .ref yo, .ref yk, .ref yt, .int mz, .ref yi, .ref yz, .ref yx, .ref yu, .int km, .int kr])), (yr, .inl (cI, 7, .inl G)), (yw, .inl (cI, 20, .inl v)), (yu, .inl (cI, 20, .inl uf))] sz) := by
  refine Met.ofW (cc := cX6_on) (maxL := 2) (ret := (some .int)) (by decide) rfl ?_
  intro p e s m args below meth c s₁ B hml hv
  obtain ⟨rfl, hsz, hP, hK, hD0, hN⟩ := hv
  have hx := B.exec
  have hb := B.bytes
  have hr := B.returns
  have hts := atoms_spec (ws := wsX6_on) B.pre
  have hown : s.vm.findClass RX6 = some m.cls := findClass_of_methodNamed B.named
  have hlocks := B.notSynchronized
  subst hsz
  have hD := hD0.self (sz := s.heap.size)
  generalize hAe : va_A [(y, .inr (6, [.ref yr, .int mq, .int mn, .ref yw, .ref yc, .int mc, .ref yl, .int me, .ref ys, .ref yp, .ref ym, .int md, .ref yo, .ref yk, .ref yt, .int mz, .ref yi, .ref yz, .ref yx, .ref yu, .int km, .int kr])), (yr, .inl (cI, 7, .inl G)), (yw, .inl (cI, 20, .inl v)), (yu, .inl (cI, 20, .inl uf))] s.heap.size = A at hD ⊢
  have hA : ∀ q : Nat, s.heap.size ≤ q → A q := fun q h => by rw [← hAe]; exact Or.inr h
  have hS : va_S A s.heap s.heap [] := va_S.rf
  have hP : va_P D vwCl [(y, .inr (6, [.ref yr, .int mq, .int mn, .ref yw, .ref yc, .int mc, .ref yl, .int me, .ref ys, .ref yp, .ref ym, .int md, .ref yo, .ref yk, .ref yt, .int mz, .ref yi, .ref yz, .ref yx, .ref yu, .int km, .int kr])), (yr, .inl (cI, 7, .inl G)), (yw, .inl (cI, 20, .inl v)), (yu, .inl (cI, 20, .inl uf))] s.heap := hP
  have hl := lv_entry ([.ref y]) (n := 2) (Nat.le_of_ble_eq_true rfl)
  rw [lg_entry_eq]
  generalize (lg_sl ([.ref y]) ++ List.replicate (2 - (lg_sl ([.ref y])).length) Slot.unset).toArray = ls at hl ⊢
  have hl : lv_has ls 2 [(0, .ref y)] := hl
  refine lv_aload_n hx hb dX6_on_0 rfl (lv_at hl 0 rfl) ?_
  refine va_get (D := D) (ci := 6) (v := .int km) (C := RX6) (T := TX6) (N := 22) hx hb hts (in_X6_on_X6) hown hK hP 0 rfl rfl 20 (by decide) (hts (.fieldLink RX6 57 "StepsRoundCircleModel" "keptMany" "I") (by decide +kernel)) (fun _ h9 => h9) rfl dX6_on_1 ?_
  refine lv_bipush (v := (-9)) hx hb dX6_on_4 (by decide) ?_
  refine lv_icmp_ne (tgt := 16) hx hb dX6_on_6 (by decide) (fun c_6 => ?_) (fun c_6 => ?_)
  · skip
    refine lv_iconst (v := 0) hx hb dX6_on_16 (by decide) ?_
    refine lv_istore_n (lv' := [(1, .int 0), (0, .ref y)]) hx hb dX6_on_17 rfl hl (by decide) rfl (fun ls hl => ?_)
    have loop_18 : ∀ (fuel : Nat), ∀ (i : Nat), ∀ (g : Nat → Int32), (i ≤ 20) → (∀ j, j < i → g j = uf j) → (21 ≤ i + fuel) → ∀ (y1 : Int32), y1 = nI i → ∀ (H : Heap) (locs : List Loc), va_P D vwCl [(y, .inr (6, [.ref yr, .int mq, .int mn, .ref yw, .ref yc, .int mc, .ref yl, .int me, .ref ys, .ref yp, .ref ym, .int md, .ref yo, .ref yk, .ref yt, .int mz, .ref yi, .ref yz, .ref yx, .ref yu, .int km, .int kr])), (yr, .inl (cI, 7, .inl G)), (yw, .inl (cI, 20, .inl g)), (yu, .inl (cI, 20, .inl uf))] H → va_D A [(y, .inr (6, [.ref yr, .int mq, .int mn, .ref yw, .ref yc, .int mc, .ref yl, .int me, .ref ys, .ref yp, .ref ym, .int md, .ref yo, .ref yk, .ref yt, .int mz, .ref yi, .ref yz, .ref yx, .ref yu, .int km, .int kr])), (yr, .inl (cI, 7, .inl G)), (yw, .inl (cI, 20, .inl g)), (yu, .inl (cI, 20, .inl uf))] → va_S A s.heap H locs → ∀ (ls : Array Slot), lv_has ls 2 [(1, .int y1), (0, .ref y)] → W p l e (headSpec wsX6_on ({ frames := 1, cells := 0, slots := 0, locals := 21 })).room s m ([.ref y] : List Value).toArray below meth c H locs 0 0 (MQ below (va_Qi (fun (res : Int32) (u : Int32 × Int32 × Int32 × (Nat → Int32) × (Nat → Int32)) => res = (if km = -9 then -3 else km) ∧ u.1 = (if km = -9 then mq else kr) ∧ u.2.1 = (if km = -9 then mn else km) ∧ u.2.2.1 = (if km = -9 then mc else 0) ∧ u.2.2.2.1 = (if km = -9 then md_bump G (-3) else G) ∧ u.2.2.2.2 = (if km = -9 then v else uf)) (Bw D (fun (u : Int32 × Int32 × Int32 × (Nat → Int32) × (Nat → Int32)) => [(y, .inr (6, [.ref yr, .int u.1, .int u.2.1, .ref yw, .ref yc, .int u.2.2.1, .ref yl, .int me, .ref ys, .ref yp, .ref ym, .int md, .ref yo, .ref yk, .ref yt, .int mz, .ref yi, .ref yz, .ref yx, .ref yu, .int km, .int kr])), (yr, .inl (cI, 7, .inl u.2.2.2.1)), (yw, .inl (cI, 20, .inl u.2.2.2.2)), (yu, .inl (cI, 20, .inl uf))]) A) A) ([.ref y] : List Value).toArray s 0 0 A) (F0 m 18 ls []) := by
      intro fuel
      induction fuel with
      | zero =>
        intro i g hi hg hfu
        exact False.elim (by omega)
      | succ fuel ih_18 =>
        intro i g hi hg hfu y1 ey1 H locs hP hD hS ls hl
        subst ey1
        refine lv_iload_n hx hb dX6_on_18 rfl (lv_at hl 0 rfl) ?_
        refine lv_bipush (v := 20) hx hb dX6_on_19 (by decide) ?_
        refine lv_icmp_ge (tgt := 42) hx hb dX6_on_21 (by decide) (fun c_21 => ?_) (fun c_21 => ?_)
        · skip
          have hP : va_P D vwCl [(y, .inr (6, [.ref yr, .int mq, .int mn, .ref yw, .ref yc, .int mc, .ref yl, .int me, .ref ys, .ref yp, .ref ym, .int md, .ref yo, .ref yk, .ref yt, .int mz, .ref yi, .ref yz, .ref yx, .ref yu, .int km, .int kr])), (yr, .inl (cI, 7, .inl G)), (yw, .inl (cI, 20, .inl uf)), (yu, .inl (cI, 20, .inl uf))] H := P_cg hP 2 uf rfl (fun j hj => hg j (by rcases Nat.lt_or_ge i 20 with q | q; exact absurd c_21 (nI_ge (b := 20) q (by omega)); omega))
          have hD : va_D A [(y, .inr (6, [.ref yr, .int mq, .int mn, .ref yw, .ref yc, .int mc, .ref yl, .int me, .ref ys, .ref yp, .ref ym, .int md, .ref yo, .ref yk, .ref yt, .int mz, .ref yi, .ref yz, .ref yx, .ref yu, .int km, .int kr])), (yr, .inl (cI, 7, .inl G)), (yw, .inl (cI, 20, .inl uf)), (yu, .inl (cI, 20, .inl uf))] := D_cg hD 2 _ rfl
          refine lv_aload_n hx hb dX6_on_42 rfl (lv_at hl 1 rfl) ?_
          refine lv_aload_n hx hb dX6_on_43 rfl (lv_at hl 1 rfl) ?_
          refine va_get (D := D) (ci := 6) (v := .int km) (C := RX6) (T := TX6) (N := 22) hx hb hts (in_X6_on_X6) hown hK hP 0 rfl rfl 20 (by decide) (hts (.fieldLink RX6 57 "StepsRoundCircleModel" "keptMany" "I") (by decide +kernel)) (fun _ h9 => h9) rfl dX6_on_44 ?_
          refine va_put (D := D) (ci := 6) (v := .int km) (ty := .int) (C := RX6) (T := TX6) (N := 22) hx hb hts (in_X6_on_X6) tyX6 tyX6_ok nmX6 hown hK hP hD hS 0 rfl rfl 2 (by decide) (hts (.fieldLink RX6 70 "StepsRoundCircleModel" "many" "I") (by decide +kernel)) (fun _ h9 => h9) rfl (by decide +kernel) rfl rfl (Nat.le_of_ble_eq_true rfl) dX6_on_47 (fun H locs hP hD hS => ?_)
          have hP : va_P D vwCl [(y, .inr (6, [.ref yr, .int mq, .int km, .ref yw, .ref yc, .int mc, .ref yl, .int me, .ref ys, .ref yp, .ref ym, .int md, .ref yo, .ref yk, .ref yt, .int mz, .ref yi, .ref yz, .ref yx, .ref yu, .int km, .int kr])), (yr, .inl (cI, 7, .inl G)), (yw, .inl (cI, 20, .inl uf)), (yu, .inl (cI, 20, .inl uf))] H := hP
          have hD : va_D A [(y, .inr (6, [.ref yr, .int mq, .int km, .ref yw, .ref yc, .int mc, .ref yl, .int me, .ref ys, .ref yp, .ref ym, .int md, .ref yo, .ref yk, .ref yt, .int mz, .ref yi, .ref yz, .ref yx, .ref yu, .int km, .int kr])), (yr, .inl (cI, 7, .inl G)), (yw, .inl (cI, 20, .inl uf)), (yu, .inl (cI, 20, .inl uf))] := hD
          refine lv_aload_n hx hb dX6_on_50 rfl (lv_at hl 1 rfl) ?_
          refine lv_aload_n hx hb dX6_on_51 rfl (lv_at hl 1 rfl) ?_
          refine va_get (D := D) (ci := 6) (v := .int kr) (C := RX6) (T := TX6) (N := 22) hx hb hts (in_X6_on_X6) hown hK hP 0 rfl rfl 21 (by decide) (hts (.fieldLink RX6 216 "StepsRoundCircleModel" "keptRound" "I") (by decide +kernel)) (fun _ h9 => h9) rfl dX6_on_52 ?_
          refine va_put (D := D) (ci := 6) (v := .int kr) (ty := .int) (C := RX6) (T := TX6) (N := 22) hx hb hts (in_X6_on_X6) tyX6 tyX6_ok nmX6 hown hK hP hD hS 0 rfl rfl 1 (by decide) (hts (.fieldLink RX6 13 "StepsRoundCircleModel" "round" "I") (by decide +kernel)) (fun _ h9 => h9) rfl (by decide +kernel) rfl rfl (Nat.le_of_ble_eq_true rfl) dX6_on_55 (fun H locs hP hD hS => ?_)
          have hP : va_P D vwCl [(y, .inr (6, [.ref yr, .int kr, .int km, .ref yw, .ref yc, .int mc, .ref yl, .int me, .ref ys, .ref yp, .ref ym, .int md, .ref yo, .ref yk, .ref yt, .int mz, .ref yi, .ref yz, .ref yx, .ref yu, .int km, .int kr])), (yr, .inl (cI, 7, .inl G)), (yw, .inl (cI, 20, .inl uf)), (yu, .inl (cI, 20, .inl uf))] H := hP
          have hD : va_D A [(y, .inr (6, [.ref yr, .int kr, .int km, .ref yw, .ref yc, .int mc, .ref yl, .int me, .ref ys, .ref yp, .ref ym, .int md, .ref yo, .ref yk, .ref yt, .int mz, .ref yi, .ref yz, .ref yx, .ref yu, .int km, .int kr])), (yr, .inl (cI, 7, .inl G)), (yw, .inl (cI, 20, .inl uf)), (yu, .inl (cI, 20, .inl uf))] := hD
          refine lv_aload_n hx hb dX6_on_58 rfl (lv_at hl 1 rfl) ?_
          refine lv_iconst (v := 0) hx hb dX6_on_59 (by decide) ?_
          refine va_put (D := D) (ci := 6) (v := .int 0) (ty := .int) (C := RX6) (T := TX6) (N := 22) hx hb hts (in_X6_on_X6) tyX6 tyX6_ok nmX6 hown hK hP hD hS 0 rfl rfl 5 (by decide) (hts (.fieldLink RX6 102 "StepsRoundCircleModel" "changes" "I") (by decide +kernel)) (fun _ h9 => h9) rfl (by decide +kernel) rfl rfl (Nat.le_of_ble_eq_true rfl) dX6_on_60 (fun H locs hP hD hS => ?_)
          have hP : va_P D vwCl [(y, .inr (6, [.ref yr, .int kr, .int km, .ref yw, .ref yc, .int 0, .ref yl, .int me, .ref ys, .ref yp, .ref ym, .int md, .ref yo, .ref yk, .ref yt, .int mz, .ref yi, .ref yz, .ref yx, .ref yu, .int km, .int kr])), (yr, .inl (cI, 7, .inl G)), (yw, .inl (cI, 20, .inl uf)), (yu, .inl (cI, 20, .inl uf))] H := hP
          have hD : va_D A [(y, .inr (6, [.ref yr, .int kr, .int km, .ref yw, .ref yc, .int 0, .ref yl, .int me, .ref ys, .ref yp, .ref ym, .int md, .ref yo, .ref yk, .ref yt, .int mz, .ref yi, .ref yz, .ref yx, .ref yu, .int km, .int kr])), (yr, .inl (cI, 7, .inl G)), (yw, .inl (cI, 20, .inl uf)), (yu, .inl (cI, 20, .inl uf))] := hD
          refine lv_aload_n hx hb dX6_on_63 rfl (lv_at hl 1 rfl) ?_
          refine va_get (D := D) (ci := 6) (v := .int km) (C := RX6) (T := TX6) (N := 22) hx hb hts (in_X6_on_X6) hown hK hP 0 rfl rfl 2 (by decide) (hts (.fieldLink RX6 70 "StepsRoundCircleModel" "many" "I") (by decide +kernel)) (fun _ h9 => h9) rfl dX6_on_64 ?_
          exact wrI (w1 := (fun (u : Int32 × Int32 × Int32 × (Nat → Int32) × (Nat → Int32)) => [(y, .inr (6, [.ref yr, .int u.1, .int u.2.1, .ref yw, .ref yc, .int u.2.2.1, .ref yl, .int me, .ref ys, .ref yp, .ref ym, .int md, .ref yo, .ref yk, .ref yt, .int mz, .ref yi, .ref yz, .ref yx, .ref yu, .int km, .int kr])), (yr, .inl (cI, 7, .inl u.2.2.2.1)), (yw, .inl (cI, 20, .inl u.2.2.2.2)), (yu, .inl (cI, 20, .inl uf))])) (kr, km, 0, G, uf) hx hb hr hlocks dX6_on_67 hS (hP.sub [0, 1, 2, 3] rfl) (hD.sub [0, 1, 2, 3] (by decide) rfl) (by first | exact ⟨rfl, rfl⟩ | rfl | (simp [bi, c_6, c_21, Int32.not_lt.mpr c_21]; done))
        · skip
          have hiN : i < 20 := by rcases Nat.lt_or_ge i 20 with q | q; exact q; exact absurd (nI_le q (by omega)) c_21
          refine lv_aload_n hx hb dX6_on_24 rfl (lv_at hl 1 rfl) ?_
          refine va_get (D := D) (ci := 6) (v := .ref yw) (C := RX6) (T := TX6) (N := 22) hx hb hts (in_X6_on_X6) hown hK hP 0 rfl rfl 3 (by decide) (hts (.fieldLink RX6 17 "StepsRoundCircleModel" "walkers" "[I") (by decide +kernel)) (fun _ h9 => h9) rfl dX6_on_25 ?_
          refine lv_iload_n hx hb dX6_on_28 rfl (lv_at hl 0 rfl) ?_
          refine lv_aload_n hx hb dX6_on_29 rfl (lv_at hl 1 rfl) ?_
          refine va_get (D := D) (ci := 6) (v := .ref yu) (C := RX6) (T := TX6) (N := 22) hx hb hts (in_X6_on_X6) hown hK hP 0 rfl rfl 19 (by decide) (hts (.fieldLink RX6 54 "StepsRoundCircleModel" "kept" "[I") (by decide +kernel)) (fun _ h9 => h9) rfl dX6_on_30 ?_
          refine lv_iload_n hx hb dX6_on_33 rfl (lv_at hl 0 rfl) ?_
          refine va_iald hx hb hK hP 3 0 rfl rfl (vp_in_nI hiN (by omega)) dX6_on_34 ?_
          refine va_iast hx hb hK hP hD hS 2 0 rfl rfl (vp_in_nI hiN (by omega)) dX6_on_35 (fun H locs hP hD hS => ?_)
          have hP : va_P D vwCl [(y, .inr (6, [.ref yr, .int mq, .int mn, .ref yw, .ref yc, .int mc, .ref yl, .int me, .ref ys, .ref yp, .ref ym, .int md, .ref yo, .ref yk, .ref yt, .int mz, .ref yi, .ref yz, .ref yx, .ref yu, .int km, .int kr])), (yr, .inl (cI, 7, .inl G)), (yw, .inl (cI, 20, .inl (upd g ((nI i).toNatClampNeg) (uf ((nI i).toNatClampNeg))))), (yu, .inl (cI, 20, .inl uf))] H := hP
          have hD : va_D A [(y, .inr (6, [.ref yr, .int mq, .int mn, .ref yw, .ref yc, .int mc, .ref yl, .int me, .ref ys, .ref yp, .ref ym, .int md, .ref yo, .ref yk, .ref yt, .int mz, .ref yi, .ref yz, .ref yx, .ref yu, .int km, .int kr])), (yr, .inl (cI, 7, .inl G)), (yw, .inl (cI, 20, .inl (upd g ((nI i).toNatClampNeg) (uf ((nI i).toNatClampNeg))))), (yu, .inl (cI, 20, .inl uf))] := hD
          refine lv_iinc (v := (nI i) + 1) (lv' := [(1, .int ((nI i) + 1)), (0, .ref y)]) hx hb dX6_on_36 hl (k := 0) rfl (by rfl) (by decide) rfl (fun ls hl => ?_)
          refine lv_goto (tgt := 18) hx hb dX6_on_39 (by decide) ?_
          exact ih_18 (i + 1) (upd g ((nI i).toNatClampNeg) (uf ((nI i).toNatClampNeg))) (by omega) (by intro j hj; rw [nI_clamp (by omega)]; by_cases e9 : j = i; (· subst e9; exact pk_us); (· rw [pk_un e9]; exact hg j (by omega))) (by omega) _ (by first | rfl | exact nI_1 _ | exact nI_0.symm) _ _ (hP.sub [0, 1, 2, 3] rfl) (hD.sub [0, 1, 2, 3] (by decide) rfl) hS ls (lv_sub hl [0, 1] rfl)
    exact loop_18 21 0 v (by omega) (fun j hj => absurd hj (Nat.not_lt_zero j)) (by omega) _ (by first | rfl | exact nI_1 _ | exact nI_0.symm) _ _ (hP.sub [0, 1, 2, 3] rfl) (hD.sub [0, 1, 2, 3] (by decide) rfl) hS ls (lv_sub hl [0, 1] rfl)
  · skip
    refine lv_aload_n hx hb dX6_on_9 rfl (lv_at hl 0 rfl) ?_
    refine lv_bipush (v := (-3)) hx hb dX6_on_10 (by decide) ?_
    refine wrVi (As := [.int (-3)]) (rest := []) (wr := [(yw, .inl (cI, 20, .inl v)), (yu, .inl (cI, 20, .inl uf))]) (A := A) ⟨hx, hb, hml, hown, hts⟩ (c_X6_no l D cI cZ cR y yr yw yc yl ys yp ym yo yk yt yi yz yx yu mq mn mc me md mz km kr G (-3) (by decide) s.heap.size) (cwV 1 hts gX6_on_X6_no rfl rfl rfl (by decide +kernel) ⟨Nat.le_of_ble_eq_true rfl, Nat.le_of_ble_eq_true rfl⟩) hK hN hP hD hS hA 0 6 rfl rfl rfl [0, 1] [2, 3] rfl (by decide) rfl (by decide) (by decide) rfl hl.1 rfl (Nat.le_of_ble_eq_true rfl) dX6_on_12 ⟨Nat.zero_le _, Nat.zero_le _⟩ (fun r_12 u H locs hw hP hD hS => ?_)
    obtain ⟨G_12, rfl⟩ : ∃ z, z = u := ⟨_, rfl⟩
    try dsimp only at hw
    obtain ⟨q1_12, q2_12⟩ := hw
    have q1_12 := q1_12.symm
    subst q1_12
    have q2_12 := q2_12.symm
    subst q2_12
    have hP : va_P D vwCl [(y, .inr (6, [.ref yr, .int mq, .int mn, .ref yw, .ref yc, .int mc, .ref yl, .int me, .ref ys, .ref yp, .ref ym, .int md, .ref yo, .ref yk, .ref yt, .int mz, .ref yi, .ref yz, .ref yx, .ref yu, .int km, .int kr])), (yr, .inl (cI, 7, .inl (md_bump G (-3)))), (yw, .inl (cI, 20, .inl v)), (yu, .inl (cI, 20, .inl uf))] H := hP.sub [2, 3, 0, 1] rfl
    have hD : va_D A [(y, .inr (6, [.ref yr, .int mq, .int mn, .ref yw, .ref yc, .int mc, .ref yl, .int me, .ref ys, .ref yp, .ref ym, .int md, .ref yo, .ref yk, .ref yt, .int mz, .ref yi, .ref yz, .ref yx, .ref yu, .int km, .int kr])), (yr, .inl (cI, 7, .inl (md_bump G (-3)))), (yw, .inl (cI, 20, .inl v)), (yu, .inl (cI, 20, .inl uf))] := hD.sub [2, 3, 0, 1] (by decide) rfl
    exact wrI (w1 := (fun (u : Int32 × Int32 × Int32 × (Nat → Int32) × (Nat → Int32)) => [(y, .inr (6, [.ref yr, .int u.1, .int u.2.1, .ref yw, .ref yc, .int u.2.2.1, .ref yl, .int me, .ref ys, .ref yp, .ref ym, .int md, .ref yo, .ref yk, .ref yt, .int mz, .ref yi, .ref yz, .ref yx, .ref yu, .int km, .int kr])), (yr, .inl (cI, 7, .inl u.2.2.2.1)), (yw, .inl (cI, 20, .inl u.2.2.2.2)), (yu, .inl (cI, 20, .inl uf))])) (mq, mn, mc, (md_bump G (-3)), v) hx hb hr hlocks dX6_on_15 hS (hP.sub [0, 1, 2, 3] rfl) (hD.sub [0, 1, 2, 3] (by decide) rfl) (by first | exact ⟨rfl, rfl⟩ | rfl | (simp [bi, c_6]; done))

set_option maxHeartbeats 4000000 in
set_option maxRecDepth 100000 in
theorem c_X6_count (l : Launch) (D : va_G) (cI cZ cR : ClassId) (y yr yw yc yl ys yp ym yo yk yt yi yz yx yu : Nat) (mq mn mc me md mz km kr : Int32) (G : Nat → Int32) (n : Int32) : Met l yX6_count wsX6_count ({ frames := 0, cells := 0, slots := 0, locals := 0 }) (PcR D cI cZ cR [.ref y, .int n] [(y, .inr (6, [.ref yr, .int mq, .int mn, .ref yw, .ref yc, .int mc, .ref yl, .int me, .ref ys, .ref yp, .ref ym, .int md, .ref yo, .ref yk, .ref yt, .int mz, .ref yi, .ref yz, .ref yx, .ref yu, .int km, .int kr])), (yr, .inl (cI, 7, .inl G))]) (k2_QcV (.int (cntM mq mn me mc G n))) 0 0 (fun _ => False) := by
  refine Met.ofW (cc := cX6_count) (maxL := 2) (ret := (some .int)) (by decide) rfl ?_
  intro p e s m args below meth c s₁ B hml hv
  obtain ⟨rfl, hP, hK, hN⟩ := hv
  have hx := B.exec
  have hb := B.bytes
  have hr := B.returns
  have hts := atoms_spec (ws := wsX6_count) B.pre
  have hown : s.vm.findClass RX6 = some m.cls := findClass_of_methodNamed B.named
  have hlocks := B.notSynchronized
  have hP : va_P D vwCl [(y, .inr (6, [.ref yr, .int mq, .int mn, .ref yw, .ref yc, .int mc, .ref yl, .int me, .ref ys, .ref yp, .ref ym, .int md, .ref yo, .ref yk, .ref yt, .int mz, .ref yi, .ref yz, .ref yx, .ref yu, .int km, .int kr])), (yr, .inl (cI, 7, .inl G))] s.heap := hP
  have hl := lv_entry ([.ref y, .int n]) (n := 2) (Nat.le_of_ble_eq_true rfl)
  rw [lg_entry_eq]
  generalize (lg_sl ([.ref y, .int n]) ++ List.replicate (2 - (lg_sl ([.ref y, .int n])).length) Slot.unset).toArray = ls at hl ⊢
  have hl : lv_has ls 2 [(0, .ref y), (1, .int n)] := hl
  refine lv_iload_n hx hb dX6_count_0 rfl (lv_at hl 1 rfl) ?_
  by_cases c_1_0 : n = 0
  · skip
    refine lv_tableIn (off := 83) (tgt := 84) hx hb dX6_count_1 (by rw [c_1_0]; decide) (by rw [c_1_0]; decide) (by rw [c_1_0]; rfl) (by decide) ?_
    refine lv_aload_n hx hb dX6_count_84 rfl (lv_at hl 0 rfl) ?_
    refine va_get (D := D) (ci := 6) (v := .int mn) (C := RX6) (T := TX6) (N := 22) hx hb hts (in_X6_count_X6) hown hK hP 0 rfl rfl 2 (by decide) (hts (.fieldLink RX6 70 "StepsRoundCircleModel" "many" "I") (by decide +kernel)) (fun _ h9 => h9) rfl dX6_count_85 ?_
    exact rdI hx hb hr hlocks dX6_count_88 (by first | rfl | (simp [bi, cntM, cntA, c_1_0]; done))
  by_cases c_1_1 : n = 1
  · skip
    refine lv_tableIn (off := 88) (tgt := 89) hx hb dX6_count_1 (by rw [c_1_1]; decide) (by rw [c_1_1]; decide) (by rw [c_1_1]; rfl) (by decide) ?_
    refine lv_aload_n hx hb dX6_count_89 rfl (lv_at hl 0 rfl) ?_
    refine va_get (D := D) (ci := 6) (v := .int mq) (C := RX6) (T := TX6) (N := 22) hx hb hts (in_X6_count_X6) hown hK hP 0 rfl rfl 1 (by decide) (hts (.fieldLink RX6 13 "StepsRoundCircleModel" "round" "I") (by decide +kernel)) (fun _ h9 => h9) rfl dX6_count_90 ?_
    exact rdI hx hb hr hlocks dX6_count_93 (by first | rfl | (simp [bi, cntM, cntA, c_1_0, c_1_1]; done))
  by_cases c_1_2 : n = 2
  · skip
    refine lv_tableIn (off := 93) (tgt := 94) hx hb dX6_count_1 (by rw [c_1_2]; decide) (by rw [c_1_2]; decide) (by rw [c_1_2]; rfl) (by decide) ?_
    refine lv_aload_n hx hb dX6_count_94 rfl (lv_at hl 0 rfl) ?_
    refine va_get (D := D) (ci := 6) (v := .int me) (C := RX6) (T := TX6) (N := 22) hx hb hts (in_X6_count_X6) hown hK hP 0 rfl rfl 7 (by decide) (hts (.fieldLink RX6 122 "StepsRoundCircleModel" "lettered" "I") (by decide +kernel)) (fun _ h9 => h9) rfl dX6_count_95 ?_
    exact rdI hx hb hr hlocks dX6_count_98 (by first | rfl | (simp [bi, cntM, cntA, c_1_0, c_1_1, c_1_2]; done))
  by_cases c_1_3 : n = 3
  · skip
    refine lv_tableIn (off := 98) (tgt := 99) hx hb dX6_count_1 (by rw [c_1_3]; decide) (by rw [c_1_3]; decide) (by rw [c_1_3]; rfl) (by decide) ?_
    refine lv_aload_n hx hb dX6_count_99 rfl (lv_at hl 0 rfl) ?_
    refine va_get (D := D) (ci := 6) (v := .int mc) (C := RX6) (T := TX6) (N := 22) hx hb hts (in_X6_count_X6) hown hK hP 0 rfl rfl 5 (by decide) (hts (.fieldLink RX6 102 "StepsRoundCircleModel" "changes" "I") (by decide +kernel)) (fun _ h9 => h9) rfl dX6_count_100 ?_
    exact rdI hx hb hr hlocks dX6_count_103 (by first | rfl | (simp [bi, cntM, cntA, c_1_0, c_1_1, c_1_2, c_1_3]; done))
  by_cases c_1_11 : n = 11
  · skip
    refine lv_tableIn (off := 103) (tgt := 104) hx hb dX6_count_1 (by rw [c_1_11]; decide) (by rw [c_1_11]; decide) (by rw [c_1_11]; rfl) (by decide) ?_
    refine lv_aload_n hx hb dX6_count_104 rfl (lv_at hl 0 rfl) ?_
    refine va_get (D := D) (ci := 6) (v := .ref yr) (C := RX6) (T := TX6) (N := 22) hx hb hts (in_X6_count_X6) hown hK hP 0 rfl rfl 0 (by decide) (hts (.fieldLink RX6 7 "StepsRoundCircleModel" "refusals" "[I") (by decide +kernel)) (fun _ h9 => h9) rfl dX6_count_105 ?_
    refine lv_iload_n hx hb dX6_count_108 rfl (lv_at hl 1 rfl) ?_
    refine lv_bipush (v := 10) hx hb dX6_count_109 (by decide) ?_
    refine lv_isub hx hb dX6_count_111 ?_
    refine va_iald hx hb hK hP 1 0 rfl rfl (cnt_in 0 0 (Or.inl c_1_11)).1 dX6_count_112 ?_
    exact rdI hx hb hr hlocks dX6_count_113 (by obtain ⟨_, e1, e2, n0, n1, n2, n3⟩ := cnt_in 0 0 (Or.inl c_1_11); unfold cntM cntA; rw [if_neg n0, if_neg n1, if_neg n2, if_neg n3, if_pos e2, e1])
  by_cases c_1_12 : n = 12
  · skip
    refine lv_tableIn (off := 103) (tgt := 104) hx hb dX6_count_1 (by rw [c_1_12]; decide) (by rw [c_1_12]; decide) (by rw [c_1_12]; rfl) (by decide) ?_
    refine lv_aload_n hx hb dX6_count_104 rfl (lv_at hl 0 rfl) ?_
    refine va_get (D := D) (ci := 6) (v := .ref yr) (C := RX6) (T := TX6) (N := 22) hx hb hts (in_X6_count_X6) hown hK hP 0 rfl rfl 0 (by decide) (hts (.fieldLink RX6 7 "StepsRoundCircleModel" "refusals" "[I") (by decide +kernel)) (fun _ h9 => h9) rfl dX6_count_105 ?_
    refine lv_iload_n hx hb dX6_count_108 rfl (lv_at hl 1 rfl) ?_
    refine lv_bipush (v := 10) hx hb dX6_count_109 (by decide) ?_
    refine lv_isub hx hb dX6_count_111 ?_
    refine va_iald hx hb hK hP 1 0 rfl rfl (cnt_in 0 0 (Or.inr (Or.inl c_1_12))).1 dX6_count_112 ?_
    exact rdI hx hb hr hlocks dX6_count_113 (by obtain ⟨_, e1, e2, n0, n1, n2, n3⟩ := cnt_in 0 0 (Or.inr (Or.inl c_1_12)); unfold cntM cntA; rw [if_neg n0, if_neg n1, if_neg n2, if_neg n3, if_pos e2, e1])
  by_cases c_1_13 : n = 13
  · skip
    refine lv_tableIn (off := 103) (tgt := 104) hx hb dX6_count_1 (by rw [c_1_13]; decide) (by rw [c_1_13]; decide) (by rw [c_1_13]; rfl) (by decide) ?_
    refine lv_aload_n hx hb dX6_count_104 rfl (lv_at hl 0 rfl) ?_
    refine va_get (D := D) (ci := 6) (v := .ref yr) (C := RX6) (T := TX6) (N := 22) hx hb hts (in_X6_count_X6) hown hK hP 0 rfl rfl 0 (by decide) (hts (.fieldLink RX6 7 "StepsRoundCircleModel" "refusals" "[I") (by decide +kernel)) (fun _ h9 => h9) rfl dX6_count_105 ?_
    refine lv_iload_n hx hb dX6_count_108 rfl (lv_at hl 1 rfl) ?_
    refine lv_bipush (v := 10) hx hb dX6_count_109 (by decide) ?_
    refine lv_isub hx hb dX6_count_111 ?_
    refine va_iald hx hb hK hP 1 0 rfl rfl (cnt_in 0 0 (Or.inr (Or.inr (Or.inl c_1_13)))).1 dX6_count_112 ?_
    exact rdI hx hb hr hlocks dX6_count_113 (by obtain ⟨_, e1, e2, n0, n1, n2, n3⟩ := cnt_in 0 0 (Or.inr (Or.inr (Or.inl c_1_13))); unfold cntM cntA; rw [if_neg n0, if_neg n1, if_neg n2, if_neg n3, if_pos e2, e1])
  by_cases c_1_14 : n = 14
  · skip
    refine lv_tableIn (off := 103) (tgt := 104) hx hb dX6_count_1 (by rw [c_1_14]; decide) (by rw [c_1_14]; decide) (by rw [c_1_14]; rfl) (by decide) ?_
    refine lv_aload_n hx hb dX6_count_104 rfl (lv_at hl 0 rfl) ?_
    refine va_get (D := D) (ci := 6) (v := .ref yr) (C := RX6) (T := TX6) (N := 22) hx hb hts (in_X6_count_X6) hown hK hP 0 rfl rfl 0 (by decide) (hts (.fieldLink RX6 7 "StepsRoundCircleModel" "refusals" "[I") (by decide +kernel)) (fun _ h9 => h9) rfl dX6_count_105 ?_
    refine lv_iload_n hx hb dX6_count_108 rfl (lv_at hl 1 rfl) ?_
    refine lv_bipush (v := 10) hx hb dX6_count_109 (by decide) ?_
    refine lv_isub hx hb dX6_count_111 ?_
    refine va_iald hx hb hK hP 1 0 rfl rfl (cnt_in 0 0 (Or.inr (Or.inr (Or.inr (Or.inl c_1_14))))).1 dX6_count_112 ?_
    exact rdI hx hb hr hlocks dX6_count_113 (by obtain ⟨_, e1, e2, n0, n1, n2, n3⟩ := cnt_in 0 0 (Or.inr (Or.inr (Or.inr (Or.inl c_1_14)))); unfold cntM cntA; rw [if_neg n0, if_neg n1, if_neg n2, if_neg n3, if_pos e2, e1])
  by_cases c_1_15 : n = 15
  · skip
    refine lv_tableIn (off := 103) (tgt := 104) hx hb dX6_count_1 (by rw [c_1_15]; decide) (by rw [c_1_15]; decide) (by rw [c_1_15]; rfl) (by decide) ?_
    refine lv_aload_n hx hb dX6_count_104 rfl (lv_at hl 0 rfl) ?_
    refine va_get (D := D) (ci := 6) (v := .ref yr) (C := RX6) (T := TX6) (N := 22) hx hb hts (in_X6_count_X6) hown hK hP 0 rfl rfl 0 (by decide) (hts (.fieldLink RX6 7 "StepsRoundCircleModel" "refusals" "[I") (by decide +kernel)) (fun _ h9 => h9) rfl dX6_count_105 ?_
    refine lv_iload_n hx hb dX6_count_108 rfl (lv_at hl 1 rfl) ?_
    refine lv_bipush (v := 10) hx hb dX6_count_109 (by decide) ?_
    refine lv_isub hx hb dX6_count_111 ?_
    refine va_iald hx hb hK hP 1 0 rfl rfl (cnt_in 0 0 (Or.inr (Or.inr (Or.inr (Or.inr (Or.inl c_1_15)))))).1 dX6_count_112 ?_
    exact rdI hx hb hr hlocks dX6_count_113 (by obtain ⟨_, e1, e2, n0, n1, n2, n3⟩ := cnt_in 0 0 (Or.inr (Or.inr (Or.inr (Or.inr (Or.inl c_1_15))))); unfold cntM cntA; rw [if_neg n0, if_neg n1, if_neg n2, if_neg n3, if_pos e2, e1])
  by_cases c_1_16 : n = 16
  · skip
    refine lv_tableIn (off := 103) (tgt := 104) hx hb dX6_count_1 (by rw [c_1_16]; decide) (by rw [c_1_16]; decide) (by rw [c_1_16]; rfl) (by decide) ?_
    refine lv_aload_n hx hb dX6_count_104 rfl (lv_at hl 0 rfl) ?_
    refine va_get (D := D) (ci := 6) (v := .ref yr) (C := RX6) (T := TX6) (N := 22) hx hb hts (in_X6_count_X6) hown hK hP 0 rfl rfl 0 (by decide) (hts (.fieldLink RX6 7 "StepsRoundCircleModel" "refusals" "[I") (by decide +kernel)) (fun _ h9 => h9) rfl dX6_count_105 ?_
    refine lv_iload_n hx hb dX6_count_108 rfl (lv_at hl 1 rfl) ?_
    refine lv_bipush (v := 10) hx hb dX6_count_109 (by decide) ?_
    refine lv_isub hx hb dX6_count_111 ?_
    refine va_iald hx hb hK hP 1 0 rfl rfl (cnt_in 0 0 (Or.inr (Or.inr (Or.inr (Or.inr (Or.inr c_1_16)))))).1 dX6_count_112 ?_
    exact rdI hx hb hr hlocks dX6_count_113 (by obtain ⟨_, e1, e2, n0, n1, n2, n3⟩ := cnt_in 0 0 (Or.inr (Or.inr (Or.inr (Or.inr (Or.inr c_1_16))))); unfold cntM cntA; rw [if_neg n0, if_neg n1, if_neg n2, if_neg n3, if_pos e2, e1])
  by_cases co_1 : n.toInt < 0 ∨ 16 < n.toInt
  · skip
    refine lv_tableOut (tgt := 114) hx hb dX6_count_1 co_1 (by decide) ?_
    refine lv_bipush (v := (-9)) hx hb dX6_count_114 (by decide) ?_
    exact rdI hx hb hr hlocks dX6_count_116 (by unfold cntM cntA; rw [if_neg c_1_0, if_neg c_1_1, if_neg c_1_2, if_neg c_1_3, if_neg (cnt_out (fun k hk => by rcases (show k = 0 ∨ k = 1 ∨ k = 2 ∨ k = 3 ∨ k = 4 ∨ k = 5 by omega) with rfl | rfl | rfl | rfl | rfl | rfl; exact c_1_11; exact c_1_12; exact c_1_13; exact c_1_14; exact c_1_15; exact c_1_16))])
  by_cases c_1_4 : n = 4
  · skip
    refine lv_tableIn (off := 113) (tgt := 114) hx hb dX6_count_1 (by rw [c_1_4]; decide) (by rw [c_1_4]; decide) (by rw [c_1_4]; rfl) (by decide) ?_
    refine lv_bipush (v := (-9)) hx hb dX6_count_114 (by decide) ?_
    exact rdI hx hb hr hlocks dX6_count_116 (by unfold cntM cntA; rw [if_neg c_1_0, if_neg c_1_1, if_neg c_1_2, if_neg c_1_3, if_neg (cnt_out (fun k hk => by rcases (show k = 0 ∨ k = 1 ∨ k = 2 ∨ k = 3 ∨ k = 4 ∨ k = 5 by omega) with rfl | rfl | rfl | rfl | rfl | rfl; exact c_1_11; exact c_1_12; exact c_1_13; exact c_1_14; exact c_1_15; exact c_1_16))])
  by_cases c_1_5 : n = 5
  · skip
    refine lv_tableIn (off := 113) (tgt := 114) hx hb dX6_count_1 (by rw [c_1_5]; decide) (by rw [c_1_5]; decide) (by rw [c_1_5]; rfl) (by decide) ?_
    refine lv_bipush (v := (-9)) hx hb dX6_count_114 (by decide) ?_
    exact rdI hx hb hr hlocks dX6_count_116 (by unfold cntM cntA; rw [if_neg c_1_0, if_neg c_1_1, if_neg c_1_2, if_neg c_1_3, if_neg (cnt_out (fun k hk => by rcases (show k = 0 ∨ k = 1 ∨ k = 2 ∨ k = 3 ∨ k = 4 ∨ k = 5 by omega) with rfl | rfl | rfl | rfl | rfl | rfl; exact c_1_11; exact c_1_12; exact c_1_13; exact c_1_14; exact c_1_15; exact c_1_16))])
  by_cases c_1_6 : n = 6
  · skip
    refine lv_tableIn (off := 113) (tgt := 114) hx hb dX6_count_1 (by rw [c_1_6]; decide) (by rw [c_1_6]; decide) (by rw [c_1_6]; rfl) (by decide) ?_
    refine lv_bipush (v := (-9)) hx hb dX6_count_114 (by decide) ?_
    exact rdI hx hb hr hlocks dX6_count_116 (by unfold cntM cntA; rw [if_neg c_1_0, if_neg c_1_1, if_neg c_1_2, if_neg c_1_3, if_neg (cnt_out (fun k hk => by rcases (show k = 0 ∨ k = 1 ∨ k = 2 ∨ k = 3 ∨ k = 4 ∨ k = 5 by omega) with rfl | rfl | rfl | rfl | rfl | rfl; exact c_1_11; exact c_1_12; exact c_1_13; exact c_1_14; exact c_1_15; exact c_1_16))])
  by_cases c_1_7 : n = 7
  · skip
    refine lv_tableIn (off := 113) (tgt := 114) hx hb dX6_count_1 (by rw [c_1_7]; decide) (by rw [c_1_7]; decide) (by rw [c_1_7]; rfl) (by decide) ?_
    refine lv_bipush (v := (-9)) hx hb dX6_count_114 (by decide) ?_
    exact rdI hx hb hr hlocks dX6_count_116 (by unfold cntM cntA; rw [if_neg c_1_0, if_neg c_1_1, if_neg c_1_2, if_neg c_1_3, if_neg (cnt_out (fun k hk => by rcases (show k = 0 ∨ k = 1 ∨ k = 2 ∨ k = 3 ∨ k = 4 ∨ k = 5 by omega) with rfl | rfl | rfl | rfl | rfl | rfl; exact c_1_11; exact c_1_12; exact c_1_13; exact c_1_14; exact c_1_15; exact c_1_16))])
  by_cases c_1_8 : n = 8
  · skip
    refine lv_tableIn (off := 113) (tgt := 114) hx hb dX6_count_1 (by rw [c_1_8]; decide) (by rw [c_1_8]; decide) (by rw [c_1_8]; rfl) (by decide) ?_
    refine lv_bipush (v := (-9)) hx hb dX6_count_114 (by decide) ?_
    exact rdI hx hb hr hlocks dX6_count_116 (by unfold cntM cntA; rw [if_neg c_1_0, if_neg c_1_1, if_neg c_1_2, if_neg c_1_3, if_neg (cnt_out (fun k hk => by rcases (show k = 0 ∨ k = 1 ∨ k = 2 ∨ k = 3 ∨ k = 4 ∨ k = 5 by omega) with rfl | rfl | rfl | rfl | rfl | rfl; exact c_1_11; exact c_1_12; exact c_1_13; exact c_1_14; exact c_1_15; exact c_1_16))])
  by_cases c_1_9 : n = 9
  · skip
    refine lv_tableIn (off := 113) (tgt := 114) hx hb dX6_count_1 (by rw [c_1_9]; decide) (by rw [c_1_9]; decide) (by rw [c_1_9]; rfl) (by decide) ?_
    refine lv_bipush (v := (-9)) hx hb dX6_count_114 (by decide) ?_
    exact rdI hx hb hr hlocks dX6_count_116 (by unfold cntM cntA; rw [if_neg c_1_0, if_neg c_1_1, if_neg c_1_2, if_neg c_1_3, if_neg (cnt_out (fun k hk => by rcases (show k = 0 ∨ k = 1 ∨ k = 2 ∨ k = 3 ∨ k = 4 ∨ k = 5 by omega) with rfl | rfl | rfl | rfl | rfl | rfl; exact c_1_11; exact c_1_12; exact c_1_13; exact c_1_14; exact c_1_15; exact c_1_16))])
  by_cases c_1_10 : n = 10
  · skip
    refine lv_tableIn (off := 113) (tgt := 114) hx hb dX6_count_1 (by rw [c_1_10]; decide) (by rw [c_1_10]; decide) (by rw [c_1_10]; rfl) (by decide) ?_
    refine lv_bipush (v := (-9)) hx hb dX6_count_114 (by decide) ?_
    exact rdI hx hb hr hlocks dX6_count_116 (by unfold cntM cntA; rw [if_neg c_1_0, if_neg c_1_1, if_neg c_1_2, if_neg c_1_3, if_neg (cnt_out (fun k hk => by rcases (show k = 0 ∨ k = 1 ∨ k = 2 ∨ k = 3 ∨ k = 4 ∨ k = 5 by omega) with rfl | rfl | rfl | rfl | rfl | rfl; exact c_1_11; exact c_1_12; exact c_1_13; exact c_1_14; exact c_1_15; exact c_1_16))])
  exact False.elim (by have q0 := lv_neT c_1_0 (show (0 : Int32).toInt = 0 by decide); have q1 := lv_neT c_1_1 (show (1 : Int32).toInt = 1 by decide); have q2 := lv_neT c_1_2 (show (2 : Int32).toInt = 2 by decide); have q3 := lv_neT c_1_3 (show (3 : Int32).toInt = 3 by decide); have q4 := lv_neT c_1_4 (show (4 : Int32).toInt = 4 by decide); have q5 := lv_neT c_1_5 (show (5 : Int32).toInt = 5 by decide); have q6 := lv_neT c_1_6 (show (6 : Int32).toInt = 6 by decide); have q7 := lv_neT c_1_7 (show (7 : Int32).toInt = 7 by decide); have q8 := lv_neT c_1_8 (show (8 : Int32).toInt = 8 by decide); have q9 := lv_neT c_1_9 (show (9 : Int32).toInt = 9 by decide); have q10 := lv_neT c_1_10 (show (10 : Int32).toInt = 10 by decide); have q11 := lv_neT c_1_11 (show (11 : Int32).toInt = 11 by decide); have q12 := lv_neT c_1_12 (show (12 : Int32).toInt = 12 by decide); have q13 := lv_neT c_1_13 (show (13 : Int32).toInt = 13 by decide); have q14 := lv_neT c_1_14 (show (14 : Int32).toInt = 14 by decide); have q15 := lv_neT c_1_15 (show (15 : Int32).toInt = 15 by decide); have q16 := lv_neT c_1_16 (show (16 : Int32).toInt = 16 by decide); omega)

set_option maxHeartbeats 4000000 in
set_option maxRecDepth 100000 in
theorem c_X6_comes (l : Launch) (D : va_G) (cI cZ cR : ClassId) (y yr yw yc yl ys yp ym yo yk yt yi yz yx yu : Nat) (mq mn mc me md mz km kr : Int32) (v : Nat → Int32) (x0 x1 x2 x3 : Int32) (hmn : 0 ≤ mn ∧ mn < 5) (sz : Nat) : Met l yX6_comes wsX6_comes ({ frames := 0, cells := 0, slots := 0, locals := 0 }) (PcW D cI cZ cR [.ref y, .int x0, .int x1, .int x2, .int x3] [(y, .inr (6, [.ref yr, .int mq, .int mn, .ref yw, .ref yc, .int mc, .ref yl, .int me, .ref ys, .ref yp, .ref ym, .int md, .ref yo, .ref yk, .ref yt, .int mz, .ref yi, .ref yz, .ref yx, .ref yu, .int km, .int kr])), (yw, .inl (cI, 20, .inl v))] sz) (va_Qv (fun (u : Int32 × (Nat → Int32)) => u.1 = mn + 1 ∧ u.2 = wadd v mn x0 x1 x2 x3) (Bw D (fun (u : Int32 × (Nat → Int32)) => [(y, .inr (6, [.ref yr, .int mq, .int u.1, .ref yw, .ref yc, .int mc, .ref yl, .int me, .ref ys, .ref yp, .ref ym, .int md, .ref yo, .ref yk, .ref yt, .int mz, .ref yi, .ref yz, .ref yx, .ref yu, .int km, .int kr])), (yw, .inl (cI, 20, .inl u.2))]) (va_A [(y, .inr (6, [.ref yr, .int mq, .int mn, .ref yw, .ref yc, .int mc, .ref yl, .int me, .ref ys, .ref yp, .ref ym, .int md, .ref yo, .ref yk, .ref yt, .int mz, .ref yi, .ref yz, .ref yx, .ref yu, .int km, .int kr])), (yw, .inl (cI, 20, .inl v))] sz)) (va_A [(y, .inr (6, [.ref yr, .int mq, .int mn, .ref yw, .ref yc, .int mc, .ref yl, .int me, .ref ys, .ref yp, .ref ym, .int md, .ref yo, .ref yk, .ref yt, .int mz, .ref yi, .ref yz, .ref yx, .ref yu, .int km, .int kr])), (yw, .inl (cI, 20, .inl v))] sz)) 0 0 (va_A [(y, .inr (6, [.ref yr, .int mq, .int mn, .ref yw, .ref yc, .int mc, .ref yl, .int me, .ref ys, .ref yp, .ref ym, .int md, .ref yo, .ref yk, .ref yt, .int mz, .ref yi, .ref yz, .ref yx, .ref yu, .int km, .int kr])), (yw, .inl (cI, 20, .inl v))] sz) := by
  refine Met.ofW (cc := cX6_comes) (maxL := 5) (ret := none) (by decide) rfl ?_
  intro p e s m args below meth c s₁ B hml hv
  obtain ⟨rfl, hsz, hP, hK, hD0, hN⟩ := hv
  have hx := B.exec
  have hb := B.bytes
  have hr := B.returns
  have hts := atoms_spec (ws := wsX6_comes) B.pre
  have hown : s.vm.findClass RX6 = some m.cls := findClass_of_methodNamed B.named
  have hlocks := B.notSynchronized
  subst hsz
  have hD := hD0.self (sz := s.heap.size)
  generalize hAe : va_A [(y, .inr (6, [.ref yr, .int mq, .int mn, .ref yw, .ref yc, .int mc, .ref yl, .int me, .ref ys, .ref yp, .ref ym, .int md, .ref yo, .ref yk, .ref yt, .int mz, .ref yi, .ref yz, .ref yx, .ref yu, .int km, .int kr])), (yw, .inl (cI, 20, .inl v))] s.heap.size = A at hD ⊢
  have hA : ∀ q : Nat, s.heap.size ≤ q → A q := fun q h => by rw [← hAe]; exact Or.inr h
  have hS : va_S A s.heap s.heap [] := va_S.rf
  have hP : va_P D vwCl [(y, .inr (6, [.ref yr, .int mq, .int mn, .ref yw, .ref yc, .int mc, .ref yl, .int me, .ref ys, .ref yp, .ref ym, .int md, .ref yo, .ref yk, .ref yt, .int mz, .ref yi, .ref yz, .ref yx, .ref yu, .int km, .int kr])), (yw, .inl (cI, 20, .inl v))] s.heap := hP
  have hl := lv_entry ([.ref y, .int x0, .int x1, .int x2, .int x3]) (n := 5) (Nat.le_of_ble_eq_true rfl)
  rw [lg_entry_eq]
  generalize (lg_sl ([.ref y, .int x0, .int x1, .int x2, .int x3]) ++ List.replicate (5 - (lg_sl ([.ref y, .int x0, .int x1, .int x2, .int x3])).length) Slot.unset).toArray = ls at hl ⊢
  have hl : lv_has ls 5 [(0, .ref y), (1, .int x0), (2, .int x1), (3, .int x2), (4, .int x3)] := hl
  refine lv_aload_n hx hb dX6_comes_0 rfl (lv_at hl 0 rfl) ?_
  refine va_get (D := D) (ci := 6) (v := .ref yw) (C := RX6) (T := TX6) (N := 22) hx hb hts (in_X6_comes_X6) hown hK hP 0 rfl rfl 3 (by decide) (hts (.fieldLink RX6 17 "StepsRoundCircleModel" "walkers" "[I") (by decide +kernel)) (fun _ h9 => h9) rfl dX6_comes_1 ?_
  refine lv_iconst (v := 4) hx hb dX6_comes_4 (by decide) ?_
  refine lv_aload_n hx hb dX6_comes_5 rfl (lv_at hl 0 rfl) ?_
  refine va_get (D := D) (ci := 6) (v := .int mn) (C := RX6) (T := TX6) (N := 22) hx hb hts (in_X6_comes_X6) hown hK hP 0 rfl rfl 2 (by decide) (hts (.fieldLink RX6 70 "StepsRoundCircleModel" "many" "I") (by decide +kernel)) (fun _ h9 => h9) rfl dX6_comes_6 ?_
  refine lv_imul hx hb dX6_comes_9 ?_
  refine lv_iload_n hx hb dX6_comes_10 rfl (lv_at hl 1 rfl) ?_
  refine va_iast hx hb hK hP hD hS 1 0 rfl rfl (at_vp0 hmn) dX6_comes_11 (fun H locs hP hD hS => ?_)
  have hP : va_P D vwCl [(y, .inr (6, [.ref yr, .int mq, .int mn, .ref yw, .ref yc, .int mc, .ref yl, .int me, .ref ys, .ref yp, .ref ym, .int md, .ref yo, .ref yk, .ref yt, .int mz, .ref yi, .ref yz, .ref yx, .ref yu, .int km, .int kr])), (yw, .inl (cI, 20, .inl (upd v ((4 * mn).toNatClampNeg) x0)))] H := hP
  have hD : va_D A [(y, .inr (6, [.ref yr, .int mq, .int mn, .ref yw, .ref yc, .int mc, .ref yl, .int me, .ref ys, .ref yp, .ref ym, .int md, .ref yo, .ref yk, .ref yt, .int mz, .ref yi, .ref yz, .ref yx, .ref yu, .int km, .int kr])), (yw, .inl (cI, 20, .inl (upd v ((4 * mn).toNatClampNeg) x0)))] := hD
  refine lv_aload_n hx hb dX6_comes_12 rfl (lv_at hl 0 rfl) ?_
  refine va_get (D := D) (ci := 6) (v := .ref yw) (C := RX6) (T := TX6) (N := 22) hx hb hts (in_X6_comes_X6) hown hK hP 0 rfl rfl 3 (by decide) (hts (.fieldLink RX6 17 "StepsRoundCircleModel" "walkers" "[I") (by decide +kernel)) (fun _ h9 => h9) rfl dX6_comes_13 ?_
  refine lv_iconst (v := 4) hx hb dX6_comes_16 (by decide) ?_
  refine lv_aload_n hx hb dX6_comes_17 rfl (lv_at hl 0 rfl) ?_
  refine va_get (D := D) (ci := 6) (v := .int mn) (C := RX6) (T := TX6) (N := 22) hx hb hts (in_X6_comes_X6) hown hK hP 0 rfl rfl 2 (by decide) (hts (.fieldLink RX6 70 "StepsRoundCircleModel" "many" "I") (by decide +kernel)) (fun _ h9 => h9) rfl dX6_comes_18 ?_
  refine lv_imul hx hb dX6_comes_21 ?_
  refine lv_iconst (v := 1) hx hb dX6_comes_22 (by decide) ?_
  refine lv_iadd hx hb dX6_comes_23 ?_
  refine lv_iload_n hx hb dX6_comes_24 rfl (lv_at hl 2 rfl) ?_
  refine va_iast hx hb hK hP hD hS 1 0 rfl rfl (at_vp hmn (by decide)) dX6_comes_25 (fun H locs hP hD hS => ?_)
  have hP : va_P D vwCl [(y, .inr (6, [.ref yr, .int mq, .int mn, .ref yw, .ref yc, .int mc, .ref yl, .int me, .ref ys, .ref yp, .ref ym, .int md, .ref yo, .ref yk, .ref yt, .int mz, .ref yi, .ref yz, .ref yx, .ref yu, .int km, .int kr])), (yw, .inl (cI, 20, .inl (upd (upd v ((4 * mn).toNatClampNeg) x0) (((4 * mn) + 1).toNatClampNeg) x1)))] H := hP
  have hD : va_D A [(y, .inr (6, [.ref yr, .int mq, .int mn, .ref yw, .ref yc, .int mc, .ref yl, .int me, .ref ys, .ref yp, .ref ym, .int md, .ref yo, .ref yk, .ref yt, .int mz, .ref yi, .ref yz, .ref yx, .ref yu, .int km, .int kr])), (yw, .inl (cI, 20, .inl (upd (upd v ((4 * mn).toNatClampNeg) x0) (((4 * mn) + 1).toNatClampNeg) x1)))] := hD
  refine lv_aload_n hx hb dX6_comes_26 rfl (lv_at hl 0 rfl) ?_
  refine va_get (D := D) (ci := 6) (v := .ref yw) (C := RX6) (T := TX6) (N := 22) hx hb hts (in_X6_comes_X6) hown hK hP 0 rfl rfl 3 (by decide) (hts (.fieldLink RX6 17 "StepsRoundCircleModel" "walkers" "[I") (by decide +kernel)) (fun _ h9 => h9) rfl dX6_comes_27 ?_
  refine lv_iconst (v := 4) hx hb dX6_comes_30 (by decide) ?_
  refine lv_aload_n hx hb dX6_comes_31 rfl (lv_at hl 0 rfl) ?_
  refine va_get (D := D) (ci := 6) (v := .int mn) (C := RX6) (T := TX6) (N := 22) hx hb hts (in_X6_comes_X6) hown hK hP 0 rfl rfl 2 (by decide) (hts (.fieldLink RX6 70 "StepsRoundCircleModel" "many" "I") (by decide +kernel)) (fun _ h9 => h9) rfl dX6_comes_32 ?_
  refine lv_imul hx hb dX6_comes_35 ?_
  refine lv_iconst (v := 2) hx hb dX6_comes_36 (by decide) ?_
  refine lv_iadd hx hb dX6_comes_37 ?_
  refine lv_iload_n hx hb dX6_comes_38 rfl (lv_at hl 3 rfl) ?_
  refine va_iast hx hb hK hP hD hS 1 0 rfl rfl (at_vp hmn (by decide)) dX6_comes_39 (fun H locs hP hD hS => ?_)
  have hP : va_P D vwCl [(y, .inr (6, [.ref yr, .int mq, .int mn, .ref yw, .ref yc, .int mc, .ref yl, .int me, .ref ys, .ref yp, .ref ym, .int md, .ref yo, .ref yk, .ref yt, .int mz, .ref yi, .ref yz, .ref yx, .ref yu, .int km, .int kr])), (yw, .inl (cI, 20, .inl (upd (upd (upd v ((4 * mn).toNatClampNeg) x0) (((4 * mn) + 1).toNatClampNeg) x1) (((4 * mn) + 2).toNatClampNeg) x2)))] H := hP
  have hD : va_D A [(y, .inr (6, [.ref yr, .int mq, .int mn, .ref yw, .ref yc, .int mc, .ref yl, .int me, .ref ys, .ref yp, .ref ym, .int md, .ref yo, .ref yk, .ref yt, .int mz, .ref yi, .ref yz, .ref yx, .ref yu, .int km, .int kr])), (yw, .inl (cI, 20, .inl (upd (upd (upd v ((4 * mn).toNatClampNeg) x0) (((4 * mn) + 1).toNatClampNeg) x1) (((4 * mn) + 2).toNatClampNeg) x2)))] := hD
  refine lv_aload_n hx hb dX6_comes_40 rfl (lv_at hl 0 rfl) ?_
  refine va_get (D := D) (ci := 6) (v := .ref yw) (C := RX6) (T := TX6) (N := 22) hx hb hts (in_X6_comes_X6) hown hK hP 0 rfl rfl 3 (by decide) (hts (.fieldLink RX6 17 "StepsRoundCircleModel" "walkers" "[I") (by decide +kernel)) (fun _ h9 => h9) rfl dX6_comes_41 ?_
  refine lv_iconst (v := 4) hx hb dX6_comes_44 (by decide) ?_
  refine lv_aload_n hx hb dX6_comes_45 rfl (lv_at hl 0 rfl) ?_
  refine va_get (D := D) (ci := 6) (v := .int mn) (C := RX6) (T := TX6) (N := 22) hx hb hts (in_X6_comes_X6) hown hK hP 0 rfl rfl 2 (by decide) (hts (.fieldLink RX6 70 "StepsRoundCircleModel" "many" "I") (by decide +kernel)) (fun _ h9 => h9) rfl dX6_comes_46 ?_
  refine lv_imul hx hb dX6_comes_49 ?_
  refine lv_iconst (v := 3) hx hb dX6_comes_50 (by decide) ?_
  refine lv_iadd hx hb dX6_comes_51 ?_
  refine lv_iload hx hb dX6_comes_52 (lv_at hl 4 rfl) ?_
  refine va_iast hx hb hK hP hD hS 1 0 rfl rfl (at_vp hmn (by decide)) dX6_comes_54 (fun H locs hP hD hS => ?_)
  have hP : va_P D vwCl [(y, .inr (6, [.ref yr, .int mq, .int mn, .ref yw, .ref yc, .int mc, .ref yl, .int me, .ref ys, .ref yp, .ref ym, .int md, .ref yo, .ref yk, .ref yt, .int mz, .ref yi, .ref yz, .ref yx, .ref yu, .int km, .int kr])), (yw, .inl (cI, 20, .inl (upd (upd (upd (upd v ((4 * mn).toNatClampNeg) x0) (((4 * mn) + 1).toNatClampNeg) x1) (((4 * mn) + 2).toNatClampNeg) x2) (((4 * mn) + 3).toNatClampNeg) x3)))] H := hP
  have hD : va_D A [(y, .inr (6, [.ref yr, .int mq, .int mn, .ref yw, .ref yc, .int mc, .ref yl, .int me, .ref ys, .ref yp, .ref ym, .int md, .ref yo, .ref yk, .ref yt, .int mz, .ref yi, .ref yz, .ref yx, .ref yu, .int km, .int kr])), (yw, .inl (cI, 20, .inl (upd (upd (upd (upd v ((4 * mn).toNatClampNeg) x0) (((4 * mn) + 1).toNatClampNeg) x1) (((4 * mn) + 2).toNatClampNeg) x2) (((4 * mn) + 3).toNatClampNeg) x3)))] := hD
  refine lv_aload_n hx hb dX6_comes_55 rfl (lv_at hl 0 rfl) ?_
  refine lv_dup hx hb dX6_comes_56 rfl ?_
  refine va_get (D := D) (ci := 6) (v := .int mn) (C := RX6) (T := TX6) (N := 22) hx hb hts (in_X6_comes_X6) hown hK hP 0 rfl rfl 2 (by decide) (hts (.fieldLink RX6 70 "StepsRoundCircleModel" "many" "I") (by decide +kernel)) (fun _ h9 => h9) rfl dX6_comes_57 ?_
  refine lv_iconst (v := 1) hx hb dX6_comes_60 (by decide) ?_
  refine lv_iadd hx hb dX6_comes_61 ?_
  refine va_put (D := D) (ci := 6) (v := .int (mn + 1)) (ty := .int) (C := RX6) (T := TX6) (N := 22) hx hb hts (in_X6_comes_X6) tyX6 tyX6_ok nmX6 hown hK hP hD hS 0 rfl rfl 2 (by decide) (hts (.fieldLink RX6 70 "StepsRoundCircleModel" "many" "I") (by decide +kernel)) (fun _ h9 => h9) rfl (by decide +kernel) rfl rfl (Nat.le_of_ble_eq_true rfl) dX6_comes_62 (fun H locs hP hD hS => ?_)
  have hP : va_P D vwCl [(y, .inr (6, [.ref yr, .int mq, .int (mn + 1), .ref yw, .ref yc, .int mc, .ref yl, .int me, .ref ys, .ref yp, .ref ym, .int md, .ref yo, .ref yk, .ref yt, .int mz, .ref yi, .ref yz, .ref yx, .ref yu, .int km, .int kr])), (yw, .inl (cI, 20, .inl (upd (upd (upd (upd v ((4 * mn).toNatClampNeg) x0) (((4 * mn) + 1).toNatClampNeg) x1) (((4 * mn) + 2).toNatClampNeg) x2) (((4 * mn) + 3).toNatClampNeg) x3)))] H := hP
  have hD : va_D A [(y, .inr (6, [.ref yr, .int mq, .int (mn + 1), .ref yw, .ref yc, .int mc, .ref yl, .int me, .ref ys, .ref yp, .ref ym, .int md, .ref yo, .ref yk, .ref yt, .int mz, .ref yi, .ref yz, .ref yx, .ref yu, .int km, .int kr])), (yw, .inl (cI, 20, .inl (upd (upd (upd (upd v ((4 * mn).toNatClampNeg) x0) (((4 * mn) + 1).toNatClampNeg) x1) (((4 * mn) + 2).toNatClampNeg) x2) (((4 * mn) + 3).toNatClampNeg) x3)))] := hD
  exact wrV (w1 := (fun (u : Int32 × (Nat → Int32)) => [(y, .inr (6, [.ref yr, .int mq, .int u.1, .ref yw, .ref yc, .int mc, .ref yl, .int me, .ref ys, .ref yp, .ref ym, .int md, .ref yo, .ref yk, .ref yt, .int mz, .ref yi, .ref yz, .ref yx, .ref yu, .int km, .int kr])), (yw, .inl (cI, 20, .inl u.2))])) ((mn + 1), (upd (upd (upd (upd v ((4 * mn).toNatClampNeg) x0) (((4 * mn) + 1).toNatClampNeg) x1) (((4 * mn) + 2).toNatClampNeg) x2) (((4 * mn) + 3).toNatClampNeg) x3)) hx hb hr hlocks dX6_comes_65 hS (hP.sub [0, 1] rfl) (hD.sub [0, 1] (by decide) rfl) (⟨rfl, by unfold wadd; rw [at_set0 _ hmn, at_setW _ hmn (by decide), at_setW _ hmn (by decide), at_setW _ hmn (by decide)]⟩)

set_option maxHeartbeats 4000000 in
set_option maxRecDepth 100000 in
theorem c_X6_walker (l : Launch) (D : va_G) (cI cZ cR : ClassId) (y yr yw yc yl ys yp ym yo yk yt yi yz yx yu : Nat) (mq mn mc me md mz km kr : Int32) (G : Nat → Int32) (v : Nat → Int32) (x0 x1 x2 x3 : Int32) (hq : okQ mq) (hmn : 0 ≤ mn) (hm5 : mn ≤ 5) (hws : ∀ w, 0 ≤ w ∧ w < mn → okW mq v w) (sz : Nat) : Met l yX6_walker wsX6_walker ({ frames := 1, cells := 0, slots := 0, locals := 25 }) (PcW D cI cZ cR [.ref y, .int x0, .int x1, .int x2, .int x3] [(y, .inr (6, [.ref yr, .int mq, .int mn, .ref yw, .ref yc, .int mc, .ref yl, .int me, .ref ys, .ref yp, .ref ym, .int md, .ref yo, .ref yk, .ref yt, .int mz, .ref yi, .ref yz, .ref yx, .ref yu, .int km, .int kr])), (yr, .inl (cI, 7, .inl G)), (yw, .inl (cI, 20, .inl v))] sz) (va_Qi (fun (res : Int32) (u : Int32 × Int32 × (Nat → Int32) × (Nat → Int32)) => res = (if rf_wal mq mn x0 x1 x2 x3 = 0 then mn + 1 - 1 else rf_wal mq mn x0 x1 x2 x3) ∧ u.1 = (if rf_wal mq mn x0 x1 x2 x3 = 0 then mn + 1 else mn) ∧ u.2.1 = (if rf_wal mq mn x0 x1 x2 x3 = 0 then 0 else mc) ∧ u.2.2.1 = (if rf_wal mq mn x0 x1 x2 x3 = 0 then G else md_bump G (rf_wal mq mn x0 x1 x2 x3)) ∧ u.2.2.2 = (if rf_wal mq mn x0 x1 x2 x3 = 0 then wadd v mn x0 x1 x2 x3 else v)) (Bw D (fun (u : Int32 × Int32 × (Nat → Int32) × (Nat → Int32)) => [(y, .inr (6, [.ref yr, .int mq, .int u.1, .ref yw, .ref yc, .int u.2.1, .ref yl, .int me, .ref ys, .ref yp, .ref ym, .int md, .ref yo, .ref yk, .ref yt, .int mz, .ref yi, .ref yz, .ref yx, .ref yu, .int km, .int kr])), (yr, .inl (cI, 7, .inl u.2.2.1)), (yw, .inl (cI, 20, .inl u.2.2.2))]) (va_A [(y, .inr (6, [.ref yr, .int mq, .int mn, .ref yw, .ref yc, .int mc, .ref yl, .int me, .ref ys, .ref yp, .ref ym, .int md, .ref yo, .ref yk, .ref yt, .int mz, .ref yi, .ref yz, .ref yx, .ref yu, .int km, .int kr])), (yr, .inl (cI, 7, .inl G)), (yw, .inl (cI, 20, .inl v))] sz)) (va_A [(y, .inr (6, [.ref yr, .int mq, .int mn, .ref yw, .ref yc, .int mc, .ref yl, .int me, .ref ys, .ref yp, .ref ym, .int md, .ref yo, .ref yk, .ref yt, .int mz, .ref yi, .ref yz, .ref yx, .ref yu, .int km, .int kr])), (yr, .inl (cI, 7, .inl G)), (yw, .inl (cI, 20, .inl v))] sz)) 0 0 (va_A [(y, .inr (6, [.ref yr, .int mq, .int mn, .ref yw, .ref yc, .int mc, .ref yl, .int me, .ref ys, .ref yp, .ref ym, .int md, .ref yo, .ref yk, .ref yt, .int mz, .ref yi, .ref yz, .ref yx, .ref yu, .int km, .int kr])), (yr, .inl (cI, 7, .inl G)), (yw, .inl (cI, 20, .inl v))] sz) := by
  refine Met.ofW (cc := cX6_walker) (maxL := 5) (ret := (some .int)) (by decide) rfl ?_
  intro p e s m args below meth c s₁ B hml hv
  obtain ⟨rfl, hsz, hP, hK, hD0, hN⟩ := hv
  have hx := B.exec
  have hb := B.bytes
  have hr := B.returns
  have hts := atoms_spec (ws := wsX6_walker) B.pre
  have hown : s.vm.findClass RX6 = some m.cls := findClass_of_methodNamed B.named
  have hlocks := B.notSynchronized
  subst hsz
  have hD := hD0.self (sz := s.heap.size)
  generalize hAe : va_A [(y, .inr (6, [.ref yr, .int mq, .int mn, .ref yw, .ref yc, .int mc, .ref yl, .int me, .ref ys, .ref yp, .ref ym, .int md, .ref yo, .ref yk, .ref yt, .int mz, .ref yi, .ref yz, .ref yx, .ref yu, .int km, .int kr])), (yr, .inl (cI, 7, .inl G)), (yw, .inl (cI, 20, .inl v))] s.heap.size = A at hD ⊢
  have hA : ∀ q : Nat, s.heap.size ≤ q → A q := fun q h => by rw [← hAe]; exact Or.inr h
  have hS : va_S A s.heap s.heap [] := va_S.rf
  have hP : va_P D vwCl [(y, .inr (6, [.ref yr, .int mq, .int mn, .ref yw, .ref yc, .int mc, .ref yl, .int me, .ref ys, .ref yp, .ref ym, .int md, .ref yo, .ref yk, .ref yt, .int mz, .ref yi, .ref yz, .ref yx, .ref yu, .int km, .int kr])), (yr, .inl (cI, 7, .inl G)), (yw, .inl (cI, 20, .inl v))] s.heap := hP
  have hl := lv_entry ([.ref y, .int x0, .int x1, .int x2, .int x3]) (n := 5) (Nat.le_of_ble_eq_true rfl)
  rw [lg_entry_eq]
  generalize (lg_sl ([.ref y, .int x0, .int x1, .int x2, .int x3]) ++ List.replicate (5 - (lg_sl ([.ref y, .int x0, .int x1, .int x2, .int x3])).length) Slot.unset).toArray = ls at hl ⊢
  have hl : lv_has ls 5 [(0, .ref y), (1, .int x0), (2, .int x1), (3, .int x2), (4, .int x3)] := hl
  refine lv_iload_n hx hb dX6_walker_0 rfl (lv_at hl 1 rfl) ?_
  refine lv_i2l hx hb dX6_walker_1 rfl ?_
  refine lv_lconst (v := 0) hx hb dX6_walker_2 (by decide) ?_
  refine lv_ldc2 (v := 5) hx hb hown (hts (.constantLong RX6 105 5) (by decide +kernel)) dX6_walker_3 ?_
  refine rdS (As := [.long x0.toInt64, .long 0, .long 5]) (rest := []) ⟨hx, hb, hml, hown, hts⟩ (c_X6_in l D cI cZ cR x0.toInt64 0 5 ) (va_cwS 3 hts gX6_walker_X6_in rfl rfl rfl (by decide +kernel) ⟨Nat.le_of_ble_eq_true rfl, Nat.le_of_ble_eq_true rfl⟩) hK hN hP [] rfl rfl hl.1 rfl (Nat.le_of_ble_eq_true rfl) dX6_walker_6 ⟨Nat.zero_le _, Nat.zero_le _⟩ ?_
  refine lv_if_ne (tgt := 19) hx hb dX6_walker_9 (by decide) (fun c_9 => ?_) (fun c_9 => ?_)
  · skip
    have c_9 := bi_ne0.mp c_9
    refine lv_iload_n hx hb dX6_walker_19 rfl (lv_at hl 2 rfl) ?_
    refine lv_if_lt (tgt := 32) hx hb dX6_walker_20 (by decide) (fun c_20 => ?_) (fun c_20 => ?_)
    · skip
      refine lv_aload_n hx hb dX6_walker_32 rfl (lv_at hl 0 rfl) ?_
      refine lv_bipush (v := (-4)) hx hb dX6_walker_33 (by decide) ?_
      refine wrVi (As := [.int (-4)]) (rest := []) (wr := [(yw, .inl (cI, 20, .inl v))]) (A := A) ⟨hx, hb, hml, hown, hts⟩ (c_X6_no l D cI cZ cR y yr yw yc yl ys yp ym yo yk yt yi yz yx yu mq mn mc me md mz km kr G (-4) (by decide) s.heap.size) (cwV 1 hts gX6_walker_X6_no rfl rfl rfl (by decide +kernel) ⟨Nat.le_of_ble_eq_true rfl, Nat.le_of_ble_eq_true rfl⟩) hK hN hP hD hS hA 0 6 rfl rfl rfl [0, 1] [2] rfl (by decide) rfl (by decide) (by decide) rfl hl.1 rfl (Nat.le_of_ble_eq_true rfl) dX6_walker_35 ⟨Nat.zero_le _, Nat.zero_le _⟩ (fun r_35 u H locs hw hP hD hS => ?_)
      obtain ⟨G_35, rfl⟩ : ∃ z, z = u := ⟨_, rfl⟩
      try dsimp only at hw
      obtain ⟨q1_35, q2_35⟩ := hw
      have q1_35 := q1_35.symm
      subst q1_35
      have q2_35 := q2_35.symm
      subst q2_35
      have hP : va_P D vwCl [(y, .inr (6, [.ref yr, .int mq, .int mn, .ref yw, .ref yc, .int mc, .ref yl, .int me, .ref ys, .ref yp, .ref ym, .int md, .ref yo, .ref yk, .ref yt, .int mz, .ref yi, .ref yz, .ref yx, .ref yu, .int km, .int kr])), (yr, .inl (cI, 7, .inl (md_bump G (-4)))), (yw, .inl (cI, 20, .inl v))] H := hP.sub [1, 2, 0] rfl
      have hD : va_D A [(y, .inr (6, [.ref yr, .int mq, .int mn, .ref yw, .ref yc, .int mc, .ref yl, .int me, .ref ys, .ref yp, .ref ym, .int md, .ref yo, .ref yk, .ref yt, .int mz, .ref yi, .ref yz, .ref yx, .ref yu, .int km, .int kr])), (yr, .inl (cI, 7, .inl (md_bump G (-4)))), (yw, .inl (cI, 20, .inl v))] := hD.sub [1, 2, 0] (by decide) rfl
      exact wrI (w1 := (fun (u : Int32 × Int32 × (Nat → Int32) × (Nat → Int32)) => [(y, .inr (6, [.ref yr, .int mq, .int u.1, .ref yw, .ref yc, .int u.2.1, .ref yl, .int me, .ref ys, .ref yp, .ref ym, .int md, .ref yo, .ref yk, .ref yt, .int mz, .ref yi, .ref yz, .ref yx, .ref yu, .int km, .int kr])), (yr, .inl (cI, 7, .inl u.2.2.1)), (yw, .inl (cI, 20, .inl u.2.2.2))])) (mn, mc, (md_bump G (-4)), v) hx hb hr hlocks dX6_walker_38 hS (hP.sub [0, 1, 2] rfl) (hD.sub [0, 1, 2] (by decide) rfl) (by have e9 : rf_wal mq mn x0 x1 x2 x3 = -4 := (by unfold rf_wal; rw [if_neg (fun z9 => z9 ((md_w5 x0).mp c_9)), if_pos c_20]); simp [e9])
    · skip
      refine lv_iload_n hx hb dX6_walker_23 rfl (lv_at hl 3 rfl) ?_
      refine lv_if_lt (tgt := 32) hx hb dX6_walker_24 (by decide) (fun c_24 => ?_) (fun c_24 => ?_)
      · skip
        refine lv_aload_n hx hb dX6_walker_32 rfl (lv_at hl 0 rfl) ?_
        refine lv_bipush (v := (-4)) hx hb dX6_walker_33 (by decide) ?_
        refine wrVi (As := [.int (-4)]) (rest := []) (wr := [(yw, .inl (cI, 20, .inl v))]) (A := A) ⟨hx, hb, hml, hown, hts⟩ (c_X6_no l D cI cZ cR y yr yw yc yl ys yp ym yo yk yt yi yz yx yu mq mn mc me md mz km kr G (-4) (by decide) s.heap.size) (cwV 1 hts gX6_walker_X6_no rfl rfl rfl (by decide +kernel) ⟨Nat.le_of_ble_eq_true rfl, Nat.le_of_ble_eq_true rfl⟩) hK hN hP hD hS hA 0 6 rfl rfl rfl [0, 1] [2] rfl (by decide) rfl (by decide) (by decide) rfl hl.1 rfl (Nat.le_of_ble_eq_true rfl) dX6_walker_35 ⟨Nat.zero_le _, Nat.zero_le _⟩ (fun r_35 u H locs hw hP hD hS => ?_)
        obtain ⟨G_35, rfl⟩ : ∃ z, z = u := ⟨_, rfl⟩
        try dsimp only at hw
        obtain ⟨q1_35, q2_35⟩ := hw
        have q1_35 := q1_35.symm
        subst q1_35
        have q2_35 := q2_35.symm
        subst q2_35
        have hP : va_P D vwCl [(y, .inr (6, [.ref yr, .int mq, .int mn, .ref yw, .ref yc, .int mc, .ref yl, .int me, .ref ys, .ref yp, .ref ym, .int md, .ref yo, .ref yk, .ref yt, .int mz, .ref yi, .ref yz, .ref yx, .ref yu, .int km, .int kr])), (yr, .inl (cI, 7, .inl (md_bump G (-4)))), (yw, .inl (cI, 20, .inl v))] H := hP.sub [1, 2, 0] rfl
        have hD : va_D A [(y, .inr (6, [.ref yr, .int mq, .int mn, .ref yw, .ref yc, .int mc, .ref yl, .int me, .ref ys, .ref yp, .ref ym, .int md, .ref yo, .ref yk, .ref yt, .int mz, .ref yi, .ref yz, .ref yx, .ref yu, .int km, .int kr])), (yr, .inl (cI, 7, .inl (md_bump G (-4)))), (yw, .inl (cI, 20, .inl v))] := hD.sub [1, 2, 0] (by decide) rfl
        exact wrI (w1 := (fun (u : Int32 × Int32 × (Nat → Int32) × (Nat → Int32)) => [(y, .inr (6, [.ref yr, .int mq, .int u.1, .ref yw, .ref yc, .int u.2.1, .ref yl, .int me, .ref ys, .ref yp, .ref ym, .int md, .ref yo, .ref yk, .ref yt, .int mz, .ref yi, .ref yz, .ref yx, .ref yu, .int km, .int kr])), (yr, .inl (cI, 7, .inl u.2.2.1)), (yw, .inl (cI, 20, .inl u.2.2.2))])) (mn, mc, (md_bump G (-4)), v) hx hb hr hlocks dX6_walker_38 hS (hP.sub [0, 1, 2] rfl) (hD.sub [0, 1, 2] (by decide) rfl) (by have e9 : rf_wal mq mn x0 x1 x2 x3 = -4 := (by unfold rf_wal; rw [if_neg (fun z9 => z9 ((md_w5 x0).mp c_9)), if_neg c_20, if_pos c_24]); simp [e9])
      · skip
        refine lv_iload hx hb dX6_walker_27 (lv_at hl 4 rfl) ?_
        refine lv_if_ge (tgt := 39) hx hb dX6_walker_29 (by decide) (fun c_29 => ?_) (fun c_29 => ?_)
        · skip
          refine lv_iload_n hx hb dX6_walker_39 rfl (lv_at hl 2 rfl) ?_
          refine lv_aload_n hx hb dX6_walker_40 rfl (lv_at hl 0 rfl) ?_
          refine va_get (D := D) (ci := 6) (v := .int mq) (C := RX6) (T := TX6) (N := 22) hx hb hts (in_X6_walker_X6) hown hK hP 0 rfl rfl 1 (by decide) (hts (.fieldLink RX6 13 "StepsRoundCircleModel" "round" "I") (by decide +kernel)) (fun _ h9 => h9) rfl dX6_walker_41 ?_
          refine lv_icmp_ge (tgt := 70) hx hb dX6_walker_44 (by decide) (fun c_44 => ?_) (fun c_44 => ?_)
          · skip
            refine lv_aload_n hx hb dX6_walker_70 rfl (lv_at hl 0 rfl) ?_
            refine lv_bipush (v := (-6)) hx hb dX6_walker_71 (by decide) ?_
            refine wrVi (As := [.int (-6)]) (rest := []) (wr := [(yw, .inl (cI, 20, .inl v))]) (A := A) ⟨hx, hb, hml, hown, hts⟩ (c_X6_no l D cI cZ cR y yr yw yc yl ys yp ym yo yk yt yi yz yx yu mq mn mc me md mz km kr G (-6) (by decide) s.heap.size) (cwV 1 hts gX6_walker_X6_no rfl rfl rfl (by decide +kernel) ⟨Nat.le_of_ble_eq_true rfl, Nat.le_of_ble_eq_true rfl⟩) hK hN hP hD hS hA 0 6 rfl rfl rfl [0, 1] [2] rfl (by decide) rfl (by decide) (by decide) rfl hl.1 rfl (Nat.le_of_ble_eq_true rfl) dX6_walker_73 ⟨Nat.zero_le _, Nat.zero_le _⟩ (fun r_73 u H locs hw hP hD hS => ?_)
            obtain ⟨G_73, rfl⟩ : ∃ z, z = u := ⟨_, rfl⟩
            try dsimp only at hw
            obtain ⟨q1_73, q2_73⟩ := hw
            have q1_73 := q1_73.symm
            subst q1_73
            have q2_73 := q2_73.symm
            subst q2_73
            have hP : va_P D vwCl [(y, .inr (6, [.ref yr, .int mq, .int mn, .ref yw, .ref yc, .int mc, .ref yl, .int me, .ref ys, .ref yp, .ref ym, .int md, .ref yo, .ref yk, .ref yt, .int mz, .ref yi, .ref yz, .ref yx, .ref yu, .int km, .int kr])), (yr, .inl (cI, 7, .inl (md_bump G (-6)))), (yw, .inl (cI, 20, .inl v))] H := hP.sub [1, 2, 0] rfl
            have hD : va_D A [(y, .inr (6, [.ref yr, .int mq, .int mn, .ref yw, .ref yc, .int mc, .ref yl, .int me, .ref ys, .ref yp, .ref ym, .int md, .ref yo, .ref yk, .ref yt, .int mz, .ref yi, .ref yz, .ref yx, .ref yu, .int km, .int kr])), (yr, .inl (cI, 7, .inl (md_bump G (-6)))), (yw, .inl (cI, 20, .inl v))] := hD.sub [1, 2, 0] (by decide) rfl
            exact wrI (w1 := (fun (u : Int32 × Int32 × (Nat → Int32) × (Nat → Int32)) => [(y, .inr (6, [.ref yr, .int mq, .int u.1, .ref yw, .ref yc, .int u.2.1, .ref yl, .int me, .ref ys, .ref yp, .ref ym, .int md, .ref yo, .ref yk, .ref yt, .int mz, .ref yi, .ref yz, .ref yx, .ref yu, .int km, .int kr])), (yr, .inl (cI, 7, .inl u.2.2.1)), (yw, .inl (cI, 20, .inl u.2.2.2))])) (mn, mc, (md_bump G (-6)), v) hx hb hr hlocks dX6_walker_76 hS (hP.sub [0, 1, 2] rfl) (hD.sub [0, 1, 2] (by decide) rfl) (by have e9 : rf_wal mq mn x0 x1 x2 x3 = -6 := (by unfold rf_wal; rw [if_neg (fun z9 => z9 ((md_w5 x0).mp c_9)), if_neg c_20, if_neg c_24, if_neg (Int32.not_lt.mpr c_29), if_neg (fun z9 => absurd ((room_iff hq ⟨hmn, hm5⟩ ((md_w5 x0).mp c_9) (Int32.not_lt.mp c_20) (Int32.not_lt.mp c_24)).mp z9).1 (Int32.not_lt.mpr c_44))]); simp [e9])
          · skip
            refine lv_iload_n hx hb dX6_walker_47 rfl (lv_at hl 3 rfl) ?_
            refine lv_aload_n hx hb dX6_walker_48 rfl (lv_at hl 0 rfl) ?_
            refine va_get (D := D) (ci := 6) (v := .int mq) (C := RX6) (T := TX6) (N := 22) hx hb hts (in_X6_walker_X6) hown hK hP 0 rfl rfl 1 (by decide) (hts (.fieldLink RX6 13 "StepsRoundCircleModel" "round" "I") (by decide +kernel)) (fun _ h9 => h9) rfl dX6_walker_49 ?_
            refine lv_icmp_ge (tgt := 70) hx hb dX6_walker_52 (by decide) (fun c_52 => ?_) (fun c_52 => ?_)
            · skip
              refine lv_aload_n hx hb dX6_walker_70 rfl (lv_at hl 0 rfl) ?_
              refine lv_bipush (v := (-6)) hx hb dX6_walker_71 (by decide) ?_
              refine wrVi (As := [.int (-6)]) (rest := []) (wr := [(yw, .inl (cI, 20, .inl v))]) (A := A) ⟨hx, hb, hml, hown, hts⟩ (c_X6_no l D cI cZ cR y yr yw yc yl ys yp ym yo yk yt yi yz yx yu mq mn mc me md mz km kr G (-6) (by decide) s.heap.size) (cwV 1 hts gX6_walker_X6_no rfl rfl rfl (by decide +kernel) ⟨Nat.le_of_ble_eq_true rfl, Nat.le_of_ble_eq_true rfl⟩) hK hN hP hD hS hA 0 6 rfl rfl rfl [0, 1] [2] rfl (by decide) rfl (by decide) (by decide) rfl hl.1 rfl (Nat.le_of_ble_eq_true rfl) dX6_walker_73 ⟨Nat.zero_le _, Nat.zero_le _⟩ (fun r_73 u H locs hw hP hD hS => ?_)
              obtain ⟨G_73, rfl⟩ : ∃ z, z = u := ⟨_, rfl⟩
              try dsimp only at hw
              obtain ⟨q1_73, q2_73⟩ := hw
              have q1_73 := q1_73.symm
              subst q1_73
              have q2_73 := q2_73.symm
              subst q2_73
              have hP : va_P D vwCl [(y, .inr (6, [.ref yr, .int mq, .int mn, .ref yw, .ref yc, .int mc, .ref yl, .int me, .ref ys, .ref yp, .ref ym, .int md, .ref yo, .ref yk, .ref yt, .int mz, .ref yi, .ref yz, .ref yx, .ref yu, .int km, .int kr])), (yr, .inl (cI, 7, .inl (md_bump G (-6)))), (yw, .inl (cI, 20, .inl v))] H := hP.sub [1, 2, 0] rfl
              have hD : va_D A [(y, .inr (6, [.ref yr, .int mq, .int mn, .ref yw, .ref yc, .int mc, .ref yl, .int me, .ref ys, .ref yp, .ref ym, .int md, .ref yo, .ref yk, .ref yt, .int mz, .ref yi, .ref yz, .ref yx, .ref yu, .int km, .int kr])), (yr, .inl (cI, 7, .inl (md_bump G (-6)))), (yw, .inl (cI, 20, .inl v))] := hD.sub [1, 2, 0] (by decide) rfl
              exact wrI (w1 := (fun (u : Int32 × Int32 × (Nat → Int32) × (Nat → Int32)) => [(y, .inr (6, [.ref yr, .int mq, .int u.1, .ref yw, .ref yc, .int u.2.1, .ref yl, .int me, .ref ys, .ref yp, .ref ym, .int md, .ref yo, .ref yk, .ref yt, .int mz, .ref yi, .ref yz, .ref yx, .ref yu, .int km, .int kr])), (yr, .inl (cI, 7, .inl u.2.2.1)), (yw, .inl (cI, 20, .inl u.2.2.2))])) (mn, mc, (md_bump G (-6)), v) hx hb hr hlocks dX6_walker_76 hS (hP.sub [0, 1, 2] rfl) (hD.sub [0, 1, 2] (by decide) rfl) (by have e9 : rf_wal mq mn x0 x1 x2 x3 = -6 := (by unfold rf_wal; rw [if_neg (fun z9 => z9 ((md_w5 x0).mp c_9)), if_neg c_20, if_neg c_24, if_neg (Int32.not_lt.mpr c_29), if_neg (fun z9 => absurd ((room_iff hq ⟨hmn, hm5⟩ ((md_w5 x0).mp c_9) (Int32.not_lt.mp c_20) (Int32.not_lt.mp c_24)).mp z9).2.1 (Int32.not_lt.mpr c_52))]); simp [e9])
            · skip
              refine lv_iload hx hb dX6_walker_55 (lv_at hl 4 rfl) ?_
              refine lv_bipush (v := 9) hx hb dX6_walker_57 (by decide) ?_
              refine lv_icmp_gt (tgt := 70) hx hb dX6_walker_59 (by decide) (fun c_59 => ?_) (fun c_59 => ?_)
              · skip
                refine lv_aload_n hx hb dX6_walker_70 rfl (lv_at hl 0 rfl) ?_
                refine lv_bipush (v := (-6)) hx hb dX6_walker_71 (by decide) ?_
                refine wrVi (As := [.int (-6)]) (rest := []) (wr := [(yw, .inl (cI, 20, .inl v))]) (A := A) ⟨hx, hb, hml, hown, hts⟩ (c_X6_no l D cI cZ cR y yr yw yc yl ys yp ym yo yk yt yi yz yx yu mq mn mc me md mz km kr G (-6) (by decide) s.heap.size) (cwV 1 hts gX6_walker_X6_no rfl rfl rfl (by decide +kernel) ⟨Nat.le_of_ble_eq_true rfl, Nat.le_of_ble_eq_true rfl⟩) hK hN hP hD hS hA 0 6 rfl rfl rfl [0, 1] [2] rfl (by decide) rfl (by decide) (by decide) rfl hl.1 rfl (Nat.le_of_ble_eq_true rfl) dX6_walker_73 ⟨Nat.zero_le _, Nat.zero_le _⟩ (fun r_73 u H locs hw hP hD hS => ?_)
                obtain ⟨G_73, rfl⟩ : ∃ z, z = u := ⟨_, rfl⟩
                try dsimp only at hw
                obtain ⟨q1_73, q2_73⟩ := hw
                have q1_73 := q1_73.symm
                subst q1_73
                have q2_73 := q2_73.symm
                subst q2_73
                have hP : va_P D vwCl [(y, .inr (6, [.ref yr, .int mq, .int mn, .ref yw, .ref yc, .int mc, .ref yl, .int me, .ref ys, .ref yp, .ref ym, .int md, .ref yo, .ref yk, .ref yt, .int mz, .ref yi, .ref yz, .ref yx, .ref yu, .int km, .int kr])), (yr, .inl (cI, 7, .inl (md_bump G (-6)))), (yw, .inl (cI, 20, .inl v))] H := hP.sub [1, 2, 0] rfl
                have hD : va_D A [(y, .inr (6, [.ref yr, .int mq, .int mn, .ref yw, .ref yc, .int mc, .ref yl, .int me, .ref ys, .ref yp, .ref ym, .int md, .ref yo, .ref yk, .ref yt, .int mz, .ref yi, .ref yz, .ref yx, .ref yu, .int km, .int kr])), (yr, .inl (cI, 7, .inl (md_bump G (-6)))), (yw, .inl (cI, 20, .inl v))] := hD.sub [1, 2, 0] (by decide) rfl
                exact wrI (w1 := (fun (u : Int32 × Int32 × (Nat → Int32) × (Nat → Int32)) => [(y, .inr (6, [.ref yr, .int mq, .int u.1, .ref yw, .ref yc, .int u.2.1, .ref yl, .int me, .ref ys, .ref yp, .ref ym, .int md, .ref yo, .ref yk, .ref yt, .int mz, .ref yi, .ref yz, .ref yx, .ref yu, .int km, .int kr])), (yr, .inl (cI, 7, .inl u.2.2.1)), (yw, .inl (cI, 20, .inl u.2.2.2))])) (mn, mc, (md_bump G (-6)), v) hx hb hr hlocks dX6_walker_76 hS (hP.sub [0, 1, 2] rfl) (hD.sub [0, 1, 2] (by decide) rfl) (by have e9 : rf_wal mq mn x0 x1 x2 x3 = -6 := (by unfold rf_wal; rw [if_neg (fun z9 => z9 ((md_w5 x0).mp c_9)), if_neg c_20, if_neg c_24, if_neg (Int32.not_lt.mpr c_29), if_neg (fun z9 => absurd ((room_iff hq ⟨hmn, hm5⟩ ((md_w5 x0).mp c_9) (Int32.not_lt.mp c_20) (Int32.not_lt.mp c_24)).mp z9).2.2.1 (Int32.not_le.mpr c_59))]); simp [e9])
              · skip
                refine lv_aload_n hx hb dX6_walker_62 rfl (lv_at hl 0 rfl) ?_
                refine va_get (D := D) (ci := 6) (v := .int mn) (C := RX6) (T := TX6) (N := 22) hx hb hts (in_X6_walker_X6) hown hK hP 0 rfl rfl 2 (by decide) (hts (.fieldLink RX6 70 "StepsRoundCircleModel" "many" "I") (by decide +kernel)) (fun _ h9 => h9) rfl dX6_walker_63 ?_
                refine lv_iconst (v := 5) hx hb dX6_walker_66 (by decide) ?_
                refine lv_icmp_ne (tgt := 77) hx hb dX6_walker_67 (by decide) (fun c_67 => ?_) (fun c_67 => ?_)
                · skip
                  refine lv_aload_n hx hb dX6_walker_77 rfl (lv_at hl 0 rfl) ?_
                  refine lv_iload_n hx hb dX6_walker_78 rfl (lv_at hl 1 rfl) ?_
                  refine lv_iload_n hx hb dX6_walker_79 rfl (lv_at hl 2 rfl) ?_
                  refine lv_iload_n hx hb dX6_walker_80 rfl (lv_at hl 3 rfl) ?_
                  refine lv_iload hx hb dX6_walker_81 (lv_at hl 4 rfl) ?_
                  refine wrVv (As := [.int x0, .int x1, .int x2, .int x3]) (rest := []) (wr := [(yr, .inl (cI, 7, .inl G))]) (A := A) ⟨hx, hb, hml, hown, hts⟩ (c_X6_comes l D cI cZ cR y yr yw yc yl ys yp ym yo yk yt yi yz yx yu mq mn mc me md mz km kr v x0 x1 x2 x3 (⟨hmn, fa_le_ne hm5 c_67⟩) s.heap.size) (cwV 4 hts gX6_walker_X6_comes rfl rfl rfl (by decide +kernel) ⟨Nat.le_of_ble_eq_true rfl, Nat.le_of_ble_eq_true rfl⟩) hK hN hP hD hS hA 0 6 rfl rfl rfl [0, 2] [1] rfl (by decide) rfl (by decide) (by decide) rfl hl.1 rfl (Nat.le_of_ble_eq_true rfl) dX6_walker_83 ⟨Nat.zero_le _, Nat.zero_le _⟩ (fun u H locs hw hP hD hS => ?_)
                  obtain ⟨mn_83, v_83⟩ := u
                  try dsimp only at hw
                  obtain ⟨q1_83, q2_83⟩ := hw
                  have q1_83 := q1_83.symm
                  subst q1_83
                  have q2_83 := q2_83.symm
                  subst q2_83
                  have hP : va_P D vwCl [(y, .inr (6, [.ref yr, .int mq, .int (mn + 1), .ref yw, .ref yc, .int mc, .ref yl, .int me, .ref ys, .ref yp, .ref ym, .int md, .ref yo, .ref yk, .ref yt, .int mz, .ref yi, .ref yz, .ref yx, .ref yu, .int km, .int kr])), (yr, .inl (cI, 7, .inl G)), (yw, .inl (cI, 20, .inl (wadd v mn x0 x1 x2 x3)))] H := hP.sub [1, 0, 2] rfl
                  have hD : va_D A [(y, .inr (6, [.ref yr, .int mq, .int (mn + 1), .ref yw, .ref yc, .int mc, .ref yl, .int me, .ref ys, .ref yp, .ref ym, .int md, .ref yo, .ref yk, .ref yt, .int mz, .ref yi, .ref yz, .ref yx, .ref yu, .int km, .int kr])), (yr, .inl (cI, 7, .inl G)), (yw, .inl (cI, 20, .inl (wadd v mn x0 x1 x2 x3)))] := hD.sub [1, 0, 2] (by decide) rfl
                  refine lv_aload_n hx hb dX6_walker_86 rfl (lv_at hl 0 rfl) ?_
                  refine lv_iconst (v := 0) hx hb dX6_walker_87 (by decide) ?_
                  refine va_put (D := D) (ci := 6) (v := .int 0) (ty := .int) (C := RX6) (T := TX6) (N := 22) hx hb hts (in_X6_walker_X6) tyX6 tyX6_ok nmX6 hown hK hP hD hS 0 rfl rfl 5 (by decide) (hts (.fieldLink RX6 102 "StepsRoundCircleModel" "changes" "I") (by decide +kernel)) (fun _ h9 => h9) rfl (by decide +kernel) rfl rfl (Nat.le_of_ble_eq_true rfl) dX6_walker_88 (fun H locs hP hD hS => ?_)
                  have hP : va_P D vwCl [(y, .inr (6, [.ref yr, .int mq, .int (mn + 1), .ref yw, .ref yc, .int 0, .ref yl, .int me, .ref ys, .ref yp, .ref ym, .int md, .ref yo, .ref yk, .ref yt, .int mz, .ref yi, .ref yz, .ref yx, .ref yu, .int km, .int kr])), (yr, .inl (cI, 7, .inl G)), (yw, .inl (cI, 20, .inl (wadd v mn x0 x1 x2 x3)))] H := hP
                  have hD : va_D A [(y, .inr (6, [.ref yr, .int mq, .int (mn + 1), .ref yw, .ref yc, .int 0, .ref yl, .int me, .ref ys, .ref yp, .ref ym, .int md, .ref yo, .ref yk, .ref yt, .int mz, .ref yi, .ref yz, .ref yx, .ref yu, .int km, .int kr])), (yr, .inl (cI, 7, .inl G)), (yw, .inl (cI, 20, .inl (wadd v mn x0 x1 x2 x3)))] := hD
                  refine lv_aload_n hx hb dX6_walker_91 rfl (lv_at hl 0 rfl) ?_
                  refine va_get (D := D) (ci := 6) (v := .int (mn + 1)) (C := RX6) (T := TX6) (N := 22) hx hb hts (in_X6_walker_X6) hown hK hP 0 rfl rfl 2 (by decide) (hts (.fieldLink RX6 70 "StepsRoundCircleModel" "many" "I") (by decide +kernel)) (fun _ h9 => h9) rfl dX6_walker_92 ?_
                  refine lv_iconst (v := 1) hx hb dX6_walker_95 (by decide) ?_
                  refine lv_isub hx hb dX6_walker_96 ?_
                  exact wrI (w1 := (fun (u : Int32 × Int32 × (Nat → Int32) × (Nat → Int32)) => [(y, .inr (6, [.ref yr, .int mq, .int u.1, .ref yw, .ref yc, .int u.2.1, .ref yl, .int me, .ref ys, .ref yp, .ref ym, .int md, .ref yo, .ref yk, .ref yt, .int mz, .ref yi, .ref yz, .ref yx, .ref yu, .int km, .int kr])), (yr, .inl (cI, 7, .inl u.2.2.1)), (yw, .inl (cI, 20, .inl u.2.2.2))])) ((mn + 1), 0, G, (wadd v mn x0 x1 x2 x3)) hx hb hr hlocks dX6_walker_97 hS (hP.sub [0, 1, 2] rfl) (hD.sub [0, 1, 2] (by decide) rfl) (by have e9 : rf_wal mq mn x0 x1 x2 x3 = 0 := (by unfold rf_wal; rw [if_neg (fun z9 => z9 ((md_w5 x0).mp c_9)), if_neg c_20, if_neg c_24, if_neg (Int32.not_lt.mpr c_29), if_pos ((room_iff hq ⟨hmn, hm5⟩ ((md_w5 x0).mp c_9) (Int32.not_lt.mp c_20) (Int32.not_lt.mp c_24)).mpr ⟨Int32.not_le.mp c_44, Int32.not_le.mp c_52, Int32.not_lt.mp c_59, c_67⟩)]); simp [e9])
                · skip
                  refine lv_aload_n hx hb dX6_walker_70 rfl (lv_at hl 0 rfl) ?_
                  refine lv_bipush (v := (-6)) hx hb dX6_walker_71 (by decide) ?_
                  refine wrVi (As := [.int (-6)]) (rest := []) (wr := [(yw, .inl (cI, 20, .inl v))]) (A := A) ⟨hx, hb, hml, hown, hts⟩ (c_X6_no l D cI cZ cR y yr yw yc yl ys yp ym yo yk yt yi yz yx yu mq mn mc me md mz km kr G (-6) (by decide) s.heap.size) (cwV 1 hts gX6_walker_X6_no rfl rfl rfl (by decide +kernel) ⟨Nat.le_of_ble_eq_true rfl, Nat.le_of_ble_eq_true rfl⟩) hK hN hP hD hS hA 0 6 rfl rfl rfl [0, 1] [2] rfl (by decide) rfl (by decide) (by decide) rfl hl.1 rfl (Nat.le_of_ble_eq_true rfl) dX6_walker_73 ⟨Nat.zero_le _, Nat.zero_le _⟩ (fun r_73 u H locs hw hP hD hS => ?_)
                  obtain ⟨G_73, rfl⟩ : ∃ z, z = u := ⟨_, rfl⟩
                  try dsimp only at hw
                  obtain ⟨q1_73, q2_73⟩ := hw
                  have q1_73 := q1_73.symm
                  subst q1_73
                  have q2_73 := q2_73.symm
                  subst q2_73
                  have hP : va_P D vwCl [(y, .inr (6, [.ref yr, .int mq, .int mn, .ref yw, .ref yc, .int mc, .ref yl, .int me, .ref ys, .ref yp, .ref ym, .int md, .ref yo, .ref yk, .ref yt, .int mz, .ref yi, .ref yz, .ref yx, .ref yu, .int km, .int kr])), (yr, .inl (cI, 7, .inl (md_bump G (-6)))), (yw, .inl (cI, 20, .inl v))] H := hP.sub [1, 2, 0] rfl
                  have hD : va_D A [(y, .inr (6, [.ref yr, .int mq, .int mn, .ref yw, .ref yc, .int mc, .ref yl, .int me, .ref ys, .ref yp, .ref ym, .int md, .ref yo, .ref yk, .ref yt, .int mz, .ref yi, .ref yz, .ref yx, .ref yu, .int km, .int kr])), (yr, .inl (cI, 7, .inl (md_bump G (-6)))), (yw, .inl (cI, 20, .inl v))] := hD.sub [1, 2, 0] (by decide) rfl
                  exact wrI (w1 := (fun (u : Int32 × Int32 × (Nat → Int32) × (Nat → Int32)) => [(y, .inr (6, [.ref yr, .int mq, .int u.1, .ref yw, .ref yc, .int u.2.1, .ref yl, .int me, .ref ys, .ref yp, .ref ym, .int md, .ref yo, .ref yk, .ref yt, .int mz, .ref yi, .ref yz, .ref yx, .ref yu, .int km, .int kr])), (yr, .inl (cI, 7, .inl u.2.2.1)), (yw, .inl (cI, 20, .inl u.2.2.2))])) (mn, mc, (md_bump G (-6)), v) hx hb hr hlocks dX6_walker_76 hS (hP.sub [0, 1, 2] rfl) (hD.sub [0, 1, 2] (by decide) rfl) (by have e9 : rf_wal mq mn x0 x1 x2 x3 = -6 := (by unfold rf_wal; rw [if_neg (fun z9 => z9 ((md_w5 x0).mp c_9)), if_neg c_20, if_neg c_24, if_neg (Int32.not_lt.mpr c_29), if_neg (fun z9 => ((room_iff hq ⟨hmn, hm5⟩ ((md_w5 x0).mp c_9) (Int32.not_lt.mp c_20) (Int32.not_lt.mp c_24)).mp z9).2.2.2 c_67)]); simp [e9])
        · skip
          refine lv_aload_n hx hb dX6_walker_32 rfl (lv_at hl 0 rfl) ?_
          refine lv_bipush (v := (-4)) hx hb dX6_walker_33 (by decide) ?_
          refine wrVi (As := [.int (-4)]) (rest := []) (wr := [(yw, .inl (cI, 20, .inl v))]) (A := A) ⟨hx, hb, hml, hown, hts⟩ (c_X6_no l D cI cZ cR y yr yw yc yl ys yp ym yo yk yt yi yz yx yu mq mn mc me md mz km kr G (-4) (by decide) s.heap.size) (cwV 1 hts gX6_walker_X6_no rfl rfl rfl (by decide +kernel) ⟨Nat.le_of_ble_eq_true rfl, Nat.le_of_ble_eq_true rfl⟩) hK hN hP hD hS hA 0 6 rfl rfl rfl [0, 1] [2] rfl (by decide) rfl (by decide) (by decide) rfl hl.1 rfl (Nat.le_of_ble_eq_true rfl) dX6_walker_35 ⟨Nat.zero_le _, Nat.zero_le _⟩ (fun r_35 u H locs hw hP hD hS => ?_)
          obtain ⟨G_35, rfl⟩ : ∃ z, z = u := ⟨_, rfl⟩
          try dsimp only at hw
          obtain ⟨q1_35, q2_35⟩ := hw
          have q1_35 := q1_35.symm
          subst q1_35
          have q2_35 := q2_35.symm
          subst q2_35
          have hP : va_P D vwCl [(y, .inr (6, [.ref yr, .int mq, .int mn, .ref yw, .ref yc, .int mc, .ref yl, .int me, .ref ys, .ref yp, .ref ym, .int md, .ref yo, .ref yk, .ref yt, .int mz, .ref yi, .ref yz, .ref yx, .ref yu, .int km, .int kr])), (yr, .inl (cI, 7, .inl (md_bump G (-4)))), (yw, .inl (cI, 20, .inl v))] H := hP.sub [1, 2, 0] rfl
          have hD : va_D A [(y, .inr (6, [.ref yr, .int mq, .int mn, .ref yw, .ref yc, .int mc, .ref yl, .int me, .ref ys, .ref yp, .ref ym, .int md, .ref yo, .ref yk, .ref yt, .int mz, .ref yi, .ref yz, .ref yx, .ref yu, .int km, .int kr])), (yr, .inl (cI, 7, .inl (md_bump G (-4)))), (yw, .inl (cI, 20, .inl v))] := hD.sub [1, 2, 0] (by decide) rfl
          exact wrI (w1 := (fun (u : Int32 × Int32 × (Nat → Int32) × (Nat → Int32)) => [(y, .inr (6, [.ref yr, .int mq, .int u.1, .ref yw, .ref yc, .int u.2.1, .ref yl, .int me, .ref ys, .ref yp, .ref ym, .int md, .ref yo, .ref yk, .ref yt, .int mz, .ref yi, .ref yz, .ref yx, .ref yu, .int km, .int kr])), (yr, .inl (cI, 7, .inl u.2.2.1)), (yw, .inl (cI, 20, .inl u.2.2.2))])) (mn, mc, (md_bump G (-4)), v) hx hb hr hlocks dX6_walker_38 hS (hP.sub [0, 1, 2] rfl) (hD.sub [0, 1, 2] (by decide) rfl) (by have e9 : rf_wal mq mn x0 x1 x2 x3 = -4 := (by unfold rf_wal; rw [if_neg (fun z9 => z9 ((md_w5 x0).mp c_9)), if_neg c_20, if_neg c_24, if_pos (Int32.not_le.mp c_29)]); simp [e9])
  · skip
    have c_9 := bi_eq0.mp c_9
    refine lv_aload_n hx hb dX6_walker_12 rfl (lv_at hl 0 rfl) ?_
    refine lv_bipush (v := (-2)) hx hb dX6_walker_13 (by decide) ?_
    refine wrVi (As := [.int (-2)]) (rest := []) (wr := [(yw, .inl (cI, 20, .inl v))]) (A := A) ⟨hx, hb, hml, hown, hts⟩ (c_X6_no l D cI cZ cR y yr yw yc yl ys yp ym yo yk yt yi yz yx yu mq mn mc me md mz km kr G (-2) (by decide) s.heap.size) (cwV 1 hts gX6_walker_X6_no rfl rfl rfl (by decide +kernel) ⟨Nat.le_of_ble_eq_true rfl, Nat.le_of_ble_eq_true rfl⟩) hK hN hP hD hS hA 0 6 rfl rfl rfl [0, 1] [2] rfl (by decide) rfl (by decide) (by decide) rfl hl.1 rfl (Nat.le_of_ble_eq_true rfl) dX6_walker_15 ⟨Nat.zero_le _, Nat.zero_le _⟩ (fun r_15 u H locs hw hP hD hS => ?_)
    obtain ⟨G_15, rfl⟩ : ∃ z, z = u := ⟨_, rfl⟩
    try dsimp only at hw
    obtain ⟨q1_15, q2_15⟩ := hw
    have q1_15 := q1_15.symm
    subst q1_15
    have q2_15 := q2_15.symm
    subst q2_15
    have hP : va_P D vwCl [(y, .inr (6, [.ref yr, .int mq, .int mn, .ref yw, .ref yc, .int mc, .ref yl, .int me, .ref ys, .ref yp, .ref ym, .int md, .ref yo, .ref yk, .ref yt, .int mz, .ref yi, .ref yz, .ref yx, .ref yu, .int km, .int kr])), (yr, .inl (cI, 7, .inl (md_bump G (-2)))), (yw, .inl (cI, 20, .inl v))] H := hP.sub [1, 2, 0] rfl
    have hD : va_D A [(y, .inr (6, [.ref yr, .int mq, .int mn, .ref yw, .ref yc, .int mc, .ref yl, .int me, .ref ys, .ref yp, .ref ym, .int md, .ref yo, .ref yk, .ref yt, .int mz, .ref yi, .ref yz, .ref yx, .ref yu, .int km, .int kr])), (yr, .inl (cI, 7, .inl (md_bump G (-2)))), (yw, .inl (cI, 20, .inl v))] := hD.sub [1, 2, 0] (by decide) rfl
    exact wrI (w1 := (fun (u : Int32 × Int32 × (Nat → Int32) × (Nat → Int32)) => [(y, .inr (6, [.ref yr, .int mq, .int u.1, .ref yw, .ref yc, .int u.2.1, .ref yl, .int me, .ref ys, .ref yp, .ref ym, .int md, .ref yo, .ref yk, .ref yt, .int mz, .ref yi, .ref yz, .ref yx, .ref yu, .int km, .int kr])), (yr, .inl (cI, 7, .inl u.2.2.1)), (yw, .inl (cI, 20, .inl u.2.2.2))])) (mn, mc, (md_bump G (-2)), v) hx hb hr hlocks dX6_walker_18 hS (hP.sub [0, 1, 2] rfl) (hD.sub [0, 1, 2] (by decide) rfl) (by have e9 : rf_wal mq mn x0 x1 x2 x3 = -2 := (by unfold rf_wal; rw [if_pos (mt (md_w5 x0).mpr c_9)]); simp [e9])

set_option maxHeartbeats 4000000 in
set_option maxRecDepth 100000 in
theorem c_X6_split (l : Launch) (D : va_G) (cI cZ cR : ClassId) (y yr yw yc yl ys yp ym yo yk yt yi yz yx yu : Nat) (mq mn mc me md mz km kr : Int32) (G : Nat → Int32) (v P Mf : Nat → Int32) (w n k : Int32) (hq : okQ mq) (hmn : 0 ≤ mn) (hm5 : mn ≤ 5) (hws : ∀ w, 0 ≤ w ∧ w < mn → okW mq v w) (sz : Nat) : Met l yX6_split wsX6_split ({ frames := 4, cells := 0, slots := 0, locals := 99 }) (PcW D cI cZ cR [.ref y, .int w, .int n, .int k] [(y, .inr (6, [.ref yr, .int mq, .int mn, .ref yw, .ref yc, .int mc, .ref yl, .int me, .ref ys, .ref yp, .ref ym, .int md, .ref yo, .ref yk, .ref yt, .int mz, .ref yi, .ref yz, .ref yx, .ref yu, .int km, .int kr])), (yr, .inl (cI, 7, .inl G)), (yw, .inl (cI, 20, .inl v)), (yp, .inl (cI, 200, .inl P)), (ym, .inl (cI, 200, .inl Mf))] sz) (va_Qi (fun (res : Int32) (u : (Nat → Int32) × Int32 × (Nat → Int32) × (Nat → Int32)) => res = (if rf_beh mn w n k 2 = 0 then splA mq (mk (plK mq v w) n.toNatClampNeg) (rg_pb mq v (rg_val v w 0) w n.toInt64) k else rf_beh mn w n k 2) ∧ u.1 = (if rf_beh mn w n k 2 = 0 then G else md_bump G (rf_beh mn w n k 2))) (Bw D (fun (u : (Nat → Int32) × Int32 × (Nat → Int32) × (Nat → Int32)) => [(y, .inr (6, [.ref yr, .int mq, .int mn, .ref yw, .ref yc, .int mc, .ref yl, .int me, .ref ys, .ref yp, .ref ym, .int u.2.1, .ref yo, .ref yk, .ref yt, .int mz, .ref yi, .ref yz, .ref yx, .ref yu, .int km, .int kr])), (yr, .inl (cI, 7, .inl u.1)), (yw, .inl (cI, 20, .inl v)), (yp, .inl (cI, 200, .inl u.2.2.1)), (ym, .inl (cI, 200, .inl u.2.2.2))]) (va_A [(y, .inr (6, [.ref yr, .int mq, .int mn, .ref yw, .ref yc, .int mc, .ref yl, .int me, .ref ys, .ref yp, .ref ym, .int md, .ref yo, .ref yk, .ref yt, .int mz, .ref yi, .ref yz, .ref yx, .ref yu, .int km, .int kr])), (yr, .inl (cI, 7, .inl G)), (yw, .inl (cI, 20, .inl v)), (yp, .inl (cI, 200, .inl P)), (ym, .inl (cI, 200, .inl Mf))] sz)) (va_A [(y, .inr (6, [.ref yr, .int mq, .int mn, .ref yw, .ref yc, .int mc, .ref yl, .int me, .ref ys, .ref yp, .ref ym, .int md, .ref yo, .ref yk, .ref yt, .int mz, .ref yi, .ref yz, .ref yx, .ref yu, .int km, .int kr])), (yr, .inl (cI, 7, .inl G)), (yw, .inl (cI, 20, .inl v)), (yp, .inl (cI, 200, .inl P)), (ym, .inl (cI, 200, .inl Mf))] sz)) 0 0 (va_A [(y, .inr (6, [.ref yr, .int mq, .int mn, .ref yw, .ref yc, .int mc, .ref yl, .int me, .ref ys, .ref yp, .ref ym, .int md, .ref yo, .ref yk, .ref yt, .int mz, .ref yi, .ref yz, .ref yx, .ref yu, .int km, .int kr])), (yr, .inl (cI, 7, .inl G)), (yw, .inl (cI, 20, .inl v)), (yp, .inl (cI, 200, .inl P)), (ym, .inl (cI, 200, .inl Mf))] sz) := by
  refine Met.ofW (cc := cX6_split) (maxL := 8) (ret := (some .int)) (by decide) rfl ?_
  intro p e s m args below meth c s₁ B hml hv
  obtain ⟨rfl, hsz, hP, hK, hD0, hN⟩ := hv
  have hx := B.exec
  have hb := B.bytes
  have hr := B.returns
  have hts := atoms_spec (ws := wsX6_split) B.pre
  have hown : s.vm.findClass RX6 = some m.cls := findClass_of_methodNamed B.named
  have hlocks := B.notSynchronized
  subst hsz
  have hD := hD0.self (sz := s.heap.size)
  generalize hAe : va_A [(y, .inr (6, [.ref yr, .int mq, .int mn, .ref yw, .ref yc, .int mc, .ref yl, .int me, .ref ys, .ref yp, .ref ym, .int md, .ref yo, .ref yk, .ref yt, .int mz, .ref yi, .ref yz, .ref yx, .ref yu, .int km, .int kr])), (yr, .inl (cI, 7, .inl G)), (yw, .inl (cI, 20, .inl v)), (yp, .inl (cI, 200, .inl P)), (ym, .inl (cI, 200, .inl Mf))] s.heap.size = A at hD ⊢
  have hA : ∀ q : Nat, s.heap.size ≤ q → A q := fun q h => by rw [← hAe]; exact Or.inr h
  have hS : va_S A s.heap s.heap [] := va_S.rf
  have hP : va_P D vwCl [(y, .inr (6, [.ref yr, .int mq, .int mn, .ref yw, .ref yc, .int mc, .ref yl, .int me, .ref ys, .ref yp, .ref ym, .int md, .ref yo, .ref yk, .ref yt, .int mz, .ref yi, .ref yz, .ref yx, .ref yu, .int km, .int kr])), (yr, .inl (cI, 7, .inl G)), (yw, .inl (cI, 20, .inl v)), (yp, .inl (cI, 200, .inl P)), (ym, .inl (cI, 200, .inl Mf))] s.heap := hP
  have hl := lv_entry ([.ref y, .int w, .int n, .int k]) (n := 8) (Nat.le_of_ble_eq_true rfl)
  rw [lg_entry_eq]
  generalize (lg_sl ([.ref y, .int w, .int n, .int k]) ++ List.replicate (8 - (lg_sl ([.ref y, .int w, .int n, .int k])).length) Slot.unset).toArray = ls at hl ⊢
  have hl : lv_has ls 8 [(0, .ref y), (1, .int w), (2, .int n), (3, .int k)] := hl
  refine lv_aload_n hx hb dX6_split_0 rfl (lv_at hl 0 rfl) ?_
  refine lv_iload_n hx hb dX6_split_1 rfl (lv_at hl 1 rfl) ?_
  refine lv_iload_n hx hb dX6_split_2 rfl (lv_at hl 2 rfl) ?_
  refine rdV (As := [.int w, .int n]) (rest := []) ⟨hx, hb, hml, hown, hts⟩ (c_X6_refusal l D cI cZ cR y yr yw yc yl ys yp ym yo yk yt yi yz yx yu mq mn mc me md mz km kr w n hmn) (cwV 2 hts gX6_split_X6_refusal rfl rfl rfl (by decide +kernel) ⟨Nat.le_of_ble_eq_true rfl, Nat.le_of_ble_eq_true rfl⟩) hK hN hP 0 6 rfl rfl rfl [0] rfl rfl hl.1 rfl (Nat.le_of_ble_eq_true rfl) dX6_split_3 ⟨Nat.zero_le _, Nat.zero_le _⟩ ?_
  refine lv_istore (lv' := [(4, .int (rf_num mn w n 1 200)), (0, .ref y), (1, .int w), (2, .int n), (3, .int k)]) hx hb dX6_split_6 hl (by decide) rfl (fun ls hl => ?_)
  refine lv_iload hx hb dX6_split_8 (lv_at hl 0 rfl) ?_
  refine lv_if_eq (tgt := 20) hx hb dX6_split_10 (by decide) (fun c_10 => ?_) (fun c_10 => ?_)
  · skip
    have hw9 := (rf_num_ok c_10).1
    have hn9 := (rf_num_ok c_10).2
    have hn := n200 hn9
    have hM0 := mk_ne (pl := plK mq v w) (n := n.toNatClampNeg) (by omega)
    refine lv_iload_n hx hb dX6_split_20 rfl (lv_at hl 4 rfl) ?_
    refine lv_i2l hx hb dX6_split_21 rfl ?_
    refine lv_lconst (v := 0) hx hb dX6_split_22 (by decide) ?_
    refine lv_lconst (v := 1) hx hb dX6_split_23 (by decide) ?_
    refine rdS (As := [.long k.toInt64, .long 0, .long 1]) (rest := []) ⟨hx, hb, hml, hown, hts⟩ (c_X6_in l D cI cZ cR k.toInt64 0 1 ) (va_cwS 3 hts gX6_split_X6_in rfl rfl rfl (by decide +kernel) ⟨Nat.le_of_ble_eq_true rfl, Nat.le_of_ble_eq_true rfl⟩) hK hN hP [] rfl rfl hl.1 rfl (Nat.le_of_ble_eq_true rfl) dX6_split_24 ⟨Nat.zero_le _, Nat.zero_le _⟩ ?_
    refine lv_if_ne (tgt := 37) hx hb dX6_split_27 (by decide) (fun c_27 => ?_) (fun c_27 => ?_)
    · skip
      have c_27 := bi_ne0.mp c_27
      refine lv_aload_n hx hb dX6_split_37 rfl (lv_at hl 1 rfl) ?_
      refine lv_iload_n hx hb dX6_split_38 rfl (lv_at hl 2 rfl) ?_
      refine lv_iload_n hx hb dX6_split_39 rfl (lv_at hl 3 rfl) ?_
      refine wrVv (As := [.int w, .int n]) (rest := []) (wr := [(yr, .inl (cI, 7, .inl G))]) (A := A) ⟨hx, hb, hml, hown, hts⟩ (c_X6_sorts l D cI cZ cR y yr yw yc yl ys yp ym yo yk yt yi yz yx yu mq mn mc me md mz km kr v P Mf w n hq (w5 hm5 hw9) (hws w hw9) hn.2.1 s.heap.size) (cwV 2 hts gX6_split_X6_sorts rfl rfl rfl (by decide +kernel) ⟨Nat.le_of_ble_eq_true rfl, Nat.le_of_ble_eq_true rfl⟩) hK hN hP hD hS hA 0 6 rfl rfl rfl [0, 2, 3, 4] [1] rfl (by decide) rfl (by decide) (by decide) rfl hl.1 rfl (Nat.le_of_ble_eq_true rfl) dX6_split_40 ⟨Nat.zero_le _, Nat.zero_le _⟩ (fun u H locs hw hP hD hS => ?_)
      obtain ⟨md_40, P_40, M_40⟩ := u
      try dsimp only at hw
      obtain ⟨h1_40, h2_40⟩ := hw
      have hP : va_P D vwCl [(y, .inr (6, [.ref yr, .int mq, .int mn, .ref yw, .ref yc, .int mc, .ref yl, .int me, .ref ys, .ref yp, .ref ym, .int md_40, .ref yo, .ref yk, .ref yt, .int mz, .ref yi, .ref yz, .ref yx, .ref yu, .int km, .int kr])), (yr, .inl (cI, 7, .inl G)), (yw, .inl (cI, 20, .inl v)), (yp, .inl (cI, 200, .inl P_40)), (ym, .inl (cI, 200, .inl M_40))] H := hP.sub [1, 0, 2, 3, 4] rfl
      have hD : va_D A [(y, .inr (6, [.ref yr, .int mq, .int mn, .ref yw, .ref yc, .int mc, .ref yl, .int me, .ref ys, .ref yp, .ref ym, .int md_40, .ref yo, .ref yk, .ref yt, .int mz, .ref yi, .ref yz, .ref yx, .ref yu, .int km, .int kr])), (yr, .inl (cI, 7, .inl G)), (yw, .inl (cI, 20, .inl v)), (yp, .inl (cI, 200, .inl P_40)), (ym, .inl (cI, 200, .inl M_40))] := hD.sub [1, 0, 2, 3, 4] (by decide) rfl
      have e0 := rf_beh_m c_10 ((md_w1 k).mp c_27)
      have hMl := h2_40.2.1
      have hMf := h2_40.2.2
      have hso := so_str_ord (mk_str (plK mq v w) n.toNatClampNeg)
      refine lv_aload_n hx hb dX6_split_43 rfl (lv_at hl 1 rfl) ?_
      refine lv_iload_n hx hb dX6_split_44 rfl (lv_at hl 2 rfl) ?_
      refine lv_iload_n hx hb dX6_split_45 rfl (lv_at hl 3 rfl) ?_
      refine rdV (As := [.int w, .int n]) (rest := []) ⟨hx, hb, hml, hown, hts⟩ (c_X6_placeOf l D cI cZ cR y yr yw yc yl ys yp ym yo yk yt yi yz yx yu mq mn mc me md_40 mz km kr v w n hq (w5 hm5 hw9) (hws w hw9) (n_k hn9)) (cwV 2 hts gX6_split_X6_placeOf rfl rfl rfl (by decide +kernel) ⟨Nat.le_of_ble_eq_true rfl, Nat.le_of_ble_eq_true rfl⟩) hK hN hP 0 6 rfl rfl rfl [0, 2] rfl rfl hl.1 rfl (Nat.le_of_ble_eq_true rfl) dX6_split_46 ⟨Nat.zero_le _, Nat.zero_le _⟩ ?_
      refine lv_istore (lv' := [(5, .int (rg_pb mq v (rg_val v w 0) w n.toInt64)), (4, .int (rf_num mn w n 1 200)), (0, .ref y), (1, .int w), (2, .int n), (3, .int k)]) hx hb dX6_split_49 hl (by decide) rfl (fun ls hl => ?_)
      refine lv_aload_n hx hb dX6_split_51 rfl (lv_at hl 2 rfl) ?_
      refine va_get (D := D) (ci := 6) (v := .ref ym) (C := RX6) (T := TX6) (N := 22) hx hb hts (in_X6_split_X6) hown hK hP 0 rfl rfl 10 (by decide) (hts (.fieldLink RX6 32 "StepsRoundCircleModel" "marks" "[I") (by decide +kernel)) (fun _ h9 => h9) rfl dX6_split_52 ?_
      refine lv_aload_n hx hb dX6_split_55 rfl (lv_at hl 2 rfl) ?_
      refine va_get (D := D) (ci := 6) (v := .int md_40) (C := RX6) (T := TX6) (N := 22) hx hb hts (in_X6_split_X6) hown hK hP 0 rfl rfl 11 (by decide) (hts (.fieldLink RX6 146 "StepsRoundCircleModel" "marked" "I") (by decide +kernel)) (fun _ h9 => h9) rfl dX6_split_56 ?_
      refine lv_iconst (v := 1) hx hb dX6_split_59 (by decide) ?_
      refine lv_isub hx hb dX6_split_60 ?_
      refine lv_topi (fun z_61 hz_61 => ?_)
      have hz_61 : z_61 = nI ((mk (plK mq v w) n.toNatClampNeg).length - 1) := hz_61.trans (by rw [h2_40.1]; exact pk_sub (b := 1) hM0)
      subst hz_61
      refine va_iald hx hb hK hP 4 0 rfl rfl (vp_in_nI (by omega) (by omega)) dX6_split_61 ?_
      refine lv_topi (fun z_62 hz_62 => ?_)
      have hz_62 : z_62 = (mk (plK mq v w) n.toNatClampNeg).getD ((mk (plK mq v w) n.toNatClampNeg).length - 1) 0 := hz_62.trans (by rw [nI_clamp (by omega)]; exact hMf _ (by omega))
      subst hz_62
      refine lv_istore (lv' := [(6, .int ((mk (plK mq v w) n.toNatClampNeg).getD ((mk (plK mq v w) n.toNatClampNeg).length - 1) 0)), (5, .int (rg_pb mq v (rg_val v w 0) w n.toInt64)), (4, .int (rf_num mn w n 1 200)), (0, .ref y), (1, .int w), (2, .int n), (3, .int k)]) hx hb dX6_split_62 hl (by decide) rfl (fun ls hl => ?_)
      refine lv_iconst (v := 0) hx hb dX6_split_64 (by decide) ?_
      refine lv_istore (lv' := [(7, .int 0), (6, .int ((mk (plK mq v w) n.toNatClampNeg).getD ((mk (plK mq v w) n.toNatClampNeg).length - 1) 0)), (5, .int (rg_pb mq v (rg_val v w 0) w n.toInt64)), (4, .int (rf_num mn w n 1 200)), (0, .ref y), (1, .int w), (2, .int n), (3, .int k)]) hx hb dX6_split_65 hl (by decide) rfl (fun ls hl => ?_)
      have loop_67 : ∀ (fuel : Nat), ∀ (i : Nat), (i ≤ (mk (plK mq v w) n.toNatClampNeg).length) → (∀ j, j < i → ¬ (mk (plK mq v w) n.toNatClampNeg).getD j 0 = (rg_pb mq v (rg_val v w 0) w n.toInt64)) → ((mk (plK mq v w) n.toNatClampNeg).length + 1 ≤ i + fuel) → ∀ (y6 : Int32), y6 = spm (rg_pb mq v (rg_val v w 0) w n.toInt64) (mk (plK mq v w) n.toNatClampNeg) i → ∀ (y7 : Int32), y7 = nI i → ∀ (ls : Array Slot), lv_has ls 8 [(6, .int y6), (7, .int y7), (0, .ref y), (1, .int w), (2, .int n), (3, .int k), (4, .int (rf_num mn w n 1 200)), (5, .int (rg_pb mq v (rg_val v w 0) w n.toInt64))] → W p l e (headSpec wsX6_split ({ frames := 4, cells := 0, slots := 0, locals := 99 })).room s m ([.ref y, .int w, .int n, .int k] : List Value).toArray below meth c H locs 0 0 (MQ below (va_Qi (fun (res : Int32) (u : (Nat → Int32) × Int32 × (Nat → Int32) × (Nat → Int32)) => res = (if rf_beh mn w n k 2 = 0 then splA mq (mk (plK mq v w) n.toNatClampNeg) (rg_pb mq v (rg_val v w 0) w n.toInt64) k else rf_beh mn w n k 2) ∧ u.1 = (if rf_beh mn w n k 2 = 0 then G else md_bump G (rf_beh mn w n k 2))) (Bw D (fun (u : (Nat → Int32) × Int32 × (Nat → Int32) × (Nat → Int32)) => [(y, .inr (6, [.ref yr, .int mq, .int mn, .ref yw, .ref yc, .int mc, .ref yl, .int me, .ref ys, .ref yp, .ref ym, .int u.2.1, .ref yo, .ref yk, .ref yt, .int mz, .ref yi, .ref yz, .ref yx, .ref yu, .int km, .int kr])), (yr, .inl (cI, 7, .inl u.1)), (yw, .inl (cI, 20, .inl v)), (yp, .inl (cI, 200, .inl u.2.2.1)), (ym, .inl (cI, 200, .inl u.2.2.2))]) A) A) ([.ref y, .int w, .int n, .int k] : List Value).toArray s 0 0 A) (F0 m 67 ls []) := by
        intro fuel
        induction fuel with
        | zero =>
          intro i hi9 hno hfu
          exact False.elim (by omega)
        | succ fuel ih_67 =>
          intro i hi9 hno hfu y6 ey6 y7 ey7 ls hl
          subst ey6
          subst ey7
          refine lv_iload hx hb dX6_split_67 (lv_at hl 1 rfl) ?_
          refine lv_aload_n hx hb dX6_split_69 rfl (lv_at hl 2 rfl) ?_
          refine va_get (D := D) (ci := 6) (v := .int md_40) (C := RX6) (T := TX6) (N := 22) hx hb hts (in_X6_split_X6) hown hK hP 0 rfl rfl 11 (by decide) (hts (.fieldLink RX6 146 "StepsRoundCircleModel" "marked" "I") (by decide +kernel)) (fun _ h9 => h9) rfl dX6_split_70 ?_
          refine lv_topi (fun z_73 hz_73 => ?_)
          have hz_73 : z_73 = nI (mk (plK mq v w) n.toNatClampNeg).length := hz_73.trans h2_40.1
          subst hz_73
          refine lv_icmp_ge (tgt := 118) hx hb dX6_split_73 (by decide) (fun c_73 => ?_) (fun c_73 => ?_)
          · skip
            have hend : i = (mk (plK mq v w) n.toNatClampNeg).length := by have := (nI_leI (by omega) (by omega)).mp c_73; omega
            have hnm : ¬ (rg_pb mq v (rg_val v w 0) w n.toInt64) ∈ (mk (plK mq v w) n.toNatClampNeg) := fun z9 => by obtain ⟨j9, a9, b9⟩ := (mem_get _ _).mp z9; exact hno j9 (by omega) b9
            have hcl := so_cnt_le (rg_pb mq v (rg_val v w 0) w n.toInt64) (mk (plK mq v w) n.toNatClampNeg)
            have hsp : spm (rg_pb mq v (rg_val v w 0) w n.toInt64) (mk (plK mq v w) n.toNatClampNeg) i = (mk (plK mq v w) n.toNatClampNeg).getD (if so_cnt (rg_pb mq v (rg_val v w 0) w n.toInt64) (mk (plK mq v w) n.toNatClampNeg) = 0 then (mk (plK mq v w) n.toNatClampNeg).length - 1 else so_cnt (rg_pb mq v (rg_val v w 0) w n.toInt64) (mk (plK mq v w) n.toNatClampNeg) - 1) 0 := by have h9 := spm_is (x := (rg_pb mq v (rg_val v w 0) w n.toInt64)) hso i hi9; rw [hend, show min (mk (plK mq v w) n.toNatClampNeg).length (so_cnt (rg_pb mq v (rg_val v w 0) w n.toInt64) (mk (plK mq v w) n.toNatClampNeg)) = so_cnt (rg_pb mq v (rg_val v w 0) w n.toInt64) (mk (plK mq v w) n.toNatClampNeg) by omega] at h9; rw [hend]; exact h9
            refine lv_iload_n hx hb dX6_split_118 rfl (lv_at hl 5 rfl) ?_
            refine lv_if_ne (tgt := 127) hx hb dX6_split_119 (by decide) (fun c_119 => ?_) (fun c_119 => ?_)
            · skip
              refine lv_iload hx hb dX6_split_127 (lv_at hl 7 rfl) ?_
              refine lv_iload hx hb dX6_split_129 (lv_at hl 0 rfl) ?_
              refine lv_icmp_ge (tgt := 147) hx hb dX6_split_131 (by decide) (fun c_131 => ?_) (fun c_131 => ?_)
              · skip
                refine lv_iload hx hb dX6_split_147 (lv_at hl 7 rfl) ?_
                refine lv_iload hx hb dX6_split_149 (lv_at hl 0 rfl) ?_
                refine lv_isub hx hb dX6_split_151 ?_
                exact wrI (w1 := (fun (u : (Nat → Int32) × Int32 × (Nat → Int32) × (Nat → Int32)) => [(y, .inr (6, [.ref yr, .int mq, .int mn, .ref yw, .ref yc, .int mc, .ref yl, .int me, .ref ys, .ref yp, .ref ym, .int u.2.1, .ref yo, .ref yk, .ref yt, .int mz, .ref yi, .ref yz, .ref yx, .ref yu, .int km, .int kr])), (yr, .inl (cI, 7, .inl u.1)), (yw, .inl (cI, 20, .inl v)), (yp, .inl (cI, 200, .inl u.2.2.1)), (ym, .inl (cI, 200, .inl u.2.2.2))])) (G, md_40, P_40, M_40) hx hb hr hlocks dX6_split_152 hS (hP.sub [0, 1, 2, 3, 4] rfl) (hD.sub [0, 1, 2, 3, 4] (by decide) rfl) (⟨by rw [if_pos e0]; unfold splA; rw [if_neg hnm, if_neg c_119, ← hsp, far_ar hq (rg_pb_bd hq v _ w _) (mk_bd hq (by rw [hsp]; exact getD_mem (by split <;> omega))), if_pos (sub_ge hq (rg_pb_bd hq v _ w _) (mk_bd hq (by rw [hsp]; exact getD_mem (by split <;> omega))) c_131)], by rw [if_pos e0]⟩)
              · skip
                refine lv_iload hx hb dX6_split_134 (lv_at hl 7 rfl) ?_
                refine lv_aload_n hx hb dX6_split_136 rfl (lv_at hl 2 rfl) ?_
                refine va_get (D := D) (ci := 6) (v := .int mq) (C := RX6) (T := TX6) (N := 22) hx hb hts (in_X6_split_X6) hown hK hP 0 rfl rfl 1 (by decide) (hts (.fieldLink RX6 13 "StepsRoundCircleModel" "round" "I") (by decide +kernel)) (fun _ h9 => h9) rfl dX6_split_137 ?_
                refine lv_iadd hx hb dX6_split_140 ?_
                refine lv_iload hx hb dX6_split_141 (lv_at hl 0 rfl) ?_
                refine lv_isub hx hb dX6_split_143 ?_
                refine lv_goto (tgt := 152) hx hb dX6_split_144 (by decide) ?_
                exact wrI (w1 := (fun (u : (Nat → Int32) × Int32 × (Nat → Int32) × (Nat → Int32)) => [(y, .inr (6, [.ref yr, .int mq, .int mn, .ref yw, .ref yc, .int mc, .ref yl, .int me, .ref ys, .ref yp, .ref ym, .int u.2.1, .ref yo, .ref yk, .ref yt, .int mz, .ref yi, .ref yz, .ref yx, .ref yu, .int km, .int kr])), (yr, .inl (cI, 7, .inl u.1)), (yw, .inl (cI, 20, .inl v)), (yp, .inl (cI, 200, .inl u.2.2.1)), (ym, .inl (cI, 200, .inl u.2.2.2))])) (G, md_40, P_40, M_40) hx hb hr hlocks dX6_split_152 hS (hP.sub [0, 1, 2, 3, 4] rfl) (hD.sub [0, 1, 2, 3, 4] (by decide) rfl) (⟨by rw [if_pos e0]; unfold splA; rw [if_neg hnm, if_neg c_119, ← hsp, far_ar hq (rg_pb_bd hq v _ w _) (mk_bd hq (by rw [hsp]; exact getD_mem (by split <;> omega))), if_neg (sub_lt hq (rg_pb_bd hq v _ w _) (mk_bd hq (by rw [hsp]; exact getD_mem (by split <;> omega))) c_131)]; exact add_sub_c _ _ _, by rw [if_pos e0]⟩)
            · skip
              refine lv_iload hx hb dX6_split_122 (lv_at hl 0 rfl) ?_
              refine lv_goto (tgt := 152) hx hb dX6_split_124 (by decide) ?_
              exact wrI (w1 := (fun (u : (Nat → Int32) × Int32 × (Nat → Int32) × (Nat → Int32)) => [(y, .inr (6, [.ref yr, .int mq, .int mn, .ref yw, .ref yc, .int mc, .ref yl, .int me, .ref ys, .ref yp, .ref ym, .int u.2.1, .ref yo, .ref yk, .ref yt, .int mz, .ref yi, .ref yz, .ref yx, .ref yu, .int km, .int kr])), (yr, .inl (cI, 7, .inl u.1)), (yw, .inl (cI, 20, .inl v)), (yp, .inl (cI, 200, .inl u.2.2.1)), (ym, .inl (cI, 200, .inl u.2.2.2))])) (G, md_40, P_40, M_40) hx hb hr hlocks dX6_split_152 hS (hP.sub [0, 1, 2, 3, 4] rfl) (hD.sub [0, 1, 2, 3, 4] (by decide) rfl) (⟨by rw [if_pos e0]; unfold splA; rw [if_neg hnm, if_pos c_119]; exact hsp, by rw [if_pos e0]⟩)
          · skip
            have hiN : i < (mk (plK mq v w) n.toNatClampNeg).length := by rcases Nat.lt_or_ge i (mk (plK mq v w) n.toNatClampNeg).length with q9 | q9; exact q9; exact absurd (nI_le q9 (by omega)) c_73
            refine lv_aload_n hx hb dX6_split_76 rfl (lv_at hl 2 rfl) ?_
            refine va_get (D := D) (ci := 6) (v := .ref ym) (C := RX6) (T := TX6) (N := 22) hx hb hts (in_X6_split_X6) hown hK hP 0 rfl rfl 10 (by decide) (hts (.fieldLink RX6 32 "StepsRoundCircleModel" "marks" "[I") (by decide +kernel)) (fun _ h9 => h9) rfl dX6_split_77 ?_
            refine lv_iload hx hb dX6_split_80 (lv_at hl 1 rfl) ?_
            refine va_iald hx hb hK hP 4 0 rfl rfl (vp_in_nI (by omega) (by omega)) dX6_split_82 ?_
            refine lv_topi (fun z_83 hz_83 => ?_)
            have hz_83 : z_83 = (mk (plK mq v w) n.toNatClampNeg).getD i 0 := hz_83.trans (by rw [nI_clamp (by omega)]; exact hMf _ hiN)
            subst hz_83
            refine lv_iload hx hb dX6_split_83 (lv_at hl 7 rfl) ?_
            refine lv_icmp_ne (tgt := 91) hx hb dX6_split_85 (by decide) (fun c_85 => ?_) (fun c_85 => ?_)
            · skip
              refine lv_aload_n hx hb dX6_split_91 rfl (lv_at hl 2 rfl) ?_
              refine va_get (D := D) (ci := 6) (v := .ref ym) (C := RX6) (T := TX6) (N := 22) hx hb hts (in_X6_split_X6) hown hK hP 0 rfl rfl 10 (by decide) (hts (.fieldLink RX6 32 "StepsRoundCircleModel" "marks" "[I") (by decide +kernel)) (fun _ h9 => h9) rfl dX6_split_92 ?_
              refine lv_iload hx hb dX6_split_95 (lv_at hl 1 rfl) ?_
              refine va_iald hx hb hK hP 4 0 rfl rfl (vp_in_nI (by omega) (by omega)) dX6_split_97 ?_
              refine lv_topi (fun z_98 hz_98 => ?_)
              have hz_98 : z_98 = (mk (plK mq v w) n.toNatClampNeg).getD i 0 := hz_98.trans (by rw [nI_clamp (by omega)]; exact hMf _ hiN)
              subst hz_98
              refine lv_iload hx hb dX6_split_98 (lv_at hl 7 rfl) ?_
              refine lv_icmp_ge (tgt := 112) hx hb dX6_split_100 (by decide) (fun c_100 => ?_) (fun c_100 => ?_)
              · skip
                refine lv_iinc (v := (nI i) + 1) (lv' := [(7, .int ((nI i) + 1)), (6, .int (spm (rg_pb mq v (rg_val v w 0) w n.toInt64) (mk (plK mq v w) n.toNatClampNeg) i)), (0, .ref y), (1, .int w), (2, .int n), (3, .int k), (4, .int (rf_num mn w n 1 200)), (5, .int (rg_pb mq v (rg_val v w 0) w n.toInt64))]) hx hb dX6_split_112 hl (k := 1) rfl (by rfl) (by decide) rfl (fun ls hl => ?_)
                refine lv_goto (tgt := 67) hx hb dX6_split_115 (by decide) ?_
                exact ih_67 (i + 1) (by omega) (lt_s hno c_85) (by omega) _ (by rw [spm, if_neg (Int32.not_lt.mpr c_100)]) _ (by first | rfl | exact nI_1 _ | exact nI_0.symm) ls (lv_sub hl [1, 0, 2, 3, 4, 5, 6, 7] rfl)
              · skip
                refine lv_aload_n hx hb dX6_split_103 rfl (lv_at hl 2 rfl) ?_
                refine va_get (D := D) (ci := 6) (v := .ref ym) (C := RX6) (T := TX6) (N := 22) hx hb hts (in_X6_split_X6) hown hK hP 0 rfl rfl 10 (by decide) (hts (.fieldLink RX6 32 "StepsRoundCircleModel" "marks" "[I") (by decide +kernel)) (fun _ h9 => h9) rfl dX6_split_104 ?_
                refine lv_iload hx hb dX6_split_107 (lv_at hl 1 rfl) ?_
                refine va_iald hx hb hK hP 4 0 rfl rfl (vp_in_nI (by omega) (by omega)) dX6_split_109 ?_
                refine lv_topi (fun z_110 hz_110 => ?_)
                have hz_110 : z_110 = (mk (plK mq v w) n.toNatClampNeg).getD i 0 := hz_110.trans (by rw [nI_clamp (by omega)]; exact hMf _ hiN)
                subst hz_110
                refine lv_istore (lv' := [(6, .int ((mk (plK mq v w) n.toNatClampNeg).getD i 0)), (7, .int (nI i)), (0, .ref y), (1, .int w), (2, .int n), (3, .int k), (4, .int (rf_num mn w n 1 200)), (5, .int (rg_pb mq v (rg_val v w 0) w n.toInt64))]) hx hb dX6_split_110 hl (by decide) rfl (fun ls hl => ?_)
                refine lv_iinc (v := (nI i) + 1) (lv' := [(7, .int ((nI i) + 1)), (6, .int ((mk (plK mq v w) n.toNatClampNeg).getD i 0)), (0, .ref y), (1, .int w), (2, .int n), (3, .int k), (4, .int (rf_num mn w n 1 200)), (5, .int (rg_pb mq v (rg_val v w 0) w n.toInt64))]) hx hb dX6_split_112 hl (k := 1) rfl (by rfl) (by decide) rfl (fun ls hl => ?_)
                refine lv_goto (tgt := 67) hx hb dX6_split_115 (by decide) ?_
                exact ih_67 (i + 1) (by omega) (lt_s hno c_85) (by omega) _ (by rw [spm, if_pos (Int32.not_le.mp c_100)]) _ (by first | rfl | exact nI_1 _ | exact nI_0.symm) ls (lv_sub hl [1, 0, 2, 3, 4, 5, 6, 7] rfl)
            · skip
              refine lv_bipush (v := (-9)) hx hb dX6_split_88 (by decide) ?_
              exact wrI (w1 := (fun (u : (Nat → Int32) × Int32 × (Nat → Int32) × (Nat → Int32)) => [(y, .inr (6, [.ref yr, .int mq, .int mn, .ref yw, .ref yc, .int mc, .ref yl, .int me, .ref ys, .ref yp, .ref ym, .int u.2.1, .ref yo, .ref yk, .ref yt, .int mz, .ref yi, .ref yz, .ref yx, .ref yu, .int km, .int kr])), (yr, .inl (cI, 7, .inl u.1)), (yw, .inl (cI, 20, .inl v)), (yp, .inl (cI, 200, .inl u.2.2.1)), (ym, .inl (cI, 200, .inl u.2.2.2))])) (G, md_40, P_40, M_40) hx hb hr hlocks dX6_split_90 hS (hP.sub [0, 1, 2, 3, 4] rfl) (hD.sub [0, 1, 2, 3, 4] (by decide) rfl) (⟨by rw [if_pos e0]; unfold splA; rw [if_pos ((mem_get _ _).mpr ⟨i, hiN, c_85⟩)], by rw [if_pos e0]⟩)
      exact loop_67 ((mk (plK mq v w) n.toNatClampNeg).length + 1) 0 (by omega) (fun j hj => absurd hj (Nat.not_lt_zero j)) (by omega) _ rfl _ (by first | rfl | exact nI_1 _ | exact nI_0.symm) ls (lv_sub hl [1, 0, 4, 5, 6, 7, 3, 2] rfl)
    · skip
      have c_27 := bi_eq0.mp c_27
      refine lv_aload_n hx hb dX6_split_30 rfl (lv_at hl 1 rfl) ?_
      refine lv_bipush (v := (-2)) hx hb dX6_split_31 (by decide) ?_
      refine wrVi (As := [.int (-2)]) (rest := []) (wr := [(yw, .inl (cI, 20, .inl v)), (yp, .inl (cI, 200, .inl P)), (ym, .inl (cI, 200, .inl Mf))]) (A := A) ⟨hx, hb, hml, hown, hts⟩ (c_X6_no l D cI cZ cR y yr yw yc yl ys yp ym yo yk yt yi yz yx yu mq mn mc me md mz km kr G (-2) (by decide) s.heap.size) (cwV 1 hts gX6_split_X6_no rfl rfl rfl (by decide +kernel) ⟨Nat.le_of_ble_eq_true rfl, Nat.le_of_ble_eq_true rfl⟩) hK hN hP hD hS hA 0 6 rfl rfl rfl [0, 1] [2, 3, 4] rfl (by decide) rfl (by decide) (by decide) rfl hl.1 rfl (Nat.le_of_ble_eq_true rfl) dX6_split_33 ⟨Nat.zero_le _, Nat.zero_le _⟩ (fun r_33 u H locs hw hP hD hS => ?_)
      obtain ⟨G_33, rfl⟩ : ∃ z, z = u := ⟨_, rfl⟩
      try dsimp only at hw
      obtain ⟨q1_33, q2_33⟩ := hw
      have q1_33 := q1_33.symm
      subst q1_33
      have q2_33 := q2_33.symm
      subst q2_33
      have hP : va_P D vwCl [(y, .inr (6, [.ref yr, .int mq, .int mn, .ref yw, .ref yc, .int mc, .ref yl, .int me, .ref ys, .ref yp, .ref ym, .int md, .ref yo, .ref yk, .ref yt, .int mz, .ref yi, .ref yz, .ref yx, .ref yu, .int km, .int kr])), (yr, .inl (cI, 7, .inl (md_bump G (-2)))), (yw, .inl (cI, 20, .inl v)), (yp, .inl (cI, 200, .inl P)), (ym, .inl (cI, 200, .inl Mf))] H := hP.sub [3, 4, 0, 1, 2] rfl
      have hD : va_D A [(y, .inr (6, [.ref yr, .int mq, .int mn, .ref yw, .ref yc, .int mc, .ref yl, .int me, .ref ys, .ref yp, .ref ym, .int md, .ref yo, .ref yk, .ref yt, .int mz, .ref yi, .ref yz, .ref yx, .ref yu, .int km, .int kr])), (yr, .inl (cI, 7, .inl (md_bump G (-2)))), (yw, .inl (cI, 20, .inl v)), (yp, .inl (cI, 200, .inl P)), (ym, .inl (cI, 200, .inl Mf))] := hD.sub [3, 4, 0, 1, 2] (by decide) rfl
      exact wrI (w1 := (fun (u : (Nat → Int32) × Int32 × (Nat → Int32) × (Nat → Int32)) => [(y, .inr (6, [.ref yr, .int mq, .int mn, .ref yw, .ref yc, .int mc, .ref yl, .int me, .ref ys, .ref yp, .ref ym, .int u.2.1, .ref yo, .ref yk, .ref yt, .int mz, .ref yi, .ref yz, .ref yx, .ref yu, .int km, .int kr])), (yr, .inl (cI, 7, .inl u.1)), (yw, .inl (cI, 20, .inl v)), (yp, .inl (cI, 200, .inl u.2.2.1)), (ym, .inl (cI, 200, .inl u.2.2.2))])) ((md_bump G (-2)), md, P, Mf) hx hb hr hlocks dX6_split_36 hS (hP.sub [0, 1, 2, 3, 4] rfl) (hD.sub [0, 1, 2, 3, 4] (by decide) rfl) (by have e9 := rf_beh_2 c_10 (mt (md_w1 k).mpr c_27); simp [e9])
  · skip
    refine lv_aload_n hx hb dX6_split_13 rfl (lv_at hl 1 rfl) ?_
    refine lv_iload hx hb dX6_split_14 (lv_at hl 0 rfl) ?_
    refine wrVi (As := [.int (rf_num mn w n 1 200)]) (rest := []) (wr := [(yw, .inl (cI, 20, .inl v)), (yp, .inl (cI, 200, .inl P)), (ym, .inl (cI, 200, .inl Mf))]) (A := A) ⟨hx, hb, hml, hown, hts⟩ (c_X6_no l D cI cZ cR y yr yw yc yl ys yp ym yo yk yt yi yz yx yu mq mn mc me md mz km kr G (rf_num mn w n 1 200) (rf_num_le _ _ _ _ _) s.heap.size) (cwV 1 hts gX6_split_X6_no rfl rfl rfl (by decide +kernel) ⟨Nat.le_of_ble_eq_true rfl, Nat.le_of_ble_eq_true rfl⟩) hK hN hP hD hS hA 0 6 rfl rfl rfl [0, 1] [2, 3, 4] rfl (by decide) rfl (by decide) (by decide) rfl hl.1 rfl (Nat.le_of_ble_eq_true rfl) dX6_split_16 ⟨Nat.zero_le _, Nat.zero_le _⟩ (fun r_16 u H locs hw hP hD hS => ?_)
    obtain ⟨G_16, rfl⟩ : ∃ z, z = u := ⟨_, rfl⟩
    try dsimp only at hw
    obtain ⟨q1_16, q2_16⟩ := hw
    have q1_16 := q1_16.symm
    subst q1_16
    have q2_16 := q2_16.symm
    subst q2_16
    have hP : va_P D vwCl [(y, .inr (6, [.ref yr, .int mq, .int mn, .ref yw, .ref yc, .int mc, .ref yl, .int me, .ref ys, .ref yp, .ref ym, .int md, .ref yo, .ref yk, .ref yt, .int mz, .ref yi, .ref yz, .ref yx, .ref yu, .int km, .int kr])), (yr, .inl (cI, 7, .inl (md_bump G (rf_num mn w n 1 200)))), (yw, .inl (cI, 20, .inl v)), (yp, .inl (cI, 200, .inl P)), (ym, .inl (cI, 200, .inl Mf))] H := hP.sub [3, 4, 0, 1, 2] rfl
    have hD : va_D A [(y, .inr (6, [.ref yr, .int mq, .int mn, .ref yw, .ref yc, .int mc, .ref yl, .int me, .ref ys, .ref yp, .ref ym, .int md, .ref yo, .ref yk, .ref yt, .int mz, .ref yi, .ref yz, .ref yx, .ref yu, .int km, .int kr])), (yr, .inl (cI, 7, .inl (md_bump G (rf_num mn w n 1 200)))), (yw, .inl (cI, 20, .inl v)), (yp, .inl (cI, 200, .inl P)), (ym, .inl (cI, 200, .inl Mf))] := hD.sub [3, 4, 0, 1, 2] (by decide) rfl
    exact wrI (w1 := (fun (u : (Nat → Int32) × Int32 × (Nat → Int32) × (Nat → Int32)) => [(y, .inr (6, [.ref yr, .int mq, .int mn, .ref yw, .ref yc, .int mc, .ref yl, .int me, .ref ys, .ref yp, .ref ym, .int u.2.1, .ref yo, .ref yk, .ref yt, .int mz, .ref yi, .ref yz, .ref yx, .ref yu, .int km, .int kr])), (yr, .inl (cI, 7, .inl u.1)), (yw, .inl (cI, 20, .inl v)), (yp, .inl (cI, 200, .inl u.2.2.1)), (ym, .inl (cI, 200, .inl u.2.2.2))])) ((md_bump G (rf_num mn w n 1 200)), md, P, Mf) hx hb hr hlocks dX6_split_19 hS (hP.sub [0, 1, 2, 3, 4] rfl) (hD.sub [0, 1, 2, 3, 4] (by decide) rfl) (by have e9 := rf_beh_n (k := k) (ks := 2) c_10; have e8 : ¬ rf_beh mn w n k 2 = 0 := (by rw [e9]; exact c_10); rw [if_neg e8, if_neg e8, e9]; exact ⟨rfl, rfl⟩)
