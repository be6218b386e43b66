theorem in_X6_circle_X6 : ∀ w ∈ wsX60, w ∈ wsX6_circle := by decide +kernel
theorem in_X6_farOf_X6 : ∀ w ∈ wsX60, w ∈ wsX6_farOf := by decide +kernel
theorem in_X6_letter_X6 : ∀ w ∈ wsX60, w ∈ wsX6_letter := by decide +kernel
theorem in_X6_nearer_X6 : ∀ w ∈ wsX60, w ∈ wsX6_nearer := by decide +kernel
theorem in_X6_seen_X6 : ∀ w ∈ wsX60, w ∈ wsX6_seen := by decide +kernel
set_option maxHeartbeats 4000000 in
set_option maxRecDepth 100000 in
theorem c_X6_letter (l : Launch) (D : va_G) (cI cZ cR : ClassId) (y yr yw yc yl ys yp ym yo yk yt yi yz yx yu : Nat) (mq mn mc me md mz km kr : Int32) (G : Nat → Int32) (lf : Nat → Int32) (x0 : Int32) (hme : 0 ≤ me ∧ me ≤ 72) (sz : Nat) : Met l yX6_letter wsX6_letter ({ frames := 1, cells := 0, slots := 0, locals := 22 }) (PcW D cI cZ cR [.ref y, .int x0] [(y, .inr (6, [.ref yr, .int mq, .int mn, .ref yw, .ref yc, .int mc, .ref yl, .int me, .ref ys, .ref yp, .ref ym, .int md, .ref yo, .ref yk, .ref yt, .int mz, .ref yi, .ref yz, .ref yx, .ref yu, .int km, .int kr])), (yr, .inl (cI, 7, .inl G)), (yl, .inl (cI, 72, .inl lf))] sz) (va_Qi (fun (res : Int32) (u : Int32 × (Nat → Int32) × (Nat → Int32)) => res = (if rf_let me x0 = 0 then me + 1 else rf_let me x0) ∧ u.1 = (if rf_let me x0 = 0 then me + 1 else me) ∧ u.2.1 = (if rf_let me x0 = 0 then G else md_bump G (rf_let me x0)) ∧ u.2.2 = (if rf_let me x0 = 0 then upd lf me.toNatClampNeg x0 else lf)) (Bw D (fun (u : Int32 × (Nat → Int32) × (Nat → Int32)) => [(y, .inr (6, [.ref yr, .int mq, .int mn, .ref yw, .ref yc, .int mc, .ref yl, .int u.1, .ref ys, .ref yp, .ref ym, .int md, .ref yo, .ref yk, .ref yt, .int mz, .ref yi, .ref yz, .ref yx, .ref yu, .int km, .int kr])), (yr, .inl (cI, 7, .inl u.2.1)), (yl, .inl (cI, 72, .inl u.2.2))]) (va_A [(y, .inr (6, [.ref yr, .int mq, .int mn, .ref yw, .ref yc, .int mc, .ref yl, .int me, .ref ys, .ref yp, .ref ym, .int md, .ref yo, .ref yk, .ref yt, .int mz, .ref yi, .ref yz, .ref yx, .ref yu, .int km, .int kr])), (yr, .inl (cI, 7, .inl G)), (yl, .inl (cI, 72, .inl lf))] sz)) (va_A [(y, .inr (6, [.ref yr, .int mq, .int mn, .ref yw, .ref yc, .int mc, .ref yl, .int me, .ref ys, .ref yp, .ref ym, .int md, .ref yo, .ref yk, .ref yt, .int mz, .ref yi, .ref yz, .ref yx, .ref yu, .int km, .int kr])), (yr, .inl (cI, 7, .inl G)), (yl, .inl (cI, 72, .inl lf))] sz)) 0 0 (va_A [(y, .inr (6, [.ref yr, .int mq, .int mn, .ref yw, .ref yc, .int mc, .ref yl, .int me, .ref ys, .ref yp, .ref ym, .int md, .ref yo, .ref yk, .ref yt, .int mz, .ref yi, .ref yz, .ref yx, .ref yu, .int km, .int kr])), (yr, .inl (cI, 7, .inl G)), (yl, .inl (cI, 72, .inl lf))] sz) := by
  refine Met.ofW (cc := cX6_letter) (maxL := 3) (ret := (some .int)) (by decide) rfl ?_
  intro p e s m args below meth c s₁ B hml hv
  obtain ⟨rfl, hsz, hP, hK, hD0, hN⟩ := hv
  have hx := B.exec
  have hb := B.bytes
  have hr := B.returns
  have hts := atoms_spec (ws := wsX6_letter) B.pre
  have hown : s.vm.findClass RX6 = some m.cls := findClass_of_methodNamed B.named
  have hlocks := B.notSynchronized
  subst hsz
  have hD := hD0.self (sz := s.heap.size)
  generalize hAe : va_A [(y, .inr (6, [.ref yr, .int mq, .int mn, .ref yw, .ref yc, .int mc, .ref yl, .int me, .ref ys, .ref yp, .ref ym, .int md, .ref yo, .ref yk, .ref yt, .int mz, .ref yi, .ref yz, .ref yx, .ref yu, .int km, .int kr])), (yr, .inl (cI, 7, .inl G)), (yl, .inl (cI, 72, .inl lf))] s.heap.size = A at hD ⊢
  have hA : ∀ q : Nat, s.heap.size ≤ q → A q := fun q h => by rw [← hAe]; exact Or.inr h
  have hS : va_S A s.heap s.heap [] := va_S.rf
  have hP : va_P D vwCl [(y, .inr (6, [.ref yr, .int mq, .int mn, .ref yw, .ref yc, .int mc, .ref yl, .int me, .ref ys, .ref yp, .ref ym, .int md, .ref yo, .ref yk, .ref yt, .int mz, .ref yi, .ref yz, .ref yx, .ref yu, .int km, .int kr])), (yr, .inl (cI, 7, .inl G)), (yl, .inl (cI, 72, .inl lf))] s.heap := hP
  have hl := lv_entry ([.ref y, .int x0]) (n := 3) (Nat.le_of_ble_eq_true rfl)
  rw [lg_entry_eq]
  generalize (lg_sl ([.ref y, .int x0]) ++ List.replicate (3 - (lg_sl ([.ref y, .int x0])).length) Slot.unset).toArray = ls at hl ⊢
  have hl : lv_has ls 3 [(0, .ref y), (1, .int x0)] := hl
  refine lv_iload_n hx hb dX6_letter_0 rfl (lv_at hl 1 rfl) ?_
  refine lv_iconst (v := 0) hx hb dX6_letter_1 (by decide) ?_
  refine lv_sipush (v := 255) hx hb dX6_letter_2 (by decide) ?_
  refine rdS (As := [.int x0, .int 0, .int 255]) (rest := []) ⟨hx, hb, hml, hown, hts⟩ (c_X6_range l D cI cZ cR x0 0 255 ) (va_cwS 3 hts gX6_letter_X6_range rfl rfl rfl (by decide +kernel) ⟨Nat.le_of_ble_eq_true rfl, Nat.le_of_ble_eq_true rfl⟩) hK hN hP [] rfl rfl hl.1 rfl (Nat.le_of_ble_eq_true rfl) dX6_letter_5 ⟨Nat.zero_le _, Nat.zero_le _⟩ ?_
  refine lv_istore_n (lv' := [(2, .int (rng x0 0 255)), (0, .ref y), (1, .int x0)]) hx hb dX6_letter_8 rfl hl (by decide) rfl (fun ls hl => ?_)
  refine lv_iload_n hx hb dX6_letter_9 rfl (lv_at hl 0 rfl) ?_
  refine lv_if_eq (tgt := 19) hx hb dX6_letter_10 (by decide) (fun c_10 => ?_) (fun c_10 => ?_)
  · skip
    refine lv_aload_n hx hb dX6_letter_19 rfl (lv_at hl 1 rfl) ?_
    refine va_get (D := D) (ci := 6) (v := .int me) (C := RX6) (T := TX6) (N := 22) hx hb hts (in_X6_letter_X6) hown hK hP 0 rfl rfl 7 (by decide) (hts (.fieldLink RX6 122 "StepsRoundCircleModel" "lettered" "I") (by decide +kernel)) (fun _ h9 => h9) rfl dX6_letter_20 ?_
    refine lv_bipush (v := 72) hx hb dX6_letter_23 (by decide) ?_
    refine lv_icmp_ne (tgt := 35) hx hb dX6_letter_25 (by decide) (fun c_25 => ?_) (fun c_25 => ?_)
    · skip
      refine lv_aload_n hx hb dX6_letter_35 rfl (lv_at hl 1 rfl) ?_
      refine va_get (D := D) (ci := 6) (v := .ref yl) (C := RX6) (T := TX6) (N := 22) hx hb hts (in_X6_letter_X6) hown hK hP 0 rfl rfl 6 (by decide) (hts (.fieldLink RX6 23 "StepsRoundCircleModel" "letters" "[I") (by decide +kernel)) (fun _ h9 => h9) rfl dX6_letter_36 ?_
      refine lv_aload_n hx hb dX6_letter_39 rfl (lv_at hl 1 rfl) ?_
      refine va_get (D := D) (ci := 6) (v := .int me) (C := RX6) (T := TX6) (N := 22) hx hb hts (in_X6_letter_X6) hown hK hP 0 rfl rfl 7 (by decide) (hts (.fieldLink RX6 122 "StepsRoundCircleModel" "lettered" "I") (by decide +kernel)) (fun _ h9 => h9) rfl dX6_letter_40 ?_
      refine lv_iload_n hx hb dX6_letter_43 rfl (lv_at hl 2 rfl) ?_
      refine va_iast hx hb hK hP hD hS 2 0 rfl rfl (vp_lit (n := 72) (by decide) ⟨hme.1, me_lt hme c_25⟩) dX6_letter_44 (fun H locs hP hD hS => ?_)
      have hP : va_P D vwCl [(y, .inr (6, [.ref yr, .int mq, .int mn, .ref yw, .ref yc, .int mc, .ref yl, .int me, .ref ys, .ref yp, .ref ym, .int md, .ref yo, .ref yk, .ref yt, .int mz, .ref yi, .ref yz, .ref yx, .ref yu, .int km, .int kr])), (yr, .inl (cI, 7, .inl G)), (yl, .inl (cI, 72, .inl (upd lf me.toNatClampNeg x0)))] H := hP
      have hD : va_D A [(y, .inr (6, [.ref yr, .int mq, .int mn, .ref yw, .ref yc, .int mc, .ref yl, .int me, .ref ys, .ref yp, .ref ym, .int md, .ref yo, .ref yk, .ref yt, .int mz, .ref yi, .ref yz, .ref yx, .ref yu, .int km, .int kr])), (yr, .inl (cI, 7, .inl G)), (yl, .inl (cI, 72, .inl (upd lf me.toNatClampNeg x0)))] := hD
      refine lv_aload_n hx hb dX6_letter_45 rfl (lv_at hl 1 rfl) ?_
      refine lv_dup hx hb dX6_letter_46 rfl ?_
      refine va_get (D := D) (ci := 6) (v := .int me) (C := RX6) (T := TX6) (N := 22) hx hb hts (in_X6_letter_X6) hown hK hP 0 rfl rfl 7 (by decide) (hts (.fieldLink RX6 122 "StepsRoundCircleModel" "lettered" "I") (by decide +kernel)) (fun _ h9 => h9) rfl dX6_letter_47 ?_
      refine lv_iconst (v := 1) hx hb dX6_letter_50 (by decide) ?_
      refine lv_iadd hx hb dX6_letter_51 ?_
      refine va_put (D := D) (ci := 6) (v := .int (me + 1)) (ty := .int) (C := RX6) (T := TX6) (N := 22) hx hb hts (in_X6_letter_X6) tyX6 tyX6_ok nmX6 hown hK hP hD hS 0 rfl rfl 7 (by decide) (hts (.fieldLink RX6 122 "StepsRoundCircleModel" "lettered" "I") (by decide +kernel)) (fun _ h9 => h9) rfl (by decide +kernel) rfl rfl (Nat.le_of_ble_eq_true rfl) dX6_letter_52 (fun H locs hP hD hS => ?_)
      have hP : va_P D vwCl [(y, .inr (6, [.ref yr, .int mq, .int mn, .ref yw, .ref yc, .int mc, .ref yl, .int (me + 1), .ref ys, .ref yp, .ref ym, .int md, .ref yo, .ref yk, .ref yt, .int mz, .ref yi, .ref yz, .ref yx, .ref yu, .int km, .int kr])), (yr, .inl (cI, 7, .inl G)), (yl, .inl (cI, 72, .inl (upd lf me.toNatClampNeg x0)))] H := hP
      have hD : va_D A [(y, .inr (6, [.ref yr, .int mq, .int mn, .ref yw, .ref yc, .int mc, .ref yl, .int (me + 1), .ref ys, .ref yp, .ref ym, .int md, .ref yo, .ref yk, .ref yt, .int mz, .ref yi, .ref yz, .ref yx, .ref yu, .int km, .int kr])), (yr, .inl (cI, 7, .inl G)), (yl, .inl (cI, 72, .inl (upd lf me.toNatClampNeg x0)))] := hD
      refine lv_aload_n hx hb dX6_letter_55 rfl (lv_at hl 1 rfl) ?_
      refine va_get (D := D) (ci := 6) (v := .int (me + 1)) (C := RX6) (T := TX6) (N := 22) hx hb hts (in_X6_letter_X6) hown hK hP 0 rfl rfl 7 (by decide) (hts (.fieldLink RX6 122 "StepsRoundCircleModel" "lettered" "I") (by decide +kernel)) (fun _ h9 => h9) rfl dX6_letter_56 ?_
      exact wrI (w1 := (fun (u : Int32 × (Nat → Int32) × (Nat → Int32)) => [(y, .inr (6, [.ref yr, .int mq, .int mn, .ref yw, .ref yc, .int mc, .ref yl, .int u.1, .ref ys, .ref yp, .ref ym, .int md, .ref yo, .ref yk, .ref yt, .int mz, .ref yi, .ref yz, .ref yx, .ref yu, .int km, .int kr])), (yr, .inl (cI, 7, .inl u.2.1)), (yl, .inl (cI, 72, .inl u.2.2))])) ((me + 1), G, (upd lf me.toNatClampNeg x0)) hx hb hr hlocks dX6_letter_59 hS (hP.sub [0, 1, 2] rfl) (hD.sub [0, 1, 2] (by decide) rfl) (by have e9 := let_0 c_10 (z := me) (Int32.not_le.mpr (me_lt hme c_25)); simp [e9])
    · skip
      refine lv_aload_n hx hb dX6_letter_28 rfl (lv_at hl 1 rfl) ?_
      refine lv_bipush (v := (-6)) hx hb dX6_letter_29 (by decide) ?_
      refine wrVi (As := [.int (-6)]) (rest := []) (wr := [(yl, .inl (cI, 72, .inl lf))]) (A := A) ⟨hx, hb, hml, hown, hts⟩ (c_X6_no l D cI cZ cR y yr yw yc yl ys yp ym yo yk yt yi yz yx yu mq mn mc me md mz km kr G (-6) (by decide) s.heap.size) (cwV 1 hts gX6_letter_X6_no rfl rfl rfl (by decide +kernel) ⟨Nat.le_of_ble_eq_true rfl, Nat.le_of_ble_eq_true rfl⟩) hK hN hP hD hS hA 0 6 rfl rfl rfl [0, 1] [2] rfl (by decide) rfl (by decide) (by decide) rfl hl.1 rfl (Nat.le_of_ble_eq_true rfl) dX6_letter_31 ⟨Nat.zero_le _, Nat.zero_le _⟩ (fun r_31 u H locs hw hP hD hS => ?_)
      obtain ⟨G_31, rfl⟩ : ∃ z, z = u := ⟨_, rfl⟩
      try dsimp only at hw
      obtain ⟨q1_31, q2_31⟩ := hw
      have q1_31 := q1_31.symm
      subst q1_31
      have q2_31 := q2_31.symm
      subst q2_31
      have hP : va_P D vwCl [(y, .inr (6, [.ref yr, .int mq, .int mn, .ref yw, .ref yc, .int mc, .ref yl, .int me, .ref ys, .ref yp, .ref ym, .int md, .ref yo, .ref yk, .ref yt, .int mz, .ref yi, .ref yz, .ref yx, .ref yu, .int km, .int kr])), (yr, .inl (cI, 7, .inl (md_bump G (-6)))), (yl, .inl (cI, 72, .inl lf))] H := hP.sub [1, 2, 0] rfl
      have hD : va_D A [(y, .inr (6, [.ref yr, .int mq, .int mn, .ref yw, .ref yc, .int mc, .ref yl, .int me, .ref ys, .ref yp, .ref ym, .int md, .ref yo, .ref yk, .ref yt, .int mz, .ref yi, .ref yz, .ref yx, .ref yu, .int km, .int kr])), (yr, .inl (cI, 7, .inl (md_bump G (-6)))), (yl, .inl (cI, 72, .inl lf))] := hD.sub [1, 2, 0] (by decide) rfl
      exact wrI (w1 := (fun (u : Int32 × (Nat → Int32) × (Nat → Int32)) => [(y, .inr (6, [.ref yr, .int mq, .int mn, .ref yw, .ref yc, .int mc, .ref yl, .int u.1, .ref ys, .ref yp, .ref ym, .int md, .ref yo, .ref yk, .ref yt, .int mz, .ref yi, .ref yz, .ref yx, .ref yu, .int km, .int kr])), (yr, .inl (cI, 7, .inl u.2.1)), (yl, .inl (cI, 72, .inl u.2.2))])) (me, (md_bump G (-6)), lf) hx hb hr hlocks dX6_letter_34 hS (hP.sub [0, 1, 2] rfl) (hD.sub [0, 1, 2] (by decide) rfl) (by have e9 := let_6 c_10 (z := me) (by rw [c_25]; exact Int32.le_refl _); simp [e9])
  · skip
    refine lv_aload_n hx hb dX6_letter_13 rfl (lv_at hl 1 rfl) ?_
    refine lv_iload_n hx hb dX6_letter_14 rfl (lv_at hl 0 rfl) ?_
    refine wrVi (As := [.int (rng x0 0 255)]) (rest := []) (wr := [(yl, .inl (cI, 72, .inl lf))]) (A := A) ⟨hx, hb, hml, hown, hts⟩ (c_X6_no l D cI cZ cR y yr yw yc yl ys yp ym yo yk yt yi yz yx yu mq mn mc me md mz km kr G (rng x0 0 255) (rng_le _ _ _) s.heap.size) (cwV 1 hts gX6_letter_X6_no rfl rfl rfl (by decide +kernel) ⟨Nat.le_of_ble_eq_true rfl, Nat.le_of_ble_eq_true rfl⟩) hK hN hP hD hS hA 0 6 rfl rfl rfl [0, 1] [2] rfl (by decide) rfl (by decide) (by decide) rfl hl.1 rfl (Nat.le_of_ble_eq_true rfl) dX6_letter_15 ⟨Nat.zero_le _, Nat.zero_le _⟩ (fun r_15 u H locs hw hP hD hS => ?_)
    obtain ⟨G_15, rfl⟩ : ∃ z, z = u := ⟨_, rfl⟩
    try dsimp only at hw
    obtain ⟨q1_15, q2_15⟩ := hw
    have q1_15 := q1_15.symm
    subst q1_15
    have q2_15 := q2_15.symm
    subst q2_15
    have hP : va_P D vwCl [(y, .inr (6, [.ref yr, .int mq, .int mn, .ref yw, .ref yc, .int mc, .ref yl, .int me, .ref ys, .ref yp, .ref ym, .int md, .ref yo, .ref yk, .ref yt, .int mz, .ref yi, .ref yz, .ref yx, .ref yu, .int km, .int kr])), (yr, .inl (cI, 7, .inl (md_bump G (rng x0 0 255)))), (yl, .inl (cI, 72, .inl lf))] H := hP.sub [1, 2, 0] rfl
    have hD : va_D A [(y, .inr (6, [.ref yr, .int mq, .int mn, .ref yw, .ref yc, .int mc, .ref yl, .int me, .ref ys, .ref yp, .ref ym, .int md, .ref yo, .ref yk, .ref yt, .int mz, .ref yi, .ref yz, .ref yx, .ref yu, .int km, .int kr])), (yr, .inl (cI, 7, .inl (md_bump G (rng x0 0 255)))), (yl, .inl (cI, 72, .inl lf))] := hD.sub [1, 2, 0] (by decide) rfl
    exact wrI (w1 := (fun (u : Int32 × (Nat → Int32) × (Nat → Int32)) => [(y, .inr (6, [.ref yr, .int mq, .int mn, .ref yw, .ref yc, .int mc, .ref yl, .int u.1, .ref ys, .ref yp, .ref ym, .int md, .ref yo, .ref yk, .ref yt, .int mz, .ref yi, .ref yz, .ref yx, .ref yu, .int km, .int kr])), (yr, .inl (cI, 7, .inl u.2.1)), (yl, .inl (cI, 72, .inl u.2.2))])) (me, (md_bump G (rng x0 0 255)), lf) hx hb hr hlocks dX6_letter_18 hS (hP.sub [0, 1, 2] rfl) (hD.sub [0, 1, 2] (by decide) rfl) (by have e9 := let_r (z := me) c_10; simp [e9, c_10])

set_option maxHeartbeats 4000000 in
set_option maxRecDepth 100000 in
theorem c_X6_circle (l : Launch) (D : va_G) (cI cZ cR : ClassId) (y yr yw yc yl ys yp ym yo yk yt yi yz yx yu : Nat) (mq mn mc me md mz km kr : Int32) (G : Nat → Int32) (v : Nat → Int32) (n : Int32) (hq : okQ mq) (hmn : 0 ≤ mn) (hm5 : mn ≤ 5) (hws : ∀ w, 0 ≤ w ∧ w < mn → okW mq v w) (sz : Nat) : Met l yX6_circle wsX6_circle ({ frames := 1, cells := 0, slots := 0, locals := 22 }) (PcW D cI cZ cR [.ref y, .int n] [(y, .inr (6, [.ref yr, .int mq, .int mn, .ref yw, .ref yc, .int mc, .ref yl, .int me, .ref ys, .ref yp, .ref ym, .int md, .ref yo, .ref yk, .ref yt, .int mz, .ref yi, .ref yz, .ref yx, .ref yu, .int km, .int kr])), (yr, .inl (cI, 7, .inl G)), (yw, .inl (cI, 20, .inl v))] sz) (va_Qi (fun (res : Int32) (u : Int32 × Int32 × (Nat → Int32)) => res = (if rf_cir v mn n = 0 then mq else rf_cir v mn n) ∧ u.1 = (if rf_cir v mn n = 0 then n else mq) ∧ u.2.1 = (if rf_cir v mn n = 0 then 0 else mc) ∧ u.2.2 = (if rf_cir v mn n = 0 then G else md_bump G (rf_cir v mn n))) (Bw D (fun (u : Int32 × Int32 × (Nat → Int32)) => [(y, .inr (6, [.ref yr, .int u.1, .int mn, .ref yw, .ref yc, .int u.2.1, .ref yl, .int me, .ref ys, .ref yp, .ref ym, .int md, .ref yo, .ref yk, .ref yt, .int mz, .ref yi, .ref yz, .ref yx, .ref yu, .int km, .int kr])), (yr, .inl (cI, 7, .inl u.2.2)), (yw, .inl (cI, 20, .inl v))]) (va_A [(y, .inr (6, [.ref yr, .int mq, .int mn, .ref yw, .ref yc, .int mc, .ref yl, .int me, .ref ys, .ref yp, .ref ym, .int md, .ref yo, .ref yk, .ref yt, .int mz, .ref yi, .ref yz, .ref yx, .ref yu, .int km, .int kr])), (yr, .inl (cI, 7, .inl G)), (yw, .inl (cI, 20, .inl v))] sz)) (va_A [(y, .inr (6, [.ref yr, .int mq, .int mn, .ref yw, .ref yc, .int mc, .ref yl, .int me, .ref ys, .ref yp, .ref ym, .int md, .ref yo, .ref yk, .ref yt, .int mz, .ref yi, .ref yz, .ref yx, .ref yu, .int km, .int kr])), (yr, .inl (cI, 7, .inl G)), (yw, .inl (cI, 20, .inl v))] sz)) 0 0 (va_A [(y, .inr (6, [.ref yr, .int mq, .int mn, .ref yw, .ref yc, .int mc, .ref yl, .int me, .ref ys, .ref yp, .ref ym, .int md, .ref yo, .ref yk, .ref yt, .int mz, .ref yi, .ref yz, .ref yx, .ref yu, .int km, .int kr])), (yr, .inl (cI, 7, .inl G)), (yw, .inl (cI, 20, .inl v))] sz) := by
  refine Met.ofW (cc := cX6_circle) (maxL := 4) (ret := (some .int)) (by decide) rfl ?_
  intro p e s m args below meth c s₁ B hml hv
  obtain ⟨rfl, hsz, hP, hK, hD0, hN⟩ := hv
  have hx := B.exec
  have hb := B.bytes
  have hr := B.returns
  have hts := atoms_spec (ws := wsX6_circle) B.pre
  have hown : s.vm.findClass RX6 = some m.cls := findClass_of_methodNamed B.named
  have hlocks := B.notSynchronized
  subst hsz
  have hD := hD0.self (sz := s.heap.size)
  generalize hAe : va_A [(y, .inr (6, [.ref yr, .int mq, .int mn, .ref yw, .ref yc, .int mc, .ref yl, .int me, .ref ys, .ref yp, .ref ym, .int md, .ref yo, .ref yk, .ref yt, .int mz, .ref yi, .ref yz, .ref yx, .ref yu, .int km, .int kr])), (yr, .inl (cI, 7, .inl G)), (yw, .inl (cI, 20, .inl v))] s.heap.size = A at hD ⊢
  have hA : ∀ q : Nat, s.heap.size ≤ q → A q := fun q h => by rw [← hAe]; exact Or.inr h
  have hS : va_S A s.heap s.heap [] := va_S.rf
  have hP : va_P D vwCl [(y, .inr (6, [.ref yr, .int mq, .int mn, .ref yw, .ref yc, .int mc, .ref yl, .int me, .ref ys, .ref yp, .ref ym, .int md, .ref yo, .ref yk, .ref yt, .int mz, .ref yi, .ref yz, .ref yx, .ref yu, .int km, .int kr])), (yr, .inl (cI, 7, .inl G)), (yw, .inl (cI, 20, .inl v))] s.heap := hP
  have hl := lv_entry ([.ref y, .int n]) (n := 4) (Nat.le_of_ble_eq_true rfl)
  rw [lg_entry_eq]
  generalize (lg_sl ([.ref y, .int n]) ++ List.replicate (4 - (lg_sl ([.ref y, .int n])).length) Slot.unset).toArray = ls at hl ⊢
  have hl : lv_has ls 4 [(0, .ref y), (1, .int n)] := hl
  refine lv_iload_n hx hb dX6_circle_0 rfl (lv_at hl 1 rfl) ?_
  refine lv_iconst (v := 2) hx hb dX6_circle_1 (by decide) ?_
  refine lv_sipush (v := 2000) hx hb dX6_circle_2 (by decide) ?_
  refine rdS (As := [.int n, .int 2, .int 2000]) (rest := []) ⟨hx, hb, hml, hown, hts⟩ (c_X6_range l D cI cZ cR n 2 2000 ) (va_cwS 3 hts gX6_circle_X6_range rfl rfl rfl (by decide +kernel) ⟨Nat.le_of_ble_eq_true rfl, Nat.le_of_ble_eq_true rfl⟩) hK hN hP [] rfl rfl hl.1 rfl (Nat.le_of_ble_eq_true rfl) dX6_circle_5 ⟨Nat.zero_le _, Nat.zero_le _⟩ ?_
  refine lv_istore_n (lv' := [(2, .int (rng n 2 2000)), (0, .ref y), (1, .int n)]) hx hb dX6_circle_8 rfl hl (by decide) rfl (fun ls hl => ?_)
  refine lv_iload_n hx hb dX6_circle_9 rfl (lv_at hl 0 rfl) ?_
  refine lv_if_eq (tgt := 19) hx hb dX6_circle_10 (by decide) (fun c_10 => ?_) (fun c_10 => ?_)
  · skip
    refine lv_iconst (v := 0) hx hb dX6_circle_19 (by decide) ?_
    refine lv_istore_n (lv' := [(3, .int 0), (2, .int (rng n 2 2000)), (0, .ref y), (1, .int n)]) hx hb dX6_circle_20 rfl hl (by decide) rfl (fun ls hl => ?_)
    have loop_21 : ∀ (fuel : Nat), ∀ (i : Nat), (i ≤ mn.toNatClampNeg) → (∀ j, j < i → rg_val v (nI j) 1 < n ∧ rg_val v (nI j) 2 < n) → (mn.toNatClampNeg + 1 ≤ i + fuel) → ∀ (y3 : Int32), y3 = nI i → ∀ (ls : Array Slot), lv_has ls 4 [(3, .int y3), (0, .ref y), (1, .int n), (2, .int (rng n 2 2000))] → W p l e (headSpec wsX6_circle ({ frames := 1, cells := 0, slots := 0, locals := 22 })).room s m ([.ref y, .int n] : List Value).toArray below meth c s.heap [] 0 0 (MQ below (va_Qi (fun (res : Int32) (u : Int32 × Int32 × (Nat → Int32)) => res = (if rf_cir v mn n = 0 then mq else rf_cir v mn n) ∧ u.1 = (if rf_cir v mn n = 0 then n else mq) ∧ u.2.1 = (if rf_cir v mn n = 0 then 0 else mc) ∧ u.2.2 = (if rf_cir v mn n = 0 then G else md_bump G (rf_cir v mn n))) (Bw D (fun (u : Int32 × Int32 × (Nat → Int32)) => [(y, .inr (6, [.ref yr, .int u.1, .int mn, .ref yw, .ref yc, .int u.2.1, .ref yl, .int me, .ref ys, .ref yp, .ref ym, .int md, .ref yo, .ref yk, .ref yt, .int mz, .ref yi, .ref yz, .ref yx, .ref yu, .int km, .int kr])), (yr, .inl (cI, 7, .inl u.2.2)), (yw, .inl (cI, 20, .inl v))]) A) A) ([.ref y, .int n] : List Value).toArray s 0 0 A) (F0 m 21 ls []) := by
      intro fuel
      induction fuel with
      | zero =>
        intro i hi hg hfu
        exact False.elim (by omega)
      | succ fuel ih_21 =>
        intro i hi hg hfu y3 ey3 ls hl
        subst ey3
        refine lv_iload_n hx hb dX6_circle_21 rfl (lv_at hl 0 rfl) ?_
        refine lv_aload_n hx hb dX6_circle_22 rfl (lv_at hl 1 rfl) ?_
        refine va_get (D := D) (ci := 6) (v := .int mn) (C := RX6) (T := TX6) (N := 22) hx hb hts (in_X6_circle_X6) hown hK hP 0 rfl rfl 2 (by decide) (hts (.fieldLink RX6 70 "StepsRoundCircleModel" "many" "I") (by decide +kernel)) (fun _ h9 => h9) rfl dX6_circle_23 ?_
        refine lv_icmp_ge (tgt := 62) hx hb dX6_circle_26 (by decide) (fun c_26 => ?_) (fun c_26 => ?_)
        · skip
          have hya : allB v mn n := fun j hj => hg j (by have := (le_clamp (by have := clamp_lt mn; omega)).mp c_26; omega)
          refine lv_aload_n hx hb dX6_circle_62 rfl (lv_at hl 1 rfl) ?_
          refine va_get (D := D) (ci := 6) (v := .int mq) (C := RX6) (T := TX6) (N := 22) hx hb hts (in_X6_circle_X6) hown hK hP 0 rfl rfl 1 (by decide) (hts (.fieldLink RX6 13 "StepsRoundCircleModel" "round" "I") (by decide +kernel)) (fun _ h9 => h9) rfl dX6_circle_63 ?_
          refine lv_istore_n (lv' := [(3, .int mq), (0, .ref y), (1, .int n), (2, .int (rng n 2 2000))]) hx hb dX6_circle_66 rfl hl (by decide) rfl (fun ls hl => ?_)
          refine lv_aload_n hx hb dX6_circle_67 rfl (lv_at hl 1 rfl) ?_
          refine lv_iload_n hx hb dX6_circle_68 rfl (lv_at hl 2 rfl) ?_
          refine va_put (D := D) (ci := 6) (v := .int n) (ty := .int) (C := RX6) (T := TX6) (N := 22) hx hb hts (in_X6_circle_X6) tyX6 tyX6_ok nmX6 hown hK hP hD hS 0 rfl rfl 1 (by decide) (hts (.fieldLink RX6 13 "StepsRoundCircleModel" "round" "I") (by decide +kernel)) (fun _ h9 => h9) rfl (by decide +kernel) rfl rfl (Nat.le_of_ble_eq_true rfl) dX6_circle_69 (fun H locs hP hD hS => ?_)
          have hP : va_P D vwCl [(y, .inr (6, [.ref yr, .int n, .int mn, .ref yw, .ref yc, .int mc, .ref yl, .int me, .ref ys, .ref yp, .ref ym, .int md, .ref yo, .ref yk, .ref yt, .int mz, .ref yi, .ref yz, .ref yx, .ref yu, .int km, .int kr])), (yr, .inl (cI, 7, .inl G)), (yw, .inl (cI, 20, .inl v))] H := hP
          have hD : va_D A [(y, .inr (6, [.ref yr, .int n, .int mn, .ref yw, .ref yc, .int mc, .ref yl, .int me, .ref ys, .ref yp, .ref ym, .int md, .ref yo, .ref yk, .ref yt, .int mz, .ref yi, .ref yz, .ref yx, .ref yu, .int km, .int kr])), (yr, .inl (cI, 7, .inl G)), (yw, .inl (cI, 20, .inl v))] := hD
          refine lv_aload_n hx hb dX6_circle_72 rfl (lv_at hl 1 rfl) ?_
          refine lv_iconst (v := 0) hx hb dX6_circle_73 (by decide) ?_
          refine va_put (D := D) (ci := 6) (v := .int 0) (ty := .int) (C := RX6) (T := TX6) (N := 22) hx hb hts (in_X6_circle_X6) tyX6 tyX6_ok nmX6 hown hK hP hD hS 0 rfl rfl 5 (by decide) (hts (.fieldLink RX6 102 "StepsRoundCircleModel" "changes" "I") (by decide +kernel)) (fun _ h9 => h9) rfl (by decide +kernel) rfl rfl (Nat.le_of_ble_eq_true rfl) dX6_circle_74 (fun H locs hP hD hS => ?_)
          have hP : va_P D vwCl [(y, .inr (6, [.ref yr, .int n, .int mn, .ref yw, .ref yc, .int 0, .ref yl, .int me, .ref ys, .ref yp, .ref ym, .int md, .ref yo, .ref yk, .ref yt, .int mz, .ref yi, .ref yz, .ref yx, .ref yu, .int km, .int kr])), (yr, .inl (cI, 7, .inl G)), (yw, .inl (cI, 20, .inl v))] H := hP
          have hD : va_D A [(y, .inr (6, [.ref yr, .int n, .int mn, .ref yw, .ref yc, .int 0, .ref yl, .int me, .ref ys, .ref yp, .ref ym, .int md, .ref yo, .ref yk, .ref yt, .int mz, .ref yi, .ref yz, .ref yx, .ref yu, .int km, .int kr])), (yr, .inl (cI, 7, .inl G)), (yw, .inl (cI, 20, .inl v))] := hD
          refine lv_iload_n hx hb dX6_circle_77 rfl (lv_at hl 0 rfl) ?_
          exact wrI (w1 := (fun (u : Int32 × Int32 × (Nat → Int32)) => [(y, .inr (6, [.ref yr, .int u.1, .int mn, .ref yw, .ref yc, .int u.2.1, .ref yl, .int me, .ref ys, .ref yp, .ref ym, .int md, .ref yo, .ref yk, .ref yt, .int mz, .ref yi, .ref yz, .ref yx, .ref yu, .int km, .int kr])), (yr, .inl (cI, 7, .inl u.2.2)), (yw, .inl (cI, 20, .inl v))])) (n, 0, G) hx hb hr hlocks dX6_circle_78 hS (hP.sub [0, 1, 2] rfl) (hD.sub [0, 1, 2] (by decide) rfl) (by have e9 := cir_0 c_10 hya; simp [e9])
        · skip
          have hiN : i < mn.toNatClampNeg := (lt_clamp (by have := clamp_lt mn; omega)).mp (Int32.not_le.mp c_26)
          refine lv_aload_n hx hb dX6_circle_29 rfl (lv_at hl 1 rfl) ?_
          refine lv_iload_n hx hb dX6_circle_30 rfl (lv_at hl 0 rfl) ?_
          refine lv_iconst (v := 1) hx hb dX6_circle_31 (by decide) ?_
          refine rdV (As := [.int (nI i), .int 1]) (rest := []) ⟨hx, hb, hml, hown, hts⟩ (c_X6_at l D cI cZ cR y yr yw yc yl ys yp ym yo yk yt yi yz yx yu mq mn mc me md mz km kr v (nI i) 1 (iw5 hm5 hiN) (by decide)) (cwV 2 hts gX6_circle_X6_at rfl rfl rfl (by decide +kernel) ⟨Nat.le_of_ble_eq_true rfl, Nat.le_of_ble_eq_true rfl⟩) hK hN hP 0 6 rfl rfl rfl [0, 2] rfl rfl hl.1 rfl (Nat.le_of_ble_eq_true rfl) dX6_circle_32 ⟨Nat.zero_le _, Nat.zero_le _⟩ ?_
          refine lv_iload_n hx hb dX6_circle_35 rfl (lv_at hl 2 rfl) ?_
          refine lv_icmp_ge (tgt := 49) hx hb dX6_circle_36 (by decide) (fun c_36 => ?_) (fun c_36 => ?_)
          · skip
            have hna : ¬ allB v mn n := fun h => by have h9 := h i hiN; exact absurd h9.1 (Int32.not_lt.mpr c_36)
            refine lv_aload_n hx hb dX6_circle_49 rfl (lv_at hl 1 rfl) ?_
            refine lv_bipush (v := (-3)) hx hb dX6_circle_50 (by decide) ?_
            refine wrVi (As := [.int (-3)]) (rest := []) (wr := [(yw, .inl (cI, 20, .inl v))]) (A := A) ⟨hx, hb, hml, hown, hts⟩ (c_X6_no l D cI cZ cR y yr yw yc yl ys yp ym yo yk yt yi yz yx yu mq mn mc me md mz km kr G (-3) (by decide) s.heap.size) (cwV 1 hts gX6_circle_X6_no rfl rfl rfl (by decide +kernel) ⟨Nat.le_of_ble_eq_true rfl, Nat.le_of_ble_eq_true rfl⟩) hK hN hP hD hS hA 0 6 rfl rfl rfl [0, 1] [2] rfl (by decide) rfl (by decide) (by decide) rfl hl.1 rfl (Nat.le_of_ble_eq_true rfl) dX6_circle_52 ⟨Nat.zero_le _, Nat.zero_le _⟩ (fun r_52 u H locs hw hP hD hS => ?_)
            obtain ⟨G_52, rfl⟩ : ∃ z, z = u := ⟨_, rfl⟩
            try dsimp only at hw
            obtain ⟨q1_52, q2_52⟩ := hw
            have q1_52 := q1_52.symm
            subst q1_52
            have q2_52 := q2_52.symm
            subst q2_52
            have hP : va_P D vwCl [(y, .inr (6, [.ref yr, .int mq, .int mn, .ref yw, .ref yc, .int mc, .ref yl, .int me, .ref ys, .ref yp, .ref ym, .int md, .ref yo, .ref yk, .ref yt, .int mz, .ref yi, .ref yz, .ref yx, .ref yu, .int km, .int kr])), (yr, .inl (cI, 7, .inl (md_bump G (-3)))), (yw, .inl (cI, 20, .inl v))] H := hP.sub [1, 2, 0] rfl
            have hD : va_D A [(y, .inr (6, [.ref yr, .int mq, .int mn, .ref yw, .ref yc, .int mc, .ref yl, .int me, .ref ys, .ref yp, .ref ym, .int md, .ref yo, .ref yk, .ref yt, .int mz, .ref yi, .ref yz, .ref yx, .ref yu, .int km, .int kr])), (yr, .inl (cI, 7, .inl (md_bump G (-3)))), (yw, .inl (cI, 20, .inl v))] := hD.sub [1, 2, 0] (by decide) rfl
            exact wrI (w1 := (fun (u : Int32 × Int32 × (Nat → Int32)) => [(y, .inr (6, [.ref yr, .int u.1, .int mn, .ref yw, .ref yc, .int u.2.1, .ref yl, .int me, .ref ys, .ref yp, .ref ym, .int md, .ref yo, .ref yk, .ref yt, .int mz, .ref yi, .ref yz, .ref yx, .ref yu, .int km, .int kr])), (yr, .inl (cI, 7, .inl u.2.2)), (yw, .inl (cI, 20, .inl v))])) (mq, mc, (md_bump G (-3))) hx hb hr hlocks dX6_circle_55 hS (hP.sub [0, 1, 2] rfl) (hD.sub [0, 1, 2] (by decide) rfl) (by have e9 := cir_3 c_10 hna; simp [e9])
          · skip
            refine lv_aload_n hx hb dX6_circle_39 rfl (lv_at hl 1 rfl) ?_
            refine lv_iload_n hx hb dX6_circle_40 rfl (lv_at hl 0 rfl) ?_
            refine lv_iconst (v := 2) hx hb dX6_circle_41 (by decide) ?_
            refine rdV (As := [.int (nI i), .int 2]) (rest := []) ⟨hx, hb, hml, hown, hts⟩ (c_X6_at l D cI cZ cR y yr yw yc yl ys yp ym yo yk yt yi yz yx yu mq mn mc me md mz km kr v (nI i) 2 (iw5 hm5 hiN) (by decide)) (cwV 2 hts gX6_circle_X6_at rfl rfl rfl (by decide +kernel) ⟨Nat.le_of_ble_eq_true rfl, Nat.le_of_ble_eq_true rfl⟩) hK hN hP 0 6 rfl rfl rfl [0, 2] rfl rfl hl.1 rfl (Nat.le_of_ble_eq_true rfl) dX6_circle_42 ⟨Nat.zero_le _, Nat.zero_le _⟩ ?_
            refine lv_iload_n hx hb dX6_circle_45 rfl (lv_at hl 2 rfl) ?_
            refine lv_icmp_lt (tgt := 56) hx hb dX6_circle_46 (by decide) (fun c_46 => ?_) (fun c_46 => ?_)
            · skip
              refine lv_iinc (v := (nI i) + 1) (lv' := [(3, .int ((nI i) + 1)), (0, .ref y), (1, .int n), (2, .int (rng n 2 2000))]) hx hb dX6_circle_56 hl (k := 0) rfl (by rfl) (by decide) rfl (fun ls hl => ?_)
              refine lv_goto (tgt := 21) hx hb dX6_circle_59 (by decide) ?_
              exact ih_21 (i + 1) (by omega) (lt_s hg ⟨Int32.not_le.mp c_36, c_46⟩) (by omega) _ (by first | rfl | exact nI_1 _ | exact nI_0.symm) ls (lv_sub hl [0, 1, 2, 3] rfl)
            · skip
              have hna : ¬ allB v mn n := fun h => by have h9 := h i hiN; exact c_46 h9.2
              refine lv_aload_n hx hb dX6_circle_49 rfl (lv_at hl 1 rfl) ?_
              refine lv_bipush (v := (-3)) hx hb dX6_circle_50 (by decide) ?_
              refine wrVi (As := [.int (-3)]) (rest := []) (wr := [(yw, .inl (cI, 20, .inl v))]) (A := A) ⟨hx, hb, hml, hown, hts⟩ (c_X6_no l D cI cZ cR y yr yw yc yl ys yp ym yo yk yt yi yz yx yu mq mn mc me md mz km kr G (-3) (by decide) s.heap.size) (cwV 1 hts gX6_circle_X6_no rfl rfl rfl (by decide +kernel) ⟨Nat.le_of_ble_eq_true rfl, Nat.le_of_ble_eq_true rfl⟩) hK hN hP hD hS hA 0 6 rfl rfl rfl [0, 1] [2] rfl (by decide) rfl (by decide) (by decide) rfl hl.1 rfl (Nat.le_of_ble_eq_true rfl) dX6_circle_52 ⟨Nat.zero_le _, Nat.zero_le _⟩ (fun r_52 u H locs hw hP hD hS => ?_)
              obtain ⟨G_52, rfl⟩ : ∃ z, z = u := ⟨_, rfl⟩
              try dsimp only at hw
              obtain ⟨q1_52, q2_52⟩ := hw
              have q1_52 := q1_52.symm
              subst q1_52
              have q2_52 := q2_52.symm
              subst q2_52
              have hP : va_P D vwCl [(y, .inr (6, [.ref yr, .int mq, .int mn, .ref yw, .ref yc, .int mc, .ref yl, .int me, .ref ys, .ref yp, .ref ym, .int md, .ref yo, .ref yk, .ref yt, .int mz, .ref yi, .ref yz, .ref yx, .ref yu, .int km, .int kr])), (yr, .inl (cI, 7, .inl (md_bump G (-3)))), (yw, .inl (cI, 20, .inl v))] H := hP.sub [1, 2, 0] rfl
              have hD : va_D A [(y, .inr (6, [.ref yr, .int mq, .int mn, .ref yw, .ref yc, .int mc, .ref yl, .int me, .ref ys, .ref yp, .ref ym, .int md, .ref yo, .ref yk, .ref yt, .int mz, .ref yi, .ref yz, .ref yx, .ref yu, .int km, .int kr])), (yr, .inl (cI, 7, .inl (md_bump G (-3)))), (yw, .inl (cI, 20, .inl v))] := hD.sub [1, 2, 0] (by decide) rfl
              exact wrI (w1 := (fun (u : Int32 × Int32 × (Nat → Int32)) => [(y, .inr (6, [.ref yr, .int u.1, .int mn, .ref yw, .ref yc, .int u.2.1, .ref yl, .int me, .ref ys, .ref yp, .ref ym, .int md, .ref yo, .ref yk, .ref yt, .int mz, .ref yi, .ref yz, .ref yx, .ref yu, .int km, .int kr])), (yr, .inl (cI, 7, .inl u.2.2)), (yw, .inl (cI, 20, .inl v))])) (mq, mc, (md_bump G (-3))) hx hb hr hlocks dX6_circle_55 hS (hP.sub [0, 1, 2] rfl) (hD.sub [0, 1, 2] (by decide) rfl) (by have e9 := cir_3 c_10 hna; simp [e9])
    exact loop_21 (mn.toNatClampNeg + 1) 0 (by omega) (fun j hj => absurd hj (Nat.not_lt_zero j)) (by omega) _ (by first | rfl | exact nI_1 _ | exact nI_0.symm) ls (lv_sub hl [0, 2, 3, 1] rfl)
  · skip
    refine lv_aload_n hx hb dX6_circle_13 rfl (lv_at hl 1 rfl) ?_
    refine lv_iload_n hx hb dX6_circle_14 rfl (lv_at hl 0 rfl) ?_
    refine wrVi (As := [.int (rng n 2 2000)]) (rest := []) (wr := [(yw, .inl (cI, 20, .inl v))]) (A := A) ⟨hx, hb, hml, hown, hts⟩ (c_X6_no l D cI cZ cR y yr yw yc yl ys yp ym yo yk yt yi yz yx yu mq mn mc me md mz km kr G (rng n 2 2000) (rng_le _ _ _) s.heap.size) (cwV 1 hts gX6_circle_X6_no rfl rfl rfl (by decide +kernel) ⟨Nat.le_of_ble_eq_true rfl, Nat.le_of_ble_eq_true rfl⟩) hK hN hP hD hS hA 0 6 rfl rfl rfl [0, 1] [2] rfl (by decide) rfl (by decide) (by decide) rfl hl.1 rfl (Nat.le_of_ble_eq_true rfl) dX6_circle_15 ⟨Nat.zero_le _, Nat.zero_le _⟩ (fun r_15 u H locs hw hP hD hS => ?_)
    obtain ⟨G_15, rfl⟩ : ∃ z, z = u := ⟨_, rfl⟩
    try dsimp only at hw
    obtain ⟨q1_15, q2_15⟩ := hw
    have q1_15 := q1_15.symm
    subst q1_15
    have q2_15 := q2_15.symm
    subst q2_15
    have hP : va_P D vwCl [(y, .inr (6, [.ref yr, .int mq, .int mn, .ref yw, .ref yc, .int mc, .ref yl, .int me, .ref ys, .ref yp, .ref ym, .int md, .ref yo, .ref yk, .ref yt, .int mz, .ref yi, .ref yz, .ref yx, .ref yu, .int km, .int kr])), (yr, .inl (cI, 7, .inl (md_bump G (rng n 2 2000)))), (yw, .inl (cI, 20, .inl v))] H := hP.sub [1, 2, 0] rfl
    have hD : va_D A [(y, .inr (6, [.ref yr, .int mq, .int mn, .ref yw, .ref yc, .int mc, .ref yl, .int me, .ref ys, .ref yp, .ref ym, .int md, .ref yo, .ref yk, .ref yt, .int mz, .ref yi, .ref yz, .ref yx, .ref yu, .int km, .int kr])), (yr, .inl (cI, 7, .inl (md_bump G (rng n 2 2000)))), (yw, .inl (cI, 20, .inl v))] := hD.sub [1, 2, 0] (by decide) rfl
    exact wrI (w1 := (fun (u : Int32 × Int32 × (Nat → Int32)) => [(y, .inr (6, [.ref yr, .int u.1, .int mn, .ref yw, .ref yc, .int u.2.1, .ref yl, .int me, .ref ys, .ref yp, .ref ym, .int md, .ref yo, .ref yk, .ref yt, .int mz, .ref yi, .ref yz, .ref yx, .ref yu, .int km, .int kr])), (yr, .inl (cI, 7, .inl u.2.2)), (yw, .inl (cI, 20, .inl v))])) (mq, mc, (md_bump G (rng n 2 2000))) hx hb hr hlocks dX6_circle_18 hS (hP.sub [0, 1, 2] rfl) (hD.sub [0, 1, 2] (by decide) rfl) (by have e9 := cir_r (v := v) (nw := mn) c_10; simp [e9, c_10])

set_option maxHeartbeats 4000000 in
set_option maxRecDepth 100000 in
theorem c_X6_farOf (l : Launch) (D : va_G) (cI cZ cR : ClassId) (y yr yw yc yl ys yp ym yo yk yt yi yz yx yu : Nat) (mq mn mc me md mz km kr : Int32) (v : Nat → Int32) (w : Int32) (i : Nat) (hq : okQ mq) (hw : 0 ≤ w ∧ w < 5) (hv : okW mq v w) (hi : i ≤ 4000) : Met l yX6_farOf wsX6_farOf ({ frames := 3, cells := 0, slots := 0, locals := 74 }) (PcR D cI cZ cR [.ref y, .int w, .int (nI i)] [(y, .inr (6, [.ref yr, .int mq, .int mn, .ref yw, .ref yc, .int mc, .ref yl, .int me, .ref ys, .ref yp, .ref ym, .int md, .ref yo, .ref yk, .ref yt, .int mz, .ref yi, .ref yz, .ref yx, .ref yu, .int km, .int kr])), (yw, .inl (cI, 20, .inl v))]) (k2_QcV (.int (far mq v w i))) 0 0 (fun _ => False) := by
  refine Met.ofW (cc := cX6_farOf) (maxL := 4) (ret := (some .int)) (by decide) rfl ?_
  intro p e s m args below meth c s₁ B hml hv
  obtain ⟨rfl, hP, hK, hN⟩ := hv
  have hx := B.exec
  have hb := B.bytes
  have hr := B.returns
  have hts := atoms_spec (ws := wsX6_farOf) B.pre
  have hown : s.vm.findClass RX6 = some m.cls := findClass_of_methodNamed B.named
  have hlocks := B.notSynchronized
  have hP : va_P D vwCl [(y, .inr (6, [.ref yr, .int mq, .int mn, .ref yw, .ref yc, .int mc, .ref yl, .int me, .ref ys, .ref yp, .ref ym, .int md, .ref yo, .ref yk, .ref yt, .int mz, .ref yi, .ref yz, .ref yx, .ref yu, .int km, .int kr])), (yw, .inl (cI, 20, .inl v))] s.heap := hP
  have hl := lv_entry ([.ref y, .int w, .int (nI i)]) (n := 4) (Nat.le_of_ble_eq_true rfl)
  rw [lg_entry_eq]
  generalize (lg_sl ([.ref y, .int w, .int (nI i)]) ++ List.replicate (4 - (lg_sl ([.ref y, .int w, .int (nI i)])).length) Slot.unset).toArray = ls at hl ⊢
  have hl : lv_has ls 4 [(0, .ref y), (1, .int w), (2, .int (nI i))] := hl
  refine lv_aload_n hx hb dX6_farOf_0 rfl (lv_at hl 0 rfl) ?_
  refine lv_iload_n hx hb dX6_farOf_1 rfl (lv_at hl 1 rfl) ?_
  refine lv_iload_n hx hb dX6_farOf_2 rfl (lv_at hl 2 rfl) ?_
  refine rdV (As := [.int w, .int (nI i)]) (rest := []) ⟨hx, hb, hml, hown, hts⟩ (c_X6_placeOf l D cI cZ cR y yr yw yc yl ys yp ym yo yk yt yi yz yx yu mq mn mc me md mz km kr v w (nI i) hq hw hv (⟨nI_pos' (by omega), nI_le (b := 4000) (by omega) (by omega)⟩)) (cwV 2 hts gX6_farOf_X6_placeOf rfl rfl rfl (by decide +kernel) ⟨Nat.le_of_ble_eq_true rfl, Nat.le_of_ble_eq_true rfl⟩) hK hN hP 0 6 rfl rfl rfl [0, 1] rfl rfl hl.1 rfl (Nat.le_of_ble_eq_true rfl) dX6_farOf_3 ⟨Nat.zero_le _, Nat.zero_le _⟩ ?_
  refine lv_aload_n hx hb dX6_farOf_6 rfl (lv_at hl 0 rfl) ?_
  refine lv_iload_n hx hb dX6_farOf_7 rfl (lv_at hl 1 rfl) ?_
  refine lv_iconst (v := 2) hx hb dX6_farOf_8 (by decide) ?_
  refine rdV (As := [.int w, .int 2]) (rest := [.int (rg_pb mq v (rg_val v w 0) w (nI i).toInt64)]) ⟨hx, hb, hml, hown, hts⟩ (c_X6_at l D cI cZ cR y yr yw yc yl ys yp ym yo yk yt yi yz yx yu mq mn mc me md mz km kr v w 2 hw (by decide)) (cwV 2 hts gX6_farOf_X6_at rfl rfl rfl (by decide +kernel) ⟨Nat.le_of_ble_eq_true rfl, Nat.le_of_ble_eq_true rfl⟩) hK hN hP 0 6 rfl rfl rfl [0, 1] rfl rfl hl.1 rfl (Nat.le_of_ble_eq_true rfl) dX6_farOf_9 ⟨Nat.zero_le _, Nat.zero_le _⟩ ?_
  refine lv_isub hx hb dX6_farOf_12 ?_
  have har := far_ar hq (plK_bd hq v w i) hv.2.2.1
  refine lv_topi (fun z_13 hz_13 => ?_)
  have hz_13 : z_13 = plK mq v w i - rg_val v w 2 := hz_13.trans rfl
  subst hz_13
  refine lv_istore_n (lv' := [(3, .int (plK mq v w i - rg_val v w 2)), (0, .ref y), (1, .int w), (2, .int (nI i))]) hx hb dX6_farOf_13 rfl hl (by decide) rfl (fun ls hl => ?_)
  refine lv_iload_n hx hb dX6_farOf_14 rfl (lv_at hl 0 rfl) ?_
  refine lv_if_ge (tgt := 27) hx hb dX6_farOf_15 (by decide) (fun c_15 => ?_) (fun c_15 => ?_)
  · skip
    refine lv_iload_n hx hb dX6_farOf_27 rfl (lv_at hl 0 rfl) ?_
    refine lv_istore_n (lv' := [(3, .int (plK mq v w i - rg_val v w 2)), (0, .ref y), (1, .int w), (2, .int (nI i))]) hx hb dX6_farOf_28 rfl hl (by decide) rfl (fun ls hl => ?_)
    refine lv_iload_n hx hb dX6_farOf_29 rfl (lv_at hl 0 rfl) ?_
    refine lv_aload_n hx hb dX6_farOf_30 rfl (lv_at hl 1 rfl) ?_
    refine va_get (D := D) (ci := 6) (v := .int mq) (C := RX6) (T := TX6) (N := 22) hx hb hts (in_X6_farOf_X6) hown hK hP 0 rfl rfl 1 (by decide) (hts (.fieldLink RX6 13 "StepsRoundCircleModel" "round" "I") (by decide +kernel)) (fun _ h9 => h9) rfl dX6_farOf_31 ?_
    refine lv_iload_n hx hb dX6_farOf_34 rfl (lv_at hl 0 rfl) ?_
    refine lv_isub hx hb dX6_farOf_35 ?_
    refine lv_icmp_ge (tgt := 43) hx hb dX6_farOf_36 (by decide) (fun c_36 => ?_) (fun c_36 => ?_)
    · skip
      refine lv_aload_n hx hb dX6_farOf_43 rfl (lv_at hl 1 rfl) ?_
      refine va_get (D := D) (ci := 6) (v := .int mq) (C := RX6) (T := TX6) (N := 22) hx hb hts (in_X6_farOf_X6) hown hK hP 0 rfl rfl 1 (by decide) (hts (.fieldLink RX6 13 "StepsRoundCircleModel" "round" "I") (by decide +kernel)) (fun _ h9 => h9) rfl dX6_farOf_44 ?_
      refine lv_iload_n hx hb dX6_farOf_47 rfl (lv_at hl 0 rfl) ?_
      refine lv_isub hx hb dX6_farOf_48 ?_
      exact rdI hx hb hr hlocks dX6_farOf_49 (by unfold far fars; rw [har, if_pos c_15]; exact min_1 c_36)
    · skip
      refine lv_iload_n hx hb dX6_farOf_39 rfl (lv_at hl 0 rfl) ?_
      refine lv_goto (tgt := 49) hx hb dX6_farOf_40 (by decide) ?_
      exact rdI hx hb hr hlocks dX6_farOf_49 (by unfold far fars; rw [har, if_pos c_15]; exact min_2 c_36)
  · skip
    refine lv_iload_n hx hb dX6_farOf_18 rfl (lv_at hl 0 rfl) ?_
    refine lv_aload_n hx hb dX6_farOf_19 rfl (lv_at hl 1 rfl) ?_
    refine va_get (D := D) (ci := 6) (v := .int mq) (C := RX6) (T := TX6) (N := 22) hx hb hts (in_X6_farOf_X6) hown hK hP 0 rfl rfl 1 (by decide) (hts (.fieldLink RX6 13 "StepsRoundCircleModel" "round" "I") (by decide +kernel)) (fun _ h9 => h9) rfl dX6_farOf_20 ?_
    refine lv_iadd hx hb dX6_farOf_23 ?_
    refine lv_goto (tgt := 28) hx hb dX6_farOf_24 (by decide) ?_
    refine lv_istore_n (lv' := [(3, .int ((plK mq v w i - rg_val v w 2) + mq)), (0, .ref y), (1, .int w), (2, .int (nI i))]) hx hb dX6_farOf_28 rfl hl (by decide) rfl (fun ls hl => ?_)
    refine lv_iload_n hx hb dX6_farOf_29 rfl (lv_at hl 0 rfl) ?_
    refine lv_aload_n hx hb dX6_farOf_30 rfl (lv_at hl 1 rfl) ?_
    refine va_get (D := D) (ci := 6) (v := .int mq) (C := RX6) (T := TX6) (N := 22) hx hb hts (in_X6_farOf_X6) hown hK hP 0 rfl rfl 1 (by decide) (hts (.fieldLink RX6 13 "StepsRoundCircleModel" "round" "I") (by decide +kernel)) (fun _ h9 => h9) rfl dX6_farOf_31 ?_
    refine lv_iload_n hx hb dX6_farOf_34 rfl (lv_at hl 0 rfl) ?_
    refine lv_isub hx hb dX6_farOf_35 ?_
    refine lv_icmp_ge (tgt := 43) hx hb dX6_farOf_36 (by decide) (fun c_36 => ?_) (fun c_36 => ?_)
    · skip
      refine lv_aload_n hx hb dX6_farOf_43 rfl (lv_at hl 1 rfl) ?_
      refine va_get (D := D) (ci := 6) (v := .int mq) (C := RX6) (T := TX6) (N := 22) hx hb hts (in_X6_farOf_X6) hown hK hP 0 rfl rfl 1 (by decide) (hts (.fieldLink RX6 13 "StepsRoundCircleModel" "round" "I") (by decide +kernel)) (fun _ h9 => h9) rfl dX6_farOf_44 ?_
      refine lv_iload_n hx hb dX6_farOf_47 rfl (lv_at hl 0 rfl) ?_
      refine lv_isub hx hb dX6_farOf_48 ?_
      exact rdI hx hb hr hlocks dX6_farOf_49 (by unfold far fars; rw [har, if_neg c_15]; exact min_1 c_36)
    · skip
      refine lv_iload_n hx hb dX6_farOf_39 rfl (lv_at hl 0 rfl) ?_
      refine lv_goto (tgt := 49) hx hb dX6_farOf_40 (by decide) ?_
      exact rdI hx hb hr hlocks dX6_farOf_49 (by unfold far fars; rw [har, if_neg c_15]; exact min_2 c_36)

set_option maxHeartbeats 4000000 in
set_option maxRecDepth 100000 in
theorem c_X6_nearer (l : Launch) (D : va_G) (cI cZ cR : ClassId) (y yr yw yc yl ys yp ym yo yk yt yi yz yx yu : Nat) (mq mn mc me md mz km kr : Int32) (G : Nat → Int32) (v : Nat → Int32) (w n j : Int32) (hq : okQ mq) (hmn : 0 ≤ mn) (hm5 : mn ≤ 5) (hws : ∀ w, 0 ≤ w ∧ w < mn → okW mq v w) (sz : Nat) : Met l yX6_nearer wsX6_nearer ({ frames := 4, cells := 0, slots := 0, locals := 97 }) (PcW D cI cZ cR [.ref y, .int w, .int n, .int j] [(y, .inr (6, [.ref yr, .int mq, .int mn, .ref yw, .ref yc, .int mc, .ref yl, .int me, .ref ys, .ref yp, .ref ym, .int md, .ref yo, .ref yk, .ref yt, .int mz, .ref yi, .ref yz, .ref yx, .ref yu, .int km, .int kr])), (yr, .inl (cI, 7, .inl G)), (yw, .inl (cI, 20, .inl v))] sz) (va_Qi (fun (res : Int32) (u : (Nat → Int32)) => res = (if rf_nth mn w n j (-1) = 0 then nrL (far mq v w) j (n.toNatClampNeg - 1) 1 0 mq else rf_nth mn w n j (-1)) ∧ u = (if rf_nth mn w n j (-1) = 0 then G else md_bump G (rf_nth mn w n j (-1)))) (Bw D (fun (u : (Nat → Int32)) => [(y, .inr (6, [.ref yr, .int mq, .int mn, .ref yw, .ref yc, .int mc, .ref yl, .int me, .ref ys, .ref yp, .ref ym, .int md, .ref yo, .ref yk, .ref yt, .int mz, .ref yi, .ref yz, .ref yx, .ref yu, .int km, .int kr])), (yr, .inl (cI, 7, .inl u)), (yw, .inl (cI, 20, .inl v))]) (va_A [(y, .inr (6, [.ref yr, .int mq, .int mn, .ref yw, .ref yc, .int mc, .ref yl, .int me, .ref ys, .ref yp, .ref ym, .int md, .ref yo, .ref yk, .ref yt, .int mz, .ref yi, .ref yz, .ref yx, .ref yu, .int km, .int kr])), (yr, .inl (cI, 7, .inl G)), (yw, .inl (cI, 20, .inl v))] sz)) (va_A [(y, .inr (6, [.ref yr, .int mq, .int mn, .ref yw, .ref yc, .int mc, .ref yl, .int me, .ref ys, .ref yp, .ref ym, .int md, .ref yo, .ref yk, .ref yt, .int mz, .ref yi, .ref yz, .ref yx, .ref yu, .int km, .int kr])), (yr, .inl (cI, 7, .inl G)), (yw, .inl (cI, 20, .inl v))] sz)) 0 0 (va_A [(y, .inr (6, [.ref yr, .int mq, .int mn, .ref yw, .ref yc, .int mc, .ref yl, .int me, .ref ys, .ref yp, .ref ym, .int md, .ref yo, .ref yk, .ref yt, .int mz, .ref yi, .ref yz, .ref yx, .ref yu, .int km, .int kr])), (yr, .inl (cI, 7, .inl G)), (yw, .inl (cI, 20, .inl v))] sz) := by
  refine Met.ofW (cc := cX6_nearer) (maxL := 8) (ret := (some .int)) (by decide) rfl ?_
  intro p e s m args below meth c s₁ B hml hv
  obtain ⟨rfl, hsz, hP, hK, hD0, hN⟩ := hv
  have hx := B.exec
  have hb := B.bytes
  have hr := B.returns
  have hts := atoms_spec (ws := wsX6_nearer) B.pre
  have hown : s.vm.findClass RX6 = some m.cls := findClass_of_methodNamed B.named
  have hlocks := B.notSynchronized
  subst hsz
  have hD := hD0.self (sz := s.heap.size)
  generalize hAe : va_A [(y, .inr (6, [.ref yr, .int mq, .int mn, .ref yw, .ref yc, .int mc, .ref yl, .int me, .ref ys, .ref yp, .ref ym, .int md, .ref yo, .ref yk, .ref yt, .int mz, .ref yi, .ref yz, .ref yx, .ref yu, .int km, .int kr])), (yr, .inl (cI, 7, .inl G)), (yw, .inl (cI, 20, .inl v))] s.heap.size = A at hD ⊢
  have hA : ∀ q : Nat, s.heap.size ≤ q → A q := fun q h => by rw [← hAe]; exact Or.inr h
  have hS : va_S A s.heap s.heap [] := va_S.rf
  have hP : va_P D vwCl [(y, .inr (6, [.ref yr, .int mq, .int mn, .ref yw, .ref yc, .int mc, .ref yl, .int me, .ref ys, .ref yp, .ref ym, .int md, .ref yo, .ref yk, .ref yt, .int mz, .ref yi, .ref yz, .ref yx, .ref yu, .int km, .int kr])), (yr, .inl (cI, 7, .inl G)), (yw, .inl (cI, 20, .inl v))] s.heap := hP
  have hl := lv_entry ([.ref y, .int w, .int n, .int j]) (n := 8) (Nat.le_of_ble_eq_true rfl)
  rw [lg_entry_eq]
  generalize (lg_sl ([.ref y, .int w, .int n, .int j]) ++ List.replicate (8 - (lg_sl ([.ref y, .int w, .int n, .int j])).length) Slot.unset).toArray = ls at hl ⊢
  have hl : lv_has ls 8 [(0, .ref y), (1, .int w), (2, .int n), (3, .int j)] := hl
  refine lv_aload_n hx hb dX6_nearer_0 rfl (lv_at hl 0 rfl) ?_
  refine lv_iload_n hx hb dX6_nearer_1 rfl (lv_at hl 1 rfl) ?_
  refine lv_iload_n hx hb dX6_nearer_2 rfl (lv_at hl 2 rfl) ?_
  refine lv_iload_n hx hb dX6_nearer_3 rfl (lv_at hl 3 rfl) ?_
  refine lv_iconst (v := (-1)) hx hb dX6_nearer_4 (by decide) ?_
  refine rdV (As := [.int w, .int n, .int j, .int (-1)]) (rest := []) ⟨hx, hb, hml, hown, hts⟩ (c_X6_refusalOf l D cI cZ cR y yr yw yc yl ys yp ym yo yk yt yi yz yx yu mq mn mc me md mz km kr w n j (-1) hmn) (cwV 4 hts gX6_nearer_X6_refusalOf rfl rfl rfl (by decide +kernel) ⟨Nat.le_of_ble_eq_true rfl, Nat.le_of_ble_eq_true rfl⟩) hK hN hP 0 6 rfl rfl rfl [0] rfl rfl hl.1 rfl (Nat.le_of_ble_eq_true rfl) dX6_nearer_5 ⟨Nat.zero_le _, Nat.zero_le _⟩ ?_
  refine lv_istore (lv' := [(4, .int (rf_nth mn w n j (-1))), (0, .ref y), (1, .int w), (2, .int n), (3, .int j)]) hx hb dX6_nearer_8 hl (by decide) rfl (fun ls hl => ?_)
  refine lv_iload hx hb dX6_nearer_10 (lv_at hl 0 rfl) ?_
  refine lv_if_eq (tgt := 22) hx hb dX6_nearer_12 (by decide) (fun c_12 => ?_) (fun c_12 => ?_)
  · skip
    have hok := rf_nth_ok c_12
    have hn := n200 hok.2.1
    refine lv_iconst (v := 0) hx hb dX6_nearer_22 (by decide) ?_
    refine lv_istore (lv' := [(5, .int 0), (4, .int (rf_nth mn w n j (-1))), (0, .ref y), (1, .int w), (2, .int n), (3, .int j)]) hx hb dX6_nearer_23 hl (by decide) rfl (fun ls hl => ?_)
    refine lv_aload_n hx hb dX6_nearer_25 rfl (lv_at hl 2 rfl) ?_
    refine va_get (D := D) (ci := 6) (v := .int mq) (C := RX6) (T := TX6) (N := 22) hx hb hts (in_X6_nearer_X6) hown hK hP 0 rfl rfl 1 (by decide) (hts (.fieldLink RX6 13 "StepsRoundCircleModel" "round" "I") (by decide +kernel)) (fun _ h9 => h9) rfl dX6_nearer_26 ?_
    refine lv_istore (lv' := [(6, .int mq), (5, .int 0), (4, .int (rf_nth mn w n j (-1))), (0, .ref y), (1, .int w), (2, .int n), (3, .int j)]) hx hb dX6_nearer_29 hl (by decide) rfl (fun ls hl => ?_)
    refine lv_iconst (v := 1) hx hb dX6_nearer_31 (by decide) ?_
    refine lv_istore (lv' := [(7, .int 1), (6, .int mq), (5, .int 0), (4, .int (rf_nth mn w n j (-1))), (0, .ref y), (1, .int w), (2, .int n), (3, .int j)]) hx hb dX6_nearer_32 hl (by decide) rfl (fun ls hl => ?_)
    have loop_34 : ∀ (fuel : Nat), ∀ (i : Nat), ∀ (cnt lst : Int32), (1 ≤ i) → (i ≤ n.toNatClampNeg) → (nrL (far mq v w) j (n.toNatClampNeg - 1) 1 0 mq = nrL (far mq v w) j (n.toNatClampNeg - i) i cnt lst) → (n.toNatClampNeg + 1 ≤ i + fuel) → ∀ (y7 : Int32), y7 = nI i → ∀ (ls : Array Slot), lv_has ls 8 [(5, .int cnt), (6, .int lst), (7, .int y7), (0, .ref y), (1, .int w), (2, .int n), (3, .int j), (4, .int (rf_nth mn w n j (-1)))] → W p l e (headSpec wsX6_nearer ({ frames := 4, cells := 0, slots := 0, locals := 97 })).room s m ([.ref y, .int w, .int n, .int j] : List Value).toArray below meth c s.heap [] 0 0 (MQ below (va_Qi (fun (res : Int32) (u : (Nat → Int32)) => res = (if rf_nth mn w n j (-1) = 0 then nrL (far mq v w) j (n.toNatClampNeg - 1) 1 0 mq else rf_nth mn w n j (-1)) ∧ u = (if rf_nth mn w n j (-1) = 0 then G else md_bump G (rf_nth mn w n j (-1)))) (Bw D (fun (u : (Nat → Int32)) => [(y, .inr (6, [.ref yr, .int mq, .int mn, .ref yw, .ref yc, .int mc, .ref yl, .int me, .ref ys, .ref yp, .ref ym, .int md, .ref yo, .ref yk, .ref yt, .int mz, .ref yi, .ref yz, .ref yx, .ref yu, .int km, .int kr])), (yr, .inl (cI, 7, .inl u)), (yw, .inl (cI, 20, .inl v))]) A) A) ([.ref y, .int w, .int n, .int j] : List Value).toArray s 0 0 A) (F0 m 34 ls []) := by
      intro fuel
      induction fuel with
      | zero =>
        intro i cnt lst hi1 hi9 hinv hfu
        exact False.elim (by omega)
      | succ fuel ih_34 =>
        intro i cnt lst hi1 hi9 hinv hfu y7 ey7 ls hl
        subst ey7
        refine lv_iload hx hb dX6_nearer_34 (lv_at hl 2 rfl) ?_
        refine lv_iload_n hx hb dX6_nearer_36 rfl (lv_at hl 5 rfl) ?_
        refine lv_icmp_ge (tgt := 82) hx hb dX6_nearer_37 (by decide) (fun c_37 => ?_) (fun c_37 => ?_)
        · skip
          refine lv_iload_n hx hb dX6_nearer_82 rfl (lv_at hl 6 rfl) ?_
          refine lv_iconst (v := (-1)) hx hb dX6_nearer_83 (by decide) ?_
          refine lv_icmp_ne (tgt := 92) hx hb dX6_nearer_84 (by decide) (fun c_84 => ?_) (fun c_84 => ?_)
          · skip
            refine lv_bipush (v := (-9)) hx hb dX6_nearer_92 (by decide) ?_
            exact wrI (w1 := (fun (u : (Nat → Int32)) => [(y, .inr (6, [.ref yr, .int mq, .int mn, .ref yw, .ref yc, .int mc, .ref yl, .int me, .ref ys, .ref yp, .ref ym, .int md, .ref yo, .ref yk, .ref yt, .int mz, .ref yi, .ref yz, .ref yx, .ref yu, .int km, .int kr])), (yr, .inl (cI, 7, .inl u)), (yw, .inl (cI, 20, .inl v))])) G hx hb hr hlocks dX6_nearer_94 hS (hP.sub [0, 1, 2] rfl) (hD.sub [0, 1, 2] (by decide) rfl) (⟨by rw [if_pos c_12, hinv, show n.toNatClampNeg - i = 0 by have := (le_clamp (by omega)).mp c_37; omega]; unfold nrL; rw [if_neg c_84], by rw [if_pos c_12]⟩)
          · skip
            refine lv_iload hx hb dX6_nearer_87 (lv_at hl 0 rfl) ?_
            refine lv_goto (tgt := 94) hx hb dX6_nearer_89 (by decide) ?_
            exact wrI (w1 := (fun (u : (Nat → Int32)) => [(y, .inr (6, [.ref yr, .int mq, .int mn, .ref yw, .ref yc, .int mc, .ref yl, .int me, .ref ys, .ref yp, .ref ym, .int md, .ref yo, .ref yk, .ref yt, .int mz, .ref yi, .ref yz, .ref yx, .ref yu, .int km, .int kr])), (yr, .inl (cI, 7, .inl u)), (yw, .inl (cI, 20, .inl v))])) G hx hb hr hlocks dX6_nearer_94 hS (hP.sub [0, 1, 2] rfl) (hD.sub [0, 1, 2] (by decide) rfl) (⟨by rw [if_pos c_12, hinv, show n.toNatClampNeg - i = 0 by have := (le_clamp (by omega)).mp c_37; omega]; unfold nrL; rw [if_pos c_84], by rw [if_pos c_12]⟩)
        · skip
          have hiN : i < n.toNatClampNeg := (lt_clamp (by omega)).mp (Int32.not_le.mp c_37)
          refine lv_aload_n hx hb dX6_nearer_40 rfl (lv_at hl 3 rfl) ?_
          refine lv_iload_n hx hb dX6_nearer_41 rfl (lv_at hl 4 rfl) ?_
          refine lv_iload hx hb dX6_nearer_42 (lv_at hl 2 rfl) ?_
          refine rdV (As := [.int w, .int (nI i)]) (rest := []) ⟨hx, hb, hml, hown, hts⟩ (c_X6_farOf l D cI cZ cR y yr yw yc yl ys yp ym yo yk yt yi yz yx yu mq mn mc me md mz km kr v w i hq (w5 hm5 hok.1) (hws w hok.1) (by omega)) (cwV 2 hts gX6_nearer_X6_farOf rfl rfl rfl (by decide +kernel) ⟨Nat.le_of_ble_eq_true rfl, Nat.le_of_ble_eq_true rfl⟩) hK hN hP 0 6 rfl rfl rfl [0, 2] rfl rfl hl.1 rfl (Nat.le_of_ble_eq_true rfl) dX6_nearer_44 ⟨Nat.zero_le _, Nat.zero_le _⟩ ?_
          refine lv_iload hx hb dX6_nearer_47 (lv_at hl 1 rfl) ?_
          refine lv_icmp_lt (tgt := 55) hx hb dX6_nearer_49 (by decide) (fun c_49 => ?_) (fun c_49 => ?_)
          · skip
            refine lv_aload_n hx hb dX6_nearer_55 rfl (lv_at hl 3 rfl) ?_
            refine lv_iload_n hx hb dX6_nearer_56 rfl (lv_at hl 4 rfl) ?_
            refine lv_iload hx hb dX6_nearer_57 (lv_at hl 2 rfl) ?_
            refine rdV (As := [.int w, .int (nI i)]) (rest := []) ⟨hx, hb, hml, hown, hts⟩ (c_X6_farOf l D cI cZ cR y yr yw yc yl ys yp ym yo yk yt yi yz yx yu mq mn mc me md mz km kr v w i hq (w5 hm5 hok.1) (hws w hok.1) (by omega)) (cwV 2 hts gX6_nearer_X6_farOf rfl rfl rfl (by decide +kernel) ⟨Nat.le_of_ble_eq_true rfl, Nat.le_of_ble_eq_true rfl⟩) hK hN hP 0 6 rfl rfl rfl [0, 2] rfl rfl hl.1 rfl (Nat.le_of_ble_eq_true rfl) dX6_nearer_59 ⟨Nat.zero_le _, Nat.zero_le _⟩ ?_
            refine lv_istore (lv' := [(6, .int (far mq v w i)), (5, .int cnt), (7, .int (nI i)), (0, .ref y), (1, .int w), (2, .int n), (3, .int j), (4, .int (rf_nth mn w n j (-1)))]) hx hb dX6_nearer_62 hl (by decide) rfl (fun ls hl => ?_)
            refine lv_iload hx hb dX6_nearer_64 (lv_at hl 1 rfl) ?_
            refine lv_iload_n hx hb dX6_nearer_66 rfl (lv_at hl 6 rfl) ?_
            refine lv_icmp_ne (tgt := 73) hx hb dX6_nearer_67 (by decide) (fun c_67 => ?_) (fun c_67 => ?_)
            · skip
              refine lv_iinc (v := cnt + 1) (lv' := [(5, .int (cnt + 1)), (6, .int (far mq v w i)), (7, .int (nI i)), (0, .ref y), (1, .int w), (2, .int n), (3, .int j), (4, .int (rf_nth mn w n j (-1)))]) hx hb dX6_nearer_73 hl (k := 1) rfl (by rfl) (by decide) rfl (fun ls hl => ?_)
              refine lv_iinc (v := (nI i) + 1) (lv' := [(7, .int ((nI i) + 1)), (5, .int (cnt + 1)), (6, .int (far mq v w i)), (0, .ref y), (1, .int w), (2, .int n), (3, .int j), (4, .int (rf_nth mn w n j (-1)))]) hx hb dX6_nearer_76 hl (k := 2) rfl (by rfl) (by decide) rfl (fun ls hl => ?_)
              refine lv_goto (tgt := 34) hx hb dX6_nearer_79 (by decide) ?_
              exact ih_34 (i + 1) (cnt + 1) (far mq v w i) (by omega) (by omega) (hinv.trans (nrL_go (by omega) c_49 c_67)) (by omega) _ (by first | rfl | exact nI_1 _ | exact nI_0.symm) ls (lv_sub hl [1, 2, 0, 3, 4, 5, 6, 7] rfl)
            · skip
              refine lv_iload hx hb dX6_nearer_70 (lv_at hl 2 rfl) ?_
              exact wrI (w1 := (fun (u : (Nat → Int32)) => [(y, .inr (6, [.ref yr, .int mq, .int mn, .ref yw, .ref yc, .int mc, .ref yl, .int me, .ref ys, .ref yp, .ref ym, .int md, .ref yo, .ref yk, .ref yt, .int mz, .ref yi, .ref yz, .ref yx, .ref yu, .int km, .int kr])), (yr, .inl (cI, 7, .inl u)), (yw, .inl (cI, 20, .inl v))])) G hx hb hr hlocks dX6_nearer_72 hS (hP.sub [0, 1, 2] rfl) (hD.sub [0, 1, 2] (by decide) rfl) (⟨by rw [if_pos c_12, hinv, nrL_hit (by omega) c_49 c_67], by rw [if_pos c_12]⟩)
          · skip
            refine lv_goto (tgt := 76) hx hb dX6_nearer_52 (by decide) ?_
            refine lv_iinc (v := (nI i) + 1) (lv' := [(7, .int ((nI i) + 1)), (5, .int cnt), (6, .int lst), (0, .ref y), (1, .int w), (2, .int n), (3, .int j), (4, .int (rf_nth mn w n j (-1)))]) hx hb dX6_nearer_76 hl (k := 2) rfl (by rfl) (by decide) rfl (fun ls hl => ?_)
            refine lv_goto (tgt := 34) hx hb dX6_nearer_79 (by decide) ?_
            exact ih_34 (i + 1) cnt lst (by omega) (by omega) (hinv.trans (nrL_ge (by omega) (Int32.not_lt.mp c_49))) (by omega) _ (by first | rfl | exact nI_1 _ | exact nI_0.symm) ls (lv_sub hl [1, 2, 0, 3, 4, 5, 6, 7] rfl)
    exact loop_34 (n.toNatClampNeg + 1) 1 0 mq (by omega) (by omega) rfl (by omega) _ (by first | rfl | exact nI_1 _ | exact nI_0.symm) ls (lv_sub hl [2, 1, 0, 4, 5, 6, 7, 3] rfl)
  · skip
    refine lv_aload_n hx hb dX6_nearer_15 rfl (lv_at hl 1 rfl) ?_
    refine lv_iload hx hb dX6_nearer_16 (lv_at hl 0 rfl) ?_
    refine wrVi (As := [.int (rf_nth mn w n j (-1))]) (rest := []) (wr := [(yw, .inl (cI, 20, .inl v))]) (A := A) ⟨hx, hb, hml, hown, hts⟩ (c_X6_no l D cI cZ cR y yr yw yc yl ys yp ym yo yk yt yi yz yx yu mq mn mc me md mz km kr G (rf_nth mn w n j (-1)) (rf_nth_le _ _ _ _ _) s.heap.size) (cwV 1 hts gX6_nearer_X6_no rfl rfl rfl (by decide +kernel) ⟨Nat.le_of_ble_eq_true rfl, Nat.le_of_ble_eq_true rfl⟩) hK hN hP hD hS hA 0 6 rfl rfl rfl [0, 1] [2] rfl (by decide) rfl (by decide) (by decide) rfl hl.1 rfl (Nat.le_of_ble_eq_true rfl) dX6_nearer_18 ⟨Nat.zero_le _, Nat.zero_le _⟩ (fun r_18 u H locs hw hP hD hS => ?_)
    obtain ⟨G_18, rfl⟩ : ∃ z, z = u := ⟨_, rfl⟩
    try dsimp only at hw
    obtain ⟨q1_18, q2_18⟩ := hw
    have q1_18 := q1_18.symm
    subst q1_18
    have q2_18 := q2_18.symm
    subst q2_18
    have hP : va_P D vwCl [(y, .inr (6, [.ref yr, .int mq, .int mn, .ref yw, .ref yc, .int mc, .ref yl, .int me, .ref ys, .ref yp, .ref ym, .int md, .ref yo, .ref yk, .ref yt, .int mz, .ref yi, .ref yz, .ref yx, .ref yu, .int km, .int kr])), (yr, .inl (cI, 7, .inl (md_bump G (rf_nth mn w n j (-1))))), (yw, .inl (cI, 20, .inl v))] H := hP.sub [1, 2, 0] rfl
    have hD : va_D A [(y, .inr (6, [.ref yr, .int mq, .int mn, .ref yw, .ref yc, .int mc, .ref yl, .int me, .ref ys, .ref yp, .ref ym, .int md, .ref yo, .ref yk, .ref yt, .int mz, .ref yi, .ref yz, .ref yx, .ref yu, .int km, .int kr])), (yr, .inl (cI, 7, .inl (md_bump G (rf_nth mn w n j (-1))))), (yw, .inl (cI, 20, .inl v))] := hD.sub [1, 2, 0] (by decide) rfl
    exact wrI (w1 := (fun (u : (Nat → Int32)) => [(y, .inr (6, [.ref yr, .int mq, .int mn, .ref yw, .ref yc, .int mc, .ref yl, .int me, .ref ys, .ref yp, .ref ym, .int md, .ref yo, .ref yk, .ref yt, .int mz, .ref yi, .ref yz, .ref yx, .ref yu, .int km, .int kr])), (yr, .inl (cI, 7, .inl u)), (yw, .inl (cI, 20, .inl v))])) (md_bump G (rf_nth mn w n j (-1))) hx hb hr hlocks dX6_nearer_21 hS (hP.sub [0, 1, 2] rfl) (hD.sub [0, 1, 2] (by decide) rfl) (by simp [c_12])

set_option maxHeartbeats 4000000 in
set_option maxRecDepth 100000 in
theorem c_X6_meeting (l : Launch) (D : va_G) (cI cZ cR : ClassId) (y yr yw yc yl ys yp ym yo yk yt yi yz yx yu : Nat) (mq mn mc me md mz km kr : Int32) (G : Nat → Int32) (v : Nat → Int32) (o oo k : Int32) (hq : okQ mq) (hmn : 0 ≤ mn) (hm5 : mn ≤ 5) (hws : ∀ w, 0 ≤ w ∧ w < mn → okW mq v w) (sz : Nat) : Met l yX6_meeting wsX6_meeting ({ frames := 3, cells := 0, slots := 0, locals := 74 }) (PcW D cI cZ cR [.ref y, .int o, .int oo, .int k] [(y, .inr (6, [.ref yr, .int mq, .int mn, .ref yw, .ref yc, .int mc, .ref yl, .int me, .ref ys, .ref yp, .ref ym, .int md, .ref yo, .ref yk, .ref yt, .int mz, .ref yi, .ref yz, .ref yx, .ref yu, .int km, .int kr])), (yr, .inl (cI, 7, .inl G)), (yw, .inl (cI, 20, .inl v))] sz) (va_Qi (fun (res : Int32) (u : (Nat → Int32)) => res = (if rf_mee mn o oo k = 0 then meeA mq v o oo k else rf_mee mn o oo k) ∧ u = (if rf_mee mn o oo k = 0 then G else md_bump G (rf_mee mn o oo k))) (Bw D (fun (u : (Nat → Int32)) => [(y, .inr (6, [.ref yr, .int mq, .int mn, .ref yw, .ref yc, .int mc, .ref yl, .int me, .ref ys, .ref yp, .ref ym, .int md, .ref yo, .ref yk, .ref yt, .int mz, .ref yi, .ref yz, .ref yx, .ref yu, .int km, .int kr])), (yr, .inl (cI, 7, .inl u)), (yw, .inl (cI, 20, .inl v))]) (va_A [(y, .inr (6, [.ref yr, .int mq, .int mn, .ref yw, .ref yc, .int mc, .ref yl, .int me, .ref ys, .ref yp, .ref ym, .int md, .ref yo, .ref yk, .ref yt, .int mz, .ref yi, .ref yz, .ref yx, .ref yu, .int km, .int kr])), (yr, .inl (cI, 7, .inl G)), (yw, .inl (cI, 20, .inl v))] sz)) (va_A [(y, .inr (6, [.ref yr, .int mq, .int mn, .ref yw, .ref yc, .int mc, .ref yl, .int me, .ref ys, .ref yp, .ref ym, .int md, .ref yo, .ref yk, .ref yt, .int mz, .ref yi, .ref yz, .ref yx, .ref yu, .int km, .int kr])), (yr, .inl (cI, 7, .inl G)), (yw, .inl (cI, 20, .inl v))] sz)) 0 0 (va_A [(y, .inr (6, [.ref yr, .int mq, .int mn, .ref yw, .ref yc, .int mc, .ref yl, .int me, .ref ys, .ref yp, .ref ym, .int md, .ref yo, .ref yk, .ref yt, .int mz, .ref yi, .ref yz, .ref yx, .ref yu, .int km, .int kr])), (yr, .inl (cI, 7, .inl G)), (yw, .inl (cI, 20, .inl v))] sz) := by
  refine Met.ofW (cc := cX6_meeting) (maxL := 5) (ret := (some .int)) (by decide) rfl ?_
  intro p e s m args below meth c s₁ B hml hv
  obtain ⟨rfl, hsz, hP, hK, hD0, hN⟩ := hv
  have hx := B.exec
  have hb := B.bytes
  have hr := B.returns
  have hts := atoms_spec (ws := wsX6_meeting) B.pre
  have hown : s.vm.findClass RX6 = some m.cls := findClass_of_methodNamed B.named
  have hlocks := B.notSynchronized
  subst hsz
  have hD := hD0.self (sz := s.heap.size)
  generalize hAe : va_A [(y, .inr (6, [.ref yr, .int mq, .int mn, .ref yw, .ref yc, .int mc, .ref yl, .int me, .ref ys, .ref yp, .ref ym, .int md, .ref yo, .ref yk, .ref yt, .int mz, .ref yi, .ref yz, .ref yx, .ref yu, .int km, .int kr])), (yr, .inl (cI, 7, .inl G)), (yw, .inl (cI, 20, .inl v))] s.heap.size = A at hD ⊢
  have hA : ∀ q : Nat, s.heap.size ≤ q → A q := fun q h => by rw [← hAe]; exact Or.inr h
  have hS : va_S A s.heap s.heap [] := va_S.rf
  have hP : va_P D vwCl [(y, .inr (6, [.ref yr, .int mq, .int mn, .ref yw, .ref yc, .int mc, .ref yl, .int me, .ref ys, .ref yp, .ref ym, .int md, .ref yo, .ref yk, .ref yt, .int mz, .ref yi, .ref yz, .ref yx, .ref yu, .int km, .int kr])), (yr, .inl (cI, 7, .inl G)), (yw, .inl (cI, 20, .inl v))] s.heap := hP
  have hl := lv_entry ([.ref y, .int o, .int oo, .int k]) (n := 5) (Nat.le_of_ble_eq_true rfl)
  rw [lg_entry_eq]
  generalize (lg_sl ([.ref y, .int o, .int oo, .int k]) ++ List.replicate (5 - (lg_sl ([.ref y, .int o, .int oo, .int k])).length) Slot.unset).toArray = ls at hl ⊢
  have hl : lv_has ls 5 [(0, .ref y), (1, .int o), (2, .int oo), (3, .int k)] := hl
  refine lv_aload_n hx hb dX6_meeting_0 rfl (lv_at hl 0 rfl) ?_
  refine lv_iload_n hx hb dX6_meeting_1 rfl (lv_at hl 1 rfl) ?_
  refine lv_iload_n hx hb dX6_meeting_2 rfl (lv_at hl 2 rfl) ?_
  refine rdV (As := [.int o, .int oo]) (rest := []) ⟨hx, hb, hml, hown, hts⟩ (c_X6_areTwo l D cI cZ cR y yr yw yc yl ys yp ym yo yk yt yi yz yx yu mq mn mc me md mz km kr o oo hmn) (cwV 2 hts gX6_meeting_X6_areTwo rfl rfl rfl (by decide +kernel) ⟨Nat.le_of_ble_eq_true rfl, Nat.le_of_ble_eq_true rfl⟩) hK hN hP 0 6 rfl rfl rfl [0] rfl rfl hl.1 rfl (Nat.le_of_ble_eq_true rfl) dX6_meeting_3 ⟨Nat.zero_le _, Nat.zero_le _⟩ ?_
  refine lv_if_ne (tgt := 15) hx hb dX6_meeting_6 (by decide) (fun c_6 => ?_) (fun c_6 => ?_)
  · skip
    have c_6 := bi_ne0.mp c_6
    refine lv_iload_n hx hb dX6_meeting_15 rfl (lv_at hl 3 rfl) ?_
    refine lv_i2l hx hb dX6_meeting_16 rfl ?_
    refine lv_lconst (v := 0) hx hb dX6_meeting_17 (by decide) ?_
    refine lv_lconst (v := 1) hx hb dX6_meeting_18 (by decide) ?_
    refine rdS (As := [.long k.toInt64, .long 0, .long 1]) (rest := []) ⟨hx, hb, hml, hown, hts⟩ (c_X6_in l D cI cZ cR k.toInt64 0 1 ) (va_cwS 3 hts gX6_meeting_X6_in rfl rfl rfl (by decide +kernel) ⟨Nat.le_of_ble_eq_true rfl, Nat.le_of_ble_eq_true rfl⟩) hK hN hP [] rfl rfl hl.1 rfl (Nat.le_of_ble_eq_true rfl) dX6_meeting_19 ⟨Nat.zero_le _, Nat.zero_le _⟩ ?_
    refine lv_if_ne (tgt := 32) hx hb dX6_meeting_22 (by decide) (fun c_22 => ?_) (fun c_22 => ?_)
    · skip
      have c_22 := bi_ne0.mp c_22
      have e0 : rf_mee mn o oo k = 0 := by unfold rf_mee; rw [if_pos c_6, if_pos ((md_w1 k).mp c_22)]
      refine lv_iconst (v := 0) hx hb dX6_meeting_32 (by decide) ?_
      refine lv_istore (lv' := [(4, .int 0), (0, .ref y), (1, .int o), (2, .int oo), (3, .int k)]) hx hb dX6_meeting_33 hl (by decide) rfl (fun ls hl => ?_)
      have loop_35 : ∀ (fuel : Nat), ∀ (i : Nat), (i ≤ 2001) → (meeA mq v o oo k = ff2 (fun i => plK mq v o i = plK mq v oo i) (fun i => if k = 0 then nI i else plK mq v o i) i (2001 - i)) → (2002 ≤ i + fuel) → ∀ (y4 : Int32), y4 = nI i → ∀ (ls : Array Slot), lv_has ls 5 [(4, .int y4), (0, .ref y), (1, .int o), (2, .int oo), (3, .int k)] → W p l e (headSpec wsX6_meeting ({ frames := 3, cells := 0, slots := 0, locals := 74 })).room s m ([.ref y, .int o, .int oo, .int k] : List Value).toArray below meth c s.heap [] 0 0 (MQ below (va_Qi (fun (res : Int32) (u : (Nat → Int32)) => res = (if rf_mee mn o oo k = 0 then meeA mq v o oo k else rf_mee mn o oo k) ∧ u = (if rf_mee mn o oo k = 0 then G else md_bump G (rf_mee mn o oo k))) (Bw D (fun (u : (Nat → Int32)) => [(y, .inr (6, [.ref yr, .int mq, .int mn, .ref yw, .ref yc, .int mc, .ref yl, .int me, .ref ys, .ref yp, .ref ym, .int md, .ref yo, .ref yk, .ref yt, .int mz, .ref yi, .ref yz, .ref yx, .ref yu, .int km, .int kr])), (yr, .inl (cI, 7, .inl u)), (yw, .inl (cI, 20, .inl v))]) A) A) ([.ref y, .int o, .int oo, .int k] : List Value).toArray s 0 0 A) (F0 m 35 ls []) := by
        intro fuel
        induction fuel with
        | zero =>
          intro i hi9 hinv hfu
          exact False.elim (by omega)
        | succ fuel ih_35 =>
          intro i hi9 hinv hfu y4 ey4 ls hl
          subst ey4
          refine lv_iload hx hb dX6_meeting_35 (lv_at hl 0 rfl) ?_
          refine lv_sipush (v := 2000) hx hb dX6_meeting_37 (by decide) ?_
          refine lv_icmp_gt (tgt := 83) hx hb dX6_meeting_40 (by decide) (fun c_40 => ?_) (fun c_40 => ?_)
          · skip
            refine lv_bipush (v := (-9)) hx hb dX6_meeting_83 (by decide) ?_
            exact wrI (w1 := (fun (u : (Nat → Int32)) => [(y, .inr (6, [.ref yr, .int mq, .int mn, .ref yw, .ref yc, .int mc, .ref yl, .int me, .ref ys, .ref yp, .ref ym, .int md, .ref yo, .ref yk, .ref yt, .int mz, .ref yi, .ref yz, .ref yx, .ref yu, .int km, .int kr])), (yr, .inl (cI, 7, .inl u)), (yw, .inl (cI, 20, .inl v))])) G hx hb hr hlocks dX6_meeting_85 hS (hP.sub [0, 1, 2] rfl) (hD.sub [0, 1, 2] (by decide) rfl) (⟨by rw [if_pos e0, hinv, show 2001 - i = 0 by have := (nI_ltI (a := 2000) (b := i) (by omega) (by omega)).mp c_40; omega]; rfl, by rw [if_pos e0]⟩)
          · skip
            have hiN : i ≤ 2000 := by rcases Nat.lt_or_ge 2000 i with q9 | q9; exact absurd (nI_lt (a := 2000) q9 (by omega)) c_40; exact q9
            refine lv_aload_n hx hb dX6_meeting_43 rfl (lv_at hl 1 rfl) ?_
            refine lv_iload_n hx hb dX6_meeting_44 rfl (lv_at hl 2 rfl) ?_
            refine lv_iload hx hb dX6_meeting_45 (lv_at hl 0 rfl) ?_
            refine rdV (As := [.int o, .int (nI i)]) (rest := []) ⟨hx, hb, hml, hown, hts⟩ (c_X6_placeOf l D cI cZ cR y yr yw yc yl ys yp ym yo yk yt yi yz yx yu mq mn mc me md mz km kr v o (nI i) hq (w5 hm5 c_6.2.1) (hws o c_6.2.1) (⟨nI_pos' (by omega), nI_le (b := 4000) (by omega) (by omega)⟩)) (cwV 2 hts gX6_meeting_X6_placeOf rfl rfl rfl (by decide +kernel) ⟨Nat.le_of_ble_eq_true rfl, Nat.le_of_ble_eq_true rfl⟩) hK hN hP 0 6 rfl rfl rfl [0, 2] rfl rfl hl.1 rfl (Nat.le_of_ble_eq_true rfl) dX6_meeting_47 ⟨Nat.zero_le _, Nat.zero_le _⟩ ?_
            refine lv_aload_n hx hb dX6_meeting_50 rfl (lv_at hl 1 rfl) ?_
            refine lv_iload_n hx hb dX6_meeting_51 rfl (lv_at hl 3 rfl) ?_
            refine lv_iload hx hb dX6_meeting_52 (lv_at hl 0 rfl) ?_
            refine rdV (As := [.int oo, .int (nI i)]) (rest := [.int (rg_pb mq v (rg_val v o 0) o (nI i).toInt64)]) ⟨hx, hb, hml, hown, hts⟩ (c_X6_placeOf l D cI cZ cR y yr yw yc yl ys yp ym yo yk yt yi yz yx yu mq mn mc me md mz km kr v oo (nI i) hq (w5 hm5 c_6.2.2) (hws oo c_6.2.2) (⟨nI_pos' (by omega), nI_le (b := 4000) (by omega) (by omega)⟩)) (cwV 2 hts gX6_meeting_X6_placeOf rfl rfl rfl (by decide +kernel) ⟨Nat.le_of_ble_eq_true rfl, Nat.le_of_ble_eq_true rfl⟩) hK hN hP 0 6 rfl rfl rfl [0, 2] rfl rfl hl.1 rfl (Nat.le_of_ble_eq_true rfl) dX6_meeting_54 ⟨Nat.zero_le _, Nat.zero_le _⟩ ?_
            refine lv_icmp_ne (tgt := 77) hx hb dX6_meeting_57 (by decide) (fun c_57 => ?_) (fun c_57 => ?_)
            · skip
              refine lv_iinc (v := (nI i) + 1) (lv' := [(4, .int ((nI i) + 1)), (0, .ref y), (1, .int o), (2, .int oo), (3, .int k)]) hx hb dX6_meeting_77 hl (k := 0) rfl (by rfl) (by decide) rfl (fun ls hl => ?_)
              refine lv_goto (tgt := 35) hx hb dX6_meeting_80 (by decide) ?_
              exact ih_35 (i + 1) (by omega) (hinv.trans (ff2_no (p := (fun i => plK mq v o i = plK mq v oo i)) c_57 (by omega))) (by omega) _ (by first | rfl | exact nI_1 _ | exact nI_0.symm) ls (lv_sub hl [0, 1, 2, 3, 4] rfl)
            · skip
              refine lv_iload_n hx hb dX6_meeting_60 rfl (lv_at hl 4 rfl) ?_
              refine lv_if_ne (tgt := 69) hx hb dX6_meeting_61 (by decide) (fun c_61 => ?_) (fun c_61 => ?_)
              · skip
                refine lv_aload_n hx hb dX6_meeting_69 rfl (lv_at hl 1 rfl) ?_
                refine lv_iload_n hx hb dX6_meeting_70 rfl (lv_at hl 2 rfl) ?_
                refine lv_iload hx hb dX6_meeting_71 (lv_at hl 0 rfl) ?_
                refine rdV (As := [.int o, .int (nI i)]) (rest := []) ⟨hx, hb, hml, hown, hts⟩ (c_X6_placeOf l D cI cZ cR y yr yw yc yl ys yp ym yo yk yt yi yz yx yu mq mn mc me md mz km kr v o (nI i) hq (w5 hm5 c_6.2.1) (hws o c_6.2.1) (⟨nI_pos' (by omega), nI_le (b := 4000) (by omega) (by omega)⟩)) (cwV 2 hts gX6_meeting_X6_placeOf rfl rfl rfl (by decide +kernel) ⟨Nat.le_of_ble_eq_true rfl, Nat.le_of_ble_eq_true rfl⟩) hK hN hP 0 6 rfl rfl rfl [0, 2] rfl rfl hl.1 rfl (Nat.le_of_ble_eq_true rfl) dX6_meeting_73 ⟨Nat.zero_le _, Nat.zero_le _⟩ ?_
                exact wrI (w1 := (fun (u : (Nat → Int32)) => [(y, .inr (6, [.ref yr, .int mq, .int mn, .ref yw, .ref yc, .int mc, .ref yl, .int me, .ref ys, .ref yp, .ref ym, .int md, .ref yo, .ref yk, .ref yt, .int mz, .ref yi, .ref yz, .ref yx, .ref yu, .int km, .int kr])), (yr, .inl (cI, 7, .inl u)), (yw, .inl (cI, 20, .inl v))])) G hx hb hr hlocks dX6_meeting_76 hS (hP.sub [0, 1, 2] rfl) (hD.sub [0, 1, 2] (by decide) rfl) (⟨by rw [if_pos e0, hinv, ff2_yes (p := (fun i => plK mq v o i = plK mq v oo i)) c_57 (by omega)]; exact (if_neg c_61).symm, by rw [if_pos e0]⟩)
              · skip
                refine lv_iload hx hb dX6_meeting_64 (lv_at hl 0 rfl) ?_
                refine lv_goto (tgt := 76) hx hb dX6_meeting_66 (by decide) ?_
                exact wrI (w1 := (fun (u : (Nat → Int32)) => [(y, .inr (6, [.ref yr, .int mq, .int mn, .ref yw, .ref yc, .int mc, .ref yl, .int me, .ref ys, .ref yp, .ref ym, .int md, .ref yo, .ref yk, .ref yt, .int mz, .ref yi, .ref yz, .ref yx, .ref yu, .int km, .int kr])), (yr, .inl (cI, 7, .inl u)), (yw, .inl (cI, 20, .inl v))])) G hx hb hr hlocks dX6_meeting_76 hS (hP.sub [0, 1, 2] rfl) (hD.sub [0, 1, 2] (by decide) rfl) (⟨by rw [if_pos e0, hinv, ff2_yes (p := (fun i => plK mq v o i = plK mq v oo i)) c_57 (by omega)]; exact (if_pos c_61).symm, by rw [if_pos e0]⟩)
      exact loop_35 2002 0 (by omega) rfl (by omega) _ (by first | rfl | exact nI_1 _ | exact nI_0.symm) ls (lv_sub hl [0, 1, 2, 3, 4] rfl)
    · skip
      have c_22 := bi_eq0.mp c_22
      refine lv_aload_n hx hb dX6_meeting_25 rfl (lv_at hl 0 rfl) ?_
      refine lv_bipush (v := (-2)) hx hb dX6_meeting_26 (by decide) ?_
      refine wrVi (As := [.int (-2)]) (rest := []) (wr := [(yw, .inl (cI, 20, .inl v))]) (A := A) ⟨hx, hb, hml, hown, hts⟩ (c_X6_no l D cI cZ cR y yr yw yc yl ys yp ym yo yk yt yi yz yx yu mq mn mc me md mz km kr G (-2) (by decide) s.heap.size) (cwV 1 hts gX6_meeting_X6_no rfl rfl rfl (by decide +kernel) ⟨Nat.le_of_ble_eq_true rfl, Nat.le_of_ble_eq_true rfl⟩) hK hN hP hD hS hA 0 6 rfl rfl rfl [0, 1] [2] rfl (by decide) rfl (by decide) (by decide) rfl hl.1 rfl (Nat.le_of_ble_eq_true rfl) dX6_meeting_28 ⟨Nat.zero_le _, Nat.zero_le _⟩ (fun r_28 u H locs hw hP hD hS => ?_)
      obtain ⟨G_28, rfl⟩ : ∃ z, z = u := ⟨_, rfl⟩
      try dsimp only at hw
      obtain ⟨q1_28, q2_28⟩ := hw
      have q1_28 := q1_28.symm
      subst q1_28
      have q2_28 := q2_28.symm
      subst q2_28
      have hP : va_P D vwCl [(y, .inr (6, [.ref yr, .int mq, .int mn, .ref yw, .ref yc, .int mc, .ref yl, .int me, .ref ys, .ref yp, .ref ym, .int md, .ref yo, .ref yk, .ref yt, .int mz, .ref yi, .ref yz, .ref yx, .ref yu, .int km, .int kr])), (yr, .inl (cI, 7, .inl (md_bump G (-2)))), (yw, .inl (cI, 20, .inl v))] H := hP.sub [1, 2, 0] rfl
      have hD : va_D A [(y, .inr (6, [.ref yr, .int mq, .int mn, .ref yw, .ref yc, .int mc, .ref yl, .int me, .ref ys, .ref yp, .ref ym, .int md, .ref yo, .ref yk, .ref yt, .int mz, .ref yi, .ref yz, .ref yx, .ref yu, .int km, .int kr])), (yr, .inl (cI, 7, .inl (md_bump G (-2)))), (yw, .inl (cI, 20, .inl v))] := hD.sub [1, 2, 0] (by decide) rfl
      exact wrI (w1 := (fun (u : (Nat → Int32)) => [(y, .inr (6, [.ref yr, .int mq, .int mn, .ref yw, .ref yc, .int mc, .ref yl, .int me, .ref ys, .ref yp, .ref ym, .int md, .ref yo, .ref yk, .ref yt, .int mz, .ref yi, .ref yz, .ref yx, .ref yu, .int km, .int kr])), (yr, .inl (cI, 7, .inl u)), (yw, .inl (cI, 20, .inl v))])) (md_bump G (-2)) hx hb hr hlocks dX6_meeting_31 hS (hP.sub [0, 1, 2] rfl) (hD.sub [0, 1, 2] (by decide) rfl) (by have e9 : rf_mee mn o oo k = -2 := (by unfold rf_mee; rw [if_pos c_6, if_neg (mt (md_w1 k).mpr c_22)]); simp [e9])
  · skip
    have c_6 := bi_eq0.mp c_6
    refine lv_aload_n hx hb dX6_meeting_9 rfl (lv_at hl 0 rfl) ?_
    refine lv_iconst (v := (-1)) hx hb dX6_meeting_10 (by decide) ?_
    refine wrVi (As := [.int (-1)]) (rest := []) (wr := [(yw, .inl (cI, 20, .inl v))]) (A := A) ⟨hx, hb, hml, hown, hts⟩ (c_X6_no l D cI cZ cR y yr yw yc yl ys yp ym yo yk yt yi yz yx yu mq mn mc me md mz km kr G (-1) (by decide) s.heap.size) (cwV 1 hts gX6_meeting_X6_no rfl rfl rfl (by decide +kernel) ⟨Nat.le_of_ble_eq_true rfl, Nat.le_of_ble_eq_true rfl⟩) hK hN hP hD hS hA 0 6 rfl rfl rfl [0, 1] [2] rfl (by decide) rfl (by decide) (by decide) rfl hl.1 rfl (Nat.le_of_ble_eq_true rfl) dX6_meeting_11 ⟨Nat.zero_le _, Nat.zero_le _⟩ (fun r_11 u H locs hw hP hD hS => ?_)
    obtain ⟨G_11, rfl⟩ : ∃ z, z = u := ⟨_, rfl⟩
    try dsimp only at hw
    obtain ⟨q1_11, q2_11⟩ := hw
    have q1_11 := q1_11.symm
    subst q1_11
    have q2_11 := q2_11.symm
    subst q2_11
    have hP : va_P D vwCl [(y, .inr (6, [.ref yr, .int mq, .int mn, .ref yw, .ref yc, .int mc, .ref yl, .int me, .ref ys, .ref yp, .ref ym, .int md, .ref yo, .ref yk, .ref yt, .int mz, .ref yi, .ref yz, .ref yx, .ref yu, .int km, .int kr])), (yr, .inl (cI, 7, .inl (md_bump G (-1)))), (yw, .inl (cI, 20, .inl v))] H := hP.sub [1, 2, 0] rfl
    have hD : va_D A [(y, .inr (6, [.ref yr, .int mq, .int mn, .ref yw, .ref yc, .int mc, .ref yl, .int me, .ref ys, .ref yp, .ref ym, .int md, .ref yo, .ref yk, .ref yt, .int mz, .ref yi, .ref yz, .ref yx, .ref yu, .int km, .int kr])), (yr, .inl (cI, 7, .inl (md_bump G (-1)))), (yw, .inl (cI, 20, .inl v))] := hD.sub [1, 2, 0] (by decide) rfl
    exact wrI (w1 := (fun (u : (Nat → Int32)) => [(y, .inr (6, [.ref yr, .int mq, .int mn, .ref yw, .ref yc, .int mc, .ref yl, .int me, .ref ys, .ref yp, .ref ym, .int md, .ref yo, .ref yk, .ref yt, .int mz, .ref yi, .ref yz, .ref yx, .ref yu, .int km, .int kr])), (yr, .inl (cI, 7, .inl u)), (yw, .inl (cI, 20, .inl v))])) (md_bump G (-1)) hx hb hr hlocks dX6_meeting_14 hS (hP.sub [0, 1, 2] rfl) (hD.sub [0, 1, 2] (by decide) rfl) (by have e9 : rf_mee mn o oo k = -1 := (by unfold rf_mee; rw [if_neg c_6]); simp [e9])

set_option maxHeartbeats 4000000 in
set_option maxRecDepth 100000 in
theorem c_X6_seen (l : Launch) (D : va_G) (cI cZ cR : ClassId) (y yr yw yc yl ys yp ym yo yk yt yi yz yx yu : Nat) (mq mn mc me md mz km kr : Int32) (G : Nat → Int32) (v P Mf : Nat → Int32) (w n j : Int32) (hq : okQ mq) (hmn : 0 ≤ mn) (hm5 : mn ≤ 5) (hws : ∀ w, 0 ≤ w ∧ w < mn → okW mq v w) (sz : Nat) : Met l yX6_seen wsX6_seen ({ frames := 4, cells := 0, slots := 0, locals := 99 }) (PcW D cI cZ cR [.ref y, .int w, .int n, .int j] [(y, .inr (6, [.ref yr, .int mq, .int mn, .ref yw, .ref yc, .int mc, .ref yl, .int me, .ref ys, .ref yp, .ref ym, .int md, .ref yo, .ref yk, .ref yt, .int mz, .ref yi, .ref yz, .ref yx, .ref yu, .int km, .int kr])), (yr, .inl (cI, 7, .inl G)), (yw, .inl (cI, 20, .inl v)), (yp, .inl (cI, 200, .inl P)), (ym, .inl (cI, 200, .inl Mf))] sz) (va_Qi (fun (res : Int32) (u : (Nat → Int32) × Int32 × (Nat → Int32) × (Nat → Int32)) => res = (if rf_nth mn w n j 0 = 0 then seeA mq (mk (plK mq v w) n.toNatClampNeg) j else rf_nth mn w n j 0) ∧ u.1 = (if rf_nth mn w n j 0 = 0 then G else md_bump G (rf_nth mn w n j 0))) (Bw D (fun (u : (Nat → Int32) × Int32 × (Nat → Int32) × (Nat → Int32)) => [(y, .inr (6, [.ref yr, .int mq, .int mn, .ref yw, .ref yc, .int mc, .ref yl, .int me, .ref ys, .ref yp, .ref ym, .int u.2.1, .ref yo, .ref yk, .ref yt, .int mz, .ref yi, .ref yz, .ref yx, .ref yu, .int km, .int kr])), (yr, .inl (cI, 7, .inl u.1)), (yw, .inl (cI, 20, .inl v)), (yp, .inl (cI, 200, .inl u.2.2.1)), (ym, .inl (cI, 200, .inl u.2.2.2))]) (va_A [(y, .inr (6, [.ref yr, .int mq, .int mn, .ref yw, .ref yc, .int mc, .ref yl, .int me, .ref ys, .ref yp, .ref ym, .int md, .ref yo, .ref yk, .ref yt, .int mz, .ref yi, .ref yz, .ref yx, .ref yu, .int km, .int kr])), (yr, .inl (cI, 7, .inl G)), (yw, .inl (cI, 20, .inl v)), (yp, .inl (cI, 200, .inl P)), (ym, .inl (cI, 200, .inl Mf))] sz)) (va_A [(y, .inr (6, [.ref yr, .int mq, .int mn, .ref yw, .ref yc, .int mc, .ref yl, .int me, .ref ys, .ref yp, .ref ym, .int md, .ref yo, .ref yk, .ref yt, .int mz, .ref yi, .ref yz, .ref yx, .ref yu, .int km, .int kr])), (yr, .inl (cI, 7, .inl G)), (yw, .inl (cI, 20, .inl v)), (yp, .inl (cI, 200, .inl P)), (ym, .inl (cI, 200, .inl Mf))] sz)) 0 0 (va_A [(y, .inr (6, [.ref yr, .int mq, .int mn, .ref yw, .ref yc, .int mc, .ref yl, .int me, .ref ys, .ref yp, .ref ym, .int md, .ref yo, .ref yk, .ref yt, .int mz, .ref yi, .ref yz, .ref yx, .ref yu, .int km, .int kr])), (yr, .inl (cI, 7, .inl G)), (yw, .inl (cI, 20, .inl v)), (yp, .inl (cI, 200, .inl P)), (ym, .inl (cI, 200, .inl Mf))] sz) := by
  refine Met.ofW (cc := cX6_seen) (maxL := 7) (ret := (some .int)) (by decide) rfl ?_
  intro p e s m args below meth c s₁ B hml hv
  obtain ⟨rfl, hsz, hP, hK, hD0, hN⟩ := hv
  have hx := B.exec
  have hb := B.bytes
  have hr := B.returns
  have hts := atoms_spec (ws := wsX6_seen) B.pre
  have hown : s.vm.findClass RX6 = some m.cls := findClass_of_methodNamed B.named
  have hlocks := B.notSynchronized
  subst hsz
  have hD := hD0.self (sz := s.heap.size)
  generalize hAe : va_A [(y, .inr (6, [.ref yr, .int mq, .int mn, .ref yw, .ref yc, .int mc, .ref yl, .int me, .ref ys, .ref yp, .ref ym, .int md, .ref yo, .ref yk, .ref yt, .int mz, .ref yi, .ref yz, .ref yx, .ref yu, .int km, .int kr])), (yr, .inl (cI, 7, .inl G)), (yw, .inl (cI, 20, .inl v)), (yp, .inl (cI, 200, .inl P)), (ym, .inl (cI, 200, .inl Mf))] s.heap.size = A at hD ⊢
  have hA : ∀ q : Nat, s.heap.size ≤ q → A q := fun q h => by rw [← hAe]; exact Or.inr h
  have hS : va_S A s.heap s.heap [] := va_S.rf
  have hP : va_P D vwCl [(y, .inr (6, [.ref yr, .int mq, .int mn, .ref yw, .ref yc, .int mc, .ref yl, .int me, .ref ys, .ref yp, .ref ym, .int md, .ref yo, .ref yk, .ref yt, .int mz, .ref yi, .ref yz, .ref yx, .ref yu, .int km, .int kr])), (yr, .inl (cI, 7, .inl G)), (yw, .inl (cI, 20, .inl v)), (yp, .inl (cI, 200, .inl P)), (ym, .inl (cI, 200, .inl Mf))] s.heap := hP
  have hl := lv_entry ([.ref y, .int w, .int n, .int j]) (n := 7) (Nat.le_of_ble_eq_true rfl)
  rw [lg_entry_eq]
  generalize (lg_sl ([.ref y, .int w, .int n, .int j]) ++ List.replicate (7 - (lg_sl ([.ref y, .int w, .int n, .int j])).length) Slot.unset).toArray = ls at hl ⊢
  have hl : lv_has ls 7 [(0, .ref y), (1, .int w), (2, .int n), (3, .int j)] := hl
  refine lv_aload_n hx hb dX6_seen_0 rfl (lv_at hl 0 rfl) ?_
  refine lv_iload_n hx hb dX6_seen_1 rfl (lv_at hl 1 rfl) ?_
  refine lv_iload_n hx hb dX6_seen_2 rfl (lv_at hl 2 rfl) ?_
  refine lv_iload_n hx hb dX6_seen_3 rfl (lv_at hl 3 rfl) ?_
  refine lv_iconst (v := 0) hx hb dX6_seen_4 (by decide) ?_
  refine rdV (As := [.int w, .int n, .int j, .int 0]) (rest := []) ⟨hx, hb, hml, hown, hts⟩ (c_X6_refusalOf l D cI cZ cR y yr yw yc yl ys yp ym yo yk yt yi yz yx yu mq mn mc me md mz km kr w n j 0 hmn) (cwV 4 hts gX6_seen_X6_refusalOf rfl rfl rfl (by decide +kernel) ⟨Nat.le_of_ble_eq_true rfl, Nat.le_of_ble_eq_true rfl⟩) hK hN hP 0 6 rfl rfl rfl [0] rfl rfl hl.1 rfl (Nat.le_of_ble_eq_true rfl) dX6_seen_5 ⟨Nat.zero_le _, Nat.zero_le _⟩ ?_
  refine lv_istore (lv' := [(4, .int (rf_nth mn w n j 0)), (0, .ref y), (1, .int w), (2, .int n), (3, .int j)]) hx hb dX6_seen_8 hl (by decide) rfl (fun ls hl => ?_)
  refine lv_iload hx hb dX6_seen_10 (lv_at hl 0 rfl) ?_
  refine lv_if_eq (tgt := 22) hx hb dX6_seen_12 (by decide) (fun c_12 => ?_) (fun c_12 => ?_)
  · skip
    have hok := rf_nth_ok c_12
    have hn := n200 hok.2.1
    have hM0 := mk_ne (pl := plK mq v w) (n := n.toNatClampNeg) (by omega)
    refine lv_aload_n hx hb dX6_seen_22 rfl (lv_at hl 1 rfl) ?_
    refine lv_iload_n hx hb dX6_seen_23 rfl (lv_at hl 2 rfl) ?_
    refine lv_iload_n hx hb dX6_seen_24 rfl (lv_at hl 3 rfl) ?_
    refine wrVv (As := [.int w, .int n]) (rest := []) (wr := [(yr, .inl (cI, 7, .inl G))]) (A := A) ⟨hx, hb, hml, hown, hts⟩ (c_X6_sorts l D cI cZ cR y yr yw yc yl ys yp ym yo yk yt yi yz yx yu mq mn mc me md mz km kr v P Mf w n hq (w5 hm5 hok.1) (hws w hok.1) hn.2.1 s.heap.size) (cwV 2 hts gX6_seen_X6_sorts rfl rfl rfl (by decide +kernel) ⟨Nat.le_of_ble_eq_true rfl, Nat.le_of_ble_eq_true rfl⟩) hK hN hP hD hS hA 0 6 rfl rfl rfl [0, 2, 3, 4] [1] rfl (by decide) rfl (by decide) (by decide) rfl hl.1 rfl (Nat.le_of_ble_eq_true rfl) dX6_seen_25 ⟨Nat.zero_le _, Nat.zero_le _⟩ (fun u H locs hw hP hD hS => ?_)
    obtain ⟨md_25, P_25, M_25⟩ := u
    try dsimp only at hw
    obtain ⟨h1_25, h2_25⟩ := hw
    have hP : va_P D vwCl [(y, .inr (6, [.ref yr, .int mq, .int mn, .ref yw, .ref yc, .int mc, .ref yl, .int me, .ref ys, .ref yp, .ref ym, .int md_25, .ref yo, .ref yk, .ref yt, .int mz, .ref yi, .ref yz, .ref yx, .ref yu, .int km, .int kr])), (yr, .inl (cI, 7, .inl G)), (yw, .inl (cI, 20, .inl v)), (yp, .inl (cI, 200, .inl P_25)), (ym, .inl (cI, 200, .inl M_25))] H := hP.sub [1, 0, 2, 3, 4] rfl
    have hD : va_D A [(y, .inr (6, [.ref yr, .int mq, .int mn, .ref yw, .ref yc, .int mc, .ref yl, .int me, .ref ys, .ref yp, .ref ym, .int md_25, .ref yo, .ref yk, .ref yt, .int mz, .ref yi, .ref yz, .ref yx, .ref yu, .int km, .int kr])), (yr, .inl (cI, 7, .inl G)), (yw, .inl (cI, 20, .inl v)), (yp, .inl (cI, 200, .inl P_25)), (ym, .inl (cI, 200, .inl M_25))] := hD.sub [1, 0, 2, 3, 4] (by decide) rfl
    have hMl := h2_25.2.1
    refine lv_iconst (v := 0) hx hb dX6_seen_28 (by decide) ?_
    refine lv_istore (lv' := [(5, .int 0), (4, .int (rf_nth mn w n j 0)), (0, .ref y), (1, .int w), (2, .int n), (3, .int j)]) hx hb dX6_seen_29 hl (by decide) rfl (fun ls hl => ?_)
    refine lv_iconst (v := 0) hx hb dX6_seen_31 (by decide) ?_
    refine lv_istore (lv' := [(6, .int 0), (5, .int 0), (4, .int (rf_nth mn w n j 0)), (0, .ref y), (1, .int w), (2, .int n), (3, .int j)]) hx hb dX6_seen_32 hl (by decide) rfl (fun ls hl => ?_)
    have loop_34 : ∀ (fuel : Nat), ∀ (i : Nat), (i ≤ (mk (plK mq v w) n.toNatClampNeg).length) → (seeA mq (mk (plK mq v w) n.toNatClampNeg) j = ff2 (seeP mq (mk (plK mq v w) n.toNatClampNeg) j) (gpL mq (mk (plK mq v w) n.toNatClampNeg)) i ((mk (plK mq v w) n.toNatClampNeg).length - i)) → ((mk (plK mq v w) n.toNatClampNeg).length + 1 ≤ i + fuel) → ∀ (y5 : Int32), y5 = nI (fa_cnt (fun t => decide (isF mq (mk (plK mq v w) n.toNatClampNeg) t)) i) → ∀ (y6 : Int32), y6 = nI i → ∀ (ls : Array Slot), lv_has ls 7 [(5, .int y5), (6, .int y6), (0, .ref y), (1, .int w), (2, .int n), (3, .int j), (4, .int (rf_nth mn w n j 0))] → W p l e (headSpec wsX6_seen ({ frames := 4, cells := 0, slots := 0, locals := 99 })).room s m ([.ref y, .int w, .int n, .int j] : List Value).toArray below meth c H locs 0 0 (MQ below (va_Qi (fun (res : Int32) (u : (Nat → Int32) × Int32 × (Nat → Int32) × (Nat → Int32)) => res = (if rf_nth mn w n j 0 = 0 then seeA mq (mk (plK mq v w) n.toNatClampNeg) j else rf_nth mn w n j 0) ∧ u.1 = (if rf_nth mn w n j 0 = 0 then G else md_bump G (rf_nth mn w n j 0))) (Bw D (fun (u : (Nat → Int32) × Int32 × (Nat → Int32) × (Nat → Int32)) => [(y, .inr (6, [.ref yr, .int mq, .int mn, .ref yw, .ref yc, .int mc, .ref yl, .int me, .ref ys, .ref yp, .ref ym, .int u.2.1, .ref yo, .ref yk, .ref yt, .int mz, .ref yi, .ref yz, .ref yx, .ref yu, .int km, .int kr])), (yr, .inl (cI, 7, .inl u.1)), (yw, .inl (cI, 20, .inl v)), (yp, .inl (cI, 200, .inl u.2.2.1)), (ym, .inl (cI, 200, .inl u.2.2.2))]) A) A) ([.ref y, .int w, .int n, .int j] : List Value).toArray s 0 0 A) (F0 m 34 ls []) := by
      intro fuel
      induction fuel with
      | zero =>
        intro i hi9 hinv hfu
        exact False.elim (by omega)
      | succ fuel ih_34 =>
        intro i hi9 hinv hfu y5 ey5 y6 ey6 ls hl
        subst ey5
        subst ey6
        refine lv_iload hx hb dX6_seen_34 (lv_at hl 1 rfl) ?_
        refine lv_aload_n hx hb dX6_seen_36 rfl (lv_at hl 2 rfl) ?_
        refine va_get (D := D) (ci := 6) (v := .int md_25) (C := RX6) (T := TX6) (N := 22) hx hb hts (in_X6_seen_X6) hown hK hP 0 rfl rfl 11 (by decide) (hts (.fieldLink RX6 146 "StepsRoundCircleModel" "marked" "I") (by decide +kernel)) (fun _ h9 => h9) rfl dX6_seen_37 ?_
        refine lv_topi (fun z_40 hz_40 => ?_)
        have hz_40 : z_40 = nI (mk (plK mq v w) n.toNatClampNeg).length := hz_40.trans h2_25.1
        subst hz_40
        refine lv_icmp_ge (tgt := 77) hx hb dX6_seen_40 (by decide) (fun c_40 => ?_) (fun c_40 => ?_)
        · skip
          refine lv_bipush (v := (-9)) hx hb dX6_seen_77 (by decide) ?_
          exact wrI (w1 := (fun (u : (Nat → Int32) × Int32 × (Nat → Int32) × (Nat → Int32)) => [(y, .inr (6, [.ref yr, .int mq, .int mn, .ref yw, .ref yc, .int mc, .ref yl, .int me, .ref ys, .ref yp, .ref ym, .int u.2.1, .ref yo, .ref yk, .ref yt, .int mz, .ref yi, .ref yz, .ref yx, .ref yu, .int km, .int kr])), (yr, .inl (cI, 7, .inl u.1)), (yw, .inl (cI, 20, .inl v)), (yp, .inl (cI, 200, .inl u.2.2.1)), (ym, .inl (cI, 200, .inl u.2.2.2))])) (G, md_25, P_25, M_25) hx hb hr hlocks dX6_seen_79 hS (hP.sub [0, 1, 2, 3, 4] rfl) (hD.sub [0, 1, 2, 3, 4] (by decide) rfl) (⟨by rw [if_pos c_12, hinv, show (mk (plK mq v w) n.toNatClampNeg).length - i = 0 by have := (nI_leI (by omega) (by omega)).mp c_40; omega]; rfl, by rw [if_pos c_12]⟩)
        · skip
          have hiN : i < (mk (plK mq v w) n.toNatClampNeg).length := by rcases Nat.lt_or_ge i (mk (plK mq v w) n.toNatClampNeg).length with q9 | q9; exact q9; exact absurd (nI_le q9 (by omega)) c_40
          refine lv_aload_n hx hb dX6_seen_43 rfl (lv_at hl 2 rfl) ?_
          refine lv_iload hx hb dX6_seen_44 (lv_at hl 1 rfl) ?_
          refine rdV (As := [.int (nI i)]) (rest := []) ⟨hx, hb, hml, hown, hts⟩ (c_X6_isFirst l D cI cZ cR y yr yw yc yl ys yp ym yo yk yt yi yz yx yu mq mn mc me md_25 mz km kr M_25 (mk (plK mq v w) n.toNatClampNeg) i h2_25 hiN) (cwV 1 hts gX6_seen_X6_isFirst rfl rfl rfl (by decide +kernel) ⟨Nat.le_of_ble_eq_true rfl, Nat.le_of_ble_eq_true rfl⟩) hK hN hP 0 6 rfl rfl rfl [0, 4] rfl rfl hl.1 rfl (Nat.le_of_ble_eq_true rfl) dX6_seen_46 ⟨Nat.zero_le _, Nat.zero_le _⟩ ?_
          refine lv_if_ne (tgt := 55) hx hb dX6_seen_49 (by decide) (fun c_49 => ?_) (fun c_49 => ?_)
          · skip
            have c_49 := bi_ne0.mp c_49
            refine lv_iload hx hb dX6_seen_55 (lv_at hl 0 rfl) ?_
            refine lv_iload_n hx hb dX6_seen_57 rfl (lv_at hl 5 rfl) ?_
            refine lv_icmp_ne (tgt := 68) hx hb dX6_seen_58 (by decide) (fun c_58 => ?_) (fun c_58 => ?_)
            · skip
              refine lv_iinc (v := (nI (fa_cnt (fun t => decide (isF mq (mk (plK mq v w) n.toNatClampNeg) t)) i)) + 1) (lv' := [(5, .int ((nI (fa_cnt (fun t => decide (isF mq (mk (plK mq v w) n.toNatClampNeg) t)) i)) + 1)), (6, .int (nI i)), (0, .ref y), (1, .int w), (2, .int n), (3, .int j), (4, .int (rf_nth mn w n j 0))]) hx hb dX6_seen_68 hl (k := 0) rfl (by rfl) (by decide) rfl (fun ls hl => ?_)
              refine lv_iinc (v := (nI i) + 1) (lv' := [(6, .int ((nI i) + 1)), (5, .int ((nI (fa_cnt (fun t => decide (isF mq (mk (plK mq v w) n.toNatClampNeg) t)) i)) + 1)), (0, .ref y), (1, .int w), (2, .int n), (3, .int j), (4, .int (rf_nth mn w n j 0))]) hx hb dX6_seen_71 hl (k := 1) rfl (by rfl) (by decide) rfl (fun ls hl => ?_)
              refine lv_goto (tgt := 34) hx hb dX6_seen_74 (by decide) ?_
              exact ih_34 (i + 1) (by omega) (hinv.trans (ff2_no (fun z9 => c_58 z9.2) (by omega))) (by omega) _ (by rw [fa_cnt_yes (by simpa using c_49)]; exact nI_1 _) _ (by first | rfl | exact nI_1 _ | exact nI_0.symm) ls (lv_sub hl [1, 0, 2, 3, 4, 5, 6] rfl)
            · skip
              refine lv_aload_n hx hb dX6_seen_61 rfl (lv_at hl 2 rfl) ?_
              refine lv_iload hx hb dX6_seen_62 (lv_at hl 1 rfl) ?_
              refine rdV (As := [.int (nI i)]) (rest := []) ⟨hx, hb, hml, hown, hts⟩ (c_X6_gap l D cI cZ cR y yr yw yc yl ys yp ym yo yk yt yi yz yx yu mq mn mc me md_25 mz km kr M_25 (mk (plK mq v w) n.toNatClampNeg) i h2_25 hiN) (cwV 1 hts gX6_seen_X6_gap rfl rfl rfl (by decide +kernel) ⟨Nat.le_of_ble_eq_true rfl, Nat.le_of_ble_eq_true rfl⟩) hK hN hP 0 6 rfl rfl rfl [0, 4] rfl rfl hl.1 rfl (Nat.le_of_ble_eq_true rfl) dX6_seen_64 ⟨Nat.zero_le _, Nat.zero_le _⟩ ?_
              exact wrI (w1 := (fun (u : (Nat → Int32) × Int32 × (Nat → Int32) × (Nat → Int32)) => [(y, .inr (6, [.ref yr, .int mq, .int mn, .ref yw, .ref yc, .int mc, .ref yl, .int me, .ref ys, .ref yp, .ref ym, .int u.2.1, .ref yo, .ref yk, .ref yt, .int mz, .ref yi, .ref yz, .ref yx, .ref yu, .int km, .int kr])), (yr, .inl (cI, 7, .inl u.1)), (yw, .inl (cI, 20, .inl v)), (yp, .inl (cI, 200, .inl u.2.2.1)), (ym, .inl (cI, 200, .inl u.2.2.2))])) (G, md_25, P_25, M_25) hx hb hr hlocks dX6_seen_67 hS (hP.sub [0, 1, 2, 3, 4] rfl) (hD.sub [0, 1, 2, 3, 4] (by decide) rfl) (⟨by rw [if_pos c_12, hinv, ff2_yes ⟨c_49, c_58⟩ (by omega)], by rw [if_pos c_12]⟩)
          · skip
            have c_49 := bi_eq0.mp c_49
            refine lv_goto (tgt := 71) hx hb dX6_seen_52 (by decide) ?_
            refine lv_iinc (v := (nI i) + 1) (lv' := [(6, .int ((nI i) + 1)), (5, .int (nI (fa_cnt (fun t => decide (isF mq (mk (plK mq v w) n.toNatClampNeg) t)) i))), (0, .ref y), (1, .int w), (2, .int n), (3, .int j), (4, .int (rf_nth mn w n j 0))]) hx hb dX6_seen_71 hl (k := 1) rfl (by rfl) (by decide) rfl (fun ls hl => ?_)
            refine lv_goto (tgt := 34) hx hb dX6_seen_74 (by decide) ?_
            exact ih_34 (i + 1) (by omega) (hinv.trans (ff2_no (fun z9 => c_49 z9.1) (by omega))) (by omega) _ (by rw [fa_cnt_no (by simpa using c_49)]) _ (by first | rfl | exact nI_1 _ | exact nI_0.symm) ls (lv_sub hl [1, 0, 2, 3, 4, 5, 6] rfl)
    exact loop_34 ((mk (plK mq v w) n.toNatClampNeg).length + 1) 0 (by omega) rfl (by omega) _ (by first | rfl | exact nI_1 _ | exact nI_0.symm) _ (by first | rfl | exact nI_1 _ | exact nI_0.symm) ls (lv_sub hl [1, 0, 3, 4, 5, 6, 2] rfl)
  · skip
    refine lv_aload_n hx hb dX6_seen_15 rfl (lv_at hl 1 rfl) ?_
    refine lv_iload hx hb dX6_seen_16 (lv_at hl 0 rfl) ?_
    refine wrVi (As := [.int (rf_nth mn w n j 0)]) (rest := []) (wr := [(yw, .inl (cI, 20, .inl v)), (yp, .inl (cI, 200, .inl P)), (ym, .inl (cI, 200, .inl Mf))]) (A := A) ⟨hx, hb, hml, hown, hts⟩ (c_X6_no l D cI cZ cR y yr yw yc yl ys yp ym yo yk yt yi yz yx yu mq mn mc me md mz km kr G (rf_nth mn w n j 0) (rf_nth_le _ _ _ _ _) s.heap.size) (cwV 1 hts gX6_seen_X6_no rfl rfl rfl (by decide +kernel) ⟨Nat.le_of_ble_eq_true rfl, Nat.le_of_ble_eq_true rfl⟩) hK hN hP hD hS hA 0 6 rfl rfl rfl [0, 1] [2, 3, 4] rfl (by decide) rfl (by decide) (by decide) rfl hl.1 rfl (Nat.le_of_ble_eq_true rfl) dX6_seen_18 ⟨Nat.zero_le _, Nat.zero_le _⟩ (fun r_18 u H locs hw hP hD hS => ?_)
    obtain ⟨G_18, rfl⟩ : ∃ z, z = u := ⟨_, rfl⟩
    try dsimp only at hw
    obtain ⟨q1_18, q2_18⟩ := hw
    have q1_18 := q1_18.symm
    subst q1_18
    have q2_18 := q2_18.symm
    subst q2_18
    have hP : va_P D vwCl [(y, .inr (6, [.ref yr, .int mq, .int mn, .ref yw, .ref yc, .int mc, .ref yl, .int me, .ref ys, .ref yp, .ref ym, .int md, .ref yo, .ref yk, .ref yt, .int mz, .ref yi, .ref yz, .ref yx, .ref yu, .int km, .int kr])), (yr, .inl (cI, 7, .inl (md_bump G (rf_nth mn w n j 0)))), (yw, .inl (cI, 20, .inl v)), (yp, .inl (cI, 200, .inl P)), (ym, .inl (cI, 200, .inl Mf))] H := hP.sub [3, 4, 0, 1, 2] rfl
    have hD : va_D A [(y, .inr (6, [.ref yr, .int mq, .int mn, .ref yw, .ref yc, .int mc, .ref yl, .int me, .ref ys, .ref yp, .ref ym, .int md, .ref yo, .ref yk, .ref yt, .int mz, .ref yi, .ref yz, .ref yx, .ref yu, .int km, .int kr])), (yr, .inl (cI, 7, .inl (md_bump G (rf_nth mn w n j 0)))), (yw, .inl (cI, 20, .inl v)), (yp, .inl (cI, 200, .inl P)), (ym, .inl (cI, 200, .inl Mf))] := hD.sub [3, 4, 0, 1, 2] (by decide) rfl
    exact wrI (w1 := (fun (u : (Nat → Int32) × Int32 × (Nat → Int32) × (Nat → Int32)) => [(y, .inr (6, [.ref yr, .int mq, .int mn, .ref yw, .ref yc, .int mc, .ref yl, .int me, .ref ys, .ref yp, .ref ym, .int u.2.1, .ref yo, .ref yk, .ref yt, .int mz, .ref yi, .ref yz, .ref yx, .ref yu, .int km, .int kr])), (yr, .inl (cI, 7, .inl u.1)), (yw, .inl (cI, 20, .inl v)), (yp, .inl (cI, 200, .inl u.2.2.1)), (ym, .inl (cI, 200, .inl u.2.2.2))])) ((md_bump G (rf_nth mn w n j 0)), md, P, Mf) hx hb hr hlocks dX6_seen_21 hS (hP.sub [0, 1, 2, 3, 4] rfl) (hD.sub [0, 1, 2, 3, 4] (by decide) rfl) (by simp [c_12])
