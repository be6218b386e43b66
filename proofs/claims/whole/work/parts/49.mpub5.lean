theorem in_X5_shared_X3 : ∀ w ∈ wsX30, w ∈ wsX5_shared := by decide +kernel
theorem in_X5_shared_X5 : ∀ w ∈ wsX50, w ∈ wsX5_shared := by decide +kernel
theorem in_X6_lengths_X6 : ∀ w ∈ wsX60, w ∈ wsX6_lengths := by decide +kernel
theorem in_X6_many_X6 : ∀ w ∈ wsX60, w ∈ wsX6_many := by decide +kernel
set_option maxHeartbeats 4000000 in
set_option maxRecDepth 100000 in
theorem c_X6_lengths (l : Launch) (D : va_G) (cI cZ cR : ClassId) (y yr yw yc yl ys yp ym yo yk yt yi yz yx yu : Nat) (mq mn mc me md mz km kr : Int32) (G : Nat → Int32) (v P Mf : Nat → Int32) (w n j : Int32) (hq : okQ mq) (hmn : 0 ≤ mn) (hm5 : mn ≤ 5) (hws : ∀ w, 0 ≤ w ∧ w < mn → okW mq v w) (sz : Nat) : Met l yX6_lengths wsX6_lengths ({ frames := 4, cells := 0, slots := 0, locals := 99 }) (PcW D cI cZ cR [.ref y, .int w, .int n, .int j] [(y, .inr (6, [.ref yr, .int mq, .int mn, .ref yw, .ref yc, .int mc, .ref yl, .int me, .ref ys, .ref yp, .ref ym, .int md, .ref yo, .ref yk, .ref yt, .int mz, .ref yi, .ref yz, .ref yx, .ref yu, .int km, .int kr])), (yr, .inl (cI, 7, .inl G)), (yw, .inl (cI, 20, .inl v)), (yp, .inl (cI, 200, .inl P)), (ym, .inl (cI, 200, .inl Mf))] sz) (va_Qi (fun (res : Int32) (u : (Nat → Int32) × Int32 × (Nat → Int32) × (Nat → Int32)) => res = (if rf_nth mn w n j (-1) = 0 then lenA mq (mk (plK mq v w) n.toNatClampNeg) j else rf_nth mn w n j (-1)) ∧ u.1 = (if rf_nth mn w n j (-1) = 0 then G else md_bump G (rf_nth mn w n j (-1)))) (Bw D (fun (u : (Nat → Int32) × Int32 × (Nat → Int32) × (Nat → Int32)) => [(y, .inr (6, [.ref yr, .int mq, .int mn, .ref yw, .ref yc, .int mc, .ref yl, .int me, .ref ys, .ref yp, .ref ym, .int u.2.1, .ref yo, .ref yk, .ref yt, .int mz, .ref yi, .ref yz, .ref yx, .ref yu, .int km, .int kr])), (yr, .inl (cI, 7, .inl u.1)), (yw, .inl (cI, 20, .inl v)), (yp, .inl (cI, 200, .inl u.2.2.1)), (ym, .inl (cI, 200, .inl u.2.2.2))]) (va_A [(y, .inr (6, [.ref yr, .int mq, .int mn, .ref yw, .ref yc, .int mc, .ref yl, .int me, .ref ys, .ref yp, .ref ym, .int md, .ref yo, .ref yk, .ref yt, .int mz, .ref yi, .ref yz, .ref yx, .ref yu, .int km, .int kr])), (yr, .inl (cI, 7, .inl G)), (yw, .inl (cI, 20, .inl v)), (yp, .inl (cI, 200, .inl P)), (ym, .inl (cI, 200, .inl Mf))] sz)) (va_A [(y, .inr (6, [.ref yr, .int mq, .int mn, .ref yw, .ref yc, .int mc, .ref yl, .int me, .ref ys, .ref yp, .ref ym, .int md, .ref yo, .ref yk, .ref yt, .int mz, .ref yi, .ref yz, .ref yx, .ref yu, .int km, .int kr])), (yr, .inl (cI, 7, .inl G)), (yw, .inl (cI, 20, .inl v)), (yp, .inl (cI, 200, .inl P)), (ym, .inl (cI, 200, .inl Mf))] sz)) 0 0 (va_A [(y, .inr (6, [.ref yr, .int mq, .int mn, .ref yw, .ref yc, .int mc, .ref yl, .int me, .ref ys, .ref yp, .ref ym, .int md, .ref yo, .ref yk, .ref yt, .int mz, .ref yi, .ref yz, .ref yx, .ref yu, .int km, .int kr])), (yr, .inl (cI, 7, .inl G)), (yw, .inl (cI, 20, .inl v)), (yp, .inl (cI, 200, .inl P)), (ym, .inl (cI, 200, .inl Mf))] sz) := by
  refine Met.ofW (cc := cX6_lengths) (maxL := 5) (ret := (some .int)) (by decide) rfl ?_
  intro p e s m args below meth c s₁ B hml hv
  obtain ⟨rfl, hsz, hP, hK, hD0, hN⟩ := hv
  have hx := B.exec
  have hb := B.bytes
  have hr := B.returns
  have hts := atoms_spec (ws := wsX6_lengths) B.pre
  have hown : s.vm.findClass RX6 = some m.cls := findClass_of_methodNamed B.named
  have hlocks := B.notSynchronized
  subst hsz
  have hD := hD0.self (sz := s.heap.size)
  generalize hAe : va_A [(y, .inr (6, [.ref yr, .int mq, .int mn, .ref yw, .ref yc, .int mc, .ref yl, .int me, .ref ys, .ref yp, .ref ym, .int md, .ref yo, .ref yk, .ref yt, .int mz, .ref yi, .ref yz, .ref yx, .ref yu, .int km, .int kr])), (yr, .inl (cI, 7, .inl G)), (yw, .inl (cI, 20, .inl v)), (yp, .inl (cI, 200, .inl P)), (ym, .inl (cI, 200, .inl Mf))] s.heap.size = A at hD ⊢
  have hA : ∀ q : Nat, s.heap.size ≤ q → A q := fun q h => by rw [← hAe]; exact Or.inr h
  have hS : va_S A s.heap s.heap [] := va_S.rf
  have hP : va_P D vwCl [(y, .inr (6, [.ref yr, .int mq, .int mn, .ref yw, .ref yc, .int mc, .ref yl, .int me, .ref ys, .ref yp, .ref ym, .int md, .ref yo, .ref yk, .ref yt, .int mz, .ref yi, .ref yz, .ref yx, .ref yu, .int km, .int kr])), (yr, .inl (cI, 7, .inl G)), (yw, .inl (cI, 20, .inl v)), (yp, .inl (cI, 200, .inl P)), (ym, .inl (cI, 200, .inl Mf))] s.heap := hP
  have hl := lv_entry ([.ref y, .int w, .int n, .int j]) (n := 5) (Nat.le_of_ble_eq_true rfl)
  rw [lg_entry_eq]
  generalize (lg_sl ([.ref y, .int w, .int n, .int j]) ++ List.replicate (5 - (lg_sl ([.ref y, .int w, .int n, .int j])).length) Slot.unset).toArray = ls at hl ⊢
  have hl : lv_has ls 5 [(0, .ref y), (1, .int w), (2, .int n), (3, .int j)] := hl
  refine lv_aload_n hx hb dX6_lengths_0 rfl (lv_at hl 0 rfl) ?_
  refine lv_iload_n hx hb dX6_lengths_1 rfl (lv_at hl 1 rfl) ?_
  refine lv_iload_n hx hb dX6_lengths_2 rfl (lv_at hl 2 rfl) ?_
  refine lv_iload_n hx hb dX6_lengths_3 rfl (lv_at hl 3 rfl) ?_
  refine lv_iconst (v := (-1)) hx hb dX6_lengths_4 (by decide) ?_
  refine rdV (As := [.int w, .int n, .int j, .int (-1)]) (rest := []) ⟨hx, hb, hml, hown, hts⟩ (c_X6_refusalOf l D cI cZ cR y yr yw yc yl ys yp ym yo yk yt yi yz yx yu mq mn mc me md mz km kr w n j (-1) hmn) (cwV 4 hts gX6_lengths_X6_refusalOf rfl rfl rfl (by decide +kernel) ⟨Nat.le_of_ble_eq_true rfl, Nat.le_of_ble_eq_true rfl⟩) hK hN hP 0 6 rfl rfl rfl [0] rfl rfl hl.1 rfl (Nat.le_of_ble_eq_true rfl) dX6_lengths_5 ⟨Nat.zero_le _, Nat.zero_le _⟩ ?_
  refine lv_istore (lv' := [(4, .int (rf_nth mn w n j (-1))), (0, .ref y), (1, .int w), (2, .int n), (3, .int j)]) hx hb dX6_lengths_8 hl (by decide) rfl (fun ls hl => ?_)
  refine lv_iload hx hb dX6_lengths_10 (lv_at hl 0 rfl) ?_
  refine lv_if_eq (tgt := 22) hx hb dX6_lengths_12 (by decide) (fun c_12 => ?_) (fun c_12 => ?_)
  · skip
    have hok := rf_nth_ok c_12
    have hn := n200 hok.2.1
    have hM0 := mk_ne (pl := plK mq v w) (n := n.toNatClampNeg) (by omega)
    refine lv_aload_n hx hb dX6_lengths_22 rfl (lv_at hl 1 rfl) ?_
    refine lv_iload_n hx hb dX6_lengths_23 rfl (lv_at hl 2 rfl) ?_
    refine lv_iload_n hx hb dX6_lengths_24 rfl (lv_at hl 3 rfl) ?_
    refine wrVv (As := [.int w, .int n]) (rest := []) (wr := [(yr, .inl (cI, 7, .inl G))]) (A := A) ⟨hx, hb, hml, hown, hts⟩ (c_X6_sorts l D cI cZ cR y yr yw yc yl ys yp ym yo yk yt yi yz yx yu mq mn mc me md mz km kr v P Mf w n hq (w5 hm5 hok.1) (hws w hok.1) hn.2.1 s.heap.size) (cwV 2 hts gX6_lengths_X6_sorts rfl rfl rfl (by decide +kernel) ⟨Nat.le_of_ble_eq_true rfl, Nat.le_of_ble_eq_true rfl⟩) hK hN hP hD hS hA 0 6 rfl rfl rfl [0, 2, 3, 4] [1] rfl (by decide) rfl (by decide) (by decide) rfl hl.1 rfl (Nat.le_of_ble_eq_true rfl) dX6_lengths_25 ⟨Nat.zero_le _, Nat.zero_le _⟩ (fun u H locs hw hP hD hS => ?_)
    obtain ⟨md_25, P_25, M_25⟩ := u
    try dsimp only at hw
    obtain ⟨h1_25, h2_25⟩ := hw
    have hP : va_P D vwCl [(y, .inr (6, [.ref yr, .int mq, .int mn, .ref yw, .ref yc, .int mc, .ref yl, .int me, .ref ys, .ref yp, .ref ym, .int md_25, .ref yo, .ref yk, .ref yt, .int mz, .ref yi, .ref yz, .ref yx, .ref yu, .int km, .int kr])), (yr, .inl (cI, 7, .inl G)), (yw, .inl (cI, 20, .inl v)), (yp, .inl (cI, 200, .inl P_25)), (ym, .inl (cI, 200, .inl M_25))] H := hP.sub [1, 0, 2, 3, 4] rfl
    have hD : va_D A [(y, .inr (6, [.ref yr, .int mq, .int mn, .ref yw, .ref yc, .int mc, .ref yl, .int me, .ref ys, .ref yp, .ref ym, .int md_25, .ref yo, .ref yk, .ref yt, .int mz, .ref yi, .ref yz, .ref yx, .ref yu, .int km, .int kr])), (yr, .inl (cI, 7, .inl G)), (yw, .inl (cI, 20, .inl v)), (yp, .inl (cI, 200, .inl P_25)), (ym, .inl (cI, 200, .inl M_25))] := hD.sub [1, 0, 2, 3, 4] (by decide) rfl
    have hMl := h2_25.2.1
    have hgl : (gaps mq (mk (plK mq v w) n.toNatClampNeg)).length ≤ (mk (plK mq v w) n.toNatClampNeg).length := mk_len _ _
    refine lv_iload_n hx hb dX6_lengths_28 rfl (lv_at hl 4 rfl) ?_
    refine lv_iconst (v := (-1)) hx hb dX6_lengths_29 (by decide) ?_
    refine lv_icmp_ne (tgt := 40) hx hb dX6_lengths_30 (by decide) (fun c_30 => ?_) (fun c_30 => ?_)
    · skip
      refine lv_iload_n hx hb dX6_lengths_40 rfl (lv_at hl 4 rfl) ?_
      refine lv_aload_n hx hb dX6_lengths_41 rfl (lv_at hl 1 rfl) ?_
      refine va_get (D := D) (ci := 6) (v := .int md_25) (C := RX6) (T := TX6) (N := 22) hx hb hts (in_X6_lengths_X6) hown hK hP 0 rfl rfl 11 (by decide) (hts (.fieldLink RX6 146 "StepsRoundCircleModel" "marked" "I") (by decide +kernel)) (fun _ h9 => h9) rfl dX6_lengths_42 ?_
      refine lv_topi (fun z_45 hz_45 => ?_)
      have hz_45 : z_45 = nI (mk (plK mq v w) n.toNatClampNeg).length := hz_45.trans h2_25.1
      subst hz_45
      refine lv_icmp_lt (tgt := 53) hx hb dX6_lengths_45 (by decide) (fun c_45 => ?_) (fun c_45 => ?_)
      · skip
        have hj0 := j_0 hok.2.2 c_30
        have hjN := jN hj0
        have hj9 : j.toNatClampNeg < 1000 := by have h9 := c_45; rw [hjN.1] at h9; have := (nI_ltI (by omega) (by omega)).mp h9; omega
        refine lv_aload_n hx hb dX6_lengths_53 rfl (lv_at hl 1 rfl) ?_
        refine lv_iload_n hx hb dX6_lengths_54 rfl (lv_at hl 4 rfl) ?_
        refine lv_topi (fun z_55 hz_55 => ?_)
        have hz_55 : z_55 = nI j.toNatClampNeg := hz_55.trans hjN.1
        subst hz_55
        refine rdV (As := [.int (nI j.toNatClampNeg)]) (rest := []) ⟨hx, hb, hml, hown, hts⟩ (c_X6_lengthOf l D cI cZ cR y yr yw yc yl ys yp ym yo yk yt yi yz yx yu mq mn mc me md_25 mz km kr M_25 (mk (plK mq v w) n.toNatClampNeg) j.toNatClampNeg h2_25 (fun i hi => gap_pos hq hi) hj9) (cwV 1 hts gX6_lengths_X6_lengthOf rfl rfl rfl (by decide +kernel) ⟨Nat.le_of_ble_eq_true rfl, Nat.le_of_ble_eq_true rfl⟩) hK hN hP 0 6 rfl rfl rfl [0, 4] rfl rfl hl.1 rfl (Nat.le_of_ble_eq_true rfl) dX6_lengths_55 ⟨Nat.zero_le _, Nat.zero_le _⟩ ?_
        exact wrI (w1 := (fun (u : (Nat → Int32) × Int32 × (Nat → Int32) × (Nat → Int32)) => [(y, .inr (6, [.ref yr, .int mq, .int mn, .ref yw, .ref yc, .int mc, .ref yl, .int me, .ref ys, .ref yp, .ref ym, .int u.2.1, .ref yo, .ref yk, .ref yt, .int mz, .ref yi, .ref yz, .ref yx, .ref yu, .int km, .int kr])), (yr, .inl (cI, 7, .inl u.1)), (yw, .inl (cI, 20, .inl v)), (yp, .inl (cI, 200, .inl u.2.2.1)), (ym, .inl (cI, 200, .inl u.2.2.2))])) (G, md_25, P_25, M_25) hx hb hr hlocks dX6_lengths_58 hS (hP.sub [0, 1, 2, 3, 4] rfl) (hD.sub [0, 1, 2, 3, 4] (by decide) rfl) (⟨by rw [if_pos c_12]; unfold lenA; rw [if_neg c_30]; exact lenA_in hj0 (by omega), by rw [if_pos c_12]⟩)
      · skip
        refine lv_bipush (v := (-9)) hx hb dX6_lengths_48 (by decide) ?_
        refine lv_goto (tgt := 58) hx hb dX6_lengths_50 (by decide) ?_
        exact wrI (w1 := (fun (u : (Nat → Int32) × Int32 × (Nat → Int32) × (Nat → Int32)) => [(y, .inr (6, [.ref yr, .int mq, .int mn, .ref yw, .ref yc, .int mc, .ref yl, .int me, .ref ys, .ref yp, .ref ym, .int u.2.1, .ref yo, .ref yk, .ref yt, .int mz, .ref yi, .ref yz, .ref yx, .ref yu, .int km, .int kr])), (yr, .inl (cI, 7, .inl u.1)), (yw, .inl (cI, 20, .inl v)), (yp, .inl (cI, 200, .inl u.2.2.1)), (ym, .inl (cI, 200, .inl u.2.2.2))])) (G, md_25, P_25, M_25) hx hb hr hlocks dX6_lengths_58 hS (hP.sub [0, 1, 2, 3, 4] rfl) (hD.sub [0, 1, 2, 3, 4] (by decide) rfl) (⟨by rw [if_pos c_12]; unfold lenA; rw [if_neg c_30, if_neg (len_ge (Int32.not_lt.mp c_45) hMl)], by rw [if_pos c_12]⟩)
    · skip
      refine lv_aload_n hx hb dX6_lengths_33 rfl (lv_at hl 1 rfl) ?_
      refine rdV (As := []) (rest := []) ⟨hx, hb, hml, hown, hts⟩ (c_X6_unlike l D cI cZ cR y yr yw yc yl ys yp ym yo yk yt yi yz yx yu mq mn mc me md_25 mz km kr M_25 (mk (plK mq v w) n.toNatClampNeg) h2_25) (cwV 0 hts gX6_lengths_X6_unlike rfl rfl rfl (by decide +kernel) ⟨Nat.le_of_ble_eq_true rfl, Nat.le_of_ble_eq_true rfl⟩) hK hN hP 0 6 rfl rfl rfl [0, 4] rfl rfl hl.1 rfl (Nat.le_of_ble_eq_true rfl) dX6_lengths_34 ⟨Nat.zero_le _, Nat.zero_le _⟩ ?_
      refine lv_goto (tgt := 58) hx hb dX6_lengths_37 (by decide) ?_
      exact wrI (w1 := (fun (u : (Nat → Int32) × Int32 × (Nat → Int32) × (Nat → Int32)) => [(y, .inr (6, [.ref yr, .int mq, .int mn, .ref yw, .ref yc, .int mc, .ref yl, .int me, .ref ys, .ref yp, .ref ym, .int u.2.1, .ref yo, .ref yk, .ref yt, .int mz, .ref yi, .ref yz, .ref yx, .ref yu, .int km, .int kr])), (yr, .inl (cI, 7, .inl u.1)), (yw, .inl (cI, 20, .inl v)), (yp, .inl (cI, 200, .inl u.2.2.1)), (ym, .inl (cI, 200, .inl u.2.2.2))])) (G, md_25, P_25, M_25) hx hb hr hlocks dX6_lengths_58 hS (hP.sub [0, 1, 2, 3, 4] rfl) (hD.sub [0, 1, 2, 3, 4] (by decide) rfl) (⟨by rw [if_pos c_12]; unfold lenA; rw [if_pos c_30]; exact gaps_cnt _ _, by rw [if_pos c_12]⟩)
  · skip
    refine lv_aload_n hx hb dX6_lengths_15 rfl (lv_at hl 1 rfl) ?_
    refine lv_iload hx hb dX6_lengths_16 (lv_at hl 0 rfl) ?_
    refine wrVi (As := [.int (rf_nth mn w n j (-1))]) (rest := []) (wr := [(yw, .inl (cI, 20, .inl v)), (yp, .inl (cI, 200, .inl P)), (ym, .inl (cI, 200, .inl Mf))]) (A := A) ⟨hx, hb, hml, hown, hts⟩ (c_X6_no l D cI cZ cR y yr yw yc yl ys yp ym yo yk yt yi yz yx yu mq mn mc me md mz km kr G (rf_nth mn w n j (-1)) (rf_nth_le _ _ _ _ _) s.heap.size) (cwV 1 hts gX6_lengths_X6_no rfl rfl rfl (by decide +kernel) ⟨Nat.le_of_ble_eq_true rfl, Nat.le_of_ble_eq_true rfl⟩) hK hN hP hD hS hA 0 6 rfl rfl rfl [0, 1] [2, 3, 4] rfl (by decide) rfl (by decide) (by decide) rfl hl.1 rfl (Nat.le_of_ble_eq_true rfl) dX6_lengths_18 ⟨Nat.zero_le _, Nat.zero_le _⟩ (fun r_18 u H locs hw hP hD hS => ?_)
    obtain ⟨G_18, rfl⟩ : ∃ z, z = u := ⟨_, rfl⟩
    try dsimp only at hw
    obtain ⟨q1_18, q2_18⟩ := hw
    have q1_18 := q1_18.symm
    subst q1_18
    have q2_18 := q2_18.symm
    subst q2_18
    have hP : va_P D vwCl [(y, .inr (6, [.ref yr, .int mq, .int mn, .ref yw, .ref yc, .int mc, .ref yl, .int me, .ref ys, .ref yp, .ref ym, .int md, .ref yo, .ref yk, .ref yt, .int mz, .ref yi, .ref yz, .ref yx, .ref yu, .int km, .int kr])), (yr, .inl (cI, 7, .inl (md_bump G (rf_nth mn w n j (-1))))), (yw, .inl (cI, 20, .inl v)), (yp, .inl (cI, 200, .inl P)), (ym, .inl (cI, 200, .inl Mf))] H := hP.sub [3, 4, 0, 1, 2] rfl
    have hD : va_D A [(y, .inr (6, [.ref yr, .int mq, .int mn, .ref yw, .ref yc, .int mc, .ref yl, .int me, .ref ys, .ref yp, .ref ym, .int md, .ref yo, .ref yk, .ref yt, .int mz, .ref yi, .ref yz, .ref yx, .ref yu, .int km, .int kr])), (yr, .inl (cI, 7, .inl (md_bump G (rf_nth mn w n j (-1))))), (yw, .inl (cI, 20, .inl v)), (yp, .inl (cI, 200, .inl P)), (ym, .inl (cI, 200, .inl Mf))] := hD.sub [3, 4, 0, 1, 2] (by decide) rfl
    exact wrI (w1 := (fun (u : (Nat → Int32) × Int32 × (Nat → Int32) × (Nat → Int32)) => [(y, .inr (6, [.ref yr, .int mq, .int mn, .ref yw, .ref yc, .int mc, .ref yl, .int me, .ref ys, .ref yp, .ref ym, .int u.2.1, .ref yo, .ref yk, .ref yt, .int mz, .ref yi, .ref yz, .ref yx, .ref yu, .int km, .int kr])), (yr, .inl (cI, 7, .inl u.1)), (yw, .inl (cI, 20, .inl v)), (yp, .inl (cI, 200, .inl u.2.2.1)), (ym, .inl (cI, 200, .inl u.2.2.2))])) ((md_bump G (rf_nth mn w n j (-1))), md, P, Mf) hx hb hr hlocks dX6_lengths_21 hS (hP.sub [0, 1, 2, 3, 4] rfl) (hD.sub [0, 1, 2, 3, 4] (by decide) rfl) (by simp [c_12])

set_option maxHeartbeats 4000000 in
set_option maxRecDepth 100000 in
theorem c_X6_many (l : Launch) (D : va_G) (cI cZ cR : ClassId) (y yr yw yc yl ys yp ym yo yk yt yi yz yx yu : Nat) (mq mn mc me md mz km kr : Int32) (G : Nat → Int32) (v P Mf : Nat → Int32) (w n j : Int32) (hq : okQ mq) (hmn : 0 ≤ mn) (hm5 : mn ≤ 5) (hws : ∀ w, 0 ≤ w ∧ w < mn → okW mq v w) (sz : Nat) : Met l yX6_many wsX6_many ({ frames := 4, cells := 0, slots := 0, locals := 99 }) (PcW D cI cZ cR [.ref y, .int w, .int n, .int j] [(y, .inr (6, [.ref yr, .int mq, .int mn, .ref yw, .ref yc, .int mc, .ref yl, .int me, .ref ys, .ref yp, .ref ym, .int md, .ref yo, .ref yk, .ref yt, .int mz, .ref yi, .ref yz, .ref yx, .ref yu, .int km, .int kr])), (yr, .inl (cI, 7, .inl G)), (yw, .inl (cI, 20, .inl v)), (yp, .inl (cI, 200, .inl P)), (ym, .inl (cI, 200, .inl Mf))] sz) (va_Qi (fun (res : Int32) (u : (Nat → Int32) × Int32 × (Nat → Int32) × (Nat → Int32)) => res = (if rf_nth mn w n j 0 = 0 then manA mq (mk (plK mq v w) n.toNatClampNeg) j else rf_nth mn w n j 0) ∧ u.1 = (if rf_nth mn w n j 0 = 0 then G else md_bump G (rf_nth mn w n j 0))) (Bw D (fun (u : (Nat → Int32) × Int32 × (Nat → Int32) × (Nat → Int32)) => [(y, .inr (6, [.ref yr, .int mq, .int mn, .ref yw, .ref yc, .int mc, .ref yl, .int me, .ref ys, .ref yp, .ref ym, .int u.2.1, .ref yo, .ref yk, .ref yt, .int mz, .ref yi, .ref yz, .ref yx, .ref yu, .int km, .int kr])), (yr, .inl (cI, 7, .inl u.1)), (yw, .inl (cI, 20, .inl v)), (yp, .inl (cI, 200, .inl u.2.2.1)), (ym, .inl (cI, 200, .inl u.2.2.2))]) (va_A [(y, .inr (6, [.ref yr, .int mq, .int mn, .ref yw, .ref yc, .int mc, .ref yl, .int me, .ref ys, .ref yp, .ref ym, .int md, .ref yo, .ref yk, .ref yt, .int mz, .ref yi, .ref yz, .ref yx, .ref yu, .int km, .int kr])), (yr, .inl (cI, 7, .inl G)), (yw, .inl (cI, 20, .inl v)), (yp, .inl (cI, 200, .inl P)), (ym, .inl (cI, 200, .inl Mf))] sz)) (va_A [(y, .inr (6, [.ref yr, .int mq, .int mn, .ref yw, .ref yc, .int mc, .ref yl, .int me, .ref ys, .ref yp, .ref ym, .int md, .ref yo, .ref yk, .ref yt, .int mz, .ref yi, .ref yz, .ref yx, .ref yu, .int km, .int kr])), (yr, .inl (cI, 7, .inl G)), (yw, .inl (cI, 20, .inl v)), (yp, .inl (cI, 200, .inl P)), (ym, .inl (cI, 200, .inl Mf))] sz)) 0 0 (va_A [(y, .inr (6, [.ref yr, .int mq, .int mn, .ref yw, .ref yc, .int mc, .ref yl, .int me, .ref ys, .ref yp, .ref ym, .int md, .ref yo, .ref yk, .ref yt, .int mz, .ref yi, .ref yz, .ref yx, .ref yu, .int km, .int kr])), (yr, .inl (cI, 7, .inl G)), (yw, .inl (cI, 20, .inl v)), (yp, .inl (cI, 200, .inl P)), (ym, .inl (cI, 200, .inl Mf))] sz) := by
  refine Met.ofW (cc := cX6_many) (maxL := 8) (ret := (some .int)) (by decide) rfl ?_
  intro p e s m args below meth c s₁ B hml hv
  obtain ⟨rfl, hsz, hP, hK, hD0, hN⟩ := hv
  have hx := B.exec
  have hb := B.bytes
  have hr := B.returns
  have hts := atoms_spec (ws := wsX6_many) B.pre
  have hown : s.vm.findClass RX6 = some m.cls := findClass_of_methodNamed B.named
  have hlocks := B.notSynchronized
  subst hsz
  have hD := hD0.self (sz := s.heap.size)
  generalize hAe : va_A [(y, .inr (6, [.ref yr, .int mq, .int mn, .ref yw, .ref yc, .int mc, .ref yl, .int me, .ref ys, .ref yp, .ref ym, .int md, .ref yo, .ref yk, .ref yt, .int mz, .ref yi, .ref yz, .ref yx, .ref yu, .int km, .int kr])), (yr, .inl (cI, 7, .inl G)), (yw, .inl (cI, 20, .inl v)), (yp, .inl (cI, 200, .inl P)), (ym, .inl (cI, 200, .inl Mf))] s.heap.size = A at hD ⊢
  have hA : ∀ q : Nat, s.heap.size ≤ q → A q := fun q h => by rw [← hAe]; exact Or.inr h
  have hS : va_S A s.heap s.heap [] := va_S.rf
  have hP : va_P D vwCl [(y, .inr (6, [.ref yr, .int mq, .int mn, .ref yw, .ref yc, .int mc, .ref yl, .int me, .ref ys, .ref yp, .ref ym, .int md, .ref yo, .ref yk, .ref yt, .int mz, .ref yi, .ref yz, .ref yx, .ref yu, .int km, .int kr])), (yr, .inl (cI, 7, .inl G)), (yw, .inl (cI, 20, .inl v)), (yp, .inl (cI, 200, .inl P)), (ym, .inl (cI, 200, .inl Mf))] s.heap := hP
  have hl := lv_entry ([.ref y, .int w, .int n, .int j]) (n := 8) (Nat.le_of_ble_eq_true rfl)
  rw [lg_entry_eq]
  generalize (lg_sl ([.ref y, .int w, .int n, .int j]) ++ List.replicate (8 - (lg_sl ([.ref y, .int w, .int n, .int j])).length) Slot.unset).toArray = ls at hl ⊢
  have hl : lv_has ls 8 [(0, .ref y), (1, .int w), (2, .int n), (3, .int j)] := hl
  refine lv_aload_n hx hb dX6_many_0 rfl (lv_at hl 0 rfl) ?_
  refine lv_iload_n hx hb dX6_many_1 rfl (lv_at hl 1 rfl) ?_
  refine lv_iload_n hx hb dX6_many_2 rfl (lv_at hl 2 rfl) ?_
  refine lv_iload_n hx hb dX6_many_3 rfl (lv_at hl 3 rfl) ?_
  refine lv_iconst (v := 0) hx hb dX6_many_4 (by decide) ?_
  refine rdV (As := [.int w, .int n, .int j, .int 0]) (rest := []) ⟨hx, hb, hml, hown, hts⟩ (c_X6_refusalOf l D cI cZ cR y yr yw yc yl ys yp ym yo yk yt yi yz yx yu mq mn mc me md mz km kr w n j 0 hmn) (cwV 4 hts gX6_many_X6_refusalOf rfl rfl rfl (by decide +kernel) ⟨Nat.le_of_ble_eq_true rfl, Nat.le_of_ble_eq_true rfl⟩) hK hN hP 0 6 rfl rfl rfl [0] rfl rfl hl.1 rfl (Nat.le_of_ble_eq_true rfl) dX6_many_5 ⟨Nat.zero_le _, Nat.zero_le _⟩ ?_
  refine lv_istore (lv' := [(4, .int (rf_nth mn w n j 0)), (0, .ref y), (1, .int w), (2, .int n), (3, .int j)]) hx hb dX6_many_8 hl (by decide) rfl (fun ls hl => ?_)
  refine lv_iload hx hb dX6_many_10 (lv_at hl 0 rfl) ?_
  refine lv_if_eq (tgt := 22) hx hb dX6_many_12 (by decide) (fun c_12 => ?_) (fun c_12 => ?_)
  · skip
    have hok := rf_nth_ok c_12
    have hn := n200 hok.2.1
    have hM0 := mk_ne (pl := plK mq v w) (n := n.toNatClampNeg) (by omega)
    refine lv_aload_n hx hb dX6_many_22 rfl (lv_at hl 1 rfl) ?_
    refine lv_iload_n hx hb dX6_many_23 rfl (lv_at hl 2 rfl) ?_
    refine lv_iload_n hx hb dX6_many_24 rfl (lv_at hl 3 rfl) ?_
    refine wrVv (As := [.int w, .int n]) (rest := []) (wr := [(yr, .inl (cI, 7, .inl G))]) (A := A) ⟨hx, hb, hml, hown, hts⟩ (c_X6_sorts l D cI cZ cR y yr yw yc yl ys yp ym yo yk yt yi yz yx yu mq mn mc me md mz km kr v P Mf w n hq (w5 hm5 hok.1) (hws w hok.1) hn.2.1 s.heap.size) (cwV 2 hts gX6_many_X6_sorts rfl rfl rfl (by decide +kernel) ⟨Nat.le_of_ble_eq_true rfl, Nat.le_of_ble_eq_true rfl⟩) hK hN hP hD hS hA 0 6 rfl rfl rfl [0, 2, 3, 4] [1] rfl (by decide) rfl (by decide) (by decide) rfl hl.1 rfl (Nat.le_of_ble_eq_true rfl) dX6_many_25 ⟨Nat.zero_le _, Nat.zero_le _⟩ (fun u H locs hw hP hD hS => ?_)
    obtain ⟨md_25, P_25, M_25⟩ := u
    try dsimp only at hw
    obtain ⟨h1_25, h2_25⟩ := hw
    have hP : va_P D vwCl [(y, .inr (6, [.ref yr, .int mq, .int mn, .ref yw, .ref yc, .int mc, .ref yl, .int me, .ref ys, .ref yp, .ref ym, .int md_25, .ref yo, .ref yk, .ref yt, .int mz, .ref yi, .ref yz, .ref yx, .ref yu, .int km, .int kr])), (yr, .inl (cI, 7, .inl G)), (yw, .inl (cI, 20, .inl v)), (yp, .inl (cI, 200, .inl P_25)), (ym, .inl (cI, 200, .inl M_25))] H := hP.sub [1, 0, 2, 3, 4] rfl
    have hD : va_D A [(y, .inr (6, [.ref yr, .int mq, .int mn, .ref yw, .ref yc, .int mc, .ref yl, .int me, .ref ys, .ref yp, .ref ym, .int md_25, .ref yo, .ref yk, .ref yt, .int mz, .ref yi, .ref yz, .ref yx, .ref yu, .int km, .int kr])), (yr, .inl (cI, 7, .inl G)), (yw, .inl (cI, 20, .inl v)), (yp, .inl (cI, 200, .inl P_25)), (ym, .inl (cI, 200, .inl M_25))] := hD.sub [1, 0, 2, 3, 4] (by decide) rfl
    have hMl := h2_25.2.1
    have hgl : (gaps mq (mk (plK mq v w) n.toNatClampNeg)).length ≤ (mk (plK mq v w) n.toNatClampNeg).length := mk_len _ _
    have hp9 : ∀ i, i < (mk (plK mq v w) n.toNatClampNeg).length → 0 < gpL mq (mk (plK mq v w) n.toNatClampNeg) i := fun i hi => gap_pos hq hi
    refine lv_iload_n hx hb dX6_many_28 rfl (lv_at hl 4 rfl) ?_
    refine lv_aload_n hx hb dX6_many_29 rfl (lv_at hl 1 rfl) ?_
    refine va_get (D := D) (ci := 6) (v := .int md_25) (C := RX6) (T := TX6) (N := 22) hx hb hts (in_X6_many_X6) hown hK hP 0 rfl rfl 11 (by decide) (hts (.fieldLink RX6 146 "StepsRoundCircleModel" "marked" "I") (by decide +kernel)) (fun _ h9 => h9) rfl dX6_many_30 ?_
    refine lv_topi (fun z_33 hz_33 => ?_)
    have hz_33 : z_33 = nI (mk (plK mq v w) n.toNatClampNeg).length := hz_33.trans h2_25.1
    subst hz_33
    refine lv_icmp_lt (tgt := 41) hx hb dX6_many_33 (by decide) (fun c_33 => ?_) (fun c_33 => ?_)
    · skip
      have hj0 := hok.2.2
      have hjN := jN hj0
      have hj9 : j.toNatClampNeg < 1000 := by have h9 := c_33; rw [hjN.1] at h9; have := (nI_ltI (by omega) (by omega)).mp h9; omega
      refine lv_aload_n hx hb dX6_many_41 rfl (lv_at hl 1 rfl) ?_
      refine lv_iload_n hx hb dX6_many_42 rfl (lv_at hl 4 rfl) ?_
      refine lv_topi (fun z_43 hz_43 => ?_)
      have hz_43 : z_43 = nI j.toNatClampNeg := hz_43.trans hjN.1
      subst hz_43
      refine rdV (As := [.int (nI j.toNatClampNeg)]) (rest := []) ⟨hx, hb, hml, hown, hts⟩ (c_X6_lengthOf l D cI cZ cR y yr yw yc yl ys yp ym yo yk yt yi yz yx yu mq mn mc me md_25 mz km kr M_25 (mk (plK mq v w) n.toNatClampNeg) j.toNatClampNeg h2_25 hp9 hj9) (cwV 1 hts gX6_many_X6_lengthOf rfl rfl rfl (by decide +kernel) ⟨Nat.le_of_ble_eq_true rfl, Nat.le_of_ble_eq_true rfl⟩) hK hN hP 0 6 rfl rfl rfl [0, 4] rfl rfl hl.1 rfl (Nat.le_of_ble_eq_true rfl) dX6_many_43 ⟨Nat.zero_le _, Nat.zero_le _⟩ ?_
      refine lv_istore (lv' := [(5, .int (if j.toNatClampNeg < (gaps mq (mk (plK mq v w) n.toNatClampNeg)).length then (gaps mq (mk (plK mq v w) n.toNatClampNeg)).getD j.toNatClampNeg 0 else -9)), (4, .int (rf_nth mn w n j 0)), (0, .ref y), (1, .int w), (2, .int n), (3, .int j)]) hx hb dX6_many_46 hl (by decide) rfl (fun ls hl => ?_)
      refine lv_iload hx hb dX6_many_48 (lv_at hl 0 rfl) ?_
      refine lv_bipush (v := (-9)) hx hb dX6_many_50 (by decide) ?_
      refine lv_icmp_ne (tgt := 58) hx hb dX6_many_52 (by decide) (fun c_52 => ?_) (fun c_52 => ?_)
      · skip
        have hjl : j.toNatClampNeg < (gaps mq (mk (plK mq v w) n.toNatClampNeg)).length := by by_cases q9 : j.toNatClampNeg < (gaps mq (mk (plK mq v w) n.toNatClampNeg)).length; exact q9; exact absurd (if_neg q9) c_52
        refine lv_iconst (v := 0) hx hb dX6_many_58 (by decide) ?_
        refine lv_istore (lv' := [(6, .int 0), (5, .int (if j.toNatClampNeg < (gaps mq (mk (plK mq v w) n.toNatClampNeg)).length then (gaps mq (mk (plK mq v w) n.toNatClampNeg)).getD j.toNatClampNeg 0 else -9)), (4, .int (rf_nth mn w n j 0)), (0, .ref y), (1, .int w), (2, .int n), (3, .int j)]) hx hb dX6_many_59 hl (by decide) rfl (fun ls hl => ?_)
        refine lv_iconst (v := 0) hx hb dX6_many_61 (by decide) ?_
        refine lv_istore (lv' := [(7, .int 0), (6, .int 0), (5, .int (if j.toNatClampNeg < (gaps mq (mk (plK mq v w) n.toNatClampNeg)).length then (gaps mq (mk (plK mq v w) n.toNatClampNeg)).getD j.toNatClampNeg 0 else -9)), (4, .int (rf_nth mn w n j 0)), (0, .ref y), (1, .int w), (2, .int n), (3, .int j)]) hx hb dX6_many_62 hl (by decide) rfl (fun ls hl => ?_)
        have loop_64 : ∀ (fuel : Nat), ∀ (i : Nat), (i ≤ (mk (plK mq v w) n.toNatClampNeg).length) → ((mk (plK mq v w) n.toNatClampNeg).length + 1 ≤ i + fuel) → ∀ (y6 : Int32), y6 = nI (fa_cnt (fun i => decide (gpL mq (mk (plK mq v w) n.toNatClampNeg) i = ((gaps mq (mk (plK mq v w) n.toNatClampNeg)).getD j.toNatClampNeg 0))) i) → ∀ (y7 : Int32), y7 = nI i → ∀ (ls : Array Slot), lv_has ls 8 [(6, .int y6), (7, .int y7), (0, .ref y), (1, .int w), (2, .int n), (3, .int j), (4, .int (rf_nth mn w n j 0)), (5, .int (if j.toNatClampNeg < (gaps mq (mk (plK mq v w) n.toNatClampNeg)).length then (gaps mq (mk (plK mq v w) n.toNatClampNeg)).getD j.toNatClampNeg 0 else -9))] → W p l e (headSpec wsX6_many ({ frames := 4, cells := 0, slots := 0, locals := 99 })).room s m ([.ref y, .int w, .int n, .int j] : List Value).toArray below meth c H locs 0 0 (MQ below (va_Qi (fun (res : Int32) (u : (Nat → Int32) × Int32 × (Nat → Int32) × (Nat → Int32)) => res = (if rf_nth mn w n j 0 = 0 then manA mq (mk (plK mq v w) n.toNatClampNeg) j else rf_nth mn w n j 0) ∧ u.1 = (if rf_nth mn w n j 0 = 0 then G else md_bump G (rf_nth mn w n j 0))) (Bw D (fun (u : (Nat → Int32) × Int32 × (Nat → Int32) × (Nat → Int32)) => [(y, .inr (6, [.ref yr, .int mq, .int mn, .ref yw, .ref yc, .int mc, .ref yl, .int me, .ref ys, .ref yp, .ref ym, .int u.2.1, .ref yo, .ref yk, .ref yt, .int mz, .ref yi, .ref yz, .ref yx, .ref yu, .int km, .int kr])), (yr, .inl (cI, 7, .inl u.1)), (yw, .inl (cI, 20, .inl v)), (yp, .inl (cI, 200, .inl u.2.2.1)), (ym, .inl (cI, 200, .inl u.2.2.2))]) A) A) ([.ref y, .int w, .int n, .int j] : List Value).toArray s 0 0 A) (F0 m 64 ls []) := by
          intro fuel
          induction fuel with
          | zero =>
            intro i hi9 hfu
            exact False.elim (by omega)
          | succ fuel ih_64 =>
            intro i hi9 hfu y6 ey6 y7 ey7 ls hl
            subst ey6
            subst ey7
            refine lv_iload hx hb dX6_many_64 (lv_at hl 1 rfl) ?_
            refine lv_aload_n hx hb dX6_many_66 rfl (lv_at hl 2 rfl) ?_
            refine va_get (D := D) (ci := 6) (v := .int md_25) (C := RX6) (T := TX6) (N := 22) hx hb hts (in_X6_many_X6) hown hK hP 0 rfl rfl 11 (by decide) (hts (.fieldLink RX6 146 "StepsRoundCircleModel" "marked" "I") (by decide +kernel)) (fun _ h9 => h9) rfl dX6_many_67 ?_
            refine lv_topi (fun z_70 hz_70 => ?_)
            have hz_70 : z_70 = nI (mk (plK mq v w) n.toNatClampNeg).length := hz_70.trans h2_25.1
            subst hz_70
            refine lv_icmp_ge (tgt := 100) hx hb dX6_many_70 (by decide) (fun c_70 => ?_) (fun c_70 => ?_)
            · skip
              refine lv_iload hx hb dX6_many_100 (lv_at hl 0 rfl) ?_
              exact wrI (w1 := (fun (u : (Nat → Int32) × Int32 × (Nat → Int32) × (Nat → Int32)) => [(y, .inr (6, [.ref yr, .int mq, .int mn, .ref yw, .ref yc, .int mc, .ref yl, .int me, .ref ys, .ref yp, .ref ym, .int u.2.1, .ref yo, .ref yk, .ref yt, .int mz, .ref yi, .ref yz, .ref yx, .ref yu, .int km, .int kr])), (yr, .inl (cI, 7, .inl u.1)), (yw, .inl (cI, 20, .inl v)), (yp, .inl (cI, 200, .inl u.2.2.1)), (ym, .inl (cI, 200, .inl u.2.2.2))])) (G, md_25, P_25, M_25) hx hb hr hlocks dX6_many_102 hS (hP.sub [0, 1, 2, 3, 4] rfl) (hD.sub [0, 1, 2, 3, 4] (by decide) rfl) (⟨by rw [if_pos c_12]; unfold manA; rw [if_pos ((jn_lt hj0 (by omega)).mpr hjl), show i = (mk (plK mq v w) n.toNatClampNeg).length by have := (nI_leI (by omega) (by omega)).mp c_70; omega], by rw [if_pos c_12]⟩)
            · skip
              have hiN : i < (mk (plK mq v w) n.toNatClampNeg).length := by rcases Nat.lt_or_ge i (mk (plK mq v w) n.toNatClampNeg).length with q9 | q9; exact q9; exact absurd (nI_le q9 (by omega)) c_70
              refine lv_iload hx hb dX6_many_73 (lv_at hl 0 rfl) ?_
              refine lv_aload_n hx hb dX6_many_75 rfl (lv_at hl 2 rfl) ?_
              refine lv_iload hx hb dX6_many_76 (lv_at hl 1 rfl) ?_
              refine rdV (As := [.int (nI i)]) (rest := [.int (nI (fa_cnt (fun i => decide (gpL mq (mk (plK mq v w) n.toNatClampNeg) i = ((gaps mq (mk (plK mq v w) n.toNatClampNeg)).getD j.toNatClampNeg 0))) i))]) ⟨hx, hb, hml, hown, hts⟩ (c_X6_gap l D cI cZ cR y yr yw yc yl ys yp ym yo yk yt yi yz yx yu mq mn mc me md_25 mz km kr M_25 (mk (plK mq v w) n.toNatClampNeg) i h2_25 hiN) (cwV 1 hts gX6_many_X6_gap rfl rfl rfl (by decide +kernel) ⟨Nat.le_of_ble_eq_true rfl, Nat.le_of_ble_eq_true rfl⟩) hK hN hP 0 6 rfl rfl rfl [0, 4] rfl rfl hl.1 rfl (Nat.le_of_ble_eq_true rfl) dX6_many_78 ⟨Nat.zero_le _, Nat.zero_le _⟩ ?_
              refine lv_iload hx hb dX6_many_81 (lv_at hl 7 rfl) ?_
              refine lv_topi (fun z_83 hz_83 => ?_)
              have hz_83 : z_83 = ((gaps mq (mk (plK mq v w) n.toNatClampNeg)).getD j.toNatClampNeg 0) := hz_83.trans (if_pos hjl)
              subst hz_83
              refine lv_icmp_ne (tgt := 90) hx hb dX6_many_83 (by decide) (fun c_83 => ?_) (fun c_83 => ?_)
              · skip
                refine lv_iconst (v := 0) hx hb dX6_many_90 (by decide) ?_
                refine lv_iadd hx hb dX6_many_91 ?_
                refine lv_istore (lv' := [(6, .int ((nI (fa_cnt (fun i => decide (gpL mq (mk (plK mq v w) n.toNatClampNeg) i = ((gaps mq (mk (plK mq v w) n.toNatClampNeg)).getD j.toNatClampNeg 0))) i)) + 0)), (7, .int (nI i)), (0, .ref y), (1, .int w), (2, .int n), (3, .int j), (4, .int (rf_nth mn w n j 0)), (5, .int (if j.toNatClampNeg < (gaps mq (mk (plK mq v w) n.toNatClampNeg)).length then (gaps mq (mk (plK mq v w) n.toNatClampNeg)).getD j.toNatClampNeg 0 else -9))]) hx hb dX6_many_92 hl (by decide) rfl (fun ls hl => ?_)
                refine lv_iinc (v := (nI i) + 1) (lv' := [(7, .int ((nI i) + 1)), (6, .int ((nI (fa_cnt (fun i => decide (gpL mq (mk (plK mq v w) n.toNatClampNeg) i = ((gaps mq (mk (plK mq v w) n.toNatClampNeg)).getD j.toNatClampNeg 0))) i)) + 0)), (0, .ref y), (1, .int w), (2, .int n), (3, .int j), (4, .int (rf_nth mn w n j 0)), (5, .int (if j.toNatClampNeg < (gaps mq (mk (plK mq v w) n.toNatClampNeg)).length then (gaps mq (mk (plK mq v w) n.toNatClampNeg)).getD j.toNatClampNeg 0 else -9))]) hx hb dX6_many_94 hl (k := 1) rfl (by rfl) (by decide) rfl (fun ls hl => ?_)
                refine lv_goto (tgt := 64) hx hb dX6_many_97 (by decide) ?_
                exact ih_64 (i + 1) (by omega) (by omega) _ (by rw [fa_cnt_no (by simpa using c_83)]; exact Int32.add_zero _) _ (by first | rfl | exact nI_1 _ | exact nI_0.symm) ls (lv_sub hl [1, 0, 2, 3, 4, 5, 6, 7] rfl)
              · skip
                refine lv_iconst (v := 1) hx hb dX6_many_86 (by decide) ?_
                refine lv_goto (tgt := 91) hx hb dX6_many_87 (by decide) ?_
                refine lv_iadd hx hb dX6_many_91 ?_
                refine lv_istore (lv' := [(6, .int ((nI (fa_cnt (fun i => decide (gpL mq (mk (plK mq v w) n.toNatClampNeg) i = ((gaps mq (mk (plK mq v w) n.toNatClampNeg)).getD j.toNatClampNeg 0))) i)) + 1)), (7, .int (nI i)), (0, .ref y), (1, .int w), (2, .int n), (3, .int j), (4, .int (rf_nth mn w n j 0)), (5, .int (if j.toNatClampNeg < (gaps mq (mk (plK mq v w) n.toNatClampNeg)).length then (gaps mq (mk (plK mq v w) n.toNatClampNeg)).getD j.toNatClampNeg 0 else -9))]) hx hb dX6_many_92 hl (by decide) rfl (fun ls hl => ?_)
                refine lv_iinc (v := (nI i) + 1) (lv' := [(7, .int ((nI i) + 1)), (6, .int ((nI (fa_cnt (fun i => decide (gpL mq (mk (plK mq v w) n.toNatClampNeg) i = ((gaps mq (mk (plK mq v w) n.toNatClampNeg)).getD j.toNatClampNeg 0))) i)) + 1)), (0, .ref y), (1, .int w), (2, .int n), (3, .int j), (4, .int (rf_nth mn w n j 0)), (5, .int (if j.toNatClampNeg < (gaps mq (mk (plK mq v w) n.toNatClampNeg)).length then (gaps mq (mk (plK mq v w) n.toNatClampNeg)).getD j.toNatClampNeg 0 else -9))]) hx hb dX6_many_94 hl (k := 1) rfl (by rfl) (by decide) rfl (fun ls hl => ?_)
                refine lv_goto (tgt := 64) hx hb dX6_many_97 (by decide) ?_
                exact ih_64 (i + 1) (by omega) (by omega) _ (by rw [fa_cnt_yes (by simpa using c_83)]; exact nI_1 _) _ (by first | rfl | exact nI_1 _ | exact nI_0.symm) ls (lv_sub hl [1, 0, 2, 3, 4, 5, 6, 7] rfl)
        exact loop_64 ((mk (plK mq v w) n.toNatClampNeg).length + 1) 0 (by omega) (by omega) _ (by first | rfl | exact nI_1 _ | exact nI_0.symm) _ (by first | rfl | exact nI_1 _ | exact nI_0.symm) ls (lv_sub hl [1, 0, 4, 5, 6, 7, 3, 2] rfl)
      · skip
        refine lv_bipush (v := (-9)) hx hb dX6_many_55 (by decide) ?_
        exact wrI (w1 := (fun (u : (Nat → Int32) × Int32 × (Nat → Int32) × (Nat → Int32)) => [(y, .inr (6, [.ref yr, .int mq, .int mn, .ref yw, .ref yc, .int mc, .ref yl, .int me, .ref ys, .ref yp, .ref ym, .int u.2.1, .ref yo, .ref yk, .ref yt, .int mz, .ref yi, .ref yz, .ref yx, .ref yu, .int km, .int kr])), (yr, .inl (cI, 7, .inl u.1)), (yw, .inl (cI, 20, .inl v)), (yp, .inl (cI, 200, .inl u.2.2.1)), (ym, .inl (cI, 200, .inl u.2.2.2))])) (G, md_25, P_25, M_25) hx hb hr hlocks dX6_many_57 hS (hP.sub [0, 1, 2, 3, 4] rfl) (hD.sub [0, 1, 2, 3, 4] (by decide) rfl) (⟨by rw [if_pos c_12]; unfold manA; rw [if_neg (fun z9 => by have h9 := (jn_lt hj0 (by omega)).mp z9; rw [if_pos h9] at c_52; exact gaps_ne9 hp9 h9 c_52)], by rw [if_pos c_12]⟩)
    · skip
      refine lv_bipush (v := (-9)) hx hb dX6_many_36 (by decide) ?_
      refine lv_goto (tgt := 46) hx hb dX6_many_38 (by decide) ?_
      refine lv_istore (lv' := [(5, .int (-9)), (4, .int (rf_nth mn w n j 0)), (0, .ref y), (1, .int w), (2, .int n), (3, .int j)]) hx hb dX6_many_46 hl (by decide) rfl (fun ls hl => ?_)
      refine lv_iload hx hb dX6_many_48 (lv_at hl 0 rfl) ?_
      refine lv_bipush (v := (-9)) hx hb dX6_many_50 (by decide) ?_
      refine lv_icmp_ne (tgt := 58) hx hb dX6_many_52 (by decide) (fun c_52 => ?_) (fun c_52 => ?_)
      · skip
        exact False.elim (absurd rfl c_52)
      · skip
        refine lv_bipush (v := (-9)) hx hb dX6_many_55 (by decide) ?_
        exact wrI (w1 := (fun (u : (Nat → Int32) × Int32 × (Nat → Int32) × (Nat → Int32)) => [(y, .inr (6, [.ref yr, .int mq, .int mn, .ref yw, .ref yc, .int mc, .ref yl, .int me, .ref ys, .ref yp, .ref ym, .int u.2.1, .ref yo, .ref yk, .ref yt, .int mz, .ref yi, .ref yz, .ref yx, .ref yu, .int km, .int kr])), (yr, .inl (cI, 7, .inl u.1)), (yw, .inl (cI, 20, .inl v)), (yp, .inl (cI, 200, .inl u.2.2.1)), (ym, .inl (cI, 200, .inl u.2.2.2))])) (G, md_25, P_25, M_25) hx hb hr hlocks dX6_many_57 hS (hP.sub [0, 1, 2, 3, 4] rfl) (hD.sub [0, 1, 2, 3, 4] (by decide) rfl) (⟨by rw [if_pos c_12]; unfold manA; rw [if_neg (len_ge (Int32.not_lt.mp c_33) hMl)], by rw [if_pos c_12]⟩)
  · skip
    refine lv_aload_n hx hb dX6_many_15 rfl (lv_at hl 1 rfl) ?_
    refine lv_iload hx hb dX6_many_16 (lv_at hl 0 rfl) ?_
    refine wrVi (As := [.int (rf_nth mn w n j 0)]) (rest := []) (wr := [(yw, .inl (cI, 20, .inl v)), (yp, .inl (cI, 200, .inl P)), (ym, .inl (cI, 200, .inl Mf))]) (A := A) ⟨hx, hb, hml, hown, hts⟩ (c_X6_no l D cI cZ cR y yr yw yc yl ys yp ym yo yk yt yi yz yx yu mq mn mc me md mz km kr G (rf_nth mn w n j 0) (rf_nth_le _ _ _ _ _) s.heap.size) (cwV 1 hts gX6_many_X6_no rfl rfl rfl (by decide +kernel) ⟨Nat.le_of_ble_eq_true rfl, Nat.le_of_ble_eq_true rfl⟩) hK hN hP hD hS hA 0 6 rfl rfl rfl [0, 1] [2, 3, 4] rfl (by decide) rfl (by decide) (by decide) rfl hl.1 rfl (Nat.le_of_ble_eq_true rfl) dX6_many_18 ⟨Nat.zero_le _, Nat.zero_le _⟩ (fun r_18 u H locs hw hP hD hS => ?_)
    obtain ⟨G_18, rfl⟩ : ∃ z, z = u := ⟨_, rfl⟩
    try dsimp only at hw
    obtain ⟨q1_18, q2_18⟩ := hw
    have q1_18 := q1_18.symm
    subst q1_18
    have q2_18 := q2_18.symm
    subst q2_18
    have hP : va_P D vwCl [(y, .inr (6, [.ref yr, .int mq, .int mn, .ref yw, .ref yc, .int mc, .ref yl, .int me, .ref ys, .ref yp, .ref ym, .int md, .ref yo, .ref yk, .ref yt, .int mz, .ref yi, .ref yz, .ref yx, .ref yu, .int km, .int kr])), (yr, .inl (cI, 7, .inl (md_bump G (rf_nth mn w n j 0)))), (yw, .inl (cI, 20, .inl v)), (yp, .inl (cI, 200, .inl P)), (ym, .inl (cI, 200, .inl Mf))] H := hP.sub [3, 4, 0, 1, 2] rfl
    have hD : va_D A [(y, .inr (6, [.ref yr, .int mq, .int mn, .ref yw, .ref yc, .int mc, .ref yl, .int me, .ref ys, .ref yp, .ref ym, .int md, .ref yo, .ref yk, .ref yt, .int mz, .ref yi, .ref yz, .ref yx, .ref yu, .int km, .int kr])), (yr, .inl (cI, 7, .inl (md_bump G (rf_nth mn w n j 0)))), (yw, .inl (cI, 20, .inl v)), (yp, .inl (cI, 200, .inl P)), (ym, .inl (cI, 200, .inl Mf))] := hD.sub [3, 4, 0, 1, 2] (by decide) rfl
    exact wrI (w1 := (fun (u : (Nat → Int32) × Int32 × (Nat → Int32) × (Nat → Int32)) => [(y, .inr (6, [.ref yr, .int mq, .int mn, .ref yw, .ref yc, .int mc, .ref yl, .int me, .ref ys, .ref yp, .ref ym, .int u.2.1, .ref yo, .ref yk, .ref yt, .int mz, .ref yi, .ref yz, .ref yx, .ref yu, .int km, .int kr])), (yr, .inl (cI, 7, .inl u.1)), (yw, .inl (cI, 20, .inl v)), (yp, .inl (cI, 200, .inl u.2.2.1)), (ym, .inl (cI, 200, .inl u.2.2.2))])) ((md_bump G (rf_nth mn w n j 0)), md, P, Mf) hx hb hr hlocks dX6_many_21 hS (hP.sub [0, 1, 2, 3, 4] rfl) (hD.sub [0, 1, 2, 3, 4] (by decide) rfl) (by simp [c_12])

set_option maxHeartbeats 4000000 in
set_option maxRecDepth 100000 in
theorem c_X5_shared (l : Launch) (D : va_G) (cI cZ cR : ClassId) (x r t im tx ch ro rf pl ot cl : Nat) (hi : Int32) (F : Nat → Int32) (rn : Nat) (q nw : Int32) (v : Nat → Int32) (pn : Nat) (pz : Int32) (pf : Nat → Int32) (on : Nat) (oz : Int32) (og : Nat → Int32) (o oo n k : Int32) (sz : Nat) : Met l yX5_shared wsX5_shared ({ frames := 5, cells := 0, slots := 0, locals := 127 }) (PcW D cI cZ cR [.ref x, .int o, .int oo, .int n, .int k] [(x, .inr (5, [.ref r, .ref t, .ref im, .int hi, .ref tx, .ref ch, .ref ro, .ref rf, .ref pl, .ref ot, .ref cl])), (rf, .inl (cI, 6, .inl F)), (r, .inr (1, [.int q, .int nw, .ref rn])), (rn, .inl (cI, 20, .inl v)), (pl, .inr (3, [.int pz, .ref pn])), (pn, .inl (cI, 200, .inl pf)), (ot, .inr (3, [.int oz, .ref on])), (on, .inl (cI, 200, .inl og))] sz) (va_Qi (fun (res : Int32) (u : (Nat → Int32) × Int32 × (Nat → Int32) × Int32 × (Nat → Int32)) => res = (if rf_sha nw o oo n k = 0 then shaA (mk (plK q v o) n.toNatClampNeg) (mk (plK q v oo) n.toNatClampNeg) k else rf_sha nw o oo n k) ∧ u.1 = (if rf_sha nw o oo n k = 0 then F else rf_bump F (rf_sha nw o oo n k))) (Bw D (fun (u : (Nat → Int32) × Int32 × (Nat → Int32) × Int32 × (Nat → Int32)) => [(x, .inr (5, [.ref r, .ref t, .ref im, .int hi, .ref tx, .ref ch, .ref ro, .ref rf, .ref pl, .ref ot, .ref cl])), (rf, .inl (cI, 6, .inl u.1)), (r, .inr (1, [.int q, .int nw, .ref rn])), (rn, .inl (cI, 20, .inl v)), (pl, .inr (3, [.int u.2.1, .ref pn])), (pn, .inl (cI, 200, .inl u.2.2.1)), (ot, .inr (3, [.int u.2.2.2.1, .ref on])), (on, .inl (cI, 200, .inl u.2.2.2.2))]) (va_A [(x, .inr (5, [.ref r, .ref t, .ref im, .int hi, .ref tx, .ref ch, .ref ro, .ref rf, .ref pl, .ref ot, .ref cl])), (rf, .inl (cI, 6, .inl F)), (r, .inr (1, [.int q, .int nw, .ref rn])), (rn, .inl (cI, 20, .inl v)), (pl, .inr (3, [.int pz, .ref pn])), (pn, .inl (cI, 200, .inl pf)), (ot, .inr (3, [.int oz, .ref on])), (on, .inl (cI, 200, .inl og))] sz)) (va_A [(x, .inr (5, [.ref r, .ref t, .ref im, .int hi, .ref tx, .ref ch, .ref ro, .ref rf, .ref pl, .ref ot, .ref cl])), (rf, .inl (cI, 6, .inl F)), (r, .inr (1, [.int q, .int nw, .ref rn])), (rn, .inl (cI, 20, .inl v)), (pl, .inr (3, [.int pz, .ref pn])), (pn, .inl (cI, 200, .inl pf)), (ot, .inr (3, [.int oz, .ref on])), (on, .inl (cI, 200, .inl og))] sz)) 0 0 (va_A [(x, .inr (5, [.ref r, .ref t, .ref im, .int hi, .ref tx, .ref ch, .ref ro, .ref rf, .ref pl, .ref ot, .ref cl])), (rf, .inl (cI, 6, .inl F)), (r, .inr (1, [.int q, .int nw, .ref rn])), (rn, .inl (cI, 20, .inl v)), (pl, .inr (3, [.int pz, .ref pn])), (pn, .inl (cI, 200, .inl pf)), (ot, .inr (3, [.int oz, .ref on])), (on, .inl (cI, 200, .inl og))] sz) := by
  refine Met.ofW (cc := cX5_shared) (maxL := 9) (ret := (some .int)) (by decide) rfl ?_
  intro p e s m args below meth c s₁ B hml hv
  obtain ⟨rfl, hsz, hP, hK, hD0, hN⟩ := hv
  have hx := B.exec
  have hb := B.bytes
  have hr := B.returns
  have hts := atoms_spec (ws := wsX5_shared) B.pre
  have hown : s.vm.findClass RX5 = some m.cls := findClass_of_methodNamed B.named
  have hlocks := B.notSynchronized
  subst hsz
  have hD := hD0.self (sz := s.heap.size)
  generalize hAe : va_A [(x, .inr (5, [.ref r, .ref t, .ref im, .int hi, .ref tx, .ref ch, .ref ro, .ref rf, .ref pl, .ref ot, .ref cl])), (rf, .inl (cI, 6, .inl F)), (r, .inr (1, [.int q, .int nw, .ref rn])), (rn, .inl (cI, 20, .inl v)), (pl, .inr (3, [.int pz, .ref pn])), (pn, .inl (cI, 200, .inl pf)), (ot, .inr (3, [.int oz, .ref on])), (on, .inl (cI, 200, .inl og))] s.heap.size = A at hD ⊢
  have hA : ∀ q : Nat, s.heap.size ≤ q → A q := fun q h => by rw [← hAe]; exact Or.inr h
  have hS : va_S A s.heap s.heap [] := va_S.rf
  have hP : va_P D vwCl [(x, .inr (5, [.ref r, .ref t, .ref im, .int hi, .ref tx, .ref ch, .ref ro, .ref rf, .ref pl, .ref ot, .ref cl])), (rf, .inl (cI, 6, .inl F)), (r, .inr (1, [.int q, .int nw, .ref rn])), (rn, .inl (cI, 20, .inl v)), (pl, .inr (3, [.int pz, .ref pn])), (pn, .inl (cI, 200, .inl pf)), (ot, .inr (3, [.int oz, .ref on])), (on, .inl (cI, 200, .inl og))] s.heap := hP
  have hl := lv_entry ([.ref x, .int o, .int oo, .int n, .int k]) (n := 9) (Nat.le_of_ble_eq_true rfl)
  rw [lg_entry_eq]
  generalize (lg_sl ([.ref x, .int o, .int oo, .int n, .int k]) ++ List.replicate (9 - (lg_sl ([.ref x, .int o, .int oo, .int n, .int k])).length) Slot.unset).toArray = ls at hl ⊢
  have hl : lv_has ls 9 [(0, .ref x), (1, .int o), (2, .int oo), (3, .int n), (4, .int k)] := hl
  refine lv_aload_n hx hb dX5_shared_0 rfl (lv_at hl 0 rfl) ?_
  refine lv_iload_n hx hb dX5_shared_1 rfl (lv_at hl 1 rfl) ?_
  refine lv_iload_n hx hb dX5_shared_2 rfl (lv_at hl 2 rfl) ?_
  refine rdV (As := [.int o, .int oo]) (rest := []) ⟨hx, hb, hml, hown, hts⟩ (c_X5_areTwo l D cI cZ cR x r t im tx ch ro rf pl ot cl hi rn q nw v o oo ) (cwV 2 hts gX5_shared_X5_areTwo rfl rfl rfl (by decide +kernel) ⟨Nat.le_of_ble_eq_true rfl, Nat.le_of_ble_eq_true rfl⟩) hK hN hP 0 5 rfl rfl rfl [0, 2, 3] rfl rfl hl.1 rfl (Nat.le_of_ble_eq_true rfl) dX5_shared_3 ⟨Nat.zero_le _, Nat.zero_le _⟩ ?_
  refine lv_if_ne (tgt := 15) hx hb dX5_shared_6 (by decide) (fun c_6 => ?_) (fun c_6 => ?_)
  · skip
    have c_6 := bi_ne0.mp c_6
    have e9 := sha_beh (n := n) (k := k) c_6
    refine lv_aload_n hx hb dX5_shared_15 rfl (lv_at hl 0 rfl) ?_
    refine lv_iload_n hx hb dX5_shared_16 rfl (lv_at hl 1 rfl) ?_
    refine lv_iload_n hx hb dX5_shared_17 rfl (lv_at hl 3 rfl) ?_
    refine lv_iload hx hb dX5_shared_18 (lv_at hl 4 rfl) ?_
    refine lv_iconst (v := 2) hx hb dX5_shared_20 (by decide) ?_
    refine rdV (As := [.int o, .int n, .int k, .int 2]) (rest := []) ⟨hx, hb, hml, hown, hts⟩ (c_X5_refusalBehind l D cI cZ cR x r t im tx ch ro rf pl ot cl hi rn q nw v o n k 2 ) (cwV 4 hts gX5_shared_X5_refusalBehind rfl rfl rfl (by decide +kernel) ⟨Nat.le_of_ble_eq_true rfl, Nat.le_of_ble_eq_true rfl⟩) hK hN hP 0 5 rfl rfl rfl [0, 2, 3] rfl rfl hl.1 rfl (Nat.le_of_ble_eq_true rfl) dX5_shared_21 ⟨Nat.zero_le _, Nat.zero_le _⟩ ?_
    refine lv_istore (lv' := [(5, .int (rf_beh nw o n k 2)), (0, .ref x), (1, .int o), (2, .int oo), (3, .int n), (4, .int k)]) hx hb dX5_shared_24 hl (by decide) rfl (fun ls hl => ?_)
    refine lv_iload hx hb dX5_shared_26 (lv_at hl 0 rfl) ?_
    refine lv_if_eq (tgt := 38) hx hb dX5_shared_28 (by decide) (fun c_28 => ?_) (fun c_28 => ?_)
    · skip
      have hok := rf_beh_ok c_28
      have hn := n200 hok.2.1
      have eR : rf_sha nw o oo n k = 0 := e9.trans c_28
      refine lv_aload_n hx hb dX5_shared_38 rfl (lv_at hl 1 rfl) ?_
      refine lv_aload_n hx hb dX5_shared_39 rfl (lv_at hl 1 rfl) ?_
      refine va_get (D := D) (ci := 5) (v := .ref pl) (C := RX5) (T := TX5) (N := 11) hx hb hts (in_X5_shared_X5) hown hK hP 0 rfl rfl 8 (by decide) (hts (.fieldLink RX5 53 "StepsRoundCircle" "places" "LStepsRoundCircle$Sorted;") (by decide +kernel)) (fun _ h9 => h9) rfl dX5_shared_40 ?_
      refine lv_iload_n hx hb dX5_shared_43 rfl (lv_at hl 2 rfl) ?_
      refine lv_iload_n hx hb dX5_shared_44 rfl (lv_at hl 4 rfl) ?_
      refine wrVv (As := [.ref pl, .int o, .int n]) (rest := []) (wr := [(rf, .inl (cI, 6, .inl F)), (ot, .inr (3, [.int oz, .ref on])), (on, .inl (cI, 200, .inl og))]) (A := A) ⟨hx, hb, hml, hown, hts⟩ (c_X5_takeMarks l D cI cZ cR x r t im tx ch ro rf pl ot cl hi rn q nw v pl pn pz pf o n hn.2.1 s.heap.size) (cwV 3 hts gX5_shared_X5_takeMarks rfl rfl rfl (by decide +kernel) ⟨Nat.le_of_ble_eq_true rfl, Nat.le_of_ble_eq_true rfl⟩) hK hN hP hD hS hA 0 5 rfl rfl rfl [0, 2, 3, 4, 5] [1, 6, 7] rfl (by decide) rfl (by decide) (by decide) rfl hl.1 rfl (Nat.le_of_ble_eq_true rfl) dX5_shared_45 ⟨Nat.zero_le _, Nat.zero_le _⟩ (fun u H locs hw hP hD hS => ?_)
      obtain ⟨z_45, f_45⟩ := u
      try dsimp only at hw
      have h1_45 := hw
      have hP : va_P D vwCl [(x, .inr (5, [.ref r, .ref t, .ref im, .int hi, .ref tx, .ref ch, .ref ro, .ref rf, .ref pl, .ref ot, .ref cl])), (rf, .inl (cI, 6, .inl F)), (r, .inr (1, [.int q, .int nw, .ref rn])), (rn, .inl (cI, 20, .inl v)), (pl, .inr (3, [.int z_45, .ref pn])), (pn, .inl (cI, 200, .inl f_45)), (ot, .inr (3, [.int oz, .ref on])), (on, .inl (cI, 200, .inl og))] H := hP.sub [3, 0, 4, 5, 6, 7, 1, 2] rfl
      have hD : va_D A [(x, .inr (5, [.ref r, .ref t, .ref im, .int hi, .ref tx, .ref ch, .ref ro, .ref rf, .ref pl, .ref ot, .ref cl])), (rf, .inl (cI, 6, .inl F)), (r, .inr (1, [.int q, .int nw, .ref rn])), (rn, .inl (cI, 20, .inl v)), (pl, .inr (3, [.int z_45, .ref pn])), (pn, .inl (cI, 200, .inl f_45)), (ot, .inr (3, [.int oz, .ref on])), (on, .inl (cI, 200, .inl og))] := hD.sub [3, 0, 4, 5, 6, 7, 1, 2] (by decide) rfl
      refine lv_aload_n hx hb dX5_shared_48 rfl (lv_at hl 1 rfl) ?_
      refine lv_aload_n hx hb dX5_shared_49 rfl (lv_at hl 1 rfl) ?_
      refine va_get (D := D) (ci := 5) (v := .ref ot) (C := RX5) (T := TX5) (N := 11) hx hb hts (in_X5_shared_X5) hown hK hP 0 rfl rfl 9 (by decide) (hts (.fieldLink RX5 57 "StepsRoundCircle" "others" "LStepsRoundCircle$Sorted;") (by decide +kernel)) (fun _ h9 => h9) rfl dX5_shared_50 ?_
      refine lv_iload_n hx hb dX5_shared_53 rfl (lv_at hl 3 rfl) ?_
      refine lv_iload_n hx hb dX5_shared_54 rfl (lv_at hl 4 rfl) ?_
      refine wrVv (As := [.ref ot, .int oo, .int n]) (rest := []) (wr := [(rf, .inl (cI, 6, .inl F)), (pl, .inr (3, [.int z_45, .ref pn])), (pn, .inl (cI, 200, .inl f_45))]) (A := A) ⟨hx, hb, hml, hown, hts⟩ (c_X5_takeMarks l D cI cZ cR x r t im tx ch ro rf pl ot cl hi rn q nw v ot on oz og oo n hn.2.1 H.size) (cwV 3 hts gX5_shared_X5_takeMarks rfl rfl rfl (by decide +kernel) ⟨Nat.le_of_ble_eq_true rfl, Nat.le_of_ble_eq_true rfl⟩) hK hN hP hD hS hA 0 5 rfl rfl rfl [0, 2, 3, 6, 7] [1, 4, 5] rfl (by decide) rfl (by decide) (by decide) rfl hl.1 rfl (Nat.le_of_ble_eq_true rfl) dX5_shared_55 ⟨Nat.zero_le _, Nat.zero_le _⟩ (fun u H locs hw hP hD hS => ?_)
      obtain ⟨z_55, f_55⟩ := u
      try dsimp only at hw
      have h1_55 := hw
      have hP : va_P D vwCl [(x, .inr (5, [.ref r, .ref t, .ref im, .int hi, .ref tx, .ref ch, .ref ro, .ref rf, .ref pl, .ref ot, .ref cl])), (rf, .inl (cI, 6, .inl F)), (r, .inr (1, [.int q, .int nw, .ref rn])), (rn, .inl (cI, 20, .inl v)), (pl, .inr (3, [.int z_45, .ref pn])), (pn, .inl (cI, 200, .inl f_45)), (ot, .inr (3, [.int z_55, .ref on])), (on, .inl (cI, 200, .inl f_55))] H := hP.sub [3, 0, 4, 5, 1, 2, 6, 7] rfl
      have hD : va_D A [(x, .inr (5, [.ref r, .ref t, .ref im, .int hi, .ref tx, .ref ch, .ref ro, .ref rf, .ref pl, .ref ot, .ref cl])), (rf, .inl (cI, 6, .inl F)), (r, .inr (1, [.int q, .int nw, .ref rn])), (rn, .inl (cI, 20, .inl v)), (pl, .inr (3, [.int z_45, .ref pn])), (pn, .inl (cI, 200, .inl f_45)), (ot, .inr (3, [.int z_55, .ref on])), (on, .inl (cI, 200, .inl f_55))] := hD.sub [3, 0, 4, 5, 1, 2, 6, 7] (by decide) rfl
      have hMl := h1_45.2.1
      refine lv_iconst (v := 0) hx hb dX5_shared_58 (by decide) ?_
      refine lv_istore (lv' := [(6, .int 0), (5, .int (rf_beh nw o n k 2)), (0, .ref x), (1, .int o), (2, .int oo), (3, .int n), (4, .int k)]) hx hb dX5_shared_59 hl (by decide) rfl (fun ls hl => ?_)
      refine lv_bipush (v := (-9)) hx hb dX5_shared_61 (by decide) ?_
      refine lv_istore (lv' := [(7, .int (-9)), (6, .int 0), (5, .int (rf_beh nw o n k 2)), (0, .ref x), (1, .int o), (2, .int oo), (3, .int n), (4, .int k)]) hx hb dX5_shared_63 hl (by decide) rfl (fun ls hl => ?_)
      refine lv_aload_n hx hb dX5_shared_65 rfl (lv_at hl 3 rfl) ?_
      refine va_get (D := D) (ci := 5) (v := .ref pl) (C := RX5) (T := TX5) (N := 11) hx hb hts (in_X5_shared_X5) hown hK hP 0 rfl rfl 8 (by decide) (hts (.fieldLink RX5 53 "StepsRoundCircle" "places" "LStepsRoundCircle$Sorted;") (by decide +kernel)) (fun _ h9 => h9) rfl dX5_shared_66 ?_
      refine va_get (D := D) (ci := 3) (v := .int z_45) (C := RX3) (T := TX3) (N := 2) hx hb hts (in_X5_shared_X3) hown hK hP 4 rfl rfl 0 (by decide) (hts (.fieldLink RX5 150 "StepsRoundCircle$Sorted" "size" "I") (by decide +kernel)) (fun _ h9 => h9) rfl dX5_shared_69 ?_
      refine lv_iconst (v := 1) hx hb dX5_shared_72 (by decide) ?_
      refine lv_isub hx hb dX5_shared_73 ?_
      refine lv_topi (fun z_74 hz_74 => ?_)
      have hz_74 : z_74 = nI (mk (plK q v o) n.toNatClampNeg).length - 1 := hz_74.trans (by rw [h1_45.1])
      subst hz_74
      refine lv_istore (lv' := [(8, .int (nI (mk (plK q v o) n.toNatClampNeg).length - 1)), (7, .int (-9)), (6, .int 0), (5, .int (rf_beh nw o n k 2)), (0, .ref x), (1, .int o), (2, .int oo), (3, .int n), (4, .int k)]) hx hb dX5_shared_74 hl (by decide) rfl (fun ls hl => ?_)
      have loop_76 : ∀ (fuel : Nat), ∀ (t9 cN : Nat), ∀ (lst : Int32), (t9 ≤ (mk (plK q v o) n.toNatClampNeg).length) → (cN + fa_cnt (fun i => decide ((mk (plK q v o) n.toNatClampNeg).getD i 0 ∈ (mk (plK q v oo) n.toNatClampNeg))) t9 = fa_cnt (fun i => decide ((mk (plK q v o) n.toNatClampNeg).getD i 0 ∈ (mk (plK q v oo) n.toNatClampNeg))) (mk (plK q v o) n.toNatClampNeg).length) → (lst = ff2 (fun i => (mk (plK q v o) n.toNatClampNeg).getD i 0 ∈ (mk (plK q v oo) n.toNatClampNeg)) (fun i => (mk (plK q v o) n.toNatClampNeg).getD i 0) t9 ((mk (plK q v o) n.toNatClampNeg).length - t9)) → (t9 + 1 ≤ fuel) → ∀ (y6 : Int32), y6 = nI cN → ∀ (y8 : Int32), y8 = nI t9 - 1 → ∀ (ls : Array Slot), lv_has ls 9 [(6, .int y6), (7, .int lst), (8, .int y8), (0, .ref x), (1, .int o), (2, .int oo), (3, .int n), (4, .int k), (5, .int (rf_beh nw o n k 2))] → W p l e (headSpec wsX5_shared ({ frames := 5, cells := 0, slots := 0, locals := 127 })).room s m ([.ref x, .int o, .int oo, .int n, .int k] : List Value).toArray below meth c H locs 0 0 (MQ below (va_Qi (fun (res : Int32) (u : (Nat → Int32) × Int32 × (Nat → Int32) × Int32 × (Nat → Int32)) => res = (if rf_sha nw o oo n k = 0 then shaA (mk (plK q v o) n.toNatClampNeg) (mk (plK q v oo) n.toNatClampNeg) k else rf_sha nw o oo n k) ∧ u.1 = (if rf_sha nw o oo n k = 0 then F else rf_bump F (rf_sha nw o oo n k))) (Bw D (fun (u : (Nat → Int32) × Int32 × (Nat → Int32) × Int32 × (Nat → Int32)) => [(x, .inr (5, [.ref r, .ref t, .ref im, .int hi, .ref tx, .ref ch, .ref ro, .ref rf, .ref pl, .ref ot, .ref cl])), (rf, .inl (cI, 6, .inl u.1)), (r, .inr (1, [.int q, .int nw, .ref rn])), (rn, .inl (cI, 20, .inl v)), (pl, .inr (3, [.int u.2.1, .ref pn])), (pn, .inl (cI, 200, .inl u.2.2.1)), (ot, .inr (3, [.int u.2.2.2.1, .ref on])), (on, .inl (cI, 200, .inl u.2.2.2.2))]) A) A) ([.ref x, .int o, .int oo, .int n, .int k] : List Value).toArray s 0 0 A) (F0 m 76 ls []) := by
        intro fuel
        induction fuel with
        | zero =>
          intro t9 cN lst ht hc hls hfu
          exact False.elim (by omega)
        | succ fuel ih_76 =>
          intro t9 cN lst ht hc hls hfu y6 ey6 y8 ey8 ls hl
          subst ey6
          subst ey8
          refine lv_iload hx hb dX5_shared_76 (lv_at hl 2 rfl) ?_
          refine lv_if_lt (tgt := 120) hx hb dX5_shared_78 (by decide) (fun c_78 => ?_) (fun c_78 => ?_)
          · skip
            have ht9 := sh_lt (by omega) c_78
            refine lv_iload hx hb dX5_shared_120 (lv_at hl 7 rfl) ?_
            refine lv_if_ne (tgt := 130) hx hb dX5_shared_122 (by decide) (fun c_122 => ?_) (fun c_122 => ?_)
            · skip
              refine lv_iload hx hb dX5_shared_130 (lv_at hl 1 rfl) ?_
              exact wrI (w1 := (fun (u : (Nat → Int32) × Int32 × (Nat → Int32) × Int32 × (Nat → Int32)) => [(x, .inr (5, [.ref r, .ref t, .ref im, .int hi, .ref tx, .ref ch, .ref ro, .ref rf, .ref pl, .ref ot, .ref cl])), (rf, .inl (cI, 6, .inl u.1)), (r, .inr (1, [.int q, .int nw, .ref rn])), (rn, .inl (cI, 20, .inl v)), (pl, .inr (3, [.int u.2.1, .ref pn])), (pn, .inl (cI, 200, .inl u.2.2.1)), (ot, .inr (3, [.int u.2.2.2.1, .ref on])), (on, .inl (cI, 200, .inl u.2.2.2.2))])) (F, z_45, f_45, z_55, f_55) hx hb hr hlocks dX5_shared_132 hS (hP.sub [0, 1, 2, 3, 4, 5, 6, 7] rfl) (hD.sub [0, 1, 2, 3, 4, 5, 6, 7] (by decide) rfl) (⟨by rw [if_pos eR]; unfold shaA; rw [if_neg c_122]; rw [hls, ht9]; rfl, by rw [if_pos eR]⟩)
            · skip
              refine lv_iload hx hb dX5_shared_125 (lv_at hl 0 rfl) ?_
              refine lv_goto (tgt := 132) hx hb dX5_shared_127 (by decide) ?_
              exact wrI (w1 := (fun (u : (Nat → Int32) × Int32 × (Nat → Int32) × Int32 × (Nat → Int32)) => [(x, .inr (5, [.ref r, .ref t, .ref im, .int hi, .ref tx, .ref ch, .ref ro, .ref rf, .ref pl, .ref ot, .ref cl])), (rf, .inl (cI, 6, .inl u.1)), (r, .inr (1, [.int q, .int nw, .ref rn])), (rn, .inl (cI, 20, .inl v)), (pl, .inr (3, [.int u.2.1, .ref pn])), (pn, .inl (cI, 200, .inl u.2.2.1)), (ot, .inr (3, [.int u.2.2.2.1, .ref on])), (on, .inl (cI, 200, .inl u.2.2.2.2))])) (F, z_45, f_45, z_55, f_55) hx hb hr hlocks dX5_shared_132 hS (hP.sub [0, 1, 2, 3, 4, 5, 6, 7] rfl) (hD.sub [0, 1, 2, 3, 4, 5, 6, 7] (by decide) rfl) (⟨by rw [if_pos eR]; unfold shaA; rw [if_pos c_122]; exact congrArg nI (by rw [ht9] at hc; exact hc), by rw [if_pos eR]⟩)
          · skip
            have ht0 := sh_ge c_78
            refine lv_aload_n hx hb dX5_shared_81 rfl (lv_at hl 3 rfl) ?_
            refine va_get (D := D) (ci := 5) (v := .ref ot) (C := RX5) (T := TX5) (N := 11) hx hb hts (in_X5_shared_X5) hown hK hP 0 rfl rfl 9 (by decide) (hts (.fieldLink RX5 57 "StepsRoundCircle" "others" "LStepsRoundCircle$Sorted;") (by decide +kernel)) (fun _ h9 => h9) rfl dX5_shared_82 ?_
            refine lv_aload_n hx hb dX5_shared_85 rfl (lv_at hl 3 rfl) ?_
            refine va_get (D := D) (ci := 5) (v := .ref pl) (C := RX5) (T := TX5) (N := 11) hx hb hts (in_X5_shared_X5) hown hK hP 0 rfl rfl 8 (by decide) (hts (.fieldLink RX5 53 "StepsRoundCircle" "places" "LStepsRoundCircle$Sorted;") (by decide +kernel)) (fun _ h9 => h9) rfl dX5_shared_86 ?_
            refine lv_iload hx hb dX5_shared_89 (lv_at hl 2 rfl) ?_
            refine lv_topi (fun z_91 hz_91 => ?_)
            have hz_91 : z_91 = nI (t9 - 1) := hz_91.trans (pk_sub (b := 1) ht0)
            subst hz_91
            refine rdV (As := [.int (nI (t9 - 1))]) (rest := [.ref ot]) ⟨hx, hb, hml, hown, hts⟩ (c_X3_get l D cI cZ cR pl pn z_45 f_45 (nI (t9 - 1)) ) (cwV 1 hts gX5_shared_X3_get rfl rfl rfl (by decide +kernel) ⟨Nat.le_of_ble_eq_true rfl, Nat.le_of_ble_eq_true rfl⟩) hK hN hP 4 3 rfl rfl rfl [4, 5] rfl rfl hl.1 rfl (Nat.le_of_ble_eq_true rfl) dX5_shared_91 ⟨Nat.zero_le _, Nat.zero_le _⟩ ?_
            refine lv_topi (fun z_94 hz_94 => ?_)
            have hz_94 : z_94 = (mk (plK q v o) n.toNatClampNeg).getD (t9 - 1) 0 := hz_94.trans (so_get_rep h1_45 (by omega))
            subst hz_94
            refine rdV (As := [.int ((mk (plK q v o) n.toNatClampNeg).getD (t9 - 1) 0)]) (rest := []) ⟨hx, hb, hml, hown, hts⟩ (c_X3_has l D cI cZ cR ot on z_55 f_55 (mk (plK q v oo) n.toNatClampNeg) ((mk (plK q v o) n.toNatClampNeg).getD (t9 - 1) 0) h1_55 (so_str_ord (mk_str _ _))) (cwV 1 hts gX5_shared_X3_has rfl rfl rfl (by decide +kernel) ⟨Nat.le_of_ble_eq_true rfl, Nat.le_of_ble_eq_true rfl⟩) hK hN hP 6 3 rfl rfl rfl [6, 7] rfl rfl hl.1 rfl (Nat.le_of_ble_eq_true rfl) dX5_shared_94 ⟨Nat.zero_le _, Nat.zero_le _⟩ ?_
            refine lv_if_eq (tgt := 114) hx hb dX5_shared_97 (by decide) (fun c_97 => ?_) (fun c_97 => ?_)
            · skip
              have c_97 := bi_eq0.mp c_97
              refine lv_iinc (v := (nI t9 - 1) + (-1)) (lv' := [(8, .int ((nI t9 - 1) + (-1))), (6, .int (nI cN)), (7, .int lst), (0, .ref x), (1, .int o), (2, .int oo), (3, .int n), (4, .int k), (5, .int (rf_beh nw o n k 2))]) hx hb dX5_shared_114 hl (k := 2) rfl (by rfl) (by decide) rfl (fun ls hl => ?_)
              refine lv_goto (tgt := 76) hx hb dX5_shared_117 (by decide) ?_
              exact ih_76 (t9 - 1) cN lst (by omega) (by have h9 := fa_cnt_no (p := (fun i => decide ((mk (plK q v o) n.toNatClampNeg).getD i 0 ∈ (mk (plK q v oo) n.toNatClampNeg)))) (n := t9 - 1) (by simpa using c_97); rw [show t9 - 1 + 1 = t9 by omega] at h9; omega) (by rw [hls, ff2_dn ht0 ht, if_neg c_97]) (by omega) _ rfl _ (dec2 ht0) ls (lv_sub hl [1, 2, 0, 3, 4, 5, 6, 7, 8] rfl)
            · skip
              have c_97 := bi_ne0.mp c_97
              refine lv_iinc (v := (nI cN) + 1) (lv' := [(6, .int ((nI cN) + 1)), (7, .int lst), (8, .int (nI t9 - 1)), (0, .ref x), (1, .int o), (2, .int oo), (3, .int n), (4, .int k), (5, .int (rf_beh nw o n k 2))]) hx hb dX5_shared_100 hl (k := 0) rfl (by rfl) (by decide) rfl (fun ls hl => ?_)
              refine lv_aload_n hx hb dX5_shared_103 rfl (lv_at hl 3 rfl) ?_
              refine va_get (D := D) (ci := 5) (v := .ref pl) (C := RX5) (T := TX5) (N := 11) hx hb hts (in_X5_shared_X5) hown hK hP 0 rfl rfl 8 (by decide) (hts (.fieldLink RX5 53 "StepsRoundCircle" "places" "LStepsRoundCircle$Sorted;") (by decide +kernel)) (fun _ h9 => h9) rfl dX5_shared_104 ?_
              refine lv_iload hx hb dX5_shared_107 (lv_at hl 2 rfl) ?_
              refine lv_topi (fun z_109 hz_109 => ?_)
              have hz_109 : z_109 = nI (t9 - 1) := hz_109.trans (pk_sub (b := 1) ht0)
              subst hz_109
              refine rdV (As := [.int (nI (t9 - 1))]) (rest := []) ⟨hx, hb, hml, hown, hts⟩ (c_X3_get l D cI cZ cR pl pn z_45 f_45 (nI (t9 - 1)) ) (cwV 1 hts gX5_shared_X3_get rfl rfl rfl (by decide +kernel) ⟨Nat.le_of_ble_eq_true rfl, Nat.le_of_ble_eq_true rfl⟩) hK hN hP 4 3 rfl rfl rfl [4, 5] rfl rfl hl.1 rfl (Nat.le_of_ble_eq_true rfl) dX5_shared_109 ⟨Nat.zero_le _, Nat.zero_le _⟩ ?_
              refine lv_topi (fun z_112 hz_112 => ?_)
              have hz_112 : z_112 = (mk (plK q v o) n.toNatClampNeg).getD (t9 - 1) 0 := hz_112.trans (so_get_rep h1_45 (by omega))
              subst hz_112
              refine lv_istore (lv' := [(7, .int ((mk (plK q v o) n.toNatClampNeg).getD (t9 - 1) 0)), (6, .int ((nI cN) + 1)), (8, .int (nI t9 - 1)), (0, .ref x), (1, .int o), (2, .int oo), (3, .int n), (4, .int k), (5, .int (rf_beh nw o n k 2))]) hx hb dX5_shared_112 hl (by decide) rfl (fun ls hl => ?_)
              refine lv_iinc (v := (nI t9 - 1) + (-1)) (lv' := [(8, .int ((nI t9 - 1) + (-1))), (7, .int ((mk (plK q v o) n.toNatClampNeg).getD (t9 - 1) 0)), (6, .int ((nI cN) + 1)), (0, .ref x), (1, .int o), (2, .int oo), (3, .int n), (4, .int k), (5, .int (rf_beh nw o n k 2))]) hx hb dX5_shared_114 hl (k := 2) rfl (by rfl) (by decide) rfl (fun ls hl => ?_)
              refine lv_goto (tgt := 76) hx hb dX5_shared_117 (by decide) ?_
              exact ih_76 (t9 - 1) (cN + 1) ((mk (plK q v o) n.toNatClampNeg).getD (t9 - 1) 0) (by omega) (by have h9 := fa_cnt_yes (p := (fun i => decide ((mk (plK q v o) n.toNatClampNeg).getD i 0 ∈ (mk (plK q v oo) n.toNatClampNeg)))) (n := t9 - 1) (by simpa using c_97); rw [show t9 - 1 + 1 = t9 by omega] at h9; omega) (by rw [ff2_dn ht0 ht, if_pos c_97]) (by omega) _ (by first | rfl | exact nI_1 _ | exact nI_0.symm) _ (dec2 ht0) ls (lv_sub hl [2, 1, 0, 3, 4, 5, 6, 7, 8] rfl)
      exact loop_76 ((mk (plK q v o) n.toNatClampNeg).length + 1) ((mk (plK q v o) n.toNatClampNeg).length) 0 (-9) (by omega) (Nat.zero_add _) (by rw [Nat.sub_self]; rfl) (by omega) _ (by first | rfl | exact nI_1 _ | exact nI_0.symm) _ (by first | rfl | exact nI_1 _ | exact nI_0.symm) ls (lv_sub hl [2, 1, 0, 4, 5, 6, 7, 8, 3] rfl)
    · skip
      refine lv_aload_n hx hb dX5_shared_31 rfl (lv_at hl 1 rfl) ?_
      refine lv_iload hx hb dX5_shared_32 (lv_at hl 0 rfl) ?_
      refine wrVi (As := [.int (rf_beh nw o n k 2)]) (rest := []) (wr := [(r, .inr (1, [.int q, .int nw, .ref rn])), (rn, .inl (cI, 20, .inl v)), (pl, .inr (3, [.int pz, .ref pn])), (pn, .inl (cI, 200, .inl pf)), (ot, .inr (3, [.int oz, .ref on])), (on, .inl (cI, 200, .inl og))]) (A := A) ⟨hx, hb, hml, hown, hts⟩ (c_X5_refuse l D cI cZ cR x r t im tx ch ro rf pl ot cl hi F (rf_beh nw o n k 2)  s.heap.size) (cwV 1 hts gX5_shared_X5_refuse rfl rfl rfl (by decide +kernel) ⟨Nat.le_of_ble_eq_true rfl, Nat.le_of_ble_eq_true rfl⟩) hK hN hP hD hS hA 0 5 rfl rfl rfl [0, 1] [2, 3, 4, 5, 6, 7] rfl (by decide) rfl (by decide) (by decide) rfl hl.1 rfl (Nat.le_of_ble_eq_true rfl) dX5_shared_34 ⟨Nat.zero_le _, Nat.zero_le _⟩ (fun r_34 u H locs hw hP hD hS => ?_)
      obtain ⟨F_34, rfl⟩ : ∃ z, z = u := ⟨_, rfl⟩
      try dsimp only at hw
      obtain ⟨q1_34, q2_34⟩ := hw
      have q1_34 := q1_34.symm
      subst q1_34
      have q2_34 := q2_34.symm
      subst q2_34
      have hP : va_P D vwCl [(x, .inr (5, [.ref r, .ref t, .ref im, .int hi, .ref tx, .ref ch, .ref ro, .ref rf, .ref pl, .ref ot, .ref cl])), (rf, .inl (cI, 6, .inl (rf_bump F (rf_beh nw o n k 2)))), (r, .inr (1, [.int q, .int nw, .ref rn])), (rn, .inl (cI, 20, .inl v)), (pl, .inr (3, [.int pz, .ref pn])), (pn, .inl (cI, 200, .inl pf)), (ot, .inr (3, [.int oz, .ref on])), (on, .inl (cI, 200, .inl og))] H := hP.sub [6, 7, 0, 1, 2, 3, 4, 5] rfl
      have hD : va_D A [(x, .inr (5, [.ref r, .ref t, .ref im, .int hi, .ref tx, .ref ch, .ref ro, .ref rf, .ref pl, .ref ot, .ref cl])), (rf, .inl (cI, 6, .inl (rf_bump F (rf_beh nw o n k 2)))), (r, .inr (1, [.int q, .int nw, .ref rn])), (rn, .inl (cI, 20, .inl v)), (pl, .inr (3, [.int pz, .ref pn])), (pn, .inl (cI, 200, .inl pf)), (ot, .inr (3, [.int oz, .ref on])), (on, .inl (cI, 200, .inl og))] := hD.sub [6, 7, 0, 1, 2, 3, 4, 5] (by decide) rfl
      exact wrI (w1 := (fun (u : (Nat → Int32) × Int32 × (Nat → Int32) × Int32 × (Nat → Int32)) => [(x, .inr (5, [.ref r, .ref t, .ref im, .int hi, .ref tx, .ref ch, .ref ro, .ref rf, .ref pl, .ref ot, .ref cl])), (rf, .inl (cI, 6, .inl u.1)), (r, .inr (1, [.int q, .int nw, .ref rn])), (rn, .inl (cI, 20, .inl v)), (pl, .inr (3, [.int u.2.1, .ref pn])), (pn, .inl (cI, 200, .inl u.2.2.1)), (ot, .inr (3, [.int u.2.2.2.1, .ref on])), (on, .inl (cI, 200, .inl u.2.2.2.2))])) ((rf_bump F (rf_beh nw o n k 2)), pz, pf, oz, og) hx hb hr hlocks dX5_shared_37 hS (hP.sub [0, 1, 2, 3, 4, 5, 6, 7] rfl) (hD.sub [0, 1, 2, 3, 4, 5, 6, 7] (by decide) rfl) (by rw [e9]; simp [c_28])
  · skip
    have c_6 := bi_eq0.mp c_6
    refine lv_aload_n hx hb dX5_shared_9 rfl (lv_at hl 0 rfl) ?_
    refine lv_iconst (v := (-1)) hx hb dX5_shared_10 (by decide) ?_
    refine wrVi (As := [.int (-1)]) (rest := []) (wr := [(r, .inr (1, [.int q, .int nw, .ref rn])), (rn, .inl (cI, 20, .inl v)), (pl, .inr (3, [.int pz, .ref pn])), (pn, .inl (cI, 200, .inl pf)), (ot, .inr (3, [.int oz, .ref on])), (on, .inl (cI, 200, .inl og))]) (A := A) ⟨hx, hb, hml, hown, hts⟩ (c_X5_refuse l D cI cZ cR x r t im tx ch ro rf pl ot cl hi F (-1)  s.heap.size) (cwV 1 hts gX5_shared_X5_refuse rfl rfl rfl (by decide +kernel) ⟨Nat.le_of_ble_eq_true rfl, Nat.le_of_ble_eq_true rfl⟩) hK hN hP hD hS hA 0 5 rfl rfl rfl [0, 1] [2, 3, 4, 5, 6, 7] rfl (by decide) rfl (by decide) (by decide) rfl hl.1 rfl (Nat.le_of_ble_eq_true rfl) dX5_shared_11 ⟨Nat.zero_le _, Nat.zero_le _⟩ (fun r_11 u H locs hw hP hD hS => ?_)
    obtain ⟨F_11, rfl⟩ : ∃ z, z = u := ⟨_, rfl⟩
    try dsimp only at hw
    obtain ⟨q1_11, q2_11⟩ := hw
    have q1_11 := q1_11.symm
    subst q1_11
    have q2_11 := q2_11.symm
    subst q2_11
    have hP : va_P D vwCl [(x, .inr (5, [.ref r, .ref t, .ref im, .int hi, .ref tx, .ref ch, .ref ro, .ref rf, .ref pl, .ref ot, .ref cl])), (rf, .inl (cI, 6, .inl (rf_bump F (-1)))), (r, .inr (1, [.int q, .int nw, .ref rn])), (rn, .inl (cI, 20, .inl v)), (pl, .inr (3, [.int pz, .ref pn])), (pn, .inl (cI, 200, .inl pf)), (ot, .inr (3, [.int oz, .ref on])), (on, .inl (cI, 200, .inl og))] H := hP.sub [6, 7, 0, 1, 2, 3, 4, 5] rfl
    have hD : va_D A [(x, .inr (5, [.ref r, .ref t, .ref im, .int hi, .ref tx, .ref ch, .ref ro, .ref rf, .ref pl, .ref ot, .ref cl])), (rf, .inl (cI, 6, .inl (rf_bump F (-1)))), (r, .inr (1, [.int q, .int nw, .ref rn])), (rn, .inl (cI, 20, .inl v)), (pl, .inr (3, [.int pz, .ref pn])), (pn, .inl (cI, 200, .inl pf)), (ot, .inr (3, [.int oz, .ref on])), (on, .inl (cI, 200, .inl og))] := hD.sub [6, 7, 0, 1, 2, 3, 4, 5] (by decide) rfl
    exact wrI (w1 := (fun (u : (Nat → Int32) × Int32 × (Nat → Int32) × Int32 × (Nat → Int32)) => [(x, .inr (5, [.ref r, .ref t, .ref im, .int hi, .ref tx, .ref ch, .ref ro, .ref rf, .ref pl, .ref ot, .ref cl])), (rf, .inl (cI, 6, .inl u.1)), (r, .inr (1, [.int q, .int nw, .ref rn])), (rn, .inl (cI, 20, .inl v)), (pl, .inr (3, [.int u.2.1, .ref pn])), (pn, .inl (cI, 200, .inl u.2.2.1)), (ot, .inr (3, [.int u.2.2.2.1, .ref on])), (on, .inl (cI, 200, .inl u.2.2.2.2))])) ((rf_bump F (-1)), pz, pf, oz, og) hx hb hr hlocks dX5_shared_14 hS (hP.sub [0, 1, 2, 3, 4, 5, 6, 7] rfl) (hD.sub [0, 1, 2, 3, 4, 5, 6, 7] (by decide) rfl) (by have e9 : rf_sha nw o oo n k = -1 := (by unfold rf_sha; rw [if_neg c_6]); simp [e9])
