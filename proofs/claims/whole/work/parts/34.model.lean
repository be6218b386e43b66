theorem in_X6_at_X6 : ∀ w ∈ wsX60, w ∈ wsX6_at := by decide +kernel
theorem in_X6_isWalker_X6 : ∀ w ∈ wsX60, w ∈ wsX6_isWalker := by decide +kernel
theorem in_X6_no_X6 : ∀ w ∈ wsX60, w ∈ wsX6_no := by decide +kernel
theorem in_X6_placeBy_X6 : ∀ w ∈ wsX60, w ∈ wsX6_placeBy := by decide +kernel
set_option maxHeartbeats 4000000 in
set_option maxRecDepth 100000 in
theorem c_X6_in (l : Launch) (D : va_G) (cI cZ cR : ClassId) (n lo up : Int64) : Met l yX6_in wsX6_in ({ frames := 0, cells := 0, slots := 0, locals := 0 }) (PcR D cI cZ cR [.long n, .long lo, .long up] []) (k2_QcV (.int (bi (lo ≤ n ∧ n ≤ up)))) 0 0 (fun _ => False) := by
  refine Met.ofW (cc := cX6_in) (maxL := 6) (ret := (some .boolean)) (by decide) rfl ?_
  intro p e s m args below meth c s₁ B hml hv
  obtain ⟨rfl, hP, hK, hN⟩ := hv
  have hx := B.exec
  have hb := B.bytes
  have hr := B.returns
  have hts := atoms_spec (ws := wsX6_in) B.pre
  have hown : s.vm.findClass RX6 = some m.cls := findClass_of_methodNamed B.named
  have hlocks := B.notSynchronized
  have hP : va_P D vwCl [] s.heap := hP
  have hl := lv_entry ([.long n, .long lo, .long up]) (n := 6) (Nat.le_of_ble_eq_true rfl)
  rw [lg_entry_eq]
  generalize (lg_sl ([.long n, .long lo, .long up]) ++ List.replicate (6 - (lg_sl ([.long n, .long lo, .long up])).length) Slot.unset).toArray = ls at hl ⊢
  have hl : lv_has ls 6 [(0, .long n), (2, .long lo), (4, .long up)] := hl
  refine lv_lload_n hx hb dX6_in_0 rfl (lv_at hl 0 rfl) ?_
  refine lv_lload_n hx hb dX6_in_1 rfl (lv_at hl 1 rfl) ?_
  refine W.lcmp hx hb dX6_in_2 ?_
  refine lv_if_lt (tgt := 17) hx hb dX6_in_3 (by decide) (fun c_3 => ?_) (fun c_3 => ?_)
  · skip
    have c_3 := (lg_cmp_lt _ _).mp c_3
    refine lv_iconst (v := 0) hx hb dX6_in_17 (by decide) ?_
    exact rdZ hx hb hr hlocks dX6_in_18 (by first | rfl | (simp [bi, c_3, Int64.not_le.mpr c_3]; done))
  · skip
    have c_3 := mt (lg_cmp_lt _ _).mpr c_3
    refine lv_lload_n hx hb dX6_in_6 rfl (lv_at hl 0 rfl) ?_
    refine lv_lload hx hb dX6_in_7 (lv_at hl 2 rfl) ?_
    refine W.lcmp hx hb dX6_in_9 ?_
    refine lv_if_gt (tgt := 17) hx hb dX6_in_10 (by decide) (fun c_10 => ?_) (fun c_10 => ?_)
    · skip
      have c_10 := (lg_cmp_gt _ _).mp c_10
      refine lv_iconst (v := 0) hx hb dX6_in_17 (by decide) ?_
      exact rdZ hx hb hr hlocks dX6_in_18 (by first | rfl | (simp [bi, c_3, Int64.not_lt.mp c_3, c_10, Int64.not_le.mpr c_10]; done))
    · skip
      have c_10 := mt (lg_cmp_gt _ _).mpr c_10
      refine lv_iconst (v := 1) hx hb dX6_in_13 (by decide) ?_
      refine lv_goto (tgt := 18) hx hb dX6_in_14 (by decide) ?_
      exact rdZ hx hb hr hlocks dX6_in_18 (by first | rfl | (simp [bi, c_3, Int64.not_lt.mp c_3, c_10, Int64.not_lt.mp c_10]; done))

set_option maxHeartbeats 4000000 in
set_option maxRecDepth 100000 in
theorem c_X6_range (l : Launch) (D : va_G) (cI cZ cR : ClassId) (n lo up : Int32) : Met l yX6_range wsX6_range ({ frames := 0, cells := 0, slots := 0, locals := 0 }) (PcR D cI cZ cR [.int n, .int lo, .int up] []) (k2_QcV (.int (rng n lo up))) 0 0 (fun _ => False) := by
  refine Met.ofW (cc := cX6_range) (maxL := 3) (ret := (some .int)) (by decide) rfl ?_
  intro p e s m args below meth c s₁ B hml hv
  obtain ⟨rfl, hP, hK, hN⟩ := hv
  have hx := B.exec
  have hb := B.bytes
  have hr := B.returns
  have hts := atoms_spec (ws := wsX6_range) B.pre
  have hown : s.vm.findClass RX6 = some m.cls := findClass_of_methodNamed B.named
  have hlocks := B.notSynchronized
  have hP : va_P D vwCl [] s.heap := hP
  have hl := lv_entry ([.int n, .int lo, .int up]) (n := 3) (Nat.le_of_ble_eq_true rfl)
  rw [lg_entry_eq]
  generalize (lg_sl ([.int n, .int lo, .int up]) ++ List.replicate (3 - (lg_sl ([.int n, .int lo, .int up])).length) Slot.unset).toArray = ls at hl ⊢
  have hl : lv_has ls 3 [(0, .int n), (1, .int lo), (2, .int up)] := hl
  refine lv_iload_n hx hb dX6_range_0 rfl (lv_at hl 0 rfl) ?_
  refine lv_iload_n hx hb dX6_range_1 rfl (lv_at hl 1 rfl) ?_
  refine lv_icmp_ge (tgt := 10) hx hb dX6_range_2 (by decide) (fun c_2 => ?_) (fun c_2 => ?_)
  · skip
    refine lv_iload_n hx hb dX6_range_10 rfl (lv_at hl 0 rfl) ?_
    refine lv_iload_n hx hb dX6_range_11 rfl (lv_at hl 2 rfl) ?_
    refine lv_icmp_le (tgt := 20) hx hb dX6_range_12 (by decide) (fun c_12 => ?_) (fun c_12 => ?_)
    · skip
      refine lv_iconst (v := 0) hx hb dX6_range_20 (by decide) ?_
      exact rdI hx hb hr hlocks dX6_range_21 (by first | rfl | (simp [bi, rng, c_2, Int32.not_lt.mpr c_2, c_12, Int32.not_lt.mpr c_12]; done))
    · skip
      refine lv_bipush (v := (-6)) hx hb dX6_range_15 (by decide) ?_
      refine lv_goto (tgt := 21) hx hb dX6_range_17 (by decide) ?_
      exact rdI hx hb hr hlocks dX6_range_21 (by first | rfl | (simp [bi, rng, c_2, Int32.not_lt.mpr c_2, c_12, Int32.not_le.mp c_12]; done))
  · skip
    refine lv_bipush (v := (-4)) hx hb dX6_range_5 (by decide) ?_
    refine lv_goto (tgt := 21) hx hb dX6_range_7 (by decide) ?_
    exact rdI hx hb hr hlocks dX6_range_21 (by first | rfl | (simp [bi, rng, c_2, Int32.not_le.mp c_2]; done))

set_option maxHeartbeats 4000000 in
set_option maxRecDepth 100000 in
theorem c_X6_no (l : Launch) (D : va_G) (cI cZ cR : ClassId) (y yr yw yc yl ys yp ym yo yk yt yi yz yx yu : Nat) (mq mn mc me md mz km kr : Int32) (G : Nat → Int32) (n : Int32) (hn : n ≤ 0) (sz : Nat) : Met l yX6_no wsX6_no ({ frames := 0, cells := 0, slots := 0, locals := 0 }) (PcW D cI cZ cR [.ref y, .int n] [(y, .inr (6, [.ref yr, .int mq, .int mn, .ref yw, .ref yc, .int mc, .ref yl, .int me, .ref ys, .ref yp, .ref ym, .int md, .ref yo, .ref yk, .ref yt, .int mz, .ref yi, .ref yz, .ref yx, .ref yu, .int km, .int kr])), (yr, .inl (cI, 7, .inl G))] sz) (va_Qi (fun (res : Int32) (u : (Nat → Int32)) => res = n ∧ u = md_bump G n) (Bw D (fun (u : (Nat → Int32)) => [(y, .inr (6, [.ref yr, .int mq, .int mn, .ref yw, .ref yc, .int mc, .ref yl, .int me, .ref ys, .ref yp, .ref ym, .int md, .ref yo, .ref yk, .ref yt, .int mz, .ref yi, .ref yz, .ref yx, .ref yu, .int km, .int kr])), (yr, .inl (cI, 7, .inl u))]) (va_A [(y, .inr (6, [.ref yr, .int mq, .int mn, .ref yw, .ref yc, .int mc, .ref yl, .int me, .ref ys, .ref yp, .ref ym, .int md, .ref yo, .ref yk, .ref yt, .int mz, .ref yi, .ref yz, .ref yx, .ref yu, .int km, .int kr])), (yr, .inl (cI, 7, .inl G))] sz)) (va_A [(y, .inr (6, [.ref yr, .int mq, .int mn, .ref yw, .ref yc, .int mc, .ref yl, .int me, .ref ys, .ref yp, .ref ym, .int md, .ref yo, .ref yk, .ref yt, .int mz, .ref yi, .ref yz, .ref yx, .ref yu, .int km, .int kr])), (yr, .inl (cI, 7, .inl G))] sz)) 0 0 (va_A [(y, .inr (6, [.ref yr, .int mq, .int mn, .ref yw, .ref yc, .int mc, .ref yl, .int me, .ref ys, .ref yp, .ref ym, .int md, .ref yo, .ref yk, .ref yt, .int mz, .ref yi, .ref yz, .ref yx, .ref yu, .int km, .int kr])), (yr, .inl (cI, 7, .inl G))] sz) := by
  refine Met.ofW (cc := cX6_no) (maxL := 2) (ret := (some .int)) (by decide) rfl ?_
  intro p e s m args below meth c s₁ B hml hv
  obtain ⟨rfl, hsz, hP, hK, hD0, hN⟩ := hv
  have hx := B.exec
  have hb := B.bytes
  have hr := B.returns
  have hts := atoms_spec (ws := wsX6_no) B.pre
  have hown : s.vm.findClass RX6 = some m.cls := findClass_of_methodNamed B.named
  have hlocks := B.notSynchronized
  subst hsz
  have hD := hD0.self (sz := s.heap.size)
  generalize hAe : va_A [(y, .inr (6, [.ref yr, .int mq, .int mn, .ref yw, .ref yc, .int mc, .ref yl, .int me, .ref ys, .ref yp, .ref ym, .int md, .ref yo, .ref yk, .ref yt, .int mz, .ref yi, .ref yz, .ref yx, .ref yu, .int km, .int kr])), (yr, .inl (cI, 7, .inl G))] s.heap.size = A at hD ⊢
  have hA : ∀ q : Nat, s.heap.size ≤ q → A q := fun q h => by rw [← hAe]; exact Or.inr h
  have hS : va_S A s.heap s.heap [] := va_S.rf
  have hP : va_P D vwCl [(y, .inr (6, [.ref yr, .int mq, .int mn, .ref yw, .ref yc, .int mc, .ref yl, .int me, .ref ys, .ref yp, .ref ym, .int md, .ref yo, .ref yk, .ref yt, .int mz, .ref yi, .ref yz, .ref yx, .ref yu, .int km, .int kr])), (yr, .inl (cI, 7, .inl G))] s.heap := hP
  have hl := lv_entry ([.ref y, .int n]) (n := 2) (Nat.le_of_ble_eq_true rfl)
  rw [lg_entry_eq]
  generalize (lg_sl ([.ref y, .int n]) ++ List.replicate (2 - (lg_sl ([.ref y, .int n])).length) Slot.unset).toArray = ls at hl ⊢
  have hl : lv_has ls 2 [(0, .ref y), (1, .int n)] := hl
  refine lv_iload_n hx hb dX6_no_0 rfl (lv_at hl 1 rfl) ?_
  refine lv_bipush (v := (-6)) hx hb dX6_no_1 (by decide) ?_
  refine lv_icmp_lt (tgt := 17) hx hb dX6_no_3 (by decide) (fun c_3 => ?_) (fun c_3 => ?_)
  · skip
    refine lv_iload_n hx hb dX6_no_17 rfl (lv_at hl 1 rfl) ?_
    exact wrI (w1 := (fun (u : (Nat → Int32)) => [(y, .inr (6, [.ref yr, .int mq, .int mn, .ref yw, .ref yc, .int mc, .ref yl, .int me, .ref ys, .ref yp, .ref ym, .int md, .ref yo, .ref yk, .ref yt, .int mz, .ref yi, .ref yz, .ref yx, .ref yu, .int km, .int kr])), (yr, .inl (cI, 7, .inl u))])) G hx hb hr hlocks dX6_no_18 hS (hP.sub [0, 1] rfl) (hD.sub [0, 1] (by decide) rfl) (by first | exact ⟨rfl, rfl⟩ | rfl | (simp [bi, md_bump, c_3, Int32.not_le.mpr c_3]; done))
  · skip
    refine lv_aload_n hx hb dX6_no_6 rfl (lv_at hl 0 rfl) ?_
    refine va_get (D := D) (ci := 6) (v := .ref yr) (C := RX6) (T := TX6) (N := 22) hx hb hts (in_X6_no_X6) hown hK hP 0 rfl rfl 0 (by decide) (hts (.fieldLink RX6 7 "StepsRoundCircleModel" "refusals" "[I") (by decide +kernel)) (fun _ h9 => h9) rfl dX6_no_7 ?_
    refine lv_iload_n hx hb dX6_no_10 rfl (lv_at hl 1 rfl) ?_
    refine lv_ineg hx hb dX6_no_11 ?_
    refine lv_dup2_11 hx hb dX6_no_12 rfl rfl ?_
    refine va_iald hx hb hK hP 1 0 rfl rfl (md_no hn (Int32.not_lt.mp c_3)) dX6_no_13 ?_
    refine lv_iconst (v := 1) hx hb dX6_no_14 (by decide) ?_
    refine lv_iadd hx hb dX6_no_15 ?_
    refine va_iast hx hb hK hP hD hS 1 0 rfl rfl (md_no hn (Int32.not_lt.mp c_3)) dX6_no_16 (fun H locs hP hD hS => ?_)
    have hP : va_P D vwCl [(y, .inr (6, [.ref yr, .int mq, .int mn, .ref yw, .ref yc, .int mc, .ref yl, .int me, .ref ys, .ref yp, .ref ym, .int md, .ref yo, .ref yk, .ref yt, .int mz, .ref yi, .ref yz, .ref yx, .ref yu, .int km, .int kr])), (yr, .inl (cI, 7, .inl (upd G ((-n).toNatClampNeg) ((G ((-n).toNatClampNeg)) + 1))))] H := hP
    have hD : va_D A [(y, .inr (6, [.ref yr, .int mq, .int mn, .ref yw, .ref yc, .int mc, .ref yl, .int me, .ref ys, .ref yp, .ref ym, .int md, .ref yo, .ref yk, .ref yt, .int mz, .ref yi, .ref yz, .ref yx, .ref yu, .int km, .int kr])), (yr, .inl (cI, 7, .inl (upd G ((-n).toNatClampNeg) ((G ((-n).toNatClampNeg)) + 1))))] := hD
    refine lv_iload_n hx hb dX6_no_17 rfl (lv_at hl 1 rfl) ?_
    exact wrI (w1 := (fun (u : (Nat → Int32)) => [(y, .inr (6, [.ref yr, .int mq, .int mn, .ref yw, .ref yc, .int mc, .ref yl, .int me, .ref ys, .ref yp, .ref ym, .int md, .ref yo, .ref yk, .ref yt, .int mz, .ref yi, .ref yz, .ref yx, .ref yu, .int km, .int kr])), (yr, .inl (cI, 7, .inl u))])) (upd G ((-n).toNatClampNeg) ((G ((-n).toNatClampNeg)) + 1)) hx hb hr hlocks dX6_no_18 hS (hP.sub [0, 1] rfl) (hD.sub [0, 1] (by decide) rfl) (by first | exact ⟨rfl, rfl⟩ | rfl | (simp [bi, md_bump, c_3, Int32.not_lt.mp c_3]; done))

set_option maxHeartbeats 4000000 in
set_option maxRecDepth 100000 in
theorem c_X6_noLong (l : Launch) (D : va_G) (cI cZ cR : ClassId) (y yr yw yc yl ys yp ym yo yk yt yi yz yx yu : Nat) (mq mn mc me md mz km kr : Int32) (G : Nat → Int32) (n : Int32) (hn : n ≤ 0) (sz : Nat) : Met l yX6_noLong wsX6_noLong ({ frames := 1, cells := 0, slots := 0, locals := 21 }) (PcW D cI cZ cR [.ref y, .int n] [(y, .inr (6, [.ref yr, .int mq, .int mn, .ref yw, .ref yc, .int mc, .ref yl, .int me, .ref ys, .ref yp, .ref ym, .int md, .ref yo, .ref yk, .ref yt, .int mz, .ref yi, .ref yz, .ref yx, .ref yu, .int km, .int kr])), (yr, .inl (cI, 7, .inl G))] sz) (va_Ql (fun (res : Int64) (u : (Nat → Int32)) => res = 4000000000000000000 - n.toInt64 ∧ u = md_bump G n) (Bw D (fun (u : (Nat → Int32)) => [(y, .inr (6, [.ref yr, .int mq, .int mn, .ref yw, .ref yc, .int mc, .ref yl, .int me, .ref ys, .ref yp, .ref ym, .int md, .ref yo, .ref yk, .ref yt, .int mz, .ref yi, .ref yz, .ref yx, .ref yu, .int km, .int kr])), (yr, .inl (cI, 7, .inl u))]) (va_A [(y, .inr (6, [.ref yr, .int mq, .int mn, .ref yw, .ref yc, .int mc, .ref yl, .int me, .ref ys, .ref yp, .ref ym, .int md, .ref yo, .ref yk, .ref yt, .int mz, .ref yi, .ref yz, .ref yx, .ref yu, .int km, .int kr])), (yr, .inl (cI, 7, .inl G))] sz)) (va_A [(y, .inr (6, [.ref yr, .int mq, .int mn, .ref yw, .ref yc, .int mc, .ref yl, .int me, .ref ys, .ref yp, .ref ym, .int md, .ref yo, .ref yk, .ref yt, .int mz, .ref yi, .ref yz, .ref yx, .ref yu, .int km, .int kr])), (yr, .inl (cI, 7, .inl G))] sz)) 0 0 (va_A [(y, .inr (6, [.ref yr, .int mq, .int mn, .ref yw, .ref yc, .int mc, .ref yl, .int me, .ref ys, .ref yp, .ref ym, .int md, .ref yo, .ref yk, .ref yt, .int mz, .ref yi, .ref yz, .ref yx, .ref yu, .int km, .int kr])), (yr, .inl (cI, 7, .inl G))] sz) := by
  refine Met.ofW (cc := cX6_noLong) (maxL := 2) (ret := (some .long)) (by decide) rfl ?_
  intro p e s m args below meth c s₁ B hml hv
  obtain ⟨rfl, hsz, hP, hK, hD0, hN⟩ := hv
  have hx := B.exec
  have hb := B.bytes
  have hr := B.returns
  have hts := atoms_spec (ws := wsX6_noLong) B.pre
  have hown : s.vm.findClass RX6 = some m.cls := findClass_of_methodNamed B.named
  have hlocks := B.notSynchronized
  subst hsz
  have hD := hD0.self (sz := s.heap.size)
  generalize hAe : va_A [(y, .inr (6, [.ref yr, .int mq, .int mn, .ref yw, .ref yc, .int mc, .ref yl, .int me, .ref ys, .ref yp, .ref ym, .int md, .ref yo, .ref yk, .ref yt, .int mz, .ref yi, .ref yz, .ref yx, .ref yu, .int km, .int kr])), (yr, .inl (cI, 7, .inl G))] s.heap.size = A at hD ⊢
  have hA : ∀ q : Nat, s.heap.size ≤ q → A q := fun q h => by rw [← hAe]; exact Or.inr h
  have hS : va_S A s.heap s.heap [] := va_S.rf
  have hP : va_P D vwCl [(y, .inr (6, [.ref yr, .int mq, .int mn, .ref yw, .ref yc, .int mc, .ref yl, .int me, .ref ys, .ref yp, .ref ym, .int md, .ref yo, .ref yk, .ref yt, .int mz, .ref yi, .ref yz, .ref yx, .ref yu, .int km, .int kr])), (yr, .inl (cI, 7, .inl G))] s.heap := hP
  have hl := lv_entry ([.ref y, .int n]) (n := 2) (Nat.le_of_ble_eq_true rfl)
  rw [lg_entry_eq]
  generalize (lg_sl ([.ref y, .int n]) ++ List.replicate (2 - (lg_sl ([.ref y, .int n])).length) Slot.unset).toArray = ls at hl ⊢
  have hl : lv_has ls 2 [(0, .ref y), (1, .int n)] := hl
  refine lv_ldc2 (v := 4000000000000000000) hx hb hown (hts (.constantLong RX6 64 4000000000000000000) (by decide +kernel)) dX6_noLong_0 ?_
  refine lv_aload_n hx hb dX6_noLong_3 rfl (lv_at hl 0 rfl) ?_
  refine lv_iload_n hx hb dX6_noLong_4 rfl (lv_at hl 1 rfl) ?_
  refine wrVi (As := [.int n]) (rest := [.long 4000000000000000000]) (wr := []) (A := A) ⟨hx, hb, hml, hown, hts⟩ (c_X6_no l D cI cZ cR y yr yw yc yl ys yp ym yo yk yt yi yz yx yu mq mn mc me md mz km kr G n (by first | assumption | omega) s.heap.size) (cwV 1 hts gX6_noLong_X6_no rfl rfl rfl (by decide +kernel) ⟨Nat.le_of_ble_eq_true rfl, Nat.le_of_ble_eq_true rfl⟩) hK hN hP hD hS hA 0 6 rfl rfl rfl [0, 1] [] rfl (by decide) rfl (by decide) (by decide) rfl hl.1 rfl (Nat.le_of_ble_eq_true rfl) dX6_noLong_5 ⟨Nat.zero_le _, Nat.zero_le _⟩ (fun r_5 u H locs hw hP hD hS => ?_)
  obtain ⟨G_5, rfl⟩ : ∃ z, z = u := ⟨_, rfl⟩
  try dsimp only at hw
  obtain ⟨q1_5, q2_5⟩ := hw
  have q1_5 := q1_5.symm
  subst q1_5
  have q2_5 := q2_5.symm
  subst q2_5
  have hP : va_P D vwCl [(y, .inr (6, [.ref yr, .int mq, .int mn, .ref yw, .ref yc, .int mc, .ref yl, .int me, .ref ys, .ref yp, .ref ym, .int md, .ref yo, .ref yk, .ref yt, .int mz, .ref yi, .ref yz, .ref yx, .ref yu, .int km, .int kr])), (yr, .inl (cI, 7, .inl (md_bump G n)))] H := hP.sub [0, 1] rfl
  have hD : va_D A [(y, .inr (6, [.ref yr, .int mq, .int mn, .ref yw, .ref yc, .int mc, .ref yl, .int me, .ref ys, .ref yp, .ref ym, .int md, .ref yo, .ref yk, .ref yt, .int mz, .ref yi, .ref yz, .ref yx, .ref yu, .int km, .int kr])), (yr, .inl (cI, 7, .inl (md_bump G n)))] := hD.sub [0, 1] (by decide) rfl
  refine lv_i2l hx hb dX6_noLong_8 rfl ?_
  refine lv_lsub hx hb dX6_noLong_9 ?_
  exact wrL (w1 := (fun (u : (Nat → Int32)) => [(y, .inr (6, [.ref yr, .int mq, .int mn, .ref yw, .ref yc, .int mc, .ref yl, .int me, .ref ys, .ref yp, .ref ym, .int md, .ref yo, .ref yk, .ref yt, .int mz, .ref yi, .ref yz, .ref yx, .ref yu, .int km, .int kr])), (yr, .inl (cI, 7, .inl u))])) (md_bump G n) hx hb hr hlocks dX6_noLong_10 hS (hP.sub [0, 1] rfl) (hD.sub [0, 1] (by decide) rfl) (by first | exact ⟨rfl, rfl⟩ | rfl | (simp [bi]; done))

set_option maxHeartbeats 4000000 in
set_option maxRecDepth 100000 in
theorem c_X6_isWalker (l : Launch) (D : va_G) (cI cZ cR : ClassId) (y yr yw yc yl ys yp ym yo yk yt yi yz yx yu : Nat) (mq mn mc me md mz km kr : Int32) (w : Int32) (hmn : 0 ≤ mn) : Met l yX6_isWalker wsX6_isWalker ({ frames := 1, cells := 0, slots := 0, locals := 25 }) (PcR D cI cZ cR [.ref y, .int w] [(y, .inr (6, [.ref yr, .int mq, .int mn, .ref yw, .ref yc, .int mc, .ref yl, .int me, .ref ys, .ref yp, .ref ym, .int md, .ref yo, .ref yk, .ref yt, .int mz, .ref yi, .ref yz, .ref yx, .ref yu, .int km, .int kr]))]) (k2_QcV (.int (bi (0 ≤ w ∧ w < mn)))) 0 0 (fun _ => False) := by
  refine Met.ofW (cc := cX6_isWalker) (maxL := 2) (ret := (some .boolean)) (by decide) rfl ?_
  intro p e s m args below meth c s₁ B hml hv
  obtain ⟨rfl, hP, hK, hN⟩ := hv
  have hx := B.exec
  have hb := B.bytes
  have hr := B.returns
  have hts := atoms_spec (ws := wsX6_isWalker) B.pre
  have hown : s.vm.findClass RX6 = some m.cls := findClass_of_methodNamed B.named
  have hlocks := B.notSynchronized
  have hP : va_P D vwCl [(y, .inr (6, [.ref yr, .int mq, .int mn, .ref yw, .ref yc, .int mc, .ref yl, .int me, .ref ys, .ref yp, .ref ym, .int md, .ref yo, .ref yk, .ref yt, .int mz, .ref yi, .ref yz, .ref yx, .ref yu, .int km, .int kr]))] s.heap := hP
  have hl := lv_entry ([.ref y, .int w]) (n := 2) (Nat.le_of_ble_eq_true rfl)
  rw [lg_entry_eq]
  generalize (lg_sl ([.ref y, .int w]) ++ List.replicate (2 - (lg_sl ([.ref y, .int w])).length) Slot.unset).toArray = ls at hl ⊢
  have hl : lv_has ls 2 [(0, .ref y), (1, .int w)] := hl
  refine lv_iload_n hx hb dX6_isWalker_0 rfl (lv_at hl 1 rfl) ?_
  refine lv_i2l hx hb dX6_isWalker_1 rfl ?_
  refine lv_lconst (v := 0) hx hb dX6_isWalker_2 (by decide) ?_
  refine lv_aload_n hx hb dX6_isWalker_3 rfl (lv_at hl 0 rfl) ?_
  refine va_get (D := D) (ci := 6) (v := .int mn) (C := RX6) (T := TX6) (N := 22) hx hb hts (in_X6_isWalker_X6) hown hK hP 0 rfl rfl 2 (by decide) (hts (.fieldLink RX6 70 "StepsRoundCircleModel" "many" "I") (by decide +kernel)) (fun _ h9 => h9) rfl dX6_isWalker_4 ?_
  refine lv_iconst (v := 1) hx hb dX6_isWalker_7 (by decide) ?_
  refine lv_isub hx hb dX6_isWalker_8 ?_
  refine lv_i2l hx hb dX6_isWalker_9 rfl ?_
  refine rdS (As := [.long w.toInt64, .long 0, .long ((mn - 1).toInt64)]) (rest := []) ⟨hx, hb, hml, hown, hts⟩ (c_X6_in l D cI cZ cR w.toInt64 0 ((mn - 1).toInt64) ) (va_cwS 3 hts gX6_isWalker_X6_in rfl rfl rfl (by decide +kernel) ⟨Nat.le_of_ble_eq_true rfl, Nat.le_of_ble_eq_true rfl⟩) hK hN hP [] rfl rfl hl.1 rfl (Nat.le_of_ble_eq_true rfl) dX6_isWalker_10 ⟨Nat.zero_le _, Nat.zero_le _⟩ ?_
  exact rdZ hx hb hr hlocks dX6_isWalker_13 (bi_cg (isw hmn))

set_option maxHeartbeats 4000000 in
set_option maxRecDepth 100000 in
theorem c_X6_at (l : Launch) (D : va_G) (cI cZ cR : ClassId) (y yr yw yc yl ys yp ym yo yk yt yi yz yx yu : Nat) (mq mn mc me md mz km kr : Int32) (v : Nat → Int32) (w k : Int32) (hw : 0 ≤ w ∧ w < 5) (hk : 0 ≤ k ∧ k < 4) : Met l yX6_at wsX6_at ({ frames := 0, cells := 0, slots := 0, locals := 0 }) (PcR D cI cZ cR [.ref y, .int w, .int k] [(y, .inr (6, [.ref yr, .int mq, .int mn, .ref yw, .ref yc, .int mc, .ref yl, .int me, .ref ys, .ref yp, .ref ym, .int md, .ref yo, .ref yk, .ref yt, .int mz, .ref yi, .ref yz, .ref yx, .ref yu, .int km, .int kr])), (yw, .inl (cI, 20, .inl v))]) (k2_QcV (.int (rg_val v w k))) 0 0 (fun _ => False) := by
  refine Met.ofW (cc := cX6_at) (maxL := 3) (ret := (some .int)) (by decide) rfl ?_
  intro p e s m args below meth c s₁ B hml hv
  obtain ⟨rfl, hP, hK, hN⟩ := hv
  have hx := B.exec
  have hb := B.bytes
  have hr := B.returns
  have hts := atoms_spec (ws := wsX6_at) B.pre
  have hown : s.vm.findClass RX6 = some m.cls := findClass_of_methodNamed B.named
  have hlocks := B.notSynchronized
  have hP : va_P D vwCl [(y, .inr (6, [.ref yr, .int mq, .int mn, .ref yw, .ref yc, .int mc, .ref yl, .int me, .ref ys, .ref yp, .ref ym, .int md, .ref yo, .ref yk, .ref yt, .int mz, .ref yi, .ref yz, .ref yx, .ref yu, .int km, .int kr])), (yw, .inl (cI, 20, .inl v))] s.heap := hP
  have hl := lv_entry ([.ref y, .int w, .int k]) (n := 3) (Nat.le_of_ble_eq_true rfl)
  rw [lg_entry_eq]
  generalize (lg_sl ([.ref y, .int w, .int k]) ++ List.replicate (3 - (lg_sl ([.ref y, .int w, .int k])).length) Slot.unset).toArray = ls at hl ⊢
  have hl : lv_has ls 3 [(0, .ref y), (1, .int w), (2, .int k)] := hl
  refine lv_aload_n hx hb dX6_at_0 rfl (lv_at hl 0 rfl) ?_
  refine va_get (D := D) (ci := 6) (v := .ref yw) (C := RX6) (T := TX6) (N := 22) hx hb hts (in_X6_at_X6) hown hK hP 0 rfl rfl 3 (by decide) (hts (.fieldLink RX6 17 "StepsRoundCircleModel" "walkers" "[I") (by decide +kernel)) (fun _ h9 => h9) rfl dX6_at_1 ?_
  refine lv_iconst (v := 4) hx hb dX6_at_4 (by decide) ?_
  refine lv_iload_n hx hb dX6_at_5 rfl (lv_at hl 1 rfl) ?_
  refine lv_imul hx hb dX6_at_6 ?_
  refine lv_iload_n hx hb dX6_at_7 rfl (lv_at hl 2 rfl) ?_
  refine lv_iadd hx hb dX6_at_8 ?_
  refine va_iald hx hb hK hP 1 0 rfl rfl (at_vp hw hk) dX6_at_9 ?_
  exact rdI hx hb hr hlocks dX6_at_10 (at_val v hw hk)

set_option maxHeartbeats 4000000 in
set_option maxRecDepth 100000 in
theorem c_X6_straight (l : Launch) (D : va_G) (cI cZ cR : ClassId) (st sa k : Int64) : Met l yX6_straight wsX6_straight ({ frames := 0, cells := 0, slots := 0, locals := 0 }) (PcR D cI cZ cR [.long st, .long sa, .long k] []) (k2_QcV (.long (sa + k * st))) 0 0 (fun _ => False) := by
  refine Met.ofW (cc := cX6_straight) (maxL := 6) (ret := (some .long)) (by decide) rfl ?_
  intro p e s m args below meth c s₁ B hml hv
  obtain ⟨rfl, hP, hK, hN⟩ := hv
  have hx := B.exec
  have hb := B.bytes
  have hr := B.returns
  have hts := atoms_spec (ws := wsX6_straight) B.pre
  have hown : s.vm.findClass RX6 = some m.cls := findClass_of_methodNamed B.named
  have hlocks := B.notSynchronized
  have hP : va_P D vwCl [] s.heap := hP
  have hl := lv_entry ([.long st, .long sa, .long k]) (n := 6) (Nat.le_of_ble_eq_true rfl)
  rw [lg_entry_eq]
  generalize (lg_sl ([.long st, .long sa, .long k]) ++ List.replicate (6 - (lg_sl ([.long st, .long sa, .long k])).length) Slot.unset).toArray = ls at hl ⊢
  have hl : lv_has ls 6 [(0, .long st), (2, .long sa), (4, .long k)] := hl
  refine lv_lload_n hx hb dX6_straight_0 rfl (lv_at hl 1 rfl) ?_
  refine lv_lload hx hb dX6_straight_1 (lv_at hl 2 rfl) ?_
  refine lv_lload_n hx hb dX6_straight_3 rfl (lv_at hl 0 rfl) ?_
  refine lv_lmul hx hb dX6_straight_4 ?_
  refine lv_ladd hx hb dX6_straight_5 ?_
  exact rdL hx hb hr hlocks dX6_straight_6 (by first | rfl | (simp [bi]; done))

set_option maxHeartbeats 4000000 in
set_option maxRecDepth 100000 in
theorem c_X6_placeBy (l : Launch) (D : va_G) (cI cZ cR : ClassId) (y yr yw yc yl ys yp ym yo yk yt yi yz yx yu : Nat) (mq mn mc me md mz km kr : Int32) (kd st sa fg k : Int32) (hq : okQ mq) (hkd : 0 ≤ kd ∧ kd < 6) (hfg : 0 ≤ fg ∧ fg < 10) (hk : 0 ≤ k ∧ k ≤ 4000) : Met l yX6_placeBy wsX6_placeBy ({ frames := 1, cells := 0, slots := 0, locals := 25 }) (PcR D cI cZ cR [.ref y, .int kd, .int st, .int sa, .int fg, .int k] [(y, .inr (6, [.ref yr, .int mq, .int mn, .ref yw, .ref yc, .int mc, .ref yl, .int me, .ref ys, .ref yp, .ref ym, .int md, .ref yo, .ref yk, .ref yt, .int mz, .ref yi, .ref yz, .ref yx, .ref yu, .int km, .int kr]))]) (k2_QcV (.int (pb mq kd st sa fg k.toInt64))) 0 0 (fun _ => False) := by
  refine Met.ofW (cc := cX6_placeBy) (maxL := 8) (ret := (some .int)) (by decide) rfl ?_
  intro p e s m args below meth c s₁ B hml hv
  obtain ⟨rfl, hP, hK, hN⟩ := hv
  have hx := B.exec
  have hb := B.bytes
  have hr := B.returns
  have hts := atoms_spec (ws := wsX6_placeBy) B.pre
  have hown : s.vm.findClass RX6 = some m.cls := findClass_of_methodNamed B.named
  have hlocks := B.notSynchronized
  have hP : va_P D vwCl [(y, .inr (6, [.ref yr, .int mq, .int mn, .ref yw, .ref yc, .int mc, .ref yl, .int me, .ref ys, .ref yp, .ref ym, .int md, .ref yo, .ref yk, .ref yt, .int mz, .ref yi, .ref yz, .ref yx, .ref yu, .int km, .int kr]))] s.heap := hP
  have hl := lv_entry ([.ref y, .int kd, .int st, .int sa, .int fg, .int k]) (n := 8) (Nat.le_of_ble_eq_true rfl)
  rw [lg_entry_eq]
  generalize (lg_sl ([.ref y, .int kd, .int st, .int sa, .int fg, .int k]) ++ List.replicate (8 - (lg_sl ([.ref y, .int kd, .int st, .int sa, .int fg, .int k])).length) Slot.unset).toArray = ls at hl ⊢
  have hl : lv_has ls 8 [(0, .ref y), (1, .int kd), (2, .int st), (3, .int sa), (4, .int fg), (5, .int k)] := hl
  refine lv_iload_n hx hb dX6_placeBy_0 rfl (lv_at hl 1 rfl) ?_
  by_cases c_1_0 : kd = 0
  · skip
    refine lv_tableIn (off := 35) (tgt := 36) hx hb dX6_placeBy_1 (by rw [c_1_0]; decide) (by rw [c_1_0]; decide) (by rw [c_1_0]; rfl) (by decide) ?_
    refine lv_iload_n hx hb dX6_placeBy_36 rfl (lv_at hl 2 rfl) ?_
    refine lv_i2l hx hb dX6_placeBy_37 rfl ?_
    refine lv_iload_n hx hb dX6_placeBy_38 rfl (lv_at hl 3 rfl) ?_
    refine lv_i2l hx hb dX6_placeBy_39 rfl ?_
    refine lv_iload hx hb dX6_placeBy_40 (lv_at hl 5 rfl) ?_
    refine lv_i2l hx hb dX6_placeBy_42 rfl ?_
    refine rdS (As := [.long st.toInt64, .long sa.toInt64, .long k.toInt64]) (rest := []) ⟨hx, hb, hml, hown, hts⟩ (c_X6_straight l D cI cZ cR st.toInt64 sa.toInt64 k.toInt64 ) (va_cwS 3 hts gX6_placeBy_X6_straight rfl rfl rfl (by decide +kernel) ⟨Nat.le_of_ble_eq_true rfl, Nat.le_of_ble_eq_true rfl⟩) hK hN hP [] rfl rfl hl.1 rfl (Nat.le_of_ble_eq_true rfl) dX6_placeBy_43 ⟨Nat.zero_le _, Nat.zero_le _⟩ ?_
    refine lv_lstore (lv' := [(6, .long (sa.toInt64 + k.toInt64 * st.toInt64)), (0, .ref y), (1, .int kd), (2, .int st), (3, .int sa), (4, .int fg), (5, .int k)]) hx hb dX6_placeBy_46 hl (by decide) rfl (fun ls hl => ?_)
    refine lv_goto (tgt := 175) hx hb dX6_placeBy_48 (by decide) ?_
    refine lv_lload hx hb dX6_placeBy_175 (lv_at hl 0 rfl) ?_
    refine lv_aload_n hx hb dX6_placeBy_177 rfl (lv_at hl 1 rfl) ?_
    refine va_get (D := D) (ci := 6) (v := .int mq) (C := RX6) (T := TX6) (N := 22) hx hb hts (in_X6_placeBy_X6) hown hK hP 0 rfl rfl 1 (by decide) (hts (.fieldLink RX6 13 "StepsRoundCircleModel" "round" "I") (by decide +kernel)) (fun _ h9 => h9) rfl dX6_placeBy_178 ?_
    refine lv_i2l hx hb dX6_placeBy_181 rfl ?_
    refine lv_lrem hx hb dX6_placeBy_182 (q_ne hq) ?_
    refine lv_lstore (lv' := [(6, .long ((sa.toInt64 + k.toInt64 * st.toInt64) - (sa.toInt64 + k.toInt64 * st.toInt64) / mq.toInt64 * mq.toInt64)), (0, .ref y), (1, .int kd), (2, .int st), (3, .int sa), (4, .int fg), (5, .int k)]) hx hb dX6_placeBy_183 hl (by decide) rfl (fun ls hl => ?_)
    refine lv_lload hx hb dX6_placeBy_185 (lv_at hl 0 rfl) ?_
    refine lv_lconst (v := 0) hx hb dX6_placeBy_187 (by decide) ?_
    refine W.lcmp hx hb dX6_placeBy_188 ?_
    refine lv_if_ge (tgt := 203) hx hb dX6_placeBy_189 (by decide) (fun c_189 => ?_) (fun c_189 => ?_)
    · skip
      have c_189 := (lg_cmp_ge _ _).mp c_189
      refine lv_lload hx hb dX6_placeBy_203 (lv_at hl 0 rfl) ?_
      refine lv_l2i hx hb dX6_placeBy_205 rfl ?_
      exact rdI hx hb hr hlocks dX6_placeBy_206 ((md_fin1 hq c_189).trans (by simp [pb, c_1_0]))
    · skip
      have c_189 := mt (lg_cmp_ge _ _).mpr c_189
      refine lv_lload hx hb dX6_placeBy_192 (lv_at hl 0 rfl) ?_
      refine lv_aload_n hx hb dX6_placeBy_194 rfl (lv_at hl 1 rfl) ?_
      refine va_get (D := D) (ci := 6) (v := .int mq) (C := RX6) (T := TX6) (N := 22) hx hb hts (in_X6_placeBy_X6) hown hK hP 0 rfl rfl 1 (by decide) (hts (.fieldLink RX6 13 "StepsRoundCircleModel" "round" "I") (by decide +kernel)) (fun _ h9 => h9) rfl dX6_placeBy_195 ?_
      refine lv_i2l hx hb dX6_placeBy_198 rfl ?_
      refine lv_ladd hx hb dX6_placeBy_199 ?_
      refine lv_goto (tgt := 205) hx hb dX6_placeBy_200 (by decide) ?_
      refine lv_l2i hx hb dX6_placeBy_205 rfl ?_
      exact rdI hx hb hr hlocks dX6_placeBy_206 ((md_fin2 hq c_189).trans (by simp [pb, c_1_0]))
  by_cases c_1_1 : kd = 1
  · skip
    refine lv_tableIn (off := 50) (tgt := 51) hx hb dX6_placeBy_1 (by rw [c_1_1]; decide) (by rw [c_1_1]; decide) (by rw [c_1_1]; rfl) (by decide) ?_
    refine lv_iload_n hx hb dX6_placeBy_51 rfl (lv_at hl 2 rfl) ?_
    refine lv_i2l hx hb dX6_placeBy_52 rfl ?_
    refine lv_iload_n hx hb dX6_placeBy_53 rfl (lv_at hl 3 rfl) ?_
    refine lv_i2l hx hb dX6_placeBy_54 rfl ?_
    refine lv_iload hx hb dX6_placeBy_55 (lv_at hl 5 rfl) ?_
    refine lv_i2l hx hb dX6_placeBy_57 rfl ?_
    refine lv_iload hx hb dX6_placeBy_58 (lv_at hl 5 rfl) ?_
    refine lv_i2l hx hb dX6_placeBy_60 rfl ?_
    refine lv_lmul hx hb dX6_placeBy_61 ?_
    refine rdS (As := [.long st.toInt64, .long sa.toInt64, .long (k.toInt64 * k.toInt64)]) (rest := []) ⟨hx, hb, hml, hown, hts⟩ (c_X6_straight l D cI cZ cR st.toInt64 sa.toInt64 (k.toInt64 * k.toInt64) ) (va_cwS 3 hts gX6_placeBy_X6_straight rfl rfl rfl (by decide +kernel) ⟨Nat.le_of_ble_eq_true rfl, Nat.le_of_ble_eq_true rfl⟩) hK hN hP [] rfl rfl hl.1 rfl (Nat.le_of_ble_eq_true rfl) dX6_placeBy_62 ⟨Nat.zero_le _, Nat.zero_le _⟩ ?_
    refine lv_lstore (lv' := [(6, .long (sa.toInt64 + (k.toInt64 * k.toInt64) * st.toInt64)), (0, .ref y), (1, .int kd), (2, .int st), (3, .int sa), (4, .int fg), (5, .int k)]) hx hb dX6_placeBy_65 hl (by decide) rfl (fun ls hl => ?_)
    refine lv_goto (tgt := 175) hx hb dX6_placeBy_67 (by decide) ?_
    refine lv_lload hx hb dX6_placeBy_175 (lv_at hl 0 rfl) ?_
    refine lv_aload_n hx hb dX6_placeBy_177 rfl (lv_at hl 1 rfl) ?_
    refine va_get (D := D) (ci := 6) (v := .int mq) (C := RX6) (T := TX6) (N := 22) hx hb hts (in_X6_placeBy_X6) hown hK hP 0 rfl rfl 1 (by decide) (hts (.fieldLink RX6 13 "StepsRoundCircleModel" "round" "I") (by decide +kernel)) (fun _ h9 => h9) rfl dX6_placeBy_178 ?_
    refine lv_i2l hx hb dX6_placeBy_181 rfl ?_
    refine lv_lrem hx hb dX6_placeBy_182 (q_ne hq) ?_
    refine lv_lstore (lv' := [(6, .long ((sa.toInt64 + (k.toInt64 * k.toInt64) * st.toInt64) - (sa.toInt64 + (k.toInt64 * k.toInt64) * st.toInt64) / mq.toInt64 * mq.toInt64)), (0, .ref y), (1, .int kd), (2, .int st), (3, .int sa), (4, .int fg), (5, .int k)]) hx hb dX6_placeBy_183 hl (by decide) rfl (fun ls hl => ?_)
    refine lv_lload hx hb dX6_placeBy_185 (lv_at hl 0 rfl) ?_
    refine lv_lconst (v := 0) hx hb dX6_placeBy_187 (by decide) ?_
    refine W.lcmp hx hb dX6_placeBy_188 ?_
    refine lv_if_ge (tgt := 203) hx hb dX6_placeBy_189 (by decide) (fun c_189 => ?_) (fun c_189 => ?_)
    · skip
      have c_189 := (lg_cmp_ge _ _).mp c_189
      refine lv_lload hx hb dX6_placeBy_203 (lv_at hl 0 rfl) ?_
      refine lv_l2i hx hb dX6_placeBy_205 rfl ?_
      exact rdI hx hb hr hlocks dX6_placeBy_206 ((md_fin1 hq c_189).trans (by simp [pb, c_1_0, c_1_1]))
    · skip
      have c_189 := mt (lg_cmp_ge _ _).mpr c_189
      refine lv_lload hx hb dX6_placeBy_192 (lv_at hl 0 rfl) ?_
      refine lv_aload_n hx hb dX6_placeBy_194 rfl (lv_at hl 1 rfl) ?_
      refine va_get (D := D) (ci := 6) (v := .int mq) (C := RX6) (T := TX6) (N := 22) hx hb hts (in_X6_placeBy_X6) hown hK hP 0 rfl rfl 1 (by decide) (hts (.fieldLink RX6 13 "StepsRoundCircleModel" "round" "I") (by decide +kernel)) (fun _ h9 => h9) rfl dX6_placeBy_195 ?_
      refine lv_i2l hx hb dX6_placeBy_198 rfl ?_
      refine lv_ladd hx hb dX6_placeBy_199 ?_
      refine lv_goto (tgt := 205) hx hb dX6_placeBy_200 (by decide) ?_
      refine lv_l2i hx hb dX6_placeBy_205 rfl ?_
      exact rdI hx hb hr hlocks dX6_placeBy_206 ((md_fin2 hq c_189).trans (by simp [pb, c_1_0, c_1_1]))
  by_cases c_1_2 : kd = 2
  · skip
    refine lv_tableIn (off := 69) (tgt := 70) hx hb dX6_placeBy_1 (by rw [c_1_2]; decide) (by rw [c_1_2]; decide) (by rw [c_1_2]; rfl) (by decide) ?_
    refine lv_iload_n hx hb dX6_placeBy_70 rfl (lv_at hl 2 rfl) ?_
    refine lv_i2l hx hb dX6_placeBy_71 rfl ?_
    refine lv_iload_n hx hb dX6_placeBy_72 rfl (lv_at hl 3 rfl) ?_
    refine lv_i2l hx hb dX6_placeBy_73 rfl ?_
    refine lv_iload hx hb dX6_placeBy_74 (lv_at hl 5 rfl) ?_
    refine lv_ineg hx hb dX6_placeBy_76 ?_
    refine lv_i2l hx hb dX6_placeBy_77 rfl ?_
    refine rdS (As := [.long st.toInt64, .long sa.toInt64, .long ((-k).toInt64)]) (rest := []) ⟨hx, hb, hml, hown, hts⟩ (c_X6_straight l D cI cZ cR st.toInt64 sa.toInt64 ((-k).toInt64) ) (va_cwS 3 hts gX6_placeBy_X6_straight rfl rfl rfl (by decide +kernel) ⟨Nat.le_of_ble_eq_true rfl, Nat.le_of_ble_eq_true rfl⟩) hK hN hP [] rfl rfl hl.1 rfl (Nat.le_of_ble_eq_true rfl) dX6_placeBy_78 ⟨Nat.zero_le _, Nat.zero_le _⟩ ?_
    refine lv_topl (fun z_81 hz_81 => ?_)
    have hz_81 : z_81 = sa.toInt64 - k.toInt64 * st.toInt64 := hz_81.trans (md_e2 hk _ _)
    subst hz_81
    refine lv_lstore (lv' := [(6, .long (sa.toInt64 - k.toInt64 * st.toInt64)), (0, .ref y), (1, .int kd), (2, .int st), (3, .int sa), (4, .int fg), (5, .int k)]) hx hb dX6_placeBy_81 hl (by decide) rfl (fun ls hl => ?_)
    refine lv_goto (tgt := 175) hx hb dX6_placeBy_83 (by decide) ?_
    refine lv_lload hx hb dX6_placeBy_175 (lv_at hl 0 rfl) ?_
    refine lv_aload_n hx hb dX6_placeBy_177 rfl (lv_at hl 1 rfl) ?_
    refine va_get (D := D) (ci := 6) (v := .int mq) (C := RX6) (T := TX6) (N := 22) hx hb hts (in_X6_placeBy_X6) hown hK hP 0 rfl rfl 1 (by decide) (hts (.fieldLink RX6 13 "StepsRoundCircleModel" "round" "I") (by decide +kernel)) (fun _ h9 => h9) rfl dX6_placeBy_178 ?_
    refine lv_i2l hx hb dX6_placeBy_181 rfl ?_
    refine lv_lrem hx hb dX6_placeBy_182 (q_ne hq) ?_
    refine lv_lstore (lv' := [(6, .long ((sa.toInt64 - k.toInt64 * st.toInt64) - (sa.toInt64 - k.toInt64 * st.toInt64) / mq.toInt64 * mq.toInt64)), (0, .ref y), (1, .int kd), (2, .int st), (3, .int sa), (4, .int fg), (5, .int k)]) hx hb dX6_placeBy_183 hl (by decide) rfl (fun ls hl => ?_)
    refine lv_lload hx hb dX6_placeBy_185 (lv_at hl 0 rfl) ?_
    refine lv_lconst (v := 0) hx hb dX6_placeBy_187 (by decide) ?_
    refine W.lcmp hx hb dX6_placeBy_188 ?_
    refine lv_if_ge (tgt := 203) hx hb dX6_placeBy_189 (by decide) (fun c_189 => ?_) (fun c_189 => ?_)
    · skip
      have c_189 := (lg_cmp_ge _ _).mp c_189
      refine lv_lload hx hb dX6_placeBy_203 (lv_at hl 0 rfl) ?_
      refine lv_l2i hx hb dX6_placeBy_205 rfl ?_
      exact rdI hx hb hr hlocks dX6_placeBy_206 ((md_fin1 hq c_189).trans (by simp [pb, c_1_0, c_1_1, c_1_2]))
    · skip
      have c_189 := mt (lg_cmp_ge _ _).mpr c_189
      refine lv_lload hx hb dX6_placeBy_192 (lv_at hl 0 rfl) ?_
      refine lv_aload_n hx hb dX6_placeBy_194 rfl (lv_at hl 1 rfl) ?_
      refine va_get (D := D) (ci := 6) (v := .int mq) (C := RX6) (T := TX6) (N := 22) hx hb hts (in_X6_placeBy_X6) hown hK hP 0 rfl rfl 1 (by decide) (hts (.fieldLink RX6 13 "StepsRoundCircleModel" "round" "I") (by decide +kernel)) (fun _ h9 => h9) rfl dX6_placeBy_195 ?_
      refine lv_i2l hx hb dX6_placeBy_198 rfl ?_
      refine lv_ladd hx hb dX6_placeBy_199 ?_
      refine lv_goto (tgt := 205) hx hb dX6_placeBy_200 (by decide) ?_
      refine lv_l2i hx hb dX6_placeBy_205 rfl ?_
      exact rdI hx hb hr hlocks dX6_placeBy_206 ((md_fin2 hq c_189).trans (by simp [pb, c_1_0, c_1_1, c_1_2]))
  by_cases c_1_3 : kd = 3
  · skip
    refine lv_tableIn (off := 85) (tgt := 86) hx hb dX6_placeBy_1 (by rw [c_1_3]; decide) (by rw [c_1_3]; decide) (by rw [c_1_3]; rfl) (by decide) ?_
    refine lv_iload_n hx hb dX6_placeBy_86 rfl (lv_at hl 2 rfl) ?_
    refine lv_i2l hx hb dX6_placeBy_87 rfl ?_
    refine lv_iload_n hx hb dX6_placeBy_88 rfl (lv_at hl 3 rfl) ?_
    refine lv_i2l hx hb dX6_placeBy_89 rfl ?_
    refine lv_iload hx hb dX6_placeBy_90 (lv_at hl 5 rfl) ?_
    refine lv_iload hx hb dX6_placeBy_92 (lv_at hl 5 rfl) ?_
    refine lv_iload hx hb dX6_placeBy_94 (lv_at hl 4 rfl) ?_
    refine lv_iconst (v := 1) hx hb dX6_placeBy_96 (by decide) ?_
    refine lv_iadd hx hb dX6_placeBy_97 ?_
    refine lv_idiv hx hb dX6_placeBy_98 (md_f1 hfg) ?_
    refine lv_iadd hx hb dX6_placeBy_99 ?_
    refine lv_i2l hx hb dX6_placeBy_100 rfl ?_
    refine rdS (As := [.long st.toInt64, .long sa.toInt64, .long ((k + (k / (fg + 1))).toInt64)]) (rest := []) ⟨hx, hb, hml, hown, hts⟩ (c_X6_straight l D cI cZ cR st.toInt64 sa.toInt64 ((k + (k / (fg + 1))).toInt64) ) (va_cwS 3 hts gX6_placeBy_X6_straight rfl rfl rfl (by decide +kernel) ⟨Nat.le_of_ble_eq_true rfl, Nat.le_of_ble_eq_true rfl⟩) hK hN hP [] rfl rfl hl.1 rfl (Nat.le_of_ble_eq_true rfl) dX6_placeBy_101 ⟨Nat.zero_le _, Nat.zero_le _⟩ ?_
    refine lv_topl (fun z_104 hz_104 => ?_)
    have hz_104 : z_104 = sa.toInt64 + (k.toInt64 + lq k.toInt64 (fg.toInt64 + 1)) * st.toInt64 := hz_104.trans (by rw [md_e3 hk hfg])
    subst hz_104
    refine lv_lstore (lv' := [(6, .long (sa.toInt64 + (k.toInt64 + lq k.toInt64 (fg.toInt64 + 1)) * st.toInt64)), (0, .ref y), (1, .int kd), (2, .int st), (3, .int sa), (4, .int fg), (5, .int k)]) hx hb dX6_placeBy_104 hl (by decide) rfl (fun ls hl => ?_)
    refine lv_goto (tgt := 175) hx hb dX6_placeBy_106 (by decide) ?_
    refine lv_lload hx hb dX6_placeBy_175 (lv_at hl 0 rfl) ?_
    refine lv_aload_n hx hb dX6_placeBy_177 rfl (lv_at hl 1 rfl) ?_
    refine va_get (D := D) (ci := 6) (v := .int mq) (C := RX6) (T := TX6) (N := 22) hx hb hts (in_X6_placeBy_X6) hown hK hP 0 rfl rfl 1 (by decide) (hts (.fieldLink RX6 13 "StepsRoundCircleModel" "round" "I") (by decide +kernel)) (fun _ h9 => h9) rfl dX6_placeBy_178 ?_
    refine lv_i2l hx hb dX6_placeBy_181 rfl ?_
    refine lv_lrem hx hb dX6_placeBy_182 (q_ne hq) ?_
    refine lv_lstore (lv' := [(6, .long ((sa.toInt64 + (k.toInt64 + lq k.toInt64 (fg.toInt64 + 1)) * st.toInt64) - (sa.toInt64 + (k.toInt64 + lq k.toInt64 (fg.toInt64 + 1)) * st.toInt64) / mq.toInt64 * mq.toInt64)), (0, .ref y), (1, .int kd), (2, .int st), (3, .int sa), (4, .int fg), (5, .int k)]) hx hb dX6_placeBy_183 hl (by decide) rfl (fun ls hl => ?_)
    refine lv_lload hx hb dX6_placeBy_185 (lv_at hl 0 rfl) ?_
    refine lv_lconst (v := 0) hx hb dX6_placeBy_187 (by decide) ?_
    refine W.lcmp hx hb dX6_placeBy_188 ?_
    refine lv_if_ge (tgt := 203) hx hb dX6_placeBy_189 (by decide) (fun c_189 => ?_) (fun c_189 => ?_)
    · skip
      have c_189 := (lg_cmp_ge _ _).mp c_189
      refine lv_lload hx hb dX6_placeBy_203 (lv_at hl 0 rfl) ?_
      refine lv_l2i hx hb dX6_placeBy_205 rfl ?_
      exact rdI hx hb hr hlocks dX6_placeBy_206 ((md_fin1 hq c_189).trans (by simp [pb, c_1_0, c_1_1, c_1_2, c_1_3]))
    · skip
      have c_189 := mt (lg_cmp_ge _ _).mpr c_189
      refine lv_lload hx hb dX6_placeBy_192 (lv_at hl 0 rfl) ?_
      refine lv_aload_n hx hb dX6_placeBy_194 rfl (lv_at hl 1 rfl) ?_
      refine va_get (D := D) (ci := 6) (v := .int mq) (C := RX6) (T := TX6) (N := 22) hx hb hts (in_X6_placeBy_X6) hown hK hP 0 rfl rfl 1 (by decide) (hts (.fieldLink RX6 13 "StepsRoundCircleModel" "round" "I") (by decide +kernel)) (fun _ h9 => h9) rfl dX6_placeBy_195 ?_
      refine lv_i2l hx hb dX6_placeBy_198 rfl ?_
      refine lv_ladd hx hb dX6_placeBy_199 ?_
      refine lv_goto (tgt := 205) hx hb dX6_placeBy_200 (by decide) ?_
      refine lv_l2i hx hb dX6_placeBy_205 rfl ?_
      exact rdI hx hb hr hlocks dX6_placeBy_206 ((md_fin2 hq c_189).trans (by simp [pb, c_1_0, c_1_1, c_1_2, c_1_3]))
  by_cases c_1_4 : kd = 4
  · skip
    refine lv_tableIn (off := 108) (tgt := 109) hx hb dX6_placeBy_1 (by rw [c_1_4]; decide) (by rw [c_1_4]; decide) (by rw [c_1_4]; rfl) (by decide) ?_
    refine lv_iload hx hb dX6_placeBy_109 (lv_at hl 5 rfl) ?_
    refine lv_iconst (v := 2) hx hb dX6_placeBy_111 (by decide) ?_
    refine lv_irem hx hb dX6_placeBy_112 (by decide) ?_
    refine lv_if_ne (tgt := 132) hx hb dX6_placeBy_113 (by decide) (fun c_113 => ?_) (fun c_113 => ?_)
    · skip
      refine lv_iload_n hx hb dX6_placeBy_132 rfl (lv_at hl 2 rfl) ?_
      refine lv_i2l hx hb dX6_placeBy_133 rfl ?_
      refine lv_iload_n hx hb dX6_placeBy_134 rfl (lv_at hl 3 rfl) ?_
      refine lv_i2l hx hb dX6_placeBy_135 rfl ?_
      refine lv_iload hx hb dX6_placeBy_136 (lv_at hl 5 rfl) ?_
      refine lv_iconst (v := 1) hx hb dX6_placeBy_138 (by decide) ?_
      refine lv_iadd hx hb dX6_placeBy_139 ?_
      refine lv_iconst (v := 2) hx hb dX6_placeBy_140 (by decide) ?_
      refine lv_idiv hx hb dX6_placeBy_141 (by decide) ?_
      refine lv_i2l hx hb dX6_placeBy_142 rfl ?_
      refine rdS (As := [.long st.toInt64, .long sa.toInt64, .long (((k + 1) / 2).toInt64)]) (rest := []) ⟨hx, hb, hml, hown, hts⟩ (c_X6_straight l D cI cZ cR st.toInt64 sa.toInt64 (((k + 1) / 2).toInt64) ) (va_cwS 3 hts gX6_placeBy_X6_straight rfl rfl rfl (by decide +kernel) ⟨Nat.le_of_ble_eq_true rfl, Nat.le_of_ble_eq_true rfl⟩) hK hN hP [] rfl rfl hl.1 rfl (Nat.le_of_ble_eq_true rfl) dX6_placeBy_143 ⟨Nat.zero_le _, Nat.zero_le _⟩ ?_
      refine lv_topl (fun z_146 hz_146 => ?_)
      have hz_146 : z_146 = sa.toInt64 + (k.toInt64 + 1) / 2 * st.toInt64 := hz_146.trans (by rw [md_e4b hk])
      subst hz_146
      have hc_113 := mt (md_c4 hk).mpr c_113
      refine lv_lstore (lv' := [(6, .long (sa.toInt64 + (k.toInt64 + 1) / 2 * st.toInt64)), (0, .ref y), (1, .int kd), (2, .int st), (3, .int sa), (4, .int fg), (5, .int k)]) hx hb dX6_placeBy_146 hl (by decide) rfl (fun ls hl => ?_)
      refine lv_goto (tgt := 175) hx hb dX6_placeBy_148 (by decide) ?_
      refine lv_lload hx hb dX6_placeBy_175 (lv_at hl 0 rfl) ?_
      refine lv_aload_n hx hb dX6_placeBy_177 rfl (lv_at hl 1 rfl) ?_
      refine va_get (D := D) (ci := 6) (v := .int mq) (C := RX6) (T := TX6) (N := 22) hx hb hts (in_X6_placeBy_X6) hown hK hP 0 rfl rfl 1 (by decide) (hts (.fieldLink RX6 13 "StepsRoundCircleModel" "round" "I") (by decide +kernel)) (fun _ h9 => h9) rfl dX6_placeBy_178 ?_
      refine lv_i2l hx hb dX6_placeBy_181 rfl ?_
      refine lv_lrem hx hb dX6_placeBy_182 (q_ne hq) ?_
      refine lv_lstore (lv' := [(6, .long ((sa.toInt64 + (k.toInt64 + 1) / 2 * st.toInt64) - (sa.toInt64 + (k.toInt64 + 1) / 2 * st.toInt64) / mq.toInt64 * mq.toInt64)), (0, .ref y), (1, .int kd), (2, .int st), (3, .int sa), (4, .int fg), (5, .int k)]) hx hb dX6_placeBy_183 hl (by decide) rfl (fun ls hl => ?_)
      refine lv_lload hx hb dX6_placeBy_185 (lv_at hl 0 rfl) ?_
      refine lv_lconst (v := 0) hx hb dX6_placeBy_187 (by decide) ?_
      refine W.lcmp hx hb dX6_placeBy_188 ?_
      refine lv_if_ge (tgt := 203) hx hb dX6_placeBy_189 (by decide) (fun c_189 => ?_) (fun c_189 => ?_)
      · skip
        have c_189 := (lg_cmp_ge _ _).mp c_189
        refine lv_lload hx hb dX6_placeBy_203 (lv_at hl 0 rfl) ?_
        refine lv_l2i hx hb dX6_placeBy_205 rfl ?_
        exact rdI hx hb hr hlocks dX6_placeBy_206 ((md_fin1 hq c_189).trans (by simp [pb, c_1_0, c_1_1, c_1_2, c_1_3, c_1_4, hc_113]))
      · skip
        have c_189 := mt (lg_cmp_ge _ _).mpr c_189
        refine lv_lload hx hb dX6_placeBy_192 (lv_at hl 0 rfl) ?_
        refine lv_aload_n hx hb dX6_placeBy_194 rfl (lv_at hl 1 rfl) ?_
        refine va_get (D := D) (ci := 6) (v := .int mq) (C := RX6) (T := TX6) (N := 22) hx hb hts (in_X6_placeBy_X6) hown hK hP 0 rfl rfl 1 (by decide) (hts (.fieldLink RX6 13 "StepsRoundCircleModel" "round" "I") (by decide +kernel)) (fun _ h9 => h9) rfl dX6_placeBy_195 ?_
        refine lv_i2l hx hb dX6_placeBy_198 rfl ?_
        refine lv_ladd hx hb dX6_placeBy_199 ?_
        refine lv_goto (tgt := 205) hx hb dX6_placeBy_200 (by decide) ?_
        refine lv_l2i hx hb dX6_placeBy_205 rfl ?_
        exact rdI hx hb hr hlocks dX6_placeBy_206 ((md_fin2 hq c_189).trans (by simp [pb, c_1_0, c_1_1, c_1_2, c_1_3, c_1_4, hc_113]))
    · skip
      refine lv_iload_n hx hb dX6_placeBy_116 rfl (lv_at hl 2 rfl) ?_
      refine lv_i2l hx hb dX6_placeBy_117 rfl ?_
      refine lv_iload_n hx hb dX6_placeBy_118 rfl (lv_at hl 3 rfl) ?_
      refine lv_i2l hx hb dX6_placeBy_119 rfl ?_
      refine lv_iload hx hb dX6_placeBy_120 (lv_at hl 5 rfl) ?_
      refine lv_iconst (v := 2) hx hb dX6_placeBy_122 (by decide) ?_
      refine lv_idiv hx hb dX6_placeBy_123 (by decide) ?_
      refine lv_ineg hx hb dX6_placeBy_124 ?_
      refine lv_i2l hx hb dX6_placeBy_125 rfl ?_
      refine rdS (As := [.long st.toInt64, .long sa.toInt64, .long ((-(k / 2)).toInt64)]) (rest := []) ⟨hx, hb, hml, hown, hts⟩ (c_X6_straight l D cI cZ cR st.toInt64 sa.toInt64 ((-(k / 2)).toInt64) ) (va_cwS 3 hts gX6_placeBy_X6_straight rfl rfl rfl (by decide +kernel) ⟨Nat.le_of_ble_eq_true rfl, Nat.le_of_ble_eq_true rfl⟩) hK hN hP [] rfl rfl hl.1 rfl (Nat.le_of_ble_eq_true rfl) dX6_placeBy_126 ⟨Nat.zero_le _, Nat.zero_le _⟩ ?_
      refine lv_topl (fun z_129 hz_129 => ?_)
      have hz_129 : z_129 = sa.toInt64 - k.toInt64 / 2 * st.toInt64 := hz_129.trans (md_e4 hk _ _)
      subst hz_129
      have hc_113 := (md_c4 hk).mp c_113
      refine lv_goto (tgt := 146) hx hb dX6_placeBy_129 (by decide) ?_
      refine lv_lstore (lv' := [(6, .long (sa.toInt64 - k.toInt64 / 2 * st.toInt64)), (0, .ref y), (1, .int kd), (2, .int st), (3, .int sa), (4, .int fg), (5, .int k)]) hx hb dX6_placeBy_146 hl (by decide) rfl (fun ls hl => ?_)
      refine lv_goto (tgt := 175) hx hb dX6_placeBy_148 (by decide) ?_
      refine lv_lload hx hb dX6_placeBy_175 (lv_at hl 0 rfl) ?_
      refine lv_aload_n hx hb dX6_placeBy_177 rfl (lv_at hl 1 rfl) ?_
      refine va_get (D := D) (ci := 6) (v := .int mq) (C := RX6) (T := TX6) (N := 22) hx hb hts (in_X6_placeBy_X6) hown hK hP 0 rfl rfl 1 (by decide) (hts (.fieldLink RX6 13 "StepsRoundCircleModel" "round" "I") (by decide +kernel)) (fun _ h9 => h9) rfl dX6_placeBy_178 ?_
      refine lv_i2l hx hb dX6_placeBy_181 rfl ?_
      refine lv_lrem hx hb dX6_placeBy_182 (q_ne hq) ?_
      refine lv_lstore (lv' := [(6, .long ((sa.toInt64 - k.toInt64 / 2 * st.toInt64) - (sa.toInt64 - k.toInt64 / 2 * st.toInt64) / mq.toInt64 * mq.toInt64)), (0, .ref y), (1, .int kd), (2, .int st), (3, .int sa), (4, .int fg), (5, .int k)]) hx hb dX6_placeBy_183 hl (by decide) rfl (fun ls hl => ?_)
      refine lv_lload hx hb dX6_placeBy_185 (lv_at hl 0 rfl) ?_
      refine lv_lconst (v := 0) hx hb dX6_placeBy_187 (by decide) ?_
      refine W.lcmp hx hb dX6_placeBy_188 ?_
      refine lv_if_ge (tgt := 203) hx hb dX6_placeBy_189 (by decide) (fun c_189 => ?_) (fun c_189 => ?_)
      · skip
        have c_189 := (lg_cmp_ge _ _).mp c_189
        refine lv_lload hx hb dX6_placeBy_203 (lv_at hl 0 rfl) ?_
        refine lv_l2i hx hb dX6_placeBy_205 rfl ?_
        exact rdI hx hb hr hlocks dX6_placeBy_206 ((md_fin1 hq c_189).trans (by simp [pb, c_1_0, c_1_1, c_1_2, c_1_3, c_1_4, hc_113]))
      · skip
        have c_189 := mt (lg_cmp_ge _ _).mpr c_189
        refine lv_lload hx hb dX6_placeBy_192 (lv_at hl 0 rfl) ?_
        refine lv_aload_n hx hb dX6_placeBy_194 rfl (lv_at hl 1 rfl) ?_
        refine va_get (D := D) (ci := 6) (v := .int mq) (C := RX6) (T := TX6) (N := 22) hx hb hts (in_X6_placeBy_X6) hown hK hP 0 rfl rfl 1 (by decide) (hts (.fieldLink RX6 13 "StepsRoundCircleModel" "round" "I") (by decide +kernel)) (fun _ h9 => h9) rfl dX6_placeBy_195 ?_
        refine lv_i2l hx hb dX6_placeBy_198 rfl ?_
        refine lv_ladd hx hb dX6_placeBy_199 ?_
        refine lv_goto (tgt := 205) hx hb dX6_placeBy_200 (by decide) ?_
        refine lv_l2i hx hb dX6_placeBy_205 rfl ?_
        exact rdI hx hb hr hlocks dX6_placeBy_206 ((md_fin2 hq c_189).trans (by simp [pb, c_1_0, c_1_1, c_1_2, c_1_3, c_1_4, hc_113]))
  by_cases co_1 : kd.toInt < 0 ∨ 4 < kd.toInt
  · skip
    refine lv_tableOut (tgt := 151) hx hb dX6_placeBy_1 co_1 (by decide) ?_
    have hc_5 := kd5 hkd c_1_0 c_1_1 c_1_2 c_1_3 c_1_4
    refine lv_iload_n hx hb dX6_placeBy_151 rfl (lv_at hl 2 rfl) ?_
    refine lv_i2l hx hb dX6_placeBy_152 rfl ?_
    refine lv_iload_n hx hb dX6_placeBy_153 rfl (lv_at hl 3 rfl) ?_
    refine lv_i2l hx hb dX6_placeBy_154 rfl ?_
    refine lv_iload hx hb dX6_placeBy_155 (lv_at hl 5 rfl) ?_
    refine lv_i2l hx hb dX6_placeBy_157 rfl ?_
    refine lv_iload hx hb dX6_placeBy_158 (lv_at hl 5 rfl) ?_
    refine lv_i2l hx hb dX6_placeBy_160 rfl ?_
    refine lv_lmul hx hb dX6_placeBy_161 ?_
    refine rdS (As := [.long st.toInt64, .long sa.toInt64, .long (k.toInt64 * k.toInt64)]) (rest := []) ⟨hx, hb, hml, hown, hts⟩ (c_X6_straight l D cI cZ cR st.toInt64 sa.toInt64 (k.toInt64 * k.toInt64) ) (va_cwS 3 hts gX6_placeBy_X6_straight rfl rfl rfl (by decide +kernel) ⟨Nat.le_of_ble_eq_true rfl, Nat.le_of_ble_eq_true rfl⟩) hK hN hP [] rfl rfl hl.1 rfl (Nat.le_of_ble_eq_true rfl) dX6_placeBy_162 ⟨Nat.zero_le _, Nat.zero_le _⟩ ?_
    refine lv_iload hx hb dX6_placeBy_165 (lv_at hl 4 rfl) ?_
    refine lv_i2l hx hb dX6_placeBy_167 rfl ?_
    refine lv_iload hx hb dX6_placeBy_168 (lv_at hl 5 rfl) ?_
    refine lv_i2l hx hb dX6_placeBy_170 rfl ?_
    refine lv_lmul hx hb dX6_placeBy_171 ?_
    refine lv_ladd hx hb dX6_placeBy_172 ?_
    refine lv_lstore (lv' := [(6, .long ((sa.toInt64 + (k.toInt64 * k.toInt64) * st.toInt64) + (fg.toInt64 * k.toInt64))), (0, .ref y), (1, .int kd), (2, .int st), (3, .int sa), (4, .int fg), (5, .int k)]) hx hb dX6_placeBy_173 hl (by decide) rfl (fun ls hl => ?_)
    refine lv_lload hx hb dX6_placeBy_175 (lv_at hl 0 rfl) ?_
    refine lv_aload_n hx hb dX6_placeBy_177 rfl (lv_at hl 1 rfl) ?_
    refine va_get (D := D) (ci := 6) (v := .int mq) (C := RX6) (T := TX6) (N := 22) hx hb hts (in_X6_placeBy_X6) hown hK hP 0 rfl rfl 1 (by decide) (hts (.fieldLink RX6 13 "StepsRoundCircleModel" "round" "I") (by decide +kernel)) (fun _ h9 => h9) rfl dX6_placeBy_178 ?_
    refine lv_i2l hx hb dX6_placeBy_181 rfl ?_
    refine lv_lrem hx hb dX6_placeBy_182 (q_ne hq) ?_
    refine lv_lstore (lv' := [(6, .long (((sa.toInt64 + (k.toInt64 * k.toInt64) * st.toInt64) + (fg.toInt64 * k.toInt64)) - ((sa.toInt64 + (k.toInt64 * k.toInt64) * st.toInt64) + (fg.toInt64 * k.toInt64)) / mq.toInt64 * mq.toInt64)), (0, .ref y), (1, .int kd), (2, .int st), (3, .int sa), (4, .int fg), (5, .int k)]) hx hb dX6_placeBy_183 hl (by decide) rfl (fun ls hl => ?_)
    refine lv_lload hx hb dX6_placeBy_185 (lv_at hl 0 rfl) ?_
    refine lv_lconst (v := 0) hx hb dX6_placeBy_187 (by decide) ?_
    refine W.lcmp hx hb dX6_placeBy_188 ?_
    refine lv_if_ge (tgt := 203) hx hb dX6_placeBy_189 (by decide) (fun c_189 => ?_) (fun c_189 => ?_)
    · skip
      have c_189 := (lg_cmp_ge _ _).mp c_189
      refine lv_lload hx hb dX6_placeBy_203 (lv_at hl 0 rfl) ?_
      refine lv_l2i hx hb dX6_placeBy_205 rfl ?_
      exact rdI hx hb hr hlocks dX6_placeBy_206 ((md_fin1 hq c_189).trans (by simp [pb, c_1_0, c_1_1, c_1_2, c_1_3, c_1_4, hc_5]))
    · skip
      have c_189 := mt (lg_cmp_ge _ _).mpr c_189
      refine lv_lload hx hb dX6_placeBy_192 (lv_at hl 0 rfl) ?_
      refine lv_aload_n hx hb dX6_placeBy_194 rfl (lv_at hl 1 rfl) ?_
      refine va_get (D := D) (ci := 6) (v := .int mq) (C := RX6) (T := TX6) (N := 22) hx hb hts (in_X6_placeBy_X6) hown hK hP 0 rfl rfl 1 (by decide) (hts (.fieldLink RX6 13 "StepsRoundCircleModel" "round" "I") (by decide +kernel)) (fun _ h9 => h9) rfl dX6_placeBy_195 ?_
      refine lv_i2l hx hb dX6_placeBy_198 rfl ?_
      refine lv_ladd hx hb dX6_placeBy_199 ?_
      refine lv_goto (tgt := 205) hx hb dX6_placeBy_200 (by decide) ?_
      refine lv_l2i hx hb dX6_placeBy_205 rfl ?_
      exact rdI hx hb hr hlocks dX6_placeBy_206 ((md_fin2 hq c_189).trans (by simp [pb, c_1_0, c_1_1, c_1_2, c_1_3, c_1_4, hc_5]))
  exact False.elim (by have q0 := lv_neT c_1_0 (show (0 : Int32).toInt = 0 by decide); have q1 := lv_neT c_1_1 (show (1 : Int32).toInt = 1 by decide); have q2 := lv_neT c_1_2 (show (2 : Int32).toInt = 2 by decide); have q3 := lv_neT c_1_3 (show (3 : Int32).toInt = 3 by decide); have q4 := lv_neT c_1_4 (show (4 : Int32).toInt = 4 by decide); omega)

set_option maxHeartbeats 4000000 in
set_option maxRecDepth 100000 in
theorem c_X6_placeOf (l : Launch) (D : va_G) (cI cZ cR : ClassId) (y yr yw yc yl ys yp ym yo yk yt yi yz yx yu : Nat) (mq mn mc me md mz km kr : Int32) (v : Nat → Int32) (w k : Int32) (hq : okQ mq) (hw : 0 ≤ w ∧ w < 5) (hv : okW mq v w) (hk : 0 ≤ k ∧ k ≤ 4000) : Met l yX6_placeOf wsX6_placeOf ({ frames := 2, cells := 0, slots := 0, locals := 52 }) (PcR D cI cZ cR [.ref y, .int w, .int k] [(y, .inr (6, [.ref yr, .int mq, .int mn, .ref yw, .ref yc, .int mc, .ref yl, .int me, .ref ys, .ref yp, .ref ym, .int md, .ref yo, .ref yk, .ref yt, .int mz, .ref yi, .ref yz, .ref yx, .ref yu, .int km, .int kr])), (yw, .inl (cI, 20, .inl v))]) (k2_QcV (.int (rg_pb mq v (rg_val v w 0) w k.toInt64))) 0 0 (fun _ => False) := by
  refine Met.ofW (cc := cX6_placeOf) (maxL := 3) (ret := (some .int)) (by decide) rfl ?_
  intro p e s m args below meth c s₁ B hml hv
  obtain ⟨rfl, hP, hK, hN⟩ := hv
  have hx := B.exec
  have hb := B.bytes
  have hr := B.returns
  have hts := atoms_spec (ws := wsX6_placeOf) B.pre
  have hown : s.vm.findClass RX6 = some m.cls := findClass_of_methodNamed B.named
  have hlocks := B.notSynchronized
  have hP : va_P D vwCl [(y, .inr (6, [.ref yr, .int mq, .int mn, .ref yw, .ref yc, .int mc, .ref yl, .int me, .ref ys, .ref yp, .ref ym, .int md, .ref yo, .ref yk, .ref yt, .int mz, .ref yi, .ref yz, .ref yx, .ref yu, .int km, .int kr])), (yw, .inl (cI, 20, .inl v))] s.heap := hP
  have hl := lv_entry ([.ref y, .int w, .int k]) (n := 3) (Nat.le_of_ble_eq_true rfl)
  rw [lg_entry_eq]
  generalize (lg_sl ([.ref y, .int w, .int k]) ++ List.replicate (3 - (lg_sl ([.ref y, .int w, .int k])).length) Slot.unset).toArray = ls at hl ⊢
  have hl : lv_has ls 3 [(0, .ref y), (1, .int w), (2, .int k)] := hl
  refine lv_aload_n hx hb dX6_placeOf_0 rfl (lv_at hl 0 rfl) ?_
  refine lv_aload_n hx hb dX6_placeOf_1 rfl (lv_at hl 0 rfl) ?_
  refine lv_iload_n hx hb dX6_placeOf_2 rfl (lv_at hl 1 rfl) ?_
  refine lv_iconst (v := 0) hx hb dX6_placeOf_3 (by decide) ?_
  refine rdV (As := [.int w, .int 0]) (rest := [.ref y]) ⟨hx, hb, hml, hown, hts⟩ (c_X6_at l D cI cZ cR y yr yw yc yl ys yp ym yo yk yt yi yz yx yu mq mn mc me md mz km kr v w 0 hw (by decide)) (cwV 2 hts gX6_placeOf_X6_at rfl rfl rfl (by decide +kernel) ⟨Nat.le_of_ble_eq_true rfl, Nat.le_of_ble_eq_true rfl⟩) hK hN hP 0 6 rfl rfl rfl [0, 1] rfl rfl hl.1 rfl (Nat.le_of_ble_eq_true rfl) dX6_placeOf_4 ⟨Nat.zero_le _, Nat.zero_le _⟩ ?_
  refine lv_aload_n hx hb dX6_placeOf_7 rfl (lv_at hl 0 rfl) ?_
  refine lv_iload_n hx hb dX6_placeOf_8 rfl (lv_at hl 1 rfl) ?_
  refine lv_iconst (v := 1) hx hb dX6_placeOf_9 (by decide) ?_
  refine rdV (As := [.int w, .int 1]) (rest := [.int (rg_val v w 0), .ref y]) ⟨hx, hb, hml, hown, hts⟩ (c_X6_at l D cI cZ cR y yr yw yc yl ys yp ym yo yk yt yi yz yx yu mq mn mc me md mz km kr v w 1 hw (by decide)) (cwV 2 hts gX6_placeOf_X6_at rfl rfl rfl (by decide +kernel) ⟨Nat.le_of_ble_eq_true rfl, Nat.le_of_ble_eq_true rfl⟩) hK hN hP 0 6 rfl rfl rfl [0, 1] rfl rfl hl.1 rfl (Nat.le_of_ble_eq_true rfl) dX6_placeOf_10 ⟨Nat.zero_le _, Nat.zero_le _⟩ ?_
  refine lv_aload_n hx hb dX6_placeOf_13 rfl (lv_at hl 0 rfl) ?_
  refine lv_iload_n hx hb dX6_placeOf_14 rfl (lv_at hl 1 rfl) ?_
  refine lv_iconst (v := 2) hx hb dX6_placeOf_15 (by decide) ?_
  refine rdV (As := [.int w, .int 2]) (rest := [.int (rg_val v w 1), .int (rg_val v w 0), .ref y]) ⟨hx, hb, hml, hown, hts⟩ (c_X6_at l D cI cZ cR y yr yw yc yl ys yp ym yo yk yt yi yz yx yu mq mn mc me md mz km kr v w 2 hw (by decide)) (cwV 2 hts gX6_placeOf_X6_at rfl rfl rfl (by decide +kernel) ⟨Nat.le_of_ble_eq_true rfl, Nat.le_of_ble_eq_true rfl⟩) hK hN hP 0 6 rfl rfl rfl [0, 1] rfl rfl hl.1 rfl (Nat.le_of_ble_eq_true rfl) dX6_placeOf_16 ⟨Nat.zero_le _, Nat.zero_le _⟩ ?_
  refine lv_aload_n hx hb dX6_placeOf_19 rfl (lv_at hl 0 rfl) ?_
  refine lv_iload_n hx hb dX6_placeOf_20 rfl (lv_at hl 1 rfl) ?_
  refine lv_iconst (v := 3) hx hb dX6_placeOf_21 (by decide) ?_
  refine rdV (As := [.int w, .int 3]) (rest := [.int (rg_val v w 2), .int (rg_val v w 1), .int (rg_val v w 0), .ref y]) ⟨hx, hb, hml, hown, hts⟩ (c_X6_at l D cI cZ cR y yr yw yc yl ys yp ym yo yk yt yi yz yx yu mq mn mc me md mz km kr v w 3 hw (by decide)) (cwV 2 hts gX6_placeOf_X6_at rfl rfl rfl (by decide +kernel) ⟨Nat.le_of_ble_eq_true rfl, Nat.le_of_ble_eq_true rfl⟩) hK hN hP 0 6 rfl rfl rfl [0, 1] rfl rfl hl.1 rfl (Nat.le_of_ble_eq_true rfl) dX6_placeOf_22 ⟨Nat.zero_le _, Nat.zero_le _⟩ ?_
  refine lv_iload_n hx hb dX6_placeOf_25 rfl (lv_at hl 2 rfl) ?_
  refine rdV (As := [.int (rg_val v w 0), .int (rg_val v w 1), .int (rg_val v w 2), .int (rg_val v w 3), .int k]) (rest := []) ⟨hx, hb, hml, hown, hts⟩ (c_X6_placeBy l D cI cZ cR y yr yw yc yl ys yp ym yo yk yt yi yz yx yu mq mn mc me md mz km kr (rg_val v w 0) (rg_val v w 1) (rg_val v w 2) (rg_val v w 3) k hq hv.1 hv.2.2.2 hk) (cwV 5 hts gX6_placeOf_X6_placeBy rfl rfl rfl (by decide +kernel) ⟨Nat.le_of_ble_eq_true rfl, Nat.le_of_ble_eq_true rfl⟩) hK hN hP 0 6 rfl rfl rfl [0] rfl rfl hl.1 rfl (Nat.le_of_ble_eq_true rfl) dX6_placeOf_26 ⟨Nat.zero_le _, Nat.zero_le _⟩ ?_
  exact rdI hx hb hr hlocks dX6_placeOf_29 ((rg_pb_pb _ _ _ _ _).symm)

set_option maxHeartbeats 4000000 in
set_option maxRecDepth 100000 in
theorem c_X6_most (l : Launch) (D : va_G) (cI cZ cR : ClassId) (k q : Int32) : Met l yX6_most wsX6_most ({ frames := 0, cells := 0, slots := 0, locals := 0 }) (PcR D cI cZ cR [.int k, .int q] []) (k2_QcV (.int (rg_gr q k))) 0 0 (fun _ => False) := by
  refine Met.ofW (cc := cX6_most) (maxL := 2) (ret := (some .int)) (by decide) rfl ?_
  intro p e s m args below meth c s₁ B hml hv
  obtain ⟨rfl, hP, hK, hN⟩ := hv
  have hx := B.exec
  have hb := B.bytes
  have hr := B.returns
  have hts := atoms_spec (ws := wsX6_most) B.pre
  have hown : s.vm.findClass RX6 = some m.cls := findClass_of_methodNamed B.named
  have hlocks := B.notSynchronized
  have hP : va_P D vwCl [] s.heap := hP
  have hl := lv_entry ([.int k, .int q]) (n := 2) (Nat.le_of_ble_eq_true rfl)
  rw [lg_entry_eq]
  generalize (lg_sl ([.int k, .int q]) ++ List.replicate (2 - (lg_sl ([.int k, .int q])).length) Slot.unset).toArray = ls at hl ⊢
  have hl : lv_has ls 2 [(0, .int k), (1, .int q)] := hl
  refine lv_iload_n hx hb dX6_most_0 rfl (lv_at hl 0 rfl) ?_
  refine lv_if_ne (tgt := 8) hx hb dX6_most_1 (by decide) (fun c_1 => ?_) (fun c_1 => ?_)
  · skip
    refine lv_iload_n hx hb dX6_most_8 rfl (lv_at hl 0 rfl) ?_
    refine lv_iconst (v := 3) hx hb dX6_most_9 (by decide) ?_
    refine lv_icmp_ne (tgt := 18) hx hb dX6_most_10 (by decide) (fun c_10 => ?_) (fun c_10 => ?_)
    · skip
      refine lv_iload_n hx hb dX6_most_18 rfl (lv_at hl 1 rfl) ?_
      refine lv_iconst (v := 1) hx hb dX6_most_19 (by decide) ?_
      refine lv_isub hx hb dX6_most_20 ?_
      exact rdI hx hb hr hlocks dX6_most_21 (by first | rfl | (simp [bi, rg_gr, c_1, c_10]; done))
    · skip
      refine lv_bipush (v := 9) hx hb dX6_most_13 (by decide) ?_
      refine lv_goto (tgt := 21) hx hb dX6_most_15 (by decide) ?_
      exact rdI hx hb hr hlocks dX6_most_21 (by first | rfl | (simp [bi, rg_gr, c_1, c_10]; done))
  · skip
    refine lv_iconst (v := 5) hx hb dX6_most_4 (by decide) ?_
    refine lv_goto (tgt := 21) hx hb dX6_most_5 (by decide) ?_
    exact rdI hx hb hr hlocks dX6_most_21 (by first | rfl | (simp [bi, rg_gr, c_1]; done))

set_option maxHeartbeats 4000000 in
set_option maxRecDepth 100000 in
theorem c_X6_over (l : Launch) (D : va_G) (cI cZ cR : ClassId) (k : Int32) : Met l yX6_over wsX6_over ({ frames := 0, cells := 0, slots := 0, locals := 0 }) (PcR D cI cZ cR [.int k] []) (k2_QcV (.int (if k = 0 then -1 else if k = 4 then 2 else if k = 5 then 1 else 0))) 0 0 (fun _ => False) := by
  refine Met.ofW (cc := cX6_over) (maxL := 1) (ret := (some .int)) (by decide) rfl ?_
  intro p e s m args below meth c s₁ B hml hv
  obtain ⟨rfl, hP, hK, hN⟩ := hv
  have hx := B.exec
  have hb := B.bytes
  have hr := B.returns
  have hts := atoms_spec (ws := wsX6_over) B.pre
  have hown : s.vm.findClass RX6 = some m.cls := findClass_of_methodNamed B.named
  have hlocks := B.notSynchronized
  have hP : va_P D vwCl [] s.heap := hP
  have hl := lv_entry ([.int k]) (n := 1) (Nat.le_of_ble_eq_true rfl)
  rw [lg_entry_eq]
  generalize (lg_sl ([.int k]) ++ List.replicate (1 - (lg_sl ([.int k])).length) Slot.unset).toArray = ls at hl ⊢
  have hl : lv_has ls 1 [(0, .int k)] := hl
  refine lv_iload_n hx hb dX6_over_0 rfl (lv_at hl 0 rfl) ?_
  refine lv_if_ne (tgt := 8) hx hb dX6_over_1 (by decide) (fun c_1 => ?_) (fun c_1 => ?_)
  · skip
    refine lv_iload_n hx hb dX6_over_8 rfl (lv_at hl 0 rfl) ?_
    refine lv_iconst (v := 4) hx hb dX6_over_9 (by decide) ?_
    refine lv_icmp_ne (tgt := 17) hx hb dX6_over_10 (by decide) (fun c_10 => ?_) (fun c_10 => ?_)
    · skip
      refine lv_iload_n hx hb dX6_over_17 rfl (lv_at hl 0 rfl) ?_
      refine lv_iconst (v := 5) hx hb dX6_over_18 (by decide) ?_
      refine lv_icmp_ne (tgt := 26) hx hb dX6_over_19 (by decide) (fun c_19 => ?_) (fun c_19 => ?_)
      · skip
        refine lv_iconst (v := 0) hx hb dX6_over_26 (by decide) ?_
        exact rdI hx hb hr hlocks dX6_over_27 (by first | rfl | (simp [bi, c_1, c_10, c_19]; done))
      · skip
        refine lv_iconst (v := 1) hx hb dX6_over_22 (by decide) ?_
        refine lv_goto (tgt := 27) hx hb dX6_over_23 (by decide) ?_
        exact rdI hx hb hr hlocks dX6_over_27 (by first | rfl | (simp [bi, c_1, c_10, c_19]; done))
    · skip
      refine lv_iconst (v := 2) hx hb dX6_over_13 (by decide) ?_
      refine lv_goto (tgt := 27) hx hb dX6_over_14 (by decide) ?_
      exact rdI hx hb hr hlocks dX6_over_27 (by first | rfl | (simp [bi, c_1, c_10]; done))
  · skip
    refine lv_iconst (v := (-1)) hx hb dX6_over_4 (by decide) ?_
    refine lv_goto (tgt := 27) hx hb dX6_over_5 (by decide) ?_
    exact rdI hx hb hr hlocks dX6_over_27 (by first | rfl | (simp [bi, c_1]; done))

set_option maxHeartbeats 4000000 in
set_option maxRecDepth 100000 in
theorem c_X6_returnOf (l : Launch) (D : va_G) (cI cZ cR : ClassId) (y yr yw yc yl ys yp ym yo yk yt yi yz yx yu : Nat) (mq mn mc me md mz km kr : Int32) (v : Nat → Int32) (w : Int32) (hq : okQ mq) (hw : 0 ≤ w ∧ w < 5) (hv : okW mq v w) : Met l yX6_returnOf wsX6_returnOf ({ frames := 3, cells := 0, slots := 0, locals := 74 }) (PcR D cI cZ cR [.ref y, .int w] [(y, .inr (6, [.ref yr, .int mq, .int mn, .ref yw, .ref yc, .int mc, .ref yl, .int me, .ref ys, .ref yp, .ref ym, .int md, .ref yo, .ref yk, .ref yt, .int mz, .ref yi, .ref yz, .ref yx, .ref yu, .int km, .int kr])), (yw, .inl (cI, 20, .inl v))]) (k2_QcV (.int (ffk (fun j => plK mq v w j = rg_val v w 2) 1 2000))) 0 0 (fun _ => False) := by
  refine Met.ofW (cc := cX6_returnOf) (maxL := 3) (ret := (some .int)) (by decide) rfl ?_
  intro p e s m args below meth c s₁ B hml hv
  obtain ⟨rfl, hP, hK, hN⟩ := hv
  have hx := B.exec
  have hb := B.bytes
  have hr := B.returns
  have hts := atoms_spec (ws := wsX6_returnOf) B.pre
  have hown : s.vm.findClass RX6 = some m.cls := findClass_of_methodNamed B.named
  have hlocks := B.notSynchronized
  have hP : va_P D vwCl [(y, .inr (6, [.ref yr, .int mq, .int mn, .ref yw, .ref yc, .int mc, .ref yl, .int me, .ref ys, .ref yp, .ref ym, .int md, .ref yo, .ref yk, .ref yt, .int mz, .ref yi, .ref yz, .ref yx, .ref yu, .int km, .int kr])), (yw, .inl (cI, 20, .inl v))] s.heap := hP
  have hl := lv_entry ([.ref y, .int w]) (n := 3) (Nat.le_of_ble_eq_true rfl)
  rw [lg_entry_eq]
  generalize (lg_sl ([.ref y, .int w]) ++ List.replicate (3 - (lg_sl ([.ref y, .int w])).length) Slot.unset).toArray = ls at hl ⊢
  have hl : lv_has ls 3 [(0, .ref y), (1, .int w)] := hl
  refine lv_iconst (v := 1) hx hb dX6_returnOf_0 (by decide) ?_
  refine lv_istore_n (lv' := [(2, .int 1), (0, .ref y), (1, .int w)]) hx hb dX6_returnOf_1 rfl hl (by decide) rfl (fun ls hl => ?_)
  have loop_2 : ∀ (fuel : Nat), ∀ (i : Nat), (1 ≤ i) → (i ≤ 2001) → (ffk (fun j => plK mq v w j = rg_val v w 2) 1 2000 = ffk (fun j => plK mq v w j = rg_val v w 2) i (2001 - i)) → (2002 ≤ i + fuel) → ∀ (y2 : Int32), y2 = nI i → ∀ (ls : Array Slot), lv_has ls 3 [(2, .int y2), (0, .ref y), (1, .int w)] → W p l e (headSpec wsX6_returnOf ({ frames := 3, cells := 0, slots := 0, locals := 74 })).room s m ([.ref y, .int w] : List Value).toArray below meth c s.heap [] 0 0 (MQ below (k2_QcV (.int (ffk (fun j => plK mq v w j = rg_val v w 2) 1 2000))) ([.ref y, .int w] : List Value).toArray s 0 0 (fun _ => False)) (F0 m 2 ls []) := by
    intro fuel
    induction fuel with
    | zero =>
      intro i h1 h2 hinv hfu
      exact False.elim (by omega)
    | succ fuel ih_2 =>
      intro i h1 h2 hinv hfu y2 ey2 ls hl
      subst ey2
      refine lv_iload_n hx hb dX6_returnOf_2 rfl (lv_at hl 0 rfl) ?_
      refine lv_sipush (v := 2000) hx hb dX6_returnOf_3 (by decide) ?_
      refine lv_icmp_gt (tgt := 32) hx hb dX6_returnOf_6 (by decide) (fun c_6 => ?_) (fun c_6 => ?_)
      · skip
        refine lv_bipush (v := (-9)) hx hb dX6_returnOf_32 (by decide) ?_
        exact rdI hx hb hr hlocks dX6_returnOf_34 (by rw [hinv, show 2001 - i = 0 by have := (nI_ltI (a := 2000) (b := i) (by omega) (by omega)).mp c_6; omega]; rfl)
      · skip
        have hiN : i ≤ 2000 := by rcases Nat.lt_or_ge 2000 i with q9 | q9; exact absurd (nI_lt (a := 2000) q9 (by omega)) c_6; exact q9
        refine lv_aload_n hx hb dX6_returnOf_9 rfl (lv_at hl 1 rfl) ?_
        refine lv_iload_n hx hb dX6_returnOf_10 rfl (lv_at hl 2 rfl) ?_
        refine lv_iload_n hx hb dX6_returnOf_11 rfl (lv_at hl 0 rfl) ?_
        refine rdV (As := [.int w, .int (nI i)]) (rest := []) ⟨hx, hb, hml, hown, hts⟩ (c_X6_placeOf l D cI cZ cR y yr yw yc yl ys yp ym yo yk yt yi yz yx yu mq mn mc me md mz km kr v w (nI i) hq hw hv (⟨nI_pos' (by omega), nI_le (b := 4000) (by omega) (by omega)⟩)) (cwV 2 hts gX6_returnOf_X6_placeOf rfl rfl rfl (by decide +kernel) ⟨Nat.le_of_ble_eq_true rfl, Nat.le_of_ble_eq_true rfl⟩) hK hN hP 0 6 rfl rfl rfl [0, 1] rfl rfl hl.1 rfl (Nat.le_of_ble_eq_true rfl) dX6_returnOf_12 ⟨Nat.zero_le _, Nat.zero_le _⟩ ?_
        refine lv_aload_n hx hb dX6_returnOf_15 rfl (lv_at hl 1 rfl) ?_
        refine lv_iload_n hx hb dX6_returnOf_16 rfl (lv_at hl 2 rfl) ?_
        refine lv_iconst (v := 2) hx hb dX6_returnOf_17 (by decide) ?_
        refine rdV (As := [.int w, .int 2]) (rest := [.int (rg_pb mq v (rg_val v w 0) w (nI i).toInt64)]) ⟨hx, hb, hml, hown, hts⟩ (c_X6_at l D cI cZ cR y yr yw yc yl ys yp ym yo yk yt yi yz yx yu mq mn mc me md mz km kr v w 2 hw (by decide)) (cwV 2 hts gX6_returnOf_X6_at rfl rfl rfl (by decide +kernel) ⟨Nat.le_of_ble_eq_true rfl, Nat.le_of_ble_eq_true rfl⟩) hK hN hP 0 6 rfl rfl rfl [0, 1] rfl rfl hl.1 rfl (Nat.le_of_ble_eq_true rfl) dX6_returnOf_18 ⟨Nat.zero_le _, Nat.zero_le _⟩ ?_
        refine lv_icmp_ne (tgt := 26) hx hb dX6_returnOf_21 (by decide) (fun c_21 => ?_) (fun c_21 => ?_)
        · skip
          refine lv_iinc (v := (nI i) + 1) (lv' := [(2, .int ((nI i) + 1)), (0, .ref y), (1, .int w)]) hx hb dX6_returnOf_26 hl (k := 0) rfl (by rfl) (by decide) rfl (fun ls hl => ?_)
          refine lv_goto (tgt := 2) hx hb dX6_returnOf_29 (by decide) ?_
          exact ih_2 (i + 1) (by omega) (by omega) (by rw [hinv, show 2001 - i = (2000 - i) + 1 by omega, ffk, if_neg (show ¬ plK mq v w i = rg_val v w 2 from c_21), show 2001 - (i + 1) = 2000 - i by omega]) (by omega) _ (by first | rfl | exact nI_1 _ | exact nI_0.symm) ls (lv_sub hl [0, 1, 2] rfl)
        · skip
          refine lv_iload_n hx hb dX6_returnOf_24 rfl (lv_at hl 0 rfl) ?_
          exact rdI hx hb hr hlocks dX6_returnOf_25 (by rw [hinv, show 2001 - i = (2000 - i) + 1 by omega, ffk, if_pos (show plK mq v w i = rg_val v w 2 from c_21)])
  exact loop_2 2001 1 (by omega) (by omega) rfl (by omega) _ (by first | rfl | exact nI_1 _ | exact nI_0.symm) ls (lv_sub hl [0, 1, 2] rfl)

set_option maxHeartbeats 4000000 in
set_option maxRecDepth 100000 in
theorem c_X6_refusal (l : Launch) (D : va_G) (cI cZ cR : ClassId) (y yr yw yc yl ys yp ym yo yk yt yi yz yx yu : Nat) (mq mn mc me md mz km kr : Int32) (w n : Int32) (hmn : 0 ≤ mn) : Met l yX6_refusal wsX6_refusal ({ frames := 2, cells := 0, slots := 0, locals := 46 }) (PcR D cI cZ cR [.ref y, .int w, .int n] [(y, .inr (6, [.ref yr, .int mq, .int mn, .ref yw, .ref yc, .int mc, .ref yl, .int me, .ref ys, .ref yp, .ref ym, .int md, .ref yo, .ref yk, .ref yt, .int mz, .ref yi, .ref yz, .ref yx, .ref yu, .int km, .int kr]))]) (k2_QcV (.int (rf_num mn w n 1 200))) 0 0 (fun _ => False) := by
  refine Met.ofW (cc := cX6_refusal) (maxL := 3) (ret := (some .int)) (by decide) rfl ?_
  intro p e s m args below meth c s₁ B hml hv
  obtain ⟨rfl, hP, hK, hN⟩ := hv
  have hx := B.exec
  have hb := B.bytes
  have hr := B.returns
  have hts := atoms_spec (ws := wsX6_refusal) B.pre
  have hown : s.vm.findClass RX6 = some m.cls := findClass_of_methodNamed B.named
  have hlocks := B.notSynchronized
  have hP : va_P D vwCl [(y, .inr (6, [.ref yr, .int mq, .int mn, .ref yw, .ref yc, .int mc, .ref yl, .int me, .ref ys, .ref yp, .ref ym, .int md, .ref yo, .ref yk, .ref yt, .int mz, .ref yi, .ref yz, .ref yx, .ref yu, .int km, .int kr]))] s.heap := hP
  have hl := lv_entry ([.ref y, .int w, .int n]) (n := 3) (Nat.le_of_ble_eq_true rfl)
  rw [lg_entry_eq]
  generalize (lg_sl ([.ref y, .int w, .int n]) ++ List.replicate (3 - (lg_sl ([.ref y, .int w, .int n])).length) Slot.unset).toArray = ls at hl ⊢
  have hl : lv_has ls 3 [(0, .ref y), (1, .int w), (2, .int n)] := hl
  refine lv_aload_n hx hb dX6_refusal_0 rfl (lv_at hl 0 rfl) ?_
  refine lv_iload_n hx hb dX6_refusal_1 rfl (lv_at hl 1 rfl) ?_
  refine rdV (As := [.int w]) (rest := []) ⟨hx, hb, hml, hown, hts⟩ (c_X6_isWalker l D cI cZ cR y yr yw yc yl ys yp ym yo yk yt yi yz yx yu mq mn mc me md mz km kr w (by first | assumption | omega)) (cwV 1 hts gX6_refusal_X6_isWalker rfl rfl rfl (by decide +kernel) ⟨Nat.le_of_ble_eq_true rfl, Nat.le_of_ble_eq_true rfl⟩) hK hN hP 0 6 rfl rfl rfl [0] rfl rfl hl.1 rfl (Nat.le_of_ble_eq_true rfl) dX6_refusal_2 ⟨Nat.zero_le _, Nat.zero_le _⟩ ?_
  refine lv_if_ne (tgt := 12) hx hb dX6_refusal_5 (by decide) (fun c_5 => ?_) (fun c_5 => ?_)
  · skip
    have c_5 := bi_ne0.mp c_5
    refine lv_iload_n hx hb dX6_refusal_12 rfl (lv_at hl 2 rfl) ?_
    refine lv_iconst (v := 1) hx hb dX6_refusal_13 (by decide) ?_
    refine lv_sipush (v := 200) hx hb dX6_refusal_14 (by decide) ?_
    refine rdS (As := [.int n, .int 1, .int 200]) (rest := []) ⟨hx, hb, hml, hown, hts⟩ (c_X6_range l D cI cZ cR n 1 200 ) (va_cwS 3 hts gX6_refusal_X6_range rfl rfl rfl (by decide +kernel) ⟨Nat.le_of_ble_eq_true rfl, Nat.le_of_ble_eq_true rfl⟩) hK hN hP [] rfl rfl hl.1 rfl (Nat.le_of_ble_eq_true rfl) dX6_refusal_17 ⟨Nat.zero_le _, Nat.zero_le _⟩ ?_
    exact rdI hx hb hr hlocks dX6_refusal_20 (by first | rfl | (simp [bi, rf_num, rng, c_5]; done))
  · skip
    have c_5 := bi_eq0.mp c_5
    refine lv_iconst (v := (-1)) hx hb dX6_refusal_8 (by decide) ?_
    refine lv_goto (tgt := 20) hx hb dX6_refusal_9 (by decide) ?_
    exact rdI hx hb hr hlocks dX6_refusal_20 (by first | rfl | (simp [bi, rf_num, rng, c_5]; done))

set_option maxHeartbeats 4000000 in
set_option maxRecDepth 100000 in
theorem c_X6_refusalOf (l : Launch) (D : va_G) (cI cZ cR : ClassId) (y yr yw yc yl ys yp ym yo yk yt yi yz yx yu : Nat) (mq mn mc me md mz km kr : Int32) (w n j lo : Int32) (hmn : 0 ≤ mn) : Met l yX6_refusalOf wsX6_refusalOf ({ frames := 2, cells := 0, slots := 0, locals := 46 }) (PcR D cI cZ cR [.ref y, .int w, .int n, .int j, .int lo] [(y, .inr (6, [.ref yr, .int mq, .int mn, .ref yw, .ref yc, .int mc, .ref yl, .int me, .ref ys, .ref yp, .ref ym, .int md, .ref yo, .ref yk, .ref yt, .int mz, .ref yi, .ref yz, .ref yx, .ref yu, .int km, .int kr]))]) (k2_QcV (.int (rf_nth mn w n j lo))) 0 0 (fun _ => False) := by
  refine Met.ofW (cc := cX6_refusalOf) (maxL := 5) (ret := (some .int)) (by decide) rfl ?_
  intro p e s m args below meth c s₁ B hml hv
  obtain ⟨rfl, hP, hK, hN⟩ := hv
  have hx := B.exec
  have hb := B.bytes
  have hr := B.returns
  have hts := atoms_spec (ws := wsX6_refusalOf) B.pre
  have hown : s.vm.findClass RX6 = some m.cls := findClass_of_methodNamed B.named
  have hlocks := B.notSynchronized
  have hP : va_P D vwCl [(y, .inr (6, [.ref yr, .int mq, .int mn, .ref yw, .ref yc, .int mc, .ref yl, .int me, .ref ys, .ref yp, .ref ym, .int md, .ref yo, .ref yk, .ref yt, .int mz, .ref yi, .ref yz, .ref yx, .ref yu, .int km, .int kr]))] s.heap := hP
  have hl := lv_entry ([.ref y, .int w, .int n, .int j, .int lo]) (n := 5) (Nat.le_of_ble_eq_true rfl)
  rw [lg_entry_eq]
  generalize (lg_sl ([.ref y, .int w, .int n, .int j, .int lo]) ++ List.replicate (5 - (lg_sl ([.ref y, .int w, .int n, .int j, .int lo])).length) Slot.unset).toArray = ls at hl ⊢
  have hl : lv_has ls 5 [(0, .ref y), (1, .int w), (2, .int n), (3, .int j), (4, .int lo)] := hl
  refine lv_aload_n hx hb dX6_refusalOf_0 rfl (lv_at hl 0 rfl) ?_
  refine lv_iload_n hx hb dX6_refusalOf_1 rfl (lv_at hl 1 rfl) ?_
  refine rdV (As := [.int w]) (rest := []) ⟨hx, hb, hml, hown, hts⟩ (c_X6_isWalker l D cI cZ cR y yr yw yc yl ys yp ym yo yk yt yi yz yx yu mq mn mc me md mz km kr w (by first | assumption | omega)) (cwV 1 hts gX6_refusalOf_X6_isWalker rfl rfl rfl (by decide +kernel) ⟨Nat.le_of_ble_eq_true rfl, Nat.le_of_ble_eq_true rfl⟩) hK hN hP 0 6 rfl rfl rfl [0] rfl rfl hl.1 rfl (Nat.le_of_ble_eq_true rfl) dX6_refusalOf_2 ⟨Nat.zero_le _, Nat.zero_le _⟩ ?_
  refine lv_if_ne (tgt := 10) hx hb dX6_refusalOf_5 (by decide) (fun c_5 => ?_) (fun c_5 => ?_)
  · skip
    have c_5 := bi_ne0.mp c_5
    refine lv_iload_n hx hb dX6_refusalOf_10 rfl (lv_at hl 2 rfl) ?_
    refine lv_iconst (v := 1) hx hb dX6_refusalOf_11 (by decide) ?_
    refine lv_icmp_lt (tgt := 21) hx hb dX6_refusalOf_12 (by decide) (fun c_12 => ?_) (fun c_12 => ?_)
    · skip
      refine lv_bipush (v := (-4)) hx hb dX6_refusalOf_21 (by decide) ?_
      exact rdI hx hb hr hlocks dX6_refusalOf_23 (by first | rfl | (simp [bi, rf_nth, c_5, c_12, Int32.not_le.mpr c_12]; done))
    · skip
      refine lv_iload_n hx hb dX6_refusalOf_15 rfl (lv_at hl 3 rfl) ?_
      refine lv_iload hx hb dX6_refusalOf_16 (lv_at hl 4 rfl) ?_
      refine lv_icmp_ge (tgt := 24) hx hb dX6_refusalOf_18 (by decide) (fun c_18 => ?_) (fun c_18 => ?_)
      · skip
        refine lv_iload_n hx hb dX6_refusalOf_24 rfl (lv_at hl 2 rfl) ?_
        refine lv_sipush (v := 200) hx hb dX6_refusalOf_25 (by decide) ?_
        refine lv_icmp_le (tgt := 36) hx hb dX6_refusalOf_28 (by decide) (fun c_28 => ?_) (fun c_28 => ?_)
        · skip
          refine lv_iconst (v := 0) hx hb dX6_refusalOf_36 (by decide) ?_
          exact rdI hx hb hr hlocks dX6_refusalOf_37 (by first | rfl | (simp [bi, rf_nth, c_5, c_12, Int32.not_lt.mp c_12, c_18, Int32.not_lt.mpr c_18, c_28, Int32.not_lt.mpr c_28]; done))
        · skip
          refine lv_bipush (v := (-6)) hx hb dX6_refusalOf_31 (by decide) ?_
          refine lv_goto (tgt := 37) hx hb dX6_refusalOf_33 (by decide) ?_
          exact rdI hx hb hr hlocks dX6_refusalOf_37 (by first | rfl | (simp [bi, rf_nth, c_5, c_12, Int32.not_lt.mp c_12, c_18, Int32.not_lt.mpr c_18, c_28, Int32.not_le.mp c_28]; done))
      · skip
        refine lv_bipush (v := (-4)) hx hb dX6_refusalOf_21 (by decide) ?_
        exact rdI hx hb hr hlocks dX6_refusalOf_23 (by first | rfl | (simp [bi, rf_nth, c_5, c_12, Int32.not_lt.mp c_12, c_18, Int32.not_le.mp c_18]; done))
  · skip
    have c_5 := bi_eq0.mp c_5
    refine lv_iconst (v := (-1)) hx hb dX6_refusalOf_8 (by decide) ?_
    exact rdI hx hb hr hlocks dX6_refusalOf_9 (by first | rfl | (simp [bi, rf_nth, c_5]; done))

set_option maxHeartbeats 4000000 in
set_option maxRecDepth 100000 in
theorem c_X6_areTwo (l : Launch) (D : va_G) (cI cZ cR : ClassId) (y yr yw yc yl ys yp ym yo yk yt yi yz yx yu : Nat) (mq mn mc me md mz km kr : Int32) (o u : Int32) (hmn : 0 ≤ mn) : Met l yX6_areTwo wsX6_areTwo ({ frames := 2, cells := 0, slots := 0, locals := 46 }) (PcR D cI cZ cR [.ref y, .int o, .int u] [(y, .inr (6, [.ref yr, .int mq, .int mn, .ref yw, .ref yc, .int mc, .ref yl, .int me, .ref ys, .ref yp, .ref ym, .int md, .ref yo, .ref yk, .ref yt, .int mz, .ref yi, .ref yz, .ref yx, .ref yu, .int km, .int kr]))]) (k2_QcV (.int (bi (¬ o = u ∧ (0 ≤ o ∧ o < mn) ∧ (0 ≤ u ∧ u < mn))))) 0 0 (fun _ => False) := by
  refine Met.ofW (cc := cX6_areTwo) (maxL := 3) (ret := (some .boolean)) (by decide) rfl ?_
  intro p e s m args below meth c s₁ B hml hv
  obtain ⟨rfl, hP, hK, hN⟩ := hv
  have hx := B.exec
  have hb := B.bytes
  have hr := B.returns
  have hts := atoms_spec (ws := wsX6_areTwo) B.pre
  have hown : s.vm.findClass RX6 = some m.cls := findClass_of_methodNamed B.named
  have hlocks := B.notSynchronized
  have hP : va_P D vwCl [(y, .inr (6, [.ref yr, .int mq, .int mn, .ref yw, .ref yc, .int mc, .ref yl, .int me, .ref ys, .ref yp, .ref ym, .int md, .ref yo, .ref yk, .ref yt, .int mz, .ref yi, .ref yz, .ref yx, .ref yu, .int km, .int kr]))] s.heap := hP
  have hl := lv_entry ([.ref y, .int o, .int u]) (n := 3) (Nat.le_of_ble_eq_true rfl)
  rw [lg_entry_eq]
  generalize (lg_sl ([.ref y, .int o, .int u]) ++ List.replicate (3 - (lg_sl ([.ref y, .int o, .int u])).length) Slot.unset).toArray = ls at hl ⊢
  have hl : lv_has ls 3 [(0, .ref y), (1, .int o), (2, .int u)] := hl
  refine lv_aload_n hx hb dX6_areTwo_0 rfl (lv_at hl 0 rfl) ?_
  refine lv_iload_n hx hb dX6_areTwo_1 rfl (lv_at hl 1 rfl) ?_
  refine rdV (As := [.int o]) (rest := []) ⟨hx, hb, hml, hown, hts⟩ (c_X6_isWalker l D cI cZ cR y yr yw yc yl ys yp ym yo yk yt yi yz yx yu mq mn mc me md mz km kr o (by first | assumption | omega)) (cwV 1 hts gX6_areTwo_X6_isWalker rfl rfl rfl (by decide +kernel) ⟨Nat.le_of_ble_eq_true rfl, Nat.le_of_ble_eq_true rfl⟩) hK hN hP 0 6 rfl rfl rfl [0] rfl rfl hl.1 rfl (Nat.le_of_ble_eq_true rfl) dX6_areTwo_2 ⟨Nat.zero_le _, Nat.zero_le _⟩ ?_
  refine lv_if_eq (tgt := 25) hx hb dX6_areTwo_5 (by decide) (fun c_5 => ?_) (fun c_5 => ?_)
  · skip
    have c_5 := bi_eq0.mp c_5
    refine lv_iconst (v := 0) hx hb dX6_areTwo_25 (by decide) ?_
    exact rdZ hx hb hr hlocks dX6_areTwo_26 (by first | rfl | (simp [bi, c_5]; done))
  · skip
    have c_5 := bi_ne0.mp c_5
    refine lv_aload_n hx hb dX6_areTwo_8 rfl (lv_at hl 0 rfl) ?_
    refine lv_iload_n hx hb dX6_areTwo_9 rfl (lv_at hl 2 rfl) ?_
    refine rdV (As := [.int u]) (rest := []) ⟨hx, hb, hml, hown, hts⟩ (c_X6_isWalker l D cI cZ cR y yr yw yc yl ys yp ym yo yk yt yi yz yx yu mq mn mc me md mz km kr u (by first | assumption | omega)) (cwV 1 hts gX6_areTwo_X6_isWalker rfl rfl rfl (by decide +kernel) ⟨Nat.le_of_ble_eq_true rfl, Nat.le_of_ble_eq_true rfl⟩) hK hN hP 0 6 rfl rfl rfl [0] rfl rfl hl.1 rfl (Nat.le_of_ble_eq_true rfl) dX6_areTwo_10 ⟨Nat.zero_le _, Nat.zero_le _⟩ ?_
    refine lv_if_eq (tgt := 25) hx hb dX6_areTwo_13 (by decide) (fun c_13 => ?_) (fun c_13 => ?_)
    · skip
      have c_13 := bi_eq0.mp c_13
      refine lv_iconst (v := 0) hx hb dX6_areTwo_25 (by decide) ?_
      exact rdZ hx hb hr hlocks dX6_areTwo_26 (by first | rfl | (simp [bi, c_5, c_13]; done))
    · skip
      have c_13 := bi_ne0.mp c_13
      refine lv_iload_n hx hb dX6_areTwo_16 rfl (lv_at hl 1 rfl) ?_
      refine lv_iload_n hx hb dX6_areTwo_17 rfl (lv_at hl 2 rfl) ?_
      refine lv_icmp_eq (tgt := 25) hx hb dX6_areTwo_18 (by decide) (fun c_18 => ?_) (fun c_18 => ?_)
      · skip
        refine lv_iconst (v := 0) hx hb dX6_areTwo_25 (by decide) ?_
        exact rdZ hx hb hr hlocks dX6_areTwo_26 (by first | rfl | (simp [bi, c_5, c_13, c_18]; done))
      · skip
        refine lv_iconst (v := 1) hx hb dX6_areTwo_21 (by decide) ?_
        refine lv_goto (tgt := 26) hx hb dX6_areTwo_22 (by decide) ?_
        exact rdZ hx hb hr hlocks dX6_areTwo_26 (by first | rfl | (simp [bi, c_5, c_13, c_18]; done))

set_option maxHeartbeats 4000000 in
set_option maxRecDepth 100000 in
theorem c_X6_isList (l : Launch) (D : va_G) (cI cZ cR : ClassId) (n : Int32) : Met l yX6_isList wsX6_isList ({ frames := 1, cells := 0, slots := 0, locals := 25 }) (PcR D cI cZ cR [.int n] []) (k2_QcV (.int (bi (0 ≤ n ∧ n < 3)))) 0 0 (fun _ => False) := by
  refine Met.ofW (cc := cX6_isList) (maxL := 1) (ret := (some .boolean)) (by decide) rfl ?_
  intro p e s m args below meth c s₁ B hml hv
  obtain ⟨rfl, hP, hK, hN⟩ := hv
  have hx := B.exec
  have hb := B.bytes
  have hr := B.returns
  have hts := atoms_spec (ws := wsX6_isList) B.pre
  have hown : s.vm.findClass RX6 = some m.cls := findClass_of_methodNamed B.named
  have hlocks := B.notSynchronized
  have hP : va_P D vwCl [] s.heap := hP
  have hl := lv_entry ([.int n]) (n := 1) (Nat.le_of_ble_eq_true rfl)
  rw [lg_entry_eq]
  generalize (lg_sl ([.int n]) ++ List.replicate (1 - (lg_sl ([.int n])).length) Slot.unset).toArray = ls at hl ⊢
  have hl : lv_has ls 1 [(0, .int n)] := hl
  refine lv_iload_n hx hb dX6_isList_0 rfl (lv_at hl 0 rfl) ?_
  refine lv_i2l hx hb dX6_isList_1 rfl ?_
  refine lv_lconst (v := 0) hx hb dX6_isList_2 (by decide) ?_
  refine lv_ldc2 (v := 2) hx hb hown (hts (.constantLong RX6 135 2) (by decide +kernel)) dX6_isList_3 ?_
  refine rdS (As := [.long n.toInt64, .long 0, .long 2]) (rest := []) ⟨hx, hb, hml, hown, hts⟩ (c_X6_in l D cI cZ cR n.toInt64 0 2 ) (va_cwS 3 hts gX6_isList_X6_in rfl rfl rfl (by decide +kernel) ⟨Nat.le_of_ble_eq_true rfl, Nat.le_of_ble_eq_true rfl⟩) hK hN hP [] rfl rfl hl.1 rfl (Nat.le_of_ble_eq_true rfl) dX6_isList_6 ⟨Nat.zero_le _, Nat.zero_le _⟩ ?_
  exact rdZ hx hb hr hlocks dX6_isList_9 (bi_cg (md_li n))
