theorem in_X6_draw_X6 : ∀ w ∈ wsX60, w ∈ wsX6_draw := by decide +kernel
set_option maxHeartbeats 4000000 in
set_option maxRecDepth 100000 in
theorem c_X6_draw (l : Launch) (D : va_G) (cI cZ cR : ClassId) (y yr yw yc yl ys yp ym yo yk yt yi yz yx yu : Nat) (mq mn mc me md mz km kr : Int32) (b9 : Int32) (B9 : Nat) (hbB : b9 = nI B9) (hb0 : 0 < B9) (hb9 : B9 < 2147483648) (sz : Nat) : Met l yX6_draw wsX6_draw ({ frames := 0, cells := 0, slots := 0, locals := 0 }) (PcW D cI cZ cR [.ref y, .int b9] [(y, .inr (6, [.ref yr, .int mq, .int mn, .ref yw, .ref yc, .int mc, .ref yl, .int me, .ref ys, .ref yp, .ref ym, .int md, .ref yo, .ref yk, .ref yt, .int mz, .ref yi, .ref yz, .ref yx, .ref yu, .int km, .int kr]))] sz) (va_Qi (fun (res : Int32) (u : Int32) => res = fdraw (fseed mz) b9 ∧ u = fseed mz) (Bw D (fun (u : Int32) => [(y, .inr (6, [.ref yr, .int mq, .int mn, .ref yw, .ref yc, .int mc, .ref yl, .int me, .ref ys, .ref yp, .ref ym, .int md, .ref yo, .ref yk, .ref yt, .int u, .ref yi, .ref yz, .ref yx, .ref yu, .int km, .int kr]))]) (va_A [(y, .inr (6, [.ref yr, .int mq, .int mn, .ref yw, .ref yc, .int mc, .ref yl, .int me, .ref ys, .ref yp, .ref ym, .int md, .ref yo, .ref yk, .ref yt, .int mz, .ref yi, .ref yz, .ref yx, .ref yu, .int km, .int kr]))] sz)) (va_A [(y, .inr (6, [.ref yr, .int mq, .int mn, .ref yw, .ref yc, .int mc, .ref yl, .int me, .ref ys, .ref yp, .ref ym, .int md, .ref yo, .ref yk, .ref yt, .int mz, .ref yi, .ref yz, .ref yx, .ref yu, .int km, .int kr]))] sz)) 0 0 (va_A [(y, .inr (6, [.ref yr, .int mq, .int mn, .ref yw, .ref yc, .int mc, .ref yl, .int me, .ref ys, .ref yp, .ref ym, .int md, .ref yo, .ref yk, .ref yt, .int mz, .ref yi, .ref yz, .ref yx, .ref yu, .int km, .int kr]))] sz) := by
  refine Met.ofW (cc := cX6_draw) (maxL := 2) (ret := (some .int)) (by decide) rfl ?_
  intro p e s m args below meth c s₁ B hml hv
  obtain ⟨rfl, hsz, hP, hK, hD0, hN⟩ := hv
  have hx := B.exec
  have hb := B.bytes
  have hr := B.returns
  have hts := atoms_spec (ws := wsX6_draw) B.pre
  have hown : s.vm.findClass RX6 = some m.cls := findClass_of_methodNamed B.named
  have hlocks := B.notSynchronized
  subst hsz
  have hD := hD0.self (sz := s.heap.size)
  generalize hAe : va_A [(y, .inr (6, [.ref yr, .int mq, .int mn, .ref yw, .ref yc, .int mc, .ref yl, .int me, .ref ys, .ref yp, .ref ym, .int md, .ref yo, .ref yk, .ref yt, .int mz, .ref yi, .ref yz, .ref yx, .ref yu, .int km, .int kr]))] s.heap.size = A at hD ⊢
  have hA : ∀ q : Nat, s.heap.size ≤ q → A q := fun q h => by rw [← hAe]; exact Or.inr h
  have hS : va_S A s.heap s.heap [] := va_S.rf
  have hP : va_P D vwCl [(y, .inr (6, [.ref yr, .int mq, .int mn, .ref yw, .ref yc, .int mc, .ref yl, .int me, .ref ys, .ref yp, .ref ym, .int md, .ref yo, .ref yk, .ref yt, .int mz, .ref yi, .ref yz, .ref yx, .ref yu, .int km, .int kr]))] s.heap := hP
  have hl := lv_entry ([.ref y, .int b9]) (n := 2) (Nat.le_of_ble_eq_true rfl)
  rw [lg_entry_eq]
  generalize (lg_sl ([.ref y, .int b9]) ++ List.replicate (2 - (lg_sl ([.ref y, .int b9])).length) Slot.unset).toArray = ls at hl ⊢
  have hl : lv_has ls 2 [(0, .ref y), (1, .int b9)] := hl
  refine lv_aload_n hx hb dX6_draw_0 rfl (lv_at hl 0 rfl) ?_
  refine lv_aload_n hx hb dX6_draw_1 rfl (lv_at hl 0 rfl) ?_
  refine va_get (D := D) (ci := 6) (v := .int mz) (C := RX6) (T := TX6) (N := 22) hx hb hts (in_X6_draw_X6) hown hK hP 0 rfl rfl 15 (by decide) (hts (.fieldLink RX6 195 "StepsRoundCircleModel" "drawn" "I") (by decide +kernel)) (fun _ h9 => h9) rfl dX6_draw_2 ?_
  refine lv_ldc (v := 1664525) hx hb hown (hts (.constant RX6 198 1664525) (by decide +kernel)) dX6_draw_5 ?_
  refine lv_imul hx hb dX6_draw_7 ?_
  refine lv_ldc (v := 1013904223) hx hb hown (hts (.constant RX6 199 1013904223) (by decide +kernel)) dX6_draw_8 ?_
  refine lv_iadd hx hb dX6_draw_10 ?_
  refine lv_topi (fun z_11 hz_11 => ?_)
  have hz_11 : z_11 = fseed mz := hz_11.trans rfl
  subst hz_11
  refine va_put (D := D) (ci := 6) (v := .int (fseed mz)) (ty := .int) (C := RX6) (T := TX6) (N := 22) hx hb hts (in_X6_draw_X6) tyX6 tyX6_ok nmX6 hown hK hP hD hS 0 rfl rfl 15 (by decide) (hts (.fieldLink RX6 195 "StepsRoundCircleModel" "drawn" "I") (by decide +kernel)) (fun _ h9 => h9) rfl (by decide +kernel) rfl rfl (Nat.le_of_ble_eq_true rfl) dX6_draw_11 (fun H locs hP hD hS => ?_)
  have hP : va_P D vwCl [(y, .inr (6, [.ref yr, .int mq, .int mn, .ref yw, .ref yc, .int mc, .ref yl, .int me, .ref ys, .ref yp, .ref ym, .int md, .ref yo, .ref yk, .ref yt, .int (fseed mz), .ref yi, .ref yz, .ref yx, .ref yu, .int km, .int kr]))] H := hP
  have hD : va_D A [(y, .inr (6, [.ref yr, .int mq, .int mn, .ref yw, .ref yc, .int mc, .ref yl, .int me, .ref ys, .ref yp, .ref ym, .int md, .ref yo, .ref yk, .ref yt, .int (fseed mz), .ref yi, .ref yz, .ref yx, .ref yu, .int km, .int kr]))] := hD
  refine lv_aload_n hx hb dX6_draw_14 rfl (lv_at hl 0 rfl) ?_
  refine va_get (D := D) (ci := 6) (v := .int (fseed mz)) (C := RX6) (T := TX6) (N := 22) hx hb hts (in_X6_draw_X6) hown hK hP 0 rfl rfl 15 (by decide) (hts (.fieldLink RX6 195 "StepsRoundCircleModel" "drawn" "I") (by decide +kernel)) (fun _ h9 => h9) rfl dX6_draw_15 ?_
  refine lv_ldc (v := 2147483647) hx hb hown (hts (.constant RX6 202 2147483647) (by decide +kernel)) dX6_draw_18 ?_
  refine lv_iand hx hb dX6_draw_20 ?_
  refine lv_sipush (v := 256) hx hb dX6_draw_21 (by decide) ?_
  refine lv_idiv hx hb dX6_draw_24 (by decide) ?_
  refine lv_iload_n hx hb dX6_draw_25 rfl (lv_at hl 1 rfl) ?_
  refine lv_irem hx hb dX6_draw_26 (by rw [hbB]; exact nI_ne0 hb0 (by omega)) ?_
  exact wrI (w1 := (fun (u : Int32) => [(y, .inr (6, [.ref yr, .int mq, .int mn, .ref yw, .ref yc, .int mc, .ref yl, .int me, .ref ys, .ref yp, .ref ym, .int md, .ref yo, .ref yk, .ref yt, .int u, .ref yi, .ref yz, .ref yx, .ref yu, .int km, .int kr]))])) (fseed mz) hx hb hr hlocks dX6_draw_27 hS (hP.sub [0] rfl) (hD.sub [0] (by decide) rfl) (⟨(draw_is hbB hb0 hb9).1, rfl⟩)
