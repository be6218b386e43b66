theorem in_X6_hasAll_X6 : ∀ w ∈ wsX60, w ∈ wsX6_hasAll := by decide +kernel
theorem in_X6_judge_X6 : ∀ w ∈ wsX60, w ∈ wsX6_judge := by decide +kernel
theorem in_X6_kinds_X6 : ∀ w ∈ wsX60, w ∈ wsX6_kinds := by decide +kernel
theorem in_X6_lays_X6 : ∀ w ∈ wsX60, w ∈ wsX6_lays := by decide +kernel
theorem in_X6_list_X6 : ∀ w ∈ wsX60, w ∈ wsX6_list := by decide +kernel
theorem in_X6_look_X6 : ∀ w ∈ wsX60, w ∈ wsX6_look := by decide +kernel
theorem in_X6_put_X6 : ∀ w ∈ wsX60, w ∈ wsX6_put := by decide +kernel
theorem in_X6_steps_X6 : ∀ w ∈ wsX60, w ∈ wsX6_steps := by decide +kernel
theorem in_X6_tellsPlaces_X6 : ∀ w ∈ wsX60, w ∈ wsX6_tellsPlaces := by decide +kernel
set_option maxHeartbeats 4000000 in
set_option maxRecDepth 100000 in
theorem c_X6_list (l : Launch) (D : va_G) (cI cZ cR : ClassId) (y yr yw yc yl ys yp ym yo yk yt yi yz yx yu : Nat) (mq mn mc me md mz km kr : Int32) (G : Nat → Int32) (iB iS iT : Nat → Int32) (li : Nat) (z : Int32) (f : Nat → Int32) (n : Int32) (hli : li < 3) (hls : lsR iB iS iT li z f) (sz : Nat) : Met l yX6_list wsX6_list ({ frames := 2, cells := 0, slots := 0, locals := 45 }) (PcW D cI cZ cR [.ref y, .int (nI li), .int n] [(y, .inr (6, [.ref yr, .int mq, .int mn, .ref yw, .ref yc, .int mc, .ref yl, .int me, .ref ys, .ref yp, .ref ym, .int md, .ref yo, .ref yk, .ref yt, .int mz, .ref yi, .ref yz, .ref yx, .ref yu, .int km, .int kr])), (yr, .inl (cI, 7, .inl G)), (yi, .inl (cZ, 3, .inl iB)), (yz, .inl (cI, 3, .inl iS)), (yx, .inl (cI, 120, .inl iT))] sz) (va_Qi (fun (res : Int32) (u : (Nat → Int32) × (Nat → Int32) × (Nat → Int32) × (Nat → Int32)) => res = (if rf_lis n = 0 then 1 else rf_lis n) ∧ u.1 = (if rf_lis n = 0 then G else md_bump G (rf_lis n)) ∧ lsR u.2.1 u.2.2.1 u.2.2.2 li (if rf_lis n = 0 then n else z) (if rf_lis n = 0 then (fun _ => 0) else f) ∧ lsK iB iS iT u.2.1 u.2.2.1 u.2.2.2 li) (Bw D (fun (u : (Nat → Int32) × (Nat → Int32) × (Nat → Int32) × (Nat → Int32)) => [(y, .inr (6, [.ref yr, .int mq, .int mn, .ref yw, .ref yc, .int mc, .ref yl, .int me, .ref ys, .ref yp, .ref ym, .int md, .ref yo, .ref yk, .ref yt, .int mz, .ref yi, .ref yz, .ref yx, .ref yu, .int km, .int kr])), (yr, .inl (cI, 7, .inl u.1)), (yi, .inl (cZ, 3, .inl u.2.1)), (yz, .inl (cI, 3, .inl u.2.2.1)), (yx, .inl (cI, 120, .inl u.2.2.2))]) (va_A [(y, .inr (6, [.ref yr, .int mq, .int mn, .ref yw, .ref yc, .int mc, .ref yl, .int me, .ref ys, .ref yp, .ref ym, .int md, .ref yo, .ref yk, .ref yt, .int mz, .ref yi, .ref yz, .ref yx, .ref yu, .int km, .int kr])), (yr, .inl (cI, 7, .inl G)), (yi, .inl (cZ, 3, .inl iB)), (yz, .inl (cI, 3, .inl iS)), (yx, .inl (cI, 120, .inl iT))] sz)) (va_A [(y, .inr (6, [.ref yr, .int mq, .int mn, .ref yw, .ref yc, .int mc, .ref yl, .int me, .ref ys, .ref yp, .ref ym, .int md, .ref yo, .ref yk, .ref yt, .int mz, .ref yi, .ref yz, .ref yx, .ref yu, .int km, .int kr])), (yr, .inl (cI, 7, .inl G)), (yi, .inl (cZ, 3, .inl iB)), (yz, .inl (cI, 3, .inl iS)), (yx, .inl (cI, 120, .inl iT))] sz)) 0 0 (va_A [(y, .inr (6, [.ref yr, .int mq, .int mn, .ref yw, .ref yc, .int mc, .ref yl, .int me, .ref ys, .ref yp, .ref ym, .int md, .ref yo, .ref yk, .ref yt, .int mz, .ref yi, .ref yz, .ref yx, .ref yu, .int km, .int kr])), (yr, .inl (cI, 7, .inl G)), (yi, .inl (cZ, 3, .inl iB)), (yz, .inl (cI, 3, .inl iS)), (yx, .inl (cI, 120, .inl iT))] sz) := by
  refine Met.ofW (cc := cX6_list) (maxL := 4) (ret := (some .int)) (by decide) rfl ?_
  intro p e s m args below meth c s₁ B hml hv
  obtain ⟨rfl, hsz, hP, hK, hD0, hN⟩ := hv
  have hx := B.exec
  have hb := B.bytes
  have hr := B.returns
  have hts := atoms_spec (ws := wsX6_list) B.pre
  have hown : s.vm.findClass RX6 = some m.cls := findClass_of_methodNamed B.named
  have hlocks := B.notSynchronized
  subst hsz
  have hD := hD0.self (sz := s.heap.size)
  generalize hAe : va_A [(y, .inr (6, [.ref yr, .int mq, .int mn, .ref yw, .ref yc, .int mc, .ref yl, .int me, .ref ys, .ref yp, .ref ym, .int md, .ref yo, .ref yk, .ref yt, .int mz, .ref yi, .ref yz, .ref yx, .ref yu, .int km, .int kr])), (yr, .inl (cI, 7, .inl G)), (yi, .inl (cZ, 3, .inl iB)), (yz, .inl (cI, 3, .inl iS)), (yx, .inl (cI, 120, .inl iT))] s.heap.size = A at hD ⊢
  have hA : ∀ q : Nat, s.heap.size ≤ q → A q := fun q h => by rw [← hAe]; exact Or.inr h
  have hS : va_S A s.heap s.heap [] := va_S.rf
  have hP : va_P D vwCl [(y, .inr (6, [.ref yr, .int mq, .int mn, .ref yw, .ref yc, .int mc, .ref yl, .int me, .ref ys, .ref yp, .ref ym, .int md, .ref yo, .ref yk, .ref yt, .int mz, .ref yi, .ref yz, .ref yx, .ref yu, .int km, .int kr])), (yr, .inl (cI, 7, .inl G)), (yi, .inl (cZ, 3, .inl iB)), (yz, .inl (cI, 3, .inl iS)), (yx, .inl (cI, 120, .inl iT))] s.heap := hP
  have hl := lv_entry ([.ref y, .int (nI li), .int n]) (n := 4) (Nat.le_of_ble_eq_true rfl)
  rw [lg_entry_eq]
  generalize (lg_sl ([.ref y, .int (nI li), .int n]) ++ List.replicate (4 - (lg_sl ([.ref y, .int (nI li), .int n])).length) Slot.unset).toArray = ls at hl ⊢
  have hl : lv_has ls 4 [(0, .ref y), (1, .int (nI li)), (2, .int n)] := hl
  refine lv_iload_n hx hb dX6_list_0 rfl (lv_at hl 1 rfl) ?_
  refine rdS (As := [.int (nI li)]) (rest := []) ⟨hx, hb, hml, hown, hts⟩ (c_X6_isList l D cI cZ cR (nI li) ) (va_cwS 1 hts gX6_list_X6_isList rfl rfl rfl (by decide +kernel) ⟨Nat.le_of_ble_eq_true rfl, Nat.le_of_ble_eq_true rfl⟩) hK hN hP [] rfl rfl hl.1 rfl (Nat.le_of_ble_eq_true rfl) dX6_list_1 ⟨Nat.zero_le _, Nat.zero_le _⟩ ?_
  refine lv_if_ne (tgt := 13) hx hb dX6_list_4 (by decide) (fun c_4 => ?_) (fun c_4 => ?_)
  · skip
    have c_4 := bi_ne0.mp c_4
    refine lv_iload_n hx hb dX6_list_13 rfl (lv_at hl 2 rfl) ?_
    refine lv_bipush (v := 40) hx hb dX6_list_14 (by decide) ?_
    refine lv_icmp_le (tgt := 26) hx hb dX6_list_16 (by decide) (fun c_16 => ?_) (fun c_16 => ?_)
    · skip
      refine lv_iload_n hx hb dX6_list_26 rfl (lv_at hl 2 rfl) ?_
      refine lv_if_ge (tgt := 33) hx hb dX6_list_27 (by decide) (fun c_27 => ?_) (fun c_27 => ?_)
      · skip
        refine lv_aload_n hx hb dX6_list_33 rfl (lv_at hl 0 rfl) ?_
        refine va_get (D := D) (ci := 6) (v := .ref yi) (C := RX6) (T := TX6) (N := 22) hx hb hts (in_X6_list_X6) hown hK hP 0 rfl rfl 16 (by decide) (hts (.fieldLink RX6 44 "StepsRoundCircleModel" "isThere" "[Z") (by decide +kernel)) (fun _ h9 => h9) rfl dX6_list_34 ?_
        refine lv_iload_n hx hb dX6_list_37 rfl (lv_at hl 1 rfl) ?_
        refine lv_iconst (v := 1) hx hb dX6_list_38 (by decide) ?_
        refine va_zast hx hb hK hP hD hS 2 1 rfl rfl (vp_in_nI hli (by omega)) dX6_list_39 (fun H locs hP hD hS => ?_)
        have hP : va_P D vwCl [(y, .inr (6, [.ref yr, .int mq, .int mn, .ref yw, .ref yc, .int mc, .ref yl, .int me, .ref ys, .ref yp, .ref ym, .int md, .ref yo, .ref yk, .ref yt, .int mz, .ref yi, .ref yz, .ref yx, .ref yu, .int km, .int kr])), (yr, .inl (cI, 7, .inl G)), (yi, .inl (cZ, 3, .inl (upd iB ((nI li).toNatClampNeg) (vp_nar .boolean 1)))), (yz, .inl (cI, 3, .inl iS)), (yx, .inl (cI, 120, .inl iT))] H := hP
        have hD : va_D A [(y, .inr (6, [.ref yr, .int mq, .int mn, .ref yw, .ref yc, .int mc, .ref yl, .int me, .ref ys, .ref yp, .ref ym, .int md, .ref yo, .ref yk, .ref yt, .int mz, .ref yi, .ref yz, .ref yx, .ref yu, .int km, .int kr])), (yr, .inl (cI, 7, .inl G)), (yi, .inl (cZ, 3, .inl (upd iB ((nI li).toNatClampNeg) (vp_nar .boolean 1)))), (yz, .inl (cI, 3, .inl iS)), (yx, .inl (cI, 120, .inl iT))] := hD
        refine lv_aload_n hx hb dX6_list_40 rfl (lv_at hl 0 rfl) ?_
        refine va_get (D := D) (ci := 6) (v := .ref yz) (C := RX6) (T := TX6) (N := 22) hx hb hts (in_X6_list_X6) hown hK hP 0 rfl rfl 17 (by decide) (hts (.fieldLink RX6 48 "StepsRoundCircleModel" "sizes" "[I") (by decide +kernel)) (fun _ h9 => h9) rfl dX6_list_41 ?_
        refine lv_iload_n hx hb dX6_list_44 rfl (lv_at hl 1 rfl) ?_
        refine lv_iload_n hx hb dX6_list_45 rfl (lv_at hl 2 rfl) ?_
        refine va_iast hx hb hK hP hD hS 3 0 rfl rfl (vp_in_nI hli (by omega)) dX6_list_46 (fun H locs hP hD hS => ?_)
        have hP : va_P D vwCl [(y, .inr (6, [.ref yr, .int mq, .int mn, .ref yw, .ref yc, .int mc, .ref yl, .int me, .ref ys, .ref yp, .ref ym, .int md, .ref yo, .ref yk, .ref yt, .int mz, .ref yi, .ref yz, .ref yx, .ref yu, .int km, .int kr])), (yr, .inl (cI, 7, .inl G)), (yi, .inl (cZ, 3, .inl (upd iB ((nI li).toNatClampNeg) (vp_nar .boolean 1)))), (yz, .inl (cI, 3, .inl (upd iS ((nI li).toNatClampNeg) n))), (yx, .inl (cI, 120, .inl iT))] H := hP
        have hD : va_D A [(y, .inr (6, [.ref yr, .int mq, .int mn, .ref yw, .ref yc, .int mc, .ref yl, .int me, .ref ys, .ref yp, .ref ym, .int md, .ref yo, .ref yk, .ref yt, .int mz, .ref yi, .ref yz, .ref yx, .ref yu, .int km, .int kr])), (yr, .inl (cI, 7, .inl G)), (yi, .inl (cZ, 3, .inl (upd iB ((nI li).toNatClampNeg) (vp_nar .boolean 1)))), (yz, .inl (cI, 3, .inl (upd iS ((nI li).toNatClampNeg) n))), (yx, .inl (cI, 120, .inl iT))] := hD
        refine lv_iconst (v := 0) hx hb dX6_list_47 (by decide) ?_
        refine lv_istore_n (lv' := [(3, .int 0), (0, .ref y), (1, .int (nI li)), (2, .int n)]) hx hb dX6_list_48 rfl hl (by decide) rfl (fun ls hl => ?_)
        have loop_49 : ∀ (fuel : Nat), ∀ (i : Nat), ∀ (g : Nat → Int32), (i ≤ 40) → (∀ k, k < i → g (40 * li + k) = 0) → (∀ j, (j < 40 * li ∨ 40 * li + 40 ≤ j) → g j = iT j) → (41 ≤ i + fuel) → ∀ (y3 : Int32), y3 = nI i → ∀ (H : Heap) (locs : List Loc), va_P D vwCl [(y, .inr (6, [.ref yr, .int mq, .int mn, .ref yw, .ref yc, .int mc, .ref yl, .int me, .ref ys, .ref yp, .ref ym, .int md, .ref yo, .ref yk, .ref yt, .int mz, .ref yi, .ref yz, .ref yx, .ref yu, .int km, .int kr])), (yr, .inl (cI, 7, .inl G)), (yi, .inl (cZ, 3, .inl (upd iB ((nI li).toNatClampNeg) (vp_nar .boolean 1)))), (yz, .inl (cI, 3, .inl (upd iS ((nI li).toNatClampNeg) n))), (yx, .inl (cI, 120, .inl g))] H → va_D A [(y, .inr (6, [.ref yr, .int mq, .int mn, .ref yw, .ref yc, .int mc, .ref yl, .int me, .ref ys, .ref yp, .ref ym, .int md, .ref yo, .ref yk, .ref yt, .int mz, .ref yi, .ref yz, .ref yx, .ref yu, .int km, .int kr])), (yr, .inl (cI, 7, .inl G)), (yi, .inl (cZ, 3, .inl (upd iB ((nI li).toNatClampNeg) (vp_nar .boolean 1)))), (yz, .inl (cI, 3, .inl (upd iS ((nI li).toNatClampNeg) n))), (yx, .inl (cI, 120, .inl g))] → va_S A s.heap H locs → ∀ (ls : Array Slot), lv_has ls 4 [(3, .int y3), (0, .ref y), (1, .int (nI li)), (2, .int n)] → W p l e (headSpec wsX6_list ({ frames := 2, cells := 0, slots := 0, locals := 45 })).room s m ([.ref y, .int (nI li), .int n] : List Value).toArray below meth c H locs 0 0 (MQ below (va_Qi (fun (res : Int32) (u : (Nat → Int32) × (Nat → Int32) × (Nat → Int32) × (Nat → Int32)) => res = (if rf_lis n = 0 then 1 else rf_lis n) ∧ u.1 = (if rf_lis n = 0 then G else md_bump G (rf_lis n)) ∧ lsR u.2.1 u.2.2.1 u.2.2.2 li (if rf_lis n = 0 then n else z) (if rf_lis n = 0 then (fun _ => 0) else f) ∧ lsK iB iS iT u.2.1 u.2.2.1 u.2.2.2 li) (Bw D (fun (u : (Nat → Int32) × (Nat → Int32) × (Nat → Int32) × (Nat → Int32)) => [(y, .inr (6, [.ref yr, .int mq, .int mn, .ref yw, .ref yc, .int mc, .ref yl, .int me, .ref ys, .ref yp, .ref ym, .int md, .ref yo, .ref yk, .ref yt, .int mz, .ref yi, .ref yz, .ref yx, .ref yu, .int km, .int kr])), (yr, .inl (cI, 7, .inl u.1)), (yi, .inl (cZ, 3, .inl u.2.1)), (yz, .inl (cI, 3, .inl u.2.2.1)), (yx, .inl (cI, 120, .inl u.2.2.2))]) A) A) ([.ref y, .int (nI li), .int n] : List Value).toArray s 0 0 A) (F0 m 49 ls []) := by
          intro fuel
          induction fuel with
          | zero =>
            intro i g hi hg hg2 hfu
            exact False.elim (by omega)
          | succ fuel ih_49 =>
            intro i g hi hg hg2 hfu y3 ey3 H locs hP hD hS ls hl
            subst ey3
            refine lv_iload_n hx hb dX6_list_49 rfl (lv_at hl 0 rfl) ?_
            refine lv_bipush (v := 40) hx hb dX6_list_50 (by decide) ?_
            refine lv_icmp_ge (tgt := 73) hx hb dX6_list_52 (by decide) (fun c_52 => ?_) (fun c_52 => ?_)
            · skip
              have hi40 : i = 40 := by have := (nI_leI (a := 40) (b := i) (by omega) (by omega)).mp c_52; omega
              refine lv_iconst (v := 1) hx hb dX6_list_73 (by decide) ?_
              exact wrI (w1 := (fun (u : (Nat → Int32) × (Nat → Int32) × (Nat → Int32) × (Nat → Int32)) => [(y, .inr (6, [.ref yr, .int mq, .int mn, .ref yw, .ref yc, .int mc, .ref yl, .int me, .ref ys, .ref yp, .ref ym, .int md, .ref yo, .ref yk, .ref yt, .int mz, .ref yi, .ref yz, .ref yx, .ref yu, .int km, .int kr])), (yr, .inl (cI, 7, .inl u.1)), (yi, .inl (cZ, 3, .inl u.2.1)), (yz, .inl (cI, 3, .inl u.2.2.1)), (yx, .inl (cI, 120, .inl u.2.2.2))])) (G, (upd iB ((nI li).toNatClampNeg) (vp_nar .boolean 1)), (upd iS ((nI li).toNatClampNeg) n), g) hx hb hr hlocks dX6_list_74 hS (hP.sub [0, 1, 2, 3, 4] rfl) (hD.sub [0, 1, 2, 3, 4] (by decide) rfl) (by have e9 : rf_lis n = 0 := (by unfold rf_lis; rw [if_neg (Int32.not_lt.mpr c_16), if_neg (Int32.not_lt.mpr c_27)]); rw [if_pos e9, if_pos e9, if_pos e9, if_pos e9]; dsimp only; refine ⟨rfl, rfl, Or.inr ⟨by rw [nI_clamp (by omega), pk_us]; decide, ⟨c_27, c_16⟩, by rw [nI_clamp (by omega), pk_us], fun k hk => hg k (by omega)⟩, lsK_of (fun j hj => by rw [nI_clamp (by omega), pk_un hj]) (fun j hj => by rw [nI_clamp (by omega), pk_un hj]) hg2⟩)
            · skip
              have hiN : i < 40 := by rcases Nat.lt_or_ge i 40 with q9 | q9; exact q9; exact absurd (nI_le q9 (by omega)) c_52
              refine lv_aload_n hx hb dX6_list_55 rfl (lv_at hl 1 rfl) ?_
              refine va_get (D := D) (ci := 6) (v := .ref yx) (C := RX6) (T := TX6) (N := 22) hx hb hts (in_X6_list_X6) hown hK hP 0 rfl rfl 18 (by decide) (hts (.fieldLink RX6 51 "StepsRoundCircleModel" "items" "[I") (by decide +kernel)) (fun _ h9 => h9) rfl dX6_list_56 ?_
              refine lv_bipush (v := 40) hx hb dX6_list_59 (by decide) ?_
              refine lv_iload_n hx hb dX6_list_61 rfl (lv_at hl 2 rfl) ?_
              refine lv_imul hx hb dX6_list_62 ?_
              refine lv_iload_n hx hb dX6_list_63 rfl (lv_at hl 0 rfl) ?_
              refine lv_iadd hx hb dX6_list_64 ?_
              refine lv_topi (fun z_65 hz_65 => ?_)
              have hz_65 : (nI (40 * li + i)) = z_65 := (hz_65.trans (ixN li i)).symm
              subst hz_65
              refine lv_iconst (v := 0) hx hb dX6_list_65 (by decide) ?_
              refine va_iast hx hb hK hP hD hS 4 0 rfl rfl (vp_in_nI (by omega) (by omega)) dX6_list_66 (fun H locs hP hD hS => ?_)
              have hP : va_P D vwCl [(y, .inr (6, [.ref yr, .int mq, .int mn, .ref yw, .ref yc, .int mc, .ref yl, .int me, .ref ys, .ref yp, .ref ym, .int md, .ref yo, .ref yk, .ref yt, .int mz, .ref yi, .ref yz, .ref yx, .ref yu, .int km, .int kr])), (yr, .inl (cI, 7, .inl G)), (yi, .inl (cZ, 3, .inl (upd iB ((nI li).toNatClampNeg) (vp_nar .boolean 1)))), (yz, .inl (cI, 3, .inl (upd iS ((nI li).toNatClampNeg) n))), (yx, .inl (cI, 120, .inl (upd g ((nI (40 * li + i)).toNatClampNeg) 0)))] H := hP
              have hD : va_D A [(y, .inr (6, [.ref yr, .int mq, .int mn, .ref yw, .ref yc, .int mc, .ref yl, .int me, .ref ys, .ref yp, .ref ym, .int md, .ref yo, .ref yk, .ref yt, .int mz, .ref yi, .ref yz, .ref yx, .ref yu, .int km, .int kr])), (yr, .inl (cI, 7, .inl G)), (yi, .inl (cZ, 3, .inl (upd iB ((nI li).toNatClampNeg) (vp_nar .boolean 1)))), (yz, .inl (cI, 3, .inl (upd iS ((nI li).toNatClampNeg) n))), (yx, .inl (cI, 120, .inl (upd g ((nI (40 * li + i)).toNatClampNeg) 0)))] := hD
              refine lv_iinc (v := (nI i) + 1) (lv' := [(3, .int ((nI i) + 1)), (0, .ref y), (1, .int (nI li)), (2, .int n)]) hx hb dX6_list_67 hl (k := 0) rfl (by rfl) (by decide) rfl (fun ls hl => ?_)
              refine lv_goto (tgt := 49) hx hb dX6_list_70 (by decide) ?_
              exact ih_49 (i + 1) (upd g ((nI (40 * li + i)).toNatClampNeg) 0) (by omega) (by intro k hk; rw [nI_clamp (by omega)]; by_cases e9 : k = i; (· subst e9; exact pk_us); (· rw [pk_un (by omega)]; exact hg k (by omega))) (by intro j hj; rw [nI_clamp (by omega), pk_un (by omega)]; exact hg2 j hj) (by omega) _ (by first | rfl | exact nI_1 _ | exact nI_0.symm) _ _ (hP.sub [0, 1, 2, 3, 4] rfl) (hD.sub [0, 1, 2, 3, 4] (by decide) rfl) hS ls (lv_sub hl [0, 1, 2, 3] rfl)
        exact loop_49 41 0 iT (by omega) (fun j hj => absurd hj (Nat.not_lt_zero j)) (fun j hj => rfl) (by omega) _ (by first | rfl | exact nI_1 _ | exact nI_0.symm) _ _ (hP.sub [0, 1, 2, 3, 4] rfl) (hD.sub [0, 1, 2, 3, 4] (by decide) rfl) hS ls (lv_sub hl [0, 1, 2, 3] rfl)
      · skip
        refine lv_bipush (v := (-14)) hx hb dX6_list_30 (by decide) ?_
        exact wrI (w1 := (fun (u : (Nat → Int32) × (Nat → Int32) × (Nat → Int32) × (Nat → Int32)) => [(y, .inr (6, [.ref yr, .int mq, .int mn, .ref yw, .ref yc, .int mc, .ref yl, .int me, .ref ys, .ref yp, .ref ym, .int md, .ref yo, .ref yk, .ref yt, .int mz, .ref yi, .ref yz, .ref yx, .ref yu, .int km, .int kr])), (yr, .inl (cI, 7, .inl u.1)), (yi, .inl (cZ, 3, .inl u.2.1)), (yz, .inl (cI, 3, .inl u.2.2.1)), (yx, .inl (cI, 120, .inl u.2.2.2))])) (G, iB, iS, iT) hx hb hr hlocks dX6_list_32 hS (hP.sub [0, 1, 2, 3, 4] rfl) (hD.sub [0, 1, 2, 3, 4] (by decide) rfl) (by have e9 : rf_lis n = -14 := (by unfold rf_lis; rw [if_neg (Int32.not_lt.mpr c_16), if_pos (Int32.not_le.mp c_27)]); have e8 : ¬ rf_lis n = 0 := (by rw [e9]; decide); simp only [if_neg e8]; exact ⟨e9.symm, (by rw [e9, bmm_14]), hls, lsK_rf _ _ _ _⟩)
    · skip
      refine lv_aload_n hx hb dX6_list_19 rfl (lv_at hl 0 rfl) ?_
      refine lv_bipush (v := (-6)) hx hb dX6_list_20 (by decide) ?_
      refine wrVi (As := [.int (-6)]) (rest := []) (wr := [(yi, .inl (cZ, 3, .inl iB)), (yz, .inl (cI, 3, .inl iS)), (yx, .inl (cI, 120, .inl iT))]) (A := A) ⟨hx, hb, hml, hown, hts⟩ (c_X6_no l D cI cZ cR y yr yw yc yl ys yp ym yo yk yt yi yz yx yu mq mn mc me md mz km kr G (-6) (by decide) s.heap.size) (cwV 1 hts gX6_list_X6_no rfl rfl rfl (by decide +kernel) ⟨Nat.le_of_ble_eq_true rfl, Nat.le_of_ble_eq_true rfl⟩) hK hN hP hD hS hA 0 6 rfl rfl rfl [0, 1] [2, 3, 4] rfl (by decide) rfl (by decide) (by decide) rfl hl.1 rfl (Nat.le_of_ble_eq_true rfl) dX6_list_22 ⟨Nat.zero_le _, Nat.zero_le _⟩ (fun r_22 u H locs hw hP hD hS => ?_)
      obtain ⟨G_22, rfl⟩ : ∃ z, z = u := ⟨_, rfl⟩
      try dsimp only at hw
      obtain ⟨q1_22, q2_22⟩ := hw
      have q1_22 := q1_22.symm
      subst q1_22
      have q2_22 := q2_22.symm
      subst q2_22
      have hP : va_P D vwCl [(y, .inr (6, [.ref yr, .int mq, .int mn, .ref yw, .ref yc, .int mc, .ref yl, .int me, .ref ys, .ref yp, .ref ym, .int md, .ref yo, .ref yk, .ref yt, .int mz, .ref yi, .ref yz, .ref yx, .ref yu, .int km, .int kr])), (yr, .inl (cI, 7, .inl (md_bump G (-6)))), (yi, .inl (cZ, 3, .inl iB)), (yz, .inl (cI, 3, .inl iS)), (yx, .inl (cI, 120, .inl iT))] H := hP.sub [3, 4, 0, 1, 2] rfl
      have hD : va_D A [(y, .inr (6, [.ref yr, .int mq, .int mn, .ref yw, .ref yc, .int mc, .ref yl, .int me, .ref ys, .ref yp, .ref ym, .int md, .ref yo, .ref yk, .ref yt, .int mz, .ref yi, .ref yz, .ref yx, .ref yu, .int km, .int kr])), (yr, .inl (cI, 7, .inl (md_bump G (-6)))), (yi, .inl (cZ, 3, .inl iB)), (yz, .inl (cI, 3, .inl iS)), (yx, .inl (cI, 120, .inl iT))] := hD.sub [3, 4, 0, 1, 2] (by decide) rfl
      exact wrI (w1 := (fun (u : (Nat → Int32) × (Nat → Int32) × (Nat → Int32) × (Nat → Int32)) => [(y, .inr (6, [.ref yr, .int mq, .int mn, .ref yw, .ref yc, .int mc, .ref yl, .int me, .ref ys, .ref yp, .ref ym, .int md, .ref yo, .ref yk, .ref yt, .int mz, .ref yi, .ref yz, .ref yx, .ref yu, .int km, .int kr])), (yr, .inl (cI, 7, .inl u.1)), (yi, .inl (cZ, 3, .inl u.2.1)), (yz, .inl (cI, 3, .inl u.2.2.1)), (yx, .inl (cI, 120, .inl u.2.2.2))])) ((md_bump G (-6)), iB, iS, iT) hx hb hr hlocks dX6_list_25 hS (hP.sub [0, 1, 2, 3, 4] rfl) (hD.sub [0, 1, 2, 3, 4] (by decide) rfl) (by have e9 : rf_lis n = -6 := (by unfold rf_lis; rw [if_pos (Int32.not_le.mp c_16)]); have e8 : ¬ rf_lis n = 0 := (by rw [e9]; decide); simp only [if_neg e8]; exact ⟨e9.symm, (by rw [e9]), hls, lsK_rf _ _ _ _⟩)
  · skip
    have c_4 := bi_eq0.mp c_4
    exact False.elim (c_4 ⟨nI_pos' (by omega), nI_lt (b := 3) hli (by omega)⟩)

set_option maxHeartbeats 4000000 in
set_option maxRecDepth 100000 in
theorem c_X6_put (l : Launch) (D : va_G) (cI cZ cR : ClassId) (y yr yw yc yl ys yp ym yo yk yt yi yz yx yu : Nat) (mq mn mc me md mz km kr : Int32) (iB iS iT : Nat → Int32) (li : Nat) (z : Int32) (f : Nat → Int32) (i x0 : Int32) (hli : li < 3) (hls : lsR iB iS iT li z f) (sz : Nat) : Met l yX6_put wsX6_put ({ frames := 2, cells := 0, slots := 0, locals := 45 }) (PcW D cI cZ cR [.ref y, .int (nI li), .int i, .int x0] [(y, .inr (6, [.ref yr, .int mq, .int mn, .ref yw, .ref yc, .int mc, .ref yl, .int me, .ref ys, .ref yp, .ref ym, .int md, .ref yo, .ref yk, .ref yt, .int mz, .ref yi, .ref yz, .ref yx, .ref yu, .int km, .int kr])), (yi, .inl (cZ, 3, .inl iB)), (yz, .inl (cI, 3, .inl iS)), (yx, .inl (cI, 120, .inl iT))] sz) (va_Qi (fun (res : Int32) (u : (Nat → Int32)) => res = (if rf_put z i = 0 then 1 else rf_put z i) ∧ lsR iB iS u li z (if rf_put z i = 0 then rw_set z f i x0 else f) ∧ lsK iB iS iT iB iS u li) (Bw D (fun (u : (Nat → Int32)) => [(y, .inr (6, [.ref yr, .int mq, .int mn, .ref yw, .ref yc, .int mc, .ref yl, .int me, .ref ys, .ref yp, .ref ym, .int md, .ref yo, .ref yk, .ref yt, .int mz, .ref yi, .ref yz, .ref yx, .ref yu, .int km, .int kr])), (yi, .inl (cZ, 3, .inl iB)), (yz, .inl (cI, 3, .inl iS)), (yx, .inl (cI, 120, .inl u))]) (va_A [(y, .inr (6, [.ref yr, .int mq, .int mn, .ref yw, .ref yc, .int mc, .ref yl, .int me, .ref ys, .ref yp, .ref ym, .int md, .ref yo, .ref yk, .ref yt, .int mz, .ref yi, .ref yz, .ref yx, .ref yu, .int km, .int kr])), (yi, .inl (cZ, 3, .inl iB)), (yz, .inl (cI, 3, .inl iS)), (yx, .inl (cI, 120, .inl iT))] sz)) (va_A [(y, .inr (6, [.ref yr, .int mq, .int mn, .ref yw, .ref yc, .int mc, .ref yl, .int me, .ref ys, .ref yp, .ref ym, .int md, .ref yo, .ref yk, .ref yt, .int mz, .ref yi, .ref yz, .ref yx, .ref yu, .int km, .int kr])), (yi, .inl (cZ, 3, .inl iB)), (yz, .inl (cI, 3, .inl iS)), (yx, .inl (cI, 120, .inl iT))] sz)) 0 0 (va_A [(y, .inr (6, [.ref yr, .int mq, .int mn, .ref yw, .ref yc, .int mc, .ref yl, .int me, .ref ys, .ref yp, .ref ym, .int md, .ref yo, .ref yk, .ref yt, .int mz, .ref yi, .ref yz, .ref yx, .ref yu, .int km, .int kr])), (yi, .inl (cZ, 3, .inl iB)), (yz, .inl (cI, 3, .inl iS)), (yx, .inl (cI, 120, .inl iT))] sz) := by
  refine Met.ofW (cc := cX6_put) (maxL := 4) (ret := (some .int)) (by decide) rfl ?_
  intro p e s m args below meth c s₁ B hml hv
  obtain ⟨rfl, hsz, hP, hK, hD0, hN⟩ := hv
  have hx := B.exec
  have hb := B.bytes
  have hr := B.returns
  have hts := atoms_spec (ws := wsX6_put) B.pre
  have hown : s.vm.findClass RX6 = some m.cls := findClass_of_methodNamed B.named
  have hlocks := B.notSynchronized
  subst hsz
  have hD := hD0.self (sz := s.heap.size)
  generalize hAe : va_A [(y, .inr (6, [.ref yr, .int mq, .int mn, .ref yw, .ref yc, .int mc, .ref yl, .int me, .ref ys, .ref yp, .ref ym, .int md, .ref yo, .ref yk, .ref yt, .int mz, .ref yi, .ref yz, .ref yx, .ref yu, .int km, .int kr])), (yi, .inl (cZ, 3, .inl iB)), (yz, .inl (cI, 3, .inl iS)), (yx, .inl (cI, 120, .inl iT))] s.heap.size = A at hD ⊢
  have hA : ∀ q : Nat, s.heap.size ≤ q → A q := fun q h => by rw [← hAe]; exact Or.inr h
  have hS : va_S A s.heap s.heap [] := va_S.rf
  have hP : va_P D vwCl [(y, .inr (6, [.ref yr, .int mq, .int mn, .ref yw, .ref yc, .int mc, .ref yl, .int me, .ref ys, .ref yp, .ref ym, .int md, .ref yo, .ref yk, .ref yt, .int mz, .ref yi, .ref yz, .ref yx, .ref yu, .int km, .int kr])), (yi, .inl (cZ, 3, .inl iB)), (yz, .inl (cI, 3, .inl iS)), (yx, .inl (cI, 120, .inl iT))] s.heap := hP
  have hl := lv_entry ([.ref y, .int (nI li), .int i, .int x0]) (n := 4) (Nat.le_of_ble_eq_true rfl)
  rw [lg_entry_eq]
  generalize (lg_sl ([.ref y, .int (nI li), .int i, .int x0]) ++ List.replicate (4 - (lg_sl ([.ref y, .int (nI li), .int i, .int x0])).length) Slot.unset).toArray = ls at hl ⊢
  have hl : lv_has ls 4 [(0, .ref y), (1, .int (nI li)), (2, .int i), (3, .int x0)] := hl
  refine lv_iload_n hx hb dX6_put_0 rfl (lv_at hl 1 rfl) ?_
  refine rdS (As := [.int (nI li)]) (rest := []) ⟨hx, hb, hml, hown, hts⟩ (c_X6_isList l D cI cZ cR (nI li) ) (va_cwS 1 hts gX6_put_X6_isList rfl rfl rfl (by decide +kernel) ⟨Nat.le_of_ble_eq_true rfl, Nat.le_of_ble_eq_true rfl⟩) hK hN hP [] rfl rfl hl.1 rfl (Nat.le_of_ble_eq_true rfl) dX6_put_1 ⟨Nat.zero_le _, Nat.zero_le _⟩ ?_
  refine lv_if_ne (tgt := 13) hx hb dX6_put_4 (by decide) (fun c_4 => ?_) (fun c_4 => ?_)
  · skip
    have c_4 := bi_ne0.mp c_4
    refine lv_aload_n hx hb dX6_put_13 rfl (lv_at hl 0 rfl) ?_
    refine va_get (D := D) (ci := 6) (v := .ref yi) (C := RX6) (T := TX6) (N := 22) hx hb hts (in_X6_put_X6) hown hK hP 0 rfl rfl 16 (by decide) (hts (.fieldLink RX6 44 "StepsRoundCircleModel" "isThere" "[Z") (by decide +kernel)) (fun _ h9 => h9) rfl dX6_put_14 ?_
    refine lv_iload_n hx hb dX6_put_17 rfl (lv_at hl 1 rfl) ?_
    refine va_zald hx hb hK hP 1 1 rfl rfl (vp_in_nI hli (by omega)) dX6_put_18 ?_
    refine lv_topi (fun z_19 hz_19 => ?_)
    have hz_19 : (iB li) = z_19 := (hz_19.trans (by rw [nI_clamp (by omega)])).symm
    subst hz_19
    refine lv_if_ne (tgt := 25) hx hb dX6_put_19 (by decide) (fun c_19 => ?_) (fun c_19 => ?_)
    · skip
      have hy := ls_yes hls c_19
      have hz0 := hy.1.1
      have hz4 := z40 hy.1.2
      refine lv_iload_n hx hb dX6_put_25 rfl (lv_at hl 2 rfl) ?_
      refine lv_i2l hx hb dX6_put_26 rfl ?_
      refine lv_lconst (v := 0) hx hb dX6_put_27 (by decide) ?_
      refine lv_aload_n hx hb dX6_put_28 rfl (lv_at hl 0 rfl) ?_
      refine va_get (D := D) (ci := 6) (v := .ref yz) (C := RX6) (T := TX6) (N := 22) hx hb hts (in_X6_put_X6) hown hK hP 0 rfl rfl 17 (by decide) (hts (.fieldLink RX6 48 "StepsRoundCircleModel" "sizes" "[I") (by decide +kernel)) (fun _ h9 => h9) rfl dX6_put_29 ?_
      refine lv_iload_n hx hb dX6_put_32 rfl (lv_at hl 1 rfl) ?_
      refine va_iald hx hb hK hP 2 0 rfl rfl (vp_in_nI hli (by omega)) dX6_put_33 ?_
      refine lv_topi (fun z_34 hz_34 => ?_)
      have hz_34 : z = z_34 := (hz_34.trans (by rw [nI_clamp (by omega)]; exact hy.2.1)).symm
      subst hz_34
      refine lv_iconst (v := 1) hx hb dX6_put_34 (by decide) ?_
      refine lv_isub hx hb dX6_put_35 ?_
      refine lv_i2l hx hb dX6_put_36 rfl ?_
      refine rdS (As := [.long i.toInt64, .long 0, .long ((z - 1).toInt64)]) (rest := []) ⟨hx, hb, hml, hown, hts⟩ (c_X6_in l D cI cZ cR i.toInt64 0 ((z - 1).toInt64) ) (va_cwS 3 hts gX6_put_X6_in rfl rfl rfl (by decide +kernel) ⟨Nat.le_of_ble_eq_true rfl, Nat.le_of_ble_eq_true rfl⟩) hK hN hP [] rfl rfl hl.1 rfl (Nat.le_of_ble_eq_true rfl) dX6_put_37 ⟨Nat.zero_le _, Nat.zero_le _⟩ ?_
      refine lv_if_ne (tgt := 46) hx hb dX6_put_40 (by decide) (fun c_40 => ?_) (fun c_40 => ?_)
      · skip
        have c_40 := bi_ne0.mp c_40
        have hh := (rw_is hy.1.2).mp ((isw hz0).mp c_40)
        have hhN := rw_has_N hh
        refine lv_aload_n hx hb dX6_put_46 rfl (lv_at hl 0 rfl) ?_
        refine va_get (D := D) (ci := 6) (v := .ref yx) (C := RX6) (T := TX6) (N := 22) hx hb hts (in_X6_put_X6) hown hK hP 0 rfl rfl 18 (by decide) (hts (.fieldLink RX6 51 "StepsRoundCircleModel" "items" "[I") (by decide +kernel)) (fun _ h9 => h9) rfl dX6_put_47 ?_
        refine lv_bipush (v := 40) hx hb dX6_put_50 (by decide) ?_
        refine lv_iload_n hx hb dX6_put_52 rfl (lv_at hl 1 rfl) ?_
        refine lv_imul hx hb dX6_put_53 ?_
        refine lv_iload_n hx hb dX6_put_54 rfl (lv_at hl 2 rfl) ?_
        refine lv_iadd hx hb dX6_put_55 ?_
        refine lv_topi (fun z_56 hz_56 => ?_)
        have hz_56 : (nI (40 * li + i.toNatClampNeg)) = z_56 := (hz_56.trans (ixI li hhN.1)).symm
        subst hz_56
        refine lv_iload_n hx hb dX6_put_56 rfl (lv_at hl 3 rfl) ?_
        refine va_iast hx hb hK hP hD hS 3 0 rfl rfl (vp_in_nI (by omega) (by omega)) dX6_put_57 (fun H locs hP hD hS => ?_)
        have hP : va_P D vwCl [(y, .inr (6, [.ref yr, .int mq, .int mn, .ref yw, .ref yc, .int mc, .ref yl, .int me, .ref ys, .ref yp, .ref ym, .int md, .ref yo, .ref yk, .ref yt, .int mz, .ref yi, .ref yz, .ref yx, .ref yu, .int km, .int kr])), (yi, .inl (cZ, 3, .inl iB)), (yz, .inl (cI, 3, .inl iS)), (yx, .inl (cI, 120, .inl (upd iT ((nI (40 * li + i.toNatClampNeg)).toNatClampNeg) x0)))] H := hP
        have hD : va_D A [(y, .inr (6, [.ref yr, .int mq, .int mn, .ref yw, .ref yc, .int mc, .ref yl, .int me, .ref ys, .ref yp, .ref ym, .int md, .ref yo, .ref yk, .ref yt, .int mz, .ref yi, .ref yz, .ref yx, .ref yu, .int km, .int kr])), (yi, .inl (cZ, 3, .inl iB)), (yz, .inl (cI, 3, .inl iS)), (yx, .inl (cI, 120, .inl (upd iT ((nI (40 * li + i.toNatClampNeg)).toNatClampNeg) x0)))] := hD
        refine lv_iconst (v := 1) hx hb dX6_put_58 (by decide) ?_
        exact wrI (w1 := (fun (u : (Nat → Int32)) => [(y, .inr (6, [.ref yr, .int mq, .int mn, .ref yw, .ref yc, .int mc, .ref yl, .int me, .ref ys, .ref yp, .ref ym, .int md, .ref yo, .ref yk, .ref yt, .int mz, .ref yi, .ref yz, .ref yx, .ref yu, .int km, .int kr])), (yi, .inl (cZ, 3, .inl iB)), (yz, .inl (cI, 3, .inl iS)), (yx, .inl (cI, 120, .inl u))])) (upd iT ((nI (40 * li + i.toNatClampNeg)).toNatClampNeg) x0) hx hb hr hlocks dX6_put_59 hS (hP.sub [0, 1, 2, 3] rfl) (hD.sub [0, 1, 2, 3] (by decide) rfl) (by have e9 : rf_put z i = 0 := (by unfold rf_put; rw [if_neg (z_m1 hz0), if_pos hh]); rw [if_pos e9, if_pos e9, nI_clamp (by omega)]; exact ⟨rfl, ls_put c_19 hy hh, lsK_T (fun j hj => pk_un (by omega))⟩)
      · skip
        have c_40 := bi_eq0.mp c_40
        refine lv_bipush (v := (-13)) hx hb dX6_put_43 (by decide) ?_
        exact wrI (w1 := (fun (u : (Nat → Int32)) => [(y, .inr (6, [.ref yr, .int mq, .int mn, .ref yw, .ref yc, .int mc, .ref yl, .int me, .ref ys, .ref yp, .ref ym, .int md, .ref yo, .ref yk, .ref yt, .int mz, .ref yi, .ref yz, .ref yx, .ref yu, .int km, .int kr])), (yi, .inl (cZ, 3, .inl iB)), (yz, .inl (cI, 3, .inl iS)), (yx, .inl (cI, 120, .inl u))])) iT hx hb hr hlocks dX6_put_45 hS (hP.sub [0, 1, 2, 3] rfl) (hD.sub [0, 1, 2, 3] (by decide) rfl) (by have e9 : rf_put z i = -13 := (by unfold rf_put; rw [if_neg (z_m1 hz0), if_neg (fun z9 => c_40 ((isw hz0).mpr ((rw_is hy.1.2).mpr z9)))]); have e8 : ¬ rf_put z i = 0 := (by rw [e9]; decide); simp only [if_neg e8]; exact ⟨e9.symm, hls, lsK_rf _ _ _ _⟩)
    · skip
      refine lv_bipush (v := (-11)) hx hb dX6_put_22 (by decide) ?_
      exact wrI (w1 := (fun (u : (Nat → Int32)) => [(y, .inr (6, [.ref yr, .int mq, .int mn, .ref yw, .ref yc, .int mc, .ref yl, .int me, .ref ys, .ref yp, .ref ym, .int md, .ref yo, .ref yk, .ref yt, .int mz, .ref yi, .ref yz, .ref yx, .ref yu, .int km, .int kr])), (yi, .inl (cZ, 3, .inl iB)), (yz, .inl (cI, 3, .inl iS)), (yx, .inl (cI, 120, .inl u))])) iT hx hb hr hlocks dX6_put_24 hS (hP.sub [0, 1, 2, 3] rfl) (hD.sub [0, 1, 2, 3] (by decide) rfl) (by have e9 : rf_put z i = -11 := (by unfold rf_put; rw [if_pos (ls_no hls c_19)]); have e8 : ¬ rf_put z i = 0 := (by rw [e9]; decide); simp only [if_neg e8]; exact ⟨e9.symm, hls, lsK_rf _ _ _ _⟩)
  · skip
    have c_4 := bi_eq0.mp c_4
    exact False.elim (c_4 ⟨nI_pos' (by omega), nI_lt (b := 3) hli (by omega)⟩)

set_option maxHeartbeats 4000000 in
set_option maxRecDepth 100000 in
theorem c_X6_look (l : Launch) (D : va_G) (cI cZ cR : ClassId) (y yr yw yc yl ys yp ym yo yk yt yi yz yx yu : Nat) (mq mn mc me md mz km kr : Int32) (G : Nat → Int32) (iB iS iT : Nat → Int32) (li : Nat) (z : Int32) (f : Nat → Int32) (i : Int32) (hli : li < 3) (hls : lsR iB iS iT li z f) (sz : Nat) : Met l yX6_look wsX6_look ({ frames := 2, cells := 0, slots := 0, locals := 45 }) (PcW D cI cZ cR [.ref y, .int (nI li), .int i] [(y, .inr (6, [.ref yr, .int mq, .int mn, .ref yw, .ref yc, .int mc, .ref yl, .int me, .ref ys, .ref yp, .ref ym, .int md, .ref yo, .ref yk, .ref yt, .int mz, .ref yi, .ref yz, .ref yx, .ref yu, .int km, .int kr])), (yr, .inl (cI, 7, .inl G)), (yi, .inl (cZ, 3, .inl iB)), (yz, .inl (cI, 3, .inl iS)), (yx, .inl (cI, 120, .inl iT))] sz) (va_Ql (fun (res : Int64) (u : (Nat → Int32)) => res = (if rf_put z i = 0 then (rw_get z f i).toInt64 else 4000000000000000000 - (rf_put z i).toInt64) ∧ u = G) (Bw D (fun (u : (Nat → Int32)) => [(y, .inr (6, [.ref yr, .int mq, .int mn, .ref yw, .ref yc, .int mc, .ref yl, .int me, .ref ys, .ref yp, .ref ym, .int md, .ref yo, .ref yk, .ref yt, .int mz, .ref yi, .ref yz, .ref yx, .ref yu, .int km, .int kr])), (yr, .inl (cI, 7, .inl u)), (yi, .inl (cZ, 3, .inl iB)), (yz, .inl (cI, 3, .inl iS)), (yx, .inl (cI, 120, .inl iT))]) (va_A [(y, .inr (6, [.ref yr, .int mq, .int mn, .ref yw, .ref yc, .int mc, .ref yl, .int me, .ref ys, .ref yp, .ref ym, .int md, .ref yo, .ref yk, .ref yt, .int mz, .ref yi, .ref yz, .ref yx, .ref yu, .int km, .int kr])), (yr, .inl (cI, 7, .inl G)), (yi, .inl (cZ, 3, .inl iB)), (yz, .inl (cI, 3, .inl iS)), (yx, .inl (cI, 120, .inl iT))] sz)) (va_A [(y, .inr (6, [.ref yr, .int mq, .int mn, .ref yw, .ref yc, .int mc, .ref yl, .int me, .ref ys, .ref yp, .ref ym, .int md, .ref yo, .ref yk, .ref yt, .int mz, .ref yi, .ref yz, .ref yx, .ref yu, .int km, .int kr])), (yr, .inl (cI, 7, .inl G)), (yi, .inl (cZ, 3, .inl iB)), (yz, .inl (cI, 3, .inl iS)), (yx, .inl (cI, 120, .inl iT))] sz)) 0 0 (va_A [(y, .inr (6, [.ref yr, .int mq, .int mn, .ref yw, .ref yc, .int mc, .ref yl, .int me, .ref ys, .ref yp, .ref ym, .int md, .ref yo, .ref yk, .ref yt, .int mz, .ref yi, .ref yz, .ref yx, .ref yu, .int km, .int kr])), (yr, .inl (cI, 7, .inl G)), (yi, .inl (cZ, 3, .inl iB)), (yz, .inl (cI, 3, .inl iS)), (yx, .inl (cI, 120, .inl iT))] sz) := by
  refine Met.ofW (cc := cX6_look) (maxL := 3) (ret := (some .long)) (by decide) rfl ?_
  intro p e s m args below meth c s₁ B hml hv
  obtain ⟨rfl, hsz, hP, hK, hD0, hN⟩ := hv
  have hx := B.exec
  have hb := B.bytes
  have hr := B.returns
  have hts := atoms_spec (ws := wsX6_look) B.pre
  have hown : s.vm.findClass RX6 = some m.cls := findClass_of_methodNamed B.named
  have hlocks := B.notSynchronized
  subst hsz
  have hD := hD0.self (sz := s.heap.size)
  generalize hAe : va_A [(y, .inr (6, [.ref yr, .int mq, .int mn, .ref yw, .ref yc, .int mc, .ref yl, .int me, .ref ys, .ref yp, .ref ym, .int md, .ref yo, .ref yk, .ref yt, .int mz, .ref yi, .ref yz, .ref yx, .ref yu, .int km, .int kr])), (yr, .inl (cI, 7, .inl G)), (yi, .inl (cZ, 3, .inl iB)), (yz, .inl (cI, 3, .inl iS)), (yx, .inl (cI, 120, .inl iT))] s.heap.size = A at hD ⊢
  have hA : ∀ q : Nat, s.heap.size ≤ q → A q := fun q h => by rw [← hAe]; exact Or.inr h
  have hS : va_S A s.heap s.heap [] := va_S.rf
  have hP : va_P D vwCl [(y, .inr (6, [.ref yr, .int mq, .int mn, .ref yw, .ref yc, .int mc, .ref yl, .int me, .ref ys, .ref yp, .ref ym, .int md, .ref yo, .ref yk, .ref yt, .int mz, .ref yi, .ref yz, .ref yx, .ref yu, .int km, .int kr])), (yr, .inl (cI, 7, .inl G)), (yi, .inl (cZ, 3, .inl iB)), (yz, .inl (cI, 3, .inl iS)), (yx, .inl (cI, 120, .inl iT))] s.heap := hP
  have hl := lv_entry ([.ref y, .int (nI li), .int i]) (n := 3) (Nat.le_of_ble_eq_true rfl)
  rw [lg_entry_eq]
  generalize (lg_sl ([.ref y, .int (nI li), .int i]) ++ List.replicate (3 - (lg_sl ([.ref y, .int (nI li), .int i])).length) Slot.unset).toArray = ls at hl ⊢
  have hl : lv_has ls 3 [(0, .ref y), (1, .int (nI li)), (2, .int i)] := hl
  refine lv_iload_n hx hb dX6_look_0 rfl (lv_at hl 1 rfl) ?_
  refine rdS (As := [.int (nI li)]) (rest := []) ⟨hx, hb, hml, hown, hts⟩ (c_X6_isList l D cI cZ cR (nI li) ) (va_cwS 1 hts gX6_look_X6_isList rfl rfl rfl (by decide +kernel) ⟨Nat.le_of_ble_eq_true rfl, Nat.le_of_ble_eq_true rfl⟩) hK hN hP [] rfl rfl hl.1 rfl (Nat.le_of_ble_eq_true rfl) dX6_look_1 ⟨Nat.zero_le _, Nat.zero_le _⟩ ?_
  refine lv_if_ne (tgt := 13) hx hb dX6_look_4 (by decide) (fun c_4 => ?_) (fun c_4 => ?_)
  · skip
    have c_4 := bi_ne0.mp c_4
    refine lv_aload_n hx hb dX6_look_13 rfl (lv_at hl 0 rfl) ?_
    refine va_get (D := D) (ci := 6) (v := .ref yi) (C := RX6) (T := TX6) (N := 22) hx hb hts (in_X6_look_X6) hown hK hP 0 rfl rfl 16 (by decide) (hts (.fieldLink RX6 44 "StepsRoundCircleModel" "isThere" "[Z") (by decide +kernel)) (fun _ h9 => h9) rfl dX6_look_14 ?_
    refine lv_iload_n hx hb dX6_look_17 rfl (lv_at hl 1 rfl) ?_
    refine va_zald hx hb hK hP 2 1 rfl rfl (vp_in_nI hli (by omega)) dX6_look_18 ?_
    refine lv_topi (fun z_19 hz_19 => ?_)
    have hz_19 : (iB li) = z_19 := (hz_19.trans (by rw [nI_clamp (by omega)])).symm
    subst hz_19
    refine lv_if_ne (tgt := 29) hx hb dX6_look_19 (by decide) (fun c_19 => ?_) (fun c_19 => ?_)
    · skip
      have hy := ls_yes hls c_19
      have hz0 := hy.1.1
      have hz4 := z40 hy.1.2
      refine lv_iload_n hx hb dX6_look_29 rfl (lv_at hl 2 rfl) ?_
      refine lv_i2l hx hb dX6_look_30 rfl ?_
      refine lv_lconst (v := 0) hx hb dX6_look_31 (by decide) ?_
      refine lv_aload_n hx hb dX6_look_32 rfl (lv_at hl 0 rfl) ?_
      refine va_get (D := D) (ci := 6) (v := .ref yz) (C := RX6) (T := TX6) (N := 22) hx hb hts (in_X6_look_X6) hown hK hP 0 rfl rfl 17 (by decide) (hts (.fieldLink RX6 48 "StepsRoundCircleModel" "sizes" "[I") (by decide +kernel)) (fun _ h9 => h9) rfl dX6_look_33 ?_
      refine lv_iload_n hx hb dX6_look_36 rfl (lv_at hl 1 rfl) ?_
      refine va_iald hx hb hK hP 3 0 rfl rfl (vp_in_nI hli (by omega)) dX6_look_37 ?_
      refine lv_topi (fun z_38 hz_38 => ?_)
      have hz_38 : z = z_38 := (hz_38.trans (by rw [nI_clamp (by omega)]; exact hy.2.1)).symm
      subst hz_38
      refine lv_iconst (v := 1) hx hb dX6_look_38 (by decide) ?_
      refine lv_isub hx hb dX6_look_39 ?_
      refine lv_i2l hx hb dX6_look_40 rfl ?_
      refine rdS (As := [.long i.toInt64, .long 0, .long ((z - 1).toInt64)]) (rest := []) ⟨hx, hb, hml, hown, hts⟩ (c_X6_in l D cI cZ cR i.toInt64 0 ((z - 1).toInt64) ) (va_cwS 3 hts gX6_look_X6_in rfl rfl rfl (by decide +kernel) ⟨Nat.le_of_ble_eq_true rfl, Nat.le_of_ble_eq_true rfl⟩) hK hN hP [] rfl rfl hl.1 rfl (Nat.le_of_ble_eq_true rfl) dX6_look_41 ⟨Nat.zero_le _, Nat.zero_le _⟩ ?_
      refine lv_if_eq (tgt := 62) hx hb dX6_look_44 (by decide) (fun c_44 => ?_) (fun c_44 => ?_)
      · skip
        have c_44 := bi_eq0.mp c_44
        refine lv_aload_n hx hb dX6_look_62 rfl (lv_at hl 0 rfl) ?_
        refine lv_bipush (v := (-13)) hx hb dX6_look_63 (by decide) ?_
        refine wrVl (As := [.int (-13)]) (rest := []) (wr := [(yi, .inl (cZ, 3, .inl iB)), (yz, .inl (cI, 3, .inl iS)), (yx, .inl (cI, 120, .inl iT))]) (A := A) ⟨hx, hb, hml, hown, hts⟩ (c_X6_noLong l D cI cZ cR y yr yw yc yl ys yp ym yo yk yt yi yz yx yu mq mn mc me md mz km kr G (-13) (by decide) s.heap.size) (cwV 1 hts gX6_look_X6_noLong rfl rfl rfl (by decide +kernel) ⟨Nat.le_of_ble_eq_true rfl, Nat.le_of_ble_eq_true rfl⟩) hK hN hP hD hS hA 0 6 rfl rfl rfl [0, 1] [2, 3, 4] rfl (by decide) rfl (by decide) (by decide) rfl hl.1 rfl (Nat.le_of_ble_eq_true rfl) dX6_look_65 ⟨Nat.zero_le _, Nat.zero_le _⟩ (fun r_65 u H locs hw hP hD hS => ?_)
        obtain ⟨G_65, rfl⟩ : ∃ z, z = u := ⟨_, rfl⟩
        try dsimp only at hw
        obtain ⟨q1_65, q2_65⟩ := hw
        have q1_65 := q1_65.symm
        subst q1_65
        have q2_65 := q2_65.symm
        subst q2_65
        have hP : va_P D vwCl [(y, .inr (6, [.ref yr, .int mq, .int mn, .ref yw, .ref yc, .int mc, .ref yl, .int me, .ref ys, .ref yp, .ref ym, .int md, .ref yo, .ref yk, .ref yt, .int mz, .ref yi, .ref yz, .ref yx, .ref yu, .int km, .int kr])), (yr, .inl (cI, 7, .inl (md_bump G (-13)))), (yi, .inl (cZ, 3, .inl iB)), (yz, .inl (cI, 3, .inl iS)), (yx, .inl (cI, 120, .inl iT))] H := hP.sub [3, 4, 0, 1, 2] rfl
        have hD : va_D A [(y, .inr (6, [.ref yr, .int mq, .int mn, .ref yw, .ref yc, .int mc, .ref yl, .int me, .ref ys, .ref yp, .ref ym, .int md, .ref yo, .ref yk, .ref yt, .int mz, .ref yi, .ref yz, .ref yx, .ref yu, .int km, .int kr])), (yr, .inl (cI, 7, .inl (md_bump G (-13)))), (yi, .inl (cZ, 3, .inl iB)), (yz, .inl (cI, 3, .inl iS)), (yx, .inl (cI, 120, .inl iT))] := hD.sub [3, 4, 0, 1, 2] (by decide) rfl
        exact wrL (w1 := (fun (u : (Nat → Int32)) => [(y, .inr (6, [.ref yr, .int mq, .int mn, .ref yw, .ref yc, .int mc, .ref yl, .int me, .ref ys, .ref yp, .ref ym, .int md, .ref yo, .ref yk, .ref yt, .int mz, .ref yi, .ref yz, .ref yx, .ref yu, .int km, .int kr])), (yr, .inl (cI, 7, .inl u)), (yi, .inl (cZ, 3, .inl iB)), (yz, .inl (cI, 3, .inl iS)), (yx, .inl (cI, 120, .inl iT))])) (md_bump G (-13)) hx hb hr hlocks dX6_look_68 hS (hP.sub [0, 1, 2, 3, 4] rfl) (hD.sub [0, 1, 2, 3, 4] (by decide) rfl) (by have e9 : rf_put z i = -13 := (by unfold rf_put; rw [if_neg (z_m1 hz0), if_neg (fun z9 => c_44 ((isw hz0).mpr ((rw_is hy.1.2).mpr z9)))]); rw [e9]; exact ⟨rfl, bmm_13 G⟩)
      · skip
        have c_44 := bi_ne0.mp c_44
        have hh := (rw_is hy.1.2).mp ((isw hz0).mp c_44)
        have hhN := rw_has_N hh
        refine lv_aload_n hx hb dX6_look_47 rfl (lv_at hl 0 rfl) ?_
        refine va_get (D := D) (ci := 6) (v := .ref yx) (C := RX6) (T := TX6) (N := 22) hx hb hts (in_X6_look_X6) hown hK hP 0 rfl rfl 18 (by decide) (hts (.fieldLink RX6 51 "StepsRoundCircleModel" "items" "[I") (by decide +kernel)) (fun _ h9 => h9) rfl dX6_look_48 ?_
        refine lv_bipush (v := 40) hx hb dX6_look_51 (by decide) ?_
        refine lv_iload_n hx hb dX6_look_53 rfl (lv_at hl 1 rfl) ?_
        refine lv_imul hx hb dX6_look_54 ?_
        refine lv_iload_n hx hb dX6_look_55 rfl (lv_at hl 2 rfl) ?_
        refine lv_iadd hx hb dX6_look_56 ?_
        refine lv_topi (fun z_57 hz_57 => ?_)
        have hz_57 : (nI (40 * li + i.toNatClampNeg)) = z_57 := (hz_57.trans (ixI li hhN.1)).symm
        subst hz_57
        refine va_iald hx hb hK hP 4 0 rfl rfl (vp_in_nI (by omega) (by omega)) dX6_look_57 ?_
        refine lv_i2l hx hb dX6_look_58 rfl ?_
        refine lv_goto (tgt := 68) hx hb dX6_look_59 (by decide) ?_
        exact wrL (w1 := (fun (u : (Nat → Int32)) => [(y, .inr (6, [.ref yr, .int mq, .int mn, .ref yw, .ref yc, .int mc, .ref yl, .int me, .ref ys, .ref yp, .ref ym, .int md, .ref yo, .ref yk, .ref yt, .int mz, .ref yi, .ref yz, .ref yx, .ref yu, .int km, .int kr])), (yr, .inl (cI, 7, .inl u)), (yi, .inl (cZ, 3, .inl iB)), (yz, .inl (cI, 3, .inl iS)), (yx, .inl (cI, 120, .inl iT))])) G hx hb hr hlocks dX6_look_68 hS (hP.sub [0, 1, 2, 3, 4] rfl) (hD.sub [0, 1, 2, 3, 4] (by decide) rfl) (by have e9 : rf_put z i = 0 := (by unfold rf_put; rw [if_neg (z_m1 hz0), if_pos hh]); rw [if_pos e9]; refine ⟨?_, rfl⟩; congr 1; unfold rw_get; rw [if_pos hh, nI_clamp (by omega)]; exact hy.2.2 _ hhN.2.2)
    · skip
      refine lv_aload_n hx hb dX6_look_22 rfl (lv_at hl 0 rfl) ?_
      refine lv_bipush (v := (-11)) hx hb dX6_look_23 (by decide) ?_
      refine wrVl (As := [.int (-11)]) (rest := []) (wr := [(yi, .inl (cZ, 3, .inl iB)), (yz, .inl (cI, 3, .inl iS)), (yx, .inl (cI, 120, .inl iT))]) (A := A) ⟨hx, hb, hml, hown, hts⟩ (c_X6_noLong l D cI cZ cR y yr yw yc yl ys yp ym yo yk yt yi yz yx yu mq mn mc me md mz km kr G (-11) (by decide) s.heap.size) (cwV 1 hts gX6_look_X6_noLong rfl rfl rfl (by decide +kernel) ⟨Nat.le_of_ble_eq_true rfl, Nat.le_of_ble_eq_true rfl⟩) hK hN hP hD hS hA 0 6 rfl rfl rfl [0, 1] [2, 3, 4] rfl (by decide) rfl (by decide) (by decide) rfl hl.1 rfl (Nat.le_of_ble_eq_true rfl) dX6_look_25 ⟨Nat.zero_le _, Nat.zero_le _⟩ (fun r_25 u H locs hw hP hD hS => ?_)
      obtain ⟨G_25, rfl⟩ : ∃ z, z = u := ⟨_, rfl⟩
      try dsimp only at hw
      obtain ⟨q1_25, q2_25⟩ := hw
      have q1_25 := q1_25.symm
      subst q1_25
      have q2_25 := q2_25.symm
      subst q2_25
      have hP : va_P D vwCl [(y, .inr (6, [.ref yr, .int mq, .int mn, .ref yw, .ref yc, .int mc, .ref yl, .int me, .ref ys, .ref yp, .ref ym, .int md, .ref yo, .ref yk, .ref yt, .int mz, .ref yi, .ref yz, .ref yx, .ref yu, .int km, .int kr])), (yr, .inl (cI, 7, .inl (md_bump G (-11)))), (yi, .inl (cZ, 3, .inl iB)), (yz, .inl (cI, 3, .inl iS)), (yx, .inl (cI, 120, .inl iT))] H := hP.sub [3, 4, 0, 1, 2] rfl
      have hD : va_D A [(y, .inr (6, [.ref yr, .int mq, .int mn, .ref yw, .ref yc, .int mc, .ref yl, .int me, .ref ys, .ref yp, .ref ym, .int md, .ref yo, .ref yk, .ref yt, .int mz, .ref yi, .ref yz, .ref yx, .ref yu, .int km, .int kr])), (yr, .inl (cI, 7, .inl (md_bump G (-11)))), (yi, .inl (cZ, 3, .inl iB)), (yz, .inl (cI, 3, .inl iS)), (yx, .inl (cI, 120, .inl iT))] := hD.sub [3, 4, 0, 1, 2] (by decide) rfl
      exact wrL (w1 := (fun (u : (Nat → Int32)) => [(y, .inr (6, [.ref yr, .int mq, .int mn, .ref yw, .ref yc, .int mc, .ref yl, .int me, .ref ys, .ref yp, .ref ym, .int md, .ref yo, .ref yk, .ref yt, .int mz, .ref yi, .ref yz, .ref yx, .ref yu, .int km, .int kr])), (yr, .inl (cI, 7, .inl u)), (yi, .inl (cZ, 3, .inl iB)), (yz, .inl (cI, 3, .inl iS)), (yx, .inl (cI, 120, .inl iT))])) (md_bump G (-11)) hx hb hr hlocks dX6_look_28 hS (hP.sub [0, 1, 2, 3, 4] rfl) (hD.sub [0, 1, 2, 3, 4] (by decide) rfl) (by have e9 : rf_put z i = -11 := (by unfold rf_put; rw [if_pos (ls_no hls c_19)]); rw [e9]; exact ⟨rfl, bmm_11 G⟩)
  · skip
    have c_4 := bi_eq0.mp c_4
    exact False.elim (c_4 ⟨nI_pos' (by omega), nI_lt (b := 3) hli (by omega)⟩)

set_option maxHeartbeats 4000000 in
set_option maxRecDepth 100000 in
theorem c_X6_lays (l : Launch) (D : va_G) (cI cZ cR : ClassId) (y yr yw yc yl ys yp ym yo yk yt yi yz yx yu : Nat) (mq mn mc me md mz km kr : Int32) (G : Nat → Int32) (v : Nat → Int32) (iB iS iT : Nat → Int32) (li : Nat) (z : Int32) (f : Nat → Int32) (i w : Int32) (hli : li < 3) (hls : lsR iB iS iT li z f) (hq : okQ mq) (hmn : 0 ≤ mn) (hm5 : mn ≤ 5) (hws : ∀ w, 0 ≤ w ∧ w < mn → okW mq v w) (sz : Nat) : Met l yX6_lays wsX6_lays ({ frames := 3, cells := 0, slots := 0, locals := 74 }) (PcW D cI cZ cR [.ref y, .int (nI li), .int i, .int w] [(y, .inr (6, [.ref yr, .int mq, .int mn, .ref yw, .ref yc, .int mc, .ref yl, .int me, .ref ys, .ref yp, .ref ym, .int md, .ref yo, .ref yk, .ref yt, .int mz, .ref yi, .ref yz, .ref yx, .ref yu, .int km, .int kr])), (yr, .inl (cI, 7, .inl G)), (yw, .inl (cI, 20, .inl v)), (yi, .inl (cZ, 3, .inl iB)), (yz, .inl (cI, 3, .inl iS)), (yx, .inl (cI, 120, .inl iT))] sz) (va_Qi (fun (res : Int32) (u : (Nat → Int32) × (Nat → Int32)) => res = (if rf_lay mn w z i = 0 then z - i else rf_lay mn w z i) ∧ u.1 = (if rf_lay mn w z i = 0 then G else md_bump G (rf_lay mn w z i)) ∧ lsR iB iS u.2 li z (if rf_lay mn w z i = 0 then fb_put f (plK mq v w) i.toNatClampNeg (z.toNatClampNeg - i.toNatClampNeg) else f) ∧ lsK iB iS iT iB iS u.2 li) (Bw D (fun (u : (Nat → Int32) × (Nat → Int32)) => [(y, .inr (6, [.ref yr, .int mq, .int mn, .ref yw, .ref yc, .int mc, .ref yl, .int me, .ref ys, .ref yp, .ref ym, .int md, .ref yo, .ref yk, .ref yt, .int mz, .ref yi, .ref yz, .ref yx, .ref yu, .int km, .int kr])), (yr, .inl (cI, 7, .inl u.1)), (yw, .inl (cI, 20, .inl v)), (yi, .inl (cZ, 3, .inl iB)), (yz, .inl (cI, 3, .inl iS)), (yx, .inl (cI, 120, .inl u.2))]) (va_A [(y, .inr (6, [.ref yr, .int mq, .int mn, .ref yw, .ref yc, .int mc, .ref yl, .int me, .ref ys, .ref yp, .ref ym, .int md, .ref yo, .ref yk, .ref yt, .int mz, .ref yi, .ref yz, .ref yx, .ref yu, .int km, .int kr])), (yr, .inl (cI, 7, .inl G)), (yw, .inl (cI, 20, .inl v)), (yi, .inl (cZ, 3, .inl iB)), (yz, .inl (cI, 3, .inl iS)), (yx, .inl (cI, 120, .inl iT))] sz)) (va_A [(y, .inr (6, [.ref yr, .int mq, .int mn, .ref yw, .ref yc, .int mc, .ref yl, .int me, .ref ys, .ref yp, .ref ym, .int md, .ref yo, .ref yk, .ref yt, .int mz, .ref yi, .ref yz, .ref yx, .ref yu, .int km, .int kr])), (yr, .inl (cI, 7, .inl G)), (yw, .inl (cI, 20, .inl v)), (yi, .inl (cZ, 3, .inl iB)), (yz, .inl (cI, 3, .inl iS)), (yx, .inl (cI, 120, .inl iT))] sz)) 0 0 (va_A [(y, .inr (6, [.ref yr, .int mq, .int mn, .ref yw, .ref yc, .int mc, .ref yl, .int me, .ref ys, .ref yp, .ref ym, .int md, .ref yo, .ref yk, .ref yt, .int mz, .ref yi, .ref yz, .ref yx, .ref yu, .int km, .int kr])), (yr, .inl (cI, 7, .inl G)), (yw, .inl (cI, 20, .inl v)), (yi, .inl (cZ, 3, .inl iB)), (yz, .inl (cI, 3, .inl iS)), (yx, .inl (cI, 120, .inl iT))] sz) := by
  refine Met.ofW (cc := cX6_lays) (maxL := 5) (ret := (some .int)) (by decide) rfl ?_
  intro p e s m args below meth c s₁ B hml hv
  obtain ⟨rfl, hsz, hP, hK, hD0, hN⟩ := hv
  have hx := B.exec
  have hb := B.bytes
  have hr := B.returns
  have hts := atoms_spec (ws := wsX6_lays) B.pre
  have hown : s.vm.findClass RX6 = some m.cls := findClass_of_methodNamed B.named
  have hlocks := B.notSynchronized
  subst hsz
  have hD := hD0.self (sz := s.heap.size)
  generalize hAe : va_A [(y, .inr (6, [.ref yr, .int mq, .int mn, .ref yw, .ref yc, .int mc, .ref yl, .int me, .ref ys, .ref yp, .ref ym, .int md, .ref yo, .ref yk, .ref yt, .int mz, .ref yi, .ref yz, .ref yx, .ref yu, .int km, .int kr])), (yr, .inl (cI, 7, .inl G)), (yw, .inl (cI, 20, .inl v)), (yi, .inl (cZ, 3, .inl iB)), (yz, .inl (cI, 3, .inl iS)), (yx, .inl (cI, 120, .inl iT))] s.heap.size = A at hD ⊢
  have hA : ∀ q : Nat, s.heap.size ≤ q → A q := fun q h => by rw [← hAe]; exact Or.inr h
  have hS : va_S A s.heap s.heap [] := va_S.rf
  have hP : va_P D vwCl [(y, .inr (6, [.ref yr, .int mq, .int mn, .ref yw, .ref yc, .int mc, .ref yl, .int me, .ref ys, .ref yp, .ref ym, .int md, .ref yo, .ref yk, .ref yt, .int mz, .ref yi, .ref yz, .ref yx, .ref yu, .int km, .int kr])), (yr, .inl (cI, 7, .inl G)), (yw, .inl (cI, 20, .inl v)), (yi, .inl (cZ, 3, .inl iB)), (yz, .inl (cI, 3, .inl iS)), (yx, .inl (cI, 120, .inl iT))] s.heap := hP
  have hl := lv_entry ([.ref y, .int (nI li), .int i, .int w]) (n := 5) (Nat.le_of_ble_eq_true rfl)
  rw [lg_entry_eq]
  generalize (lg_sl ([.ref y, .int (nI li), .int i, .int w]) ++ List.replicate (5 - (lg_sl ([.ref y, .int (nI li), .int i, .int w])).length) Slot.unset).toArray = ls at hl ⊢
  have hl : lv_has ls 5 [(0, .ref y), (1, .int (nI li)), (2, .int i), (3, .int w)] := hl
  refine lv_iload_n hx hb dX6_lays_0 rfl (lv_at hl 1 rfl) ?_
  refine rdS (As := [.int (nI li)]) (rest := []) ⟨hx, hb, hml, hown, hts⟩ (c_X6_isList l D cI cZ cR (nI li) ) (va_cwS 1 hts gX6_lays_X6_isList rfl rfl rfl (by decide +kernel) ⟨Nat.le_of_ble_eq_true rfl, Nat.le_of_ble_eq_true rfl⟩) hK hN hP [] rfl rfl hl.1 rfl (Nat.le_of_ble_eq_true rfl) dX6_lays_1 ⟨Nat.zero_le _, Nat.zero_le _⟩ ?_
  refine lv_if_eq (tgt := 15) hx hb dX6_lays_4 (by decide) (fun c_4 => ?_) (fun c_4 => ?_)
  · skip
    have c_4 := bi_eq0.mp c_4
    exact False.elim (c_4 ⟨nI_pos' (by omega), nI_lt (b := 3) hli (by omega)⟩)
  · skip
    have c_4 := bi_ne0.mp c_4
    refine lv_aload_n hx hb dX6_lays_7 rfl (lv_at hl 0 rfl) ?_
    refine lv_iload_n hx hb dX6_lays_8 rfl (lv_at hl 3 rfl) ?_
    refine rdV (As := [.int w]) (rest := []) ⟨hx, hb, hml, hown, hts⟩ (c_X6_isWalker l D cI cZ cR y yr yw yc yl ys yp ym yo yk yt yi yz yx yu mq mn mc me md mz km kr w (by first | assumption | omega)) (cwV 1 hts gX6_lays_X6_isWalker rfl rfl rfl (by decide +kernel) ⟨Nat.le_of_ble_eq_true rfl, Nat.le_of_ble_eq_true rfl⟩) hK hN hP 0 6 rfl rfl rfl [0] rfl rfl hl.1 rfl (Nat.le_of_ble_eq_true rfl) dX6_lays_9 ⟨Nat.zero_le _, Nat.zero_le _⟩ ?_
    refine lv_if_ne (tgt := 21) hx hb dX6_lays_12 (by decide) (fun c_12 => ?_) (fun c_12 => ?_)
    · skip
      have c_12 := bi_ne0.mp c_12
      refine lv_aload_n hx hb dX6_lays_21 rfl (lv_at hl 0 rfl) ?_
      refine va_get (D := D) (ci := 6) (v := .ref yi) (C := RX6) (T := TX6) (N := 22) hx hb hts (in_X6_lays_X6) hown hK hP 0 rfl rfl 16 (by decide) (hts (.fieldLink RX6 44 "StepsRoundCircleModel" "isThere" "[Z") (by decide +kernel)) (fun _ h9 => h9) rfl dX6_lays_22 ?_
      refine lv_iload_n hx hb dX6_lays_25 rfl (lv_at hl 1 rfl) ?_
      refine va_zald hx hb hK hP 3 1 rfl rfl (vp_in_nI hli (by omega)) dX6_lays_26 ?_
      refine lv_topi (fun z_27 hz_27 => ?_)
      have hz_27 : (iB li) = z_27 := (hz_27.trans (by rw [nI_clamp (by omega)])).symm
      subst hz_27
      refine lv_if_ne (tgt := 33) hx hb dX6_lays_27 (by decide) (fun c_27 => ?_) (fun c_27 => ?_)
      · skip
        have hy := ls_yes hls c_27
        have hz0 := hy.1.1
        have hz4 := z40 hy.1.2
        refine lv_iload_n hx hb dX6_lays_33 rfl (lv_at hl 2 rfl) ?_
        refine lv_i2l hx hb dX6_lays_34 rfl ?_
        refine lv_lconst (v := 0) hx hb dX6_lays_35 (by decide) ?_
        refine lv_aload_n hx hb dX6_lays_36 rfl (lv_at hl 0 rfl) ?_
        refine va_get (D := D) (ci := 6) (v := .ref yz) (C := RX6) (T := TX6) (N := 22) hx hb hts (in_X6_lays_X6) hown hK hP 0 rfl rfl 17 (by decide) (hts (.fieldLink RX6 48 "StepsRoundCircleModel" "sizes" "[I") (by decide +kernel)) (fun _ h9 => h9) rfl dX6_lays_37 ?_
        refine lv_iload_n hx hb dX6_lays_40 rfl (lv_at hl 1 rfl) ?_
        refine va_iald hx hb hK hP 4 0 rfl rfl (vp_in_nI hli (by omega)) dX6_lays_41 ?_
        refine lv_topi (fun z_42 hz_42 => ?_)
        have hz_42 : z = z_42 := (hz_42.trans (by rw [nI_clamp (by omega)]; exact hy.2.1)).symm
        subst hz_42
        refine lv_iconst (v := 1) hx hb dX6_lays_42 (by decide) ?_
        refine lv_isub hx hb dX6_lays_43 ?_
        refine lv_i2l hx hb dX6_lays_44 rfl ?_
        refine rdS (As := [.long i.toInt64, .long 0, .long ((z - 1).toInt64)]) (rest := []) ⟨hx, hb, hml, hown, hts⟩ (c_X6_in l D cI cZ cR i.toInt64 0 ((z - 1).toInt64) ) (va_cwS 3 hts gX6_lays_X6_in rfl rfl rfl (by decide +kernel) ⟨Nat.le_of_ble_eq_true rfl, Nat.le_of_ble_eq_true rfl⟩) hK hN hP [] rfl rfl hl.1 rfl (Nat.le_of_ble_eq_true rfl) dX6_lays_45 ⟨Nat.zero_le _, Nat.zero_le _⟩ ?_
        refine lv_if_ne (tgt := 54) hx hb dX6_lays_48 (by decide) (fun c_48 => ?_) (fun c_48 => ?_)
        · skip
          have c_48 := bi_ne0.mp c_48
          have hh := (rw_is hy.1.2).mp ((isw hz0).mp c_48)
          have hhN := rw_has_N hh
          have eR : rf_lay mn w z i = 0 := by unfold rf_lay; rw [if_neg (fun z9 => z9 c_12), if_neg (z_m1 hz0), if_pos hh]
          have hP : va_P D vwCl [(y, .inr (6, [.ref yr, .int mq, .int mn, .ref yw, .ref yc, .int mc, .ref yl, .int me, .ref ys, .ref yp, .ref ym, .int md, .ref yo, .ref yk, .ref yt, .int mz, .ref yi, .ref yz, .ref yx, .ref yu, .int km, .int kr])), (yr, .inl (cI, 7, .inl G)), (yw, .inl (cI, 20, .inl v)), (yi, .inl (cZ, 3, .inl iB)), (yz, .inl (cI, 3, .inl iS)), (yx, .inl (cI, 120, .inl (fb_put iT (plK mq v w) (40 * li + i.toNatClampNeg) 0)))] s.heap := P_cg hP 5 (fb_put iT (plK mq v w) (40 * li + i.toNatClampNeg) 0) rfl (fun j hj => by rw [fb_put_0])
          have hD : va_D A [(y, .inr (6, [.ref yr, .int mq, .int mn, .ref yw, .ref yc, .int mc, .ref yl, .int me, .ref ys, .ref yp, .ref ym, .int md, .ref yo, .ref yk, .ref yt, .int mz, .ref yi, .ref yz, .ref yx, .ref yu, .int km, .int kr])), (yr, .inl (cI, 7, .inl G)), (yw, .inl (cI, 20, .inl v)), (yi, .inl (cZ, 3, .inl iB)), (yz, .inl (cI, 3, .inl iS)), (yx, .inl (cI, 120, .inl (fb_put iT (plK mq v w) (40 * li + i.toNatClampNeg) 0)))] := D_cg hD 5 _ rfl
          refine lv_iconst (v := 0) hx hb dX6_lays_54 (by decide) ?_
          refine lv_istore (lv' := [(4, .int 0), (0, .ref y), (1, .int (nI li)), (2, .int i), (3, .int w)]) hx hb dX6_lays_55 hl (by decide) rfl (fun ls hl => ?_)
          have loop_57 : ∀ (fuel : Nat), ∀ (t9 : Nat), (i.toNatClampNeg + t9 ≤ z.toNatClampNeg) → (z.toNatClampNeg + 1 ≤ i.toNatClampNeg + t9 + fuel) → ∀ (y4 : Int32), y4 = nI t9 → ∀ (H : Heap) (locs : List Loc), va_P D vwCl [(y, .inr (6, [.ref yr, .int mq, .int mn, .ref yw, .ref yc, .int mc, .ref yl, .int me, .ref ys, .ref yp, .ref ym, .int md, .ref yo, .ref yk, .ref yt, .int mz, .ref yi, .ref yz, .ref yx, .ref yu, .int km, .int kr])), (yr, .inl (cI, 7, .inl G)), (yw, .inl (cI, 20, .inl v)), (yi, .inl (cZ, 3, .inl iB)), (yz, .inl (cI, 3, .inl iS)), (yx, .inl (cI, 120, .inl (fb_put iT (plK mq v w) (40 * li + i.toNatClampNeg) t9)))] H → va_D A [(y, .inr (6, [.ref yr, .int mq, .int mn, .ref yw, .ref yc, .int mc, .ref yl, .int me, .ref ys, .ref yp, .ref ym, .int md, .ref yo, .ref yk, .ref yt, .int mz, .ref yi, .ref yz, .ref yx, .ref yu, .int km, .int kr])), (yr, .inl (cI, 7, .inl G)), (yw, .inl (cI, 20, .inl v)), (yi, .inl (cZ, 3, .inl iB)), (yz, .inl (cI, 3, .inl iS)), (yx, .inl (cI, 120, .inl (fb_put iT (plK mq v w) (40 * li + i.toNatClampNeg) t9)))] → va_S A s.heap H locs → ∀ (ls : Array Slot), lv_has ls 5 [(4, .int y4), (0, .ref y), (1, .int (nI li)), (2, .int i), (3, .int w)] → W p l e (headSpec wsX6_lays ({ frames := 3, cells := 0, slots := 0, locals := 74 })).room s m ([.ref y, .int (nI li), .int i, .int w] : List Value).toArray below meth c H locs 0 0 (MQ below (va_Qi (fun (res : Int32) (u : (Nat → Int32) × (Nat → Int32)) => res = (if rf_lay mn w z i = 0 then z - i else rf_lay mn w z i) ∧ u.1 = (if rf_lay mn w z i = 0 then G else md_bump G (rf_lay mn w z i)) ∧ lsR iB iS u.2 li z (if rf_lay mn w z i = 0 then fb_put f (plK mq v w) i.toNatClampNeg (z.toNatClampNeg - i.toNatClampNeg) else f) ∧ lsK iB iS iT iB iS u.2 li) (Bw D (fun (u : (Nat → Int32) × (Nat → Int32)) => [(y, .inr (6, [.ref yr, .int mq, .int mn, .ref yw, .ref yc, .int mc, .ref yl, .int me, .ref ys, .ref yp, .ref ym, .int md, .ref yo, .ref yk, .ref yt, .int mz, .ref yi, .ref yz, .ref yx, .ref yu, .int km, .int kr])), (yr, .inl (cI, 7, .inl u.1)), (yw, .inl (cI, 20, .inl v)), (yi, .inl (cZ, 3, .inl iB)), (yz, .inl (cI, 3, .inl iS)), (yx, .inl (cI, 120, .inl u.2))]) A) A) ([.ref y, .int (nI li), .int i, .int w] : List Value).toArray s 0 0 A) (F0 m 57 ls []) := by
            intro fuel
            induction fuel with
            | zero =>
              intro t9 hi9 hfu
              exact False.elim (by omega)
            | succ fuel ih_57 =>
              intro t9 hi9 hfu y4 ey4 H locs hP hD hS ls hl
              subst ey4
              refine lv_iload_n hx hb dX6_lays_57 rfl (lv_at hl 3 rfl) ?_
              refine lv_iload hx hb dX6_lays_58 (lv_at hl 0 rfl) ?_
              refine lv_iadd hx hb dX6_lays_60 ?_
              refine lv_topi (fun z_61 hz_61 => ?_)
              have hz_61 : (nI (i.toNatClampNeg + t9)) = z_61 := (hz_61.trans ((congrArg (fun t => t + nI t9) hhN.1).trans (nI_add _ _))).symm
              subst hz_61
              refine lv_aload_n hx hb dX6_lays_61 rfl (lv_at hl 1 rfl) ?_
              refine va_get (D := D) (ci := 6) (v := .ref yz) (C := RX6) (T := TX6) (N := 22) hx hb hts (in_X6_lays_X6) hown hK hP 0 rfl rfl 17 (by decide) (hts (.fieldLink RX6 48 "StepsRoundCircleModel" "sizes" "[I") (by decide +kernel)) (fun _ h9 => h9) rfl dX6_lays_62 ?_
              refine lv_iload_n hx hb dX6_lays_65 rfl (lv_at hl 2 rfl) ?_
              refine va_iald hx hb hK hP 4 0 rfl rfl (vp_in_nI hli (by omega)) dX6_lays_66 ?_
              refine lv_topi (fun z_67 hz_67 => ?_)
              have hz_67 : z = z_67 := (hz_67.trans (by rw [nI_clamp (by omega)]; exact hy.2.1)).symm
              subst hz_67
              refine lv_icmp_ge (tgt := 97) hx hb dX6_lays_67 (by decide) (fun c_67 => ?_) (fun c_67 => ?_)
              · skip
                have hend : t9 = z.toNatClampNeg - i.toNatClampNeg := by have := (le_clamp (by omega)).mp c_67; omega
                refine lv_aload_n hx hb dX6_lays_97 rfl (lv_at hl 1 rfl) ?_
                refine va_get (D := D) (ci := 6) (v := .ref yz) (C := RX6) (T := TX6) (N := 22) hx hb hts (in_X6_lays_X6) hown hK hP 0 rfl rfl 17 (by decide) (hts (.fieldLink RX6 48 "StepsRoundCircleModel" "sizes" "[I") (by decide +kernel)) (fun _ h9 => h9) rfl dX6_lays_98 ?_
                refine lv_iload_n hx hb dX6_lays_101 rfl (lv_at hl 2 rfl) ?_
                refine va_iald hx hb hK hP 4 0 rfl rfl (vp_in_nI hli (by omega)) dX6_lays_102 ?_
                refine lv_topi (fun z_103 hz_103 => ?_)
                have hz_103 : z = z_103 := (hz_103.trans (by rw [nI_clamp (by omega)]; exact hy.2.1)).symm
                subst hz_103
                refine lv_iload_n hx hb dX6_lays_103 rfl (lv_at hl 3 rfl) ?_
                refine lv_isub hx hb dX6_lays_104 ?_
                exact wrI (w1 := (fun (u : (Nat → Int32) × (Nat → Int32)) => [(y, .inr (6, [.ref yr, .int mq, .int mn, .ref yw, .ref yc, .int mc, .ref yl, .int me, .ref ys, .ref yp, .ref ym, .int md, .ref yo, .ref yk, .ref yt, .int mz, .ref yi, .ref yz, .ref yx, .ref yu, .int km, .int kr])), (yr, .inl (cI, 7, .inl u.1)), (yw, .inl (cI, 20, .inl v)), (yi, .inl (cZ, 3, .inl iB)), (yz, .inl (cI, 3, .inl iS)), (yx, .inl (cI, 120, .inl u.2))])) (G, (fb_put iT (plK mq v w) (40 * li + i.toNatClampNeg) t9)) hx hb hr hlocks dX6_lays_105 hS (hP.sub [0, 1, 2, 3, 4, 5] rfl) (hD.sub [0, 1, 2, 3, 4, 5] (by decide) rfl) (by rw [if_pos eR, if_pos eR, if_pos eR, hend]; exact ⟨rfl, rfl, ls_lay c_27 hy, lsK_T (fun j hj => fb_put_out (by omega))⟩)
              · skip
                have htN : i.toNatClampNeg + t9 < z.toNatClampNeg := (lt_clamp (by omega)).mp (Int32.not_le.mp c_67)
                refine lv_aload_n hx hb dX6_lays_70 rfl (lv_at hl 1 rfl) ?_
                refine va_get (D := D) (ci := 6) (v := .ref yx) (C := RX6) (T := TX6) (N := 22) hx hb hts (in_X6_lays_X6) hown hK hP 0 rfl rfl 18 (by decide) (hts (.fieldLink RX6 51 "StepsRoundCircleModel" "items" "[I") (by decide +kernel)) (fun _ h9 => h9) rfl dX6_lays_71 ?_
                refine lv_bipush (v := 40) hx hb dX6_lays_74 (by decide) ?_
                refine lv_iload_n hx hb dX6_lays_76 rfl (lv_at hl 2 rfl) ?_
                refine lv_imul hx hb dX6_lays_77 ?_
                refine lv_iload_n hx hb dX6_lays_78 rfl (lv_at hl 3 rfl) ?_
                refine lv_iadd hx hb dX6_lays_79 ?_
                refine lv_topi (fun z_80 hz_80 => ?_)
                have hz_80 : (nI (40 * li + i.toNatClampNeg)) = z_80 := (hz_80.trans (ixI li hhN.1)).symm
                subst hz_80
                refine lv_iload hx hb dX6_lays_80 (lv_at hl 0 rfl) ?_
                refine lv_iadd hx hb dX6_lays_82 ?_
                refine lv_topi (fun z_83 hz_83 => ?_)
                have hz_83 : (nI (40 * li + i.toNatClampNeg + t9)) = z_83 := (hz_83.trans (nI_add _ _)).symm
                subst hz_83
                refine lv_aload_n hx hb dX6_lays_83 rfl (lv_at hl 1 rfl) ?_
                refine lv_iload_n hx hb dX6_lays_84 rfl (lv_at hl 4 rfl) ?_
                refine lv_iload hx hb dX6_lays_85 (lv_at hl 0 rfl) ?_
                refine rdV (As := [.int w, .int (nI t9)]) (rest := [.int (nI (40 * li + i.toNatClampNeg + t9)), .ref yx]) ⟨hx, hb, hml, hown, hts⟩ (c_X6_placeOf l D cI cZ cR y yr yw yc yl ys yp ym yo yk yt yi yz yx yu mq mn mc me md mz km kr v w (nI t9) hq (w5 hm5 c_12) (hws w c_12) (⟨nI_pos' (by omega), nI_le (b := 4000) (by omega) (by omega)⟩)) (cwV 2 hts gX6_lays_X6_placeOf rfl rfl rfl (by decide +kernel) ⟨Nat.le_of_ble_eq_true rfl, Nat.le_of_ble_eq_true rfl⟩) hK hN hP 0 6 rfl rfl rfl [0, 2] rfl rfl hl.1 rfl (Nat.le_of_ble_eq_true rfl) dX6_lays_87 ⟨Nat.zero_le _, Nat.zero_le _⟩ ?_
                refine lv_topi (fun z_90 hz_90 => ?_)
                have hz_90 : (plK mq v w t9) = z_90 := (hz_90.trans rfl).symm
                subst hz_90
                refine va_iast hx hb hK hP hD hS 5 0 rfl rfl (vp_in_nI (by omega) (by omega)) dX6_lays_90 (fun H locs hP hD hS => ?_)
                have hP : va_P D vwCl [(y, .inr (6, [.ref yr, .int mq, .int mn, .ref yw, .ref yc, .int mc, .ref yl, .int me, .ref ys, .ref yp, .ref ym, .int md, .ref yo, .ref yk, .ref yt, .int mz, .ref yi, .ref yz, .ref yx, .ref yu, .int km, .int kr])), (yr, .inl (cI, 7, .inl G)), (yw, .inl (cI, 20, .inl v)), (yi, .inl (cZ, 3, .inl iB)), (yz, .inl (cI, 3, .inl iS)), (yx, .inl (cI, 120, .inl (upd (fb_put iT (plK mq v w) (40 * li + i.toNatClampNeg) t9) ((nI (40 * li + i.toNatClampNeg + t9)).toNatClampNeg) (plK mq v w t9))))] H := hP
                have hD : va_D A [(y, .inr (6, [.ref yr, .int mq, .int mn, .ref yw, .ref yc, .int mc, .ref yl, .int me, .ref ys, .ref yp, .ref ym, .int md, .ref yo, .ref yk, .ref yt, .int mz, .ref yi, .ref yz, .ref yx, .ref yu, .int km, .int kr])), (yr, .inl (cI, 7, .inl G)), (yw, .inl (cI, 20, .inl v)), (yi, .inl (cZ, 3, .inl iB)), (yz, .inl (cI, 3, .inl iS)), (yx, .inl (cI, 120, .inl (upd (fb_put iT (plK mq v w) (40 * li + i.toNatClampNeg) t9) ((nI (40 * li + i.toNatClampNeg + t9)).toNatClampNeg) (plK mq v w t9))))] := hD
                have hP : va_P D vwCl [(y, .inr (6, [.ref yr, .int mq, .int mn, .ref yw, .ref yc, .int mc, .ref yl, .int me, .ref ys, .ref yp, .ref ym, .int md, .ref yo, .ref yk, .ref yt, .int mz, .ref yi, .ref yz, .ref yx, .ref yu, .int km, .int kr])), (yr, .inl (cI, 7, .inl G)), (yw, .inl (cI, 20, .inl v)), (yi, .inl (cZ, 3, .inl iB)), (yz, .inl (cI, 3, .inl iS)), (yx, .inl (cI, 120, .inl (fb_put iT (plK mq v w) (40 * li + i.toNatClampNeg) (t9 + 1))))] H := P_cg hP 5 (fb_put iT (plK mq v w) (40 * li + i.toNatClampNeg) (t9 + 1)) rfl (fun j hj => by rw [nI_clamp (by omega), fb_put_succ])
                have hD : va_D A [(y, .inr (6, [.ref yr, .int mq, .int mn, .ref yw, .ref yc, .int mc, .ref yl, .int me, .ref ys, .ref yp, .ref ym, .int md, .ref yo, .ref yk, .ref yt, .int mz, .ref yi, .ref yz, .ref yx, .ref yu, .int km, .int kr])), (yr, .inl (cI, 7, .inl G)), (yw, .inl (cI, 20, .inl v)), (yi, .inl (cZ, 3, .inl iB)), (yz, .inl (cI, 3, .inl iS)), (yx, .inl (cI, 120, .inl (fb_put iT (plK mq v w) (40 * li + i.toNatClampNeg) (t9 + 1))))] := D_cg hD 5 _ rfl
                refine lv_iinc (v := (nI t9) + 1) (lv' := [(4, .int ((nI t9) + 1)), (0, .ref y), (1, .int (nI li)), (2, .int i), (3, .int w)]) hx hb dX6_lays_91 hl (k := 0) rfl (by rfl) (by decide) rfl (fun ls hl => ?_)
                refine lv_goto (tgt := 57) hx hb dX6_lays_94 (by decide) ?_
                exact ih_57 (t9 + 1) (by omega) (by omega) _ (by first | rfl | exact nI_1 _ | exact nI_0.symm) _ _ (hP.sub [0, 1, 2, 3, 4, 5] rfl) (hD.sub [0, 1, 2, 3, 4, 5] (by decide) rfl) hS ls (lv_sub hl [0, 1, 2, 3, 4] rfl)
          exact loop_57 (z.toNatClampNeg + 1) 0 (by omega) (by omega) _ (by first | rfl | exact nI_1 _ | exact nI_0.symm) _ _ (hP.sub [0, 1, 2, 3, 4, 5] rfl) (hD.sub [0, 1, 2, 3, 4, 5] (by decide) rfl) hS ls (lv_sub hl [0, 1, 2, 3, 4] rfl)
        · skip
          have c_48 := bi_eq0.mp c_48
          refine lv_bipush (v := (-13)) hx hb dX6_lays_51 (by decide) ?_
          exact wrI (w1 := (fun (u : (Nat → Int32) × (Nat → Int32)) => [(y, .inr (6, [.ref yr, .int mq, .int mn, .ref yw, .ref yc, .int mc, .ref yl, .int me, .ref ys, .ref yp, .ref ym, .int md, .ref yo, .ref yk, .ref yt, .int mz, .ref yi, .ref yz, .ref yx, .ref yu, .int km, .int kr])), (yr, .inl (cI, 7, .inl u.1)), (yw, .inl (cI, 20, .inl v)), (yi, .inl (cZ, 3, .inl iB)), (yz, .inl (cI, 3, .inl iS)), (yx, .inl (cI, 120, .inl u.2))])) (G, iT) hx hb hr hlocks dX6_lays_53 hS (hP.sub [0, 1, 2, 3, 4, 5] rfl) (hD.sub [0, 1, 2, 3, 4, 5] (by decide) rfl) (by have e9 : rf_lay mn w z i = -13 := (by unfold rf_lay; rw [if_neg (fun z9 => z9 c_12), if_neg (z_m1 hz0), if_neg (fun z9 => c_48 ((isw hz0).mpr ((rw_is hy.1.2).mpr z9)))]); have e8 : ¬ rf_lay mn w z i = 0 := (by rw [e9]; decide); simp only [if_neg e8]; exact ⟨e9.symm, (by rw [e9, bmm_13]), hls, lsK_rf _ _ _ _⟩)
      · skip
        refine lv_bipush (v := (-11)) hx hb dX6_lays_30 (by decide) ?_
        exact wrI (w1 := (fun (u : (Nat → Int32) × (Nat → Int32)) => [(y, .inr (6, [.ref yr, .int mq, .int mn, .ref yw, .ref yc, .int mc, .ref yl, .int me, .ref ys, .ref yp, .ref ym, .int md, .ref yo, .ref yk, .ref yt, .int mz, .ref yi, .ref yz, .ref yx, .ref yu, .int km, .int kr])), (yr, .inl (cI, 7, .inl u.1)), (yw, .inl (cI, 20, .inl v)), (yi, .inl (cZ, 3, .inl iB)), (yz, .inl (cI, 3, .inl iS)), (yx, .inl (cI, 120, .inl u.2))])) (G, iT) hx hb hr hlocks dX6_lays_32 hS (hP.sub [0, 1, 2, 3, 4, 5] rfl) (hD.sub [0, 1, 2, 3, 4, 5] (by decide) rfl) (by have e9 : rf_lay mn w z i = -11 := (by unfold rf_lay; rw [if_neg (fun z9 => z9 c_12), if_pos (ls_no hls c_27)]); have e8 : ¬ rf_lay mn w z i = 0 := (by rw [e9]; decide); simp only [if_neg e8]; exact ⟨e9.symm, (by rw [e9, bmm_11]), hls, lsK_rf _ _ _ _⟩)
    · skip
      have c_12 := bi_eq0.mp c_12
      refine lv_aload_n hx hb dX6_lays_15 rfl (lv_at hl 0 rfl) ?_
      refine lv_iconst (v := (-1)) hx hb dX6_lays_16 (by decide) ?_
      refine wrVi (As := [.int (-1)]) (rest := []) (wr := [(yw, .inl (cI, 20, .inl v)), (yi, .inl (cZ, 3, .inl iB)), (yz, .inl (cI, 3, .inl iS)), (yx, .inl (cI, 120, .inl iT))]) (A := A) ⟨hx, hb, hml, hown, hts⟩ (c_X6_no l D cI cZ cR y yr yw yc yl ys yp ym yo yk yt yi yz yx yu mq mn mc me md mz km kr G (-1) (by decide) s.heap.size) (cwV 1 hts gX6_lays_X6_no rfl rfl rfl (by decide +kernel) ⟨Nat.le_of_ble_eq_true rfl, Nat.le_of_ble_eq_true rfl⟩) hK hN hP hD hS hA 0 6 rfl rfl rfl [0, 1] [2, 3, 4, 5] rfl (by decide) rfl (by decide) (by decide) rfl hl.1 rfl (Nat.le_of_ble_eq_true rfl) dX6_lays_17 ⟨Nat.zero_le _, Nat.zero_le _⟩ (fun r_17 u H locs hw hP hD hS => ?_)
      obtain ⟨G_17, rfl⟩ : ∃ z, z = u := ⟨_, rfl⟩
      try dsimp only at hw
      obtain ⟨q1_17, q2_17⟩ := hw
      have q1_17 := q1_17.symm
      subst q1_17
      have q2_17 := q2_17.symm
      subst q2_17
      have hP : va_P D vwCl [(y, .inr (6, [.ref yr, .int mq, .int mn, .ref yw, .ref yc, .int mc, .ref yl, .int me, .ref ys, .ref yp, .ref ym, .int md, .ref yo, .ref yk, .ref yt, .int mz, .ref yi, .ref yz, .ref yx, .ref yu, .int km, .int kr])), (yr, .inl (cI, 7, .inl (md_bump G (-1)))), (yw, .inl (cI, 20, .inl v)), (yi, .inl (cZ, 3, .inl iB)), (yz, .inl (cI, 3, .inl iS)), (yx, .inl (cI, 120, .inl iT))] H := hP.sub [4, 5, 0, 1, 2, 3] rfl
      have hD : va_D A [(y, .inr (6, [.ref yr, .int mq, .int mn, .ref yw, .ref yc, .int mc, .ref yl, .int me, .ref ys, .ref yp, .ref ym, .int md, .ref yo, .ref yk, .ref yt, .int mz, .ref yi, .ref yz, .ref yx, .ref yu, .int km, .int kr])), (yr, .inl (cI, 7, .inl (md_bump G (-1)))), (yw, .inl (cI, 20, .inl v)), (yi, .inl (cZ, 3, .inl iB)), (yz, .inl (cI, 3, .inl iS)), (yx, .inl (cI, 120, .inl iT))] := hD.sub [4, 5, 0, 1, 2, 3] (by decide) rfl
      exact wrI (w1 := (fun (u : (Nat → Int32) × (Nat → Int32)) => [(y, .inr (6, [.ref yr, .int mq, .int mn, .ref yw, .ref yc, .int mc, .ref yl, .int me, .ref ys, .ref yp, .ref ym, .int md, .ref yo, .ref yk, .ref yt, .int mz, .ref yi, .ref yz, .ref yx, .ref yu, .int km, .int kr])), (yr, .inl (cI, 7, .inl u.1)), (yw, .inl (cI, 20, .inl v)), (yi, .inl (cZ, 3, .inl iB)), (yz, .inl (cI, 3, .inl iS)), (yx, .inl (cI, 120, .inl u.2))])) ((md_bump G (-1)), iT) hx hb hr hlocks dX6_lays_20 hS (hP.sub [0, 1, 2, 3, 4, 5] rfl) (hD.sub [0, 1, 2, 3, 4, 5] (by decide) rfl) (by have e9 : rf_lay mn w z i = -1 := (by unfold rf_lay; rw [if_pos c_12]); have e8 : ¬ rf_lay mn w z i = 0 := (by rw [e9]; decide); simp only [if_neg e8]; exact ⟨e9.symm, (by rw [e9]), hls, lsK_rf _ _ _ _⟩)

set_option maxHeartbeats 4000000 in
set_option maxRecDepth 100000 in
theorem c_X6_judge (l : Launch) (D : va_G) (cI cZ cR : ClassId) (y yr yw yc yl ys yp ym yo yk yt yi yz yx yu : Nat) (mq mn mc me md mz km kr : Int32) (G : Nat → Int32) (v : Nat → Int32) (iB iS iT : Nat → Int32) (li : Nat) (z : Int32) (f : Nat → Int32) (w : Int32) (hli : li < 3) (hls : lsR iB iS iT li z f) (hq : okQ mq) (hmn : 0 ≤ mn) (hm5 : mn ≤ 5) (hws : ∀ w, 0 ≤ w ∧ w < mn → okW mq v w) (sz : Nat) : Met l yX6_judge wsX6_judge ({ frames := 3, cells := 0, slots := 0, locals := 74 }) (PcW D cI cZ cR [.ref y, .int (nI li), .int w] [(y, .inr (6, [.ref yr, .int mq, .int mn, .ref yw, .ref yc, .int mc, .ref yl, .int me, .ref ys, .ref yp, .ref ym, .int md, .ref yo, .ref yk, .ref yt, .int mz, .ref yi, .ref yz, .ref yx, .ref yu, .int km, .int kr])), (yr, .inl (cI, 7, .inl G)), (yw, .inl (cI, 20, .inl v)), (yi, .inl (cZ, 3, .inl iB)), (yz, .inl (cI, 3, .inl iS)), (yx, .inl (cI, 120, .inl iT))] sz) (va_Qi (fun (res : Int32) (u : (Nat → Int32)) => res = (if rf_jud mn w z = 0 then ffk (foP mq v (rg_val v w 0) w f) 0 z.toNatClampNeg else rf_jud mn w z) ∧ u = (if rf_jud mn w z = 0 then G else md_bump G (rf_jud mn w z))) (Bw D (fun (u : (Nat → Int32)) => [(y, .inr (6, [.ref yr, .int mq, .int mn, .ref yw, .ref yc, .int mc, .ref yl, .int me, .ref ys, .ref yp, .ref ym, .int md, .ref yo, .ref yk, .ref yt, .int mz, .ref yi, .ref yz, .ref yx, .ref yu, .int km, .int kr])), (yr, .inl (cI, 7, .inl u)), (yw, .inl (cI, 20, .inl v)), (yi, .inl (cZ, 3, .inl iB)), (yz, .inl (cI, 3, .inl iS)), (yx, .inl (cI, 120, .inl iT))]) (va_A [(y, .inr (6, [.ref yr, .int mq, .int mn, .ref yw, .ref yc, .int mc, .ref yl, .int me, .ref ys, .ref yp, .ref ym, .int md, .ref yo, .ref yk, .ref yt, .int mz, .ref yi, .ref yz, .ref yx, .ref yu, .int km, .int kr])), (yr, .inl (cI, 7, .inl G)), (yw, .inl (cI, 20, .inl v)), (yi, .inl (cZ, 3, .inl iB)), (yz, .inl (cI, 3, .inl iS)), (yx, .inl (cI, 120, .inl iT))] sz)) (va_A [(y, .inr (6, [.ref yr, .int mq, .int mn, .ref yw, .ref yc, .int mc, .ref yl, .int me, .ref ys, .ref yp, .ref ym, .int md, .ref yo, .ref yk, .ref yt, .int mz, .ref yi, .ref yz, .ref yx, .ref yu, .int km, .int kr])), (yr, .inl (cI, 7, .inl G)), (yw, .inl (cI, 20, .inl v)), (yi, .inl (cZ, 3, .inl iB)), (yz, .inl (cI, 3, .inl iS)), (yx, .inl (cI, 120, .inl iT))] sz)) 0 0 (va_A [(y, .inr (6, [.ref yr, .int mq, .int mn, .ref yw, .ref yc, .int mc, .ref yl, .int me, .ref ys, .ref yp, .ref ym, .int md, .ref yo, .ref yk, .ref yt, .int mz, .ref yi, .ref yz, .ref yx, .ref yu, .int km, .int kr])), (yr, .inl (cI, 7, .inl G)), (yw, .inl (cI, 20, .inl v)), (yi, .inl (cZ, 3, .inl iB)), (yz, .inl (cI, 3, .inl iS)), (yx, .inl (cI, 120, .inl iT))] sz) := by
  refine Met.ofW (cc := cX6_judge) (maxL := 4) (ret := (some .int)) (by decide) rfl ?_
  intro p e s m args below meth c s₁ B hml hv
  obtain ⟨rfl, hsz, hP, hK, hD0, hN⟩ := hv
  have hx := B.exec
  have hb := B.bytes
  have hr := B.returns
  have hts := atoms_spec (ws := wsX6_judge) B.pre
  have hown : s.vm.findClass RX6 = some m.cls := findClass_of_methodNamed B.named
  have hlocks := B.notSynchronized
  subst hsz
  have hD := hD0.self (sz := s.heap.size)
  generalize hAe : va_A [(y, .inr (6, [.ref yr, .int mq, .int mn, .ref yw, .ref yc, .int mc, .ref yl, .int me, .ref ys, .ref yp, .ref ym, .int md, .ref yo, .ref yk, .ref yt, .int mz, .ref yi, .ref yz, .ref yx, .ref yu, .int km, .int kr])), (yr, .inl (cI, 7, .inl G)), (yw, .inl (cI, 20, .inl v)), (yi, .inl (cZ, 3, .inl iB)), (yz, .inl (cI, 3, .inl iS)), (yx, .inl (cI, 120, .inl iT))] s.heap.size = A at hD ⊢
  have hA : ∀ q : Nat, s.heap.size ≤ q → A q := fun q h => by rw [← hAe]; exact Or.inr h
  have hS : va_S A s.heap s.heap [] := va_S.rf
  have hP : va_P D vwCl [(y, .inr (6, [.ref yr, .int mq, .int mn, .ref yw, .ref yc, .int mc, .ref yl, .int me, .ref ys, .ref yp, .ref ym, .int md, .ref yo, .ref yk, .ref yt, .int mz, .ref yi, .ref yz, .ref yx, .ref yu, .int km, .int kr])), (yr, .inl (cI, 7, .inl G)), (yw, .inl (cI, 20, .inl v)), (yi, .inl (cZ, 3, .inl iB)), (yz, .inl (cI, 3, .inl iS)), (yx, .inl (cI, 120, .inl iT))] s.heap := hP
  have hl := lv_entry ([.ref y, .int (nI li), .int w]) (n := 4) (Nat.le_of_ble_eq_true rfl)
  rw [lg_entry_eq]
  generalize (lg_sl ([.ref y, .int (nI li), .int w]) ++ List.replicate (4 - (lg_sl ([.ref y, .int (nI li), .int w])).length) Slot.unset).toArray = ls at hl ⊢
  have hl : lv_has ls 4 [(0, .ref y), (1, .int (nI li)), (2, .int w)] := hl
  refine lv_iload_n hx hb dX6_judge_0 rfl (lv_at hl 1 rfl) ?_
  refine rdS (As := [.int (nI li)]) (rest := []) ⟨hx, hb, hml, hown, hts⟩ (c_X6_isList l D cI cZ cR (nI li) ) (va_cwS 1 hts gX6_judge_X6_isList rfl rfl rfl (by decide +kernel) ⟨Nat.le_of_ble_eq_true rfl, Nat.le_of_ble_eq_true rfl⟩) hK hN hP [] rfl rfl hl.1 rfl (Nat.le_of_ble_eq_true rfl) dX6_judge_1 ⟨Nat.zero_le _, Nat.zero_le _⟩ ?_
  refine lv_if_eq (tgt := 15) hx hb dX6_judge_4 (by decide) (fun c_4 => ?_) (fun c_4 => ?_)
  · skip
    have c_4 := bi_eq0.mp c_4
    exact False.elim (c_4 ⟨nI_pos' (by omega), nI_lt (b := 3) hli (by omega)⟩)
  · skip
    have c_4 := bi_ne0.mp c_4
    refine lv_aload_n hx hb dX6_judge_7 rfl (lv_at hl 0 rfl) ?_
    refine lv_iload_n hx hb dX6_judge_8 rfl (lv_at hl 2 rfl) ?_
    refine rdV (As := [.int w]) (rest := []) ⟨hx, hb, hml, hown, hts⟩ (c_X6_isWalker l D cI cZ cR y yr yw yc yl ys yp ym yo yk yt yi yz yx yu mq mn mc me md mz km kr w (by first | assumption | omega)) (cwV 1 hts gX6_judge_X6_isWalker rfl rfl rfl (by decide +kernel) ⟨Nat.le_of_ble_eq_true rfl, Nat.le_of_ble_eq_true rfl⟩) hK hN hP 0 6 rfl rfl rfl [0] rfl rfl hl.1 rfl (Nat.le_of_ble_eq_true rfl) dX6_judge_9 ⟨Nat.zero_le _, Nat.zero_le _⟩ ?_
    refine lv_if_ne (tgt := 21) hx hb dX6_judge_12 (by decide) (fun c_12 => ?_) (fun c_12 => ?_)
    · skip
      have c_12 := bi_ne0.mp c_12
      refine lv_aload_n hx hb dX6_judge_21 rfl (lv_at hl 0 rfl) ?_
      refine va_get (D := D) (ci := 6) (v := .ref yi) (C := RX6) (T := TX6) (N := 22) hx hb hts (in_X6_judge_X6) hown hK hP 0 rfl rfl 16 (by decide) (hts (.fieldLink RX6 44 "StepsRoundCircleModel" "isThere" "[Z") (by decide +kernel)) (fun _ h9 => h9) rfl dX6_judge_22 ?_
      refine lv_iload_n hx hb dX6_judge_25 rfl (lv_at hl 1 rfl) ?_
      refine va_zald hx hb hK hP 3 1 rfl rfl (vp_in_nI hli (by omega)) dX6_judge_26 ?_
      refine lv_topi (fun z_27 hz_27 => ?_)
      have hz_27 : (iB li) = z_27 := (hz_27.trans (by rw [nI_clamp (by omega)])).symm
      subst hz_27
      refine lv_if_ne (tgt := 33) hx hb dX6_judge_27 (by decide) (fun c_27 => ?_) (fun c_27 => ?_)
      · skip
        have hy := ls_yes hls c_27
        have hz0 := hy.1.1
        have hz4 := z40 hy.1.2
        have eR : rf_jud mn w z = 0 := by unfold rf_jud; rw [if_neg (fun z9 => z9 c_12), if_neg (z_m1 hz0)]
        refine lv_iconst (v := 0) hx hb dX6_judge_33 (by decide) ?_
        refine lv_istore_n (lv' := [(3, .int 0), (0, .ref y), (1, .int (nI li)), (2, .int w)]) hx hb dX6_judge_34 rfl hl (by decide) rfl (fun ls hl => ?_)
        have loop_35 : ∀ (fuel : Nat), ∀ (i : Nat), (i ≤ z.toNatClampNeg) → (ffk (foP mq v (rg_val v w 0) w f) 0 z.toNatClampNeg = ffk (foP mq v (rg_val v w 0) w f) i (z.toNatClampNeg - i)) → (z.toNatClampNeg + 1 ≤ i + fuel) → ∀ (y3 : Int32), y3 = nI i → ∀ (ls : Array Slot), lv_has ls 4 [(3, .int y3), (0, .ref y), (1, .int (nI li)), (2, .int w)] → W p l e (headSpec wsX6_judge ({ frames := 3, cells := 0, slots := 0, locals := 74 })).room s m ([.ref y, .int (nI li), .int w] : List Value).toArray below meth c s.heap [] 0 0 (MQ below (va_Qi (fun (res : Int32) (u : (Nat → Int32)) => res = (if rf_jud mn w z = 0 then ffk (foP mq v (rg_val v w 0) w f) 0 z.toNatClampNeg else rf_jud mn w z) ∧ u = (if rf_jud mn w z = 0 then G else md_bump G (rf_jud mn w z))) (Bw D (fun (u : (Nat → Int32)) => [(y, .inr (6, [.ref yr, .int mq, .int mn, .ref yw, .ref yc, .int mc, .ref yl, .int me, .ref ys, .ref yp, .ref ym, .int md, .ref yo, .ref yk, .ref yt, .int mz, .ref yi, .ref yz, .ref yx, .ref yu, .int km, .int kr])), (yr, .inl (cI, 7, .inl u)), (yw, .inl (cI, 20, .inl v)), (yi, .inl (cZ, 3, .inl iB)), (yz, .inl (cI, 3, .inl iS)), (yx, .inl (cI, 120, .inl iT))]) A) A) ([.ref y, .int (nI li), .int w] : List Value).toArray s 0 0 A) (F0 m 35 ls []) := by
          intro fuel
          induction fuel with
          | zero =>
            intro i hi9 hinv hfu
            exact False.elim (by omega)
          | succ fuel ih_35 =>
            intro i hi9 hinv hfu y3 ey3 ls hl
            subst ey3
            refine lv_iload_n hx hb dX6_judge_35 rfl (lv_at hl 0 rfl) ?_
            refine lv_aload_n hx hb dX6_judge_36 rfl (lv_at hl 1 rfl) ?_
            refine va_get (D := D) (ci := 6) (v := .ref yz) (C := RX6) (T := TX6) (N := 22) hx hb hts (in_X6_judge_X6) hown hK hP 0 rfl rfl 17 (by decide) (hts (.fieldLink RX6 48 "StepsRoundCircleModel" "sizes" "[I") (by decide +kernel)) (fun _ h9 => h9) rfl dX6_judge_37 ?_
            refine lv_iload_n hx hb dX6_judge_40 rfl (lv_at hl 2 rfl) ?_
            refine va_iald hx hb hK hP 4 0 rfl rfl (vp_in_nI hli (by omega)) dX6_judge_41 ?_
            refine lv_topi (fun z_42 hz_42 => ?_)
            have hz_42 : z = z_42 := (hz_42.trans (by rw [nI_clamp (by omega)]; exact hy.2.1)).symm
            subst hz_42
            refine lv_icmp_ge (tgt := 73) hx hb dX6_judge_42 (by decide) (fun c_42 => ?_) (fun c_42 => ?_)
            · skip
              refine lv_bipush (v := (-9)) hx hb dX6_judge_73 (by decide) ?_
              exact wrI (w1 := (fun (u : (Nat → Int32)) => [(y, .inr (6, [.ref yr, .int mq, .int mn, .ref yw, .ref yc, .int mc, .ref yl, .int me, .ref ys, .ref yp, .ref ym, .int md, .ref yo, .ref yk, .ref yt, .int mz, .ref yi, .ref yz, .ref yx, .ref yu, .int km, .int kr])), (yr, .inl (cI, 7, .inl u)), (yw, .inl (cI, 20, .inl v)), (yi, .inl (cZ, 3, .inl iB)), (yz, .inl (cI, 3, .inl iS)), (yx, .inl (cI, 120, .inl iT))])) G hx hb hr hlocks dX6_judge_75 hS (hP.sub [0, 1, 2, 3, 4, 5] rfl) (hD.sub [0, 1, 2, 3, 4, 5] (by decide) rfl) (by rw [if_pos eR, if_pos eR, hinv, show z.toNatClampNeg - i = 0 by have := (le_clamp (by omega)).mp c_42; omega]; exact ⟨rfl, rfl⟩)
            · skip
              have hiN : i < z.toNatClampNeg := (lt_clamp (by omega)).mp (Int32.not_le.mp c_42)
              refine lv_aload_n hx hb dX6_judge_45 rfl (lv_at hl 1 rfl) ?_
              refine va_get (D := D) (ci := 6) (v := .ref yx) (C := RX6) (T := TX6) (N := 22) hx hb hts (in_X6_judge_X6) hown hK hP 0 rfl rfl 18 (by decide) (hts (.fieldLink RX6 51 "StepsRoundCircleModel" "items" "[I") (by decide +kernel)) (fun _ h9 => h9) rfl dX6_judge_46 ?_
              refine lv_bipush (v := 40) hx hb dX6_judge_49 (by decide) ?_
              refine lv_iload_n hx hb dX6_judge_51 rfl (lv_at hl 2 rfl) ?_
              refine lv_imul hx hb dX6_judge_52 ?_
              refine lv_iload_n hx hb dX6_judge_53 rfl (lv_at hl 0 rfl) ?_
              refine lv_iadd hx hb dX6_judge_54 ?_
              refine lv_topi (fun z_55 hz_55 => ?_)
              have hz_55 : (nI (40 * li + i)) = z_55 := (hz_55.trans (ixN li i)).symm
              subst hz_55
              refine va_iald hx hb hK hP 5 0 rfl rfl (vp_in_nI (by omega) (by omega)) dX6_judge_55 ?_
              refine lv_topi (fun z_56 hz_56 => ?_)
              have hz_56 : (f i) = z_56 := (hz_56.trans (by rw [nI_clamp (by omega)]; exact hy.2.2 i (by omega))).symm
              subst hz_56
              refine lv_aload_n hx hb dX6_judge_56 rfl (lv_at hl 1 rfl) ?_
              refine lv_iload_n hx hb dX6_judge_57 rfl (lv_at hl 3 rfl) ?_
              refine lv_iload_n hx hb dX6_judge_58 rfl (lv_at hl 0 rfl) ?_
              refine rdV (As := [.int w, .int (nI i)]) (rest := [.int (f i)]) ⟨hx, hb, hml, hown, hts⟩ (c_X6_placeOf l D cI cZ cR y yr yw yc yl ys yp ym yo yk yt yi yz yx yu mq mn mc me md mz km kr v w (nI i) hq (w5 hm5 c_12) (hws w c_12) (⟨nI_pos' (by omega), nI_le (b := 4000) (by omega) (by omega)⟩)) (cwV 2 hts gX6_judge_X6_placeOf rfl rfl rfl (by decide +kernel) ⟨Nat.le_of_ble_eq_true rfl, Nat.le_of_ble_eq_true rfl⟩) hK hN hP 0 6 rfl rfl rfl [0, 2] rfl rfl hl.1 rfl (Nat.le_of_ble_eq_true rfl) dX6_judge_59 ⟨Nat.zero_le _, Nat.zero_le _⟩ ?_
              refine lv_icmp_eq (tgt := 67) hx hb dX6_judge_62 (by decide) (fun c_62 => ?_) (fun c_62 => ?_)
              · skip
                refine lv_iinc (v := (nI i) + 1) (lv' := [(3, .int ((nI i) + 1)), (0, .ref y), (1, .int (nI li)), (2, .int w)]) hx hb dX6_judge_67 hl (k := 0) rfl (by rfl) (by decide) rfl (fun ls hl => ?_)
                refine lv_goto (tgt := 35) hx hb dX6_judge_70 (by decide) ?_
                exact ih_35 (i + 1) (by omega) (hinv.trans (ffk_no (p := (foP mq v (rg_val v w 0) w f)) (fun z9 => z9 c_62) (by omega))) (by omega) _ (by first | rfl | exact nI_1 _ | exact nI_0.symm) ls (lv_sub hl [0, 1, 2, 3] rfl)
              · skip
                refine lv_iload_n hx hb dX6_judge_65 rfl (lv_at hl 0 rfl) ?_
                exact wrI (w1 := (fun (u : (Nat → Int32)) => [(y, .inr (6, [.ref yr, .int mq, .int mn, .ref yw, .ref yc, .int mc, .ref yl, .int me, .ref ys, .ref yp, .ref ym, .int md, .ref yo, .ref yk, .ref yt, .int mz, .ref yi, .ref yz, .ref yx, .ref yu, .int km, .int kr])), (yr, .inl (cI, 7, .inl u)), (yw, .inl (cI, 20, .inl v)), (yi, .inl (cZ, 3, .inl iB)), (yz, .inl (cI, 3, .inl iS)), (yx, .inl (cI, 120, .inl iT))])) G hx hb hr hlocks dX6_judge_66 hS (hP.sub [0, 1, 2, 3, 4, 5] rfl) (hD.sub [0, 1, 2, 3, 4, 5] (by decide) rfl) (by rw [if_pos eR, if_pos eR, hinv, ffk_yes (p := (foP mq v (rg_val v w 0) w f)) c_62 (by omega)]; exact ⟨rfl, rfl⟩)
        exact loop_35 (z.toNatClampNeg + 1) 0 (by omega) rfl (by omega) _ (by first | rfl | exact nI_1 _ | exact nI_0.symm) ls (lv_sub hl [0, 1, 2, 3] rfl)
      · skip
        refine lv_bipush (v := (-11)) hx hb dX6_judge_30 (by decide) ?_
        exact wrI (w1 := (fun (u : (Nat → Int32)) => [(y, .inr (6, [.ref yr, .int mq, .int mn, .ref yw, .ref yc, .int mc, .ref yl, .int me, .ref ys, .ref yp, .ref ym, .int md, .ref yo, .ref yk, .ref yt, .int mz, .ref yi, .ref yz, .ref yx, .ref yu, .int km, .int kr])), (yr, .inl (cI, 7, .inl u)), (yw, .inl (cI, 20, .inl v)), (yi, .inl (cZ, 3, .inl iB)), (yz, .inl (cI, 3, .inl iS)), (yx, .inl (cI, 120, .inl iT))])) G hx hb hr hlocks dX6_judge_32 hS (hP.sub [0, 1, 2, 3, 4, 5] rfl) (hD.sub [0, 1, 2, 3, 4, 5] (by decide) rfl) (by have e9 : rf_jud mn w z = -11 := (by unfold rf_jud; rw [if_neg (fun z9 => z9 c_12), if_pos (ls_no hls c_27)]); have e8 : ¬ rf_jud mn w z = 0 := (by rw [e9]; decide); simp only [if_neg e8]; exact ⟨e9.symm, (by rw [e9, bmm_11])⟩)
    · skip
      have c_12 := bi_eq0.mp c_12
      refine lv_aload_n hx hb dX6_judge_15 rfl (lv_at hl 0 rfl) ?_
      refine lv_iconst (v := (-1)) hx hb dX6_judge_16 (by decide) ?_
      refine wrVi (As := [.int (-1)]) (rest := []) (wr := [(yw, .inl (cI, 20, .inl v)), (yi, .inl (cZ, 3, .inl iB)), (yz, .inl (cI, 3, .inl iS)), (yx, .inl (cI, 120, .inl iT))]) (A := A) ⟨hx, hb, hml, hown, hts⟩ (c_X6_no l D cI cZ cR y yr yw yc yl ys yp ym yo yk yt yi yz yx yu mq mn mc me md mz km kr G (-1) (by decide) s.heap.size) (cwV 1 hts gX6_judge_X6_no rfl rfl rfl (by decide +kernel) ⟨Nat.le_of_ble_eq_true rfl, Nat.le_of_ble_eq_true rfl⟩) hK hN hP hD hS hA 0 6 rfl rfl rfl [0, 1] [2, 3, 4, 5] rfl (by decide) rfl (by decide) (by decide) rfl hl.1 rfl (Nat.le_of_ble_eq_true rfl) dX6_judge_17 ⟨Nat.zero_le _, Nat.zero_le _⟩ (fun r_17 u H locs hw hP hD hS => ?_)
      obtain ⟨G_17, rfl⟩ : ∃ z, z = u := ⟨_, rfl⟩
      try dsimp only at hw
      obtain ⟨q1_17, q2_17⟩ := hw
      have q1_17 := q1_17.symm
      subst q1_17
      have q2_17 := q2_17.symm
      subst q2_17
      have hP : va_P D vwCl [(y, .inr (6, [.ref yr, .int mq, .int mn, .ref yw, .ref yc, .int mc, .ref yl, .int me, .ref ys, .ref yp, .ref ym, .int md, .ref yo, .ref yk, .ref yt, .int mz, .ref yi, .ref yz, .ref yx, .ref yu, .int km, .int kr])), (yr, .inl (cI, 7, .inl (md_bump G (-1)))), (yw, .inl (cI, 20, .inl v)), (yi, .inl (cZ, 3, .inl iB)), (yz, .inl (cI, 3, .inl iS)), (yx, .inl (cI, 120, .inl iT))] H := hP.sub [4, 5, 0, 1, 2, 3] rfl
      have hD : va_D A [(y, .inr (6, [.ref yr, .int mq, .int mn, .ref yw, .ref yc, .int mc, .ref yl, .int me, .ref ys, .ref yp, .ref ym, .int md, .ref yo, .ref yk, .ref yt, .int mz, .ref yi, .ref yz, .ref yx, .ref yu, .int km, .int kr])), (yr, .inl (cI, 7, .inl (md_bump G (-1)))), (yw, .inl (cI, 20, .inl v)), (yi, .inl (cZ, 3, .inl iB)), (yz, .inl (cI, 3, .inl iS)), (yx, .inl (cI, 120, .inl iT))] := hD.sub [4, 5, 0, 1, 2, 3] (by decide) rfl
      exact wrI (w1 := (fun (u : (Nat → Int32)) => [(y, .inr (6, [.ref yr, .int mq, .int mn, .ref yw, .ref yc, .int mc, .ref yl, .int me, .ref ys, .ref yp, .ref ym, .int md, .ref yo, .ref yk, .ref yt, .int mz, .ref yi, .ref yz, .ref yx, .ref yu, .int km, .int kr])), (yr, .inl (cI, 7, .inl u)), (yw, .inl (cI, 20, .inl v)), (yi, .inl (cZ, 3, .inl iB)), (yz, .inl (cI, 3, .inl iS)), (yx, .inl (cI, 120, .inl iT))])) (md_bump G (-1)) hx hb hr hlocks dX6_judge_20 hS (hP.sub [0, 1, 2, 3, 4, 5] rfl) (hD.sub [0, 1, 2, 3, 4, 5] (by decide) rfl) (by have e9 : rf_jud mn w z = -1 := (by unfold rf_jud; rw [if_pos c_12]); have e8 : ¬ rf_jud mn w z = 0 := (by rw [e9]; decide); simp only [if_neg e8]; exact ⟨e9.symm, (by rw [e9])⟩)

set_option maxHeartbeats 4000000 in
set_option maxRecDepth 100000 in
theorem c_X6_tellsPlaces (l : Launch) (D : va_G) (cI cZ cR : ClassId) (y yr yw yc yl ys yp ym yo yk yt yi yz yx yu : Nat) (mq mn mc me md mz km kr : Int32) (iS iT : Nat → Int32) (li : Nat) (z : Int32) (f : Nat → Int32) (hli : li < 3) (hy : lsY iS iT li z f) (hq : okQ mq) : Met l yX6_tellsPlaces wsX6_tellsPlaces ({ frames := 1, cells := 0, slots := 0, locals := 25 }) (PcR D cI cZ cR [.ref y, .int (nI li)] [(y, .inr (6, [.ref yr, .int mq, .int mn, .ref yw, .ref yc, .int mc, .ref yl, .int me, .ref ys, .ref yp, .ref ym, .int md, .ref yo, .ref yk, .ref yt, .int mz, .ref yi, .ref yz, .ref yx, .ref yu, .int km, .int kr])), (yz, .inl (cI, 3, .inl iS)), (yx, .inl (cI, 120, .inl iT))]) (k2_QcV (.int (bi (tells mq z f)))) 0 0 (fun _ => False) := by
  refine Met.ofW (cc := cX6_tellsPlaces) (maxL := 4) (ret := (some .boolean)) (by decide) rfl ?_
  intro p e s m args below meth c s₁ B hml hv
  obtain ⟨rfl, hP, hK, hN⟩ := hv
  have hx := B.exec
  have hb := B.bytes
  have hr := B.returns
  have hts := atoms_spec (ws := wsX6_tellsPlaces) B.pre
  have hown : s.vm.findClass RX6 = some m.cls := findClass_of_methodNamed B.named
  have hlocks := B.notSynchronized
  have hP : va_P D vwCl [(y, .inr (6, [.ref yr, .int mq, .int mn, .ref yw, .ref yc, .int mc, .ref yl, .int me, .ref ys, .ref yp, .ref ym, .int md, .ref yo, .ref yk, .ref yt, .int mz, .ref yi, .ref yz, .ref yx, .ref yu, .int km, .int kr])), (yz, .inl (cI, 3, .inl iS)), (yx, .inl (cI, 120, .inl iT))] s.heap := hP
  have hl := lv_entry ([.ref y, .int (nI li)]) (n := 4) (Nat.le_of_ble_eq_true rfl)
  rw [lg_entry_eq]
  generalize (lg_sl ([.ref y, .int (nI li)]) ++ List.replicate (4 - (lg_sl ([.ref y, .int (nI li)])).length) Slot.unset).toArray = ls at hl ⊢
  have hl : lv_has ls 4 [(0, .ref y), (1, .int (nI li))] := hl
  have hz4 := z40 hy.1.2
  refine lv_aload_n hx hb dX6_tellsPlaces_0 rfl (lv_at hl 0 rfl) ?_
  refine va_get (D := D) (ci := 6) (v := .ref yz) (C := RX6) (T := TX6) (N := 22) hx hb hts (in_X6_tellsPlaces_X6) hown hK hP 0 rfl rfl 17 (by decide) (hts (.fieldLink RX6 48 "StepsRoundCircleModel" "sizes" "[I") (by decide +kernel)) (fun _ h9 => h9) rfl dX6_tellsPlaces_1 ?_
  refine lv_iload_n hx hb dX6_tellsPlaces_4 rfl (lv_at hl 1 rfl) ?_
  refine va_iald hx hb hK hP 1 0 rfl rfl (vp_in_nI hli (by omega)) dX6_tellsPlaces_5 ?_
  refine lv_topi (fun z_6 hz_6 => ?_)
  have hz_6 : z = z_6 := (hz_6.trans (by rw [nI_clamp (by omega)]; exact hy.2.1)).symm
  subst hz_6
  refine lv_iconst (v := 1) hx hb dX6_tellsPlaces_6 (by decide) ?_
  refine lv_icmp_le (tgt := 14) hx hb dX6_tellsPlaces_7 (by decide) (fun c_7 => ?_) (fun c_7 => ?_)
  · skip
    refine lv_iconst (v := 0) hx hb dX6_tellsPlaces_14 (by decide) ?_
    refine lv_istore_n (lv' := [(2, .int 0), (0, .ref y), (1, .int (nI li))]) hx hb dX6_tellsPlaces_15 rfl hl (by decide) rfl (fun ls hl => ?_)
    refine lv_iconst (v := 0) hx hb dX6_tellsPlaces_16 (by decide) ?_
    refine lv_istore_n (lv' := [(3, .int 0), (2, .int 0), (0, .ref y), (1, .int (nI li))]) hx hb dX6_tellsPlaces_17 rfl hl (by decide) rfl (fun ls hl => ?_)
    have loop_18 : ∀ (fuel : Nat), ∀ (i : Nat), (i ≤ z.toNatClampNeg) → (z.toNatClampNeg + 1 ≤ i + fuel) → ∀ (y2 : Int32), y2 = bi (2 ≤ z ∧ ∀ k, k < i → 0 ≤ f k ∧ f k < mq) → ∀ (y3 : Int32), y3 = nI i → ∀ (ls : Array Slot), lv_has ls 4 [(2, .int y2), (3, .int y3), (0, .ref y), (1, .int (nI li))] → W p l e (headSpec wsX6_tellsPlaces ({ frames := 1, cells := 0, slots := 0, locals := 25 })).room s m ([.ref y, .int (nI li)] : List Value).toArray below meth c s.heap [] 0 0 (MQ below (k2_QcV (.int (bi (tells mq z f)))) ([.ref y, .int (nI li)] : List Value).toArray s 0 0 (fun _ => False)) (F0 m 18 ls []) := by
      intro fuel
      induction fuel with
      | zero =>
        intro i hi9 hfu
        exact False.elim (by omega)
      | succ fuel ih_18 =>
        intro i hi9 hfu y2 ey2 y3 ey3 ls hl
        subst ey2
        subst ey3
        refine lv_iload_n hx hb dX6_tellsPlaces_18 rfl (lv_at hl 1 rfl) ?_
        refine lv_aload_n hx hb dX6_tellsPlaces_19 rfl (lv_at hl 2 rfl) ?_
        refine va_get (D := D) (ci := 6) (v := .ref yz) (C := RX6) (T := TX6) (N := 22) hx hb hts (in_X6_tellsPlaces_X6) hown hK hP 0 rfl rfl 17 (by decide) (hts (.fieldLink RX6 48 "StepsRoundCircleModel" "sizes" "[I") (by decide +kernel)) (fun _ h9 => h9) rfl dX6_tellsPlaces_20 ?_
        refine lv_iload_n hx hb dX6_tellsPlaces_23 rfl (lv_at hl 3 rfl) ?_
        refine va_iald hx hb hK hP 1 0 rfl rfl (vp_in_nI hli (by omega)) dX6_tellsPlaces_24 ?_
        refine lv_topi (fun z_25 hz_25 => ?_)
        have hz_25 : z = z_25 := (hz_25.trans (by rw [nI_clamp (by omega)]; exact hy.2.1)).symm
        subst hz_25
        refine lv_icmp_ge (tgt := 70) hx hb dX6_tellsPlaces_25 (by decide) (fun c_25 => ?_) (fun c_25 => ?_)
        · skip
          refine lv_iload_n hx hb dX6_tellsPlaces_70 rfl (lv_at hl 0 rfl) ?_
          exact rdZ hx hb hr hlocks dX6_tellsPlaces_71 (bi_cg ⟨fun z9 => ⟨fun k hk => z9.2 k (by have := (le_clamp (by omega)).mp c_25; omega), z9.1⟩, fun z9 => ⟨z9.2, fun k hk => z9.1 k (by omega)⟩⟩)
        · skip
          have hiN : i < z.toNatClampNeg := (lt_clamp (by omega)).mp (Int32.not_le.mp c_25)
          refine lv_iload_n hx hb dX6_tellsPlaces_28 rfl (lv_at hl 0 rfl) ?_
          refine lv_if_eq (tgt := 62) hx hb dX6_tellsPlaces_29 (by decide) (fun c_29 => ?_) (fun c_29 => ?_)
          · skip
            have c_29 := bi_eq0.mp c_29
            refine lv_iconst (v := 0) hx hb dX6_tellsPlaces_62 (by decide) ?_
            refine lv_istore_n (lv' := [(2, .int 0), (3, .int (nI i)), (0, .ref y), (1, .int (nI li))]) hx hb dX6_tellsPlaces_63 rfl hl (by decide) rfl (fun ls hl => ?_)
            refine lv_iinc (v := (nI i) + 1) (lv' := [(3, .int ((nI i) + 1)), (2, .int 0), (0, .ref y), (1, .int (nI li))]) hx hb dX6_tellsPlaces_64 hl (k := 1) rfl (by rfl) (by decide) rfl (fun ls hl => ?_)
            refine lv_goto (tgt := 18) hx hb dX6_tellsPlaces_67 (by decide) ?_
            exact ih_18 (i + 1) (by omega) (by omega) _ (bi_f (fun z9 => c_29 ⟨z9.1, fun k hk => z9.2 k (by omega)⟩)).symm _ (by first | rfl | exact nI_1 _ | exact nI_0.symm) ls (lv_sub hl [1, 0, 2, 3] rfl)
          · skip
            have c_29 := bi_ne0.mp c_29
            refine lv_aload_n hx hb dX6_tellsPlaces_32 rfl (lv_at hl 2 rfl) ?_
            refine va_get (D := D) (ci := 6) (v := .ref yx) (C := RX6) (T := TX6) (N := 22) hx hb hts (in_X6_tellsPlaces_X6) hown hK hP 0 rfl rfl 18 (by decide) (hts (.fieldLink RX6 51 "StepsRoundCircleModel" "items" "[I") (by decide +kernel)) (fun _ h9 => h9) rfl dX6_tellsPlaces_33 ?_
            refine lv_bipush (v := 40) hx hb dX6_tellsPlaces_36 (by decide) ?_
            refine lv_iload_n hx hb dX6_tellsPlaces_38 rfl (lv_at hl 3 rfl) ?_
            refine lv_imul hx hb dX6_tellsPlaces_39 ?_
            refine lv_iload_n hx hb dX6_tellsPlaces_40 rfl (lv_at hl 1 rfl) ?_
            refine lv_iadd hx hb dX6_tellsPlaces_41 ?_
            refine lv_topi (fun z_42 hz_42 => ?_)
            have hz_42 : (nI (40 * li + i)) = z_42 := (hz_42.trans (ixN li i)).symm
            subst hz_42
            refine va_iald hx hb hK hP 2 0 rfl rfl (vp_in_nI (by omega) (by omega)) dX6_tellsPlaces_42 ?_
            refine lv_topi (fun z_43 hz_43 => ?_)
            have hz_43 : (f i) = z_43 := (hz_43.trans (by rw [nI_clamp (by omega)]; exact hy.2.2 i (by omega))).symm
            subst hz_43
            refine lv_i2l hx hb dX6_tellsPlaces_43 rfl ?_
            refine lv_lconst (v := 0) hx hb dX6_tellsPlaces_44 (by decide) ?_
            refine lv_aload_n hx hb dX6_tellsPlaces_45 rfl (lv_at hl 2 rfl) ?_
            refine va_get (D := D) (ci := 6) (v := .int mq) (C := RX6) (T := TX6) (N := 22) hx hb hts (in_X6_tellsPlaces_X6) hown hK hP 0 rfl rfl 1 (by decide) (hts (.fieldLink RX6 13 "StepsRoundCircleModel" "round" "I") (by decide +kernel)) (fun _ h9 => h9) rfl dX6_tellsPlaces_46 ?_
            refine lv_iconst (v := 1) hx hb dX6_tellsPlaces_49 (by decide) ?_
            refine lv_isub hx hb dX6_tellsPlaces_50 ?_
            refine lv_i2l hx hb dX6_tellsPlaces_51 rfl ?_
            refine rdS (As := [.long ((f i).toInt64), .long 0, .long ((mq - 1).toInt64)]) (rest := []) ⟨hx, hb, hml, hown, hts⟩ (c_X6_in l D cI cZ cR ((f i).toInt64) 0 ((mq - 1).toInt64) ) (va_cwS 3 hts gX6_tellsPlaces_X6_in rfl rfl rfl (by decide +kernel) ⟨Nat.le_of_ble_eq_true rfl, Nat.le_of_ble_eq_true rfl⟩) hK hN hP [] rfl rfl hl.1 rfl (Nat.le_of_ble_eq_true rfl) dX6_tellsPlaces_52 ⟨Nat.zero_le _, Nat.zero_le _⟩ ?_
            refine lv_if_eq (tgt := 62) hx hb dX6_tellsPlaces_55 (by decide) (fun c_55 => ?_) (fun c_55 => ?_)
            · skip
              have c_55 := bi_eq0.mp c_55
              refine lv_iconst (v := 0) hx hb dX6_tellsPlaces_62 (by decide) ?_
              refine lv_istore_n (lv' := [(2, .int 0), (3, .int (nI i)), (0, .ref y), (1, .int (nI li))]) hx hb dX6_tellsPlaces_63 rfl hl (by decide) rfl (fun ls hl => ?_)
              refine lv_iinc (v := (nI i) + 1) (lv' := [(3, .int ((nI i) + 1)), (2, .int 0), (0, .ref y), (1, .int (nI li))]) hx hb dX6_tellsPlaces_64 hl (k := 1) rfl (by rfl) (by decide) rfl (fun ls hl => ?_)
              refine lv_goto (tgt := 18) hx hb dX6_tellsPlaces_67 (by decide) ?_
              exact ih_18 (i + 1) (by omega) (by omega) _ (bi_f (fun z9 => c_55 ((isw (okQ_0 hq)).mpr (z9.2 i (by omega))))).symm _ (by first | rfl | exact nI_1 _ | exact nI_0.symm) ls (lv_sub hl [1, 0, 2, 3] rfl)
            · skip
              have c_55 := bi_ne0.mp c_55
              refine lv_iconst (v := 1) hx hb dX6_tellsPlaces_58 (by decide) ?_
              refine lv_goto (tgt := 63) hx hb dX6_tellsPlaces_59 (by decide) ?_
              refine lv_istore_n (lv' := [(2, .int 1), (3, .int (nI i)), (0, .ref y), (1, .int (nI li))]) hx hb dX6_tellsPlaces_63 rfl hl (by decide) rfl (fun ls hl => ?_)
              refine lv_iinc (v := (nI i) + 1) (lv' := [(3, .int ((nI i) + 1)), (2, .int 1), (0, .ref y), (1, .int (nI li))]) hx hb dX6_tellsPlaces_64 hl (k := 1) rfl (by rfl) (by decide) rfl (fun ls hl => ?_)
              refine lv_goto (tgt := 18) hx hb dX6_tellsPlaces_67 (by decide) ?_
              exact ih_18 (i + 1) (by omega) (by omega) _ (bi_t ⟨c_29.1, lt_s c_29.2 ((isw (okQ_0 hq)).mp c_55)⟩).symm _ (by first | rfl | exact nI_1 _ | exact nI_0.symm) ls (lv_sub hl [1, 0, 2, 3] rfl)
    exact loop_18 (z.toNatClampNeg + 1) 0 (by omega) (by omega) _ (bi_f (fun z9 => by have h8 := z9.1; rw [fa_le] at h8; have h9 := c_7; rw [fa_le] at h9; have c1 : (1 : Int32).toInt = 1 := rfl; have c2 : (2 : Int32).toInt = 2 := rfl; omega)).symm _ (by first | rfl | exact nI_1 _ | exact nI_0.symm) ls (lv_sub hl [1, 0, 2, 3] rfl)
  · skip
    refine lv_iconst (v := 1) hx hb dX6_tellsPlaces_10 (by decide) ?_
    refine lv_goto (tgt := 15) hx hb dX6_tellsPlaces_11 (by decide) ?_
    refine lv_istore_n (lv' := [(2, .int 1), (0, .ref y), (1, .int (nI li))]) hx hb dX6_tellsPlaces_15 rfl hl (by decide) rfl (fun ls hl => ?_)
    refine lv_iconst (v := 0) hx hb dX6_tellsPlaces_16 (by decide) ?_
    refine lv_istore_n (lv' := [(3, .int 0), (2, .int 1), (0, .ref y), (1, .int (nI li))]) hx hb dX6_tellsPlaces_17 rfl hl (by decide) rfl (fun ls hl => ?_)
    have loop_18 : ∀ (fuel : Nat), ∀ (i : Nat), (i ≤ z.toNatClampNeg) → (z.toNatClampNeg + 1 ≤ i + fuel) → ∀ (y2 : Int32), y2 = bi (2 ≤ z ∧ ∀ k, k < i → 0 ≤ f k ∧ f k < mq) → ∀ (y3 : Int32), y3 = nI i → ∀ (ls : Array Slot), lv_has ls 4 [(2, .int y2), (3, .int y3), (0, .ref y), (1, .int (nI li))] → W p l e (headSpec wsX6_tellsPlaces ({ frames := 1, cells := 0, slots := 0, locals := 25 })).room s m ([.ref y, .int (nI li)] : List Value).toArray below meth c s.heap [] 0 0 (MQ below (k2_QcV (.int (bi (tells mq z f)))) ([.ref y, .int (nI li)] : List Value).toArray s 0 0 (fun _ => False)) (F0 m 18 ls []) := by
      intro fuel
      induction fuel with
      | zero =>
        intro i hi9 hfu
        exact False.elim (by omega)
      | succ fuel ih_18 =>
        intro i hi9 hfu y2 ey2 y3 ey3 ls hl
        subst ey2
        subst ey3
        refine lv_iload_n hx hb dX6_tellsPlaces_18 rfl (lv_at hl 1 rfl) ?_
        refine lv_aload_n hx hb dX6_tellsPlaces_19 rfl (lv_at hl 2 rfl) ?_
        refine va_get (D := D) (ci := 6) (v := .ref yz) (C := RX6) (T := TX6) (N := 22) hx hb hts (in_X6_tellsPlaces_X6) hown hK hP 0 rfl rfl 17 (by decide) (hts (.fieldLink RX6 48 "StepsRoundCircleModel" "sizes" "[I") (by decide +kernel)) (fun _ h9 => h9) rfl dX6_tellsPlaces_20 ?_
        refine lv_iload_n hx hb dX6_tellsPlaces_23 rfl (lv_at hl 3 rfl) ?_
        refine va_iald hx hb hK hP 1 0 rfl rfl (vp_in_nI hli (by omega)) dX6_tellsPlaces_24 ?_
        refine lv_topi (fun z_25 hz_25 => ?_)
        have hz_25 : z = z_25 := (hz_25.trans (by rw [nI_clamp (by omega)]; exact hy.2.1)).symm
        subst hz_25
        refine lv_icmp_ge (tgt := 70) hx hb dX6_tellsPlaces_25 (by decide) (fun c_25 => ?_) (fun c_25 => ?_)
        · skip
          refine lv_iload_n hx hb dX6_tellsPlaces_70 rfl (lv_at hl 0 rfl) ?_
          exact rdZ hx hb hr hlocks dX6_tellsPlaces_71 (bi_cg ⟨fun z9 => ⟨fun k hk => z9.2 k (by have := (le_clamp (by omega)).mp c_25; omega), z9.1⟩, fun z9 => ⟨z9.2, fun k hk => z9.1 k (by omega)⟩⟩)
        · skip
          have hiN : i < z.toNatClampNeg := (lt_clamp (by omega)).mp (Int32.not_le.mp c_25)
          refine lv_iload_n hx hb dX6_tellsPlaces_28 rfl (lv_at hl 0 rfl) ?_
          refine lv_if_eq (tgt := 62) hx hb dX6_tellsPlaces_29 (by decide) (fun c_29 => ?_) (fun c_29 => ?_)
          · skip
            have c_29 := bi_eq0.mp c_29
            refine lv_iconst (v := 0) hx hb dX6_tellsPlaces_62 (by decide) ?_
            refine lv_istore_n (lv' := [(2, .int 0), (3, .int (nI i)), (0, .ref y), (1, .int (nI li))]) hx hb dX6_tellsPlaces_63 rfl hl (by decide) rfl (fun ls hl => ?_)
            refine lv_iinc (v := (nI i) + 1) (lv' := [(3, .int ((nI i) + 1)), (2, .int 0), (0, .ref y), (1, .int (nI li))]) hx hb dX6_tellsPlaces_64 hl (k := 1) rfl (by rfl) (by decide) rfl (fun ls hl => ?_)
            refine lv_goto (tgt := 18) hx hb dX6_tellsPlaces_67 (by decide) ?_
            exact ih_18 (i + 1) (by omega) (by omega) _ (bi_f (fun z9 => c_29 ⟨z9.1, fun k hk => z9.2 k (by omega)⟩)).symm _ (by first | rfl | exact nI_1 _ | exact nI_0.symm) ls (lv_sub hl [1, 0, 2, 3] rfl)
          · skip
            have c_29 := bi_ne0.mp c_29
            refine lv_aload_n hx hb dX6_tellsPlaces_32 rfl (lv_at hl 2 rfl) ?_
            refine va_get (D := D) (ci := 6) (v := .ref yx) (C := RX6) (T := TX6) (N := 22) hx hb hts (in_X6_tellsPlaces_X6) hown hK hP 0 rfl rfl 18 (by decide) (hts (.fieldLink RX6 51 "StepsRoundCircleModel" "items" "[I") (by decide +kernel)) (fun _ h9 => h9) rfl dX6_tellsPlaces_33 ?_
            refine lv_bipush (v := 40) hx hb dX6_tellsPlaces_36 (by decide) ?_
            refine lv_iload_n hx hb dX6_tellsPlaces_38 rfl (lv_at hl 3 rfl) ?_
            refine lv_imul hx hb dX6_tellsPlaces_39 ?_
            refine lv_iload_n hx hb dX6_tellsPlaces_40 rfl (lv_at hl 1 rfl) ?_
            refine lv_iadd hx hb dX6_tellsPlaces_41 ?_
            refine lv_topi (fun z_42 hz_42 => ?_)
            have hz_42 : (nI (40 * li + i)) = z_42 := (hz_42.trans (ixN li i)).symm
            subst hz_42
            refine va_iald hx hb hK hP 2 0 rfl rfl (vp_in_nI (by omega) (by omega)) dX6_tellsPlaces_42 ?_
            refine lv_topi (fun z_43 hz_43 => ?_)
            have hz_43 : (f i) = z_43 := (hz_43.trans (by rw [nI_clamp (by omega)]; exact hy.2.2 i (by omega))).symm
            subst hz_43
            refine lv_i2l hx hb dX6_tellsPlaces_43 rfl ?_
            refine lv_lconst (v := 0) hx hb dX6_tellsPlaces_44 (by decide) ?_
            refine lv_aload_n hx hb dX6_tellsPlaces_45 rfl (lv_at hl 2 rfl) ?_
            refine va_get (D := D) (ci := 6) (v := .int mq) (C := RX6) (T := TX6) (N := 22) hx hb hts (in_X6_tellsPlaces_X6) hown hK hP 0 rfl rfl 1 (by decide) (hts (.fieldLink RX6 13 "StepsRoundCircleModel" "round" "I") (by decide +kernel)) (fun _ h9 => h9) rfl dX6_tellsPlaces_46 ?_
            refine lv_iconst (v := 1) hx hb dX6_tellsPlaces_49 (by decide) ?_
            refine lv_isub hx hb dX6_tellsPlaces_50 ?_
            refine lv_i2l hx hb dX6_tellsPlaces_51 rfl ?_
            refine rdS (As := [.long ((f i).toInt64), .long 0, .long ((mq - 1).toInt64)]) (rest := []) ⟨hx, hb, hml, hown, hts⟩ (c_X6_in l D cI cZ cR ((f i).toInt64) 0 ((mq - 1).toInt64) ) (va_cwS 3 hts gX6_tellsPlaces_X6_in rfl rfl rfl (by decide +kernel) ⟨Nat.le_of_ble_eq_true rfl, Nat.le_of_ble_eq_true rfl⟩) hK hN hP [] rfl rfl hl.1 rfl (Nat.le_of_ble_eq_true rfl) dX6_tellsPlaces_52 ⟨Nat.zero_le _, Nat.zero_le _⟩ ?_
            refine lv_if_eq (tgt := 62) hx hb dX6_tellsPlaces_55 (by decide) (fun c_55 => ?_) (fun c_55 => ?_)
            · skip
              have c_55 := bi_eq0.mp c_55
              refine lv_iconst (v := 0) hx hb dX6_tellsPlaces_62 (by decide) ?_
              refine lv_istore_n (lv' := [(2, .int 0), (3, .int (nI i)), (0, .ref y), (1, .int (nI li))]) hx hb dX6_tellsPlaces_63 rfl hl (by decide) rfl (fun ls hl => ?_)
              refine lv_iinc (v := (nI i) + 1) (lv' := [(3, .int ((nI i) + 1)), (2, .int 0), (0, .ref y), (1, .int (nI li))]) hx hb dX6_tellsPlaces_64 hl (k := 1) rfl (by rfl) (by decide) rfl (fun ls hl => ?_)
              refine lv_goto (tgt := 18) hx hb dX6_tellsPlaces_67 (by decide) ?_
              exact ih_18 (i + 1) (by omega) (by omega) _ (bi_f (fun z9 => c_55 ((isw (okQ_0 hq)).mpr (z9.2 i (by omega))))).symm _ (by first | rfl | exact nI_1 _ | exact nI_0.symm) ls (lv_sub hl [1, 0, 2, 3] rfl)
            · skip
              have c_55 := bi_ne0.mp c_55
              refine lv_iconst (v := 1) hx hb dX6_tellsPlaces_58 (by decide) ?_
              refine lv_goto (tgt := 63) hx hb dX6_tellsPlaces_59 (by decide) ?_
              refine lv_istore_n (lv' := [(2, .int 1), (3, .int (nI i)), (0, .ref y), (1, .int (nI li))]) hx hb dX6_tellsPlaces_63 rfl hl (by decide) rfl (fun ls hl => ?_)
              refine lv_iinc (v := (nI i) + 1) (lv' := [(3, .int ((nI i) + 1)), (2, .int 1), (0, .ref y), (1, .int (nI li))]) hx hb dX6_tellsPlaces_64 hl (k := 1) rfl (by rfl) (by decide) rfl (fun ls hl => ?_)
              refine lv_goto (tgt := 18) hx hb dX6_tellsPlaces_67 (by decide) ?_
              exact ih_18 (i + 1) (by omega) (by omega) _ (bi_t ⟨c_29.1, lt_s c_29.2 ((isw (okQ_0 hq)).mp c_55)⟩).symm _ (by first | rfl | exact nI_1 _ | exact nI_0.symm) ls (lv_sub hl [1, 0, 2, 3] rfl)
    exact loop_18 (z.toNatClampNeg + 1) 0 (by omega) (by omega) _ (bi_t ⟨by have h9 := c_7; rw [fa_le] at h9 ⊢; have c1 : (1 : Int32).toInt = 1 := rfl; have c2 : (2 : Int32).toInt = 2 := rfl; omega, fun k hk => absurd hk (Nat.not_lt_zero k)⟩).symm _ (by first | rfl | exact nI_1 _ | exact nI_0.symm) ls (lv_sub hl [1, 0, 2, 3] rfl)

set_option maxHeartbeats 4000000 in
set_option maxRecDepth 100000 in
theorem c_X6_hasAll (l : Launch) (D : va_G) (cI cZ cR : ClassId) (y yr yw yc yl ys yp ym yo yk yt yi yz yx yu : Nat) (mq mn mc me md mz km kr : Int32) (iS iT : Nat → Int32) (li : Nat) (z : Int32) (f : Nat → Int32) (kd st sa fg : Int32) (hli : li < 3) (hy : lsY iS iT li z f) (hq : okQ mq) (hkd : 0 ≤ kd ∧ kd < 6) (hfg : 0 ≤ fg ∧ fg < 10) : Met l yX6_hasAll wsX6_hasAll ({ frames := 2, cells := 0, slots := 0, locals := 52 }) (PcR D cI cZ cR [.ref y, .int (nI li), .int kd, .int st, .int sa, .int fg] [(y, .inr (6, [.ref yr, .int mq, .int mn, .ref yw, .ref yc, .int mc, .ref yl, .int me, .ref ys, .ref yp, .ref ym, .int md, .ref yo, .ref yk, .ref yt, .int mz, .ref yi, .ref yz, .ref yx, .ref yu, .int km, .int kr])), (yz, .inl (cI, 3, .inl iS)), (yx, .inl (cI, 120, .inl iT))]) (k2_QcV (.int (bi (∀ k, k < z.toNatClampNeg → f k = pb mq kd st sa fg (nI k).toInt64)))) 0 0 (fun _ => False) := by
  refine Met.ofW (cc := cX6_hasAll) (maxL := 7) (ret := (some .boolean)) (by decide) rfl ?_
  intro p e s m args below meth c s₁ B hml hv
  obtain ⟨rfl, hP, hK, hN⟩ := hv
  have hx := B.exec
  have hb := B.bytes
  have hr := B.returns
  have hts := atoms_spec (ws := wsX6_hasAll) B.pre
  have hown : s.vm.findClass RX6 = some m.cls := findClass_of_methodNamed B.named
  have hlocks := B.notSynchronized
  have hP : va_P D vwCl [(y, .inr (6, [.ref yr, .int mq, .int mn, .ref yw, .ref yc, .int mc, .ref yl, .int me, .ref ys, .ref yp, .ref ym, .int md, .ref yo, .ref yk, .ref yt, .int mz, .ref yi, .ref yz, .ref yx, .ref yu, .int km, .int kr])), (yz, .inl (cI, 3, .inl iS)), (yx, .inl (cI, 120, .inl iT))] s.heap := hP
  have hl := lv_entry ([.ref y, .int (nI li), .int kd, .int st, .int sa, .int fg]) (n := 7) (Nat.le_of_ble_eq_true rfl)
  rw [lg_entry_eq]
  generalize (lg_sl ([.ref y, .int (nI li), .int kd, .int st, .int sa, .int fg]) ++ List.replicate (7 - (lg_sl ([.ref y, .int (nI li), .int kd, .int st, .int sa, .int fg])).length) Slot.unset).toArray = ls at hl ⊢
  have hl : lv_has ls 7 [(0, .ref y), (1, .int (nI li)), (2, .int kd), (3, .int st), (4, .int sa), (5, .int fg)] := hl
  have hz4 := z40 hy.1.2
  refine lv_iconst (v := 0) hx hb dX6_hasAll_0 (by decide) ?_
  refine lv_istore (lv' := [(6, .int 0), (0, .ref y), (1, .int (nI li)), (2, .int kd), (3, .int st), (4, .int sa), (5, .int fg)]) hx hb dX6_hasAll_1 hl (by decide) rfl (fun ls hl => ?_)
  have loop_3 : ∀ (fuel : Nat), ∀ (i : Nat), (i ≤ z.toNatClampNeg) → (∀ k, k < i → f k = pb mq kd st sa fg (nI k).toInt64) → (z.toNatClampNeg + 1 ≤ i + fuel) → ∀ (y6 : Int32), y6 = nI i → ∀ (ls : Array Slot), lv_has ls 7 [(6, .int y6), (0, .ref y), (1, .int (nI li)), (2, .int kd), (3, .int st), (4, .int sa), (5, .int fg)] → W p l e (headSpec wsX6_hasAll ({ frames := 2, cells := 0, slots := 0, locals := 52 })).room s m ([.ref y, .int (nI li), .int kd, .int st, .int sa, .int fg] : List Value).toArray below meth c s.heap [] 0 0 (MQ below (k2_QcV (.int (bi (∀ k, k < z.toNatClampNeg → f k = pb mq kd st sa fg (nI k).toInt64)))) ([.ref y, .int (nI li), .int kd, .int st, .int sa, .int fg] : List Value).toArray s 0 0 (fun _ => False)) (F0 m 3 ls []) := by
    intro fuel
    induction fuel with
    | zero =>
      intro i hi9 hg hfu
      exact False.elim (by omega)
    | succ fuel ih_3 =>
      intro i hi9 hg hfu y6 ey6 ls hl
      subst ey6
      refine lv_iload hx hb dX6_hasAll_3 (lv_at hl 0 rfl) ?_
      refine lv_aload_n hx hb dX6_hasAll_5 rfl (lv_at hl 1 rfl) ?_
      refine va_get (D := D) (ci := 6) (v := .ref yz) (C := RX6) (T := TX6) (N := 22) hx hb hts (in_X6_hasAll_X6) hown hK hP 0 rfl rfl 17 (by decide) (hts (.fieldLink RX6 48 "StepsRoundCircleModel" "sizes" "[I") (by decide +kernel)) (fun _ h9 => h9) rfl dX6_hasAll_6 ?_
      refine lv_iload_n hx hb dX6_hasAll_9 rfl (lv_at hl 2 rfl) ?_
      refine va_iald hx hb hK hP 1 0 rfl rfl (vp_in_nI hli (by omega)) dX6_hasAll_10 ?_
      refine lv_topi (fun z_11 hz_11 => ?_)
      have hz_11 : z = z_11 := (hz_11.trans (by rw [nI_clamp (by omega)]; exact hy.2.1)).symm
      subst hz_11
      refine lv_icmp_ge (tgt := 49) hx hb dX6_hasAll_11 (by decide) (fun c_11 => ?_) (fun c_11 => ?_)
      · skip
        refine lv_iconst (v := 1) hx hb dX6_hasAll_49 (by decide) ?_
        exact rdZ hx hb hr hlocks dX6_hasAll_50 ((bi_t (fun k hk => hg k (by have := (le_clamp (by omega)).mp c_11; omega))).symm)
      · skip
        have hiN : i < z.toNatClampNeg := (lt_clamp (by omega)).mp (Int32.not_le.mp c_11)
        refine lv_aload_n hx hb dX6_hasAll_14 rfl (lv_at hl 1 rfl) ?_
        refine va_get (D := D) (ci := 6) (v := .ref yx) (C := RX6) (T := TX6) (N := 22) hx hb hts (in_X6_hasAll_X6) hown hK hP 0 rfl rfl 18 (by decide) (hts (.fieldLink RX6 51 "StepsRoundCircleModel" "items" "[I") (by decide +kernel)) (fun _ h9 => h9) rfl dX6_hasAll_15 ?_
        refine lv_bipush (v := 40) hx hb dX6_hasAll_18 (by decide) ?_
        refine lv_iload_n hx hb dX6_hasAll_20 rfl (lv_at hl 2 rfl) ?_
        refine lv_imul hx hb dX6_hasAll_21 ?_
        refine lv_iload hx hb dX6_hasAll_22 (lv_at hl 0 rfl) ?_
        refine lv_iadd hx hb dX6_hasAll_24 ?_
        refine lv_topi (fun z_25 hz_25 => ?_)
        have hz_25 : (nI (40 * li + i)) = z_25 := (hz_25.trans (ixN li i)).symm
        subst hz_25
        refine va_iald hx hb hK hP 2 0 rfl rfl (vp_in_nI (by omega) (by omega)) dX6_hasAll_25 ?_
        refine lv_topi (fun z_26 hz_26 => ?_)
        have hz_26 : (f i) = z_26 := (hz_26.trans (by rw [nI_clamp (by omega)]; exact hy.2.2 i (by omega))).symm
        subst hz_26
        refine lv_aload_n hx hb dX6_hasAll_26 rfl (lv_at hl 1 rfl) ?_
        refine lv_iload_n hx hb dX6_hasAll_27 rfl (lv_at hl 3 rfl) ?_
        refine lv_iload_n hx hb dX6_hasAll_28 rfl (lv_at hl 4 rfl) ?_
        refine lv_iload hx hb dX6_hasAll_29 (lv_at hl 5 rfl) ?_
        refine lv_iload hx hb dX6_hasAll_31 (lv_at hl 6 rfl) ?_
        refine lv_iload hx hb dX6_hasAll_33 (lv_at hl 0 rfl) ?_
        refine rdV (As := [.int kd, .int st, .int sa, .int fg, .int (nI i)]) (rest := [.int (f i)]) ⟨hx, hb, hml, hown, hts⟩ (c_X6_placeBy l D cI cZ cR y yr yw yc yl ys yp ym yo yk yt yi yz yx yu mq mn mc me md mz km kr kd st sa fg (nI i) hq hkd hfg (⟨nI_pos' (by omega), nI_le (b := 4000) (by omega) (by omega)⟩)) (cwV 5 hts gX6_hasAll_X6_placeBy rfl rfl rfl (by decide +kernel) ⟨Nat.le_of_ble_eq_true rfl, Nat.le_of_ble_eq_true rfl⟩) hK hN hP 0 6 rfl rfl rfl [0] rfl rfl hl.1 rfl (Nat.le_of_ble_eq_true rfl) dX6_hasAll_35 ⟨Nat.zero_le _, Nat.zero_le _⟩ ?_
        refine lv_icmp_eq (tgt := 43) hx hb dX6_hasAll_38 (by decide) (fun c_38 => ?_) (fun c_38 => ?_)
        · skip
          refine lv_iinc (v := (nI i) + 1) (lv' := [(6, .int ((nI i) + 1)), (0, .ref y), (1, .int (nI li)), (2, .int kd), (3, .int st), (4, .int sa), (5, .int fg)]) hx hb dX6_hasAll_43 hl (k := 0) rfl (by rfl) (by decide) rfl (fun ls hl => ?_)
          refine lv_goto (tgt := 3) hx hb dX6_hasAll_46 (by decide) ?_
          exact ih_3 (i + 1) (by omega) (lt_s hg c_38) (by omega) _ (by first | rfl | exact nI_1 _ | exact nI_0.symm) ls (lv_sub hl [0, 1, 2, 3, 4, 5, 6] rfl)
        · skip
          refine lv_iconst (v := 0) hx hb dX6_hasAll_41 (by decide) ?_
          exact rdZ hx hb hr hlocks dX6_hasAll_42 ((bi_f (fun z9 => c_38 (z9 i hiN))).symm)
  exact loop_3 (z.toNatClampNeg + 1) 0 (by omega) (fun j hj => absurd hj (Nat.not_lt_zero j)) (by omega) _ (by first | rfl | exact nI_1 _ | exact nI_0.symm) ls (lv_sub hl [0, 1, 2, 3, 4, 5, 6] rfl)

set_option maxHeartbeats 4000000 in
set_option maxRecDepth 100000 in
theorem c_X6_steps (l : Launch) (D : va_G) (cI cZ cR : ClassId) (y yr yw yc yl ys yp ym yo yk yt yi yz yx yu : Nat) (mq mn mc me md mz km kr : Int32) (G : Nat → Int32) (iB iS iT : Nat → Int32) (li : Nat) (z : Int32) (f : Nat → Int32) (k : Int32) (hli : li < 3) (hls : lsR iB iS iT li z f) (hq : okQ mq) (sz : Nat) : Met l yX6_steps wsX6_steps ({ frames := 3, cells := 0, slots := 0, locals := 78 }) (PcW D cI cZ cR [.ref y, .int (nI li), .int k] [(y, .inr (6, [.ref yr, .int mq, .int mn, .ref yw, .ref yc, .int mc, .ref yl, .int me, .ref ys, .ref yp, .ref ym, .int md, .ref yo, .ref yk, .ref yt, .int mz, .ref yi, .ref yz, .ref yx, .ref yu, .int km, .int kr])), (yr, .inl (cI, 7, .inl G)), (yi, .inl (cZ, 3, .inl iB)), (yz, .inl (cI, 3, .inl iS)), (yx, .inl (cI, 120, .inl iT))] sz) (va_Qi (fun (res : Int32) (u : (Nat → Int32)) => res = (if rf_ste mq z f k = 0 then steA mq z f k else rf_ste mq z f k) ∧ u = (if rf_ste mq z f k = 0 then G else md_bump G (rf_ste mq z f k))) (Bw D (fun (u : (Nat → Int32)) => [(y, .inr (6, [.ref yr, .int mq, .int mn, .ref yw, .ref yc, .int mc, .ref yl, .int me, .ref ys, .ref yp, .ref ym, .int md, .ref yo, .ref yk, .ref yt, .int mz, .ref yi, .ref yz, .ref yx, .ref yu, .int km, .int kr])), (yr, .inl (cI, 7, .inl u)), (yi, .inl (cZ, 3, .inl iB)), (yz, .inl (cI, 3, .inl iS)), (yx, .inl (cI, 120, .inl iT))]) (va_A [(y, .inr (6, [.ref yr, .int mq, .int mn, .ref yw, .ref yc, .int mc, .ref yl, .int me, .ref ys, .ref yp, .ref ym, .int md, .ref yo, .ref yk, .ref yt, .int mz, .ref yi, .ref yz, .ref yx, .ref yu, .int km, .int kr])), (yr, .inl (cI, 7, .inl G)), (yi, .inl (cZ, 3, .inl iB)), (yz, .inl (cI, 3, .inl iS)), (yx, .inl (cI, 120, .inl iT))] sz)) (va_A [(y, .inr (6, [.ref yr, .int mq, .int mn, .ref yw, .ref yc, .int mc, .ref yl, .int me, .ref ys, .ref yp, .ref ym, .int md, .ref yo, .ref yk, .ref yt, .int mz, .ref yi, .ref yz, .ref yx, .ref yu, .int km, .int kr])), (yr, .inl (cI, 7, .inl G)), (yi, .inl (cZ, 3, .inl iB)), (yz, .inl (cI, 3, .inl iS)), (yx, .inl (cI, 120, .inl iT))] sz)) 0 0 (va_A [(y, .inr (6, [.ref yr, .int mq, .int mn, .ref yw, .ref yc, .int mc, .ref yl, .int me, .ref ys, .ref yp, .ref ym, .int md, .ref yo, .ref yk, .ref yt, .int mz, .ref yi, .ref yz, .ref yx, .ref yu, .int km, .int kr])), (yr, .inl (cI, 7, .inl G)), (yi, .inl (cZ, 3, .inl iB)), (yz, .inl (cI, 3, .inl iS)), (yx, .inl (cI, 120, .inl iT))] sz) := by
  refine Met.ofW (cc := cX6_steps) (maxL := 6) (ret := (some .int)) (by decide) rfl ?_
  intro p e s m args below meth c s₁ B hml hv
  obtain ⟨rfl, hsz, hP, hK, hD0, hN⟩ := hv
  have hx := B.exec
  have hb := B.bytes
  have hr := B.returns
  have hts := atoms_spec (ws := wsX6_steps) B.pre
  have hown : s.vm.findClass RX6 = some m.cls := findClass_of_methodNamed B.named
  have hlocks := B.notSynchronized
  subst hsz
  have hD := hD0.self (sz := s.heap.size)
  generalize hAe : va_A [(y, .inr (6, [.ref yr, .int mq, .int mn, .ref yw, .ref yc, .int mc, .ref yl, .int me, .ref ys, .ref yp, .ref ym, .int md, .ref yo, .ref yk, .ref yt, .int mz, .ref yi, .ref yz, .ref yx, .ref yu, .int km, .int kr])), (yr, .inl (cI, 7, .inl G)), (yi, .inl (cZ, 3, .inl iB)), (yz, .inl (cI, 3, .inl iS)), (yx, .inl (cI, 120, .inl iT))] s.heap.size = A at hD ⊢
  have hA : ∀ q : Nat, s.heap.size ≤ q → A q := fun q h => by rw [← hAe]; exact Or.inr h
  have hS : va_S A s.heap s.heap [] := va_S.rf
  have hP : va_P D vwCl [(y, .inr (6, [.ref yr, .int mq, .int mn, .ref yw, .ref yc, .int mc, .ref yl, .int me, .ref ys, .ref yp, .ref ym, .int md, .ref yo, .ref yk, .ref yt, .int mz, .ref yi, .ref yz, .ref yx, .ref yu, .int km, .int kr])), (yr, .inl (cI, 7, .inl G)), (yi, .inl (cZ, 3, .inl iB)), (yz, .inl (cI, 3, .inl iS)), (yx, .inl (cI, 120, .inl iT))] s.heap := hP
  have hl := lv_entry ([.ref y, .int (nI li), .int k]) (n := 6) (Nat.le_of_ble_eq_true rfl)
  rw [lg_entry_eq]
  generalize (lg_sl ([.ref y, .int (nI li), .int k]) ++ List.replicate (6 - (lg_sl ([.ref y, .int (nI li), .int k])).length) Slot.unset).toArray = ls at hl ⊢
  have hl : lv_has ls 6 [(0, .ref y), (1, .int (nI li)), (2, .int k)] := hl
  refine lv_iload_n hx hb dX6_steps_0 rfl (lv_at hl 1 rfl) ?_
  refine rdS (As := [.int (nI li)]) (rest := []) ⟨hx, hb, hml, hown, hts⟩ (c_X6_isList l D cI cZ cR (nI li) ) (va_cwS 1 hts gX6_steps_X6_isList rfl rfl rfl (by decide +kernel) ⟨Nat.le_of_ble_eq_true rfl, Nat.le_of_ble_eq_true rfl⟩) hK hN hP [] rfl rfl hl.1 rfl (Nat.le_of_ble_eq_true rfl) dX6_steps_1 ⟨Nat.zero_le _, Nat.zero_le _⟩ ?_
  refine lv_if_ne (tgt := 13) hx hb dX6_steps_4 (by decide) (fun c_4 => ?_) (fun c_4 => ?_)
  · skip
    have c_4 := bi_ne0.mp c_4
    refine lv_iload_n hx hb dX6_steps_13 rfl (lv_at hl 2 rfl) ?_
    refine lv_i2l hx hb dX6_steps_14 rfl ?_
    refine lv_lconst (v := 0) hx hb dX6_steps_15 (by decide) ?_
    refine lv_lconst (v := 1) hx hb dX6_steps_16 (by decide) ?_
    refine rdS (As := [.long k.toInt64, .long 0, .long 1]) (rest := []) ⟨hx, hb, hml, hown, hts⟩ (c_X6_in l D cI cZ cR k.toInt64 0 1 ) (va_cwS 3 hts gX6_steps_X6_in rfl rfl rfl (by decide +kernel) ⟨Nat.le_of_ble_eq_true rfl, Nat.le_of_ble_eq_true rfl⟩) hK hN hP [] rfl rfl hl.1 rfl (Nat.le_of_ble_eq_true rfl) dX6_steps_17 ⟨Nat.zero_le _, Nat.zero_le _⟩ ?_
    refine lv_if_ne (tgt := 30) hx hb dX6_steps_20 (by decide) (fun c_20 => ?_) (fun c_20 => ?_)
    · skip
      have c_20 := bi_ne0.mp c_20
      refine lv_aload_n hx hb dX6_steps_30 rfl (lv_at hl 0 rfl) ?_
      refine va_get (D := D) (ci := 6) (v := .ref yi) (C := RX6) (T := TX6) (N := 22) hx hb hts (in_X6_steps_X6) hown hK hP 0 rfl rfl 16 (by decide) (hts (.fieldLink RX6 44 "StepsRoundCircleModel" "isThere" "[Z") (by decide +kernel)) (fun _ h9 => h9) rfl dX6_steps_31 ?_
      refine lv_iload_n hx hb dX6_steps_34 rfl (lv_at hl 1 rfl) ?_
      refine va_zald hx hb hK hP 2 1 rfl rfl (vp_in_nI hli (by omega)) dX6_steps_35 ?_
      refine lv_topi (fun z_36 hz_36 => ?_)
      have hz_36 : (iB li) = z_36 := (hz_36.trans (by rw [nI_clamp (by omega)])).symm
      subst hz_36
      refine lv_if_ne (tgt := 42) hx hb dX6_steps_36 (by decide) (fun c_36 => ?_) (fun c_36 => ?_)
      · skip
        have hy := ls_yes hls c_36
        have hz0 := hy.1.1
        have hz4 := z40 hy.1.2
        refine lv_aload_n hx hb dX6_steps_42 rfl (lv_at hl 0 rfl) ?_
        refine lv_iload_n hx hb dX6_steps_43 rfl (lv_at hl 1 rfl) ?_
        refine rdV (As := [.int (nI li)]) (rest := []) ⟨hx, hb, hml, hown, hts⟩ (c_X6_tellsPlaces l D cI cZ cR y yr yw yc yl ys yp ym yo yk yt yi yz yx yu mq mn mc me md mz km kr iS iT li z f hli hy hq) (cwV 1 hts gX6_steps_X6_tellsPlaces rfl rfl rfl (by decide +kernel) ⟨Nat.le_of_ble_eq_true rfl, Nat.le_of_ble_eq_true rfl⟩) hK hN hP 0 6 rfl rfl rfl [0, 3, 4] rfl rfl hl.1 rfl (Nat.le_of_ble_eq_true rfl) dX6_steps_44 ⟨Nat.zero_le _, Nat.zero_le _⟩ ?_
        refine lv_if_ne (tgt := 57) hx hb dX6_steps_47 (by decide) (fun c_47 => ?_) (fun c_47 => ?_)
        · skip
          have c_47 := bi_ne0.mp c_47
          have eR : rf_ste mq z f k = 0 := by unfold rf_ste; rw [if_neg (fun z9 => z9 ((md_w1 k).mp c_20)), if_neg (z_m1 hz0), if_pos c_47]
          have hQ := okQ_N hq
          have hz2 := z2N c_47.2
          refine lv_iconst (v := 0) hx hb dX6_steps_57 (by decide) ?_
          refine lv_istore_n (lv' := [(3, .int 0), (0, .ref y), (1, .int (nI li)), (2, .int k)]) hx hb dX6_steps_58 rfl hl (by decide) rfl (fun ls hl => ?_)
          refine lv_bipush (v := (-9)) hx hb dX6_steps_59 (by decide) ?_
          refine lv_istore (lv' := [(4, .int (-9)), (3, .int 0), (0, .ref y), (1, .int (nI li)), (2, .int k)]) hx hb dX6_steps_61 hl (by decide) rfl (fun ls hl => ?_)
          refine lv_iconst (v := 0) hx hb dX6_steps_63 (by decide) ?_
          refine lv_istore (lv' := [(5, .int 0), (4, .int (-9)), (3, .int 0), (0, .ref y), (1, .int (nI li)), (2, .int k)]) hx hb dX6_steps_64 hl (by decide) rfl (fun ls hl => ?_)
          have loop_66 : ∀ (fuel : Nat), ∀ (i : Nat), (i ≤ mq.toNatClampNeg) → (mq.toNatClampNeg + 1 ≤ i + fuel) → ∀ (y3 : Int32), y3 = (if stG mq z f i then 1 else 0) → ∀ (y4 : Int32), y4 = (if stG mq z f i then stO mq f else -9) → ∀ (y5 : Int32), y5 = nI i → ∀ (ls : Array Slot), lv_has ls 6 [(3, .int y3), (4, .int y4), (5, .int y5), (0, .ref y), (1, .int (nI li)), (2, .int k)] → W p l e (headSpec wsX6_steps ({ frames := 3, cells := 0, slots := 0, locals := 78 })).room s m ([.ref y, .int (nI li), .int k] : List Value).toArray below meth c s.heap [] 0 0 (MQ below (va_Qi (fun (res : Int32) (u : (Nat → Int32)) => res = (if rf_ste mq z f k = 0 then steA mq z f k else rf_ste mq z f k) ∧ u = (if rf_ste mq z f k = 0 then G else md_bump G (rf_ste mq z f k))) (Bw D (fun (u : (Nat → Int32)) => [(y, .inr (6, [.ref yr, .int mq, .int mn, .ref yw, .ref yc, .int mc, .ref yl, .int me, .ref ys, .ref yp, .ref ym, .int md, .ref yo, .ref yk, .ref yt, .int mz, .ref yi, .ref yz, .ref yx, .ref yu, .int km, .int kr])), (yr, .inl (cI, 7, .inl u)), (yi, .inl (cZ, 3, .inl iB)), (yz, .inl (cI, 3, .inl iS)), (yx, .inl (cI, 120, .inl iT))]) A) A) ([.ref y, .int (nI li), .int k] : List Value).toArray s 0 0 A) (F0 m 66 ls []) := by
            intro fuel
            induction fuel with
            | zero =>
              intro i hi9 hfu
              exact False.elim (by omega)
            | succ fuel ih_66 =>
              intro i hi9 hfu y3 ey3 y4 ey4 y5 ey5 ls hl
              subst ey3
              subst ey4
              subst ey5
              refine lv_iload hx hb dX6_steps_66 (lv_at hl 2 rfl) ?_
              refine lv_aload_n hx hb dX6_steps_68 rfl (lv_at hl 3 rfl) ?_
              refine va_get (D := D) (ci := 6) (v := .int mq) (C := RX6) (T := TX6) (N := 22) hx hb hts (in_X6_steps_X6) hown hK hP 0 rfl rfl 1 (by decide) (hts (.fieldLink RX6 13 "StepsRoundCircleModel" "round" "I") (by decide +kernel)) (fun _ h9 => h9) rfl dX6_steps_69 ?_
              refine lv_icmp_ge (tgt := 121) hx hb dX6_steps_72 (by decide) (fun c_72 => ?_) (fun c_72 => ?_)
              · skip
                have hend := ste_end (k := k) hq c_47 ((le_clamp (by omega)).mp c_72)
                refine lv_iload_n hx hb dX6_steps_121 rfl (lv_at hl 5 rfl) ?_
                refine lv_if_ne (tgt := 129) hx hb dX6_steps_122 (by decide) (fun c_122 => ?_) (fun c_122 => ?_)
                · skip
                  refine lv_iload hx hb dX6_steps_129 (lv_at hl 1 rfl) ?_
                  exact wrI (w1 := (fun (u : (Nat → Int32)) => [(y, .inr (6, [.ref yr, .int mq, .int mn, .ref yw, .ref yc, .int mc, .ref yl, .int me, .ref ys, .ref yp, .ref ym, .int md, .ref yo, .ref yk, .ref yt, .int mz, .ref yi, .ref yz, .ref yx, .ref yu, .int km, .int kr])), (yr, .inl (cI, 7, .inl u)), (yi, .inl (cZ, 3, .inl iB)), (yz, .inl (cI, 3, .inl iS)), (yx, .inl (cI, 120, .inl iT))])) G hx hb hr hlocks dX6_steps_131 hS (hP.sub [0, 1, 2, 3, 4] rfl) (hD.sub [0, 1, 2, 3, 4] (by decide) rfl) (by rw [if_pos eR, if_pos eR, hend, if_neg c_122]; exact ⟨rfl, rfl⟩)
                · skip
                  refine lv_iload_n hx hb dX6_steps_125 rfl (lv_at hl 0 rfl) ?_
                  refine lv_goto (tgt := 131) hx hb dX6_steps_126 (by decide) ?_
                  exact wrI (w1 := (fun (u : (Nat → Int32)) => [(y, .inr (6, [.ref yr, .int mq, .int mn, .ref yw, .ref yc, .int mc, .ref yl, .int me, .ref ys, .ref yp, .ref ym, .int md, .ref yo, .ref yk, .ref yt, .int mz, .ref yi, .ref yz, .ref yx, .ref yu, .int km, .int kr])), (yr, .inl (cI, 7, .inl u)), (yi, .inl (cZ, 3, .inl iB)), (yz, .inl (cI, 3, .inl iS)), (yx, .inl (cI, 120, .inl iT))])) G hx hb hr hlocks dX6_steps_131 hS (hP.sub [0, 1, 2, 3, 4] rfl) (hD.sub [0, 1, 2, 3, 4] (by decide) rfl) (by rw [if_pos eR, if_pos eR, hend, if_pos c_122]; exact ⟨rfl, rfl⟩)
              · skip
                have hiN : i < mq.toNatClampNeg := (lt_clamp (by omega)).mp (Int32.not_le.mp c_72)
                refine lv_aload_n hx hb dX6_steps_75 rfl (lv_at hl 3 rfl) ?_
                refine lv_iload_n hx hb dX6_steps_76 rfl (lv_at hl 4 rfl) ?_
                refine lv_iconst (v := 0) hx hb dX6_steps_77 (by decide) ?_
                refine lv_iload hx hb dX6_steps_78 (lv_at hl 2 rfl) ?_
                refine lv_aload_n hx hb dX6_steps_80 rfl (lv_at hl 3 rfl) ?_
                refine va_get (D := D) (ci := 6) (v := .ref yx) (C := RX6) (T := TX6) (N := 22) hx hb hts (in_X6_steps_X6) hown hK hP 0 rfl rfl 18 (by decide) (hts (.fieldLink RX6 51 "StepsRoundCircleModel" "items" "[I") (by decide +kernel)) (fun _ h9 => h9) rfl dX6_steps_81 ?_
                refine lv_bipush (v := 40) hx hb dX6_steps_84 (by decide) ?_
                refine lv_iload_n hx hb dX6_steps_86 rfl (lv_at hl 4 rfl) ?_
                refine lv_imul hx hb dX6_steps_87 ?_
                refine lv_topi (fun z_88 hz_88 => ?_)
                have hz_88 : (nI (40 * li)) = z_88 := (hz_88.trans (pk_mul 40 li)).symm
                subst hz_88
                refine va_iald hx hb hK hP 4 0 rfl rfl (vp_in_nI (by omega) (by omega)) dX6_steps_88 ?_
                refine lv_topi (fun z_89 hz_89 => ?_)
                have hz_89 : (f 0) = z_89 := (hz_89.trans (by rw [nI_clamp (by omega)]; exact hy.2.2 0 (by omega))).symm
                subst hz_89
                refine lv_iconst (v := 0) hx hb dX6_steps_89 (by decide) ?_
                refine rdV (As := [.int (nI li), .int 0, .int (nI i), .int (f 0), .int 0]) (rest := []) ⟨hx, hb, hml, hown, hts⟩ (c_X6_hasAll l D cI cZ cR y yr yw yc yl ys yp ym yo yk yt yi yz yx yu mq mn mc me md mz km kr iS iT li z f 0 (nI i) (f 0) 0 hli hy hq (by decide) (by decide)) (cwV 5 hts gX6_steps_X6_hasAll rfl rfl rfl (by decide +kernel) ⟨Nat.le_of_ble_eq_true rfl, Nat.le_of_ble_eq_true rfl⟩) hK hN hP 0 6 rfl rfl rfl [0, 3, 4] rfl rfl hl.1 rfl (Nat.le_of_ble_eq_true rfl) dX6_steps_90 ⟨Nat.zero_le _, Nat.zero_le _⟩ ?_
                refine lv_if_ne (tgt := 99) hx hb dX6_steps_93 (by decide) (fun c_93 => ?_) (fun c_93 => ?_)
                · skip
                  have c_93 := bi_ne0.mp c_93
                  refine lv_iload_n hx hb dX6_steps_99 rfl (lv_at hl 0 rfl) ?_
                  refine lv_if_ne (tgt := 108) hx hb dX6_steps_100 (by decide) (fun c_100 => ?_) (fun c_100 => ?_)
                  · skip
                    exact False.elim (c_100 (if_neg (stG_yes hq hy.1.2 c_47 hiN c_93).2.1))
                  · skip
                    refine lv_iload hx hb dX6_steps_103 (lv_at hl 2 rfl) ?_
                    refine lv_goto (tgt := 110) hx hb dX6_steps_105 (by decide) ?_
                    refine lv_istore (lv' := [(4, .int (nI i)), (3, .int (if stG mq z f i then 1 else 0)), (5, .int (nI i)), (0, .ref y), (1, .int (nI li)), (2, .int k)]) hx hb dX6_steps_110 hl (by decide) rfl (fun ls hl => ?_)
                    refine lv_iinc (v := (if stG mq z f i then 1 else 0) + 1) (lv' := [(3, .int ((if stG mq z f i then 1 else 0) + 1)), (4, .int (nI i)), (5, .int (nI i)), (0, .ref y), (1, .int (nI li)), (2, .int k)]) hx hb dX6_steps_112 hl (k := 1) rfl (by rfl) (by decide) rfl (fun ls hl => ?_)
                    refine lv_iinc (v := (nI i) + 1) (lv' := [(5, .int ((nI i) + 1)), (3, .int ((if stG mq z f i then 1 else 0) + 1)), (4, .int (nI i)), (0, .ref y), (1, .int (nI li)), (2, .int k)]) hx hb dX6_steps_115 hl (k := 2) rfl (by rfl) (by decide) rfl (fun ls hl => ?_)
                    refine lv_goto (tgt := 66) hx hb dX6_steps_118 (by decide) ?_
                    exact ih_66 (i + 1) (by omega) (by omega) _ (by rw [if_pos (stG_yes hq hy.1.2 c_47 hiN c_93).1, if_neg (stG_yes hq hy.1.2 c_47 hiN c_93).2.1]; rfl) _ (by rw [if_pos (stG_yes hq hy.1.2 c_47 hiN c_93).1]; exact (stG_yes hq hy.1.2 c_47 hiN c_93).2.2) _ (by first | rfl | exact nI_1 _ | exact nI_0.symm) ls (lv_sub hl [1, 2, 0, 3, 4, 5] rfl)
                · skip
                  have c_93 := bi_eq0.mp c_93
                  refine lv_goto (tgt := 115) hx hb dX6_steps_96 (by decide) ?_
                  refine lv_iinc (v := (nI i) + 1) (lv' := [(5, .int ((nI i) + 1)), (3, .int (if stG mq z f i then 1 else 0)), (4, .int (if stG mq z f i then stO mq f else -9)), (0, .ref y), (1, .int (nI li)), (2, .int k)]) hx hb dX6_steps_115 hl (k := 2) rfl (by rfl) (by decide) rfl (fun ls hl => ?_)
                  refine lv_goto (tgt := 66) hx hb dX6_steps_118 (by decide) ?_
                  exact ih_66 (i + 1) (by omega) (by omega) _ (by simp only [stG_no hq hy.1.2 c_47 hiN c_93]) _ (by simp only [stG_no hq hy.1.2 c_47 hiN c_93]) _ (by first | rfl | exact nI_1 _ | exact nI_0.symm) ls (lv_sub hl [1, 2, 0, 3, 4, 5] rfl)
          exact loop_66 (mq.toNatClampNeg + 1) 0 (by omega) (by omega) _ (if_neg (fun z9 => absurd z9.2 (Nat.not_lt_zero _))).symm _ (if_neg (fun z9 => absurd z9.2 (Nat.not_lt_zero _))).symm _ (by first | rfl | exact nI_1 _ | exact nI_0.symm) ls (lv_sub hl [2, 1, 0, 3, 4, 5] rfl)
        · skip
          have c_47 := bi_eq0.mp c_47
          refine lv_aload_n hx hb dX6_steps_50 rfl (lv_at hl 0 rfl) ?_
          refine lv_bipush (v := (-3)) hx hb dX6_steps_51 (by decide) ?_
          refine wrVi (As := [.int (-3)]) (rest := []) (wr := [(yi, .inl (cZ, 3, .inl iB)), (yz, .inl (cI, 3, .inl iS)), (yx, .inl (cI, 120, .inl iT))]) (A := A) ⟨hx, hb, hml, hown, hts⟩ (c_X6_no l D cI cZ cR y yr yw yc yl ys yp ym yo yk yt yi yz yx yu mq mn mc me md mz km kr G (-3) (by decide) s.heap.size) (cwV 1 hts gX6_steps_X6_no rfl rfl rfl (by decide +kernel) ⟨Nat.le_of_ble_eq_true rfl, Nat.le_of_ble_eq_true rfl⟩) hK hN hP hD hS hA 0 6 rfl rfl rfl [0, 1] [2, 3, 4] rfl (by decide) rfl (by decide) (by decide) rfl hl.1 rfl (Nat.le_of_ble_eq_true rfl) dX6_steps_53 ⟨Nat.zero_le _, Nat.zero_le _⟩ (fun r_53 u H locs hw hP hD hS => ?_)
          obtain ⟨G_53, rfl⟩ : ∃ z, z = u := ⟨_, rfl⟩
          try dsimp only at hw
          obtain ⟨q1_53, q2_53⟩ := hw
          have q1_53 := q1_53.symm
          subst q1_53
          have q2_53 := q2_53.symm
          subst q2_53
          have hP : va_P D vwCl [(y, .inr (6, [.ref yr, .int mq, .int mn, .ref yw, .ref yc, .int mc, .ref yl, .int me, .ref ys, .ref yp, .ref ym, .int md, .ref yo, .ref yk, .ref yt, .int mz, .ref yi, .ref yz, .ref yx, .ref yu, .int km, .int kr])), (yr, .inl (cI, 7, .inl (md_bump G (-3)))), (yi, .inl (cZ, 3, .inl iB)), (yz, .inl (cI, 3, .inl iS)), (yx, .inl (cI, 120, .inl iT))] H := hP.sub [3, 4, 0, 1, 2] rfl
          have hD : va_D A [(y, .inr (6, [.ref yr, .int mq, .int mn, .ref yw, .ref yc, .int mc, .ref yl, .int me, .ref ys, .ref yp, .ref ym, .int md, .ref yo, .ref yk, .ref yt, .int mz, .ref yi, .ref yz, .ref yx, .ref yu, .int km, .int kr])), (yr, .inl (cI, 7, .inl (md_bump G (-3)))), (yi, .inl (cZ, 3, .inl iB)), (yz, .inl (cI, 3, .inl iS)), (yx, .inl (cI, 120, .inl iT))] := hD.sub [3, 4, 0, 1, 2] (by decide) rfl
          exact wrI (w1 := (fun (u : (Nat → Int32)) => [(y, .inr (6, [.ref yr, .int mq, .int mn, .ref yw, .ref yc, .int mc, .ref yl, .int me, .ref ys, .ref yp, .ref ym, .int md, .ref yo, .ref yk, .ref yt, .int mz, .ref yi, .ref yz, .ref yx, .ref yu, .int km, .int kr])), (yr, .inl (cI, 7, .inl u)), (yi, .inl (cZ, 3, .inl iB)), (yz, .inl (cI, 3, .inl iS)), (yx, .inl (cI, 120, .inl iT))])) (md_bump G (-3)) hx hb hr hlocks dX6_steps_56 hS (hP.sub [0, 1, 2, 3, 4] rfl) (hD.sub [0, 1, 2, 3, 4] (by decide) rfl) (by have e9 : rf_ste mq z f k = -3 := (by unfold rf_ste; rw [if_neg (fun z9 => z9 ((md_w1 k).mp c_20)), if_neg (z_m1 hz0), if_neg c_47]); have e8 : ¬ rf_ste mq z f k = 0 := (by rw [e9]; decide); simp only [if_neg e8]; exact ⟨e9.symm, (by rw [e9])⟩)
      · skip
        refine lv_bipush (v := (-11)) hx hb dX6_steps_39 (by decide) ?_
        exact wrI (w1 := (fun (u : (Nat → Int32)) => [(y, .inr (6, [.ref yr, .int mq, .int mn, .ref yw, .ref yc, .int mc, .ref yl, .int me, .ref ys, .ref yp, .ref ym, .int md, .ref yo, .ref yk, .ref yt, .int mz, .ref yi, .ref yz, .ref yx, .ref yu, .int km, .int kr])), (yr, .inl (cI, 7, .inl u)), (yi, .inl (cZ, 3, .inl iB)), (yz, .inl (cI, 3, .inl iS)), (yx, .inl (cI, 120, .inl iT))])) G hx hb hr hlocks dX6_steps_41 hS (hP.sub [0, 1, 2, 3, 4] rfl) (hD.sub [0, 1, 2, 3, 4] (by decide) rfl) (by have e9 : rf_ste mq z f k = -11 := (by unfold rf_ste; rw [if_neg (fun z9 => z9 ((md_w1 k).mp c_20)), if_pos (ls_no hls c_36)]); have e8 : ¬ rf_ste mq z f k = 0 := (by rw [e9]; decide); simp only [if_neg e8]; exact ⟨e9.symm, (by rw [e9, bmm_11])⟩)
    · skip
      have c_20 := bi_eq0.mp c_20
      refine lv_aload_n hx hb dX6_steps_23 rfl (lv_at hl 0 rfl) ?_
      refine lv_bipush (v := (-2)) hx hb dX6_steps_24 (by decide) ?_
      refine wrVi (As := [.int (-2)]) (rest := []) (wr := [(yi, .inl (cZ, 3, .inl iB)), (yz, .inl (cI, 3, .inl iS)), (yx, .inl (cI, 120, .inl iT))]) (A := A) ⟨hx, hb, hml, hown, hts⟩ (c_X6_no l D cI cZ cR y yr yw yc yl ys yp ym yo yk yt yi yz yx yu mq mn mc me md mz km kr G (-2) (by decide) s.heap.size) (cwV 1 hts gX6_steps_X6_no rfl rfl rfl (by decide +kernel) ⟨Nat.le_of_ble_eq_true rfl, Nat.le_of_ble_eq_true rfl⟩) hK hN hP hD hS hA 0 6 rfl rfl rfl [0, 1] [2, 3, 4] rfl (by decide) rfl (by decide) (by decide) rfl hl.1 rfl (Nat.le_of_ble_eq_true rfl) dX6_steps_26 ⟨Nat.zero_le _, Nat.zero_le _⟩ (fun r_26 u H locs hw hP hD hS => ?_)
      obtain ⟨G_26, rfl⟩ : ∃ z, z = u := ⟨_, rfl⟩
      try dsimp only at hw
      obtain ⟨q1_26, q2_26⟩ := hw
      have q1_26 := q1_26.symm
      subst q1_26
      have q2_26 := q2_26.symm
      subst q2_26
      have hP : va_P D vwCl [(y, .inr (6, [.ref yr, .int mq, .int mn, .ref yw, .ref yc, .int mc, .ref yl, .int me, .ref ys, .ref yp, .ref ym, .int md, .ref yo, .ref yk, .ref yt, .int mz, .ref yi, .ref yz, .ref yx, .ref yu, .int km, .int kr])), (yr, .inl (cI, 7, .inl (md_bump G (-2)))), (yi, .inl (cZ, 3, .inl iB)), (yz, .inl (cI, 3, .inl iS)), (yx, .inl (cI, 120, .inl iT))] H := hP.sub [3, 4, 0, 1, 2] rfl
      have hD : va_D A [(y, .inr (6, [.ref yr, .int mq, .int mn, .ref yw, .ref yc, .int mc, .ref yl, .int me, .ref ys, .ref yp, .ref ym, .int md, .ref yo, .ref yk, .ref yt, .int mz, .ref yi, .ref yz, .ref yx, .ref yu, .int km, .int kr])), (yr, .inl (cI, 7, .inl (md_bump G (-2)))), (yi, .inl (cZ, 3, .inl iB)), (yz, .inl (cI, 3, .inl iS)), (yx, .inl (cI, 120, .inl iT))] := hD.sub [3, 4, 0, 1, 2] (by decide) rfl
      exact wrI (w1 := (fun (u : (Nat → Int32)) => [(y, .inr (6, [.ref yr, .int mq, .int mn, .ref yw, .ref yc, .int mc, .ref yl, .int me, .ref ys, .ref yp, .ref ym, .int md, .ref yo, .ref yk, .ref yt, .int mz, .ref yi, .ref yz, .ref yx, .ref yu, .int km, .int kr])), (yr, .inl (cI, 7, .inl u)), (yi, .inl (cZ, 3, .inl iB)), (yz, .inl (cI, 3, .inl iS)), (yx, .inl (cI, 120, .inl iT))])) (md_bump G (-2)) hx hb hr hlocks dX6_steps_29 hS (hP.sub [0, 1, 2, 3, 4] rfl) (hD.sub [0, 1, 2, 3, 4] (by decide) rfl) (by have e9 : rf_ste mq z f k = -2 := (by unfold rf_ste; rw [if_pos (mt (md_w1 k).mpr c_20)]); have e8 : ¬ rf_ste mq z f k = 0 := (by rw [e9]; decide); simp only [if_neg e8]; exact ⟨e9.symm, (by rw [e9])⟩)
  · skip
    have c_4 := bi_eq0.mp c_4
    exact False.elim (c_4 ⟨nI_pos' (by omega), nI_lt (b := 3) hli (by omega)⟩)

set_option maxHeartbeats 4000000 in
set_option maxRecDepth 100000 in
theorem c_X6_kinds (l : Launch) (D : va_G) (cI cZ cR : ClassId) (y yr yw yc yl ys yp ym yo yk yt yi yz yx yu : Nat) (mq mn mc me md mz km kr : Int32) (G : Nat → Int32) (v : Nat → Int32) (iB iS iT : Nat → Int32) (li : Nat) (z : Int32) (f : Nat → Int32) (w : Int32) (hli : li < 3) (hls : lsR iB iS iT li z f) (hq : okQ mq) (hmn : 0 ≤ mn) (hm5 : mn ≤ 5) (hws : ∀ w, 0 ≤ w ∧ w < mn → okW mq v w) (sz : Nat) : Met l yX6_kinds wsX6_kinds ({ frames := 3, cells := 0, slots := 0, locals := 78 }) (PcW D cI cZ cR [.ref y, .int (nI li), .int w] [(y, .inr (6, [.ref yr, .int mq, .int mn, .ref yw, .ref yc, .int mc, .ref yl, .int me, .ref ys, .ref yp, .ref ym, .int md, .ref yo, .ref yk, .ref yt, .int mz, .ref yi, .ref yz, .ref yx, .ref yu, .int km, .int kr])), (yr, .inl (cI, 7, .inl G)), (yw, .inl (cI, 20, .inl v)), (yi, .inl (cZ, 3, .inl iB)), (yz, .inl (cI, 3, .inl iS)), (yx, .inl (cI, 120, .inl iT))] sz) (va_Qi (fun (res : Int32) (u : (Nat → Int32)) => res = (if rf_kin mn w mq z f = 0 then kinA mq v w z f 6 else rf_kin mn w mq z f) ∧ u = (if rf_kin mn w mq z f = 0 then G else md_bump G (rf_kin mn w mq z f))) (Bw D (fun (u : (Nat → Int32)) => [(y, .inr (6, [.ref yr, .int mq, .int mn, .ref yw, .ref yc, .int mc, .ref yl, .int me, .ref ys, .ref yp, .ref ym, .int md, .ref yo, .ref yk, .ref yt, .int mz, .ref yi, .ref yz, .ref yx, .ref yu, .int km, .int kr])), (yr, .inl (cI, 7, .inl u)), (yw, .inl (cI, 20, .inl v)), (yi, .inl (cZ, 3, .inl iB)), (yz, .inl (cI, 3, .inl iS)), (yx, .inl (cI, 120, .inl iT))]) (va_A [(y, .inr (6, [.ref yr, .int mq, .int mn, .ref yw, .ref yc, .int mc, .ref yl, .int me, .ref ys, .ref yp, .ref ym, .int md, .ref yo, .ref yk, .ref yt, .int mz, .ref yi, .ref yz, .ref yx, .ref yu, .int km, .int kr])), (yr, .inl (cI, 7, .inl G)), (yw, .inl (cI, 20, .inl v)), (yi, .inl (cZ, 3, .inl iB)), (yz, .inl (cI, 3, .inl iS)), (yx, .inl (cI, 120, .inl iT))] sz)) (va_A [(y, .inr (6, [.ref yr, .int mq, .int mn, .ref yw, .ref yc, .int mc, .ref yl, .int me, .ref ys, .ref yp, .ref ym, .int md, .ref yo, .ref yk, .ref yt, .int mz, .ref yi, .ref yz, .ref yx, .ref yu, .int km, .int kr])), (yr, .inl (cI, 7, .inl G)), (yw, .inl (cI, 20, .inl v)), (yi, .inl (cZ, 3, .inl iB)), (yz, .inl (cI, 3, .inl iS)), (yx, .inl (cI, 120, .inl iT))] sz)) 0 0 (va_A [(y, .inr (6, [.ref yr, .int mq, .int mn, .ref yw, .ref yc, .int mc, .ref yl, .int me, .ref ys, .ref yp, .ref ym, .int md, .ref yo, .ref yk, .ref yt, .int mz, .ref yi, .ref yz, .ref yx, .ref yu, .int km, .int kr])), (yr, .inl (cI, 7, .inl G)), (yw, .inl (cI, 20, .inl v)), (yi, .inl (cZ, 3, .inl iB)), (yz, .inl (cI, 3, .inl iS)), (yx, .inl (cI, 120, .inl iT))] sz) := by
  refine Met.ofW (cc := cX6_kinds) (maxL := 5) (ret := (some .int)) (by decide) rfl ?_
  intro p e s m args below meth c s₁ B hml hv
  obtain ⟨rfl, hsz, hP, hK, hD0, hN⟩ := hv
  have hx := B.exec
  have hb := B.bytes
  have hr := B.returns
  have hts := atoms_spec (ws := wsX6_kinds) B.pre
  have hown : s.vm.findClass RX6 = some m.cls := findClass_of_methodNamed B.named
  have hlocks := B.notSynchronized
  subst hsz
  have hD := hD0.self (sz := s.heap.size)
  generalize hAe : va_A [(y, .inr (6, [.ref yr, .int mq, .int mn, .ref yw, .ref yc, .int mc, .ref yl, .int me, .ref ys, .ref yp, .ref ym, .int md, .ref yo, .ref yk, .ref yt, .int mz, .ref yi, .ref yz, .ref yx, .ref yu, .int km, .int kr])), (yr, .inl (cI, 7, .inl G)), (yw, .inl (cI, 20, .inl v)), (yi, .inl (cZ, 3, .inl iB)), (yz, .inl (cI, 3, .inl iS)), (yx, .inl (cI, 120, .inl iT))] s.heap.size = A at hD ⊢
  have hA : ∀ q : Nat, s.heap.size ≤ q → A q := fun q h => by rw [← hAe]; exact Or.inr h
  have hS : va_S A s.heap s.heap [] := va_S.rf
  have hP : va_P D vwCl [(y, .inr (6, [.ref yr, .int mq, .int mn, .ref yw, .ref yc, .int mc, .ref yl, .int me, .ref ys, .ref yp, .ref ym, .int md, .ref yo, .ref yk, .ref yt, .int mz, .ref yi, .ref yz, .ref yx, .ref yu, .int km, .int kr])), (yr, .inl (cI, 7, .inl G)), (yw, .inl (cI, 20, .inl v)), (yi, .inl (cZ, 3, .inl iB)), (yz, .inl (cI, 3, .inl iS)), (yx, .inl (cI, 120, .inl iT))] s.heap := hP
  have hl := lv_entry ([.ref y, .int (nI li), .int w]) (n := 5) (Nat.le_of_ble_eq_true rfl)
  rw [lg_entry_eq]
  generalize (lg_sl ([.ref y, .int (nI li), .int w]) ++ List.replicate (5 - (lg_sl ([.ref y, .int (nI li), .int w])).length) Slot.unset).toArray = ls at hl ⊢
  have hl : lv_has ls 5 [(0, .ref y), (1, .int (nI li)), (2, .int w)] := hl
  refine lv_iload_n hx hb dX6_kinds_0 rfl (lv_at hl 1 rfl) ?_
  refine rdS (As := [.int (nI li)]) (rest := []) ⟨hx, hb, hml, hown, hts⟩ (c_X6_isList l D cI cZ cR (nI li) ) (va_cwS 1 hts gX6_kinds_X6_isList rfl rfl rfl (by decide +kernel) ⟨Nat.le_of_ble_eq_true rfl, Nat.le_of_ble_eq_true rfl⟩) hK hN hP [] rfl rfl hl.1 rfl (Nat.le_of_ble_eq_true rfl) dX6_kinds_1 ⟨Nat.zero_le _, Nat.zero_le _⟩ ?_
  refine lv_if_eq (tgt := 15) hx hb dX6_kinds_4 (by decide) (fun c_4 => ?_) (fun c_4 => ?_)
  · skip
    have c_4 := bi_eq0.mp c_4
    exact False.elim (c_4 ⟨nI_pos' (by omega), nI_lt (b := 3) hli (by omega)⟩)
  · skip
    have c_4 := bi_ne0.mp c_4
    refine lv_aload_n hx hb dX6_kinds_7 rfl (lv_at hl 0 rfl) ?_
    refine lv_iload_n hx hb dX6_kinds_8 rfl (lv_at hl 2 rfl) ?_
    refine rdV (As := [.int w]) (rest := []) ⟨hx, hb, hml, hown, hts⟩ (c_X6_isWalker l D cI cZ cR y yr yw yc yl ys yp ym yo yk yt yi yz yx yu mq mn mc me md mz km kr w (by first | assumption | omega)) (cwV 1 hts gX6_kinds_X6_isWalker rfl rfl rfl (by decide +kernel) ⟨Nat.le_of_ble_eq_true rfl, Nat.le_of_ble_eq_true rfl⟩) hK hN hP 0 6 rfl rfl rfl [0] rfl rfl hl.1 rfl (Nat.le_of_ble_eq_true rfl) dX6_kinds_9 ⟨Nat.zero_le _, Nat.zero_le _⟩ ?_
    refine lv_if_ne (tgt := 21) hx hb dX6_kinds_12 (by decide) (fun c_12 => ?_) (fun c_12 => ?_)
    · skip
      have c_12 := bi_ne0.mp c_12
      refine lv_aload_n hx hb dX6_kinds_21 rfl (lv_at hl 0 rfl) ?_
      refine va_get (D := D) (ci := 6) (v := .ref yi) (C := RX6) (T := TX6) (N := 22) hx hb hts (in_X6_kinds_X6) hown hK hP 0 rfl rfl 16 (by decide) (hts (.fieldLink RX6 44 "StepsRoundCircleModel" "isThere" "[Z") (by decide +kernel)) (fun _ h9 => h9) rfl dX6_kinds_22 ?_
      refine lv_iload_n hx hb dX6_kinds_25 rfl (lv_at hl 1 rfl) ?_
      refine va_zald hx hb hK hP 3 1 rfl rfl (vp_in_nI hli (by omega)) dX6_kinds_26 ?_
      refine lv_topi (fun z_27 hz_27 => ?_)
      have hz_27 : (iB li) = z_27 := (hz_27.trans (by rw [nI_clamp (by omega)])).symm
      subst hz_27
      refine lv_if_ne (tgt := 33) hx hb dX6_kinds_27 (by decide) (fun c_27 => ?_) (fun c_27 => ?_)
      · skip
        have hy := ls_yes hls c_27
        have hz0 := hy.1.1
        have hz4 := z40 hy.1.2
        refine lv_aload_n hx hb dX6_kinds_33 rfl (lv_at hl 0 rfl) ?_
        refine lv_iload_n hx hb dX6_kinds_34 rfl (lv_at hl 1 rfl) ?_
        refine rdV (As := [.int (nI li)]) (rest := []) ⟨hx, hb, hml, hown, hts⟩ (c_X6_tellsPlaces l D cI cZ cR y yr yw yc yl ys yp ym yo yk yt yi yz yx yu mq mn mc me md mz km kr iS iT li z f hli hy hq) (cwV 1 hts gX6_kinds_X6_tellsPlaces rfl rfl rfl (by decide +kernel) ⟨Nat.le_of_ble_eq_true rfl, Nat.le_of_ble_eq_true rfl⟩) hK hN hP 0 6 rfl rfl rfl [0, 4, 5] rfl rfl hl.1 rfl (Nat.le_of_ble_eq_true rfl) dX6_kinds_35 ⟨Nat.zero_le _, Nat.zero_le _⟩ ?_
        refine lv_if_ne (tgt := 48) hx hb dX6_kinds_38 (by decide) (fun c_38 => ?_) (fun c_38 => ?_)
        · skip
          have c_38 := bi_ne0.mp c_38
          have eR : rf_kin mn w mq z f = 0 := by unfold rf_kin; rw [if_neg (fun z9 => z9 c_12), if_neg (z_m1 hz0), if_pos c_38]
          refine lv_iconst (v := 0) hx hb dX6_kinds_48 (by decide) ?_
          refine lv_istore_n (lv' := [(3, .int 0), (0, .ref y), (1, .int (nI li)), (2, .int w)]) hx hb dX6_kinds_49 rfl hl (by decide) rfl (fun ls hl => ?_)
          refine lv_iconst (v := 0) hx hb dX6_kinds_50 (by decide) ?_
          refine lv_istore (lv' := [(4, .int 0), (3, .int 0), (0, .ref y), (1, .int (nI li)), (2, .int w)]) hx hb dX6_kinds_51 hl (by decide) rfl (fun ls hl => ?_)
          have loop_53 : ∀ (fuel : Nat), ∀ (i : Nat), (i ≤ 6) → (7 ≤ i + fuel) → ∀ (y3 : Int32), y3 = kinA mq v w z f i → ∀ (y4 : Int32), y4 = nI i → ∀ (ls : Array Slot), lv_has ls 5 [(3, .int y3), (4, .int y4), (0, .ref y), (1, .int (nI li)), (2, .int w)] → W p l e (headSpec wsX6_kinds ({ frames := 3, cells := 0, slots := 0, locals := 78 })).room s m ([.ref y, .int (nI li), .int w] : List Value).toArray below meth c s.heap [] 0 0 (MQ below (va_Qi (fun (res : Int32) (u : (Nat → Int32)) => res = (if rf_kin mn w mq z f = 0 then kinA mq v w z f 6 else rf_kin mn w mq z f) ∧ u = (if rf_kin mn w mq z f = 0 then G else md_bump G (rf_kin mn w mq z f))) (Bw D (fun (u : (Nat → Int32)) => [(y, .inr (6, [.ref yr, .int mq, .int mn, .ref yw, .ref yc, .int mc, .ref yl, .int me, .ref ys, .ref yp, .ref ym, .int md, .ref yo, .ref yk, .ref yt, .int mz, .ref yi, .ref yz, .ref yx, .ref yu, .int km, .int kr])), (yr, .inl (cI, 7, .inl u)), (yw, .inl (cI, 20, .inl v)), (yi, .inl (cZ, 3, .inl iB)), (yz, .inl (cI, 3, .inl iS)), (yx, .inl (cI, 120, .inl iT))]) A) A) ([.ref y, .int (nI li), .int w] : List Value).toArray s 0 0 A) (F0 m 53 ls []) := by
            intro fuel
            induction fuel with
            | zero =>
              intro i hi9 hfu
              exact False.elim (by omega)
            | succ fuel ih_53 =>
              intro i hi9 hfu y3 ey3 y4 ey4 ls hl
              subst ey3
              subst ey4
              refine lv_iload hx hb dX6_kinds_53 (lv_at hl 1 rfl) ?_
              refine lv_bipush (v := 6) hx hb dX6_kinds_55 (by decide) ?_
              refine lv_icmp_ge (tgt := 105) hx hb dX6_kinds_57 (by decide) (fun c_57 => ?_) (fun c_57 => ?_)
              · skip
                refine lv_iload_n hx hb dX6_kinds_105 rfl (lv_at hl 0 rfl) ?_
                exact wrI (w1 := (fun (u : (Nat → Int32)) => [(y, .inr (6, [.ref yr, .int mq, .int mn, .ref yw, .ref yc, .int mc, .ref yl, .int me, .ref ys, .ref yp, .ref ym, .int md, .ref yo, .ref yk, .ref yt, .int mz, .ref yi, .ref yz, .ref yx, .ref yu, .int km, .int kr])), (yr, .inl (cI, 7, .inl u)), (yw, .inl (cI, 20, .inl v)), (yi, .inl (cZ, 3, .inl iB)), (yz, .inl (cI, 3, .inl iS)), (yx, .inl (cI, 120, .inl iT))])) G hx hb hr hlocks dX6_kinds_106 hS (hP.sub [0, 1, 2, 3, 4, 5] rfl) (hD.sub [0, 1, 2, 3, 4, 5] (by decide) rfl) (by rw [if_pos eR, if_pos eR, show i = 6 by have := (nI_leI (a := 6) (b := i) (by omega) (by omega)).mp c_57; omega]; exact ⟨rfl, rfl⟩)
              · skip
                have hiN : i < 6 := by rcases Nat.lt_or_ge i 6 with q9 | q9; exact q9; exact absurd (nI_le q9 (by omega)) c_57
                refine lv_iload_n hx hb dX6_kinds_60 rfl (lv_at hl 0 rfl) ?_
                refine lv_aload_n hx hb dX6_kinds_61 rfl (lv_at hl 2 rfl) ?_
                refine lv_iload_n hx hb dX6_kinds_62 rfl (lv_at hl 3 rfl) ?_
                refine lv_iload hx hb dX6_kinds_63 (lv_at hl 1 rfl) ?_
                refine lv_aload_n hx hb dX6_kinds_65 rfl (lv_at hl 2 rfl) ?_
                refine lv_iload_n hx hb dX6_kinds_66 rfl (lv_at hl 4 rfl) ?_
                refine lv_iconst (v := 1) hx hb dX6_kinds_67 (by decide) ?_
                refine rdV (As := [.int w, .int 1]) (rest := [.int (nI i), .int (nI li), .ref y, .int (kinA mq v w z f i)]) ⟨hx, hb, hml, hown, hts⟩ (c_X6_at l D cI cZ cR y yr yw yc yl ys yp ym yo yk yt yi yz yx yu mq mn mc me md mz km kr v w 1 (w5 hm5 c_12) (by decide)) (cwV 2 hts gX6_kinds_X6_at rfl rfl rfl (by decide +kernel) ⟨Nat.le_of_ble_eq_true rfl, Nat.le_of_ble_eq_true rfl⟩) hK hN hP 0 6 rfl rfl rfl [0, 2] rfl rfl hl.1 rfl (Nat.le_of_ble_eq_true rfl) dX6_kinds_68 ⟨Nat.zero_le _, Nat.zero_le _⟩ ?_
                refine lv_aload_n hx hb dX6_kinds_71 rfl (lv_at hl 2 rfl) ?_
                refine lv_iload_n hx hb dX6_kinds_72 rfl (lv_at hl 4 rfl) ?_
                refine lv_iconst (v := 2) hx hb dX6_kinds_73 (by decide) ?_
                refine rdV (As := [.int w, .int 2]) (rest := [.int (rg_val v w 1), .int (nI i), .int (nI li), .ref y, .int (kinA mq v w z f i)]) ⟨hx, hb, hml, hown, hts⟩ (c_X6_at l D cI cZ cR y yr yw yc yl ys yp ym yo yk yt yi yz yx yu mq mn mc me md mz km kr v w 2 (w5 hm5 c_12) (by decide)) (cwV 2 hts gX6_kinds_X6_at rfl rfl rfl (by decide +kernel) ⟨Nat.le_of_ble_eq_true rfl, Nat.le_of_ble_eq_true rfl⟩) hK hN hP 0 6 rfl rfl rfl [0, 2] rfl rfl hl.1 rfl (Nat.le_of_ble_eq_true rfl) dX6_kinds_74 ⟨Nat.zero_le _, Nat.zero_le _⟩ ?_
                refine lv_aload_n hx hb dX6_kinds_77 rfl (lv_at hl 2 rfl) ?_
                refine lv_iload_n hx hb dX6_kinds_78 rfl (lv_at hl 4 rfl) ?_
                refine lv_iconst (v := 3) hx hb dX6_kinds_79 (by decide) ?_
                refine rdV (As := [.int w, .int 3]) (rest := [.int (rg_val v w 2), .int (rg_val v w 1), .int (nI i), .int (nI li), .ref y, .int (kinA mq v w z f i)]) ⟨hx, hb, hml, hown, hts⟩ (c_X6_at l D cI cZ cR y yr yw yc yl ys yp ym yo yk yt yi yz yx yu mq mn mc me md mz km kr v w 3 (w5 hm5 c_12) (by decide)) (cwV 2 hts gX6_kinds_X6_at rfl rfl rfl (by decide +kernel) ⟨Nat.le_of_ble_eq_true rfl, Nat.le_of_ble_eq_true rfl⟩) hK hN hP 0 6 rfl rfl rfl [0, 2] rfl rfl hl.1 rfl (Nat.le_of_ble_eq_true rfl) dX6_kinds_80 ⟨Nat.zero_le _, Nat.zero_le _⟩ ?_
                refine rdV (As := [.int (nI li), .int (nI i), .int (rg_val v w 1), .int (rg_val v w 2), .int (rg_val v w 3)]) (rest := [.int (kinA mq v w z f i)]) ⟨hx, hb, hml, hown, hts⟩ (c_X6_hasAll l D cI cZ cR y yr yw yc yl ys yp ym yo yk yt yi yz yx yu mq mn mc me md mz km kr iS iT li z f (nI i) (rg_val v w 1) (rg_val v w 2) (rg_val v w 3) hli hy hq (⟨nI_pos' (by omega), nI_lt (b := 6) hiN (by omega)⟩) ((hws w c_12).2.2.2)) (cwV 5 hts gX6_kinds_X6_hasAll rfl rfl rfl (by decide +kernel) ⟨Nat.le_of_ble_eq_true rfl, Nat.le_of_ble_eq_true rfl⟩) hK hN hP 0 6 rfl rfl rfl [0, 4, 5] rfl rfl hl.1 rfl (Nat.le_of_ble_eq_true rfl) dX6_kinds_83 ⟨Nat.zero_le _, Nat.zero_le _⟩ ?_
                refine lv_if_eq (tgt := 96) hx hb dX6_kinds_86 (by decide) (fun c_86 => ?_) (fun c_86 => ?_)
                · skip
                  have c_86 := bi_eq0.mp c_86
                  refine lv_iconst (v := 0) hx hb dX6_kinds_96 (by decide) ?_
                  refine lv_ior hx hb dX6_kinds_97 ?_
                  refine lv_istore_n (lv' := [(3, .int ((kinA mq v w z f i) ||| 0)), (4, .int (nI i)), (0, .ref y), (1, .int (nI li)), (2, .int w)]) hx hb dX6_kinds_98 rfl hl (by decide) rfl (fun ls hl => ?_)
                  refine lv_iinc (v := (nI i) + 1) (lv' := [(4, .int ((nI i) + 1)), (3, .int ((kinA mq v w z f i) ||| 0)), (0, .ref y), (1, .int (nI li)), (2, .int w)]) hx hb dX6_kinds_99 hl (k := 1) rfl (by rfl) (by decide) rfl (fun ls hl => ?_)
                  refine lv_goto (tgt := 53) hx hb dX6_kinds_102 (by decide) ?_
                  exact ih_53 (i + 1) (by omega) (by omega) _ (by rw [kinA, if_neg (fun z9 => c_86 ((kin_iff hy.1.2).mp z9))]; exact Int32.or_zero) _ (by first | rfl | exact nI_1 _ | exact nI_0.symm) ls (lv_sub hl [1, 0, 2, 3, 4] rfl)
                · skip
                  have c_86 := bi_ne0.mp c_86
                  refine lv_iconst (v := 1) hx hb dX6_kinds_89 (by decide) ?_
                  refine lv_iload hx hb dX6_kinds_90 (lv_at hl 1 rfl) ?_
                  refine lv_ishl hx hb dX6_kinds_92 ?_
                  refine lv_goto (tgt := 97) hx hb dX6_kinds_93 (by decide) ?_
                  refine lv_ior hx hb dX6_kinds_97 ?_
                  refine lv_istore_n (lv' := [(3, .int ((kinA mq v w z f i) ||| (1 <<< ((nI i) &&& 31)))), (4, .int (nI i)), (0, .ref y), (1, .int (nI li)), (2, .int w)]) hx hb dX6_kinds_98 rfl hl (by decide) rfl (fun ls hl => ?_)
                  refine lv_iinc (v := (nI i) + 1) (lv' := [(4, .int ((nI i) + 1)), (3, .int ((kinA mq v w z f i) ||| (1 <<< ((nI i) &&& 31)))), (0, .ref y), (1, .int (nI li)), (2, .int w)]) hx hb dX6_kinds_99 hl (k := 1) rfl (by rfl) (by decide) rfl (fun ls hl => ?_)
                  refine lv_goto (tgt := 53) hx hb dX6_kinds_102 (by decide) ?_
                  exact ih_53 (i + 1) (by omega) (by omega) _ (by rw [kinA, if_pos ((kin_iff hy.1.2).mpr c_86)]) _ (by first | rfl | exact nI_1 _ | exact nI_0.symm) ls (lv_sub hl [1, 0, 2, 3, 4] rfl)
          exact loop_53 7 0 (by omega) (by omega) _ rfl _ (by first | rfl | exact nI_1 _ | exact nI_0.symm) ls (lv_sub hl [1, 0, 2, 3, 4] rfl)
        · skip
          have c_38 := bi_eq0.mp c_38
          refine lv_aload_n hx hb dX6_kinds_41 rfl (lv_at hl 0 rfl) ?_
          refine lv_bipush (v := (-3)) hx hb dX6_kinds_42 (by decide) ?_
          refine wrVi (As := [.int (-3)]) (rest := []) (wr := [(yw, .inl (cI, 20, .inl v)), (yi, .inl (cZ, 3, .inl iB)), (yz, .inl (cI, 3, .inl iS)), (yx, .inl (cI, 120, .inl iT))]) (A := A) ⟨hx, hb, hml, hown, hts⟩ (c_X6_no l D cI cZ cR y yr yw yc yl ys yp ym yo yk yt yi yz yx yu mq mn mc me md mz km kr G (-3) (by decide) s.heap.size) (cwV 1 hts gX6_kinds_X6_no rfl rfl rfl (by decide +kernel) ⟨Nat.le_of_ble_eq_true rfl, Nat.le_of_ble_eq_true rfl⟩) hK hN hP hD hS hA 0 6 rfl rfl rfl [0, 1] [2, 3, 4, 5] rfl (by decide) rfl (by decide) (by decide) rfl hl.1 rfl (Nat.le_of_ble_eq_true rfl) dX6_kinds_44 ⟨Nat.zero_le _, Nat.zero_le _⟩ (fun r_44 u H locs hw hP hD hS => ?_)
          obtain ⟨G_44, rfl⟩ : ∃ z, z = u := ⟨_, rfl⟩
          try dsimp only at hw
          obtain ⟨q1_44, q2_44⟩ := hw
          have q1_44 := q1_44.symm
          subst q1_44
          have q2_44 := q2_44.symm
          subst q2_44
          have hP : va_P D vwCl [(y, .inr (6, [.ref yr, .int mq, .int mn, .ref yw, .ref yc, .int mc, .ref yl, .int me, .ref ys, .ref yp, .ref ym, .int md, .ref yo, .ref yk, .ref yt, .int mz, .ref yi, .ref yz, .ref yx, .ref yu, .int km, .int kr])), (yr, .inl (cI, 7, .inl (md_bump G (-3)))), (yw, .inl (cI, 20, .inl v)), (yi, .inl (cZ, 3, .inl iB)), (yz, .inl (cI, 3, .inl iS)), (yx, .inl (cI, 120, .inl iT))] H := hP.sub [4, 5, 0, 1, 2, 3] rfl
          have hD : va_D A [(y, .inr (6, [.ref yr, .int mq, .int mn, .ref yw, .ref yc, .int mc, .ref yl, .int me, .ref ys, .ref yp, .ref ym, .int md, .ref yo, .ref yk, .ref yt, .int mz, .ref yi, .ref yz, .ref yx, .ref yu, .int km, .int kr])), (yr, .inl (cI, 7, .inl (md_bump G (-3)))), (yw, .inl (cI, 20, .inl v)), (yi, .inl (cZ, 3, .inl iB)), (yz, .inl (cI, 3, .inl iS)), (yx, .inl (cI, 120, .inl iT))] := hD.sub [4, 5, 0, 1, 2, 3] (by decide) rfl
          exact wrI (w1 := (fun (u : (Nat → Int32)) => [(y, .inr (6, [.ref yr, .int mq, .int mn, .ref yw, .ref yc, .int mc, .ref yl, .int me, .ref ys, .ref yp, .ref ym, .int md, .ref yo, .ref yk, .ref yt, .int mz, .ref yi, .ref yz, .ref yx, .ref yu, .int km, .int kr])), (yr, .inl (cI, 7, .inl u)), (yw, .inl (cI, 20, .inl v)), (yi, .inl (cZ, 3, .inl iB)), (yz, .inl (cI, 3, .inl iS)), (yx, .inl (cI, 120, .inl iT))])) (md_bump G (-3)) hx hb hr hlocks dX6_kinds_47 hS (hP.sub [0, 1, 2, 3, 4, 5] rfl) (hD.sub [0, 1, 2, 3, 4, 5] (by decide) rfl) (by have e9 : rf_kin mn w mq z f = -3 := (by unfold rf_kin; rw [if_neg (fun z9 => z9 c_12), if_neg (z_m1 hz0), if_neg c_38]); have e8 : ¬ rf_kin mn w mq z f = 0 := (by rw [e9]; decide); simp only [if_neg e8]; exact ⟨e9.symm, (by rw [e9])⟩)
      · skip
        refine lv_bipush (v := (-11)) hx hb dX6_kinds_30 (by decide) ?_
        exact wrI (w1 := (fun (u : (Nat → Int32)) => [(y, .inr (6, [.ref yr, .int mq, .int mn, .ref yw, .ref yc, .int mc, .ref yl, .int me, .ref ys, .ref yp, .ref ym, .int md, .ref yo, .ref yk, .ref yt, .int mz, .ref yi, .ref yz, .ref yx, .ref yu, .int km, .int kr])), (yr, .inl (cI, 7, .inl u)), (yw, .inl (cI, 20, .inl v)), (yi, .inl (cZ, 3, .inl iB)), (yz, .inl (cI, 3, .inl iS)), (yx, .inl (cI, 120, .inl iT))])) G hx hb hr hlocks dX6_kinds_32 hS (hP.sub [0, 1, 2, 3, 4, 5] rfl) (hD.sub [0, 1, 2, 3, 4, 5] (by decide) rfl) (by have e9 : rf_kin mn w mq z f = -11 := (by unfold rf_kin; rw [if_neg (fun z9 => z9 c_12), if_pos (ls_no hls c_27)]); have e8 : ¬ rf_kin mn w mq z f = 0 := (by rw [e9]; decide); simp only [if_neg e8]; exact ⟨e9.symm, (by rw [e9, bmm_11])⟩)
    · skip
      have c_12 := bi_eq0.mp c_12
      refine lv_aload_n hx hb dX6_kinds_15 rfl (lv_at hl 0 rfl) ?_
      refine lv_iconst (v := (-1)) hx hb dX6_kinds_16 (by decide) ?_
      refine wrVi (As := [.int (-1)]) (rest := []) (wr := [(yw, .inl (cI, 20, .inl v)), (yi, .inl (cZ, 3, .inl iB)), (yz, .inl (cI, 3, .inl iS)), (yx, .inl (cI, 120, .inl iT))]) (A := A) ⟨hx, hb, hml, hown, hts⟩ (c_X6_no l D cI cZ cR y yr yw yc yl ys yp ym yo yk yt yi yz yx yu mq mn mc me md mz km kr G (-1) (by decide) s.heap.size) (cwV 1 hts gX6_kinds_X6_no rfl rfl rfl (by decide +kernel) ⟨Nat.le_of_ble_eq_true rfl, Nat.le_of_ble_eq_true rfl⟩) hK hN hP hD hS hA 0 6 rfl rfl rfl [0, 1] [2, 3, 4, 5] rfl (by decide) rfl (by decide) (by decide) rfl hl.1 rfl (Nat.le_of_ble_eq_true rfl) dX6_kinds_17 ⟨Nat.zero_le _, Nat.zero_le _⟩ (fun r_17 u H locs hw hP hD hS => ?_)
      obtain ⟨G_17, rfl⟩ : ∃ z, z = u := ⟨_, rfl⟩
      try dsimp only at hw
      obtain ⟨q1_17, q2_17⟩ := hw
      have q1_17 := q1_17.symm
      subst q1_17
      have q2_17 := q2_17.symm
      subst q2_17
      have hP : va_P D vwCl [(y, .inr (6, [.ref yr, .int mq, .int mn, .ref yw, .ref yc, .int mc, .ref yl, .int me, .ref ys, .ref yp, .ref ym, .int md, .ref yo, .ref yk, .ref yt, .int mz, .ref yi, .ref yz, .ref yx, .ref yu, .int km, .int kr])), (yr, .inl (cI, 7, .inl (md_bump G (-1)))), (yw, .inl (cI, 20, .inl v)), (yi, .inl (cZ, 3, .inl iB)), (yz, .inl (cI, 3, .inl iS)), (yx, .inl (cI, 120, .inl iT))] H := hP.sub [4, 5, 0, 1, 2, 3] rfl
      have hD : va_D A [(y, .inr (6, [.ref yr, .int mq, .int mn, .ref yw, .ref yc, .int mc, .ref yl, .int me, .ref ys, .ref yp, .ref ym, .int md, .ref yo, .ref yk, .ref yt, .int mz, .ref yi, .ref yz, .ref yx, .ref yu, .int km, .int kr])), (yr, .inl (cI, 7, .inl (md_bump G (-1)))), (yw, .inl (cI, 20, .inl v)), (yi, .inl (cZ, 3, .inl iB)), (yz, .inl (cI, 3, .inl iS)), (yx, .inl (cI, 120, .inl iT))] := hD.sub [4, 5, 0, 1, 2, 3] (by decide) rfl
      exact wrI (w1 := (fun (u : (Nat → Int32)) => [(y, .inr (6, [.ref yr, .int mq, .int mn, .ref yw, .ref yc, .int mc, .ref yl, .int me, .ref ys, .ref yp, .ref ym, .int md, .ref yo, .ref yk, .ref yt, .int mz, .ref yi, .ref yz, .ref yx, .ref yu, .int km, .int kr])), (yr, .inl (cI, 7, .inl u)), (yw, .inl (cI, 20, .inl v)), (yi, .inl (cZ, 3, .inl iB)), (yz, .inl (cI, 3, .inl iS)), (yx, .inl (cI, 120, .inl iT))])) (md_bump G (-1)) hx hb hr hlocks dX6_kinds_20 hS (hP.sub [0, 1, 2, 3, 4, 5] rfl) (hD.sub [0, 1, 2, 3, 4, 5] (by decide) rfl) (by have e9 : rf_kin mn w mq z f = -1 := (by unfold rf_kin; rw [if_pos c_12]); have e8 : ¬ rf_kin mn w mq z f = 0 := (by rw [e9]; decide); simp only [if_neg e8]; exact ⟨e9.symm, (by rw [e9])⟩)

set_option maxHeartbeats 4000000 in
set_option maxRecDepth 100000 in
theorem c_X6_list_no (l : Launch) (D : va_G) (cI cZ cR : ClassId) (y yr yw yc yl ys yp ym yo yk yt yi yz yx yu : Nat) (mq mn mc me md mz km kr : Int32) (G : Nat → Int32) (li n : Int32) (hli : ¬ (0 ≤ li ∧ li < 3)) (sz : Nat) : Met l yX6_list wsX6_list ({ frames := 2, cells := 0, slots := 0, locals := 45 }) (PcW D cI cZ cR [.ref y, .int li, .int n] [(y, .inr (6, [.ref yr, .int mq, .int mn, .ref yw, .ref yc, .int mc, .ref yl, .int me, .ref ys, .ref yp, .ref ym, .int md, .ref yo, .ref yk, .ref yt, .int mz, .ref yi, .ref yz, .ref yx, .ref yu, .int km, .int kr])), (yr, .inl (cI, 7, .inl G))] sz) (va_Qi (fun (res : Int32) (u : (Nat → Int32)) => res = -1 ∧ u = md_bump G (-1)) (Bw D (fun (u : (Nat → Int32)) => [(y, .inr (6, [.ref yr, .int mq, .int mn, .ref yw, .ref yc, .int mc, .ref yl, .int me, .ref ys, .ref yp, .ref ym, .int md, .ref yo, .ref yk, .ref yt, .int mz, .ref yi, .ref yz, .ref yx, .ref yu, .int km, .int kr])), (yr, .inl (cI, 7, .inl u))]) (va_A [(y, .inr (6, [.ref yr, .int mq, .int mn, .ref yw, .ref yc, .int mc, .ref yl, .int me, .ref ys, .ref yp, .ref ym, .int md, .ref yo, .ref yk, .ref yt, .int mz, .ref yi, .ref yz, .ref yx, .ref yu, .int km, .int kr])), (yr, .inl (cI, 7, .inl G))] sz)) (va_A [(y, .inr (6, [.ref yr, .int mq, .int mn, .ref yw, .ref yc, .int mc, .ref yl, .int me, .ref ys, .ref yp, .ref ym, .int md, .ref yo, .ref yk, .ref yt, .int mz, .ref yi, .ref yz, .ref yx, .ref yu, .int km, .int kr])), (yr, .inl (cI, 7, .inl G))] sz)) 0 0 (va_A [(y, .inr (6, [.ref yr, .int mq, .int mn, .ref yw, .ref yc, .int mc, .ref yl, .int me, .ref ys, .ref yp, .ref ym, .int md, .ref yo, .ref yk, .ref yt, .int mz, .ref yi, .ref yz, .ref yx, .ref yu, .int km, .int kr])), (yr, .inl (cI, 7, .inl G))] sz) := by
  refine Met.ofW (cc := cX6_list) (maxL := 4) (ret := (some .int)) (by decide) rfl ?_
  intro p e s m args below meth c s₁ B hml hv
  obtain ⟨rfl, hsz, hP, hK, hD0, hN⟩ := hv
  have hx := B.exec
  have hb := B.bytes
  have hr := B.returns
  have hts := atoms_spec (ws := wsX6_list) B.pre
  have hown : s.vm.findClass RX6 = some m.cls := findClass_of_methodNamed B.named
  have hlocks := B.notSynchronized
  subst hsz
  have hD := hD0.self (sz := s.heap.size)
  generalize hAe : va_A [(y, .inr (6, [.ref yr, .int mq, .int mn, .ref yw, .ref yc, .int mc, .ref yl, .int me, .ref ys, .ref yp, .ref ym, .int md, .ref yo, .ref yk, .ref yt, .int mz, .ref yi, .ref yz, .ref yx, .ref yu, .int km, .int kr])), (yr, .inl (cI, 7, .inl G))] s.heap.size = A at hD ⊢
  have hA : ∀ q : Nat, s.heap.size ≤ q → A q := fun q h => by rw [← hAe]; exact Or.inr h
  have hS : va_S A s.heap s.heap [] := va_S.rf
  have hP : va_P D vwCl [(y, .inr (6, [.ref yr, .int mq, .int mn, .ref yw, .ref yc, .int mc, .ref yl, .int me, .ref ys, .ref yp, .ref ym, .int md, .ref yo, .ref yk, .ref yt, .int mz, .ref yi, .ref yz, .ref yx, .ref yu, .int km, .int kr])), (yr, .inl (cI, 7, .inl G))] s.heap := hP
  have hl := lv_entry ([.ref y, .int li, .int n]) (n := 4) (Nat.le_of_ble_eq_true rfl)
  rw [lg_entry_eq]
  generalize (lg_sl ([.ref y, .int li, .int n]) ++ List.replicate (4 - (lg_sl ([.ref y, .int li, .int n])).length) Slot.unset).toArray = ls at hl ⊢
  have hl : lv_has ls 4 [(0, .ref y), (1, .int li), (2, .int n)] := hl
  refine lv_iload_n hx hb dX6_list_0 rfl (lv_at hl 1 rfl) ?_
  refine rdS (As := [.int li]) (rest := []) ⟨hx, hb, hml, hown, hts⟩ (c_X6_isList l D cI cZ cR li ) (va_cwS 1 hts gX6_list_X6_isList rfl rfl rfl (by decide +kernel) ⟨Nat.le_of_ble_eq_true rfl, Nat.le_of_ble_eq_true rfl⟩) hK hN hP [] rfl rfl hl.1 rfl (Nat.le_of_ble_eq_true rfl) dX6_list_1 ⟨Nat.zero_le _, Nat.zero_le _⟩ ?_
  refine lv_if_ne (tgt := 13) hx hb dX6_list_4 (by decide) (fun c_4 => ?_) (fun c_4 => ?_)
  · skip
    have c_4 := bi_ne0.mp c_4
    exact False.elim (hli c_4)
  · skip
    have c_4 := bi_eq0.mp c_4
    refine lv_aload_n hx hb dX6_list_7 rfl (lv_at hl 0 rfl) ?_
    refine lv_iconst (v := (-1)) hx hb dX6_list_8 (by decide) ?_
    refine wrVi (As := [.int (-1)]) (rest := []) (wr := []) (A := A) ⟨hx, hb, hml, hown, hts⟩ (c_X6_no l D cI cZ cR y yr yw yc yl ys yp ym yo yk yt yi yz yx yu mq mn mc me md mz km kr G (-1) (by decide) s.heap.size) (cwV 1 hts gX6_list_X6_no rfl rfl rfl (by decide +kernel) ⟨Nat.le_of_ble_eq_true rfl, Nat.le_of_ble_eq_true rfl⟩) hK hN hP hD hS hA 0 6 rfl rfl rfl [0, 1] [] rfl (by decide) rfl (by decide) (by decide) rfl hl.1 rfl (Nat.le_of_ble_eq_true rfl) dX6_list_9 ⟨Nat.zero_le _, Nat.zero_le _⟩ (fun r_9 u H locs hw hP hD hS => ?_)
    obtain ⟨G_9, rfl⟩ : ∃ z, z = u := ⟨_, rfl⟩
    try dsimp only at hw
    obtain ⟨q1_9, q2_9⟩ := hw
    have q1_9 := q1_9.symm
    subst q1_9
    have q2_9 := q2_9.symm
    subst q2_9
    have hP : va_P D vwCl [(y, .inr (6, [.ref yr, .int mq, .int mn, .ref yw, .ref yc, .int mc, .ref yl, .int me, .ref ys, .ref yp, .ref ym, .int md, .ref yo, .ref yk, .ref yt, .int mz, .ref yi, .ref yz, .ref yx, .ref yu, .int km, .int kr])), (yr, .inl (cI, 7, .inl (md_bump G (-1))))] H := hP.sub [0, 1] rfl
    have hD : va_D A [(y, .inr (6, [.ref yr, .int mq, .int mn, .ref yw, .ref yc, .int mc, .ref yl, .int me, .ref ys, .ref yp, .ref ym, .int md, .ref yo, .ref yk, .ref yt, .int mz, .ref yi, .ref yz, .ref yx, .ref yu, .int km, .int kr])), (yr, .inl (cI, 7, .inl (md_bump G (-1))))] := hD.sub [0, 1] (by decide) rfl
    exact wrI (w1 := (fun (u : (Nat → Int32)) => [(y, .inr (6, [.ref yr, .int mq, .int mn, .ref yw, .ref yc, .int mc, .ref yl, .int me, .ref ys, .ref yp, .ref ym, .int md, .ref yo, .ref yk, .ref yt, .int mz, .ref yi, .ref yz, .ref yx, .ref yu, .int km, .int kr])), (yr, .inl (cI, 7, .inl u))])) (md_bump G (-1)) hx hb hr hlocks dX6_list_12 hS (hP.sub [0, 1] rfl) (hD.sub [0, 1] (by decide) rfl) (by first | exact ⟨rfl, rfl⟩ | rfl | (simp [bi, c_4]; done))

set_option maxHeartbeats 4000000 in
set_option maxRecDepth 100000 in
theorem c_X6_put_no (l : Launch) (D : va_G) (cI cZ cR : ClassId) (y yr yw yc yl ys yp ym yo yk yt yi yz yx yu : Nat) (mq mn mc me md mz km kr : Int32) (G : Nat → Int32) (li i x0 : Int32) (hli : ¬ (0 ≤ li ∧ li < 3)) (sz : Nat) : Met l yX6_put wsX6_put ({ frames := 2, cells := 0, slots := 0, locals := 45 }) (PcW D cI cZ cR [.ref y, .int li, .int i, .int x0] [(y, .inr (6, [.ref yr, .int mq, .int mn, .ref yw, .ref yc, .int mc, .ref yl, .int me, .ref ys, .ref yp, .ref ym, .int md, .ref yo, .ref yk, .ref yt, .int mz, .ref yi, .ref yz, .ref yx, .ref yu, .int km, .int kr])), (yr, .inl (cI, 7, .inl G))] sz) (va_Qi (fun (res : Int32) (u : (Nat → Int32)) => res = -1 ∧ u = md_bump G (-1)) (Bw D (fun (u : (Nat → Int32)) => [(y, .inr (6, [.ref yr, .int mq, .int mn, .ref yw, .ref yc, .int mc, .ref yl, .int me, .ref ys, .ref yp, .ref ym, .int md, .ref yo, .ref yk, .ref yt, .int mz, .ref yi, .ref yz, .ref yx, .ref yu, .int km, .int kr])), (yr, .inl (cI, 7, .inl u))]) (va_A [(y, .inr (6, [.ref yr, .int mq, .int mn, .ref yw, .ref yc, .int mc, .ref yl, .int me, .ref ys, .ref yp, .ref ym, .int md, .ref yo, .ref yk, .ref yt, .int mz, .ref yi, .ref yz, .ref yx, .ref yu, .int km, .int kr])), (yr, .inl (cI, 7, .inl G))] sz)) (va_A [(y, .inr (6, [.ref yr, .int mq, .int mn, .ref yw, .ref yc, .int mc, .ref yl, .int me, .ref ys, .ref yp, .ref ym, .int md, .ref yo, .ref yk, .ref yt, .int mz, .ref yi, .ref yz, .ref yx, .ref yu, .int km, .int kr])), (yr, .inl (cI, 7, .inl G))] sz)) 0 0 (va_A [(y, .inr (6, [.ref yr, .int mq, .int mn, .ref yw, .ref yc, .int mc, .ref yl, .int me, .ref ys, .ref yp, .ref ym, .int md, .ref yo, .ref yk, .ref yt, .int mz, .ref yi, .ref yz, .ref yx, .ref yu, .int km, .int kr])), (yr, .inl (cI, 7, .inl G))] sz) := by
  refine Met.ofW (cc := cX6_put) (maxL := 4) (ret := (some .int)) (by decide) rfl ?_
  intro p e s m args below meth c s₁ B hml hv
  obtain ⟨rfl, hsz, hP, hK, hD0, hN⟩ := hv
  have hx := B.exec
  have hb := B.bytes
  have hr := B.returns
  have hts := atoms_spec (ws := wsX6_put) B.pre
  have hown : s.vm.findClass RX6 = some m.cls := findClass_of_methodNamed B.named
  have hlocks := B.notSynchronized
  subst hsz
  have hD := hD0.self (sz := s.heap.size)
  generalize hAe : va_A [(y, .inr (6, [.ref yr, .int mq, .int mn, .ref yw, .ref yc, .int mc, .ref yl, .int me, .ref ys, .ref yp, .ref ym, .int md, .ref yo, .ref yk, .ref yt, .int mz, .ref yi, .ref yz, .ref yx, .ref yu, .int km, .int kr])), (yr, .inl (cI, 7, .inl G))] s.heap.size = A at hD ⊢
  have hA : ∀ q : Nat, s.heap.size ≤ q → A q := fun q h => by rw [← hAe]; exact Or.inr h
  have hS : va_S A s.heap s.heap [] := va_S.rf
  have hP : va_P D vwCl [(y, .inr (6, [.ref yr, .int mq, .int mn, .ref yw, .ref yc, .int mc, .ref yl, .int me, .ref ys, .ref yp, .ref ym, .int md, .ref yo, .ref yk, .ref yt, .int mz, .ref yi, .ref yz, .ref yx, .ref yu, .int km, .int kr])), (yr, .inl (cI, 7, .inl G))] s.heap := hP
  have hl := lv_entry ([.ref y, .int li, .int i, .int x0]) (n := 4) (Nat.le_of_ble_eq_true rfl)
  rw [lg_entry_eq]
  generalize (lg_sl ([.ref y, .int li, .int i, .int x0]) ++ List.replicate (4 - (lg_sl ([.ref y, .int li, .int i, .int x0])).length) Slot.unset).toArray = ls at hl ⊢
  have hl : lv_has ls 4 [(0, .ref y), (1, .int li), (2, .int i), (3, .int x0)] := hl
  refine lv_iload_n hx hb dX6_put_0 rfl (lv_at hl 1 rfl) ?_
  refine rdS (As := [.int li]) (rest := []) ⟨hx, hb, hml, hown, hts⟩ (c_X6_isList l D cI cZ cR li ) (va_cwS 1 hts gX6_put_X6_isList rfl rfl rfl (by decide +kernel) ⟨Nat.le_of_ble_eq_true rfl, Nat.le_of_ble_eq_true rfl⟩) hK hN hP [] rfl rfl hl.1 rfl (Nat.le_of_ble_eq_true rfl) dX6_put_1 ⟨Nat.zero_le _, Nat.zero_le _⟩ ?_
  refine lv_if_ne (tgt := 13) hx hb dX6_put_4 (by decide) (fun c_4 => ?_) (fun c_4 => ?_)
  · skip
    have c_4 := bi_ne0.mp c_4
    exact False.elim (hli c_4)
  · skip
    have c_4 := bi_eq0.mp c_4
    refine lv_aload_n hx hb dX6_put_7 rfl (lv_at hl 0 rfl) ?_
    refine lv_iconst (v := (-1)) hx hb dX6_put_8 (by decide) ?_
    refine wrVi (As := [.int (-1)]) (rest := []) (wr := []) (A := A) ⟨hx, hb, hml, hown, hts⟩ (c_X6_no l D cI cZ cR y yr yw yc yl ys yp ym yo yk yt yi yz yx yu mq mn mc me md mz km kr G (-1) (by decide) s.heap.size) (cwV 1 hts gX6_put_X6_no rfl rfl rfl (by decide +kernel) ⟨Nat.le_of_ble_eq_true rfl, Nat.le_of_ble_eq_true rfl⟩) hK hN hP hD hS hA 0 6 rfl rfl rfl [0, 1] [] rfl (by decide) rfl (by decide) (by decide) rfl hl.1 rfl (Nat.le_of_ble_eq_true rfl) dX6_put_9 ⟨Nat.zero_le _, Nat.zero_le _⟩ (fun r_9 u H locs hw hP hD hS => ?_)
    obtain ⟨G_9, rfl⟩ : ∃ z, z = u := ⟨_, rfl⟩
    try dsimp only at hw
    obtain ⟨q1_9, q2_9⟩ := hw
    have q1_9 := q1_9.symm
    subst q1_9
    have q2_9 := q2_9.symm
    subst q2_9
    have hP : va_P D vwCl [(y, .inr (6, [.ref yr, .int mq, .int mn, .ref yw, .ref yc, .int mc, .ref yl, .int me, .ref ys, .ref yp, .ref ym, .int md, .ref yo, .ref yk, .ref yt, .int mz, .ref yi, .ref yz, .ref yx, .ref yu, .int km, .int kr])), (yr, .inl (cI, 7, .inl (md_bump G (-1))))] H := hP.sub [0, 1] rfl
    have hD : va_D A [(y, .inr (6, [.ref yr, .int mq, .int mn, .ref yw, .ref yc, .int mc, .ref yl, .int me, .ref ys, .ref yp, .ref ym, .int md, .ref yo, .ref yk, .ref yt, .int mz, .ref yi, .ref yz, .ref yx, .ref yu, .int km, .int kr])), (yr, .inl (cI, 7, .inl (md_bump G (-1))))] := hD.sub [0, 1] (by decide) rfl
    exact wrI (w1 := (fun (u : (Nat → Int32)) => [(y, .inr (6, [.ref yr, .int mq, .int mn, .ref yw, .ref yc, .int mc, .ref yl, .int me, .ref ys, .ref yp, .ref ym, .int md, .ref yo, .ref yk, .ref yt, .int mz, .ref yi, .ref yz, .ref yx, .ref yu, .int km, .int kr])), (yr, .inl (cI, 7, .inl u))])) (md_bump G (-1)) hx hb hr hlocks dX6_put_12 hS (hP.sub [0, 1] rfl) (hD.sub [0, 1] (by decide) rfl) (by first | exact ⟨rfl, rfl⟩ | rfl | (simp [bi, c_4]; done))

set_option maxHeartbeats 4000000 in
set_option maxRecDepth 100000 in
theorem c_X6_look_no (l : Launch) (D : va_G) (cI cZ cR : ClassId) (y yr yw yc yl ys yp ym yo yk yt yi yz yx yu : Nat) (mq mn mc me md mz km kr : Int32) (G : Nat → Int32) (li i : Int32) (hli : ¬ (0 ≤ li ∧ li < 3)) (sz : Nat) : Met l yX6_look wsX6_look ({ frames := 2, cells := 0, slots := 0, locals := 45 }) (PcW D cI cZ cR [.ref y, .int li, .int i] [(y, .inr (6, [.ref yr, .int mq, .int mn, .ref yw, .ref yc, .int mc, .ref yl, .int me, .ref ys, .ref yp, .ref ym, .int md, .ref yo, .ref yk, .ref yt, .int mz, .ref yi, .ref yz, .ref yx, .ref yu, .int km, .int kr])), (yr, .inl (cI, 7, .inl G))] sz) (va_Ql (fun (res : Int64) (u : (Nat → Int32)) => res = 4000000000000000001 ∧ u = md_bump G (-1)) (Bw D (fun (u : (Nat → Int32)) => [(y, .inr (6, [.ref yr, .int mq, .int mn, .ref yw, .ref yc, .int mc, .ref yl, .int me, .ref ys, .ref yp, .ref ym, .int md, .ref yo, .ref yk, .ref yt, .int mz, .ref yi, .ref yz, .ref yx, .ref yu, .int km, .int kr])), (yr, .inl (cI, 7, .inl u))]) (va_A [(y, .inr (6, [.ref yr, .int mq, .int mn, .ref yw, .ref yc, .int mc, .ref yl, .int me, .ref ys, .ref yp, .ref ym, .int md, .ref yo, .ref yk, .ref yt, .int mz, .ref yi, .ref yz, .ref yx, .ref yu, .int km, .int kr])), (yr, .inl (cI, 7, .inl G))] sz)) (va_A [(y, .inr (6, [.ref yr, .int mq, .int mn, .ref yw, .ref yc, .int mc, .ref yl, .int me, .ref ys, .ref yp, .ref ym, .int md, .ref yo, .ref yk, .ref yt, .int mz, .ref yi, .ref yz, .ref yx, .ref yu, .int km, .int kr])), (yr, .inl (cI, 7, .inl G))] sz)) 0 0 (va_A [(y, .inr (6, [.ref yr, .int mq, .int mn, .ref yw, .ref yc, .int mc, .ref yl, .int me, .ref ys, .ref yp, .ref ym, .int md, .ref yo, .ref yk, .ref yt, .int mz, .ref yi, .ref yz, .ref yx, .ref yu, .int km, .int kr])), (yr, .inl (cI, 7, .inl G))] sz) := by
  refine Met.ofW (cc := cX6_look) (maxL := 3) (ret := (some .long)) (by decide) rfl ?_
  intro p e s m args below meth c s₁ B hml hv
  obtain ⟨rfl, hsz, hP, hK, hD0, hN⟩ := hv
  have hx := B.exec
  have hb := B.bytes
  have hr := B.returns
  have hts := atoms_spec (ws := wsX6_look) B.pre
  have hown : s.vm.findClass RX6 = some m.cls := findClass_of_methodNamed B.named
  have hlocks := B.notSynchronized
  subst hsz
  have hD := hD0.self (sz := s.heap.size)
  generalize hAe : va_A [(y, .inr (6, [.ref yr, .int mq, .int mn, .ref yw, .ref yc, .int mc, .ref yl, .int me, .ref ys, .ref yp, .ref ym, .int md, .ref yo, .ref yk, .ref yt, .int mz, .ref yi, .ref yz, .ref yx, .ref yu, .int km, .int kr])), (yr, .inl (cI, 7, .inl G))] s.heap.size = A at hD ⊢
  have hA : ∀ q : Nat, s.heap.size ≤ q → A q := fun q h => by rw [← hAe]; exact Or.inr h
  have hS : va_S A s.heap s.heap [] := va_S.rf
  have hP : va_P D vwCl [(y, .inr (6, [.ref yr, .int mq, .int mn, .ref yw, .ref yc, .int mc, .ref yl, .int me, .ref ys, .ref yp, .ref ym, .int md, .ref yo, .ref yk, .ref yt, .int mz, .ref yi, .ref yz, .ref yx, .ref yu, .int km, .int kr])), (yr, .inl (cI, 7, .inl G))] s.heap := hP
  have hl := lv_entry ([.ref y, .int li, .int i]) (n := 3) (Nat.le_of_ble_eq_true rfl)
  rw [lg_entry_eq]
  generalize (lg_sl ([.ref y, .int li, .int i]) ++ List.replicate (3 - (lg_sl ([.ref y, .int li, .int i])).length) Slot.unset).toArray = ls at hl ⊢
  have hl : lv_has ls 3 [(0, .ref y), (1, .int li), (2, .int i)] := hl
  refine lv_iload_n hx hb dX6_look_0 rfl (lv_at hl 1 rfl) ?_
  refine rdS (As := [.int li]) (rest := []) ⟨hx, hb, hml, hown, hts⟩ (c_X6_isList l D cI cZ cR li ) (va_cwS 1 hts gX6_look_X6_isList rfl rfl rfl (by decide +kernel) ⟨Nat.le_of_ble_eq_true rfl, Nat.le_of_ble_eq_true rfl⟩) hK hN hP [] rfl rfl hl.1 rfl (Nat.le_of_ble_eq_true rfl) dX6_look_1 ⟨Nat.zero_le _, Nat.zero_le _⟩ ?_
  refine lv_if_ne (tgt := 13) hx hb dX6_look_4 (by decide) (fun c_4 => ?_) (fun c_4 => ?_)
  · skip
    have c_4 := bi_ne0.mp c_4
    exact False.elim (hli c_4)
  · skip
    have c_4 := bi_eq0.mp c_4
    refine lv_aload_n hx hb dX6_look_7 rfl (lv_at hl 0 rfl) ?_
    refine lv_iconst (v := (-1)) hx hb dX6_look_8 (by decide) ?_
    refine wrVl (As := [.int (-1)]) (rest := []) (wr := []) (A := A) ⟨hx, hb, hml, hown, hts⟩ (c_X6_noLong l D cI cZ cR y yr yw yc yl ys yp ym yo yk yt yi yz yx yu mq mn mc me md mz km kr G (-1) (by decide) s.heap.size) (cwV 1 hts gX6_look_X6_noLong rfl rfl rfl (by decide +kernel) ⟨Nat.le_of_ble_eq_true rfl, Nat.le_of_ble_eq_true rfl⟩) hK hN hP hD hS hA 0 6 rfl rfl rfl [0, 1] [] rfl (by decide) rfl (by decide) (by decide) rfl hl.1 rfl (Nat.le_of_ble_eq_true rfl) dX6_look_9 ⟨Nat.zero_le _, Nat.zero_le _⟩ (fun r_9 u H locs hw hP hD hS => ?_)
    obtain ⟨G_9, rfl⟩ : ∃ z, z = u := ⟨_, rfl⟩
    try dsimp only at hw
    obtain ⟨q1_9, q2_9⟩ := hw
    have q1_9 := q1_9.symm
    subst q1_9
    have q2_9 := q2_9.symm
    subst q2_9
    have hP : va_P D vwCl [(y, .inr (6, [.ref yr, .int mq, .int mn, .ref yw, .ref yc, .int mc, .ref yl, .int me, .ref ys, .ref yp, .ref ym, .int md, .ref yo, .ref yk, .ref yt, .int mz, .ref yi, .ref yz, .ref yx, .ref yu, .int km, .int kr])), (yr, .inl (cI, 7, .inl (md_bump G (-1))))] H := hP.sub [0, 1] rfl
    have hD : va_D A [(y, .inr (6, [.ref yr, .int mq, .int mn, .ref yw, .ref yc, .int mc, .ref yl, .int me, .ref ys, .ref yp, .ref ym, .int md, .ref yo, .ref yk, .ref yt, .int mz, .ref yi, .ref yz, .ref yx, .ref yu, .int km, .int kr])), (yr, .inl (cI, 7, .inl (md_bump G (-1))))] := hD.sub [0, 1] (by decide) rfl
    exact wrL (w1 := (fun (u : (Nat → Int32)) => [(y, .inr (6, [.ref yr, .int mq, .int mn, .ref yw, .ref yc, .int mc, .ref yl, .int me, .ref ys, .ref yp, .ref ym, .int md, .ref yo, .ref yk, .ref yt, .int mz, .ref yi, .ref yz, .ref yx, .ref yu, .int km, .int kr])), (yr, .inl (cI, 7, .inl u))])) (md_bump G (-1)) hx hb hr hlocks dX6_look_12 hS (hP.sub [0, 1] rfl) (hD.sub [0, 1] (by decide) rfl) (by first | exact ⟨rfl, rfl⟩ | rfl | (simp [bi, c_4]; done))

set_option maxHeartbeats 4000000 in
set_option maxRecDepth 100000 in
theorem c_X6_lays_no (l : Launch) (D : va_G) (cI cZ cR : ClassId) (y yr yw yc yl ys yp ym yo yk yt yi yz yx yu : Nat) (mq mn mc me md mz km kr : Int32) (G : Nat → Int32) (li i w : Int32) (hli : ¬ (0 ≤ li ∧ li < 3)) (sz : Nat) : Met l yX6_lays wsX6_lays ({ frames := 2, cells := 0, slots := 0, locals := 45 }) (PcW D cI cZ cR [.ref y, .int li, .int i, .int w] [(y, .inr (6, [.ref yr, .int mq, .int mn, .ref yw, .ref yc, .int mc, .ref yl, .int me, .ref ys, .ref yp, .ref ym, .int md, .ref yo, .ref yk, .ref yt, .int mz, .ref yi, .ref yz, .ref yx, .ref yu, .int km, .int kr])), (yr, .inl (cI, 7, .inl G))] sz) (va_Qi (fun (res : Int32) (u : (Nat → Int32)) => res = -1 ∧ u = md_bump G (-1)) (Bw D (fun (u : (Nat → Int32)) => [(y, .inr (6, [.ref yr, .int mq, .int mn, .ref yw, .ref yc, .int mc, .ref yl, .int me, .ref ys, .ref yp, .ref ym, .int md, .ref yo, .ref yk, .ref yt, .int mz, .ref yi, .ref yz, .ref yx, .ref yu, .int km, .int kr])), (yr, .inl (cI, 7, .inl u))]) (va_A [(y, .inr (6, [.ref yr, .int mq, .int mn, .ref yw, .ref yc, .int mc, .ref yl, .int me, .ref ys, .ref yp, .ref ym, .int md, .ref yo, .ref yk, .ref yt, .int mz, .ref yi, .ref yz, .ref yx, .ref yu, .int km, .int kr])), (yr, .inl (cI, 7, .inl G))] sz)) (va_A [(y, .inr (6, [.ref yr, .int mq, .int mn, .ref yw, .ref yc, .int mc, .ref yl, .int me, .ref ys, .ref yp, .ref ym, .int md, .ref yo, .ref yk, .ref yt, .int mz, .ref yi, .ref yz, .ref yx, .ref yu, .int km, .int kr])), (yr, .inl (cI, 7, .inl G))] sz)) 0 0 (va_A [(y, .inr (6, [.ref yr, .int mq, .int mn, .ref yw, .ref yc, .int mc, .ref yl, .int me, .ref ys, .ref yp, .ref ym, .int md, .ref yo, .ref yk, .ref yt, .int mz, .ref yi, .ref yz, .ref yx, .ref yu, .int km, .int kr])), (yr, .inl (cI, 7, .inl G))] sz) := by
  refine Met.ofW (cc := cX6_lays) (maxL := 5) (ret := (some .int)) (by decide) rfl ?_
  intro p e s m args below meth c s₁ B hml hv
  obtain ⟨rfl, hsz, hP, hK, hD0, hN⟩ := hv
  have hx := B.exec
  have hb := B.bytes
  have hr := B.returns
  have hts := atoms_spec (ws := wsX6_lays) B.pre
  have hown : s.vm.findClass RX6 = some m.cls := findClass_of_methodNamed B.named
  have hlocks := B.notSynchronized
  subst hsz
  have hD := hD0.self (sz := s.heap.size)
  generalize hAe : va_A [(y, .inr (6, [.ref yr, .int mq, .int mn, .ref yw, .ref yc, .int mc, .ref yl, .int me, .ref ys, .ref yp, .ref ym, .int md, .ref yo, .ref yk, .ref yt, .int mz, .ref yi, .ref yz, .ref yx, .ref yu, .int km, .int kr])), (yr, .inl (cI, 7, .inl G))] s.heap.size = A at hD ⊢
  have hA : ∀ q : Nat, s.heap.size ≤ q → A q := fun q h => by rw [← hAe]; exact Or.inr h
  have hS : va_S A s.heap s.heap [] := va_S.rf
  have hP : va_P D vwCl [(y, .inr (6, [.ref yr, .int mq, .int mn, .ref yw, .ref yc, .int mc, .ref yl, .int me, .ref ys, .ref yp, .ref ym, .int md, .ref yo, .ref yk, .ref yt, .int mz, .ref yi, .ref yz, .ref yx, .ref yu, .int km, .int kr])), (yr, .inl (cI, 7, .inl G))] s.heap := hP
  have hl := lv_entry ([.ref y, .int li, .int i, .int w]) (n := 5) (Nat.le_of_ble_eq_true rfl)
  rw [lg_entry_eq]
  generalize (lg_sl ([.ref y, .int li, .int i, .int w]) ++ List.replicate (5 - (lg_sl ([.ref y, .int li, .int i, .int w])).length) Slot.unset).toArray = ls at hl ⊢
  have hl : lv_has ls 5 [(0, .ref y), (1, .int li), (2, .int i), (3, .int w)] := hl
  refine lv_iload_n hx hb dX6_lays_0 rfl (lv_at hl 1 rfl) ?_
  refine rdS (As := [.int li]) (rest := []) ⟨hx, hb, hml, hown, hts⟩ (c_X6_isList l D cI cZ cR li ) (va_cwS 1 hts gX6_lays_X6_isList rfl rfl rfl (by decide +kernel) ⟨Nat.le_of_ble_eq_true rfl, Nat.le_of_ble_eq_true rfl⟩) hK hN hP [] rfl rfl hl.1 rfl (Nat.le_of_ble_eq_true rfl) dX6_lays_1 ⟨Nat.zero_le _, Nat.zero_le _⟩ ?_
  refine lv_if_eq (tgt := 15) hx hb dX6_lays_4 (by decide) (fun c_4 => ?_) (fun c_4 => ?_)
  · skip
    have c_4 := bi_eq0.mp c_4
    refine lv_aload_n hx hb dX6_lays_15 rfl (lv_at hl 0 rfl) ?_
    refine lv_iconst (v := (-1)) hx hb dX6_lays_16 (by decide) ?_
    refine wrVi (As := [.int (-1)]) (rest := []) (wr := []) (A := A) ⟨hx, hb, hml, hown, hts⟩ (c_X6_no l D cI cZ cR y yr yw yc yl ys yp ym yo yk yt yi yz yx yu mq mn mc me md mz km kr G (-1) (by decide) s.heap.size) (cwV 1 hts gX6_lays_X6_no rfl rfl rfl (by decide +kernel) ⟨Nat.le_of_ble_eq_true rfl, Nat.le_of_ble_eq_true rfl⟩) hK hN hP hD hS hA 0 6 rfl rfl rfl [0, 1] [] rfl (by decide) rfl (by decide) (by decide) rfl hl.1 rfl (Nat.le_of_ble_eq_true rfl) dX6_lays_17 ⟨Nat.zero_le _, Nat.zero_le _⟩ (fun r_17 u H locs hw hP hD hS => ?_)
    obtain ⟨G_17, rfl⟩ : ∃ z, z = u := ⟨_, rfl⟩
    try dsimp only at hw
    obtain ⟨q1_17, q2_17⟩ := hw
    have q1_17 := q1_17.symm
    subst q1_17
    have q2_17 := q2_17.symm
    subst q2_17
    have hP : va_P D vwCl [(y, .inr (6, [.ref yr, .int mq, .int mn, .ref yw, .ref yc, .int mc, .ref yl, .int me, .ref ys, .ref yp, .ref ym, .int md, .ref yo, .ref yk, .ref yt, .int mz, .ref yi, .ref yz, .ref yx, .ref yu, .int km, .int kr])), (yr, .inl (cI, 7, .inl (md_bump G (-1))))] H := hP.sub [0, 1] rfl
    have hD : va_D A [(y, .inr (6, [.ref yr, .int mq, .int mn, .ref yw, .ref yc, .int mc, .ref yl, .int me, .ref ys, .ref yp, .ref ym, .int md, .ref yo, .ref yk, .ref yt, .int mz, .ref yi, .ref yz, .ref yx, .ref yu, .int km, .int kr])), (yr, .inl (cI, 7, .inl (md_bump G (-1))))] := hD.sub [0, 1] (by decide) rfl
    exact wrI (w1 := (fun (u : (Nat → Int32)) => [(y, .inr (6, [.ref yr, .int mq, .int mn, .ref yw, .ref yc, .int mc, .ref yl, .int me, .ref ys, .ref yp, .ref ym, .int md, .ref yo, .ref yk, .ref yt, .int mz, .ref yi, .ref yz, .ref yx, .ref yu, .int km, .int kr])), (yr, .inl (cI, 7, .inl u))])) (md_bump G (-1)) hx hb hr hlocks dX6_lays_20 hS (hP.sub [0, 1] rfl) (hD.sub [0, 1] (by decide) rfl) (by first | exact ⟨rfl, rfl⟩ | rfl | (simp [bi, c_4]; done))
  · skip
    have c_4 := bi_ne0.mp c_4
    exact False.elim (hli c_4)

set_option maxHeartbeats 4000000 in
set_option maxRecDepth 100000 in
theorem c_X6_judge_no (l : Launch) (D : va_G) (cI cZ cR : ClassId) (y yr yw yc yl ys yp ym yo yk yt yi yz yx yu : Nat) (mq mn mc me md mz km kr : Int32) (G : Nat → Int32) (li w : Int32) (hli : ¬ (0 ≤ li ∧ li < 3)) (sz : Nat) : Met l yX6_judge wsX6_judge ({ frames := 2, cells := 0, slots := 0, locals := 45 }) (PcW D cI cZ cR [.ref y, .int li, .int w] [(y, .inr (6, [.ref yr, .int mq, .int mn, .ref yw, .ref yc, .int mc, .ref yl, .int me, .ref ys, .ref yp, .ref ym, .int md, .ref yo, .ref yk, .ref yt, .int mz, .ref yi, .ref yz, .ref yx, .ref yu, .int km, .int kr])), (yr, .inl (cI, 7, .inl G))] sz) (va_Qi (fun (res : Int32) (u : (Nat → Int32)) => res = -1 ∧ u = md_bump G (-1)) (Bw D (fun (u : (Nat → Int32)) => [(y, .inr (6, [.ref yr, .int mq, .int mn, .ref yw, .ref yc, .int mc, .ref yl, .int me, .ref ys, .ref yp, .ref ym, .int md, .ref yo, .ref yk, .ref yt, .int mz, .ref yi, .ref yz, .ref yx, .ref yu, .int km, .int kr])), (yr, .inl (cI, 7, .inl u))]) (va_A [(y, .inr (6, [.ref yr, .int mq, .int mn, .ref yw, .ref yc, .int mc, .ref yl, .int me, .ref ys, .ref yp, .ref ym, .int md, .ref yo, .ref yk, .ref yt, .int mz, .ref yi, .ref yz, .ref yx, .ref yu, .int km, .int kr])), (yr, .inl (cI, 7, .inl G))] sz)) (va_A [(y, .inr (6, [.ref yr, .int mq, .int mn, .ref yw, .ref yc, .int mc, .ref yl, .int me, .ref ys, .ref yp, .ref ym, .int md, .ref yo, .ref yk, .ref yt, .int mz, .ref yi, .ref yz, .ref yx, .ref yu, .int km, .int kr])), (yr, .inl (cI, 7, .inl G))] sz)) 0 0 (va_A [(y, .inr (6, [.ref yr, .int mq, .int mn, .ref yw, .ref yc, .int mc, .ref yl, .int me, .ref ys, .ref yp, .ref ym, .int md, .ref yo, .ref yk, .ref yt, .int mz, .ref yi, .ref yz, .ref yx, .ref yu, .int km, .int kr])), (yr, .inl (cI, 7, .inl G))] sz) := by
  refine Met.ofW (cc := cX6_judge) (maxL := 4) (ret := (some .int)) (by decide) rfl ?_
  intro p e s m args below meth c s₁ B hml hv
  obtain ⟨rfl, hsz, hP, hK, hD0, hN⟩ := hv
  have hx := B.exec
  have hb := B.bytes
  have hr := B.returns
  have hts := atoms_spec (ws := wsX6_judge) B.pre
  have hown : s.vm.findClass RX6 = some m.cls := findClass_of_methodNamed B.named
  have hlocks := B.notSynchronized
  subst hsz
  have hD := hD0.self (sz := s.heap.size)
  generalize hAe : va_A [(y, .inr (6, [.ref yr, .int mq, .int mn, .ref yw, .ref yc, .int mc, .ref yl, .int me, .ref ys, .ref yp, .ref ym, .int md, .ref yo, .ref yk, .ref yt, .int mz, .ref yi, .ref yz, .ref yx, .ref yu, .int km, .int kr])), (yr, .inl (cI, 7, .inl G))] s.heap.size = A at hD ⊢
  have hA : ∀ q : Nat, s.heap.size ≤ q → A q := fun q h => by rw [← hAe]; exact Or.inr h
  have hS : va_S A s.heap s.heap [] := va_S.rf
  have hP : va_P D vwCl [(y, .inr (6, [.ref yr, .int mq, .int mn, .ref yw, .ref yc, .int mc, .ref yl, .int me, .ref ys, .ref yp, .ref ym, .int md, .ref yo, .ref yk, .ref yt, .int mz, .ref yi, .ref yz, .ref yx, .ref yu, .int km, .int kr])), (yr, .inl (cI, 7, .inl G))] s.heap := hP
  have hl := lv_entry ([.ref y, .int li, .int w]) (n := 4) (Nat.le_of_ble_eq_true rfl)
  rw [lg_entry_eq]
  generalize (lg_sl ([.ref y, .int li, .int w]) ++ List.replicate (4 - (lg_sl ([.ref y, .int li, .int w])).length) Slot.unset).toArray = ls at hl ⊢
  have hl : lv_has ls 4 [(0, .ref y), (1, .int li), (2, .int w)] := hl
  refine lv_iload_n hx hb dX6_judge_0 rfl (lv_at hl 1 rfl) ?_
  refine rdS (As := [.int li]) (rest := []) ⟨hx, hb, hml, hown, hts⟩ (c_X6_isList l D cI cZ cR li ) (va_cwS 1 hts gX6_judge_X6_isList rfl rfl rfl (by decide +kernel) ⟨Nat.le_of_ble_eq_true rfl, Nat.le_of_ble_eq_true rfl⟩) hK hN hP [] rfl rfl hl.1 rfl (Nat.le_of_ble_eq_true rfl) dX6_judge_1 ⟨Nat.zero_le _, Nat.zero_le _⟩ ?_
  refine lv_if_eq (tgt := 15) hx hb dX6_judge_4 (by decide) (fun c_4 => ?_) (fun c_4 => ?_)
  · skip
    have c_4 := bi_eq0.mp c_4
    refine lv_aload_n hx hb dX6_judge_15 rfl (lv_at hl 0 rfl) ?_
    refine lv_iconst (v := (-1)) hx hb dX6_judge_16 (by decide) ?_
    refine wrVi (As := [.int (-1)]) (rest := []) (wr := []) (A := A) ⟨hx, hb, hml, hown, hts⟩ (c_X6_no l D cI cZ cR y yr yw yc yl ys yp ym yo yk yt yi yz yx yu mq mn mc me md mz km kr G (-1) (by decide) s.heap.size) (cwV 1 hts gX6_judge_X6_no rfl rfl rfl (by decide +kernel) ⟨Nat.le_of_ble_eq_true rfl, Nat.le_of_ble_eq_true rfl⟩) hK hN hP hD hS hA 0 6 rfl rfl rfl [0, 1] [] rfl (by decide) rfl (by decide) (by decide) rfl hl.1 rfl (Nat.le_of_ble_eq_true rfl) dX6_judge_17 ⟨Nat.zero_le _, Nat.zero_le _⟩ (fun r_17 u H locs hw hP hD hS => ?_)
    obtain ⟨G_17, rfl⟩ : ∃ z, z = u := ⟨_, rfl⟩
    try dsimp only at hw
    obtain ⟨q1_17, q2_17⟩ := hw
    have q1_17 := q1_17.symm
    subst q1_17
    have q2_17 := q2_17.symm
    subst q2_17
    have hP : va_P D vwCl [(y, .inr (6, [.ref yr, .int mq, .int mn, .ref yw, .ref yc, .int mc, .ref yl, .int me, .ref ys, .ref yp, .ref ym, .int md, .ref yo, .ref yk, .ref yt, .int mz, .ref yi, .ref yz, .ref yx, .ref yu, .int km, .int kr])), (yr, .inl (cI, 7, .inl (md_bump G (-1))))] H := hP.sub [0, 1] rfl
    have hD : va_D A [(y, .inr (6, [.ref yr, .int mq, .int mn, .ref yw, .ref yc, .int mc, .ref yl, .int me, .ref ys, .ref yp, .ref ym, .int md, .ref yo, .ref yk, .ref yt, .int mz, .ref yi, .ref yz, .ref yx, .ref yu, .int km, .int kr])), (yr, .inl (cI, 7, .inl (md_bump G (-1))))] := hD.sub [0, 1] (by decide) rfl
    exact wrI (w1 := (fun (u : (Nat → Int32)) => [(y, .inr (6, [.ref yr, .int mq, .int mn, .ref yw, .ref yc, .int mc, .ref yl, .int me, .ref ys, .ref yp, .ref ym, .int md, .ref yo, .ref yk, .ref yt, .int mz, .ref yi, .ref yz, .ref yx, .ref yu, .int km, .int kr])), (yr, .inl (cI, 7, .inl u))])) (md_bump G (-1)) hx hb hr hlocks dX6_judge_20 hS (hP.sub [0, 1] rfl) (hD.sub [0, 1] (by decide) rfl) (by first | exact ⟨rfl, rfl⟩ | rfl | (simp [bi, c_4]; done))
  · skip
    have c_4 := bi_ne0.mp c_4
    exact False.elim (hli c_4)

set_option maxHeartbeats 4000000 in
set_option maxRecDepth 100000 in
theorem c_X6_steps_no (l : Launch) (D : va_G) (cI cZ cR : ClassId) (y yr yw yc yl ys yp ym yo yk yt yi yz yx yu : Nat) (mq mn mc me md mz km kr : Int32) (G : Nat → Int32) (li k : Int32) (hli : ¬ (0 ≤ li ∧ li < 3)) (sz : Nat) : Met l yX6_steps wsX6_steps ({ frames := 2, cells := 0, slots := 0, locals := 45 }) (PcW D cI cZ cR [.ref y, .int li, .int k] [(y, .inr (6, [.ref yr, .int mq, .int mn, .ref yw, .ref yc, .int mc, .ref yl, .int me, .ref ys, .ref yp, .ref ym, .int md, .ref yo, .ref yk, .ref yt, .int mz, .ref yi, .ref yz, .ref yx, .ref yu, .int km, .int kr])), (yr, .inl (cI, 7, .inl G))] sz) (va_Qi (fun (res : Int32) (u : (Nat → Int32)) => res = -1 ∧ u = md_bump G (-1)) (Bw D (fun (u : (Nat → Int32)) => [(y, .inr (6, [.ref yr, .int mq, .int mn, .ref yw, .ref yc, .int mc, .ref yl, .int me, .ref ys, .ref yp, .ref ym, .int md, .ref yo, .ref yk, .ref yt, .int mz, .ref yi, .ref yz, .ref yx, .ref yu, .int km, .int kr])), (yr, .inl (cI, 7, .inl u))]) (va_A [(y, .inr (6, [.ref yr, .int mq, .int mn, .ref yw, .ref yc, .int mc, .ref yl, .int me, .ref ys, .ref yp, .ref ym, .int md, .ref yo, .ref yk, .ref yt, .int mz, .ref yi, .ref yz, .ref yx, .ref yu, .int km, .int kr])), (yr, .inl (cI, 7, .inl G))] sz)) (va_A [(y, .inr (6, [.ref yr, .int mq, .int mn, .ref yw, .ref yc, .int mc, .ref yl, .int me, .ref ys, .ref yp, .ref ym, .int md, .ref yo, .ref yk, .ref yt, .int mz, .ref yi, .ref yz, .ref yx, .ref yu, .int km, .int kr])), (yr, .inl (cI, 7, .inl G))] sz)) 0 0 (va_A [(y, .inr (6, [.ref yr, .int mq, .int mn, .ref yw, .ref yc, .int mc, .ref yl, .int me, .ref ys, .ref yp, .ref ym, .int md, .ref yo, .ref yk, .ref yt, .int mz, .ref yi, .ref yz, .ref yx, .ref yu, .int km, .int kr])), (yr, .inl (cI, 7, .inl G))] sz) := by
  refine Met.ofW (cc := cX6_steps) (maxL := 6) (ret := (some .int)) (by decide) rfl ?_
  intro p e s m args below meth c s₁ B hml hv
  obtain ⟨rfl, hsz, hP, hK, hD0, hN⟩ := hv
  have hx := B.exec
  have hb := B.bytes
  have hr := B.returns
  have hts := atoms_spec (ws := wsX6_steps) B.pre
  have hown : s.vm.findClass RX6 = some m.cls := findClass_of_methodNamed B.named
  have hlocks := B.notSynchronized
  subst hsz
  have hD := hD0.self (sz := s.heap.size)
  generalize hAe : va_A [(y, .inr (6, [.ref yr, .int mq, .int mn, .ref yw, .ref yc, .int mc, .ref yl, .int me, .ref ys, .ref yp, .ref ym, .int md, .ref yo, .ref yk, .ref yt, .int mz, .ref yi, .ref yz, .ref yx, .ref yu, .int km, .int kr])), (yr, .inl (cI, 7, .inl G))] s.heap.size = A at hD ⊢
  have hA : ∀ q : Nat, s.heap.size ≤ q → A q := fun q h => by rw [← hAe]; exact Or.inr h
  have hS : va_S A s.heap s.heap [] := va_S.rf
  have hP : va_P D vwCl [(y, .inr (6, [.ref yr, .int mq, .int mn, .ref yw, .ref yc, .int mc, .ref yl, .int me, .ref ys, .ref yp, .ref ym, .int md, .ref yo, .ref yk, .ref yt, .int mz, .ref yi, .ref yz, .ref yx, .ref yu, .int km, .int kr])), (yr, .inl (cI, 7, .inl G))] s.heap := hP
  have hl := lv_entry ([.ref y, .int li, .int k]) (n := 6) (Nat.le_of_ble_eq_true rfl)
  rw [lg_entry_eq]
  generalize (lg_sl ([.ref y, .int li, .int k]) ++ List.replicate (6 - (lg_sl ([.ref y, .int li, .int k])).length) Slot.unset).toArray = ls at hl ⊢
  have hl : lv_has ls 6 [(0, .ref y), (1, .int li), (2, .int k)] := hl
  refine lv_iload_n hx hb dX6_steps_0 rfl (lv_at hl 1 rfl) ?_
  refine rdS (As := [.int li]) (rest := []) ⟨hx, hb, hml, hown, hts⟩ (c_X6_isList l D cI cZ cR li ) (va_cwS 1 hts gX6_steps_X6_isList rfl rfl rfl (by decide +kernel) ⟨Nat.le_of_ble_eq_true rfl, Nat.le_of_ble_eq_true rfl⟩) hK hN hP [] rfl rfl hl.1 rfl (Nat.le_of_ble_eq_true rfl) dX6_steps_1 ⟨Nat.zero_le _, Nat.zero_le _⟩ ?_
  refine lv_if_ne (tgt := 13) hx hb dX6_steps_4 (by decide) (fun c_4 => ?_) (fun c_4 => ?_)
  · skip
    have c_4 := bi_ne0.mp c_4
    exact False.elim (hli c_4)
  · skip
    have c_4 := bi_eq0.mp c_4
    refine lv_aload_n hx hb dX6_steps_7 rfl (lv_at hl 0 rfl) ?_
    refine lv_iconst (v := (-1)) hx hb dX6_steps_8 (by decide) ?_
    refine wrVi (As := [.int (-1)]) (rest := []) (wr := []) (A := A) ⟨hx, hb, hml, hown, hts⟩ (c_X6_no l D cI cZ cR y yr yw yc yl ys yp ym yo yk yt yi yz yx yu mq mn mc me md mz km kr G (-1) (by decide) s.heap.size) (cwV 1 hts gX6_steps_X6_no rfl rfl rfl (by decide +kernel) ⟨Nat.le_of_ble_eq_true rfl, Nat.le_of_ble_eq_true rfl⟩) hK hN hP hD hS hA 0 6 rfl rfl rfl [0, 1] [] rfl (by decide) rfl (by decide) (by decide) rfl hl.1 rfl (Nat.le_of_ble_eq_true rfl) dX6_steps_9 ⟨Nat.zero_le _, Nat.zero_le _⟩ (fun r_9 u H locs hw hP hD hS => ?_)
    obtain ⟨G_9, rfl⟩ : ∃ z, z = u := ⟨_, rfl⟩
    try dsimp only at hw
    obtain ⟨q1_9, q2_9⟩ := hw
    have q1_9 := q1_9.symm
    subst q1_9
    have q2_9 := q2_9.symm
    subst q2_9
    have hP : va_P D vwCl [(y, .inr (6, [.ref yr, .int mq, .int mn, .ref yw, .ref yc, .int mc, .ref yl, .int me, .ref ys, .ref yp, .ref ym, .int md, .ref yo, .ref yk, .ref yt, .int mz, .ref yi, .ref yz, .ref yx, .ref yu, .int km, .int kr])), (yr, .inl (cI, 7, .inl (md_bump G (-1))))] H := hP.sub [0, 1] rfl
    have hD : va_D A [(y, .inr (6, [.ref yr, .int mq, .int mn, .ref yw, .ref yc, .int mc, .ref yl, .int me, .ref ys, .ref yp, .ref ym, .int md, .ref yo, .ref yk, .ref yt, .int mz, .ref yi, .ref yz, .ref yx, .ref yu, .int km, .int kr])), (yr, .inl (cI, 7, .inl (md_bump G (-1))))] := hD.sub [0, 1] (by decide) rfl
    exact wrI (w1 := (fun (u : (Nat → Int32)) => [(y, .inr (6, [.ref yr, .int mq, .int mn, .ref yw, .ref yc, .int mc, .ref yl, .int me, .ref ys, .ref yp, .ref ym, .int md, .ref yo, .ref yk, .ref yt, .int mz, .ref yi, .ref yz, .ref yx, .ref yu, .int km, .int kr])), (yr, .inl (cI, 7, .inl u))])) (md_bump G (-1)) hx hb hr hlocks dX6_steps_12 hS (hP.sub [0, 1] rfl) (hD.sub [0, 1] (by decide) rfl) (by first | exact ⟨rfl, rfl⟩ | rfl | (simp [bi, c_4]; done))

set_option maxHeartbeats 4000000 in
set_option maxRecDepth 100000 in
theorem c_X6_kinds_no (l : Launch) (D : va_G) (cI cZ cR : ClassId) (y yr yw yc yl ys yp ym yo yk yt yi yz yx yu : Nat) (mq mn mc me md mz km kr : Int32) (G : Nat → Int32) (li w : Int32) (hli : ¬ (0 ≤ li ∧ li < 3)) (sz : Nat) : Met l yX6_kinds wsX6_kinds ({ frames := 2, cells := 0, slots := 0, locals := 45 }) (PcW D cI cZ cR [.ref y, .int li, .int w] [(y, .inr (6, [.ref yr, .int mq, .int mn, .ref yw, .ref yc, .int mc, .ref yl, .int me, .ref ys, .ref yp, .ref ym, .int md, .ref yo, .ref yk, .ref yt, .int mz, .ref yi, .ref yz, .ref yx, .ref yu, .int km, .int kr])), (yr, .inl (cI, 7, .inl G))] sz) (va_Qi (fun (res : Int32) (u : (Nat → Int32)) => res = -1 ∧ u = md_bump G (-1)) (Bw D (fun (u : (Nat → Int32)) => [(y, .inr (6, [.ref yr, .int mq, .int mn, .ref yw, .ref yc, .int mc, .ref yl, .int me, .ref ys, .ref yp, .ref ym, .int md, .ref yo, .ref yk, .ref yt, .int mz, .ref yi, .ref yz, .ref yx, .ref yu, .int km, .int kr])), (yr, .inl (cI, 7, .inl u))]) (va_A [(y, .inr (6, [.ref yr, .int mq, .int mn, .ref yw, .ref yc, .int mc, .ref yl, .int me, .ref ys, .ref yp, .ref ym, .int md, .ref yo, .ref yk, .ref yt, .int mz, .ref yi, .ref yz, .ref yx, .ref yu, .int km, .int kr])), (yr, .inl (cI, 7, .inl G))] sz)) (va_A [(y, .inr (6, [.ref yr, .int mq, .int mn, .ref yw, .ref yc, .int mc, .ref yl, .int me, .ref ys, .ref yp, .ref ym, .int md, .ref yo, .ref yk, .ref yt, .int mz, .ref yi, .ref yz, .ref yx, .ref yu, .int km, .int kr])), (yr, .inl (cI, 7, .inl G))] sz)) 0 0 (va_A [(y, .inr (6, [.ref yr, .int mq, .int mn, .ref yw, .ref yc, .int mc, .ref yl, .int me, .ref ys, .ref yp, .ref ym, .int md, .ref yo, .ref yk, .ref yt, .int mz, .ref yi, .ref yz, .ref yx, .ref yu, .int km, .int kr])), (yr, .inl (cI, 7, .inl G))] sz) := by
  refine Met.ofW (cc := cX6_kinds) (maxL := 5) (ret := (some .int)) (by decide) rfl ?_
  intro p e s m args below meth c s₁ B hml hv
  obtain ⟨rfl, hsz, hP, hK, hD0, hN⟩ := hv
  have hx := B.exec
  have hb := B.bytes
  have hr := B.returns
  have hts := atoms_spec (ws := wsX6_kinds) B.pre
  have hown : s.vm.findClass RX6 = some m.cls := findClass_of_methodNamed B.named
  have hlocks := B.notSynchronized
  subst hsz
  have hD := hD0.self (sz := s.heap.size)
  generalize hAe : va_A [(y, .inr (6, [.ref yr, .int mq, .int mn, .ref yw, .ref yc, .int mc, .ref yl, .int me, .ref ys, .ref yp, .ref ym, .int md, .ref yo, .ref yk, .ref yt, .int mz, .ref yi, .ref yz, .ref yx, .ref yu, .int km, .int kr])), (yr, .inl (cI, 7, .inl G))] s.heap.size = A at hD ⊢
  have hA : ∀ q : Nat, s.heap.size ≤ q → A q := fun q h => by rw [← hAe]; exact Or.inr h
  have hS : va_S A s.heap s.heap [] := va_S.rf
  have hP : va_P D vwCl [(y, .inr (6, [.ref yr, .int mq, .int mn, .ref yw, .ref yc, .int mc, .ref yl, .int me, .ref ys, .ref yp, .ref ym, .int md, .ref yo, .ref yk, .ref yt, .int mz, .ref yi, .ref yz, .ref yx, .ref yu, .int km, .int kr])), (yr, .inl (cI, 7, .inl G))] s.heap := hP
  have hl := lv_entry ([.ref y, .int li, .int w]) (n := 5) (Nat.le_of_ble_eq_true rfl)
  rw [lg_entry_eq]
  generalize (lg_sl ([.ref y, .int li, .int w]) ++ List.replicate (5 - (lg_sl ([.ref y, .int li, .int w])).length) Slot.unset).toArray = ls at hl ⊢
  have hl : lv_has ls 5 [(0, .ref y), (1, .int li), (2, .int w)] := hl
  refine lv_iload_n hx hb dX6_kinds_0 rfl (lv_at hl 1 rfl) ?_
  refine rdS (As := [.int li]) (rest := []) ⟨hx, hb, hml, hown, hts⟩ (c_X6_isList l D cI cZ cR li ) (va_cwS 1 hts gX6_kinds_X6_isList rfl rfl rfl (by decide +kernel) ⟨Nat.le_of_ble_eq_true rfl, Nat.le_of_ble_eq_true rfl⟩) hK hN hP [] rfl rfl hl.1 rfl (Nat.le_of_ble_eq_true rfl) dX6_kinds_1 ⟨Nat.zero_le _, Nat.zero_le _⟩ ?_
  refine lv_if_eq (tgt := 15) hx hb dX6_kinds_4 (by decide) (fun c_4 => ?_) (fun c_4 => ?_)
  · skip
    have c_4 := bi_eq0.mp c_4
    refine lv_aload_n hx hb dX6_kinds_15 rfl (lv_at hl 0 rfl) ?_
    refine lv_iconst (v := (-1)) hx hb dX6_kinds_16 (by decide) ?_
    refine wrVi (As := [.int (-1)]) (rest := []) (wr := []) (A := A) ⟨hx, hb, hml, hown, hts⟩ (c_X6_no l D cI cZ cR y yr yw yc yl ys yp ym yo yk yt yi yz yx yu mq mn mc me md mz km kr G (-1) (by decide) s.heap.size) (cwV 1 hts gX6_kinds_X6_no rfl rfl rfl (by decide +kernel) ⟨Nat.le_of_ble_eq_true rfl, Nat.le_of_ble_eq_true rfl⟩) hK hN hP hD hS hA 0 6 rfl rfl rfl [0, 1] [] rfl (by decide) rfl (by decide) (by decide) rfl hl.1 rfl (Nat.le_of_ble_eq_true rfl) dX6_kinds_17 ⟨Nat.zero_le _, Nat.zero_le _⟩ (fun r_17 u H locs hw hP hD hS => ?_)
    obtain ⟨G_17, rfl⟩ : ∃ z, z = u := ⟨_, rfl⟩
    try dsimp only at hw
    obtain ⟨q1_17, q2_17⟩ := hw
    have q1_17 := q1_17.symm
    subst q1_17
    have q2_17 := q2_17.symm
    subst q2_17
    have hP : va_P D vwCl [(y, .inr (6, [.ref yr, .int mq, .int mn, .ref yw, .ref yc, .int mc, .ref yl, .int me, .ref ys, .ref yp, .ref ym, .int md, .ref yo, .ref yk, .ref yt, .int mz, .ref yi, .ref yz, .ref yx, .ref yu, .int km, .int kr])), (yr, .inl (cI, 7, .inl (md_bump G (-1))))] H := hP.sub [0, 1] rfl
    have hD : va_D A [(y, .inr (6, [.ref yr, .int mq, .int mn, .ref yw, .ref yc, .int mc, .ref yl, .int me, .ref ys, .ref yp, .ref ym, .int md, .ref yo, .ref yk, .ref yt, .int mz, .ref yi, .ref yz, .ref yx, .ref yu, .int km, .int kr])), (yr, .inl (cI, 7, .inl (md_bump G (-1))))] := hD.sub [0, 1] (by decide) rfl
    exact wrI (w1 := (fun (u : (Nat → Int32)) => [(y, .inr (6, [.ref yr, .int mq, .int mn, .ref yw, .ref yc, .int mc, .ref yl, .int me, .ref ys, .ref yp, .ref ym, .int md, .ref yo, .ref yk, .ref yt, .int mz, .ref yi, .ref yz, .ref yx, .ref yu, .int km, .int kr])), (yr, .inl (cI, 7, .inl u))])) (md_bump G (-1)) hx hb hr hlocks dX6_kinds_20 hS (hP.sub [0, 1] rfl) (hD.sub [0, 1] (by decide) rfl) (by first | exact ⟨rfl, rfl⟩ | rfl | (simp [bi, c_4]; done))
  · skip
    have c_4 := bi_ne0.mp c_4
    exact False.elim (hli c_4)
