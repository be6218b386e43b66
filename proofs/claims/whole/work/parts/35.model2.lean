theorem in_X6_gap_X6 : ∀ w ∈ wsX60, w ∈ wsX6_gap := by decide +kernel
theorem in_X6_sorts_X6 : ∀ w ∈ wsX60, w ∈ wsX6_sorts := by decide +kernel
theorem in_X6_unlike_X6 : ∀ w ∈ wsX60, w ∈ wsX6_unlike := by decide +kernel
set_option maxHeartbeats 4000000 in
set_option maxRecDepth 100000 in
theorem c_X6_sorts (l : Launch) (D : va_G) (cI cZ cR : ClassId) (y yr yw yc yl ys yp ym yo yk yt yi yz yx yu : Nat) (mq mn mc me md mz km kr : Int32) (v P Mf : Nat → Int32) (w n : Int32) (hq : okQ mq) (hw : 0 ≤ w ∧ w < 5) (hv : okW mq v w) (hn : n.toNatClampNeg ≤ 200) (sz : Nat) : Met l yX6_sorts wsX6_sorts ({ frames := 3, cells := 0, slots := 0, locals := 74 }) (PcW D cI cZ cR [.ref y, .int w, .int n] [(y, .inr (6, [.ref yr, .int mq, .int mn, .ref yw, .ref yc, .int mc, .ref yl, .int me, .ref ys, .ref yp, .ref ym, .int md, .ref yo, .ref yk, .ref yt, .int mz, .ref yi, .ref yz, .ref yx, .ref yu, .int km, .int kr])), (yw, .inl (cI, 20, .inl v)), (yp, .inl (cI, 200, .inl P)), (ym, .inl (cI, 200, .inl Mf))] sz) (va_Qv (fun (u : Int32 × (Nat → Int32) × (Nat → Int32)) => (∀ j, j < n.toNatClampNeg → u.2.1 j = (ms (plK mq v w) n.toNatClampNeg).getD j 0) ∧ so_rep (mk (plK mq v w) n.toNatClampNeg) u.1 u.2.2) (Bw D (fun (u : Int32 × (Nat → Int32) × (Nat → Int32)) => [(y, .inr (6, [.ref yr, .int mq, .int mn, .ref yw, .ref yc, .int mc, .ref yl, .int me, .ref ys, .ref yp, .ref ym, .int u.1, .ref yo, .ref yk, .ref yt, .int mz, .ref yi, .ref yz, .ref yx, .ref yu, .int km, .int kr])), (yw, .inl (cI, 20, .inl v)), (yp, .inl (cI, 200, .inl u.2.1)), (ym, .inl (cI, 200, .inl u.2.2))]) (va_A [(y, .inr (6, [.ref yr, .int mq, .int mn, .ref yw, .ref yc, .int mc, .ref yl, .int me, .ref ys, .ref yp, .ref ym, .int md, .ref yo, .ref yk, .ref yt, .int mz, .ref yi, .ref yz, .ref yx, .ref yu, .int km, .int kr])), (yw, .inl (cI, 20, .inl v)), (yp, .inl (cI, 200, .inl P)), (ym, .inl (cI, 200, .inl Mf))] sz)) (va_A [(y, .inr (6, [.ref yr, .int mq, .int mn, .ref yw, .ref yc, .int mc, .ref yl, .int me, .ref ys, .ref yp, .ref ym, .int md, .ref yo, .ref yk, .ref yt, .int mz, .ref yi, .ref yz, .ref yx, .ref yu, .int km, .int kr])), (yw, .inl (cI, 20, .inl v)), (yp, .inl (cI, 200, .inl P)), (ym, .inl (cI, 200, .inl Mf))] sz)) 0 0 (va_A [(y, .inr (6, [.ref yr, .int mq, .int mn, .ref yw, .ref yc, .int mc, .ref yl, .int me, .ref ys, .ref yp, .ref ym, .int md, .ref yo, .ref yk, .ref yt, .int mz, .ref yi, .ref yz, .ref yx, .ref yu, .int km, .int kr])), (yw, .inl (cI, 20, .inl v)), (yp, .inl (cI, 200, .inl P)), (ym, .inl (cI, 200, .inl Mf))] sz) := by
  refine Met.ofW (cc := cX6_sorts) (maxL := 6) (ret := none) (by decide) rfl ?_
  intro p e s m args below meth c s₁ B hml hv
  obtain ⟨rfl, hsz, hP, hK, hD0, hN⟩ := hv
  have hx := B.exec
  have hb := B.bytes
  have hr := B.returns
  have hts := atoms_spec (ws := wsX6_sorts) B.pre
  have hown : s.vm.findClass RX6 = some m.cls := findClass_of_methodNamed B.named
  have hlocks := B.notSynchronized
  subst hsz
  have hD := hD0.self (sz := s.heap.size)
  generalize hAe : va_A [(y, .inr (6, [.ref yr, .int mq, .int mn, .ref yw, .ref yc, .int mc, .ref yl, .int me, .ref ys, .ref yp, .ref ym, .int md, .ref yo, .ref yk, .ref yt, .int mz, .ref yi, .ref yz, .ref yx, .ref yu, .int km, .int kr])), (yw, .inl (cI, 20, .inl v)), (yp, .inl (cI, 200, .inl P)), (ym, .inl (cI, 200, .inl Mf))] s.heap.size = A at hD ⊢
  have hA : ∀ q : Nat, s.heap.size ≤ q → A q := fun q h => by rw [← hAe]; exact Or.inr h
  have hS : va_S A s.heap s.heap [] := va_S.rf
  have hP : va_P D vwCl [(y, .inr (6, [.ref yr, .int mq, .int mn, .ref yw, .ref yc, .int mc, .ref yl, .int me, .ref ys, .ref yp, .ref ym, .int md, .ref yo, .ref yk, .ref yt, .int mz, .ref yi, .ref yz, .ref yx, .ref yu, .int km, .int kr])), (yw, .inl (cI, 20, .inl v)), (yp, .inl (cI, 200, .inl P)), (ym, .inl (cI, 200, .inl Mf))] s.heap := hP
  have hl := lv_entry ([.ref y, .int w, .int n]) (n := 6) (Nat.le_of_ble_eq_true rfl)
  rw [lg_entry_eq]
  generalize (lg_sl ([.ref y, .int w, .int n]) ++ List.replicate (6 - (lg_sl ([.ref y, .int w, .int n])).length) Slot.unset).toArray = ls at hl ⊢
  have hl : lv_has ls 6 [(0, .ref y), (1, .int w), (2, .int n)] := hl
  refine lv_iconst (v := 0) hx hb dX6_sorts_0 (by decide) ?_
  refine lv_istore_n (lv' := [(3, .int 0), (0, .ref y), (1, .int w), (2, .int n)]) hx hb dX6_sorts_1 rfl hl (by decide) rfl (fun ls hl => ?_)
  have loop_2 : ∀ (fuel : Nat), ∀ (i : Nat), ∀ (g : Nat → Int32), (i ≤ n.toNatClampNeg) → (∀ j, j < i → g j = (ms (plK mq v w) i).getD j 0) → (n.toNatClampNeg + 1 ≤ i + fuel) → ∀ (y3 : Int32), y3 = nI i → ∀ (H : Heap) (locs : List Loc), va_P D vwCl [(y, .inr (6, [.ref yr, .int mq, .int mn, .ref yw, .ref yc, .int mc, .ref yl, .int me, .ref ys, .ref yp, .ref ym, .int md, .ref yo, .ref yk, .ref yt, .int mz, .ref yi, .ref yz, .ref yx, .ref yu, .int km, .int kr])), (yw, .inl (cI, 20, .inl v)), (yp, .inl (cI, 200, .inl g)), (ym, .inl (cI, 200, .inl Mf))] H → va_D A [(y, .inr (6, [.ref yr, .int mq, .int mn, .ref yw, .ref yc, .int mc, .ref yl, .int me, .ref ys, .ref yp, .ref ym, .int md, .ref yo, .ref yk, .ref yt, .int mz, .ref yi, .ref yz, .ref yx, .ref yu, .int km, .int kr])), (yw, .inl (cI, 20, .inl v)), (yp, .inl (cI, 200, .inl g)), (ym, .inl (cI, 200, .inl Mf))] → va_S A s.heap H locs → ∀ (ls : Array Slot), lv_has ls 6 [(3, .int y3), (0, .ref y), (1, .int w), (2, .int n)] → W p l e (headSpec wsX6_sorts ({ frames := 3, cells := 0, slots := 0, locals := 74 })).room s m ([.ref y, .int w, .int n] : List Value).toArray below meth c H locs 0 0 (MQ below (va_Qv (fun (u : Int32 × (Nat → Int32) × (Nat → Int32)) => (∀ j, j < n.toNatClampNeg → u.2.1 j = (ms (plK mq v w) n.toNatClampNeg).getD j 0) ∧ so_rep (mk (plK mq v w) n.toNatClampNeg) u.1 u.2.2) (Bw D (fun (u : Int32 × (Nat → Int32) × (Nat → Int32)) => [(y, .inr (6, [.ref yr, .int mq, .int mn, .ref yw, .ref yc, .int mc, .ref yl, .int me, .ref ys, .ref yp, .ref ym, .int u.1, .ref yo, .ref yk, .ref yt, .int mz, .ref yi, .ref yz, .ref yx, .ref yu, .int km, .int kr])), (yw, .inl (cI, 20, .inl v)), (yp, .inl (cI, 200, .inl u.2.1)), (ym, .inl (cI, 200, .inl u.2.2))]) A) A) ([.ref y, .int w, .int n] : List Value).toArray s 0 0 A) (F0 m 2 ls []) := by
    intro fuel
    induction fuel with
    | zero =>
      intro i g hi9 hg hfu
      exact False.elim (by omega)
    | succ fuel ih_2 =>
      intro i g hi9 hg hfu y3 ey3 H locs hP hD hS ls hl
      subst ey3
      refine lv_iload_n hx hb dX6_sorts_2 rfl (lv_at hl 0 rfl) ?_
      refine lv_iload_n hx hb dX6_sorts_3 rfl (lv_at hl 3 rfl) ?_
      refine lv_icmp_ge (tgt := 74) hx hb dX6_sorts_4 (by decide) (fun c_4 => ?_) (fun c_4 => ?_)
      · skip
        have eN : i = n.toNatClampNeg := by have := (le_clamp (by omega)).mp c_4; omega
        have hgN : ∀ j, j < n.toNatClampNeg → g j = (ms (plK mq v w) n.toNatClampNeg).getD j 0 := by rw [← eN]; exact hg
        have hSl := ms_len (plK mq v w) n.toNatClampNeg
        have hoS := ms_ord (plK mq v w) n.toNatClampNeg
        refine lv_aload_n hx hb dX6_sorts_74 rfl (lv_at hl 1 rfl) ?_
        refine lv_iconst (v := 0) hx hb dX6_sorts_75 (by decide) ?_
        refine va_put (D := D) (ci := 6) (v := .int 0) (ty := .int) (C := RX6) (T := TX6) (N := 22) hx hb hts (in_X6_sorts_X6) tyX6 tyX6_ok nmX6 hown hK hP hD hS 0 rfl rfl 11 (by decide) (hts (.fieldLink RX6 146 "StepsRoundCircleModel" "marked" "I") (by decide +kernel)) (fun _ h9 => h9) rfl (by decide +kernel) rfl rfl (Nat.le_of_ble_eq_true rfl) dX6_sorts_76 (fun H locs hP hD hS => ?_)
        have hP : va_P D vwCl [(y, .inr (6, [.ref yr, .int mq, .int mn, .ref yw, .ref yc, .int mc, .ref yl, .int me, .ref ys, .ref yp, .ref ym, .int 0, .ref yo, .ref yk, .ref yt, .int mz, .ref yi, .ref yz, .ref yx, .ref yu, .int km, .int kr])), (yw, .inl (cI, 20, .inl v)), (yp, .inl (cI, 200, .inl g)), (ym, .inl (cI, 200, .inl Mf))] H := hP
        have hD : va_D A [(y, .inr (6, [.ref yr, .int mq, .int mn, .ref yw, .ref yc, .int mc, .ref yl, .int me, .ref ys, .ref yp, .ref ym, .int 0, .ref yo, .ref yk, .ref yt, .int mz, .ref yi, .ref yz, .ref yx, .ref yu, .int km, .int kr])), (yw, .inl (cI, 20, .inl v)), (yp, .inl (cI, 200, .inl g)), (ym, .inl (cI, 200, .inl Mf))] := hD
        refine lv_iconst (v := 0) hx hb dX6_sorts_79 (by decide) ?_
        refine lv_istore_n (lv' := [(3, .int 0), (0, .ref y), (1, .int w), (2, .int n)]) hx hb dX6_sorts_80 rfl hl (by decide) rfl (fun ls hl => ?_)
        have loop_81 : ∀ (fuel : Nat), ∀ (i2 : Nat), ∀ (M : List Int32), ∀ (dd : Int32), ∀ (h : Nat → Int32), (i2 ≤ n.toNatClampNeg) → (so_rep M dd h) → (so_str M) → (∀ x, x ∈ M ↔ ∃ j, j < i2 ∧ (ms (plK mq v w) n.toNatClampNeg).getD j 0 = x) → (M.length ≤ i2) → (n.toNatClampNeg + 1 ≤ i2 + fuel) → ∀ (y3 : Int32), y3 = nI i2 → ∀ (H : Heap) (locs : List Loc), va_P D vwCl [(y, .inr (6, [.ref yr, .int mq, .int mn, .ref yw, .ref yc, .int mc, .ref yl, .int me, .ref ys, .ref yp, .ref ym, .int dd, .ref yo, .ref yk, .ref yt, .int mz, .ref yi, .ref yz, .ref yx, .ref yu, .int km, .int kr])), (yw, .inl (cI, 20, .inl v)), (yp, .inl (cI, 200, .inl g)), (ym, .inl (cI, 200, .inl h))] H → va_D A [(y, .inr (6, [.ref yr, .int mq, .int mn, .ref yw, .ref yc, .int mc, .ref yl, .int me, .ref ys, .ref yp, .ref ym, .int dd, .ref yo, .ref yk, .ref yt, .int mz, .ref yi, .ref yz, .ref yx, .ref yu, .int km, .int kr])), (yw, .inl (cI, 20, .inl v)), (yp, .inl (cI, 200, .inl g)), (ym, .inl (cI, 200, .inl h))] → va_S A s.heap H locs → ∀ (ls : Array Slot), lv_has ls 6 [(3, .int y3), (0, .ref y), (1, .int w), (2, .int n)] → W p l e (headSpec wsX6_sorts ({ frames := 3, cells := 0, slots := 0, locals := 74 })).room s m ([.ref y, .int w, .int n] : List Value).toArray below meth c H locs 0 0 (MQ below (va_Qv (fun (u : Int32 × (Nat → Int32) × (Nat → Int32)) => (∀ j, j < n.toNatClampNeg → u.2.1 j = (ms (plK mq v w) n.toNatClampNeg).getD j 0) ∧ so_rep (mk (plK mq v w) n.toNatClampNeg) u.1 u.2.2) (Bw D (fun (u : Int32 × (Nat → Int32) × (Nat → Int32)) => [(y, .inr (6, [.ref yr, .int mq, .int mn, .ref yw, .ref yc, .int mc, .ref yl, .int me, .ref ys, .ref yp, .ref ym, .int u.1, .ref yo, .ref yk, .ref yt, .int mz, .ref yi, .ref yz, .ref yx, .ref yu, .int km, .int kr])), (yw, .inl (cI, 20, .inl v)), (yp, .inl (cI, 200, .inl u.2.1)), (ym, .inl (cI, 200, .inl u.2.2))]) A) A) ([.ref y, .int w, .int n] : List Value).toArray s 0 0 A) (F0 m 81 ls []) := by
          intro fuel
          induction fuel with
          | zero =>
            intro i2 M dd h hi2 hrep hstr hmem hML hfu3
            exact False.elim (by omega)
          | succ fuel ih_81 =>
            intro i2 M dd h hi2 hrep hstr hmem hML hfu3 y3 ey3 H locs hP hD hS ls hl
            subst ey3
            refine lv_iload_n hx hb dX6_sorts_81 rfl (lv_at hl 0 rfl) ?_
            refine lv_iload_n hx hb dX6_sorts_82 rfl (lv_at hl 3 rfl) ?_
            refine lv_icmp_ge (tgt := 141) hx hb dX6_sorts_83 (by decide) (fun c_83 => ?_) (fun c_83 => ?_)
            · skip
              exact wrV (w1 := (fun (u : Int32 × (Nat → Int32) × (Nat → Int32)) => [(y, .inr (6, [.ref yr, .int mq, .int mn, .ref yw, .ref yc, .int mc, .ref yl, .int me, .ref ys, .ref yp, .ref ym, .int u.1, .ref yo, .ref yk, .ref yt, .int mz, .ref yi, .ref yz, .ref yx, .ref yu, .int km, .int kr])), (yw, .inl (cI, 20, .inl v)), (yp, .inl (cI, 200, .inl u.2.1)), (ym, .inl (cI, 200, .inl u.2.2))])) (dd, g, h) hx hb hr hlocks dX6_sorts_141 hS (hP.sub [0, 1, 2, 3] rfl) (hD.sub [0, 1, 2, 3] (by decide) rfl) (by have e9 : i2 = n.toNatClampNeg := (by have := (le_clamp (by omega)).mp c_83; omega); refine ⟨hgN, ?_⟩; rw [← mk_end hstr (by rw [← e9]; rw [← e9] at hmem; exact hmem)]; exact hrep)
            · skip
              have hiN2 : i2 < n.toNatClampNeg := (lt_clamp (by omega)).mp (Int32.not_le.mp c_83)
              refine lv_iload_n hx hb dX6_sorts_86 rfl (lv_at hl 0 rfl) ?_
              refine lv_if_le (tgt := 110) hx hb dX6_sorts_87 (by decide) (fun c_87 => ?_) (fun c_87 => ?_)
              · skip
                have hne9 : i2 = 0 ∨ ¬ (ms (plK mq v w) n.toNatClampNeg).getD i2 0 = (ms (plK mq v w) n.toNatClampNeg).getD (i2 - 1) 0 := Or.inl (by have := (nI_leI (a := i2) (b := 0) (by omega) (by omega)).mp c_87; omega)
                refine lv_aload_n hx hb dX6_sorts_110 rfl (lv_at hl 1 rfl) ?_
                refine va_get (D := D) (ci := 6) (v := .ref ym) (C := RX6) (T := TX6) (N := 22) hx hb hts (in_X6_sorts_X6) hown hK hP 0 rfl rfl 10 (by decide) (hts (.fieldLink RX6 32 "StepsRoundCircleModel" "marks" "[I") (by decide +kernel)) (fun _ h9 => h9) rfl dX6_sorts_111 ?_
                refine lv_aload_n hx hb dX6_sorts_114 rfl (lv_at hl 1 rfl) ?_
                refine va_get (D := D) (ci := 6) (v := .int dd) (C := RX6) (T := TX6) (N := 22) hx hb hts (in_X6_sorts_X6) hown hK hP 0 rfl rfl 11 (by decide) (hts (.fieldLink RX6 146 "StepsRoundCircleModel" "marked" "I") (by decide +kernel)) (fun _ h9 => h9) rfl dX6_sorts_115 ?_
                refine lv_topi (fun z_118 hz_118 => ?_)
                have hz_118 : z_118 = nI M.length := hz_118.trans hrep.1
                subst hz_118
                refine lv_aload_n hx hb dX6_sorts_118 rfl (lv_at hl 1 rfl) ?_
                refine va_get (D := D) (ci := 6) (v := .ref yp) (C := RX6) (T := TX6) (N := 22) hx hb hts (in_X6_sorts_X6) hown hK hP 0 rfl rfl 9 (by decide) (hts (.fieldLink RX6 29 "StepsRoundCircleModel" "places" "[I") (by decide +kernel)) (fun _ h9 => h9) rfl dX6_sorts_119 ?_
                refine lv_iload_n hx hb dX6_sorts_122 rfl (lv_at hl 0 rfl) ?_
                refine va_iald hx hb hK hP 2 0 rfl rfl (vp_in_nI (by omega) (by omega)) dX6_sorts_123 ?_
                refine lv_topi (fun z_124 hz_124 => ?_)
                have hz_124 : z_124 = (ms (plK mq v w) n.toNatClampNeg).getD i2 0 := hz_124.trans (by rw [nI_clamp (by omega)]; exact hgN _ hiN2)
                subst hz_124
                refine va_iast hx hb hK hP hD hS 3 0 rfl rfl (vp_in_nI (by omega) (by omega)) dX6_sorts_124 (fun H locs hP hD hS => ?_)
                have hP : va_P D vwCl [(y, .inr (6, [.ref yr, .int mq, .int mn, .ref yw, .ref yc, .int mc, .ref yl, .int me, .ref ys, .ref yp, .ref ym, .int dd, .ref yo, .ref yk, .ref yt, .int mz, .ref yi, .ref yz, .ref yx, .ref yu, .int km, .int kr])), (yw, .inl (cI, 20, .inl v)), (yp, .inl (cI, 200, .inl g)), (ym, .inl (cI, 200, .inl (upd h ((nI M.length).toNatClampNeg) ((ms (plK mq v w) n.toNatClampNeg).getD i2 0))))] H := hP
                have hD : va_D A [(y, .inr (6, [.ref yr, .int mq, .int mn, .ref yw, .ref yc, .int mc, .ref yl, .int me, .ref ys, .ref yp, .ref ym, .int dd, .ref yo, .ref yk, .ref yt, .int mz, .ref yi, .ref yz, .ref yx, .ref yu, .int km, .int kr])), (yw, .inl (cI, 20, .inl v)), (yp, .inl (cI, 200, .inl g)), (ym, .inl (cI, 200, .inl (upd h ((nI M.length).toNatClampNeg) ((ms (plK mq v w) n.toNatClampNeg).getD i2 0))))] := hD
                refine lv_aload_n hx hb dX6_sorts_125 rfl (lv_at hl 1 rfl) ?_
                refine lv_dup hx hb dX6_sorts_126 rfl ?_
                refine va_get (D := D) (ci := 6) (v := .int dd) (C := RX6) (T := TX6) (N := 22) hx hb hts (in_X6_sorts_X6) hown hK hP 0 rfl rfl 11 (by decide) (hts (.fieldLink RX6 146 "StepsRoundCircleModel" "marked" "I") (by decide +kernel)) (fun _ h9 => h9) rfl dX6_sorts_127 ?_
                refine lv_iconst (v := 1) hx hb dX6_sorts_130 (by decide) ?_
                refine lv_iadd hx hb dX6_sorts_131 ?_
                refine va_put (D := D) (ci := 6) (v := .int (dd + 1)) (ty := .int) (C := RX6) (T := TX6) (N := 22) hx hb hts (in_X6_sorts_X6) tyX6 tyX6_ok nmX6 hown hK hP hD hS 0 rfl rfl 11 (by decide) (hts (.fieldLink RX6 146 "StepsRoundCircleModel" "marked" "I") (by decide +kernel)) (fun _ h9 => h9) rfl (by decide +kernel) rfl rfl (Nat.le_of_ble_eq_true rfl) dX6_sorts_132 (fun H locs hP hD hS => ?_)
                have hP : va_P D vwCl [(y, .inr (6, [.ref yr, .int mq, .int mn, .ref yw, .ref yc, .int mc, .ref yl, .int me, .ref ys, .ref yp, .ref ym, .int (dd + 1), .ref yo, .ref yk, .ref yt, .int mz, .ref yi, .ref yz, .ref yx, .ref yu, .int km, .int kr])), (yw, .inl (cI, 20, .inl v)), (yp, .inl (cI, 200, .inl g)), (ym, .inl (cI, 200, .inl (upd h ((nI M.length).toNatClampNeg) ((ms (plK mq v w) n.toNatClampNeg).getD i2 0))))] H := hP
                have hD : va_D A [(y, .inr (6, [.ref yr, .int mq, .int mn, .ref yw, .ref yc, .int mc, .ref yl, .int me, .ref ys, .ref yp, .ref ym, .int (dd + 1), .ref yo, .ref yk, .ref yt, .int mz, .ref yi, .ref yz, .ref yx, .ref yu, .int km, .int kr])), (yw, .inl (cI, 20, .inl v)), (yp, .inl (cI, 200, .inl g)), (ym, .inl (cI, 200, .inl (upd h ((nI M.length).toNatClampNeg) ((ms (plK mq v w) n.toNatClampNeg).getD i2 0))))] := hD
                refine lv_iinc (v := (nI i2) + 1) (lv' := [(3, .int ((nI i2) + 1)), (0, .ref y), (1, .int w), (2, .int n)]) hx hb dX6_sorts_135 hl (k := 0) rfl (by rfl) (by decide) rfl (fun ls hl => ?_)
                refine lv_goto (tgt := 81) hx hb dX6_sorts_138 (by decide) ?_
                exact ih_81 (i2 + 1) (M ++ [(ms (plK mq v w) n.toNatClampNeg).getD i2 0]) (dd + 1) (upd h ((nI M.length).toNatClampNeg) ((ms (plK mq v w) n.toNatClampNeg).getD i2 0)) (by omega) (by rw [nI_clamp (by omega)]; exact so_rep_app _ hrep (by omega)) (so_str_app hstr (mk_more hoS (by rw [hSl]; omega) hmem hne9)) (mem_more hmem) (by rw [List.length_append]; simp; omega) (by omega) _ (by first | rfl | exact nI_1 _ | exact nI_0.symm) _ _ (hP.sub [0, 1, 2, 3] rfl) (hD.sub [0, 1, 2, 3] (by decide) rfl) hS ls (lv_sub hl [0, 1, 2, 3] rfl)
              · skip
                have hi0 : 0 < i2 := by rcases Nat.eq_zero_or_pos i2 with q9 | q9; exact absurd (by rw [q9]; exact nI_0 ▸ (Int32.le_refl _)) c_87; exact q9
                refine lv_aload_n hx hb dX6_sorts_90 rfl (lv_at hl 1 rfl) ?_
                refine va_get (D := D) (ci := 6) (v := .ref yp) (C := RX6) (T := TX6) (N := 22) hx hb hts (in_X6_sorts_X6) hown hK hP 0 rfl rfl 9 (by decide) (hts (.fieldLink RX6 29 "StepsRoundCircleModel" "places" "[I") (by decide +kernel)) (fun _ h9 => h9) rfl dX6_sorts_91 ?_
                refine lv_iload_n hx hb dX6_sorts_94 rfl (lv_at hl 0 rfl) ?_
                refine va_iald hx hb hK hP 2 0 rfl rfl (vp_in_nI (by omega) (by omega)) dX6_sorts_95 ?_
                refine lv_topi (fun z_96 hz_96 => ?_)
                have hz_96 : z_96 = (ms (plK mq v w) n.toNatClampNeg).getD i2 0 := hz_96.trans (by rw [nI_clamp (by omega)]; exact hgN _ hiN2)
                subst hz_96
                refine lv_aload_n hx hb dX6_sorts_96 rfl (lv_at hl 1 rfl) ?_
                refine va_get (D := D) (ci := 6) (v := .ref yp) (C := RX6) (T := TX6) (N := 22) hx hb hts (in_X6_sorts_X6) hown hK hP 0 rfl rfl 9 (by decide) (hts (.fieldLink RX6 29 "StepsRoundCircleModel" "places" "[I") (by decide +kernel)) (fun _ h9 => h9) rfl dX6_sorts_97 ?_
                refine lv_iload_n hx hb dX6_sorts_100 rfl (lv_at hl 0 rfl) ?_
                refine lv_iconst (v := 1) hx hb dX6_sorts_101 (by decide) ?_
                refine lv_isub hx hb dX6_sorts_102 ?_
                refine lv_topi (fun z_103 hz_103 => ?_)
                have hz_103 : z_103 = nI (i2 - 1) := hz_103.trans (pk_sub (a := i2) (b := 1) hi0)
                subst hz_103
                refine va_iald hx hb hK hP 2 0 rfl rfl (vp_in_nI (by omega) (by omega)) dX6_sorts_103 ?_
                refine lv_topi (fun z_104 hz_104 => ?_)
                have hz_104 : z_104 = (ms (plK mq v w) n.toNatClampNeg).getD (i2 - 1) 0 := hz_104.trans (by rw [nI_clamp (by omega)]; exact hgN _ (by omega))
                subst hz_104
                refine lv_icmp_ne (tgt := 110) hx hb dX6_sorts_104 (by decide) (fun c_104 => ?_) (fun c_104 => ?_)
                · skip
                  have hne9 : i2 = 0 ∨ ¬ (ms (plK mq v w) n.toNatClampNeg).getD i2 0 = (ms (plK mq v w) n.toNatClampNeg).getD (i2 - 1) 0 := Or.inr c_104
                  refine lv_aload_n hx hb dX6_sorts_110 rfl (lv_at hl 1 rfl) ?_
                  refine va_get (D := D) (ci := 6) (v := .ref ym) (C := RX6) (T := TX6) (N := 22) hx hb hts (in_X6_sorts_X6) hown hK hP 0 rfl rfl 10 (by decide) (hts (.fieldLink RX6 32 "StepsRoundCircleModel" "marks" "[I") (by decide +kernel)) (fun _ h9 => h9) rfl dX6_sorts_111 ?_
                  refine lv_aload_n hx hb dX6_sorts_114 rfl (lv_at hl 1 rfl) ?_
                  refine va_get (D := D) (ci := 6) (v := .int dd) (C := RX6) (T := TX6) (N := 22) hx hb hts (in_X6_sorts_X6) hown hK hP 0 rfl rfl 11 (by decide) (hts (.fieldLink RX6 146 "StepsRoundCircleModel" "marked" "I") (by decide +kernel)) (fun _ h9 => h9) rfl dX6_sorts_115 ?_
                  refine lv_topi (fun z_118 hz_118 => ?_)
                  have hz_118 : z_118 = nI M.length := hz_118.trans hrep.1
                  subst hz_118
                  refine lv_aload_n hx hb dX6_sorts_118 rfl (lv_at hl 1 rfl) ?_
                  refine va_get (D := D) (ci := 6) (v := .ref yp) (C := RX6) (T := TX6) (N := 22) hx hb hts (in_X6_sorts_X6) hown hK hP 0 rfl rfl 9 (by decide) (hts (.fieldLink RX6 29 "StepsRoundCircleModel" "places" "[I") (by decide +kernel)) (fun _ h9 => h9) rfl dX6_sorts_119 ?_
                  refine lv_iload_n hx hb dX6_sorts_122 rfl (lv_at hl 0 rfl) ?_
                  refine va_iald hx hb hK hP 2 0 rfl rfl (vp_in_nI (by omega) (by omega)) dX6_sorts_123 ?_
                  refine lv_topi (fun z_124 hz_124 => ?_)
                  have hz_124 : z_124 = (ms (plK mq v w) n.toNatClampNeg).getD i2 0 := hz_124.trans (by rw [nI_clamp (by omega)]; exact hgN _ hiN2)
                  subst hz_124
                  refine va_iast hx hb hK hP hD hS 3 0 rfl rfl (vp_in_nI (by omega) (by omega)) dX6_sorts_124 (fun H locs hP hD hS => ?_)
                  have hP : va_P D vwCl [(y, .inr (6, [.ref yr, .int mq, .int mn, .ref yw, .ref yc, .int mc, .ref yl, .int me, .ref ys, .ref yp, .ref ym, .int dd, .ref yo, .ref yk, .ref yt, .int mz, .ref yi, .ref yz, .ref yx, .ref yu, .int km, .int kr])), (yw, .inl (cI, 20, .inl v)), (yp, .inl (cI, 200, .inl g)), (ym, .inl (cI, 200, .inl (upd h ((nI M.length).toNatClampNeg) ((ms (plK mq v w) n.toNatClampNeg).getD i2 0))))] H := hP
                  have hD : va_D A [(y, .inr (6, [.ref yr, .int mq, .int mn, .ref yw, .ref yc, .int mc, .ref yl, .int me, .ref ys, .ref yp, .ref ym, .int dd, .ref yo, .ref yk, .ref yt, .int mz, .ref yi, .ref yz, .ref yx, .ref yu, .int km, .int kr])), (yw, .inl (cI, 20, .inl v)), (yp, .inl (cI, 200, .inl g)), (ym, .inl (cI, 200, .inl (upd h ((nI M.length).toNatClampNeg) ((ms (plK mq v w) n.toNatClampNeg).getD i2 0))))] := hD
                  refine lv_aload_n hx hb dX6_sorts_125 rfl (lv_at hl 1 rfl) ?_
                  refine lv_dup hx hb dX6_sorts_126 rfl ?_
                  refine va_get (D := D) (ci := 6) (v := .int dd) (C := RX6) (T := TX6) (N := 22) hx hb hts (in_X6_sorts_X6) hown hK hP 0 rfl rfl 11 (by decide) (hts (.fieldLink RX6 146 "StepsRoundCircleModel" "marked" "I") (by decide +kernel)) (fun _ h9 => h9) rfl dX6_sorts_127 ?_
                  refine lv_iconst (v := 1) hx hb dX6_sorts_130 (by decide) ?_
                  refine lv_iadd hx hb dX6_sorts_131 ?_
                  refine va_put (D := D) (ci := 6) (v := .int (dd + 1)) (ty := .int) (C := RX6) (T := TX6) (N := 22) hx hb hts (in_X6_sorts_X6) tyX6 tyX6_ok nmX6 hown hK hP hD hS 0 rfl rfl 11 (by decide) (hts (.fieldLink RX6 146 "StepsRoundCircleModel" "marked" "I") (by decide +kernel)) (fun _ h9 => h9) rfl (by decide +kernel) rfl rfl (Nat.le_of_ble_eq_true rfl) dX6_sorts_132 (fun H locs hP hD hS => ?_)
                  have hP : va_P D vwCl [(y, .inr (6, [.ref yr, .int mq, .int mn, .ref yw, .ref yc, .int mc, .ref yl, .int me, .ref ys, .ref yp, .ref ym, .int (dd + 1), .ref yo, .ref yk, .ref yt, .int mz, .ref yi, .ref yz, .ref yx, .ref yu, .int km, .int kr])), (yw, .inl (cI, 20, .inl v)), (yp, .inl (cI, 200, .inl g)), (ym, .inl (cI, 200, .inl (upd h ((nI M.length).toNatClampNeg) ((ms (plK mq v w) n.toNatClampNeg).getD i2 0))))] H := hP
                  have hD : va_D A [(y, .inr (6, [.ref yr, .int mq, .int mn, .ref yw, .ref yc, .int mc, .ref yl, .int me, .ref ys, .ref yp, .ref ym, .int (dd + 1), .ref yo, .ref yk, .ref yt, .int mz, .ref yi, .ref yz, .ref yx, .ref yu, .int km, .int kr])), (yw, .inl (cI, 20, .inl v)), (yp, .inl (cI, 200, .inl g)), (ym, .inl (cI, 200, .inl (upd h ((nI M.length).toNatClampNeg) ((ms (plK mq v w) n.toNatClampNeg).getD i2 0))))] := hD
                  refine lv_iinc (v := (nI i2) + 1) (lv' := [(3, .int ((nI i2) + 1)), (0, .ref y), (1, .int w), (2, .int n)]) hx hb dX6_sorts_135 hl (k := 0) rfl (by rfl) (by decide) rfl (fun ls hl => ?_)
                  refine lv_goto (tgt := 81) hx hb dX6_sorts_138 (by decide) ?_
                  exact ih_81 (i2 + 1) (M ++ [(ms (plK mq v w) n.toNatClampNeg).getD i2 0]) (dd + 1) (upd h ((nI M.length).toNatClampNeg) ((ms (plK mq v w) n.toNatClampNeg).getD i2 0)) (by omega) (by rw [nI_clamp (by omega)]; exact so_rep_app _ hrep (by omega)) (so_str_app hstr (mk_more hoS (by rw [hSl]; omega) hmem hne9)) (mem_more hmem) (by rw [List.length_append]; simp; omega) (by omega) _ (by first | rfl | exact nI_1 _ | exact nI_0.symm) _ _ (hP.sub [0, 1, 2, 3] rfl) (hD.sub [0, 1, 2, 3] (by decide) rfl) hS ls (lv_sub hl [0, 1, 2, 3] rfl)
                · skip
                  refine lv_goto (tgt := 135) hx hb dX6_sorts_107 (by decide) ?_
                  refine lv_iinc (v := (nI i2) + 1) (lv' := [(3, .int ((nI i2) + 1)), (0, .ref y), (1, .int w), (2, .int n)]) hx hb dX6_sorts_135 hl (k := 0) rfl (by rfl) (by decide) rfl (fun ls hl => ?_)
                  refine lv_goto (tgt := 81) hx hb dX6_sorts_138 (by decide) ?_
                  exact ih_81 (i2 + 1) M dd h (by omega) hrep hstr (mem_same hmem hi0 c_104) (by omega) (by omega) _ (by first | rfl | exact nI_1 _ | exact nI_0.symm) _ _ (hP.sub [0, 1, 2, 3] rfl) (hD.sub [0, 1, 2, 3] (by decide) rfl) hS ls (lv_sub hl [0, 1, 2, 3] rfl)
        exact loop_81 (n.toNatClampNeg + 1) 0 [] 0 Mf (by omega) ⟨nI_0.symm, Nat.zero_le _, fun j hj => absurd hj (Nat.not_lt_zero j)⟩ List.Pairwise.nil (fun x => ⟨fun q9 => absurd q9 List.not_mem_nil, fun ⟨j, q9, _⟩ => absurd q9 (Nat.not_lt_zero j)⟩) (Nat.zero_le _) (by omega) _ (by first | rfl | exact nI_1 _ | exact nI_0.symm) _ _ (hP.sub [0, 1, 2, 3] rfl) (hD.sub [0, 1, 2, 3] (by decide) rfl) hS ls (lv_sub hl [0, 1, 2, 3] rfl)
      · skip
        have hiN : i < n.toNatClampNeg := (lt_clamp (by omega)).mp (Int32.not_le.mp c_4)
        have hsl := ms_len (plK mq v w) i
        have hso := ms_ord (plK mq v w) i
        refine lv_aload_n hx hb dX6_sorts_7 rfl (lv_at hl 1 rfl) ?_
        refine lv_iload_n hx hb dX6_sorts_8 rfl (lv_at hl 2 rfl) ?_
        refine lv_iload_n hx hb dX6_sorts_9 rfl (lv_at hl 0 rfl) ?_
        refine rdV (As := [.int w, .int (nI i)]) (rest := []) ⟨hx, hb, hml, hown, hts⟩ (c_X6_placeOf l D cI cZ cR y yr yw yc yl ys yp ym yo yk yt yi yz yx yu mq mn mc me md mz km kr v w (nI i) hq hw hv (⟨nI_pos' (by omega), nI_le (b := 4000) (by omega) (by omega)⟩)) (cwV 2 hts gX6_sorts_X6_placeOf rfl rfl rfl (by decide +kernel) ⟨Nat.le_of_ble_eq_true rfl, Nat.le_of_ble_eq_true rfl⟩) hK hN hP 0 6 rfl rfl rfl [0, 1] rfl rfl hl.1 rfl (Nat.le_of_ble_eq_true rfl) dX6_sorts_10 ⟨Nat.zero_le _, Nat.zero_le _⟩ ?_
        refine lv_istore (lv' := [(4, .int (rg_pb mq v (rg_val v w 0) w (nI i).toInt64)), (3, .int (nI i)), (0, .ref y), (1, .int w), (2, .int n)]) hx hb dX6_sorts_13 hl (by decide) rfl (fun ls hl => ?_)
        refine lv_iload_n hx hb dX6_sorts_15 rfl (lv_at hl 1 rfl) ?_
        refine lv_istore (lv' := [(5, .int (nI i)), (4, .int (rg_pb mq v (rg_val v w 0) w (nI i).toInt64)), (3, .int (nI i)), (0, .ref y), (1, .int w), (2, .int n)]) hx hb dX6_sorts_16 hl (by decide) rfl (fun ls hl => ?_)
        have loop_18 : ∀ (fuel : Nat), ∀ (t : Nat), ∀ (g2 : Nat → Int32), (t ≤ i) → (∀ j, j < t → g2 j = (ms (plK mq v w) i).getD j 0) → (∀ j, t < j → j ≤ i → g2 j = (ms (plK mq v w) i).getD (j - 1) 0) → (∀ j, t ≤ j → j < i → plK mq v w i < (ms (plK mq v w) i).getD j 0) → (t + 1 ≤ fuel) → ∀ (y5 : Int32), y5 = nI t → ∀ (H : Heap) (locs : List Loc), va_P D vwCl [(y, .inr (6, [.ref yr, .int mq, .int mn, .ref yw, .ref yc, .int mc, .ref yl, .int me, .ref ys, .ref yp, .ref ym, .int md, .ref yo, .ref yk, .ref yt, .int mz, .ref yi, .ref yz, .ref yx, .ref yu, .int km, .int kr])), (yw, .inl (cI, 20, .inl v)), (yp, .inl (cI, 200, .inl g2)), (ym, .inl (cI, 200, .inl Mf))] H → va_D A [(y, .inr (6, [.ref yr, .int mq, .int mn, .ref yw, .ref yc, .int mc, .ref yl, .int me, .ref ys, .ref yp, .ref ym, .int md, .ref yo, .ref yk, .ref yt, .int mz, .ref yi, .ref yz, .ref yx, .ref yu, .int km, .int kr])), (yw, .inl (cI, 20, .inl v)), (yp, .inl (cI, 200, .inl g2)), (ym, .inl (cI, 200, .inl Mf))] → va_S A s.heap H locs → ∀ (ls : Array Slot), lv_has ls 6 [(5, .int y5), (0, .ref y), (1, .int w), (2, .int n), (3, .int (nI i)), (4, .int (rg_pb mq v (rg_val v w 0) w (nI i).toInt64))] → W p l e (headSpec wsX6_sorts ({ frames := 3, cells := 0, slots := 0, locals := 74 })).room s m ([.ref y, .int w, .int n] : List Value).toArray below meth c H locs 0 0 (MQ below (va_Qv (fun (u : Int32 × (Nat → Int32) × (Nat → Int32)) => (∀ j, j < n.toNatClampNeg → u.2.1 j = (ms (plK mq v w) n.toNatClampNeg).getD j 0) ∧ so_rep (mk (plK mq v w) n.toNatClampNeg) u.1 u.2.2) (Bw D (fun (u : Int32 × (Nat → Int32) × (Nat → Int32)) => [(y, .inr (6, [.ref yr, .int mq, .int mn, .ref yw, .ref yc, .int mc, .ref yl, .int me, .ref ys, .ref yp, .ref ym, .int u.1, .ref yo, .ref yk, .ref yt, .int mz, .ref yi, .ref yz, .ref yx, .ref yu, .int km, .int kr])), (yw, .inl (cI, 20, .inl v)), (yp, .inl (cI, 200, .inl u.2.1)), (ym, .inl (cI, 200, .inl u.2.2))]) A) A) ([.ref y, .int w, .int n] : List Value).toArray s 0 0 A) (F0 m 18 ls []) := by
          intro fuel
          induction fuel with
          | zero =>
            intro t g2 ht hlo hup hgt hfu2
            exact False.elim (by omega)
          | succ fuel ih_18 =>
            intro t g2 ht hlo hup hgt hfu2 y5 ey5 H locs hP hD hS ls hl
            subst ey5
            refine lv_iload hx hb dX6_sorts_18 (lv_at hl 0 rfl) ?_
            refine lv_if_le (tgt := 59) hx hb dX6_sorts_20 (by decide) (fun c_20 => ?_) (fun c_20 => ?_)
            · skip
              have hend : t = 0 ∨ (ms (plK mq v w) i).getD (t - 1) 0 ≤ plK mq v w i := Or.inl (by have := (nI_leI (a := t) (b := 0) (by omega) (by omega)).mp c_20; omega)
              have hnew : ∀ j, j < i + 1 → upd g2 (nI t).toNatClampNeg (plK mq v w i) j = (ms (plK mq v w) (i + 1)).getD j 0 := by
                intro j hj
                rw [nI_clamp (by omega), ms, so_ins_R _ hso (by omega) hend (fun j h1 h2 => hgt j h1 (by omega)) j (by omega)]
                by_cases e8 : j < t
                · rw [if_pos e8, pk_un (by omega)]; exact hlo j e8
                · rw [if_neg e8]
                  by_cases e9 : j = t
                  · rw [if_pos e9, e9]; exact pk_us
                  · rw [if_neg e9, pk_un e9]; exact hup j (by omega) (by omega)
              refine lv_aload_n hx hb dX6_sorts_59 rfl (lv_at hl 1 rfl) ?_
              refine va_get (D := D) (ci := 6) (v := .ref yp) (C := RX6) (T := TX6) (N := 22) hx hb hts (in_X6_sorts_X6) hown hK hP 0 rfl rfl 9 (by decide) (hts (.fieldLink RX6 29 "StepsRoundCircleModel" "places" "[I") (by decide +kernel)) (fun _ h9 => h9) rfl dX6_sorts_60 ?_
              refine lv_iload hx hb dX6_sorts_63 (lv_at hl 0 rfl) ?_
              refine lv_iload hx hb dX6_sorts_65 (lv_at hl 5 rfl) ?_
              refine va_iast hx hb hK hP hD hS 2 0 rfl rfl (vp_in_nI (by omega) (by omega)) dX6_sorts_67 (fun H locs hP hD hS => ?_)
              have hP : va_P D vwCl [(y, .inr (6, [.ref yr, .int mq, .int mn, .ref yw, .ref yc, .int mc, .ref yl, .int me, .ref ys, .ref yp, .ref ym, .int md, .ref yo, .ref yk, .ref yt, .int mz, .ref yi, .ref yz, .ref yx, .ref yu, .int km, .int kr])), (yw, .inl (cI, 20, .inl v)), (yp, .inl (cI, 200, .inl (upd g2 ((nI t).toNatClampNeg) (rg_pb mq v (rg_val v w 0) w (nI i).toInt64)))), (ym, .inl (cI, 200, .inl Mf))] H := hP
              have hD : va_D A [(y, .inr (6, [.ref yr, .int mq, .int mn, .ref yw, .ref yc, .int mc, .ref yl, .int me, .ref ys, .ref yp, .ref ym, .int md, .ref yo, .ref yk, .ref yt, .int mz, .ref yi, .ref yz, .ref yx, .ref yu, .int km, .int kr])), (yw, .inl (cI, 20, .inl v)), (yp, .inl (cI, 200, .inl (upd g2 ((nI t).toNatClampNeg) (rg_pb mq v (rg_val v w 0) w (nI i).toInt64)))), (ym, .inl (cI, 200, .inl Mf))] := hD
              refine lv_iinc (v := (nI i) + 1) (lv' := [(3, .int ((nI i) + 1)), (5, .int (nI t)), (0, .ref y), (1, .int w), (2, .int n), (4, .int (rg_pb mq v (rg_val v w 0) w (nI i).toInt64))]) hx hb dX6_sorts_68 hl (k := 4) rfl (by rfl) (by decide) rfl (fun ls hl => ?_)
              refine lv_goto (tgt := 2) hx hb dX6_sorts_71 (by decide) ?_
              exact ih_2 (i + 1) (upd g2 ((nI t).toNatClampNeg) (rg_pb mq v (rg_val v w 0) w (nI i).toInt64)) (by omega) (fun j hj => hnew j hj) (by omega) _ (by first | rfl | exact nI_1 _ | exact nI_0.symm) _ _ (hP.sub [0, 1, 2, 3] rfl) (hD.sub [0, 1, 2, 3] (by decide) rfl) hS ls (lv_sub hl [0, 2, 3, 4] rfl)
            · skip
              have ht0 : 0 < t := by rcases Nat.eq_zero_or_pos t with q9 | q9; exact absurd (by rw [q9]; exact nI_0 ▸ (Int32.le_refl _)) c_20; exact q9
              refine lv_aload_n hx hb dX6_sorts_23 rfl (lv_at hl 1 rfl) ?_
              refine va_get (D := D) (ci := 6) (v := .ref yp) (C := RX6) (T := TX6) (N := 22) hx hb hts (in_X6_sorts_X6) hown hK hP 0 rfl rfl 9 (by decide) (hts (.fieldLink RX6 29 "StepsRoundCircleModel" "places" "[I") (by decide +kernel)) (fun _ h9 => h9) rfl dX6_sorts_24 ?_
              refine lv_iload hx hb dX6_sorts_27 (lv_at hl 0 rfl) ?_
              refine lv_iconst (v := 1) hx hb dX6_sorts_29 (by decide) ?_
              refine lv_isub hx hb dX6_sorts_30 ?_
              refine lv_topi (fun z_31 hz_31 => ?_)
              have hz_31 : z_31 = nI (t - 1) := hz_31.trans (pk_sub (a := t) (b := 1) ht0)
              subst hz_31
              refine va_iald hx hb hK hP 2 0 rfl rfl (vp_in_nI (by omega) (by omega)) dX6_sorts_31 ?_
              refine lv_topi (fun z_32 hz_32 => ?_)
              have hz_32 : z_32 = (ms (plK mq v w) i).getD (t - 1) 0 := hz_32.trans (by rw [nI_clamp (by omega)]; exact hlo _ (by omega))
              subst hz_32
              refine lv_iload hx hb dX6_sorts_32 (lv_at hl 5 rfl) ?_
              refine lv_icmp_le (tgt := 59) hx hb dX6_sorts_34 (by decide) (fun c_34 => ?_) (fun c_34 => ?_)
              · skip
                have hend : t = 0 ∨ (ms (plK mq v w) i).getD (t - 1) 0 ≤ plK mq v w i := Or.inr c_34
                have hnew : ∀ j, j < i + 1 → upd g2 (nI t).toNatClampNeg (plK mq v w i) j = (ms (plK mq v w) (i + 1)).getD j 0 := by
                  intro j hj
                  rw [nI_clamp (by omega), ms, so_ins_R _ hso (by omega) hend (fun j h1 h2 => hgt j h1 (by omega)) j (by omega)]
                  by_cases e8 : j < t
                  · rw [if_pos e8, pk_un (by omega)]; exact hlo j e8
                  · rw [if_neg e8]
                    by_cases e9 : j = t
                    · rw [if_pos e9, e9]; exact pk_us
                    · rw [if_neg e9, pk_un e9]; exact hup j (by omega) (by omega)
                refine lv_aload_n hx hb dX6_sorts_59 rfl (lv_at hl 1 rfl) ?_
                refine va_get (D := D) (ci := 6) (v := .ref yp) (C := RX6) (T := TX6) (N := 22) hx hb hts (in_X6_sorts_X6) hown hK hP 0 rfl rfl 9 (by decide) (hts (.fieldLink RX6 29 "StepsRoundCircleModel" "places" "[I") (by decide +kernel)) (fun _ h9 => h9) rfl dX6_sorts_60 ?_
                refine lv_iload hx hb dX6_sorts_63 (lv_at hl 0 rfl) ?_
                refine lv_iload hx hb dX6_sorts_65 (lv_at hl 5 rfl) ?_
                refine va_iast hx hb hK hP hD hS 2 0 rfl rfl (vp_in_nI (by omega) (by omega)) dX6_sorts_67 (fun H locs hP hD hS => ?_)
                have hP : va_P D vwCl [(y, .inr (6, [.ref yr, .int mq, .int mn, .ref yw, .ref yc, .int mc, .ref yl, .int me, .ref ys, .ref yp, .ref ym, .int md, .ref yo, .ref yk, .ref yt, .int mz, .ref yi, .ref yz, .ref yx, .ref yu, .int km, .int kr])), (yw, .inl (cI, 20, .inl v)), (yp, .inl (cI, 200, .inl (upd g2 ((nI t).toNatClampNeg) (rg_pb mq v (rg_val v w 0) w (nI i).toInt64)))), (ym, .inl (cI, 200, .inl Mf))] H := hP
                have hD : va_D A [(y, .inr (6, [.ref yr, .int mq, .int mn, .ref yw, .ref yc, .int mc, .ref yl, .int me, .ref ys, .ref yp, .ref ym, .int md, .ref yo, .ref yk, .ref yt, .int mz, .ref yi, .ref yz, .ref yx, .ref yu, .int km, .int kr])), (yw, .inl (cI, 20, .inl v)), (yp, .inl (cI, 200, .inl (upd g2 ((nI t).toNatClampNeg) (rg_pb mq v (rg_val v w 0) w (nI i).toInt64)))), (ym, .inl (cI, 200, .inl Mf))] := hD
                refine lv_iinc (v := (nI i) + 1) (lv' := [(3, .int ((nI i) + 1)), (5, .int (nI t)), (0, .ref y), (1, .int w), (2, .int n), (4, .int (rg_pb mq v (rg_val v w 0) w (nI i).toInt64))]) hx hb dX6_sorts_68 hl (k := 4) rfl (by rfl) (by decide) rfl (fun ls hl => ?_)
                refine lv_goto (tgt := 2) hx hb dX6_sorts_71 (by decide) ?_
                exact ih_2 (i + 1) (upd g2 ((nI t).toNatClampNeg) (rg_pb mq v (rg_val v w 0) w (nI i).toInt64)) (by omega) (fun j hj => hnew j hj) (by omega) _ (by first | rfl | exact nI_1 _ | exact nI_0.symm) _ _ (hP.sub [0, 1, 2, 3] rfl) (hD.sub [0, 1, 2, 3] (by decide) rfl) hS ls (lv_sub hl [0, 2, 3, 4] rfl)
              · skip
                refine lv_aload_n hx hb dX6_sorts_37 rfl (lv_at hl 1 rfl) ?_
                refine va_get (D := D) (ci := 6) (v := .ref yp) (C := RX6) (T := TX6) (N := 22) hx hb hts (in_X6_sorts_X6) hown hK hP 0 rfl rfl 9 (by decide) (hts (.fieldLink RX6 29 "StepsRoundCircleModel" "places" "[I") (by decide +kernel)) (fun _ h9 => h9) rfl dX6_sorts_38 ?_
                refine lv_iload hx hb dX6_sorts_41 (lv_at hl 0 rfl) ?_
                refine lv_aload_n hx hb dX6_sorts_43 rfl (lv_at hl 1 rfl) ?_
                refine va_get (D := D) (ci := 6) (v := .ref yp) (C := RX6) (T := TX6) (N := 22) hx hb hts (in_X6_sorts_X6) hown hK hP 0 rfl rfl 9 (by decide) (hts (.fieldLink RX6 29 "StepsRoundCircleModel" "places" "[I") (by decide +kernel)) (fun _ h9 => h9) rfl dX6_sorts_44 ?_
                refine lv_iload hx hb dX6_sorts_47 (lv_at hl 0 rfl) ?_
                refine lv_iconst (v := 1) hx hb dX6_sorts_49 (by decide) ?_
                refine lv_isub hx hb dX6_sorts_50 ?_
                refine lv_topi (fun z_51 hz_51 => ?_)
                have hz_51 : z_51 = nI (t - 1) := hz_51.trans (pk_sub (a := t) (b := 1) ht0)
                subst hz_51
                refine va_iald hx hb hK hP 2 0 rfl rfl (vp_in_nI (by omega) (by omega)) dX6_sorts_51 ?_
                refine lv_topi (fun z_52 hz_52 => ?_)
                have hz_52 : z_52 = (ms (plK mq v w) i).getD (t - 1) 0 := hz_52.trans (by rw [nI_clamp (by omega)]; exact hlo _ (by omega))
                subst hz_52
                refine va_iast hx hb hK hP hD hS 2 0 rfl rfl (vp_in_nI (by omega) (by omega)) dX6_sorts_52 (fun H locs hP hD hS => ?_)
                have hP : va_P D vwCl [(y, .inr (6, [.ref yr, .int mq, .int mn, .ref yw, .ref yc, .int mc, .ref yl, .int me, .ref ys, .ref yp, .ref ym, .int md, .ref yo, .ref yk, .ref yt, .int mz, .ref yi, .ref yz, .ref yx, .ref yu, .int km, .int kr])), (yw, .inl (cI, 20, .inl v)), (yp, .inl (cI, 200, .inl (upd g2 ((nI t).toNatClampNeg) ((ms (plK mq v w) i).getD (t - 1) 0)))), (ym, .inl (cI, 200, .inl Mf))] H := hP
                have hD : va_D A [(y, .inr (6, [.ref yr, .int mq, .int mn, .ref yw, .ref yc, .int mc, .ref yl, .int me, .ref ys, .ref yp, .ref ym, .int md, .ref yo, .ref yk, .ref yt, .int mz, .ref yi, .ref yz, .ref yx, .ref yu, .int km, .int kr])), (yw, .inl (cI, 20, .inl v)), (yp, .inl (cI, 200, .inl (upd g2 ((nI t).toNatClampNeg) ((ms (plK mq v w) i).getD (t - 1) 0)))), (ym, .inl (cI, 200, .inl Mf))] := hD
                refine lv_iinc (v := (nI t) + (-1)) (lv' := [(5, .int ((nI t) + (-1))), (0, .ref y), (1, .int w), (2, .int n), (3, .int (nI i)), (4, .int (rg_pb mq v (rg_val v w 0) w (nI i).toInt64))]) hx hb dX6_sorts_53 hl (k := 0) rfl (by rfl) (by decide) rfl (fun ls hl => ?_)
                refine lv_goto (tgt := 18) hx hb dX6_sorts_56 (by decide) ?_
                exact ih_18 (t - 1) (upd g2 ((nI t).toNatClampNeg) ((ms (plK mq v w) i).getD (t - 1) 0)) (by omega) (fun j hj => by rw [nI_clamp (by omega), pk_un (by omega)]; exact hlo j (by omega)) (fun j h1 h2 => by rw [nI_clamp (by omega)]; by_cases e9 : j = t; (· subst e9; exact pk_us); (· rw [pk_un e9]; exact hup j (by omega) h2)) (fun j h1 h2 => by by_cases e9 : j = t - 1; (· subst e9; exact Int32.not_le.mp c_34); (· exact hgt j (by omega) h2)) (by omega) _ (nI_dec ht0) _ _ (hP.sub [0, 1, 2, 3] rfl) (hD.sub [0, 1, 2, 3] (by decide) rfl) hS ls (lv_sub hl [0, 1, 2, 3, 4, 5] rfl)
        exact loop_18 (i + 1) i g (by omega) hg (fun j h1 h2 => absurd h1 (by omega)) (fun j h1 h2 => absurd h1 (by omega)) (by omega) _ rfl _ _ (hP.sub [0, 1, 2, 3] rfl) (hD.sub [0, 1, 2, 3] (by decide) rfl) hS ls (lv_sub hl [0, 3, 4, 5, 2, 1] rfl)
  exact loop_2 (n.toNatClampNeg + 1) 0 P (by omega) (fun j hj => absurd hj (Nat.not_lt_zero j)) (by omega) _ (by first | rfl | exact nI_1 _ | exact nI_0.symm) _ _ (hP.sub [0, 1, 2, 3] rfl) (hD.sub [0, 1, 2, 3] (by decide) rfl) hS ls (lv_sub hl [0, 1, 2, 3] rfl)

set_option maxHeartbeats 4000000 in
set_option maxRecDepth 100000 in
theorem c_X6_gap (l : Launch) (D : va_G) (cI cZ cR : ClassId) (y yr yw yc yl ys yp ym yo yk yt yi yz yx yu : Nat) (mq mn mc me md mz km kr : Int32) (Mf : Nat → Int32) (M : List Int32) (i : Nat) (hrep : so_rep M md Mf) (hi : i < M.length) : Met l yX6_gap wsX6_gap ({ frames := 0, cells := 0, slots := 0, locals := 0 }) (PcR D cI cZ cR [.ref y, .int (nI i)] [(y, .inr (6, [.ref yr, .int mq, .int mn, .ref yw, .ref yc, .int mc, .ref yl, .int me, .ref ys, .ref yp, .ref ym, .int md, .ref yo, .ref yk, .ref yt, .int mz, .ref yi, .ref yz, .ref yx, .ref yu, .int km, .int kr])), (ym, .inl (cI, 200, .inl Mf))]) (k2_QcV (.int (gpL mq M i))) 0 0 (fun _ => False) := by
  refine Met.ofW (cc := cX6_gap) (maxL := 2) (ret := (some .int)) (by decide) rfl ?_
  intro p e s m args below meth c s₁ B hml hv
  obtain ⟨rfl, hP, hK, hN⟩ := hv
  have hx := B.exec
  have hb := B.bytes
  have hr := B.returns
  have hts := atoms_spec (ws := wsX6_gap) B.pre
  have hown : s.vm.findClass RX6 = some m.cls := findClass_of_methodNamed B.named
  have hlocks := B.notSynchronized
  have hP : va_P D vwCl [(y, .inr (6, [.ref yr, .int mq, .int mn, .ref yw, .ref yc, .int mc, .ref yl, .int me, .ref ys, .ref yp, .ref ym, .int md, .ref yo, .ref yk, .ref yt, .int mz, .ref yi, .ref yz, .ref yx, .ref yu, .int km, .int kr])), (ym, .inl (cI, 200, .inl Mf))] s.heap := hP
  have hl := lv_entry ([.ref y, .int (nI i)]) (n := 2) (Nat.le_of_ble_eq_true rfl)
  rw [lg_entry_eq]
  generalize (lg_sl ([.ref y, .int (nI i)]) ++ List.replicate (2 - (lg_sl ([.ref y, .int (nI i)])).length) Slot.unset).toArray = ls at hl ⊢
  have hl : lv_has ls 2 [(0, .ref y), (1, .int (nI i))] := hl
  have hlen := hrep.2.1
  have hMf := hrep.2.2
  refine lv_aload_n hx hb dX6_gap_0 rfl (lv_at hl 0 rfl) ?_
  refine va_get (D := D) (ci := 6) (v := .int md) (C := RX6) (T := TX6) (N := 22) hx hb hts (in_X6_gap_X6) hown hK hP 0 rfl rfl 11 (by decide) (hts (.fieldLink RX6 146 "StepsRoundCircleModel" "marked" "I") (by decide +kernel)) (fun _ h9 => h9) rfl dX6_gap_1 ?_
  refine lv_topi (fun z_4 hz_4 => ?_)
  have hz_4 : z_4 = nI M.length := hz_4.trans hrep.1
  subst hz_4
  refine lv_iconst (v := 1) hx hb dX6_gap_4 (by decide) ?_
  refine lv_icmp_ne (tgt := 13) hx hb dX6_gap_5 (by decide) (fun c_5 => ?_) (fun c_5 => ?_)
  · skip
    refine lv_iload_n hx hb dX6_gap_13 rfl (lv_at hl 1 rfl) ?_
    refine lv_aload_n hx hb dX6_gap_14 rfl (lv_at hl 0 rfl) ?_
    refine va_get (D := D) (ci := 6) (v := .int md) (C := RX6) (T := TX6) (N := 22) hx hb hts (in_X6_gap_X6) hown hK hP 0 rfl rfl 11 (by decide) (hts (.fieldLink RX6 146 "StepsRoundCircleModel" "marked" "I") (by decide +kernel)) (fun _ h9 => h9) rfl dX6_gap_15 ?_
    refine lv_topi (fun z_18 hz_18 => ?_)
    have hz_18 : z_18 = nI M.length := hz_18.trans hrep.1
    subst hz_18
    refine lv_iconst (v := 1) hx hb dX6_gap_18 (by decide) ?_
    refine lv_isub hx hb dX6_gap_19 ?_
    refine lv_topi (fun z_20 hz_20 => ?_)
    have hz_20 : z_20 = nI (M.length - 1) := hz_20.trans (pk_sub (a := M.length) (b := 1) (by omega))
    subst hz_20
    refine lv_icmp_ne (tgt := 44) hx hb dX6_gap_20 (by decide) (fun c_20 => ?_) (fun c_20 => ?_)
    · skip
      refine lv_aload_n hx hb dX6_gap_44 rfl (lv_at hl 0 rfl) ?_
      refine va_get (D := D) (ci := 6) (v := .ref ym) (C := RX6) (T := TX6) (N := 22) hx hb hts (in_X6_gap_X6) hown hK hP 0 rfl rfl 10 (by decide) (hts (.fieldLink RX6 32 "StepsRoundCircleModel" "marks" "[I") (by decide +kernel)) (fun _ h9 => h9) rfl dX6_gap_45 ?_
      refine lv_iload_n hx hb dX6_gap_48 rfl (lv_at hl 1 rfl) ?_
      refine lv_iconst (v := 1) hx hb dX6_gap_49 (by decide) ?_
      refine lv_iadd hx hb dX6_gap_50 ?_
      have hi1 : i + 1 < M.length := by rcases Nat.lt_or_ge (i + 1) M.length with q9 | q9; exact q9; exact absurd (congrArg nI (by omega)) c_20
      refine lv_topi (fun z_51 hz_51 => ?_)
      have hz_51 : z_51 = nI (i + 1) := hz_51.trans (nI_1 _)
      subst hz_51
      refine va_iald hx hb hK hP 1 0 rfl rfl (vp_in_nI (by omega) (by omega)) dX6_gap_51 ?_
      refine lv_topi (fun z_52 hz_52 => ?_)
      have hz_52 : z_52 = M.getD (i + 1) 0 := hz_52.trans (by rw [nI_clamp (by omega)]; exact hMf _ hi1)
      subst hz_52
      refine lv_aload_n hx hb dX6_gap_52 rfl (lv_at hl 0 rfl) ?_
      refine va_get (D := D) (ci := 6) (v := .ref ym) (C := RX6) (T := TX6) (N := 22) hx hb hts (in_X6_gap_X6) hown hK hP 0 rfl rfl 10 (by decide) (hts (.fieldLink RX6 32 "StepsRoundCircleModel" "marks" "[I") (by decide +kernel)) (fun _ h9 => h9) rfl dX6_gap_53 ?_
      refine lv_iload_n hx hb dX6_gap_56 rfl (lv_at hl 1 rfl) ?_
      refine va_iald hx hb hK hP 1 0 rfl rfl (vp_in_nI (by omega) (by omega)) dX6_gap_57 ?_
      refine lv_topi (fun z_58 hz_58 => ?_)
      have hz_58 : z_58 = M.getD i 0 := hz_58.trans (by rw [nI_clamp (by omega)]; exact hMf i hi)
      subst hz_58
      refine lv_isub hx hb dX6_gap_58 ?_
      exact rdI hx hb hr hlocks dX6_gap_59 (by unfold gpL; rw [if_pos hi1])
    · skip
      refine lv_aload_n hx hb dX6_gap_23 rfl (lv_at hl 0 rfl) ?_
      refine va_get (D := D) (ci := 6) (v := .ref ym) (C := RX6) (T := TX6) (N := 22) hx hb hts (in_X6_gap_X6) hown hK hP 0 rfl rfl 10 (by decide) (hts (.fieldLink RX6 32 "StepsRoundCircleModel" "marks" "[I") (by decide +kernel)) (fun _ h9 => h9) rfl dX6_gap_24 ?_
      refine lv_iconst (v := 0) hx hb dX6_gap_27 (by decide) ?_
      refine va_iald hx hb hK hP 1 0 rfl rfl (vp_in_nI (n := 0) (by omega) (by omega)) dX6_gap_28 ?_
      refine lv_topi (fun z_29 hz_29 => ?_)
      have hz_29 : z_29 = M.getD 0 0 := hz_29.trans (hMf 0 (by omega))
      subst hz_29
      refine lv_aload_n hx hb dX6_gap_29 rfl (lv_at hl 0 rfl) ?_
      refine va_get (D := D) (ci := 6) (v := .int mq) (C := RX6) (T := TX6) (N := 22) hx hb hts (in_X6_gap_X6) hown hK hP 0 rfl rfl 1 (by decide) (hts (.fieldLink RX6 13 "StepsRoundCircleModel" "round" "I") (by decide +kernel)) (fun _ h9 => h9) rfl dX6_gap_30 ?_
      refine lv_iadd hx hb dX6_gap_33 ?_
      refine lv_aload_n hx hb dX6_gap_34 rfl (lv_at hl 0 rfl) ?_
      refine va_get (D := D) (ci := 6) (v := .ref ym) (C := RX6) (T := TX6) (N := 22) hx hb hts (in_X6_gap_X6) hown hK hP 0 rfl rfl 10 (by decide) (hts (.fieldLink RX6 32 "StepsRoundCircleModel" "marks" "[I") (by decide +kernel)) (fun _ h9 => h9) rfl dX6_gap_35 ?_
      refine lv_iload_n hx hb dX6_gap_38 rfl (lv_at hl 1 rfl) ?_
      refine va_iald hx hb hK hP 1 0 rfl rfl (vp_in_nI (by omega) (by omega)) dX6_gap_39 ?_
      refine lv_topi (fun z_40 hz_40 => ?_)
      have hz_40 : z_40 = M.getD i 0 := hz_40.trans (by rw [nI_clamp (by omega)]; exact hMf i hi)
      subst hz_40
      refine lv_isub hx hb dX6_gap_40 ?_
      refine lv_goto (tgt := 59) hx hb dX6_gap_41 (by decide) ?_
      exact rdI hx hb hr hlocks dX6_gap_59 (by have e9 : i = M.length - 1 := (nI_eq (by omega) (by omega)).mp c_20; unfold gpL; rw [if_neg (by omega)])
  · skip
    refine lv_aload_n hx hb dX6_gap_8 rfl (lv_at hl 0 rfl) ?_
    refine va_get (D := D) (ci := 6) (v := .int mq) (C := RX6) (T := TX6) (N := 22) hx hb hts (in_X6_gap_X6) hown hK hP 0 rfl rfl 1 (by decide) (hts (.fieldLink RX6 13 "StepsRoundCircleModel" "round" "I") (by decide +kernel)) (fun _ h9 => h9) rfl dX6_gap_9 ?_
    exact rdI hx hb hr hlocks dX6_gap_12 (by have e9 : M.length = 1 := (nI_eq (b := 1) (by omega) (by omega)).mp c_5; have e8 : i = 0 := (by omega); unfold gpL; rw [if_neg (by omega), e8, gp_same])

set_option maxHeartbeats 4000000 in
set_option maxRecDepth 100000 in
theorem c_X6_isFirst (l : Launch) (D : va_G) (cI cZ cR : ClassId) (y yr yw yc yl ys yp ym yo yk yt yi yz yx yu : Nat) (mq mn mc me md mz km kr : Int32) (Mf : Nat → Int32) (M : List Int32) (i : Nat) (hrep : so_rep M md Mf) (hi : i < M.length) : Met l yX6_isFirst wsX6_isFirst ({ frames := 1, cells := 0, slots := 0, locals := 21 }) (PcR D cI cZ cR [.ref y, .int (nI i)] [(y, .inr (6, [.ref yr, .int mq, .int mn, .ref yw, .ref yc, .int mc, .ref yl, .int me, .ref ys, .ref yp, .ref ym, .int md, .ref yo, .ref yk, .ref yt, .int mz, .ref yi, .ref yz, .ref yx, .ref yu, .int km, .int kr])), (ym, .inl (cI, 200, .inl Mf))]) (k2_QcV (.int (bi (isF mq M i)))) 0 0 (fun _ => False) := by
  refine Met.ofW (cc := cX6_isFirst) (maxL := 3) (ret := (some .boolean)) (by decide) rfl ?_
  intro p e s m args below meth c s₁ B hml hv
  obtain ⟨rfl, hP, hK, hN⟩ := hv
  have hx := B.exec
  have hb := B.bytes
  have hr := B.returns
  have hts := atoms_spec (ws := wsX6_isFirst) B.pre
  have hown : s.vm.findClass RX6 = some m.cls := findClass_of_methodNamed B.named
  have hlocks := B.notSynchronized
  have hP : va_P D vwCl [(y, .inr (6, [.ref yr, .int mq, .int mn, .ref yw, .ref yc, .int mc, .ref yl, .int me, .ref ys, .ref yp, .ref ym, .int md, .ref yo, .ref yk, .ref yt, .int mz, .ref yi, .ref yz, .ref yx, .ref yu, .int km, .int kr])), (ym, .inl (cI, 200, .inl Mf))] s.heap := hP
  have hl := lv_entry ([.ref y, .int (nI i)]) (n := 3) (Nat.le_of_ble_eq_true rfl)
  rw [lg_entry_eq]
  generalize (lg_sl ([.ref y, .int (nI i)]) ++ List.replicate (3 - (lg_sl ([.ref y, .int (nI i)])).length) Slot.unset).toArray = ls at hl ⊢
  have hl : lv_has ls 3 [(0, .ref y), (1, .int (nI i))] := hl
  have hlen := hrep.2.1
  refine lv_iconst (v := 0) hx hb dX6_isFirst_0 (by decide) ?_
  refine lv_istore_n (lv' := [(2, .int 0), (0, .ref y), (1, .int (nI i))]) hx hb dX6_isFirst_1 rfl hl (by decide) rfl (fun ls hl => ?_)
  have loop_2 : ∀ (fuel : Nat), ∀ (k : Nat), (k ≤ i) → (∀ j, j < k → ¬ gpL mq M j = gpL mq M i) → (i + 1 ≤ k + fuel) → ∀ (y2 : Int32), y2 = nI k → ∀ (ls : Array Slot), lv_has ls 3 [(2, .int y2), (0, .ref y), (1, .int (nI i))] → W p l e (headSpec wsX6_isFirst ({ frames := 1, cells := 0, slots := 0, locals := 21 })).room s m ([.ref y, .int (nI i)] : List Value).toArray below meth c s.heap [] 0 0 (MQ below (k2_QcV (.int (bi (isF mq M i)))) ([.ref y, .int (nI i)] : List Value).toArray s 0 0 (fun _ => False)) (F0 m 2 ls []) := by
    intro fuel
    induction fuel with
    | zero =>
      intro k hk hall hfu
      exact False.elim (by omega)
    | succ fuel ih_2 =>
      intro k hk hall hfu y2 ey2 ls hl
      subst ey2
      refine lv_iload_n hx hb dX6_isFirst_2 rfl (lv_at hl 0 rfl) ?_
      refine lv_iload_n hx hb dX6_isFirst_3 rfl (lv_at hl 2 rfl) ?_
      refine lv_icmp_ge (tgt := 28) hx hb dX6_isFirst_4 (by decide) (fun c_4 => ?_) (fun c_4 => ?_)
      · skip
        refine lv_iconst (v := 1) hx hb dX6_isFirst_28 (by decide) ?_
        exact rdZ hx hb hr hlocks dX6_isFirst_29 ((bi_t (fun j hj => hall j (by have := (nI_leI (by omega) (by omega)).mp c_4; omega))).symm)
      · skip
        have hki : k < i := by rcases Nat.lt_or_ge k i with q9 | q9; exact q9; exact absurd (nI_le q9 (by omega)) c_4
        refine lv_aload_n hx hb dX6_isFirst_7 rfl (lv_at hl 1 rfl) ?_
        refine lv_iload_n hx hb dX6_isFirst_8 rfl (lv_at hl 0 rfl) ?_
        refine rdV (As := [.int (nI k)]) (rest := []) ⟨hx, hb, hml, hown, hts⟩ (c_X6_gap l D cI cZ cR y yr yw yc yl ys yp ym yo yk yt yi yz yx yu mq mn mc me md mz km kr Mf M k hrep (by omega)) (cwV 1 hts gX6_isFirst_X6_gap rfl rfl rfl (by decide +kernel) ⟨Nat.le_of_ble_eq_true rfl, Nat.le_of_ble_eq_true rfl⟩) hK hN hP 0 6 rfl rfl rfl [0, 1] rfl rfl hl.1 rfl (Nat.le_of_ble_eq_true rfl) dX6_isFirst_9 ⟨Nat.zero_le _, Nat.zero_le _⟩ ?_
        refine lv_aload_n hx hb dX6_isFirst_12 rfl (lv_at hl 1 rfl) ?_
        refine lv_iload_n hx hb dX6_isFirst_13 rfl (lv_at hl 2 rfl) ?_
        refine rdV (As := [.int (nI i)]) (rest := [.int (gpL mq M k)]) ⟨hx, hb, hml, hown, hts⟩ (c_X6_gap l D cI cZ cR y yr yw yc yl ys yp ym yo yk yt yi yz yx yu mq mn mc me md mz km kr Mf M i hrep hi) (cwV 1 hts gX6_isFirst_X6_gap rfl rfl rfl (by decide +kernel) ⟨Nat.le_of_ble_eq_true rfl, Nat.le_of_ble_eq_true rfl⟩) hK hN hP 0 6 rfl rfl rfl [0, 1] rfl rfl hl.1 rfl (Nat.le_of_ble_eq_true rfl) dX6_isFirst_14 ⟨Nat.zero_le _, Nat.zero_le _⟩ ?_
        refine lv_icmp_ne (tgt := 22) hx hb dX6_isFirst_17 (by decide) (fun c_17 => ?_) (fun c_17 => ?_)
        · skip
          refine lv_iinc (v := (nI k) + 1) (lv' := [(2, .int ((nI k) + 1)), (0, .ref y), (1, .int (nI i))]) hx hb dX6_isFirst_22 hl (k := 0) rfl (by rfl) (by decide) rfl (fun ls hl => ?_)
          refine lv_goto (tgt := 2) hx hb dX6_isFirst_25 (by decide) ?_
          exact ih_2 (k + 1) (by omega) (lt_s hall c_17) (by omega) _ (by first | rfl | exact nI_1 _ | exact nI_0.symm) ls (lv_sub hl [0, 1, 2] rfl)
        · skip
          refine lv_iconst (v := 0) hx hb dX6_isFirst_20 (by decide) ?_
          exact rdZ hx hb hr hlocks dX6_isFirst_21 ((bi_f (fun z9 => z9 k hki c_17)).symm)
  exact loop_2 (i + 1) 0 (by omega) (fun j hj => absurd hj (Nat.not_lt_zero j)) (by omega) _ (by first | rfl | exact nI_1 _ | exact nI_0.symm) ls (lv_sub hl [0, 1, 2] rfl)

set_option maxHeartbeats 4000000 in
set_option maxRecDepth 100000 in
theorem c_X6_unlike (l : Launch) (D : va_G) (cI cZ cR : ClassId) (y yr yw yc yl ys yp ym yo yk yt yi yz yx yu : Nat) (mq mn mc me md mz km kr : Int32) (Mf : Nat → Int32) (M : List Int32) (hrep : so_rep M md Mf) : Met l yX6_unlike wsX6_unlike ({ frames := 2, cells := 0, slots := 0, locals := 43 }) (PcR D cI cZ cR [.ref y] [(y, .inr (6, [.ref yr, .int mq, .int mn, .ref yw, .ref yc, .int mc, .ref yl, .int me, .ref ys, .ref yp, .ref ym, .int md, .ref yo, .ref yk, .ref yt, .int mz, .ref yi, .ref yz, .ref yx, .ref yu, .int km, .int kr])), (ym, .inl (cI, 200, .inl Mf))]) (k2_QcV (.int (nI (fa_cnt (fun j => decide (isF mq M j)) M.length)))) 0 0 (fun _ => False) := by
  refine Met.ofW (cc := cX6_unlike) (maxL := 3) (ret := (some .int)) (by decide) rfl ?_
  intro p e s m args below meth c s₁ B hml hv
  obtain ⟨rfl, hP, hK, hN⟩ := hv
  have hx := B.exec
  have hb := B.bytes
  have hr := B.returns
  have hts := atoms_spec (ws := wsX6_unlike) B.pre
  have hown : s.vm.findClass RX6 = some m.cls := findClass_of_methodNamed B.named
  have hlocks := B.notSynchronized
  have hP : va_P D vwCl [(y, .inr (6, [.ref yr, .int mq, .int mn, .ref yw, .ref yc, .int mc, .ref yl, .int me, .ref ys, .ref yp, .ref ym, .int md, .ref yo, .ref yk, .ref yt, .int mz, .ref yi, .ref yz, .ref yx, .ref yu, .int km, .int kr])), (ym, .inl (cI, 200, .inl Mf))] s.heap := hP
  have hl := lv_entry ([.ref y]) (n := 3) (Nat.le_of_ble_eq_true rfl)
  rw [lg_entry_eq]
  generalize (lg_sl ([.ref y]) ++ List.replicate (3 - (lg_sl ([.ref y])).length) Slot.unset).toArray = ls at hl ⊢
  have hl : lv_has ls 3 [(0, .ref y)] := hl
  have hlen := hrep.2.1
  refine lv_iconst (v := 0) hx hb dX6_unlike_0 (by decide) ?_
  refine lv_istore_n (lv' := [(1, .int 0), (0, .ref y)]) hx hb dX6_unlike_1 rfl hl (by decide) rfl (fun ls hl => ?_)
  refine lv_iconst (v := 0) hx hb dX6_unlike_2 (by decide) ?_
  refine lv_istore_n (lv' := [(2, .int 0), (1, .int 0), (0, .ref y)]) hx hb dX6_unlike_3 rfl hl (by decide) rfl (fun ls hl => ?_)
  have loop_4 : ∀ (fuel : Nat), ∀ (i : Nat), (i ≤ M.length) → (M.length + 1 ≤ i + fuel) → ∀ (y1 : Int32), y1 = nI (fa_cnt (fun j => decide (isF mq M j)) i) → ∀ (y2 : Int32), y2 = nI i → ∀ (ls : Array Slot), lv_has ls 3 [(1, .int y1), (2, .int y2), (0, .ref y)] → W p l e (headSpec wsX6_unlike ({ frames := 2, cells := 0, slots := 0, locals := 43 })).room s m ([.ref y] : List Value).toArray below meth c s.heap [] 0 0 (MQ below (k2_QcV (.int (nI (fa_cnt (fun j => decide (isF mq M j)) M.length)))) ([.ref y] : List Value).toArray s 0 0 (fun _ => False)) (F0 m 4 ls []) := by
    intro fuel
    induction fuel with
    | zero =>
      intro i hi hfu
      exact False.elim (by omega)
    | succ fuel ih_4 =>
      intro i hi hfu y1 ey1 y2 ey2 ls hl
      subst ey1
      subst ey2
      refine lv_iload_n hx hb dX6_unlike_4 rfl (lv_at hl 1 rfl) ?_
      refine lv_aload_n hx hb dX6_unlike_5 rfl (lv_at hl 2 rfl) ?_
      refine va_get (D := D) (ci := 6) (v := .int md) (C := RX6) (T := TX6) (N := 22) hx hb hts (in_X6_unlike_X6) hown hK hP 0 rfl rfl 11 (by decide) (hts (.fieldLink RX6 146 "StepsRoundCircleModel" "marked" "I") (by decide +kernel)) (fun _ h9 => h9) rfl dX6_unlike_6 ?_
      refine lv_topi (fun z_9 hz_9 => ?_)
      have hz_9 : z_9 = nI M.length := hz_9.trans hrep.1
      subst hz_9
      refine lv_icmp_ge (tgt := 34) hx hb dX6_unlike_9 (by decide) (fun c_9 => ?_) (fun c_9 => ?_)
      · skip
        refine lv_iload_n hx hb dX6_unlike_34 rfl (lv_at hl 0 rfl) ?_
        exact rdI hx hb hr hlocks dX6_unlike_35 (by have h9 := (nI_leI (by omega) (by omega)).mp c_9; have e9 : i = M.length := (by omega); rw [e9])
      · skip
        have hiN : i < M.length := by rcases Nat.lt_or_ge i M.length with q9 | q9; exact q9; exact absurd (nI_le q9 (by omega)) c_9
        refine lv_iload_n hx hb dX6_unlike_12 rfl (lv_at hl 0 rfl) ?_
        refine lv_aload_n hx hb dX6_unlike_13 rfl (lv_at hl 2 rfl) ?_
        refine lv_iload_n hx hb dX6_unlike_14 rfl (lv_at hl 1 rfl) ?_
        refine rdV (As := [.int (nI i)]) (rest := [.int (nI (fa_cnt (fun j => decide (isF mq M j)) i))]) ⟨hx, hb, hml, hown, hts⟩ (c_X6_isFirst l D cI cZ cR y yr yw yc yl ys yp ym yo yk yt yi yz yx yu mq mn mc me md mz km kr Mf M i hrep hiN) (cwV 1 hts gX6_unlike_X6_isFirst rfl rfl rfl (by decide +kernel) ⟨Nat.le_of_ble_eq_true rfl, Nat.le_of_ble_eq_true rfl⟩) hK hN hP 0 6 rfl rfl rfl [0, 1] rfl rfl hl.1 rfl (Nat.le_of_ble_eq_true rfl) dX6_unlike_15 ⟨Nat.zero_le _, Nat.zero_le _⟩ ?_
        refine lv_if_eq (tgt := 25) hx hb dX6_unlike_18 (by decide) (fun c_18 => ?_) (fun c_18 => ?_)
        · skip
          have c_18 := bi_eq0.mp c_18
          refine lv_iconst (v := 0) hx hb dX6_unlike_25 (by decide) ?_
          refine lv_iadd hx hb dX6_unlike_26 ?_
          refine lv_istore_n (lv' := [(1, .int ((nI (fa_cnt (fun j => decide (isF mq M j)) i)) + 0)), (2, .int (nI i)), (0, .ref y)]) hx hb dX6_unlike_27 rfl hl (by decide) rfl (fun ls hl => ?_)
          refine lv_iinc (v := (nI i) + 1) (lv' := [(2, .int ((nI i) + 1)), (1, .int ((nI (fa_cnt (fun j => decide (isF mq M j)) i)) + 0)), (0, .ref y)]) hx hb dX6_unlike_28 hl (k := 1) rfl (by rfl) (by decide) rfl (fun ls hl => ?_)
          refine lv_goto (tgt := 4) hx hb dX6_unlike_31 (by decide) ?_
          exact ih_4 (i + 1) (by omega) (by omega) _ (by rw [fa_cnt_no (by simpa using c_18)]; exact Int32.add_zero _) _ (by first | rfl | exact nI_1 _ | exact nI_0.symm) ls (lv_sub hl [1, 0, 2] rfl)
        · skip
          have c_18 := bi_ne0.mp c_18
          refine lv_iconst (v := 1) hx hb dX6_unlike_21 (by decide) ?_
          refine lv_goto (tgt := 26) hx hb dX6_unlike_22 (by decide) ?_
          refine lv_iadd hx hb dX6_unlike_26 ?_
          refine lv_istore_n (lv' := [(1, .int ((nI (fa_cnt (fun j => decide (isF mq M j)) i)) + 1)), (2, .int (nI i)), (0, .ref y)]) hx hb dX6_unlike_27 rfl hl (by decide) rfl (fun ls hl => ?_)
          refine lv_iinc (v := (nI i) + 1) (lv' := [(2, .int ((nI i) + 1)), (1, .int ((nI (fa_cnt (fun j => decide (isF mq M j)) i)) + 1)), (0, .ref y)]) hx hb dX6_unlike_28 hl (k := 1) rfl (by rfl) (by decide) rfl (fun ls hl => ?_)
          refine lv_goto (tgt := 4) hx hb dX6_unlike_31 (by decide) ?_
          exact ih_4 (i + 1) (by omega) (by omega) _ (by rw [fa_cnt_yes (by simpa using c_18)]; exact nI_1 _) _ (by first | rfl | exact nI_1 _ | exact nI_0.symm) ls (lv_sub hl [1, 0, 2] rfl)
  exact loop_4 (M.length + 1) 0 (by omega) (by omega) _ (by first | rfl | exact nI_1 _ | exact nI_0.symm) _ (by first | rfl | exact nI_1 _ | exact nI_0.symm) ls (lv_sub hl [1, 0, 2] rfl)
