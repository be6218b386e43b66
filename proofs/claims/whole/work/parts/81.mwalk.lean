theorem in_X6_can_X6 : ∀ w ∈ wsX60, w ∈ wsX6_can := by decide +kernel
theorem in_X6_walk_X6 : ∀ w ∈ wsX60, w ∈ wsX6_walk := by decide +kernel
set_option maxHeartbeats 4000000 in
set_option maxRecDepth 100000 in
theorem c_X6_can (l : Launch) (D : va_G) (cI cZ cR : ClassId) (y yr yw yc yl ys yp ym yo yk yt yi yz yx yu : Nat) (mq mn mc me md mz km kr : Int32) (v : Nat → Int32) (lf : Nat → Int32) (a9 nT : Nat) (hq : okQ mq) (hmn : 0 ≤ mn) (hm5 : mn ≤ 5) (hws : ∀ w, 0 ≤ w ∧ w < mn → okW mq v w) (hnT : nT ≤ 72) (ha9 : a9 ≤ 72) (hsf : sfA nT lf a9 = -9) (sz : Nat) : Met l yX6_can wsX6_can ({ frames := 2, cells := 0, slots := 0, locals := 46 }) (PcW D cI cZ cR [.ref y, .int (nI a9)] [(y, .inr (6, [.ref yr, .int mq, .int mn, .ref yw, .ref yc, .int mc, .ref yl, .int me, .ref ys, .ref yp, .ref ym, .int md, .ref yo, .ref yk, .ref yt, .int mz, .ref yi, .ref yz, .ref yx, .ref yu, .int km, .int kr])), (yw, .inl (cI, 20, .inl v)), (yl, .inl (cI, 72, .inl lf))] sz) (va_Qi (fun (res : Int32) (u : Int32 × Int32 × (Nat → Int32)) => res = bi (folP lf a9 mq mn v) ∧ u.1 = folQ lf a9 mq mn v ∧ u.2.1 = folN lf a9 mq mn ∧ u.2.2 = folV lf a9 mq mn v) (Bw D (fun (u : Int32 × Int32 × (Nat → Int32)) => [(y, .inr (6, [.ref yr, .int u.1, .int u.2.1, .ref yw, .ref yc, .int mc, .ref yl, .int me, .ref ys, .ref yp, .ref ym, .int md, .ref yo, .ref yk, .ref yt, .int mz, .ref yi, .ref yz, .ref yx, .ref yu, .int km, .int kr])), (yw, .inl (cI, 20, .inl u.2.2)), (yl, .inl (cI, 72, .inl lf))]) (va_A [(y, .inr (6, [.ref yr, .int mq, .int mn, .ref yw, .ref yc, .int mc, .ref yl, .int me, .ref ys, .ref yp, .ref ym, .int md, .ref yo, .ref yk, .ref yt, .int mz, .ref yi, .ref yz, .ref yx, .ref yu, .int km, .int kr])), (yw, .inl (cI, 20, .inl v)), (yl, .inl (cI, 72, .inl lf))] sz)) (va_A [(y, .inr (6, [.ref yr, .int mq, .int mn, .ref yw, .ref yc, .int mc, .ref yl, .int me, .ref ys, .ref yp, .ref ym, .int md, .ref yo, .ref yk, .ref yt, .int mz, .ref yi, .ref yz, .ref yx, .ref yu, .int km, .int kr])), (yw, .inl (cI, 20, .inl v)), (yl, .inl (cI, 72, .inl lf))] sz)) 0 0 (va_A [(y, .inr (6, [.ref yr, .int mq, .int mn, .ref yw, .ref yc, .int mc, .ref yl, .int me, .ref ys, .ref yp, .ref ym, .int md, .ref yo, .ref yk, .ref yt, .int mz, .ref yi, .ref yz, .ref yx, .ref yu, .int km, .int kr])), (yw, .inl (cI, 20, .inl v)), (yl, .inl (cI, 72, .inl lf))] sz) := by
  refine Met.ofW (cc := cX6_can) (maxL := 8) (ret := (some .boolean)) (by decide) rfl ?_
  intro p e s m args below meth c s₁ B hml hv
  obtain ⟨rfl, hsz, hP, hK, hD0, hN⟩ := hv
  have hx := B.exec
  have hb := B.bytes
  have hr := B.returns
  have hts := atoms_spec (ws := wsX6_can) B.pre
  have hown : s.vm.findClass RX6 = some m.cls := findClass_of_methodNamed B.named
  have hlocks := B.notSynchronized
  subst hsz
  have hD := hD0.self (sz := s.heap.size)
  generalize hAe : va_A [(y, .inr (6, [.ref yr, .int mq, .int mn, .ref yw, .ref yc, .int mc, .ref yl, .int me, .ref ys, .ref yp, .ref ym, .int md, .ref yo, .ref yk, .ref yt, .int mz, .ref yi, .ref yz, .ref yx, .ref yu, .int km, .int kr])), (yw, .inl (cI, 20, .inl v)), (yl, .inl (cI, 72, .inl lf))] s.heap.size = A at hD ⊢
  have hA : ∀ q : Nat, s.heap.size ≤ q → A q := fun q h => by rw [← hAe]; exact Or.inr h
  have hS : va_S A s.heap s.heap [] := va_S.rf
  have hP : va_P D vwCl [(y, .inr (6, [.ref yr, .int mq, .int mn, .ref yw, .ref yc, .int mc, .ref yl, .int me, .ref ys, .ref yp, .ref ym, .int md, .ref yo, .ref yk, .ref yt, .int mz, .ref yi, .ref yz, .ref yx, .ref yu, .int km, .int kr])), (yw, .inl (cI, 20, .inl v)), (yl, .inl (cI, 72, .inl lf))] s.heap := hP
  have hl := lv_entry ([.ref y, .int (nI a9)]) (n := 8) (Nat.le_of_ble_eq_true rfl)
  rw [lg_entry_eq]
  generalize (lg_sl ([.ref y, .int (nI a9)]) ++ List.replicate (8 - (lg_sl ([.ref y, .int (nI a9)])).length) Slot.unset).toArray = ls at hl ⊢
  have hl : lv_has ls 8 [(0, .ref y), (1, .int (nI a9))] := hl
  have hsa := sf_all hnT ha9 hsf
  have hK5 := n5 hm5
  have hKn := asN hmn
  refine lv_aload_n hx hb dX6_can_0 rfl (lv_at hl 0 rfl) ?_
  refine va_get (D := D) (ci := 6) (v := .ref yl) (C := RX6) (T := TX6) (N := 22) hx hb hts (in_X6_can_X6) hown hK hP 0 rfl rfl 6 (by decide) (hts (.fieldLink RX6 23 "StepsRoundCircleModel" "letters" "[I") (by decide +kernel)) (fun _ h9 => h9) rfl dX6_can_1 ?_
  refine lv_iload_n hx hb dX6_can_4 rfl (lv_at hl 1 rfl) ?_
  refine va_iald hx hb hK hP 2 0 rfl rfl (vp_in_nI (by omega) (by omega)) dX6_can_5 ?_
  refine lv_topi (fun z_6 hz_6 => ?_)
  have hz_6 : (lf a9) = z_6 := (hz_6.trans (by rw [nI_clamp (by omega)])).symm
  subst hz_6
  by_cases c_6_99 : (lf a9) = 99
  · skip
    refine lv_lookup (off := 34) (tgt := 40) hx hb dX6_can_6 (by decide) (by rw [c_6_99]; rfl) (by decide) ?_
    have hdg : dgN nT lf a9 = 4 := by rcases hsa.2.2.2 with h9 | h9 | h9 | h9 <;> first | exact h9.2 | exact absurd (h9.1.symm.trans c_6_99) (by decide)
    refine lv_aload_n hx hb dX6_can_40 rfl (lv_at hl 0 rfl) ?_
    refine lv_iload_n hx hb dX6_can_41 rfl (lv_at hl 1 rfl) ?_
    refine lv_iconst (v := 1) hx hb dX6_can_42 (by decide) ?_
    refine lv_iadd hx hb dX6_can_43 ?_
    refine lv_topi (fun z_44 hz_44 => ?_)
    have hz_44 : (nI (a9 + 1)) = z_44 := (hz_44.trans (nI_add a9 1)).symm
    subst hz_44
    refine lv_iconst (v := 4) hx hb dX6_can_44 (by decide) ?_
    refine lv_topi (fun z_45 hz_45 => ?_)
    have hz_45 : (nI 4) = z_45 := (hz_45.trans rfl).symm
    subst hz_45
    refine rdV (As := [.int (nI (a9 + 1)), .int (nI 4)]) (rest := []) ⟨hx, hb, hml, hown, hts⟩ (c_X6_numberAt l D cI cZ cR y yr yw yc yl ys yp ym yo yk yt yi yz yx yu mq mn mc me md mz km kr lf (a9 + 1) 4 (by omega)) (cwV 2 hts gX6_can_X6_numberAt rfl rfl rfl (by decide +kernel) ⟨Nat.le_of_ble_eq_true rfl, Nat.le_of_ble_eq_true rfl⟩) hK hN hP 0 6 rfl rfl rfl [0, 2] rfl rfl hl.1 rfl (Nat.le_of_ble_eq_true rfl) dX6_can_45 ⟨Nat.zero_le _, Nat.zero_le _⟩ ?_
    refine lv_istore_n (lv' := [(2, .int (nmb lf (a9 + 1) 4)), (0, .ref y), (1, .int (nI a9))]) hx hb dX6_can_48 rfl hl (by decide) rfl (fun ls hl => ?_)
    refine lv_iload_n hx hb dX6_can_49 rfl (lv_at hl 0 rfl) ?_
    refine lv_i2l hx hb dX6_can_50 rfl ?_
    refine lv_ldc2 (v := 2) hx hb hown (hts (.constantLong RX6 135 2) (by decide +kernel)) dX6_can_51 ?_
    refine lv_ldc2 (v := 2000) hx hb hown (hts (.constantLong RX6 137 2000) (by decide +kernel)) dX6_can_54 ?_
    refine rdS (As := [.long ((nmb lf (a9 + 1) 4).toInt64), .long 2, .long 2000]) (rest := []) ⟨hx, hb, hml, hown, hts⟩ (c_X6_in l D cI cZ cR ((nmb lf (a9 + 1) 4).toInt64) 2 2000 ) (va_cwS 3 hts gX6_can_X6_in rfl rfl rfl (by decide +kernel) ⟨Nat.le_of_ble_eq_true rfl, Nat.le_of_ble_eq_true rfl⟩) hK hN hP [] rfl rfl hl.1 rfl (Nat.le_of_ble_eq_true rfl) dX6_can_57 ⟨Nat.zero_le _, Nat.zero_le _⟩ ?_
    refine lv_if_ne (tgt := 65) hx hb dX6_can_60 (by decide) (fun c_60 => ?_) (fun c_60 => ?_)
    · skip
      have c_60 := bi_ne0.mp c_60
      refine lv_iconst (v := 0) hx hb dX6_can_65 (by decide) ?_
      refine lv_istore_n (lv' := [(3, .int 0), (2, .int (nmb lf (a9 + 1) 4)), (0, .ref y), (1, .int (nI a9))]) hx hb dX6_can_66 rfl hl (by decide) rfl (fun ls hl => ?_)
      have loop_67 : ∀ (fuel : Nat), ∀ (i : Nat), (i ≤ mn.toNatClampNeg) → (∀ j, j < i → rg_val v (nI j) 1 < nmb lf (a9 + 1) 4 ∧ rg_val v (nI j) 2 < nmb lf (a9 + 1) 4) → (mn.toNatClampNeg + 1 ≤ i + fuel) → ∀ (y3 : Int32), y3 = nI i → ∀ (ls : Array Slot), lv_has ls 8 [(3, .int y3), (0, .ref y), (1, .int (nI a9)), (2, .int (nmb lf (a9 + 1) 4))] → W p l e (headSpec wsX6_can ({ frames := 2, cells := 0, slots := 0, locals := 46 })).room s m ([.ref y, .int (nI a9)] : List Value).toArray below meth c s.heap [] 0 0 (MQ below (va_Qi (fun (res : Int32) (u : Int32 × Int32 × (Nat → Int32)) => res = bi (folP lf a9 mq mn v) ∧ u.1 = folQ lf a9 mq mn v ∧ u.2.1 = folN lf a9 mq mn ∧ u.2.2 = folV lf a9 mq mn v) (Bw D (fun (u : Int32 × Int32 × (Nat → Int32)) => [(y, .inr (6, [.ref yr, .int u.1, .int u.2.1, .ref yw, .ref yc, .int mc, .ref yl, .int me, .ref ys, .ref yp, .ref ym, .int md, .ref yo, .ref yk, .ref yt, .int mz, .ref yi, .ref yz, .ref yx, .ref yu, .int km, .int kr])), (yw, .inl (cI, 20, .inl u.2.2)), (yl, .inl (cI, 72, .inl lf))]) A) A) ([.ref y, .int (nI a9)] : List Value).toArray s 0 0 A) (F0 m 67 ls []) := by
        intro fuel
        induction fuel with
        | zero =>
          intro i hi hg hfu
          exact False.elim (by omega)
        | succ fuel ih_67 =>
          intro i hi hg hfu y3 ey3 ls hl
          subst ey3
          refine lv_iload_n hx hb dX6_can_67 rfl (lv_at hl 0 rfl) ?_
          refine lv_aload_n hx hb dX6_can_68 rfl (lv_at hl 1 rfl) ?_
          refine va_get (D := D) (ci := 6) (v := .int mn) (C := RX6) (T := TX6) (N := 22) hx hb hts (in_X6_can_X6) hown hK hP 0 rfl rfl 2 (by decide) (hts (.fieldLink RX6 70 "StepsRoundCircleModel" "many" "I") (by decide +kernel)) (fun _ h9 => h9) rfl dX6_can_69 ?_
          refine lv_icmp_ge (tgt := 103) hx hb dX6_can_72 (by decide) (fun c_72 => ?_) (fun c_72 => ?_)
          · skip
            refine lv_aload_n hx hb dX6_can_103 rfl (lv_at hl 1 rfl) ?_
            refine lv_iload_n hx hb dX6_can_104 rfl (lv_at hl 3 rfl) ?_
            refine va_put (D := D) (ci := 6) (v := .int (nmb lf (a9 + 1) 4)) (ty := .int) (C := RX6) (T := TX6) (N := 22) hx hb hts (in_X6_can_X6) tyX6 tyX6_ok nmX6 hown hK hP hD hS 0 rfl rfl 1 (by decide) (hts (.fieldLink RX6 13 "StepsRoundCircleModel" "round" "I") (by decide +kernel)) (fun _ h9 => h9) rfl (by decide +kernel) rfl rfl (Nat.le_of_ble_eq_true rfl) dX6_can_105 (fun H locs hP hD hS => ?_)
            have hP : va_P D vwCl [(y, .inr (6, [.ref yr, .int (nmb lf (a9 + 1) 4), .int mn, .ref yw, .ref yc, .int mc, .ref yl, .int me, .ref ys, .ref yp, .ref ym, .int md, .ref yo, .ref yk, .ref yt, .int mz, .ref yi, .ref yz, .ref yx, .ref yu, .int km, .int kr])), (yw, .inl (cI, 20, .inl v)), (yl, .inl (cI, 72, .inl lf))] H := hP
            have hD : va_D A [(y, .inr (6, [.ref yr, .int (nmb lf (a9 + 1) 4), .int mn, .ref yw, .ref yc, .int mc, .ref yl, .int me, .ref ys, .ref yp, .ref ym, .int md, .ref yo, .ref yk, .ref yt, .int mz, .ref yi, .ref yz, .ref yx, .ref yu, .int km, .int kr])), (yw, .inl (cI, 20, .inl v)), (yl, .inl (cI, 72, .inl lf))] := hD
            refine lv_iconst (v := 1) hx hb dX6_can_108 (by decide) ?_
            exact wrZ (folP lf a9 mq mn v) ((bi_t ⟨((in2000 _).mp c_60).1, ((in2000 _).mp c_60).2, fun j hj => hg j (by have := (le_clamp (by have := clamp_lt mn; omega)).mp c_72; omega)⟩).symm.trans (bi_cg (Iff.of_eq (if_pos c_6_99).symm))) (w1 := (fun (u : Int32 × Int32 × (Nat → Int32)) => [(y, .inr (6, [.ref yr, .int u.1, .int u.2.1, .ref yw, .ref yc, .int mc, .ref yl, .int me, .ref ys, .ref yp, .ref ym, .int md, .ref yo, .ref yk, .ref yt, .int mz, .ref yi, .ref yz, .ref yx, .ref yu, .int km, .int kr])), (yw, .inl (cI, 20, .inl u.2.2)), (yl, .inl (cI, 72, .inl lf))])) ((nmb lf (a9 + 1) 4), mn, v) hx hb hr hlocks dX6_can_109 hS (hP.sub [0, 1, 2] rfl) (hD.sub [0, 1, 2] (by decide) rfl) (by have hin9 : (foC v mn (nmb lf (a9 + 1) 4)) := ⟨((in2000 _).mp c_60).1, ((in2000 _).mp c_60).2, fun j hj => hg j (by have := (le_clamp (by have := clamp_lt mn; omega)).mp c_72; omega)⟩; exact ⟨(bi_t hin9).symm.trans (bi_cg (Iff.of_eq (if_pos c_6_99).symm)), (by unfold folQ; simp only [if_pos c_6_99]; try rw [if_pos hin9]), (by unfold folN; simp only [if_pos c_6_99]; try rw [if_pos hin9]), (by unfold folV; simp only [if_pos c_6_99]; try rw [if_pos hin9])⟩)
          · skip
            have hiN : i < mn.toNatClampNeg := (lt_clamp (by have := clamp_lt mn; omega)).mp (Int32.not_le.mp c_72)
            refine lv_aload_n hx hb dX6_can_75 rfl (lv_at hl 1 rfl) ?_
            refine lv_iload_n hx hb dX6_can_76 rfl (lv_at hl 0 rfl) ?_
            refine lv_iconst (v := 1) hx hb dX6_can_77 (by decide) ?_
            refine rdV (As := [.int (nI i), .int 1]) (rest := []) ⟨hx, hb, hml, hown, hts⟩ (c_X6_at l D cI cZ cR y yr yw yc yl ys yp ym yo yk yt yi yz yx yu mq mn mc me md mz km kr v (nI i) 1 (iw5 hm5 hiN) (by decide)) (cwV 2 hts gX6_can_X6_at rfl rfl rfl (by decide +kernel) ⟨Nat.le_of_ble_eq_true rfl, Nat.le_of_ble_eq_true rfl⟩) hK hN hP 0 6 rfl rfl rfl [0, 1] rfl rfl hl.1 rfl (Nat.le_of_ble_eq_true rfl) dX6_can_78 ⟨Nat.zero_le _, Nat.zero_le _⟩ ?_
            refine lv_iload_n hx hb dX6_can_81 rfl (lv_at hl 3 rfl) ?_
            refine lv_icmp_ge (tgt := 95) hx hb dX6_can_82 (by decide) (fun c_82 => ?_) (fun c_82 => ?_)
            · skip
              refine lv_iconst (v := 0) hx hb dX6_can_95 (by decide) ?_
              exact wrZ (folP lf a9 mq mn v) ((bi_f (fun z9 => by have h9 := z9.2.2 i hiN; exact absurd h9.1 (Int32.not_lt.mpr c_82))).symm.trans (bi_cg (Iff.of_eq (if_pos c_6_99).symm))) (w1 := (fun (u : Int32 × Int32 × (Nat → Int32)) => [(y, .inr (6, [.ref yr, .int u.1, .int u.2.1, .ref yw, .ref yc, .int mc, .ref yl, .int me, .ref ys, .ref yp, .ref ym, .int md, .ref yo, .ref yk, .ref yt, .int mz, .ref yi, .ref yz, .ref yx, .ref yu, .int km, .int kr])), (yw, .inl (cI, 20, .inl u.2.2)), (yl, .inl (cI, 72, .inl lf))])) (mq, mn, v) hx hb hr hlocks dX6_can_96 hS (hP.sub [0, 1, 2] rfl) (hD.sub [0, 1, 2] (by decide) rfl) (by have hin9 : ¬ (foC v mn (nmb lf (a9 + 1) 4)) := (fun z9 => by have h9 := z9.2.2 i hiN; exact absurd h9.1 (Int32.not_lt.mpr c_82)); exact ⟨(bi_f hin9).symm.trans (bi_cg (Iff.of_eq (if_pos c_6_99).symm)), (by unfold folQ; simp only [if_pos c_6_99]; try rw [if_neg hin9]), (by unfold folN; simp only [if_pos c_6_99]; try rw [if_neg hin9]), (by unfold folV; simp only [if_pos c_6_99]; try rw [if_neg hin9])⟩)
            · skip
              refine lv_aload_n hx hb dX6_can_85 rfl (lv_at hl 1 rfl) ?_
              refine lv_iload_n hx hb dX6_can_86 rfl (lv_at hl 0 rfl) ?_
              refine lv_iconst (v := 2) hx hb dX6_can_87 (by decide) ?_
              refine rdV (As := [.int (nI i), .int 2]) (rest := []) ⟨hx, hb, hml, hown, hts⟩ (c_X6_at l D cI cZ cR y yr yw yc yl ys yp ym yo yk yt yi yz yx yu mq mn mc me md mz km kr v (nI i) 2 (iw5 hm5 hiN) (by decide)) (cwV 2 hts gX6_can_X6_at rfl rfl rfl (by decide +kernel) ⟨Nat.le_of_ble_eq_true rfl, Nat.le_of_ble_eq_true rfl⟩) hK hN hP 0 6 rfl rfl rfl [0, 1] rfl rfl hl.1 rfl (Nat.le_of_ble_eq_true rfl) dX6_can_88 ⟨Nat.zero_le _, Nat.zero_le _⟩ ?_
              refine lv_iload_n hx hb dX6_can_91 rfl (lv_at hl 3 rfl) ?_
              refine lv_icmp_lt (tgt := 97) hx hb dX6_can_92 (by decide) (fun c_92 => ?_) (fun c_92 => ?_)
              · skip
                refine lv_iinc (v := (nI i) + 1) (lv' := [(3, .int ((nI i) + 1)), (0, .ref y), (1, .int (nI a9)), (2, .int (nmb lf (a9 + 1) 4))]) hx hb dX6_can_97 hl (k := 0) rfl (by rfl) (by decide) rfl (fun ls hl => ?_)
                refine lv_goto (tgt := 67) hx hb dX6_can_100 (by decide) ?_
                exact ih_67 (i + 1) (by omega) (lt_s hg ⟨Int32.not_le.mp c_82, c_92⟩) (by omega) _ (by first | rfl | exact nI_1 _ | exact nI_0.symm) ls (lv_sub hl [0, 1, 2, 3] rfl)
              · skip
                refine lv_iconst (v := 0) hx hb dX6_can_95 (by decide) ?_
                exact wrZ (folP lf a9 mq mn v) ((bi_f (fun z9 => by have h9 := z9.2.2 i hiN; exact c_92 h9.2)).symm.trans (bi_cg (Iff.of_eq (if_pos c_6_99).symm))) (w1 := (fun (u : Int32 × Int32 × (Nat → Int32)) => [(y, .inr (6, [.ref yr, .int u.1, .int u.2.1, .ref yw, .ref yc, .int mc, .ref yl, .int me, .ref ys, .ref yp, .ref ym, .int md, .ref yo, .ref yk, .ref yt, .int mz, .ref yi, .ref yz, .ref yx, .ref yu, .int km, .int kr])), (yw, .inl (cI, 20, .inl u.2.2)), (yl, .inl (cI, 72, .inl lf))])) (mq, mn, v) hx hb hr hlocks dX6_can_96 hS (hP.sub [0, 1, 2] rfl) (hD.sub [0, 1, 2] (by decide) rfl) (by have hin9 : ¬ (foC v mn (nmb lf (a9 + 1) 4)) := (fun z9 => by have h9 := z9.2.2 i hiN; exact c_92 h9.2); exact ⟨(bi_f hin9).symm.trans (bi_cg (Iff.of_eq (if_pos c_6_99).symm)), (by unfold folQ; simp only [if_pos c_6_99]; try rw [if_neg hin9]), (by unfold folN; simp only [if_pos c_6_99]; try rw [if_neg hin9]), (by unfold folV; simp only [if_pos c_6_99]; try rw [if_neg hin9])⟩)
      exact loop_67 (mn.toNatClampNeg + 1) 0 (by omega) (fun j hj => absurd hj (Nat.not_lt_zero j)) (by omega) _ (by first | rfl | exact nI_1 _ | exact nI_0.symm) ls (lv_sub hl [0, 2, 3, 1] rfl)
    · skip
      have c_60 := bi_eq0.mp c_60
      refine lv_iconst (v := 0) hx hb dX6_can_63 (by decide) ?_
      exact wrZ (folP lf a9 mq mn v) ((bi_f (fun z9 => c_60 ((in2000 _).mpr ⟨z9.1, z9.2.1⟩))).symm.trans (bi_cg (Iff.of_eq (if_pos c_6_99).symm))) (w1 := (fun (u : Int32 × Int32 × (Nat → Int32)) => [(y, .inr (6, [.ref yr, .int u.1, .int u.2.1, .ref yw, .ref yc, .int mc, .ref yl, .int me, .ref ys, .ref yp, .ref ym, .int md, .ref yo, .ref yk, .ref yt, .int mz, .ref yi, .ref yz, .ref yx, .ref yu, .int km, .int kr])), (yw, .inl (cI, 20, .inl u.2.2)), (yl, .inl (cI, 72, .inl lf))])) (mq, mn, v) hx hb hr hlocks dX6_can_64 hS (hP.sub [0, 1, 2] rfl) (hD.sub [0, 1, 2] (by decide) rfl) (by have hin9 : ¬ (foC v mn (nmb lf (a9 + 1) 4)) := (fun z9 => c_60 ((in2000 _).mpr ⟨z9.1, z9.2.1⟩)); exact ⟨(bi_f hin9).symm.trans (bi_cg (Iff.of_eq (if_pos c_6_99).symm)), (by unfold folQ; simp only [if_pos c_6_99]; try rw [if_neg hin9]), (by unfold folN; simp only [if_pos c_6_99]; try rw [if_neg hin9]), (by unfold folV; simp only [if_pos c_6_99]; try rw [if_neg hin9])⟩)
  by_cases c_6_115 : (lf a9) = 115
  · skip
    refine lv_lookup (off := 188) (tgt := 194) hx hb dX6_can_6 (by decide) (by rw [c_6_115]; rfl) (by decide) ?_
    have hdg : dgN nT lf a9 = 5 := by rcases hsa.2.2.2 with h9 | h9 | h9 | h9 <;> first | exact h9.2 | exact absurd (h9.1.symm.trans c_6_115) (by decide)
    have hs0 := nm_0 (f := lf) (a := a9 + 2) (d := 4) (by omega) (sf_d hsa.2.2.1 _ _ (by omega) (by omega))
    refine lv_aload_n hx hb dX6_can_194 rfl (lv_at hl 0 rfl) ?_
    refine lv_aload_n hx hb dX6_can_195 rfl (lv_at hl 0 rfl) ?_
    refine lv_iload_n hx hb dX6_can_196 rfl (lv_at hl 1 rfl) ?_
    refine lv_iconst (v := 1) hx hb dX6_can_197 (by decide) ?_
    refine lv_iadd hx hb dX6_can_198 ?_
    refine lv_topi (fun z_199 hz_199 => ?_)
    have hz_199 : (nI (a9 + 1)) = z_199 := (hz_199.trans (nI_add a9 1)).symm
    subst hz_199
    refine lv_iconst (v := 1) hx hb dX6_can_199 (by decide) ?_
    refine lv_topi (fun z_200 hz_200 => ?_)
    have hz_200 : (nI 1) = z_200 := (hz_200.trans rfl).symm
    subst hz_200
    refine rdV (As := [.int (nI (a9 + 1)), .int (nI 1)]) (rest := [.ref y]) ⟨hx, hb, hml, hown, hts⟩ (c_X6_numberAt l D cI cZ cR y yr yw yc yl ys yp ym yo yk yt yi yz yx yu mq mn mc me md mz km kr lf (a9 + 1) 1 (by omega)) (cwV 2 hts gX6_can_X6_numberAt rfl rfl rfl (by decide +kernel) ⟨Nat.le_of_ble_eq_true rfl, Nat.le_of_ble_eq_true rfl⟩) hK hN hP 0 6 rfl rfl rfl [0, 2] rfl rfl hl.1 rfl (Nat.le_of_ble_eq_true rfl) dX6_can_200 ⟨Nat.zero_le _, Nat.zero_le _⟩ ?_
    refine rdV (As := [.int (nmb lf (a9 + 1) 1)]) (rest := []) ⟨hx, hb, hml, hown, hts⟩ (c_X6_isWalker l D cI cZ cR y yr yw yc yl ys yp ym yo yk yt yi yz yx yu mq mn mc me md mz km kr (nmb lf (a9 + 1) 1) hmn) (cwV 1 hts gX6_can_X6_isWalker rfl rfl rfl (by decide +kernel) ⟨Nat.le_of_ble_eq_true rfl, Nat.le_of_ble_eq_true rfl⟩) hK hN hP 0 6 rfl rfl rfl [0] rfl rfl hl.1 rfl (Nat.le_of_ble_eq_true rfl) dX6_can_203 ⟨Nat.zero_le _, Nat.zero_le _⟩ ?_
    refine lv_if_eq (tgt := 224) hx hb dX6_can_206 (by decide) (fun c_206 => ?_) (fun c_206 => ?_)
    · skip
      have c_206 := bi_eq0.mp c_206
      refine lv_iconst (v := 0) hx hb dX6_can_224 (by decide) ?_
      exact wrZ (folP lf a9 mq mn v) ((bi_f (fun z9 => c_206 z9.1)).symm.trans (bi_cg (Iff.of_eq ((if_neg c_6_99).trans ((if_neg (show ¬ lf a9 = 119 by rw [c_6_115]; decide)).trans (if_pos c_6_115))).symm))) (w1 := (fun (u : Int32 × Int32 × (Nat → Int32)) => [(y, .inr (6, [.ref yr, .int u.1, .int u.2.1, .ref yw, .ref yc, .int mc, .ref yl, .int me, .ref ys, .ref yp, .ref ym, .int md, .ref yo, .ref yk, .ref yt, .int mz, .ref yi, .ref yz, .ref yx, .ref yu, .int km, .int kr])), (yw, .inl (cI, 20, .inl u.2.2)), (yl, .inl (cI, 72, .inl lf))])) (mq, mn, v) hx hb hr hlocks dX6_can_225 hS (hP.sub [0, 1, 2] rfl) (hD.sub [0, 1, 2] (by decide) rfl) (by have hin9 : ¬ (foS lf a9 mq mn) := (fun z9 => c_206 z9.1); exact ⟨(bi_f hin9).symm.trans (bi_cg (Iff.of_eq ((if_neg c_6_99).trans ((if_neg (show ¬ lf a9 = 119 by rw [c_6_115]; decide)).trans (if_pos c_6_115))).symm)), (by unfold folQ; simp only [if_neg c_6_99, if_neg (show ¬ lf a9 = 119 by rw [c_6_115]; decide), if_pos c_6_115]; try rw [if_neg hin9]), (by unfold folN; simp only [if_neg c_6_99, if_neg (show ¬ lf a9 = 119 by rw [c_6_115]; decide), if_pos c_6_115]; try rw [if_neg hin9]), (by unfold folV; simp only [if_neg c_6_99, if_neg (show ¬ lf a9 = 119 by rw [c_6_115]; decide), if_pos c_6_115]; rw [if_neg hin9])⟩)
    · skip
      have c_206 := bi_ne0.mp c_206
      refine lv_aload_n hx hb dX6_can_209 rfl (lv_at hl 0 rfl) ?_
      refine lv_iload_n hx hb dX6_can_210 rfl (lv_at hl 1 rfl) ?_
      refine lv_iconst (v := 2) hx hb dX6_can_211 (by decide) ?_
      refine lv_iadd hx hb dX6_can_212 ?_
      refine lv_topi (fun z_213 hz_213 => ?_)
      have hz_213 : (nI (a9 + 2)) = z_213 := (hz_213.trans (nI_add a9 2)).symm
      subst hz_213
      refine lv_iconst (v := 4) hx hb dX6_can_213 (by decide) ?_
      refine lv_topi (fun z_214 hz_214 => ?_)
      have hz_214 : (nI 4) = z_214 := (hz_214.trans rfl).symm
      subst hz_214
      refine rdV (As := [.int (nI (a9 + 2)), .int (nI 4)]) (rest := []) ⟨hx, hb, hml, hown, hts⟩ (c_X6_numberAt l D cI cZ cR y yr yw yc yl ys yp ym yo yk yt yi yz yx yu mq mn mc me md mz km kr lf (a9 + 2) 4 (by omega)) (cwV 2 hts gX6_can_X6_numberAt rfl rfl rfl (by decide +kernel) ⟨Nat.le_of_ble_eq_true rfl, Nat.le_of_ble_eq_true rfl⟩) hK hN hP 0 6 rfl rfl rfl [0, 2] rfl rfl hl.1 rfl (Nat.le_of_ble_eq_true rfl) dX6_can_214 ⟨Nat.zero_le _, Nat.zero_le _⟩ ?_
      refine lv_aload_n hx hb dX6_can_217 rfl (lv_at hl 0 rfl) ?_
      refine va_get (D := D) (ci := 6) (v := .int mq) (C := RX6) (T := TX6) (N := 22) hx hb hts (in_X6_can_X6) hown hK hP 0 rfl rfl 1 (by decide) (hts (.fieldLink RX6 13 "StepsRoundCircleModel" "round" "I") (by decide +kernel)) (fun _ h9 => h9) rfl dX6_can_218 ?_
      refine lv_icmp_lt (tgt := 226) hx hb dX6_can_221 (by decide) (fun c_221 => ?_) (fun c_221 => ?_)
      · skip
        refine lv_aload_n hx hb dX6_can_226 rfl (lv_at hl 0 rfl) ?_
        refine va_get (D := D) (ci := 6) (v := .ref yw) (C := RX6) (T := TX6) (N := 22) hx hb hts (in_X6_can_X6) hown hK hP 0 rfl rfl 3 (by decide) (hts (.fieldLink RX6 17 "StepsRoundCircleModel" "walkers" "[I") (by decide +kernel)) (fun _ h9 => h9) rfl dX6_can_227 ?_
        refine lv_iconst (v := 4) hx hb dX6_can_230 (by decide) ?_
        refine lv_aload_n hx hb dX6_can_231 rfl (lv_at hl 0 rfl) ?_
        refine lv_iload_n hx hb dX6_can_232 rfl (lv_at hl 1 rfl) ?_
        refine lv_iconst (v := 1) hx hb dX6_can_233 (by decide) ?_
        refine lv_iadd hx hb dX6_can_234 ?_
        refine lv_topi (fun z_235 hz_235 => ?_)
        have hz_235 : (nI (a9 + 1)) = z_235 := (hz_235.trans (nI_add a9 1)).symm
        subst hz_235
        refine lv_iconst (v := 1) hx hb dX6_can_235 (by decide) ?_
        refine lv_topi (fun z_236 hz_236 => ?_)
        have hz_236 : (nI 1) = z_236 := (hz_236.trans rfl).symm
        subst hz_236
        refine rdV (As := [.int (nI (a9 + 1)), .int (nI 1)]) (rest := [.int 4, .ref yw]) ⟨hx, hb, hml, hown, hts⟩ (c_X6_numberAt l D cI cZ cR y yr yw yc yl ys yp ym yo yk yt yi yz yx yu mq mn mc me md mz km kr lf (a9 + 1) 1 (by omega)) (cwV 2 hts gX6_can_X6_numberAt rfl rfl rfl (by decide +kernel) ⟨Nat.le_of_ble_eq_true rfl, Nat.le_of_ble_eq_true rfl⟩) hK hN hP 0 6 rfl rfl rfl [0, 2] rfl rfl hl.1 rfl (Nat.le_of_ble_eq_true rfl) dX6_can_236 ⟨Nat.zero_le _, Nat.zero_le _⟩ ?_
        refine lv_imul hx hb dX6_can_239 ?_
        refine lv_iconst (v := 1) hx hb dX6_can_240 (by decide) ?_
        refine lv_iadd hx hb dX6_can_241 ?_
        refine lv_aload_n hx hb dX6_can_242 rfl (lv_at hl 0 rfl) ?_
        refine lv_iload_n hx hb dX6_can_243 rfl (lv_at hl 1 rfl) ?_
        refine lv_iconst (v := 2) hx hb dX6_can_244 (by decide) ?_
        refine lv_iadd hx hb dX6_can_245 ?_
        refine lv_topi (fun z_246 hz_246 => ?_)
        have hz_246 : (nI (a9 + 2)) = z_246 := (hz_246.trans (nI_add a9 2)).symm
        subst hz_246
        refine lv_iconst (v := 4) hx hb dX6_can_246 (by decide) ?_
        refine lv_topi (fun z_247 hz_247 => ?_)
        have hz_247 : (nI 4) = z_247 := (hz_247.trans rfl).symm
        subst hz_247
        refine rdV (As := [.int (nI (a9 + 2)), .int (nI 4)]) (rest := [.int ((4 * (nmb lf (a9 + 1) 1)) + 1), .ref yw]) ⟨hx, hb, hml, hown, hts⟩ (c_X6_numberAt l D cI cZ cR y yr yw yc yl ys yp ym yo yk yt yi yz yx yu mq mn mc me md mz km kr lf (a9 + 2) 4 (by omega)) (cwV 2 hts gX6_can_X6_numberAt rfl rfl rfl (by decide +kernel) ⟨Nat.le_of_ble_eq_true rfl, Nat.le_of_ble_eq_true rfl⟩) hK hN hP 0 6 rfl rfl rfl [0, 2] rfl rfl hl.1 rfl (Nat.le_of_ble_eq_true rfl) dX6_can_247 ⟨Nat.zero_le _, Nat.zero_le _⟩ ?_
        refine va_iast hx hb hK hP hD hS 1 0 rfl rfl (at_vp (w5 hm5 c_206) (by decide)) dX6_can_250 (fun H locs hP hD hS => ?_)
        have hP : va_P D vwCl [(y, .inr (6, [.ref yr, .int mq, .int mn, .ref yw, .ref yc, .int mc, .ref yl, .int me, .ref ys, .ref yp, .ref ym, .int md, .ref yo, .ref yk, .ref yt, .int mz, .ref yi, .ref yz, .ref yx, .ref yu, .int km, .int kr])), (yw, .inl (cI, 20, .inl (upd v (((4 * (nmb lf (a9 + 1) 1)) + 1).toNatClampNeg) (nmb lf (a9 + 2) 4)))), (yl, .inl (cI, 72, .inl lf))] H := hP
        have hD : va_D A [(y, .inr (6, [.ref yr, .int mq, .int mn, .ref yw, .ref yc, .int mc, .ref yl, .int me, .ref ys, .ref yp, .ref ym, .int md, .ref yo, .ref yk, .ref yt, .int mz, .ref yi, .ref yz, .ref yx, .ref yu, .int km, .int kr])), (yw, .inl (cI, 20, .inl (upd v (((4 * (nmb lf (a9 + 1) 1)) + 1).toNatClampNeg) (nmb lf (a9 + 2) 4)))), (yl, .inl (cI, 72, .inl lf))] := hD
        refine lv_iconst (v := 1) hx hb dX6_can_251 (by decide) ?_
        exact wrZ (folP lf a9 mq mn v) ((bi_t ⟨c_206, (sub1_lt hq hs0).mpr c_221⟩).symm.trans (bi_cg (Iff.of_eq ((if_neg c_6_99).trans ((if_neg (show ¬ lf a9 = 119 by rw [c_6_115]; decide)).trans (if_pos c_6_115))).symm))) (w1 := (fun (u : Int32 × Int32 × (Nat → Int32)) => [(y, .inr (6, [.ref yr, .int u.1, .int u.2.1, .ref yw, .ref yc, .int mc, .ref yl, .int me, .ref ys, .ref yp, .ref ym, .int md, .ref yo, .ref yk, .ref yt, .int mz, .ref yi, .ref yz, .ref yx, .ref yu, .int km, .int kr])), (yw, .inl (cI, 20, .inl u.2.2)), (yl, .inl (cI, 72, .inl lf))])) (mq, mn, (upd v (((4 * (nmb lf (a9 + 1) 1)) + 1).toNatClampNeg) (nmb lf (a9 + 2) 4))) hx hb hr hlocks dX6_can_252 hS (hP.sub [0, 1, 2] rfl) (hD.sub [0, 1, 2] (by decide) rfl) (by have hin9 : (foS lf a9 mq mn) := ⟨c_206, (sub1_lt hq hs0).mpr c_221⟩; exact ⟨(bi_t hin9).symm.trans (bi_cg (Iff.of_eq ((if_neg c_6_99).trans ((if_neg (show ¬ lf a9 = 119 by rw [c_6_115]; decide)).trans (if_pos c_6_115))).symm)), (by unfold folQ; simp only [if_neg c_6_99, if_neg (show ¬ lf a9 = 119 by rw [c_6_115]; decide), if_pos c_6_115]; try rw [if_pos hin9]), (by unfold folN; simp only [if_neg c_6_99, if_neg (show ¬ lf a9 = 119 by rw [c_6_115]; decide), if_pos c_6_115]; try rw [if_pos hin9]), (by unfold folV; simp only [if_neg c_6_99, if_neg (show ¬ lf a9 = 119 by rw [c_6_115]; decide), if_pos c_6_115]; rw [if_pos hin9]; exact at_setW v (w5 hm5 c_206) (by decide) _)⟩)
      · skip
        refine lv_iconst (v := 0) hx hb dX6_can_224 (by decide) ?_
        exact wrZ (folP lf a9 mq mn v) ((bi_f (fun z9 => c_221 ((sub1_lt hq hs0).mp z9.2))).symm.trans (bi_cg (Iff.of_eq ((if_neg c_6_99).trans ((if_neg (show ¬ lf a9 = 119 by rw [c_6_115]; decide)).trans (if_pos c_6_115))).symm))) (w1 := (fun (u : Int32 × Int32 × (Nat → Int32)) => [(y, .inr (6, [.ref yr, .int u.1, .int u.2.1, .ref yw, .ref yc, .int mc, .ref yl, .int me, .ref ys, .ref yp, .ref ym, .int md, .ref yo, .ref yk, .ref yt, .int mz, .ref yi, .ref yz, .ref yx, .ref yu, .int km, .int kr])), (yw, .inl (cI, 20, .inl u.2.2)), (yl, .inl (cI, 72, .inl lf))])) (mq, mn, v) hx hb hr hlocks dX6_can_225 hS (hP.sub [0, 1, 2] rfl) (hD.sub [0, 1, 2] (by decide) rfl) (by have hin9 : ¬ (foS lf a9 mq mn) := (fun z9 => c_221 ((sub1_lt hq hs0).mp z9.2)); exact ⟨(bi_f hin9).symm.trans (bi_cg (Iff.of_eq ((if_neg c_6_99).trans ((if_neg (show ¬ lf a9 = 119 by rw [c_6_115]; decide)).trans (if_pos c_6_115))).symm)), (by unfold folQ; simp only [if_neg c_6_99, if_neg (show ¬ lf a9 = 119 by rw [c_6_115]; decide), if_pos c_6_115]; try rw [if_neg hin9]), (by unfold folN; simp only [if_neg c_6_99, if_neg (show ¬ lf a9 = 119 by rw [c_6_115]; decide), if_pos c_6_115]; try rw [if_neg hin9]), (by unfold folV; simp only [if_neg c_6_99, if_neg (show ¬ lf a9 = 119 by rw [c_6_115]; decide), if_pos c_6_115]; rw [if_neg hin9])⟩)
  by_cases c_6_119 : (lf a9) = 119
  · skip
    refine lv_lookup (off := 104) (tgt := 110) hx hb dX6_can_6 (by decide) (by rw [c_6_119]; rfl) (by decide) ?_
    have hdg : dgN nT lf a9 = 10 := by rcases hsa.2.2.2 with h9 | h9 | h9 | h9 <;> first | exact h9.2 | exact absurd (h9.1.symm.trans c_6_119) (by decide)
    have hk0 := nm_0 (f := lf) (a := a9 + 1) (d := 1) (by omega) (sf_d hsa.2.2.1 _ _ (by omega) (by omega))
    have hs0 := nm_0 (f := lf) (a := a9 + 2) (d := 4) (by omega) (sf_d hsa.2.2.1 _ _ (by omega) (by omega))
    have ha0 := nm_0 (f := lf) (a := a9 + 6) (d := 4) (by omega) (sf_d hsa.2.2.1 _ _ (by omega) (by omega))
    have hf9 := nm_9 (f := lf) (a := a9 + 10) (sf_d hsa.2.2.1 (a9 + 10) 1 (by omega) (by omega) 0 (by omega))
    refine lv_aload_n hx hb dX6_can_110 rfl (lv_at hl 0 rfl) ?_
    refine lv_iload_n hx hb dX6_can_111 rfl (lv_at hl 1 rfl) ?_
    refine lv_iconst (v := 1) hx hb dX6_can_112 (by decide) ?_
    refine lv_iadd hx hb dX6_can_113 ?_
    refine lv_topi (fun z_114 hz_114 => ?_)
    have hz_114 : (nI (a9 + 1)) = z_114 := (hz_114.trans (nI_add a9 1)).symm
    subst hz_114
    refine lv_iconst (v := 1) hx hb dX6_can_114 (by decide) ?_
    refine lv_topi (fun z_115 hz_115 => ?_)
    have hz_115 : (nI 1) = z_115 := (hz_115.trans rfl).symm
    subst hz_115
    refine rdV (As := [.int (nI (a9 + 1)), .int (nI 1)]) (rest := []) ⟨hx, hb, hml, hown, hts⟩ (c_X6_numberAt l D cI cZ cR y yr yw yc yl ys yp ym yo yk yt yi yz yx yu mq mn mc me md mz km kr lf (a9 + 1) 1 (by omega)) (cwV 2 hts gX6_can_X6_numberAt rfl rfl rfl (by decide +kernel) ⟨Nat.le_of_ble_eq_true rfl, Nat.le_of_ble_eq_true rfl⟩) hK hN hP 0 6 rfl rfl rfl [0, 2] rfl rfl hl.1 rfl (Nat.le_of_ble_eq_true rfl) dX6_can_115 ⟨Nat.zero_le _, Nat.zero_le _⟩ ?_
    refine lv_istore_n (lv' := [(3, .int (nmb lf (a9 + 1) 1)), (0, .ref y), (1, .int (nI a9))]) hx hb dX6_can_118 rfl hl (by decide) rfl (fun ls hl => ?_)
    refine lv_aload_n hx hb dX6_can_119 rfl (lv_at hl 1 rfl) ?_
    refine lv_iload_n hx hb dX6_can_120 rfl (lv_at hl 2 rfl) ?_
    refine lv_iconst (v := 2) hx hb dX6_can_121 (by decide) ?_
    refine lv_iadd hx hb dX6_can_122 ?_
    refine lv_topi (fun z_123 hz_123 => ?_)
    have hz_123 : (nI (a9 + 2)) = z_123 := (hz_123.trans (nI_add a9 2)).symm
    subst hz_123
    refine lv_iconst (v := 4) hx hb dX6_can_123 (by decide) ?_
    refine lv_topi (fun z_124 hz_124 => ?_)
    have hz_124 : (nI 4) = z_124 := (hz_124.trans rfl).symm
    subst hz_124
    refine rdV (As := [.int (nI (a9 + 2)), .int (nI 4)]) (rest := []) ⟨hx, hb, hml, hown, hts⟩ (c_X6_numberAt l D cI cZ cR y yr yw yc yl ys yp ym yo yk yt yi yz yx yu mq mn mc me md mz km kr lf (a9 + 2) 4 (by omega)) (cwV 2 hts gX6_can_X6_numberAt rfl rfl rfl (by decide +kernel) ⟨Nat.le_of_ble_eq_true rfl, Nat.le_of_ble_eq_true rfl⟩) hK hN hP 0 6 rfl rfl rfl [0, 2] rfl rfl hl.1 rfl (Nat.le_of_ble_eq_true rfl) dX6_can_124 ⟨Nat.zero_le _, Nat.zero_le _⟩ ?_
    refine lv_istore (lv' := [(4, .int (nmb lf (a9 + 2) 4)), (3, .int (nmb lf (a9 + 1) 1)), (0, .ref y), (1, .int (nI a9))]) hx hb dX6_can_127 hl (by decide) rfl (fun ls hl => ?_)
    refine lv_aload_n hx hb dX6_can_129 rfl (lv_at hl 2 rfl) ?_
    refine lv_iload_n hx hb dX6_can_130 rfl (lv_at hl 3 rfl) ?_
    refine lv_bipush (v := 6) hx hb dX6_can_131 (by decide) ?_
    refine lv_iadd hx hb dX6_can_133 ?_
    refine lv_topi (fun z_134 hz_134 => ?_)
    have hz_134 : (nI (a9 + 6)) = z_134 := (hz_134.trans (nI_add a9 6)).symm
    subst hz_134
    refine lv_iconst (v := 4) hx hb dX6_can_134 (by decide) ?_
    refine lv_topi (fun z_135 hz_135 => ?_)
    have hz_135 : (nI 4) = z_135 := (hz_135.trans rfl).symm
    subst hz_135
    refine rdV (As := [.int (nI (a9 + 6)), .int (nI 4)]) (rest := []) ⟨hx, hb, hml, hown, hts⟩ (c_X6_numberAt l D cI cZ cR y yr yw yc yl ys yp ym yo yk yt yi yz yx yu mq mn mc me md mz km kr lf (a9 + 6) 4 (by omega)) (cwV 2 hts gX6_can_X6_numberAt rfl rfl rfl (by decide +kernel) ⟨Nat.le_of_ble_eq_true rfl, Nat.le_of_ble_eq_true rfl⟩) hK hN hP 0 6 rfl rfl rfl [0, 2] rfl rfl hl.1 rfl (Nat.le_of_ble_eq_true rfl) dX6_can_135 ⟨Nat.zero_le _, Nat.zero_le _⟩ ?_
    refine lv_istore (lv' := [(5, .int (nmb lf (a9 + 6) 4)), (4, .int (nmb lf (a9 + 2) 4)), (3, .int (nmb lf (a9 + 1) 1)), (0, .ref y), (1, .int (nI a9))]) hx hb dX6_can_138 hl (by decide) rfl (fun ls hl => ?_)
    refine lv_iload_n hx hb dX6_can_140 rfl (lv_at hl 2 rfl) ?_
    refine lv_bipush (v := 6) hx hb dX6_can_141 (by decide) ?_
    refine lv_icmp_ge (tgt := 172) hx hb dX6_can_143 (by decide) (fun c_143 => ?_) (fun c_143 => ?_)
    · skip
      refine lv_iconst (v := 0) hx hb dX6_can_172 (by decide) ?_
      exact wrZ (folP lf a9 mq mn v) ((bi_f (fun z9 => kd_5 c_143 z9.2.1)).symm.trans (bi_cg (Iff.of_eq ((if_neg c_6_99).trans (if_pos c_6_119)).symm))) (w1 := (fun (u : Int32 × Int32 × (Nat → Int32)) => [(y, .inr (6, [.ref yr, .int u.1, .int u.2.1, .ref yw, .ref yc, .int mc, .ref yl, .int me, .ref ys, .ref yp, .ref ym, .int md, .ref yo, .ref yk, .ref yt, .int mz, .ref yi, .ref yz, .ref yx, .ref yu, .int km, .int kr])), (yw, .inl (cI, 20, .inl u.2.2)), (yl, .inl (cI, 72, .inl lf))])) (mq, mn, v) hx hb hr hlocks dX6_can_173 hS (hP.sub [0, 1, 2] rfl) (hD.sub [0, 1, 2] (by decide) rfl) (by have hin9 : ¬ (foR lf a9 mq mn) := (fun z9 => kd_5 c_143 z9.2.1); exact ⟨(bi_f hin9).symm.trans (bi_cg (Iff.of_eq ((if_neg c_6_99).trans (if_pos c_6_119)).symm)), (by unfold folQ; simp only [if_neg c_6_99, if_pos c_6_119]; try rw [if_neg hin9]), (by unfold folN; simp only [if_neg c_6_99, if_pos c_6_119]; try rw [if_neg hin9]), (by unfold folV; simp only [if_neg c_6_99, if_pos c_6_119]; try rw [if_neg hin9])⟩)
    · skip
      refine lv_iload hx hb dX6_can_146 (lv_at hl 1 rfl) ?_
      refine lv_aload_n hx hb dX6_can_148 rfl (lv_at hl 3 rfl) ?_
      refine va_get (D := D) (ci := 6) (v := .int mq) (C := RX6) (T := TX6) (N := 22) hx hb hts (in_X6_can_X6) hown hK hP 0 rfl rfl 1 (by decide) (hts (.fieldLink RX6 13 "StepsRoundCircleModel" "round" "I") (by decide +kernel)) (fun _ h9 => h9) rfl dX6_can_149 ?_
      refine lv_icmp_ge (tgt := 172) hx hb dX6_can_152 (by decide) (fun c_152 => ?_) (fun c_152 => ?_)
      · skip
        refine lv_iconst (v := 0) hx hb dX6_can_172 (by decide) ?_
        exact wrZ (folP lf a9 mq mn v) ((bi_f (fun z9 => absurd ((room_iff hq ⟨hmn, hm5⟩ (kd_6 hk0 c_143) hs0 ha0).mp z9).1 (Int32.not_lt.mpr c_152))).symm.trans (bi_cg (Iff.of_eq ((if_neg c_6_99).trans (if_pos c_6_119)).symm))) (w1 := (fun (u : Int32 × Int32 × (Nat → Int32)) => [(y, .inr (6, [.ref yr, .int u.1, .int u.2.1, .ref yw, .ref yc, .int mc, .ref yl, .int me, .ref ys, .ref yp, .ref ym, .int md, .ref yo, .ref yk, .ref yt, .int mz, .ref yi, .ref yz, .ref yx, .ref yu, .int km, .int kr])), (yw, .inl (cI, 20, .inl u.2.2)), (yl, .inl (cI, 72, .inl lf))])) (mq, mn, v) hx hb hr hlocks dX6_can_173 hS (hP.sub [0, 1, 2] rfl) (hD.sub [0, 1, 2] (by decide) rfl) (by have hin9 : ¬ (foR lf a9 mq mn) := (fun z9 => absurd ((room_iff hq ⟨hmn, hm5⟩ (kd_6 hk0 c_143) hs0 ha0).mp z9).1 (Int32.not_lt.mpr c_152)); exact ⟨(bi_f hin9).symm.trans (bi_cg (Iff.of_eq ((if_neg c_6_99).trans (if_pos c_6_119)).symm)), (by unfold folQ; simp only [if_neg c_6_99, if_pos c_6_119]; try rw [if_neg hin9]), (by unfold folN; simp only [if_neg c_6_99, if_pos c_6_119]; try rw [if_neg hin9]), (by unfold folV; simp only [if_neg c_6_99, if_pos c_6_119]; try rw [if_neg hin9])⟩)
      · skip
        refine lv_iload hx hb dX6_can_155 (lv_at hl 0 rfl) ?_
        refine lv_aload_n hx hb dX6_can_157 rfl (lv_at hl 3 rfl) ?_
        refine va_get (D := D) (ci := 6) (v := .int mq) (C := RX6) (T := TX6) (N := 22) hx hb hts (in_X6_can_X6) hown hK hP 0 rfl rfl 1 (by decide) (hts (.fieldLink RX6 13 "StepsRoundCircleModel" "round" "I") (by decide +kernel)) (fun _ h9 => h9) rfl dX6_can_158 ?_
        refine lv_icmp_ge (tgt := 172) hx hb dX6_can_161 (by decide) (fun c_161 => ?_) (fun c_161 => ?_)
        · skip
          refine lv_iconst (v := 0) hx hb dX6_can_172 (by decide) ?_
          exact wrZ (folP lf a9 mq mn v) ((bi_f (fun z9 => absurd ((room_iff hq ⟨hmn, hm5⟩ (kd_6 hk0 c_143) hs0 ha0).mp z9).2.1 (Int32.not_lt.mpr c_161))).symm.trans (bi_cg (Iff.of_eq ((if_neg c_6_99).trans (if_pos c_6_119)).symm))) (w1 := (fun (u : Int32 × Int32 × (Nat → Int32)) => [(y, .inr (6, [.ref yr, .int u.1, .int u.2.1, .ref yw, .ref yc, .int mc, .ref yl, .int me, .ref ys, .ref yp, .ref ym, .int md, .ref yo, .ref yk, .ref yt, .int mz, .ref yi, .ref yz, .ref yx, .ref yu, .int km, .int kr])), (yw, .inl (cI, 20, .inl u.2.2)), (yl, .inl (cI, 72, .inl lf))])) (mq, mn, v) hx hb hr hlocks dX6_can_173 hS (hP.sub [0, 1, 2] rfl) (hD.sub [0, 1, 2] (by decide) rfl) (by have hin9 : ¬ (foR lf a9 mq mn) := (fun z9 => absurd ((room_iff hq ⟨hmn, hm5⟩ (kd_6 hk0 c_143) hs0 ha0).mp z9).2.1 (Int32.not_lt.mpr c_161)); exact ⟨(bi_f hin9).symm.trans (bi_cg (Iff.of_eq ((if_neg c_6_99).trans (if_pos c_6_119)).symm)), (by unfold folQ; simp only [if_neg c_6_99, if_pos c_6_119]; try rw [if_neg hin9]), (by unfold folN; simp only [if_neg c_6_99, if_pos c_6_119]; try rw [if_neg hin9]), (by unfold folV; simp only [if_neg c_6_99, if_pos c_6_119]; try rw [if_neg hin9])⟩)
        · skip
          refine lv_aload_n hx hb dX6_can_164 rfl (lv_at hl 3 rfl) ?_
          refine va_get (D := D) (ci := 6) (v := .int mn) (C := RX6) (T := TX6) (N := 22) hx hb hts (in_X6_can_X6) hown hK hP 0 rfl rfl 2 (by decide) (hts (.fieldLink RX6 70 "StepsRoundCircleModel" "many" "I") (by decide +kernel)) (fun _ h9 => h9) rfl dX6_can_165 ?_
          refine lv_iconst (v := 5) hx hb dX6_can_168 (by decide) ?_
          refine lv_icmp_ne (tgt := 174) hx hb dX6_can_169 (by decide) (fun c_169 => ?_) (fun c_169 => ?_)
          · skip
            have hroom : foR lf a9 mq mn := (room_iff hq ⟨hmn, hm5⟩ (kd_6 hk0 c_143) hs0 ha0).mpr ⟨Int32.not_le.mp c_152, Int32.not_le.mp c_161, hf9, c_169⟩
            refine lv_aload_n hx hb dX6_can_174 rfl (lv_at hl 3 rfl) ?_
            refine lv_iload_n hx hb dX6_can_175 rfl (lv_at hl 2 rfl) ?_
            refine lv_iload hx hb dX6_can_176 (lv_at hl 1 rfl) ?_
            refine lv_iload hx hb dX6_can_178 (lv_at hl 0 rfl) ?_
            refine lv_aload_n hx hb dX6_can_180 rfl (lv_at hl 3 rfl) ?_
            refine lv_iload_n hx hb dX6_can_181 rfl (lv_at hl 4 rfl) ?_
            refine lv_bipush (v := 10) hx hb dX6_can_182 (by decide) ?_
            refine lv_iadd hx hb dX6_can_184 ?_
            refine lv_topi (fun z_185 hz_185 => ?_)
            have hz_185 : (nI (a9 + 10)) = z_185 := (hz_185.trans (nI_add a9 10)).symm
            subst hz_185
            refine lv_iconst (v := 1) hx hb dX6_can_185 (by decide) ?_
            refine lv_topi (fun z_186 hz_186 => ?_)
            have hz_186 : (nI 1) = z_186 := (hz_186.trans rfl).symm
            subst hz_186
            refine rdV (As := [.int (nI (a9 + 10)), .int (nI 1)]) (rest := [.int (nmb lf (a9 + 6) 4), .int (nmb lf (a9 + 2) 4), .int (nmb lf (a9 + 1) 1), .ref y]) ⟨hx, hb, hml, hown, hts⟩ (c_X6_numberAt l D cI cZ cR y yr yw yc yl ys yp ym yo yk yt yi yz yx yu mq mn mc me md mz km kr lf (a9 + 10) 1 (by omega)) (cwV 2 hts gX6_can_X6_numberAt rfl rfl rfl (by decide +kernel) ⟨Nat.le_of_ble_eq_true rfl, Nat.le_of_ble_eq_true rfl⟩) hK hN hP 0 6 rfl rfl rfl [0, 2] rfl rfl hl.1 rfl (Nat.le_of_ble_eq_true rfl) dX6_can_186 ⟨Nat.zero_le _, Nat.zero_le _⟩ ?_
            refine wrVv (As := [.int (nmb lf (a9 + 1) 1), .int (nmb lf (a9 + 2) 4), .int (nmb lf (a9 + 6) 4), .int (nmb lf (a9 + 10) 1)]) (rest := []) (wr := [(yl, .inl (cI, 72, .inl lf))]) (A := A) ⟨hx, hb, hml, hown, hts⟩ (c_X6_comes l D cI cZ cR y yr yw yc yl ys yp ym yo yk yt yi yz yx yu mq mn mc me md mz km kr v (nmb lf (a9 + 1) 1) (nmb lf (a9 + 2) 4) (nmb lf (a9 + 6) 4) (nmb lf (a9 + 10) 1) (⟨hmn, fa_le_ne hm5 c_169⟩) s.heap.size) (cwV 4 hts gX6_can_X6_comes rfl rfl rfl (by decide +kernel) ⟨Nat.le_of_ble_eq_true rfl, Nat.le_of_ble_eq_true rfl⟩) hK hN hP hD hS hA 0 6 rfl rfl rfl [0, 1] [2] rfl (by decide) rfl (by decide) (by decide) rfl hl.1 rfl (Nat.le_of_ble_eq_true rfl) dX6_can_189 ⟨Nat.zero_le _, Nat.zero_le _⟩ (fun u H locs hw hP hD hS => ?_)
            obtain ⟨mn_189, v_189⟩ := u
            try dsimp only at hw
            obtain ⟨q1_189, q2_189⟩ := hw
            have q1_189 := q1_189.symm
            subst q1_189
            have q2_189 := q2_189.symm
            subst q2_189
            have hP : va_P D vwCl [(y, .inr (6, [.ref yr, .int mq, .int (mn + 1), .ref yw, .ref yc, .int mc, .ref yl, .int me, .ref ys, .ref yp, .ref ym, .int md, .ref yo, .ref yk, .ref yt, .int mz, .ref yi, .ref yz, .ref yx, .ref yu, .int km, .int kr])), (yw, .inl (cI, 20, .inl (wadd v mn (nmb lf (a9 + 1) 1) (nmb lf (a9 + 2) 4) (nmb lf (a9 + 6) 4) (nmb lf (a9 + 10) 1)))), (yl, .inl (cI, 72, .inl lf))] H := hP.sub [1, 2, 0] rfl
            have hD : va_D A [(y, .inr (6, [.ref yr, .int mq, .int (mn + 1), .ref yw, .ref yc, .int mc, .ref yl, .int me, .ref ys, .ref yp, .ref ym, .int md, .ref yo, .ref yk, .ref yt, .int mz, .ref yi, .ref yz, .ref yx, .ref yu, .int km, .int kr])), (yw, .inl (cI, 20, .inl (wadd v mn (nmb lf (a9 + 1) 1) (nmb lf (a9 + 2) 4) (nmb lf (a9 + 6) 4) (nmb lf (a9 + 10) 1)))), (yl, .inl (cI, 72, .inl lf))] := hD.sub [1, 2, 0] (by decide) rfl
            refine lv_iconst (v := 1) hx hb dX6_can_192 (by decide) ?_
            exact wrZ (folP lf a9 mq mn v) ((bi_t hroom).symm.trans (bi_cg (Iff.of_eq ((if_neg c_6_99).trans (if_pos c_6_119)).symm))) (w1 := (fun (u : Int32 × Int32 × (Nat → Int32)) => [(y, .inr (6, [.ref yr, .int u.1, .int u.2.1, .ref yw, .ref yc, .int mc, .ref yl, .int me, .ref ys, .ref yp, .ref ym, .int md, .ref yo, .ref yk, .ref yt, .int mz, .ref yi, .ref yz, .ref yx, .ref yu, .int km, .int kr])), (yw, .inl (cI, 20, .inl u.2.2)), (yl, .inl (cI, 72, .inl lf))])) (mq, (mn + 1), (wadd v mn (nmb lf (a9 + 1) 1) (nmb lf (a9 + 2) 4) (nmb lf (a9 + 6) 4) (nmb lf (a9 + 10) 1))) hx hb hr hlocks dX6_can_193 hS (hP.sub [0, 1, 2] rfl) (hD.sub [0, 1, 2] (by decide) rfl) (by have hin9 : (foR lf a9 mq mn) := hroom; exact ⟨(bi_t hin9).symm.trans (bi_cg (Iff.of_eq ((if_neg c_6_99).trans (if_pos c_6_119)).symm)), (by unfold folQ; simp only [if_neg c_6_99, if_pos c_6_119]; try rw [if_pos hin9]), (by unfold folN; simp only [if_neg c_6_99, if_pos c_6_119]; try rw [if_pos hin9]), (by unfold folV; simp only [if_neg c_6_99, if_pos c_6_119]; try rw [if_pos hin9])⟩)
          · skip
            refine lv_iconst (v := 0) hx hb dX6_can_172 (by decide) ?_
            exact wrZ (folP lf a9 mq mn v) ((bi_f (fun z9 => ((room_iff hq ⟨hmn, hm5⟩ (kd_6 hk0 c_143) hs0 ha0).mp z9).2.2.2 c_169)).symm.trans (bi_cg (Iff.of_eq ((if_neg c_6_99).trans (if_pos c_6_119)).symm))) (w1 := (fun (u : Int32 × Int32 × (Nat → Int32)) => [(y, .inr (6, [.ref yr, .int u.1, .int u.2.1, .ref yw, .ref yc, .int mc, .ref yl, .int me, .ref ys, .ref yp, .ref ym, .int md, .ref yo, .ref yk, .ref yt, .int mz, .ref yi, .ref yz, .ref yx, .ref yu, .int km, .int kr])), (yw, .inl (cI, 20, .inl u.2.2)), (yl, .inl (cI, 72, .inl lf))])) (mq, mn, v) hx hb hr hlocks dX6_can_173 hS (hP.sub [0, 1, 2] rfl) (hD.sub [0, 1, 2] (by decide) rfl) (by have hin9 : ¬ (foR lf a9 mq mn) := (fun z9 => ((room_iff hq ⟨hmn, hm5⟩ (kd_6 hk0 c_143) hs0 ha0).mp z9).2.2.2 c_169); exact ⟨(bi_f hin9).symm.trans (bi_cg (Iff.of_eq ((if_neg c_6_99).trans (if_pos c_6_119)).symm)), (by unfold folQ; simp only [if_neg c_6_99, if_pos c_6_119]; try rw [if_neg hin9]), (by unfold folN; simp only [if_neg c_6_99, if_pos c_6_119]; try rw [if_neg hin9]), (by unfold folV; simp only [if_neg c_6_99, if_pos c_6_119]; try rw [if_neg hin9])⟩)
  refine lv_lookup (off := 247) (tgt := 253) hx hb dX6_can_6 (by decide) (by rw [show Op.lookupswitch.offset _ _ _ = _ from lv_osw c_6_99 (by decide)]; rw [show Op.lookupswitch.offset _ _ _ = _ from lv_osw c_6_115 (by decide)]; rw [show Op.lookupswitch.offset _ _ _ = _ from lv_osw c_6_119 (by decide)]; rfl) (by decide) ?_
  have hdg : dgN nT lf a9 = 1 := by rcases hsa.2.2.2 with h9 | h9 | h9 | h9; exact absurd h9.1 c_6_99; exact absurd h9.1 c_6_115; exact absurd h9.1 c_6_119; exact h9.2
  refine lv_aload_n hx hb dX6_can_253 rfl (lv_at hl 0 rfl) ?_
  refine lv_iload_n hx hb dX6_can_254 rfl (lv_at hl 1 rfl) ?_
  refine lv_iconst (v := 1) hx hb dX6_can_255 (by decide) ?_
  refine lv_iadd hx hb dX6_can_256 ?_
  refine lv_topi (fun z_257 hz_257 => ?_)
  have hz_257 : (nI (a9 + 1)) = z_257 := (hz_257.trans (nI_add a9 1)).symm
  subst hz_257
  refine lv_iconst (v := 1) hx hb dX6_can_257 (by decide) ?_
  refine lv_topi (fun z_258 hz_258 => ?_)
  have hz_258 : (nI 1) = z_258 := (hz_258.trans rfl).symm
  subst hz_258
  refine rdV (As := [.int (nI (a9 + 1)), .int (nI 1)]) (rest := []) ⟨hx, hb, hml, hown, hts⟩ (c_X6_numberAt l D cI cZ cR y yr yw yc yl ys yp ym yo yk yt yi yz yx yu mq mn mc me md mz km kr lf (a9 + 1) 1 (by omega)) (cwV 2 hts gX6_can_X6_numberAt rfl rfl rfl (by decide +kernel) ⟨Nat.le_of_ble_eq_true rfl, Nat.le_of_ble_eq_true rfl⟩) hK hN hP 0 6 rfl rfl rfl [0, 2] rfl rfl hl.1 rfl (Nat.le_of_ble_eq_true rfl) dX6_can_258 ⟨Nat.zero_le _, Nat.zero_le _⟩ ?_
  refine lv_istore (lv' := [(6, .int (nmb lf (a9 + 1) 1)), (0, .ref y), (1, .int (nI a9))]) hx hb dX6_can_261 hl (by decide) rfl (fun ls hl => ?_)
  refine lv_aload_n hx hb dX6_can_263 rfl (lv_at hl 1 rfl) ?_
  refine lv_iload hx hb dX6_can_264 (lv_at hl 0 rfl) ?_
  refine rdV (As := [.int (nmb lf (a9 + 1) 1)]) (rest := []) ⟨hx, hb, hml, hown, hts⟩ (c_X6_isWalker l D cI cZ cR y yr yw yc yl ys yp ym yo yk yt yi yz yx yu mq mn mc me md mz km kr (nmb lf (a9 + 1) 1) hmn) (cwV 1 hts gX6_can_X6_isWalker rfl rfl rfl (by decide +kernel) ⟨Nat.le_of_ble_eq_true rfl, Nat.le_of_ble_eq_true rfl⟩) hK hN hP 0 6 rfl rfl rfl [0] rfl rfl hl.1 rfl (Nat.le_of_ble_eq_true rfl) dX6_can_266 ⟨Nat.zero_le _, Nat.zero_le _⟩ ?_
  refine lv_if_ne (tgt := 274) hx hb dX6_can_269 (by decide) (fun c_269 => ?_) (fun c_269 => ?_)
  · skip
    have c_269 := bi_ne0.mp c_269
    have hwN := has_N c_269
    have hwI := asN c_269.1
    refine lv_aload_n hx hb dX6_can_274 rfl (lv_at hl 1 rfl) ?_
    refine lv_dup hx hb dX6_can_275 rfl ?_
    refine va_get (D := D) (ci := 6) (v := .int mn) (C := RX6) (T := TX6) (N := 22) hx hb hts (in_X6_can_X6) hown hK hP 0 rfl rfl 2 (by decide) (hts (.fieldLink RX6 70 "StepsRoundCircleModel" "many" "I") (by decide +kernel)) (fun _ h9 => h9) rfl dX6_can_276 ?_
    refine lv_iconst (v := 1) hx hb dX6_can_279 (by decide) ?_
    refine lv_isub hx hb dX6_can_280 ?_
    refine va_put (D := D) (ci := 6) (v := .int (mn - 1)) (ty := .int) (C := RX6) (T := TX6) (N := 22) hx hb hts (in_X6_can_X6) tyX6 tyX6_ok nmX6 hown hK hP hD hS 0 rfl rfl 2 (by decide) (hts (.fieldLink RX6 70 "StepsRoundCircleModel" "many" "I") (by decide +kernel)) (fun _ h9 => h9) rfl (by decide +kernel) rfl rfl (Nat.le_of_ble_eq_true rfl) dX6_can_281 (fun H locs hP hD hS => ?_)
    have hP : va_P D vwCl [(y, .inr (6, [.ref yr, .int mq, .int (mn - 1), .ref yw, .ref yc, .int mc, .ref yl, .int me, .ref ys, .ref yp, .ref ym, .int md, .ref yo, .ref yk, .ref yt, .int mz, .ref yi, .ref yz, .ref yx, .ref yu, .int km, .int kr])), (yw, .inl (cI, 20, .inl v)), (yl, .inl (cI, 72, .inl lf))] H := hP
    have hD : va_D A [(y, .inr (6, [.ref yr, .int mq, .int (mn - 1), .ref yw, .ref yc, .int mc, .ref yl, .int me, .ref ys, .ref yp, .ref ym, .int md, .ref yo, .ref yk, .ref yt, .int mz, .ref yi, .ref yz, .ref yx, .ref yu, .int km, .int kr])), (yw, .inl (cI, 20, .inl v)), (yl, .inl (cI, 72, .inl lf))] := hD
    refine lv_iconst (v := 4) hx hb dX6_can_284 (by decide) ?_
    refine lv_iload hx hb dX6_can_285 (lv_at hl 0 rfl) ?_
    refine lv_imul hx hb dX6_can_287 ?_
    refine lv_topi (fun z_288 hz_288 => ?_)
    have hz_288 : (nI (4 * (nmb lf (a9 + 1) 1).toNatClampNeg)) = z_288 := (hz_288.trans ((congrArg (fun t => 4 * t) hwI).trans (pk_mul 4 _))).symm
    subst hz_288
    refine lv_istore (lv' := [(7, .int (nI (4 * (nmb lf (a9 + 1) 1).toNatClampNeg))), (6, .int (nmb lf (a9 + 1) 1)), (0, .ref y), (1, .int (nI a9))]) hx hb dX6_can_288 hl (by decide) rfl (fun ls hl => ?_)
    have loop_290 : ∀ (fuel : Nat), ∀ (i : Nat), ∀ (g : Nat → Int32), (4 * (nmb lf (a9 + 1) 1).toNatClampNeg ≤ i) → (i + 4 ≤ 4 * mn.toNatClampNeg) → (∀ j, j < 20 → g j = if 4 * (nmb lf (a9 + 1) 1).toNatClampNeg ≤ j ∧ j < i then v (j + 4) else v j) → (4 * mn.toNatClampNeg ≤ i + fuel) → ∀ (y7 : Int32), y7 = nI i → ∀ (H : Heap) (locs : List Loc), va_P D vwCl [(y, .inr (6, [.ref yr, .int mq, .int (mn - 1), .ref yw, .ref yc, .int mc, .ref yl, .int me, .ref ys, .ref yp, .ref ym, .int md, .ref yo, .ref yk, .ref yt, .int mz, .ref yi, .ref yz, .ref yx, .ref yu, .int km, .int kr])), (yw, .inl (cI, 20, .inl g)), (yl, .inl (cI, 72, .inl lf))] H → va_D A [(y, .inr (6, [.ref yr, .int mq, .int (mn - 1), .ref yw, .ref yc, .int mc, .ref yl, .int me, .ref ys, .ref yp, .ref ym, .int md, .ref yo, .ref yk, .ref yt, .int mz, .ref yi, .ref yz, .ref yx, .ref yu, .int km, .int kr])), (yw, .inl (cI, 20, .inl g)), (yl, .inl (cI, 72, .inl lf))] → va_S A s.heap H locs → ∀ (ls : Array Slot), lv_has ls 8 [(7, .int y7), (0, .ref y), (1, .int (nI a9)), (6, .int (nmb lf (a9 + 1) 1))] → W p l e (headSpec wsX6_can ({ frames := 2, cells := 0, slots := 0, locals := 46 })).room s m ([.ref y, .int (nI a9)] : List Value).toArray below meth c H locs 0 0 (MQ below (va_Qi (fun (res : Int32) (u : Int32 × Int32 × (Nat → Int32)) => res = bi (folP lf a9 mq mn v) ∧ u.1 = folQ lf a9 mq mn v ∧ u.2.1 = folN lf a9 mq mn ∧ u.2.2 = folV lf a9 mq mn v) (Bw D (fun (u : Int32 × Int32 × (Nat → Int32)) => [(y, .inr (6, [.ref yr, .int u.1, .int u.2.1, .ref yw, .ref yc, .int mc, .ref yl, .int me, .ref ys, .ref yp, .ref ym, .int md, .ref yo, .ref yk, .ref yt, .int mz, .ref yi, .ref yz, .ref yx, .ref yu, .int km, .int kr])), (yw, .inl (cI, 20, .inl u.2.2)), (yl, .inl (cI, 72, .inl lf))]) A) A) ([.ref y, .int (nI a9)] : List Value).toArray s 0 0 A) (F0 m 290 ls []) := by
      intro fuel
      induction fuel with
      | zero =>
        intro i g hwi hi hg hfu
        exact False.elim (by omega)
      | succ fuel ih_290 =>
        intro i g hwi hi hg hfu y7 ey7 H locs hP hD hS ls hl
        subst ey7
        refine lv_iload hx hb dX6_can_290 (lv_at hl 0 rfl) ?_
        refine lv_iconst (v := 4) hx hb dX6_can_292 (by decide) ?_
        refine lv_aload_n hx hb dX6_can_293 rfl (lv_at hl 1 rfl) ?_
        refine va_get (D := D) (ci := 6) (v := .int (mn - 1)) (C := RX6) (T := TX6) (N := 22) hx hb hts (in_X6_can_X6) hown hK hP 0 rfl rfl 2 (by decide) (hts (.fieldLink RX6 70 "StepsRoundCircleModel" "many" "I") (by decide +kernel)) (fun _ h9 => h9) rfl dX6_can_294 ?_
        refine lv_imul hx hb dX6_can_297 ?_
        refine lv_topi (fun z_298 hz_298 => ?_)
        have hz_298 : (nI (4 * (mn.toNatClampNeg - 1))) = z_298 := (hz_298.trans (by have e9 : mn - 1 = nI (mn.toNatClampNeg - 1) := (congrArg (fun t => t - 1) hKn).trans (pk_sub (b := 1) (by omega)); rw [e9]; exact pk_mul 4 _)).symm
        subst hz_298
        refine lv_icmp_ge (tgt := 323) hx hb dX6_can_298 (by decide) (fun c_298 => ?_) (fun c_298 => ?_)
        · skip
          have hP : va_P D vwCl [(y, .inr (6, [.ref yr, .int mq, .int (mn - 1), .ref yw, .ref yc, .int mc, .ref yl, .int me, .ref ys, .ref yp, .ref ym, .int md, .ref yo, .ref yk, .ref yt, .int mz, .ref yi, .ref yz, .ref yx, .ref yu, .int km, .int kr])), (yw, .inl (cI, 20, .inl (rg_cp v (nmb lf (a9 + 1) 1).toNatClampNeg mn.toNatClampNeg))), (yl, .inl (cI, 72, .inl lf))] H := P_cg hP 1 (rg_cp v (nmb lf (a9 + 1) 1).toNatClampNeg mn.toNatClampNeg) rfl (fun j hj => by rw [hg j hj]; unfold rg_cp; have hie : i = 4 * (mn.toNatClampNeg - 1) := (by have := (nI_leI (by omega) (by omega)).mp c_298; omega); by_cases e9 : 4 * (nmb lf (a9 + 1) 1).toNatClampNeg ≤ j ∧ j < i; (· rw [if_pos e9, if_pos (by omega)]); (· rw [if_neg e9, if_neg (by omega)]))
          have hD : va_D A [(y, .inr (6, [.ref yr, .int mq, .int (mn - 1), .ref yw, .ref yc, .int mc, .ref yl, .int me, .ref ys, .ref yp, .ref ym, .int md, .ref yo, .ref yk, .ref yt, .int mz, .ref yi, .ref yz, .ref yx, .ref yu, .int km, .int kr])), (yw, .inl (cI, 20, .inl (rg_cp v (nmb lf (a9 + 1) 1).toNatClampNeg mn.toNatClampNeg))), (yl, .inl (cI, 72, .inl lf))] := D_cg hD 1 _ rfl
          refine lv_iconst (v := 1) hx hb dX6_can_323 (by decide) ?_
          exact wrZ (folP lf a9 mq mn v) ((bi_t c_269).symm.trans (bi_cg (Iff.of_eq ((if_neg c_6_99).trans ((if_neg c_6_119).trans (if_neg c_6_115))).symm))) (w1 := (fun (u : Int32 × Int32 × (Nat → Int32)) => [(y, .inr (6, [.ref yr, .int u.1, .int u.2.1, .ref yw, .ref yc, .int mc, .ref yl, .int me, .ref ys, .ref yp, .ref ym, .int md, .ref yo, .ref yk, .ref yt, .int mz, .ref yi, .ref yz, .ref yx, .ref yu, .int km, .int kr])), (yw, .inl (cI, 20, .inl u.2.2)), (yl, .inl (cI, 72, .inl lf))])) (mq, (mn - 1), (rg_cp v (nmb lf (a9 + 1) 1).toNatClampNeg mn.toNatClampNeg)) hx hb hr hlocks dX6_can_324 hS (hP.sub [0, 1, 2] rfl) (hD.sub [0, 1, 2] (by decide) rfl) (by have hin9 : (foH mn (nmb lf (a9 + 1) 1)) := c_269; exact ⟨(bi_t hin9).symm.trans (bi_cg (Iff.of_eq ((if_neg c_6_99).trans ((if_neg c_6_119).trans (if_neg c_6_115))).symm)), (by unfold folQ; simp only [if_neg c_6_99, if_neg c_6_119, if_neg c_6_115]; try rw [if_pos hin9]), (by unfold folN; simp only [if_neg c_6_99, if_neg c_6_119, if_neg c_6_115]; try rw [if_pos hin9]), (by unfold folV; simp only [if_neg c_6_99, if_neg c_6_119, if_neg c_6_115]; try rw [if_pos hin9])⟩)
        · skip
          have hiN : i < 4 * (mn.toNatClampNeg - 1) := by rcases Nat.lt_or_ge i (4 * (mn.toNatClampNeg - 1)) with q9 | q9; exact q9; exact absurd (nI_le q9 (by omega)) c_298
          refine lv_aload_n hx hb dX6_can_301 rfl (lv_at hl 1 rfl) ?_
          refine va_get (D := D) (ci := 6) (v := .ref yw) (C := RX6) (T := TX6) (N := 22) hx hb hts (in_X6_can_X6) hown hK hP 0 rfl rfl 3 (by decide) (hts (.fieldLink RX6 17 "StepsRoundCircleModel" "walkers" "[I") (by decide +kernel)) (fun _ h9 => h9) rfl dX6_can_302 ?_
          refine lv_iload hx hb dX6_can_305 (lv_at hl 0 rfl) ?_
          refine lv_aload_n hx hb dX6_can_307 rfl (lv_at hl 1 rfl) ?_
          refine va_get (D := D) (ci := 6) (v := .ref yw) (C := RX6) (T := TX6) (N := 22) hx hb hts (in_X6_can_X6) hown hK hP 0 rfl rfl 3 (by decide) (hts (.fieldLink RX6 17 "StepsRoundCircleModel" "walkers" "[I") (by decide +kernel)) (fun _ h9 => h9) rfl dX6_can_308 ?_
          refine lv_iload hx hb dX6_can_311 (lv_at hl 0 rfl) ?_
          refine lv_iconst (v := 4) hx hb dX6_can_313 (by decide) ?_
          refine lv_iadd hx hb dX6_can_314 ?_
          refine lv_topi (fun z_315 hz_315 => ?_)
          have hz_315 : (nI (i + 4)) = z_315 := (hz_315.trans (nI_add _ 4)).symm
          subst hz_315
          refine va_iald hx hb hK hP 1 0 rfl rfl (vp_in_nI (by omega) (by omega)) dX6_can_315 ?_
          refine lv_topi (fun z_316 hz_316 => ?_)
          have hz_316 : (v (i + 4)) = z_316 := (hz_316.trans (by rw [nI_clamp (by omega), hg _ (by omega), if_neg (by omega)])).symm
          subst hz_316
          refine va_iast hx hb hK hP hD hS 1 0 rfl rfl (vp_in_nI (by omega) (by omega)) dX6_can_316 (fun H locs hP hD hS => ?_)
          have hP : va_P D vwCl [(y, .inr (6, [.ref yr, .int mq, .int (mn - 1), .ref yw, .ref yc, .int mc, .ref yl, .int me, .ref ys, .ref yp, .ref ym, .int md, .ref yo, .ref yk, .ref yt, .int mz, .ref yi, .ref yz, .ref yx, .ref yu, .int km, .int kr])), (yw, .inl (cI, 20, .inl (upd g ((nI i).toNatClampNeg) (v (i + 4))))), (yl, .inl (cI, 72, .inl lf))] H := hP
          have hD : va_D A [(y, .inr (6, [.ref yr, .int mq, .int (mn - 1), .ref yw, .ref yc, .int mc, .ref yl, .int me, .ref ys, .ref yp, .ref ym, .int md, .ref yo, .ref yk, .ref yt, .int mz, .ref yi, .ref yz, .ref yx, .ref yu, .int km, .int kr])), (yw, .inl (cI, 20, .inl (upd g ((nI i).toNatClampNeg) (v (i + 4))))), (yl, .inl (cI, 72, .inl lf))] := hD
          refine lv_iinc (v := (nI i) + 1) (lv' := [(7, .int ((nI i) + 1)), (0, .ref y), (1, .int (nI a9)), (6, .int (nmb lf (a9 + 1) 1))]) hx hb dX6_can_317 hl (k := 0) rfl (by rfl) (by decide) rfl (fun ls hl => ?_)
          refine lv_goto (tgt := 290) hx hb dX6_can_320 (by decide) ?_
          exact ih_290 (i + 1) (upd g ((nI i).toNatClampNeg) (v (i + 4))) (by omega) (by omega) (fun j hj => by rw [nI_clamp (by omega)]; by_cases e9 : j = i; (· rw [e9, pk_us, if_pos (by omega)]); (· rw [pk_un e9, hg j hj]; by_cases e8 : 4 * (nmb lf (a9 + 1) 1).toNatClampNeg ≤ j ∧ j < i; (· rw [if_pos e8, if_pos (by omega)]); (· rw [if_neg e8, if_neg (by omega)]))) (by omega) _ (by first | rfl | exact nI_1 _ | exact nI_0.symm) _ _ (hP.sub [0, 1, 2] rfl) (hD.sub [0, 1, 2] (by decide) rfl) hS ls (lv_sub hl [0, 1, 2, 3] rfl)
    exact loop_290 (4 * mn.toNatClampNeg) (4 * (nmb lf (a9 + 1) 1).toNatClampNeg) v (by omega) (by omega) (fun j hj => by rw [if_neg (by omega)]) (by omega) _ rfl _ _ (hP.sub [0, 1, 2] rfl) (hD.sub [0, 1, 2] (by decide) rfl) hS ls (lv_sub hl [0, 2, 3, 1] rfl)
  · skip
    have c_269 := bi_eq0.mp c_269
    refine lv_iconst (v := 0) hx hb dX6_can_272 (by decide) ?_
    exact wrZ (folP lf a9 mq mn v) ((bi_f c_269).symm.trans (bi_cg (Iff.of_eq ((if_neg c_6_99).trans ((if_neg c_6_119).trans (if_neg c_6_115))).symm))) (w1 := (fun (u : Int32 × Int32 × (Nat → Int32)) => [(y, .inr (6, [.ref yr, .int u.1, .int u.2.1, .ref yw, .ref yc, .int mc, .ref yl, .int me, .ref ys, .ref yp, .ref ym, .int md, .ref yo, .ref yk, .ref yt, .int mz, .ref yi, .ref yz, .ref yx, .ref yu, .int km, .int kr])), (yw, .inl (cI, 20, .inl u.2.2)), (yl, .inl (cI, 72, .inl lf))])) (mq, mn, v) hx hb hr hlocks dX6_can_273 hS (hP.sub [0, 1, 2] rfl) (hD.sub [0, 1, 2] (by decide) rfl) (by have hin9 : ¬ (foH mn (nmb lf (a9 + 1) 1)) := c_269; exact ⟨(bi_f hin9).symm.trans (bi_cg (Iff.of_eq ((if_neg c_6_99).trans ((if_neg c_6_119).trans (if_neg c_6_115))).symm)), (by unfold folQ; simp only [if_neg c_6_99, if_neg c_6_119, if_neg c_6_115]; try rw [if_neg hin9]), (by unfold folN; simp only [if_neg c_6_99, if_neg c_6_119, if_neg c_6_115]; try rw [if_neg hin9]), (by unfold folV; simp only [if_neg c_6_99, if_neg c_6_119, if_neg c_6_115]; try rw [if_neg hin9])⟩)

set_option maxHeartbeats 4000000 in
set_option maxRecDepth 100000 in
theorem c_X6_walk (l : Launch) (D : va_G) (cI cZ cR : ClassId) (y yr yw yc yl ys yp ym yo yk yt yi yz yx yu : Nat) (mq mn mc me md mz km kr : Int32) (v : Nat → Int32) (lf sf9 : Nat → Int32) (nT : Nat) (hq : okQ mq) (hmn : 0 ≤ mn) (hm5 : mn ≤ 5) (hws : ∀ w, 0 ≤ w ∧ w < mn → okW mq v w) (hme : me = nI nT) (hnT : nT ≤ 72) (sz : Nat) : Met l yX6_walk wsX6_walk ({ frames := 3, cells := 0, slots := 0, locals := 73 }) (PcW D cI cZ cR [.ref y] [(y, .inr (6, [.ref yr, .int mq, .int mn, .ref yw, .ref yc, .int mc, .ref yl, .int me, .ref ys, .ref yp, .ref ym, .int md, .ref yo, .ref yk, .ref yt, .int mz, .ref yi, .ref yz, .ref yx, .ref yu, .int km, .int kr])), (yw, .inl (cI, 20, .inl v)), (yl, .inl (cI, 72, .inl lf)), (ys, .inl (cI, 20, .inl sf9))] sz) (va_Qi (fun (res : Int32) (u : Int32 × Int32 × Int32 × Int32 × (Nat → Int32) × (Nat → Int32)) => res = (wk nT lf mq mn v).1 ∧ u.1 = (wkS nT lf mq mn v).1 ∧ u.2.1 = (wkS nT lf mq mn v).2.1 ∧ u.2.2.1 = wkC nT lf mq mn v mc ∧ u.2.2.2.1 = 0 ∧ u.2.2.2.2.1 = (wkS nT lf mq mn v).2.2) (Bw D (fun (u : Int32 × Int32 × Int32 × Int32 × (Nat → Int32) × (Nat → Int32)) => [(y, .inr (6, [.ref yr, .int u.1, .int u.2.1, .ref yw, .ref yc, .int u.2.2.1, .ref yl, .int u.2.2.2.1, .ref ys, .ref yp, .ref ym, .int md, .ref yo, .ref yk, .ref yt, .int mz, .ref yi, .ref yz, .ref yx, .ref yu, .int km, .int kr])), (yw, .inl (cI, 20, .inl u.2.2.2.2.1)), (yl, .inl (cI, 72, .inl lf)), (ys, .inl (cI, 20, .inl u.2.2.2.2.2))]) (va_A [(y, .inr (6, [.ref yr, .int mq, .int mn, .ref yw, .ref yc, .int mc, .ref yl, .int me, .ref ys, .ref yp, .ref ym, .int md, .ref yo, .ref yk, .ref yt, .int mz, .ref yi, .ref yz, .ref yx, .ref yu, .int km, .int kr])), (yw, .inl (cI, 20, .inl v)), (yl, .inl (cI, 72, .inl lf)), (ys, .inl (cI, 20, .inl sf9))] sz)) (va_A [(y, .inr (6, [.ref yr, .int mq, .int mn, .ref yw, .ref yc, .int mc, .ref yl, .int me, .ref ys, .ref yp, .ref ym, .int md, .ref yo, .ref yk, .ref yt, .int mz, .ref yi, .ref yz, .ref yx, .ref yu, .int km, .int kr])), (yw, .inl (cI, 20, .inl v)), (yl, .inl (cI, 72, .inl lf)), (ys, .inl (cI, 20, .inl sf9))] sz)) 0 0 (va_A [(y, .inr (6, [.ref yr, .int mq, .int mn, .ref yw, .ref yc, .int mc, .ref yl, .int me, .ref ys, .ref yp, .ref ym, .int md, .ref yo, .ref yk, .ref yt, .int mz, .ref yi, .ref yz, .ref yx, .ref yu, .int km, .int kr])), (yw, .inl (cI, 20, .inl v)), (yl, .inl (cI, 72, .inl lf)), (ys, .inl (cI, 20, .inl sf9))] sz) := by
  refine Met.ofW (cc := cX6_walk) (maxL := 8) (ret := (some .int)) (by decide) rfl ?_
  intro p e s m args below meth c s₁ B hml hv
  obtain ⟨rfl, hsz, hP, hK, hD0, hN⟩ := hv
  have hx := B.exec
  have hb := B.bytes
  have hr := B.returns
  have hts := atoms_spec (ws := wsX6_walk) B.pre
  have hown : s.vm.findClass RX6 = some m.cls := findClass_of_methodNamed B.named
  have hlocks := B.notSynchronized
  subst hsz
  have hD := hD0.self (sz := s.heap.size)
  generalize hAe : va_A [(y, .inr (6, [.ref yr, .int mq, .int mn, .ref yw, .ref yc, .int mc, .ref yl, .int me, .ref ys, .ref yp, .ref ym, .int md, .ref yo, .ref yk, .ref yt, .int mz, .ref yi, .ref yz, .ref yx, .ref yu, .int km, .int kr])), (yw, .inl (cI, 20, .inl v)), (yl, .inl (cI, 72, .inl lf)), (ys, .inl (cI, 20, .inl sf9))] s.heap.size = A at hD ⊢
  have hA : ∀ q : Nat, s.heap.size ≤ q → A q := fun q h => by rw [← hAe]; exact Or.inr h
  have hS : va_S A s.heap s.heap [] := va_S.rf
  have hP : va_P D vwCl [(y, .inr (6, [.ref yr, .int mq, .int mn, .ref yw, .ref yc, .int mc, .ref yl, .int me, .ref ys, .ref yp, .ref ym, .int md, .ref yo, .ref yk, .ref yt, .int mz, .ref yi, .ref yz, .ref yx, .ref yu, .int km, .int kr])), (yw, .inl (cI, 20, .inl v)), (yl, .inl (cI, 72, .inl lf)), (ys, .inl (cI, 20, .inl sf9))] s.heap := hP
  have hl := lv_entry ([.ref y]) (n := 8) (Nat.le_of_ble_eq_true rfl)
  rw [lg_entry_eq]
  generalize (lg_sl ([.ref y]) ++ List.replicate (8 - (lg_sl ([.ref y])).length) Slot.unset).toArray = ls at hl ⊢
  have hl : lv_has ls 8 [(0, .ref y)] := hl
  refine lv_aload_n hx hb dX6_walk_0 rfl (lv_at hl 0 rfl) ?_
  refine rdV (As := []) (rest := []) ⟨hx, hb, hml, hown, hts⟩ (c_X6_wrongLetter l D cI cZ cR y yr yw yc yl ys yp ym yo yk yt yi yz yx yu mq mn mc me md mz km kr lf nT hme hnT) (cwV 0 hts gX6_walk_X6_wrongLetter rfl rfl rfl (by decide +kernel) ⟨Nat.le_of_ble_eq_true rfl, Nat.le_of_ble_eq_true rfl⟩) hK hN hP 0 6 rfl rfl rfl [0, 2] rfl rfl hl.1 rfl (Nat.le_of_ble_eq_true rfl) dX6_walk_1 ⟨Nat.zero_le _, Nat.zero_le _⟩ ?_
  refine lv_istore_n (lv' := [(1, .int (wF nT lf 72 0)), (0, .ref y)]) hx hb dX6_walk_4 rfl hl (by decide) rfl (fun ls hl => ?_)
  refine lv_iload_n hx hb dX6_walk_5 rfl (lv_at hl 0 rfl) ?_
  refine lv_bipush (v := (-9)) hx hb dX6_walk_6 (by decide) ?_
  refine lv_icmp_eq (tgt := 22) hx hb dX6_walk_8 (by decide) (fun c_8 => ?_) (fun c_8 => ?_)
  · skip
    refine lv_aload_n hx hb dX6_walk_22 rfl (lv_at hl 1 rfl) ?_
    refine va_get (D := D) (ci := 6) (v := .int me) (C := RX6) (T := TX6) (N := 22) hx hb hts (in_X6_walk_X6) hown hK hP 0 rfl rfl 7 (by decide) (hts (.fieldLink RX6 122 "StepsRoundCircleModel" "lettered" "I") (by decide +kernel)) (fun _ h9 => h9) rfl dX6_walk_23 ?_
    refine lv_topi (fun z_26 hz_26 => ?_)
    have hz_26 : (nI nT) = z_26 := (hz_26.trans hme).symm
    subst hz_26
    refine lv_istore_n (lv' := [(2, .int (nI nT)), (1, .int (wF nT lf 72 0)), (0, .ref y)]) hx hb dX6_walk_26 rfl hl (by decide) rfl (fun ls hl => ?_)
    refine lv_aload_n hx hb dX6_walk_27 rfl (lv_at hl 2 rfl) ?_
    refine lv_iconst (v := 0) hx hb dX6_walk_28 (by decide) ?_
    refine va_put (D := D) (ci := 6) (v := .int 0) (ty := .int) (C := RX6) (T := TX6) (N := 22) hx hb hts (in_X6_walk_X6) tyX6 tyX6_ok nmX6 hown hK hP hD hS 0 rfl rfl 7 (by decide) (hts (.fieldLink RX6 122 "StepsRoundCircleModel" "lettered" "I") (by decide +kernel)) (fun _ h9 => h9) rfl (by decide +kernel) rfl rfl (Nat.le_of_ble_eq_true rfl) dX6_walk_29 (fun H locs hP hD hS => ?_)
    have hP : va_P D vwCl [(y, .inr (6, [.ref yr, .int mq, .int mn, .ref yw, .ref yc, .int mc, .ref yl, .int 0, .ref ys, .ref yp, .ref ym, .int md, .ref yo, .ref yk, .ref yt, .int mz, .ref yi, .ref yz, .ref yx, .ref yu, .int km, .int kr])), (yw, .inl (cI, 20, .inl v)), (yl, .inl (cI, 72, .inl lf)), (ys, .inl (cI, 20, .inl sf9))] H := hP
    have hD : va_D A [(y, .inr (6, [.ref yr, .int mq, .int mn, .ref yw, .ref yc, .int mc, .ref yl, .int 0, .ref ys, .ref yp, .ref ym, .int md, .ref yo, .ref yk, .ref yt, .int mz, .ref yi, .ref yz, .ref yx, .ref yu, .int km, .int kr])), (yw, .inl (cI, 20, .inl v)), (yl, .inl (cI, 72, .inl lf)), (ys, .inl (cI, 20, .inl sf9))] := hD
    refine lv_aload_n hx hb dX6_walk_32 rfl (lv_at hl 2 rfl) ?_
    refine va_get (D := D) (ci := 6) (v := .int mq) (C := RX6) (T := TX6) (N := 22) hx hb hts (in_X6_walk_X6) hown hK hP 0 rfl rfl 1 (by decide) (hts (.fieldLink RX6 13 "StepsRoundCircleModel" "round" "I") (by decide +kernel)) (fun _ h9 => h9) rfl dX6_walk_33 ?_
    refine lv_istore_n (lv' := [(3, .int mq), (2, .int (nI nT)), (1, .int (wF nT lf 72 0)), (0, .ref y)]) hx hb dX6_walk_36 rfl hl (by decide) rfl (fun ls hl => ?_)
    refine lv_aload_n hx hb dX6_walk_37 rfl (lv_at hl 3 rfl) ?_
    refine va_get (D := D) (ci := 6) (v := .int mn) (C := RX6) (T := TX6) (N := 22) hx hb hts (in_X6_walk_X6) hown hK hP 0 rfl rfl 2 (by decide) (hts (.fieldLink RX6 70 "StepsRoundCircleModel" "many" "I") (by decide +kernel)) (fun _ h9 => h9) rfl dX6_walk_38 ?_
    refine lv_istore (lv' := [(4, .int mn), (3, .int mq), (2, .int (nI nT)), (1, .int (wF nT lf 72 0)), (0, .ref y)]) hx hb dX6_walk_41 hl (by decide) rfl (fun ls hl => ?_)
    refine lv_iconst (v := 0) hx hb dX6_walk_43 (by decide) ?_
    refine lv_istore (lv' := [(5, .int 0), (4, .int mn), (3, .int mq), (2, .int (nI nT)), (1, .int (wF nT lf 72 0)), (0, .ref y)]) hx hb dX6_walk_44 hl (by decide) rfl (fun ls hl => ?_)
    have loop_46 : ∀ (fuel : Nat), ∀ (i : Nat), ∀ (g : Nat → Int32), (i ≤ 20) → (∀ j, j < i → g j = v j) → (21 ≤ i + fuel) → ∀ (y5 : Int32), y5 = nI i → ∀ (H : Heap) (locs : List Loc), va_P D vwCl [(y, .inr (6, [.ref yr, .int mq, .int mn, .ref yw, .ref yc, .int mc, .ref yl, .int 0, .ref ys, .ref yp, .ref ym, .int md, .ref yo, .ref yk, .ref yt, .int mz, .ref yi, .ref yz, .ref yx, .ref yu, .int km, .int kr])), (yw, .inl (cI, 20, .inl v)), (yl, .inl (cI, 72, .inl lf)), (ys, .inl (cI, 20, .inl g))] H → va_D A [(y, .inr (6, [.ref yr, .int mq, .int mn, .ref yw, .ref yc, .int mc, .ref yl, .int 0, .ref ys, .ref yp, .ref ym, .int md, .ref yo, .ref yk, .ref yt, .int mz, .ref yi, .ref yz, .ref yx, .ref yu, .int km, .int kr])), (yw, .inl (cI, 20, .inl v)), (yl, .inl (cI, 72, .inl lf)), (ys, .inl (cI, 20, .inl g))] → va_S A s.heap H locs → ∀ (ls : Array Slot), lv_has ls 8 [(5, .int y5), (0, .ref y), (1, .int (wF nT lf 72 0)), (2, .int (nI nT)), (3, .int mq), (4, .int mn)] → W p l e (headSpec wsX6_walk ({ frames := 3, cells := 0, slots := 0, locals := 73 })).room s m ([.ref y] : List Value).toArray below meth c H locs 0 0 (MQ below (va_Qi (fun (res : Int32) (u : Int32 × Int32 × Int32 × Int32 × (Nat → Int32) × (Nat → Int32)) => res = (wk nT lf mq mn v).1 ∧ u.1 = (wkS nT lf mq mn v).1 ∧ u.2.1 = (wkS nT lf mq mn v).2.1 ∧ u.2.2.1 = wkC nT lf mq mn v mc ∧ u.2.2.2.1 = 0 ∧ u.2.2.2.2.1 = (wkS nT lf mq mn v).2.2) (Bw D (fun (u : Int32 × Int32 × Int32 × Int32 × (Nat → Int32) × (Nat → Int32)) => [(y, .inr (6, [.ref yr, .int u.1, .int u.2.1, .ref yw, .ref yc, .int u.2.2.1, .ref yl, .int u.2.2.2.1, .ref ys, .ref yp, .ref ym, .int md, .ref yo, .ref yk, .ref yt, .int mz, .ref yi, .ref yz, .ref yx, .ref yu, .int km, .int kr])), (yw, .inl (cI, 20, .inl u.2.2.2.2.1)), (yl, .inl (cI, 72, .inl lf)), (ys, .inl (cI, 20, .inl u.2.2.2.2.2))]) A) A) ([.ref y] : List Value).toArray s 0 0 A) (F0 m 46 ls []) := by
      intro fuel
      induction fuel with
      | zero =>
        intro i g hi hg hfu
        exact False.elim (by omega)
      | succ fuel ih_46 =>
        intro i g hi hg hfu y5 ey5 H locs hP hD hS ls hl
        subst ey5
        refine lv_iload hx hb dX6_walk_46 (lv_at hl 0 rfl) ?_
        refine lv_bipush (v := 20) hx hb dX6_walk_48 (by decide) ?_
        refine lv_icmp_ge (tgt := 73) hx hb dX6_walk_50 (by decide) (fun c_50 => ?_) (fun c_50 => ?_)
        · skip
          have hP : va_P D vwCl [(y, .inr (6, [.ref yr, .int mq, .int mn, .ref yw, .ref yc, .int mc, .ref yl, .int 0, .ref ys, .ref yp, .ref ym, .int md, .ref yo, .ref yk, .ref yt, .int mz, .ref yi, .ref yz, .ref yx, .ref yu, .int km, .int kr])), (yw, .inl (cI, 20, .inl v)), (yl, .inl (cI, 72, .inl lf)), (ys, .inl (cI, 20, .inl v))] H := P_cg hP 3 v rfl (fun j hj => hg j (by have := (nI_leI (a := 20) (b := i) (by omega) (by omega)).mp c_50; omega))
          have hD : va_D A [(y, .inr (6, [.ref yr, .int mq, .int mn, .ref yw, .ref yc, .int mc, .ref yl, .int 0, .ref ys, .ref yp, .ref ym, .int md, .ref yo, .ref yk, .ref yt, .int mz, .ref yi, .ref yz, .ref yx, .ref yu, .int km, .int kr])), (yw, .inl (cI, 20, .inl v)), (yl, .inl (cI, 72, .inl lf)), (ys, .inl (cI, 20, .inl v))] := D_cg hD 3 _ rfl
          refine lv_iconst (v := 0) hx hb dX6_walk_73 (by decide) ?_
          refine lv_istore (lv' := [(5, .int 0), (0, .ref y), (1, .int (wF nT lf 72 0)), (2, .int (nI nT)), (3, .int mq), (4, .int mn)]) hx hb dX6_walk_74 hl (by decide) rfl (fun ls hl => ?_)
          refine lv_iconst (v := 0) hx hb dX6_walk_76 (by decide) ?_
          refine lv_istore (lv' := [(6, .int 0), (5, .int 0), (0, .ref y), (1, .int (wF nT lf 72 0)), (2, .int (nI nT)), (3, .int mq), (4, .int mn)]) hx hb dX6_walk_77 hl (by decide) rfl (fun ls hl => ?_)
          have loop_79 : ∀ (fuel : Nat), ∀ (n9 p9 : Nat), ∀ (sq sw : Int32), ∀ (sv : Nat → Int32), (3 * n9 ≤ p9) → (p9 ≤ nT) → (okS sq sw sv) → (p9 < nT → ∃ j, 216 ≤ 3 * j + p9 ∧ wF nT lf j p9 = -9) → (wG nT lf 72 0 0 (mq, mn, v) = wG nT lf (72 - n9) p9 n9 (sq, sw, sv)) → (73 ≤ n9 + fuel) → ∀ (y5 : Int32), y5 = nI n9 → ∀ (y6 : Int32), y6 = nI p9 → ∀ (H : Heap) (locs : List Loc), va_P D vwCl [(y, .inr (6, [.ref yr, .int sq, .int sw, .ref yw, .ref yc, .int mc, .ref yl, .int 0, .ref ys, .ref yp, .ref ym, .int md, .ref yo, .ref yk, .ref yt, .int mz, .ref yi, .ref yz, .ref yx, .ref yu, .int km, .int kr])), (yw, .inl (cI, 20, .inl sv)), (yl, .inl (cI, 72, .inl lf)), (ys, .inl (cI, 20, .inl v))] H → va_D A [(y, .inr (6, [.ref yr, .int sq, .int sw, .ref yw, .ref yc, .int mc, .ref yl, .int 0, .ref ys, .ref yp, .ref ym, .int md, .ref yo, .ref yk, .ref yt, .int mz, .ref yi, .ref yz, .ref yx, .ref yu, .int km, .int kr])), (yw, .inl (cI, 20, .inl sv)), (yl, .inl (cI, 72, .inl lf)), (ys, .inl (cI, 20, .inl v))] → va_S A s.heap H locs → ∀ (ls : Array Slot), lv_has ls 8 [(5, .int y5), (6, .int y6), (0, .ref y), (1, .int (wF nT lf 72 0)), (2, .int (nI nT)), (3, .int mq), (4, .int mn)] → W p l e (headSpec wsX6_walk ({ frames := 3, cells := 0, slots := 0, locals := 73 })).room s m ([.ref y] : List Value).toArray below meth c H locs 0 0 (MQ below (va_Qi (fun (res : Int32) (u : Int32 × Int32 × Int32 × Int32 × (Nat → Int32) × (Nat → Int32)) => res = (wk nT lf mq mn v).1 ∧ u.1 = (wkS nT lf mq mn v).1 ∧ u.2.1 = (wkS nT lf mq mn v).2.1 ∧ u.2.2.1 = wkC nT lf mq mn v mc ∧ u.2.2.2.1 = 0 ∧ u.2.2.2.2.1 = (wkS nT lf mq mn v).2.2) (Bw D (fun (u : Int32 × Int32 × Int32 × Int32 × (Nat → Int32) × (Nat → Int32)) => [(y, .inr (6, [.ref yr, .int u.1, .int u.2.1, .ref yw, .ref yc, .int u.2.2.1, .ref yl, .int u.2.2.2.1, .ref ys, .ref yp, .ref ym, .int md, .ref yo, .ref yk, .ref yt, .int mz, .ref yi, .ref yz, .ref yx, .ref yu, .int km, .int kr])), (yw, .inl (cI, 20, .inl u.2.2.2.2.1)), (yl, .inl (cI, 72, .inl lf)), (ys, .inl (cI, 20, .inl u.2.2.2.2.2))]) A) A) ([.ref y] : List Value).toArray s 0 0 A) (F0 m 79 ls []) := by
            intro fuel
            induction fuel with
            | zero =>
              intro n9 p9 sq sw sv h3 hp9 hsk hform hinv hfu2
              exact False.elim (by omega)
            | succ fuel ih_79 =>
              intro n9 p9 sq sw sv h3 hp9 hsk hform hinv hfu2 y5 ey5 y6 ey6 H locs hP hD hS ls hl
              subst ey5
              subst ey6
              refine lv_iload hx hb dX6_walk_79 (lv_at hl 1 rfl) ?_
              refine lv_iload_n hx hb dX6_walk_81 rfl (lv_at hl 4 rfl) ?_
              refine lv_icmp_ge (tgt := 165) hx hb dX6_walk_82 (by decide) (fun c_82 => ?_) (fun c_82 => ?_)
              · skip
                have hend : ¬ p9 < nT := by have := (nI_leI (by omega) (by omega)).mp c_82; omega
                refine lv_aload_n hx hb dX6_walk_165 rfl (lv_at hl 2 rfl) ?_
                refine lv_iconst (v := 0) hx hb dX6_walk_166 (by decide) ?_
                refine va_put (D := D) (ci := 6) (v := .int 0) (ty := .int) (C := RX6) (T := TX6) (N := 22) hx hb hts (in_X6_walk_X6) tyX6 tyX6_ok nmX6 hown hK hP hD hS 0 rfl rfl 5 (by decide) (hts (.fieldLink RX6 102 "StepsRoundCircleModel" "changes" "I") (by decide +kernel)) (fun _ h9 => h9) rfl (by decide +kernel) rfl rfl (Nat.le_of_ble_eq_true rfl) dX6_walk_167 (fun H locs hP hD hS => ?_)
                have hP : va_P D vwCl [(y, .inr (6, [.ref yr, .int sq, .int sw, .ref yw, .ref yc, .int 0, .ref yl, .int 0, .ref ys, .ref yp, .ref ym, .int md, .ref yo, .ref yk, .ref yt, .int mz, .ref yi, .ref yz, .ref yx, .ref yu, .int km, .int kr])), (yw, .inl (cI, 20, .inl sv)), (yl, .inl (cI, 72, .inl lf)), (ys, .inl (cI, 20, .inl v))] H := hP
                have hD : va_D A [(y, .inr (6, [.ref yr, .int sq, .int sw, .ref yw, .ref yc, .int 0, .ref yl, .int 0, .ref ys, .ref yp, .ref ym, .int md, .ref yo, .ref yk, .ref yt, .int mz, .ref yi, .ref yz, .ref yx, .ref yu, .int km, .int kr])), (yw, .inl (cI, 20, .inl sv)), (yl, .inl (cI, 72, .inl lf)), (ys, .inl (cI, 20, .inl v))] := hD
                refine lv_iload hx hb dX6_walk_170 (lv_at hl 0 rfl) ?_
                exact wrI (w1 := (fun (u : Int32 × Int32 × Int32 × Int32 × (Nat → Int32) × (Nat → Int32)) => [(y, .inr (6, [.ref yr, .int u.1, .int u.2.1, .ref yw, .ref yc, .int u.2.2.1, .ref yl, .int u.2.2.2.1, .ref ys, .ref yp, .ref ym, .int md, .ref yo, .ref yk, .ref yt, .int mz, .ref yi, .ref yz, .ref yx, .ref yu, .int km, .int kr])), (yw, .inl (cI, 20, .inl u.2.2.2.2.1)), (yl, .inl (cI, 72, .inl lf)), (ys, .inl (cI, 20, .inl u.2.2.2.2.2))])) (sq, sw, 0, 0, sv, v) hx hb hr hlocks dX6_walk_172 hS (hP.sub [0, 1, 2, 3] rfl) (hD.sub [0, 1, 2, 3] (by decide) rfl) (by have e9 : wk nT lf mq mn v = (nI n9, some (sq, sw, sv)) := ((if_pos c_8).trans hinv).trans (wG_end hend); unfold wkS wkC; rw [e9]; exact ⟨rfl, rfl, rfl, rfl, rfl, rfl⟩)
              · skip
                have hpn : p9 < nT := by rcases Nat.lt_or_ge p9 nT with q9 | q9; exact q9; exact absurd (nI_le q9 (by omega)) c_82
                obtain ⟨j9, hj9, hwf⟩ := hform hpn
                have hokj := wF_ok (by omega) hwf
                have hsf := hokj.1
                have hsa := sf_all hnT (by omega) hsf
                refine lv_aload_n hx hb dX6_walk_85 rfl (lv_at hl 2 rfl) ?_
                refine lv_iload hx hb dX6_walk_86 (lv_at hl 1 rfl) ?_
                refine wrVi (As := [.int (nI p9)]) (rest := []) (wr := [(ys, .inl (cI, 20, .inl v))]) (A := A) ⟨hx, hb, hml, hown, hts⟩ (c_X6_can l D cI cZ cR y yr yw yc yl ys yp ym yo yk yt yi yz yx yu sq sw mc 0 md mz km kr sv lf p9 nT hsk.1 hsk.2.1 hsk.2.2.1 hsk.2.2.2 hnT (by omega) hsf H.size) (cwV 1 hts gX6_walk_X6_can rfl rfl rfl (by decide +kernel) ⟨Nat.le_of_ble_eq_true rfl, Nat.le_of_ble_eq_true rfl⟩) hK hN hP hD hS hA 0 6 rfl rfl rfl [0, 1, 2] [3] rfl (by decide) rfl (by decide) (by decide) rfl hl.1 rfl (Nat.le_of_ble_eq_true rfl) dX6_walk_88 ⟨Nat.zero_le _, Nat.zero_le _⟩ (fun r_88 u H locs hw hP hD hS => ?_)
                obtain ⟨mq_88, mn_88, v_88⟩ := u
                try dsimp only at hw
                obtain ⟨q1_88, q2_88, q3_88, q4_88⟩ := hw
                have q1_88 := q1_88.symm
                subst q1_88
                have q2_88 := q2_88.symm
                subst q2_88
                have q3_88 := q3_88.symm
                subst q3_88
                have q4_88 := q4_88.symm
                subst q4_88
                have hP : va_P D vwCl [(y, .inr (6, [.ref yr, .int (folQ lf p9 sq sw sv), .int (folN lf p9 sq sw), .ref yw, .ref yc, .int mc, .ref yl, .int 0, .ref ys, .ref yp, .ref ym, .int md, .ref yo, .ref yk, .ref yt, .int mz, .ref yi, .ref yz, .ref yx, .ref yu, .int km, .int kr])), (yw, .inl (cI, 20, .inl (folV lf p9 sq sw sv))), (yl, .inl (cI, 72, .inl lf)), (ys, .inl (cI, 20, .inl v))] H := hP.sub [1, 2, 3, 0] rfl
                have hD : va_D A [(y, .inr (6, [.ref yr, .int (folQ lf p9 sq sw sv), .int (folN lf p9 sq sw), .ref yw, .ref yc, .int mc, .ref yl, .int 0, .ref ys, .ref yp, .ref ym, .int md, .ref yo, .ref yk, .ref yt, .int mz, .ref yi, .ref yz, .ref yx, .ref yu, .int km, .int kr])), (yw, .inl (cI, 20, .inl (folV lf p9 sq sw sv))), (yl, .inl (cI, 72, .inl lf)), (ys, .inl (cI, 20, .inl v))] := hD.sub [1, 2, 3, 0] (by decide) rfl
                refine lv_if_ne (tgt := 142) hx hb dX6_walk_91 (by decide) (fun c_91 => ?_) (fun c_91 => ?_)
                · skip
                  have c_91 := bi_ne0.mp c_91
                  refine lv_iload hx hb dX6_walk_142 (lv_at hl 1 rfl) ?_
                  refine lv_aload_n hx hb dX6_walk_144 rfl (lv_at hl 2 rfl) ?_
                  refine va_get (D := D) (ci := 6) (v := .ref yl) (C := RX6) (T := TX6) (N := 22) hx hb hts (in_X6_walk_X6) hown hK hP 0 rfl rfl 6 (by decide) (hts (.fieldLink RX6 23 "StepsRoundCircleModel" "letters" "[I") (by decide +kernel)) (fun _ h9 => h9) rfl dX6_walk_145 ?_
                  refine lv_iload hx hb dX6_walk_148 (lv_at hl 1 rfl) ?_
                  refine va_iald hx hb hK hP 2 0 rfl rfl (vp_in_nI (by omega) (by omega)) dX6_walk_150 ?_
                  refine lv_topi (fun z_151 hz_151 => ?_)
                  have hz_151 : (lf p9) = z_151 := (hz_151.trans (by rw [nI_clamp (by omega)])).symm
                  subst hz_151
                  refine rdS (As := [.int (lf p9)]) (rest := [.int (nI p9)]) ⟨hx, hb, hml, hown, hts⟩ (c_X6_digits l D cI cZ cR (lf p9) ) (va_cwS 1 hts gX6_walk_X6_digits rfl rfl rfl (by decide +kernel) ⟨Nat.le_of_ble_eq_true rfl, Nat.le_of_ble_eq_true rfl⟩) hK hN hP [] rfl rfl hl.1 rfl (Nat.le_of_ble_eq_true rfl) dX6_walk_151 ⟨Nat.zero_le _, Nat.zero_le _⟩ ?_
                  refine lv_iconst (v := 2) hx hb dX6_walk_154 (by decide) ?_
                  refine lv_iadd hx hb dX6_walk_155 ?_
                  refine lv_topi (fun z_156 hz_156 => ?_)
                  have hz_156 : (nI (dgN nT lf p9 + 2)) = z_156 := (hz_156.trans (by have h8 := sf_ok hnT (show p9 ≤ 72 by omega) hsf; rw [← h8.2.2.2, (dg_n h8.1).1]; exact nI_add _ 2)).symm
                  subst hz_156
                  refine lv_iadd hx hb dX6_walk_156 ?_
                  refine lv_topi (fun z_157 hz_157 => ?_)
                  have hz_157 : (nI (p9 + (dgN nT lf p9 + 2))) = z_157 := (hz_157.trans (nI_add _ _)).symm
                  subst hz_157
                  refine lv_istore (lv' := [(6, .int (nI (p9 + (dgN nT lf p9 + 2)))), (5, .int (nI n9)), (0, .ref y), (1, .int (wF nT lf 72 0)), (2, .int (nI nT)), (3, .int mq), (4, .int mn)]) hx hb dX6_walk_157 hl (by decide) rfl (fun ls hl => ?_)
                  refine lv_iinc (v := (nI n9) + 1) (lv' := [(5, .int ((nI n9) + 1)), (6, .int (nI (p9 + (dgN nT lf p9 + 2)))), (0, .ref y), (1, .int (wF nT lf 72 0)), (2, .int (nI nT)), (3, .int mq), (4, .int mn)]) hx hb dX6_walk_159 hl (k := 1) rfl (by rfl) (by decide) rfl (fun ls hl => ?_)
                  refine lv_goto (tgt := 79) hx hb dX6_walk_162 (by decide) ?_
                  exact ih_79 (n9 + 1) (p9 + (dgN nT lf p9 + 2)) (folQ lf p9 sq sw sv) (folN lf p9 sq sw) (folV lf p9 sq sw sv) (by omega) (by omega) (fol_ok hnT (by omega) hsf hsk c_91) (fun h2 => ⟨j9 - 1, by omega, hokj.2 h2⟩) (hinv.trans (by rw [wG_go (by omega) hpn c_91, show 72 - n9 - 1 = 72 - (n9 + 1) by omega])) (by omega) _ (by first | rfl | exact nI_1 _ | exact nI_0.symm) _ rfl _ _ (hP.sub [0, 1, 2, 3] rfl) (hD.sub [0, 1, 2, 3] (by decide) rfl) hS ls (lv_sub hl [0, 1, 2, 3, 4, 5, 6] rfl)
                · skip
                  have c_91 := bi_eq0.mp c_91
                  refine lv_aload_n hx hb dX6_walk_94 rfl (lv_at hl 2 rfl) ?_
                  refine lv_iload_n hx hb dX6_walk_95 rfl (lv_at hl 5 rfl) ?_
                  refine va_put (D := D) (ci := 6) (v := .int mq) (ty := .int) (C := RX6) (T := TX6) (N := 22) hx hb hts (in_X6_walk_X6) tyX6 tyX6_ok nmX6 hown hK hP hD hS 0 rfl rfl 1 (by decide) (hts (.fieldLink RX6 13 "StepsRoundCircleModel" "round" "I") (by decide +kernel)) (fun _ h9 => h9) rfl (by decide +kernel) rfl rfl (Nat.le_of_ble_eq_true rfl) dX6_walk_96 (fun H locs hP hD hS => ?_)
                  have hP : va_P D vwCl [(y, .inr (6, [.ref yr, .int mq, .int (folN lf p9 sq sw), .ref yw, .ref yc, .int mc, .ref yl, .int 0, .ref ys, .ref yp, .ref ym, .int md, .ref yo, .ref yk, .ref yt, .int mz, .ref yi, .ref yz, .ref yx, .ref yu, .int km, .int kr])), (yw, .inl (cI, 20, .inl (folV lf p9 sq sw sv))), (yl, .inl (cI, 72, .inl lf)), (ys, .inl (cI, 20, .inl v))] H := hP
                  have hD : va_D A [(y, .inr (6, [.ref yr, .int mq, .int (folN lf p9 sq sw), .ref yw, .ref yc, .int mc, .ref yl, .int 0, .ref ys, .ref yp, .ref ym, .int md, .ref yo, .ref yk, .ref yt, .int mz, .ref yi, .ref yz, .ref yx, .ref yu, .int km, .int kr])), (yw, .inl (cI, 20, .inl (folV lf p9 sq sw sv))), (yl, .inl (cI, 72, .inl lf)), (ys, .inl (cI, 20, .inl v))] := hD
                  refine lv_aload_n hx hb dX6_walk_99 rfl (lv_at hl 2 rfl) ?_
                  refine lv_iload hx hb dX6_walk_100 (lv_at hl 6 rfl) ?_
                  refine va_put (D := D) (ci := 6) (v := .int mn) (ty := .int) (C := RX6) (T := TX6) (N := 22) hx hb hts (in_X6_walk_X6) tyX6 tyX6_ok nmX6 hown hK hP hD hS 0 rfl rfl 2 (by decide) (hts (.fieldLink RX6 70 "StepsRoundCircleModel" "many" "I") (by decide +kernel)) (fun _ h9 => h9) rfl (by decide +kernel) rfl rfl (Nat.le_of_ble_eq_true rfl) dX6_walk_102 (fun H locs hP hD hS => ?_)
                  have hP : va_P D vwCl [(y, .inr (6, [.ref yr, .int mq, .int mn, .ref yw, .ref yc, .int mc, .ref yl, .int 0, .ref ys, .ref yp, .ref ym, .int md, .ref yo, .ref yk, .ref yt, .int mz, .ref yi, .ref yz, .ref yx, .ref yu, .int km, .int kr])), (yw, .inl (cI, 20, .inl (folV lf p9 sq sw sv))), (yl, .inl (cI, 72, .inl lf)), (ys, .inl (cI, 20, .inl v))] H := hP
                  have hD : va_D A [(y, .inr (6, [.ref yr, .int mq, .int mn, .ref yw, .ref yc, .int mc, .ref yl, .int 0, .ref ys, .ref yp, .ref ym, .int md, .ref yo, .ref yk, .ref yt, .int mz, .ref yi, .ref yz, .ref yx, .ref yu, .int km, .int kr])), (yw, .inl (cI, 20, .inl (folV lf p9 sq sw sv))), (yl, .inl (cI, 72, .inl lf)), (ys, .inl (cI, 20, .inl v))] := hD
                  refine lv_iconst (v := 0) hx hb dX6_walk_105 (by decide) ?_
                  refine lv_istore (lv' := [(7, .int 0), (5, .int (nI n9)), (6, .int (nI p9)), (0, .ref y), (1, .int (wF nT lf 72 0)), (2, .int (nI nT)), (3, .int mq), (4, .int mn)]) hx hb dX6_walk_106 hl (by decide) rfl (fun ls hl => ?_)
                  have loop_108 : ∀ (fuel : Nat), ∀ (i2 : Nat), ∀ (g2 : Nat → Int32), (i2 ≤ 20) → (∀ j, j < i2 → g2 j = v j) → (21 ≤ i2 + fuel) → ∀ (y7 : Int32), y7 = nI i2 → ∀ (H : Heap) (locs : List Loc), va_P D vwCl [(y, .inr (6, [.ref yr, .int mq, .int mn, .ref yw, .ref yc, .int mc, .ref yl, .int 0, .ref ys, .ref yp, .ref ym, .int md, .ref yo, .ref yk, .ref yt, .int mz, .ref yi, .ref yz, .ref yx, .ref yu, .int km, .int kr])), (yw, .inl (cI, 20, .inl g2)), (yl, .inl (cI, 72, .inl lf)), (ys, .inl (cI, 20, .inl v))] H → va_D A [(y, .inr (6, [.ref yr, .int mq, .int mn, .ref yw, .ref yc, .int mc, .ref yl, .int 0, .ref ys, .ref yp, .ref ym, .int md, .ref yo, .ref yk, .ref yt, .int mz, .ref yi, .ref yz, .ref yx, .ref yu, .int km, .int kr])), (yw, .inl (cI, 20, .inl g2)), (yl, .inl (cI, 72, .inl lf)), (ys, .inl (cI, 20, .inl v))] → va_S A s.heap H locs → ∀ (ls : Array Slot), lv_has ls 8 [(7, .int y7), (0, .ref y), (1, .int (wF nT lf 72 0)), (2, .int (nI nT)), (3, .int mq), (4, .int mn), (5, .int (nI n9)), (6, .int (nI p9))] → W p l e (headSpec wsX6_walk ({ frames := 3, cells := 0, slots := 0, locals := 73 })).room s m ([.ref y] : List Value).toArray below meth c H locs 0 0 (MQ below (va_Qi (fun (res : Int32) (u : Int32 × Int32 × Int32 × Int32 × (Nat → Int32) × (Nat → Int32)) => res = (wk nT lf mq mn v).1 ∧ u.1 = (wkS nT lf mq mn v).1 ∧ u.2.1 = (wkS nT lf mq mn v).2.1 ∧ u.2.2.1 = wkC nT lf mq mn v mc ∧ u.2.2.2.1 = 0 ∧ u.2.2.2.2.1 = (wkS nT lf mq mn v).2.2) (Bw D (fun (u : Int32 × Int32 × Int32 × Int32 × (Nat → Int32) × (Nat → Int32)) => [(y, .inr (6, [.ref yr, .int u.1, .int u.2.1, .ref yw, .ref yc, .int u.2.2.1, .ref yl, .int u.2.2.2.1, .ref ys, .ref yp, .ref ym, .int md, .ref yo, .ref yk, .ref yt, .int mz, .ref yi, .ref yz, .ref yx, .ref yu, .int km, .int kr])), (yw, .inl (cI, 20, .inl u.2.2.2.2.1)), (yl, .inl (cI, 72, .inl lf)), (ys, .inl (cI, 20, .inl u.2.2.2.2.2))]) A) A) ([.ref y] : List Value).toArray s 0 0 A) (F0 m 108 ls []) := by
                    intro fuel
                    induction fuel with
                    | zero =>
                      intro i2 g2 hi2 hg2 hfu3
                      exact False.elim (by omega)
                    | succ fuel ih_108 =>
                      intro i2 g2 hi2 hg2 hfu3 y7 ey7 H locs hP hD hS ls hl
                      subst ey7
                      refine lv_iload hx hb dX6_walk_108 (lv_at hl 0 rfl) ?_
                      refine lv_bipush (v := 20) hx hb dX6_walk_110 (by decide) ?_
                      refine lv_icmp_ge (tgt := 135) hx hb dX6_walk_112 (by decide) (fun c_112 => ?_) (fun c_112 => ?_)
                      · skip
                        have hP : va_P D vwCl [(y, .inr (6, [.ref yr, .int mq, .int mn, .ref yw, .ref yc, .int mc, .ref yl, .int 0, .ref ys, .ref yp, .ref ym, .int md, .ref yo, .ref yk, .ref yt, .int mz, .ref yi, .ref yz, .ref yx, .ref yu, .int km, .int kr])), (yw, .inl (cI, 20, .inl v)), (yl, .inl (cI, 72, .inl lf)), (ys, .inl (cI, 20, .inl v))] H := P_cg hP 1 v rfl (fun j hj => hg2 j (by have := (nI_leI (a := 20) (b := i2) (by omega) (by omega)).mp c_112; omega))
                        have hD : va_D A [(y, .inr (6, [.ref yr, .int mq, .int mn, .ref yw, .ref yc, .int mc, .ref yl, .int 0, .ref ys, .ref yp, .ref ym, .int md, .ref yo, .ref yk, .ref yt, .int mz, .ref yi, .ref yz, .ref yx, .ref yu, .int km, .int kr])), (yw, .inl (cI, 20, .inl v)), (yl, .inl (cI, 72, .inl lf)), (ys, .inl (cI, 20, .inl v))] := D_cg hD 1 _ rfl
                        refine lv_sipush (v := (-2000)) hx hb dX6_walk_135 (by decide) ?_
                        refine lv_iload hx hb dX6_walk_138 (lv_at hl 7 rfl) ?_
                        refine lv_isub hx hb dX6_walk_140 ?_
                        exact wrI (w1 := (fun (u : Int32 × Int32 × Int32 × Int32 × (Nat → Int32) × (Nat → Int32)) => [(y, .inr (6, [.ref yr, .int u.1, .int u.2.1, .ref yw, .ref yc, .int u.2.2.1, .ref yl, .int u.2.2.2.1, .ref ys, .ref yp, .ref ym, .int md, .ref yo, .ref yk, .ref yt, .int mz, .ref yi, .ref yz, .ref yx, .ref yu, .int km, .int kr])), (yw, .inl (cI, 20, .inl u.2.2.2.2.1)), (yl, .inl (cI, 72, .inl lf)), (ys, .inl (cI, 20, .inl u.2.2.2.2.2))])) (mq, mn, mc, 0, v, v) hx hb hr hlocks dX6_walk_141 hS (hP.sub [0, 1, 2, 3] rfl) (hD.sub [0, 1, 2, 3] (by decide) rfl) (by have e9 : wk nT lf mq mn v = (-2000 - nI p9, none) := ((if_pos c_8).trans hinv).trans (wG_no (by omega) hpn c_91); unfold wkS wkC; rw [e9]; exact ⟨rfl, rfl, rfl, rfl, rfl, rfl⟩)
                      · skip
                        have hi2N : i2 < 20 := by rcases Nat.lt_or_ge i2 20 with q9 | q9; exact q9; exact absurd (nI_le q9 (by omega)) c_112
                        refine lv_aload_n hx hb dX6_walk_115 rfl (lv_at hl 1 rfl) ?_
                        refine va_get (D := D) (ci := 6) (v := .ref yw) (C := RX6) (T := TX6) (N := 22) hx hb hts (in_X6_walk_X6) hown hK hP 0 rfl rfl 3 (by decide) (hts (.fieldLink RX6 17 "StepsRoundCircleModel" "walkers" "[I") (by decide +kernel)) (fun _ h9 => h9) rfl dX6_walk_116 ?_
                        refine lv_iload hx hb dX6_walk_119 (lv_at hl 0 rfl) ?_
                        refine lv_aload_n hx hb dX6_walk_121 rfl (lv_at hl 1 rfl) ?_
                        refine va_get (D := D) (ci := 6) (v := .ref ys) (C := RX6) (T := TX6) (N := 22) hx hb hts (in_X6_walk_X6) hown hK hP 0 rfl rfl 8 (by decide) (hts (.fieldLink RX6 26 "StepsRoundCircleModel" "spare" "[I") (by decide +kernel)) (fun _ h9 => h9) rfl dX6_walk_122 ?_
                        refine lv_iload hx hb dX6_walk_125 (lv_at hl 0 rfl) ?_
                        refine va_iald hx hb hK hP 3 0 rfl rfl (vp_in_nI (by omega) (by omega)) dX6_walk_127 ?_
                        refine va_iast hx hb hK hP hD hS 1 0 rfl rfl (vp_in_nI (by omega) (by omega)) dX6_walk_128 (fun H locs hP hD hS => ?_)
                        have hP : va_P D vwCl [(y, .inr (6, [.ref yr, .int mq, .int mn, .ref yw, .ref yc, .int mc, .ref yl, .int 0, .ref ys, .ref yp, .ref ym, .int md, .ref yo, .ref yk, .ref yt, .int mz, .ref yi, .ref yz, .ref yx, .ref yu, .int km, .int kr])), (yw, .inl (cI, 20, .inl (upd g2 ((nI i2).toNatClampNeg) (v ((nI i2).toNatClampNeg))))), (yl, .inl (cI, 72, .inl lf)), (ys, .inl (cI, 20, .inl v))] H := hP
                        have hD : va_D A [(y, .inr (6, [.ref yr, .int mq, .int mn, .ref yw, .ref yc, .int mc, .ref yl, .int 0, .ref ys, .ref yp, .ref ym, .int md, .ref yo, .ref yk, .ref yt, .int mz, .ref yi, .ref yz, .ref yx, .ref yu, .int km, .int kr])), (yw, .inl (cI, 20, .inl (upd g2 ((nI i2).toNatClampNeg) (v ((nI i2).toNatClampNeg))))), (yl, .inl (cI, 72, .inl lf)), (ys, .inl (cI, 20, .inl v))] := hD
                        refine lv_iinc (v := (nI i2) + 1) (lv' := [(7, .int ((nI i2) + 1)), (0, .ref y), (1, .int (wF nT lf 72 0)), (2, .int (nI nT)), (3, .int mq), (4, .int mn), (5, .int (nI n9)), (6, .int (nI p9))]) hx hb dX6_walk_129 hl (k := 0) rfl (by rfl) (by decide) rfl (fun ls hl => ?_)
                        refine lv_goto (tgt := 108) hx hb dX6_walk_132 (by decide) ?_
                        exact ih_108 (i2 + 1) (upd g2 ((nI i2).toNatClampNeg) (v ((nI i2).toNatClampNeg))) (by omega) (by intro j hj; rw [nI_clamp (by omega)]; by_cases e9 : j = i2; (· subst e9; exact pk_us); (· rw [pk_un e9]; exact hg2 j (by omega))) (by omega) _ (by first | rfl | exact nI_1 _ | exact nI_0.symm) _ _ (hP.sub [0, 1, 2, 3] rfl) (hD.sub [0, 1, 2, 3] (by decide) rfl) hS ls (lv_sub hl [0, 1, 2, 3, 4, 5, 6, 7] rfl)
                  exact loop_108 21 0 (folV lf p9 sq sw sv) (by omega) (fun j hj => absurd hj (Nat.not_lt_zero j)) (by omega) _ (by first | rfl | exact nI_1 _ | exact nI_0.symm) _ _ (hP.sub [0, 1, 2, 3] rfl) (hD.sub [0, 1, 2, 3] (by decide) rfl) hS ls (lv_sub hl [0, 3, 4, 5, 6, 7, 1, 2] rfl)
          exact loop_79 73 0 0 mq mn v (by omega) (by omega) ⟨hq, hmn, hm5, hws⟩ (fun _ => ⟨72, by omega, c_8⟩) rfl (by omega) _ (by first | rfl | exact nI_1 _ | exact nI_0.symm) _ (by first | rfl | exact nI_1 _ | exact nI_0.symm) _ _ (hP.sub [0, 1, 2, 3] rfl) (hD.sub [0, 1, 2, 3] (by decide) rfl) hS ls (lv_sub hl [1, 0, 2, 3, 4, 5, 6] rfl)
        · skip
          have hiN : i < 20 := by rcases Nat.lt_or_ge i 20 with q9 | q9; exact q9; exact absurd (nI_le q9 (by omega)) c_50
          refine lv_aload_n hx hb dX6_walk_53 rfl (lv_at hl 1 rfl) ?_
          refine va_get (D := D) (ci := 6) (v := .ref ys) (C := RX6) (T := TX6) (N := 22) hx hb hts (in_X6_walk_X6) hown hK hP 0 rfl rfl 8 (by decide) (hts (.fieldLink RX6 26 "StepsRoundCircleModel" "spare" "[I") (by decide +kernel)) (fun _ h9 => h9) rfl dX6_walk_54 ?_
          refine lv_iload hx hb dX6_walk_57 (lv_at hl 0 rfl) ?_
          refine lv_aload_n hx hb dX6_walk_59 rfl (lv_at hl 1 rfl) ?_
          refine va_get (D := D) (ci := 6) (v := .ref yw) (C := RX6) (T := TX6) (N := 22) hx hb hts (in_X6_walk_X6) hown hK hP 0 rfl rfl 3 (by decide) (hts (.fieldLink RX6 17 "StepsRoundCircleModel" "walkers" "[I") (by decide +kernel)) (fun _ h9 => h9) rfl dX6_walk_60 ?_
          refine lv_iload hx hb dX6_walk_63 (lv_at hl 0 rfl) ?_
          refine va_iald hx hb hK hP 1 0 rfl rfl (vp_in_nI (by omega) (by omega)) dX6_walk_65 ?_
          refine va_iast hx hb hK hP hD hS 3 0 rfl rfl (vp_in_nI (by omega) (by omega)) dX6_walk_66 (fun H locs hP hD hS => ?_)
          have hP : va_P D vwCl [(y, .inr (6, [.ref yr, .int mq, .int mn, .ref yw, .ref yc, .int mc, .ref yl, .int 0, .ref ys, .ref yp, .ref ym, .int md, .ref yo, .ref yk, .ref yt, .int mz, .ref yi, .ref yz, .ref yx, .ref yu, .int km, .int kr])), (yw, .inl (cI, 20, .inl v)), (yl, .inl (cI, 72, .inl lf)), (ys, .inl (cI, 20, .inl (upd g ((nI i).toNatClampNeg) (v ((nI i).toNatClampNeg)))))] H := hP
          have hD : va_D A [(y, .inr (6, [.ref yr, .int mq, .int mn, .ref yw, .ref yc, .int mc, .ref yl, .int 0, .ref ys, .ref yp, .ref ym, .int md, .ref yo, .ref yk, .ref yt, .int mz, .ref yi, .ref yz, .ref yx, .ref yu, .int km, .int kr])), (yw, .inl (cI, 20, .inl v)), (yl, .inl (cI, 72, .inl lf)), (ys, .inl (cI, 20, .inl (upd g ((nI i).toNatClampNeg) (v ((nI i).toNatClampNeg)))))] := hD
          refine lv_iinc (v := (nI i) + 1) (lv' := [(5, .int ((nI i) + 1)), (0, .ref y), (1, .int (wF nT lf 72 0)), (2, .int (nI nT)), (3, .int mq), (4, .int mn)]) hx hb dX6_walk_67 hl (k := 0) rfl (by rfl) (by decide) rfl (fun ls hl => ?_)
          refine lv_goto (tgt := 46) hx hb dX6_walk_70 (by decide) ?_
          exact ih_46 (i + 1) (upd g ((nI i).toNatClampNeg) (v ((nI i).toNatClampNeg))) (by omega) (by intro j hj; rw [nI_clamp (by omega)]; by_cases e9 : j = i; (· subst e9; exact pk_us); (· rw [pk_un e9]; exact hg j (by omega))) (by omega) _ (by first | rfl | exact nI_1 _ | exact nI_0.symm) _ _ (hP.sub [0, 1, 2, 3] rfl) (hD.sub [0, 1, 2, 3] (by decide) rfl) hS ls (lv_sub hl [0, 1, 2, 3, 4, 5] rfl)
    exact loop_46 21 0 sf9 (by omega) (fun j hj => absurd hj (Nat.not_lt_zero j)) (by omega) _ (by first | rfl | exact nI_1 _ | exact nI_0.symm) _ _ (hP.sub [0, 1, 2, 3] rfl) (hD.sub [0, 1, 2, 3] (by decide) rfl) hS ls (lv_sub hl [0, 5, 4, 3, 2, 1] rfl)
  · skip
    refine lv_aload_n hx hb dX6_walk_11 rfl (lv_at hl 1 rfl) ?_
    refine lv_iconst (v := 0) hx hb dX6_walk_12 (by decide) ?_
    refine va_put (D := D) (ci := 6) (v := .int 0) (ty := .int) (C := RX6) (T := TX6) (N := 22) hx hb hts (in_X6_walk_X6) tyX6 tyX6_ok nmX6 hown hK hP hD hS 0 rfl rfl 7 (by decide) (hts (.fieldLink RX6 122 "StepsRoundCircleModel" "lettered" "I") (by decide +kernel)) (fun _ h9 => h9) rfl (by decide +kernel) rfl rfl (Nat.le_of_ble_eq_true rfl) dX6_walk_13 (fun H locs hP hD hS => ?_)
    have hP : va_P D vwCl [(y, .inr (6, [.ref yr, .int mq, .int mn, .ref yw, .ref yc, .int mc, .ref yl, .int 0, .ref ys, .ref yp, .ref ym, .int md, .ref yo, .ref yk, .ref yt, .int mz, .ref yi, .ref yz, .ref yx, .ref yu, .int km, .int kr])), (yw, .inl (cI, 20, .inl v)), (yl, .inl (cI, 72, .inl lf)), (ys, .inl (cI, 20, .inl sf9))] H := hP
    have hD : va_D A [(y, .inr (6, [.ref yr, .int mq, .int mn, .ref yw, .ref yc, .int mc, .ref yl, .int 0, .ref ys, .ref yp, .ref ym, .int md, .ref yo, .ref yk, .ref yt, .int mz, .ref yi, .ref yz, .ref yx, .ref yu, .int km, .int kr])), (yw, .inl (cI, 20, .inl v)), (yl, .inl (cI, 72, .inl lf)), (ys, .inl (cI, 20, .inl sf9))] := hD
    refine lv_sipush (v := (-1000)) hx hb dX6_walk_16 (by decide) ?_
    refine lv_iload_n hx hb dX6_walk_19 rfl (lv_at hl 0 rfl) ?_
    refine lv_isub hx hb dX6_walk_20 ?_
    exact wrI (w1 := (fun (u : Int32 × Int32 × Int32 × Int32 × (Nat → Int32) × (Nat → Int32)) => [(y, .inr (6, [.ref yr, .int u.1, .int u.2.1, .ref yw, .ref yc, .int u.2.2.1, .ref yl, .int u.2.2.2.1, .ref ys, .ref yp, .ref ym, .int md, .ref yo, .ref yk, .ref yt, .int mz, .ref yi, .ref yz, .ref yx, .ref yu, .int km, .int kr])), (yw, .inl (cI, 20, .inl u.2.2.2.2.1)), (yl, .inl (cI, 72, .inl lf)), (ys, .inl (cI, 20, .inl u.2.2.2.2.2))])) (mq, mn, mc, 0, v, sf9) hx hb hr hlocks dX6_walk_21 hS (hP.sub [0, 1, 2, 3] rfl) (hD.sub [0, 1, 2, 3] (by decide) rfl) (by have e9 : wk nT lf mq mn v = (-1000 - wF nT lf 72 0, none) := if_neg c_8; unfold wkS wkC; rw [e9]; exact ⟨rfl, rfl, rfl, rfl, rfl, rfl⟩)
