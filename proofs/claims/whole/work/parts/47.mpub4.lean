theorem in_X6_change_X6 : ∀ w ∈ wsX60, w ∈ wsX6_change := by decide +kernel
theorem in_X6_lengthOf_X6 : ∀ w ∈ wsX60, w ∈ wsX6_lengthOf := by decide +kernel
theorem in_X6_undo_X6 : ∀ w ∈ wsX60, w ∈ wsX6_undo := by decide +kernel
set_option maxHeartbeats 4000000 in
set_option maxRecDepth 100000 in
theorem c_X6_change (l : Launch) (D : va_G) (cI cZ cR : ClassId) (y yr yw yc yl ys yp ym yo yk yt yi yz yx yu : Nat) (mq mn mc me md mz km kr : Int32) (G : Nat → Int32) (v : Nat → Int32) (cf : Nat → Int32) (w k x0 : Int32) (Z : Nat) (hq : okQ mq) (hmn : 0 ≤ mn) (hm5 : mn ≤ 5) (hws : ∀ w, 0 ≤ w ∧ w < mn → okW mq v w) (hmz : mc = nI Z) (hZ : Z ≤ 16) (sz : Nat) : Met l yX6_change wsX6_change ({ frames := 2, cells := 0, slots := 0, locals := 46 }) (PcW D cI cZ cR [.ref y, .int w, .int k, .int x0] [(y, .inr (6, [.ref yr, .int mq, .int mn, .ref yw, .ref yc, .int mc, .ref yl, .int me, .ref ys, .ref yp, .ref ym, .int md, .ref yo, .ref yk, .ref yt, .int mz, .ref yi, .ref yz, .ref yx, .ref yu, .int km, .int kr])), (yr, .inl (cI, 7, .inl G)), (yw, .inl (cI, 20, .inl v)), (yc, .inl (cI, 48, .inl cf))] sz) (va_Qi (fun (res : Int32) (u : Int32 × (Nat → Int32) × (Nat → Int32) × (Nat → Int32)) => res = (if rf_chg mq mn w k x0 = 0 then rg_val v w k else rf_chg mq mn w k x0) ∧ u.1 = (if rf_chg mq mn w k x0 = 0 then ch_z mc + 1 else mc) ∧ u.2.1 = (if rf_chg mq mn w k x0 = 0 then G else md_bump G (rf_chg mq mn w k x0)) ∧ u.2.2.1 = (if rf_chg mq mn w k x0 = 0 then rg_set v w k x0 else v) ∧ u.2.2.2 = (if rf_chg mq mn w k x0 = 0 then ch_keep mc cf w k (rg_val v w k) else cf)) (Bw D (fun (u : Int32 × (Nat → Int32) × (Nat → Int32) × (Nat → Int32)) => [(y, .inr (6, [.ref yr, .int mq, .int mn, .ref yw, .ref yc, .int u.1, .ref yl, .int me, .ref ys, .ref yp, .ref ym, .int md, .ref yo, .ref yk, .ref yt, .int mz, .ref yi, .ref yz, .ref yx, .ref yu, .int km, .int kr])), (yr, .inl (cI, 7, .inl u.2.1)), (yw, .inl (cI, 20, .inl u.2.2.1)), (yc, .inl (cI, 48, .inl u.2.2.2))]) (va_A [(y, .inr (6, [.ref yr, .int mq, .int mn, .ref yw, .ref yc, .int mc, .ref yl, .int me, .ref ys, .ref yp, .ref ym, .int md, .ref yo, .ref yk, .ref yt, .int mz, .ref yi, .ref yz, .ref yx, .ref yu, .int km, .int kr])), (yr, .inl (cI, 7, .inl G)), (yw, .inl (cI, 20, .inl v)), (yc, .inl (cI, 48, .inl cf))] sz)) (va_A [(y, .inr (6, [.ref yr, .int mq, .int mn, .ref yw, .ref yc, .int mc, .ref yl, .int me, .ref ys, .ref yp, .ref ym, .int md, .ref yo, .ref yk, .ref yt, .int mz, .ref yi, .ref yz, .ref yx, .ref yu, .int km, .int kr])), (yr, .inl (cI, 7, .inl G)), (yw, .inl (cI, 20, .inl v)), (yc, .inl (cI, 48, .inl cf))] sz)) 0 0 (va_A [(y, .inr (6, [.ref yr, .int mq, .int mn, .ref yw, .ref yc, .int mc, .ref yl, .int me, .ref ys, .ref yp, .ref ym, .int md, .ref yo, .ref yk, .ref yt, .int mz, .ref yi, .ref yz, .ref yx, .ref yu, .int km, .int kr])), (yr, .inl (cI, 7, .inl G)), (yw, .inl (cI, 20, .inl v)), (yc, .inl (cI, 48, .inl cf))] sz) := by
  refine Met.ofW (cc := cX6_change) (maxL := 6) (ret := (some .int)) (by decide) rfl ?_
  intro p e s m args below meth c s₁ B hml hv
  obtain ⟨rfl, hsz, hP, hK, hD0, hN⟩ := hv
  have hx := B.exec
  have hb := B.bytes
  have hr := B.returns
  have hts := atoms_spec (ws := wsX6_change) B.pre
  have hown : s.vm.findClass RX6 = some m.cls := findClass_of_methodNamed B.named
  have hlocks := B.notSynchronized
  subst hsz
  have hD := hD0.self (sz := s.heap.size)
  generalize hAe : va_A [(y, .inr (6, [.ref yr, .int mq, .int mn, .ref yw, .ref yc, .int mc, .ref yl, .int me, .ref ys, .ref yp, .ref ym, .int md, .ref yo, .ref yk, .ref yt, .int mz, .ref yi, .ref yz, .ref yx, .ref yu, .int km, .int kr])), (yr, .inl (cI, 7, .inl G)), (yw, .inl (cI, 20, .inl v)), (yc, .inl (cI, 48, .inl cf))] s.heap.size = A at hD ⊢
  have hA : ∀ q : Nat, s.heap.size ≤ q → A q := fun q h => by rw [← hAe]; exact Or.inr h
  have hS : va_S A s.heap s.heap [] := va_S.rf
  have hP : va_P D vwCl [(y, .inr (6, [.ref yr, .int mq, .int mn, .ref yw, .ref yc, .int mc, .ref yl, .int me, .ref ys, .ref yp, .ref ym, .int md, .ref yo, .ref yk, .ref yt, .int mz, .ref yi, .ref yz, .ref yx, .ref yu, .int km, .int kr])), (yr, .inl (cI, 7, .inl G)), (yw, .inl (cI, 20, .inl v)), (yc, .inl (cI, 48, .inl cf))] s.heap := hP
  have hl := lv_entry ([.ref y, .int w, .int k, .int x0]) (n := 6) (Nat.le_of_ble_eq_true rfl)
  rw [lg_entry_eq]
  generalize (lg_sl ([.ref y, .int w, .int k, .int x0]) ++ List.replicate (6 - (lg_sl ([.ref y, .int w, .int k, .int x0])).length) Slot.unset).toArray = ls at hl ⊢
  have hl : lv_has ls 6 [(0, .ref y), (1, .int w), (2, .int k), (3, .int x0)] := hl
  refine lv_aload_n hx hb dX6_change_0 rfl (lv_at hl 0 rfl) ?_
  refine lv_iload_n hx hb dX6_change_1 rfl (lv_at hl 1 rfl) ?_
  refine rdV (As := [.int w]) (rest := []) ⟨hx, hb, hml, hown, hts⟩ (c_X6_isWalker l D cI cZ cR y yr yw yc yl ys yp ym yo yk yt yi yz yx yu mq mn mc me md mz km kr w (by first | assumption | omega)) (cwV 1 hts gX6_change_X6_isWalker rfl rfl rfl (by decide +kernel) ⟨Nat.le_of_ble_eq_true rfl, Nat.le_of_ble_eq_true rfl⟩) hK hN hP 0 6 rfl rfl rfl [0] rfl rfl hl.1 rfl (Nat.le_of_ble_eq_true rfl) dX6_change_2 ⟨Nat.zero_le _, Nat.zero_le _⟩ ?_
  refine lv_if_ne (tgt := 14) hx hb dX6_change_5 (by decide) (fun c_5 => ?_) (fun c_5 => ?_)
  · skip
    have c_5 := bi_ne0.mp c_5
    refine lv_iload_n hx hb dX6_change_14 rfl (lv_at hl 2 rfl) ?_
    refine lv_i2l hx hb dX6_change_15 rfl ?_
    refine lv_lconst (v := 0) hx hb dX6_change_16 (by decide) ?_
    refine lv_ldc2 (v := 3) hx hb hown (hts (.constantLong RX6 93 3) (by decide +kernel)) dX6_change_17 ?_
    refine rdS (As := [.long k.toInt64, .long 0, .long 3]) (rest := []) ⟨hx, hb, hml, hown, hts⟩ (c_X6_in l D cI cZ cR k.toInt64 0 3 ) (va_cwS 3 hts gX6_change_X6_in rfl rfl rfl (by decide +kernel) ⟨Nat.le_of_ble_eq_true rfl, Nat.le_of_ble_eq_true rfl⟩) hK hN hP [] rfl rfl hl.1 rfl (Nat.le_of_ble_eq_true rfl) dX6_change_20 ⟨Nat.zero_le _, Nat.zero_le _⟩ ?_
    refine lv_if_ne (tgt := 33) hx hb dX6_change_23 (by decide) (fun c_23 => ?_) (fun c_23 => ?_)
    · skip
      have c_23 := bi_ne0.mp c_23
      have hk9 := (md_w3 k).mp c_23
      have e0 := chg_r (q := mq) (x := x0) c_5 hk9
      refine lv_iload_n hx hb dX6_change_33 rfl (lv_at hl 3 rfl) ?_
      refine lv_iconst (v := 0) hx hb dX6_change_34 (by decide) ?_
      refine lv_iload_n hx hb dX6_change_35 rfl (lv_at hl 2 rfl) ?_
      refine lv_aload_n hx hb dX6_change_36 rfl (lv_at hl 0 rfl) ?_
      refine va_get (D := D) (ci := 6) (v := .int mq) (C := RX6) (T := TX6) (N := 22) hx hb hts (in_X6_change_X6) hown hK hP 0 rfl rfl 1 (by decide) (hts (.fieldLink RX6 13 "StepsRoundCircleModel" "round" "I") (by decide +kernel)) (fun _ h9 => h9) rfl dX6_change_37 ?_
      refine rdS (As := [.int k, .int mq]) (rest := [.int 0, .int x0]) ⟨hx, hb, hml, hown, hts⟩ (c_X6_most l D cI cZ cR k mq ) (va_cwS 2 hts gX6_change_X6_most rfl rfl rfl (by decide +kernel) ⟨Nat.le_of_ble_eq_true rfl, Nat.le_of_ble_eq_true rfl⟩) hK hN hP [] rfl rfl hl.1 rfl (Nat.le_of_ble_eq_true rfl) dX6_change_40 ⟨Nat.zero_le _, Nat.zero_le _⟩ ?_
      refine rdS (As := [.int x0, .int 0, .int (rg_gr mq k)]) (rest := []) ⟨hx, hb, hml, hown, hts⟩ (c_X6_range l D cI cZ cR x0 0 (rg_gr mq k) ) (va_cwS 3 hts gX6_change_X6_range rfl rfl rfl (by decide +kernel) ⟨Nat.le_of_ble_eq_true rfl, Nat.le_of_ble_eq_true rfl⟩) hK hN hP [] rfl rfl hl.1 rfl (Nat.le_of_ble_eq_true rfl) dX6_change_43 ⟨Nat.zero_le _, Nat.zero_le _⟩ ?_
      refine lv_istore (lv' := [(4, .int (rng x0 0 (rg_gr mq k))), (0, .ref y), (1, .int w), (2, .int k), (3, .int x0)]) hx hb dX6_change_46 hl (by decide) rfl (fun ls hl => ?_)
      refine lv_iload hx hb dX6_change_48 (lv_at hl 0 rfl) ?_
      refine lv_if_eq (tgt := 60) hx hb dX6_change_50 (by decide) (fun c_50 => ?_) (fun c_50 => ?_)
      · skip
        have eR : rf_chg mq mn w k x0 = 0 := e0.trans c_50
        refine lv_aload_n hx hb dX6_change_60 rfl (lv_at hl 1 rfl) ?_
        refine va_get (D := D) (ci := 6) (v := .int mc) (C := RX6) (T := TX6) (N := 22) hx hb hts (in_X6_change_X6) hown hK hP 0 rfl rfl 5 (by decide) (hts (.fieldLink RX6 102 "StepsRoundCircleModel" "changes" "I") (by decide +kernel)) (fun _ h9 => h9) rfl dX6_change_61 ?_
        refine lv_bipush (v := 16) hx hb dX6_change_64 (by decide) ?_
        refine lv_icmp_ne (tgt := 111) hx hb dX6_change_66 (by decide) (fun c_66 => ?_) (fun c_66 => ?_)
        · skip
          have hZ9 : Z < 16 := by rcases Nat.lt_or_ge Z 16 with q9 | q9; exact q9; exact absurd (by rw [hmz, show Z = 16 by omega]; rfl) c_66
          refine lv_aload_n hx hb dX6_change_111 rfl (lv_at hl 1 rfl) ?_
          refine lv_iload_n hx hb dX6_change_112 rfl (lv_at hl 2 rfl) ?_
          refine lv_iload_n hx hb dX6_change_113 rfl (lv_at hl 3 rfl) ?_
          refine rdV (As := [.int w, .int k]) (rest := []) ⟨hx, hb, hml, hown, hts⟩ (c_X6_at l D cI cZ cR y yr yw yc yl ys yp ym yo yk yt yi yz yx yu mq mn mc me md mz km kr v w k (w5 hm5 c_5) hk9) (cwV 2 hts gX6_change_X6_at rfl rfl rfl (by decide +kernel) ⟨Nat.le_of_ble_eq_true rfl, Nat.le_of_ble_eq_true rfl⟩) hK hN hP 0 6 rfl rfl rfl [0, 2] rfl rfl hl.1 rfl (Nat.le_of_ble_eq_true rfl) dX6_change_114 ⟨Nat.zero_le _, Nat.zero_le _⟩ ?_
          refine lv_istore (lv' := [(5, .int (rg_val v w k)), (4, .int (rng x0 0 (rg_gr mq k))), (0, .ref y), (1, .int w), (2, .int k), (3, .int x0)]) hx hb dX6_change_117 hl (by decide) rfl (fun ls hl => ?_)
          refine lv_aload_n hx hb dX6_change_119 rfl (lv_at hl 2 rfl) ?_
          refine va_get (D := D) (ci := 6) (v := .ref yc) (C := RX6) (T := TX6) (N := 22) hx hb hts (in_X6_change_X6) hown hK hP 0 rfl rfl 4 (by decide) (hts (.fieldLink RX6 20 "StepsRoundCircleModel" "changed" "[I") (by decide +kernel)) (fun _ h9 => h9) rfl dX6_change_120 ?_
          refine lv_iconst (v := 3) hx hb dX6_change_123 (by decide) ?_
          refine lv_aload_n hx hb dX6_change_124 rfl (lv_at hl 2 rfl) ?_
          refine va_get (D := D) (ci := 6) (v := .int mc) (C := RX6) (T := TX6) (N := 22) hx hb hts (in_X6_change_X6) hown hK hP 0 rfl rfl 5 (by decide) (hts (.fieldLink RX6 102 "StepsRoundCircleModel" "changes" "I") (by decide +kernel)) (fun _ h9 => h9) rfl dX6_change_125 ?_
          refine lv_imul hx hb dX6_change_128 ?_
          refine lv_topi (fun z_129 hz_129 => ?_)
          have hz_129 : z_129 = nI (3 * Z) := hz_129.trans (by rw [hmz]; exact t3 _)
          subst hz_129
          refine lv_iload_n hx hb dX6_change_129 rfl (lv_at hl 3 rfl) ?_
          refine va_iast hx hb hK hP hD hS 3 0 rfl rfl (vp_in_nI (by omega) (by omega)) dX6_change_130 (fun H locs hP hD hS => ?_)
          have hP : va_P D vwCl [(y, .inr (6, [.ref yr, .int mq, .int mn, .ref yw, .ref yc, .int mc, .ref yl, .int me, .ref ys, .ref yp, .ref ym, .int md, .ref yo, .ref yk, .ref yt, .int mz, .ref yi, .ref yz, .ref yx, .ref yu, .int km, .int kr])), (yr, .inl (cI, 7, .inl G)), (yw, .inl (cI, 20, .inl v)), (yc, .inl (cI, 48, .inl (upd cf ((nI (3 * Z)).toNatClampNeg) w)))] H := hP
          have hD : va_D A [(y, .inr (6, [.ref yr, .int mq, .int mn, .ref yw, .ref yc, .int mc, .ref yl, .int me, .ref ys, .ref yp, .ref ym, .int md, .ref yo, .ref yk, .ref yt, .int mz, .ref yi, .ref yz, .ref yx, .ref yu, .int km, .int kr])), (yr, .inl (cI, 7, .inl G)), (yw, .inl (cI, 20, .inl v)), (yc, .inl (cI, 48, .inl (upd cf ((nI (3 * Z)).toNatClampNeg) w)))] := hD
          refine lv_aload_n hx hb dX6_change_131 rfl (lv_at hl 2 rfl) ?_
          refine va_get (D := D) (ci := 6) (v := .ref yc) (C := RX6) (T := TX6) (N := 22) hx hb hts (in_X6_change_X6) hown hK hP 0 rfl rfl 4 (by decide) (hts (.fieldLink RX6 20 "StepsRoundCircleModel" "changed" "[I") (by decide +kernel)) (fun _ h9 => h9) rfl dX6_change_132 ?_
          refine lv_iconst (v := 3) hx hb dX6_change_135 (by decide) ?_
          refine lv_aload_n hx hb dX6_change_136 rfl (lv_at hl 2 rfl) ?_
          refine va_get (D := D) (ci := 6) (v := .int mc) (C := RX6) (T := TX6) (N := 22) hx hb hts (in_X6_change_X6) hown hK hP 0 rfl rfl 5 (by decide) (hts (.fieldLink RX6 102 "StepsRoundCircleModel" "changes" "I") (by decide +kernel)) (fun _ h9 => h9) rfl dX6_change_137 ?_
          refine lv_imul hx hb dX6_change_140 ?_
          refine lv_iconst (v := 1) hx hb dX6_change_141 (by decide) ?_
          refine lv_iadd hx hb dX6_change_142 ?_
          refine lv_topi (fun z_143 hz_143 => ?_)
          have hz_143 : z_143 = nI (3 * Z + 1) := hz_143.trans (by rw [hmz, t3]; exact nI_add _ 1)
          subst hz_143
          refine lv_iload_n hx hb dX6_change_143 rfl (lv_at hl 4 rfl) ?_
          refine va_iast hx hb hK hP hD hS 3 0 rfl rfl (vp_in_nI (by omega) (by omega)) dX6_change_144 (fun H locs hP hD hS => ?_)
          have hP : va_P D vwCl [(y, .inr (6, [.ref yr, .int mq, .int mn, .ref yw, .ref yc, .int mc, .ref yl, .int me, .ref ys, .ref yp, .ref ym, .int md, .ref yo, .ref yk, .ref yt, .int mz, .ref yi, .ref yz, .ref yx, .ref yu, .int km, .int kr])), (yr, .inl (cI, 7, .inl G)), (yw, .inl (cI, 20, .inl v)), (yc, .inl (cI, 48, .inl (upd (upd cf ((nI (3 * Z)).toNatClampNeg) w) ((nI (3 * Z + 1)).toNatClampNeg) k)))] H := hP
          have hD : va_D A [(y, .inr (6, [.ref yr, .int mq, .int mn, .ref yw, .ref yc, .int mc, .ref yl, .int me, .ref ys, .ref yp, .ref ym, .int md, .ref yo, .ref yk, .ref yt, .int mz, .ref yi, .ref yz, .ref yx, .ref yu, .int km, .int kr])), (yr, .inl (cI, 7, .inl G)), (yw, .inl (cI, 20, .inl v)), (yc, .inl (cI, 48, .inl (upd (upd cf ((nI (3 * Z)).toNatClampNeg) w) ((nI (3 * Z + 1)).toNatClampNeg) k)))] := hD
          refine lv_aload_n hx hb dX6_change_145 rfl (lv_at hl 2 rfl) ?_
          refine va_get (D := D) (ci := 6) (v := .ref yc) (C := RX6) (T := TX6) (N := 22) hx hb hts (in_X6_change_X6) hown hK hP 0 rfl rfl 4 (by decide) (hts (.fieldLink RX6 20 "StepsRoundCircleModel" "changed" "[I") (by decide +kernel)) (fun _ h9 => h9) rfl dX6_change_146 ?_
          refine lv_iconst (v := 3) hx hb dX6_change_149 (by decide) ?_
          refine lv_aload_n hx hb dX6_change_150 rfl (lv_at hl 2 rfl) ?_
          refine va_get (D := D) (ci := 6) (v := .int mc) (C := RX6) (T := TX6) (N := 22) hx hb hts (in_X6_change_X6) hown hK hP 0 rfl rfl 5 (by decide) (hts (.fieldLink RX6 102 "StepsRoundCircleModel" "changes" "I") (by decide +kernel)) (fun _ h9 => h9) rfl dX6_change_151 ?_
          refine lv_imul hx hb dX6_change_154 ?_
          refine lv_iconst (v := 2) hx hb dX6_change_155 (by decide) ?_
          refine lv_iadd hx hb dX6_change_156 ?_
          refine lv_topi (fun z_157 hz_157 => ?_)
          have hz_157 : z_157 = nI (3 * Z + 2) := hz_157.trans (by rw [hmz, t3]; exact nI_add _ 2)
          subst hz_157
          refine lv_iload hx hb dX6_change_157 (lv_at hl 0 rfl) ?_
          refine va_iast hx hb hK hP hD hS 3 0 rfl rfl (vp_in_nI (by omega) (by omega)) dX6_change_159 (fun H locs hP hD hS => ?_)
          have hP : va_P D vwCl [(y, .inr (6, [.ref yr, .int mq, .int mn, .ref yw, .ref yc, .int mc, .ref yl, .int me, .ref ys, .ref yp, .ref ym, .int md, .ref yo, .ref yk, .ref yt, .int mz, .ref yi, .ref yz, .ref yx, .ref yu, .int km, .int kr])), (yr, .inl (cI, 7, .inl G)), (yw, .inl (cI, 20, .inl v)), (yc, .inl (cI, 48, .inl (upd (upd (upd cf ((nI (3 * Z)).toNatClampNeg) w) ((nI (3 * Z + 1)).toNatClampNeg) k) ((nI (3 * Z + 2)).toNatClampNeg) (rg_val v w k))))] H := hP
          have hD : va_D A [(y, .inr (6, [.ref yr, .int mq, .int mn, .ref yw, .ref yc, .int mc, .ref yl, .int me, .ref ys, .ref yp, .ref ym, .int md, .ref yo, .ref yk, .ref yt, .int mz, .ref yi, .ref yz, .ref yx, .ref yu, .int km, .int kr])), (yr, .inl (cI, 7, .inl G)), (yw, .inl (cI, 20, .inl v)), (yc, .inl (cI, 48, .inl (upd (upd (upd cf ((nI (3 * Z)).toNatClampNeg) w) ((nI (3 * Z + 1)).toNatClampNeg) k) ((nI (3 * Z + 2)).toNatClampNeg) (rg_val v w k))))] := hD
          refine lv_aload_n hx hb dX6_change_160 rfl (lv_at hl 2 rfl) ?_
          refine lv_dup hx hb dX6_change_161 rfl ?_
          refine va_get (D := D) (ci := 6) (v := .int mc) (C := RX6) (T := TX6) (N := 22) hx hb hts (in_X6_change_X6) hown hK hP 0 rfl rfl 5 (by decide) (hts (.fieldLink RX6 102 "StepsRoundCircleModel" "changes" "I") (by decide +kernel)) (fun _ h9 => h9) rfl dX6_change_162 ?_
          refine lv_iconst (v := 1) hx hb dX6_change_165 (by decide) ?_
          refine lv_iadd hx hb dX6_change_166 ?_
          refine va_put (D := D) (ci := 6) (v := .int (mc + 1)) (ty := .int) (C := RX6) (T := TX6) (N := 22) hx hb hts (in_X6_change_X6) tyX6 tyX6_ok nmX6 hown hK hP hD hS 0 rfl rfl 5 (by decide) (hts (.fieldLink RX6 102 "StepsRoundCircleModel" "changes" "I") (by decide +kernel)) (fun _ h9 => h9) rfl (by decide +kernel) rfl rfl (Nat.le_of_ble_eq_true rfl) dX6_change_167 (fun H locs hP hD hS => ?_)
          have hP : va_P D vwCl [(y, .inr (6, [.ref yr, .int mq, .int mn, .ref yw, .ref yc, .int (mc + 1), .ref yl, .int me, .ref ys, .ref yp, .ref ym, .int md, .ref yo, .ref yk, .ref yt, .int mz, .ref yi, .ref yz, .ref yx, .ref yu, .int km, .int kr])), (yr, .inl (cI, 7, .inl G)), (yw, .inl (cI, 20, .inl v)), (yc, .inl (cI, 48, .inl (upd (upd (upd cf ((nI (3 * Z)).toNatClampNeg) w) ((nI (3 * Z + 1)).toNatClampNeg) k) ((nI (3 * Z + 2)).toNatClampNeg) (rg_val v w k))))] H := hP
          have hD : va_D A [(y, .inr (6, [.ref yr, .int mq, .int mn, .ref yw, .ref yc, .int (mc + 1), .ref yl, .int me, .ref ys, .ref yp, .ref ym, .int md, .ref yo, .ref yk, .ref yt, .int mz, .ref yi, .ref yz, .ref yx, .ref yu, .int km, .int kr])), (yr, .inl (cI, 7, .inl G)), (yw, .inl (cI, 20, .inl v)), (yc, .inl (cI, 48, .inl (upd (upd (upd cf ((nI (3 * Z)).toNatClampNeg) w) ((nI (3 * Z + 1)).toNatClampNeg) k) ((nI (3 * Z + 2)).toNatClampNeg) (rg_val v w k))))] := hD
          refine lv_aload_n hx hb dX6_change_170 rfl (lv_at hl 2 rfl) ?_
          refine va_get (D := D) (ci := 6) (v := .ref yw) (C := RX6) (T := TX6) (N := 22) hx hb hts (in_X6_change_X6) hown hK hP 0 rfl rfl 3 (by decide) (hts (.fieldLink RX6 17 "StepsRoundCircleModel" "walkers" "[I") (by decide +kernel)) (fun _ h9 => h9) rfl dX6_change_171 ?_
          refine lv_iconst (v := 4) hx hb dX6_change_174 (by decide) ?_
          refine lv_iload_n hx hb dX6_change_175 rfl (lv_at hl 3 rfl) ?_
          refine lv_imul hx hb dX6_change_176 ?_
          refine lv_iload_n hx hb dX6_change_177 rfl (lv_at hl 4 rfl) ?_
          refine lv_iadd hx hb dX6_change_178 ?_
          refine lv_iload_n hx hb dX6_change_179 rfl (lv_at hl 5 rfl) ?_
          refine va_iast hx hb hK hP hD hS 2 0 rfl rfl (at_vp (w5 hm5 c_5) hk9) dX6_change_180 (fun H locs hP hD hS => ?_)
          have hP : va_P D vwCl [(y, .inr (6, [.ref yr, .int mq, .int mn, .ref yw, .ref yc, .int (mc + 1), .ref yl, .int me, .ref ys, .ref yp, .ref ym, .int md, .ref yo, .ref yk, .ref yt, .int mz, .ref yi, .ref yz, .ref yx, .ref yu, .int km, .int kr])), (yr, .inl (cI, 7, .inl G)), (yw, .inl (cI, 20, .inl (upd v (((4 * w) + k).toNatClampNeg) x0))), (yc, .inl (cI, 48, .inl (upd (upd (upd cf ((nI (3 * Z)).toNatClampNeg) w) ((nI (3 * Z + 1)).toNatClampNeg) k) ((nI (3 * Z + 2)).toNatClampNeg) (rg_val v w k))))] H := hP
          have hD : va_D A [(y, .inr (6, [.ref yr, .int mq, .int mn, .ref yw, .ref yc, .int (mc + 1), .ref yl, .int me, .ref ys, .ref yp, .ref ym, .int md, .ref yo, .ref yk, .ref yt, .int mz, .ref yi, .ref yz, .ref yx, .ref yu, .int km, .int kr])), (yr, .inl (cI, 7, .inl G)), (yw, .inl (cI, 20, .inl (upd v (((4 * w) + k).toNatClampNeg) x0))), (yc, .inl (cI, 48, .inl (upd (upd (upd cf ((nI (3 * Z)).toNatClampNeg) w) ((nI (3 * Z + 1)).toNatClampNeg) k) ((nI (3 * Z + 2)).toNatClampNeg) (rg_val v w k))))] := hD
          refine lv_iload hx hb dX6_change_181 (lv_at hl 0 rfl) ?_
          exact wrI (w1 := (fun (u : Int32 × (Nat → Int32) × (Nat → Int32) × (Nat → Int32)) => [(y, .inr (6, [.ref yr, .int mq, .int mn, .ref yw, .ref yc, .int u.1, .ref yl, .int me, .ref ys, .ref yp, .ref ym, .int md, .ref yo, .ref yk, .ref yt, .int mz, .ref yi, .ref yz, .ref yx, .ref yu, .int km, .int kr])), (yr, .inl (cI, 7, .inl u.2.1)), (yw, .inl (cI, 20, .inl u.2.2.1)), (yc, .inl (cI, 48, .inl u.2.2.2))])) ((mc + 1), G, (upd v (((4 * w) + k).toNatClampNeg) x0), (upd (upd (upd cf ((nI (3 * Z)).toNatClampNeg) w) ((nI (3 * Z + 1)).toNatClampNeg) k) ((nI (3 * Z + 2)).toNatClampNeg) (rg_val v w k))) hx hb hr hlocks dX6_change_183 hS (hP.sub [0, 1, 2, 3] rfl) (hD.sub [0, 1, 2, 3] (by decide) rfl) (by rw [if_pos eR, if_pos eR, if_pos eR, if_pos eR, if_pos eR]; refine ⟨rfl, ?_, rfl, at_setW v (w5 hm5 c_5) hk9 x0, ?_⟩; (· rw [hmz, (ch_keepN (cf := cf) (x := w) (y := k) (w := rg_val v w k) hZ9).2]); (· rw [hmz, (ch_keepN hZ9).1, nI_clamp (by omega), nI_clamp (by omega), nI_clamp (by omega)]))
        · skip
          refine lv_iconst (v := 0) hx hb dX6_change_69 (by decide) ?_
          refine lv_istore (lv' := [(5, .int 0), (4, .int (rng x0 0 (rg_gr mq k))), (0, .ref y), (1, .int w), (2, .int k), (3, .int x0)]) hx hb dX6_change_70 hl (by decide) rfl (fun ls hl => ?_)
          have loop_72 : ∀ (fuel : Nat), ∀ (i : Nat), ∀ (g : Nat → Int32), (i ≤ 45) → (∀ j, j < 48 → g j = if j < i then cf (j + 3) else cf j) → (46 ≤ i + fuel) → ∀ (y5 : Int32), y5 = nI i → ∀ (H : Heap) (locs : List Loc), va_P D vwCl [(y, .inr (6, [.ref yr, .int mq, .int mn, .ref yw, .ref yc, .int mc, .ref yl, .int me, .ref ys, .ref yp, .ref ym, .int md, .ref yo, .ref yk, .ref yt, .int mz, .ref yi, .ref yz, .ref yx, .ref yu, .int km, .int kr])), (yr, .inl (cI, 7, .inl G)), (yw, .inl (cI, 20, .inl v)), (yc, .inl (cI, 48, .inl g))] H → va_D A [(y, .inr (6, [.ref yr, .int mq, .int mn, .ref yw, .ref yc, .int mc, .ref yl, .int me, .ref ys, .ref yp, .ref ym, .int md, .ref yo, .ref yk, .ref yt, .int mz, .ref yi, .ref yz, .ref yx, .ref yu, .int km, .int kr])), (yr, .inl (cI, 7, .inl G)), (yw, .inl (cI, 20, .inl v)), (yc, .inl (cI, 48, .inl g))] → va_S A s.heap H locs → ∀ (ls : Array Slot), lv_has ls 6 [(5, .int y5), (0, .ref y), (1, .int w), (2, .int k), (3, .int x0), (4, .int (rng x0 0 (rg_gr mq k)))] → W p l e (headSpec wsX6_change ({ frames := 2, cells := 0, slots := 0, locals := 46 })).room s m ([.ref y, .int w, .int k, .int x0] : List Value).toArray below meth c H locs 0 0 (MQ below (va_Qi (fun (res : Int32) (u : Int32 × (Nat → Int32) × (Nat → Int32) × (Nat → Int32)) => res = (if rf_chg mq mn w k x0 = 0 then rg_val v w k else rf_chg mq mn w k x0) ∧ u.1 = (if rf_chg mq mn w k x0 = 0 then ch_z mc + 1 else mc) ∧ u.2.1 = (if rf_chg mq mn w k x0 = 0 then G else md_bump G (rf_chg mq mn w k x0)) ∧ u.2.2.1 = (if rf_chg mq mn w k x0 = 0 then rg_set v w k x0 else v) ∧ u.2.2.2 = (if rf_chg mq mn w k x0 = 0 then ch_keep mc cf w k (rg_val v w k) else cf)) (Bw D (fun (u : Int32 × (Nat → Int32) × (Nat → Int32) × (Nat → Int32)) => [(y, .inr (6, [.ref yr, .int mq, .int mn, .ref yw, .ref yc, .int u.1, .ref yl, .int me, .ref ys, .ref yp, .ref ym, .int md, .ref yo, .ref yk, .ref yt, .int mz, .ref yi, .ref yz, .ref yx, .ref yu, .int km, .int kr])), (yr, .inl (cI, 7, .inl u.2.1)), (yw, .inl (cI, 20, .inl u.2.2.1)), (yc, .inl (cI, 48, .inl u.2.2.2))]) A) A) ([.ref y, .int w, .int k, .int x0] : List Value).toArray s 0 0 A) (F0 m 72 ls []) := by
            intro fuel
            induction fuel with
            | zero =>
              intro i g hi hg hfu
              exact False.elim (by omega)
            | succ fuel ih_72 =>
              intro i g hi hg hfu y5 ey5 H locs hP hD hS ls hl
              subst ey5
              refine lv_iload hx hb dX6_change_72 (lv_at hl 0 rfl) ?_
              refine lv_bipush (v := 45) hx hb dX6_change_74 (by decide) ?_
              refine lv_icmp_ge (tgt := 101) hx hb dX6_change_76 (by decide) (fun c_76 => ?_) (fun c_76 => ?_)
              · skip
                have hi45 : i = 45 := by have := (nI_leI (a := 45) (b := i) (by omega) (by omega)).mp c_76; omega
                have hP : va_P D vwCl [(y, .inr (6, [.ref yr, .int mq, .int mn, .ref yw, .ref yc, .int mc, .ref yl, .int me, .ref ys, .ref yp, .ref ym, .int md, .ref yo, .ref yk, .ref yt, .int mz, .ref yi, .ref yz, .ref yx, .ref yu, .int km, .int kr])), (yr, .inl (cI, 7, .inl G)), (yw, .inl (cI, 20, .inl v)), (yc, .inl (cI, 48, .inl (va_cpy cf cf 3 0 45)))] H := P_cg hP 3 (va_cpy cf cf 3 0 45) rfl (fun j hj => by rw [hg j hj, hi45]; unfold va_cpy; by_cases e9 : j < 45; (· rw [if_pos e9, if_pos (by omega)]; congr 1; omega); (· rw [if_neg e9, if_neg (by omega)]))
                have hD : va_D A [(y, .inr (6, [.ref yr, .int mq, .int mn, .ref yw, .ref yc, .int mc, .ref yl, .int me, .ref ys, .ref yp, .ref ym, .int md, .ref yo, .ref yk, .ref yt, .int mz, .ref yi, .ref yz, .ref yx, .ref yu, .int km, .int kr])), (yr, .inl (cI, 7, .inl G)), (yw, .inl (cI, 20, .inl v)), (yc, .inl (cI, 48, .inl (va_cpy cf cf 3 0 45)))] := D_cg hD 3 _ rfl
                refine lv_aload_n hx hb dX6_change_101 rfl (lv_at hl 1 rfl) ?_
                refine lv_dup hx hb dX6_change_102 rfl ?_
                refine va_get (D := D) (ci := 6) (v := .int mc) (C := RX6) (T := TX6) (N := 22) hx hb hts (in_X6_change_X6) hown hK hP 0 rfl rfl 5 (by decide) (hts (.fieldLink RX6 102 "StepsRoundCircleModel" "changes" "I") (by decide +kernel)) (fun _ h9 => h9) rfl dX6_change_103 ?_
                refine lv_iconst (v := 1) hx hb dX6_change_106 (by decide) ?_
                refine lv_isub hx hb dX6_change_107 ?_
                refine va_put (D := D) (ci := 6) (v := .int (mc - 1)) (ty := .int) (C := RX6) (T := TX6) (N := 22) hx hb hts (in_X6_change_X6) tyX6 tyX6_ok nmX6 hown hK hP hD hS 0 rfl rfl 5 (by decide) (hts (.fieldLink RX6 102 "StepsRoundCircleModel" "changes" "I") (by decide +kernel)) (fun _ h9 => h9) rfl (by decide +kernel) rfl rfl (Nat.le_of_ble_eq_true rfl) dX6_change_108 (fun H locs hP hD hS => ?_)
                have hP : va_P D vwCl [(y, .inr (6, [.ref yr, .int mq, .int mn, .ref yw, .ref yc, .int (mc - 1), .ref yl, .int me, .ref ys, .ref yp, .ref ym, .int md, .ref yo, .ref yk, .ref yt, .int mz, .ref yi, .ref yz, .ref yx, .ref yu, .int km, .int kr])), (yr, .inl (cI, 7, .inl G)), (yw, .inl (cI, 20, .inl v)), (yc, .inl (cI, 48, .inl (va_cpy cf cf 3 0 45)))] H := hP
                have hD : va_D A [(y, .inr (6, [.ref yr, .int mq, .int mn, .ref yw, .ref yc, .int (mc - 1), .ref yl, .int me, .ref ys, .ref yp, .ref ym, .int md, .ref yo, .ref yk, .ref yt, .int mz, .ref yi, .ref yz, .ref yx, .ref yu, .int km, .int kr])), (yr, .inl (cI, 7, .inl G)), (yw, .inl (cI, 20, .inl v)), (yc, .inl (cI, 48, .inl (va_cpy cf cf 3 0 45)))] := hD
                refine lv_aload_n hx hb dX6_change_111 rfl (lv_at hl 1 rfl) ?_
                refine lv_iload_n hx hb dX6_change_112 rfl (lv_at hl 2 rfl) ?_
                refine lv_iload_n hx hb dX6_change_113 rfl (lv_at hl 3 rfl) ?_
                refine rdV (As := [.int w, .int k]) (rest := []) ⟨hx, hb, hml, hown, hts⟩ (c_X6_at l D cI cZ cR y yr yw yc yl ys yp ym yo yk yt yi yz yx yu mq mn (mc - 1) me md mz km kr v w k (w5 hm5 c_5) hk9) (cwV 2 hts gX6_change_X6_at rfl rfl rfl (by decide +kernel) ⟨Nat.le_of_ble_eq_true rfl, Nat.le_of_ble_eq_true rfl⟩) hK hN hP 0 6 rfl rfl rfl [0, 2] rfl rfl hl.1 rfl (Nat.le_of_ble_eq_true rfl) dX6_change_114 ⟨Nat.zero_le _, Nat.zero_le _⟩ ?_
                refine lv_istore (lv' := [(5, .int (rg_val v w k)), (0, .ref y), (1, .int w), (2, .int k), (3, .int x0), (4, .int (rng x0 0 (rg_gr mq k)))]) hx hb dX6_change_117 hl (by decide) rfl (fun ls hl => ?_)
                refine lv_aload_n hx hb dX6_change_119 rfl (lv_at hl 1 rfl) ?_
                refine va_get (D := D) (ci := 6) (v := .ref yc) (C := RX6) (T := TX6) (N := 22) hx hb hts (in_X6_change_X6) hown hK hP 0 rfl rfl 4 (by decide) (hts (.fieldLink RX6 20 "StepsRoundCircleModel" "changed" "[I") (by decide +kernel)) (fun _ h9 => h9) rfl dX6_change_120 ?_
                refine lv_iconst (v := 3) hx hb dX6_change_123 (by decide) ?_
                refine lv_aload_n hx hb dX6_change_124 rfl (lv_at hl 1 rfl) ?_
                refine va_get (D := D) (ci := 6) (v := .int (mc - 1)) (C := RX6) (T := TX6) (N := 22) hx hb hts (in_X6_change_X6) hown hK hP 0 rfl rfl 5 (by decide) (hts (.fieldLink RX6 102 "StepsRoundCircleModel" "changes" "I") (by decide +kernel)) (fun _ h9 => h9) rfl dX6_change_125 ?_
                refine lv_imul hx hb dX6_change_128 ?_
                refine lv_topi (fun z_129 hz_129 => ?_)
                have hz_129 : z_129 = nI (3 * 15) := hz_129.trans (by rw [(show mc - 1 = nI 15 by rw [c_66]; decide)]; exact t3 _)
                subst hz_129
                refine lv_iload_n hx hb dX6_change_129 rfl (lv_at hl 2 rfl) ?_
                refine va_iast hx hb hK hP hD hS 3 0 rfl rfl (vp_in_nI (by omega) (by omega)) dX6_change_130 (fun H locs hP hD hS => ?_)
                have hP : va_P D vwCl [(y, .inr (6, [.ref yr, .int mq, .int mn, .ref yw, .ref yc, .int (mc - 1), .ref yl, .int me, .ref ys, .ref yp, .ref ym, .int md, .ref yo, .ref yk, .ref yt, .int mz, .ref yi, .ref yz, .ref yx, .ref yu, .int km, .int kr])), (yr, .inl (cI, 7, .inl G)), (yw, .inl (cI, 20, .inl v)), (yc, .inl (cI, 48, .inl (upd (va_cpy cf cf 3 0 45) ((nI (3 * 15)).toNatClampNeg) w)))] H := hP
                have hD : va_D A [(y, .inr (6, [.ref yr, .int mq, .int mn, .ref yw, .ref yc, .int (mc - 1), .ref yl, .int me, .ref ys, .ref yp, .ref ym, .int md, .ref yo, .ref yk, .ref yt, .int mz, .ref yi, .ref yz, .ref yx, .ref yu, .int km, .int kr])), (yr, .inl (cI, 7, .inl G)), (yw, .inl (cI, 20, .inl v)), (yc, .inl (cI, 48, .inl (upd (va_cpy cf cf 3 0 45) ((nI (3 * 15)).toNatClampNeg) w)))] := hD
                refine lv_aload_n hx hb dX6_change_131 rfl (lv_at hl 1 rfl) ?_
                refine va_get (D := D) (ci := 6) (v := .ref yc) (C := RX6) (T := TX6) (N := 22) hx hb hts (in_X6_change_X6) hown hK hP 0 rfl rfl 4 (by decide) (hts (.fieldLink RX6 20 "StepsRoundCircleModel" "changed" "[I") (by decide +kernel)) (fun _ h9 => h9) rfl dX6_change_132 ?_
                refine lv_iconst (v := 3) hx hb dX6_change_135 (by decide) ?_
                refine lv_aload_n hx hb dX6_change_136 rfl (lv_at hl 1 rfl) ?_
                refine va_get (D := D) (ci := 6) (v := .int (mc - 1)) (C := RX6) (T := TX6) (N := 22) hx hb hts (in_X6_change_X6) hown hK hP 0 rfl rfl 5 (by decide) (hts (.fieldLink RX6 102 "StepsRoundCircleModel" "changes" "I") (by decide +kernel)) (fun _ h9 => h9) rfl dX6_change_137 ?_
                refine lv_imul hx hb dX6_change_140 ?_
                refine lv_iconst (v := 1) hx hb dX6_change_141 (by decide) ?_
                refine lv_iadd hx hb dX6_change_142 ?_
                refine lv_topi (fun z_143 hz_143 => ?_)
                have hz_143 : z_143 = nI (3 * 15 + 1) := hz_143.trans (by rw [(show mc - 1 = nI 15 by rw [c_66]; decide), t3]; exact nI_add _ 1)
                subst hz_143
                refine lv_iload_n hx hb dX6_change_143 rfl (lv_at hl 3 rfl) ?_
                refine va_iast hx hb hK hP hD hS 3 0 rfl rfl (vp_in_nI (by omega) (by omega)) dX6_change_144 (fun H locs hP hD hS => ?_)
                have hP : va_P D vwCl [(y, .inr (6, [.ref yr, .int mq, .int mn, .ref yw, .ref yc, .int (mc - 1), .ref yl, .int me, .ref ys, .ref yp, .ref ym, .int md, .ref yo, .ref yk, .ref yt, .int mz, .ref yi, .ref yz, .ref yx, .ref yu, .int km, .int kr])), (yr, .inl (cI, 7, .inl G)), (yw, .inl (cI, 20, .inl v)), (yc, .inl (cI, 48, .inl (upd (upd (va_cpy cf cf 3 0 45) ((nI (3 * 15)).toNatClampNeg) w) ((nI (3 * 15 + 1)).toNatClampNeg) k)))] H := hP
                have hD : va_D A [(y, .inr (6, [.ref yr, .int mq, .int mn, .ref yw, .ref yc, .int (mc - 1), .ref yl, .int me, .ref ys, .ref yp, .ref ym, .int md, .ref yo, .ref yk, .ref yt, .int mz, .ref yi, .ref yz, .ref yx, .ref yu, .int km, .int kr])), (yr, .inl (cI, 7, .inl G)), (yw, .inl (cI, 20, .inl v)), (yc, .inl (cI, 48, .inl (upd (upd (va_cpy cf cf 3 0 45) ((nI (3 * 15)).toNatClampNeg) w) ((nI (3 * 15 + 1)).toNatClampNeg) k)))] := hD
                refine lv_aload_n hx hb dX6_change_145 rfl (lv_at hl 1 rfl) ?_
                refine va_get (D := D) (ci := 6) (v := .ref yc) (C := RX6) (T := TX6) (N := 22) hx hb hts (in_X6_change_X6) hown hK hP 0 rfl rfl 4 (by decide) (hts (.fieldLink RX6 20 "StepsRoundCircleModel" "changed" "[I") (by decide +kernel)) (fun _ h9 => h9) rfl dX6_change_146 ?_
                refine lv_iconst (v := 3) hx hb dX6_change_149 (by decide) ?_
                refine lv_aload_n hx hb dX6_change_150 rfl (lv_at hl 1 rfl) ?_
                refine va_get (D := D) (ci := 6) (v := .int (mc - 1)) (C := RX6) (T := TX6) (N := 22) hx hb hts (in_X6_change_X6) hown hK hP 0 rfl rfl 5 (by decide) (hts (.fieldLink RX6 102 "StepsRoundCircleModel" "changes" "I") (by decide +kernel)) (fun _ h9 => h9) rfl dX6_change_151 ?_
                refine lv_imul hx hb dX6_change_154 ?_
                refine lv_iconst (v := 2) hx hb dX6_change_155 (by decide) ?_
                refine lv_iadd hx hb dX6_change_156 ?_
                refine lv_topi (fun z_157 hz_157 => ?_)
                have hz_157 : z_157 = nI (3 * 15 + 2) := hz_157.trans (by rw [(show mc - 1 = nI 15 by rw [c_66]; decide), t3]; exact nI_add _ 2)
                subst hz_157
                refine lv_iload hx hb dX6_change_157 (lv_at hl 0 rfl) ?_
                refine va_iast hx hb hK hP hD hS 3 0 rfl rfl (vp_in_nI (by omega) (by omega)) dX6_change_159 (fun H locs hP hD hS => ?_)
                have hP : va_P D vwCl [(y, .inr (6, [.ref yr, .int mq, .int mn, .ref yw, .ref yc, .int (mc - 1), .ref yl, .int me, .ref ys, .ref yp, .ref ym, .int md, .ref yo, .ref yk, .ref yt, .int mz, .ref yi, .ref yz, .ref yx, .ref yu, .int km, .int kr])), (yr, .inl (cI, 7, .inl G)), (yw, .inl (cI, 20, .inl v)), (yc, .inl (cI, 48, .inl (upd (upd (upd (va_cpy cf cf 3 0 45) ((nI (3 * 15)).toNatClampNeg) w) ((nI (3 * 15 + 1)).toNatClampNeg) k) ((nI (3 * 15 + 2)).toNatClampNeg) (rg_val v w k))))] H := hP
                have hD : va_D A [(y, .inr (6, [.ref yr, .int mq, .int mn, .ref yw, .ref yc, .int (mc - 1), .ref yl, .int me, .ref ys, .ref yp, .ref ym, .int md, .ref yo, .ref yk, .ref yt, .int mz, .ref yi, .ref yz, .ref yx, .ref yu, .int km, .int kr])), (yr, .inl (cI, 7, .inl G)), (yw, .inl (cI, 20, .inl v)), (yc, .inl (cI, 48, .inl (upd (upd (upd (va_cpy cf cf 3 0 45) ((nI (3 * 15)).toNatClampNeg) w) ((nI (3 * 15 + 1)).toNatClampNeg) k) ((nI (3 * 15 + 2)).toNatClampNeg) (rg_val v w k))))] := hD
                refine lv_aload_n hx hb dX6_change_160 rfl (lv_at hl 1 rfl) ?_
                refine lv_dup hx hb dX6_change_161 rfl ?_
                refine va_get (D := D) (ci := 6) (v := .int (mc - 1)) (C := RX6) (T := TX6) (N := 22) hx hb hts (in_X6_change_X6) hown hK hP 0 rfl rfl 5 (by decide) (hts (.fieldLink RX6 102 "StepsRoundCircleModel" "changes" "I") (by decide +kernel)) (fun _ h9 => h9) rfl dX6_change_162 ?_
                refine lv_iconst (v := 1) hx hb dX6_change_165 (by decide) ?_
                refine lv_iadd hx hb dX6_change_166 ?_
                refine va_put (D := D) (ci := 6) (v := .int ((mc - 1) + 1)) (ty := .int) (C := RX6) (T := TX6) (N := 22) hx hb hts (in_X6_change_X6) tyX6 tyX6_ok nmX6 hown hK hP hD hS 0 rfl rfl 5 (by decide) (hts (.fieldLink RX6 102 "StepsRoundCircleModel" "changes" "I") (by decide +kernel)) (fun _ h9 => h9) rfl (by decide +kernel) rfl rfl (Nat.le_of_ble_eq_true rfl) dX6_change_167 (fun H locs hP hD hS => ?_)
                have hP : va_P D vwCl [(y, .inr (6, [.ref yr, .int mq, .int mn, .ref yw, .ref yc, .int ((mc - 1) + 1), .ref yl, .int me, .ref ys, .ref yp, .ref ym, .int md, .ref yo, .ref yk, .ref yt, .int mz, .ref yi, .ref yz, .ref yx, .ref yu, .int km, .int kr])), (yr, .inl (cI, 7, .inl G)), (yw, .inl (cI, 20, .inl v)), (yc, .inl (cI, 48, .inl (upd (upd (upd (va_cpy cf cf 3 0 45) ((nI (3 * 15)).toNatClampNeg) w) ((nI (3 * 15 + 1)).toNatClampNeg) k) ((nI (3 * 15 + 2)).toNatClampNeg) (rg_val v w k))))] H := hP
                have hD : va_D A [(y, .inr (6, [.ref yr, .int mq, .int mn, .ref yw, .ref yc, .int ((mc - 1) + 1), .ref yl, .int me, .ref ys, .ref yp, .ref ym, .int md, .ref yo, .ref yk, .ref yt, .int mz, .ref yi, .ref yz, .ref yx, .ref yu, .int km, .int kr])), (yr, .inl (cI, 7, .inl G)), (yw, .inl (cI, 20, .inl v)), (yc, .inl (cI, 48, .inl (upd (upd (upd (va_cpy cf cf 3 0 45) ((nI (3 * 15)).toNatClampNeg) w) ((nI (3 * 15 + 1)).toNatClampNeg) k) ((nI (3 * 15 + 2)).toNatClampNeg) (rg_val v w k))))] := hD
                refine lv_aload_n hx hb dX6_change_170 rfl (lv_at hl 1 rfl) ?_
                refine va_get (D := D) (ci := 6) (v := .ref yw) (C := RX6) (T := TX6) (N := 22) hx hb hts (in_X6_change_X6) hown hK hP 0 rfl rfl 3 (by decide) (hts (.fieldLink RX6 17 "StepsRoundCircleModel" "walkers" "[I") (by decide +kernel)) (fun _ h9 => h9) rfl dX6_change_171 ?_
                refine lv_iconst (v := 4) hx hb dX6_change_174 (by decide) ?_
                refine lv_iload_n hx hb dX6_change_175 rfl (lv_at hl 2 rfl) ?_
                refine lv_imul hx hb dX6_change_176 ?_
                refine lv_iload_n hx hb dX6_change_177 rfl (lv_at hl 3 rfl) ?_
                refine lv_iadd hx hb dX6_change_178 ?_
                refine lv_iload_n hx hb dX6_change_179 rfl (lv_at hl 4 rfl) ?_
                refine va_iast hx hb hK hP hD hS 2 0 rfl rfl (at_vp (w5 hm5 c_5) hk9) dX6_change_180 (fun H locs hP hD hS => ?_)
                have hP : va_P D vwCl [(y, .inr (6, [.ref yr, .int mq, .int mn, .ref yw, .ref yc, .int ((mc - 1) + 1), .ref yl, .int me, .ref ys, .ref yp, .ref ym, .int md, .ref yo, .ref yk, .ref yt, .int mz, .ref yi, .ref yz, .ref yx, .ref yu, .int km, .int kr])), (yr, .inl (cI, 7, .inl G)), (yw, .inl (cI, 20, .inl (upd v (((4 * w) + k).toNatClampNeg) x0))), (yc, .inl (cI, 48, .inl (upd (upd (upd (va_cpy cf cf 3 0 45) ((nI (3 * 15)).toNatClampNeg) w) ((nI (3 * 15 + 1)).toNatClampNeg) k) ((nI (3 * 15 + 2)).toNatClampNeg) (rg_val v w k))))] H := hP
                have hD : va_D A [(y, .inr (6, [.ref yr, .int mq, .int mn, .ref yw, .ref yc, .int ((mc - 1) + 1), .ref yl, .int me, .ref ys, .ref yp, .ref ym, .int md, .ref yo, .ref yk, .ref yt, .int mz, .ref yi, .ref yz, .ref yx, .ref yu, .int km, .int kr])), (yr, .inl (cI, 7, .inl G)), (yw, .inl (cI, 20, .inl (upd v (((4 * w) + k).toNatClampNeg) x0))), (yc, .inl (cI, 48, .inl (upd (upd (upd (va_cpy cf cf 3 0 45) ((nI (3 * 15)).toNatClampNeg) w) ((nI (3 * 15 + 1)).toNatClampNeg) k) ((nI (3 * 15 + 2)).toNatClampNeg) (rg_val v w k))))] := hD
                refine lv_iload hx hb dX6_change_181 (lv_at hl 0 rfl) ?_
                exact wrI (w1 := (fun (u : Int32 × (Nat → Int32) × (Nat → Int32) × (Nat → Int32)) => [(y, .inr (6, [.ref yr, .int mq, .int mn, .ref yw, .ref yc, .int u.1, .ref yl, .int me, .ref ys, .ref yp, .ref ym, .int md, .ref yo, .ref yk, .ref yt, .int mz, .ref yi, .ref yz, .ref yx, .ref yu, .int km, .int kr])), (yr, .inl (cI, 7, .inl u.2.1)), (yw, .inl (cI, 20, .inl u.2.2.1)), (yc, .inl (cI, 48, .inl u.2.2.2))])) (((mc - 1) + 1), G, (upd v (((4 * w) + k).toNatClampNeg) x0), (upd (upd (upd (va_cpy cf cf 3 0 45) ((nI (3 * 15)).toNatClampNeg) w) ((nI (3 * 15 + 1)).toNatClampNeg) k) ((nI (3 * 15 + 2)).toNatClampNeg) (rg_val v w k))) hx hb hr hlocks dX6_change_183 hS (hP.sub [0, 1, 2, 3] rfl) (hD.sub [0, 1, 2, 3] (by decide) rfl) (by rw [if_pos eR, if_pos eR, if_pos eR, if_pos eR, if_pos eR]; refine ⟨rfl, ?_, rfl, at_setW v (w5 hm5 c_5) hk9 x0, ?_⟩; (· rw [c_66]; show (16 : Int32) - 1 + 1 = ch_z 16 + 1; decide); (· rw [c_66, ch_keepF.1, nI_clamp (by omega), nI_clamp (by omega), nI_clamp (by omega)]))
              · skip
                have hiN : i < 45 := by rcases Nat.lt_or_ge i 45 with q9 | q9; exact q9; exact absurd (nI_le q9 (by omega)) c_76
                refine lv_aload_n hx hb dX6_change_79 rfl (lv_at hl 1 rfl) ?_
                refine va_get (D := D) (ci := 6) (v := .ref yc) (C := RX6) (T := TX6) (N := 22) hx hb hts (in_X6_change_X6) hown hK hP 0 rfl rfl 4 (by decide) (hts (.fieldLink RX6 20 "StepsRoundCircleModel" "changed" "[I") (by decide +kernel)) (fun _ h9 => h9) rfl dX6_change_80 ?_
                refine lv_iload hx hb dX6_change_83 (lv_at hl 0 rfl) ?_
                refine lv_aload_n hx hb dX6_change_85 rfl (lv_at hl 1 rfl) ?_
                refine va_get (D := D) (ci := 6) (v := .ref yc) (C := RX6) (T := TX6) (N := 22) hx hb hts (in_X6_change_X6) hown hK hP 0 rfl rfl 4 (by decide) (hts (.fieldLink RX6 20 "StepsRoundCircleModel" "changed" "[I") (by decide +kernel)) (fun _ h9 => h9) rfl dX6_change_86 ?_
                refine lv_iload hx hb dX6_change_89 (lv_at hl 0 rfl) ?_
                refine lv_iconst (v := 3) hx hb dX6_change_91 (by decide) ?_
                refine lv_iadd hx hb dX6_change_92 ?_
                refine lv_topi (fun z_93 hz_93 => ?_)
                have hz_93 : z_93 = nI (i + 3) := hz_93.trans (nI_add i 3)
                subst hz_93
                refine va_iald hx hb hK hP 3 0 rfl rfl (vp_in_nI (by omega) (by omega)) dX6_change_93 ?_
                refine lv_topi (fun z_94 hz_94 => ?_)
                have hz_94 : z_94 = cf (i + 3) := hz_94.trans (by rw [nI_clamp (by omega), hg _ (by omega), if_neg (by omega)])
                subst hz_94
                refine va_iast hx hb hK hP hD hS 3 0 rfl rfl (vp_in_nI (by omega) (by omega)) dX6_change_94 (fun H locs hP hD hS => ?_)
                have hP : va_P D vwCl [(y, .inr (6, [.ref yr, .int mq, .int mn, .ref yw, .ref yc, .int mc, .ref yl, .int me, .ref ys, .ref yp, .ref ym, .int md, .ref yo, .ref yk, .ref yt, .int mz, .ref yi, .ref yz, .ref yx, .ref yu, .int km, .int kr])), (yr, .inl (cI, 7, .inl G)), (yw, .inl (cI, 20, .inl v)), (yc, .inl (cI, 48, .inl (upd g ((nI i).toNatClampNeg) (cf (i + 3)))))] H := hP
                have hD : va_D A [(y, .inr (6, [.ref yr, .int mq, .int mn, .ref yw, .ref yc, .int mc, .ref yl, .int me, .ref ys, .ref yp, .ref ym, .int md, .ref yo, .ref yk, .ref yt, .int mz, .ref yi, .ref yz, .ref yx, .ref yu, .int km, .int kr])), (yr, .inl (cI, 7, .inl G)), (yw, .inl (cI, 20, .inl v)), (yc, .inl (cI, 48, .inl (upd g ((nI i).toNatClampNeg) (cf (i + 3)))))] := hD
                refine lv_iinc (v := (nI i) + 1) (lv' := [(5, .int ((nI i) + 1)), (0, .ref y), (1, .int w), (2, .int k), (3, .int x0), (4, .int (rng x0 0 (rg_gr mq k)))]) hx hb dX6_change_95 hl (k := 0) rfl (by rfl) (by decide) rfl (fun ls hl => ?_)
                refine lv_goto (tgt := 72) hx hb dX6_change_98 (by decide) ?_
                exact ih_72 (i + 1) (upd g ((nI i).toNatClampNeg) (cf (i + 3))) (by omega) (fun j hj => by rw [nI_clamp (by omega)]; by_cases e9 : j = i; (· rw [e9, pk_us, if_pos (by omega)]); (· rw [pk_un e9, hg j hj]; by_cases e8 : j < i; (· rw [if_pos e8, if_pos (by omega)]); (· rw [if_neg e8, if_neg (by omega)]))) (by omega) _ (by first | rfl | exact nI_1 _ | exact nI_0.symm) _ _ (hP.sub [0, 1, 2, 3] rfl) (hD.sub [0, 1, 2, 3] (by decide) rfl) hS ls (lv_sub hl [0, 1, 2, 3, 4, 5] rfl)
          exact loop_72 46 0 cf (by omega) (fun j hj => by rw [if_neg (by omega)]) (by omega) _ (by first | rfl | exact nI_1 _ | exact nI_0.symm) _ _ (hP.sub [0, 1, 2, 3] rfl) (hD.sub [0, 1, 2, 3] (by decide) rfl) hS ls (lv_sub hl [0, 2, 3, 4, 5, 1] rfl)
      · skip
        refine lv_aload_n hx hb dX6_change_53 rfl (lv_at hl 1 rfl) ?_
        refine lv_iload hx hb dX6_change_54 (lv_at hl 0 rfl) ?_
        refine wrVi (As := [.int (rng x0 0 (rg_gr mq k))]) (rest := []) (wr := [(yw, .inl (cI, 20, .inl v)), (yc, .inl (cI, 48, .inl cf))]) (A := A) ⟨hx, hb, hml, hown, hts⟩ (c_X6_no l D cI cZ cR y yr yw yc yl ys yp ym yo yk yt yi yz yx yu mq mn mc me md mz km kr G (rng x0 0 (rg_gr mq k)) (rng_le _ _ _) s.heap.size) (cwV 1 hts gX6_change_X6_no rfl rfl rfl (by decide +kernel) ⟨Nat.le_of_ble_eq_true rfl, Nat.le_of_ble_eq_true rfl⟩) hK hN hP hD hS hA 0 6 rfl rfl rfl [0, 1] [2, 3] rfl (by decide) rfl (by decide) (by decide) rfl hl.1 rfl (Nat.le_of_ble_eq_true rfl) dX6_change_56 ⟨Nat.zero_le _, Nat.zero_le _⟩ (fun r_56 u H locs hw hP hD hS => ?_)
        obtain ⟨G_56, rfl⟩ : ∃ z, z = u := ⟨_, rfl⟩
        try dsimp only at hw
        obtain ⟨q1_56, q2_56⟩ := hw
        have q1_56 := q1_56.symm
        subst q1_56
        have q2_56 := q2_56.symm
        subst q2_56
        have hP : va_P D vwCl [(y, .inr (6, [.ref yr, .int mq, .int mn, .ref yw, .ref yc, .int mc, .ref yl, .int me, .ref ys, .ref yp, .ref ym, .int md, .ref yo, .ref yk, .ref yt, .int mz, .ref yi, .ref yz, .ref yx, .ref yu, .int km, .int kr])), (yr, .inl (cI, 7, .inl (md_bump G (rng x0 0 (rg_gr mq k))))), (yw, .inl (cI, 20, .inl v)), (yc, .inl (cI, 48, .inl cf))] H := hP.sub [2, 3, 0, 1] rfl
        have hD : va_D A [(y, .inr (6, [.ref yr, .int mq, .int mn, .ref yw, .ref yc, .int mc, .ref yl, .int me, .ref ys, .ref yp, .ref ym, .int md, .ref yo, .ref yk, .ref yt, .int mz, .ref yi, .ref yz, .ref yx, .ref yu, .int km, .int kr])), (yr, .inl (cI, 7, .inl (md_bump G (rng x0 0 (rg_gr mq k))))), (yw, .inl (cI, 20, .inl v)), (yc, .inl (cI, 48, .inl cf))] := hD.sub [2, 3, 0, 1] (by decide) rfl
        exact wrI (w1 := (fun (u : Int32 × (Nat → Int32) × (Nat → Int32) × (Nat → Int32)) => [(y, .inr (6, [.ref yr, .int mq, .int mn, .ref yw, .ref yc, .int u.1, .ref yl, .int me, .ref ys, .ref yp, .ref ym, .int md, .ref yo, .ref yk, .ref yt, .int mz, .ref yi, .ref yz, .ref yx, .ref yu, .int km, .int kr])), (yr, .inl (cI, 7, .inl u.2.1)), (yw, .inl (cI, 20, .inl u.2.2.1)), (yc, .inl (cI, 48, .inl u.2.2.2))])) (mc, (md_bump G (rng x0 0 (rg_gr mq k))), v, cf) hx hb hr hlocks dX6_change_59 hS (hP.sub [0, 1, 2, 3] rfl) (hD.sub [0, 1, 2, 3] (by decide) rfl) (by simp [e0, c_50])
    · skip
      have c_23 := bi_eq0.mp c_23
      refine lv_aload_n hx hb dX6_change_26 rfl (lv_at hl 0 rfl) ?_
      refine lv_bipush (v := (-2)) hx hb dX6_change_27 (by decide) ?_
      refine wrVi (As := [.int (-2)]) (rest := []) (wr := [(yw, .inl (cI, 20, .inl v)), (yc, .inl (cI, 48, .inl cf))]) (A := A) ⟨hx, hb, hml, hown, hts⟩ (c_X6_no l D cI cZ cR y yr yw yc yl ys yp ym yo yk yt yi yz yx yu mq mn mc me md mz km kr G (-2) (by decide) s.heap.size) (cwV 1 hts gX6_change_X6_no rfl rfl rfl (by decide +kernel) ⟨Nat.le_of_ble_eq_true rfl, Nat.le_of_ble_eq_true rfl⟩) hK hN hP hD hS hA 0 6 rfl rfl rfl [0, 1] [2, 3] rfl (by decide) rfl (by decide) (by decide) rfl hl.1 rfl (Nat.le_of_ble_eq_true rfl) dX6_change_29 ⟨Nat.zero_le _, Nat.zero_le _⟩ (fun r_29 u H locs hw hP hD hS => ?_)
      obtain ⟨G_29, rfl⟩ : ∃ z, z = u := ⟨_, rfl⟩
      try dsimp only at hw
      obtain ⟨q1_29, q2_29⟩ := hw
      have q1_29 := q1_29.symm
      subst q1_29
      have q2_29 := q2_29.symm
      subst q2_29
      have hP : va_P D vwCl [(y, .inr (6, [.ref yr, .int mq, .int mn, .ref yw, .ref yc, .int mc, .ref yl, .int me, .ref ys, .ref yp, .ref ym, .int md, .ref yo, .ref yk, .ref yt, .int mz, .ref yi, .ref yz, .ref yx, .ref yu, .int km, .int kr])), (yr, .inl (cI, 7, .inl (md_bump G (-2)))), (yw, .inl (cI, 20, .inl v)), (yc, .inl (cI, 48, .inl cf))] H := hP.sub [2, 3, 0, 1] rfl
      have hD : va_D A [(y, .inr (6, [.ref yr, .int mq, .int mn, .ref yw, .ref yc, .int mc, .ref yl, .int me, .ref ys, .ref yp, .ref ym, .int md, .ref yo, .ref yk, .ref yt, .int mz, .ref yi, .ref yz, .ref yx, .ref yu, .int km, .int kr])), (yr, .inl (cI, 7, .inl (md_bump G (-2)))), (yw, .inl (cI, 20, .inl v)), (yc, .inl (cI, 48, .inl cf))] := hD.sub [2, 3, 0, 1] (by decide) rfl
      exact wrI (w1 := (fun (u : Int32 × (Nat → Int32) × (Nat → Int32) × (Nat → Int32)) => [(y, .inr (6, [.ref yr, .int mq, .int mn, .ref yw, .ref yc, .int u.1, .ref yl, .int me, .ref ys, .ref yp, .ref ym, .int md, .ref yo, .ref yk, .ref yt, .int mz, .ref yi, .ref yz, .ref yx, .ref yu, .int km, .int kr])), (yr, .inl (cI, 7, .inl u.2.1)), (yw, .inl (cI, 20, .inl u.2.2.1)), (yc, .inl (cI, 48, .inl u.2.2.2))])) (mc, (md_bump G (-2)), v, cf) hx hb hr hlocks dX6_change_32 hS (hP.sub [0, 1, 2, 3] rfl) (hD.sub [0, 1, 2, 3] (by decide) rfl) (by have e9 : rf_chg mq mn w k x0 = -2 := (by unfold rf_chg; rw [if_neg (fun z => z c_5), if_pos (mt (md_w3 k).mpr c_23)]); simp [e9])
  · skip
    have c_5 := bi_eq0.mp c_5
    refine lv_aload_n hx hb dX6_change_8 rfl (lv_at hl 0 rfl) ?_
    refine lv_iconst (v := (-1)) hx hb dX6_change_9 (by decide) ?_
    refine wrVi (As := [.int (-1)]) (rest := []) (wr := [(yw, .inl (cI, 20, .inl v)), (yc, .inl (cI, 48, .inl cf))]) (A := A) ⟨hx, hb, hml, hown, hts⟩ (c_X6_no l D cI cZ cR y yr yw yc yl ys yp ym yo yk yt yi yz yx yu mq mn mc me md mz km kr G (-1) (by decide) s.heap.size) (cwV 1 hts gX6_change_X6_no rfl rfl rfl (by decide +kernel) ⟨Nat.le_of_ble_eq_true rfl, Nat.le_of_ble_eq_true rfl⟩) hK hN hP hD hS hA 0 6 rfl rfl rfl [0, 1] [2, 3] rfl (by decide) rfl (by decide) (by decide) rfl hl.1 rfl (Nat.le_of_ble_eq_true rfl) dX6_change_10 ⟨Nat.zero_le _, Nat.zero_le _⟩ (fun r_10 u H locs hw hP hD hS => ?_)
    obtain ⟨G_10, rfl⟩ : ∃ z, z = u := ⟨_, rfl⟩
    try dsimp only at hw
    obtain ⟨q1_10, q2_10⟩ := hw
    have q1_10 := q1_10.symm
    subst q1_10
    have q2_10 := q2_10.symm
    subst q2_10
    have hP : va_P D vwCl [(y, .inr (6, [.ref yr, .int mq, .int mn, .ref yw, .ref yc, .int mc, .ref yl, .int me, .ref ys, .ref yp, .ref ym, .int md, .ref yo, .ref yk, .ref yt, .int mz, .ref yi, .ref yz, .ref yx, .ref yu, .int km, .int kr])), (yr, .inl (cI, 7, .inl (md_bump G (-1)))), (yw, .inl (cI, 20, .inl v)), (yc, .inl (cI, 48, .inl cf))] H := hP.sub [2, 3, 0, 1] rfl
    have hD : va_D A [(y, .inr (6, [.ref yr, .int mq, .int mn, .ref yw, .ref yc, .int mc, .ref yl, .int me, .ref ys, .ref yp, .ref ym, .int md, .ref yo, .ref yk, .ref yt, .int mz, .ref yi, .ref yz, .ref yx, .ref yu, .int km, .int kr])), (yr, .inl (cI, 7, .inl (md_bump G (-1)))), (yw, .inl (cI, 20, .inl v)), (yc, .inl (cI, 48, .inl cf))] := hD.sub [2, 3, 0, 1] (by decide) rfl
    exact wrI (w1 := (fun (u : Int32 × (Nat → Int32) × (Nat → Int32) × (Nat → Int32)) => [(y, .inr (6, [.ref yr, .int mq, .int mn, .ref yw, .ref yc, .int u.1, .ref yl, .int me, .ref ys, .ref yp, .ref ym, .int md, .ref yo, .ref yk, .ref yt, .int mz, .ref yi, .ref yz, .ref yx, .ref yu, .int km, .int kr])), (yr, .inl (cI, 7, .inl u.2.1)), (yw, .inl (cI, 20, .inl u.2.2.1)), (yc, .inl (cI, 48, .inl u.2.2.2))])) (mc, (md_bump G (-1)), v, cf) hx hb hr hlocks dX6_change_13 hS (hP.sub [0, 1, 2, 3] rfl) (hD.sub [0, 1, 2, 3] (by decide) rfl) (by have e9 : rf_chg mq mn w k x0 = -1 := (by unfold rf_chg; rw [if_pos c_5]); simp [e9])

set_option maxHeartbeats 4000000 in
set_option maxRecDepth 100000 in
theorem c_X6_undo (l : Launch) (D : va_G) (cI cZ cR : ClassId) (y yr yw yc yl ys yp ym yo yk yt yi yz yx yu : Nat) (mq mn mc me md mz km kr : Int32) (G : Nat → Int32) (v : Nat → Int32) (cf : Nat → Int32) (Z : Nat) (hmz : mc = nI Z) (hZ : Z ≤ 16) (hch : ¬ mc = 0 → (0 ≤ ch_at cf ((mc - 1) * 3) ∧ ch_at cf ((mc - 1) * 3) < 5) ∧ (0 ≤ ch_at cf ((mc - 1) * 3 + 1) ∧ ch_at cf ((mc - 1) * 3 + 1) < 4)) (sz : Nat) : Met l yX6_undo wsX6_undo ({ frames := 1, cells := 0, slots := 0, locals := 21 }) (PcW D cI cZ cR [.ref y] [(y, .inr (6, [.ref yr, .int mq, .int mn, .ref yw, .ref yc, .int mc, .ref yl, .int me, .ref ys, .ref yp, .ref ym, .int md, .ref yo, .ref yk, .ref yt, .int mz, .ref yi, .ref yz, .ref yx, .ref yu, .int km, .int kr])), (yr, .inl (cI, 7, .inl G)), (yw, .inl (cI, 20, .inl v)), (yc, .inl (cI, 48, .inl cf))] sz) (va_Qi (fun (res : Int32) (u : Int32 × (Nat → Int32) × (Nat → Int32)) => res = (if rf_z mc = 0 then ch_less mc else rf_z mc) ∧ u.1 = (if rf_z mc = 0 then ch_less mc else mc) ∧ u.2.1 = (if rf_z mc = 0 then G else md_bump G (rf_z mc)) ∧ u.2.2 = (if rf_z mc = 0 then undv v cf mc else v)) (Bw D (fun (u : Int32 × (Nat → Int32) × (Nat → Int32)) => [(y, .inr (6, [.ref yr, .int mq, .int mn, .ref yw, .ref yc, .int u.1, .ref yl, .int me, .ref ys, .ref yp, .ref ym, .int md, .ref yo, .ref yk, .ref yt, .int mz, .ref yi, .ref yz, .ref yx, .ref yu, .int km, .int kr])), (yr, .inl (cI, 7, .inl u.2.1)), (yw, .inl (cI, 20, .inl u.2.2)), (yc, .inl (cI, 48, .inl cf))]) (va_A [(y, .inr (6, [.ref yr, .int mq, .int mn, .ref yw, .ref yc, .int mc, .ref yl, .int me, .ref ys, .ref yp, .ref ym, .int md, .ref yo, .ref yk, .ref yt, .int mz, .ref yi, .ref yz, .ref yx, .ref yu, .int km, .int kr])), (yr, .inl (cI, 7, .inl G)), (yw, .inl (cI, 20, .inl v)), (yc, .inl (cI, 48, .inl cf))] sz)) (va_A [(y, .inr (6, [.ref yr, .int mq, .int mn, .ref yw, .ref yc, .int mc, .ref yl, .int me, .ref ys, .ref yp, .ref ym, .int md, .ref yo, .ref yk, .ref yt, .int mz, .ref yi, .ref yz, .ref yx, .ref yu, .int km, .int kr])), (yr, .inl (cI, 7, .inl G)), (yw, .inl (cI, 20, .inl v)), (yc, .inl (cI, 48, .inl cf))] sz)) 0 0 (va_A [(y, .inr (6, [.ref yr, .int mq, .int mn, .ref yw, .ref yc, .int mc, .ref yl, .int me, .ref ys, .ref yp, .ref ym, .int md, .ref yo, .ref yk, .ref yt, .int mz, .ref yi, .ref yz, .ref yx, .ref yu, .int km, .int kr])), (yr, .inl (cI, 7, .inl G)), (yw, .inl (cI, 20, .inl v)), (yc, .inl (cI, 48, .inl cf))] sz) := by
  refine Met.ofW (cc := cX6_undo) (maxL := 1) (ret := (some .int)) (by decide) rfl ?_
  intro p e s m args below meth c s₁ B hml hv
  obtain ⟨rfl, hsz, hP, hK, hD0, hN⟩ := hv
  have hx := B.exec
  have hb := B.bytes
  have hr := B.returns
  have hts := atoms_spec (ws := wsX6_undo) B.pre
  have hown : s.vm.findClass RX6 = some m.cls := findClass_of_methodNamed B.named
  have hlocks := B.notSynchronized
  subst hsz
  have hD := hD0.self (sz := s.heap.size)
  generalize hAe : va_A [(y, .inr (6, [.ref yr, .int mq, .int mn, .ref yw, .ref yc, .int mc, .ref yl, .int me, .ref ys, .ref yp, .ref ym, .int md, .ref yo, .ref yk, .ref yt, .int mz, .ref yi, .ref yz, .ref yx, .ref yu, .int km, .int kr])), (yr, .inl (cI, 7, .inl G)), (yw, .inl (cI, 20, .inl v)), (yc, .inl (cI, 48, .inl cf))] s.heap.size = A at hD ⊢
  have hA : ∀ q : Nat, s.heap.size ≤ q → A q := fun q h => by rw [← hAe]; exact Or.inr h
  have hS : va_S A s.heap s.heap [] := va_S.rf
  have hP : va_P D vwCl [(y, .inr (6, [.ref yr, .int mq, .int mn, .ref yw, .ref yc, .int mc, .ref yl, .int me, .ref ys, .ref yp, .ref ym, .int md, .ref yo, .ref yk, .ref yt, .int mz, .ref yi, .ref yz, .ref yx, .ref yu, .int km, .int kr])), (yr, .inl (cI, 7, .inl G)), (yw, .inl (cI, 20, .inl v)), (yc, .inl (cI, 48, .inl cf))] s.heap := hP
  have hl := lv_entry ([.ref y]) (n := 1) (Nat.le_of_ble_eq_true rfl)
  rw [lg_entry_eq]
  generalize (lg_sl ([.ref y]) ++ List.replicate (1 - (lg_sl ([.ref y])).length) Slot.unset).toArray = ls at hl ⊢
  have hl : lv_has ls 1 [(0, .ref y)] := hl
  refine lv_aload_n hx hb dX6_undo_0 rfl (lv_at hl 0 rfl) ?_
  refine va_get (D := D) (ci := 6) (v := .int mc) (C := RX6) (T := TX6) (N := 22) hx hb hts (in_X6_undo_X6) hown hK hP 0 rfl rfl 5 (by decide) (hts (.fieldLink RX6 102 "StepsRoundCircleModel" "changes" "I") (by decide +kernel)) (fun _ h9 => h9) rfl dX6_undo_1 ?_
  refine lv_if_ne (tgt := 14) hx hb dX6_undo_4 (by decide) (fun c_4 => ?_) (fun c_4 => ?_)
  · skip
    have hZ0 : 0 < Z := by rcases Nat.eq_zero_or_pos Z with q9 | q9; exact absurd (by rw [hmz, q9]; exact nI_0) c_4; exact q9
    have hm1 : mc - 1 = nI (Z - 1) := by rw [hmz]; exact pk_sub (b := 1) hZ0
    have hl9 : ch_less mc = mc - 1 := by unfold ch_less; rw [if_neg (fun z9 => by rw [hmz] at z9; exact nI_nle hZ0 (by omega) z9)]
    have eR : rf_z mc = 0 := by unfold rf_z; rw [if_neg c_4]
    refine lv_aload_n hx hb dX6_undo_14 rfl (lv_at hl 0 rfl) ?_
    refine lv_dup hx hb dX6_undo_15 rfl ?_
    refine va_get (D := D) (ci := 6) (v := .int mc) (C := RX6) (T := TX6) (N := 22) hx hb hts (in_X6_undo_X6) hown hK hP 0 rfl rfl 5 (by decide) (hts (.fieldLink RX6 102 "StepsRoundCircleModel" "changes" "I") (by decide +kernel)) (fun _ h9 => h9) rfl dX6_undo_16 ?_
    refine lv_iconst (v := 1) hx hb dX6_undo_19 (by decide) ?_
    refine lv_isub hx hb dX6_undo_20 ?_
    refine va_put (D := D) (ci := 6) (v := .int (mc - 1)) (ty := .int) (C := RX6) (T := TX6) (N := 22) hx hb hts (in_X6_undo_X6) tyX6 tyX6_ok nmX6 hown hK hP hD hS 0 rfl rfl 5 (by decide) (hts (.fieldLink RX6 102 "StepsRoundCircleModel" "changes" "I") (by decide +kernel)) (fun _ h9 => h9) rfl (by decide +kernel) rfl rfl (Nat.le_of_ble_eq_true rfl) dX6_undo_21 (fun H locs hP hD hS => ?_)
    have hP : va_P D vwCl [(y, .inr (6, [.ref yr, .int mq, .int mn, .ref yw, .ref yc, .int (mc - 1), .ref yl, .int me, .ref ys, .ref yp, .ref ym, .int md, .ref yo, .ref yk, .ref yt, .int mz, .ref yi, .ref yz, .ref yx, .ref yu, .int km, .int kr])), (yr, .inl (cI, 7, .inl G)), (yw, .inl (cI, 20, .inl v)), (yc, .inl (cI, 48, .inl cf))] H := hP
    have hD : va_D A [(y, .inr (6, [.ref yr, .int mq, .int mn, .ref yw, .ref yc, .int (mc - 1), .ref yl, .int me, .ref ys, .ref yp, .ref ym, .int md, .ref yo, .ref yk, .ref yt, .int mz, .ref yi, .ref yz, .ref yx, .ref yu, .int km, .int kr])), (yr, .inl (cI, 7, .inl G)), (yw, .inl (cI, 20, .inl v)), (yc, .inl (cI, 48, .inl cf))] := hD
    refine lv_aload_n hx hb dX6_undo_24 rfl (lv_at hl 0 rfl) ?_
    refine va_get (D := D) (ci := 6) (v := .ref yw) (C := RX6) (T := TX6) (N := 22) hx hb hts (in_X6_undo_X6) hown hK hP 0 rfl rfl 3 (by decide) (hts (.fieldLink RX6 17 "StepsRoundCircleModel" "walkers" "[I") (by decide +kernel)) (fun _ h9 => h9) rfl dX6_undo_25 ?_
    refine lv_iconst (v := 4) hx hb dX6_undo_28 (by decide) ?_
    refine lv_aload_n hx hb dX6_undo_29 rfl (lv_at hl 0 rfl) ?_
    refine va_get (D := D) (ci := 6) (v := .ref yc) (C := RX6) (T := TX6) (N := 22) hx hb hts (in_X6_undo_X6) hown hK hP 0 rfl rfl 4 (by decide) (hts (.fieldLink RX6 20 "StepsRoundCircleModel" "changed" "[I") (by decide +kernel)) (fun _ h9 => h9) rfl dX6_undo_30 ?_
    refine lv_iconst (v := 3) hx hb dX6_undo_33 (by decide) ?_
    refine lv_aload_n hx hb dX6_undo_34 rfl (lv_at hl 0 rfl) ?_
    refine va_get (D := D) (ci := 6) (v := .int (mc - 1)) (C := RX6) (T := TX6) (N := 22) hx hb hts (in_X6_undo_X6) hown hK hP 0 rfl rfl 5 (by decide) (hts (.fieldLink RX6 102 "StepsRoundCircleModel" "changes" "I") (by decide +kernel)) (fun _ h9 => h9) rfl dX6_undo_35 ?_
    refine lv_imul hx hb dX6_undo_38 ?_
    refine lv_topi (fun z_39 hz_39 => ?_)
    have hz_39 : z_39 = nI (3 * (Z - 1)) := hz_39.trans (by rw [hm1]; exact t3 _)
    subst hz_39
    refine va_iald hx hb hK hP 3 0 rfl rfl (vp_in_nI (by omega) (by omega)) dX6_undo_39 ?_
    refine lv_topi (fun z_40 hz_40 => ?_)
    have hz_40 : z_40 = ch_at cf ((mc - 1) * 3) := hz_40.trans (by rw [hm1, z3, nI_clamp (by omega)]; exact (ch_atN (by omega)).symm)
    subst hz_40
    refine lv_imul hx hb dX6_undo_40 ?_
    refine lv_aload_n hx hb dX6_undo_41 rfl (lv_at hl 0 rfl) ?_
    refine va_get (D := D) (ci := 6) (v := .ref yc) (C := RX6) (T := TX6) (N := 22) hx hb hts (in_X6_undo_X6) hown hK hP 0 rfl rfl 4 (by decide) (hts (.fieldLink RX6 20 "StepsRoundCircleModel" "changed" "[I") (by decide +kernel)) (fun _ h9 => h9) rfl dX6_undo_42 ?_
    refine lv_iconst (v := 3) hx hb dX6_undo_45 (by decide) ?_
    refine lv_aload_n hx hb dX6_undo_46 rfl (lv_at hl 0 rfl) ?_
    refine va_get (D := D) (ci := 6) (v := .int (mc - 1)) (C := RX6) (T := TX6) (N := 22) hx hb hts (in_X6_undo_X6) hown hK hP 0 rfl rfl 5 (by decide) (hts (.fieldLink RX6 102 "StepsRoundCircleModel" "changes" "I") (by decide +kernel)) (fun _ h9 => h9) rfl dX6_undo_47 ?_
    refine lv_imul hx hb dX6_undo_50 ?_
    refine lv_iconst (v := 1) hx hb dX6_undo_51 (by decide) ?_
    refine lv_iadd hx hb dX6_undo_52 ?_
    refine lv_topi (fun z_53 hz_53 => ?_)
    have hz_53 : z_53 = nI (3 * (Z - 1) + 1) := hz_53.trans (by rw [hm1, t3]; exact nI_add _ 1)
    subst hz_53
    refine va_iald hx hb hK hP 3 0 rfl rfl (vp_in_nI (by omega) (by omega)) dX6_undo_53 ?_
    refine lv_topi (fun z_54 hz_54 => ?_)
    have hz_54 : z_54 = ch_at cf ((mc - 1) * 3 + 1) := hz_54.trans (by rw [hm1, z3, show nI (3 * (Z - 1)) + 1 = nI (3 * (Z - 1) + 1) from nI_add _ 1, nI_clamp (by omega)]; exact (ch_atN (by omega)).symm)
    subst hz_54
    refine lv_iadd hx hb dX6_undo_54 ?_
    refine lv_aload_n hx hb dX6_undo_55 rfl (lv_at hl 0 rfl) ?_
    refine va_get (D := D) (ci := 6) (v := .ref yc) (C := RX6) (T := TX6) (N := 22) hx hb hts (in_X6_undo_X6) hown hK hP 0 rfl rfl 4 (by decide) (hts (.fieldLink RX6 20 "StepsRoundCircleModel" "changed" "[I") (by decide +kernel)) (fun _ h9 => h9) rfl dX6_undo_56 ?_
    refine lv_iconst (v := 3) hx hb dX6_undo_59 (by decide) ?_
    refine lv_aload_n hx hb dX6_undo_60 rfl (lv_at hl 0 rfl) ?_
    refine va_get (D := D) (ci := 6) (v := .int (mc - 1)) (C := RX6) (T := TX6) (N := 22) hx hb hts (in_X6_undo_X6) hown hK hP 0 rfl rfl 5 (by decide) (hts (.fieldLink RX6 102 "StepsRoundCircleModel" "changes" "I") (by decide +kernel)) (fun _ h9 => h9) rfl dX6_undo_61 ?_
    refine lv_imul hx hb dX6_undo_64 ?_
    refine lv_iconst (v := 2) hx hb dX6_undo_65 (by decide) ?_
    refine lv_iadd hx hb dX6_undo_66 ?_
    refine lv_topi (fun z_67 hz_67 => ?_)
    have hz_67 : z_67 = nI (3 * (Z - 1) + 2) := hz_67.trans (by rw [hm1, t3]; exact nI_add _ 2)
    subst hz_67
    refine va_iald hx hb hK hP 3 0 rfl rfl (vp_in_nI (by omega) (by omega)) dX6_undo_67 ?_
    refine lv_topi (fun z_68 hz_68 => ?_)
    have hz_68 : z_68 = ch_at cf ((mc - 1) * 3 + 2) := hz_68.trans (by rw [hm1, z3, show nI (3 * (Z - 1)) + 2 = nI (3 * (Z - 1) + 2) from nI_add _ 2, nI_clamp (by omega)]; exact (ch_atN (by omega)).symm)
    subst hz_68
    refine va_iast hx hb hK hP hD hS 2 0 rfl rfl (at_vp (hch c_4).1 (hch c_4).2) dX6_undo_68 (fun H locs hP hD hS => ?_)
    have hP : va_P D vwCl [(y, .inr (6, [.ref yr, .int mq, .int mn, .ref yw, .ref yc, .int (mc - 1), .ref yl, .int me, .ref ys, .ref yp, .ref ym, .int md, .ref yo, .ref yk, .ref yt, .int mz, .ref yi, .ref yz, .ref yx, .ref yu, .int km, .int kr])), (yr, .inl (cI, 7, .inl G)), (yw, .inl (cI, 20, .inl (upd v (((4 * (ch_at cf ((mc - 1) * 3))) + (ch_at cf ((mc - 1) * 3 + 1))).toNatClampNeg) (ch_at cf ((mc - 1) * 3 + 2))))), (yc, .inl (cI, 48, .inl cf))] H := hP
    have hD : va_D A [(y, .inr (6, [.ref yr, .int mq, .int mn, .ref yw, .ref yc, .int (mc - 1), .ref yl, .int me, .ref ys, .ref yp, .ref ym, .int md, .ref yo, .ref yk, .ref yt, .int mz, .ref yi, .ref yz, .ref yx, .ref yu, .int km, .int kr])), (yr, .inl (cI, 7, .inl G)), (yw, .inl (cI, 20, .inl (upd v (((4 * (ch_at cf ((mc - 1) * 3))) + (ch_at cf ((mc - 1) * 3 + 1))).toNatClampNeg) (ch_at cf ((mc - 1) * 3 + 2))))), (yc, .inl (cI, 48, .inl cf))] := hD
    refine lv_aload_n hx hb dX6_undo_69 rfl (lv_at hl 0 rfl) ?_
    refine va_get (D := D) (ci := 6) (v := .int (mc - 1)) (C := RX6) (T := TX6) (N := 22) hx hb hts (in_X6_undo_X6) hown hK hP 0 rfl rfl 5 (by decide) (hts (.fieldLink RX6 102 "StepsRoundCircleModel" "changes" "I") (by decide +kernel)) (fun _ h9 => h9) rfl dX6_undo_70 ?_
    exact wrI (w1 := (fun (u : Int32 × (Nat → Int32) × (Nat → Int32)) => [(y, .inr (6, [.ref yr, .int mq, .int mn, .ref yw, .ref yc, .int u.1, .ref yl, .int me, .ref ys, .ref yp, .ref ym, .int md, .ref yo, .ref yk, .ref yt, .int mz, .ref yi, .ref yz, .ref yx, .ref yu, .int km, .int kr])), (yr, .inl (cI, 7, .inl u.2.1)), (yw, .inl (cI, 20, .inl u.2.2)), (yc, .inl (cI, 48, .inl cf))])) ((mc - 1), G, (upd v (((4 * (ch_at cf ((mc - 1) * 3))) + (ch_at cf ((mc - 1) * 3 + 1))).toNatClampNeg) (ch_at cf ((mc - 1) * 3 + 2)))) hx hb hr hlocks dX6_undo_73 hS (hP.sub [0, 1, 2, 3] rfl) (hD.sub [0, 1, 2, 3] (by decide) rfl) (by rw [if_pos eR, if_pos eR, if_pos eR, if_pos eR, hl9]; exact ⟨rfl, rfl, rfl, at_setW v (hch c_4).1 (hch c_4).2 _⟩)
  · skip
    refine lv_aload_n hx hb dX6_undo_7 rfl (lv_at hl 0 rfl) ?_
    refine lv_bipush (v := (-3)) hx hb dX6_undo_8 (by decide) ?_
    refine wrVi (As := [.int (-3)]) (rest := []) (wr := [(yw, .inl (cI, 20, .inl v)), (yc, .inl (cI, 48, .inl cf))]) (A := A) ⟨hx, hb, hml, hown, hts⟩ (c_X6_no l D cI cZ cR y yr yw yc yl ys yp ym yo yk yt yi yz yx yu mq mn mc me md mz km kr G (-3) (by decide) s.heap.size) (cwV 1 hts gX6_undo_X6_no rfl rfl rfl (by decide +kernel) ⟨Nat.le_of_ble_eq_true rfl, Nat.le_of_ble_eq_true rfl⟩) hK hN hP hD hS hA 0 6 rfl rfl rfl [0, 1] [2, 3] rfl (by decide) rfl (by decide) (by decide) rfl hl.1 rfl (Nat.le_of_ble_eq_true rfl) dX6_undo_10 ⟨Nat.zero_le _, Nat.zero_le _⟩ (fun r_10 u H locs hw hP hD hS => ?_)
    obtain ⟨G_10, rfl⟩ : ∃ z, z = u := ⟨_, rfl⟩
    try dsimp only at hw
    obtain ⟨q1_10, q2_10⟩ := hw
    have q1_10 := q1_10.symm
    subst q1_10
    have q2_10 := q2_10.symm
    subst q2_10
    have hP : va_P D vwCl [(y, .inr (6, [.ref yr, .int mq, .int mn, .ref yw, .ref yc, .int mc, .ref yl, .int me, .ref ys, .ref yp, .ref ym, .int md, .ref yo, .ref yk, .ref yt, .int mz, .ref yi, .ref yz, .ref yx, .ref yu, .int km, .int kr])), (yr, .inl (cI, 7, .inl (md_bump G (-3)))), (yw, .inl (cI, 20, .inl v)), (yc, .inl (cI, 48, .inl cf))] H := hP.sub [2, 3, 0, 1] rfl
    have hD : va_D A [(y, .inr (6, [.ref yr, .int mq, .int mn, .ref yw, .ref yc, .int mc, .ref yl, .int me, .ref ys, .ref yp, .ref ym, .int md, .ref yo, .ref yk, .ref yt, .int mz, .ref yi, .ref yz, .ref yx, .ref yu, .int km, .int kr])), (yr, .inl (cI, 7, .inl (md_bump G (-3)))), (yw, .inl (cI, 20, .inl v)), (yc, .inl (cI, 48, .inl cf))] := hD.sub [2, 3, 0, 1] (by decide) rfl
    exact wrI (w1 := (fun (u : Int32 × (Nat → Int32) × (Nat → Int32)) => [(y, .inr (6, [.ref yr, .int mq, .int mn, .ref yw, .ref yc, .int u.1, .ref yl, .int me, .ref ys, .ref yp, .ref ym, .int md, .ref yo, .ref yk, .ref yt, .int mz, .ref yi, .ref yz, .ref yx, .ref yu, .int km, .int kr])), (yr, .inl (cI, 7, .inl u.2.1)), (yw, .inl (cI, 20, .inl u.2.2)), (yc, .inl (cI, 48, .inl cf))])) (mc, (md_bump G (-3)), v) hx hb hr hlocks dX6_undo_13 hS (hP.sub [0, 1, 2, 3] rfl) (hD.sub [0, 1, 2, 3] (by decide) rfl) (by have e9 : rf_z mc = -3 := (by unfold rf_z; rw [if_pos c_4]); simp [e9])

set_option maxHeartbeats 4000000 in
set_option maxRecDepth 100000 in
theorem c_X6_lengthOf (l : Launch) (D : va_G) (cI cZ cR : ClassId) (y yr yw yc yl ys yp ym yo yk yt yi yz yx yu : Nat) (mq mn mc me md mz km kr : Int32) (Mf : Nat → Int32) (M : List Int32) (j : Nat) (hrep : so_rep M md Mf) (hp : ∀ i, i < M.length → 0 < gpL mq M i) (hj : j < 1000) : Met l yX6_lengthOf wsX6_lengthOf ({ frames := 1, cells := 0, slots := 0, locals := 21 }) (PcR D cI cZ cR [.ref y, .int (nI j)] [(y, .inr (6, [.ref yr, .int mq, .int mn, .ref yw, .ref yc, .int mc, .ref yl, .int me, .ref ys, .ref yp, .ref ym, .int md, .ref yo, .ref yk, .ref yt, .int mz, .ref yi, .ref yz, .ref yx, .ref yu, .int km, .int kr])), (ym, .inl (cI, 200, .inl Mf))]) (k2_QcV (.int (if j < (gaps mq M).length then (gaps mq M).getD j 0 else -9))) 0 0 (fun _ => False) := by
  refine Met.ofW (cc := cX6_lengthOf) (maxL := 7) (ret := (some .int)) (by decide) rfl ?_
  intro p e s m args below meth c s₁ B hml hv
  obtain ⟨rfl, hP, hK, hN⟩ := hv
  have hx := B.exec
  have hb := B.bytes
  have hr := B.returns
  have hts := atoms_spec (ws := wsX6_lengthOf) B.pre
  have hown : s.vm.findClass RX6 = some m.cls := findClass_of_methodNamed B.named
  have hlocks := B.notSynchronized
  have hP : va_P D vwCl [(y, .inr (6, [.ref yr, .int mq, .int mn, .ref yw, .ref yc, .int mc, .ref yl, .int me, .ref ys, .ref yp, .ref ym, .int md, .ref yo, .ref yk, .ref yt, .int mz, .ref yi, .ref yz, .ref yx, .ref yu, .int km, .int kr])), (ym, .inl (cI, 200, .inl Mf))] s.heap := hP
  have hl := lv_entry ([.ref y, .int (nI j)]) (n := 7) (Nat.le_of_ble_eq_true rfl)
  rw [lg_entry_eq]
  generalize (lg_sl ([.ref y, .int (nI j)]) ++ List.replicate (7 - (lg_sl ([.ref y, .int (nI j)])).length) Slot.unset).toArray = ls at hl ⊢
  have hl : lv_has ls 7 [(0, .ref y), (1, .int (nI j))] := hl
  have hlen := hrep.2.1
  have hgl : (gaps mq M).length ≤ M.length := mk_len _ _
  refine lv_iconst (v := 0) hx hb dX6_lengthOf_0 (by decide) ?_
  refine lv_istore_n (lv' := [(2, .int 0), (0, .ref y), (1, .int (nI j))]) hx hb dX6_lengthOf_1 rfl hl (by decide) rfl (fun ls hl => ?_)
  refine lv_iconst (v := 0) hx hb dX6_lengthOf_2 (by decide) ?_
  refine lv_istore_n (lv' := [(3, .int 0), (2, .int 0), (0, .ref y), (1, .int (nI j))]) hx hb dX6_lengthOf_3 rfl hl (by decide) rfl (fun ls hl => ?_)
  have loop_4 : ∀ (fuel : Nat), ∀ (k : Nat), ∀ (lst : Int32), (k ≤ j + 1) → (k ≤ (gaps mq M).length) → (lst = lstK (gaps mq M) k) → (j + 2 ≤ k + fuel) → ∀ (y3 : Int32), y3 = nI k → ∀ (ls : Array Slot), lv_has ls 7 [(2, .int lst), (3, .int y3), (0, .ref y), (1, .int (nI j))] → W p l e (headSpec wsX6_lengthOf ({ frames := 1, cells := 0, slots := 0, locals := 21 })).room s m ([.ref y, .int (nI j)] : List Value).toArray below meth c s.heap [] 0 0 (MQ below (k2_QcV (.int (if j < (gaps mq M).length then (gaps mq M).getD j 0 else -9))) ([.ref y, .int (nI j)] : List Value).toArray s 0 0 (fun _ => False)) (F0 m 4 ls []) := by
    intro fuel
    induction fuel with
    | zero =>
      intro k lst hk hkG hls hfu
      exact False.elim (by omega)
    | succ fuel ih_4 =>
      intro k lst hk hkG hls hfu y3 ey3 ls hl
      subst ey3
      refine lv_iload_n hx hb dX6_lengthOf_4 rfl (lv_at hl 1 rfl) ?_
      refine lv_iload_n hx hb dX6_lengthOf_5 rfl (lv_at hl 3 rfl) ?_
      refine lv_icmp_gt (tgt := 87) hx hb dX6_lengthOf_6 (by decide) (fun c_6 => ?_) (fun c_6 => ?_)
      · skip
        refine lv_iload_n hx hb dX6_lengthOf_87 rfl (lv_at hl 0 rfl) ?_
        exact rdI hx hb hr hlocks dX6_lengthOf_88 (by have h9 := (nI_ltI (a := j) (b := k) (by omega) (by omega)).mp c_6; have e9 : k = j + 1 := (by omega); rw [if_pos (by omega), hls, e9]; rfl)
      · skip
        have hkj : k ≤ j := by rcases Nat.lt_or_ge j k with q9 | q9; exact absurd (nI_lt q9 (by omega)) c_6; exact q9
        have hl0 : 0 ≤ lst := by rw [hls]; exact lstK_0 hp hkG
        refine lv_bipush (v := (-9)) hx hb dX6_lengthOf_9 (by decide) ?_
        refine lv_istore (lv' := [(4, .int (-9)), (2, .int lst), (3, .int (nI k)), (0, .ref y), (1, .int (nI j))]) hx hb dX6_lengthOf_11 hl (by decide) rfl (fun ls hl => ?_)
        refine lv_iconst (v := 0) hx hb dX6_lengthOf_13 (by decide) ?_
        refine lv_istore (lv' := [(5, .int 0), (4, .int (-9)), (2, .int lst), (3, .int (nI k)), (0, .ref y), (1, .int (nI j))]) hx hb dX6_lengthOf_14 hl (by decide) rfl (fun ls hl => ?_)
        have loop_16 : ∀ (fuel : Nat), ∀ (i : Nat), ∀ (nx : Int32), (i ≤ M.length) → (nxt mq M lst i nx) → (M.length + 1 ≤ i + fuel) → ∀ (y5 : Int32), y5 = nI i → ∀ (ls : Array Slot), lv_has ls 7 [(4, .int nx), (5, .int y5), (0, .ref y), (1, .int (nI j)), (2, .int lst), (3, .int (nI k))] → W p l e (headSpec wsX6_lengthOf ({ frames := 1, cells := 0, slots := 0, locals := 21 })).room s m ([.ref y, .int (nI j)] : List Value).toArray below meth c s.heap [] 0 0 (MQ below (k2_QcV (.int (if j < (gaps mq M).length then (gaps mq M).getD j 0 else -9))) ([.ref y, .int (nI j)] : List Value).toArray s 0 0 (fun _ => False)) (F0 m 16 ls []) := by
          intro fuel
          induction fuel with
          | zero =>
            intro i nx hi hnx hfu2
            exact False.elim (by omega)
          | succ fuel ih_16 =>
            intro i nx hi hnx hfu2 y5 ey5 ls hl
            subst ey5
            refine lv_iload hx hb dX6_lengthOf_16 (lv_at hl 1 rfl) ?_
            refine lv_aload_n hx hb dX6_lengthOf_18 rfl (lv_at hl 2 rfl) ?_
            refine va_get (D := D) (ci := 6) (v := .int md) (C := RX6) (T := TX6) (N := 22) hx hb hts (in_X6_lengthOf_X6) hown hK hP 0 rfl rfl 11 (by decide) (hts (.fieldLink RX6 146 "StepsRoundCircleModel" "marked" "I") (by decide +kernel)) (fun _ h9 => h9) rfl dX6_lengthOf_19 ?_
            refine lv_topi (fun z_22 hz_22 => ?_)
            have hz_22 : z_22 = nI M.length := hz_22.trans hrep.1
            subst hz_22
            refine lv_icmp_ge (tgt := 68) hx hb dX6_lengthOf_22 (by decide) (fun c_22 => ?_) (fun c_22 => ?_)
            · skip
              have hend : i = M.length := by have := (nI_leI (by omega) (by omega)).mp c_22; omega
              have hnx9 : nxt mq M (lstK (gaps mq M) k) M.length nx := by rw [← hls, ← hend]; exact hnx
              refine lv_iload hx hb dX6_lengthOf_68 (lv_at hl 0 rfl) ?_
              refine lv_bipush (v := (-9)) hx hb dX6_lengthOf_70 (by decide) ?_
              refine lv_icmp_ne (tgt := 78) hx hb dX6_lengthOf_72 (by decide) (fun c_72 => ?_) (fun c_72 => ?_)
              · skip
                have hy9 := nxt_yes hp hkG hnx9 c_72
                refine lv_iload hx hb dX6_lengthOf_78 (lv_at hl 0 rfl) ?_
                refine lv_istore_n (lv' := [(2, .int nx), (4, .int nx), (5, .int (nI i)), (0, .ref y), (1, .int (nI j)), (3, .int (nI k))]) hx hb dX6_lengthOf_80 rfl hl (by decide) rfl (fun ls hl => ?_)
                refine lv_iinc (v := (nI k) + 1) (lv' := [(3, .int ((nI k) + 1)), (2, .int nx), (4, .int nx), (5, .int (nI i)), (0, .ref y), (1, .int (nI j))]) hx hb dX6_lengthOf_81 hl (k := 5) rfl (by rfl) (by decide) rfl (fun ls hl => ?_)
                refine lv_goto (tgt := 4) hx hb dX6_lengthOf_84 (by decide) ?_
                exact ih_4 (k + 1) nx (by omega) hy9.1 (by rw [hy9.2]; rfl) (by omega) _ (by first | rfl | exact nI_1 _ | exact nI_0.symm) ls (lv_sub hl [1, 0, 4, 5] rfl)
              · skip
                refine lv_bipush (v := (-9)) hx hb dX6_lengthOf_75 (by decide) ?_
                exact rdI hx hb hr hlocks dX6_lengthOf_77 (by have h9 := nxt_none hp (lstK_0 hp hkG) hkG hnx9 c_72; rw [if_neg (by omega)])
            · skip
              have hiN : i < M.length := by rcases Nat.lt_or_ge i M.length with q9 | q9; exact q9; exact absurd (nI_le q9 (by omega)) c_22
              refine lv_aload_n hx hb dX6_lengthOf_25 rfl (lv_at hl 2 rfl) ?_
              refine lv_iload hx hb dX6_lengthOf_26 (lv_at hl 1 rfl) ?_
              refine rdV (As := [.int (nI i)]) (rest := []) ⟨hx, hb, hml, hown, hts⟩ (c_X6_gap l D cI cZ cR y yr yw yc yl ys yp ym yo yk yt yi yz yx yu mq mn mc me md mz km kr Mf M i hrep hiN) (cwV 1 hts gX6_lengthOf_X6_gap rfl rfl rfl (by decide +kernel) ⟨Nat.le_of_ble_eq_true rfl, Nat.le_of_ble_eq_true rfl⟩) hK hN hP 0 6 rfl rfl rfl [0, 1] rfl rfl hl.1 rfl (Nat.le_of_ble_eq_true rfl) dX6_lengthOf_28 ⟨Nat.zero_le _, Nat.zero_le _⟩ ?_
              refine lv_istore (lv' := [(6, .int (gpL mq M i)), (4, .int nx), (5, .int (nI i)), (0, .ref y), (1, .int (nI j)), (2, .int lst), (3, .int (nI k))]) hx hb dX6_lengthOf_31 hl (by decide) rfl (fun ls hl => ?_)
              refine lv_iload hx hb dX6_lengthOf_33 (lv_at hl 0 rfl) ?_
              refine lv_iload_n hx hb dX6_lengthOf_35 rfl (lv_at hl 5 rfl) ?_
              refine lv_icmp_le (tgt := 58) hx hb dX6_lengthOf_36 (by decide) (fun c_36 => ?_) (fun c_36 => ?_)
              · skip
                refine lv_iload hx hb dX6_lengthOf_58 (lv_at hl 1 rfl) ?_
                refine lv_istore (lv' := [(4, .int nx), (6, .int (gpL mq M i)), (5, .int (nI i)), (0, .ref y), (1, .int (nI j)), (2, .int lst), (3, .int (nI k))]) hx hb dX6_lengthOf_60 hl (by decide) rfl (fun ls hl => ?_)
                refine lv_iinc (v := (nI i) + 1) (lv' := [(5, .int ((nI i) + 1)), (4, .int nx), (6, .int (gpL mq M i)), (0, .ref y), (1, .int (nI j)), (2, .int lst), (3, .int (nI k))]) hx hb dX6_lengthOf_62 hl (k := 2) rfl (by rfl) (by decide) rfl (fun ls hl => ?_)
                refine lv_goto (tgt := 16) hx hb dX6_lengthOf_65 (by decide) ?_
                exact ih_16 (i + 1) nx (by omega) (nxt_skip hnx c_36) (by omega) _ (by first | rfl | exact nI_1 _ | exact nI_0.symm) ls (lv_sub hl [1, 0, 3, 4, 5, 6] rfl)
              · skip
                refine lv_iload hx hb dX6_lengthOf_39 (lv_at hl 1 rfl) ?_
                refine lv_bipush (v := (-9)) hx hb dX6_lengthOf_41 (by decide) ?_
                refine lv_icmp_eq (tgt := 53) hx hb dX6_lengthOf_43 (by decide) (fun c_43 => ?_) (fun c_43 => ?_)
                · skip
                  refine lv_iload hx hb dX6_lengthOf_53 (lv_at hl 0 rfl) ?_
                  refine lv_goto (tgt := 60) hx hb dX6_lengthOf_55 (by decide) ?_
                  refine lv_istore (lv' := [(4, .int (gpL mq M i)), (6, .int (gpL mq M i)), (5, .int (nI i)), (0, .ref y), (1, .int (nI j)), (2, .int lst), (3, .int (nI k))]) hx hb dX6_lengthOf_60 hl (by decide) rfl (fun ls hl => ?_)
                  refine lv_iinc (v := (nI i) + 1) (lv' := [(5, .int ((nI i) + 1)), (4, .int (gpL mq M i)), (6, .int (gpL mq M i)), (0, .ref y), (1, .int (nI j)), (2, .int lst), (3, .int (nI k))]) hx hb dX6_lengthOf_62 hl (k := 2) rfl (by rfl) (by decide) rfl (fun ls hl => ?_)
                  refine lv_goto (tgt := 16) hx hb dX6_lengthOf_65 (by decide) ?_
                  exact ih_16 (i + 1) (gpL mq M i) (by omega) (nxt_first hl0 hnx c_43 (Int32.not_le.mp c_36)) (by omega) _ (by first | rfl | exact nI_1 _ | exact nI_0.symm) ls (lv_sub hl [1, 0, 3, 4, 5, 6] rfl)
                · skip
                  refine lv_iload hx hb dX6_lengthOf_46 (lv_at hl 0 rfl) ?_
                  refine lv_iload hx hb dX6_lengthOf_48 (lv_at hl 1 rfl) ?_
                  refine lv_icmp_ge (tgt := 58) hx hb dX6_lengthOf_50 (by decide) (fun c_50 => ?_) (fun c_50 => ?_)
                  · skip
                    refine lv_iload hx hb dX6_lengthOf_58 (lv_at hl 1 rfl) ?_
                    refine lv_istore (lv' := [(4, .int nx), (6, .int (gpL mq M i)), (5, .int (nI i)), (0, .ref y), (1, .int (nI j)), (2, .int lst), (3, .int (nI k))]) hx hb dX6_lengthOf_60 hl (by decide) rfl (fun ls hl => ?_)
                    refine lv_iinc (v := (nI i) + 1) (lv' := [(5, .int ((nI i) + 1)), (4, .int nx), (6, .int (gpL mq M i)), (0, .ref y), (1, .int (nI j)), (2, .int lst), (3, .int (nI k))]) hx hb dX6_lengthOf_62 hl (k := 2) rfl (by rfl) (by decide) rfl (fun ls hl => ?_)
                    refine lv_goto (tgt := 16) hx hb dX6_lengthOf_65 (by decide) ?_
                    exact ih_16 (i + 1) nx (by omega) (nxt_keep hnx c_43 c_50) (by omega) _ (by first | rfl | exact nI_1 _ | exact nI_0.symm) ls (lv_sub hl [1, 0, 3, 4, 5, 6] rfl)
                  · skip
                    refine lv_iload hx hb dX6_lengthOf_53 (lv_at hl 0 rfl) ?_
                    refine lv_goto (tgt := 60) hx hb dX6_lengthOf_55 (by decide) ?_
                    refine lv_istore (lv' := [(4, .int (gpL mq M i)), (6, .int (gpL mq M i)), (5, .int (nI i)), (0, .ref y), (1, .int (nI j)), (2, .int lst), (3, .int (nI k))]) hx hb dX6_lengthOf_60 hl (by decide) rfl (fun ls hl => ?_)
                    refine lv_iinc (v := (nI i) + 1) (lv' := [(5, .int ((nI i) + 1)), (4, .int (gpL mq M i)), (6, .int (gpL mq M i)), (0, .ref y), (1, .int (nI j)), (2, .int lst), (3, .int (nI k))]) hx hb dX6_lengthOf_62 hl (k := 2) rfl (by rfl) (by decide) rfl (fun ls hl => ?_)
                    refine lv_goto (tgt := 16) hx hb dX6_lengthOf_65 (by decide) ?_
                    exact ih_16 (i + 1) (gpL mq M i) (by omega) (nxt_less hnx c_43 (Int32.not_le.mp c_36) (Int32.not_le.mp c_50)) (by omega) _ (by first | rfl | exact nI_1 _ | exact nI_0.symm) ls (lv_sub hl [1, 0, 3, 4, 5, 6] rfl)
        exact loop_16 (M.length + 1) 0 (-9) (by omega) (Or.inl ⟨rfl, fun t ht => absurd ht (Nat.not_lt_zero t)⟩) (by omega) _ (by first | rfl | exact nI_1 _ | exact nI_0.symm) ls (lv_sub hl [1, 0, 4, 5, 2, 3] rfl)
  exact loop_4 (j + 2) 0 0 (by omega) (Nat.zero_le _) rfl (by omega) _ (by first | rfl | exact nI_1 _ | exact nI_0.symm) ls (lv_sub hl [1, 0, 2, 3] rfl)
