theorem in_X6_shared_X6 : ∀ w ∈ wsX60, w ∈ wsX6_shared := by decide +kernel
set_option maxHeartbeats 4000000 in
set_option maxRecDepth 100000 in
theorem c_X6_shared (l : Launch) (D : va_G) (cI cZ cR : ClassId) (y yr yw yc yl ys yp ym yo yk yt yi yz yx yu : Nat) (mq mn mc me md mz km kr : Int32) (G : Nat → Int32) (v P Mf of9 : Nat → Int32) (o oo n k : Int32) (hq : okQ mq) (hmn : 0 ≤ mn) (hm5 : mn ≤ 5) (hws : ∀ w, 0 ≤ w ∧ w < mn → okW mq v w) (sz : Nat) : Met l yX6_shared wsX6_shared ({ frames := 4, cells := 0, slots := 0, locals := 99 }) (PcW D cI cZ cR [.ref y, .int o, .int oo, .int n, .int k] [(y, .inr (6, [.ref yr, .int mq, .int mn, .ref yw, .ref yc, .int mc, .ref yl, .int me, .ref ys, .ref yp, .ref ym, .int md, .ref yo, .ref yk, .ref yt, .int mz, .ref yi, .ref yz, .ref yx, .ref yu, .int km, .int kr])), (yr, .inl (cI, 7, .inl G)), (yw, .inl (cI, 20, .inl v)), (yp, .inl (cI, 200, .inl P)), (ym, .inl (cI, 200, .inl Mf)), (yo, .inl (cI, 200, .inl of9))] sz) (va_Qi (fun (res : Int32) (u : (Nat → Int32) × Int32 × (Nat → Int32) × (Nat → Int32) × (Nat → Int32)) => res = (if rf_sha mn o oo n k = 0 then shaA (mk (plK mq v o) n.toNatClampNeg) (mk (plK mq v oo) n.toNatClampNeg) k else rf_sha mn o oo n k) ∧ u.1 = (if rf_sha mn o oo n k = 0 then G else md_bump G (rf_sha mn o oo n k))) (Bw D (fun (u : (Nat → Int32) × Int32 × (Nat → Int32) × (Nat → Int32) × (Nat → Int32)) => [(y, .inr (6, [.ref yr, .int mq, .int mn, .ref yw, .ref yc, .int mc, .ref yl, .int me, .ref ys, .ref yp, .ref ym, .int u.2.1, .ref yo, .ref yk, .ref yt, .int mz, .ref yi, .ref yz, .ref yx, .ref yu, .int km, .int kr])), (yr, .inl (cI, 7, .inl u.1)), (yw, .inl (cI, 20, .inl v)), (yp, .inl (cI, 200, .inl u.2.2.1)), (ym, .inl (cI, 200, .inl u.2.2.2.1)), (yo, .inl (cI, 200, .inl u.2.2.2.2))]) (va_A [(y, .inr (6, [.ref yr, .int mq, .int mn, .ref yw, .ref yc, .int mc, .ref yl, .int me, .ref ys, .ref yp, .ref ym, .int md, .ref yo, .ref yk, .ref yt, .int mz, .ref yi, .ref yz, .ref yx, .ref yu, .int km, .int kr])), (yr, .inl (cI, 7, .inl G)), (yw, .inl (cI, 20, .inl v)), (yp, .inl (cI, 200, .inl P)), (ym, .inl (cI, 200, .inl Mf)), (yo, .inl (cI, 200, .inl of9))] sz)) (va_A [(y, .inr (6, [.ref yr, .int mq, .int mn, .ref yw, .ref yc, .int mc, .ref yl, .int me, .ref ys, .ref yp, .ref ym, .int md, .ref yo, .ref yk, .ref yt, .int mz, .ref yi, .ref yz, .ref yx, .ref yu, .int km, .int kr])), (yr, .inl (cI, 7, .inl G)), (yw, .inl (cI, 20, .inl v)), (yp, .inl (cI, 200, .inl P)), (ym, .inl (cI, 200, .inl Mf)), (yo, .inl (cI, 200, .inl of9))] sz)) 0 0 (va_A [(y, .inr (6, [.ref yr, .int mq, .int mn, .ref yw, .ref yc, .int mc, .ref yl, .int me, .ref ys, .ref yp, .ref ym, .int md, .ref yo, .ref yk, .ref yt, .int mz, .ref yi, .ref yz, .ref yx, .ref yu, .int km, .int kr])), (yr, .inl (cI, 7, .inl G)), (yw, .inl (cI, 20, .inl v)), (yp, .inl (cI, 200, .inl P)), (ym, .inl (cI, 200, .inl Mf)), (yo, .inl (cI, 200, .inl of9))] sz) := by
  refine Met.ofW (cc := cX6_shared) (maxL := 12) (ret := (some .int)) (by decide) rfl ?_
  intro p e s m args below meth c s₁ B hml hv
  obtain ⟨rfl, hsz, hP, hK, hD0, hN⟩ := hv
  have hx := B.exec
  have hb := B.bytes
  have hr := B.returns
  have hts := atoms_spec (ws := wsX6_shared) B.pre
  have hown : s.vm.findClass RX6 = some m.cls := findClass_of_methodNamed B.named
  have hlocks := B.notSynchronized
  subst hsz
  have hD := hD0.self (sz := s.heap.size)
  generalize hAe : va_A [(y, .inr (6, [.ref yr, .int mq, .int mn, .ref yw, .ref yc, .int mc, .ref yl, .int me, .ref ys, .ref yp, .ref ym, .int md, .ref yo, .ref yk, .ref yt, .int mz, .ref yi, .ref yz, .ref yx, .ref yu, .int km, .int kr])), (yr, .inl (cI, 7, .inl G)), (yw, .inl (cI, 20, .inl v)), (yp, .inl (cI, 200, .inl P)), (ym, .inl (cI, 200, .inl Mf)), (yo, .inl (cI, 200, .inl of9))] s.heap.size = A at hD ⊢
  have hA : ∀ q : Nat, s.heap.size ≤ q → A q := fun q h => by rw [← hAe]; exact Or.inr h
  have hS : va_S A s.heap s.heap [] := va_S.rf
  have hP : va_P D vwCl [(y, .inr (6, [.ref yr, .int mq, .int mn, .ref yw, .ref yc, .int mc, .ref yl, .int me, .ref ys, .ref yp, .ref ym, .int md, .ref yo, .ref yk, .ref yt, .int mz, .ref yi, .ref yz, .ref yx, .ref yu, .int km, .int kr])), (yr, .inl (cI, 7, .inl G)), (yw, .inl (cI, 20, .inl v)), (yp, .inl (cI, 200, .inl P)), (ym, .inl (cI, 200, .inl Mf)), (yo, .inl (cI, 200, .inl of9))] s.heap := hP
  have hl := lv_entry ([.ref y, .int o, .int oo, .int n, .int k]) (n := 12) (Nat.le_of_ble_eq_true rfl)
  rw [lg_entry_eq]
  generalize (lg_sl ([.ref y, .int o, .int oo, .int n, .int k]) ++ List.replicate (12 - (lg_sl ([.ref y, .int o, .int oo, .int n, .int k])).length) Slot.unset).toArray = ls at hl ⊢
  have hl : lv_has ls 12 [(0, .ref y), (1, .int o), (2, .int oo), (3, .int n), (4, .int k)] := hl
  refine lv_aload_n hx hb dX6_shared_0 rfl (lv_at hl 0 rfl) ?_
  refine lv_iload_n hx hb dX6_shared_1 rfl (lv_at hl 1 rfl) ?_
  refine lv_iload_n hx hb dX6_shared_2 rfl (lv_at hl 2 rfl) ?_
  refine rdV (As := [.int o, .int oo]) (rest := []) ⟨hx, hb, hml, hown, hts⟩ (c_X6_areTwo l D cI cZ cR y yr yw yc yl ys yp ym yo yk yt yi yz yx yu mq mn mc me md mz km kr o oo hmn) (cwV 2 hts gX6_shared_X6_areTwo rfl rfl rfl (by decide +kernel) ⟨Nat.le_of_ble_eq_true rfl, Nat.le_of_ble_eq_true rfl⟩) hK hN hP 0 6 rfl rfl rfl [0] rfl rfl hl.1 rfl (Nat.le_of_ble_eq_true rfl) dX6_shared_3 ⟨Nat.zero_le _, Nat.zero_le _⟩ ?_
  refine lv_if_ne (tgt := 15) hx hb dX6_shared_6 (by decide) (fun c_6 => ?_) (fun c_6 => ?_)
  · skip
    have c_6 := bi_ne0.mp c_6
    have e0 := sha_beh (n := n) (k := k) c_6
    have e1 := sha_num (n := n) c_6
    refine lv_iload_n hx hb dX6_shared_15 rfl (lv_at hl 3 rfl) ?_
    refine lv_iconst (v := 1) hx hb dX6_shared_16 (by decide) ?_
    refine lv_sipush (v := 200) hx hb dX6_shared_17 (by decide) ?_
    refine rdS (As := [.int n, .int 1, .int 200]) (rest := []) ⟨hx, hb, hml, hown, hts⟩ (c_X6_range l D cI cZ cR n 1 200 ) (va_cwS 3 hts gX6_shared_X6_range rfl rfl rfl (by decide +kernel) ⟨Nat.le_of_ble_eq_true rfl, Nat.le_of_ble_eq_true rfl⟩) hK hN hP [] rfl rfl hl.1 rfl (Nat.le_of_ble_eq_true rfl) dX6_shared_20 ⟨Nat.zero_le _, Nat.zero_le _⟩ ?_
    refine lv_istore (lv' := [(5, .int (rng n 1 200)), (0, .ref y), (1, .int o), (2, .int oo), (3, .int n), (4, .int k)]) hx hb dX6_shared_23 hl (by decide) rfl (fun ls hl => ?_)
    refine lv_iload hx hb dX6_shared_25 (lv_at hl 0 rfl) ?_
    refine lv_if_eq (tgt := 37) hx hb dX6_shared_27 (by decide) (fun c_27 => ?_) (fun c_27 => ?_)
    · skip
      have hn9 := rng_0 c_27
      have hn := n200 hn9
      refine lv_iload hx hb dX6_shared_37 (lv_at hl 5 rfl) ?_
      refine lv_i2l hx hb dX6_shared_39 rfl ?_
      refine lv_lconst (v := 0) hx hb dX6_shared_40 (by decide) ?_
      refine lv_lconst (v := 1) hx hb dX6_shared_41 (by decide) ?_
      refine rdS (As := [.long k.toInt64, .long 0, .long 1]) (rest := []) ⟨hx, hb, hml, hown, hts⟩ (c_X6_in l D cI cZ cR k.toInt64 0 1 ) (va_cwS 3 hts gX6_shared_X6_in rfl rfl rfl (by decide +kernel) ⟨Nat.le_of_ble_eq_true rfl, Nat.le_of_ble_eq_true rfl⟩) hK hN hP [] rfl rfl hl.1 rfl (Nat.le_of_ble_eq_true rfl) dX6_shared_42 ⟨Nat.zero_le _, Nat.zero_le _⟩ ?_
      refine lv_if_ne (tgt := 55) hx hb dX6_shared_45 (by decide) (fun c_45 => ?_) (fun c_45 => ?_)
      · skip
        have c_45 := bi_ne0.mp c_45
        have eR : rf_sha mn o oo n k = 0 := e0.trans (rf_beh_m (e1.trans c_27) ((md_w1 k).mp c_45))
        refine lv_aload_n hx hb dX6_shared_55 rfl (lv_at hl 1 rfl) ?_
        refine lv_iload_n hx hb dX6_shared_56 rfl (lv_at hl 2 rfl) ?_
        refine lv_iload_n hx hb dX6_shared_57 rfl (lv_at hl 4 rfl) ?_
        refine wrVv (As := [.int o, .int n]) (rest := []) (wr := [(yr, .inl (cI, 7, .inl G)), (yo, .inl (cI, 200, .inl of9))]) (A := A) ⟨hx, hb, hml, hown, hts⟩ (c_X6_sorts l D cI cZ cR y yr yw yc yl ys yp ym yo yk yt yi yz yx yu mq mn mc me md mz km kr v P Mf o n hq (w5 hm5 c_6.2.1) (hws o c_6.2.1) hn.2.1 s.heap.size) (cwV 2 hts gX6_shared_X6_sorts rfl rfl rfl (by decide +kernel) ⟨Nat.le_of_ble_eq_true rfl, Nat.le_of_ble_eq_true rfl⟩) hK hN hP hD hS hA 0 6 rfl rfl rfl [0, 2, 3, 4] [1, 5] rfl (by decide) rfl (by decide) (by decide) rfl hl.1 rfl (Nat.le_of_ble_eq_true rfl) dX6_shared_58 ⟨Nat.zero_le _, Nat.zero_le _⟩ (fun u H locs hw hP hD hS => ?_)
        obtain ⟨md_58, P_58, M_58⟩ := u
        try dsimp only at hw
        obtain ⟨h1_58, h2_58⟩ := hw
        have hP : va_P D vwCl [(y, .inr (6, [.ref yr, .int mq, .int mn, .ref yw, .ref yc, .int mc, .ref yl, .int me, .ref ys, .ref yp, .ref ym, .int md_58, .ref yo, .ref yk, .ref yt, .int mz, .ref yi, .ref yz, .ref yx, .ref yu, .int km, .int kr])), (yr, .inl (cI, 7, .inl G)), (yw, .inl (cI, 20, .inl v)), (yp, .inl (cI, 200, .inl P_58)), (ym, .inl (cI, 200, .inl M_58)), (yo, .inl (cI, 200, .inl of9))] H := hP.sub [2, 0, 3, 4, 5, 1] rfl
        have hD : va_D A [(y, .inr (6, [.ref yr, .int mq, .int mn, .ref yw, .ref yc, .int mc, .ref yl, .int me, .ref ys, .ref yp, .ref ym, .int md_58, .ref yo, .ref yk, .ref yt, .int mz, .ref yi, .ref yz, .ref yx, .ref yu, .int km, .int kr])), (yr, .inl (cI, 7, .inl G)), (yw, .inl (cI, 20, .inl v)), (yp, .inl (cI, 200, .inl P_58)), (ym, .inl (cI, 200, .inl M_58)), (yo, .inl (cI, 200, .inl of9))] := hD.sub [2, 0, 3, 4, 5, 1] (by decide) rfl
        have hMl := h2_58.2.1
        have hMf := h2_58.2.2
        refine lv_aload_n hx hb dX6_shared_61 rfl (lv_at hl 1 rfl) ?_
        refine va_get (D := D) (ci := 6) (v := .int md_58) (C := RX6) (T := TX6) (N := 22) hx hb hts (in_X6_shared_X6) hown hK hP 0 rfl rfl 11 (by decide) (hts (.fieldLink RX6 146 "StepsRoundCircleModel" "marked" "I") (by decide +kernel)) (fun _ h9 => h9) rfl dX6_shared_62 ?_
        refine lv_topi (fun z_65 hz_65 => ?_)
        have hz_65 : z_65 = nI (mk (plK mq v o) n.toNatClampNeg).length := hz_65.trans h2_58.1
        subst hz_65
        refine lv_istore (lv' := [(6, .int (nI (mk (plK mq v o) n.toNatClampNeg).length)), (5, .int (rng n 1 200)), (0, .ref y), (1, .int o), (2, .int oo), (3, .int n), (4, .int k)]) hx hb dX6_shared_65 hl (by decide) rfl (fun ls hl => ?_)
        refine lv_iconst (v := 0) hx hb dX6_shared_67 (by decide) ?_
        refine lv_istore (lv' := [(7, .int 0), (6, .int (nI (mk (plK mq v o) n.toNatClampNeg).length)), (5, .int (rng n 1 200)), (0, .ref y), (1, .int o), (2, .int oo), (3, .int n), (4, .int k)]) hx hb dX6_shared_68 hl (by decide) rfl (fun ls hl => ?_)
        have loop_70 : ∀ (fuel : Nat), ∀ (i : Nat), ∀ (g : Nat → Int32), (i ≤ (mk (plK mq v o) n.toNatClampNeg).length) → (∀ j, j < i → g j = (mk (plK mq v o) n.toNatClampNeg).getD j 0) → ((mk (plK mq v o) n.toNatClampNeg).length + 1 ≤ i + fuel) → ∀ (y7 : Int32), y7 = nI i → ∀ (H : Heap) (locs : List Loc), va_P D vwCl [(y, .inr (6, [.ref yr, .int mq, .int mn, .ref yw, .ref yc, .int mc, .ref yl, .int me, .ref ys, .ref yp, .ref ym, .int md_58, .ref yo, .ref yk, .ref yt, .int mz, .ref yi, .ref yz, .ref yx, .ref yu, .int km, .int kr])), (yr, .inl (cI, 7, .inl G)), (yw, .inl (cI, 20, .inl v)), (yp, .inl (cI, 200, .inl P_58)), (ym, .inl (cI, 200, .inl M_58)), (yo, .inl (cI, 200, .inl g))] H → va_D A [(y, .inr (6, [.ref yr, .int mq, .int mn, .ref yw, .ref yc, .int mc, .ref yl, .int me, .ref ys, .ref yp, .ref ym, .int md_58, .ref yo, .ref yk, .ref yt, .int mz, .ref yi, .ref yz, .ref yx, .ref yu, .int km, .int kr])), (yr, .inl (cI, 7, .inl G)), (yw, .inl (cI, 20, .inl v)), (yp, .inl (cI, 200, .inl P_58)), (ym, .inl (cI, 200, .inl M_58)), (yo, .inl (cI, 200, .inl g))] → va_S A s.heap H locs → ∀ (ls : Array Slot), lv_has ls 12 [(7, .int y7), (0, .ref y), (1, .int o), (2, .int oo), (3, .int n), (4, .int k), (5, .int (rng n 1 200)), (6, .int (nI (mk (plK mq v o) n.toNatClampNeg).length))] → W p l e (headSpec wsX6_shared ({ frames := 4, cells := 0, slots := 0, locals := 99 })).room s m ([.ref y, .int o, .int oo, .int n, .int k] : List Value).toArray below meth c H locs 0 0 (MQ below (va_Qi (fun (res : Int32) (u : (Nat → Int32) × Int32 × (Nat → Int32) × (Nat → Int32) × (Nat → Int32)) => res = (if rf_sha mn o oo n k = 0 then shaA (mk (plK mq v o) n.toNatClampNeg) (mk (plK mq v oo) n.toNatClampNeg) k else rf_sha mn o oo n k) ∧ u.1 = (if rf_sha mn o oo n k = 0 then G else md_bump G (rf_sha mn o oo n k))) (Bw D (fun (u : (Nat → Int32) × Int32 × (Nat → Int32) × (Nat → Int32) × (Nat → Int32)) => [(y, .inr (6, [.ref yr, .int mq, .int mn, .ref yw, .ref yc, .int mc, .ref yl, .int me, .ref ys, .ref yp, .ref ym, .int u.2.1, .ref yo, .ref yk, .ref yt, .int mz, .ref yi, .ref yz, .ref yx, .ref yu, .int km, .int kr])), (yr, .inl (cI, 7, .inl u.1)), (yw, .inl (cI, 20, .inl v)), (yp, .inl (cI, 200, .inl u.2.2.1)), (ym, .inl (cI, 200, .inl u.2.2.2.1)), (yo, .inl (cI, 200, .inl u.2.2.2.2))]) A) A) ([.ref y, .int o, .int oo, .int n, .int k] : List Value).toArray s 0 0 A) (F0 m 70 ls []) := by
          intro fuel
          induction fuel with
          | zero =>
            intro i g hi hg hfu
            exact False.elim (by omega)
          | succ fuel ih_70 =>
            intro i g hi hg hfu y7 ey7 H locs hP hD hS ls hl
            subst ey7
            refine lv_iload hx hb dX6_shared_70 (lv_at hl 0 rfl) ?_
            refine lv_iload hx hb dX6_shared_72 (lv_at hl 7 rfl) ?_
            refine lv_icmp_ge (tgt := 97) hx hb dX6_shared_74 (by decide) (fun c_74 => ?_) (fun c_74 => ?_)
            · skip
              have hgN : ∀ j, j < (mk (plK mq v o) n.toNatClampNeg).length → g j = (mk (plK mq v o) n.toNatClampNeg).getD j 0 := fun j hj => hg j (by have := (nI_leI (by omega) (by omega)).mp c_74; omega)
              refine lv_aload_n hx hb dX6_shared_97 rfl (lv_at hl 1 rfl) ?_
              refine lv_iload_n hx hb dX6_shared_98 rfl (lv_at hl 3 rfl) ?_
              refine lv_iload_n hx hb dX6_shared_99 rfl (lv_at hl 4 rfl) ?_
              refine wrVv (As := [.int oo, .int n]) (rest := []) (wr := [(yr, .inl (cI, 7, .inl G)), (yo, .inl (cI, 200, .inl g))]) (A := A) ⟨hx, hb, hml, hown, hts⟩ (c_X6_sorts l D cI cZ cR y yr yw yc yl ys yp ym yo yk yt yi yz yx yu mq mn mc me md_58 mz km kr v P_58 M_58 oo n hq (w5 hm5 c_6.2.2) (hws oo c_6.2.2) hn.2.1 H.size) (cwV 2 hts gX6_shared_X6_sorts rfl rfl rfl (by decide +kernel) ⟨Nat.le_of_ble_eq_true rfl, Nat.le_of_ble_eq_true rfl⟩) hK hN hP hD hS hA 0 6 rfl rfl rfl [0, 2, 3, 4] [1, 5] rfl (by decide) rfl (by decide) (by decide) rfl hl.1 rfl (Nat.le_of_ble_eq_true rfl) dX6_shared_100 ⟨Nat.zero_le _, Nat.zero_le _⟩ (fun u H locs hw hP hD hS => ?_)
              obtain ⟨md_100, P_100, M_100⟩ := u
              try dsimp only at hw
              obtain ⟨h1_100, h2_100⟩ := hw
              have hP : va_P D vwCl [(y, .inr (6, [.ref yr, .int mq, .int mn, .ref yw, .ref yc, .int mc, .ref yl, .int me, .ref ys, .ref yp, .ref ym, .int md_100, .ref yo, .ref yk, .ref yt, .int mz, .ref yi, .ref yz, .ref yx, .ref yu, .int km, .int kr])), (yr, .inl (cI, 7, .inl G)), (yw, .inl (cI, 20, .inl v)), (yp, .inl (cI, 200, .inl P_100)), (ym, .inl (cI, 200, .inl M_100)), (yo, .inl (cI, 200, .inl g))] H := hP.sub [2, 0, 3, 4, 5, 1] rfl
              have hD : va_D A [(y, .inr (6, [.ref yr, .int mq, .int mn, .ref yw, .ref yc, .int mc, .ref yl, .int me, .ref ys, .ref yp, .ref ym, .int md_100, .ref yo, .ref yk, .ref yt, .int mz, .ref yi, .ref yz, .ref yx, .ref yu, .int km, .int kr])), (yr, .inl (cI, 7, .inl G)), (yw, .inl (cI, 20, .inl v)), (yp, .inl (cI, 200, .inl P_100)), (ym, .inl (cI, 200, .inl M_100)), (yo, .inl (cI, 200, .inl g))] := hD.sub [2, 0, 3, 4, 5, 1] (by decide) rfl
              have hUl := h2_100.2.1
              have hUf := h2_100.2.2
              refine lv_iconst (v := 0) hx hb dX6_shared_103 (by decide) ?_
              refine lv_istore (lv' := [(7, .int 0), (0, .ref y), (1, .int o), (2, .int oo), (3, .int n), (4, .int k), (5, .int (rng n 1 200)), (6, .int (nI (mk (plK mq v o) n.toNatClampNeg).length))]) hx hb dX6_shared_104 hl (by decide) rfl (fun ls hl => ?_)
              refine lv_bipush (v := (-9)) hx hb dX6_shared_106 (by decide) ?_
              refine lv_istore (lv' := [(8, .int (-9)), (7, .int 0), (0, .ref y), (1, .int o), (2, .int oo), (3, .int n), (4, .int k), (5, .int (rng n 1 200)), (6, .int (nI (mk (plK mq v o) n.toNatClampNeg).length))]) hx hb dX6_shared_108 hl (by decide) rfl (fun ls hl => ?_)
              refine lv_iconst (v := 0) hx hb dX6_shared_110 (by decide) ?_
              refine lv_istore (lv' := [(9, .int 0), (8, .int (-9)), (7, .int 0), (0, .ref y), (1, .int o), (2, .int oo), (3, .int n), (4, .int k), (5, .int (rng n 1 200)), (6, .int (nI (mk (plK mq v o) n.toNatClampNeg).length))]) hx hb dX6_shared_111 hl (by decide) rfl (fun ls hl => ?_)
              have loop_113 : ∀ (fuel : Nat), ∀ (i2 : Nat), ∀ (lst : Int32), (i2 ≤ (mk (plK mq v o) n.toNatClampNeg).length) → (ff2 (fun i => (mk (plK mq v o) n.toNatClampNeg).getD i 0 ∈ (mk (plK mq v oo) n.toNatClampNeg)) (fun i => (mk (plK mq v o) n.toNatClampNeg).getD i 0) 0 (mk (plK mq v o) n.toNatClampNeg).length = if lst = -9 then ff2 (fun i => (mk (plK mq v o) n.toNatClampNeg).getD i 0 ∈ (mk (plK mq v oo) n.toNatClampNeg)) (fun i => (mk (plK mq v o) n.toNatClampNeg).getD i 0) i2 ((mk (plK mq v o) n.toNatClampNeg).length - i2) else lst) → ((mk (plK mq v o) n.toNatClampNeg).length + 1 ≤ i2 + fuel) → ∀ (y7 : Int32), y7 = nI (fa_cnt (fun i => decide ((mk (plK mq v o) n.toNatClampNeg).getD i 0 ∈ (mk (plK mq v oo) n.toNatClampNeg))) i2) → ∀ (y9 : Int32), y9 = nI i2 → ∀ (ls : Array Slot), lv_has ls 12 [(7, .int y7), (8, .int lst), (9, .int y9), (0, .ref y), (1, .int o), (2, .int oo), (3, .int n), (4, .int k), (5, .int (rng n 1 200)), (6, .int (nI (mk (plK mq v o) n.toNatClampNeg).length))] → W p l e (headSpec wsX6_shared ({ frames := 4, cells := 0, slots := 0, locals := 99 })).room s m ([.ref y, .int o, .int oo, .int n, .int k] : List Value).toArray below meth c H locs 0 0 (MQ below (va_Qi (fun (res : Int32) (u : (Nat → Int32) × Int32 × (Nat → Int32) × (Nat → Int32) × (Nat → Int32)) => res = (if rf_sha mn o oo n k = 0 then shaA (mk (plK mq v o) n.toNatClampNeg) (mk (plK mq v oo) n.toNatClampNeg) k else rf_sha mn o oo n k) ∧ u.1 = (if rf_sha mn o oo n k = 0 then G else md_bump G (rf_sha mn o oo n k))) (Bw D (fun (u : (Nat → Int32) × Int32 × (Nat → Int32) × (Nat → Int32) × (Nat → Int32)) => [(y, .inr (6, [.ref yr, .int mq, .int mn, .ref yw, .ref yc, .int mc, .ref yl, .int me, .ref ys, .ref yp, .ref ym, .int u.2.1, .ref yo, .ref yk, .ref yt, .int mz, .ref yi, .ref yz, .ref yx, .ref yu, .int km, .int kr])), (yr, .inl (cI, 7, .inl u.1)), (yw, .inl (cI, 20, .inl v)), (yp, .inl (cI, 200, .inl u.2.2.1)), (ym, .inl (cI, 200, .inl u.2.2.2.1)), (yo, .inl (cI, 200, .inl u.2.2.2.2))]) A) A) ([.ref y, .int o, .int oo, .int n, .int k] : List Value).toArray s 0 0 A) (F0 m 113 ls []) := by
                intro fuel
                induction fuel with
                | zero =>
                  intro i2 lst hi2 hinv hfu2
                  exact False.elim (by omega)
                | succ fuel ih_113 =>
                  intro i2 lst hi2 hinv hfu2 y7 ey7 y9 ey9 ls hl
                  subst ey7
                  subst ey9
                  refine lv_iload hx hb dX6_shared_113 (lv_at hl 2 rfl) ?_
                  refine lv_iload hx hb dX6_shared_115 (lv_at hl 9 rfl) ?_
                  refine lv_icmp_ge (tgt := 217) hx hb dX6_shared_117 (by decide) (fun c_117 => ?_) (fun c_117 => ?_)
                  · skip
                    have h2e : i2 = (mk (plK mq v o) n.toNatClampNeg).length := by have := (nI_leI (by omega) (by omega)).mp c_117; omega
                    refine lv_iload hx hb dX6_shared_217 (lv_at hl 7 rfl) ?_
                    refine lv_if_ne (tgt := 227) hx hb dX6_shared_219 (by decide) (fun c_219 => ?_) (fun c_219 => ?_)
                    · skip
                      refine lv_iload hx hb dX6_shared_227 (lv_at hl 1 rfl) ?_
                      exact wrI (w1 := (fun (u : (Nat → Int32) × Int32 × (Nat → Int32) × (Nat → Int32) × (Nat → Int32)) => [(y, .inr (6, [.ref yr, .int mq, .int mn, .ref yw, .ref yc, .int mc, .ref yl, .int me, .ref ys, .ref yp, .ref ym, .int u.2.1, .ref yo, .ref yk, .ref yt, .int mz, .ref yi, .ref yz, .ref yx, .ref yu, .int km, .int kr])), (yr, .inl (cI, 7, .inl u.1)), (yw, .inl (cI, 20, .inl v)), (yp, .inl (cI, 200, .inl u.2.2.1)), (ym, .inl (cI, 200, .inl u.2.2.2.1)), (yo, .inl (cI, 200, .inl u.2.2.2.2))])) (G, md_100, P_100, M_100, g) hx hb hr hlocks dX6_shared_229 hS (hP.sub [0, 1, 2, 3, 4, 5] rfl) (hD.sub [0, 1, 2, 3, 4, 5] (by decide) rfl) (⟨by rw [if_pos eR]; unfold shaA; rw [if_neg c_219, hinv, h2e, Nat.sub_self]; by_cases e9 : lst = -9; (· rw [if_pos e9, e9]; rfl); (· rw [if_neg e9]), by rw [if_pos eR]⟩)
                    · skip
                      refine lv_iload hx hb dX6_shared_222 (lv_at hl 0 rfl) ?_
                      refine lv_goto (tgt := 229) hx hb dX6_shared_224 (by decide) ?_
                      exact wrI (w1 := (fun (u : (Nat → Int32) × Int32 × (Nat → Int32) × (Nat → Int32) × (Nat → Int32)) => [(y, .inr (6, [.ref yr, .int mq, .int mn, .ref yw, .ref yc, .int mc, .ref yl, .int me, .ref ys, .ref yp, .ref ym, .int u.2.1, .ref yo, .ref yk, .ref yt, .int mz, .ref yi, .ref yz, .ref yx, .ref yu, .int km, .int kr])), (yr, .inl (cI, 7, .inl u.1)), (yw, .inl (cI, 20, .inl v)), (yp, .inl (cI, 200, .inl u.2.2.1)), (ym, .inl (cI, 200, .inl u.2.2.2.1)), (yo, .inl (cI, 200, .inl u.2.2.2.2))])) (G, md_100, P_100, M_100, g) hx hb hr hlocks dX6_shared_229 hS (hP.sub [0, 1, 2, 3, 4, 5] rfl) (hD.sub [0, 1, 2, 3, 4, 5] (by decide) rfl) (⟨by rw [if_pos eR]; unfold shaA; rw [if_pos c_219, h2e], by rw [if_pos eR]⟩)
                  · skip
                    have hi2N : i2 < (mk (plK mq v o) n.toNatClampNeg).length := by rcases Nat.lt_or_ge i2 (mk (plK mq v o) n.toNatClampNeg).length with q9 | q9; exact q9; exact absurd (nI_le q9 (by omega)) c_117
                    refine lv_iconst (v := 0) hx hb dX6_shared_120 (by decide) ?_
                    refine lv_istore (lv' := [(10, .int 0), (7, .int (nI (fa_cnt (fun i => decide ((mk (plK mq v o) n.toNatClampNeg).getD i 0 ∈ (mk (plK mq v oo) n.toNatClampNeg))) i2))), (8, .int lst), (9, .int (nI i2)), (0, .ref y), (1, .int o), (2, .int oo), (3, .int n), (4, .int k), (5, .int (rng n 1 200)), (6, .int (nI (mk (plK mq v o) n.toNatClampNeg).length))]) hx hb dX6_shared_121 hl (by decide) rfl (fun ls hl => ?_)
                    refine lv_iconst (v := 0) hx hb dX6_shared_123 (by decide) ?_
                    refine lv_istore (lv' := [(11, .int 0), (10, .int 0), (7, .int (nI (fa_cnt (fun i => decide ((mk (plK mq v o) n.toNatClampNeg).getD i 0 ∈ (mk (plK mq v oo) n.toNatClampNeg))) i2))), (8, .int lst), (9, .int (nI i2)), (0, .ref y), (1, .int o), (2, .int oo), (3, .int n), (4, .int k), (5, .int (rng n 1 200)), (6, .int (nI (mk (plK mq v o) n.toNatClampNeg).length))]) hx hb dX6_shared_124 hl (by decide) rfl (fun ls hl => ?_)
                    have loop_126 : ∀ (fuel : Nat), ∀ (i3 : Nat), (i3 ≤ (mk (plK mq v oo) n.toNatClampNeg).length) → ((mk (plK mq v oo) n.toNatClampNeg).length + 1 ≤ i3 + fuel) → ∀ (y10 : Int32), y10 = bi ((mk (plK mq v o) n.toNatClampNeg).getD i2 0 ∈ (mk (plK mq v oo) n.toNatClampNeg).take i3) → ∀ (y11 : Int32), y11 = nI i3 → ∀ (ls : Array Slot), lv_has ls 12 [(10, .int y10), (11, .int y11), (0, .ref y), (1, .int o), (2, .int oo), (3, .int n), (4, .int k), (5, .int (rng n 1 200)), (6, .int (nI (mk (plK mq v o) n.toNatClampNeg).length)), (7, .int (nI (fa_cnt (fun i => decide ((mk (plK mq v o) n.toNatClampNeg).getD i 0 ∈ (mk (plK mq v oo) n.toNatClampNeg))) i2))), (8, .int lst), (9, .int (nI i2))] → W p l e (headSpec wsX6_shared ({ frames := 4, cells := 0, slots := 0, locals := 99 })).room s m ([.ref y, .int o, .int oo, .int n, .int k] : List Value).toArray below meth c H locs 0 0 (MQ below (va_Qi (fun (res : Int32) (u : (Nat → Int32) × Int32 × (Nat → Int32) × (Nat → Int32) × (Nat → Int32)) => res = (if rf_sha mn o oo n k = 0 then shaA (mk (plK mq v o) n.toNatClampNeg) (mk (plK mq v oo) n.toNatClampNeg) k else rf_sha mn o oo n k) ∧ u.1 = (if rf_sha mn o oo n k = 0 then G else md_bump G (rf_sha mn o oo n k))) (Bw D (fun (u : (Nat → Int32) × Int32 × (Nat → Int32) × (Nat → Int32) × (Nat → Int32)) => [(y, .inr (6, [.ref yr, .int mq, .int mn, .ref yw, .ref yc, .int mc, .ref yl, .int me, .ref ys, .ref yp, .ref ym, .int u.2.1, .ref yo, .ref yk, .ref yt, .int mz, .ref yi, .ref yz, .ref yx, .ref yu, .int km, .int kr])), (yr, .inl (cI, 7, .inl u.1)), (yw, .inl (cI, 20, .inl v)), (yp, .inl (cI, 200, .inl u.2.2.1)), (ym, .inl (cI, 200, .inl u.2.2.2.1)), (yo, .inl (cI, 200, .inl u.2.2.2.2))]) A) A) ([.ref y, .int o, .int oo, .int n, .int k] : List Value).toArray s 0 0 A) (F0 m 126 ls []) := by
                      intro fuel
                      induction fuel with
                      | zero =>
                        intro i3 hi3 hfu3
                        exact False.elim (by omega)
                      | succ fuel ih_126 =>
                        intro i3 hi3 hfu3 y10 ey10 y11 ey11 ls hl
                        subst ey10
                        subst ey11
                        refine lv_iload hx hb dX6_shared_126 (lv_at hl 1 rfl) ?_
                        refine lv_aload_n hx hb dX6_shared_128 rfl (lv_at hl 2 rfl) ?_
                        refine va_get (D := D) (ci := 6) (v := .int md_100) (C := RX6) (T := TX6) (N := 22) hx hb hts (in_X6_shared_X6) hown hK hP 0 rfl rfl 11 (by decide) (hts (.fieldLink RX6 146 "StepsRoundCircleModel" "marked" "I") (by decide +kernel)) (fun _ h9 => h9) rfl dX6_shared_129 ?_
                        refine lv_topi (fun z_132 hz_132 => ?_)
                        have hz_132 : z_132 = nI (mk (plK mq v oo) n.toNatClampNeg).length := hz_132.trans h2_100.1
                        subst hz_132
                        refine lv_icmp_ge (tgt := 170) hx hb dX6_shared_132 (by decide) (fun c_132 => ?_) (fun c_132 => ?_)
                        · skip
                          have h3e : i3 = (mk (plK mq v oo) n.toNatClampNeg).length := by have := (nI_leI (by omega) (by omega)).mp c_132; omega
                          refine lv_iload hx hb dX6_shared_170 (lv_at hl 0 rfl) ?_
                          refine lv_if_eq (tgt := 192) hx hb dX6_shared_172 (by decide) (fun c_172 => ?_) (fun c_172 => ?_)
                          · skip
                            have c_172 := bi_eq0.mp c_172
                            refine lv_iload hx hb dX6_shared_192 (lv_at hl 10 rfl) ?_
                            refine lv_istore (lv' := [(8, .int lst), (10, .int (bi ((mk (plK mq v o) n.toNatClampNeg).getD i2 0 ∈ (mk (plK mq v oo) n.toNatClampNeg).take i3))), (11, .int (nI i3)), (0, .ref y), (1, .int o), (2, .int oo), (3, .int n), (4, .int k), (5, .int (rng n 1 200)), (6, .int (nI (mk (plK mq v o) n.toNatClampNeg).length)), (7, .int (nI (fa_cnt (fun i => decide ((mk (plK mq v o) n.toNatClampNeg).getD i 0 ∈ (mk (plK mq v oo) n.toNatClampNeg))) i2))), (9, .int (nI i2))]) hx hb dX6_shared_194 hl (by decide) rfl (fun ls hl => ?_)
                            have hmem : ¬ (mk (plK mq v o) n.toNatClampNeg).getD i2 0 ∈ (mk (plK mq v oo) n.toNatClampNeg) := by have h9 := c_172; rw [h3e, List.take_length] at h9; exact h9
                            refine lv_iload hx hb dX6_shared_196 (lv_at hl 10 rfl) ?_
                            refine lv_iload hx hb dX6_shared_198 (lv_at hl 1 rfl) ?_
                            refine lv_if_eq (tgt := 207) hx hb dX6_shared_200 (by decide) (fun c_200 => ?_) (fun c_200 => ?_)
                            · skip
                              have c_200 := bi_eq0.mp c_200
                              refine lv_iconst (v := 0) hx hb dX6_shared_207 (by decide) ?_
                              refine lv_iadd hx hb dX6_shared_208 ?_
                              refine lv_istore (lv' := [(7, .int ((nI (fa_cnt (fun i => decide ((mk (plK mq v o) n.toNatClampNeg).getD i 0 ∈ (mk (plK mq v oo) n.toNatClampNeg))) i2)) + 0)), (8, .int lst), (10, .int (bi ((mk (plK mq v o) n.toNatClampNeg).getD i2 0 ∈ (mk (plK mq v oo) n.toNatClampNeg).take i3))), (11, .int (nI i3)), (0, .ref y), (1, .int o), (2, .int oo), (3, .int n), (4, .int k), (5, .int (rng n 1 200)), (6, .int (nI (mk (plK mq v o) n.toNatClampNeg).length)), (9, .int (nI i2))]) hx hb dX6_shared_209 hl (by decide) rfl (fun ls hl => ?_)
                              refine lv_iinc (v := (nI i2) + 1) (lv' := [(9, .int ((nI i2) + 1)), (7, .int ((nI (fa_cnt (fun i => decide ((mk (plK mq v o) n.toNatClampNeg).getD i 0 ∈ (mk (plK mq v oo) n.toNatClampNeg))) i2)) + 0)), (8, .int lst), (10, .int (bi ((mk (plK mq v o) n.toNatClampNeg).getD i2 0 ∈ (mk (plK mq v oo) n.toNatClampNeg).take i3))), (11, .int (nI i3)), (0, .ref y), (1, .int o), (2, .int oo), (3, .int n), (4, .int k), (5, .int (rng n 1 200)), (6, .int (nI (mk (plK mq v o) n.toNatClampNeg).length))]) hx hb dX6_shared_211 hl (k := 11) rfl (by rfl) (by decide) rfl (fun ls hl => ?_)
                              refine lv_goto (tgt := 113) hx hb dX6_shared_214 (by decide) ?_
                              exact ih_113 (i2 + 1) lst (by omega) (sh_go hi2N hinv hmem) (by omega) _ (by rw [fa_cnt_no (by simpa using hmem)]; exact Int32.add_zero _) _ (by first | rfl | exact nI_1 _ | exact nI_0.symm) ls (lv_sub hl [1, 2, 0, 5, 6, 7, 8, 9, 10, 11] rfl)
                            · skip
                              have c_200 := bi_ne0.mp c_200
                              exact False.elim (absurd c_200 c_172)
                          · skip
                            have c_172 := bi_ne0.mp c_172
                            refine lv_iload hx hb dX6_shared_175 (lv_at hl 10 rfl) ?_
                            refine lv_bipush (v := (-9)) hx hb dX6_shared_177 (by decide) ?_
                            refine lv_icmp_ne (tgt := 192) hx hb dX6_shared_179 (by decide) (fun c_179 => ?_) (fun c_179 => ?_)
                            · skip
                              refine lv_iload hx hb dX6_shared_192 (lv_at hl 10 rfl) ?_
                              refine lv_istore (lv' := [(8, .int lst), (10, .int (bi ((mk (plK mq v o) n.toNatClampNeg).getD i2 0 ∈ (mk (plK mq v oo) n.toNatClampNeg).take i3))), (11, .int (nI i3)), (0, .ref y), (1, .int o), (2, .int oo), (3, .int n), (4, .int k), (5, .int (rng n 1 200)), (6, .int (nI (mk (plK mq v o) n.toNatClampNeg).length)), (7, .int (nI (fa_cnt (fun i => decide ((mk (plK mq v o) n.toNatClampNeg).getD i 0 ∈ (mk (plK mq v oo) n.toNatClampNeg))) i2))), (9, .int (nI i2))]) hx hb dX6_shared_194 hl (by decide) rfl (fun ls hl => ?_)
                              have hmem : (mk (plK mq v o) n.toNatClampNeg).getD i2 0 ∈ (mk (plK mq v oo) n.toNatClampNeg) := by have h9 := c_172; rw [h3e, List.take_length] at h9; exact h9
                              refine lv_iload hx hb dX6_shared_196 (lv_at hl 10 rfl) ?_
                              refine lv_iload hx hb dX6_shared_198 (lv_at hl 1 rfl) ?_
                              refine lv_if_eq (tgt := 207) hx hb dX6_shared_200 (by decide) (fun c_200 => ?_) (fun c_200 => ?_)
                              · skip
                                have c_200 := bi_eq0.mp c_200
                                exact False.elim (absurd c_172 c_200)
                              · skip
                                have c_200 := bi_ne0.mp c_200
                                refine lv_iconst (v := 1) hx hb dX6_shared_203 (by decide) ?_
                                refine lv_goto (tgt := 208) hx hb dX6_shared_204 (by decide) ?_
                                refine lv_iadd hx hb dX6_shared_208 ?_
                                refine lv_istore (lv' := [(7, .int ((nI (fa_cnt (fun i => decide ((mk (plK mq v o) n.toNatClampNeg).getD i 0 ∈ (mk (plK mq v oo) n.toNatClampNeg))) i2)) + 1)), (8, .int lst), (10, .int (bi ((mk (plK mq v o) n.toNatClampNeg).getD i2 0 ∈ (mk (plK mq v oo) n.toNatClampNeg).take i3))), (11, .int (nI i3)), (0, .ref y), (1, .int o), (2, .int oo), (3, .int n), (4, .int k), (5, .int (rng n 1 200)), (6, .int (nI (mk (plK mq v o) n.toNatClampNeg).length)), (9, .int (nI i2))]) hx hb dX6_shared_209 hl (by decide) rfl (fun ls hl => ?_)
                                refine lv_iinc (v := (nI i2) + 1) (lv' := [(9, .int ((nI i2) + 1)), (7, .int ((nI (fa_cnt (fun i => decide ((mk (plK mq v o) n.toNatClampNeg).getD i 0 ∈ (mk (plK mq v oo) n.toNatClampNeg))) i2)) + 1)), (8, .int lst), (10, .int (bi ((mk (plK mq v o) n.toNatClampNeg).getD i2 0 ∈ (mk (plK mq v oo) n.toNatClampNeg).take i3))), (11, .int (nI i3)), (0, .ref y), (1, .int o), (2, .int oo), (3, .int n), (4, .int k), (5, .int (rng n 1 200)), (6, .int (nI (mk (plK mq v o) n.toNatClampNeg).length))]) hx hb dX6_shared_211 hl (k := 11) rfl (by rfl) (by decide) rfl (fun ls hl => ?_)
                                refine lv_goto (tgt := 113) hx hb dX6_shared_214 (by decide) ?_
                                exact ih_113 (i2 + 1) lst (by omega) (sh_old hinv c_179) (by omega) _ (by rw [fa_cnt_yes (by simpa using hmem)]; exact nI_1 _) _ (by first | rfl | exact nI_1 _ | exact nI_0.symm) ls (lv_sub hl [1, 2, 0, 5, 6, 7, 8, 9, 10, 11] rfl)
                            · skip
                              refine lv_aload_n hx hb dX6_shared_182 rfl (lv_at hl 2 rfl) ?_
                              refine va_get (D := D) (ci := 6) (v := .ref yo) (C := RX6) (T := TX6) (N := 22) hx hb hts (in_X6_shared_X6) hown hK hP 0 rfl rfl 12 (by decide) (hts (.fieldLink RX6 35 "StepsRoundCircleModel" "others" "[I") (by decide +kernel)) (fun _ h9 => h9) rfl dX6_shared_183 ?_
                              refine lv_iload hx hb dX6_shared_186 (lv_at hl 11 rfl) ?_
                              refine va_iald hx hb hK hP 5 0 rfl rfl (vp_in_nI (by omega) (by omega)) dX6_shared_188 ?_
                              refine lv_topi (fun z_189 hz_189 => ?_)
                              have hz_189 : z_189 = (mk (plK mq v o) n.toNatClampNeg).getD i2 0 := hz_189.trans (by rw [nI_clamp (by omega)]; exact hgN _ hi2N)
                              subst hz_189
                              refine lv_goto (tgt := 194) hx hb dX6_shared_189 (by decide) ?_
                              refine lv_istore (lv' := [(8, .int ((mk (plK mq v o) n.toNatClampNeg).getD i2 0)), (10, .int (bi ((mk (plK mq v o) n.toNatClampNeg).getD i2 0 ∈ (mk (plK mq v oo) n.toNatClampNeg).take i3))), (11, .int (nI i3)), (0, .ref y), (1, .int o), (2, .int oo), (3, .int n), (4, .int k), (5, .int (rng n 1 200)), (6, .int (nI (mk (plK mq v o) n.toNatClampNeg).length)), (7, .int (nI (fa_cnt (fun i => decide ((mk (plK mq v o) n.toNatClampNeg).getD i 0 ∈ (mk (plK mq v oo) n.toNatClampNeg))) i2))), (9, .int (nI i2))]) hx hb dX6_shared_194 hl (by decide) rfl (fun ls hl => ?_)
                              have hmem : (mk (plK mq v o) n.toNatClampNeg).getD i2 0 ∈ (mk (plK mq v oo) n.toNatClampNeg) := by have h9 := c_172; rw [h3e, List.take_length] at h9; exact h9
                              refine lv_iload hx hb dX6_shared_196 (lv_at hl 10 rfl) ?_
                              refine lv_iload hx hb dX6_shared_198 (lv_at hl 1 rfl) ?_
                              refine lv_if_eq (tgt := 207) hx hb dX6_shared_200 (by decide) (fun c_200 => ?_) (fun c_200 => ?_)
                              · skip
                                have c_200 := bi_eq0.mp c_200
                                exact False.elim (absurd c_172 c_200)
                              · skip
                                have c_200 := bi_ne0.mp c_200
                                refine lv_iconst (v := 1) hx hb dX6_shared_203 (by decide) ?_
                                refine lv_goto (tgt := 208) hx hb dX6_shared_204 (by decide) ?_
                                refine lv_iadd hx hb dX6_shared_208 ?_
                                refine lv_istore (lv' := [(7, .int ((nI (fa_cnt (fun i => decide ((mk (plK mq v o) n.toNatClampNeg).getD i 0 ∈ (mk (plK mq v oo) n.toNatClampNeg))) i2)) + 1)), (8, .int ((mk (plK mq v o) n.toNatClampNeg).getD i2 0)), (10, .int (bi ((mk (plK mq v o) n.toNatClampNeg).getD i2 0 ∈ (mk (plK mq v oo) n.toNatClampNeg).take i3))), (11, .int (nI i3)), (0, .ref y), (1, .int o), (2, .int oo), (3, .int n), (4, .int k), (5, .int (rng n 1 200)), (6, .int (nI (mk (plK mq v o) n.toNatClampNeg).length)), (9, .int (nI i2))]) hx hb dX6_shared_209 hl (by decide) rfl (fun ls hl => ?_)
                                refine lv_iinc (v := (nI i2) + 1) (lv' := [(9, .int ((nI i2) + 1)), (7, .int ((nI (fa_cnt (fun i => decide ((mk (plK mq v o) n.toNatClampNeg).getD i 0 ∈ (mk (plK mq v oo) n.toNatClampNeg))) i2)) + 1)), (8, .int ((mk (plK mq v o) n.toNatClampNeg).getD i2 0)), (10, .int (bi ((mk (plK mq v o) n.toNatClampNeg).getD i2 0 ∈ (mk (plK mq v oo) n.toNatClampNeg).take i3))), (11, .int (nI i3)), (0, .ref y), (1, .int o), (2, .int oo), (3, .int n), (4, .int k), (5, .int (rng n 1 200)), (6, .int (nI (mk (plK mq v o) n.toNatClampNeg).length))]) hx hb dX6_shared_211 hl (k := 11) rfl (by rfl) (by decide) rfl (fun ls hl => ?_)
                                refine lv_goto (tgt := 113) hx hb dX6_shared_214 (by decide) ?_
                                exact ih_113 (i2 + 1) ((mk (plK mq v o) n.toNatClampNeg).getD i2 0) (by omega) (sh_hit hi2N (c_179 ▸ hinv) hmem (mk_ne9 hq hi2N)) (by omega) _ (by rw [fa_cnt_yes (by simpa using hmem)]; exact nI_1 _) _ (by first | rfl | exact nI_1 _ | exact nI_0.symm) ls (lv_sub hl [1, 2, 0, 5, 6, 7, 8, 9, 10, 11] rfl)
                        · skip
                          have hi3N : i3 < (mk (plK mq v oo) n.toNatClampNeg).length := by rcases Nat.lt_or_ge i3 (mk (plK mq v oo) n.toNatClampNeg).length with q9 | q9; exact q9; exact absurd (nI_le q9 (by omega)) c_132
                          refine lv_iload hx hb dX6_shared_135 (lv_at hl 0 rfl) ?_
                          refine lv_if_ne (tgt := 157) hx hb dX6_shared_137 (by decide) (fun c_137 => ?_) (fun c_137 => ?_)
                          · skip
                            have c_137 := bi_ne0.mp c_137
                            refine lv_iconst (v := 1) hx hb dX6_shared_157 (by decide) ?_
                            refine lv_goto (tgt := 162) hx hb dX6_shared_158 (by decide) ?_
                            refine lv_istore (lv' := [(10, .int 1), (11, .int (nI i3)), (0, .ref y), (1, .int o), (2, .int oo), (3, .int n), (4, .int k), (5, .int (rng n 1 200)), (6, .int (nI (mk (plK mq v o) n.toNatClampNeg).length)), (7, .int (nI (fa_cnt (fun i => decide ((mk (plK mq v o) n.toNatClampNeg).getD i 0 ∈ (mk (plK mq v oo) n.toNatClampNeg))) i2))), (8, .int lst), (9, .int (nI i2))]) hx hb dX6_shared_162 hl (by decide) rfl (fun ls hl => ?_)
                            refine lv_iinc (v := (nI i3) + 1) (lv' := [(11, .int ((nI i3) + 1)), (10, .int 1), (0, .ref y), (1, .int o), (2, .int oo), (3, .int n), (4, .int k), (5, .int (rng n 1 200)), (6, .int (nI (mk (plK mq v o) n.toNatClampNeg).length)), (7, .int (nI (fa_cnt (fun i => decide ((mk (plK mq v o) n.toNatClampNeg).getD i 0 ∈ (mk (plK mq v oo) n.toNatClampNeg))) i2))), (8, .int lst), (9, .int (nI i2))]) hx hb dX6_shared_164 hl (k := 1) rfl (by rfl) (by decide) rfl (fun ls hl => ?_)
                            refine lv_goto (tgt := 126) hx hb dX6_shared_167 (by decide) ?_
                            exact ih_126 (i3 + 1) (by omega) (by omega) _ (bi_t ((take_mem hi3N).mpr (Or.inl c_137))).symm _ (by first | rfl | exact nI_1 _ | exact nI_0.symm) ls (lv_sub hl [1, 0, 2, 3, 4, 5, 6, 7, 8, 9, 10, 11] rfl)
                          · skip
                            have c_137 := bi_eq0.mp c_137
                            refine lv_aload_n hx hb dX6_shared_140 rfl (lv_at hl 2 rfl) ?_
                            refine va_get (D := D) (ci := 6) (v := .ref ym) (C := RX6) (T := TX6) (N := 22) hx hb hts (in_X6_shared_X6) hown hK hP 0 rfl rfl 10 (by decide) (hts (.fieldLink RX6 32 "StepsRoundCircleModel" "marks" "[I") (by decide +kernel)) (fun _ h9 => h9) rfl dX6_shared_141 ?_
                            refine lv_iload hx hb dX6_shared_144 (lv_at hl 1 rfl) ?_
                            refine va_iald hx hb hK hP 4 0 rfl rfl (vp_in_nI (by omega) (by omega)) dX6_shared_146 ?_
                            refine lv_topi (fun z_147 hz_147 => ?_)
                            have hz_147 : z_147 = (mk (plK mq v oo) n.toNatClampNeg).getD i3 0 := hz_147.trans (by rw [nI_clamp (by omega)]; exact hUf _ hi3N)
                            subst hz_147
                            refine lv_aload_n hx hb dX6_shared_147 rfl (lv_at hl 2 rfl) ?_
                            refine va_get (D := D) (ci := 6) (v := .ref yo) (C := RX6) (T := TX6) (N := 22) hx hb hts (in_X6_shared_X6) hown hK hP 0 rfl rfl 12 (by decide) (hts (.fieldLink RX6 35 "StepsRoundCircleModel" "others" "[I") (by decide +kernel)) (fun _ h9 => h9) rfl dX6_shared_148 ?_
                            refine lv_iload hx hb dX6_shared_151 (lv_at hl 11 rfl) ?_
                            refine va_iald hx hb hK hP 5 0 rfl rfl (vp_in_nI (by omega) (by omega)) dX6_shared_153 ?_
                            refine lv_topi (fun z_154 hz_154 => ?_)
                            have hz_154 : z_154 = (mk (plK mq v o) n.toNatClampNeg).getD i2 0 := hz_154.trans (by rw [nI_clamp (by omega)]; exact hgN _ hi2N)
                            subst hz_154
                            refine lv_icmp_ne (tgt := 161) hx hb dX6_shared_154 (by decide) (fun c_154 => ?_) (fun c_154 => ?_)
                            · skip
                              refine lv_iconst (v := 0) hx hb dX6_shared_161 (by decide) ?_
                              refine lv_istore (lv' := [(10, .int 0), (11, .int (nI i3)), (0, .ref y), (1, .int o), (2, .int oo), (3, .int n), (4, .int k), (5, .int (rng n 1 200)), (6, .int (nI (mk (plK mq v o) n.toNatClampNeg).length)), (7, .int (nI (fa_cnt (fun i => decide ((mk (plK mq v o) n.toNatClampNeg).getD i 0 ∈ (mk (plK mq v oo) n.toNatClampNeg))) i2))), (8, .int lst), (9, .int (nI i2))]) hx hb dX6_shared_162 hl (by decide) rfl (fun ls hl => ?_)
                              refine lv_iinc (v := (nI i3) + 1) (lv' := [(11, .int ((nI i3) + 1)), (10, .int 0), (0, .ref y), (1, .int o), (2, .int oo), (3, .int n), (4, .int k), (5, .int (rng n 1 200)), (6, .int (nI (mk (plK mq v o) n.toNatClampNeg).length)), (7, .int (nI (fa_cnt (fun i => decide ((mk (plK mq v o) n.toNatClampNeg).getD i 0 ∈ (mk (plK mq v oo) n.toNatClampNeg))) i2))), (8, .int lst), (9, .int (nI i2))]) hx hb dX6_shared_164 hl (k := 1) rfl (by rfl) (by decide) rfl (fun ls hl => ?_)
                              refine lv_goto (tgt := 126) hx hb dX6_shared_167 (by decide) ?_
                              exact ih_126 (i3 + 1) (by omega) (by omega) _ (bi_f (fun z9 => ((take_mem hi3N).mp z9).elim c_137 c_154)).symm _ (by first | rfl | exact nI_1 _ | exact nI_0.symm) ls (lv_sub hl [1, 0, 2, 3, 4, 5, 6, 7, 8, 9, 10, 11] rfl)
                            · skip
                              refine lv_iconst (v := 1) hx hb dX6_shared_157 (by decide) ?_
                              refine lv_goto (tgt := 162) hx hb dX6_shared_158 (by decide) ?_
                              refine lv_istore (lv' := [(10, .int 1), (11, .int (nI i3)), (0, .ref y), (1, .int o), (2, .int oo), (3, .int n), (4, .int k), (5, .int (rng n 1 200)), (6, .int (nI (mk (plK mq v o) n.toNatClampNeg).length)), (7, .int (nI (fa_cnt (fun i => decide ((mk (plK mq v o) n.toNatClampNeg).getD i 0 ∈ (mk (plK mq v oo) n.toNatClampNeg))) i2))), (8, .int lst), (9, .int (nI i2))]) hx hb dX6_shared_162 hl (by decide) rfl (fun ls hl => ?_)
                              refine lv_iinc (v := (nI i3) + 1) (lv' := [(11, .int ((nI i3) + 1)), (10, .int 1), (0, .ref y), (1, .int o), (2, .int oo), (3, .int n), (4, .int k), (5, .int (rng n 1 200)), (6, .int (nI (mk (plK mq v o) n.toNatClampNeg).length)), (7, .int (nI (fa_cnt (fun i => decide ((mk (plK mq v o) n.toNatClampNeg).getD i 0 ∈ (mk (plK mq v oo) n.toNatClampNeg))) i2))), (8, .int lst), (9, .int (nI i2))]) hx hb dX6_shared_164 hl (k := 1) rfl (by rfl) (by decide) rfl (fun ls hl => ?_)
                              refine lv_goto (tgt := 126) hx hb dX6_shared_167 (by decide) ?_
                              exact ih_126 (i3 + 1) (by omega) (by omega) _ (bi_t ((take_mem hi3N).mpr (Or.inr c_154))).symm _ (by first | rfl | exact nI_1 _ | exact nI_0.symm) ls (lv_sub hl [1, 0, 2, 3, 4, 5, 6, 7, 8, 9, 10, 11] rfl)
                    exact loop_126 ((mk (plK mq v oo) n.toNatClampNeg).length + 1) 0 (by omega) (by omega) _ (bi_f (by simp)).symm _ (by first | rfl | exact nI_1 _ | exact nI_0.symm) ls (lv_sub hl [1, 0, 5, 6, 7, 8, 9, 10, 11, 2, 3, 4] rfl)
              exact loop_113 ((mk (plK mq v o) n.toNatClampNeg).length + 1) 0 (-9) (by omega) (if_pos rfl).symm (by omega) _ (by first | rfl | exact nI_1 _ | exact nI_0.symm) _ (by first | rfl | exact nI_1 _ | exact nI_0.symm) ls (lv_sub hl [2, 1, 0, 3, 4, 5, 6, 7, 8, 9] rfl)
            · skip
              have hiN : i < (mk (plK mq v o) n.toNatClampNeg).length := by rcases Nat.lt_or_ge i (mk (plK mq v o) n.toNatClampNeg).length with q9 | q9; exact q9; exact absurd (nI_le q9 (by omega)) c_74
              refine lv_aload_n hx hb dX6_shared_77 rfl (lv_at hl 1 rfl) ?_
              refine va_get (D := D) (ci := 6) (v := .ref yo) (C := RX6) (T := TX6) (N := 22) hx hb hts (in_X6_shared_X6) hown hK hP 0 rfl rfl 12 (by decide) (hts (.fieldLink RX6 35 "StepsRoundCircleModel" "others" "[I") (by decide +kernel)) (fun _ h9 => h9) rfl dX6_shared_78 ?_
              refine lv_iload hx hb dX6_shared_81 (lv_at hl 0 rfl) ?_
              refine lv_aload_n hx hb dX6_shared_83 rfl (lv_at hl 1 rfl) ?_
              refine va_get (D := D) (ci := 6) (v := .ref ym) (C := RX6) (T := TX6) (N := 22) hx hb hts (in_X6_shared_X6) hown hK hP 0 rfl rfl 10 (by decide) (hts (.fieldLink RX6 32 "StepsRoundCircleModel" "marks" "[I") (by decide +kernel)) (fun _ h9 => h9) rfl dX6_shared_84 ?_
              refine lv_iload hx hb dX6_shared_87 (lv_at hl 0 rfl) ?_
              refine va_iald hx hb hK hP 4 0 rfl rfl (vp_in_nI (by omega) (by omega)) dX6_shared_89 ?_
              refine lv_topi (fun z_90 hz_90 => ?_)
              have hz_90 : z_90 = (mk (plK mq v o) n.toNatClampNeg).getD i 0 := hz_90.trans (by rw [nI_clamp (by omega)]; exact hMf _ hiN)
              subst hz_90
              refine va_iast hx hb hK hP hD hS 5 0 rfl rfl (vp_in_nI (by omega) (by omega)) dX6_shared_90 (fun H locs hP hD hS => ?_)
              have hP : va_P D vwCl [(y, .inr (6, [.ref yr, .int mq, .int mn, .ref yw, .ref yc, .int mc, .ref yl, .int me, .ref ys, .ref yp, .ref ym, .int md_58, .ref yo, .ref yk, .ref yt, .int mz, .ref yi, .ref yz, .ref yx, .ref yu, .int km, .int kr])), (yr, .inl (cI, 7, .inl G)), (yw, .inl (cI, 20, .inl v)), (yp, .inl (cI, 200, .inl P_58)), (ym, .inl (cI, 200, .inl M_58)), (yo, .inl (cI, 200, .inl (upd g ((nI i).toNatClampNeg) ((mk (plK mq v o) n.toNatClampNeg).getD i 0))))] H := hP
              have hD : va_D A [(y, .inr (6, [.ref yr, .int mq, .int mn, .ref yw, .ref yc, .int mc, .ref yl, .int me, .ref ys, .ref yp, .ref ym, .int md_58, .ref yo, .ref yk, .ref yt, .int mz, .ref yi, .ref yz, .ref yx, .ref yu, .int km, .int kr])), (yr, .inl (cI, 7, .inl G)), (yw, .inl (cI, 20, .inl v)), (yp, .inl (cI, 200, .inl P_58)), (ym, .inl (cI, 200, .inl M_58)), (yo, .inl (cI, 200, .inl (upd g ((nI i).toNatClampNeg) ((mk (plK mq v o) n.toNatClampNeg).getD i 0))))] := hD
              refine lv_iinc (v := (nI i) + 1) (lv' := [(7, .int ((nI i) + 1)), (0, .ref y), (1, .int o), (2, .int oo), (3, .int n), (4, .int k), (5, .int (rng n 1 200)), (6, .int (nI (mk (plK mq v o) n.toNatClampNeg).length))]) hx hb dX6_shared_91 hl (k := 0) rfl (by rfl) (by decide) rfl (fun ls hl => ?_)
              refine lv_goto (tgt := 70) hx hb dX6_shared_94 (by decide) ?_
              exact ih_70 (i + 1) (upd g ((nI i).toNatClampNeg) ((mk (plK mq v o) n.toNatClampNeg).getD i 0)) (by omega) (by intro j hj; rw [nI_clamp (by omega)]; by_cases e9 : j = i; (· subst e9; exact pk_us); (· rw [pk_un e9]; exact hg j (by omega))) (by omega) _ (by first | rfl | exact nI_1 _ | exact nI_0.symm) _ _ (hP.sub [0, 1, 2, 3, 4, 5] rfl) (hD.sub [0, 1, 2, 3, 4, 5] (by decide) rfl) hS ls (lv_sub hl [0, 1, 2, 3, 4, 5, 6, 7] rfl)
        exact loop_70 ((mk (plK mq v o) n.toNatClampNeg).length + 1) 0 of9 (by omega) (fun j hj => absurd hj (Nat.not_lt_zero j)) (by omega) _ (by first | rfl | exact nI_1 _ | exact nI_0.symm) _ _ (hP.sub [0, 1, 2, 3, 4, 5] rfl) (hD.sub [0, 1, 2, 3, 4, 5] (by decide) rfl) hS ls (lv_sub hl [0, 3, 4, 5, 6, 7, 2, 1] rfl)
      · skip
        have c_45 := bi_eq0.mp c_45
        refine lv_aload_n hx hb dX6_shared_48 rfl (lv_at hl 1 rfl) ?_
        refine lv_bipush (v := (-2)) hx hb dX6_shared_49 (by decide) ?_
        refine wrVi (As := [.int (-2)]) (rest := []) (wr := [(yw, .inl (cI, 20, .inl v)), (yp, .inl (cI, 200, .inl P)), (ym, .inl (cI, 200, .inl Mf)), (yo, .inl (cI, 200, .inl of9))]) (A := A) ⟨hx, hb, hml, hown, hts⟩ (c_X6_no l D cI cZ cR y yr yw yc yl ys yp ym yo yk yt yi yz yx yu mq mn mc me md mz km kr G (-2) (by decide) s.heap.size) (cwV 1 hts gX6_shared_X6_no rfl rfl rfl (by decide +kernel) ⟨Nat.le_of_ble_eq_true rfl, Nat.le_of_ble_eq_true rfl⟩) hK hN hP hD hS hA 0 6 rfl rfl rfl [0, 1] [2, 3, 4, 5] rfl (by decide) rfl (by decide) (by decide) rfl hl.1 rfl (Nat.le_of_ble_eq_true rfl) dX6_shared_51 ⟨Nat.zero_le _, Nat.zero_le _⟩ (fun r_51 u H locs hw hP hD hS => ?_)
        obtain ⟨G_51, rfl⟩ : ∃ z, z = u := ⟨_, rfl⟩
        try dsimp only at hw
        obtain ⟨q1_51, q2_51⟩ := hw
        have q1_51 := q1_51.symm
        subst q1_51
        have q2_51 := q2_51.symm
        subst q2_51
        have hP : va_P D vwCl [(y, .inr (6, [.ref yr, .int mq, .int mn, .ref yw, .ref yc, .int mc, .ref yl, .int me, .ref ys, .ref yp, .ref ym, .int md, .ref yo, .ref yk, .ref yt, .int mz, .ref yi, .ref yz, .ref yx, .ref yu, .int km, .int kr])), (yr, .inl (cI, 7, .inl (md_bump G (-2)))), (yw, .inl (cI, 20, .inl v)), (yp, .inl (cI, 200, .inl P)), (ym, .inl (cI, 200, .inl Mf)), (yo, .inl (cI, 200, .inl of9))] H := hP.sub [4, 5, 0, 1, 2, 3] rfl
        have hD : va_D A [(y, .inr (6, [.ref yr, .int mq, .int mn, .ref yw, .ref yc, .int mc, .ref yl, .int me, .ref ys, .ref yp, .ref ym, .int md, .ref yo, .ref yk, .ref yt, .int mz, .ref yi, .ref yz, .ref yx, .ref yu, .int km, .int kr])), (yr, .inl (cI, 7, .inl (md_bump G (-2)))), (yw, .inl (cI, 20, .inl v)), (yp, .inl (cI, 200, .inl P)), (ym, .inl (cI, 200, .inl Mf)), (yo, .inl (cI, 200, .inl of9))] := hD.sub [4, 5, 0, 1, 2, 3] (by decide) rfl
        exact wrI (w1 := (fun (u : (Nat → Int32) × Int32 × (Nat → Int32) × (Nat → Int32) × (Nat → Int32)) => [(y, .inr (6, [.ref yr, .int mq, .int mn, .ref yw, .ref yc, .int mc, .ref yl, .int me, .ref ys, .ref yp, .ref ym, .int u.2.1, .ref yo, .ref yk, .ref yt, .int mz, .ref yi, .ref yz, .ref yx, .ref yu, .int km, .int kr])), (yr, .inl (cI, 7, .inl u.1)), (yw, .inl (cI, 20, .inl v)), (yp, .inl (cI, 200, .inl u.2.2.1)), (ym, .inl (cI, 200, .inl u.2.2.2.1)), (yo, .inl (cI, 200, .inl u.2.2.2.2))])) ((md_bump G (-2)), md, P, Mf, of9) hx hb hr hlocks dX6_shared_54 hS (hP.sub [0, 1, 2, 3, 4, 5] rfl) (hD.sub [0, 1, 2, 3, 4, 5] (by decide) rfl) (by have e9 : rf_sha mn o oo n k = -2 := e0.trans (rf_beh_2 (e1.trans c_27) (mt (md_w1 k).mpr c_45)); simp [e9])
    · skip
      refine lv_aload_n hx hb dX6_shared_30 rfl (lv_at hl 1 rfl) ?_
      refine lv_iload hx hb dX6_shared_31 (lv_at hl 0 rfl) ?_
      refine wrVi (As := [.int (rng n 1 200)]) (rest := []) (wr := [(yw, .inl (cI, 20, .inl v)), (yp, .inl (cI, 200, .inl P)), (ym, .inl (cI, 200, .inl Mf)), (yo, .inl (cI, 200, .inl of9))]) (A := A) ⟨hx, hb, hml, hown, hts⟩ (c_X6_no l D cI cZ cR y yr yw yc yl ys yp ym yo yk yt yi yz yx yu mq mn mc me md mz km kr G (rng n 1 200) (rng_le _ _ _) s.heap.size) (cwV 1 hts gX6_shared_X6_no rfl rfl rfl (by decide +kernel) ⟨Nat.le_of_ble_eq_true rfl, Nat.le_of_ble_eq_true rfl⟩) hK hN hP hD hS hA 0 6 rfl rfl rfl [0, 1] [2, 3, 4, 5] rfl (by decide) rfl (by decide) (by decide) rfl hl.1 rfl (Nat.le_of_ble_eq_true rfl) dX6_shared_33 ⟨Nat.zero_le _, Nat.zero_le _⟩ (fun r_33 u H locs hw hP hD hS => ?_)
      obtain ⟨G_33, rfl⟩ : ∃ z, z = u := ⟨_, rfl⟩
      try dsimp only at hw
      obtain ⟨q1_33, q2_33⟩ := hw
      have q1_33 := q1_33.symm
      subst q1_33
      have q2_33 := q2_33.symm
      subst q2_33
      have hP : va_P D vwCl [(y, .inr (6, [.ref yr, .int mq, .int mn, .ref yw, .ref yc, .int mc, .ref yl, .int me, .ref ys, .ref yp, .ref ym, .int md, .ref yo, .ref yk, .ref yt, .int mz, .ref yi, .ref yz, .ref yx, .ref yu, .int km, .int kr])), (yr, .inl (cI, 7, .inl (md_bump G (rng n 1 200)))), (yw, .inl (cI, 20, .inl v)), (yp, .inl (cI, 200, .inl P)), (ym, .inl (cI, 200, .inl Mf)), (yo, .inl (cI, 200, .inl of9))] H := hP.sub [4, 5, 0, 1, 2, 3] rfl
      have hD : va_D A [(y, .inr (6, [.ref yr, .int mq, .int mn, .ref yw, .ref yc, .int mc, .ref yl, .int me, .ref ys, .ref yp, .ref ym, .int md, .ref yo, .ref yk, .ref yt, .int mz, .ref yi, .ref yz, .ref yx, .ref yu, .int km, .int kr])), (yr, .inl (cI, 7, .inl (md_bump G (rng n 1 200)))), (yw, .inl (cI, 20, .inl v)), (yp, .inl (cI, 200, .inl P)), (ym, .inl (cI, 200, .inl Mf)), (yo, .inl (cI, 200, .inl of9))] := hD.sub [4, 5, 0, 1, 2, 3] (by decide) rfl
      exact wrI (w1 := (fun (u : (Nat → Int32) × Int32 × (Nat → Int32) × (Nat → Int32) × (Nat → Int32)) => [(y, .inr (6, [.ref yr, .int mq, .int mn, .ref yw, .ref yc, .int mc, .ref yl, .int me, .ref ys, .ref yp, .ref ym, .int u.2.1, .ref yo, .ref yk, .ref yt, .int mz, .ref yi, .ref yz, .ref yx, .ref yu, .int km, .int kr])), (yr, .inl (cI, 7, .inl u.1)), (yw, .inl (cI, 20, .inl v)), (yp, .inl (cI, 200, .inl u.2.2.1)), (ym, .inl (cI, 200, .inl u.2.2.2.1)), (yo, .inl (cI, 200, .inl u.2.2.2.2))])) ((md_bump G (rng n 1 200)), md, P, Mf, of9) hx hb hr hlocks dX6_shared_36 hS (hP.sub [0, 1, 2, 3, 4, 5] rfl) (hD.sub [0, 1, 2, 3, 4, 5] (by decide) rfl) (by have e9 : rf_sha mn o oo n k = rng n 1 200 := (by rw [e0, rf_beh_n (by rw [e1]; exact c_27), e1]); simp [e9, c_27])
  · skip
    have c_6 := bi_eq0.mp c_6
    refine lv_aload_n hx hb dX6_shared_9 rfl (lv_at hl 0 rfl) ?_
    refine lv_iconst (v := (-1)) hx hb dX6_shared_10 (by decide) ?_
    refine wrVi (As := [.int (-1)]) (rest := []) (wr := [(yw, .inl (cI, 20, .inl v)), (yp, .inl (cI, 200, .inl P)), (ym, .inl (cI, 200, .inl Mf)), (yo, .inl (cI, 200, .inl of9))]) (A := A) ⟨hx, hb, hml, hown, hts⟩ (c_X6_no l D cI cZ cR y yr yw yc yl ys yp ym yo yk yt yi yz yx yu mq mn mc me md mz km kr G (-1) (by decide) s.heap.size) (cwV 1 hts gX6_shared_X6_no rfl rfl rfl (by decide +kernel) ⟨Nat.le_of_ble_eq_true rfl, Nat.le_of_ble_eq_true rfl⟩) hK hN hP hD hS hA 0 6 rfl rfl rfl [0, 1] [2, 3, 4, 5] rfl (by decide) rfl (by decide) (by decide) rfl hl.1 rfl (Nat.le_of_ble_eq_true rfl) dX6_shared_11 ⟨Nat.zero_le _, Nat.zero_le _⟩ (fun r_11 u H locs hw hP hD hS => ?_)
    obtain ⟨G_11, rfl⟩ : ∃ z, z = u := ⟨_, rfl⟩
    try dsimp only at hw
    obtain ⟨q1_11, q2_11⟩ := hw
    have q1_11 := q1_11.symm
    subst q1_11
    have q2_11 := q2_11.symm
    subst q2_11
    have hP : va_P D vwCl [(y, .inr (6, [.ref yr, .int mq, .int mn, .ref yw, .ref yc, .int mc, .ref yl, .int me, .ref ys, .ref yp, .ref ym, .int md, .ref yo, .ref yk, .ref yt, .int mz, .ref yi, .ref yz, .ref yx, .ref yu, .int km, .int kr])), (yr, .inl (cI, 7, .inl (md_bump G (-1)))), (yw, .inl (cI, 20, .inl v)), (yp, .inl (cI, 200, .inl P)), (ym, .inl (cI, 200, .inl Mf)), (yo, .inl (cI, 200, .inl of9))] H := hP.sub [4, 5, 0, 1, 2, 3] rfl
    have hD : va_D A [(y, .inr (6, [.ref yr, .int mq, .int mn, .ref yw, .ref yc, .int mc, .ref yl, .int me, .ref ys, .ref yp, .ref ym, .int md, .ref yo, .ref yk, .ref yt, .int mz, .ref yi, .ref yz, .ref yx, .ref yu, .int km, .int kr])), (yr, .inl (cI, 7, .inl (md_bump G (-1)))), (yw, .inl (cI, 20, .inl v)), (yp, .inl (cI, 200, .inl P)), (ym, .inl (cI, 200, .inl Mf)), (yo, .inl (cI, 200, .inl of9))] := hD.sub [4, 5, 0, 1, 2, 3] (by decide) rfl
    exact wrI (w1 := (fun (u : (Nat → Int32) × Int32 × (Nat → Int32) × (Nat → Int32) × (Nat → Int32)) => [(y, .inr (6, [.ref yr, .int mq, .int mn, .ref yw, .ref yc, .int mc, .ref yl, .int me, .ref ys, .ref yp, .ref ym, .int u.2.1, .ref yo, .ref yk, .ref yt, .int mz, .ref yi, .ref yz, .ref yx, .ref yu, .int km, .int kr])), (yr, .inl (cI, 7, .inl u.1)), (yw, .inl (cI, 20, .inl v)), (yp, .inl (cI, 200, .inl u.2.2.1)), (ym, .inl (cI, 200, .inl u.2.2.2.1)), (yo, .inl (cI, 200, .inl u.2.2.2.2))])) ((md_bump G (-1)), md, P, Mf, of9) hx hb hr hlocks dX6_shared_14 hS (hP.sub [0, 1, 2, 3, 4, 5] rfl) (hD.sub [0, 1, 2, 3, 4, 5] (by decide) rfl) (by have e9 : rf_sha mn o oo n k = -1 := (by unfold rf_sha; rw [if_neg c_6]); simp [e9])
