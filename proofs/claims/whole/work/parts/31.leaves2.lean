theorem in_X0_clear_X0 : ∀ w ∈ wsX00, w ∈ wsX0_clear := by decide +kernel
theorem in_X0_forgetLast_X0 : ∀ w ∈ wsX00, w ∈ wsX0_forgetLast := by decide +kernel
theorem in_X0_keep_X0 : ∀ w ∈ wsX00, w ∈ wsX0_keep := by decide +kernel
theorem in_X0_keptAt_X0 : ∀ w ∈ wsX00, w ∈ wsX0_keptAt := by decide +kernel
theorem in_X0_setKept_X0 : ∀ w ∈ wsX00, w ∈ wsX0_setKept := by decide +kernel
theorem in_X1_allBelow_X1 : ∀ w ∈ wsX10, w ∈ wsX1_allBelow := by decide +kernel
theorem in_X1_copyFrom_X1 : ∀ w ∈ wsX10, w ∈ wsX1_copyFrom := by decide +kernel
theorem in_X2_begin_X2 : ∀ w ∈ wsX20, w ∈ wsX2_begin := by decide +kernel
theorem in_X2_get_X2 : ∀ w ∈ wsX20, w ∈ wsX2_get := by decide +kernel
theorem in_X2_hasPlace_X2 : ∀ w ∈ wsX20, w ∈ wsX2_hasPlace := by decide +kernel
theorem in_X2_isMissing_X2 : ∀ w ∈ wsX20, w ∈ wsX2_isMissing := by decide +kernel
theorem in_X2_set_X2 : ∀ w ∈ wsX20, w ∈ wsX2_set := by decide +kernel
theorem in_X4_add_X4 : ∀ w ∈ wsX40, w ∈ wsX4_add := by decide +kernel
theorem in_X4_clear_X4 : ∀ w ∈ wsX40, w ∈ wsX4_clear := by decide +kernel
theorem in_X4_get_X4 : ∀ w ∈ wsX40, w ∈ wsX4_get := by decide +kernel
theorem in_X4_isFull_X4 : ∀ w ∈ wsX40, w ∈ wsX4_isFull := by decide +kernel
set_option maxHeartbeats 4000000 in
set_option maxRecDepth 100000 in
theorem c_X0_clear (l : Launch) (D : va_G) (cI cZ cR : ClassId) (a an : Nat) (z : Int32) (f : Nat → Int32) (sz : Nat) : Met l yX0_clear wsX0_clear ({ frames := 0, cells := 0, slots := 0, locals := 0 }) (PcW D cI cZ cR [.ref a] [(a, .inr (0, [.int z, .ref an])), (an, .inl (cI, 48, .inl f))] sz) (va_Qv (fun (u : Int32) => u = 0) (Bw D (fun (u : Int32) => [(a, .inr (0, [.int u, .ref an])), (an, .inl (cI, 48, .inl f))]) (va_A [(a, .inr (0, [.int z, .ref an])), (an, .inl (cI, 48, .inl f))] sz)) (va_A [(a, .inr (0, [.int z, .ref an])), (an, .inl (cI, 48, .inl f))] sz)) 0 0 (va_A [(a, .inr (0, [.int z, .ref an])), (an, .inl (cI, 48, .inl f))] sz) := by
  refine Met.ofW (cc := cX0_clear) (maxL := 1) (ret := none) (by decide) rfl ?_
  intro p e s m args below meth c s₁ B hml hv
  obtain ⟨rfl, hsz, hP, hK, hD0, hN⟩ := hv
  have hx := B.exec
  have hb := B.bytes
  have hr := B.returns
  have hts := atoms_spec (ws := wsX0_clear) B.pre
  have hown : s.vm.findClass RX0 = some m.cls := findClass_of_methodNamed B.named
  have hlocks := B.notSynchronized
  subst hsz
  have hD := hD0.self (sz := s.heap.size)
  generalize hAe : va_A [(a, .inr (0, [.int z, .ref an])), (an, .inl (cI, 48, .inl f))] s.heap.size = A at hD ⊢
  have hA : ∀ q : Nat, s.heap.size ≤ q → A q := fun q h => by rw [← hAe]; exact Or.inr h
  have hS : va_S A s.heap s.heap [] := va_S.rf
  have hP : va_P D vwCl [(a, .inr (0, [.int z, .ref an])), (an, .inl (cI, 48, .inl f))] s.heap := hP
  have hl := lv_entry ([.ref a]) (n := 1) (Nat.le_of_ble_eq_true rfl)
  rw [lg_entry_eq]
  generalize (lg_sl ([.ref a]) ++ List.replicate (1 - (lg_sl ([.ref a])).length) Slot.unset).toArray = ls at hl ⊢
  have hl : lv_has ls 1 [(0, .ref a)] := hl
  refine lv_aload_n hx hb dX0_clear_0 rfl (lv_at hl 0 rfl) ?_
  refine lv_iconst (v := 0) hx hb dX0_clear_1 (by decide) ?_
  refine va_put (D := D) (ci := 0) (v := .int 0) (ty := .int) (C := RX0) (T := TX0) (N := 2) hx hb hts (in_X0_clear_X0) tyX0 tyX0_ok nmX0 hown hK hP hD hS 0 rfl rfl 0 (by decide) (hts (.fieldLink RX0 9 "StepsRoundCircle$Changes" "size" "I") (by decide +kernel)) (fun _ h9 => h9) rfl (by decide +kernel) rfl rfl (Nat.le_of_ble_eq_true rfl) dX0_clear_2 (fun H locs hP hD hS => ?_)
  have hP : va_P D vwCl [(a, .inr (0, [.int 0, .ref an])), (an, .inl (cI, 48, .inl f))] H := hP
  have hD : va_D A [(a, .inr (0, [.int 0, .ref an])), (an, .inl (cI, 48, .inl f))] := hD
  exact wrV (w1 := (fun (u : Int32) => [(a, .inr (0, [.int u, .ref an])), (an, .inl (cI, 48, .inl f))])) 0 hx hb hr hlocks dX0_clear_5 hS (hP.sub [0, 1] rfl) (hD.sub [0, 1] (by decide) rfl) (by first | exact ⟨rfl, rfl⟩ | rfl | (simp [bi]; done))

set_option maxHeartbeats 4000000 in
set_option maxRecDepth 100000 in
theorem c_X0_setKept (l : Launch) (D : va_G) (cI cZ cR : ClassId) (a an : Nat) (z : Int32) (f : Nat → Int32) (i x : Int32) (sz : Nat) : Met l yX0_setKept wsX0_setKept ({ frames := 1, cells := 0, slots := 0, locals := 21 }) (PcW D cI cZ cR [.ref a, .int i, .int x] [(a, .inr (0, [.int z, .ref an])), (an, .inl (cI, 48, .inl f))] sz) (va_Qv (fun (u : (Nat → Int32)) => u = ch_set f i x) (Bw D (fun (u : (Nat → Int32)) => [(a, .inr (0, [.int z, .ref an])), (an, .inl (cI, 48, .inl u))]) (va_A [(a, .inr (0, [.int z, .ref an])), (an, .inl (cI, 48, .inl f))] sz)) (va_A [(a, .inr (0, [.int z, .ref an])), (an, .inl (cI, 48, .inl f))] sz)) 0 0 (va_A [(a, .inr (0, [.int z, .ref an])), (an, .inl (cI, 48, .inl f))] sz) := by
  refine Met.ofW (cc := cX0_setKept) (maxL := 3) (ret := none) (by decide) rfl ?_
  intro p e s m args below meth c s₁ B hml hv
  obtain ⟨rfl, hsz, hP, hK, hD0, hN⟩ := hv
  have hx := B.exec
  have hb := B.bytes
  have hr := B.returns
  have hts := atoms_spec (ws := wsX0_setKept) B.pre
  have hown : s.vm.findClass RX0 = some m.cls := findClass_of_methodNamed B.named
  have hlocks := B.notSynchronized
  subst hsz
  have hD := hD0.self (sz := s.heap.size)
  generalize hAe : va_A [(a, .inr (0, [.int z, .ref an])), (an, .inl (cI, 48, .inl f))] s.heap.size = A at hD ⊢
  have hA : ∀ q : Nat, s.heap.size ≤ q → A q := fun q h => by rw [← hAe]; exact Or.inr h
  have hS : va_S A s.heap s.heap [] := va_S.rf
  have hP : va_P D vwCl [(a, .inr (0, [.int z, .ref an])), (an, .inl (cI, 48, .inl f))] s.heap := hP
  have hl := lv_entry ([.ref a, .int i, .int x]) (n := 3) (Nat.le_of_ble_eq_true rfl)
  rw [lg_entry_eq]
  generalize (lg_sl ([.ref a, .int i, .int x]) ++ List.replicate (3 - (lg_sl ([.ref a, .int i, .int x])).length) Slot.unset).toArray = ls at hl ⊢
  have hl : lv_has ls 3 [(0, .ref a), (1, .int i), (2, .int x)] := hl
  refine lv_iload_n hx hb dX0_setKept_0 rfl (lv_at hl 1 rfl) ?_
  refine lv_aload_n hx hb dX0_setKept_1 rfl (lv_at hl 0 rfl) ?_
  refine va_get (D := D) (ci := 0) (v := .ref an) (C := RX0) (T := TX0) (N := 2) hx hb hts (in_X0_setKept_X0) hown hK hP 0 rfl rfl 1 (by decide) (hts (.fieldLink RX0 15 "StepsRoundCircle$Changes" "kept" "[I") (by decide +kernel)) (fun _ h9 => h9) rfl dX0_setKept_2 ?_
  refine va_alen (v := 48) hx hb hK hP 1 0 rfl rfl rfl dX0_setKept_5 ?_
  refine rdSN (As := [.int i, .int 48]) (rest := []) ⟨hx, hb, hml, hown, hts⟩ (c_X5_isBelow l D cI cZ cR i 48 ) ⟨va_cnB 2 hts gX0_setKept_X5_isBelow_n33 rfl rfl rfl (hN.at 0 rfl) (hts (.initialized RX5) (by decide +kernel)) (by decide +kernel) ⟨Nat.le_of_ble_eq_true rfl, Nat.le_of_ble_eq_true rfl⟩, hts (.static yX5_isBelow) (by decide +kernel), trivial⟩ hK hN hP [] rfl rfl hl.1 rfl (Nat.le_of_ble_eq_true rfl) dX0_setKept_6 ⟨Nat.zero_le _, Nat.zero_le _⟩ ?_
  refine lv_if_eq (tgt := 19) hx hb dX0_setKept_9 (by decide) (fun c_9 => ?_) (fun c_9 => ?_)
  · skip
    have c_9 := bi_eq0.mp c_9
    exact wrV (w1 := (fun (u : (Nat → Int32)) => [(a, .inr (0, [.int z, .ref an])), (an, .inl (cI, 48, .inl u))])) f hx hb hr hlocks dX0_setKept_19 hS (hP.sub [0, 1] rfl) (hD.sub [0, 1] (by decide) rfl) (by first | exact ⟨rfl, rfl⟩ | rfl | (simp [bi, ch_set, c_9]; done))
  · skip
    have c_9 := bi_ne0.mp c_9
    refine lv_aload_n hx hb dX0_setKept_12 rfl (lv_at hl 0 rfl) ?_
    refine va_get (D := D) (ci := 0) (v := .ref an) (C := RX0) (T := TX0) (N := 2) hx hb hts (in_X0_setKept_X0) hown hK hP 0 rfl rfl 1 (by decide) (hts (.fieldLink RX0 15 "StepsRoundCircle$Changes" "kept" "[I") (by decide +kernel)) (fun _ h9 => h9) rfl dX0_setKept_13 ?_
    refine lv_iload_n hx hb dX0_setKept_16 rfl (lv_at hl 1 rfl) ?_
    refine lv_iload_n hx hb dX0_setKept_17 rfl (lv_at hl 2 rfl) ?_
    refine va_iast hx hb hK hP hD hS 1 0 rfl rfl (vp_lit (n := 48) (by decide) c_9) dX0_setKept_18 (fun H locs hP hD hS => ?_)
    have hP : va_P D vwCl [(a, .inr (0, [.int z, .ref an])), (an, .inl (cI, 48, .inl (upd f i.toNatClampNeg x)))] H := hP
    have hD : va_D A [(a, .inr (0, [.int z, .ref an])), (an, .inl (cI, 48, .inl (upd f i.toNatClampNeg x)))] := hD
    exact wrV (w1 := (fun (u : (Nat → Int32)) => [(a, .inr (0, [.int z, .ref an])), (an, .inl (cI, 48, .inl u))])) (upd f i.toNatClampNeg x) hx hb hr hlocks dX0_setKept_19 hS (hP.sub [0, 1] rfl) (hD.sub [0, 1] (by decide) rfl) (by first | exact ⟨rfl, rfl⟩ | rfl | (simp [bi, ch_set, c_9]; done))

set_option maxHeartbeats 4000000 in
set_option maxRecDepth 100000 in
theorem c_X0_keptAt (l : Launch) (D : va_G) (cI cZ cR : ClassId) (a an : Nat) (z : Int32) (f : Nat → Int32) (i : Int32) : Met l yX0_keptAt wsX0_keptAt ({ frames := 1, cells := 0, slots := 0, locals := 21 }) (PcR D cI cZ cR [.ref a, .int i] [(a, .inr (0, [.int z, .ref an])), (an, .inl (cI, 48, .inl f))]) (k2_QcV (.int (ch_at f i))) 0 0 (fun _ => False) := by
  refine Met.ofW (cc := cX0_keptAt) (maxL := 2) (ret := (some .int)) (by decide) rfl ?_
  intro p e s m args below meth c s₁ B hml hv
  obtain ⟨rfl, hP, hK, hN⟩ := hv
  have hx := B.exec
  have hb := B.bytes
  have hr := B.returns
  have hts := atoms_spec (ws := wsX0_keptAt) B.pre
  have hown : s.vm.findClass RX0 = some m.cls := findClass_of_methodNamed B.named
  have hlocks := B.notSynchronized
  have hP : va_P D vwCl [(a, .inr (0, [.int z, .ref an])), (an, .inl (cI, 48, .inl f))] s.heap := hP
  have hl := lv_entry ([.ref a, .int i]) (n := 2) (Nat.le_of_ble_eq_true rfl)
  rw [lg_entry_eq]
  generalize (lg_sl ([.ref a, .int i]) ++ List.replicate (2 - (lg_sl ([.ref a, .int i])).length) Slot.unset).toArray = ls at hl ⊢
  have hl : lv_has ls 2 [(0, .ref a), (1, .int i)] := hl
  refine lv_iload_n hx hb dX0_keptAt_0 rfl (lv_at hl 1 rfl) ?_
  refine lv_aload_n hx hb dX0_keptAt_1 rfl (lv_at hl 0 rfl) ?_
  refine va_get (D := D) (ci := 0) (v := .ref an) (C := RX0) (T := TX0) (N := 2) hx hb hts (in_X0_keptAt_X0) hown hK hP 0 rfl rfl 1 (by decide) (hts (.fieldLink RX0 15 "StepsRoundCircle$Changes" "kept" "[I") (by decide +kernel)) (fun _ h9 => h9) rfl dX0_keptAt_2 ?_
  refine va_alen (v := 48) hx hb hK hP 1 0 rfl rfl rfl dX0_keptAt_5 ?_
  refine rdSN (As := [.int i, .int 48]) (rest := []) ⟨hx, hb, hml, hown, hts⟩ (c_X5_isBelow l D cI cZ cR i 48 ) ⟨va_cnB 2 hts gX0_keptAt_X5_isBelow_n33 rfl rfl rfl (hN.at 0 rfl) (hts (.initialized RX5) (by decide +kernel)) (by decide +kernel) ⟨Nat.le_of_ble_eq_true rfl, Nat.le_of_ble_eq_true rfl⟩, hts (.static yX5_isBelow) (by decide +kernel), trivial⟩ hK hN hP [] rfl rfl hl.1 rfl (Nat.le_of_ble_eq_true rfl) dX0_keptAt_6 ⟨Nat.zero_le _, Nat.zero_le _⟩ ?_
  refine lv_if_eq (tgt := 21) hx hb dX0_keptAt_9 (by decide) (fun c_9 => ?_) (fun c_9 => ?_)
  · skip
    have c_9 := bi_eq0.mp c_9
    refine lv_iconst (v := 0) hx hb dX0_keptAt_21 (by decide) ?_
    exact rdI hx hb hr hlocks dX0_keptAt_22 (by first | rfl | (simp [bi, ch_at, c_9]; done))
  · skip
    have c_9 := bi_ne0.mp c_9
    refine lv_aload_n hx hb dX0_keptAt_12 rfl (lv_at hl 0 rfl) ?_
    refine va_get (D := D) (ci := 0) (v := .ref an) (C := RX0) (T := TX0) (N := 2) hx hb hts (in_X0_keptAt_X0) hown hK hP 0 rfl rfl 1 (by decide) (hts (.fieldLink RX0 15 "StepsRoundCircle$Changes" "kept" "[I") (by decide +kernel)) (fun _ h9 => h9) rfl dX0_keptAt_13 ?_
    refine lv_iload_n hx hb dX0_keptAt_16 rfl (lv_at hl 1 rfl) ?_
    refine va_iald hx hb hK hP 1 0 rfl rfl (vp_lit (n := 48) (by decide) c_9) dX0_keptAt_17 ?_
    refine lv_goto (tgt := 22) hx hb dX0_keptAt_18 (by decide) ?_
    exact rdI hx hb hr hlocks dX0_keptAt_22 (by first | rfl | (simp [bi, ch_at, c_9]; done))

set_option maxHeartbeats 4000000 in
set_option maxRecDepth 100000 in
theorem c_X0_walkerAt (l : Launch) (D : va_G) (cI cZ cR : ClassId) (a an : Nat) (z : Int32) (f : Nat → Int32) (i : Int32) : Met l yX0_walkerAt wsX0_walkerAt ({ frames := 2, cells := 0, slots := 0, locals := 42 }) (PcR D cI cZ cR [.ref a, .int i] [(a, .inr (0, [.int z, .ref an])), (an, .inl (cI, 48, .inl f))]) (k2_QcV (.int (ch_at f (i * 3)))) 0 0 (fun _ => False) := by
  refine Met.ofW (cc := cX0_walkerAt) (maxL := 2) (ret := (some .int)) (by decide) rfl ?_
  intro p e s m args below meth c s₁ B hml hv
  obtain ⟨rfl, hP, hK, hN⟩ := hv
  have hx := B.exec
  have hb := B.bytes
  have hr := B.returns
  have hts := atoms_spec (ws := wsX0_walkerAt) B.pre
  have hown : s.vm.findClass RX0 = some m.cls := findClass_of_methodNamed B.named
  have hlocks := B.notSynchronized
  have hP : va_P D vwCl [(a, .inr (0, [.int z, .ref an])), (an, .inl (cI, 48, .inl f))] s.heap := hP
  have hl := lv_entry ([.ref a, .int i]) (n := 2) (Nat.le_of_ble_eq_true rfl)
  rw [lg_entry_eq]
  generalize (lg_sl ([.ref a, .int i]) ++ List.replicate (2 - (lg_sl ([.ref a, .int i])).length) Slot.unset).toArray = ls at hl ⊢
  have hl : lv_has ls 2 [(0, .ref a), (1, .int i)] := hl
  refine lv_aload_n hx hb dX0_walkerAt_0 rfl (lv_at hl 0 rfl) ?_
  refine lv_iload_n hx hb dX0_walkerAt_1 rfl (lv_at hl 1 rfl) ?_
  refine lv_iconst (v := 3) hx hb dX0_walkerAt_2 (by decide) ?_
  refine lv_imul hx hb dX0_walkerAt_3 ?_
  refine rdV (As := [.int (i * 3)]) (rest := []) ⟨hx, hb, hml, hown, hts⟩ (c_X0_keptAt l D cI cZ cR a an z f (i * 3) ) (cwV 1 hts gX0_walkerAt_X0_keptAt rfl rfl rfl (by decide +kernel) ⟨Nat.le_of_ble_eq_true rfl, Nat.le_of_ble_eq_true rfl⟩) hK hN hP 0 0 rfl rfl rfl [0, 1] rfl rfl hl.1 rfl (Nat.le_of_ble_eq_true rfl) dX0_walkerAt_4 ⟨Nat.zero_le _, Nat.zero_le _⟩ ?_
  exact rdI hx hb hr hlocks dX0_walkerAt_7 (by first | rfl | (simp [bi]; done))

set_option maxHeartbeats 4000000 in
set_option maxRecDepth 100000 in
theorem c_X0_whatAt (l : Launch) (D : va_G) (cI cZ cR : ClassId) (a an : Nat) (z : Int32) (f : Nat → Int32) (i : Int32) : Met l yX0_whatAt wsX0_whatAt ({ frames := 2, cells := 0, slots := 0, locals := 42 }) (PcR D cI cZ cR [.ref a, .int i] [(a, .inr (0, [.int z, .ref an])), (an, .inl (cI, 48, .inl f))]) (k2_QcV (.int (ch_at f (i * 3 + 1)))) 0 0 (fun _ => False) := by
  refine Met.ofW (cc := cX0_whatAt) (maxL := 2) (ret := (some .int)) (by decide) rfl ?_
  intro p e s m args below meth c s₁ B hml hv
  obtain ⟨rfl, hP, hK, hN⟩ := hv
  have hx := B.exec
  have hb := B.bytes
  have hr := B.returns
  have hts := atoms_spec (ws := wsX0_whatAt) B.pre
  have hown : s.vm.findClass RX0 = some m.cls := findClass_of_methodNamed B.named
  have hlocks := B.notSynchronized
  have hP : va_P D vwCl [(a, .inr (0, [.int z, .ref an])), (an, .inl (cI, 48, .inl f))] s.heap := hP
  have hl := lv_entry ([.ref a, .int i]) (n := 2) (Nat.le_of_ble_eq_true rfl)
  rw [lg_entry_eq]
  generalize (lg_sl ([.ref a, .int i]) ++ List.replicate (2 - (lg_sl ([.ref a, .int i])).length) Slot.unset).toArray = ls at hl ⊢
  have hl : lv_has ls 2 [(0, .ref a), (1, .int i)] := hl
  refine lv_aload_n hx hb dX0_whatAt_0 rfl (lv_at hl 0 rfl) ?_
  refine lv_iload_n hx hb dX0_whatAt_1 rfl (lv_at hl 1 rfl) ?_
  refine lv_iconst (v := 3) hx hb dX0_whatAt_2 (by decide) ?_
  refine lv_imul hx hb dX0_whatAt_3 ?_
  refine lv_iconst (v := 1) hx hb dX0_whatAt_4 (by decide) ?_
  refine lv_iadd hx hb dX0_whatAt_5 ?_
  refine rdV (As := [.int ((i * 3) + 1)]) (rest := []) ⟨hx, hb, hml, hown, hts⟩ (c_X0_keptAt l D cI cZ cR a an z f ((i * 3) + 1) ) (cwV 1 hts gX0_whatAt_X0_keptAt rfl rfl rfl (by decide +kernel) ⟨Nat.le_of_ble_eq_true rfl, Nat.le_of_ble_eq_true rfl⟩) hK hN hP 0 0 rfl rfl rfl [0, 1] rfl rfl hl.1 rfl (Nat.le_of_ble_eq_true rfl) dX0_whatAt_6 ⟨Nat.zero_le _, Nat.zero_le _⟩ ?_
  exact rdI hx hb hr hlocks dX0_whatAt_9 (by first | rfl | (simp [bi]; done))

set_option maxHeartbeats 4000000 in
set_option maxRecDepth 100000 in
theorem c_X0_wasAt (l : Launch) (D : va_G) (cI cZ cR : ClassId) (a an : Nat) (z : Int32) (f : Nat → Int32) (i : Int32) : Met l yX0_wasAt wsX0_wasAt ({ frames := 2, cells := 0, slots := 0, locals := 42 }) (PcR D cI cZ cR [.ref a, .int i] [(a, .inr (0, [.int z, .ref an])), (an, .inl (cI, 48, .inl f))]) (k2_QcV (.int (ch_at f (i * 3 + 2)))) 0 0 (fun _ => False) := by
  refine Met.ofW (cc := cX0_wasAt) (maxL := 2) (ret := (some .int)) (by decide) rfl ?_
  intro p e s m args below meth c s₁ B hml hv
  obtain ⟨rfl, hP, hK, hN⟩ := hv
  have hx := B.exec
  have hb := B.bytes
  have hr := B.returns
  have hts := atoms_spec (ws := wsX0_wasAt) B.pre
  have hown : s.vm.findClass RX0 = some m.cls := findClass_of_methodNamed B.named
  have hlocks := B.notSynchronized
  have hP : va_P D vwCl [(a, .inr (0, [.int z, .ref an])), (an, .inl (cI, 48, .inl f))] s.heap := hP
  have hl := lv_entry ([.ref a, .int i]) (n := 2) (Nat.le_of_ble_eq_true rfl)
  rw [lg_entry_eq]
  generalize (lg_sl ([.ref a, .int i]) ++ List.replicate (2 - (lg_sl ([.ref a, .int i])).length) Slot.unset).toArray = ls at hl ⊢
  have hl : lv_has ls 2 [(0, .ref a), (1, .int i)] := hl
  refine lv_aload_n hx hb dX0_wasAt_0 rfl (lv_at hl 0 rfl) ?_
  refine lv_iload_n hx hb dX0_wasAt_1 rfl (lv_at hl 1 rfl) ?_
  refine lv_iconst (v := 3) hx hb dX0_wasAt_2 (by decide) ?_
  refine lv_imul hx hb dX0_wasAt_3 ?_
  refine lv_iconst (v := 2) hx hb dX0_wasAt_4 (by decide) ?_
  refine lv_iadd hx hb dX0_wasAt_5 ?_
  refine rdV (As := [.int ((i * 3) + 2)]) (rest := []) ⟨hx, hb, hml, hown, hts⟩ (c_X0_keptAt l D cI cZ cR a an z f ((i * 3) + 2) ) (cwV 1 hts gX0_wasAt_X0_keptAt rfl rfl rfl (by decide +kernel) ⟨Nat.le_of_ble_eq_true rfl, Nat.le_of_ble_eq_true rfl⟩) hK hN hP 0 0 rfl rfl rfl [0, 1] rfl rfl hl.1 rfl (Nat.le_of_ble_eq_true rfl) dX0_wasAt_6 ⟨Nat.zero_le _, Nat.zero_le _⟩ ?_
  exact rdI hx hb hr hlocks dX0_wasAt_9 (by first | rfl | (simp [bi]; done))

set_option maxHeartbeats 4000000 in
set_option maxRecDepth 100000 in
theorem c_X0_forgetLast (l : Launch) (D : va_G) (cI cZ cR : ClassId) (a an : Nat) (z : Int32) (f : Nat → Int32) (sz : Nat) : Met l yX0_forgetLast wsX0_forgetLast ({ frames := 0, cells := 0, slots := 0, locals := 0 }) (PcW D cI cZ cR [.ref a] [(a, .inr (0, [.int z, .ref an])), (an, .inl (cI, 48, .inl f))] sz) (va_Qv (fun (u : Int32) => u = ch_less z) (Bw D (fun (u : Int32) => [(a, .inr (0, [.int u, .ref an])), (an, .inl (cI, 48, .inl f))]) (va_A [(a, .inr (0, [.int z, .ref an])), (an, .inl (cI, 48, .inl f))] sz)) (va_A [(a, .inr (0, [.int z, .ref an])), (an, .inl (cI, 48, .inl f))] sz)) 0 0 (va_A [(a, .inr (0, [.int z, .ref an])), (an, .inl (cI, 48, .inl f))] sz) := by
  refine Met.ofW (cc := cX0_forgetLast) (maxL := 1) (ret := none) (by decide) rfl ?_
  intro p e s m args below meth c s₁ B hml hv
  obtain ⟨rfl, hsz, hP, hK, hD0, hN⟩ := hv
  have hx := B.exec
  have hb := B.bytes
  have hr := B.returns
  have hts := atoms_spec (ws := wsX0_forgetLast) B.pre
  have hown : s.vm.findClass RX0 = some m.cls := findClass_of_methodNamed B.named
  have hlocks := B.notSynchronized
  subst hsz
  have hD := hD0.self (sz := s.heap.size)
  generalize hAe : va_A [(a, .inr (0, [.int z, .ref an])), (an, .inl (cI, 48, .inl f))] s.heap.size = A at hD ⊢
  have hA : ∀ q : Nat, s.heap.size ≤ q → A q := fun q h => by rw [← hAe]; exact Or.inr h
  have hS : va_S A s.heap s.heap [] := va_S.rf
  have hP : va_P D vwCl [(a, .inr (0, [.int z, .ref an])), (an, .inl (cI, 48, .inl f))] s.heap := hP
  have hl := lv_entry ([.ref a]) (n := 1) (Nat.le_of_ble_eq_true rfl)
  rw [lg_entry_eq]
  generalize (lg_sl ([.ref a]) ++ List.replicate (1 - (lg_sl ([.ref a])).length) Slot.unset).toArray = ls at hl ⊢
  have hl : lv_has ls 1 [(0, .ref a)] := hl
  refine lv_aload_n hx hb dX0_forgetLast_0 rfl (lv_at hl 0 rfl) ?_
  refine va_get (D := D) (ci := 0) (v := .int z) (C := RX0) (T := TX0) (N := 2) hx hb hts (in_X0_forgetLast_X0) hown hK hP 0 rfl rfl 0 (by decide) (hts (.fieldLink RX0 9 "StepsRoundCircle$Changes" "size" "I") (by decide +kernel)) (fun _ h9 => h9) rfl dX0_forgetLast_1 ?_
  refine lv_if_le (tgt := 17) hx hb dX0_forgetLast_4 (by decide) (fun c_4 => ?_) (fun c_4 => ?_)
  · skip
    exact wrV (w1 := (fun (u : Int32) => [(a, .inr (0, [.int u, .ref an])), (an, .inl (cI, 48, .inl f))])) z hx hb hr hlocks dX0_forgetLast_17 hS (hP.sub [0, 1] rfl) (hD.sub [0, 1] (by decide) rfl) (by first | exact ⟨rfl, rfl⟩ | rfl | (simp [bi, ch_less, c_4, Int32.not_lt.mpr c_4]; done))
  · skip
    refine lv_aload_n hx hb dX0_forgetLast_7 rfl (lv_at hl 0 rfl) ?_
    refine lv_dup hx hb dX0_forgetLast_8 rfl ?_
    refine va_get (D := D) (ci := 0) (v := .int z) (C := RX0) (T := TX0) (N := 2) hx hb hts (in_X0_forgetLast_X0) hown hK hP 0 rfl rfl 0 (by decide) (hts (.fieldLink RX0 9 "StepsRoundCircle$Changes" "size" "I") (by decide +kernel)) (fun _ h9 => h9) rfl dX0_forgetLast_9 ?_
    refine lv_iconst (v := 1) hx hb dX0_forgetLast_12 (by decide) ?_
    refine lv_isub hx hb dX0_forgetLast_13 ?_
    refine va_put (D := D) (ci := 0) (v := .int (z - 1)) (ty := .int) (C := RX0) (T := TX0) (N := 2) hx hb hts (in_X0_forgetLast_X0) tyX0 tyX0_ok nmX0 hown hK hP hD hS 0 rfl rfl 0 (by decide) (hts (.fieldLink RX0 9 "StepsRoundCircle$Changes" "size" "I") (by decide +kernel)) (fun _ h9 => h9) rfl (by decide +kernel) rfl rfl (Nat.le_of_ble_eq_true rfl) dX0_forgetLast_14 (fun H locs hP hD hS => ?_)
    have hP : va_P D vwCl [(a, .inr (0, [.int (z - 1), .ref an])), (an, .inl (cI, 48, .inl f))] H := hP
    have hD : va_D A [(a, .inr (0, [.int (z - 1), .ref an])), (an, .inl (cI, 48, .inl f))] := hD
    exact wrV (w1 := (fun (u : Int32) => [(a, .inr (0, [.int u, .ref an])), (an, .inl (cI, 48, .inl f))])) (z - 1) hx hb hr hlocks dX0_forgetLast_17 hS (hP.sub [0, 1] rfl) (hD.sub [0, 1] (by decide) rfl) (by first | exact ⟨rfl, rfl⟩ | rfl | (simp [bi, ch_less, c_4, Int32.not_le.mp c_4]; done))

set_option maxHeartbeats 4000000 in
set_option maxRecDepth 100000 in
theorem c_X0_keep (l : Launch) (D : va_G) (cI cZ cR : ClassId) (a an : Nat) (z : Int32) (f : Nat → Int32) (x0 x1 x2 : Int32) (sz : Nat) : Met l yX0_keep wsX0_keep ({ frames := 2, cells := 0, slots := 0, locals := 60 }) (PcW D cI cZ cR [.ref a, .int x0, .int x1, .int x2] [(a, .inr (0, [.int z, .ref an])), (an, .inl (cI, 48, .inl f))] sz) (va_Qv (fun (u : Int32 × (Nat → Int32)) => u.1 = ch_z z + 1 ∧ u.2 = ch_keep z f x0 x1 x2) (Bw D (fun (u : Int32 × (Nat → Int32)) => [(a, .inr (0, [.int u.1, .ref an])), (an, .inl (cI, 48, .inl u.2))]) (va_A [(a, .inr (0, [.int z, .ref an])), (an, .inl (cI, 48, .inl f))] sz)) (va_A [(a, .inr (0, [.int z, .ref an])), (an, .inl (cI, 48, .inl f))] sz)) 0 0 (va_A [(a, .inr (0, [.int z, .ref an])), (an, .inl (cI, 48, .inl f))] sz) := by
  refine Met.ofW (cc := cX0_keep) (maxL := 4) (ret := none) (by decide) rfl ?_
  intro p e s m args below meth c s₁ B hml hv
  obtain ⟨rfl, hsz, hP, hK, hD0, hN⟩ := hv
  have hx := B.exec
  have hb := B.bytes
  have hr := B.returns
  have hts := atoms_spec (ws := wsX0_keep) B.pre
  have hown : s.vm.findClass RX0 = some m.cls := findClass_of_methodNamed B.named
  have hlocks := B.notSynchronized
  subst hsz
  have hD := hD0.self (sz := s.heap.size)
  generalize hAe : va_A [(a, .inr (0, [.int z, .ref an])), (an, .inl (cI, 48, .inl f))] s.heap.size = A at hD ⊢
  have hA : ∀ q : Nat, s.heap.size ≤ q → A q := fun q h => by rw [← hAe]; exact Or.inr h
  have hS : va_S A s.heap s.heap [] := va_S.rf
  have hP : va_P D vwCl [(a, .inr (0, [.int z, .ref an])), (an, .inl (cI, 48, .inl f))] s.heap := hP
  have hl := lv_entry ([.ref a, .int x0, .int x1, .int x2]) (n := 4) (Nat.le_of_ble_eq_true rfl)
  rw [lg_entry_eq]
  generalize (lg_sl ([.ref a, .int x0, .int x1, .int x2]) ++ List.replicate (4 - (lg_sl ([.ref a, .int x0, .int x1, .int x2])).length) Slot.unset).toArray = ls at hl ⊢
  have hl : lv_has ls 4 [(0, .ref a), (1, .int x0), (2, .int x1), (3, .int x2)] := hl
  refine lv_aload_n hx hb dX0_keep_0 rfl (lv_at hl 0 rfl) ?_
  refine va_get (D := D) (ci := 0) (v := .int z) (C := RX0) (T := TX0) (N := 2) hx hb hts (in_X0_keep_X0) hown hK hP 0 rfl rfl 0 (by decide) (hts (.fieldLink RX0 9 "StepsRoundCircle$Changes" "size" "I") (by decide +kernel)) (fun _ h9 => h9) rfl dX0_keep_1 ?_
  refine lv_bipush (v := 16) hx hb dX0_keep_4 (by decide) ?_
  refine lv_icmp_lt (tgt := 35) hx hb dX0_keep_6 (by decide) (fun c_6 => ?_) (fun c_6 => ?_)
  · skip
    refine lv_aload_n hx hb dX0_keep_35 rfl (lv_at hl 0 rfl) ?_
    refine lv_aload_n hx hb dX0_keep_36 rfl (lv_at hl 0 rfl) ?_
    refine va_get (D := D) (ci := 0) (v := .int z) (C := RX0) (T := TX0) (N := 2) hx hb hts (in_X0_keep_X0) hown hK hP 0 rfl rfl 0 (by decide) (hts (.fieldLink RX0 9 "StepsRoundCircle$Changes" "size" "I") (by decide +kernel)) (fun _ h9 => h9) rfl dX0_keep_37 ?_
    refine lv_iconst (v := 3) hx hb dX0_keep_40 (by decide) ?_
    refine lv_imul hx hb dX0_keep_41 ?_
    refine lv_iload_n hx hb dX0_keep_42 rfl (lv_at hl 1 rfl) ?_
    refine wrVv (As := [.int (z * 3), .int x0]) (rest := []) (wr := []) (A := A) ⟨hx, hb, hml, hown, hts⟩ (c_X0_setKept l D cI cZ cR a an z f (z * 3) x0  s.heap.size) (cwV 2 hts gX0_keep_X0_setKept rfl rfl rfl (by decide +kernel) ⟨Nat.le_of_ble_eq_true rfl, Nat.le_of_ble_eq_true rfl⟩) hK hN hP hD hS hA 0 0 rfl rfl rfl [0, 1] [] rfl (by decide) rfl (by decide) (by decide) rfl hl.1 rfl (Nat.le_of_ble_eq_true rfl) dX0_keep_43 ⟨Nat.zero_le _, Nat.zero_le _⟩ (fun u H locs hw hP hD hS => ?_)
    obtain ⟨f_43, rfl⟩ : ∃ z, z = u := ⟨_, rfl⟩
    try dsimp only at hw
    have q1_43 := hw
    have q1_43 := q1_43.symm
    subst q1_43
    have hP : va_P D vwCl [(a, .inr (0, [.int z, .ref an])), (an, .inl (cI, 48, .inl (ch_set f (z * 3) x0)))] H := hP.sub [0, 1] rfl
    have hD : va_D A [(a, .inr (0, [.int z, .ref an])), (an, .inl (cI, 48, .inl (ch_set f (z * 3) x0)))] := hD.sub [0, 1] (by decide) rfl
    refine lv_aload_n hx hb dX0_keep_46 rfl (lv_at hl 0 rfl) ?_
    refine lv_aload_n hx hb dX0_keep_47 rfl (lv_at hl 0 rfl) ?_
    refine va_get (D := D) (ci := 0) (v := .int z) (C := RX0) (T := TX0) (N := 2) hx hb hts (in_X0_keep_X0) hown hK hP 0 rfl rfl 0 (by decide) (hts (.fieldLink RX0 9 "StepsRoundCircle$Changes" "size" "I") (by decide +kernel)) (fun _ h9 => h9) rfl dX0_keep_48 ?_
    refine lv_iconst (v := 3) hx hb dX0_keep_51 (by decide) ?_
    refine lv_imul hx hb dX0_keep_52 ?_
    refine lv_iconst (v := 1) hx hb dX0_keep_53 (by decide) ?_
    refine lv_iadd hx hb dX0_keep_54 ?_
    refine lv_iload_n hx hb dX0_keep_55 rfl (lv_at hl 2 rfl) ?_
    refine wrVv (As := [.int ((z * 3) + 1), .int x1]) (rest := []) (wr := []) (A := A) ⟨hx, hb, hml, hown, hts⟩ (c_X0_setKept l D cI cZ cR a an z (ch_set f (z * 3) x0) ((z * 3) + 1) x1  H.size) (cwV 2 hts gX0_keep_X0_setKept rfl rfl rfl (by decide +kernel) ⟨Nat.le_of_ble_eq_true rfl, Nat.le_of_ble_eq_true rfl⟩) hK hN hP hD hS hA 0 0 rfl rfl rfl [0, 1] [] rfl (by decide) rfl (by decide) (by decide) rfl hl.1 rfl (Nat.le_of_ble_eq_true rfl) dX0_keep_56 ⟨Nat.zero_le _, Nat.zero_le _⟩ (fun u H locs hw hP hD hS => ?_)
    obtain ⟨f_56, rfl⟩ : ∃ z, z = u := ⟨_, rfl⟩
    try dsimp only at hw
    have q1_56 := hw
    have q1_56 := q1_56.symm
    subst q1_56
    have hP : va_P D vwCl [(a, .inr (0, [.int z, .ref an])), (an, .inl (cI, 48, .inl (ch_set (ch_set f (z * 3) x0) ((z * 3) + 1) x1)))] H := hP.sub [0, 1] rfl
    have hD : va_D A [(a, .inr (0, [.int z, .ref an])), (an, .inl (cI, 48, .inl (ch_set (ch_set f (z * 3) x0) ((z * 3) + 1) x1)))] := hD.sub [0, 1] (by decide) rfl
    refine lv_aload_n hx hb dX0_keep_59 rfl (lv_at hl 0 rfl) ?_
    refine lv_aload_n hx hb dX0_keep_60 rfl (lv_at hl 0 rfl) ?_
    refine va_get (D := D) (ci := 0) (v := .int z) (C := RX0) (T := TX0) (N := 2) hx hb hts (in_X0_keep_X0) hown hK hP 0 rfl rfl 0 (by decide) (hts (.fieldLink RX0 9 "StepsRoundCircle$Changes" "size" "I") (by decide +kernel)) (fun _ h9 => h9) rfl dX0_keep_61 ?_
    refine lv_iconst (v := 3) hx hb dX0_keep_64 (by decide) ?_
    refine lv_imul hx hb dX0_keep_65 ?_
    refine lv_iconst (v := 2) hx hb dX0_keep_66 (by decide) ?_
    refine lv_iadd hx hb dX0_keep_67 ?_
    refine lv_iload_n hx hb dX0_keep_68 rfl (lv_at hl 3 rfl) ?_
    refine wrVv (As := [.int ((z * 3) + 2), .int x2]) (rest := []) (wr := []) (A := A) ⟨hx, hb, hml, hown, hts⟩ (c_X0_setKept l D cI cZ cR a an z (ch_set (ch_set f (z * 3) x0) ((z * 3) + 1) x1) ((z * 3) + 2) x2  H.size) (cwV 2 hts gX0_keep_X0_setKept rfl rfl rfl (by decide +kernel) ⟨Nat.le_of_ble_eq_true rfl, Nat.le_of_ble_eq_true rfl⟩) hK hN hP hD hS hA 0 0 rfl rfl rfl [0, 1] [] rfl (by decide) rfl (by decide) (by decide) rfl hl.1 rfl (Nat.le_of_ble_eq_true rfl) dX0_keep_69 ⟨Nat.zero_le _, Nat.zero_le _⟩ (fun u H locs hw hP hD hS => ?_)
    obtain ⟨f_69, rfl⟩ : ∃ z, z = u := ⟨_, rfl⟩
    try dsimp only at hw
    have q1_69 := hw
    have q1_69 := q1_69.symm
    subst q1_69
    have hP : va_P D vwCl [(a, .inr (0, [.int z, .ref an])), (an, .inl (cI, 48, .inl (ch_set (ch_set (ch_set f (z * 3) x0) ((z * 3) + 1) x1) ((z * 3) + 2) x2)))] H := hP.sub [0, 1] rfl
    have hD : va_D A [(a, .inr (0, [.int z, .ref an])), (an, .inl (cI, 48, .inl (ch_set (ch_set (ch_set f (z * 3) x0) ((z * 3) + 1) x1) ((z * 3) + 2) x2)))] := hD.sub [0, 1] (by decide) rfl
    refine lv_aload_n hx hb dX0_keep_72 rfl (lv_at hl 0 rfl) ?_
    refine lv_dup hx hb dX0_keep_73 rfl ?_
    refine va_get (D := D) (ci := 0) (v := .int z) (C := RX0) (T := TX0) (N := 2) hx hb hts (in_X0_keep_X0) hown hK hP 0 rfl rfl 0 (by decide) (hts (.fieldLink RX0 9 "StepsRoundCircle$Changes" "size" "I") (by decide +kernel)) (fun _ h9 => h9) rfl dX0_keep_74 ?_
    refine lv_iconst (v := 1) hx hb dX0_keep_77 (by decide) ?_
    refine lv_iadd hx hb dX0_keep_78 ?_
    refine va_put (D := D) (ci := 0) (v := .int (z + 1)) (ty := .int) (C := RX0) (T := TX0) (N := 2) hx hb hts (in_X0_keep_X0) tyX0 tyX0_ok nmX0 hown hK hP hD hS 0 rfl rfl 0 (by decide) (hts (.fieldLink RX0 9 "StepsRoundCircle$Changes" "size" "I") (by decide +kernel)) (fun _ h9 => h9) rfl (by decide +kernel) rfl rfl (Nat.le_of_ble_eq_true rfl) dX0_keep_79 (fun H locs hP hD hS => ?_)
    have hP : va_P D vwCl [(a, .inr (0, [.int (z + 1), .ref an])), (an, .inl (cI, 48, .inl (ch_set (ch_set (ch_set f (z * 3) x0) ((z * 3) + 1) x1) ((z * 3) + 2) x2)))] H := hP
    have hD : va_D A [(a, .inr (0, [.int (z + 1), .ref an])), (an, .inl (cI, 48, .inl (ch_set (ch_set (ch_set f (z * 3) x0) ((z * 3) + 1) x1) ((z * 3) + 2) x2)))] := hD
    exact wrV (w1 := (fun (u : Int32 × (Nat → Int32)) => [(a, .inr (0, [.int u.1, .ref an])), (an, .inl (cI, 48, .inl u.2))])) ((z + 1), (ch_set (ch_set (ch_set f (z * 3) x0) ((z * 3) + 1) x1) ((z * 3) + 2) x2)) hx hb hr hlocks dX0_keep_82 hS (hP.sub [0, 1] rfl) (hD.sub [0, 1] (by decide) rfl) (by first | exact ⟨rfl, rfl⟩ | rfl | (simp [bi, ch_keep, ch_z, ch_sh, c_6, Int32.not_le.mpr c_6]; done))
  · skip
    refine lv_aload_n hx hb dX0_keep_9 rfl (lv_at hl 0 rfl) ?_
    refine va_get (D := D) (ci := 0) (v := .ref an) (C := RX0) (T := TX0) (N := 2) hx hb hts (in_X0_keep_X0) hown hK hP 0 rfl rfl 1 (by decide) (hts (.fieldLink RX0 15 "StepsRoundCircle$Changes" "kept" "[I") (by decide +kernel)) (fun _ h9 => h9) rfl dX0_keep_10 ?_
    refine lv_iconst (v := 3) hx hb dX0_keep_13 (by decide) ?_
    refine lv_aload_n hx hb dX0_keep_14 rfl (lv_at hl 0 rfl) ?_
    refine va_get (D := D) (ci := 0) (v := .ref an) (C := RX0) (T := TX0) (N := 2) hx hb hts (in_X0_keep_X0) hown hK hP 0 rfl rfl 1 (by decide) (hts (.fieldLink RX0 15 "StepsRoundCircle$Changes" "kept" "[I") (by decide +kernel)) (fun _ h9 => h9) rfl dX0_keep_15 ?_
    refine lv_iconst (v := 0) hx hb dX0_keep_18 (by decide) ?_
    refine lv_aload_n hx hb dX0_keep_19 rfl (lv_at hl 0 rfl) ?_
    refine va_get (D := D) (ci := 0) (v := .ref an) (C := RX0) (T := TX0) (N := 2) hx hb hts (in_X0_keep_X0) hown hK hP 0 rfl rfl 1 (by decide) (hts (.fieldLink RX0 15 "StepsRoundCircle$Changes" "kept" "[I") (by decide +kernel)) (fun _ h9 => h9) rfl dX0_keep_20 ?_
    refine va_alen (v := 48) hx hb hK hP 1 0 rfl rfl rfl dX0_keep_23 ?_
    refine lv_iconst (v := 3) hx hb dX0_keep_24 (by decide) ?_
    refine lv_isub hx hb dX0_keep_25 ?_
    refine va_copyi hx hb (hml.trans hl.1.symm) hown (hts (.methodLink RX0 19 arraycopyName) (by decide +kernel)) (hts (.native arraycopyName) (by decide +kernel)) (hts (.static arraycopyName) (by decide +kernel)) (hts (.initialized "java/lang/System") (by decide +kernel)) hK hP hD hS 1 1 0 0 rfl rfl rfl rfl rfl (by decide) (by decide) (by decide) (by decide) (by decide) (fun _ _ => rfl) (Nat.le_of_ble_eq_true rfl) (Nat.le_of_ble_eq_true rfl) dX0_keep_26 (fun H locs hP hD hS => ?_)
    have hP : va_P D vwCl [(a, .inr (0, [.int z, .ref an])), (an, .inl (cI, 48, .inl (va_cpy f f ((3 : Int32).toNatClampNeg) ((0 : Int32).toNatClampNeg) ((48 - 3 : Int32).toNatClampNeg))))] H := hP
    have hD : va_D A [(a, .inr (0, [.int z, .ref an])), (an, .inl (cI, 48, .inl (va_cpy f f ((3 : Int32).toNatClampNeg) ((0 : Int32).toNatClampNeg) ((48 - 3 : Int32).toNatClampNeg))))] := hD
    refine lv_aload_n hx hb dX0_keep_29 rfl (lv_at hl 0 rfl) ?_
    refine lv_bipush (v := 15) hx hb dX0_keep_30 (by decide) ?_
    refine va_put (D := D) (ci := 0) (v := .int 15) (ty := .int) (C := RX0) (T := TX0) (N := 2) hx hb hts (in_X0_keep_X0) tyX0 tyX0_ok nmX0 hown hK hP hD hS 0 rfl rfl 0 (by decide) (hts (.fieldLink RX0 9 "StepsRoundCircle$Changes" "size" "I") (by decide +kernel)) (fun _ h9 => h9) rfl (by decide +kernel) rfl rfl (Nat.le_of_ble_eq_true rfl) dX0_keep_32 (fun H locs hP hD hS => ?_)
    have hP : va_P D vwCl [(a, .inr (0, [.int 15, .ref an])), (an, .inl (cI, 48, .inl (va_cpy f f ((3 : Int32).toNatClampNeg) ((0 : Int32).toNatClampNeg) ((48 - 3 : Int32).toNatClampNeg))))] H := hP
    have hD : va_D A [(a, .inr (0, [.int 15, .ref an])), (an, .inl (cI, 48, .inl (va_cpy f f ((3 : Int32).toNatClampNeg) ((0 : Int32).toNatClampNeg) ((48 - 3 : Int32).toNatClampNeg))))] := hD
    refine lv_aload_n hx hb dX0_keep_35 rfl (lv_at hl 0 rfl) ?_
    refine lv_aload_n hx hb dX0_keep_36 rfl (lv_at hl 0 rfl) ?_
    refine va_get (D := D) (ci := 0) (v := .int 15) (C := RX0) (T := TX0) (N := 2) hx hb hts (in_X0_keep_X0) hown hK hP 0 rfl rfl 0 (by decide) (hts (.fieldLink RX0 9 "StepsRoundCircle$Changes" "size" "I") (by decide +kernel)) (fun _ h9 => h9) rfl dX0_keep_37 ?_
    refine lv_iconst (v := 3) hx hb dX0_keep_40 (by decide) ?_
    refine lv_imul hx hb dX0_keep_41 ?_
    refine lv_iload_n hx hb dX0_keep_42 rfl (lv_at hl 1 rfl) ?_
    refine wrVv (As := [.int (15 * 3), .int x0]) (rest := []) (wr := []) (A := A) ⟨hx, hb, hml, hown, hts⟩ (c_X0_setKept l D cI cZ cR a an 15 (va_cpy f f ((3 : Int32).toNatClampNeg) ((0 : Int32).toNatClampNeg) ((48 - 3 : Int32).toNatClampNeg)) (15 * 3) x0  H.size) (cwV 2 hts gX0_keep_X0_setKept rfl rfl rfl (by decide +kernel) ⟨Nat.le_of_ble_eq_true rfl, Nat.le_of_ble_eq_true rfl⟩) hK hN hP hD hS hA 0 0 rfl rfl rfl [0, 1] [] rfl (by decide) rfl (by decide) (by decide) rfl hl.1 rfl (Nat.le_of_ble_eq_true rfl) dX0_keep_43 ⟨Nat.zero_le _, Nat.zero_le _⟩ (fun u H locs hw hP hD hS => ?_)
    obtain ⟨f_43, rfl⟩ : ∃ z, z = u := ⟨_, rfl⟩
    try dsimp only at hw
    have q1_43 := hw
    have q1_43 := q1_43.symm
    subst q1_43
    have hP : va_P D vwCl [(a, .inr (0, [.int 15, .ref an])), (an, .inl (cI, 48, .inl (ch_set (va_cpy f f ((3 : Int32).toNatClampNeg) ((0 : Int32).toNatClampNeg) ((48 - 3 : Int32).toNatClampNeg)) (15 * 3) x0)))] H := hP.sub [0, 1] rfl
    have hD : va_D A [(a, .inr (0, [.int 15, .ref an])), (an, .inl (cI, 48, .inl (ch_set (va_cpy f f ((3 : Int32).toNatClampNeg) ((0 : Int32).toNatClampNeg) ((48 - 3 : Int32).toNatClampNeg)) (15 * 3) x0)))] := hD.sub [0, 1] (by decide) rfl
    refine lv_aload_n hx hb dX0_keep_46 rfl (lv_at hl 0 rfl) ?_
    refine lv_aload_n hx hb dX0_keep_47 rfl (lv_at hl 0 rfl) ?_
    refine va_get (D := D) (ci := 0) (v := .int 15) (C := RX0) (T := TX0) (N := 2) hx hb hts (in_X0_keep_X0) hown hK hP 0 rfl rfl 0 (by decide) (hts (.fieldLink RX0 9 "StepsRoundCircle$Changes" "size" "I") (by decide +kernel)) (fun _ h9 => h9) rfl dX0_keep_48 ?_
    refine lv_iconst (v := 3) hx hb dX0_keep_51 (by decide) ?_
    refine lv_imul hx hb dX0_keep_52 ?_
    refine lv_iconst (v := 1) hx hb dX0_keep_53 (by decide) ?_
    refine lv_iadd hx hb dX0_keep_54 ?_
    refine lv_iload_n hx hb dX0_keep_55 rfl (lv_at hl 2 rfl) ?_
    refine wrVv (As := [.int ((15 * 3) + 1), .int x1]) (rest := []) (wr := []) (A := A) ⟨hx, hb, hml, hown, hts⟩ (c_X0_setKept l D cI cZ cR a an 15 (ch_set (va_cpy f f ((3 : Int32).toNatClampNeg) ((0 : Int32).toNatClampNeg) ((48 - 3 : Int32).toNatClampNeg)) (15 * 3) x0) ((15 * 3) + 1) x1  H.size) (cwV 2 hts gX0_keep_X0_setKept rfl rfl rfl (by decide +kernel) ⟨Nat.le_of_ble_eq_true rfl, Nat.le_of_ble_eq_true rfl⟩) hK hN hP hD hS hA 0 0 rfl rfl rfl [0, 1] [] rfl (by decide) rfl (by decide) (by decide) rfl hl.1 rfl (Nat.le_of_ble_eq_true rfl) dX0_keep_56 ⟨Nat.zero_le _, Nat.zero_le _⟩ (fun u H locs hw hP hD hS => ?_)
    obtain ⟨f_56, rfl⟩ : ∃ z, z = u := ⟨_, rfl⟩
    try dsimp only at hw
    have q1_56 := hw
    have q1_56 := q1_56.symm
    subst q1_56
    have hP : va_P D vwCl [(a, .inr (0, [.int 15, .ref an])), (an, .inl (cI, 48, .inl (ch_set (ch_set (va_cpy f f ((3 : Int32).toNatClampNeg) ((0 : Int32).toNatClampNeg) ((48 - 3 : Int32).toNatClampNeg)) (15 * 3) x0) ((15 * 3) + 1) x1)))] H := hP.sub [0, 1] rfl
    have hD : va_D A [(a, .inr (0, [.int 15, .ref an])), (an, .inl (cI, 48, .inl (ch_set (ch_set (va_cpy f f ((3 : Int32).toNatClampNeg) ((0 : Int32).toNatClampNeg) ((48 - 3 : Int32).toNatClampNeg)) (15 * 3) x0) ((15 * 3) + 1) x1)))] := hD.sub [0, 1] (by decide) rfl
    refine lv_aload_n hx hb dX0_keep_59 rfl (lv_at hl 0 rfl) ?_
    refine lv_aload_n hx hb dX0_keep_60 rfl (lv_at hl 0 rfl) ?_
    refine va_get (D := D) (ci := 0) (v := .int 15) (C := RX0) (T := TX0) (N := 2) hx hb hts (in_X0_keep_X0) hown hK hP 0 rfl rfl 0 (by decide) (hts (.fieldLink RX0 9 "StepsRoundCircle$Changes" "size" "I") (by decide +kernel)) (fun _ h9 => h9) rfl dX0_keep_61 ?_
    refine lv_iconst (v := 3) hx hb dX0_keep_64 (by decide) ?_
    refine lv_imul hx hb dX0_keep_65 ?_
    refine lv_iconst (v := 2) hx hb dX0_keep_66 (by decide) ?_
    refine lv_iadd hx hb dX0_keep_67 ?_
    refine lv_iload_n hx hb dX0_keep_68 rfl (lv_at hl 3 rfl) ?_
    refine wrVv (As := [.int ((15 * 3) + 2), .int x2]) (rest := []) (wr := []) (A := A) ⟨hx, hb, hml, hown, hts⟩ (c_X0_setKept l D cI cZ cR a an 15 (ch_set (ch_set (va_cpy f f ((3 : Int32).toNatClampNeg) ((0 : Int32).toNatClampNeg) ((48 - 3 : Int32).toNatClampNeg)) (15 * 3) x0) ((15 * 3) + 1) x1) ((15 * 3) + 2) x2  H.size) (cwV 2 hts gX0_keep_X0_setKept rfl rfl rfl (by decide +kernel) ⟨Nat.le_of_ble_eq_true rfl, Nat.le_of_ble_eq_true rfl⟩) hK hN hP hD hS hA 0 0 rfl rfl rfl [0, 1] [] rfl (by decide) rfl (by decide) (by decide) rfl hl.1 rfl (Nat.le_of_ble_eq_true rfl) dX0_keep_69 ⟨Nat.zero_le _, Nat.zero_le _⟩ (fun u H locs hw hP hD hS => ?_)
    obtain ⟨f_69, rfl⟩ : ∃ z, z = u := ⟨_, rfl⟩
    try dsimp only at hw
    have q1_69 := hw
    have q1_69 := q1_69.symm
    subst q1_69
    have hP : va_P D vwCl [(a, .inr (0, [.int 15, .ref an])), (an, .inl (cI, 48, .inl (ch_set (ch_set (ch_set (va_cpy f f ((3 : Int32).toNatClampNeg) ((0 : Int32).toNatClampNeg) ((48 - 3 : Int32).toNatClampNeg)) (15 * 3) x0) ((15 * 3) + 1) x1) ((15 * 3) + 2) x2)))] H := hP.sub [0, 1] rfl
    have hD : va_D A [(a, .inr (0, [.int 15, .ref an])), (an, .inl (cI, 48, .inl (ch_set (ch_set (ch_set (va_cpy f f ((3 : Int32).toNatClampNeg) ((0 : Int32).toNatClampNeg) ((48 - 3 : Int32).toNatClampNeg)) (15 * 3) x0) ((15 * 3) + 1) x1) ((15 * 3) + 2) x2)))] := hD.sub [0, 1] (by decide) rfl
    refine lv_aload_n hx hb dX0_keep_72 rfl (lv_at hl 0 rfl) ?_
    refine lv_dup hx hb dX0_keep_73 rfl ?_
    refine va_get (D := D) (ci := 0) (v := .int 15) (C := RX0) (T := TX0) (N := 2) hx hb hts (in_X0_keep_X0) hown hK hP 0 rfl rfl 0 (by decide) (hts (.fieldLink RX0 9 "StepsRoundCircle$Changes" "size" "I") (by decide +kernel)) (fun _ h9 => h9) rfl dX0_keep_74 ?_
    refine lv_iconst (v := 1) hx hb dX0_keep_77 (by decide) ?_
    refine lv_iadd hx hb dX0_keep_78 ?_
    refine va_put (D := D) (ci := 0) (v := .int (15 + 1)) (ty := .int) (C := RX0) (T := TX0) (N := 2) hx hb hts (in_X0_keep_X0) tyX0 tyX0_ok nmX0 hown hK hP hD hS 0 rfl rfl 0 (by decide) (hts (.fieldLink RX0 9 "StepsRoundCircle$Changes" "size" "I") (by decide +kernel)) (fun _ h9 => h9) rfl (by decide +kernel) rfl rfl (Nat.le_of_ble_eq_true rfl) dX0_keep_79 (fun H locs hP hD hS => ?_)
    have hP : va_P D vwCl [(a, .inr (0, [.int (15 + 1), .ref an])), (an, .inl (cI, 48, .inl (ch_set (ch_set (ch_set (va_cpy f f ((3 : Int32).toNatClampNeg) ((0 : Int32).toNatClampNeg) ((48 - 3 : Int32).toNatClampNeg)) (15 * 3) x0) ((15 * 3) + 1) x1) ((15 * 3) + 2) x2)))] H := hP
    have hD : va_D A [(a, .inr (0, [.int (15 + 1), .ref an])), (an, .inl (cI, 48, .inl (ch_set (ch_set (ch_set (va_cpy f f ((3 : Int32).toNatClampNeg) ((0 : Int32).toNatClampNeg) ((48 - 3 : Int32).toNatClampNeg)) (15 * 3) x0) ((15 * 3) + 1) x1) ((15 * 3) + 2) x2)))] := hD
    exact wrV (w1 := (fun (u : Int32 × (Nat → Int32)) => [(a, .inr (0, [.int u.1, .ref an])), (an, .inl (cI, 48, .inl u.2))])) ((15 + 1), (ch_set (ch_set (ch_set (va_cpy f f ((3 : Int32).toNatClampNeg) ((0 : Int32).toNatClampNeg) ((48 - 3 : Int32).toNatClampNeg)) (15 * 3) x0) ((15 * 3) + 1) x1) ((15 * 3) + 2) x2)) hx hb hr hlocks dX0_keep_82 hS (hP.sub [0, 1] rfl) (hD.sub [0, 1] (by decide) rfl) (by first | exact ⟨rfl, rfl⟩ | rfl | (simp [bi, ch_keep, ch_z, ch_sh, c_6, Int32.not_lt.mp c_6]; done))

set_option maxHeartbeats 4000000 in
set_option maxRecDepth 100000 in
theorem c_X2_isMissing (l : Launch) (D : va_G) (cI cZ cR : ClassId) (a an : Nat) (z : Int32) (f : Nat → Int32) : Met l yX2_isMissing wsX2_isMissing ({ frames := 0, cells := 0, slots := 0, locals := 0 }) (PcR D cI cZ cR [.ref a] [(a, .inr (2, [.int z, .ref an])), (an, .inl (cI, 40, .inl f))]) (k2_QcV (.int (bi (z = -1)))) 0 0 (fun _ => False) := by
  refine Met.ofW (cc := cX2_isMissing) (maxL := 1) (ret := (some .boolean)) (by decide) rfl ?_
  intro p e s m args below meth c s₁ B hml hv
  obtain ⟨rfl, hP, hK, hN⟩ := hv
  have hx := B.exec
  have hb := B.bytes
  have hr := B.returns
  have hts := atoms_spec (ws := wsX2_isMissing) B.pre
  have hown : s.vm.findClass RX2 = some m.cls := findClass_of_methodNamed B.named
  have hlocks := B.notSynchronized
  have hP : va_P D vwCl [(a, .inr (2, [.int z, .ref an])), (an, .inl (cI, 40, .inl f))] s.heap := hP
  have hl := lv_entry ([.ref a]) (n := 1) (Nat.le_of_ble_eq_true rfl)
  rw [lg_entry_eq]
  generalize (lg_sl ([.ref a]) ++ List.replicate (1 - (lg_sl ([.ref a])).length) Slot.unset).toArray = ls at hl ⊢
  have hl : lv_has ls 1 [(0, .ref a)] := hl
  refine lv_aload_n hx hb dX2_isMissing_0 rfl (lv_at hl 0 rfl) ?_
  refine va_get (D := D) (ci := 2) (v := .int z) (C := RX2) (T := TX2) (N := 2) hx hb hts (in_X2_isMissing_X2) hown hK hP 0 rfl rfl 0 (by decide) (hts (.fieldLink RX2 11 "StepsRoundCircle$Row" "size" "I") (by decide +kernel)) (fun _ h9 => h9) rfl dX2_isMissing_1 ?_
  refine lv_iconst (v := (-1)) hx hb dX2_isMissing_4 (by decide) ?_
  refine lv_icmp_ne (tgt := 12) hx hb dX2_isMissing_5 (by decide) (fun c_5 => ?_) (fun c_5 => ?_)
  · skip
    refine lv_iconst (v := 0) hx hb dX2_isMissing_12 (by decide) ?_
    exact rdZ hx hb hr hlocks dX2_isMissing_13 (by first | rfl | (simp [bi, c_5]; done))
  · skip
    refine lv_iconst (v := 1) hx hb dX2_isMissing_8 (by decide) ?_
    refine lv_goto (tgt := 13) hx hb dX2_isMissing_9 (by decide) ?_
    exact rdZ hx hb hr hlocks dX2_isMissing_13 (by first | rfl | (simp [bi, c_5]; done))

set_option maxHeartbeats 4000000 in
set_option maxRecDepth 100000 in
theorem c_X2_hasPlace (l : Launch) (D : va_G) (cI cZ cR : ClassId) (a an : Nat) (z : Int32) (f : Nat → Int32) (i : Int32) : Met l yX2_hasPlace wsX2_hasPlace ({ frames := 1, cells := 0, slots := 0, locals := 21 }) (PcR D cI cZ cR [.ref a, .int i] [(a, .inr (2, [.int z, .ref an])), (an, .inl (cI, 40, .inl f))]) (k2_QcV (.int (bi (rw_has z i)))) 0 0 (fun _ => False) := by
  refine Met.ofW (cc := cX2_hasPlace) (maxL := 2) (ret := (some .boolean)) (by decide) rfl ?_
  intro p e s m args below meth c s₁ B hml hv
  obtain ⟨rfl, hP, hK, hN⟩ := hv
  have hx := B.exec
  have hb := B.bytes
  have hr := B.returns
  have hts := atoms_spec (ws := wsX2_hasPlace) B.pre
  have hown : s.vm.findClass RX2 = some m.cls := findClass_of_methodNamed B.named
  have hlocks := B.notSynchronized
  have hP : va_P D vwCl [(a, .inr (2, [.int z, .ref an])), (an, .inl (cI, 40, .inl f))] s.heap := hP
  have hl := lv_entry ([.ref a, .int i]) (n := 2) (Nat.le_of_ble_eq_true rfl)
  rw [lg_entry_eq]
  generalize (lg_sl ([.ref a, .int i]) ++ List.replicate (2 - (lg_sl ([.ref a, .int i])).length) Slot.unset).toArray = ls at hl ⊢
  have hl : lv_has ls 2 [(0, .ref a), (1, .int i)] := hl
  refine lv_iload_n hx hb dX2_hasPlace_0 rfl (lv_at hl 1 rfl) ?_
  refine lv_aload_n hx hb dX2_hasPlace_1 rfl (lv_at hl 0 rfl) ?_
  refine va_get (D := D) (ci := 2) (v := .int z) (C := RX2) (T := TX2) (N := 2) hx hb hts (in_X2_hasPlace_X2) hown hK hP 0 rfl rfl 0 (by decide) (hts (.fieldLink RX2 11 "StepsRoundCircle$Row" "size" "I") (by decide +kernel)) (fun _ h9 => h9) rfl dX2_hasPlace_2 ?_
  refine lv_icmp_ge (tgt := 24) hx hb dX2_hasPlace_5 (by decide) (fun c_5 => ?_) (fun c_5 => ?_)
  · skip
    refine lv_iconst (v := 0) hx hb dX2_hasPlace_24 (by decide) ?_
    exact rdZ hx hb hr hlocks dX2_hasPlace_25 (by first | rfl | (simp [bi, rw_has, c_5, Int32.not_lt.mpr c_5]; done))
  · skip
    refine lv_iload_n hx hb dX2_hasPlace_8 rfl (lv_at hl 1 rfl) ?_
    refine lv_aload_n hx hb dX2_hasPlace_9 rfl (lv_at hl 0 rfl) ?_
    refine va_get (D := D) (ci := 2) (v := .ref an) (C := RX2) (T := TX2) (N := 2) hx hb hts (in_X2_hasPlace_X2) hown hK hP 0 rfl rfl 1 (by decide) (hts (.fieldLink RX2 15 "StepsRoundCircle$Row" "numbers" "[I") (by decide +kernel)) (fun _ h9 => h9) rfl dX2_hasPlace_10 ?_
    refine va_alen (v := 40) hx hb hK hP 1 0 rfl rfl rfl dX2_hasPlace_13 ?_
    refine rdSN (As := [.int i, .int 40]) (rest := []) ⟨hx, hb, hml, hown, hts⟩ (c_X5_isBelow l D cI cZ cR i 40 ) ⟨va_cnB 2 hts gX2_hasPlace_X5_isBelow_n19 rfl rfl rfl (hN.at 4 rfl) (hts (.initialized RX5) (by decide +kernel)) (by decide +kernel) ⟨Nat.le_of_ble_eq_true rfl, Nat.le_of_ble_eq_true rfl⟩, hts (.static yX5_isBelow) (by decide +kernel), trivial⟩ hK hN hP [] rfl rfl hl.1 rfl (Nat.le_of_ble_eq_true rfl) dX2_hasPlace_14 ⟨Nat.zero_le _, Nat.zero_le _⟩ ?_
    refine lv_if_eq (tgt := 24) hx hb dX2_hasPlace_17 (by decide) (fun c_17 => ?_) (fun c_17 => ?_)
    · skip
      have c_17 := bi_eq0.mp c_17
      refine lv_iconst (v := 0) hx hb dX2_hasPlace_24 (by decide) ?_
      exact rdZ hx hb hr hlocks dX2_hasPlace_25 (by first | rfl | (simp [bi, rw_has, c_5, Int32.not_le.mp c_5, c_17]; done))
    · skip
      have c_17 := bi_ne0.mp c_17
      refine lv_iconst (v := 1) hx hb dX2_hasPlace_20 (by decide) ?_
      refine lv_goto (tgt := 25) hx hb dX2_hasPlace_21 (by decide) ?_
      exact rdZ hx hb hr hlocks dX2_hasPlace_25 (by first | rfl | (simp [bi, rw_has, c_5, Int32.not_le.mp c_5, c_17]; done))

set_option maxHeartbeats 4000000 in
set_option maxRecDepth 100000 in
theorem c_X2_get (l : Launch) (D : va_G) (cI cZ cR : ClassId) (a an : Nat) (z : Int32) (f : Nat → Int32) (i : Int32) : Met l yX2_get wsX2_get ({ frames := 2, cells := 0, slots := 0, locals := 42 }) (PcR D cI cZ cR [.ref a, .int i] [(a, .inr (2, [.int z, .ref an])), (an, .inl (cI, 40, .inl f))]) (k2_QcV (.int (rw_get z f i))) 0 0 (fun _ => False) := by
  refine Met.ofW (cc := cX2_get) (maxL := 2) (ret := (some .int)) (by decide) rfl ?_
  intro p e s m args below meth c s₁ B hml hv
  obtain ⟨rfl, hP, hK, hN⟩ := hv
  have hx := B.exec
  have hb := B.bytes
  have hr := B.returns
  have hts := atoms_spec (ws := wsX2_get) B.pre
  have hown : s.vm.findClass RX2 = some m.cls := findClass_of_methodNamed B.named
  have hlocks := B.notSynchronized
  have hP : va_P D vwCl [(a, .inr (2, [.int z, .ref an])), (an, .inl (cI, 40, .inl f))] s.heap := hP
  have hl := lv_entry ([.ref a, .int i]) (n := 2) (Nat.le_of_ble_eq_true rfl)
  rw [lg_entry_eq]
  generalize (lg_sl ([.ref a, .int i]) ++ List.replicate (2 - (lg_sl ([.ref a, .int i])).length) Slot.unset).toArray = ls at hl ⊢
  have hl : lv_has ls 2 [(0, .ref a), (1, .int i)] := hl
  refine lv_aload_n hx hb dX2_get_0 rfl (lv_at hl 0 rfl) ?_
  refine lv_iload_n hx hb dX2_get_1 rfl (lv_at hl 1 rfl) ?_
  refine rdV (As := [.int i]) (rest := []) ⟨hx, hb, hml, hown, hts⟩ (c_X2_hasPlace l D cI cZ cR a an z f i ) (cwV 1 hts gX2_get_X2_hasPlace rfl rfl rfl (by decide +kernel) ⟨Nat.le_of_ble_eq_true rfl, Nat.le_of_ble_eq_true rfl⟩) hK hN hP 0 2 rfl rfl rfl [0, 1] rfl rfl hl.1 rfl (Nat.le_of_ble_eq_true rfl) dX2_get_2 ⟨Nat.zero_le _, Nat.zero_le _⟩ ?_
  refine lv_if_eq (tgt := 17) hx hb dX2_get_5 (by decide) (fun c_5 => ?_) (fun c_5 => ?_)
  · skip
    have c_5 := bi_eq0.mp c_5
    refine lv_iconst (v := 0) hx hb dX2_get_17 (by decide) ?_
    exact rdI hx hb hr hlocks dX2_get_18 (by first | rfl | (simp [bi, rw_get, c_5]; done))
  · skip
    have c_5 := bi_ne0.mp c_5
    refine lv_aload_n hx hb dX2_get_8 rfl (lv_at hl 0 rfl) ?_
    refine va_get (D := D) (ci := 2) (v := .ref an) (C := RX2) (T := TX2) (N := 2) hx hb hts (in_X2_get_X2) hown hK hP 0 rfl rfl 1 (by decide) (hts (.fieldLink RX2 15 "StepsRoundCircle$Row" "numbers" "[I") (by decide +kernel)) (fun _ h9 => h9) rfl dX2_get_9 ?_
    refine lv_iload_n hx hb dX2_get_12 rfl (lv_at hl 1 rfl) ?_
    refine va_iald hx hb hK hP 1 0 rfl rfl (vp_lit (n := 40) (by decide) c_5.2) dX2_get_13 ?_
    refine lv_goto (tgt := 18) hx hb dX2_get_14 (by decide) ?_
    exact rdI hx hb hr hlocks dX2_get_18 (by first | rfl | (simp [bi, rw_get, c_5]; done))

set_option maxHeartbeats 4000000 in
set_option maxRecDepth 100000 in
theorem c_X2_set (l : Launch) (D : va_G) (cI cZ cR : ClassId) (a an : Nat) (z : Int32) (f : Nat → Int32) (i x : Int32) (sz : Nat) : Met l yX2_set wsX2_set ({ frames := 2, cells := 0, slots := 0, locals := 42 }) (PcW D cI cZ cR [.ref a, .int i, .int x] [(a, .inr (2, [.int z, .ref an])), (an, .inl (cI, 40, .inl f))] sz) (va_Qv (fun (u : (Nat → Int32)) => u = rw_set z f i x) (Bw D (fun (u : (Nat → Int32)) => [(a, .inr (2, [.int z, .ref an])), (an, .inl (cI, 40, .inl u))]) (va_A [(a, .inr (2, [.int z, .ref an])), (an, .inl (cI, 40, .inl f))] sz)) (va_A [(a, .inr (2, [.int z, .ref an])), (an, .inl (cI, 40, .inl f))] sz)) 0 0 (va_A [(a, .inr (2, [.int z, .ref an])), (an, .inl (cI, 40, .inl f))] sz) := by
  refine Met.ofW (cc := cX2_set) (maxL := 3) (ret := none) (by decide) rfl ?_
  intro p e s m args below meth c s₁ B hml hv
  obtain ⟨rfl, hsz, hP, hK, hD0, hN⟩ := hv
  have hx := B.exec
  have hb := B.bytes
  have hr := B.returns
  have hts := atoms_spec (ws := wsX2_set) B.pre
  have hown : s.vm.findClass RX2 = some m.cls := findClass_of_methodNamed B.named
  have hlocks := B.notSynchronized
  subst hsz
  have hD := hD0.self (sz := s.heap.size)
  generalize hAe : va_A [(a, .inr (2, [.int z, .ref an])), (an, .inl (cI, 40, .inl f))] s.heap.size = A at hD ⊢
  have hA : ∀ q : Nat, s.heap.size ≤ q → A q := fun q h => by rw [← hAe]; exact Or.inr h
  have hS : va_S A s.heap s.heap [] := va_S.rf
  have hP : va_P D vwCl [(a, .inr (2, [.int z, .ref an])), (an, .inl (cI, 40, .inl f))] s.heap := hP
  have hl := lv_entry ([.ref a, .int i, .int x]) (n := 3) (Nat.le_of_ble_eq_true rfl)
  rw [lg_entry_eq]
  generalize (lg_sl ([.ref a, .int i, .int x]) ++ List.replicate (3 - (lg_sl ([.ref a, .int i, .int x])).length) Slot.unset).toArray = ls at hl ⊢
  have hl : lv_has ls 3 [(0, .ref a), (1, .int i), (2, .int x)] := hl
  refine lv_aload_n hx hb dX2_set_0 rfl (lv_at hl 0 rfl) ?_
  refine lv_iload_n hx hb dX2_set_1 rfl (lv_at hl 1 rfl) ?_
  refine rdV (As := [.int i]) (rest := []) ⟨hx, hb, hml, hown, hts⟩ (c_X2_hasPlace l D cI cZ cR a an z f i ) (cwV 1 hts gX2_set_X2_hasPlace rfl rfl rfl (by decide +kernel) ⟨Nat.le_of_ble_eq_true rfl, Nat.le_of_ble_eq_true rfl⟩) hK hN hP 0 2 rfl rfl rfl [0, 1] rfl rfl hl.1 rfl (Nat.le_of_ble_eq_true rfl) dX2_set_2 ⟨Nat.zero_le _, Nat.zero_le _⟩ ?_
  refine lv_if_eq (tgt := 15) hx hb dX2_set_5 (by decide) (fun c_5 => ?_) (fun c_5 => ?_)
  · skip
    have c_5 := bi_eq0.mp c_5
    exact wrV (w1 := (fun (u : (Nat → Int32)) => [(a, .inr (2, [.int z, .ref an])), (an, .inl (cI, 40, .inl u))])) f hx hb hr hlocks dX2_set_15 hS (hP.sub [0, 1] rfl) (hD.sub [0, 1] (by decide) rfl) (by first | exact ⟨rfl, rfl⟩ | rfl | (simp [bi, rw_set, c_5]; done))
  · skip
    have c_5 := bi_ne0.mp c_5
    refine lv_aload_n hx hb dX2_set_8 rfl (lv_at hl 0 rfl) ?_
    refine va_get (D := D) (ci := 2) (v := .ref an) (C := RX2) (T := TX2) (N := 2) hx hb hts (in_X2_set_X2) hown hK hP 0 rfl rfl 1 (by decide) (hts (.fieldLink RX2 15 "StepsRoundCircle$Row" "numbers" "[I") (by decide +kernel)) (fun _ h9 => h9) rfl dX2_set_9 ?_
    refine lv_iload_n hx hb dX2_set_12 rfl (lv_at hl 1 rfl) ?_
    refine lv_iload_n hx hb dX2_set_13 rfl (lv_at hl 2 rfl) ?_
    refine va_iast hx hb hK hP hD hS 1 0 rfl rfl (vp_lit (n := 40) (by decide) c_5.2) dX2_set_14 (fun H locs hP hD hS => ?_)
    have hP : va_P D vwCl [(a, .inr (2, [.int z, .ref an])), (an, .inl (cI, 40, .inl (upd f i.toNatClampNeg x)))] H := hP
    have hD : va_D A [(a, .inr (2, [.int z, .ref an])), (an, .inl (cI, 40, .inl (upd f i.toNatClampNeg x)))] := hD
    exact wrV (w1 := (fun (u : (Nat → Int32)) => [(a, .inr (2, [.int z, .ref an])), (an, .inl (cI, 40, .inl u))])) (upd f i.toNatClampNeg x) hx hb hr hlocks dX2_set_15 hS (hP.sub [0, 1] rfl) (hD.sub [0, 1] (by decide) rfl) (by first | exact ⟨rfl, rfl⟩ | rfl | (simp [bi, rw_set, c_5]; done))

set_option maxHeartbeats 4000000 in
set_option maxRecDepth 100000 in
theorem c_X4_clear (l : Launch) (D : va_G) (cI cZ cR : ClassId) (a an : Nat) (z : Int32) (f : Nat → Int32) (sz : Nat) : Met l yX4_clear wsX4_clear ({ frames := 0, cells := 0, slots := 0, locals := 0 }) (PcW D cI cZ cR [.ref a] [(a, .inr (4, [.int z, .ref an])), (an, .inl (cI, 72, .inl f))] sz) (va_Qv (fun (u : Int32) => u = 0) (Bw D (fun (u : Int32) => [(a, .inr (4, [.int u, .ref an])), (an, .inl (cI, 72, .inl f))]) (va_A [(a, .inr (4, [.int z, .ref an])), (an, .inl (cI, 72, .inl f))] sz)) (va_A [(a, .inr (4, [.int z, .ref an])), (an, .inl (cI, 72, .inl f))] sz)) 0 0 (va_A [(a, .inr (4, [.int z, .ref an])), (an, .inl (cI, 72, .inl f))] sz) := by
  refine Met.ofW (cc := cX4_clear) (maxL := 1) (ret := none) (by decide) rfl ?_
  intro p e s m args below meth c s₁ B hml hv
  obtain ⟨rfl, hsz, hP, hK, hD0, hN⟩ := hv
  have hx := B.exec
  have hb := B.bytes
  have hr := B.returns
  have hts := atoms_spec (ws := wsX4_clear) B.pre
  have hown : s.vm.findClass RX4 = some m.cls := findClass_of_methodNamed B.named
  have hlocks := B.notSynchronized
  subst hsz
  have hD := hD0.self (sz := s.heap.size)
  generalize hAe : va_A [(a, .inr (4, [.int z, .ref an])), (an, .inl (cI, 72, .inl f))] s.heap.size = A at hD ⊢
  have hA : ∀ q : Nat, s.heap.size ≤ q → A q := fun q h => by rw [← hAe]; exact Or.inr h
  have hS : va_S A s.heap s.heap [] := va_S.rf
  have hP : va_P D vwCl [(a, .inr (4, [.int z, .ref an])), (an, .inl (cI, 72, .inl f))] s.heap := hP
  have hl := lv_entry ([.ref a]) (n := 1) (Nat.le_of_ble_eq_true rfl)
  rw [lg_entry_eq]
  generalize (lg_sl ([.ref a]) ++ List.replicate (1 - (lg_sl ([.ref a])).length) Slot.unset).toArray = ls at hl ⊢
  have hl : lv_has ls 1 [(0, .ref a)] := hl
  refine lv_aload_n hx hb dX4_clear_0 rfl (lv_at hl 0 rfl) ?_
  refine lv_iconst (v := 0) hx hb dX4_clear_1 (by decide) ?_
  refine va_put (D := D) (ci := 4) (v := .int 0) (ty := .int) (C := RX4) (T := TX4) (N := 2) hx hb hts (in_X4_clear_X4) tyX4 tyX4_ok nmX4 hown hK hP hD hS 0 rfl rfl 0 (by decide) (hts (.fieldLink RX4 9 "StepsRoundCircle$Text" "size" "I") (by decide +kernel)) (fun _ h9 => h9) rfl (by decide +kernel) rfl rfl (Nat.le_of_ble_eq_true rfl) dX4_clear_2 (fun H locs hP hD hS => ?_)
  have hP : va_P D vwCl [(a, .inr (4, [.int 0, .ref an])), (an, .inl (cI, 72, .inl f))] H := hP
  have hD : va_D A [(a, .inr (4, [.int 0, .ref an])), (an, .inl (cI, 72, .inl f))] := hD
  exact wrV (w1 := (fun (u : Int32) => [(a, .inr (4, [.int u, .ref an])), (an, .inl (cI, 72, .inl f))])) 0 hx hb hr hlocks dX4_clear_5 hS (hP.sub [0, 1] rfl) (hD.sub [0, 1] (by decide) rfl) (by first | exact ⟨rfl, rfl⟩ | rfl | (simp [bi]; done))

set_option maxHeartbeats 4000000 in
set_option maxRecDepth 100000 in
theorem c_X4_isFull (l : Launch) (D : va_G) (cI cZ cR : ClassId) (a an : Nat) (z : Int32) (f : Nat → Int32) : Met l yX4_isFull wsX4_isFull ({ frames := 0, cells := 0, slots := 0, locals := 0 }) (PcR D cI cZ cR [.ref a] [(a, .inr (4, [.int z, .ref an])), (an, .inl (cI, 72, .inl f))]) (k2_QcV (.int (bi (72 ≤ z)))) 0 0 (fun _ => False) := by
  refine Met.ofW (cc := cX4_isFull) (maxL := 1) (ret := (some .boolean)) (by decide) rfl ?_
  intro p e s m args below meth c s₁ B hml hv
  obtain ⟨rfl, hP, hK, hN⟩ := hv
  have hx := B.exec
  have hb := B.bytes
  have hr := B.returns
  have hts := atoms_spec (ws := wsX4_isFull) B.pre
  have hown : s.vm.findClass RX4 = some m.cls := findClass_of_methodNamed B.named
  have hlocks := B.notSynchronized
  have hP : va_P D vwCl [(a, .inr (4, [.int z, .ref an])), (an, .inl (cI, 72, .inl f))] s.heap := hP
  have hl := lv_entry ([.ref a]) (n := 1) (Nat.le_of_ble_eq_true rfl)
  rw [lg_entry_eq]
  generalize (lg_sl ([.ref a]) ++ List.replicate (1 - (lg_sl ([.ref a])).length) Slot.unset).toArray = ls at hl ⊢
  have hl : lv_has ls 1 [(0, .ref a)] := hl
  refine lv_aload_n hx hb dX4_isFull_0 rfl (lv_at hl 0 rfl) ?_
  refine va_get (D := D) (ci := 4) (v := .int z) (C := RX4) (T := TX4) (N := 2) hx hb hts (in_X4_isFull_X4) hown hK hP 0 rfl rfl 0 (by decide) (hts (.fieldLink RX4 9 "StepsRoundCircle$Text" "size" "I") (by decide +kernel)) (fun _ h9 => h9) rfl dX4_isFull_1 ?_
  refine lv_aload_n hx hb dX4_isFull_4 rfl (lv_at hl 0 rfl) ?_
  refine va_get (D := D) (ci := 4) (v := .ref an) (C := RX4) (T := TX4) (N := 2) hx hb hts (in_X4_isFull_X4) hown hK hP 0 rfl rfl 1 (by decide) (hts (.fieldLink RX4 15 "StepsRoundCircle$Text" "letters" "[I") (by decide +kernel)) (fun _ h9 => h9) rfl dX4_isFull_5 ?_
  refine va_alen (v := 72) hx hb hK hP 1 0 rfl rfl rfl dX4_isFull_8 ?_
  refine lv_icmp_lt (tgt := 16) hx hb dX4_isFull_9 (by decide) (fun c_9 => ?_) (fun c_9 => ?_)
  · skip
    refine lv_iconst (v := 0) hx hb dX4_isFull_16 (by decide) ?_
    exact rdZ hx hb hr hlocks dX4_isFull_17 (by first | rfl | (simp [bi, c_9, Int32.not_le.mpr c_9]; done))
  · skip
    refine lv_iconst (v := 1) hx hb dX4_isFull_12 (by decide) ?_
    refine lv_goto (tgt := 17) hx hb dX4_isFull_13 (by decide) ?_
    exact rdZ hx hb hr hlocks dX4_isFull_17 (by first | rfl | (simp [bi, c_9, Int32.not_lt.mp c_9]; done))

set_option maxHeartbeats 4000000 in
set_option maxRecDepth 100000 in
theorem c_X4_add (l : Launch) (D : va_G) (cI cZ cR : ClassId) (a an : Nat) (z : Int32) (f : Nat → Int32) (x : Int32) (sz : Nat) : Met l yX4_add wsX4_add ({ frames := 1, cells := 0, slots := 0, locals := 21 }) (PcW D cI cZ cR [.ref a, .int x] [(a, .inr (4, [.int z, .ref an])), (an, .inl (cI, 72, .inl f))] sz) (va_Qv (fun (u : Int32 × (Nat → Int32)) => (u.1 = (if 0 ≤ z ∧ z < 72 then z + 1 else z)) ∧ (u.2 = (if 0 ≤ z ∧ z < 72 then upd f z.toNatClampNeg x else f))) (Bw D (fun (u : Int32 × (Nat → Int32)) => [(a, .inr (4, [.int u.1, .ref an])), (an, .inl (cI, 72, .inl u.2))]) (va_A [(a, .inr (4, [.int z, .ref an])), (an, .inl (cI, 72, .inl f))] sz)) (va_A [(a, .inr (4, [.int z, .ref an])), (an, .inl (cI, 72, .inl f))] sz)) 0 0 (va_A [(a, .inr (4, [.int z, .ref an])), (an, .inl (cI, 72, .inl f))] sz) := by
  refine Met.ofW (cc := cX4_add) (maxL := 2) (ret := none) (by decide) rfl ?_
  intro p e s m args below meth c s₁ B hml hv
  obtain ⟨rfl, hsz, hP, hK, hD0, hN⟩ := hv
  have hx := B.exec
  have hb := B.bytes
  have hr := B.returns
  have hts := atoms_spec (ws := wsX4_add) B.pre
  have hown : s.vm.findClass RX4 = some m.cls := findClass_of_methodNamed B.named
  have hlocks := B.notSynchronized
  subst hsz
  have hD := hD0.self (sz := s.heap.size)
  generalize hAe : va_A [(a, .inr (4, [.int z, .ref an])), (an, .inl (cI, 72, .inl f))] s.heap.size = A at hD ⊢
  have hA : ∀ q : Nat, s.heap.size ≤ q → A q := fun q h => by rw [← hAe]; exact Or.inr h
  have hS : va_S A s.heap s.heap [] := va_S.rf
  have hP : va_P D vwCl [(a, .inr (4, [.int z, .ref an])), (an, .inl (cI, 72, .inl f))] s.heap := hP
  have hl := lv_entry ([.ref a, .int x]) (n := 2) (Nat.le_of_ble_eq_true rfl)
  rw [lg_entry_eq]
  generalize (lg_sl ([.ref a, .int x]) ++ List.replicate (2 - (lg_sl ([.ref a, .int x])).length) Slot.unset).toArray = ls at hl ⊢
  have hl : lv_has ls 2 [(0, .ref a), (1, .int x)] := hl
  refine lv_aload_n hx hb dX4_add_0 rfl (lv_at hl 0 rfl) ?_
  refine va_get (D := D) (ci := 4) (v := .int z) (C := RX4) (T := TX4) (N := 2) hx hb hts (in_X4_add_X4) hown hK hP 0 rfl rfl 0 (by decide) (hts (.fieldLink RX4 9 "StepsRoundCircle$Text" "size" "I") (by decide +kernel)) (fun _ h9 => h9) rfl dX4_add_1 ?_
  refine lv_aload_n hx hb dX4_add_4 rfl (lv_at hl 0 rfl) ?_
  refine va_get (D := D) (ci := 4) (v := .ref an) (C := RX4) (T := TX4) (N := 2) hx hb hts (in_X4_add_X4) hown hK hP 0 rfl rfl 1 (by decide) (hts (.fieldLink RX4 15 "StepsRoundCircle$Text" "letters" "[I") (by decide +kernel)) (fun _ h9 => h9) rfl dX4_add_5 ?_
  refine va_alen (v := 72) hx hb hK hP 1 0 rfl rfl rfl dX4_add_8 ?_
  refine rdSN (As := [.int z, .int 72]) (rest := []) ⟨hx, hb, hml, hown, hts⟩ (c_X5_isBelow l D cI cZ cR z 72 ) ⟨va_cnB 2 hts gX4_add_X5_isBelow_n19 rfl rfl rfl (hN.at 5 rfl) (hts (.initialized RX5) (by decide +kernel)) (by decide +kernel) ⟨Nat.le_of_ble_eq_true rfl, Nat.le_of_ble_eq_true rfl⟩, hts (.static yX5_isBelow) (by decide +kernel), trivial⟩ hK hN hP [] rfl rfl hl.1 rfl (Nat.le_of_ble_eq_true rfl) dX4_add_9 ⟨Nat.zero_le _, Nat.zero_le _⟩ ?_
  refine lv_if_eq (tgt := 35) hx hb dX4_add_12 (by decide) (fun c_12 => ?_) (fun c_12 => ?_)
  · skip
    have c_12 := bi_eq0.mp c_12
    exact wrV (w1 := (fun (u : Int32 × (Nat → Int32)) => [(a, .inr (4, [.int u.1, .ref an])), (an, .inl (cI, 72, .inl u.2))])) (z, f) hx hb hr hlocks dX4_add_35 hS (hP.sub [0, 1] rfl) (hD.sub [0, 1] (by decide) rfl) (by first | exact ⟨rfl, rfl⟩ | rfl | (simp [bi, c_12]; done))
  · skip
    have c_12 := bi_ne0.mp c_12
    refine lv_aload_n hx hb dX4_add_15 rfl (lv_at hl 0 rfl) ?_
    refine va_get (D := D) (ci := 4) (v := .ref an) (C := RX4) (T := TX4) (N := 2) hx hb hts (in_X4_add_X4) hown hK hP 0 rfl rfl 1 (by decide) (hts (.fieldLink RX4 15 "StepsRoundCircle$Text" "letters" "[I") (by decide +kernel)) (fun _ h9 => h9) rfl dX4_add_16 ?_
    refine lv_aload_n hx hb dX4_add_19 rfl (lv_at hl 0 rfl) ?_
    refine va_get (D := D) (ci := 4) (v := .int z) (C := RX4) (T := TX4) (N := 2) hx hb hts (in_X4_add_X4) hown hK hP 0 rfl rfl 0 (by decide) (hts (.fieldLink RX4 9 "StepsRoundCircle$Text" "size" "I") (by decide +kernel)) (fun _ h9 => h9) rfl dX4_add_20 ?_
    refine lv_iload_n hx hb dX4_add_23 rfl (lv_at hl 1 rfl) ?_
    refine va_iast hx hb hK hP hD hS 1 0 rfl rfl (vp_lit (n := 72) (by decide) c_12) dX4_add_24 (fun H locs hP hD hS => ?_)
    have hP : va_P D vwCl [(a, .inr (4, [.int z, .ref an])), (an, .inl (cI, 72, .inl (upd f z.toNatClampNeg x)))] H := hP
    have hD : va_D A [(a, .inr (4, [.int z, .ref an])), (an, .inl (cI, 72, .inl (upd f z.toNatClampNeg x)))] := hD
    refine lv_aload_n hx hb dX4_add_25 rfl (lv_at hl 0 rfl) ?_
    refine lv_dup hx hb dX4_add_26 rfl ?_
    refine va_get (D := D) (ci := 4) (v := .int z) (C := RX4) (T := TX4) (N := 2) hx hb hts (in_X4_add_X4) hown hK hP 0 rfl rfl 0 (by decide) (hts (.fieldLink RX4 9 "StepsRoundCircle$Text" "size" "I") (by decide +kernel)) (fun _ h9 => h9) rfl dX4_add_27 ?_
    refine lv_iconst (v := 1) hx hb dX4_add_30 (by decide) ?_
    refine lv_iadd hx hb dX4_add_31 ?_
    refine va_put (D := D) (ci := 4) (v := .int (z + 1)) (ty := .int) (C := RX4) (T := TX4) (N := 2) hx hb hts (in_X4_add_X4) tyX4 tyX4_ok nmX4 hown hK hP hD hS 0 rfl rfl 0 (by decide) (hts (.fieldLink RX4 9 "StepsRoundCircle$Text" "size" "I") (by decide +kernel)) (fun _ h9 => h9) rfl (by decide +kernel) rfl rfl (Nat.le_of_ble_eq_true rfl) dX4_add_32 (fun H locs hP hD hS => ?_)
    have hP : va_P D vwCl [(a, .inr (4, [.int (z + 1), .ref an])), (an, .inl (cI, 72, .inl (upd f z.toNatClampNeg x)))] H := hP
    have hD : va_D A [(a, .inr (4, [.int (z + 1), .ref an])), (an, .inl (cI, 72, .inl (upd f z.toNatClampNeg x)))] := hD
    exact wrV (w1 := (fun (u : Int32 × (Nat → Int32)) => [(a, .inr (4, [.int u.1, .ref an])), (an, .inl (cI, 72, .inl u.2))])) ((z + 1), (upd f z.toNatClampNeg x)) hx hb hr hlocks dX4_add_35 hS (hP.sub [0, 1] rfl) (hD.sub [0, 1] (by decide) rfl) (by first | exact ⟨rfl, rfl⟩ | rfl | (simp [bi, c_12]; done))

set_option maxHeartbeats 4000000 in
set_option maxRecDepth 100000 in
theorem c_X4_get (l : Launch) (D : va_G) (cI cZ cR : ClassId) (a an : Nat) (z : Int32) (f : Nat → Int32) (i : Int32) : Met l yX4_get wsX4_get ({ frames := 1, cells := 0, slots := 0, locals := 21 }) (PcR D cI cZ cR [.ref a, .int i] [(a, .inr (4, [.int z, .ref an])), (an, .inl (cI, 72, .inl f))]) (k2_QcV (.int (tx_get z f i))) 0 0 (fun _ => False) := by
  refine Met.ofW (cc := cX4_get) (maxL := 2) (ret := (some .int)) (by decide) rfl ?_
  intro p e s m args below meth c s₁ B hml hv
  obtain ⟨rfl, hP, hK, hN⟩ := hv
  have hx := B.exec
  have hb := B.bytes
  have hr := B.returns
  have hts := atoms_spec (ws := wsX4_get) B.pre
  have hown : s.vm.findClass RX4 = some m.cls := findClass_of_methodNamed B.named
  have hlocks := B.notSynchronized
  have hP : va_P D vwCl [(a, .inr (4, [.int z, .ref an])), (an, .inl (cI, 72, .inl f))] s.heap := hP
  have hl := lv_entry ([.ref a, .int i]) (n := 2) (Nat.le_of_ble_eq_true rfl)
  rw [lg_entry_eq]
  generalize (lg_sl ([.ref a, .int i]) ++ List.replicate (2 - (lg_sl ([.ref a, .int i])).length) Slot.unset).toArray = ls at hl ⊢
  have hl : lv_has ls 2 [(0, .ref a), (1, .int i)] := hl
  refine lv_iload_n hx hb dX4_get_0 rfl (lv_at hl 1 rfl) ?_
  refine lv_aload_n hx hb dX4_get_1 rfl (lv_at hl 0 rfl) ?_
  refine va_get (D := D) (ci := 4) (v := .int z) (C := RX4) (T := TX4) (N := 2) hx hb hts (in_X4_get_X4) hown hK hP 0 rfl rfl 0 (by decide) (hts (.fieldLink RX4 9 "StepsRoundCircle$Text" "size" "I") (by decide +kernel)) (fun _ h9 => h9) rfl dX4_get_2 ?_
  refine lv_icmp_ge (tgt := 29) hx hb dX4_get_5 (by decide) (fun c_5 => ?_) (fun c_5 => ?_)
  · skip
    refine lv_iconst (v := (-1)) hx hb dX4_get_29 (by decide) ?_
    exact rdI hx hb hr hlocks dX4_get_30 (by first | rfl | (simp [bi, tx_get, c_5, Int32.not_lt.mpr c_5]; done))
  · skip
    refine lv_iload_n hx hb dX4_get_8 rfl (lv_at hl 1 rfl) ?_
    refine lv_aload_n hx hb dX4_get_9 rfl (lv_at hl 0 rfl) ?_
    refine va_get (D := D) (ci := 4) (v := .ref an) (C := RX4) (T := TX4) (N := 2) hx hb hts (in_X4_get_X4) hown hK hP 0 rfl rfl 1 (by decide) (hts (.fieldLink RX4 15 "StepsRoundCircle$Text" "letters" "[I") (by decide +kernel)) (fun _ h9 => h9) rfl dX4_get_10 ?_
    refine va_alen (v := 72) hx hb hK hP 1 0 rfl rfl rfl dX4_get_13 ?_
    refine rdSN (As := [.int i, .int 72]) (rest := []) ⟨hx, hb, hml, hown, hts⟩ (c_X5_isBelow l D cI cZ cR i 72 ) ⟨va_cnB 2 hts gX4_get_X5_isBelow_n19 rfl rfl rfl (hN.at 5 rfl) (hts (.initialized RX5) (by decide +kernel)) (by decide +kernel) ⟨Nat.le_of_ble_eq_true rfl, Nat.le_of_ble_eq_true rfl⟩, hts (.static yX5_isBelow) (by decide +kernel), trivial⟩ hK hN hP [] rfl rfl hl.1 rfl (Nat.le_of_ble_eq_true rfl) dX4_get_14 ⟨Nat.zero_le _, Nat.zero_le _⟩ ?_
    refine lv_if_eq (tgt := 29) hx hb dX4_get_17 (by decide) (fun c_17 => ?_) (fun c_17 => ?_)
    · skip
      have c_17 := bi_eq0.mp c_17
      refine lv_iconst (v := (-1)) hx hb dX4_get_29 (by decide) ?_
      exact rdI hx hb hr hlocks dX4_get_30 (by first | rfl | (simp [bi, tx_get, c_5, Int32.not_le.mp c_5, c_17]; done))
    · skip
      have c_17 := bi_ne0.mp c_17
      refine lv_aload_n hx hb dX4_get_20 rfl (lv_at hl 0 rfl) ?_
      refine va_get (D := D) (ci := 4) (v := .ref an) (C := RX4) (T := TX4) (N := 2) hx hb hts (in_X4_get_X4) hown hK hP 0 rfl rfl 1 (by decide) (hts (.fieldLink RX4 15 "StepsRoundCircle$Text" "letters" "[I") (by decide +kernel)) (fun _ h9 => h9) rfl dX4_get_21 ?_
      refine lv_iload_n hx hb dX4_get_24 rfl (lv_at hl 1 rfl) ?_
      refine va_iald hx hb hK hP 1 0 rfl rfl (vp_lit (n := 72) (by decide) c_17) dX4_get_25 ?_
      refine lv_goto (tgt := 30) hx hb dX4_get_26 (by decide) ?_
      exact rdI hx hb hr hlocks dX4_get_30 (by first | rfl | (simp [bi, tx_get, c_5, Int32.not_le.mp c_5, c_17]; done))

set_option maxHeartbeats 4000000 in
set_option maxRecDepth 100000 in
theorem c_X4_digitsBehind (l : Launch) (D : va_G) (cI cZ cR : ClassId) (x : Int32) : Met l yX4_digitsBehind wsX4_digitsBehind ({ frames := 0, cells := 0, slots := 0, locals := 0 }) (PcR D cI cZ cR [.int x] []) (k2_QcV (.int (tx_dg x))) 0 0 (fun _ => False) := by
  refine Met.ofW (cc := cX4_digitsBehind) (maxL := 1) (ret := (some .int)) (by decide) rfl ?_
  intro p e s m args below meth c s₁ B hml hv
  obtain ⟨rfl, hP, hK, hN⟩ := hv
  have hx := B.exec
  have hb := B.bytes
  have hr := B.returns
  have hts := atoms_spec (ws := wsX4_digitsBehind) B.pre
  have hown : s.vm.findClass RX4 = some m.cls := findClass_of_methodNamed B.named
  have hlocks := B.notSynchronized
  have hP : va_P D vwCl [] s.heap := hP
  have hl := lv_entry ([.int x]) (n := 1) (Nat.le_of_ble_eq_true rfl)
  rw [lg_entry_eq]
  generalize (lg_sl ([.int x]) ++ List.replicate (1 - (lg_sl ([.int x])).length) Slot.unset).toArray = ls at hl ⊢
  have hl : lv_has ls 1 [(0, .int x)] := hl
  refine lv_iload_n hx hb dX4_digitsBehind_0 rfl (lv_at hl 0 rfl) ?_
  by_cases c_1_99 : x = 99
  · skip
    refine lv_lookup (off := 43) (tgt := 44) hx hb dX4_digitsBehind_1 (by decide) (by rw [c_1_99]; rfl) (by decide) ?_
    refine lv_iconst (v := 4) hx hb dX4_digitsBehind_44 (by decide) ?_
    exact rdI hx hb hr hlocks dX4_digitsBehind_45 (by first | rfl | (simp [bi, tx_dg, c_1_99]; done))
  by_cases c_1_115 : x = 115
  · skip
    refine lv_lookup (off := 48) (tgt := 49) hx hb dX4_digitsBehind_1 (by decide) (by rw [c_1_115]; rfl) (by decide) ?_
    refine lv_iconst (v := 5) hx hb dX4_digitsBehind_49 (by decide) ?_
    exact rdI hx hb hr hlocks dX4_digitsBehind_50 (by first | rfl | (simp [bi, tx_dg, c_1_99, c_1_115]; done))
  by_cases c_1_119 : x = 119
  · skip
    refine lv_lookup (off := 45) (tgt := 46) hx hb dX4_digitsBehind_1 (by decide) (by rw [c_1_119]; rfl) (by decide) ?_
    refine lv_bipush (v := 10) hx hb dX4_digitsBehind_46 (by decide) ?_
    exact rdI hx hb hr hlocks dX4_digitsBehind_48 (by first | rfl | (simp [bi, tx_dg, c_1_99, c_1_115, c_1_119]; done))
  by_cases c_1_120 : x = 120
  · skip
    refine lv_lookup (off := 50) (tgt := 51) hx hb dX4_digitsBehind_1 (by decide) (by rw [c_1_120]; rfl) (by decide) ?_
    refine lv_iconst (v := 1) hx hb dX4_digitsBehind_51 (by decide) ?_
    exact rdI hx hb hr hlocks dX4_digitsBehind_52 (by first | rfl | (simp [bi, tx_dg, c_1_99, c_1_115, c_1_119, c_1_120]; done))
  refine lv_lookup (off := 52) (tgt := 53) hx hb dX4_digitsBehind_1 (by decide) (by rw [show Op.lookupswitch.offset _ _ _ = _ from lv_osw c_1_99 (by decide)]; rw [show Op.lookupswitch.offset _ _ _ = _ from lv_osw c_1_115 (by decide)]; rw [show Op.lookupswitch.offset _ _ _ = _ from lv_osw c_1_119 (by decide)]; rw [show Op.lookupswitch.offset _ _ _ = _ from lv_osw c_1_120 (by decide)]; rfl) (by decide) ?_
  refine lv_iconst (v := (-1)) hx hb dX4_digitsBehind_53 (by decide) ?_
  exact rdI hx hb hr hlocks dX4_digitsBehind_54 (by first | rfl | (simp [bi, tx_dg, c_1_99, c_1_115, c_1_119, c_1_120]; done))

set_option maxHeartbeats 4000000 in
set_option maxRecDepth 100000 in
theorem c_X4_statementLength (l : Launch) (D : va_G) (cI cZ cR : ClassId) (a an : Nat) (z : Int32) (f : Nat → Int32) (i : Int32) : Met l yX4_statementLength wsX4_statementLength ({ frames := 2, cells := 0, slots := 0, locals := 42 }) (PcR D cI cZ cR [.ref a, .int i] [(a, .inr (4, [.int z, .ref an])), (an, .inl (cI, 72, .inl f))]) (k2_QcV (.int (tx_dg (tx_get z f i) + 2))) 0 0 (fun _ => False) := by
  refine Met.ofW (cc := cX4_statementLength) (maxL := 2) (ret := (some .int)) (by decide) rfl ?_
  intro p e s m args below meth c s₁ B hml hv
  obtain ⟨rfl, hP, hK, hN⟩ := hv
  have hx := B.exec
  have hb := B.bytes
  have hr := B.returns
  have hts := atoms_spec (ws := wsX4_statementLength) B.pre
  have hown : s.vm.findClass RX4 = some m.cls := findClass_of_methodNamed B.named
  have hlocks := B.notSynchronized
  have hP : va_P D vwCl [(a, .inr (4, [.int z, .ref an])), (an, .inl (cI, 72, .inl f))] s.heap := hP
  have hl := lv_entry ([.ref a, .int i]) (n := 2) (Nat.le_of_ble_eq_true rfl)
  rw [lg_entry_eq]
  generalize (lg_sl ([.ref a, .int i]) ++ List.replicate (2 - (lg_sl ([.ref a, .int i])).length) Slot.unset).toArray = ls at hl ⊢
  have hl : lv_has ls 2 [(0, .ref a), (1, .int i)] := hl
  refine lv_aload_n hx hb dX4_statementLength_0 rfl (lv_at hl 0 rfl) ?_
  refine lv_iload_n hx hb dX4_statementLength_1 rfl (lv_at hl 1 rfl) ?_
  refine rdV (As := [.int i]) (rest := []) ⟨hx, hb, hml, hown, hts⟩ (c_X4_get l D cI cZ cR a an z f i ) (cwV 1 hts gX4_statementLength_X4_get rfl rfl rfl (by decide +kernel) ⟨Nat.le_of_ble_eq_true rfl, Nat.le_of_ble_eq_true rfl⟩) hK hN hP 0 4 rfl rfl rfl [0, 1] rfl rfl hl.1 rfl (Nat.le_of_ble_eq_true rfl) dX4_statementLength_2 ⟨Nat.zero_le _, Nat.zero_le _⟩ ?_
  refine rdS (As := [.int (tx_get z f i)]) (rest := []) ⟨hx, hb, hml, hown, hts⟩ (c_X4_digitsBehind l D cI cZ cR (tx_get z f i) ) (va_cwS 1 hts gX4_statementLength_X4_digitsBehind rfl rfl rfl (by decide +kernel) ⟨Nat.le_of_ble_eq_true rfl, Nat.le_of_ble_eq_true rfl⟩) hK hN hP [] rfl rfl hl.1 rfl (Nat.le_of_ble_eq_true rfl) dX4_statementLength_5 ⟨Nat.zero_le _, Nat.zero_le _⟩ ?_
  refine lv_iconst (v := 2) hx hb dX4_statementLength_8 (by decide) ?_
  refine lv_iadd hx hb dX4_statementLength_9 ?_
  exact rdI hx hb hr hlocks dX4_statementLength_10 (by first | rfl | (simp [bi]; done))

set_option maxHeartbeats 4000000 in
set_option maxRecDepth 100000 in
theorem c_J7_fill_53178 (l : Launch) (D : va_G) (cI cZ cR : ClassId) (an N : Nat) (f : Nat → Int32) (x : Int32) (hNb : N < 2147483648) (sz : Nat) : Met l yJ7_fill_53178 wsJ7_fill_53178 ({ frames := 0, cells := 0, slots := 0, locals := 0 }) (PcW D cI cZ cR [.ref an, .int x] [(an, .inl (cI, N, .inl f))] sz) (va_Qv (fun (u : (Nat → Int32)) => (u = fun _ => x)) (Bw D (fun (u : (Nat → Int32)) => [(an, .inl (cI, N, .inl u))]) (va_A [(an, .inl (cI, N, .inl f))] sz)) (va_A [(an, .inl (cI, N, .inl f))] sz)) 0 0 (va_A [(an, .inl (cI, N, .inl f))] sz) := by
  refine Met.ofW (cc := cJ7_fill_53178) (maxL := 4) (ret := none) (by decide) rfl ?_
  intro p e s m args below meth c s₁ B hml hv
  obtain ⟨rfl, hsz, hP, hK, hD0, hN⟩ := hv
  have hx := B.exec
  have hb := B.bytes
  have hr := B.returns
  have hts := atoms_spec (ws := wsJ7_fill_53178) B.pre
  have hown : s.vm.findClass RJ7 = some m.cls := findClass_of_methodNamed B.named
  have hlocks := B.notSynchronized
  subst hsz
  have hD := hD0.self (sz := s.heap.size)
  generalize hAe : va_A [(an, .inl (cI, N, .inl f))] s.heap.size = A at hD ⊢
  have hA : ∀ q : Nat, s.heap.size ≤ q → A q := fun q h => by rw [← hAe]; exact Or.inr h
  have hS : va_S A s.heap s.heap [] := va_S.rf
  have hP : va_P D vwCl [(an, .inl (cI, N, .inl f))] s.heap := hP
  have hl := lv_entry ([.ref an, .int x]) (n := 4) (Nat.le_of_ble_eq_true rfl)
  rw [lg_entry_eq]
  generalize (lg_sl ([.ref an, .int x]) ++ List.replicate (4 - (lg_sl ([.ref an, .int x])).length) Slot.unset).toArray = ls at hl ⊢
  have hl : lv_has ls 4 [(0, .ref an), (1, .int x)] := hl
  refine lv_iconst (v := 0) hx hb dJ7_fill_53178_0 (by decide) ?_
  refine lv_istore_n (lv' := [(2, .int 0), (0, .ref an), (1, .int x)]) hx hb dJ7_fill_53178_1 rfl hl (by decide) rfl (fun ls hl => ?_)
  refine lv_aload_n hx hb dJ7_fill_53178_2 rfl (lv_at hl 1 rfl) ?_
  refine va_alen (v := nI N) hx hb hK hP 0 0 rfl rfl rfl dJ7_fill_53178_3 ?_
  refine lv_istore_n (lv' := [(3, .int (nI N)), (2, .int 0), (0, .ref an), (1, .int x)]) hx hb dJ7_fill_53178_4 rfl hl (by decide) rfl (fun ls hl => ?_)
  have loop_5 : ∀ (fuel : Nat), ∀ (i : Nat), ∀ (g : Nat → Int32), (i ≤ N) → (∀ j, j < i → g j = x) → (N + 1 ≤ i + fuel) → ∀ (y2 : Int32), y2 = nI i → ∀ (H : Heap) (locs : List Loc), va_P D vwCl [(an, .inl (cI, N, .inl g))] H → va_D A [(an, .inl (cI, N, .inl g))] → va_S A s.heap H locs → ∀ (ls : Array Slot), lv_has ls 4 [(2, .int y2), (3, .int (nI N)), (0, .ref an), (1, .int x)] → W p l e (headSpec wsJ7_fill_53178 ({ frames := 0, cells := 0, slots := 0, locals := 0 })).room s m ([.ref an, .int x] : List Value).toArray below meth c H locs 0 0 (MQ below (va_Qv (fun (u : (Nat → Int32)) => (u = fun _ => x)) (Bw D (fun (u : (Nat → Int32)) => [(an, .inl (cI, N, .inl u))]) A) A) ([.ref an, .int x] : List Value).toArray s 0 0 A) (F0 m 5 ls []) := by
    intro fuel
    induction fuel with
    | zero =>
      intro i g hi hg hfu
      exact False.elim (by omega)
    | succ fuel ih_5 =>
      intro i g hi hg hfu y2 ey2 H locs hP hD hS ls hl
      subst ey2
      refine lv_iload_n hx hb dJ7_fill_53178_5 rfl (lv_at hl 0 rfl) ?_
      refine lv_iload_n hx hb dJ7_fill_53178_6 rfl (lv_at hl 1 rfl) ?_
      refine lv_icmp_ge (tgt := 20) hx hb dJ7_fill_53178_7 (by decide) (fun c_7 => ?_) (fun c_7 => ?_)
      · skip
        have hP : va_P D vwCl [(an, .inl (cI, N, .inl (fun _ => x)))] H := P_cg hP 0 (fun _ => x) rfl (fun j hj => hg j (by rcases Nat.lt_or_ge i N with q | q; exact absurd c_7 (nI_ge q (by omega)); omega))
        have hD : va_D A [(an, .inl (cI, N, .inl (fun _ => x)))] := D_cg hD 0 _ rfl
        exact wrV (w1 := (fun (u : (Nat → Int32)) => [(an, .inl (cI, N, .inl u))])) (fun _ => x) hx hb hr hlocks dJ7_fill_53178_20 hS (hP.sub [0] rfl) (hD.sub [0] (by decide) rfl) (by first | exact ⟨rfl, rfl⟩ | rfl | (simp [bi, c_7, Int32.not_lt.mpr c_7]; done))
      · skip
        have hiN : i < N := by rcases Nat.lt_or_ge i N with q | q; exact q; exact absurd (nI_le q (by omega)) c_7
        refine lv_aload_n hx hb dJ7_fill_53178_10 rfl (lv_at hl 2 rfl) ?_
        refine lv_iload_n hx hb dJ7_fill_53178_11 rfl (lv_at hl 0 rfl) ?_
        refine lv_iload_n hx hb dJ7_fill_53178_12 rfl (lv_at hl 3 rfl) ?_
        refine va_iast hx hb hK hP hD hS 0 0 rfl rfl (vp_in_nI hiN (by omega)) dJ7_fill_53178_13 (fun H locs hP hD hS => ?_)
        have hP : va_P D vwCl [(an, .inl (cI, N, .inl (upd g ((nI i).toNatClampNeg) x)))] H := hP
        have hD : va_D A [(an, .inl (cI, N, .inl (upd g ((nI i).toNatClampNeg) x)))] := hD
        refine lv_iinc (v := (nI i) + 1) (lv' := [(2, .int ((nI i) + 1)), (3, .int (nI N)), (0, .ref an), (1, .int x)]) hx hb dJ7_fill_53178_14 hl (k := 0) rfl (by rfl) (by decide) rfl (fun ls hl => ?_)
        refine lv_goto (tgt := 5) hx hb dJ7_fill_53178_17 (by decide) ?_
        exact ih_5 (i + 1) (upd g ((nI i).toNatClampNeg) x) (by omega) (by intro j hj; rw [nI_clamp (by omega)]; by_cases e9 : j = i; (· subst e9; exact pk_us); (· rw [pk_un e9]; exact hg j (by omega))) (by omega) _ (by first | rfl | exact nI_1 _ | exact nI_0.symm) _ _ (hP.sub [0] rfl) (hD.sub [0] (by decide) rfl) hS ls (lv_sub hl [0, 1, 2, 3] rfl)
  exact loop_5 (N + 1) 0 f (by omega) (fun j hj => absurd hj (Nat.not_lt_zero j)) (by omega) _ (by first | rfl | exact nI_1 _ | exact nI_0.symm) _ _ (hP.sub [0] rfl) (hD.sub [0] (by decide) rfl) hS ls (lv_sub hl [1, 0, 2, 3] rfl)

set_option maxHeartbeats 4000000 in
set_option maxRecDepth 100000 in
theorem c_X2_begin (l : Launch) (D : va_G) (cI cZ cR : ClassId) (a an : Nat) (z : Int32) (f : Nat → Int32) (n : Int32) (sz : Nat) : Met l yX2_begin wsX2_begin ({ frames := 1, cells := 0, slots := 0, locals := 23 }) (PcW D cI cZ cR [.ref a, .int n] [(a, .inr (2, [.int z, .ref an])), (an, .inl (cI, 40, .inl f))] sz) (va_Qv (fun (u : Int32 × (Nat → Int32)) => u.1 = n ∧ (u.2 = fun _ => 0)) (Bw D (fun (u : Int32 × (Nat → Int32)) => [(a, .inr (2, [.int u.1, .ref an])), (an, .inl (cI, 40, .inl u.2))]) (va_A [(a, .inr (2, [.int z, .ref an])), (an, .inl (cI, 40, .inl f))] sz)) (va_A [(a, .inr (2, [.int z, .ref an])), (an, .inl (cI, 40, .inl f))] sz)) 0 0 (va_A [(a, .inr (2, [.int z, .ref an])), (an, .inl (cI, 40, .inl f))] sz) := by
  refine Met.ofW (cc := cX2_begin) (maxL := 2) (ret := none) (by decide) rfl ?_
  intro p e s m args below meth c s₁ B hml hv
  obtain ⟨rfl, hsz, hP, hK, hD0, hN⟩ := hv
  have hx := B.exec
  have hb := B.bytes
  have hr := B.returns
  have hts := atoms_spec (ws := wsX2_begin) B.pre
  have hown : s.vm.findClass RX2 = some m.cls := findClass_of_methodNamed B.named
  have hlocks := B.notSynchronized
  subst hsz
  have hD := hD0.self (sz := s.heap.size)
  generalize hAe : va_A [(a, .inr (2, [.int z, .ref an])), (an, .inl (cI, 40, .inl f))] s.heap.size = A at hD ⊢
  have hA : ∀ q : Nat, s.heap.size ≤ q → A q := fun q h => by rw [← hAe]; exact Or.inr h
  have hS : va_S A s.heap s.heap [] := va_S.rf
  have hP : va_P D vwCl [(a, .inr (2, [.int z, .ref an])), (an, .inl (cI, 40, .inl f))] s.heap := hP
  have hl := lv_entry ([.ref a, .int n]) (n := 2) (Nat.le_of_ble_eq_true rfl)
  rw [lg_entry_eq]
  generalize (lg_sl ([.ref a, .int n]) ++ List.replicate (2 - (lg_sl ([.ref a, .int n])).length) Slot.unset).toArray = ls at hl ⊢
  have hl : lv_has ls 2 [(0, .ref a), (1, .int n)] := hl
  refine lv_aload_n hx hb dX2_begin_0 rfl (lv_at hl 0 rfl) ?_
  refine va_get (D := D) (ci := 2) (v := .ref an) (C := RX2) (T := TX2) (N := 2) hx hb hts (in_X2_begin_X2) hown hK hP 0 rfl rfl 1 (by decide) (hts (.fieldLink RX2 15 "StepsRoundCircle$Row" "numbers" "[I") (by decide +kernel)) (fun _ h9 => h9) rfl dX2_begin_1 ?_
  refine lv_iconst (v := 0) hx hb dX2_begin_4 (by decide) ?_
  refine wrSv (As := [.ref an, .int 0]) (rest := []) (wr := [(a, .inr (2, [.int z, .ref an]))]) (A := A) ⟨hx, hb, hml, hown, hts⟩ (c_J7_fill_53178 l D cI cZ cR an 40 f 0 (by decide) s.heap.size) (va_cwS 2 hts gX2_begin_J7_fill_53178 rfl rfl rfl (by decide +kernel) ⟨Nat.le_of_ble_eq_true rfl, Nat.le_of_ble_eq_true rfl⟩) hK hN hP hD hS hA [1] [0] rfl (by decide) rfl (by decide) (by decide) rfl hl.1 rfl (Nat.le_of_ble_eq_true rfl) dX2_begin_5 ⟨Nat.zero_le _, Nat.zero_le _⟩ (fun u H locs hw hP hD hS => ?_)
  obtain ⟨f_5, rfl⟩ : ∃ z, z = u := ⟨_, rfl⟩
  try dsimp only at hw
  have q1_5 := hw
  have q1_5 := q1_5.symm
  subst q1_5
  have hP : va_P D vwCl [(a, .inr (2, [.int z, .ref an])), (an, .inl (cI, 40, .inl (fun _ => 0)))] H := hP.sub [0, 1] rfl
  have hD : va_D A [(a, .inr (2, [.int z, .ref an])), (an, .inl (cI, 40, .inl (fun _ => 0)))] := hD.sub [0, 1] (by decide) rfl
  refine lv_aload_n hx hb dX2_begin_8 rfl (lv_at hl 0 rfl) ?_
  refine lv_iload_n hx hb dX2_begin_9 rfl (lv_at hl 1 rfl) ?_
  refine va_put (D := D) (ci := 2) (v := .int n) (ty := .int) (C := RX2) (T := TX2) (N := 2) hx hb hts (in_X2_begin_X2) tyX2 tyX2_ok nmX2 hown hK hP hD hS 0 rfl rfl 0 (by decide) (hts (.fieldLink RX2 11 "StepsRoundCircle$Row" "size" "I") (by decide +kernel)) (fun _ h9 => h9) rfl (by decide +kernel) rfl rfl (Nat.le_of_ble_eq_true rfl) dX2_begin_10 (fun H locs hP hD hS => ?_)
  have hP : va_P D vwCl [(a, .inr (2, [.int n, .ref an])), (an, .inl (cI, 40, .inl (fun _ => 0)))] H := hP
  have hD : va_D A [(a, .inr (2, [.int n, .ref an])), (an, .inl (cI, 40, .inl (fun _ => 0)))] := hD
  exact wrV (w1 := (fun (u : Int32 × (Nat → Int32)) => [(a, .inr (2, [.int u.1, .ref an])), (an, .inl (cI, 40, .inl u.2))])) (n, (fun _ => 0)) hx hb hr hlocks dX2_begin_13 hS (hP.sub [0, 1] rfl) (hD.sub [0, 1] (by decide) rfl) (by first | exact ⟨rfl, rfl⟩ | rfl | (simp [bi]; done))

set_option maxHeartbeats 4000000 in
set_option maxRecDepth 100000 in
theorem c_X1_allBelow (l : Launch) (D : va_G) (cI cZ cR : ClassId) (a an : Nat) (q nw : Int32) (v : Nat → Int32) (n : Int32) : Met l yX1_allBelow wsX1_allBelow ({ frames := 2, cells := 0, slots := 0, locals := 44 }) (PcR D cI cZ cR [.ref a, .int n] [(a, .inr (1, [.int q, .int nw, .ref an])), (an, .inl (cI, 20, .inl v))]) (k2_QcV (.int (bi (∀ i, i < nw.toNatClampNeg → rg_val v (nI i) 1 < n ∧ rg_val v (nI i) 2 < n)))) 0 0 (fun _ => False) := by
  refine Met.ofW (cc := cX1_allBelow) (maxL := 3) (ret := (some .boolean)) (by decide) rfl ?_
  intro p e s m args below meth c s₁ B hml hv
  obtain ⟨rfl, hP, hK, hN⟩ := hv
  have hx := B.exec
  have hb := B.bytes
  have hr := B.returns
  have hts := atoms_spec (ws := wsX1_allBelow) B.pre
  have hown : s.vm.findClass RX1 = some m.cls := findClass_of_methodNamed B.named
  have hlocks := B.notSynchronized
  have hP : va_P D vwCl [(a, .inr (1, [.int q, .int nw, .ref an])), (an, .inl (cI, 20, .inl v))] s.heap := hP
  have hl := lv_entry ([.ref a, .int n]) (n := 3) (Nat.le_of_ble_eq_true rfl)
  rw [lg_entry_eq]
  generalize (lg_sl ([.ref a, .int n]) ++ List.replicate (3 - (lg_sl ([.ref a, .int n])).length) Slot.unset).toArray = ls at hl ⊢
  have hl : lv_has ls 3 [(0, .ref a), (1, .int n)] := hl
  refine lv_iconst (v := 0) hx hb dX1_allBelow_0 (by decide) ?_
  refine lv_istore_n (lv' := [(2, .int 0), (0, .ref a), (1, .int n)]) hx hb dX1_allBelow_1 rfl hl (by decide) rfl (fun ls hl => ?_)
  have loop_2 : ∀ (fuel : Nat), ∀ (i : Nat), (i ≤ nw.toNatClampNeg) → (∀ j, j < i → rg_val v (nI j) 1 < n ∧ rg_val v (nI j) 2 < n) → (nw.toNatClampNeg + 1 ≤ i + fuel) → ∀ (y2 : Int32), y2 = nI i → ∀ (ls : Array Slot), lv_has ls 3 [(2, .int y2), (0, .ref a), (1, .int n)] → W p l e (headSpec wsX1_allBelow ({ frames := 2, cells := 0, slots := 0, locals := 44 })).room s m ([.ref a, .int n] : List Value).toArray below meth c s.heap [] 0 0 (MQ below (k2_QcV (.int (bi (∀ i, i < nw.toNatClampNeg → rg_val v (nI i) 1 < n ∧ rg_val v (nI i) 2 < n)))) ([.ref a, .int n] : List Value).toArray s 0 0 (fun _ => False)) (F0 m 2 ls []) := by
    intro fuel
    induction fuel with
    | zero =>
      intro i hi hg hfu
      exact False.elim (by omega)
    | succ fuel ih_2 =>
      intro i hi hg hfu y2 ey2 ls hl
      subst ey2
      refine lv_iload_n hx hb dX1_allBelow_2 rfl (lv_at hl 0 rfl) ?_
      refine lv_aload_n hx hb dX1_allBelow_3 rfl (lv_at hl 1 rfl) ?_
      refine va_get (D := D) (ci := 1) (v := .int nw) (C := RX1) (T := TX1) (N := 3) hx hb hts (in_X1_allBelow_X1) hown hK hP 0 rfl rfl 1 (by decide) (hts (.fieldLink RX1 15 "StepsRoundCircle$Ring" "walkers" "I") (by decide +kernel)) (fun _ h9 => h9) rfl dX1_allBelow_4 ?_
      refine lv_icmp_ge (tgt := 38) hx hb dX1_allBelow_7 (by decide) (fun c_7 => ?_) (fun c_7 => ?_)
      · skip
        refine lv_iconst (v := 1) hx hb dX1_allBelow_38 (by decide) ?_
        exact rdZ hx hb hr hlocks dX1_allBelow_39 ((bi_t (fun j hj => hg j (by have := (le_clamp (by have := clamp_lt nw; omega)).mp c_7; omega))).symm)
      · skip
        have hiN : i < nw.toNatClampNeg := (lt_clamp (by have := clamp_lt nw; omega)).mp (Int32.not_le.mp c_7)
        refine lv_aload_n hx hb dX1_allBelow_10 rfl (lv_at hl 1 rfl) ?_
        refine lv_iload_n hx hb dX1_allBelow_11 rfl (lv_at hl 0 rfl) ?_
        refine lv_iconst (v := 1) hx hb dX1_allBelow_12 (by decide) ?_
        refine rdV (As := [.int (nI i), .int 1]) (rest := []) ⟨hx, hb, hml, hown, hts⟩ (c_X1_value l D cI cZ cR a an q nw v (nI i) 1 ) (cwV 2 hts gX1_allBelow_X1_value rfl rfl rfl (by decide +kernel) ⟨Nat.le_of_ble_eq_true rfl, Nat.le_of_ble_eq_true rfl⟩) hK hN hP 0 1 rfl rfl rfl [0, 1] rfl rfl hl.1 rfl (Nat.le_of_ble_eq_true rfl) dX1_allBelow_13 ⟨Nat.zero_le _, Nat.zero_le _⟩ ?_
        refine lv_iload_n hx hb dX1_allBelow_16 rfl (lv_at hl 2 rfl) ?_
        refine lv_icmp_ge (tgt := 30) hx hb dX1_allBelow_17 (by decide) (fun c_17 => ?_) (fun c_17 => ?_)
        · skip
          refine lv_iconst (v := 0) hx hb dX1_allBelow_30 (by decide) ?_
          exact rdZ hx hb hr hlocks dX1_allBelow_31 ((bi_f (fun h => by have h9 := h i hiN; exact absurd h9.1 (Int32.not_lt.mpr c_17))).symm)
        · skip
          refine lv_aload_n hx hb dX1_allBelow_20 rfl (lv_at hl 1 rfl) ?_
          refine lv_iload_n hx hb dX1_allBelow_21 rfl (lv_at hl 0 rfl) ?_
          refine lv_iconst (v := 2) hx hb dX1_allBelow_22 (by decide) ?_
          refine rdV (As := [.int (nI i), .int 2]) (rest := []) ⟨hx, hb, hml, hown, hts⟩ (c_X1_value l D cI cZ cR a an q nw v (nI i) 2 ) (cwV 2 hts gX1_allBelow_X1_value rfl rfl rfl (by decide +kernel) ⟨Nat.le_of_ble_eq_true rfl, Nat.le_of_ble_eq_true rfl⟩) hK hN hP 0 1 rfl rfl rfl [0, 1] rfl rfl hl.1 rfl (Nat.le_of_ble_eq_true rfl) dX1_allBelow_23 ⟨Nat.zero_le _, Nat.zero_le _⟩ ?_
          refine lv_iload_n hx hb dX1_allBelow_26 rfl (lv_at hl 2 rfl) ?_
          refine lv_icmp_lt (tgt := 32) hx hb dX1_allBelow_27 (by decide) (fun c_27 => ?_) (fun c_27 => ?_)
          · skip
            refine lv_iinc (v := (nI i) + 1) (lv' := [(2, .int ((nI i) + 1)), (0, .ref a), (1, .int n)]) hx hb dX1_allBelow_32 hl (k := 0) rfl (by rfl) (by decide) rfl (fun ls hl => ?_)
            refine lv_goto (tgt := 2) hx hb dX1_allBelow_35 (by decide) ?_
            exact ih_2 (i + 1) (by omega) (lt_s hg ⟨Int32.not_le.mp c_17, c_27⟩) (by omega) _ (by first | rfl | exact nI_1 _ | exact nI_0.symm) ls (lv_sub hl [0, 1, 2] rfl)
          · skip
            refine lv_iconst (v := 0) hx hb dX1_allBelow_30 (by decide) ?_
            exact rdZ hx hb hr hlocks dX1_allBelow_31 ((bi_f (fun h => by have h9 := h i hiN; exact c_27 h9.2)).symm)
  exact loop_2 (nw.toNatClampNeg + 1) 0 (by omega) (fun j hj => absurd hj (Nat.not_lt_zero j)) (by omega) _ (by first | rfl | exact nI_1 _ | exact nI_0.symm) ls (lv_sub hl [0, 1, 2] rfl)

set_option maxHeartbeats 4000000 in
set_option maxRecDepth 100000 in
theorem c_X1_copyFrom (l : Launch) (D : va_G) (cI cZ cR : ClassId) (a an : Nat) (q nw : Int32) (v : Nat → Int32) (b bn : Nat) (q1 nw1 : Int32) (v1 : Nat → Int32) (sz : Nat) : Met l yX1_copyFrom wsX1_copyFrom ({ frames := 0, cells := 0, slots := 0, locals := 0 }) (PcW D cI cZ cR [.ref a, .ref b] [(a, .inr (1, [.int q, .int nw, .ref an])), (an, .inl (cI, 20, .inl v)), (b, .inr (1, [.int q1, .int nw1, .ref bn])), (bn, .inl (cI, 20, .inl v1))] sz) (va_Qv (fun (u : Int32 × Int32 × (Nat → Int32)) => u.1 = q1 ∧ u.2.1 = nw1 ∧ u.2.2 = v1) (Bw D (fun (u : Int32 × Int32 × (Nat → Int32)) => [(a, .inr (1, [.int u.1, .int u.2.1, .ref an])), (an, .inl (cI, 20, .inl u.2.2)), (b, .inr (1, [.int q1, .int nw1, .ref bn])), (bn, .inl (cI, 20, .inl v1))]) (va_A [(a, .inr (1, [.int q, .int nw, .ref an])), (an, .inl (cI, 20, .inl v)), (b, .inr (1, [.int q1, .int nw1, .ref bn])), (bn, .inl (cI, 20, .inl v1))] sz)) (va_A [(a, .inr (1, [.int q, .int nw, .ref an])), (an, .inl (cI, 20, .inl v)), (b, .inr (1, [.int q1, .int nw1, .ref bn])), (bn, .inl (cI, 20, .inl v1))] sz)) 0 0 (va_A [(a, .inr (1, [.int q, .int nw, .ref an])), (an, .inl (cI, 20, .inl v)), (b, .inr (1, [.int q1, .int nw1, .ref bn])), (bn, .inl (cI, 20, .inl v1))] sz) := by
  refine Met.ofW (cc := cX1_copyFrom) (maxL := 3) (ret := none) (by decide) rfl ?_
  intro p e s m args below meth c s₁ B hml hv
  obtain ⟨rfl, hsz, hP, hK, hD0, hN⟩ := hv
  have hx := B.exec
  have hb := B.bytes
  have hr := B.returns
  have hts := atoms_spec (ws := wsX1_copyFrom) B.pre
  have hown : s.vm.findClass RX1 = some m.cls := findClass_of_methodNamed B.named
  have hlocks := B.notSynchronized
  subst hsz
  have hD := hD0.self (sz := s.heap.size)
  generalize hAe : va_A [(a, .inr (1, [.int q, .int nw, .ref an])), (an, .inl (cI, 20, .inl v)), (b, .inr (1, [.int q1, .int nw1, .ref bn])), (bn, .inl (cI, 20, .inl v1))] s.heap.size = A at hD ⊢
  have hA : ∀ q : Nat, s.heap.size ≤ q → A q := fun q h => by rw [← hAe]; exact Or.inr h
  have hS : va_S A s.heap s.heap [] := va_S.rf
  have hP : va_P D vwCl [(a, .inr (1, [.int q, .int nw, .ref an])), (an, .inl (cI, 20, .inl v)), (b, .inr (1, [.int q1, .int nw1, .ref bn])), (bn, .inl (cI, 20, .inl v1))] s.heap := hP
  have hl := lv_entry ([.ref a, .ref b]) (n := 3) (Nat.le_of_ble_eq_true rfl)
  rw [lg_entry_eq]
  generalize (lg_sl ([.ref a, .ref b]) ++ List.replicate (3 - (lg_sl ([.ref a, .ref b])).length) Slot.unset).toArray = ls at hl ⊢
  have hl : lv_has ls 3 [(0, .ref a), (1, .ref b)] := hl
  refine lv_aload_n hx hb dX1_copyFrom_0 rfl (lv_at hl 0 rfl) ?_
  refine lv_aload_n hx hb dX1_copyFrom_1 rfl (lv_at hl 1 rfl) ?_
  refine va_get (D := D) (ci := 1) (v := .int q1) (C := RX1) (T := TX1) (N := 3) hx hb hts (in_X1_copyFrom_X1) hown hK hP 2 rfl rfl 0 (by decide) (hts (.fieldLink RX1 9 "StepsRoundCircle$Ring" "size" "I") (by decide +kernel)) (fun _ h9 => h9) rfl dX1_copyFrom_2 ?_
  refine va_put (D := D) (ci := 1) (v := .int q1) (ty := .int) (C := RX1) (T := TX1) (N := 3) hx hb hts (in_X1_copyFrom_X1) tyX1 tyX1_ok nmX1 hown hK hP hD hS 0 rfl rfl 0 (by decide) (hts (.fieldLink RX1 9 "StepsRoundCircle$Ring" "size" "I") (by decide +kernel)) (fun _ h9 => h9) rfl (by decide +kernel) rfl rfl (Nat.le_of_ble_eq_true rfl) dX1_copyFrom_5 (fun H locs hP hD hS => ?_)
  have hP : va_P D vwCl [(a, .inr (1, [.int q1, .int nw, .ref an])), (an, .inl (cI, 20, .inl v)), (b, .inr (1, [.int q1, .int nw1, .ref bn])), (bn, .inl (cI, 20, .inl v1))] H := hP
  have hD : va_D A [(a, .inr (1, [.int q1, .int nw, .ref an])), (an, .inl (cI, 20, .inl v)), (b, .inr (1, [.int q1, .int nw1, .ref bn])), (bn, .inl (cI, 20, .inl v1))] := hD
  refine lv_aload_n hx hb dX1_copyFrom_8 rfl (lv_at hl 0 rfl) ?_
  refine lv_aload_n hx hb dX1_copyFrom_9 rfl (lv_at hl 1 rfl) ?_
  refine va_get (D := D) (ci := 1) (v := .int nw1) (C := RX1) (T := TX1) (N := 3) hx hb hts (in_X1_copyFrom_X1) hown hK hP 2 rfl rfl 1 (by decide) (hts (.fieldLink RX1 15 "StepsRoundCircle$Ring" "walkers" "I") (by decide +kernel)) (fun _ h9 => h9) rfl dX1_copyFrom_10 ?_
  refine va_put (D := D) (ci := 1) (v := .int nw1) (ty := .int) (C := RX1) (T := TX1) (N := 3) hx hb hts (in_X1_copyFrom_X1) tyX1 tyX1_ok nmX1 hown hK hP hD hS 0 rfl rfl 1 (by decide) (hts (.fieldLink RX1 15 "StepsRoundCircle$Ring" "walkers" "I") (by decide +kernel)) (fun _ h9 => h9) rfl (by decide +kernel) rfl rfl (Nat.le_of_ble_eq_true rfl) dX1_copyFrom_13 (fun H locs hP hD hS => ?_)
  have hP : va_P D vwCl [(a, .inr (1, [.int q1, .int nw1, .ref an])), (an, .inl (cI, 20, .inl v)), (b, .inr (1, [.int q1, .int nw1, .ref bn])), (bn, .inl (cI, 20, .inl v1))] H := hP
  have hD : va_D A [(a, .inr (1, [.int q1, .int nw1, .ref an])), (an, .inl (cI, 20, .inl v)), (b, .inr (1, [.int q1, .int nw1, .ref bn])), (bn, .inl (cI, 20, .inl v1))] := hD
  refine lv_iconst (v := 0) hx hb dX1_copyFrom_16 (by decide) ?_
  refine lv_istore_n (lv' := [(2, .int 0), (0, .ref a), (1, .ref b)]) hx hb dX1_copyFrom_17 rfl hl (by decide) rfl (fun ls hl => ?_)
  have loop_18 : ∀ (fuel : Nat), ∀ (i : Nat), ∀ (g : Nat → Int32), (i ≤ 20) → (∀ j, j < i → g j = v1 j) → (21 ≤ i + fuel) → ∀ (y2 : Int32), y2 = nI i → ∀ (H : Heap) (locs : List Loc), va_P D vwCl [(a, .inr (1, [.int q1, .int nw1, .ref an])), (an, .inl (cI, 20, .inl g)), (b, .inr (1, [.int q1, .int nw1, .ref bn])), (bn, .inl (cI, 20, .inl v1))] H → va_D A [(a, .inr (1, [.int q1, .int nw1, .ref an])), (an, .inl (cI, 20, .inl g)), (b, .inr (1, [.int q1, .int nw1, .ref bn])), (bn, .inl (cI, 20, .inl v1))] → va_S A s.heap H locs → ∀ (ls : Array Slot), lv_has ls 3 [(2, .int y2), (0, .ref a), (1, .ref b)] → W p l e (headSpec wsX1_copyFrom ({ frames := 0, cells := 0, slots := 0, locals := 0 })).room s m ([.ref a, .ref b] : List Value).toArray below meth c H locs 0 0 (MQ below (va_Qv (fun (u : Int32 × Int32 × (Nat → Int32)) => u.1 = q1 ∧ u.2.1 = nw1 ∧ u.2.2 = v1) (Bw D (fun (u : Int32 × Int32 × (Nat → Int32)) => [(a, .inr (1, [.int u.1, .int u.2.1, .ref an])), (an, .inl (cI, 20, .inl u.2.2)), (b, .inr (1, [.int q1, .int nw1, .ref bn])), (bn, .inl (cI, 20, .inl v1))]) A) A) ([.ref a, .ref b] : List Value).toArray s 0 0 A) (F0 m 18 ls []) := by
    intro fuel
    induction fuel with
    | zero =>
      intro i g hi hg hfu
      exact False.elim (by omega)
    | succ fuel ih_18 =>
      intro i g hi hg hfu y2 ey2 H locs hP hD hS ls hl
      subst ey2
      refine lv_iload_n hx hb dX1_copyFrom_18 rfl (lv_at hl 0 rfl) ?_
      refine lv_aload_n hx hb dX1_copyFrom_19 rfl (lv_at hl 1 rfl) ?_
      refine va_get (D := D) (ci := 1) (v := .ref an) (C := RX1) (T := TX1) (N := 3) hx hb hts (in_X1_copyFrom_X1) hown hK hP 0 rfl rfl 2 (by decide) (hts (.fieldLink RX1 18 "StepsRoundCircle$Ring" "values" "[I") (by decide +kernel)) (fun _ h9 => h9) rfl dX1_copyFrom_20 ?_
      refine va_alen (v := 20) hx hb hK hP 1 0 rfl rfl rfl dX1_copyFrom_23 ?_
      refine lv_icmp_ge (tgt := 54) hx hb dX1_copyFrom_24 (by decide) (fun c_24 => ?_) (fun c_24 => ?_)
      · skip
        have hP : va_P D vwCl [(a, .inr (1, [.int q1, .int nw1, .ref an])), (an, .inl (cI, 20, .inl v1)), (b, .inr (1, [.int q1, .int nw1, .ref bn])), (bn, .inl (cI, 20, .inl v1))] H := P_cg hP 1 v1 rfl (fun j hj => hg j (by rcases Nat.lt_or_ge i 20 with q | q; exact absurd c_24 (nI_ge (b := 20) q (by omega)); omega))
        have hD : va_D A [(a, .inr (1, [.int q1, .int nw1, .ref an])), (an, .inl (cI, 20, .inl v1)), (b, .inr (1, [.int q1, .int nw1, .ref bn])), (bn, .inl (cI, 20, .inl v1))] := D_cg hD 1 _ rfl
        exact wrV (w1 := (fun (u : Int32 × Int32 × (Nat → Int32)) => [(a, .inr (1, [.int u.1, .int u.2.1, .ref an])), (an, .inl (cI, 20, .inl u.2.2)), (b, .inr (1, [.int q1, .int nw1, .ref bn])), (bn, .inl (cI, 20, .inl v1))])) (q1, nw1, v1) hx hb hr hlocks dX1_copyFrom_54 hS (hP.sub [0, 1, 2, 3] rfl) (hD.sub [0, 1, 2, 3] (by decide) rfl) (by first | exact ⟨rfl, rfl⟩ | rfl | (simp [bi, c_24, Int32.not_lt.mpr c_24]; done))
      · skip
        have hiN : i < 20 := by rcases Nat.lt_or_ge i 20 with q | q; exact q; exact absurd (nI_le q (by omega)) c_24
        refine lv_iload_n hx hb dX1_copyFrom_27 rfl (lv_at hl 0 rfl) ?_
        refine lv_aload_n hx hb dX1_copyFrom_28 rfl (lv_at hl 2 rfl) ?_
        refine va_get (D := D) (ci := 1) (v := .ref bn) (C := RX1) (T := TX1) (N := 3) hx hb hts (in_X1_copyFrom_X1) hown hK hP 2 rfl rfl 2 (by decide) (hts (.fieldLink RX1 18 "StepsRoundCircle$Ring" "values" "[I") (by decide +kernel)) (fun _ h9 => h9) rfl dX1_copyFrom_29 ?_
        refine va_alen (v := 20) hx hb hK hP 3 0 rfl rfl rfl dX1_copyFrom_32 ?_
        refine lv_icmp_ge (tgt := 54) hx hb dX1_copyFrom_33 (by decide) (fun c_33 => ?_) (fun c_33 => ?_)
        · skip
          exact False.elim (absurd c_33 (nI_ge (b := 20) hiN (by omega)))
        · skip
          refine lv_aload_n hx hb dX1_copyFrom_36 rfl (lv_at hl 1 rfl) ?_
          refine va_get (D := D) (ci := 1) (v := .ref an) (C := RX1) (T := TX1) (N := 3) hx hb hts (in_X1_copyFrom_X1) hown hK hP 0 rfl rfl 2 (by decide) (hts (.fieldLink RX1 18 "StepsRoundCircle$Ring" "values" "[I") (by decide +kernel)) (fun _ h9 => h9) rfl dX1_copyFrom_37 ?_
          refine lv_iload_n hx hb dX1_copyFrom_40 rfl (lv_at hl 0 rfl) ?_
          refine lv_aload_n hx hb dX1_copyFrom_41 rfl (lv_at hl 2 rfl) ?_
          refine va_get (D := D) (ci := 1) (v := .ref bn) (C := RX1) (T := TX1) (N := 3) hx hb hts (in_X1_copyFrom_X1) hown hK hP 2 rfl rfl 2 (by decide) (hts (.fieldLink RX1 18 "StepsRoundCircle$Ring" "values" "[I") (by decide +kernel)) (fun _ h9 => h9) rfl dX1_copyFrom_42 ?_
          refine lv_iload_n hx hb dX1_copyFrom_45 rfl (lv_at hl 0 rfl) ?_
          refine va_iald hx hb hK hP 3 0 rfl rfl (vp_in_nI hiN (by omega)) dX1_copyFrom_46 ?_
          refine va_iast hx hb hK hP hD hS 1 0 rfl rfl (vp_in_nI hiN (by omega)) dX1_copyFrom_47 (fun H locs hP hD hS => ?_)
          have hP : va_P D vwCl [(a, .inr (1, [.int q1, .int nw1, .ref an])), (an, .inl (cI, 20, .inl (upd g ((nI i).toNatClampNeg) (v1 ((nI i).toNatClampNeg))))), (b, .inr (1, [.int q1, .int nw1, .ref bn])), (bn, .inl (cI, 20, .inl v1))] H := hP
          have hD : va_D A [(a, .inr (1, [.int q1, .int nw1, .ref an])), (an, .inl (cI, 20, .inl (upd g ((nI i).toNatClampNeg) (v1 ((nI i).toNatClampNeg))))), (b, .inr (1, [.int q1, .int nw1, .ref bn])), (bn, .inl (cI, 20, .inl v1))] := hD
          refine lv_iinc (v := (nI i) + 1) (lv' := [(2, .int ((nI i) + 1)), (0, .ref a), (1, .ref b)]) hx hb dX1_copyFrom_48 hl (k := 0) rfl (by rfl) (by decide) rfl (fun ls hl => ?_)
          refine lv_goto (tgt := 18) hx hb dX1_copyFrom_51 (by decide) ?_
          exact ih_18 (i + 1) (upd g ((nI i).toNatClampNeg) (v1 ((nI i).toNatClampNeg))) (by omega) (by intro j hj; rw [nI_clamp (by omega)]; by_cases e9 : j = i; (· subst e9; exact pk_us); (· rw [pk_un e9]; exact hg j (by omega))) (by omega) _ (by first | rfl | exact nI_1 _ | exact nI_0.symm) _ _ (hP.sub [0, 1, 2, 3] rfl) (hD.sub [0, 1, 2, 3] (by decide) rfl) hS ls (lv_sub hl [0, 1, 2] rfl)
  exact loop_18 21 0 v (by omega) (fun j hj => absurd hj (Nat.not_lt_zero j)) (by omega) _ (by first | rfl | exact nI_1 _ | exact nI_0.symm) _ _ (hP.sub [0, 1, 2, 3] rfl) (hD.sub [0, 1, 2, 3] (by decide) rfl) hS ls (lv_sub hl [0, 1, 2] rfl)
