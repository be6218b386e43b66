theorem in_X1_add_X1 : ∀ w ∈ wsX10, w ∈ wsX1_add := by decide +kernel
theorem in_X1_around_X1 : ∀ w ∈ wsX10, w ∈ wsX1_around := by decide +kernel
theorem in_X1_greatest_X1 : ∀ w ∈ wsX10, w ∈ wsX1_greatest := by decide +kernel
theorem in_X1_has_X1 : ∀ w ∈ wsX10, w ∈ wsX1_has := by decide +kernel
theorem in_X1_hasRoomFor_X1 : ∀ w ∈ wsX10, w ∈ wsX1_hasRoomFor := by decide +kernel
theorem in_X1_setValue_X1 : ∀ w ∈ wsX10, w ∈ wsX1_setValue := by decide +kernel
theorem in_X1_value_X1 : ∀ w ∈ wsX10, w ∈ wsX1_value := by decide +kernel
theorem in_X3_clear_X3 : ∀ w ∈ wsX30, w ∈ wsX3_clear := by decide +kernel
theorem in_X3_get_X3 : ∀ w ∈ wsX30, w ∈ wsX3_get := by decide +kernel
set_option maxHeartbeats 4000000 in
set_option maxRecDepth 100000 in
theorem c_X5_isBelow (l : Launch) (D : va_G) (cI cZ cR : ClassId) (n b : Int32) : Met l yX5_isBelow wsX5_isBelow ({ frames := 0, cells := 0, slots := 0, locals := 0 }) (PcR D cI cZ cR [.int n, .int b] []) (k2_QcV (.int (bi (0 ≤ n ∧ n < b)))) 0 0 (fun _ => False) := by
  refine Met.ofW (cc := cX5_isBelow) (maxL := 2) (ret := (some .boolean)) (by decide) rfl ?_
  intro p e s m args below meth c s₁ B hml hv
  obtain ⟨rfl, hP, hK, hN⟩ := hv
  have hx := B.exec
  have hb := B.bytes
  have hr := B.returns
  have hts := atoms_spec (ws := wsX5_isBelow) B.pre
  have hown : s.vm.findClass RX5 = some m.cls := findClass_of_methodNamed B.named
  have hlocks := B.notSynchronized
  have hP : va_P D vwCl [] s.heap := hP
  have hl := lv_entry ([.int n, .int b]) (n := 2) (Nat.le_of_ble_eq_true rfl)
  rw [lg_entry_eq]
  generalize (lg_sl ([.int n, .int b]) ++ List.replicate (2 - (lg_sl ([.int n, .int b])).length) Slot.unset).toArray = ls at hl ⊢
  have hl : lv_has ls 2 [(0, .int n), (1, .int b)] := hl
  refine lv_iload_n hx hb dX5_isBelow_0 rfl (lv_at hl 0 rfl) ?_
  refine lv_if_lt (tgt := 13) hx hb dX5_isBelow_1 (by decide) (fun c_1 => ?_) (fun c_1 => ?_)
  · skip
    refine lv_iconst (v := 0) hx hb dX5_isBelow_13 (by decide) ?_
    exact rdZ hx hb hr hlocks dX5_isBelow_14 (by first | rfl | (simp [bi, c_1, Int32.not_le.mpr c_1]; done))
  · skip
    refine lv_iload_n hx hb dX5_isBelow_4 rfl (lv_at hl 0 rfl) ?_
    refine lv_iload_n hx hb dX5_isBelow_5 rfl (lv_at hl 1 rfl) ?_
    refine lv_icmp_ge (tgt := 13) hx hb dX5_isBelow_6 (by decide) (fun c_6 => ?_) (fun c_6 => ?_)
    · skip
      refine lv_iconst (v := 0) hx hb dX5_isBelow_13 (by decide) ?_
      exact rdZ hx hb hr hlocks dX5_isBelow_14 (by first | rfl | (simp [bi, c_1, Int32.not_lt.mp c_1, c_6, Int32.not_lt.mpr c_6]; done))
    · skip
      refine lv_iconst (v := 1) hx hb dX5_isBelow_9 (by decide) ?_
      refine lv_goto (tgt := 14) hx hb dX5_isBelow_10 (by decide) ?_
      exact rdZ hx hb hr hlocks dX5_isBelow_14 (by first | rfl | (simp [bi, c_1, Int32.not_lt.mp c_1, c_6, Int32.not_le.mp c_6]; done))

set_option maxHeartbeats 4000000 in
set_option maxRecDepth 100000 in
theorem c_X5_quotient (l : Launch) (D : va_G) (cI cZ cR : ClassId) (a b : Int64) : Met l yX5_quotient wsX5_quotient ({ frames := 0, cells := 0, slots := 0, locals := 0 }) (PcR D cI cZ cR [.long a, .long b] []) (k2_QcV (.long (lq a b))) 0 0 (fun _ => False) := by
  refine Met.ofW (cc := cX5_quotient) (maxL := 4) (ret := (some .long)) (by decide) rfl ?_
  intro p e s m args below meth c s₁ B hml hv
  obtain ⟨rfl, hP, hK, hN⟩ := hv
  have hx := B.exec
  have hb := B.bytes
  have hr := B.returns
  have hts := atoms_spec (ws := wsX5_quotient) B.pre
  have hown : s.vm.findClass RX5 = some m.cls := findClass_of_methodNamed B.named
  have hlocks := B.notSynchronized
  have hP : va_P D vwCl [] s.heap := hP
  have hl := lv_entry ([.long a, .long b]) (n := 4) (Nat.le_of_ble_eq_true rfl)
  rw [lg_entry_eq]
  generalize (lg_sl ([.long a, .long b]) ++ List.replicate (4 - (lg_sl ([.long a, .long b])).length) Slot.unset).toArray = ls at hl ⊢
  have hl : lv_has ls 4 [(0, .long a), (2, .long b)] := hl
  refine lv_lload_n hx hb dX5_quotient_0 rfl (lv_at hl 1 rfl) ?_
  refine lv_lconst (v := 0) hx hb dX5_quotient_1 (by decide) ?_
  refine W.lcmp hx hb dX5_quotient_2 ?_
  refine lv_if_ne (tgt := 10) hx hb dX5_quotient_3 (by decide) (fun c_3 => ?_) (fun c_3 => ?_)
  · skip
    have c_3 := mt (lg_cmp_eq _ _).mpr c_3
    refine lv_lload_n hx hb dX5_quotient_10 rfl (lv_at hl 0 rfl) ?_
    refine lv_lload_n hx hb dX5_quotient_11 rfl (lv_at hl 1 rfl) ?_
    refine lv_ldiv hx hb dX5_quotient_12 c_3 ?_
    exact rdL hx hb hr hlocks dX5_quotient_13 (by first | rfl | (simp [bi, lq, c_3]; done))
  · skip
    have c_3 := (lg_cmp_eq _ _).mp c_3
    refine lv_lconst (v := 0) hx hb dX5_quotient_6 (by decide) ?_
    refine lv_goto (tgt := 13) hx hb dX5_quotient_7 (by decide) ?_
    exact rdL hx hb hr hlocks dX5_quotient_13 (by first | rfl | (simp [bi, lq, c_3]; done))

set_option maxHeartbeats 4000000 in
set_option maxRecDepth 100000 in
theorem c_X5_rest (l : Launch) (D : va_G) (cI cZ cR : ClassId) (a b : Int64) : Met l yX5_rest wsX5_rest ({ frames := 0, cells := 0, slots := 0, locals := 0 }) (PcR D cI cZ cR [.long a, .long b] []) (k2_QcV (.long (lr a b))) 0 0 (fun _ => False) := by
  refine Met.ofW (cc := cX5_rest) (maxL := 4) (ret := (some .long)) (by decide) rfl ?_
  intro p e s m args below meth c s₁ B hml hv
  obtain ⟨rfl, hP, hK, hN⟩ := hv
  have hx := B.exec
  have hb := B.bytes
  have hr := B.returns
  have hts := atoms_spec (ws := wsX5_rest) B.pre
  have hown : s.vm.findClass RX5 = some m.cls := findClass_of_methodNamed B.named
  have hlocks := B.notSynchronized
  have hP : va_P D vwCl [] s.heap := hP
  have hl := lv_entry ([.long a, .long b]) (n := 4) (Nat.le_of_ble_eq_true rfl)
  rw [lg_entry_eq]
  generalize (lg_sl ([.long a, .long b]) ++ List.replicate (4 - (lg_sl ([.long a, .long b])).length) Slot.unset).toArray = ls at hl ⊢
  have hl : lv_has ls 4 [(0, .long a), (2, .long b)] := hl
  refine lv_lload_n hx hb dX5_rest_0 rfl (lv_at hl 1 rfl) ?_
  refine lv_lconst (v := 0) hx hb dX5_rest_1 (by decide) ?_
  refine W.lcmp hx hb dX5_rest_2 ?_
  refine lv_if_ne (tgt := 10) hx hb dX5_rest_3 (by decide) (fun c_3 => ?_) (fun c_3 => ?_)
  · skip
    have c_3 := mt (lg_cmp_eq _ _).mpr c_3
    refine lv_lload_n hx hb dX5_rest_10 rfl (lv_at hl 0 rfl) ?_
    refine lv_lload_n hx hb dX5_rest_11 rfl (lv_at hl 1 rfl) ?_
    refine lv_lrem hx hb dX5_rest_12 c_3 ?_
    exact rdL hx hb hr hlocks dX5_rest_13 (by first | rfl | (simp [bi, lr, c_3]; done))
  · skip
    have c_3 := (lg_cmp_eq _ _).mp c_3
    refine lv_lconst (v := 0) hx hb dX5_rest_6 (by decide) ?_
    refine lv_goto (tgt := 13) hx hb dX5_rest_7 (by decide) ?_
    exact rdL hx hb hr hlocks dX5_rest_13 (by first | rfl | (simp [bi, lr, c_3]; done))

set_option maxHeartbeats 4000000 in
set_option maxRecDepth 100000 in
theorem c_X5_isKind (l : Launch) (D : va_G) (cI cZ cR : ClassId) (k : Int32) : Met l yX5_isKind wsX5_isKind ({ frames := 1, cells := 0, slots := 0, locals := 21 }) (PcR D cI cZ cR [.int k] []) (k2_QcV (.int (bi (0 ≤ k ∧ k < 6)))) 0 0 (fun _ => False) := by
  refine Met.ofW (cc := cX5_isKind) (maxL := 1) (ret := (some .boolean)) (by decide) rfl ?_
  intro p e s m args below meth c s₁ B hml hv
  obtain ⟨rfl, hP, hK, hN⟩ := hv
  have hx := B.exec
  have hb := B.bytes
  have hr := B.returns
  have hts := atoms_spec (ws := wsX5_isKind) B.pre
  have hown : s.vm.findClass RX5 = some m.cls := findClass_of_methodNamed B.named
  have hlocks := B.notSynchronized
  have hP : va_P D vwCl [] s.heap := hP
  have hl := lv_entry ([.int k]) (n := 1) (Nat.le_of_ble_eq_true rfl)
  rw [lg_entry_eq]
  generalize (lg_sl ([.int k]) ++ List.replicate (1 - (lg_sl ([.int k])).length) Slot.unset).toArray = ls at hl ⊢
  have hl : lv_has ls 1 [(0, .int k)] := hl
  refine lv_iload_n hx hb dX5_isKind_0 rfl (lv_at hl 0 rfl) ?_
  refine lv_bipush (v := 6) hx hb dX5_isKind_1 (by decide) ?_
  refine rdS (As := [.int k, .int 6]) (rest := []) ⟨hx, hb, hml, hown, hts⟩ (c_X5_isBelow l D cI cZ cR k 6 ) (va_cwS 2 hts gX5_isKind_X5_isBelow rfl rfl rfl (by decide +kernel) ⟨Nat.le_of_ble_eq_true rfl, Nat.le_of_ble_eq_true rfl⟩) hK hN hP [] rfl rfl hl.1 rfl (Nat.le_of_ble_eq_true rfl) dX5_isKind_3 ⟨Nat.zero_le _, Nat.zero_le _⟩ ?_
  exact rdZ hx hb hr hlocks dX5_isKind_6 (by first | rfl | (simp [bi]; done))

set_option maxHeartbeats 4000000 in
set_option maxRecDepth 100000 in
theorem c_X3_get (l : Launch) (D : va_G) (cI cZ cR : ClassId) (a an : Nat) (z : Int32) (f : Nat → Int32) (i : Int32) : Met l yX3_get wsX3_get ({ frames := 0, cells := 0, slots := 0, locals := 0 }) (PcR D cI cZ cR [.ref a, .int i] [(a, .inr (3, [.int z, .ref an])), (an, .inl (cI, 200, .inl f))]) (k2_QcV (.int (so_get z f i))) 0 0 (fun _ => False) := by
  refine Met.ofW (cc := cX3_get) (maxL := 2) (ret := (some .int)) (by decide) rfl ?_
  intro p e s m args below meth c s₁ B hml hv
  obtain ⟨rfl, hP, hK, hN⟩ := hv
  have hx := B.exec
  have hb := B.bytes
  have hr := B.returns
  have hts := atoms_spec (ws := wsX3_get) B.pre
  have hown : s.vm.findClass RX3 = some m.cls := findClass_of_methodNamed B.named
  have hlocks := B.notSynchronized
  have hP : va_P D vwCl [(a, .inr (3, [.int z, .ref an])), (an, .inl (cI, 200, .inl f))] s.heap := hP
  have hl := lv_entry ([.ref a, .int i]) (n := 2) (Nat.le_of_ble_eq_true rfl)
  rw [lg_entry_eq]
  generalize (lg_sl ([.ref a, .int i]) ++ List.replicate (2 - (lg_sl ([.ref a, .int i])).length) Slot.unset).toArray = ls at hl ⊢
  have hl : lv_has ls 2 [(0, .ref a), (1, .int i)] := hl
  refine lv_iload_n hx hb dX3_get_0 rfl (lv_at hl 1 rfl) ?_
  refine lv_if_lt (tgt := 30) hx hb dX3_get_1 (by decide) (fun c_1 => ?_) (fun c_1 => ?_)
  · skip
    refine lv_iconst (v := 0) hx hb dX3_get_30 (by decide) ?_
    exact rdI hx hb hr hlocks dX3_get_31 (by first | rfl | (simp [bi, so_get, c_1, Int32.not_le.mpr c_1]; done))
  · skip
    refine lv_iload_n hx hb dX3_get_4 rfl (lv_at hl 1 rfl) ?_
    refine lv_aload_n hx hb dX3_get_5 rfl (lv_at hl 0 rfl) ?_
    refine va_get (D := D) (ci := 3) (v := .int z) (C := RX3) (T := TX3) (N := 2) hx hb hts (in_X3_get_X3) hown hK hP 0 rfl rfl 0 (by decide) (hts (.fieldLink RX3 9 "StepsRoundCircle$Sorted" "size" "I") (by decide +kernel)) (fun _ h9 => h9) rfl dX3_get_6 ?_
    refine lv_icmp_ge (tgt := 30) hx hb dX3_get_9 (by decide) (fun c_9 => ?_) (fun c_9 => ?_)
    · skip
      refine lv_iconst (v := 0) hx hb dX3_get_30 (by decide) ?_
      exact rdI hx hb hr hlocks dX3_get_31 (by first | rfl | (simp [bi, so_get, c_1, Int32.not_lt.mp c_1, c_9, Int32.not_lt.mpr c_9]; done))
    · skip
      refine lv_iload_n hx hb dX3_get_12 rfl (lv_at hl 1 rfl) ?_
      refine lv_aload_n hx hb dX3_get_13 rfl (lv_at hl 0 rfl) ?_
      refine va_get (D := D) (ci := 3) (v := .ref an) (C := RX3) (T := TX3) (N := 2) hx hb hts (in_X3_get_X3) hown hK hP 0 rfl rfl 1 (by decide) (hts (.fieldLink RX3 15 "StepsRoundCircle$Sorted" "numbers" "[I") (by decide +kernel)) (fun _ h9 => h9) rfl dX3_get_14 ?_
      refine va_alen (v := 200) hx hb hK hP 1 0 rfl rfl rfl dX3_get_17 ?_
      refine lv_icmp_ge (tgt := 30) hx hb dX3_get_18 (by decide) (fun c_18 => ?_) (fun c_18 => ?_)
      · skip
        refine lv_iconst (v := 0) hx hb dX3_get_30 (by decide) ?_
        exact rdI hx hb hr hlocks dX3_get_31 (by first | rfl | (simp [bi, so_get, c_1, Int32.not_lt.mp c_1, c_9, Int32.not_le.mp c_9, c_18, Int32.not_lt.mpr c_18]; done))
      · skip
        refine lv_aload_n hx hb dX3_get_21 rfl (lv_at hl 0 rfl) ?_
        refine va_get (D := D) (ci := 3) (v := .ref an) (C := RX3) (T := TX3) (N := 2) hx hb hts (in_X3_get_X3) hown hK hP 0 rfl rfl 1 (by decide) (hts (.fieldLink RX3 15 "StepsRoundCircle$Sorted" "numbers" "[I") (by decide +kernel)) (fun _ h9 => h9) rfl dX3_get_22 ?_
        refine lv_iload_n hx hb dX3_get_25 rfl (lv_at hl 1 rfl) ?_
        refine va_iald hx hb hK hP 1 0 rfl rfl (vp_lit (n := 200) (by decide) ⟨Int32.not_lt.mp c_1, Int32.not_le.mp c_18⟩) dX3_get_26 ?_
        refine lv_goto (tgt := 31) hx hb dX3_get_27 (by decide) ?_
        exact rdI hx hb hr hlocks dX3_get_31 (by first | rfl | (simp [bi, so_get, c_1, Int32.not_lt.mp c_1, c_9, Int32.not_le.mp c_9, c_18, Int32.not_le.mp c_18]; done))

set_option maxHeartbeats 4000000 in
set_option maxRecDepth 100000 in
theorem c_X3_clear (l : Launch) (D : va_G) (cI cZ cR : ClassId) (a an : Nat) (z : Int32) (f : Nat → Int32) (sz : Nat) : Met l yX3_clear wsX3_clear ({ frames := 0, cells := 0, slots := 0, locals := 0 }) (PcW D cI cZ cR [.ref a] [(a, .inr (3, [.int z, .ref an])), (an, .inl (cI, 200, .inl f))] sz) (va_Qv (fun (u : Int32) => u = 0) (Bw D (fun (u : Int32) => [(a, .inr (3, [.int u, .ref an])), (an, .inl (cI, 200, .inl f))]) (va_A [(a, .inr (3, [.int z, .ref an])), (an, .inl (cI, 200, .inl f))] sz)) (va_A [(a, .inr (3, [.int z, .ref an])), (an, .inl (cI, 200, .inl f))] sz)) 0 0 (va_A [(a, .inr (3, [.int z, .ref an])), (an, .inl (cI, 200, .inl f))] sz) := by
  refine Met.ofW (cc := cX3_clear) (maxL := 1) (ret := none) (by decide) rfl ?_
  intro p e s m args below meth c s₁ B hml hv
  obtain ⟨rfl, hsz, hP, hK, hD0, hN⟩ := hv
  have hx := B.exec
  have hb := B.bytes
  have hr := B.returns
  have hts := atoms_spec (ws := wsX3_clear) B.pre
  have hown : s.vm.findClass RX3 = some m.cls := findClass_of_methodNamed B.named
  have hlocks := B.notSynchronized
  subst hsz
  have hD := hD0.self (sz := s.heap.size)
  generalize hAe : va_A [(a, .inr (3, [.int z, .ref an])), (an, .inl (cI, 200, .inl f))] s.heap.size = A at hD ⊢
  have hA : ∀ q : Nat, s.heap.size ≤ q → A q := fun q h => by rw [← hAe]; exact Or.inr h
  have hS : va_S A s.heap s.heap [] := va_S.rf
  have hP : va_P D vwCl [(a, .inr (3, [.int z, .ref an])), (an, .inl (cI, 200, .inl f))] s.heap := hP
  have hl := lv_entry ([.ref a]) (n := 1) (Nat.le_of_ble_eq_true rfl)
  rw [lg_entry_eq]
  generalize (lg_sl ([.ref a]) ++ List.replicate (1 - (lg_sl ([.ref a])).length) Slot.unset).toArray = ls at hl ⊢
  have hl : lv_has ls 1 [(0, .ref a)] := hl
  refine lv_aload_n hx hb dX3_clear_0 rfl (lv_at hl 0 rfl) ?_
  refine lv_iconst (v := 0) hx hb dX3_clear_1 (by decide) ?_
  refine va_put (D := D) (ci := 3) (v := .int 0) (ty := .int) (C := RX3) (T := TX3) (N := 2) hx hb hts (in_X3_clear_X3) tyX3 tyX3_ok nmX3 hown hK hP hD hS 0 rfl rfl 0 (by decide) (hts (.fieldLink RX3 9 "StepsRoundCircle$Sorted" "size" "I") (by decide +kernel)) (fun _ h9 => h9) rfl (by decide +kernel) rfl rfl (Nat.le_of_ble_eq_true rfl) dX3_clear_2 (fun H locs hP hD hS => ?_)
  have hP : va_P D vwCl [(a, .inr (3, [.int 0, .ref an])), (an, .inl (cI, 200, .inl f))] H := hP
  have hD : va_D A [(a, .inr (3, [.int 0, .ref an])), (an, .inl (cI, 200, .inl f))] := hD
  exact wrV (w1 := (fun (u : Int32) => [(a, .inr (3, [.int u, .ref an])), (an, .inl (cI, 200, .inl f))])) 0 hx hb hr hlocks dX3_clear_5 hS (hP.sub [0, 1] rfl) (hD.sub [0, 1] (by decide) rfl) (by first | exact ⟨rfl, rfl⟩ | rfl | (simp [bi]; done))

set_option maxHeartbeats 4000000 in
set_option maxRecDepth 100000 in
theorem c_X1_has (l : Launch) (D : va_G) (cI cZ cR : ClassId) (a an : Nat) (q nw : Int32) (v : Nat → Int32) (w : Int32) : Met l yX1_has wsX1_has ({ frames := 1, cells := 0, slots := 0, locals := 21 }) (PcR D cI cZ cR [.ref a, .int w] [(a, .inr (1, [.int q, .int nw, .ref an])), (an, .inl (cI, 20, .inl v))]) (k2_QcV (.int (bi (0 ≤ w ∧ w < nw)))) 0 0 (fun _ => False) := by
  refine Met.ofW (cc := cX1_has) (maxL := 2) (ret := (some .boolean)) (by decide) rfl ?_
  intro p e s m args below meth c s₁ B hml hv
  obtain ⟨rfl, hP, hK, hN⟩ := hv
  have hx := B.exec
  have hb := B.bytes
  have hr := B.returns
  have hts := atoms_spec (ws := wsX1_has) B.pre
  have hown : s.vm.findClass RX1 = some m.cls := findClass_of_methodNamed B.named
  have hlocks := B.notSynchronized
  have hP : va_P D vwCl [(a, .inr (1, [.int q, .int nw, .ref an])), (an, .inl (cI, 20, .inl v))] s.heap := hP
  have hl := lv_entry ([.ref a, .int w]) (n := 2) (Nat.le_of_ble_eq_true rfl)
  rw [lg_entry_eq]
  generalize (lg_sl ([.ref a, .int w]) ++ List.replicate (2 - (lg_sl ([.ref a, .int w])).length) Slot.unset).toArray = ls at hl ⊢
  have hl : lv_has ls 2 [(0, .ref a), (1, .int w)] := hl
  refine lv_iload_n hx hb dX1_has_0 rfl (lv_at hl 1 rfl) ?_
  refine lv_aload_n hx hb dX1_has_1 rfl (lv_at hl 0 rfl) ?_
  refine va_get (D := D) (ci := 1) (v := .int nw) (C := RX1) (T := TX1) (N := 3) hx hb hts (in_X1_has_X1) hown hK hP 0 rfl rfl 1 (by decide) (hts (.fieldLink RX1 15 "StepsRoundCircle$Ring" "walkers" "I") (by decide +kernel)) (fun _ h9 => h9) rfl dX1_has_2 ?_
  refine rdSN (As := [.int w, .int nw]) (rest := []) ⟨hx, hb, hml, hown, hts⟩ (c_X5_isBelow l D cI cZ cR w nw ) ⟨va_cnB 2 hts gX1_has_X5_isBelow_n22 rfl rfl rfl (hN.at 1 rfl) (hts (.initialized RX5) (by decide +kernel)) (by decide +kernel) ⟨Nat.le_of_ble_eq_true rfl, Nat.le_of_ble_eq_true rfl⟩, hts (.static yX5_isBelow) (by decide +kernel), trivial⟩ hK hN hP [] rfl rfl hl.1 rfl (Nat.le_of_ble_eq_true rfl) dX1_has_5 ⟨Nat.zero_le _, Nat.zero_le _⟩ ?_
  exact rdZ hx hb hr hlocks dX1_has_8 (by first | rfl | (simp [bi]; done))

set_option maxHeartbeats 4000000 in
set_option maxRecDepth 100000 in
theorem c_X1_value (l : Launch) (D : va_G) (cI cZ cR : ClassId) (a an : Nat) (q nw : Int32) (v : Nat → Int32) (w k : Int32) : Met l yX1_value wsX1_value ({ frames := 1, cells := 0, slots := 0, locals := 21 }) (PcR D cI cZ cR [.ref a, .int w, .int k] [(a, .inr (1, [.int q, .int nw, .ref an])), (an, .inl (cI, 20, .inl v))]) (k2_QcV (.int (rg_val v w k))) 0 0 (fun _ => False) := by
  refine Met.ofW (cc := cX1_value) (maxL := 4) (ret := (some .int)) (by decide) rfl ?_
  intro p e s m args below meth c s₁ B hml hv
  obtain ⟨rfl, hP, hK, hN⟩ := hv
  have hx := B.exec
  have hb := B.bytes
  have hr := B.returns
  have hts := atoms_spec (ws := wsX1_value) B.pre
  have hown : s.vm.findClass RX1 = some m.cls := findClass_of_methodNamed B.named
  have hlocks := B.notSynchronized
  have hP : va_P D vwCl [(a, .inr (1, [.int q, .int nw, .ref an])), (an, .inl (cI, 20, .inl v))] s.heap := hP
  have hl := lv_entry ([.ref a, .int w, .int k]) (n := 4) (Nat.le_of_ble_eq_true rfl)
  rw [lg_entry_eq]
  generalize (lg_sl ([.ref a, .int w, .int k]) ++ List.replicate (4 - (lg_sl ([.ref a, .int w, .int k])).length) Slot.unset).toArray = ls at hl ⊢
  have hl : lv_has ls 4 [(0, .ref a), (1, .int w), (2, .int k)] := hl
  refine lv_iload_n hx hb dX1_value_0 rfl (lv_at hl 1 rfl) ?_
  refine lv_iconst (v := 4) hx hb dX1_value_1 (by decide) ?_
  refine lv_imul hx hb dX1_value_2 ?_
  refine lv_iload_n hx hb dX1_value_3 rfl (lv_at hl 2 rfl) ?_
  refine lv_iadd hx hb dX1_value_4 ?_
  refine lv_istore_n (lv' := [(3, .int ((w * 4) + k)), (0, .ref a), (1, .int w), (2, .int k)]) hx hb dX1_value_5 rfl hl (by decide) rfl (fun ls hl => ?_)
  refine lv_iload_n hx hb dX1_value_6 rfl (lv_at hl 0 rfl) ?_
  refine lv_aload_n hx hb dX1_value_7 rfl (lv_at hl 1 rfl) ?_
  refine va_get (D := D) (ci := 1) (v := .ref an) (C := RX1) (T := TX1) (N := 3) hx hb hts (in_X1_value_X1) hown hK hP 0 rfl rfl 2 (by decide) (hts (.fieldLink RX1 18 "StepsRoundCircle$Ring" "values" "[I") (by decide +kernel)) (fun _ h9 => h9) rfl dX1_value_8 ?_
  refine va_alen (v := 20) hx hb hK hP 1 0 rfl rfl rfl dX1_value_11 ?_
  refine rdSN (As := [.int ((w * 4) + k), .int 20]) (rest := []) ⟨hx, hb, hml, hown, hts⟩ (c_X5_isBelow l D cI cZ cR ((w * 4) + k) 20 ) ⟨va_cnB 2 hts gX1_value_X5_isBelow_n22 rfl rfl rfl (hN.at 1 rfl) (hts (.initialized RX5) (by decide +kernel)) (by decide +kernel) ⟨Nat.le_of_ble_eq_true rfl, Nat.le_of_ble_eq_true rfl⟩, hts (.static yX5_isBelow) (by decide +kernel), trivial⟩ hK hN hP [] rfl rfl hl.1 rfl (Nat.le_of_ble_eq_true rfl) dX1_value_12 ⟨Nat.zero_le _, Nat.zero_le _⟩ ?_
  refine lv_if_eq (tgt := 27) hx hb dX1_value_15 (by decide) (fun c_15 => ?_) (fun c_15 => ?_)
  · skip
    have c_15 := bi_eq0.mp c_15
    refine lv_iconst (v := 0) hx hb dX1_value_27 (by decide) ?_
    exact rdI hx hb hr hlocks dX1_value_28 (by first | rfl | (simp [bi, rg_val, c_15]; done))
  · skip
    have c_15 := bi_ne0.mp c_15
    refine lv_aload_n hx hb dX1_value_18 rfl (lv_at hl 1 rfl) ?_
    refine va_get (D := D) (ci := 1) (v := .ref an) (C := RX1) (T := TX1) (N := 3) hx hb hts (in_X1_value_X1) hown hK hP 0 rfl rfl 2 (by decide) (hts (.fieldLink RX1 18 "StepsRoundCircle$Ring" "values" "[I") (by decide +kernel)) (fun _ h9 => h9) rfl dX1_value_19 ?_
    refine lv_iload_n hx hb dX1_value_22 rfl (lv_at hl 0 rfl) ?_
    refine va_iald hx hb hK hP 1 0 rfl rfl (vp_lit (n := 20) (by decide) c_15) dX1_value_23 ?_
    refine lv_goto (tgt := 28) hx hb dX1_value_24 (by decide) ?_
    exact rdI hx hb hr hlocks dX1_value_28 (by first | rfl | (simp [bi, rg_val, c_15]; done))

set_option maxHeartbeats 4000000 in
set_option maxRecDepth 100000 in
theorem c_X1_setValue (l : Launch) (D : va_G) (cI cZ cR : ClassId) (a an : Nat) (q nw : Int32) (v : Nat → Int32) (w k x : Int32) (sz : Nat) : Met l yX1_setValue wsX1_setValue ({ frames := 1, cells := 0, slots := 0, locals := 21 }) (PcW D cI cZ cR [.ref a, .int w, .int k, .int x] [(a, .inr (1, [.int q, .int nw, .ref an])), (an, .inl (cI, 20, .inl v))] sz) (va_Qv (fun (u : (Nat → Int32)) => u = rg_set v w k x) (Bw D (fun (u : (Nat → Int32)) => [(a, .inr (1, [.int q, .int nw, .ref an])), (an, .inl (cI, 20, .inl u))]) (va_A [(a, .inr (1, [.int q, .int nw, .ref an])), (an, .inl (cI, 20, .inl v))] sz)) (va_A [(a, .inr (1, [.int q, .int nw, .ref an])), (an, .inl (cI, 20, .inl v))] sz)) 0 0 (va_A [(a, .inr (1, [.int q, .int nw, .ref an])), (an, .inl (cI, 20, .inl v))] sz) := by
  refine Met.ofW (cc := cX1_setValue) (maxL := 5) (ret := none) (by decide) rfl ?_
  intro p e s m args below meth c s₁ B hml hv
  obtain ⟨rfl, hsz, hP, hK, hD0, hN⟩ := hv
  have hx := B.exec
  have hb := B.bytes
  have hr := B.returns
  have hts := atoms_spec (ws := wsX1_setValue) B.pre
  have hown : s.vm.findClass RX1 = some m.cls := findClass_of_methodNamed B.named
  have hlocks := B.notSynchronized
  subst hsz
  have hD := hD0.self (sz := s.heap.size)
  generalize hAe : va_A [(a, .inr (1, [.int q, .int nw, .ref an])), (an, .inl (cI, 20, .inl v))] s.heap.size = A at hD ⊢
  have hA : ∀ q : Nat, s.heap.size ≤ q → A q := fun q h => by rw [← hAe]; exact Or.inr h
  have hS : va_S A s.heap s.heap [] := va_S.rf
  have hP : va_P D vwCl [(a, .inr (1, [.int q, .int nw, .ref an])), (an, .inl (cI, 20, .inl v))] s.heap := hP
  have hl := lv_entry ([.ref a, .int w, .int k, .int x]) (n := 5) (Nat.le_of_ble_eq_true rfl)
  rw [lg_entry_eq]
  generalize (lg_sl ([.ref a, .int w, .int k, .int x]) ++ List.replicate (5 - (lg_sl ([.ref a, .int w, .int k, .int x])).length) Slot.unset).toArray = ls at hl ⊢
  have hl : lv_has ls 5 [(0, .ref a), (1, .int w), (2, .int k), (3, .int x)] := hl
  refine lv_iload_n hx hb dX1_setValue_0 rfl (lv_at hl 1 rfl) ?_
  refine lv_iconst (v := 4) hx hb dX1_setValue_1 (by decide) ?_
  refine lv_imul hx hb dX1_setValue_2 ?_
  refine lv_iload_n hx hb dX1_setValue_3 rfl (lv_at hl 2 rfl) ?_
  refine lv_iadd hx hb dX1_setValue_4 ?_
  refine lv_istore (lv' := [(4, .int ((w * 4) + k)), (0, .ref a), (1, .int w), (2, .int k), (3, .int x)]) hx hb dX1_setValue_5 hl (by decide) rfl (fun ls hl => ?_)
  refine lv_iload hx hb dX1_setValue_7 (lv_at hl 0 rfl) ?_
  refine lv_aload_n hx hb dX1_setValue_9 rfl (lv_at hl 1 rfl) ?_
  refine va_get (D := D) (ci := 1) (v := .ref an) (C := RX1) (T := TX1) (N := 3) hx hb hts (in_X1_setValue_X1) hown hK hP 0 rfl rfl 2 (by decide) (hts (.fieldLink RX1 18 "StepsRoundCircle$Ring" "values" "[I") (by decide +kernel)) (fun _ h9 => h9) rfl dX1_setValue_10 ?_
  refine va_alen (v := 20) hx hb hK hP 1 0 rfl rfl rfl dX1_setValue_13 ?_
  refine rdSN (As := [.int ((w * 4) + k), .int 20]) (rest := []) ⟨hx, hb, hml, hown, hts⟩ (c_X5_isBelow l D cI cZ cR ((w * 4) + k) 20 ) ⟨va_cnB 2 hts gX1_setValue_X5_isBelow_n22 rfl rfl rfl (hN.at 1 rfl) (hts (.initialized RX5) (by decide +kernel)) (by decide +kernel) ⟨Nat.le_of_ble_eq_true rfl, Nat.le_of_ble_eq_true rfl⟩, hts (.static yX5_isBelow) (by decide +kernel), trivial⟩ hK hN hP [] rfl rfl hl.1 rfl (Nat.le_of_ble_eq_true rfl) dX1_setValue_14 ⟨Nat.zero_le _, Nat.zero_le _⟩ ?_
  refine lv_if_eq (tgt := 28) hx hb dX1_setValue_17 (by decide) (fun c_17 => ?_) (fun c_17 => ?_)
  · skip
    have c_17 := bi_eq0.mp c_17
    exact wrV (w1 := (fun (u : (Nat → Int32)) => [(a, .inr (1, [.int q, .int nw, .ref an])), (an, .inl (cI, 20, .inl u))])) v hx hb hr hlocks dX1_setValue_28 hS (hP.sub [0, 1] rfl) (hD.sub [0, 1] (by decide) rfl) (by first | exact ⟨rfl, rfl⟩ | rfl | (simp [bi, rg_set, c_17]; done))
  · skip
    have c_17 := bi_ne0.mp c_17
    refine lv_aload_n hx hb dX1_setValue_20 rfl (lv_at hl 1 rfl) ?_
    refine va_get (D := D) (ci := 1) (v := .ref an) (C := RX1) (T := TX1) (N := 3) hx hb hts (in_X1_setValue_X1) hown hK hP 0 rfl rfl 2 (by decide) (hts (.fieldLink RX1 18 "StepsRoundCircle$Ring" "values" "[I") (by decide +kernel)) (fun _ h9 => h9) rfl dX1_setValue_21 ?_
    refine lv_iload hx hb dX1_setValue_24 (lv_at hl 0 rfl) ?_
    refine lv_iload_n hx hb dX1_setValue_26 rfl (lv_at hl 4 rfl) ?_
    refine va_iast hx hb hK hP hD hS 1 0 rfl rfl (vp_lit (n := 20) (by decide) c_17) dX1_setValue_27 (fun H locs hP hD hS => ?_)
    have hP : va_P D vwCl [(a, .inr (1, [.int q, .int nw, .ref an])), (an, .inl (cI, 20, .inl (upd v (((w * 4) + k).toNatClampNeg) x)))] H := hP
    have hD : va_D A [(a, .inr (1, [.int q, .int nw, .ref an])), (an, .inl (cI, 20, .inl (upd v (((w * 4) + k).toNatClampNeg) x)))] := hD
    exact wrV (w1 := (fun (u : (Nat → Int32)) => [(a, .inr (1, [.int q, .int nw, .ref an])), (an, .inl (cI, 20, .inl u))])) (upd v (((w * 4) + k).toNatClampNeg) x) hx hb hr hlocks dX1_setValue_28 hS (hP.sub [0, 1] rfl) (hD.sub [0, 1] (by decide) rfl) (by first | exact ⟨rfl, rfl⟩ | rfl | (simp [bi, rg_set, c_17]; done))

set_option maxHeartbeats 4000000 in
set_option maxRecDepth 100000 in
theorem c_X1_greatest (l : Launch) (D : va_G) (cI cZ cR : ClassId) (a an : Nat) (q nw : Int32) (v : Nat → Int32) (k : Int32) : Met l yX1_greatest wsX1_greatest ({ frames := 0, cells := 0, slots := 0, locals := 0 }) (PcR D cI cZ cR [.ref a, .int k] [(a, .inr (1, [.int q, .int nw, .ref an])), (an, .inl (cI, 20, .inl v))]) (k2_QcV (.int (rg_gr q k))) 0 0 (fun _ => False) := by
  refine Met.ofW (cc := cX1_greatest) (maxL := 2) (ret := (some .int)) (by decide) rfl ?_
  intro p e s m args below meth c s₁ B hml hv
  obtain ⟨rfl, hP, hK, hN⟩ := hv
  have hx := B.exec
  have hb := B.bytes
  have hr := B.returns
  have hts := atoms_spec (ws := wsX1_greatest) B.pre
  have hown : s.vm.findClass RX1 = some m.cls := findClass_of_methodNamed B.named
  have hlocks := B.notSynchronized
  have hP : va_P D vwCl [(a, .inr (1, [.int q, .int nw, .ref an])), (an, .inl (cI, 20, .inl v))] s.heap := hP
  have hl := lv_entry ([.ref a, .int k]) (n := 2) (Nat.le_of_ble_eq_true rfl)
  rw [lg_entry_eq]
  generalize (lg_sl ([.ref a, .int k]) ++ List.replicate (2 - (lg_sl ([.ref a, .int k])).length) Slot.unset).toArray = ls at hl ⊢
  have hl : lv_has ls 2 [(0, .ref a), (1, .int k)] := hl
  refine lv_iload_n hx hb dX1_greatest_0 rfl (lv_at hl 1 rfl) ?_
  by_cases c_1_0 : k = 0
  · skip
    refine lv_lookup (off := 27) (tgt := 28) hx hb dX1_greatest_1 (by decide) (by rw [c_1_0]; rfl) (by decide) ?_
    refine lv_iconst (v := 5) hx hb dX1_greatest_28 (by decide) ?_
    exact rdI hx hb hr hlocks dX1_greatest_29 (by first | rfl | (simp [bi, rg_gr, c_1_0]; done))
  by_cases c_1_3 : k = 3
  · skip
    refine lv_lookup (off := 29) (tgt := 30) hx hb dX1_greatest_1 (by decide) (by rw [c_1_3]; rfl) (by decide) ?_
    refine lv_bipush (v := 9) hx hb dX1_greatest_30 (by decide) ?_
    exact rdI hx hb hr hlocks dX1_greatest_32 (by first | rfl | (simp [bi, rg_gr, c_1_0, c_1_3]; done))
  refine lv_lookup (off := 32) (tgt := 33) hx hb dX1_greatest_1 (by decide) (by rw [show Op.lookupswitch.offset _ _ _ = _ from lv_osw c_1_0 (by decide)]; rw [show Op.lookupswitch.offset _ _ _ = _ from lv_osw c_1_3 (by decide)]; rfl) (by decide) ?_
  refine lv_aload_n hx hb dX1_greatest_33 rfl (lv_at hl 0 rfl) ?_
  refine va_get (D := D) (ci := 1) (v := .int q) (C := RX1) (T := TX1) (N := 3) hx hb hts (in_X1_greatest_X1) hown hK hP 0 rfl rfl 0 (by decide) (hts (.fieldLink RX1 9 "StepsRoundCircle$Ring" "size" "I") (by decide +kernel)) (fun _ h9 => h9) rfl dX1_greatest_34 ?_
  refine lv_iconst (v := 1) hx hb dX1_greatest_37 (by decide) ?_
  refine lv_isub hx hb dX1_greatest_38 ?_
  exact rdI hx hb hr hlocks dX1_greatest_39 (by first | rfl | (simp [bi, rg_gr, c_1_0, c_1_3]; done))

set_option maxHeartbeats 4000000 in
set_option maxRecDepth 100000 in
theorem c_X1_around (l : Launch) (D : va_G) (cI cZ cR : ClassId) (a an : Nat) (q nw : Int32) (v : Nat → Int32) (n : Int64) : Met l yX1_around wsX1_around ({ frames := 1, cells := 0, slots := 0, locals := 23 }) (PcR D cI cZ cR [.ref a, .long n] [(a, .inr (1, [.int q, .int nw, .ref an])), (an, .inl (cI, 20, .inl v))]) (k2_QcV (.int (rg_ar q n))) 0 0 (fun _ => False) := by
  refine Met.ofW (cc := cX1_around) (maxL := 4) (ret := (some .int)) (by decide) rfl ?_
  intro p e s m args below meth c s₁ B hml hv
  obtain ⟨rfl, hP, hK, hN⟩ := hv
  have hx := B.exec
  have hb := B.bytes
  have hr := B.returns
  have hts := atoms_spec (ws := wsX1_around) B.pre
  have hown : s.vm.findClass RX1 = some m.cls := findClass_of_methodNamed B.named
  have hlocks := B.notSynchronized
  have hP : va_P D vwCl [(a, .inr (1, [.int q, .int nw, .ref an])), (an, .inl (cI, 20, .inl v))] s.heap := hP
  have hl := lv_entry ([.ref a, .long n]) (n := 4) (Nat.le_of_ble_eq_true rfl)
  rw [lg_entry_eq]
  generalize (lg_sl ([.ref a, .long n]) ++ List.replicate (4 - (lg_sl ([.ref a, .long n])).length) Slot.unset).toArray = ls at hl ⊢
  have hl : lv_has ls 4 [(0, .ref a), (1, .long n)] := hl
  refine lv_lload_n hx hb dX1_around_0 rfl (lv_at hl 1 rfl) ?_
  refine lv_aload_n hx hb dX1_around_1 rfl (lv_at hl 0 rfl) ?_
  refine va_get (D := D) (ci := 1) (v := .int q) (C := RX1) (T := TX1) (N := 3) hx hb hts (in_X1_around_X1) hown hK hP 0 rfl rfl 0 (by decide) (hts (.fieldLink RX1 9 "StepsRoundCircle$Ring" "size" "I") (by decide +kernel)) (fun _ h9 => h9) rfl dX1_around_2 ?_
  refine lv_i2l hx hb dX1_around_5 rfl ?_
  refine rdSN (As := [.long n, .long q.toInt64]) (rest := []) ⟨hx, hb, hml, hown, hts⟩ (c_X5_rest l D cI cZ cR n q.toInt64 ) ⟨va_cnB 2 hts gX1_around_X5_rest_n38 rfl rfl rfl (hN.at 2 rfl) (hts (.initialized RX5) (by decide +kernel)) (by decide +kernel) ⟨Nat.le_of_ble_eq_true rfl, Nat.le_of_ble_eq_true rfl⟩, hts (.static yX5_rest) (by decide +kernel), trivial⟩ hK hN hP [] rfl rfl hl.1 rfl (Nat.le_of_ble_eq_true rfl) dX1_around_6 ⟨Nat.zero_le _, Nat.zero_le _⟩ ?_
  refine lv_l2i hx hb dX1_around_9 rfl ?_
  refine lv_istore_n (lv' := [(3, .int ((lr n q.toInt64).toInt32)), (0, .ref a), (1, .long n)]) hx hb dX1_around_10 rfl hl (by decide) rfl (fun ls hl => ?_)
  refine lv_iload_n hx hb dX1_around_11 rfl (lv_at hl 0 rfl) ?_
  refine lv_if_ge (tgt := 24) hx hb dX1_around_12 (by decide) (fun c_12 => ?_) (fun c_12 => ?_)
  · skip
    refine lv_iload_n hx hb dX1_around_24 rfl (lv_at hl 0 rfl) ?_
    exact rdI hx hb hr hlocks dX1_around_25 (by first | rfl | (simp [bi, rg_ar, c_12, Int32.not_lt.mpr c_12]; done))
  · skip
    refine lv_iload_n hx hb dX1_around_15 rfl (lv_at hl 0 rfl) ?_
    refine lv_aload_n hx hb dX1_around_16 rfl (lv_at hl 1 rfl) ?_
    refine va_get (D := D) (ci := 1) (v := .int q) (C := RX1) (T := TX1) (N := 3) hx hb hts (in_X1_around_X1) hown hK hP 0 rfl rfl 0 (by decide) (hts (.fieldLink RX1 9 "StepsRoundCircle$Ring" "size" "I") (by decide +kernel)) (fun _ h9 => h9) rfl dX1_around_17 ?_
    refine lv_iadd hx hb dX1_around_20 ?_
    refine lv_goto (tgt := 25) hx hb dX1_around_21 (by decide) ?_
    exact rdI hx hb hr hlocks dX1_around_25 (by first | rfl | (simp [bi, rg_ar, c_12, Int32.not_le.mp c_12]; done))

set_option maxHeartbeats 4000000 in
set_option maxRecDepth 100000 in
theorem c_X1_placeBy (l : Launch) (D : va_G) (cI cZ cR : ClassId) (a an : Nat) (q nw : Int32) (v : Nat → Int32) (kd w : Int32) (k : Int64) : Met l yX1_placeBy wsX1_placeBy ({ frames := 2, cells := 0, slots := 0, locals := 46 }) (PcR D cI cZ cR [.ref a, .int kd, .int w, .long k] [(a, .inr (1, [.int q, .int nw, .ref an])), (an, .inl (cI, 20, .inl v))]) (k2_QcV (.int (rg_pb q v kd w k))) 0 0 (fun _ => False) := by
  refine Met.ofW (cc := cX1_placeBy) (maxL := 11) (ret := (some .int)) (by decide) rfl ?_
  intro p e s m args below meth c s₁ B hml hv
  obtain ⟨rfl, hP, hK, hN⟩ := hv
  have hx := B.exec
  have hb := B.bytes
  have hr := B.returns
  have hts := atoms_spec (ws := wsX1_placeBy) B.pre
  have hown : s.vm.findClass RX1 = some m.cls := findClass_of_methodNamed B.named
  have hlocks := B.notSynchronized
  have hP : va_P D vwCl [(a, .inr (1, [.int q, .int nw, .ref an])), (an, .inl (cI, 20, .inl v))] s.heap := hP
  have hl := lv_entry ([.ref a, .int kd, .int w, .long k]) (n := 11) (Nat.le_of_ble_eq_true rfl)
  rw [lg_entry_eq]
  generalize (lg_sl ([.ref a, .int kd, .int w, .long k]) ++ List.replicate (11 - (lg_sl ([.ref a, .int kd, .int w, .long k])).length) Slot.unset).toArray = ls at hl ⊢
  have hl : lv_has ls 11 [(0, .ref a), (1, .int kd), (2, .int w), (3, .long k)] := hl
  refine lv_aload_n hx hb dX1_placeBy_0 rfl (lv_at hl 0 rfl) ?_
  refine lv_iload_n hx hb dX1_placeBy_1 rfl (lv_at hl 2 rfl) ?_
  refine lv_iconst (v := 1) hx hb dX1_placeBy_2 (by decide) ?_
  refine rdV (As := [.int w, .int 1]) (rest := []) ⟨hx, hb, hml, hown, hts⟩ (c_X1_value l D cI cZ cR a an q nw v w 1 ) (cwV 2 hts gX1_placeBy_X1_value rfl rfl rfl (by decide +kernel) ⟨Nat.le_of_ble_eq_true rfl, Nat.le_of_ble_eq_true rfl⟩) hK hN hP 0 1 rfl rfl rfl [0, 1] rfl rfl hl.1 rfl (Nat.le_of_ble_eq_true rfl) dX1_placeBy_3 ⟨Nat.zero_le _, Nat.zero_le _⟩ ?_
  refine lv_i2l hx hb dX1_placeBy_6 rfl ?_
  refine lv_lstore (lv' := [(5, .long ((rg_val v w 1).toInt64)), (0, .ref a), (1, .int kd), (2, .int w), (3, .long k)]) hx hb dX1_placeBy_7 hl (by decide) rfl (fun ls hl => ?_)
  refine lv_aload_n hx hb dX1_placeBy_9 rfl (lv_at hl 1 rfl) ?_
  refine lv_iload_n hx hb dX1_placeBy_10 rfl (lv_at hl 3 rfl) ?_
  refine lv_iconst (v := 2) hx hb dX1_placeBy_11 (by decide) ?_
  refine rdV (As := [.int w, .int 2]) (rest := []) ⟨hx, hb, hml, hown, hts⟩ (c_X1_value l D cI cZ cR a an q nw v w 2 ) (cwV 2 hts gX1_placeBy_X1_value rfl rfl rfl (by decide +kernel) ⟨Nat.le_of_ble_eq_true rfl, Nat.le_of_ble_eq_true rfl⟩) hK hN hP 0 1 rfl rfl rfl [0, 1] rfl rfl hl.1 rfl (Nat.le_of_ble_eq_true rfl) dX1_placeBy_12 ⟨Nat.zero_le _, Nat.zero_le _⟩ ?_
  refine lv_i2l hx hb dX1_placeBy_15 rfl ?_
  refine lv_lstore (lv' := [(7, .long ((rg_val v w 2).toInt64)), (5, .long ((rg_val v w 1).toInt64)), (0, .ref a), (1, .int kd), (2, .int w), (3, .long k)]) hx hb dX1_placeBy_16 hl (by decide) rfl (fun ls hl => ?_)
  refine lv_aload_n hx hb dX1_placeBy_18 rfl (lv_at hl 2 rfl) ?_
  refine lv_iload_n hx hb dX1_placeBy_19 rfl (lv_at hl 4 rfl) ?_
  refine lv_iconst (v := 3) hx hb dX1_placeBy_20 (by decide) ?_
  refine rdV (As := [.int w, .int 3]) (rest := []) ⟨hx, hb, hml, hown, hts⟩ (c_X1_value l D cI cZ cR a an q nw v w 3 ) (cwV 2 hts gX1_placeBy_X1_value rfl rfl rfl (by decide +kernel) ⟨Nat.le_of_ble_eq_true rfl, Nat.le_of_ble_eq_true rfl⟩) hK hN hP 0 1 rfl rfl rfl [0, 1] rfl rfl hl.1 rfl (Nat.le_of_ble_eq_true rfl) dX1_placeBy_21 ⟨Nat.zero_le _, Nat.zero_le _⟩ ?_
  refine lv_i2l hx hb dX1_placeBy_24 rfl ?_
  refine lv_lstore (lv' := [(9, .long ((rg_val v w 3).toInt64)), (7, .long ((rg_val v w 2).toInt64)), (5, .long ((rg_val v w 1).toInt64)), (0, .ref a), (1, .int kd), (2, .int w), (3, .long k)]) hx hb dX1_placeBy_25 hl (by decide) rfl (fun ls hl => ?_)
  refine lv_iload_n hx hb dX1_placeBy_27 rfl (lv_at hl 4 rfl) ?_
  by_cases c_28_1 : kd = 1
  · skip
    refine lv_tableIn (off := 36) (tgt := 64) hx hb dX1_placeBy_28 (by rw [c_28_1]; decide) (by rw [c_28_1]; decide) (by rw [c_28_1]; rfl) (by decide) ?_
    refine lv_aload_n hx hb dX1_placeBy_64 rfl (lv_at hl 3 rfl) ?_
    refine lv_lload hx hb dX1_placeBy_65 (lv_at hl 1 rfl) ?_
    refine lv_lload_n hx hb dX1_placeBy_67 rfl (lv_at hl 6 rfl) ?_
    refine lv_lload_n hx hb dX1_placeBy_68 rfl (lv_at hl 6 rfl) ?_
    refine lv_lmul hx hb dX1_placeBy_69 ?_
    refine lv_lload hx hb dX1_placeBy_70 (lv_at hl 2 rfl) ?_
    refine lv_lmul hx hb dX1_placeBy_72 ?_
    refine lv_ladd hx hb dX1_placeBy_73 ?_
    refine rdV (As := [.long (((rg_val v w 2).toInt64) + ((k * k) * ((rg_val v w 1).toInt64)))]) (rest := []) ⟨hx, hb, hml, hown, hts⟩ (c_X1_around l D cI cZ cR a an q nw v (((rg_val v w 2).toInt64) + ((k * k) * ((rg_val v w 1).toInt64))) ) (cwV 1 hts gX1_placeBy_X1_around rfl rfl rfl (by decide +kernel) ⟨Nat.le_of_ble_eq_true rfl, Nat.le_of_ble_eq_true rfl⟩) hK hN hP 0 1 rfl rfl rfl [0, 1] rfl rfl hl.1 rfl (Nat.le_of_ble_eq_true rfl) dX1_placeBy_74 ⟨Nat.zero_le _, Nat.zero_le _⟩ ?_
    exact rdI hx hb hr hlocks dX1_placeBy_77 (by first | rfl | (simp [bi, rg_pb, c_28_1]; done))
  by_cases c_28_2 : kd = 2
  · skip
    refine lv_tableIn (off := 50) (tgt := 78) hx hb dX1_placeBy_28 (by rw [c_28_2]; decide) (by rw [c_28_2]; decide) (by rw [c_28_2]; rfl) (by decide) ?_
    refine lv_aload_n hx hb dX1_placeBy_78 rfl (lv_at hl 3 rfl) ?_
    refine lv_lload hx hb dX1_placeBy_79 (lv_at hl 1 rfl) ?_
    refine lv_lload_n hx hb dX1_placeBy_81 rfl (lv_at hl 6 rfl) ?_
    refine lv_lload hx hb dX1_placeBy_82 (lv_at hl 2 rfl) ?_
    refine lv_lmul hx hb dX1_placeBy_84 ?_
    refine lv_lsub hx hb dX1_placeBy_85 ?_
    refine rdV (As := [.long (((rg_val v w 2).toInt64) - (k * ((rg_val v w 1).toInt64)))]) (rest := []) ⟨hx, hb, hml, hown, hts⟩ (c_X1_around l D cI cZ cR a an q nw v (((rg_val v w 2).toInt64) - (k * ((rg_val v w 1).toInt64))) ) (cwV 1 hts gX1_placeBy_X1_around rfl rfl rfl (by decide +kernel) ⟨Nat.le_of_ble_eq_true rfl, Nat.le_of_ble_eq_true rfl⟩) hK hN hP 0 1 rfl rfl rfl [0, 1] rfl rfl hl.1 rfl (Nat.le_of_ble_eq_true rfl) dX1_placeBy_86 ⟨Nat.zero_le _, Nat.zero_le _⟩ ?_
    exact rdI hx hb hr hlocks dX1_placeBy_89 (by first | rfl | (simp [bi, rg_pb, c_28_1, c_28_2]; done))
  by_cases c_28_3 : kd = 3
  · skip
    refine lv_tableIn (off := 62) (tgt := 90) hx hb dX1_placeBy_28 (by rw [c_28_3]; decide) (by rw [c_28_3]; decide) (by rw [c_28_3]; rfl) (by decide) ?_
    refine lv_aload_n hx hb dX1_placeBy_90 rfl (lv_at hl 3 rfl) ?_
    refine lv_lload hx hb dX1_placeBy_91 (lv_at hl 1 rfl) ?_
    refine lv_lload_n hx hb dX1_placeBy_93 rfl (lv_at hl 6 rfl) ?_
    refine lv_lload_n hx hb dX1_placeBy_94 rfl (lv_at hl 6 rfl) ?_
    refine lv_lload hx hb dX1_placeBy_95 (lv_at hl 0 rfl) ?_
    refine lv_lconst (v := 1) hx hb dX1_placeBy_97 (by decide) ?_
    refine lv_ladd hx hb dX1_placeBy_98 ?_
    refine rdSN (As := [.long k, .long (((rg_val v w 3).toInt64) + 1)]) (rest := [.long k, .long ((rg_val v w 2).toInt64), .ref a]) ⟨hx, hb, hml, hown, hts⟩ (c_X5_quotient l D cI cZ cR k (((rg_val v w 3).toInt64) + 1) ) ⟨va_cnB 2 hts gX1_placeBy_X5_quotient_n50 rfl rfl rfl (hN.at 3 rfl) (hts (.initialized RX5) (by decide +kernel)) (by decide +kernel) ⟨Nat.le_of_ble_eq_true rfl, Nat.le_of_ble_eq_true rfl⟩, hts (.static yX5_quotient) (by decide +kernel), trivial⟩ hK hN hP [] rfl rfl hl.1 rfl (Nat.le_of_ble_eq_true rfl) dX1_placeBy_99 ⟨Nat.zero_le _, Nat.zero_le _⟩ ?_
    refine lv_ladd hx hb dX1_placeBy_102 ?_
    refine lv_lload hx hb dX1_placeBy_103 (lv_at hl 2 rfl) ?_
    refine lv_lmul hx hb dX1_placeBy_105 ?_
    refine lv_ladd hx hb dX1_placeBy_106 ?_
    refine rdV (As := [.long (((rg_val v w 2).toInt64) + ((k + (lq k (((rg_val v w 3).toInt64) + 1))) * ((rg_val v w 1).toInt64)))]) (rest := []) ⟨hx, hb, hml, hown, hts⟩ (c_X1_around l D cI cZ cR a an q nw v (((rg_val v w 2).toInt64) + ((k + (lq k (((rg_val v w 3).toInt64) + 1))) * ((rg_val v w 1).toInt64))) ) (cwV 1 hts gX1_placeBy_X1_around rfl rfl rfl (by decide +kernel) ⟨Nat.le_of_ble_eq_true rfl, Nat.le_of_ble_eq_true rfl⟩) hK hN hP 0 1 rfl rfl rfl [0, 1] rfl rfl hl.1 rfl (Nat.le_of_ble_eq_true rfl) dX1_placeBy_107 ⟨Nat.zero_le _, Nat.zero_le _⟩ ?_
    exact rdI hx hb hr hlocks dX1_placeBy_110 (by first | rfl | (simp [bi, rg_pb, c_28_1, c_28_2, c_28_3]; done))
  by_cases c_28_4 : kd = 4
  · skip
    refine lv_tableIn (off := 83) (tgt := 111) hx hb dX1_placeBy_28 (by rw [c_28_4]; decide) (by rw [c_28_4]; decide) (by rw [c_28_4]; rfl) (by decide) ?_
    refine lv_aload_n hx hb dX1_placeBy_111 rfl (lv_at hl 3 rfl) ?_
    refine lv_lload_n hx hb dX1_placeBy_112 rfl (lv_at hl 6 rfl) ?_
    refine lv_ldc2 (v := 2) hx hb hown (hts (.constantLong RX1 53 2) (by decide +kernel)) dX1_placeBy_113 ?_
    refine lv_lrem hx hb dX1_placeBy_116 (by decide) ?_
    refine lv_lconst (v := 0) hx hb dX1_placeBy_117 (by decide) ?_
    refine W.lcmp hx hb dX1_placeBy_118 ?_
    refine lv_if_ne (tgt := 136) hx hb dX1_placeBy_119 (by decide) (fun c_119 => ?_) (fun c_119 => ?_)
    · skip
      have c_119 := mt (lg_cmp_eq _ _).mpr c_119
      refine lv_lload hx hb dX1_placeBy_136 (lv_at hl 1 rfl) ?_
      refine lv_lload_n hx hb dX1_placeBy_138 rfl (lv_at hl 6 rfl) ?_
      refine lv_lconst (v := 1) hx hb dX1_placeBy_139 (by decide) ?_
      refine lv_ladd hx hb dX1_placeBy_140 ?_
      refine lv_ldc2 (v := 2) hx hb hown (hts (.constantLong RX1 53 2) (by decide +kernel)) dX1_placeBy_141 ?_
      refine lv_ldiv hx hb dX1_placeBy_144 (by decide) ?_
      refine lv_lload hx hb dX1_placeBy_145 (lv_at hl 2 rfl) ?_
      refine lv_lmul hx hb dX1_placeBy_147 ?_
      refine lv_ladd hx hb dX1_placeBy_148 ?_
      refine rdV (As := [.long (((rg_val v w 2).toInt64) + (((k + 1) / 2) * ((rg_val v w 1).toInt64)))]) (rest := []) ⟨hx, hb, hml, hown, hts⟩ (c_X1_around l D cI cZ cR a an q nw v (((rg_val v w 2).toInt64) + (((k + 1) / 2) * ((rg_val v w 1).toInt64))) ) (cwV 1 hts gX1_placeBy_X1_around rfl rfl rfl (by decide +kernel) ⟨Nat.le_of_ble_eq_true rfl, Nat.le_of_ble_eq_true rfl⟩) hK hN hP 0 1 rfl rfl rfl [0, 1] rfl rfl hl.1 rfl (Nat.le_of_ble_eq_true rfl) dX1_placeBy_149 ⟨Nat.zero_le _, Nat.zero_le _⟩ ?_
      exact rdI hx hb hr hlocks dX1_placeBy_152 (by first | rfl | (simp [bi, rg_pb, c_28_1, c_28_2, c_28_3, c_28_4, c_119]; done))
    · skip
      have c_119 := (lg_cmp_eq _ _).mp c_119
      refine lv_lload hx hb dX1_placeBy_122 (lv_at hl 1 rfl) ?_
      refine lv_lload_n hx hb dX1_placeBy_124 rfl (lv_at hl 6 rfl) ?_
      refine lv_ldc2 (v := 2) hx hb hown (hts (.constantLong RX1 53 2) (by decide +kernel)) dX1_placeBy_125 ?_
      refine lv_ldiv hx hb dX1_placeBy_128 (by decide) ?_
      refine lv_lload hx hb dX1_placeBy_129 (lv_at hl 2 rfl) ?_
      refine lv_lmul hx hb dX1_placeBy_131 ?_
      refine lv_lsub hx hb dX1_placeBy_132 ?_
      refine lv_goto (tgt := 149) hx hb dX1_placeBy_133 (by decide) ?_
      refine rdV (As := [.long (((rg_val v w 2).toInt64) - ((k / 2) * ((rg_val v w 1).toInt64)))]) (rest := []) ⟨hx, hb, hml, hown, hts⟩ (c_X1_around l D cI cZ cR a an q nw v (((rg_val v w 2).toInt64) - ((k / 2) * ((rg_val v w 1).toInt64))) ) (cwV 1 hts gX1_placeBy_X1_around rfl rfl rfl (by decide +kernel) ⟨Nat.le_of_ble_eq_true rfl, Nat.le_of_ble_eq_true rfl⟩) hK hN hP 0 1 rfl rfl rfl [0, 1] rfl rfl hl.1 rfl (Nat.le_of_ble_eq_true rfl) dX1_placeBy_149 ⟨Nat.zero_le _, Nat.zero_le _⟩ ?_
      exact rdI hx hb hr hlocks dX1_placeBy_152 (by first | rfl | (simp [bi, rg_pb, c_28_1, c_28_2, c_28_3, c_28_4, c_119]; done))
  by_cases c_28_5 : kd = 5
  · skip
    refine lv_tableIn (off := 125) (tgt := 153) hx hb dX1_placeBy_28 (by rw [c_28_5]; decide) (by rw [c_28_5]; decide) (by rw [c_28_5]; rfl) (by decide) ?_
    refine lv_aload_n hx hb dX1_placeBy_153 rfl (lv_at hl 3 rfl) ?_
    refine lv_lload hx hb dX1_placeBy_154 (lv_at hl 1 rfl) ?_
    refine lv_lload_n hx hb dX1_placeBy_156 rfl (lv_at hl 6 rfl) ?_
    refine lv_lload_n hx hb dX1_placeBy_157 rfl (lv_at hl 6 rfl) ?_
    refine lv_lmul hx hb dX1_placeBy_158 ?_
    refine lv_lload hx hb dX1_placeBy_159 (lv_at hl 2 rfl) ?_
    refine lv_lmul hx hb dX1_placeBy_161 ?_
    refine lv_ladd hx hb dX1_placeBy_162 ?_
    refine lv_lload hx hb dX1_placeBy_163 (lv_at hl 0 rfl) ?_
    refine lv_lload_n hx hb dX1_placeBy_165 rfl (lv_at hl 6 rfl) ?_
    refine lv_lmul hx hb dX1_placeBy_166 ?_
    refine lv_ladd hx hb dX1_placeBy_167 ?_
    refine rdV (As := [.long ((((rg_val v w 2).toInt64) + ((k * k) * ((rg_val v w 1).toInt64))) + (((rg_val v w 3).toInt64) * k))]) (rest := []) ⟨hx, hb, hml, hown, hts⟩ (c_X1_around l D cI cZ cR a an q nw v ((((rg_val v w 2).toInt64) + ((k * k) * ((rg_val v w 1).toInt64))) + (((rg_val v w 3).toInt64) * k)) ) (cwV 1 hts gX1_placeBy_X1_around rfl rfl rfl (by decide +kernel) ⟨Nat.le_of_ble_eq_true rfl, Nat.le_of_ble_eq_true rfl⟩) hK hN hP 0 1 rfl rfl rfl [0, 1] rfl rfl hl.1 rfl (Nat.le_of_ble_eq_true rfl) dX1_placeBy_168 ⟨Nat.zero_le _, Nat.zero_le _⟩ ?_
    exact rdI hx hb hr hlocks dX1_placeBy_171 (by first | rfl | (simp [bi, rg_pb, c_28_1, c_28_2, c_28_3, c_28_4, c_28_5]; done))
  by_cases co_28 : kd.toInt < 1 ∨ 5 < kd.toInt
  · skip
    refine lv_tableOut (tgt := 172) hx hb dX1_placeBy_28 co_28 (by decide) ?_
    refine lv_aload_n hx hb dX1_placeBy_172 rfl (lv_at hl 3 rfl) ?_
    refine lv_lload hx hb dX1_placeBy_173 (lv_at hl 1 rfl) ?_
    refine lv_lload_n hx hb dX1_placeBy_175 rfl (lv_at hl 6 rfl) ?_
    refine lv_lload hx hb dX1_placeBy_176 (lv_at hl 2 rfl) ?_
    refine lv_lmul hx hb dX1_placeBy_178 ?_
    refine lv_ladd hx hb dX1_placeBy_179 ?_
    refine rdV (As := [.long (((rg_val v w 2).toInt64) + (k * ((rg_val v w 1).toInt64)))]) (rest := []) ⟨hx, hb, hml, hown, hts⟩ (c_X1_around l D cI cZ cR a an q nw v (((rg_val v w 2).toInt64) + (k * ((rg_val v w 1).toInt64))) ) (cwV 1 hts gX1_placeBy_X1_around rfl rfl rfl (by decide +kernel) ⟨Nat.le_of_ble_eq_true rfl, Nat.le_of_ble_eq_true rfl⟩) hK hN hP 0 1 rfl rfl rfl [0, 1] rfl rfl hl.1 rfl (Nat.le_of_ble_eq_true rfl) dX1_placeBy_180 ⟨Nat.zero_le _, Nat.zero_le _⟩ ?_
    exact rdI hx hb hr hlocks dX1_placeBy_183 (by first | rfl | (simp [bi, rg_pb, c_28_1, c_28_2, c_28_3, c_28_4, c_28_5]; done))
  exact False.elim (by have q1 := lv_neT c_28_1 (show (1 : Int32).toInt = 1 by decide); have q2 := lv_neT c_28_2 (show (2 : Int32).toInt = 2 by decide); have q3 := lv_neT c_28_3 (show (3 : Int32).toInt = 3 by decide); have q4 := lv_neT c_28_4 (show (4 : Int32).toInt = 4 by decide); have q5 := lv_neT c_28_5 (show (5 : Int32).toInt = 5 by decide); omega)

set_option maxHeartbeats 4000000 in
set_option maxRecDepth 100000 in
theorem c_X1_placeOf (l : Launch) (D : va_G) (cI cZ cR : ClassId) (a an : Nat) (q nw : Int32) (v : Nat → Int32) (w k : Int32) : Met l yX1_placeOf wsX1_placeOf ({ frames := 3, cells := 0, slots := 0, locals := 76 }) (PcR D cI cZ cR [.ref a, .int w, .int k] [(a, .inr (1, [.int q, .int nw, .ref an])), (an, .inl (cI, 20, .inl v))]) (k2_QcV (.int (rg_pb q v (rg_val v w 0) w k.toInt64))) 0 0 (fun _ => False) := by
  refine Met.ofW (cc := cX1_placeOf) (maxL := 3) (ret := (some .int)) (by decide) rfl ?_
  intro p e s m args below meth c s₁ B hml hv
  obtain ⟨rfl, hP, hK, hN⟩ := hv
  have hx := B.exec
  have hb := B.bytes
  have hr := B.returns
  have hts := atoms_spec (ws := wsX1_placeOf) B.pre
  have hown : s.vm.findClass RX1 = some m.cls := findClass_of_methodNamed B.named
  have hlocks := B.notSynchronized
  have hP : va_P D vwCl [(a, .inr (1, [.int q, .int nw, .ref an])), (an, .inl (cI, 20, .inl v))] s.heap := hP
  have hl := lv_entry ([.ref a, .int w, .int k]) (n := 3) (Nat.le_of_ble_eq_true rfl)
  rw [lg_entry_eq]
  generalize (lg_sl ([.ref a, .int w, .int k]) ++ List.replicate (3 - (lg_sl ([.ref a, .int w, .int k])).length) Slot.unset).toArray = ls at hl ⊢
  have hl : lv_has ls 3 [(0, .ref a), (1, .int w), (2, .int k)] := hl
  refine lv_aload_n hx hb dX1_placeOf_0 rfl (lv_at hl 0 rfl) ?_
  refine lv_aload_n hx hb dX1_placeOf_1 rfl (lv_at hl 0 rfl) ?_
  refine lv_iload_n hx hb dX1_placeOf_2 rfl (lv_at hl 1 rfl) ?_
  refine lv_iconst (v := 0) hx hb dX1_placeOf_3 (by decide) ?_
  refine rdV (As := [.int w, .int 0]) (rest := [.ref a]) ⟨hx, hb, hml, hown, hts⟩ (c_X1_value l D cI cZ cR a an q nw v w 0 ) (cwV 2 hts gX1_placeOf_X1_value rfl rfl rfl (by decide +kernel) ⟨Nat.le_of_ble_eq_true rfl, Nat.le_of_ble_eq_true rfl⟩) hK hN hP 0 1 rfl rfl rfl [0, 1] rfl rfl hl.1 rfl (Nat.le_of_ble_eq_true rfl) dX1_placeOf_4 ⟨Nat.zero_le _, Nat.zero_le _⟩ ?_
  refine lv_iload_n hx hb dX1_placeOf_7 rfl (lv_at hl 1 rfl) ?_
  refine lv_iload_n hx hb dX1_placeOf_8 rfl (lv_at hl 2 rfl) ?_
  refine lv_i2l hx hb dX1_placeOf_9 rfl ?_
  refine rdV (As := [.int (rg_val v w 0), .int w, .long k.toInt64]) (rest := []) ⟨hx, hb, hml, hown, hts⟩ (c_X1_placeBy l D cI cZ cR a an q nw v (rg_val v w 0) w k.toInt64 ) (cwV 3 hts gX1_placeOf_X1_placeBy rfl rfl rfl (by decide +kernel) ⟨Nat.le_of_ble_eq_true rfl, Nat.le_of_ble_eq_true rfl⟩) hK hN hP 0 1 rfl rfl rfl [0, 1] rfl rfl hl.1 rfl (Nat.le_of_ble_eq_true rfl) dX1_placeOf_10 ⟨Nat.zero_le _, Nat.zero_le _⟩ ?_
  exact rdI hx hb hr hlocks dX1_placeOf_13 (by first | rfl | (simp [bi]; done))

set_option maxHeartbeats 4000000 in
set_option maxRecDepth 100000 in
theorem c_X1_hasRoomFor (l : Launch) (D : va_G) (cI cZ cR : ClassId) (a an : Nat) (q nw : Int32) (v : Nat → Int32) (x0 x1 x2 x3 : Int32) : Met l yX1_hasRoomFor wsX1_hasRoomFor ({ frames := 1, cells := 0, slots := 0, locals := 21 }) (PcR D cI cZ cR [.ref a, .int x0, .int x1, .int x2, .int x3] [(a, .inr (1, [.int q, .int nw, .ref an])), (an, .inl (cI, 20, .inl v))]) (k2_QcV (.int (bi (rg_room q nw x0 x1 x2 x3)))) 0 0 (fun _ => False) := by
  refine Met.ofW (cc := cX1_hasRoomFor) (maxL := 5) (ret := (some .boolean)) (by decide) rfl ?_
  intro p e s m args below meth c s₁ B hml hv
  obtain ⟨rfl, hP, hK, hN⟩ := hv
  have hx := B.exec
  have hb := B.bytes
  have hr := B.returns
  have hts := atoms_spec (ws := wsX1_hasRoomFor) B.pre
  have hown : s.vm.findClass RX1 = some m.cls := findClass_of_methodNamed B.named
  have hlocks := B.notSynchronized
  have hP : va_P D vwCl [(a, .inr (1, [.int q, .int nw, .ref an])), (an, .inl (cI, 20, .inl v))] s.heap := hP
  have hl := lv_entry ([.ref a, .int x0, .int x1, .int x2, .int x3]) (n := 5) (Nat.le_of_ble_eq_true rfl)
  rw [lg_entry_eq]
  generalize (lg_sl ([.ref a, .int x0, .int x1, .int x2, .int x3]) ++ List.replicate (5 - (lg_sl ([.ref a, .int x0, .int x1, .int x2, .int x3])).length) Slot.unset).toArray = ls at hl ⊢
  have hl : lv_has ls 5 [(0, .ref a), (1, .int x0), (2, .int x1), (3, .int x2), (4, .int x3)] := hl
  refine lv_aload_n hx hb dX1_hasRoomFor_0 rfl (lv_at hl 0 rfl) ?_
  refine va_get (D := D) (ci := 1) (v := .int nw) (C := RX1) (T := TX1) (N := 3) hx hb hts (in_X1_hasRoomFor_X1) hown hK hP 0 rfl rfl 1 (by decide) (hts (.fieldLink RX1 15 "StepsRoundCircle$Ring" "walkers" "I") (by decide +kernel)) (fun _ h9 => h9) rfl dX1_hasRoomFor_1 ?_
  refine lv_iconst (v := 5) hx hb dX1_hasRoomFor_4 (by decide) ?_
  refine lv_icmp_ge (tgt := 49) hx hb dX1_hasRoomFor_5 (by decide) (fun c_5 => ?_) (fun c_5 => ?_)
  · skip
    refine lv_iconst (v := 0) hx hb dX1_hasRoomFor_49 (by decide) ?_
    exact rdZ hx hb hr hlocks dX1_hasRoomFor_50 (by first | rfl | (simp [bi, rg_room, c_5, Int32.not_lt.mpr c_5]; done))
  · skip
    refine lv_iload_n hx hb dX1_hasRoomFor_8 rfl (lv_at hl 1 rfl) ?_
    refine lv_aload_n hx hb dX1_hasRoomFor_9 rfl (lv_at hl 0 rfl) ?_
    refine lv_iconst (v := 0) hx hb dX1_hasRoomFor_10 (by decide) ?_
    refine rdV (As := [.int 0]) (rest := [.int x0]) ⟨hx, hb, hml, hown, hts⟩ (c_X1_greatest l D cI cZ cR a an q nw v 0 ) (cwV 1 hts gX1_hasRoomFor_X1_greatest rfl rfl rfl (by decide +kernel) ⟨Nat.le_of_ble_eq_true rfl, Nat.le_of_ble_eq_true rfl⟩) hK hN hP 0 1 rfl rfl rfl [0, 1] rfl rfl hl.1 rfl (Nat.le_of_ble_eq_true rfl) dX1_hasRoomFor_11 ⟨Nat.zero_le _, Nat.zero_le _⟩ ?_
    refine lv_icmp_gt (tgt := 49) hx hb dX1_hasRoomFor_14 (by decide) (fun c_14 => ?_) (fun c_14 => ?_)
    · skip
      refine lv_iconst (v := 0) hx hb dX1_hasRoomFor_49 (by decide) ?_
      exact rdZ hx hb hr hlocks dX1_hasRoomFor_50 (by first | rfl | (simp [bi, rg_room, c_5, Int32.not_le.mp c_5, c_14, Int32.not_le.mpr c_14]; done))
    · skip
      refine lv_iload_n hx hb dX1_hasRoomFor_17 rfl (lv_at hl 2 rfl) ?_
      refine lv_aload_n hx hb dX1_hasRoomFor_18 rfl (lv_at hl 0 rfl) ?_
      refine lv_iconst (v := 1) hx hb dX1_hasRoomFor_19 (by decide) ?_
      refine rdV (As := [.int 1]) (rest := [.int x1]) ⟨hx, hb, hml, hown, hts⟩ (c_X1_greatest l D cI cZ cR a an q nw v 1 ) (cwV 1 hts gX1_hasRoomFor_X1_greatest rfl rfl rfl (by decide +kernel) ⟨Nat.le_of_ble_eq_true rfl, Nat.le_of_ble_eq_true rfl⟩) hK hN hP 0 1 rfl rfl rfl [0, 1] rfl rfl hl.1 rfl (Nat.le_of_ble_eq_true rfl) dX1_hasRoomFor_20 ⟨Nat.zero_le _, Nat.zero_le _⟩ ?_
      refine lv_icmp_gt (tgt := 49) hx hb dX1_hasRoomFor_23 (by decide) (fun c_23 => ?_) (fun c_23 => ?_)
      · skip
        refine lv_iconst (v := 0) hx hb dX1_hasRoomFor_49 (by decide) ?_
        exact rdZ hx hb hr hlocks dX1_hasRoomFor_50 (by first | rfl | (simp [bi, rg_room, c_5, Int32.not_le.mp c_5, c_14, Int32.not_lt.mp c_14, c_23, Int32.not_le.mpr c_23]; done))
      · skip
        refine lv_iload_n hx hb dX1_hasRoomFor_26 rfl (lv_at hl 3 rfl) ?_
        refine lv_aload_n hx hb dX1_hasRoomFor_27 rfl (lv_at hl 0 rfl) ?_
        refine lv_iconst (v := 2) hx hb dX1_hasRoomFor_28 (by decide) ?_
        refine rdV (As := [.int 2]) (rest := [.int x2]) ⟨hx, hb, hml, hown, hts⟩ (c_X1_greatest l D cI cZ cR a an q nw v 2 ) (cwV 1 hts gX1_hasRoomFor_X1_greatest rfl rfl rfl (by decide +kernel) ⟨Nat.le_of_ble_eq_true rfl, Nat.le_of_ble_eq_true rfl⟩) hK hN hP 0 1 rfl rfl rfl [0, 1] rfl rfl hl.1 rfl (Nat.le_of_ble_eq_true rfl) dX1_hasRoomFor_29 ⟨Nat.zero_le _, Nat.zero_le _⟩ ?_
        refine lv_icmp_gt (tgt := 49) hx hb dX1_hasRoomFor_32 (by decide) (fun c_32 => ?_) (fun c_32 => ?_)
        · skip
          refine lv_iconst (v := 0) hx hb dX1_hasRoomFor_49 (by decide) ?_
          exact rdZ hx hb hr hlocks dX1_hasRoomFor_50 (by first | rfl | (simp [bi, rg_room, c_5, Int32.not_le.mp c_5, c_14, Int32.not_lt.mp c_14, c_23, Int32.not_lt.mp c_23, c_32, Int32.not_le.mpr c_32]; done))
        · skip
          refine lv_iload hx hb dX1_hasRoomFor_35 (lv_at hl 4 rfl) ?_
          refine lv_aload_n hx hb dX1_hasRoomFor_37 rfl (lv_at hl 0 rfl) ?_
          refine lv_iconst (v := 3) hx hb dX1_hasRoomFor_38 (by decide) ?_
          refine rdV (As := [.int 3]) (rest := [.int x3]) ⟨hx, hb, hml, hown, hts⟩ (c_X1_greatest l D cI cZ cR a an q nw v 3 ) (cwV 1 hts gX1_hasRoomFor_X1_greatest rfl rfl rfl (by decide +kernel) ⟨Nat.le_of_ble_eq_true rfl, Nat.le_of_ble_eq_true rfl⟩) hK hN hP 0 1 rfl rfl rfl [0, 1] rfl rfl hl.1 rfl (Nat.le_of_ble_eq_true rfl) dX1_hasRoomFor_39 ⟨Nat.zero_le _, Nat.zero_le _⟩ ?_
          refine lv_icmp_gt (tgt := 49) hx hb dX1_hasRoomFor_42 (by decide) (fun c_42 => ?_) (fun c_42 => ?_)
          · skip
            refine lv_iconst (v := 0) hx hb dX1_hasRoomFor_49 (by decide) ?_
            exact rdZ hx hb hr hlocks dX1_hasRoomFor_50 (by first | rfl | (simp [bi, rg_room, c_5, Int32.not_le.mp c_5, c_14, Int32.not_lt.mp c_14, c_23, Int32.not_lt.mp c_23, c_32, Int32.not_lt.mp c_32, c_42, Int32.not_le.mpr c_42]; done))
          · skip
            refine lv_iconst (v := 1) hx hb dX1_hasRoomFor_45 (by decide) ?_
            refine lv_goto (tgt := 50) hx hb dX1_hasRoomFor_46 (by decide) ?_
            exact rdZ hx hb hr hlocks dX1_hasRoomFor_50 (by first | rfl | (simp [bi, rg_room, c_5, Int32.not_le.mp c_5, c_14, Int32.not_lt.mp c_14, c_23, Int32.not_lt.mp c_23, c_32, Int32.not_lt.mp c_32, c_42, Int32.not_lt.mp c_42]; done))

set_option maxHeartbeats 4000000 in
set_option maxRecDepth 100000 in
theorem c_X1_add (l : Launch) (D : va_G) (cI cZ cR : ClassId) (a an : Nat) (q nw : Int32) (v : Nat → Int32) (x0 x1 x2 x3 : Int32) (sz : Nat) : Met l yX1_add wsX1_add ({ frames := 2, cells := 0, slots := 0, locals := 45 }) (PcW D cI cZ cR [.ref a, .int x0, .int x1, .int x2, .int x3] [(a, .inr (1, [.int q, .int nw, .ref an])), (an, .inl (cI, 20, .inl v))] sz) (va_Qv (fun (u : Int32 × (Nat → Int32)) => u.1 = nw + 1 ∧ u.2 = rg_set (rg_set (rg_set (rg_set v nw 0 x0) nw 1 x1) nw 2 x2) nw 3 x3) (Bw D (fun (u : Int32 × (Nat → Int32)) => [(a, .inr (1, [.int q, .int u.1, .ref an])), (an, .inl (cI, 20, .inl u.2))]) (va_A [(a, .inr (1, [.int q, .int nw, .ref an])), (an, .inl (cI, 20, .inl v))] sz)) (va_A [(a, .inr (1, [.int q, .int nw, .ref an])), (an, .inl (cI, 20, .inl v))] sz)) 0 0 (va_A [(a, .inr (1, [.int q, .int nw, .ref an])), (an, .inl (cI, 20, .inl v))] sz) := by
  refine Met.ofW (cc := cX1_add) (maxL := 5) (ret := none) (by decide) rfl ?_
  intro p e s m args below meth c s₁ B hml hv
  obtain ⟨rfl, hsz, hP, hK, hD0, hN⟩ := hv
  have hx := B.exec
  have hb := B.bytes
  have hr := B.returns
  have hts := atoms_spec (ws := wsX1_add) B.pre
  have hown : s.vm.findClass RX1 = some m.cls := findClass_of_methodNamed B.named
  have hlocks := B.notSynchronized
  subst hsz
  have hD := hD0.self (sz := s.heap.size)
  generalize hAe : va_A [(a, .inr (1, [.int q, .int nw, .ref an])), (an, .inl (cI, 20, .inl v))] s.heap.size = A at hD ⊢
  have hA : ∀ q : Nat, s.heap.size ≤ q → A q := fun q h => by rw [← hAe]; exact Or.inr h
  have hS : va_S A s.heap s.heap [] := va_S.rf
  have hP : va_P D vwCl [(a, .inr (1, [.int q, .int nw, .ref an])), (an, .inl (cI, 20, .inl v))] s.heap := hP
  have hl := lv_entry ([.ref a, .int x0, .int x1, .int x2, .int x3]) (n := 5) (Nat.le_of_ble_eq_true rfl)
  rw [lg_entry_eq]
  generalize (lg_sl ([.ref a, .int x0, .int x1, .int x2, .int x3]) ++ List.replicate (5 - (lg_sl ([.ref a, .int x0, .int x1, .int x2, .int x3])).length) Slot.unset).toArray = ls at hl ⊢
  have hl : lv_has ls 5 [(0, .ref a), (1, .int x0), (2, .int x1), (3, .int x2), (4, .int x3)] := hl
  refine lv_aload_n hx hb dX1_add_0 rfl (lv_at hl 0 rfl) ?_
  refine lv_aload_n hx hb dX1_add_1 rfl (lv_at hl 0 rfl) ?_
  refine va_get (D := D) (ci := 1) (v := .int nw) (C := RX1) (T := TX1) (N := 3) hx hb hts (in_X1_add_X1) hown hK hP 0 rfl rfl 1 (by decide) (hts (.fieldLink RX1 15 "StepsRoundCircle$Ring" "walkers" "I") (by decide +kernel)) (fun _ h9 => h9) rfl dX1_add_2 ?_
  refine lv_iconst (v := 0) hx hb dX1_add_5 (by decide) ?_
  refine lv_iload_n hx hb dX1_add_6 rfl (lv_at hl 1 rfl) ?_
  refine wrVv (As := [.int nw, .int 0, .int x0]) (rest := []) (wr := []) (A := A) ⟨hx, hb, hml, hown, hts⟩ (c_X1_setValue l D cI cZ cR a an q nw v nw 0 x0  s.heap.size) (cwV 3 hts gX1_add_X1_setValue rfl rfl rfl (by decide +kernel) ⟨Nat.le_of_ble_eq_true rfl, Nat.le_of_ble_eq_true rfl⟩) hK hN hP hD hS hA 0 1 rfl rfl rfl [0, 1] [] rfl (by decide) rfl (by decide) (by decide) rfl hl.1 rfl (Nat.le_of_ble_eq_true rfl) dX1_add_7 ⟨Nat.zero_le _, Nat.zero_le _⟩ (fun u H locs hw hP hD hS => ?_)
  obtain ⟨v_7, rfl⟩ : ∃ z, z = u := ⟨_, rfl⟩
  try dsimp only at hw
  have q1_7 := hw
  have q1_7 := q1_7.symm
  subst q1_7
  have hP : va_P D vwCl [(a, .inr (1, [.int q, .int nw, .ref an])), (an, .inl (cI, 20, .inl (rg_set v nw 0 x0)))] H := hP.sub [0, 1] rfl
  have hD : va_D A [(a, .inr (1, [.int q, .int nw, .ref an])), (an, .inl (cI, 20, .inl (rg_set v nw 0 x0)))] := hD.sub [0, 1] (by decide) rfl
  refine lv_aload_n hx hb dX1_add_10 rfl (lv_at hl 0 rfl) ?_
  refine lv_aload_n hx hb dX1_add_11 rfl (lv_at hl 0 rfl) ?_
  refine va_get (D := D) (ci := 1) (v := .int nw) (C := RX1) (T := TX1) (N := 3) hx hb hts (in_X1_add_X1) hown hK hP 0 rfl rfl 1 (by decide) (hts (.fieldLink RX1 15 "StepsRoundCircle$Ring" "walkers" "I") (by decide +kernel)) (fun _ h9 => h9) rfl dX1_add_12 ?_
  refine lv_iconst (v := 1) hx hb dX1_add_15 (by decide) ?_
  refine lv_iload_n hx hb dX1_add_16 rfl (lv_at hl 2 rfl) ?_
  refine wrVv (As := [.int nw, .int 1, .int x1]) (rest := []) (wr := []) (A := A) ⟨hx, hb, hml, hown, hts⟩ (c_X1_setValue l D cI cZ cR a an q nw (rg_set v nw 0 x0) nw 1 x1  H.size) (cwV 3 hts gX1_add_X1_setValue rfl rfl rfl (by decide +kernel) ⟨Nat.le_of_ble_eq_true rfl, Nat.le_of_ble_eq_true rfl⟩) hK hN hP hD hS hA 0 1 rfl rfl rfl [0, 1] [] rfl (by decide) rfl (by decide) (by decide) rfl hl.1 rfl (Nat.le_of_ble_eq_true rfl) dX1_add_17 ⟨Nat.zero_le _, Nat.zero_le _⟩ (fun u H locs hw hP hD hS => ?_)
  obtain ⟨v_17, rfl⟩ : ∃ z, z = u := ⟨_, rfl⟩
  try dsimp only at hw
  have q1_17 := hw
  have q1_17 := q1_17.symm
  subst q1_17
  have hP : va_P D vwCl [(a, .inr (1, [.int q, .int nw, .ref an])), (an, .inl (cI, 20, .inl (rg_set (rg_set v nw 0 x0) nw 1 x1)))] H := hP.sub [0, 1] rfl
  have hD : va_D A [(a, .inr (1, [.int q, .int nw, .ref an])), (an, .inl (cI, 20, .inl (rg_set (rg_set v nw 0 x0) nw 1 x1)))] := hD.sub [0, 1] (by decide) rfl
  refine lv_aload_n hx hb dX1_add_20 rfl (lv_at hl 0 rfl) ?_
  refine lv_aload_n hx hb dX1_add_21 rfl (lv_at hl 0 rfl) ?_
  refine va_get (D := D) (ci := 1) (v := .int nw) (C := RX1) (T := TX1) (N := 3) hx hb hts (in_X1_add_X1) hown hK hP 0 rfl rfl 1 (by decide) (hts (.fieldLink RX1 15 "StepsRoundCircle$Ring" "walkers" "I") (by decide +kernel)) (fun _ h9 => h9) rfl dX1_add_22 ?_
  refine lv_iconst (v := 2) hx hb dX1_add_25 (by decide) ?_
  refine lv_iload_n hx hb dX1_add_26 rfl (lv_at hl 3 rfl) ?_
  refine wrVv (As := [.int nw, .int 2, .int x2]) (rest := []) (wr := []) (A := A) ⟨hx, hb, hml, hown, hts⟩ (c_X1_setValue l D cI cZ cR a an q nw (rg_set (rg_set v nw 0 x0) nw 1 x1) nw 2 x2  H.size) (cwV 3 hts gX1_add_X1_setValue rfl rfl rfl (by decide +kernel) ⟨Nat.le_of_ble_eq_true rfl, Nat.le_of_ble_eq_true rfl⟩) hK hN hP hD hS hA 0 1 rfl rfl rfl [0, 1] [] rfl (by decide) rfl (by decide) (by decide) rfl hl.1 rfl (Nat.le_of_ble_eq_true rfl) dX1_add_27 ⟨Nat.zero_le _, Nat.zero_le _⟩ (fun u H locs hw hP hD hS => ?_)
  obtain ⟨v_27, rfl⟩ : ∃ z, z = u := ⟨_, rfl⟩
  try dsimp only at hw
  have q1_27 := hw
  have q1_27 := q1_27.symm
  subst q1_27
  have hP : va_P D vwCl [(a, .inr (1, [.int q, .int nw, .ref an])), (an, .inl (cI, 20, .inl (rg_set (rg_set (rg_set v nw 0 x0) nw 1 x1) nw 2 x2)))] H := hP.sub [0, 1] rfl
  have hD : va_D A [(a, .inr (1, [.int q, .int nw, .ref an])), (an, .inl (cI, 20, .inl (rg_set (rg_set (rg_set v nw 0 x0) nw 1 x1) nw 2 x2)))] := hD.sub [0, 1] (by decide) rfl
  refine lv_aload_n hx hb dX1_add_30 rfl (lv_at hl 0 rfl) ?_
  refine lv_aload_n hx hb dX1_add_31 rfl (lv_at hl 0 rfl) ?_
  refine va_get (D := D) (ci := 1) (v := .int nw) (C := RX1) (T := TX1) (N := 3) hx hb hts (in_X1_add_X1) hown hK hP 0 rfl rfl 1 (by decide) (hts (.fieldLink RX1 15 "StepsRoundCircle$Ring" "walkers" "I") (by decide +kernel)) (fun _ h9 => h9) rfl dX1_add_32 ?_
  refine lv_iconst (v := 3) hx hb dX1_add_35 (by decide) ?_
  refine lv_iload hx hb dX1_add_36 (lv_at hl 4 rfl) ?_
  refine wrVv (As := [.int nw, .int 3, .int x3]) (rest := []) (wr := []) (A := A) ⟨hx, hb, hml, hown, hts⟩ (c_X1_setValue l D cI cZ cR a an q nw (rg_set (rg_set (rg_set v nw 0 x0) nw 1 x1) nw 2 x2) nw 3 x3  H.size) (cwV 3 hts gX1_add_X1_setValue rfl rfl rfl (by decide +kernel) ⟨Nat.le_of_ble_eq_true rfl, Nat.le_of_ble_eq_true rfl⟩) hK hN hP hD hS hA 0 1 rfl rfl rfl [0, 1] [] rfl (by decide) rfl (by decide) (by decide) rfl hl.1 rfl (Nat.le_of_ble_eq_true rfl) dX1_add_38 ⟨Nat.zero_le _, Nat.zero_le _⟩ (fun u H locs hw hP hD hS => ?_)
  obtain ⟨v_38, rfl⟩ : ∃ z, z = u := ⟨_, rfl⟩
  try dsimp only at hw
  have q1_38 := hw
  have q1_38 := q1_38.symm
  subst q1_38
  have hP : va_P D vwCl [(a, .inr (1, [.int q, .int nw, .ref an])), (an, .inl (cI, 20, .inl (rg_set (rg_set (rg_set (rg_set v nw 0 x0) nw 1 x1) nw 2 x2) nw 3 x3)))] H := hP.sub [0, 1] rfl
  have hD : va_D A [(a, .inr (1, [.int q, .int nw, .ref an])), (an, .inl (cI, 20, .inl (rg_set (rg_set (rg_set (rg_set v nw 0 x0) nw 1 x1) nw 2 x2) nw 3 x3)))] := hD.sub [0, 1] (by decide) rfl
  refine lv_aload_n hx hb dX1_add_41 rfl (lv_at hl 0 rfl) ?_
  refine lv_dup hx hb dX1_add_42 rfl ?_
  refine va_get (D := D) (ci := 1) (v := .int nw) (C := RX1) (T := TX1) (N := 3) hx hb hts (in_X1_add_X1) hown hK hP 0 rfl rfl 1 (by decide) (hts (.fieldLink RX1 15 "StepsRoundCircle$Ring" "walkers" "I") (by decide +kernel)) (fun _ h9 => h9) rfl dX1_add_43 ?_
  refine lv_iconst (v := 1) hx hb dX1_add_46 (by decide) ?_
  refine lv_iadd hx hb dX1_add_47 ?_
  refine va_put (D := D) (ci := 1) (v := .int (nw + 1)) (ty := .int) (C := RX1) (T := TX1) (N := 3) hx hb hts (in_X1_add_X1) tyX1 tyX1_ok nmX1 hown hK hP hD hS 0 rfl rfl 1 (by decide) (hts (.fieldLink RX1 15 "StepsRoundCircle$Ring" "walkers" "I") (by decide +kernel)) (fun _ h9 => h9) rfl (by decide +kernel) rfl rfl (Nat.le_of_ble_eq_true rfl) dX1_add_48 (fun H locs hP hD hS => ?_)
  have hP : va_P D vwCl [(a, .inr (1, [.int q, .int (nw + 1), .ref an])), (an, .inl (cI, 20, .inl (rg_set (rg_set (rg_set (rg_set v nw 0 x0) nw 1 x1) nw 2 x2) nw 3 x3)))] H := hP
  have hD : va_D A [(a, .inr (1, [.int q, .int (nw + 1), .ref an])), (an, .inl (cI, 20, .inl (rg_set (rg_set (rg_set (rg_set v nw 0 x0) nw 1 x1) nw 2 x2) nw 3 x3)))] := hD
  exact wrV (w1 := (fun (u : Int32 × (Nat → Int32)) => [(a, .inr (1, [.int q, .int u.1, .ref an])), (an, .inl (cI, 20, .inl u.2))])) ((nw + 1), (rg_set (rg_set (rg_set (rg_set v nw 0 x0) nw 1 x1) nw 2 x2) nw 3 x3)) hx hb hr hlocks dX1_add_51 hS (hP.sub [0, 1] rfl) (hD.sub [0, 1] (by decide) rfl) (by first | exact ⟨rfl, rfl⟩ | rfl | (simp [bi]; done))
