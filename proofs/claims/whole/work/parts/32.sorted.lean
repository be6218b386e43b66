theorem in_X3_add_X3 : ∀ w ∈ wsX30, w ∈ wsX3_add := by decide +kernel
theorem in_X3_has_X3 : ∀ w ∈ wsX30, w ∈ wsX3_has := by decide +kernel
theorem in_X3_howManyBelow_X3 : ∀ w ∈ wsX30, w ∈ wsX3_howManyBelow := by decide +kernel
set_option maxHeartbeats 4000000 in
set_option maxRecDepth 100000 in
theorem c_X3_howManyBelow (l : Launch) (D : va_G) (cI cZ cR : ClassId) (a an : Nat) (z : Int32) (f : Nat → Int32) (L : List Int32) (x : Int32) (hrep : so_rep L z f) (hord : so_ord L) : Met l yX3_howManyBelow wsX3_howManyBelow ({ frames := 1, cells := 0, slots := 0, locals := 21 }) (PcR D cI cZ cR [.ref a, .int x] [(a, .inr (3, [.int z, .ref an])), (an, .inl (cI, 200, .inl f))]) (k2_QcV (.int (nI (so_cnt x L)))) 0 0 (fun _ => False) := by
  refine Met.ofW (cc := cX3_howManyBelow) (maxL := 6) (ret := (some .int)) (by decide) rfl ?_
  intro p e s m args below meth c s₁ B hml hv
  obtain ⟨rfl, hP, hK, hN⟩ := hv
  have hx := B.exec
  have hb := B.bytes
  have hr := B.returns
  have hts := atoms_spec (ws := wsX3_howManyBelow) B.pre
  have hown : s.vm.findClass RX3 = some m.cls := findClass_of_methodNamed B.named
  have hlocks := B.notSynchronized
  have hP : va_P D vwCl [(a, .inr (3, [.int z, .ref an])), (an, .inl (cI, 200, .inl f))] s.heap := hP
  have hl := lv_entry ([.ref a, .int x]) (n := 6) (Nat.le_of_ble_eq_true rfl)
  rw [lg_entry_eq]
  generalize (lg_sl ([.ref a, .int x]) ++ List.replicate (6 - (lg_sl ([.ref a, .int x])).length) Slot.unset).toArray = ls at hl ⊢
  have hl : lv_has ls 6 [(0, .ref a), (1, .int x)] := hl
  have hlen := hrep.2.1
  have hcl := so_cnt_le x L
  refine lv_iconst (v := 0) hx hb dX3_howManyBelow_0 (by decide) ?_
  refine lv_istore_n (lv' := [(2, .int 0), (0, .ref a), (1, .int x)]) hx hb dX3_howManyBelow_1 rfl hl (by decide) rfl (fun ls hl => ?_)
  refine lv_aload_n hx hb dX3_howManyBelow_2 rfl (lv_at hl 1 rfl) ?_
  refine va_get (D := D) (ci := 3) (v := .int z) (C := RX3) (T := TX3) (N := 2) hx hb hts (in_X3_howManyBelow_X3) hown hK hP 0 rfl rfl 0 (by decide) (hts (.fieldLink RX3 9 "StepsRoundCircle$Sorted" "size" "I") (by decide +kernel)) (fun _ h9 => h9) rfl dX3_howManyBelow_3 ?_
  refine lv_topi (fun z_6 hz_6 => ?_)
  have hz_6 : z_6 = nI L.length := hz_6.trans hrep.1
  subst hz_6
  refine lv_istore_n (lv' := [(3, .int (nI L.length)), (2, .int 0), (0, .ref a), (1, .int x)]) hx hb dX3_howManyBelow_6 rfl hl (by decide) rfl (fun ls hl => ?_)
  refine lv_iconst (v := 0) hx hb dX3_howManyBelow_7 (by decide) ?_
  refine lv_istore (lv' := [(4, .int 0), (3, .int (nI L.length)), (2, .int 0), (0, .ref a), (1, .int x)]) hx hb dX3_howManyBelow_8 hl (by decide) rfl (fun ls hl => ?_)
  have loop_10 : ∀ (fuel : Nat), ∀ (lo hi i : Nat), (lo ≤ so_cnt x L) → (so_cnt x L ≤ hi) → (hi ≤ L.length) → (hi + i ≤ lo + 200) → (i ≤ 200) → (201 ≤ i + fuel) → ∀ (y2 : Int32), y2 = nI lo → ∀ (y3 : Int32), y3 = nI hi → ∀ (y4 : Int32), y4 = nI i → ∀ (ls : Array Slot), lv_has ls 6 [(2, .int y2), (3, .int y3), (4, .int y4), (0, .ref a), (1, .int x)] → W p l e (headSpec wsX3_howManyBelow ({ frames := 1, cells := 0, slots := 0, locals := 21 })).room s m ([.ref a, .int x] : List Value).toArray below meth c s.heap [] 0 0 (MQ below (k2_QcV (.int (nI (so_cnt x L)))) ([.ref a, .int x] : List Value).toArray s 0 0 (fun _ => False)) (F0 m 10 ls []) := by
    intro fuel
    induction fuel with
    | zero =>
      intro lo hi i h1 h2 h3 h4 h5 hfu
      exact False.elim (by omega)
    | succ fuel ih_10 =>
      intro lo hi i h1 h2 h3 h4 h5 hfu y2 ey2 y3 ey3 y4 ey4 ls hl
      subst ey2
      subst ey3
      subst ey4
      refine lv_iload hx hb dX3_howManyBelow_10 (lv_at hl 2 rfl) ?_
      refine lv_sipush (v := 200) hx hb dX3_howManyBelow_12 (by decide) ?_
      refine lv_icmp_ge (tgt := 57) hx hb dX3_howManyBelow_15 (by decide) (fun c_15 => ?_) (fun c_15 => ?_)
      · skip
        refine lv_iload_n hx hb dX3_howManyBelow_57 rfl (lv_at hl 0 rfl) ?_
        exact rdI hx hb hr hlocks dX3_howManyBelow_58 (congrArg nI (by have := (nI_leI (a := 200) (b := i) (by omega) (by omega)).mp c_15; omega))
      · skip
        refine lv_iload_n hx hb dX3_howManyBelow_18 rfl (lv_at hl 0 rfl) ?_
        refine lv_iload_n hx hb dX3_howManyBelow_19 rfl (lv_at hl 1 rfl) ?_
        refine lv_icmp_ge (tgt := 57) hx hb dX3_howManyBelow_20 (by decide) (fun c_20 => ?_) (fun c_20 => ?_)
        · skip
          refine lv_iload_n hx hb dX3_howManyBelow_57 rfl (lv_at hl 0 rfl) ?_
          exact rdI hx hb hr hlocks dX3_howManyBelow_58 (congrArg nI (by have := (nI_leI (a := hi) (b := lo) (by omega) (by omega)).mp c_20; omega))
        · skip
          have hlt : lo < hi := by rcases Nat.lt_or_ge lo hi with q | q; exact q; exact absurd (nI_le q (by omega)) c_20
          have hi2 : i < 200 := by rcases Nat.lt_or_ge i 200 with q | q; exact q; exact absurd (nI_le q (by omega)) c_15
          refine lv_iload_n hx hb dX3_howManyBelow_23 rfl (lv_at hl 0 rfl) ?_
          refine lv_iload_n hx hb dX3_howManyBelow_24 rfl (lv_at hl 1 rfl) ?_
          refine lv_iadd hx hb dX3_howManyBelow_25 ?_
          refine lv_iconst (v := 2) hx hb dX3_howManyBelow_26 (by decide) ?_
          refine lv_idiv hx hb dX3_howManyBelow_27 (by decide) ?_
          refine lv_topi (fun z_28 hz_28 => ?_)
          have hz_28 : z_28 = nI ((lo + hi) / 2) := hz_28.trans (show (nI lo + nI hi) / nI 2 = _ by rw [nI_add]; exact pk_div (by omega) (by omega) (by omega))
          subst hz_28
          refine lv_istore (lv' := [(5, .int (nI ((lo + hi) / 2))), (2, .int (nI lo)), (3, .int (nI hi)), (4, .int (nI i)), (0, .ref a), (1, .int x)]) hx hb dX3_howManyBelow_28 hl (by decide) rfl (fun ls hl => ?_)
          refine lv_aload_n hx hb dX3_howManyBelow_30 rfl (lv_at hl 4 rfl) ?_
          refine lv_iload hx hb dX3_howManyBelow_31 (lv_at hl 0 rfl) ?_
          refine rdV (As := [.int (nI ((lo + hi) / 2))]) (rest := []) ⟨hx, hb, hml, hown, hts⟩ (c_X3_get l D cI cZ cR a an z f (nI ((lo + hi) / 2)) ) (cwV 1 hts gX3_howManyBelow_X3_get rfl rfl rfl (by decide +kernel) ⟨Nat.le_of_ble_eq_true rfl, Nat.le_of_ble_eq_true rfl⟩) hK hN hP 0 3 rfl rfl rfl [0, 1] rfl rfl hl.1 rfl (Nat.le_of_ble_eq_true rfl) dX3_howManyBelow_33 ⟨Nat.zero_le _, Nat.zero_le _⟩ ?_
          refine lv_topi (fun z_36 hz_36 => ?_)
          have hz_36 : z_36 = L.getD ((lo + hi) / 2) 0 := hz_36.trans (so_get_rep hrep (by omega))
          subst hz_36
          refine lv_iload_n hx hb dX3_howManyBelow_36 rfl (lv_at hl 5 rfl) ?_
          refine lv_icmp_ge (tgt := 48) hx hb dX3_howManyBelow_37 (by decide) (fun c_37 => ?_) (fun c_37 => ?_)
          · skip
            have hm : so_cnt x L ≤ (lo + hi) / 2 := Nat.not_lt.mp (fun q => absurd ((so_cnt_get x L _ hord (by omega)).mpr q) (Int32.not_lt.mpr c_37))
            refine lv_iload hx hb dX3_howManyBelow_48 (lv_at hl 0 rfl) ?_
            refine lv_istore_n (lv' := [(3, .int (nI ((lo + hi) / 2))), (5, .int (nI ((lo + hi) / 2))), (2, .int (nI lo)), (4, .int (nI i)), (0, .ref a), (1, .int x)]) hx hb dX3_howManyBelow_50 rfl hl (by decide) rfl (fun ls hl => ?_)
            refine lv_iinc (v := (nI i) + 1) (lv' := [(4, .int ((nI i) + 1)), (3, .int (nI ((lo + hi) / 2))), (5, .int (nI ((lo + hi) / 2))), (2, .int (nI lo)), (0, .ref a), (1, .int x)]) hx hb dX3_howManyBelow_51 hl (k := 3) rfl (by rfl) (by decide) rfl (fun ls hl => ?_)
            refine lv_goto (tgt := 10) hx hb dX3_howManyBelow_54 (by decide) ?_
            exact ih_10 lo ((lo + hi) / 2) (i + 1) (by omega) (by omega) (by omega) (by omega) (by omega) (by omega) _ rfl _ rfl _ (by first | rfl | exact nI_1 _ | exact nI_0.symm) ls (lv_sub hl [3, 1, 0, 4, 5] rfl)
          · skip
            have hm : (lo + hi) / 2 < so_cnt x L := (so_cnt_get x L _ hord (by omega)).mp (Int32.not_le.mp c_37)
            refine lv_iload hx hb dX3_howManyBelow_40 (lv_at hl 0 rfl) ?_
            refine lv_iconst (v := 1) hx hb dX3_howManyBelow_42 (by decide) ?_
            refine lv_iadd hx hb dX3_howManyBelow_43 ?_
            refine lv_istore_n (lv' := [(2, .int ((nI ((lo + hi) / 2)) + 1)), (5, .int (nI ((lo + hi) / 2))), (3, .int (nI hi)), (4, .int (nI i)), (0, .ref a), (1, .int x)]) hx hb dX3_howManyBelow_44 rfl hl (by decide) rfl (fun ls hl => ?_)
            refine lv_goto (tgt := 51) hx hb dX3_howManyBelow_45 (by decide) ?_
            refine lv_iinc (v := (nI i) + 1) (lv' := [(4, .int ((nI i) + 1)), (2, .int ((nI ((lo + hi) / 2)) + 1)), (5, .int (nI ((lo + hi) / 2))), (3, .int (nI hi)), (0, .ref a), (1, .int x)]) hx hb dX3_howManyBelow_51 hl (k := 3) rfl (by rfl) (by decide) rfl (fun ls hl => ?_)
            refine lv_goto (tgt := 10) hx hb dX3_howManyBelow_54 (by decide) ?_
            exact ih_10 ((lo + hi) / 2 + 1) hi (i + 1) (by omega) (by omega) (by omega) (by omega) (by omega) (by omega) _ (by first | rfl | exact nI_1 _ | exact nI_0.symm) _ rfl _ (by first | rfl | exact nI_1 _ | exact nI_0.symm) ls (lv_sub hl [1, 3, 0, 4, 5] rfl)
  exact loop_10 201 0 L.length 0 (by omega) (by omega) (by omega) (by omega) (by omega) (by omega) _ (by first | rfl | exact nI_1 _ | exact nI_0.symm) _ rfl _ (by first | rfl | exact nI_1 _ | exact nI_0.symm) ls (lv_sub hl [2, 1, 0, 3, 4] rfl)

set_option maxHeartbeats 4000000 in
set_option maxRecDepth 100000 in
theorem c_X3_has (l : Launch) (D : va_G) (cI cZ cR : ClassId) (a an : Nat) (z : Int32) (f : Nat → Int32) (L : List Int32) (x : Int32) (hrep : so_rep L z f) (hord : so_ord L) : Met l yX3_has wsX3_has ({ frames := 2, cells := 0, slots := 0, locals := 46 }) (PcR D cI cZ cR [.ref a, .int x] [(a, .inr (3, [.int z, .ref an])), (an, .inl (cI, 200, .inl f))]) (k2_QcV (.int (bi (x ∈ L)))) 0 0 (fun _ => False) := by
  refine Met.ofW (cc := cX3_has) (maxL := 3) (ret := (some .boolean)) (by decide) rfl ?_
  intro p e s m args below meth c s₁ B hml hv
  obtain ⟨rfl, hP, hK, hN⟩ := hv
  have hx := B.exec
  have hb := B.bytes
  have hr := B.returns
  have hts := atoms_spec (ws := wsX3_has) B.pre
  have hown : s.vm.findClass RX3 = some m.cls := findClass_of_methodNamed B.named
  have hlocks := B.notSynchronized
  have hP : va_P D vwCl [(a, .inr (3, [.int z, .ref an])), (an, .inl (cI, 200, .inl f))] s.heap := hP
  have hl := lv_entry ([.ref a, .int x]) (n := 3) (Nat.le_of_ble_eq_true rfl)
  rw [lg_entry_eq]
  generalize (lg_sl ([.ref a, .int x]) ++ List.replicate (3 - (lg_sl ([.ref a, .int x])).length) Slot.unset).toArray = ls at hl ⊢
  have hl : lv_has ls 3 [(0, .ref a), (1, .int x)] := hl
  have hlen := hrep.2.1
  have hcl := so_cnt_le x L
  refine lv_aload_n hx hb dX3_has_0 rfl (lv_at hl 0 rfl) ?_
  refine lv_iload_n hx hb dX3_has_1 rfl (lv_at hl 1 rfl) ?_
  refine rdV (As := [.int x]) (rest := []) ⟨hx, hb, hml, hown, hts⟩ (c_X3_howManyBelow l D cI cZ cR a an z f L x hrep hord) (cwV 1 hts gX3_has_X3_howManyBelow rfl rfl rfl (by decide +kernel) ⟨Nat.le_of_ble_eq_true rfl, Nat.le_of_ble_eq_true rfl⟩) hK hN hP 0 3 rfl rfl rfl [0, 1] rfl rfl hl.1 rfl (Nat.le_of_ble_eq_true rfl) dX3_has_2 ⟨Nat.zero_le _, Nat.zero_le _⟩ ?_
  refine lv_istore_n (lv' := [(2, .int (nI (so_cnt x L))), (0, .ref a), (1, .int x)]) hx hb dX3_has_5 rfl hl (by decide) rfl (fun ls hl => ?_)
  refine lv_iload_n hx hb dX3_has_6 rfl (lv_at hl 0 rfl) ?_
  refine lv_aload_n hx hb dX3_has_7 rfl (lv_at hl 1 rfl) ?_
  refine va_get (D := D) (ci := 3) (v := .int z) (C := RX3) (T := TX3) (N := 2) hx hb hts (in_X3_has_X3) hown hK hP 0 rfl rfl 0 (by decide) (hts (.fieldLink RX3 9 "StepsRoundCircle$Sorted" "size" "I") (by decide +kernel)) (fun _ h9 => h9) rfl dX3_has_8 ?_
  refine lv_topi (fun z_11 hz_11 => ?_)
  have hz_11 : z_11 = nI L.length := hz_11.trans hrep.1
  subst hz_11
  refine lv_icmp_ge (tgt := 27) hx hb dX3_has_11 (by decide) (fun c_11 => ?_) (fun c_11 => ?_)
  · skip
    refine lv_iconst (v := 0) hx hb dX3_has_27 (by decide) ?_
    exact rdZ hx hb hr hlocks dX3_has_28 ((bi_f (fun h => by have h8 := ((so_mem x L hord).mp h).1; have h9 := (nI_leI (by omega) (by omega)).mp c_11; omega)).symm)
  · skip
    have hlt : so_cnt x L < L.length := by rcases Nat.lt_or_ge (so_cnt x L) L.length with q | q; exact q; exact absurd (nI_le q (by omega)) c_11
    refine lv_aload_n hx hb dX3_has_14 rfl (lv_at hl 1 rfl) ?_
    refine lv_iload_n hx hb dX3_has_15 rfl (lv_at hl 0 rfl) ?_
    refine rdV (As := [.int (nI (so_cnt x L))]) (rest := []) ⟨hx, hb, hml, hown, hts⟩ (c_X3_get l D cI cZ cR a an z f (nI (so_cnt x L)) ) (cwV 1 hts gX3_has_X3_get rfl rfl rfl (by decide +kernel) ⟨Nat.le_of_ble_eq_true rfl, Nat.le_of_ble_eq_true rfl⟩) hK hN hP 0 3 rfl rfl rfl [0, 1] rfl rfl hl.1 rfl (Nat.le_of_ble_eq_true rfl) dX3_has_16 ⟨Nat.zero_le _, Nat.zero_le _⟩ ?_
    refine lv_topi (fun z_19 hz_19 => ?_)
    have hz_19 : z_19 = L.getD (so_cnt x L) 0 := hz_19.trans (so_get_rep hrep hlt)
    subst hz_19
    refine lv_iload_n hx hb dX3_has_19 rfl (lv_at hl 2 rfl) ?_
    refine lv_icmp_ne (tgt := 27) hx hb dX3_has_20 (by decide) (fun c_20 => ?_) (fun c_20 => ?_)
    · skip
      refine lv_iconst (v := 0) hx hb dX3_has_27 (by decide) ?_
      exact rdZ hx hb hr hlocks dX3_has_28 ((bi_f (fun h => c_20 ((so_mem x L hord).mp h).2)).symm)
    · skip
      refine lv_iconst (v := 1) hx hb dX3_has_23 (by decide) ?_
      refine lv_goto (tgt := 28) hx hb dX3_has_24 (by decide) ?_
      exact rdZ hx hb hr hlocks dX3_has_28 ((bi_t ((so_mem x L hord).mpr ⟨hlt, c_20⟩)).symm)

set_option maxHeartbeats 4000000 in
set_option maxRecDepth 100000 in
theorem c_X3_add (l : Launch) (D : va_G) (cI cZ cR : ClassId) (a an : Nat) (z : Int32) (f : Nat → Int32) (L : List Int32) (x : Int32) (hrep : so_rep L z f) (hord : so_ord L) (hroom : L.length < 200) (sz : Nat) : Met l yX3_add wsX3_add ({ frames := 2, cells := 0, slots := 0, locals := 60 }) (PcW D cI cZ cR [.ref a, .int x] [(a, .inr (3, [.int z, .ref an])), (an, .inl (cI, 200, .inl f))] sz) (va_Qv (fun (u : Int32 × (Nat → Int32)) => so_rep (so_ins x L) u.1 u.2) (Bw D (fun (u : Int32 × (Nat → Int32)) => [(a, .inr (3, [.int u.1, .ref an])), (an, .inl (cI, 200, .inl u.2))]) (va_A [(a, .inr (3, [.int z, .ref an])), (an, .inl (cI, 200, .inl f))] sz)) (va_A [(a, .inr (3, [.int z, .ref an])), (an, .inl (cI, 200, .inl f))] sz)) 0 0 (va_A [(a, .inr (3, [.int z, .ref an])), (an, .inl (cI, 200, .inl f))] sz) := by
  refine Met.ofW (cc := cX3_add) (maxL := 3) (ret := none) (by decide) rfl ?_
  intro p e s m args below meth c s₁ B hml hv
  obtain ⟨rfl, hsz, hP, hK, hD0, hN⟩ := hv
  have hx := B.exec
  have hb := B.bytes
  have hr := B.returns
  have hts := atoms_spec (ws := wsX3_add) B.pre
  have hown : s.vm.findClass RX3 = some m.cls := findClass_of_methodNamed B.named
  have hlocks := B.notSynchronized
  subst hsz
  have hD := hD0.self (sz := s.heap.size)
  generalize hAe : va_A [(a, .inr (3, [.int z, .ref an])), (an, .inl (cI, 200, .inl f))] s.heap.size = A at hD ⊢
  have hA : ∀ q : Nat, s.heap.size ≤ q → A q := fun q h => by rw [← hAe]; exact Or.inr h
  have hS : va_S A s.heap s.heap [] := va_S.rf
  have hP : va_P D vwCl [(a, .inr (3, [.int z, .ref an])), (an, .inl (cI, 200, .inl f))] s.heap := hP
  have hl := lv_entry ([.ref a, .int x]) (n := 3) (Nat.le_of_ble_eq_true rfl)
  rw [lg_entry_eq]
  generalize (lg_sl ([.ref a, .int x]) ++ List.replicate (3 - (lg_sl ([.ref a, .int x])).length) Slot.unset).toArray = ls at hl ⊢
  have hl : lv_has ls 3 [(0, .ref a), (1, .int x)] := hl
  have hcl := so_cnt_le x L
  refine lv_aload_n hx hb dX3_add_0 rfl (lv_at hl 0 rfl) ?_
  refine lv_iload_n hx hb dX3_add_1 rfl (lv_at hl 1 rfl) ?_
  refine rdV (As := [.int x]) (rest := []) ⟨hx, hb, hml, hown, hts⟩ (c_X3_howManyBelow l D cI cZ cR a an z f L x hrep hord) (cwV 1 hts gX3_add_X3_howManyBelow rfl rfl rfl (by decide +kernel) ⟨Nat.le_of_ble_eq_true rfl, Nat.le_of_ble_eq_true rfl⟩) hK hN hP 0 3 rfl rfl rfl [0, 1] rfl rfl hl.1 rfl (Nat.le_of_ble_eq_true rfl) dX3_add_2 ⟨Nat.zero_le _, Nat.zero_le _⟩ ?_
  refine lv_istore_n (lv' := [(2, .int (nI (so_cnt x L))), (0, .ref a), (1, .int x)]) hx hb dX3_add_5 rfl hl (by decide) rfl (fun ls hl => ?_)
  refine lv_aload_n hx hb dX3_add_6 rfl (lv_at hl 1 rfl) ?_
  refine va_get (D := D) (ci := 3) (v := .int z) (C := RX3) (T := TX3) (N := 2) hx hb hts (in_X3_add_X3) hown hK hP 0 rfl rfl 0 (by decide) (hts (.fieldLink RX3 9 "StepsRoundCircle$Sorted" "size" "I") (by decide +kernel)) (fun _ h9 => h9) rfl dX3_add_7 ?_
  refine lv_aload_n hx hb dX3_add_10 rfl (lv_at hl 1 rfl) ?_
  refine va_get (D := D) (ci := 3) (v := .ref an) (C := RX3) (T := TX3) (N := 2) hx hb hts (in_X3_add_X3) hown hK hP 0 rfl rfl 1 (by decide) (hts (.fieldLink RX3 15 "StepsRoundCircle$Sorted" "numbers" "[I") (by decide +kernel)) (fun _ h9 => h9) rfl dX3_add_11 ?_
  refine va_alen (v := 200) hx hb hK hP 1 0 rfl rfl rfl dX3_add_14 ?_
  have hz9 : z = nI L.length := hrep.1
  refine lv_icmp_ge (tgt := 64) hx hb dX3_add_15 (by decide) (fun c_15 => ?_) (fun c_15 => ?_)
  · skip
    exact False.elim (by rw [hz9] at c_15; exact absurd c_15 (nI_ge (b := 200) hroom (by omega)))
  · skip
    refine lv_iload_n hx hb dX3_add_18 rfl (lv_at hl 0 rfl) ?_
    refine lv_aload_n hx hb dX3_add_19 rfl (lv_at hl 1 rfl) ?_
    refine va_get (D := D) (ci := 3) (v := .int z) (C := RX3) (T := TX3) (N := 2) hx hb hts (in_X3_add_X3) hown hK hP 0 rfl rfl 0 (by decide) (hts (.fieldLink RX3 9 "StepsRoundCircle$Sorted" "size" "I") (by decide +kernel)) (fun _ h9 => h9) rfl dX3_add_20 ?_
    refine lv_topi (fun z_23 hz_23 => ?_)
    have hz_23 : z_23 = nI L.length := hz_23.trans hrep.1
    subst hz_23
    refine lv_icmp_gt (tgt := 64) hx hb dX3_add_23 (by decide) (fun c_23 => ?_) (fun c_23 => ?_)
    · skip
      exact False.elim (absurd c_23 (nI_nlt hcl (by omega)))
    · skip
      refine lv_aload_n hx hb dX3_add_26 rfl (lv_at hl 1 rfl) ?_
      refine va_get (D := D) (ci := 3) (v := .ref an) (C := RX3) (T := TX3) (N := 2) hx hb hts (in_X3_add_X3) hown hK hP 0 rfl rfl 1 (by decide) (hts (.fieldLink RX3 15 "StepsRoundCircle$Sorted" "numbers" "[I") (by decide +kernel)) (fun _ h9 => h9) rfl dX3_add_27 ?_
      refine lv_iload_n hx hb dX3_add_30 rfl (lv_at hl 0 rfl) ?_
      refine lv_aload_n hx hb dX3_add_31 rfl (lv_at hl 1 rfl) ?_
      refine va_get (D := D) (ci := 3) (v := .ref an) (C := RX3) (T := TX3) (N := 2) hx hb hts (in_X3_add_X3) hown hK hP 0 rfl rfl 1 (by decide) (hts (.fieldLink RX3 15 "StepsRoundCircle$Sorted" "numbers" "[I") (by decide +kernel)) (fun _ h9 => h9) rfl dX3_add_32 ?_
      refine lv_iload_n hx hb dX3_add_35 rfl (lv_at hl 0 rfl) ?_
      refine lv_iconst (v := 1) hx hb dX3_add_36 (by decide) ?_
      refine lv_iadd hx hb dX3_add_37 ?_
      refine lv_aload_n hx hb dX3_add_38 rfl (lv_at hl 1 rfl) ?_
      refine va_get (D := D) (ci := 3) (v := .int z) (C := RX3) (T := TX3) (N := 2) hx hb hts (in_X3_add_X3) hown hK hP 0 rfl rfl 0 (by decide) (hts (.fieldLink RX3 9 "StepsRoundCircle$Sorted" "size" "I") (by decide +kernel)) (fun _ h9 => h9) rfl dX3_add_39 ?_
      refine lv_iload_n hx hb dX3_add_42 rfl (lv_at hl 0 rfl) ?_
      skip
      refine lv_isub hx hb dX3_add_43 ?_
      refine lv_topi (fun z_44 hz_44 => ?_)
      have hz_44 : z_44 = nI (L.length - so_cnt x L) := hz_44.trans (by rw [hrep.1]; exact pk_sub hcl)
      subst hz_44
      refine va_copyi hx hb (hml.trans hl.1.symm) hown (hts (.methodLink RX3 26 arraycopyName) (by decide +kernel)) (hts (.native arraycopyName) (by decide +kernel)) (hts (.static arraycopyName) (by decide +kernel)) (hts (.initialized "java/lang/System") (by decide +kernel)) hK hP hD hS 1 1 0 0 rfl rfl rfl rfl rfl (nI_pos (by omega)) (by rw [nI_1]; exact nI_pos (by omega)) (nI_pos (by omega)) (by rw [nI_clamp (by omega), nI_clamp (by omega)]; omega) (by rw [nI_1, nI_clamp (by omega), nI_clamp (by omega)]; omega) (fun _ _ => rfl) (Nat.le_of_ble_eq_true rfl) (Nat.le_of_ble_eq_true rfl) dX3_add_44 (fun H locs hP hD hS => ?_)
      have hP : va_P D vwCl [(a, .inr (3, [.int z, .ref an])), (an, .inl (cI, 200, .inl (va_cpy f f ((nI (so_cnt x L)).toNatClampNeg) (((nI (so_cnt x L)) + 1).toNatClampNeg) ((nI (L.length - so_cnt x L)).toNatClampNeg))))] H := hP
      have hD : va_D A [(a, .inr (3, [.int z, .ref an])), (an, .inl (cI, 200, .inl (va_cpy f f ((nI (so_cnt x L)).toNatClampNeg) (((nI (so_cnt x L)) + 1).toNatClampNeg) ((nI (L.length - so_cnt x L)).toNatClampNeg))))] := hD
      refine lv_aload_n hx hb dX3_add_47 rfl (lv_at hl 1 rfl) ?_
      refine va_get (D := D) (ci := 3) (v := .ref an) (C := RX3) (T := TX3) (N := 2) hx hb hts (in_X3_add_X3) hown hK hP 0 rfl rfl 1 (by decide) (hts (.fieldLink RX3 15 "StepsRoundCircle$Sorted" "numbers" "[I") (by decide +kernel)) (fun _ h9 => h9) rfl dX3_add_48 ?_
      refine lv_iload_n hx hb dX3_add_51 rfl (lv_at hl 0 rfl) ?_
      refine lv_iload_n hx hb dX3_add_52 rfl (lv_at hl 2 rfl) ?_
      refine va_iast hx hb hK hP hD hS 1 0 rfl rfl (vp_in_nI (by omega) (by omega)) dX3_add_53 (fun H locs hP hD hS => ?_)
      have hP : va_P D vwCl [(a, .inr (3, [.int z, .ref an])), (an, .inl (cI, 200, .inl (upd (va_cpy f f ((nI (so_cnt x L)).toNatClampNeg) (((nI (so_cnt x L)) + 1).toNatClampNeg) ((nI (L.length - so_cnt x L)).toNatClampNeg)) ((nI (so_cnt x L)).toNatClampNeg) x)))] H := hP
      have hD : va_D A [(a, .inr (3, [.int z, .ref an])), (an, .inl (cI, 200, .inl (upd (va_cpy f f ((nI (so_cnt x L)).toNatClampNeg) (((nI (so_cnt x L)) + 1).toNatClampNeg) ((nI (L.length - so_cnt x L)).toNatClampNeg)) ((nI (so_cnt x L)).toNatClampNeg) x)))] := hD
      refine lv_aload_n hx hb dX3_add_54 rfl (lv_at hl 1 rfl) ?_
      refine lv_dup hx hb dX3_add_55 rfl ?_
      refine va_get (D := D) (ci := 3) (v := .int z) (C := RX3) (T := TX3) (N := 2) hx hb hts (in_X3_add_X3) hown hK hP 0 rfl rfl 0 (by decide) (hts (.fieldLink RX3 9 "StepsRoundCircle$Sorted" "size" "I") (by decide +kernel)) (fun _ h9 => h9) rfl dX3_add_56 ?_
      refine lv_iconst (v := 1) hx hb dX3_add_59 (by decide) ?_
      refine lv_iadd hx hb dX3_add_60 ?_
      refine va_put (D := D) (ci := 3) (v := .int (z + 1)) (ty := .int) (C := RX3) (T := TX3) (N := 2) hx hb hts (in_X3_add_X3) tyX3 tyX3_ok nmX3 hown hK hP hD hS 0 rfl rfl 0 (by decide) (hts (.fieldLink RX3 9 "StepsRoundCircle$Sorted" "size" "I") (by decide +kernel)) (fun _ h9 => h9) rfl (by decide +kernel) rfl rfl (Nat.le_of_ble_eq_true rfl) dX3_add_61 (fun H locs hP hD hS => ?_)
      have hP : va_P D vwCl [(a, .inr (3, [.int (z + 1), .ref an])), (an, .inl (cI, 200, .inl (upd (va_cpy f f ((nI (so_cnt x L)).toNatClampNeg) (((nI (so_cnt x L)) + 1).toNatClampNeg) ((nI (L.length - so_cnt x L)).toNatClampNeg)) ((nI (so_cnt x L)).toNatClampNeg) x)))] H := hP
      have hD : va_D A [(a, .inr (3, [.int (z + 1), .ref an])), (an, .inl (cI, 200, .inl (upd (va_cpy f f ((nI (so_cnt x L)).toNatClampNeg) (((nI (so_cnt x L)) + 1).toNatClampNeg) ((nI (L.length - so_cnt x L)).toNatClampNeg)) ((nI (so_cnt x L)).toNatClampNeg) x)))] := hD
      exact wrV (w1 := (fun (u : Int32 × (Nat → Int32)) => [(a, .inr (3, [.int u.1, .ref an])), (an, .inl (cI, 200, .inl u.2))])) ((z + 1), (upd (va_cpy f f ((nI (so_cnt x L)).toNatClampNeg) (((nI (so_cnt x L)) + 1).toNatClampNeg) ((nI (L.length - so_cnt x L)).toNatClampNeg)) ((nI (so_cnt x L)).toNatClampNeg) x)) hx hb hr hlocks dX3_add_64 hS (hP.sub [0, 1] rfl) (hD.sub [0, 1] (by decide) rfl) (so_rep_ins x hrep hroom (so_cnt x L) rfl _ (fun j hj => by rw [nI_1, nI_clamp (n := so_cnt x L) (by omega), nI_clamp (n := so_cnt x L + 1) (by omega), nI_clamp (n := L.length - so_cnt x L) (by omega)]; exact so_shift f x hcl hj))

set_option maxHeartbeats 4000000 in
set_option maxRecDepth 100000 in
theorem c_X3_addOnce (l : Launch) (D : va_G) (cI cZ cR : ClassId) (a an : Nat) (z : Int32) (f : Nat → Int32) (L : List Int32) (x : Int32) (hrep : so_rep L z f) (hord : so_ord L) (hroom : L.length < 200) (sz : Nat) : Met l yX3_addOnce wsX3_addOnce ({ frames := 3, cells := 0, slots := 0, locals := 82 }) (PcW D cI cZ cR [.ref a, .int x] [(a, .inr (3, [.int z, .ref an])), (an, .inl (cI, 200, .inl f))] sz) (va_Qv (fun (u : Int32 × (Nat → Int32)) => so_rep (so_in1 x L) u.1 u.2) (Bw D (fun (u : Int32 × (Nat → Int32)) => [(a, .inr (3, [.int u.1, .ref an])), (an, .inl (cI, 200, .inl u.2))]) (va_A [(a, .inr (3, [.int z, .ref an])), (an, .inl (cI, 200, .inl f))] sz)) (va_A [(a, .inr (3, [.int z, .ref an])), (an, .inl (cI, 200, .inl f))] sz)) 0 0 (va_A [(a, .inr (3, [.int z, .ref an])), (an, .inl (cI, 200, .inl f))] sz) := by
  refine Met.ofW (cc := cX3_addOnce) (maxL := 2) (ret := none) (by decide) rfl ?_
  intro p e s m args below meth c s₁ B hml hv
  obtain ⟨rfl, hsz, hP, hK, hD0, hN⟩ := hv
  have hx := B.exec
  have hb := B.bytes
  have hr := B.returns
  have hts := atoms_spec (ws := wsX3_addOnce) B.pre
  have hown : s.vm.findClass RX3 = some m.cls := findClass_of_methodNamed B.named
  have hlocks := B.notSynchronized
  subst hsz
  have hD := hD0.self (sz := s.heap.size)
  generalize hAe : va_A [(a, .inr (3, [.int z, .ref an])), (an, .inl (cI, 200, .inl f))] s.heap.size = A at hD ⊢
  have hA : ∀ q : Nat, s.heap.size ≤ q → A q := fun q h => by rw [← hAe]; exact Or.inr h
  have hS : va_S A s.heap s.heap [] := va_S.rf
  have hP : va_P D vwCl [(a, .inr (3, [.int z, .ref an])), (an, .inl (cI, 200, .inl f))] s.heap := hP
  have hl := lv_entry ([.ref a, .int x]) (n := 2) (Nat.le_of_ble_eq_true rfl)
  rw [lg_entry_eq]
  generalize (lg_sl ([.ref a, .int x]) ++ List.replicate (2 - (lg_sl ([.ref a, .int x])).length) Slot.unset).toArray = ls at hl ⊢
  have hl : lv_has ls 2 [(0, .ref a), (1, .int x)] := hl
  refine lv_aload_n hx hb dX3_addOnce_0 rfl (lv_at hl 0 rfl) ?_
  refine lv_iload_n hx hb dX3_addOnce_1 rfl (lv_at hl 1 rfl) ?_
  refine rdV (As := [.int x]) (rest := []) ⟨hx, hb, hml, hown, hts⟩ (c_X3_has l D cI cZ cR a an z f L x hrep hord) (cwV 1 hts gX3_addOnce_X3_has rfl rfl rfl (by decide +kernel) ⟨Nat.le_of_ble_eq_true rfl, Nat.le_of_ble_eq_true rfl⟩) hK hN hP 0 3 rfl rfl rfl [0, 1] rfl rfl hl.1 rfl (Nat.le_of_ble_eq_true rfl) dX3_addOnce_2 ⟨Nat.zero_le _, Nat.zero_le _⟩ ?_
  refine lv_if_ne (tgt := 13) hx hb dX3_addOnce_5 (by decide) (fun c_5 => ?_) (fun c_5 => ?_)
  · skip
    have c_5 := bi_ne0.mp c_5
    exact wrV (w1 := (fun (u : Int32 × (Nat → Int32)) => [(a, .inr (3, [.int u.1, .ref an])), (an, .inl (cI, 200, .inl u.2))])) (z, f) hx hb hr hlocks dX3_addOnce_13 hS (hP.sub [0, 1] rfl) (hD.sub [0, 1] (by decide) rfl) (by unfold so_in1; rw [if_pos c_5]; exact hrep)
  · skip
    have c_5 := bi_eq0.mp c_5
    refine lv_aload_n hx hb dX3_addOnce_8 rfl (lv_at hl 0 rfl) ?_
    refine lv_iload_n hx hb dX3_addOnce_9 rfl (lv_at hl 1 rfl) ?_
    refine wrVv (As := [.int x]) (rest := []) (wr := []) (A := A) ⟨hx, hb, hml, hown, hts⟩ (c_X3_add l D cI cZ cR a an z f L x hrep hord hroom s.heap.size) (cwV 1 hts gX3_addOnce_X3_add rfl rfl rfl (by decide +kernel) ⟨Nat.le_of_ble_eq_true rfl, Nat.le_of_ble_eq_true rfl⟩) hK hN hP hD hS hA 0 3 rfl rfl rfl [0, 1] [] rfl (by decide) rfl (by decide) (by decide) rfl hl.1 rfl (Nat.le_of_ble_eq_true rfl) dX3_addOnce_10 ⟨Nat.zero_le _, Nat.zero_le _⟩ (fun u H locs hw hP hD hS => ?_)
    obtain ⟨z_10, f_10⟩ := u
    try dsimp only at hw
    have h1_10 := hw
    have hP : va_P D vwCl [(a, .inr (3, [.int z_10, .ref an])), (an, .inl (cI, 200, .inl f_10))] H := hP.sub [0, 1] rfl
    have hD : va_D A [(a, .inr (3, [.int z_10, .ref an])), (an, .inl (cI, 200, .inl f_10))] := hD.sub [0, 1] (by decide) rfl
    exact wrV (w1 := (fun (u : Int32 × (Nat → Int32)) => [(a, .inr (3, [.int u.1, .ref an])), (an, .inl (cI, 200, .inl u.2))])) (z_10, f_10) hx hb hr hlocks dX3_addOnce_13 hS (hP.sub [0, 1] rfl) (hD.sub [0, 1] (by decide) rfl) (by unfold so_in1; rw [if_neg c_5]; exact h1_10)
