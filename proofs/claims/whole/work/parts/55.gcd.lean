theorem in_X5_odds_X1 : ∀ w ∈ wsX10, w ∈ wsX5_odds := by decide +kernel
theorem in_X5_odds_X3 : ∀ w ∈ wsX30, w ∈ wsX5_odds := by decide +kernel
theorem in_X5_odds_X5 : ∀ w ∈ wsX50, w ∈ wsX5_odds := by decide +kernel
theorem in_X6_odds_X6 : ∀ w ∈ wsX60, w ∈ wsX6_odds := by decide +kernel
set_option maxHeartbeats 4000000 in
set_option maxRecDepth 100000 in
theorem c_X5_greatestCommon (l : Launch) (D : va_G) (cI cZ cR : ClassId) (a9 b9 : Nat) (ha : a9 < 1099511627776) (hb9 : b9 < 1099511627776) : Met l yX5_greatestCommon wsX5_greatestCommon ({ frames := 0, cells := 0, slots := 0, locals := 0 }) (PcR D cI cZ cR [.long (lN a9), .long (lN b9)] []) (k2_QcV (.long (lN (Nat.gcd a9 b9)))) 0 0 (fun _ => False) := by
  refine Met.ofW (cc := cX5_greatestCommon) (maxL := 11) (ret := (some .long)) (by decide) rfl ?_
  intro p e s m args below meth c s₁ B hml hv
  obtain ⟨rfl, hP, hK, hN⟩ := hv
  have hx := B.exec
  have hb := B.bytes
  have hr := B.returns
  have hts := atoms_spec (ws := wsX5_greatestCommon) B.pre
  have hown : s.vm.findClass RX5 = some m.cls := findClass_of_methodNamed B.named
  have hlocks := B.notSynchronized
  have hP : va_P D vwCl [] s.heap := hP
  have hl := lv_entry ([.long (lN a9), .long (lN b9)]) (n := 11) (Nat.le_of_ble_eq_true rfl)
  rw [lg_entry_eq]
  generalize (lg_sl ([.long (lN a9), .long (lN b9)]) ++ List.replicate (11 - (lg_sl ([.long (lN a9), .long (lN b9)])).length) Slot.unset).toArray = ls at hl ⊢
  have hl : lv_has ls 11 [(0, .long (lN a9)), (2, .long (lN b9))] := hl
  refine lv_lload_n hx hb dX5_greatestCommon_0 rfl (lv_at hl 0 rfl) ?_
  refine lv_lstore (lv' := [(4, .long (lN a9)), (0, .long (lN a9)), (2, .long (lN b9))]) hx hb dX5_greatestCommon_1 hl (by decide) rfl (fun ls hl => ?_)
  refine lv_lload_n hx hb dX5_greatestCommon_3 rfl (lv_at hl 2 rfl) ?_
  refine lv_lstore (lv' := [(6, .long (lN b9)), (4, .long (lN a9)), (0, .long (lN a9)), (2, .long (lN b9))]) hx hb dX5_greatestCommon_4 hl (by decide) rfl (fun ls hl => ?_)
  refine lv_iconst (v := 0) hx hb dX5_greatestCommon_6 (by decide) ?_
  refine lv_istore (lv' := [(8, .int 0), (6, .long (lN b9)), (4, .long (lN a9)), (0, .long (lN a9)), (2, .long (lN b9))]) hx hb dX5_greatestCommon_7 hl (by decide) rfl (fun ls hl => ?_)
  have loop_9 : ∀ (fuel : Nat), ∀ (g l9 i ex : Nat), (g < 1099511627776) → (l9 < 1099511627776) → (Nat.gcd g l9 = Nat.gcd a9 b9) → (g * l9 < 2 ^ ex) → (gIn g l9 ex i) → (201 ≤ i + fuel) → ∀ (y4 : Int64), y4 = lN g → ∀ (y6 : Int64), y6 = lN l9 → ∀ (y8 : Int32), y8 = nI i → ∀ (ls : Array Slot), lv_has ls 11 [(4, .long y4), (6, .long y6), (8, .int y8), (0, .long (lN a9)), (2, .long (lN b9))] → W p l e (headSpec wsX5_greatestCommon ({ frames := 0, cells := 0, slots := 0, locals := 0 })).room s m ([.long (lN a9), .long (lN b9)] : List Value).toArray below meth c s.heap [] 0 0 (MQ below (k2_QcV (.long (lN (Nat.gcd a9 b9)))) ([.long (lN a9), .long (lN b9)] : List Value).toArray s 0 0 (fun _ => False)) (F0 m 9 ls []) := by
    intro fuel
    induction fuel with
    | zero =>
      intro g l9 i ex hg hl9 hgc hex hin hfu
      exact False.elim (by rcases hin with h8 | h8 <;> omega)
    | succ fuel ih_9 =>
      intro g l9 i ex hg hl9 hgc hex hin hfu y4 ey4 y6 ey6 y8 ey8 ls hl
      subst ey4
      subst ey6
      subst ey8
      refine lv_iload hx hb dX5_greatestCommon_9 (lv_at hl 2 rfl) ?_
      refine lv_sipush (v := 200) hx hb dX5_greatestCommon_11 (by decide) ?_
      refine lv_icmp_ge (tgt := 45) hx hb dX5_greatestCommon_14 (by decide) (fun c_14 => ?_) (fun c_14 => ?_)
      · skip
        exact False.elim (by have h9 := (nI_leI (a := 200) (b := i) (by omega) (by rcases hin with h8 | h8 <;> omega)).mp c_14; rcases hin with h8 | h8 <;> omega)
      · skip
        have hi91 : i ≤ 91 := by rcases hin with h9 | h9 <;> omega
        refine lv_lload hx hb dX5_greatestCommon_17 (lv_at hl 1 rfl) ?_
        refine lv_lconst (v := 0) hx hb dX5_greatestCommon_19 (by decide) ?_
        refine W.lcmp hx hb dX5_greatestCommon_20 ?_
        refine lv_if_eq (tgt := 45) hx hb dX5_greatestCommon_21 (by decide) (fun c_21 => ?_) (fun c_21 => ?_)
        · skip
          have c_21 := (lg_cmp_eq _ _).mp c_21
          refine lv_lload hx hb dX5_greatestCommon_45 (lv_at hl 0 rfl) ?_
          exact rdL hx hb hr hlocks dX5_greatestCommon_47 (by have h9 := lN_0i (by omega) c_21; rw [h9, Nat.gcd_zero_right] at hgc; rw [hgc])
        · skip
          have c_21 := mt (lg_cmp_eq _ _).mpr c_21
          have hl0 : 0 < l9 := by rcases Nat.eq_zero_or_pos l9 with q9 | q9; exact absurd (by rw [q9]; rfl) c_21; exact q9
          have hm9 : g % l9 < l9 := Nat.mod_lt _ hl0
          obtain ⟨e2, he2, hi2⟩ := gIn_next hl0 hex hin
          refine lv_lload hx hb dX5_greatestCommon_24 (lv_at hl 0 rfl) ?_
          refine lv_lload hx hb dX5_greatestCommon_26 (lv_at hl 1 rfl) ?_
          refine lv_lrem hx hb dX5_greatestCommon_28 (lN_ne0 hl0 (by omega)) ?_
          refine lv_topl (fun z_29 hz_29 => ?_)
          have hz_29 : z_29 = lN (g % l9) := hz_29.trans (pk_lRem (by omega) hl0 (by omega))
          subst hz_29
          refine lv_lstore (lv' := [(9, .long (lN (g % l9))), (4, .long (lN g)), (6, .long (lN l9)), (8, .int (nI i)), (0, .long (lN a9)), (2, .long (lN b9))]) hx hb dX5_greatestCommon_29 hl (by decide) rfl (fun ls hl => ?_)
          refine lv_lload hx hb dX5_greatestCommon_31 (lv_at hl 2 rfl) ?_
          refine lv_lstore (lv' := [(4, .long (lN l9)), (9, .long (lN (g % l9))), (6, .long (lN l9)), (8, .int (nI i)), (0, .long (lN a9)), (2, .long (lN b9))]) hx hb dX5_greatestCommon_33 hl (by decide) rfl (fun ls hl => ?_)
          refine lv_lload hx hb dX5_greatestCommon_35 (lv_at hl 1 rfl) ?_
          refine lv_lstore (lv' := [(6, .long (lN (g % l9))), (4, .long (lN l9)), (9, .long (lN (g % l9))), (8, .int (nI i)), (0, .long (lN a9)), (2, .long (lN b9))]) hx hb dX5_greatestCommon_37 hl (by decide) rfl (fun ls hl => ?_)
          refine lv_iinc (v := (nI i) + 1) (lv' := [(8, .int ((nI i) + 1)), (6, .long (lN (g % l9))), (4, .long (lN l9)), (9, .long (lN (g % l9))), (0, .long (lN a9)), (2, .long (lN b9))]) hx hb dX5_greatestCommon_39 hl (k := 3) rfl (by rfl) (by decide) rfl (fun ls hl => ?_)
          refine lv_goto (tgt := 9) hx hb dX5_greatestCommon_42 (by decide) ?_
          exact ih_9 l9 (g % l9) (i + 1) e2 (by omega) (by omega) (gcd_step.trans hgc) he2 hi2 (by omega) _ rfl _ rfl _ (by first | rfl | exact nI_1 _ | exact nI_0.symm) ls (lv_sub hl [2, 1, 0, 4, 5] rfl)
  exact loop_9 201 a9 b9 0 80 (by omega) (by omega) rfl (Nat.lt_of_lt_of_le (Nat.mul_lt_mul_of_lt_of_lt ha hb9) (by decide)) (Or.inr ⟨rfl, by decide⟩) (by omega) _ rfl _ rfl _ (by first | rfl | exact nI_1 _ | exact nI_0.symm) ls (lv_sub hl [2, 1, 0, 3, 4] rfl)

set_option maxHeartbeats 4000000 in
set_option maxRecDepth 100000 in
theorem c_X5_partOf (l : Launch) (D : va_G) (cI cZ cR : ClassId) (a9 b9 : Nat) (k : Int32) (ha : a9 < 1099511627776) (hb9 : b9 < 1099511627776) (hb0 : 0 < b9) : Met l yX5_partOf wsX5_partOf ({ frames := 1, cells := 0, slots := 0, locals := 30 }) (PcR D cI cZ cR [.long (lN a9), .long (lN b9), .int k] []) (k2_QcV (.long (lN ((if k = 0 then a9 else b9) / Nat.gcd a9 b9)))) 0 0 (fun _ => False) := by
  refine Met.ofW (cc := cX5_partOf) (maxL := 7) (ret := (some .long)) (by decide) rfl ?_
  intro p e s m args below meth c s₁ B hml hv
  obtain ⟨rfl, hP, hK, hN⟩ := hv
  have hx := B.exec
  have hb := B.bytes
  have hr := B.returns
  have hts := atoms_spec (ws := wsX5_partOf) B.pre
  have hown : s.vm.findClass RX5 = some m.cls := findClass_of_methodNamed B.named
  have hlocks := B.notSynchronized
  have hP : va_P D vwCl [] s.heap := hP
  have hl := lv_entry ([.long (lN a9), .long (lN b9), .int k]) (n := 7) (Nat.le_of_ble_eq_true rfl)
  rw [lg_entry_eq]
  generalize (lg_sl ([.long (lN a9), .long (lN b9), .int k]) ++ List.replicate (7 - (lg_sl ([.long (lN a9), .long (lN b9), .int k])).length) Slot.unset).toArray = ls at hl ⊢
  have hl : lv_has ls 7 [(0, .long (lN a9)), (2, .long (lN b9)), (4, .int k)] := hl
  refine lv_lload_n hx hb dX5_partOf_0 rfl (lv_at hl 0 rfl) ?_
  refine lv_lload_n hx hb dX5_partOf_1 rfl (lv_at hl 1 rfl) ?_
  refine rdS (As := [.long (lN a9), .long (lN b9)]) (rest := []) ⟨hx, hb, hml, hown, hts⟩ (c_X5_greatestCommon l D cI cZ cR a9 b9 ha hb9) (va_cwS 2 hts gX5_partOf_X5_greatestCommon rfl rfl rfl (by decide +kernel) ⟨Nat.le_of_ble_eq_true rfl, Nat.le_of_ble_eq_true rfl⟩) hK hN hP [] rfl rfl hl.1 rfl (Nat.le_of_ble_eq_true rfl) dX5_partOf_2 ⟨Nat.zero_le _, Nat.zero_le _⟩ ?_
  refine lv_lstore (lv' := [(5, .long (lN (Nat.gcd a9 b9))), (0, .long (lN a9)), (2, .long (lN b9)), (4, .int k)]) hx hb dX5_partOf_5 hl (by decide) rfl (fun ls hl => ?_)
  refine lv_iload hx hb dX5_partOf_7 (lv_at hl 3 rfl) ?_
  refine lv_if_ne (tgt := 16) hx hb dX5_partOf_9 (by decide) (fun c_9 => ?_) (fun c_9 => ?_)
  · skip
    refine lv_lload_n hx hb dX5_partOf_16 rfl (lv_at hl 2 rfl) ?_
    refine lv_lload hx hb dX5_partOf_17 (lv_at hl 0 rfl) ?_
    refine rdS (As := [.long (lN b9), .long (lN (Nat.gcd a9 b9))]) (rest := []) ⟨hx, hb, hml, hown, hts⟩ (c_X5_quotient l D cI cZ cR (lN b9) (lN (Nat.gcd a9 b9)) ) (va_cwS 2 hts gX5_partOf_X5_quotient rfl rfl rfl (by decide +kernel) ⟨Nat.le_of_ble_eq_true rfl, Nat.le_of_ble_eq_true rfl⟩) hK hN hP [] rfl rfl hl.1 rfl (Nat.le_of_ble_eq_true rfl) dX5_partOf_19 ⟨Nat.zero_le _, Nat.zero_le _⟩ ?_
    have hgp : 0 < Nat.gcd a9 b9 := Nat.gcd_pos_of_pos_right a9 hb0
    have hgl : Nat.gcd a9 b9 ≤ b9 := Nat.gcd_le_right a9 hb0
    exact rdL hx hb hr hlocks dX5_partOf_22 (by unfold lq; rw [if_neg (lN_ne0 hgp (by omega)), if_neg c_9]; exact pk_lDiv (by omega) hgp (by omega))
  · skip
    refine lv_lload_n hx hb dX5_partOf_12 rfl (lv_at hl 1 rfl) ?_
    refine lv_goto (tgt := 17) hx hb dX5_partOf_13 (by decide) ?_
    refine lv_lload hx hb dX5_partOf_17 (lv_at hl 0 rfl) ?_
    refine rdS (As := [.long (lN a9), .long (lN (Nat.gcd a9 b9))]) (rest := []) ⟨hx, hb, hml, hown, hts⟩ (c_X5_quotient l D cI cZ cR (lN a9) (lN (Nat.gcd a9 b9)) ) (va_cwS 2 hts gX5_partOf_X5_quotient rfl rfl rfl (by decide +kernel) ⟨Nat.le_of_ble_eq_true rfl, Nat.le_of_ble_eq_true rfl⟩) hK hN hP [] rfl rfl hl.1 rfl (Nat.le_of_ble_eq_true rfl) dX5_partOf_19 ⟨Nat.zero_le _, Nat.zero_le _⟩ ?_
    have hgp : 0 < Nat.gcd a9 b9 := Nat.gcd_pos_of_pos_right a9 hb0
    have hgl : Nat.gcd a9 b9 ≤ b9 := Nat.gcd_le_right a9 hb0
    exact rdL hx hb hr hlocks dX5_partOf_22 (by unfold lq; rw [if_neg (lN_ne0 hgp (by omega)), if_pos c_9]; exact pk_lDiv (by omega) hgp (by omega))

set_option maxHeartbeats 4000000 in
set_option maxRecDepth 100000 in
theorem c_X6_common (l : Launch) (D : va_G) (cI cZ cR : ClassId) (a9 b9 : Nat) (ha : a9 < 1099511627776) (hb9 : b9 < 1099511627776) : Met l yX6_common wsX6_common ({ frames := 0, cells := 0, slots := 0, locals := 0 }) (PcR D cI cZ cR [.long (lN a9), .long (lN b9)] []) (k2_QcV (.long (lN (Nat.gcd a9 b9)))) 0 0 (fun _ => False) := by
  refine Met.ofW (cc := cX6_common) (maxL := 10) (ret := (some .long)) (by decide) rfl ?_
  intro p e s m args below meth c s₁ B hml hv
  obtain ⟨rfl, hP, hK, hN⟩ := hv
  have hx := B.exec
  have hb := B.bytes
  have hr := B.returns
  have hts := atoms_spec (ws := wsX6_common) B.pre
  have hown : s.vm.findClass RX6 = some m.cls := findClass_of_methodNamed B.named
  have hlocks := B.notSynchronized
  have hP : va_P D vwCl [] s.heap := hP
  have hl := lv_entry ([.long (lN a9), .long (lN b9)]) (n := 10) (Nat.le_of_ble_eq_true rfl)
  rw [lg_entry_eq]
  generalize (lg_sl ([.long (lN a9), .long (lN b9)]) ++ List.replicate (10 - (lg_sl ([.long (lN a9), .long (lN b9)])).length) Slot.unset).toArray = ls at hl ⊢
  have hl : lv_has ls 10 [(0, .long (lN a9)), (2, .long (lN b9))] := hl
  refine lv_lload_n hx hb dX6_common_0 rfl (lv_at hl 0 rfl) ?_
  refine lv_lconst (v := 0) hx hb dX6_common_1 (by decide) ?_
  refine W.lcmp hx hb dX6_common_2 ?_
  refine lv_if_ge (tgt := 11) hx hb dX6_common_3 (by decide) (fun c_3 => ?_) (fun c_3 => ?_)
  · skip
    have c_3 := (lg_cmp_ge _ _).mp c_3
    refine lv_lload_n hx hb dX6_common_11 rfl (lv_at hl 0 rfl) ?_
    refine lv_lstore (lv' := [(4, .long (lN a9)), (0, .long (lN a9)), (2, .long (lN b9))]) hx hb dX6_common_12 hl (by decide) rfl (fun ls hl => ?_)
    refine lv_lload_n hx hb dX6_common_14 rfl (lv_at hl 2 rfl) ?_
    refine lv_lconst (v := 0) hx hb dX6_common_15 (by decide) ?_
    refine W.lcmp hx hb dX6_common_16 ?_
    refine lv_if_ge (tgt := 25) hx hb dX6_common_17 (by decide) (fun c_17 => ?_) (fun c_17 => ?_)
    · skip
      have c_17 := (lg_cmp_ge _ _).mp c_17
      refine lv_lload_n hx hb dX6_common_25 rfl (lv_at hl 2 rfl) ?_
      refine lv_lstore (lv' := [(6, .long (lN b9)), (4, .long (lN a9)), (0, .long (lN a9)), (2, .long (lN b9))]) hx hb dX6_common_26 hl (by decide) rfl (fun ls hl => ?_)
      have loop_28 : ∀ (fuel : Nat), ∀ (g l9 : Nat), (g < 1099511627776) → (l9 < 1099511627776) → (Nat.gcd g l9 = Nat.gcd a9 b9) → (l9 + 1 ≤ fuel) → ∀ (y4 : Int64), y4 = lN g → ∀ (y6 : Int64), y6 = lN l9 → ∀ (ls : Array Slot), lv_has ls 10 [(4, .long y4), (6, .long y6), (0, .long (lN a9)), (2, .long (lN b9))] → W p l e (headSpec wsX6_common ({ frames := 0, cells := 0, slots := 0, locals := 0 })).room s m ([.long (lN a9), .long (lN b9)] : List Value).toArray below meth c s.heap [] 0 0 (MQ below (k2_QcV (.long (lN (Nat.gcd a9 b9)))) ([.long (lN a9), .long (lN b9)] : List Value).toArray s 0 0 (fun _ => False)) (F0 m 28 ls []) := by
        intro fuel
        induction fuel with
        | zero =>
          intro g l9 hg hl9 hgc hfu
          exact False.elim (by omega)
        | succ fuel ih_28 =>
          intro g l9 hg hl9 hgc hfu y4 ey4 y6 ey6 ls hl
          subst ey4
          subst ey6
          refine lv_lload hx hb dX6_common_28 (lv_at hl 1 rfl) ?_
          refine lv_lconst (v := 0) hx hb dX6_common_30 (by decide) ?_
          refine W.lcmp hx hb dX6_common_31 ?_
          refine lv_if_eq (tgt := 53) hx hb dX6_common_32 (by decide) (fun c_32 => ?_) (fun c_32 => ?_)
          · skip
            have c_32 := (lg_cmp_eq _ _).mp c_32
            refine lv_lload hx hb dX6_common_53 (lv_at hl 0 rfl) ?_
            exact rdL hx hb hr hlocks dX6_common_55 (by have h9 := lN_0i (by omega) c_32; rw [h9, Nat.gcd_zero_right] at hgc; rw [hgc])
          · skip
            have c_32 := mt (lg_cmp_eq _ _).mpr c_32
            have hl0 : 0 < l9 := by rcases Nat.eq_zero_or_pos l9 with q9 | q9; exact absurd (by rw [q9]; rfl) c_32; exact q9
            have hm9 : g % l9 < l9 := Nat.mod_lt _ hl0
            refine lv_lload hx hb dX6_common_35 (lv_at hl 0 rfl) ?_
            refine lv_lload hx hb dX6_common_37 (lv_at hl 1 rfl) ?_
            refine lv_lrem hx hb dX6_common_39 (lN_ne0 hl0 (by omega)) ?_
            refine lv_topl (fun z_40 hz_40 => ?_)
            have hz_40 : z_40 = lN (g % l9) := hz_40.trans (pk_lRem (by omega) hl0 (by omega))
            subst hz_40
            refine lv_lstore (lv' := [(8, .long (lN (g % l9))), (4, .long (lN g)), (6, .long (lN l9)), (0, .long (lN a9)), (2, .long (lN b9))]) hx hb dX6_common_40 hl (by decide) rfl (fun ls hl => ?_)
            refine lv_lload hx hb dX6_common_42 (lv_at hl 2 rfl) ?_
            refine lv_lstore (lv' := [(4, .long (lN l9)), (8, .long (lN (g % l9))), (6, .long (lN l9)), (0, .long (lN a9)), (2, .long (lN b9))]) hx hb dX6_common_44 hl (by decide) rfl (fun ls hl => ?_)
            refine lv_lload hx hb dX6_common_46 (lv_at hl 1 rfl) ?_
            refine lv_lstore (lv' := [(6, .long (lN (g % l9))), (4, .long (lN l9)), (8, .long (lN (g % l9))), (0, .long (lN a9)), (2, .long (lN b9))]) hx hb dX6_common_48 hl (by decide) rfl (fun ls hl => ?_)
            refine lv_goto (tgt := 28) hx hb dX6_common_50 (by decide) ?_
            exact ih_28 l9 (g % l9) (by omega) (by omega) (gcd_step.trans hgc) (by omega) _ rfl _ rfl ls (lv_sub hl [1, 0, 3, 4] rfl)
      exact loop_28 (b9 + 1) a9 b9 (by omega) (by omega) rfl (by omega) _ rfl _ rfl ls (lv_sub hl [1, 0, 2, 3] rfl)
    · skip
      have c_17 := mt (lg_cmp_ge _ _).mpr c_17
      exact False.elim (c_17 (lN_nn (by omega)))
  · skip
    have c_3 := mt (lg_cmp_ge _ _).mpr c_3
    exact False.elim (c_3 (lN_nn (by omega)))

set_option maxHeartbeats 4000000 in
set_option maxRecDepth 100000 in
theorem c_X6_part (l : Launch) (D : va_G) (cI cZ cR : ClassId) (a9 b9 : Nat) (k : Int32) (ha : a9 < 1099511627776) (hb9 : b9 < 1099511627776) (hb0 : 0 < b9) : Met l yX6_part wsX6_part ({ frames := 1, cells := 0, slots := 0, locals := 29 }) (PcR D cI cZ cR [.long (lN a9), .long (lN b9), .int k] []) (k2_QcV (.long (lN ((if k = 0 then a9 else b9) / Nat.gcd a9 b9)))) 0 0 (fun _ => False) := by
  refine Met.ofW (cc := cX6_part) (maxL := 7) (ret := (some .long)) (by decide) rfl ?_
  intro p e s m args below meth c s₁ B hml hv
  obtain ⟨rfl, hP, hK, hN⟩ := hv
  have hx := B.exec
  have hb := B.bytes
  have hr := B.returns
  have hts := atoms_spec (ws := wsX6_part) B.pre
  have hown : s.vm.findClass RX6 = some m.cls := findClass_of_methodNamed B.named
  have hlocks := B.notSynchronized
  have hP : va_P D vwCl [] s.heap := hP
  have hl := lv_entry ([.long (lN a9), .long (lN b9), .int k]) (n := 7) (Nat.le_of_ble_eq_true rfl)
  rw [lg_entry_eq]
  generalize (lg_sl ([.long (lN a9), .long (lN b9), .int k]) ++ List.replicate (7 - (lg_sl ([.long (lN a9), .long (lN b9), .int k])).length) Slot.unset).toArray = ls at hl ⊢
  have hl : lv_has ls 7 [(0, .long (lN a9)), (2, .long (lN b9)), (4, .int k)] := hl
  have hgp : 0 < Nat.gcd a9 b9 := Nat.gcd_pos_of_pos_right a9 hb0
  have hgl : Nat.gcd a9 b9 ≤ b9 := Nat.gcd_le_right a9 hb0
  refine lv_lload_n hx hb dX6_part_0 rfl (lv_at hl 0 rfl) ?_
  refine lv_lload_n hx hb dX6_part_1 rfl (lv_at hl 1 rfl) ?_
  refine rdS (As := [.long (lN a9), .long (lN b9)]) (rest := []) ⟨hx, hb, hml, hown, hts⟩ (c_X6_common l D cI cZ cR a9 b9 ha hb9) (va_cwS 2 hts gX6_part_X6_common rfl rfl rfl (by decide +kernel) ⟨Nat.le_of_ble_eq_true rfl, Nat.le_of_ble_eq_true rfl⟩) hK hN hP [] rfl rfl hl.1 rfl (Nat.le_of_ble_eq_true rfl) dX6_part_2 ⟨Nat.zero_le _, Nat.zero_le _⟩ ?_
  refine lv_lstore (lv' := [(5, .long (lN (Nat.gcd a9 b9))), (0, .long (lN a9)), (2, .long (lN b9)), (4, .int k)]) hx hb dX6_part_5 hl (by decide) rfl (fun ls hl => ?_)
  refine lv_iload hx hb dX6_part_7 (lv_at hl 3 rfl) ?_
  refine lv_if_ne (tgt := 19) hx hb dX6_part_9 (by decide) (fun c_9 => ?_) (fun c_9 => ?_)
  · skip
    refine lv_lload_n hx hb dX6_part_19 rfl (lv_at hl 2 rfl) ?_
    refine lv_lload hx hb dX6_part_20 (lv_at hl 0 rfl) ?_
    refine lv_ldiv hx hb dX6_part_22 (lN_ne0 hgp (by omega)) ?_
    exact rdL hx hb hr hlocks dX6_part_23 (by rw [if_neg c_9]; exact pk_lDiv (by omega) hgp (by omega))
  · skip
    refine lv_lload_n hx hb dX6_part_12 rfl (lv_at hl 1 rfl) ?_
    refine lv_lload hx hb dX6_part_13 (lv_at hl 0 rfl) ?_
    refine lv_ldiv hx hb dX6_part_15 (lN_ne0 hgp (by omega)) ?_
    refine lv_goto (tgt := 23) hx hb dX6_part_16 (by decide) ?_
    exact rdL hx hb hr hlocks dX6_part_23 (by rw [if_pos c_9]; exact pk_lDiv (by omega) hgp (by omega))

set_option maxHeartbeats 4000000 in
set_option maxRecDepth 100000 in
theorem c_X5_odds (l : Launch) (D : va_G) (cI cZ cR : ClassId) (x r t im tx ch ro rf pl ot cl : Nat) (hi : Int32) (F : Nat → Int32) (rn : Nat) (q nw : Int32) (v : Nat → Int32) (pn : Nat) (pz : Int32) (pf : Nat → Int32) (w n k : Int32) (hq : okQ q) (sz : Nat) : Met l yX5_odds wsX5_odds ({ frames := 5, cells := 0, slots := 0, locals := 127 }) (PcW D cI cZ cR [.ref x, .int w, .int n, .int k] [(x, .inr (5, [.ref r, .ref t, .ref im, .int hi, .ref tx, .ref ch, .ref ro, .ref rf, .ref pl, .ref ot, .ref cl])), (rf, .inl (cI, 6, .inl F)), (r, .inr (1, [.int q, .int nw, .ref rn])), (rn, .inl (cI, 20, .inl v)), (pl, .inr (3, [.int pz, .ref pn])), (pn, .inl (cI, 200, .inl pf))] sz) (va_Ql (fun (res : Int64) (u : (Nat → Int32) × Int32 × (Nat → Int32)) => res = (if rf_beh nw w n k 2 = 0 then lN ((if k = 0 then (mk (plK q v w) n.toNatClampNeg).length else q.toNatClampNeg) / Nat.gcd (mk (plK q v w) n.toNatClampNeg).length q.toNatClampNeg) else 4000000000000000000 - (rf_beh nw w n k 2).toInt64) ∧ u.1 = (if rf_beh nw w n k 2 = 0 then F else rf_bump F (rf_beh nw w n k 2))) (Bw D (fun (u : (Nat → Int32) × Int32 × (Nat → Int32)) => [(x, .inr (5, [.ref r, .ref t, .ref im, .int hi, .ref tx, .ref ch, .ref ro, .ref rf, .ref pl, .ref ot, .ref cl])), (rf, .inl (cI, 6, .inl u.1)), (r, .inr (1, [.int q, .int nw, .ref rn])), (rn, .inl (cI, 20, .inl v)), (pl, .inr (3, [.int u.2.1, .ref pn])), (pn, .inl (cI, 200, .inl u.2.2))]) (va_A [(x, .inr (5, [.ref r, .ref t, .ref im, .int hi, .ref tx, .ref ch, .ref ro, .ref rf, .ref pl, .ref ot, .ref cl])), (rf, .inl (cI, 6, .inl F)), (r, .inr (1, [.int q, .int nw, .ref rn])), (rn, .inl (cI, 20, .inl v)), (pl, .inr (3, [.int pz, .ref pn])), (pn, .inl (cI, 200, .inl pf))] sz)) (va_A [(x, .inr (5, [.ref r, .ref t, .ref im, .int hi, .ref tx, .ref ch, .ref ro, .ref rf, .ref pl, .ref ot, .ref cl])), (rf, .inl (cI, 6, .inl F)), (r, .inr (1, [.int q, .int nw, .ref rn])), (rn, .inl (cI, 20, .inl v)), (pl, .inr (3, [.int pz, .ref pn])), (pn, .inl (cI, 200, .inl pf))] sz)) 0 0 (va_A [(x, .inr (5, [.ref r, .ref t, .ref im, .int hi, .ref tx, .ref ch, .ref ro, .ref rf, .ref pl, .ref ot, .ref cl])), (rf, .inl (cI, 6, .inl F)), (r, .inr (1, [.int q, .int nw, .ref rn])), (rn, .inl (cI, 20, .inl v)), (pl, .inr (3, [.int pz, .ref pn])), (pn, .inl (cI, 200, .inl pf))] sz) := by
  refine Met.ofW (cc := cX5_odds) (maxL := 5) (ret := (some .long)) (by decide) rfl ?_
  intro p e s m args below meth c s₁ B hml hv
  obtain ⟨rfl, hsz, hP, hK, hD0, hN⟩ := hv
  have hx := B.exec
  have hb := B.bytes
  have hr := B.returns
  have hts := atoms_spec (ws := wsX5_odds) B.pre
  have hown : s.vm.findClass RX5 = some m.cls := findClass_of_methodNamed B.named
  have hlocks := B.notSynchronized
  subst hsz
  have hD := hD0.self (sz := s.heap.size)
  generalize hAe : va_A [(x, .inr (5, [.ref r, .ref t, .ref im, .int hi, .ref tx, .ref ch, .ref ro, .ref rf, .ref pl, .ref ot, .ref cl])), (rf, .inl (cI, 6, .inl F)), (r, .inr (1, [.int q, .int nw, .ref rn])), (rn, .inl (cI, 20, .inl v)), (pl, .inr (3, [.int pz, .ref pn])), (pn, .inl (cI, 200, .inl pf))] s.heap.size = A at hD ⊢
  have hA : ∀ q : Nat, s.heap.size ≤ q → A q := fun q h => by rw [← hAe]; exact Or.inr h
  have hS : va_S A s.heap s.heap [] := va_S.rf
  have hP : va_P D vwCl [(x, .inr (5, [.ref r, .ref t, .ref im, .int hi, .ref tx, .ref ch, .ref ro, .ref rf, .ref pl, .ref ot, .ref cl])), (rf, .inl (cI, 6, .inl F)), (r, .inr (1, [.int q, .int nw, .ref rn])), (rn, .inl (cI, 20, .inl v)), (pl, .inr (3, [.int pz, .ref pn])), (pn, .inl (cI, 200, .inl pf))] s.heap := hP
  have hl := lv_entry ([.ref x, .int w, .int n, .int k]) (n := 5) (Nat.le_of_ble_eq_true rfl)
  rw [lg_entry_eq]
  generalize (lg_sl ([.ref x, .int w, .int n, .int k]) ++ List.replicate (5 - (lg_sl ([.ref x, .int w, .int n, .int k])).length) Slot.unset).toArray = ls at hl ⊢
  have hl : lv_has ls 5 [(0, .ref x), (1, .int w), (2, .int n), (3, .int k)] := hl
  refine lv_aload_n hx hb dX5_odds_0 rfl (lv_at hl 0 rfl) ?_
  refine lv_iload_n hx hb dX5_odds_1 rfl (lv_at hl 1 rfl) ?_
  refine lv_iload_n hx hb dX5_odds_2 rfl (lv_at hl 2 rfl) ?_
  refine lv_iload_n hx hb dX5_odds_3 rfl (lv_at hl 3 rfl) ?_
  refine lv_iconst (v := 2) hx hb dX5_odds_4 (by decide) ?_
  refine rdV (As := [.int w, .int n, .int k, .int 2]) (rest := []) ⟨hx, hb, hml, hown, hts⟩ (c_X5_refusalBehind l D cI cZ cR x r t im tx ch ro rf pl ot cl hi rn q nw v w n k 2 ) (cwV 4 hts gX5_odds_X5_refusalBehind rfl rfl rfl (by decide +kernel) ⟨Nat.le_of_ble_eq_true rfl, Nat.le_of_ble_eq_true rfl⟩) hK hN hP 0 5 rfl rfl rfl [0, 2, 3] rfl rfl hl.1 rfl (Nat.le_of_ble_eq_true rfl) dX5_odds_5 ⟨Nat.zero_le _, Nat.zero_le _⟩ ?_
  refine lv_istore (lv' := [(4, .int (rf_beh nw w n k 2)), (0, .ref x), (1, .int w), (2, .int n), (3, .int k)]) hx hb dX5_odds_8 hl (by decide) rfl (fun ls hl => ?_)
  refine lv_iload hx hb dX5_odds_10 (lv_at hl 0 rfl) ?_
  refine lv_if_eq (tgt := 22) hx hb dX5_odds_12 (by decide) (fun c_12 => ?_) (fun c_12 => ?_)
  · skip
    have hok := rf_beh_ok c_12
    have hn := n200 hok.2.1
    have hM0 := mk_ne (pl := plK q v w) (n := n.toNatClampNeg) (by omega)
    have hqN := okQ_N hq
    refine lv_aload_n hx hb dX5_odds_22 rfl (lv_at hl 1 rfl) ?_
    refine lv_aload_n hx hb dX5_odds_23 rfl (lv_at hl 1 rfl) ?_
    refine va_get (D := D) (ci := 5) (v := .ref pl) (C := RX5) (T := TX5) (N := 11) hx hb hts (in_X5_odds_X5) hown hK hP 0 rfl rfl 8 (by decide) (hts (.fieldLink RX5 53 "StepsRoundCircle" "places" "LStepsRoundCircle$Sorted;") (by decide +kernel)) (fun _ h9 => h9) rfl dX5_odds_24 ?_
    refine lv_iload_n hx hb dX5_odds_27 rfl (lv_at hl 2 rfl) ?_
    refine lv_iload_n hx hb dX5_odds_28 rfl (lv_at hl 3 rfl) ?_
    refine wrVv (As := [.ref pl, .int w, .int n]) (rest := []) (wr := [(rf, .inl (cI, 6, .inl F))]) (A := A) ⟨hx, hb, hml, hown, hts⟩ (c_X5_takeMarks l D cI cZ cR x r t im tx ch ro rf pl ot cl hi rn q nw v pl pn pz pf w n hn.2.1 s.heap.size) (cwV 3 hts gX5_odds_X5_takeMarks rfl rfl rfl (by decide +kernel) ⟨Nat.le_of_ble_eq_true rfl, Nat.le_of_ble_eq_true rfl⟩) hK hN hP hD hS hA 0 5 rfl rfl rfl [0, 2, 3, 4, 5] [1] rfl (by decide) rfl (by decide) (by decide) rfl hl.1 rfl (Nat.le_of_ble_eq_true rfl) dX5_odds_29 ⟨Nat.zero_le _, Nat.zero_le _⟩ (fun u H locs hw hP hD hS => ?_)
    obtain ⟨z_29, f_29⟩ := u
    try dsimp only at hw
    have h1_29 := hw
    have hP : va_P D vwCl [(x, .inr (5, [.ref r, .ref t, .ref im, .int hi, .ref tx, .ref ch, .ref ro, .ref rf, .ref pl, .ref ot, .ref cl])), (rf, .inl (cI, 6, .inl F)), (r, .inr (1, [.int q, .int nw, .ref rn])), (rn, .inl (cI, 20, .inl v)), (pl, .inr (3, [.int z_29, .ref pn])), (pn, .inl (cI, 200, .inl f_29))] H := hP.sub [1, 0, 2, 3, 4, 5] rfl
    have hD : va_D A [(x, .inr (5, [.ref r, .ref t, .ref im, .int hi, .ref tx, .ref ch, .ref ro, .ref rf, .ref pl, .ref ot, .ref cl])), (rf, .inl (cI, 6, .inl F)), (r, .inr (1, [.int q, .int nw, .ref rn])), (rn, .inl (cI, 20, .inl v)), (pl, .inr (3, [.int z_29, .ref pn])), (pn, .inl (cI, 200, .inl f_29))] := hD.sub [1, 0, 2, 3, 4, 5] (by decide) rfl
    have hMl := h1_29.2.1
    refine lv_aload_n hx hb dX5_odds_32 rfl (lv_at hl 1 rfl) ?_
    refine va_get (D := D) (ci := 5) (v := .ref pl) (C := RX5) (T := TX5) (N := 11) hx hb hts (in_X5_odds_X5) hown hK hP 0 rfl rfl 8 (by decide) (hts (.fieldLink RX5 53 "StepsRoundCircle" "places" "LStepsRoundCircle$Sorted;") (by decide +kernel)) (fun _ h9 => h9) rfl dX5_odds_33 ?_
    refine va_get (D := D) (ci := 3) (v := .int z_29) (C := RX3) (T := TX3) (N := 2) hx hb hts (in_X5_odds_X3) hown hK hP 4 rfl rfl 0 (by decide) (hts (.fieldLink RX5 150 "StepsRoundCircle$Sorted" "size" "I") (by decide +kernel)) (fun _ h9 => h9) rfl dX5_odds_36 ?_
    refine lv_i2l hx hb dX5_odds_39 rfl ?_
    refine lv_topl (fun z_40 hz_40 => ?_)
    have hz_40 : z_40 = lN (mk (plK q v w) n.toNatClampNeg).length := hz_40.trans (by rw [h1_29.1]; exact nI_l (by omega))
    subst hz_40
    refine lv_aload_n hx hb dX5_odds_40 rfl (lv_at hl 1 rfl) ?_
    refine va_get (D := D) (ci := 5) (v := .ref r) (C := RX5) (T := TX5) (N := 11) hx hb hts (in_X5_odds_X5) hown hK hP 0 rfl rfl 0 (by decide) (hts (.fieldLink RX5 10 "StepsRoundCircle" "ring" "LStepsRoundCircle$Ring;") (by decide +kernel)) (fun _ h9 => h9) rfl dX5_odds_41 ?_
    refine va_get (D := D) (ci := 1) (v := .int q) (C := RX1) (T := TX1) (N := 3) hx hb hts (in_X5_odds_X1) hown hK hP 2 rfl rfl 0 (by decide) (hts (.fieldLink RX5 91 "StepsRoundCircle$Ring" "size" "I") (by decide +kernel)) (fun _ h9 => h9) rfl dX5_odds_44 ?_
    refine lv_i2l hx hb dX5_odds_47 rfl ?_
    refine lv_topl (fun z_48 hz_48 => ?_)
    have hz_48 : z_48 = lN q.toNatClampNeg := hz_48.trans (wideN (okQ_0 hq))
    subst hz_48
    refine lv_iload_n hx hb dX5_odds_48 rfl (lv_at hl 4 rfl) ?_
    refine rdS (As := [.long (lN (mk (plK q v w) n.toNatClampNeg).length), .long (lN q.toNatClampNeg), .int k]) (rest := []) ⟨hx, hb, hml, hown, hts⟩ (c_X5_partOf l D cI cZ cR ((mk (plK q v w) n.toNatClampNeg).length) q.toNatClampNeg k (by omega) (by omega) (by omega)) (va_cwS 3 hts gX5_odds_X5_partOf rfl rfl rfl (by decide +kernel) ⟨Nat.le_of_ble_eq_true rfl, Nat.le_of_ble_eq_true rfl⟩) hK hN hP [] rfl rfl hl.1 rfl (Nat.le_of_ble_eq_true rfl) dX5_odds_49 ⟨Nat.zero_le _, Nat.zero_le _⟩ ?_
    exact wrL (w1 := (fun (u : (Nat → Int32) × Int32 × (Nat → Int32)) => [(x, .inr (5, [.ref r, .ref t, .ref im, .int hi, .ref tx, .ref ch, .ref ro, .ref rf, .ref pl, .ref ot, .ref cl])), (rf, .inl (cI, 6, .inl u.1)), (r, .inr (1, [.int q, .int nw, .ref rn])), (rn, .inl (cI, 20, .inl v)), (pl, .inr (3, [.int u.2.1, .ref pn])), (pn, .inl (cI, 200, .inl u.2.2))])) (F, z_29, f_29) hx hb hr hlocks dX5_odds_52 hS (hP.sub [0, 1, 2, 3, 4, 5] rfl) (hD.sub [0, 1, 2, 3, 4, 5] (by decide) rfl) (by rw [if_pos c_12, if_pos c_12]; exact ⟨rfl, rfl⟩)
  · skip
    refine lv_aload_n hx hb dX5_odds_15 rfl (lv_at hl 1 rfl) ?_
    refine lv_iload hx hb dX5_odds_16 (lv_at hl 0 rfl) ?_
    refine wrVl (As := [.int (rf_beh nw w n k 2)]) (rest := []) (wr := [(r, .inr (1, [.int q, .int nw, .ref rn])), (rn, .inl (cI, 20, .inl v)), (pl, .inr (3, [.int pz, .ref pn])), (pn, .inl (cI, 200, .inl pf))]) (A := A) ⟨hx, hb, hml, hown, hts⟩ (c_X5_refuseLong l D cI cZ cR x r t im tx ch ro rf pl ot cl hi F (rf_beh nw w n k 2)  s.heap.size) (cwV 1 hts gX5_odds_X5_refuseLong rfl rfl rfl (by decide +kernel) ⟨Nat.le_of_ble_eq_true rfl, Nat.le_of_ble_eq_true rfl⟩) hK hN hP hD hS hA 0 5 rfl rfl rfl [0, 1] [2, 3, 4, 5] rfl (by decide) rfl (by decide) (by decide) rfl hl.1 rfl (Nat.le_of_ble_eq_true rfl) dX5_odds_18 ⟨Nat.zero_le _, Nat.zero_le _⟩ (fun r_18 u H locs hw hP hD hS => ?_)
    obtain ⟨F_18, rfl⟩ : ∃ z, z = u := ⟨_, rfl⟩
    try dsimp only at hw
    obtain ⟨q1_18, q2_18⟩ := hw
    have q1_18 := q1_18.symm
    subst q1_18
    have q2_18 := q2_18.symm
    subst q2_18
    have hP : va_P D vwCl [(x, .inr (5, [.ref r, .ref t, .ref im, .int hi, .ref tx, .ref ch, .ref ro, .ref rf, .ref pl, .ref ot, .ref cl])), (rf, .inl (cI, 6, .inl (rf_bump F (rf_beh nw w n k 2)))), (r, .inr (1, [.int q, .int nw, .ref rn])), (rn, .inl (cI, 20, .inl v)), (pl, .inr (3, [.int pz, .ref pn])), (pn, .inl (cI, 200, .inl pf))] H := hP.sub [4, 5, 0, 1, 2, 3] rfl
    have hD : va_D A [(x, .inr (5, [.ref r, .ref t, .ref im, .int hi, .ref tx, .ref ch, .ref ro, .ref rf, .ref pl, .ref ot, .ref cl])), (rf, .inl (cI, 6, .inl (rf_bump F (rf_beh nw w n k 2)))), (r, .inr (1, [.int q, .int nw, .ref rn])), (rn, .inl (cI, 20, .inl v)), (pl, .inr (3, [.int pz, .ref pn])), (pn, .inl (cI, 200, .inl pf))] := hD.sub [4, 5, 0, 1, 2, 3] (by decide) rfl
    exact wrL (w1 := (fun (u : (Nat → Int32) × Int32 × (Nat → Int32)) => [(x, .inr (5, [.ref r, .ref t, .ref im, .int hi, .ref tx, .ref ch, .ref ro, .ref rf, .ref pl, .ref ot, .ref cl])), (rf, .inl (cI, 6, .inl u.1)), (r, .inr (1, [.int q, .int nw, .ref rn])), (rn, .inl (cI, 20, .inl v)), (pl, .inr (3, [.int u.2.1, .ref pn])), (pn, .inl (cI, 200, .inl u.2.2))])) ((rf_bump F (rf_beh nw w n k 2)), pz, pf) hx hb hr hlocks dX5_odds_21 hS (hP.sub [0, 1, 2, 3, 4, 5] rfl) (hD.sub [0, 1, 2, 3, 4, 5] (by decide) rfl) (by rw [if_neg c_12, if_neg c_12]; exact ⟨rfl, rfl⟩)

set_option maxHeartbeats 4000000 in
set_option maxRecDepth 100000 in
theorem c_X6_odds (l : Launch) (D : va_G) (cI cZ cR : ClassId) (y yr yw yc yl ys yp ym yo yk yt yi yz yx yu : Nat) (mq mn mc me md mz km kr : Int32) (G : Nat → Int32) (v P Mf : Nat → Int32) (w n k : Int32) (hq : okQ mq) (hmn : 0 ≤ mn) (hm5 : mn ≤ 5) (hws : ∀ w, 0 ≤ w ∧ w < mn → okW mq v w) (sz : Nat) : Met l yX6_odds wsX6_odds ({ frames := 4, cells := 0, slots := 0, locals := 99 }) (PcW D cI cZ cR [.ref y, .int w, .int n, .int k] [(y, .inr (6, [.ref yr, .int mq, .int mn, .ref yw, .ref yc, .int mc, .ref yl, .int me, .ref ys, .ref yp, .ref ym, .int md, .ref yo, .ref yk, .ref yt, .int mz, .ref yi, .ref yz, .ref yx, .ref yu, .int km, .int kr])), (yr, .inl (cI, 7, .inl G)), (yw, .inl (cI, 20, .inl v)), (yp, .inl (cI, 200, .inl P)), (ym, .inl (cI, 200, .inl Mf))] sz) (va_Ql (fun (res : Int64) (u : (Nat → Int32) × Int32 × (Nat → Int32) × (Nat → Int32)) => res = (if rf_beh mn w n k 2 = 0 then lN ((if k = 0 then (mk (plK mq v w) n.toNatClampNeg).length else mq.toNatClampNeg) / Nat.gcd (mk (plK mq v w) n.toNatClampNeg).length mq.toNatClampNeg) else 4000000000000000000 - (rf_beh mn w n k 2).toInt64) ∧ u.1 = (if rf_beh mn w n k 2 = 0 then G else md_bump G (rf_beh mn w n k 2))) (Bw D (fun (u : (Nat → Int32) × Int32 × (Nat → Int32) × (Nat → Int32)) => [(y, .inr (6, [.ref yr, .int mq, .int mn, .ref yw, .ref yc, .int mc, .ref yl, .int me, .ref ys, .ref yp, .ref ym, .int u.2.1, .ref yo, .ref yk, .ref yt, .int mz, .ref yi, .ref yz, .ref yx, .ref yu, .int km, .int kr])), (yr, .inl (cI, 7, .inl u.1)), (yw, .inl (cI, 20, .inl v)), (yp, .inl (cI, 200, .inl u.2.2.1)), (ym, .inl (cI, 200, .inl u.2.2.2))]) (va_A [(y, .inr (6, [.ref yr, .int mq, .int mn, .ref yw, .ref yc, .int mc, .ref yl, .int me, .ref ys, .ref yp, .ref ym, .int md, .ref yo, .ref yk, .ref yt, .int mz, .ref yi, .ref yz, .ref yx, .ref yu, .int km, .int kr])), (yr, .inl (cI, 7, .inl G)), (yw, .inl (cI, 20, .inl v)), (yp, .inl (cI, 200, .inl P)), (ym, .inl (cI, 200, .inl Mf))] sz)) (va_A [(y, .inr (6, [.ref yr, .int mq, .int mn, .ref yw, .ref yc, .int mc, .ref yl, .int me, .ref ys, .ref yp, .ref ym, .int md, .ref yo, .ref yk, .ref yt, .int mz, .ref yi, .ref yz, .ref yx, .ref yu, .int km, .int kr])), (yr, .inl (cI, 7, .inl G)), (yw, .inl (cI, 20, .inl v)), (yp, .inl (cI, 200, .inl P)), (ym, .inl (cI, 200, .inl Mf))] sz)) 0 0 (va_A [(y, .inr (6, [.ref yr, .int mq, .int mn, .ref yw, .ref yc, .int mc, .ref yl, .int me, .ref ys, .ref yp, .ref ym, .int md, .ref yo, .ref yk, .ref yt, .int mz, .ref yi, .ref yz, .ref yx, .ref yu, .int km, .int kr])), (yr, .inl (cI, 7, .inl G)), (yw, .inl (cI, 20, .inl v)), (yp, .inl (cI, 200, .inl P)), (ym, .inl (cI, 200, .inl Mf))] sz) := by
  refine Met.ofW (cc := cX6_odds) (maxL := 5) (ret := (some .long)) (by decide) rfl ?_
  intro p e s m args below meth c s₁ B hml hv
  obtain ⟨rfl, hsz, hP, hK, hD0, hN⟩ := hv
  have hx := B.exec
  have hb := B.bytes
  have hr := B.returns
  have hts := atoms_spec (ws := wsX6_odds) B.pre
  have hown : s.vm.findClass RX6 = some m.cls := findClass_of_methodNamed B.named
  have hlocks := B.notSynchronized
  subst hsz
  have hD := hD0.self (sz := s.heap.size)
  generalize hAe : va_A [(y, .inr (6, [.ref yr, .int mq, .int mn, .ref yw, .ref yc, .int mc, .ref yl, .int me, .ref ys, .ref yp, .ref ym, .int md, .ref yo, .ref yk, .ref yt, .int mz, .ref yi, .ref yz, .ref yx, .ref yu, .int km, .int kr])), (yr, .inl (cI, 7, .inl G)), (yw, .inl (cI, 20, .inl v)), (yp, .inl (cI, 200, .inl P)), (ym, .inl (cI, 200, .inl Mf))] s.heap.size = A at hD ⊢
  have hA : ∀ q : Nat, s.heap.size ≤ q → A q := fun q h => by rw [← hAe]; exact Or.inr h
  have hS : va_S A s.heap s.heap [] := va_S.rf
  have hP : va_P D vwCl [(y, .inr (6, [.ref yr, .int mq, .int mn, .ref yw, .ref yc, .int mc, .ref yl, .int me, .ref ys, .ref yp, .ref ym, .int md, .ref yo, .ref yk, .ref yt, .int mz, .ref yi, .ref yz, .ref yx, .ref yu, .int km, .int kr])), (yr, .inl (cI, 7, .inl G)), (yw, .inl (cI, 20, .inl v)), (yp, .inl (cI, 200, .inl P)), (ym, .inl (cI, 200, .inl Mf))] s.heap := hP
  have hl := lv_entry ([.ref y, .int w, .int n, .int k]) (n := 5) (Nat.le_of_ble_eq_true rfl)
  rw [lg_entry_eq]
  generalize (lg_sl ([.ref y, .int w, .int n, .int k]) ++ List.replicate (5 - (lg_sl ([.ref y, .int w, .int n, .int k])).length) Slot.unset).toArray = ls at hl ⊢
  have hl : lv_has ls 5 [(0, .ref y), (1, .int w), (2, .int n), (3, .int k)] := hl
  refine lv_aload_n hx hb dX6_odds_0 rfl (lv_at hl 0 rfl) ?_
  refine lv_iload_n hx hb dX6_odds_1 rfl (lv_at hl 1 rfl) ?_
  refine lv_iload_n hx hb dX6_odds_2 rfl (lv_at hl 2 rfl) ?_
  refine rdV (As := [.int w, .int n]) (rest := []) ⟨hx, hb, hml, hown, hts⟩ (c_X6_refusal l D cI cZ cR y yr yw yc yl ys yp ym yo yk yt yi yz yx yu mq mn mc me md mz km kr w n hmn) (cwV 2 hts gX6_odds_X6_refusal rfl rfl rfl (by decide +kernel) ⟨Nat.le_of_ble_eq_true rfl, Nat.le_of_ble_eq_true rfl⟩) hK hN hP 0 6 rfl rfl rfl [0] rfl rfl hl.1 rfl (Nat.le_of_ble_eq_true rfl) dX6_odds_3 ⟨Nat.zero_le _, Nat.zero_le _⟩ ?_
  refine lv_istore (lv' := [(4, .int (rf_num mn w n 1 200)), (0, .ref y), (1, .int w), (2, .int n), (3, .int k)]) hx hb dX6_odds_6 hl (by decide) rfl (fun ls hl => ?_)
  refine lv_iload hx hb dX6_odds_8 (lv_at hl 0 rfl) ?_
  refine lv_if_eq (tgt := 20) hx hb dX6_odds_10 (by decide) (fun c_10 => ?_) (fun c_10 => ?_)
  · skip
    have hw9 := (rf_num_ok c_10).1
    have hn9 := (rf_num_ok c_10).2
    have hn := n200 hn9
    have hM0 := mk_ne (pl := plK mq v w) (n := n.toNatClampNeg) (by omega)
    have hqN := okQ_N hq
    refine lv_iload_n hx hb dX6_odds_20 rfl (lv_at hl 4 rfl) ?_
    refine lv_i2l hx hb dX6_odds_21 rfl ?_
    refine lv_lconst (v := 0) hx hb dX6_odds_22 (by decide) ?_
    refine lv_lconst (v := 1) hx hb dX6_odds_23 (by decide) ?_
    refine rdS (As := [.long k.toInt64, .long 0, .long 1]) (rest := []) ⟨hx, hb, hml, hown, hts⟩ (c_X6_in l D cI cZ cR k.toInt64 0 1 ) (va_cwS 3 hts gX6_odds_X6_in rfl rfl rfl (by decide +kernel) ⟨Nat.le_of_ble_eq_true rfl, Nat.le_of_ble_eq_true rfl⟩) hK hN hP [] rfl rfl hl.1 rfl (Nat.le_of_ble_eq_true rfl) dX6_odds_24 ⟨Nat.zero_le _, Nat.zero_le _⟩ ?_
    refine lv_if_ne (tgt := 37) hx hb dX6_odds_27 (by decide) (fun c_27 => ?_) (fun c_27 => ?_)
    · skip
      have c_27 := bi_ne0.mp c_27
      refine lv_aload_n hx hb dX6_odds_37 rfl (lv_at hl 1 rfl) ?_
      refine lv_iload_n hx hb dX6_odds_38 rfl (lv_at hl 2 rfl) ?_
      refine lv_iload_n hx hb dX6_odds_39 rfl (lv_at hl 3 rfl) ?_
      refine wrVv (As := [.int w, .int n]) (rest := []) (wr := [(yr, .inl (cI, 7, .inl G))]) (A := A) ⟨hx, hb, hml, hown, hts⟩ (c_X6_sorts l D cI cZ cR y yr yw yc yl ys yp ym yo yk yt yi yz yx yu mq mn mc me md mz km kr v P Mf w n hq (w5 hm5 hw9) (hws w hw9) hn.2.1 s.heap.size) (cwV 2 hts gX6_odds_X6_sorts rfl rfl rfl (by decide +kernel) ⟨Nat.le_of_ble_eq_true rfl, Nat.le_of_ble_eq_true rfl⟩) hK hN hP hD hS hA 0 6 rfl rfl rfl [0, 2, 3, 4] [1] rfl (by decide) rfl (by decide) (by decide) rfl hl.1 rfl (Nat.le_of_ble_eq_true rfl) dX6_odds_40 ⟨Nat.zero_le _, Nat.zero_le _⟩ (fun u H locs hw hP hD hS => ?_)
      obtain ⟨md_40, P_40, M_40⟩ := u
      try dsimp only at hw
      obtain ⟨h1_40, h2_40⟩ := hw
      have hP : va_P D vwCl [(y, .inr (6, [.ref yr, .int mq, .int mn, .ref yw, .ref yc, .int mc, .ref yl, .int me, .ref ys, .ref yp, .ref ym, .int md_40, .ref yo, .ref yk, .ref yt, .int mz, .ref yi, .ref yz, .ref yx, .ref yu, .int km, .int kr])), (yr, .inl (cI, 7, .inl G)), (yw, .inl (cI, 20, .inl v)), (yp, .inl (cI, 200, .inl P_40)), (ym, .inl (cI, 200, .inl M_40))] H := hP.sub [1, 0, 2, 3, 4] rfl
      have hD : va_D A [(y, .inr (6, [.ref yr, .int mq, .int mn, .ref yw, .ref yc, .int mc, .ref yl, .int me, .ref ys, .ref yp, .ref ym, .int md_40, .ref yo, .ref yk, .ref yt, .int mz, .ref yi, .ref yz, .ref yx, .ref yu, .int km, .int kr])), (yr, .inl (cI, 7, .inl G)), (yw, .inl (cI, 20, .inl v)), (yp, .inl (cI, 200, .inl P_40)), (ym, .inl (cI, 200, .inl M_40))] := hD.sub [1, 0, 2, 3, 4] (by decide) rfl
      have e0 := rf_beh_m c_10 ((md_w1 k).mp c_27)
      have hMl := h2_40.2.1
      refine lv_aload_n hx hb dX6_odds_43 rfl (lv_at hl 1 rfl) ?_
      refine va_get (D := D) (ci := 6) (v := .int md_40) (C := RX6) (T := TX6) (N := 22) hx hb hts (in_X6_odds_X6) hown hK hP 0 rfl rfl 11 (by decide) (hts (.fieldLink RX6 146 "StepsRoundCircleModel" "marked" "I") (by decide +kernel)) (fun _ h9 => h9) rfl dX6_odds_44 ?_
      refine lv_i2l hx hb dX6_odds_47 rfl ?_
      refine lv_topl (fun z_48 hz_48 => ?_)
      have hz_48 : z_48 = lN (mk (plK mq v w) n.toNatClampNeg).length := hz_48.trans (by rw [h2_40.1]; exact nI_l (by omega))
      subst hz_48
      refine lv_aload_n hx hb dX6_odds_48 rfl (lv_at hl 1 rfl) ?_
      refine va_get (D := D) (ci := 6) (v := .int mq) (C := RX6) (T := TX6) (N := 22) hx hb hts (in_X6_odds_X6) hown hK hP 0 rfl rfl 1 (by decide) (hts (.fieldLink RX6 13 "StepsRoundCircleModel" "round" "I") (by decide +kernel)) (fun _ h9 => h9) rfl dX6_odds_49 ?_
      refine lv_i2l hx hb dX6_odds_52 rfl ?_
      refine lv_topl (fun z_53 hz_53 => ?_)
      have hz_53 : z_53 = lN mq.toNatClampNeg := hz_53.trans (wideN (okQ_0 hq))
      subst hz_53
      refine lv_iload_n hx hb dX6_odds_53 rfl (lv_at hl 4 rfl) ?_
      refine rdS (As := [.long (lN (mk (plK mq v w) n.toNatClampNeg).length), .long (lN mq.toNatClampNeg), .int k]) (rest := []) ⟨hx, hb, hml, hown, hts⟩ (c_X6_part l D cI cZ cR ((mk (plK mq v w) n.toNatClampNeg).length) mq.toNatClampNeg k (by omega) (by omega) (by omega)) (va_cwS 3 hts gX6_odds_X6_part rfl rfl rfl (by decide +kernel) ⟨Nat.le_of_ble_eq_true rfl, Nat.le_of_ble_eq_true rfl⟩) hK hN hP [] rfl rfl hl.1 rfl (Nat.le_of_ble_eq_true rfl) dX6_odds_54 ⟨Nat.zero_le _, Nat.zero_le _⟩ ?_
      exact wrL (w1 := (fun (u : (Nat → Int32) × Int32 × (Nat → Int32) × (Nat → Int32)) => [(y, .inr (6, [.ref yr, .int mq, .int mn, .ref yw, .ref yc, .int mc, .ref yl, .int me, .ref ys, .ref yp, .ref ym, .int u.2.1, .ref yo, .ref yk, .ref yt, .int mz, .ref yi, .ref yz, .ref yx, .ref yu, .int km, .int kr])), (yr, .inl (cI, 7, .inl u.1)), (yw, .inl (cI, 20, .inl v)), (yp, .inl (cI, 200, .inl u.2.2.1)), (ym, .inl (cI, 200, .inl u.2.2.2))])) (G, md_40, P_40, M_40) hx hb hr hlocks dX6_odds_57 hS (hP.sub [0, 1, 2, 3, 4] rfl) (hD.sub [0, 1, 2, 3, 4] (by decide) rfl) (by rw [if_pos e0, if_pos e0]; exact ⟨rfl, rfl⟩)
    · skip
      have c_27 := bi_eq0.mp c_27
      refine lv_aload_n hx hb dX6_odds_30 rfl (lv_at hl 1 rfl) ?_
      refine lv_bipush (v := (-2)) hx hb dX6_odds_31 (by decide) ?_
      refine wrVl (As := [.int (-2)]) (rest := []) (wr := [(yw, .inl (cI, 20, .inl v)), (yp, .inl (cI, 200, .inl P)), (ym, .inl (cI, 200, .inl Mf))]) (A := A) ⟨hx, hb, hml, hown, hts⟩ (c_X6_noLong l D cI cZ cR y yr yw yc yl ys yp ym yo yk yt yi yz yx yu mq mn mc me md mz km kr G (-2) (by decide) s.heap.size) (cwV 1 hts gX6_odds_X6_noLong rfl rfl rfl (by decide +kernel) ⟨Nat.le_of_ble_eq_true rfl, Nat.le_of_ble_eq_true rfl⟩) hK hN hP hD hS hA 0 6 rfl rfl rfl [0, 1] [2, 3, 4] rfl (by decide) rfl (by decide) (by decide) rfl hl.1 rfl (Nat.le_of_ble_eq_true rfl) dX6_odds_33 ⟨Nat.zero_le _, Nat.zero_le _⟩ (fun r_33 u H locs hw hP hD hS => ?_)
      obtain ⟨G_33, rfl⟩ : ∃ z, z = u := ⟨_, rfl⟩
      try dsimp only at hw
      obtain ⟨q1_33, q2_33⟩ := hw
      have q1_33 := q1_33.symm
      subst q1_33
      have q2_33 := q2_33.symm
      subst q2_33
      have hP : va_P D vwCl [(y, .inr (6, [.ref yr, .int mq, .int mn, .ref yw, .ref yc, .int mc, .ref yl, .int me, .ref ys, .ref yp, .ref ym, .int md, .ref yo, .ref yk, .ref yt, .int mz, .ref yi, .ref yz, .ref yx, .ref yu, .int km, .int kr])), (yr, .inl (cI, 7, .inl (md_bump G (-2)))), (yw, .inl (cI, 20, .inl v)), (yp, .inl (cI, 200, .inl P)), (ym, .inl (cI, 200, .inl Mf))] H := hP.sub [3, 4, 0, 1, 2] rfl
      have hD : va_D A [(y, .inr (6, [.ref yr, .int mq, .int mn, .ref yw, .ref yc, .int mc, .ref yl, .int me, .ref ys, .ref yp, .ref ym, .int md, .ref yo, .ref yk, .ref yt, .int mz, .ref yi, .ref yz, .ref yx, .ref yu, .int km, .int kr])), (yr, .inl (cI, 7, .inl (md_bump G (-2)))), (yw, .inl (cI, 20, .inl v)), (yp, .inl (cI, 200, .inl P)), (ym, .inl (cI, 200, .inl Mf))] := hD.sub [3, 4, 0, 1, 2] (by decide) rfl
      exact wrL (w1 := (fun (u : (Nat → Int32) × Int32 × (Nat → Int32) × (Nat → Int32)) => [(y, .inr (6, [.ref yr, .int mq, .int mn, .ref yw, .ref yc, .int mc, .ref yl, .int me, .ref ys, .ref yp, .ref ym, .int u.2.1, .ref yo, .ref yk, .ref yt, .int mz, .ref yi, .ref yz, .ref yx, .ref yu, .int km, .int kr])), (yr, .inl (cI, 7, .inl u.1)), (yw, .inl (cI, 20, .inl v)), (yp, .inl (cI, 200, .inl u.2.2.1)), (ym, .inl (cI, 200, .inl u.2.2.2))])) ((md_bump G (-2)), md, P, Mf) hx hb hr hlocks dX6_odds_36 hS (hP.sub [0, 1, 2, 3, 4] rfl) (hD.sub [0, 1, 2, 3, 4] (by decide) rfl) (by have e9 := rf_beh_2 c_10 (mt (md_w1 k).mpr c_27); rw [e9, if_neg (by decide), if_neg (by decide)]; exact ⟨rfl, rfl⟩)
  · skip
    refine lv_aload_n hx hb dX6_odds_13 rfl (lv_at hl 1 rfl) ?_
    refine lv_iload hx hb dX6_odds_14 (lv_at hl 0 rfl) ?_
    refine wrVl (As := [.int (rf_num mn w n 1 200)]) (rest := []) (wr := [(yw, .inl (cI, 20, .inl v)), (yp, .inl (cI, 200, .inl P)), (ym, .inl (cI, 200, .inl Mf))]) (A := A) ⟨hx, hb, hml, hown, hts⟩ (c_X6_noLong l D cI cZ cR y yr yw yc yl ys yp ym yo yk yt yi yz yx yu mq mn mc me md mz km kr G (rf_num mn w n 1 200) (rf_num_le _ _ _ _ _) s.heap.size) (cwV 1 hts gX6_odds_X6_noLong rfl rfl rfl (by decide +kernel) ⟨Nat.le_of_ble_eq_true rfl, Nat.le_of_ble_eq_true rfl⟩) hK hN hP hD hS hA 0 6 rfl rfl rfl [0, 1] [2, 3, 4] rfl (by decide) rfl (by decide) (by decide) rfl hl.1 rfl (Nat.le_of_ble_eq_true rfl) dX6_odds_16 ⟨Nat.zero_le _, Nat.zero_le _⟩ (fun r_16 u H locs hw hP hD hS => ?_)
    obtain ⟨G_16, rfl⟩ : ∃ z, z = u := ⟨_, rfl⟩
    try dsimp only at hw
    obtain ⟨q1_16, q2_16⟩ := hw
    have q1_16 := q1_16.symm
    subst q1_16
    have q2_16 := q2_16.symm
    subst q2_16
    have hP : va_P D vwCl [(y, .inr (6, [.ref yr, .int mq, .int mn, .ref yw, .ref yc, .int mc, .ref yl, .int me, .ref ys, .ref yp, .ref ym, .int md, .ref yo, .ref yk, .ref yt, .int mz, .ref yi, .ref yz, .ref yx, .ref yu, .int km, .int kr])), (yr, .inl (cI, 7, .inl (md_bump G (rf_num mn w n 1 200)))), (yw, .inl (cI, 20, .inl v)), (yp, .inl (cI, 200, .inl P)), (ym, .inl (cI, 200, .inl Mf))] H := hP.sub [3, 4, 0, 1, 2] rfl
    have hD : va_D A [(y, .inr (6, [.ref yr, .int mq, .int mn, .ref yw, .ref yc, .int mc, .ref yl, .int me, .ref ys, .ref yp, .ref ym, .int md, .ref yo, .ref yk, .ref yt, .int mz, .ref yi, .ref yz, .ref yx, .ref yu, .int km, .int kr])), (yr, .inl (cI, 7, .inl (md_bump G (rf_num mn w n 1 200)))), (yw, .inl (cI, 20, .inl v)), (yp, .inl (cI, 200, .inl P)), (ym, .inl (cI, 200, .inl Mf))] := hD.sub [3, 4, 0, 1, 2] (by decide) rfl
    exact wrL (w1 := (fun (u : (Nat → Int32) × Int32 × (Nat → Int32) × (Nat → Int32)) => [(y, .inr (6, [.ref yr, .int mq, .int mn, .ref yw, .ref yc, .int mc, .ref yl, .int me, .ref ys, .ref yp, .ref ym, .int u.2.1, .ref yo, .ref yk, .ref yt, .int mz, .ref yi, .ref yz, .ref yx, .ref yu, .int km, .int kr])), (yr, .inl (cI, 7, .inl u.1)), (yw, .inl (cI, 20, .inl v)), (yp, .inl (cI, 200, .inl u.2.2.1)), (ym, .inl (cI, 200, .inl u.2.2.2))])) ((md_bump G (rf_num mn w n 1 200)), md, P, Mf) hx hb hr hlocks dX6_odds_19 hS (hP.sub [0, 1, 2, 3, 4] rfl) (hD.sub [0, 1, 2, 3, 4] (by decide) rfl) (by have e9 := rf_beh_n (k := k) (ks := 2) c_10; have e8 : ¬ rf_beh mn w n k 2 = 0 := (by rw [e9]; exact c_10); rw [if_neg e8, if_neg e8, e9]; exact ⟨rfl, rfl⟩)
