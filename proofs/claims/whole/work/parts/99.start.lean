theorem okS_start : okS 100 0 (fun _ => 0) := ⟨⟨by decide, by decide⟩, by decide, by decide, fun w hw => absurd (Int32.lt_of_le_of_lt hw.1 hw.2) (by decide)⟩
theorem nst_tbl : ∀ w ∈ nst_ws, w ∈ lw_tbl := by decide +kernel
/-! ===== the start ===== -/
theorem K_arr {s : State} {a : Array Value} {t : FieldType} (h : (Cond.arrayClass t).before a s = true) : ∃ cA : ClassId, ArrOfT s cA t ∧ s.vm.findClass ("[" ++ t.toString) = some cA := by
  obtain ⟨cA, kA, comp, h1, h2, h3⟩ := Cond.arrayClass_spec h
  exact ⟨cA, fun n z => ⟨fun k h => (by cases h), kA, h2, comp, h3⟩, h1⟩
theorem K_row {s : State} {a : Array Value} {C : String} (h : (Cond.arrayOver (.object C)).before a s = true) : ∃ cA : ClassId, ArrOfT s cA (.object C) ∧ va_RA s cA (.object C) := by
  obtain ⟨comp, cA, kA, h1, h2, h3, h4, h5⟩ := Cond.arrayOver_spec h
  exact ⟨cA, fun n z => ⟨fun k h => (by cases h), kA, h3, comp, h4⟩, kA, comp, h3, h4, h1, h5⟩
theorem und_start {s : State} {a : Array Value} {A : Nat → Prop} (hgv : (Jvm.Cond.and given_1 narrow_1).before a s = true) (hl : (Cond.laysStatic "StepsRoundCircle" "UNDER" "[I").before a s = true) (hini : (Cond.initialized "StepsRoundCircle").before a s = true) (hA : ∀ q : Nat, q < s.heap.size → ¬ A q) : und9 A s s.heap := by
  have hs := flat_of_before _ hgv
  have harr : (Cond.arrayOf (.static "StepsRoundCircle" "UNDER" "[I") .int).before a s = true := hs _ (by decide +kernel)
  have hlen : (Cond.eq (.length (.static "StepsRoundCircle" "UNDER" "[I")) (.int 6)).before a s = true := hs _ (by decide +kernel)
  have h0 : (Cond.eq (.elem (.static "StepsRoundCircle" "UNDER" "[I") (.int 0)) (.int (-1))).before a s = true := hs _ (by decide +kernel)
  have h1 : (Cond.eq (.elem (.static "StepsRoundCircle" "UNDER" "[I") (.int 1)) (.int 0)).before a s = true := hs _ (by decide +kernel)
  have h2 : (Cond.eq (.elem (.static "StepsRoundCircle" "UNDER" "[I") (.int 2)) (.int 0)).before a s = true := hs _ (by decide +kernel)
  have h3 : (Cond.eq (.elem (.static "StepsRoundCircle" "UNDER" "[I") (.int 3)) (.int 0)).before a s = true := hs _ (by decide +kernel)
  have h4 : (Cond.eq (.elem (.static "StepsRoundCircle" "UNDER" "[I") (.int 4)) (.int 2)).before a s = true := hs _ (by decide +kernel)
  have h5 : (Cond.eq (.elem (.static "StepsRoundCircle" "UNDER" "[I") (.int 5)) (.int 1)).before a s = true := hs _ (by decide +kernel)
  obtain ⟨t, ht, hT⟩ := va_Tof (N := 6) (f := undF) (A := A) (by decide) harr (va_eqt hlen) (fun j hj => by
    have hc : j = 0 ∨ j = 1 ∨ j = 2 ∨ j = 3 ∨ j = 4 ∨ j = 5 := by omega
    rcases hc with rfl | rfl | rfl | rfl | rfl | rfl
    · exact va_eqt h0
    · exact va_eqt h1
    · exact va_eqt h2
    · exact va_eqt h3
    · exact va_eqt h4
    · exact va_eqt h5
    ) hA
  exact ⟨t, va_Zref hl hini ht hA, hT⟩
set_option maxHeartbeats 8000000 in
set_option maxRecDepth 100000 in
theorem whole_start {p : Program} {e : Env} {s : State} {m : MethodId} {below : List Frame} {meth : Method} {c : Code} (l : Launch) (hflags : l.flags = flags0) {b L : Nat} {xs : Nat → Int32} (hL : L ≤ 2560) (C0 : lw_At p s m meth c b L xs) : W p l e room_1 s m #[Value.ref b] below meth c s.heap [] 0 0 (lw_Z below #[Value.ref b] s) (entryFrame m ([Value.ref b] : List Value).toArray 4) := by
  obtain ⟨hx, hb, hr, hml, hown0, hts0, hX, hbl, hlocks, hgv⟩ := id C0
  have hown : s.vm.findClass RL = some m.cls := hown0
  have hts : ∀ w ∈ wsL_law, w.before #[Value.ref b] s = true := fun w h => hts0 w (wsL_law_in w h)
  have hA : ∀ q : Nat, s.heap.size ≤ q → (fun q : Nat => s.heap.size ≤ q) q := fun _ h => h
  have hbA : ¬ (fun q : Nat => s.heap.size ≤ q) b := Nat.not_le.mpr hbl
  obtain ⟨d0, j0, hKn0⟩ := u_known (C := RX0) (T := TX0) (N := 2) (n := 2) hts inlX0 (hts (.instantiable RX0 2) (by decide +kernel))
  obtain ⟨d1, j1, hKn1⟩ := u_known (C := RX1) (T := TX1) (N := 3) (n := 3) hts inlX1 (hts (.instantiable RX1 3) (by decide +kernel))
  obtain ⟨d2, j2, hKn2⟩ := u_known (C := RX2) (T := TX2) (N := 2) (n := 2) hts inlX2 (hts (.instantiable RX2 2) (by decide +kernel))
  obtain ⟨d3, j3, hKn3⟩ := u_known (C := RX3) (T := TX3) (N := 2) (n := 2) hts inlX3 (hts (.instantiable RX3 2) (by decide +kernel))
  obtain ⟨d4, j4, hKn4⟩ := u_known (C := RX4) (T := TX4) (N := 2) (n := 2) hts inlX4 (hts (.instantiable RX4 2) (by decide +kernel))
  obtain ⟨d5, j5, hKn5⟩ := u_known (C := RX5) (T := TX5) (N := 11) (n := 11) hts inlX5 (hts (.instantiable RX5 11) (by decide +kernel))
  obtain ⟨d6, j6, hKn6⟩ := u_known (C := RX6) (T := TX6) (N := 22) (n := 22) hts inlX6 (hts (.instantiable RX6 22) (by decide +kernel))
  obtain ⟨D, hKc⟩ : ∃ D : va_G, ∀ (k : Nat) (q : vw_C), vwCl[k]? = some q → u_Kn s q.1 q.2.1 q.2.2 (D.1 k) (D.2 k) := by
    refine ⟨(fun k => if k = 0 then d0 else if k = 1 then d1 else if k = 2 then d2 else if k = 3 then d3 else if k = 4 then d4 else if k = 5 then d5 else d6, fun k => if k = 0 then j0 else if k = 1 then j1 else if k = 2 then j2 else if k = 3 then j3 else if k = 4 then j4 else if k = 5 then j5 else j6), ?_⟩
    intro k q hq
    match k, hq with
    | 0, hq => cases hq; exact hKn0
    | 1, hq => cases hq; exact hKn1
    | 2, hq => cases hq; exact hKn2
    | 3, hq => cases hq; exact hKn3
    | 4, hq => cases hq; exact hKn4
    | 5, hq => cases hq; exact hKn5
    | 6, hq => cases hq; exact hKn6
    | k + 7, hq => simp [vwCl] at hq
  obtain ⟨cI, hI1, hI2⟩ := K_arr (t := .int) (hts (.arrayClass .int) (by decide +kernel))
  obtain ⟨cZ, hZ1, hZ2⟩ := K_arr (t := .boolean) (hts (.arrayClass .boolean) (by decide +kernel))
  have hover : (Cond.arrayOver (.object RX2)).before #[Value.ref b] s = true := hts0 _ (by decide +kernel)
  obtain ⟨cR, hR1, hR2⟩ := K_row hover
  have hK : va_K D vwCl (tyW cI cZ cR) s := ⟨hKc, fun k q h => by
    match k, h with
    | 0, h => cases h; exact ⟨hI1, hI2⟩
    | 1, h => cases h; exact ⟨hZ1, hZ2⟩
    | 2, h => cases h; exact ⟨hR1, hR2⟩
    | k + 3, h => simp [tyW] at h⟩
  have hN : nst s := fun w hw => va_Nw.of (by obtain ⟨x1, x2, x3, x4, rfl⟩ := nst_allN w hw; rfl) (hts0 w (nst_tbl w hw))
  have hUn : und9 (fun q : Nat => s.heap.size ≤ q) s s.heap := und_start hgv (hts0 _ (by decide +kernel)) (hts (.initialized RX5) (by decide +kernel)) (fun q hq => Nat.not_le.mpr hq)
  have hAO : va_AO RX2 s := va_AO.of hover
  have hS : va_S (fun q : Nat => s.heap.size ≤ q) s.heap s.heap [] := va_S.rf
  have hP : va_P D vwCl [] s.heap := fun k q h => by simp at h
  have hD : va_D (fun q : Nat => s.heap.size ≤ q) [] := ⟨fun i j p q h => by simp at h, fun k q h => by simp at h⟩
  have hl := lv_entry ([.ref b]) (n := 4) (Nat.le_of_ble_eq_true rfl)
  rw [lg_entry_eq]
  generalize (lg_sl ([.ref b]) ++ List.replicate (4 - (lg_sl ([.ref b])).length) Slot.unset).toArray = ls at hl ⊢
  have hl : lv_has ls 4 [(0, .ref b)] := hl
  refine va_new (ci := 5) (fs := [.null, .null, .null, .int 0, .null, .null, .null, .null, .null, .null, .null]) (C := RX5) (T := TX5) (N := 11) hx hb hts inlX5 tyX5 tyX5_ok hown (hts (.classLink RL 7 RX5) (by decide +kernel)) (hts (.instantiable RX5 11) (by decide +kernel)) (hts (.initialized RX5) (by decide +kernel)) hK hP hD hS hA rfl (fun j hj => by rcases (show j = 0 ∨ j = 1 ∨ j = 2 ∨ j = 3 ∨ j = 4 ∨ j = 5 ∨ j = 6 ∨ j = 7 ∨ j = 8 ∨ j = 9 ∨ j = 10 by omega) with rfl | rfl | rfl | rfl | rfl | rfl | rfl | rfl | rfl | rfl | rfl <;> rfl) (Nat.le_of_ble_eq_true rfl) (Nat.le_of_ble_eq_true rfl) dL_law_0 (fun x H hP hD hS => ?_)
  have hP : va_P D vwCl [(x, .inr (5, [.null, .null, .null, .int 0, .null, .null, .null, .null, .null, .null, .null]))] H := hP
  have hD : va_D (fun q : Nat => s.heap.size ≤ q) [(x, .inr (5, [.null, .null, .null, .int 0, .null, .null, .null, .null, .null, .null, .null]))] := hD
  refine lv_dup hx hb dL_law_3 rfl ?_
  refine wrII (E := rowE) (As := []) (rest := [.ref x]) (wr := []) (A := (fun q : Nat => s.heap.size ≤ q)) rowE_blind (rowE_at hAO) ⟨hx, hb, hml, hown, hts⟩ (c_X5_init l D cI cZ cR x H.size) (cwI 0 hts gL_law_X5_init rfl rfl rfl (hts (.initialized RX5) (by decide +kernel)) (hts (.methodLink RL 9 yX5_init) (by decide +kernel)) (hts (.instanceMethod yX5_init) (by decide +kernel)) rfl (by decide +kernel) ⟨Nat.le_of_ble_eq_true rfl, Nat.le_of_ble_eq_true rfl⟩) hK hN hP hD hS hA [0] [] rfl (by decide) rfl (by decide) (by decide) rfl hl.1 rfl (Nat.le_of_ble_eq_true rfl) dL_law_4 ⟨Nat.le_of_ble_eq_true rfl, Nat.le_of_ble_eq_true rfl⟩ (fun u H locs hw hP hD hS => ?_)
  obtain ⟨r, rn, t, tm, im, imn, tx, tn, ch, cn, ro, rf, pl, pn, ot, on, cl, a0, b0, a1, b1, a2, b2, rof⟩ := u
  try dsimp only at hw
  have hP : va_P D vwCl [(x, .inr (5, [.ref r, .ref t, .ref im, .int 0, .ref tx, .ref ch, .ref ro, .ref rf, .ref pl, .ref ot, .ref cl])), (r, .inr (1, [.int 100, .int 0, .ref rn])), (rn, .inl (cI, 20, .inl (fun _ => 0))), (t, .inr (1, [.int 100, .int 0, .ref tm])), (tm, .inl (cI, 20, .inl (fun _ => 0))), (im, .inr (1, [.int 100, .int 0, .ref imn])), (imn, .inl (cI, 20, .inl (fun _ => 0))), (tx, .inr (4, [.int 0, .ref tn])), (tn, .inl (cI, 72, .inl (fun _ => 0))), (ch, .inr (0, [.int 0, .ref cn])), (cn, .inl (cI, 48, .inl (fun _ => 0))), (ro, .inl (cR, 3, .inr (.inr (.inr (.inr rof))))), (rf, .inl (cI, 6, .inl (fun _ => 0))), (pl, .inr (3, [.int 0, .ref pn])), (pn, .inl (cI, 200, .inl (fun _ => 0))), (ot, .inr (3, [.int 0, .ref on])), (on, .inl (cI, 200, .inl (fun _ => 0))), (cl, .inl (cI, 9, .inl (fun _ => 0))), (a0, .inr (2, [.int (-1), .ref b0])), (b0, .inl (cI, 40, .inl (fun _ => 0))), (a1, .inr (2, [.int (-1), .ref b1])), (b1, .inl (cI, 40, .inl (fun _ => 0))), (a2, .inr (2, [.int (-1), .ref b2])), (b2, .inl (cI, 40, .inl (fun _ => 0)))] H := hP
  have hD : va_D (fun q : Nat => s.heap.size ≤ q) [(x, .inr (5, [.ref r, .ref t, .ref im, .int 0, .ref tx, .ref ch, .ref ro, .ref rf, .ref pl, .ref ot, .ref cl])), (r, .inr (1, [.int 100, .int 0, .ref rn])), (rn, .inl (cI, 20, .inl (fun _ => 0))), (t, .inr (1, [.int 100, .int 0, .ref tm])), (tm, .inl (cI, 20, .inl (fun _ => 0))), (im, .inr (1, [.int 100, .int 0, .ref imn])), (imn, .inl (cI, 20, .inl (fun _ => 0))), (tx, .inr (4, [.int 0, .ref tn])), (tn, .inl (cI, 72, .inl (fun _ => 0))), (ch, .inr (0, [.int 0, .ref cn])), (cn, .inl (cI, 48, .inl (fun _ => 0))), (ro, .inl (cR, 3, .inr (.inr (.inr (.inr rof))))), (rf, .inl (cI, 6, .inl (fun _ => 0))), (pl, .inr (3, [.int 0, .ref pn])), (pn, .inl (cI, 200, .inl (fun _ => 0))), (ot, .inr (3, [.int 0, .ref on])), (on, .inl (cI, 200, .inl (fun _ => 0))), (cl, .inl (cI, 9, .inl (fun _ => 0))), (a0, .inr (2, [.int (-1), .ref b0])), (b0, .inl (cI, 40, .inl (fun _ => 0))), (a1, .inr (2, [.int (-1), .ref b1])), (b1, .inl (cI, 40, .inl (fun _ => 0))), (a2, .inr (2, [.int (-1), .ref b2])), (b2, .inl (cI, 40, .inl (fun _ => 0)))] := hD
  obtain ⟨hro0, hro1, hro2⟩ := hw
  refine lv_astore_n (lv' := [(1, .ref x), (0, .ref b)]) hx hb dL_law_7 rfl hl (by decide) rfl (fun ls hl => ?_)
  refine va_new (ci := 6) (fs := [.null, .int 0, .int 0, .null, .null, .int 0, .null, .int 0, .null, .null, .null, .int 0, .null, .null, .null, .int 0, .null, .null, .null, .null, .int 0, .int 0]) (C := RX6) (T := TX6) (N := 22) hx hb hts inlX6 tyX6 tyX6_ok hown (hts (.classLink RL 10 RX6) (by decide +kernel)) (hts (.instantiable RX6 22) (by decide +kernel)) (hts (.initialized RX6) (by decide +kernel)) hK hP hD hS hA rfl (fun j hj => by rcases (show j = 0 ∨ j = 1 ∨ j = 2 ∨ j = 3 ∨ j = 4 ∨ j = 5 ∨ j = 6 ∨ j = 7 ∨ j = 8 ∨ j = 9 ∨ j = 10 ∨ j = 11 ∨ j = 12 ∨ j = 13 ∨ j = 14 ∨ j = 15 ∨ j = 16 ∨ j = 17 ∨ j = 18 ∨ j = 19 ∨ j = 20 ∨ j = 21 by omega) with rfl | rfl | rfl | rfl | rfl | rfl | rfl | rfl | rfl | rfl | rfl | rfl | rfl | rfl | rfl | rfl | rfl | rfl | rfl | rfl | rfl | rfl <;> rfl) (Nat.le_of_ble_eq_true rfl) (Nat.le_of_ble_eq_true rfl) dL_law_8 (fun y H hP hD hS => ?_)
  have hP : va_P D vwCl [(x, .inr (5, [.ref r, .ref t, .ref im, .int 0, .ref tx, .ref ch, .ref ro, .ref rf, .ref pl, .ref ot, .ref cl])), (r, .inr (1, [.int 100, .int 0, .ref rn])), (rn, .inl (cI, 20, .inl (fun _ => 0))), (t, .inr (1, [.int 100, .int 0, .ref tm])), (tm, .inl (cI, 20, .inl (fun _ => 0))), (im, .inr (1, [.int 100, .int 0, .ref imn])), (imn, .inl (cI, 20, .inl (fun _ => 0))), (tx, .inr (4, [.int 0, .ref tn])), (tn, .inl (cI, 72, .inl (fun _ => 0))), (ch, .inr (0, [.int 0, .ref cn])), (cn, .inl (cI, 48, .inl (fun _ => 0))), (ro, .inl (cR, 3, .inr (.inr (.inr (.inr rof))))), (rf, .inl (cI, 6, .inl (fun _ => 0))), (pl, .inr (3, [.int 0, .ref pn])), (pn, .inl (cI, 200, .inl (fun _ => 0))), (ot, .inr (3, [.int 0, .ref on])), (on, .inl (cI, 200, .inl (fun _ => 0))), (cl, .inl (cI, 9, .inl (fun _ => 0))), (a0, .inr (2, [.int (-1), .ref b0])), (b0, .inl (cI, 40, .inl (fun _ => 0))), (a1, .inr (2, [.int (-1), .ref b1])), (b1, .inl (cI, 40, .inl (fun _ => 0))), (a2, .inr (2, [.int (-1), .ref b2])), (b2, .inl (cI, 40, .inl (fun _ => 0))), (y, .inr (6, [.null, .int 0, .int 0, .null, .null, .int 0, .null, .int 0, .null, .null, .null, .int 0, .null, .null, .null, .int 0, .null, .null, .null, .null, .int 0, .int 0]))] H := hP
  have hD : va_D (fun q : Nat => s.heap.size ≤ q) [(x, .inr (5, [.ref r, .ref t, .ref im, .int 0, .ref tx, .ref ch, .ref ro, .ref rf, .ref pl, .ref ot, .ref cl])), (r, .inr (1, [.int 100, .int 0, .ref rn])), (rn, .inl (cI, 20, .inl (fun _ => 0))), (t, .inr (1, [.int 100, .int 0, .ref tm])), (tm, .inl (cI, 20, .inl (fun _ => 0))), (im, .inr (1, [.int 100, .int 0, .ref imn])), (imn, .inl (cI, 20, .inl (fun _ => 0))), (tx, .inr (4, [.int 0, .ref tn])), (tn, .inl (cI, 72, .inl (fun _ => 0))), (ch, .inr (0, [.int 0, .ref cn])), (cn, .inl (cI, 48, .inl (fun _ => 0))), (ro, .inl (cR, 3, .inr (.inr (.inr (.inr rof))))), (rf, .inl (cI, 6, .inl (fun _ => 0))), (pl, .inr (3, [.int 0, .ref pn])), (pn, .inl (cI, 200, .inl (fun _ => 0))), (ot, .inr (3, [.int 0, .ref on])), (on, .inl (cI, 200, .inl (fun _ => 0))), (cl, .inl (cI, 9, .inl (fun _ => 0))), (a0, .inr (2, [.int (-1), .ref b0])), (b0, .inl (cI, 40, .inl (fun _ => 0))), (a1, .inr (2, [.int (-1), .ref b1])), (b1, .inl (cI, 40, .inl (fun _ => 0))), (a2, .inr (2, [.int (-1), .ref b2])), (b2, .inl (cI, 40, .inl (fun _ => 0))), (y, .inr (6, [.null, .int 0, .int 0, .null, .null, .int 0, .null, .int 0, .null, .null, .null, .int 0, .null, .null, .null, .int 0, .null, .null, .null, .null, .int 0, .int 0]))] := hD
  refine lv_dup hx hb dL_law_11 rfl ?_
  refine wrII (E := rowE) (As := []) (rest := [.ref y]) (wr := [(x, .inr (5, [.ref r, .ref t, .ref im, .int 0, .ref tx, .ref ch, .ref ro, .ref rf, .ref pl, .ref ot, .ref cl])), (r, .inr (1, [.int 100, .int 0, .ref rn])), (rn, .inl (cI, 20, .inl (fun _ => 0))), (t, .inr (1, [.int 100, .int 0, .ref tm])), (tm, .inl (cI, 20, .inl (fun _ => 0))), (im, .inr (1, [.int 100, .int 0, .ref imn])), (imn, .inl (cI, 20, .inl (fun _ => 0))), (tx, .inr (4, [.int 0, .ref tn])), (tn, .inl (cI, 72, .inl (fun _ => 0))), (ch, .inr (0, [.int 0, .ref cn])), (cn, .inl (cI, 48, .inl (fun _ => 0))), (ro, .inl (cR, 3, .inr (.inr (.inr (.inr rof))))), (rf, .inl (cI, 6, .inl (fun _ => 0))), (pl, .inr (3, [.int 0, .ref pn])), (pn, .inl (cI, 200, .inl (fun _ => 0))), (ot, .inr (3, [.int 0, .ref on])), (on, .inl (cI, 200, .inl (fun _ => 0))), (cl, .inl (cI, 9, .inl (fun _ => 0))), (a0, .inr (2, [.int (-1), .ref b0])), (b0, .inl (cI, 40, .inl (fun _ => 0))), (a1, .inr (2, [.int (-1), .ref b1])), (b1, .inl (cI, 40, .inl (fun _ => 0))), (a2, .inr (2, [.int (-1), .ref b2])), (b2, .inl (cI, 40, .inl (fun _ => 0)))]) (A := (fun q : Nat => s.heap.size ≤ q)) rowE_blind (rowE_at hAO) ⟨hx, hb, hml, hown, hts⟩ (c_X6_init l D cI cZ cR y H.size) (cwI 0 hts gL_law_X6_init rfl rfl rfl (hts (.initialized RX6) (by decide +kernel)) (hts (.methodLink RL 12 yX6_init) (by decide +kernel)) (hts (.instanceMethod yX6_init) (by decide +kernel)) rfl (by decide +kernel) ⟨Nat.le_of_ble_eq_true rfl, Nat.le_of_ble_eq_true rfl⟩) hK hN hP hD hS hA [24] [0, 1, 2, 3, 4, 5, 6, 7, 8, 9, 10, 11, 12, 13, 14, 15, 16, 17, 18, 19, 20, 21, 22, 23] rfl (by decide) rfl (by decide) (by decide) rfl hl.1 rfl (Nat.le_of_ble_eq_true rfl) dL_law_12 ⟨Nat.le_of_ble_eq_true rfl, Nat.le_of_ble_eq_true rfl⟩ (fun u H locs hw hP hD hS => ?_)
  obtain ⟨yr, yw, yc, yl, ys, yp, ym, yo, yk, yt, yi, yz, yx, yu⟩ := u
  try dsimp only at hw
  have hP : va_P D vwCl [(x, .inr (5, [.ref r, .ref t, .ref im, .int 0, .ref tx, .ref ch, .ref ro, .ref rf, .ref pl, .ref ot, .ref cl])), (r, .inr (1, [.int 100, .int 0, .ref rn])), (rn, .inl (cI, 20, .inl (fun _ => 0))), (t, .inr (1, [.int 100, .int 0, .ref tm])), (tm, .inl (cI, 20, .inl (fun _ => 0))), (im, .inr (1, [.int 100, .int 0, .ref imn])), (imn, .inl (cI, 20, .inl (fun _ => 0))), (tx, .inr (4, [.int 0, .ref tn])), (tn, .inl (cI, 72, .inl (fun _ => 0))), (ch, .inr (0, [.int 0, .ref cn])), (cn, .inl (cI, 48, .inl (fun _ => 0))), (ro, .inl (cR, 3, .inr (.inr (.inr (.inr rof))))), (rf, .inl (cI, 6, .inl (fun _ => 0))), (pl, .inr (3, [.int 0, .ref pn])), (pn, .inl (cI, 200, .inl (fun _ => 0))), (ot, .inr (3, [.int 0, .ref on])), (on, .inl (cI, 200, .inl (fun _ => 0))), (cl, .inl (cI, 9, .inl (fun _ => 0))), (a0, .inr (2, [.int (-1), .ref b0])), (b0, .inl (cI, 40, .inl (fun _ => 0))), (a1, .inr (2, [.int (-1), .ref b1])), (b1, .inl (cI, 40, .inl (fun _ => 0))), (a2, .inr (2, [.int (-1), .ref b2])), (b2, .inl (cI, 40, .inl (fun _ => 0))), (y, .inr (6, [.ref yr, .int 100, .int 0, .ref yw, .ref yc, .int 0, .ref yl, .int 0, .ref ys, .ref yp, .ref ym, .int 0, .ref yo, .ref yk, .ref yt, .int 0, .ref yi, .ref yz, .ref yx, .ref yu, .int (-9), .int 0])), (yr, .inl (cI, 7, .inl (fun _ => 0))), (yw, .inl (cI, 20, .inl (fun _ => 0))), (yc, .inl (cI, 48, .inl (fun _ => 0))), (yl, .inl (cI, 72, .inl (fun _ => 0))), (ys, .inl (cI, 20, .inl (fun _ => 0))), (yp, .inl (cI, 200, .inl (fun _ => 0))), (ym, .inl (cI, 200, .inl (fun _ => 0))), (yo, .inl (cI, 200, .inl (fun _ => 0))), (yk, .inl (cI, 9, .inl (fun _ => 0))), (yt, .inl (cI, 40, .inl (fun _ => 0))), (yi, .inl (cZ, 3, .inl (fun _ => 0))), (yz, .inl (cI, 3, .inl (fun _ => 0))), (yx, .inl (cI, 120, .inl (fun _ => 0))), (yu, .inl (cI, 20, .inl (fun _ => 0)))] H := hP
  have hD : va_D (fun q : Nat => s.heap.size ≤ q) [(x, .inr (5, [.ref r, .ref t, .ref im, .int 0, .ref tx, .ref ch, .ref ro, .ref rf, .ref pl, .ref ot, .ref cl])), (r, .inr (1, [.int 100, .int 0, .ref rn])), (rn, .inl (cI, 20, .inl (fun _ => 0))), (t, .inr (1, [.int 100, .int 0, .ref tm])), (tm, .inl (cI, 20, .inl (fun _ => 0))), (im, .inr (1, [.int 100, .int 0, .ref imn])), (imn, .inl (cI, 20, .inl (fun _ => 0))), (tx, .inr (4, [.int 0, .ref tn])), (tn, .inl (cI, 72, .inl (fun _ => 0))), (ch, .inr (0, [.int 0, .ref cn])), (cn, .inl (cI, 48, .inl (fun _ => 0))), (ro, .inl (cR, 3, .inr (.inr (.inr (.inr rof))))), (rf, .inl (cI, 6, .inl (fun _ => 0))), (pl, .inr (3, [.int 0, .ref pn])), (pn, .inl (cI, 200, .inl (fun _ => 0))), (ot, .inr (3, [.int 0, .ref on])), (on, .inl (cI, 200, .inl (fun _ => 0))), (cl, .inl (cI, 9, .inl (fun _ => 0))), (a0, .inr (2, [.int (-1), .ref b0])), (b0, .inl (cI, 40, .inl (fun _ => 0))), (a1, .inr (2, [.int (-1), .ref b1])), (b1, .inl (cI, 40, .inl (fun _ => 0))), (a2, .inr (2, [.int (-1), .ref b2])), (b2, .inl (cI, 40, .inl (fun _ => 0))), (y, .inr (6, [.ref yr, .int 100, .int 0, .ref yw, .ref yc, .int 0, .ref yl, .int 0, .ref ys, .ref yp, .ref ym, .int 0, .ref yo, .ref yk, .ref yt, .int 0, .ref yi, .ref yz, .ref yx, .ref yu, .int (-9), .int 0])), (yr, .inl (cI, 7, .inl (fun _ => 0))), (yw, .inl (cI, 20, .inl (fun _ => 0))), (yc, .inl (cI, 48, .inl (fun _ => 0))), (yl, .inl (cI, 72, .inl (fun _ => 0))), (ys, .inl (cI, 20, .inl (fun _ => 0))), (yp, .inl (cI, 200, .inl (fun _ => 0))), (ym, .inl (cI, 200, .inl (fun _ => 0))), (yo, .inl (cI, 200, .inl (fun _ => 0))), (yk, .inl (cI, 9, .inl (fun _ => 0))), (yt, .inl (cI, 40, .inl (fun _ => 0))), (yi, .inl (cZ, 3, .inl (fun _ => 0))), (yz, .inl (cI, 3, .inl (fun _ => 0))), (yx, .inl (cI, 120, .inl (fun _ => 0))), (yu, .inl (cI, 20, .inl (fun _ => 0)))] := hD
  refine lv_astore_n (lv' := [(2, .ref y), (1, .ref x), (0, .ref b)]) hx hb dL_law_15 rfl hl (by decide) rfl (fun ls hl => ?_)
  refine lv_iconst (v := 0) hx hb dL_law_16 (by decide) ?_
  refine lv_istore_n (lv' := [(3, .int 0), (2, .ref y), (1, .ref x), (0, .ref b)]) hx hb dL_law_17 rfl hl (by decide) rfl (fun ls hl => ?_)
  refine W.widen (k := 600000) (n := 7302250) (Nat.le_of_ble_eq_true rfl) (Nat.le_of_ble_eq_true rfl) ?_
  have hI : LInv D cI cZ cR (fun q : Nat => s.heap.size ≤ q) (fun k => [x, r, rn, t, tm, im, imn, tx, tn, ch, cn, ro, rf, pl, pn, ot, on, cl, a0, b0, a1, b1, a2, b2, y, yr, yw, yc, yl, ys, yp, ym, yo, yk, yt, yi, yz, yx, yu].getD k 0) rof s H locs := by
    refine ⟨0, 100, 0, 100, 0, 100, 0, 0, 0, 0, 0, -1, -1, -1, 0, 0, -9, 0, fun _ => 0, fun _ => 0, fun _ => 0, fun _ => 0, fun _ => 0, fun _ => 0, fun _ => 0, fun _ => 0, fun _ => 0, fun _ => 0, fun _ => 0, fun _ => 0, fun _ => 0, fun _ => 0, fun _ => 0, fun _ => 0, fun _ => 0, fun _ => 0, fun _ => 0, fun _ => 0, fun _ => 0, fun _ => 0, ⟨okS_start, tz_0, czO_0 _ _ _, Or.inl ⟨rfl, rfl⟩, fun _ _ => rfl, Or.inl ⟨rfl, rfl⟩, Or.inl ⟨rfl, rfl⟩, Or.inl ⟨rfl, rfl⟩⟩, hP.sub [0, 1, 2, 3, 4, 5, 6, 7, 8, 9, 10, 11, 12, 13, 14, 15, 16, 17, 18, 19, 20, 21, 22, 23, 24, 25, 26, 27, 28, 29, 30, 31, 32, 33, 34, 35, 36, 37, 38] rfl, hD.sub [0, 1, 2, 3, 4, 5, 6, 7, 8, 9, 10, 11, 12, 13, 14, 15, 16, 17, 18, 19, 20, 21, 22, 23, 24, 25, 26, 27, 28, 29, 30, 31, 32, 33, 34, 35, 36, 37, 38] (by decide) rfl, hS⟩
  exact law_loop hr hlocks ⟨hx, hb, hml, hown, hts, hX, hbl, hbA, hA, hK, hN, hUn, hro0, hro1, hro2, hL⟩ (L + 1) 0 (Nat.zero_le L) (by omega) H locs hI ls (lv_sub hl [0, 3, 2, 1] rfl)
set_option maxHeartbeats 4000000 in
theorem lw_walk (l : Launch) (hflags : l.flags = flags0) (b : Addr) (xs : List Int32) : MetFree l x (headSpec (Jvm.Cond.code x code maxLocals ret :: tables_1) room_1) (lw_P b xs) (fun _ _ _ _ _ => True) lw_Q := by
  refine MetFree.of_bodyS (code := code) (maxLocals := maxLocals) (ret := ret) (by decide) ?_ ?_
  · intro args s m h hn
    obtain ⟨meth, c, h1, h2, h3, h4, h5, h6, -, -⟩ := Cond.code_spec hn (atoms_spec (ws := Jvm.Cond.code x code maxLocals ret :: tables_1) h _ List.mem_cons_self)
    exact ⟨meth, c, h1, h2, h3, h4, h5, h6⟩
  · intro p e s m args below meth c s₁ B hml0 hP _
    obtain ⟨rfl, hx, hbd, hgv⟩ := hP
    obtain ⟨scr, harrAt, hlist, hof, hsmall⟩ := hx
    obtain ⟨hcb, hkn, -, -⟩ := State.arrayAt?_spec harrAt
    have hown : s.vm.findClass R_law = some m.cls := findClass_of_methodNamed B.named
    have hts0 : ∀ c ∈ (Jvm.Cond.code x code maxLocals ret :: tables_1), c.before #[Value.ref b] s = true := atoms_spec (ws := Jvm.Cond.code x code maxLocals ret :: tables_1) B.pre
    have hts : ∀ w ∈ lw_tbl, w.before #[Value.ref b] s = true := k2_hts_sels lw_privs (fun w hw => hts0 w (List.mem_cons_of_mem _ hw)) lw_privs_ok
    have hml : c.maxLocals = 4 := B.maxLocals_eq (hts0 _ List.mem_cons_self)
    have X₀ : Stand p l e room_1 s m #[Value.ref b] below meth c s₁ [] 0 0 := Stand.of_body B
    have hh0 : s₁.heap = s.heap := by rw [B.state]; rfl
    have hsz : scr.slots.size = xs.length := by rw [← Array.length_toList, hlist, List.length_map]
    have hval : ∀ j : Nat, j < xs.length → scr.slots[j]? = some (.int (xs.getD j 0)) := fun j hj => by
      rw [← Array.getElem?_toList, hlist]
      simp [hj]
    have hbl : b < s.heap.size := (Array.getElem?_eq_some_iff.mp hcb).1
    have hX : va_X b xs.length (fun j => xs.getD j 0) s s.heap := ⟨scr, hcb, hof, hkn, hsz, hval⟩
    have K : W p l e room_1 s m #[Value.ref b] below meth c s₁.heap [] 0 0 (lw_Z below #[Value.ref b] s) (entryFrame m ([Value.ref b] : List Value).toArray 4) := by
      rw [hh0]
      exact whole_start l hflags hbd ⟨B.exec, B.bytes, B.returns, hml, hown, hts, hX, hbl, B.notSynchronized, hgv⟩
    obtain ⟨t, a1, o, b1, b2, b3⟩ := K s₁ rfl X₀
    exact ⟨t, o, a1, b1, b2, b3⟩
theorem lw_pre_spec {args : Array Value} {s : State} (h : (Jvm.Cond.and given_1 narrow_1).before args s = true) (hr : rest_1_c.before args s = true) : ∃ (b : Addr) (xs : List Int32), lw_P b xs args s := by
  have hs := flat_of_before _ h
  have hq := flat_of_before _ hr
  have hc : (Cond.count 1).before args s = true := hs _ (by decide +kernel)
  have harr : (Cond.arrayOf (.arg 0) .int).before args s = true := hs _ (by decide +kernel)
  have hle : (Cond.le (.length (.arg 0)) (.int 2560)).before args s = true := hs _ (by decide +kernel)
  have hlen : (Cond.isInt (.length (.arg 0))).before args s = true := hq _ (by decide +kernel)
  have hall : (Cond.all (.arg 0) (.isInt (.elem (.arg 0) (.index 0)))).before args s = true := hq _ (by decide +kernel)
  obtain ⟨b, xs, hb, hx⟩ := State.ints_of_pre rfl harr hlen hall
  have hsm : xs.length < 2 ^ 31 := hx.choose_spec.2.2.2
  have hev : (Term.length (.arg 0)).eval args s none [] s = some (.int xs.length.toInt32) := hx.length_eval hb
  have hv := Cond.le_ints hev (show (Term.int 2560).eval args s none [] s = some (.int 2560) from rfl)
  have hd : xs.length.toInt32 ≤ 2560 := by
    simpa [Cond.before, Cond.holds, hv] using hle
  have hN : xs.length ≤ 2560 := (Int32.ofNat_le_ofNat hsm (by decide)).mp (show Int32.ofNat xs.length ≤ Int32.ofNat 2560 from hd)
  exact ⟨b, xs, Cond.one_arg hc (show args[0]? = some (.ref b) from hb), hx, hN, h⟩
theorem lw_comes (l : Launch) (hflags : l.flags = flags0) : Comes l x (Jvm.Cond.code x code maxLocals ret :: tables_1) room_1 (fun tb e args s => Calls_1 tb e args s ∧ rest_1 tb e args s ∧ Pre_1 tb e args s)
    (fun _ _ args s o t => lw_Q args s o t) := by
  intro p e ha hc hk s m args below hf hfit hheap happ hpre
  obtain ⟨b, xs, hP⟩ := lw_pre_spec hpre.2.2 hpre.2.1
  obtain ⟨k, o, h1, h2, h3, hQ⟩ := lw_walk l hflags b xs p e ha hc hk s m args below hf ((Spec.applies_iff_loose hf).mp happ).1 hP trivial
  exact ⟨k, o, h1, h2, h3, hQ⟩
theorem lw_frame {s t : State} {o : Outcome} {args : Array Value} (h : Framed s o t [] 600000 7302250) :
    Framed s o t (fieldLocs frame_1_writes args s ++ arrayLocs frame_1_arrays args s ++ staticLocs frame_1_statics s) 600000 7302250 := h
theorem lw_limb (L : Cond) (hL : ∀ (args : Array Value) (s t : State), L.after args s (.returned (some (.int 1))) t = true) :
    ArmFor flags0 classFile x code maxLocals ret World_1 tables_1 room_1 Calls_1 rest_1 Pre_1
      (fun tb e a s o t => postC L tb e a s o t ∧ Framed s o t (fieldLocs frame_1_writes a s ++ arrayLocs frame_1_arrays a s ++ staticLocs frame_1_statics s) 600000 7302250) := by
  intro l hflags _ _ p e ha hc hk s m args below hf hfit hheap happ hpre
  obtain ⟨k, o, h1, h2, h3, rfl, hF⟩ := lw_comes l hflags p e ha hc hk s m args below hf hfit hheap happ hpre
  exact ⟨k, _, h1, h2, h3, hL args s _, lw_frame hF⟩
theorem i_vc : Claimed_1_1 ∧ Claimed_1_2 := ⟨lw_limb limb_1_1 (fun args s t => by simp [limb_1_1, Cond.after, Cond.holds, Cond.value]), lw_limb limb_1_2 (fun args s t => Cond.after_iff.mpr (by
  first | (rw [show limb_1_2 = Cond.eq .result (.int 1) from rfl, Cond.eq_ints (x := 1) (y := 1) rfl rfl]; simp; done) | (simp [limb_1_2, Cond.value, Term.eval]; done)))⟩
