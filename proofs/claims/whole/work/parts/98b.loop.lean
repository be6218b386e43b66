set_option maxHeartbeats 8000000 in
set_option maxRecDepth 100000 in
/-- the law's loop -/
theorem law_loop {p : Program} {l : Launch} {e : Env} {s : State} {m : MethodId} {below : List Frame} {meth : Method} {c : Code} {D : va_G} {cI cZ cR : ClassId} {b L : Nat} {xs : Nat → Int32} {ad : Nat → Nat} {rof : Nat → Option Nat} (hr : meth.sig.returnType = ret) (hlocks : meth.locks = false) (C1 : lawC p s m c D cI cZ cR (fun q : Nat => s.heap.size ≤ q) b L xs ad rof) : ∀ (n i : Nat), i ≤ L → L + 1 ≤ i + n → ∀ (H : Heap) (locs : List Loc), LInv D cI cZ cR (fun q : Nat => s.heap.size ≤ q) ad rof s H locs → ∀ (ls : Array Slot), lv_has ls 4 [(3, .int (nI i)), (0, .ref b), (1, .ref (ad 0)), (2, .ref (ad 24))] → W p l e room_1 s m #[Value.ref b] below meth c H locs 600000 7302250 (lw_Z below #[Value.ref b] s) (F0 m 18 ls []) := by
  obtain ⟨hx, hb, hml, hown, hts, hX, hbl, hbA, hA, hK, hN, hUn, hro0, hro1, hro2, hL5⟩ := id C1
  intro n
  induction n with
  | zero =>
    intro i h1 h2
    exact absurd h2 (by omega)
  | succ n ih =>
    intro i hi hin H locs hI ls hl
    have hS : va_S (fun q : Nat => s.heap.size ≤ q) s.heap H locs := by
      obtain ⟨_, _, _, _, _, _, _, _, _, _, _, _, _, _, _, _, _, _, _, _, _, _, _, _, _, _, _, _, _, _, _, _, _, _, _, _, _, _, _, _, _, _, _, h9⟩ := id hI
      exact h9
    refine lv_iload_n hx hb dL_law_18 rfl (lv_at hl 0 rfl) ?_
    refine lv_aload_n hx hb dL_law_19 rfl (lv_at hl 1 rfl) ?_
    refine va_slen hx hb hX hbl hbA hS dL_law_20 ?_
    refine lv_iconst (v := 5) hx hb dL_law_21 (by decide) ?_
    refine lv_isub hx hb dL_law_22 ?_
    have h5 : (Int32.ofNat L - 5).toInt = (L : Int) - 5 := pk_sub_toInt (a := L) (b := 5) (by omega) (by omega)
    have hti : (nI i).toInt = (i : Int) := nI_toInt (by omega)
    refine lv_icmp_gt (tgt := 1584) hx hb dL_law_23 (by decide) (fun c9 => ?_) (fun c9 => ?_)
    · refine lv_iconst (v := 1) hx hb dL_law_1584 (by decide) ?_
      refine va_forget (fun q hq => hS.2.2 q hq) ?_
      exact lw_ret hx hb hr hlocks dL_law_1585
    · have hi5 : i + 5 ≤ L := by
        rw [fa_lt, h5, hti] at c9
        omega
      have kont : ∀ (H : Heap) (locs : List Loc), LInv D cI cZ cR (fun q : Nat => s.heap.size ≤ q) ad rof s H locs → ∀ (ls : Array Slot), lv_has ls 4 [(3, .int (nI (i + 5))), (0, .ref b), (1, .ref (ad 0)), (2, .ref (ad 24))] → W p l e room_1 s m #[Value.ref b] below meth c H locs 600000 7302250 (lw_Z below #[Value.ref b] s) (F0 m 18 ls []) := fun H locs hI ls hl => ih (i + 5) hi5 (by omega) H locs hI ls hl
      have hl4 := lv_sub hl [1, 2, 3, 0] rfl
      refine lv_aload_n hx hb dL_law_26 rfl (lv_at hl 1 rfl) ?_
      refine lv_iload_n hx hb dL_law_27 rfl (lv_at hl 0 rfl) ?_
      refine va_sld hx hb hX hbl hbA hS (vp_in_nI (by omega) (by omega)) dL_law_28 ?_
      refine lv_bipush (v := 63) hx hb dL_law_29 (by decide) ?_
      refine lv_iand hx hb dL_law_31 ?_
      generalize xs (nI i).toNatClampNeg &&& 63 = x9
      by_cases c_0 : x9 = 0
      · refine lv_tableIn (off := 172) (tgt := 204) hx hb dL_law_32 (by rw [c_0]; decide) (by rw [c_0]; decide) (by rw [c_0]; rfl) (by decide) ?_
        exact law_letter C1 hi5 hI hl4 kont
      by_cases c_1 : x9 = 1
      · refine lv_tableIn (off := 195) (tgt := 227) hx hb dL_law_32 (by rw [c_1]; decide) (by rw [c_1]; decide) (by rw [c_1]; rfl) (by decide) ?_
        exact law_walk C1 hi5 hI hl4 kont
      by_cases c_2 : x9 = 2
      · refine lv_tableIn (off := 208) (tgt := 240) hx hb dL_law_32 (by rw [c_2]; decide) (by rw [c_2]; decide) (by rw [c_2]; rfl) (by decide) ?_
        exact law_circle C1 hi5 hI hl4 kont
      by_cases c_3 : x9 = 3
      · refine lv_tableIn (off := 231) (tgt := 263) hx hb dL_law_32 (by rw [c_3]; decide) (by rw [c_3]; decide) (by rw [c_3]; rfl) (by decide) ?_
        exact law_walker C1 hi5 hI hl4 kont
      by_cases c_4 : x9 = 4
      · refine lv_tableIn (off := 284) (tgt := 316) hx hb dL_law_32 (by rw [c_4]; decide) (by rw [c_4]; decide) (by rw [c_4]; rfl) (by decide) ?_
        exact law_change C1 hi5 hI hl4 kont
      by_cases c_5 : x9 = 5
      · refine lv_tableIn (off := 327) (tgt := 359) hx hb dL_law_32 (by rw [c_5]; decide) (by rw [c_5]; decide) (by rw [c_5]; rfl) (by decide) ?_
        exact law_drop C1 hi5 hI hl4 kont
      by_cases c_6 : x9 = 6
      · refine lv_tableIn (off := 340) (tgt := 372) hx hb dL_law_32 (by rw [c_6]; decide) (by rw [c_6]; decide) (by rw [c_6]; rfl) (by decide) ?_
        exact law_of C1 hi5 hI hl4 kont
      by_cases c_7 : x9 = 7
      · refine lv_tableIn (off := 373) (tgt := 405) hx hb dL_law_32 (by rw [c_7]; decide) (by rw [c_7]; decide) (by rw [c_7]; rfl) (by decide) ?_
        exact law_taken C1 hi5 hI hl4 kont
      by_cases c_8 : x9 = 8
      · refine lv_tableIn (off := 406) (tgt := 438) hx hb dL_law_32 (by rw [c_8]; decide) (by rw [c_8]; decide) (by rw [c_8]; rfl) (by decide) ?_
        exact law_place C1 hi5 hI hl4 kont
      by_cases c_9 : x9 = 9
      · refine lv_tableIn (off := 439) (tgt := 471) hx hb dL_law_32 (by rw [c_9]; decide) (by rw [c_9]; decide) (by rw [c_9]; rfl) (by decide) ?_
        exact law_marks C1 hi5 hI hl4 kont
      by_cases c_10 : x9 = 10
      · refine lv_tableIn (off := 482) (tgt := 514) hx hb dL_law_32 (by rw [c_10]; decide) (by rw [c_10]; decide) (by rw [c_10]; rfl) (by decide) ?_
        exact law_lengths C1 hi5 hI hl4 kont
      by_cases c_11 : x9 = 11
      · refine lv_tableIn (off := 525) (tgt := 557) hx hb dL_law_32 (by rw [c_11]; decide) (by rw [c_11]; decide) (by rw [c_11]; rfl) (by decide) ?_
        exact law_many C1 hi5 hI hl4 kont
      by_cases c_12 : x9 = 12
      · refine lv_tableIn (off := 568) (tgt := 600) hx hb dL_law_32 (by rw [c_12]; decide) (by rw [c_12]; decide) (by rw [c_12]; rfl) (by decide) ?_
        exact law_seen C1 hi5 hI hl4 kont
      by_cases c_13 : x9 = 13
      · refine lv_tableIn (off := 611) (tgt := 643) hx hb dL_law_32 (by rw [c_13]; decide) (by rw [c_13]; decide) (by rw [c_13]; rfl) (by decide) ?_
        exact law_split C1 hi5 hI hl4 kont
      by_cases c_14 : x9 = 14
      · refine lv_tableIn (off := 654) (tgt := 686) hx hb dL_law_32 (by rw [c_14]; decide) (by rw [c_14]; decide) (by rw [c_14]; rfl) (by decide) ?_
        exact law_closest C1 hi5 hI hl4 kont
      by_cases c_15 : x9 = 15
      · refine lv_tableIn (off := 697) (tgt := 729) hx hb dL_law_32 (by rw [c_15]; decide) (by rw [c_15]; decide) (by rw [c_15]; rfl) (by decide) ?_
        exact law_off C1 hi5 hI hl4 kont
      by_cases c_16 : x9 = 16
      · refine lv_tableIn (off := 741) (tgt := 773) hx hb dL_law_32 (by rw [c_16]; decide) (by rw [c_16]; decide) (by rw [c_16]; rfl) (by decide) ?_
        exact law_nearer C1 hi5 hI hl4 kont
      by_cases c_17 : x9 = 17
      · refine lv_tableIn (off := 784) (tgt := 816) hx hb dL_law_32 (by rw [c_17]; decide) (by rw [c_17]; decide) (by rw [c_17]; rfl) (by decide) ?_
        exact law_crowded C1 hi5 hI hl4 kont
      by_cases c_18 : x9 = 18
      · refine lv_tableIn (off := 837) (tgt := 869) hx hb dL_law_32 (by rw [c_18]; decide) (by rw [c_18]; decide) (by rw [c_18]; rfl) (by decide) ?_
        exact law_meeting C1 hi5 hI hl4 kont
      by_cases c_19 : x9 = 19
      · refine lv_tableIn (off := 880) (tgt := 912) hx hb dL_law_32 (by rw [c_19]; decide) (by rw [c_19]; decide) (by rw [c_19]; rfl) (by decide) ?_
        exact law_shared C1 hi5 hI hl4 kont
      by_cases c_20 : x9 = 20
      · refine lv_tableIn (off := 933) (tgt := 965) hx hb dL_law_32 (by rw [c_20]; decide) (by rw [c_20]; decide) (by rw [c_20]; rfl) (by decide) ?_
        exact law_odds C1 hi5 hI hl4 kont
      by_cases c_21 : x9 = 21
      · refine lv_tableIn (off := 977) (tgt := 1009) hx hb dL_law_32 (by rw [c_21]; decide) (by rw [c_21]; decide) (by rw [c_21]; rfl) (by decide) ?_
        exact law_terms C1 hi5 hI hl4 kont
      by_cases c_22 : x9 = 22
      · refine lv_tableIn (off := 1010) (tgt := 1042) hx hb dL_law_32 (by rw [c_22]; decide) (by rw [c_22]; decide) (by rw [c_22]; rfl) (by decide) ?_
        exact law_convergent C1 hi5 hI hl4 kont
      by_cases c_23 : x9 = 23
      · refine lv_tableIn (off := 1054) (tgt := 1086) hx hb dL_law_32 (by rw [c_23]; decide) (by rw [c_23]; decide) (by rw [c_23]; rfl) (by decide) ?_
        exact law_nearest C1 hi5 hI hl4 kont
      by_cases c_24 : x9 = 24
      · refine lv_tableIn (off := 1097) (tgt := 1129) hx hb dL_law_32 (by rw [c_24]; decide) (by rw [c_24]; decide) (by rw [c_24]; rfl) (by decide) ?_
        exact law_floors C1 hi5 hI hl4 kont
      by_cases c_25 : x9 = 25
      · refine lv_tableIn (off := 1131) (tgt := 1163) hx hb dL_law_32 (by rw [c_25]; decide) (by rw [c_25]; decide) (by rw [c_25]; rfl) (by decide) ?_
        exact law_rests C1 hi5 hI hl4 kont
      by_cases c_26 : x9 = 26
      · refine lv_tableIn (off := 1165) (tgt := 1197) hx hb dL_law_32 (by rw [c_26]; decide) (by rw [c_26]; decide) (by rw [c_26]; rfl) (by decide) ?_
        exact law_reciprocal C1 hi5 hI hl4 kont
      by_cases c_27 : x9 = 27
      · refine lv_tableIn (off := 1189) (tgt := 1221) hx hb dL_law_32 (by rw [c_27]; decide) (by rw [c_27]; decide) (by rw [c_27]; rfl) (by decide) ?_
        exact law_lots C1 hi5 hI hl4 kont
      by_cases c_28 : x9 = 28
      · refine lv_tableIn (off := 1232) (tgt := 1264) hx hb dL_law_32 (by rw [c_28]; decide) (by rw [c_28]; decide) (by rw [c_28]; rfl) (by decide) ?_
        exact law_list C1 hi5 hI hl4 kont
      by_cases c_29 : x9 = 29
      · refine lv_tableIn (off := 1265) (tgt := 1297) hx hb dL_law_32 (by rw [c_29]; decide) (by rw [c_29]; decide) (by rw [c_29]; rfl) (by decide) ?_
        exact law_put C1 hi5 hI hl4 kont
      by_cases c_30 : x9 = 30
      · refine lv_tableIn (off := 1308) (tgt := 1340) hx hb dL_law_32 (by rw [c_30]; decide) (by rw [c_30]; decide) (by rw [c_30]; rfl) (by decide) ?_
        exact law_look C1 hi5 hI hl4 kont
      by_cases c_31 : x9 = 31
      · refine lv_tableIn (off := 1342) (tgt := 1374) hx hb dL_law_32 (by rw [c_31]; decide) (by rw [c_31]; decide) (by rw [c_31]; rfl) (by decide) ?_
        exact law_lays C1 hi5 hI hl4 kont
      by_cases c_32 : x9 = 32
      · refine lv_tableIn (off := 1385) (tgt := 1417) hx hb dL_law_32 (by rw [c_32]; decide) (by rw [c_32]; decide) (by rw [c_32]; rfl) (by decide) ?_
        exact law_judge C1 hi5 hI hl4 kont
      by_cases c_33 : x9 = 33
      · refine lv_tableIn (off := 1418) (tgt := 1450) hx hb dL_law_32 (by rw [c_33]; decide) (by rw [c_33]; decide) (by rw [c_33]; rfl) (by decide) ?_
        exact law_steps C1 hi5 hI hl4 kont
      by_cases c_34 : x9 = 34
      · refine lv_tableIn (off := 1451) (tgt := 1483) hx hb dL_law_32 (by rw [c_34]; decide) (by rw [c_34]; decide) (by rw [c_34]; rfl) (by decide) ?_
        exact law_kinds C1 hi5 hI hl4 kont
      by_cases c_35 : x9 = 35
      · refine lv_tableIn (off := 1484) (tgt := 1516) hx hb dL_law_32 (by rw [c_35]; decide) (by rw [c_35]; decide) (by rw [c_35]; rfl) (by decide) ?_
        exact law_undo C1 hi5 hI hl4 kont
      by_cases c_36 : x9 = 36
      · refine lv_tableIn (off := 1497) (tgt := 1529) hx hb dL_law_32 (by rw [c_36]; decide) (by rw [c_36]; decide) (by rw [c_36]; rfl) (by decide) ?_
        exact law_image C1 hi5 hI hl4 kont
      by_cases c_37 : x9 = 37
      · refine lv_tableIn (off := 1510) (tgt := 1542) hx hb dL_law_32 (by rw [c_37]; decide) (by rw [c_37]; decide) (by rw [c_37]; rfl) (by decide) ?_
        exact law_on C1 hi5 hI hl4 kont
      by_cases c_38 : x9 = 38
      · refine lv_tableIn (off := 1523) (tgt := 1555) hx hb dL_law_32 (by rw [c_38]; decide) (by rw [c_38]; decide) (by rw [c_38]; rfl) (by decide) ?_
        exact law_count C1 hi5 hI hl4 kont
      by_cases co : x9.toInt < 0 ∨ 38 < x9.toInt
      · refine lv_tableOut (tgt := 1578) hx hb dL_law_32 co (by decide) ?_
        refine lv_iinc (v := nI i + 5) (lv' := [(3, .int (nI i + 5)), (0, .ref b), (1, .ref (ad 0)), (2, .ref (ad 24))]) hx hb dL_law_1578 hl (k := 0) rfl (by rfl) (by decide) rfl (fun ls hl => ?_)
        refine lv_goto (tgt := 18) hx hb dL_law_1581 (by decide) ?_
        rw [show nI i + 5 = nI (i + 5) from nI_add i 5] at hl
        exact kont H locs hI ls hl
      · exact False.elim (by have q0 := lv_neT c_0 (show (0 : Int32).toInt = 0 by decide); have q1 := lv_neT c_1 (show (1 : Int32).toInt = 1 by decide); have q2 := lv_neT c_2 (show (2 : Int32).toInt = 2 by decide); have q3 := lv_neT c_3 (show (3 : Int32).toInt = 3 by decide); have q4 := lv_neT c_4 (show (4 : Int32).toInt = 4 by decide); have q5 := lv_neT c_5 (show (5 : Int32).toInt = 5 by decide); have q6 := lv_neT c_6 (show (6 : Int32).toInt = 6 by decide); have q7 := lv_neT c_7 (show (7 : Int32).toInt = 7 by decide); have q8 := lv_neT c_8 (show (8 : Int32).toInt = 8 by decide); have q9 := lv_neT c_9 (show (9 : Int32).toInt = 9 by decide); have q10 := lv_neT c_10 (show (10 : Int32).toInt = 10 by decide); have q11 := lv_neT c_11 (show (11 : Int32).toInt = 11 by decide); have q12 := lv_neT c_12 (show (12 : Int32).toInt = 12 by decide); have q13 := lv_neT c_13 (show (13 : Int32).toInt = 13 by decide); have q14 := lv_neT c_14 (show (14 : Int32).toInt = 14 by decide); have q15 := lv_neT c_15 (show (15 : Int32).toInt = 15 by decide); have q16 := lv_neT c_16 (show (16 : Int32).toInt = 16 by decide); have q17 := lv_neT c_17 (show (17 : Int32).toInt = 17 by decide); have q18 := lv_neT c_18 (show (18 : Int32).toInt = 18 by decide); have q19 := lv_neT c_19 (show (19 : Int32).toInt = 19 by decide); have q20 := lv_neT c_20 (show (20 : Int32).toInt = 20 by decide); have q21 := lv_neT c_21 (show (21 : Int32).toInt = 21 by decide); have q22 := lv_neT c_22 (show (22 : Int32).toInt = 22 by decide); have q23 := lv_neT c_23 (show (23 : Int32).toInt = 23 by decide); have q24 := lv_neT c_24 (show (24 : Int32).toInt = 24 by decide); have q25 := lv_neT c_25 (show (25 : Int32).toInt = 25 by decide); have q26 := lv_neT c_26 (show (26 : Int32).toInt = 26 by decide); have q27 := lv_neT c_27 (show (27 : Int32).toInt = 27 by decide); have q28 := lv_neT c_28 (show (28 : Int32).toInt = 28 by decide); have q29 := lv_neT c_29 (show (29 : Int32).toInt = 29 by decide); have q30 := lv_neT c_30 (show (30 : Int32).toInt = 30 by decide); have q31 := lv_neT c_31 (show (31 : Int32).toInt = 31 by decide); have q32 := lv_neT c_32 (show (32 : Int32).toInt = 32 by decide); have q33 := lv_neT c_33 (show (33 : Int32).toInt = 33 by decide); have q34 := lv_neT c_34 (show (34 : Int32).toInt = 34 by decide); have q35 := lv_neT c_35 (show (35 : Int32).toInt = 35 by decide); have q36 := lv_neT c_36 (show (36 : Int32).toInt = 36 by decide); have q37 := lv_neT c_37 (show (37 : Int32).toInt = 37 by decide); have q38 := lv_neT c_38 (show (38 : Int32).toInt = 38 by decide); omega)
