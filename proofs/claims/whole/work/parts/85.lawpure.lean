/-! ===== the law: what ties the two sides together ===== -/
abbrev FG (F G : Nat → Int32) : Prop := ∀ j, j < 6 → F j = G (j + 1)
abbrev isCode (n : Int32) : Prop := n = 0 ∨ n = -1 ∨ n = -2 ∨ n = -3 ∨ n = -4 ∨ n = -6 ∨ n = -11 ∨ n = -13 ∨ n = -14
theorem FG_at {F G : Nat → Int32} (h : FG F G) (k : Nat) {n : Int32} (hF : rf_bump F n = upd F k (F k + 1)) (hG : md_bump G n = upd G (k + 1) (G (k + 1) + 1)) (hk : k < 6) : FG (rf_bump F n) (md_bump G n) := by
  intro j hj
  rw [hF, hG]
  by_cases e : j = k
  · rw [e, pk_us, pk_us, h k hk]
  · rw [pk_un e, pk_un (by omega)]
    exact h j hj
theorem FG_bump {F G : Nat → Int32} {n : Int32} (hn : isCode n) (h0 : ¬ n = 0) (h : FG F G) : FG (rf_bump F n) (md_bump G n) := by
  rcases hn with e | e | e | e | e | e | e | e | e
  · exact absurd e h0
  · subst e; exact FG_at h 0 rfl rfl (by omega)
  · subst e; exact FG_at h 1 rfl rfl (by omega)
  · subst e; exact FG_at h 2 rfl rfl (by omega)
  · subst e; exact FG_at h 3 rfl rfl (by omega)
  · subst e; exact FG_at h 5 rfl rfl (by omega)
  · subst e; rw [bmp_11, bmm_11]; exact h
  · subst e; rw [bmp_13, bmm_13]; exact h
  · subst e; rw [bmp_14, bmm_14]; exact h
theorem FG_if {F G : Nat → Int32} {n : Int32} (hn : isCode n) (h : FG F G) : FG (if n = 0 then F else rf_bump F n) (if n = 0 then G else md_bump G n) := by
  by_cases h0 : n = 0
  · rw [if_pos h0, if_pos h0]; exact h
  · rw [if_neg h0, if_neg h0]; exact FG_bump hn h0 h
theorem FG_1 {F G : Nat → Int32} (h : FG F G) : FG (rf_bump F (-1)) (md_bump G (-1)) := FG_bump (by decide) (by decide) h
theorem cd_num (nw w n a b : Int32) : isCode (rf_num nw w n a b) := by
  unfold rf_num
  repeat' split
  all_goals decide
theorem cd_beh (nw w n k ks : Int32) : isCode (rf_beh nw w n k ks) := by
  unfold rf_beh
  split
  · split <;> decide
  · exact cd_num _ _ _ _ _
theorem cd_nth (nw w n j a : Int32) : isCode (rf_nth nw w n j a) := by
  unfold rf_nth
  repeat' split
  all_goals decide
theorem cd_cro (nw w n mo k : Int32) : isCode (rf_cro nw w n mo k) := by
  unfold rf_cro
  repeat' split
  all_goals decide
theorem cd_of (nw w k : Int32) : isCode (rf_of nw w k) := by
  unfold rf_of
  repeat' split
  all_goals decide
theorem cd_let (z x : Int32) : isCode (rf_let z x) := by
  unfold rf_let
  repeat' split
  all_goals decide
theorem cd_cir (v : Nat → Int32) (nw n : Int32) : isCode (rf_cir v nw n) := by
  unfold rf_cir
  repeat' split
  all_goals decide
theorem cd_wal (q nw a b c d : Int32) : isCode (rf_wal q nw a b c d) := by
  unfold rf_wal
  repeat' split
  all_goals decide
theorem cd_chg (q nw w k x : Int32) : isCode (rf_chg q nw w k x) := by
  unfold rf_chg
  repeat' split
  all_goals decide
theorem cd_z (z : Int32) : isCode (rf_z z) := by
  unfold rf_z
  repeat' split
  all_goals decide
theorem cd_tak (nw w k : Int32) : isCode (rf_tak nw w k) := by
  unfold rf_tak
  repeat' split
  all_goals decide
theorem cd_mee (nw o u k : Int32) : isCode (rf_mee nw o u k) := by
  unfold rf_mee
  repeat' split
  all_goals decide
theorem cd_sha (nw o u n k : Int32) : isCode (rf_sha nw o u n k) := by
  unfold rf_sha
  split
  · exact cd_beh _ _ _ _ _
  · decide
theorem cd_ter (nw w j : Int32) : isCode (rf_ter nw w j) := by
  unfold rf_ter
  repeat' split
  all_goals decide
theorem cd_con (nw w j : Int32) (L : Nat) (k : Int32) : isCode (rf_con nw w j L k) := by
  unfold rf_con
  repeat' split
  all_goals decide
theorem cd_nea (nw w b k : Int32) : isCode (rf_nea nw w b k) := by
  unfold rf_nea
  split
  · split <;> decide
  · exact cd_num _ _ _ _ _
theorem cd_has (nw w : Int32) : isCode (rf_has nw w) := by
  unfold rf_has
  repeat' split
  all_goals decide
theorem cd_lot (nw n k : Int32) : isCode (rf_lot nw n k) := by
  unfold rf_lot
  repeat' split
  all_goals decide
theorem cd_lis (n : Int32) : isCode (rf_lis n) := by
  unfold rf_lis
  repeat' split
  all_goals decide
theorem cd_lay (nw w z i : Int32) : isCode (rf_lay nw w z i) := by
  unfold rf_lay
  repeat' split
  all_goals decide
theorem cd_jud (nw w z : Int32) : isCode (rf_jud nw w z) := by
  unfold rf_jud
  repeat' split
  all_goals decide
theorem cd_ste (q z : Int32) (f : Nat → Int32) (k : Int32) : isCode (rf_ste q z f k) := by
  unfold rf_ste
  repeat' split
  all_goals decide
theorem cd_kin (nw w q z : Int32) (f : Nat → Int32) : isCode (rf_kin nw w q z f) := by
  unfold rf_kin
  repeat' split
  all_goals decide
/-- what change() keeps is as it should be -/
def chV (q nw : Int32) (cf : Nat → Int32) (Z : Nat) : Prop := ∀ i, i < Z → (0 ≤ cf (3 * i) ∧ cf (3 * i) < nw) ∧ (0 ≤ cf (3 * i + 1) ∧ cf (3 * i + 1) < 4) ∧ okV q (cf (3 * i + 1)) (cf (3 * i + 2))
def czO (q nw cz : Int32) (cf : Nat → Int32) : Prop := ∃ Z : Nat, cz = nI Z ∧ Z ≤ 16 ∧ chV q nw cf Z
def tzO (tz : Int32) : Prop := ∃ n : Nat, tz = nI n ∧ n ≤ 72
def imO (hi qi nwi : Int32) (vi : Nat → Int32) (km kr : Int32) : Prop := (hi = 0 ∧ km = -9) ∨ (hi = 1 ∧ km = nwi ∧ kr = qi ∧ okS qi nwi vi)
theorem czO_0 (q nw : Int32) (cf : Nat → Int32) : czO q nw 0 cf := ⟨0, rfl, by omega, fun i hi => absurd hi (Nat.not_lt_zero i)⟩
theorem tz_bd {tz : Int32} (h : tzO tz) : 0 ≤ tz ∧ tz ≤ 72 := by
  obtain ⟨n, rfl, hn⟩ := h
  exact ⟨nI_pos' (by omega), nI_le (b := 72) hn (by omega)⟩
theorem tz_let {tz x : Int32} (h : tzO tz) : tzO (if rf_let tz x = 0 then tz + 1 else tz) := by
  by_cases h0 : rf_let tz x = 0
  · rw [if_pos h0]
    obtain ⟨n, rfl, hn⟩ := h
    refine ⟨n + 1, nI_1 n, ?_⟩
    unfold rf_let at h0
    rcases Nat.lt_or_ge n 72 with q | q
    · omega
    · exfalso
      have h72 : (72 : Int32) ≤ nI n := nI_le (a := 72) q (by omega)
      revert h0
      repeat' split
      all_goals first | decide | (intro _; exact absurd h72 (by assumption))
  · rw [if_neg h0]; exact h
theorem okS_cir2 {q nw n : Int32} {v : Nat → Int32} (h : okS q nw v) : okS (if rf_cir v nw n = 0 then n else q) nw v := by
  by_cases h0 : rf_cir v nw n = 0
  · rw [if_pos h0]
    unfold rf_cir at h0
    by_cases h1 : n < 2
    · rw [if_pos h1] at h0; exact absurd h0 (by decide)
    · rw [if_neg h1] at h0
      by_cases h2 : 2000 < n
      · rw [if_pos h2] at h0; exact absurd h0 (by decide)
      · rw [if_neg h2] at h0
        by_cases h3 : allB v nw n
        · exact okS_cir h ⟨fa_of_nlt h1, fa_of_nlt h2⟩ h3
        · rw [if_neg h3] at h0; exact absurd h0 (by decide)
  · rw [if_neg h0]; exact h
theorem cz_if {q nw cz : Int32} {cf : Nat → Int32} {q2 nw2 : Int32} {c : Prop} [Decidable c] (h : czO q nw cz cf) (e : ¬ c → q2 = q ∧ nw2 = nw) : czO q2 nw2 (if c then 0 else cz) cf := by
  by_cases h0 : c
  · rw [if_pos h0]; exact czO_0 _ _ _
  · rw [if_neg h0, (e h0).1, (e h0).2]; exact h
theorem wal_ok {q nw a b c d : Int32} (h : rf_wal q nw a b c d = 0) : rg_room q nw a b c d ∧ 0 ≤ a ∧ 0 ≤ b ∧ 0 ≤ c ∧ 0 ≤ d := by
  unfold rf_wal at h
  by_cases h1 : 0 ≤ a ∧ a < 6
  · rw [if_neg (fun z => z h1)] at h
    by_cases h2 : b < 0
    · rw [if_pos h2] at h; exact absurd h (by decide)
    · rw [if_neg h2] at h
      by_cases h3 : c < 0
      · rw [if_pos h3] at h; exact absurd h (by decide)
      · rw [if_neg h3] at h
        by_cases h4 : d < 0
        · rw [if_pos h4] at h; exact absurd h (by decide)
        · rw [if_neg h4] at h
          by_cases h5 : rg_room q nw a b c d
          · exact ⟨h5, h1.1, fa_of_nlt h2, fa_of_nlt h3, fa_of_nlt h4⟩
          · rw [if_neg h5] at h; exact absurd h (by decide)
  · rw [if_pos h1] at h; exact absurd h (by decide)
theorem okS_wal2 {q nw a b c d : Int32} {v : Nat → Int32} (h : okS q nw v) : okS q (if rf_wal q nw a b c d = 0 then nw + 1 else nw) (if rf_wal q nw a b c d = 0 then wadd v nw a b c d else v) := by
  by_cases h0 : rf_wal q nw a b c d = 0
  · rw [if_pos h0, if_pos h0]
    obtain ⟨h1, h2, h3, h4, h5⟩ := wal_ok h0
    exact okS_add h h1 h2 h3 h4 h5
  · rw [if_neg h0, if_neg h0]; exact h
theorem chg_ok {q nw w k x : Int32} (h : rf_chg q nw w k x = 0) : (0 ≤ w ∧ w < nw) ∧ (0 ≤ k ∧ k < 4) ∧ okV q k x := by
  unfold rf_chg at h
  by_cases h1 : 0 ≤ w ∧ w < nw
  · rw [if_neg (fun z => z h1)] at h
    by_cases h2 : 0 ≤ k ∧ k < 4
    · rw [if_neg (fun z => z h2)] at h
      by_cases h3 : x < 0
      · rw [if_pos h3] at h; exact absurd h (by decide)
      · rw [if_neg h3] at h
        by_cases h4 : rg_gr q k < x
        · rw [if_pos h4] at h; exact absurd h (by decide)
        · exact ⟨h1, h2, fa_of_nlt h3, fa_of_nlt h4⟩
    · rw [if_pos h2] at h; exact absurd h (by decide)
  · rw [if_pos h1] at h; exact absurd h (by decide)
theorem okS_chg2 {q nw w k x : Int32} {v : Nat → Int32} (h : okS q nw v) : okS q nw (if rf_chg q nw w k x = 0 then rg_set v w k x else v) := by
  by_cases h0 : rf_chg q nw w k x = 0
  · rw [if_pos h0]
    obtain ⟨h1, h2, h3⟩ := chg_ok h0
    exact okS_chg h h1 h2 h3
  · rw [if_neg h0]; exact h
theorem val_ok {q nw w k : Int32} {v : Nat → Int32} (h : okS q nw v) (hw : 0 ≤ w ∧ w < nw) (hk : 0 ≤ k ∧ k < 4) : okV q k (rg_val v w k) := by
  have h1 := h.2.2.2 w hw
  unfold okW at h1
  obtain ⟨j, hj, rfl⟩ := i_natlt (n := 4) (by decide) hk
  have hc : j = 0 ∨ j = 1 ∨ j = 2 ∨ j = 3 := by omega
  have c5 : (5 : Int32).toInt = 5 := rfl
  have c6 : (6 : Int32).toInt = 6 := rfl
  have c9 : (9 : Int32).toInt = 9 := rfl
  have c10 : (10 : Int32).toInt = 10 := rfl
  rcases hc with rfl | rfl | rfl | rfl
  · refine ⟨h1.1.1, ?_⟩
    have h2 : rg_val v w 0 < 6 := h1.1.2
    show rg_val v w 0 ≤ 5
    rw [fa_lt] at h2
    rw [fa_le]
    omega
  · exact ⟨h1.2.1.1, (sub1_lt h.1 h1.2.1.1).mpr h1.2.1.2⟩
  · exact ⟨h1.2.2.1.1, (sub1_lt h.1 h1.2.2.1.1).mpr h1.2.2.1.2⟩
  · refine ⟨h1.2.2.2.1, ?_⟩
    have h2 : rg_val v w 3 < 10 := h1.2.2.2.2
    show rg_val v w 3 ≤ 9
    rw [fa_lt] at h2
    rw [fa_le]
    omega
theorem cz_chg {q nw cz w k x : Int32} {cf v : Nat → Int32} (hs : okS q nw v) (h : czO q nw cz cf) : czO q nw (if rf_chg q nw w k x = 0 then ch_z cz + 1 else cz) (if rf_chg q nw w k x = 0 then ch_keep cz cf w k (rg_val v w k) else cf) := by
  by_cases h0 : rf_chg q nw w k x = 0
  · rw [if_pos h0, if_pos h0]
    obtain ⟨h1, h2, h3⟩ := chg_ok h0
    have hv := val_ok hs h1 h2
    obtain ⟨Z, rfl, hZ, hc⟩ := h
    rcases Nat.lt_or_ge Z 16 with q9 | q9
    · obtain ⟨e1, e2⟩ := ch_keepN (cf := cf) (x := w) (y := k) (w := rg_val v w k) q9
      rw [e1, e2]
      refine ⟨Z + 1, nI_1 Z, by omega, fun i hi => ?_⟩
      rcases Nat.lt_or_ge i Z with q8 | q8
      · rw [pk_un (by omega), pk_un (by omega), pk_un (by omega), pk_un (by omega), pk_un (by omega), pk_un (by omega), pk_un (by omega), pk_un (by omega), pk_un (by omega)]
        exact hc i q8
      · have ei : i = Z := by omega
        subst ei
        have x0 : upd (upd (upd cf (3 * i) w) (3 * i + 1) k) (3 * i + 2) (rg_val v w k) (3 * i) = w := by rw [pk_un (by omega), pk_un (by omega), pk_us]
        have x1 : upd (upd (upd cf (3 * i) w) (3 * i + 1) k) (3 * i + 2) (rg_val v w k) (3 * i + 1) = k := by rw [pk_un (by omega), pk_us]
        have x2 : upd (upd (upd cf (3 * i) w) (3 * i + 1) k) (3 * i + 2) (rg_val v w k) (3 * i + 2) = rg_val v w k := by rw [pk_us]
        rw [x0, x1, x2]
        exact ⟨h1, h2, hv⟩
    · have e16 : nI Z = 16 := by rw [show Z = 16 by omega]; rfl
      rw [e16]
      obtain ⟨e1, e2⟩ := ch_keepF (cf := cf) (x := w) (y := k) (w := rg_val v w k)
      rw [e1, e2]
      refine ⟨16, by decide, by omega, fun i hi => ?_⟩
      rcases Nat.lt_or_ge i 15 with q8 | q8
      · have g : ∀ t, t < 3 → upd (upd (upd (va_cpy cf cf 3 0 45) 45 w) 46 k) 47 (rg_val v w k) (3 * i + t) = cf (3 * (i + 1) + t) := by
          intro t ht
          rw [pk_un (by omega), pk_un (by omega), pk_un (by omega), pk_cpy_in (by omega) (by omega)]
          congr 1
          omega
        have g0 := g 0 (by omega)
        rw [Nat.add_zero, Nat.add_zero] at g0
        rw [g0, g 1 (by omega), g 2 (by omega)]
        exact hc (i + 1) (by omega)
      · have ei : i = 15 := by omega
        subst ei
        have x0 : upd (upd (upd (va_cpy cf cf 3 0 45) 45 w) 46 k) 47 (rg_val v w k) (3 * 15) = w := by rw [pk_un (by omega), pk_un (by omega), pk_us]
        have x1 : upd (upd (upd (va_cpy cf cf 3 0 45) 45 w) 46 k) 47 (rg_val v w k) (3 * 15 + 1) = k := by rw [pk_un (by omega), pk_us]
        have x2 : upd (upd (upd (va_cpy cf cf 3 0 45) 45 w) 46 k) 47 (rg_val v w k) (3 * 15 + 2) = rg_val v w k := by rw [pk_us]
        rw [x0, x1, x2]
        exact ⟨h1, h2, hv⟩
  · rw [if_neg h0, if_neg h0]; exact h
theorem okS_drop2 {q nw : Int32} {v : Nat → Int32} (h : okS q nw v) : okS q (if rf_z nw = 0 then nw - 1 else nw) v := by
  by_cases h0 : rf_z nw = 0
  · rw [if_pos h0]
    refine okS_drop h (fun e => ?_)
    unfold rf_z at h0
    rw [if_pos e] at h0
    exact absurd h0 (by decide)
  · rw [if_neg h0]; exact h
/-- the latest kept one -/
theorem ch_last {q nw cz : Int32} {cf : Nat → Int32} (h : czO q nw cz cf) (h0 : ¬ cz = 0) : (0 ≤ ch_at cf ((cz - 1) * 3) ∧ ch_at cf ((cz - 1) * 3) < nw) ∧ (0 ≤ ch_at cf ((cz - 1) * 3 + 1) ∧ ch_at cf ((cz - 1) * 3 + 1) < 4) ∧ okV q (ch_at cf ((cz - 1) * 3 + 1)) (ch_at cf ((cz - 1) * 3 + 2)) := by
  obtain ⟨Z, rfl, hZ, hc⟩ := h
  have hZ0 : 0 < Z := by
    rcases Nat.eq_zero_or_pos Z with q9 | q9
    · exact absurd (by rw [q9]; exact nI_0) h0
    · exact q9
  have e : nI Z - 1 = nI (Z - 1) := pk_sub (b := 1) hZ0
  have e1 : nI (3 * (Z - 1)) + 1 = nI (3 * (Z - 1) + 1) := nI_1 _
  have e2 : nI (3 * (Z - 1)) + 2 = nI (3 * (Z - 1) + 2) := nI_add _ 2
  rw [e, z3, e1, e2, ch_atN (by omega), ch_atN (by omega), ch_atN (by omega)]
  exact hc (Z - 1) (by omega)
theorem okS_und2 {q nw cz : Int32} {cf v : Nat → Int32} (hs : okS q nw v) (h : czO q nw cz cf) : okS q nw (if rf_z cz = 0 then undv v cf cz else v) := by
  by_cases h0 : rf_z cz = 0
  · rw [if_pos h0]
    have hne : ¬ cz = 0 := by
      intro e
      unfold rf_z at h0
      rw [if_pos e] at h0
      exact absurd h0 (by decide)
    obtain ⟨h1, h2, h3⟩ := ch_last h hne
    exact okS_chg hs h1 h2 h3
  · rw [if_neg h0]; exact hs
theorem cz_und {q nw cz : Int32} {cf : Nat → Int32} (h : czO q nw cz cf) : czO q nw (if rf_z cz = 0 then ch_less cz else cz) cf := by
  by_cases h0 : rf_z cz = 0
  · rw [if_pos h0]
    obtain ⟨Z, rfl, hZ, hc⟩ := h
    unfold ch_less
    rcases Nat.eq_zero_or_pos Z with q9 | q9
    · subst q9
      rw [if_pos (by rw [nI_0]; exact Int32.le_refl _)]
      exact ⟨0, rfl, by omega, hc⟩
    · rw [if_neg (nI_nle q9 (by omega)), show nI Z - 1 = nI (Z - 1) from pk_sub (b := 1) q9]
      exact ⟨Z - 1, rfl, by omega, fun i hi => hc i (by omega)⟩
  · rw [if_neg h0]; exact h
theorem cz_wk {n : Nat} {f : Nat → Int32} {q nw cz : Int32} {v cf : Nat → Int32} (h : czO q nw cz cf) : czO (wkS n f q nw v).1 (wkS n f q nw v).2.1 (wkC n f q nw v cz) cf := by
  unfold wkC wkS
  cases e : (wk n f q nw v).2 with
  | none => exact h
  | some s2 => exact czO_0 _ _ _
theorem tz_0 : tzO 0 := ⟨0, rfl, by omega⟩
theorem on_ok {hi qi nwi q nw : Int32} {vi v : Nat → Int32} {km kr : Int32} (hs : okS q nw v) (h : imO hi qi nwi vi km kr) : okS (if rf_z hi = 0 then qi else q) (if rf_z hi = 0 then nwi else nw) (if rf_z hi = 0 then vi else v) := by
  rcases h with ⟨e1, e2⟩ | ⟨e1, e2, e3, e4⟩
  · have h0 : ¬ rf_z hi = 0 := by rw [e1]; decide
    rw [if_neg h0, if_neg h0, if_neg h0]; exact hs
  · have h0 : rf_z hi = 0 := by rw [e1]; decide
    rw [if_pos h0, if_pos h0, if_pos h0]; exact e4
theorem nw_9 {q nw : Int32} {v : Nat → Int32} (h : okS q nw v) : ¬ nw = -9 := by
  intro e
  have h1 := h.2.1
  rw [e] at h1
  exact absurd h1 (by decide)
/-- the image of the two sides, told alike -/
theorem on_km {hi qi nwi : Int32} {vi : Nat → Int32} {km kr : Int32} (h : imO hi qi nwi vi km kr) : (km = -9 ↔ ¬ rf_z hi = 0) ∧ (rf_z hi = 0 → km = nwi ∧ kr = qi) ∧ (rf_z hi = -3 ∨ rf_z hi = 0) := by
  rcases h with ⟨e1, e2⟩ | ⟨e1, e2, e3, e4⟩
  · have h0 : rf_z hi = -3 := by rw [e1]; decide
    exact ⟨⟨fun _ => by rw [h0]; decide, fun _ => e2⟩, fun z => absurd z (by rw [h0]; decide), Or.inl h0⟩
  · have h0 : rf_z hi = 0 := by rw [e1]; decide
    exact ⟨⟨fun z => absurd (e2.symm.trans z) (nw_9 e4), fun z => absurd h0 z⟩, fun _ => ⟨e2, e3⟩, Or.inr h0⟩
theorem cnt_eq {q nw tz cz : Int32} {F G : Nat → Int32} (h : FG F G) (n : Int32) : cntA q nw tz cz F n = cntM q nw tz cz G n := by
  unfold cntM cntA
  by_cases h5 : 0 ≤ n - 11 ∧ n - 11 < 6
  · have hj : (n - 11).toNatClampNeg < 6 := by
      obtain ⟨h1, h2⟩ := h5
      rw [fa_le] at h1
      rw [fa_lt] at h2
      have c0 : (0 : Int32).toInt = 0 := rfl
      have c6 : (6 : Int32).toInt = 6 := rfl
      have e : (n - 11).toNatClampNeg = (n - 11).toInt.toNat := rfl
      omega
    simp only [if_pos h5, h _ hj]
  · simp only [if_neg h5]
/-- how many terms there are -/
theorem eL_40 (a : Nat) {b : Nat} (h0b : 0 < b) (hb : b ≤ 2000) : ∃ L, L ≤ 40 ∧ eL a b L := by
  have key : ∀ i, (∀ t, t < i → 0 < (eS a b t).2) → i = 0 ∨ ((eS a b i).2 ≤ (eS a b i).1 ∧ (eS a b i).1 * (eS a b i).2 < 2 ^ (23 - i) ∧ i ≤ 23) := by
    intro i
    induction i with
    | zero => intro _; exact Or.inl rfl
    | succ i ih =>
      intro hp
      right
      have h0 := hp i (by omega)
      have e1 : (eS a b (i + 1)).1 = (eS a b i).2 := rfl
      have e2 : (eS a b (i + 1)).2 = (eS a b i).1 % (eS a b i).2 := rfl
      have hm : (eS a b i).1 % (eS a b i).2 < (eS a b i).2 := Nat.mod_lt _ h0
      rcases ih (fun t ht => hp t (by omega)) with z | ⟨z1, z2, z3⟩
      · subst z
        rw [e1, e2]
        have q1 : (eS a b 0).1 = a := rfl
        have q2 : (eS a b 0).2 = b := rfl
        rw [q1, q2] at *
        refine ⟨Nat.le_of_lt hm, ?_, by omega⟩
        have hm2 : a % b < b := Nat.mod_lt _ h0b
        have := Nat.mul_le_mul hb (show a % b ≤ 2000 by omega)
        have e22 : 2 ^ (23 - (0 + 1)) = 4194304 := by decide
        omega
      · have g := gcd_half z1 h0 z2
        rw [e1, e2]
        refine ⟨Nat.le_of_lt hm, ?_, by omega⟩
        rw [show 23 - (i + 1) = 23 - i - 1 by omega]
        exact g.1
  have hz : ∃ i, i < 26 ∧ (eS a b i).2 = 0 := by
    apply Classical.byContradiction
    intro hn
    have hall : ∀ t, t < 26 → 0 < (eS a b t).2 := fun t ht => by
      rcases Nat.eq_zero_or_pos (eS a b t).2 with z | z
      · exact absurd ⟨t, ht, z⟩ hn
      · exact z
    rcases key 25 (fun t ht => hall t (by omega)) with z | z
    · omega
    · omega
  obtain ⟨L, h1, h2, h3⟩ := fb_first hz
  exact ⟨L, by omega, fun t ht => by
    rcases Nat.eq_zero_or_pos (eS a b t).2 with z | z
    · exact absurd z (h3 t ht)
    · exact z, h2⟩
theorem eL_w {q : Int32} (h : okQ q) (a : Nat) : ∃ L, L ≤ 40 ∧ eL a q.toNatClampNeg L := by
  have hQ := okQ_N h
  exact eL_40 a (by omega) hQ.2
