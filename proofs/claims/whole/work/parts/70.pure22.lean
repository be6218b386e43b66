/-! ===== lists ===== -/
section BASE2
variable {p : Program} {l : Launch} {e : Env} {R : Room} {s : State} {m : MethodId} {args : Array Value} {below : List Frame} {meth : Method} {c : Code} {cells slots : Nat} {cc : ByteArray} {pc : Nat} {ls : Array Slot}
theorem rdA {v r : Value} {n : String} (hx : p.tables.exec = Jvm.exec) (hb : c.code = cc) (hr : meth.sig.returnType = some (.object n)) (hlocks : meth.locks = false) (hd : decode cc pc = .ok (.areturn, 1)) (hrr : r = .null ∨ ∃ a, r = .ref a) (h : v = r) : W p l e R s m args below meth c s.heap [] cells slots (MQ below (k2_QcV r) args s cells slots (fun _ => False)) (F0 m pc ls [v]) := by
  subst h
  exact W.aret (v := v) hx hb hr (Or.inl ⟨n, rfl⟩) hrr (fun t ht hW => ⟨rfl, ht⟩) (fun q h => by cases h) hd hlocks
end BASE2
theorem bmp_11 (F : Nat → Int32) : rf_bump F (-11) = F := by unfold rf_bump; rw [if_neg (by decide)]
theorem bmp_13 (F : Nat → Int32) : rf_bump F (-13) = F := by unfold rf_bump; rw [if_neg (by decide)]
theorem bmp_14 (F : Nat → Int32) : rf_bump F (-14) = F := by unfold rf_bump; rw [if_neg (by decide)]
theorem bmm_11 (F : Nat → Int32) : md_bump F (-11) = F := by unfold md_bump; rw [if_pos (by decide)]
theorem bmm_13 (F : Nat → Int32) : md_bump F (-13) = F := by unfold md_bump; rw [if_pos (by decide)]
theorem bmm_14 (F : Nat → Int32) : md_bump F (-14) = F := by unfold md_bump; rw [if_pos (by decide)]
def rf_lis (n : Int32) : Int32 := if 40 < n then -6 else if n < 0 then -14 else 0
def rf_put (z i : Int32) : Int32 := if z = -1 then -11 else if rw_has z i then 0 else -13
def rf_jud (nw w z : Int32) : Int32 := if ¬ (0 ≤ w ∧ w < nw) then -1 else if z = -1 then -11 else 0
def rf_lay (nw w z i : Int32) : Int32 := if ¬ (0 ≤ w ∧ w < nw) then -1 else if z = -1 then -11 else if rw_has z i then 0 else -13
abbrev tells (q z : Int32) (f : Nat → Int32) : Prop := (∀ k, k < z.toNatClampNeg → 0 ≤ f k ∧ f k < q) ∧ 2 ≤ z
def rf_ste (q z : Int32) (f : Nat → Int32) (k : Int32) : Int32 := if ¬ (0 ≤ k ∧ k < 2) then -2 else if z = -1 then -11 else if tells q z f then 0 else -3
def rf_kin (nw w q z : Int32) (f : Nat → Int32) : Int32 := if ¬ (0 ≤ w ∧ w < nw) then -1 else if z = -1 then -11 else if tells q z f then 0 else -3
abbrev foP (q : Int32) (v : Nat → Int32) (kd w : Int32) (f : Nat → Int32) (k : Nat) : Prop := ¬ f k = rg_pb q v kd w (nI k).toInt64
abbrev stO (q : Int32) (f : Nat → Int32) : Int32 := rg_ar q (f 1 - f 0).toInt64
abbrev stA (q z : Int32) (f : Nat → Int32) : Prop := ∀ k, k < z.toNatClampNeg → 2 ≤ k → f k = rg_ar q (f (k - 1) + stO q f).toInt64
def stpB (q z : Int32) (f : Nat → Int32) : Int32 := if stA q z f then stO q f else -9
def steA (q z : Int32) (f : Nat → Int32) (k : Int32) : Int32 := if k = 0 then (if stpB q z f = -9 then 0 else 1) else stpB q z f
def kinA (q : Int32) (v : Nat → Int32) (w z : Int32) (f : Nat → Int32) : Nat → Int32
  | 0 => 0
  | n + 1 => if ffk (foP q v (nI n) w f) 0 z.toNatClampNeg = -9 then kinA q v w z f n ||| ((1 : Int32) <<< (nI n &&& 31)) else kinA q v w z f n
theorem ffk_yes {p : Nat → Prop} [DecidablePred p] {i n : Nat} (h : p i) (hn : 0 < n) : ffk p i n = nI i := by
  obtain ⟨m, rfl⟩ : ∃ m, n = m + 1 := ⟨n - 1, by omega⟩
  rw [ffk, if_pos h]
theorem ffk_no {p : Nat → Prop} [DecidablePred p] {i n : Nat} (h : ¬ p i) (hn : 0 < n) : ffk p i n = ffk p (i + 1) (n - 1) := by
  obtain ⟨m, rfl⟩ : ∃ m, n = m + 1 := ⟨n - 1, by omega⟩
  rw [ffk, if_neg h]
  rfl
theorem ffk_9 {p : Nat → Prop} [DecidablePred p] : ∀ (n i : Nat), i + n ≤ 4000 → (ffk p i n = -9 ↔ ∀ k, i ≤ k → k < i + n → ¬ p k)
  | 0, i, _ => ⟨fun _ k h1 h2 => absurd h2 (by omega), fun _ => rfl⟩
  | n + 1, i, hb => by
    rw [ffk]
    by_cases h : p i
    · rw [if_pos h]
      refine ⟨fun e => ?_, fun e => absurd h (e i (by omega) (by omega))⟩
      have e2 := congrArg Int32.toInt e
      rw [nI_toInt (by omega)] at e2
      have e3 : (-9 : Int32).toInt = -9 := by decide
      omega
    · rw [if_neg h, ffk_9 n (i + 1) (by omega)]
      refine ⟨fun e k h1 h2 => ?_, fun e k h1 h2 => e k (by omega) (by omega)⟩
      rcases Nat.lt_or_ge i k with q | q
      · exact e k (by omega) (by omega)
      · rw [show k = i by omega]; exact h
theorem z40 {z : Int32} (h : z ≤ 40) : z.toNatClampNeg ≤ 40 := by
  rw [fa_le] at h
  have c2 : (40 : Int32).toInt = 40 := rfl
  have e : z.toNatClampNeg = z.toInt.toNat := rfl
  omega
theorem rw_hasN {z : Int32} {k : Nat} (hz : z ≤ 40) (h : k < z.toNatClampNeg) : rw_has z (nI k) := by
  have h4 := z40 hz
  exact ⟨(lt_clamp (by omega)).mpr h, nI_pos' (by omega), nI_lt (b := 40) (by omega) (by omega)⟩
theorem rw_getN {z : Int32} {f : Nat → Int32} {k : Nat} (hz : z ≤ 40) (h : k < z.toNatClampNeg) : rw_get z f (nI k) = f k := by
  have h4 := z40 hz
  unfold rw_get
  rw [if_pos (rw_hasN hz h), nI_clamp (by omega)]
theorem rw_setN {z : Int32} {f : Nat → Int32} {k : Nat} {x : Int32} (hz : z ≤ 40) (h : k < z.toNatClampNeg) : rw_set z f (nI k) x = upd f k x := by
  have h4 := z40 hz
  unfold rw_set
  rw [if_pos (rw_hasN hz h), nI_clamp (by omega)]
theorem rw_has_N {z i : Int32} (h : rw_has z i) : i = nI i.toNatClampNeg ∧ i.toNatClampNeg < z.toNatClampNeg ∧ i.toNatClampNeg < 40 := by
  have h1 := jN h.2.1
  have h2 := h.1
  have h3 := h.2.2
  have h0 := h.2.1
  rw [fa_lt] at h2 h3
  rw [fa_le] at h0
  have c0 : (0 : Int32).toInt = 0 := rfl
  have c4 : (40 : Int32).toInt = 40 := rfl
  have e : z.toNatClampNeg = z.toInt.toNat := rfl
  have e2 : i.toNatClampNeg = i.toInt.toNat := rfl
  exact ⟨h1.1, by omega, by omega⟩
theorem z2N {z : Int32} (h : 2 ≤ z) : 2 ≤ z.toNatClampNeg := by
  rw [fa_le] at h
  have c2 : (2 : Int32).toInt = 2 := rfl
  have e : z.toNatClampNeg = z.toInt.toNat := rfl
  omega
