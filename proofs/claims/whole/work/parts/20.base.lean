/-! ===== the base: nest links, worlds, readers and writers ===== -/
def nst_ws : List Cond := [.methodLinkNest RX0 33 yX5_isBelow "StepsRoundCircle", .methodLinkNest RX1 22 yX5_isBelow "StepsRoundCircle", .methodLinkNest RX1 38 yX5_rest "StepsRoundCircle", .methodLinkNest RX1 50 yX5_quotient "StepsRoundCircle", .methodLinkNest RX2 19 yX5_isBelow "StepsRoundCircle", .methodLinkNest RX4 19 yX5_isBelow "StepsRoundCircle", .methodLinkNest RX5 9 yX1_init "StepsRoundCircle", .methodLinkNest RX5 28 yX4_init "StepsRoundCircle", .methodLinkNest RX5 35 yX0_init "StepsRoundCircle", .methodLinkNest RX5 52 yX3_init "StepsRoundCircle", .methodLinkNest RX5 63 yX2_init "StepsRoundCircle"]
def nst_isN (w : Cond) : Prop := ∃ (a : String) (i : Nat) (x : MethodName) (h : String), w = .methodLinkNest a i x h
theorem nst_allN : ∀ w ∈ nst_ws, nst_isN w := by
  intro w hw
  simp only [nst_ws, List.mem_cons, List.not_mem_nil, or_false] at hw
  rcases hw with rfl | rfl | rfl | rfl | rfl | rfl | rfl | rfl | rfl | rfl | rfl <;> exact ⟨_, _, _, _, rfl⟩
/-- the nest links of the class and its inner ones -/
def nst (U : State) : Prop := ∀ w ∈ nst_ws, va_Nw w U
theorem nst.warm {s U : State} (hW : s.WarmedH U.vm) (h : nst s) : nst U := by
  intro w hw
  obtain ⟨a, i, x, q, rfl⟩ := nst_allN w hw
  exact va_Nw.warmM hW (h _ hw)
theorem nst.same {u U : State} (h : u.vm = U.vm) (hZ : nst u) : nst U := by
  intro w hw
  have h1 := hZ w hw
  obtain ⟨a, i, x, q, rfl⟩ := nst_allN w hw
  exact va_Nw.same rfl h h1
theorem nst.at {U : State} (h : nst U) (k : Nat) {w : Cond} (hk : nst_ws[k]? = some w) : va_Nw w U := h w (List.mem_of_getElem? hk)
abbrev tyW (cI cZ cR : ClassId) : List (ClassId × FieldType) := [(cI, .int), (cZ, .boolean), (cR, .object RX2)]
/-- a reader's start -/
def PcR (D : va_G) (cI cZ cR : ClassId) (av : List Value) (ws : va_W) : Array Value → State → Prop := va_Pc av (fun U => va_P D vwCl ws U.heap ∧ va_K D vwCl (tyW cI cZ cR) U ∧ nst U)
/-- a writer's start -/
def PcW (D : va_G) (cI cZ cR : ClassId) (av : List Value) (ws : va_W) (sz : Nat) : Array Value → State → Prop := va_Pc av (fun U => U.heap.size = sz ∧ va_P D vwCl ws U.heap ∧ va_K D vwCl (tyW cI cZ cR) U ∧ va_D (fun _ => True) ws ∧ nst U)
theorem PcR_blind {D : va_G} {cI cZ cR : ClassId} {av : List Value} {ws : va_W} : FrameBlind (PcR D cI cZ cR av ws) := by
  intro a U g mk q
  exact ⟨q.1, q.2.1, va_K.moved (u := U) (U := U.calling g mk a) (Vm.Alike.refl U.vm) q.2.2.1, nst.same (u := U) (U := U.calling g mk a) rfl q.2.2.2⟩
theorem PcW_blind {D : va_G} {cI cZ cR : ClassId} {av : List Value} {ws : va_W} {sz : Nat} : FrameBlind (PcW D cI cZ cR av ws sz) := by
  intro a U g mk q
  exact ⟨q.1, q.2.1, q.2.2.1, va_K.moved (u := U) (U := U.calling g mk a) (Vm.Alike.refl U.vm) q.2.2.2.1, q.2.2.2.2.1, nst.same (u := U) (U := U.calling g mk a) rfl q.2.2.2.2.2⟩
theorem PcR_at {D : va_G} {cI cZ cR : ClassId} {av : List Value} {ws : va_W} {s : State} {H : Heap} (hP : va_P D vwCl ws H) (hK : va_K D vwCl (tyW cI cZ cR) s) (hN : nst s) : ∀ U : State, U.heap = H → s.WarmedH U.vm → PcR D cI cZ cR av ws av.toArray U :=
  fun U hU hW => ⟨rfl, by rw [hU]; exact hP, va_K.moved hW.alike hK, nst.warm hW hN⟩
theorem PcW_at {D : va_G} {cI cZ cR : ClassId} {av : List Value} {ws : va_W} {s : State} {H : Heap} {A : Nat → Prop} (hP : va_P D vwCl ws H) (hD : va_D A ws) (hK : va_K D vwCl (tyW cI cZ cR) s) (hN : nst s) : ∀ U : State, U.heap = H → s.WarmedH U.vm → PcW D cI cZ cR av ws H.size av.toArray U :=
  fun U hU hW => ⟨rfl, by rw [hU], by rw [hU]; exact hP, va_K.moved hW.alike hK, hD.weaken (fun _ _ _ _ => trivial), nst.warm hW hN⟩
def bi (P : Prop) [Decidable P] : Int32 := if P then 1 else 0
theorem bi_t {P : Prop} [Decidable P] (h : P) : bi P = 1 := by simp [bi, h]
theorem bi_f {P : Prop} [Decidable P] (h : ¬ P) : bi P = 0 := by simp [bi, h]
theorem bi_eq0 {P : Prop} [Decidable P] : bi P = 0 ↔ ¬ P := by
  by_cases h : P <;> simp [bi, h]
theorem bi_ne0 {P : Prop} [Decidable P] : ¬ bi P = 0 ↔ P := by
  by_cases h : P <;> simp [bi, h]
theorem bi_nar {P : Prop} [Decidable P] : narrow .boolean (.int (bi P)) = .int (bi P) := by
  by_cases h : P
  · rw [bi_t h]; rfl
  · rw [bi_f h]; rfl
theorem bi_cg {P Q : Prop} [Decidable P] [Decidable Q] (h : P ↔ Q) : bi P = bi Q := by
  by_cases hp : P
  · rw [bi_t hp, bi_t (h.mp hp)]
  · rw [bi_f hp, bi_f (fun q => hp (h.mpr q))]
theorem map_pick {ws wc : va_W} {is : List Nat} (h : is.map (fun i => ws[i]?) = wc.map some) : is.filterMap (fun i => ws[i]?) = wc := by
  have e : is.filterMap (fun i => ws[i]?) = (is.map (fun i => ws[i]?)).filterMap id := by
    rw [List.filterMap_map]; rfl
  rw [e, h, List.filterMap_map]
  simp
section BASE
variable {p : Program} {l : Launch} {e : Env} {R : Room} {s : State} {m : MethodId} {args : Array Value} {below : List Frame} {meth : Method} {c : Code} {H H0 : Heap} {locs : List Loc} {cells slots : Nat} {Q : State → Prop}
variable {y : MethodName} {bytes cc : ByteArray} {maxL nL n index pc : Nat} {ret : Option FieldType} {wsy : List Cond} {rm : Room} {Ts : List Cond} {own C host : String} {b : Addr} {As rest st0 : List Value} {ls : Array Slot}
variable {D : va_G} {cI cZ cR : ClassId} {ws wc wr : va_W} {A : Nat → Prop} {fs : List Value} {q : vw_C}
theorem toCR {mc ms : Nat} {g : JFrame} {Qa : State → Outcome → State → Prop} {free : Addr → Prop} (h : va_Run p l e R s m args below meth c H locs cells slots mc ms g rest Qa free) : CallRun p l e R s m args below meth c H locs cells slots mc ms g rest Qa free := by
  intro T hT X
  obtain ⟨v, st₀, t, T', L, h0, h1, h2, h3, h4, h5, h6⟩ := h T hT X
  exact ⟨v, st₀, t, T', L, h0, h1, h2, h3, h5, h6⟩
/-- a reader is called: on an object, a static one, a nest mate's static one -/
theorem rdV {r : Value} (S : CallFix p m c cc nL s args Ts own) (hM : Met l y wsy rm (PcR D cI cZ cR (.ref b :: As) wc) (k2_QcV r) 0 0 (fun _ => False)) (cw : CallW R s args own C index y bytes maxL ret wsy rm 0 0 n)
    (hK : va_K D vwCl (tyW cI cZ cR) s) (hN : nst s) (hP : va_P D vwCl ws H) (q0 ci : Nat) (hc : vwCl[ci]? = some q) (hqC : q.1 = C) (he : ws[q0]? = some (b, .inr (ci, fs))) (is : List Nat) (hs : is.filterMap (fun i => ws[i]?) = wc)
    (hn : As.length = n) (hsize : ls.size = nL) (hstack : st0 = As.reverse ++ .ref b :: rest) (hW : (rest.map fun v => v.category).sum ≤ 8) (hdg : decode cc pc = .ok (.invokevirtual index, 3)) (hf : cells ≤ R.cells ∧ slots ≤ R.slots)
    (kk : W p l e R s m args below meth c H locs cells slots Q (F0 m (pc + 3) ls (r :: rest))) : W p l e R s m args below meth c H locs cells slots Q (F0 m pc ls st0) := by
  subst hqC
  subst hstack
  exact W.callV (W.runV S hM cw ⟨PcR_blind, va_recv hK hP hc he, PcR_at (hP.sub is hs) hK hN⟩ rfl hn hsize rfl (lv_room hW) hdg hf) kk
theorem rdS {r : Value} (S : CallFix p m c cc nL s args Ts own) (hM : Met l y wsy rm (PcR D cI cZ cR As wc) (k2_QcV r) 0 0 (fun _ => False)) (cw : CallB R s args own index y bytes maxL ret wsy rm 0 0 n ∧ (Cond.static y).before args s = true)
    (hK : va_K D vwCl (tyW cI cZ cR) s) (hN : nst s) (hP : va_P D vwCl ws H) (is : List Nat) (hs : is.filterMap (fun i => ws[i]?) = wc)
    (hn : As.length = n) (hsize : ls.size = nL) (hstack : st0 = As.reverse ++ rest) (hW : (rest.map fun v => v.category).sum ≤ 8) (hdg : decode cc pc = .ok (.invokestatic index, 3)) (hf : cells ≤ R.cells ∧ slots ≤ R.slots)
    (kk : W p l e R s m args below meth c H locs cells slots Q (F0 m (pc + 3) ls (r :: rest))) : W p l e R s m args below meth c H locs cells slots Q (F0 m pc ls st0) := by
  subst hstack
  exact W.callV (W.runS S hM cw ⟨PcR_blind, PcR_at (hP.sub is hs) hK hN⟩ rfl hn hsize rfl (lv_room hW) hdg hf) kk
theorem rdSN {r : Value} (S : CallFix p m c cc nL s args Ts own) (hM : Met l y wsy rm (PcR D cI cZ cR As wc) (k2_QcV r) 0 0 (fun _ => False)) (cw : va_CN R s args own index y host bytes maxL ret wsy rm 0 0 n ∧ (Cond.static y).before args s = true ∧ True)
    (hK : va_K D vwCl (tyW cI cZ cR) s) (hN : nst s) (hP : va_P D vwCl ws H) (is : List Nat) (hs : is.filterMap (fun i => ws[i]?) = wc)
    (hn : As.length = n) (hsize : ls.size = nL) (hstack : st0 = As.reverse ++ rest) (hW : (rest.map fun v => v.category).sum ≤ 8) (hdg : decode cc pc = .ok (.invokestatic index, 3)) (hf : cells ≤ R.cells ∧ slots ≤ R.slots)
    (kk : W p l e R s m args below meth c H locs cells slots Q (F0 m (pc + 3) ls (r :: rest))) : W p l e R s m args below meth c H locs cells slots Q (F0 m pc ls st0) := by
  subst hstack
  exact W.callV (toCR (va_runSN S hM cw ⟨PcR_blind, PcR_at (hP.sub is hs) hK hN⟩ rfl hn hsize rfl (lv_room hW) hdg hf)) kk
abbrev Bw (D : va_G) {T : Type} (w1 : T → va_W) (A : Nat → Prop) : T → State → Prop := fun u t => va_P D vwCl (w1 u) t.heap ∧ va_D A (w1 u)
/-- a writer is called -/
theorem wrVi {T : Type} {post : Int32 → T → Prop} {w1 : T → va_W} (S : CallFix p m c cc nL s args Ts own) (hM : Met l y wsy rm (PcW D cI cZ cR (.ref b :: As) wc H.size) (va_Qi post (Bw D w1 (va_A wc H.size)) (va_A wc H.size)) 0 0 (va_A wc H.size)) (cw : CallW R s args own C index y bytes maxL ret wsy rm 0 0 n)
    (hK : va_K D vwCl (tyW cI cZ cR) s) (hN : nst s) (hP : va_P D vwCl ws H) (hD : va_D A ws) (hS : va_S A H0 H locs) (hA : ∀ q, H0.size ≤ q → A q) (q0 ci : Nat) (hc : vwCl[ci]? = some q) (hqC : q.1 = C) (he : ws[q0]? = some (b, .inr (ci, fs))) (isC isR : List Nat) (hC : isC.map (fun i => ws[i]?) = wc.map some) (hnC : va_nd isC = true) (hR : isR.map (fun i => ws[i]?) = wr.map some) (hnR : va_nd isR = true) (hdis : ∀ i ∈ isR, i ∉ isC)
    (hn : As.length = n) (hsize : ls.size = nL) (hstack : st0 = As.reverse ++ .ref b :: rest) (hW : (rest.map fun v => v.category).sum ≤ 8) (hdg : decode cc pc = .ok (.invokevirtual index, 3)) (hf : cells ≤ R.cells ∧ slots ≤ R.slots)
    (kk : ∀ (r : Int32) (u : T) (H1 : Heap) (locs1 : List Loc), post r u → va_P D vwCl (wr ++ w1 u) H1 → va_D A (wr ++ w1 u) → va_S A H0 H1 locs1 → W p l e R s m args below meth c H1 locs1 cells slots Q (F0 m (pc + 3) ls (.int r :: rest))) : W p l e R s m args below meth c H locs cells slots Q (F0 m pc ls st0) := by
  subst hqC
  subst hstack
  have hF := va_free (wc := wc) hD hS hA isC hC
  refine va_calli (va_runV S hM cw ⟨PcW_blind, va_recv hK hP hc he, PcW_at (hP.sub isC (map_pick hC)) (hD.sub isC hnC hC) hK hN⟩ rfl hn hsize rfl (lv_room hW) hdg hf) hS (fun q _ h => hF q h) hF (fun r u t H1 locs1 ht hvm hw hB hz1 hk1 hS1 => ?_)
  obtain ⟨hP1, hD1⟩ := hB
  rw [ht] at hP1
  obtain ⟨hP2, hD2⟩ := va_join hP hD isC isR hC hR hnR hdis hk1 hF hP1 hD1
  exact kk r u H1 locs1 hw hP2 hD2 hS1
theorem wrVl {T : Type} {post : Int64 → T → Prop} {w1 : T → va_W} (S : CallFix p m c cc nL s args Ts own) (hM : Met l y wsy rm (PcW D cI cZ cR (.ref b :: As) wc H.size) (va_Ql post (Bw D w1 (va_A wc H.size)) (va_A wc H.size)) 0 0 (va_A wc H.size)) (cw : CallW R s args own C index y bytes maxL ret wsy rm 0 0 n)
    (hK : va_K D vwCl (tyW cI cZ cR) s) (hN : nst s) (hP : va_P D vwCl ws H) (hD : va_D A ws) (hS : va_S A H0 H locs) (hA : ∀ q, H0.size ≤ q → A q) (q0 ci : Nat) (hc : vwCl[ci]? = some q) (hqC : q.1 = C) (he : ws[q0]? = some (b, .inr (ci, fs))) (isC isR : List Nat) (hC : isC.map (fun i => ws[i]?) = wc.map some) (hnC : va_nd isC = true) (hR : isR.map (fun i => ws[i]?) = wr.map some) (hnR : va_nd isR = true) (hdis : ∀ i ∈ isR, i ∉ isC)
    (hn : As.length = n) (hsize : ls.size = nL) (hstack : st0 = As.reverse ++ .ref b :: rest) (hW : (rest.map fun v => v.category).sum ≤ 8) (hdg : decode cc pc = .ok (.invokevirtual index, 3)) (hf : cells ≤ R.cells ∧ slots ≤ R.slots)
    (kk : ∀ (r : Int64) (u : T) (H1 : Heap) (locs1 : List Loc), post r u → va_P D vwCl (wr ++ w1 u) H1 → va_D A (wr ++ w1 u) → va_S A H0 H1 locs1 → W p l e R s m args below meth c H1 locs1 cells slots Q (F0 m (pc + 3) ls (.long r :: rest))) : W p l e R s m args below meth c H locs cells slots Q (F0 m pc ls st0) := by
  subst hqC
  subst hstack
  have hF := va_free (wc := wc) hD hS hA isC hC
  refine va_calll (va_runV S hM cw ⟨PcW_blind, va_recv hK hP hc he, PcW_at (hP.sub isC (map_pick hC)) (hD.sub isC hnC hC) hK hN⟩ rfl hn hsize rfl (lv_room hW) hdg hf) hS (fun q _ h => hF q h) hF (fun r u t H1 locs1 ht hvm hw hB hz1 hk1 hS1 => ?_)
  obtain ⟨hP1, hD1⟩ := hB
  rw [ht] at hP1
  obtain ⟨hP2, hD2⟩ := va_join hP hD isC isR hC hR hnR hdis hk1 hF hP1 hD1
  exact kk r u H1 locs1 hw hP2 hD2 hS1
theorem wrVv {T : Type} {post : T → Prop} {w1 : T → va_W} (S : CallFix p m c cc nL s args Ts own) (hM : Met l y wsy rm (PcW D cI cZ cR (.ref b :: As) wc H.size) (va_Qv post (Bw D w1 (va_A wc H.size)) (va_A wc H.size)) 0 0 (va_A wc H.size)) (cw : CallW R s args own C index y bytes maxL ret wsy rm 0 0 n)
    (hK : va_K D vwCl (tyW cI cZ cR) s) (hN : nst s) (hP : va_P D vwCl ws H) (hD : va_D A ws) (hS : va_S A H0 H locs) (hA : ∀ q, H0.size ≤ q → A q) (q0 ci : Nat) (hc : vwCl[ci]? = some q) (hqC : q.1 = C) (he : ws[q0]? = some (b, .inr (ci, fs))) (isC isR : List Nat) (hC : isC.map (fun i => ws[i]?) = wc.map some) (hnC : va_nd isC = true) (hR : isR.map (fun i => ws[i]?) = wr.map some) (hnR : va_nd isR = true) (hdis : ∀ i ∈ isR, i ∉ isC)
    (hn : As.length = n) (hsize : ls.size = nL) (hstack : st0 = As.reverse ++ .ref b :: rest) (hW : (rest.map fun v => v.category).sum ≤ 8) (hdg : decode cc pc = .ok (.invokevirtual index, 3)) (hf : cells ≤ R.cells ∧ slots ≤ R.slots)
    (kk : ∀ (u : T) (H1 : Heap) (locs1 : List Loc), post u → va_P D vwCl (wr ++ w1 u) H1 → va_D A (wr ++ w1 u) → va_S A H0 H1 locs1 → W p l e R s m args below meth c H1 locs1 cells slots Q (F0 m (pc + 3) ls rest)) : W p l e R s m args below meth c H locs cells slots Q (F0 m pc ls st0) := by
  subst hqC
  subst hstack
  have hF := va_free (wc := wc) hD hS hA isC hC
  refine va_callv (va_runV S hM cw ⟨PcW_blind, va_recv hK hP hc he, PcW_at (hP.sub isC (map_pick hC)) (hD.sub isC hnC hC) hK hN⟩ rfl hn hsize rfl (lv_room hW) hdg hf) hS (fun q _ h => hF q h) hF (fun u t H1 locs1 ht hvm hw hB hz1 hk1 hS1 => ?_)
  obtain ⟨hP1, hD1⟩ := hB
  rw [ht] at hP1
  obtain ⟨hP2, hD2⟩ := va_join hP hD isC isR hC hR hnR hdis hk1 hF hP1 hD1
  exact kk u H1 locs1 hw hP2 hD2 hS1
/-- a static writer is called (Arrays.fill) -/
theorem wrSv {T : Type} {post : T → Prop} {w1 : T → va_W} (S : CallFix p m c cc nL s args Ts own) (hM : Met l y wsy rm (PcW D cI cZ cR As wc H.size) (va_Qv post (Bw D w1 (va_A wc H.size)) (va_A wc H.size)) 0 0 (va_A wc H.size)) (cw : CallB R s args own index y bytes maxL ret wsy rm 0 0 n ∧ (Cond.static y).before args s = true)
    (hK : va_K D vwCl (tyW cI cZ cR) s) (hN : nst s) (hP : va_P D vwCl ws H) (hD : va_D A ws) (hS : va_S A H0 H locs) (hA : ∀ q, H0.size ≤ q → A q) (isC isR : List Nat) (hC : isC.map (fun i => ws[i]?) = wc.map some) (hnC : va_nd isC = true) (hR : isR.map (fun i => ws[i]?) = wr.map some) (hnR : va_nd isR = true) (hdis : ∀ i ∈ isR, i ∉ isC)
    (hn : As.length = n) (hsize : ls.size = nL) (hstack : st0 = As.reverse ++ rest) (hW : (rest.map fun v => v.category).sum ≤ 8) (hdg : decode cc pc = .ok (.invokestatic index, 3)) (hf : cells ≤ R.cells ∧ slots ≤ R.slots)
    (kk : ∀ (u : T) (H1 : Heap) (locs1 : List Loc), post u → va_P D vwCl (wr ++ w1 u) H1 → va_D A (wr ++ w1 u) → va_S A H0 H1 locs1 → W p l e R s m args below meth c H1 locs1 cells slots Q (F0 m (pc + 3) ls rest)) : W p l e R s m args below meth c H locs cells slots Q (F0 m pc ls st0) := by
  subst hstack
  have hF := va_free (wc := wc) hD hS hA isC hC
  refine va_callv (va_runS S hM cw ⟨PcW_blind, PcW_at (hP.sub isC (map_pick hC)) (hD.sub isC hnC hC) hK hN⟩ rfl hn hsize rfl (lv_room hW) hdg hf) hS (fun q _ h => hF q h) hF (fun u t H1 locs1 ht hvm hw hB hz1 hk1 hS1 => ?_)
  obtain ⟨hP1, hD1⟩ := hB
  rw [ht] at hP1
  obtain ⟨hP2, hD2⟩ := va_join hP hD isC isR hC hR hnR hdis hk1 hF hP1 hD1
  exact kk u H1 locs1 hw hP2 hD2 hS1
/-- the ends -/
theorem rdI {v r : Int32} (hx : p.tables.exec = Jvm.exec) (hb : c.code = cc) (hr : meth.sig.returnType = some .int) (hlocks : meth.locks = false) (hd : decode cc pc = .ok (.ireturn, 1)) (h : v = r) : W p l e R s m args below meth c s.heap [] cells slots (MQ below (k2_QcV (.int r)) args s cells slots (fun _ => False)) (F0 m pc ls [.int v]) := by
  subst h
  exact W.iret (v := v) hx hb hr (fun t ht hW => ⟨rfl, ht⟩) (fun q h => by cases h) hd hlocks
theorem rdL {v r : Int64} (hx : p.tables.exec = Jvm.exec) (hb : c.code = cc) (hr : meth.sig.returnType = some .long) (hlocks : meth.locks = false) (hd : decode cc pc = .ok (.lreturn, 1)) (h : v = r) : W p l e R s m args below meth c s.heap [] cells slots (MQ below (k2_QcV (.long r)) args s cells slots (fun _ => False)) (F0 m pc ls [.long v]) := by
  subst h
  exact W.lret (v := v) hx hb hr (fun t ht hW => ⟨rfl, ht⟩) (fun q h => by cases h) hd hlocks
theorem rdZ {v : Int32} {P : Prop} [Decidable P] (hx : p.tables.exec = Jvm.exec) (hb : c.code = cc) (hr : meth.sig.returnType = some .boolean) (hlocks : meth.locks = false) (hd : decode cc pc = .ok (.ireturn, 1)) (h : v = bi P) : W p l e R s m args below meth c s.heap [] cells slots (MQ below (k2_QcV (.int (bi P))) args s cells slots (fun _ => False)) (F0 m pc ls [.int v]) := by
  subst h
  exact W.zret (v := bi P) (ty := .boolean) hx hb hr bi_nar (fun t ht hW => ⟨rfl, ht⟩) (fun q h => by cases h) hd hlocks
theorem wrI {T : Type} {post : Int32 → T → Prop} {w1 : T → va_W} {v : Int32} (u : T) (hx : p.tables.exec = Jvm.exec) (hb : c.code = cc) (hr : meth.sig.returnType = some .int) (hlocks : meth.locks = false) (hd : decode cc pc = .ok (.ireturn, 1)) (hS : va_S A s.heap H locs) (hP : va_P D vwCl (w1 u) H) (hD : va_D A (w1 u)) (h : post v u) : W p l e R s m args below meth c H locs cells slots (MQ below (va_Qi post (Bw D w1 A) A) args s cells slots A) (F0 m pc ls [.int v]) :=
  W.iret (v := v) hx hb hr (fun t ht hW => ⟨⟨v, u, rfl, h, by rw [ht]; exact hP, hD⟩, hS.F ht⟩) hS.2.2 hd hlocks
theorem wrZ {T : Type} {post : Int32 → T → Prop} {w1 : T → va_W} {v : Int32} (P : Prop) [Decidable P] (hv : v = bi P) (u : T) (hx : p.tables.exec = Jvm.exec) (hb : c.code = cc) (hr : meth.sig.returnType = some .boolean) (hlocks : meth.locks = false) (hd : decode cc pc = .ok (.ireturn, 1)) (hS : va_S A s.heap H locs) (hP : va_P D vwCl (w1 u) H) (hD : va_D A (w1 u)) (h : post v u) : W p l e R s m args below meth c H locs cells slots (MQ below (va_Qi post (Bw D w1 A) A) args s cells slots A) (F0 m pc ls [.int v]) := by
  subst hv
  exact W.zret (v := bi P) (ty := .boolean) hx hb hr bi_nar (fun t ht hW => ⟨⟨_, u, rfl, h, by rw [ht]; exact hP, hD⟩, hS.F ht⟩) hS.2.2 hd hlocks
theorem wrL {T : Type} {post : Int64 → T → Prop} {w1 : T → va_W} {v : Int64} (u : T) (hx : p.tables.exec = Jvm.exec) (hb : c.code = cc) (hr : meth.sig.returnType = some .long) (hlocks : meth.locks = false) (hd : decode cc pc = .ok (.lreturn, 1)) (hS : va_S A s.heap H locs) (hP : va_P D vwCl (w1 u) H) (hD : va_D A (w1 u)) (h : post v u) : W p l e R s m args below meth c H locs cells slots (MQ below (va_Ql post (Bw D w1 A) A) args s cells slots A) (F0 m pc ls [.long v]) :=
  W.lret (v := v) hx hb hr (fun t ht hW => ⟨⟨v, u, rfl, h, by rw [ht]; exact hP, hD⟩, hS.F ht⟩) hS.2.2 hd hlocks
theorem wrV {T : Type} {post : T → Prop} {w1 : T → va_W} (u : T) (hx : p.tables.exec = Jvm.exec) (hb : c.code = cc) (hr : meth.sig.returnType = none) (hlocks : meth.locks = false) (hd : decode cc pc = .ok (.return_, 1)) (hS : va_S A s.heap H locs) (hP : va_P D vwCl (w1 u) H) (hD : va_D A (w1 u)) (h : post u) : W p l e R s m args below meth c H locs cells slots (MQ below (va_Qv post (Bw D w1 A) A) args s cells slots A) (F0 m pc ls []) :=
  W.vret hx hb hr (fun t ht hW => ⟨⟨u, rfl, h, by rw [ht]; exact hP, hD⟩, hS.F ht⟩) hS.2.2 hd hlocks
end BASE
