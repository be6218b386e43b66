/-! ===== starts with more than the world; new cells; the static table ===== -/
def PcE (E : State → Prop) (D : va_G) (cI cZ cR : ClassId) (av : List Value) (ws : va_W) (sz : Nat) : Array Value → State → Prop := va_Pc av (fun U => U.heap.size = sz ∧ va_P D vwCl ws U.heap ∧ va_K D vwCl (tyW cI cZ cR) U ∧ va_D (fun _ => True) ws ∧ nst U ∧ E U)
def PcF (E : State → Prop) (D : va_G) (cI cZ cR : ClassId) (av : List Value) (ws : va_W) : Array Value → State → Prop := va_Pc av (fun U => va_P D vwCl ws U.heap ∧ va_K D vwCl (tyW cI cZ cR) U ∧ nst U ∧ E U)
def blindE (E : State → Prop) : Prop := ∀ (u U : State), u.vm.Alike U.vm → u.heap = U.heap → E u → E U
theorem PcE_blind {E : State → Prop} (hE : blindE E) {D : va_G} {cI cZ cR : ClassId} {av : List Value} {ws : va_W} {sz : Nat} : FrameBlind (PcE E D cI cZ cR av ws sz) := by
  intro a U g mk q
  exact ⟨q.1, q.2.1, q.2.2.1, va_K.moved (u := U) (U := U.calling g mk a) (Vm.Alike.refl U.vm) q.2.2.2.1, q.2.2.2.2.1, nst.same (u := U) (U := U.calling g mk a) rfl q.2.2.2.2.2.1, hE U (U.calling g mk a) (Vm.Alike.refl U.vm) rfl q.2.2.2.2.2.2⟩
theorem PcF_blind {E : State → Prop} (hE : blindE E) {D : va_G} {cI cZ cR : ClassId} {av : List Value} {ws : va_W} : FrameBlind (PcF E D cI cZ cR av ws) := by
  intro a U g mk q
  exact ⟨q.1, q.2.1, va_K.moved (u := U) (U := U.calling g mk a) (Vm.Alike.refl U.vm) q.2.2.1, nst.same (u := U) (U := U.calling g mk a) rfl q.2.2.2.1, hE U (U.calling g mk a) (Vm.Alike.refl U.vm) rfl q.2.2.2.2⟩
theorem PcE_at {E : State → Prop} {D : va_G} {cI cZ cR : ClassId} {av : List Value} {ws : va_W} {s : State} {H : Heap} {A : Nat → Prop} (hP : va_P D vwCl ws H) (hD : va_D A ws) (hK : va_K D vwCl (tyW cI cZ cR) s) (hN : nst s) (hE : ∀ U : State, U.heap = H → s.vm.Alike U.vm → E U) : ∀ U : State, U.heap = H → s.WarmedH U.vm → PcE E D cI cZ cR av ws H.size av.toArray U :=
  fun U hU hW => ⟨rfl, by rw [hU], by rw [hU]; exact hP, va_K.moved hW.alike hK, hD.weaken (fun _ _ _ _ => trivial), nst.warm hW hN, hE U hU hW.alike⟩
theorem PcF_at {E : State → Prop} {D : va_G} {cI cZ cR : ClassId} {av : List Value} {ws : va_W} {s : State} {H : Heap} (hP : va_P D vwCl ws H) (hK : va_K D vwCl (tyW cI cZ cR) s) (hN : nst s) (hE : ∀ U : State, U.heap = H → s.vm.Alike U.vm → E U) : ∀ U : State, U.heap = H → s.WarmedH U.vm → PcF E D cI cZ cR av ws av.toArray U :=
  fun U hU hW => ⟨rfl, by rw [hU]; exact hP, va_K.moved hW.alike hK, nst.warm hW hN, hE U hU hW.alike⟩
def und (j : Nat) : Int32 := if j = 0 then -1 else if j = 4 then 2 else if j = 5 then 1 else 0
def undF (j : Nat) : Value := .int (und j)
def und9 (A : Nat → Prop) (U : State) (H : Heap) : Prop := ∃ t : Nat, va_Z "StepsRoundCircle" "UNDER" "[I" (.ref t) A U H ∧ va_T .int t 6 undF A U H
def undE (U : State) : Prop := und9 (fun _ => False) U U.heap
theorem und9.moved {A : Nat → Prop} {u U : State} {H : Heap} (hvm : u.vm.Alike U.vm) (h : und9 A u H) : und9 A U H := by
  obtain ⟨t, h1, h2⟩ := h
  exact ⟨t, h1.moved hvm, h2.moved hvm⟩
theorem und9.low {A : Nat → Prop} {U : State} {H : Heap} (h : und9 A U H) : und9 (fun _ => False) U H := by
  obtain ⟨t, h1, h2⟩ := h
  exact ⟨t, h1.narrow (fun _ z => z.elim), h2.narrow (fun _ z => z.elim)⟩
theorem und9.kept {A : Nat → Prop} {U : State} {H0 H : Heap} {locs : List Loc} (hS : va_S A H0 H locs) (h : und9 A U H0) : und9 A U H := by
  obtain ⟨t, h1, h2⟩ := h
  exact ⟨t, h1.kept hS.2.1, h2.kept hS.2.1⟩
theorem undE_blind : blindE undE := by
  intro u U hvm hh h
  unfold undE at h ⊢
  rw [← hh]
  exact h.moved hvm
theorem undE_at {A : Nat → Prop} {s : State} {H : Heap} (h : und9 A s H) : ∀ U : State, U.heap = H → s.vm.Alike U.vm → undE U := by
  intro U hU hvm
  unfold undE
  rw [hU]
  exact h.low.moved hvm
def rowE (U : State) : Prop := va_AO RX2 U
theorem rowE_blind : blindE rowE := fun _ _ hvm _ h => va_AO.moved hvm h
theorem rowE_at {s : State} {H : Heap} (h : va_AO RX2 s) : ∀ U : State, U.heap = H → s.vm.Alike U.vm → rowE U := fun _ _ hvm => va_AO.moved hvm h
theorem K_I {D : va_G} {cl : List vw_C} {cI cZ cR cA : ClassId} {s : State} (h : va_K D cl (tyW cI cZ cR ++ [(cA, .int)]) s) : cA = cI := by
  have h1 := (h.2 0 (cI, .int) rfl).2
  have h2 := (h.2 3 (cA, .int) rfl).2
  exact Option.some.inj (h2.symm.trans h1)
theorem K_Z {D : va_G} {cl : List vw_C} {cI cZ cR cA : ClassId} {s : State} (h : va_K D cl (tyW cI cZ cR ++ [(cA, .boolean)]) s) : cA = cZ := by
  have h1 := (h.2 1 (cZ, .boolean) rfl).2
  have h2 := (h.2 3 (cA, .boolean) rfl).2
  exact Option.some.inj (h2.symm.trans h1)
theorem K_R {D : va_G} {cl : List vw_C} {cI cZ cR cA : ClassId} {s : State} (h : va_K D cl (tyW cI cZ cR ++ [(cA, .object RX2)]) s) : cA = cR := by
  have h1 := (h.2 2 (cR, .object RX2) rfl).2
  have h2 := (h.2 3 (cA, .object RX2) rfl).2
  obtain ⟨_, _, _, _, _, e1⟩ := h1
  obtain ⟨_, _, _, _, _, e2⟩ := h2
  exact Option.some.inj (e2.symm.trans e1)
section BASE3
variable {p : Program} {l : Launch} {e : Env} {R : Room} {s : State} {m : MethodId} {args : Array Value} {below : List Frame} {meth : Method} {c : Code} {H H0 : Heap} {locs : List Loc} {cells slots : Nat} {Q : State → Prop}
variable {y : MethodName} {bytes cc : ByteArray} {maxL nL n index pc mc ms : Nat} {ret : Option FieldType} {wsy : List Cond} {rm : Room} {Ts : List Cond} {own C host : String} {b : Addr} {As rest st0 : List Value} {ls : Array Slot}
variable {D : va_G} {cI cZ cR : ClassId} {ws wc wr : va_W} {A : Nat → Prop} {fs : List Value} {q : vw_C} {E : State → Prop}
theorem newI (hx : p.tables.exec = Jvm.exec) (hb : c.code = cc) (harr : (Cond.arrayClass .int).before args s = true) (hK : va_K D vwCl (tyW cI cZ cR) s) (hP : va_P D vwCl ws H) (hD : va_D A ws) (hS : va_S A H0 H locs) (hA : ∀ q, H0.size ≤ q → A q) {k : Int32} (N : Nat) (hn : ¬ k < 0) (hN : k.toNatClampNeg = N) (hbytes : N * componentBytes .int ≤ 536870912) (hcells : cells + 1 ≤ R.cells) (hslots : slots + N ≤ R.slots) (hdg : decode cc pc = .ok (.newarray .int, 2))
    (kk : ∀ (q : Nat) (H1 : Heap), va_P D vwCl (ws ++ [(q, .inl (cI, N, .inl (fun _ => 0)))]) H1 → va_D A (ws ++ [(q, .inl (cI, N, .inl (fun _ => 0)))]) → va_S A H0 H1 locs → W p l e R s m args below meth c H1 locs (cells + 1) (slots + N) Q (F0 m (pc + 2) ls (.ref q :: rest))) : W p l e R s m args below meth c H locs cells slots Q (F0 m pc ls (.int k :: rest)) := by
  refine va_newa (atype := .int) (ty := .int) (a0 := (N, .inl (fun _ => 0))) hx hb harr rfl hK hP hD hS hA (fun cA => by rw [vp_cell_i]; rfl) hn hN hbytes hcells hslots hdg (fun q cA H1 hK1 hP1 hD1 hS1 => ?_)
  have e1 := K_I hK1
  subst e1
  exact kk q H1 hP1 hD1 hS1
theorem newZ (hx : p.tables.exec = Jvm.exec) (hb : c.code = cc) (harr : (Cond.arrayClass .boolean).before args s = true) (hK : va_K D vwCl (tyW cI cZ cR) s) (hP : va_P D vwCl ws H) (hD : va_D A ws) (hS : va_S A H0 H locs) (hA : ∀ q, H0.size ≤ q → A q) {k : Int32} (N : Nat) (hn : ¬ k < 0) (hN : k.toNatClampNeg = N) (hbytes : N * componentBytes .boolean ≤ 536870912) (hcells : cells + 1 ≤ R.cells) (hslots : slots + N ≤ R.slots) (hdg : decode cc pc = .ok (.newarray .boolean, 2))
    (kk : ∀ (q : Nat) (H1 : Heap), va_P D vwCl (ws ++ [(q, .inl (cZ, N, .inl (fun _ => 0)))]) H1 → va_D A (ws ++ [(q, .inl (cZ, N, .inl (fun _ => 0)))]) → va_S A H0 H1 locs → W p l e R s m args below meth c H1 locs (cells + 1) (slots + N) Q (F0 m (pc + 2) ls (.ref q :: rest))) : W p l e R s m args below meth c H locs cells slots Q (F0 m pc ls (.int k :: rest)) := by
  refine va_newa (atype := .boolean) (ty := .boolean) (a0 := (N, .inl (fun _ => 0))) hx hb harr rfl hK hP hD hS hA (fun cA => by rw [vp_cell_i]; rfl) hn hN hbytes hcells hslots hdg (fun q cA H1 hK1 hP1 hD1 hS1 => ?_)
  have e1 := K_Z hK1
  subst e1
  exact kk q H1 hP1 hD1 hS1
theorem newR (hx : p.tables.exec = Jvm.exec) (hb : c.code = cc) (hown : s.vm.findClass own = some m.cls) (hclink : (Cond.classLink own index RX2).before args s = true) (hover : va_AO RX2 s) (hK : va_K D vwCl (tyW cI cZ cR) s) (hP : va_P D vwCl ws H) (hD : va_D A ws) (hS : va_S A H0 H locs) (hA : ∀ q, H0.size ≤ q → A q) {k : Int32} (N : Nat) (hn : ¬ k < 0) (hN : k.toNatClampNeg = N) (hbytes : N * 4 ≤ 536870912) (hcells : cells + 1 ≤ R.cells) (hslots : slots + N ≤ R.slots) (hdg : decode cc pc = .ok (.anewarray index, 3))
    (kk : ∀ (q : Nat) (H1 : Heap), va_P D vwCl (ws ++ [(q, .inl (cR, N, .inr (.inr (.inr (.inr (fun _ => none))))))]) H1 → va_D A (ws ++ [(q, .inl (cR, N, .inr (.inr (.inr (.inr (fun _ => none))))))]) → va_S A H0 H1 locs → W p l e R s m args below meth c H1 locs (cells + 1) (slots + N) Q (F0 m (pc + 3) ls (.ref q :: rest))) : W p l e R s m args below meth c H locs cells slots Q (F0 m pc ls (.int k :: rest)) := by
  refine va_newq hx hb hown hclink hover hK hP hD hS hA hn hN hbytes hcells hslots hdg (fun q cA H1 hK1 hP1 hD1 hS1 => ?_)
  have e1 := K_R hK1
  subst e1
  exact kk q H1 hP1 hD1 hS1
/-- a constructor of a nest mate is called; any constructor -/
theorem wrIN {T : Type} {post : T → Prop} {w1 : T → va_W} (S : CallFix p m c cc nL s args Ts own) (hM : Met l y wsy rm (PcW D cI cZ cR (.ref b :: As) wc H.size) (va_Qv post (Bw D w1 (va_A wc H.size)) (va_A wc H.size)) mc ms (va_A wc H.size)) (cw : va_CN R s args own index y host bytes maxL none wsy rm mc ms n ∧ y.name = "<init>" ∧ (Cond.instanceMethod y).before args s = true)
    (hK : va_K D vwCl (tyW cI cZ cR) s) (hN : nst s) (hP : va_P D vwCl ws H) (hD : va_D A ws) (hS : va_S A H0 H locs) (hA : ∀ q, H0.size ≤ q → A q) (isC isR : List Nat) (hC : isC.map (fun i => ws[i]?) = wc.map some) (hnC : va_nd isC = true) (hR : isR.map (fun i => ws[i]?) = wr.map some) (hnR : va_nd isR = true) (hdis : ∀ i ∈ isR, i ∉ isC)
    (hn : As.length = n) (hsize : ls.size = nL) (hstack : st0 = As.reverse ++ .ref b :: rest) (hW : (rest.map fun v => v.category).sum ≤ 8) (hdg : decode cc pc = .ok (.invokespecial index, 3)) (hf : cells + mc ≤ R.cells ∧ slots + ms ≤ R.slots)
    (kk : ∀ (u : T) (H1 : Heap) (locs1 : List Loc), post u → va_P D vwCl (wr ++ w1 u) H1 → va_D A (wr ++ w1 u) → va_S A H0 H1 locs1 → W p l e R s m args below meth c H1 locs1 (cells + mc) (slots + ms) Q (F0 m (pc + 3) ls rest)) : W p l e R s m args below meth c H locs cells slots Q (F0 m pc ls st0) := by
  subst hstack
  have hF := va_free (wc := wc) hD hS hA isC hC
  refine va_callv (va_runIN S hM cw ⟨PcW_blind, PcW_at (hP.sub isC (map_pick hC)) (hD.sub isC hnC hC) hK hN⟩ rfl hn hsize rfl (lv_room hW) hdg hf) hS (fun q _ h => hF q h) hF (fun u t H1 locs1 ht hvm hw hB hz1 hk1 hS1 => ?_)
  obtain ⟨hP1, hD1⟩ := hB
  rw [ht] at hP1
  obtain ⟨hP2, hD2⟩ := va_join hP hD isC isR hC hR hnR hdis hk1 hF hP1 hD1
  exact kk u H1 locs1 hw hP2 hD2 hS1
theorem wrII {T : Type} {post : T → Prop} {w1 : T → va_W} (hEb : blindE E) (hEs : ∀ U : State, U.heap = H → s.vm.Alike U.vm → E U) (S : CallFix p m c cc nL s args Ts own) (hM : Met l y wsy rm (PcE E D cI cZ cR (.ref b :: As) wc H.size) (va_Qv post (Bw D w1 (va_A wc H.size)) (va_A wc H.size)) mc ms (va_A wc H.size)) (cw : CallB R s args own index y bytes maxL none wsy rm mc ms n ∧ y.name = "<init>" ∧ (Cond.instanceMethod y).before args s = true)
    (hK : va_K D vwCl (tyW cI cZ cR) s) (hN : nst s) (hP : va_P D vwCl ws H) (hD : va_D A ws) (hS : va_S A H0 H locs) (hA : ∀ q, H0.size ≤ q → A q) (isC isR : List Nat) (hC : isC.map (fun i => ws[i]?) = wc.map some) (hnC : va_nd isC = true) (hR : isR.map (fun i => ws[i]?) = wr.map some) (hnR : va_nd isR = true) (hdis : ∀ i ∈ isR, i ∉ isC)
    (hn : As.length = n) (hsize : ls.size = nL) (hstack : st0 = As.reverse ++ .ref b :: rest) (hW : (rest.map fun v => v.category).sum ≤ 8) (hdg : decode cc pc = .ok (.invokespecial index, 3)) (hf : cells + mc ≤ R.cells ∧ slots + ms ≤ R.slots)
    (kk : ∀ (u : T) (H1 : Heap) (locs1 : List Loc), post u → va_P D vwCl (wr ++ w1 u) H1 → va_D A (wr ++ w1 u) → va_S A H0 H1 locs1 → W p l e R s m args below meth c H1 locs1 (cells + mc) (slots + ms) Q (F0 m (pc + 3) ls rest)) : W p l e R s m args below meth c H locs cells slots Q (F0 m pc ls st0) := by
  subst hstack
  have hF := va_free (wc := wc) hD hS hA isC hC
  refine va_callv (va_runI S hM cw ⟨PcE_blind hEb, PcE_at (hP.sub isC (map_pick hC)) (hD.sub isC hnC hC) hK hN hEs⟩ rfl hn hsize rfl (lv_room hW) hdg hf) hS (fun q _ h => hF q h) hF (fun u t H1 locs1 ht hvm hw hB hz1 hk1 hS1 => ?_)
  obtain ⟨hP1, hD1⟩ := hB
  rw [ht] at hP1
  obtain ⟨hP2, hD2⟩ := va_join hP hD isC isR hC hR hnR hdis hk1 hF hP1 hD1
  exact kk u H1 locs1 hw hP2 hD2 hS1
theorem wrViE {T : Type} {post : Int32 → T → Prop} {w1 : T → va_W} (hEb : blindE E) (hEs : ∀ U : State, U.heap = H → s.vm.Alike U.vm → E U) (S : CallFix p m c cc nL s args Ts own) (hM : Met l y wsy rm (PcE E D cI cZ cR (.ref b :: As) wc H.size) (va_Qi post (Bw D w1 (va_A wc H.size)) (va_A wc H.size)) 0 0 (va_A wc H.size)) (cw : CallW R s args own C index y bytes maxL ret wsy rm 0 0 n)
    (hK : va_K D vwCl (tyW cI cZ cR) s) (hN : nst s) (hP : va_P D vwCl ws H) (hD : va_D A ws) (hS : va_S A H0 H locs) (hA : ∀ q, H0.size ≤ q → A q) (q0 ci : Nat) (hc : vwCl[ci]? = some q) (hqC : q.1 = C) (he : ws[q0]? = some (b, .inr (ci, fs))) (isC isR : List Nat) (hC : isC.map (fun i => ws[i]?) = wc.map some) (hnC : va_nd isC = true) (hR : isR.map (fun i => ws[i]?) = wr.map some) (hnR : va_nd isR = true) (hdis : ∀ i ∈ isR, i ∉ isC)
    (hn : As.length = n) (hsize : ls.size = nL) (hstack : st0 = As.reverse ++ .ref b :: rest) (hW : (rest.map fun v => v.category).sum ≤ 8) (hdg : decode cc pc = .ok (.invokevirtual index, 3)) (hf : cells ≤ R.cells ∧ slots ≤ R.slots)
    (kk : ∀ (r : Int32) (u : T) (H1 : Heap) (locs1 : List Loc), post r u → va_P D vwCl (wr ++ w1 u) H1 → va_D A (wr ++ w1 u) → va_S A H0 H1 locs1 → W p l e R s m args below meth c H1 locs1 cells slots Q (F0 m (pc + 3) ls (.int r :: rest))) : W p l e R s m args below meth c H locs cells slots Q (F0 m pc ls st0) := by
  subst hqC
  subst hstack
  have hF := va_free (wc := wc) hD hS hA isC hC
  refine va_calli (va_runV S hM cw ⟨PcE_blind hEb, va_recv hK hP hc he, PcE_at (hP.sub isC (map_pick hC)) (hD.sub isC hnC hC) hK hN hEs⟩ rfl hn hsize rfl (lv_room hW) hdg hf) hS (fun q _ h => hF q h) hF (fun r u t H1 locs1 ht hvm hw hB hz1 hk1 hS1 => ?_)
  obtain ⟨hP1, hD1⟩ := hB
  rw [ht] at hP1
  obtain ⟨hP2, hD2⟩ := va_join hP hD isC isR hC hR hnR hdis hk1 hF hP1 hD1
  exact kk r u H1 locs1 hw hP2 hD2 hS1
theorem rdSE {r : Value} (hEb : blindE E) (hEs : ∀ U : State, U.heap = H → s.vm.Alike U.vm → E U) (S : CallFix p m c cc nL s args Ts own) (hM : Met l y wsy rm (PcF E D cI cZ cR As wc) (k2_QcV r) 0 0 (fun _ => False)) (cw : CallB R s args own index y bytes maxL ret wsy rm 0 0 n ∧ (Cond.static y).before args s = true)
    (hK : va_K D vwCl (tyW cI cZ cR) s) (hN : nst s) (hP : va_P D vwCl ws H) (is : List Nat) (hs : is.filterMap (fun i => ws[i]?) = wc)
    (hn : As.length = n) (hsize : ls.size = nL) (hstack : st0 = As.reverse ++ rest) (hW : (rest.map fun v => v.category).sum ≤ 8) (hdg : decode cc pc = .ok (.invokestatic index, 3)) (hf : cells ≤ R.cells ∧ slots ≤ R.slots)
    (kk : W p l e R s m args below meth c H locs cells slots Q (F0 m (pc + 3) ls (r :: rest))) : W p l e R s m args below meth c H locs cells slots Q (F0 m pc ls st0) := by
  subst hstack
  exact W.callV (W.runS S hM cw ⟨PcF_blind hEb, PcF_at (hP.sub is hs) hK hN hEs⟩ rfl hn hsize rfl (lv_room hW) hdg hf) kk
end BASE3
/-! ===== taken ===== -/
def kOv (x : Int32) : Int32 := if x = 0 then -1 else if x = 4 then 2 else if x = 5 then 1 else 0
def tkA : Nat → Int32 → Int32 → Int32
  | 0, _, _ => 0
  | n + 1, x, k => if 0 ≤ x then (if x = k then 1 else tkA n (kOv x) k) else 0
theorem tkA_hit {n : Nat} {x k : Int32} (hn : 0 < n) (h0 : 0 ≤ x) (h : x = k) : tkA n x k = 1 := by
  obtain ⟨m, rfl⟩ : ∃ m, n = m + 1 := ⟨n - 1, by omega⟩
  rw [tkA, if_pos h0, if_pos h]
theorem tkA_go {n : Nat} {x k : Int32} (hn : 0 < n) (h0 : 0 ≤ x) (h : ¬ x = k) : tkA n x k = tkA (n - 1) (kOv x) k := by
  obtain ⟨m, rfl⟩ : ∃ m, n = m + 1 := ⟨n - 1, by omega⟩
  rw [tkA, if_pos h0, if_neg h]
  rfl
theorem tkA_no {n : Nat} {x k : Int32} (h0 : ¬ 0 ≤ x) : tkA n x k = 0 := by
  cases n with
  | zero => rfl
  | succ m => rw [tkA, if_neg h0]
theorem und_k {x : Int32} (h : 0 ≤ x ∧ x < 6) : und x.toNatClampNeg = kOv x := by
  obtain ⟨j, hj, rfl⟩ := i_natlt (n := 6) (by decide) h
  have hc : j = 0 ∨ j = 1 ∨ j = 2 ∨ j = 3 ∨ j = 4 ∨ j = 5 := by omega
  rcases hc with rfl | rfl | rfl | rfl | rfl | rfl <;> decide
/-- where the way up may be behind i steps -/
def tkW (i : Nat) (x : Int32) : Prop := (i = 0 ∧ 0 ≤ x ∧ x < 6) ∨ (i = 1 ∧ (x = -1 ∨ x = 0 ∨ x = 1 ∨ x = 2)) ∨ (i = 2 ∧ (x = -1 ∨ x = 0)) ∨ (i = 3 ∧ x = -1)
theorem tkW_next {i : Nat} {x : Int32} (h : tkW i x) (h0 : 0 ≤ x) : tkW (i + 1) (kOv x) := by
  rcases h with ⟨e, h1⟩ | ⟨e, h1⟩ | ⟨e, h1⟩ | ⟨e, h1⟩
  · refine Or.inr (Or.inl ⟨by omega, ?_⟩)
    obtain ⟨j, hj, rfl⟩ := i_natlt (n := 6) (by decide) h1
    have hc : j = 0 ∨ j = 1 ∨ j = 2 ∨ j = 3 ∨ j = 4 ∨ j = 5 := by omega
    rcases hc with rfl | rfl | rfl | rfl | rfl | rfl <;> decide
  · refine Or.inr (Or.inr (Or.inl ⟨by omega, ?_⟩))
    rcases h1 with rfl | rfl | rfl | rfl
    · exact absurd h0 (by decide)
    · decide
    · decide
    · decide
  · refine Or.inr (Or.inr (Or.inr ⟨by omega, ?_⟩))
    rcases h1 with rfl | rfl
    · exact absurd h0 (by decide)
    · decide
  · rw [h1] at h0
    exact absurd h0 (by decide)
theorem tkW_lt {i : Nat} {x : Int32} (h : tkW i x) : i ≤ 3 ∧ x < 6 ∧ (0 ≤ x → i < 3) := by
  rcases h with ⟨e, h1⟩ | ⟨e, h1⟩ | ⟨e, h1⟩ | ⟨e, h1⟩
  · exact ⟨by omega, h1.2, fun _ => by omega⟩
  · refine ⟨by omega, ?_, fun _ => by omega⟩
    rcases h1 with rfl | rfl | rfl | rfl <;> decide
  · refine ⟨by omega, ?_, fun _ => by omega⟩
    rcases h1 with rfl | rfl <;> decide
  · refine ⟨by omega, ?_, fun z => ?_⟩
    · rw [h1]; decide
    · rw [h1] at z; exact absurd z (by decide)
def rf_tak (nw w k : Int32) : Int32 := if ¬ (0 ≤ w ∧ w < nw) then -1 else if 0 ≤ k ∧ k < 6 then 0 else -2
def takA (x k : Int32) : Int32 := if tkA 6 x k = 1 then x else -16
