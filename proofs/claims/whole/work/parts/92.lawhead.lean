/-! THE CLAIM OUT OF ONE WALK OF THE LAW'S BODY. Your part is whole_start (and what it stands on); all else here is the same for every law, but numbers. -/
def R_law : String := "StepsRoundCircleLaw"
def lw_P (b : Addr) (xs : List Int32) (args : Array Value) (s : State) : Prop := args = #[.ref b] ∧ s.IntsAt b xs ∧ xs.length ≤ 2560 ∧ (Jvm.Cond.and given_1 narrow_1).before args s = true
def lw_Q (_ : Array Value) (s : State) (o : Outcome) (t : State) : Prop := o = .returned (some (.int 1)) ∧ Framed s o t [] 600000 7302250
def lw_Z (below : List Frame) (a : Array Value) (s : State) : State → Prop := fun t => ∃ o, t.status = .running ∧ Ended t below o ∧ lw_Q a s o t
/-- the law's own end, with 1 on the stack, nothing written that was there before, its room as the claim has it -/
theorem lw_ret {p : Program} {l : Launch} {e : Env} {s : State} {m : MethodId} {below : List Frame} {meth : Method} {c : Code} {b : Nat} (hx : p.tables.exec = Jvm.exec) (hb : c.code = code) (hr : meth.sig.returnType = ret) (hlocks : meth.locks = false) {pc : Nat} {H : Heap} {ls : Array Slot} (hdg : decode code pc = .ok (.ireturn, 1)) : W p l e room_1 s m #[Value.ref b] below meth c H [] 600000 7302250 (lw_Z below #[Value.ref b] s) (F0 m pc ls [.int 1]) := by
  intro T hT X
  obtain ⟨fs, hret, hrun, hended, hW, hframe⟩ := X.leave (v := some (.int 1)) (hlocks := hlocks) (fun h => by rw [hr] at h; cases h)
  have hmeth' : T.vm.method? m = some meth := X.method'
  refine ⟨T.setFrames fs, ?_, .returned (some (.int 1)), hrun, hended, rfl, ⟨_, rfl⟩, hW, hframe⟩
  jvm_step X.here [X.here.top, hx, hb, hdg, hmeth', hr, ret, narrow_b1]
  (try refine ⟨rfl, ?_⟩); (try refine ⟨rfl, ?_⟩)
  first | (intro acts; rw [hret _ acts rfl rfl rfl]) | rw [hret _ _ rfl rfl rfl]
  exact Steps.refl _
/-- what holds at the law's entry: the machine, the code, the tables' words (any of lw_tbl by 'hts w (by decide +kernel)'), the script of L ints xs at the cell b, what the Statement gives of the start (any of its parts by flat_of_before) -/
def lw_At (p : Program) (s : State) (m : MethodId) (meth : Method) (c : Code) (b L : Nat) (xs : Nat → Int32) : Prop :=
  p.tables.exec = Jvm.exec ∧ c.code = code ∧ meth.sig.returnType = ret ∧ c.maxLocals = 4 ∧ s.vm.findClass R_law = some m.cls ∧ (∀ w ∈ lw_tbl, w.before #[Value.ref b] s = true) ∧ va_X b L xs s s.heap ∧ b < s.heap.size ∧ meth.locks = false ∧ (Jvm.Cond.and given_1 narrow_1).before #[Value.ref b] s = true
/-! ===== the law's world and its cases ===== -/
def LWd (cI cZ cR : ClassId) (ad : Nat → Nat) (rof : Nat → Option Nat) (hi q nw tq tw qi nwi tz cz pz oz z0 z1 z2 md mz km kr : Int32) (v tv vi tf cf F pf og kc f0 f1 f2 G sf9 P Mf of9 kf tf9 iB iS iT : Nat → Int32) : va_W := [(ad 0, .inr (5, [.ref (ad 1), .ref (ad 3), .ref (ad 5), .int hi, .ref (ad 7), .ref (ad 9), .ref (ad 11), .ref (ad 12), .ref (ad 13), .ref (ad 15), .ref (ad 17)])), (ad 1, .inr (1, [.int q, .int nw, .ref (ad 2)])), (ad 2, .inl (cI, 20, .inl v)), (ad 3, .inr (1, [.int tq, .int tw, .ref (ad 4)])), (ad 4, .inl (cI, 20, .inl tv)), (ad 5, .inr (1, [.int qi, .int nwi, .ref (ad 6)])), (ad 6, .inl (cI, 20, .inl vi)), (ad 7, .inr (4, [.int tz, .ref (ad 8)])), (ad 8, .inl (cI, 72, .inl tf)), (ad 9, .inr (0, [.int cz, .ref (ad 10)])), (ad 10, .inl (cI, 48, .inl cf)), (ad 11, .inl (cR, 3, .inr (.inr (.inr (.inr rof))))), (ad 12, .inl (cI, 6, .inl F)), (ad 13, .inr (3, [.int pz, .ref (ad 14)])), (ad 14, .inl (cI, 200, .inl pf)), (ad 15, .inr (3, [.int oz, .ref (ad 16)])), (ad 16, .inl (cI, 200, .inl og)), (ad 17, .inl (cI, 9, .inl kc)), (ad 18, .inr (2, [.int z0, .ref (ad 19)])), (ad 19, .inl (cI, 40, .inl f0)), (ad 20, .inr (2, [.int z1, .ref (ad 21)])), (ad 21, .inl (cI, 40, .inl f1)), (ad 22, .inr (2, [.int z2, .ref (ad 23)])), (ad 23, .inl (cI, 40, .inl f2)), (ad 24, .inr (6, [.ref (ad 25), .int q, .int nw, .ref (ad 26), .ref (ad 27), .int cz, .ref (ad 28), .int tz, .ref (ad 29), .ref (ad 30), .ref (ad 31), .int md, .ref (ad 32), .ref (ad 33), .ref (ad 34), .int mz, .ref (ad 35), .ref (ad 36), .ref (ad 37), .ref (ad 38), .int km, .int kr])), (ad 25, .inl (cI, 7, .inl G)), (ad 26, .inl (cI, 20, .inl v)), (ad 27, .inl (cI, 48, .inl cf)), (ad 28, .inl (cI, 72, .inl tf)), (ad 29, .inl (cI, 20, .inl sf9)), (ad 30, .inl (cI, 200, .inl P)), (ad 31, .inl (cI, 200, .inl Mf)), (ad 32, .inl (cI, 200, .inl of9)), (ad 33, .inl (cI, 9, .inl kf)), (ad 34, .inl (cI, 40, .inl tf9)), (ad 35, .inl (cZ, 3, .inl iB)), (ad 36, .inl (cI, 3, .inl iS)), (ad 37, .inl (cI, 120, .inl iT)), (ad 38, .inl (cI, 20, .inl vi))]
def LOK (hi q nw tz cz qi nwi z0 z1 z2 km kr : Int32) (v vi cf F f0 f1 f2 G iB iS iT : Nat → Int32) : Prop := okS q nw v ∧ tzO tz ∧ czO q nw cz cf ∧ imO hi qi nwi vi km kr ∧ FG F G ∧ lsR iB iS iT 0 z0 f0 ∧ lsR iB iS iT 1 z1 f1 ∧ lsR iB iS iT 2 z2 f2
def LInv (D : va_G) (cI cZ cR : ClassId) (A : Nat → Prop) (ad : Nat → Nat) (rof : Nat → Option Nat) (s : State) (H : Heap) (locs : List Loc) : Prop := ∃ (hi q nw tq tw qi nwi tz cz pz oz z0 z1 z2 md mz km kr : Int32) (v tv vi tf cf F pf og kc f0 f1 f2 G sf9 P Mf of9 kf tf9 iB iS iT : Nat → Int32), LOK hi q nw tz cz qi nwi z0 z1 z2 km kr v vi cf F f0 f1 f2 G iB iS iT ∧ va_P D vwCl (LWd cI cZ cR ad rof hi q nw tq tw qi nwi tz cz pz oz z0 z1 z2 md mz km kr v tv vi tf cf F pf og kc f0 f1 f2 G sf9 P Mf of9 kf tf9 iB iS iT) H ∧ va_D A (LWd cI cZ cR ad rof hi q nw tq tw qi nwi tz cz pz oz z0 z1 z2 md mz km kr v tv vi tf cf F pf og kc f0 f1 f2 G sf9 P Mf of9 kf tf9 iB iS iT) ∧ va_S A s.heap H locs
def lawC (p : Program) (s : State) (m : MethodId) (c : Code) (D : va_G) (cI cZ cR : ClassId) (A : Nat → Prop) (b L : Nat) (xs : Nat → Int32) (ad : Nat → Nat) (rof : Nat → Option Nat) : Prop :=
  p.tables.exec = Jvm.exec ∧ c.code = cL_law ∧ c.maxLocals = 4 ∧ s.vm.findClass RL = some m.cls ∧ (∀ w ∈ wsL_law, w.before #[Value.ref b] s = true) ∧ va_X b L xs s s.heap ∧ b < s.heap.size ∧ ¬ A b ∧ (∀ q, s.heap.size ≤ q → A q) ∧ va_K D vwCl (tyW cI cZ cR) s ∧ nst s ∧ und9 A s s.heap ∧ rof 0 = some (ad 18) ∧ rof 1 = some (ad 20) ∧ rof 2 = some (ad 22) ∧ L ≤ 2560
theorem sc_in {L i : Nat} (hL : L ≤ 2560) (h : i + 5 ≤ L) {k : Nat} (hk : k < 5) : vp_in (nI i + nI k) L := by
  rw [nI_add]
  exact vp_in_nI (by omega) (by omega)
theorem li_c (x : Int32) : x = nI 0 ∨ x = nI 1 ∨ x = nI 2 ∨ ¬ (0 ≤ x ∧ x < 3) := by
  by_cases h : 0 ≤ x ∧ x < 3
  · obtain ⟨j, hj, rfl⟩ := i_natlt (n := 3) (by decide) h
    have hc : j = 0 ∨ j = 1 ∨ j = 2 := by omega
    rcases hc with rfl | rfl | rfl
    · exact Or.inl rfl
    · exact Or.inr (Or.inl rfl)
    · exact Or.inr (Or.inr (Or.inl rfl))
  · exact Or.inr (Or.inr (Or.inr h))
