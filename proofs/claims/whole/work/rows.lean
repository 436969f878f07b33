section
-- ===== PART A: goes FIRST, ahead of the names: the tables' words, and 'selects' of the private methods out of them =====
/-- a private method of a class that the tables say can be made, by its rows of tables_1 -/
def lw_okq (q : MethodName × Nat) : Prop := (q.1.cls ≠ "java/lang/invoke/MethodHandle" ∧ q.1.cls ≠ "java/lang/invoke/VarHandle") ∧ Cond.instantiable q.1.cls q.2 ∈ tables_1 ∧ Cond.privateMethod q.1 ∈ tables_1 ∧ Cond.instanceMethod q.1 ∈ tables_1
theorem lw_p0 : lw_okq (⟨"WearHours$Planner", "freeAll", "()V"⟩, 7) := ⟨⟨by decide +kernel, by decide +kernel⟩, List.mem_of_getElem? (i := 171) (by decide +kernel), List.mem_of_getElem? (i := 233) (by decide +kernel), List.mem_of_getElem? (i := 234) (by decide +kernel)⟩
theorem lw_p1 : lw_okq (⟨"WearHours$Planner", "sumFloors", "()V"⟩, 7) := ⟨⟨by decide +kernel, by decide +kernel⟩, List.mem_of_getElem? (i := 171) (by decide +kernel), List.mem_of_getElem? (i := 237) (by decide +kernel), List.mem_of_getElem? (i := 238) (by decide +kernel)⟩
theorem lw_p2 : lw_okq (⟨"WearHours$Planner", "firstBeginning", "(LWearHours$Repair;I)I"⟩, 7) := ⟨⟨by decide +kernel, by decide +kernel⟩, List.mem_of_getElem? (i := 171) (by decide +kernel), List.mem_of_getElem? (i := 245) (by decide +kernel), List.mem_of_getElem? (i := 246) (by decide +kernel)⟩
theorem lw_p3 : lw_okq (⟨"WearHours$Planner", "beginning", "(LWearHours$Repair;II)I"⟩, 7) := ⟨⟨by decide +kernel, by decide +kernel⟩, List.mem_of_getElem? (i := 171) (by decide +kernel), List.mem_of_getElem? (i := 249) (by decide +kernel), List.mem_of_getElem? (i := 250) (by decide +kernel)⟩
theorem lw_p4 : lw_okq (⟨"WearHours$Planner", "leastCost", "(II)I"⟩, 7) := ⟨⟨by decide +kernel, by decide +kernel⟩, List.mem_of_getElem? (i := 171) (by decide +kernel), List.mem_of_getElem? (i := 260) (by decide +kernel), List.mem_of_getElem? (i := 261) (by decide +kernel)⟩
theorem lw_p5 : lw_okq (⟨"WearHours$Planner", "costBy", "(IIII)I"⟩, 7) := ⟨⟨by decide +kernel, by decide +kernel⟩, List.mem_of_getElem? (i := 171) (by decide +kernel), List.mem_of_getElem? (i := 264) (by decide +kernel), List.mem_of_getElem? (i := 265) (by decide +kernel)⟩
theorem lw_p6 : lw_okq (⟨"WearHours$Planner", "occupy", "(LWearHours$Repair;II)V"⟩, 7) := ⟨⟨by decide +kernel, by decide +kernel⟩, List.mem_of_getElem? (i := 171) (by decide +kernel), List.mem_of_getElem? (i := 268) (by decide +kernel), List.mem_of_getElem? (i := 269) (by decide +kernel)⟩
theorem lw_p7 : lw_okq (⟨"WearHours$Planner", "settle", "(II)I"⟩, 7) := ⟨⟨by decide +kernel, by decide +kernel⟩, List.mem_of_getElem? (i := 171) (by decide +kernel), List.mem_of_getElem? (i := 272) (by decide +kernel), List.mem_of_getElem? (i := 273) (by decide +kernel)⟩
theorem lw_p8 : lw_okq (⟨"java/lang/Throwable", "fillInStackTrace", "(I)Ljava/lang/Throwable;"⟩, 6) := ⟨⟨by decide +kernel, by decide +kernel⟩, List.mem_of_getElem? (i := 341) (by decide +kernel), List.mem_of_getElem? (i := 339) (by decide +kernel), List.mem_of_getElem? (i := 340) (by decide +kernel)⟩
theorem lw_p9 : lw_okq (⟨"WearHours", "knownThing", "(I)LWearHours$Thing;"⟩, 6) := ⟨⟨by decide +kernel, by decide +kernel⟩, List.mem_of_getElem? (i := 18) (by decide +kernel), List.mem_of_getElem? (i := 400) (by decide +kernel), List.mem_of_getElem? (i := 401) (by decide +kernel)⟩
theorem lw_p10 : lw_okq (⟨"WearHours$Thing", "keep", "(I)V"⟩, 5) := ⟨⟨by decide +kernel, by decide +kernel⟩, List.mem_of_getElem? (i := 27) (by decide +kernel), List.mem_of_getElem? (i := 445) (by decide +kernel), List.mem_of_getElem? (i := 446) (by decide +kernel)⟩
theorem lw_p11 : lw_okq (⟨"WearHours", "drawnNumber", "(J)J"⟩, 6) := ⟨⟨by decide +kernel, by decide +kernel⟩, List.mem_of_getElem? (i := 18) (by decide +kernel), List.mem_of_getElem? (i := 474) (by decide +kernel), List.mem_of_getElem? (i := 475) (by decide +kernel)⟩
theorem lw_p12 : lw_okq (⟨"WearHours", "checkPlan", "()V"⟩, 6) := ⟨⟨by decide +kernel, by decide +kernel⟩, List.mem_of_getElem? (i := 18) (by decide +kernel), List.mem_of_getElem? (i := 574) (by decide +kernel), List.mem_of_getElem? (i := 575) (by decide +kernel)⟩
theorem lw_p13 : lw_okq (⟨"WearHoursModel", "goes", "(ZZZ)Z"⟩, 32) := ⟨⟨by decide +kernel, by decide +kernel⟩, List.mem_of_getElem? (i := 608) (by decide +kernel), List.mem_of_getElem? (i := 728) (by decide +kernel), List.mem_of_getElem? (i := 729) (by decide +kernel)⟩
theorem lw_p14 : lw_okq (⟨"WearHoursModel", "isThing", "(I)Z"⟩, 32) := ⟨⟨by decide +kernel, by decide +kernel⟩, List.mem_of_getElem? (i := 608) (by decide +kernel), List.mem_of_getElem? (i := 736) (by decide +kernel), List.mem_of_getElem? (i := 737) (by decide +kernel)⟩
theorem lw_p15 : lw_okq (⟨"WearHoursModel", "isBarred", "(I)Z"⟩, 32) := ⟨⟨by decide +kernel, by decide +kernel⟩, List.mem_of_getElem? (i := 608) (by decide +kernel), List.mem_of_getElem? (i := 740) (by decide +kernel), List.mem_of_getElem? (i := 741) (by decide +kernel)⟩
def lw_privs_1 : List (MethodName × Nat) := [(⟨"WearHours$Planner", "freeAll", "()V"⟩, 7), (⟨"WearHours$Planner", "sumFloors", "()V"⟩, 7), (⟨"WearHours$Planner", "firstBeginning", "(LWearHours$Repair;I)I"⟩, 7), (⟨"WearHours$Planner", "beginning", "(LWearHours$Repair;II)I"⟩, 7), (⟨"WearHours$Planner", "leastCost", "(II)I"⟩, 7), (⟨"WearHours$Planner", "costBy", "(IIII)I"⟩, 7), (⟨"WearHours$Planner", "occupy", "(LWearHours$Repair;II)V"⟩, 7), (⟨"WearHours$Planner", "settle", "(II)I"⟩, 7), (⟨"java/lang/Throwable", "fillInStackTrace", "(I)Ljava/lang/Throwable;"⟩, 6), (⟨"WearHours", "knownThing", "(I)LWearHours$Thing;"⟩, 6), (⟨"WearHours$Thing", "keep", "(I)V"⟩, 5), (⟨"WearHours", "drawnNumber", "(J)J"⟩, 6), (⟨"WearHours", "checkPlan", "()V"⟩, 6), (⟨"WearHoursModel", "goes", "(ZZZ)Z"⟩, 32), (⟨"WearHoursModel", "isThing", "(I)Z"⟩, 32), (⟨"WearHoursModel", "isBarred", "(I)Z"⟩, 32)]
theorem lw_r1 : ∀ q ∈ lw_privs_1, lw_okq q := List.forall_mem_cons.mpr ⟨lw_p0, List.forall_mem_cons.mpr ⟨lw_p1, List.forall_mem_cons.mpr ⟨lw_p2, List.forall_mem_cons.mpr ⟨lw_p3, List.forall_mem_cons.mpr ⟨lw_p4, List.forall_mem_cons.mpr ⟨lw_p5, List.forall_mem_cons.mpr ⟨lw_p6, List.forall_mem_cons.mpr ⟨lw_p7, List.forall_mem_cons.mpr ⟨lw_p8, List.forall_mem_cons.mpr ⟨lw_p9, List.forall_mem_cons.mpr ⟨lw_p10, List.forall_mem_cons.mpr ⟨lw_p11, List.forall_mem_cons.mpr ⟨lw_p12, List.forall_mem_cons.mpr ⟨lw_p13, List.forall_mem_cons.mpr ⟨lw_p14, List.forall_mem_cons.mpr ⟨lw_p15, fun _ h => absurd h List.not_mem_nil⟩⟩⟩⟩⟩⟩⟩⟩⟩⟩⟩⟩⟩⟩⟩⟩
theorem lw_p16 : lw_okq (⟨"WearHoursModel", "keep", "(II)V"⟩, 32) := ⟨⟨by decide +kernel, by decide +kernel⟩, List.mem_of_getElem? (i := 608) (by decide +kernel), List.mem_of_getElem? (i := 744) (by decide +kernel), List.mem_of_getElem? (i := 745) (by decide +kernel)⟩
theorem lw_p17 : lw_okq (⟨"WearHoursModel", "number", "(I)J"⟩, 32) := ⟨⟨by decide +kernel, by decide +kernel⟩, List.mem_of_getElem? (i := 608) (by decide +kernel), List.mem_of_getElem? (i := 756) (by decide +kernel), List.mem_of_getElem? (i := 757) (by decide +kernel)⟩
theorem lw_p18 : lw_okq (⟨"WearHoursModel", "best", "()V"⟩, 32) := ⟨⟨by decide +kernel, by decide +kernel⟩, List.mem_of_getElem? (i := 608) (by decide +kernel), List.mem_of_getElem? (i := 795) (by decide +kernel), List.mem_of_getElem? (i := 796) (by decide +kernel)⟩
theorem lw_p19 : lw_okq (⟨"WearHoursModel", "begins", "(III)I"⟩, 32) := ⟨⟨by decide +kernel, by decide +kernel⟩, List.mem_of_getElem? (i := 608) (by decide +kernel), List.mem_of_getElem? (i := 799) (by decide +kernel), List.mem_of_getElem? (i := 800) (by decide +kernel)⟩
theorem lw_p20 : lw_okq (⟨"WearHoursModel", "take", "(I)V"⟩, 32) := ⟨⟨by decide +kernel, by decide +kernel⟩, List.mem_of_getElem? (i := 608) (by decide +kernel), List.mem_of_getElem? (i := 806) (by decide +kernel), List.mem_of_getElem? (i := 807) (by decide +kernel)⟩
def lw_privs_2 : List (MethodName × Nat) := [(⟨"WearHoursModel", "keep", "(II)V"⟩, 32), (⟨"WearHoursModel", "number", "(I)J"⟩, 32), (⟨"WearHoursModel", "best", "()V"⟩, 32), (⟨"WearHoursModel", "begins", "(III)I"⟩, 32), (⟨"WearHoursModel", "take", "(I)V"⟩, 32)]
theorem lw_r2 : ∀ q ∈ lw_privs_2, lw_okq q := List.forall_mem_cons.mpr ⟨lw_p16, List.forall_mem_cons.mpr ⟨lw_p17, List.forall_mem_cons.mpr ⟨lw_p18, List.forall_mem_cons.mpr ⟨lw_p19, List.forall_mem_cons.mpr ⟨lw_p20, fun _ h => absurd h List.not_mem_nil⟩⟩⟩⟩⟩
def lw_privs : List (MethodName × Nat) := lw_privs_1 ++ (lw_privs_2)
def lw_tbl : List Cond := k2_sels lw_privs ++ tables_1
theorem lw_privs_ok : ∀ q ∈ lw_privs, lw_okq q := by
  show ∀ q ∈ lw_privs_1 ++ (lw_privs_2), lw_okq q
  exact List.forall_mem_append.mpr ⟨lw_r1, lw_r2⟩
end
section
/-- a word that every later state of the walk keeps -/
def goodB (w : Cond) : Bool := (w.onTables && w.keeps) || (match w with | .arrayClass _ => true | _ => false)
/-- the words that all contracts of this proof stand on -/
def gt : List Cond := lw_tbl.filter goodB
theorem gt_good {w : Cond} (h : goodB w = true) : (w.onTables && w.keeps) = true ∨ ∃ ty, w = .arrayClass ty := by
  unfold goodB at h
  rcases (Bool.or_eq_true _ _).mp h with h | h
  · exact Or.inl h
  · right
    cases w <;> first | exact ⟨_, rfl⟩ | cases h
theorem gtm (i : Nat) {w : Cond} (h : lw_tbl[i]? = some w) (hg : goodB w = true) : w ∈ gt := List.mem_filter.mpr ⟨List.mem_of_getElem? h, hg⟩
theorem gt_in {ws : List Cond} (h : ∀ w ∈ ws, w ∈ gt) : GoodIn gt ws := fun w hw => ⟨h w hw, gt_good (List.mem_filter.mp (h w hw)).2⟩
end
section
/-! A walk's calls, by the callee's own walk: a contract (Mx) is a walk from the callee's entry to an end that returns or throws; a call of it goes on behind the call, or with what was thrown. -/
theorem xs_weak {tb : Tables} {e : Env} {mid below : List Frame} {a b : State} (h : Steps tb e (mid ++ below) a b) : Steps tb e below a b := by
  obtain ⟨n, hn, hw⟩ := h
  refine ⟨n, hn, fun k hk => ?_⟩
  obtain ⟨above, h1, h2, h3⟩ := hw k hk
  refine ⟨above ++ mid, by rw [h1, List.append_assoc], ?_, ?_⟩
  · cases above with
    | nil => exact absurd rfl h2
    | cons x t => simp
  · intro q hq
    cases above with
    | nil => exact absurd rfl h2
    | cons x t =>
      simp only [List.cons_append, List.cons.injEq] at hq
      obtain ⟨rfl, h4⟩ := hq
      have h5 : t = [] := (List.append_eq_nil_iff.mp h4).1
      exact h3 q (by rw [h5])
/-- the frame of a whole invocation -/
def xF (st t : State) (L : List Loc) (mc ms : Nat) : Prop := st.WarmedH t.vm ∧ st.sameButNew ({ t with vm := st.vm } : State) L mc ms
def xMQ (below : List Frame) (Qc : State → Outcome → State → Prop) (s : State) (mc ms : Nat) (free : Addr → Prop) : State → Prop := fun t =>
  ∃ o, t.status = .running ∧ Ended t below o ∧ Qc s o t ∧ ∃ L, xF s t L mc ms ∧ ∀ q ∈ L, free q.base
/-- a contract: from every entry with Pc the method comes to an end with Qc -/
def Mx (l : Launch) (y : MethodName) (bytes : ByteArray) (maxL : Nat) (ret : Option FieldType) (hh : List (Nat × Nat × Nat × Nat)) (rm : Room) (av : List Value) (Pc : State → Prop) (Qc : State → Outcome → State → Prop) (free : Addr → Prop) : Prop :=
  ∀ (p : Program) (e : Env) (s : State) (m : MethodId) (below : List Frame) (meth : Method) (c : Code),
    p.tables.exec = Jvm.exec → s.methodNamed? y = some m → c.code = bytes → c.maxLocals = maxL → c.exceptionTable.toList = tableOf hh → meth.name = y.name → meth.sig.returnType = ret → meth.locks = false →
    (∀ w ∈ gt, w.before av.toArray s = true) → Pc s →
    W p l e rm s m av.toArray below meth c s.heap [] 0 0 (xMQ below Qc s rm.cells rm.slots free) (entryFrame m av.toArray maxL)
/-- the code word of a method, with its table of handlers or without one -/
def xCode (y : MethodName) (bytes : ByteArray) (maxL : Nat) (ret : Option FieldType) (hh : List (Nat × Nat × Nat × Nat)) : Prop := (hh = [] ∧ Cond.code y bytes maxL ret ∈ gt) ∨ Cond.codeWith y bytes maxL ret hh ∈ gt
theorem xCode.spec {y : MethodName} {bytes : ByteArray} {maxL : Nat} {ret : Option FieldType} {hh : List (Nat × Nat × Nat × Nat)} (h : xCode y bytes maxL ret hh) {s : State} {args : Array Value} (hw : ∀ w ∈ gt, w.before args s = true) {mk : MethodId} (hn : s.methodNamed? y = some mk) :
    ∃ meth c, s.vm.method? mk = some meth ∧ meth.code = some c ∧ c.code = bytes ∧ c.maxLocals = maxL ∧ c.exceptionTable.toList = tableOf hh ∧ meth.sig.returnType = ret ∧ meth.locks = false ∧ parseMethodDescriptor y.desc = some meth.sig := by
  rcases h with ⟨h0, h⟩ | h
  · obtain ⟨meth, c, h1, h2, h3, h4, h5, h6, h7, h8⟩ := Cond.code_spec hn (hw _ h)
    refine ⟨meth, c, h1, h2, h3, h4, ?_, h5, h6, h8⟩
    rw [h0, Array.isEmpty_iff.mp h7]
    rfl
  · obtain ⟨m9, meth, c, hn9, h1, h2, h3, h4, h5, h6, h7, h8⟩ := Cond.codeWith_spec (hw _ h)
    cases Option.some.inj (hn9.symm.trans hn)
    exact ⟨meth, c, h1, h2, h3, h4, by rw [← h5, table_eq], h6, h7, h8⟩
section XCalls
variable {p : Program} {l : Launch} {e : Env} {R : Room} {s : State} {m : MethodId} {args : Array Value} {below : List Frame} {meth : Method} {c : Code} {T : State} {locs : List Loc} {cells slots : Nat}
variable {y : MethodName} {bytes : ByteArray} {maxL : Nat} {ret : Option FieldType} {hh : List (Nat × Nat × Nat × Nat)} {rm : Room} {av : List Value} {Pc : State → Prop} {Qc : State → Outcome → State → Prop} {free : Addr → Prop}
theorem xc_core (X : Stand p l e R s m args below meth c T locs cells slots) (hx : p.tables.exec = Jvm.exec) (hM : Mx l y bytes maxL ret hh rm av Pc Qc free)
    (hw : ∀ w ∈ gt, w.before args s = true) (hcode : xCode y bytes maxL ret hh) (hpn : plainName y.cls = true)
    {mk : MethodId} (hn : s.methodNamed? y = some mk) {g : JFrame} (hg : g.method = m) (hsize : g.locals.size = c.maxLocals) {ig : Instr} (hdg : decode c.code g.pc = .ok (ig, 3))
    (hfr : rm.frames + 1 ≤ R.frames) (hlo : 2 * g.monitorRoom + (g.stack.map fun v => v.category).sum + (maxL + 11) + rm.locals ≤ R.locals) (hce : cells + rm.cells ≤ R.cells) (hsl : slots + rm.slots ≤ R.slots)
    (hPc : Pc (T.calling g mk av.toArray)) :
    ∃ (o : Outcome) (t : State) (L : List Loc) (T' : State), Qc (T.calling g mk av.toArray) o t ∧ (∀ q ∈ L, free q.base) ∧ Stand p l e R s m args below meth c T' (locs ++ L) (cells + rm.cells) (slots + rm.slots) ∧ T'.heap = t.heap ∧ T'.vm = t.vm ∧
      ∀ acts, (∀ v, o = .returned v → Steps p.tables e below (doInvoke e (T.setTop g) acts mk av.toArray).1 (T'.setTop { g with pc := g.pc + 3, stack := v.toList ++ g.stack })) ∧
        (∀ q, o = .threw q → Steps p.tables e below (doInvoke e (T.setTop g) acts mk av.toArray).1 ((T'.setTop g).pushFrame (.throwing q))) := by
  obtain ⟨methk, ck, hmS, hck, hb, hml, htab, hret, hlk, hsig⟩ := hcode.spec hw hn
  have hmk : T.vm.method? mk = some methk := by rw [X.warmed.alike.method?]; exact hmS
  obtain ⟨kY, hkY, hkn⟩ := className_of_methodNamed hn
  have hpk : T.plainMethod mk := X.warmed.plainAt (fun k hk => by cases Option.some.inj (hk.symm.trans hkY); rw [hkn]; exact hpn)
  obtain ⟨Y, hin⟩ := X.into hg hsize hdg av.toArray (R' := rm) hmk hck hlk hpk hfr (by rw [hml]; exact hlo) hce hsl
  have hWu : s.WarmedH (T.calling g mk av.toArray).vm := X.warmed
  have hws : ∀ w ∈ gt, w.before av.toArray (T.calling g mk av.toArray) = true := fun w hw' => word_at hWu (gt_good (List.mem_filter.mp hw').2) (hw w hw')
  have hnT : (T.calling g mk av.toArray).methodNamed? y = some mk := X.named hn
  have K := hM p e (T.calling g mk av.toArray) mk (.java g :: below) methk ck hx hnT hb hml htab (name_of_methodNamed hn hmS).1 hret hlk hws hPc
  obtain ⟨t, hst, o, -, hend, hq, L, ⟨hWt, hsame⟩, hL⟩ := K ((T.setTop g).pushFrame (.java (entryFrame mk av.toArray ck.maxLocals))) rfl Y
  rw [← hml] at hst
  have hst' : Steps p.tables e below (((T.setTop g).pushFrame (.java (entryFrame mk av.toArray ck.maxLocals))).setTop (entryFrame mk av.toArray ck.maxLocals)) t := xs_weak (mid := [.java g]) hst
  cases o with
  | returned v =>
    obtain ⟨T', X', hW', hB', ht⟩ := X.outOf hg hdg hend hWt hsame
    refine ⟨.returned v, t, L, T', hq, hL, X', by rw [ht]; simp, by rw [ht]; simp, fun acts => ⟨fun v' hv => ?_, fun q hq' => (by cases hq')⟩⟩
    cases hv
    rw [hin acts, ← ht]
    exact hst'
  | threw q =>
    obtain ⟨T', X', hW', hB', ht⟩ := X.outOfThrown hg hend hWt hsame
    refine ⟨.threw q, t, L, T', hq, hL, X', by rw [ht, throwing_heap], by rw [ht, throwing_vm], fun acts => ⟨fun v' hv => (by cases hv), fun q' hq' => ?_⟩⟩
    cases hq'
    rw [hin acts, ← ht]
    exact hst'
end XCalls
end
section
/-! rows of a walk: calls, ends, throws -/
/-- a walk goes on from a frame over which 'q is being thrown' lies -/
def XW (p : Program) (l : Launch) (e : Env) (R : Room) (s : State) (m : MethodId) (args : Array Value) (below : List Frame) (meth : Method) (c : Code) (H : Heap) (locs : List Loc) (cells slots : Nat) (Q : State → Prop) (g : JFrame) (q : Addr) : Prop :=
  ∀ T : State, T.heap = H → Stand p l e R s m args below meth c T locs cells slots → ∃ t, Steps p.tables e below ((T.setTop g).pushFrame (.throwing q)) t ∧ Q t
/-- how an invocation ends: what it may change; f of what it returns; x of what it throws -/
def QQ (A : Nat → Prop) (f : Option Value → State → Prop) (x : String → State → Prop) : State → Outcome → State → Prop := fun st o t =>
  va_F A st t ∧ ((∃ v, o = .returned v ∧ f v t) ∨ ∃ (q : Addr) (cls : String) (cell : Cell), o = .threw q ∧ t.heap[q]? = some cell ∧ cell.vm = .none ∧ t.vm.findClass cls = some cell.cls ∧ x cls t)
abbrev Mq (l : Launch) (y : MethodName) (bytes : ByteArray) (maxL : Nat) (ret : Option FieldType) (hh : List (Nat × Nat × Nat × Nat)) (rm : Room) (av : List Value) (Pc : State → Prop) (A : Nat → Prop) (f : Option Value → State → Prop) (x : String → State → Prop) : Prop :=
  Mx l y bytes maxL ret hh rm av Pc (QQ A f x) A
abbrev Fx (p : Program) (m : MethodId) (c : Code) (cc : ByteArray) (nL : Nat) (s : State) (args : Array Value) (own : String) : Prop :=
  p.tables.exec = Jvm.exec ∧ c.code = cc ∧ c.maxLocals = nL ∧ s.vm.findClass own = some m.cls ∧ ∀ w ∈ gt, w.before args s = true
section XRows
variable {p : Program} {l : Launch} {e : Env} {R : Room} {s : State} {m : MethodId} {args : Array Value} {below : List Frame} {meth : Method} {c : Code} {H : Heap} {locs : List Loc} {cells slots : Nat} {Q : State → Prop}
variable {y : MethodName} {bytes cc : ByteArray} {maxL nL index pc : Nat} {ret : Option FieldType} {hh : List (Nat × Nat × Nat × Nat)} {rm : Room} {av As rest st : List Value} {Pc : State → Prop} {A A0 : Nat → Prop} {f : Option Value → State → Prop} {x : String → State → Prop} {own C host : String} {H0 : Heap} {ls : Array Slot} {b : Addr}
theorem xc_go {T : State} (hT : T.heap = H) {vm₁ : Vm} (X : Stand p l e R s m args below meth c (T.setVm vm₁) locs cells slots) (F : Fx p m c cc nL s args own) (hM : Mq l y bytes maxL ret hh rm av Pc A f x)
    (hcode : xCode y bytes maxL ret hh) (hpn : plainName y.cls = true) {mk : MethodId} (hn : s.methodNamed? y = some mk)
    (hstep : ∀ target, (∀ acts, Steps p.tables e below (doInvoke e ((T.setVm vm₁).setTop (F0 m pc ls rest)) acts mk av.toArray).1 target) → Steps p.tables e below (T.setTop (F0 m pc ls st)) target)
    (hsz : ls.size = nL) {ig : Instr} (hdg : decode cc pc = .ok (ig, 3)) (hfr : rm.frames + 1 ≤ R.frames) (hlo : (rest.map fun v => v.category).sum + (maxL + 11) + rm.locals ≤ R.locals) (hf : cells + rm.cells ≤ R.cells ∧ slots + rm.slots ≤ R.slots)
    (hPc : ∀ U : State, U.heap = H → s.WarmedH U.vm → Pc U) (hS : va_S A0 H0 H locs) (hA : ∀ q, A q → A0 q)
    (kr : ∀ (v : Option Value) (t : State) (H1 : Heap) (locs1 : List Loc), t.heap = H1 → s.WarmedH t.vm → f v t → H.size ≤ H1.size → (∀ q : Nat, q < H.size → ¬ A q → H1[q]? = H[q]?) → va_S A0 H0 H1 locs1 → W p l e R s m args below meth c H1 locs1 (cells + rm.cells) (slots + rm.slots) Q (F0 m (pc + 3) ls (v.toList ++ rest)))
    (kt : ∀ (q : Addr) (cls : String) (cell : Cell) (t : State) (H1 : Heap) (locs1 : List Loc), t.heap = H1 → s.WarmedH t.vm → H1[q]? = some cell → cell.vm = .none → s.vm.findClass cls = some cell.cls → x cls t → H.size ≤ H1.size → (∀ q : Nat, q < H.size → ¬ A q → H1[q]? = H[q]?) → va_S A0 H0 H1 locs1 → XW p l e R s m args below meth c H1 locs1 (cells + rm.cells) (slots + rm.slots) Q (F0 m pc ls rest) q) :
    ∃ t, Steps p.tables e below (T.setTop (F0 m pc ls st)) t ∧ Q t := by
  obtain ⟨hx, hb, hml, ho, hw⟩ := F
  obtain ⟨o, t, L, T', ⟨⟨hz, hk⟩, hq⟩, hL, X', e1, e2, hgo⟩ := xc_core (g := F0 m pc ls rest) X hx hM hw hcode hpn hn rfl (hsz.trans hml.symm) (by rw [hb]; exact hdg) hfr
    (by show 2 * 0 + (rest.map fun v => v.category).sum + (maxL + 11) + rm.locals ≤ R.locals; omega) hf.1 hf.2 (hPc _ (by rw [← hT]; rfl) X.warmed)
  have hz' : H.size ≤ t.heap.size := by rw [← hT]; exact hz
  have hk' : ∀ q : Nat, q < H.size → ¬ A q → t.heap[q]? = H[q]? := by
    intro q h1 h2
    rw [← hT] at h1 ⊢
    exact hk q h1 h2
  have hS' : va_S A0 H0 t.heap (locs ++ L) := ⟨Nat.le_trans hS.1 hz', fun q h1 h2 => by rw [hk' q (Nat.lt_of_lt_of_le h1 hS.1) (fun z => h2 (hA q z))]; exact hS.2.1 q h1 h2, fun q hq => by
    rcases List.mem_append.mp hq with h | h
    · exact hS.2.2 q h
    · exact hA _ (hL q h)⟩
  have hW : s.WarmedH t.vm := by rw [← e2]; exact X'.warmed
  rcases hq with ⟨v, ho, hfv⟩ | ⟨q, cls, cell, ho, h1, h2, h3, h4⟩
  · obtain ⟨t2, a1, b1⟩ := kr v t t.heap (locs ++ L) rfl hW hfv hz' hk' hS' T' e1 X'
    exact ⟨t2, hstep t2 (fun acts => ((hgo acts).1 v ho).trans a1), b1⟩
  · obtain ⟨t2, a1, b1⟩ := kt q cls cell t t.heap (locs ++ L) rfl hW h1 h2 (by rw [← hW.alike.findClass]; exact h3) h4 hz' hk' hS' T' e1 X'
    exact ⟨t2, hstep t2 (fun acts => ((hgo acts).2 q ho).trans a1), b1⟩
/-- the facts of a called method that a program decides -/
abbrev xMeth (y : MethodName) (n : Nat) : Prop := plainName y.cls = true ∧ (y.cls ≠ "java/lang/invoke/MethodHandle" ∧ y.cls ≠ "java/lang/invoke/VarHandle") ∧ (parseMethodDescriptor y.desc).map (fun d => d.parameters.length) = some n
theorem xc_V (F : Fx p m c cc nL s args own) (hM : Mq l y bytes maxL ret hh rm (.ref b :: As) Pc A f x) (hcode : xCode y bytes maxL ret hh) (hy : xMeth y As.length)
    (hl : Cond.methodLink own index y ∈ gt) (hi : Cond.instanceMethod y ∈ gt) (hse : Cond.selects C y y ∈ gt) (hrecv : ∃ cell : Cell, H[b]? = some cell ∧ cell.vm.isStatics = false ∧ s.vm.findClass C = some cell.cls)
    (hst : st = As.reverse ++ .ref b :: rest) (hsz : ls.size = nL) (hdg : decode cc pc = .ok (.invokevirtual index, 3)) (hfr : rm.frames + 1 ≤ R.frames) (hlo : (rest.map fun v => v.category).sum + (maxL + 11) + rm.locals ≤ R.locals) (hf : cells + rm.cells ≤ R.cells ∧ slots + rm.slots ≤ R.slots)
    (hPc : ∀ U : State, U.heap = H → s.WarmedH U.vm → Pc U) (hS : va_S A0 H0 H locs) (hA : ∀ q, A q → A0 q)
    (kr : ∀ (v : Option Value) (t : State) (H1 : Heap) (locs1 : List Loc), t.heap = H1 → s.WarmedH t.vm → f v t → H.size ≤ H1.size → (∀ q : Nat, q < H.size → ¬ A q → H1[q]? = H[q]?) → va_S A0 H0 H1 locs1 → W p l e R s m args below meth c H1 locs1 (cells + rm.cells) (slots + rm.slots) Q (F0 m (pc + 3) ls (v.toList ++ rest)))
    (kt : ∀ (q : Addr) (cls : String) (cell : Cell) (t : State) (H1 : Heap) (locs1 : List Loc), t.heap = H1 → s.WarmedH t.vm → H1[q]? = some cell → cell.vm = .none → s.vm.findClass cls = some cell.cls → x cls t → H.size ≤ H1.size → (∀ q : Nat, q < H.size → ¬ A q → H1[q]? = H[q]?) → va_S A0 H0 H1 locs1 → XW p l e R s m args below meth c H1 locs1 (cells + rm.cells) (slots + rm.slots) Q (F0 m pc ls rest) q) :
    W p l e R s m args below meth c H locs cells slots Q (F0 m pc ls st) := by
  intro T hT X
  obtain ⟨hx, hb, hml, ho, hw⟩ := id F
  obtain ⟨mk, methM, hnamed, hmethM, hstM, habM⟩ := Cond.instanceMethod_spec (hw _ hi)
  obtain ⟨methM', cM, hmethM', -, -, -, -, -, -, hsigM⟩ := hcode.spec hw hnamed
  cases Option.some.inj (hmethM.symm.trans hmethM')
  obtain ⟨c2, r2, m2, q1, q2, q3, q4, kP, hkP, hkPi⟩ := Cond.selects_spec (hw _ hse)
  obtain ⟨cellB, hcB, hoB, hclB⟩ := hrecv
  cases Option.some.inj (hclB.symm.trans q1)
  cases Option.some.inj ((State.methodFound?_of_named hnamed hy.2.1).symm.trans q2)
  cases Option.some.inj (hnamed.symm.trans q3)
  have hselP : selectMethod e.platform s.vm cellB.cls mk = .method mk := by rw [Launch.admits_selectMethod X.admits]; exact q4
  have hlen : As.length = methM.sig.parameters.length := by
    have h2 := hy.2.2
    rw [hsigM] at h2
    exact (Option.some.inj h2).symm
  obtain ⟨vm₁, X₁, hstep⟩ := X.invokevirtual hx ho (hw _ hl) hnamed hmethM hstM hkP hkPi hy.2.1 (a := b) (cell := cellB) (by rw [hT]; exact hcB)
    (fun z h => by rw [h] at hoB; cases hoB) hselP hmethM habM hkP hkPi (g := F0 m pc ls st) rfl (argsL := As) (rest := rest) hlen hst (by rw [hb]; exact hdg)
  exact xc_go hT X₁ F hM hcode hy.1 hnamed hstep hsz hdg hfr hlo hf hPc hS hA kr kt
theorem xc_S (F : Fx p m c cc nL s args own) (hM : Mq l y bytes maxL ret hh rm As Pc A f x) (hcode : xCode y bytes maxL ret hh) (hy : xMeth y As.length)
    (hl : Cond.methodLink own index y ∈ gt) (hi : Cond.static y ∈ gt) (hini : Cond.initialized y.cls ∈ gt)
    (hst : st = As.reverse ++ rest) (hsz : ls.size = nL) (hdg : decode cc pc = .ok (.invokestatic index, 3)) (hfr : rm.frames + 1 ≤ R.frames) (hlo : (rest.map fun v => v.category).sum + (maxL + 11) + rm.locals ≤ R.locals) (hf : cells + rm.cells ≤ R.cells ∧ slots + rm.slots ≤ R.slots)
    (hPc : ∀ U : State, U.heap = H → s.WarmedH U.vm → Pc U) (hS : va_S A0 H0 H locs) (hA : ∀ q, A q → A0 q)
    (kr : ∀ (v : Option Value) (t : State) (H1 : Heap) (locs1 : List Loc), t.heap = H1 → s.WarmedH t.vm → f v t → H.size ≤ H1.size → (∀ q : Nat, q < H.size → ¬ A q → H1[q]? = H[q]?) → va_S A0 H0 H1 locs1 → W p l e R s m args below meth c H1 locs1 (cells + rm.cells) (slots + rm.slots) Q (F0 m (pc + 3) ls (v.toList ++ rest)))
    (kt : ∀ (q : Addr) (cls : String) (cell : Cell) (t : State) (H1 : Heap) (locs1 : List Loc), t.heap = H1 → s.WarmedH t.vm → H1[q]? = some cell → cell.vm = .none → s.vm.findClass cls = some cell.cls → x cls t → H.size ≤ H1.size → (∀ q : Nat, q < H.size → ¬ A q → H1[q]? = H[q]?) → va_S A0 H0 H1 locs1 → XW p l e R s m args below meth c H1 locs1 (cells + rm.cells) (slots + rm.slots) Q (F0 m pc ls rest) q) :
    W p l e R s m args below meth c H locs cells slots Q (F0 m pc ls st) := by
  intro T hT X
  obtain ⟨hx, hb, hml, ho, hw⟩ := id F
  obtain ⟨mk, methM, hnamed, hmethM, hstM⟩ : ∃ mk methM, s.methodNamed? y = some mk ∧ s.vm.method? mk = some methM ∧ methM.isStatic = true := by
    have h1 := hw _ hi
    cases hn : s.methodNamed? y with
    | none => simp [Cond.before, Cond.holds, Cond.value, hn] at h1
    | some mk =>
      obtain ⟨methM, cM, h2, -⟩ := hcode.spec hw hn
      exact ⟨mk, methM, rfl, h2, Cond.static_spec hn h2 h1⟩
  obtain ⟨methM', cM, hmethM', -, -, -, -, -, -, hsigM⟩ := hcode.spec hw hnamed
  cases Option.some.inj (hmethM.symm.trans hmethM')
  obtain ⟨kP, hkP, -⟩ := className_of_methodNamed hnamed
  have hinitP : kP.init = .initialized := Cond.initialized_spec (findClass_of_methodNamed hnamed) hkP (hw _ hini)
  have hlen : As.length = methM.sig.parameters.length := by
    have h2 := hy.2.2
    rw [hsigM] at h2
    exact (Option.some.inj h2).symm
  obtain ⟨vm₁, X₁, hstep⟩ := X.invokestatic hx ho (hw _ hl) hnamed hmethM hstM hkP hinitP hy.2.1 (g := F0 m pc ls st) rfl (argsL := As) (rest := rest) hlen hst (by rw [hb]; exact hdg)
  exact xc_go hT X₁ F hM hcode hy.1 hnamed hstep hsz hdg hfr hlo hf hPc hS hA kr kt
theorem xc_I (F : Fx p m c cc nL s args own) (hM : Mq l y bytes maxL none [] rm (.ref b :: As) Pc A f x) (hcode : Cond.code y bytes maxL none ∈ gt) (hy : xMeth y As.length) (hy1 : y.name = "<init>")
    (hl : Cond.methodLink own index y ∈ gt ∨ va_Nw (.methodLinkNest own index y host) s) (hi : Cond.instanceMethod y ∈ gt)
    (hst : st = As.reverse ++ .ref b :: rest) (hsz : ls.size = nL) (hdg : decode cc pc = .ok (.invokespecial index, 3)) (hfr : rm.frames + 1 ≤ R.frames) (hlo : (rest.map fun v => v.category).sum + (maxL + 11) + rm.locals ≤ R.locals) (hf : cells + rm.cells ≤ R.cells ∧ slots + rm.slots ≤ R.slots)
    (hPc : ∀ U : State, U.heap = H → s.WarmedH U.vm → Pc U) (hS : va_S A0 H0 H locs) (hA : ∀ q, A q → A0 q)
    (kr : ∀ (v : Option Value) (t : State) (H1 : Heap) (locs1 : List Loc), t.heap = H1 → s.WarmedH t.vm → f v t → H.size ≤ H1.size → (∀ q : Nat, q < H.size → ¬ A q → H1[q]? = H[q]?) → va_S A0 H0 H1 locs1 → W p l e R s m args below meth c H1 locs1 (cells + rm.cells) (slots + rm.slots) Q (F0 m (pc + 3) ls (v.toList ++ rest)))
    (kt : ∀ (q : Addr) (cls : String) (cell : Cell) (t : State) (H1 : Heap) (locs1 : List Loc), t.heap = H1 → s.WarmedH t.vm → H1[q]? = some cell → cell.vm = .none → s.vm.findClass cls = some cell.cls → x cls t → H.size ≤ H1.size → (∀ q : Nat, q < H.size → ¬ A q → H1[q]? = H[q]?) → va_S A0 H0 H1 locs1 → XW p l e R s m args below meth c H1 locs1 (cells + rm.cells) (slots + rm.slots) Q (F0 m pc ls rest) q) :
    W p l e R s m args below meth c H locs cells slots Q (F0 m pc ls st) := by
  intro T hT X
  obtain ⟨hx, hb, hml, ho, hw⟩ := id F
  have hpl : e.platform.magicAccessors = ({} : Platform).magicAccessors := by rw [X.admits.platform]
  have hlen : ∀ sig, parseMethodDescriptor y.desc = some sig → As.length = sig.parameters.length := fun sig h => by
    have h2 := hy.2.2
    rw [h] at h2
    exact (Option.some.inj h2).symm
  rcases hl with hl | hl
  · obtain ⟨mk, methM, cM, kP, vm₁, hnamed, -, -, -, -, -, -, -, hW₁, hstep⟩ := Steps.initColdArgs (e := e) X.here hx X.warmed hpl ho hy1 hy.2.1 (hw _ hl) (hw _ hi) (hw _ hcode) (f := F0 m pc ls st) rfl hlen hst (by rw [hb]; exact hdg)
    exact xc_go hT (X.noted hW₁) F hM (Or.inl ⟨rfl, hcode⟩) hy.1 hnamed hstep hsz hdg hfr hlo hf hPc hS hA kr kt
  · obtain ⟨mk, methM, cM, kP, vm₁, hnamed, -, -, -, -, -, -, -, hW₁, hstep⟩ := Steps.initColdArgsNest (e := e) X.here hx X.warmed hpl ho hy1 hy.2.1 (va_Nw.use rfl hl) (hw _ hi) (hw _ hcode) (f := F0 m pc ls st) rfl hlen hst (by rw [hb]; exact hdg)
    exact xc_go hT (X.noted hW₁) F hM (Or.inl ⟨rfl, hcode⟩) hy.1 hnamed hstep hsz hdg hfr hlo hf hPc hS hA kr kt
/-- a method that never throws: the second goal of a call of it -/
theorem xt_no {α : Prop} (h : False) : α := h.elim
/-! ends -/
theorem xe_mq {mc ms : Nat} {Qc : State → Outcome → State → Prop} {free : Addr → Prop} {t : State} (h : MQ below (fun _ => Qc) args s mc ms free t) : xMQ below Qc s mc ms free t := by
  obtain ⟨o, h1, h2, h3, L, ⟨h4, h5, h6⟩, h7⟩ := h
  exact ⟨o, h1, h2, h3, L, ⟨h5, h6⟩, h7⟩
theorem xe_up {Q2 : State → Prop} {g : JFrame} (h : ∀ t, Q t → Q2 t) (k : W p l e R s m args below meth c H locs cells slots Q g) : W p l e R s m args below meth c H locs cells slots Q2 g := by
  intro T hT X
  obtain ⟨t, a, b⟩ := k T hT X
  exact ⟨t, a, h t b⟩
variable {mc ms : Nat}
theorem xe_i (hx : p.tables.exec = Jvm.exec) (hb : c.code = cc) (hr : meth.sig.returnType = some .int) (hlk : meth.locks = false) (hS : va_S A s.heap H locs) {v : Int32} (hq : ∀ t : State, t.heap = H → s.WarmedH t.vm → f (some (.int v)) t) (hc : cells ≤ mc) (hs : slots ≤ ms) (hdg : decode cc pc = .ok (.ireturn, 1)) :
    W p l e R s m args below meth c H locs cells slots (xMQ below (QQ A f x) s mc ms A) (F0 m pc ls [.int v]) :=
  W.widen hc hs (xe_up (fun _ h => xe_mq h) (W.iret (Qc := fun _ => QQ A f x) hx hb hr (fun t ht hW => ⟨hS.F ht, Or.inl ⟨_, rfl, hq t ht hW⟩⟩) hS.2.2 hdg hlk))
theorem xe_z (hx : p.tables.exec = Jvm.exec) (hb : c.code = cc) (hr : meth.sig.returnType = some .boolean) (hlk : meth.locks = false) (hS : va_S A s.heap H locs) {v : Int32} (hv : narrow .boolean (.int v) = .int v) (hq : ∀ t : State, t.heap = H → s.WarmedH t.vm → f (some (.int v)) t) (hc : cells ≤ mc) (hs : slots ≤ ms) (hdg : decode cc pc = .ok (.ireturn, 1)) :
    W p l e R s m args below meth c H locs cells slots (xMQ below (QQ A f x) s mc ms A) (F0 m pc ls [.int v]) :=
  W.widen hc hs (xe_up (fun _ h => xe_mq h) (W.zret (Qc := fun _ => QQ A f x) hx hb hr hv (fun t ht hW => ⟨hS.F ht, Or.inl ⟨_, rfl, hq t ht hW⟩⟩) hS.2.2 hdg hlk))
theorem xe_l (hx : p.tables.exec = Jvm.exec) (hb : c.code = cc) (hr : meth.sig.returnType = some .long) (hlk : meth.locks = false) (hS : va_S A s.heap H locs) {v : Int64} (hq : ∀ t : State, t.heap = H → s.WarmedH t.vm → f (some (.long v)) t) (hc : cells ≤ mc) (hs : slots ≤ ms) (hdg : decode cc pc = .ok (.lreturn, 1)) :
    W p l e R s m args below meth c H locs cells slots (xMQ below (QQ A f x) s mc ms A) (F0 m pc ls [.long v]) :=
  W.widen hc hs (xe_up (fun _ h => xe_mq h) (W.lret (Qc := fun _ => QQ A f x) hx hb hr (fun t ht hW => ⟨hS.F ht, Or.inl ⟨_, rfl, hq t ht hW⟩⟩) hS.2.2 hdg hlk))
theorem xe_v (hx : p.tables.exec = Jvm.exec) (hb : c.code = cc) (hr : meth.sig.returnType = none) (hlk : meth.locks = false) (hS : va_S A s.heap H locs) (hq : ∀ t : State, t.heap = H → s.WarmedH t.vm → f none t) (hc : cells ≤ mc) (hs : slots ≤ ms) (hdg : decode cc pc = .ok (.return_, 1)) :
    W p l e R s m args below meth c H locs cells slots (xMQ below (QQ A f x) s mc ms A) (F0 m pc ls []) :=
  W.widen hc hs (xe_up (fun _ h => xe_mq h) (W.vret (Qc := fun _ => QQ A f x) hx hb hr (fun t ht hW => ⟨hS.F ht, Or.inl ⟨_, rfl, hq t ht hW⟩⟩) hS.2.2 hdg hlk))
theorem xe_a {cl : String} (hx : p.tables.exec = Jvm.exec) (hb : c.code = cc) (hr : meth.sig.returnType = some (.object cl)) (hlk : meth.locks = false) (hS : va_S A s.heap H locs) {v : Nat} (hq : ∀ t : State, t.heap = H → s.WarmedH t.vm → f (some (.ref v)) t) (hc : cells ≤ mc) (hs : slots ≤ ms) (hdg : decode cc pc = .ok (.areturn, 1)) :
    W p l e R s m args below meth c H locs cells slots (xMQ below (QQ A f x) s mc ms A) (F0 m pc ls [.ref v]) :=
  W.widen hc hs (xe_up (fun _ h => xe_mq h) (W.aret (Qc := fun _ => QQ A f x) hx hb hr (Or.inl ⟨_, rfl⟩) (Or.inr ⟨_, rfl⟩) (fun t ht hW => ⟨hS.F ht, Or.inl ⟨_, rfl, hq t ht hW⟩⟩) hS.2.2 hdg hlk))
/-- what was thrown goes on to the caller -/
theorem xe_t {q : Addr} {cls : String} {cell : Cell} (htab : c.exceptionTable.toList = tableOf []) (hlk : meth.locks = false) (hS : va_S A s.heap H locs) (hq : H[q]? = some cell) (hv : cell.vm = .none) (hcl : s.vm.findClass cls = some cell.cls) (hx : ∀ t : State, t.heap = H → s.WarmedH t.vm → x cls t) (hc : cells ≤ mc) (hs : slots ≤ ms) :
    XW p l e R s m args below meth c H locs cells slots (xMQ below (QQ A f x) s mc ms A) (F0 m pc ls rest) q := by
  intro T hT X
  have X2 := stand_widen X hc hs
  obtain ⟨h1, h2, h3, h4, h5⟩ := X2.leaveThrown q (g := F0 m pc ls rest) rfl rfl rfl (by rw [htab]; exact fun z hz => by cases hz) hlk
  refine ⟨_, h1, .threw q, h2, h3, ⟨hS.F hT, Or.inr ⟨q, cls, cell, rfl, by rw [show (T.setFrames (.throwing q :: below)).heap = T.heap from rfl, hT]; exact hq, hv, ?_, hx _ hT h4⟩⟩, locs, ⟨h4, h5⟩, hS.2.2⟩
  rw [h4.alike.findClass]
  exact hcl
end XRows
end
section
/-! what the tables say beyond gt, and 'throw new E("text")' -/
def isNw (w : Cond) : Bool := match w with
  | .fieldLinkNest _ _ _ _ _ _ => true
  | .methodLinkNest _ _ _ _ => true
  | .castable _ _ => true
  | .declares _ => true
  | _ => false
def nwt : List Cond := lw_tbl.filter isNw
theorem nwm (i : Nat) {w : Cond} (h : lw_tbl[i]? = some w) (hg : isNw w = true) : w ∈ nwt := List.mem_filter.mpr ⟨List.mem_of_getElem? h, hg⟩
def NW (U : State) : Prop := ∀ w ∈ nwt, va_Nw w U
theorem NW.warm {s U : State} (hW : s.WarmedH U.vm) (h : NW s) : NW U := fun w hw => by
  have h1 := h w hw
  have h2 := (List.mem_filter.mp hw).2
  cases w <;> first | exact va_Nw.warmF hW h1 | exact va_Nw.warmM hW h1 | exact va_Nw.warmC hW h1 | exact va_Nw.warmD hW h1 | (cases h2)
/-- the texts of the class: place in its pool, and text -/
def strs : List (Nat × String) := [(47, "life and bound are 1 to 1000000"), (58, "there are 8 things"), (227, "there is no such thing"), (75, "the thing is barred"), (78, "units are 1 to 1000000"), (229, "what is 0 to 2"), (94, "a draw is 0 to 1000"), (117, "the permit is so already"), (125, "a change's number is 0 or more"), (231, "hours are 0 to 168, the second behind the first"), (138, "there are 6 gaps"), (233, "a skill is 0 to 3"), (152, "there are 4 persons"), (158, "hours are 1 to 24, waiting is 0 to 1000"), (163, "there are 5 repairs"), (169, "rest is 0 to 24, failing is 0 to 1000000"), (186, "there is no such repair"), (235, "there is no plan"), (221, "a kind is 0 to 3"), (223, "spares are 0 to 100 at once"), (225, "a kind has at most 1000 spares")]
def SR (U : State) : Prop := ∀ q ∈ strs, ∃ a, vk_R "WearHours" q.1 q.2 a U
theorem SR.warm {s U : State} (hW : s.WarmedH U.vm) (h : SR s) : SR U := fun q hq => by
  obtain ⟨a, ha⟩ := h q hq
  exact ⟨a, vk_R.warm hW ha⟩
/-- a static of Throwable's that holds a reference or null -/
def stZ (n d : String) (U : State) (H : Heap) : Prop := ∃ (c : ClassId) (k : Class) (i : Nat) (f : Field) (a : Nat) (cell : Cell), U.vm.findClass Bundle.tN = some c ∧ U.fieldFound? Bundle.tN n d = some (c, k, i, f) ∧ f.isStatic = true ∧ k.statics = some a ∧ H[a]? = some cell ∧ cell.vm.isStatics = true ∧ cell.cls = c ∧
  f.slot < cell.slots.size ∧ k.staticTypes[f.slot]? = some f.type ∧ (cell.slots[f.slot]? = some .null ∨ ∃ t, cell.slots[f.slot]? = some (.ref t))
theorem stZ.of {n d : String} {args : Array Value} {U : State} (h : (Cond.laysStatic Bundle.tN n d).before args U = true) (h2 : (Cond.isRef (.static Bundle.tN n d)).before args U = true) : stZ n d U U.heap := by
  obtain ⟨c, k, i, f, a, cell, e1, e2, e3, e4, e5, e6, e7, e8, e9⟩ := Cond.laysStatic_spec h
  refine ⟨c, k, i, f, a, cell, e1, e2, e3, e4, e5, e6, e7, e8, e9, ?_⟩
  have he : (Term.static Bundle.tN n d).eval args U none [] U = cell.slots[f.slot]? := by
    simp [Term.eval, State.fieldNamed?, e2, e3, e4, e5, e6]
  simp only [Cond.before, Cond.holds, Cond.value] at h2
  rw [he] at h2
  cases hv : cell.slots[f.slot]? with
  | none => simp [hv] at h2
  | some v =>
    cases v with
    | null => exact Or.inl rfl
    | ref t => exact Or.inr ⟨t, rfl⟩
    | _ => simp [hv] at h2
theorem stZ.to {n d : String} {args : Array Value} {U : State} (h : stZ n d U U.heap) : (Cond.laysStatic Bundle.tN n d).before args U = true ∧ (Cond.isRef (.static Bundle.tN n d)).before args U = true := by
  obtain ⟨c, k, i, f, a, cell, e1, e2, e3, e4, e5, e6, e7, e8, e9, e10⟩ := h
  refine ⟨?_, ?_⟩
  · simp only [Cond.before, Cond.holds, Cond.value, e1, e2, e4, e5, Option.bind_some, Option.map_some]
    simp [e3, e6, e7, e8, e9]
  · have he : (Term.static Bundle.tN n d).eval args U none [] U = cell.slots[f.slot]? := by
      simp [Term.eval, State.fieldNamed?, e2, e3, e4, e5, e6]
    simp only [Cond.before, Cond.holds, Cond.value]
    rw [he]
    rcases e10 with h | ⟨t, h⟩ <;> simp [h]
theorem stZ.moved {n d : String} {u U : State} {H : Heap} (hvm : u.vm.Alike U.vm) (h : stZ n d u H) : stZ n d U H := by
  obtain ⟨c, k, i, f, a, cell, e1, e2, e3, e4, e5, e6, e7, e8, e9, e10⟩ := h
  obtain ⟨k', hi', he⟩ := State.fieldFound?_setVm hvm e2
  exact ⟨c, k', i, f, a, cell, by rw [hvm.findClass]; exact e1, hi', e3, by rw [he]; exact e4, e5, e6, e7, e8, by rw [he]; exact e9, e10⟩
/-- cells that a method may change hold no statics -/
def noSt (A : Nat → Prop) (H : Heap) : Prop := ∀ (q : Nat) (cell : Cell), A q → H[q]? = some cell → cell.vm.isStatics = false
theorem stZ.kept {n d : String} {U : State} {H H1 : Heap} {A : Nat → Prop} (h : stZ n d U H) (hA : noSt A H) (hq : ∀ a : Nat, a < H.size → ¬ A a → H1[a]? = H[a]?) : stZ n d U H1 := by
  obtain ⟨c, k, i, f, a, cell, e1, e2, e3, e4, e5, e6, e7, e8, e9, e10⟩ := h
  refine ⟨c, k, i, f, a, cell, e1, e2, e3, e4, ?_, e6, e7, e8, e9, e10⟩
  rw [hq a (Array.getElem?_eq_some_iff.mp e5).1 (fun z => by have := hA a cell z e5; rw [e6] at this; cases this)]
  exact e5
def ST (U : State) (H : Heap) : Prop := stZ "UNASSIGNED_STACK" Bundle.steD U H ∧ stZ "SUPPRESSED_SENTINEL" Bundle.listD U H
theorem ST.moved {u U : State} {H : Heap} (hvm : u.vm.Alike U.vm) (h : ST u H) : ST U H := ⟨h.1.moved hvm, h.2.moved hvm⟩
theorem ST.kept {U : State} {H H1 : Heap} {A : Nat → Prop} (h : ST U H) (hA : noSt A H) (hq : ∀ a : Nat, a < H.size → ¬ A a → H1[a]? = H[a]?) : ST U H1 := ⟨h.1.kept hA hq, h.2.kept hA hq⟩
/-- the words of the statics -/
def stw : List Cond := [.laysStatic Bundle.tN "UNASSIGNED_STACK" Bundle.steD, .isRef (.static Bundle.tN "UNASSIGNED_STACK" Bundle.steD), .laysStatic Bundle.tN "SUPPRESSED_SENTINEL" Bundle.listD, .isRef (.static Bundle.tN "SUPPRESSED_SENTINEL" Bundle.listD)]
def xNames : List String := ["java/lang/RuntimeException", "java/lang/Exception"]
abbrev xAtoms (ic : Nat) (cls : String) : Prop := ∀ w ∈ Bundle.ownAtoms "WearHours" ic cls xNames, w ∈ gt ∨ w ∈ nwt ∨ w ∈ stw
theorem xAtoms.at {ic : Nat} {cls : String} (h : xAtoms ic cls) {args : Array Value} {U : State} (hw : ∀ w ∈ gt, w.before args U = true) (hN : NW U) (hZ : ST U U.heap) : ∀ w ∈ Bundle.ownAtoms "WearHours" ic cls xNames, w.before args U = true := by
  intro w hm
  rcases h w hm with h1 | h1 | h1
  · exact hw w h1
  · have h2 := hN w h1
    have h3 := (List.mem_filter.mp h1).2
    cases w <;> first | exact va_Nw.use rfl h2 | (cases h3)
  · simp only [stw, List.mem_cons, List.not_mem_nil, or_false] at h1
    rcases h1 with rfl | rfl | rfl | rfl
    · exact hZ.1.to.1
    · exact hZ.1.to.2
    · exact hZ.2.to.1
    · exact hZ.2.to.2
section XThrow
variable {p : Program} {l : Launch} {e : Env} {R : Room} {s : State} {m : MethodId} {args : Array Value} {below : List Frame} {meth : Method} {c : Code} {H : Heap} {locs : List Loc} {cells slots : Nat} {Q : State → Prop}
/-- the same walk, told from where it stands -/
theorem x_here {T : State} (X : Stand p l e R s m args below meth c T locs cells slots) {R' : Room} (h1 : R'.frames ≤ R.frames) (h2 : R'.locals ≤ R.locals) (h3 : cells + R'.cells ≤ R.cells) (h4 : slots + R'.slots ≤ R.slots) :
    Stand p l e R' ((T.setVm s.vm).setFrames (.invoking m args :: below)) m args below meth c T [] 0 0 := by
  obtain ⟨g₀, hfr⟩ := X.frames_eq
  have hcur : T.cur < T.threads.size := State.cur_lt_of_frames hfr
  have hF : ((T.setVm s.vm).setFrames (.invoking m args :: below)).frames = .invoking m args :: below := State.frames_setFrames _ hcur
  have hlim : e.platform.stackLimits ((T.setVm s.vm).setFrames (.invoking m args :: below)).me = e.platform.stackLimits s.me := by rw [State.stackLimits_setFrames]; exact X.limits
  have hby : ((T.setVm s.vm).setFrames (.invoking m args :: below)).me.stackBytes = s.me.stackBytes := by rw [State.stackBytes_setFrames]; exact X.bytes
  have hloc : ((T.setVm s.vm).setFrames (.invoking m args :: below)).localsInUse = s.localsInUse := by
    rw [State.localsInUse_invoking hF (meth := meth) (c := c) X.method X.code, State.localsInUse_invoking X.frames X.method X.code]
  have hz := X.heapSize
  have hu := X.used
  refine { admits := X.admits, cas := X.cas, clock := X.clock, frames := hF, room := ?_, hears := X.hears, method := X.method, code := X.code, here := X.here, tail := X.tail, warmed := X.warmed, limits := ?_, bytes := ?_, same := ?_ }
  · have hr := X.room
    simp only [State.hasRoom, Bool.and_eq_true, decide_eq_true_eq, X.frames, List.length_cons] at hr
    simp only [State.hasRoom, Bool.and_eq_true, decide_eq_true_eq, hF, hlim, hby, hloc, List.length_cons]
    obtain ⟨⟨⟨⟨a1, a2, a3, a4, a5, a6⟩, a7⟩, a8⟩, a9⟩ := hr
    refine ⟨⟨⟨⟨by omega, by omega, by omega, by omega, by omega, a6⟩, ?_⟩, ?_⟩, X.book⟩
    · show T.heap.size + R'.cells ≤ _
      omega
    · show T.slotsUsed + R'.slots ≤ _
      omega
  · rw [hlim]; exact X.limits
  · rw [hby]; exact X.bytes
  · have hd : (T.heap.toList.drop T.heap.size) = [] := List.drop_eq_nil_of_le (Nat.le_of_eq Array.length_toList)
    refine ⟨?_, Nat.le_refl _, Nat.le_refl _, ?_, ?_, fun a c9 h9 => ⟨c9, h9, rfl, rfl, fun _ _ => rfl⟩⟩
    · obtain ⟨t, ht, -⟩ := State.frames_cons hfr
      show T.setVm s.vm = { ((T.setVm s.vm).setFrames (.invoking m args :: below)).setFrames (T.setVm s.vm).frames with heap := T.heap, slotsUsed := T.slotsUsed }
      have hself : (T.setVm s.vm).setFrames (T.setVm s.vm).frames = T.setVm s.vm := State.setFrames_self (s := T.setVm s.vm) ht
      rw [State.setFrames_setFrames, hself]
      rfl
    · show T.slotsUsed = T.slotsUsed + ((T.heap.toList.drop T.heap.size).map (·.slots.size)).sum
      rw [hd]; rfl
    · show ((T.heap.toList.drop T.heap.size).map (·.slots.size)).sum ≤ 0
      rw [hd]; exact Nat.le_refl _
variable {cc : ByteArray} {nL pc ik is ic mc ms : Nat} {rest : List Value} {A : Nat → Prop} {f : Option Value → State → Prop} {x : String → State → Prop} {ls : Array Slot} {cls text : String}
theorem x_throw (F : Fx p m c cc nL s args "WearHours") (hfl : l.flags = flags0) (hN : NW s) (hSR : SR s) (hZ : ST s s.heap) (hA : noSt A s.heap) (hS : va_S A s.heap H locs) (htab : c.exceptionTable.toList = tableOf []) (hlk : meth.locks = false)
    (hk : Cond.classLink "WearHours" ik cls ∈ gt) (hini : Cond.initialized cls ∈ gt) (hat : xAtoms ic cls) (hfit : Bundle.fit cls = true) (hstr : (is, text) ∈ strs) (hsz : ls.size = nL)
    (d0 : decode cc pc = .ok (.new ik, 3)) (d3 : decode cc (pc + 3) = .ok (.dup, 1)) (d4 : decode cc (pc + 4) = .ok (.ldc is, 2)) (d6 : decode cc (pc + 6) = .ok (.invokespecial ic, 3)) (d9 : decode cc (pc + 9) = .ok (.athrow, 1))
    (hRf : 6 ≤ R.frames) (hRl : (rest.map fun v => v.category).sum + 90 ≤ R.locals) (hRc : cells + 1 ≤ R.cells) (hRs : slots + 6 ≤ R.slots) (hc : cells + 1 ≤ mc) (hs : slots + 6 ≤ ms)
    (hx : ∀ t : State, s.WarmedH t.vm → H.size ≤ t.heap.size → (∀ q : Nat, q < H.size → t.heap[q]? = H[q]?) → x cls t) :
    W p l e R s m args below meth c H locs cells slots (xMQ below (QQ A f x) s mc ms A) (F0 m pc ls rest) := by
  intro T hT X
  obtain ⟨hx0, hb, hml, ho, hw⟩ := F
  have htr : e.platform.stackTraces = false := Launch.traces_off hfl X.admits
  have Y := x_here X (R' := { frames := R.frames, locals := R.locals, cells := 1, slots := 6 }) (Nat.le_refl _) (Nat.le_refl _) hRc hRs
  obtain ⟨s', hs'⟩ : ∃ z, z = (T.setVm s.vm).setFrames (.invoking m args :: below) := ⟨_, rfl⟩
  rw [← hs'] at Y
  have hvm : s'.vm = s.vm := by rw [hs']; rfl
  have hhp : s'.heap = H := by rw [hs']; exact hT
  have hW0 : s.WarmedH s'.vm := by rw [hvm]; exact State.WarmedH.refl s
  have hw' : ∀ w ∈ gt, w.before args s' = true := fun w h => word_at hW0 (gt_good (List.mem_filter.mp h).2) (hw w h)
  have hN' : NW s' := hN.warm hW0
  have hZ' : ST s' s'.heap := by rw [hhp]; exact (hZ.kept hA hS.2.1).moved hW0.alike
  obtain ⟨sa, hsa⟩ := hSR.warm hW0 (is, text) hstr
  have ho' : s'.vm.findClass "WearHours" = some m.cls := by rw [hvm]; exact ho
  have h := hat.at hw' hN' hZ'
  have hins : (Cond.instantiable cls 6).before args s' = true := h _ (by simp [Bundle.ownAtoms])
  obtain ⟨vm₁, cX, kX, hfX, hkX, -, -, X₁, st1⟩ := Y.newCold hx0 (own := "WearHours") (C := cls) (index := ik) (n := 6) ho' (hw' _ hk) hins (hw' _ hini)
    (g := F0 m pc ls rest) rfl (by rw [hb]; exact d0) (Nat.le_refl _) (Nat.le_refl _)
  generalize hT1 : (T.setVm vm₁).pushCell { cls := cX, slots := kX.instanceTypes.map defaultValue, vm := .none } = T1 at X₁ st1
  have hcell : T1.heap[T.heap.size]? = some (freshCell cX kX) := by rw [← hT1]; exact State.heap_pushCell_size _ _
  have d3' : decode c.code (pc + 3) = .ok (.dup, 1) := by rw [hb]; exact d3
  have d4' : decode c.code (pc + 4) = .ok (.ldc is, 2) := by rw [hb]; exact d4
  have hcat : (Value.ref T.heap.size).category = 1 := rfl
  obtain ⟨U, hsteps, hrun, hend, hWU, hsame, ce, hce, hO⟩ := X₁.ctorThrowS hx0 htr (own := "WearHours") (cls := cls) (names := xNames) (ic := ic) ho' hfit (by decide) h (fun z hz => nomatch hz) hfX hkX hcell (by rw [hhp, hT]; exact Nat.le_refl _) (msg := .ref sa) rfl
    (g := F0 m (pc + 6) ls (.ref sa :: .ref T.heap.size :: .ref T.heap.size :: rest)) rfl (hsz.trans hml.symm) rfl rfl (rest := rest) rfl
    (by rw [hb]; exact d6) (by rw [hb]; exact d9) (by rw [htab]; exact fun z hz => nomatch hz) (by show 2 + 3 < R.frames; omega) (by show 2 * 0 + ((Value.ref T.heap.size :: rest).map fun v => v.category).sum + (13 * (2 + 1) + 42) ≤ R.locals; simp only [List.map_cons, List.sum_cons, hcat]; omega) hlk
  have hWs : s.WarmedH U.vm := State.WarmedH.trans hW0 hWU
  obtain ⟨e1, e2, e3, e4, e5, e6⟩ := id hsame
  have hz : H.size ≤ U.heap.size := by rw [← hhp]; exact e2
  have hk' : ∀ q : Nat, q < H.size → U.heap[q]? = H[q]? := by
    intro q hq
    rw [← hhp] at hq ⊢
    obtain ⟨c', g1, g2, g3, g4⟩ := e6 q s'.heap[q] (Array.getElem?_eq_getElem hq)
    have g1' : U.heap[q]? = some c' := g1
    rw [g1', Array.getElem?_eq_getElem hq, g2]
    have g5 : c'.slots = s'.heap[q].slots := Array.ext_getElem? (fun i => g4 i (fun z => nomatch z))
    rw [g5]
  have hall : s.sameButNew ({ U with vm := s.vm } : State) locs mc ms := by
    subst hs'
    rw [State.setFrames_setFrames] at e1
    have h2 : (T.setVm s.vm).sameButNew ({ U with vm := s.vm } : State) [] (0 + 1) (0 + 6) := ⟨e1, e2, e3, e4, e5, e6⟩
    have h3 := X.same.trans h2
    rw [List.append_nil] at h3
    exact h3.mono hc hs
  refine ⟨U, ?_, .threw T.heap.size, hrun, hend, ⟨⟨Nat.le_trans hS.1 hz, fun q h1 h2 => ?_⟩, Or.inr ⟨_, cls, ce, rfl, hce, hO.vm, ?_, hx U hWs hz hk'⟩⟩, locs, ⟨hWs, hall⟩, hS.2.2⟩
  · refine st1 _ ?_
    show Steps p.tables e below (T1.setTop (F0 m (pc + 3) ls (.ref T.heap.size :: rest))) _
    jvm_step X₁.here [X₁.here.top, hx0, d3', Value.category]
    exact X₁.ldcString hx0 (own := "WearHours") (text := text) (index := is) (a := sa) ho' hsa.1 hsa.2 (g := F0 m (pc + 4) ls (.ref T.heap.size :: .ref T.heap.size :: rest)) rfl d4' _ hsteps
  · rw [hk' q (Nat.lt_of_lt_of_le h1 hS.1)]
    exact hS.2.1 q h1 h2
  · rw [hWU.alike.findClass]
    exact hO.cls
end XThrow
end
