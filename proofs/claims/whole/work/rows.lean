section
-- ===== PART A: goes FIRST, ahead of the names: the tables' words, and 'selects' of the private methods out of them =====
/-- a private method of a class that the tables say can be made, by its rows of tables_1 -/
def lw_okq (q : MethodName × Nat) : Prop := (q.1.cls ≠ "java/lang/invoke/MethodHandle" ∧ q.1.cls ≠ "java/lang/invoke/VarHandle") ∧ Cond.instantiable q.1.cls q.2 ∈ tables_1 ∧ Cond.privateMethod q.1 ∈ tables_1 ∧ Cond.instanceMethod q.1 ∈ tables_1
theorem lw_p0 : lw_okq (⟨"WearHours$Planner", "freeAll", "()V"⟩, 7) := ⟨⟨by decide +kernel, by decide +kernel⟩, List.mem_of_getElem? (i := 171) (by decide +kernel), List.mem_of_getElem? (i := 233) (by decide +kernel), List.mem_of_getElem? (i := 234) (by decide +kernel)⟩
theorem lw_p1 : lw_okq (⟨"WearHours$Planner", "sumFloors", "()V"⟩, 7) := ⟨⟨by decide +kernel, by decide +kernel⟩, List.mem_of_getElem? (i := 171) (by decide +kernel), List.mem_of_getElem? (i := 237) (by decide +kernel), List.mem_of_getElem? (i := 238) (by decide +kernel)⟩
theorem lw_p2 : lw_okq (⟨"WearHours$Planner", "firstBeginning", "(LWearHours$Repair;I)I"⟩, 7) := ⟨⟨by decide +kernel, by decide +kernel⟩, List.mem_of_getElem? (i := 171) (by decide +kernel), List.mem_of_getElem? (i := 245) (by decide +kernel), List.mem_of_getElem? (i := 246) (by decide +kernel)⟩
theorem lw_p3 : lw_okq (⟨"WearHours$Planner", "beginning", "(LWearHours$Repair;II)I"⟩, 7) := ⟨⟨by decide +kernel, by decide +kernel⟩, List.mem_of_getElem? (i := 171) (by decide +kernel), List.mem_of_getElem? (i := 249) (by decide +kernel), List.mem_of_getElem? (i := 250) (by decide +kernel)⟩
theorem lw_p4 : lw_okq (⟨"WearHours$Planner", "leastCost", "(II)I"⟩, 7) := ⟨⟨by decide +kernel, by decide +kernel⟩, List.mem_of_getElem? (i := 171) (by decide +kernel), List.mem_of_getElem? (i := 260) (by decide +kernel), List.mem_of_getElem? (i := 261) (by decide +kernel)⟩
theorem lw_p5 : lw_okq (⟨"WearHours$Planner", "costBy", "(IIII)I"⟩, 7) := ⟨⟨by decide +kernel, by decide +kernel⟩, List.mem_of_getElem? (i := 171) (by decide +kernel), List.mem_of_getElem? (i := 264) (by decide +kernel), List.mem_of_getElem? (i := 265) (by decide +kernel)⟩
theorem lw_p6 : lw_okq (⟨"WearHours$Planner", "occupy", "(LWearHours$Repair;II)V"⟩, 7) := ⟨⟨by decide +kernel, by decide +kernel⟩, List.mem_of_getElem? (i := 171) (by decide +kernel), List.mem_of_getElem? (i := 268) (by decide +kernel), List.mem_of_getElem? (i := 269) (by decide +kernel)⟩
theorem lw_p7 : lw_okq (⟨"WearHours$Planner", "settle", "(II)I"⟩, 7) := ⟨⟨by decide +kernel, by decide +kernel⟩, List.mem_of_getElem? (i := 171) (by decide +kernel), List.mem_of_getElem? (i := 272) (by decide +kernel), List.mem_of_getElem? (i := 273) (by decide +kernel)⟩
theorem lw_p8 : lw_okq (⟨"java/lang/Throwable", "fillInStackTrace", "(I)Ljava/lang/Throwable;"⟩, 6) := ⟨⟨by decide +kernel, by decide +kernel⟩, List.mem_of_getElem? (i := 341) (by decide +kernel), List.mem_of_getElem? (i := 339) (by decide +kernel), List.mem_of_getElem? (i := 340) (by decide +kernel)⟩
theorem lw_p9 : lw_okq (⟨"WearHours", "knownThing", "(I)LWearHours$Thing;"⟩, 6) := ⟨⟨by decide +kernel, by decide +kernel⟩, List.mem_of_getElem? (i := 18) (by decide +kernel), List.mem_of_getElem? (i := 400) (by decide +kernel), List.mem_of_getElem? (i := 401) (by decide +kernel)⟩
theorem lw_p10 : lw_okq (⟨"WearHours$Thing", "keep", "(I)V"⟩, 5) := ⟨⟨by decide +kernel, by decide +kernel⟩, List.mem_of_getElem? (i := 27) (by decide +kernel), List.mem_of_getElem? (i := 445) (by decide +kernel), List.mem_of_getElem? (i := 446) (by decide +kernel)⟩
theorem lw_p11 : lw_okq (⟨"WearHours", "drawnNumber", "(J)J"⟩, 6) := ⟨⟨by decide +kernel, by decide +kernel⟩, List.mem_of_getElem? (i := 18) (by decide +kernel), List.mem_of_getElem? (i := 474) (by decide +kernel), List.mem_of_getElem? (i := 475) (by decide +kernel)⟩
theorem lw_p12 : lw_okq (⟨"WearHours", "checkPlan", "()V"⟩, 6) := ⟨⟨by decide +kernel, by decide +kernel⟩, List.mem_of_getElem? (i := 18) (by decide +kernel), List.mem_of_getElem? (i := 574) (by decide +kernel), List.mem_of_getElem? (i := 575) (by decide +kernel)⟩
theorem lw_p13 : lw_okq (⟨"WearHoursModel", "goes", "(ZZZ)Z"⟩, 32) := ⟨⟨by decide +kernel, by decide +kernel⟩, List.mem_of_getElem? (i := 608) (by decide +kernel), List.mem_of_getElem? (i := 728) (by decide +kernel), List.mem_of_getElem? (i := 729) (by decide +kernel)⟩
theorem lw_p14 : lw_okq (⟨"WearHoursModel", "isThing", "(I)Z"⟩, 32) := ⟨⟨by decide +kernel, by decide +kernel⟩, List.mem_of_getElem? (i := 608) (by decide +kernel), List.mem_of_getElem? (i := 736) (by decide +kernel), List.mem_of_getElem? (i := 737) (by decide +kernel)⟩
theorem lw_p15 : lw_okq (⟨"WearHoursModel", "isBarred", "(I)Z"⟩, 32) := ⟨⟨by decide +kernel, by decide +kernel⟩, List.mem_of_getElem? (i := 608) (by decide +kernel), List.mem_of_getElem? (i := 740) (by decide +kernel), List.mem_of_getElem? (i := 741) (by decide +kernel)⟩
def lw_privs_1 : List (MethodName × Nat) := [(⟨"WearHours$Planner", "freeAll", "()V"⟩, 7), (⟨"WearHours$Planner", "sumFloors", "()V"⟩, 7), (⟨"WearHours$Planner", "firstBeginning", "(LWearHours$Repair;I)I"⟩, 7), (⟨"WearHours$Planner", "beginning", "(LWearHours$Repair;II)I"⟩, 7), (⟨"WearHours$Planner", "leastCost", "(II)I"⟩, 7), (⟨"WearHours$Planner", "costBy", "(IIII)I"⟩, 7), (⟨"WearHours$Planner", "occupy", "(LWearHours$Repair;II)V"⟩, 7), (⟨"WearHours$Planner", "settle", "(II)I"⟩, 7), (⟨"java/lang/Throwable", "fillInStackTrace", "(I)Ljava/lang/Throwable;"⟩, 6), (⟨"WearHours", "knownThing", "(I)LWearHours$Thing;"⟩, 6), (⟨"WearHours$Thing", "keep", "(I)V"⟩, 5), (⟨"WearHours", "drawnNumber", "(J)J"⟩, 6), (⟨"WearHours", "checkPlan", "()V"⟩, 6), (⟨"WearHoursModel", "goes", "(ZZZ)Z"⟩, 32), (⟨"WearHoursModel", "isThing", "(I)Z"⟩, 32), (⟨"WearHoursModel", "isBarred", "(I)Z"⟩, 32)]
theorem lw_r1 : ∀ q ∈ lw_privs_1, lw_okq q := List.forall_mem_cons.mpr ⟨lw_p0, List.forall_mem_cons.mpr ⟨lw_p1, List.forall_mem_cons.mpr ⟨lw_p2, List.forall_mem_cons.mpr ⟨lw_p3, List.forall_mem_cons.mpr ⟨lw_p4, List.forall_mem_cons.mpr ⟨lw_p5, List.forall_mem_cons.mpr ⟨lw_p6, List.forall_mem_cons.mpr ⟨lw_p7, List.forall_mem_cons.mpr ⟨lw_p8, List.forall_mem_cons.mpr ⟨lw_p9, List.forall_mem_cons.mpr ⟨lw_p10, List.forall_mem_cons.mpr ⟨lw_p11, List.forall_mem_cons.mpr ⟨lw_p12, List.forall_mem_cons.mpr ⟨lw_p13, List.forall_mem_cons.mpr ⟨lw_p14, List.forall_mem_cons.mpr ⟨lw_p15, fun _ h => absurd h List.not_mem_nil⟩⟩⟩⟩⟩⟩⟩⟩⟩⟩⟩⟩⟩⟩⟩⟩
theorem lw_p16 : lw_okq (⟨"WearHoursModel", "keep", "(II)V"⟩, 32) := ⟨⟨by decide +kernel, by decide +kernel⟩, List.mem_of_getElem? (i := 608) (by decide +kernel), List.mem_of_getElem? (i := 744) (by decide +kernel), List.mem_of_getElem? (i := 745) (by decide +kernel)⟩
theorem lw_p17 : lw_okq (⟨"WearHoursModel", "number", "(I)J"⟩, 32) := ⟨⟨by decide +kernel, by decide +kernel⟩, List.mem_of_getElem? (i := 608) (by decide +kernel), List.mem_of_getElem? (i := 756) (by decide +kernel), List.mem_of_getElem? (i := 757) (by decide +kernel)⟩
theorem lw_p18 : lw_okq (⟨"WearHoursModel", "best", "()V"⟩, 32) := ⟨⟨by decide +kernel, by decide +kernel⟩, List.mem_of_getElem? (i := 608) (by decide +kernel), List.mem_of_getElem? (i := 795) (by decide +kernel), List.mem_of_getElem? (i := 796) (by decide +kernel)⟩
theorem lw_p19 : lw_okq (⟨"WearHoursModel", "begins", "(III)I"⟩, 32) := ⟨⟨by decide +kernel, by decide +kernel⟩, List.mem_of_getElem? (i := 608) (by decide +kernel), List.mem_of_getElem? (i := 799) (by decide +kernel), List.mem_of_getElem? (i := 800) (by decide +kernel)⟩
theorem lw_p20 : lw_okq (⟨"WearHoursModel", "take", "(I)V"⟩, 32) := ⟨⟨by decide +kernel, by decide +kernel⟩, List.mem_of_getElem? (i := 608) (by decide +kernel), List.mem_of_getElem? (i := 806) (by decide +kernel), List.mem_of_getElem? (i := 807) (by decide +kernel)⟩
def lw_privs_2 : List (MethodName × Nat) := [(⟨"WearHoursModel", "keep", "(II)V"⟩, 32), (⟨"WearHoursModel", "number", "(I)J"⟩, 32), (⟨"WearHoursModel", "best", "()V"⟩, 32), (⟨"WearHoursModel", "begins", "(III)I"⟩, 32), (⟨"WearHoursModel", "take", "(I)V"⟩, 32)]
theorem lw_r2 : ∀ q ∈ lw_privs_2, lw_okq q := List.forall_mem_cons.mpr ⟨lw_p16, List.forall_mem_cons.mpr ⟨lw_p17, List.forall_mem_cons.mpr ⟨lw_p18, List.forall_mem_cons.mpr ⟨lw_p19, List.forall_mem_cons.mpr ⟨lw_p20, fun _ h => absurd h List.not_mem_nil⟩⟩⟩⟩⟩
def lw_privs : List (MethodName × Nat) := lw_privs_1 ++ (lw_privs_2)
def lw_tbl : List Cond := k2_sels lw_privs ++ tables_1
theorem lw_privs_ok : ∀ q ∈ lw_privs, lw_okq q := by
  show ∀ q ∈ lw_privs_1 ++ (lw_privs_2), lw_okq q
  exact List.forall_mem_append.mpr ⟨lw_r1, lw_r2⟩
end
section
/-- a word that every later state of the walk keeps -/
def goodB (w : Cond) : Bool := (w.onTables && w.keeps) || (match w with | .arrayClass _ => true | _ => false)
/-- the words that all contracts of this proof stand on -/
def gt : List Cond := lw_tbl.filter goodB
theorem gt_good {w : Cond} (h : goodB w = true) : (w.onTables && w.keeps) = true ∨ ∃ ty, w = .arrayClass ty := by
  unfold goodB at h
  rcases (Bool.or_eq_true _ _).mp h with h | h
  · exact Or.inl h
  · right
    cases w <;> first | exact ⟨_, rfl⟩ | cases h
theorem gtm (i : Nat) {w : Cond} (h : lw_tbl[i]? = some w) (hg : goodB w = true) : w ∈ gt := List.mem_filter.mpr ⟨List.mem_of_getElem? h, hg⟩
theorem gt_in {ws : List Cond} (h : ∀ w ∈ ws, w ∈ gt) : GoodIn gt ws := fun w hw => ⟨h w hw, gt_good (List.mem_filter.mp (h w hw)).2⟩
theorem tb0 (i : Nat) {w : Cond} (h : (k2_sels lw_privs)[i]? = some w) : w ∈ lw_tbl := List.mem_append_left _ (List.mem_of_getElem? h)
theorem tb1 (i : Nat) {w : Cond} (h : tables_1_1[i]? = some w) : w ∈ lw_tbl := List.mem_append_right _ (List.mem_append_left _ (List.mem_of_getElem? h))
theorem tb2 (i : Nat) {w : Cond} (h : tables_1_2[i]? = some w) : w ∈ lw_tbl := List.mem_append_right _ (List.mem_append_right _ (List.mem_append_left _ (List.mem_of_getElem? h)))
theorem tb3 (i : Nat) {w : Cond} (h : tables_1_3[i]? = some w) : w ∈ lw_tbl := List.mem_append_right _ (List.mem_append_right _ (List.mem_append_right _ (List.mem_append_left _ (List.mem_of_getElem? h))))
theorem tb4 (i : Nat) {w : Cond} (h : tables_1_4[i]? = some w) : w ∈ lw_tbl := List.mem_append_right _ (List.mem_append_right _ (List.mem_append_right _ (List.mem_append_right _ (List.mem_of_getElem? h))))
theorem gtn {w : Cond} (h : w ∈ lw_tbl) (hg : goodB w = true) : w ∈ gt := List.mem_filter.mpr ⟨h, hg⟩
end
section
/-! A walk's calls, by the callee's own walk: a contract (Mx) is a walk from the callee's entry to an end that returns or throws; a call of it goes on behind the call, or with what was thrown. -/
theorem xs_weak {tb : Tables} {e : Env} {mid below : List Frame} {a b : State} (h : Steps tb e (mid ++ below) a b) : Steps tb e below a b := by
  obtain ⟨n, hn, hw⟩ := h
  refine ⟨n, hn, fun k hk => ?_⟩
  obtain ⟨above, h1, h2, h3⟩ := hw k hk
  refine ⟨above ++ mid, by rw [h1, List.append_assoc], ?_, ?_⟩
  · cases above with
    | nil => exact absurd rfl h2
    | cons x t => simp
  · intro q hq
    cases above with
    | nil => exact absurd rfl h2
    | cons x t =>
      simp only [List.cons_append, List.cons.injEq] at hq
      obtain ⟨rfl, h4⟩ := hq
      have h5 : t = [] := (List.append_eq_nil_iff.mp h4).1
      exact h3 q (by rw [h5])
/-- the frame of a whole invocation -/
def xF (st t : State) (L : List Loc) (mc ms : Nat) : Prop := st.WarmedH t.vm ∧ st.sameButNew ({ t with vm := st.vm } : State) L mc ms
def xMQ (below : List Frame) (Qc : State → Outcome → State → Prop) (s : State) (mc ms : Nat) (free : Addr → Prop) : State → Prop := fun t =>
  ∃ o, t.status = .running ∧ Ended t below o ∧ Qc s o t ∧ ∃ L, xF s t L mc ms ∧ ∀ q ∈ L, free q.base
/-- a contract: from every entry with Pc the method comes to an end with Qc -/
def Mx (l : Launch) (y : MethodName) (bytes : ByteArray) (maxL : Nat) (ret : Option FieldType) (hh : List (Nat × Nat × Nat × Nat)) (rm : Room) (av : List Value) (Pc : State → Prop) (Qc : State → Outcome → State → Prop) (free : Addr → Prop) : Prop :=
  ∀ (p : Program) (e : Env) (s : State) (m : MethodId) (below : List Frame) (meth : Method) (c : Code),
    p.tables.exec = Jvm.exec → s.methodNamed? y = some m → c.code = bytes → c.maxLocals = maxL → c.exceptionTable.toList = tableOf hh → meth.name = y.name → meth.sig.returnType = ret → meth.locks = false →
    (∀ w ∈ gt, w.before av.toArray s = true) → Pc s →
    W p l e rm s m av.toArray below meth c s.heap [] 0 0 (xMQ below Qc s rm.cells rm.slots free) (entryFrame m av.toArray maxL)
/-- the code word of a method, with its table of handlers or without one -/
def xCode (y : MethodName) (bytes : ByteArray) (maxL : Nat) (ret : Option FieldType) (hh : List (Nat × Nat × Nat × Nat)) : Prop := (hh = [] ∧ Cond.code y bytes maxL ret ∈ gt) ∨ Cond.codeWith y bytes maxL ret hh ∈ gt
theorem xCode.spec {y : MethodName} {bytes : ByteArray} {maxL : Nat} {ret : Option FieldType} {hh : List (Nat × Nat × Nat × Nat)} (h : xCode y bytes maxL ret hh) {s : State} {args : Array Value} (hw : ∀ w ∈ gt, w.before args s = true) {mk : MethodId} (hn : s.methodNamed? y = some mk) :
    ∃ meth c, s.vm.method? mk = some meth ∧ meth.code = some c ∧ c.code = bytes ∧ c.maxLocals = maxL ∧ c.exceptionTable.toList = tableOf hh ∧ meth.sig.returnType = ret ∧ meth.locks = false ∧ parseMethodDescriptor y.desc = some meth.sig := by
  rcases h with ⟨h0, h⟩ | h
  · obtain ⟨meth, c, h1, h2, h3, h4, h5, h6, h7, h8⟩ := Cond.code_spec hn (hw _ h)
    refine ⟨meth, c, h1, h2, h3, h4, ?_, h5, h6, h8⟩
    rw [h0, Array.isEmpty_iff.mp h7]
    rfl
  · obtain ⟨m9, meth, c, hn9, h1, h2, h3, h4, h5, h6, h7, h8⟩ := Cond.codeWith_spec (hw _ h)
    cases Option.some.inj (hn9.symm.trans hn)
    exact ⟨meth, c, h1, h2, h3, h4, by rw [← h5, table_eq], h6, h7, h8⟩
section XCalls
variable {p : Program} {l : Launch} {e : Env} {R : Room} {s : State} {m : MethodId} {args : Array Value} {below : List Frame} {meth : Method} {c : Code} {T : State} {locs : List Loc} {cells slots : Nat}
variable {y : MethodName} {bytes : ByteArray} {maxL : Nat} {ret : Option FieldType} {hh : List (Nat × Nat × Nat × Nat)} {rm : Room} {av : List Value} {Pc : State → Prop} {Qc : State → Outcome → State → Prop} {free : Addr → Prop}
theorem xc_core (X : Stand p l e R s m args below meth c T locs cells slots) (hx : p.tables.exec = Jvm.exec) (hM : Mx l y bytes maxL ret hh rm av Pc Qc free)
    (hw : ∀ w ∈ gt, w.before args s = true) (hcode : xCode y bytes maxL ret hh) (hpn : plainName y.cls = true)
    {mk : MethodId} (hn : s.methodNamed? y = some mk) {g : JFrame} (hg : g.method = m) (hsize : g.locals.size = c.maxLocals) {ig : Instr} (hdg : decode c.code g.pc = .ok (ig, 3))
    (hfr : rm.frames + 1 ≤ R.frames) (hlo : 2 * g.monitorRoom + (g.stack.map fun v => v.category).sum + (maxL + 11) + rm.locals ≤ R.locals) (hce : cells + rm.cells ≤ R.cells) (hsl : slots + rm.slots ≤ R.slots)
    (hPc : Pc (T.calling g mk av.toArray)) :
    ∃ (o : Outcome) (t : State) (L : List Loc) (T' : State), Qc (T.calling g mk av.toArray) o t ∧ (∀ q ∈ L, free q.base) ∧ Stand p l e R s m args below meth c T' (locs ++ L) (cells + rm.cells) (slots + rm.slots) ∧ T'.heap = t.heap ∧ T'.vm = t.vm ∧
      ∀ acts, (∀ v, o = .returned v → Steps p.tables e below (doInvoke e (T.setTop g) acts mk av.toArray).1 (T'.setTop { g with pc := g.pc + 3, stack := v.toList ++ g.stack })) ∧
        (∀ q, o = .threw q → Steps p.tables e below (doInvoke e (T.setTop g) acts mk av.toArray).1 ((T'.setTop g).pushFrame (.throwing q))) := by
  obtain ⟨methk, ck, hmS, hck, hb, hml, htab, hret, hlk, hsig⟩ := hcode.spec hw hn
  have hmk : T.vm.method? mk = some methk := by rw [X.warmed.alike.method?]; exact hmS
  obtain ⟨kY, hkY, hkn⟩ := className_of_methodNamed hn
  have hpk : T.plainMethod mk := X.warmed.plainAt (fun k hk => by cases Option.some.inj (hk.symm.trans hkY); rw [hkn]; exact hpn)
  obtain ⟨Y, hin⟩ := X.into hg hsize hdg av.toArray (R' := rm) hmk hck hlk hpk hfr (by rw [hml]; exact hlo) hce hsl
  have hWu : s.WarmedH (T.calling g mk av.toArray).vm := X.warmed
  have hws : ∀ w ∈ gt, w.before av.toArray (T.calling g mk av.toArray) = true := fun w hw' => word_at hWu (gt_good (List.mem_filter.mp hw').2) (hw w hw')
  have hnT : (T.calling g mk av.toArray).methodNamed? y = some mk := X.named hn
  have K := hM p e (T.calling g mk av.toArray) mk (.java g :: below) methk ck hx hnT hb hml htab (name_of_methodNamed hn hmS).1 hret hlk hws hPc
  obtain ⟨t, hst, o, -, hend, hq, L, ⟨hWt, hsame⟩, hL⟩ := K ((T.setTop g).pushFrame (.java (entryFrame mk av.toArray ck.maxLocals))) rfl Y
  rw [← hml] at hst
  have hst' : Steps p.tables e below (((T.setTop g).pushFrame (.java (entryFrame mk av.toArray ck.maxLocals))).setTop (entryFrame mk av.toArray ck.maxLocals)) t := xs_weak (mid := [.java g]) hst
  cases o with
  | returned v =>
    obtain ⟨T', X', hW', hB', ht⟩ := X.outOf hg hdg hend hWt hsame
    refine ⟨.returned v, t, L, T', hq, hL, X', by rw [ht]; simp, by rw [ht]; simp, fun acts => ⟨fun v' hv => ?_, fun q hq' => (by cases hq')⟩⟩
    cases hv
    rw [hin acts, ← ht]
    exact hst'
  | threw q =>
    obtain ⟨T', X', hW', hB', ht⟩ := X.outOfThrown hg hend hWt hsame
    refine ⟨.threw q, t, L, T', hq, hL, X', by rw [ht, throwing_heap], by rw [ht, throwing_vm], fun acts => ⟨fun v' hv => (by cases hv), fun q' hq' => ?_⟩⟩
    cases hq'
    rw [hin acts, ← ht]
    exact hst'
end XCalls
end
section
/-! rows of a walk: calls, ends, throws -/
/-- a walk goes on from a frame over which 'q is being thrown' lies -/
def XW (p : Program) (l : Launch) (e : Env) (R : Room) (s : State) (m : MethodId) (args : Array Value) (below : List Frame) (meth : Method) (c : Code) (H : Heap) (locs : List Loc) (cells slots : Nat) (Q : State → Prop) (g : JFrame) (q : Addr) : Prop :=
  ∀ T : State, T.heap = H → Stand p l e R s m args below meth c T locs cells slots → ∃ t, Steps p.tables e below ((T.setTop g).pushFrame (.throwing q)) t ∧ Q t
/-- how an invocation ends: what it may change; f of what it returns; x of what it throws -/
def QQ (A : Nat → Prop) (f : Option Value → State → Prop) (x : String → State → Prop) : State → Outcome → State → Prop := fun st o t =>
  va_F A st t ∧ ((∃ v, o = .returned v ∧ f v t) ∨ ∃ (q : Addr) (cls : String) (cell : Cell), o = .threw q ∧ t.heap[q]? = some cell ∧ cell.vm = .none ∧ t.vm.findClass cls = some cell.cls ∧ x cls t)
abbrev Mq (l : Launch) (y : MethodName) (bytes : ByteArray) (maxL : Nat) (ret : Option FieldType) (hh : List (Nat × Nat × Nat × Nat)) (rm : Room) (av : List Value) (Pc : State → Prop) (A : Nat → Prop) (f : Option Value → State → Prop) (x : String → State → Prop) : Prop :=
  Mx l y bytes maxL ret hh rm av Pc (QQ A f x) A
abbrev Fx (p : Program) (m : MethodId) (c : Code) (cc : ByteArray) (nL : Nat) (s : State) (args : Array Value) (own : String) : Prop :=
  p.tables.exec = Jvm.exec ∧ c.code = cc ∧ c.maxLocals = nL ∧ s.vm.findClass own = some m.cls ∧ ∀ w ∈ gt, w.before args s = true
section XRows
variable {p : Program} {l : Launch} {e : Env} {R : Room} {s : State} {m : MethodId} {args : Array Value} {below : List Frame} {meth : Method} {c : Code} {H : Heap} {locs : List Loc} {cells slots : Nat} {Q : State → Prop}
variable {y : MethodName} {bytes cc : ByteArray} {maxL nL index pc : Nat} {ret : Option FieldType} {hh : List (Nat × Nat × Nat × Nat)} {rm : Room} {av As rest st : List Value} {Pc : State → Prop} {A A0 : Nat → Prop} {f : Option Value → State → Prop} {x : String → State → Prop} {own C host : String} {H0 : Heap} {ls : Array Slot} {b : Addr}
theorem xc_go {T : State} (hT : T.heap = H) {vm₁ : Vm} (X : Stand p l e R s m args below meth c (T.setVm vm₁) locs cells slots) (F : Fx p m c cc nL s args own) (hM : Mq l y bytes maxL ret hh rm av Pc A f x)
    (hcode : xCode y bytes maxL ret hh) (hpn : plainName y.cls = true) {mk : MethodId} (hn : s.methodNamed? y = some mk)
    (hstep : ∀ target, (∀ acts, Steps p.tables e below (doInvoke e ((T.setVm vm₁).setTop (F0 m pc ls rest)) acts mk av.toArray).1 target) → Steps p.tables e below (T.setTop (F0 m pc ls st)) target)
    (hsz : ls.size = nL) {ig : Instr} (hdg : decode cc pc = .ok (ig, 3)) (hfr : rm.frames + 1 ≤ R.frames) (hlo : (rest.map fun v => v.category).sum + (maxL + 11) + rm.locals ≤ R.locals) (hf : cells + rm.cells ≤ R.cells ∧ slots + rm.slots ≤ R.slots)
    (hPc : ∀ U : State, U.heap = H → s.WarmedH U.vm → Pc U) (hS : va_S A0 H0 H locs) (hA : ∀ q, A q → A0 q)
    (kr : ∀ (v : Option Value) (t : State) (H1 : Heap) (locs1 : List Loc), t.heap = H1 → s.WarmedH t.vm → f v t → H.size ≤ H1.size → (∀ q : Nat, q < H.size → ¬ A q → H1[q]? = H[q]?) → va_S A0 H0 H1 locs1 → W p l e R s m args below meth c H1 locs1 (cells + rm.cells) (slots + rm.slots) Q (F0 m (pc + 3) ls (v.toList ++ rest)))
    (kt : ∀ (q : Addr) (cls : String) (cell : Cell) (t : State) (H1 : Heap) (locs1 : List Loc), t.heap = H1 → s.WarmedH t.vm → H1[q]? = some cell → cell.vm = .none → s.vm.findClass cls = some cell.cls → x cls t → H.size ≤ H1.size → (∀ q : Nat, q < H.size → ¬ A q → H1[q]? = H[q]?) → va_S A0 H0 H1 locs1 → XW p l e R s m args below meth c H1 locs1 (cells + rm.cells) (slots + rm.slots) Q (F0 m pc ls rest) q) :
    ∃ t, Steps p.tables e below (T.setTop (F0 m pc ls st)) t ∧ Q t := by
  obtain ⟨hx, hb, hml, ho, hw⟩ := F
  obtain ⟨o, t, L, T', ⟨⟨hz, hk⟩, hq⟩, hL, X', e1, e2, hgo⟩ := xc_core (g := F0 m pc ls rest) X hx hM hw hcode hpn hn rfl (hsz.trans hml.symm) (by rw [hb]; exact hdg) hfr
    (by show 2 * 0 + (rest.map fun v => v.category).sum + (maxL + 11) + rm.locals ≤ R.locals; omega) hf.1 hf.2 (hPc _ (by rw [← hT]; rfl) X.warmed)
  have hz' : H.size ≤ t.heap.size := by rw [← hT]; exact hz
  have hk' : ∀ q : Nat, q < H.size → ¬ A q → t.heap[q]? = H[q]? := by
    intro q h1 h2
    rw [← hT] at h1 ⊢
    exact hk q h1 h2
  have hS' : va_S A0 H0 t.heap (locs ++ L) := ⟨Nat.le_trans hS.1 hz', fun q h1 h2 => by rw [hk' q (Nat.lt_of_lt_of_le h1 hS.1) (fun z => h2 (hA q z))]; exact hS.2.1 q h1 h2, fun q hq => by
    rcases List.mem_append.mp hq with h | h
    · exact hS.2.2 q h
    · exact hA _ (hL q h)⟩
  have hW : s.WarmedH t.vm := by rw [← e2]; exact X'.warmed
  rcases hq with ⟨v, ho, hfv⟩ | ⟨q, cls, cell, ho, h1, h2, h3, h4⟩
  · obtain ⟨t2, a1, b1⟩ := kr v t t.heap (locs ++ L) rfl hW hfv hz' hk' hS' T' e1 X'
    exact ⟨t2, hstep t2 (fun acts => ((hgo acts).1 v ho).trans a1), b1⟩
  · obtain ⟨t2, a1, b1⟩ := kt q cls cell t t.heap (locs ++ L) rfl hW h1 h2 (by rw [← hW.alike.findClass]; exact h3) h4 hz' hk' hS' T' e1 X'
    exact ⟨t2, hstep t2 (fun acts => ((hgo acts).2 q ho).trans a1), b1⟩
/-- the facts of a called method that a program decides -/
abbrev xMeth (y : MethodName) (n : Nat) : Prop := plainName y.cls = true ∧ (y.cls ≠ "java/lang/invoke/MethodHandle" ∧ y.cls ≠ "java/lang/invoke/VarHandle") ∧ (parseMethodDescriptor y.desc).map (fun d => d.parameters.length) = some n
theorem xc_V (F : Fx p m c cc nL s args own) (hM : Mq l y bytes maxL ret hh rm (.ref b :: As) Pc A f x) (hcode : xCode y bytes maxL ret hh) (hy : xMeth y As.length)
    (hl : Cond.methodLink own index y ∈ gt) (hi : Cond.instanceMethod y ∈ gt) (hse : Cond.selects C y y ∈ gt) (hrecv : ∃ cell : Cell, H[b]? = some cell ∧ cell.vm.isStatics = false ∧ s.vm.findClass C = some cell.cls)
    (hst : st = As.reverse ++ .ref b :: rest) (hsz : ls.size = nL) (hdg : decode cc pc = .ok (.invokevirtual index, 3)) (hfr : rm.frames + 1 ≤ R.frames) (hlo : (rest.map fun v => v.category).sum + (maxL + 11) + rm.locals ≤ R.locals) (hf : cells + rm.cells ≤ R.cells ∧ slots + rm.slots ≤ R.slots)
    (hPc : ∀ U : State, U.heap = H → s.WarmedH U.vm → Pc U) (hS : va_S A0 H0 H locs) (hA : ∀ q, A q → A0 q)
    (kr : ∀ (v : Option Value) (t : State) (H1 : Heap) (locs1 : List Loc), t.heap = H1 → s.WarmedH t.vm → f v t → H.size ≤ H1.size → (∀ q : Nat, q < H.size → ¬ A q → H1[q]? = H[q]?) → va_S A0 H0 H1 locs1 → W p l e R s m args below meth c H1 locs1 (cells + rm.cells) (slots + rm.slots) Q (F0 m (pc + 3) ls (v.toList ++ rest)))
    (kt : ∀ (q : Addr) (cls : String) (cell : Cell) (t : State) (H1 : Heap) (locs1 : List Loc), t.heap = H1 → s.WarmedH t.vm → H1[q]? = some cell → cell.vm = .none → s.vm.findClass cls = some cell.cls → x cls t → H.size ≤ H1.size → (∀ q : Nat, q < H.size → ¬ A q → H1[q]? = H[q]?) → va_S A0 H0 H1 locs1 → XW p l e R s m args below meth c H1 locs1 (cells + rm.cells) (slots + rm.slots) Q (F0 m pc ls rest) q) :
    W p l e R s m args below meth c H locs cells slots Q (F0 m pc ls st) := by
  intro T hT X
  obtain ⟨hx, hb, hml, ho, hw⟩ := id F
  obtain ⟨mk, methM, hnamed, hmethM, hstM, habM⟩ := Cond.instanceMethod_spec (hw _ hi)
  obtain ⟨methM', cM, hmethM', -, -, -, -, -, -, hsigM⟩ := hcode.spec hw hnamed
  cases Option.some.inj (hmethM.symm.trans hmethM')
  obtain ⟨c2, r2, m2, q1, q2, q3, q4, kP, hkP, hkPi⟩ := Cond.selects_spec (hw _ hse)
  obtain ⟨cellB, hcB, hoB, hclB⟩ := hrecv
  cases Option.some.inj (hclB.symm.trans q1)
  cases Option.some.inj ((State.methodFound?_of_named hnamed hy.2.1).symm.trans q2)
  cases Option.some.inj (hnamed.symm.trans q3)
  have hselP : selectMethod e.platform s.vm cellB.cls mk = .method mk := by rw [Launch.admits_selectMethod X.admits]; exact q4
  have hlen : As.length = methM.sig.parameters.length := by
    have h2 := hy.2.2
    rw [hsigM] at h2
    exact (Option.some.inj h2).symm
  obtain ⟨vm₁, X₁, hstep⟩ := X.invokevirtual hx ho (hw _ hl) hnamed hmethM hstM hkP hkPi hy.2.1 (a := b) (cell := cellB) (by rw [hT]; exact hcB)
    (fun z h => by rw [h] at hoB; cases hoB) hselP hmethM habM hkP hkPi (g := F0 m pc ls st) rfl (argsL := As) (rest := rest) hlen hst (by rw [hb]; exact hdg)
  exact xc_go hT X₁ F hM hcode hy.1 hnamed hstep hsz hdg hfr hlo hf hPc hS hA kr kt
theorem xc_S (F : Fx p m c cc nL s args own) (hM : Mq l y bytes maxL ret hh rm As Pc A f x) (hcode : xCode y bytes maxL ret hh) (hy : xMeth y As.length)
    (hl : Cond.methodLink own index y ∈ gt) (hi : Cond.static y ∈ gt) (hini : Cond.initialized y.cls ∈ gt)
    (hst : st = As.reverse ++ rest) (hsz : ls.size = nL) (hdg : decode cc pc = .ok (.invokestatic index, 3)) (hfr : rm.frames + 1 ≤ R.frames) (hlo : (rest.map fun v => v.category).sum + (maxL + 11) + rm.locals ≤ R.locals) (hf : cells + rm.cells ≤ R.cells ∧ slots + rm.slots ≤ R.slots)
    (hPc : ∀ U : State, U.heap = H → s.WarmedH U.vm → Pc U) (hS : va_S A0 H0 H locs) (hA : ∀ q, A q → A0 q)
    (kr : ∀ (v : Option Value) (t : State) (H1 : Heap) (locs1 : List Loc), t.heap = H1 → s.WarmedH t.vm → f v t → H.size ≤ H1.size → (∀ q : Nat, q < H.size → ¬ A q → H1[q]? = H[q]?) → va_S A0 H0 H1 locs1 → W p l e R s m args below meth c H1 locs1 (cells + rm.cells) (slots + rm.slots) Q (F0 m (pc + 3) ls (v.toList ++ rest)))
    (kt : ∀ (q : Addr) (cls : String) (cell : Cell) (t : State) (H1 : Heap) (locs1 : List Loc), t.heap = H1 → s.WarmedH t.vm → H1[q]? = some cell → cell.vm = .none → s.vm.findClass cls = some cell.cls → x cls t → H.size ≤ H1.size → (∀ q : Nat, q < H.size → ¬ A q → H1[q]? = H[q]?) → va_S A0 H0 H1 locs1 → XW p l e R s m args below meth c H1 locs1 (cells + rm.cells) (slots + rm.slots) Q (F0 m pc ls rest) q) :
    W p l e R s m args below meth c H locs cells slots Q (F0 m pc ls st) := by
  intro T hT X
  obtain ⟨hx, hb, hml, ho, hw⟩ := id F
  obtain ⟨mk, methM, hnamed, hmethM, hstM⟩ : ∃ mk methM, s.methodNamed? y = some mk ∧ s.vm.method? mk = some methM ∧ methM.isStatic = true := by
    have h1 := hw _ hi
    cases hn : s.methodNamed? y with
    | none => simp [Cond.before, Cond.holds, Cond.value, hn] at h1
    | some mk =>
      obtain ⟨methM, cM, h2, -⟩ := hcode.spec hw hn
      exact ⟨mk, methM, rfl, h2, Cond.static_spec hn h2 h1⟩
  obtain ⟨methM', cM, hmethM', -, -, -, -, -, -, hsigM⟩ := hcode.spec hw hnamed
  cases Option.some.inj (hmethM.symm.trans hmethM')
  obtain ⟨kP, hkP, -⟩ := className_of_methodNamed hnamed
  have hinitP : kP.init = .initialized := Cond.initialized_spec (findClass_of_methodNamed hnamed) hkP (hw _ hini)
  have hlen : As.length = methM.sig.parameters.length := by
    have h2 := hy.2.2
    rw [hsigM] at h2
    exact (Option.some.inj h2).symm
  obtain ⟨vm₁, X₁, hstep⟩ := X.invokestatic hx ho (hw _ hl) hnamed hmethM hstM hkP hinitP hy.2.1 (g := F0 m pc ls st) rfl (argsL := As) (rest := rest) hlen hst (by rw [hb]; exact hdg)
  exact xc_go hT X₁ F hM hcode hy.1 hnamed hstep hsz hdg hfr hlo hf hPc hS hA kr kt
theorem xc_I (F : Fx p m c cc nL s args own) (hM : Mq l y bytes maxL none [] rm (.ref b :: As) Pc A f x) (hcode : Cond.code y bytes maxL none ∈ gt) (hy : xMeth y As.length) (hy1 : y.name = "<init>")
    (hl : Cond.methodLink own index y ∈ gt ∨ va_Nw (.methodLinkNest own index y host) s) (hi : Cond.instanceMethod y ∈ gt)
    (hst : st = As.reverse ++ .ref b :: rest) (hsz : ls.size = nL) (hdg : decode cc pc = .ok (.invokespecial index, 3)) (hfr : rm.frames + 1 ≤ R.frames) (hlo : (rest.map fun v => v.category).sum + (maxL + 11) + rm.locals ≤ R.locals) (hf : cells + rm.cells ≤ R.cells ∧ slots + rm.slots ≤ R.slots)
    (hPc : ∀ U : State, U.heap = H → s.WarmedH U.vm → Pc U) (hS : va_S A0 H0 H locs) (hA : ∀ q, A q → A0 q)
    (kr : ∀ (v : Option Value) (t : State) (H1 : Heap) (locs1 : List Loc), t.heap = H1 → s.WarmedH t.vm → f v t → H.size ≤ H1.size → (∀ q : Nat, q < H.size → ¬ A q → H1[q]? = H[q]?) → va_S A0 H0 H1 locs1 → W p l e R s m args below meth c H1 locs1 (cells + rm.cells) (slots + rm.slots) Q (F0 m (pc + 3) ls (v.toList ++ rest)))
    (kt : ∀ (q : Addr) (cls : String) (cell : Cell) (t : State) (H1 : Heap) (locs1 : List Loc), t.heap = H1 → s.WarmedH t.vm → H1[q]? = some cell → cell.vm = .none → s.vm.findClass cls = some cell.cls → x cls t → H.size ≤ H1.size → (∀ q : Nat, q < H.size → ¬ A q → H1[q]? = H[q]?) → va_S A0 H0 H1 locs1 → XW p l e R s m args below meth c H1 locs1 (cells + rm.cells) (slots + rm.slots) Q (F0 m pc ls rest) q) :
    W p l e R s m args below meth c H locs cells slots Q (F0 m pc ls st) := by
  intro T hT X
  obtain ⟨hx, hb, hml, ho, hw⟩ := id F
  have hpl : e.platform.magicAccessors = ({} : Platform).magicAccessors := by rw [X.admits.platform]
  have hlen : ∀ sig, parseMethodDescriptor y.desc = some sig → As.length = sig.parameters.length := fun sig h => by
    have h2 := hy.2.2
    rw [h] at h2
    exact (Option.some.inj h2).symm
  rcases hl with hl | hl
  · obtain ⟨mk, methM, cM, kP, vm₁, hnamed, -, -, -, -, -, -, -, hW₁, hstep⟩ := Steps.initColdArgs (e := e) X.here hx X.warmed hpl ho hy1 hy.2.1 (hw _ hl) (hw _ hi) (hw _ hcode) (f := F0 m pc ls st) rfl hlen hst (by rw [hb]; exact hdg)
    exact xc_go hT (X.noted hW₁) F hM (Or.inl ⟨rfl, hcode⟩) hy.1 hnamed hstep hsz hdg hfr hlo hf hPc hS hA kr kt
  · obtain ⟨mk, methM, cM, kP, vm₁, hnamed, -, -, -, -, -, -, -, hW₁, hstep⟩ := Steps.initColdArgsNest (e := e) X.here hx X.warmed hpl ho hy1 hy.2.1 (va_Nw.use rfl hl) (hw _ hi) (hw _ hcode) (f := F0 m pc ls st) rfl hlen hst (by rw [hb]; exact hdg)
    exact xc_go hT (X.noted hW₁) F hM (Or.inl ⟨rfl, hcode⟩) hy.1 hnamed hstep hsz hdg hfr hlo hf hPc hS hA kr kt
/-- a method that never throws: the second goal of a call of it -/
theorem xt_no {α : Prop} (h : False) : α := h.elim
/-! ends -/
theorem xe_mq {mc ms : Nat} {Qc : State → Outcome → State → Prop} {free : Addr → Prop} {t : State} (h : MQ below (fun _ => Qc) args s mc ms free t) : xMQ below Qc s mc ms free t := by
  obtain ⟨o, h1, h2, h3, L, ⟨h4, h5, h6⟩, h7⟩ := h
  exact ⟨o, h1, h2, h3, L, ⟨h5, h6⟩, h7⟩
theorem xe_up {Q2 : State → Prop} {g : JFrame} (h : ∀ t, Q t → Q2 t) (k : W p l e R s m args below meth c H locs cells slots Q g) : W p l e R s m args below meth c H locs cells slots Q2 g := by
  intro T hT X
  obtain ⟨t, a, b⟩ := k T hT X
  exact ⟨t, a, h t b⟩
variable {mc ms : Nat}
theorem xe_i (hx : p.tables.exec = Jvm.exec) (hb : c.code = cc) (hr : meth.sig.returnType = some .int) (hlk : meth.locks = false) (hS : va_S A s.heap H locs) {v : Int32} (hq : ∀ t : State, t.heap = H → s.WarmedH t.vm → f (some (.int v)) t) (hc : cells ≤ mc) (hs : slots ≤ ms) (hdg : decode cc pc = .ok (.ireturn, 1)) :
    W p l e R s m args below meth c H locs cells slots (xMQ below (QQ A f x) s mc ms A) (F0 m pc ls [.int v]) :=
  W.widen hc hs (xe_up (fun _ h => xe_mq h) (W.iret (Qc := fun _ => QQ A f x) hx hb hr (fun t ht hW => ⟨hS.F ht, Or.inl ⟨_, rfl, hq t ht hW⟩⟩) hS.2.2 hdg hlk))
theorem xe_z (hx : p.tables.exec = Jvm.exec) (hb : c.code = cc) (hr : meth.sig.returnType = some .boolean) (hlk : meth.locks = false) (hS : va_S A s.heap H locs) {v : Int32} (hv : narrow .boolean (.int v) = .int v) (hq : ∀ t : State, t.heap = H → s.WarmedH t.vm → f (some (.int v)) t) (hc : cells ≤ mc) (hs : slots ≤ ms) (hdg : decode cc pc = .ok (.ireturn, 1)) :
    W p l e R s m args below meth c H locs cells slots (xMQ below (QQ A f x) s mc ms A) (F0 m pc ls [.int v]) :=
  W.widen hc hs (xe_up (fun _ h => xe_mq h) (W.zret (Qc := fun _ => QQ A f x) hx hb hr hv (fun t ht hW => ⟨hS.F ht, Or.inl ⟨_, rfl, hq t ht hW⟩⟩) hS.2.2 hdg hlk))
theorem xe_l (hx : p.tables.exec = Jvm.exec) (hb : c.code = cc) (hr : meth.sig.returnType = some .long) (hlk : meth.locks = false) (hS : va_S A s.heap H locs) {v : Int64} (hq : ∀ t : State, t.heap = H → s.WarmedH t.vm → f (some (.long v)) t) (hc : cells ≤ mc) (hs : slots ≤ ms) (hdg : decode cc pc = .ok (.lreturn, 1)) :
    W p l e R s m args below meth c H locs cells slots (xMQ below (QQ A f x) s mc ms A) (F0 m pc ls [.long v]) :=
  W.widen hc hs (xe_up (fun _ h => xe_mq h) (W.lret (Qc := fun _ => QQ A f x) hx hb hr (fun t ht hW => ⟨hS.F ht, Or.inl ⟨_, rfl, hq t ht hW⟩⟩) hS.2.2 hdg hlk))
theorem xe_v (hx : p.tables.exec = Jvm.exec) (hb : c.code = cc) (hr : meth.sig.returnType = none) (hlk : meth.locks = false) (hS : va_S A s.heap H locs) (hq : ∀ t : State, t.heap = H → s.WarmedH t.vm → f none t) (hc : cells ≤ mc) (hs : slots ≤ ms) (hdg : decode cc pc = .ok (.return_, 1)) :
    W p l e R s m args below meth c H locs cells slots (xMQ below (QQ A f x) s mc ms A) (F0 m pc ls []) :=
  W.widen hc hs (xe_up (fun _ h => xe_mq h) (W.vret (Qc := fun _ => QQ A f x) hx hb hr (fun t ht hW => ⟨hS.F ht, Or.inl ⟨_, rfl, hq t ht hW⟩⟩) hS.2.2 hdg hlk))
theorem xe_a {cl : String} (hx : p.tables.exec = Jvm.exec) (hb : c.code = cc) (hr : meth.sig.returnType = some (.object cl)) (hlk : meth.locks = false) (hS : va_S A s.heap H locs) {v : Nat} (hq : ∀ t : State, t.heap = H → s.WarmedH t.vm → f (some (.ref v)) t) (hc : cells ≤ mc) (hs : slots ≤ ms) (hdg : decode cc pc = .ok (.areturn, 1)) :
    W p l e R s m args below meth c H locs cells slots (xMQ below (QQ A f x) s mc ms A) (F0 m pc ls [.ref v]) :=
  W.widen hc hs (xe_up (fun _ h => xe_mq h) (W.aret (Qc := fun _ => QQ A f x) hx hb hr (Or.inl ⟨_, rfl⟩) (Or.inr ⟨_, rfl⟩) (fun t ht hW => ⟨hS.F ht, Or.inl ⟨_, rfl, hq t ht hW⟩⟩) hS.2.2 hdg hlk))
/-- what was thrown goes on to the caller -/
theorem xe_t {q : Addr} {cls : String} {cell : Cell} (htab : c.exceptionTable.toList = tableOf []) (hlk : meth.locks = false) (hS : va_S A s.heap H locs) (hq : H[q]? = some cell) (hv : cell.vm = .none) (hcl : s.vm.findClass cls = some cell.cls) (hx : ∀ t : State, t.heap = H → s.WarmedH t.vm → x cls t) (hc : cells ≤ mc) (hs : slots ≤ ms) :
    XW p l e R s m args below meth c H locs cells slots (xMQ below (QQ A f x) s mc ms A) (F0 m pc ls rest) q := by
  intro T hT X
  have X2 := stand_widen X hc hs
  obtain ⟨h1, h2, h3, h4, h5⟩ := X2.leaveThrown q (g := F0 m pc ls rest) rfl rfl rfl (by rw [htab]; exact fun z hz => by cases hz) hlk
  refine ⟨_, h1, .threw q, h2, h3, ⟨hS.F hT, Or.inr ⟨q, cls, cell, rfl, by rw [show (T.setFrames (.throwing q :: below)).heap = T.heap from rfl, hT]; exact hq, hv, ?_, hx _ hT h4⟩⟩, locs, ⟨h4, h5⟩, hS.2.2⟩
  rw [h4.alike.findClass]
  exact hcl
end XRows
end
section
/-! what the tables say beyond gt, and 'throw new E("text")' -/
def isNw (w : Cond) : Bool := match w with
  | .fieldLinkNest _ _ _ _ _ _ => true
  | .methodLinkNest _ _ _ _ => true
  | .castable _ _ => true
  | .declares _ => true
  | _ => false
def nwt : List Cond := lw_tbl.filter isNw
theorem nwm {w : Cond} (h : w ∈ lw_tbl) (hg : isNw w = true) : w ∈ nwt := List.mem_filter.mpr ⟨h, hg⟩
def NW (U : State) : Prop := ∀ w ∈ nwt, va_Nw w U
theorem NW.warm {s U : State} (hW : s.WarmedH U.vm) (h : NW s) : NW U := fun w hw => by
  have h1 := h w hw
  have h2 := (List.mem_filter.mp hw).2
  cases w <;> first | exact va_Nw.warmF hW h1 | exact va_Nw.warmM hW h1 | exact va_Nw.warmC hW h1 | exact va_Nw.warmD hW h1 | (cases h2)
/-- the texts of the class: place in its pool, and text -/
def strs : List (Nat × String) := [(47, "life and bound are 1 to 1000000"), (58, "there are 8 things"), (227, "there is no such thing"), (75, "the thing is barred"), (78, "units are 1 to 1000000"), (229, "what is 0 to 2"), (94, "a draw is 0 to 1000"), (117, "the permit is so already"), (125, "a change's number is 0 or more"), (231, "hours are 0 to 168, the second behind the first"), (138, "there are 6 gaps"), (233, "a skill is 0 to 3"), (152, "there are 4 persons"), (158, "hours are 1 to 24, waiting is 0 to 1000"), (163, "there are 5 repairs"), (169, "rest is 0 to 24, failing is 0 to 1000000"), (186, "there is no such repair"), (235, "there is no plan"), (221, "a kind is 0 to 3"), (223, "spares are 0 to 100 at once"), (225, "a kind has at most 1000 spares")]
def SR (U : State) : Prop := ∀ q ∈ strs, ∃ a, vk_R "WearHours" q.1 q.2 a U
theorem SR.warm {s U : State} (hW : s.WarmedH U.vm) (h : SR s) : SR U := fun q hq => by
  obtain ⟨a, ha⟩ := h q hq
  exact ⟨a, vk_R.warm hW ha⟩
/-- a static of Throwable's that holds a reference or null -/
def stZ (n d : String) (U : State) (H : Heap) : Prop := ∃ (c : ClassId) (k : Class) (i : Nat) (f : Field) (a : Nat) (cell : Cell), U.vm.findClass Bundle.tN = some c ∧ U.fieldFound? Bundle.tN n d = some (c, k, i, f) ∧ f.isStatic = true ∧ k.statics = some a ∧ H[a]? = some cell ∧ cell.vm.isStatics = true ∧ cell.cls = c ∧
  f.slot < cell.slots.size ∧ k.staticTypes[f.slot]? = some f.type ∧ (cell.slots[f.slot]? = some .null ∨ ∃ t, cell.slots[f.slot]? = some (.ref t))
theorem stZ.of {n d : String} {args : Array Value} {U : State} (h : (Cond.laysStatic Bundle.tN n d).before args U = true) (h2 : (Cond.isRef (.static Bundle.tN n d)).before args U = true) : stZ n d U U.heap := by
  obtain ⟨c, k, i, f, a, cell, e1, e2, e3, e4, e5, e6, e7, e8, e9⟩ := Cond.laysStatic_spec h
  refine ⟨c, k, i, f, a, cell, e1, e2, e3, e4, e5, e6, e7, e8, e9, ?_⟩
  have he : (Term.static Bundle.tN n d).eval args U none [] U = cell.slots[f.slot]? := by
    simp [Term.eval, State.fieldNamed?, e2, e3, e4, e5, e6]
  simp only [Cond.before, Cond.holds, Cond.value] at h2
  rw [he] at h2
  cases hv : cell.slots[f.slot]? with
  | none => simp [hv] at h2
  | some v =>
    cases v with
    | null => exact Or.inl rfl
    | ref t => exact Or.inr ⟨t, rfl⟩
    | _ => simp [hv] at h2
theorem stZ.to {n d : String} {args : Array Value} {U : State} (h : stZ n d U U.heap) : (Cond.laysStatic Bundle.tN n d).before args U = true ∧ (Cond.isRef (.static Bundle.tN n d)).before args U = true := by
  obtain ⟨c, k, i, f, a, cell, e1, e2, e3, e4, e5, e6, e7, e8, e9, e10⟩ := h
  refine ⟨?_, ?_⟩
  · simp only [Cond.before, Cond.holds, Cond.value, e1, e2, e4, e5, Option.bind_some, Option.map_some]
    simp [e3, e6, e7, e8, e9]
  · have he : (Term.static Bundle.tN n d).eval args U none [] U = cell.slots[f.slot]? := by
      simp [Term.eval, State.fieldNamed?, e2, e3, e4, e5, e6]
    simp only [Cond.before, Cond.holds, Cond.value]
    rw [he]
    rcases e10 with h | ⟨t, h⟩ <;> simp [h]
theorem stZ.moved {n d : String} {u U : State} {H : Heap} (hvm : u.vm.Alike U.vm) (h : stZ n d u H) : stZ n d U H := by
  obtain ⟨c, k, i, f, a, cell, e1, e2, e3, e4, e5, e6, e7, e8, e9, e10⟩ := h
  obtain ⟨k', hi', he⟩ := State.fieldFound?_setVm hvm e2
  exact ⟨c, k', i, f, a, cell, by rw [hvm.findClass]; exact e1, hi', e3, by rw [he]; exact e4, e5, e6, e7, e8, by rw [he]; exact e9, e10⟩
/-- cells that a method may change hold no statics -/
def noSt (A : Nat → Prop) (H : Heap) : Prop := ∀ (q : Nat) (cell : Cell), A q → H[q]? = some cell → cell.vm.isStatics = false
theorem stZ.kept {n d : String} {U : State} {H H1 : Heap} {A : Nat → Prop} (h : stZ n d U H) (hA : noSt A H) (hq : ∀ a : Nat, a < H.size → ¬ A a → H1[a]? = H[a]?) : stZ n d U H1 := by
  obtain ⟨c, k, i, f, a, cell, e1, e2, e3, e4, e5, e6, e7, e8, e9, e10⟩ := h
  refine ⟨c, k, i, f, a, cell, e1, e2, e3, e4, ?_, e6, e7, e8, e9, e10⟩
  rw [hq a (Array.getElem?_eq_some_iff.mp e5).1 (fun z => by have := hA a cell z e5; rw [e6] at this; cases this)]
  exact e5
def ST (U : State) (H : Heap) : Prop := stZ "UNASSIGNED_STACK" Bundle.steD U H ∧ stZ "SUPPRESSED_SENTINEL" Bundle.listD U H
theorem ST.moved {u U : State} {H : Heap} (hvm : u.vm.Alike U.vm) (h : ST u H) : ST U H := ⟨h.1.moved hvm, h.2.moved hvm⟩
theorem ST.kept {U : State} {H H1 : Heap} {A : Nat → Prop} (h : ST U H) (hA : noSt A H) (hq : ∀ a : Nat, a < H.size → ¬ A a → H1[a]? = H[a]?) : ST U H1 := ⟨h.1.kept hA hq, h.2.kept hA hq⟩
/-- the words of the statics -/
def stw : List Cond := [.laysStatic Bundle.tN "UNASSIGNED_STACK" Bundle.steD, .isRef (.static Bundle.tN "UNASSIGNED_STACK" Bundle.steD), .laysStatic Bundle.tN "SUPPRESSED_SENTINEL" Bundle.listD, .isRef (.static Bundle.tN "SUPPRESSED_SENTINEL" Bundle.listD)]
def xNames : List String := ["java/lang/RuntimeException", "java/lang/Exception"]
abbrev xAtoms (ic : Nat) (cls : String) : Prop := ∀ w ∈ Bundle.ownAtoms "WearHours" ic cls xNames, w ∈ gt ∨ w ∈ nwt ∨ w ∈ stw
theorem xAtoms.at {ic : Nat} {cls : String} (h : xAtoms ic cls) {args : Array Value} {U : State} (hw : ∀ w ∈ gt, w.before args U = true) (hN : NW U) (hZ : ST U U.heap) : ∀ w ∈ Bundle.ownAtoms "WearHours" ic cls xNames, w.before args U = true := by
  intro w hm
  rcases h w hm with h1 | h1 | h1
  · exact hw w h1
  · have h2 := hN w h1
    have h3 := (List.mem_filter.mp h1).2
    cases w <;> first | exact va_Nw.use rfl h2 | (cases h3)
  · simp only [stw, List.mem_cons, List.not_mem_nil, or_false] at h1
    rcases h1 with rfl | rfl | rfl | rfl
    · exact hZ.1.to.1
    · exact hZ.1.to.2
    · exact hZ.2.to.1
    · exact hZ.2.to.2
section XThrow
variable {p : Program} {l : Launch} {e : Env} {R : Room} {s : State} {m : MethodId} {args : Array Value} {below : List Frame} {meth : Method} {c : Code} {H : Heap} {locs : List Loc} {cells slots : Nat} {Q : State → Prop}
/-- the same walk, told from where it stands -/
theorem x_here {T : State} (X : Stand p l e R s m args below meth c T locs cells slots) {R' : Room} (h1 : R'.frames ≤ R.frames) (h2 : R'.locals ≤ R.locals) (h3 : cells + R'.cells ≤ R.cells) (h4 : slots + R'.slots ≤ R.slots) :
    Stand p l e R' ((T.setVm s.vm).setFrames (.invoking m args :: below)) m args below meth c T [] 0 0 := by
  obtain ⟨g₀, hfr⟩ := X.frames_eq
  have hcur : T.cur < T.threads.size := State.cur_lt_of_frames hfr
  have hF : ((T.setVm s.vm).setFrames (.invoking m args :: below)).frames = .invoking m args :: below := State.frames_setFrames _ hcur
  have hlim : e.platform.stackLimits ((T.setVm s.vm).setFrames (.invoking m args :: below)).me = e.platform.stackLimits s.me := by rw [State.stackLimits_setFrames]; exact X.limits
  have hby : ((T.setVm s.vm).setFrames (.invoking m args :: below)).me.stackBytes = s.me.stackBytes := by rw [State.stackBytes_setFrames]; exact X.bytes
  have hloc : ((T.setVm s.vm).setFrames (.invoking m args :: below)).localsInUse = s.localsInUse := by
    rw [State.localsInUse_invoking hF (meth := meth) (c := c) X.method X.code, State.localsInUse_invoking X.frames X.method X.code]
  have hz := X.heapSize
  have hu := X.used
  refine { admits := X.admits, cas := X.cas, clock := X.clock, frames := hF, room := ?_, hears := X.hears, method := X.method, code := X.code, here := X.here, tail := X.tail, warmed := X.warmed, limits := ?_, bytes := ?_, same := ?_ }
  · have hr := X.room
    simp only [State.hasRoom, Bool.and_eq_true, decide_eq_true_eq, X.frames, List.length_cons] at hr
    simp only [State.hasRoom, Bool.and_eq_true, decide_eq_true_eq, hF, hlim, hby, hloc, List.length_cons]
    obtain ⟨⟨⟨⟨a1, a2, a3, a4, a5, a6⟩, a7⟩, a8⟩, a9⟩ := hr
    refine ⟨⟨⟨⟨by omega, by omega, by omega, by omega, by omega, a6⟩, ?_⟩, ?_⟩, X.book⟩
    · show T.heap.size + R'.cells ≤ _
      omega
    · show T.slotsUsed + R'.slots ≤ _
      omega
  · rw [hlim]; exact X.limits
  · rw [hby]; exact X.bytes
  · have hd : (T.heap.toList.drop T.heap.size) = [] := List.drop_eq_nil_of_le (Nat.le_of_eq Array.length_toList)
    refine ⟨?_, Nat.le_refl _, Nat.le_refl _, ?_, ?_, fun a c9 h9 => ⟨c9, h9, rfl, rfl, fun _ _ => rfl⟩⟩
    · obtain ⟨t, ht, -⟩ := State.frames_cons hfr
      show T.setVm s.vm = { ((T.setVm s.vm).setFrames (.invoking m args :: below)).setFrames (T.setVm s.vm).frames with heap := T.heap, slotsUsed := T.slotsUsed }
      have hself : (T.setVm s.vm).setFrames (T.setVm s.vm).frames = T.setVm s.vm := State.setFrames_self (s := T.setVm s.vm) ht
      rw [State.setFrames_setFrames, hself]
      rfl
    · show T.slotsUsed = T.slotsUsed + ((T.heap.toList.drop T.heap.size).map (·.slots.size)).sum
      rw [hd]; rfl
    · show ((T.heap.toList.drop T.heap.size).map (·.slots.size)).sum ≤ 0
      rw [hd]; exact Nat.le_refl _
variable {cc : ByteArray} {nL pc ik is ic mc ms : Nat} {rest : List Value} {A : Nat → Prop} {f : Option Value → State → Prop} {x : String → State → Prop} {ls : Array Slot} {cls text : String}
theorem x_throw (F : Fx p m c cc nL s args "WearHours") (hfl : l.flags = flags0) (hN : NW s) (hSR : SR s) (hZ : ST s s.heap) (hA : noSt A s.heap) (hS : va_S A s.heap H locs) (htab : c.exceptionTable.toList = tableOf []) (hlk : meth.locks = false)
    (hk : Cond.classLink "WearHours" ik cls ∈ gt) (hini : Cond.initialized cls ∈ gt) (hat : xAtoms ic cls) (hfit : Bundle.fit cls = true) (hstr : (is, text) ∈ strs) (hsz : ls.size = nL)
    (d0 : decode cc pc = .ok (.new ik, 3)) (d3 : decode cc (pc + 3) = .ok (.dup, 1)) (d4 : decode cc (pc + 4) = .ok (.ldc is, 2)) (d6 : decode cc (pc + 6) = .ok (.invokespecial ic, 3)) (d9 : decode cc (pc + 9) = .ok (.athrow, 1))
    (hRf : 6 ≤ R.frames) (hRl : (rest.map fun v => v.category).sum + 90 ≤ R.locals) (hRc : cells + 1 ≤ R.cells) (hRs : slots + 6 ≤ R.slots) (hc : cells + 1 ≤ mc) (hs : slots + 6 ≤ ms)
    (hx : ∀ t : State, s.WarmedH t.vm → H.size ≤ t.heap.size → (∀ q : Nat, q < H.size → t.heap[q]? = H[q]?) → x cls t) :
    W p l e R s m args below meth c H locs cells slots (xMQ below (QQ A f x) s mc ms A) (F0 m pc ls rest) := by
  intro T hT X
  obtain ⟨hx0, hb, hml, ho, hw⟩ := F
  have htr : e.platform.stackTraces = false := Launch.traces_off hfl X.admits
  have Y := x_here X (R' := { frames := R.frames, locals := R.locals, cells := 1, slots := 6 }) (Nat.le_refl _) (Nat.le_refl _) hRc hRs
  obtain ⟨s', hs'⟩ : ∃ z, z = (T.setVm s.vm).setFrames (.invoking m args :: below) := ⟨_, rfl⟩
  rw [← hs'] at Y
  have hvm : s'.vm = s.vm := by rw [hs']; rfl
  have hhp : s'.heap = H := by rw [hs']; exact hT
  have hW0 : s.WarmedH s'.vm := by rw [hvm]; exact State.WarmedH.refl s
  have hw' : ∀ w ∈ gt, w.before args s' = true := fun w h => word_at hW0 (gt_good (List.mem_filter.mp h).2) (hw w h)
  have hN' : NW s' := hN.warm hW0
  have hZ' : ST s' s'.heap := by rw [hhp]; exact (hZ.kept hA hS.2.1).moved hW0.alike
  obtain ⟨sa, hsa⟩ := hSR.warm hW0 (is, text) hstr
  have ho' : s'.vm.findClass "WearHours" = some m.cls := by rw [hvm]; exact ho
  have h := hat.at hw' hN' hZ'
  have hins : (Cond.instantiable cls 6).before args s' = true := h _ (by simp [Bundle.ownAtoms])
  obtain ⟨vm₁, cX, kX, hfX, hkX, -, -, X₁, st1⟩ := Y.newCold hx0 (own := "WearHours") (C := cls) (index := ik) (n := 6) ho' (hw' _ hk) hins (hw' _ hini)
    (g := F0 m pc ls rest) rfl (by rw [hb]; exact d0) (Nat.le_refl _) (Nat.le_refl _)
  generalize hT1 : (T.setVm vm₁).pushCell { cls := cX, slots := kX.instanceTypes.map defaultValue, vm := .none } = T1 at X₁ st1
  have hcell : T1.heap[T.heap.size]? = some (freshCell cX kX) := by rw [← hT1]; exact State.heap_pushCell_size _ _
  have d3' : decode c.code (pc + 3) = .ok (.dup, 1) := by rw [hb]; exact d3
  have d4' : decode c.code (pc + 4) = .ok (.ldc is, 2) := by rw [hb]; exact d4
  have hcat : (Value.ref T.heap.size).category = 1 := rfl
  obtain ⟨U, hsteps, hrun, hend, hWU, hsame, ce, hce, hO⟩ := X₁.ctorThrowS hx0 htr (own := "WearHours") (cls := cls) (names := xNames) (ic := ic) ho' hfit (by decide) h (fun z hz => nomatch hz) hfX hkX hcell (by rw [hhp, hT]; exact Nat.le_refl _) (msg := .ref sa) rfl
    (g := F0 m (pc + 6) ls (.ref sa :: .ref T.heap.size :: .ref T.heap.size :: rest)) rfl (hsz.trans hml.symm) rfl rfl (rest := rest) rfl
    (by rw [hb]; exact d6) (by rw [hb]; exact d9) (by rw [htab]; exact fun z hz => nomatch hz) (by show 2 + 3 < R.frames; omega) (by show 2 * 0 + ((Value.ref T.heap.size :: rest).map fun v => v.category).sum + (13 * (2 + 1) + 42) ≤ R.locals; simp only [List.map_cons, List.sum_cons, hcat]; omega) hlk
  have hWs : s.WarmedH U.vm := State.WarmedH.trans hW0 hWU
  obtain ⟨e1, e2, e3, e4, e5, e6⟩ := id hsame
  have hz : H.size ≤ U.heap.size := by rw [← hhp]; exact e2
  have hk' : ∀ q : Nat, q < H.size → U.heap[q]? = H[q]? := by
    intro q hq
    rw [← hhp] at hq ⊢
    obtain ⟨c', g1, g2, g3, g4⟩ := e6 q s'.heap[q] (Array.getElem?_eq_getElem hq)
    have g1' : U.heap[q]? = some c' := g1
    rw [g1', Array.getElem?_eq_getElem hq, g2]
    have g5 : c'.slots = s'.heap[q].slots := Array.ext_getElem? (fun i => g4 i (fun z => nomatch z))
    rw [g5]
  have hall : s.sameButNew ({ U with vm := s.vm } : State) locs mc ms := by
    subst hs'
    rw [State.setFrames_setFrames] at e1
    have h2 : (T.setVm s.vm).sameButNew ({ U with vm := s.vm } : State) [] (0 + 1) (0 + 6) := ⟨e1, e2, e3, e4, e5, e6⟩
    have h3 := X.same.trans h2
    rw [List.append_nil] at h3
    exact h3.mono hc hs
  refine ⟨U, ?_, .threw T.heap.size, hrun, hend, ⟨⟨Nat.le_trans hS.1 hz, fun q h1 h2 => ?_⟩, Or.inr ⟨_, cls, ce, rfl, hce, hO.vm, ?_, hx U hWs hz hk'⟩⟩, locs, ⟨hWs, hall⟩, hS.2.2⟩
  · refine st1 _ ?_
    show Steps p.tables e below (T1.setTop (F0 m (pc + 3) ls (.ref T.heap.size :: rest))) _
    jvm_step X₁.here [X₁.here.top, hx0, d3', Value.category]
    exact X₁.ldcString hx0 (own := "WearHours") (text := text) (index := is) (a := sa) ho' hsa.1 hsa.2 (g := F0 m (pc + 4) ls (.ref T.heap.size :: .ref T.heap.size :: rest)) rfl d4' _ hsteps
  · rw [hk' q (Nat.lt_of_lt_of_le h1 hS.1)]
    exact hS.2.1 q h1 h2
  · rw [hWU.alike.findClass]
    exact hO.cls
end XThrow
end
section
/-! the words of the tables, a row each: kw_ are words of gt, nw_ words of nwt (printed by program) -/
theorem kw_0 : (Jvm.Cond.selects "WearHours$Planner" ({ cls := "WearHours$Planner", name := "freeAll", desc := "()V" } : Jvm.MethodName) ({ cls := "WearHours$Planner", name := "freeAll", desc := "()V" } : Jvm.MethodName)) ∈ gt := gtn (tb0 0 rfl) rfl
theorem kw_1 : (Jvm.Cond.selects "WearHours$Planner" ({ cls := "WearHours$Planner", name := "sumFloors", desc := "()V" } : Jvm.MethodName) ({ cls := "WearHours$Planner", name := "sumFloors", desc := "()V" } : Jvm.MethodName)) ∈ gt := gtn (tb0 1 rfl) rfl
theorem kw_2 : (Jvm.Cond.selects "WearHours$Planner" ({ cls := "WearHours$Planner", name := "firstBeginning", desc := "(LWearHours$Repair;I)I" } : Jvm.MethodName) ({ cls := "WearHours$Planner", name := "firstBeginning", desc := "(LWearHours$Repair;I)I" } : Jvm.MethodName)) ∈ gt := gtn (tb0 2 rfl) rfl
theorem kw_3 : (Jvm.Cond.selects "WearHours$Planner" ({ cls := "WearHours$Planner", name := "beginning", desc := "(LWearHours$Repair;II)I" } : Jvm.MethodName) ({ cls := "WearHours$Planner", name := "beginning", desc := "(LWearHours$Repair;II)I" } : Jvm.MethodName)) ∈ gt := gtn (tb0 3 rfl) rfl
theorem kw_4 : (Jvm.Cond.selects "WearHours$Planner" ({ cls := "WearHours$Planner", name := "leastCost", desc := "(II)I" } : Jvm.MethodName) ({ cls := "WearHours$Planner", name := "leastCost", desc := "(II)I" } : Jvm.MethodName)) ∈ gt := gtn (tb0 4 rfl) rfl
theorem kw_5 : (Jvm.Cond.selects "WearHours$Planner" ({ cls := "WearHours$Planner", name := "costBy", desc := "(IIII)I" } : Jvm.MethodName) ({ cls := "WearHours$Planner", name := "costBy", desc := "(IIII)I" } : Jvm.MethodName)) ∈ gt := gtn (tb0 5 rfl) rfl
theorem kw_6 : (Jvm.Cond.selects "WearHours$Planner" ({ cls := "WearHours$Planner", name := "occupy", desc := "(LWearHours$Repair;II)V" } : Jvm.MethodName) ({ cls := "WearHours$Planner", name := "occupy", desc := "(LWearHours$Repair;II)V" } : Jvm.MethodName)) ∈ gt := gtn (tb0 6 rfl) rfl
theorem kw_7 : (Jvm.Cond.selects "WearHours$Planner" ({ cls := "WearHours$Planner", name := "settle", desc := "(II)I" } : Jvm.MethodName) ({ cls := "WearHours$Planner", name := "settle", desc := "(II)I" } : Jvm.MethodName)) ∈ gt := gtn (tb0 7 rfl) rfl
theorem kw_8 : (Jvm.Cond.selects "java/lang/Throwable" ({ cls := "java/lang/Throwable", name := "fillInStackTrace", desc := "(I)Ljava/lang/Throwable;" } : Jvm.MethodName) ({ cls := "java/lang/Throwable", name := "fillInStackTrace", desc := "(I)Ljava/lang/Throwable;" } : Jvm.MethodName)) ∈ gt := gtn (tb0 8 rfl) rfl
theorem kw_9 : (Jvm.Cond.selects "WearHours" ({ cls := "WearHours", name := "knownThing", desc := "(I)LWearHours$Thing;" } : Jvm.MethodName) ({ cls := "WearHours", name := "knownThing", desc := "(I)LWearHours$Thing;" } : Jvm.MethodName)) ∈ gt := gtn (tb0 9 rfl) rfl
theorem kw_10 : (Jvm.Cond.selects "WearHours$Thing" ({ cls := "WearHours$Thing", name := "keep", desc := "(I)V" } : Jvm.MethodName) ({ cls := "WearHours$Thing", name := "keep", desc := "(I)V" } : Jvm.MethodName)) ∈ gt := gtn (tb0 10 rfl) rfl
theorem kw_11 : (Jvm.Cond.selects "WearHours" ({ cls := "WearHours", name := "drawnNumber", desc := "(J)J" } : Jvm.MethodName) ({ cls := "WearHours", name := "drawnNumber", desc := "(J)J" } : Jvm.MethodName)) ∈ gt := gtn (tb0 11 rfl) rfl
theorem kw_12 : (Jvm.Cond.selects "WearHours" ({ cls := "WearHours", name := "checkPlan", desc := "()V" } : Jvm.MethodName) ({ cls := "WearHours", name := "checkPlan", desc := "()V" } : Jvm.MethodName)) ∈ gt := gtn (tb0 12 rfl) rfl
theorem kw_13 : (Jvm.Cond.selects "WearHoursModel" ({ cls := "WearHoursModel", name := "goes", desc := "(ZZZ)Z" } : Jvm.MethodName) ({ cls := "WearHoursModel", name := "goes", desc := "(ZZZ)Z" } : Jvm.MethodName)) ∈ gt := gtn (tb0 13 rfl) rfl
theorem kw_14 : (Jvm.Cond.selects "WearHoursModel" ({ cls := "WearHoursModel", name := "isThing", desc := "(I)Z" } : Jvm.MethodName) ({ cls := "WearHoursModel", name := "isThing", desc := "(I)Z" } : Jvm.MethodName)) ∈ gt := gtn (tb0 14 rfl) rfl
theorem kw_15 : (Jvm.Cond.selects "WearHoursModel" ({ cls := "WearHoursModel", name := "isBarred", desc := "(I)Z" } : Jvm.MethodName) ({ cls := "WearHoursModel", name := "isBarred", desc := "(I)Z" } : Jvm.MethodName)) ∈ gt := gtn (tb0 15 rfl) rfl
theorem kw_16 : (Jvm.Cond.selects "WearHoursModel" ({ cls := "WearHoursModel", name := "keep", desc := "(II)V" } : Jvm.MethodName) ({ cls := "WearHoursModel", name := "keep", desc := "(II)V" } : Jvm.MethodName)) ∈ gt := gtn (tb0 16 rfl) rfl
theorem kw_17 : (Jvm.Cond.selects "WearHoursModel" ({ cls := "WearHoursModel", name := "number", desc := "(I)J" } : Jvm.MethodName) ({ cls := "WearHoursModel", name := "number", desc := "(I)J" } : Jvm.MethodName)) ∈ gt := gtn (tb0 17 rfl) rfl
theorem kw_18 : (Jvm.Cond.selects "WearHoursModel" ({ cls := "WearHoursModel", name := "best", desc := "()V" } : Jvm.MethodName) ({ cls := "WearHoursModel", name := "best", desc := "()V" } : Jvm.MethodName)) ∈ gt := gtn (tb0 18 rfl) rfl
theorem kw_19 : (Jvm.Cond.selects "WearHoursModel" ({ cls := "WearHoursModel", name := "begins", desc := "(III)I" } : Jvm.MethodName) ({ cls := "WearHoursModel", name := "begins", desc := "(III)I" } : Jvm.MethodName)) ∈ gt := gtn (tb0 19 rfl) rfl
theorem kw_20 : (Jvm.Cond.selects "WearHoursModel" ({ cls := "WearHoursModel", name := "take", desc := "(I)V" } : Jvm.MethodName) ({ cls := "WearHoursModel", name := "take", desc := "(I)V" } : Jvm.MethodName)) ∈ gt := gtn (tb0 20 rfl) rfl
theorem kw_21 : (Jvm.Cond.initialized "WearHoursLaw") ∈ gt := gtn (tb1 0 rfl) rfl
theorem kw_22 : (Jvm.Cond.initialized "WearHours") ∈ gt := gtn (tb1 1 rfl) rfl
theorem kw_23 : (Jvm.Cond.initialized "WearHours$Thing") ∈ gt := gtn (tb1 2 rfl) rfl
theorem kw_24 : (Jvm.Cond.initialized "WearHours$Week") ∈ gt := gtn (tb1 3 rfl) rfl
theorem kw_25 : (Jvm.Cond.initialized "WearHours$Gap") ∈ gt := gtn (tb1 4 rfl) rfl
theorem kw_26 : (Jvm.Cond.initialized "WearHours$Person") ∈ gt := gtn (tb1 5 rfl) rfl
theorem kw_27 : (Jvm.Cond.initialized "WearHours$Repair") ∈ gt := gtn (tb1 6 rfl) rfl
theorem kw_28 : (Jvm.Cond.initialized "WearHours$Planner") ∈ gt := gtn (tb1 7 rfl) rfl
theorem kw_29 : (Jvm.Cond.initialized "WearHoursModel") ∈ gt := gtn (tb1 8 rfl) rfl
theorem kw_30 : (Jvm.Cond.initialized "java/lang/Throwable") ∈ gt := gtn (tb1 9 rfl) rfl
theorem kw_31 : (Jvm.Cond.initialized "java/lang/Exception") ∈ gt := gtn (tb1 10 rfl) rfl
theorem kw_32 : (Jvm.Cond.initialized "java/lang/RuntimeException") ∈ gt := gtn (tb1 11 rfl) rfl
theorem kw_33 : (Jvm.Cond.initialized "java/lang/IllegalArgumentException") ∈ gt := gtn (tb1 12 rfl) rfl
theorem kw_34 : (Jvm.Cond.initialized "java/lang/UnsupportedOperationException") ∈ gt := gtn (tb1 13 rfl) rfl
theorem kw_35 : (Jvm.Cond.initialized "java/lang/IndexOutOfBoundsException") ∈ gt := gtn (tb1 14 rfl) rfl
theorem kw_36 : (Jvm.Cond.initialized "java/lang/IllegalStateException") ∈ gt := gtn (tb1 15 rfl) rfl
theorem kw_37 : (Jvm.Cond.initialized "java/lang/Math") ∈ gt := gtn (tb1 16 rfl) rfl
theorem kw_38 : (Jvm.Cond.classLink "WearHoursLaw" (8 : Nat) "WearHours") ∈ gt := gtn (tb1 17 rfl) rfl
theorem kw_39 : (Jvm.Cond.instantiable "WearHours" (6 : Nat)) ∈ gt := gtn (tb1 18 rfl) rfl
theorem kw_40 : (Jvm.Cond.methodLink "WearHoursLaw" (65 : Nat) ({ cls := "WearHours", name := "<init>", desc := "()V" } : Jvm.MethodName)) ∈ gt := gtn (tb1 19 rfl) rfl
theorem kw_41 : (Jvm.Cond.instanceMethod ({ cls := "WearHours", name := "<init>", desc := "()V" } : Jvm.MethodName)) ∈ gt := gtn (tb1 20 rfl) rfl
theorem kw_42 : (Jvm.Cond.code ({ cls := "WearHours", name := "<init>", desc := "()V" } : Jvm.MethodName) prog_1_method_1_code (2 : Nat) (Option.none : Option Jvm.ClassFile.FieldType)) ∈ gt := gtn (tb1 21 rfl) rfl
theorem kw_43 : (Jvm.Cond.methodLink "WearHours" (1 : Nat) ({ cls := "java/lang/Object", name := "<init>", desc := "()V" } : Jvm.MethodName)) ∈ gt := gtn (tb1 22 rfl) rfl
theorem kw_44 : (Jvm.Cond.instanceMethod ({ cls := "java/lang/Object", name := "<init>", desc := "()V" } : Jvm.MethodName)) ∈ gt := gtn (tb1 23 rfl) rfl
theorem kw_45 : (Jvm.Cond.code ({ cls := "java/lang/Object", name := "<init>", desc := "()V" } : Jvm.MethodName) object_method_1_code (1 : Nat) (Option.none : Option Jvm.ClassFile.FieldType)) ∈ gt := gtn (tb1 24 rfl) rfl
theorem kw_46 : (Jvm.Cond.classLink "WearHours" (13 : Nat) "WearHours$Thing") ∈ gt := gtn (tb1 25 rfl) rfl
theorem kw_48 : (Jvm.Cond.instantiable "WearHours$Thing" (5 : Nat)) ∈ gt := gtn (tb1 27 rfl) rfl
theorem kw_49 : (Jvm.Cond.methodLink "WearHours" (19 : Nat) ({ cls := "WearHours$Thing", name := "<init>", desc := "()V" } : Jvm.MethodName)) ∈ gt := gtn (tb1 28 rfl) rfl
theorem kw_50 : (Jvm.Cond.instanceMethod ({ cls := "WearHours$Thing", name := "<init>", desc := "()V" } : Jvm.MethodName)) ∈ gt := gtn (tb1 29 rfl) rfl
theorem kw_51 : (Jvm.Cond.code ({ cls := "WearHours$Thing", name := "<init>", desc := "()V" } : Jvm.MethodName) prog_6_method_1_code (1 : Nat) (Option.none : Option Jvm.ClassFile.FieldType)) ∈ gt := gtn (tb1 30 rfl) rfl
theorem kw_52 : (Jvm.Cond.methodLink "WearHours$Thing" (1 : Nat) ({ cls := "java/lang/Object", name := "<init>", desc := "()V" } : Jvm.MethodName)) ∈ gt := gtn (tb1 31 rfl) rfl
theorem kw_53 : (Jvm.Cond.fieldLink "WearHours$Thing" (13 : Nat) "WearHours$Thing" "life" "I") ∈ gt := gtn (tb1 32 rfl) rfl
theorem nw_54 : (Jvm.Cond.fieldLinkNest "WearHours" (104 : Nat) "WearHours$Thing" "life" "I" "WearHours") ∈ nwt := nwm (tb1 33 rfl) rfl
theorem kw_55 : (Jvm.Cond.fieldLink "WearHours$Thing" (17 : Nat) "WearHours$Thing" "bound" "I") ∈ gt := gtn (tb1 34 rfl) rfl
theorem kw_56 : (Jvm.Cond.fieldLink "WearHours$Thing" (24 : Nat) "WearHours$Thing" "sum" "I") ∈ gt := gtn (tb1 35 rfl) rfl
theorem nw_57 : (Jvm.Cond.fieldLinkNest "WearHours" (84 : Nat) "WearHours$Thing" "sum" "I" "WearHours") ∈ nwt := nwm (tb1 36 rfl) rfl
theorem kw_58 : (Jvm.Cond.fieldLink "WearHours$Thing" (20 : Nat) "WearHours$Thing" "open" "Z") ∈ gt := gtn (tb1 37 rfl) rfl
theorem nw_59 : (Jvm.Cond.fieldLinkNest "WearHours" (113 : Nat) "WearHours$Thing" "open" "Z" "WearHours") ∈ nwt := nwm (tb1 38 rfl) rfl
theorem kw_60 : (Jvm.Cond.fieldLink "WearHours$Thing" (9 : Nat) "WearHours$Thing" "changes" "[I") ∈ gt := gtn (tb1 39 rfl) rfl
theorem kw_61 : (Jvm.Cond.lays "WearHours$Thing" "WearHours$Thing" "life" "I") ∈ gt := gtn (tb1 40 rfl) rfl
theorem kw_63 : (Jvm.Cond.lays "WearHours$Thing" "WearHours$Thing" "bound" "I") ∈ gt := gtn (tb1 42 rfl) rfl
theorem kw_65 : (Jvm.Cond.lays "WearHours$Thing" "WearHours$Thing" "sum" "I") ∈ gt := gtn (tb1 44 rfl) rfl
theorem kw_67 : (Jvm.Cond.lays "WearHours$Thing" "WearHours$Thing" "open" "Z") ∈ gt := gtn (tb1 46 rfl) rfl
theorem kw_69 : (Jvm.Cond.laysFinal "WearHours$Thing" "WearHours$Thing" "changes" "[I") ∈ gt := gtn (tb1 48 rfl) rfl
theorem kw_72 : (Jvm.Cond.arrayClass Jvm.ClassFile.FieldType.int) ∈ gt := gtn (tb1 51 rfl) rfl
theorem kw_73 : (Jvm.Cond.classLink "WearHours" (24 : Nat) "WearHours$Week") ∈ gt := gtn (tb1 52 rfl) rfl
theorem kw_74 : (Jvm.Cond.instantiable "WearHours$Week" (8 : Nat)) ∈ gt := gtn (tb1 53 rfl) rfl
theorem kw_75 : (Jvm.Cond.methodLink "WearHours" (26 : Nat) ({ cls := "WearHours$Week", name := "<init>", desc := "()V" } : Jvm.MethodName)) ∈ gt := gtn (tb1 54 rfl) rfl
theorem kw_76 : (Jvm.Cond.instanceMethod ({ cls := "WearHours$Week", name := "<init>", desc := "()V" } : Jvm.MethodName)) ∈ gt := gtn (tb1 55 rfl) rfl
theorem kw_77 : (Jvm.Cond.code ({ cls := "WearHours$Week", name := "<init>", desc := "()V" } : Jvm.MethodName) prog_7_method_1_code (2 : Nat) (Option.none : Option Jvm.ClassFile.FieldType)) ∈ gt := gtn (tb1 56 rfl) rfl
theorem kw_78 : (Jvm.Cond.methodLink "WearHours$Week" (1 : Nat) ({ cls := "java/lang/Object", name := "<init>", desc := "()V" } : Jvm.MethodName)) ∈ gt := gtn (tb1 57 rfl) rfl
theorem kw_79 : (Jvm.Cond.classLink "WearHours$Week" (9 : Nat) "WearHours$Gap") ∈ gt := gtn (tb1 58 rfl) rfl
theorem kw_81 : (Jvm.Cond.instantiable "WearHours$Gap" (2 : Nat)) ∈ gt := gtn (tb1 60 rfl) rfl
theorem nw_82 : (Jvm.Cond.methodLinkNest "WearHours$Week" (15 : Nat) ({ cls := "WearHours$Gap", name := "<init>", desc := "()V" } : Jvm.MethodName) "WearHours") ∈ nwt := nwm (tb1 61 rfl) rfl
theorem kw_83 : (Jvm.Cond.instanceMethod ({ cls := "WearHours$Gap", name := "<init>", desc := "()V" } : Jvm.MethodName)) ∈ gt := gtn (tb1 62 rfl) rfl
theorem kw_84 : (Jvm.Cond.code ({ cls := "WearHours$Gap", name := "<init>", desc := "()V" } : Jvm.MethodName) prog_2_method_1_code (1 : Nat) (Option.none : Option Jvm.ClassFile.FieldType)) ∈ gt := gtn (tb1 63 rfl) rfl
theorem kw_85 : (Jvm.Cond.methodLink "WearHours$Gap" (1 : Nat) ({ cls := "java/lang/Object", name := "<init>", desc := "()V" } : Jvm.MethodName)) ∈ gt := gtn (tb1 64 rfl) rfl
theorem nw_86 : (Jvm.Cond.fieldLinkNest "WearHours$Week" (40 : Nat) "WearHours$Gap" "from" "I" "WearHours") ∈ nwt := nwm (tb1 65 rfl) rfl
theorem nw_87 : (Jvm.Cond.fieldLinkNest "WearHours$Planner" (129 : Nat) "WearHours$Gap" "from" "I" "WearHours") ∈ nwt := nwm (tb1 66 rfl) rfl
theorem nw_88 : (Jvm.Cond.fieldLinkNest "WearHours$Week" (43 : Nat) "WearHours$Gap" "to" "I" "WearHours") ∈ nwt := nwm (tb1 67 rfl) rfl
theorem nw_89 : (Jvm.Cond.fieldLinkNest "WearHours$Planner" (138 : Nat) "WearHours$Gap" "to" "I" "WearHours") ∈ nwt := nwm (tb1 68 rfl) rfl
theorem kw_90 : (Jvm.Cond.lays "WearHours$Gap" "WearHours$Gap" "from" "I") ∈ gt := gtn (tb1 69 rfl) rfl
theorem kw_92 : (Jvm.Cond.lays "WearHours$Gap" "WearHours$Gap" "to" "I") ∈ gt := gtn (tb1 71 rfl) rfl
theorem kw_95 : (Jvm.Cond.classLink "WearHours$Week" (16 : Nat) "WearHours$Person") ∈ gt := gtn (tb1 74 rfl) rfl
theorem kw_97 : (Jvm.Cond.instantiable "WearHours$Person" (3 : Nat)) ∈ gt := gtn (tb1 76 rfl) rfl
theorem nw_98 : (Jvm.Cond.methodLinkNest "WearHours$Week" (22 : Nat) ({ cls := "WearHours$Person", name := "<init>", desc := "()V" } : Jvm.MethodName) "WearHours") ∈ nwt := nwm (tb1 77 rfl) rfl
theorem kw_99 : (Jvm.Cond.instanceMethod ({ cls := "WearHours$Person", name := "<init>", desc := "()V" } : Jvm.MethodName)) ∈ gt := gtn (tb1 78 rfl) rfl
theorem kw_100 : (Jvm.Cond.code ({ cls := "WearHours$Person", name := "<init>", desc := "()V" } : Jvm.MethodName) prog_3_method_1_code (1 : Nat) (Option.none : Option Jvm.ClassFile.FieldType)) ∈ gt := gtn (tb1 79 rfl) rfl
theorem kw_101 : (Jvm.Cond.methodLink "WearHours$Person" (1 : Nat) ({ cls := "java/lang/Object", name := "<init>", desc := "()V" } : Jvm.MethodName)) ∈ gt := gtn (tb1 80 rfl) rfl
theorem nw_102 : (Jvm.Cond.fieldLinkNest "WearHours$Week" (49 : Nat) "WearHours$Person" "skill" "I" "WearHours") ∈ nwt := nwm (tb1 81 rfl) rfl
theorem nw_103 : (Jvm.Cond.fieldLinkNest "WearHours$Planner" (119 : Nat) "WearHours$Person" "skill" "I" "WearHours") ∈ nwt := nwm (tb1 82 rfl) rfl
theorem nw_104 : (Jvm.Cond.fieldLinkNest "WearHours$Week" (52 : Nat) "WearHours$Person" "from" "I" "WearHours") ∈ nwt := nwm (tb1 83 rfl) rfl
theorem nw_105 : (Jvm.Cond.fieldLinkNest "WearHours$Planner" (134 : Nat) "WearHours$Person" "from" "I" "WearHours") ∈ nwt := nwm (tb1 84 rfl) rfl
theorem nw_106 : (Jvm.Cond.fieldLinkNest "WearHours$Week" (53 : Nat) "WearHours$Person" "to" "I" "WearHours") ∈ nwt := nwm (tb1 85 rfl) rfl
theorem nw_107 : (Jvm.Cond.fieldLinkNest "WearHours$Planner" (141 : Nat) "WearHours$Person" "to" "I" "WearHours") ∈ nwt := nwm (tb1 86 rfl) rfl
theorem kw_108 : (Jvm.Cond.lays "WearHours$Person" "WearHours$Person" "skill" "I") ∈ gt := gtn (tb1 87 rfl) rfl
theorem kw_110 : (Jvm.Cond.lays "WearHours$Person" "WearHours$Person" "from" "I") ∈ gt := gtn (tb1 89 rfl) rfl
theorem kw_112 : (Jvm.Cond.lays "WearHours$Person" "WearHours$Person" "to" "I") ∈ gt := gtn (tb1 91 rfl) rfl
theorem kw_115 : (Jvm.Cond.classLink "WearHours$Week" (23 : Nat) "WearHours$Repair") ∈ gt := gtn (tb1 94 rfl) rfl
theorem kw_117 : (Jvm.Cond.instantiable "WearHours$Repair" (7 : Nat)) ∈ gt := gtn (tb1 96 rfl) rfl
theorem nw_118 : (Jvm.Cond.methodLinkNest "WearHours$Week" (29 : Nat) ({ cls := "WearHours$Repair", name := "<init>", desc := "()V" } : Jvm.MethodName) "WearHours") ∈ nwt := nwm (tb1 97 rfl) rfl
theorem kw_119 : (Jvm.Cond.instanceMethod ({ cls := "WearHours$Repair", name := "<init>", desc := "()V" } : Jvm.MethodName)) ∈ gt := gtn (tb1 98 rfl) rfl
theorem kw_120 : (Jvm.Cond.code ({ cls := "WearHours$Repair", name := "<init>", desc := "()V" } : Jvm.MethodName) prog_5_method_1_code (1 : Nat) (Option.none : Option Jvm.ClassFile.FieldType)) ∈ gt := gtn (tb1 99 rfl) rfl
theorem kw_121 : (Jvm.Cond.methodLink "WearHours$Repair" (1 : Nat) ({ cls := "java/lang/Object", name := "<init>", desc := "()V" } : Jvm.MethodName)) ∈ gt := gtn (tb1 100 rfl) rfl
theorem nw_122 : (Jvm.Cond.fieldLinkNest "WearHours$Week" (57 : Nat) "WearHours$Repair" "thing" "I" "WearHours") ∈ nwt := nwm (tb1 101 rfl) rfl
theorem nw_123 : (Jvm.Cond.fieldLinkNest "WearHours$Planner" (106 : Nat) "WearHours$Repair" "thing" "I" "WearHours") ∈ nwt := nwm (tb1 102 rfl) rfl
theorem nw_124 : (Jvm.Cond.fieldLinkNest "WearHours" (215 : Nat) "WearHours$Repair" "thing" "I" "WearHours") ∈ nwt := nwm (tb1 103 rfl) rfl
theorem nw_125 : (Jvm.Cond.fieldLinkNest "WearHours$Week" (60 : Nat) "WearHours$Repair" "hours" "I" "WearHours") ∈ nwt := nwm (tb1 104 rfl) rfl
theorem nw_126 : (Jvm.Cond.fieldLinkNest "WearHours$Planner" (109 : Nat) "WearHours$Repair" "hours" "I" "WearHours") ∈ nwt := nwm (tb1 105 rfl) rfl
theorem nw_127 : (Jvm.Cond.fieldLinkNest "WearHours$Week" (63 : Nat) "WearHours$Repair" "skill" "I" "WearHours") ∈ nwt := nwm (tb1 106 rfl) rfl
theorem nw_128 : (Jvm.Cond.fieldLinkNest "WearHours$Planner" (124 : Nat) "WearHours$Repair" "skill" "I" "WearHours") ∈ nwt := nwm (tb1 107 rfl) rfl
theorem nw_129 : (Jvm.Cond.fieldLinkNest "WearHours" (212 : Nat) "WearHours$Repair" "skill" "I" "WearHours") ∈ nwt := nwm (tb1 108 rfl) rfl
theorem nw_130 : (Jvm.Cond.fieldLinkNest "WearHours$Week" (64 : Nat) "WearHours$Repair" "waiting" "I" "WearHours") ∈ nwt := nwm (tb1 109 rfl) rfl
theorem nw_131 : (Jvm.Cond.fieldLinkNest "WearHours$Planner" (76 : Nat) "WearHours$Repair" "waiting" "I" "WearHours") ∈ nwt := nwm (tb1 110 rfl) rfl
theorem kw_132 : (Jvm.Cond.fieldLink "WearHours$Repair" (7 : Nat) "WearHours$Repair" "hour" "I") ∈ gt := gtn (tb1 111 rfl) rfl
theorem nw_133 : (Jvm.Cond.fieldLinkNest "WearHours" (195 : Nat) "WearHours$Repair" "hour" "I" "WearHours") ∈ nwt := nwm (tb1 112 rfl) rfl
theorem kw_134 : (Jvm.Cond.fieldLink "WearHours$Repair" (13 : Nat) "WearHours$Repair" "person" "I") ∈ gt := gtn (tb1 113 rfl) rfl
theorem nw_135 : (Jvm.Cond.fieldLinkNest "WearHours" (200 : Nat) "WearHours$Repair" "person" "I" "WearHours") ∈ nwt := nwm (tb1 114 rfl) rfl
theorem kw_136 : (Jvm.Cond.fieldLink "WearHours$Repair" (16 : Nat) "WearHours$Repair" "gap" "I") ∈ gt := gtn (tb1 115 rfl) rfl
theorem nw_137 : (Jvm.Cond.fieldLinkNest "WearHours" (203 : Nat) "WearHours$Repair" "gap" "I" "WearHours") ∈ nwt := nwm (tb1 116 rfl) rfl
theorem kw_138 : (Jvm.Cond.lays "WearHours$Repair" "WearHours$Repair" "thing" "I") ∈ gt := gtn (tb1 117 rfl) rfl
theorem kw_140 : (Jvm.Cond.lays "WearHours$Repair" "WearHours$Repair" "hours" "I") ∈ gt := gtn (tb1 119 rfl) rfl
theorem kw_142 : (Jvm.Cond.lays "WearHours$Repair" "WearHours$Repair" "skill" "I") ∈ gt := gtn (tb1 121 rfl) rfl
theorem kw_144 : (Jvm.Cond.lays "WearHours$Repair" "WearHours$Repair" "waiting" "I") ∈ gt := gtn (tb1 123 rfl) rfl
theorem kw_146 : (Jvm.Cond.lays "WearHours$Repair" "WearHours$Repair" "hour" "I") ∈ gt := gtn (tb1 125 rfl) rfl
theorem kw_148 : (Jvm.Cond.lays "WearHours$Repair" "WearHours$Repair" "person" "I") ∈ gt := gtn (tb1 127 rfl) rfl
theorem kw_150 : (Jvm.Cond.lays "WearHours$Repair" "WearHours$Repair" "gap" "I") ∈ gt := gtn (tb1 129 rfl) rfl
theorem kw_153 : (Jvm.Cond.fieldLink "WearHours$Week" (11 : Nat) "WearHours$Week" "gaps" "[LWearHours$Gap;") ∈ gt := gtn (tb1 132 rfl) rfl
theorem nw_154 : (Jvm.Cond.fieldLinkNest "WearHours$Planner" (125 : Nat) "WearHours$Week" "gaps" "[LWearHours$Gap;" "WearHours") ∈ nwt := nwm (tb1 133 rfl) rfl
theorem kw_155 : (Jvm.Cond.fieldLink "WearHours$Week" (37 : Nat) "WearHours$Week" "gapCount" "I") ∈ gt := gtn (tb1 134 rfl) rfl
theorem nw_156 : (Jvm.Cond.fieldLinkNest "WearHours$Planner" (87 : Nat) "WearHours$Week" "gapCount" "I" "WearHours") ∈ nwt := nwm (tb1 135 rfl) rfl
theorem nw_157 : (Jvm.Cond.fieldLinkNest "WearHours" (135 : Nat) "WearHours$Week" "gapCount" "I" "WearHours") ∈ nwt := nwm (tb1 136 rfl) rfl
theorem kw_158 : (Jvm.Cond.fieldLink "WearHours$Week" (18 : Nat) "WearHours$Week" "persons" "[LWearHours$Person;") ∈ gt := gtn (tb1 137 rfl) rfl
theorem nw_159 : (Jvm.Cond.fieldLinkNest "WearHours$Planner" (115 : Nat) "WearHours$Week" "persons" "[LWearHours$Person;" "WearHours") ∈ nwt := nwm (tb1 138 rfl) rfl
theorem kw_160 : (Jvm.Cond.fieldLink "WearHours$Week" (46 : Nat) "WearHours$Week" "personCount" "I") ∈ gt := gtn (tb1 139 rfl) rfl
theorem nw_161 : (Jvm.Cond.fieldLinkNest "WearHours$Planner" (69 : Nat) "WearHours$Week" "personCount" "I" "WearHours") ∈ nwt := nwm (tb1 140 rfl) rfl
theorem nw_162 : (Jvm.Cond.fieldLinkNest "WearHours" (149 : Nat) "WearHours$Week" "personCount" "I" "WearHours") ∈ nwt := nwm (tb1 141 rfl) rfl
theorem kw_163 : (Jvm.Cond.fieldLink "WearHours$Week" (25 : Nat) "WearHours$Week" "repairs" "[LWearHours$Repair;") ∈ gt := gtn (tb1 142 rfl) rfl
theorem nw_164 : (Jvm.Cond.fieldLinkNest "WearHours$Planner" (55 : Nat) "WearHours$Week" "repairs" "[LWearHours$Repair;" "WearHours") ∈ nwt := nwm (tb1 143 rfl) rfl
theorem nw_165 : (Jvm.Cond.fieldLinkNest "WearHours" (191 : Nat) "WearHours$Week" "repairs" "[LWearHours$Repair;" "WearHours") ∈ nwt := nwm (tb1 144 rfl) rfl
theorem nw_166 : (Jvm.Cond.fieldLinkNest "WearHours$Planner" (49 : Nat) "WearHours$Week" "repairCount" "I" "WearHours") ∈ nwt := nwm (tb1 145 rfl) rfl
theorem kw_167 : (Jvm.Cond.fieldLink "WearHours$Week" (54 : Nat) "WearHours$Week" "repairCount" "I") ∈ gt := gtn (tb1 146 rfl) rfl
theorem nw_168 : (Jvm.Cond.fieldLinkNest "WearHours" (160 : Nat) "WearHours$Week" "repairCount" "I" "WearHours") ∈ nwt := nwm (tb1 147 rfl) rfl
theorem kw_169 : (Jvm.Cond.fieldLink "WearHours$Week" (30 : Nat) "WearHours$Week" "rest" "I") ∈ gt := gtn (tb1 148 rfl) rfl
theorem nw_170 : (Jvm.Cond.fieldLinkNest "WearHours$Planner" (112 : Nat) "WearHours$Week" "rest" "I" "WearHours") ∈ nwt := nwm (tb1 149 rfl) rfl
theorem nw_171 : (Jvm.Cond.fieldLinkNest "WearHours" (171 : Nat) "WearHours$Week" "rest" "I" "WearHours") ∈ nwt := nwm (tb1 150 rfl) rfl
theorem kw_172 : (Jvm.Cond.fieldLink "WearHours$Week" (34 : Nat) "WearHours$Week" "failing" "I") ∈ gt := gtn (tb1 151 rfl) rfl
theorem nw_173 : (Jvm.Cond.fieldLinkNest "WearHours" (174 : Nat) "WearHours$Week" "failing" "I" "WearHours") ∈ nwt := nwm (tb1 152 rfl) rfl
theorem kw_174 : (Jvm.Cond.laysFinal "WearHours$Week" "WearHours$Week" "gaps" "[LWearHours$Gap;") ∈ gt := gtn (tb1 153 rfl) rfl
theorem kw_176 : (Jvm.Cond.lays "WearHours$Week" "WearHours$Week" "gapCount" "I") ∈ gt := gtn (tb1 155 rfl) rfl
theorem kw_178 : (Jvm.Cond.laysFinal "WearHours$Week" "WearHours$Week" "persons" "[LWearHours$Person;") ∈ gt := gtn (tb1 157 rfl) rfl
theorem kw_180 : (Jvm.Cond.lays "WearHours$Week" "WearHours$Week" "personCount" "I") ∈ gt := gtn (tb1 159 rfl) rfl
theorem kw_182 : (Jvm.Cond.laysFinal "WearHours$Week" "WearHours$Week" "repairs" "[LWearHours$Repair;") ∈ gt := gtn (tb1 161 rfl) rfl
theorem kw_184 : (Jvm.Cond.lays "WearHours$Week" "WearHours$Week" "repairCount" "I") ∈ gt := gtn (tb1 163 rfl) rfl
theorem kw_186 : (Jvm.Cond.lays "WearHours$Week" "WearHours$Week" "rest" "I") ∈ gt := gtn (tb1 165 rfl) rfl
theorem kw_188 : (Jvm.Cond.lays "WearHours$Week" "WearHours$Week" "failing" "I") ∈ gt := gtn (tb1 167 rfl) rfl
theorem kw_191 : (Jvm.Cond.classLink "WearHours" (31 : Nat) "WearHours$Planner") ∈ gt := gtn (tb1 170 rfl) rfl
theorem kw_192 : (Jvm.Cond.instantiable "WearHours$Planner" (7 : Nat)) ∈ gt := gtn (tb1 171 rfl) rfl
theorem kw_193 : (Jvm.Cond.methodLink "WearHours" (33 : Nat) ({ cls := "WearHours$Planner", name := "<init>", desc := "(LWearHours$Week;)V" } : Jvm.MethodName)) ∈ gt := gtn (tb1 172 rfl) rfl
theorem kw_194 : (Jvm.Cond.instanceMethod ({ cls := "WearHours$Planner", name := "<init>", desc := "(LWearHours$Week;)V" } : Jvm.MethodName)) ∈ gt := gtn (tb1 173 rfl) rfl
theorem kw_195 : (Jvm.Cond.code ({ cls := "WearHours$Planner", name := "<init>", desc := "(LWearHours$Week;)V" } : Jvm.MethodName) prog_4_method_1_code (2 : Nat) (Option.none : Option Jvm.ClassFile.FieldType)) ∈ gt := gtn (tb1 174 rfl) rfl
theorem kw_196 : (Jvm.Cond.methodLink "WearHours$Planner" (3 : Nat) ({ cls := "java/lang/Object", name := "<init>", desc := "()V" } : Jvm.MethodName)) ∈ gt := gtn (tb1 175 rfl) rfl
theorem kw_197 : (Jvm.Cond.fieldLink "WearHours$Planner" (9 : Nat) "WearHours$Planner" "week" "LWearHours$Week;") ∈ gt := gtn (tb1 176 rfl) rfl
theorem kw_198 : (Jvm.Cond.fieldLink "WearHours$Planner" (17 : Nat) "WearHours$Planner" "personFree" "[I") ∈ gt := gtn (tb1 177 rfl) rfl
theorem kw_199 : (Jvm.Cond.fieldLink "WearHours$Planner" (21 : Nat) "WearHours$Planner" "thingFree" "[I") ∈ gt := gtn (tb1 178 rfl) rfl
theorem kw_200 : (Jvm.Cond.fieldLink "WearHours$Planner" (24 : Nat) "WearHours$Planner" "floors" "[I") ∈ gt := gtn (tb1 179 rfl) rfl
theorem kw_201 : (Jvm.Cond.fieldLink "WearHours$Planner" (27 : Nat) "WearHours$Planner" "hasPlan" "Z") ∈ gt := gtn (tb1 180 rfl) rfl
theorem nw_202 : (Jvm.Cond.fieldLinkNest "WearHours" (177 : Nat) "WearHours$Planner" "hasPlan" "Z" "WearHours") ∈ nwt := nwm (tb1 181 rfl) rfl
theorem kw_203 : (Jvm.Cond.fieldLink "WearHours$Planner" (42 : Nat) "WearHours$Planner" "planCost" "I") ∈ gt := gtn (tb1 182 rfl) rfl
theorem nw_204 : (Jvm.Cond.fieldLinkNest "WearHours" (206 : Nat) "WearHours$Planner" "planCost" "I" "WearHours") ∈ nwt := nwm (tb1 183 rfl) rfl
theorem kw_205 : (Jvm.Cond.fieldLink "WearHours$Planner" (46 : Nat) "WearHours$Planner" "placedCount" "I") ∈ gt := gtn (tb1 184 rfl) rfl
theorem nw_206 : (Jvm.Cond.fieldLinkNest "WearHours" (183 : Nat) "WearHours$Planner" "placedCount" "I" "WearHours") ∈ nwt := nwm (tb1 185 rfl) rfl
theorem kw_207 : (Jvm.Cond.laysFinal "WearHours$Planner" "WearHours$Planner" "week" "LWearHours$Week;") ∈ gt := gtn (tb1 186 rfl) rfl
theorem kw_209 : (Jvm.Cond.laysFinal "WearHours$Planner" "WearHours$Planner" "personFree" "[I") ∈ gt := gtn (tb1 188 rfl) rfl
theorem kw_211 : (Jvm.Cond.laysFinal "WearHours$Planner" "WearHours$Planner" "thingFree" "[I") ∈ gt := gtn (tb1 190 rfl) rfl
theorem kw_213 : (Jvm.Cond.laysFinal "WearHours$Planner" "WearHours$Planner" "floors" "[I") ∈ gt := gtn (tb1 192 rfl) rfl
theorem kw_215 : (Jvm.Cond.lays "WearHours$Planner" "WearHours$Planner" "hasPlan" "Z") ∈ gt := gtn (tb1 194 rfl) rfl
theorem kw_217 : (Jvm.Cond.lays "WearHours$Planner" "WearHours$Planner" "planCost" "I") ∈ gt := gtn (tb1 196 rfl) rfl
theorem kw_219 : (Jvm.Cond.lays "WearHours$Planner" "WearHours$Planner" "placedCount" "I") ∈ gt := gtn (tb1 198 rfl) rfl
theorem kw_222 : (Jvm.Cond.fieldLink "WearHours" (7 : Nat) "WearHours" "seedNow" "J") ∈ gt := gtn (tb1 201 rfl) rfl
theorem kw_223 : (Jvm.Cond.fieldLink "WearHours" (15 : Nat) "WearHours" "things" "[LWearHours$Thing;") ∈ gt := gtn (tb1 202 rfl) rfl
theorem kw_224 : (Jvm.Cond.fieldLink "WearHours" (52 : Nat) "WearHours" "thingCount" "I") ∈ gt := gtn (tb1 203 rfl) rfl
theorem kw_225 : (Jvm.Cond.fieldLink "WearHours" (20 : Nat) "WearHours" "spares" "[I") ∈ gt := gtn (tb1 204 rfl) rfl
theorem kw_226 : (Jvm.Cond.fieldLink "WearHours" (27 : Nat) "WearHours" "week" "LWearHours$Week;") ∈ gt := gtn (tb1 205 rfl) rfl
theorem kw_227 : (Jvm.Cond.fieldLink "WearHours" (36 : Nat) "WearHours" "planner" "LWearHours$Planner;") ∈ gt := gtn (tb1 206 rfl) rfl
theorem kw_228 : (Jvm.Cond.lays "WearHours" "WearHours" "seedNow" "J") ∈ gt := gtn (tb1 207 rfl) rfl
theorem kw_230 : (Jvm.Cond.laysFinal "WearHours" "WearHours" "things" "[LWearHours$Thing;") ∈ gt := gtn (tb1 209 rfl) rfl
theorem kw_232 : (Jvm.Cond.lays "WearHours" "WearHours" "thingCount" "I") ∈ gt := gtn (tb1 211 rfl) rfl
theorem kw_234 : (Jvm.Cond.laysFinal "WearHours" "WearHours" "spares" "[I") ∈ gt := gtn (tb1 213 rfl) rfl
theorem kw_236 : (Jvm.Cond.laysFinal "WearHours" "WearHours" "week" "LWearHours$Week;") ∈ gt := gtn (tb1 215 rfl) rfl
theorem kw_238 : (Jvm.Cond.laysFinal "WearHours" "WearHours" "planner" "LWearHours$Planner;") ∈ gt := gtn (tb1 217 rfl) rfl
theorem kw_241 : (Jvm.Cond.methodLink "WearHoursLaw" (71 : Nat) ({ cls := "WearHours", name := "seed", desc := "(J)V" } : Jvm.MethodName)) ∈ gt := gtn (tb1 220 rfl) rfl
theorem kw_242 : (Jvm.Cond.instanceMethod ({ cls := "WearHours", name := "seed", desc := "(J)V" } : Jvm.MethodName)) ∈ gt := gtn (tb1 221 rfl) rfl
theorem kw_243 : (Jvm.Cond.selects "WearHours" ({ cls := "WearHours", name := "seed", desc := "(J)V" } : Jvm.MethodName) ({ cls := "WearHours", name := "seed", desc := "(J)V" } : Jvm.MethodName)) ∈ gt := gtn (tb1 222 rfl) rfl
theorem kw_244 : (Jvm.Cond.code ({ cls := "WearHours", name := "seed", desc := "(J)V" } : Jvm.MethodName) prog_1_method_2_code (3 : Nat) (Option.none : Option Jvm.ClassFile.FieldType)) ∈ gt := gtn (tb1 223 rfl) rfl
theorem kw_245 : (Jvm.Cond.methodLink "WearHoursLaw" (116 : Nat) ({ cls := "WearHours", name := "plan", desc := "()I" } : Jvm.MethodName)) ∈ gt := gtn (tb1 224 rfl) rfl
theorem kw_246 : (Jvm.Cond.instanceMethod ({ cls := "WearHours", name := "plan", desc := "()I" } : Jvm.MethodName)) ∈ gt := gtn (tb1 225 rfl) rfl
theorem kw_247 : (Jvm.Cond.selects "WearHours" ({ cls := "WearHours", name := "plan", desc := "()I" } : Jvm.MethodName) ({ cls := "WearHours", name := "plan", desc := "()I" } : Jvm.MethodName)) ∈ gt := gtn (tb1 226 rfl) rfl
theorem kw_248 : (Jvm.Cond.code ({ cls := "WearHours", name := "plan", desc := "()I" } : Jvm.MethodName) prog_1_method_13_code (1 : Nat) (Option.some Jvm.ClassFile.FieldType.int)) ∈ gt := gtn (tb1 227 rfl) rfl
theorem kw_249 : (Jvm.Cond.methodLink "WearHours" (180 : Nat) ({ cls := "WearHours$Planner", name := "makeBest", desc := "()V" } : Jvm.MethodName)) ∈ gt := gtn (tb1 228 rfl) rfl
theorem kw_250 : (Jvm.Cond.instanceMethod ({ cls := "WearHours$Planner", name := "makeBest", desc := "()V" } : Jvm.MethodName)) ∈ gt := gtn (tb1 229 rfl) rfl
theorem kw_251 : (Jvm.Cond.selects "WearHours$Planner" ({ cls := "WearHours$Planner", name := "makeBest", desc := "()V" } : Jvm.MethodName) ({ cls := "WearHours$Planner", name := "makeBest", desc := "()V" } : Jvm.MethodName)) ∈ gt := gtn (tb1 230 rfl) rfl
theorem kw_252 : (Jvm.Cond.code ({ cls := "WearHours$Planner", name := "makeBest", desc := "()V" } : Jvm.MethodName) prog_4_method_3_code (3 : Nat) (Option.none : Option Jvm.ClassFile.FieldType)) ∈ gt := gtn (tb1 231 rfl) rfl
theorem kw_253 : (Jvm.Cond.methodLink "WearHours$Planner" (31 : Nat) ({ cls := "WearHours$Planner", name := "freeAll", desc := "()V" } : Jvm.MethodName)) ∈ gt := gtn (tb1 232 rfl) rfl
theorem kw_255 : (Jvm.Cond.instanceMethod ({ cls := "WearHours$Planner", name := "freeAll", desc := "()V" } : Jvm.MethodName)) ∈ gt := gtn (tb1 234 rfl) rfl
theorem kw_256 : (Jvm.Cond.code ({ cls := "WearHours$Planner", name := "freeAll", desc := "()V" } : Jvm.MethodName) prog_4_method_4_code (2 : Nat) (Option.none : Option Jvm.ClassFile.FieldType)) ∈ gt := gtn (tb1 235 rfl) rfl
theorem kw_257 : (Jvm.Cond.methodLink "WearHours$Planner" (34 : Nat) ({ cls := "WearHours$Planner", name := "sumFloors", desc := "()V" } : Jvm.MethodName)) ∈ gt := gtn (tb1 236 rfl) rfl
theorem kw_259 : (Jvm.Cond.instanceMethod ({ cls := "WearHours$Planner", name := "sumFloors", desc := "()V" } : Jvm.MethodName)) ∈ gt := gtn (tb1 238 rfl) rfl
theorem kw_260 : (Jvm.Cond.code ({ cls := "WearHours$Planner", name := "sumFloors", desc := "()V" } : Jvm.MethodName) prog_4_method_5_code (6 : Nat) (Option.none : Option Jvm.ClassFile.FieldType)) ∈ gt := gtn (tb1 239 rfl) rfl
theorem kw_261 : (Jvm.Cond.methodLink "WearHours$Planner" (65 : Nat) ({ cls := "WearHours$Week", name := "costUnplaced", desc := "(LWearHours$Repair;)I" } : Jvm.MethodName)) ∈ gt := gtn (tb2 0 rfl) rfl
theorem kw_262 : (Jvm.Cond.instanceMethod ({ cls := "WearHours$Week", name := "costUnplaced", desc := "(LWearHours$Repair;)I" } : Jvm.MethodName)) ∈ gt := gtn (tb2 1 rfl) rfl
theorem kw_263 : (Jvm.Cond.selects "WearHours$Week" ({ cls := "WearHours$Week", name := "costUnplaced", desc := "(LWearHours$Repair;)I" } : Jvm.MethodName) ({ cls := "WearHours$Week", name := "costUnplaced", desc := "(LWearHours$Repair;)I" } : Jvm.MethodName)) ∈ gt := gtn (tb2 2 rfl) rfl
theorem kw_264 : (Jvm.Cond.code ({ cls := "WearHours$Week", name := "costUnplaced", desc := "(LWearHours$Repair;)I" } : Jvm.MethodName) prog_7_method_5_code (2 : Nat) (Option.some Jvm.ClassFile.FieldType.int)) ∈ gt := gtn (tb2 3 rfl) rfl
theorem kw_265 : (Jvm.Cond.methodLink "WearHours$Planner" (72 : Nat) ({ cls := "WearHours$Planner", name := "firstBeginning", desc := "(LWearHours$Repair;I)I" } : Jvm.MethodName)) ∈ gt := gtn (tb2 4 rfl) rfl
theorem kw_267 : (Jvm.Cond.instanceMethod ({ cls := "WearHours$Planner", name := "firstBeginning", desc := "(LWearHours$Repair;I)I" } : Jvm.MethodName)) ∈ gt := gtn (tb2 6 rfl) rfl
theorem kw_268 : (Jvm.Cond.code ({ cls := "WearHours$Planner", name := "firstBeginning", desc := "(LWearHours$Repair;I)I" } : Jvm.MethodName) prog_4_method_10_code (6 : Nat) (Option.some Jvm.ClassFile.FieldType.int)) ∈ gt := gtn (tb2 7 rfl) rfl
theorem kw_269 : (Jvm.Cond.methodLink "WearHours$Planner" (90 : Nat) ({ cls := "WearHours$Planner", name := "beginning", desc := "(LWearHours$Repair;II)I" } : Jvm.MethodName)) ∈ gt := gtn (tb2 8 rfl) rfl
theorem kw_271 : (Jvm.Cond.instanceMethod ({ cls := "WearHours$Planner", name := "beginning", desc := "(LWearHours$Repair;II)I" } : Jvm.MethodName)) ∈ gt := gtn (tb2 10 rfl) rfl
theorem kw_272 : (Jvm.Cond.code ({ cls := "WearHours$Planner", name := "beginning", desc := "(LWearHours$Repair;II)I" } : Jvm.MethodName) prog_4_method_11_code (9 : Nat) (Option.some Jvm.ClassFile.FieldType.int)) ∈ gt := gtn (tb2 11 rfl) rfl
theorem kw_273 : (Jvm.Cond.methodLink "WearHours$Planner" (135 : Nat) ({ cls := "java/lang/Math", name := "max", desc := "(II)I" } : Jvm.MethodName)) ∈ gt := gtn (tb2 12 rfl) rfl
theorem kw_274 : (Jvm.Cond.static ({ cls := "java/lang/Math", name := "max", desc := "(II)I" } : Jvm.MethodName)) ∈ gt := gtn (tb2 13 rfl) rfl
theorem kw_275 : (Jvm.Cond.code ({ cls := "java/lang/Math", name := "max", desc := "(II)I" } : Jvm.MethodName) prog_14_method_65_code (2 : Nat) (Option.some Jvm.ClassFile.FieldType.int)) ∈ gt := gtn (tb2 14 rfl) rfl
theorem kw_276 : (Jvm.Cond.methodLink "WearHours$Planner" (79 : Nat) ({ cls := "java/lang/Math", name := "min", desc := "(II)I" } : Jvm.MethodName)) ∈ gt := gtn (tb2 15 rfl) rfl
theorem kw_277 : (Jvm.Cond.static ({ cls := "java/lang/Math", name := "min", desc := "(II)I" } : Jvm.MethodName)) ∈ gt := gtn (tb2 16 rfl) rfl
theorem kw_278 : (Jvm.Cond.code ({ cls := "java/lang/Math", name := "min", desc := "(II)I" } : Jvm.MethodName) prog_14_method_69_code (2 : Nat) (Option.some Jvm.ClassFile.FieldType.int)) ∈ gt := gtn (tb2 17 rfl) rfl
theorem kw_279 : (Jvm.Cond.constant "WearHours$Planner" (37 : Nat) (1000000000 : Int32)) ∈ gt := gtn (tb2 18 rfl) rfl
theorem kw_280 : (Jvm.Cond.methodLink "WearHours$Planner" (38 : Nat) ({ cls := "WearHours$Planner", name := "leastCost", desc := "(II)I" } : Jvm.MethodName)) ∈ gt := gtn (tb2 19 rfl) rfl
theorem kw_282 : (Jvm.Cond.instanceMethod ({ cls := "WearHours$Planner", name := "leastCost", desc := "(II)I" } : Jvm.MethodName)) ∈ gt := gtn (tb2 21 rfl) rfl
theorem kw_283 : (Jvm.Cond.code ({ cls := "WearHours$Planner", name := "leastCost", desc := "(II)I" } : Jvm.MethodName) prog_4_method_7_code (7 : Nat) (Option.some Jvm.ClassFile.FieldType.int)) ∈ gt := gtn (tb2 22 rfl) rfl
theorem kw_284 : (Jvm.Cond.methodLink "WearHours$Planner" (94 : Nat) ({ cls := "WearHours$Planner", name := "costBy", desc := "(IIII)I" } : Jvm.MethodName)) ∈ gt := gtn (tb2 23 rfl) rfl
theorem kw_286 : (Jvm.Cond.instanceMethod ({ cls := "WearHours$Planner", name := "costBy", desc := "(IIII)I" } : Jvm.MethodName)) ∈ gt := gtn (tb2 25 rfl) rfl
theorem kw_287 : (Jvm.Cond.code ({ cls := "WearHours$Planner", name := "costBy", desc := "(IIII)I" } : Jvm.MethodName) prog_4_method_8_code (10 : Nat) (Option.some Jvm.ClassFile.FieldType.int)) ∈ gt := gtn (tb2 26 rfl) rfl
theorem kw_288 : (Jvm.Cond.methodLink "WearHours$Planner" (98 : Nat) ({ cls := "WearHours$Planner", name := "occupy", desc := "(LWearHours$Repair;II)V" } : Jvm.MethodName)) ∈ gt := gtn (tb2 27 rfl) rfl
theorem kw_290 : (Jvm.Cond.instanceMethod ({ cls := "WearHours$Planner", name := "occupy", desc := "(LWearHours$Repair;II)V" } : Jvm.MethodName)) ∈ gt := gtn (tb2 29 rfl) rfl
theorem kw_291 : (Jvm.Cond.code ({ cls := "WearHours$Planner", name := "occupy", desc := "(LWearHours$Repair;II)V" } : Jvm.MethodName) prog_4_method_9_code (5 : Nat) (Option.none : Option Jvm.ClassFile.FieldType)) ∈ gt := gtn (tb2 30 rfl) rfl
theorem kw_292 : (Jvm.Cond.methodLink "WearHours$Planner" (52 : Nat) ({ cls := "WearHours$Planner", name := "settle", desc := "(II)I" } : Jvm.MethodName)) ∈ gt := gtn (tb2 31 rfl) rfl
theorem kw_294 : (Jvm.Cond.instanceMethod ({ cls := "WearHours$Planner", name := "settle", desc := "(II)I" } : Jvm.MethodName)) ∈ gt := gtn (tb2 33 rfl) rfl
theorem kw_295 : (Jvm.Cond.code ({ cls := "WearHours$Planner", name := "settle", desc := "(II)I" } : Jvm.MethodName) prog_4_method_6_code (7 : Nat) (Option.some Jvm.ClassFile.FieldType.int)) ∈ gt := gtn (tb2 34 rfl) rfl
theorem kw_296 : (Jvm.Cond.methodLink "WearHours$Planner" (84 : Nat) ({ cls := "WearHours$Repair", name := "unplace", desc := "()V" } : Jvm.MethodName)) ∈ gt := gtn (tb2 35 rfl) rfl
theorem kw_297 : (Jvm.Cond.instanceMethod ({ cls := "WearHours$Repair", name := "unplace", desc := "()V" } : Jvm.MethodName)) ∈ gt := gtn (tb2 36 rfl) rfl
theorem kw_298 : (Jvm.Cond.selects "WearHours$Repair" ({ cls := "WearHours$Repair", name := "unplace", desc := "()V" } : Jvm.MethodName) ({ cls := "WearHours$Repair", name := "unplace", desc := "()V" } : Jvm.MethodName)) ∈ gt := gtn (tb2 37 rfl) rfl
theorem kw_299 : (Jvm.Cond.code ({ cls := "WearHours$Repair", name := "unplace", desc := "()V" } : Jvm.MethodName) prog_5_method_4_code (1 : Nat) (Option.none : Option Jvm.ClassFile.FieldType)) ∈ gt := gtn (tb2 38 rfl) rfl
theorem kw_300 : (Jvm.Cond.methodLink "WearHours$Repair" (19 : Nat) ({ cls := "WearHours$Repair", name := "place", desc := "(III)V" } : Jvm.MethodName)) ∈ gt := gtn (tb2 39 rfl) rfl
theorem kw_301 : (Jvm.Cond.instanceMethod ({ cls := "WearHours$Repair", name := "place", desc := "(III)V" } : Jvm.MethodName)) ∈ gt := gtn (tb2 40 rfl) rfl
theorem kw_302 : (Jvm.Cond.selects "WearHours$Repair" ({ cls := "WearHours$Repair", name := "place", desc := "(III)V" } : Jvm.MethodName) ({ cls := "WearHours$Repair", name := "place", desc := "(III)V" } : Jvm.MethodName)) ∈ gt := gtn (tb2 41 rfl) rfl
theorem kw_303 : (Jvm.Cond.code ({ cls := "WearHours$Repair", name := "place", desc := "(III)V" } : Jvm.MethodName) prog_5_method_3_code (4 : Nat) (Option.none : Option Jvm.ClassFile.FieldType)) ∈ gt := gtn (tb2 42 rfl) rfl
theorem kw_304 : (Jvm.Cond.methodLink "WearHours$Planner" (102 : Nat) ({ cls := "WearHours$Repair", name := "place", desc := "(III)V" } : Jvm.MethodName)) ∈ gt := gtn (tb2 43 rfl) rfl
theorem kw_305 : (Jvm.Cond.methodLink "WearHours$Planner" (59 : Nat) ({ cls := "WearHours$Repair", name := "isPlaced", desc := "()Z" } : Jvm.MethodName)) ∈ gt := gtn (tb2 44 rfl) rfl
theorem kw_306 : (Jvm.Cond.instanceMethod ({ cls := "WearHours$Repair", name := "isPlaced", desc := "()Z" } : Jvm.MethodName)) ∈ gt := gtn (tb2 45 rfl) rfl
theorem kw_307 : (Jvm.Cond.selects "WearHours$Repair" ({ cls := "WearHours$Repair", name := "isPlaced", desc := "()Z" } : Jvm.MethodName) ({ cls := "WearHours$Repair", name := "isPlaced", desc := "()Z" } : Jvm.MethodName)) ∈ gt := gtn (tb2 46 rfl) rfl
theorem kw_308 : (Jvm.Cond.code ({ cls := "WearHours$Repair", name := "isPlaced", desc := "()Z" } : Jvm.MethodName) prog_5_method_2_code (1 : Nat) (Option.some Jvm.ClassFile.FieldType.boolean)) ∈ gt := gtn (tb2 47 rfl) rfl
theorem kw_309 : (Jvm.Cond.methodLink "WearHoursLaw" (76 : Nat) ({ cls := "WearHoursLaw", name := "thing", desc := "(LWearHours;II[J)I" } : Jvm.MethodName)) ∈ gt := gtn (tb2 48 rfl) rfl
theorem kw_310 : (Jvm.Cond.static ({ cls := "WearHoursLaw", name := "thing", desc := "(LWearHours;II[J)I" } : Jvm.MethodName)) ∈ gt := gtn (tb2 49 rfl) rfl
theorem kw_311 : (Jvm.Cond.codeWith ({ cls := "WearHoursLaw", name := "thing", desc := "(LWearHours;II[J)I" } : Jvm.MethodName) method_3_code (5 : Nat) (Option.some Jvm.ClassFile.FieldType.int) [((0 : Nat), (10 : Nat), (13 : Nat), (13 : Nat)), ((0 : Nat), (10 : Nat), (17 : Nat), (15 : Nat))]) ∈ gt := gtn (tb2 50 rfl) rfl
theorem kw_312 : (Jvm.Cond.classLink "WearHoursLaw" (13 : Nat) "java/lang/IllegalArgumentException") ∈ gt := gtn (tb2 51 rfl) rfl
theorem kw_313 : (Jvm.Cond.classLink "WearHoursLaw" (15 : Nat) "java/lang/UnsupportedOperationException") ∈ gt := gtn (tb2 52 rfl) rfl
theorem kw_314 : (Jvm.Cond.methodLink "WearHoursLaw" (7 : Nat) ({ cls := "WearHours", name := "thing", desc := "(II)I" } : Jvm.MethodName)) ∈ gt := gtn (tb2 53 rfl) rfl
theorem kw_315 : (Jvm.Cond.instanceMethod ({ cls := "WearHours", name := "thing", desc := "(II)I" } : Jvm.MethodName)) ∈ gt := gtn (tb2 54 rfl) rfl
theorem kw_316 : (Jvm.Cond.selects "WearHours" ({ cls := "WearHours", name := "thing", desc := "(II)I" } : Jvm.MethodName) ({ cls := "WearHours", name := "thing", desc := "(II)I" } : Jvm.MethodName)) ∈ gt := gtn (tb2 55 rfl) rfl
theorem kw_317 : (Jvm.Cond.code ({ cls := "WearHours", name := "thing", desc := "(II)I" } : Jvm.MethodName) prog_1_method_3_code (3 : Nat) (Option.some Jvm.ClassFile.FieldType.int)) ∈ gt := gtn (tb2 56 rfl) rfl
theorem kw_318 : (Jvm.Cond.constant "WearHours" (40 : Nat) (1000000 : Int32)) ∈ gt := gtn (tb2 57 rfl) rfl
theorem kw_319 : (Jvm.Cond.methodLink "WearHours" (41 : Nat) ({ cls := "WearHours", name := "isWithin", desc := "(III)Z" } : Jvm.MethodName)) ∈ gt := gtn (tb2 58 rfl) rfl
theorem kw_320 : (Jvm.Cond.static ({ cls := "WearHours", name := "isWithin", desc := "(III)Z" } : Jvm.MethodName)) ∈ gt := gtn (tb2 59 rfl) rfl
theorem kw_321 : (Jvm.Cond.code ({ cls := "WearHours", name := "isWithin", desc := "(III)Z" } : Jvm.MethodName) prog_1_method_18_code (3 : Nat) (Option.some Jvm.ClassFile.FieldType.boolean)) ∈ gt := gtn (tb2 60 rfl) rfl
theorem kw_322 : (Jvm.Cond.classLink "WearHours" (45 : Nat) "java/lang/IllegalArgumentException") ∈ gt := gtn (tb2 61 rfl) rfl
theorem kw_323 : (Jvm.Cond.instantiable "java/lang/IllegalArgumentException" (6 : Nat)) ∈ gt := gtn (tb2 62 rfl) rfl
theorem nw_324 : (Jvm.Cond.castable "java/lang/IllegalArgumentException" "java/lang/IllegalArgumentException") ∈ nwt := nwm (tb2 63 rfl) rfl
theorem nw_325 : (Jvm.Cond.declares ({ cls := "java/lang/RuntimeException", name := "<init>", desc := "()V" } : Jvm.MethodName)) ∈ nwt := nwm (tb2 64 rfl) rfl
theorem nw_326 : (Jvm.Cond.declares ({ cls := "java/lang/RuntimeException", name := "<init>", desc := "(Ljava/lang/String;)V" } : Jvm.MethodName)) ∈ nwt := nwm (tb2 65 rfl) rfl
theorem nw_327 : (Jvm.Cond.declares ({ cls := "java/lang/Exception", name := "<init>", desc := "()V" } : Jvm.MethodName)) ∈ nwt := nwm (tb2 66 rfl) rfl
theorem nw_328 : (Jvm.Cond.declares ({ cls := "java/lang/Exception", name := "<init>", desc := "(Ljava/lang/String;)V" } : Jvm.MethodName)) ∈ nwt := nwm (tb2 67 rfl) rfl
theorem nw_329 : (Jvm.Cond.declares ({ cls := "java/lang/Throwable", name := "<init>", desc := "()V" } : Jvm.MethodName)) ∈ nwt := nwm (tb2 68 rfl) rfl
theorem nw_330 : (Jvm.Cond.declares ({ cls := "java/lang/Throwable", name := "<init>", desc := "(Ljava/lang/String;)V" } : Jvm.MethodName)) ∈ nwt := nwm (tb2 69 rfl) rfl
theorem kw_331 : (Jvm.Cond.selects "java/lang/IllegalArgumentException" ({ cls := "java/lang/Throwable", name := "fillInStackTrace", desc := "(I)Ljava/lang/Throwable;" } : Jvm.MethodName) ({ cls := "java/lang/Throwable", name := "fillInStackTrace", desc := "(I)Ljava/lang/Throwable;" } : Jvm.MethodName)) ∈ gt := gtn (tb2 70 rfl) rfl
theorem kw_332 : (Jvm.Cond.selects "java/lang/IllegalArgumentException" ({ cls := "java/lang/Throwable", name := "fillInStackTrace", desc := "()Ljava/lang/Throwable;" } : Jvm.MethodName) ({ cls := "java/lang/Throwable", name := "fillInStackTrace", desc := "()Ljava/lang/Throwable;" } : Jvm.MethodName)) ∈ gt := gtn (tb2 71 rfl) rfl
theorem kw_333 : (Jvm.Cond.lays "java/lang/IllegalArgumentException" "java/lang/Throwable" "cause" "Ljava/lang/Throwable;") ∈ gt := gtn (tb2 72 rfl) rfl
theorem kw_334 : (Jvm.Cond.lays "java/lang/Throwable" "java/lang/Throwable" "cause" "Ljava/lang/Throwable;") ∈ gt := gtn (tb2 73 rfl) rfl
theorem kw_335 : (Jvm.Cond.lays "java/lang/IllegalArgumentException" "java/lang/Throwable" "stackTrace" "[Ljava/lang/StackTraceElement;") ∈ gt := gtn (tb2 74 rfl) rfl
theorem kw_336 : (Jvm.Cond.lays "java/lang/Throwable" "java/lang/Throwable" "stackTrace" "[Ljava/lang/StackTraceElement;") ∈ gt := gtn (tb2 75 rfl) rfl
theorem kw_337 : (Jvm.Cond.lays "java/lang/IllegalArgumentException" "java/lang/Throwable" "suppressedExceptions" "Ljava/util/List;") ∈ gt := gtn (tb2 76 rfl) rfl
theorem kw_338 : (Jvm.Cond.lays "java/lang/Throwable" "java/lang/Throwable" "suppressedExceptions" "Ljava/util/List;") ∈ gt := gtn (tb2 77 rfl) rfl
theorem kw_339 : (Jvm.Cond.lays "java/lang/IllegalArgumentException" "java/lang/Throwable" "detailMessage" "Ljava/lang/String;") ∈ gt := gtn (tb2 78 rfl) rfl
theorem kw_340 : (Jvm.Cond.lays "java/lang/Throwable" "java/lang/Throwable" "detailMessage" "Ljava/lang/String;") ∈ gt := gtn (tb2 79 rfl) rfl
theorem kw_341 : (Jvm.Cond.lays "java/lang/IllegalArgumentException" "java/lang/Throwable" "backtrace" "Ljava/lang/Object;") ∈ gt := gtn (tb2 80 rfl) rfl
theorem kw_342 : (Jvm.Cond.lays "java/lang/Throwable" "java/lang/Throwable" "backtrace" "Ljava/lang/Object;") ∈ gt := gtn (tb2 81 rfl) rfl
theorem kw_343 : (Jvm.Cond.fieldLink "java/lang/Throwable" (198 : Nat) "java/lang/Throwable" "backtrace" "Ljava/lang/Object;") ∈ gt := gtn (tb2 82 rfl) rfl
theorem kw_345 : (Jvm.Cond.instanceMethod ({ cls := "java/lang/Throwable", name := "<init>", desc := "()V" } : Jvm.MethodName)) ∈ gt := gtn (tb2 84 rfl) rfl
theorem kw_346 : (Jvm.Cond.code ({ cls := "java/lang/Throwable", name := "<init>", desc := "()V" } : Jvm.MethodName) prog_17_method_1_code (1 : Nat) (Option.none : Option Jvm.ClassFile.FieldType)) ∈ gt := gtn (tb2 85 rfl) rfl
theorem kw_347 : (Jvm.Cond.methodLink "java/lang/Throwable" (1 : Nat) ({ cls := "java/lang/Object", name := "<init>", desc := "()V" } : Jvm.MethodName)) ∈ gt := gtn (tb2 86 rfl) rfl
theorem kw_348 : (Jvm.Cond.fieldLink "java/lang/Throwable" (13 : Nat) "java/lang/Throwable" "UNASSIGNED_STACK" "[Ljava/lang/StackTraceElement;") ∈ gt := gtn (tb2 87 rfl) rfl
theorem kw_350 : (Jvm.Cond.fieldLink "java/lang/Throwable" (20 : Nat) "java/lang/Throwable" "SUPPRESSED_SENTINEL" "Ljava/util/List;") ∈ gt := gtn (tb2 89 rfl) rfl
theorem kw_352 : (Jvm.Cond.methodLink "java/lang/Throwable" (27 : Nat) ({ cls := "java/lang/Throwable", name := "fillInStackTrace", desc := "()Ljava/lang/Throwable;" } : Jvm.MethodName)) ∈ gt := gtn (tb2 91 rfl) rfl
theorem kw_353 : (Jvm.Cond.instanceMethod ({ cls := "java/lang/Throwable", name := "fillInStackTrace", desc := "()Ljava/lang/Throwable;" } : Jvm.MethodName)) ∈ gt := gtn (tb2 92 rfl) rfl
theorem kw_355 : (Jvm.Cond.selects "java/lang/IllegalStateException" ({ cls := "java/lang/Throwable", name := "fillInStackTrace", desc := "()Ljava/lang/Throwable;" } : Jvm.MethodName) ({ cls := "java/lang/Throwable", name := "fillInStackTrace", desc := "()Ljava/lang/Throwable;" } : Jvm.MethodName)) ∈ gt := gtn (tb2 94 rfl) rfl
theorem kw_356 : (Jvm.Cond.selects "java/lang/IndexOutOfBoundsException" ({ cls := "java/lang/Throwable", name := "fillInStackTrace", desc := "()Ljava/lang/Throwable;" } : Jvm.MethodName) ({ cls := "java/lang/Throwable", name := "fillInStackTrace", desc := "()Ljava/lang/Throwable;" } : Jvm.MethodName)) ∈ gt := gtn (tb2 95 rfl) rfl
theorem kw_357 : (Jvm.Cond.selects "java/lang/UnsupportedOperationException" ({ cls := "java/lang/Throwable", name := "fillInStackTrace", desc := "()Ljava/lang/Throwable;" } : Jvm.MethodName) ({ cls := "java/lang/Throwable", name := "fillInStackTrace", desc := "()Ljava/lang/Throwable;" } : Jvm.MethodName)) ∈ gt := gtn (tb2 96 rfl) rfl
theorem kw_359 : (Jvm.Cond.methodLink "java/lang/Throwable" (202 : Nat) ({ cls := "java/lang/Throwable", name := "fillInStackTrace", desc := "(I)Ljava/lang/Throwable;" } : Jvm.MethodName)) ∈ gt := gtn (tb2 98 rfl) rfl
theorem kw_361 : (Jvm.Cond.instanceMethod ({ cls := "java/lang/Throwable", name := "fillInStackTrace", desc := "(I)Ljava/lang/Throwable;" } : Jvm.MethodName)) ∈ gt := gtn (tb2 100 rfl) rfl
theorem kw_362 : (Jvm.Cond.instantiable "java/lang/Throwable" (6 : Nat)) ∈ gt := gtn (tb2 101 rfl) rfl
theorem kw_365 : (Jvm.Cond.methodLink "WearHours" (49 : Nat) ({ cls := "java/lang/IllegalArgumentException", name := "<init>", desc := "(Ljava/lang/String;)V" } : Jvm.MethodName)) ∈ gt := gtn (tb2 104 rfl) rfl
theorem kw_366 : (Jvm.Cond.instanceMethod ({ cls := "java/lang/IllegalArgumentException", name := "<init>", desc := "(Ljava/lang/String;)V" } : Jvm.MethodName)) ∈ gt := gtn (tb2 105 rfl) rfl
theorem kw_367 : (Jvm.Cond.code ({ cls := "java/lang/IllegalArgumentException", name := "<init>", desc := "(Ljava/lang/String;)V" } : Jvm.MethodName) prog_11_method_2_code (2 : Nat) (Option.none : Option Jvm.ClassFile.FieldType)) ∈ gt := gtn (tb2 106 rfl) rfl
theorem kw_368 : (Jvm.Cond.methodLink "java/lang/IllegalArgumentException" (7 : Nat) ({ cls := "java/lang/RuntimeException", name := "<init>", desc := "(Ljava/lang/String;)V" } : Jvm.MethodName)) ∈ gt := gtn (tb2 107 rfl) rfl
theorem kw_369 : (Jvm.Cond.instanceMethod ({ cls := "java/lang/RuntimeException", name := "<init>", desc := "(Ljava/lang/String;)V" } : Jvm.MethodName)) ∈ gt := gtn (tb2 108 rfl) rfl
theorem kw_370 : (Jvm.Cond.code ({ cls := "java/lang/RuntimeException", name := "<init>", desc := "(Ljava/lang/String;)V" } : Jvm.MethodName) prog_15_method_2_code (2 : Nat) (Option.none : Option Jvm.ClassFile.FieldType)) ∈ gt := gtn (tb2 109 rfl) rfl
theorem kw_371 : (Jvm.Cond.methodLink "java/lang/RuntimeException" (7 : Nat) ({ cls := "java/lang/Exception", name := "<init>", desc := "(Ljava/lang/String;)V" } : Jvm.MethodName)) ∈ gt := gtn (tb2 110 rfl) rfl
theorem kw_372 : (Jvm.Cond.instanceMethod ({ cls := "java/lang/Exception", name := "<init>", desc := "(Ljava/lang/String;)V" } : Jvm.MethodName)) ∈ gt := gtn (tb2 111 rfl) rfl
theorem kw_373 : (Jvm.Cond.code ({ cls := "java/lang/Exception", name := "<init>", desc := "(Ljava/lang/String;)V" } : Jvm.MethodName) prog_10_method_2_code (2 : Nat) (Option.none : Option Jvm.ClassFile.FieldType)) ∈ gt := gtn (tb2 112 rfl) rfl
theorem kw_374 : (Jvm.Cond.methodLink "java/lang/Exception" (7 : Nat) ({ cls := "java/lang/Throwable", name := "<init>", desc := "(Ljava/lang/String;)V" } : Jvm.MethodName)) ∈ gt := gtn (tb2 113 rfl) rfl
theorem kw_375 : (Jvm.Cond.instanceMethod ({ cls := "java/lang/Throwable", name := "<init>", desc := "(Ljava/lang/String;)V" } : Jvm.MethodName)) ∈ gt := gtn (tb2 114 rfl) rfl
theorem kw_376 : (Jvm.Cond.code ({ cls := "java/lang/Throwable", name := "<init>", desc := "(Ljava/lang/String;)V" } : Jvm.MethodName) prog_17_method_2_code (2 : Nat) (Option.none : Option Jvm.ClassFile.FieldType)) ∈ gt := gtn (tb2 115 rfl) rfl
theorem kw_377 : (Jvm.Cond.fieldLink "java/lang/Throwable" (198 : Nat) "java/lang/Throwable" "backtrace" "Ljava/lang/Object;") ∈ gt := gtn (tb2 116 rfl) rfl
theorem kw_378 : (Jvm.Cond.fieldLink "java/lang/Throwable" (31 : Nat) "java/lang/Throwable" "detailMessage" "Ljava/lang/String;") ∈ gt := gtn (tb2 117 rfl) rfl
theorem kw_379 : (Jvm.Cond.fieldLink "java/lang/Throwable" (7 : Nat) "java/lang/Throwable" "cause" "Ljava/lang/Throwable;") ∈ gt := gtn (tb2 118 rfl) rfl
theorem kw_380 : (Jvm.Cond.fieldLink "java/lang/Throwable" (17 : Nat) "java/lang/Throwable" "stackTrace" "[Ljava/lang/StackTraceElement;") ∈ gt := gtn (tb2 119 rfl) rfl
theorem kw_381 : (Jvm.Cond.fieldLink "java/lang/Throwable" (24 : Nat) "java/lang/Throwable" "suppressedExceptions" "Ljava/util/List;") ∈ gt := gtn (tb2 120 rfl) rfl
theorem kw_386 : (Jvm.Cond.lays "java/lang/IllegalArgumentException" "java/lang/Throwable" "depth" "I") ∈ gt := gtn (tb2 125 rfl) rfl
theorem kw_390 : (Jvm.Cond.arrayClass Jvm.ClassFile.FieldType.byte) ∈ gt := gtn (tb2 129 rfl) rfl
theorem kw_391 : (Jvm.Cond.classLink "WearHours" (56 : Nat) "java/lang/UnsupportedOperationException") ∈ gt := gtn (tb2 130 rfl) rfl
theorem kw_392 : (Jvm.Cond.instantiable "java/lang/UnsupportedOperationException" (6 : Nat)) ∈ gt := gtn (tb2 131 rfl) rfl
theorem nw_393 : (Jvm.Cond.castable "java/lang/UnsupportedOperationException" "java/lang/UnsupportedOperationException") ∈ nwt := nwm (tb2 132 rfl) rfl
theorem kw_394 : (Jvm.Cond.selects "java/lang/UnsupportedOperationException" ({ cls := "java/lang/Throwable", name := "fillInStackTrace", desc := "(I)Ljava/lang/Throwable;" } : Jvm.MethodName) ({ cls := "java/lang/Throwable", name := "fillInStackTrace", desc := "(I)Ljava/lang/Throwable;" } : Jvm.MethodName)) ∈ gt := gtn (tb2 133 rfl) rfl
theorem kw_395 : (Jvm.Cond.lays "java/lang/UnsupportedOperationException" "java/lang/Throwable" "cause" "Ljava/lang/Throwable;") ∈ gt := gtn (tb2 134 rfl) rfl
theorem kw_396 : (Jvm.Cond.lays "java/lang/UnsupportedOperationException" "java/lang/Throwable" "stackTrace" "[Ljava/lang/StackTraceElement;") ∈ gt := gtn (tb2 135 rfl) rfl
theorem kw_397 : (Jvm.Cond.lays "java/lang/UnsupportedOperationException" "java/lang/Throwable" "suppressedExceptions" "Ljava/util/List;") ∈ gt := gtn (tb2 136 rfl) rfl
theorem kw_398 : (Jvm.Cond.lays "java/lang/UnsupportedOperationException" "java/lang/Throwable" "detailMessage" "Ljava/lang/String;") ∈ gt := gtn (tb2 137 rfl) rfl
theorem kw_399 : (Jvm.Cond.lays "java/lang/UnsupportedOperationException" "java/lang/Throwable" "backtrace" "Ljava/lang/Object;") ∈ gt := gtn (tb2 138 rfl) rfl
theorem kw_401 : (Jvm.Cond.methodLink "WearHours" (60 : Nat) ({ cls := "java/lang/UnsupportedOperationException", name := "<init>", desc := "(Ljava/lang/String;)V" } : Jvm.MethodName)) ∈ gt := gtn (tb2 140 rfl) rfl
theorem kw_402 : (Jvm.Cond.instanceMethod ({ cls := "java/lang/UnsupportedOperationException", name := "<init>", desc := "(Ljava/lang/String;)V" } : Jvm.MethodName)) ∈ gt := gtn (tb2 141 rfl) rfl
theorem kw_403 : (Jvm.Cond.code ({ cls := "java/lang/UnsupportedOperationException", name := "<init>", desc := "(Ljava/lang/String;)V" } : Jvm.MethodName) prog_18_method_2_code (2 : Nat) (Option.none : Option Jvm.ClassFile.FieldType)) ∈ gt := gtn (tb2 142 rfl) rfl
theorem kw_404 : (Jvm.Cond.methodLink "java/lang/UnsupportedOperationException" (7 : Nat) ({ cls := "java/lang/RuntimeException", name := "<init>", desc := "(Ljava/lang/String;)V" } : Jvm.MethodName)) ∈ gt := gtn (tb2 143 rfl) rfl
theorem kw_405 : (Jvm.Cond.lays "java/lang/UnsupportedOperationException" "java/lang/Throwable" "depth" "I") ∈ gt := gtn (tb2 144 rfl) rfl
theorem kw_407 : (Jvm.Cond.methodLink "WearHours" (61 : Nat) ({ cls := "WearHours$Thing", name := "begin", desc := "(II)V" } : Jvm.MethodName)) ∈ gt := gtn (tb2 146 rfl) rfl
theorem kw_408 : (Jvm.Cond.instanceMethod ({ cls := "WearHours$Thing", name := "begin", desc := "(II)V" } : Jvm.MethodName)) ∈ gt := gtn (tb2 147 rfl) rfl
theorem kw_409 : (Jvm.Cond.selects "WearHours$Thing" ({ cls := "WearHours$Thing", name := "begin", desc := "(II)V" } : Jvm.MethodName) ({ cls := "WearHours$Thing", name := "begin", desc := "(II)V" } : Jvm.MethodName)) ∈ gt := gtn (tb2 148 rfl) rfl
theorem kw_410 : (Jvm.Cond.code ({ cls := "WearHours$Thing", name := "begin", desc := "(II)V" } : Jvm.MethodName) prog_6_method_2_code (3 : Nat) (Option.none : Option Jvm.ClassFile.FieldType)) ∈ gt := gtn (tb2 149 rfl) rfl
theorem kw_411 : (Jvm.Cond.methodLink "WearHoursLaw" (85 : Nat) ({ cls := "WearHoursLaw", name := "use", desc := "(LWearHours;II[J)I" } : Jvm.MethodName)) ∈ gt := gtn (tb2 150 rfl) rfl
theorem kw_412 : (Jvm.Cond.static ({ cls := "WearHoursLaw", name := "use", desc := "(LWearHours;II[J)I" } : Jvm.MethodName)) ∈ gt := gtn (tb2 151 rfl) rfl
theorem kw_413 : (Jvm.Cond.codeWith ({ cls := "WearHoursLaw", name := "use", desc := "(LWearHours;II[J)I" } : Jvm.MethodName) method_4_code (5 : Nat) (Option.some Jvm.ClassFile.FieldType.int) [((0 : Nat), (10 : Nat), (13 : Nat), (20 : Nat)), ((0 : Nat), (10 : Nat), (17 : Nat), (22 : Nat)), ((0 : Nat), (10 : Nat), (21 : Nat), (13 : Nat))]) ∈ gt := gtn (tb2 152 rfl) rfl
theorem kw_414 : (Jvm.Cond.classLink "WearHoursLaw" (20 : Nat) "java/lang/IndexOutOfBoundsException") ∈ gt := gtn (tb2 153 rfl) rfl
theorem kw_415 : (Jvm.Cond.classLink "WearHoursLaw" (22 : Nat) "java/lang/IllegalStateException") ∈ gt := gtn (tb2 154 rfl) rfl
theorem kw_416 : (Jvm.Cond.methodLink "WearHoursLaw" (17 : Nat) ({ cls := "WearHours", name := "use", desc := "(II)I" } : Jvm.MethodName)) ∈ gt := gtn (tb2 155 rfl) rfl
theorem kw_417 : (Jvm.Cond.instanceMethod ({ cls := "WearHours", name := "use", desc := "(II)I" } : Jvm.MethodName)) ∈ gt := gtn (tb2 156 rfl) rfl
theorem kw_418 : (Jvm.Cond.selects "WearHours" ({ cls := "WearHours", name := "use", desc := "(II)I" } : Jvm.MethodName) ({ cls := "WearHours", name := "use", desc := "(II)I" } : Jvm.MethodName)) ∈ gt := gtn (tb2 157 rfl) rfl
theorem kw_419 : (Jvm.Cond.code ({ cls := "WearHours", name := "use", desc := "(II)I" } : Jvm.MethodName) prog_1_method_4_code (4 : Nat) (Option.some Jvm.ClassFile.FieldType.int)) ∈ gt := gtn (tb2 158 rfl) rfl
theorem kw_420 : (Jvm.Cond.methodLink "WearHours" (65 : Nat) ({ cls := "WearHours", name := "knownThing", desc := "(I)LWearHours$Thing;" } : Jvm.MethodName)) ∈ gt := gtn (tb2 159 rfl) rfl
theorem kw_422 : (Jvm.Cond.instanceMethod ({ cls := "WearHours", name := "knownThing", desc := "(I)LWearHours$Thing;" } : Jvm.MethodName)) ∈ gt := gtn (tb2 161 rfl) rfl
theorem kw_423 : (Jvm.Cond.code ({ cls := "WearHours", name := "knownThing", desc := "(I)LWearHours$Thing;" } : Jvm.MethodName) prog_1_method_19_code (2 : Nat) (Option.some (Jvm.ClassFile.FieldType.object "WearHours$Thing"))) ∈ gt := gtn (tb2 162 rfl) rfl
theorem kw_424 : (Jvm.Cond.classLink "WearHours" (123 : Nat) "java/lang/IndexOutOfBoundsException") ∈ gt := gtn (tb2 163 rfl) rfl
theorem kw_425 : (Jvm.Cond.instantiable "java/lang/IndexOutOfBoundsException" (6 : Nat)) ∈ gt := gtn (tb2 164 rfl) rfl
theorem nw_426 : (Jvm.Cond.castable "java/lang/IndexOutOfBoundsException" "java/lang/IndexOutOfBoundsException") ∈ nwt := nwm (tb2 165 rfl) rfl
theorem kw_427 : (Jvm.Cond.selects "java/lang/IndexOutOfBoundsException" ({ cls := "java/lang/Throwable", name := "fillInStackTrace", desc := "(I)Ljava/lang/Throwable;" } : Jvm.MethodName) ({ cls := "java/lang/Throwable", name := "fillInStackTrace", desc := "(I)Ljava/lang/Throwable;" } : Jvm.MethodName)) ∈ gt := gtn (tb2 166 rfl) rfl
theorem kw_428 : (Jvm.Cond.lays "java/lang/IndexOutOfBoundsException" "java/lang/Throwable" "cause" "Ljava/lang/Throwable;") ∈ gt := gtn (tb2 167 rfl) rfl
theorem kw_429 : (Jvm.Cond.lays "java/lang/IndexOutOfBoundsException" "java/lang/Throwable" "stackTrace" "[Ljava/lang/StackTraceElement;") ∈ gt := gtn (tb2 168 rfl) rfl
theorem kw_430 : (Jvm.Cond.lays "java/lang/IndexOutOfBoundsException" "java/lang/Throwable" "suppressedExceptions" "Ljava/util/List;") ∈ gt := gtn (tb2 169 rfl) rfl
theorem kw_431 : (Jvm.Cond.lays "java/lang/IndexOutOfBoundsException" "java/lang/Throwable" "detailMessage" "Ljava/lang/String;") ∈ gt := gtn (tb2 170 rfl) rfl
theorem kw_432 : (Jvm.Cond.lays "java/lang/IndexOutOfBoundsException" "java/lang/Throwable" "backtrace" "Ljava/lang/Object;") ∈ gt := gtn (tb2 171 rfl) rfl
theorem kw_434 : (Jvm.Cond.methodLink "WearHours" (127 : Nat) ({ cls := "java/lang/IndexOutOfBoundsException", name := "<init>", desc := "(Ljava/lang/String;)V" } : Jvm.MethodName)) ∈ gt := gtn (tb2 173 rfl) rfl
theorem kw_435 : (Jvm.Cond.instanceMethod ({ cls := "java/lang/IndexOutOfBoundsException", name := "<init>", desc := "(Ljava/lang/String;)V" } : Jvm.MethodName)) ∈ gt := gtn (tb2 174 rfl) rfl
theorem kw_436 : (Jvm.Cond.code ({ cls := "java/lang/IndexOutOfBoundsException", name := "<init>", desc := "(Ljava/lang/String;)V" } : Jvm.MethodName) prog_13_method_2_code (2 : Nat) (Option.none : Option Jvm.ClassFile.FieldType)) ∈ gt := gtn (tb2 175 rfl) rfl
theorem kw_437 : (Jvm.Cond.methodLink "java/lang/IndexOutOfBoundsException" (7 : Nat) ({ cls := "java/lang/RuntimeException", name := "<init>", desc := "(Ljava/lang/String;)V" } : Jvm.MethodName)) ∈ gt := gtn (tb2 176 rfl) rfl
theorem kw_438 : (Jvm.Cond.lays "java/lang/IndexOutOfBoundsException" "java/lang/Throwable" "depth" "I") ∈ gt := gtn (tb2 177 rfl) rfl
theorem kw_440 : (Jvm.Cond.methodLink "WearHours" (69 : Nat) ({ cls := "WearHours$Thing", name := "isBarred", desc := "()Z" } : Jvm.MethodName)) ∈ gt := gtn (tb2 179 rfl) rfl
theorem kw_441 : (Jvm.Cond.instanceMethod ({ cls := "WearHours$Thing", name := "isBarred", desc := "()Z" } : Jvm.MethodName)) ∈ gt := gtn (tb2 180 rfl) rfl
theorem kw_442 : (Jvm.Cond.selects "WearHours$Thing" ({ cls := "WearHours$Thing", name := "isBarred", desc := "()Z" } : Jvm.MethodName) ({ cls := "WearHours$Thing", name := "isBarred", desc := "()Z" } : Jvm.MethodName)) ∈ gt := gtn (tb2 181 rfl) rfl
theorem kw_443 : (Jvm.Cond.code ({ cls := "WearHours$Thing", name := "isBarred", desc := "()Z" } : Jvm.MethodName) prog_6_method_3_code (1 : Nat) (Option.some Jvm.ClassFile.FieldType.boolean)) ∈ gt := gtn (tb2 182 rfl) rfl
theorem kw_444 : (Jvm.Cond.classLink "WearHours" (73 : Nat) "java/lang/IllegalStateException") ∈ gt := gtn (tb2 183 rfl) rfl
theorem kw_445 : (Jvm.Cond.instantiable "java/lang/IllegalStateException" (6 : Nat)) ∈ gt := gtn (tb2 184 rfl) rfl
theorem nw_446 : (Jvm.Cond.castable "java/lang/IllegalStateException" "java/lang/IllegalStateException") ∈ nwt := nwm (tb2 185 rfl) rfl
theorem kw_447 : (Jvm.Cond.selects "java/lang/IllegalStateException" ({ cls := "java/lang/Throwable", name := "fillInStackTrace", desc := "(I)Ljava/lang/Throwable;" } : Jvm.MethodName) ({ cls := "java/lang/Throwable", name := "fillInStackTrace", desc := "(I)Ljava/lang/Throwable;" } : Jvm.MethodName)) ∈ gt := gtn (tb2 186 rfl) rfl
theorem kw_448 : (Jvm.Cond.lays "java/lang/IllegalStateException" "java/lang/Throwable" "cause" "Ljava/lang/Throwable;") ∈ gt := gtn (tb2 187 rfl) rfl
theorem kw_449 : (Jvm.Cond.lays "java/lang/IllegalStateException" "java/lang/Throwable" "stackTrace" "[Ljava/lang/StackTraceElement;") ∈ gt := gtn (tb2 188 rfl) rfl
theorem kw_450 : (Jvm.Cond.lays "java/lang/IllegalStateException" "java/lang/Throwable" "suppressedExceptions" "Ljava/util/List;") ∈ gt := gtn (tb2 189 rfl) rfl
theorem kw_451 : (Jvm.Cond.lays "java/lang/IllegalStateException" "java/lang/Throwable" "detailMessage" "Ljava/lang/String;") ∈ gt := gtn (tb2 190 rfl) rfl
theorem kw_452 : (Jvm.Cond.lays "java/lang/IllegalStateException" "java/lang/Throwable" "backtrace" "Ljava/lang/Object;") ∈ gt := gtn (tb2 191 rfl) rfl
theorem kw_454 : (Jvm.Cond.methodLink "WearHours" (77 : Nat) ({ cls := "java/lang/IllegalStateException", name := "<init>", desc := "(Ljava/lang/String;)V" } : Jvm.MethodName)) ∈ gt := gtn (tb2 193 rfl) rfl
theorem kw_455 : (Jvm.Cond.instanceMethod ({ cls := "java/lang/IllegalStateException", name := "<init>", desc := "(Ljava/lang/String;)V" } : Jvm.MethodName)) ∈ gt := gtn (tb2 194 rfl) rfl
theorem kw_456 : (Jvm.Cond.code ({ cls := "java/lang/IllegalStateException", name := "<init>", desc := "(Ljava/lang/String;)V" } : Jvm.MethodName) prog_12_method_2_code (2 : Nat) (Option.none : Option Jvm.ClassFile.FieldType)) ∈ gt := gtn (tb2 195 rfl) rfl
theorem kw_457 : (Jvm.Cond.methodLink "java/lang/IllegalStateException" (7 : Nat) ({ cls := "java/lang/RuntimeException", name := "<init>", desc := "(Ljava/lang/String;)V" } : Jvm.MethodName)) ∈ gt := gtn (tb2 196 rfl) rfl
theorem kw_458 : (Jvm.Cond.lays "java/lang/IllegalStateException" "java/lang/Throwable" "depth" "I") ∈ gt := gtn (tb2 197 rfl) rfl
theorem kw_461 : (Jvm.Cond.methodLink "WearHours" (80 : Nat) ({ cls := "WearHours$Thing", name := "wear", desc := "(I)V" } : Jvm.MethodName)) ∈ gt := gtn (tb2 200 rfl) rfl
theorem kw_462 : (Jvm.Cond.instanceMethod ({ cls := "WearHours$Thing", name := "wear", desc := "(I)V" } : Jvm.MethodName)) ∈ gt := gtn (tb2 201 rfl) rfl
theorem kw_463 : (Jvm.Cond.selects "WearHours$Thing" ({ cls := "WearHours$Thing", name := "wear", desc := "(I)V" } : Jvm.MethodName) ({ cls := "WearHours$Thing", name := "wear", desc := "(I)V" } : Jvm.MethodName)) ∈ gt := gtn (tb2 202 rfl) rfl
theorem kw_464 : (Jvm.Cond.code ({ cls := "WearHours$Thing", name := "wear", desc := "(I)V" } : Jvm.MethodName) prog_6_method_5_code (2 : Nat) (Option.none : Option Jvm.ClassFile.FieldType)) ∈ gt := gtn (tb2 203 rfl) rfl
theorem kw_465 : (Jvm.Cond.methodLink "WearHours$Thing" (33 : Nat) ({ cls := "WearHours$Thing", name := "keep", desc := "(I)V" } : Jvm.MethodName)) ∈ gt := gtn (tb2 204 rfl) rfl
theorem kw_467 : (Jvm.Cond.instanceMethod ({ cls := "WearHours$Thing", name := "keep", desc := "(I)V" } : Jvm.MethodName)) ∈ gt := gtn (tb2 206 rfl) rfl
theorem kw_468 : (Jvm.Cond.code ({ cls := "WearHours$Thing", name := "keep", desc := "(I)V" } : Jvm.MethodName) prog_6_method_9_code (3 : Nat) (Option.none : Option Jvm.ClassFile.FieldType)) ∈ gt := gtn (tb2 207 rfl) rfl
theorem kw_469 : (Jvm.Cond.methodLink "WearHoursLaw" (88 : Nat) ({ cls := "WearHoursLaw", name := "told", desc := "(LWearHours;II[J)I" } : Jvm.MethodName)) ∈ gt := gtn (tb2 208 rfl) rfl
theorem kw_470 : (Jvm.Cond.static ({ cls := "WearHoursLaw", name := "told", desc := "(LWearHours;II[J)I" } : Jvm.MethodName)) ∈ gt := gtn (tb2 209 rfl) rfl
theorem kw_471 : (Jvm.Cond.codeWith ({ cls := "WearHoursLaw", name := "told", desc := "(LWearHours;II[J)I" } : Jvm.MethodName) method_5_code (5 : Nat) (Option.some Jvm.ClassFile.FieldType.int) [((0 : Nat), (10 : Nat), (13 : Nat), (20 : Nat))]) ∈ gt := gtn (tb2 210 rfl) rfl
theorem kw_472 : (Jvm.Cond.methodLink "WearHoursLaw" (24 : Nat) ({ cls := "WearHours", name := "told", desc := "(II)I" } : Jvm.MethodName)) ∈ gt := gtn (tb2 211 rfl) rfl
theorem kw_473 : (Jvm.Cond.instanceMethod ({ cls := "WearHours", name := "told", desc := "(II)I" } : Jvm.MethodName)) ∈ gt := gtn (tb2 212 rfl) rfl
theorem kw_474 : (Jvm.Cond.selects "WearHours" ({ cls := "WearHours", name := "told", desc := "(II)I" } : Jvm.MethodName) ({ cls := "WearHours", name := "told", desc := "(II)I" } : Jvm.MethodName)) ∈ gt := gtn (tb2 213 rfl) rfl
theorem kw_475 : (Jvm.Cond.code ({ cls := "WearHours", name := "told", desc := "(II)I" } : Jvm.MethodName) prog_1_method_5_code (4 : Nat) (Option.some Jvm.ClassFile.FieldType.int)) ∈ gt := gtn (tb2 214 rfl) rfl
theorem kw_476 : (Jvm.Cond.methodLink "WearHours" (87 : Nat) ({ cls := "WearHours", name := "checkWhat", desc := "(I)V" } : Jvm.MethodName)) ∈ gt := gtn (tb2 215 rfl) rfl
theorem kw_477 : (Jvm.Cond.static ({ cls := "WearHours", name := "checkWhat", desc := "(I)V" } : Jvm.MethodName)) ∈ gt := gtn (tb2 216 rfl) rfl
theorem kw_478 : (Jvm.Cond.code ({ cls := "WearHours", name := "checkWhat", desc := "(I)V" } : Jvm.MethodName) prog_1_method_20_code (1 : Nat) (Option.none : Option Jvm.ClassFile.FieldType)) ∈ gt := gtn (tb2 217 rfl) rfl
theorem kw_480 : (Jvm.Cond.methodLink "WearHours" (90 : Nat) ({ cls := "WearHours$Thing", name := "unitsToBound", desc := "()I" } : Jvm.MethodName)) ∈ gt := gtn (tb2 219 rfl) rfl
theorem kw_481 : (Jvm.Cond.instanceMethod ({ cls := "WearHours$Thing", name := "unitsToBound", desc := "()I" } : Jvm.MethodName)) ∈ gt := gtn (tb2 220 rfl) rfl
theorem kw_482 : (Jvm.Cond.selects "WearHours$Thing" ({ cls := "WearHours$Thing", name := "unitsToBound", desc := "()I" } : Jvm.MethodName) ({ cls := "WearHours$Thing", name := "unitsToBound", desc := "()I" } : Jvm.MethodName)) ∈ gt := gtn (tb2 221 rfl) rfl
theorem kw_483 : (Jvm.Cond.code ({ cls := "WearHours$Thing", name := "unitsToBound", desc := "()I" } : Jvm.MethodName) prog_6_method_4_code (1 : Nat) (Option.some Jvm.ClassFile.FieldType.int)) ∈ gt := gtn (tb2 222 rfl) rfl
theorem kw_484 : (Jvm.Cond.methodLink "WearHours$Thing" (27 : Nat) ({ cls := "java/lang/Math", name := "max", desc := "(II)I" } : Jvm.MethodName)) ∈ gt := gtn (tb2 223 rfl) rfl
theorem kw_485 : (Jvm.Cond.methodLink "WearHoursLaw" (91 : Nat) ({ cls := "WearHoursLaw", name := "left", desc := "(LWearHours;II[J)I" } : Jvm.MethodName)) ∈ gt := gtn (tb2 224 rfl) rfl
theorem kw_486 : (Jvm.Cond.static ({ cls := "WearHoursLaw", name := "left", desc := "(LWearHours;II[J)I" } : Jvm.MethodName)) ∈ gt := gtn (tb2 225 rfl) rfl
theorem kw_487 : (Jvm.Cond.codeWith ({ cls := "WearHoursLaw", name := "left", desc := "(LWearHours;II[J)I" } : Jvm.MethodName) method_6_code (5 : Nat) (Option.some Jvm.ClassFile.FieldType.int) [((0 : Nat), (10 : Nat), (13 : Nat), (20 : Nat)), ((0 : Nat), (10 : Nat), (17 : Nat), (13 : Nat))]) ∈ gt := gtn (tb2 226 rfl) rfl
theorem kw_488 : (Jvm.Cond.methodLink "WearHoursLaw" (27 : Nat) ({ cls := "WearHours", name := "left", desc := "(II)I" } : Jvm.MethodName)) ∈ gt := gtn (tb2 227 rfl) rfl
theorem kw_489 : (Jvm.Cond.instanceMethod ({ cls := "WearHours", name := "left", desc := "(II)I" } : Jvm.MethodName)) ∈ gt := gtn (tb2 228 rfl) rfl
theorem kw_490 : (Jvm.Cond.selects "WearHours" ({ cls := "WearHours", name := "left", desc := "(II)I" } : Jvm.MethodName) ({ cls := "WearHours", name := "left", desc := "(II)I" } : Jvm.MethodName)) ∈ gt := gtn (tb2 229 rfl) rfl
theorem kw_491 : (Jvm.Cond.code ({ cls := "WearHours", name := "left", desc := "(II)I" } : Jvm.MethodName) prog_1_method_6_code (7 : Nat) (Option.some Jvm.ClassFile.FieldType.int)) ∈ gt := gtn (tb2 230 rfl) rfl
theorem kw_493 : (Jvm.Cond.constantLong "WearHours" (96 : Nat) (1001 : Int64)) ∈ gt := gtn (tb2 232 rfl) rfl
theorem kw_494 : (Jvm.Cond.methodLink "WearHours" (98 : Nat) ({ cls := "WearHours", name := "drawnNumber", desc := "(J)J" } : Jvm.MethodName)) ∈ gt := gtn (tb2 233 rfl) rfl
theorem kw_496 : (Jvm.Cond.instanceMethod ({ cls := "WearHours", name := "drawnNumber", desc := "(J)J" } : Jvm.MethodName)) ∈ gt := gtn (tb2 235 rfl) rfl
theorem kw_497 : (Jvm.Cond.code ({ cls := "WearHours", name := "drawnNumber", desc := "(J)J" } : Jvm.MethodName) prog_1_method_24_code (5 : Nat) (Option.some Jvm.ClassFile.FieldType.long)) ∈ gt := gtn (tb2 236 rfl) rfl
theorem kw_498 : (Jvm.Cond.constantLong "WearHours" (237 : Nat) (-7046029254386353131 : Int64)) ∈ gt := gtn (tb2 237 rfl) rfl
theorem kw_499 : (Jvm.Cond.constantLong "WearHours" (239 : Nat) (-4658895280553007687 : Int64)) ∈ gt := gtn (tb2 238 rfl) rfl
theorem kw_500 : (Jvm.Cond.constantLong "WearHours" (241 : Nat) (-7723592293110705685 : Int64)) ∈ gt := gtn (tb2 239 rfl) rfl
theorem kw_501 : (Jvm.Cond.constantLong "WearHours" (243 : Nat) (9223372036854775807 : Int64)) ∈ gt := gtn (tb3 0 rfl) rfl
theorem kw_502 : (Jvm.Cond.constantLong "WearHours" (102 : Nat) (101 : Int64)) ∈ gt := gtn (tb3 1 rfl) rfl
theorem kw_503 : (Jvm.Cond.methodLink "WearHours" (107 : Nat) ({ cls := "java/lang/Math", name := "max", desc := "(II)I" } : Jvm.MethodName)) ∈ gt := gtn (tb3 2 rfl) rfl
theorem kw_504 : (Jvm.Cond.methodLink "WearHoursLaw" (94 : Nat) ({ cls := "WearHoursLaw", name := "permit", desc := "(LWearHours;IZ)I" } : Jvm.MethodName)) ∈ gt := gtn (tb3 3 rfl) rfl
theorem kw_505 : (Jvm.Cond.static ({ cls := "WearHoursLaw", name := "permit", desc := "(LWearHours;IZ)I" } : Jvm.MethodName)) ∈ gt := gtn (tb3 4 rfl) rfl
theorem kw_506 : (Jvm.Cond.codeWith ({ cls := "WearHoursLaw", name := "permit", desc := "(LWearHours;IZ)I" } : Jvm.MethodName) method_7_code (4 : Nat) (Option.some Jvm.ClassFile.FieldType.int) [((0 : Nat), (6 : Nat), (9 : Nat), (20 : Nat)), ((0 : Nat), (6 : Nat), (12 : Nat), (15 : Nat))]) ∈ gt := gtn (tb3 5 rfl) rfl
theorem kw_507 : (Jvm.Cond.methodLink "WearHoursLaw" (30 : Nat) ({ cls := "WearHours", name := "permit", desc := "(IZ)V" } : Jvm.MethodName)) ∈ gt := gtn (tb3 6 rfl) rfl
theorem kw_508 : (Jvm.Cond.instanceMethod ({ cls := "WearHours", name := "permit", desc := "(IZ)V" } : Jvm.MethodName)) ∈ gt := gtn (tb3 7 rfl) rfl
theorem kw_509 : (Jvm.Cond.selects "WearHours" ({ cls := "WearHours", name := "permit", desc := "(IZ)V" } : Jvm.MethodName) ({ cls := "WearHours", name := "permit", desc := "(IZ)V" } : Jvm.MethodName)) ∈ gt := gtn (tb3 8 rfl) rfl
theorem kw_510 : (Jvm.Cond.code ({ cls := "WearHours", name := "permit", desc := "(IZ)V" } : Jvm.MethodName) prog_1_method_7_code (4 : Nat) (Option.none : Option Jvm.ClassFile.FieldType)) ∈ gt := gtn (tb3 9 rfl) rfl
theorem kw_512 : (Jvm.Cond.methodLink "WearHours" (119 : Nat) ({ cls := "WearHours$Thing", name := "setPermit", desc := "(Z)V" } : Jvm.MethodName)) ∈ gt := gtn (tb3 11 rfl) rfl
theorem kw_513 : (Jvm.Cond.instanceMethod ({ cls := "WearHours$Thing", name := "setPermit", desc := "(Z)V" } : Jvm.MethodName)) ∈ gt := gtn (tb3 12 rfl) rfl
theorem kw_514 : (Jvm.Cond.selects "WearHours$Thing" ({ cls := "WearHours$Thing", name := "setPermit", desc := "(Z)V" } : Jvm.MethodName) ({ cls := "WearHours$Thing", name := "setPermit", desc := "(Z)V" } : Jvm.MethodName)) ∈ gt := gtn (tb3 13 rfl) rfl
theorem kw_515 : (Jvm.Cond.code ({ cls := "WearHours$Thing", name := "setPermit", desc := "(Z)V" } : Jvm.MethodName) prog_6_method_7_code (2 : Nat) (Option.none : Option Jvm.ClassFile.FieldType)) ∈ gt := gtn (tb3 14 rfl) rfl
theorem kw_516 : (Jvm.Cond.methodLink "WearHoursLaw" (98 : Nat) ({ cls := "WearHoursLaw", name := "history", desc := "(LWearHours;II[J)I" } : Jvm.MethodName)) ∈ gt := gtn (tb3 15 rfl) rfl
theorem kw_517 : (Jvm.Cond.static ({ cls := "WearHoursLaw", name := "history", desc := "(LWearHours;II[J)I" } : Jvm.MethodName)) ∈ gt := gtn (tb3 16 rfl) rfl
theorem kw_518 : (Jvm.Cond.codeWith ({ cls := "WearHoursLaw", name := "history", desc := "(LWearHours;II[J)I" } : Jvm.MethodName) method_8_code (5 : Nat) (Option.some Jvm.ClassFile.FieldType.int) [((0 : Nat), (10 : Nat), (13 : Nat), (20 : Nat))]) ∈ gt := gtn (tb3 17 rfl) rfl
theorem kw_519 : (Jvm.Cond.methodLink "WearHoursLaw" (34 : Nat) ({ cls := "WearHours", name := "history", desc := "(II)I" } : Jvm.MethodName)) ∈ gt := gtn (tb3 18 rfl) rfl
theorem kw_520 : (Jvm.Cond.instanceMethod ({ cls := "WearHours", name := "history", desc := "(II)I" } : Jvm.MethodName)) ∈ gt := gtn (tb3 19 rfl) rfl
theorem kw_521 : (Jvm.Cond.selects "WearHours" ({ cls := "WearHours", name := "history", desc := "(II)I" } : Jvm.MethodName) ({ cls := "WearHours", name := "history", desc := "(II)I" } : Jvm.MethodName)) ∈ gt := gtn (tb3 20 rfl) rfl
theorem kw_522 : (Jvm.Cond.code ({ cls := "WearHours", name := "history", desc := "(II)I" } : Jvm.MethodName) prog_1_method_8_code (4 : Nat) (Option.some Jvm.ClassFile.FieldType.int)) ∈ gt := gtn (tb3 21 rfl) rfl
theorem kw_524 : (Jvm.Cond.methodLink "WearHours" (128 : Nat) ({ cls := "WearHours$Thing", name := "change", desc := "(I)I" } : Jvm.MethodName)) ∈ gt := gtn (tb3 23 rfl) rfl
theorem kw_525 : (Jvm.Cond.instanceMethod ({ cls := "WearHours$Thing", name := "change", desc := "(I)I" } : Jvm.MethodName)) ∈ gt := gtn (tb3 24 rfl) rfl
theorem kw_526 : (Jvm.Cond.selects "WearHours$Thing" ({ cls := "WearHours$Thing", name := "change", desc := "(I)I" } : Jvm.MethodName) ({ cls := "WearHours$Thing", name := "change", desc := "(I)I" } : Jvm.MethodName)) ∈ gt := gtn (tb3 25 rfl) rfl
theorem kw_527 : (Jvm.Cond.code ({ cls := "WearHours$Thing", name := "change", desc := "(I)I" } : Jvm.MethodName) prog_6_method_8_code (2 : Nat) (Option.some Jvm.ClassFile.FieldType.int)) ∈ gt := gtn (tb3 26 rfl) rfl
theorem kw_528 : (Jvm.Cond.methodLink "WearHoursLaw" (101 : Nat) ({ cls := "WearHoursLaw", name := "gap", desc := "(LWearHours;II[J)I" } : Jvm.MethodName)) ∈ gt := gtn (tb3 27 rfl) rfl
theorem kw_529 : (Jvm.Cond.static ({ cls := "WearHoursLaw", name := "gap", desc := "(LWearHours;II[J)I" } : Jvm.MethodName)) ∈ gt := gtn (tb3 28 rfl) rfl
theorem kw_530 : (Jvm.Cond.codeWith ({ cls := "WearHoursLaw", name := "gap", desc := "(LWearHours;II[J)I" } : Jvm.MethodName) method_9_code (5 : Nat) (Option.some Jvm.ClassFile.FieldType.int) [((0 : Nat), (10 : Nat), (13 : Nat), (13 : Nat)), ((0 : Nat), (10 : Nat), (17 : Nat), (15 : Nat))]) ∈ gt := gtn (tb3 29 rfl) rfl
theorem kw_531 : (Jvm.Cond.methodLink "WearHoursLaw" (37 : Nat) ({ cls := "WearHours", name := "gap", desc := "(II)I" } : Jvm.MethodName)) ∈ gt := gtn (tb3 30 rfl) rfl
theorem kw_532 : (Jvm.Cond.instanceMethod ({ cls := "WearHours", name := "gap", desc := "(II)I" } : Jvm.MethodName)) ∈ gt := gtn (tb3 31 rfl) rfl
theorem kw_533 : (Jvm.Cond.selects "WearHours" ({ cls := "WearHours", name := "gap", desc := "(II)I" } : Jvm.MethodName) ({ cls := "WearHours", name := "gap", desc := "(II)I" } : Jvm.MethodName)) ∈ gt := gtn (tb3 32 rfl) rfl
theorem kw_534 : (Jvm.Cond.code ({ cls := "WearHours", name := "gap", desc := "(II)I" } : Jvm.MethodName) prog_1_method_9_code (3 : Nat) (Option.some Jvm.ClassFile.FieldType.int)) ∈ gt := gtn (tb3 33 rfl) rfl
theorem kw_535 : (Jvm.Cond.methodLink "WearHours" (132 : Nat) ({ cls := "WearHours", name := "checkHours", desc := "(II)V" } : Jvm.MethodName)) ∈ gt := gtn (tb3 34 rfl) rfl
theorem kw_536 : (Jvm.Cond.static ({ cls := "WearHours", name := "checkHours", desc := "(II)V" } : Jvm.MethodName)) ∈ gt := gtn (tb3 35 rfl) rfl
theorem kw_537 : (Jvm.Cond.code ({ cls := "WearHours", name := "checkHours", desc := "(II)V" } : Jvm.MethodName) prog_1_method_21_code (2 : Nat) (Option.none : Option Jvm.ClassFile.FieldType)) ∈ gt := gtn (tb3 36 rfl) rfl
theorem kw_540 : (Jvm.Cond.methodLink "WearHours" (140 : Nat) ({ cls := "WearHours$Week", name := "addGap", desc := "(II)V" } : Jvm.MethodName)) ∈ gt := gtn (tb3 39 rfl) rfl
theorem kw_541 : (Jvm.Cond.instanceMethod ({ cls := "WearHours$Week", name := "addGap", desc := "(II)V" } : Jvm.MethodName)) ∈ gt := gtn (tb3 40 rfl) rfl
theorem kw_542 : (Jvm.Cond.selects "WearHours$Week" ({ cls := "WearHours$Week", name := "addGap", desc := "(II)V" } : Jvm.MethodName) ({ cls := "WearHours$Week", name := "addGap", desc := "(II)V" } : Jvm.MethodName)) ∈ gt := gtn (tb3 41 rfl) rfl
theorem kw_543 : (Jvm.Cond.code ({ cls := "WearHours$Week", name := "addGap", desc := "(II)V" } : Jvm.MethodName) prog_7_method_2_code (4 : Nat) (Option.none : Option Jvm.ClassFile.FieldType)) ∈ gt := gtn (tb3 42 rfl) rfl
theorem kw_544 : (Jvm.Cond.methodLink "WearHours" (143 : Nat) ({ cls := "WearHours$Planner", name := "forget", desc := "()V" } : Jvm.MethodName)) ∈ gt := gtn (tb3 43 rfl) rfl
theorem kw_545 : (Jvm.Cond.instanceMethod ({ cls := "WearHours$Planner", name := "forget", desc := "()V" } : Jvm.MethodName)) ∈ gt := gtn (tb3 44 rfl) rfl
theorem kw_546 : (Jvm.Cond.selects "WearHours$Planner" ({ cls := "WearHours$Planner", name := "forget", desc := "()V" } : Jvm.MethodName) ({ cls := "WearHours$Planner", name := "forget", desc := "()V" } : Jvm.MethodName)) ∈ gt := gtn (tb3 45 rfl) rfl
theorem kw_547 : (Jvm.Cond.code ({ cls := "WearHours$Planner", name := "forget", desc := "()V" } : Jvm.MethodName) prog_4_method_2_code (1 : Nat) (Option.none : Option Jvm.ClassFile.FieldType)) ∈ gt := gtn (tb3 46 rfl) rfl
theorem kw_548 : (Jvm.Cond.methodLink "WearHoursLaw" (104 : Nat) ({ cls := "WearHoursLaw", name := "person", desc := "(LWearHours;III[J)I" } : Jvm.MethodName)) ∈ gt := gtn (tb3 47 rfl) rfl
theorem kw_549 : (Jvm.Cond.static ({ cls := "WearHoursLaw", name := "person", desc := "(LWearHours;III[J)I" } : Jvm.MethodName)) ∈ gt := gtn (tb3 48 rfl) rfl
theorem kw_550 : (Jvm.Cond.codeWith ({ cls := "WearHoursLaw", name := "person", desc := "(LWearHours;III[J)I" } : Jvm.MethodName) method_10_code (6 : Nat) (Option.some Jvm.ClassFile.FieldType.int) [((0 : Nat), (12 : Nat), (15 : Nat), (13 : Nat)), ((0 : Nat), (12 : Nat), (19 : Nat), (15 : Nat))]) ∈ gt := gtn (tb3 49 rfl) rfl
theorem kw_551 : (Jvm.Cond.methodLink "WearHoursLaw" (40 : Nat) ({ cls := "WearHours", name := "person", desc := "(III)I" } : Jvm.MethodName)) ∈ gt := gtn (tb3 50 rfl) rfl
theorem kw_552 : (Jvm.Cond.instanceMethod ({ cls := "WearHours", name := "person", desc := "(III)I" } : Jvm.MethodName)) ∈ gt := gtn (tb3 51 rfl) rfl
theorem kw_553 : (Jvm.Cond.selects "WearHours" ({ cls := "WearHours", name := "person", desc := "(III)I" } : Jvm.MethodName) ({ cls := "WearHours", name := "person", desc := "(III)I" } : Jvm.MethodName)) ∈ gt := gtn (tb3 52 rfl) rfl
theorem kw_554 : (Jvm.Cond.code ({ cls := "WearHours", name := "person", desc := "(III)I" } : Jvm.MethodName) prog_1_method_10_code (4 : Nat) (Option.some Jvm.ClassFile.FieldType.int)) ∈ gt := gtn (tb3 53 rfl) rfl
theorem kw_555 : (Jvm.Cond.methodLink "WearHours" (146 : Nat) ({ cls := "WearHours", name := "checkSkill", desc := "(I)V" } : Jvm.MethodName)) ∈ gt := gtn (tb3 54 rfl) rfl
theorem kw_556 : (Jvm.Cond.static ({ cls := "WearHours", name := "checkSkill", desc := "(I)V" } : Jvm.MethodName)) ∈ gt := gtn (tb3 55 rfl) rfl
theorem kw_557 : (Jvm.Cond.code ({ cls := "WearHours", name := "checkSkill", desc := "(I)V" } : Jvm.MethodName) prog_1_method_22_code (1 : Nat) (Option.none : Option Jvm.ClassFile.FieldType)) ∈ gt := gtn (tb3 56 rfl) rfl
theorem kw_560 : (Jvm.Cond.methodLink "WearHours" (154 : Nat) ({ cls := "WearHours$Week", name := "addPerson", desc := "(III)V" } : Jvm.MethodName)) ∈ gt := gtn (tb3 59 rfl) rfl
theorem kw_561 : (Jvm.Cond.instanceMethod ({ cls := "WearHours$Week", name := "addPerson", desc := "(III)V" } : Jvm.MethodName)) ∈ gt := gtn (tb3 60 rfl) rfl
theorem kw_562 : (Jvm.Cond.selects "WearHours$Week" ({ cls := "WearHours$Week", name := "addPerson", desc := "(III)V" } : Jvm.MethodName) ({ cls := "WearHours$Week", name := "addPerson", desc := "(III)V" } : Jvm.MethodName)) ∈ gt := gtn (tb3 61 rfl) rfl
theorem kw_563 : (Jvm.Cond.code ({ cls := "WearHours$Week", name := "addPerson", desc := "(III)V" } : Jvm.MethodName) prog_7_method_3_code (5 : Nat) (Option.none : Option Jvm.ClassFile.FieldType)) ∈ gt := gtn (tb3 62 rfl) rfl
theorem kw_564 : (Jvm.Cond.methodLink "WearHoursLaw" (108 : Nat) ({ cls := "WearHoursLaw", name := "repair", desc := "(LWearHours;IIII[J)I" } : Jvm.MethodName)) ∈ gt := gtn (tb3 63 rfl) rfl
theorem kw_565 : (Jvm.Cond.static ({ cls := "WearHoursLaw", name := "repair", desc := "(LWearHours;IIII[J)I" } : Jvm.MethodName)) ∈ gt := gtn (tb3 64 rfl) rfl
theorem kw_566 : (Jvm.Cond.codeWith ({ cls := "WearHoursLaw", name := "repair", desc := "(LWearHours;IIII[J)I" } : Jvm.MethodName) method_11_code (7 : Nat) (Option.some Jvm.ClassFile.FieldType.int) [((0 : Nat), (14 : Nat), (17 : Nat), (20 : Nat)), ((0 : Nat), (14 : Nat), (21 : Nat), (13 : Nat)), ((0 : Nat), (14 : Nat), (25 : Nat), (15 : Nat))]) ∈ gt := gtn (tb3 65 rfl) rfl
theorem kw_567 : (Jvm.Cond.methodLink "WearHoursLaw" (44 : Nat) ({ cls := "WearHours", name := "repair", desc := "(IIII)I" } : Jvm.MethodName)) ∈ gt := gtn (tb3 66 rfl) rfl
theorem kw_568 : (Jvm.Cond.instanceMethod ({ cls := "WearHours", name := "repair", desc := "(IIII)I" } : Jvm.MethodName)) ∈ gt := gtn (tb3 67 rfl) rfl
theorem kw_569 : (Jvm.Cond.selects "WearHours" ({ cls := "WearHours", name := "repair", desc := "(IIII)I" } : Jvm.MethodName) ({ cls := "WearHours", name := "repair", desc := "(IIII)I" } : Jvm.MethodName)) ∈ gt := gtn (tb3 68 rfl) rfl
theorem kw_570 : (Jvm.Cond.code ({ cls := "WearHours", name := "repair", desc := "(IIII)I" } : Jvm.MethodName) prog_1_method_11_code (5 : Nat) (Option.some Jvm.ClassFile.FieldType.int)) ∈ gt := gtn (tb3 69 rfl) rfl
theorem kw_573 : (Jvm.Cond.methodLink "WearHours" (165 : Nat) ({ cls := "WearHours$Week", name := "addRepair", desc := "(IIII)V" } : Jvm.MethodName)) ∈ gt := gtn (tb3 72 rfl) rfl
theorem kw_574 : (Jvm.Cond.instanceMethod ({ cls := "WearHours$Week", name := "addRepair", desc := "(IIII)V" } : Jvm.MethodName)) ∈ gt := gtn (tb3 73 rfl) rfl
theorem kw_575 : (Jvm.Cond.selects "WearHours$Week" ({ cls := "WearHours$Week", name := "addRepair", desc := "(IIII)V" } : Jvm.MethodName) ({ cls := "WearHours$Week", name := "addRepair", desc := "(IIII)V" } : Jvm.MethodName)) ∈ gt := gtn (tb3 74 rfl) rfl
theorem kw_576 : (Jvm.Cond.code ({ cls := "WearHours$Week", name := "addRepair", desc := "(IIII)V" } : Jvm.MethodName) prog_7_method_4_code (6 : Nat) (Option.none : Option Jvm.ClassFile.FieldType)) ∈ gt := gtn (tb3 75 rfl) rfl
theorem kw_577 : (Jvm.Cond.methodLink "WearHours$Week" (67 : Nat) ({ cls := "WearHours$Repair", name := "unplace", desc := "()V" } : Jvm.MethodName)) ∈ gt := gtn (tb3 76 rfl) rfl
theorem kw_578 : (Jvm.Cond.methodLink "WearHoursLaw" (112 : Nat) ({ cls := "WearHoursLaw", name := "rules", desc := "(LWearHours;II)I" } : Jvm.MethodName)) ∈ gt := gtn (tb3 77 rfl) rfl
theorem kw_579 : (Jvm.Cond.static ({ cls := "WearHoursLaw", name := "rules", desc := "(LWearHours;II)I" } : Jvm.MethodName)) ∈ gt := gtn (tb3 78 rfl) rfl
theorem kw_580 : (Jvm.Cond.codeWith ({ cls := "WearHoursLaw", name := "rules", desc := "(LWearHours;II)I" } : Jvm.MethodName) method_12_code (4 : Nat) (Option.some Jvm.ClassFile.FieldType.int) [((0 : Nat), (6 : Nat), (9 : Nat), (13 : Nat))]) ∈ gt := gtn (tb3 79 rfl) rfl
theorem kw_581 : (Jvm.Cond.methodLink "WearHoursLaw" (48 : Nat) ({ cls := "WearHours", name := "rules", desc := "(II)V" } : Jvm.MethodName)) ∈ gt := gtn (tb3 80 rfl) rfl
theorem kw_582 : (Jvm.Cond.instanceMethod ({ cls := "WearHours", name := "rules", desc := "(II)V" } : Jvm.MethodName)) ∈ gt := gtn (tb3 81 rfl) rfl
theorem kw_583 : (Jvm.Cond.selects "WearHours" ({ cls := "WearHours", name := "rules", desc := "(II)V" } : Jvm.MethodName) ({ cls := "WearHours", name := "rules", desc := "(II)V" } : Jvm.MethodName)) ∈ gt := gtn (tb3 82 rfl) rfl
theorem kw_584 : (Jvm.Cond.code ({ cls := "WearHours", name := "rules", desc := "(II)V" } : Jvm.MethodName) prog_1_method_12_code (3 : Nat) (Option.none : Option Jvm.ClassFile.FieldType)) ∈ gt := gtn (tb3 83 rfl) rfl
theorem kw_586 : (Jvm.Cond.methodLink "WearHoursLaw" (120 : Nat) ({ cls := "WearHoursLaw", name := "at", desc := "(LWearHours;II[J)I" } : Jvm.MethodName)) ∈ gt := gtn (tb3 85 rfl) rfl
theorem kw_587 : (Jvm.Cond.static ({ cls := "WearHoursLaw", name := "at", desc := "(LWearHours;II[J)I" } : Jvm.MethodName)) ∈ gt := gtn (tb3 86 rfl) rfl
theorem kw_588 : (Jvm.Cond.codeWith ({ cls := "WearHoursLaw", name := "at", desc := "(LWearHours;II[J)I" } : Jvm.MethodName) method_13_code (5 : Nat) (Option.some Jvm.ClassFile.FieldType.int) [((0 : Nat), (10 : Nat), (13 : Nat), (20 : Nat)), ((0 : Nat), (10 : Nat), (17 : Nat), (22 : Nat))]) ∈ gt := gtn (tb3 87 rfl) rfl
theorem kw_589 : (Jvm.Cond.methodLink "WearHoursLaw" (52 : Nat) ({ cls := "WearHours", name := "at", desc := "(II)I" } : Jvm.MethodName)) ∈ gt := gtn (tb3 88 rfl) rfl
theorem kw_590 : (Jvm.Cond.instanceMethod ({ cls := "WearHours", name := "at", desc := "(II)I" } : Jvm.MethodName)) ∈ gt := gtn (tb3 89 rfl) rfl
theorem kw_591 : (Jvm.Cond.selects "WearHours" ({ cls := "WearHours", name := "at", desc := "(II)I" } : Jvm.MethodName) ({ cls := "WearHours", name := "at", desc := "(II)I" } : Jvm.MethodName)) ∈ gt := gtn (tb3 90 rfl) rfl
theorem kw_592 : (Jvm.Cond.code ({ cls := "WearHours", name := "at", desc := "(II)I" } : Jvm.MethodName) prog_1_method_14_code (4 : Nat) (Option.some Jvm.ClassFile.FieldType.int)) ∈ gt := gtn (tb3 91 rfl) rfl
theorem kw_594 : (Jvm.Cond.methodLink "WearHours" (188 : Nat) ({ cls := "WearHours", name := "checkPlan", desc := "()V" } : Jvm.MethodName)) ∈ gt := gtn (tb3 93 rfl) rfl
theorem kw_596 : (Jvm.Cond.instanceMethod ({ cls := "WearHours", name := "checkPlan", desc := "()V" } : Jvm.MethodName)) ∈ gt := gtn (tb3 95 rfl) rfl
theorem kw_597 : (Jvm.Cond.code ({ cls := "WearHours", name := "checkPlan", desc := "()V" } : Jvm.MethodName) prog_1_method_23_code (1 : Nat) (Option.none : Option Jvm.ClassFile.FieldType)) ∈ gt := gtn (tb3 96 rfl) rfl
theorem kw_599 : (Jvm.Cond.methodLink "WearHoursLaw" (123 : Nat) ({ cls := "WearHoursLaw", name := "cost", desc := "(LWearHours;[J)I" } : Jvm.MethodName)) ∈ gt := gtn (tb3 98 rfl) rfl
theorem kw_600 : (Jvm.Cond.static ({ cls := "WearHoursLaw", name := "cost", desc := "(LWearHours;[J)I" } : Jvm.MethodName)) ∈ gt := gtn (tb3 99 rfl) rfl
theorem kw_601 : (Jvm.Cond.codeWith ({ cls := "WearHoursLaw", name := "cost", desc := "(LWearHours;[J)I" } : Jvm.MethodName) method_14_code (3 : Nat) (Option.some Jvm.ClassFile.FieldType.int) [((0 : Nat), (8 : Nat), (11 : Nat), (22 : Nat))]) ∈ gt := gtn (tb3 100 rfl) rfl
theorem kw_602 : (Jvm.Cond.methodLink "WearHoursLaw" (55 : Nat) ({ cls := "WearHours", name := "cost", desc := "()I" } : Jvm.MethodName)) ∈ gt := gtn (tb3 101 rfl) rfl
theorem kw_603 : (Jvm.Cond.instanceMethod ({ cls := "WearHours", name := "cost", desc := "()I" } : Jvm.MethodName)) ∈ gt := gtn (tb3 102 rfl) rfl
theorem kw_604 : (Jvm.Cond.selects "WearHours" ({ cls := "WearHours", name := "cost", desc := "()I" } : Jvm.MethodName) ({ cls := "WearHours", name := "cost", desc := "()I" } : Jvm.MethodName)) ∈ gt := gtn (tb3 103 rfl) rfl
theorem kw_605 : (Jvm.Cond.code ({ cls := "WearHours", name := "cost", desc := "()I" } : Jvm.MethodName) prog_1_method_15_code (1 : Nat) (Option.some Jvm.ClassFile.FieldType.int)) ∈ gt := gtn (tb3 104 rfl) rfl
theorem kw_606 : (Jvm.Cond.methodLink "WearHoursLaw" (127 : Nat) ({ cls := "WearHoursLaw", name := "done", desc := "(LWearHours;[J)I" } : Jvm.MethodName)) ∈ gt := gtn (tb3 105 rfl) rfl
theorem kw_607 : (Jvm.Cond.static ({ cls := "WearHoursLaw", name := "done", desc := "(LWearHours;[J)I" } : Jvm.MethodName)) ∈ gt := gtn (tb3 106 rfl) rfl
theorem kw_608 : (Jvm.Cond.codeWith ({ cls := "WearHoursLaw", name := "done", desc := "(LWearHours;[J)I" } : Jvm.MethodName) method_15_code (3 : Nat) (Option.some Jvm.ClassFile.FieldType.int) [((0 : Nat), (8 : Nat), (11 : Nat), (22 : Nat))]) ∈ gt := gtn (tb3 107 rfl) rfl
theorem kw_609 : (Jvm.Cond.methodLink "WearHoursLaw" (59 : Nat) ({ cls := "WearHours", name := "done", desc := "()I" } : Jvm.MethodName)) ∈ gt := gtn (tb3 108 rfl) rfl
theorem kw_610 : (Jvm.Cond.instanceMethod ({ cls := "WearHours", name := "done", desc := "()I" } : Jvm.MethodName)) ∈ gt := gtn (tb3 109 rfl) rfl
theorem kw_611 : (Jvm.Cond.selects "WearHours" ({ cls := "WearHours", name := "done", desc := "()I" } : Jvm.MethodName) ({ cls := "WearHours", name := "done", desc := "()I" } : Jvm.MethodName)) ∈ gt := gtn (tb3 110 rfl) rfl
theorem kw_612 : (Jvm.Cond.code ({ cls := "WearHours", name := "done", desc := "()I" } : Jvm.MethodName) prog_1_method_16_code (4 : Nat) (Option.some Jvm.ClassFile.FieldType.int)) ∈ gt := gtn (tb3 111 rfl) rfl
theorem kw_613 : (Jvm.Cond.methodLink "WearHours" (209 : Nat) ({ cls := "WearHours$Repair", name := "isPlaced", desc := "()Z" } : Jvm.MethodName)) ∈ gt := gtn (tb3 112 rfl) rfl
theorem kw_614 : (Jvm.Cond.methodLink "WearHours" (218 : Nat) ({ cls := "WearHours$Thing", name := "mend", desc := "()V" } : Jvm.MethodName)) ∈ gt := gtn (tb3 113 rfl) rfl
theorem kw_615 : (Jvm.Cond.instanceMethod ({ cls := "WearHours$Thing", name := "mend", desc := "()V" } : Jvm.MethodName)) ∈ gt := gtn (tb3 114 rfl) rfl
theorem kw_616 : (Jvm.Cond.selects "WearHours$Thing" ({ cls := "WearHours$Thing", name := "mend", desc := "()V" } : Jvm.MethodName) ({ cls := "WearHours$Thing", name := "mend", desc := "()V" } : Jvm.MethodName)) ∈ gt := gtn (tb3 115 rfl) rfl
theorem kw_617 : (Jvm.Cond.code ({ cls := "WearHours$Thing", name := "mend", desc := "()V" } : Jvm.MethodName) prog_6_method_6_code (1 : Nat) (Option.none : Option Jvm.ClassFile.FieldType)) ∈ gt := gtn (tb3 116 rfl) rfl
theorem kw_618 : (Jvm.Cond.methodLink "WearHoursLaw" (130 : Nat) ({ cls := "WearHoursLaw", name := "spare", desc := "(LWearHours;II[J)I" } : Jvm.MethodName)) ∈ gt := gtn (tb3 117 rfl) rfl
theorem kw_619 : (Jvm.Cond.static ({ cls := "WearHoursLaw", name := "spare", desc := "(LWearHours;II[J)I" } : Jvm.MethodName)) ∈ gt := gtn (tb3 118 rfl) rfl
theorem kw_620 : (Jvm.Cond.codeWith ({ cls := "WearHoursLaw", name := "spare", desc := "(LWearHours;II[J)I" } : Jvm.MethodName) method_16_code (5 : Nat) (Option.some Jvm.ClassFile.FieldType.int) [((0 : Nat), (10 : Nat), (13 : Nat), (20 : Nat)), ((0 : Nat), (10 : Nat), (17 : Nat), (13 : Nat)), ((0 : Nat), (10 : Nat), (21 : Nat), (15 : Nat))]) ∈ gt := gtn (tb3 119 rfl) rfl
theorem kw_621 : (Jvm.Cond.methodLink "WearHoursLaw" (62 : Nat) ({ cls := "WearHours", name := "spare", desc := "(II)I" } : Jvm.MethodName)) ∈ gt := gtn (tb3 120 rfl) rfl
theorem kw_622 : (Jvm.Cond.instanceMethod ({ cls := "WearHours", name := "spare", desc := "(II)I" } : Jvm.MethodName)) ∈ gt := gtn (tb3 121 rfl) rfl
theorem kw_623 : (Jvm.Cond.selects "WearHours" ({ cls := "WearHours", name := "spare", desc := "(II)I" } : Jvm.MethodName) ({ cls := "WearHours", name := "spare", desc := "(II)I" } : Jvm.MethodName)) ∈ gt := gtn (tb3 122 rfl) rfl
theorem kw_624 : (Jvm.Cond.code ({ cls := "WearHours", name := "spare", desc := "(II)I" } : Jvm.MethodName) prog_1_method_17_code (3 : Nat) (Option.some Jvm.ClassFile.FieldType.int)) ∈ gt := gtn (tb3 123 rfl) rfl
theorem kw_628 : (Jvm.Cond.classLink "WearHoursLaw" (66 : Nat) "WearHoursModel") ∈ gt := gtn (tb3 127 rfl) rfl
theorem kw_629 : (Jvm.Cond.instantiable "WearHoursModel" (32 : Nat)) ∈ gt := gtn (tb3 128 rfl) rfl
theorem kw_630 : (Jvm.Cond.methodLink "WearHoursLaw" (68 : Nat) ({ cls := "WearHoursModel", name := "<init>", desc := "()V" } : Jvm.MethodName)) ∈ gt := gtn (tb3 129 rfl) rfl
theorem kw_631 : (Jvm.Cond.instanceMethod ({ cls := "WearHoursModel", name := "<init>", desc := "()V" } : Jvm.MethodName)) ∈ gt := gtn (tb3 130 rfl) rfl
theorem kw_632 : (Jvm.Cond.code ({ cls := "WearHoursModel", name := "<init>", desc := "()V" } : Jvm.MethodName) prog_9_method_1_code (1 : Nat) (Option.none : Option Jvm.ClassFile.FieldType)) ∈ gt := gtn (tb3 131 rfl) rfl
theorem kw_633 : (Jvm.Cond.methodLink "WearHoursModel" (1 : Nat) ({ cls := "java/lang/Object", name := "<init>", desc := "()V" } : Jvm.MethodName)) ∈ gt := gtn (tb3 132 rfl) rfl
theorem kw_634 : (Jvm.Cond.fieldLink "WearHoursModel" (88 : Nat) "WearHoursModel" "thrown" "I") ∈ gt := gtn (tb3 133 rfl) rfl
theorem kw_635 : (Jvm.Cond.fieldLink "WearHoursModel" (7 : Nat) "WearHoursModel" "seed" "J") ∈ gt := gtn (tb3 134 rfl) rfl
theorem kw_636 : (Jvm.Cond.fieldLink "WearHoursModel" (91 : Nat) "WearHoursModel" "things" "I") ∈ gt := gtn (tb3 135 rfl) rfl
theorem kw_637 : (Jvm.Cond.fieldLink "WearHoursModel" (13 : Nat) "WearHoursModel" "life" "[I") ∈ gt := gtn (tb3 136 rfl) rfl
theorem kw_638 : (Jvm.Cond.fieldLink "WearHoursModel" (17 : Nat) "WearHoursModel" "bound" "[I") ∈ gt := gtn (tb3 137 rfl) rfl
theorem kw_639 : (Jvm.Cond.fieldLink "WearHoursModel" (20 : Nat) "WearHoursModel" "used" "[I") ∈ gt := gtn (tb3 138 rfl) rfl
theorem kw_640 : (Jvm.Cond.fieldLink "WearHoursModel" (23 : Nat) "WearHoursModel" "closed" "[Z") ∈ gt := gtn (tb3 139 rfl) rfl
theorem kw_641 : (Jvm.Cond.fieldLink "WearHoursModel" (27 : Nat) "WearHoursModel" "history" "[I") ∈ gt := gtn (tb3 140 rfl) rfl
theorem kw_642 : (Jvm.Cond.fieldLink "WearHoursModel" (130 : Nat) "WearHoursModel" "gaps" "I") ∈ gt := gtn (tb3 141 rfl) rfl
theorem kw_643 : (Jvm.Cond.fieldLink "WearHoursModel" (30 : Nat) "WearHoursModel" "gapFrom" "[I") ∈ gt := gtn (tb3 142 rfl) rfl
theorem kw_644 : (Jvm.Cond.fieldLink "WearHoursModel" (33 : Nat) "WearHoursModel" "gapTo" "[I") ∈ gt := gtn (tb3 143 rfl) rfl
theorem kw_645 : (Jvm.Cond.fieldLink "WearHoursModel" (137 : Nat) "WearHoursModel" "persons" "I") ∈ gt := gtn (tb3 144 rfl) rfl
theorem kw_646 : (Jvm.Cond.fieldLink "WearHoursModel" (36 : Nat) "WearHoursModel" "personSkill" "[I") ∈ gt := gtn (tb3 145 rfl) rfl
theorem kw_647 : (Jvm.Cond.fieldLink "WearHoursModel" (39 : Nat) "WearHoursModel" "personFrom" "[I") ∈ gt := gtn (tb3 146 rfl) rfl
theorem kw_648 : (Jvm.Cond.fieldLink "WearHoursModel" (42 : Nat) "WearHoursModel" "personTo" "[I") ∈ gt := gtn (tb3 147 rfl) rfl
theorem kw_649 : (Jvm.Cond.fieldLink "WearHoursModel" (140 : Nat) "WearHoursModel" "repairs" "I") ∈ gt := gtn (tb3 148 rfl) rfl
theorem kw_650 : (Jvm.Cond.fieldLink "WearHoursModel" (45 : Nat) "WearHoursModel" "thing" "[I") ∈ gt := gtn (tb3 149 rfl) rfl
theorem kw_651 : (Jvm.Cond.fieldLink "WearHoursModel" (48 : Nat) "WearHoursModel" "hours" "[I") ∈ gt := gtn (tb3 150 rfl) rfl
theorem kw_652 : (Jvm.Cond.fieldLink "WearHoursModel" (51 : Nat) "WearHoursModel" "skill" "[I") ∈ gt := gtn (tb3 151 rfl) rfl
theorem kw_653 : (Jvm.Cond.fieldLink "WearHoursModel" (54 : Nat) "WearHoursModel" "waiting" "[I") ∈ gt := gtn (tb3 152 rfl) rfl
theorem kw_654 : (Jvm.Cond.fieldLink "WearHoursModel" (57 : Nat) "WearHoursModel" "rest" "I") ∈ gt := gtn (tb3 153 rfl) rfl
theorem kw_655 : (Jvm.Cond.fieldLink "WearHoursModel" (61 : Nat) "WearHoursModel" "failing" "I") ∈ gt := gtn (tb3 154 rfl) rfl
theorem kw_656 : (Jvm.Cond.fieldLink "WearHoursModel" (64 : Nat) "WearHoursModel" "spares" "[I") ∈ gt := gtn (tb3 155 rfl) rfl
theorem kw_657 : (Jvm.Cond.fieldLink "WearHoursModel" (133 : Nat) "WearHoursModel" "planned" "Z") ∈ gt := gtn (tb3 156 rfl) rfl
theorem kw_658 : (Jvm.Cond.fieldLink "WearHoursModel" (147 : Nat) "WearHoursModel" "planCost" "I") ∈ gt := gtn (tb3 157 rfl) rfl
theorem kw_659 : (Jvm.Cond.fieldLink "WearHoursModel" (67 : Nat) "WearHoursModel" "planHour" "[I") ∈ gt := gtn (tb3 158 rfl) rfl
theorem kw_660 : (Jvm.Cond.fieldLink "WearHoursModel" (70 : Nat) "WearHoursModel" "planChoice" "[I") ∈ gt := gtn (tb3 159 rfl) rfl
theorem kw_661 : (Jvm.Cond.fieldLink "WearHoursModel" (73 : Nat) "WearHoursModel" "busyPerson" "[I") ∈ gt := gtn (tb3 160 rfl) rfl
theorem kw_662 : (Jvm.Cond.fieldLink "WearHoursModel" (76 : Nat) "WearHoursModel" "busyThing" "[I") ∈ gt := gtn (tb3 161 rfl) rfl
theorem kw_663 : (Jvm.Cond.fieldLink "WearHoursModel" (79 : Nat) "WearHoursModel" "cost" "[I") ∈ gt := gtn (tb3 162 rfl) rfl
theorem kw_664 : (Jvm.Cond.fieldLink "WearHoursModel" (82 : Nat) "WearHoursModel" "choice" "[I") ∈ gt := gtn (tb3 163 rfl) rfl
theorem kw_665 : (Jvm.Cond.fieldLink "WearHoursModel" (85 : Nat) "WearHoursModel" "hour" "[I") ∈ gt := gtn (tb3 164 rfl) rfl
theorem kw_666 : (Jvm.Cond.lays "WearHoursModel" "WearHoursModel" "thrown" "I") ∈ gt := gtn (tb3 165 rfl) rfl
theorem kw_668 : (Jvm.Cond.lays "WearHoursModel" "WearHoursModel" "seed" "J") ∈ gt := gtn (tb3 167 rfl) rfl
theorem kw_670 : (Jvm.Cond.lays "WearHoursModel" "WearHoursModel" "things" "I") ∈ gt := gtn (tb3 169 rfl) rfl
theorem kw_672 : (Jvm.Cond.laysFinal "WearHoursModel" "WearHoursModel" "life" "[I") ∈ gt := gtn (tb3 171 rfl) rfl
theorem kw_674 : (Jvm.Cond.laysFinal "WearHoursModel" "WearHoursModel" "bound" "[I") ∈ gt := gtn (tb3 173 rfl) rfl
theorem kw_676 : (Jvm.Cond.laysFinal "WearHoursModel" "WearHoursModel" "used" "[I") ∈ gt := gtn (tb3 175 rfl) rfl
theorem kw_678 : (Jvm.Cond.laysFinal "WearHoursModel" "WearHoursModel" "closed" "[Z") ∈ gt := gtn (tb3 177 rfl) rfl
theorem kw_680 : (Jvm.Cond.laysFinal "WearHoursModel" "WearHoursModel" "history" "[I") ∈ gt := gtn (tb3 179 rfl) rfl
theorem kw_682 : (Jvm.Cond.lays "WearHoursModel" "WearHoursModel" "gaps" "I") ∈ gt := gtn (tb3 181 rfl) rfl
theorem kw_684 : (Jvm.Cond.laysFinal "WearHoursModel" "WearHoursModel" "gapFrom" "[I") ∈ gt := gtn (tb3 183 rfl) rfl
theorem kw_686 : (Jvm.Cond.laysFinal "WearHoursModel" "WearHoursModel" "gapTo" "[I") ∈ gt := gtn (tb3 185 rfl) rfl
theorem kw_688 : (Jvm.Cond.lays "WearHoursModel" "WearHoursModel" "persons" "I") ∈ gt := gtn (tb3 187 rfl) rfl
theorem kw_690 : (Jvm.Cond.laysFinal "WearHoursModel" "WearHoursModel" "personSkill" "[I") ∈ gt := gtn (tb3 189 rfl) rfl
theorem kw_692 : (Jvm.Cond.laysFinal "WearHoursModel" "WearHoursModel" "personFrom" "[I") ∈ gt := gtn (tb3 191 rfl) rfl
theorem kw_694 : (Jvm.Cond.laysFinal "WearHoursModel" "WearHoursModel" "personTo" "[I") ∈ gt := gtn (tb3 193 rfl) rfl
theorem kw_696 : (Jvm.Cond.lays "WearHoursModel" "WearHoursModel" "repairs" "I") ∈ gt := gtn (tb3 195 rfl) rfl
theorem kw_698 : (Jvm.Cond.laysFinal "WearHoursModel" "WearHoursModel" "thing" "[I") ∈ gt := gtn (tb3 197 rfl) rfl
theorem kw_700 : (Jvm.Cond.laysFinal "WearHoursModel" "WearHoursModel" "hours" "[I") ∈ gt := gtn (tb3 199 rfl) rfl
theorem kw_702 : (Jvm.Cond.laysFinal "WearHoursModel" "WearHoursModel" "skill" "[I") ∈ gt := gtn (tb3 201 rfl) rfl
theorem kw_704 : (Jvm.Cond.laysFinal "WearHoursModel" "WearHoursModel" "waiting" "[I") ∈ gt := gtn (tb3 203 rfl) rfl
theorem kw_706 : (Jvm.Cond.lays "WearHoursModel" "WearHoursModel" "rest" "I") ∈ gt := gtn (tb3 205 rfl) rfl
theorem kw_708 : (Jvm.Cond.lays "WearHoursModel" "WearHoursModel" "failing" "I") ∈ gt := gtn (tb3 207 rfl) rfl
theorem kw_710 : (Jvm.Cond.laysFinal "WearHoursModel" "WearHoursModel" "spares" "[I") ∈ gt := gtn (tb3 209 rfl) rfl
theorem kw_712 : (Jvm.Cond.lays "WearHoursModel" "WearHoursModel" "planned" "Z") ∈ gt := gtn (tb3 211 rfl) rfl
theorem kw_714 : (Jvm.Cond.lays "WearHoursModel" "WearHoursModel" "planCost" "I") ∈ gt := gtn (tb3 213 rfl) rfl
theorem kw_716 : (Jvm.Cond.laysFinal "WearHoursModel" "WearHoursModel" "planHour" "[I") ∈ gt := gtn (tb3 215 rfl) rfl
theorem kw_718 : (Jvm.Cond.laysFinal "WearHoursModel" "WearHoursModel" "planChoice" "[I") ∈ gt := gtn (tb3 217 rfl) rfl
theorem kw_720 : (Jvm.Cond.laysFinal "WearHoursModel" "WearHoursModel" "busyPerson" "[I") ∈ gt := gtn (tb3 219 rfl) rfl
theorem kw_722 : (Jvm.Cond.laysFinal "WearHoursModel" "WearHoursModel" "busyThing" "[I") ∈ gt := gtn (tb3 221 rfl) rfl
theorem kw_724 : (Jvm.Cond.laysFinal "WearHoursModel" "WearHoursModel" "cost" "[I") ∈ gt := gtn (tb3 223 rfl) rfl
theorem kw_726 : (Jvm.Cond.laysFinal "WearHoursModel" "WearHoursModel" "choice" "[I") ∈ gt := gtn (tb3 225 rfl) rfl
theorem kw_728 : (Jvm.Cond.laysFinal "WearHoursModel" "WearHoursModel" "hour" "[I") ∈ gt := gtn (tb3 227 rfl) rfl
theorem kw_731 : (Jvm.Cond.arrayClass Jvm.ClassFile.FieldType.boolean) ∈ gt := gtn (tb3 230 rfl) rfl
theorem kw_732 : (Jvm.Cond.methodLink "WearHoursLaw" (82 : Nat) ({ cls := "WearHoursModel", name := "thrown", desc := "()I" } : Jvm.MethodName)) ∈ gt := gtn (tb3 231 rfl) rfl
theorem kw_733 : (Jvm.Cond.instanceMethod ({ cls := "WearHoursModel", name := "thrown", desc := "()I" } : Jvm.MethodName)) ∈ gt := gtn (tb3 232 rfl) rfl
theorem kw_734 : (Jvm.Cond.selects "WearHoursModel" ({ cls := "WearHoursModel", name := "thrown", desc := "()I" } : Jvm.MethodName) ({ cls := "WearHoursModel", name := "thrown", desc := "()I" } : Jvm.MethodName)) ∈ gt := gtn (tb3 233 rfl) rfl
theorem kw_735 : (Jvm.Cond.code ({ cls := "WearHoursModel", name := "thrown", desc := "()I" } : Jvm.MethodName) prog_9_method_2_code (1 : Nat) (Option.some Jvm.ClassFile.FieldType.int)) ∈ gt := gtn (tb3 234 rfl) rfl
theorem kw_736 : (Jvm.Cond.methodLink "WearHoursLaw" (75 : Nat) ({ cls := "WearHoursModel", name := "seed", desc := "(J)V" } : Jvm.MethodName)) ∈ gt := gtn (tb3 235 rfl) rfl
theorem kw_737 : (Jvm.Cond.instanceMethod ({ cls := "WearHoursModel", name := "seed", desc := "(J)V" } : Jvm.MethodName)) ∈ gt := gtn (tb3 236 rfl) rfl
theorem kw_738 : (Jvm.Cond.selects "WearHoursModel" ({ cls := "WearHoursModel", name := "seed", desc := "(J)V" } : Jvm.MethodName) ({ cls := "WearHoursModel", name := "seed", desc := "(J)V" } : Jvm.MethodName)) ∈ gt := gtn (tb3 237 rfl) rfl
theorem kw_739 : (Jvm.Cond.code ({ cls := "WearHoursModel", name := "seed", desc := "(J)V" } : Jvm.MethodName) prog_9_method_6_code (3 : Nat) (Option.none : Option Jvm.ClassFile.FieldType)) ∈ gt := gtn (tb3 238 rfl) rfl
theorem kw_740 : (Jvm.Cond.methodLink "WearHoursLaw" (81 : Nat) ({ cls := "WearHoursModel", name := "thing", desc := "(II)I" } : Jvm.MethodName)) ∈ gt := gtn (tb3 239 rfl) rfl
theorem kw_741 : (Jvm.Cond.instanceMethod ({ cls := "WearHoursModel", name := "thing", desc := "(II)I" } : Jvm.MethodName)) ∈ gt := gtn (tb4 0 rfl) rfl
theorem kw_742 : (Jvm.Cond.selects "WearHoursModel" ({ cls := "WearHoursModel", name := "thing", desc := "(II)I" } : Jvm.MethodName) ({ cls := "WearHoursModel", name := "thing", desc := "(II)I" } : Jvm.MethodName)) ∈ gt := gtn (tb4 1 rfl) rfl
theorem kw_743 : (Jvm.Cond.code ({ cls := "WearHoursModel", name := "thing", desc := "(II)I" } : Jvm.MethodName) prog_9_method_7_code (4 : Nat) (Option.some Jvm.ClassFile.FieldType.int)) ∈ gt := gtn (tb4 2 rfl) rfl
theorem kw_744 : (Jvm.Cond.constant "WearHoursModel" (98 : Nat) (1000000 : Int32)) ∈ gt := gtn (tb4 3 rfl) rfl
theorem kw_745 : (Jvm.Cond.methodLink "WearHoursModel" (94 : Nat) ({ cls := "WearHoursModel", name := "in", desc := "(III)Z" } : Jvm.MethodName)) ∈ gt := gtn (tb4 4 rfl) rfl
theorem kw_746 : (Jvm.Cond.static ({ cls := "WearHoursModel", name := "in", desc := "(III)Z" } : Jvm.MethodName)) ∈ gt := gtn (tb4 5 rfl) rfl
theorem kw_747 : (Jvm.Cond.code ({ cls := "WearHoursModel", name := "in", desc := "(III)Z" } : Jvm.MethodName) prog_9_method_3_code (3 : Nat) (Option.some Jvm.ClassFile.FieldType.boolean)) ∈ gt := gtn (tb4 6 rfl) rfl
theorem kw_748 : (Jvm.Cond.methodLink "WearHoursModel" (99 : Nat) ({ cls := "WearHoursModel", name := "goes", desc := "(ZZZ)Z" } : Jvm.MethodName)) ∈ gt := gtn (tb4 7 rfl) rfl
theorem kw_750 : (Jvm.Cond.instanceMethod ({ cls := "WearHoursModel", name := "goes", desc := "(ZZZ)Z" } : Jvm.MethodName)) ∈ gt := gtn (tb4 9 rfl) rfl
theorem kw_751 : (Jvm.Cond.code ({ cls := "WearHoursModel", name := "goes", desc := "(ZZZ)Z" } : Jvm.MethodName) prog_9_method_4_code (4 : Nat) (Option.some Jvm.ClassFile.FieldType.boolean)) ∈ gt := gtn (tb4 10 rfl) rfl
theorem kw_752 : (Jvm.Cond.methodLink "WearHoursLaw" (87 : Nat) ({ cls := "WearHoursModel", name := "use", desc := "(II)I" } : Jvm.MethodName)) ∈ gt := gtn (tb4 11 rfl) rfl
theorem kw_753 : (Jvm.Cond.instanceMethod ({ cls := "WearHoursModel", name := "use", desc := "(II)I" } : Jvm.MethodName)) ∈ gt := gtn (tb4 12 rfl) rfl
theorem kw_754 : (Jvm.Cond.selects "WearHoursModel" ({ cls := "WearHoursModel", name := "use", desc := "(II)I" } : Jvm.MethodName) ({ cls := "WearHoursModel", name := "use", desc := "(II)I" } : Jvm.MethodName)) ∈ gt := gtn (tb4 13 rfl) rfl
theorem kw_755 : (Jvm.Cond.code ({ cls := "WearHoursModel", name := "use", desc := "(II)I" } : Jvm.MethodName) prog_9_method_10_code (4 : Nat) (Option.some Jvm.ClassFile.FieldType.int)) ∈ gt := gtn (tb4 14 rfl) rfl
theorem kw_756 : (Jvm.Cond.methodLink "WearHoursModel" (103 : Nat) ({ cls := "WearHoursModel", name := "isThing", desc := "(I)Z" } : Jvm.MethodName)) ∈ gt := gtn (tb4 15 rfl) rfl
theorem kw_758 : (Jvm.Cond.instanceMethod ({ cls := "WearHoursModel", name := "isThing", desc := "(I)Z" } : Jvm.MethodName)) ∈ gt := gtn (tb4 17 rfl) rfl
theorem kw_759 : (Jvm.Cond.code ({ cls := "WearHoursModel", name := "isThing", desc := "(I)Z" } : Jvm.MethodName) prog_9_method_5_code (2 : Nat) (Option.some Jvm.ClassFile.FieldType.boolean)) ∈ gt := gtn (tb4 18 rfl) rfl
theorem kw_760 : (Jvm.Cond.methodLink "WearHoursModel" (107 : Nat) ({ cls := "WearHoursModel", name := "isBarred", desc := "(I)Z" } : Jvm.MethodName)) ∈ gt := gtn (tb4 19 rfl) rfl
theorem kw_762 : (Jvm.Cond.instanceMethod ({ cls := "WearHoursModel", name := "isBarred", desc := "(I)Z" } : Jvm.MethodName)) ∈ gt := gtn (tb4 21 rfl) rfl
theorem kw_763 : (Jvm.Cond.code ({ cls := "WearHoursModel", name := "isBarred", desc := "(I)Z" } : Jvm.MethodName) prog_9_method_9_code (2 : Nat) (Option.some Jvm.ClassFile.FieldType.boolean)) ∈ gt := gtn (tb4 22 rfl) rfl
theorem kw_764 : (Jvm.Cond.methodLink "WearHoursModel" (110 : Nat) ({ cls := "WearHoursModel", name := "keep", desc := "(II)V" } : Jvm.MethodName)) ∈ gt := gtn (tb4 23 rfl) rfl
theorem kw_766 : (Jvm.Cond.instanceMethod ({ cls := "WearHoursModel", name := "keep", desc := "(II)V" } : Jvm.MethodName)) ∈ gt := gtn (tb4 25 rfl) rfl
theorem kw_767 : (Jvm.Cond.code ({ cls := "WearHoursModel", name := "keep", desc := "(II)V" } : Jvm.MethodName) prog_9_method_8_code (4 : Nat) (Option.none : Option Jvm.ClassFile.FieldType)) ∈ gt := gtn (tb4 26 rfl) rfl
theorem kw_768 : (Jvm.Cond.methodLink "WearHoursLaw" (90 : Nat) ({ cls := "WearHoursModel", name := "told", desc := "(II)I" } : Jvm.MethodName)) ∈ gt := gtn (tb4 27 rfl) rfl
theorem kw_769 : (Jvm.Cond.instanceMethod ({ cls := "WearHoursModel", name := "told", desc := "(II)I" } : Jvm.MethodName)) ∈ gt := gtn (tb4 28 rfl) rfl
theorem kw_770 : (Jvm.Cond.selects "WearHoursModel" ({ cls := "WearHoursModel", name := "told", desc := "(II)I" } : Jvm.MethodName) ({ cls := "WearHoursModel", name := "told", desc := "(II)I" } : Jvm.MethodName)) ∈ gt := gtn (tb4 29 rfl) rfl
theorem kw_771 : (Jvm.Cond.code ({ cls := "WearHoursModel", name := "told", desc := "(II)I" } : Jvm.MethodName) prog_9_method_11_code (3 : Nat) (Option.some Jvm.ClassFile.FieldType.int)) ∈ gt := gtn (tb4 30 rfl) rfl
theorem kw_772 : (Jvm.Cond.methodLink "WearHoursLaw" (93 : Nat) ({ cls := "WearHoursModel", name := "left", desc := "(II)I" } : Jvm.MethodName)) ∈ gt := gtn (tb4 31 rfl) rfl
theorem kw_773 : (Jvm.Cond.instanceMethod ({ cls := "WearHoursModel", name := "left", desc := "(II)I" } : Jvm.MethodName)) ∈ gt := gtn (tb4 32 rfl) rfl
theorem kw_774 : (Jvm.Cond.selects "WearHoursModel" ({ cls := "WearHoursModel", name := "left", desc := "(II)I" } : Jvm.MethodName) ({ cls := "WearHoursModel", name := "left", desc := "(II)I" } : Jvm.MethodName)) ∈ gt := gtn (tb4 33 rfl) rfl
theorem kw_775 : (Jvm.Cond.code ({ cls := "WearHoursModel", name := "left", desc := "(II)I" } : Jvm.MethodName) prog_9_method_13_code (7 : Nat) (Option.some Jvm.ClassFile.FieldType.int)) ∈ gt := gtn (tb4 34 rfl) rfl
theorem kw_776 : (Jvm.Cond.methodLink "WearHoursModel" (120 : Nat) ({ cls := "WearHoursModel", name := "number", desc := "(I)J" } : Jvm.MethodName)) ∈ gt := gtn (tb4 35 rfl) rfl
theorem kw_778 : (Jvm.Cond.instanceMethod ({ cls := "WearHoursModel", name := "number", desc := "(I)J" } : Jvm.MethodName)) ∈ gt := gtn (tb4 37 rfl) rfl
theorem kw_779 : (Jvm.Cond.code ({ cls := "WearHoursModel", name := "number", desc := "(I)J" } : Jvm.MethodName) prog_9_method_12_code (4 : Nat) (Option.some Jvm.ClassFile.FieldType.long)) ∈ gt := gtn (tb4 38 rfl) rfl
theorem kw_780 : (Jvm.Cond.constantLong "WearHoursModel" (114 : Nat) (-7046029254386353131 : Int64)) ∈ gt := gtn (tb4 39 rfl) rfl
theorem kw_781 : (Jvm.Cond.constantLong "WearHoursModel" (116 : Nat) (-4658895280553007687 : Int64)) ∈ gt := gtn (tb4 40 rfl) rfl
theorem kw_782 : (Jvm.Cond.constantLong "WearHoursModel" (118 : Nat) (-7723592293110705685 : Int64)) ∈ gt := gtn (tb4 41 rfl) rfl
theorem kw_783 : (Jvm.Cond.constantLong "WearHoursModel" (124 : Nat) (101 : Int64)) ∈ gt := gtn (tb4 42 rfl) rfl
theorem kw_784 : (Jvm.Cond.methodLink "WearHoursLaw" (97 : Nat) ({ cls := "WearHoursModel", name := "permit", desc := "(IZ)V" } : Jvm.MethodName)) ∈ gt := gtn (tb4 43 rfl) rfl
theorem kw_785 : (Jvm.Cond.instanceMethod ({ cls := "WearHoursModel", name := "permit", desc := "(IZ)V" } : Jvm.MethodName)) ∈ gt := gtn (tb4 44 rfl) rfl
theorem kw_786 : (Jvm.Cond.selects "WearHoursModel" ({ cls := "WearHoursModel", name := "permit", desc := "(IZ)V" } : Jvm.MethodName) ({ cls := "WearHoursModel", name := "permit", desc := "(IZ)V" } : Jvm.MethodName)) ∈ gt := gtn (tb4 45 rfl) rfl
theorem kw_787 : (Jvm.Cond.code ({ cls := "WearHoursModel", name := "permit", desc := "(IZ)V" } : Jvm.MethodName) prog_9_method_14_code (4 : Nat) (Option.none : Option Jvm.ClassFile.FieldType)) ∈ gt := gtn (tb4 46 rfl) rfl
theorem kw_788 : (Jvm.Cond.methodLink "WearHoursLaw" (100 : Nat) ({ cls := "WearHoursModel", name := "history", desc := "(II)I" } : Jvm.MethodName)) ∈ gt := gtn (tb4 47 rfl) rfl
theorem kw_789 : (Jvm.Cond.instanceMethod ({ cls := "WearHoursModel", name := "history", desc := "(II)I" } : Jvm.MethodName)) ∈ gt := gtn (tb4 48 rfl) rfl
theorem kw_790 : (Jvm.Cond.selects "WearHoursModel" ({ cls := "WearHoursModel", name := "history", desc := "(II)I" } : Jvm.MethodName) ({ cls := "WearHoursModel", name := "history", desc := "(II)I" } : Jvm.MethodName)) ∈ gt := gtn (tb4 49 rfl) rfl
theorem kw_791 : (Jvm.Cond.code ({ cls := "WearHoursModel", name := "history", desc := "(II)I" } : Jvm.MethodName) prog_9_method_15_code (3 : Nat) (Option.some Jvm.ClassFile.FieldType.int)) ∈ gt := gtn (tb4 50 rfl) rfl
theorem kw_792 : (Jvm.Cond.methodLink "WearHoursLaw" (103 : Nat) ({ cls := "WearHoursModel", name := "gap", desc := "(II)I" } : Jvm.MethodName)) ∈ gt := gtn (tb4 51 rfl) rfl
theorem kw_793 : (Jvm.Cond.instanceMethod ({ cls := "WearHoursModel", name := "gap", desc := "(II)I" } : Jvm.MethodName)) ∈ gt := gtn (tb4 52 rfl) rfl
theorem kw_794 : (Jvm.Cond.selects "WearHoursModel" ({ cls := "WearHoursModel", name := "gap", desc := "(II)I" } : Jvm.MethodName) ({ cls := "WearHoursModel", name := "gap", desc := "(II)I" } : Jvm.MethodName)) ∈ gt := gtn (tb4 53 rfl) rfl
theorem kw_795 : (Jvm.Cond.code ({ cls := "WearHoursModel", name := "gap", desc := "(II)I" } : Jvm.MethodName) prog_9_method_17_code (3 : Nat) (Option.some Jvm.ClassFile.FieldType.int)) ∈ gt := gtn (tb4 54 rfl) rfl
theorem kw_796 : (Jvm.Cond.methodLink "WearHoursModel" (126 : Nat) ({ cls := "WearHoursModel", name := "areHours", desc := "(II)Z" } : Jvm.MethodName)) ∈ gt := gtn (tb4 55 rfl) rfl
theorem kw_797 : (Jvm.Cond.static ({ cls := "WearHoursModel", name := "areHours", desc := "(II)Z" } : Jvm.MethodName)) ∈ gt := gtn (tb4 56 rfl) rfl
theorem kw_798 : (Jvm.Cond.code ({ cls := "WearHoursModel", name := "areHours", desc := "(II)Z" } : Jvm.MethodName) prog_9_method_16_code (2 : Nat) (Option.some Jvm.ClassFile.FieldType.boolean)) ∈ gt := gtn (tb4 57 rfl) rfl
theorem kw_799 : (Jvm.Cond.methodLink "WearHoursLaw" (107 : Nat) ({ cls := "WearHoursModel", name := "person", desc := "(III)I" } : Jvm.MethodName)) ∈ gt := gtn (tb4 58 rfl) rfl
theorem kw_800 : (Jvm.Cond.instanceMethod ({ cls := "WearHoursModel", name := "person", desc := "(III)I" } : Jvm.MethodName)) ∈ gt := gtn (tb4 59 rfl) rfl
theorem kw_801 : (Jvm.Cond.selects "WearHoursModel" ({ cls := "WearHoursModel", name := "person", desc := "(III)I" } : Jvm.MethodName) ({ cls := "WearHoursModel", name := "person", desc := "(III)I" } : Jvm.MethodName)) ∈ gt := gtn (tb4 60 rfl) rfl
theorem kw_802 : (Jvm.Cond.code ({ cls := "WearHoursModel", name := "person", desc := "(III)I" } : Jvm.MethodName) prog_9_method_18_code (4 : Nat) (Option.some Jvm.ClassFile.FieldType.int)) ∈ gt := gtn (tb4 61 rfl) rfl
theorem kw_803 : (Jvm.Cond.methodLink "WearHoursLaw" (111 : Nat) ({ cls := "WearHoursModel", name := "repair", desc := "(IIII)I" } : Jvm.MethodName)) ∈ gt := gtn (tb4 62 rfl) rfl
theorem kw_804 : (Jvm.Cond.instanceMethod ({ cls := "WearHoursModel", name := "repair", desc := "(IIII)I" } : Jvm.MethodName)) ∈ gt := gtn (tb4 63 rfl) rfl
theorem kw_805 : (Jvm.Cond.selects "WearHoursModel" ({ cls := "WearHoursModel", name := "repair", desc := "(IIII)I" } : Jvm.MethodName) ({ cls := "WearHoursModel", name := "repair", desc := "(IIII)I" } : Jvm.MethodName)) ∈ gt := gtn (tb4 64 rfl) rfl
theorem kw_806 : (Jvm.Cond.code ({ cls := "WearHoursModel", name := "repair", desc := "(IIII)I" } : Jvm.MethodName) prog_9_method_19_code (5 : Nat) (Option.some Jvm.ClassFile.FieldType.int)) ∈ gt := gtn (tb4 65 rfl) rfl
theorem kw_807 : (Jvm.Cond.methodLink "WearHoursLaw" (115 : Nat) ({ cls := "WearHoursModel", name := "rules", desc := "(II)V" } : Jvm.MethodName)) ∈ gt := gtn (tb4 66 rfl) rfl
theorem kw_808 : (Jvm.Cond.instanceMethod ({ cls := "WearHoursModel", name := "rules", desc := "(II)V" } : Jvm.MethodName)) ∈ gt := gtn (tb4 67 rfl) rfl
theorem kw_809 : (Jvm.Cond.selects "WearHoursModel" ({ cls := "WearHoursModel", name := "rules", desc := "(II)V" } : Jvm.MethodName) ({ cls := "WearHoursModel", name := "rules", desc := "(II)V" } : Jvm.MethodName)) ∈ gt := gtn (tb4 68 rfl) rfl
theorem kw_810 : (Jvm.Cond.code ({ cls := "WearHoursModel", name := "rules", desc := "(II)V" } : Jvm.MethodName) prog_9_method_20_code (3 : Nat) (Option.none : Option Jvm.ClassFile.FieldType)) ∈ gt := gtn (tb4 69 rfl) rfl
theorem kw_811 : (Jvm.Cond.methodLink "WearHoursLaw" (119 : Nat) ({ cls := "WearHoursModel", name := "plan", desc := "()I" } : Jvm.MethodName)) ∈ gt := gtn (tb4 70 rfl) rfl
theorem kw_812 : (Jvm.Cond.instanceMethod ({ cls := "WearHoursModel", name := "plan", desc := "()I" } : Jvm.MethodName)) ∈ gt := gtn (tb4 71 rfl) rfl
theorem kw_813 : (Jvm.Cond.selects "WearHoursModel" ({ cls := "WearHoursModel", name := "plan", desc := "()I" } : Jvm.MethodName) ({ cls := "WearHoursModel", name := "plan", desc := "()I" } : Jvm.MethodName)) ∈ gt := gtn (tb4 72 rfl) rfl
theorem kw_814 : (Jvm.Cond.code ({ cls := "WearHoursModel", name := "plan", desc := "()I" } : Jvm.MethodName) prog_9_method_24_code (5 : Nat) (Option.some Jvm.ClassFile.FieldType.int)) ∈ gt := gtn (tb4 73 rfl) rfl
theorem kw_815 : (Jvm.Cond.methodLink "WearHoursModel" (150 : Nat) ({ cls := "WearHoursModel", name := "best", desc := "()V" } : Jvm.MethodName)) ∈ gt := gtn (tb4 74 rfl) rfl
theorem kw_817 : (Jvm.Cond.instanceMethod ({ cls := "WearHoursModel", name := "best", desc := "()V" } : Jvm.MethodName)) ∈ gt := gtn (tb4 76 rfl) rfl
theorem kw_818 : (Jvm.Cond.code ({ cls := "WearHoursModel", name := "best", desc := "()V" } : Jvm.MethodName) prog_9_method_25_code (2 : Nat) (Option.none : Option Jvm.ClassFile.FieldType)) ∈ gt := gtn (tb4 77 rfl) rfl
theorem kw_819 : (Jvm.Cond.methodLink "WearHoursModel" (153 : Nat) ({ cls := "WearHoursModel", name := "begins", desc := "(III)I" } : Jvm.MethodName)) ∈ gt := gtn (tb4 78 rfl) rfl
theorem kw_821 : (Jvm.Cond.instanceMethod ({ cls := "WearHoursModel", name := "begins", desc := "(III)I" } : Jvm.MethodName)) ∈ gt := gtn (tb4 80 rfl) rfl
theorem kw_822 : (Jvm.Cond.code ({ cls := "WearHoursModel", name := "begins", desc := "(III)I" } : Jvm.MethodName) prog_9_method_22_code (5 : Nat) (Option.some Jvm.ClassFile.FieldType.int)) ∈ gt := gtn (tb4 81 rfl) rfl
theorem kw_823 : (Jvm.Cond.methodLink "WearHoursModel" (143 : Nat) ({ cls := "WearHoursModel", name := "later", desc := "(II)I" } : Jvm.MethodName)) ∈ gt := gtn (tb4 82 rfl) rfl
theorem kw_824 : (Jvm.Cond.static ({ cls := "WearHoursModel", name := "later", desc := "(II)I" } : Jvm.MethodName)) ∈ gt := gtn (tb4 83 rfl) rfl
theorem kw_825 : (Jvm.Cond.code ({ cls := "WearHoursModel", name := "later", desc := "(II)I" } : Jvm.MethodName) prog_9_method_21_code (2 : Nat) (Option.some Jvm.ClassFile.FieldType.int)) ∈ gt := gtn (tb4 84 rfl) rfl
theorem kw_826 : (Jvm.Cond.methodLink "WearHoursModel" (157 : Nat) ({ cls := "WearHoursModel", name := "take", desc := "(I)V" } : Jvm.MethodName)) ∈ gt := gtn (tb4 85 rfl) rfl
theorem kw_828 : (Jvm.Cond.instanceMethod ({ cls := "WearHoursModel", name := "take", desc := "(I)V" } : Jvm.MethodName)) ∈ gt := gtn (tb4 87 rfl) rfl
theorem kw_829 : (Jvm.Cond.code ({ cls := "WearHoursModel", name := "take", desc := "(I)V" } : Jvm.MethodName) prog_9_method_23_code (3 : Nat) (Option.none : Option Jvm.ClassFile.FieldType)) ∈ gt := gtn (tb4 88 rfl) rfl
theorem kw_830 : (Jvm.Cond.methodLink "WearHoursLaw" (122 : Nat) ({ cls := "WearHoursModel", name := "at", desc := "(II)I" } : Jvm.MethodName)) ∈ gt := gtn (tb4 89 rfl) rfl
theorem kw_831 : (Jvm.Cond.instanceMethod ({ cls := "WearHoursModel", name := "at", desc := "(II)I" } : Jvm.MethodName)) ∈ gt := gtn (tb4 90 rfl) rfl
theorem kw_832 : (Jvm.Cond.selects "WearHoursModel" ({ cls := "WearHoursModel", name := "at", desc := "(II)I" } : Jvm.MethodName) ({ cls := "WearHoursModel", name := "at", desc := "(II)I" } : Jvm.MethodName)) ∈ gt := gtn (tb4 91 rfl) rfl
theorem kw_833 : (Jvm.Cond.code ({ cls := "WearHoursModel", name := "at", desc := "(II)I" } : Jvm.MethodName) prog_9_method_26_code (3 : Nat) (Option.some Jvm.ClassFile.FieldType.int)) ∈ gt := gtn (tb4 92 rfl) rfl
theorem kw_834 : (Jvm.Cond.methodLink "WearHoursLaw" (126 : Nat) ({ cls := "WearHoursModel", name := "cost", desc := "()I" } : Jvm.MethodName)) ∈ gt := gtn (tb4 93 rfl) rfl
theorem kw_835 : (Jvm.Cond.instanceMethod ({ cls := "WearHoursModel", name := "cost", desc := "()I" } : Jvm.MethodName)) ∈ gt := gtn (tb4 94 rfl) rfl
theorem kw_836 : (Jvm.Cond.selects "WearHoursModel" ({ cls := "WearHoursModel", name := "cost", desc := "()I" } : Jvm.MethodName) ({ cls := "WearHoursModel", name := "cost", desc := "()I" } : Jvm.MethodName)) ∈ gt := gtn (tb4 95 rfl) rfl
theorem kw_837 : (Jvm.Cond.code ({ cls := "WearHoursModel", name := "cost", desc := "()I" } : Jvm.MethodName) prog_9_method_27_code (1 : Nat) (Option.some Jvm.ClassFile.FieldType.int)) ∈ gt := gtn (tb4 96 rfl) rfl
theorem kw_838 : (Jvm.Cond.methodLink "WearHoursLaw" (129 : Nat) ({ cls := "WearHoursModel", name := "done", desc := "()I" } : Jvm.MethodName)) ∈ gt := gtn (tb4 97 rfl) rfl
theorem kw_839 : (Jvm.Cond.instanceMethod ({ cls := "WearHoursModel", name := "done", desc := "()I" } : Jvm.MethodName)) ∈ gt := gtn (tb4 98 rfl) rfl
theorem kw_840 : (Jvm.Cond.selects "WearHoursModel" ({ cls := "WearHoursModel", name := "done", desc := "()I" } : Jvm.MethodName) ({ cls := "WearHoursModel", name := "done", desc := "()I" } : Jvm.MethodName)) ∈ gt := gtn (tb4 99 rfl) rfl
theorem kw_841 : (Jvm.Cond.code ({ cls := "WearHoursModel", name := "done", desc := "()I" } : Jvm.MethodName) prog_9_method_28_code (3 : Nat) (Option.some Jvm.ClassFile.FieldType.int)) ∈ gt := gtn (tb4 100 rfl) rfl
theorem kw_842 : (Jvm.Cond.methodLink "WearHoursLaw" (132 : Nat) ({ cls := "WearHoursModel", name := "spare", desc := "(II)I" } : Jvm.MethodName)) ∈ gt := gtn (tb4 101 rfl) rfl
theorem kw_843 : (Jvm.Cond.instanceMethod ({ cls := "WearHoursModel", name := "spare", desc := "(II)I" } : Jvm.MethodName)) ∈ gt := gtn (tb4 102 rfl) rfl
theorem kw_844 : (Jvm.Cond.selects "WearHoursModel" ({ cls := "WearHoursModel", name := "spare", desc := "(II)I" } : Jvm.MethodName) ({ cls := "WearHoursModel", name := "spare", desc := "(II)I" } : Jvm.MethodName)) ∈ gt := gtn (tb4 103 rfl) rfl
theorem kw_845 : (Jvm.Cond.code ({ cls := "WearHoursModel", name := "spare", desc := "(II)I" } : Jvm.MethodName) prog_9_method_29_code (5 : Nat) (Option.some Jvm.ClassFile.FieldType.int)) ∈ gt := gtn (tb4 104 rfl) rfl
theorem kw_846 : (Jvm.Cond.constantLong "WearHoursLaw" (69 : Nat) (4294967295 : Int64)) ∈ gt := gtn (tb4 105 rfl) rfl
theorem kw_847 : (Jvm.Cond.arrayClass Jvm.ClassFile.FieldType.long) ∈ gt := gtn (tb4 106 rfl) rfl
end
section
/-! names: classes, their fields, methods (printed by program) -/
def F_W : u_T := fun k => match k with
  | 0 => ("WearHours", "seedNow", "J", false)
  | 1 => ("WearHours", "things", "[LWearHours$Thing;", true)
  | 2 => ("WearHours", "thingCount", "I", false)
  | 3 => ("WearHours", "spares", "[I", true)
  | 4 => ("WearHours", "week", "LWearHours$Week;", true)
  | _ => ("WearHours", "planner", "LWearHours$Planner;", true)
def ft_W : Nat → FieldType := fun k => match k with
  | 0 => .long
  | 1 => .array (.object "WearHours$Thing")
  | 2 => .int
  | 3 => .array .int
  | 4 => .object "WearHours$Week"
  | _ => .object "WearHours$Planner"
theorem n_W : ∀ a, a < 6 → ∀ b, b < 6 → a ≠ b → (F_W a).2.1 ≠ (F_W b).2.1 := by decide +kernel
theorem ft_W_ok : ∀ k, k < 6 → parseFieldDescriptor (F_W k).2.2.1 = some (ft_W k) := by decide +kernel
theorem i_W : ∀ w ∈ u_ws "WearHours" F_W 6, w ∈ gt := by decide +kernel
def F_T : u_T := fun k => match k with
  | 0 => ("WearHours$Thing", "life", "I", false)
  | 1 => ("WearHours$Thing", "bound", "I", false)
  | 2 => ("WearHours$Thing", "sum", "I", false)
  | 3 => ("WearHours$Thing", "open", "Z", false)
  | _ => ("WearHours$Thing", "changes", "[I", true)
def ft_T : Nat → FieldType := fun k => match k with
  | 0 => .int
  | 1 => .int
  | 2 => .int
  | 3 => .boolean
  | _ => .array .int
theorem n_T : ∀ a, a < 5 → ∀ b, b < 5 → a ≠ b → (F_T a).2.1 ≠ (F_T b).2.1 := by decide +kernel
theorem ft_T_ok : ∀ k, k < 5 → parseFieldDescriptor (F_T k).2.2.1 = some (ft_T k) := by decide +kernel
theorem i_T : ∀ w ∈ u_ws "WearHours$Thing" F_T 5, w ∈ gt := by decide +kernel
def F_K : u_T := fun k => match k with
  | 0 => ("WearHours$Week", "gaps", "[LWearHours$Gap;", true)
  | 1 => ("WearHours$Week", "gapCount", "I", false)
  | 2 => ("WearHours$Week", "persons", "[LWearHours$Person;", true)
  | 3 => ("WearHours$Week", "personCount", "I", false)
  | 4 => ("WearHours$Week", "repairs", "[LWearHours$Repair;", true)
  | 5 => ("WearHours$Week", "repairCount", "I", false)
  | 6 => ("WearHours$Week", "rest", "I", false)
  | _ => ("WearHours$Week", "failing", "I", false)
def ft_K : Nat → FieldType := fun k => match k with
  | 0 => .array (.object "WearHours$Gap")
  | 1 => .int
  | 2 => .array (.object "WearHours$Person")
  | 3 => .int
  | 4 => .array (.object "WearHours$Repair")
  | 5 => .int
  | 6 => .int
  | _ => .int
theorem n_K : ∀ a, a < 8 → ∀ b, b < 8 → a ≠ b → (F_K a).2.1 ≠ (F_K b).2.1 := by decide +kernel
theorem ft_K_ok : ∀ k, k < 8 → parseFieldDescriptor (F_K k).2.2.1 = some (ft_K k) := by decide +kernel
theorem i_K : ∀ w ∈ u_ws "WearHours$Week" F_K 8, w ∈ gt := by decide +kernel
def F_G : u_T := fun k => match k with
  | 0 => ("WearHours$Gap", "from", "I", false)
  | _ => ("WearHours$Gap", "to", "I", false)
def ft_G : Nat → FieldType := fun k => match k with
  | 0 => .int
  | _ => .int
theorem n_G : ∀ a, a < 2 → ∀ b, b < 2 → a ≠ b → (F_G a).2.1 ≠ (F_G b).2.1 := by decide +kernel
theorem ft_G_ok : ∀ k, k < 2 → parseFieldDescriptor (F_G k).2.2.1 = some (ft_G k) := by decide +kernel
theorem i_G : ∀ w ∈ u_ws "WearHours$Gap" F_G 2, w ∈ gt := by decide +kernel
def F_P : u_T := fun k => match k with
  | 0 => ("WearHours$Person", "skill", "I", false)
  | 1 => ("WearHours$Person", "from", "I", false)
  | _ => ("WearHours$Person", "to", "I", false)
def ft_P : Nat → FieldType := fun k => match k with
  | 0 => .int
  | 1 => .int
  | _ => .int
theorem n_P : ∀ a, a < 3 → ∀ b, b < 3 → a ≠ b → (F_P a).2.1 ≠ (F_P b).2.1 := by decide +kernel
theorem ft_P_ok : ∀ k, k < 3 → parseFieldDescriptor (F_P k).2.2.1 = some (ft_P k) := by decide +kernel
theorem i_P : ∀ w ∈ u_ws "WearHours$Person" F_P 3, w ∈ gt := by decide +kernel
def F_R : u_T := fun k => match k with
  | 0 => ("WearHours$Repair", "thing", "I", false)
  | 1 => ("WearHours$Repair", "hours", "I", false)
  | 2 => ("WearHours$Repair", "skill", "I", false)
  | 3 => ("WearHours$Repair", "waiting", "I", false)
  | 4 => ("WearHours$Repair", "hour", "I", false)
  | 5 => ("WearHours$Repair", "person", "I", false)
  | _ => ("WearHours$Repair", "gap", "I", false)
def ft_R : Nat → FieldType := fun k => match k with
  | 0 => .int
  | 1 => .int
  | 2 => .int
  | 3 => .int
  | 4 => .int
  | 5 => .int
  | _ => .int
theorem n_R : ∀ a, a < 7 → ∀ b, b < 7 → a ≠ b → (F_R a).2.1 ≠ (F_R b).2.1 := by decide +kernel
theorem ft_R_ok : ∀ k, k < 7 → parseFieldDescriptor (F_R k).2.2.1 = some (ft_R k) := by decide +kernel
theorem i_R : ∀ w ∈ u_ws "WearHours$Repair" F_R 7, w ∈ gt := by decide +kernel
def F_L : u_T := fun k => match k with
  | 0 => ("WearHours$Planner", "week", "LWearHours$Week;", true)
  | 1 => ("WearHours$Planner", "personFree", "[I", true)
  | 2 => ("WearHours$Planner", "thingFree", "[I", true)
  | 3 => ("WearHours$Planner", "floors", "[I", true)
  | 4 => ("WearHours$Planner", "hasPlan", "Z", false)
  | 5 => ("WearHours$Planner", "planCost", "I", false)
  | _ => ("WearHours$Planner", "placedCount", "I", false)
def ft_L : Nat → FieldType := fun k => match k with
  | 0 => .object "WearHours$Week"
  | 1 => .array .int
  | 2 => .array .int
  | 3 => .array .int
  | 4 => .boolean
  | 5 => .int
  | _ => .int
theorem n_L : ∀ a, a < 7 → ∀ b, b < 7 → a ≠ b → (F_L a).2.1 ≠ (F_L b).2.1 := by decide +kernel
theorem ft_L_ok : ∀ k, k < 7 → parseFieldDescriptor (F_L k).2.2.1 = some (ft_L k) := by decide +kernel
theorem i_L : ∀ w ∈ u_ws "WearHours$Planner" F_L 7, w ∈ gt := by decide +kernel
def F_M : u_T := fun k => match k with
  | 0 => ("WearHoursModel", "thrown", "I", false)
  | 1 => ("WearHoursModel", "seed", "J", false)
  | 2 => ("WearHoursModel", "things", "I", false)
  | 3 => ("WearHoursModel", "life", "[I", true)
  | 4 => ("WearHoursModel", "bound", "[I", true)
  | 5 => ("WearHoursModel", "used", "[I", true)
  | 6 => ("WearHoursModel", "closed", "[Z", true)
  | 7 => ("WearHoursModel", "history", "[I", true)
  | 8 => ("WearHoursModel", "gaps", "I", false)
  | 9 => ("WearHoursModel", "gapFrom", "[I", true)
  | 10 => ("WearHoursModel", "gapTo", "[I", true)
  | 11 => ("WearHoursModel", "persons", "I", false)
  | 12 => ("WearHoursModel", "personSkill", "[I", true)
  | 13 => ("WearHoursModel", "personFrom", "[I", true)
  | 14 => ("WearHoursModel", "personTo", "[I", true)
  | 15 => ("WearHoursModel", "repairs", "I", false)
  | 16 => ("WearHoursModel", "thing", "[I", true)
  | 17 => ("WearHoursModel", "hours", "[I", true)
  | 18 => ("WearHoursModel", "skill", "[I", true)
  | 19 => ("WearHoursModel", "waiting", "[I", true)
  | 20 => ("WearHoursModel", "rest", "I", false)
  | 21 => ("WearHoursModel", "failing", "I", false)
  | 22 => ("WearHoursModel", "spares", "[I", true)
  | 23 => ("WearHoursModel", "planned", "Z", false)
  | 24 => ("WearHoursModel", "planCost", "I", false)
  | 25 => ("WearHoursModel", "planHour", "[I", true)
  | 26 => ("WearHoursModel", "planChoice", "[I", true)
  | 27 => ("WearHoursModel", "busyPerson", "[I", true)
  | 28 => ("WearHoursModel", "busyThing", "[I", true)
  | 29 => ("WearHoursModel", "cost", "[I", true)
  | 30 => ("WearHoursModel", "choice", "[I", true)
  | _ => ("WearHoursModel", "hour", "[I", true)
def ft_M : Nat → FieldType := fun k => match k with
  | 0 => .int
  | 1 => .long
  | 2 => .int
  | 3 => .array .int
  | 4 => .array .int
  | 5 => .array .int
  | 6 => .array .boolean
  | 7 => .array .int
  | 8 => .int
  | 9 => .array .int
  | 10 => .array .int
  | 11 => .int
  | 12 => .array .int
  | 13 => .array .int
  | 14 => .array .int
  | 15 => .int
  | 16 => .array .int
  | 17 => .array .int
  | 18 => .array .int
  | 19 => .array .int
  | 20 => .int
  | 21 => .int
  | 22 => .array .int
  | 23 => .boolean
  | 24 => .int
  | 25 => .array .int
  | 26 => .array .int
  | 27 => .array .int
  | 28 => .array .int
  | 29 => .array .int
  | 30 => .array .int
  | _ => .array .int
theorem n_M : ∀ a, a < 32 → ∀ b, b < 32 → a ≠ b → (F_M a).2.1 ≠ (F_M b).2.1 := by decide +kernel
theorem ft_M_ok : ∀ k, k < 32 → parseFieldDescriptor (F_M k).2.2.1 = some (ft_M k) := by decide +kernel
theorem i_M : ∀ w ∈ u_ws "WearHoursModel" F_M 32, w ∈ gt := by decide +kernel
abbrev classes : List vw_C := [("WearHours", F_W, 6), ("WearHours$Thing", F_T, 5), ("WearHours$Week", F_K, 8), ("WearHours$Gap", F_G, 2), ("WearHours$Person", F_P, 3), ("WearHours$Repair", F_R, 7), ("WearHours$Planner", F_L, 7), ("WearHoursModel", F_M, 32)]
abbrev b_W_init : ByteArray := prog_1_method_1_code
abbrev y_W_init : MethodName := ⟨"WearHours", "<init>", "()V"⟩
abbrev b_W_seed : ByteArray := prog_1_method_2_code
abbrev y_W_seed : MethodName := ⟨"WearHours", "seed", "(J)V"⟩
abbrev b_W_thing : ByteArray := prog_1_method_3_code
abbrev y_W_thing : MethodName := ⟨"WearHours", "thing", "(II)I"⟩
abbrev b_W_use : ByteArray := prog_1_method_4_code
abbrev y_W_use : MethodName := ⟨"WearHours", "use", "(II)I"⟩
abbrev b_W_told : ByteArray := prog_1_method_5_code
abbrev y_W_told : MethodName := ⟨"WearHours", "told", "(II)I"⟩
abbrev b_W_left : ByteArray := prog_1_method_6_code
abbrev y_W_left : MethodName := ⟨"WearHours", "left", "(II)I"⟩
abbrev b_W_permit : ByteArray := prog_1_method_7_code
abbrev y_W_permit : MethodName := ⟨"WearHours", "permit", "(IZ)V"⟩
abbrev b_W_history : ByteArray := prog_1_method_8_code
abbrev y_W_history : MethodName := ⟨"WearHours", "history", "(II)I"⟩
abbrev b_W_gap : ByteArray := prog_1_method_9_code
abbrev y_W_gap : MethodName := ⟨"WearHours", "gap", "(II)I"⟩
abbrev b_W_person : ByteArray := prog_1_method_10_code
abbrev y_W_person : MethodName := ⟨"WearHours", "person", "(III)I"⟩
abbrev b_W_repair : ByteArray := prog_1_method_11_code
abbrev y_W_repair : MethodName := ⟨"WearHours", "repair", "(IIII)I"⟩
abbrev b_W_rules : ByteArray := prog_1_method_12_code
abbrev y_W_rules : MethodName := ⟨"WearHours", "rules", "(II)V"⟩
abbrev b_W_plan : ByteArray := prog_1_method_13_code
abbrev y_W_plan : MethodName := ⟨"WearHours", "plan", "()I"⟩
abbrev b_W_at : ByteArray := prog_1_method_14_code
abbrev y_W_at : MethodName := ⟨"WearHours", "at", "(II)I"⟩
abbrev b_W_cost : ByteArray := prog_1_method_15_code
abbrev y_W_cost : MethodName := ⟨"WearHours", "cost", "()I"⟩
abbrev b_W_done : ByteArray := prog_1_method_16_code
abbrev y_W_done : MethodName := ⟨"WearHours", "done", "()I"⟩
abbrev b_W_spare : ByteArray := prog_1_method_17_code
abbrev y_W_spare : MethodName := ⟨"WearHours", "spare", "(II)I"⟩
abbrev b_W_isWithin : ByteArray := prog_1_method_18_code
abbrev y_W_isWithin : MethodName := ⟨"WearHours", "isWithin", "(III)Z"⟩
abbrev b_W_knownThing : ByteArray := prog_1_method_19_code
abbrev y_W_knownThing : MethodName := ⟨"WearHours", "knownThing", "(I)LWearHours$Thing;"⟩
abbrev b_W_checkWhat : ByteArray := prog_1_method_20_code
abbrev y_W_checkWhat : MethodName := ⟨"WearHours", "checkWhat", "(I)V"⟩
abbrev b_W_checkHours : ByteArray := prog_1_method_21_code
abbrev y_W_checkHours : MethodName := ⟨"WearHours", "checkHours", "(II)V"⟩
abbrev b_W_checkSkill : ByteArray := prog_1_method_22_code
abbrev y_W_checkSkill : MethodName := ⟨"WearHours", "checkSkill", "(I)V"⟩
abbrev b_W_checkPlan : ByteArray := prog_1_method_23_code
abbrev y_W_checkPlan : MethodName := ⟨"WearHours", "checkPlan", "()V"⟩
abbrev b_W_drawnNumber : ByteArray := prog_1_method_24_code
abbrev y_W_drawnNumber : MethodName := ⟨"WearHours", "drawnNumber", "(J)J"⟩
abbrev b_M_init : ByteArray := prog_9_method_1_code
abbrev y_M_init : MethodName := ⟨"WearHoursModel", "<init>", "()V"⟩
abbrev b_M_thrown : ByteArray := prog_9_method_2_code
abbrev y_M_thrown : MethodName := ⟨"WearHoursModel", "thrown", "()I"⟩
abbrev b_M_in : ByteArray := prog_9_method_3_code
abbrev y_M_in : MethodName := ⟨"WearHoursModel", "in", "(III)Z"⟩
abbrev b_M_goes : ByteArray := prog_9_method_4_code
abbrev y_M_goes : MethodName := ⟨"WearHoursModel", "goes", "(ZZZ)Z"⟩
abbrev b_M_isThing : ByteArray := prog_9_method_5_code
abbrev y_M_isThing : MethodName := ⟨"WearHoursModel", "isThing", "(I)Z"⟩
abbrev b_M_seed : ByteArray := prog_9_method_6_code
abbrev y_M_seed : MethodName := ⟨"WearHoursModel", "seed", "(J)V"⟩
abbrev b_M_thing : ByteArray := prog_9_method_7_code
abbrev y_M_thing : MethodName := ⟨"WearHoursModel", "thing", "(II)I"⟩
abbrev b_M_keep : ByteArray := prog_9_method_8_code
abbrev y_M_keep : MethodName := ⟨"WearHoursModel", "keep", "(II)V"⟩
abbrev b_M_isBarred : ByteArray := prog_9_method_9_code
abbrev y_M_isBarred : MethodName := ⟨"WearHoursModel", "isBarred", "(I)Z"⟩
abbrev b_M_use : ByteArray := prog_9_method_10_code
abbrev y_M_use : MethodName := ⟨"WearHoursModel", "use", "(II)I"⟩
abbrev b_M_told : ByteArray := prog_9_method_11_code
abbrev y_M_told : MethodName := ⟨"WearHoursModel", "told", "(II)I"⟩
abbrev b_M_number : ByteArray := prog_9_method_12_code
abbrev y_M_number : MethodName := ⟨"WearHoursModel", "number", "(I)J"⟩
abbrev b_M_left : ByteArray := prog_9_method_13_code
abbrev y_M_left : MethodName := ⟨"WearHoursModel", "left", "(II)I"⟩
abbrev b_M_permit : ByteArray := prog_9_method_14_code
abbrev y_M_permit : MethodName := ⟨"WearHoursModel", "permit", "(IZ)V"⟩
abbrev b_M_history : ByteArray := prog_9_method_15_code
abbrev y_M_history : MethodName := ⟨"WearHoursModel", "history", "(II)I"⟩
abbrev b_M_areHours : ByteArray := prog_9_method_16_code
abbrev y_M_areHours : MethodName := ⟨"WearHoursModel", "areHours", "(II)Z"⟩
abbrev b_M_gap : ByteArray := prog_9_method_17_code
abbrev y_M_gap : MethodName := ⟨"WearHoursModel", "gap", "(II)I"⟩
abbrev b_M_person : ByteArray := prog_9_method_18_code
abbrev y_M_person : MethodName := ⟨"WearHoursModel", "person", "(III)I"⟩
abbrev b_M_repair : ByteArray := prog_9_method_19_code
abbrev y_M_repair : MethodName := ⟨"WearHoursModel", "repair", "(IIII)I"⟩
abbrev b_M_rules : ByteArray := prog_9_method_20_code
abbrev y_M_rules : MethodName := ⟨"WearHoursModel", "rules", "(II)V"⟩
abbrev b_M_later : ByteArray := prog_9_method_21_code
abbrev y_M_later : MethodName := ⟨"WearHoursModel", "later", "(II)I"⟩
abbrev b_M_begins : ByteArray := prog_9_method_22_code
abbrev y_M_begins : MethodName := ⟨"WearHoursModel", "begins", "(III)I"⟩
abbrev b_M_take : ByteArray := prog_9_method_23_code
abbrev y_M_take : MethodName := ⟨"WearHoursModel", "take", "(I)V"⟩
abbrev b_M_plan : ByteArray := prog_9_method_24_code
abbrev y_M_plan : MethodName := ⟨"WearHoursModel", "plan", "()I"⟩
abbrev b_M_best : ByteArray := prog_9_method_25_code
abbrev y_M_best : MethodName := ⟨"WearHoursModel", "best", "()V"⟩
abbrev b_M_at : ByteArray := prog_9_method_26_code
abbrev y_M_at : MethodName := ⟨"WearHoursModel", "at", "(II)I"⟩
abbrev b_M_cost : ByteArray := prog_9_method_27_code
abbrev y_M_cost : MethodName := ⟨"WearHoursModel", "cost", "()I"⟩
abbrev b_M_done : ByteArray := prog_9_method_28_code
abbrev y_M_done : MethodName := ⟨"WearHoursModel", "done", "()I"⟩
abbrev b_M_spare : ByteArray := prog_9_method_29_code
abbrev y_M_spare : MethodName := ⟨"WearHoursModel", "spare", "(II)I"⟩
abbrev b_G_init : ByteArray := prog_2_method_1_code
abbrev y_G_init : MethodName := ⟨"WearHours$Gap", "<init>", "()V"⟩
abbrev b_P_init : ByteArray := prog_3_method_1_code
abbrev y_P_init : MethodName := ⟨"WearHours$Person", "<init>", "()V"⟩
abbrev b_L_init : ByteArray := prog_4_method_1_code
abbrev y_L_init : MethodName := ⟨"WearHours$Planner", "<init>", "(LWearHours$Week;)V"⟩
abbrev b_L_forget : ByteArray := prog_4_method_2_code
abbrev y_L_forget : MethodName := ⟨"WearHours$Planner", "forget", "()V"⟩
abbrev b_L_makeBest : ByteArray := prog_4_method_3_code
abbrev y_L_makeBest : MethodName := ⟨"WearHours$Planner", "makeBest", "()V"⟩
abbrev b_L_freeAll : ByteArray := prog_4_method_4_code
abbrev y_L_freeAll : MethodName := ⟨"WearHours$Planner", "freeAll", "()V"⟩
abbrev b_L_sumFloors : ByteArray := prog_4_method_5_code
abbrev y_L_sumFloors : MethodName := ⟨"WearHours$Planner", "sumFloors", "()V"⟩
abbrev b_L_settle : ByteArray := prog_4_method_6_code
abbrev y_L_settle : MethodName := ⟨"WearHours$Planner", "settle", "(II)I"⟩
abbrev b_L_leastCost : ByteArray := prog_4_method_7_code
abbrev y_L_leastCost : MethodName := ⟨"WearHours$Planner", "leastCost", "(II)I"⟩
abbrev b_L_costBy : ByteArray := prog_4_method_8_code
abbrev y_L_costBy : MethodName := ⟨"WearHours$Planner", "costBy", "(IIII)I"⟩
abbrev b_L_occupy : ByteArray := prog_4_method_9_code
abbrev y_L_occupy : MethodName := ⟨"WearHours$Planner", "occupy", "(LWearHours$Repair;II)V"⟩
abbrev b_L_firstBeginning : ByteArray := prog_4_method_10_code
abbrev y_L_firstBeginning : MethodName := ⟨"WearHours$Planner", "firstBeginning", "(LWearHours$Repair;I)I"⟩
abbrev b_L_beginning : ByteArray := prog_4_method_11_code
abbrev y_L_beginning : MethodName := ⟨"WearHours$Planner", "beginning", "(LWearHours$Repair;II)I"⟩
abbrev b_R_init : ByteArray := prog_5_method_1_code
abbrev y_R_init : MethodName := ⟨"WearHours$Repair", "<init>", "()V"⟩
abbrev b_R_isPlaced : ByteArray := prog_5_method_2_code
abbrev y_R_isPlaced : MethodName := ⟨"WearHours$Repair", "isPlaced", "()Z"⟩
abbrev b_R_place : ByteArray := prog_5_method_3_code
abbrev y_R_place : MethodName := ⟨"WearHours$Repair", "place", "(III)V"⟩
abbrev b_R_unplace : ByteArray := prog_5_method_4_code
abbrev y_R_unplace : MethodName := ⟨"WearHours$Repair", "unplace", "()V"⟩
abbrev b_T_init : ByteArray := prog_6_method_1_code
abbrev y_T_init : MethodName := ⟨"WearHours$Thing", "<init>", "()V"⟩
abbrev b_T_begin : ByteArray := prog_6_method_2_code
abbrev y_T_begin : MethodName := ⟨"WearHours$Thing", "begin", "(II)V"⟩
abbrev b_T_isBarred : ByteArray := prog_6_method_3_code
abbrev y_T_isBarred : MethodName := ⟨"WearHours$Thing", "isBarred", "()Z"⟩
abbrev b_T_unitsToBound : ByteArray := prog_6_method_4_code
abbrev y_T_unitsToBound : MethodName := ⟨"WearHours$Thing", "unitsToBound", "()I"⟩
abbrev b_T_wear : ByteArray := prog_6_method_5_code
abbrev y_T_wear : MethodName := ⟨"WearHours$Thing", "wear", "(I)V"⟩
abbrev b_T_mend : ByteArray := prog_6_method_6_code
abbrev y_T_mend : MethodName := ⟨"WearHours$Thing", "mend", "()V"⟩
abbrev b_T_setPermit : ByteArray := prog_6_method_7_code
abbrev y_T_setPermit : MethodName := ⟨"WearHours$Thing", "setPermit", "(Z)V"⟩
abbrev b_T_change : ByteArray := prog_6_method_8_code
abbrev y_T_change : MethodName := ⟨"WearHours$Thing", "change", "(I)I"⟩
abbrev b_T_keep : ByteArray := prog_6_method_9_code
abbrev y_T_keep : MethodName := ⟨"WearHours$Thing", "keep", "(I)V"⟩
abbrev b_K_init : ByteArray := prog_7_method_1_code
abbrev y_K_init : MethodName := ⟨"WearHours$Week", "<init>", "()V"⟩
abbrev b_K_addGap : ByteArray := prog_7_method_2_code
abbrev y_K_addGap : MethodName := ⟨"WearHours$Week", "addGap", "(II)V"⟩
abbrev b_K_addPerson : ByteArray := prog_7_method_3_code
abbrev y_K_addPerson : MethodName := ⟨"WearHours$Week", "addPerson", "(III)V"⟩
abbrev b_K_addRepair : ByteArray := prog_7_method_4_code
abbrev y_K_addRepair : MethodName := ⟨"WearHours$Week", "addRepair", "(IIII)V"⟩
abbrev b_K_costUnplaced : ByteArray := prog_7_method_5_code
abbrev y_K_costUnplaced : MethodName := ⟨"WearHours$Week", "costUnplaced", "(LWearHours$Repair;)I"⟩
abbrev b_Z_thing : ByteArray := method_3_code
abbrev y_Z_thing : MethodName := ⟨"WearHoursLaw", "thing", "(LWearHours;II[J)I"⟩
abbrev b_Z_use : ByteArray := method_4_code
abbrev y_Z_use : MethodName := ⟨"WearHoursLaw", "use", "(LWearHours;II[J)I"⟩
abbrev b_Z_told : ByteArray := method_5_code
abbrev y_Z_told : MethodName := ⟨"WearHoursLaw", "told", "(LWearHours;II[J)I"⟩
abbrev b_Z_left : ByteArray := method_6_code
abbrev y_Z_left : MethodName := ⟨"WearHoursLaw", "left", "(LWearHours;II[J)I"⟩
abbrev b_Z_permit : ByteArray := method_7_code
abbrev y_Z_permit : MethodName := ⟨"WearHoursLaw", "permit", "(LWearHours;IZ)I"⟩
abbrev b_Z_history : ByteArray := method_8_code
abbrev y_Z_history : MethodName := ⟨"WearHoursLaw", "history", "(LWearHours;II[J)I"⟩
abbrev b_Z_gap : ByteArray := method_9_code
abbrev y_Z_gap : MethodName := ⟨"WearHoursLaw", "gap", "(LWearHours;II[J)I"⟩
abbrev b_Z_person : ByteArray := method_10_code
abbrev y_Z_person : MethodName := ⟨"WearHoursLaw", "person", "(LWearHours;III[J)I"⟩
abbrev b_Z_repair : ByteArray := method_11_code
abbrev y_Z_repair : MethodName := ⟨"WearHoursLaw", "repair", "(LWearHours;IIII[J)I"⟩
abbrev b_Z_rules : ByteArray := method_12_code
abbrev y_Z_rules : MethodName := ⟨"WearHoursLaw", "rules", "(LWearHours;II)I"⟩
abbrev b_Z_at : ByteArray := method_13_code
abbrev y_Z_at : MethodName := ⟨"WearHoursLaw", "at", "(LWearHours;II[J)I"⟩
abbrev b_Z_cost : ByteArray := method_14_code
abbrev y_Z_cost : MethodName := ⟨"WearHoursLaw", "cost", "(LWearHours;[J)I"⟩
abbrev b_Z_done : ByteArray := method_15_code
abbrev y_Z_done : MethodName := ⟨"WearHoursLaw", "done", "(LWearHours;[J)I"⟩
abbrev b_Z_spare : ByteArray := method_16_code
abbrev y_Z_spare : MethodName := ⟨"WearHoursLaw", "spare", "(LWearHours;II[J)I"⟩
end
section
/-! what each instruction is (printed by program) -/
theorem d_W_init_0 : decode b_W_init 0 = .ok (.aload_n 0, 1) := by decide +kernel
theorem d_W_init_1 : decode b_W_init 1 = .ok (.invokespecial 1, 3) := by decide +kernel
theorem d_W_init_4 : decode b_W_init 4 = .ok (.aload_n 0, 1) := by decide +kernel
theorem d_W_init_5 : decode b_W_init 5 = .ok (.lconst 1, 1) := by decide +kernel
theorem d_W_init_6 : decode b_W_init 6 = .ok (.putfield 7, 3) := by decide +kernel
theorem d_W_init_9 : decode b_W_init 9 = .ok (.aload_n 0, 1) := by decide +kernel
theorem d_W_init_10 : decode b_W_init 10 = .ok (.bipush 8, 2) := by decide +kernel
theorem d_W_init_12 : decode b_W_init 12 = .ok (.anewarray 13, 3) := by decide +kernel
theorem d_W_init_15 : decode b_W_init 15 = .ok (.putfield 15, 3) := by decide +kernel
theorem d_W_init_18 : decode b_W_init 18 = .ok (.iconst 0, 1) := by decide +kernel
theorem d_W_init_19 : decode b_W_init 19 = .ok (.istore_n 1, 1) := by decide +kernel
theorem d_W_init_20 : decode b_W_init 20 = .ok (.iload_n 1, 1) := by decide +kernel
theorem d_W_init_21 : decode b_W_init 21 = .ok (.bipush 8, 2) := by decide +kernel
theorem d_W_init_23 : decode b_W_init 23 = .ok (.if_icmp .ge 22, 3) := by decide +kernel
theorem d_W_init_26 : decode b_W_init 26 = .ok (.aload_n 0, 1) := by decide +kernel
theorem d_W_init_27 : decode b_W_init 27 = .ok (.getfield 15, 3) := by decide +kernel
theorem d_W_init_30 : decode b_W_init 30 = .ok (.iload_n 1, 1) := by decide +kernel
theorem d_W_init_31 : decode b_W_init 31 = .ok (.new 13, 3) := by decide +kernel
theorem d_W_init_34 : decode b_W_init 34 = .ok (.dup, 1) := by decide +kernel
theorem d_W_init_35 : decode b_W_init 35 = .ok (.invokespecial 19, 3) := by decide +kernel
theorem d_W_init_38 : decode b_W_init 38 = .ok (.aastore, 1) := by decide +kernel
theorem d_W_init_39 : decode b_W_init 39 = .ok (.iinc 1 1, 3) := by decide +kernel
theorem d_W_init_42 : decode b_W_init 42 = .ok (.goto (-22), 3) := by decide +kernel
theorem d_W_init_45 : decode b_W_init 45 = .ok (.aload_n 0, 1) := by decide +kernel
theorem d_W_init_46 : decode b_W_init 46 = .ok (.iconst 4, 1) := by decide +kernel
theorem d_W_init_47 : decode b_W_init 47 = .ok (.newarray .int, 2) := by decide +kernel
theorem d_W_init_49 : decode b_W_init 49 = .ok (.putfield 20, 3) := by decide +kernel
theorem d_W_init_52 : decode b_W_init 52 = .ok (.aload_n 0, 1) := by decide +kernel
theorem d_W_init_53 : decode b_W_init 53 = .ok (.new 24, 3) := by decide +kernel
theorem d_W_init_56 : decode b_W_init 56 = .ok (.dup, 1) := by decide +kernel
theorem d_W_init_57 : decode b_W_init 57 = .ok (.invokespecial 26, 3) := by decide +kernel
theorem d_W_init_60 : decode b_W_init 60 = .ok (.putfield 27, 3) := by decide +kernel
theorem d_W_init_63 : decode b_W_init 63 = .ok (.aload_n 0, 1) := by decide +kernel
theorem d_W_init_64 : decode b_W_init 64 = .ok (.new 31, 3) := by decide +kernel
theorem d_W_init_67 : decode b_W_init 67 = .ok (.dup, 1) := by decide +kernel
theorem d_W_init_68 : decode b_W_init 68 = .ok (.aload_n 0, 1) := by decide +kernel
theorem d_W_init_69 : decode b_W_init 69 = .ok (.getfield 27, 3) := by decide +kernel
theorem d_W_init_72 : decode b_W_init 72 = .ok (.invokespecial 33, 3) := by decide +kernel
theorem d_W_init_75 : decode b_W_init 75 = .ok (.putfield 36, 3) := by decide +kernel
theorem d_W_init_78 : decode b_W_init 78 = .ok (.return_, 1) := by decide +kernel
theorem d_W_seed_0 : decode b_W_seed 0 = .ok (.aload_n 0, 1) := by decide +kernel
theorem d_W_seed_1 : decode b_W_seed 1 = .ok (.lload_n 1, 1) := by decide +kernel
theorem d_W_seed_2 : decode b_W_seed 2 = .ok (.putfield 7, 3) := by decide +kernel
theorem d_W_seed_5 : decode b_W_seed 5 = .ok (.return_, 1) := by decide +kernel
theorem d_W_thing_0 : decode b_W_thing 0 = .ok (.iload_n 1, 1) := by decide +kernel
theorem d_W_thing_1 : decode b_W_thing 1 = .ok (.iconst 1, 1) := by decide +kernel
theorem d_W_thing_2 : decode b_W_thing 2 = .ok (.ldc 40, 2) := by decide +kernel
theorem d_W_thing_4 : decode b_W_thing 4 = .ok (.invokestatic 41, 3) := by decide +kernel
theorem d_W_thing_7 : decode b_W_thing 7 = .ok (.ifCond .eq 13, 3) := by decide +kernel
theorem d_W_thing_10 : decode b_W_thing 10 = .ok (.iload_n 2, 1) := by decide +kernel
theorem d_W_thing_11 : decode b_W_thing 11 = .ok (.iconst 1, 1) := by decide +kernel
theorem d_W_thing_12 : decode b_W_thing 12 = .ok (.ldc 40, 2) := by decide +kernel
theorem d_W_thing_14 : decode b_W_thing 14 = .ok (.invokestatic 41, 3) := by decide +kernel
theorem d_W_thing_17 : decode b_W_thing 17 = .ok (.ifCond .ne 13, 3) := by decide +kernel
theorem d_W_thing_20 : decode b_W_thing 20 = .ok (.new 45, 3) := by decide +kernel
theorem d_W_thing_23 : decode b_W_thing 23 = .ok (.dup, 1) := by decide +kernel
theorem d_W_thing_24 : decode b_W_thing 24 = .ok (.ldc 47, 2) := by decide +kernel
theorem d_W_thing_26 : decode b_W_thing 26 = .ok (.invokespecial 49, 3) := by decide +kernel
theorem d_W_thing_29 : decode b_W_thing 29 = .ok (.athrow, 1) := by decide +kernel
theorem d_W_thing_30 : decode b_W_thing 30 = .ok (.aload_n 0, 1) := by decide +kernel
theorem d_W_thing_31 : decode b_W_thing 31 = .ok (.getfield 52, 3) := by decide +kernel
theorem d_W_thing_34 : decode b_W_thing 34 = .ok (.bipush 8, 2) := by decide +kernel
theorem d_W_thing_36 : decode b_W_thing 36 = .ok (.if_icmp .lt 13, 3) := by decide +kernel
theorem d_W_thing_39 : decode b_W_thing 39 = .ok (.new 56, 3) := by decide +kernel
theorem d_W_thing_42 : decode b_W_thing 42 = .ok (.dup, 1) := by decide +kernel
theorem d_W_thing_43 : decode b_W_thing 43 = .ok (.ldc 58, 2) := by decide +kernel
theorem d_W_thing_45 : decode b_W_thing 45 = .ok (.invokespecial 60, 3) := by decide +kernel
theorem d_W_thing_48 : decode b_W_thing 48 = .ok (.athrow, 1) := by decide +kernel
theorem d_W_thing_49 : decode b_W_thing 49 = .ok (.aload_n 0, 1) := by decide +kernel
theorem d_W_thing_50 : decode b_W_thing 50 = .ok (.getfield 15, 3) := by decide +kernel
theorem d_W_thing_53 : decode b_W_thing 53 = .ok (.aload_n 0, 1) := by decide +kernel
theorem d_W_thing_54 : decode b_W_thing 54 = .ok (.getfield 52, 3) := by decide +kernel
theorem d_W_thing_57 : decode b_W_thing 57 = .ok (.aaload, 1) := by decide +kernel
theorem d_W_thing_58 : decode b_W_thing 58 = .ok (.iload_n 1, 1) := by decide +kernel
theorem d_W_thing_59 : decode b_W_thing 59 = .ok (.iload_n 2, 1) := by decide +kernel
theorem d_W_thing_60 : decode b_W_thing 60 = .ok (.invokevirtual 61, 3) := by decide +kernel
theorem d_W_thing_63 : decode b_W_thing 63 = .ok (.aload_n 0, 1) := by decide +kernel
theorem d_W_thing_64 : decode b_W_thing 64 = .ok (.dup, 1) := by decide +kernel
theorem d_W_thing_65 : decode b_W_thing 65 = .ok (.getfield 52, 3) := by decide +kernel
theorem d_W_thing_68 : decode b_W_thing 68 = .ok (.iconst 1, 1) := by decide +kernel
theorem d_W_thing_69 : decode b_W_thing 69 = .ok (.iadd, 1) := by decide +kernel
theorem d_W_thing_70 : decode b_W_thing 70 = .ok (.putfield 52, 3) := by decide +kernel
theorem d_W_thing_73 : decode b_W_thing 73 = .ok (.aload_n 0, 1) := by decide +kernel
theorem d_W_thing_74 : decode b_W_thing 74 = .ok (.getfield 52, 3) := by decide +kernel
theorem d_W_thing_77 : decode b_W_thing 77 = .ok (.iconst 1, 1) := by decide +kernel
theorem d_W_thing_78 : decode b_W_thing 78 = .ok (.isub, 1) := by decide +kernel
theorem d_W_thing_79 : decode b_W_thing 79 = .ok (.ireturn, 1) := by decide +kernel
theorem d_W_use_0 : decode b_W_use 0 = .ok (.aload_n 0, 1) := by decide +kernel
theorem d_W_use_1 : decode b_W_use 1 = .ok (.iload_n 1, 1) := by decide +kernel
theorem d_W_use_2 : decode b_W_use 2 = .ok (.invokevirtual 65, 3) := by decide +kernel
theorem d_W_use_5 : decode b_W_use 5 = .ok (.astore_n 3, 1) := by decide +kernel
theorem d_W_use_6 : decode b_W_use 6 = .ok (.aload_n 3, 1) := by decide +kernel
theorem d_W_use_7 : decode b_W_use 7 = .ok (.invokevirtual 69, 3) := by decide +kernel
theorem d_W_use_10 : decode b_W_use 10 = .ok (.ifCond .eq 13, 3) := by decide +kernel
theorem d_W_use_13 : decode b_W_use 13 = .ok (.new 73, 3) := by decide +kernel
theorem d_W_use_16 : decode b_W_use 16 = .ok (.dup, 1) := by decide +kernel
theorem d_W_use_17 : decode b_W_use 17 = .ok (.ldc 75, 2) := by decide +kernel
theorem d_W_use_19 : decode b_W_use 19 = .ok (.invokespecial 77, 3) := by decide +kernel
theorem d_W_use_22 : decode b_W_use 22 = .ok (.athrow, 1) := by decide +kernel
theorem d_W_use_23 : decode b_W_use 23 = .ok (.iload_n 2, 1) := by decide +kernel
theorem d_W_use_24 : decode b_W_use 24 = .ok (.iconst 1, 1) := by decide +kernel
theorem d_W_use_25 : decode b_W_use 25 = .ok (.ldc 40, 2) := by decide +kernel
theorem d_W_use_27 : decode b_W_use 27 = .ok (.invokestatic 41, 3) := by decide +kernel
theorem d_W_use_30 : decode b_W_use 30 = .ok (.ifCond .ne 13, 3) := by decide +kernel
theorem d_W_use_33 : decode b_W_use 33 = .ok (.new 45, 3) := by decide +kernel
theorem d_W_use_36 : decode b_W_use 36 = .ok (.dup, 1) := by decide +kernel
theorem d_W_use_37 : decode b_W_use 37 = .ok (.ldc 78, 2) := by decide +kernel
theorem d_W_use_39 : decode b_W_use 39 = .ok (.invokespecial 49, 3) := by decide +kernel
theorem d_W_use_42 : decode b_W_use 42 = .ok (.athrow, 1) := by decide +kernel
theorem d_W_use_43 : decode b_W_use 43 = .ok (.aload_n 3, 1) := by decide +kernel
theorem d_W_use_44 : decode b_W_use 44 = .ok (.iload_n 2, 1) := by decide +kernel
theorem d_W_use_45 : decode b_W_use 45 = .ok (.invokevirtual 80, 3) := by decide +kernel
theorem d_W_use_48 : decode b_W_use 48 = .ok (.aload_n 3, 1) := by decide +kernel
theorem d_W_use_49 : decode b_W_use 49 = .ok (.getfield 84, 3) := by decide +kernel
theorem d_W_use_52 : decode b_W_use 52 = .ok (.ireturn, 1) := by decide +kernel
theorem d_W_told_0 : decode b_W_told 0 = .ok (.aload_n 0, 1) := by decide +kernel
theorem d_W_told_1 : decode b_W_told 1 = .ok (.iload_n 1, 1) := by decide +kernel
theorem d_W_told_2 : decode b_W_told 2 = .ok (.invokevirtual 65, 3) := by decide +kernel
theorem d_W_told_5 : decode b_W_told 5 = .ok (.astore_n 3, 1) := by decide +kernel
theorem d_W_told_6 : decode b_W_told 6 = .ok (.iload_n 2, 1) := by decide +kernel
theorem d_W_told_7 : decode b_W_told 7 = .ok (.invokestatic 87, 3) := by decide +kernel
theorem d_W_told_10 : decode b_W_told 10 = .ok (.iload_n 2, 1) := by decide +kernel
theorem d_W_told_11 : decode b_W_told 11 = .ok (.ifCond .ne 8, 3) := by decide +kernel
theorem d_W_told_14 : decode b_W_told 14 = .ok (.aload_n 3, 1) := by decide +kernel
theorem d_W_told_15 : decode b_W_told 15 = .ok (.getfield 84, 3) := by decide +kernel
theorem d_W_told_18 : decode b_W_told 18 = .ok (.ireturn, 1) := by decide +kernel
theorem d_W_told_19 : decode b_W_told 19 = .ok (.iload_n 2, 1) := by decide +kernel
theorem d_W_told_20 : decode b_W_told 20 = .ok (.iconst 1, 1) := by decide +kernel
theorem d_W_told_21 : decode b_W_told 21 = .ok (.if_icmp .ne 16, 3) := by decide +kernel
theorem d_W_told_24 : decode b_W_told 24 = .ok (.aload_n 3, 1) := by decide +kernel
theorem d_W_told_25 : decode b_W_told 25 = .ok (.invokevirtual 69, 3) := by decide +kernel
theorem d_W_told_28 : decode b_W_told 28 = .ok (.ifCond .eq 7, 3) := by decide +kernel
theorem d_W_told_31 : decode b_W_told 31 = .ok (.iconst 1, 1) := by decide +kernel
theorem d_W_told_32 : decode b_W_told 32 = .ok (.goto 4, 3) := by decide +kernel
theorem d_W_told_35 : decode b_W_told 35 = .ok (.iconst 0, 1) := by decide +kernel
theorem d_W_told_36 : decode b_W_told 36 = .ok (.ireturn, 1) := by decide +kernel
theorem d_W_told_37 : decode b_W_told 37 = .ok (.aload_n 3, 1) := by decide +kernel
theorem d_W_told_38 : decode b_W_told 38 = .ok (.invokevirtual 90, 3) := by decide +kernel
theorem d_W_told_41 : decode b_W_told 41 = .ok (.ireturn, 1) := by decide +kernel
theorem d_W_left_0 : decode b_W_left 0 = .ok (.aload_n 0, 1) := by decide +kernel
theorem d_W_left_1 : decode b_W_left 1 = .ok (.iload_n 1, 1) := by decide +kernel
theorem d_W_left_2 : decode b_W_left 2 = .ok (.invokevirtual 65, 3) := by decide +kernel
theorem d_W_left_5 : decode b_W_left 5 = .ok (.astore_n 3, 1) := by decide +kernel
theorem d_W_left_6 : decode b_W_left 6 = .ok (.iload_n 2, 1) := by decide +kernel
theorem d_W_left_7 : decode b_W_left 7 = .ok (.iconst 0, 1) := by decide +kernel
theorem d_W_left_8 : decode b_W_left 8 = .ok (.sipush 1000, 3) := by decide +kernel
theorem d_W_left_11 : decode b_W_left 11 = .ok (.invokestatic 41, 3) := by decide +kernel
theorem d_W_left_14 : decode b_W_left 14 = .ok (.ifCond .ne 13, 3) := by decide +kernel
theorem d_W_left_17 : decode b_W_left 17 = .ok (.new 45, 3) := by decide +kernel
theorem d_W_left_20 : decode b_W_left 20 = .ok (.dup, 1) := by decide +kernel
theorem d_W_left_21 : decode b_W_left 21 = .ok (.ldc 94, 2) := by decide +kernel
theorem d_W_left_23 : decode b_W_left 23 = .ok (.invokespecial 49, 3) := by decide +kernel
theorem d_W_left_26 : decode b_W_left 26 = .ok (.athrow, 1) := by decide +kernel
theorem d_W_left_27 : decode b_W_left 27 = .ok (.aload_n 0, 1) := by decide +kernel
theorem d_W_left_28 : decode b_W_left 28 = .ok (.ldc2_w 96, 3) := by decide +kernel
theorem d_W_left_31 : decode b_W_left 31 = .ok (.iload_n 1, 1) := by decide +kernel
theorem d_W_left_32 : decode b_W_left 32 = .ok (.i2l, 1) := by decide +kernel
theorem d_W_left_33 : decode b_W_left 33 = .ok (.lmul, 1) := by decide +kernel
theorem d_W_left_34 : decode b_W_left 34 = .ok (.iload_n 2, 1) := by decide +kernel
theorem d_W_left_35 : decode b_W_left 35 = .ok (.i2l, 1) := by decide +kernel
theorem d_W_left_36 : decode b_W_left 36 = .ok (.ladd, 1) := by decide +kernel
theorem d_W_left_37 : decode b_W_left 37 = .ok (.lconst 1, 1) := by decide +kernel
theorem d_W_left_38 : decode b_W_left 38 = .ok (.ladd, 1) := by decide +kernel
theorem d_W_left_39 : decode b_W_left 39 = .ok (.invokevirtual 98, 3) := by decide +kernel
theorem d_W_left_42 : decode b_W_left 42 = .ok (.lstore 4, 2) := by decide +kernel
theorem d_W_left_44 : decode b_W_left 44 = .ok (.bipush 50, 2) := by decide +kernel
theorem d_W_left_46 : decode b_W_left 46 = .ok (.lload 4, 2) := by decide +kernel
theorem d_W_left_48 : decode b_W_left 48 = .ok (.ldc2_w 102, 3) := by decide +kernel
theorem d_W_left_51 : decode b_W_left 51 = .ok (.lrem, 1) := by decide +kernel
theorem d_W_left_52 : decode b_W_left 52 = .ok (.l2i, 1) := by decide +kernel
theorem d_W_left_53 : decode b_W_left 53 = .ok (.iadd, 1) := by decide +kernel
theorem d_W_left_54 : decode b_W_left 54 = .ok (.istore 6, 2) := by decide +kernel
theorem d_W_left_56 : decode b_W_left 56 = .ok (.iconst 0, 1) := by decide +kernel
theorem d_W_left_57 : decode b_W_left 57 = .ok (.aload_n 3, 1) := by decide +kernel
theorem d_W_left_58 : decode b_W_left 58 = .ok (.getfield 104, 3) := by decide +kernel
theorem d_W_left_61 : decode b_W_left 61 = .ok (.iload 6, 2) := by decide +kernel
theorem d_W_left_63 : decode b_W_left 63 = .ok (.imul, 1) := by decide +kernel
theorem d_W_left_64 : decode b_W_left 64 = .ok (.bipush 100, 2) := by decide +kernel
theorem d_W_left_66 : decode b_W_left 66 = .ok (.idiv, 1) := by decide +kernel
theorem d_W_left_67 : decode b_W_left 67 = .ok (.aload_n 3, 1) := by decide +kernel
theorem d_W_left_68 : decode b_W_left 68 = .ok (.getfield 84, 3) := by decide +kernel
theorem d_W_left_71 : decode b_W_left 71 = .ok (.isub, 1) := by decide +kernel
theorem d_W_left_72 : decode b_W_left 72 = .ok (.invokestatic 107, 3) := by decide +kernel
theorem d_W_left_75 : decode b_W_left 75 = .ok (.ireturn, 1) := by decide +kernel
theorem d_W_permit_0 : decode b_W_permit 0 = .ok (.aload_n 0, 1) := by decide +kernel
theorem d_W_permit_1 : decode b_W_permit 1 = .ok (.iload_n 1, 1) := by decide +kernel
theorem d_W_permit_2 : decode b_W_permit 2 = .ok (.invokevirtual 65, 3) := by decide +kernel
theorem d_W_permit_5 : decode b_W_permit 5 = .ok (.astore_n 3, 1) := by decide +kernel
theorem d_W_permit_6 : decode b_W_permit 6 = .ok (.aload_n 3, 1) := by decide +kernel
theorem d_W_permit_7 : decode b_W_permit 7 = .ok (.getfield 113, 3) := by decide +kernel
theorem d_W_permit_10 : decode b_W_permit 10 = .ok (.iload_n 2, 1) := by decide +kernel
theorem d_W_permit_11 : decode b_W_permit 11 = .ok (.if_icmp .ne 13, 3) := by decide +kernel
theorem d_W_permit_14 : decode b_W_permit 14 = .ok (.new 56, 3) := by decide +kernel
theorem d_W_permit_17 : decode b_W_permit 17 = .ok (.dup, 1) := by decide +kernel
theorem d_W_permit_18 : decode b_W_permit 18 = .ok (.ldc 117, 2) := by decide +kernel
theorem d_W_permit_20 : decode b_W_permit 20 = .ok (.invokespecial 60, 3) := by decide +kernel
theorem d_W_permit_23 : decode b_W_permit 23 = .ok (.athrow, 1) := by decide +kernel
theorem d_W_permit_24 : decode b_W_permit 24 = .ok (.aload_n 3, 1) := by decide +kernel
theorem d_W_permit_25 : decode b_W_permit 25 = .ok (.iload_n 2, 1) := by decide +kernel
theorem d_W_permit_26 : decode b_W_permit 26 = .ok (.invokevirtual 119, 3) := by decide +kernel
theorem d_W_permit_29 : decode b_W_permit 29 = .ok (.return_, 1) := by decide +kernel
theorem d_W_history_0 : decode b_W_history 0 = .ok (.aload_n 0, 1) := by decide +kernel
theorem d_W_history_1 : decode b_W_history 1 = .ok (.iload_n 1, 1) := by decide +kernel
theorem d_W_history_2 : decode b_W_history 2 = .ok (.invokevirtual 65, 3) := by decide +kernel
theorem d_W_history_5 : decode b_W_history 5 = .ok (.astore_n 3, 1) := by decide +kernel
theorem d_W_history_6 : decode b_W_history 6 = .ok (.iload_n 2, 1) := by decide +kernel
theorem d_W_history_7 : decode b_W_history 7 = .ok (.ifCond .ge 13, 3) := by decide +kernel
theorem d_W_history_10 : decode b_W_history 10 = .ok (.new 123, 3) := by decide +kernel
theorem d_W_history_13 : decode b_W_history 13 = .ok (.dup, 1) := by decide +kernel
theorem d_W_history_14 : decode b_W_history 14 = .ok (.ldc 125, 2) := by decide +kernel
theorem d_W_history_16 : decode b_W_history 16 = .ok (.invokespecial 127, 3) := by decide +kernel
theorem d_W_history_19 : decode b_W_history 19 = .ok (.athrow, 1) := by decide +kernel
theorem d_W_history_20 : decode b_W_history 20 = .ok (.aload_n 3, 1) := by decide +kernel
theorem d_W_history_21 : decode b_W_history 21 = .ok (.iload_n 2, 1) := by decide +kernel
theorem d_W_history_22 : decode b_W_history 22 = .ok (.invokevirtual 128, 3) := by decide +kernel
theorem d_W_history_25 : decode b_W_history 25 = .ok (.ireturn, 1) := by decide +kernel
theorem d_W_gap_0 : decode b_W_gap 0 = .ok (.iload_n 1, 1) := by decide +kernel
theorem d_W_gap_1 : decode b_W_gap 1 = .ok (.iload_n 2, 1) := by decide +kernel
theorem d_W_gap_2 : decode b_W_gap 2 = .ok (.invokestatic 132, 3) := by decide +kernel
theorem d_W_gap_5 : decode b_W_gap 5 = .ok (.aload_n 0, 1) := by decide +kernel
theorem d_W_gap_6 : decode b_W_gap 6 = .ok (.getfield 27, 3) := by decide +kernel
theorem d_W_gap_9 : decode b_W_gap 9 = .ok (.getfield 135, 3) := by decide +kernel
theorem d_W_gap_12 : decode b_W_gap 12 = .ok (.bipush 6, 2) := by decide +kernel
theorem d_W_gap_14 : decode b_W_gap 14 = .ok (.if_icmp .lt 13, 3) := by decide +kernel
theorem d_W_gap_17 : decode b_W_gap 17 = .ok (.new 56, 3) := by decide +kernel
theorem d_W_gap_20 : decode b_W_gap 20 = .ok (.dup, 1) := by decide +kernel
theorem d_W_gap_21 : decode b_W_gap 21 = .ok (.ldc 138, 2) := by decide +kernel
theorem d_W_gap_23 : decode b_W_gap 23 = .ok (.invokespecial 60, 3) := by decide +kernel
theorem d_W_gap_26 : decode b_W_gap 26 = .ok (.athrow, 1) := by decide +kernel
theorem d_W_gap_27 : decode b_W_gap 27 = .ok (.aload_n 0, 1) := by decide +kernel
theorem d_W_gap_28 : decode b_W_gap 28 = .ok (.getfield 27, 3) := by decide +kernel
theorem d_W_gap_31 : decode b_W_gap 31 = .ok (.iload_n 1, 1) := by decide +kernel
theorem d_W_gap_32 : decode b_W_gap 32 = .ok (.iload_n 2, 1) := by decide +kernel
theorem d_W_gap_33 : decode b_W_gap 33 = .ok (.invokevirtual 140, 3) := by decide +kernel
theorem d_W_gap_36 : decode b_W_gap 36 = .ok (.aload_n 0, 1) := by decide +kernel
theorem d_W_gap_37 : decode b_W_gap 37 = .ok (.getfield 36, 3) := by decide +kernel
theorem d_W_gap_40 : decode b_W_gap 40 = .ok (.invokevirtual 143, 3) := by decide +kernel
theorem d_W_gap_43 : decode b_W_gap 43 = .ok (.aload_n 0, 1) := by decide +kernel
theorem d_W_gap_44 : decode b_W_gap 44 = .ok (.getfield 27, 3) := by decide +kernel
theorem d_W_gap_47 : decode b_W_gap 47 = .ok (.getfield 135, 3) := by decide +kernel
theorem d_W_gap_50 : decode b_W_gap 50 = .ok (.ireturn, 1) := by decide +kernel
theorem d_W_person_0 : decode b_W_person 0 = .ok (.iload_n 1, 1) := by decide +kernel
theorem d_W_person_1 : decode b_W_person 1 = .ok (.invokestatic 146, 3) := by decide +kernel
theorem d_W_person_4 : decode b_W_person 4 = .ok (.iload_n 2, 1) := by decide +kernel
theorem d_W_person_5 : decode b_W_person 5 = .ok (.iload_n 3, 1) := by decide +kernel
theorem d_W_person_6 : decode b_W_person 6 = .ok (.invokestatic 132, 3) := by decide +kernel
theorem d_W_person_9 : decode b_W_person 9 = .ok (.aload_n 0, 1) := by decide +kernel
theorem d_W_person_10 : decode b_W_person 10 = .ok (.getfield 27, 3) := by decide +kernel
theorem d_W_person_13 : decode b_W_person 13 = .ok (.getfield 149, 3) := by decide +kernel
theorem d_W_person_16 : decode b_W_person 16 = .ok (.iconst 4, 1) := by decide +kernel
theorem d_W_person_17 : decode b_W_person 17 = .ok (.if_icmp .lt 13, 3) := by decide +kernel
theorem d_W_person_20 : decode b_W_person 20 = .ok (.new 56, 3) := by decide +kernel
theorem d_W_person_23 : decode b_W_person 23 = .ok (.dup, 1) := by decide +kernel
theorem d_W_person_24 : decode b_W_person 24 = .ok (.ldc 152, 2) := by decide +kernel
theorem d_W_person_26 : decode b_W_person 26 = .ok (.invokespecial 60, 3) := by decide +kernel
theorem d_W_person_29 : decode b_W_person 29 = .ok (.athrow, 1) := by decide +kernel
theorem d_W_person_30 : decode b_W_person 30 = .ok (.aload_n 0, 1) := by decide +kernel
theorem d_W_person_31 : decode b_W_person 31 = .ok (.getfield 27, 3) := by decide +kernel
theorem d_W_person_34 : decode b_W_person 34 = .ok (.iload_n 1, 1) := by decide +kernel
theorem d_W_person_35 : decode b_W_person 35 = .ok (.iload_n 2, 1) := by decide +kernel
theorem d_W_person_36 : decode b_W_person 36 = .ok (.iload_n 3, 1) := by decide +kernel
theorem d_W_person_37 : decode b_W_person 37 = .ok (.invokevirtual 154, 3) := by decide +kernel
theorem d_W_person_40 : decode b_W_person 40 = .ok (.aload_n 0, 1) := by decide +kernel
theorem d_W_person_41 : decode b_W_person 41 = .ok (.getfield 36, 3) := by decide +kernel
theorem d_W_person_44 : decode b_W_person 44 = .ok (.invokevirtual 143, 3) := by decide +kernel
theorem d_W_person_47 : decode b_W_person 47 = .ok (.aload_n 0, 1) := by decide +kernel
theorem d_W_person_48 : decode b_W_person 48 = .ok (.getfield 27, 3) := by decide +kernel
theorem d_W_person_51 : decode b_W_person 51 = .ok (.getfield 149, 3) := by decide +kernel
theorem d_W_person_54 : decode b_W_person 54 = .ok (.iconst 1, 1) := by decide +kernel
theorem d_W_person_55 : decode b_W_person 55 = .ok (.isub, 1) := by decide +kernel
theorem d_W_person_56 : decode b_W_person 56 = .ok (.ireturn, 1) := by decide +kernel
theorem d_W_repair_0 : decode b_W_repair 0 = .ok (.aload_n 0, 1) := by decide +kernel
theorem d_W_repair_1 : decode b_W_repair 1 = .ok (.iload_n 1, 1) := by decide +kernel
theorem d_W_repair_2 : decode b_W_repair 2 = .ok (.invokevirtual 65, 3) := by decide +kernel
theorem d_W_repair_5 : decode b_W_repair 5 = .ok (.pop, 1) := by decide +kernel
theorem d_W_repair_6 : decode b_W_repair 6 = .ok (.iload_n 3, 1) := by decide +kernel
theorem d_W_repair_7 : decode b_W_repair 7 = .ok (.invokestatic 146, 3) := by decide +kernel
theorem d_W_repair_10 : decode b_W_repair 10 = .ok (.iload_n 2, 1) := by decide +kernel
theorem d_W_repair_11 : decode b_W_repair 11 = .ok (.iconst 1, 1) := by decide +kernel
theorem d_W_repair_12 : decode b_W_repair 12 = .ok (.bipush 24, 2) := by decide +kernel
theorem d_W_repair_14 : decode b_W_repair 14 = .ok (.invokestatic 41, 3) := by decide +kernel
theorem d_W_repair_17 : decode b_W_repair 17 = .ok (.ifCond .eq 15, 3) := by decide +kernel
theorem d_W_repair_20 : decode b_W_repair 20 = .ok (.iload 4, 2) := by decide +kernel
theorem d_W_repair_22 : decode b_W_repair 22 = .ok (.iconst 0, 1) := by decide +kernel
theorem d_W_repair_23 : decode b_W_repair 23 = .ok (.sipush 1000, 3) := by decide +kernel
theorem d_W_repair_26 : decode b_W_repair 26 = .ok (.invokestatic 41, 3) := by decide +kernel
theorem d_W_repair_29 : decode b_W_repair 29 = .ok (.ifCond .ne 13, 3) := by decide +kernel
theorem d_W_repair_32 : decode b_W_repair 32 = .ok (.new 45, 3) := by decide +kernel
theorem d_W_repair_35 : decode b_W_repair 35 = .ok (.dup, 1) := by decide +kernel
theorem d_W_repair_36 : decode b_W_repair 36 = .ok (.ldc 158, 2) := by decide +kernel
theorem d_W_repair_38 : decode b_W_repair 38 = .ok (.invokespecial 49, 3) := by decide +kernel
theorem d_W_repair_41 : decode b_W_repair 41 = .ok (.athrow, 1) := by decide +kernel
theorem d_W_repair_42 : decode b_W_repair 42 = .ok (.aload_n 0, 1) := by decide +kernel
theorem d_W_repair_43 : decode b_W_repair 43 = .ok (.getfield 27, 3) := by decide +kernel
theorem d_W_repair_46 : decode b_W_repair 46 = .ok (.getfield 160, 3) := by decide +kernel
theorem d_W_repair_49 : decode b_W_repair 49 = .ok (.iconst 5, 1) := by decide +kernel
theorem d_W_repair_50 : decode b_W_repair 50 = .ok (.if_icmp .lt 13, 3) := by decide +kernel
theorem d_W_repair_53 : decode b_W_repair 53 = .ok (.new 56, 3) := by decide +kernel
theorem d_W_repair_56 : decode b_W_repair 56 = .ok (.dup, 1) := by decide +kernel
theorem d_W_repair_57 : decode b_W_repair 57 = .ok (.ldc 163, 2) := by decide +kernel
theorem d_W_repair_59 : decode b_W_repair 59 = .ok (.invokespecial 60, 3) := by decide +kernel
theorem d_W_repair_62 : decode b_W_repair 62 = .ok (.athrow, 1) := by decide +kernel
theorem d_W_repair_63 : decode b_W_repair 63 = .ok (.aload_n 0, 1) := by decide +kernel
theorem d_W_repair_64 : decode b_W_repair 64 = .ok (.getfield 27, 3) := by decide +kernel
theorem d_W_repair_67 : decode b_W_repair 67 = .ok (.iload_n 1, 1) := by decide +kernel
theorem d_W_repair_68 : decode b_W_repair 68 = .ok (.iload_n 2, 1) := by decide +kernel
theorem d_W_repair_69 : decode b_W_repair 69 = .ok (.iload_n 3, 1) := by decide +kernel
theorem d_W_repair_70 : decode b_W_repair 70 = .ok (.iload 4, 2) := by decide +kernel
theorem d_W_repair_72 : decode b_W_repair 72 = .ok (.invokevirtual 165, 3) := by decide +kernel
theorem d_W_repair_75 : decode b_W_repair 75 = .ok (.aload_n 0, 1) := by decide +kernel
theorem d_W_repair_76 : decode b_W_repair 76 = .ok (.getfield 36, 3) := by decide +kernel
theorem d_W_repair_79 : decode b_W_repair 79 = .ok (.invokevirtual 143, 3) := by decide +kernel
theorem d_W_repair_82 : decode b_W_repair 82 = .ok (.aload_n 0, 1) := by decide +kernel
theorem d_W_repair_83 : decode b_W_repair 83 = .ok (.getfield 27, 3) := by decide +kernel
theorem d_W_repair_86 : decode b_W_repair 86 = .ok (.getfield 160, 3) := by decide +kernel
theorem d_W_repair_89 : decode b_W_repair 89 = .ok (.iconst 1, 1) := by decide +kernel
theorem d_W_repair_90 : decode b_W_repair 90 = .ok (.isub, 1) := by decide +kernel
theorem d_W_repair_91 : decode b_W_repair 91 = .ok (.ireturn, 1) := by decide +kernel
theorem d_W_rules_0 : decode b_W_rules 0 = .ok (.iload_n 1, 1) := by decide +kernel
theorem d_W_rules_1 : decode b_W_rules 1 = .ok (.iconst 0, 1) := by decide +kernel
theorem d_W_rules_2 : decode b_W_rules 2 = .ok (.bipush 24, 2) := by decide +kernel
theorem d_W_rules_4 : decode b_W_rules 4 = .ok (.invokestatic 41, 3) := by decide +kernel
theorem d_W_rules_7 : decode b_W_rules 7 = .ok (.ifCond .eq 13, 3) := by decide +kernel
theorem d_W_rules_10 : decode b_W_rules 10 = .ok (.iload_n 2, 1) := by decide +kernel
theorem d_W_rules_11 : decode b_W_rules 11 = .ok (.iconst 0, 1) := by decide +kernel
theorem d_W_rules_12 : decode b_W_rules 12 = .ok (.ldc 40, 2) := by decide +kernel
theorem d_W_rules_14 : decode b_W_rules 14 = .ok (.invokestatic 41, 3) := by decide +kernel
theorem d_W_rules_17 : decode b_W_rules 17 = .ok (.ifCond .ne 13, 3) := by decide +kernel
theorem d_W_rules_20 : decode b_W_rules 20 = .ok (.new 45, 3) := by decide +kernel
theorem d_W_rules_23 : decode b_W_rules 23 = .ok (.dup, 1) := by decide +kernel
theorem d_W_rules_24 : decode b_W_rules 24 = .ok (.ldc 169, 2) := by decide +kernel
theorem d_W_rules_26 : decode b_W_rules 26 = .ok (.invokespecial 49, 3) := by decide +kernel
theorem d_W_rules_29 : decode b_W_rules 29 = .ok (.athrow, 1) := by decide +kernel
theorem d_W_rules_30 : decode b_W_rules 30 = .ok (.aload_n 0, 1) := by decide +kernel
theorem d_W_rules_31 : decode b_W_rules 31 = .ok (.getfield 27, 3) := by decide +kernel
theorem d_W_rules_34 : decode b_W_rules 34 = .ok (.iload_n 1, 1) := by decide +kernel
theorem d_W_rules_35 : decode b_W_rules 35 = .ok (.putfield 171, 3) := by decide +kernel
theorem d_W_rules_38 : decode b_W_rules 38 = .ok (.aload_n 0, 1) := by decide +kernel
theorem d_W_rules_39 : decode b_W_rules 39 = .ok (.getfield 27, 3) := by decide +kernel
theorem d_W_rules_42 : decode b_W_rules 42 = .ok (.iload_n 2, 1) := by decide +kernel
theorem d_W_rules_43 : decode b_W_rules 43 = .ok (.putfield 174, 3) := by decide +kernel
theorem d_W_rules_46 : decode b_W_rules 46 = .ok (.aload_n 0, 1) := by decide +kernel
theorem d_W_rules_47 : decode b_W_rules 47 = .ok (.getfield 36, 3) := by decide +kernel
theorem d_W_rules_50 : decode b_W_rules 50 = .ok (.invokevirtual 143, 3) := by decide +kernel
theorem d_W_rules_53 : decode b_W_rules 53 = .ok (.return_, 1) := by decide +kernel
theorem d_W_plan_0 : decode b_W_plan 0 = .ok (.aload_n 0, 1) := by decide +kernel
theorem d_W_plan_1 : decode b_W_plan 1 = .ok (.getfield 36, 3) := by decide +kernel
theorem d_W_plan_4 : decode b_W_plan 4 = .ok (.getfield 177, 3) := by decide +kernel
theorem d_W_plan_7 : decode b_W_plan 7 = .ok (.ifCond .ne 10, 3) := by decide +kernel
theorem d_W_plan_10 : decode b_W_plan 10 = .ok (.aload_n 0, 1) := by decide +kernel
theorem d_W_plan_11 : decode b_W_plan 11 = .ok (.getfield 36, 3) := by decide +kernel
theorem d_W_plan_14 : decode b_W_plan 14 = .ok (.invokevirtual 180, 3) := by decide +kernel
theorem d_W_plan_17 : decode b_W_plan 17 = .ok (.aload_n 0, 1) := by decide +kernel
theorem d_W_plan_18 : decode b_W_plan 18 = .ok (.getfield 36, 3) := by decide +kernel
theorem d_W_plan_21 : decode b_W_plan 21 = .ok (.getfield 183, 3) := by decide +kernel
theorem d_W_plan_24 : decode b_W_plan 24 = .ok (.ireturn, 1) := by decide +kernel
theorem d_W_at_0 : decode b_W_at 0 = .ok (.iload_n 1, 1) := by decide +kernel
theorem d_W_at_1 : decode b_W_at 1 = .ok (.ifCond .lt 14, 3) := by decide +kernel
theorem d_W_at_4 : decode b_W_at 4 = .ok (.iload_n 1, 1) := by decide +kernel
theorem d_W_at_5 : decode b_W_at 5 = .ok (.aload_n 0, 1) := by decide +kernel
theorem d_W_at_6 : decode b_W_at 6 = .ok (.getfield 27, 3) := by decide +kernel
theorem d_W_at_9 : decode b_W_at 9 = .ok (.getfield 160, 3) := by decide +kernel
theorem d_W_at_12 : decode b_W_at 12 = .ok (.if_icmp .lt 13, 3) := by decide +kernel
theorem d_W_at_15 : decode b_W_at 15 = .ok (.new 123, 3) := by decide +kernel
theorem d_W_at_18 : decode b_W_at 18 = .ok (.dup, 1) := by decide +kernel
theorem d_W_at_19 : decode b_W_at 19 = .ok (.ldc 186, 2) := by decide +kernel
theorem d_W_at_21 : decode b_W_at 21 = .ok (.invokespecial 127, 3) := by decide +kernel
theorem d_W_at_24 : decode b_W_at 24 = .ok (.athrow, 1) := by decide +kernel
theorem d_W_at_25 : decode b_W_at 25 = .ok (.iload_n 2, 1) := by decide +kernel
theorem d_W_at_26 : decode b_W_at 26 = .ok (.invokestatic 87, 3) := by decide +kernel
theorem d_W_at_29 : decode b_W_at 29 = .ok (.aload_n 0, 1) := by decide +kernel
theorem d_W_at_30 : decode b_W_at 30 = .ok (.invokevirtual 188, 3) := by decide +kernel
theorem d_W_at_33 : decode b_W_at 33 = .ok (.aload_n 0, 1) := by decide +kernel
theorem d_W_at_34 : decode b_W_at 34 = .ok (.getfield 27, 3) := by decide +kernel
theorem d_W_at_37 : decode b_W_at 37 = .ok (.getfield 191, 3) := by decide +kernel
theorem d_W_at_40 : decode b_W_at 40 = .ok (.iload_n 1, 1) := by decide +kernel
theorem d_W_at_41 : decode b_W_at 41 = .ok (.aaload, 1) := by decide +kernel
theorem d_W_at_42 : decode b_W_at 42 = .ok (.astore_n 3, 1) := by decide +kernel
theorem d_W_at_43 : decode b_W_at 43 = .ok (.iload_n 2, 1) := by decide +kernel
theorem d_W_at_44 : decode b_W_at 44 = .ok (.ifCond .ne 8, 3) := by decide +kernel
theorem d_W_at_47 : decode b_W_at 47 = .ok (.aload_n 3, 1) := by decide +kernel
theorem d_W_at_48 : decode b_W_at 48 = .ok (.getfield 195, 3) := by decide +kernel
theorem d_W_at_51 : decode b_W_at 51 = .ok (.ireturn, 1) := by decide +kernel
theorem d_W_at_52 : decode b_W_at 52 = .ok (.iload_n 2, 1) := by decide +kernel
theorem d_W_at_53 : decode b_W_at 53 = .ok (.iconst 1, 1) := by decide +kernel
theorem d_W_at_54 : decode b_W_at 54 = .ok (.if_icmp .ne 10, 3) := by decide +kernel
theorem d_W_at_57 : decode b_W_at 57 = .ok (.aload_n 3, 1) := by decide +kernel
theorem d_W_at_58 : decode b_W_at 58 = .ok (.getfield 200, 3) := by decide +kernel
theorem d_W_at_61 : decode b_W_at 61 = .ok (.goto 7, 3) := by decide +kernel
theorem d_W_at_64 : decode b_W_at 64 = .ok (.aload_n 3, 1) := by decide +kernel
theorem d_W_at_65 : decode b_W_at 65 = .ok (.getfield 203, 3) := by decide +kernel
theorem d_W_at_68 : decode b_W_at 68 = .ok (.ireturn, 1) := by decide +kernel
theorem d_W_cost_0 : decode b_W_cost 0 = .ok (.aload_n 0, 1) := by decide +kernel
theorem d_W_cost_1 : decode b_W_cost 1 = .ok (.invokevirtual 188, 3) := by decide +kernel
theorem d_W_cost_4 : decode b_W_cost 4 = .ok (.aload_n 0, 1) := by decide +kernel
theorem d_W_cost_5 : decode b_W_cost 5 = .ok (.getfield 36, 3) := by decide +kernel
theorem d_W_cost_8 : decode b_W_cost 8 = .ok (.getfield 206, 3) := by decide +kernel
theorem d_W_cost_11 : decode b_W_cost 11 = .ok (.ireturn, 1) := by decide +kernel
theorem d_W_done_0 : decode b_W_done 0 = .ok (.aload_n 0, 1) := by decide +kernel
theorem d_W_done_1 : decode b_W_done 1 = .ok (.invokevirtual 188, 3) := by decide +kernel
theorem d_W_done_4 : decode b_W_done 4 = .ok (.iconst 0, 1) := by decide +kernel
theorem d_W_done_5 : decode b_W_done 5 = .ok (.istore_n 1, 1) := by decide +kernel
theorem d_W_done_6 : decode b_W_done 6 = .ok (.iconst 0, 1) := by decide +kernel
theorem d_W_done_7 : decode b_W_done 7 = .ok (.istore_n 2, 1) := by decide +kernel
theorem d_W_done_8 : decode b_W_done 8 = .ok (.iload_n 2, 1) := by decide +kernel
theorem d_W_done_9 : decode b_W_done 9 = .ok (.aload_n 0, 1) := by decide +kernel
theorem d_W_done_10 : decode b_W_done 10 = .ok (.getfield 27, 3) := by decide +kernel
theorem d_W_done_13 : decode b_W_done 13 = .ok (.getfield 160, 3) := by decide +kernel
theorem d_W_done_16 : decode b_W_done 16 = .ok (.if_icmp .ge 66, 3) := by decide +kernel
theorem d_W_done_19 : decode b_W_done 19 = .ok (.aload_n 0, 1) := by decide +kernel
theorem d_W_done_20 : decode b_W_done 20 = .ok (.getfield 27, 3) := by decide +kernel
theorem d_W_done_23 : decode b_W_done 23 = .ok (.getfield 191, 3) := by decide +kernel
theorem d_W_done_26 : decode b_W_done 26 = .ok (.iload_n 2, 1) := by decide +kernel
theorem d_W_done_27 : decode b_W_done 27 = .ok (.aaload, 1) := by decide +kernel
theorem d_W_done_28 : decode b_W_done 28 = .ok (.astore_n 3, 1) := by decide +kernel
theorem d_W_done_29 : decode b_W_done 29 = .ok (.aload_n 3, 1) := by decide +kernel
theorem d_W_done_30 : decode b_W_done 30 = .ok (.invokevirtual 209, 3) := by decide +kernel
theorem d_W_done_33 : decode b_W_done 33 = .ok (.ifCond .eq 43, 3) := by decide +kernel
theorem d_W_done_36 : decode b_W_done 36 = .ok (.aload_n 0, 1) := by decide +kernel
theorem d_W_done_37 : decode b_W_done 37 = .ok (.getfield 20, 3) := by decide +kernel
theorem d_W_done_40 : decode b_W_done 40 = .ok (.aload_n 3, 1) := by decide +kernel
theorem d_W_done_41 : decode b_W_done 41 = .ok (.getfield 212, 3) := by decide +kernel
theorem d_W_done_44 : decode b_W_done 44 = .ok (.iaload, 1) := by decide +kernel
theorem d_W_done_45 : decode b_W_done 45 = .ok (.ifCond .le 31, 3) := by decide +kernel
theorem d_W_done_48 : decode b_W_done 48 = .ok (.aload_n 0, 1) := by decide +kernel
theorem d_W_done_49 : decode b_W_done 49 = .ok (.getfield 20, 3) := by decide +kernel
theorem d_W_done_52 : decode b_W_done 52 = .ok (.aload_n 3, 1) := by decide +kernel
theorem d_W_done_53 : decode b_W_done 53 = .ok (.getfield 212, 3) := by decide +kernel
theorem d_W_done_56 : decode b_W_done 56 = .ok (.dup2, 1) := by decide +kernel
theorem d_W_done_57 : decode b_W_done 57 = .ok (.iaload, 1) := by decide +kernel
theorem d_W_done_58 : decode b_W_done 58 = .ok (.iconst 1, 1) := by decide +kernel
theorem d_W_done_59 : decode b_W_done 59 = .ok (.isub, 1) := by decide +kernel
theorem d_W_done_60 : decode b_W_done 60 = .ok (.iastore, 1) := by decide +kernel
theorem d_W_done_61 : decode b_W_done 61 = .ok (.aload_n 0, 1) := by decide +kernel
theorem d_W_done_62 : decode b_W_done 62 = .ok (.getfield 15, 3) := by decide +kernel
theorem d_W_done_65 : decode b_W_done 65 = .ok (.aload_n 3, 1) := by decide +kernel
theorem d_W_done_66 : decode b_W_done 66 = .ok (.getfield 215, 3) := by decide +kernel
theorem d_W_done_69 : decode b_W_done 69 = .ok (.aaload, 1) := by decide +kernel
theorem d_W_done_70 : decode b_W_done 70 = .ok (.invokevirtual 218, 3) := by decide +kernel
theorem d_W_done_73 : decode b_W_done 73 = .ok (.iinc 1 1, 3) := by decide +kernel
theorem d_W_done_76 : decode b_W_done 76 = .ok (.iinc 2 1, 3) := by decide +kernel
theorem d_W_done_79 : decode b_W_done 79 = .ok (.goto (-71), 3) := by decide +kernel
theorem d_W_done_82 : decode b_W_done 82 = .ok (.aload_n 0, 1) := by decide +kernel
theorem d_W_done_83 : decode b_W_done 83 = .ok (.getfield 27, 3) := by decide +kernel
theorem d_W_done_86 : decode b_W_done 86 = .ok (.iconst 0, 1) := by decide +kernel
theorem d_W_done_87 : decode b_W_done 87 = .ok (.putfield 160, 3) := by decide +kernel
theorem d_W_done_90 : decode b_W_done 90 = .ok (.aload_n 0, 1) := by decide +kernel
theorem d_W_done_91 : decode b_W_done 91 = .ok (.getfield 36, 3) := by decide +kernel
theorem d_W_done_94 : decode b_W_done 94 = .ok (.invokevirtual 143, 3) := by decide +kernel
theorem d_W_done_97 : decode b_W_done 97 = .ok (.iload_n 1, 1) := by decide +kernel
theorem d_W_done_98 : decode b_W_done 98 = .ok (.ireturn, 1) := by decide +kernel
theorem d_W_spare_0 : decode b_W_spare 0 = .ok (.iload_n 1, 1) := by decide +kernel
theorem d_W_spare_1 : decode b_W_spare 1 = .ok (.ifCond .lt 8, 3) := by decide +kernel
theorem d_W_spare_4 : decode b_W_spare 4 = .ok (.iload_n 1, 1) := by decide +kernel
theorem d_W_spare_5 : decode b_W_spare 5 = .ok (.iconst 4, 1) := by decide +kernel
theorem d_W_spare_6 : decode b_W_spare 6 = .ok (.if_icmp .lt 13, 3) := by decide +kernel
theorem d_W_spare_9 : decode b_W_spare 9 = .ok (.new 123, 3) := by decide +kernel
theorem d_W_spare_12 : decode b_W_spare 12 = .ok (.dup, 1) := by decide +kernel
theorem d_W_spare_13 : decode b_W_spare 13 = .ok (.ldc 221, 2) := by decide +kernel
theorem d_W_spare_15 : decode b_W_spare 15 = .ok (.invokespecial 127, 3) := by decide +kernel
theorem d_W_spare_18 : decode b_W_spare 18 = .ok (.athrow, 1) := by decide +kernel
theorem d_W_spare_19 : decode b_W_spare 19 = .ok (.iload_n 2, 1) := by decide +kernel
theorem d_W_spare_20 : decode b_W_spare 20 = .ok (.iconst 0, 1) := by decide +kernel
theorem d_W_spare_21 : decode b_W_spare 21 = .ok (.bipush 100, 2) := by decide +kernel
theorem d_W_spare_23 : decode b_W_spare 23 = .ok (.invokestatic 41, 3) := by decide +kernel
theorem d_W_spare_26 : decode b_W_spare 26 = .ok (.ifCond .ne 13, 3) := by decide +kernel
theorem d_W_spare_29 : decode b_W_spare 29 = .ok (.new 45, 3) := by decide +kernel
theorem d_W_spare_32 : decode b_W_spare 32 = .ok (.dup, 1) := by decide +kernel
theorem d_W_spare_33 : decode b_W_spare 33 = .ok (.ldc 223, 2) := by decide +kernel
theorem d_W_spare_35 : decode b_W_spare 35 = .ok (.invokespecial 49, 3) := by decide +kernel
theorem d_W_spare_38 : decode b_W_spare 38 = .ok (.athrow, 1) := by decide +kernel
theorem d_W_spare_39 : decode b_W_spare 39 = .ok (.aload_n 0, 1) := by decide +kernel
theorem d_W_spare_40 : decode b_W_spare 40 = .ok (.getfield 20, 3) := by decide +kernel
theorem d_W_spare_43 : decode b_W_spare 43 = .ok (.iload_n 1, 1) := by decide +kernel
theorem d_W_spare_44 : decode b_W_spare 44 = .ok (.iaload, 1) := by decide +kernel
theorem d_W_spare_45 : decode b_W_spare 45 = .ok (.iload_n 2, 1) := by decide +kernel
theorem d_W_spare_46 : decode b_W_spare 46 = .ok (.iadd, 1) := by decide +kernel
theorem d_W_spare_47 : decode b_W_spare 47 = .ok (.sipush 1000, 3) := by decide +kernel
theorem d_W_spare_50 : decode b_W_spare 50 = .ok (.if_icmp .le 13, 3) := by decide +kernel
theorem d_W_spare_53 : decode b_W_spare 53 = .ok (.new 56, 3) := by decide +kernel
theorem d_W_spare_56 : decode b_W_spare 56 = .ok (.dup, 1) := by decide +kernel
theorem d_W_spare_57 : decode b_W_spare 57 = .ok (.ldc 225, 2) := by decide +kernel
theorem d_W_spare_59 : decode b_W_spare 59 = .ok (.invokespecial 60, 3) := by decide +kernel
theorem d_W_spare_62 : decode b_W_spare 62 = .ok (.athrow, 1) := by decide +kernel
theorem d_W_spare_63 : decode b_W_spare 63 = .ok (.aload_n 0, 1) := by decide +kernel
theorem d_W_spare_64 : decode b_W_spare 64 = .ok (.getfield 20, 3) := by decide +kernel
theorem d_W_spare_67 : decode b_W_spare 67 = .ok (.iload_n 1, 1) := by decide +kernel
theorem d_W_spare_68 : decode b_W_spare 68 = .ok (.dup2, 1) := by decide +kernel
theorem d_W_spare_69 : decode b_W_spare 69 = .ok (.iaload, 1) := by decide +kernel
theorem d_W_spare_70 : decode b_W_spare 70 = .ok (.iload_n 2, 1) := by decide +kernel
theorem d_W_spare_71 : decode b_W_spare 71 = .ok (.iadd, 1) := by decide +kernel
theorem d_W_spare_72 : decode b_W_spare 72 = .ok (.iastore, 1) := by decide +kernel
theorem d_W_spare_73 : decode b_W_spare 73 = .ok (.aload_n 0, 1) := by decide +kernel
theorem d_W_spare_74 : decode b_W_spare 74 = .ok (.getfield 20, 3) := by decide +kernel
theorem d_W_spare_77 : decode b_W_spare 77 = .ok (.iload_n 1, 1) := by decide +kernel
theorem d_W_spare_78 : decode b_W_spare 78 = .ok (.iaload, 1) := by decide +kernel
theorem d_W_spare_79 : decode b_W_spare 79 = .ok (.ireturn, 1) := by decide +kernel
theorem d_W_isWithin_0 : decode b_W_isWithin 0 = .ok (.iload_n 0, 1) := by decide +kernel
theorem d_W_isWithin_1 : decode b_W_isWithin 1 = .ok (.iload_n 1, 1) := by decide +kernel
theorem d_W_isWithin_2 : decode b_W_isWithin 2 = .ok (.if_icmp .lt 12, 3) := by decide +kernel
theorem d_W_isWithin_5 : decode b_W_isWithin 5 = .ok (.iload_n 0, 1) := by decide +kernel
theorem d_W_isWithin_6 : decode b_W_isWithin 6 = .ok (.iload_n 2, 1) := by decide +kernel
theorem d_W_isWithin_7 : decode b_W_isWithin 7 = .ok (.if_icmp .gt 7, 3) := by decide +kernel
theorem d_W_isWithin_10 : decode b_W_isWithin 10 = .ok (.iconst 1, 1) := by decide +kernel
theorem d_W_isWithin_11 : decode b_W_isWithin 11 = .ok (.goto 4, 3) := by decide +kernel
theorem d_W_isWithin_14 : decode b_W_isWithin 14 = .ok (.iconst 0, 1) := by decide +kernel
theorem d_W_isWithin_15 : decode b_W_isWithin 15 = .ok (.ireturn, 1) := by decide +kernel
theorem d_W_knownThing_0 : decode b_W_knownThing 0 = .ok (.iload_n 1, 1) := by decide +kernel
theorem d_W_knownThing_1 : decode b_W_knownThing 1 = .ok (.ifCond .lt 11, 3) := by decide +kernel
theorem d_W_knownThing_4 : decode b_W_knownThing 4 = .ok (.iload_n 1, 1) := by decide +kernel
theorem d_W_knownThing_5 : decode b_W_knownThing 5 = .ok (.aload_n 0, 1) := by decide +kernel
theorem d_W_knownThing_6 : decode b_W_knownThing 6 = .ok (.getfield 52, 3) := by decide +kernel
theorem d_W_knownThing_9 : decode b_W_knownThing 9 = .ok (.if_icmp .lt 13, 3) := by decide +kernel
theorem d_W_knownThing_12 : decode b_W_knownThing 12 = .ok (.new 123, 3) := by decide +kernel
theorem d_W_knownThing_15 : decode b_W_knownThing 15 = .ok (.dup, 1) := by decide +kernel
theorem d_W_knownThing_16 : decode b_W_knownThing 16 = .ok (.ldc 227, 2) := by decide +kernel
theorem d_W_knownThing_18 : decode b_W_knownThing 18 = .ok (.invokespecial 127, 3) := by decide +kernel
theorem d_W_knownThing_21 : decode b_W_knownThing 21 = .ok (.athrow, 1) := by decide +kernel
theorem d_W_knownThing_22 : decode b_W_knownThing 22 = .ok (.aload_n 0, 1) := by decide +kernel
theorem d_W_knownThing_23 : decode b_W_knownThing 23 = .ok (.getfield 15, 3) := by decide +kernel
theorem d_W_knownThing_26 : decode b_W_knownThing 26 = .ok (.iload_n 1, 1) := by decide +kernel
theorem d_W_knownThing_27 : decode b_W_knownThing 27 = .ok (.aaload, 1) := by decide +kernel
theorem d_W_knownThing_28 : decode b_W_knownThing 28 = .ok (.areturn, 1) := by decide +kernel
theorem d_W_checkWhat_0 : decode b_W_checkWhat 0 = .ok (.iload_n 0, 1) := by decide +kernel
theorem d_W_checkWhat_1 : decode b_W_checkWhat 1 = .ok (.ifCond .lt 8, 3) := by decide +kernel
theorem d_W_checkWhat_4 : decode b_W_checkWhat 4 = .ok (.iload_n 0, 1) := by decide +kernel
theorem d_W_checkWhat_5 : decode b_W_checkWhat 5 = .ok (.iconst 3, 1) := by decide +kernel
theorem d_W_checkWhat_6 : decode b_W_checkWhat 6 = .ok (.if_icmp .lt 13, 3) := by decide +kernel
theorem d_W_checkWhat_9 : decode b_W_checkWhat 9 = .ok (.new 123, 3) := by decide +kernel
theorem d_W_checkWhat_12 : decode b_W_checkWhat 12 = .ok (.dup, 1) := by decide +kernel
theorem d_W_checkWhat_13 : decode b_W_checkWhat 13 = .ok (.ldc 229, 2) := by decide +kernel
theorem d_W_checkWhat_15 : decode b_W_checkWhat 15 = .ok (.invokespecial 127, 3) := by decide +kernel
theorem d_W_checkWhat_18 : decode b_W_checkWhat 18 = .ok (.athrow, 1) := by decide +kernel
theorem d_W_checkWhat_19 : decode b_W_checkWhat 19 = .ok (.return_, 1) := by decide +kernel
theorem d_W_checkHours_0 : decode b_W_checkHours 0 = .ok (.iload_n 0, 1) := by decide +kernel
theorem d_W_checkHours_1 : decode b_W_checkHours 1 = .ok (.ifCond .lt 15, 3) := by decide +kernel
theorem d_W_checkHours_4 : decode b_W_checkHours 4 = .ok (.iload_n 1, 1) := by decide +kernel
theorem d_W_checkHours_5 : decode b_W_checkHours 5 = .ok (.sipush 168, 3) := by decide +kernel
theorem d_W_checkHours_8 : decode b_W_checkHours 8 = .ok (.if_icmp .gt 8, 3) := by decide +kernel
theorem d_W_checkHours_11 : decode b_W_checkHours 11 = .ok (.iload_n 1, 1) := by decide +kernel
theorem d_W_checkHours_12 : decode b_W_checkHours 12 = .ok (.iload_n 0, 1) := by decide +kernel
theorem d_W_checkHours_13 : decode b_W_checkHours 13 = .ok (.if_icmp .gt 13, 3) := by decide +kernel
theorem d_W_checkHours_16 : decode b_W_checkHours 16 = .ok (.new 45, 3) := by decide +kernel
theorem d_W_checkHours_19 : decode b_W_checkHours 19 = .ok (.dup, 1) := by decide +kernel
theorem d_W_checkHours_20 : decode b_W_checkHours 20 = .ok (.ldc 231, 2) := by decide +kernel
theorem d_W_checkHours_22 : decode b_W_checkHours 22 = .ok (.invokespecial 49, 3) := by decide +kernel
theorem d_W_checkHours_25 : decode b_W_checkHours 25 = .ok (.athrow, 1) := by decide +kernel
theorem d_W_checkHours_26 : decode b_W_checkHours 26 = .ok (.return_, 1) := by decide +kernel
theorem d_W_checkSkill_0 : decode b_W_checkSkill 0 = .ok (.iload_n 0, 1) := by decide +kernel
theorem d_W_checkSkill_1 : decode b_W_checkSkill 1 = .ok (.ifCond .lt 8, 3) := by decide +kernel
theorem d_W_checkSkill_4 : decode b_W_checkSkill 4 = .ok (.iload_n 0, 1) := by decide +kernel
theorem d_W_checkSkill_5 : decode b_W_checkSkill 5 = .ok (.iconst 4, 1) := by decide +kernel
theorem d_W_checkSkill_6 : decode b_W_checkSkill 6 = .ok (.if_icmp .lt 13, 3) := by decide +kernel
theorem d_W_checkSkill_9 : decode b_W_checkSkill 9 = .ok (.new 45, 3) := by decide +kernel
theorem d_W_checkSkill_12 : decode b_W_checkSkill 12 = .ok (.dup, 1) := by decide +kernel
theorem d_W_checkSkill_13 : decode b_W_checkSkill 13 = .ok (.ldc 233, 2) := by decide +kernel
theorem d_W_checkSkill_15 : decode b_W_checkSkill 15 = .ok (.invokespecial 49, 3) := by decide +kernel
theorem d_W_checkSkill_18 : decode b_W_checkSkill 18 = .ok (.athrow, 1) := by decide +kernel
theorem d_W_checkSkill_19 : decode b_W_checkSkill 19 = .ok (.return_, 1) := by decide +kernel
theorem d_W_checkPlan_0 : decode b_W_checkPlan 0 = .ok (.aload_n 0, 1) := by decide +kernel
theorem d_W_checkPlan_1 : decode b_W_checkPlan 1 = .ok (.getfield 36, 3) := by decide +kernel
theorem d_W_checkPlan_4 : decode b_W_checkPlan 4 = .ok (.getfield 177, 3) := by decide +kernel
theorem d_W_checkPlan_7 : decode b_W_checkPlan 7 = .ok (.ifCond .ne 13, 3) := by decide +kernel
theorem d_W_checkPlan_10 : decode b_W_checkPlan 10 = .ok (.new 73, 3) := by decide +kernel
theorem d_W_checkPlan_13 : decode b_W_checkPlan 13 = .ok (.dup, 1) := by decide +kernel
theorem d_W_checkPlan_14 : decode b_W_checkPlan 14 = .ok (.ldc 235, 2) := by decide +kernel
theorem d_W_checkPlan_16 : decode b_W_checkPlan 16 = .ok (.invokespecial 77, 3) := by decide +kernel
theorem d_W_checkPlan_19 : decode b_W_checkPlan 19 = .ok (.athrow, 1) := by decide +kernel
theorem d_W_checkPlan_20 : decode b_W_checkPlan 20 = .ok (.return_, 1) := by decide +kernel
theorem d_W_drawnNumber_0 : decode b_W_drawnNumber 0 = .ok (.aload_n 0, 1) := by decide +kernel
theorem d_W_drawnNumber_1 : decode b_W_drawnNumber 1 = .ok (.getfield 7, 3) := by decide +kernel
theorem d_W_drawnNumber_4 : decode b_W_drawnNumber 4 = .ok (.lload_n 1, 1) := by decide +kernel
theorem d_W_drawnNumber_5 : decode b_W_drawnNumber 5 = .ok (.ldc2_w 237, 3) := by decide +kernel
theorem d_W_drawnNumber_8 : decode b_W_drawnNumber 8 = .ok (.lmul, 1) := by decide +kernel
theorem d_W_drawnNumber_9 : decode b_W_drawnNumber 9 = .ok (.ladd, 1) := by decide +kernel
theorem d_W_drawnNumber_10 : decode b_W_drawnNumber 10 = .ok (.lstore_n 3, 1) := by decide +kernel
theorem d_W_drawnNumber_11 : decode b_W_drawnNumber 11 = .ok (.lload_n 3, 1) := by decide +kernel
theorem d_W_drawnNumber_12 : decode b_W_drawnNumber 12 = .ok (.lload_n 3, 1) := by decide +kernel
theorem d_W_drawnNumber_13 : decode b_W_drawnNumber 13 = .ok (.bipush 30, 2) := by decide +kernel
theorem d_W_drawnNumber_15 : decode b_W_drawnNumber 15 = .ok (.lushr, 1) := by decide +kernel
theorem d_W_drawnNumber_16 : decode b_W_drawnNumber 16 = .ok (.lxor, 1) := by decide +kernel
theorem d_W_drawnNumber_17 : decode b_W_drawnNumber 17 = .ok (.ldc2_w 239, 3) := by decide +kernel
theorem d_W_drawnNumber_20 : decode b_W_drawnNumber 20 = .ok (.lmul, 1) := by decide +kernel
theorem d_W_drawnNumber_21 : decode b_W_drawnNumber 21 = .ok (.lstore_n 3, 1) := by decide +kernel
theorem d_W_drawnNumber_22 : decode b_W_drawnNumber 22 = .ok (.lload_n 3, 1) := by decide +kernel
theorem d_W_drawnNumber_23 : decode b_W_drawnNumber 23 = .ok (.lload_n 3, 1) := by decide +kernel
theorem d_W_drawnNumber_24 : decode b_W_drawnNumber 24 = .ok (.bipush 27, 2) := by decide +kernel
theorem d_W_drawnNumber_26 : decode b_W_drawnNumber 26 = .ok (.lushr, 1) := by decide +kernel
theorem d_W_drawnNumber_27 : decode b_W_drawnNumber 27 = .ok (.lxor, 1) := by decide +kernel
theorem d_W_drawnNumber_28 : decode b_W_drawnNumber 28 = .ok (.ldc2_w 241, 3) := by decide +kernel
theorem d_W_drawnNumber_31 : decode b_W_drawnNumber 31 = .ok (.lmul, 1) := by decide +kernel
theorem d_W_drawnNumber_32 : decode b_W_drawnNumber 32 = .ok (.lstore_n 3, 1) := by decide +kernel
theorem d_W_drawnNumber_33 : decode b_W_drawnNumber 33 = .ok (.lload_n 3, 1) := by decide +kernel
theorem d_W_drawnNumber_34 : decode b_W_drawnNumber 34 = .ok (.lload_n 3, 1) := by decide +kernel
theorem d_W_drawnNumber_35 : decode b_W_drawnNumber 35 = .ok (.bipush 31, 2) := by decide +kernel
theorem d_W_drawnNumber_37 : decode b_W_drawnNumber 37 = .ok (.lushr, 1) := by decide +kernel
theorem d_W_drawnNumber_38 : decode b_W_drawnNumber 38 = .ok (.lxor, 1) := by decide +kernel
theorem d_W_drawnNumber_39 : decode b_W_drawnNumber 39 = .ok (.lstore_n 3, 1) := by decide +kernel
theorem d_W_drawnNumber_40 : decode b_W_drawnNumber 40 = .ok (.lload_n 3, 1) := by decide +kernel
theorem d_W_drawnNumber_41 : decode b_W_drawnNumber 41 = .ok (.ldc2_w 243, 3) := by decide +kernel
theorem d_W_drawnNumber_44 : decode b_W_drawnNumber 44 = .ok (.land, 1) := by decide +kernel
theorem d_W_drawnNumber_45 : decode b_W_drawnNumber 45 = .ok (.lreturn, 1) := by decide +kernel
theorem d_G_init_0 : decode b_G_init 0 = .ok (.aload_n 0, 1) := by decide +kernel
theorem d_G_init_1 : decode b_G_init 1 = .ok (.invokespecial 1, 3) := by decide +kernel
theorem d_G_init_4 : decode b_G_init 4 = .ok (.return_, 1) := by decide +kernel
theorem d_P_init_0 : decode b_P_init 0 = .ok (.aload_n 0, 1) := by decide +kernel
theorem d_P_init_1 : decode b_P_init 1 = .ok (.invokespecial 1, 3) := by decide +kernel
theorem d_P_init_4 : decode b_P_init 4 = .ok (.return_, 1) := by decide +kernel
theorem d_L_init_0 : decode b_L_init 0 = .ok (.aload_n 0, 1) := by decide +kernel
theorem d_L_init_1 : decode b_L_init 1 = .ok (.invokespecial 3, 3) := by decide +kernel
theorem d_L_init_4 : decode b_L_init 4 = .ok (.aload_n 0, 1) := by decide +kernel
theorem d_L_init_5 : decode b_L_init 5 = .ok (.aload_n 1, 1) := by decide +kernel
theorem d_L_init_6 : decode b_L_init 6 = .ok (.putfield 9, 3) := by decide +kernel
theorem d_L_init_9 : decode b_L_init 9 = .ok (.aload_n 0, 1) := by decide +kernel
theorem d_L_init_10 : decode b_L_init 10 = .ok (.iconst 4, 1) := by decide +kernel
theorem d_L_init_11 : decode b_L_init 11 = .ok (.newarray .int, 2) := by decide +kernel
theorem d_L_init_13 : decode b_L_init 13 = .ok (.putfield 17, 3) := by decide +kernel
theorem d_L_init_16 : decode b_L_init 16 = .ok (.aload_n 0, 1) := by decide +kernel
theorem d_L_init_17 : decode b_L_init 17 = .ok (.bipush 8, 2) := by decide +kernel
theorem d_L_init_19 : decode b_L_init 19 = .ok (.newarray .int, 2) := by decide +kernel
theorem d_L_init_21 : decode b_L_init 21 = .ok (.putfield 21, 3) := by decide +kernel
theorem d_L_init_24 : decode b_L_init 24 = .ok (.aload_n 0, 1) := by decide +kernel
theorem d_L_init_25 : decode b_L_init 25 = .ok (.bipush 6, 2) := by decide +kernel
theorem d_L_init_27 : decode b_L_init 27 = .ok (.newarray .int, 2) := by decide +kernel
theorem d_L_init_29 : decode b_L_init 29 = .ok (.putfield 24, 3) := by decide +kernel
theorem d_L_init_32 : decode b_L_init 32 = .ok (.return_, 1) := by decide +kernel
theorem d_L_forget_0 : decode b_L_forget 0 = .ok (.aload_n 0, 1) := by decide +kernel
theorem d_L_forget_1 : decode b_L_forget 1 = .ok (.iconst 0, 1) := by decide +kernel
theorem d_L_forget_2 : decode b_L_forget 2 = .ok (.putfield 27, 3) := by decide +kernel
theorem d_L_forget_5 : decode b_L_forget 5 = .ok (.return_, 1) := by decide +kernel
theorem d_L_makeBest_0 : decode b_L_makeBest 0 = .ok (.aload_n 0, 1) := by decide +kernel
theorem d_L_makeBest_1 : decode b_L_makeBest 1 = .ok (.invokevirtual 31, 3) := by decide +kernel
theorem d_L_makeBest_4 : decode b_L_makeBest 4 = .ok (.aload_n 0, 1) := by decide +kernel
theorem d_L_makeBest_5 : decode b_L_makeBest 5 = .ok (.invokevirtual 34, 3) := by decide +kernel
theorem d_L_makeBest_8 : decode b_L_makeBest 8 = .ok (.aload_n 0, 1) := by decide +kernel
theorem d_L_makeBest_9 : decode b_L_makeBest 9 = .ok (.aload_n 0, 1) := by decide +kernel
theorem d_L_makeBest_10 : decode b_L_makeBest 10 = .ok (.iconst 0, 1) := by decide +kernel
theorem d_L_makeBest_11 : decode b_L_makeBest 11 = .ok (.ldc 37, 2) := by decide +kernel
theorem d_L_makeBest_13 : decode b_L_makeBest 13 = .ok (.invokevirtual 38, 3) := by decide +kernel
theorem d_L_makeBest_16 : decode b_L_makeBest 16 = .ok (.putfield 42, 3) := by decide +kernel
theorem d_L_makeBest_19 : decode b_L_makeBest 19 = .ok (.aload_n 0, 1) := by decide +kernel
theorem d_L_makeBest_20 : decode b_L_makeBest 20 = .ok (.iconst 0, 1) := by decide +kernel
theorem d_L_makeBest_21 : decode b_L_makeBest 21 = .ok (.putfield 46, 3) := by decide +kernel
theorem d_L_makeBest_24 : decode b_L_makeBest 24 = .ok (.aload_n 0, 1) := by decide +kernel
theorem d_L_makeBest_25 : decode b_L_makeBest 25 = .ok (.getfield 42, 3) := by decide +kernel
theorem d_L_makeBest_28 : decode b_L_makeBest 28 = .ok (.istore_n 1, 1) := by decide +kernel
theorem d_L_makeBest_29 : decode b_L_makeBest 29 = .ok (.iconst 0, 1) := by decide +kernel
theorem d_L_makeBest_30 : decode b_L_makeBest 30 = .ok (.istore_n 2, 1) := by decide +kernel
theorem d_L_makeBest_31 : decode b_L_makeBest 31 = .ok (.iload_n 2, 1) := by decide +kernel
theorem d_L_makeBest_32 : decode b_L_makeBest 32 = .ok (.aload_n 0, 1) := by decide +kernel
theorem d_L_makeBest_33 : decode b_L_makeBest 33 = .ok (.getfield 9, 3) := by decide +kernel
theorem d_L_makeBest_36 : decode b_L_makeBest 36 = .ok (.getfield 49, 3) := by decide +kernel
theorem d_L_makeBest_39 : decode b_L_makeBest 39 = .ok (.if_icmp .ge 43, 3) := by decide +kernel
theorem d_L_makeBest_42 : decode b_L_makeBest 42 = .ok (.iload_n 1, 1) := by decide +kernel
theorem d_L_makeBest_43 : decode b_L_makeBest 43 = .ok (.aload_n 0, 1) := by decide +kernel
theorem d_L_makeBest_44 : decode b_L_makeBest 44 = .ok (.iload_n 2, 1) := by decide +kernel
theorem d_L_makeBest_45 : decode b_L_makeBest 45 = .ok (.iload_n 1, 1) := by decide +kernel
theorem d_L_makeBest_46 : decode b_L_makeBest 46 = .ok (.invokevirtual 52, 3) := by decide +kernel
theorem d_L_makeBest_49 : decode b_L_makeBest 49 = .ok (.isub, 1) := by decide +kernel
theorem d_L_makeBest_50 : decode b_L_makeBest 50 = .ok (.istore_n 1, 1) := by decide +kernel
theorem d_L_makeBest_51 : decode b_L_makeBest 51 = .ok (.aload_n 0, 1) := by decide +kernel
theorem d_L_makeBest_52 : decode b_L_makeBest 52 = .ok (.getfield 9, 3) := by decide +kernel
theorem d_L_makeBest_55 : decode b_L_makeBest 55 = .ok (.getfield 55, 3) := by decide +kernel
theorem d_L_makeBest_58 : decode b_L_makeBest 58 = .ok (.iload_n 2, 1) := by decide +kernel
theorem d_L_makeBest_59 : decode b_L_makeBest 59 = .ok (.aaload, 1) := by decide +kernel
theorem d_L_makeBest_60 : decode b_L_makeBest 60 = .ok (.invokevirtual 59, 3) := by decide +kernel
theorem d_L_makeBest_63 : decode b_L_makeBest 63 = .ok (.ifCond .eq 13, 3) := by decide +kernel
theorem d_L_makeBest_66 : decode b_L_makeBest 66 = .ok (.aload_n 0, 1) := by decide +kernel
theorem d_L_makeBest_67 : decode b_L_makeBest 67 = .ok (.dup, 1) := by decide +kernel
theorem d_L_makeBest_68 : decode b_L_makeBest 68 = .ok (.getfield 46, 3) := by decide +kernel
theorem d_L_makeBest_71 : decode b_L_makeBest 71 = .ok (.iconst 1, 1) := by decide +kernel
theorem d_L_makeBest_72 : decode b_L_makeBest 72 = .ok (.iadd, 1) := by decide +kernel
theorem d_L_makeBest_73 : decode b_L_makeBest 73 = .ok (.putfield 46, 3) := by decide +kernel
theorem d_L_makeBest_76 : decode b_L_makeBest 76 = .ok (.iinc 2 1, 3) := by decide +kernel
theorem d_L_makeBest_79 : decode b_L_makeBest 79 = .ok (.goto (-48), 3) := by decide +kernel
theorem d_L_makeBest_82 : decode b_L_makeBest 82 = .ok (.aload_n 0, 1) := by decide +kernel
theorem d_L_makeBest_83 : decode b_L_makeBest 83 = .ok (.iconst 1, 1) := by decide +kernel
theorem d_L_makeBest_84 : decode b_L_makeBest 84 = .ok (.putfield 27, 3) := by decide +kernel
theorem d_L_makeBest_87 : decode b_L_makeBest 87 = .ok (.return_, 1) := by decide +kernel
theorem d_L_freeAll_0 : decode b_L_freeAll 0 = .ok (.iconst 0, 1) := by decide +kernel
theorem d_L_freeAll_1 : decode b_L_freeAll 1 = .ok (.istore_n 1, 1) := by decide +kernel
theorem d_L_freeAll_2 : decode b_L_freeAll 2 = .ok (.iload_n 1, 1) := by decide +kernel
theorem d_L_freeAll_3 : decode b_L_freeAll 3 = .ok (.aload_n 0, 1) := by decide +kernel
theorem d_L_freeAll_4 : decode b_L_freeAll 4 = .ok (.getfield 17, 3) := by decide +kernel
theorem d_L_freeAll_7 : decode b_L_freeAll 7 = .ok (.arraylength, 1) := by decide +kernel
theorem d_L_freeAll_8 : decode b_L_freeAll 8 = .ok (.if_icmp .ge 16, 3) := by decide +kernel
theorem d_L_freeAll_11 : decode b_L_freeAll 11 = .ok (.aload_n 0, 1) := by decide +kernel
theorem d_L_freeAll_12 : decode b_L_freeAll 12 = .ok (.getfield 17, 3) := by decide +kernel
theorem d_L_freeAll_15 : decode b_L_freeAll 15 = .ok (.iload_n 1, 1) := by decide +kernel
theorem d_L_freeAll_16 : decode b_L_freeAll 16 = .ok (.iconst 0, 1) := by decide +kernel
theorem d_L_freeAll_17 : decode b_L_freeAll 17 = .ok (.iastore, 1) := by decide +kernel
theorem d_L_freeAll_18 : decode b_L_freeAll 18 = .ok (.iinc 1 1, 3) := by decide +kernel
theorem d_L_freeAll_21 : decode b_L_freeAll 21 = .ok (.goto (-19), 3) := by decide +kernel
theorem d_L_freeAll_24 : decode b_L_freeAll 24 = .ok (.iconst 0, 1) := by decide +kernel
theorem d_L_freeAll_25 : decode b_L_freeAll 25 = .ok (.istore_n 1, 1) := by decide +kernel
theorem d_L_freeAll_26 : decode b_L_freeAll 26 = .ok (.iload_n 1, 1) := by decide +kernel
theorem d_L_freeAll_27 : decode b_L_freeAll 27 = .ok (.aload_n 0, 1) := by decide +kernel
theorem d_L_freeAll_28 : decode b_L_freeAll 28 = .ok (.getfield 21, 3) := by decide +kernel
theorem d_L_freeAll_31 : decode b_L_freeAll 31 = .ok (.arraylength, 1) := by decide +kernel
theorem d_L_freeAll_32 : decode b_L_freeAll 32 = .ok (.if_icmp .ge 16, 3) := by decide +kernel
theorem d_L_freeAll_35 : decode b_L_freeAll 35 = .ok (.aload_n 0, 1) := by decide +kernel
theorem d_L_freeAll_36 : decode b_L_freeAll 36 = .ok (.getfield 21, 3) := by decide +kernel
theorem d_L_freeAll_39 : decode b_L_freeAll 39 = .ok (.iload_n 1, 1) := by decide +kernel
theorem d_L_freeAll_40 : decode b_L_freeAll 40 = .ok (.iconst 0, 1) := by decide +kernel
theorem d_L_freeAll_41 : decode b_L_freeAll 41 = .ok (.iastore, 1) := by decide +kernel
theorem d_L_freeAll_42 : decode b_L_freeAll 42 = .ok (.iinc 1 1, 3) := by decide +kernel
theorem d_L_freeAll_45 : decode b_L_freeAll 45 = .ok (.goto (-19), 3) := by decide +kernel
theorem d_L_freeAll_48 : decode b_L_freeAll 48 = .ok (.return_, 1) := by decide +kernel
theorem d_L_sumFloors_0 : decode b_L_sumFloors 0 = .ok (.aload_n 0, 1) := by decide +kernel
theorem d_L_sumFloors_1 : decode b_L_sumFloors 1 = .ok (.getfield 24, 3) := by decide +kernel
theorem d_L_sumFloors_4 : decode b_L_sumFloors 4 = .ok (.aload_n 0, 1) := by decide +kernel
theorem d_L_sumFloors_5 : decode b_L_sumFloors 5 = .ok (.getfield 9, 3) := by decide +kernel
theorem d_L_sumFloors_8 : decode b_L_sumFloors 8 = .ok (.getfield 49, 3) := by decide +kernel
theorem d_L_sumFloors_11 : decode b_L_sumFloors 11 = .ok (.iconst 0, 1) := by decide +kernel
theorem d_L_sumFloors_12 : decode b_L_sumFloors 12 = .ok (.iastore, 1) := by decide +kernel
theorem d_L_sumFloors_13 : decode b_L_sumFloors 13 = .ok (.aload_n 0, 1) := by decide +kernel
theorem d_L_sumFloors_14 : decode b_L_sumFloors 14 = .ok (.getfield 9, 3) := by decide +kernel
theorem d_L_sumFloors_17 : decode b_L_sumFloors 17 = .ok (.getfield 49, 3) := by decide +kernel
theorem d_L_sumFloors_20 : decode b_L_sumFloors 20 = .ok (.iconst 1, 1) := by decide +kernel
theorem d_L_sumFloors_21 : decode b_L_sumFloors 21 = .ok (.isub, 1) := by decide +kernel
theorem d_L_sumFloors_22 : decode b_L_sumFloors 22 = .ok (.istore_n 1, 1) := by decide +kernel
theorem d_L_sumFloors_23 : decode b_L_sumFloors 23 = .ok (.iload_n 1, 1) := by decide +kernel
theorem d_L_sumFloors_24 : decode b_L_sumFloors 24 = .ok (.ifCond .lt 92, 3) := by decide +kernel
theorem d_L_sumFloors_27 : decode b_L_sumFloors 27 = .ok (.aload_n 0, 1) := by decide +kernel
theorem d_L_sumFloors_28 : decode b_L_sumFloors 28 = .ok (.getfield 9, 3) := by decide +kernel
theorem d_L_sumFloors_31 : decode b_L_sumFloors 31 = .ok (.getfield 55, 3) := by decide +kernel
theorem d_L_sumFloors_34 : decode b_L_sumFloors 34 = .ok (.iload_n 1, 1) := by decide +kernel
theorem d_L_sumFloors_35 : decode b_L_sumFloors 35 = .ok (.aaload, 1) := by decide +kernel
theorem d_L_sumFloors_36 : decode b_L_sumFloors 36 = .ok (.astore_n 2, 1) := by decide +kernel
theorem d_L_sumFloors_37 : decode b_L_sumFloors 37 = .ok (.aload_n 0, 1) := by decide +kernel
theorem d_L_sumFloors_38 : decode b_L_sumFloors 38 = .ok (.getfield 9, 3) := by decide +kernel
theorem d_L_sumFloors_41 : decode b_L_sumFloors 41 = .ok (.aload_n 2, 1) := by decide +kernel
theorem d_L_sumFloors_42 : decode b_L_sumFloors 42 = .ok (.invokevirtual 65, 3) := by decide +kernel
theorem d_L_sumFloors_45 : decode b_L_sumFloors 45 = .ok (.istore_n 3, 1) := by decide +kernel
theorem d_L_sumFloors_46 : decode b_L_sumFloors 46 = .ok (.iconst 0, 1) := by decide +kernel
theorem d_L_sumFloors_47 : decode b_L_sumFloors 47 = .ok (.istore 4, 2) := by decide +kernel
theorem d_L_sumFloors_49 : decode b_L_sumFloors 49 = .ok (.iload 4, 2) := by decide +kernel
theorem d_L_sumFloors_51 : decode b_L_sumFloors 51 = .ok (.aload_n 0, 1) := by decide +kernel
theorem d_L_sumFloors_52 : decode b_L_sumFloors 52 = .ok (.getfield 9, 3) := by decide +kernel
theorem d_L_sumFloors_55 : decode b_L_sumFloors 55 = .ok (.getfield 69, 3) := by decide +kernel
theorem d_L_sumFloors_58 : decode b_L_sumFloors 58 = .ok (.if_icmp .ge 36, 3) := by decide +kernel
theorem d_L_sumFloors_61 : decode b_L_sumFloors 61 = .ok (.aload_n 0, 1) := by decide +kernel
theorem d_L_sumFloors_62 : decode b_L_sumFloors 62 = .ok (.aload_n 2, 1) := by decide +kernel
theorem d_L_sumFloors_63 : decode b_L_sumFloors 63 = .ok (.iload 4, 2) := by decide +kernel
theorem d_L_sumFloors_65 : decode b_L_sumFloors 65 = .ok (.invokevirtual 72, 3) := by decide +kernel
theorem d_L_sumFloors_68 : decode b_L_sumFloors 68 = .ok (.istore 5, 2) := by decide +kernel
theorem d_L_sumFloors_70 : decode b_L_sumFloors 70 = .ok (.iload 5, 2) := by decide +kernel
theorem d_L_sumFloors_72 : decode b_L_sumFloors 72 = .ok (.iconst (-1), 1) := by decide +kernel
theorem d_L_sumFloors_73 : decode b_L_sumFloors 73 = .ok (.if_icmp .eq 15, 3) := by decide +kernel
theorem d_L_sumFloors_76 : decode b_L_sumFloors 76 = .ok (.iload_n 3, 1) := by decide +kernel
theorem d_L_sumFloors_77 : decode b_L_sumFloors 77 = .ok (.aload_n 2, 1) := by decide +kernel
theorem d_L_sumFloors_78 : decode b_L_sumFloors 78 = .ok (.getfield 76, 3) := by decide +kernel
theorem d_L_sumFloors_81 : decode b_L_sumFloors 81 = .ok (.iload 5, 2) := by decide +kernel
theorem d_L_sumFloors_83 : decode b_L_sumFloors 83 = .ok (.imul, 1) := by decide +kernel
theorem d_L_sumFloors_84 : decode b_L_sumFloors 84 = .ok (.invokestatic 79, 3) := by decide +kernel
theorem d_L_sumFloors_87 : decode b_L_sumFloors 87 = .ok (.istore_n 3, 1) := by decide +kernel
theorem d_L_sumFloors_88 : decode b_L_sumFloors 88 = .ok (.iinc 4 1, 3) := by decide +kernel
theorem d_L_sumFloors_91 : decode b_L_sumFloors 91 = .ok (.goto (-42), 3) := by decide +kernel
theorem d_L_sumFloors_94 : decode b_L_sumFloors 94 = .ok (.aload_n 0, 1) := by decide +kernel
theorem d_L_sumFloors_95 : decode b_L_sumFloors 95 = .ok (.getfield 24, 3) := by decide +kernel
theorem d_L_sumFloors_98 : decode b_L_sumFloors 98 = .ok (.iload_n 1, 1) := by decide +kernel
theorem d_L_sumFloors_99 : decode b_L_sumFloors 99 = .ok (.aload_n 0, 1) := by decide +kernel
theorem d_L_sumFloors_100 : decode b_L_sumFloors 100 = .ok (.getfield 24, 3) := by decide +kernel
theorem d_L_sumFloors_103 : decode b_L_sumFloors 103 = .ok (.iload_n 1, 1) := by decide +kernel
theorem d_L_sumFloors_104 : decode b_L_sumFloors 104 = .ok (.iconst 1, 1) := by decide +kernel
theorem d_L_sumFloors_105 : decode b_L_sumFloors 105 = .ok (.iadd, 1) := by decide +kernel
theorem d_L_sumFloors_106 : decode b_L_sumFloors 106 = .ok (.iaload, 1) := by decide +kernel
theorem d_L_sumFloors_107 : decode b_L_sumFloors 107 = .ok (.iload_n 3, 1) := by decide +kernel
theorem d_L_sumFloors_108 : decode b_L_sumFloors 108 = .ok (.iadd, 1) := by decide +kernel
theorem d_L_sumFloors_109 : decode b_L_sumFloors 109 = .ok (.iastore, 1) := by decide +kernel
theorem d_L_sumFloors_110 : decode b_L_sumFloors 110 = .ok (.iinc 1 (-1), 3) := by decide +kernel
theorem d_L_sumFloors_113 : decode b_L_sumFloors 113 = .ok (.goto (-90), 3) := by decide +kernel
theorem d_L_sumFloors_116 : decode b_L_sumFloors 116 = .ok (.return_, 1) := by decide +kernel
theorem d_L_settle_0 : decode b_L_settle 0 = .ok (.aload_n 0, 1) := by decide +kernel
theorem d_L_settle_1 : decode b_L_settle 1 = .ok (.getfield 9, 3) := by decide +kernel
theorem d_L_settle_4 : decode b_L_settle 4 = .ok (.getfield 55, 3) := by decide +kernel
theorem d_L_settle_7 : decode b_L_settle 7 = .ok (.iload_n 1, 1) := by decide +kernel
theorem d_L_settle_8 : decode b_L_settle 8 = .ok (.aaload, 1) := by decide +kernel
theorem d_L_settle_9 : decode b_L_settle 9 = .ok (.astore_n 3, 1) := by decide +kernel
theorem d_L_settle_10 : decode b_L_settle 10 = .ok (.aload_n 3, 1) := by decide +kernel
theorem d_L_settle_11 : decode b_L_settle 11 = .ok (.invokevirtual 84, 3) := by decide +kernel
theorem d_L_settle_14 : decode b_L_settle 14 = .ok (.iconst 0, 1) := by decide +kernel
theorem d_L_settle_15 : decode b_L_settle 15 = .ok (.istore 4, 2) := by decide +kernel
theorem d_L_settle_17 : decode b_L_settle 17 = .ok (.iload 4, 2) := by decide +kernel
theorem d_L_settle_19 : decode b_L_settle 19 = .ok (.aload_n 0, 1) := by decide +kernel
theorem d_L_settle_20 : decode b_L_settle 20 = .ok (.getfield 9, 3) := by decide +kernel
theorem d_L_settle_23 : decode b_L_settle 23 = .ok (.getfield 87, 3) := by decide +kernel
theorem d_L_settle_26 : decode b_L_settle 26 = .ok (.if_icmp .ge 90, 3) := by decide +kernel
theorem d_L_settle_29 : decode b_L_settle 29 = .ok (.iconst 0, 1) := by decide +kernel
theorem d_L_settle_30 : decode b_L_settle 30 = .ok (.istore 5, 2) := by decide +kernel
theorem d_L_settle_32 : decode b_L_settle 32 = .ok (.iload 5, 2) := by decide +kernel
theorem d_L_settle_34 : decode b_L_settle 34 = .ok (.aload_n 0, 1) := by decide +kernel
theorem d_L_settle_35 : decode b_L_settle 35 = .ok (.getfield 9, 3) := by decide +kernel
theorem d_L_settle_38 : decode b_L_settle 38 = .ok (.getfield 69, 3) := by decide +kernel
theorem d_L_settle_41 : decode b_L_settle 41 = .ok (.if_icmp .ge 69, 3) := by decide +kernel
theorem d_L_settle_44 : decode b_L_settle 44 = .ok (.aload_n 0, 1) := by decide +kernel
theorem d_L_settle_45 : decode b_L_settle 45 = .ok (.aload_n 3, 1) := by decide +kernel
theorem d_L_settle_46 : decode b_L_settle 46 = .ok (.iload 4, 2) := by decide +kernel
theorem d_L_settle_48 : decode b_L_settle 48 = .ok (.iload 5, 2) := by decide +kernel
theorem d_L_settle_50 : decode b_L_settle 50 = .ok (.invokevirtual 90, 3) := by decide +kernel
theorem d_L_settle_53 : decode b_L_settle 53 = .ok (.istore 6, 2) := by decide +kernel
theorem d_L_settle_55 : decode b_L_settle 55 = .ok (.iload 6, 2) := by decide +kernel
theorem d_L_settle_57 : decode b_L_settle 57 = .ok (.iconst (-1), 1) := by decide +kernel
theorem d_L_settle_58 : decode b_L_settle 58 = .ok (.if_icmp .eq 46, 3) := by decide +kernel
theorem d_L_settle_61 : decode b_L_settle 61 = .ok (.aload_n 0, 1) := by decide +kernel
theorem d_L_settle_62 : decode b_L_settle 62 = .ok (.iload_n 1, 1) := by decide +kernel
theorem d_L_settle_63 : decode b_L_settle 63 = .ok (.iload 5, 2) := by decide +kernel
theorem d_L_settle_65 : decode b_L_settle 65 = .ok (.iload 6, 2) := by decide +kernel
theorem d_L_settle_67 : decode b_L_settle 67 = .ok (.iload_n 2, 1) := by decide +kernel
theorem d_L_settle_68 : decode b_L_settle 68 = .ok (.iconst 1, 1) := by decide +kernel
theorem d_L_settle_69 : decode b_L_settle 69 = .ok (.iadd, 1) := by decide +kernel
theorem d_L_settle_70 : decode b_L_settle 70 = .ok (.invokevirtual 94, 3) := by decide +kernel
theorem d_L_settle_73 : decode b_L_settle 73 = .ok (.iload_n 2, 1) := by decide +kernel
theorem d_L_settle_74 : decode b_L_settle 74 = .ok (.if_icmp .gt 30, 3) := by decide +kernel
theorem d_L_settle_77 : decode b_L_settle 77 = .ok (.aload_n 0, 1) := by decide +kernel
theorem d_L_settle_78 : decode b_L_settle 78 = .ok (.aload_n 3, 1) := by decide +kernel
theorem d_L_settle_79 : decode b_L_settle 79 = .ok (.iload 5, 2) := by decide +kernel
theorem d_L_settle_81 : decode b_L_settle 81 = .ok (.iload 6, 2) := by decide +kernel
theorem d_L_settle_83 : decode b_L_settle 83 = .ok (.invokevirtual 98, 3) := by decide +kernel
theorem d_L_settle_86 : decode b_L_settle 86 = .ok (.aload_n 3, 1) := by decide +kernel
theorem d_L_settle_87 : decode b_L_settle 87 = .ok (.iload 6, 2) := by decide +kernel
theorem d_L_settle_89 : decode b_L_settle 89 = .ok (.iload 5, 2) := by decide +kernel
theorem d_L_settle_91 : decode b_L_settle 91 = .ok (.iload 4, 2) := by decide +kernel
theorem d_L_settle_93 : decode b_L_settle 93 = .ok (.invokevirtual 102, 3) := by decide +kernel
theorem d_L_settle_96 : decode b_L_settle 96 = .ok (.aload_n 3, 1) := by decide +kernel
theorem d_L_settle_97 : decode b_L_settle 97 = .ok (.getfield 76, 3) := by decide +kernel
theorem d_L_settle_100 : decode b_L_settle 100 = .ok (.iload 6, 2) := by decide +kernel
theorem d_L_settle_102 : decode b_L_settle 102 = .ok (.imul, 1) := by decide +kernel
theorem d_L_settle_103 : decode b_L_settle 103 = .ok (.ireturn, 1) := by decide +kernel
theorem d_L_settle_104 : decode b_L_settle 104 = .ok (.iinc 5 1, 3) := by decide +kernel
theorem d_L_settle_107 : decode b_L_settle 107 = .ok (.goto (-75), 3) := by decide +kernel
theorem d_L_settle_110 : decode b_L_settle 110 = .ok (.iinc 4 1, 3) := by decide +kernel
theorem d_L_settle_113 : decode b_L_settle 113 = .ok (.goto (-96), 3) := by decide +kernel
theorem d_L_settle_116 : decode b_L_settle 116 = .ok (.aload_n 0, 1) := by decide +kernel
theorem d_L_settle_117 : decode b_L_settle 117 = .ok (.getfield 9, 3) := by decide +kernel
theorem d_L_settle_120 : decode b_L_settle 120 = .ok (.aload_n 3, 1) := by decide +kernel
theorem d_L_settle_121 : decode b_L_settle 121 = .ok (.invokevirtual 65, 3) := by decide +kernel
theorem d_L_settle_124 : decode b_L_settle 124 = .ok (.ireturn, 1) := by decide +kernel
theorem d_L_leastCost_0 : decode b_L_leastCost 0 = .ok (.iload_n 1, 1) := by decide +kernel
theorem d_L_leastCost_1 : decode b_L_leastCost 1 = .ok (.aload_n 0, 1) := by decide +kernel
theorem d_L_leastCost_2 : decode b_L_leastCost 2 = .ok (.getfield 9, 3) := by decide +kernel
theorem d_L_leastCost_5 : decode b_L_leastCost 5 = .ok (.getfield 49, 3) := by decide +kernel
theorem d_L_leastCost_8 : decode b_L_leastCost 8 = .ok (.if_icmp .lt 5, 3) := by decide +kernel
theorem d_L_leastCost_11 : decode b_L_leastCost 11 = .ok (.iconst 0, 1) := by decide +kernel
theorem d_L_leastCost_12 : decode b_L_leastCost 12 = .ok (.ireturn, 1) := by decide +kernel
theorem d_L_leastCost_13 : decode b_L_leastCost 13 = .ok (.aload_n 0, 1) := by decide +kernel
theorem d_L_leastCost_14 : decode b_L_leastCost 14 = .ok (.getfield 9, 3) := by decide +kernel
theorem d_L_leastCost_17 : decode b_L_leastCost 17 = .ok (.getfield 55, 3) := by decide +kernel
theorem d_L_leastCost_20 : decode b_L_leastCost 20 = .ok (.iload_n 1, 1) := by decide +kernel
theorem d_L_leastCost_21 : decode b_L_leastCost 21 = .ok (.aaload, 1) := by decide +kernel
theorem d_L_leastCost_22 : decode b_L_leastCost 22 = .ok (.astore_n 3, 1) := by decide +kernel
theorem d_L_leastCost_23 : decode b_L_leastCost 23 = .ok (.iload_n 2, 1) := by decide +kernel
theorem d_L_leastCost_24 : decode b_L_leastCost 24 = .ok (.istore 4, 2) := by decide +kernel
theorem d_L_leastCost_26 : decode b_L_leastCost 26 = .ok (.iconst 0, 1) := by decide +kernel
theorem d_L_leastCost_27 : decode b_L_leastCost 27 = .ok (.istore 5, 2) := by decide +kernel
theorem d_L_leastCost_29 : decode b_L_leastCost 29 = .ok (.iload 5, 2) := by decide +kernel
theorem d_L_leastCost_31 : decode b_L_leastCost 31 = .ok (.aload_n 0, 1) := by decide +kernel
theorem d_L_leastCost_32 : decode b_L_leastCost 32 = .ok (.getfield 9, 3) := by decide +kernel
theorem d_L_leastCost_35 : decode b_L_leastCost 35 = .ok (.getfield 69, 3) := by decide +kernel
theorem d_L_leastCost_38 : decode b_L_leastCost 38 = .ok (.if_icmp .ge 37, 3) := by decide +kernel
theorem d_L_leastCost_41 : decode b_L_leastCost 41 = .ok (.aload_n 0, 1) := by decide +kernel
theorem d_L_leastCost_42 : decode b_L_leastCost 42 = .ok (.aload_n 3, 1) := by decide +kernel
theorem d_L_leastCost_43 : decode b_L_leastCost 43 = .ok (.iload 5, 2) := by decide +kernel
theorem d_L_leastCost_45 : decode b_L_leastCost 45 = .ok (.invokevirtual 72, 3) := by decide +kernel
theorem d_L_leastCost_48 : decode b_L_leastCost 48 = .ok (.istore 6, 2) := by decide +kernel
theorem d_L_leastCost_50 : decode b_L_leastCost 50 = .ok (.iload 6, 2) := by decide +kernel
theorem d_L_leastCost_52 : decode b_L_leastCost 52 = .ok (.iconst (-1), 1) := by decide +kernel
theorem d_L_leastCost_53 : decode b_L_leastCost 53 = .ok (.if_icmp .eq 16, 3) := by decide +kernel
theorem d_L_leastCost_56 : decode b_L_leastCost 56 = .ok (.aload_n 0, 1) := by decide +kernel
theorem d_L_leastCost_57 : decode b_L_leastCost 57 = .ok (.iload_n 1, 1) := by decide +kernel
theorem d_L_leastCost_58 : decode b_L_leastCost 58 = .ok (.iload 5, 2) := by decide +kernel
theorem d_L_leastCost_60 : decode b_L_leastCost 60 = .ok (.iload 6, 2) := by decide +kernel
theorem d_L_leastCost_62 : decode b_L_leastCost 62 = .ok (.iload 4, 2) := by decide +kernel
theorem d_L_leastCost_64 : decode b_L_leastCost 64 = .ok (.invokevirtual 94, 3) := by decide +kernel
theorem d_L_leastCost_67 : decode b_L_leastCost 67 = .ok (.istore 4, 2) := by decide +kernel
theorem d_L_leastCost_69 : decode b_L_leastCost 69 = .ok (.iinc 5 1, 3) := by decide +kernel
theorem d_L_leastCost_72 : decode b_L_leastCost 72 = .ok (.goto (-43), 3) := by decide +kernel
theorem d_L_leastCost_75 : decode b_L_leastCost 75 = .ok (.aload_n 0, 1) := by decide +kernel
theorem d_L_leastCost_76 : decode b_L_leastCost 76 = .ok (.getfield 9, 3) := by decide +kernel
theorem d_L_leastCost_79 : decode b_L_leastCost 79 = .ok (.aload_n 3, 1) := by decide +kernel
theorem d_L_leastCost_80 : decode b_L_leastCost 80 = .ok (.invokevirtual 65, 3) := by decide +kernel
theorem d_L_leastCost_83 : decode b_L_leastCost 83 = .ok (.istore 5, 2) := by decide +kernel
theorem d_L_leastCost_85 : decode b_L_leastCost 85 = .ok (.iload 5, 2) := by decide +kernel
theorem d_L_leastCost_87 : decode b_L_leastCost 87 = .ok (.aload_n 0, 1) := by decide +kernel
theorem d_L_leastCost_88 : decode b_L_leastCost 88 = .ok (.getfield 24, 3) := by decide +kernel
theorem d_L_leastCost_91 : decode b_L_leastCost 91 = .ok (.iload_n 1, 1) := by decide +kernel
theorem d_L_leastCost_92 : decode b_L_leastCost 92 = .ok (.iconst 1, 1) := by decide +kernel
theorem d_L_leastCost_93 : decode b_L_leastCost 93 = .ok (.iadd, 1) := by decide +kernel
theorem d_L_leastCost_94 : decode b_L_leastCost 94 = .ok (.iaload, 1) := by decide +kernel
theorem d_L_leastCost_95 : decode b_L_leastCost 95 = .ok (.iadd, 1) := by decide +kernel
theorem d_L_leastCost_96 : decode b_L_leastCost 96 = .ok (.iload 4, 2) := by decide +kernel
theorem d_L_leastCost_98 : decode b_L_leastCost 98 = .ok (.if_icmp .ge 20, 3) := by decide +kernel
theorem d_L_leastCost_101 : decode b_L_leastCost 101 = .ok (.iload 5, 2) := by decide +kernel
theorem d_L_leastCost_103 : decode b_L_leastCost 103 = .ok (.aload_n 0, 1) := by decide +kernel
theorem d_L_leastCost_104 : decode b_L_leastCost 104 = .ok (.iload_n 1, 1) := by decide +kernel
theorem d_L_leastCost_105 : decode b_L_leastCost 105 = .ok (.iconst 1, 1) := by decide +kernel
theorem d_L_leastCost_106 : decode b_L_leastCost 106 = .ok (.iadd, 1) := by decide +kernel
theorem d_L_leastCost_107 : decode b_L_leastCost 107 = .ok (.iload 4, 2) := by decide +kernel
theorem d_L_leastCost_109 : decode b_L_leastCost 109 = .ok (.iload 5, 2) := by decide +kernel
theorem d_L_leastCost_111 : decode b_L_leastCost 111 = .ok (.isub, 1) := by decide +kernel
theorem d_L_leastCost_112 : decode b_L_leastCost 112 = .ok (.invokevirtual 38, 3) := by decide +kernel
theorem d_L_leastCost_115 : decode b_L_leastCost 115 = .ok (.iadd, 1) := by decide +kernel
theorem d_L_leastCost_116 : decode b_L_leastCost 116 = .ok (.istore 4, 2) := by decide +kernel
theorem d_L_leastCost_118 : decode b_L_leastCost 118 = .ok (.iload 4, 2) := by decide +kernel
theorem d_L_leastCost_120 : decode b_L_leastCost 120 = .ok (.ireturn, 1) := by decide +kernel
theorem d_L_costBy_0 : decode b_L_costBy 0 = .ok (.aload_n 0, 1) := by decide +kernel
theorem d_L_costBy_1 : decode b_L_costBy 1 = .ok (.getfield 9, 3) := by decide +kernel
theorem d_L_costBy_4 : decode b_L_costBy 4 = .ok (.getfield 55, 3) := by decide +kernel
theorem d_L_costBy_7 : decode b_L_costBy 7 = .ok (.iload_n 1, 1) := by decide +kernel
theorem d_L_costBy_8 : decode b_L_costBy 8 = .ok (.aaload, 1) := by decide +kernel
theorem d_L_costBy_9 : decode b_L_costBy 9 = .ok (.astore 5, 2) := by decide +kernel
theorem d_L_costBy_11 : decode b_L_costBy 11 = .ok (.aload 5, 2) := by decide +kernel
theorem d_L_costBy_13 : decode b_L_costBy 13 = .ok (.getfield 76, 3) := by decide +kernel
theorem d_L_costBy_16 : decode b_L_costBy 16 = .ok (.iload_n 3, 1) := by decide +kernel
theorem d_L_costBy_17 : decode b_L_costBy 17 = .ok (.imul, 1) := by decide +kernel
theorem d_L_costBy_18 : decode b_L_costBy 18 = .ok (.istore 6, 2) := by decide +kernel
theorem d_L_costBy_20 : decode b_L_costBy 20 = .ok (.iload 6, 2) := by decide +kernel
theorem d_L_costBy_22 : decode b_L_costBy 22 = .ok (.aload_n 0, 1) := by decide +kernel
theorem d_L_costBy_23 : decode b_L_costBy 23 = .ok (.getfield 24, 3) := by decide +kernel
theorem d_L_costBy_26 : decode b_L_costBy 26 = .ok (.iload_n 1, 1) := by decide +kernel
theorem d_L_costBy_27 : decode b_L_costBy 27 = .ok (.iconst 1, 1) := by decide +kernel
theorem d_L_costBy_28 : decode b_L_costBy 28 = .ok (.iadd, 1) := by decide +kernel
theorem d_L_costBy_29 : decode b_L_costBy 29 = .ok (.iaload, 1) := by decide +kernel
theorem d_L_costBy_30 : decode b_L_costBy 30 = .ok (.iadd, 1) := by decide +kernel
theorem d_L_costBy_31 : decode b_L_costBy 31 = .ok (.iload 4, 2) := by decide +kernel
theorem d_L_costBy_33 : decode b_L_costBy 33 = .ok (.if_icmp .lt 6, 3) := by decide +kernel
theorem d_L_costBy_36 : decode b_L_costBy 36 = .ok (.iload 4, 2) := by decide +kernel
theorem d_L_costBy_38 : decode b_L_costBy 38 = .ok (.ireturn, 1) := by decide +kernel
theorem d_L_costBy_39 : decode b_L_costBy 39 = .ok (.aload_n 0, 1) := by decide +kernel
theorem d_L_costBy_40 : decode b_L_costBy 40 = .ok (.getfield 17, 3) := by decide +kernel
theorem d_L_costBy_43 : decode b_L_costBy 43 = .ok (.iload_n 2, 1) := by decide +kernel
theorem d_L_costBy_44 : decode b_L_costBy 44 = .ok (.iaload, 1) := by decide +kernel
theorem d_L_costBy_45 : decode b_L_costBy 45 = .ok (.istore 7, 2) := by decide +kernel
theorem d_L_costBy_47 : decode b_L_costBy 47 = .ok (.aload_n 0, 1) := by decide +kernel
theorem d_L_costBy_48 : decode b_L_costBy 48 = .ok (.getfield 21, 3) := by decide +kernel
theorem d_L_costBy_51 : decode b_L_costBy 51 = .ok (.aload 5, 2) := by decide +kernel
theorem d_L_costBy_53 : decode b_L_costBy 53 = .ok (.getfield 106, 3) := by decide +kernel
theorem d_L_costBy_56 : decode b_L_costBy 56 = .ok (.iaload, 1) := by decide +kernel
theorem d_L_costBy_57 : decode b_L_costBy 57 = .ok (.istore 8, 2) := by decide +kernel
theorem d_L_costBy_59 : decode b_L_costBy 59 = .ok (.aload_n 0, 1) := by decide +kernel
theorem d_L_costBy_60 : decode b_L_costBy 60 = .ok (.aload 5, 2) := by decide +kernel
theorem d_L_costBy_62 : decode b_L_costBy 62 = .ok (.iload_n 2, 1) := by decide +kernel
theorem d_L_costBy_63 : decode b_L_costBy 63 = .ok (.iload_n 3, 1) := by decide +kernel
theorem d_L_costBy_64 : decode b_L_costBy 64 = .ok (.invokevirtual 98, 3) := by decide +kernel
theorem d_L_costBy_67 : decode b_L_costBy 67 = .ok (.iload 6, 2) := by decide +kernel
theorem d_L_costBy_69 : decode b_L_costBy 69 = .ok (.aload_n 0, 1) := by decide +kernel
theorem d_L_costBy_70 : decode b_L_costBy 70 = .ok (.iload_n 1, 1) := by decide +kernel
theorem d_L_costBy_71 : decode b_L_costBy 71 = .ok (.iconst 1, 1) := by decide +kernel
theorem d_L_costBy_72 : decode b_L_costBy 72 = .ok (.iadd, 1) := by decide +kernel
theorem d_L_costBy_73 : decode b_L_costBy 73 = .ok (.iload 4, 2) := by decide +kernel
theorem d_L_costBy_75 : decode b_L_costBy 75 = .ok (.iload 6, 2) := by decide +kernel
theorem d_L_costBy_77 : decode b_L_costBy 77 = .ok (.isub, 1) := by decide +kernel
theorem d_L_costBy_78 : decode b_L_costBy 78 = .ok (.invokevirtual 38, 3) := by decide +kernel
theorem d_L_costBy_81 : decode b_L_costBy 81 = .ok (.iadd, 1) := by decide +kernel
theorem d_L_costBy_82 : decode b_L_costBy 82 = .ok (.istore 9, 2) := by decide +kernel
theorem d_L_costBy_84 : decode b_L_costBy 84 = .ok (.aload_n 0, 1) := by decide +kernel
theorem d_L_costBy_85 : decode b_L_costBy 85 = .ok (.getfield 17, 3) := by decide +kernel
theorem d_L_costBy_88 : decode b_L_costBy 88 = .ok (.iload_n 2, 1) := by decide +kernel
theorem d_L_costBy_89 : decode b_L_costBy 89 = .ok (.iload 7, 2) := by decide +kernel
theorem d_L_costBy_91 : decode b_L_costBy 91 = .ok (.iastore, 1) := by decide +kernel
theorem d_L_costBy_92 : decode b_L_costBy 92 = .ok (.aload_n 0, 1) := by decide +kernel
theorem d_L_costBy_93 : decode b_L_costBy 93 = .ok (.getfield 21, 3) := by decide +kernel
theorem d_L_costBy_96 : decode b_L_costBy 96 = .ok (.aload 5, 2) := by decide +kernel
theorem d_L_costBy_98 : decode b_L_costBy 98 = .ok (.getfield 106, 3) := by decide +kernel
theorem d_L_costBy_101 : decode b_L_costBy 101 = .ok (.iload 8, 2) := by decide +kernel
theorem d_L_costBy_103 : decode b_L_costBy 103 = .ok (.iastore, 1) := by decide +kernel
theorem d_L_costBy_104 : decode b_L_costBy 104 = .ok (.iload 9, 2) := by decide +kernel
theorem d_L_costBy_106 : decode b_L_costBy 106 = .ok (.ireturn, 1) := by decide +kernel
theorem d_L_occupy_0 : decode b_L_occupy 0 = .ok (.iload_n 3, 1) := by decide +kernel
theorem d_L_occupy_1 : decode b_L_occupy 1 = .ok (.aload_n 1, 1) := by decide +kernel
theorem d_L_occupy_2 : decode b_L_occupy 2 = .ok (.getfield 109, 3) := by decide +kernel
theorem d_L_occupy_5 : decode b_L_occupy 5 = .ok (.iadd, 1) := by decide +kernel
theorem d_L_occupy_6 : decode b_L_occupy 6 = .ok (.istore 4, 2) := by decide +kernel
theorem d_L_occupy_8 : decode b_L_occupy 8 = .ok (.aload_n 0, 1) := by decide +kernel
theorem d_L_occupy_9 : decode b_L_occupy 9 = .ok (.getfield 21, 3) := by decide +kernel
theorem d_L_occupy_12 : decode b_L_occupy 12 = .ok (.aload_n 1, 1) := by decide +kernel
theorem d_L_occupy_13 : decode b_L_occupy 13 = .ok (.getfield 106, 3) := by decide +kernel
theorem d_L_occupy_16 : decode b_L_occupy 16 = .ok (.iload 4, 2) := by decide +kernel
theorem d_L_occupy_18 : decode b_L_occupy 18 = .ok (.iastore, 1) := by decide +kernel
theorem d_L_occupy_19 : decode b_L_occupy 19 = .ok (.aload_n 0, 1) := by decide +kernel
theorem d_L_occupy_20 : decode b_L_occupy 20 = .ok (.getfield 17, 3) := by decide +kernel
theorem d_L_occupy_23 : decode b_L_occupy 23 = .ok (.iload_n 2, 1) := by decide +kernel
theorem d_L_occupy_24 : decode b_L_occupy 24 = .ok (.iload 4, 2) := by decide +kernel
theorem d_L_occupy_26 : decode b_L_occupy 26 = .ok (.aload_n 0, 1) := by decide +kernel
theorem d_L_occupy_27 : decode b_L_occupy 27 = .ok (.getfield 9, 3) := by decide +kernel
theorem d_L_occupy_30 : decode b_L_occupy 30 = .ok (.getfield 112, 3) := by decide +kernel
theorem d_L_occupy_33 : decode b_L_occupy 33 = .ok (.iadd, 1) := by decide +kernel
theorem d_L_occupy_34 : decode b_L_occupy 34 = .ok (.iastore, 1) := by decide +kernel
theorem d_L_occupy_35 : decode b_L_occupy 35 = .ok (.return_, 1) := by decide +kernel
theorem d_L_firstBeginning_0 : decode b_L_firstBeginning 0 = .ok (.iconst (-1), 1) := by decide +kernel
theorem d_L_firstBeginning_1 : decode b_L_firstBeginning 1 = .ok (.istore_n 3, 1) := by decide +kernel
theorem d_L_firstBeginning_2 : decode b_L_firstBeginning 2 = .ok (.aload_n 0, 1) := by decide +kernel
theorem d_L_firstBeginning_3 : decode b_L_firstBeginning 3 = .ok (.getfield 9, 3) := by decide +kernel
theorem d_L_firstBeginning_6 : decode b_L_firstBeginning 6 = .ok (.getfield 115, 3) := by decide +kernel
theorem d_L_firstBeginning_9 : decode b_L_firstBeginning 9 = .ok (.iload_n 2, 1) := by decide +kernel
theorem d_L_firstBeginning_10 : decode b_L_firstBeginning 10 = .ok (.aaload, 1) := by decide +kernel
theorem d_L_firstBeginning_11 : decode b_L_firstBeginning 11 = .ok (.getfield 119, 3) := by decide +kernel
theorem d_L_firstBeginning_14 : decode b_L_firstBeginning 14 = .ok (.aload_n 1, 1) := by decide +kernel
theorem d_L_firstBeginning_15 : decode b_L_firstBeginning 15 = .ok (.getfield 124, 3) := by decide +kernel
theorem d_L_firstBeginning_18 : decode b_L_firstBeginning 18 = .ok (.if_icmp .eq 5, 3) := by decide +kernel
theorem d_L_firstBeginning_21 : decode b_L_firstBeginning 21 = .ok (.iload_n 3, 1) := by decide +kernel
theorem d_L_firstBeginning_22 : decode b_L_firstBeginning 22 = .ok (.ireturn, 1) := by decide +kernel
theorem d_L_firstBeginning_23 : decode b_L_firstBeginning 23 = .ok (.iconst 0, 1) := by decide +kernel
theorem d_L_firstBeginning_24 : decode b_L_firstBeginning 24 = .ok (.istore 4, 2) := by decide +kernel
theorem d_L_firstBeginning_26 : decode b_L_firstBeginning 26 = .ok (.iload 4, 2) := by decide +kernel
theorem d_L_firstBeginning_28 : decode b_L_firstBeginning 28 = .ok (.aload_n 0, 1) := by decide +kernel
theorem d_L_firstBeginning_29 : decode b_L_firstBeginning 29 = .ok (.getfield 9, 3) := by decide +kernel
theorem d_L_firstBeginning_32 : decode b_L_firstBeginning 32 = .ok (.getfield 87, 3) := by decide +kernel
theorem d_L_firstBeginning_35 : decode b_L_firstBeginning 35 = .ok (.if_icmp .ge 39, 3) := by decide +kernel
theorem d_L_firstBeginning_38 : decode b_L_firstBeginning 38 = .ok (.aload_n 0, 1) := by decide +kernel
theorem d_L_firstBeginning_39 : decode b_L_firstBeginning 39 = .ok (.aload_n 1, 1) := by decide +kernel
theorem d_L_firstBeginning_40 : decode b_L_firstBeginning 40 = .ok (.iload 4, 2) := by decide +kernel
theorem d_L_firstBeginning_42 : decode b_L_firstBeginning 42 = .ok (.iload_n 2, 1) := by decide +kernel
theorem d_L_firstBeginning_43 : decode b_L_firstBeginning 43 = .ok (.invokevirtual 90, 3) := by decide +kernel
theorem d_L_firstBeginning_46 : decode b_L_firstBeginning 46 = .ok (.istore 5, 2) := by decide +kernel
theorem d_L_firstBeginning_48 : decode b_L_firstBeginning 48 = .ok (.iload 5, 2) := by decide +kernel
theorem d_L_firstBeginning_50 : decode b_L_firstBeginning 50 = .ok (.iconst (-1), 1) := by decide +kernel
theorem d_L_firstBeginning_51 : decode b_L_firstBeginning 51 = .ok (.if_icmp .eq 17, 3) := by decide +kernel
theorem d_L_firstBeginning_54 : decode b_L_firstBeginning 54 = .ok (.iload_n 3, 1) := by decide +kernel
theorem d_L_firstBeginning_55 : decode b_L_firstBeginning 55 = .ok (.iconst (-1), 1) := by decide +kernel
theorem d_L_firstBeginning_56 : decode b_L_firstBeginning 56 = .ok (.if_icmp .eq 9, 3) := by decide +kernel
theorem d_L_firstBeginning_59 : decode b_L_firstBeginning 59 = .ok (.iload 5, 2) := by decide +kernel
theorem d_L_firstBeginning_61 : decode b_L_firstBeginning 61 = .ok (.iload_n 3, 1) := by decide +kernel
theorem d_L_firstBeginning_62 : decode b_L_firstBeginning 62 = .ok (.if_icmp .ge 6, 3) := by decide +kernel
theorem d_L_firstBeginning_65 : decode b_L_firstBeginning 65 = .ok (.iload 5, 2) := by decide +kernel
theorem d_L_firstBeginning_67 : decode b_L_firstBeginning 67 = .ok (.istore_n 3, 1) := by decide +kernel
theorem d_L_firstBeginning_68 : decode b_L_firstBeginning 68 = .ok (.iinc 4 1, 3) := by decide +kernel
theorem d_L_firstBeginning_71 : decode b_L_firstBeginning 71 = .ok (.goto (-45), 3) := by decide +kernel
theorem d_L_firstBeginning_74 : decode b_L_firstBeginning 74 = .ok (.iload_n 3, 1) := by decide +kernel
theorem d_L_firstBeginning_75 : decode b_L_firstBeginning 75 = .ok (.ireturn, 1) := by decide +kernel
theorem d_L_beginning_0 : decode b_L_beginning 0 = .ok (.aload_n 0, 1) := by decide +kernel
theorem d_L_beginning_1 : decode b_L_beginning 1 = .ok (.getfield 9, 3) := by decide +kernel
theorem d_L_beginning_4 : decode b_L_beginning 4 = .ok (.getfield 125, 3) := by decide +kernel
theorem d_L_beginning_7 : decode b_L_beginning 7 = .ok (.iload_n 2, 1) := by decide +kernel
theorem d_L_beginning_8 : decode b_L_beginning 8 = .ok (.aaload, 1) := by decide +kernel
theorem d_L_beginning_9 : decode b_L_beginning 9 = .ok (.astore 4, 2) := by decide +kernel
theorem d_L_beginning_11 : decode b_L_beginning 11 = .ok (.aload_n 0, 1) := by decide +kernel
theorem d_L_beginning_12 : decode b_L_beginning 12 = .ok (.getfield 9, 3) := by decide +kernel
theorem d_L_beginning_15 : decode b_L_beginning 15 = .ok (.getfield 115, 3) := by decide +kernel
theorem d_L_beginning_18 : decode b_L_beginning 18 = .ok (.iload_n 3, 1) := by decide +kernel
theorem d_L_beginning_19 : decode b_L_beginning 19 = .ok (.aaload, 1) := by decide +kernel
theorem d_L_beginning_20 : decode b_L_beginning 20 = .ok (.astore 5, 2) := by decide +kernel
theorem d_L_beginning_22 : decode b_L_beginning 22 = .ok (.aload 5, 2) := by decide +kernel
theorem d_L_beginning_24 : decode b_L_beginning 24 = .ok (.getfield 119, 3) := by decide +kernel
theorem d_L_beginning_27 : decode b_L_beginning 27 = .ok (.aload_n 1, 1) := by decide +kernel
theorem d_L_beginning_28 : decode b_L_beginning 28 = .ok (.getfield 124, 3) := by decide +kernel
theorem d_L_beginning_31 : decode b_L_beginning 31 = .ok (.if_icmp .eq 5, 3) := by decide +kernel
theorem d_L_beginning_34 : decode b_L_beginning 34 = .ok (.iconst (-1), 1) := by decide +kernel
theorem d_L_beginning_35 : decode b_L_beginning 35 = .ok (.ireturn, 1) := by decide +kernel
theorem d_L_beginning_36 : decode b_L_beginning 36 = .ok (.aload 4, 2) := by decide +kernel
theorem d_L_beginning_38 : decode b_L_beginning 38 = .ok (.getfield 129, 3) := by decide +kernel
theorem d_L_beginning_41 : decode b_L_beginning 41 = .ok (.aload 5, 2) := by decide +kernel
theorem d_L_beginning_43 : decode b_L_beginning 43 = .ok (.getfield 134, 3) := by decide +kernel
theorem d_L_beginning_46 : decode b_L_beginning 46 = .ok (.invokestatic 135, 3) := by decide +kernel
theorem d_L_beginning_49 : decode b_L_beginning 49 = .ok (.istore 6, 2) := by decide +kernel
theorem d_L_beginning_51 : decode b_L_beginning 51 = .ok (.aload_n 0, 1) := by decide +kernel
theorem d_L_beginning_52 : decode b_L_beginning 52 = .ok (.getfield 17, 3) := by decide +kernel
theorem d_L_beginning_55 : decode b_L_beginning 55 = .ok (.iload_n 3, 1) := by decide +kernel
theorem d_L_beginning_56 : decode b_L_beginning 56 = .ok (.iaload, 1) := by decide +kernel
theorem d_L_beginning_57 : decode b_L_beginning 57 = .ok (.aload_n 0, 1) := by decide +kernel
theorem d_L_beginning_58 : decode b_L_beginning 58 = .ok (.getfield 21, 3) := by decide +kernel
theorem d_L_beginning_61 : decode b_L_beginning 61 = .ok (.aload_n 1, 1) := by decide +kernel
theorem d_L_beginning_62 : decode b_L_beginning 62 = .ok (.getfield 106, 3) := by decide +kernel
theorem d_L_beginning_65 : decode b_L_beginning 65 = .ok (.iaload, 1) := by decide +kernel
theorem d_L_beginning_66 : decode b_L_beginning 66 = .ok (.invokestatic 135, 3) := by decide +kernel
theorem d_L_beginning_69 : decode b_L_beginning 69 = .ok (.istore 7, 2) := by decide +kernel
theorem d_L_beginning_71 : decode b_L_beginning 71 = .ok (.iload 6, 2) := by decide +kernel
theorem d_L_beginning_73 : decode b_L_beginning 73 = .ok (.iload 7, 2) := by decide +kernel
theorem d_L_beginning_75 : decode b_L_beginning 75 = .ok (.invokestatic 135, 3) := by decide +kernel
theorem d_L_beginning_78 : decode b_L_beginning 78 = .ok (.istore 8, 2) := by decide +kernel
theorem d_L_beginning_80 : decode b_L_beginning 80 = .ok (.iload 8, 2) := by decide +kernel
theorem d_L_beginning_82 : decode b_L_beginning 82 = .ok (.aload_n 1, 1) := by decide +kernel
theorem d_L_beginning_83 : decode b_L_beginning 83 = .ok (.getfield 109, 3) := by decide +kernel
theorem d_L_beginning_86 : decode b_L_beginning 86 = .ok (.iadd, 1) := by decide +kernel
theorem d_L_beginning_87 : decode b_L_beginning 87 = .ok (.aload 4, 2) := by decide +kernel
theorem d_L_beginning_89 : decode b_L_beginning 89 = .ok (.getfield 138, 3) := by decide +kernel
theorem d_L_beginning_92 : decode b_L_beginning 92 = .ok (.aload 5, 2) := by decide +kernel
theorem d_L_beginning_94 : decode b_L_beginning 94 = .ok (.getfield 141, 3) := by decide +kernel
theorem d_L_beginning_97 : decode b_L_beginning 97 = .ok (.invokestatic 79, 3) := by decide +kernel
theorem d_L_beginning_100 : decode b_L_beginning 100 = .ok (.if_icmp .gt 8, 3) := by decide +kernel
theorem d_L_beginning_103 : decode b_L_beginning 103 = .ok (.iload 8, 2) := by decide +kernel
theorem d_L_beginning_105 : decode b_L_beginning 105 = .ok (.goto 4, 3) := by decide +kernel
theorem d_L_beginning_108 : decode b_L_beginning 108 = .ok (.iconst (-1), 1) := by decide +kernel
theorem d_L_beginning_109 : decode b_L_beginning 109 = .ok (.ireturn, 1) := by decide +kernel
theorem d_R_init_0 : decode b_R_init 0 = .ok (.aload_n 0, 1) := by decide +kernel
theorem d_R_init_1 : decode b_R_init 1 = .ok (.invokespecial 1, 3) := by decide +kernel
theorem d_R_init_4 : decode b_R_init 4 = .ok (.return_, 1) := by decide +kernel
theorem d_R_isPlaced_0 : decode b_R_isPlaced 0 = .ok (.aload_n 0, 1) := by decide +kernel
theorem d_R_isPlaced_1 : decode b_R_isPlaced 1 = .ok (.getfield 7, 3) := by decide +kernel
theorem d_R_isPlaced_4 : decode b_R_isPlaced 4 = .ok (.iconst (-1), 1) := by decide +kernel
theorem d_R_isPlaced_5 : decode b_R_isPlaced 5 = .ok (.if_icmp .eq 7, 3) := by decide +kernel
theorem d_R_isPlaced_8 : decode b_R_isPlaced 8 = .ok (.iconst 1, 1) := by decide +kernel
theorem d_R_isPlaced_9 : decode b_R_isPlaced 9 = .ok (.goto 4, 3) := by decide +kernel
theorem d_R_isPlaced_12 : decode b_R_isPlaced 12 = .ok (.iconst 0, 1) := by decide +kernel
theorem d_R_isPlaced_13 : decode b_R_isPlaced 13 = .ok (.ireturn, 1) := by decide +kernel
theorem d_R_place_0 : decode b_R_place 0 = .ok (.aload_n 0, 1) := by decide +kernel
theorem d_R_place_1 : decode b_R_place 1 = .ok (.iload_n 1, 1) := by decide +kernel
theorem d_R_place_2 : decode b_R_place 2 = .ok (.putfield 7, 3) := by decide +kernel
theorem d_R_place_5 : decode b_R_place 5 = .ok (.aload_n 0, 1) := by decide +kernel
theorem d_R_place_6 : decode b_R_place 6 = .ok (.iload_n 2, 1) := by decide +kernel
theorem d_R_place_7 : decode b_R_place 7 = .ok (.putfield 13, 3) := by decide +kernel
theorem d_R_place_10 : decode b_R_place 10 = .ok (.aload_n 0, 1) := by decide +kernel
theorem d_R_place_11 : decode b_R_place 11 = .ok (.iload_n 3, 1) := by decide +kernel
theorem d_R_place_12 : decode b_R_place 12 = .ok (.putfield 16, 3) := by decide +kernel
theorem d_R_place_15 : decode b_R_place 15 = .ok (.return_, 1) := by decide +kernel
theorem d_R_unplace_0 : decode b_R_unplace 0 = .ok (.aload_n 0, 1) := by decide +kernel
theorem d_R_unplace_1 : decode b_R_unplace 1 = .ok (.iconst (-1), 1) := by decide +kernel
theorem d_R_unplace_2 : decode b_R_unplace 2 = .ok (.iconst (-1), 1) := by decide +kernel
theorem d_R_unplace_3 : decode b_R_unplace 3 = .ok (.iconst (-1), 1) := by decide +kernel
theorem d_R_unplace_4 : decode b_R_unplace 4 = .ok (.invokevirtual 19, 3) := by decide +kernel
theorem d_R_unplace_7 : decode b_R_unplace 7 = .ok (.return_, 1) := by decide +kernel
theorem d_T_init_0 : decode b_T_init 0 = .ok (.aload_n 0, 1) := by decide +kernel
theorem d_T_init_1 : decode b_T_init 1 = .ok (.invokespecial 1, 3) := by decide +kernel
theorem d_T_init_4 : decode b_T_init 4 = .ok (.aload_n 0, 1) := by decide +kernel
theorem d_T_init_5 : decode b_T_init 5 = .ok (.iconst 5, 1) := by decide +kernel
theorem d_T_init_6 : decode b_T_init 6 = .ok (.newarray .int, 2) := by decide +kernel
theorem d_T_init_8 : decode b_T_init 8 = .ok (.putfield 9, 3) := by decide +kernel
theorem d_T_init_11 : decode b_T_init 11 = .ok (.return_, 1) := by decide +kernel
theorem d_T_begin_0 : decode b_T_begin 0 = .ok (.aload_n 0, 1) := by decide +kernel
theorem d_T_begin_1 : decode b_T_begin 1 = .ok (.iload_n 1, 1) := by decide +kernel
theorem d_T_begin_2 : decode b_T_begin 2 = .ok (.putfield 13, 3) := by decide +kernel
theorem d_T_begin_5 : decode b_T_begin 5 = .ok (.aload_n 0, 1) := by decide +kernel
theorem d_T_begin_6 : decode b_T_begin 6 = .ok (.iload_n 2, 1) := by decide +kernel
theorem d_T_begin_7 : decode b_T_begin 7 = .ok (.putfield 17, 3) := by decide +kernel
theorem d_T_begin_10 : decode b_T_begin 10 = .ok (.aload_n 0, 1) := by decide +kernel
theorem d_T_begin_11 : decode b_T_begin 11 = .ok (.iconst 1, 1) := by decide +kernel
theorem d_T_begin_12 : decode b_T_begin 12 = .ok (.putfield 20, 3) := by decide +kernel
theorem d_T_begin_15 : decode b_T_begin 15 = .ok (.return_, 1) := by decide +kernel
theorem d_T_isBarred_0 : decode b_T_isBarred 0 = .ok (.aload_n 0, 1) := by decide +kernel
theorem d_T_isBarred_1 : decode b_T_isBarred 1 = .ok (.getfield 20, 3) := by decide +kernel
theorem d_T_isBarred_4 : decode b_T_isBarred 4 = .ok (.ifCond .eq 14, 3) := by decide +kernel
theorem d_T_isBarred_7 : decode b_T_isBarred 7 = .ok (.aload_n 0, 1) := by decide +kernel
theorem d_T_isBarred_8 : decode b_T_isBarred 8 = .ok (.getfield 24, 3) := by decide +kernel
theorem d_T_isBarred_11 : decode b_T_isBarred 11 = .ok (.aload_n 0, 1) := by decide +kernel
theorem d_T_isBarred_12 : decode b_T_isBarred 12 = .ok (.getfield 17, 3) := by decide +kernel
theorem d_T_isBarred_15 : decode b_T_isBarred 15 = .ok (.if_icmp .lt 7, 3) := by decide +kernel
theorem d_T_isBarred_18 : decode b_T_isBarred 18 = .ok (.iconst 1, 1) := by decide +kernel
theorem d_T_isBarred_19 : decode b_T_isBarred 19 = .ok (.goto 4, 3) := by decide +kernel
theorem d_T_isBarred_22 : decode b_T_isBarred 22 = .ok (.iconst 0, 1) := by decide +kernel
theorem d_T_isBarred_23 : decode b_T_isBarred 23 = .ok (.ireturn, 1) := by decide +kernel
theorem d_T_unitsToBound_0 : decode b_T_unitsToBound 0 = .ok (.iconst 0, 1) := by decide +kernel
theorem d_T_unitsToBound_1 : decode b_T_unitsToBound 1 = .ok (.aload_n 0, 1) := by decide +kernel
theorem d_T_unitsToBound_2 : decode b_T_unitsToBound 2 = .ok (.getfield 17, 3) := by decide +kernel
theorem d_T_unitsToBound_5 : decode b_T_unitsToBound 5 = .ok (.aload_n 0, 1) := by decide +kernel
theorem d_T_unitsToBound_6 : decode b_T_unitsToBound 6 = .ok (.getfield 24, 3) := by decide +kernel
theorem d_T_unitsToBound_9 : decode b_T_unitsToBound 9 = .ok (.isub, 1) := by decide +kernel
theorem d_T_unitsToBound_10 : decode b_T_unitsToBound 10 = .ok (.invokestatic 27, 3) := by decide +kernel
theorem d_T_unitsToBound_13 : decode b_T_unitsToBound 13 = .ok (.ireturn, 1) := by decide +kernel
theorem d_T_wear_0 : decode b_T_wear 0 = .ok (.aload_n 0, 1) := by decide +kernel
theorem d_T_wear_1 : decode b_T_wear 1 = .ok (.dup, 1) := by decide +kernel
theorem d_T_wear_2 : decode b_T_wear 2 = .ok (.getfield 24, 3) := by decide +kernel
theorem d_T_wear_5 : decode b_T_wear 5 = .ok (.iload_n 1, 1) := by decide +kernel
theorem d_T_wear_6 : decode b_T_wear 6 = .ok (.iadd, 1) := by decide +kernel
theorem d_T_wear_7 : decode b_T_wear 7 = .ok (.putfield 24, 3) := by decide +kernel
theorem d_T_wear_10 : decode b_T_wear 10 = .ok (.aload_n 0, 1) := by decide +kernel
theorem d_T_wear_11 : decode b_T_wear 11 = .ok (.iload_n 1, 1) := by decide +kernel
theorem d_T_wear_12 : decode b_T_wear 12 = .ok (.invokevirtual 33, 3) := by decide +kernel
theorem d_T_wear_15 : decode b_T_wear 15 = .ok (.return_, 1) := by decide +kernel
theorem d_T_mend_0 : decode b_T_mend 0 = .ok (.aload_n 0, 1) := by decide +kernel
theorem d_T_mend_1 : decode b_T_mend 1 = .ok (.iconst 0, 1) := by decide +kernel
theorem d_T_mend_2 : decode b_T_mend 2 = .ok (.putfield 24, 3) := by decide +kernel
theorem d_T_mend_5 : decode b_T_mend 5 = .ok (.aload_n 0, 1) := by decide +kernel
theorem d_T_mend_6 : decode b_T_mend 6 = .ok (.iconst (-1), 1) := by decide +kernel
theorem d_T_mend_7 : decode b_T_mend 7 = .ok (.invokevirtual 33, 3) := by decide +kernel
theorem d_T_mend_10 : decode b_T_mend 10 = .ok (.return_, 1) := by decide +kernel
theorem d_T_setPermit_0 : decode b_T_setPermit 0 = .ok (.aload_n 0, 1) := by decide +kernel
theorem d_T_setPermit_1 : decode b_T_setPermit 1 = .ok (.iload_n 1, 1) := by decide +kernel
theorem d_T_setPermit_2 : decode b_T_setPermit 2 = .ok (.putfield 20, 3) := by decide +kernel
theorem d_T_setPermit_5 : decode b_T_setPermit 5 = .ok (.aload_n 0, 1) := by decide +kernel
theorem d_T_setPermit_6 : decode b_T_setPermit 6 = .ok (.iload_n 1, 1) := by decide +kernel
theorem d_T_setPermit_7 : decode b_T_setPermit 7 = .ok (.ifCond .eq 8, 3) := by decide +kernel
theorem d_T_setPermit_10 : decode b_T_setPermit 10 = .ok (.bipush (-3), 2) := by decide +kernel
theorem d_T_setPermit_12 : decode b_T_setPermit 12 = .ok (.goto 5, 3) := by decide +kernel
theorem d_T_setPermit_15 : decode b_T_setPermit 15 = .ok (.bipush (-2), 2) := by decide +kernel
theorem d_T_setPermit_17 : decode b_T_setPermit 17 = .ok (.invokevirtual 33, 3) := by decide +kernel
theorem d_T_setPermit_20 : decode b_T_setPermit 20 = .ok (.return_, 1) := by decide +kernel
theorem d_T_change_0 : decode b_T_change 0 = .ok (.iload_n 1, 1) := by decide +kernel
theorem d_T_change_1 : decode b_T_change 1 = .ok (.ifCond .lt 17, 3) := by decide +kernel
theorem d_T_change_4 : decode b_T_change 4 = .ok (.iload_n 1, 1) := by decide +kernel
theorem d_T_change_5 : decode b_T_change 5 = .ok (.iconst 5, 1) := by decide +kernel
theorem d_T_change_6 : decode b_T_change 6 = .ok (.if_icmp .ge 12, 3) := by decide +kernel
theorem d_T_change_9 : decode b_T_change 9 = .ok (.aload_n 0, 1) := by decide +kernel
theorem d_T_change_10 : decode b_T_change 10 = .ok (.getfield 9, 3) := by decide +kernel
theorem d_T_change_13 : decode b_T_change 13 = .ok (.iload_n 1, 1) := by decide +kernel
theorem d_T_change_14 : decode b_T_change 14 = .ok (.iaload, 1) := by decide +kernel
theorem d_T_change_15 : decode b_T_change 15 = .ok (.goto 4, 3) := by decide +kernel
theorem d_T_change_18 : decode b_T_change 18 = .ok (.iconst 0, 1) := by decide +kernel
theorem d_T_change_19 : decode b_T_change 19 = .ok (.ireturn, 1) := by decide +kernel
theorem d_T_keep_0 : decode b_T_keep 0 = .ok (.iconst 4, 1) := by decide +kernel
theorem d_T_keep_1 : decode b_T_keep 1 = .ok (.istore_n 2, 1) := by decide +kernel
theorem d_T_keep_2 : decode b_T_keep 2 = .ok (.iload_n 2, 1) := by decide +kernel
theorem d_T_keep_3 : decode b_T_keep 3 = .ok (.ifCond .le 23, 3) := by decide +kernel
theorem d_T_keep_6 : decode b_T_keep 6 = .ok (.aload_n 0, 1) := by decide +kernel
theorem d_T_keep_7 : decode b_T_keep 7 = .ok (.getfield 9, 3) := by decide +kernel
theorem d_T_keep_10 : decode b_T_keep 10 = .ok (.iload_n 2, 1) := by decide +kernel
theorem d_T_keep_11 : decode b_T_keep 11 = .ok (.aload_n 0, 1) := by decide +kernel
theorem d_T_keep_12 : decode b_T_keep 12 = .ok (.getfield 9, 3) := by decide +kernel
theorem d_T_keep_15 : decode b_T_keep 15 = .ok (.iload_n 2, 1) := by decide +kernel
theorem d_T_keep_16 : decode b_T_keep 16 = .ok (.iconst 1, 1) := by decide +kernel
theorem d_T_keep_17 : decode b_T_keep 17 = .ok (.isub, 1) := by decide +kernel
theorem d_T_keep_18 : decode b_T_keep 18 = .ok (.iaload, 1) := by decide +kernel
theorem d_T_keep_19 : decode b_T_keep 19 = .ok (.iastore, 1) := by decide +kernel
theorem d_T_keep_20 : decode b_T_keep 20 = .ok (.iinc 2 (-1), 3) := by decide +kernel
theorem d_T_keep_23 : decode b_T_keep 23 = .ok (.goto (-21), 3) := by decide +kernel
theorem d_T_keep_26 : decode b_T_keep 26 = .ok (.aload_n 0, 1) := by decide +kernel
theorem d_T_keep_27 : decode b_T_keep 27 = .ok (.getfield 9, 3) := by decide +kernel
theorem d_T_keep_30 : decode b_T_keep 30 = .ok (.iconst 0, 1) := by decide +kernel
theorem d_T_keep_31 : decode b_T_keep 31 = .ok (.iload_n 1, 1) := by decide +kernel
theorem d_T_keep_32 : decode b_T_keep 32 = .ok (.iastore, 1) := by decide +kernel
theorem d_T_keep_33 : decode b_T_keep 33 = .ok (.return_, 1) := by decide +kernel
theorem d_K_init_0 : decode b_K_init 0 = .ok (.aload_n 0, 1) := by decide +kernel
theorem d_K_init_1 : decode b_K_init 1 = .ok (.invokespecial 1, 3) := by decide +kernel
theorem d_K_init_4 : decode b_K_init 4 = .ok (.aload_n 0, 1) := by decide +kernel
theorem d_K_init_5 : decode b_K_init 5 = .ok (.bipush 6, 2) := by decide +kernel
theorem d_K_init_7 : decode b_K_init 7 = .ok (.anewarray 9, 3) := by decide +kernel
theorem d_K_init_10 : decode b_K_init 10 = .ok (.putfield 11, 3) := by decide +kernel
theorem d_K_init_13 : decode b_K_init 13 = .ok (.iconst 0, 1) := by decide +kernel
theorem d_K_init_14 : decode b_K_init 14 = .ok (.istore_n 1, 1) := by decide +kernel
theorem d_K_init_15 : decode b_K_init 15 = .ok (.iload_n 1, 1) := by decide +kernel
theorem d_K_init_16 : decode b_K_init 16 = .ok (.bipush 6, 2) := by decide +kernel
theorem d_K_init_18 : decode b_K_init 18 = .ok (.if_icmp .ge 22, 3) := by decide +kernel
theorem d_K_init_21 : decode b_K_init 21 = .ok (.aload_n 0, 1) := by decide +kernel
theorem d_K_init_22 : decode b_K_init 22 = .ok (.getfield 11, 3) := by decide +kernel
theorem d_K_init_25 : decode b_K_init 25 = .ok (.iload_n 1, 1) := by decide +kernel
theorem d_K_init_26 : decode b_K_init 26 = .ok (.new 9, 3) := by decide +kernel
theorem d_K_init_29 : decode b_K_init 29 = .ok (.dup, 1) := by decide +kernel
theorem d_K_init_30 : decode b_K_init 30 = .ok (.invokespecial 15, 3) := by decide +kernel
theorem d_K_init_33 : decode b_K_init 33 = .ok (.aastore, 1) := by decide +kernel
theorem d_K_init_34 : decode b_K_init 34 = .ok (.iinc 1 1, 3) := by decide +kernel
theorem d_K_init_37 : decode b_K_init 37 = .ok (.goto (-22), 3) := by decide +kernel
theorem d_K_init_40 : decode b_K_init 40 = .ok (.aload_n 0, 1) := by decide +kernel
theorem d_K_init_41 : decode b_K_init 41 = .ok (.iconst 4, 1) := by decide +kernel
theorem d_K_init_42 : decode b_K_init 42 = .ok (.anewarray 16, 3) := by decide +kernel
theorem d_K_init_45 : decode b_K_init 45 = .ok (.putfield 18, 3) := by decide +kernel
theorem d_K_init_48 : decode b_K_init 48 = .ok (.iconst 0, 1) := by decide +kernel
theorem d_K_init_49 : decode b_K_init 49 = .ok (.istore_n 1, 1) := by decide +kernel
theorem d_K_init_50 : decode b_K_init 50 = .ok (.iload_n 1, 1) := by decide +kernel
theorem d_K_init_51 : decode b_K_init 51 = .ok (.iconst 4, 1) := by decide +kernel
theorem d_K_init_52 : decode b_K_init 52 = .ok (.if_icmp .ge 22, 3) := by decide +kernel
theorem d_K_init_55 : decode b_K_init 55 = .ok (.aload_n 0, 1) := by decide +kernel
theorem d_K_init_56 : decode b_K_init 56 = .ok (.getfield 18, 3) := by decide +kernel
theorem d_K_init_59 : decode b_K_init 59 = .ok (.iload_n 1, 1) := by decide +kernel
theorem d_K_init_60 : decode b_K_init 60 = .ok (.new 16, 3) := by decide +kernel
theorem d_K_init_63 : decode b_K_init 63 = .ok (.dup, 1) := by decide +kernel
theorem d_K_init_64 : decode b_K_init 64 = .ok (.invokespecial 22, 3) := by decide +kernel
theorem d_K_init_67 : decode b_K_init 67 = .ok (.aastore, 1) := by decide +kernel
theorem d_K_init_68 : decode b_K_init 68 = .ok (.iinc 1 1, 3) := by decide +kernel
theorem d_K_init_71 : decode b_K_init 71 = .ok (.goto (-21), 3) := by decide +kernel
theorem d_K_init_74 : decode b_K_init 74 = .ok (.aload_n 0, 1) := by decide +kernel
theorem d_K_init_75 : decode b_K_init 75 = .ok (.iconst 5, 1) := by decide +kernel
theorem d_K_init_76 : decode b_K_init 76 = .ok (.anewarray 23, 3) := by decide +kernel
theorem d_K_init_79 : decode b_K_init 79 = .ok (.putfield 25, 3) := by decide +kernel
theorem d_K_init_82 : decode b_K_init 82 = .ok (.iconst 0, 1) := by decide +kernel
theorem d_K_init_83 : decode b_K_init 83 = .ok (.istore_n 1, 1) := by decide +kernel
theorem d_K_init_84 : decode b_K_init 84 = .ok (.iload_n 1, 1) := by decide +kernel
theorem d_K_init_85 : decode b_K_init 85 = .ok (.iconst 5, 1) := by decide +kernel
theorem d_K_init_86 : decode b_K_init 86 = .ok (.if_icmp .ge 22, 3) := by decide +kernel
theorem d_K_init_89 : decode b_K_init 89 = .ok (.aload_n 0, 1) := by decide +kernel
theorem d_K_init_90 : decode b_K_init 90 = .ok (.getfield 25, 3) := by decide +kernel
theorem d_K_init_93 : decode b_K_init 93 = .ok (.iload_n 1, 1) := by decide +kernel
theorem d_K_init_94 : decode b_K_init 94 = .ok (.new 23, 3) := by decide +kernel
theorem d_K_init_97 : decode b_K_init 97 = .ok (.dup, 1) := by decide +kernel
theorem d_K_init_98 : decode b_K_init 98 = .ok (.invokespecial 29, 3) := by decide +kernel
theorem d_K_init_101 : decode b_K_init 101 = .ok (.aastore, 1) := by decide +kernel
theorem d_K_init_102 : decode b_K_init 102 = .ok (.iinc 1 1, 3) := by decide +kernel
theorem d_K_init_105 : decode b_K_init 105 = .ok (.goto (-21), 3) := by decide +kernel
theorem d_K_init_108 : decode b_K_init 108 = .ok (.aload_n 0, 1) := by decide +kernel
theorem d_K_init_109 : decode b_K_init 109 = .ok (.bipush 8, 2) := by decide +kernel
theorem d_K_init_111 : decode b_K_init 111 = .ok (.putfield 30, 3) := by decide +kernel
theorem d_K_init_114 : decode b_K_init 114 = .ok (.aload_n 0, 1) := by decide +kernel
theorem d_K_init_115 : decode b_K_init 115 = .ok (.sipush 1000, 3) := by decide +kernel
theorem d_K_init_118 : decode b_K_init 118 = .ok (.putfield 34, 3) := by decide +kernel
theorem d_K_init_121 : decode b_K_init 121 = .ok (.return_, 1) := by decide +kernel
theorem d_K_addGap_0 : decode b_K_addGap 0 = .ok (.aload_n 0, 1) := by decide +kernel
theorem d_K_addGap_1 : decode b_K_addGap 1 = .ok (.getfield 37, 3) := by decide +kernel
theorem d_K_addGap_4 : decode b_K_addGap 4 = .ok (.bipush 6, 2) := by decide +kernel
theorem d_K_addGap_6 : decode b_K_addGap 6 = .ok (.if_icmp .ge 33, 3) := by decide +kernel
theorem d_K_addGap_9 : decode b_K_addGap 9 = .ok (.aload_n 0, 1) := by decide +kernel
theorem d_K_addGap_10 : decode b_K_addGap 10 = .ok (.getfield 11, 3) := by decide +kernel
theorem d_K_addGap_13 : decode b_K_addGap 13 = .ok (.aload_n 0, 1) := by decide +kernel
theorem d_K_addGap_14 : decode b_K_addGap 14 = .ok (.getfield 37, 3) := by decide +kernel
theorem d_K_addGap_17 : decode b_K_addGap 17 = .ok (.aaload, 1) := by decide +kernel
theorem d_K_addGap_18 : decode b_K_addGap 18 = .ok (.astore_n 3, 1) := by decide +kernel
theorem d_K_addGap_19 : decode b_K_addGap 19 = .ok (.aload_n 3, 1) := by decide +kernel
theorem d_K_addGap_20 : decode b_K_addGap 20 = .ok (.iload_n 1, 1) := by decide +kernel
theorem d_K_addGap_21 : decode b_K_addGap 21 = .ok (.putfield 40, 3) := by decide +kernel
theorem d_K_addGap_24 : decode b_K_addGap 24 = .ok (.aload_n 3, 1) := by decide +kernel
theorem d_K_addGap_25 : decode b_K_addGap 25 = .ok (.iload_n 2, 1) := by decide +kernel
theorem d_K_addGap_26 : decode b_K_addGap 26 = .ok (.putfield 43, 3) := by decide +kernel
theorem d_K_addGap_29 : decode b_K_addGap 29 = .ok (.aload_n 0, 1) := by decide +kernel
theorem d_K_addGap_30 : decode b_K_addGap 30 = .ok (.dup, 1) := by decide +kernel
theorem d_K_addGap_31 : decode b_K_addGap 31 = .ok (.getfield 37, 3) := by decide +kernel
theorem d_K_addGap_34 : decode b_K_addGap 34 = .ok (.iconst 1, 1) := by decide +kernel
theorem d_K_addGap_35 : decode b_K_addGap 35 = .ok (.iadd, 1) := by decide +kernel
theorem d_K_addGap_36 : decode b_K_addGap 36 = .ok (.putfield 37, 3) := by decide +kernel
theorem d_K_addGap_39 : decode b_K_addGap 39 = .ok (.return_, 1) := by decide +kernel
theorem d_K_addPerson_0 : decode b_K_addPerson 0 = .ok (.aload_n 0, 1) := by decide +kernel
theorem d_K_addPerson_1 : decode b_K_addPerson 1 = .ok (.getfield 46, 3) := by decide +kernel
theorem d_K_addPerson_4 : decode b_K_addPerson 4 = .ok (.iconst 4, 1) := by decide +kernel
theorem d_K_addPerson_5 : decode b_K_addPerson 5 = .ok (.if_icmp .ge 42, 3) := by decide +kernel
theorem d_K_addPerson_8 : decode b_K_addPerson 8 = .ok (.aload_n 0, 1) := by decide +kernel
theorem d_K_addPerson_9 : decode b_K_addPerson 9 = .ok (.getfield 18, 3) := by decide +kernel
theorem d_K_addPerson_12 : decode b_K_addPerson 12 = .ok (.aload_n 0, 1) := by decide +kernel
theorem d_K_addPerson_13 : decode b_K_addPerson 13 = .ok (.getfield 46, 3) := by decide +kernel
theorem d_K_addPerson_16 : decode b_K_addPerson 16 = .ok (.aaload, 1) := by decide +kernel
theorem d_K_addPerson_17 : decode b_K_addPerson 17 = .ok (.astore 4, 2) := by decide +kernel
theorem d_K_addPerson_19 : decode b_K_addPerson 19 = .ok (.aload 4, 2) := by decide +kernel
theorem d_K_addPerson_21 : decode b_K_addPerson 21 = .ok (.iload_n 1, 1) := by decide +kernel
theorem d_K_addPerson_22 : decode b_K_addPerson 22 = .ok (.putfield 49, 3) := by decide +kernel
theorem d_K_addPerson_25 : decode b_K_addPerson 25 = .ok (.aload 4, 2) := by decide +kernel
theorem d_K_addPerson_27 : decode b_K_addPerson 27 = .ok (.iload_n 2, 1) := by decide +kernel
theorem d_K_addPerson_28 : decode b_K_addPerson 28 = .ok (.putfield 52, 3) := by decide +kernel
theorem d_K_addPerson_31 : decode b_K_addPerson 31 = .ok (.aload 4, 2) := by decide +kernel
theorem d_K_addPerson_33 : decode b_K_addPerson 33 = .ok (.iload_n 3, 1) := by decide +kernel
theorem d_K_addPerson_34 : decode b_K_addPerson 34 = .ok (.putfield 53, 3) := by decide +kernel
theorem d_K_addPerson_37 : decode b_K_addPerson 37 = .ok (.aload_n 0, 1) := by decide +kernel
theorem d_K_addPerson_38 : decode b_K_addPerson 38 = .ok (.dup, 1) := by decide +kernel
theorem d_K_addPerson_39 : decode b_K_addPerson 39 = .ok (.getfield 46, 3) := by decide +kernel
theorem d_K_addPerson_42 : decode b_K_addPerson 42 = .ok (.iconst 1, 1) := by decide +kernel
theorem d_K_addPerson_43 : decode b_K_addPerson 43 = .ok (.iadd, 1) := by decide +kernel
theorem d_K_addPerson_44 : decode b_K_addPerson 44 = .ok (.putfield 46, 3) := by decide +kernel
theorem d_K_addPerson_47 : decode b_K_addPerson 47 = .ok (.return_, 1) := by decide +kernel
theorem d_K_addRepair_0 : decode b_K_addRepair 0 = .ok (.aload_n 0, 1) := by decide +kernel
theorem d_K_addRepair_1 : decode b_K_addRepair 1 = .ok (.getfield 54, 3) := by decide +kernel
theorem d_K_addRepair_4 : decode b_K_addRepair 4 = .ok (.iconst 5, 1) := by decide +kernel
theorem d_K_addRepair_5 : decode b_K_addRepair 5 = .ok (.if_icmp .ge 54, 3) := by decide +kernel
theorem d_K_addRepair_8 : decode b_K_addRepair 8 = .ok (.aload_n 0, 1) := by decide +kernel
theorem d_K_addRepair_9 : decode b_K_addRepair 9 = .ok (.getfield 25, 3) := by decide +kernel
theorem d_K_addRepair_12 : decode b_K_addRepair 12 = .ok (.aload_n 0, 1) := by decide +kernel
theorem d_K_addRepair_13 : decode b_K_addRepair 13 = .ok (.getfield 54, 3) := by decide +kernel
theorem d_K_addRepair_16 : decode b_K_addRepair 16 = .ok (.aaload, 1) := by decide +kernel
theorem d_K_addRepair_17 : decode b_K_addRepair 17 = .ok (.astore 5, 2) := by decide +kernel
theorem d_K_addRepair_19 : decode b_K_addRepair 19 = .ok (.aload 5, 2) := by decide +kernel
theorem d_K_addRepair_21 : decode b_K_addRepair 21 = .ok (.iload_n 1, 1) := by decide +kernel
theorem d_K_addRepair_22 : decode b_K_addRepair 22 = .ok (.putfield 57, 3) := by decide +kernel
theorem d_K_addRepair_25 : decode b_K_addRepair 25 = .ok (.aload 5, 2) := by decide +kernel
theorem d_K_addRepair_27 : decode b_K_addRepair 27 = .ok (.iload_n 2, 1) := by decide +kernel
theorem d_K_addRepair_28 : decode b_K_addRepair 28 = .ok (.putfield 60, 3) := by decide +kernel
theorem d_K_addRepair_31 : decode b_K_addRepair 31 = .ok (.aload 5, 2) := by decide +kernel
theorem d_K_addRepair_33 : decode b_K_addRepair 33 = .ok (.iload_n 3, 1) := by decide +kernel
theorem d_K_addRepair_34 : decode b_K_addRepair 34 = .ok (.putfield 63, 3) := by decide +kernel
theorem d_K_addRepair_37 : decode b_K_addRepair 37 = .ok (.aload 5, 2) := by decide +kernel
theorem d_K_addRepair_39 : decode b_K_addRepair 39 = .ok (.iload 4, 2) := by decide +kernel
theorem d_K_addRepair_41 : decode b_K_addRepair 41 = .ok (.putfield 64, 3) := by decide +kernel
theorem d_K_addRepair_44 : decode b_K_addRepair 44 = .ok (.aload 5, 2) := by decide +kernel
theorem d_K_addRepair_46 : decode b_K_addRepair 46 = .ok (.invokevirtual 67, 3) := by decide +kernel
theorem d_K_addRepair_49 : decode b_K_addRepair 49 = .ok (.aload_n 0, 1) := by decide +kernel
theorem d_K_addRepair_50 : decode b_K_addRepair 50 = .ok (.dup, 1) := by decide +kernel
theorem d_K_addRepair_51 : decode b_K_addRepair 51 = .ok (.getfield 54, 3) := by decide +kernel
theorem d_K_addRepair_54 : decode b_K_addRepair 54 = .ok (.iconst 1, 1) := by decide +kernel
theorem d_K_addRepair_55 : decode b_K_addRepair 55 = .ok (.iadd, 1) := by decide +kernel
theorem d_K_addRepair_56 : decode b_K_addRepair 56 = .ok (.putfield 54, 3) := by decide +kernel
theorem d_K_addRepair_59 : decode b_K_addRepair 59 = .ok (.return_, 1) := by decide +kernel
theorem d_K_costUnplaced_0 : decode b_K_costUnplaced 0 = .ok (.aload_n 1, 1) := by decide +kernel
theorem d_K_costUnplaced_1 : decode b_K_costUnplaced 1 = .ok (.getfield 64, 3) := by decide +kernel
theorem d_K_costUnplaced_4 : decode b_K_costUnplaced 4 = .ok (.sipush 168, 3) := by decide +kernel
theorem d_K_costUnplaced_7 : decode b_K_costUnplaced 7 = .ok (.imul, 1) := by decide +kernel
theorem d_K_costUnplaced_8 : decode b_K_costUnplaced 8 = .ok (.aload_n 0, 1) := by decide +kernel
theorem d_K_costUnplaced_9 : decode b_K_costUnplaced 9 = .ok (.getfield 34, 3) := by decide +kernel
theorem d_K_costUnplaced_12 : decode b_K_costUnplaced 12 = .ok (.iadd, 1) := by decide +kernel
theorem d_K_costUnplaced_13 : decode b_K_costUnplaced 13 = .ok (.ireturn, 1) := by decide +kernel
end
section
/-! what each instruction is (printed by program) -/
theorem d_M_init_0 : decode b_M_init 0 = .ok (.aload_n 0, 1) := by decide +kernel
theorem d_M_init_1 : decode b_M_init 1 = .ok (.invokespecial 1, 3) := by decide +kernel
theorem d_M_init_4 : decode b_M_init 4 = .ok (.aload_n 0, 1) := by decide +kernel
theorem d_M_init_5 : decode b_M_init 5 = .ok (.lconst 1, 1) := by decide +kernel
theorem d_M_init_6 : decode b_M_init 6 = .ok (.putfield 7, 3) := by decide +kernel
theorem d_M_init_9 : decode b_M_init 9 = .ok (.aload_n 0, 1) := by decide +kernel
theorem d_M_init_10 : decode b_M_init 10 = .ok (.bipush 8, 2) := by decide +kernel
theorem d_M_init_12 : decode b_M_init 12 = .ok (.newarray .int, 2) := by decide +kernel
theorem d_M_init_14 : decode b_M_init 14 = .ok (.putfield 13, 3) := by decide +kernel
theorem d_M_init_17 : decode b_M_init 17 = .ok (.aload_n 0, 1) := by decide +kernel
theorem d_M_init_18 : decode b_M_init 18 = .ok (.bipush 8, 2) := by decide +kernel
theorem d_M_init_20 : decode b_M_init 20 = .ok (.newarray .int, 2) := by decide +kernel
theorem d_M_init_22 : decode b_M_init 22 = .ok (.putfield 17, 3) := by decide +kernel
theorem d_M_init_25 : decode b_M_init 25 = .ok (.aload_n 0, 1) := by decide +kernel
theorem d_M_init_26 : decode b_M_init 26 = .ok (.bipush 8, 2) := by decide +kernel
theorem d_M_init_28 : decode b_M_init 28 = .ok (.newarray .int, 2) := by decide +kernel
theorem d_M_init_30 : decode b_M_init 30 = .ok (.putfield 20, 3) := by decide +kernel
theorem d_M_init_33 : decode b_M_init 33 = .ok (.aload_n 0, 1) := by decide +kernel
theorem d_M_init_34 : decode b_M_init 34 = .ok (.bipush 8, 2) := by decide +kernel
theorem d_M_init_36 : decode b_M_init 36 = .ok (.newarray .boolean, 2) := by decide +kernel
theorem d_M_init_38 : decode b_M_init 38 = .ok (.putfield 23, 3) := by decide +kernel
theorem d_M_init_41 : decode b_M_init 41 = .ok (.aload_n 0, 1) := by decide +kernel
theorem d_M_init_42 : decode b_M_init 42 = .ok (.bipush 40, 2) := by decide +kernel
theorem d_M_init_44 : decode b_M_init 44 = .ok (.newarray .int, 2) := by decide +kernel
theorem d_M_init_46 : decode b_M_init 46 = .ok (.putfield 27, 3) := by decide +kernel
theorem d_M_init_49 : decode b_M_init 49 = .ok (.aload_n 0, 1) := by decide +kernel
theorem d_M_init_50 : decode b_M_init 50 = .ok (.bipush 6, 2) := by decide +kernel
theorem d_M_init_52 : decode b_M_init 52 = .ok (.newarray .int, 2) := by decide +kernel
theorem d_M_init_54 : decode b_M_init 54 = .ok (.putfield 30, 3) := by decide +kernel
theorem d_M_init_57 : decode b_M_init 57 = .ok (.aload_n 0, 1) := by decide +kernel
theorem d_M_init_58 : decode b_M_init 58 = .ok (.bipush 6, 2) := by decide +kernel
theorem d_M_init_60 : decode b_M_init 60 = .ok (.newarray .int, 2) := by decide +kernel
theorem d_M_init_62 : decode b_M_init 62 = .ok (.putfield 33, 3) := by decide +kernel
theorem d_M_init_65 : decode b_M_init 65 = .ok (.aload_n 0, 1) := by decide +kernel
theorem d_M_init_66 : decode b_M_init 66 = .ok (.iconst 4, 1) := by decide +kernel
theorem d_M_init_67 : decode b_M_init 67 = .ok (.newarray .int, 2) := by decide +kernel
theorem d_M_init_69 : decode b_M_init 69 = .ok (.putfield 36, 3) := by decide +kernel
theorem d_M_init_72 : decode b_M_init 72 = .ok (.aload_n 0, 1) := by decide +kernel
theorem d_M_init_73 : decode b_M_init 73 = .ok (.iconst 4, 1) := by decide +kernel
theorem d_M_init_74 : decode b_M_init 74 = .ok (.newarray .int, 2) := by decide +kernel
theorem d_M_init_76 : decode b_M_init 76 = .ok (.putfield 39, 3) := by decide +kernel
theorem d_M_init_79 : decode b_M_init 79 = .ok (.aload_n 0, 1) := by decide +kernel
theorem d_M_init_80 : decode b_M_init 80 = .ok (.iconst 4, 1) := by decide +kernel
theorem d_M_init_81 : decode b_M_init 81 = .ok (.newarray .int, 2) := by decide +kernel
theorem d_M_init_83 : decode b_M_init 83 = .ok (.putfield 42, 3) := by decide +kernel
theorem d_M_init_86 : decode b_M_init 86 = .ok (.aload_n 0, 1) := by decide +kernel
theorem d_M_init_87 : decode b_M_init 87 = .ok (.iconst 5, 1) := by decide +kernel
theorem d_M_init_88 : decode b_M_init 88 = .ok (.newarray .int, 2) := by decide +kernel
theorem d_M_init_90 : decode b_M_init 90 = .ok (.putfield 45, 3) := by decide +kernel
theorem d_M_init_93 : decode b_M_init 93 = .ok (.aload_n 0, 1) := by decide +kernel
theorem d_M_init_94 : decode b_M_init 94 = .ok (.iconst 5, 1) := by decide +kernel
theorem d_M_init_95 : decode b_M_init 95 = .ok (.newarray .int, 2) := by decide +kernel
theorem d_M_init_97 : decode b_M_init 97 = .ok (.putfield 48, 3) := by decide +kernel
theorem d_M_init_100 : decode b_M_init 100 = .ok (.aload_n 0, 1) := by decide +kernel
theorem d_M_init_101 : decode b_M_init 101 = .ok (.iconst 5, 1) := by decide +kernel
theorem d_M_init_102 : decode b_M_init 102 = .ok (.newarray .int, 2) := by decide +kernel
theorem d_M_init_104 : decode b_M_init 104 = .ok (.putfield 51, 3) := by decide +kernel
theorem d_M_init_107 : decode b_M_init 107 = .ok (.aload_n 0, 1) := by decide +kernel
theorem d_M_init_108 : decode b_M_init 108 = .ok (.iconst 5, 1) := by decide +kernel
theorem d_M_init_109 : decode b_M_init 109 = .ok (.newarray .int, 2) := by decide +kernel
theorem d_M_init_111 : decode b_M_init 111 = .ok (.putfield 54, 3) := by decide +kernel
theorem d_M_init_114 : decode b_M_init 114 = .ok (.aload_n 0, 1) := by decide +kernel
theorem d_M_init_115 : decode b_M_init 115 = .ok (.bipush 8, 2) := by decide +kernel
theorem d_M_init_117 : decode b_M_init 117 = .ok (.putfield 57, 3) := by decide +kernel
theorem d_M_init_120 : decode b_M_init 120 = .ok (.aload_n 0, 1) := by decide +kernel
theorem d_M_init_121 : decode b_M_init 121 = .ok (.sipush 1000, 3) := by decide +kernel
theorem d_M_init_124 : decode b_M_init 124 = .ok (.putfield 61, 3) := by decide +kernel
theorem d_M_init_127 : decode b_M_init 127 = .ok (.aload_n 0, 1) := by decide +kernel
theorem d_M_init_128 : decode b_M_init 128 = .ok (.iconst 4, 1) := by decide +kernel
theorem d_M_init_129 : decode b_M_init 129 = .ok (.newarray .int, 2) := by decide +kernel
theorem d_M_init_131 : decode b_M_init 131 = .ok (.putfield 64, 3) := by decide +kernel
theorem d_M_init_134 : decode b_M_init 134 = .ok (.aload_n 0, 1) := by decide +kernel
theorem d_M_init_135 : decode b_M_init 135 = .ok (.iconst 5, 1) := by decide +kernel
theorem d_M_init_136 : decode b_M_init 136 = .ok (.newarray .int, 2) := by decide +kernel
theorem d_M_init_138 : decode b_M_init 138 = .ok (.putfield 67, 3) := by decide +kernel
theorem d_M_init_141 : decode b_M_init 141 = .ok (.aload_n 0, 1) := by decide +kernel
theorem d_M_init_142 : decode b_M_init 142 = .ok (.iconst 5, 1) := by decide +kernel
theorem d_M_init_143 : decode b_M_init 143 = .ok (.newarray .int, 2) := by decide +kernel
theorem d_M_init_145 : decode b_M_init 145 = .ok (.putfield 70, 3) := by decide +kernel
theorem d_M_init_148 : decode b_M_init 148 = .ok (.aload_n 0, 1) := by decide +kernel
theorem d_M_init_149 : decode b_M_init 149 = .ok (.bipush 24, 2) := by decide +kernel
theorem d_M_init_151 : decode b_M_init 151 = .ok (.newarray .int, 2) := by decide +kernel
theorem d_M_init_153 : decode b_M_init 153 = .ok (.putfield 73, 3) := by decide +kernel
theorem d_M_init_156 : decode b_M_init 156 = .ok (.aload_n 0, 1) := by decide +kernel
theorem d_M_init_157 : decode b_M_init 157 = .ok (.bipush 48, 2) := by decide +kernel
theorem d_M_init_159 : decode b_M_init 159 = .ok (.newarray .int, 2) := by decide +kernel
theorem d_M_init_161 : decode b_M_init 161 = .ok (.putfield 76, 3) := by decide +kernel
theorem d_M_init_164 : decode b_M_init 164 = .ok (.aload_n 0, 1) := by decide +kernel
theorem d_M_init_165 : decode b_M_init 165 = .ok (.bipush 6, 2) := by decide +kernel
theorem d_M_init_167 : decode b_M_init 167 = .ok (.newarray .int, 2) := by decide +kernel
theorem d_M_init_169 : decode b_M_init 169 = .ok (.putfield 79, 3) := by decide +kernel
theorem d_M_init_172 : decode b_M_init 172 = .ok (.aload_n 0, 1) := by decide +kernel
theorem d_M_init_173 : decode b_M_init 173 = .ok (.bipush 6, 2) := by decide +kernel
theorem d_M_init_175 : decode b_M_init 175 = .ok (.newarray .int, 2) := by decide +kernel
theorem d_M_init_177 : decode b_M_init 177 = .ok (.putfield 82, 3) := by decide +kernel
theorem d_M_init_180 : decode b_M_init 180 = .ok (.aload_n 0, 1) := by decide +kernel
theorem d_M_init_181 : decode b_M_init 181 = .ok (.bipush 6, 2) := by decide +kernel
theorem d_M_init_183 : decode b_M_init 183 = .ok (.newarray .int, 2) := by decide +kernel
theorem d_M_init_185 : decode b_M_init 185 = .ok (.putfield 85, 3) := by decide +kernel
theorem d_M_init_188 : decode b_M_init 188 = .ok (.return_, 1) := by decide +kernel
theorem d_M_thrown_0 : decode b_M_thrown 0 = .ok (.aload_n 0, 1) := by decide +kernel
theorem d_M_thrown_1 : decode b_M_thrown 1 = .ok (.getfield 88, 3) := by decide +kernel
theorem d_M_thrown_4 : decode b_M_thrown 4 = .ok (.ireturn, 1) := by decide +kernel
theorem d_M_in_0 : decode b_M_in 0 = .ok (.iload_n 0, 1) := by decide +kernel
theorem d_M_in_1 : decode b_M_in 1 = .ok (.iload_n 1, 1) := by decide +kernel
theorem d_M_in_2 : decode b_M_in 2 = .ok (.if_icmp .lt 12, 3) := by decide +kernel
theorem d_M_in_5 : decode b_M_in 5 = .ok (.iload_n 0, 1) := by decide +kernel
theorem d_M_in_6 : decode b_M_in 6 = .ok (.iload_n 2, 1) := by decide +kernel
theorem d_M_in_7 : decode b_M_in 7 = .ok (.if_icmp .gt 7, 3) := by decide +kernel
theorem d_M_in_10 : decode b_M_in 10 = .ok (.iconst 1, 1) := by decide +kernel
theorem d_M_in_11 : decode b_M_in 11 = .ok (.goto 4, 3) := by decide +kernel
theorem d_M_in_14 : decode b_M_in 14 = .ok (.iconst 0, 1) := by decide +kernel
theorem d_M_in_15 : decode b_M_in 15 = .ok (.ireturn, 1) := by decide +kernel
theorem d_M_goes_0 : decode b_M_goes 0 = .ok (.aload_n 0, 1) := by decide +kernel
theorem d_M_goes_1 : decode b_M_goes 1 = .ok (.iload_n 1, 1) := by decide +kernel
theorem d_M_goes_2 : decode b_M_goes 2 = .ok (.ifCond .ne 7, 3) := by decide +kernel
theorem d_M_goes_5 : decode b_M_goes 5 = .ok (.iconst 1, 1) := by decide +kernel
theorem d_M_goes_6 : decode b_M_goes 6 = .ok (.goto 20, 3) := by decide +kernel
theorem d_M_goes_9 : decode b_M_goes 9 = .ok (.iload_n 2, 1) := by decide +kernel
theorem d_M_goes_10 : decode b_M_goes 10 = .ok (.ifCond .ne 7, 3) := by decide +kernel
theorem d_M_goes_13 : decode b_M_goes 13 = .ok (.iconst 2, 1) := by decide +kernel
theorem d_M_goes_14 : decode b_M_goes 14 = .ok (.goto 12, 3) := by decide +kernel
theorem d_M_goes_17 : decode b_M_goes 17 = .ok (.iload_n 3, 1) := by decide +kernel
theorem d_M_goes_18 : decode b_M_goes 18 = .ok (.ifCond .ne 7, 3) := by decide +kernel
theorem d_M_goes_21 : decode b_M_goes 21 = .ok (.iconst 3, 1) := by decide +kernel
theorem d_M_goes_22 : decode b_M_goes 22 = .ok (.goto 4, 3) := by decide +kernel
theorem d_M_goes_25 : decode b_M_goes 25 = .ok (.iconst 0, 1) := by decide +kernel
theorem d_M_goes_26 : decode b_M_goes 26 = .ok (.putfield 88, 3) := by decide +kernel
theorem d_M_goes_29 : decode b_M_goes 29 = .ok (.aload_n 0, 1) := by decide +kernel
theorem d_M_goes_30 : decode b_M_goes 30 = .ok (.getfield 88, 3) := by decide +kernel
theorem d_M_goes_33 : decode b_M_goes 33 = .ok (.ifCond .ne 7, 3) := by decide +kernel
theorem d_M_goes_36 : decode b_M_goes 36 = .ok (.iconst 1, 1) := by decide +kernel
theorem d_M_goes_37 : decode b_M_goes 37 = .ok (.goto 4, 3) := by decide +kernel
theorem d_M_goes_40 : decode b_M_goes 40 = .ok (.iconst 0, 1) := by decide +kernel
theorem d_M_goes_41 : decode b_M_goes 41 = .ok (.ireturn, 1) := by decide +kernel
theorem d_M_isThing_0 : decode b_M_isThing 0 = .ok (.iload_n 1, 1) := by decide +kernel
theorem d_M_isThing_1 : decode b_M_isThing 1 = .ok (.iconst 0, 1) := by decide +kernel
theorem d_M_isThing_2 : decode b_M_isThing 2 = .ok (.aload_n 0, 1) := by decide +kernel
theorem d_M_isThing_3 : decode b_M_isThing 3 = .ok (.getfield 91, 3) := by decide +kernel
theorem d_M_isThing_6 : decode b_M_isThing 6 = .ok (.iconst 1, 1) := by decide +kernel
theorem d_M_isThing_7 : decode b_M_isThing 7 = .ok (.isub, 1) := by decide +kernel
theorem d_M_isThing_8 : decode b_M_isThing 8 = .ok (.invokestatic 94, 3) := by decide +kernel
theorem d_M_isThing_11 : decode b_M_isThing 11 = .ok (.ireturn, 1) := by decide +kernel
theorem d_M_seed_0 : decode b_M_seed 0 = .ok (.aload_n 0, 1) := by decide +kernel
theorem d_M_seed_1 : decode b_M_seed 1 = .ok (.iconst 0, 1) := by decide +kernel
theorem d_M_seed_2 : decode b_M_seed 2 = .ok (.putfield 88, 3) := by decide +kernel
theorem d_M_seed_5 : decode b_M_seed 5 = .ok (.aload_n 0, 1) := by decide +kernel
theorem d_M_seed_6 : decode b_M_seed 6 = .ok (.lload_n 1, 1) := by decide +kernel
theorem d_M_seed_7 : decode b_M_seed 7 = .ok (.putfield 7, 3) := by decide +kernel
theorem d_M_seed_10 : decode b_M_seed 10 = .ok (.return_, 1) := by decide +kernel
theorem d_M_thing_0 : decode b_M_thing 0 = .ok (.aload_n 0, 1) := by decide +kernel
theorem d_M_thing_1 : decode b_M_thing 1 = .ok (.iload_n 1, 1) := by decide +kernel
theorem d_M_thing_2 : decode b_M_thing 2 = .ok (.iconst 1, 1) := by decide +kernel
theorem d_M_thing_3 : decode b_M_thing 3 = .ok (.ldc 98, 2) := by decide +kernel
theorem d_M_thing_5 : decode b_M_thing 5 = .ok (.invokestatic 94, 3) := by decide +kernel
theorem d_M_thing_8 : decode b_M_thing 8 = .ok (.ifCond .eq 17, 3) := by decide +kernel
theorem d_M_thing_11 : decode b_M_thing 11 = .ok (.iload_n 2, 1) := by decide +kernel
theorem d_M_thing_12 : decode b_M_thing 12 = .ok (.iconst 1, 1) := by decide +kernel
theorem d_M_thing_13 : decode b_M_thing 13 = .ok (.ldc 98, 2) := by decide +kernel
theorem d_M_thing_15 : decode b_M_thing 15 = .ok (.invokestatic 94, 3) := by decide +kernel
theorem d_M_thing_18 : decode b_M_thing 18 = .ok (.ifCond .eq 7, 3) := by decide +kernel
theorem d_M_thing_21 : decode b_M_thing 21 = .ok (.iconst 1, 1) := by decide +kernel
theorem d_M_thing_22 : decode b_M_thing 22 = .ok (.goto 4, 3) := by decide +kernel
theorem d_M_thing_25 : decode b_M_thing 25 = .ok (.iconst 0, 1) := by decide +kernel
theorem d_M_thing_26 : decode b_M_thing 26 = .ok (.aload_n 0, 1) := by decide +kernel
theorem d_M_thing_27 : decode b_M_thing 27 = .ok (.getfield 91, 3) := by decide +kernel
theorem d_M_thing_30 : decode b_M_thing 30 = .ok (.bipush 8, 2) := by decide +kernel
theorem d_M_thing_32 : decode b_M_thing 32 = .ok (.if_icmp .ge 7, 3) := by decide +kernel
theorem d_M_thing_35 : decode b_M_thing 35 = .ok (.iconst 1, 1) := by decide +kernel
theorem d_M_thing_36 : decode b_M_thing 36 = .ok (.goto 4, 3) := by decide +kernel
theorem d_M_thing_39 : decode b_M_thing 39 = .ok (.iconst 0, 1) := by decide +kernel
theorem d_M_thing_40 : decode b_M_thing 40 = .ok (.iconst 1, 1) := by decide +kernel
theorem d_M_thing_41 : decode b_M_thing 41 = .ok (.invokevirtual 99, 3) := by decide +kernel
theorem d_M_thing_44 : decode b_M_thing 44 = .ok (.ifCond .ne 5, 3) := by decide +kernel
theorem d_M_thing_47 : decode b_M_thing 47 = .ok (.iconst 0, 1) := by decide +kernel
theorem d_M_thing_48 : decode b_M_thing 48 = .ok (.ireturn, 1) := by decide +kernel
theorem d_M_thing_49 : decode b_M_thing 49 = .ok (.aload_n 0, 1) := by decide +kernel
theorem d_M_thing_50 : decode b_M_thing 50 = .ok (.getfield 13, 3) := by decide +kernel
theorem d_M_thing_53 : decode b_M_thing 53 = .ok (.aload_n 0, 1) := by decide +kernel
theorem d_M_thing_54 : decode b_M_thing 54 = .ok (.getfield 91, 3) := by decide +kernel
theorem d_M_thing_57 : decode b_M_thing 57 = .ok (.iload_n 1, 1) := by decide +kernel
theorem d_M_thing_58 : decode b_M_thing 58 = .ok (.iastore, 1) := by decide +kernel
theorem d_M_thing_59 : decode b_M_thing 59 = .ok (.aload_n 0, 1) := by decide +kernel
theorem d_M_thing_60 : decode b_M_thing 60 = .ok (.getfield 17, 3) := by decide +kernel
theorem d_M_thing_63 : decode b_M_thing 63 = .ok (.aload_n 0, 1) := by decide +kernel
theorem d_M_thing_64 : decode b_M_thing 64 = .ok (.getfield 91, 3) := by decide +kernel
theorem d_M_thing_67 : decode b_M_thing 67 = .ok (.iload_n 2, 1) := by decide +kernel
theorem d_M_thing_68 : decode b_M_thing 68 = .ok (.iastore, 1) := by decide +kernel
theorem d_M_thing_69 : decode b_M_thing 69 = .ok (.aload_n 0, 1) := by decide +kernel
theorem d_M_thing_70 : decode b_M_thing 70 = .ok (.getfield 20, 3) := by decide +kernel
theorem d_M_thing_73 : decode b_M_thing 73 = .ok (.aload_n 0, 1) := by decide +kernel
theorem d_M_thing_74 : decode b_M_thing 74 = .ok (.getfield 91, 3) := by decide +kernel
theorem d_M_thing_77 : decode b_M_thing 77 = .ok (.iconst 0, 1) := by decide +kernel
theorem d_M_thing_78 : decode b_M_thing 78 = .ok (.iastore, 1) := by decide +kernel
theorem d_M_thing_79 : decode b_M_thing 79 = .ok (.aload_n 0, 1) := by decide +kernel
theorem d_M_thing_80 : decode b_M_thing 80 = .ok (.getfield 23, 3) := by decide +kernel
theorem d_M_thing_83 : decode b_M_thing 83 = .ok (.aload_n 0, 1) := by decide +kernel
theorem d_M_thing_84 : decode b_M_thing 84 = .ok (.getfield 91, 3) := by decide +kernel
theorem d_M_thing_87 : decode b_M_thing 87 = .ok (.iconst 0, 1) := by decide +kernel
theorem d_M_thing_88 : decode b_M_thing 88 = .ok (.bastore, 1) := by decide +kernel
theorem d_M_thing_89 : decode b_M_thing 89 = .ok (.iconst 0, 1) := by decide +kernel
theorem d_M_thing_90 : decode b_M_thing 90 = .ok (.istore_n 3, 1) := by decide +kernel
theorem d_M_thing_91 : decode b_M_thing 91 = .ok (.iload_n 3, 1) := by decide +kernel
theorem d_M_thing_92 : decode b_M_thing 92 = .ok (.iconst 5, 1) := by decide +kernel
theorem d_M_thing_93 : decode b_M_thing 93 = .ok (.if_icmp .ge 23, 3) := by decide +kernel
theorem d_M_thing_96 : decode b_M_thing 96 = .ok (.aload_n 0, 1) := by decide +kernel
theorem d_M_thing_97 : decode b_M_thing 97 = .ok (.getfield 27, 3) := by decide +kernel
theorem d_M_thing_100 : decode b_M_thing 100 = .ok (.iconst 5, 1) := by decide +kernel
theorem d_M_thing_101 : decode b_M_thing 101 = .ok (.aload_n 0, 1) := by decide +kernel
theorem d_M_thing_102 : decode b_M_thing 102 = .ok (.getfield 91, 3) := by decide +kernel
theorem d_M_thing_105 : decode b_M_thing 105 = .ok (.imul, 1) := by decide +kernel
theorem d_M_thing_106 : decode b_M_thing 106 = .ok (.iload_n 3, 1) := by decide +kernel
theorem d_M_thing_107 : decode b_M_thing 107 = .ok (.iadd, 1) := by decide +kernel
theorem d_M_thing_108 : decode b_M_thing 108 = .ok (.iconst 0, 1) := by decide +kernel
theorem d_M_thing_109 : decode b_M_thing 109 = .ok (.iastore, 1) := by decide +kernel
theorem d_M_thing_110 : decode b_M_thing 110 = .ok (.iinc 3 1, 3) := by decide +kernel
theorem d_M_thing_113 : decode b_M_thing 113 = .ok (.goto (-22), 3) := by decide +kernel
theorem d_M_thing_116 : decode b_M_thing 116 = .ok (.aload_n 0, 1) := by decide +kernel
theorem d_M_thing_117 : decode b_M_thing 117 = .ok (.dup, 1) := by decide +kernel
theorem d_M_thing_118 : decode b_M_thing 118 = .ok (.getfield 91, 3) := by decide +kernel
theorem d_M_thing_121 : decode b_M_thing 121 = .ok (.iconst 1, 1) := by decide +kernel
theorem d_M_thing_122 : decode b_M_thing 122 = .ok (.iadd, 1) := by decide +kernel
theorem d_M_thing_123 : decode b_M_thing 123 = .ok (.putfield 91, 3) := by decide +kernel
theorem d_M_thing_126 : decode b_M_thing 126 = .ok (.aload_n 0, 1) := by decide +kernel
theorem d_M_thing_127 : decode b_M_thing 127 = .ok (.getfield 91, 3) := by decide +kernel
theorem d_M_thing_130 : decode b_M_thing 130 = .ok (.iconst 1, 1) := by decide +kernel
theorem d_M_thing_131 : decode b_M_thing 131 = .ok (.isub, 1) := by decide +kernel
theorem d_M_thing_132 : decode b_M_thing 132 = .ok (.ireturn, 1) := by decide +kernel
theorem d_M_keep_0 : decode b_M_keep 0 = .ok (.iconst 4, 1) := by decide +kernel
theorem d_M_keep_1 : decode b_M_keep 1 = .ok (.istore_n 3, 1) := by decide +kernel
theorem d_M_keep_2 : decode b_M_keep 2 = .ok (.iload_n 3, 1) := by decide +kernel
theorem d_M_keep_3 : decode b_M_keep 3 = .ok (.ifCond .le 31, 3) := by decide +kernel
theorem d_M_keep_6 : decode b_M_keep 6 = .ok (.aload_n 0, 1) := by decide +kernel
theorem d_M_keep_7 : decode b_M_keep 7 = .ok (.getfield 27, 3) := by decide +kernel
theorem d_M_keep_10 : decode b_M_keep 10 = .ok (.iconst 5, 1) := by decide +kernel
theorem d_M_keep_11 : decode b_M_keep 11 = .ok (.iload_n 1, 1) := by decide +kernel
theorem d_M_keep_12 : decode b_M_keep 12 = .ok (.imul, 1) := by decide +kernel
theorem d_M_keep_13 : decode b_M_keep 13 = .ok (.iload_n 3, 1) := by decide +kernel
theorem d_M_keep_14 : decode b_M_keep 14 = .ok (.iadd, 1) := by decide +kernel
theorem d_M_keep_15 : decode b_M_keep 15 = .ok (.aload_n 0, 1) := by decide +kernel
theorem d_M_keep_16 : decode b_M_keep 16 = .ok (.getfield 27, 3) := by decide +kernel
theorem d_M_keep_19 : decode b_M_keep 19 = .ok (.iconst 5, 1) := by decide +kernel
theorem d_M_keep_20 : decode b_M_keep 20 = .ok (.iload_n 1, 1) := by decide +kernel
theorem d_M_keep_21 : decode b_M_keep 21 = .ok (.imul, 1) := by decide +kernel
theorem d_M_keep_22 : decode b_M_keep 22 = .ok (.iload_n 3, 1) := by decide +kernel
theorem d_M_keep_23 : decode b_M_keep 23 = .ok (.iadd, 1) := by decide +kernel
theorem d_M_keep_24 : decode b_M_keep 24 = .ok (.iconst 1, 1) := by decide +kernel
theorem d_M_keep_25 : decode b_M_keep 25 = .ok (.isub, 1) := by decide +kernel
theorem d_M_keep_26 : decode b_M_keep 26 = .ok (.iaload, 1) := by decide +kernel
theorem d_M_keep_27 : decode b_M_keep 27 = .ok (.iastore, 1) := by decide +kernel
theorem d_M_keep_28 : decode b_M_keep 28 = .ok (.iinc 3 (-1), 3) := by decide +kernel
theorem d_M_keep_31 : decode b_M_keep 31 = .ok (.goto (-29), 3) := by decide +kernel
theorem d_M_keep_34 : decode b_M_keep 34 = .ok (.aload_n 0, 1) := by decide +kernel
theorem d_M_keep_35 : decode b_M_keep 35 = .ok (.getfield 27, 3) := by decide +kernel
theorem d_M_keep_38 : decode b_M_keep 38 = .ok (.iconst 5, 1) := by decide +kernel
theorem d_M_keep_39 : decode b_M_keep 39 = .ok (.iload_n 1, 1) := by decide +kernel
theorem d_M_keep_40 : decode b_M_keep 40 = .ok (.imul, 1) := by decide +kernel
theorem d_M_keep_41 : decode b_M_keep 41 = .ok (.iload_n 2, 1) := by decide +kernel
theorem d_M_keep_42 : decode b_M_keep 42 = .ok (.iastore, 1) := by decide +kernel
theorem d_M_keep_43 : decode b_M_keep 43 = .ok (.return_, 1) := by decide +kernel
theorem d_M_isBarred_0 : decode b_M_isBarred 0 = .ok (.aload_n 0, 1) := by decide +kernel
theorem d_M_isBarred_1 : decode b_M_isBarred 1 = .ok (.getfield 23, 3) := by decide +kernel
theorem d_M_isBarred_4 : decode b_M_isBarred 4 = .ok (.iload_n 1, 1) := by decide +kernel
theorem d_M_isBarred_5 : decode b_M_isBarred 5 = .ok (.baload, 1) := by decide +kernel
theorem d_M_isBarred_6 : decode b_M_isBarred 6 = .ok (.ifCond .ne 18, 3) := by decide +kernel
theorem d_M_isBarred_9 : decode b_M_isBarred 9 = .ok (.aload_n 0, 1) := by decide +kernel
theorem d_M_isBarred_10 : decode b_M_isBarred 10 = .ok (.getfield 20, 3) := by decide +kernel
theorem d_M_isBarred_13 : decode b_M_isBarred 13 = .ok (.iload_n 1, 1) := by decide +kernel
theorem d_M_isBarred_14 : decode b_M_isBarred 14 = .ok (.iaload, 1) := by decide +kernel
theorem d_M_isBarred_15 : decode b_M_isBarred 15 = .ok (.aload_n 0, 1) := by decide +kernel
theorem d_M_isBarred_16 : decode b_M_isBarred 16 = .ok (.getfield 17, 3) := by decide +kernel
theorem d_M_isBarred_19 : decode b_M_isBarred 19 = .ok (.iload_n 1, 1) := by decide +kernel
theorem d_M_isBarred_20 : decode b_M_isBarred 20 = .ok (.iaload, 1) := by decide +kernel
theorem d_M_isBarred_21 : decode b_M_isBarred 21 = .ok (.if_icmp .lt 7, 3) := by decide +kernel
theorem d_M_isBarred_24 : decode b_M_isBarred 24 = .ok (.iconst 1, 1) := by decide +kernel
theorem d_M_isBarred_25 : decode b_M_isBarred 25 = .ok (.goto 4, 3) := by decide +kernel
theorem d_M_isBarred_28 : decode b_M_isBarred 28 = .ok (.iconst 0, 1) := by decide +kernel
theorem d_M_isBarred_29 : decode b_M_isBarred 29 = .ok (.ireturn, 1) := by decide +kernel
theorem d_M_use_0 : decode b_M_use 0 = .ok (.aload_n 0, 1) := by decide +kernel
theorem d_M_use_1 : decode b_M_use 1 = .ok (.iload_n 1, 1) := by decide +kernel
theorem d_M_use_2 : decode b_M_use 2 = .ok (.invokevirtual 103, 3) := by decide +kernel
theorem d_M_use_5 : decode b_M_use 5 = .ok (.istore_n 3, 1) := by decide +kernel
theorem d_M_use_6 : decode b_M_use 6 = .ok (.aload_n 0, 1) := by decide +kernel
theorem d_M_use_7 : decode b_M_use 7 = .ok (.iload_n 3, 1) := by decide +kernel
theorem d_M_use_8 : decode b_M_use 8 = .ok (.iload_n 3, 1) := by decide +kernel
theorem d_M_use_9 : decode b_M_use 9 = .ok (.ifCond .eq 15, 3) := by decide +kernel
theorem d_M_use_12 : decode b_M_use 12 = .ok (.aload_n 0, 1) := by decide +kernel
theorem d_M_use_13 : decode b_M_use 13 = .ok (.iload_n 1, 1) := by decide +kernel
theorem d_M_use_14 : decode b_M_use 14 = .ok (.invokevirtual 107, 3) := by decide +kernel
theorem d_M_use_17 : decode b_M_use 17 = .ok (.ifCond .ne 7, 3) := by decide +kernel
theorem d_M_use_20 : decode b_M_use 20 = .ok (.iconst 1, 1) := by decide +kernel
theorem d_M_use_21 : decode b_M_use 21 = .ok (.goto 4, 3) := by decide +kernel
theorem d_M_use_24 : decode b_M_use 24 = .ok (.iconst 0, 1) := by decide +kernel
theorem d_M_use_25 : decode b_M_use 25 = .ok (.iload_n 2, 1) := by decide +kernel
theorem d_M_use_26 : decode b_M_use 26 = .ok (.iconst 1, 1) := by decide +kernel
theorem d_M_use_27 : decode b_M_use 27 = .ok (.ldc 98, 2) := by decide +kernel
theorem d_M_use_29 : decode b_M_use 29 = .ok (.invokestatic 94, 3) := by decide +kernel
theorem d_M_use_32 : decode b_M_use 32 = .ok (.invokevirtual 99, 3) := by decide +kernel
theorem d_M_use_35 : decode b_M_use 35 = .ok (.ifCond .ne 5, 3) := by decide +kernel
theorem d_M_use_38 : decode b_M_use 38 = .ok (.iconst 0, 1) := by decide +kernel
theorem d_M_use_39 : decode b_M_use 39 = .ok (.ireturn, 1) := by decide +kernel
theorem d_M_use_40 : decode b_M_use 40 = .ok (.aload_n 0, 1) := by decide +kernel
theorem d_M_use_41 : decode b_M_use 41 = .ok (.getfield 20, 3) := by decide +kernel
theorem d_M_use_44 : decode b_M_use 44 = .ok (.iload_n 1, 1) := by decide +kernel
theorem d_M_use_45 : decode b_M_use 45 = .ok (.aload_n 0, 1) := by decide +kernel
theorem d_M_use_46 : decode b_M_use 46 = .ok (.getfield 20, 3) := by decide +kernel
theorem d_M_use_49 : decode b_M_use 49 = .ok (.iload_n 1, 1) := by decide +kernel
theorem d_M_use_50 : decode b_M_use 50 = .ok (.iaload, 1) := by decide +kernel
theorem d_M_use_51 : decode b_M_use 51 = .ok (.iload_n 2, 1) := by decide +kernel
theorem d_M_use_52 : decode b_M_use 52 = .ok (.iadd, 1) := by decide +kernel
theorem d_M_use_53 : decode b_M_use 53 = .ok (.iastore, 1) := by decide +kernel
theorem d_M_use_54 : decode b_M_use 54 = .ok (.aload_n 0, 1) := by decide +kernel
theorem d_M_use_55 : decode b_M_use 55 = .ok (.iload_n 1, 1) := by decide +kernel
theorem d_M_use_56 : decode b_M_use 56 = .ok (.iload_n 2, 1) := by decide +kernel
theorem d_M_use_57 : decode b_M_use 57 = .ok (.invokevirtual 110, 3) := by decide +kernel
theorem d_M_use_60 : decode b_M_use 60 = .ok (.aload_n 0, 1) := by decide +kernel
theorem d_M_use_61 : decode b_M_use 61 = .ok (.getfield 20, 3) := by decide +kernel
theorem d_M_use_64 : decode b_M_use 64 = .ok (.iload_n 1, 1) := by decide +kernel
theorem d_M_use_65 : decode b_M_use 65 = .ok (.iaload, 1) := by decide +kernel
theorem d_M_use_66 : decode b_M_use 66 = .ok (.ireturn, 1) := by decide +kernel
theorem d_M_told_0 : decode b_M_told 0 = .ok (.aload_n 0, 1) := by decide +kernel
theorem d_M_told_1 : decode b_M_told 1 = .ok (.aload_n 0, 1) := by decide +kernel
theorem d_M_told_2 : decode b_M_told 2 = .ok (.iload_n 1, 1) := by decide +kernel
theorem d_M_told_3 : decode b_M_told 3 = .ok (.invokevirtual 103, 3) := by decide +kernel
theorem d_M_told_6 : decode b_M_told 6 = .ok (.ifCond .eq 16, 3) := by decide +kernel
theorem d_M_told_9 : decode b_M_told 9 = .ok (.iload_n 2, 1) := by decide +kernel
theorem d_M_told_10 : decode b_M_told 10 = .ok (.iconst 0, 1) := by decide +kernel
theorem d_M_told_11 : decode b_M_told 11 = .ok (.iconst 2, 1) := by decide +kernel
theorem d_M_told_12 : decode b_M_told 12 = .ok (.invokestatic 94, 3) := by decide +kernel
theorem d_M_told_15 : decode b_M_told 15 = .ok (.ifCond .eq 7, 3) := by decide +kernel
theorem d_M_told_18 : decode b_M_told 18 = .ok (.iconst 1, 1) := by decide +kernel
theorem d_M_told_19 : decode b_M_told 19 = .ok (.goto 4, 3) := by decide +kernel
theorem d_M_told_22 : decode b_M_told 22 = .ok (.iconst 0, 1) := by decide +kernel
theorem d_M_told_23 : decode b_M_told 23 = .ok (.iconst 1, 1) := by decide +kernel
theorem d_M_told_24 : decode b_M_told 24 = .ok (.iconst 1, 1) := by decide +kernel
theorem d_M_told_25 : decode b_M_told 25 = .ok (.invokevirtual 99, 3) := by decide +kernel
theorem d_M_told_28 : decode b_M_told 28 = .ok (.ifCond .ne 5, 3) := by decide +kernel
theorem d_M_told_31 : decode b_M_told 31 = .ok (.iconst 0, 1) := by decide +kernel
theorem d_M_told_32 : decode b_M_told 32 = .ok (.ireturn, 1) := by decide +kernel
theorem d_M_told_33 : decode b_M_told 33 = .ok (.iload_n 2, 1) := by decide +kernel
theorem d_M_told_34 : decode b_M_told 34 = .ok (.ifCond .ne 10, 3) := by decide +kernel
theorem d_M_told_37 : decode b_M_told 37 = .ok (.aload_n 0, 1) := by decide +kernel
theorem d_M_told_38 : decode b_M_told 38 = .ok (.getfield 20, 3) := by decide +kernel
theorem d_M_told_41 : decode b_M_told 41 = .ok (.iload_n 1, 1) := by decide +kernel
theorem d_M_told_42 : decode b_M_told 42 = .ok (.iaload, 1) := by decide +kernel
theorem d_M_told_43 : decode b_M_told 43 = .ok (.ireturn, 1) := by decide +kernel
theorem d_M_told_44 : decode b_M_told 44 = .ok (.iload_n 2, 1) := by decide +kernel
theorem d_M_told_45 : decode b_M_told 45 = .ok (.iconst 1, 1) := by decide +kernel
theorem d_M_told_46 : decode b_M_told 46 = .ok (.if_icmp .ne 17, 3) := by decide +kernel
theorem d_M_told_49 : decode b_M_told 49 = .ok (.aload_n 0, 1) := by decide +kernel
theorem d_M_told_50 : decode b_M_told 50 = .ok (.iload_n 1, 1) := by decide +kernel
theorem d_M_told_51 : decode b_M_told 51 = .ok (.invokevirtual 107, 3) := by decide +kernel
theorem d_M_told_54 : decode b_M_told 54 = .ok (.ifCond .eq 7, 3) := by decide +kernel
theorem d_M_told_57 : decode b_M_told 57 = .ok (.iconst 1, 1) := by decide +kernel
theorem d_M_told_58 : decode b_M_told 58 = .ok (.goto 4, 3) := by decide +kernel
theorem d_M_told_61 : decode b_M_told 61 = .ok (.iconst 0, 1) := by decide +kernel
theorem d_M_told_62 : decode b_M_told 62 = .ok (.ireturn, 1) := by decide +kernel
theorem d_M_told_63 : decode b_M_told 63 = .ok (.aload_n 0, 1) := by decide +kernel
theorem d_M_told_64 : decode b_M_told 64 = .ok (.getfield 17, 3) := by decide +kernel
theorem d_M_told_67 : decode b_M_told 67 = .ok (.iload_n 1, 1) := by decide +kernel
theorem d_M_told_68 : decode b_M_told 68 = .ok (.iaload, 1) := by decide +kernel
theorem d_M_told_69 : decode b_M_told 69 = .ok (.aload_n 0, 1) := by decide +kernel
theorem d_M_told_70 : decode b_M_told 70 = .ok (.getfield 20, 3) := by decide +kernel
theorem d_M_told_73 : decode b_M_told 73 = .ok (.iload_n 1, 1) := by decide +kernel
theorem d_M_told_74 : decode b_M_told 74 = .ok (.iaload, 1) := by decide +kernel
theorem d_M_told_75 : decode b_M_told 75 = .ok (.if_icmp .le 19, 3) := by decide +kernel
theorem d_M_told_78 : decode b_M_told 78 = .ok (.aload_n 0, 1) := by decide +kernel
theorem d_M_told_79 : decode b_M_told 79 = .ok (.getfield 17, 3) := by decide +kernel
theorem d_M_told_82 : decode b_M_told 82 = .ok (.iload_n 1, 1) := by decide +kernel
theorem d_M_told_83 : decode b_M_told 83 = .ok (.iaload, 1) := by decide +kernel
theorem d_M_told_84 : decode b_M_told 84 = .ok (.aload_n 0, 1) := by decide +kernel
theorem d_M_told_85 : decode b_M_told 85 = .ok (.getfield 20, 3) := by decide +kernel
theorem d_M_told_88 : decode b_M_told 88 = .ok (.iload_n 1, 1) := by decide +kernel
theorem d_M_told_89 : decode b_M_told 89 = .ok (.iaload, 1) := by decide +kernel
theorem d_M_told_90 : decode b_M_told 90 = .ok (.isub, 1) := by decide +kernel
theorem d_M_told_91 : decode b_M_told 91 = .ok (.goto 4, 3) := by decide +kernel
theorem d_M_told_94 : decode b_M_told 94 = .ok (.iconst 0, 1) := by decide +kernel
theorem d_M_told_95 : decode b_M_told 95 = .ok (.ireturn, 1) := by decide +kernel
theorem d_M_number_0 : decode b_M_number 0 = .ok (.aload_n 0, 1) := by decide +kernel
theorem d_M_number_1 : decode b_M_number 1 = .ok (.getfield 7, 3) := by decide +kernel
theorem d_M_number_4 : decode b_M_number 4 = .ok (.iload_n 1, 1) := by decide +kernel
theorem d_M_number_5 : decode b_M_number 5 = .ok (.i2l, 1) := by decide +kernel
theorem d_M_number_6 : decode b_M_number 6 = .ok (.ldc2_w 114, 3) := by decide +kernel
theorem d_M_number_9 : decode b_M_number 9 = .ok (.lmul, 1) := by decide +kernel
theorem d_M_number_10 : decode b_M_number 10 = .ok (.ladd, 1) := by decide +kernel
theorem d_M_number_11 : decode b_M_number 11 = .ok (.lstore_n 2, 1) := by decide +kernel
theorem d_M_number_12 : decode b_M_number 12 = .ok (.lload_n 2, 1) := by decide +kernel
theorem d_M_number_13 : decode b_M_number 13 = .ok (.lload_n 2, 1) := by decide +kernel
theorem d_M_number_14 : decode b_M_number 14 = .ok (.bipush 30, 2) := by decide +kernel
theorem d_M_number_16 : decode b_M_number 16 = .ok (.lushr, 1) := by decide +kernel
theorem d_M_number_17 : decode b_M_number 17 = .ok (.lxor, 1) := by decide +kernel
theorem d_M_number_18 : decode b_M_number 18 = .ok (.ldc2_w 116, 3) := by decide +kernel
theorem d_M_number_21 : decode b_M_number 21 = .ok (.lmul, 1) := by decide +kernel
theorem d_M_number_22 : decode b_M_number 22 = .ok (.lstore_n 2, 1) := by decide +kernel
theorem d_M_number_23 : decode b_M_number 23 = .ok (.lload_n 2, 1) := by decide +kernel
theorem d_M_number_24 : decode b_M_number 24 = .ok (.lload_n 2, 1) := by decide +kernel
theorem d_M_number_25 : decode b_M_number 25 = .ok (.bipush 27, 2) := by decide +kernel
theorem d_M_number_27 : decode b_M_number 27 = .ok (.lushr, 1) := by decide +kernel
theorem d_M_number_28 : decode b_M_number 28 = .ok (.lxor, 1) := by decide +kernel
theorem d_M_number_29 : decode b_M_number 29 = .ok (.ldc2_w 118, 3) := by decide +kernel
theorem d_M_number_32 : decode b_M_number 32 = .ok (.lmul, 1) := by decide +kernel
theorem d_M_number_33 : decode b_M_number 33 = .ok (.lstore_n 2, 1) := by decide +kernel
theorem d_M_number_34 : decode b_M_number 34 = .ok (.lload_n 2, 1) := by decide +kernel
theorem d_M_number_35 : decode b_M_number 35 = .ok (.lload_n 2, 1) := by decide +kernel
theorem d_M_number_36 : decode b_M_number 36 = .ok (.bipush 31, 2) := by decide +kernel
theorem d_M_number_38 : decode b_M_number 38 = .ok (.lushr, 1) := by decide +kernel
theorem d_M_number_39 : decode b_M_number 39 = .ok (.lxor, 1) := by decide +kernel
theorem d_M_number_40 : decode b_M_number 40 = .ok (.lreturn, 1) := by decide +kernel
theorem d_M_left_0 : decode b_M_left 0 = .ok (.aload_n 0, 1) := by decide +kernel
theorem d_M_left_1 : decode b_M_left 1 = .ok (.aload_n 0, 1) := by decide +kernel
theorem d_M_left_2 : decode b_M_left 2 = .ok (.iload_n 1, 1) := by decide +kernel
theorem d_M_left_3 : decode b_M_left 3 = .ok (.invokevirtual 103, 3) := by decide +kernel
theorem d_M_left_6 : decode b_M_left 6 = .ok (.iload_n 2, 1) := by decide +kernel
theorem d_M_left_7 : decode b_M_left 7 = .ok (.iconst 0, 1) := by decide +kernel
theorem d_M_left_8 : decode b_M_left 8 = .ok (.sipush 1000, 3) := by decide +kernel
theorem d_M_left_11 : decode b_M_left 11 = .ok (.invokestatic 94, 3) := by decide +kernel
theorem d_M_left_14 : decode b_M_left 14 = .ok (.iconst 1, 1) := by decide +kernel
theorem d_M_left_15 : decode b_M_left 15 = .ok (.invokevirtual 99, 3) := by decide +kernel
theorem d_M_left_18 : decode b_M_left 18 = .ok (.ifCond .ne 5, 3) := by decide +kernel
theorem d_M_left_21 : decode b_M_left 21 = .ok (.iconst 0, 1) := by decide +kernel
theorem d_M_left_22 : decode b_M_left 22 = .ok (.ireturn, 1) := by decide +kernel
theorem d_M_left_23 : decode b_M_left 23 = .ok (.aload_n 0, 1) := by decide +kernel
theorem d_M_left_24 : decode b_M_left 24 = .ok (.sipush 1001, 3) := by decide +kernel
theorem d_M_left_27 : decode b_M_left 27 = .ok (.iload_n 1, 1) := by decide +kernel
theorem d_M_left_28 : decode b_M_left 28 = .ok (.imul, 1) := by decide +kernel
theorem d_M_left_29 : decode b_M_left 29 = .ok (.iload_n 2, 1) := by decide +kernel
theorem d_M_left_30 : decode b_M_left 30 = .ok (.iadd, 1) := by decide +kernel
theorem d_M_left_31 : decode b_M_left 31 = .ok (.iconst 1, 1) := by decide +kernel
theorem d_M_left_32 : decode b_M_left 32 = .ok (.iadd, 1) := by decide +kernel
theorem d_M_left_33 : decode b_M_left 33 = .ok (.invokevirtual 120, 3) := by decide +kernel
theorem d_M_left_36 : decode b_M_left 36 = .ok (.iconst 1, 1) := by decide +kernel
theorem d_M_left_37 : decode b_M_left 37 = .ok (.lshl, 1) := by decide +kernel
theorem d_M_left_38 : decode b_M_left 38 = .ok (.iconst 1, 1) := by decide +kernel
theorem d_M_left_39 : decode b_M_left 39 = .ok (.lushr, 1) := by decide +kernel
theorem d_M_left_40 : decode b_M_left 40 = .ok (.lstore_n 3, 1) := by decide +kernel
theorem d_M_left_41 : decode b_M_left 41 = .ok (.lload_n 3, 1) := by decide +kernel
theorem d_M_left_42 : decode b_M_left 42 = .ok (.ldc2_w 124, 3) := by decide +kernel
theorem d_M_left_45 : decode b_M_left 45 = .ok (.lrem, 1) := by decide +kernel
theorem d_M_left_46 : decode b_M_left 46 = .ok (.l2i, 1) := by decide +kernel
theorem d_M_left_47 : decode b_M_left 47 = .ok (.istore 5, 2) := by decide +kernel
theorem d_M_left_49 : decode b_M_left 49 = .ok (.aload_n 0, 1) := by decide +kernel
theorem d_M_left_50 : decode b_M_left 50 = .ok (.getfield 13, 3) := by decide +kernel
theorem d_M_left_53 : decode b_M_left 53 = .ok (.iload_n 1, 1) := by decide +kernel
theorem d_M_left_54 : decode b_M_left 54 = .ok (.iaload, 1) := by decide +kernel
theorem d_M_left_55 : decode b_M_left 55 = .ok (.bipush 50, 2) := by decide +kernel
theorem d_M_left_57 : decode b_M_left 57 = .ok (.iload 5, 2) := by decide +kernel
theorem d_M_left_59 : decode b_M_left 59 = .ok (.iadd, 1) := by decide +kernel
theorem d_M_left_60 : decode b_M_left 60 = .ok (.imul, 1) := by decide +kernel
theorem d_M_left_61 : decode b_M_left 61 = .ok (.bipush 100, 2) := by decide +kernel
theorem d_M_left_63 : decode b_M_left 63 = .ok (.idiv, 1) := by decide +kernel
theorem d_M_left_64 : decode b_M_left 64 = .ok (.istore 6, 2) := by decide +kernel
theorem d_M_left_66 : decode b_M_left 66 = .ok (.iload 6, 2) := by decide +kernel
theorem d_M_left_68 : decode b_M_left 68 = .ok (.aload_n 0, 1) := by decide +kernel
theorem d_M_left_69 : decode b_M_left 69 = .ok (.getfield 20, 3) := by decide +kernel
theorem d_M_left_72 : decode b_M_left 72 = .ok (.iload_n 1, 1) := by decide +kernel
theorem d_M_left_73 : decode b_M_left 73 = .ok (.iaload, 1) := by decide +kernel
theorem d_M_left_74 : decode b_M_left 74 = .ok (.if_icmp .le 15, 3) := by decide +kernel
theorem d_M_left_77 : decode b_M_left 77 = .ok (.iload 6, 2) := by decide +kernel
theorem d_M_left_79 : decode b_M_left 79 = .ok (.aload_n 0, 1) := by decide +kernel
theorem d_M_left_80 : decode b_M_left 80 = .ok (.getfield 20, 3) := by decide +kernel
theorem d_M_left_83 : decode b_M_left 83 = .ok (.iload_n 1, 1) := by decide +kernel
theorem d_M_left_84 : decode b_M_left 84 = .ok (.iaload, 1) := by decide +kernel
theorem d_M_left_85 : decode b_M_left 85 = .ok (.isub, 1) := by decide +kernel
theorem d_M_left_86 : decode b_M_left 86 = .ok (.goto 4, 3) := by decide +kernel
theorem d_M_left_89 : decode b_M_left 89 = .ok (.iconst 0, 1) := by decide +kernel
theorem d_M_left_90 : decode b_M_left 90 = .ok (.ireturn, 1) := by decide +kernel
theorem d_M_permit_0 : decode b_M_permit 0 = .ok (.aload_n 0, 1) := by decide +kernel
theorem d_M_permit_1 : decode b_M_permit 1 = .ok (.iload_n 1, 1) := by decide +kernel
theorem d_M_permit_2 : decode b_M_permit 2 = .ok (.invokevirtual 103, 3) := by decide +kernel
theorem d_M_permit_5 : decode b_M_permit 5 = .ok (.istore_n 3, 1) := by decide +kernel
theorem d_M_permit_6 : decode b_M_permit 6 = .ok (.aload_n 0, 1) := by decide +kernel
theorem d_M_permit_7 : decode b_M_permit 7 = .ok (.iload_n 3, 1) := by decide +kernel
theorem d_M_permit_8 : decode b_M_permit 8 = .ok (.iload_n 3, 1) := by decide +kernel
theorem d_M_permit_9 : decode b_M_permit 9 = .ok (.ifCond .eq 17, 3) := by decide +kernel
theorem d_M_permit_12 : decode b_M_permit 12 = .ok (.aload_n 0, 1) := by decide +kernel
theorem d_M_permit_13 : decode b_M_permit 13 = .ok (.getfield 23, 3) := by decide +kernel
theorem d_M_permit_16 : decode b_M_permit 16 = .ok (.iload_n 1, 1) := by decide +kernel
theorem d_M_permit_17 : decode b_M_permit 17 = .ok (.baload, 1) := by decide +kernel
theorem d_M_permit_18 : decode b_M_permit 18 = .ok (.iload_n 2, 1) := by decide +kernel
theorem d_M_permit_19 : decode b_M_permit 19 = .ok (.if_icmp .ne 7, 3) := by decide +kernel
theorem d_M_permit_22 : decode b_M_permit 22 = .ok (.iconst 1, 1) := by decide +kernel
theorem d_M_permit_23 : decode b_M_permit 23 = .ok (.goto 4, 3) := by decide +kernel
theorem d_M_permit_26 : decode b_M_permit 26 = .ok (.iconst 0, 1) := by decide +kernel
theorem d_M_permit_27 : decode b_M_permit 27 = .ok (.iconst 1, 1) := by decide +kernel
theorem d_M_permit_28 : decode b_M_permit 28 = .ok (.invokevirtual 99, 3) := by decide +kernel
theorem d_M_permit_31 : decode b_M_permit 31 = .ok (.ifCond .ne 4, 3) := by decide +kernel
theorem d_M_permit_34 : decode b_M_permit 34 = .ok (.return_, 1) := by decide +kernel
theorem d_M_permit_35 : decode b_M_permit 35 = .ok (.aload_n 0, 1) := by decide +kernel
theorem d_M_permit_36 : decode b_M_permit 36 = .ok (.getfield 23, 3) := by decide +kernel
theorem d_M_permit_39 : decode b_M_permit 39 = .ok (.iload_n 1, 1) := by decide +kernel
theorem d_M_permit_40 : decode b_M_permit 40 = .ok (.iload_n 2, 1) := by decide +kernel
theorem d_M_permit_41 : decode b_M_permit 41 = .ok (.ifCond .ne 7, 3) := by decide +kernel
theorem d_M_permit_44 : decode b_M_permit 44 = .ok (.iconst 1, 1) := by decide +kernel
theorem d_M_permit_45 : decode b_M_permit 45 = .ok (.goto 4, 3) := by decide +kernel
theorem d_M_permit_48 : decode b_M_permit 48 = .ok (.iconst 0, 1) := by decide +kernel
theorem d_M_permit_49 : decode b_M_permit 49 = .ok (.bastore, 1) := by decide +kernel
theorem d_M_permit_50 : decode b_M_permit 50 = .ok (.aload_n 0, 1) := by decide +kernel
theorem d_M_permit_51 : decode b_M_permit 51 = .ok (.iload_n 1, 1) := by decide +kernel
theorem d_M_permit_52 : decode b_M_permit 52 = .ok (.iload_n 2, 1) := by decide +kernel
theorem d_M_permit_53 : decode b_M_permit 53 = .ok (.ifCond .eq 8, 3) := by decide +kernel
theorem d_M_permit_56 : decode b_M_permit 56 = .ok (.bipush (-3), 2) := by decide +kernel
theorem d_M_permit_58 : decode b_M_permit 58 = .ok (.goto 5, 3) := by decide +kernel
theorem d_M_permit_61 : decode b_M_permit 61 = .ok (.bipush (-2), 2) := by decide +kernel
theorem d_M_permit_63 : decode b_M_permit 63 = .ok (.invokevirtual 110, 3) := by decide +kernel
theorem d_M_permit_66 : decode b_M_permit 66 = .ok (.return_, 1) := by decide +kernel
theorem d_M_history_0 : decode b_M_history 0 = .ok (.aload_n 0, 1) := by decide +kernel
theorem d_M_history_1 : decode b_M_history 1 = .ok (.aload_n 0, 1) := by decide +kernel
theorem d_M_history_2 : decode b_M_history 2 = .ok (.iload_n 1, 1) := by decide +kernel
theorem d_M_history_3 : decode b_M_history 3 = .ok (.invokevirtual 103, 3) := by decide +kernel
theorem d_M_history_6 : decode b_M_history 6 = .ok (.ifCond .eq 11, 3) := by decide +kernel
theorem d_M_history_9 : decode b_M_history 9 = .ok (.iload_n 2, 1) := by decide +kernel
theorem d_M_history_10 : decode b_M_history 10 = .ok (.ifCond .lt 7, 3) := by decide +kernel
theorem d_M_history_13 : decode b_M_history 13 = .ok (.iconst 1, 1) := by decide +kernel
theorem d_M_history_14 : decode b_M_history 14 = .ok (.goto 4, 3) := by decide +kernel
theorem d_M_history_17 : decode b_M_history 17 = .ok (.iconst 0, 1) := by decide +kernel
theorem d_M_history_18 : decode b_M_history 18 = .ok (.iconst 1, 1) := by decide +kernel
theorem d_M_history_19 : decode b_M_history 19 = .ok (.iconst 1, 1) := by decide +kernel
theorem d_M_history_20 : decode b_M_history 20 = .ok (.invokevirtual 99, 3) := by decide +kernel
theorem d_M_history_23 : decode b_M_history 23 = .ok (.ifCond .ne 5, 3) := by decide +kernel
theorem d_M_history_26 : decode b_M_history 26 = .ok (.iconst 0, 1) := by decide +kernel
theorem d_M_history_27 : decode b_M_history 27 = .ok (.ireturn, 1) := by decide +kernel
theorem d_M_history_28 : decode b_M_history 28 = .ok (.iload_n 2, 1) := by decide +kernel
theorem d_M_history_29 : decode b_M_history 29 = .ok (.iconst 5, 1) := by decide +kernel
theorem d_M_history_30 : decode b_M_history 30 = .ok (.if_icmp .ge 16, 3) := by decide +kernel
theorem d_M_history_33 : decode b_M_history 33 = .ok (.aload_n 0, 1) := by decide +kernel
theorem d_M_history_34 : decode b_M_history 34 = .ok (.getfield 27, 3) := by decide +kernel
theorem d_M_history_37 : decode b_M_history 37 = .ok (.iconst 5, 1) := by decide +kernel
theorem d_M_history_38 : decode b_M_history 38 = .ok (.iload_n 1, 1) := by decide +kernel
theorem d_M_history_39 : decode b_M_history 39 = .ok (.imul, 1) := by decide +kernel
theorem d_M_history_40 : decode b_M_history 40 = .ok (.iload_n 2, 1) := by decide +kernel
theorem d_M_history_41 : decode b_M_history 41 = .ok (.iadd, 1) := by decide +kernel
theorem d_M_history_42 : decode b_M_history 42 = .ok (.iaload, 1) := by decide +kernel
theorem d_M_history_43 : decode b_M_history 43 = .ok (.goto 4, 3) := by decide +kernel
theorem d_M_history_46 : decode b_M_history 46 = .ok (.iconst 0, 1) := by decide +kernel
theorem d_M_history_47 : decode b_M_history 47 = .ok (.ireturn, 1) := by decide +kernel
theorem d_M_areHours_0 : decode b_M_areHours 0 = .ok (.iload_n 0, 1) := by decide +kernel
theorem d_M_areHours_1 : decode b_M_areHours 1 = .ok (.iconst 0, 1) := by decide +kernel
theorem d_M_areHours_2 : decode b_M_areHours 2 = .ok (.sipush 168, 3) := by decide +kernel
theorem d_M_areHours_5 : decode b_M_areHours 5 = .ok (.invokestatic 94, 3) := by decide +kernel
theorem d_M_areHours_8 : decode b_M_areHours 8 = .ok (.ifCond .eq 23, 3) := by decide +kernel
theorem d_M_areHours_11 : decode b_M_areHours 11 = .ok (.iload_n 1, 1) := by decide +kernel
theorem d_M_areHours_12 : decode b_M_areHours 12 = .ok (.iconst 0, 1) := by decide +kernel
theorem d_M_areHours_13 : decode b_M_areHours 13 = .ok (.sipush 168, 3) := by decide +kernel
theorem d_M_areHours_16 : decode b_M_areHours 16 = .ok (.invokestatic 94, 3) := by decide +kernel
theorem d_M_areHours_19 : decode b_M_areHours 19 = .ok (.ifCond .eq 12, 3) := by decide +kernel
theorem d_M_areHours_22 : decode b_M_areHours 22 = .ok (.iload_n 0, 1) := by decide +kernel
theorem d_M_areHours_23 : decode b_M_areHours 23 = .ok (.iload_n 1, 1) := by decide +kernel
theorem d_M_areHours_24 : decode b_M_areHours 24 = .ok (.if_icmp .ge 7, 3) := by decide +kernel
theorem d_M_areHours_27 : decode b_M_areHours 27 = .ok (.iconst 1, 1) := by decide +kernel
theorem d_M_areHours_28 : decode b_M_areHours 28 = .ok (.goto 4, 3) := by decide +kernel
theorem d_M_areHours_31 : decode b_M_areHours 31 = .ok (.iconst 0, 1) := by decide +kernel
theorem d_M_areHours_32 : decode b_M_areHours 32 = .ok (.ireturn, 1) := by decide +kernel
theorem d_M_gap_0 : decode b_M_gap 0 = .ok (.aload_n 0, 1) := by decide +kernel
theorem d_M_gap_1 : decode b_M_gap 1 = .ok (.iload_n 1, 1) := by decide +kernel
theorem d_M_gap_2 : decode b_M_gap 2 = .ok (.iload_n 2, 1) := by decide +kernel
theorem d_M_gap_3 : decode b_M_gap 3 = .ok (.invokestatic 126, 3) := by decide +kernel
theorem d_M_gap_6 : decode b_M_gap 6 = .ok (.aload_n 0, 1) := by decide +kernel
theorem d_M_gap_7 : decode b_M_gap 7 = .ok (.getfield 130, 3) := by decide +kernel
theorem d_M_gap_10 : decode b_M_gap 10 = .ok (.bipush 6, 2) := by decide +kernel
theorem d_M_gap_12 : decode b_M_gap 12 = .ok (.if_icmp .ge 7, 3) := by decide +kernel
theorem d_M_gap_15 : decode b_M_gap 15 = .ok (.iconst 1, 1) := by decide +kernel
theorem d_M_gap_16 : decode b_M_gap 16 = .ok (.goto 4, 3) := by decide +kernel
theorem d_M_gap_19 : decode b_M_gap 19 = .ok (.iconst 0, 1) := by decide +kernel
theorem d_M_gap_20 : decode b_M_gap 20 = .ok (.iconst 1, 1) := by decide +kernel
theorem d_M_gap_21 : decode b_M_gap 21 = .ok (.invokevirtual 99, 3) := by decide +kernel
theorem d_M_gap_24 : decode b_M_gap 24 = .ok (.ifCond .ne 5, 3) := by decide +kernel
theorem d_M_gap_27 : decode b_M_gap 27 = .ok (.iconst 0, 1) := by decide +kernel
theorem d_M_gap_28 : decode b_M_gap 28 = .ok (.ireturn, 1) := by decide +kernel
theorem d_M_gap_29 : decode b_M_gap 29 = .ok (.aload_n 0, 1) := by decide +kernel
theorem d_M_gap_30 : decode b_M_gap 30 = .ok (.getfield 30, 3) := by decide +kernel
theorem d_M_gap_33 : decode b_M_gap 33 = .ok (.aload_n 0, 1) := by decide +kernel
theorem d_M_gap_34 : decode b_M_gap 34 = .ok (.getfield 130, 3) := by decide +kernel
theorem d_M_gap_37 : decode b_M_gap 37 = .ok (.iload_n 1, 1) := by decide +kernel
theorem d_M_gap_38 : decode b_M_gap 38 = .ok (.iastore, 1) := by decide +kernel
theorem d_M_gap_39 : decode b_M_gap 39 = .ok (.aload_n 0, 1) := by decide +kernel
theorem d_M_gap_40 : decode b_M_gap 40 = .ok (.getfield 33, 3) := by decide +kernel
theorem d_M_gap_43 : decode b_M_gap 43 = .ok (.aload_n 0, 1) := by decide +kernel
theorem d_M_gap_44 : decode b_M_gap 44 = .ok (.getfield 130, 3) := by decide +kernel
theorem d_M_gap_47 : decode b_M_gap 47 = .ok (.iload_n 2, 1) := by decide +kernel
theorem d_M_gap_48 : decode b_M_gap 48 = .ok (.iastore, 1) := by decide +kernel
theorem d_M_gap_49 : decode b_M_gap 49 = .ok (.aload_n 0, 1) := by decide +kernel
theorem d_M_gap_50 : decode b_M_gap 50 = .ok (.dup, 1) := by decide +kernel
theorem d_M_gap_51 : decode b_M_gap 51 = .ok (.getfield 130, 3) := by decide +kernel
theorem d_M_gap_54 : decode b_M_gap 54 = .ok (.iconst 1, 1) := by decide +kernel
theorem d_M_gap_55 : decode b_M_gap 55 = .ok (.iadd, 1) := by decide +kernel
theorem d_M_gap_56 : decode b_M_gap 56 = .ok (.putfield 130, 3) := by decide +kernel
theorem d_M_gap_59 : decode b_M_gap 59 = .ok (.aload_n 0, 1) := by decide +kernel
theorem d_M_gap_60 : decode b_M_gap 60 = .ok (.iconst 0, 1) := by decide +kernel
theorem d_M_gap_61 : decode b_M_gap 61 = .ok (.putfield 133, 3) := by decide +kernel
theorem d_M_gap_64 : decode b_M_gap 64 = .ok (.aload_n 0, 1) := by decide +kernel
theorem d_M_gap_65 : decode b_M_gap 65 = .ok (.getfield 130, 3) := by decide +kernel
theorem d_M_gap_68 : decode b_M_gap 68 = .ok (.ireturn, 1) := by decide +kernel
theorem d_M_person_0 : decode b_M_person 0 = .ok (.aload_n 0, 1) := by decide +kernel
theorem d_M_person_1 : decode b_M_person 1 = .ok (.iload_n 1, 1) := by decide +kernel
theorem d_M_person_2 : decode b_M_person 2 = .ok (.iconst 0, 1) := by decide +kernel
theorem d_M_person_3 : decode b_M_person 3 = .ok (.iconst 3, 1) := by decide +kernel
theorem d_M_person_4 : decode b_M_person 4 = .ok (.invokestatic 94, 3) := by decide +kernel
theorem d_M_person_7 : decode b_M_person 7 = .ok (.ifCond .eq 15, 3) := by decide +kernel
theorem d_M_person_10 : decode b_M_person 10 = .ok (.iload_n 2, 1) := by decide +kernel
theorem d_M_person_11 : decode b_M_person 11 = .ok (.iload_n 3, 1) := by decide +kernel
theorem d_M_person_12 : decode b_M_person 12 = .ok (.invokestatic 126, 3) := by decide +kernel
theorem d_M_person_15 : decode b_M_person 15 = .ok (.ifCond .eq 7, 3) := by decide +kernel
theorem d_M_person_18 : decode b_M_person 18 = .ok (.iconst 1, 1) := by decide +kernel
theorem d_M_person_19 : decode b_M_person 19 = .ok (.goto 4, 3) := by decide +kernel
theorem d_M_person_22 : decode b_M_person 22 = .ok (.iconst 0, 1) := by decide +kernel
theorem d_M_person_23 : decode b_M_person 23 = .ok (.aload_n 0, 1) := by decide +kernel
theorem d_M_person_24 : decode b_M_person 24 = .ok (.getfield 137, 3) := by decide +kernel
theorem d_M_person_27 : decode b_M_person 27 = .ok (.iconst 4, 1) := by decide +kernel
theorem d_M_person_28 : decode b_M_person 28 = .ok (.if_icmp .ge 7, 3) := by decide +kernel
theorem d_M_person_31 : decode b_M_person 31 = .ok (.iconst 1, 1) := by decide +kernel
theorem d_M_person_32 : decode b_M_person 32 = .ok (.goto 4, 3) := by decide +kernel
theorem d_M_person_35 : decode b_M_person 35 = .ok (.iconst 0, 1) := by decide +kernel
theorem d_M_person_36 : decode b_M_person 36 = .ok (.iconst 1, 1) := by decide +kernel
theorem d_M_person_37 : decode b_M_person 37 = .ok (.invokevirtual 99, 3) := by decide +kernel
theorem d_M_person_40 : decode b_M_person 40 = .ok (.ifCond .ne 5, 3) := by decide +kernel
theorem d_M_person_43 : decode b_M_person 43 = .ok (.iconst 0, 1) := by decide +kernel
theorem d_M_person_44 : decode b_M_person 44 = .ok (.ireturn, 1) := by decide +kernel
theorem d_M_person_45 : decode b_M_person 45 = .ok (.aload_n 0, 1) := by decide +kernel
theorem d_M_person_46 : decode b_M_person 46 = .ok (.getfield 36, 3) := by decide +kernel
theorem d_M_person_49 : decode b_M_person 49 = .ok (.aload_n 0, 1) := by decide +kernel
theorem d_M_person_50 : decode b_M_person 50 = .ok (.getfield 137, 3) := by decide +kernel
theorem d_M_person_53 : decode b_M_person 53 = .ok (.iload_n 1, 1) := by decide +kernel
theorem d_M_person_54 : decode b_M_person 54 = .ok (.iastore, 1) := by decide +kernel
theorem d_M_person_55 : decode b_M_person 55 = .ok (.aload_n 0, 1) := by decide +kernel
theorem d_M_person_56 : decode b_M_person 56 = .ok (.getfield 39, 3) := by decide +kernel
theorem d_M_person_59 : decode b_M_person 59 = .ok (.aload_n 0, 1) := by decide +kernel
theorem d_M_person_60 : decode b_M_person 60 = .ok (.getfield 137, 3) := by decide +kernel
theorem d_M_person_63 : decode b_M_person 63 = .ok (.iload_n 2, 1) := by decide +kernel
theorem d_M_person_64 : decode b_M_person 64 = .ok (.iastore, 1) := by decide +kernel
theorem d_M_person_65 : decode b_M_person 65 = .ok (.aload_n 0, 1) := by decide +kernel
theorem d_M_person_66 : decode b_M_person 66 = .ok (.getfield 42, 3) := by decide +kernel
theorem d_M_person_69 : decode b_M_person 69 = .ok (.aload_n 0, 1) := by decide +kernel
theorem d_M_person_70 : decode b_M_person 70 = .ok (.getfield 137, 3) := by decide +kernel
theorem d_M_person_73 : decode b_M_person 73 = .ok (.iload_n 3, 1) := by decide +kernel
theorem d_M_person_74 : decode b_M_person 74 = .ok (.iastore, 1) := by decide +kernel
theorem d_M_person_75 : decode b_M_person 75 = .ok (.aload_n 0, 1) := by decide +kernel
theorem d_M_person_76 : decode b_M_person 76 = .ok (.dup, 1) := by decide +kernel
theorem d_M_person_77 : decode b_M_person 77 = .ok (.getfield 137, 3) := by decide +kernel
theorem d_M_person_80 : decode b_M_person 80 = .ok (.iconst 1, 1) := by decide +kernel
theorem d_M_person_81 : decode b_M_person 81 = .ok (.iadd, 1) := by decide +kernel
theorem d_M_person_82 : decode b_M_person 82 = .ok (.putfield 137, 3) := by decide +kernel
theorem d_M_person_85 : decode b_M_person 85 = .ok (.aload_n 0, 1) := by decide +kernel
theorem d_M_person_86 : decode b_M_person 86 = .ok (.iconst 0, 1) := by decide +kernel
theorem d_M_person_87 : decode b_M_person 87 = .ok (.putfield 133, 3) := by decide +kernel
theorem d_M_person_90 : decode b_M_person 90 = .ok (.aload_n 0, 1) := by decide +kernel
theorem d_M_person_91 : decode b_M_person 91 = .ok (.getfield 137, 3) := by decide +kernel
theorem d_M_person_94 : decode b_M_person 94 = .ok (.iconst 1, 1) := by decide +kernel
theorem d_M_person_95 : decode b_M_person 95 = .ok (.isub, 1) := by decide +kernel
theorem d_M_person_96 : decode b_M_person 96 = .ok (.ireturn, 1) := by decide +kernel
theorem d_M_repair_0 : decode b_M_repair 0 = .ok (.aload_n 0, 1) := by decide +kernel
theorem d_M_repair_1 : decode b_M_repair 1 = .ok (.aload_n 0, 1) := by decide +kernel
theorem d_M_repair_2 : decode b_M_repair 2 = .ok (.iload_n 1, 1) := by decide +kernel
theorem d_M_repair_3 : decode b_M_repair 3 = .ok (.invokevirtual 103, 3) := by decide +kernel
theorem d_M_repair_6 : decode b_M_repair 6 = .ok (.iload_n 2, 1) := by decide +kernel
theorem d_M_repair_7 : decode b_M_repair 7 = .ok (.iconst 1, 1) := by decide +kernel
theorem d_M_repair_8 : decode b_M_repair 8 = .ok (.bipush 24, 2) := by decide +kernel
theorem d_M_repair_10 : decode b_M_repair 10 = .ok (.invokestatic 94, 3) := by decide +kernel
theorem d_M_repair_13 : decode b_M_repair 13 = .ok (.ifCond .eq 28, 3) := by decide +kernel
theorem d_M_repair_16 : decode b_M_repair 16 = .ok (.iload_n 3, 1) := by decide +kernel
theorem d_M_repair_17 : decode b_M_repair 17 = .ok (.iconst 0, 1) := by decide +kernel
theorem d_M_repair_18 : decode b_M_repair 18 = .ok (.iconst 3, 1) := by decide +kernel
theorem d_M_repair_19 : decode b_M_repair 19 = .ok (.invokestatic 94, 3) := by decide +kernel
theorem d_M_repair_22 : decode b_M_repair 22 = .ok (.ifCond .eq 19, 3) := by decide +kernel
theorem d_M_repair_25 : decode b_M_repair 25 = .ok (.iload 4, 2) := by decide +kernel
theorem d_M_repair_27 : decode b_M_repair 27 = .ok (.iconst 0, 1) := by decide +kernel
theorem d_M_repair_28 : decode b_M_repair 28 = .ok (.sipush 1000, 3) := by decide +kernel
theorem d_M_repair_31 : decode b_M_repair 31 = .ok (.invokestatic 94, 3) := by decide +kernel
theorem d_M_repair_34 : decode b_M_repair 34 = .ok (.ifCond .eq 7, 3) := by decide +kernel
theorem d_M_repair_37 : decode b_M_repair 37 = .ok (.iconst 1, 1) := by decide +kernel
theorem d_M_repair_38 : decode b_M_repair 38 = .ok (.goto 4, 3) := by decide +kernel
theorem d_M_repair_41 : decode b_M_repair 41 = .ok (.iconst 0, 1) := by decide +kernel
theorem d_M_repair_42 : decode b_M_repair 42 = .ok (.aload_n 0, 1) := by decide +kernel
theorem d_M_repair_43 : decode b_M_repair 43 = .ok (.getfield 140, 3) := by decide +kernel
theorem d_M_repair_46 : decode b_M_repair 46 = .ok (.iconst 5, 1) := by decide +kernel
theorem d_M_repair_47 : decode b_M_repair 47 = .ok (.if_icmp .ge 7, 3) := by decide +kernel
theorem d_M_repair_50 : decode b_M_repair 50 = .ok (.iconst 1, 1) := by decide +kernel
theorem d_M_repair_51 : decode b_M_repair 51 = .ok (.goto 4, 3) := by decide +kernel
theorem d_M_repair_54 : decode b_M_repair 54 = .ok (.iconst 0, 1) := by decide +kernel
theorem d_M_repair_55 : decode b_M_repair 55 = .ok (.invokevirtual 99, 3) := by decide +kernel
theorem d_M_repair_58 : decode b_M_repair 58 = .ok (.ifCond .ne 5, 3) := by decide +kernel
theorem d_M_repair_61 : decode b_M_repair 61 = .ok (.iconst 0, 1) := by decide +kernel
theorem d_M_repair_62 : decode b_M_repair 62 = .ok (.ireturn, 1) := by decide +kernel
theorem d_M_repair_63 : decode b_M_repair 63 = .ok (.aload_n 0, 1) := by decide +kernel
theorem d_M_repair_64 : decode b_M_repair 64 = .ok (.getfield 45, 3) := by decide +kernel
theorem d_M_repair_67 : decode b_M_repair 67 = .ok (.aload_n 0, 1) := by decide +kernel
theorem d_M_repair_68 : decode b_M_repair 68 = .ok (.getfield 140, 3) := by decide +kernel
theorem d_M_repair_71 : decode b_M_repair 71 = .ok (.iload_n 1, 1) := by decide +kernel
theorem d_M_repair_72 : decode b_M_repair 72 = .ok (.iastore, 1) := by decide +kernel
theorem d_M_repair_73 : decode b_M_repair 73 = .ok (.aload_n 0, 1) := by decide +kernel
theorem d_M_repair_74 : decode b_M_repair 74 = .ok (.getfield 48, 3) := by decide +kernel
theorem d_M_repair_77 : decode b_M_repair 77 = .ok (.aload_n 0, 1) := by decide +kernel
theorem d_M_repair_78 : decode b_M_repair 78 = .ok (.getfield 140, 3) := by decide +kernel
theorem d_M_repair_81 : decode b_M_repair 81 = .ok (.iload_n 2, 1) := by decide +kernel
theorem d_M_repair_82 : decode b_M_repair 82 = .ok (.iastore, 1) := by decide +kernel
theorem d_M_repair_83 : decode b_M_repair 83 = .ok (.aload_n 0, 1) := by decide +kernel
theorem d_M_repair_84 : decode b_M_repair 84 = .ok (.getfield 51, 3) := by decide +kernel
theorem d_M_repair_87 : decode b_M_repair 87 = .ok (.aload_n 0, 1) := by decide +kernel
theorem d_M_repair_88 : decode b_M_repair 88 = .ok (.getfield 140, 3) := by decide +kernel
theorem d_M_repair_91 : decode b_M_repair 91 = .ok (.iload_n 3, 1) := by decide +kernel
theorem d_M_repair_92 : decode b_M_repair 92 = .ok (.iastore, 1) := by decide +kernel
theorem d_M_repair_93 : decode b_M_repair 93 = .ok (.aload_n 0, 1) := by decide +kernel
theorem d_M_repair_94 : decode b_M_repair 94 = .ok (.getfield 54, 3) := by decide +kernel
theorem d_M_repair_97 : decode b_M_repair 97 = .ok (.aload_n 0, 1) := by decide +kernel
theorem d_M_repair_98 : decode b_M_repair 98 = .ok (.getfield 140, 3) := by decide +kernel
theorem d_M_repair_101 : decode b_M_repair 101 = .ok (.iload 4, 2) := by decide +kernel
theorem d_M_repair_103 : decode b_M_repair 103 = .ok (.iastore, 1) := by decide +kernel
theorem d_M_repair_104 : decode b_M_repair 104 = .ok (.aload_n 0, 1) := by decide +kernel
theorem d_M_repair_105 : decode b_M_repair 105 = .ok (.dup, 1) := by decide +kernel
theorem d_M_repair_106 : decode b_M_repair 106 = .ok (.getfield 140, 3) := by decide +kernel
theorem d_M_repair_109 : decode b_M_repair 109 = .ok (.iconst 1, 1) := by decide +kernel
theorem d_M_repair_110 : decode b_M_repair 110 = .ok (.iadd, 1) := by decide +kernel
theorem d_M_repair_111 : decode b_M_repair 111 = .ok (.putfield 140, 3) := by decide +kernel
theorem d_M_repair_114 : decode b_M_repair 114 = .ok (.aload_n 0, 1) := by decide +kernel
theorem d_M_repair_115 : decode b_M_repair 115 = .ok (.iconst 0, 1) := by decide +kernel
theorem d_M_repair_116 : decode b_M_repair 116 = .ok (.putfield 133, 3) := by decide +kernel
theorem d_M_repair_119 : decode b_M_repair 119 = .ok (.aload_n 0, 1) := by decide +kernel
theorem d_M_repair_120 : decode b_M_repair 120 = .ok (.getfield 140, 3) := by decide +kernel
theorem d_M_repair_123 : decode b_M_repair 123 = .ok (.iconst 1, 1) := by decide +kernel
theorem d_M_repair_124 : decode b_M_repair 124 = .ok (.isub, 1) := by decide +kernel
theorem d_M_repair_125 : decode b_M_repair 125 = .ok (.ireturn, 1) := by decide +kernel
theorem d_M_rules_0 : decode b_M_rules 0 = .ok (.aload_n 0, 1) := by decide +kernel
theorem d_M_rules_1 : decode b_M_rules 1 = .ok (.iload_n 1, 1) := by decide +kernel
theorem d_M_rules_2 : decode b_M_rules 2 = .ok (.iconst 0, 1) := by decide +kernel
theorem d_M_rules_3 : decode b_M_rules 3 = .ok (.bipush 24, 2) := by decide +kernel
theorem d_M_rules_5 : decode b_M_rules 5 = .ok (.invokestatic 94, 3) := by decide +kernel
theorem d_M_rules_8 : decode b_M_rules 8 = .ok (.ifCond .eq 17, 3) := by decide +kernel
theorem d_M_rules_11 : decode b_M_rules 11 = .ok (.iload_n 2, 1) := by decide +kernel
theorem d_M_rules_12 : decode b_M_rules 12 = .ok (.iconst 0, 1) := by decide +kernel
theorem d_M_rules_13 : decode b_M_rules 13 = .ok (.ldc 98, 2) := by decide +kernel
theorem d_M_rules_15 : decode b_M_rules 15 = .ok (.invokestatic 94, 3) := by decide +kernel
theorem d_M_rules_18 : decode b_M_rules 18 = .ok (.ifCond .eq 7, 3) := by decide +kernel
theorem d_M_rules_21 : decode b_M_rules 21 = .ok (.iconst 1, 1) := by decide +kernel
theorem d_M_rules_22 : decode b_M_rules 22 = .ok (.goto 4, 3) := by decide +kernel
theorem d_M_rules_25 : decode b_M_rules 25 = .ok (.iconst 0, 1) := by decide +kernel
theorem d_M_rules_26 : decode b_M_rules 26 = .ok (.iconst 1, 1) := by decide +kernel
theorem d_M_rules_27 : decode b_M_rules 27 = .ok (.iconst 1, 1) := by decide +kernel
theorem d_M_rules_28 : decode b_M_rules 28 = .ok (.invokevirtual 99, 3) := by decide +kernel
theorem d_M_rules_31 : decode b_M_rules 31 = .ok (.ifCond .ne 4, 3) := by decide +kernel
theorem d_M_rules_34 : decode b_M_rules 34 = .ok (.return_, 1) := by decide +kernel
theorem d_M_rules_35 : decode b_M_rules 35 = .ok (.aload_n 0, 1) := by decide +kernel
theorem d_M_rules_36 : decode b_M_rules 36 = .ok (.iload_n 1, 1) := by decide +kernel
theorem d_M_rules_37 : decode b_M_rules 37 = .ok (.putfield 57, 3) := by decide +kernel
theorem d_M_rules_40 : decode b_M_rules 40 = .ok (.aload_n 0, 1) := by decide +kernel
theorem d_M_rules_41 : decode b_M_rules 41 = .ok (.iload_n 2, 1) := by decide +kernel
theorem d_M_rules_42 : decode b_M_rules 42 = .ok (.putfield 61, 3) := by decide +kernel
theorem d_M_rules_45 : decode b_M_rules 45 = .ok (.aload_n 0, 1) := by decide +kernel
theorem d_M_rules_46 : decode b_M_rules 46 = .ok (.iconst 0, 1) := by decide +kernel
theorem d_M_rules_47 : decode b_M_rules 47 = .ok (.putfield 133, 3) := by decide +kernel
theorem d_M_rules_50 : decode b_M_rules 50 = .ok (.return_, 1) := by decide +kernel
theorem d_M_later_0 : decode b_M_later 0 = .ok (.iload_n 0, 1) := by decide +kernel
theorem d_M_later_1 : decode b_M_later 1 = .ok (.iload_n 1, 1) := by decide +kernel
theorem d_M_later_2 : decode b_M_later 2 = .ok (.if_icmp .le 7, 3) := by decide +kernel
theorem d_M_later_5 : decode b_M_later 5 = .ok (.iload_n 0, 1) := by decide +kernel
theorem d_M_later_6 : decode b_M_later 6 = .ok (.goto 4, 3) := by decide +kernel
theorem d_M_later_9 : decode b_M_later 9 = .ok (.iload_n 1, 1) := by decide +kernel
theorem d_M_later_10 : decode b_M_later 10 = .ok (.ireturn, 1) := by decide +kernel
theorem d_M_begins_0 : decode b_M_begins 0 = .ok (.aload_n 0, 1) := by decide +kernel
theorem d_M_begins_1 : decode b_M_begins 1 = .ok (.getfield 36, 3) := by decide +kernel
theorem d_M_begins_4 : decode b_M_begins 4 = .ok (.iload_n 3, 1) := by decide +kernel
theorem d_M_begins_5 : decode b_M_begins 5 = .ok (.iaload, 1) := by decide +kernel
theorem d_M_begins_6 : decode b_M_begins 6 = .ok (.aload_n 0, 1) := by decide +kernel
theorem d_M_begins_7 : decode b_M_begins 7 = .ok (.getfield 51, 3) := by decide +kernel
theorem d_M_begins_10 : decode b_M_begins 10 = .ok (.iload_n 1, 1) := by decide +kernel
theorem d_M_begins_11 : decode b_M_begins 11 = .ok (.iaload, 1) := by decide +kernel
theorem d_M_begins_12 : decode b_M_begins 12 = .ok (.if_icmp .eq 5, 3) := by decide +kernel
theorem d_M_begins_15 : decode b_M_begins 15 = .ok (.iconst (-1), 1) := by decide +kernel
theorem d_M_begins_16 : decode b_M_begins 16 = .ok (.ireturn, 1) := by decide +kernel
theorem d_M_begins_17 : decode b_M_begins 17 = .ok (.aload_n 0, 1) := by decide +kernel
theorem d_M_begins_18 : decode b_M_begins 18 = .ok (.getfield 30, 3) := by decide +kernel
theorem d_M_begins_21 : decode b_M_begins 21 = .ok (.iload_n 2, 1) := by decide +kernel
theorem d_M_begins_22 : decode b_M_begins 22 = .ok (.iaload, 1) := by decide +kernel
theorem d_M_begins_23 : decode b_M_begins 23 = .ok (.aload_n 0, 1) := by decide +kernel
theorem d_M_begins_24 : decode b_M_begins 24 = .ok (.getfield 39, 3) := by decide +kernel
theorem d_M_begins_27 : decode b_M_begins 27 = .ok (.iload_n 3, 1) := by decide +kernel
theorem d_M_begins_28 : decode b_M_begins 28 = .ok (.iaload, 1) := by decide +kernel
theorem d_M_begins_29 : decode b_M_begins 29 = .ok (.invokestatic 143, 3) := by decide +kernel
theorem d_M_begins_32 : decode b_M_begins 32 = .ok (.aload_n 0, 1) := by decide +kernel
theorem d_M_begins_33 : decode b_M_begins 33 = .ok (.getfield 73, 3) := by decide +kernel
theorem d_M_begins_36 : decode b_M_begins 36 = .ok (.iconst 4, 1) := by decide +kernel
theorem d_M_begins_37 : decode b_M_begins 37 = .ok (.iload_n 1, 1) := by decide +kernel
theorem d_M_begins_38 : decode b_M_begins 38 = .ok (.imul, 1) := by decide +kernel
theorem d_M_begins_39 : decode b_M_begins 39 = .ok (.iload_n 3, 1) := by decide +kernel
theorem d_M_begins_40 : decode b_M_begins 40 = .ok (.iadd, 1) := by decide +kernel
theorem d_M_begins_41 : decode b_M_begins 41 = .ok (.iaload, 1) := by decide +kernel
theorem d_M_begins_42 : decode b_M_begins 42 = .ok (.aload_n 0, 1) := by decide +kernel
theorem d_M_begins_43 : decode b_M_begins 43 = .ok (.getfield 76, 3) := by decide +kernel
theorem d_M_begins_46 : decode b_M_begins 46 = .ok (.bipush 8, 2) := by decide +kernel
theorem d_M_begins_48 : decode b_M_begins 48 = .ok (.iload_n 1, 1) := by decide +kernel
theorem d_M_begins_49 : decode b_M_begins 49 = .ok (.imul, 1) := by decide +kernel
theorem d_M_begins_50 : decode b_M_begins 50 = .ok (.aload_n 0, 1) := by decide +kernel
theorem d_M_begins_51 : decode b_M_begins 51 = .ok (.getfield 45, 3) := by decide +kernel
theorem d_M_begins_54 : decode b_M_begins 54 = .ok (.iload_n 1, 1) := by decide +kernel
theorem d_M_begins_55 : decode b_M_begins 55 = .ok (.iaload, 1) := by decide +kernel
theorem d_M_begins_56 : decode b_M_begins 56 = .ok (.iadd, 1) := by decide +kernel
theorem d_M_begins_57 : decode b_M_begins 57 = .ok (.iaload, 1) := by decide +kernel
theorem d_M_begins_58 : decode b_M_begins 58 = .ok (.invokestatic 143, 3) := by decide +kernel
theorem d_M_begins_61 : decode b_M_begins 61 = .ok (.invokestatic 143, 3) := by decide +kernel
theorem d_M_begins_64 : decode b_M_begins 64 = .ok (.istore 4, 2) := by decide +kernel
theorem d_M_begins_66 : decode b_M_begins 66 = .ok (.iload 4, 2) := by decide +kernel
theorem d_M_begins_68 : decode b_M_begins 68 = .ok (.aload_n 0, 1) := by decide +kernel
theorem d_M_begins_69 : decode b_M_begins 69 = .ok (.getfield 48, 3) := by decide +kernel
theorem d_M_begins_72 : decode b_M_begins 72 = .ok (.iload_n 1, 1) := by decide +kernel
theorem d_M_begins_73 : decode b_M_begins 73 = .ok (.iaload, 1) := by decide +kernel
theorem d_M_begins_74 : decode b_M_begins 74 = .ok (.iadd, 1) := by decide +kernel
theorem d_M_begins_75 : decode b_M_begins 75 = .ok (.aload_n 0, 1) := by decide +kernel
theorem d_M_begins_76 : decode b_M_begins 76 = .ok (.getfield 33, 3) := by decide +kernel
theorem d_M_begins_79 : decode b_M_begins 79 = .ok (.iload_n 2, 1) := by decide +kernel
theorem d_M_begins_80 : decode b_M_begins 80 = .ok (.iaload, 1) := by decide +kernel
theorem d_M_begins_81 : decode b_M_begins 81 = .ok (.if_icmp .gt 26, 3) := by decide +kernel
theorem d_M_begins_84 : decode b_M_begins 84 = .ok (.iload 4, 2) := by decide +kernel
theorem d_M_begins_86 : decode b_M_begins 86 = .ok (.aload_n 0, 1) := by decide +kernel
theorem d_M_begins_87 : decode b_M_begins 87 = .ok (.getfield 48, 3) := by decide +kernel
theorem d_M_begins_90 : decode b_M_begins 90 = .ok (.iload_n 1, 1) := by decide +kernel
theorem d_M_begins_91 : decode b_M_begins 91 = .ok (.iaload, 1) := by decide +kernel
theorem d_M_begins_92 : decode b_M_begins 92 = .ok (.iadd, 1) := by decide +kernel
theorem d_M_begins_93 : decode b_M_begins 93 = .ok (.aload_n 0, 1) := by decide +kernel
theorem d_M_begins_94 : decode b_M_begins 94 = .ok (.getfield 42, 3) := by decide +kernel
theorem d_M_begins_97 : decode b_M_begins 97 = .ok (.iload_n 3, 1) := by decide +kernel
theorem d_M_begins_98 : decode b_M_begins 98 = .ok (.iaload, 1) := by decide +kernel
theorem d_M_begins_99 : decode b_M_begins 99 = .ok (.if_icmp .gt 8, 3) := by decide +kernel
theorem d_M_begins_102 : decode b_M_begins 102 = .ok (.iload 4, 2) := by decide +kernel
theorem d_M_begins_104 : decode b_M_begins 104 = .ok (.goto 4, 3) := by decide +kernel
theorem d_M_begins_107 : decode b_M_begins 107 = .ok (.iconst (-1), 1) := by decide +kernel
theorem d_M_begins_108 : decode b_M_begins 108 = .ok (.ireturn, 1) := by decide +kernel
theorem d_M_take_0 : decode b_M_take 0 = .ok (.iconst 0, 1) := by decide +kernel
theorem d_M_take_1 : decode b_M_take 1 = .ok (.istore_n 2, 1) := by decide +kernel
theorem d_M_take_2 : decode b_M_take 2 = .ok (.iload_n 2, 1) := by decide +kernel
theorem d_M_take_3 : decode b_M_take 3 = .ok (.iconst 4, 1) := by decide +kernel
theorem d_M_take_4 : decode b_M_take 4 = .ok (.if_icmp .ge 31, 3) := by decide +kernel
theorem d_M_take_7 : decode b_M_take 7 = .ok (.aload_n 0, 1) := by decide +kernel
theorem d_M_take_8 : decode b_M_take 8 = .ok (.getfield 73, 3) := by decide +kernel
theorem d_M_take_11 : decode b_M_take 11 = .ok (.iconst 4, 1) := by decide +kernel
theorem d_M_take_12 : decode b_M_take 12 = .ok (.iload_n 1, 1) := by decide +kernel
theorem d_M_take_13 : decode b_M_take 13 = .ok (.iconst 1, 1) := by decide +kernel
theorem d_M_take_14 : decode b_M_take 14 = .ok (.iadd, 1) := by decide +kernel
theorem d_M_take_15 : decode b_M_take 15 = .ok (.imul, 1) := by decide +kernel
theorem d_M_take_16 : decode b_M_take 16 = .ok (.iload_n 2, 1) := by decide +kernel
theorem d_M_take_17 : decode b_M_take 17 = .ok (.iadd, 1) := by decide +kernel
theorem d_M_take_18 : decode b_M_take 18 = .ok (.aload_n 0, 1) := by decide +kernel
theorem d_M_take_19 : decode b_M_take 19 = .ok (.getfield 73, 3) := by decide +kernel
theorem d_M_take_22 : decode b_M_take 22 = .ok (.iconst 4, 1) := by decide +kernel
theorem d_M_take_23 : decode b_M_take 23 = .ok (.iload_n 1, 1) := by decide +kernel
theorem d_M_take_24 : decode b_M_take 24 = .ok (.imul, 1) := by decide +kernel
theorem d_M_take_25 : decode b_M_take 25 = .ok (.iload_n 2, 1) := by decide +kernel
theorem d_M_take_26 : decode b_M_take 26 = .ok (.iadd, 1) := by decide +kernel
theorem d_M_take_27 : decode b_M_take 27 = .ok (.iaload, 1) := by decide +kernel
theorem d_M_take_28 : decode b_M_take 28 = .ok (.iastore, 1) := by decide +kernel
theorem d_M_take_29 : decode b_M_take 29 = .ok (.iinc 2 1, 3) := by decide +kernel
theorem d_M_take_32 : decode b_M_take 32 = .ok (.goto (-30), 3) := by decide +kernel
theorem d_M_take_35 : decode b_M_take 35 = .ok (.iconst 0, 1) := by decide +kernel
theorem d_M_take_36 : decode b_M_take 36 = .ok (.istore_n 2, 1) := by decide +kernel
theorem d_M_take_37 : decode b_M_take 37 = .ok (.iload_n 2, 1) := by decide +kernel
theorem d_M_take_38 : decode b_M_take 38 = .ok (.bipush 8, 2) := by decide +kernel
theorem d_M_take_40 : decode b_M_take 40 = .ok (.if_icmp .ge 33, 3) := by decide +kernel
theorem d_M_take_43 : decode b_M_take 43 = .ok (.aload_n 0, 1) := by decide +kernel
theorem d_M_take_44 : decode b_M_take 44 = .ok (.getfield 76, 3) := by decide +kernel
theorem d_M_take_47 : decode b_M_take 47 = .ok (.bipush 8, 2) := by decide +kernel
theorem d_M_take_49 : decode b_M_take 49 = .ok (.iload_n 1, 1) := by decide +kernel
theorem d_M_take_50 : decode b_M_take 50 = .ok (.iconst 1, 1) := by decide +kernel
theorem d_M_take_51 : decode b_M_take 51 = .ok (.iadd, 1) := by decide +kernel
theorem d_M_take_52 : decode b_M_take 52 = .ok (.imul, 1) := by decide +kernel
theorem d_M_take_53 : decode b_M_take 53 = .ok (.iload_n 2, 1) := by decide +kernel
theorem d_M_take_54 : decode b_M_take 54 = .ok (.iadd, 1) := by decide +kernel
theorem d_M_take_55 : decode b_M_take 55 = .ok (.aload_n 0, 1) := by decide +kernel
theorem d_M_take_56 : decode b_M_take 56 = .ok (.getfield 76, 3) := by decide +kernel
theorem d_M_take_59 : decode b_M_take 59 = .ok (.bipush 8, 2) := by decide +kernel
theorem d_M_take_61 : decode b_M_take 61 = .ok (.iload_n 1, 1) := by decide +kernel
theorem d_M_take_62 : decode b_M_take 62 = .ok (.imul, 1) := by decide +kernel
theorem d_M_take_63 : decode b_M_take 63 = .ok (.iload_n 2, 1) := by decide +kernel
theorem d_M_take_64 : decode b_M_take 64 = .ok (.iadd, 1) := by decide +kernel
theorem d_M_take_65 : decode b_M_take 65 = .ok (.iaload, 1) := by decide +kernel
theorem d_M_take_66 : decode b_M_take 66 = .ok (.iastore, 1) := by decide +kernel
theorem d_M_take_67 : decode b_M_take 67 = .ok (.iinc 2 1, 3) := by decide +kernel
theorem d_M_take_70 : decode b_M_take 70 = .ok (.goto (-33), 3) := by decide +kernel
theorem d_M_take_73 : decode b_M_take 73 = .ok (.aload_n 0, 1) := by decide +kernel
theorem d_M_take_74 : decode b_M_take 74 = .ok (.getfield 85, 3) := by decide +kernel
theorem d_M_take_77 : decode b_M_take 77 = .ok (.iload_n 1, 1) := by decide +kernel
theorem d_M_take_78 : decode b_M_take 78 = .ok (.iaload, 1) := by decide +kernel
theorem d_M_take_79 : decode b_M_take 79 = .ok (.ifCond .ge 34, 3) := by decide +kernel
theorem d_M_take_82 : decode b_M_take 82 = .ok (.aload_n 0, 1) := by decide +kernel
theorem d_M_take_83 : decode b_M_take 83 = .ok (.getfield 79, 3) := by decide +kernel
theorem d_M_take_86 : decode b_M_take 86 = .ok (.iload_n 1, 1) := by decide +kernel
theorem d_M_take_87 : decode b_M_take 87 = .ok (.iconst 1, 1) := by decide +kernel
theorem d_M_take_88 : decode b_M_take 88 = .ok (.iadd, 1) := by decide +kernel
theorem d_M_take_89 : decode b_M_take 89 = .ok (.aload_n 0, 1) := by decide +kernel
theorem d_M_take_90 : decode b_M_take 90 = .ok (.getfield 79, 3) := by decide +kernel
theorem d_M_take_93 : decode b_M_take 93 = .ok (.iload_n 1, 1) := by decide +kernel
theorem d_M_take_94 : decode b_M_take 94 = .ok (.iaload, 1) := by decide +kernel
theorem d_M_take_95 : decode b_M_take 95 = .ok (.sipush 168, 3) := by decide +kernel
theorem d_M_take_98 : decode b_M_take 98 = .ok (.aload_n 0, 1) := by decide +kernel
theorem d_M_take_99 : decode b_M_take 99 = .ok (.getfield 54, 3) := by decide +kernel
theorem d_M_take_102 : decode b_M_take 102 = .ok (.iload_n 1, 1) := by decide +kernel
theorem d_M_take_103 : decode b_M_take 103 = .ok (.iaload, 1) := by decide +kernel
theorem d_M_take_104 : decode b_M_take 104 = .ok (.imul, 1) := by decide +kernel
theorem d_M_take_105 : decode b_M_take 105 = .ok (.iadd, 1) := by decide +kernel
theorem d_M_take_106 : decode b_M_take 106 = .ok (.aload_n 0, 1) := by decide +kernel
theorem d_M_take_107 : decode b_M_take 107 = .ok (.getfield 61, 3) := by decide +kernel
theorem d_M_take_110 : decode b_M_take 110 = .ok (.iadd, 1) := by decide +kernel
theorem d_M_take_111 : decode b_M_take 111 = .ok (.iastore, 1) := by decide +kernel
theorem d_M_take_112 : decode b_M_take 112 = .ok (.return_, 1) := by decide +kernel
theorem d_M_take_113 : decode b_M_take 113 = .ok (.aload_n 0, 1) := by decide +kernel
theorem d_M_take_114 : decode b_M_take 114 = .ok (.getfield 79, 3) := by decide +kernel
theorem d_M_take_117 : decode b_M_take 117 = .ok (.iload_n 1, 1) := by decide +kernel
theorem d_M_take_118 : decode b_M_take 118 = .ok (.iconst 1, 1) := by decide +kernel
theorem d_M_take_119 : decode b_M_take 119 = .ok (.iadd, 1) := by decide +kernel
theorem d_M_take_120 : decode b_M_take 120 = .ok (.aload_n 0, 1) := by decide +kernel
theorem d_M_take_121 : decode b_M_take 121 = .ok (.getfield 79, 3) := by decide +kernel
theorem d_M_take_124 : decode b_M_take 124 = .ok (.iload_n 1, 1) := by decide +kernel
theorem d_M_take_125 : decode b_M_take 125 = .ok (.iaload, 1) := by decide +kernel
theorem d_M_take_126 : decode b_M_take 126 = .ok (.aload_n 0, 1) := by decide +kernel
theorem d_M_take_127 : decode b_M_take 127 = .ok (.getfield 85, 3) := by decide +kernel
theorem d_M_take_130 : decode b_M_take 130 = .ok (.iload_n 1, 1) := by decide +kernel
theorem d_M_take_131 : decode b_M_take 131 = .ok (.iaload, 1) := by decide +kernel
theorem d_M_take_132 : decode b_M_take 132 = .ok (.aload_n 0, 1) := by decide +kernel
theorem d_M_take_133 : decode b_M_take 133 = .ok (.getfield 54, 3) := by decide +kernel
theorem d_M_take_136 : decode b_M_take 136 = .ok (.iload_n 1, 1) := by decide +kernel
theorem d_M_take_137 : decode b_M_take 137 = .ok (.iaload, 1) := by decide +kernel
theorem d_M_take_138 : decode b_M_take 138 = .ok (.imul, 1) := by decide +kernel
theorem d_M_take_139 : decode b_M_take 139 = .ok (.iadd, 1) := by decide +kernel
theorem d_M_take_140 : decode b_M_take 140 = .ok (.iastore, 1) := by decide +kernel
theorem d_M_take_141 : decode b_M_take 141 = .ok (.aload_n 0, 1) := by decide +kernel
theorem d_M_take_142 : decode b_M_take 142 = .ok (.getfield 73, 3) := by decide +kernel
theorem d_M_take_145 : decode b_M_take 145 = .ok (.iconst 4, 1) := by decide +kernel
theorem d_M_take_146 : decode b_M_take 146 = .ok (.iload_n 1, 1) := by decide +kernel
theorem d_M_take_147 : decode b_M_take 147 = .ok (.iconst 1, 1) := by decide +kernel
theorem d_M_take_148 : decode b_M_take 148 = .ok (.iadd, 1) := by decide +kernel
theorem d_M_take_149 : decode b_M_take 149 = .ok (.imul, 1) := by decide +kernel
theorem d_M_take_150 : decode b_M_take 150 = .ok (.aload_n 0, 1) := by decide +kernel
theorem d_M_take_151 : decode b_M_take 151 = .ok (.getfield 82, 3) := by decide +kernel
theorem d_M_take_154 : decode b_M_take 154 = .ok (.iload_n 1, 1) := by decide +kernel
theorem d_M_take_155 : decode b_M_take 155 = .ok (.iaload, 1) := by decide +kernel
theorem d_M_take_156 : decode b_M_take 156 = .ok (.aload_n 0, 1) := by decide +kernel
theorem d_M_take_157 : decode b_M_take 157 = .ok (.getfield 137, 3) := by decide +kernel
theorem d_M_take_160 : decode b_M_take 160 = .ok (.irem, 1) := by decide +kernel
theorem d_M_take_161 : decode b_M_take 161 = .ok (.iadd, 1) := by decide +kernel
theorem d_M_take_162 : decode b_M_take 162 = .ok (.aload_n 0, 1) := by decide +kernel
theorem d_M_take_163 : decode b_M_take 163 = .ok (.getfield 85, 3) := by decide +kernel
theorem d_M_take_166 : decode b_M_take 166 = .ok (.iload_n 1, 1) := by decide +kernel
theorem d_M_take_167 : decode b_M_take 167 = .ok (.iaload, 1) := by decide +kernel
theorem d_M_take_168 : decode b_M_take 168 = .ok (.aload_n 0, 1) := by decide +kernel
theorem d_M_take_169 : decode b_M_take 169 = .ok (.getfield 48, 3) := by decide +kernel
theorem d_M_take_172 : decode b_M_take 172 = .ok (.iload_n 1, 1) := by decide +kernel
theorem d_M_take_173 : decode b_M_take 173 = .ok (.iaload, 1) := by decide +kernel
theorem d_M_take_174 : decode b_M_take 174 = .ok (.iadd, 1) := by decide +kernel
theorem d_M_take_175 : decode b_M_take 175 = .ok (.aload_n 0, 1) := by decide +kernel
theorem d_M_take_176 : decode b_M_take 176 = .ok (.getfield 57, 3) := by decide +kernel
theorem d_M_take_179 : decode b_M_take 179 = .ok (.iadd, 1) := by decide +kernel
theorem d_M_take_180 : decode b_M_take 180 = .ok (.iastore, 1) := by decide +kernel
theorem d_M_take_181 : decode b_M_take 181 = .ok (.aload_n 0, 1) := by decide +kernel
theorem d_M_take_182 : decode b_M_take 182 = .ok (.getfield 76, 3) := by decide +kernel
theorem d_M_take_185 : decode b_M_take 185 = .ok (.bipush 8, 2) := by decide +kernel
theorem d_M_take_187 : decode b_M_take 187 = .ok (.iload_n 1, 1) := by decide +kernel
theorem d_M_take_188 : decode b_M_take 188 = .ok (.iconst 1, 1) := by decide +kernel
theorem d_M_take_189 : decode b_M_take 189 = .ok (.iadd, 1) := by decide +kernel
theorem d_M_take_190 : decode b_M_take 190 = .ok (.imul, 1) := by decide +kernel
theorem d_M_take_191 : decode b_M_take 191 = .ok (.aload_n 0, 1) := by decide +kernel
theorem d_M_take_192 : decode b_M_take 192 = .ok (.getfield 45, 3) := by decide +kernel
theorem d_M_take_195 : decode b_M_take 195 = .ok (.iload_n 1, 1) := by decide +kernel
theorem d_M_take_196 : decode b_M_take 196 = .ok (.iaload, 1) := by decide +kernel
theorem d_M_take_197 : decode b_M_take 197 = .ok (.iadd, 1) := by decide +kernel
theorem d_M_take_198 : decode b_M_take 198 = .ok (.aload_n 0, 1) := by decide +kernel
theorem d_M_take_199 : decode b_M_take 199 = .ok (.getfield 85, 3) := by decide +kernel
theorem d_M_take_202 : decode b_M_take 202 = .ok (.iload_n 1, 1) := by decide +kernel
theorem d_M_take_203 : decode b_M_take 203 = .ok (.iaload, 1) := by decide +kernel
theorem d_M_take_204 : decode b_M_take 204 = .ok (.aload_n 0, 1) := by decide +kernel
theorem d_M_take_205 : decode b_M_take 205 = .ok (.getfield 48, 3) := by decide +kernel
theorem d_M_take_208 : decode b_M_take 208 = .ok (.iload_n 1, 1) := by decide +kernel
theorem d_M_take_209 : decode b_M_take 209 = .ok (.iaload, 1) := by decide +kernel
theorem d_M_take_210 : decode b_M_take 210 = .ok (.iadd, 1) := by decide +kernel
theorem d_M_take_211 : decode b_M_take 211 = .ok (.iastore, 1) := by decide +kernel
theorem d_M_take_212 : decode b_M_take 212 = .ok (.return_, 1) := by decide +kernel
theorem d_M_plan_0 : decode b_M_plan 0 = .ok (.aload_n 0, 1) := by decide +kernel
theorem d_M_plan_1 : decode b_M_plan 1 = .ok (.iconst 0, 1) := by decide +kernel
theorem d_M_plan_2 : decode b_M_plan 2 = .ok (.putfield 88, 3) := by decide +kernel
theorem d_M_plan_5 : decode b_M_plan 5 = .ok (.aload_n 0, 1) := by decide +kernel
theorem d_M_plan_6 : decode b_M_plan 6 = .ok (.iconst 0, 1) := by decide +kernel
theorem d_M_plan_7 : decode b_M_plan 7 = .ok (.putfield 133, 3) := by decide +kernel
theorem d_M_plan_10 : decode b_M_plan 10 = .ok (.iconst 0, 1) := by decide +kernel
theorem d_M_plan_11 : decode b_M_plan 11 = .ok (.istore_n 1, 1) := by decide +kernel
theorem d_M_plan_12 : decode b_M_plan 12 = .ok (.iload_n 1, 1) := by decide +kernel
theorem d_M_plan_13 : decode b_M_plan 13 = .ok (.iconst 4, 1) := by decide +kernel
theorem d_M_plan_14 : decode b_M_plan 14 = .ok (.if_icmp .ge 16, 3) := by decide +kernel
theorem d_M_plan_17 : decode b_M_plan 17 = .ok (.aload_n 0, 1) := by decide +kernel
theorem d_M_plan_18 : decode b_M_plan 18 = .ok (.getfield 73, 3) := by decide +kernel
theorem d_M_plan_21 : decode b_M_plan 21 = .ok (.iload_n 1, 1) := by decide +kernel
theorem d_M_plan_22 : decode b_M_plan 22 = .ok (.iconst 0, 1) := by decide +kernel
theorem d_M_plan_23 : decode b_M_plan 23 = .ok (.iastore, 1) := by decide +kernel
theorem d_M_plan_24 : decode b_M_plan 24 = .ok (.iinc 1 1, 3) := by decide +kernel
theorem d_M_plan_27 : decode b_M_plan 27 = .ok (.goto (-15), 3) := by decide +kernel
theorem d_M_plan_30 : decode b_M_plan 30 = .ok (.iconst 0, 1) := by decide +kernel
theorem d_M_plan_31 : decode b_M_plan 31 = .ok (.istore_n 1, 1) := by decide +kernel
theorem d_M_plan_32 : decode b_M_plan 32 = .ok (.iload_n 1, 1) := by decide +kernel
theorem d_M_plan_33 : decode b_M_plan 33 = .ok (.bipush 8, 2) := by decide +kernel
theorem d_M_plan_35 : decode b_M_plan 35 = .ok (.if_icmp .ge 16, 3) := by decide +kernel
theorem d_M_plan_38 : decode b_M_plan 38 = .ok (.aload_n 0, 1) := by decide +kernel
theorem d_M_plan_39 : decode b_M_plan 39 = .ok (.getfield 76, 3) := by decide +kernel
theorem d_M_plan_42 : decode b_M_plan 42 = .ok (.iload_n 1, 1) := by decide +kernel
theorem d_M_plan_43 : decode b_M_plan 43 = .ok (.iconst 0, 1) := by decide +kernel
theorem d_M_plan_44 : decode b_M_plan 44 = .ok (.iastore, 1) := by decide +kernel
theorem d_M_plan_45 : decode b_M_plan 45 = .ok (.iinc 1 1, 3) := by decide +kernel
theorem d_M_plan_48 : decode b_M_plan 48 = .ok (.goto (-16), 3) := by decide +kernel
theorem d_M_plan_51 : decode b_M_plan 51 = .ok (.aload_n 0, 1) := by decide +kernel
theorem d_M_plan_52 : decode b_M_plan 52 = .ok (.getfield 79, 3) := by decide +kernel
theorem d_M_plan_55 : decode b_M_plan 55 = .ok (.iconst 0, 1) := by decide +kernel
theorem d_M_plan_56 : decode b_M_plan 56 = .ok (.iconst 0, 1) := by decide +kernel
theorem d_M_plan_57 : decode b_M_plan 57 = .ok (.iastore, 1) := by decide +kernel
theorem d_M_plan_58 : decode b_M_plan 58 = .ok (.aload_n 0, 1) := by decide +kernel
theorem d_M_plan_59 : decode b_M_plan 59 = .ok (.getfield 82, 3) := by decide +kernel
theorem d_M_plan_62 : decode b_M_plan 62 = .ok (.iconst 0, 1) := by decide +kernel
theorem d_M_plan_63 : decode b_M_plan 63 = .ok (.iconst 0, 1) := by decide +kernel
theorem d_M_plan_64 : decode b_M_plan 64 = .ok (.iastore, 1) := by decide +kernel
theorem d_M_plan_65 : decode b_M_plan 65 = .ok (.aload_n 0, 1) := by decide +kernel
theorem d_M_plan_66 : decode b_M_plan 66 = .ok (.getfield 130, 3) := by decide +kernel
theorem d_M_plan_69 : decode b_M_plan 69 = .ok (.aload_n 0, 1) := by decide +kernel
theorem d_M_plan_70 : decode b_M_plan 70 = .ok (.getfield 137, 3) := by decide +kernel
theorem d_M_plan_73 : decode b_M_plan 73 = .ok (.imul, 1) := by decide +kernel
theorem d_M_plan_74 : decode b_M_plan 74 = .ok (.istore_n 1, 1) := by decide +kernel
theorem d_M_plan_75 : decode b_M_plan 75 = .ok (.iconst 0, 1) := by decide +kernel
theorem d_M_plan_76 : decode b_M_plan 76 = .ok (.istore_n 2, 1) := by decide +kernel
theorem d_M_plan_77 : decode b_M_plan 77 = .ok (.iload_n 2, 1) := by decide +kernel
theorem d_M_plan_78 : decode b_M_plan 78 = .ok (.ifCond .lt 205, 3) := by decide +kernel
theorem d_M_plan_81 : decode b_M_plan 81 = .ok (.iload_n 2, 1) := by decide +kernel
theorem d_M_plan_82 : decode b_M_plan 82 = .ok (.aload_n 0, 1) := by decide +kernel
theorem d_M_plan_83 : decode b_M_plan 83 = .ok (.getfield 140, 3) := by decide +kernel
theorem d_M_plan_86 : decode b_M_plan 86 = .ok (.if_icmp .eq 13, 3) := by decide +kernel
theorem d_M_plan_89 : decode b_M_plan 89 = .ok (.aload_n 0, 1) := by decide +kernel
theorem d_M_plan_90 : decode b_M_plan 90 = .ok (.getfield 82, 3) := by decide +kernel
theorem d_M_plan_93 : decode b_M_plan 93 = .ok (.iload_n 2, 1) := by decide +kernel
theorem d_M_plan_94 : decode b_M_plan 94 = .ok (.iaload, 1) := by decide +kernel
theorem d_M_plan_95 : decode b_M_plan 95 = .ok (.iload_n 1, 1) := by decide +kernel
theorem d_M_plan_96 : decode b_M_plan 96 = .ok (.if_icmp .le 55, 3) := by decide +kernel
theorem d_M_plan_99 : decode b_M_plan 99 = .ok (.iload_n 2, 1) := by decide +kernel
theorem d_M_plan_100 : decode b_M_plan 100 = .ok (.aload_n 0, 1) := by decide +kernel
theorem d_M_plan_101 : decode b_M_plan 101 = .ok (.getfield 140, 3) := by decide +kernel
theorem d_M_plan_104 : decode b_M_plan 104 = .ok (.if_icmp .ne 27, 3) := by decide +kernel
theorem d_M_plan_107 : decode b_M_plan 107 = .ok (.aload_n 0, 1) := by decide +kernel
theorem d_M_plan_108 : decode b_M_plan 108 = .ok (.getfield 133, 3) := by decide +kernel
theorem d_M_plan_111 : decode b_M_plan 111 = .ok (.ifCond .eq 16, 3) := by decide +kernel
theorem d_M_plan_114 : decode b_M_plan 114 = .ok (.aload_n 0, 1) := by decide +kernel
theorem d_M_plan_115 : decode b_M_plan 115 = .ok (.getfield 79, 3) := by decide +kernel
theorem d_M_plan_118 : decode b_M_plan 118 = .ok (.iload_n 2, 1) := by decide +kernel
theorem d_M_plan_119 : decode b_M_plan 119 = .ok (.iaload, 1) := by decide +kernel
theorem d_M_plan_120 : decode b_M_plan 120 = .ok (.aload_n 0, 1) := by decide +kernel
theorem d_M_plan_121 : decode b_M_plan 121 = .ok (.getfield 147, 3) := by decide +kernel
theorem d_M_plan_124 : decode b_M_plan 124 = .ok (.if_icmp .ge 7, 3) := by decide +kernel
theorem d_M_plan_127 : decode b_M_plan 127 = .ok (.aload_n 0, 1) := by decide +kernel
theorem d_M_plan_128 : decode b_M_plan 128 = .ok (.invokevirtual 150, 3) := by decide +kernel
theorem d_M_plan_131 : decode b_M_plan 131 = .ok (.iinc 2 (-1), 3) := by decide +kernel
theorem d_M_plan_134 : decode b_M_plan 134 = .ok (.iload_n 2, 1) := by decide +kernel
theorem d_M_plan_135 : decode b_M_plan 135 = .ok (.ifCond .lt (-58), 3) := by decide +kernel
theorem d_M_plan_138 : decode b_M_plan 138 = .ok (.aload_n 0, 1) := by decide +kernel
theorem d_M_plan_139 : decode b_M_plan 139 = .ok (.getfield 82, 3) := by decide +kernel
theorem d_M_plan_142 : decode b_M_plan 142 = .ok (.iload_n 2, 1) := by decide +kernel
theorem d_M_plan_143 : decode b_M_plan 143 = .ok (.dup2, 1) := by decide +kernel
theorem d_M_plan_144 : decode b_M_plan 144 = .ok (.iaload, 1) := by decide +kernel
theorem d_M_plan_145 : decode b_M_plan 145 = .ok (.iconst 1, 1) := by decide +kernel
theorem d_M_plan_146 : decode b_M_plan 146 = .ok (.iadd, 1) := by decide +kernel
theorem d_M_plan_147 : decode b_M_plan 147 = .ok (.iastore, 1) := by decide +kernel
theorem d_M_plan_148 : decode b_M_plan 148 = .ok (.goto (-71), 3) := by decide +kernel
theorem d_M_plan_151 : decode b_M_plan 151 = .ok (.aload_n 0, 1) := by decide +kernel
theorem d_M_plan_152 : decode b_M_plan 152 = .ok (.getfield 85, 3) := by decide +kernel
theorem d_M_plan_155 : decode b_M_plan 155 = .ok (.iload_n 2, 1) := by decide +kernel
theorem d_M_plan_156 : decode b_M_plan 156 = .ok (.aload_n 0, 1) := by decide +kernel
theorem d_M_plan_157 : decode b_M_plan 157 = .ok (.getfield 82, 3) := by decide +kernel
theorem d_M_plan_160 : decode b_M_plan 160 = .ok (.iload_n 2, 1) := by decide +kernel
theorem d_M_plan_161 : decode b_M_plan 161 = .ok (.iaload, 1) := by decide +kernel
theorem d_M_plan_162 : decode b_M_plan 162 = .ok (.iload_n 1, 1) := by decide +kernel
theorem d_M_plan_163 : decode b_M_plan 163 = .ok (.if_icmp .ne 7, 3) := by decide +kernel
theorem d_M_plan_166 : decode b_M_plan 166 = .ok (.iconst (-1), 1) := by decide +kernel
theorem d_M_plan_167 : decode b_M_plan 167 = .ok (.goto 30, 3) := by decide +kernel
theorem d_M_plan_170 : decode b_M_plan 170 = .ok (.aload_n 0, 1) := by decide +kernel
theorem d_M_plan_171 : decode b_M_plan 171 = .ok (.iload_n 2, 1) := by decide +kernel
theorem d_M_plan_172 : decode b_M_plan 172 = .ok (.aload_n 0, 1) := by decide +kernel
theorem d_M_plan_173 : decode b_M_plan 173 = .ok (.getfield 82, 3) := by decide +kernel
theorem d_M_plan_176 : decode b_M_plan 176 = .ok (.iload_n 2, 1) := by decide +kernel
theorem d_M_plan_177 : decode b_M_plan 177 = .ok (.iaload, 1) := by decide +kernel
theorem d_M_plan_178 : decode b_M_plan 178 = .ok (.aload_n 0, 1) := by decide +kernel
theorem d_M_plan_179 : decode b_M_plan 179 = .ok (.getfield 137, 3) := by decide +kernel
theorem d_M_plan_182 : decode b_M_plan 182 = .ok (.idiv, 1) := by decide +kernel
theorem d_M_plan_183 : decode b_M_plan 183 = .ok (.aload_n 0, 1) := by decide +kernel
theorem d_M_plan_184 : decode b_M_plan 184 = .ok (.getfield 82, 3) := by decide +kernel
theorem d_M_plan_187 : decode b_M_plan 187 = .ok (.iload_n 2, 1) := by decide +kernel
theorem d_M_plan_188 : decode b_M_plan 188 = .ok (.iaload, 1) := by decide +kernel
theorem d_M_plan_189 : decode b_M_plan 189 = .ok (.aload_n 0, 1) := by decide +kernel
theorem d_M_plan_190 : decode b_M_plan 190 = .ok (.getfield 137, 3) := by decide +kernel
theorem d_M_plan_193 : decode b_M_plan 193 = .ok (.irem, 1) := by decide +kernel
theorem d_M_plan_194 : decode b_M_plan 194 = .ok (.invokevirtual 153, 3) := by decide +kernel
theorem d_M_plan_197 : decode b_M_plan 197 = .ok (.iastore, 1) := by decide +kernel
theorem d_M_plan_198 : decode b_M_plan 198 = .ok (.aload_n 0, 1) := by decide +kernel
theorem d_M_plan_199 : decode b_M_plan 199 = .ok (.getfield 82, 3) := by decide +kernel
theorem d_M_plan_202 : decode b_M_plan 202 = .ok (.iload_n 2, 1) := by decide +kernel
theorem d_M_plan_203 : decode b_M_plan 203 = .ok (.iaload, 1) := by decide +kernel
theorem d_M_plan_204 : decode b_M_plan 204 = .ok (.iload_n 1, 1) := by decide +kernel
theorem d_M_plan_205 : decode b_M_plan 205 = .ok (.if_icmp .ge 25, 3) := by decide +kernel
theorem d_M_plan_208 : decode b_M_plan 208 = .ok (.aload_n 0, 1) := by decide +kernel
theorem d_M_plan_209 : decode b_M_plan 209 = .ok (.getfield 85, 3) := by decide +kernel
theorem d_M_plan_212 : decode b_M_plan 212 = .ok (.iload_n 2, 1) := by decide +kernel
theorem d_M_plan_213 : decode b_M_plan 213 = .ok (.iaload, 1) := by decide +kernel
theorem d_M_plan_214 : decode b_M_plan 214 = .ok (.ifCond .ge 16, 3) := by decide +kernel
theorem d_M_plan_217 : decode b_M_plan 217 = .ok (.aload_n 0, 1) := by decide +kernel
theorem d_M_plan_218 : decode b_M_plan 218 = .ok (.getfield 82, 3) := by decide +kernel
theorem d_M_plan_221 : decode b_M_plan 221 = .ok (.iload_n 2, 1) := by decide +kernel
theorem d_M_plan_222 : decode b_M_plan 222 = .ok (.dup2, 1) := by decide +kernel
theorem d_M_plan_223 : decode b_M_plan 223 = .ok (.iaload, 1) := by decide +kernel
theorem d_M_plan_224 : decode b_M_plan 224 = .ok (.iconst 1, 1) := by decide +kernel
theorem d_M_plan_225 : decode b_M_plan 225 = .ok (.iadd, 1) := by decide +kernel
theorem d_M_plan_226 : decode b_M_plan 226 = .ok (.iastore, 1) := by decide +kernel
theorem d_M_plan_227 : decode b_M_plan 227 = .ok (.goto (-150), 3) := by decide +kernel
theorem d_M_plan_230 : decode b_M_plan 230 = .ok (.aload_n 0, 1) := by decide +kernel
theorem d_M_plan_231 : decode b_M_plan 231 = .ok (.iload_n 2, 1) := by decide +kernel
theorem d_M_plan_232 : decode b_M_plan 232 = .ok (.invokevirtual 157, 3) := by decide +kernel
theorem d_M_plan_235 : decode b_M_plan 235 = .ok (.aload_n 0, 1) := by decide +kernel
theorem d_M_plan_236 : decode b_M_plan 236 = .ok (.getfield 133, 3) := by decide +kernel
theorem d_M_plan_239 : decode b_M_plan 239 = .ok (.ifCond .eq 31, 3) := by decide +kernel
theorem d_M_plan_242 : decode b_M_plan 242 = .ok (.aload_n 0, 1) := by decide +kernel
theorem d_M_plan_243 : decode b_M_plan 243 = .ok (.getfield 79, 3) := by decide +kernel
theorem d_M_plan_246 : decode b_M_plan 246 = .ok (.iload_n 2, 1) := by decide +kernel
theorem d_M_plan_247 : decode b_M_plan 247 = .ok (.iconst 1, 1) := by decide +kernel
theorem d_M_plan_248 : decode b_M_plan 248 = .ok (.iadd, 1) := by decide +kernel
theorem d_M_plan_249 : decode b_M_plan 249 = .ok (.iaload, 1) := by decide +kernel
theorem d_M_plan_250 : decode b_M_plan 250 = .ok (.aload_n 0, 1) := by decide +kernel
theorem d_M_plan_251 : decode b_M_plan 251 = .ok (.getfield 147, 3) := by decide +kernel
theorem d_M_plan_254 : decode b_M_plan 254 = .ok (.if_icmp .lt 16, 3) := by decide +kernel
theorem d_M_plan_257 : decode b_M_plan 257 = .ok (.aload_n 0, 1) := by decide +kernel
theorem d_M_plan_258 : decode b_M_plan 258 = .ok (.getfield 82, 3) := by decide +kernel
theorem d_M_plan_261 : decode b_M_plan 261 = .ok (.iload_n 2, 1) := by decide +kernel
theorem d_M_plan_262 : decode b_M_plan 262 = .ok (.dup2, 1) := by decide +kernel
theorem d_M_plan_263 : decode b_M_plan 263 = .ok (.iaload, 1) := by decide +kernel
theorem d_M_plan_264 : decode b_M_plan 264 = .ok (.iconst 1, 1) := by decide +kernel
theorem d_M_plan_265 : decode b_M_plan 265 = .ok (.iadd, 1) := by decide +kernel
theorem d_M_plan_266 : decode b_M_plan 266 = .ok (.iastore, 1) := by decide +kernel
theorem d_M_plan_267 : decode b_M_plan 267 = .ok (.goto (-190), 3) := by decide +kernel
theorem d_M_plan_270 : decode b_M_plan 270 = .ok (.iinc 2 1, 3) := by decide +kernel
theorem d_M_plan_273 : decode b_M_plan 273 = .ok (.aload_n 0, 1) := by decide +kernel
theorem d_M_plan_274 : decode b_M_plan 274 = .ok (.getfield 82, 3) := by decide +kernel
theorem d_M_plan_277 : decode b_M_plan 277 = .ok (.iload_n 2, 1) := by decide +kernel
theorem d_M_plan_278 : decode b_M_plan 278 = .ok (.iconst 0, 1) := by decide +kernel
theorem d_M_plan_279 : decode b_M_plan 279 = .ok (.iastore, 1) := by decide +kernel
theorem d_M_plan_280 : decode b_M_plan 280 = .ok (.goto (-203), 3) := by decide +kernel
theorem d_M_plan_283 : decode b_M_plan 283 = .ok (.iconst 0, 1) := by decide +kernel
theorem d_M_plan_284 : decode b_M_plan 284 = .ok (.istore_n 3, 1) := by decide +kernel
theorem d_M_plan_285 : decode b_M_plan 285 = .ok (.iconst 0, 1) := by decide +kernel
theorem d_M_plan_286 : decode b_M_plan 286 = .ok (.istore 4, 2) := by decide +kernel
theorem d_M_plan_288 : decode b_M_plan 288 = .ok (.iload 4, 2) := by decide +kernel
theorem d_M_plan_290 : decode b_M_plan 290 = .ok (.aload_n 0, 1) := by decide +kernel
theorem d_M_plan_291 : decode b_M_plan 291 = .ok (.getfield 140, 3) := by decide +kernel
theorem d_M_plan_294 : decode b_M_plan 294 = .ok (.if_icmp .ge 22, 3) := by decide +kernel
theorem d_M_plan_297 : decode b_M_plan 297 = .ok (.aload_n 0, 1) := by decide +kernel
theorem d_M_plan_298 : decode b_M_plan 298 = .ok (.getfield 67, 3) := by decide +kernel
theorem d_M_plan_301 : decode b_M_plan 301 = .ok (.iload 4, 2) := by decide +kernel
theorem d_M_plan_303 : decode b_M_plan 303 = .ok (.iaload, 1) := by decide +kernel
theorem d_M_plan_304 : decode b_M_plan 304 = .ok (.ifCond .lt 6, 3) := by decide +kernel
theorem d_M_plan_307 : decode b_M_plan 307 = .ok (.iinc 3 1, 3) := by decide +kernel
theorem d_M_plan_310 : decode b_M_plan 310 = .ok (.iinc 4 1, 3) := by decide +kernel
theorem d_M_plan_313 : decode b_M_plan 313 = .ok (.goto (-25), 3) := by decide +kernel
theorem d_M_plan_316 : decode b_M_plan 316 = .ok (.iload_n 3, 1) := by decide +kernel
theorem d_M_plan_317 : decode b_M_plan 317 = .ok (.ireturn, 1) := by decide +kernel
theorem d_M_best_0 : decode b_M_best 0 = .ok (.aload_n 0, 1) := by decide +kernel
theorem d_M_best_1 : decode b_M_best 1 = .ok (.iconst 1, 1) := by decide +kernel
theorem d_M_best_2 : decode b_M_best 2 = .ok (.putfield 133, 3) := by decide +kernel
theorem d_M_best_5 : decode b_M_best 5 = .ok (.aload_n 0, 1) := by decide +kernel
theorem d_M_best_6 : decode b_M_best 6 = .ok (.aload_n 0, 1) := by decide +kernel
theorem d_M_best_7 : decode b_M_best 7 = .ok (.getfield 79, 3) := by decide +kernel
theorem d_M_best_10 : decode b_M_best 10 = .ok (.aload_n 0, 1) := by decide +kernel
theorem d_M_best_11 : decode b_M_best 11 = .ok (.getfield 140, 3) := by decide +kernel
theorem d_M_best_14 : decode b_M_best 14 = .ok (.iaload, 1) := by decide +kernel
theorem d_M_best_15 : decode b_M_best 15 = .ok (.putfield 147, 3) := by decide +kernel
theorem d_M_best_18 : decode b_M_best 18 = .ok (.iconst 0, 1) := by decide +kernel
theorem d_M_best_19 : decode b_M_best 19 = .ok (.istore_n 1, 1) := by decide +kernel
theorem d_M_best_20 : decode b_M_best 20 = .ok (.iload_n 1, 1) := by decide +kernel
theorem d_M_best_21 : decode b_M_best 21 = .ok (.aload_n 0, 1) := by decide +kernel
theorem d_M_best_22 : decode b_M_best 22 = .ok (.getfield 140, 3) := by decide +kernel
theorem d_M_best_25 : decode b_M_best 25 = .ok (.if_icmp .ge 33, 3) := by decide +kernel
theorem d_M_best_28 : decode b_M_best 28 = .ok (.aload_n 0, 1) := by decide +kernel
theorem d_M_best_29 : decode b_M_best 29 = .ok (.getfield 67, 3) := by decide +kernel
theorem d_M_best_32 : decode b_M_best 32 = .ok (.iload_n 1, 1) := by decide +kernel
theorem d_M_best_33 : decode b_M_best 33 = .ok (.aload_n 0, 1) := by decide +kernel
theorem d_M_best_34 : decode b_M_best 34 = .ok (.getfield 85, 3) := by decide +kernel
theorem d_M_best_37 : decode b_M_best 37 = .ok (.iload_n 1, 1) := by decide +kernel
theorem d_M_best_38 : decode b_M_best 38 = .ok (.iaload, 1) := by decide +kernel
theorem d_M_best_39 : decode b_M_best 39 = .ok (.iastore, 1) := by decide +kernel
theorem d_M_best_40 : decode b_M_best 40 = .ok (.aload_n 0, 1) := by decide +kernel
theorem d_M_best_41 : decode b_M_best 41 = .ok (.getfield 70, 3) := by decide +kernel
theorem d_M_best_44 : decode b_M_best 44 = .ok (.iload_n 1, 1) := by decide +kernel
theorem d_M_best_45 : decode b_M_best 45 = .ok (.aload_n 0, 1) := by decide +kernel
theorem d_M_best_46 : decode b_M_best 46 = .ok (.getfield 82, 3) := by decide +kernel
theorem d_M_best_49 : decode b_M_best 49 = .ok (.iload_n 1, 1) := by decide +kernel
theorem d_M_best_50 : decode b_M_best 50 = .ok (.iaload, 1) := by decide +kernel
theorem d_M_best_51 : decode b_M_best 51 = .ok (.iastore, 1) := by decide +kernel
theorem d_M_best_52 : decode b_M_best 52 = .ok (.iinc 1 1, 3) := by decide +kernel
theorem d_M_best_55 : decode b_M_best 55 = .ok (.goto (-35), 3) := by decide +kernel
theorem d_M_best_58 : decode b_M_best 58 = .ok (.return_, 1) := by decide +kernel
theorem d_M_at_0 : decode b_M_at 0 = .ok (.aload_n 0, 1) := by decide +kernel
theorem d_M_at_1 : decode b_M_at 1 = .ok (.iload_n 1, 1) := by decide +kernel
theorem d_M_at_2 : decode b_M_at 2 = .ok (.iconst 0, 1) := by decide +kernel
theorem d_M_at_3 : decode b_M_at 3 = .ok (.aload_n 0, 1) := by decide +kernel
theorem d_M_at_4 : decode b_M_at 4 = .ok (.getfield 140, 3) := by decide +kernel
theorem d_M_at_7 : decode b_M_at 7 = .ok (.iconst 1, 1) := by decide +kernel
theorem d_M_at_8 : decode b_M_at 8 = .ok (.isub, 1) := by decide +kernel
theorem d_M_at_9 : decode b_M_at 9 = .ok (.invokestatic 94, 3) := by decide +kernel
theorem d_M_at_12 : decode b_M_at 12 = .ok (.ifCond .eq 16, 3) := by decide +kernel
theorem d_M_at_15 : decode b_M_at 15 = .ok (.iload_n 2, 1) := by decide +kernel
theorem d_M_at_16 : decode b_M_at 16 = .ok (.iconst 0, 1) := by decide +kernel
theorem d_M_at_17 : decode b_M_at 17 = .ok (.iconst 2, 1) := by decide +kernel
theorem d_M_at_18 : decode b_M_at 18 = .ok (.invokestatic 94, 3) := by decide +kernel
theorem d_M_at_21 : decode b_M_at 21 = .ok (.ifCond .eq 7, 3) := by decide +kernel
theorem d_M_at_24 : decode b_M_at 24 = .ok (.iconst 1, 1) := by decide +kernel
theorem d_M_at_25 : decode b_M_at 25 = .ok (.goto 4, 3) := by decide +kernel
theorem d_M_at_28 : decode b_M_at 28 = .ok (.iconst 0, 1) := by decide +kernel
theorem d_M_at_29 : decode b_M_at 29 = .ok (.aload_n 0, 1) := by decide +kernel
theorem d_M_at_30 : decode b_M_at 30 = .ok (.getfield 133, 3) := by decide +kernel
theorem d_M_at_33 : decode b_M_at 33 = .ok (.iconst 1, 1) := by decide +kernel
theorem d_M_at_34 : decode b_M_at 34 = .ok (.invokevirtual 99, 3) := by decide +kernel
theorem d_M_at_37 : decode b_M_at 37 = .ok (.ifCond .ne 5, 3) := by decide +kernel
theorem d_M_at_40 : decode b_M_at 40 = .ok (.iconst 0, 1) := by decide +kernel
theorem d_M_at_41 : decode b_M_at 41 = .ok (.ireturn, 1) := by decide +kernel
theorem d_M_at_42 : decode b_M_at 42 = .ok (.aload_n 0, 1) := by decide +kernel
theorem d_M_at_43 : decode b_M_at 43 = .ok (.getfield 67, 3) := by decide +kernel
theorem d_M_at_46 : decode b_M_at 46 = .ok (.iload_n 1, 1) := by decide +kernel
theorem d_M_at_47 : decode b_M_at 47 = .ok (.iaload, 1) := by decide +kernel
theorem d_M_at_48 : decode b_M_at 48 = .ok (.ifCond .ge 5, 3) := by decide +kernel
theorem d_M_at_51 : decode b_M_at 51 = .ok (.iconst (-1), 1) := by decide +kernel
theorem d_M_at_52 : decode b_M_at 52 = .ok (.ireturn, 1) := by decide +kernel
theorem d_M_at_53 : decode b_M_at 53 = .ok (.iload_n 2, 1) := by decide +kernel
theorem d_M_at_54 : decode b_M_at 54 = .ok (.ifCond .ne 12, 3) := by decide +kernel
theorem d_M_at_57 : decode b_M_at 57 = .ok (.aload_n 0, 1) := by decide +kernel
theorem d_M_at_58 : decode b_M_at 58 = .ok (.getfield 67, 3) := by decide +kernel
theorem d_M_at_61 : decode b_M_at 61 = .ok (.iload_n 1, 1) := by decide +kernel
theorem d_M_at_62 : decode b_M_at 62 = .ok (.iaload, 1) := by decide +kernel
theorem d_M_at_63 : decode b_M_at 63 = .ok (.goto 33, 3) := by decide +kernel
theorem d_M_at_66 : decode b_M_at 66 = .ok (.iload_n 2, 1) := by decide +kernel
theorem d_M_at_67 : decode b_M_at 67 = .ok (.iconst 1, 1) := by decide +kernel
theorem d_M_at_68 : decode b_M_at 68 = .ok (.if_icmp .ne 17, 3) := by decide +kernel
theorem d_M_at_71 : decode b_M_at 71 = .ok (.aload_n 0, 1) := by decide +kernel
theorem d_M_at_72 : decode b_M_at 72 = .ok (.getfield 70, 3) := by decide +kernel
theorem d_M_at_75 : decode b_M_at 75 = .ok (.iload_n 1, 1) := by decide +kernel
theorem d_M_at_76 : decode b_M_at 76 = .ok (.iaload, 1) := by decide +kernel
theorem d_M_at_77 : decode b_M_at 77 = .ok (.aload_n 0, 1) := by decide +kernel
theorem d_M_at_78 : decode b_M_at 78 = .ok (.getfield 137, 3) := by decide +kernel
theorem d_M_at_81 : decode b_M_at 81 = .ok (.irem, 1) := by decide +kernel
theorem d_M_at_82 : decode b_M_at 82 = .ok (.goto 14, 3) := by decide +kernel
theorem d_M_at_85 : decode b_M_at 85 = .ok (.aload_n 0, 1) := by decide +kernel
theorem d_M_at_86 : decode b_M_at 86 = .ok (.getfield 70, 3) := by decide +kernel
theorem d_M_at_89 : decode b_M_at 89 = .ok (.iload_n 1, 1) := by decide +kernel
theorem d_M_at_90 : decode b_M_at 90 = .ok (.iaload, 1) := by decide +kernel
theorem d_M_at_91 : decode b_M_at 91 = .ok (.aload_n 0, 1) := by decide +kernel
theorem d_M_at_92 : decode b_M_at 92 = .ok (.getfield 137, 3) := by decide +kernel
theorem d_M_at_95 : decode b_M_at 95 = .ok (.idiv, 1) := by decide +kernel
theorem d_M_at_96 : decode b_M_at 96 = .ok (.ireturn, 1) := by decide +kernel
theorem d_M_cost_0 : decode b_M_cost 0 = .ok (.aload_n 0, 1) := by decide +kernel
theorem d_M_cost_1 : decode b_M_cost 1 = .ok (.aload_n 0, 1) := by decide +kernel
theorem d_M_cost_2 : decode b_M_cost 2 = .ok (.getfield 133, 3) := by decide +kernel
theorem d_M_cost_5 : decode b_M_cost 5 = .ok (.iconst 1, 1) := by decide +kernel
theorem d_M_cost_6 : decode b_M_cost 6 = .ok (.iconst 1, 1) := by decide +kernel
theorem d_M_cost_7 : decode b_M_cost 7 = .ok (.invokevirtual 99, 3) := by decide +kernel
theorem d_M_cost_10 : decode b_M_cost 10 = .ok (.ifCond .ne 5, 3) := by decide +kernel
theorem d_M_cost_13 : decode b_M_cost 13 = .ok (.iconst 0, 1) := by decide +kernel
theorem d_M_cost_14 : decode b_M_cost 14 = .ok (.ireturn, 1) := by decide +kernel
theorem d_M_cost_15 : decode b_M_cost 15 = .ok (.aload_n 0, 1) := by decide +kernel
theorem d_M_cost_16 : decode b_M_cost 16 = .ok (.getfield 147, 3) := by decide +kernel
theorem d_M_cost_19 : decode b_M_cost 19 = .ok (.ireturn, 1) := by decide +kernel
theorem d_M_done_0 : decode b_M_done 0 = .ok (.aload_n 0, 1) := by decide +kernel
theorem d_M_done_1 : decode b_M_done 1 = .ok (.aload_n 0, 1) := by decide +kernel
theorem d_M_done_2 : decode b_M_done 2 = .ok (.getfield 133, 3) := by decide +kernel
theorem d_M_done_5 : decode b_M_done 5 = .ok (.iconst 1, 1) := by decide +kernel
theorem d_M_done_6 : decode b_M_done 6 = .ok (.iconst 1, 1) := by decide +kernel
theorem d_M_done_7 : decode b_M_done 7 = .ok (.invokevirtual 99, 3) := by decide +kernel
theorem d_M_done_10 : decode b_M_done 10 = .ok (.ifCond .ne 5, 3) := by decide +kernel
theorem d_M_done_13 : decode b_M_done 13 = .ok (.iconst 0, 1) := by decide +kernel
theorem d_M_done_14 : decode b_M_done 14 = .ok (.ireturn, 1) := by decide +kernel
theorem d_M_done_15 : decode b_M_done 15 = .ok (.iconst 0, 1) := by decide +kernel
theorem d_M_done_16 : decode b_M_done 16 = .ok (.istore_n 1, 1) := by decide +kernel
theorem d_M_done_17 : decode b_M_done 17 = .ok (.iconst 0, 1) := by decide +kernel
theorem d_M_done_18 : decode b_M_done 18 = .ok (.istore_n 2, 1) := by decide +kernel
theorem d_M_done_19 : decode b_M_done 19 = .ok (.iload_n 2, 1) := by decide +kernel
theorem d_M_done_20 : decode b_M_done 20 = .ok (.aload_n 0, 1) := by decide +kernel
theorem d_M_done_21 : decode b_M_done 21 = .ok (.getfield 140, 3) := by decide +kernel
theorem d_M_done_24 : decode b_M_done 24 = .ok (.if_icmp .ge 76, 3) := by decide +kernel
theorem d_M_done_27 : decode b_M_done 27 = .ok (.aload_n 0, 1) := by decide +kernel
theorem d_M_done_28 : decode b_M_done 28 = .ok (.getfield 67, 3) := by decide +kernel
theorem d_M_done_31 : decode b_M_done 31 = .ok (.iload_n 2, 1) := by decide +kernel
theorem d_M_done_32 : decode b_M_done 32 = .ok (.iaload, 1) := by decide +kernel
theorem d_M_done_33 : decode b_M_done 33 = .ok (.ifCond .lt 61, 3) := by decide +kernel
theorem d_M_done_36 : decode b_M_done 36 = .ok (.aload_n 0, 1) := by decide +kernel
theorem d_M_done_37 : decode b_M_done 37 = .ok (.getfield 64, 3) := by decide +kernel
theorem d_M_done_40 : decode b_M_done 40 = .ok (.aload_n 0, 1) := by decide +kernel
theorem d_M_done_41 : decode b_M_done 41 = .ok (.getfield 51, 3) := by decide +kernel
theorem d_M_done_44 : decode b_M_done 44 = .ok (.iload_n 2, 1) := by decide +kernel
theorem d_M_done_45 : decode b_M_done 45 = .ok (.iaload, 1) := by decide +kernel
theorem d_M_done_46 : decode b_M_done 46 = .ok (.iaload, 1) := by decide +kernel
theorem d_M_done_47 : decode b_M_done 47 = .ok (.ifCond .ne 6, 3) := by decide +kernel
theorem d_M_done_50 : decode b_M_done 50 = .ok (.goto 44, 3) := by decide +kernel
theorem d_M_done_53 : decode b_M_done 53 = .ok (.aload_n 0, 1) := by decide +kernel
theorem d_M_done_54 : decode b_M_done 54 = .ok (.getfield 64, 3) := by decide +kernel
theorem d_M_done_57 : decode b_M_done 57 = .ok (.aload_n 0, 1) := by decide +kernel
theorem d_M_done_58 : decode b_M_done 58 = .ok (.getfield 51, 3) := by decide +kernel
theorem d_M_done_61 : decode b_M_done 61 = .ok (.iload_n 2, 1) := by decide +kernel
theorem d_M_done_62 : decode b_M_done 62 = .ok (.iaload, 1) := by decide +kernel
theorem d_M_done_63 : decode b_M_done 63 = .ok (.dup2, 1) := by decide +kernel
theorem d_M_done_64 : decode b_M_done 64 = .ok (.iaload, 1) := by decide +kernel
theorem d_M_done_65 : decode b_M_done 65 = .ok (.iconst 1, 1) := by decide +kernel
theorem d_M_done_66 : decode b_M_done 66 = .ok (.isub, 1) := by decide +kernel
theorem d_M_done_67 : decode b_M_done 67 = .ok (.iastore, 1) := by decide +kernel
theorem d_M_done_68 : decode b_M_done 68 = .ok (.aload_n 0, 1) := by decide +kernel
theorem d_M_done_69 : decode b_M_done 69 = .ok (.getfield 20, 3) := by decide +kernel
theorem d_M_done_72 : decode b_M_done 72 = .ok (.aload_n 0, 1) := by decide +kernel
theorem d_M_done_73 : decode b_M_done 73 = .ok (.getfield 45, 3) := by decide +kernel
theorem d_M_done_76 : decode b_M_done 76 = .ok (.iload_n 2, 1) := by decide +kernel
theorem d_M_done_77 : decode b_M_done 77 = .ok (.iaload, 1) := by decide +kernel
theorem d_M_done_78 : decode b_M_done 78 = .ok (.iconst 0, 1) := by decide +kernel
theorem d_M_done_79 : decode b_M_done 79 = .ok (.iastore, 1) := by decide +kernel
theorem d_M_done_80 : decode b_M_done 80 = .ok (.aload_n 0, 1) := by decide +kernel
theorem d_M_done_81 : decode b_M_done 81 = .ok (.aload_n 0, 1) := by decide +kernel
theorem d_M_done_82 : decode b_M_done 82 = .ok (.getfield 45, 3) := by decide +kernel
theorem d_M_done_85 : decode b_M_done 85 = .ok (.iload_n 2, 1) := by decide +kernel
theorem d_M_done_86 : decode b_M_done 86 = .ok (.iaload, 1) := by decide +kernel
theorem d_M_done_87 : decode b_M_done 87 = .ok (.iconst (-1), 1) := by decide +kernel
theorem d_M_done_88 : decode b_M_done 88 = .ok (.invokevirtual 110, 3) := by decide +kernel
theorem d_M_done_91 : decode b_M_done 91 = .ok (.iinc 1 1, 3) := by decide +kernel
theorem d_M_done_94 : decode b_M_done 94 = .ok (.iinc 2 1, 3) := by decide +kernel
theorem d_M_done_97 : decode b_M_done 97 = .ok (.goto (-78), 3) := by decide +kernel
theorem d_M_done_100 : decode b_M_done 100 = .ok (.aload_n 0, 1) := by decide +kernel
theorem d_M_done_101 : decode b_M_done 101 = .ok (.iconst 0, 1) := by decide +kernel
theorem d_M_done_102 : decode b_M_done 102 = .ok (.putfield 140, 3) := by decide +kernel
theorem d_M_done_105 : decode b_M_done 105 = .ok (.aload_n 0, 1) := by decide +kernel
theorem d_M_done_106 : decode b_M_done 106 = .ok (.iconst 0, 1) := by decide +kernel
theorem d_M_done_107 : decode b_M_done 107 = .ok (.putfield 133, 3) := by decide +kernel
theorem d_M_done_110 : decode b_M_done 110 = .ok (.iload_n 1, 1) := by decide +kernel
theorem d_M_done_111 : decode b_M_done 111 = .ok (.ireturn, 1) := by decide +kernel
theorem d_M_spare_0 : decode b_M_spare 0 = .ok (.iload_n 1, 1) := by decide +kernel
theorem d_M_spare_1 : decode b_M_spare 1 = .ok (.iconst 0, 1) := by decide +kernel
theorem d_M_spare_2 : decode b_M_spare 2 = .ok (.iconst 3, 1) := by decide +kernel
theorem d_M_spare_3 : decode b_M_spare 3 = .ok (.invokestatic 94, 3) := by decide +kernel
theorem d_M_spare_6 : decode b_M_spare 6 = .ok (.istore_n 3, 1) := by decide +kernel
theorem d_M_spare_7 : decode b_M_spare 7 = .ok (.iload_n 2, 1) := by decide +kernel
theorem d_M_spare_8 : decode b_M_spare 8 = .ok (.iconst 0, 1) := by decide +kernel
theorem d_M_spare_9 : decode b_M_spare 9 = .ok (.bipush 100, 2) := by decide +kernel
theorem d_M_spare_11 : decode b_M_spare 11 = .ok (.invokestatic 94, 3) := by decide +kernel
theorem d_M_spare_14 : decode b_M_spare 14 = .ok (.istore 4, 2) := by decide +kernel
theorem d_M_spare_16 : decode b_M_spare 16 = .ok (.aload_n 0, 1) := by decide +kernel
theorem d_M_spare_17 : decode b_M_spare 17 = .ok (.iload_n 3, 1) := by decide +kernel
theorem d_M_spare_18 : decode b_M_spare 18 = .ok (.iload 4, 2) := by decide +kernel
theorem d_M_spare_20 : decode b_M_spare 20 = .ok (.iload_n 3, 1) := by decide +kernel
theorem d_M_spare_21 : decode b_M_spare 21 = .ok (.ifCond .eq 26, 3) := by decide +kernel
theorem d_M_spare_24 : decode b_M_spare 24 = .ok (.iload 4, 2) := by decide +kernel
theorem d_M_spare_26 : decode b_M_spare 26 = .ok (.ifCond .eq 21, 3) := by decide +kernel
theorem d_M_spare_29 : decode b_M_spare 29 = .ok (.aload_n 0, 1) := by decide +kernel
theorem d_M_spare_30 : decode b_M_spare 30 = .ok (.getfield 64, 3) := by decide +kernel
theorem d_M_spare_33 : decode b_M_spare 33 = .ok (.iload_n 1, 1) := by decide +kernel
theorem d_M_spare_34 : decode b_M_spare 34 = .ok (.iaload, 1) := by decide +kernel
theorem d_M_spare_35 : decode b_M_spare 35 = .ok (.iload_n 2, 1) := by decide +kernel
theorem d_M_spare_36 : decode b_M_spare 36 = .ok (.iadd, 1) := by decide +kernel
theorem d_M_spare_37 : decode b_M_spare 37 = .ok (.sipush 1000, 3) := by decide +kernel
theorem d_M_spare_40 : decode b_M_spare 40 = .ok (.if_icmp .gt 7, 3) := by decide +kernel
theorem d_M_spare_43 : decode b_M_spare 43 = .ok (.iconst 1, 1) := by decide +kernel
theorem d_M_spare_44 : decode b_M_spare 44 = .ok (.goto 4, 3) := by decide +kernel
theorem d_M_spare_47 : decode b_M_spare 47 = .ok (.iconst 0, 1) := by decide +kernel
theorem d_M_spare_48 : decode b_M_spare 48 = .ok (.invokevirtual 99, 3) := by decide +kernel
theorem d_M_spare_51 : decode b_M_spare 51 = .ok (.ifCond .ne 5, 3) := by decide +kernel
theorem d_M_spare_54 : decode b_M_spare 54 = .ok (.iconst 0, 1) := by decide +kernel
theorem d_M_spare_55 : decode b_M_spare 55 = .ok (.ireturn, 1) := by decide +kernel
theorem d_M_spare_56 : decode b_M_spare 56 = .ok (.aload_n 0, 1) := by decide +kernel
theorem d_M_spare_57 : decode b_M_spare 57 = .ok (.getfield 64, 3) := by decide +kernel
theorem d_M_spare_60 : decode b_M_spare 60 = .ok (.iload_n 1, 1) := by decide +kernel
theorem d_M_spare_61 : decode b_M_spare 61 = .ok (.aload_n 0, 1) := by decide +kernel
theorem d_M_spare_62 : decode b_M_spare 62 = .ok (.getfield 64, 3) := by decide +kernel
theorem d_M_spare_65 : decode b_M_spare 65 = .ok (.iload_n 1, 1) := by decide +kernel
theorem d_M_spare_66 : decode b_M_spare 66 = .ok (.iaload, 1) := by decide +kernel
theorem d_M_spare_67 : decode b_M_spare 67 = .ok (.iload_n 2, 1) := by decide +kernel
theorem d_M_spare_68 : decode b_M_spare 68 = .ok (.iadd, 1) := by decide +kernel
theorem d_M_spare_69 : decode b_M_spare 69 = .ok (.iastore, 1) := by decide +kernel
theorem d_M_spare_70 : decode b_M_spare 70 = .ok (.aload_n 0, 1) := by decide +kernel
theorem d_M_spare_71 : decode b_M_spare 71 = .ok (.getfield 64, 3) := by decide +kernel
theorem d_M_spare_74 : decode b_M_spare 74 = .ok (.iload_n 1, 1) := by decide +kernel
theorem d_M_spare_75 : decode b_M_spare 75 = .ok (.iaload, 1) := by decide +kernel
theorem d_M_spare_76 : decode b_M_spare 76 = .ok (.ireturn, 1) := by decide +kernel
end
section
/-! worlds by roles: the cell of role k lies at ad k and holds E k (v k) -/
def wv (n : Nat) (ad : Nat → Nat) (ct : Nat → va_E) : va_W := (List.range n).map (fun k => (ad k, ct k))
theorem wv_at {n : Nat} {ad : Nat → Nat} {ct : Nat → va_E} {k : Nat} (h : k < n) : (wv n ad ct)[k]? = some (ad k, ct k) := by
  simp [wv, h]
theorem wv_of {n : Nat} {ad : Nat → Nat} {ct : Nat → va_E} {k : Nat} {q : Nat × va_E} (h : (wv n ad ct)[k]? = some q) : k < n ∧ q = (ad k, ct k) := by
  have hk : k < n := by
    have := (List.getElem?_eq_some_iff.mp h).1
    simpa [wv] using this
  rw [wv_at hk] at h
  exact ⟨hk, (Option.some.inj h).symm⟩
/-- the rows of numbers, one changed -/
def u2 (v : Nat → Nat → Int32) (r j : Nat) (x : Int32) : Nat → Nat → Int32 := fun k => if k = r then upd (v r) j x else v k
theorem u2_self (v : Nat → Nat → Int32) (r j : Nat) (x : Int32) : u2 v r j x r = upd (v r) j x := if_pos rfl
theorem u2_ne {v : Nat → Nat → Int32} {r j k : Nat} {x : Int32} (h : k ≠ r) : u2 v r j x k = v k := if_neg h
theorem u2_eq (v : Nat → Nat → Int32) (r j : Nat) (x : Int32) : u2 v r j x r j = x := by rw [u2_self]; exact pk_us
theorem u2_at (v : Nat → Nat → Int32) (r j : Nat) (x : Int32) (k i : Nat) : u2 v r j x k i = if k = r ∧ i = j then x else v k i := by
  unfold u2
  by_cases h : k = r
  · subst h
    rw [if_pos rfl]
    by_cases h2 : i = j
    · subst h2; rw [if_pos ⟨rfl, rfl⟩]; exact pk_us
    · rw [if_neg (fun q => h2 q.2)]; exact pk_un h2
  · rw [if_neg h, if_neg (fun q => h q.1)]
theorem wv_set {n : Nat} {ad : Nat → Nat} {ct ct' : Nat → va_E} {r : Nat} {e : va_E} (hr : r < n) (he : e = ct' r) (ho : ∀ k, k ≠ r → ct' k = ct k) : (wv n ad ct).set r (ad r, e) = wv n ad ct' := by
  apply List.ext_getElem?
  intro k
  by_cases hk : k < n
  · rw [wv_at hk]
    by_cases h : k = r
    · subst h
      rw [List.getElem?_set_self (by simpa [wv] using hk), he]
    · rw [List.getElem?_set_ne (Ne.symm h), wv_at hk, ho k h]
  · rw [List.getElem?_eq_none (by simpa [wv] using hk), List.getElem?_eq_none (by simpa [wv] using hk)]
/-- the addresses of n roles are apart -/
def apt (n : Nat) (ad : Nat → Nat) : Prop := ∀ i j, i < n → j < n → ad i = ad j → i = j
/-- what a method over these roles may change, from a heap of sz cells -/
def aA (n : Nat) (ad : Nat → Nat) (sz : Nat) : Nat → Prop := fun q => (∃ k, k < n ∧ q = ad k) ∨ sz ≤ q
theorem apt.D {n : Nat} {ad : Nat → Nat} {ct : Nat → va_E} {A : Nat → Prop} (h : apt n ad) (hA : ∀ k, k < n → A (ad k)) : va_D A (wv n ad ct) := by
  refine ⟨fun i j x y hx hy hxy => ?_, fun k q hq => ?_⟩
  · obtain ⟨h1, rfl⟩ := wv_of hx
    obtain ⟨h2, rfl⟩ := wv_of hy
    exact h i j h1 h2 hxy
  · obtain ⟨h1, rfl⟩ := wv_of hq
    exact hA k h1
/-- the fixed part of a walk over a world of n roles -/
abbrev Gx (p : Program) (m : MethodId) (c : Code) (cc : ByteArray) (nL : Nat) (s : State) (args : Array Value) (own : String) (D : va_G) (tys : List (ClassId × FieldType)) (n : Nat) (ad : Nat → Nat) (A : Nat → Prop) : Prop :=
  Fx p m c cc nL s args own ∧ va_K D classes tys s ∧ apt n ad ∧ (∀ k, k < n → A (ad k)) ∧ NW s
/-- a field's link, in its own class or across the nest -/
def lnk (own : String) (index : Nat) (C f d : String) : Prop := Cond.fieldLink own index C f d ∈ gt ∨ Cond.fieldLinkNest own index C f d "WearHours" ∈ nwt
section GRows
variable {p : Program} {l : Launch} {e : Env} {R : Room} {s : State} {m : MethodId} {args : Array Value} {below : List Frame} {meth : Method} {c : Code} {H : Heap} {locs : List Loc} {cells slots : Nat} {Q : State → Prop}
variable {cc : ByteArray} {nL pc index ci N n : Nat} {own C : String} {D : va_G} {tys : List (ClassId × FieldType)} {ad : Nat → Nat} {A : Nat → Prop} {E : Nat → (Nat → Int32) → va_E} {v : Nat → Nat → Int32} {T : u_T} {fs : List Value} {rest : List Value} {ls : Array Slot} {H0 : Heap}
theorem g_get (G : Gx p m c cc nL s args own D tys n ad A) (hP : va_P D classes (wv n ad (fun k => E k (v k))) H) (r : Nat) (hr : r < n) (hE : E r (v r) = .inr (ci, fs)) (hc : classes[ci]? = some (C, T, N)) (hin : ∀ w ∈ u_ws C T N, w ∈ gt) (k : Nat) (hk : k < N) (hd : (T k).1 = C) (hl : lnk own index C (T k).2.1 (T k).2.2.1)
    {x : Value} (hv : fs[k]? = some x) (hdg : decode cc pc = .ok (.getfield index, 3))
    (kk : W p l e R s m args below meth c H locs cells slots Q (F0 m (pc + 3) ls (x :: rest))) : W p l e R s m args below meth c H locs cells slots Q (F0 m pc ls (.ref (ad r) :: rest)) := by
  obtain ⟨⟨hx, hb, hml, ho, hw⟩, hK, -, -, hN⟩ := G
  have he : (wv n ad (fun k => E k (v k)))[r]? = some (ad r, .inr (ci, fs)) := by rw [wv_at hr, hE]
  rcases hl with hl | hl
  · exact va_get (C := C) (T := T) (N := N) (ref := C) hx hb hw hin ho hK hP r he hc k hk (hw _ hl) (fun z h => by rw [hd] at h; exact h) hv hdg kk
  · exact va_getN (C := C) (T := T) (N := N) (ref := C) (host := "WearHours") hx hb hw hin ho hK hP r he hc k hk (va_Nw.use rfl (hN _ hl)) (fun z h => by rw [hd] at h; exact h) hv hdg kk
theorem g_put (G : Gx p m c cc nL s args own D tys n ad A) (hP : va_P D classes (wv n ad (fun k => E k (v k))) H) (hS : va_S A H0 H locs) (r : Nat) (hr : r < n) (hE : E r (v r) = .inr (ci, fs)) (hc : classes[ci]? = some (C, T, N)) (hin : ∀ w ∈ u_ws C T N, w ∈ gt) (ty0 : Nat → FieldType) (hty : ∀ k, k < N → parseFieldDescriptor (T k).2.2.1 = some (ty0 k)) (hnm : ∀ a, a < N → ∀ b, b < N → a ≠ b → (T a).2.1 ≠ (T b).2.1) (k : Nat) (hk : k < N) (hd : (T k).1 = C) (hl : lnk own index C (T k).2.1 (T k).2.2.1)
    (hfin : (T k).2.2.2 = false) {x : Value} (hn : narrow (ty0 k) x = x) (hfit : fits (ty0 k) x = true) (hlen : k < fs.length) {E' : Nat → (Nat → Int32) → va_E} {v' : Nat → Nat → Int32} (hE' : Sum.inr (ci, fs.set k x) = E' r (v' r)) (ho' : ∀ k, k ≠ r → E' k (v' k) = E k (v k)) (hdg : decode cc pc = .ok (.putfield index, 3))
    (kk : ∀ (H1 : Heap) (locs1 : List Loc), va_P D classes (wv n ad (fun k => E' k (v' k))) H1 → va_S A H0 H1 locs1 → W p l e R s m args below meth c H1 locs1 cells slots Q (F0 m (pc + 3) ls rest)) : W p l e R s m args below meth c H locs cells slots Q (F0 m pc ls (x :: .ref (ad r) :: rest)) := by
  obtain ⟨⟨hx, hb, hml, ho, hw⟩, hK, hap, hAd, hN⟩ := G
  have he : (wv n ad (fun k => E k (v k)))[r]? = some (ad r, .inr (ci, fs)) := by rw [wv_at hr, hE]
  have hset : (wv n ad (fun k => E k (v k))).set r (ad r, .inr (ci, fs.set k x)) = wv n ad (fun k => E' k (v' k)) := wv_set hr hE' ho'
  rcases hl with hl | hl
  · exact va_put (C := C) (T := T) (N := N) (ref := C) hx hb hw hin ty0 hty hnm ho hK hP (hap.D hAd) hS r he hc k hk (hw _ hl) (fun z h => by rw [hd] at h; exact h) hfin (hty k hk) hn hfit hlen hdg (fun H1 l1 hP1 _ hS1 => kk H1 l1 (by rw [hset] at hP1; exact hP1) hS1)
  · exact va_putN (C := C) (T := T) (N := N) (ref := C) (host := "WearHours") hx hb hw hin ty0 hty hnm ho hK hP (hap.D hAd) hS r he hc k hk (va_Nw.use rfl (hN _ hl)) (fun z h => by rw [hd] at h; exact h) hfin (hty k hk) hn hfit hlen hdg (fun H1 l1 hP1 _ hS1 => kk H1 l1 (by rw [hset] at hP1; exact hP1) hS1)
/-- an int field gets an int -/
theorem g_puti (G : Gx p m c cc nL s args own D tys n ad A) (hP : va_P D classes (wv n ad (fun k => E k (v k))) H) (hS : va_S A H0 H locs) (r : Nat) (hr : r < n) (hE : E r (v r) = .inr (ci, fs)) (hc : classes[ci]? = some (C, T, N)) (hin : ∀ w ∈ u_ws C T N, w ∈ gt) (ty0 : Nat → FieldType) (hty : ∀ k, k < N → parseFieldDescriptor (T k).2.2.1 = some (ty0 k)) (hnm : ∀ a, a < N → ∀ b, b < N → a ≠ b → (T a).2.1 ≠ (T b).2.1) (k : Nat) (hk : k < N) (hd : (T k).1 = C) (hl : lnk own index C (T k).2.1 (T k).2.2.1)
    (hfin : (T k).2.2.2 = false) {x : Int32} (hn : narrow (ty0 k) (.int x) = .int x) (hfit : fits (ty0 k) (.int x) = true) (hlen : k < fs.length) (hE' : Sum.inr (ci, fs.set k (.int x)) = E r (upd (v r) k x)) (hdg : decode cc pc = .ok (.putfield index, 3))
    (kk : ∀ (H1 : Heap) (locs1 : List Loc), va_P D classes (wv n ad (fun q => E q (u2 v r k x q))) H1 → va_S A H0 H1 locs1 → W p l e R s m args below meth c H1 locs1 cells slots Q (F0 m (pc + 3) ls rest)) : W p l e R s m args below meth c H locs cells slots Q (F0 m pc ls (.int x :: .ref (ad r) :: rest)) :=
  g_put (E' := E) (v' := u2 v r k x) G hP hS r hr hE hc hin ty0 hty hnm k hk hd hl hfin hn hfit hlen (by rw [u2_self]; exact hE') (fun q hq => by rw [u2_ne hq]) hdg kk
theorem g_iald (G : Gx p m c cc nL s args own D tys n ad A) (hP : va_P D classes (wv n ad (fun k => E k (v k))) H) (r : Nat) (hr : r < n) {cA : ClassId} {len : Nat} (hE : E r (v r) = .inl (cA, len, .inl (v r))) (t0 : Nat) (ht : tys[t0]? = some (cA, .int)) {i : Int32} (j : Nat) (hi : i = nI j) (hj : j < len) (hlen : len < 2 ^ 31) (hdg : decode cc pc = .ok (.iaload, 1))
    (kk : W p l e R s m args below meth c H locs cells slots Q (F0 m (pc + 1) ls (.int (v r j) :: rest))) : W p l e R s m args below meth c H locs cells slots Q (F0 m pc ls (.int i :: .ref (ad r) :: rest)) := by
  obtain ⟨⟨hx, hb, hml, ho, hw⟩, hK, -, -, -⟩ := G
  have he : (wv n ad (fun k => E k (v k)))[r]? = some (ad r, .inl (cA, len, .inl (v r))) := by rw [wv_at hr, hE]
  refine va_iald hx hb hK hP r t0 he ht (i := i) (by rw [hi]; exact vp_in_nI hj hlen) hdg ?_
  rw [hi, nI_clamp (by omega)]
  exact kk
theorem g_iast (G : Gx p m c cc nL s args own D tys n ad A) (hP : va_P D classes (wv n ad (fun k => E k (v k))) H) (hS : va_S A H0 H locs) (r : Nat) (hr : r < n) {cA : ClassId} {len : Nat} (hE : ∀ w, E r w = .inl (cA, len, .inl w)) (t0 : Nat) (ht : tys[t0]? = some (cA, .int)) {i x : Int32} (j : Nat) (hi : i = nI j) (hj : j < len) (hlen : len < 2 ^ 31) (hdg : decode cc pc = .ok (.iastore, 1))
    (kk : ∀ (H1 : Heap) (locs1 : List Loc), va_P D classes (wv n ad (fun q => E q (u2 v r j x q))) H1 → va_S A H0 H1 locs1 → W p l e R s m args below meth c H1 locs1 cells slots Q (F0 m (pc + 1) ls rest)) : W p l e R s m args below meth c H locs cells slots Q (F0 m pc ls (.int x :: .int i :: .ref (ad r) :: rest)) := by
  obtain ⟨⟨hx, hb, hml, ho, hw⟩, hK, hap, hAd, -⟩ := G
  have he : (wv n ad (fun k => E k (v k)))[r]? = some (ad r, .inl (cA, len, .inl (v r))) := by rw [wv_at hr, hE]
  refine va_iast hx hb hK hP (hap.D hAd) hS r t0 he ht (i := i) (by rw [hi]; exact vp_in_nI hj hlen) hdg (fun H1 l1 hP1 _ hS1 => kk H1 l1 ?_ hS1)
  rw [hi, nI_clamp (by omega)] at hP1
  rw [wv_set (ct' := fun q => E q (u2 v r j x q)) hr (by rw [u2_self, hE]) (fun q hq => by rw [u2_ne hq])] at hP1
  exact hP1
theorem g_zald (G : Gx p m c cc nL s args own D tys n ad A) (hP : va_P D classes (wv n ad (fun k => E k (v k))) H) (r : Nat) (hr : r < n) {cA : ClassId} {len : Nat} (hE : E r (v r) = .inl (cA, len, .inl (v r))) (t0 : Nat) (ht : tys[t0]? = some (cA, .boolean)) {i : Int32} (j : Nat) (hi : i = nI j) (hj : j < len) (hlen : len < 2 ^ 31) (hdg : decode cc pc = .ok (.baload, 1))
    (kk : W p l e R s m args below meth c H locs cells slots Q (F0 m (pc + 1) ls (.int (v r j) :: rest))) : W p l e R s m args below meth c H locs cells slots Q (F0 m pc ls (.int i :: .ref (ad r) :: rest)) := by
  obtain ⟨⟨hx, hb, hml, ho, hw⟩, hK, -, -, -⟩ := G
  have he : (wv n ad (fun k => E k (v k)))[r]? = some (ad r, .inl (cA, len, .inl (v r))) := by rw [wv_at hr, hE]
  refine va_zald hx hb hK hP r t0 he ht (i := i) (by rw [hi]; exact vp_in_nI hj hlen) hdg ?_
  rw [hi, nI_clamp (by omega)]
  exact kk
theorem g_zast (G : Gx p m c cc nL s args own D tys n ad A) (hP : va_P D classes (wv n ad (fun k => E k (v k))) H) (hS : va_S A H0 H locs) (r : Nat) (hr : r < n) {cA : ClassId} {len : Nat} (hE : ∀ w, E r w = .inl (cA, len, .inl w)) (t0 : Nat) (ht : tys[t0]? = some (cA, .boolean)) {i x : Int32} (hx01 : vp_nar .boolean x = x) (j : Nat) (hi : i = nI j) (hj : j < len) (hlen : len < 2 ^ 31) (hdg : decode cc pc = .ok (.bastore, 1))
    (kk : ∀ (H1 : Heap) (locs1 : List Loc), va_P D classes (wv n ad (fun q => E q (u2 v r j x q))) H1 → va_S A H0 H1 locs1 → W p l e R s m args below meth c H1 locs1 cells slots Q (F0 m (pc + 1) ls rest)) : W p l e R s m args below meth c H locs cells slots Q (F0 m pc ls (.int x :: .int i :: .ref (ad r) :: rest)) := by
  obtain ⟨⟨hx, hb, hml, ho, hw⟩, hK, hap, hAd, -⟩ := G
  have he : (wv n ad (fun k => E k (v k)))[r]? = some (ad r, .inl (cA, len, .inl (v r))) := by rw [wv_at hr, hE]
  refine va_zast hx hb hK hP (hap.D hAd) hS r t0 he ht (i := i) (by rw [hi]; exact vp_in_nI hj hlen) hdg (fun H1 l1 hP1 _ hS1 => kk H1 l1 ?_ hS1)
  rw [hi, nI_clamp (by omega), hx01] at hP1
  rw [wv_set (ct' := fun q => E q (u2 v r j x q)) hr (by rw [u2_self, hE]) (fun q hq => by rw [u2_ne hq])] at hP1
  exact hP1
theorem g_aald (G : Gx p m c cc nL s args own D tys n ad A) (hP : va_P D classes (wv n ad (fun k => E k (v k))) H) (r : Nat) (hr : r < n) {cA : ClassId} {len : Nat} {f : Nat → Option Nat} (hE : E r (v r) = .inl (cA, len, .inr (.inr (.inr (.inr f))))) (t0 : Nat) (ht : tys[t0]? = some (cA, .object C)) {i : Int32} (j : Nat) (hi : i = nI j) (hj : j < len) (hlen : len < 2 ^ 31) {b : Nat} (hf : f j = some b) (hdg : decode cc pc = .ok (.aaload, 1))
    (kk : W p l e R s m args below meth c H locs cells slots Q (F0 m (pc + 1) ls (.ref b :: rest))) : W p l e R s m args below meth c H locs cells slots Q (F0 m pc ls (.int i :: .ref (ad r) :: rest)) := by
  obtain ⟨⟨hx, hb, hml, ho, hw⟩, hK, -, -, -⟩ := G
  have he : (wv n ad (fun k => E k (v k)))[r]? = some (ad r, .inl (cA, len, .inr (.inr (.inr (.inr f))))) := by rw [wv_at hr, hE]
  refine va_aldq hx hb hK hP r t0 he ht (i := i) (by rw [hi]; exact vp_in_nI hj hlen) hdg ?_
  rw [hi, nI_clamp (by omega), hf]
  exact kk
theorem g_alen (G : Gx p m c cc nL s args own D tys n ad A) (hP : va_P D classes (wv n ad (fun k => E k (v k))) H) (r : Nat) (hr : r < n) {cA : ClassId} {x : vp_A} (hE : E r (v r) = .inl (cA, x)) (t0 : Nat) {ty : FieldType} (ht : tys[t0]? = some (cA, ty)) {i : Int32} (hi : Int32.ofNat x.1 = i) (hdg : decode cc pc = .ok (.arraylength, 1))
    (kk : W p l e R s m args below meth c H locs cells slots Q (F0 m (pc + 1) ls (.int i :: rest))) : W p l e R s m args below meth c H locs cells slots Q (F0 m pc ls (.ref (ad r) :: rest)) := by
  obtain ⟨⟨hx, hb, hml, ho, hw⟩, hK, -, -, -⟩ := G
  have he : (wv n ad (fun k => E k (v k)))[r]? = some (ad r, .inl (cA, x)) := by rw [wv_at hr, hE]
  exact va_alen hx hb hK hP r t0 he ht hi hdg kk
theorem g_recv (hK : va_K D classes tys s) (hP : va_P D classes (wv n ad (fun k => E k (v k))) H) (r : Nat) (hr : r < n) (hE : E r (v r) = .inr (ci, fs)) (hc : classes[ci]? = some (C, T, N)) : ∃ cell : Cell, H[ad r]? = some cell ∧ cell.vm.isStatics = false ∧ s.vm.findClass C = some cell.cls := by
  have he : (wv n ad (fun k => E k (v k)))[r]? = some (ad r, .inr (ci, fs)) := by rw [wv_at hr, hE]
  exact va_recv hK hP hc he
end GRows
theorem wv_nost {D : va_G} {n : Nat} {ad : Nat → Nat} {ct : Nat → va_E} {H : Heap} {sz : Nat} (hsz : H.size = sz) (hP : va_P D classes (wv n ad ct) H) : noSt (aA n ad sz) H := by
  intro q cell hq hcell
  rcases hq with ⟨k, hk, rfl⟩ | hq
  · have h := hP k _ (wv_at hk)
    unfold va_at at h
    split at h
    · rw [hcell] at h
      cases Option.some.inj h
      rename_i a _
      obtain ⟨cA, n9, f | f | f | f | f⟩ := a <;> rfl
    · obtain ⟨r, -, cell', h1, -, h3, -⟩ := h
      cases Option.some.inj (hcell.symm.trans h1)
      rw [h3]; rfl
  · have := (Array.getElem?_eq_some_iff.mp hcell).1
    omega
end
section
/-! the class's world: 42 roles. 0 the object; 1 things; 2..9 Thing; 10..17 their changes; 18 spares; 19 the Week; 20 gaps; 21..26 Gap; 27 persons; 28..31 Person; 32 repairs; 33..37 Repair; 38 the Planner; 39 personFree; 40 thingFree; 41 floors -/
abbrev aI (cA : ClassId) (n : Nat) (w : Nat → Int32) : va_E := .inl (cA, n, .inl w)
abbrev aR (cA : ClassId) (n : Nat) (f : Nat → Option Nat) : va_E := .inl (cA, n, .inr (.inr (.inr (.inr f))))
def eC (cs : Nat → ClassId) (ad : Nat → Nat) (sd : Int64) (k : Nat) (w : Nat → Int32) : va_E :=
  if k < 18 then
    if k = 0 then .inr (0, [.long sd, .ref (ad 1), .int (w 2), .ref (ad 18), .ref (ad 19), .ref (ad 38)])
    else if k = 1 then aR (cs 3) 8 (fun j => some (ad (2 + j)))
    else if k < 10 then .inr (1, [.int (w 0), .int (w 1), .int (w 2), .int (w 3), .ref (ad (k + 8))])
    else aI (cs 0) 5 w
  else if k = 18 then aI (cs 0) 4 w
  else if k = 19 then .inr (2, [.ref (ad 20), .int (w 1), .ref (ad 27), .int (w 3), .ref (ad 32), .int (w 5), .int (w 6), .int (w 7)])
  else if k = 20 then aR (cs 4) 6 (fun j => some (ad (21 + j)))
  else if k < 27 then .inr (3, [.int (w 0), .int (w 1)])
  else if k = 27 then aR (cs 5) 4 (fun j => some (ad (28 + j)))
  else if k < 32 then .inr (4, [.int (w 0), .int (w 1), .int (w 2)])
  else if k = 32 then aR (cs 6) 5 (fun j => some (ad (33 + j)))
  else if k < 38 then .inr (5, [.int (w 0), .int (w 1), .int (w 2), .int (w 3), .int (w 4), .int (w 5), .int (w 6)])
  else if k = 38 then .inr (6, [.ref (ad 19), .ref (ad 39), .ref (ad 40), .ref (ad 41), .int (w 4), .int (w 5), .int (w 6)])
  else if k = 39 then aI (cs 0) 4 w
  else if k = 40 then aI (cs 0) 8 w
  else aI (cs 0) 6 w
section EC
variable {cs : Nat → ClassId} {ad : Nat → Nat} {sd : Int64} {w : Nat → Int32} {i : Nat}
theorem eT (hi : i < 8) : eC cs ad sd (2 + i) w = .inr (1, [.int (w 0), .int (w 1), .int (w 2), .int (w 3), .ref (ad (10 + i))]) := by
  unfold eC
  rw [if_pos (by omega), if_neg (by omega), if_neg (by omega), if_pos (by omega), show 2 + i + 8 = 10 + i by omega]
theorem eH (hi : i < 8) : eC cs ad sd (10 + i) w = aI (cs 0) 5 w := by
  unfold eC
  rw [if_pos (by omega), if_neg (by omega), if_neg (by omega), if_neg (by omega)]
theorem eG (hi : i < 6) : eC cs ad sd (21 + i) w = .inr (3, [.int (w 0), .int (w 1)]) := by
  unfold eC
  rw [if_neg (by omega), if_neg (by omega), if_neg (by omega), if_neg (by omega), if_pos (by omega)]
theorem eP (hi : i < 4) : eC cs ad sd (28 + i) w = .inr (4, [.int (w 0), .int (w 1), .int (w 2)]) := by
  unfold eC
  rw [if_neg (by omega), if_neg (by omega), if_neg (by omega), if_neg (by omega), if_neg (by omega), if_neg (by omega), if_pos (by omega)]
theorem eR (hi : i < 5) : eC cs ad sd (33 + i) w = .inr (5, [.int (w 0), .int (w 1), .int (w 2), .int (w 3), .int (w 4), .int (w 5), .int (w 6)]) := by
  unfold eC
  rw [if_neg (by omega), if_neg (by omega), if_neg (by omega), if_neg (by omega), if_neg (by omega), if_neg (by omega), if_neg (by omega), if_neg (by omega), if_pos (by omega)]
end EC
abbrev tyl (cs : Nat → ClassId) : List (ClassId × FieldType) := [(cs 0, .int), (cs 1, .boolean), (cs 2, .long), (cs 3, .object "WearHours$Thing"), (cs 4, .object "WearHours$Gap"), (cs 5, .object "WearHours$Person"), (cs 6, .object "WearHours$Repair")]
/-- the class's world holds at a state -/
def CWs (D : va_G) (cs : Nat → ClassId) (ad : Nat → Nat) (v : Nat → Nat → Int32) (sd : Int64) (U : State) : Prop :=
  va_P D classes (wv 42 ad (fun k => eC cs ad sd k (v k))) U.heap ∧ va_K D classes (tyl cs) U ∧ apt 42 ad ∧ NW U ∧ SR U ∧ ST U U.heap
/-- rooms: depth of calls, and how many exceptions may be made -/
abbrev rmx (k n : Nat) : Room := { frames := k + 6, cells := n, slots := 6 * n, locals := 60 * (k + 3) }
/-- a contract of a method over the class's world -/
def Cm (l : Launch) (y : MethodName) (bytes : ByteArray) (maxL : Nat) (ret : Option FieldType) (rm : Room) (av : List Value) (D : va_G) (cs : Nat → ClassId) (ad : Nat → Nat) (v : Nat → Nat → Int32) (sd : Int64) (post : Option Value → (Nat → Nat → Int32) → Int64 → Prop) (xp : String → Prop) : Prop :=
  ∀ sz, Mq l y bytes maxL ret [] rm av (fun U => U.heap.size = sz ∧ CWs D cs ad v sd U) (aA 42 ad sz) (fun r t => ∃ v' sd', post r v' sd' ∧ CWs D cs ad v' sd' t) (fun cls t => xp cls ∧ CWs D cs ad v sd t)
/-- the fixed part of a walk over the class's world -/
def Cx (p : Program) (l : Launch) (m : MethodId) (meth : Method) (c : Code) (cc : ByteArray) (nL : Nat) (ret : Option FieldType) (s : State) (args : Array Value) (own : String) (D : va_G) (cs : Nat → ClassId) (ad : Nat → Nat) : Prop :=
  Gx p m c cc nL s args own D (tyl cs) 42 ad (aA 42 ad s.heap.size) ∧ SR s ∧ ST s s.heap ∧ noSt (aA 42 ad s.heap.size) s.heap ∧ c.exceptionTable.toList = tableOf [] ∧ meth.locks = false ∧ meth.sig.returnType = ret ∧ meth.name = meth.name
section CRows
variable {p : Program} {l : Launch} {e : Env} {R : Room} {s : State} {m : MethodId} {args : Array Value} {below : List Frame} {meth : Method} {c : Code} {H : Heap} {locs : List Loc} {cells slots : Nat} {Q : State → Prop}
variable {y : MethodName} {bytes cc : ByteArray} {maxL nL pc index : Nat} {ret ret' : Option FieldType} {rm : Room} {av As rest st : List Value} {own C : String} {D : va_G} {cs : Nat → ClassId} {ad : Nat → Nat} {v v0 v' : Nat → Nat → Int32} {sd sd0 sd' : Int64} {post post' : Option Value → (Nat → Nat → Int32) → Int64 → Prop} {xp xp' : String → Prop} {ls : Array Slot} {b : Addr}
theorem Cx.hx (C : Cx p l m meth c cc nL ret s args own D cs ad) : p.tables.exec = Jvm.exec := C.1.1.1
theorem Cx.hb (C : Cx p l m meth c cc nL ret s args own D cs ad) : c.code = cc := C.1.1.2.1
theorem cw_at (K : Cx p l m meth c cc nL ret s args own D cs ad) (hS : va_S (aA 42 ad s.heap.size) s.heap H locs) (hP : va_P D classes (wv 42 ad (fun k => eC cs ad sd k (v k))) H) (t : State) (ht : t.heap = H) (hW : s.WarmedH t.vm) : CWs D cs ad v sd t := by
  obtain ⟨⟨F, hK, hap, hAd, hN⟩, hSR, hZ, hns, -⟩ := K
  exact ⟨by rw [ht]; exact hP, hK.moved hW.alike, hap, hN.warm hW, hSR.warm hW, by rw [ht]; exact (hZ.kept hns hS.2.1).moved hW.alike⟩
theorem cw_sub (hS : va_S (aA 42 ad s.heap.size) s.heap H locs) : ∀ q, aA 42 ad H.size q → aA 42 ad s.heap.size q := by
  intro q hq
  rcases hq with h | h
  · exact Or.inl h
  · exact Or.inr (Nat.le_trans hS.1 h)
theorem cw_enter (hown : y.cls = own) (hpl : (lg_sl av).length ≤ maxL)
    (body : ∀ (p : Program) (e : Env) (s : State) (m : MethodId) (below : List Frame) (meth : Method) (c : Code) (ls : Array Slot), Cx p l m meth c bytes maxL ret s av.toArray own D cs ad → va_S (aA 42 ad s.heap.size) s.heap s.heap [] → va_P D classes (wv 42 ad (fun k => eC cs ad sd k (v k))) s.heap → lv_has ls maxL (lv_args 0 av) →
      W p l e rm s m av.toArray below meth c s.heap [] 0 0 (xMQ below (QQ (aA 42 ad s.heap.size) (fun r t => ∃ v' sd', post r v' sd' ∧ CWs D cs ad v' sd' t) (fun cls t => xp cls ∧ CWs D cs ad v sd t)) s rm.cells rm.slots (aA 42 ad s.heap.size)) (F0 m 0 ls [])) : Cm l y bytes maxL ret rm av D cs ad v sd post xp := by
  intro sz p e s m below meth c hx hn hb hml htab hname hret hlk hw hPc
  obtain ⟨rfl, hP, hK, hap, hN, hSR, hZ⟩ := hPc
  have hl := lv_entry av hpl
  rw [lg_entry_eq]
  exact body p e s m below meth c _ ⟨⟨⟨hx, hb, hml, by rw [← hown]; exact findClass_of_methodNamed hn, hw⟩, hK, hap, fun k hk => Or.inl ⟨k, hk, rfl⟩, hN⟩, hSR, hZ, wv_nost rfl hP, htab, hlk, hret, rfl⟩ va_S.rf hP hl
/-- a call on an object of the class's world that never throws -/
theorem cc_V (K : Cx p l m meth c cc nL ret' s args own D cs ad) (hP : va_P D classes (wv 42 ad (fun k => eC cs ad sd k (v k))) H) (hS : va_S (aA 42 ad s.heap.size) s.heap H locs)
    (hM : Cm l y bytes maxL ret rm (.ref b :: As) D cs ad v sd post (fun _ => False)) (hcode : Cond.code y bytes maxL ret ∈ gt) (hy : xMeth y As.length) (hl : Cond.methodLink own index y ∈ gt) (hi : Cond.instanceMethod y ∈ gt) (hse : Cond.selects C y y ∈ gt) (hrecv : ∃ cell : Cell, H[b]? = some cell ∧ cell.vm.isStatics = false ∧ s.vm.findClass C = some cell.cls)
    (hst : st = As.reverse ++ .ref b :: rest) (hsz : ls.size = nL) (hdg : decode cc pc = .ok (.invokevirtual index, 3)) (hfr : rm.frames + 1 ≤ R.frames) (hlo : (rest.map fun v => v.category).sum + (maxL + 11) + rm.locals ≤ R.locals) (hf : cells + rm.cells ≤ R.cells ∧ slots + rm.slots ≤ R.slots)
    (kr : ∀ (r : Option Value) (v' : Nat → Nat → Int32) (sd' : Int64) (H1 : Heap) (locs1 : List Loc), post r v' sd' → va_P D classes (wv 42 ad (fun k => eC cs ad sd' k (v' k))) H1 → va_S (aA 42 ad s.heap.size) s.heap H1 locs1 → W p l e R s m args below meth c H1 locs1 (cells + rm.cells) (slots + rm.slots) Q (F0 m (pc + 3) ls (r.toList ++ rest))) :
    W p l e R s m args below meth c H locs cells slots Q (F0 m pc ls st) := by
  refine xc_V K.1.1 (hM H.size) (Or.inl ⟨rfl, hcode⟩) hy hl hi hse hrecv hst hsz hdg hfr hlo hf (fun U hU hW => ⟨by rw [hU], cw_at K hS hP U hU hW⟩) hS (cw_sub hS) ?_ ?_
  · intro r t H1 l1 ht hW hf1 _ _ hS1
    obtain ⟨v', sd', hp, hC⟩ := hf1
    exact kr r v' sd' H1 l1 hp (by rw [← ht]; exact hC.1) hS1
  · intro q cls cell t H1 l1 _ _ _ _ _ hx1
    exact hx1.1.elim
theorem cc_S (K : Cx p l m meth c cc nL ret' s args own D cs ad) (hP : va_P D classes (wv 42 ad (fun k => eC cs ad sd k (v k))) H) (hS : va_S (aA 42 ad s.heap.size) s.heap H locs)
    (hM : Cm l y bytes maxL ret rm As D cs ad v sd post (fun _ => False)) (hcode : Cond.code y bytes maxL ret ∈ gt) (hy : xMeth y As.length) (hl : Cond.methodLink own index y ∈ gt) (hi : Cond.static y ∈ gt) (hini : Cond.initialized y.cls ∈ gt)
    (hst : st = As.reverse ++ rest) (hsz : ls.size = nL) (hdg : decode cc pc = .ok (.invokestatic index, 3)) (hfr : rm.frames + 1 ≤ R.frames) (hlo : (rest.map fun v => v.category).sum + (maxL + 11) + rm.locals ≤ R.locals) (hf : cells + rm.cells ≤ R.cells ∧ slots + rm.slots ≤ R.slots)
    (kr : ∀ (r : Option Value) (v' : Nat → Nat → Int32) (sd' : Int64) (H1 : Heap) (locs1 : List Loc), post r v' sd' → va_P D classes (wv 42 ad (fun k => eC cs ad sd' k (v' k))) H1 → va_S (aA 42 ad s.heap.size) s.heap H1 locs1 → W p l e R s m args below meth c H1 locs1 (cells + rm.cells) (slots + rm.slots) Q (F0 m (pc + 3) ls (r.toList ++ rest))) :
    W p l e R s m args below meth c H locs cells slots Q (F0 m pc ls st) := by
  refine xc_S K.1.1 (hM H.size) (Or.inl ⟨rfl, hcode⟩) hy hl hi hini hst hsz hdg hfr hlo hf (fun U hU hW => ⟨by rw [hU], cw_at K hS hP U hU hW⟩) hS (cw_sub hS) ?_ ?_
  · intro r t H1 l1 ht hW hf1 _ _ hS1
    obtain ⟨v', sd', hp, hC⟩ := hf1
    exact kr r v' sd' H1 l1 hp (by rw [← ht]; exact hC.1) hS1
  · intro q cls cell t H1 l1 _ _ _ _ _ hx1
    exact hx1.1.elim
variable {mc ms : Nat} {f : Option Value → State → Prop}
/-- a call that may throw: what it throws goes on to the caller, everything is as it was -/
theorem cc_Vx (K : Cx p l m meth c cc nL ret' s args own D cs ad) (hP : va_P D classes (wv 42 ad (fun k => eC cs ad sd k (v k))) H) (hS : va_S (aA 42 ad s.heap.size) s.heap H locs)
    (hM : Cm l y bytes maxL ret rm (.ref b :: As) D cs ad v sd post xp) (hxp : ∀ cls, xp cls → xp' cls) (hcode : Cond.code y bytes maxL ret ∈ gt) (hy : xMeth y As.length) (hl : Cond.methodLink own index y ∈ gt) (hi : Cond.instanceMethod y ∈ gt) (hse : Cond.selects C y y ∈ gt) (hrecv : ∃ cell : Cell, H[b]? = some cell ∧ cell.vm.isStatics = false ∧ s.vm.findClass C = some cell.cls)
    (hst : st = As.reverse ++ .ref b :: rest) (hsz : ls.size = nL) (hdg : decode cc pc = .ok (.invokevirtual index, 3)) (hfr : rm.frames + 1 ≤ R.frames) (hlo : (rest.map fun v => v.category).sum + (maxL + 11) + rm.locals ≤ R.locals) (hf : cells + rm.cells ≤ R.cells ∧ slots + rm.slots ≤ R.slots) (hmc : cells + rm.cells ≤ mc) (hms : slots + rm.slots ≤ ms)
    (kr : ∀ (r : Option Value) (v' : Nat → Nat → Int32) (sd' : Int64) (H1 : Heap) (locs1 : List Loc), post r v' sd' → va_P D classes (wv 42 ad (fun k => eC cs ad sd' k (v' k))) H1 → va_S (aA 42 ad s.heap.size) s.heap H1 locs1 → W p l e R s m args below meth c H1 locs1 (cells + rm.cells) (slots + rm.slots) (xMQ below (QQ (aA 42 ad s.heap.size) f (fun cls t => xp' cls ∧ CWs D cs ad v sd t)) s mc ms (aA 42 ad s.heap.size)) (F0 m (pc + 3) ls (r.toList ++ rest))) :
    W p l e R s m args below meth c H locs cells slots (xMQ below (QQ (aA 42 ad s.heap.size) f (fun cls t => xp' cls ∧ CWs D cs ad v sd t)) s mc ms (aA 42 ad s.heap.size)) (F0 m pc ls st) := by
  refine xc_V K.1.1 (hM H.size) (Or.inl ⟨rfl, hcode⟩) hy hl hi hse hrecv hst hsz hdg hfr hlo hf (fun U hU hW => ⟨by rw [hU], cw_at K hS hP U hU hW⟩) hS (cw_sub hS) ?_ ?_
  · intro r t H1 l1 ht hW hf1 _ _ hS1
    obtain ⟨v', sd', hp, hC⟩ := hf1
    exact kr r v' sd' H1 l1 hp (by rw [← ht]; exact hC.1) hS1
  · intro q cls cell t H1 l1 ht hW hq hv hcl hx1 _ _ hS1
    exact xe_t K.2.2.2.2.1 K.2.2.2.2.2.1 hS1 hq hv hcl (fun t' ht' hW' => ⟨hxp cls hx1.1, cw_at K hS1 (by rw [← ht]; exact hx1.2.1) t' ht' hW'⟩) hmc hms
theorem cc_Sx (K : Cx p l m meth c cc nL ret' s args own D cs ad) (hP : va_P D classes (wv 42 ad (fun k => eC cs ad sd k (v k))) H) (hS : va_S (aA 42 ad s.heap.size) s.heap H locs)
    (hM : Cm l y bytes maxL ret rm As D cs ad v sd post xp) (hxp : ∀ cls, xp cls → xp' cls) (hcode : Cond.code y bytes maxL ret ∈ gt) (hy : xMeth y As.length) (hl : Cond.methodLink own index y ∈ gt) (hi : Cond.static y ∈ gt) (hini : Cond.initialized y.cls ∈ gt)
    (hst : st = As.reverse ++ rest) (hsz : ls.size = nL) (hdg : decode cc pc = .ok (.invokestatic index, 3)) (hfr : rm.frames + 1 ≤ R.frames) (hlo : (rest.map fun v => v.category).sum + (maxL + 11) + rm.locals ≤ R.locals) (hf : cells + rm.cells ≤ R.cells ∧ slots + rm.slots ≤ R.slots) (hmc : cells + rm.cells ≤ mc) (hms : slots + rm.slots ≤ ms)
    (kr : ∀ (r : Option Value) (v' : Nat → Nat → Int32) (sd' : Int64) (H1 : Heap) (locs1 : List Loc), post r v' sd' → va_P D classes (wv 42 ad (fun k => eC cs ad sd' k (v' k))) H1 → va_S (aA 42 ad s.heap.size) s.heap H1 locs1 → W p l e R s m args below meth c H1 locs1 (cells + rm.cells) (slots + rm.slots) (xMQ below (QQ (aA 42 ad s.heap.size) f (fun cls t => xp' cls ∧ CWs D cs ad v sd t)) s mc ms (aA 42 ad s.heap.size)) (F0 m (pc + 3) ls (r.toList ++ rest))) :
    W p l e R s m args below meth c H locs cells slots (xMQ below (QQ (aA 42 ad s.heap.size) f (fun cls t => xp' cls ∧ CWs D cs ad v sd t)) s mc ms (aA 42 ad s.heap.size)) (F0 m pc ls st) := by
  refine xc_S K.1.1 (hM H.size) (Or.inl ⟨rfl, hcode⟩) hy hl hi hini hst hsz hdg hfr hlo hf (fun U hU hW => ⟨by rw [hU], cw_at K hS hP U hU hW⟩) hS (cw_sub hS) ?_ ?_
  · intro r t H1 l1 ht hW hf1 _ _ hS1
    obtain ⟨v', sd', hp, hC⟩ := hf1
    exact kr r v' sd' H1 l1 hp (by rw [← ht]; exact hC.1) hS1
  · intro q cls cell t H1 l1 ht hW hq hv hcl hx1 _ _ hS1
    exact xe_t K.2.2.2.2.1 K.2.2.2.2.2.1 hS1 hq hv hcl (fun t' ht' hW' => ⟨hxp cls hx1.1, cw_at K hS1 (by rw [← ht]; exact hx1.2.1) t' ht' hW'⟩) hmc hms
/-! ends -/
abbrev cQ (below : List Frame) (s : State) (mc ms : Nat) (D : va_G) (cs : Nat → ClassId) (ad : Nat → Nat) (post : Option Value → (Nat → Nat → Int32) → Int64 → Prop) (xp : String → Prop) (v0 : Nat → Nat → Int32) (sd0 : Int64) : State → Prop :=
  xMQ below (QQ (aA 42 ad s.heap.size) (fun r t => ∃ v' sd', post r v' sd' ∧ CWs D cs ad v' sd' t) (fun cls t => xp cls ∧ CWs D cs ad v0 sd0 t)) s mc ms (aA 42 ad s.heap.size)
theorem ce_i (K : Cx p l m meth c cc nL (some .int) s args own D cs ad) (hP : va_P D classes (wv 42 ad (fun k => eC cs ad sd k (v k))) H) (hS : va_S (aA 42 ad s.heap.size) s.heap H locs) {z : Int32} (hp : post (some (.int z)) v sd) (hc : cells ≤ mc) (hs : slots ≤ ms) (hdg : decode cc pc = .ok (.ireturn, 1)) :
    W p l e R s m args below meth c H locs cells slots (cQ below s mc ms D cs ad post xp v0 sd0) (F0 m pc ls [.int z]) :=
  xe_i K.hx K.hb K.2.2.2.2.2.2.1 K.2.2.2.2.2.1 hS (fun t ht hW => ⟨v, sd, hp, cw_at K hS hP t ht hW⟩) hc hs hdg
theorem ce_z (K : Cx p l m meth c cc nL (some .boolean) s args own D cs ad) (hP : va_P D classes (wv 42 ad (fun k => eC cs ad sd k (v k))) H) (hS : va_S (aA 42 ad s.heap.size) s.heap H locs) {z : Int32} (hz : narrow .boolean (.int z) = .int z) (hp : post (some (.int z)) v sd) (hc : cells ≤ mc) (hs : slots ≤ ms) (hdg : decode cc pc = .ok (.ireturn, 1)) :
    W p l e R s m args below meth c H locs cells slots (cQ below s mc ms D cs ad post xp v0 sd0) (F0 m pc ls [.int z]) :=
  xe_z K.hx K.hb K.2.2.2.2.2.2.1 K.2.2.2.2.2.1 hS hz (fun t ht hW => ⟨v, sd, hp, cw_at K hS hP t ht hW⟩) hc hs hdg
theorem ce_l (K : Cx p l m meth c cc nL (some .long) s args own D cs ad) (hP : va_P D classes (wv 42 ad (fun k => eC cs ad sd k (v k))) H) (hS : va_S (aA 42 ad s.heap.size) s.heap H locs) {z : Int64} (hp : post (some (.long z)) v sd) (hc : cells ≤ mc) (hs : slots ≤ ms) (hdg : decode cc pc = .ok (.lreturn, 1)) :
    W p l e R s m args below meth c H locs cells slots (cQ below s mc ms D cs ad post xp v0 sd0) (F0 m pc ls [.long z]) :=
  xe_l K.hx K.hb K.2.2.2.2.2.2.1 K.2.2.2.2.2.1 hS (fun t ht hW => ⟨v, sd, hp, cw_at K hS hP t ht hW⟩) hc hs hdg
theorem ce_v (K : Cx p l m meth c cc nL none s args own D cs ad) (hP : va_P D classes (wv 42 ad (fun k => eC cs ad sd k (v k))) H) (hS : va_S (aA 42 ad s.heap.size) s.heap H locs) (hp : post none v sd) (hc : cells ≤ mc) (hs : slots ≤ ms) (hdg : decode cc pc = .ok (.return_, 1)) :
    W p l e R s m args below meth c H locs cells slots (cQ below s mc ms D cs ad post xp v0 sd0) (F0 m pc ls []) :=
  xe_v K.hx K.hb K.2.2.2.2.2.2.1 K.2.2.2.2.2.1 hS (fun t ht hW => ⟨v, sd, hp, cw_at K hS hP t ht hW⟩) hc hs hdg
theorem ce_a {cl : String} (K : Cx p l m meth c cc nL (some (.object cl)) s args own D cs ad) (hP : va_P D classes (wv 42 ad (fun k => eC cs ad sd k (v k))) H) (hS : va_S (aA 42 ad s.heap.size) s.heap H locs) {z : Nat} (hp : post (some (.ref z)) v sd) (hc : cells ≤ mc) (hs : slots ≤ ms) (hdg : decode cc pc = .ok (.areturn, 1)) :
    W p l e R s m args below meth c H locs cells slots (cQ below s mc ms D cs ad post xp v0 sd0) (F0 m pc ls [.ref z]) :=
  xe_a K.hx K.hb K.2.2.2.2.2.2.1 K.2.2.2.2.2.1 hS (fun t ht hW => ⟨v, sd, hp, cw_at K hS hP t ht hW⟩) hc hs hdg
/-- throw new E("text"), in the class itself -/
theorem ce_t {ik is ic : Nat} {cls text : String} (K : Cx p l m meth c cc nL ret s args "WearHours" D cs ad) (hP : va_P D classes (wv 42 ad (fun k => eC cs ad sd k (v k))) H) (hS : va_S (aA 42 ad s.heap.size) s.heap H locs) (hfl : l.flags = flags0)
    (hk : Cond.classLink "WearHours" ik cls ∈ gt) (hini : Cond.initialized cls ∈ gt) (hat : xAtoms ic cls) (hfit : Bundle.fit cls = true) (hstr : (is, text) ∈ strs) (hsz : ls.size = nL)
    (d0 : decode cc pc = .ok (.new ik, 3)) (d3 : decode cc (pc + 3) = .ok (.dup, 1)) (d4 : decode cc (pc + 4) = .ok (.ldc is, 2)) (d6 : decode cc (pc + 6) = .ok (.invokespecial ic, 3)) (d9 : decode cc (pc + 9) = .ok (.athrow, 1))
    (hRf : 6 ≤ R.frames) (hRl : (rest.map fun v => v.category).sum + 90 ≤ R.locals) (hRc : cells + 1 ≤ R.cells) (hRs : slots + 6 ≤ R.slots) (hc : cells + 1 ≤ mc) (hs : slots + 6 ≤ ms) (hxp : xp cls) :
    W p l e R s m args below meth c H locs cells slots (cQ below s mc ms D cs ad post xp v sd) (F0 m pc ls rest) := by
  refine x_throw K.1.1 hfl K.1.2.2.2.2 K.2.1 K.2.2.1 K.2.2.2.1 hS K.2.2.2.2.1 K.2.2.2.2.2.1 hk hini hat hfit hstr hsz d0 d3 d4 d6 d9 hRf hRl hRc hRs hc hs (fun t hW hz hk' => ⟨hxp, ?_⟩)
  obtain ⟨⟨F, hK, hap, hAd, hN⟩, hSR, hZ, hns, -⟩ := K
  refine ⟨fun k q hq => ?_, hK.moved hW.alike, hap, hN.warm hW, hSR.warm hW, ?_⟩
  · exact (hP k q hq).kept (hk' q.1 (hP k q hq).lt)
  · refine ((hZ.kept hns (H1 := t.heap) (fun a h1 h2 => ?_))).moved hW.alike
    rw [hk' a (Nat.lt_of_lt_of_le h1 hS.1)]
    exact hS.2.1 a h1 h2
end CRows
end
section
theorem lv_topE {p : Program} {l : Launch} {e : Env} {R : Room} {s : State} {m : MethodId} {args : Array Value} {below : List Frame} {meth : Method} {c : Code} {H : Heap} {locs : List Loc} {cells slots : Nat} {Q : State → Prop} {pc : Nat} {ls : Array Slot} {rest : List Value} {x y : Int32} (h : x = y) (k : W p l e R s m args below meth c H locs cells slots Q (F0 m pc ls (.int y :: rest))) : W p l e R s m args below meth c H locs cells slots Q (F0 m pc ls (.int x :: rest)) := by
  rw [h]; exact k
theorem xa_IAE : xAtoms 49 "java/lang/IllegalArgumentException" := by decide +kernel
theorem xa_UOE : xAtoms 60 "java/lang/UnsupportedOperationException" := by decide +kernel
theorem xa_ISE : xAtoms 77 "java/lang/IllegalStateException" := by decide +kernel
theorem xa_IOE : xAtoms 127 "java/lang/IndexOutOfBoundsException" := by decide +kernel
theorem xm_W_init : xMeth y_W_init 0 := ⟨rfl, ⟨by decide, by decide⟩, by decide +kernel⟩
theorem xm_W_seed : xMeth y_W_seed 1 := ⟨rfl, ⟨by decide, by decide⟩, by decide +kernel⟩
theorem xm_W_thing : xMeth y_W_thing 2 := ⟨rfl, ⟨by decide, by decide⟩, by decide +kernel⟩
theorem xm_W_use : xMeth y_W_use 2 := ⟨rfl, ⟨by decide, by decide⟩, by decide +kernel⟩
theorem xm_W_told : xMeth y_W_told 2 := ⟨rfl, ⟨by decide, by decide⟩, by decide +kernel⟩
theorem xm_W_left : xMeth y_W_left 2 := ⟨rfl, ⟨by decide, by decide⟩, by decide +kernel⟩
theorem xm_W_permit : xMeth y_W_permit 2 := ⟨rfl, ⟨by decide, by decide⟩, by decide +kernel⟩
theorem xm_W_history : xMeth y_W_history 2 := ⟨rfl, ⟨by decide, by decide⟩, by decide +kernel⟩
theorem xm_W_gap : xMeth y_W_gap 2 := ⟨rfl, ⟨by decide, by decide⟩, by decide +kernel⟩
theorem xm_W_person : xMeth y_W_person 3 := ⟨rfl, ⟨by decide, by decide⟩, by decide +kernel⟩
theorem xm_W_repair : xMeth y_W_repair 4 := ⟨rfl, ⟨by decide, by decide⟩, by decide +kernel⟩
theorem xm_W_rules : xMeth y_W_rules 2 := ⟨rfl, ⟨by decide, by decide⟩, by decide +kernel⟩
theorem xm_W_plan : xMeth y_W_plan 0 := ⟨rfl, ⟨by decide, by decide⟩, by decide +kernel⟩
theorem xm_W_at : xMeth y_W_at 2 := ⟨rfl, ⟨by decide, by decide⟩, by decide +kernel⟩
theorem xm_W_cost : xMeth y_W_cost 0 := ⟨rfl, ⟨by decide, by decide⟩, by decide +kernel⟩
theorem xm_W_done : xMeth y_W_done 0 := ⟨rfl, ⟨by decide, by decide⟩, by decide +kernel⟩
theorem xm_W_spare : xMeth y_W_spare 2 := ⟨rfl, ⟨by decide, by decide⟩, by decide +kernel⟩
theorem xm_W_isWithin : xMeth y_W_isWithin 3 := ⟨rfl, ⟨by decide, by decide⟩, by decide +kernel⟩
theorem xm_W_knownThing : xMeth y_W_knownThing 1 := ⟨rfl, ⟨by decide, by decide⟩, by decide +kernel⟩
theorem xm_W_checkWhat : xMeth y_W_checkWhat 1 := ⟨rfl, ⟨by decide, by decide⟩, by decide +kernel⟩
theorem xm_W_checkHours : xMeth y_W_checkHours 2 := ⟨rfl, ⟨by decide, by decide⟩, by decide +kernel⟩
theorem xm_W_checkSkill : xMeth y_W_checkSkill 1 := ⟨rfl, ⟨by decide, by decide⟩, by decide +kernel⟩
theorem xm_W_checkPlan : xMeth y_W_checkPlan 0 := ⟨rfl, ⟨by decide, by decide⟩, by decide +kernel⟩
theorem xm_W_drawnNumber : xMeth y_W_drawnNumber 1 := ⟨rfl, ⟨by decide, by decide⟩, by decide +kernel⟩
theorem xm_M_init : xMeth y_M_init 0 := ⟨rfl, ⟨by decide, by decide⟩, by decide +kernel⟩
theorem xm_M_thrown : xMeth y_M_thrown 0 := ⟨rfl, ⟨by decide, by decide⟩, by decide +kernel⟩
theorem xm_M_in : xMeth y_M_in 3 := ⟨rfl, ⟨by decide, by decide⟩, by decide +kernel⟩
theorem xm_M_goes : xMeth y_M_goes 3 := ⟨rfl, ⟨by decide, by decide⟩, by decide +kernel⟩
theorem xm_M_isThing : xMeth y_M_isThing 1 := ⟨rfl, ⟨by decide, by decide⟩, by decide +kernel⟩
theorem xm_M_seed : xMeth y_M_seed 1 := ⟨rfl, ⟨by decide, by decide⟩, by decide +kernel⟩
theorem xm_M_thing : xMeth y_M_thing 2 := ⟨rfl, ⟨by decide, by decide⟩, by decide +kernel⟩
theorem xm_M_keep : xMeth y_M_keep 2 := ⟨rfl, ⟨by decide, by decide⟩, by decide +kernel⟩
theorem xm_M_isBarred : xMeth y_M_isBarred 1 := ⟨rfl, ⟨by decide, by decide⟩, by decide +kernel⟩
theorem xm_M_use : xMeth y_M_use 2 := ⟨rfl, ⟨by decide, by decide⟩, by decide +kernel⟩
theorem xm_M_told : xMeth y_M_told 2 := ⟨rfl, ⟨by decide, by decide⟩, by decide +kernel⟩
theorem xm_M_number : xMeth y_M_number 1 := ⟨rfl, ⟨by decide, by decide⟩, by decide +kernel⟩
theorem xm_M_left : xMeth y_M_left 2 := ⟨rfl, ⟨by decide, by decide⟩, by decide +kernel⟩
theorem xm_M_permit : xMeth y_M_permit 2 := ⟨rfl, ⟨by decide, by decide⟩, by decide +kernel⟩
theorem xm_M_history : xMeth y_M_history 2 := ⟨rfl, ⟨by decide, by decide⟩, by decide +kernel⟩
theorem xm_M_areHours : xMeth y_M_areHours 2 := ⟨rfl, ⟨by decide, by decide⟩, by decide +kernel⟩
theorem xm_M_gap : xMeth y_M_gap 2 := ⟨rfl, ⟨by decide, by decide⟩, by decide +kernel⟩
theorem xm_M_person : xMeth y_M_person 3 := ⟨rfl, ⟨by decide, by decide⟩, by decide +kernel⟩
theorem xm_M_repair : xMeth y_M_repair 4 := ⟨rfl, ⟨by decide, by decide⟩, by decide +kernel⟩
theorem xm_M_rules : xMeth y_M_rules 2 := ⟨rfl, ⟨by decide, by decide⟩, by decide +kernel⟩
theorem xm_M_later : xMeth y_M_later 2 := ⟨rfl, ⟨by decide, by decide⟩, by decide +kernel⟩
theorem xm_M_begins : xMeth y_M_begins 3 := ⟨rfl, ⟨by decide, by decide⟩, by decide +kernel⟩
theorem xm_M_take : xMeth y_M_take 1 := ⟨rfl, ⟨by decide, by decide⟩, by decide +kernel⟩
theorem xm_M_plan : xMeth y_M_plan 0 := ⟨rfl, ⟨by decide, by decide⟩, by decide +kernel⟩
theorem xm_M_best : xMeth y_M_best 0 := ⟨rfl, ⟨by decide, by decide⟩, by decide +kernel⟩
theorem xm_M_at : xMeth y_M_at 2 := ⟨rfl, ⟨by decide, by decide⟩, by decide +kernel⟩
theorem xm_M_cost : xMeth y_M_cost 0 := ⟨rfl, ⟨by decide, by decide⟩, by decide +kernel⟩
theorem xm_M_done : xMeth y_M_done 0 := ⟨rfl, ⟨by decide, by decide⟩, by decide +kernel⟩
theorem xm_M_spare : xMeth y_M_spare 2 := ⟨rfl, ⟨by decide, by decide⟩, by decide +kernel⟩
theorem xm_G_init : xMeth y_G_init 0 := ⟨rfl, ⟨by decide, by decide⟩, by decide +kernel⟩
theorem xm_P_init : xMeth y_P_init 0 := ⟨rfl, ⟨by decide, by decide⟩, by decide +kernel⟩
theorem xm_L_init : xMeth y_L_init 1 := ⟨rfl, ⟨by decide, by decide⟩, by decide +kernel⟩
theorem xm_L_forget : xMeth y_L_forget 0 := ⟨rfl, ⟨by decide, by decide⟩, by decide +kernel⟩
theorem xm_L_makeBest : xMeth y_L_makeBest 0 := ⟨rfl, ⟨by decide, by decide⟩, by decide +kernel⟩
theorem xm_L_freeAll : xMeth y_L_freeAll 0 := ⟨rfl, ⟨by decide, by decide⟩, by decide +kernel⟩
theorem xm_L_sumFloors : xMeth y_L_sumFloors 0 := ⟨rfl, ⟨by decide, by decide⟩, by decide +kernel⟩
theorem xm_L_settle : xMeth y_L_settle 2 := ⟨rfl, ⟨by decide, by decide⟩, by decide +kernel⟩
theorem xm_L_leastCost : xMeth y_L_leastCost 2 := ⟨rfl, ⟨by decide, by decide⟩, by decide +kernel⟩
theorem xm_L_costBy : xMeth y_L_costBy 4 := ⟨rfl, ⟨by decide, by decide⟩, by decide +kernel⟩
theorem xm_L_occupy : xMeth y_L_occupy 3 := ⟨rfl, ⟨by decide, by decide⟩, by decide +kernel⟩
theorem xm_L_firstBeginning : xMeth y_L_firstBeginning 2 := ⟨rfl, ⟨by decide, by decide⟩, by decide +kernel⟩
theorem xm_L_beginning : xMeth y_L_beginning 3 := ⟨rfl, ⟨by decide, by decide⟩, by decide +kernel⟩
theorem xm_R_init : xMeth y_R_init 0 := ⟨rfl, ⟨by decide, by decide⟩, by decide +kernel⟩
theorem xm_R_isPlaced : xMeth y_R_isPlaced 0 := ⟨rfl, ⟨by decide, by decide⟩, by decide +kernel⟩
theorem xm_R_place : xMeth y_R_place 3 := ⟨rfl, ⟨by decide, by decide⟩, by decide +kernel⟩
theorem xm_R_unplace : xMeth y_R_unplace 0 := ⟨rfl, ⟨by decide, by decide⟩, by decide +kernel⟩
theorem xm_T_init : xMeth y_T_init 0 := ⟨rfl, ⟨by decide, by decide⟩, by decide +kernel⟩
theorem xm_T_begin : xMeth y_T_begin 2 := ⟨rfl, ⟨by decide, by decide⟩, by decide +kernel⟩
theorem xm_T_isBarred : xMeth y_T_isBarred 0 := ⟨rfl, ⟨by decide, by decide⟩, by decide +kernel⟩
theorem xm_T_unitsToBound : xMeth y_T_unitsToBound 0 := ⟨rfl, ⟨by decide, by decide⟩, by decide +kernel⟩
theorem xm_T_wear : xMeth y_T_wear 1 := ⟨rfl, ⟨by decide, by decide⟩, by decide +kernel⟩
theorem xm_T_mend : xMeth y_T_mend 0 := ⟨rfl, ⟨by decide, by decide⟩, by decide +kernel⟩
theorem xm_T_setPermit : xMeth y_T_setPermit 1 := ⟨rfl, ⟨by decide, by decide⟩, by decide +kernel⟩
theorem xm_T_change : xMeth y_T_change 1 := ⟨rfl, ⟨by decide, by decide⟩, by decide +kernel⟩
theorem xm_T_keep : xMeth y_T_keep 1 := ⟨rfl, ⟨by decide, by decide⟩, by decide +kernel⟩
theorem xm_K_init : xMeth y_K_init 0 := ⟨rfl, ⟨by decide, by decide⟩, by decide +kernel⟩
theorem xm_K_addGap : xMeth y_K_addGap 2 := ⟨rfl, ⟨by decide, by decide⟩, by decide +kernel⟩
theorem xm_K_addPerson : xMeth y_K_addPerson 3 := ⟨rfl, ⟨by decide, by decide⟩, by decide +kernel⟩
theorem xm_K_addRepair : xMeth y_K_addRepair 4 := ⟨rfl, ⟨by decide, by decide⟩, by decide +kernel⟩
theorem xm_K_costUnplaced : xMeth y_K_costUnplaced 1 := ⟨rfl, ⟨by decide, by decide⟩, by decide +kernel⟩
theorem xm_Z_thing : xMeth y_Z_thing 4 := ⟨rfl, ⟨by decide, by decide⟩, by decide +kernel⟩
theorem xm_Z_use : xMeth y_Z_use 4 := ⟨rfl, ⟨by decide, by decide⟩, by decide +kernel⟩
theorem xm_Z_told : xMeth y_Z_told 4 := ⟨rfl, ⟨by decide, by decide⟩, by decide +kernel⟩
theorem xm_Z_left : xMeth y_Z_left 4 := ⟨rfl, ⟨by decide, by decide⟩, by decide +kernel⟩
theorem xm_Z_permit : xMeth y_Z_permit 3 := ⟨rfl, ⟨by decide, by decide⟩, by decide +kernel⟩
theorem xm_Z_history : xMeth y_Z_history 4 := ⟨rfl, ⟨by decide, by decide⟩, by decide +kernel⟩
theorem xm_Z_gap : xMeth y_Z_gap 4 := ⟨rfl, ⟨by decide, by decide⟩, by decide +kernel⟩
theorem xm_Z_person : xMeth y_Z_person 5 := ⟨rfl, ⟨by decide, by decide⟩, by decide +kernel⟩
theorem xm_Z_repair : xMeth y_Z_repair 6 := ⟨rfl, ⟨by decide, by decide⟩, by decide +kernel⟩
theorem xm_Z_rules : xMeth y_Z_rules 3 := ⟨rfl, ⟨by decide, by decide⟩, by decide +kernel⟩
theorem xm_Z_at : xMeth y_Z_at 4 := ⟨rfl, ⟨by decide, by decide⟩, by decide +kernel⟩
theorem xm_Z_cost : xMeth y_Z_cost 2 := ⟨rfl, ⟨by decide, by decide⟩, by decide +kernel⟩
theorem xm_Z_done : xMeth y_Z_done 2 := ⟨rfl, ⟨by decide, by decide⟩, by decide +kernel⟩
theorem xm_Z_spare : xMeth y_Z_spare 4 := ⟨rfl, ⟨by decide, by decide⟩, by decide +kernel⟩
end
section
/-! what the methods of the class answer and do, as functions of the rows of numbers -/
/-- the changes of thing i, with x the latest -/
def kp (v : Nat → Nat → Int32) (i : Nat) (x : Int32) : Nat → Nat → Int32 := fun k j => if k = 10 + i then (if j = 0 then x else if j ≤ 4 then v k (j - 1) else v k j) else v k j
theorem kp_eq (v : Nat → Nat → Int32) (i : Nat) (x : Int32) : u2 (u2 (u2 (u2 (u2 v (10 + i) 4 (v (10 + i) 3)) (10 + i) 3 (v (10 + i) 2)) (10 + i) 2 (v (10 + i) 1)) (10 + i) 1 (v (10 + i) 0)) (10 + i) 0 x = kp v i x := by
  funext k j
  simp only [u2_at, kp]
  by_cases h1 : k = 10 + i
  · subst h1
    rcases (show j = 0 ∨ j = 1 ∨ j = 2 ∨ j = 3 ∨ j = 4 ∨ 4 < j by omega) with rfl | rfl | rfl | rfl | rfl | h2
    · simp
    · simp
    · simp
    · simp
    · simp
    · have h3 : ¬ j ≤ 4 := by omega
      have h4 : j ≠ 0 := by omega
      have h5 : j ≠ 1 := by omega
      have h6 : j ≠ 2 := by omega
      have h7 : j ≠ 3 := by omega
      have h8 : j ≠ 4 := by omega
      simp [h3, h4, h5, h6, h7, h8]
  · simp [h1]
def barZ (v : Nat → Nat → Int32) (i : Nat) : Int32 := if v (2 + i) 3 = 0 then 1 else if v (2 + i) 2 < v (2 + i) 1 then 0 else 1
def wthZ (x a b : Int32) : Int32 := if x < a then 0 else if b < x then 0 else 1
set_option maxHeartbeats 4000000 in
set_option maxRecDepth 100000 in
theorem c_T_keep (l : Launch) (D : va_G) (cs : Nat → ClassId) (ad : Nat → Nat) (v : Nat → Nat → Int32) (sd : Int64) {i : Nat} (hi : i < 8) (x : Int32)  : Cm l y_T_keep b_T_keep 3 none (rmx 0 0) [.ref (ad (2 + i)), .int x] D cs ad v sd (fun r v' sd' => r = none ∧ kp v i x = v' ∧ sd = sd') (fun cls => False) := by
  refine cw_enter (own := "WearHours$Thing") rfl (Nat.le_of_ble_eq_true rfl) ?_
  intro p e s m below meth c ls K hS hP hl
  have hl : lv_has ls 3 [(0, .ref (ad (2 + i))), (1, .int x)] := hl
  refine lv_iconst (v := 4) K.hx K.hb d_T_keep_0 (by decide) ?_
  refine lv_istore_n (lv' := [(2, .int 4), (0, .ref (ad (2 + i))), (1, .int x)]) K.hx K.hb d_T_keep_1 rfl hl (by decide) rfl (fun ls hl => ?_)
  refine lv_iload_n K.hx K.hb d_T_keep_2 rfl (lv_at hl 0 rfl) ?_
  refine lv_if_le (tgt := 26) K.hx K.hb d_T_keep_3 (by decide) (fun c_3 => (show False from by revert c_3; decide).elim) (fun _ => ?_)
  refine lv_aload_n K.hx K.hb d_T_keep_6 rfl (lv_at hl 1 rfl) ?_
  refine g_get K.1 hP (2 + i) (by have := hi; omega) (eT hi) rfl i_T 4 (by decide) rfl (Or.inl kw_60) rfl d_T_keep_7 ?_
  refine lv_iload_n K.hx K.hb d_T_keep_10 rfl (lv_at hl 0 rfl) ?_
  refine lv_aload_n K.hx K.hb d_T_keep_11 rfl (lv_at hl 1 rfl) ?_
  refine g_get K.1 hP (2 + i) (by have := hi; omega) (eT hi) rfl i_T 4 (by decide) rfl (Or.inl kw_60) rfl d_T_keep_12 ?_
  refine lv_iload_n K.hx K.hb d_T_keep_15 rfl (lv_at hl 0 rfl) ?_
  refine lv_iconst (v := 1) K.hx K.hb d_T_keep_16 (by decide) ?_
  refine lv_isub K.hx K.hb d_T_keep_17 ?_
  refine lv_topE (y := 3) (by decide) ?_
  refine g_iald K.1 hP (10 + i) (by have := hi; omega) (eH hi) 0 rfl (3) rfl (by decide) (by decide) d_T_keep_18 ?_
  refine g_iast K.1 hP hS (10 + i) (by have := hi; omega) (fun _ => eH hi) 0 rfl (4) rfl (by decide) (by decide) d_T_keep_19 (fun H l1 hP hS => ?_)
  refine lv_iinc (v := 3) (lv' := [(2, .int 3), (0, .ref (ad (2 + i))), (1, .int x)]) K.hx K.hb d_T_keep_20 hl (k := 0) rfl (by decide) (by decide) rfl (fun ls hl => ?_)
  refine lv_goto (tgt := 2) K.hx K.hb d_T_keep_23 (by decide) ?_
  refine lv_iload_n K.hx K.hb d_T_keep_2 rfl (lv_at hl 0 rfl) ?_
  refine lv_if_le (tgt := 26) K.hx K.hb d_T_keep_3 (by decide) (fun c_3_1 => (show False from by revert c_3_1; decide).elim) (fun _ => ?_)
  refine lv_aload_n K.hx K.hb d_T_keep_6 rfl (lv_at hl 1 rfl) ?_
  refine g_get K.1 hP (2 + i) (by have := hi; omega) (eT hi) rfl i_T 4 (by decide) rfl (Or.inl kw_60) rfl d_T_keep_7 ?_
  refine lv_iload_n K.hx K.hb d_T_keep_10 rfl (lv_at hl 0 rfl) ?_
  refine lv_aload_n K.hx K.hb d_T_keep_11 rfl (lv_at hl 1 rfl) ?_
  refine g_get K.1 hP (2 + i) (by have := hi; omega) (eT hi) rfl i_T 4 (by decide) rfl (Or.inl kw_60) rfl d_T_keep_12 ?_
  refine lv_iload_n K.hx K.hb d_T_keep_15 rfl (lv_at hl 0 rfl) ?_
  refine lv_iconst (v := 1) K.hx K.hb d_T_keep_16 (by decide) ?_
  refine lv_isub K.hx K.hb d_T_keep_17 ?_
  refine lv_topE (y := 2) (by decide) ?_
  refine g_iald K.1 hP (10 + i) (by have := hi; omega) (eH hi) 0 rfl (2) rfl (by decide) (by decide) d_T_keep_18 ?_
  refine lv_topE (y := (v (10 + i) 2)) (by first | (simp [u2_at, kp]; done) | (simp [u2_at, kp] <;> (intros; omega)) | (simp only [u2_at, kp]; (repeat' split) <;> first | rfl | (exfalso; omega))) ?_
  refine g_iast K.1 hP hS (10 + i) (by have := hi; omega) (fun _ => eH hi) 0 rfl (3) rfl (by decide) (by decide) d_T_keep_19 (fun H l1 hP hS => ?_)
  refine lv_iinc (v := 2) (lv' := [(2, .int 2), (0, .ref (ad (2 + i))), (1, .int x)]) K.hx K.hb d_T_keep_20 hl (k := 0) rfl (by decide) (by decide) rfl (fun ls hl => ?_)
  refine lv_goto (tgt := 2) K.hx K.hb d_T_keep_23 (by decide) ?_
  refine lv_iload_n K.hx K.hb d_T_keep_2 rfl (lv_at hl 0 rfl) ?_
  refine lv_if_le (tgt := 26) K.hx K.hb d_T_keep_3 (by decide) (fun c_3_2 => (show False from by revert c_3_2; decide).elim) (fun _ => ?_)
  refine lv_aload_n K.hx K.hb d_T_keep_6 rfl (lv_at hl 1 rfl) ?_
  refine g_get K.1 hP (2 + i) (by have := hi; omega) (eT hi) rfl i_T 4 (by decide) rfl (Or.inl kw_60) rfl d_T_keep_7 ?_
  refine lv_iload_n K.hx K.hb d_T_keep_10 rfl (lv_at hl 0 rfl) ?_
  refine lv_aload_n K.hx K.hb d_T_keep_11 rfl (lv_at hl 1 rfl) ?_
  refine g_get K.1 hP (2 + i) (by have := hi; omega) (eT hi) rfl i_T 4 (by decide) rfl (Or.inl kw_60) rfl d_T_keep_12 ?_
  refine lv_iload_n K.hx K.hb d_T_keep_15 rfl (lv_at hl 0 rfl) ?_
  refine lv_iconst (v := 1) K.hx K.hb d_T_keep_16 (by decide) ?_
  refine lv_isub K.hx K.hb d_T_keep_17 ?_
  refine lv_topE (y := 1) (by decide) ?_
  refine g_iald K.1 hP (10 + i) (by have := hi; omega) (eH hi) 0 rfl (1) rfl (by decide) (by decide) d_T_keep_18 ?_
  refine lv_topE (y := (v (10 + i) 1)) (by first | (simp [u2_at, kp]; done) | (simp [u2_at, kp] <;> (intros; omega)) | (simp only [u2_at, kp]; (repeat' split) <;> first | rfl | (exfalso; omega))) ?_
  refine g_iast K.1 hP hS (10 + i) (by have := hi; omega) (fun _ => eH hi) 0 rfl (2) rfl (by decide) (by decide) d_T_keep_19 (fun H l1 hP hS => ?_)
  refine lv_iinc (v := 1) (lv' := [(2, .int 1), (0, .ref (ad (2 + i))), (1, .int x)]) K.hx K.hb d_T_keep_20 hl (k := 0) rfl (by decide) (by decide) rfl (fun ls hl => ?_)
  refine lv_goto (tgt := 2) K.hx K.hb d_T_keep_23 (by decide) ?_
  refine lv_iload_n K.hx K.hb d_T_keep_2 rfl (lv_at hl 0 rfl) ?_
  refine lv_if_le (tgt := 26) K.hx K.hb d_T_keep_3 (by decide) (fun c_3_3 => (show False from by revert c_3_3; decide).elim) (fun _ => ?_)
  refine lv_aload_n K.hx K.hb d_T_keep_6 rfl (lv_at hl 1 rfl) ?_
  refine g_get K.1 hP (2 + i) (by have := hi; omega) (eT hi) rfl i_T 4 (by decide) rfl (Or.inl kw_60) rfl d_T_keep_7 ?_
  refine lv_iload_n K.hx K.hb d_T_keep_10 rfl (lv_at hl 0 rfl) ?_
  refine lv_aload_n K.hx K.hb d_T_keep_11 rfl (lv_at hl 1 rfl) ?_
  refine g_get K.1 hP (2 + i) (by have := hi; omega) (eT hi) rfl i_T 4 (by decide) rfl (Or.inl kw_60) rfl d_T_keep_12 ?_
  refine lv_iload_n K.hx K.hb d_T_keep_15 rfl (lv_at hl 0 rfl) ?_
  refine lv_iconst (v := 1) K.hx K.hb d_T_keep_16 (by decide) ?_
  refine lv_isub K.hx K.hb d_T_keep_17 ?_
  refine lv_topE (y := 0) (by decide) ?_
  refine g_iald K.1 hP (10 + i) (by have := hi; omega) (eH hi) 0 rfl (0) rfl (by decide) (by decide) d_T_keep_18 ?_
  refine lv_topE (y := (v (10 + i) 0)) (by first | (simp [u2_at, kp]; done) | (simp [u2_at, kp] <;> (intros; omega)) | (simp only [u2_at, kp]; (repeat' split) <;> first | rfl | (exfalso; omega))) ?_
  refine g_iast K.1 hP hS (10 + i) (by have := hi; omega) (fun _ => eH hi) 0 rfl (1) rfl (by decide) (by decide) d_T_keep_19 (fun H l1 hP hS => ?_)
  refine lv_iinc (v := 0) (lv' := [(2, .int 0), (0, .ref (ad (2 + i))), (1, .int x)]) K.hx K.hb d_T_keep_20 hl (k := 0) rfl (by decide) (by decide) rfl (fun ls hl => ?_)
  refine lv_goto (tgt := 2) K.hx K.hb d_T_keep_23 (by decide) ?_
  refine lv_iload_n K.hx K.hb d_T_keep_2 rfl (lv_at hl 0 rfl) ?_
  refine lv_if_le (tgt := 26) K.hx K.hb d_T_keep_3 (by decide) (fun _ => ?_) (fun c_3_4 => (show False from by revert c_3_4; decide).elim)
  refine lv_aload_n K.hx K.hb d_T_keep_26 rfl (lv_at hl 1 rfl) ?_
  refine g_get K.1 hP (2 + i) (by have := hi; omega) (eT hi) rfl i_T 4 (by decide) rfl (Or.inl kw_60) rfl d_T_keep_27 ?_
  refine lv_iconst (v := 0) K.hx K.hb d_T_keep_30 (by decide) ?_
  refine lv_iload_n K.hx K.hb d_T_keep_31 rfl (lv_at hl 2 rfl) ?_
  refine g_iast K.1 hP hS (10 + i) (by have := hi; omega) (fun _ => eH hi) 0 rfl (0) rfl (by decide) (by decide) d_T_keep_32 (fun H l1 hP hS => ?_)
  exact ce_v K hP hS ⟨rfl, (kp_eq v i x).symm, rfl⟩ (Nat.le_of_ble_eq_true rfl) (Nat.le_of_ble_eq_true rfl) d_T_keep_33
set_option maxHeartbeats 4000000 in
set_option maxRecDepth 100000 in
theorem c_T_begin (l : Launch) (D : va_G) (cs : Nat → ClassId) (ad : Nat → Nat) (v : Nat → Nat → Int32) (sd : Int64) {i : Nat} (hi : i < 8) (x y : Int32)  : Cm l y_T_begin b_T_begin 3 none (rmx 0 0) [.ref (ad (2 + i)), .int x, .int y] D cs ad v sd (fun r v' sd' => r = none ∧ u2 (u2 (u2 v (2 + i) 0 x) (2 + i) 1 y) (2 + i) 3 1 = v' ∧ sd = sd') (fun cls => False) := by
  refine cw_enter (own := "WearHours$Thing") rfl (Nat.le_of_ble_eq_true rfl) ?_
  intro p e s m below meth c ls K hS hP hl
  have hl : lv_has ls 3 [(0, .ref (ad (2 + i))), (1, .int x), (2, .int y)] := hl
  refine lv_aload_n K.hx K.hb d_T_begin_0 rfl (lv_at hl 0 rfl) ?_
  refine lv_iload_n K.hx K.hb d_T_begin_1 rfl (lv_at hl 1 rfl) ?_
  refine g_puti K.1 hP hS (2 + i) (by have := hi; omega) (eT hi) rfl i_T ft_T ft_T_ok n_T 0 (by decide) rfl (Or.inl kw_53) rfl rfl rfl (Nat.le_of_ble_eq_true rfl) (by rw [eT hi]; rfl) d_T_begin_2 (fun H l1 hP hS => ?_)
  refine lv_aload_n K.hx K.hb d_T_begin_5 rfl (lv_at hl 0 rfl) ?_
  refine lv_iload_n K.hx K.hb d_T_begin_6 rfl (lv_at hl 2 rfl) ?_
  refine g_puti K.1 hP hS (2 + i) (by have := hi; omega) (eT hi) rfl i_T ft_T ft_T_ok n_T 1 (by decide) rfl (Or.inl kw_55) rfl rfl rfl (Nat.le_of_ble_eq_true rfl) (by rw [eT hi]; rfl) d_T_begin_7 (fun H l1 hP hS => ?_)
  refine lv_aload_n K.hx K.hb d_T_begin_10 rfl (lv_at hl 0 rfl) ?_
  refine lv_iconst (v := 1) K.hx K.hb d_T_begin_11 (by decide) ?_
  refine g_puti K.1 hP hS (2 + i) (by have := hi; omega) (eT hi) rfl i_T ft_T ft_T_ok n_T 3 (by decide) rfl (Or.inl kw_58) rfl rfl rfl (Nat.le_of_ble_eq_true rfl) (by rw [eT hi]; rfl) d_T_begin_12 (fun H l1 hP hS => ?_)
  exact ce_v K hP hS ⟨rfl, rfl, rfl⟩ (Nat.le_of_ble_eq_true rfl) (Nat.le_of_ble_eq_true rfl) d_T_begin_15
set_option maxHeartbeats 4000000 in
set_option maxRecDepth 100000 in
theorem c_T_isBarred (l : Launch) (D : va_G) (cs : Nat → ClassId) (ad : Nat → Nat) (v : Nat → Nat → Int32) (sd : Int64) {i : Nat} (hi : i < 8)  : Cm l y_T_isBarred b_T_isBarred 1 (some .boolean) (rmx 0 0) [.ref (ad (2 + i))] D cs ad v sd (fun r v' sd' => r = some (.int (barZ v i)) ∧ v = v' ∧ sd = sd') (fun cls => False) := by
  refine cw_enter (own := "WearHours$Thing") rfl (Nat.le_of_ble_eq_true rfl) ?_
  intro p e s m below meth c ls K hS hP hl
  have hl : lv_has ls 1 [(0, .ref (ad (2 + i)))] := hl
  refine lv_aload_n K.hx K.hb d_T_isBarred_0 rfl (lv_at hl 0 rfl) ?_
  refine g_get K.1 hP (2 + i) (by have := hi; omega) (eT hi) rfl i_T 3 (by decide) rfl (Or.inl kw_58) rfl d_T_isBarred_1 ?_
  refine lv_if_eq (tgt := 18) K.hx K.hb d_T_isBarred_4 (by decide) (fun c_4 => ?_) (fun c_4 => ?_)
  · refine lv_iconst (v := 1) K.hx K.hb d_T_isBarred_18 (by decide) ?_
    refine lv_goto (tgt := 23) K.hx K.hb d_T_isBarred_19 (by decide) ?_
    exact ce_z K hP hS rfl ⟨by rw [show barZ v i = 1 from by simp [barZ, *]], rfl, rfl⟩ (Nat.le_of_ble_eq_true rfl) (Nat.le_of_ble_eq_true rfl) d_T_isBarred_23
  · refine lv_aload_n K.hx K.hb d_T_isBarred_7 rfl (lv_at hl 0 rfl) ?_
    refine g_get K.1 hP (2 + i) (by have := hi; omega) (eT hi) rfl i_T 2 (by decide) rfl (Or.inl kw_56) rfl d_T_isBarred_8 ?_
    refine lv_aload_n K.hx K.hb d_T_isBarred_11 rfl (lv_at hl 0 rfl) ?_
    refine g_get K.1 hP (2 + i) (by have := hi; omega) (eT hi) rfl i_T 1 (by decide) rfl (Or.inl kw_55) rfl d_T_isBarred_12 ?_
    refine lv_icmp_lt (tgt := 22) K.hx K.hb d_T_isBarred_15 (by decide) (fun c_15 => ?_) (fun c_15 => ?_)
    · refine lv_iconst (v := 0) K.hx K.hb d_T_isBarred_22 (by decide) ?_
      exact ce_z K hP hS rfl ⟨by rw [show barZ v i = 0 from by simp [barZ, *]], rfl, rfl⟩ (Nat.le_of_ble_eq_true rfl) (Nat.le_of_ble_eq_true rfl) d_T_isBarred_23
    · refine lv_iconst (v := 1) K.hx K.hb d_T_isBarred_18 (by decide) ?_
      refine lv_goto (tgt := 23) K.hx K.hb d_T_isBarred_19 (by decide) ?_
      exact ce_z K hP hS rfl ⟨by rw [show barZ v i = 1 from by simp [barZ, *]], rfl, rfl⟩ (Nat.le_of_ble_eq_true rfl) (Nat.le_of_ble_eq_true rfl) d_T_isBarred_23
set_option maxHeartbeats 4000000 in
set_option maxRecDepth 100000 in
theorem c_T_unitsToBound (l : Launch) (D : va_G) (cs : Nat → ClassId) (ad : Nat → Nat) (v : Nat → Nat → Int32) (sd : Int64) {i : Nat} (hi : i < 8)  : Cm l y_T_unitsToBound b_T_unitsToBound 1 (some .int) (rmx 0 0) [.ref (ad (2 + i))] D cs ad v sd (fun r v' sd' => r = some (.int (if 0 < v (2 + i) 1 - v (2 + i) 2 then v (2 + i) 1 - v (2 + i) 2 else 0)) ∧ v = v' ∧ sd = sd') (fun cls => False) := by
  refine cw_enter (own := "WearHours$Thing") rfl (Nat.le_of_ble_eq_true rfl) ?_
  intro p e s m below meth c ls K hS hP hl
  have hl : lv_has ls 1 [(0, .ref (ad (2 + i)))] := hl
  refine lv_iconst (v := 0) K.hx K.hb d_T_unitsToBound_0 (by decide) ?_
  refine lv_aload_n K.hx K.hb d_T_unitsToBound_1 rfl (lv_at hl 0 rfl) ?_
  refine g_get K.1 hP (2 + i) (by have := hi; omega) (eT hi) rfl i_T 1 (by decide) rfl (Or.inl kw_55) rfl d_T_unitsToBound_2 ?_
  refine lv_aload_n K.hx K.hb d_T_unitsToBound_5 rfl (lv_at hl 0 rfl) ?_
  refine g_get K.1 hP (2 + i) (by have := hi; omega) (eT hi) rfl i_T 2 (by decide) rfl (Or.inl kw_56) rfl d_T_unitsToBound_6 ?_
  refine lv_isub K.hx K.hb d_T_unitsToBound_9 ?_
  refine va_mmax K.hx K.hb (K.1.1.2.2.1.trans hl.1.symm) K.1.1.2.2.2.1 (K.1.1.2.2.2.2 _ kw_484) (K.1.1.2.2.2.2 _ kw_274) (K.1.1.2.2.2.2 _ kw_37) (K.1.1.2.2.2.2 _ kw_275) (Nat.le_of_ble_eq_true rfl) (Nat.le_of_ble_eq_true rfl) (Nat.le_of_ble_eq_true rfl) (Nat.le_of_ble_eq_true rfl) d_T_unitsToBound_10 ?_
  exact ce_i K hP hS ⟨rfl, rfl, rfl⟩ (Nat.le_of_ble_eq_true rfl) (Nat.le_of_ble_eq_true rfl) d_T_unitsToBound_13
set_option maxHeartbeats 4000000 in
set_option maxRecDepth 100000 in
theorem c_T_wear (l : Launch) (D : va_G) (cs : Nat → ClassId) (ad : Nat → Nat) (v : Nat → Nat → Int32) (sd : Int64) {i : Nat} (hi : i < 8) (x : Int32)  : Cm l y_T_wear b_T_wear 2 none (rmx 1 0) [.ref (ad (2 + i)), .int x] D cs ad v sd (fun r v' sd' => r = none ∧ kp (u2 v (2 + i) 2 (v (2 + i) 2 + x)) i x = v' ∧ sd = sd') (fun cls => False) := by
  refine cw_enter (own := "WearHours$Thing") rfl (Nat.le_of_ble_eq_true rfl) ?_
  intro p e s m below meth c ls K hS hP hl
  have hl : lv_has ls 2 [(0, .ref (ad (2 + i))), (1, .int x)] := hl
  refine lv_aload_n K.hx K.hb d_T_wear_0 rfl (lv_at hl 0 rfl) ?_
  refine lv_dup K.hx K.hb d_T_wear_1 rfl ?_
  refine g_get K.1 hP (2 + i) (by have := hi; omega) (eT hi) rfl i_T 2 (by decide) rfl (Or.inl kw_56) rfl d_T_wear_2 ?_
  refine lv_iload_n K.hx K.hb d_T_wear_5 rfl (lv_at hl 1 rfl) ?_
  refine lv_iadd K.hx K.hb d_T_wear_6 ?_
  refine g_puti K.1 hP hS (2 + i) (by have := hi; omega) (eT hi) rfl i_T ft_T ft_T_ok n_T 2 (by decide) rfl (Or.inl kw_56) rfl rfl rfl (Nat.le_of_ble_eq_true rfl) (by rw [eT hi]; rfl) d_T_wear_7 (fun H l1 hP hS => ?_)
  refine lv_aload_n K.hx K.hb d_T_wear_10 rfl (lv_at hl 0 rfl) ?_
  refine lv_iload_n K.hx K.hb d_T_wear_11 rfl (lv_at hl 1 rfl) ?_
  refine cc_V K hP hS (c_T_keep l D cs ad _ _ hi x) kw_468 xm_T_keep kw_465 kw_467 kw_10 (g_recv K.1.2.1 hP (2 + i) (by have := hi; omega) (eT hi) rfl) rfl hl.1 d_T_wear_12 (Nat.le_of_ble_eq_true rfl) (Nat.le_of_ble_eq_true rfl) ⟨(Nat.le_of_ble_eq_true rfl), (Nat.le_of_ble_eq_true rfl)⟩ (fun r v1 sd1 H l1 hp hP hS => ?_)
  obtain ⟨rfl, rfl, rfl⟩ := hp
  exact ce_v K hP hS ⟨rfl, rfl, rfl⟩ (Nat.le_of_ble_eq_true rfl) (Nat.le_of_ble_eq_true rfl) d_T_wear_15
set_option maxHeartbeats 4000000 in
set_option maxRecDepth 100000 in
theorem c_T_mend (l : Launch) (D : va_G) (cs : Nat → ClassId) (ad : Nat → Nat) (v : Nat → Nat → Int32) (sd : Int64) {i : Nat} (hi : i < 8)  : Cm l y_T_mend b_T_mend 1 none (rmx 1 0) [.ref (ad (2 + i))] D cs ad v sd (fun r v' sd' => r = none ∧ kp (u2 v (2 + i) 2 0) i (-1) = v' ∧ sd = sd') (fun cls => False) := by
  refine cw_enter (own := "WearHours$Thing") rfl (Nat.le_of_ble_eq_true rfl) ?_
  intro p e s m below meth c ls K hS hP hl
  have hl : lv_has ls 1 [(0, .ref (ad (2 + i)))] := hl
  refine lv_aload_n K.hx K.hb d_T_mend_0 rfl (lv_at hl 0 rfl) ?_
  refine lv_iconst (v := 0) K.hx K.hb d_T_mend_1 (by decide) ?_
  refine g_puti K.1 hP hS (2 + i) (by have := hi; omega) (eT hi) rfl i_T ft_T ft_T_ok n_T 2 (by decide) rfl (Or.inl kw_56) rfl rfl rfl (Nat.le_of_ble_eq_true rfl) (by rw [eT hi]; rfl) d_T_mend_2 (fun H l1 hP hS => ?_)
  refine lv_aload_n K.hx K.hb d_T_mend_5 rfl (lv_at hl 0 rfl) ?_
  refine lv_iconst (v := (-1)) K.hx K.hb d_T_mend_6 (by decide) ?_
  refine cc_V K hP hS (c_T_keep l D cs ad _ _ hi (-1)) kw_468 xm_T_keep kw_465 kw_467 kw_10 (g_recv K.1.2.1 hP (2 + i) (by have := hi; omega) (eT hi) rfl) rfl hl.1 d_T_mend_7 (Nat.le_of_ble_eq_true rfl) (Nat.le_of_ble_eq_true rfl) ⟨(Nat.le_of_ble_eq_true rfl), (Nat.le_of_ble_eq_true rfl)⟩ (fun r v1 sd1 H l1 hp hP hS => ?_)
  obtain ⟨rfl, rfl, rfl⟩ := hp
  exact ce_v K hP hS ⟨rfl, rfl, rfl⟩ (Nat.le_of_ble_eq_true rfl) (Nat.le_of_ble_eq_true rfl) d_T_mend_10
set_option maxHeartbeats 4000000 in
set_option maxRecDepth 100000 in
theorem c_T_setPermit (l : Launch) (D : va_G) (cs : Nat → ClassId) (ad : Nat → Nat) (v : Nat → Nat → Int32) (sd : Int64) {i : Nat} (hi : i < 8) (x : Int32) (h_x : x = 0 ∨ x = 1) : Cm l y_T_setPermit b_T_setPermit 2 none (rmx 1 0) [.ref (ad (2 + i)), .int x] D cs ad v sd (fun r v' sd' => r = none ∧ kp (u2 v (2 + i) 3 x) i (if x = 0 then -2 else -3) = v' ∧ sd = sd') (fun cls => False) := by
  refine cw_enter (own := "WearHours$Thing") rfl (Nat.le_of_ble_eq_true rfl) ?_
  intro p e s m below meth c ls K hS hP hl
  have hl : lv_has ls 2 [(0, .ref (ad (2 + i))), (1, .int x)] := hl
  refine lv_aload_n K.hx K.hb d_T_setPermit_0 rfl (lv_at hl 0 rfl) ?_
  refine lv_iload_n K.hx K.hb d_T_setPermit_1 rfl (lv_at hl 1 rfl) ?_
  refine g_puti K.1 hP hS (2 + i) (by have := hi; omega) (eT hi) rfl i_T ft_T ft_T_ok n_T 3 (by decide) rfl (Or.inl kw_58) rfl (by rcases h_x with h | h <;> rw [h] <;> rfl) (by rcases h_x with h | h <;> rw [h] <;> rfl) (Nat.le_of_ble_eq_true rfl) (by rw [eT hi]; rfl) d_T_setPermit_2 (fun H l1 hP hS => ?_)
  refine lv_aload_n K.hx K.hb d_T_setPermit_5 rfl (lv_at hl 0 rfl) ?_
  refine lv_iload_n K.hx K.hb d_T_setPermit_6 rfl (lv_at hl 1 rfl) ?_
  refine lv_if_eq (tgt := 15) K.hx K.hb d_T_setPermit_7 (by decide) (fun c_7 => ?_) (fun c_7 => ?_)
  · refine lv_bipush (v := (-2)) K.hx K.hb d_T_setPermit_15 (by decide) ?_
    refine cc_V K hP hS (c_T_keep l D cs ad _ _ hi (-2)) kw_468 xm_T_keep kw_465 kw_467 kw_10 (g_recv K.1.2.1 hP (2 + i) (by have := hi; omega) (eT hi) rfl) rfl hl.1 d_T_setPermit_17 (Nat.le_of_ble_eq_true rfl) (Nat.le_of_ble_eq_true rfl) ⟨(Nat.le_of_ble_eq_true rfl), (Nat.le_of_ble_eq_true rfl)⟩ (fun r v1 sd1 H l1 hp hP hS => ?_)
    obtain ⟨rfl, rfl, rfl⟩ := hp
    exact ce_v K hP hS ⟨rfl, by simp [*], rfl⟩ (Nat.le_of_ble_eq_true rfl) (Nat.le_of_ble_eq_true rfl) d_T_setPermit_20
  · refine lv_bipush (v := (-3)) K.hx K.hb d_T_setPermit_10 (by decide) ?_
    refine lv_goto (tgt := 17) K.hx K.hb d_T_setPermit_12 (by decide) ?_
    refine cc_V K hP hS (c_T_keep l D cs ad _ _ hi (-3)) kw_468 xm_T_keep kw_465 kw_467 kw_10 (g_recv K.1.2.1 hP (2 + i) (by have := hi; omega) (eT hi) rfl) rfl hl.1 d_T_setPermit_17 (Nat.le_of_ble_eq_true rfl) (Nat.le_of_ble_eq_true rfl) ⟨(Nat.le_of_ble_eq_true rfl), (Nat.le_of_ble_eq_true rfl)⟩ (fun r v1 sd1 H l1 hp hP hS => ?_)
    obtain ⟨rfl, rfl, rfl⟩ := hp
    exact ce_v K hP hS ⟨rfl, by simp [*], rfl⟩ (Nat.le_of_ble_eq_true rfl) (Nat.le_of_ble_eq_true rfl) d_T_setPermit_20
theorem chg_ix {x : Int32} (h1 : ¬ x < 0) (h2 : ¬ 5 ≤ x) : ∃ j : Nat, j < 5 ∧ x = nI j := by
  obtain ⟨j, hj, rfl⟩ := nI_of h1
  refine ⟨j, ?_, rfl⟩
  by_cases h : j < 5
  · exact h
  · exact absurd (nI_le (a := 5) (b := j) (by omega) hj) h2
set_option maxHeartbeats 4000000 in
set_option maxRecDepth 100000 in
theorem c_T_change (l : Launch) (D : va_G) (cs : Nat → ClassId) (ad : Nat → Nat) (v : Nat → Nat → Int32) (sd : Int64) {i : Nat} (hi : i < 8) (x : Int32)  : Cm l y_T_change b_T_change 2 (some .int) (rmx 0 0) [.ref (ad (2 + i)), .int x] D cs ad v sd (fun r v' sd' => r = some (.int (if x < 0 then 0 else if 5 ≤ x then 0 else v (10 + i) x.toNatClampNeg)) ∧ v = v' ∧ sd = sd') (fun cls => False) := by
  refine cw_enter (own := "WearHours$Thing") rfl (Nat.le_of_ble_eq_true rfl) ?_
  intro p e s m below meth c ls K hS hP hl
  have hl : lv_has ls 2 [(0, .ref (ad (2 + i))), (1, .int x)] := hl
  refine lv_iload_n K.hx K.hb d_T_change_0 rfl (lv_at hl 1 rfl) ?_
  refine lv_if_lt (tgt := 18) K.hx K.hb d_T_change_1 (by decide) (fun c_1 => ?_) (fun c_1 => ?_)
  · refine lv_iconst (v := 0) K.hx K.hb d_T_change_18 (by decide) ?_
    exact ce_i K hP hS ⟨by simp [*], rfl, rfl⟩ (Nat.le_of_ble_eq_true rfl) (Nat.le_of_ble_eq_true rfl) d_T_change_19
  · refine lv_iload_n K.hx K.hb d_T_change_4 rfl (lv_at hl 1 rfl) ?_
    refine lv_iconst (v := 5) K.hx K.hb d_T_change_5 (by decide) ?_
    refine lv_icmp_ge (tgt := 18) K.hx K.hb d_T_change_6 (by decide) (fun c_6 => ?_) (fun c_6 => ?_)
    · refine lv_iconst (v := 0) K.hx K.hb d_T_change_18 (by decide) ?_
      exact ce_i K hP hS ⟨by simp [*], rfl, rfl⟩ (Nat.le_of_ble_eq_true rfl) (Nat.le_of_ble_eq_true rfl) d_T_change_19
    · obtain ⟨j, hj, rfl⟩ : ∃ j : Nat, j < 5 ∧ x = nI j := chg_ix ‹_› ‹_›
      refine lv_aload_n K.hx K.hb d_T_change_9 rfl (lv_at hl 0 rfl) ?_
      refine g_get K.1 hP (2 + i) (by have := hi; omega) (eT hi) rfl i_T 4 (by decide) rfl (Or.inl kw_60) rfl d_T_change_10 ?_
      refine lv_iload_n K.hx K.hb d_T_change_13 rfl (lv_at hl 1 rfl) ?_
      refine g_iald K.1 hP (10 + i) (by have := hi; omega) (eH hi) 0 rfl (j) rfl (by have := hj; omega) (by decide) d_T_change_14 ?_
      refine lv_goto (tgt := 19) K.hx K.hb d_T_change_15 (by decide) ?_
      exact ce_i K hP hS ⟨by simp only [nI_clamp (show j < 2 ^ 31 by omega), if_neg c_1, if_neg c_6], rfl, rfl⟩ (Nat.le_of_ble_eq_true rfl) (Nat.le_of_ble_eq_true rfl) d_T_change_19
end
section
set_option maxHeartbeats 4000000 in
set_option maxRecDepth 100000 in
theorem c_W_isWithin (l : Launch) (D : va_G) (cs : Nat → ClassId) (ad : Nat → Nat) (v : Nat → Nat → Int32) (sd : Int64) (x a b : Int32)  : Cm l y_W_isWithin b_W_isWithin 3 (some .boolean) (rmx 0 0) [.int x, .int a, .int b] D cs ad v sd (fun r v' sd' => r = some (.int (wthZ x a b)) ∧ v = v' ∧ sd = sd') (fun cls => False) := by
  refine cw_enter (own := "WearHours") rfl (Nat.le_of_ble_eq_true rfl) ?_
  intro p e s m below meth c ls K hS hP hl
  have hl : lv_has ls 3 [(0, .int x), (1, .int a), (2, .int b)] := hl
  refine lv_iload_n K.hx K.hb d_W_isWithin_0 rfl (lv_at hl 0 rfl) ?_
  refine lv_iload_n K.hx K.hb d_W_isWithin_1 rfl (lv_at hl 1 rfl) ?_
  refine lv_icmp_lt (tgt := 14) K.hx K.hb d_W_isWithin_2 (by decide) (fun c_2 => ?_) (fun c_2 => ?_)
  · refine lv_iconst (v := 0) K.hx K.hb d_W_isWithin_14 (by decide) ?_
    exact ce_z K hP hS rfl ⟨by rw [show wthZ x a b = 0 from by simp [wthZ, *]], rfl, rfl⟩ (Nat.le_of_ble_eq_true rfl) (Nat.le_of_ble_eq_true rfl) d_W_isWithin_15
  · refine lv_iload_n K.hx K.hb d_W_isWithin_5 rfl (lv_at hl 0 rfl) ?_
    refine lv_iload_n K.hx K.hb d_W_isWithin_6 rfl (lv_at hl 2 rfl) ?_
    refine lv_icmp_gt (tgt := 14) K.hx K.hb d_W_isWithin_7 (by decide) (fun c_7 => ?_) (fun c_7 => ?_)
    · refine lv_iconst (v := 0) K.hx K.hb d_W_isWithin_14 (by decide) ?_
      exact ce_z K hP hS rfl ⟨by rw [show wthZ x a b = 0 from by simp [wthZ, *]], rfl, rfl⟩ (Nat.le_of_ble_eq_true rfl) (Nat.le_of_ble_eq_true rfl) d_W_isWithin_15
    · refine lv_iconst (v := 1) K.hx K.hb d_W_isWithin_10 (by decide) ?_
      refine lv_goto (tgt := 15) K.hx K.hb d_W_isWithin_11 (by decide) ?_
      exact ce_z K hP hS rfl ⟨by rw [show wthZ x a b = 1 from by simp [wthZ, *]], rfl, rfl⟩ (Nat.le_of_ble_eq_true rfl) (Nat.le_of_ble_eq_true rfl) d_W_isWithin_15
set_option maxHeartbeats 4000000 in
set_option maxRecDepth 100000 in
theorem c_W_checkWhat (l : Launch) (D : va_G) (cs : Nat → ClassId) (ad : Nat → Nat) (v : Nat → Nat → Int32) (sd : Int64) (hfl : l.flags = flags0) (x : Int32)  : Cm l y_W_checkWhat b_W_checkWhat 1 none (rmx 0 1) [.int x] D cs ad v sd (fun r v' sd' => (¬ x < 0 ∧ x < 3) ∧ r = none ∧ v = v' ∧ sd = sd') (fun cls => (x < 0 ∨ ¬ x < 3) ∧ cls = "java/lang/IndexOutOfBoundsException") := by
  refine cw_enter (own := "WearHours") rfl (Nat.le_of_ble_eq_true rfl) ?_
  intro p e s m below meth c ls K hS hP hl
  have hl : lv_has ls 1 [(0, .int x)] := hl
  refine lv_iload_n K.hx K.hb d_W_checkWhat_0 rfl (lv_at hl 0 rfl) ?_
  refine lv_if_lt (tgt := 9) K.hx K.hb d_W_checkWhat_1 (by decide) (fun c_1 => ?_) (fun c_1 => ?_)
  · exact ce_t K hP hS hfl kw_424 kw_35 xa_IOE rfl (text := "what is 0 to 2") (by decide) hl.1 d_W_checkWhat_9 d_W_checkWhat_12 d_W_checkWhat_13 d_W_checkWhat_15 d_W_checkWhat_18 (Nat.le_of_ble_eq_true rfl) (Nat.le_of_ble_eq_true rfl) (Nat.le_of_ble_eq_true rfl) (Nat.le_of_ble_eq_true rfl) (Nat.le_of_ble_eq_true rfl) (Nat.le_of_ble_eq_true rfl) ⟨by first | exact Or.inl ‹_› | exact Or.inr ‹_›, rfl⟩
  · refine lv_iload_n K.hx K.hb d_W_checkWhat_4 rfl (lv_at hl 0 rfl) ?_
    refine lv_iconst (v := 3) K.hx K.hb d_W_checkWhat_5 (by decide) ?_
    refine lv_icmp_lt (tgt := 19) K.hx K.hb d_W_checkWhat_6 (by decide) (fun c_6 => ?_) (fun c_6 => ?_)
    · exact ce_v K hP hS ⟨⟨‹_›, ‹_›⟩, rfl, rfl, rfl⟩ (Nat.le_of_ble_eq_true rfl) (Nat.le_of_ble_eq_true rfl) d_W_checkWhat_19
    · exact ce_t K hP hS hfl kw_424 kw_35 xa_IOE rfl (text := "what is 0 to 2") (by decide) hl.1 d_W_checkWhat_9 d_W_checkWhat_12 d_W_checkWhat_13 d_W_checkWhat_15 d_W_checkWhat_18 (Nat.le_of_ble_eq_true rfl) (Nat.le_of_ble_eq_true rfl) (Nat.le_of_ble_eq_true rfl) (Nat.le_of_ble_eq_true rfl) (Nat.le_of_ble_eq_true rfl) (Nat.le_of_ble_eq_true rfl) ⟨by first | exact Or.inl ‹_› | exact Or.inr ‹_›, rfl⟩
set_option maxHeartbeats 4000000 in
set_option maxRecDepth 100000 in
theorem c_W_checkSkill (l : Launch) (D : va_G) (cs : Nat → ClassId) (ad : Nat → Nat) (v : Nat → Nat → Int32) (sd : Int64) (hfl : l.flags = flags0) (x : Int32)  : Cm l y_W_checkSkill b_W_checkSkill 1 none (rmx 0 1) [.int x] D cs ad v sd (fun r v' sd' => (¬ x < 0 ∧ x < 4) ∧ r = none ∧ v = v' ∧ sd = sd') (fun cls => (x < 0 ∨ ¬ x < 4) ∧ cls = "java/lang/IllegalArgumentException") := by
  refine cw_enter (own := "WearHours") rfl (Nat.le_of_ble_eq_true rfl) ?_
  intro p e s m below meth c ls K hS hP hl
  have hl : lv_has ls 1 [(0, .int x)] := hl
  refine lv_iload_n K.hx K.hb d_W_checkSkill_0 rfl (lv_at hl 0 rfl) ?_
  refine lv_if_lt (tgt := 9) K.hx K.hb d_W_checkSkill_1 (by decide) (fun c_1 => ?_) (fun c_1 => ?_)
  · exact ce_t K hP hS hfl kw_322 kw_33 xa_IAE rfl (text := "a skill is 0 to 3") (by decide) hl.1 d_W_checkSkill_9 d_W_checkSkill_12 d_W_checkSkill_13 d_W_checkSkill_15 d_W_checkSkill_18 (Nat.le_of_ble_eq_true rfl) (Nat.le_of_ble_eq_true rfl) (Nat.le_of_ble_eq_true rfl) (Nat.le_of_ble_eq_true rfl) (Nat.le_of_ble_eq_true rfl) (Nat.le_of_ble_eq_true rfl) ⟨by first | exact Or.inl ‹_› | exact Or.inr ‹_›, rfl⟩
  · refine lv_iload_n K.hx K.hb d_W_checkSkill_4 rfl (lv_at hl 0 rfl) ?_
    refine lv_iconst (v := 4) K.hx K.hb d_W_checkSkill_5 (by decide) ?_
    refine lv_icmp_lt (tgt := 19) K.hx K.hb d_W_checkSkill_6 (by decide) (fun c_6 => ?_) (fun c_6 => ?_)
    · exact ce_v K hP hS ⟨⟨‹_›, ‹_›⟩, rfl, rfl, rfl⟩ (Nat.le_of_ble_eq_true rfl) (Nat.le_of_ble_eq_true rfl) d_W_checkSkill_19
    · exact ce_t K hP hS hfl kw_322 kw_33 xa_IAE rfl (text := "a skill is 0 to 3") (by decide) hl.1 d_W_checkSkill_9 d_W_checkSkill_12 d_W_checkSkill_13 d_W_checkSkill_15 d_W_checkSkill_18 (Nat.le_of_ble_eq_true rfl) (Nat.le_of_ble_eq_true rfl) (Nat.le_of_ble_eq_true rfl) (Nat.le_of_ble_eq_true rfl) (Nat.le_of_ble_eq_true rfl) (Nat.le_of_ble_eq_true rfl) ⟨by first | exact Or.inl ‹_› | exact Or.inr ‹_›, rfl⟩
set_option maxHeartbeats 4000000 in
set_option maxRecDepth 100000 in
theorem c_W_checkHours (l : Launch) (D : va_G) (cs : Nat → ClassId) (ad : Nat → Nat) (v : Nat → Nat → Int32) (sd : Int64) (hfl : l.flags = flags0) (x y : Int32)  : Cm l y_W_checkHours b_W_checkHours 2 none (rmx 0 1) [.int x, .int y] D cs ad v sd (fun r v' sd' => (¬ x < 0 ∧ ¬ 168 < y ∧ x < y) ∧ r = none ∧ v = v' ∧ sd = sd') (fun cls => ¬ (¬ x < 0 ∧ ¬ 168 < y ∧ x < y) ∧ cls = "java/lang/IllegalArgumentException") := by
  refine cw_enter (own := "WearHours") rfl (Nat.le_of_ble_eq_true rfl) ?_
  intro p e s m below meth c ls K hS hP hl
  have hl : lv_has ls 2 [(0, .int x), (1, .int y)] := hl
  refine lv_iload_n K.hx K.hb d_W_checkHours_0 rfl (lv_at hl 0 rfl) ?_
  refine lv_if_lt (tgt := 16) K.hx K.hb d_W_checkHours_1 (by decide) (fun c_1 => ?_) (fun c_1 => ?_)
  · exact ce_t K hP hS hfl kw_322 kw_33 xa_IAE rfl (text := "hours are 0 to 168, the second behind the first") (by decide) hl.1 d_W_checkHours_16 d_W_checkHours_19 d_W_checkHours_20 d_W_checkHours_22 d_W_checkHours_25 (Nat.le_of_ble_eq_true rfl) (Nat.le_of_ble_eq_true rfl) (Nat.le_of_ble_eq_true rfl) (Nat.le_of_ble_eq_true rfl) (Nat.le_of_ble_eq_true rfl) (Nat.le_of_ble_eq_true rfl) ⟨by intro h; simp_all, rfl⟩
  · refine lv_iload_n K.hx K.hb d_W_checkHours_4 rfl (lv_at hl 1 rfl) ?_
    refine lv_sipush (v := 168) K.hx K.hb d_W_checkHours_5 (by decide) ?_
    refine lv_icmp_gt (tgt := 16) K.hx K.hb d_W_checkHours_8 (by decide) (fun c_8 => ?_) (fun c_8 => ?_)
    · exact ce_t K hP hS hfl kw_322 kw_33 xa_IAE rfl (text := "hours are 0 to 168, the second behind the first") (by decide) hl.1 d_W_checkHours_16 d_W_checkHours_19 d_W_checkHours_20 d_W_checkHours_22 d_W_checkHours_25 (Nat.le_of_ble_eq_true rfl) (Nat.le_of_ble_eq_true rfl) (Nat.le_of_ble_eq_true rfl) (Nat.le_of_ble_eq_true rfl) (Nat.le_of_ble_eq_true rfl) (Nat.le_of_ble_eq_true rfl) ⟨by intro h; simp_all, rfl⟩
    · refine lv_iload_n K.hx K.hb d_W_checkHours_11 rfl (lv_at hl 1 rfl) ?_
      refine lv_iload_n K.hx K.hb d_W_checkHours_12 rfl (lv_at hl 0 rfl) ?_
      refine lv_icmp_gt (tgt := 26) K.hx K.hb d_W_checkHours_13 (by decide) (fun c_13 => ?_) (fun c_13 => ?_)
      · exact ce_v K hP hS ⟨⟨‹_›, ‹_›, ‹_›⟩, rfl, rfl, rfl⟩ (Nat.le_of_ble_eq_true rfl) (Nat.le_of_ble_eq_true rfl) d_W_checkHours_26
      · exact ce_t K hP hS hfl kw_322 kw_33 xa_IAE rfl (text := "hours are 0 to 168, the second behind the first") (by decide) hl.1 d_W_checkHours_16 d_W_checkHours_19 d_W_checkHours_20 d_W_checkHours_22 d_W_checkHours_25 (Nat.le_of_ble_eq_true rfl) (Nat.le_of_ble_eq_true rfl) (Nat.le_of_ble_eq_true rfl) (Nat.le_of_ble_eq_true rfl) (Nat.le_of_ble_eq_true rfl) (Nat.le_of_ble_eq_true rfl) ⟨by intro h; simp_all, rfl⟩
set_option maxHeartbeats 4000000 in
set_option maxRecDepth 100000 in
theorem c_W_checkPlan (l : Launch) (D : va_G) (cs : Nat → ClassId) (ad : Nat → Nat) (v : Nat → Nat → Int32) (sd : Int64) (hfl : l.flags = flags0)  : Cm l y_W_checkPlan b_W_checkPlan 1 none (rmx 0 1) [.ref (ad 0)] D cs ad v sd (fun r v' sd' => ¬ v 38 4 = 0 ∧ r = none ∧ v = v' ∧ sd = sd') (fun cls => v 38 4 = 0 ∧ cls = "java/lang/IllegalStateException") := by
  refine cw_enter (own := "WearHours") rfl (Nat.le_of_ble_eq_true rfl) ?_
  intro p e s m below meth c ls K hS hP hl
  have hl : lv_has ls 1 [(0, .ref (ad 0))] := hl
  refine lv_aload_n K.hx K.hb d_W_checkPlan_0 rfl (lv_at hl 0 rfl) ?_
  refine g_get K.1 hP (0) (by decide) rfl rfl i_W 5 (by decide) rfl (Or.inl kw_227) rfl d_W_checkPlan_1 ?_
  refine g_get K.1 hP (38) (by decide) rfl rfl i_L 4 (by decide) rfl (Or.inr nw_202) rfl d_W_checkPlan_4 ?_
  refine lv_if_ne (tgt := 20) K.hx K.hb d_W_checkPlan_7 (by decide) (fun c_7 => ?_) (fun c_7 => ?_)
  · exact ce_v K hP hS ⟨‹_›, rfl, rfl, rfl⟩ (Nat.le_of_ble_eq_true rfl) (Nat.le_of_ble_eq_true rfl) d_W_checkPlan_20
  · exact ce_t K hP hS hfl kw_444 kw_36 xa_ISE rfl (text := "there is no plan") (by decide) hl.1 d_W_checkPlan_10 d_W_checkPlan_13 d_W_checkPlan_14 d_W_checkPlan_16 d_W_checkPlan_19 (Nat.le_of_ble_eq_true rfl) (Nat.le_of_ble_eq_true rfl) (Nat.le_of_ble_eq_true rfl) (Nat.le_of_ble_eq_true rfl) (Nat.le_of_ble_eq_true rfl) (Nat.le_of_ble_eq_true rfl) ⟨‹_›, rfl⟩
theorem ix_of {x : Int32} {n : Nat} (hn : n < 2 ^ 31) (h1 : ¬ x < 0) (h2 : x < nI n) : ∃ j : Nat, j < n ∧ x = nI j := by
  obtain ⟨j, hj, rfl⟩ := nI_of h1
  exact ⟨j, (nI_ltI hj hn).mp h2, rfl⟩
theorem ix_no {x : Int32} {n : Nat} (hn : n < 2 ^ 31) (h : x < 0 ∨ ¬ x < nI n) : ¬ ∃ j : Nat, j < n ∧ x = nI j := by
  rintro ⟨j, hj, rfl⟩
  rcases h with h | h
  · exact nI_pos (by omega) h
  · exact h (nI_lt hj hn)
set_option maxHeartbeats 4000000 in
set_option maxRecDepth 100000 in
theorem c_W_knownThing (l : Launch) (D : va_G) (cs : Nat → ClassId) (ad : Nat → Nat) (v : Nat → Nat → Int32) (sd : Int64) (hfl : l.flags = flags0) {tc : Nat} (htc : v 0 2 = nI tc) (ht8 : tc ≤ 8) (x : Int32)  : Cm l y_W_knownThing b_W_knownThing 2 (some (.object "WearHours$Thing")) (rmx 0 1) [.ref (ad 0), .int x] D cs ad v sd (fun r v' sd' => ∃ i, i < tc ∧ x = nI i ∧ r = some (.ref (ad (2 + i))) ∧ v = v' ∧ sd = sd') (fun cls => (¬ ∃ i, i < tc ∧ x = nI i) ∧ cls = "java/lang/IndexOutOfBoundsException") := by
  refine cw_enter (own := "WearHours") rfl (Nat.le_of_ble_eq_true rfl) ?_
  intro p e s m below meth c ls K hS hP hl
  have hl : lv_has ls 2 [(0, .ref (ad 0)), (1, .int x)] := hl
  refine lv_iload_n K.hx K.hb d_W_knownThing_0 rfl (lv_at hl 1 rfl) ?_
  refine lv_if_lt (tgt := 12) K.hx K.hb d_W_knownThing_1 (by decide) (fun c_1 => ?_) (fun c_1 => ?_)
  · exact ce_t K hP hS hfl kw_424 kw_35 xa_IOE rfl (text := "there is no such thing") (by decide) hl.1 d_W_knownThing_12 d_W_knownThing_15 d_W_knownThing_16 d_W_knownThing_18 d_W_knownThing_21 (Nat.le_of_ble_eq_true rfl) (Nat.le_of_ble_eq_true rfl) (Nat.le_of_ble_eq_true rfl) (Nat.le_of_ble_eq_true rfl) (Nat.le_of_ble_eq_true rfl) (Nat.le_of_ble_eq_true rfl) ⟨ix_no (by omega) (by first | exact Or.inl ‹_› | exact Or.inr (by rw [← htc]; assumption)), rfl⟩
  · refine lv_iload_n K.hx K.hb d_W_knownThing_4 rfl (lv_at hl 1 rfl) ?_
    refine lv_aload_n K.hx K.hb d_W_knownThing_5 rfl (lv_at hl 0 rfl) ?_
    refine g_get K.1 hP (0) (by decide) rfl rfl i_W 2 (by decide) rfl (Or.inl kw_224) rfl d_W_knownThing_6 ?_
    refine lv_icmp_lt (tgt := 22) K.hx K.hb d_W_knownThing_9 (by decide) (fun c_9 => ?_) (fun c_9 => ?_)
    · obtain ⟨i, hi, rfl⟩ := ix_of (n := tc) (by omega) ‹_› (by rw [← htc]; assumption)
      have hi8 : i < 8 := by omega
      refine lv_aload_n K.hx K.hb d_W_knownThing_22 rfl (lv_at hl 0 rfl) ?_
      refine g_get K.1 hP (0) (by decide) rfl rfl i_W 1 (by decide) rfl (Or.inl kw_223) rfl d_W_knownThing_23 ?_
      refine lv_iload_n K.hx K.hb d_W_knownThing_26 rfl (lv_at hl 1 rfl) ?_
      refine g_aald K.1 hP (1) (by decide) rfl 3 rfl (i) rfl (by have := hi8; omega) (by decide) rfl d_W_knownThing_27 ?_
      exact ce_a K hP hS ⟨i, hi, rfl, rfl, rfl, rfl⟩ (Nat.le_of_ble_eq_true rfl) (Nat.le_of_ble_eq_true rfl) d_W_knownThing_28
    · exact ce_t K hP hS hfl kw_424 kw_35 xa_IOE rfl (text := "there is no such thing") (by decide) hl.1 d_W_knownThing_12 d_W_knownThing_15 d_W_knownThing_16 d_W_knownThing_18 d_W_knownThing_21 (Nat.le_of_ble_eq_true rfl) (Nat.le_of_ble_eq_true rfl) (Nat.le_of_ble_eq_true rfl) (Nat.le_of_ble_eq_true rfl) (Nat.le_of_ble_eq_true rfl) (Nat.le_of_ble_eq_true rfl) ⟨ix_no (by omega) (by first | exact Or.inl ‹_› | exact Or.inr (by rw [← htc]; assumption)), rfl⟩
end
section
set_option maxHeartbeats 4000000 in
set_option maxRecDepth 100000 in
theorem c_R_isPlaced (l : Launch) (D : va_G) (cs : Nat → ClassId) (ad : Nat → Nat) (v : Nat → Nat → Int32) (sd : Int64) {i : Nat} (hi : i < 5)  : Cm l y_R_isPlaced b_R_isPlaced 1 (some .boolean) (rmx 0 0) [.ref (ad (33 + i))] D cs ad v sd (fun r v' sd' => r = some (.int (if v (33 + i) 4 = -1 then 0 else 1)) ∧ v = v' ∧ sd = sd') (fun cls => False) := by
  refine cw_enter (own := "WearHours$Repair") rfl (Nat.le_of_ble_eq_true rfl) ?_
  intro p e s m below meth c ls K hS hP hl
  have hl : lv_has ls 1 [(0, .ref (ad (33 + i)))] := hl
  refine lv_aload_n K.hx K.hb d_R_isPlaced_0 rfl (lv_at hl 0 rfl) ?_
  refine g_get K.1 hP (33 + i) (by have := hi; omega) (eR hi) rfl i_R 4 (by decide) rfl (Or.inl kw_132) rfl d_R_isPlaced_1 ?_
  refine lv_iconst (v := (-1)) K.hx K.hb d_R_isPlaced_4 (by decide) ?_
  refine lv_icmp_eq (tgt := 12) K.hx K.hb d_R_isPlaced_5 (by decide) (fun c_5 => ?_) (fun c_5 => ?_)
  · refine lv_iconst (v := 0) K.hx K.hb d_R_isPlaced_12 (by decide) ?_
    exact ce_z K hP hS rfl ⟨by simp [*], rfl, rfl⟩ (Nat.le_of_ble_eq_true rfl) (Nat.le_of_ble_eq_true rfl) d_R_isPlaced_13
  · refine lv_iconst (v := 1) K.hx K.hb d_R_isPlaced_8 (by decide) ?_
    refine lv_goto (tgt := 13) K.hx K.hb d_R_isPlaced_9 (by decide) ?_
    exact ce_z K hP hS rfl ⟨by simp [*], rfl, rfl⟩ (Nat.le_of_ble_eq_true rfl) (Nat.le_of_ble_eq_true rfl) d_R_isPlaced_13
set_option maxHeartbeats 4000000 in
set_option maxRecDepth 100000 in
theorem c_R_place (l : Launch) (D : va_G) (cs : Nat → ClassId) (ad : Nat → Nat) (v : Nat → Nat → Int32) (sd : Int64) {i : Nat} (hi : i < 5) (x y z : Int32)  : Cm l y_R_place b_R_place 4 none (rmx 0 0) [.ref (ad (33 + i)), .int x, .int y, .int z] D cs ad v sd (fun r v' sd' => r = none ∧ u2 (u2 (u2 v (33 + i) 4 x) (33 + i) 5 y) (33 + i) 6 z = v' ∧ sd = sd') (fun cls => False) := by
  refine cw_enter (own := "WearHours$Repair") rfl (Nat.le_of_ble_eq_true rfl) ?_
  intro p e s m below meth c ls K hS hP hl
  have hl : lv_has ls 4 [(0, .ref (ad (33 + i))), (1, .int x), (2, .int y), (3, .int z)] := hl
  refine lv_aload_n K.hx K.hb d_R_place_0 rfl (lv_at hl 0 rfl) ?_
  refine lv_iload_n K.hx K.hb d_R_place_1 rfl (lv_at hl 1 rfl) ?_
  refine g_puti K.1 hP hS (33 + i) (by have := hi; omega) (eR hi) rfl i_R ft_R ft_R_ok n_R 4 (by decide) rfl (Or.inl kw_132) rfl rfl rfl (Nat.le_of_ble_eq_true rfl) (by rw [eR hi]; rfl) d_R_place_2 (fun H l1 hP hS => ?_)
  refine lv_aload_n K.hx K.hb d_R_place_5 rfl (lv_at hl 0 rfl) ?_
  refine lv_iload_n K.hx K.hb d_R_place_6 rfl (lv_at hl 2 rfl) ?_
  refine g_puti K.1 hP hS (33 + i) (by have := hi; omega) (eR hi) rfl i_R ft_R ft_R_ok n_R 5 (by decide) rfl (Or.inl kw_134) rfl rfl rfl (Nat.le_of_ble_eq_true rfl) (by rw [eR hi]; rfl) d_R_place_7 (fun H l1 hP hS => ?_)
  refine lv_aload_n K.hx K.hb d_R_place_10 rfl (lv_at hl 0 rfl) ?_
  refine lv_iload_n K.hx K.hb d_R_place_11 rfl (lv_at hl 3 rfl) ?_
  refine g_puti K.1 hP hS (33 + i) (by have := hi; omega) (eR hi) rfl i_R ft_R ft_R_ok n_R 6 (by decide) rfl (Or.inl kw_136) rfl rfl rfl (Nat.le_of_ble_eq_true rfl) (by rw [eR hi]; rfl) d_R_place_12 (fun H l1 hP hS => ?_)
  exact ce_v K hP hS ⟨rfl, rfl, rfl⟩ (Nat.le_of_ble_eq_true rfl) (Nat.le_of_ble_eq_true rfl) d_R_place_15
set_option maxHeartbeats 4000000 in
set_option maxRecDepth 100000 in
theorem c_R_unplace (l : Launch) (D : va_G) (cs : Nat → ClassId) (ad : Nat → Nat) (v : Nat → Nat → Int32) (sd : Int64) {i : Nat} (hi : i < 5)  : Cm l y_R_unplace b_R_unplace 1 none (rmx 1 0) [.ref (ad (33 + i))] D cs ad v sd (fun r v' sd' => r = none ∧ u2 (u2 (u2 v (33 + i) 4 (-1)) (33 + i) 5 (-1)) (33 + i) 6 (-1) = v' ∧ sd = sd') (fun cls => False) := by
  refine cw_enter (own := "WearHours$Repair") rfl (Nat.le_of_ble_eq_true rfl) ?_
  intro p e s m below meth c ls K hS hP hl
  have hl : lv_has ls 1 [(0, .ref (ad (33 + i)))] := hl
  refine lv_aload_n K.hx K.hb d_R_unplace_0 rfl (lv_at hl 0 rfl) ?_
  refine lv_iconst (v := (-1)) K.hx K.hb d_R_unplace_1 (by decide) ?_
  refine lv_iconst (v := (-1)) K.hx K.hb d_R_unplace_2 (by decide) ?_
  refine lv_iconst (v := (-1)) K.hx K.hb d_R_unplace_3 (by decide) ?_
  refine cc_V K hP hS (c_R_place l D cs ad _ _ hi (-1) (-1) (-1)) kw_303 xm_R_place kw_300 kw_301 kw_302 (g_recv K.1.2.1 hP (33 + i) (by have := hi; omega) (eR hi) rfl) rfl hl.1 d_R_unplace_4 (Nat.le_of_ble_eq_true rfl) (Nat.le_of_ble_eq_true rfl) ⟨(Nat.le_of_ble_eq_true rfl), (Nat.le_of_ble_eq_true rfl)⟩ (fun r v1 sd1 H l1 hp hP hS => ?_)
  obtain ⟨rfl, rfl, rfl⟩ := hp
  exact ce_v K hP hS ⟨rfl, rfl, rfl⟩ (Nat.le_of_ble_eq_true rfl) (Nat.le_of_ble_eq_true rfl) d_R_unplace_7
set_option maxHeartbeats 4000000 in
set_option maxRecDepth 100000 in
theorem c_K_addGap (l : Launch) (D : va_G) (cs : Nat → ClassId) (ad : Nat → Nat) (v : Nat → Nat → Int32) (sd : Int64) {g : Nat} (hg : v 19 1 = nI g) (hg6 : g < 6) (x y : Int32)  : Cm l y_K_addGap b_K_addGap 4 none (rmx 0 0) [.ref (ad 19), .int x, .int y] D cs ad v sd (fun r v' sd' => r = none ∧ u2 (u2 (u2 v (21 + g) 0 x) (21 + g) 1 y) 19 1 (v 19 1 + 1) = v' ∧ sd = sd') (fun cls => False) := by
  refine cw_enter (own := "WearHours$Week") rfl (Nat.le_of_ble_eq_true rfl) ?_
  intro p e s m below meth c ls K hS hP hl
  have hl : lv_has ls 4 [(0, .ref (ad 19)), (1, .int x), (2, .int y)] := hl
  refine lv_aload_n K.hx K.hb d_K_addGap_0 rfl (lv_at hl 0 rfl) ?_
  refine g_get K.1 hP (19) (by decide) rfl rfl i_K 1 (by decide) rfl (Or.inl kw_155) rfl d_K_addGap_1 ?_
  refine lv_bipush (v := 6) K.hx K.hb d_K_addGap_4 (by decide) ?_
  refine lv_icmp_ge (tgt := 39) K.hx K.hb d_K_addGap_6 (by decide) (fun c_6 => (absurd (by rw [hg] at c_6; exact c_6) (nI_ge (a := g) (b := 6) hg6 (by decide)))) (fun c_6 => ?_)
  refine lv_aload_n K.hx K.hb d_K_addGap_9 rfl (lv_at hl 0 rfl) ?_
  refine g_get K.1 hP (19) (by decide) rfl rfl i_K 0 (by decide) rfl (Or.inl kw_153) rfl d_K_addGap_10 ?_
  refine lv_aload_n K.hx K.hb d_K_addGap_13 rfl (lv_at hl 0 rfl) ?_
  refine g_get K.1 hP (19) (by decide) rfl rfl i_K 1 (by decide) rfl (Or.inl kw_155) rfl d_K_addGap_14 ?_
  refine g_aald K.1 hP (20) (by decide) rfl 4 rfl (g) hg (by have := hg6; omega) (by decide) rfl d_K_addGap_17 ?_
  refine lv_astore_n (lv' := [(3, .ref (ad (21 + g))), (0, .ref (ad 19)), (1, .int x), (2, .int y)]) K.hx K.hb d_K_addGap_18 rfl hl (by decide) rfl (fun ls hl => ?_)
  refine lv_aload_n K.hx K.hb d_K_addGap_19 rfl (lv_at hl 0 rfl) ?_
  refine lv_iload_n K.hx K.hb d_K_addGap_20 rfl (lv_at hl 2 rfl) ?_
  refine g_puti K.1 hP hS (21 + g) (by have := hg6; omega) (eG hg6) rfl i_G ft_G ft_G_ok n_G 0 (by decide) rfl (Or.inr nw_86) rfl rfl rfl (Nat.le_of_ble_eq_true rfl) (by rw [eG hg6]; rfl) d_K_addGap_21 (fun H l1 hP hS => ?_)
  refine lv_aload_n K.hx K.hb d_K_addGap_24 rfl (lv_at hl 0 rfl) ?_
  refine lv_iload_n K.hx K.hb d_K_addGap_25 rfl (lv_at hl 3 rfl) ?_
  refine g_puti K.1 hP hS (21 + g) (by have := hg6; omega) (eG hg6) rfl i_G ft_G ft_G_ok n_G 1 (by decide) rfl (Or.inr nw_88) rfl rfl rfl (Nat.le_of_ble_eq_true rfl) (by rw [eG hg6]; rfl) d_K_addGap_26 (fun H l1 hP hS => ?_)
  refine lv_aload_n K.hx K.hb d_K_addGap_29 rfl (lv_at hl 1 rfl) ?_
  refine lv_dup K.hx K.hb d_K_addGap_30 rfl ?_
  refine g_get K.1 hP (19) (by decide) rfl rfl i_K 1 (by decide) rfl (Or.inl kw_155) rfl d_K_addGap_31 ?_
  refine lv_topE (y := (v 19 1)) (by first | (simp [u2_at, kp]; done) | (simp [u2_at, kp] <;> (intros; omega)) | (simp only [u2_at, kp]; (repeat' split) <;> first | rfl | (exfalso; omega))) ?_
  refine lv_iconst (v := 1) K.hx K.hb d_K_addGap_34 (by decide) ?_
  refine lv_iadd K.hx K.hb d_K_addGap_35 ?_
  refine g_puti K.1 hP hS (19) (by decide) rfl rfl i_K ft_K ft_K_ok n_K 1 (by decide) rfl (Or.inl kw_155) rfl rfl rfl (Nat.le_of_ble_eq_true rfl) rfl d_K_addGap_36 (fun H l1 hP hS => ?_)
  exact ce_v K hP hS ⟨rfl, rfl, rfl⟩ (Nat.le_of_ble_eq_true rfl) (Nat.le_of_ble_eq_true rfl) d_K_addGap_39
set_option maxHeartbeats 4000000 in
set_option maxRecDepth 100000 in
theorem c_K_addPerson (l : Launch) (D : va_G) (cs : Nat → ClassId) (ad : Nat → Nat) (v : Nat → Nat → Int32) (sd : Int64) {g : Nat} (hg : v 19 3 = nI g) (hg4 : g < 4) (x y z : Int32)  : Cm l y_K_addPerson b_K_addPerson 5 none (rmx 0 0) [.ref (ad 19), .int x, .int y, .int z] D cs ad v sd (fun r v' sd' => r = none ∧ u2 (u2 (u2 (u2 v (28 + g) 0 x) (28 + g) 1 y) (28 + g) 2 z) 19 3 (v 19 3 + 1) = v' ∧ sd = sd') (fun cls => False) := by
  refine cw_enter (own := "WearHours$Week") rfl (Nat.le_of_ble_eq_true rfl) ?_
  intro p e s m below meth c ls K hS hP hl
  have hl : lv_has ls 5 [(0, .ref (ad 19)), (1, .int x), (2, .int y), (3, .int z)] := hl
  refine lv_aload_n K.hx K.hb d_K_addPerson_0 rfl (lv_at hl 0 rfl) ?_
  refine g_get K.1 hP (19) (by decide) rfl rfl i_K 3 (by decide) rfl (Or.inl kw_160) rfl d_K_addPerson_1 ?_
  refine lv_iconst (v := 4) K.hx K.hb d_K_addPerson_4 (by decide) ?_
  refine lv_icmp_ge (tgt := 47) K.hx K.hb d_K_addPerson_5 (by decide) (fun c_5 => (absurd (by rw [hg] at c_5; exact c_5) (nI_ge (a := g) (b := 4) hg4 (by decide)))) (fun c_5 => ?_)
  refine lv_aload_n K.hx K.hb d_K_addPerson_8 rfl (lv_at hl 0 rfl) ?_
  refine g_get K.1 hP (19) (by decide) rfl rfl i_K 2 (by decide) rfl (Or.inl kw_158) rfl d_K_addPerson_9 ?_
  refine lv_aload_n K.hx K.hb d_K_addPerson_12 rfl (lv_at hl 0 rfl) ?_
  refine g_get K.1 hP (19) (by decide) rfl rfl i_K 3 (by decide) rfl (Or.inl kw_160) rfl d_K_addPerson_13 ?_
  refine g_aald K.1 hP (27) (by decide) rfl 5 rfl (g) hg (by have := hg4; omega) (by decide) rfl d_K_addPerson_16 ?_
  refine lv_astore (lv' := [(4, .ref (ad (28 + g))), (0, .ref (ad 19)), (1, .int x), (2, .int y), (3, .int z)]) K.hx K.hb d_K_addPerson_17 hl (by decide) rfl (fun ls hl => ?_)
  refine lv_aload K.hx K.hb d_K_addPerson_19 (lv_at hl 0 rfl) ?_
  refine lv_iload_n K.hx K.hb d_K_addPerson_21 rfl (lv_at hl 2 rfl) ?_
  refine g_puti K.1 hP hS (28 + g) (by have := hg4; omega) (eP hg4) rfl i_P ft_P ft_P_ok n_P 0 (by decide) rfl (Or.inr nw_102) rfl rfl rfl (Nat.le_of_ble_eq_true rfl) (by rw [eP hg4]; rfl) d_K_addPerson_22 (fun H l1 hP hS => ?_)
  refine lv_aload K.hx K.hb d_K_addPerson_25 (lv_at hl 0 rfl) ?_
  refine lv_iload_n K.hx K.hb d_K_addPerson_27 rfl (lv_at hl 3 rfl) ?_
  refine g_puti K.1 hP hS (28 + g) (by have := hg4; omega) (eP hg4) rfl i_P ft_P ft_P_ok n_P 1 (by decide) rfl (Or.inr nw_104) rfl rfl rfl (Nat.le_of_ble_eq_true rfl) (by rw [eP hg4]; rfl) d_K_addPerson_28 (fun H l1 hP hS => ?_)
  refine lv_aload K.hx K.hb d_K_addPerson_31 (lv_at hl 0 rfl) ?_
  refine lv_iload_n K.hx K.hb d_K_addPerson_33 rfl (lv_at hl 4 rfl) ?_
  refine g_puti K.1 hP hS (28 + g) (by have := hg4; omega) (eP hg4) rfl i_P ft_P ft_P_ok n_P 2 (by decide) rfl (Or.inr nw_106) rfl rfl rfl (Nat.le_of_ble_eq_true rfl) (by rw [eP hg4]; rfl) d_K_addPerson_34 (fun H l1 hP hS => ?_)
  refine lv_aload_n K.hx K.hb d_K_addPerson_37 rfl (lv_at hl 1 rfl) ?_
  refine lv_dup K.hx K.hb d_K_addPerson_38 rfl ?_
  refine g_get K.1 hP (19) (by decide) rfl rfl i_K 3 (by decide) rfl (Or.inl kw_160) rfl d_K_addPerson_39 ?_
  refine lv_topE (y := (v 19 3)) (by first | (simp [u2_at, kp]; done) | (simp [u2_at, kp] <;> (intros; omega)) | (simp only [u2_at, kp]; (repeat' split) <;> first | rfl | (exfalso; omega))) ?_
  refine lv_iconst (v := 1) K.hx K.hb d_K_addPerson_42 (by decide) ?_
  refine lv_iadd K.hx K.hb d_K_addPerson_43 ?_
  refine g_puti K.1 hP hS (19) (by decide) rfl rfl i_K ft_K ft_K_ok n_K 3 (by decide) rfl (Or.inl kw_160) rfl rfl rfl (Nat.le_of_ble_eq_true rfl) rfl d_K_addPerson_44 (fun H l1 hP hS => ?_)
  exact ce_v K hP hS ⟨rfl, rfl, rfl⟩ (Nat.le_of_ble_eq_true rfl) (Nat.le_of_ble_eq_true rfl) d_K_addPerson_47
set_option maxHeartbeats 4000000 in
set_option maxRecDepth 100000 in
theorem c_K_addRepair (l : Launch) (D : va_G) (cs : Nat → ClassId) (ad : Nat → Nat) (v : Nat → Nat → Int32) (sd : Int64) {g : Nat} (hg : v 19 5 = nI g) (hg5 : g < 5) (x y z w : Int32)  : Cm l y_K_addRepair b_K_addRepair 6 none (rmx 2 0) [.ref (ad 19), .int x, .int y, .int z, .int w] D cs ad v sd (fun r v' sd' => r = none ∧ u2 (u2 (u2 (u2 (u2 (u2 (u2 (u2 v (33 + g) 0 x) (33 + g) 1 y) (33 + g) 2 z) (33 + g) 3 w) (33 + g) 4 (-1)) (33 + g) 5 (-1)) (33 + g) 6 (-1)) 19 5 (v 19 5 + 1) = v' ∧ sd = sd') (fun cls => False) := by
  refine cw_enter (own := "WearHours$Week") rfl (Nat.le_of_ble_eq_true rfl) ?_
  intro p e s m below meth c ls K hS hP hl
  have hl : lv_has ls 6 [(0, .ref (ad 19)), (1, .int x), (2, .int y), (3, .int z), (4, .int w)] := hl
  refine lv_aload_n K.hx K.hb d_K_addRepair_0 rfl (lv_at hl 0 rfl) ?_
  refine g_get K.1 hP (19) (by decide) rfl rfl i_K 5 (by decide) rfl (Or.inl kw_167) rfl d_K_addRepair_1 ?_
  refine lv_iconst (v := 5) K.hx K.hb d_K_addRepair_4 (by decide) ?_
  refine lv_icmp_ge (tgt := 59) K.hx K.hb d_K_addRepair_5 (by decide) (fun c_5 => (absurd (by rw [hg] at c_5; exact c_5) (nI_ge (a := g) (b := 5) hg5 (by decide)))) (fun c_5 => ?_)
  refine lv_aload_n K.hx K.hb d_K_addRepair_8 rfl (lv_at hl 0 rfl) ?_
  refine g_get K.1 hP (19) (by decide) rfl rfl i_K 4 (by decide) rfl (Or.inl kw_163) rfl d_K_addRepair_9 ?_
  refine lv_aload_n K.hx K.hb d_K_addRepair_12 rfl (lv_at hl 0 rfl) ?_
  refine g_get K.1 hP (19) (by decide) rfl rfl i_K 5 (by decide) rfl (Or.inl kw_167) rfl d_K_addRepair_13 ?_
  refine g_aald K.1 hP (32) (by decide) rfl 6 rfl (g) hg (by have := hg5; omega) (by decide) rfl d_K_addRepair_16 ?_
  refine lv_astore (lv' := [(5, .ref (ad (33 + g))), (0, .ref (ad 19)), (1, .int x), (2, .int y), (3, .int z), (4, .int w)]) K.hx K.hb d_K_addRepair_17 hl (by decide) rfl (fun ls hl => ?_)
  refine lv_aload K.hx K.hb d_K_addRepair_19 (lv_at hl 0 rfl) ?_
  refine lv_iload_n K.hx K.hb d_K_addRepair_21 rfl (lv_at hl 2 rfl) ?_
  refine g_puti K.1 hP hS (33 + g) (by have := hg5; omega) (eR hg5) rfl i_R ft_R ft_R_ok n_R 0 (by decide) rfl (Or.inr nw_122) rfl rfl rfl (Nat.le_of_ble_eq_true rfl) (by rw [eR hg5]; rfl) d_K_addRepair_22 (fun H l1 hP hS => ?_)
  refine lv_aload K.hx K.hb d_K_addRepair_25 (lv_at hl 0 rfl) ?_
  refine lv_iload_n K.hx K.hb d_K_addRepair_27 rfl (lv_at hl 3 rfl) ?_
  refine g_puti K.1 hP hS (33 + g) (by have := hg5; omega) (eR hg5) rfl i_R ft_R ft_R_ok n_R 1 (by decide) rfl (Or.inr nw_125) rfl rfl rfl (Nat.le_of_ble_eq_true rfl) (by rw [eR hg5]; rfl) d_K_addRepair_28 (fun H l1 hP hS => ?_)
  refine lv_aload K.hx K.hb d_K_addRepair_31 (lv_at hl 0 rfl) ?_
  refine lv_iload_n K.hx K.hb d_K_addRepair_33 rfl (lv_at hl 4 rfl) ?_
  refine g_puti K.1 hP hS (33 + g) (by have := hg5; omega) (eR hg5) rfl i_R ft_R ft_R_ok n_R 2 (by decide) rfl (Or.inr nw_127) rfl rfl rfl (Nat.le_of_ble_eq_true rfl) (by rw [eR hg5]; rfl) d_K_addRepair_34 (fun H l1 hP hS => ?_)
  refine lv_aload K.hx K.hb d_K_addRepair_37 (lv_at hl 0 rfl) ?_
  refine lv_iload K.hx K.hb d_K_addRepair_39 (lv_at hl 5 rfl) ?_
  refine g_puti K.1 hP hS (33 + g) (by have := hg5; omega) (eR hg5) rfl i_R ft_R ft_R_ok n_R 3 (by decide) rfl (Or.inr nw_130) rfl rfl rfl (Nat.le_of_ble_eq_true rfl) (by rw [eR hg5]; rfl) d_K_addRepair_41 (fun H l1 hP hS => ?_)
  refine lv_aload K.hx K.hb d_K_addRepair_44 (lv_at hl 0 rfl) ?_
  refine cc_V K hP hS (c_R_unplace l D cs ad _ _ hg5) kw_299 xm_R_unplace kw_577 kw_297 kw_298 (g_recv K.1.2.1 hP (33 + g) (by have := hg5; omega) (eR hg5) rfl) rfl hl.1 d_K_addRepair_46 (Nat.le_of_ble_eq_true rfl) (Nat.le_of_ble_eq_true rfl) ⟨(Nat.le_of_ble_eq_true rfl), (Nat.le_of_ble_eq_true rfl)⟩ (fun r v1 sd1 H l1 hp hP hS => ?_)
  obtain ⟨rfl, rfl, rfl⟩ := hp
  refine lv_aload_n K.hx K.hb d_K_addRepair_49 rfl (lv_at hl 1 rfl) ?_
  refine lv_dup K.hx K.hb d_K_addRepair_50 rfl ?_
  refine g_get K.1 hP (19) (by decide) rfl rfl i_K 5 (by decide) rfl (Or.inl kw_167) rfl d_K_addRepair_51 ?_
  refine lv_topE (y := (v 19 5)) (by first | (simp [u2_at, kp]; done) | (simp [u2_at, kp] <;> (intros; omega)) | (simp only [u2_at, kp]; (repeat' split) <;> first | rfl | (exfalso; omega))) ?_
  refine lv_iconst (v := 1) K.hx K.hb d_K_addRepair_54 (by decide) ?_
  refine lv_iadd K.hx K.hb d_K_addRepair_55 ?_
  refine g_puti K.1 hP hS (19) (by decide) rfl rfl i_K ft_K ft_K_ok n_K 5 (by decide) rfl (Or.inl kw_167) rfl rfl rfl (Nat.le_of_ble_eq_true rfl) rfl d_K_addRepair_56 (fun H l1 hP hS => ?_)
  exact ce_v K hP hS ⟨rfl, rfl, rfl⟩ (Nat.le_of_ble_eq_true rfl) (Nat.le_of_ble_eq_true rfl) d_K_addRepair_59
set_option maxHeartbeats 4000000 in
set_option maxRecDepth 100000 in
theorem c_K_costUnplaced (l : Launch) (D : va_G) (cs : Nat → ClassId) (ad : Nat → Nat) (v : Nat → Nat → Int32) (sd : Int64) {i : Nat} (hi : i < 5)  : Cm l y_K_costUnplaced b_K_costUnplaced 2 (some .int) (rmx 0 0) [.ref (ad 19), .ref (ad (33 + i))] D cs ad v sd (fun r v' sd' => r = some (.int (v (33 + i) 3 * 168 + v 19 7)) ∧ v = v' ∧ sd = sd') (fun cls => False) := by
  refine cw_enter (own := "WearHours$Week") rfl (Nat.le_of_ble_eq_true rfl) ?_
  intro p e s m below meth c ls K hS hP hl
  have hl : lv_has ls 2 [(0, .ref (ad 19)), (1, .ref (ad (33 + i)))] := hl
  refine lv_aload_n K.hx K.hb d_K_costUnplaced_0 rfl (lv_at hl 1 rfl) ?_
  refine g_get K.1 hP (33 + i) (by have := hi; omega) (eR hi) rfl i_R 3 (by decide) rfl (Or.inr nw_130) rfl d_K_costUnplaced_1 ?_
  refine lv_sipush (v := 168) K.hx K.hb d_K_costUnplaced_4 (by decide) ?_
  refine lv_imul K.hx K.hb d_K_costUnplaced_7 ?_
  refine lv_aload_n K.hx K.hb d_K_costUnplaced_8 rfl (lv_at hl 0 rfl) ?_
  refine g_get K.1 hP (19) (by decide) rfl rfl i_K 7 (by decide) rfl (Or.inl kw_172) rfl d_K_costUnplaced_9 ?_
  refine lv_iadd K.hx K.hb d_K_costUnplaced_12 ?_
  exact ce_i K hP hS ⟨rfl, rfl, rfl⟩ (Nat.le_of_ble_eq_true rfl) (Nat.le_of_ble_eq_true rfl) d_K_costUnplaced_13
set_option maxHeartbeats 4000000 in
set_option maxRecDepth 100000 in
theorem c_L_forget (l : Launch) (D : va_G) (cs : Nat → ClassId) (ad : Nat → Nat) (v : Nat → Nat → Int32) (sd : Int64)   : Cm l y_L_forget b_L_forget 1 none (rmx 0 0) [.ref (ad 38)] D cs ad v sd (fun r v' sd' => r = none ∧ u2 v 38 4 0 = v' ∧ sd = sd') (fun cls => False) := by
  refine cw_enter (own := "WearHours$Planner") rfl (Nat.le_of_ble_eq_true rfl) ?_
  intro p e s m below meth c ls K hS hP hl
  have hl : lv_has ls 1 [(0, .ref (ad 38))] := hl
  refine lv_aload_n K.hx K.hb d_L_forget_0 rfl (lv_at hl 0 rfl) ?_
  refine lv_iconst (v := 0) K.hx K.hb d_L_forget_1 (by decide) ?_
  refine g_puti K.1 hP hS (38) (by decide) rfl rfl i_L ft_L ft_L_ok n_L 4 (by decide) rfl (Or.inl kw_201) rfl rfl rfl (Nat.le_of_ble_eq_true rfl) rfl d_L_forget_2 (fun H l1 hP hS => ?_)
  exact ce_v K hP hS ⟨rfl, rfl, rfl⟩ (Nat.le_of_ble_eq_true rfl) (Nat.le_of_ble_eq_true rfl) d_L_forget_5
set_option maxHeartbeats 4000000 in
set_option maxRecDepth 100000 in
theorem c_W_seed (l : Launch) (D : va_G) (cs : Nat → ClassId) (ad : Nat → Nat) (v : Nat → Nat → Int32) (sd : Int64) (x : Int64)  : Cm l y_W_seed b_W_seed 3 none (rmx 0 0) [.ref (ad 0), .long x] D cs ad v sd (fun r v' sd' => r = none ∧ v = v' ∧ x = sd') (fun cls => False) := by
  refine cw_enter (own := "WearHours") rfl (Nat.le_of_ble_eq_true rfl) ?_
  intro p e s m below meth c ls K hS hP hl
  have hl : lv_has ls 3 [(0, .ref (ad 0)), (1, .long x)] := hl
  refine lv_aload_n K.hx K.hb d_W_seed_0 rfl (lv_at hl 0 rfl) ?_
  refine lv_lload_n K.hx K.hb d_W_seed_1 rfl (lv_at hl 1 rfl) ?_
  refine g_put (E' := eC cs ad x) (v' := v) K.1 hP hS (0) (by decide) rfl rfl i_W ft_W ft_W_ok n_W 0 (by decide) rfl (Or.inl kw_222) rfl rfl rfl (Nat.le_of_ble_eq_true rfl) rfl (fun k hk => by unfold eC; simp only [if_neg hk]) d_W_seed_2 (fun H l1 hP hS => ?_)
  exact ce_v K hP hS ⟨rfl, rfl, rfl⟩ (Nat.le_of_ble_eq_true rfl) (Nat.le_of_ble_eq_true rfl) d_W_seed_5
def ush (z : Int64) (k : Int32) : Int64 := (z.toUInt64 >>> (k.toInt64.toUInt64 &&& Int64.toUInt64 63)).toInt64
def dr1 (sd q : Int64) : Int64 := sd + q * (-7046029254386353131)
def dr2 (sd q : Int64) : Int64 := (dr1 sd q ^^^ ush (dr1 sd q) 30) * (-4658895280553007687)
def dr3 (sd q : Int64) : Int64 := (dr2 sd q ^^^ ush (dr2 sd q) 27) * (-7723592293110705685)
def dr4 (sd q : Int64) : Int64 := dr3 sd q ^^^ ush (dr3 sd q) 31
set_option maxHeartbeats 4000000 in
set_option maxRecDepth 100000 in
theorem c_W_drawnNumber (l : Launch) (D : va_G) (cs : Nat → ClassId) (ad : Nat → Nat) (v : Nat → Nat → Int32) (sd : Int64) (x : Int64)  : Cm l y_W_drawnNumber b_W_drawnNumber 5 (some .long) (rmx 0 0) [.ref (ad 0), .long x] D cs ad v sd (fun r v' sd' => r = some (.long (dr4 sd x &&& 9223372036854775807)) ∧ v = v' ∧ sd = sd') (fun cls => False) := by
  refine cw_enter (own := "WearHours") rfl (Nat.le_of_ble_eq_true rfl) ?_
  intro p e s m below meth c ls K hS hP hl
  have hl : lv_has ls 5 [(0, .ref (ad 0)), (1, .long x)] := hl
  refine lv_aload_n K.hx K.hb d_W_drawnNumber_0 rfl (lv_at hl 0 rfl) ?_
  refine g_get K.1 hP (0) (by decide) rfl rfl i_W 0 (by decide) rfl (Or.inl kw_222) rfl d_W_drawnNumber_1 ?_
  refine lv_lload_n K.hx K.hb d_W_drawnNumber_4 rfl (lv_at hl 1 rfl) ?_
  refine lv_ldc2 (v := (-7046029254386353131)) K.hx K.hb K.1.1.2.2.2.1 (K.1.1.2.2.2.2 _ kw_498) d_W_drawnNumber_5 ?_
  refine lv_lmul K.hx K.hb d_W_drawnNumber_8 ?_
  refine lv_ladd K.hx K.hb d_W_drawnNumber_9 ?_
  refine lv_topl (fun z1 ez1 => ?_)
  refine lv_lstore_n (lv' := [(3, .long z1), (0, .ref (ad 0)), (1, .long x)]) K.hx K.hb d_W_drawnNumber_10 rfl hl (by decide) rfl (fun ls hl => ?_)
  refine lv_lload_n K.hx K.hb d_W_drawnNumber_11 rfl (lv_at hl 0 rfl) ?_
  refine lv_lload_n K.hx K.hb d_W_drawnNumber_12 rfl (lv_at hl 0 rfl) ?_
  refine lv_bipush (v := 30) K.hx K.hb d_W_drawnNumber_13 (by decide) ?_
  refine lv_lushr K.hx K.hb d_W_drawnNumber_15 rfl ?_
  refine lv_lxor K.hx K.hb d_W_drawnNumber_16 ?_
  refine lv_ldc2 (v := (-4658895280553007687)) K.hx K.hb K.1.1.2.2.2.1 (K.1.1.2.2.2.2 _ kw_499) d_W_drawnNumber_17 ?_
  refine lv_lmul K.hx K.hb d_W_drawnNumber_20 ?_
  refine lv_topl (fun z2 ez2 => ?_)
  refine lv_lstore_n (lv' := [(3, .long z2), (0, .ref (ad 0)), (1, .long x)]) K.hx K.hb d_W_drawnNumber_21 rfl hl (by decide) rfl (fun ls hl => ?_)
  refine lv_lload_n K.hx K.hb d_W_drawnNumber_22 rfl (lv_at hl 0 rfl) ?_
  refine lv_lload_n K.hx K.hb d_W_drawnNumber_23 rfl (lv_at hl 0 rfl) ?_
  refine lv_bipush (v := 27) K.hx K.hb d_W_drawnNumber_24 (by decide) ?_
  refine lv_lushr K.hx K.hb d_W_drawnNumber_26 rfl ?_
  refine lv_lxor K.hx K.hb d_W_drawnNumber_27 ?_
  refine lv_ldc2 (v := (-7723592293110705685)) K.hx K.hb K.1.1.2.2.2.1 (K.1.1.2.2.2.2 _ kw_500) d_W_drawnNumber_28 ?_
  refine lv_lmul K.hx K.hb d_W_drawnNumber_31 ?_
  refine lv_topl (fun z3 ez3 => ?_)
  refine lv_lstore_n (lv' := [(3, .long z3), (0, .ref (ad 0)), (1, .long x)]) K.hx K.hb d_W_drawnNumber_32 rfl hl (by decide) rfl (fun ls hl => ?_)
  refine lv_lload_n K.hx K.hb d_W_drawnNumber_33 rfl (lv_at hl 0 rfl) ?_
  refine lv_lload_n K.hx K.hb d_W_drawnNumber_34 rfl (lv_at hl 0 rfl) ?_
  refine lv_bipush (v := 31) K.hx K.hb d_W_drawnNumber_35 (by decide) ?_
  refine lv_lushr K.hx K.hb d_W_drawnNumber_37 rfl ?_
  refine lv_lxor K.hx K.hb d_W_drawnNumber_38 ?_
  refine lv_topl (fun z4 ez4 => ?_)
  refine lv_lstore_n (lv' := [(3, .long z4), (0, .ref (ad 0)), (1, .long x)]) K.hx K.hb d_W_drawnNumber_39 rfl hl (by decide) rfl (fun ls hl => ?_)
  refine lv_lload_n K.hx K.hb d_W_drawnNumber_40 rfl (lv_at hl 0 rfl) ?_
  refine lv_ldc2 (v := 9223372036854775807) K.hx K.hb K.1.1.2.2.2.1 (K.1.1.2.2.2.2 _ kw_501) d_W_drawnNumber_41 ?_
  refine lv_land K.hx K.hb d_W_drawnNumber_44 ?_
  exact ce_l K hP hS ⟨by rw [show z4 = dr4 sd x from by subst ez1 ez2 ez3 ez4; rfl], rfl, rfl⟩ (Nat.le_of_ble_eq_true rfl) (Nat.le_of_ble_eq_true rfl) d_W_drawnNumber_45
set_option maxHeartbeats 4000000 in
set_option maxRecDepth 100000 in
theorem c_W_thing (l : Launch) (D : va_G) (cs : Nat → ClassId) (ad : Nat → Nat) (v : Nat → Nat → Int32) (sd : Int64) (hfl : l.flags = flags0) {tc : Nat} (htc : v 0 2 = nI tc) (ht8 : tc ≤ 8) (x y : Int32)  : Cm l y_W_thing b_W_thing 3 (some .int) (rmx 1 1) [.ref (ad 0), .int x, .int y] D cs ad v sd (fun r v' sd' => (¬ wthZ x 1 1000000 = 0 ∧ ¬ wthZ y 1 1000000 = 0) ∧ tc < 8 ∧ r = some (.int (v 0 2 + 1 - 1)) ∧ u2 (u2 (u2 (u2 v (2 + tc) 0 x) (2 + tc) 1 y) (2 + tc) 3 1) 0 2 (v 0 2 + 1) = v' ∧ sd = sd') (fun cls => (¬ (¬ wthZ x 1 1000000 = 0 ∧ ¬ wthZ y 1 1000000 = 0) ∧ cls = "java/lang/IllegalArgumentException") ∨ ((¬ wthZ x 1 1000000 = 0 ∧ ¬ wthZ y 1 1000000 = 0) ∧ ¬ tc < 8 ∧ cls = "java/lang/UnsupportedOperationException")) := by
  refine cw_enter (own := "WearHours") rfl (Nat.le_of_ble_eq_true rfl) ?_
  intro p e s m below meth c ls K hS hP hl
  have hl : lv_has ls 3 [(0, .ref (ad 0)), (1, .int x), (2, .int y)] := hl
  refine lv_iload_n K.hx K.hb d_W_thing_0 rfl (lv_at hl 1 rfl) ?_
  refine lv_iconst (v := 1) K.hx K.hb d_W_thing_1 (by decide) ?_
  refine lv_ldc (v := 1000000) K.hx K.hb K.1.1.2.2.2.1 (K.1.1.2.2.2.2 _ kw_318) d_W_thing_2 ?_
  refine cc_S K hP hS (c_W_isWithin l D cs ad _ _ x 1 1000000) kw_321 xm_W_isWithin kw_319 kw_320 kw_22 rfl hl.1 d_W_thing_4 (Nat.le_of_ble_eq_true rfl) (Nat.le_of_ble_eq_true rfl) ⟨(Nat.le_of_ble_eq_true rfl), (Nat.le_of_ble_eq_true rfl)⟩ (fun r v1 sd1 H l1 hp hP hS => ?_)
  obtain ⟨rfl, rfl, rfl⟩ := hp
  refine lv_if_eq (tgt := 20) K.hx K.hb d_W_thing_7 (by decide) (fun c_7 => ?_) (fun c_7 => ?_)
  · exact ce_t K hP hS hfl kw_322 kw_33 xa_IAE rfl (text := "life and bound are 1 to 1000000") (by decide) hl.1 d_W_thing_20 d_W_thing_23 d_W_thing_24 d_W_thing_26 d_W_thing_29 (Nat.le_of_ble_eq_true rfl) (Nat.le_of_ble_eq_true rfl) (Nat.le_of_ble_eq_true rfl) (Nat.le_of_ble_eq_true rfl) (Nat.le_of_ble_eq_true rfl) (Nat.le_of_ble_eq_true rfl) (Or.inl ⟨fun h => by simp_all, rfl⟩)
  · refine lv_iload_n K.hx K.hb d_W_thing_10 rfl (lv_at hl 2 rfl) ?_
    refine lv_iconst (v := 1) K.hx K.hb d_W_thing_11 (by decide) ?_
    refine lv_ldc (v := 1000000) K.hx K.hb K.1.1.2.2.2.1 (K.1.1.2.2.2.2 _ kw_318) d_W_thing_12 ?_
    refine cc_S K hP hS (c_W_isWithin l D cs ad _ _ y 1 1000000) kw_321 xm_W_isWithin kw_319 kw_320 kw_22 rfl hl.1 d_W_thing_14 (Nat.le_of_ble_eq_true rfl) (Nat.le_of_ble_eq_true rfl) ⟨(Nat.le_of_ble_eq_true rfl), (Nat.le_of_ble_eq_true rfl)⟩ (fun r v1 sd1 H l1 hp hP hS => ?_)
    obtain ⟨rfl, rfl, rfl⟩ := hp
    refine lv_if_ne (tgt := 30) K.hx K.hb d_W_thing_17 (by decide) (fun c_17 => ?_) (fun c_17 => ?_)
    · refine lv_aload_n K.hx K.hb d_W_thing_30 rfl (lv_at hl 0 rfl) ?_
      refine g_get K.1 hP (0) (by decide) rfl rfl i_W 2 (by decide) rfl (Or.inl kw_224) rfl d_W_thing_31 ?_
      refine lv_bipush (v := 8) K.hx K.hb d_W_thing_34 (by decide) ?_
      refine lv_icmp_lt (tgt := 49) K.hx K.hb d_W_thing_36 (by decide) (fun c_36 => ?_) (fun c_36 => ?_)
      · have ht : tc < 8 := (nI_ltI (by omega) (by decide)).mp (by rw [← htc]; exact c_36)
        refine lv_aload_n K.hx K.hb d_W_thing_49 rfl (lv_at hl 0 rfl) ?_
        refine g_get K.1 hP (0) (by decide) rfl rfl i_W 1 (by decide) rfl (Or.inl kw_223) rfl d_W_thing_50 ?_
        refine lv_aload_n K.hx K.hb d_W_thing_53 rfl (lv_at hl 0 rfl) ?_
        refine g_get K.1 hP (0) (by decide) rfl rfl i_W 2 (by decide) rfl (Or.inl kw_224) rfl d_W_thing_54 ?_
        refine g_aald K.1 hP (1) (by decide) rfl 3 rfl (tc) htc (by have := ht; omega) (by decide) rfl d_W_thing_57 ?_
        refine lv_iload_n K.hx K.hb d_W_thing_58 rfl (lv_at hl 1 rfl) ?_
        refine lv_iload_n K.hx K.hb d_W_thing_59 rfl (lv_at hl 2 rfl) ?_
        refine cc_V K hP hS (c_T_begin l D cs ad _ _ ht x y) kw_410 xm_T_begin kw_407 kw_408 kw_409 (g_recv K.1.2.1 hP (2 + tc) (by have := ht; omega) (eT ht) rfl) rfl hl.1 d_W_thing_60 (Nat.le_of_ble_eq_true rfl) (Nat.le_of_ble_eq_true rfl) ⟨(Nat.le_of_ble_eq_true rfl), (Nat.le_of_ble_eq_true rfl)⟩ (fun r v1 sd1 H l1 hp hP hS => ?_)
        obtain ⟨rfl, rfl, rfl⟩ := hp
        refine lv_aload_n K.hx K.hb d_W_thing_63 rfl (lv_at hl 0 rfl) ?_
        refine lv_dup K.hx K.hb d_W_thing_64 rfl ?_
        refine g_get K.1 hP (0) (by decide) rfl rfl i_W 2 (by decide) rfl (Or.inl kw_224) rfl d_W_thing_65 ?_
        refine lv_topE (y := (v 0 2)) (by first | (simp [u2_at, kp]; done) | (simp [u2_at, kp] <;> (intros; omega)) | (simp only [u2_at, kp]; (repeat' split) <;> first | rfl | (exfalso; omega))) ?_
        refine lv_iconst (v := 1) K.hx K.hb d_W_thing_68 (by decide) ?_
        refine lv_iadd K.hx K.hb d_W_thing_69 ?_
        refine g_puti K.1 hP hS (0) (by decide) rfl rfl i_W ft_W ft_W_ok n_W 2 (by decide) rfl (Or.inl kw_224) rfl rfl rfl (Nat.le_of_ble_eq_true rfl) rfl d_W_thing_70 (fun H l1 hP hS => ?_)
        refine lv_aload_n K.hx K.hb d_W_thing_73 rfl (lv_at hl 0 rfl) ?_
        refine g_get K.1 hP (0) (by decide) rfl rfl i_W 2 (by decide) rfl (Or.inl kw_224) rfl d_W_thing_74 ?_
        refine lv_topE (y := ((v 0 2) + 1)) (by first | (simp [u2_at, kp]; done) | (simp [u2_at, kp] <;> (intros; omega)) | (simp only [u2_at, kp]; (repeat' split) <;> first | rfl | (exfalso; omega))) ?_
        refine lv_iconst (v := 1) K.hx K.hb d_W_thing_77 (by decide) ?_
        refine lv_isub K.hx K.hb d_W_thing_78 ?_
        exact ce_i K hP hS ⟨⟨‹_›, ‹_›⟩, ht, rfl, rfl, rfl⟩ (Nat.le_of_ble_eq_true rfl) (Nat.le_of_ble_eq_true rfl) d_W_thing_79
      · exact ce_t K hP hS hfl kw_391 kw_34 xa_UOE rfl (text := "there are 8 things") (by decide) hl.1 d_W_thing_39 d_W_thing_42 d_W_thing_43 d_W_thing_45 d_W_thing_48 (Nat.le_of_ble_eq_true rfl) (Nat.le_of_ble_eq_true rfl) (Nat.le_of_ble_eq_true rfl) (Nat.le_of_ble_eq_true rfl) (Nat.le_of_ble_eq_true rfl) (Nat.le_of_ble_eq_true rfl) (Or.inr ⟨⟨‹_›, ‹_›⟩, fun h => c_36 (by rw [htc]; exact nI_lt h (by decide)), rfl⟩)
    · exact ce_t K hP hS hfl kw_322 kw_33 xa_IAE rfl (text := "life and bound are 1 to 1000000") (by decide) hl.1 d_W_thing_20 d_W_thing_23 d_W_thing_24 d_W_thing_26 d_W_thing_29 (Nat.le_of_ble_eq_true rfl) (Nat.le_of_ble_eq_true rfl) (Nat.le_of_ble_eq_true rfl) (Nat.le_of_ble_eq_true rfl) (Nat.le_of_ble_eq_true rfl) (Nat.le_of_ble_eq_true rfl) (Or.inl ⟨fun h => by simp_all, rfl⟩)
set_option maxHeartbeats 4000000 in
set_option maxRecDepth 100000 in
theorem c_W_use (l : Launch) (D : va_G) (cs : Nat → ClassId) (ad : Nat → Nat) (v : Nat → Nat → Int32) (sd : Int64) (hfl : l.flags = flags0) {tc : Nat} (htc : v 0 2 = nI tc) (ht8 : tc ≤ 8) (x y : Int32)  : Cm l y_W_use b_W_use 4 (some .int) (rmx 2 2) [.ref (ad 0), .int x, .int y] D cs ad v sd (fun r v' sd' => ∃ i, i < tc ∧ x = nI i ∧ barZ v i = 0 ∧ ¬ wthZ y 1 1000000 = 0 ∧ r = some (.int (v (2 + i) 2 + y)) ∧ kp (u2 v (2 + i) 2 (v (2 + i) 2 + y)) i y = v' ∧ sd = sd') (fun cls => ((¬ ∃ i, i < tc ∧ x = nI i) ∧ cls = "java/lang/IndexOutOfBoundsException") ∨ (∃ i, i < tc ∧ x = nI i ∧ ¬ barZ v i = 0 ∧ cls = "java/lang/IllegalStateException") ∨ (∃ i, i < tc ∧ x = nI i ∧ barZ v i = 0 ∧ wthZ y 1 1000000 = 0 ∧ cls = "java/lang/IllegalArgumentException")) := by
  refine cw_enter (own := "WearHours") rfl (Nat.le_of_ble_eq_true rfl) ?_
  intro p e s m below meth c ls K hS hP hl
  have hl : lv_has ls 4 [(0, .ref (ad 0)), (1, .int x), (2, .int y)] := hl
  refine lv_aload_n K.hx K.hb d_W_use_0 rfl (lv_at hl 0 rfl) ?_
  refine lv_iload_n K.hx K.hb d_W_use_1 rfl (lv_at hl 1 rfl) ?_
  refine cc_Vx K hP hS (c_W_knownThing l D cs ad _ _ hfl htc ht8 x) (fun cls h => Or.inl h) kw_423 xm_W_knownThing kw_420 kw_422 kw_9 (g_recv K.1.2.1 hP (0) (by decide) rfl rfl) rfl hl.1 d_W_use_2 (Nat.le_of_ble_eq_true rfl) (Nat.le_of_ble_eq_true rfl) ⟨(Nat.le_of_ble_eq_true rfl), (Nat.le_of_ble_eq_true rfl)⟩ (Nat.le_of_ble_eq_true rfl) (Nat.le_of_ble_eq_true rfl) (fun r v1 sd1 H l1 hp hP hS => ?_)
  obtain ⟨i, hi, rfl, rfl, rfl, rfl⟩ := hp
  have hi8 : i < 8 := by omega
  refine lv_astore_n (lv' := [(3, .ref (ad (2 + i))), (0, .ref (ad 0)), (1, .int (nI i)), (2, .int y)]) K.hx K.hb d_W_use_5 rfl hl (by decide) rfl (fun ls hl => ?_)
  refine lv_aload_n K.hx K.hb d_W_use_6 rfl (lv_at hl 0 rfl) ?_
  refine cc_V K hP hS (c_T_isBarred l D cs ad _ _ hi8) kw_443 xm_T_isBarred kw_440 kw_441 kw_442 (g_recv K.1.2.1 hP (2 + i) (by have := hi8; omega) (eT hi8) rfl) rfl hl.1 d_W_use_7 (Nat.le_of_ble_eq_true rfl) (Nat.le_of_ble_eq_true rfl) ⟨(Nat.le_of_ble_eq_true rfl), (Nat.le_of_ble_eq_true rfl)⟩ (fun r v1 sd1 H l1 hp hP hS => ?_)
  obtain ⟨rfl, rfl, rfl⟩ := hp
  refine lv_if_eq (tgt := 23) K.hx K.hb d_W_use_10 (by decide) (fun c_10 => ?_) (fun c_10 => ?_)
  · refine lv_iload_n K.hx K.hb d_W_use_23 rfl (lv_at hl 3 rfl) ?_
    refine lv_iconst (v := 1) K.hx K.hb d_W_use_24 (by decide) ?_
    refine lv_ldc (v := 1000000) K.hx K.hb K.1.1.2.2.2.1 (K.1.1.2.2.2.2 _ kw_318) d_W_use_25 ?_
    refine cc_S K hP hS (c_W_isWithin l D cs ad _ _ y 1 1000000) kw_321 xm_W_isWithin kw_319 kw_320 kw_22 rfl hl.1 d_W_use_27 (Nat.le_of_ble_eq_true rfl) (Nat.le_of_ble_eq_true rfl) ⟨(Nat.le_of_ble_eq_true rfl), (Nat.le_of_ble_eq_true rfl)⟩ (fun r v1 sd1 H l1 hp hP hS => ?_)
    obtain ⟨rfl, rfl, rfl⟩ := hp
    refine lv_if_ne (tgt := 43) K.hx K.hb d_W_use_30 (by decide) (fun c_30 => ?_) (fun c_30 => ?_)
    · refine lv_aload_n K.hx K.hb d_W_use_43 rfl (lv_at hl 0 rfl) ?_
      refine lv_iload_n K.hx K.hb d_W_use_44 rfl (lv_at hl 3 rfl) ?_
      refine cc_V K hP hS (c_T_wear l D cs ad _ _ hi8 y) kw_464 xm_T_wear kw_461 kw_462 kw_463 (g_recv K.1.2.1 hP (2 + i) (by have := hi8; omega) (eT hi8) rfl) rfl hl.1 d_W_use_45 (Nat.le_of_ble_eq_true rfl) (Nat.le_of_ble_eq_true rfl) ⟨(Nat.le_of_ble_eq_true rfl), (Nat.le_of_ble_eq_true rfl)⟩ (fun r v1 sd1 H l1 hp hP hS => ?_)
      obtain ⟨rfl, rfl, rfl⟩ := hp
      refine lv_aload_n K.hx K.hb d_W_use_48 rfl (lv_at hl 0 rfl) ?_
      refine g_get K.1 hP (2 + i) (by have := hi8; omega) (eT hi8) rfl i_T 2 (by decide) rfl (Or.inr nw_57) rfl d_W_use_49 ?_
      refine lv_topE (y := (v (2 + i) 2 + y)) (by first | (simp [u2_at, kp]; done) | (simp [u2_at, kp] <;> (intros; omega)) | (simp only [u2_at, kp]; (repeat' split) <;> first | rfl | (exfalso; omega))) ?_
      exact ce_i K hP hS ⟨i, hi, rfl, ‹_›, ‹_›, rfl, rfl, rfl⟩ (Nat.le_of_ble_eq_true rfl) (Nat.le_of_ble_eq_true rfl) d_W_use_52
    · exact ce_t K hP hS hfl kw_322 kw_33 xa_IAE rfl (text := "units are 1 to 1000000") (by decide) hl.1 d_W_use_33 d_W_use_36 d_W_use_37 d_W_use_39 d_W_use_42 (Nat.le_of_ble_eq_true rfl) (Nat.le_of_ble_eq_true rfl) (Nat.le_of_ble_eq_true rfl) (Nat.le_of_ble_eq_true rfl) (Nat.le_of_ble_eq_true rfl) (Nat.le_of_ble_eq_true rfl) (Or.inr (Or.inr ⟨i, hi, rfl, ‹_›, ‹_›, rfl⟩))
  · exact ce_t K hP hS hfl kw_444 kw_36 xa_ISE rfl (text := "the thing is barred") (by decide) hl.1 d_W_use_13 d_W_use_16 d_W_use_17 d_W_use_19 d_W_use_22 (Nat.le_of_ble_eq_true rfl) (Nat.le_of_ble_eq_true rfl) (Nat.le_of_ble_eq_true rfl) (Nat.le_of_ble_eq_true rfl) (Nat.le_of_ble_eq_true rfl) (Nat.le_of_ble_eq_true rfl) (Or.inr (Or.inl ⟨i, hi, rfl, ‹_›, rfl⟩))
theorem barz_01 (v : Nat → Nat → Int32) (i : Nat) : barZ v i = 0 ∨ barZ v i = 1 := by
  unfold barZ
  split
  · exact Or.inr rfl
  · split
    · exact Or.inl rfl
    · exact Or.inr rfl
theorem barz_1 {v : Nat → Nat → Int32} {i : Nat} (h : ¬ barZ v i = 0) : barZ v i = 1 := (barz_01 v i).resolve_left h
set_option maxHeartbeats 4000000 in
set_option maxRecDepth 100000 in
theorem c_W_told (l : Launch) (D : va_G) (cs : Nat → ClassId) (ad : Nat → Nat) (v : Nat → Nat → Int32) (sd : Int64) (hfl : l.flags = flags0) {tc : Nat} (htc : v 0 2 = nI tc) (ht8 : tc ≤ 8) (x y : Int32)  : Cm l y_W_told b_W_told 4 (some .int) (rmx 2 2) [.ref (ad 0), .int x, .int y] D cs ad v sd (fun r v' sd' => ∃ i, i < tc ∧ x = nI i ∧ (¬ y < 0 ∧ y < 3) ∧ r = some (.int (if y = 0 then v (2 + i) 2 else if y = 1 then barZ v i else if 0 < v (2 + i) 1 - v (2 + i) 2 then v (2 + i) 1 - v (2 + i) 2 else 0)) ∧ v = v' ∧ sd = sd') (fun cls => ((¬ ∃ i, i < tc ∧ x = nI i) ∧ cls = "java/lang/IndexOutOfBoundsException") ∨ (∃ i, i < tc ∧ x = nI i ∧ (y < 0 ∨ ¬ y < 3) ∧ cls = "java/lang/IndexOutOfBoundsException")) := by
  refine cw_enter (own := "WearHours") rfl (Nat.le_of_ble_eq_true rfl) ?_
  intro p e s m below meth c ls K hS hP hl
  have hl : lv_has ls 4 [(0, .ref (ad 0)), (1, .int x), (2, .int y)] := hl
  refine lv_aload_n K.hx K.hb d_W_told_0 rfl (lv_at hl 0 rfl) ?_
  refine lv_iload_n K.hx K.hb d_W_told_1 rfl (lv_at hl 1 rfl) ?_
  refine cc_Vx K hP hS (c_W_knownThing l D cs ad _ _ hfl htc ht8 x) (fun cls h => Or.inl h) kw_423 xm_W_knownThing kw_420 kw_422 kw_9 (g_recv K.1.2.1 hP (0) (by decide) rfl rfl) rfl hl.1 d_W_told_2 (Nat.le_of_ble_eq_true rfl) (Nat.le_of_ble_eq_true rfl) ⟨(Nat.le_of_ble_eq_true rfl), (Nat.le_of_ble_eq_true rfl)⟩ (Nat.le_of_ble_eq_true rfl) (Nat.le_of_ble_eq_true rfl) (fun r v1 sd1 H l1 hp hP hS => ?_)
  obtain ⟨i, hi, rfl, rfl, rfl, rfl⟩ := hp
  have hi8 : i < 8 := by omega
  refine lv_astore_n (lv' := [(3, .ref (ad (2 + i))), (0, .ref (ad 0)), (1, .int (nI i)), (2, .int y)]) K.hx K.hb d_W_told_5 rfl hl (by decide) rfl (fun ls hl => ?_)
  refine lv_iload_n K.hx K.hb d_W_told_6 rfl (lv_at hl 3 rfl) ?_
  refine cc_Sx K hP hS (c_W_checkWhat l D cs ad _ _ hfl y) (fun cls h => Or.inr ⟨i, hi, rfl, h⟩) kw_478 xm_W_checkWhat kw_476 kw_477 kw_22 rfl hl.1 d_W_told_7 (Nat.le_of_ble_eq_true rfl) (Nat.le_of_ble_eq_true rfl) ⟨(Nat.le_of_ble_eq_true rfl), (Nat.le_of_ble_eq_true rfl)⟩ (Nat.le_of_ble_eq_true rfl) (Nat.le_of_ble_eq_true rfl) (fun r v1 sd1 H l1 hp hP hS => ?_)
  obtain ⟨hcw, rfl, rfl, rfl⟩ := hp
  refine lv_iload_n K.hx K.hb d_W_told_10 rfl (lv_at hl 3 rfl) ?_
  refine lv_if_ne (tgt := 19) K.hx K.hb d_W_told_11 (by decide) (fun c_11 => ?_) (fun c_11 => ?_)
  · refine lv_iload_n K.hx K.hb d_W_told_19 rfl (lv_at hl 3 rfl) ?_
    refine lv_iconst (v := 1) K.hx K.hb d_W_told_20 (by decide) ?_
    refine lv_icmp_ne (tgt := 37) K.hx K.hb d_W_told_21 (by decide) (fun c_21 => ?_) (fun c_21 => ?_)
    · refine lv_aload_n K.hx K.hb d_W_told_37 rfl (lv_at hl 0 rfl) ?_
      refine cc_V K hP hS (c_T_unitsToBound l D cs ad _ _ hi8) kw_483 xm_T_unitsToBound kw_480 kw_481 kw_482 (g_recv K.1.2.1 hP (2 + i) (by have := hi8; omega) (eT hi8) rfl) rfl hl.1 d_W_told_38 (Nat.le_of_ble_eq_true rfl) (Nat.le_of_ble_eq_true rfl) ⟨(Nat.le_of_ble_eq_true rfl), (Nat.le_of_ble_eq_true rfl)⟩ (fun r v1 sd1 H l1 hp hP hS => ?_)
      obtain ⟨rfl, rfl, rfl⟩ := hp
      exact ce_i K hP hS ⟨i, hi, rfl, hcw, by rw [if_neg c_11, if_neg c_21], rfl, rfl⟩ (Nat.le_of_ble_eq_true rfl) (Nat.le_of_ble_eq_true rfl) d_W_told_41
    · refine lv_aload_n K.hx K.hb d_W_told_24 rfl (lv_at hl 0 rfl) ?_
      refine cc_V K hP hS (c_T_isBarred l D cs ad _ _ hi8) kw_443 xm_T_isBarred kw_440 kw_441 kw_442 (g_recv K.1.2.1 hP (2 + i) (by have := hi8; omega) (eT hi8) rfl) rfl hl.1 d_W_told_25 (Nat.le_of_ble_eq_true rfl) (Nat.le_of_ble_eq_true rfl) ⟨(Nat.le_of_ble_eq_true rfl), (Nat.le_of_ble_eq_true rfl)⟩ (fun r v1 sd1 H l1 hp hP hS => ?_)
      obtain ⟨rfl, rfl, rfl⟩ := hp
      refine lv_if_eq (tgt := 35) K.hx K.hb d_W_told_28 (by decide) (fun c_28 => ?_) (fun c_28 => ?_)
      · refine lv_iconst (v := 0) K.hx K.hb d_W_told_35 (by decide) ?_
        exact ce_i K hP hS ⟨i, hi, rfl, hcw, by rw [if_neg c_11, if_pos c_21, c_28], rfl, rfl⟩ (Nat.le_of_ble_eq_true rfl) (Nat.le_of_ble_eq_true rfl) d_W_told_36
      · refine lv_iconst (v := 1) K.hx K.hb d_W_told_31 (by decide) ?_
        refine lv_goto (tgt := 36) K.hx K.hb d_W_told_32 (by decide) ?_
        exact ce_i K hP hS ⟨i, hi, rfl, hcw, by rw [if_neg c_11, if_pos c_21, barz_1 c_28], rfl, rfl⟩ (Nat.le_of_ble_eq_true rfl) (Nat.le_of_ble_eq_true rfl) d_W_told_36
  · refine lv_aload_n K.hx K.hb d_W_told_14 rfl (lv_at hl 0 rfl) ?_
    refine g_get K.1 hP (2 + i) (by have := hi8; omega) (eT hi8) rfl i_T 2 (by decide) rfl (Or.inr nw_57) rfl d_W_told_15 ?_
    exact ce_i K hP hS ⟨i, hi, rfl, hcw, by rw [if_pos c_11], rfl, rfl⟩ (Nat.le_of_ble_eq_true rfl) (Nat.le_of_ble_eq_true rfl) d_W_told_18
set_option maxHeartbeats 4000000 in
set_option maxRecDepth 100000 in
theorem c_W_left (l : Launch) (D : va_G) (cs : Nat → ClassId) (ad : Nat → Nat) (v : Nat → Nat → Int32) (sd : Int64) (hfl : l.flags = flags0) {tc : Nat} (htc : v 0 2 = nI tc) (ht8 : tc ≤ 8) (x y : Int32)  : Cm l y_W_left b_W_left 7 (some .int) (rmx 2 2) [.ref (ad 0), .int x, .int y] D cs ad v sd (fun r v' sd' => ∃ i, i < tc ∧ x = nI i ∧ ¬ wthZ y 0 1000 = 0 ∧ r = some (.int (if 0 < v (2 + i) 0 * (50 + ((dr4 sd (1001 * (nI i).toInt64 + y.toInt64 + 1) &&& 9223372036854775807) - (dr4 sd (1001 * (nI i).toInt64 + y.toInt64 + 1) &&& 9223372036854775807) / 101 * 101).toInt32) / 100 - v (2 + i) 2 then v (2 + i) 0 * (50 + ((dr4 sd (1001 * (nI i).toInt64 + y.toInt64 + 1) &&& 9223372036854775807) - (dr4 sd (1001 * (nI i).toInt64 + y.toInt64 + 1) &&& 9223372036854775807) / 101 * 101).toInt32) / 100 - v (2 + i) 2 else 0)) ∧ v = v' ∧ sd = sd') (fun cls => ((¬ ∃ i, i < tc ∧ x = nI i) ∧ cls = "java/lang/IndexOutOfBoundsException") ∨ (∃ i, i < tc ∧ x = nI i ∧ wthZ y 0 1000 = 0 ∧ cls = "java/lang/IllegalArgumentException")) := by
  refine cw_enter (own := "WearHours") rfl (Nat.le_of_ble_eq_true rfl) ?_
  intro p e s m below meth c ls K hS hP hl
  have hl : lv_has ls 7 [(0, .ref (ad 0)), (1, .int x), (2, .int y)] := hl
  refine lv_aload_n K.hx K.hb d_W_left_0 rfl (lv_at hl 0 rfl) ?_
  refine lv_iload_n K.hx K.hb d_W_left_1 rfl (lv_at hl 1 rfl) ?_
  refine cc_Vx K hP hS (c_W_knownThing l D cs ad _ _ hfl htc ht8 x) (fun cls h => Or.inl h) kw_423 xm_W_knownThing kw_420 kw_422 kw_9 (g_recv K.1.2.1 hP (0) (by decide) rfl rfl) rfl hl.1 d_W_left_2 (Nat.le_of_ble_eq_true rfl) (Nat.le_of_ble_eq_true rfl) ⟨(Nat.le_of_ble_eq_true rfl), (Nat.le_of_ble_eq_true rfl)⟩ (Nat.le_of_ble_eq_true rfl) (Nat.le_of_ble_eq_true rfl) (fun r v1 sd1 H l1 hp hP hS => ?_)
  obtain ⟨i, hi, rfl, rfl, rfl, rfl⟩ := hp
  have hi8 : i < 8 := by omega
  refine lv_astore_n (lv' := [(3, .ref (ad (2 + i))), (0, .ref (ad 0)), (1, .int (nI i)), (2, .int y)]) K.hx K.hb d_W_left_5 rfl hl (by decide) rfl (fun ls hl => ?_)
  refine lv_iload_n K.hx K.hb d_W_left_6 rfl (lv_at hl 3 rfl) ?_
  refine lv_iconst (v := 0) K.hx K.hb d_W_left_7 (by decide) ?_
  refine lv_sipush (v := 1000) K.hx K.hb d_W_left_8 (by decide) ?_
  refine cc_S K hP hS (c_W_isWithin l D cs ad _ _ y 0 1000) kw_321 xm_W_isWithin kw_319 kw_320 kw_22 rfl hl.1 d_W_left_11 (Nat.le_of_ble_eq_true rfl) (Nat.le_of_ble_eq_true rfl) ⟨(Nat.le_of_ble_eq_true rfl), (Nat.le_of_ble_eq_true rfl)⟩ (fun r v1 sd1 H l1 hp hP hS => ?_)
  obtain ⟨rfl, rfl, rfl⟩ := hp
  refine lv_if_ne (tgt := 27) K.hx K.hb d_W_left_14 (by decide) (fun c_14 => ?_) (fun c_14 => ?_)
  · refine lv_aload_n K.hx K.hb d_W_left_27 rfl (lv_at hl 1 rfl) ?_
    refine lv_ldc2 (v := 1001) K.hx K.hb K.1.1.2.2.2.1 (K.1.1.2.2.2.2 _ kw_493) d_W_left_28 ?_
    refine lv_iload_n K.hx K.hb d_W_left_31 rfl (lv_at hl 2 rfl) ?_
    refine lv_i2l K.hx K.hb d_W_left_32 rfl ?_
    refine lv_lmul K.hx K.hb d_W_left_33 ?_
    refine lv_iload_n K.hx K.hb d_W_left_34 rfl (lv_at hl 3 rfl) ?_
    refine lv_i2l K.hx K.hb d_W_left_35 rfl ?_
    refine lv_ladd K.hx K.hb d_W_left_36 ?_
    refine lv_lconst (v := 1) K.hx K.hb d_W_left_37 (by decide) ?_
    refine lv_ladd K.hx K.hb d_W_left_38 ?_
    refine cc_V K hP hS (c_W_drawnNumber l D cs ad _ _ (((1001 * ((nI i).toInt64)) + y.toInt64) + 1)) kw_497 xm_W_drawnNumber kw_494 kw_496 kw_11 (g_recv K.1.2.1 hP (0) (by decide) rfl rfl) rfl hl.1 d_W_left_39 (Nat.le_of_ble_eq_true rfl) (Nat.le_of_ble_eq_true rfl) ⟨(Nat.le_of_ble_eq_true rfl), (Nat.le_of_ble_eq_true rfl)⟩ (fun r v1 sd1 H l1 hp hP hS => ?_)
    obtain ⟨rfl, rfl, rfl⟩ := hp
    refine lv_topl (fun z1 ez1 => ?_)
    refine lv_lstore (lv' := [(4, .long z1), (3, .ref (ad (2 + i))), (0, .ref (ad 0)), (1, .int (nI i)), (2, .int y)]) K.hx K.hb d_W_left_42 hl (by decide) rfl (fun ls hl => ?_)
    refine lv_bipush (v := 50) K.hx K.hb d_W_left_44 (by decide) ?_
    refine lv_lload K.hx K.hb d_W_left_46 (lv_at hl 0 rfl) ?_
    refine lv_ldc2 (v := 101) K.hx K.hb K.1.1.2.2.2.1 (K.1.1.2.2.2.2 _ kw_502) d_W_left_48 ?_
    refine lv_lrem K.hx K.hb d_W_left_51 (by decide) ?_
    refine lv_l2i K.hx K.hb d_W_left_52 rfl ?_
    refine lv_iadd K.hx K.hb d_W_left_53 ?_
    refine lv_topi (fun z2 ez2 => ?_)
    refine lv_istore (lv' := [(6, .int z2), (4, .long z1), (3, .ref (ad (2 + i))), (0, .ref (ad 0)), (1, .int (nI i)), (2, .int y)]) K.hx K.hb d_W_left_54 hl (by decide) rfl (fun ls hl => ?_)
    refine lv_iconst (v := 0) K.hx K.hb d_W_left_56 (by decide) ?_
    refine lv_aload_n K.hx K.hb d_W_left_57 rfl (lv_at hl 2 rfl) ?_
    refine g_get K.1 hP (2 + i) (by have := hi8; omega) (eT hi8) rfl i_T 0 (by decide) rfl (Or.inr nw_54) rfl d_W_left_58 ?_
    refine lv_iload K.hx K.hb d_W_left_61 (lv_at hl 0 rfl) ?_
    refine lv_imul K.hx K.hb d_W_left_63 ?_
    refine lv_bipush (v := 100) K.hx K.hb d_W_left_64 (by decide) ?_
    refine lv_idiv K.hx K.hb d_W_left_66 (by decide) ?_
    refine lv_aload_n K.hx K.hb d_W_left_67 rfl (lv_at hl 2 rfl) ?_
    refine g_get K.1 hP (2 + i) (by have := hi8; omega) (eT hi8) rfl i_T 2 (by decide) rfl (Or.inr nw_57) rfl d_W_left_68 ?_
    refine lv_isub K.hx K.hb d_W_left_71 ?_
    refine va_mmax K.hx K.hb (K.1.1.2.2.1.trans hl.1.symm) K.1.1.2.2.2.1 (K.1.1.2.2.2.2 _ kw_503) (K.1.1.2.2.2.2 _ kw_274) (K.1.1.2.2.2.2 _ kw_37) (K.1.1.2.2.2.2 _ kw_275) (Nat.le_of_ble_eq_true rfl) (Nat.le_of_ble_eq_true rfl) (Nat.le_of_ble_eq_true rfl) (Nat.le_of_ble_eq_true rfl) d_W_left_72 ?_
    exact ce_i K hP hS ⟨i, hi, rfl, ‹_›, by subst ez1 ez2; rfl, rfl, rfl⟩ (Nat.le_of_ble_eq_true rfl) (Nat.le_of_ble_eq_true rfl) d_W_left_75
  · exact ce_t K hP hS hfl kw_322 kw_33 xa_IAE rfl (text := "a draw is 0 to 1000") (by decide) hl.1 d_W_left_17 d_W_left_20 d_W_left_21 d_W_left_23 d_W_left_26 (Nat.le_of_ble_eq_true rfl) (Nat.le_of_ble_eq_true rfl) (Nat.le_of_ble_eq_true rfl) (Nat.le_of_ble_eq_true rfl) (Nat.le_of_ble_eq_true rfl) (Nat.le_of_ble_eq_true rfl) (Or.inr ⟨i, hi, rfl, ‹_›, rfl⟩)
set_option maxHeartbeats 4000000 in
set_option maxRecDepth 100000 in
theorem c_W_permit (l : Launch) (D : va_G) (cs : Nat → ClassId) (ad : Nat → Nat) (v : Nat → Nat → Int32) (sd : Int64) (hfl : l.flags = flags0) {tc : Nat} (htc : v 0 2 = nI tc) (ht8 : tc ≤ 8) (x y : Int32) (h_y : y = 0 ∨ y = 1) : Cm l y_W_permit b_W_permit 4 none (rmx 2 2) [.ref (ad 0), .int x, .int y] D cs ad v sd (fun r v' sd' => ∃ i, i < tc ∧ x = nI i ∧ ¬ v (2 + i) 3 = y ∧ r = none ∧ kp (u2 v (2 + i) 3 y) i (if y = 0 then -2 else -3) = v' ∧ sd = sd') (fun cls => ((¬ ∃ i, i < tc ∧ x = nI i) ∧ cls = "java/lang/IndexOutOfBoundsException") ∨ (∃ i, i < tc ∧ x = nI i ∧ v (2 + i) 3 = y ∧ cls = "java/lang/UnsupportedOperationException")) := by
  refine cw_enter (own := "WearHours") rfl (Nat.le_of_ble_eq_true rfl) ?_
  intro p e s m below meth c ls K hS hP hl
  have hl : lv_has ls 4 [(0, .ref (ad 0)), (1, .int x), (2, .int y)] := hl
  refine lv_aload_n K.hx K.hb d_W_permit_0 rfl (lv_at hl 0 rfl) ?_
  refine lv_iload_n K.hx K.hb d_W_permit_1 rfl (lv_at hl 1 rfl) ?_
  refine cc_Vx K hP hS (c_W_knownThing l D cs ad _ _ hfl htc ht8 x) (fun cls h => Or.inl h) kw_423 xm_W_knownThing kw_420 kw_422 kw_9 (g_recv K.1.2.1 hP (0) (by decide) rfl rfl) rfl hl.1 d_W_permit_2 (Nat.le_of_ble_eq_true rfl) (Nat.le_of_ble_eq_true rfl) ⟨(Nat.le_of_ble_eq_true rfl), (Nat.le_of_ble_eq_true rfl)⟩ (Nat.le_of_ble_eq_true rfl) (Nat.le_of_ble_eq_true rfl) (fun r v1 sd1 H l1 hp hP hS => ?_)
  obtain ⟨i, hi, rfl, rfl, rfl, rfl⟩ := hp
  have hi8 : i < 8 := by omega
  refine lv_astore_n (lv' := [(3, .ref (ad (2 + i))), (0, .ref (ad 0)), (1, .int (nI i)), (2, .int y)]) K.hx K.hb d_W_permit_5 rfl hl (by decide) rfl (fun ls hl => ?_)
  refine lv_aload_n K.hx K.hb d_W_permit_6 rfl (lv_at hl 0 rfl) ?_
  refine g_get K.1 hP (2 + i) (by have := hi8; omega) (eT hi8) rfl i_T 3 (by decide) rfl (Or.inr nw_59) rfl d_W_permit_7 ?_
  refine lv_iload_n K.hx K.hb d_W_permit_10 rfl (lv_at hl 3 rfl) ?_
  refine lv_icmp_ne (tgt := 24) K.hx K.hb d_W_permit_11 (by decide) (fun c_11 => ?_) (fun c_11 => ?_)
  · refine lv_aload_n K.hx K.hb d_W_permit_24 rfl (lv_at hl 0 rfl) ?_
    refine lv_iload_n K.hx K.hb d_W_permit_25 rfl (lv_at hl 3 rfl) ?_
    refine cc_V K hP hS (c_T_setPermit l D cs ad _ _ hi8 y h_y) kw_515 xm_T_setPermit kw_512 kw_513 kw_514 (g_recv K.1.2.1 hP (2 + i) (by have := hi8; omega) (eT hi8) rfl) rfl hl.1 d_W_permit_26 (Nat.le_of_ble_eq_true rfl) (Nat.le_of_ble_eq_true rfl) ⟨(Nat.le_of_ble_eq_true rfl), (Nat.le_of_ble_eq_true rfl)⟩ (fun r v1 sd1 H l1 hp hP hS => ?_)
    obtain ⟨rfl, rfl, rfl⟩ := hp
    exact ce_v K hP hS ⟨i, hi, rfl, ‹_›, rfl, rfl, rfl⟩ (Nat.le_of_ble_eq_true rfl) (Nat.le_of_ble_eq_true rfl) d_W_permit_29
  · exact ce_t K hP hS hfl kw_391 kw_34 xa_UOE rfl (text := "the permit is so already") (by decide) hl.1 d_W_permit_14 d_W_permit_17 d_W_permit_18 d_W_permit_20 d_W_permit_23 (Nat.le_of_ble_eq_true rfl) (Nat.le_of_ble_eq_true rfl) (Nat.le_of_ble_eq_true rfl) (Nat.le_of_ble_eq_true rfl) (Nat.le_of_ble_eq_true rfl) (Nat.le_of_ble_eq_true rfl) (Or.inr ⟨i, hi, rfl, ‹_›, rfl⟩)
set_option maxHeartbeats 4000000 in
set_option maxRecDepth 100000 in
theorem c_W_history (l : Launch) (D : va_G) (cs : Nat → ClassId) (ad : Nat → Nat) (v : Nat → Nat → Int32) (sd : Int64) (hfl : l.flags = flags0) {tc : Nat} (htc : v 0 2 = nI tc) (ht8 : tc ≤ 8) (x y : Int32)  : Cm l y_W_history b_W_history 4 (some .int) (rmx 2 2) [.ref (ad 0), .int x, .int y] D cs ad v sd (fun r v' sd' => ∃ i, i < tc ∧ x = nI i ∧ ¬ y < 0 ∧ r = some (.int (if y < 0 then 0 else if 5 ≤ y then 0 else v (10 + i) y.toNatClampNeg)) ∧ v = v' ∧ sd = sd') (fun cls => ((¬ ∃ i, i < tc ∧ x = nI i) ∧ cls = "java/lang/IndexOutOfBoundsException") ∨ (∃ i, i < tc ∧ x = nI i ∧ y < 0 ∧ cls = "java/lang/IndexOutOfBoundsException")) := by
  refine cw_enter (own := "WearHours") rfl (Nat.le_of_ble_eq_true rfl) ?_
  intro p e s m below meth c ls K hS hP hl
  have hl : lv_has ls 4 [(0, .ref (ad 0)), (1, .int x), (2, .int y)] := hl
  refine lv_aload_n K.hx K.hb d_W_history_0 rfl (lv_at hl 0 rfl) ?_
  refine lv_iload_n K.hx K.hb d_W_history_1 rfl (lv_at hl 1 rfl) ?_
  refine cc_Vx K hP hS (c_W_knownThing l D cs ad _ _ hfl htc ht8 x) (fun cls h => Or.inl h) kw_423 xm_W_knownThing kw_420 kw_422 kw_9 (g_recv K.1.2.1 hP (0) (by decide) rfl rfl) rfl hl.1 d_W_history_2 (Nat.le_of_ble_eq_true rfl) (Nat.le_of_ble_eq_true rfl) ⟨(Nat.le_of_ble_eq_true rfl), (Nat.le_of_ble_eq_true rfl)⟩ (Nat.le_of_ble_eq_true rfl) (Nat.le_of_ble_eq_true rfl) (fun r v1 sd1 H l1 hp hP hS => ?_)
  obtain ⟨i, hi, rfl, rfl, rfl, rfl⟩ := hp
  have hi8 : i < 8 := by omega
  refine lv_astore_n (lv' := [(3, .ref (ad (2 + i))), (0, .ref (ad 0)), (1, .int (nI i)), (2, .int y)]) K.hx K.hb d_W_history_5 rfl hl (by decide) rfl (fun ls hl => ?_)
  refine lv_iload_n K.hx K.hb d_W_history_6 rfl (lv_at hl 3 rfl) ?_
  refine lv_if_ge (tgt := 20) K.hx K.hb d_W_history_7 (by decide) (fun c_7 => ?_) (fun c_7 => ?_)
  · refine lv_aload_n K.hx K.hb d_W_history_20 rfl (lv_at hl 0 rfl) ?_
    refine lv_iload_n K.hx K.hb d_W_history_21 rfl (lv_at hl 3 rfl) ?_
    refine cc_V K hP hS (c_T_change l D cs ad _ _ hi8 y) kw_527 xm_T_change kw_524 kw_525 kw_526 (g_recv K.1.2.1 hP (2 + i) (by have := hi8; omega) (eT hi8) rfl) rfl hl.1 d_W_history_22 (Nat.le_of_ble_eq_true rfl) (Nat.le_of_ble_eq_true rfl) ⟨(Nat.le_of_ble_eq_true rfl), (Nat.le_of_ble_eq_true rfl)⟩ (fun r v1 sd1 H l1 hp hP hS => ?_)
    obtain ⟨rfl, rfl, rfl⟩ := hp
    exact ce_i K hP hS ⟨i, hi, rfl, Int32.not_lt.mpr c_7, rfl, rfl, rfl⟩ (Nat.le_of_ble_eq_true rfl) (Nat.le_of_ble_eq_true rfl) d_W_history_25
  · exact ce_t K hP hS hfl kw_424 kw_35 xa_IOE rfl (text := "a change\'s number is 0 or more") (by decide) hl.1 d_W_history_10 d_W_history_13 d_W_history_14 d_W_history_16 d_W_history_19 (Nat.le_of_ble_eq_true rfl) (Nat.le_of_ble_eq_true rfl) (Nat.le_of_ble_eq_true rfl) (Nat.le_of_ble_eq_true rfl) (Nat.le_of_ble_eq_true rfl) (Nat.le_of_ble_eq_true rfl) (Or.inr ⟨i, hi, rfl, Int32.not_le.mp c_7, rfl⟩)
end
section
set_option maxHeartbeats 4000000 in
set_option maxRecDepth 100000 in
theorem c_W_gap (l : Launch) (D : va_G) (cs : Nat → ClassId) (ad : Nat → Nat) (v : Nat → Nat → Int32) (sd : Int64) (hfl : l.flags = flags0) {gc : Nat} (hgc : v 19 1 = nI gc) (hgl : gc ≤ 6) (x y : Int32)  : Cm l y_W_gap b_W_gap 3 (some .int) (rmx 1 2) [.ref (ad 0), .int x, .int y] D cs ad v sd (fun r v' sd' => (¬ x < 0 ∧ ¬ 168 < y ∧ x < y) ∧ gc < 6 ∧ r = some (.int (v 19 1 + 1)) ∧ u2 (u2 (u2 (u2 v (21 + gc) 0 x) (21 + gc) 1 y) 19 1 (v 19 1 + 1)) 38 4 0 = v' ∧ sd = sd') (fun cls => (¬ (¬ x < 0 ∧ ¬ 168 < y ∧ x < y) ∧ cls = "java/lang/IllegalArgumentException") ∨ ((¬ x < 0 ∧ ¬ 168 < y ∧ x < y) ∧ ¬ gc < 6 ∧ cls = "java/lang/UnsupportedOperationException")) := by
  refine cw_enter (own := "WearHours") rfl (Nat.le_of_ble_eq_true rfl) ?_
  intro p e s m below meth c ls K hS hP hl
  have hl : lv_has ls 3 [(0, .ref (ad 0)), (1, .int x), (2, .int y)] := hl
  refine lv_iload_n K.hx K.hb d_W_gap_0 rfl (lv_at hl 1 rfl) ?_
  refine lv_iload_n K.hx K.hb d_W_gap_1 rfl (lv_at hl 2 rfl) ?_
  refine cc_Sx K hP hS (c_W_checkHours l D cs ad _ _ hfl x y) (fun cls h => Or.inl h) kw_537 xm_W_checkHours kw_535 kw_536 kw_22 rfl hl.1 d_W_gap_2 (Nat.le_of_ble_eq_true rfl) (Nat.le_of_ble_eq_true rfl) ⟨(Nat.le_of_ble_eq_true rfl), (Nat.le_of_ble_eq_true rfl)⟩ (Nat.le_of_ble_eq_true rfl) (Nat.le_of_ble_eq_true rfl) (fun r v1 sd1 H l1 hp hP hS => ?_)
  obtain ⟨hch, rfl, rfl, rfl⟩ := hp
  refine lv_aload_n K.hx K.hb d_W_gap_5 rfl (lv_at hl 0 rfl) ?_
  refine g_get K.1 hP (0) (by decide) rfl rfl i_W 4 (by decide) rfl (Or.inl kw_226) rfl d_W_gap_6 ?_
  refine g_get K.1 hP (19) (by decide) rfl rfl i_K 1 (by decide) rfl (Or.inr nw_157) rfl d_W_gap_9 ?_
  refine lv_bipush (v := 6) K.hx K.hb d_W_gap_12 (by decide) ?_
  refine lv_icmp_lt (tgt := 27) K.hx K.hb d_W_gap_14 (by decide) (fun c_14 => ?_) (fun c_14 => ?_)
  · have hg6 : gc < 6 := (nI_ltI (by omega) (by decide)).mp (by rw [← hgc]; exact c_14)
    refine lv_aload_n K.hx K.hb d_W_gap_27 rfl (lv_at hl 0 rfl) ?_
    refine g_get K.1 hP (0) (by decide) rfl rfl i_W 4 (by decide) rfl (Or.inl kw_226) rfl d_W_gap_28 ?_
    refine lv_iload_n K.hx K.hb d_W_gap_31 rfl (lv_at hl 1 rfl) ?_
    refine lv_iload_n K.hx K.hb d_W_gap_32 rfl (lv_at hl 2 rfl) ?_
    refine cc_V K hP hS (c_K_addGap l D cs ad _ _ hgc hg6 x y) kw_543 xm_K_addGap kw_540 kw_541 kw_542 (g_recv K.1.2.1 hP (19) (by decide) rfl rfl) rfl hl.1 d_W_gap_33 (Nat.le_of_ble_eq_true rfl) (Nat.le_of_ble_eq_true rfl) ⟨(Nat.le_of_ble_eq_true rfl), (Nat.le_of_ble_eq_true rfl)⟩ (fun r v1 sd1 H l1 hp hP hS => ?_)
    obtain ⟨rfl, rfl, rfl⟩ := hp
    refine lv_aload_n K.hx K.hb d_W_gap_36 rfl (lv_at hl 0 rfl) ?_
    refine g_get K.1 hP (0) (by decide) rfl rfl i_W 5 (by decide) rfl (Or.inl kw_227) rfl d_W_gap_37 ?_
    refine cc_V K hP hS (c_L_forget l D cs ad _ _) kw_547 xm_L_forget kw_544 kw_545 kw_546 (g_recv K.1.2.1 hP (38) (by decide) rfl rfl) rfl hl.1 d_W_gap_40 (Nat.le_of_ble_eq_true rfl) (Nat.le_of_ble_eq_true rfl) ⟨(Nat.le_of_ble_eq_true rfl), (Nat.le_of_ble_eq_true rfl)⟩ (fun r v1 sd1 H l1 hp hP hS => ?_)
    obtain ⟨rfl, rfl, rfl⟩ := hp
    refine lv_aload_n K.hx K.hb d_W_gap_43 rfl (lv_at hl 0 rfl) ?_
    refine g_get K.1 hP (0) (by decide) rfl rfl i_W 4 (by decide) rfl (Or.inl kw_226) rfl d_W_gap_44 ?_
    refine g_get K.1 hP (19) (by decide) rfl rfl i_K 1 (by decide) rfl (Or.inr nw_157) rfl d_W_gap_47 ?_
    refine lv_topE (y := (v 19 1 + 1)) (by first | (simp [u2_at, kp]; done) | (simp [u2_at, kp] <;> (intros; omega)) | (simp only [u2_at, kp]; (repeat' split) <;> first | rfl | (exfalso; omega))) ?_
    exact ce_i K hP hS ⟨hch, hg6, rfl, rfl, rfl⟩ (Nat.le_of_ble_eq_true rfl) (Nat.le_of_ble_eq_true rfl) d_W_gap_50
  · exact ce_t K hP hS hfl kw_391 kw_34 xa_UOE rfl (text := "there are 6 gaps") (by decide) hl.1 d_W_gap_17 d_W_gap_20 d_W_gap_21 d_W_gap_23 d_W_gap_26 (Nat.le_of_ble_eq_true rfl) (Nat.le_of_ble_eq_true rfl) (Nat.le_of_ble_eq_true rfl) (Nat.le_of_ble_eq_true rfl) (Nat.le_of_ble_eq_true rfl) (Nat.le_of_ble_eq_true rfl) (Or.inr ⟨hch, fun h => c_14 (by rw [hgc]; exact nI_lt h (by decide)), rfl⟩)
set_option maxHeartbeats 4000000 in
set_option maxRecDepth 100000 in
theorem c_W_person (l : Launch) (D : va_G) (cs : Nat → ClassId) (ad : Nat → Nat) (v : Nat → Nat → Int32) (sd : Int64) (hfl : l.flags = flags0) {pc : Nat} (hpc : v 19 3 = nI pc) (hpl : pc ≤ 4) (x y z : Int32)  : Cm l y_W_person b_W_person 4 (some .int) (rmx 1 3) [.ref (ad 0), .int x, .int y, .int z] D cs ad v sd (fun r v' sd' => ((¬ x < 0 ∧ x < 4) ∧ ¬ y < 0 ∧ ¬ 168 < z ∧ y < z) ∧ pc < 4 ∧ r = some (.int (v 19 3 + 1 - 1)) ∧ u2 (u2 (u2 (u2 (u2 v (28 + pc) 0 x) (28 + pc) 1 y) (28 + pc) 2 z) 19 3 (v 19 3 + 1)) 38 4 0 = v' ∧ sd = sd') (fun cls => (¬ ((¬ x < 0 ∧ x < 4) ∧ ¬ y < 0 ∧ ¬ 168 < z ∧ y < z) ∧ cls = "java/lang/IllegalArgumentException") ∨ (((¬ x < 0 ∧ x < 4) ∧ ¬ y < 0 ∧ ¬ 168 < z ∧ y < z) ∧ ¬ pc < 4 ∧ cls = "java/lang/UnsupportedOperationException")) := by
  refine cw_enter (own := "WearHours") rfl (Nat.le_of_ble_eq_true rfl) ?_
  intro p e s m below meth c ls K hS hP hl
  have hl : lv_has ls 4 [(0, .ref (ad 0)), (1, .int x), (2, .int y), (3, .int z)] := hl
  refine lv_iload_n K.hx K.hb d_W_person_0 rfl (lv_at hl 1 rfl) ?_
  refine cc_Sx K hP hS (c_W_checkSkill l D cs ad _ _ hfl x) (fun cls h => Or.inl ⟨fun q => by rcases h.1 with h1 | h1 <;> simp_all, h.2⟩) kw_557 xm_W_checkSkill kw_555 kw_556 kw_22 rfl hl.1 d_W_person_1 (Nat.le_of_ble_eq_true rfl) (Nat.le_of_ble_eq_true rfl) ⟨(Nat.le_of_ble_eq_true rfl), (Nat.le_of_ble_eq_true rfl)⟩ (Nat.le_of_ble_eq_true rfl) (Nat.le_of_ble_eq_true rfl) (fun r v1 sd1 H l1 hp hP hS => ?_)
  obtain ⟨hcs, rfl, rfl, rfl⟩ := hp
  refine lv_iload_n K.hx K.hb d_W_person_4 rfl (lv_at hl 2 rfl) ?_
  refine lv_iload_n K.hx K.hb d_W_person_5 rfl (lv_at hl 3 rfl) ?_
  refine cc_Sx K hP hS (c_W_checkHours l D cs ad _ _ hfl y z) (fun cls h => Or.inl ⟨fun q => h.1 q.2, h.2⟩) kw_537 xm_W_checkHours kw_535 kw_536 kw_22 rfl hl.1 d_W_person_6 (Nat.le_of_ble_eq_true rfl) (Nat.le_of_ble_eq_true rfl) ⟨(Nat.le_of_ble_eq_true rfl), (Nat.le_of_ble_eq_true rfl)⟩ (Nat.le_of_ble_eq_true rfl) (Nat.le_of_ble_eq_true rfl) (fun r v1 sd1 H l1 hp hP hS => ?_)
  obtain ⟨hch, rfl, rfl, rfl⟩ := hp
  refine lv_aload_n K.hx K.hb d_W_person_9 rfl (lv_at hl 0 rfl) ?_
  refine g_get K.1 hP (0) (by decide) rfl rfl i_W 4 (by decide) rfl (Or.inl kw_226) rfl d_W_person_10 ?_
  refine g_get K.1 hP (19) (by decide) rfl rfl i_K 3 (by decide) rfl (Or.inr nw_162) rfl d_W_person_13 ?_
  refine lv_iconst (v := 4) K.hx K.hb d_W_person_16 (by decide) ?_
  refine lv_icmp_lt (tgt := 30) K.hx K.hb d_W_person_17 (by decide) (fun c_17 => ?_) (fun c_17 => ?_)
  · have hp4 : pc < 4 := (nI_ltI (by omega) (by decide)).mp (by rw [← hpc]; exact c_17)
    refine lv_aload_n K.hx K.hb d_W_person_30 rfl (lv_at hl 0 rfl) ?_
    refine g_get K.1 hP (0) (by decide) rfl rfl i_W 4 (by decide) rfl (Or.inl kw_226) rfl d_W_person_31 ?_
    refine lv_iload_n K.hx K.hb d_W_person_34 rfl (lv_at hl 1 rfl) ?_
    refine lv_iload_n K.hx K.hb d_W_person_35 rfl (lv_at hl 2 rfl) ?_
    refine lv_iload_n K.hx K.hb d_W_person_36 rfl (lv_at hl 3 rfl) ?_
    refine cc_V K hP hS (c_K_addPerson l D cs ad _ _ hpc hp4 x y z) kw_563 xm_K_addPerson kw_560 kw_561 kw_562 (g_recv K.1.2.1 hP (19) (by decide) rfl rfl) rfl hl.1 d_W_person_37 (Nat.le_of_ble_eq_true rfl) (Nat.le_of_ble_eq_true rfl) ⟨(Nat.le_of_ble_eq_true rfl), (Nat.le_of_ble_eq_true rfl)⟩ (fun r v1 sd1 H l1 hp hP hS => ?_)
    obtain ⟨rfl, rfl, rfl⟩ := hp
    refine lv_aload_n K.hx K.hb d_W_person_40 rfl (lv_at hl 0 rfl) ?_
    refine g_get K.1 hP (0) (by decide) rfl rfl i_W 5 (by decide) rfl (Or.inl kw_227) rfl d_W_person_41 ?_
    refine cc_V K hP hS (c_L_forget l D cs ad _ _) kw_547 xm_L_forget kw_544 kw_545 kw_546 (g_recv K.1.2.1 hP (38) (by decide) rfl rfl) rfl hl.1 d_W_person_44 (Nat.le_of_ble_eq_true rfl) (Nat.le_of_ble_eq_true rfl) ⟨(Nat.le_of_ble_eq_true rfl), (Nat.le_of_ble_eq_true rfl)⟩ (fun r v1 sd1 H l1 hp hP hS => ?_)
    obtain ⟨rfl, rfl, rfl⟩ := hp
    refine lv_aload_n K.hx K.hb d_W_person_47 rfl (lv_at hl 0 rfl) ?_
    refine g_get K.1 hP (0) (by decide) rfl rfl i_W 4 (by decide) rfl (Or.inl kw_226) rfl d_W_person_48 ?_
    refine g_get K.1 hP (19) (by decide) rfl rfl i_K 3 (by decide) rfl (Or.inr nw_162) rfl d_W_person_51 ?_
    refine lv_topE (y := (v 19 3 + 1)) (by first | (simp [u2_at, kp]; done) | (simp [u2_at, kp] <;> (intros; omega)) | (simp only [u2_at, kp]; (repeat' split) <;> first | rfl | (exfalso; omega))) ?_
    refine lv_iconst (v := 1) K.hx K.hb d_W_person_54 (by decide) ?_
    refine lv_isub K.hx K.hb d_W_person_55 ?_
    exact ce_i K hP hS ⟨⟨hcs, hch⟩, hp4, rfl, rfl, rfl⟩ (Nat.le_of_ble_eq_true rfl) (Nat.le_of_ble_eq_true rfl) d_W_person_56
  · exact ce_t K hP hS hfl kw_391 kw_34 xa_UOE rfl (text := "there are 4 persons") (by decide) hl.1 d_W_person_20 d_W_person_23 d_W_person_24 d_W_person_26 d_W_person_29 (Nat.le_of_ble_eq_true rfl) (Nat.le_of_ble_eq_true rfl) (Nat.le_of_ble_eq_true rfl) (Nat.le_of_ble_eq_true rfl) (Nat.le_of_ble_eq_true rfl) (Nat.le_of_ble_eq_true rfl) (Or.inr ⟨⟨hcs, hch⟩, fun h => c_17 (by rw [hpc]; exact nI_lt h (by decide)), rfl⟩)
set_option maxHeartbeats 4000000 in
set_option maxRecDepth 100000 in
theorem c_W_repair (l : Launch) (D : va_G) (cs : Nat → ClassId) (ad : Nat → Nat) (v : Nat → Nat → Int32) (sd : Int64) (hfl : l.flags = flags0) {tc : Nat} (htc : v 0 2 = nI tc) (ht8 : tc ≤ 8) {rc : Nat} (hrc : v 19 5 = nI rc) (hrl : rc ≤ 5) (x y z w : Int32)  : Cm l y_W_repair b_W_repair 5 (some .int) (rmx 3 3) [.ref (ad 0), .int x, .int y, .int z, .int w] D cs ad v sd (fun r v' sd' => ∃ i, i < tc ∧ x = nI i ∧ ((¬ z < 0 ∧ z < 4) ∧ ¬ wthZ y 1 24 = 0 ∧ ¬ wthZ w 0 1000 = 0) ∧ rc < 5 ∧ r = some (.int (v 19 5 + 1 - 1)) ∧ u2 (u2 (u2 (u2 (u2 (u2 (u2 (u2 (u2 v (33 + rc) 0 (nI i)) (33 + rc) 1 y) (33 + rc) 2 z) (33 + rc) 3 w) (33 + rc) 4 (-1)) (33 + rc) 5 (-1)) (33 + rc) 6 (-1)) 19 5 (v 19 5 + 1)) 38 4 0 = v' ∧ sd = sd') (fun cls => ((¬ ∃ i, i < tc ∧ x = nI i) ∧ cls = "java/lang/IndexOutOfBoundsException") ∨ ((∃ i, i < tc ∧ x = nI i) ∧ ¬ ((¬ z < 0 ∧ z < 4) ∧ ¬ wthZ y 1 24 = 0 ∧ ¬ wthZ w 0 1000 = 0) ∧ cls = "java/lang/IllegalArgumentException") ∨ ((∃ i, i < tc ∧ x = nI i) ∧ ((¬ z < 0 ∧ z < 4) ∧ ¬ wthZ y 1 24 = 0 ∧ ¬ wthZ w 0 1000 = 0) ∧ ¬ rc < 5 ∧ cls = "java/lang/UnsupportedOperationException")) := by
  refine cw_enter (own := "WearHours") rfl (Nat.le_of_ble_eq_true rfl) ?_
  intro p e s m below meth c ls K hS hP hl
  have hl : lv_has ls 5 [(0, .ref (ad 0)), (1, .int x), (2, .int y), (3, .int z), (4, .int w)] := hl
  refine lv_aload_n K.hx K.hb d_W_repair_0 rfl (lv_at hl 0 rfl) ?_
  refine lv_iload_n K.hx K.hb d_W_repair_1 rfl (lv_at hl 1 rfl) ?_
  refine cc_Vx K hP hS (c_W_knownThing l D cs ad _ _ hfl htc ht8 x) (fun cls h => Or.inl h) kw_423 xm_W_knownThing kw_420 kw_422 kw_9 (g_recv K.1.2.1 hP (0) (by decide) rfl rfl) rfl hl.1 d_W_repair_2 (Nat.le_of_ble_eq_true rfl) (Nat.le_of_ble_eq_true rfl) ⟨(Nat.le_of_ble_eq_true rfl), (Nat.le_of_ble_eq_true rfl)⟩ (Nat.le_of_ble_eq_true rfl) (Nat.le_of_ble_eq_true rfl) (fun r v1 sd1 H l1 hp hP hS => ?_)
  obtain ⟨i, hi, rfl, rfl, rfl, rfl⟩ := hp
  have hi8 : i < 8 := by omega
  refine lv_pop K.hx K.hb d_W_repair_5 rfl ?_
  refine lv_iload_n K.hx K.hb d_W_repair_6 rfl (lv_at hl 3 rfl) ?_
  refine cc_Sx K hP hS (c_W_checkSkill l D cs ad _ _ hfl z) (fun cls h => Or.inr (Or.inl ⟨⟨i, hi, rfl⟩, fun q => by rcases h.1 with h1 | h1 <;> simp_all, h.2⟩)) kw_557 xm_W_checkSkill kw_555 kw_556 kw_22 rfl hl.1 d_W_repair_7 (Nat.le_of_ble_eq_true rfl) (Nat.le_of_ble_eq_true rfl) ⟨(Nat.le_of_ble_eq_true rfl), (Nat.le_of_ble_eq_true rfl)⟩ (Nat.le_of_ble_eq_true rfl) (Nat.le_of_ble_eq_true rfl) (fun r v1 sd1 H l1 hp hP hS => ?_)
  obtain ⟨hcs, rfl, rfl, rfl⟩ := hp
  refine lv_iload_n K.hx K.hb d_W_repair_10 rfl (lv_at hl 2 rfl) ?_
  refine lv_iconst (v := 1) K.hx K.hb d_W_repair_11 (by decide) ?_
  refine lv_bipush (v := 24) K.hx K.hb d_W_repair_12 (by decide) ?_
  refine cc_S K hP hS (c_W_isWithin l D cs ad _ _ y 1 24) kw_321 xm_W_isWithin kw_319 kw_320 kw_22 rfl hl.1 d_W_repair_14 (Nat.le_of_ble_eq_true rfl) (Nat.le_of_ble_eq_true rfl) ⟨(Nat.le_of_ble_eq_true rfl), (Nat.le_of_ble_eq_true rfl)⟩ (fun r v1 sd1 H l1 hp hP hS => ?_)
  obtain ⟨rfl, rfl, rfl⟩ := hp
  refine lv_if_eq (tgt := 32) K.hx K.hb d_W_repair_17 (by decide) (fun c_17 => ?_) (fun c_17 => ?_)
  · exact ce_t K hP hS hfl kw_322 kw_33 xa_IAE rfl (text := "hours are 1 to 24, waiting is 0 to 1000") (by decide) hl.1 d_W_repair_32 d_W_repair_35 d_W_repair_36 d_W_repair_38 d_W_repair_41 (Nat.le_of_ble_eq_true rfl) (Nat.le_of_ble_eq_true rfl) (Nat.le_of_ble_eq_true rfl) (Nat.le_of_ble_eq_true rfl) (Nat.le_of_ble_eq_true rfl) (Nat.le_of_ble_eq_true rfl) (Or.inr (Or.inl ⟨⟨i, hi, rfl⟩, fun q => by simp_all, rfl⟩))
  · refine lv_iload K.hx K.hb d_W_repair_20 (lv_at hl 4 rfl) ?_
    refine lv_iconst (v := 0) K.hx K.hb d_W_repair_22 (by decide) ?_
    refine lv_sipush (v := 1000) K.hx K.hb d_W_repair_23 (by decide) ?_
    refine cc_S K hP hS (c_W_isWithin l D cs ad _ _ w 0 1000) kw_321 xm_W_isWithin kw_319 kw_320 kw_22 rfl hl.1 d_W_repair_26 (Nat.le_of_ble_eq_true rfl) (Nat.le_of_ble_eq_true rfl) ⟨(Nat.le_of_ble_eq_true rfl), (Nat.le_of_ble_eq_true rfl)⟩ (fun r v1 sd1 H l1 hp hP hS => ?_)
    obtain ⟨rfl, rfl, rfl⟩ := hp
    refine lv_if_ne (tgt := 42) K.hx K.hb d_W_repair_29 (by decide) (fun c_29 => ?_) (fun c_29 => ?_)
    · refine lv_aload_n K.hx K.hb d_W_repair_42 rfl (lv_at hl 0 rfl) ?_
      refine g_get K.1 hP (0) (by decide) rfl rfl i_W 4 (by decide) rfl (Or.inl kw_226) rfl d_W_repair_43 ?_
      refine g_get K.1 hP (19) (by decide) rfl rfl i_K 5 (by decide) rfl (Or.inr nw_168) rfl d_W_repair_46 ?_
      refine lv_iconst (v := 5) K.hx K.hb d_W_repair_49 (by decide) ?_
      refine lv_icmp_lt (tgt := 63) K.hx K.hb d_W_repair_50 (by decide) (fun c_50 => ?_) (fun c_50 => ?_)
      · have hr5 : rc < 5 := (nI_ltI (by omega) (by decide)).mp (by rw [← hrc]; exact c_50)
        refine lv_aload_n K.hx K.hb d_W_repair_63 rfl (lv_at hl 0 rfl) ?_
        refine g_get K.1 hP (0) (by decide) rfl rfl i_W 4 (by decide) rfl (Or.inl kw_226) rfl d_W_repair_64 ?_
        refine lv_iload_n K.hx K.hb d_W_repair_67 rfl (lv_at hl 1 rfl) ?_
        refine lv_iload_n K.hx K.hb d_W_repair_68 rfl (lv_at hl 2 rfl) ?_
        refine lv_iload_n K.hx K.hb d_W_repair_69 rfl (lv_at hl 3 rfl) ?_
        refine lv_iload K.hx K.hb d_W_repair_70 (lv_at hl 4 rfl) ?_
        refine cc_V K hP hS (c_K_addRepair l D cs ad _ _ hrc hr5 (nI i) y z w) kw_576 xm_K_addRepair kw_573 kw_574 kw_575 (g_recv K.1.2.1 hP (19) (by decide) rfl rfl) rfl hl.1 d_W_repair_72 (Nat.le_of_ble_eq_true rfl) (Nat.le_of_ble_eq_true rfl) ⟨(Nat.le_of_ble_eq_true rfl), (Nat.le_of_ble_eq_true rfl)⟩ (fun r v1 sd1 H l1 hp hP hS => ?_)
        obtain ⟨rfl, rfl, rfl⟩ := hp
        refine lv_aload_n K.hx K.hb d_W_repair_75 rfl (lv_at hl 0 rfl) ?_
        refine g_get K.1 hP (0) (by decide) rfl rfl i_W 5 (by decide) rfl (Or.inl kw_227) rfl d_W_repair_76 ?_
        refine cc_V K hP hS (c_L_forget l D cs ad _ _) kw_547 xm_L_forget kw_544 kw_545 kw_546 (g_recv K.1.2.1 hP (38) (by decide) rfl rfl) rfl hl.1 d_W_repair_79 (Nat.le_of_ble_eq_true rfl) (Nat.le_of_ble_eq_true rfl) ⟨(Nat.le_of_ble_eq_true rfl), (Nat.le_of_ble_eq_true rfl)⟩ (fun r v1 sd1 H l1 hp hP hS => ?_)
        obtain ⟨rfl, rfl, rfl⟩ := hp
        refine lv_aload_n K.hx K.hb d_W_repair_82 rfl (lv_at hl 0 rfl) ?_
        refine g_get K.1 hP (0) (by decide) rfl rfl i_W 4 (by decide) rfl (Or.inl kw_226) rfl d_W_repair_83 ?_
        refine g_get K.1 hP (19) (by decide) rfl rfl i_K 5 (by decide) rfl (Or.inr nw_168) rfl d_W_repair_86 ?_
        refine lv_topE (y := (v 19 5 + 1)) (by first | (simp [u2_at, kp]; done) | (simp [u2_at, kp] <;> (intros; omega)) | (simp only [u2_at, kp]; (repeat' split) <;> first | rfl | (exfalso; omega))) ?_
        refine lv_iconst (v := 1) K.hx K.hb d_W_repair_89 (by decide) ?_
        refine lv_isub K.hx K.hb d_W_repair_90 ?_
        exact ce_i K hP hS ⟨i, hi, rfl, ⟨hcs, ‹_›, ‹_›⟩, hr5, rfl, rfl, rfl⟩ (Nat.le_of_ble_eq_true rfl) (Nat.le_of_ble_eq_true rfl) d_W_repair_91
      · exact ce_t K hP hS hfl kw_391 kw_34 xa_UOE rfl (text := "there are 5 repairs") (by decide) hl.1 d_W_repair_53 d_W_repair_56 d_W_repair_57 d_W_repair_59 d_W_repair_62 (Nat.le_of_ble_eq_true rfl) (Nat.le_of_ble_eq_true rfl) (Nat.le_of_ble_eq_true rfl) (Nat.le_of_ble_eq_true rfl) (Nat.le_of_ble_eq_true rfl) (Nat.le_of_ble_eq_true rfl) (Or.inr (Or.inr ⟨⟨i, hi, rfl⟩, ⟨hcs, ‹_›, ‹_›⟩, fun h => c_50 (by rw [hrc]; exact nI_lt h (by decide)), rfl⟩))
    · exact ce_t K hP hS hfl kw_322 kw_33 xa_IAE rfl (text := "hours are 1 to 24, waiting is 0 to 1000") (by decide) hl.1 d_W_repair_32 d_W_repair_35 d_W_repair_36 d_W_repair_38 d_W_repair_41 (Nat.le_of_ble_eq_true rfl) (Nat.le_of_ble_eq_true rfl) (Nat.le_of_ble_eq_true rfl) (Nat.le_of_ble_eq_true rfl) (Nat.le_of_ble_eq_true rfl) (Nat.le_of_ble_eq_true rfl) (Or.inr (Or.inl ⟨⟨i, hi, rfl⟩, fun q => by simp_all, rfl⟩))
set_option maxHeartbeats 4000000 in
set_option maxRecDepth 100000 in
theorem c_W_rules (l : Launch) (D : va_G) (cs : Nat → ClassId) (ad : Nat → Nat) (v : Nat → Nat → Int32) (sd : Int64) (hfl : l.flags = flags0) (x y : Int32)  : Cm l y_W_rules b_W_rules 3 none (rmx 1 1) [.ref (ad 0), .int x, .int y] D cs ad v sd (fun r v' sd' => (¬ wthZ x 0 24 = 0 ∧ ¬ wthZ y 0 1000000 = 0) ∧ r = none ∧ u2 (u2 (u2 v 19 6 x) 19 7 y) 38 4 0 = v' ∧ sd = sd') (fun cls => ¬ (¬ wthZ x 0 24 = 0 ∧ ¬ wthZ y 0 1000000 = 0) ∧ cls = "java/lang/IllegalArgumentException") := by
  refine cw_enter (own := "WearHours") rfl (Nat.le_of_ble_eq_true rfl) ?_
  intro p e s m below meth c ls K hS hP hl
  have hl : lv_has ls 3 [(0, .ref (ad 0)), (1, .int x), (2, .int y)] := hl
  refine lv_iload_n K.hx K.hb d_W_rules_0 rfl (lv_at hl 1 rfl) ?_
  refine lv_iconst (v := 0) K.hx K.hb d_W_rules_1 (by decide) ?_
  refine lv_bipush (v := 24) K.hx K.hb d_W_rules_2 (by decide) ?_
  refine cc_S K hP hS (c_W_isWithin l D cs ad _ _ x 0 24) kw_321 xm_W_isWithin kw_319 kw_320 kw_22 rfl hl.1 d_W_rules_4 (Nat.le_of_ble_eq_true rfl) (Nat.le_of_ble_eq_true rfl) ⟨(Nat.le_of_ble_eq_true rfl), (Nat.le_of_ble_eq_true rfl)⟩ (fun r v1 sd1 H l1 hp hP hS => ?_)
  obtain ⟨rfl, rfl, rfl⟩ := hp
  refine lv_if_eq (tgt := 20) K.hx K.hb d_W_rules_7 (by decide) (fun c_7 => ?_) (fun c_7 => ?_)
  · exact ce_t K hP hS hfl kw_322 kw_33 xa_IAE rfl (text := "rest is 0 to 24, failing is 0 to 1000000") (by decide) hl.1 d_W_rules_20 d_W_rules_23 d_W_rules_24 d_W_rules_26 d_W_rules_29 (Nat.le_of_ble_eq_true rfl) (Nat.le_of_ble_eq_true rfl) (Nat.le_of_ble_eq_true rfl) (Nat.le_of_ble_eq_true rfl) (Nat.le_of_ble_eq_true rfl) (Nat.le_of_ble_eq_true rfl) ⟨fun q => by simp_all, rfl⟩
  · refine lv_iload_n K.hx K.hb d_W_rules_10 rfl (lv_at hl 2 rfl) ?_
    refine lv_iconst (v := 0) K.hx K.hb d_W_rules_11 (by decide) ?_
    refine lv_ldc (v := 1000000) K.hx K.hb K.1.1.2.2.2.1 (K.1.1.2.2.2.2 _ kw_318) d_W_rules_12 ?_
    refine cc_S K hP hS (c_W_isWithin l D cs ad _ _ y 0 1000000) kw_321 xm_W_isWithin kw_319 kw_320 kw_22 rfl hl.1 d_W_rules_14 (Nat.le_of_ble_eq_true rfl) (Nat.le_of_ble_eq_true rfl) ⟨(Nat.le_of_ble_eq_true rfl), (Nat.le_of_ble_eq_true rfl)⟩ (fun r v1 sd1 H l1 hp hP hS => ?_)
    obtain ⟨rfl, rfl, rfl⟩ := hp
    refine lv_if_ne (tgt := 30) K.hx K.hb d_W_rules_17 (by decide) (fun c_17 => ?_) (fun c_17 => ?_)
    · refine lv_aload_n K.hx K.hb d_W_rules_30 rfl (lv_at hl 0 rfl) ?_
      refine g_get K.1 hP (0) (by decide) rfl rfl i_W 4 (by decide) rfl (Or.inl kw_226) rfl d_W_rules_31 ?_
      refine lv_iload_n K.hx K.hb d_W_rules_34 rfl (lv_at hl 1 rfl) ?_
      refine g_puti K.1 hP hS (19) (by decide) rfl rfl i_K ft_K ft_K_ok n_K 6 (by decide) rfl (Or.inr nw_171) rfl rfl rfl (Nat.le_of_ble_eq_true rfl) rfl d_W_rules_35 (fun H l1 hP hS => ?_)
      refine lv_aload_n K.hx K.hb d_W_rules_38 rfl (lv_at hl 0 rfl) ?_
      refine g_get K.1 hP (0) (by decide) rfl rfl i_W 4 (by decide) rfl (Or.inl kw_226) rfl d_W_rules_39 ?_
      refine lv_iload_n K.hx K.hb d_W_rules_42 rfl (lv_at hl 2 rfl) ?_
      refine g_puti K.1 hP hS (19) (by decide) rfl rfl i_K ft_K ft_K_ok n_K 7 (by decide) rfl (Or.inr nw_173) rfl rfl rfl (Nat.le_of_ble_eq_true rfl) rfl d_W_rules_43 (fun H l1 hP hS => ?_)
      refine lv_aload_n K.hx K.hb d_W_rules_46 rfl (lv_at hl 0 rfl) ?_
      refine g_get K.1 hP (0) (by decide) rfl rfl i_W 5 (by decide) rfl (Or.inl kw_227) rfl d_W_rules_47 ?_
      refine cc_V K hP hS (c_L_forget l D cs ad _ _) kw_547 xm_L_forget kw_544 kw_545 kw_546 (g_recv K.1.2.1 hP (38) (by decide) rfl rfl) rfl hl.1 d_W_rules_50 (Nat.le_of_ble_eq_true rfl) (Nat.le_of_ble_eq_true rfl) ⟨(Nat.le_of_ble_eq_true rfl), (Nat.le_of_ble_eq_true rfl)⟩ (fun r v1 sd1 H l1 hp hP hS => ?_)
      obtain ⟨rfl, rfl, rfl⟩ := hp
      exact ce_v K hP hS ⟨⟨‹_›, ‹_›⟩, rfl, rfl, rfl⟩ (Nat.le_of_ble_eq_true rfl) (Nat.le_of_ble_eq_true rfl) d_W_rules_53
    · exact ce_t K hP hS hfl kw_322 kw_33 xa_IAE rfl (text := "rest is 0 to 24, failing is 0 to 1000000") (by decide) hl.1 d_W_rules_20 d_W_rules_23 d_W_rules_24 d_W_rules_26 d_W_rules_29 (Nat.le_of_ble_eq_true rfl) (Nat.le_of_ble_eq_true rfl) (Nat.le_of_ble_eq_true rfl) (Nat.le_of_ble_eq_true rfl) (Nat.le_of_ble_eq_true rfl) (Nat.le_of_ble_eq_true rfl) ⟨fun q => by simp_all, rfl⟩
set_option maxHeartbeats 4000000 in
set_option maxRecDepth 100000 in
theorem c_W_at (l : Launch) (D : va_G) (cs : Nat → ClassId) (ad : Nat → Nat) (v : Nat → Nat → Int32) (sd : Int64) (hfl : l.flags = flags0) {rc : Nat} (hrc : v 19 5 = nI rc) (hrl : rc ≤ 5) (x y : Int32)  : Cm l y_W_at b_W_at 4 (some .int) (rmx 1 3) [.ref (ad 0), .int x, .int y] D cs ad v sd (fun r v' sd' => ∃ i, i < rc ∧ x = nI i ∧ (¬ y < 0 ∧ y < 3) ∧ ¬ v 38 4 = 0 ∧ r = some (.int (if y = 0 then v (33 + i) 4 else if y = 1 then v (33 + i) 5 else v (33 + i) 6)) ∧ v = v' ∧ sd = sd') (fun cls => (¬ ((∃ i, i < rc ∧ x = nI i) ∧ (¬ y < 0 ∧ y < 3)) ∧ cls = "java/lang/IndexOutOfBoundsException") ∨ ((∃ i, i < rc ∧ x = nI i) ∧ (¬ y < 0 ∧ y < 3) ∧ v 38 4 = 0 ∧ cls = "java/lang/IllegalStateException")) := by
  refine cw_enter (own := "WearHours") rfl (Nat.le_of_ble_eq_true rfl) ?_
  intro p e s m below meth c ls K hS hP hl
  have hl : lv_has ls 4 [(0, .ref (ad 0)), (1, .int x), (2, .int y)] := hl
  refine lv_iload_n K.hx K.hb d_W_at_0 rfl (lv_at hl 1 rfl) ?_
  refine lv_if_lt (tgt := 15) K.hx K.hb d_W_at_1 (by decide) (fun c_1 => ?_) (fun c_1 => ?_)
  · exact ce_t K hP hS hfl kw_424 kw_35 xa_IOE rfl (text := "there is no such repair") (by decide) hl.1 d_W_at_15 d_W_at_18 d_W_at_19 d_W_at_21 d_W_at_24 (Nat.le_of_ble_eq_true rfl) (Nat.le_of_ble_eq_true rfl) (Nat.le_of_ble_eq_true rfl) (Nat.le_of_ble_eq_true rfl) (Nat.le_of_ble_eq_true rfl) (Nat.le_of_ble_eq_true rfl) (Or.inl ⟨fun q => (ix_no (n := rc) (by omega) (by first | exact Or.inl c_1 | exact Or.inr (by rw [← hrc]; exact c_12))) q.1, rfl⟩)
  · refine lv_iload_n K.hx K.hb d_W_at_4 rfl (lv_at hl 1 rfl) ?_
    refine lv_aload_n K.hx K.hb d_W_at_5 rfl (lv_at hl 0 rfl) ?_
    refine g_get K.1 hP (0) (by decide) rfl rfl i_W 4 (by decide) rfl (Or.inl kw_226) rfl d_W_at_6 ?_
    refine g_get K.1 hP (19) (by decide) rfl rfl i_K 5 (by decide) rfl (Or.inr nw_168) rfl d_W_at_9 ?_
    refine lv_icmp_lt (tgt := 25) K.hx K.hb d_W_at_12 (by decide) (fun c_12 => ?_) (fun c_12 => ?_)
    · obtain ⟨i, hi, rfl⟩ := ix_of (n := rc) (by omega) c_1 (by rw [← hrc]; exact c_12)
      have hi5 : i < 5 := by omega
      refine lv_iload_n K.hx K.hb d_W_at_25 rfl (lv_at hl 2 rfl) ?_
      refine cc_Sx K hP hS (c_W_checkWhat l D cs ad _ _ hfl y) (fun cls h => Or.inl ⟨fun q => by rcases h.1 with h1 | h1 <;> simp_all, h.2⟩) kw_478 xm_W_checkWhat kw_476 kw_477 kw_22 rfl hl.1 d_W_at_26 (Nat.le_of_ble_eq_true rfl) (Nat.le_of_ble_eq_true rfl) ⟨(Nat.le_of_ble_eq_true rfl), (Nat.le_of_ble_eq_true rfl)⟩ (Nat.le_of_ble_eq_true rfl) (Nat.le_of_ble_eq_true rfl) (fun r v1 sd1 H l1 hp hP hS => ?_)
      obtain ⟨hcw, rfl, rfl, rfl⟩ := hp
      refine lv_aload_n K.hx K.hb d_W_at_29 rfl (lv_at hl 0 rfl) ?_
      refine cc_Vx K hP hS (c_W_checkPlan l D cs ad _ _ hfl) (fun cls h => Or.inr ⟨⟨i, hi, rfl⟩, hcw, h⟩) kw_597 xm_W_checkPlan kw_594 kw_596 kw_12 (g_recv K.1.2.1 hP (0) (by decide) rfl rfl) rfl hl.1 d_W_at_30 (Nat.le_of_ble_eq_true rfl) (Nat.le_of_ble_eq_true rfl) ⟨(Nat.le_of_ble_eq_true rfl), (Nat.le_of_ble_eq_true rfl)⟩ (Nat.le_of_ble_eq_true rfl) (Nat.le_of_ble_eq_true rfl) (fun r v1 sd1 H l1 hp hP hS => ?_)
      obtain ⟨hcp, rfl, rfl, rfl⟩ := hp
      refine lv_aload_n K.hx K.hb d_W_at_33 rfl (lv_at hl 0 rfl) ?_
      refine g_get K.1 hP (0) (by decide) rfl rfl i_W 4 (by decide) rfl (Or.inl kw_226) rfl d_W_at_34 ?_
      refine g_get K.1 hP (19) (by decide) rfl rfl i_K 4 (by decide) rfl (Or.inr nw_165) rfl d_W_at_37 ?_
      refine lv_iload_n K.hx K.hb d_W_at_40 rfl (lv_at hl 1 rfl) ?_
      refine g_aald K.1 hP (32) (by decide) rfl 6 rfl (i) rfl (by have := hi5; omega) (by decide) rfl d_W_at_41 ?_
      refine lv_astore_n (lv' := [(3, .ref (ad (33 + i))), (0, .ref (ad 0)), (1, .int (nI i)), (2, .int y)]) K.hx K.hb d_W_at_42 rfl hl (by decide) rfl (fun ls hl => ?_)
      refine lv_iload_n K.hx K.hb d_W_at_43 rfl (lv_at hl 3 rfl) ?_
      refine lv_if_ne (tgt := 52) K.hx K.hb d_W_at_44 (by decide) (fun c_44 => ?_) (fun c_44 => ?_)
      · refine lv_iload_n K.hx K.hb d_W_at_52 rfl (lv_at hl 3 rfl) ?_
        refine lv_iconst (v := 1) K.hx K.hb d_W_at_53 (by decide) ?_
        refine lv_icmp_ne (tgt := 64) K.hx K.hb d_W_at_54 (by decide) (fun c_54 => ?_) (fun c_54 => ?_)
        · refine lv_aload_n K.hx K.hb d_W_at_64 rfl (lv_at hl 0 rfl) ?_
          refine g_get K.1 hP (33 + i) (by have := hi5; omega) (eR hi5) rfl i_R 6 (by decide) rfl (Or.inr nw_137) rfl d_W_at_65 ?_
          exact ce_i K hP hS ⟨i, hi, rfl, hcw, hcp, by simp [*], rfl, rfl⟩ (Nat.le_of_ble_eq_true rfl) (Nat.le_of_ble_eq_true rfl) d_W_at_68
        · refine lv_aload_n K.hx K.hb d_W_at_57 rfl (lv_at hl 0 rfl) ?_
          refine g_get K.1 hP (33 + i) (by have := hi5; omega) (eR hi5) rfl i_R 5 (by decide) rfl (Or.inr nw_135) rfl d_W_at_58 ?_
          refine lv_goto (tgt := 68) K.hx K.hb d_W_at_61 (by decide) ?_
          exact ce_i K hP hS ⟨i, hi, rfl, hcw, hcp, by simp [*], rfl, rfl⟩ (Nat.le_of_ble_eq_true rfl) (Nat.le_of_ble_eq_true rfl) d_W_at_68
      · refine lv_aload_n K.hx K.hb d_W_at_47 rfl (lv_at hl 0 rfl) ?_
        refine g_get K.1 hP (33 + i) (by have := hi5; omega) (eR hi5) rfl i_R 4 (by decide) rfl (Or.inr nw_133) rfl d_W_at_48 ?_
        exact ce_i K hP hS ⟨i, hi, rfl, hcw, hcp, by simp [*], rfl, rfl⟩ (Nat.le_of_ble_eq_true rfl) (Nat.le_of_ble_eq_true rfl) d_W_at_51
    · exact ce_t K hP hS hfl kw_424 kw_35 xa_IOE rfl (text := "there is no such repair") (by decide) hl.1 d_W_at_15 d_W_at_18 d_W_at_19 d_W_at_21 d_W_at_24 (Nat.le_of_ble_eq_true rfl) (Nat.le_of_ble_eq_true rfl) (Nat.le_of_ble_eq_true rfl) (Nat.le_of_ble_eq_true rfl) (Nat.le_of_ble_eq_true rfl) (Nat.le_of_ble_eq_true rfl) (Or.inl ⟨fun q => (ix_no (n := rc) (by omega) (by first | exact Or.inl c_1 | exact Or.inr (by rw [← hrc]; exact c_12))) q.1, rfl⟩)
set_option maxHeartbeats 4000000 in
set_option maxRecDepth 100000 in
theorem c_W_cost (l : Launch) (D : va_G) (cs : Nat → ClassId) (ad : Nat → Nat) (v : Nat → Nat → Int32) (sd : Int64) (hfl : l.flags = flags0)  : Cm l y_W_cost b_W_cost 1 (some .int) (rmx 1 1) [.ref (ad 0)] D cs ad v sd (fun r v' sd' => ¬ v 38 4 = 0 ∧ r = some (.int (v 38 5)) ∧ v = v' ∧ sd = sd') (fun cls => v 38 4 = 0 ∧ cls = "java/lang/IllegalStateException") := by
  refine cw_enter (own := "WearHours") rfl (Nat.le_of_ble_eq_true rfl) ?_
  intro p e s m below meth c ls K hS hP hl
  have hl : lv_has ls 1 [(0, .ref (ad 0))] := hl
  refine lv_aload_n K.hx K.hb d_W_cost_0 rfl (lv_at hl 0 rfl) ?_
  refine cc_Vx K hP hS (c_W_checkPlan l D cs ad _ _ hfl) (fun cls h => h) kw_597 xm_W_checkPlan kw_594 kw_596 kw_12 (g_recv K.1.2.1 hP (0) (by decide) rfl rfl) rfl hl.1 d_W_cost_1 (Nat.le_of_ble_eq_true rfl) (Nat.le_of_ble_eq_true rfl) ⟨(Nat.le_of_ble_eq_true rfl), (Nat.le_of_ble_eq_true rfl)⟩ (Nat.le_of_ble_eq_true rfl) (Nat.le_of_ble_eq_true rfl) (fun r v1 sd1 H l1 hp hP hS => ?_)
  obtain ⟨hcp, rfl, rfl, rfl⟩ := hp
  refine lv_aload_n K.hx K.hb d_W_cost_4 rfl (lv_at hl 0 rfl) ?_
  refine g_get K.1 hP (0) (by decide) rfl rfl i_W 5 (by decide) rfl (Or.inl kw_227) rfl d_W_cost_5 ?_
  refine g_get K.1 hP (38) (by decide) rfl rfl i_L 5 (by decide) rfl (Or.inr nw_204) rfl d_W_cost_8 ?_
  exact ce_i K hP hS ⟨hcp, rfl, rfl, rfl⟩ (Nat.le_of_ble_eq_true rfl) (Nat.le_of_ble_eq_true rfl) d_W_cost_11
set_option maxHeartbeats 4000000 in
set_option maxRecDepth 100000 in
theorem c_W_spare (l : Launch) (D : va_G) (cs : Nat → ClassId) (ad : Nat → Nat) (v : Nat → Nat → Int32) (sd : Int64) (hfl : l.flags = flags0) (x y : Int32)  : Cm l y_W_spare b_W_spare 3 (some .int) (rmx 1 1) [.ref (ad 0), .int x, .int y] D cs ad v sd (fun r v' sd' => ∃ i, i < 4 ∧ x = nI i ∧ ¬ wthZ y 0 100 = 0 ∧ v 18 i + y ≤ 1000 ∧ r = some (.int (v 18 i + y)) ∧ u2 v 18 i (v 18 i + y) = v' ∧ sd = sd') (fun cls => ((¬ ∃ i, i < 4 ∧ x = nI i) ∧ cls = "java/lang/IndexOutOfBoundsException") ∨ ((∃ i, i < 4 ∧ x = nI i) ∧ wthZ y 0 100 = 0 ∧ cls = "java/lang/IllegalArgumentException") ∨ (∃ i, i < 4 ∧ x = nI i ∧ ¬ wthZ y 0 100 = 0 ∧ ¬ v 18 i + y ≤ 1000 ∧ cls = "java/lang/UnsupportedOperationException")) := by
  refine cw_enter (own := "WearHours") rfl (Nat.le_of_ble_eq_true rfl) ?_
  intro p e s m below meth c ls K hS hP hl
  have hl : lv_has ls 3 [(0, .ref (ad 0)), (1, .int x), (2, .int y)] := hl
  refine lv_iload_n K.hx K.hb d_W_spare_0 rfl (lv_at hl 1 rfl) ?_
  refine lv_if_lt (tgt := 9) K.hx K.hb d_W_spare_1 (by decide) (fun c_1 => ?_) (fun c_1 => ?_)
  · exact ce_t K hP hS hfl kw_424 kw_35 xa_IOE rfl (text := "a kind is 0 to 3") (by decide) hl.1 d_W_spare_9 d_W_spare_12 d_W_spare_13 d_W_spare_15 d_W_spare_18 (Nat.le_of_ble_eq_true rfl) (Nat.le_of_ble_eq_true rfl) (Nat.le_of_ble_eq_true rfl) (Nat.le_of_ble_eq_true rfl) (Nat.le_of_ble_eq_true rfl) (Nat.le_of_ble_eq_true rfl) (Or.inl ⟨ix_no (n := 4) (by omega) (by first | exact Or.inl c_1 | exact Or.inr c_6), rfl⟩)
  · refine lv_iload_n K.hx K.hb d_W_spare_4 rfl (lv_at hl 1 rfl) ?_
    refine lv_iconst (v := 4) K.hx K.hb d_W_spare_5 (by decide) ?_
    refine lv_icmp_lt (tgt := 19) K.hx K.hb d_W_spare_6 (by decide) (fun c_6 => ?_) (fun c_6 => ?_)
    · obtain ⟨i, hi, rfl⟩ := ix_of (n := 4) (by omega) c_1 c_6
      refine lv_iload_n K.hx K.hb d_W_spare_19 rfl (lv_at hl 2 rfl) ?_
      refine lv_iconst (v := 0) K.hx K.hb d_W_spare_20 (by decide) ?_
      refine lv_bipush (v := 100) K.hx K.hb d_W_spare_21 (by decide) ?_
      refine cc_S K hP hS (c_W_isWithin l D cs ad _ _ y 0 100) kw_321 xm_W_isWithin kw_319 kw_320 kw_22 rfl hl.1 d_W_spare_23 (Nat.le_of_ble_eq_true rfl) (Nat.le_of_ble_eq_true rfl) ⟨(Nat.le_of_ble_eq_true rfl), (Nat.le_of_ble_eq_true rfl)⟩ (fun r v1 sd1 H l1 hp hP hS => ?_)
      obtain ⟨rfl, rfl, rfl⟩ := hp
      refine lv_if_ne (tgt := 39) K.hx K.hb d_W_spare_26 (by decide) (fun c_26 => ?_) (fun c_26 => ?_)
      · refine lv_aload_n K.hx K.hb d_W_spare_39 rfl (lv_at hl 0 rfl) ?_
        refine g_get K.1 hP (0) (by decide) rfl rfl i_W 3 (by decide) rfl (Or.inl kw_225) rfl d_W_spare_40 ?_
        refine lv_iload_n K.hx K.hb d_W_spare_43 rfl (lv_at hl 1 rfl) ?_
        refine g_iald K.1 hP (18) (by decide) rfl 0 rfl (i) rfl (by have := hi; omega) (by decide) d_W_spare_44 ?_
        refine lv_iload_n K.hx K.hb d_W_spare_45 rfl (lv_at hl 2 rfl) ?_
        refine lv_iadd K.hx K.hb d_W_spare_46 ?_
        refine lv_sipush (v := 1000) K.hx K.hb d_W_spare_47 (by decide) ?_
        refine lv_icmp_le (tgt := 63) K.hx K.hb d_W_spare_50 (by decide) (fun c_50 => ?_) (fun c_50 => ?_)
        · refine lv_aload_n K.hx K.hb d_W_spare_63 rfl (lv_at hl 0 rfl) ?_
          refine g_get K.1 hP (0) (by decide) rfl rfl i_W 3 (by decide) rfl (Or.inl kw_225) rfl d_W_spare_64 ?_
          refine lv_iload_n K.hx K.hb d_W_spare_67 rfl (lv_at hl 1 rfl) ?_
          refine lv_dup2_11 K.hx K.hb d_W_spare_68 rfl rfl ?_
          refine g_iald K.1 hP (18) (by decide) rfl 0 rfl (i) rfl (by have := hi; omega) (by decide) d_W_spare_69 ?_
          refine lv_iload_n K.hx K.hb d_W_spare_70 rfl (lv_at hl 2 rfl) ?_
          refine lv_iadd K.hx K.hb d_W_spare_71 ?_
          refine g_iast K.1 hP hS (18) (by decide) (fun _ => rfl) 0 rfl (i) rfl (by have := hi; omega) (by decide) d_W_spare_72 (fun H l1 hP hS => ?_)
          refine lv_aload_n K.hx K.hb d_W_spare_73 rfl (lv_at hl 0 rfl) ?_
          refine g_get K.1 hP (0) (by decide) rfl rfl i_W 3 (by decide) rfl (Or.inl kw_225) rfl d_W_spare_74 ?_
          refine lv_iload_n K.hx K.hb d_W_spare_77 rfl (lv_at hl 1 rfl) ?_
          refine g_iald K.1 hP (18) (by decide) rfl 0 rfl (i) rfl (by have := hi; omega) (by decide) d_W_spare_78 ?_
          refine lv_topE (y := ((v 18 i) + y)) (by first | (simp [u2_at, kp]; done) | (simp [u2_at, kp] <;> (intros; omega)) | (simp only [u2_at, kp]; (repeat' split) <;> first | rfl | (exfalso; omega))) ?_
          exact ce_i K hP hS ⟨i, hi, rfl, ‹_›, c_50, rfl, rfl, rfl⟩ (Nat.le_of_ble_eq_true rfl) (Nat.le_of_ble_eq_true rfl) d_W_spare_79
        · exact ce_t K hP hS hfl kw_391 kw_34 xa_UOE rfl (text := "a kind has at most 1000 spares") (by decide) hl.1 d_W_spare_53 d_W_spare_56 d_W_spare_57 d_W_spare_59 d_W_spare_62 (Nat.le_of_ble_eq_true rfl) (Nat.le_of_ble_eq_true rfl) (Nat.le_of_ble_eq_true rfl) (Nat.le_of_ble_eq_true rfl) (Nat.le_of_ble_eq_true rfl) (Nat.le_of_ble_eq_true rfl) (Or.inr (Or.inr ⟨i, hi, rfl, ‹_›, c_50, rfl⟩))
      · exact ce_t K hP hS hfl kw_322 kw_33 xa_IAE rfl (text := "spares are 0 to 100 at once") (by decide) hl.1 d_W_spare_29 d_W_spare_32 d_W_spare_33 d_W_spare_35 d_W_spare_38 (Nat.le_of_ble_eq_true rfl) (Nat.le_of_ble_eq_true rfl) (Nat.le_of_ble_eq_true rfl) (Nat.le_of_ble_eq_true rfl) (Nat.le_of_ble_eq_true rfl) (Nat.le_of_ble_eq_true rfl) (Or.inr (Or.inl ⟨⟨i, hi, rfl⟩, ‹_›, rfl⟩))
    · exact ce_t K hP hS hfl kw_424 kw_35 xa_IOE rfl (text := "a kind is 0 to 3") (by decide) hl.1 d_W_spare_9 d_W_spare_12 d_W_spare_13 d_W_spare_15 d_W_spare_18 (Nat.le_of_ble_eq_true rfl) (Nat.le_of_ble_eq_true rfl) (Nat.le_of_ble_eq_true rfl) (Nat.le_of_ble_eq_true rfl) (Nat.le_of_ble_eq_true rfl) (Nat.le_of_ble_eq_true rfl) (Or.inl ⟨ix_no (n := 4) (by omega) (by first | exact Or.inl c_1 | exact Or.inr c_6), rfl⟩)
end
section
/-! the planner: what its methods answer, as functions of the rows -/
def mxZ (x y : Int32) : Int32 := if x < y then y else x
def mnZ (x y : Int32) : Int32 := if y < x then y else x
/-- the thing of repair i -/
def th (v : Nat → Nat → Int32) (i : Nat) : Nat := (v (33 + i) 0).toNatClampNeg
def begH (v : Nat → Nat → Int32) (i g p : Nat) : Int32 := mxZ (mxZ (v (21 + g) 0) (v (28 + p) 1)) (mxZ (v 39 p) (v 40 (th v i)))
def begZ (v : Nat → Nat → Int32) (i g p : Nat) : Int32 := if v (28 + p) 0 = v (33 + i) 2 then (if mnZ (v (21 + g) 1) (v (28 + p) 2) < begH v i g p + v (33 + i) 1 then -1 else begH v i g p) else -1
theorem begZ_no {v : Nat → Nat → Int32} {i g p : Nat} (h : ¬ v (28 + p) 0 = v (33 + i) 2) : begZ v i g p = -1 := if_neg h
theorem begZ_lo {v : Nat → Nat → Int32} {i g p : Nat} (h : v (28 + p) 0 = v (33 + i) 2) (h2 : mnZ (v (21 + g) 1) (v (28 + p) 2) < begH v i g p + v (33 + i) 1) : begZ v i g p = -1 := by
  unfold begZ; rw [if_pos h, if_pos h2]
theorem begZ_hi {v : Nat → Nat → Int32} {i g p : Nat} (h : v (28 + p) 0 = v (33 + i) 2) (h2 : ¬ mnZ (v (21 + g) 1) (v (28 + p) 2) < begH v i g p + v (33 + i) 1) : begZ v i g p = begH v i g p := by
  unfold begZ; rw [if_pos h, if_neg h2]
/-- the counts, and the things of the repairs -/
def PI (gc pc rc : Nat) (v : Nat → Nat → Int32) : Prop := v 19 1 = nI gc ∧ gc ≤ 6 ∧ v 19 3 = nI pc ∧ pc ≤ 4 ∧ v 19 5 = nI rc ∧ rc ≤ 5 ∧ ∀ i, i < rc → ∃ t, t < 8 ∧ v (33 + i) 0 = nI t
theorem PI_th {gc pc rc : Nat} {v : Nat → Nat → Int32} (h : PI gc pc rc v) {i : Nat} (hi : i < rc) : v (33 + i) 0 = nI (th v i) ∧ th v i < 8 := by
  obtain ⟨t, ht, e⟩ := h.2.2.2.2.2.2 i hi
  have e2 : th v i = t := by unfold th; rw [e, nI_clamp (by omega)]
  rw [e2]
  exact ⟨e, ht⟩
def occ (v : Nat → Nat → Int32) (i p : Nat) (h : Int32) : Nat → Nat → Int32 := u2 (u2 v 40 (th v i) (h + v (33 + i) 1)) 39 p (h + v (33 + i) 1 + v 19 6)
/-- the first beginning over the first n gaps -/
def fbS (f h : Int32) : Int32 := if h = -1 then f else if f = -1 then h else if f ≤ h then f else h
def fbL (v : Nat → Nat → Int32) (i p : Nat) : Nat → Int32
  | 0 => -1
  | g + 1 => fbS (fbL v i p g) (begZ v i g p)
def fbZ (v : Nat → Nat → Int32) (i p gc : Nat) : Int32 := if v (28 + p) 0 = v (33 + i) 2 then fbL v i p gc else -1
def cuZ (v : Nat → Nat → Int32) (i : Nat) : Int32 := v (33 + i) 3 * 168 + v 19 7
def flS (v : Nat → Nat → Int32) (i gc : Nat) (l : Int32) (p : Nat) : Int32 := if fbZ v i p gc = -1 then l else mnZ l (v (33 + i) 3 * fbZ v i p gc)
def flL (v : Nat → Nat → Int32) (i gc : Nat) : Nat → Int32
  | 0 => cuZ v i
  | p + 1 => flS v i gc (flL v i gc p) p
/-- costs: rec is the least cost of the later repairs -/
def cbG (rec : (Nat → Nat → Int32) → Nat → Int32 → Int32) (v : Nat → Nat → Int32) (n p : Nat) (h lim : Int32) : Int32 :=
  if v (33 + n) 3 * h + v 41 (n + 1) < lim then v (33 + n) 3 * h + rec (occ v n p h) (n + 1) (lim - v (33 + n) 3 * h) else lim
def ppL (rec : (Nat → Nat → Int32) → Nat → Int32 → Int32) (gc : Nat) (v : Nat → Nat → Int32) (n : Nat) (lim : Int32) : Nat → Int32
  | 0 => lim
  | p + 1 => if fbZ v n p gc = -1 then ppL rec gc v n lim p else cbG rec v n p (fbZ v n p gc) (ppL rec gc v n lim p)
def lcS (rec : (Nat → Nat → Int32) → Nat → Int32 → Int32) (gc pc : Nat) (v : Nat → Nat → Int32) (n : Nat) (lim : Int32) : Int32 :=
  if cuZ v n + v 41 (n + 1) < ppL rec gc v n lim pc then cuZ v n + rec v (n + 1) (ppL rec gc v n lim pc - cuZ v n) else ppL rec gc v n lim pc
def lcF (gc pc rc : Nat) : Nat → (Nat → Nat → Int32) → Nat → Int32 → Int32
  | 0 => fun _ _ _ => 0
  | f + 1 => fun v n lim => if n < rc then lcS (lcF gc pc rc f) gc pc v n lim else 0
def fre (v : Nat → Nat → Int32) : Nat → Nat → Int32 := u2 (u2 (u2 (u2 (u2 (u2 (u2 (u2 (u2 (u2 (u2 (u2 v 39 0 0) 39 1 0) 39 2 0) 39 3 0) 40 0 0) 40 1 0) 40 2 0) 40 3 0) 40 4 0) 40 5 0) 40 6 0) 40 7 0
set_option maxHeartbeats 4000000 in
set_option maxRecDepth 100000 in
theorem c_L_freeAll (l : Launch) (D : va_G) (cs : Nat → ClassId) (ad : Nat → Nat) (v : Nat → Nat → Int32) (sd : Int64)   : Cm l y_L_freeAll b_L_freeAll 2 none (rmx 0 0) [.ref (ad 38)] D cs ad v sd (fun r v' sd' => r = none ∧ fre v = v' ∧ sd = sd') (fun cls => False) := by
  refine cw_enter (own := "WearHours$Planner") rfl (Nat.le_of_ble_eq_true rfl) ?_
  intro p e s m below meth c ls K hS hP hl
  have hl : lv_has ls 2 [(0, .ref (ad 38))] := hl
  refine lv_iconst (v := 0) K.hx K.hb d_L_freeAll_0 (by decide) ?_
  refine lv_istore_n (lv' := [(1, .int 0), (0, .ref (ad 38))]) K.hx K.hb d_L_freeAll_1 rfl hl (by decide) rfl (fun ls hl => ?_)
  refine lv_iload_n K.hx K.hb d_L_freeAll_2 rfl (lv_at hl 0 rfl) ?_
  refine lv_aload_n K.hx K.hb d_L_freeAll_3 rfl (lv_at hl 1 rfl) ?_
  refine g_get K.1 hP (38) (by decide) rfl rfl i_L 1 (by decide) rfl (Or.inl kw_198) rfl d_L_freeAll_4 ?_
  refine g_alen K.1 hP (39) (by decide) rfl 0 rfl (i := 4) rfl d_L_freeAll_7 ?_
  refine lv_icmp_ge (tgt := 24) K.hx K.hb d_L_freeAll_8 (by decide) (fun c_8 => (show False from by revert c_8; decide).elim) (fun _ => ?_)
  refine lv_aload_n K.hx K.hb d_L_freeAll_11 rfl (lv_at hl 1 rfl) ?_
  refine g_get K.1 hP (38) (by decide) rfl rfl i_L 1 (by decide) rfl (Or.inl kw_198) rfl d_L_freeAll_12 ?_
  refine lv_iload_n K.hx K.hb d_L_freeAll_15 rfl (lv_at hl 0 rfl) ?_
  refine lv_iconst (v := 0) K.hx K.hb d_L_freeAll_16 (by decide) ?_
  refine g_iast K.1 hP hS (39) (by decide) (fun _ => rfl) 0 rfl (0) rfl (by decide) (by decide) d_L_freeAll_17 (fun H l1 hP hS => ?_)
  refine lv_iinc (v := 1) (lv' := [(1, .int 1), (0, .ref (ad 38))]) K.hx K.hb d_L_freeAll_18 hl (k := 0) rfl (by decide) (by decide) rfl (fun ls hl => ?_)
  refine lv_goto (tgt := 2) K.hx K.hb d_L_freeAll_21 (by decide) ?_
  refine lv_iload_n K.hx K.hb d_L_freeAll_2 rfl (lv_at hl 0 rfl) ?_
  refine lv_aload_n K.hx K.hb d_L_freeAll_3 rfl (lv_at hl 1 rfl) ?_
  refine g_get K.1 hP (38) (by decide) rfl rfl i_L 1 (by decide) rfl (Or.inl kw_198) rfl d_L_freeAll_4 ?_
  refine g_alen K.1 hP (39) (by decide) rfl 0 rfl (i := 4) rfl d_L_freeAll_7 ?_
  refine lv_icmp_ge (tgt := 24) K.hx K.hb d_L_freeAll_8 (by decide) (fun c_8_1 => (show False from by revert c_8_1; decide).elim) (fun _ => ?_)
  refine lv_aload_n K.hx K.hb d_L_freeAll_11 rfl (lv_at hl 1 rfl) ?_
  refine g_get K.1 hP (38) (by decide) rfl rfl i_L 1 (by decide) rfl (Or.inl kw_198) rfl d_L_freeAll_12 ?_
  refine lv_iload_n K.hx K.hb d_L_freeAll_15 rfl (lv_at hl 0 rfl) ?_
  refine lv_iconst (v := 0) K.hx K.hb d_L_freeAll_16 (by decide) ?_
  refine g_iast K.1 hP hS (39) (by decide) (fun _ => rfl) 0 rfl (1) rfl (by decide) (by decide) d_L_freeAll_17 (fun H l1 hP hS => ?_)
  refine lv_iinc (v := 2) (lv' := [(1, .int 2), (0, .ref (ad 38))]) K.hx K.hb d_L_freeAll_18 hl (k := 0) rfl (by decide) (by decide) rfl (fun ls hl => ?_)
  refine lv_goto (tgt := 2) K.hx K.hb d_L_freeAll_21 (by decide) ?_
  refine lv_iload_n K.hx K.hb d_L_freeAll_2 rfl (lv_at hl 0 rfl) ?_
  refine lv_aload_n K.hx K.hb d_L_freeAll_3 rfl (lv_at hl 1 rfl) ?_
  refine g_get K.1 hP (38) (by decide) rfl rfl i_L 1 (by decide) rfl (Or.inl kw_198) rfl d_L_freeAll_4 ?_
  refine g_alen K.1 hP (39) (by decide) rfl 0 rfl (i := 4) rfl d_L_freeAll_7 ?_
  refine lv_icmp_ge (tgt := 24) K.hx K.hb d_L_freeAll_8 (by decide) (fun c_8_2 => (show False from by revert c_8_2; decide).elim) (fun _ => ?_)
  refine lv_aload_n K.hx K.hb d_L_freeAll_11 rfl (lv_at hl 1 rfl) ?_
  refine g_get K.1 hP (38) (by decide) rfl rfl i_L 1 (by decide) rfl (Or.inl kw_198) rfl d_L_freeAll_12 ?_
  refine lv_iload_n K.hx K.hb d_L_freeAll_15 rfl (lv_at hl 0 rfl) ?_
  refine lv_iconst (v := 0) K.hx K.hb d_L_freeAll_16 (by decide) ?_
  refine g_iast K.1 hP hS (39) (by decide) (fun _ => rfl) 0 rfl (2) rfl (by decide) (by decide) d_L_freeAll_17 (fun H l1 hP hS => ?_)
  refine lv_iinc (v := 3) (lv' := [(1, .int 3), (0, .ref (ad 38))]) K.hx K.hb d_L_freeAll_18 hl (k := 0) rfl (by decide) (by decide) rfl (fun ls hl => ?_)
  refine lv_goto (tgt := 2) K.hx K.hb d_L_freeAll_21 (by decide) ?_
  refine lv_iload_n K.hx K.hb d_L_freeAll_2 rfl (lv_at hl 0 rfl) ?_
  refine lv_aload_n K.hx K.hb d_L_freeAll_3 rfl (lv_at hl 1 rfl) ?_
  refine g_get K.1 hP (38) (by decide) rfl rfl i_L 1 (by decide) rfl (Or.inl kw_198) rfl d_L_freeAll_4 ?_
  refine g_alen K.1 hP (39) (by decide) rfl 0 rfl (i := 4) rfl d_L_freeAll_7 ?_
  refine lv_icmp_ge (tgt := 24) K.hx K.hb d_L_freeAll_8 (by decide) (fun c_8_3 => (show False from by revert c_8_3; decide).elim) (fun _ => ?_)
  refine lv_aload_n K.hx K.hb d_L_freeAll_11 rfl (lv_at hl 1 rfl) ?_
  refine g_get K.1 hP (38) (by decide) rfl rfl i_L 1 (by decide) rfl (Or.inl kw_198) rfl d_L_freeAll_12 ?_
  refine lv_iload_n K.hx K.hb d_L_freeAll_15 rfl (lv_at hl 0 rfl) ?_
  refine lv_iconst (v := 0) K.hx K.hb d_L_freeAll_16 (by decide) ?_
  refine g_iast K.1 hP hS (39) (by decide) (fun _ => rfl) 0 rfl (3) rfl (by decide) (by decide) d_L_freeAll_17 (fun H l1 hP hS => ?_)
  refine lv_iinc (v := 4) (lv' := [(1, .int 4), (0, .ref (ad 38))]) K.hx K.hb d_L_freeAll_18 hl (k := 0) rfl (by decide) (by decide) rfl (fun ls hl => ?_)
  refine lv_goto (tgt := 2) K.hx K.hb d_L_freeAll_21 (by decide) ?_
  refine lv_iload_n K.hx K.hb d_L_freeAll_2 rfl (lv_at hl 0 rfl) ?_
  refine lv_aload_n K.hx K.hb d_L_freeAll_3 rfl (lv_at hl 1 rfl) ?_
  refine g_get K.1 hP (38) (by decide) rfl rfl i_L 1 (by decide) rfl (Or.inl kw_198) rfl d_L_freeAll_4 ?_
  refine g_alen K.1 hP (39) (by decide) rfl 0 rfl (i := 4) rfl d_L_freeAll_7 ?_
  refine lv_icmp_ge (tgt := 24) K.hx K.hb d_L_freeAll_8 (by decide) (fun _ => ?_) (fun c_8_4 => (show False from by revert c_8_4; decide).elim)
  refine lv_iconst (v := 0) K.hx K.hb d_L_freeAll_24 (by decide) ?_
  refine lv_istore_n (lv' := [(1, .int 0), (0, .ref (ad 38))]) K.hx K.hb d_L_freeAll_25 rfl hl (by decide) rfl (fun ls hl => ?_)
  refine lv_iload_n K.hx K.hb d_L_freeAll_26 rfl (lv_at hl 0 rfl) ?_
  refine lv_aload_n K.hx K.hb d_L_freeAll_27 rfl (lv_at hl 1 rfl) ?_
  refine g_get K.1 hP (38) (by decide) rfl rfl i_L 2 (by decide) rfl (Or.inl kw_199) rfl d_L_freeAll_28 ?_
  refine g_alen K.1 hP (40) (by decide) rfl 0 rfl (i := 8) rfl d_L_freeAll_31 ?_
  refine lv_icmp_ge (tgt := 48) K.hx K.hb d_L_freeAll_32 (by decide) (fun c_32 => (show False from by revert c_32; decide).elim) (fun _ => ?_)
  refine lv_aload_n K.hx K.hb d_L_freeAll_35 rfl (lv_at hl 1 rfl) ?_
  refine g_get K.1 hP (38) (by decide) rfl rfl i_L 2 (by decide) rfl (Or.inl kw_199) rfl d_L_freeAll_36 ?_
  refine lv_iload_n K.hx K.hb d_L_freeAll_39 rfl (lv_at hl 0 rfl) ?_
  refine lv_iconst (v := 0) K.hx K.hb d_L_freeAll_40 (by decide) ?_
  refine g_iast K.1 hP hS (40) (by decide) (fun _ => rfl) 0 rfl (0) rfl (by decide) (by decide) d_L_freeAll_41 (fun H l1 hP hS => ?_)
  refine lv_iinc (v := 1) (lv' := [(1, .int 1), (0, .ref (ad 38))]) K.hx K.hb d_L_freeAll_42 hl (k := 0) rfl (by decide) (by decide) rfl (fun ls hl => ?_)
  refine lv_goto (tgt := 26) K.hx K.hb d_L_freeAll_45 (by decide) ?_
  refine lv_iload_n K.hx K.hb d_L_freeAll_26 rfl (lv_at hl 0 rfl) ?_
  refine lv_aload_n K.hx K.hb d_L_freeAll_27 rfl (lv_at hl 1 rfl) ?_
  refine g_get K.1 hP (38) (by decide) rfl rfl i_L 2 (by decide) rfl (Or.inl kw_199) rfl d_L_freeAll_28 ?_
  refine g_alen K.1 hP (40) (by decide) rfl 0 rfl (i := 8) rfl d_L_freeAll_31 ?_
  refine lv_icmp_ge (tgt := 48) K.hx K.hb d_L_freeAll_32 (by decide) (fun c_32_5 => (show False from by revert c_32_5; decide).elim) (fun _ => ?_)
  refine lv_aload_n K.hx K.hb d_L_freeAll_35 rfl (lv_at hl 1 rfl) ?_
  refine g_get K.1 hP (38) (by decide) rfl rfl i_L 2 (by decide) rfl (Or.inl kw_199) rfl d_L_freeAll_36 ?_
  refine lv_iload_n K.hx K.hb d_L_freeAll_39 rfl (lv_at hl 0 rfl) ?_
  refine lv_iconst (v := 0) K.hx K.hb d_L_freeAll_40 (by decide) ?_
  refine g_iast K.1 hP hS (40) (by decide) (fun _ => rfl) 0 rfl (1) rfl (by decide) (by decide) d_L_freeAll_41 (fun H l1 hP hS => ?_)
  refine lv_iinc (v := 2) (lv' := [(1, .int 2), (0, .ref (ad 38))]) K.hx K.hb d_L_freeAll_42 hl (k := 0) rfl (by decide) (by decide) rfl (fun ls hl => ?_)
  refine lv_goto (tgt := 26) K.hx K.hb d_L_freeAll_45 (by decide) ?_
  refine lv_iload_n K.hx K.hb d_L_freeAll_26 rfl (lv_at hl 0 rfl) ?_
  refine lv_aload_n K.hx K.hb d_L_freeAll_27 rfl (lv_at hl 1 rfl) ?_
  refine g_get K.1 hP (38) (by decide) rfl rfl i_L 2 (by decide) rfl (Or.inl kw_199) rfl d_L_freeAll_28 ?_
  refine g_alen K.1 hP (40) (by decide) rfl 0 rfl (i := 8) rfl d_L_freeAll_31 ?_
  refine lv_icmp_ge (tgt := 48) K.hx K.hb d_L_freeAll_32 (by decide) (fun c_32_6 => (show False from by revert c_32_6; decide).elim) (fun _ => ?_)
  refine lv_aload_n K.hx K.hb d_L_freeAll_35 rfl (lv_at hl 1 rfl) ?_
  refine g_get K.1 hP (38) (by decide) rfl rfl i_L 2 (by decide) rfl (Or.inl kw_199) rfl d_L_freeAll_36 ?_
  refine lv_iload_n K.hx K.hb d_L_freeAll_39 rfl (lv_at hl 0 rfl) ?_
  refine lv_iconst (v := 0) K.hx K.hb d_L_freeAll_40 (by decide) ?_
  refine g_iast K.1 hP hS (40) (by decide) (fun _ => rfl) 0 rfl (2) rfl (by decide) (by decide) d_L_freeAll_41 (fun H l1 hP hS => ?_)
  refine lv_iinc (v := 3) (lv' := [(1, .int 3), (0, .ref (ad 38))]) K.hx K.hb d_L_freeAll_42 hl (k := 0) rfl (by decide) (by decide) rfl (fun ls hl => ?_)
  refine lv_goto (tgt := 26) K.hx K.hb d_L_freeAll_45 (by decide) ?_
  refine lv_iload_n K.hx K.hb d_L_freeAll_26 rfl (lv_at hl 0 rfl) ?_
  refine lv_aload_n K.hx K.hb d_L_freeAll_27 rfl (lv_at hl 1 rfl) ?_
  refine g_get K.1 hP (38) (by decide) rfl rfl i_L 2 (by decide) rfl (Or.inl kw_199) rfl d_L_freeAll_28 ?_
  refine g_alen K.1 hP (40) (by decide) rfl 0 rfl (i := 8) rfl d_L_freeAll_31 ?_
  refine lv_icmp_ge (tgt := 48) K.hx K.hb d_L_freeAll_32 (by decide) (fun c_32_7 => (show False from by revert c_32_7; decide).elim) (fun _ => ?_)
  refine lv_aload_n K.hx K.hb d_L_freeAll_35 rfl (lv_at hl 1 rfl) ?_
  refine g_get K.1 hP (38) (by decide) rfl rfl i_L 2 (by decide) rfl (Or.inl kw_199) rfl d_L_freeAll_36 ?_
  refine lv_iload_n K.hx K.hb d_L_freeAll_39 rfl (lv_at hl 0 rfl) ?_
  refine lv_iconst (v := 0) K.hx K.hb d_L_freeAll_40 (by decide) ?_
  refine g_iast K.1 hP hS (40) (by decide) (fun _ => rfl) 0 rfl (3) rfl (by decide) (by decide) d_L_freeAll_41 (fun H l1 hP hS => ?_)
  refine lv_iinc (v := 4) (lv' := [(1, .int 4), (0, .ref (ad 38))]) K.hx K.hb d_L_freeAll_42 hl (k := 0) rfl (by decide) (by decide) rfl (fun ls hl => ?_)
  refine lv_goto (tgt := 26) K.hx K.hb d_L_freeAll_45 (by decide) ?_
  refine lv_iload_n K.hx K.hb d_L_freeAll_26 rfl (lv_at hl 0 rfl) ?_
  refine lv_aload_n K.hx K.hb d_L_freeAll_27 rfl (lv_at hl 1 rfl) ?_
  refine g_get K.1 hP (38) (by decide) rfl rfl i_L 2 (by decide) rfl (Or.inl kw_199) rfl d_L_freeAll_28 ?_
  refine g_alen K.1 hP (40) (by decide) rfl 0 rfl (i := 8) rfl d_L_freeAll_31 ?_
  refine lv_icmp_ge (tgt := 48) K.hx K.hb d_L_freeAll_32 (by decide) (fun c_32_8 => (show False from by revert c_32_8; decide).elim) (fun _ => ?_)
  refine lv_aload_n K.hx K.hb d_L_freeAll_35 rfl (lv_at hl 1 rfl) ?_
  refine g_get K.1 hP (38) (by decide) rfl rfl i_L 2 (by decide) rfl (Or.inl kw_199) rfl d_L_freeAll_36 ?_
  refine lv_iload_n K.hx K.hb d_L_freeAll_39 rfl (lv_at hl 0 rfl) ?_
  refine lv_iconst (v := 0) K.hx K.hb d_L_freeAll_40 (by decide) ?_
  refine g_iast K.1 hP hS (40) (by decide) (fun _ => rfl) 0 rfl (4) rfl (by decide) (by decide) d_L_freeAll_41 (fun H l1 hP hS => ?_)
  refine lv_iinc (v := 5) (lv' := [(1, .int 5), (0, .ref (ad 38))]) K.hx K.hb d_L_freeAll_42 hl (k := 0) rfl (by decide) (by decide) rfl (fun ls hl => ?_)
  refine lv_goto (tgt := 26) K.hx K.hb d_L_freeAll_45 (by decide) ?_
  refine lv_iload_n K.hx K.hb d_L_freeAll_26 rfl (lv_at hl 0 rfl) ?_
  refine lv_aload_n K.hx K.hb d_L_freeAll_27 rfl (lv_at hl 1 rfl) ?_
  refine g_get K.1 hP (38) (by decide) rfl rfl i_L 2 (by decide) rfl (Or.inl kw_199) rfl d_L_freeAll_28 ?_
  refine g_alen K.1 hP (40) (by decide) rfl 0 rfl (i := 8) rfl d_L_freeAll_31 ?_
  refine lv_icmp_ge (tgt := 48) K.hx K.hb d_L_freeAll_32 (by decide) (fun c_32_9 => (show False from by revert c_32_9; decide).elim) (fun _ => ?_)
  refine lv_aload_n K.hx K.hb d_L_freeAll_35 rfl (lv_at hl 1 rfl) ?_
  refine g_get K.1 hP (38) (by decide) rfl rfl i_L 2 (by decide) rfl (Or.inl kw_199) rfl d_L_freeAll_36 ?_
  refine lv_iload_n K.hx K.hb d_L_freeAll_39 rfl (lv_at hl 0 rfl) ?_
  refine lv_iconst (v := 0) K.hx K.hb d_L_freeAll_40 (by decide) ?_
  refine g_iast K.1 hP hS (40) (by decide) (fun _ => rfl) 0 rfl (5) rfl (by decide) (by decide) d_L_freeAll_41 (fun H l1 hP hS => ?_)
  refine lv_iinc (v := 6) (lv' := [(1, .int 6), (0, .ref (ad 38))]) K.hx K.hb d_L_freeAll_42 hl (k := 0) rfl (by decide) (by decide) rfl (fun ls hl => ?_)
  refine lv_goto (tgt := 26) K.hx K.hb d_L_freeAll_45 (by decide) ?_
  refine lv_iload_n K.hx K.hb d_L_freeAll_26 rfl (lv_at hl 0 rfl) ?_
  refine lv_aload_n K.hx K.hb d_L_freeAll_27 rfl (lv_at hl 1 rfl) ?_
  refine g_get K.1 hP (38) (by decide) rfl rfl i_L 2 (by decide) rfl (Or.inl kw_199) rfl d_L_freeAll_28 ?_
  refine g_alen K.1 hP (40) (by decide) rfl 0 rfl (i := 8) rfl d_L_freeAll_31 ?_
  refine lv_icmp_ge (tgt := 48) K.hx K.hb d_L_freeAll_32 (by decide) (fun c_32_10 => (show False from by revert c_32_10; decide).elim) (fun _ => ?_)
  refine lv_aload_n K.hx K.hb d_L_freeAll_35 rfl (lv_at hl 1 rfl) ?_
  refine g_get K.1 hP (38) (by decide) rfl rfl i_L 2 (by decide) rfl (Or.inl kw_199) rfl d_L_freeAll_36 ?_
  refine lv_iload_n K.hx K.hb d_L_freeAll_39 rfl (lv_at hl 0 rfl) ?_
  refine lv_iconst (v := 0) K.hx K.hb d_L_freeAll_40 (by decide) ?_
  refine g_iast K.1 hP hS (40) (by decide) (fun _ => rfl) 0 rfl (6) rfl (by decide) (by decide) d_L_freeAll_41 (fun H l1 hP hS => ?_)
  refine lv_iinc (v := 7) (lv' := [(1, .int 7), (0, .ref (ad 38))]) K.hx K.hb d_L_freeAll_42 hl (k := 0) rfl (by decide) (by decide) rfl (fun ls hl => ?_)
  refine lv_goto (tgt := 26) K.hx K.hb d_L_freeAll_45 (by decide) ?_
  refine lv_iload_n K.hx K.hb d_L_freeAll_26 rfl (lv_at hl 0 rfl) ?_
  refine lv_aload_n K.hx K.hb d_L_freeAll_27 rfl (lv_at hl 1 rfl) ?_
  refine g_get K.1 hP (38) (by decide) rfl rfl i_L 2 (by decide) rfl (Or.inl kw_199) rfl d_L_freeAll_28 ?_
  refine g_alen K.1 hP (40) (by decide) rfl 0 rfl (i := 8) rfl d_L_freeAll_31 ?_
  refine lv_icmp_ge (tgt := 48) K.hx K.hb d_L_freeAll_32 (by decide) (fun c_32_11 => (show False from by revert c_32_11; decide).elim) (fun _ => ?_)
  refine lv_aload_n K.hx K.hb d_L_freeAll_35 rfl (lv_at hl 1 rfl) ?_
  refine g_get K.1 hP (38) (by decide) rfl rfl i_L 2 (by decide) rfl (Or.inl kw_199) rfl d_L_freeAll_36 ?_
  refine lv_iload_n K.hx K.hb d_L_freeAll_39 rfl (lv_at hl 0 rfl) ?_
  refine lv_iconst (v := 0) K.hx K.hb d_L_freeAll_40 (by decide) ?_
  refine g_iast K.1 hP hS (40) (by decide) (fun _ => rfl) 0 rfl (7) rfl (by decide) (by decide) d_L_freeAll_41 (fun H l1 hP hS => ?_)
  refine lv_iinc (v := 8) (lv' := [(1, .int 8), (0, .ref (ad 38))]) K.hx K.hb d_L_freeAll_42 hl (k := 0) rfl (by decide) (by decide) rfl (fun ls hl => ?_)
  refine lv_goto (tgt := 26) K.hx K.hb d_L_freeAll_45 (by decide) ?_
  refine lv_iload_n K.hx K.hb d_L_freeAll_26 rfl (lv_at hl 0 rfl) ?_
  refine lv_aload_n K.hx K.hb d_L_freeAll_27 rfl (lv_at hl 1 rfl) ?_
  refine g_get K.1 hP (38) (by decide) rfl rfl i_L 2 (by decide) rfl (Or.inl kw_199) rfl d_L_freeAll_28 ?_
  refine g_alen K.1 hP (40) (by decide) rfl 0 rfl (i := 8) rfl d_L_freeAll_31 ?_
  refine lv_icmp_ge (tgt := 48) K.hx K.hb d_L_freeAll_32 (by decide) (fun _ => ?_) (fun c_32_12 => (show False from by revert c_32_12; decide).elim)
  exact ce_v K hP hS ⟨rfl, rfl, rfl⟩ (Nat.le_of_ble_eq_true rfl) (Nat.le_of_ble_eq_true rfl) d_L_freeAll_48
set_option maxHeartbeats 4000000 in
set_option maxRecDepth 100000 in
theorem c_L_occupy (l : Launch) (D : va_G) (cs : Nat → ClassId) (ad : Nat → Nat) (v : Nat → Nat → Int32) (sd : Int64) {gc pc rc : Nat} (hPI : PI gc pc rc v) {i : Nat} (hi : i < rc) {q : Nat} (hq : q < 4) (h : Int32)  : Cm l y_L_occupy b_L_occupy 5 none (rmx 0 0) [.ref (ad 38), .ref (ad (33 + i)), .int (nI q), .int h] D cs ad v sd (fun r v' sd' => r = none ∧ occ v i q h = v' ∧ sd = sd') (fun cls => False) := by
  refine cw_enter (own := "WearHours$Planner") rfl (Nat.le_of_ble_eq_true rfl) ?_
  intro p e s m below meth c ls K hS hP hl
  have hl : lv_has ls 5 [(0, .ref (ad 38)), (1, .ref (ad (33 + i))), (2, .int (nI q)), (3, .int h)] := hl
  obtain ⟨hth, hth8⟩ := PI_th hPI hi
  have hg6 := hPI.2.1
  have hp4 := hPI.2.2.2.1
  have hr5 := hPI.2.2.2.2.2.1
  have hi5 : i < 5 := by omega
  refine lv_iload_n K.hx K.hb d_L_occupy_0 rfl (lv_at hl 3 rfl) ?_
  refine lv_aload_n K.hx K.hb d_L_occupy_1 rfl (lv_at hl 1 rfl) ?_
  refine g_get K.1 hP (33 + i) (by have := hi5; omega) (eR hi5) rfl i_R 1 (by decide) rfl (Or.inr nw_126) rfl d_L_occupy_2 ?_
  refine lv_iadd K.hx K.hb d_L_occupy_5 ?_
  refine lv_istore (lv' := [(4, .int (h + (v (33 + i) 1))), (0, .ref (ad 38)), (1, .ref (ad (33 + i))), (2, .int (nI q)), (3, .int h)]) K.hx K.hb d_L_occupy_6 hl (by decide) rfl (fun ls hl => ?_)
  refine lv_aload_n K.hx K.hb d_L_occupy_8 rfl (lv_at hl 1 rfl) ?_
  refine g_get K.1 hP (38) (by decide) rfl rfl i_L 2 (by decide) rfl (Or.inl kw_199) rfl d_L_occupy_9 ?_
  refine lv_aload_n K.hx K.hb d_L_occupy_12 rfl (lv_at hl 2 rfl) ?_
  refine g_get K.1 hP (33 + i) (by have := hi5; omega) (eR hi5) rfl i_R 0 (by decide) rfl (Or.inr nw_123) rfl d_L_occupy_13 ?_
  refine lv_iload K.hx K.hb d_L_occupy_16 (lv_at hl 0 rfl) ?_
  refine g_iast K.1 hP hS (40) (by decide) (fun _ => rfl) 0 rfl (th v i) hth (by have := hth8; omega) (by decide) d_L_occupy_18 (fun H l1 hP hS => ?_)
  refine lv_aload_n K.hx K.hb d_L_occupy_19 rfl (lv_at hl 1 rfl) ?_
  refine g_get K.1 hP (38) (by decide) rfl rfl i_L 1 (by decide) rfl (Or.inl kw_198) rfl d_L_occupy_20 ?_
  refine lv_iload_n K.hx K.hb d_L_occupy_23 rfl (lv_at hl 3 rfl) ?_
  refine lv_iload K.hx K.hb d_L_occupy_24 (lv_at hl 0 rfl) ?_
  refine lv_aload_n K.hx K.hb d_L_occupy_26 rfl (lv_at hl 1 rfl) ?_
  refine g_get K.1 hP (38) (by decide) rfl rfl i_L 0 (by decide) rfl (Or.inl kw_197) rfl d_L_occupy_27 ?_
  refine g_get K.1 hP (19) (by decide) rfl rfl i_K 6 (by decide) rfl (Or.inr nw_170) rfl d_L_occupy_30 ?_
  refine lv_topE (y := (v 19 6)) (by first | (simp [u2_at, kp]; done) | (simp [u2_at, kp] <;> (intros; omega)) | (simp only [u2_at, kp]; (repeat' split) <;> first | rfl | (exfalso; omega))) ?_
  refine lv_iadd K.hx K.hb d_L_occupy_33 ?_
  refine g_iast K.1 hP hS (39) (by decide) (fun _ => rfl) 0 rfl (q) rfl (by have := hq; omega) (by decide) d_L_occupy_34 (fun H l1 hP hS => ?_)
  exact ce_v K hP hS ⟨rfl, rfl, rfl⟩ (Nat.le_of_ble_eq_true rfl) (Nat.le_of_ble_eq_true rfl) d_L_occupy_35
set_option maxHeartbeats 4000000 in
set_option maxRecDepth 100000 in
theorem c_L_beginning (l : Launch) (D : va_G) (cs : Nat → ClassId) (ad : Nat → Nat) (v : Nat → Nat → Int32) (sd : Int64) {gc pc rc : Nat} (hPI : PI gc pc rc v) {i : Nat} (hi : i < rc) {g : Nat} (hg : g < 6) {q : Nat} (hq : q < 4)  : Cm l y_L_beginning b_L_beginning 9 (some .int) (rmx 0 0) [.ref (ad 38), .ref (ad (33 + i)), .int (nI g), .int (nI q)] D cs ad v sd (fun r v' sd' => r = some (.int (begZ v i g q)) ∧ v = v' ∧ sd = sd') (fun cls => False) := by
  refine cw_enter (own := "WearHours$Planner") rfl (Nat.le_of_ble_eq_true rfl) ?_
  intro p e s m below meth c ls K hS hP hl
  have hl : lv_has ls 9 [(0, .ref (ad 38)), (1, .ref (ad (33 + i))), (2, .int (nI g)), (3, .int (nI q))] := hl
  obtain ⟨hth, hth8⟩ := PI_th hPI hi
  have hg6 := hPI.2.1
  have hp4 := hPI.2.2.2.1
  have hr5 := hPI.2.2.2.2.2.1
  have hi5 : i < 5 := by omega
  refine lv_aload_n K.hx K.hb d_L_beginning_0 rfl (lv_at hl 0 rfl) ?_
  refine g_get K.1 hP (38) (by decide) rfl rfl i_L 0 (by decide) rfl (Or.inl kw_197) rfl d_L_beginning_1 ?_
  refine g_get K.1 hP (19) (by decide) rfl rfl i_K 0 (by decide) rfl (Or.inr nw_154) rfl d_L_beginning_4 ?_
  refine lv_iload_n K.hx K.hb d_L_beginning_7 rfl (lv_at hl 2 rfl) ?_
  refine g_aald K.1 hP (20) (by decide) rfl 4 rfl (g) rfl (by have := hg; omega) (by decide) rfl d_L_beginning_8 ?_
  refine lv_astore (lv' := [(4, .ref (ad (21 + g))), (0, .ref (ad 38)), (1, .ref (ad (33 + i))), (2, .int (nI g)), (3, .int (nI q))]) K.hx K.hb d_L_beginning_9 hl (by decide) rfl (fun ls hl => ?_)
  refine lv_aload_n K.hx K.hb d_L_beginning_11 rfl (lv_at hl 1 rfl) ?_
  refine g_get K.1 hP (38) (by decide) rfl rfl i_L 0 (by decide) rfl (Or.inl kw_197) rfl d_L_beginning_12 ?_
  refine g_get K.1 hP (19) (by decide) rfl rfl i_K 2 (by decide) rfl (Or.inr nw_159) rfl d_L_beginning_15 ?_
  refine lv_iload_n K.hx K.hb d_L_beginning_18 rfl (lv_at hl 4 rfl) ?_
  refine g_aald K.1 hP (27) (by decide) rfl 5 rfl (q) rfl (by have := hq; omega) (by decide) rfl d_L_beginning_19 ?_
  refine lv_astore (lv' := [(5, .ref (ad (28 + q))), (4, .ref (ad (21 + g))), (0, .ref (ad 38)), (1, .ref (ad (33 + i))), (2, .int (nI g)), (3, .int (nI q))]) K.hx K.hb d_L_beginning_20 hl (by decide) rfl (fun ls hl => ?_)
  refine lv_aload K.hx K.hb d_L_beginning_22 (lv_at hl 0 rfl) ?_
  refine g_get K.1 hP (28 + q) (by have := hq; omega) (eP hq) rfl i_P 0 (by decide) rfl (Or.inr nw_103) rfl d_L_beginning_24 ?_
  refine lv_aload_n K.hx K.hb d_L_beginning_27 rfl (lv_at hl 3 rfl) ?_
  refine g_get K.1 hP (33 + i) (by have := hi5; omega) (eR hi5) rfl i_R 2 (by decide) rfl (Or.inr nw_128) rfl d_L_beginning_28 ?_
  refine lv_icmp_eq (tgt := 36) K.hx K.hb d_L_beginning_31 (by decide) (fun c_31 => ?_) (fun c_31 => ?_)
  · refine lv_aload K.hx K.hb d_L_beginning_36 (lv_at hl 1 rfl) ?_
    refine g_get K.1 hP (21 + g) (by have := hg; omega) (eG hg) rfl i_G 0 (by decide) rfl (Or.inr nw_87) rfl d_L_beginning_38 ?_
    refine lv_aload K.hx K.hb d_L_beginning_41 (lv_at hl 0 rfl) ?_
    refine g_get K.1 hP (28 + q) (by have := hq; omega) (eP hq) rfl i_P 1 (by decide) rfl (Or.inr nw_105) rfl d_L_beginning_43 ?_
    refine va_mmax K.hx K.hb (K.1.1.2.2.1.trans hl.1.symm) K.1.1.2.2.2.1 (K.1.1.2.2.2.2 _ kw_273) (K.1.1.2.2.2.2 _ kw_274) (K.1.1.2.2.2.2 _ kw_37) (K.1.1.2.2.2.2 _ kw_275) (Nat.le_of_ble_eq_true rfl) (Nat.le_of_ble_eq_true rfl) (Nat.le_of_ble_eq_true rfl) (Nat.le_of_ble_eq_true rfl) d_L_beginning_46 ?_
    refine lv_topi (fun z6 z6e => ?_)
    refine lv_istore (lv' := [(6, .int z6), (5, .ref (ad (28 + q))), (4, .ref (ad (21 + g))), (0, .ref (ad 38)), (1, .ref (ad (33 + i))), (2, .int (nI g)), (3, .int (nI q))]) K.hx K.hb d_L_beginning_49 hl (by decide) rfl (fun ls hl => ?_)
    refine lv_aload_n K.hx K.hb d_L_beginning_51 rfl (lv_at hl 3 rfl) ?_
    refine g_get K.1 hP (38) (by decide) rfl rfl i_L 1 (by decide) rfl (Or.inl kw_198) rfl d_L_beginning_52 ?_
    refine lv_iload_n K.hx K.hb d_L_beginning_55 rfl (lv_at hl 6 rfl) ?_
    refine g_iald K.1 hP (39) (by decide) rfl 0 rfl (q) rfl (by have := hq; omega) (by decide) d_L_beginning_56 ?_
    refine lv_aload_n K.hx K.hb d_L_beginning_57 rfl (lv_at hl 3 rfl) ?_
    refine g_get K.1 hP (38) (by decide) rfl rfl i_L 2 (by decide) rfl (Or.inl kw_199) rfl d_L_beginning_58 ?_
    refine lv_aload_n K.hx K.hb d_L_beginning_61 rfl (lv_at hl 4 rfl) ?_
    refine g_get K.1 hP (33 + i) (by have := hi5; omega) (eR hi5) rfl i_R 0 (by decide) rfl (Or.inr nw_123) rfl d_L_beginning_62 ?_
    refine g_iald K.1 hP (40) (by decide) rfl 0 rfl (th v i) hth (by have := hth8; omega) (by decide) d_L_beginning_65 ?_
    refine va_mmax K.hx K.hb (K.1.1.2.2.1.trans hl.1.symm) K.1.1.2.2.2.1 (K.1.1.2.2.2.2 _ kw_273) (K.1.1.2.2.2.2 _ kw_274) (K.1.1.2.2.2.2 _ kw_37) (K.1.1.2.2.2.2 _ kw_275) (Nat.le_of_ble_eq_true rfl) (Nat.le_of_ble_eq_true rfl) (Nat.le_of_ble_eq_true rfl) (Nat.le_of_ble_eq_true rfl) d_L_beginning_66 ?_
    refine lv_topi (fun z7 z7e => ?_)
    refine lv_istore (lv' := [(7, .int z7), (6, .int z6), (5, .ref (ad (28 + q))), (4, .ref (ad (21 + g))), (0, .ref (ad 38)), (1, .ref (ad (33 + i))), (2, .int (nI g)), (3, .int (nI q))]) K.hx K.hb d_L_beginning_69 hl (by decide) rfl (fun ls hl => ?_)
    refine lv_iload K.hx K.hb d_L_beginning_71 (lv_at hl 1 rfl) ?_
    refine lv_iload K.hx K.hb d_L_beginning_73 (lv_at hl 0 rfl) ?_
    refine va_mmax K.hx K.hb (K.1.1.2.2.1.trans hl.1.symm) K.1.1.2.2.2.1 (K.1.1.2.2.2.2 _ kw_273) (K.1.1.2.2.2.2 _ kw_274) (K.1.1.2.2.2.2 _ kw_37) (K.1.1.2.2.2.2 _ kw_275) (Nat.le_of_ble_eq_true rfl) (Nat.le_of_ble_eq_true rfl) (Nat.le_of_ble_eq_true rfl) (Nat.le_of_ble_eq_true rfl) d_L_beginning_75 ?_
    refine lv_topi (fun z8 z8e => ?_)
    refine lv_istore (lv' := [(8, .int z8), (7, .int z7), (6, .int z6), (5, .ref (ad (28 + q))), (4, .ref (ad (21 + g))), (0, .ref (ad 38)), (1, .ref (ad (33 + i))), (2, .int (nI g)), (3, .int (nI q))]) K.hx K.hb d_L_beginning_78 hl (by decide) rfl (fun ls hl => ?_)
    refine lv_iload K.hx K.hb d_L_beginning_80 (lv_at hl 0 rfl) ?_
    refine lv_aload_n K.hx K.hb d_L_beginning_82 rfl (lv_at hl 6 rfl) ?_
    refine g_get K.1 hP (33 + i) (by have := hi5; omega) (eR hi5) rfl i_R 1 (by decide) rfl (Or.inr nw_126) rfl d_L_beginning_83 ?_
    refine lv_iadd K.hx K.hb d_L_beginning_86 ?_
    refine lv_aload K.hx K.hb d_L_beginning_87 (lv_at hl 4 rfl) ?_
    refine g_get K.1 hP (21 + g) (by have := hg; omega) (eG hg) rfl i_G 1 (by decide) rfl (Or.inr nw_89) rfl d_L_beginning_89 ?_
    refine lv_aload K.hx K.hb d_L_beginning_92 (lv_at hl 3 rfl) ?_
    refine g_get K.1 hP (28 + q) (by have := hq; omega) (eP hq) rfl i_P 2 (by decide) rfl (Or.inr nw_107) rfl d_L_beginning_94 ?_
    refine va_mmin K.hx K.hb (K.1.1.2.2.1.trans hl.1.symm) K.1.1.2.2.2.1 (K.1.1.2.2.2.2 _ kw_276) (K.1.1.2.2.2.2 _ kw_277) (K.1.1.2.2.2.2 _ kw_37) (K.1.1.2.2.2.2 _ kw_278) (Nat.le_of_ble_eq_true rfl) (Nat.le_of_ble_eq_true rfl) (Nat.le_of_ble_eq_true rfl) (Nat.le_of_ble_eq_true rfl) d_L_beginning_97 ?_
    refine lv_icmp_gt (tgt := 108) K.hx K.hb d_L_beginning_100 (by decide) (fun c_100 => ?_) (fun c_100 => ?_)
    · refine lv_iconst (v := (-1)) K.hx K.hb d_L_beginning_108 (by decide) ?_
      exact ce_i K hP hS ⟨by rw [begZ_lo c_31 (by rw [show begH v i g q = z8 from by subst z6e; subst z7e; subst z8e; rfl]; exact c_100)], rfl, rfl⟩ (Nat.le_of_ble_eq_true rfl) (Nat.le_of_ble_eq_true rfl) d_L_beginning_109
    · refine lv_iload K.hx K.hb d_L_beginning_103 (lv_at hl 0 rfl) ?_
      refine lv_goto (tgt := 109) K.hx K.hb d_L_beginning_105 (by decide) ?_
      exact ce_i K hP hS ⟨by rw [begZ_hi c_31 (by rw [show begH v i g q = z8 from by subst z6e; subst z7e; subst z8e; rfl]; exact c_100), show begH v i g q = z8 from by subst z6e; subst z7e; subst z8e; rfl], rfl, rfl⟩ (Nat.le_of_ble_eq_true rfl) (Nat.le_of_ble_eq_true rfl) d_L_beginning_109
  · refine lv_iconst (v := (-1)) K.hx K.hb d_L_beginning_34 (by decide) ?_
    exact ce_i K hP hS ⟨by rw [begZ_no c_31], rfl, rfl⟩ (Nat.le_of_ble_eq_true rfl) (Nat.le_of_ble_eq_true rfl) d_L_beginning_35
end
section
set_option maxHeartbeats 4000000 in
set_option maxRecDepth 100000 in
theorem lp_fb {p : Program} {l : Launch} {e : Env} {s : State} {m : MethodId} {args : Array Value} {below : List Frame} {meth : Method} {c : Code} {Q : State → Prop} {D : va_G} {cs : Nat → ClassId} {ad : Nat → Nat} {v : Nat → Nat → Int32} {sd : Int64} (K : Cx p l m meth c b_L_firstBeginning 6 (some .int) s args "WearHours$Planner" D cs ad) {gc pc rc : Nat} (hPI : PI gc pc rc v) {i : Nat} (hi : i < rc) {q : Nat} (hq : q < 4) 
    (kx : ∀  (H : Heap) (l1 : List Loc) (ls : Array Slot), va_P D classes (wv 42 ad (fun k => eC cs ad sd k (v k))) H → va_S (aA 42 ad s.heap.size) s.heap H l1 → lv_has ls 6 [(3, .int (fbL v i q gc))] → W p l e (rmx 1 0) s m args below meth c H l1 0 0 Q (F0 m 74 ls []))
    : ∀ (n g : Nat), g ≤ gc → gc < g + n → ∀ (H : Heap) (l1 : List Loc) (ls : Array Slot), va_P D classes (wv 42 ad (fun k => eC cs ad sd k (v k))) H → va_S (aA 42 ad s.heap.size) s.heap H l1 → lv_has ls 6 [(0, .ref (ad 38)), (1, .ref (ad (33 + i))), (2, .int (nI q)), (3, .int (fbL v i q g)), (4, .int (nI g))] → W p l e (rmx 1 0) s m args below meth c H l1 0 0 Q (F0 m 26 ls []) := by
  intro n
  induction n with
  | zero =>
    intro g  h1 h2
    omega
  | succ n ih =>
    intro g  hle hlt H l1 ls hP hS hl
    have hg6 := hPI.2.1
    have hr5 := hPI.2.2.2.2.2.1
    have hi5 : i < 5 := by omega
    refine lv_iload K.hx K.hb d_L_firstBeginning_26 (lv_at hl 4 rfl) ?_
    refine lv_aload_n K.hx K.hb d_L_firstBeginning_28 rfl (lv_at hl 0 rfl) ?_
    refine g_get K.1 hP (38) (by decide) rfl rfl i_L 0 (by decide) rfl (Or.inl kw_197) rfl d_L_firstBeginning_29 ?_
    refine g_get K.1 hP (19) (by decide) rfl rfl i_K 1 (by decide) rfl (Or.inr nw_156) rfl d_L_firstBeginning_32 ?_
    refine lv_icmp_ge (tgt := 74) K.hx K.hb d_L_firstBeginning_35 (by decide) (fun c_35 => ?_) (fun c_35 => ?_)
    · have hge : g = gc := Nat.le_antisymm hle ((nI_leI (by omega) (by omega)).mp (by rw [← hPI.1]; exact c_35))
      subst hge
      exact kx H l1 ls hP hS (lv_sub hl [3] rfl)
    · have hlt2 : g < gc := Nat.lt_of_not_le (fun h => c_35 (by rw [hPI.1]; exact nI_le h (by omega)))
      have hg9 : g < 6 := by omega
      refine lv_aload_n K.hx K.hb d_L_firstBeginning_38 rfl (lv_at hl 0 rfl) ?_
      refine lv_aload_n K.hx K.hb d_L_firstBeginning_39 rfl (lv_at hl 1 rfl) ?_
      refine lv_iload K.hx K.hb d_L_firstBeginning_40 (lv_at hl 4 rfl) ?_
      refine lv_iload_n K.hx K.hb d_L_firstBeginning_42 rfl (lv_at hl 2 rfl) ?_
      refine cc_V K hP hS (c_L_beginning l D cs ad _ _ hPI hi hg9 hq) kw_272 xm_L_beginning kw_269 kw_271 kw_3 (g_recv K.1.2.1 hP (38) (by decide) rfl rfl) rfl hl.1 d_L_firstBeginning_43 (Nat.le_of_ble_eq_true rfl) (Nat.le_of_ble_eq_true rfl) ⟨(Nat.le_of_ble_eq_true rfl), (Nat.le_of_ble_eq_true rfl)⟩ (fun r v1 sd1 H l1 hp hP hS => ?_)
      obtain ⟨rfl, rfl, rfl⟩ := hp
      refine lv_istore (lv' := [(5, .int (begZ v i g q)), (0, .ref (ad 38)), (1, .ref (ad (33 + i))), (2, .int (nI q)), (3, .int (fbL v i q g)), (4, .int (nI g))]) K.hx K.hb d_L_firstBeginning_46 hl (by decide) rfl (fun ls hl => ?_)
      refine lv_iload K.hx K.hb d_L_firstBeginning_48 (lv_at hl 0 rfl) ?_
      refine lv_iconst (v := (-1)) K.hx K.hb d_L_firstBeginning_50 (by decide) ?_
      refine lv_icmp_eq (tgt := 68) K.hx K.hb d_L_firstBeginning_51 (by decide) (fun c_51 => ?_) (fun c_51 => ?_)
      · refine lv_iinc (v := nI (g + 1)) (lv' := [(4, .int (nI (g + 1))), (5, .int (begZ v i g q)), (0, .ref (ad 38)), (1, .ref (ad (33 + i))), (2, .int (nI q)), (3, .int (fbL v i q g))]) K.hx K.hb d_L_firstBeginning_68 hl (k := 5) rfl (nI_1 _) (by decide) rfl (fun ls hl => ?_)
        refine lv_goto (tgt := 26) K.hx K.hb d_L_firstBeginning_71 (by decide) ?_
        exact ih (g + 1) hlt2 (by omega) H l1 ls hP hS (by rw [show fbL v i q (g + 1) = fbL v i q g from by simp [fbL, fbS, *]]; exact lv_sub hl [2, 3, 4, 5, 0] rfl)
      · refine lv_iload_n K.hx K.hb d_L_firstBeginning_54 rfl (lv_at hl 4 rfl) ?_
        refine lv_iconst (v := (-1)) K.hx K.hb d_L_firstBeginning_55 (by decide) ?_
        refine lv_icmp_eq (tgt := 65) K.hx K.hb d_L_firstBeginning_56 (by decide) (fun c_56 => ?_) (fun c_56 => ?_)
        · refine lv_iload K.hx K.hb d_L_firstBeginning_65 (lv_at hl 0 rfl) ?_
          refine lv_istore_n (lv' := [(3, .int (begZ v i g q)), (5, .int (begZ v i g q)), (0, .ref (ad 38)), (1, .ref (ad (33 + i))), (2, .int (nI q)), (4, .int (nI g))]) K.hx K.hb d_L_firstBeginning_67 rfl hl (by decide) rfl (fun ls hl => ?_)
          refine lv_iinc (v := nI (g + 1)) (lv' := [(4, .int (nI (g + 1))), (3, .int (begZ v i g q)), (5, .int (begZ v i g q)), (0, .ref (ad 38)), (1, .ref (ad (33 + i))), (2, .int (nI q))]) K.hx K.hb d_L_firstBeginning_68 hl (k := 5) rfl (nI_1 _) (by decide) rfl (fun ls hl => ?_)
          refine lv_goto (tgt := 26) K.hx K.hb d_L_firstBeginning_71 (by decide) ?_
          exact ih (g + 1) hlt2 (by omega) H l1 ls hP hS (by rw [show fbL v i q (g + 1) = begZ v i g q from by simp [fbL, fbS, *]]; exact lv_sub hl [3, 4, 5, 1, 0] rfl)
        · refine lv_iload K.hx K.hb d_L_firstBeginning_59 (lv_at hl 0 rfl) ?_
          refine lv_iload_n K.hx K.hb d_L_firstBeginning_61 rfl (lv_at hl 4 rfl) ?_
          refine lv_icmp_ge (tgt := 68) K.hx K.hb d_L_firstBeginning_62 (by decide) (fun c_62 => ?_) (fun c_62 => ?_)
          · refine lv_iinc (v := nI (g + 1)) (lv' := [(4, .int (nI (g + 1))), (5, .int (begZ v i g q)), (0, .ref (ad 38)), (1, .ref (ad (33 + i))), (2, .int (nI q)), (3, .int (fbL v i q g))]) K.hx K.hb d_L_firstBeginning_68 hl (k := 5) rfl (nI_1 _) (by decide) rfl (fun ls hl => ?_)
            refine lv_goto (tgt := 26) K.hx K.hb d_L_firstBeginning_71 (by decide) ?_
            exact ih (g + 1) hlt2 (by omega) H l1 ls hP hS (by rw [show fbL v i q (g + 1) = fbL v i q g from by simp [fbL, fbS, *]]; exact lv_sub hl [2, 3, 4, 5, 0] rfl)
          · refine lv_iload K.hx K.hb d_L_firstBeginning_65 (lv_at hl 0 rfl) ?_
            refine lv_istore_n (lv' := [(3, .int (begZ v i g q)), (5, .int (begZ v i g q)), (0, .ref (ad 38)), (1, .ref (ad (33 + i))), (2, .int (nI q)), (4, .int (nI g))]) K.hx K.hb d_L_firstBeginning_67 rfl hl (by decide) rfl (fun ls hl => ?_)
            refine lv_iinc (v := nI (g + 1)) (lv' := [(4, .int (nI (g + 1))), (3, .int (begZ v i g q)), (5, .int (begZ v i g q)), (0, .ref (ad 38)), (1, .ref (ad (33 + i))), (2, .int (nI q))]) K.hx K.hb d_L_firstBeginning_68 hl (k := 5) rfl (nI_1 _) (by decide) rfl (fun ls hl => ?_)
            refine lv_goto (tgt := 26) K.hx K.hb d_L_firstBeginning_71 (by decide) ?_
            exact ih (g + 1) hlt2 (by omega) H l1 ls hP hS (by rw [show fbL v i q (g + 1) = begZ v i g q from by simp [fbL, fbS, *]]; exact lv_sub hl [3, 4, 5, 1, 0] rfl)
set_option maxHeartbeats 4000000 in
set_option maxRecDepth 100000 in
theorem c_L_firstBeginning (l : Launch) (D : va_G) (cs : Nat → ClassId) (ad : Nat → Nat) (v : Nat → Nat → Int32) (sd : Int64) {gc pc rc : Nat} (hPI : PI gc pc rc v) {i : Nat} (hi : i < rc) {q : Nat} (hq : q < 4)  : Cm l y_L_firstBeginning b_L_firstBeginning 6 (some .int) (rmx 1 0) [.ref (ad 38), .ref (ad (33 + i)), .int (nI q)] D cs ad v sd (fun r v' sd' => r = some (.int (fbZ v i q gc)) ∧ v = v' ∧ sd = sd') (fun cls => False) := by
  refine cw_enter (own := "WearHours$Planner") rfl (Nat.le_of_ble_eq_true rfl) ?_
  intro p e s m below meth c ls K hS hP hl
  have hl : lv_has ls 6 [(0, .ref (ad 38)), (1, .ref (ad (33 + i))), (2, .int (nI q))] := hl
  have hg6 := hPI.2.1
  have hr5 := hPI.2.2.2.2.2.1
  have hi5 : i < 5 := by omega
  refine lv_iconst (v := (-1)) K.hx K.hb d_L_firstBeginning_0 (by decide) ?_
  refine lv_istore_n (lv' := [(3, .int (-1)), (0, .ref (ad 38)), (1, .ref (ad (33 + i))), (2, .int (nI q))]) K.hx K.hb d_L_firstBeginning_1 rfl hl (by decide) rfl (fun ls hl => ?_)
  refine lv_aload_n K.hx K.hb d_L_firstBeginning_2 rfl (lv_at hl 1 rfl) ?_
  refine g_get K.1 hP (38) (by decide) rfl rfl i_L 0 (by decide) rfl (Or.inl kw_197) rfl d_L_firstBeginning_3 ?_
  refine g_get K.1 hP (19) (by decide) rfl rfl i_K 2 (by decide) rfl (Or.inr nw_159) rfl d_L_firstBeginning_6 ?_
  refine lv_iload_n K.hx K.hb d_L_firstBeginning_9 rfl (lv_at hl 3 rfl) ?_
  refine g_aald K.1 hP (27) (by decide) rfl 5 rfl (q) rfl (by have := hq; omega) (by decide) rfl d_L_firstBeginning_10 ?_
  refine g_get K.1 hP (28 + q) (by have := hq; omega) (eP hq) rfl i_P 0 (by decide) rfl (Or.inr nw_103) rfl d_L_firstBeginning_11 ?_
  refine lv_aload_n K.hx K.hb d_L_firstBeginning_14 rfl (lv_at hl 2 rfl) ?_
  refine g_get K.1 hP (33 + i) (by have := hi5; omega) (eR hi5) rfl i_R 2 (by decide) rfl (Or.inr nw_128) rfl d_L_firstBeginning_15 ?_
  refine lv_icmp_eq (tgt := 23) K.hx K.hb d_L_firstBeginning_18 (by decide) (fun c_18 => ?_) (fun c_18 => ?_)
  · refine lv_iconst (v := 0) K.hx K.hb d_L_firstBeginning_23 (by decide) ?_
    refine lv_istore (lv' := [(4, .int 0), (3, .int (-1)), (0, .ref (ad 38)), (1, .ref (ad (33 + i))), (2, .int (nI q))]) K.hx K.hb d_L_firstBeginning_24 hl (by decide) rfl (fun ls hl => ?_)
    refine lp_fb K hPI hi hq (fun H l1 ls hP hS hl => ?_) (gc + 1) 0 (by omega) (by omega) _ _ ls hP hS (lv_sub hl [2, 3, 4, 1, 0] rfl)
    refine lv_iload_n K.hx K.hb d_L_firstBeginning_74 rfl (lv_at hl 0 rfl) ?_
    exact ce_i K hP hS ⟨by rw [show fbZ v i q gc = fbL v i q gc from if_pos c_18], rfl, rfl⟩ (Nat.le_of_ble_eq_true rfl) (Nat.le_of_ble_eq_true rfl) d_L_firstBeginning_75
  · refine lv_iload_n K.hx K.hb d_L_firstBeginning_21 rfl (lv_at hl 0 rfl) ?_
    exact ce_i K hP hS ⟨by rw [show fbZ v i q gc = -1 from if_neg c_18], rfl, rfl⟩ (Nat.le_of_ble_eq_true rfl) (Nat.le_of_ble_eq_true rfl) d_L_firstBeginning_22
end
section
theorem rm_fr {k k' n n' : Nat} (hk : k + 1 ≤ k') : (rmx k n).frames + 1 ≤ (rmx k' n').frames := by
  simp only [rmx]; omega
theorem rm_lo {st : List Value} {maxL k k' n n' : Nat} (h : (st.map fun v => v.category).sum ≤ 8) (hm : maxL ≤ 20) (hk : k + 1 ≤ k') : (st.map fun v => v.category).sum + (maxL + 11) + (rmx k n).locals ≤ (rmx k' n').locals := by
  simp only [rmx]; omega
/-- the contract of leastCost, f calls deep -/
def LCok (l : Launch) (D : va_G) (cs : Nat → ClassId) (ad : Nat → Nat) (sd : Int64) (gc pc rc f : Nat) : Prop := ∀ (v : Nat → Nat → Int32) (n : Nat) (lim : Int32), PI gc pc rc v → n ≤ rc → rc < n + f →
  Cm l y_L_leastCost b_L_leastCost 7 (some .int) (rmx (2 * f + 3) 0) [.ref (ad 38), .int (nI n), .int lim] D cs ad v sd (fun r v' sd' => r = some (.int (lcF gc pc rc f v n lim)) ∧ v = v' ∧ sd = sd') (fun _ => False)
theorem PI_of {gc pc rc : Nat} {v u : Nat → Nat → Int32} (h : PI gc pc rc v) (h1 : u 19 = v 19) (h2 : ∀ i, i < 5 → u (33 + i) = v (33 + i)) : PI gc pc rc u := by
  obtain ⟨a1, a2, a3, a4, a5, a6, a7⟩ := h
  refine ⟨by rw [h1]; exact a1, a2, by rw [h1]; exact a3, a4, by rw [h1]; exact a5, a6, fun i hi => ?_⟩
  obtain ⟨t, ht, e⟩ := a7 i hi
  exact ⟨t, ht, by rw [h2 i (by omega)]; exact e⟩
theorem PI_occ {gc pc rc : Nat} {v : Nat → Nat → Int32} (h : PI gc pc rc v) (i p : Nat) (x : Int32) : PI gc pc rc (occ v i p x) :=
  PI_of h (by unfold occ; rw [u2_ne (by decide), u2_ne (by decide)]) (fun j hj => by unfold occ; rw [u2_ne (by omega), u2_ne (by omega)])
theorem occ_back (v : Nat → Nat → Int32) (i p : Nat) (h : Int32) : u2 (u2 (occ v i p h) 39 p (v 39 p)) 40 (th v i) (v 40 (th v i)) = v := by
  funext a b
  simp only [occ, u2_at]
  by_cases h1 : a = 40 ∧ b = th v i
  · rw [if_pos h1, h1.1, h1.2]
  · rw [if_neg h1]
    by_cases h2 : a = 39 ∧ b = p
    · rw [if_pos h2, h2.1, h2.2]
    · rw [if_neg h2, if_neg h2, if_neg h1]
set_option maxHeartbeats 4000000 in
set_option maxRecDepth 100000 in
theorem c_L_costBy (l : Launch) (D : va_G) (cs : Nat → ClassId) (ad : Nat → Nat) (v : Nat → Nat → Int32) (sd : Int64) {gc pc rc f : Nat} (hLC : LCok l D cs ad sd gc pc rc f) (hPI : PI gc pc rc v) {n : Nat} (hn : n < rc) (hf : rc < n + 1 + f) {q : Nat} (hq : q < 4) (h lim : Int32)  : Cm l y_L_costBy b_L_costBy 10 (some .int) (rmx (2 * f + 4) 0) [.ref (ad 38), .int (nI n), .int (nI q), .int h, .int lim] D cs ad v sd (fun r v' sd' => r = some (.int (cbG (lcF gc pc rc f) v n q h lim)) ∧ v = v' ∧ sd = sd') (fun cls => False) := by
  refine cw_enter (own := "WearHours$Planner") rfl (Nat.le_of_ble_eq_true rfl) ?_
  intro p e s m below meth c ls K hS hP hl
  have hl : lv_has ls 10 [(0, .ref (ad 38)), (1, .int (nI n)), (2, .int (nI q)), (3, .int h), (4, .int lim)] := hl
  obtain ⟨hth, hth8⟩ := PI_th hPI hn
  have hg6 := hPI.2.1
  have hp4 := hPI.2.2.2.1
  have hr5 := hPI.2.2.2.2.2.1
  have hn5 : n < 5 := by omega
  have hn1 : n + 1 < 6 := by omega
  refine lv_aload_n K.hx K.hb d_L_costBy_0 rfl (lv_at hl 0 rfl) ?_
  refine g_get K.1 hP (38) (by decide) rfl rfl i_L 0 (by decide) rfl (Or.inl kw_197) rfl d_L_costBy_1 ?_
  refine g_get K.1 hP (19) (by decide) rfl rfl i_K 4 (by decide) rfl (Or.inr nw_164) rfl d_L_costBy_4 ?_
  refine lv_iload_n K.hx K.hb d_L_costBy_7 rfl (lv_at hl 1 rfl) ?_
  refine g_aald K.1 hP (32) (by decide) rfl 6 rfl (n) rfl (by have := hn5; omega) (by decide) rfl d_L_costBy_8 ?_
  refine lv_astore (lv' := [(5, .ref (ad (33 + n))), (0, .ref (ad 38)), (1, .int (nI n)), (2, .int (nI q)), (3, .int h), (4, .int lim)]) K.hx K.hb d_L_costBy_9 hl (by decide) rfl (fun ls hl => ?_)
  refine lv_aload K.hx K.hb d_L_costBy_11 (lv_at hl 0 rfl) ?_
  refine g_get K.1 hP (33 + n) (by have := hn5; omega) (eR hn5) rfl i_R 3 (by decide) rfl (Or.inr nw_131) rfl d_L_costBy_13 ?_
  refine lv_iload_n K.hx K.hb d_L_costBy_16 rfl (lv_at hl 4 rfl) ?_
  refine lv_imul K.hx K.hb d_L_costBy_17 ?_
  refine lv_istore (lv' := [(6, .int ((v (33 + n) 3) * h)), (5, .ref (ad (33 + n))), (0, .ref (ad 38)), (1, .int (nI n)), (2, .int (nI q)), (3, .int h), (4, .int lim)]) K.hx K.hb d_L_costBy_18 hl (by decide) rfl (fun ls hl => ?_)
  refine lv_iload K.hx K.hb d_L_costBy_20 (lv_at hl 0 rfl) ?_
  refine lv_aload_n K.hx K.hb d_L_costBy_22 rfl (lv_at hl 2 rfl) ?_
  refine g_get K.1 hP (38) (by decide) rfl rfl i_L 3 (by decide) rfl (Or.inl kw_200) rfl d_L_costBy_23 ?_
  refine lv_iload_n K.hx K.hb d_L_costBy_26 rfl (lv_at hl 3 rfl) ?_
  refine lv_iconst (v := 1) K.hx K.hb d_L_costBy_27 (by decide) ?_
  refine lv_iadd K.hx K.hb d_L_costBy_28 ?_
  refine lv_topE (y := nI (n + 1)) (nI_1 _) ?_
  refine g_iald K.1 hP (41) (by decide) rfl 0 rfl (n + 1) rfl (by have := hn1; omega) (by decide) d_L_costBy_29 ?_
  refine lv_iadd K.hx K.hb d_L_costBy_30 ?_
  refine lv_iload K.hx K.hb d_L_costBy_31 (lv_at hl 6 rfl) ?_
  refine lv_icmp_lt (tgt := 39) K.hx K.hb d_L_costBy_33 (by decide) (fun c_33 => ?_) (fun c_33 => ?_)
  · refine lv_aload_n K.hx K.hb d_L_costBy_39 rfl (lv_at hl 2 rfl) ?_
    refine g_get K.1 hP (38) (by decide) rfl rfl i_L 1 (by decide) rfl (Or.inl kw_198) rfl d_L_costBy_40 ?_
    refine lv_iload_n K.hx K.hb d_L_costBy_43 rfl (lv_at hl 4 rfl) ?_
    refine g_iald K.1 hP (39) (by decide) rfl 0 rfl (q) rfl (by have := hq; omega) (by decide) d_L_costBy_44 ?_
    refine lv_istore (lv' := [(7, .int (v 39 q)), (6, .int ((v (33 + n) 3) * h)), (5, .ref (ad (33 + n))), (0, .ref (ad 38)), (1, .int (nI n)), (2, .int (nI q)), (3, .int h), (4, .int lim)]) K.hx K.hb d_L_costBy_45 hl (by decide) rfl (fun ls hl => ?_)
    refine lv_aload_n K.hx K.hb d_L_costBy_47 rfl (lv_at hl 3 rfl) ?_
    refine g_get K.1 hP (38) (by decide) rfl rfl i_L 2 (by decide) rfl (Or.inl kw_199) rfl d_L_costBy_48 ?_
    refine lv_aload K.hx K.hb d_L_costBy_51 (lv_at hl 2 rfl) ?_
    refine g_get K.1 hP (33 + n) (by have := hn5; omega) (eR hn5) rfl i_R 0 (by decide) rfl (Or.inr nw_123) rfl d_L_costBy_53 ?_
    refine g_iald K.1 hP (40) (by decide) rfl 0 rfl (th v n) hth (by have := hth8; omega) (by decide) d_L_costBy_56 ?_
    refine lv_istore (lv' := [(8, .int (v 40 (th v n))), (7, .int (v 39 q)), (6, .int ((v (33 + n) 3) * h)), (5, .ref (ad (33 + n))), (0, .ref (ad 38)), (1, .int (nI n)), (2, .int (nI q)), (3, .int h), (4, .int lim)]) K.hx K.hb d_L_costBy_57 hl (by decide) rfl (fun ls hl => ?_)
    refine lv_aload_n K.hx K.hb d_L_costBy_59 rfl (lv_at hl 4 rfl) ?_
    refine lv_aload K.hx K.hb d_L_costBy_60 (lv_at hl 3 rfl) ?_
    refine lv_iload_n K.hx K.hb d_L_costBy_62 rfl (lv_at hl 6 rfl) ?_
    refine lv_iload_n K.hx K.hb d_L_costBy_63 rfl (lv_at hl 7 rfl) ?_
    refine cc_V K hP hS (c_L_occupy l D cs ad _ _ hPI hn hq h) kw_291 xm_L_occupy kw_288 kw_290 kw_6 (g_recv K.1.2.1 hP (38) (by decide) rfl rfl) rfl hl.1 d_L_costBy_64 (rm_fr (by omega)) (rm_lo (Nat.le_of_ble_eq_true rfl) (by decide) (by omega)) ⟨(Nat.le_of_ble_eq_true rfl), (Nat.le_of_ble_eq_true rfl)⟩ (fun r v1 sd1 H l1 hp hP hS => ?_)
    obtain ⟨rfl, rfl, rfl⟩ := hp
    refine lv_iload K.hx K.hb d_L_costBy_67 (lv_at hl 2 rfl) ?_
    refine lv_aload_n K.hx K.hb d_L_costBy_69 rfl (lv_at hl 4 rfl) ?_
    refine lv_iload_n K.hx K.hb d_L_costBy_70 rfl (lv_at hl 5 rfl) ?_
    refine lv_iconst (v := 1) K.hx K.hb d_L_costBy_71 (by decide) ?_
    refine lv_iadd K.hx K.hb d_L_costBy_72 ?_
    refine lv_topE (y := nI (n + 1)) (nI_1 _) ?_
    refine lv_iload K.hx K.hb d_L_costBy_73 (lv_at hl 8 rfl) ?_
    refine lv_iload K.hx K.hb d_L_costBy_75 (lv_at hl 2 rfl) ?_
    refine lv_isub K.hx K.hb d_L_costBy_77 ?_
    refine cc_V K hP hS (hLC _ (n + 1) (lim - ((v (33 + n) 3) * h)) (PI_occ hPI n q h) (by omega) (by omega)) kw_283 xm_L_leastCost kw_280 kw_282 kw_4 (g_recv K.1.2.1 hP (38) (by decide) rfl rfl) rfl hl.1 d_L_costBy_78 (rm_fr (by omega)) (rm_lo (Nat.le_of_ble_eq_true rfl) (by decide) (by omega)) ⟨(Nat.le_of_ble_eq_true rfl), (Nat.le_of_ble_eq_true rfl)⟩ (fun r v1 sd1 H l1 hp hP hS => ?_)
    obtain ⟨rfl, rfl, rfl⟩ := hp
    refine lv_iadd K.hx K.hb d_L_costBy_81 ?_
    refine lv_istore (lv' := [(9, .int (((v (33 + n) 3) * h) + (lcF gc pc rc f (occ v n q h) (n + 1) (lim - ((v (33 + n) 3) * h))))), (8, .int (v 40 (th v n))), (7, .int (v 39 q)), (6, .int ((v (33 + n) 3) * h)), (5, .ref (ad (33 + n))), (0, .ref (ad 38)), (1, .int (nI n)), (2, .int (nI q)), (3, .int h), (4, .int lim)]) K.hx K.hb d_L_costBy_82 hl (by decide) rfl (fun ls hl => ?_)
    refine lv_aload_n K.hx K.hb d_L_costBy_84 rfl (lv_at hl 5 rfl) ?_
    refine g_get K.1 hP (38) (by decide) rfl rfl i_L 1 (by decide) rfl (Or.inl kw_198) rfl d_L_costBy_85 ?_
    refine lv_iload_n K.hx K.hb d_L_costBy_88 rfl (lv_at hl 7 rfl) ?_
    refine lv_iload K.hx K.hb d_L_costBy_89 (lv_at hl 2 rfl) ?_
    refine g_iast K.1 hP hS (39) (by decide) (fun _ => rfl) 0 rfl (q) rfl (by have := hq; omega) (by decide) d_L_costBy_91 (fun H l1 hP hS => ?_)
    refine lv_aload_n K.hx K.hb d_L_costBy_92 rfl (lv_at hl 5 rfl) ?_
    refine g_get K.1 hP (38) (by decide) rfl rfl i_L 2 (by decide) rfl (Or.inl kw_199) rfl d_L_costBy_93 ?_
    refine lv_aload K.hx K.hb d_L_costBy_96 (lv_at hl 4 rfl) ?_
    refine g_get K.1 hP (33 + n) (by have := hn5; omega) (eR hn5) rfl i_R 0 (by decide) rfl (Or.inr nw_123) rfl d_L_costBy_98 ?_
    refine lv_topE (y := (v (33 + n) 0)) (by first | (simp [u2_at, kp, occ]; done) | (simp [u2_at, kp, occ] <;> (intros; omega)) | (simp only [u2_at, kp, occ]; (repeat' split) <;> first | rfl | (exfalso; omega))) ?_
    refine lv_iload K.hx K.hb d_L_costBy_101 (lv_at hl 1 rfl) ?_
    refine g_iast K.1 hP hS (40) (by decide) (fun _ => rfl) 0 rfl (th v n) hth (by have := hth8; omega) (by decide) d_L_costBy_103 (fun H l1 hP hS => ?_)
    refine lv_iload K.hx K.hb d_L_costBy_104 (lv_at hl 0 rfl) ?_
    exact ce_i K hP hS ⟨by rw [show cbG (lcF gc pc rc f) v n q h lim = ((v (33 + n) 3) * h) + (lcF gc pc rc f (occ v n q h) (n + 1) (lim - ((v (33 + n) 3) * h))) from if_pos c_33], (occ_back v n q h).symm, rfl⟩ (Nat.le_of_ble_eq_true rfl) (Nat.le_of_ble_eq_true rfl) d_L_costBy_106
  · refine lv_iload K.hx K.hb d_L_costBy_36 (lv_at hl 6 rfl) ?_
    exact ce_i K hP hS ⟨by rw [show cbG (lcF gc pc rc f) v n q h lim = lim from if_neg c_33], rfl, rfl⟩ (Nat.le_of_ble_eq_true rfl) (Nat.le_of_ble_eq_true rfl) d_L_costBy_38
set_option maxHeartbeats 4000000 in
set_option maxRecDepth 100000 in
theorem lp_lc {p : Program} {l : Launch} {e : Env} {s : State} {m : MethodId} {args : Array Value} {below : List Frame} {meth : Method} {c : Code} {Q : State → Prop} {D : va_G} {cs : Nat → ClassId} {ad : Nat → Nat} {v : Nat → Nat → Int32} {sd : Int64} (K : Cx p l m meth c b_L_leastCost 7 (some .int) s args "WearHours$Planner" D cs ad) {gc pc rc f : Nat} (hLC : LCok l D cs ad sd gc pc rc f) (hPI : PI gc pc rc v) {n : Nat} (hn : n < rc) (hf : rc < n + 1 + f) {lim : Int32} 
    (kx : ∀  (H : Heap) (l1 : List Loc) (ls : Array Slot), va_P D classes (wv 42 ad (fun k => eC cs ad sd k (v k))) H → va_S (aA 42 ad s.heap.size) s.heap H l1 → lv_has ls 7 [(0, .ref (ad 38)), (1, .int (nI n)), (3, .ref (ad (33 + n))), (4, .int (ppL (lcF gc pc rc f) gc v n lim pc))] → W p l e (rmx (2 * (f + 1) + 3) 0) s m args below meth c H l1 0 0 Q (F0 m 75 ls []))
    : ∀ (k g : Nat), g ≤ pc → pc < g + k → ∀ (H : Heap) (l1 : List Loc) (ls : Array Slot), va_P D classes (wv 42 ad (fun k => eC cs ad sd k (v k))) H → va_S (aA 42 ad s.heap.size) s.heap H l1 → lv_has ls 7 [(0, .ref (ad 38)), (1, .int (nI n)), (3, .ref (ad (33 + n))), (4, .int (ppL (lcF gc pc rc f) gc v n lim g)), (5, .int (nI g))] → W p l e (rmx (2 * (f + 1) + 3) 0) s m args below meth c H l1 0 0 Q (F0 m 29 ls []) := by
  intro k
  induction k with
  | zero =>
    intro g  h1 h2
    omega
  | succ k ih =>
    intro g  hle hlt H l1 ls hP hS hl
    have hp4 := hPI.2.2.2.1
    have hr5 := hPI.2.2.2.2.2.1
    have hn5 : n < 5 := by omega
    refine lv_iload K.hx K.hb d_L_leastCost_29 (lv_at hl 4 rfl) ?_
    refine lv_aload_n K.hx K.hb d_L_leastCost_31 rfl (lv_at hl 0 rfl) ?_
    refine g_get K.1 hP (38) (by decide) rfl rfl i_L 0 (by decide) rfl (Or.inl kw_197) rfl d_L_leastCost_32 ?_
    refine g_get K.1 hP (19) (by decide) rfl rfl i_K 3 (by decide) rfl (Or.inr nw_161) rfl d_L_leastCost_35 ?_
    refine lv_icmp_ge (tgt := 75) K.hx K.hb d_L_leastCost_38 (by decide) (fun c_38 => ?_) (fun c_38 => ?_)
    · have hge : g = pc := Nat.le_antisymm hle ((nI_leI (by omega) (by omega)).mp (by rw [← hPI.2.2.1]; exact c_38))
      subst hge
      exact kx H l1 ls hP hS (lv_sub hl [0, 1, 2, 3] rfl)
    · have hlt2 : g < pc := Nat.lt_of_not_le (fun h => c_38 (by rw [hPI.2.2.1]; exact nI_le h (by omega)))
      have hg9 : g < 4 := by omega
      refine lv_aload_n K.hx K.hb d_L_leastCost_41 rfl (lv_at hl 0 rfl) ?_
      refine lv_aload_n K.hx K.hb d_L_leastCost_42 rfl (lv_at hl 2 rfl) ?_
      refine lv_iload K.hx K.hb d_L_leastCost_43 (lv_at hl 4 rfl) ?_
      refine cc_V K hP hS (c_L_firstBeginning l D cs ad _ _ hPI hn hg9) kw_268 xm_L_firstBeginning kw_265 kw_267 kw_2 (g_recv K.1.2.1 hP (38) (by decide) rfl rfl) rfl hl.1 d_L_leastCost_45 (rm_fr (by omega)) (rm_lo (Nat.le_of_ble_eq_true rfl) (by decide) (by omega)) ⟨(Nat.le_of_ble_eq_true rfl), (Nat.le_of_ble_eq_true rfl)⟩ (fun r v1 sd1 H l1 hp hP hS => ?_)
      obtain ⟨rfl, rfl, rfl⟩ := hp
      refine lv_istore (lv' := [(6, .int (fbZ v n g gc)), (0, .ref (ad 38)), (1, .int (nI n)), (3, .ref (ad (33 + n))), (4, .int (ppL (lcF gc pc rc f) gc v n lim g)), (5, .int (nI g))]) K.hx K.hb d_L_leastCost_48 hl (by decide) rfl (fun ls hl => ?_)
      refine lv_iload K.hx K.hb d_L_leastCost_50 (lv_at hl 0 rfl) ?_
      refine lv_iconst (v := (-1)) K.hx K.hb d_L_leastCost_52 (by decide) ?_
      refine lv_icmp_eq (tgt := 69) K.hx K.hb d_L_leastCost_53 (by decide) (fun c_53 => ?_) (fun c_53 => ?_)
      · refine lv_iinc (v := nI (g + 1)) (lv' := [(5, .int (nI (g + 1))), (6, .int (fbZ v n g gc)), (0, .ref (ad 38)), (1, .int (nI n)), (3, .ref (ad (33 + n))), (4, .int (ppL (lcF gc pc rc f) gc v n lim g))]) K.hx K.hb d_L_leastCost_69 hl (k := 5) rfl (nI_1 _) (by decide) rfl (fun ls hl => ?_)
        refine lv_goto (tgt := 29) K.hx K.hb d_L_leastCost_72 (by decide) ?_
        exact ih (g + 1) hlt2 (by omega) H l1 ls hP hS (by rw [show ppL (lcF gc pc rc f) gc v n lim (g + 1) = ppL (lcF gc pc rc f) gc v n lim g from if_pos c_53]; exact lv_sub hl [2, 3, 4, 5, 0] rfl)
      · refine lv_aload_n K.hx K.hb d_L_leastCost_56 rfl (lv_at hl 1 rfl) ?_
        refine lv_iload_n K.hx K.hb d_L_leastCost_57 rfl (lv_at hl 2 rfl) ?_
        refine lv_iload K.hx K.hb d_L_leastCost_58 (lv_at hl 5 rfl) ?_
        refine lv_iload K.hx K.hb d_L_leastCost_60 (lv_at hl 0 rfl) ?_
        refine lv_iload K.hx K.hb d_L_leastCost_62 (lv_at hl 4 rfl) ?_
        refine cc_V K hP hS (c_L_costBy l D cs ad _ _ hLC hPI hn (by omega) hg9 (fbZ v n g gc) (ppL (lcF gc pc rc f) gc v n lim g)) kw_287 xm_L_costBy kw_284 kw_286 kw_5 (g_recv K.1.2.1 hP (38) (by decide) rfl rfl) rfl hl.1 d_L_leastCost_64 (rm_fr (by omega)) (rm_lo (Nat.le_of_ble_eq_true rfl) (by decide) (by omega)) ⟨(Nat.le_of_ble_eq_true rfl), (Nat.le_of_ble_eq_true rfl)⟩ (fun r v1 sd1 H l1 hp hP hS => ?_)
        obtain ⟨rfl, rfl, rfl⟩ := hp
        refine lv_istore (lv' := [(4, .int (cbG (lcF gc pc rc f) v n g (fbZ v n g gc) (ppL (lcF gc pc rc f) gc v n lim g))), (6, .int (fbZ v n g gc)), (0, .ref (ad 38)), (1, .int (nI n)), (3, .ref (ad (33 + n))), (5, .int (nI g))]) K.hx K.hb d_L_leastCost_67 hl (by decide) rfl (fun ls hl => ?_)
        refine lv_iinc (v := nI (g + 1)) (lv' := [(5, .int (nI (g + 1))), (4, .int (cbG (lcF gc pc rc f) v n g (fbZ v n g gc) (ppL (lcF gc pc rc f) gc v n lim g))), (6, .int (fbZ v n g gc)), (0, .ref (ad 38)), (1, .int (nI n)), (3, .ref (ad (33 + n)))]) K.hx K.hb d_L_leastCost_69 hl (k := 5) rfl (nI_1 _) (by decide) rfl (fun ls hl => ?_)
        refine lv_goto (tgt := 29) K.hx K.hb d_L_leastCost_72 (by decide) ?_
        exact ih (g + 1) hlt2 (by omega) H l1 ls hP hS (by rw [show ppL (lcF gc pc rc f) gc v n lim (g + 1) = cbG (lcF gc pc rc f) v n g (fbZ v n g gc) (ppL (lcF gc pc rc f) gc v n lim g) from if_neg c_53]; exact lv_sub hl [3, 4, 5, 1, 0] rfl)
set_option maxHeartbeats 4000000 in
set_option maxRecDepth 100000 in
theorem c_leastCost_succ {l : Launch} {D : va_G} {cs : Nat → ClassId} {ad : Nat → Nat} {sd : Int64} {gc pc rc f : Nat} (hLC : LCok l D cs ad sd gc pc rc f) : LCok l D cs ad sd gc pc rc (f + 1) := by
  intro v n lim hPI hnr hf
  have hp4 := hPI.2.2.2.1
  have hr5 := hPI.2.2.2.2.2.1
  refine cw_enter (own := "WearHours$Planner") rfl (Nat.le_of_ble_eq_true rfl) ?_
  intro p e s m below meth c ls K hS hP hl
  have hl : lv_has ls 7 [(0, .ref (ad 38)), (1, .int (nI n)), (2, .int lim)] := hl
  refine lv_iload_n K.hx K.hb d_L_leastCost_0 rfl (lv_at hl 1 rfl) ?_
  refine lv_aload_n K.hx K.hb d_L_leastCost_1 rfl (lv_at hl 0 rfl) ?_
  refine g_get K.1 hP (38) (by decide) rfl rfl i_L 0 (by decide) rfl (Or.inl kw_197) rfl d_L_leastCost_2 ?_
  refine g_get K.1 hP (19) (by decide) rfl rfl i_K 5 (by decide) rfl (Or.inr nw_166) rfl d_L_leastCost_5 ?_
  refine lv_icmp_lt (tgt := 13) K.hx K.hb d_L_leastCost_8 (by decide) (fun c_8 => ?_) (fun c_8 => ?_)
  · have hn : n < rc := (nI_ltI (by omega) (by omega)).mp (by rw [← hPI.2.2.2.2.1]; exact c_8)
    have hn5 : n < 5 := by omega
    have hn1 : n + 1 < 6 := by omega
    refine lv_aload_n K.hx K.hb d_L_leastCost_13 rfl (lv_at hl 0 rfl) ?_
    refine g_get K.1 hP (38) (by decide) rfl rfl i_L 0 (by decide) rfl (Or.inl kw_197) rfl d_L_leastCost_14 ?_
    refine g_get K.1 hP (19) (by decide) rfl rfl i_K 4 (by decide) rfl (Or.inr nw_164) rfl d_L_leastCost_17 ?_
    refine lv_iload_n K.hx K.hb d_L_leastCost_20 rfl (lv_at hl 1 rfl) ?_
    refine g_aald K.1 hP (32) (by decide) rfl 6 rfl (n) rfl (by have := hn5; omega) (by decide) rfl d_L_leastCost_21 ?_
    refine lv_astore_n (lv' := [(3, .ref (ad (33 + n))), (0, .ref (ad 38)), (1, .int (nI n)), (2, .int lim)]) K.hx K.hb d_L_leastCost_22 rfl hl (by decide) rfl (fun ls hl => ?_)
    refine lv_iload_n K.hx K.hb d_L_leastCost_23 rfl (lv_at hl 3 rfl) ?_
    refine lv_istore (lv' := [(4, .int lim), (3, .ref (ad (33 + n))), (0, .ref (ad 38)), (1, .int (nI n)), (2, .int lim)]) K.hx K.hb d_L_leastCost_24 hl (by decide) rfl (fun ls hl => ?_)
    refine lv_iconst (v := 0) K.hx K.hb d_L_leastCost_26 (by decide) ?_
    refine lv_istore (lv' := [(5, .int 0), (4, .int lim), (3, .ref (ad (33 + n))), (0, .ref (ad 38)), (1, .int (nI n)), (2, .int lim)]) K.hx K.hb d_L_leastCost_27 hl (by decide) rfl (fun ls hl => ?_)
    refine lp_lc K hLC hPI hn (by omega) (fun H l1 ls hP hS hl => ?_) (pc + 1) 0 (by omega) (by omega) _ _ ls hP hS (lv_sub hl [3, 4, 2, 1, 0] rfl)
    refine lv_aload_n K.hx K.hb d_L_leastCost_75 rfl (lv_at hl 0 rfl) ?_
    refine g_get K.1 hP (38) (by decide) rfl rfl i_L 0 (by decide) rfl (Or.inl kw_197) rfl d_L_leastCost_76 ?_
    refine lv_aload_n K.hx K.hb d_L_leastCost_79 rfl (lv_at hl 2 rfl) ?_
    refine cc_V K hP hS (c_K_costUnplaced l D cs ad _ _ hn5) kw_264 xm_K_costUnplaced kw_261 kw_262 kw_263 (g_recv K.1.2.1 hP (19) (by decide) rfl rfl) rfl hl.1 d_L_leastCost_80 (rm_fr (by omega)) (rm_lo (Nat.le_of_ble_eq_true rfl) (by decide) (by omega)) ⟨(Nat.le_of_ble_eq_true rfl), (Nat.le_of_ble_eq_true rfl)⟩ (fun r v1 sd1 H l1 hp hP hS => ?_)
    obtain ⟨rfl, rfl, rfl⟩ := hp
    refine lv_istore (lv' := [(5, .int (v (33 + n) 3 * 168 + v 19 7)), (0, .ref (ad 38)), (1, .int (nI n)), (3, .ref (ad (33 + n))), (4, .int (ppL (lcF gc pc rc f) gc v n lim pc))]) K.hx K.hb d_L_leastCost_83 hl (by decide) rfl (fun ls hl => ?_)
    refine lv_iload K.hx K.hb d_L_leastCost_85 (lv_at hl 0 rfl) ?_
    refine lv_aload_n K.hx K.hb d_L_leastCost_87 rfl (lv_at hl 1 rfl) ?_
    refine g_get K.1 hP (38) (by decide) rfl rfl i_L 3 (by decide) rfl (Or.inl kw_200) rfl d_L_leastCost_88 ?_
    refine lv_iload_n K.hx K.hb d_L_leastCost_91 rfl (lv_at hl 2 rfl) ?_
    refine lv_iconst (v := 1) K.hx K.hb d_L_leastCost_92 (by decide) ?_
    refine lv_iadd K.hx K.hb d_L_leastCost_93 ?_
    refine lv_topE (y := nI (n + 1)) (nI_1 _) ?_
    refine g_iald K.1 hP (41) (by decide) rfl 0 rfl (n + 1) rfl (by have := hn1; omega) (by decide) d_L_leastCost_94 ?_
    refine lv_iadd K.hx K.hb d_L_leastCost_95 ?_
    refine lv_iload K.hx K.hb d_L_leastCost_96 (lv_at hl 4 rfl) ?_
    refine lv_icmp_ge (tgt := 118) K.hx K.hb d_L_leastCost_98 (by decide) (fun c_98 => ?_) (fun c_98 => ?_)
    · refine lv_iload K.hx K.hb d_L_leastCost_118 (lv_at hl 4 rfl) ?_
      exact ce_i K hP hS ⟨by rw [show lcF gc pc rc (f + 1) v n lim = ppL (lcF gc pc rc f) gc v n lim pc from (if_pos hn).trans (if_neg (Int32.not_lt.mpr c_98))], rfl, rfl⟩ (Nat.le_of_ble_eq_true rfl) (Nat.le_of_ble_eq_true rfl) d_L_leastCost_120
    · refine lv_iload K.hx K.hb d_L_leastCost_101 (lv_at hl 0 rfl) ?_
      refine lv_aload_n K.hx K.hb d_L_leastCost_103 rfl (lv_at hl 1 rfl) ?_
      refine lv_iload_n K.hx K.hb d_L_leastCost_104 rfl (lv_at hl 2 rfl) ?_
      refine lv_iconst (v := 1) K.hx K.hb d_L_leastCost_105 (by decide) ?_
      refine lv_iadd K.hx K.hb d_L_leastCost_106 ?_
      refine lv_topE (y := nI (n + 1)) (nI_1 _) ?_
      refine lv_iload K.hx K.hb d_L_leastCost_107 (lv_at hl 4 rfl) ?_
      refine lv_iload K.hx K.hb d_L_leastCost_109 (lv_at hl 0 rfl) ?_
      refine lv_isub K.hx K.hb d_L_leastCost_111 ?_
      refine cc_V K hP hS (hLC _ (n + 1) ((ppL (lcF gc pc rc f) gc v n lim pc) - (v (33 + n) 3 * 168 + v 19 7)) hPI (by omega) (by omega)) kw_283 xm_L_leastCost kw_280 kw_282 kw_4 (g_recv K.1.2.1 hP (38) (by decide) rfl rfl) rfl hl.1 d_L_leastCost_112 (rm_fr (by omega)) (rm_lo (Nat.le_of_ble_eq_true rfl) (by decide) (by omega)) ⟨(Nat.le_of_ble_eq_true rfl), (Nat.le_of_ble_eq_true rfl)⟩ (fun r v1 sd1 H l1 hp hP hS => ?_)
      obtain ⟨rfl, rfl, rfl⟩ := hp
      refine lv_iadd K.hx K.hb d_L_leastCost_115 ?_
      refine lv_istore (lv' := [(4, .int ((v (33 + n) 3 * 168 + v 19 7) + (lcF gc pc rc f v (n + 1) ((ppL (lcF gc pc rc f) gc v n lim pc) - (v (33 + n) 3 * 168 + v 19 7))))), (5, .int (v (33 + n) 3 * 168 + v 19 7)), (0, .ref (ad 38)), (1, .int (nI n)), (3, .ref (ad (33 + n)))]) K.hx K.hb d_L_leastCost_116 hl (by decide) rfl (fun ls hl => ?_)
      refine lv_iload K.hx K.hb d_L_leastCost_118 (lv_at hl 0 rfl) ?_
      exact ce_i K hP hS ⟨by rw [show lcF gc pc rc (f + 1) v n lim = (v (33 + n) 3 * 168 + v 19 7) + (lcF gc pc rc f v (n + 1) ((ppL (lcF gc pc rc f) gc v n lim pc) - (v (33 + n) 3 * 168 + v 19 7))) from (if_pos hn).trans (if_pos (Int32.not_le.mp c_98))], rfl, rfl⟩ (Nat.le_of_ble_eq_true rfl) (Nat.le_of_ble_eq_true rfl) d_L_leastCost_120
  · refine lv_iconst (v := 0) K.hx K.hb d_L_leastCost_11 (by decide) ?_
    exact ce_i K hP hS ⟨by rw [show lcF gc pc rc (f + 1) v n lim = 0 from if_neg (fun h => c_8 (by rw [hPI.2.2.2.2.1]; exact nI_lt h (by omega)))], rfl, rfl⟩ (Nat.le_of_ble_eq_true rfl) (Nat.le_of_ble_eq_true rfl) d_L_leastCost_12
theorem c_leastCost (l : Launch) (D : va_G) (cs : Nat → ClassId) (ad : Nat → Nat) (sd : Int64) (gc pc rc : Nat) : ∀ f, LCok l D cs ad sd gc pc rc f
  | 0 => fun _ _ _ _ h1 h2 => absurd h2 (by omega)
  | f + 1 => c_leastCost_succ (c_leastCost l D cs ad sd gc pc rc f)
end
section
/-! sumFloors -/
theorem begZ_of {v u : Nat → Nat → Int32} {i g p : Nat} (h1 : u (28 + p) = v (28 + p)) (h2 : u (33 + i) = v (33 + i)) (h3 : u (21 + g) = v (21 + g)) (h4 : u 39 = v 39) (h5 : u 40 = v 40) : begZ u i g p = begZ v i g p := by
  unfold begZ begH th
  rw [h1, h2, h3, h4, h5]
theorem fbL_of {v u : Nat → Nat → Int32} {i p : Nat} (h1 : u (28 + p) = v (28 + p)) (h2 : u (33 + i) = v (33 + i)) (h3 : ∀ g, g < 6 → u (21 + g) = v (21 + g)) (h4 : u 39 = v 39) (h5 : u 40 = v 40) : ∀ g, g ≤ 6 → fbL u i p g = fbL v i p g
  | 0, _ => rfl
  | g + 1, h => by
    show fbS (fbL u i p g) (begZ u i g p) = fbS (fbL v i p g) (begZ v i g p)
    rw [fbL_of h1 h2 h3 h4 h5 g (by omega), begZ_of h1 h2 (h3 g (by omega)) h4 h5]
theorem fbZ_of {v u : Nat → Nat → Int32} {i p gc : Nat} (hg : gc ≤ 6) (h1 : u (28 + p) = v (28 + p)) (h2 : u (33 + i) = v (33 + i)) (h3 : ∀ g, g < 6 → u (21 + g) = v (21 + g)) (h4 : u 39 = v 39) (h5 : u 40 = v 40) : fbZ u i p gc = fbZ v i p gc := by
  unfold fbZ
  rw [h1, h2, fbL_of h1 h2 h3 h4 h5 gc hg]
theorem flL_of {v u : Nat → Nat → Int32} {i gc : Nat} (hg : gc ≤ 6) (h0 : u 19 = v 19) (h1 : ∀ p, p < 4 → u (28 + p) = v (28 + p)) (h2 : u (33 + i) = v (33 + i)) (h3 : ∀ g, g < 6 → u (21 + g) = v (21 + g)) (h4 : u 39 = v 39) (h5 : u 40 = v 40) : ∀ p, p ≤ 4 → flL u i gc p = flL v i gc p
  | 0, _ => by show cuZ u i = cuZ v i; unfold cuZ; rw [h0, h2]
  | p + 1, h => by
    show flS u i gc (flL u i gc p) p = flS v i gc (flL v i gc p) p
    rw [flL_of hg h0 h1 h2 h3 h4 h5 p (by omega)]
    unfold flS
    rw [fbZ_of hg (h1 p (by omega)) h2 h3 h4 h5, h2]
def FLs (v : Nat → Nat → Int32) (gc pc rc : Nat) : Nat → Int32
  | 0 => 0
  | k + 1 => FLs v gc pc rc k + flL v (rc - (k + 1)) gc pc
/-- the floors from j on are there -/
def flo (v : Nat → Nat → Int32) (gc pc rc j : Nat) : Nat → Nat → Int32 := fun a b => if a = 41 ∧ j ≤ b ∧ b ≤ rc then FLs v gc pc rc (rc - b) else v a b
theorem flo_row {v : Nat → Nat → Int32} {gc pc rc j a : Nat} (h : a ≠ 41) : flo v gc pc rc j a = v a := by
  funext b
  simp [flo, h]
theorem flo_top (v : Nat → Nat → Int32) (gc pc rc : Nat) : u2 v 41 rc 0 = flo v gc pc rc rc := by
  funext a b
  simp only [u2_at, flo]
  by_cases h : a = 41 ∧ b = rc
  · rw [if_pos h, if_pos ⟨h.1, by omega, by omega⟩, h.2, Nat.sub_self]
    rfl
  · rw [if_neg h, if_neg (fun q => h ⟨q.1, by omega⟩)]
theorem flo_step {v : Nat → Nat → Int32} {gc pc rc i : Nat} (hg : gc ≤ 6) (hp : pc ≤ 4) (hi : i < rc) (hr : rc ≤ 5) : u2 (flo v gc pc rc (i + 1)) 41 i (flo v gc pc rc (i + 1) 41 (i + 1) + flL (flo v gc pc rc (i + 1)) i gc pc) = flo v gc pc rc i := by
  have e1 : flL (flo v gc pc rc (i + 1)) i gc pc = flL v i gc pc := flL_of hg (flo_row (by omega)) (fun p hp => flo_row (by omega)) (flo_row (by omega)) (fun g hg => flo_row (by omega)) (flo_row (by omega)) (flo_row (by omega)) pc hp
  have e2 : flo v gc pc rc (i + 1) 41 (i + 1) = FLs v gc pc rc (rc - (i + 1)) := if_pos ⟨rfl, by omega, by omega⟩
  rw [e1, e2]
  funext a b
  simp only [u2_at]
  by_cases h : a = 41 ∧ b = i
  · rw [if_pos h]
    show _ = if a = 41 ∧ i ≤ b ∧ b ≤ rc then _ else _
    rw [if_pos ⟨h.1, by omega, by omega⟩, h.2]
    obtain ⟨k, hk⟩ : ∃ k, rc - i = k + 1 := ⟨rc - i - 1, by omega⟩
    rw [hk, show rc - (i + 1) = k by omega]
    show _ = FLs v gc pc rc k + flL v (rc - (k + 1)) gc pc
    rw [show rc - (k + 1) = i by omega]
  · rw [if_neg h]
    show (if a = 41 ∧ i + 1 ≤ b ∧ b ≤ rc then _ else _) = if a = 41 ∧ i ≤ b ∧ b ≤ rc then _ else _
    by_cases h2 : a = 41 ∧ i + 1 ≤ b ∧ b ≤ rc
    · rw [if_pos h2, if_pos ⟨h2.1, by omega, h2.2.2⟩]
    · rw [if_neg h2, if_neg (fun q => h2 ⟨q.1, by have := fun z => h ⟨q.1, z⟩; omega, q.2.2⟩)]
theorem PI_flo {gc pc rc : Nat} {v : Nat → Nat → Int32} (h : PI gc pc rc v) (j : Nat) : PI gc pc rc (flo v gc pc rc j) := PI_of h (flo_row (by omega)) (fun i hi => flo_row (by omega))
theorem dec1 (x : Int32) : x - 1 = x + (-1) := by rw [Int32.sub_eq_add_neg]
set_option maxHeartbeats 4000000 in
set_option maxRecDepth 100000 in
theorem lp_sf {p : Program} {l : Launch} {e : Env} {s : State} {m : MethodId} {args : Array Value} {below : List Frame} {meth : Method} {c : Code} {Q : State → Prop} {D : va_G} {cs : Nat → ClassId} {ad : Nat → Nat} {v : Nat → Nat → Int32} {sd : Int64} (K : Cx p l m meth c b_L_sumFloors 6 none s args "WearHours$Planner" D cs ad) {gc pc rc : Nat} (hPI : PI gc pc rc v) {i : Nat} (hi : i < rc) 
    (kx : ∀  (H : Heap) (l1 : List Loc) (ls : Array Slot), va_P D classes (wv 42 ad (fun k => eC cs ad sd k (v k))) H → va_S (aA 42 ad s.heap.size) s.heap H l1 → lv_has ls 6 [(0, .ref (ad 38)), (1, .int (nI i)), (3, .int (flL v i gc pc))] → W p l e (rmx 2 0) s m args below meth c H l1 0 0 Q (F0 m 94 ls []))
    : ∀ (n g : Nat), g ≤ pc → pc < g + n → ∀ (H : Heap) (l1 : List Loc) (ls : Array Slot), va_P D classes (wv 42 ad (fun k => eC cs ad sd k (v k))) H → va_S (aA 42 ad s.heap.size) s.heap H l1 → lv_has ls 6 [(0, .ref (ad 38)), (1, .int (nI i)), (2, .ref (ad (33 + i))), (3, .int (flL v i gc g)), (4, .int (nI g))] → W p l e (rmx 2 0) s m args below meth c H l1 0 0 Q (F0 m 49 ls []) := by
  intro n
  induction n with
  | zero =>
    intro g  h1 h2
    omega
  | succ n ih =>
    intro g  hle hlt H l1 ls hP hS hl
    have hp4 := hPI.2.2.2.1
    have hr5 := hPI.2.2.2.2.2.1
    have hi5 : i < 5 := by omega
    refine lv_iload K.hx K.hb d_L_sumFloors_49 (lv_at hl 4 rfl) ?_
    refine lv_aload_n K.hx K.hb d_L_sumFloors_51 rfl (lv_at hl 0 rfl) ?_
    refine g_get K.1 hP (38) (by decide) rfl rfl i_L 0 (by decide) rfl (Or.inl kw_197) rfl d_L_sumFloors_52 ?_
    refine g_get K.1 hP (19) (by decide) rfl rfl i_K 3 (by decide) rfl (Or.inr nw_161) rfl d_L_sumFloors_55 ?_
    refine lv_icmp_ge (tgt := 94) K.hx K.hb d_L_sumFloors_58 (by decide) (fun c_58 => ?_) (fun c_58 => ?_)
    · have hge : g = pc := Nat.le_antisymm hle ((nI_leI (by omega) (by omega)).mp (by rw [← hPI.2.2.1]; exact c_58))
      subst hge
      exact kx H l1 ls hP hS (lv_sub hl [0, 1, 3] rfl)
    · have hlt2 : g < pc := Nat.lt_of_not_le (fun h => c_58 (by rw [hPI.2.2.1]; exact nI_le h (by omega)))
      have hg9 : g < 4 := by omega
      refine lv_aload_n K.hx K.hb d_L_sumFloors_61 rfl (lv_at hl 0 rfl) ?_
      refine lv_aload_n K.hx K.hb d_L_sumFloors_62 rfl (lv_at hl 2 rfl) ?_
      refine lv_iload K.hx K.hb d_L_sumFloors_63 (lv_at hl 4 rfl) ?_
      refine cc_V K hP hS (c_L_firstBeginning l D cs ad _ _ hPI hi hg9) kw_268 xm_L_firstBeginning kw_265 kw_267 kw_2 (g_recv K.1.2.1 hP (38) (by decide) rfl rfl) rfl hl.1 d_L_sumFloors_65 (Nat.le_of_ble_eq_true rfl) (Nat.le_of_ble_eq_true rfl) ⟨(Nat.le_of_ble_eq_true rfl), (Nat.le_of_ble_eq_true rfl)⟩ (fun r v1 sd1 H l1 hp hP hS => ?_)
      obtain ⟨rfl, rfl, rfl⟩ := hp
      refine lv_istore (lv' := [(5, .int (fbZ v i g gc)), (0, .ref (ad 38)), (1, .int (nI i)), (2, .ref (ad (33 + i))), (3, .int (flL v i gc g)), (4, .int (nI g))]) K.hx K.hb d_L_sumFloors_68 hl (by decide) rfl (fun ls hl => ?_)
      refine lv_iload K.hx K.hb d_L_sumFloors_70 (lv_at hl 0 rfl) ?_
      refine lv_iconst (v := (-1)) K.hx K.hb d_L_sumFloors_72 (by decide) ?_
      refine lv_icmp_eq (tgt := 88) K.hx K.hb d_L_sumFloors_73 (by decide) (fun c_73 => ?_) (fun c_73 => ?_)
      · refine lv_iinc (v := nI (g + 1)) (lv' := [(4, .int (nI (g + 1))), (5, .int (fbZ v i g gc)), (0, .ref (ad 38)), (1, .int (nI i)), (2, .ref (ad (33 + i))), (3, .int (flL v i gc g))]) K.hx K.hb d_L_sumFloors_88 hl (k := 5) rfl (nI_1 _) (by decide) rfl (fun ls hl => ?_)
        refine lv_goto (tgt := 49) K.hx K.hb d_L_sumFloors_91 (by decide) ?_
        exact ih (g + 1) hlt2 (by omega) H l1 ls hP hS (by rw [show flL v i gc (g + 1) = flL v i gc g from if_pos c_73]; exact lv_sub hl [2, 3, 4, 5, 0] rfl)
      · refine lv_iload_n K.hx K.hb d_L_sumFloors_76 rfl (lv_at hl 4 rfl) ?_
        refine lv_aload_n K.hx K.hb d_L_sumFloors_77 rfl (lv_at hl 3 rfl) ?_
        refine g_get K.1 hP (33 + i) (by have := hi5; omega) (eR hi5) rfl i_R 3 (by decide) rfl (Or.inr nw_131) rfl d_L_sumFloors_78 ?_
        refine lv_iload K.hx K.hb d_L_sumFloors_81 (lv_at hl 0 rfl) ?_
        refine lv_imul K.hx K.hb d_L_sumFloors_83 ?_
        refine va_mmin K.hx K.hb (K.1.1.2.2.1.trans hl.1.symm) K.1.1.2.2.2.1 (K.1.1.2.2.2.2 _ kw_276) (K.1.1.2.2.2.2 _ kw_277) (K.1.1.2.2.2.2 _ kw_37) (K.1.1.2.2.2.2 _ kw_278) (Nat.le_of_ble_eq_true rfl) (Nat.le_of_ble_eq_true rfl) (Nat.le_of_ble_eq_true rfl) (Nat.le_of_ble_eq_true rfl) d_L_sumFloors_84 ?_
        refine lv_istore_n (lv' := [(3, .int (if (v (33 + i) 3) * (fbZ v i g gc) < flL v i gc g then (v (33 + i) 3) * (fbZ v i g gc) else flL v i gc g)), (5, .int (fbZ v i g gc)), (0, .ref (ad 38)), (1, .int (nI i)), (2, .ref (ad (33 + i))), (4, .int (nI g))]) K.hx K.hb d_L_sumFloors_87 rfl hl (by decide) rfl (fun ls hl => ?_)
        refine lv_iinc (v := nI (g + 1)) (lv' := [(4, .int (nI (g + 1))), (3, .int (if (v (33 + i) 3) * (fbZ v i g gc) < flL v i gc g then (v (33 + i) 3) * (fbZ v i g gc) else flL v i gc g)), (5, .int (fbZ v i g gc)), (0, .ref (ad 38)), (1, .int (nI i)), (2, .ref (ad (33 + i)))]) K.hx K.hb d_L_sumFloors_88 hl (k := 5) rfl (nI_1 _) (by decide) rfl (fun ls hl => ?_)
        refine lv_goto (tgt := 49) K.hx K.hb d_L_sumFloors_91 (by decide) ?_
        exact ih (g + 1) hlt2 (by omega) H l1 ls hP hS (by rw [show flL v i gc (g + 1) = if (v (33 + i) 3) * (fbZ v i g gc) < flL v i gc g then (v (33 + i) 3) * (fbZ v i g gc) else flL v i gc g from if_neg c_73]; exact lv_sub hl [3, 4, 5, 1, 0] rfl)
set_option maxHeartbeats 4000000 in
set_option maxRecDepth 100000 in
theorem lp_so {p : Program} {l : Launch} {e : Env} {s : State} {m : MethodId} {args : Array Value} {below : List Frame} {meth : Method} {c : Code} {Q : State → Prop} {D : va_G} {cs : Nat → ClassId} {ad : Nat → Nat} {v : Nat → Nat → Int32} {sd : Int64} (K : Cx p l m meth c b_L_sumFloors 6 none s args "WearHours$Planner" D cs ad) {gc pc rc : Nat} (hPI : PI gc pc rc v)
    (kx : ∀ (H : Heap) (l1 : List Loc) (ls : Array Slot), va_P D classes (wv 42 ad (fun k => eC cs ad sd k ((flo v gc pc rc 0) k))) H → va_S (aA 42 ad s.heap.size) s.heap H l1 → lv_has ls 6 [] → W p l e (rmx 2 0) s m args below meth c H l1 0 0 Q (F0 m 116 ls []))
    : ∀ (j : Nat), j ≤ rc → ∀ (H : Heap) (l1 : List Loc) (ls : Array Slot), va_P D classes (wv 42 ad (fun k => eC cs ad sd k ((flo v gc pc rc j) k))) H → va_S (aA 42 ad s.heap.size) s.heap H l1 → lv_has ls 6 [(0, .ref (ad 38)), (1, .int (nI j + (-1)))] → W p l e (rmx 2 0) s m args below meth c H l1 0 0 Q (F0 m 23 ls []) := by
  have hg6 := hPI.2.1
  have hp4 := hPI.2.2.2.1
  have hr5 := hPI.2.2.2.2.2.1
  intro j
  induction j with
  | zero =>
    intro hj H l1 ls hP hS hl
    refine lv_iload_n K.hx K.hb d_L_sumFloors_23 rfl (lv_at hl 1 rfl) ?_
    refine lv_if_lt (tgt := 116) K.hx K.hb d_L_sumFloors_24 (by decide) (fun _ => ?_) (fun c_24 => absurd (by decide) c_24)
    exact kx H l1 ls hP hS (lv_sub hl [] rfl)
  | succ i ih =>
    intro hj H l1 ls hP hS hl
    have hi : i < rc := by omega
    have hi5 : i < 5 := by omega
    have hi6 : i < 6 := by omega
    have hi1 : i + 1 < 6 := by omega
    have hl : lv_has ls 6 [(0, .ref (ad 38)), (1, .int (nI i))] := by rw [← pk_m1 i]; exact hl
    refine lv_iload_n K.hx K.hb d_L_sumFloors_23 rfl (lv_at hl 1 rfl) ?_
    refine lv_if_lt (tgt := 116) K.hx K.hb d_L_sumFloors_24 (by decide) (fun c_24 => (absurd c_24 (nI_pos (by omega)))) (fun c_24 => ?_)
    refine lv_aload_n K.hx K.hb d_L_sumFloors_27 rfl (lv_at hl 0 rfl) ?_
    refine g_get K.1 hP (38) (by decide) rfl rfl i_L 0 (by decide) rfl (Or.inl kw_197) rfl d_L_sumFloors_28 ?_
    refine g_get K.1 hP (19) (by decide) rfl rfl i_K 4 (by decide) rfl (Or.inr nw_164) rfl d_L_sumFloors_31 ?_
    refine lv_iload_n K.hx K.hb d_L_sumFloors_34 rfl (lv_at hl 1 rfl) ?_
    refine g_aald K.1 hP (32) (by decide) rfl 6 rfl (i) rfl (by have := hi5; omega) (by decide) rfl d_L_sumFloors_35 ?_
    refine lv_astore_n (lv' := [(2, .ref (ad (33 + i))), (0, .ref (ad 38)), (1, .int (nI i))]) K.hx K.hb d_L_sumFloors_36 rfl hl (by decide) rfl (fun ls hl => ?_)
    refine lv_aload_n K.hx K.hb d_L_sumFloors_37 rfl (lv_at hl 1 rfl) ?_
    refine g_get K.1 hP (38) (by decide) rfl rfl i_L 0 (by decide) rfl (Or.inl kw_197) rfl d_L_sumFloors_38 ?_
    refine lv_aload_n K.hx K.hb d_L_sumFloors_41 rfl (lv_at hl 0 rfl) ?_
    refine cc_V K hP hS (c_K_costUnplaced l D cs ad _ _ hi5) kw_264 xm_K_costUnplaced kw_261 kw_262 kw_263 (g_recv K.1.2.1 hP (19) (by decide) rfl rfl) rfl hl.1 d_L_sumFloors_42 (Nat.le_of_ble_eq_true rfl) (Nat.le_of_ble_eq_true rfl) ⟨(Nat.le_of_ble_eq_true rfl), (Nat.le_of_ble_eq_true rfl)⟩ (fun r v1 sd1 H l1 hp hP hS => ?_)
    obtain ⟨rfl, rfl, rfl⟩ := hp
    refine lv_istore_n (lv' := [(3, .int ((flo v gc pc rc (i + 1)) (33 + i) 3 * 168 + (flo v gc pc rc (i + 1)) 19 7)), (2, .ref (ad (33 + i))), (0, .ref (ad 38)), (1, .int (nI i))]) K.hx K.hb d_L_sumFloors_45 rfl hl (by decide) rfl (fun ls hl => ?_)
    refine lv_iconst (v := 0) K.hx K.hb d_L_sumFloors_46 (by decide) ?_
    refine lv_istore (lv' := [(4, .int 0), (3, .int ((flo v gc pc rc (i + 1)) (33 + i) 3 * 168 + (flo v gc pc rc (i + 1)) 19 7)), (2, .ref (ad (33 + i))), (0, .ref (ad 38)), (1, .int (nI i))]) K.hx K.hb d_L_sumFloors_47 hl (by decide) rfl (fun ls hl => ?_)
    refine lp_sf K (PI_flo hPI (i + 1)) hi (fun H l1 ls hP hS hl => ?_) (pc + 1) 0 (by omega) (by omega) _ _ ls hP hS (lv_sub hl [3, 4, 2, 1, 0] rfl)
    refine lv_aload_n K.hx K.hb d_L_sumFloors_94 rfl (lv_at hl 0 rfl) ?_
    refine g_get K.1 hP (38) (by decide) rfl rfl i_L 3 (by decide) rfl (Or.inl kw_200) rfl d_L_sumFloors_95 ?_
    refine lv_iload_n K.hx K.hb d_L_sumFloors_98 rfl (lv_at hl 1 rfl) ?_
    refine lv_aload_n K.hx K.hb d_L_sumFloors_99 rfl (lv_at hl 0 rfl) ?_
    refine g_get K.1 hP (38) (by decide) rfl rfl i_L 3 (by decide) rfl (Or.inl kw_200) rfl d_L_sumFloors_100 ?_
    refine lv_iload_n K.hx K.hb d_L_sumFloors_103 rfl (lv_at hl 1 rfl) ?_
    refine lv_iconst (v := 1) K.hx K.hb d_L_sumFloors_104 (by decide) ?_
    refine lv_iadd K.hx K.hb d_L_sumFloors_105 ?_
    refine lv_topE (y := nI (i + 1)) (nI_1 _) ?_
    refine g_iald K.1 hP (41) (by decide) rfl 0 rfl (i + 1) rfl (by have := hi1; omega) (by decide) d_L_sumFloors_106 ?_
    refine lv_iload_n K.hx K.hb d_L_sumFloors_107 rfl (lv_at hl 2 rfl) ?_
    refine lv_iadd K.hx K.hb d_L_sumFloors_108 ?_
    refine g_iast K.1 hP hS (41) (by decide) (fun _ => rfl) 0 rfl (i) rfl (by have := hi6; omega) (by decide) d_L_sumFloors_109 (fun H l1 hP hS => ?_)
    refine lv_iinc (v := (nI i) + (-1)) (lv' := [(1, .int ((nI i) + (-1))), (0, .ref (ad 38)), (3, .int (flL (flo v gc pc rc (i + 1)) i gc pc))]) K.hx K.hb d_L_sumFloors_110 hl (k := 1) rfl rfl (by decide) rfl (fun ls hl => ?_)
    refine lv_goto (tgt := 23) K.hx K.hb d_L_sumFloors_113 (by decide) ?_
    exact ih (by omega) H l1 ls (by rw [flo_step hg6 hp4 hi hr5] at hP; exact hP) hS (lv_sub hl [1, 0] rfl)
set_option maxHeartbeats 4000000 in
set_option maxRecDepth 100000 in
theorem c_L_sumFloors (l : Launch) (D : va_G) (cs : Nat → ClassId) (ad : Nat → Nat) (v : Nat → Nat → Int32) (sd : Int64) {gc pc rc : Nat} (hPI : PI gc pc rc v)  : Cm l y_L_sumFloors b_L_sumFloors 6 none (rmx 2 0) [.ref (ad 38)] D cs ad v sd (fun r v' sd' => r = none ∧ flo v gc pc rc 0 = v' ∧ sd = sd') (fun cls => False) := by
  refine cw_enter (own := "WearHours$Planner") rfl (Nat.le_of_ble_eq_true rfl) ?_
  intro p e s m below meth c ls K hS hP hl
  have hl : lv_has ls 6 [(0, .ref (ad 38))] := hl
  have hg6 := hPI.2.1
  have hp4 := hPI.2.2.2.1
  have hr5 := hPI.2.2.2.2.2.1
  refine lv_aload_n K.hx K.hb d_L_sumFloors_0 rfl (lv_at hl 0 rfl) ?_
  refine g_get K.1 hP (38) (by decide) rfl rfl i_L 3 (by decide) rfl (Or.inl kw_200) rfl d_L_sumFloors_1 ?_
  refine lv_aload_n K.hx K.hb d_L_sumFloors_4 rfl (lv_at hl 0 rfl) ?_
  refine g_get K.1 hP (38) (by decide) rfl rfl i_L 0 (by decide) rfl (Or.inl kw_197) rfl d_L_sumFloors_5 ?_
  refine g_get K.1 hP (19) (by decide) rfl rfl i_K 5 (by decide) rfl (Or.inr nw_166) rfl d_L_sumFloors_8 ?_
  refine lv_iconst (v := 0) K.hx K.hb d_L_sumFloors_11 (by decide) ?_
  refine g_iast K.1 hP hS (41) (by decide) (fun _ => rfl) 0 rfl (rc) hPI.2.2.2.2.1 (by have := hr5; omega) (by decide) d_L_sumFloors_12 (fun H l1 hP hS => ?_)
  refine lv_aload_n K.hx K.hb d_L_sumFloors_13 rfl (lv_at hl 0 rfl) ?_
  refine g_get K.1 hP (38) (by decide) rfl rfl i_L 0 (by decide) rfl (Or.inl kw_197) rfl d_L_sumFloors_14 ?_
  refine g_get K.1 hP (19) (by decide) rfl rfl i_K 5 (by decide) rfl (Or.inr nw_166) rfl d_L_sumFloors_17 ?_
  refine lv_topE (y := (v 19 5)) (by first | (simp [u2_at, kp, occ]; done) | (simp [u2_at, kp, occ] <;> (intros; omega)) | (simp only [u2_at, kp, occ]; (repeat' split) <;> first | rfl | (exfalso; omega))) ?_
  refine lv_iconst (v := 1) K.hx K.hb d_L_sumFloors_20 (by decide) ?_
  refine lv_isub K.hx K.hb d_L_sumFloors_21 ?_
  refine lv_istore_n (lv' := [(1, .int ((v 19 5) - 1)), (0, .ref (ad 38))]) K.hx K.hb d_L_sumFloors_22 rfl hl (by decide) rfl (fun ls hl => ?_)
  refine lp_so K hPI (fun H l1 ls hP hS hl => ?_) rc (Nat.le_refl rc) _ _ ls (by rw [← flo_top]; exact hP) hS (by rw [← hPI.2.2.2.2.1, ← dec1]; exact lv_sub hl [1, 0] rfl)
  exact ce_v K hP hS ⟨rfl, rfl, rfl⟩ (Nat.le_of_ble_eq_true rfl) (Nat.le_of_ble_eq_true rfl) d_L_sumFloors_116
end
section
/-! settle, makeBest -/
/-- a way (gap g, person q) for repair n keeps the budget b -/
def okS (gc pc rc : Nat) (v : Nat → Nat → Int32) (n : Nat) (b : Int32) (g q : Nat) : Prop := ¬ begZ v n g q = -1 ∧ ¬ b < cbG (lcF gc pc rc 6) v n q (begZ v n g q) (b + 1)
/-- no way ahead of (g, q) keeps it -/
def noS (gc pc rc : Nat) (v : Nat → Nat → Int32) (n : Nat) (b : Int32) (g q : Nat) : Prop := (∀ g' q', g' < g → q' < pc → ¬ okS gc pc rc v n b g' q') ∧ ∀ q', q' < q → ¬ okS gc pc rc v n b g q'
def unp (v : Nat → Nat → Int32) (n : Nat) : Nat → Nat → Int32 := u2 (u2 (u2 v (33 + n) 4 (-1)) (33 + n) 5 (-1)) (33 + n) 6 (-1)
def plc (v : Nat → Nat → Int32) (n g q : Nat) : Nat → Nat → Int32 := u2 (u2 (u2 (occ v n q (begZ v n g q)) (33 + n) 4 (begZ v n g q)) (33 + n) 5 (nI q)) (33 + n) 6 (nI g)
/-- what settle does over the rows v (repair n not placed yet in them) -/
def stR (gc pc rc : Nat) (v : Nat → Nat → Int32) (n : Nat) (b x : Int32) (v' : Nat → Nat → Int32) : Prop :=
  (∃ g q, g < gc ∧ q < pc ∧ okS gc pc rc v n b g q ∧ noS gc pc rc v n b g q ∧ x = v (33 + n) 3 * begZ v n g q ∧ plc v n g q = v') ∨ (noS gc pc rc v n b gc 0 ∧ x = cuZ v n ∧ v = v')
theorem PI_unp {gc pc rc : Nat} {v : Nat → Nat → Int32} (h : PI gc pc rc v) (n : Nat) (hn : n < 5) : PI gc pc rc (unp v n) := by
  obtain ⟨a1, a2, a3, a4, a5, a6, a7⟩ := h
  have r19 : unp v n 19 = v 19 := by unfold unp; rw [u2_ne (by omega), u2_ne (by omega), u2_ne (by omega)]
  refine ⟨by rw [r19]; exact a1, a2, by rw [r19]; exact a3, a4, by rw [r19]; exact a5, a6, fun i hi => ?_⟩
  obtain ⟨t, ht, e⟩ := a7 i hi
  refine ⟨t, ht, ?_⟩
  rw [← e]
  simp [unp, u2_at]
theorem noS_q {gc pc rc : Nat} {v : Nat → Nat → Int32} {n : Nat} {b : Int32} {g q : Nat} (h : noS gc pc rc v n b g q) (h2 : ¬ okS gc pc rc v n b g q) : noS gc pc rc v n b g (q + 1) := by
  refine ⟨h.1, fun q' hq => ?_⟩
  by_cases e : q' = q
  · rw [e]; exact h2
  · exact h.2 q' (by omega)
theorem noS_g {gc pc rc : Nat} {v : Nat → Nat → Int32} {n : Nat} {b : Int32} {g : Nat} (h : noS gc pc rc v n b g pc) : noS gc pc rc v n b (g + 1) 0 := by
  refine ⟨fun g' q' hg hq => ?_, fun q' hq => absurd hq (by omega)⟩
  by_cases e : g' = g
  · rw [e]; exact h.2 q' hq
  · exact h.1 g' q' (by omega) hq
theorem noS_0 {gc pc rc : Nat} {v : Nat → Nat → Int32} {n : Nat} {b : Int32} : noS gc pc rc v n b 0 0 := ⟨fun _ _ h => absurd h (by omega), fun _ h => absurd h (by omega)⟩
set_option maxHeartbeats 4000000 in
set_option maxRecDepth 100000 in
theorem lp_si {p : Program} {l : Launch} {e : Env} {s : State} {m : MethodId} {args : Array Value} {below : List Frame} {meth : Method} {c : Code} {Q : State → Prop} {D : va_G} {cs : Nat → ClassId} {ad : Nat → Nat} {v : Nat → Nat → Int32} {sd : Int64} (K : Cx p l m meth c b_L_settle 7 (some .int) s args "WearHours$Planner" D cs ad) {gc pc rc : Nat} (hLC : LCok l D cs ad sd gc pc rc 6) (hPI : PI gc pc rc v) {n : Nat} (hn : n < rc) {b : Int32} {g : Nat} (hgg : g < gc) 
    (kx : ∀ (_ : noS gc pc rc v n b g pc) (H : Heap) (l1 : List Loc) (ls : Array Slot), va_P D classes (wv 42 ad (fun k => eC cs ad sd k (v k))) H → va_S (aA 42 ad s.heap.size) s.heap H l1 → lv_has ls 7 [(0, .ref (ad 38)), (1, .int (nI n)), (2, .int b), (3, .ref (ad (33 + n))), (4, .int (nI g))] → W p l e (rmx 17 0) s m args below meth c H l1 0 0 Q (F0 m 110 ls []))
    (kf : ∀ (g q : Nat) (_ : g < gc) (_ : q < pc) (_ : okS gc pc rc v n b g q) (_ : noS gc pc rc v n b g q) (H : Heap) (l1 : List Loc) (ls : Array Slot), va_P D classes (wv 42 ad (fun k => eC cs ad sd k (v k))) H → va_S (aA 42 ad s.heap.size) s.heap H l1 → lv_has ls 7 [(0, .ref (ad 38)), (3, .ref (ad (33 + n))), (4, .int (nI g)), (5, .int (nI q)), (6, .int (begZ v n g q))] → W p l e (rmx 17 0) s m args below meth c H l1 0 0 Q (F0 m 77 ls []))
    : ∀ (k q : Nat), noS gc pc rc v n b g q → q ≤ pc → pc < q + k → ∀ (H : Heap) (l1 : List Loc) (ls : Array Slot), va_P D classes (wv 42 ad (fun k => eC cs ad sd k (v k))) H → va_S (aA 42 ad s.heap.size) s.heap H l1 → lv_has ls 7 [(0, .ref (ad 38)), (1, .int (nI n)), (2, .int b), (3, .ref (ad (33 + n))), (4, .int (nI g)), (5, .int (nI q))] → W p l e (rmx 17 0) s m args below meth c H l1 0 0 Q (F0 m 32 ls []) := by
  intro k
  induction k with
  | zero =>
    intro q hno h1 h2
    omega
  | succ k ih =>
    intro q hno hle hlt H l1 ls hP hS hl
    have hp4 := hPI.2.2.2.1
    have hr5 := hPI.2.2.2.2.2.1
    have hg66 := hPI.2.1
    have hn5 : n < 5 := by omega
    have hg6 : g < 6 := by omega
    refine lv_iload K.hx K.hb d_L_settle_32 (lv_at hl 5 rfl) ?_
    refine lv_aload_n K.hx K.hb d_L_settle_34 rfl (lv_at hl 0 rfl) ?_
    refine g_get K.1 hP (38) (by decide) rfl rfl i_L 0 (by decide) rfl (Or.inl kw_197) rfl d_L_settle_35 ?_
    refine g_get K.1 hP (19) (by decide) rfl rfl i_K 3 (by decide) rfl (Or.inr nw_161) rfl d_L_settle_38 ?_
    refine lv_icmp_ge (tgt := 110) K.hx K.hb d_L_settle_41 (by decide) (fun c_41 => ?_) (fun c_41 => ?_)
    · have hge : q = pc := Nat.le_antisymm hle ((nI_leI (by omega) (by omega)).mp (by rw [← hPI.2.2.1]; exact c_41))
      subst hge
      exact kx hno H l1 ls hP hS (lv_sub hl [0, 1, 2, 3, 4] rfl)
    · have hlt2 : q < pc := Nat.lt_of_not_le (fun h => c_41 (by rw [hPI.2.2.1]; exact nI_le h (by omega)))
      have hq9 : q < 4 := by omega
      refine lv_aload_n K.hx K.hb d_L_settle_44 rfl (lv_at hl 0 rfl) ?_
      refine lv_aload_n K.hx K.hb d_L_settle_45 rfl (lv_at hl 3 rfl) ?_
      refine lv_iload K.hx K.hb d_L_settle_46 (lv_at hl 4 rfl) ?_
      refine lv_iload K.hx K.hb d_L_settle_48 (lv_at hl 5 rfl) ?_
      refine cc_V K hP hS (c_L_beginning l D cs ad _ _ hPI hn hg6 hq9) kw_272 xm_L_beginning kw_269 kw_271 kw_3 (g_recv K.1.2.1 hP (38) (by decide) rfl rfl) rfl hl.1 d_L_settle_50 (Nat.le_of_ble_eq_true rfl) (Nat.le_of_ble_eq_true rfl) ⟨(Nat.le_of_ble_eq_true rfl), (Nat.le_of_ble_eq_true rfl)⟩ (fun r v1 sd1 H l1 hp hP hS => ?_)
      obtain ⟨rfl, rfl, rfl⟩ := hp
      refine lv_istore (lv' := [(6, .int (begZ v n g q)), (0, .ref (ad 38)), (1, .int (nI n)), (2, .int b), (3, .ref (ad (33 + n))), (4, .int (nI g)), (5, .int (nI q))]) K.hx K.hb d_L_settle_53 hl (by decide) rfl (fun ls hl => ?_)
      refine lv_iload K.hx K.hb d_L_settle_55 (lv_at hl 0 rfl) ?_
      refine lv_iconst (v := (-1)) K.hx K.hb d_L_settle_57 (by decide) ?_
      refine lv_icmp_eq (tgt := 104) K.hx K.hb d_L_settle_58 (by decide) (fun c_58 => ?_) (fun c_58 => ?_)
      · refine lv_iinc (v := nI (q + 1)) (lv' := [(5, .int (nI (q + 1))), (6, .int (begZ v n g q)), (0, .ref (ad 38)), (1, .int (nI n)), (2, .int b), (3, .ref (ad (33 + n))), (4, .int (nI g))]) K.hx K.hb d_L_settle_104 hl (k := 6) rfl (nI_1 _) (by decide) rfl (fun ls hl => ?_)
        refine lv_goto (tgt := 32) K.hx K.hb d_L_settle_107 (by decide) ?_
        exact ih (q + 1) (noS_q hno (fun h => h.1 c_58)) hlt2 (by omega) H l1 ls hP hS (lv_sub hl [2, 3, 4, 5, 6, 0] rfl)
      · refine lv_aload_n K.hx K.hb d_L_settle_61 rfl (lv_at hl 1 rfl) ?_
        refine lv_iload_n K.hx K.hb d_L_settle_62 rfl (lv_at hl 2 rfl) ?_
        refine lv_iload K.hx K.hb d_L_settle_63 (lv_at hl 6 rfl) ?_
        refine lv_iload K.hx K.hb d_L_settle_65 (lv_at hl 0 rfl) ?_
        refine lv_iload_n K.hx K.hb d_L_settle_67 rfl (lv_at hl 3 rfl) ?_
        refine lv_iconst (v := 1) K.hx K.hb d_L_settle_68 (by decide) ?_
        refine lv_iadd K.hx K.hb d_L_settle_69 ?_
        refine cc_V K hP hS (c_L_costBy l D cs ad _ _ hLC hPI hn (by omega) hq9 (begZ v n g q) (b + 1)) kw_287 xm_L_costBy kw_284 kw_286 kw_5 (g_recv K.1.2.1 hP (38) (by decide) rfl rfl) rfl hl.1 d_L_settle_70 (Nat.le_of_ble_eq_true rfl) (Nat.le_of_ble_eq_true rfl) ⟨(Nat.le_of_ble_eq_true rfl), (Nat.le_of_ble_eq_true rfl)⟩ (fun r v1 sd1 H l1 hp hP hS => ?_)
        obtain ⟨rfl, rfl, rfl⟩ := hp
        refine lv_iload_n K.hx K.hb d_L_settle_73 rfl (lv_at hl 3 rfl) ?_
        refine lv_icmp_gt (tgt := 104) K.hx K.hb d_L_settle_74 (by decide) (fun c_74 => ?_) (fun c_74 => ?_)
        · refine lv_iinc (v := nI (q + 1)) (lv' := [(5, .int (nI (q + 1))), (6, .int (begZ v n g q)), (0, .ref (ad 38)), (1, .int (nI n)), (2, .int b), (3, .ref (ad (33 + n))), (4, .int (nI g))]) K.hx K.hb d_L_settle_104 hl (k := 6) rfl (nI_1 _) (by decide) rfl (fun ls hl => ?_)
          refine lv_goto (tgt := 32) K.hx K.hb d_L_settle_107 (by decide) ?_
          exact ih (q + 1) (noS_q hno (fun h => h.2 c_74)) hlt2 (by omega) H l1 ls hP hS (lv_sub hl [2, 3, 4, 5, 6, 0] rfl)
        · exact kf g q hgg hlt2 ⟨c_58, c_74⟩ hno H l1 ls hP hS (lv_sub hl [1, 4, 5, 6, 0] rfl)
set_option maxHeartbeats 4000000 in
set_option maxRecDepth 100000 in
theorem lp_st {p : Program} {l : Launch} {e : Env} {s : State} {m : MethodId} {args : Array Value} {below : List Frame} {meth : Method} {c : Code} {Q : State → Prop} {D : va_G} {cs : Nat → ClassId} {ad : Nat → Nat} {v : Nat → Nat → Int32} {sd : Int64} (K : Cx p l m meth c b_L_settle 7 (some .int) s args "WearHours$Planner" D cs ad) {gc pc rc : Nat} (hLC : LCok l D cs ad sd gc pc rc 6) (hPI : PI gc pc rc v) {n : Nat} (hn : n < rc) {b : Int32} 
    (kx : ∀ (_ : noS gc pc rc v n b gc 0) (H : Heap) (l1 : List Loc) (ls : Array Slot), va_P D classes (wv 42 ad (fun k => eC cs ad sd k (v k))) H → va_S (aA 42 ad s.heap.size) s.heap H l1 → lv_has ls 7 [(0, .ref (ad 38)), (3, .ref (ad (33 + n)))] → W p l e (rmx 17 0) s m args below meth c H l1 0 0 Q (F0 m 116 ls []))
    (kf : ∀ (g q : Nat) (_ : g < gc) (_ : q < pc) (_ : okS gc pc rc v n b g q) (_ : noS gc pc rc v n b g q) (H : Heap) (l1 : List Loc) (ls : Array Slot), va_P D classes (wv 42 ad (fun k => eC cs ad sd k (v k))) H → va_S (aA 42 ad s.heap.size) s.heap H l1 → lv_has ls 7 [(0, .ref (ad 38)), (3, .ref (ad (33 + n))), (4, .int (nI g)), (5, .int (nI q)), (6, .int (begZ v n g q))] → W p l e (rmx 17 0) s m args below meth c H l1 0 0 Q (F0 m 77 ls []))
    : ∀ (k g : Nat), noS gc pc rc v n b g 0 → g ≤ gc → gc < g + k → ∀ (H : Heap) (l1 : List Loc) (ls : Array Slot), va_P D classes (wv 42 ad (fun k => eC cs ad sd k (v k))) H → va_S (aA 42 ad s.heap.size) s.heap H l1 → lv_has ls 7 [(0, .ref (ad 38)), (1, .int (nI n)), (2, .int b), (3, .ref (ad (33 + n))), (4, .int (nI g))] → W p l e (rmx 17 0) s m args below meth c H l1 0 0 Q (F0 m 17 ls []) := by
  intro k
  induction k with
  | zero =>
    intro g hno h1 h2
    omega
  | succ k ih =>
    intro g hno hle hlt H l1 ls hP hS hl
    have hp4 := hPI.2.2.2.1
    have hr5 := hPI.2.2.2.2.2.1
    have hg66 := hPI.2.1
    have hn5 : n < 5 := by omega
    refine lv_iload K.hx K.hb d_L_settle_17 (lv_at hl 4 rfl) ?_
    refine lv_aload_n K.hx K.hb d_L_settle_19 rfl (lv_at hl 0 rfl) ?_
    refine g_get K.1 hP (38) (by decide) rfl rfl i_L 0 (by decide) rfl (Or.inl kw_197) rfl d_L_settle_20 ?_
    refine g_get K.1 hP (19) (by decide) rfl rfl i_K 1 (by decide) rfl (Or.inr nw_156) rfl d_L_settle_23 ?_
    refine lv_icmp_ge (tgt := 116) K.hx K.hb d_L_settle_26 (by decide) (fun c_26 => ?_) (fun c_26 => ?_)
    · have hge : g = gc := Nat.le_antisymm hle ((nI_leI (by omega) (by omega)).mp (by rw [← hPI.1]; exact c_26))
      subst hge
      exact kx hno H l1 ls hP hS (lv_sub hl [0, 3] rfl)
    · have hlt2 : g < gc := Nat.lt_of_not_le (fun h => c_26 (by rw [hPI.1]; exact nI_le h (by omega)))
      refine lv_iconst (v := 0) K.hx K.hb d_L_settle_29 (by decide) ?_
      refine lv_istore (lv' := [(5, .int 0), (0, .ref (ad 38)), (1, .int (nI n)), (2, .int b), (3, .ref (ad (33 + n))), (4, .int (nI g))]) K.hx K.hb d_L_settle_30 hl (by decide) rfl (fun ls hl => ?_)
      refine lp_si K hLC hPI hn hlt2 (fun hno H l1 ls hP hS hl => ?_) kf (pc + 1) 0 hno (by omega) (by omega) _ _ ls hP hS (lv_sub hl [1, 2, 3, 4, 5, 0] rfl)
      refine lv_iinc (v := nI (g + 1)) (lv' := [(4, .int (nI (g + 1))), (0, .ref (ad 38)), (1, .int (nI n)), (2, .int b), (3, .ref (ad (33 + n)))]) K.hx K.hb d_L_settle_110 hl (k := 4) rfl (nI_1 _) (by decide) rfl (fun ls hl => ?_)
      refine lv_goto (tgt := 17) K.hx K.hb d_L_settle_113 (by decide) ?_
      exact ih (g + 1) (noS_g hno) hlt2 (by omega) H l1 ls hP hS (lv_sub hl [1, 2, 3, 4, 0] rfl)
set_option maxHeartbeats 4000000 in
set_option maxRecDepth 100000 in
theorem c_L_settle (l : Launch) (D : va_G) (cs : Nat → ClassId) (ad : Nat → Nat) (v : Nat → Nat → Int32) (sd : Int64) {gc pc rc : Nat} (hPI : PI gc pc rc v) {n : Nat} (hn : n < rc) (b : Int32)  : Cm l y_L_settle b_L_settle 7 (some .int) (rmx 17 0) [.ref (ad 38), .int (nI n), .int b] D cs ad v sd (fun r v' sd' => ∃ x, r = some (.int x) ∧ stR gc pc rc (unp v n) n b x v' ∧ sd = sd') (fun cls => False) := by
  refine cw_enter (own := "WearHours$Planner") rfl (Nat.le_of_ble_eq_true rfl) ?_
  intro p e s m below meth c ls K hS hP hl
  have hl : lv_has ls 7 [(0, .ref (ad 38)), (1, .int (nI n)), (2, .int b)] := hl
  have hg6 := hPI.2.1
  have hp4 := hPI.2.2.2.1
  have hr5 := hPI.2.2.2.2.2.1
  have hn5 : n < 5 := by omega
  refine lv_aload_n K.hx K.hb d_L_settle_0 rfl (lv_at hl 0 rfl) ?_
  refine g_get K.1 hP (38) (by decide) rfl rfl i_L 0 (by decide) rfl (Or.inl kw_197) rfl d_L_settle_1 ?_
  refine g_get K.1 hP (19) (by decide) rfl rfl i_K 4 (by decide) rfl (Or.inr nw_164) rfl d_L_settle_4 ?_
  refine lv_iload_n K.hx K.hb d_L_settle_7 rfl (lv_at hl 1 rfl) ?_
  refine g_aald K.1 hP (32) (by decide) rfl 6 rfl (n) rfl (by have := hn5; omega) (by decide) rfl d_L_settle_8 ?_
  refine lv_astore_n (lv' := [(3, .ref (ad (33 + n))), (0, .ref (ad 38)), (1, .int (nI n)), (2, .int b)]) K.hx K.hb d_L_settle_9 rfl hl (by decide) rfl (fun ls hl => ?_)
  refine lv_aload_n K.hx K.hb d_L_settle_10 rfl (lv_at hl 0 rfl) ?_
  refine cc_V K hP hS (c_R_unplace l D cs ad _ _ hn5) kw_299 xm_R_unplace kw_296 kw_297 kw_298 (g_recv K.1.2.1 hP (33 + n) (by have := hn5; omega) (eR hn5) rfl) rfl hl.1 d_L_settle_11 (Nat.le_of_ble_eq_true rfl) (Nat.le_of_ble_eq_true rfl) ⟨(Nat.le_of_ble_eq_true rfl), (Nat.le_of_ble_eq_true rfl)⟩ (fun r v1 sd1 H l1 hp hP hS => ?_)
  obtain ⟨rfl, rfl, rfl⟩ := hp
  refine lv_iconst (v := 0) K.hx K.hb d_L_settle_14 (by decide) ?_
  refine lv_istore (lv' := [(4, .int 0), (3, .ref (ad (33 + n))), (0, .ref (ad 38)), (1, .int (nI n)), (2, .int b)]) K.hx K.hb d_L_settle_15 hl (by decide) rfl (fun ls hl => ?_)
  refine lp_st (v := unp v n) K (c_leastCost l D cs ad sd gc pc rc 6) (PI_unp hPI n hn5) hn (fun hno H l1 ls hP hS hl => ?_) (fun g q hg hq hok hno H l1 ls hP hS hl => ?_) (gc + 1) 0 noS_0 (by omega) (by omega) _ _ ls hP hS (lv_sub hl [2, 3, 4, 1, 0] rfl)
  · refine lv_aload_n K.hx K.hb d_L_settle_116 rfl (lv_at hl 0 rfl) ?_
    refine g_get K.1 hP (38) (by decide) rfl rfl i_L 0 (by decide) rfl (Or.inl kw_197) rfl d_L_settle_117 ?_
    refine lv_aload_n K.hx K.hb d_L_settle_120 rfl (lv_at hl 1 rfl) ?_
    refine cc_V K hP hS (c_K_costUnplaced l D cs ad _ _ hn5) kw_264 xm_K_costUnplaced kw_261 kw_262 kw_263 (g_recv K.1.2.1 hP (19) (by decide) rfl rfl) rfl hl.1 d_L_settle_121 (Nat.le_of_ble_eq_true rfl) (Nat.le_of_ble_eq_true rfl) ⟨(Nat.le_of_ble_eq_true rfl), (Nat.le_of_ble_eq_true rfl)⟩ (fun r v1 sd1 H l1 hp hP hS => ?_)
    obtain ⟨rfl, rfl, rfl⟩ := hp
    exact ce_i K hP hS ⟨_, rfl, Or.inr ⟨hno, rfl, rfl⟩, rfl⟩ (Nat.le_of_ble_eq_true rfl) (Nat.le_of_ble_eq_true rfl) d_L_settle_124
  · have hq4 : q < 4 := by omega
    refine lv_aload_n K.hx K.hb d_L_settle_77 rfl (lv_at hl 0 rfl) ?_
    refine lv_aload_n K.hx K.hb d_L_settle_78 rfl (lv_at hl 1 rfl) ?_
    refine lv_iload K.hx K.hb d_L_settle_79 (lv_at hl 3 rfl) ?_
    refine lv_iload K.hx K.hb d_L_settle_81 (lv_at hl 4 rfl) ?_
    refine cc_V K hP hS (c_L_occupy l D cs ad _ _ (PI_unp hPI n hn5) hn hq4 (begZ (unp v n) n g q)) kw_291 xm_L_occupy kw_288 kw_290 kw_6 (g_recv K.1.2.1 hP (38) (by decide) rfl rfl) rfl hl.1 d_L_settle_83 (Nat.le_of_ble_eq_true rfl) (Nat.le_of_ble_eq_true rfl) ⟨(Nat.le_of_ble_eq_true rfl), (Nat.le_of_ble_eq_true rfl)⟩ (fun r v1 sd1 H l1 hp hP hS => ?_)
    obtain ⟨rfl, rfl, rfl⟩ := hp
    refine lv_aload_n K.hx K.hb d_L_settle_86 rfl (lv_at hl 1 rfl) ?_
    refine lv_iload K.hx K.hb d_L_settle_87 (lv_at hl 4 rfl) ?_
    refine lv_iload K.hx K.hb d_L_settle_89 (lv_at hl 3 rfl) ?_
    refine lv_iload K.hx K.hb d_L_settle_91 (lv_at hl 2 rfl) ?_
    refine cc_V K hP hS (c_R_place l D cs ad _ _ hn5 (begZ (unp v n) n g q) (nI q) (nI g)) kw_303 xm_R_place kw_304 kw_301 kw_302 (g_recv K.1.2.1 hP (33 + n) (by have := hn5; omega) (eR hn5) rfl) rfl hl.1 d_L_settle_93 (Nat.le_of_ble_eq_true rfl) (Nat.le_of_ble_eq_true rfl) ⟨(Nat.le_of_ble_eq_true rfl), (Nat.le_of_ble_eq_true rfl)⟩ (fun r v1 sd1 H l1 hp hP hS => ?_)
    obtain ⟨rfl, rfl, rfl⟩ := hp
    refine lv_aload_n K.hx K.hb d_L_settle_96 rfl (lv_at hl 1 rfl) ?_
    refine g_get K.1 hP (33 + n) (by have := hn5; omega) (eR hn5) rfl i_R 3 (by decide) rfl (Or.inr nw_131) rfl d_L_settle_97 ?_
    refine lv_topE (y := (unp v n (33 + n) 3)) (by first | (simp [u2_at, kp, occ]; done) | (simp [u2_at, kp, occ] <;> (intros; omega)) | (simp only [u2_at, kp, occ]; (repeat' split) <;> first | rfl | (exfalso; omega))) ?_
    refine lv_iload K.hx K.hb d_L_settle_100 (lv_at hl 4 rfl) ?_
    refine lv_imul K.hx K.hb d_L_settle_102 ?_
    exact ce_i K hP hS ⟨_, rfl, Or.inl ⟨g, q, hg, hq, hok, hno, rfl, rfl⟩, rfl⟩ (Nat.le_of_ble_eq_true rfl) (Nat.le_of_ble_eq_true rfl) d_L_settle_103
end
section
/-! makeBest, plan, done -/
theorem ite01 {c : Prop} [Decidable c] (h : (if c then (0 : Int32) else 1) = 0) : c := by
  by_cases hc : c
  · exact hc
  · rw [if_neg hc] at h
    exact absurd h (by decide)
def bmp (v : Nat → Nat → Int32) (n : Nat) : Nat → Nat → Int32 := if v (33 + n) 4 = -1 then v else u2 v 38 6 (v 38 6 + 1)
/-- k repairs from n on are settled, one after another -/
def mbR (gc pc rc : Nat) : Nat → Nat → (Nat → Nat → Int32) → Int32 → (Nat → Nat → Int32) → Prop
  | 0 => fun _ u _ v' => u = v'
  | k + 1 => fun n u b v' => ∃ x v1, stR gc pc rc (unp u n) n b x v1 ∧ mbR gc pc rc k (n + 1) (bmp v1 n) (b - x) v'
theorem PI_st {gc pc rc : Nat} {v v' : Nat → Nat → Int32} {n : Nat} {b x : Int32} (h : PI gc pc rc v) (hn : n < 5) (hs : stR gc pc rc v n b x v') : PI gc pc rc v' := by
  rcases hs with ⟨g, q, -, -, -, -, -, rfl⟩ | ⟨-, -, rfl⟩
  · obtain ⟨a1, a2, a3, a4, a5, a6, a7⟩ := h
    have r19 : plc v n g q 19 = v 19 := by unfold plc occ; rw [u2_ne (by omega), u2_ne (by omega), u2_ne (by omega), u2_ne (by omega), u2_ne (by omega)]
    refine ⟨by rw [r19]; exact a1, a2, by rw [r19]; exact a3, a4, by rw [r19]; exact a5, a6, fun i hi => ?_⟩
    obtain ⟨t, ht, e⟩ := a7 i hi
    refine ⟨t, ht, ?_⟩
    rw [← e]
    unfold plc occ
    simp only [u2_at]
    rw [if_neg (by omega), if_neg (by omega), if_neg (by omega), if_neg (by omega), if_neg (by omega)]
  · exact h
theorem PI_bmp {gc pc rc : Nat} {v : Nat → Nat → Int32} (h : PI gc pc rc v) (n : Nat) : PI gc pc rc (bmp v n) := by
  unfold bmp
  split
  · exact h
  · exact PI_of h (u2_ne (by omega)) (fun i hi => u2_ne (by omega))
theorem PI_fre {gc pc rc : Nat} {v : Nat → Nat → Int32} (h : PI gc pc rc v) : PI gc pc rc (fre v) := by
  refine PI_of h ?_ (fun i hi => ?_)
  · unfold fre
    simp only [u2_ne (show (19 : Nat) ≠ 39 by decide), u2_ne (show (19 : Nat) ≠ 40 by decide)]
  · unfold fre
    simp only [u2_ne (show (33 + i : Nat) ≠ 39 by omega), u2_ne (show (33 + i : Nat) ≠ 40 by omega)]
/-- the rows when the search begins, and the least cost -/
def stv (gc pc rc : Nat) (v : Nat → Nat → Int32) : Nat → Nat → Int32 := flo (fre v) gc pc rc 0
def lst (gc pc rc : Nat) (v : Nat → Nat → Int32) : Int32 := lcF gc pc rc 6 (stv gc pc rc v) 0 1000000000
def stw2 (gc pc rc : Nat) (v : Nat → Nat → Int32) : Nat → Nat → Int32 := u2 (u2 (stv gc pc rc v) 38 5 (lst gc pc rc v)) 38 6 0
set_option maxHeartbeats 4000000 in
set_option maxRecDepth 100000 in
theorem lp_mb {p : Program} {l : Launch} {e : Env} {s : State} {m : MethodId} {args : Array Value} {below : List Frame} {meth : Method} {c : Code} {Q : State → Prop} {D : va_G} {cs : Nat → ClassId} {ad : Nat → Nat} {sd : Int64} (K : Cx p l m meth c b_L_makeBest 3 none s args "WearHours$Planner" D cs ad) {gc pc rc : Nat}
    : ∀ (k n : Nat), n ≤ rc → rc < n + k → ∀ (v : Nat → Nat → Int32) (b : Int32), PI gc pc rc v → (∀ v', mbR gc pc rc (rc - n) n v b v' → ∀ (H : Heap) (l1 : List Loc) (ls : Array Slot), va_P D classes (wv 42 ad (fun k => eC cs ad sd k (v' k))) H → va_S (aA 42 ad s.heap.size) s.heap H l1 → lv_has ls 3 [(0, .ref (ad 38))] → W p l e (rmx 18 0) s m args below meth c H l1 0 0 Q (F0 m 82 ls [])) → ∀ (H : Heap) (l1 : List Loc) (ls : Array Slot), va_P D classes (wv 42 ad (fun k => eC cs ad sd k (v k))) H → va_S (aA 42 ad s.heap.size) s.heap H l1 → lv_has ls 3 [(0, .ref (ad 38)), (1, .int b), (2, .int (nI n))] → W p l e (rmx 18 0) s m args below meth c H l1 0 0 Q (F0 m 31 ls []) := by
  intro k
  induction k with
  | zero =>
    intro n h1 h2
    omega
  | succ k ih =>
    intro n hle hlt v b hPI kx H l1 ls hP hS hl
    have hr5 := hPI.2.2.2.2.2.1
    refine lv_iload_n K.hx K.hb d_L_makeBest_31 rfl (lv_at hl 2 rfl) ?_
    refine lv_aload_n K.hx K.hb d_L_makeBest_32 rfl (lv_at hl 0 rfl) ?_
    refine g_get K.1 hP (38) (by decide) rfl rfl i_L 0 (by decide) rfl (Or.inl kw_197) rfl d_L_makeBest_33 ?_
    refine g_get K.1 hP (19) (by decide) rfl rfl i_K 5 (by decide) rfl (Or.inr nw_166) rfl d_L_makeBest_36 ?_
    refine lv_icmp_ge (tgt := 82) K.hx K.hb d_L_makeBest_39 (by decide) (fun c_39 => ?_) (fun c_39 => ?_)
    · have hge : n = rc := Nat.le_antisymm hle ((nI_leI (by omega) (by omega)).mp (by rw [← hPI.2.2.2.2.1]; exact c_39))
      subst hge
      exact kx v (by rw [Nat.sub_self]; exact rfl) H l1 ls hP hS (lv_sub hl [0] rfl)
    · have hn : n < rc := Nat.lt_of_not_le (fun h => c_39 (by rw [hPI.2.2.2.2.1]; exact nI_le h (by omega)))
      have hn5 : n < 5 := by omega
      refine lv_iload_n K.hx K.hb d_L_makeBest_42 rfl (lv_at hl 1 rfl) ?_
      refine lv_aload_n K.hx K.hb d_L_makeBest_43 rfl (lv_at hl 0 rfl) ?_
      refine lv_iload_n K.hx K.hb d_L_makeBest_44 rfl (lv_at hl 2 rfl) ?_
      refine lv_iload_n K.hx K.hb d_L_makeBest_45 rfl (lv_at hl 1 rfl) ?_
      refine cc_V K hP hS (c_L_settle l D cs ad _ _ hPI hn b) kw_295 xm_L_settle kw_292 kw_294 kw_7 (g_recv K.1.2.1 hP (38) (by decide) rfl rfl) rfl hl.1 d_L_makeBest_46 (Nat.le_of_ble_eq_true rfl) (Nat.le_of_ble_eq_true rfl) ⟨(Nat.le_of_ble_eq_true rfl), (Nat.le_of_ble_eq_true rfl)⟩ (fun r v1 sd1 H l1 hp hP hS => ?_)
      obtain ⟨x, rfl, hst, rfl⟩ := hp
      refine lv_isub K.hx K.hb d_L_makeBest_49 ?_
      refine lv_istore_n (lv' := [(1, .int (b - x)), (0, .ref (ad 38)), (2, .int (nI n))]) K.hx K.hb d_L_makeBest_50 rfl hl (by decide) rfl (fun ls hl => ?_)
      refine lv_aload_n K.hx K.hb d_L_makeBest_51 rfl (lv_at hl 1 rfl) ?_
      refine g_get K.1 hP (38) (by decide) rfl rfl i_L 0 (by decide) rfl (Or.inl kw_197) rfl d_L_makeBest_52 ?_
      refine g_get K.1 hP (19) (by decide) rfl rfl i_K 4 (by decide) rfl (Or.inr nw_164) rfl d_L_makeBest_55 ?_
      refine lv_iload_n K.hx K.hb d_L_makeBest_58 rfl (lv_at hl 2 rfl) ?_
      refine g_aald K.1 hP (32) (by decide) rfl 6 rfl (n) rfl (by have := hn5; omega) (by decide) rfl d_L_makeBest_59 ?_
      refine cc_V K hP hS (c_R_isPlaced l D cs ad _ _ hn5) kw_308 xm_R_isPlaced kw_305 kw_306 kw_307 (g_recv K.1.2.1 hP (33 + n) (by have := hn5; omega) (eR hn5) rfl) rfl hl.1 d_L_makeBest_60 (Nat.le_of_ble_eq_true rfl) (Nat.le_of_ble_eq_true rfl) ⟨(Nat.le_of_ble_eq_true rfl), (Nat.le_of_ble_eq_true rfl)⟩ (fun r v1 sd1 H l1 hp hP hS => ?_)
      obtain ⟨rfl, rfl, rfl⟩ := hp
      refine lv_if_eq (tgt := 76) K.hx K.hb d_L_makeBest_63 (by decide) (fun c_63 => ?_) (fun c_63 => ?_)
      · refine lv_iinc (v := nI (n + 1)) (lv' := [(2, .int (nI (n + 1))), (1, .int (b - x)), (0, .ref (ad 38))]) K.hx K.hb d_L_makeBest_76 hl (k := 2) rfl (nI_1 _) (by decide) rfl (fun ls hl => ?_)
        refine lv_goto (tgt := 31) K.hx K.hb d_L_makeBest_79 (by decide) ?_
        have hbm : bmp v1 n = v1 := if_pos (ite01 c_63)
        refine ih (n + 1) hn (by omega) _ (b - x) (by rw [← hbm]; exact PI_bmp (PI_st (PI_unp hPI n hn5) hn5 hst) n) (fun v' hv' => kx v' ?_) H l1 ls hP hS (lv_sub hl [2, 1, 0] rfl)
        rw [show rc - n = (rc - (n + 1)) + 1 by omega]
        exact ⟨x, v1, hst, by rw [hbm]; exact hv'⟩
      · refine lv_aload_n K.hx K.hb d_L_makeBest_66 rfl (lv_at hl 1 rfl) ?_
        refine lv_dup K.hx K.hb d_L_makeBest_67 rfl ?_
        refine g_get K.1 hP (38) (by decide) rfl rfl i_L 6 (by decide) rfl (Or.inl kw_205) rfl d_L_makeBest_68 ?_
        refine lv_iconst (v := 1) K.hx K.hb d_L_makeBest_71 (by decide) ?_
        refine lv_iadd K.hx K.hb d_L_makeBest_72 ?_
        refine g_puti K.1 hP hS (38) (by decide) rfl rfl i_L ft_L ft_L_ok n_L 6 (by decide) rfl (Or.inl kw_205) rfl rfl rfl (Nat.le_of_ble_eq_true rfl) rfl d_L_makeBest_73 (fun H l1 hP hS => ?_)
        refine lv_iinc (v := nI (n + 1)) (lv' := [(2, .int (nI (n + 1))), (1, .int (b - x)), (0, .ref (ad 38))]) K.hx K.hb d_L_makeBest_76 hl (k := 2) rfl (nI_1 _) (by decide) rfl (fun ls hl => ?_)
        refine lv_goto (tgt := 31) K.hx K.hb d_L_makeBest_79 (by decide) ?_
        have hbm : bmp v1 n = u2 v1 38 6 ((v1 38 6) + 1) := if_neg (fun h9 => c_63 (by rw [if_pos h9]))
        refine ih (n + 1) hn (by omega) _ (b - x) (by rw [← hbm]; exact PI_bmp (PI_st (PI_unp hPI n hn5) hn5 hst) n) (fun v' hv' => kx v' ?_) H l1 ls hP hS (lv_sub hl [2, 1, 0] rfl)
        rw [show rc - n = (rc - (n + 1)) + 1 by omega]
        exact ⟨x, v1, hst, by rw [hbm]; exact hv'⟩
set_option maxHeartbeats 4000000 in
set_option maxRecDepth 100000 in
theorem c_L_makeBest (l : Launch) (D : va_G) (cs : Nat → ClassId) (ad : Nat → Nat) (v : Nat → Nat → Int32) (sd : Int64) {gc pc rc : Nat} (hPI : PI gc pc rc v)  : Cm l y_L_makeBest b_L_makeBest 3 none (rmx 18 0) [.ref (ad 38)] D cs ad v sd (fun r v' sd' => r = none ∧ (∃ v1, mbR gc pc rc rc 0 (stw2 gc pc rc v) (lst gc pc rc v) v1 ∧ u2 v1 38 4 1 = v') ∧ sd = sd') (fun cls => False) := by
  refine cw_enter (own := "WearHours$Planner") rfl (Nat.le_of_ble_eq_true rfl) ?_
  intro p e s m below meth c ls K hS hP hl
  have hl : lv_has ls 3 [(0, .ref (ad 38))] := hl
  have hg6 := hPI.2.1
  have hp4 := hPI.2.2.2.1
  have hr5 := hPI.2.2.2.2.2.1
  refine lv_aload_n K.hx K.hb d_L_makeBest_0 rfl (lv_at hl 0 rfl) ?_
  refine cc_V K hP hS (c_L_freeAll l D cs ad _ _) kw_256 xm_L_freeAll kw_253 kw_255 kw_0 (g_recv K.1.2.1 hP (38) (by decide) rfl rfl) rfl hl.1 d_L_makeBest_1 (Nat.le_of_ble_eq_true rfl) (Nat.le_of_ble_eq_true rfl) ⟨(Nat.le_of_ble_eq_true rfl), (Nat.le_of_ble_eq_true rfl)⟩ (fun r v1 sd1 H l1 hp hP hS => ?_)
  obtain ⟨rfl, rfl, rfl⟩ := hp
  refine lv_aload_n K.hx K.hb d_L_makeBest_4 rfl (lv_at hl 0 rfl) ?_
  refine cc_V K hP hS (c_L_sumFloors l D cs ad _ _ (PI_fre hPI)) kw_260 xm_L_sumFloors kw_257 kw_259 kw_1 (g_recv K.1.2.1 hP (38) (by decide) rfl rfl) rfl hl.1 d_L_makeBest_5 (Nat.le_of_ble_eq_true rfl) (Nat.le_of_ble_eq_true rfl) ⟨(Nat.le_of_ble_eq_true rfl), (Nat.le_of_ble_eq_true rfl)⟩ (fun r v1 sd1 H l1 hp hP hS => ?_)
  obtain ⟨rfl, rfl, rfl⟩ := hp
  refine lv_aload_n K.hx K.hb d_L_makeBest_8 rfl (lv_at hl 0 rfl) ?_
  refine lv_aload_n K.hx K.hb d_L_makeBest_9 rfl (lv_at hl 0 rfl) ?_
  refine lv_iconst (v := 0) K.hx K.hb d_L_makeBest_10 (by decide) ?_
  refine lv_ldc (v := 1000000000) K.hx K.hb K.1.1.2.2.2.1 (K.1.1.2.2.2.2 _ kw_279) d_L_makeBest_11 ?_
  refine cc_V K hP hS (c_leastCost l D cs ad _ gc pc rc 6 _ 0 1000000000 (PI_flo (PI_fre hPI) 0) (by omega) (by omega)) kw_283 xm_L_leastCost kw_280 kw_282 kw_4 (g_recv K.1.2.1 hP (38) (by decide) rfl rfl) rfl hl.1 d_L_makeBest_13 (Nat.le_of_ble_eq_true rfl) (Nat.le_of_ble_eq_true rfl) ⟨(Nat.le_of_ble_eq_true rfl), (Nat.le_of_ble_eq_true rfl)⟩ (fun r v1 sd1 H l1 hp hP hS => ?_)
  obtain ⟨rfl, rfl, rfl⟩ := hp
  refine lv_topE (y := lst gc pc rc v) rfl ?_
  refine g_puti K.1 hP hS (38) (by decide) rfl rfl i_L ft_L ft_L_ok n_L 5 (by decide) rfl (Or.inl kw_203) rfl rfl rfl (Nat.le_of_ble_eq_true rfl) rfl d_L_makeBest_16 (fun H l1 hP hS => ?_)
  refine lv_aload_n K.hx K.hb d_L_makeBest_19 rfl (lv_at hl 0 rfl) ?_
  refine lv_iconst (v := 0) K.hx K.hb d_L_makeBest_20 (by decide) ?_
  refine g_puti K.1 hP hS (38) (by decide) rfl rfl i_L ft_L ft_L_ok n_L 6 (by decide) rfl (Or.inl kw_205) rfl rfl rfl (Nat.le_of_ble_eq_true rfl) rfl d_L_makeBest_21 (fun H l1 hP hS => ?_)
  refine lv_aload_n K.hx K.hb d_L_makeBest_24 rfl (lv_at hl 0 rfl) ?_
  refine g_get K.1 hP (38) (by decide) rfl rfl i_L 5 (by decide) rfl (Or.inl kw_203) rfl d_L_makeBest_25 ?_
  refine lv_topE (y := (lst gc pc rc v)) (by first | (simp [u2_at, kp, occ]; done) | (simp [u2_at, kp, occ] <;> (intros; omega)) | (simp only [u2_at, kp, occ]; (repeat' split) <;> first | rfl | (exfalso; omega))) ?_
  refine lv_istore_n (lv' := [(1, .int (lst gc pc rc v)), (0, .ref (ad 38))]) K.hx K.hb d_L_makeBest_28 rfl hl (by decide) rfl (fun ls hl => ?_)
  refine lv_iconst (v := 0) K.hx K.hb d_L_makeBest_29 (by decide) ?_
  refine lv_istore_n (lv' := [(2, .int 0), (1, .int (lst gc pc rc v)), (0, .ref (ad 38))]) K.hx K.hb d_L_makeBest_30 rfl hl (by decide) rfl (fun ls hl => ?_)
  refine lp_mb K (rc + 1) 0 (by omega) (by omega) (stw2 gc pc rc v) (lst gc pc rc v) (PI_of (PI_flo (PI_fre hPI) 0) (by rw [stw2, u2_ne (by omega), u2_ne (by omega)]; rfl) (fun i hi => by rw [stw2, u2_ne (by omega), u2_ne (by omega)]; rfl)) (fun v1 hmb H l1 ls hP hS hl => ?_) _ _ ls hP hS (lv_sub hl [2, 1, 0] rfl)
  refine lv_aload_n K.hx K.hb d_L_makeBest_82 rfl (lv_at hl 0 rfl) ?_
  refine lv_iconst (v := 1) K.hx K.hb d_L_makeBest_83 (by decide) ?_
  refine g_puti K.1 hP hS (38) (by decide) rfl rfl i_L ft_L ft_L_ok n_L 4 (by decide) rfl (Or.inl kw_201) rfl rfl rfl (Nat.le_of_ble_eq_true rfl) rfl d_L_makeBest_84 (fun H l1 hP hS => ?_)
  exact ce_v K hP hS ⟨rfl, ⟨v1, hmb, rfl⟩, rfl⟩ (Nat.le_of_ble_eq_true rfl) (Nat.le_of_ble_eq_true rfl) d_L_makeBest_87
set_option maxHeartbeats 4000000 in
set_option maxRecDepth 100000 in
theorem c_W_plan (l : Launch) (D : va_G) (cs : Nat → ClassId) (ad : Nat → Nat) (v : Nat → Nat → Int32) (sd : Int64) {gc pc rc : Nat} (hPI : PI gc pc rc v)  : Cm l y_W_plan b_W_plan 1 (some .int) (rmx 19 0) [.ref (ad 0)] D cs ad v sd (fun r v' sd' => (¬ v 38 4 = 0 ∧ r = some (.int (v 38 6)) ∧ v = v' ∧ sd = sd') ∨ (v 38 4 = 0 ∧ ∃ v1, mbR gc pc rc rc 0 (stw2 gc pc rc v) (lst gc pc rc v) v1 ∧ r = some (.int (v1 38 6)) ∧ u2 v1 38 4 1 = v' ∧ sd = sd')) (fun cls => False) := by
  refine cw_enter (own := "WearHours") rfl (Nat.le_of_ble_eq_true rfl) ?_
  intro p e s m below meth c ls K hS hP hl
  have hl : lv_has ls 1 [(0, .ref (ad 0))] := hl
  refine lv_aload_n K.hx K.hb d_W_plan_0 rfl (lv_at hl 0 rfl) ?_
  refine g_get K.1 hP (0) (by decide) rfl rfl i_W 5 (by decide) rfl (Or.inl kw_227) rfl d_W_plan_1 ?_
  refine g_get K.1 hP (38) (by decide) rfl rfl i_L 4 (by decide) rfl (Or.inr nw_202) rfl d_W_plan_4 ?_
  refine lv_if_ne (tgt := 17) K.hx K.hb d_W_plan_7 (by decide) (fun c_7 => ?_) (fun c_7 => ?_)
  · refine lv_aload_n K.hx K.hb d_W_plan_17 rfl (lv_at hl 0 rfl) ?_
    refine g_get K.1 hP (0) (by decide) rfl rfl i_W 5 (by decide) rfl (Or.inl kw_227) rfl d_W_plan_18 ?_
    refine g_get K.1 hP (38) (by decide) rfl rfl i_L 6 (by decide) rfl (Or.inr nw_206) rfl d_W_plan_21 ?_
    exact ce_i K hP hS (Or.inl ⟨c_7, rfl, rfl, rfl⟩) (Nat.le_of_ble_eq_true rfl) (Nat.le_of_ble_eq_true rfl) d_W_plan_24
  · refine lv_aload_n K.hx K.hb d_W_plan_10 rfl (lv_at hl 0 rfl) ?_
    refine g_get K.1 hP (0) (by decide) rfl rfl i_W 5 (by decide) rfl (Or.inl kw_227) rfl d_W_plan_11 ?_
    refine cc_V K hP hS (c_L_makeBest l D cs ad _ _ hPI) kw_252 xm_L_makeBest kw_249 kw_250 kw_251 (g_recv K.1.2.1 hP (38) (by decide) rfl rfl) rfl hl.1 d_W_plan_14 (Nat.le_of_ble_eq_true rfl) (Nat.le_of_ble_eq_true rfl) ⟨(Nat.le_of_ble_eq_true rfl), (Nat.le_of_ble_eq_true rfl)⟩ (fun r v1 sd1 H l1 hp hP hS => ?_)
    obtain ⟨rfl, ⟨v2, hmb, rfl⟩, rfl⟩ := hp
    refine lv_aload_n K.hx K.hb d_W_plan_17 rfl (lv_at hl 0 rfl) ?_
    refine g_get K.1 hP (0) (by decide) rfl rfl i_W 5 (by decide) rfl (Or.inl kw_227) rfl d_W_plan_18 ?_
    refine g_get K.1 hP (38) (by decide) rfl rfl i_L 6 (by decide) rfl (Or.inr nw_206) rfl d_W_plan_21 ?_
    exact ce_i K hP hS (Or.inr ⟨c_7, v2, hmb, by simp [u2_at], rfl, rfl⟩) (Nat.le_of_ble_eq_true rfl) (Nat.le_of_ble_eq_true rfl) d_W_plan_24
end
section
/-! done -/
def sk (v : Nat → Nat → Int32) (i : Nat) : Nat := (v (33 + i) 2).toNatClampNeg
def SK (rc : Nat) (v : Nat → Nat → Int32) : Prop := ∀ i, i < rc → ∃ t, t < 4 ∧ v (33 + i) 2 = nI t
theorem SK_sk {rc : Nat} {v : Nat → Nat → Int32} (h : SK rc v) {i : Nat} (hi : i < rc) : v (33 + i) 2 = nI (sk v i) ∧ sk v i < 4 := by
  obtain ⟨t, ht, e⟩ := h i hi
  have e2 : sk v i = t := by unfold sk; rw [e, nI_clamp (by omega)]
  rw [e2]
  exact ⟨e, ht⟩
def dnP (u : Nat → Nat → Int32) (i : Nat) : Bool := !decide (u (33 + i) 4 = -1) && !decide (u 18 (sk u i) ≤ 0)
def dnV (u : Nat → Nat → Int32) (i : Nat) : Nat → Nat → Int32 := kp (u2 (u2 u 18 (sk u i) (u 18 (sk u i) - 1)) (2 + th u i) 2 0) (th u i) (-1)
/-- the rows and the count when the first i repairs were looked at -/
def dn (v : Nat → Nat → Int32) : Nat → (Nat → Nat → Int32) × Int32
  | 0 => (v, 0)
  | i + 1 => if dnP (dn v i).1 i = true then (dnV (dn v i).1 i, (dn v i).2 + 1) else dn v i
abbrev dnv (v : Nat → Nat → Int32) (i : Nat) : Nat → Nat → Int32 := (dn v i).1
theorem dn_row {v : Nat → Nat → Int32} {rc : Nat} (hr : rc ≤ 5) (ht : ∀ i, i < rc → th v i < 8) {a : Nat} (ha : a = 19 ∨ 20 ≤ a) : ∀ i, i ≤ rc → dnv v i a = v a
  | 0, _ => rfl
  | i + 1, h => by
    have e := dn_row hr ht ha i (by omega)
    have e3 := dn_row hr ht (a := 33 + i) (Or.inr (by omega)) i (by omega)
    have et : th (dnv v i) i = th v i := by unfold th; rw [e3]
    have h8 := ht i (by omega)
    show (if dnP (dnv v i) i = true then (dnV (dnv v i) i, (dn v i).2 + 1) else dn v i).1 a = v a
    split
    · show dnV (dnv v i) i a = v a
      rw [← e]
      funext b
      unfold dnV
      rw [et]
      simp only [kp, u2_at]
      rw [if_neg (by omega), if_neg (by omega), if_neg (by omega)]
    · exact e
set_option maxHeartbeats 4000000 in
set_option maxRecDepth 100000 in
theorem lp_dn {p : Program} {l : Launch} {e : Env} {s : State} {m : MethodId} {args : Array Value} {below : List Frame} {meth : Method} {c : Code} {Q : State → Prop} {D : va_G} {cs : Nat → ClassId} {ad : Nat → Nat} {v : Nat → Nat → Int32} {sd : Int64} (K : Cx p l m meth c b_W_done 4 (some .int) s args "WearHours" D cs ad) {gc pc rc : Nat} (hPI : PI gc pc rc v) (hSK : SK rc v) 
    (kx : ∀  (H : Heap) (l1 : List Loc) (ls : Array Slot), va_P D classes (wv 42 ad (fun k => eC cs ad sd k ((dnv v rc) k))) H → va_S (aA 42 ad s.heap.size) s.heap H l1 → lv_has ls 4 [(0, .ref (ad 0)), (1, .int ((dn v rc).2))] → W p l e (rmx 3 1) s m args below meth c H l1 1 6 Q (F0 m 82 ls []))
    : ∀ (n i : Nat), i ≤ rc → rc < i + n → ∀ (H : Heap) (l1 : List Loc) (ls : Array Slot), va_P D classes (wv 42 ad (fun k => eC cs ad sd k ((dnv v i) k))) H → va_S (aA 42 ad s.heap.size) s.heap H l1 → lv_has ls 4 [(0, .ref (ad 0)), (1, .int ((dn v i).2)), (2, .int (nI i))] → W p l e (rmx 3 1) s m args below meth c H l1 1 6 Q (F0 m 8 ls []) := by
  intro n
  induction n with
  | zero =>
    intro i  h1 h2
    omega
  | succ n ih =>
    intro i  hle hlt H l1 ls hP hS hl
    have hr5 := hPI.2.2.2.2.2.1
    have hth : ∀ i, i < rc → th v i < 8 := fun i hi => (PI_th hPI hi).2
    have hc19 : dnv v i 19 5 = nI rc := by rw [dn_row hr5 hth (Or.inl rfl) i hle]; exact hPI.2.2.2.2.1
    refine lv_iload_n K.hx K.hb d_W_done_8 rfl (lv_at hl 2 rfl) ?_
    refine lv_aload_n K.hx K.hb d_W_done_9 rfl (lv_at hl 0 rfl) ?_
    refine g_get K.1 hP (0) (by decide) rfl rfl i_W 4 (by decide) rfl (Or.inl kw_226) rfl d_W_done_10 ?_
    refine g_get K.1 hP (19) (by decide) rfl rfl i_K 5 (by decide) rfl (Or.inr nw_168) rfl d_W_done_13 ?_
    refine lv_icmp_ge (tgt := 82) K.hx K.hb d_W_done_16 (by decide) (fun c_16 => ?_) (fun c_16 => ?_)
    · have hge : i = rc := Nat.le_antisymm hle ((nI_leI (by omega) (by omega)).mp (by rw [← hc19]; exact c_16))
      subst hge
      exact kx H l1 ls hP hS (lv_sub hl [0, 1] rfl)
    · have hlt2 : i < rc := Nat.lt_of_not_le (fun h => c_16 (by rw [hc19]; exact nI_le h (by omega)))
      have hi5 : i < 5 := by omega
      have e33 : dnv v i (33 + i) = v (33 + i) := dn_row hr5 hth (Or.inr (by omega)) i hle
      have hti : dnv v i (33 + i) 0 = nI (th (dnv v i) i) ∧ th (dnv v i) i < 8 := by have h9 := PI_th hPI hlt2; unfold th at h9 ⊢; rw [e33]; exact h9
      have hsi : dnv v i (33 + i) 2 = nI (sk (dnv v i) i) ∧ sk (dnv v i) i < 4 := by have h9 := SK_sk hSK hlt2; unfold sk at h9 ⊢; rw [e33]; exact h9
      have hti8 := hti.2
      have hsi4 := hsi.2
      refine lv_aload_n K.hx K.hb d_W_done_19 rfl (lv_at hl 0 rfl) ?_
      refine g_get K.1 hP (0) (by decide) rfl rfl i_W 4 (by decide) rfl (Or.inl kw_226) rfl d_W_done_20 ?_
      refine g_get K.1 hP (19) (by decide) rfl rfl i_K 4 (by decide) rfl (Or.inr nw_165) rfl d_W_done_23 ?_
      refine lv_iload_n K.hx K.hb d_W_done_26 rfl (lv_at hl 2 rfl) ?_
      refine g_aald K.1 hP (32) (by decide) rfl 6 rfl (i) rfl (by have := hi5; omega) (by decide) rfl d_W_done_27 ?_
      refine lv_astore_n (lv' := [(3, .ref (ad (33 + i))), (0, .ref (ad 0)), (1, .int ((dn v i).2)), (2, .int (nI i))]) K.hx K.hb d_W_done_28 rfl hl (by decide) rfl (fun ls hl => ?_)
      refine lv_aload_n K.hx K.hb d_W_done_29 rfl (lv_at hl 0 rfl) ?_
      refine cc_V K hP hS (c_R_isPlaced l D cs ad _ _ hi5) kw_308 xm_R_isPlaced kw_613 kw_306 kw_307 (g_recv K.1.2.1 hP (33 + i) (by have := hi5; omega) (eR hi5) rfl) rfl hl.1 d_W_done_30 (Nat.le_of_ble_eq_true rfl) (Nat.le_of_ble_eq_true rfl) ⟨(Nat.le_of_ble_eq_true rfl), (Nat.le_of_ble_eq_true rfl)⟩ (fun r v1 sd1 H l1 hp hP hS => ?_)
      obtain ⟨rfl, rfl, rfl⟩ := hp
      refine lv_if_eq (tgt := 76) K.hx K.hb d_W_done_33 (by decide) (fun c_33 => ?_) (fun c_33 => ?_)
      · refine lv_iinc (v := nI (i + 1)) (lv' := [(2, .int (nI (i + 1))), (3, .ref (ad (33 + i))), (0, .ref (ad 0)), (1, .int ((dn v i).2))]) K.hx K.hb d_W_done_76 hl (k := 3) rfl (nI_1 _) (by decide) rfl (fun ls hl => ?_)
        refine lv_goto (tgt := 8) K.hx K.hb d_W_done_79 (by decide) ?_
        have hdn : dn v (i + 1) = dn v i := if_neg (by simp [dnP, ite01 c_33])
        exact ih (i + 1) hlt2 (by omega) H l1 ls (by rw [show dnv v (i + 1) = dnv v i from congrArg Prod.fst hdn]; exact hP) hS (by rw [hdn]; exact lv_sub hl [2, 3, 0] rfl)
      · refine lv_aload_n K.hx K.hb d_W_done_36 rfl (lv_at hl 1 rfl) ?_
        refine g_get K.1 hP (0) (by decide) rfl rfl i_W 3 (by decide) rfl (Or.inl kw_225) rfl d_W_done_37 ?_
        refine lv_aload_n K.hx K.hb d_W_done_40 rfl (lv_at hl 0 rfl) ?_
        refine g_get K.1 hP (33 + i) (by have := hi5; omega) (eR hi5) rfl i_R 2 (by decide) rfl (Or.inr nw_129) rfl d_W_done_41 ?_
        refine g_iald K.1 hP (18) (by decide) rfl 0 rfl (sk (dnv v i) i) hsi.1 (by have := hsi4; omega) (by decide) d_W_done_44 ?_
        refine lv_if_le (tgt := 76) K.hx K.hb d_W_done_45 (by decide) (fun c_45 => ?_) (fun c_45 => ?_)
        · refine lv_iinc (v := nI (i + 1)) (lv' := [(2, .int (nI (i + 1))), (3, .ref (ad (33 + i))), (0, .ref (ad 0)), (1, .int ((dn v i).2))]) K.hx K.hb d_W_done_76 hl (k := 3) rfl (nI_1 _) (by decide) rfl (fun ls hl => ?_)
          refine lv_goto (tgt := 8) K.hx K.hb d_W_done_79 (by decide) ?_
          have hdn : dn v (i + 1) = dn v i := if_neg (by simp [dnP, c_45])
          exact ih (i + 1) hlt2 (by omega) H l1 ls (by rw [show dnv v (i + 1) = dnv v i from congrArg Prod.fst hdn]; exact hP) hS (by rw [hdn]; exact lv_sub hl [2, 3, 0] rfl)
        · refine lv_aload_n K.hx K.hb d_W_done_48 rfl (lv_at hl 1 rfl) ?_
          refine g_get K.1 hP (0) (by decide) rfl rfl i_W 3 (by decide) rfl (Or.inl kw_225) rfl d_W_done_49 ?_
          refine lv_aload_n K.hx K.hb d_W_done_52 rfl (lv_at hl 0 rfl) ?_
          refine g_get K.1 hP (33 + i) (by have := hi5; omega) (eR hi5) rfl i_R 2 (by decide) rfl (Or.inr nw_129) rfl d_W_done_53 ?_
          refine lv_dup2_11 K.hx K.hb d_W_done_56 rfl rfl ?_
          refine g_iald K.1 hP (18) (by decide) rfl 0 rfl (sk (dnv v i) i) hsi.1 (by have := hsi4; omega) (by decide) d_W_done_57 ?_
          refine lv_iconst (v := 1) K.hx K.hb d_W_done_58 (by decide) ?_
          refine lv_isub K.hx K.hb d_W_done_59 ?_
          refine g_iast K.1 hP hS (18) (by decide) (fun _ => rfl) 0 rfl (sk (dnv v i) i) hsi.1 (by have := hsi4; omega) (by decide) d_W_done_60 (fun H l1 hP hS => ?_)
          refine lv_aload_n K.hx K.hb d_W_done_61 rfl (lv_at hl 1 rfl) ?_
          refine g_get K.1 hP (0) (by decide) rfl rfl i_W 1 (by decide) rfl (Or.inl kw_223) rfl d_W_done_62 ?_
          refine lv_aload_n K.hx K.hb d_W_done_65 rfl (lv_at hl 0 rfl) ?_
          refine g_get K.1 hP (33 + i) (by have := hi5; omega) (eR hi5) rfl i_R 0 (by decide) rfl (Or.inr nw_124) rfl d_W_done_66 ?_
          refine lv_topE (y := ((dnv v i) (33 + i) 0)) (by first | (simp [u2_at, kp, occ]; done) | (simp [u2_at, kp, occ] <;> (intros; omega)) | (simp only [u2_at, kp, occ]; (repeat' split) <;> first | rfl | (exfalso; omega))) ?_
          refine g_aald K.1 hP (1) (by decide) rfl 3 rfl (th (dnv v i) i) hti.1 (by have := hti8; omega) (by decide) rfl d_W_done_69 ?_
          refine cc_V K hP hS (c_T_mend l D cs ad _ _ hti8) kw_617 xm_T_mend kw_614 kw_615 kw_616 (g_recv K.1.2.1 hP (2 + (th (dnv v i) i)) (by have := hti8; omega) (eT hti8) rfl) rfl hl.1 d_W_done_70 (Nat.le_of_ble_eq_true rfl) (Nat.le_of_ble_eq_true rfl) ⟨(Nat.le_of_ble_eq_true rfl), (Nat.le_of_ble_eq_true rfl)⟩ (fun r v1 sd1 H l1 hp hP hS => ?_)
          obtain ⟨rfl, rfl, rfl⟩ := hp
          refine lv_iinc (v := ((dn v i).2) + 1) (lv' := [(1, .int (((dn v i).2) + 1)), (3, .ref (ad (33 + i))), (0, .ref (ad 0)), (2, .int (nI i))]) K.hx K.hb d_W_done_73 hl (k := 2) rfl rfl (by decide) rfl (fun ls hl => ?_)
          refine lv_iinc (v := nI (i + 1)) (lv' := [(2, .int (nI (i + 1))), (1, .int (((dn v i).2) + 1)), (3, .ref (ad (33 + i))), (0, .ref (ad 0))]) K.hx K.hb d_W_done_76 hl (k := 3) rfl (nI_1 _) (by decide) rfl (fun ls hl => ?_)
          refine lv_goto (tgt := 8) K.hx K.hb d_W_done_79 (by decide) ?_
          have hdn : dn v (i + 1) = (kp (u2 (u2 (dnv v i) 18 (sk (dnv v i) i) (((dnv v i) 18 (sk (dnv v i) i)) - 1)) (2 + (th (dnv v i) i)) 2 0) (th (dnv v i) i) (-1), (dn v i).2 + 1) := if_pos (by simp only [dnP, decide_eq_false (show ¬ dnv v i (33 + i) 4 = -1 from fun h => c_33 (by rw [if_pos h])), decide_eq_false c_45]; rfl)
          exact ih (i + 1) hlt2 (by omega) H l1 ls (by rw [show dnv v (i + 1) = kp (u2 (u2 (dnv v i) 18 (sk (dnv v i) i) (((dnv v i) 18 (sk (dnv v i) i)) - 1)) (2 + (th (dnv v i) i)) 2 0) (th (dnv v i) i) (-1) from congrArg Prod.fst hdn]; exact hP) hS (by rw [hdn]; exact lv_sub hl [3, 1, 0] rfl)
set_option maxHeartbeats 4000000 in
set_option maxRecDepth 100000 in
theorem c_W_done (l : Launch) (D : va_G) (cs : Nat → ClassId) (ad : Nat → Nat) (v : Nat → Nat → Int32) (sd : Int64) (hfl : l.flags = flags0) {gc pc rc : Nat} (hPI : PI gc pc rc v) (hSK : SK rc v)  : Cm l y_W_done b_W_done 4 (some .int) (rmx 3 1) [.ref (ad 0)] D cs ad v sd (fun r v' sd' => ¬ v 38 4 = 0 ∧ r = some (.int (dn v rc).2) ∧ u2 (u2 (dnv v rc) 19 5 0) 38 4 0 = v' ∧ sd = sd') (fun cls => v 38 4 = 0 ∧ cls = "java/lang/IllegalStateException") := by
  refine cw_enter (own := "WearHours") rfl (Nat.le_of_ble_eq_true rfl) ?_
  intro p e s m below meth c ls K hS hP hl
  have hl : lv_has ls 4 [(0, .ref (ad 0))] := hl
  refine lv_aload_n K.hx K.hb d_W_done_0 rfl (lv_at hl 0 rfl) ?_
  refine cc_Vx K hP hS (c_W_checkPlan l D cs ad _ _ hfl) (fun cls h => h) kw_597 xm_W_checkPlan kw_594 kw_596 kw_12 (g_recv K.1.2.1 hP (0) (by decide) rfl rfl) rfl hl.1 d_W_done_1 (Nat.le_of_ble_eq_true rfl) (Nat.le_of_ble_eq_true rfl) ⟨(Nat.le_of_ble_eq_true rfl), (Nat.le_of_ble_eq_true rfl)⟩ (Nat.le_of_ble_eq_true rfl) (Nat.le_of_ble_eq_true rfl) (fun r v1 sd1 H l1 hp hP hS => ?_)
  obtain ⟨hcp, rfl, rfl, rfl⟩ := hp
  refine lv_iconst (v := 0) K.hx K.hb d_W_done_4 (by decide) ?_
  refine lv_istore_n (lv' := [(1, .int 0), (0, .ref (ad 0))]) K.hx K.hb d_W_done_5 rfl hl (by decide) rfl (fun ls hl => ?_)
  refine lv_iconst (v := 0) K.hx K.hb d_W_done_6 (by decide) ?_
  refine lv_istore_n (lv' := [(2, .int 0), (1, .int 0), (0, .ref (ad 0))]) K.hx K.hb d_W_done_7 rfl hl (by decide) rfl (fun ls hl => ?_)
  refine lp_dn K hPI hSK (fun H l1 ls hP hS hl => ?_) (rc + 1) 0 (by omega) (by omega) _ _ ls hP hS (lv_sub hl [2, 1, 0] rfl)
  refine lv_aload_n K.hx K.hb d_W_done_82 rfl (lv_at hl 0 rfl) ?_
  refine g_get K.1 hP (0) (by decide) rfl rfl i_W 4 (by decide) rfl (Or.inl kw_226) rfl d_W_done_83 ?_
  refine lv_iconst (v := 0) K.hx K.hb d_W_done_86 (by decide) ?_
  refine g_puti K.1 hP hS (19) (by decide) rfl rfl i_K ft_K ft_K_ok n_K 5 (by decide) rfl (Or.inr nw_168) rfl rfl rfl (Nat.le_of_ble_eq_true rfl) rfl d_W_done_87 (fun H l1 hP hS => ?_)
  refine lv_aload_n K.hx K.hb d_W_done_90 rfl (lv_at hl 0 rfl) ?_
  refine g_get K.1 hP (0) (by decide) rfl rfl i_W 5 (by decide) rfl (Or.inl kw_227) rfl d_W_done_91 ?_
  refine cc_V K hP hS (c_L_forget l D cs ad _ _) kw_547 xm_L_forget kw_544 kw_545 kw_546 (g_recv K.1.2.1 hP (38) (by decide) rfl rfl) rfl hl.1 d_W_done_94 (Nat.le_of_ble_eq_true rfl) (Nat.le_of_ble_eq_true rfl) ⟨(Nat.le_of_ble_eq_true rfl), (Nat.le_of_ble_eq_true rfl)⟩ (fun r v1 sd1 H l1 hp hP hS => ?_)
  obtain ⟨rfl, rfl, rfl⟩ := hp
  refine lv_iload_n K.hx K.hb d_W_done_97 rfl (lv_at hl 1 rfl) ?_
  exact ce_i K hP hS ⟨hcp, rfl, rfl, rfl⟩ (Nat.le_of_ble_eq_true rfl) (Nat.le_of_ble_eq_true rfl) d_W_done_98
end
section
/-! the reference's world: 23 roles: 0 the object; 1 life; 2 bound; 3 used; 4 closed; 5 history; 6 gapFrom; 7 gapTo; 8 personSkill; 9 personFrom; 10 personTo; 11 thing; 12 hours; 13 skill; 14 waiting; 15 spares; 16 planHour; 17 planChoice; 18 busyPerson; 19 busyThing; 20 cost; 21 choice; 22 hour -/
def eM (cs : Nat → ClassId) (ad : Nat → Nat) (sd : Int64) (k : Nat) (w : Nat → Int32) : va_E :=
  if k = 0 then .inr (7, [.int (w 0), .long sd, .int (w 2), .ref (ad 1), .ref (ad 2), .ref (ad 3), .ref (ad 4), .ref (ad 5), .int (w 8), .ref (ad 6), .ref (ad 7), .int (w 11), .ref (ad 8), .ref (ad 9), .ref (ad 10), .int (w 15), .ref (ad 11), .ref (ad 12), .ref (ad 13), .ref (ad 14), .int (w 20), .int (w 21), .ref (ad 15), .int (w 23), .int (w 24), .ref (ad 16), .ref (ad 17), .ref (ad 18), .ref (ad 19), .ref (ad 20), .ref (ad 21), .ref (ad 22)])
  else if k = 1 then aI (cs 0) 8 w
  else if k = 2 then aI (cs 0) 8 w
  else if k = 3 then aI (cs 0) 8 w
  else if k = 4 then aI (cs 1) 8 w
  else if k = 5 then aI (cs 0) 40 w
  else if k = 6 then aI (cs 0) 6 w
  else if k = 7 then aI (cs 0) 6 w
  else if k = 8 then aI (cs 0) 4 w
  else if k = 9 then aI (cs 0) 4 w
  else if k = 10 then aI (cs 0) 4 w
  else if k = 11 then aI (cs 0) 5 w
  else if k = 12 then aI (cs 0) 5 w
  else if k = 13 then aI (cs 0) 5 w
  else if k = 14 then aI (cs 0) 5 w
  else if k = 15 then aI (cs 0) 4 w
  else if k = 16 then aI (cs 0) 5 w
  else if k = 17 then aI (cs 0) 5 w
  else if k = 18 then aI (cs 0) 24 w
  else if k = 19 then aI (cs 0) 48 w
  else if k = 20 then aI (cs 0) 6 w
  else if k = 21 then aI (cs 0) 6 w
  else aI (cs 0) 6 w
/-- the model's world holds at a state -/
def MWs (D : va_G) (cs : Nat → ClassId) (ad : Nat → Nat) (v : Nat → Nat → Int32) (sd : Int64) (U : State) : Prop :=
  va_P D classes (wv 23 ad (fun k => eM cs ad sd k (v k))) U.heap ∧ va_K D classes (tyl cs) U ∧ apt 23 ad ∧ NW U ∧ SR U ∧ ST U U.heap
/-- a contract of a method over the model's world -/
def Dm (l : Launch) (y : MethodName) (bytes : ByteArray) (maxL : Nat) (ret : Option FieldType) (rm : Room) (av : List Value) (D : va_G) (cs : Nat → ClassId) (ad : Nat → Nat) (v : Nat → Nat → Int32) (sd : Int64) (post : Option Value → (Nat → Nat → Int32) → Int64 → Prop) (xp : String → Prop) : Prop :=
  ∀ sz, Mq l y bytes maxL ret [] rm av (fun U => U.heap.size = sz ∧ MWs D cs ad v sd U) (aA 23 ad sz) (fun r t => ∃ v' sd', post r v' sd' ∧ MWs D cs ad v' sd' t) (fun cls t => xp cls ∧ MWs D cs ad v sd t)
/-- the fixed part of a walk over the model's world -/
def Dx (p : Program) (l : Launch) (m : MethodId) (meth : Method) (c : Code) (cc : ByteArray) (nL : Nat) (ret : Option FieldType) (s : State) (args : Array Value) (own : String) (D : va_G) (cs : Nat → ClassId) (ad : Nat → Nat) : Prop :=
  Gx p m c cc nL s args own D (tyl cs) 23 ad (aA 23 ad s.heap.size) ∧ SR s ∧ ST s s.heap ∧ noSt (aA 23 ad s.heap.size) s.heap ∧ c.exceptionTable.toList = tableOf [] ∧ meth.locks = false ∧ meth.sig.returnType = ret ∧ meth.name = meth.name
section DRows
variable {p : Program} {l : Launch} {e : Env} {R : Room} {s : State} {m : MethodId} {args : Array Value} {below : List Frame} {meth : Method} {c : Code} {H : Heap} {locs : List Loc} {cells slots : Nat} {Q : State → Prop}
variable {y : MethodName} {bytes cc : ByteArray} {maxL nL pc index : Nat} {ret ret' : Option FieldType} {rm : Room} {av As rest st : List Value} {own C : String} {D : va_G} {cs : Nat → ClassId} {ad : Nat → Nat} {v v0 v' : Nat → Nat → Int32} {sd sd0 sd' : Int64} {post post' : Option Value → (Nat → Nat → Int32) → Int64 → Prop} {xp xp' : String → Prop} {ls : Array Slot} {b : Addr}
theorem Dx.hx (C : Dx p l m meth c cc nL ret s args own D cs ad) : p.tables.exec = Jvm.exec := C.1.1.1
theorem Dx.hb (C : Dx p l m meth c cc nL ret s args own D cs ad) : c.code = cc := C.1.1.2.1
theorem dw_at (K : Dx p l m meth c cc nL ret s args own D cs ad) (hS : va_S (aA 23 ad s.heap.size) s.heap H locs) (hP : va_P D classes (wv 23 ad (fun k => eM cs ad sd k (v k))) H) (t : State) (ht : t.heap = H) (hW : s.WarmedH t.vm) : MWs D cs ad v sd t := by
  obtain ⟨⟨F, hK, hap, hAd, hN⟩, hSR, hZ, hns, -⟩ := K
  exact ⟨by rw [ht]; exact hP, hK.moved hW.alike, hap, hN.warm hW, hSR.warm hW, by rw [ht]; exact (hZ.kept hns hS.2.1).moved hW.alike⟩
theorem dw_sub (hS : va_S (aA 23 ad s.heap.size) s.heap H locs) : ∀ q, aA 23 ad H.size q → aA 23 ad s.heap.size q := by
  intro q hq
  rcases hq with h | h
  · exact Or.inl h
  · exact Or.inr (Nat.le_trans hS.1 h)
theorem dw_enter (hown : y.cls = own) (hpl : (lg_sl av).length ≤ maxL)
    (body : ∀ (p : Program) (e : Env) (s : State) (m : MethodId) (below : List Frame) (meth : Method) (c : Code) (ls : Array Slot), Dx p l m meth c bytes maxL ret s av.toArray own D cs ad → va_S (aA 23 ad s.heap.size) s.heap s.heap [] → va_P D classes (wv 23 ad (fun k => eM cs ad sd k (v k))) s.heap → lv_has ls maxL (lv_args 0 av) →
      W p l e rm s m av.toArray below meth c s.heap [] 0 0 (xMQ below (QQ (aA 23 ad s.heap.size) (fun r t => ∃ v' sd', post r v' sd' ∧ MWs D cs ad v' sd' t) (fun cls t => xp cls ∧ MWs D cs ad v sd t)) s rm.cells rm.slots (aA 23 ad s.heap.size)) (F0 m 0 ls [])) : Dm l y bytes maxL ret rm av D cs ad v sd post xp := by
  intro sz p e s m below meth c hx hn hb hml htab hname hret hlk hw hPc
  obtain ⟨rfl, hP, hK, hap, hN, hSR, hZ⟩ := hPc
  have hl := lv_entry av hpl
  rw [lg_entry_eq]
  exact body p e s m below meth c _ ⟨⟨⟨hx, hb, hml, by rw [← hown]; exact findClass_of_methodNamed hn, hw⟩, hK, hap, fun k hk => Or.inl ⟨k, hk, rfl⟩, hN⟩, hSR, hZ, wv_nost rfl hP, htab, hlk, hret, rfl⟩ va_S.rf hP hl
/-- a call on an object of the model's world that never throws -/
theorem dd_V (K : Dx p l m meth c cc nL ret' s args own D cs ad) (hP : va_P D classes (wv 23 ad (fun k => eM cs ad sd k (v k))) H) (hS : va_S (aA 23 ad s.heap.size) s.heap H locs)
    (hM : Dm l y bytes maxL ret rm (.ref b :: As) D cs ad v sd post (fun _ => False)) (hcode : Cond.code y bytes maxL ret ∈ gt) (hy : xMeth y As.length) (hl : Cond.methodLink own index y ∈ gt) (hi : Cond.instanceMethod y ∈ gt) (hse : Cond.selects C y y ∈ gt) (hrecv : ∃ cell : Cell, H[b]? = some cell ∧ cell.vm.isStatics = false ∧ s.vm.findClass C = some cell.cls)
    (hst : st = As.reverse ++ .ref b :: rest) (hsz : ls.size = nL) (hdg : decode cc pc = .ok (.invokevirtual index, 3)) (hfr : rm.frames + 1 ≤ R.frames) (hlo : (rest.map fun v => v.category).sum + (maxL + 11) + rm.locals ≤ R.locals) (hf : cells + rm.cells ≤ R.cells ∧ slots + rm.slots ≤ R.slots)
    (kr : ∀ (r : Option Value) (v' : Nat → Nat → Int32) (sd' : Int64) (H1 : Heap) (locs1 : List Loc), post r v' sd' → va_P D classes (wv 23 ad (fun k => eM cs ad sd' k (v' k))) H1 → va_S (aA 23 ad s.heap.size) s.heap H1 locs1 → W p l e R s m args below meth c H1 locs1 (cells + rm.cells) (slots + rm.slots) Q (F0 m (pc + 3) ls (r.toList ++ rest))) :
    W p l e R s m args below meth c H locs cells slots Q (F0 m pc ls st) := by
  refine xc_V K.1.1 (hM H.size) (Or.inl ⟨rfl, hcode⟩) hy hl hi hse hrecv hst hsz hdg hfr hlo hf (fun U hU hW => ⟨by rw [hU], dw_at K hS hP U hU hW⟩) hS (dw_sub hS) ?_ ?_
  · intro r t H1 l1 ht hW hf1 _ _ hS1
    obtain ⟨v', sd', hp, hC⟩ := hf1
    exact kr r v' sd' H1 l1 hp (by rw [← ht]; exact hC.1) hS1
  · intro q cls cell t H1 l1 _ _ _ _ _ hx1
    exact hx1.1.elim
theorem dd_S (K : Dx p l m meth c cc nL ret' s args own D cs ad) (hP : va_P D classes (wv 23 ad (fun k => eM cs ad sd k (v k))) H) (hS : va_S (aA 23 ad s.heap.size) s.heap H locs)
    (hM : Dm l y bytes maxL ret rm As D cs ad v sd post (fun _ => False)) (hcode : Cond.code y bytes maxL ret ∈ gt) (hy : xMeth y As.length) (hl : Cond.methodLink own index y ∈ gt) (hi : Cond.static y ∈ gt) (hini : Cond.initialized y.cls ∈ gt)
    (hst : st = As.reverse ++ rest) (hsz : ls.size = nL) (hdg : decode cc pc = .ok (.invokestatic index, 3)) (hfr : rm.frames + 1 ≤ R.frames) (hlo : (rest.map fun v => v.category).sum + (maxL + 11) + rm.locals ≤ R.locals) (hf : cells + rm.cells ≤ R.cells ∧ slots + rm.slots ≤ R.slots)
    (kr : ∀ (r : Option Value) (v' : Nat → Nat → Int32) (sd' : Int64) (H1 : Heap) (locs1 : List Loc), post r v' sd' → va_P D classes (wv 23 ad (fun k => eM cs ad sd' k (v' k))) H1 → va_S (aA 23 ad s.heap.size) s.heap H1 locs1 → W p l e R s m args below meth c H1 locs1 (cells + rm.cells) (slots + rm.slots) Q (F0 m (pc + 3) ls (r.toList ++ rest))) :
    W p l e R s m args below meth c H locs cells slots Q (F0 m pc ls st) := by
  refine xc_S K.1.1 (hM H.size) (Or.inl ⟨rfl, hcode⟩) hy hl hi hini hst hsz hdg hfr hlo hf (fun U hU hW => ⟨by rw [hU], dw_at K hS hP U hU hW⟩) hS (dw_sub hS) ?_ ?_
  · intro r t H1 l1 ht hW hf1 _ _ hS1
    obtain ⟨v', sd', hp, hC⟩ := hf1
    exact kr r v' sd' H1 l1 hp (by rw [← ht]; exact hC.1) hS1
  · intro q cls cell t H1 l1 _ _ _ _ _ hx1
    exact hx1.1.elim
variable {mc ms : Nat} {f : Option Value → State → Prop}
/-! ends -/
abbrev dQ (below : List Frame) (s : State) (mc ms : Nat) (D : va_G) (cs : Nat → ClassId) (ad : Nat → Nat) (post : Option Value → (Nat → Nat → Int32) → Int64 → Prop) (xp : String → Prop) (v0 : Nat → Nat → Int32) (sd0 : Int64) : State → Prop :=
  xMQ below (QQ (aA 23 ad s.heap.size) (fun r t => ∃ v' sd', post r v' sd' ∧ MWs D cs ad v' sd' t) (fun cls t => xp cls ∧ MWs D cs ad v0 sd0 t)) s mc ms (aA 23 ad s.heap.size)
theorem de_i (K : Dx p l m meth c cc nL (some .int) s args own D cs ad) (hP : va_P D classes (wv 23 ad (fun k => eM cs ad sd k (v k))) H) (hS : va_S (aA 23 ad s.heap.size) s.heap H locs) {z : Int32} (hp : post (some (.int z)) v sd) (hc : cells ≤ mc) (hs : slots ≤ ms) (hdg : decode cc pc = .ok (.ireturn, 1)) :
    W p l e R s m args below meth c H locs cells slots (dQ below s mc ms D cs ad post xp v0 sd0) (F0 m pc ls [.int z]) :=
  xe_i K.hx K.hb K.2.2.2.2.2.2.1 K.2.2.2.2.2.1 hS (fun t ht hW => ⟨v, sd, hp, dw_at K hS hP t ht hW⟩) hc hs hdg
theorem de_z (K : Dx p l m meth c cc nL (some .boolean) s args own D cs ad) (hP : va_P D classes (wv 23 ad (fun k => eM cs ad sd k (v k))) H) (hS : va_S (aA 23 ad s.heap.size) s.heap H locs) {z : Int32} (hz : narrow .boolean (.int z) = .int z) (hp : post (some (.int z)) v sd) (hc : cells ≤ mc) (hs : slots ≤ ms) (hdg : decode cc pc = .ok (.ireturn, 1)) :
    W p l e R s m args below meth c H locs cells slots (dQ below s mc ms D cs ad post xp v0 sd0) (F0 m pc ls [.int z]) :=
  xe_z K.hx K.hb K.2.2.2.2.2.2.1 K.2.2.2.2.2.1 hS hz (fun t ht hW => ⟨v, sd, hp, dw_at K hS hP t ht hW⟩) hc hs hdg
theorem de_l (K : Dx p l m meth c cc nL (some .long) s args own D cs ad) (hP : va_P D classes (wv 23 ad (fun k => eM cs ad sd k (v k))) H) (hS : va_S (aA 23 ad s.heap.size) s.heap H locs) {z : Int64} (hp : post (some (.long z)) v sd) (hc : cells ≤ mc) (hs : slots ≤ ms) (hdg : decode cc pc = .ok (.lreturn, 1)) :
    W p l e R s m args below meth c H locs cells slots (dQ below s mc ms D cs ad post xp v0 sd0) (F0 m pc ls [.long z]) :=
  xe_l K.hx K.hb K.2.2.2.2.2.2.1 K.2.2.2.2.2.1 hS (fun t ht hW => ⟨v, sd, hp, dw_at K hS hP t ht hW⟩) hc hs hdg
theorem de_v (K : Dx p l m meth c cc nL none s args own D cs ad) (hP : va_P D classes (wv 23 ad (fun k => eM cs ad sd k (v k))) H) (hS : va_S (aA 23 ad s.heap.size) s.heap H locs) (hp : post none v sd) (hc : cells ≤ mc) (hs : slots ≤ ms) (hdg : decode cc pc = .ok (.return_, 1)) :
    W p l e R s m args below meth c H locs cells slots (dQ below s mc ms D cs ad post xp v0 sd0) (F0 m pc ls []) :=
  xe_v K.hx K.hb K.2.2.2.2.2.2.1 K.2.2.2.2.2.1 hS (fun t ht hW => ⟨v, sd, hp, dw_at K hS hP t ht hW⟩) hc hs hdg
end DRows
end
section
/-! the reference's methods -/
def gz (a b c : Int32) : Int32 := if a = 0 then 1 else if b = 0 then 2 else if c = 0 then 3 else 0
def kpM (v : Nat → Nat → Int32) (t : Nat) (x : Int32) : Nat → Nat → Int32 := fun k j => if k = 5 ∧ 5 * t ≤ j ∧ j < 5 * t + 5 then (if j = 5 * t then x else v 5 (j - 1)) else v k j
theorem kpM_eq (v : Nat → Nat → Int32) (t : Nat) (x : Int32) : u2 (u2 (u2 (u2 (u2 v 5 (5 * t + 4) (v 5 (5 * t + 3))) 5 (5 * t + 3) (v 5 (5 * t + 2))) 5 (5 * t + 2) (v 5 (5 * t + 1))) 5 (5 * t + 1) (v 5 (5 * t + 0))) 5 (5 * t) x = kpM v t x := by
  funext k j
  simp only [u2_at, kpM]
  by_cases h1 : k = 5
  · subst h1
    by_cases h2 : 5 * t ≤ j ∧ j < 5 * t + 5
    · rw [if_pos (show (5 : Nat) = 5 ∧ 5 * t ≤ j ∧ j < 5 * t + 5 from ⟨rfl, h2⟩)]
      rcases (show j = 5 * t ∨ j = 5 * t + 1 ∨ j = 5 * t + 2 ∨ j = 5 * t + 3 ∨ j = 5 * t + 4 by omega) with rfl | rfl | rfl | rfl | rfl
      · simp
      · simp
      · simp
      · simp
      · simp
    · rw [if_neg (show ¬ ((5 : Nat) = 5 ∧ 5 * t ≤ j ∧ j < 5 * t + 5) from fun q => h2 q.2)]
      rw [if_neg (by omega), if_neg (by omega), if_neg (by omega), if_neg (by omega), if_neg (by omega)]
  · simp [h1]
theorem wth_nar (x a b : Int32) : narrow .boolean (.int (wthZ x a b)) = .int (wthZ x a b) := by
  unfold wthZ
  split
  · rfl
  · split
    · rfl
    · rfl
def barM (v : Nat → Nat → Int32) (i : Nat) : Int32 := if v 4 i = 0 then (if v 3 i < v 2 i then 0 else 1) else 1
set_option maxHeartbeats 4000000 in
set_option maxRecDepth 100000 in
theorem c_M_thrown (l : Launch) (D : va_G) (cs : Nat → ClassId) (ad : Nat → Nat) (v : Nat → Nat → Int32) (sd : Int64)   : Dm l y_M_thrown b_M_thrown 1 (some .int) (rmx 0 0) [.ref (ad 0)] D cs ad v sd (fun r v' sd' => r = some (.int (v 0 0)) ∧ v = v' ∧ sd = sd') (fun cls => False) := by
  refine dw_enter (own := "WearHoursModel") rfl (Nat.le_of_ble_eq_true rfl) ?_
  intro p e s m below meth c ls K hS hP hl
  have hl : lv_has ls 1 [(0, .ref (ad 0))] := hl
  refine lv_aload_n K.hx K.hb d_M_thrown_0 rfl (lv_at hl 0 rfl) ?_
  refine g_get K.1 hP (0) (by decide) rfl rfl i_M 0 (by decide) rfl (Or.inl kw_634) rfl d_M_thrown_1 ?_
  exact de_i K hP hS ⟨rfl, rfl, rfl⟩ (Nat.le_of_ble_eq_true rfl) (Nat.le_of_ble_eq_true rfl) d_M_thrown_4
set_option maxHeartbeats 4000000 in
set_option maxRecDepth 100000 in
theorem c_M_in (l : Launch) (D : va_G) (cs : Nat → ClassId) (ad : Nat → Nat) (v : Nat → Nat → Int32) (sd : Int64) (x a b : Int32)  : Dm l y_M_in b_M_in 3 (some .boolean) (rmx 0 0) [.int x, .int a, .int b] D cs ad v sd (fun r v' sd' => r = some (.int (wthZ x a b)) ∧ v = v' ∧ sd = sd') (fun cls => False) := by
  refine dw_enter (own := "WearHoursModel") rfl (Nat.le_of_ble_eq_true rfl) ?_
  intro p e s m below meth c ls K hS hP hl
  have hl : lv_has ls 3 [(0, .int x), (1, .int a), (2, .int b)] := hl
  refine lv_iload_n K.hx K.hb d_M_in_0 rfl (lv_at hl 0 rfl) ?_
  refine lv_iload_n K.hx K.hb d_M_in_1 rfl (lv_at hl 1 rfl) ?_
  refine lv_icmp_lt (tgt := 14) K.hx K.hb d_M_in_2 (by decide) (fun c_2 => ?_) (fun c_2 => ?_)
  · refine lv_iconst (v := 0) K.hx K.hb d_M_in_14 (by decide) ?_
    exact de_z K hP hS rfl ⟨by rw [show wthZ x a b = 0 from by simp [wthZ, *]], rfl, rfl⟩ (Nat.le_of_ble_eq_true rfl) (Nat.le_of_ble_eq_true rfl) d_M_in_15
  · refine lv_iload_n K.hx K.hb d_M_in_5 rfl (lv_at hl 0 rfl) ?_
    refine lv_iload_n K.hx K.hb d_M_in_6 rfl (lv_at hl 2 rfl) ?_
    refine lv_icmp_gt (tgt := 14) K.hx K.hb d_M_in_7 (by decide) (fun c_7 => ?_) (fun c_7 => ?_)
    · refine lv_iconst (v := 0) K.hx K.hb d_M_in_14 (by decide) ?_
      exact de_z K hP hS rfl ⟨by rw [show wthZ x a b = 0 from by simp [wthZ, *]], rfl, rfl⟩ (Nat.le_of_ble_eq_true rfl) (Nat.le_of_ble_eq_true rfl) d_M_in_15
    · refine lv_iconst (v := 1) K.hx K.hb d_M_in_10 (by decide) ?_
      refine lv_goto (tgt := 15) K.hx K.hb d_M_in_11 (by decide) ?_
      exact de_z K hP hS rfl ⟨by rw [show wthZ x a b = 1 from by simp [wthZ, *]], rfl, rfl⟩ (Nat.le_of_ble_eq_true rfl) (Nat.le_of_ble_eq_true rfl) d_M_in_15
set_option maxHeartbeats 4000000 in
set_option maxRecDepth 100000 in
theorem c_M_goes (l : Launch) (D : va_G) (cs : Nat → ClassId) (ad : Nat → Nat) (v : Nat → Nat → Int32) (sd : Int64) (a b q : Int32)  : Dm l y_M_goes b_M_goes 4 (some .boolean) (rmx 0 0) [.ref (ad 0), .int a, .int b, .int q] D cs ad v sd (fun r v' sd' => r = some (.int (if gz a b q = 0 then 1 else 0)) ∧ u2 v 0 0 (gz a b q) = v' ∧ sd = sd') (fun cls => False) := by
  refine dw_enter (own := "WearHoursModel") rfl (Nat.le_of_ble_eq_true rfl) ?_
  intro p e s m below meth c ls K hS hP hl
  have hl : lv_has ls 4 [(0, .ref (ad 0)), (1, .int a), (2, .int b), (3, .int q)] := hl
  refine lv_aload_n K.hx K.hb d_M_goes_0 rfl (lv_at hl 0 rfl) ?_
  refine lv_iload_n K.hx K.hb d_M_goes_1 rfl (lv_at hl 1 rfl) ?_
  refine lv_if_ne (tgt := 9) K.hx K.hb d_M_goes_2 (by decide) (fun c_2 => ?_) (fun c_2 => ?_)
  · refine lv_iload_n K.hx K.hb d_M_goes_9 rfl (lv_at hl 2 rfl) ?_
    refine lv_if_ne (tgt := 17) K.hx K.hb d_M_goes_10 (by decide) (fun c_10 => ?_) (fun c_10 => ?_)
    · refine lv_iload_n K.hx K.hb d_M_goes_17 rfl (lv_at hl 3 rfl) ?_
      refine lv_if_ne (tgt := 25) K.hx K.hb d_M_goes_18 (by decide) (fun c_18 => ?_) (fun c_18 => ?_)
      · refine lv_iconst (v := 0) K.hx K.hb d_M_goes_25 (by decide) ?_
        refine g_puti K.1 hP hS (0) (by decide) rfl rfl i_M ft_M ft_M_ok n_M 0 (by decide) rfl (Or.inl kw_634) rfl rfl rfl (Nat.le_of_ble_eq_true rfl) rfl d_M_goes_26 (fun H l1 hP hS => ?_)
        refine lv_aload_n K.hx K.hb d_M_goes_29 rfl (lv_at hl 0 rfl) ?_
        refine g_get K.1 hP (0) (by decide) rfl rfl i_M 0 (by decide) rfl (Or.inl kw_634) rfl d_M_goes_30 ?_
        refine lv_topE (y := 0) (by first | (simp [u2_at, kpM]; done) | (simp [u2_at, kpM] <;> (intros; omega)) | (simp only [u2_at, kpM]; (repeat' split) <;> first | rfl | (exfalso; omega))) ?_
        refine lv_if_ne (tgt := 40) K.hx K.hb d_M_goes_33 (by decide) (fun c_33 => (show False from by revert c_33; decide).elim) (fun _ => ?_)
        refine lv_iconst (v := 1) K.hx K.hb d_M_goes_36 (by decide) ?_
        refine lv_goto (tgt := 41) K.hx K.hb d_M_goes_37 (by decide) ?_
        exact de_z K hP hS rfl ⟨by rw [show gz a b q = 0 from by simp [gz, *]]; rfl, by rw [show gz a b q = 0 from by simp [gz, *]], rfl⟩ (Nat.le_of_ble_eq_true rfl) (Nat.le_of_ble_eq_true rfl) d_M_goes_41
      · refine lv_iconst (v := 3) K.hx K.hb d_M_goes_21 (by decide) ?_
        refine lv_goto (tgt := 26) K.hx K.hb d_M_goes_22 (by decide) ?_
        refine g_puti K.1 hP hS (0) (by decide) rfl rfl i_M ft_M ft_M_ok n_M 0 (by decide) rfl (Or.inl kw_634) rfl rfl rfl (Nat.le_of_ble_eq_true rfl) rfl d_M_goes_26 (fun H l1 hP hS => ?_)
        refine lv_aload_n K.hx K.hb d_M_goes_29 rfl (lv_at hl 0 rfl) ?_
        refine g_get K.1 hP (0) (by decide) rfl rfl i_M 0 (by decide) rfl (Or.inl kw_634) rfl d_M_goes_30 ?_
        refine lv_topE (y := 3) (by first | (simp [u2_at, kpM]; done) | (simp [u2_at, kpM] <;> (intros; omega)) | (simp only [u2_at, kpM]; (repeat' split) <;> first | rfl | (exfalso; omega))) ?_
        refine lv_if_ne (tgt := 40) K.hx K.hb d_M_goes_33 (by decide) (fun _ => ?_) (fun c_33 => (show False from by revert c_33; decide).elim)
        refine lv_iconst (v := 0) K.hx K.hb d_M_goes_40 (by decide) ?_
        exact de_z K hP hS rfl ⟨by rw [show gz a b q = 3 from by simp [gz, *]]; rfl, by rw [show gz a b q = 3 from by simp [gz, *]], rfl⟩ (Nat.le_of_ble_eq_true rfl) (Nat.le_of_ble_eq_true rfl) d_M_goes_41
    · refine lv_iconst (v := 2) K.hx K.hb d_M_goes_13 (by decide) ?_
      refine lv_goto (tgt := 26) K.hx K.hb d_M_goes_14 (by decide) ?_
      refine g_puti K.1 hP hS (0) (by decide) rfl rfl i_M ft_M ft_M_ok n_M 0 (by decide) rfl (Or.inl kw_634) rfl rfl rfl (Nat.le_of_ble_eq_true rfl) rfl d_M_goes_26 (fun H l1 hP hS => ?_)
      refine lv_aload_n K.hx K.hb d_M_goes_29 rfl (lv_at hl 0 rfl) ?_
      refine g_get K.1 hP (0) (by decide) rfl rfl i_M 0 (by decide) rfl (Or.inl kw_634) rfl d_M_goes_30 ?_
      refine lv_topE (y := 2) (by first | (simp [u2_at, kpM]; done) | (simp [u2_at, kpM] <;> (intros; omega)) | (simp only [u2_at, kpM]; (repeat' split) <;> first | rfl | (exfalso; omega))) ?_
      refine lv_if_ne (tgt := 40) K.hx K.hb d_M_goes_33 (by decide) (fun _ => ?_) (fun c_33 => (show False from by revert c_33; decide).elim)
      refine lv_iconst (v := 0) K.hx K.hb d_M_goes_40 (by decide) ?_
      exact de_z K hP hS rfl ⟨by rw [show gz a b q = 2 from by simp [gz, *]]; rfl, by rw [show gz a b q = 2 from by simp [gz, *]], rfl⟩ (Nat.le_of_ble_eq_true rfl) (Nat.le_of_ble_eq_true rfl) d_M_goes_41
  · refine lv_iconst (v := 1) K.hx K.hb d_M_goes_5 (by decide) ?_
    refine lv_goto (tgt := 26) K.hx K.hb d_M_goes_6 (by decide) ?_
    refine g_puti K.1 hP hS (0) (by decide) rfl rfl i_M ft_M ft_M_ok n_M 0 (by decide) rfl (Or.inl kw_634) rfl rfl rfl (Nat.le_of_ble_eq_true rfl) rfl d_M_goes_26 (fun H l1 hP hS => ?_)
    refine lv_aload_n K.hx K.hb d_M_goes_29 rfl (lv_at hl 0 rfl) ?_
    refine g_get K.1 hP (0) (by decide) rfl rfl i_M 0 (by decide) rfl (Or.inl kw_634) rfl d_M_goes_30 ?_
    refine lv_topE (y := 1) (by first | (simp [u2_at, kpM]; done) | (simp [u2_at, kpM] <;> (intros; omega)) | (simp only [u2_at, kpM]; (repeat' split) <;> first | rfl | (exfalso; omega))) ?_
    refine lv_if_ne (tgt := 40) K.hx K.hb d_M_goes_33 (by decide) (fun _ => ?_) (fun c_33 => (show False from by revert c_33; decide).elim)
    refine lv_iconst (v := 0) K.hx K.hb d_M_goes_40 (by decide) ?_
    exact de_z K hP hS rfl ⟨by rw [show gz a b q = 1 from by simp [gz, *]]; rfl, by rw [show gz a b q = 1 from by simp [gz, *]], rfl⟩ (Nat.le_of_ble_eq_true rfl) (Nat.le_of_ble_eq_true rfl) d_M_goes_41
set_option maxHeartbeats 4000000 in
set_option maxRecDepth 100000 in
theorem c_M_isThing (l : Launch) (D : va_G) (cs : Nat → ClassId) (ad : Nat → Nat) (v : Nat → Nat → Int32) (sd : Int64) {tc : Nat} (htc : v 0 2 = nI tc) (ht8 : tc ≤ 8) (x : Int32)  : Dm l y_M_isThing b_M_isThing 2 (some .boolean) (rmx 1 0) [.ref (ad 0), .int x] D cs ad v sd (fun r v' sd' => r = some (.int (wthZ x 0 (nI tc - 1))) ∧ v = v' ∧ sd = sd') (fun cls => False) := by
  refine dw_enter (own := "WearHoursModel") rfl (Nat.le_of_ble_eq_true rfl) ?_
  intro p e s m below meth c ls K hS hP hl
  have hl : lv_has ls 2 [(0, .ref (ad 0)), (1, .int x)] := hl
  refine lv_iload_n K.hx K.hb d_M_isThing_0 rfl (lv_at hl 1 rfl) ?_
  refine lv_iconst (v := 0) K.hx K.hb d_M_isThing_1 (by decide) ?_
  refine lv_aload_n K.hx K.hb d_M_isThing_2 rfl (lv_at hl 0 rfl) ?_
  refine g_get K.1 hP (0) (by decide) rfl rfl i_M 2 (by decide) rfl (Or.inl kw_636) rfl d_M_isThing_3 ?_
  refine lv_topE (y := nI tc) htc ?_
  refine lv_iconst (v := 1) K.hx K.hb d_M_isThing_6 (by decide) ?_
  refine lv_isub K.hx K.hb d_M_isThing_7 ?_
  refine dd_S K hP hS (c_M_in l D cs ad _ _ x 0 ((nI tc) - 1)) kw_747 xm_M_in kw_745 kw_746 kw_29 rfl hl.1 d_M_isThing_8 (Nat.le_of_ble_eq_true rfl) (Nat.le_of_ble_eq_true rfl) ⟨(Nat.le_of_ble_eq_true rfl), (Nat.le_of_ble_eq_true rfl)⟩ (fun r v1 sd1 H l1 hp hP hS => ?_)
  obtain ⟨rfl, rfl, rfl⟩ := hp
  exact de_z K hP hS (wth_nar _ _ _) ⟨rfl, rfl, rfl⟩ (Nat.le_of_ble_eq_true rfl) (Nat.le_of_ble_eq_true rfl) d_M_isThing_11
set_option maxHeartbeats 4000000 in
set_option maxRecDepth 100000 in
theorem c_M_seed (l : Launch) (D : va_G) (cs : Nat → ClassId) (ad : Nat → Nat) (v : Nat → Nat → Int32) (sd : Int64) (x : Int64)  : Dm l y_M_seed b_M_seed 3 none (rmx 0 0) [.ref (ad 0), .long x] D cs ad v sd (fun r v' sd' => r = none ∧ u2 v 0 0 0 = v' ∧ x = sd') (fun cls => False) := by
  refine dw_enter (own := "WearHoursModel") rfl (Nat.le_of_ble_eq_true rfl) ?_
  intro p e s m below meth c ls K hS hP hl
  have hl : lv_has ls 3 [(0, .ref (ad 0)), (1, .long x)] := hl
  refine lv_aload_n K.hx K.hb d_M_seed_0 rfl (lv_at hl 0 rfl) ?_
  refine lv_iconst (v := 0) K.hx K.hb d_M_seed_1 (by decide) ?_
  refine g_puti K.1 hP hS (0) (by decide) rfl rfl i_M ft_M ft_M_ok n_M 0 (by decide) rfl (Or.inl kw_634) rfl rfl rfl (Nat.le_of_ble_eq_true rfl) rfl d_M_seed_2 (fun H l1 hP hS => ?_)
  refine lv_aload_n K.hx K.hb d_M_seed_5 rfl (lv_at hl 0 rfl) ?_
  refine lv_lload_n K.hx K.hb d_M_seed_6 rfl (lv_at hl 1 rfl) ?_
  refine g_put (E' := eM cs ad x) (v' := (u2 v 0 0 0)) K.1 hP hS (0) (by decide) rfl rfl i_M ft_M ft_M_ok n_M 1 (by decide) rfl (Or.inl kw_635) rfl rfl rfl (Nat.le_of_ble_eq_true rfl) rfl (fun k hk => by unfold eM; simp only [if_neg hk]) d_M_seed_7 (fun H l1 hP hS => ?_)
  exact de_v K hP hS ⟨rfl, rfl, rfl⟩ (Nat.le_of_ble_eq_true rfl) (Nat.le_of_ble_eq_true rfl) d_M_seed_10
set_option maxHeartbeats 4000000 in
set_option maxRecDepth 100000 in
theorem c_M_keep (l : Launch) (D : va_G) (cs : Nat → ClassId) (ad : Nat → Nat) (v : Nat → Nat → Int32) (sd : Int64) {t : Nat} (ht : t < 8) (x : Int32)  : Dm l y_M_keep b_M_keep 4 none (rmx 0 0) [.ref (ad 0), .int (nI t), .int x] D cs ad v sd (fun r v' sd' => r = none ∧ kpM v t x = v' ∧ sd = sd') (fun cls => False) := by
  refine dw_enter (own := "WearHoursModel") rfl (Nat.le_of_ble_eq_true rfl) ?_
  intro p e s m below meth c ls K hS hP hl
  have hl : lv_has ls 4 [(0, .ref (ad 0)), (1, .int (nI t)), (2, .int x)] := hl
  refine lv_iconst (v := 4) K.hx K.hb d_M_keep_0 (by decide) ?_
  refine lv_istore_n (lv' := [(3, .int 4), (0, .ref (ad 0)), (1, .int (nI t)), (2, .int x)]) K.hx K.hb d_M_keep_1 rfl hl (by decide) rfl (fun ls hl => ?_)
  refine lv_iload_n K.hx K.hb d_M_keep_2 rfl (lv_at hl 0 rfl) ?_
  refine lv_if_le (tgt := 34) K.hx K.hb d_M_keep_3 (by decide) (fun c_3 => (show False from by revert c_3; decide).elim) (fun _ => ?_)
  refine lv_aload_n K.hx K.hb d_M_keep_6 rfl (lv_at hl 1 rfl) ?_
  refine g_get K.1 hP (0) (by decide) rfl rfl i_M 7 (by decide) rfl (Or.inl kw_641) rfl d_M_keep_7 ?_
  refine lv_iconst (v := 5) K.hx K.hb d_M_keep_10 (by decide) ?_
  refine lv_iload_n K.hx K.hb d_M_keep_11 rfl (lv_at hl 2 rfl) ?_
  refine lv_imul K.hx K.hb d_M_keep_12 ?_
  refine lv_topE (y := nI (5 * t)) (pk_mul _ _) ?_
  refine lv_iload_n K.hx K.hb d_M_keep_13 rfl (lv_at hl 0 rfl) ?_
  refine lv_iadd K.hx K.hb d_M_keep_14 ?_
  refine lv_topE (y := nI (5 * t + 4)) (nI_add _ _) ?_
  refine lv_aload_n K.hx K.hb d_M_keep_15 rfl (lv_at hl 1 rfl) ?_
  refine g_get K.1 hP (0) (by decide) rfl rfl i_M 7 (by decide) rfl (Or.inl kw_641) rfl d_M_keep_16 ?_
  refine lv_iconst (v := 5) K.hx K.hb d_M_keep_19 (by decide) ?_
  refine lv_iload_n K.hx K.hb d_M_keep_20 rfl (lv_at hl 2 rfl) ?_
  refine lv_imul K.hx K.hb d_M_keep_21 ?_
  refine lv_topE (y := nI (5 * t)) (pk_mul _ _) ?_
  refine lv_iload_n K.hx K.hb d_M_keep_22 rfl (lv_at hl 0 rfl) ?_
  refine lv_iadd K.hx K.hb d_M_keep_23 ?_
  refine lv_topE (y := nI (5 * t + 4)) (nI_add _ _) ?_
  refine lv_iconst (v := 1) K.hx K.hb d_M_keep_24 (by decide) ?_
  refine lv_isub K.hx K.hb d_M_keep_25 ?_
  refine lv_topE (y := nI (5 * t + 3)) (nI_pred _) ?_
  refine g_iald K.1 hP (5) (by decide) rfl 0 rfl (5 * t + 3) rfl (by omega) (by decide) d_M_keep_26 ?_
  refine g_iast K.1 hP hS (5) (by decide) (fun _ => rfl) 0 rfl (5 * t + 4) rfl (by omega) (by decide) d_M_keep_27 (fun H l1 hP hS => ?_)
  refine lv_iinc (v := 3) (lv' := [(3, .int 3), (0, .ref (ad 0)), (1, .int (nI t)), (2, .int x)]) K.hx K.hb d_M_keep_28 hl (k := 0) rfl (by decide) (by decide) rfl (fun ls hl => ?_)
  refine lv_goto (tgt := 2) K.hx K.hb d_M_keep_31 (by decide) ?_
  refine lv_iload_n K.hx K.hb d_M_keep_2 rfl (lv_at hl 0 rfl) ?_
  refine lv_if_le (tgt := 34) K.hx K.hb d_M_keep_3 (by decide) (fun c_3_1 => (show False from by revert c_3_1; decide).elim) (fun _ => ?_)
  refine lv_aload_n K.hx K.hb d_M_keep_6 rfl (lv_at hl 1 rfl) ?_
  refine g_get K.1 hP (0) (by decide) rfl rfl i_M 7 (by decide) rfl (Or.inl kw_641) rfl d_M_keep_7 ?_
  refine lv_iconst (v := 5) K.hx K.hb d_M_keep_10 (by decide) ?_
  refine lv_iload_n K.hx K.hb d_M_keep_11 rfl (lv_at hl 2 rfl) ?_
  refine lv_imul K.hx K.hb d_M_keep_12 ?_
  refine lv_topE (y := nI (5 * t)) (pk_mul _ _) ?_
  refine lv_iload_n K.hx K.hb d_M_keep_13 rfl (lv_at hl 0 rfl) ?_
  refine lv_iadd K.hx K.hb d_M_keep_14 ?_
  refine lv_topE (y := nI (5 * t + 3)) (nI_add _ _) ?_
  refine lv_aload_n K.hx K.hb d_M_keep_15 rfl (lv_at hl 1 rfl) ?_
  refine g_get K.1 hP (0) (by decide) rfl rfl i_M 7 (by decide) rfl (Or.inl kw_641) rfl d_M_keep_16 ?_
  refine lv_iconst (v := 5) K.hx K.hb d_M_keep_19 (by decide) ?_
  refine lv_iload_n K.hx K.hb d_M_keep_20 rfl (lv_at hl 2 rfl) ?_
  refine lv_imul K.hx K.hb d_M_keep_21 ?_
  refine lv_topE (y := nI (5 * t)) (pk_mul _ _) ?_
  refine lv_iload_n K.hx K.hb d_M_keep_22 rfl (lv_at hl 0 rfl) ?_
  refine lv_iadd K.hx K.hb d_M_keep_23 ?_
  refine lv_topE (y := nI (5 * t + 3)) (nI_add _ _) ?_
  refine lv_iconst (v := 1) K.hx K.hb d_M_keep_24 (by decide) ?_
  refine lv_isub K.hx K.hb d_M_keep_25 ?_
  refine lv_topE (y := nI (5 * t + 2)) (nI_pred _) ?_
  refine g_iald K.1 hP (5) (by decide) rfl 0 rfl (5 * t + 2) rfl (by omega) (by decide) d_M_keep_26 ?_
  refine lv_topE (y := (v 5 (5 * t + 2))) (by first | (simp [u2_at, kpM]; done) | (simp [u2_at, kpM] <;> (intros; omega)) | (simp only [u2_at, kpM]; (repeat' split) <;> first | rfl | (exfalso; omega))) ?_
  refine g_iast K.1 hP hS (5) (by decide) (fun _ => rfl) 0 rfl (5 * t + 3) rfl (by omega) (by decide) d_M_keep_27 (fun H l1 hP hS => ?_)
  refine lv_iinc (v := 2) (lv' := [(3, .int 2), (0, .ref (ad 0)), (1, .int (nI t)), (2, .int x)]) K.hx K.hb d_M_keep_28 hl (k := 0) rfl (by decide) (by decide) rfl (fun ls hl => ?_)
  refine lv_goto (tgt := 2) K.hx K.hb d_M_keep_31 (by decide) ?_
  refine lv_iload_n K.hx K.hb d_M_keep_2 rfl (lv_at hl 0 rfl) ?_
  refine lv_if_le (tgt := 34) K.hx K.hb d_M_keep_3 (by decide) (fun c_3_2 => (show False from by revert c_3_2; decide).elim) (fun _ => ?_)
  refine lv_aload_n K.hx K.hb d_M_keep_6 rfl (lv_at hl 1 rfl) ?_
  refine g_get K.1 hP (0) (by decide) rfl rfl i_M 7 (by decide) rfl (Or.inl kw_641) rfl d_M_keep_7 ?_
  refine lv_iconst (v := 5) K.hx K.hb d_M_keep_10 (by decide) ?_
  refine lv_iload_n K.hx K.hb d_M_keep_11 rfl (lv_at hl 2 rfl) ?_
  refine lv_imul K.hx K.hb d_M_keep_12 ?_
  refine lv_topE (y := nI (5 * t)) (pk_mul _ _) ?_
  refine lv_iload_n K.hx K.hb d_M_keep_13 rfl (lv_at hl 0 rfl) ?_
  refine lv_iadd K.hx K.hb d_M_keep_14 ?_
  refine lv_topE (y := nI (5 * t + 2)) (nI_add _ _) ?_
  refine lv_aload_n K.hx K.hb d_M_keep_15 rfl (lv_at hl 1 rfl) ?_
  refine g_get K.1 hP (0) (by decide) rfl rfl i_M 7 (by decide) rfl (Or.inl kw_641) rfl d_M_keep_16 ?_
  refine lv_iconst (v := 5) K.hx K.hb d_M_keep_19 (by decide) ?_
  refine lv_iload_n K.hx K.hb d_M_keep_20 rfl (lv_at hl 2 rfl) ?_
  refine lv_imul K.hx K.hb d_M_keep_21 ?_
  refine lv_topE (y := nI (5 * t)) (pk_mul _ _) ?_
  refine lv_iload_n K.hx K.hb d_M_keep_22 rfl (lv_at hl 0 rfl) ?_
  refine lv_iadd K.hx K.hb d_M_keep_23 ?_
  refine lv_topE (y := nI (5 * t + 2)) (nI_add _ _) ?_
  refine lv_iconst (v := 1) K.hx K.hb d_M_keep_24 (by decide) ?_
  refine lv_isub K.hx K.hb d_M_keep_25 ?_
  refine lv_topE (y := nI (5 * t + 1)) (nI_pred _) ?_
  refine g_iald K.1 hP (5) (by decide) rfl 0 rfl (5 * t + 1) rfl (by omega) (by decide) d_M_keep_26 ?_
  refine lv_topE (y := (v 5 (5 * t + 1))) (by first | (simp [u2_at, kpM]; done) | (simp [u2_at, kpM] <;> (intros; omega)) | (simp only [u2_at, kpM]; (repeat' split) <;> first | rfl | (exfalso; omega))) ?_
  refine g_iast K.1 hP hS (5) (by decide) (fun _ => rfl) 0 rfl (5 * t + 2) rfl (by omega) (by decide) d_M_keep_27 (fun H l1 hP hS => ?_)
  refine lv_iinc (v := 1) (lv' := [(3, .int 1), (0, .ref (ad 0)), (1, .int (nI t)), (2, .int x)]) K.hx K.hb d_M_keep_28 hl (k := 0) rfl (by decide) (by decide) rfl (fun ls hl => ?_)
  refine lv_goto (tgt := 2) K.hx K.hb d_M_keep_31 (by decide) ?_
  refine lv_iload_n K.hx K.hb d_M_keep_2 rfl (lv_at hl 0 rfl) ?_
  refine lv_if_le (tgt := 34) K.hx K.hb d_M_keep_3 (by decide) (fun c_3_3 => (show False from by revert c_3_3; decide).elim) (fun _ => ?_)
  refine lv_aload_n K.hx K.hb d_M_keep_6 rfl (lv_at hl 1 rfl) ?_
  refine g_get K.1 hP (0) (by decide) rfl rfl i_M 7 (by decide) rfl (Or.inl kw_641) rfl d_M_keep_7 ?_
  refine lv_iconst (v := 5) K.hx K.hb d_M_keep_10 (by decide) ?_
  refine lv_iload_n K.hx K.hb d_M_keep_11 rfl (lv_at hl 2 rfl) ?_
  refine lv_imul K.hx K.hb d_M_keep_12 ?_
  refine lv_topE (y := nI (5 * t)) (pk_mul _ _) ?_
  refine lv_iload_n K.hx K.hb d_M_keep_13 rfl (lv_at hl 0 rfl) ?_
  refine lv_iadd K.hx K.hb d_M_keep_14 ?_
  refine lv_topE (y := nI (5 * t + 1)) (nI_add _ _) ?_
  refine lv_aload_n K.hx K.hb d_M_keep_15 rfl (lv_at hl 1 rfl) ?_
  refine g_get K.1 hP (0) (by decide) rfl rfl i_M 7 (by decide) rfl (Or.inl kw_641) rfl d_M_keep_16 ?_
  refine lv_iconst (v := 5) K.hx K.hb d_M_keep_19 (by decide) ?_
  refine lv_iload_n K.hx K.hb d_M_keep_20 rfl (lv_at hl 2 rfl) ?_
  refine lv_imul K.hx K.hb d_M_keep_21 ?_
  refine lv_topE (y := nI (5 * t)) (pk_mul _ _) ?_
  refine lv_iload_n K.hx K.hb d_M_keep_22 rfl (lv_at hl 0 rfl) ?_
  refine lv_iadd K.hx K.hb d_M_keep_23 ?_
  refine lv_topE (y := nI (5 * t + 1)) (nI_add _ _) ?_
  refine lv_iconst (v := 1) K.hx K.hb d_M_keep_24 (by decide) ?_
  refine lv_isub K.hx K.hb d_M_keep_25 ?_
  refine lv_topE (y := nI (5 * t + 0)) (nI_pred _) ?_
  refine g_iald K.1 hP (5) (by decide) rfl 0 rfl (5 * t + 0) rfl (by omega) (by decide) d_M_keep_26 ?_
  refine lv_topE (y := (v 5 (5 * t + 0))) (by first | (simp [u2_at, kpM]; done) | (simp [u2_at, kpM] <;> (intros; omega)) | (simp only [u2_at, kpM]; (repeat' split) <;> first | rfl | (exfalso; omega))) ?_
  refine g_iast K.1 hP hS (5) (by decide) (fun _ => rfl) 0 rfl (5 * t + 1) rfl (by omega) (by decide) d_M_keep_27 (fun H l1 hP hS => ?_)
  refine lv_iinc (v := 0) (lv' := [(3, .int 0), (0, .ref (ad 0)), (1, .int (nI t)), (2, .int x)]) K.hx K.hb d_M_keep_28 hl (k := 0) rfl (by decide) (by decide) rfl (fun ls hl => ?_)
  refine lv_goto (tgt := 2) K.hx K.hb d_M_keep_31 (by decide) ?_
  refine lv_iload_n K.hx K.hb d_M_keep_2 rfl (lv_at hl 0 rfl) ?_
  refine lv_if_le (tgt := 34) K.hx K.hb d_M_keep_3 (by decide) (fun _ => ?_) (fun c_3_4 => (show False from by revert c_3_4; decide).elim)
  refine lv_aload_n K.hx K.hb d_M_keep_34 rfl (lv_at hl 1 rfl) ?_
  refine g_get K.1 hP (0) (by decide) rfl rfl i_M 7 (by decide) rfl (Or.inl kw_641) rfl d_M_keep_35 ?_
  refine lv_iconst (v := 5) K.hx K.hb d_M_keep_38 (by decide) ?_
  refine lv_iload_n K.hx K.hb d_M_keep_39 rfl (lv_at hl 2 rfl) ?_
  refine lv_imul K.hx K.hb d_M_keep_40 ?_
  refine lv_topE (y := nI (5 * t)) (pk_mul _ _) ?_
  refine lv_iload_n K.hx K.hb d_M_keep_41 rfl (lv_at hl 3 rfl) ?_
  refine g_iast K.1 hP hS (5) (by decide) (fun _ => rfl) 0 rfl (5 * t) rfl (by omega) (by decide) d_M_keep_42 (fun H l1 hP hS => ?_)
  exact de_v K hP hS ⟨rfl, (kpM_eq v t x).symm, rfl⟩ (Nat.le_of_ble_eq_true rfl) (Nat.le_of_ble_eq_true rfl) d_M_keep_43
set_option maxHeartbeats 4000000 in
set_option maxRecDepth 100000 in
theorem c_M_isBarred (l : Launch) (D : va_G) (cs : Nat → ClassId) (ad : Nat → Nat) (v : Nat → Nat → Int32) (sd : Int64) {t : Nat} (ht : t < 8)  : Dm l y_M_isBarred b_M_isBarred 2 (some .boolean) (rmx 0 0) [.ref (ad 0), .int (nI t)] D cs ad v sd (fun r v' sd' => r = some (.int (barM v t)) ∧ v = v' ∧ sd = sd') (fun cls => False) := by
  refine dw_enter (own := "WearHoursModel") rfl (Nat.le_of_ble_eq_true rfl) ?_
  intro p e s m below meth c ls K hS hP hl
  have hl : lv_has ls 2 [(0, .ref (ad 0)), (1, .int (nI t))] := hl
  refine lv_aload_n K.hx K.hb d_M_isBarred_0 rfl (lv_at hl 0 rfl) ?_
  refine g_get K.1 hP (0) (by decide) rfl rfl i_M 6 (by decide) rfl (Or.inl kw_640) rfl d_M_isBarred_1 ?_
  refine lv_iload_n K.hx K.hb d_M_isBarred_4 rfl (lv_at hl 1 rfl) ?_
  refine g_zald K.1 hP (4) (by decide) rfl 1 rfl (t) rfl (by omega) (by decide) d_M_isBarred_5 ?_
  refine lv_if_ne (tgt := 24) K.hx K.hb d_M_isBarred_6 (by decide) (fun c_6 => ?_) (fun c_6 => ?_)
  · refine lv_iconst (v := 1) K.hx K.hb d_M_isBarred_24 (by decide) ?_
    refine lv_goto (tgt := 29) K.hx K.hb d_M_isBarred_25 (by decide) ?_
    exact de_z K hP hS rfl ⟨by rw [show barM v t = 1 from by simp [barM, *]], rfl, rfl⟩ (Nat.le_of_ble_eq_true rfl) (Nat.le_of_ble_eq_true rfl) d_M_isBarred_29
  · refine lv_aload_n K.hx K.hb d_M_isBarred_9 rfl (lv_at hl 0 rfl) ?_
    refine g_get K.1 hP (0) (by decide) rfl rfl i_M 5 (by decide) rfl (Or.inl kw_639) rfl d_M_isBarred_10 ?_
    refine lv_iload_n K.hx K.hb d_M_isBarred_13 rfl (lv_at hl 1 rfl) ?_
    refine g_iald K.1 hP (3) (by decide) rfl 0 rfl (t) rfl (by omega) (by decide) d_M_isBarred_14 ?_
    refine lv_aload_n K.hx K.hb d_M_isBarred_15 rfl (lv_at hl 0 rfl) ?_
    refine g_get K.1 hP (0) (by decide) rfl rfl i_M 4 (by decide) rfl (Or.inl kw_638) rfl d_M_isBarred_16 ?_
    refine lv_iload_n K.hx K.hb d_M_isBarred_19 rfl (lv_at hl 1 rfl) ?_
    refine g_iald K.1 hP (2) (by decide) rfl 0 rfl (t) rfl (by omega) (by decide) d_M_isBarred_20 ?_
    refine lv_icmp_lt (tgt := 28) K.hx K.hb d_M_isBarred_21 (by decide) (fun c_21 => ?_) (fun c_21 => ?_)
    · refine lv_iconst (v := 0) K.hx K.hb d_M_isBarred_28 (by decide) ?_
      exact de_z K hP hS rfl ⟨by rw [show barM v t = 0 from by simp [barM, *]], rfl, rfl⟩ (Nat.le_of_ble_eq_true rfl) (Nat.le_of_ble_eq_true rfl) d_M_isBarred_29
    · refine lv_iconst (v := 1) K.hx K.hb d_M_isBarred_24 (by decide) ?_
      refine lv_goto (tgt := 29) K.hx K.hb d_M_isBarred_25 (by decide) ?_
      exact de_z K hP hS rfl ⟨by rw [show barM v t = 1 from by simp [barM, *]], rfl, rfl⟩ (Nat.le_of_ble_eq_true rfl) (Nat.le_of_ble_eq_true rfl) d_M_isBarred_29
set_option maxHeartbeats 4000000 in
set_option maxRecDepth 100000 in
theorem c_M_number (l : Launch) (D : va_G) (cs : Nat → ClassId) (ad : Nat → Nat) (v : Nat → Nat → Int32) (sd : Int64) (x : Int32)  : Dm l y_M_number b_M_number 4 (some .long) (rmx 0 0) [.ref (ad 0), .int x] D cs ad v sd (fun r v' sd' => r = some (.long (dr4 sd x.toInt64)) ∧ v = v' ∧ sd = sd') (fun cls => False) := by
  refine dw_enter (own := "WearHoursModel") rfl (Nat.le_of_ble_eq_true rfl) ?_
  intro p e s m below meth c ls K hS hP hl
  have hl : lv_has ls 4 [(0, .ref (ad 0)), (1, .int x)] := hl
  refine lv_aload_n K.hx K.hb d_M_number_0 rfl (lv_at hl 0 rfl) ?_
  refine g_get K.1 hP (0) (by decide) rfl rfl i_M 1 (by decide) rfl (Or.inl kw_635) rfl d_M_number_1 ?_
  refine lv_iload_n K.hx K.hb d_M_number_4 rfl (lv_at hl 1 rfl) ?_
  refine lv_i2l K.hx K.hb d_M_number_5 rfl ?_
  refine lv_ldc2 (v := (-7046029254386353131)) K.hx K.hb K.1.1.2.2.2.1 (K.1.1.2.2.2.2 _ kw_780) d_M_number_6 ?_
  refine lv_lmul K.hx K.hb d_M_number_9 ?_
  refine lv_ladd K.hx K.hb d_M_number_10 ?_
  refine lv_topl (fun z1 ez1 => ?_)
  refine lv_lstore_n (lv' := [(2, .long z1), (0, .ref (ad 0)), (1, .int x)]) K.hx K.hb d_M_number_11 rfl hl (by decide) rfl (fun ls hl => ?_)
  refine lv_lload_n K.hx K.hb d_M_number_12 rfl (lv_at hl 0 rfl) ?_
  refine lv_lload_n K.hx K.hb d_M_number_13 rfl (lv_at hl 0 rfl) ?_
  refine lv_bipush (v := 30) K.hx K.hb d_M_number_14 (by decide) ?_
  refine lv_lushr K.hx K.hb d_M_number_16 rfl ?_
  refine lv_lxor K.hx K.hb d_M_number_17 ?_
  refine lv_ldc2 (v := (-4658895280553007687)) K.hx K.hb K.1.1.2.2.2.1 (K.1.1.2.2.2.2 _ kw_781) d_M_number_18 ?_
  refine lv_lmul K.hx K.hb d_M_number_21 ?_
  refine lv_topl (fun z2 ez2 => ?_)
  refine lv_lstore_n (lv' := [(2, .long z2), (0, .ref (ad 0)), (1, .int x)]) K.hx K.hb d_M_number_22 rfl hl (by decide) rfl (fun ls hl => ?_)
  refine lv_lload_n K.hx K.hb d_M_number_23 rfl (lv_at hl 0 rfl) ?_
  refine lv_lload_n K.hx K.hb d_M_number_24 rfl (lv_at hl 0 rfl) ?_
  refine lv_bipush (v := 27) K.hx K.hb d_M_number_25 (by decide) ?_
  refine lv_lushr K.hx K.hb d_M_number_27 rfl ?_
  refine lv_lxor K.hx K.hb d_M_number_28 ?_
  refine lv_ldc2 (v := (-7723592293110705685)) K.hx K.hb K.1.1.2.2.2.1 (K.1.1.2.2.2.2 _ kw_782) d_M_number_29 ?_
  refine lv_lmul K.hx K.hb d_M_number_32 ?_
  refine lv_topl (fun z3 ez3 => ?_)
  refine lv_lstore_n (lv' := [(2, .long z3), (0, .ref (ad 0)), (1, .int x)]) K.hx K.hb d_M_number_33 rfl hl (by decide) rfl (fun ls hl => ?_)
  refine lv_lload_n K.hx K.hb d_M_number_34 rfl (lv_at hl 0 rfl) ?_
  refine lv_lload_n K.hx K.hb d_M_number_35 rfl (lv_at hl 0 rfl) ?_
  refine lv_bipush (v := 31) K.hx K.hb d_M_number_36 (by decide) ?_
  refine lv_lushr K.hx K.hb d_M_number_38 rfl ?_
  refine lv_lxor K.hx K.hb d_M_number_39 ?_
  refine lv_topl (fun z4 ez4 => ?_)
  exact de_l K hP hS ⟨by rw [show z4 = dr4 sd x.toInt64 from by subst ez1 ez2 ez3 ez4; rfl], rfl, rfl⟩ (Nat.le_of_ble_eq_true rfl) (Nat.le_of_ble_eq_true rfl) d_M_number_40
set_option maxHeartbeats 4000000 in
set_option maxRecDepth 100000 in
theorem c_M_areHours (l : Launch) (D : va_G) (cs : Nat → ClassId) (ad : Nat → Nat) (v : Nat → Nat → Int32) (sd : Int64) (x y : Int32)  : Dm l y_M_areHours b_M_areHours 2 (some .boolean) (rmx 1 0) [.int x, .int y] D cs ad v sd (fun r v' sd' => r = some (.int (if wthZ x 0 168 = 0 then 0 else if wthZ y 0 168 = 0 then 0 else if y ≤ x then 0 else 1)) ∧ v = v' ∧ sd = sd') (fun cls => False) := by
  refine dw_enter (own := "WearHoursModel") rfl (Nat.le_of_ble_eq_true rfl) ?_
  intro p e s m below meth c ls K hS hP hl
  have hl : lv_has ls 2 [(0, .int x), (1, .int y)] := hl
  refine lv_iload_n K.hx K.hb d_M_areHours_0 rfl (lv_at hl 0 rfl) ?_
  refine lv_iconst (v := 0) K.hx K.hb d_M_areHours_1 (by decide) ?_
  refine lv_sipush (v := 168) K.hx K.hb d_M_areHours_2 (by decide) ?_
  refine dd_S K hP hS (c_M_in l D cs ad _ _ x 0 168) kw_747 xm_M_in kw_745 kw_746 kw_29 rfl hl.1 d_M_areHours_5 (Nat.le_of_ble_eq_true rfl) (Nat.le_of_ble_eq_true rfl) ⟨(Nat.le_of_ble_eq_true rfl), (Nat.le_of_ble_eq_true rfl)⟩ (fun r v1 sd1 H l1 hp hP hS => ?_)
  obtain ⟨rfl, rfl, rfl⟩ := hp
  refine lv_if_eq (tgt := 31) K.hx K.hb d_M_areHours_8 (by decide) (fun c_8 => ?_) (fun c_8 => ?_)
  · refine lv_iconst (v := 0) K.hx K.hb d_M_areHours_31 (by decide) ?_
    exact de_z K hP hS rfl ⟨by simp [*], rfl, rfl⟩ (Nat.le_of_ble_eq_true rfl) (Nat.le_of_ble_eq_true rfl) d_M_areHours_32
  · refine lv_iload_n K.hx K.hb d_M_areHours_11 rfl (lv_at hl 1 rfl) ?_
    refine lv_iconst (v := 0) K.hx K.hb d_M_areHours_12 (by decide) ?_
    refine lv_sipush (v := 168) K.hx K.hb d_M_areHours_13 (by decide) ?_
    refine dd_S K hP hS (c_M_in l D cs ad _ _ y 0 168) kw_747 xm_M_in kw_745 kw_746 kw_29 rfl hl.1 d_M_areHours_16 (Nat.le_of_ble_eq_true rfl) (Nat.le_of_ble_eq_true rfl) ⟨(Nat.le_of_ble_eq_true rfl), (Nat.le_of_ble_eq_true rfl)⟩ (fun r v1 sd1 H l1 hp hP hS => ?_)
    obtain ⟨rfl, rfl, rfl⟩ := hp
    refine lv_if_eq (tgt := 31) K.hx K.hb d_M_areHours_19 (by decide) (fun c_19 => ?_) (fun c_19 => ?_)
    · refine lv_iconst (v := 0) K.hx K.hb d_M_areHours_31 (by decide) ?_
      exact de_z K hP hS rfl ⟨by simp [*], rfl, rfl⟩ (Nat.le_of_ble_eq_true rfl) (Nat.le_of_ble_eq_true rfl) d_M_areHours_32
    · refine lv_iload_n K.hx K.hb d_M_areHours_22 rfl (lv_at hl 0 rfl) ?_
      refine lv_iload_n K.hx K.hb d_M_areHours_23 rfl (lv_at hl 1 rfl) ?_
      refine lv_icmp_ge (tgt := 31) K.hx K.hb d_M_areHours_24 (by decide) (fun c_24 => ?_) (fun c_24 => ?_)
      · refine lv_iconst (v := 0) K.hx K.hb d_M_areHours_31 (by decide) ?_
        exact de_z K hP hS rfl ⟨by simp [*], rfl, rfl⟩ (Nat.le_of_ble_eq_true rfl) (Nat.le_of_ble_eq_true rfl) d_M_areHours_32
      · refine lv_iconst (v := 1) K.hx K.hb d_M_areHours_27 (by decide) ?_
        refine lv_goto (tgt := 32) K.hx K.hb d_M_areHours_28 (by decide) ?_
        exact de_z K hP hS rfl ⟨by simp [*], rfl, rfl⟩ (Nat.le_of_ble_eq_true rfl) (Nat.le_of_ble_eq_true rfl) d_M_areHours_32
set_option maxHeartbeats 4000000 in
set_option maxRecDepth 100000 in
theorem c_M_later (l : Launch) (D : va_G) (cs : Nat → ClassId) (ad : Nat → Nat) (v : Nat → Nat → Int32) (sd : Int64) (x y : Int32)  : Dm l y_M_later b_M_later 2 (some .int) (rmx 0 0) [.int x, .int y] D cs ad v sd (fun r v' sd' => r = some (.int (if x ≤ y then y else x)) ∧ v = v' ∧ sd = sd') (fun cls => False) := by
  refine dw_enter (own := "WearHoursModel") rfl (Nat.le_of_ble_eq_true rfl) ?_
  intro p e s m below meth c ls K hS hP hl
  have hl : lv_has ls 2 [(0, .int x), (1, .int y)] := hl
  refine lv_iload_n K.hx K.hb d_M_later_0 rfl (lv_at hl 0 rfl) ?_
  refine lv_iload_n K.hx K.hb d_M_later_1 rfl (lv_at hl 1 rfl) ?_
  refine lv_icmp_le (tgt := 9) K.hx K.hb d_M_later_2 (by decide) (fun c_2 => ?_) (fun c_2 => ?_)
  · refine lv_iload_n K.hx K.hb d_M_later_9 rfl (lv_at hl 1 rfl) ?_
    exact de_i K hP hS ⟨by simp [*], rfl, rfl⟩ (Nat.le_of_ble_eq_true rfl) (Nat.le_of_ble_eq_true rfl) d_M_later_10
  · refine lv_iload_n K.hx K.hb d_M_later_5 rfl (lv_at hl 0 rfl) ?_
    refine lv_goto (tgt := 10) K.hx K.hb d_M_later_6 (by decide) ?_
    exact de_i K hP hS ⟨by simp [*], rfl, rfl⟩ (Nat.le_of_ble_eq_true rfl) (Nat.le_of_ble_eq_true rfl) d_M_later_10
end
section
/-! the reference's public methods -/
theorem wth_01 (x a b : Int32) : wthZ x a b = 0 ∨ wthZ x a b = 1 := by
  unfold wthZ
  split
  · exact Or.inl rfl
  · split
    · exact Or.inl rfl
    · exact Or.inr rfl
theorem barM_01 (v : Nat → Nat → Int32) (i : Nat) : barM v i = 0 ∨ barM v i = 1 := by
  unfold barM
  split
  · split
    · exact Or.inl rfl
    · exact Or.inr rfl
  · exact Or.inr rfl
theorem one_ne {z : Int32} (h : z = 1) : ¬ z = 0 := by
  rw [h]; decide
theorem wth_yes {x : Int32} {n : Nat} (hn : n ≤ 8) (h : ∃ i, i < n ∧ x = nI i) : wthZ x 0 (nI n - 1) = 1 := by
  obtain ⟨i, hi, rfl⟩ := h
  obtain ⟨k, rfl⟩ : ∃ k, n = k + 1 := ⟨n - 1, by omega⟩
  rw [nI_pred]
  unfold wthZ
  rw [if_neg (nI_pos (by omega)), if_neg (nI_nlt (by omega) (by omega))]
theorem wth_no {x : Int32} {n : Nat} (hn : n ≤ 8) (h : ¬ ∃ i, i < n ∧ x = nI i) : wthZ x 0 (nI n - 1) = 0 := by
  unfold wthZ
  by_cases hx : x < 0
  · rw [if_pos hx]
  · rw [if_neg hx]
    obtain ⟨j, hj, rfl⟩ := nI_of hx
    have hjn : ¬ j < n := fun q => h ⟨j, q, rfl⟩
    rcases (show n = 0 ∨ ∃ k, n = k + 1 by rcases n with _ | k; exact Or.inl rfl; exact Or.inr ⟨k, rfl⟩) with rfl | ⟨k, rfl⟩
    · rw [if_pos (show nI 0 - 1 < nI j from by
        have h1 := nI_toInt hj
        rw [Int32.lt_iff_toInt_lt, h1]
        have h2 : (nI 0 - 1).toInt = -1 := by decide
        omega)]
    · rw [nI_pred, if_pos (nI_lt (by omega) hj)]
theorem wth_yes4 {x : Int32} {n : Nat} (hn : n = 4) (h : ∃ i, i < n ∧ x = nI i) : wthZ x 0 3 = 1 := by
  subst hn
  have e : nI 4 - 1 = 3 := by decide
  rw [← e]
  exact wth_yes (by omega) h
theorem wth_no4 {x : Int32} {n : Nat} (hn : n = 4) (h : ¬ ∃ i, i < n ∧ x = nI i) : wthZ x 0 3 = 0 := by
  subst hn
  have e : nI 4 - 1 = 3 := by decide
  rw [← e]
  exact wth_no (by omega) h
def shZ (z : Int64) : Int64 := ush (z <<< ((1 : Int32).toInt64 &&& 63)) 1
def lfZ (sd : Int64) (i : Nat) (y : Int32) : Int64 := shZ (dr4 sd (nI (1001 * i) + y + 1).toInt64)
def lfD (u : Int32) (z : Int64) : Int32 := u * (50 + (z - z / 101 * 101).toInt32) / 100
abbrev hrZ (x y : Int32) : Prop := ¬ x < 0 ∧ ¬ 168 < y ∧ x < y
theorem hr_eq (x y : Int32) : (if wthZ x 0 168 = 0 then (0 : Int32) else if wthZ y 0 168 = 0 then 0 else if y ≤ x then 0 else 1) = if hrZ x y then 1 else 0 := by
  have e0 : (0 : Int32).toInt = 0 := rfl
  have e1 : (168 : Int32).toInt = 168 := rfl
  simp only [wthZ, hrZ, Int32.lt_iff_toInt_lt, Int32.le_iff_toInt_le, e0, e1]
  by_cases a1 : x.toInt < 0
  · simp [a1]
  · by_cases a2 : 168 < x.toInt
    · simp [a1, a2]
      intros
      omega
    · by_cases a3 : y.toInt < 0
      · simp [a1, a2, a3]
        intro a4
        omega
      · by_cases a4 : 168 < y.toInt
        · simp [a1, a2, a3, a4]
        · by_cases a5 : y.toInt ≤ x.toInt
          · simp [a1, a2, a3, a4, a5]
          · simp [a1, a2, a3, a4, a5, Int.not_le.mp a5]
set_option maxHeartbeats 4000000 in
set_option maxRecDepth 100000 in
theorem c_M_thing (l : Launch) (D : va_G) (cs : Nat → ClassId) (ad : Nat → Nat) (v : Nat → Nat → Int32) (sd : Int64) {tc : Nat} (htc : v 0 2 = nI tc) (ht8 : tc ≤ 8) (x y : Int32)  : Dm l y_M_thing b_M_thing 4 (some .int) (rmx 1 0) [.ref (ad 0), .int x, .int y] D cs ad v sd (fun r v' sd' => ((¬ wthZ x 1 1000000 = 0 ∧ ¬ wthZ y 1 1000000 = 0) ∧ tc < 8 ∧ r = some (.int (nI tc)) ∧ u2 (u2 (u2 (u2 (u2 (u2 (u2 (u2 (u2 (u2 (u2 v 0 0 0) 1 tc x) 2 tc y) 3 tc 0) 4 tc 0) 5 (5 * tc + 0) 0) 5 (5 * tc + 1) 0) 5 (5 * tc + 2) 0) 5 (5 * tc + 3) 0) 5 (5 * tc + 4) 0) 0 2 (nI (tc + 1)) = v' ∧ sd = sd') ∨ (¬ (¬ wthZ x 1 1000000 = 0 ∧ ¬ wthZ y 1 1000000 = 0) ∧ r = some (.int 0) ∧ u2 v 0 0 1 = v' ∧ sd = sd') ∨ ((¬ wthZ x 1 1000000 = 0 ∧ ¬ wthZ y 1 1000000 = 0) ∧ ¬ tc < 8 ∧ r = some (.int 0) ∧ u2 v 0 0 2 = v' ∧ sd = sd')) (fun cls => False) := by
  refine dw_enter (own := "WearHoursModel") rfl (Nat.le_of_ble_eq_true rfl) ?_
  intro p e s m below meth c ls K hS hP hl
  have hl : lv_has ls 4 [(0, .ref (ad 0)), (1, .int x), (2, .int y)] := hl
  refine lv_aload_n K.hx K.hb d_M_thing_0 rfl (lv_at hl 0 rfl) ?_
  refine lv_iload_n K.hx K.hb d_M_thing_1 rfl (lv_at hl 1 rfl) ?_
  refine lv_iconst (v := 1) K.hx K.hb d_M_thing_2 (by decide) ?_
  refine lv_ldc (v := 1000000) K.hx K.hb K.1.1.2.2.2.1 (K.1.1.2.2.2.2 _ kw_744) d_M_thing_3 ?_
  refine dd_S K hP hS (c_M_in l D cs ad _ _ x 1 1000000) kw_747 xm_M_in kw_745 kw_746 kw_29 rfl hl.1 d_M_thing_5 (Nat.le_of_ble_eq_true rfl) (Nat.le_of_ble_eq_true rfl) ⟨(Nat.le_of_ble_eq_true rfl), (Nat.le_of_ble_eq_true rfl)⟩ (fun r v1 sd1 H l1 hp hP hS => ?_)
  obtain ⟨rfl, rfl, rfl⟩ := hp
  rcases wth_01 x 1 1000000 with w_5 | w_5
  · refine lv_topE (y := 0) w_5 ?_
    refine lv_if_eq (tgt := 25) K.hx K.hb d_M_thing_8 (by decide) (fun _ => ?_) (fun c_8 => (show False from by revert c_8; decide).elim)
    refine lv_iconst (v := 0) K.hx K.hb d_M_thing_25 (by decide) ?_
    refine lv_aload_n K.hx K.hb d_M_thing_26 rfl (lv_at hl 0 rfl) ?_
    refine g_get K.1 hP (0) (by decide) rfl rfl i_M 2 (by decide) rfl (Or.inl kw_636) rfl d_M_thing_27 ?_
    refine lv_topE (y := nI tc) htc ?_
    refine lv_bipush (v := 8) K.hx K.hb d_M_thing_30 (by decide) ?_
    refine lv_icmp_ge (tgt := 39) K.hx K.hb d_M_thing_32 (by decide) (fun c_32 => ?_) (fun c_32 => ?_)
    · refine lv_iconst (v := 0) K.hx K.hb d_M_thing_39 (by decide) ?_
      refine lv_iconst (v := 1) K.hx K.hb d_M_thing_40 (by decide) ?_
      refine dd_V K hP hS (c_M_goes l D cs ad _ _ 0 0 1) kw_751 xm_M_goes kw_748 kw_750 kw_13 (g_recv K.1.2.1 hP (0) (by decide) rfl rfl) rfl hl.1 d_M_thing_41 (Nat.le_of_ble_eq_true rfl) (Nat.le_of_ble_eq_true rfl) ⟨(Nat.le_of_ble_eq_true rfl), (Nat.le_of_ble_eq_true rfl)⟩ (fun r v1 sd1 H l1 hp hP hS => ?_)
      obtain ⟨rfl, rfl, rfl⟩ := hp
      have hgz : gz 0 0 1 = 1 := by decide
      rw [hgz] at hP
      refine lv_topE (y := 0) (by rw [hgz]; decide) ?_
      refine lv_if_ne (tgt := 49) K.hx K.hb d_M_thing_44 (by decide) (fun c_44 => (show False from by revert c_44; decide).elim) (fun _ => ?_)
      refine lv_iconst (v := 0) K.hx K.hb d_M_thing_47 (by decide) ?_
      exact de_i K hP hS (Or.inr (Or.inl ⟨(fun h => h.1 w_5), rfl, rfl, rfl⟩)) (Nat.le_of_ble_eq_true rfl) (Nat.le_of_ble_eq_true rfl) d_M_thing_48
    · refine lv_iconst (v := 1) K.hx K.hb d_M_thing_35 (by decide) ?_
      refine lv_goto (tgt := 40) K.hx K.hb d_M_thing_36 (by decide) ?_
      refine lv_iconst (v := 1) K.hx K.hb d_M_thing_40 (by decide) ?_
      refine dd_V K hP hS (c_M_goes l D cs ad _ _ 0 1 1) kw_751 xm_M_goes kw_748 kw_750 kw_13 (g_recv K.1.2.1 hP (0) (by decide) rfl rfl) rfl hl.1 d_M_thing_41 (Nat.le_of_ble_eq_true rfl) (Nat.le_of_ble_eq_true rfl) ⟨(Nat.le_of_ble_eq_true rfl), (Nat.le_of_ble_eq_true rfl)⟩ (fun r v1 sd1 H l1 hp hP hS => ?_)
      obtain ⟨rfl, rfl, rfl⟩ := hp
      have hgz : gz 0 1 1 = 1 := by decide
      rw [hgz] at hP
      refine lv_topE (y := 0) (by rw [hgz]; decide) ?_
      refine lv_if_ne (tgt := 49) K.hx K.hb d_M_thing_44 (by decide) (fun c_44 => (show False from by revert c_44; decide).elim) (fun _ => ?_)
      refine lv_iconst (v := 0) K.hx K.hb d_M_thing_47 (by decide) ?_
      exact de_i K hP hS (Or.inr (Or.inl ⟨(fun h => h.1 w_5), rfl, rfl, rfl⟩)) (Nat.le_of_ble_eq_true rfl) (Nat.le_of_ble_eq_true rfl) d_M_thing_48
  · refine lv_topE (y := 1) w_5 ?_
    refine lv_if_eq (tgt := 25) K.hx K.hb d_M_thing_8 (by decide) (fun c_8 => (show False from by revert c_8; decide).elim) (fun _ => ?_)
    refine lv_iload_n K.hx K.hb d_M_thing_11 rfl (lv_at hl 2 rfl) ?_
    refine lv_iconst (v := 1) K.hx K.hb d_M_thing_12 (by decide) ?_
    refine lv_ldc (v := 1000000) K.hx K.hb K.1.1.2.2.2.1 (K.1.1.2.2.2.2 _ kw_744) d_M_thing_13 ?_
    refine dd_S K hP hS (c_M_in l D cs ad _ _ y 1 1000000) kw_747 xm_M_in kw_745 kw_746 kw_29 rfl hl.1 d_M_thing_15 (Nat.le_of_ble_eq_true rfl) (Nat.le_of_ble_eq_true rfl) ⟨(Nat.le_of_ble_eq_true rfl), (Nat.le_of_ble_eq_true rfl)⟩ (fun r v1 sd1 H l1 hp hP hS => ?_)
    obtain ⟨rfl, rfl, rfl⟩ := hp
    rcases wth_01 y 1 1000000 with w_15 | w_15
    · refine lv_topE (y := 0) w_15 ?_
      refine lv_if_eq (tgt := 25) K.hx K.hb d_M_thing_18 (by decide) (fun _ => ?_) (fun c_18 => (show False from by revert c_18; decide).elim)
      refine lv_iconst (v := 0) K.hx K.hb d_M_thing_25 (by decide) ?_
      refine lv_aload_n K.hx K.hb d_M_thing_26 rfl (lv_at hl 0 rfl) ?_
      refine g_get K.1 hP (0) (by decide) rfl rfl i_M 2 (by decide) rfl (Or.inl kw_636) rfl d_M_thing_27 ?_
      refine lv_topE (y := nI tc) htc ?_
      refine lv_bipush (v := 8) K.hx K.hb d_M_thing_30 (by decide) ?_
      refine lv_icmp_ge (tgt := 39) K.hx K.hb d_M_thing_32 (by decide) (fun c_32 => ?_) (fun c_32 => ?_)
      · refine lv_iconst (v := 0) K.hx K.hb d_M_thing_39 (by decide) ?_
        refine lv_iconst (v := 1) K.hx K.hb d_M_thing_40 (by decide) ?_
        refine dd_V K hP hS (c_M_goes l D cs ad _ _ 0 0 1) kw_751 xm_M_goes kw_748 kw_750 kw_13 (g_recv K.1.2.1 hP (0) (by decide) rfl rfl) rfl hl.1 d_M_thing_41 (Nat.le_of_ble_eq_true rfl) (Nat.le_of_ble_eq_true rfl) ⟨(Nat.le_of_ble_eq_true rfl), (Nat.le_of_ble_eq_true rfl)⟩ (fun r v1 sd1 H l1 hp hP hS => ?_)
        obtain ⟨rfl, rfl, rfl⟩ := hp
        have hgz : gz 0 0 1 = 1 := by decide
        rw [hgz] at hP
        refine lv_topE (y := 0) (by rw [hgz]; decide) ?_
        refine lv_if_ne (tgt := 49) K.hx K.hb d_M_thing_44 (by decide) (fun c_44 => (show False from by revert c_44; decide).elim) (fun _ => ?_)
        refine lv_iconst (v := 0) K.hx K.hb d_M_thing_47 (by decide) ?_
        exact de_i K hP hS (Or.inr (Or.inl ⟨(fun h => h.2 w_15), rfl, rfl, rfl⟩)) (Nat.le_of_ble_eq_true rfl) (Nat.le_of_ble_eq_true rfl) d_M_thing_48
      · refine lv_iconst (v := 1) K.hx K.hb d_M_thing_35 (by decide) ?_
        refine lv_goto (tgt := 40) K.hx K.hb d_M_thing_36 (by decide) ?_
        refine lv_iconst (v := 1) K.hx K.hb d_M_thing_40 (by decide) ?_
        refine dd_V K hP hS (c_M_goes l D cs ad _ _ 0 1 1) kw_751 xm_M_goes kw_748 kw_750 kw_13 (g_recv K.1.2.1 hP (0) (by decide) rfl rfl) rfl hl.1 d_M_thing_41 (Nat.le_of_ble_eq_true rfl) (Nat.le_of_ble_eq_true rfl) ⟨(Nat.le_of_ble_eq_true rfl), (Nat.le_of_ble_eq_true rfl)⟩ (fun r v1 sd1 H l1 hp hP hS => ?_)
        obtain ⟨rfl, rfl, rfl⟩ := hp
        have hgz : gz 0 1 1 = 1 := by decide
        rw [hgz] at hP
        refine lv_topE (y := 0) (by rw [hgz]; decide) ?_
        refine lv_if_ne (tgt := 49) K.hx K.hb d_M_thing_44 (by decide) (fun c_44 => (show False from by revert c_44; decide).elim) (fun _ => ?_)
        refine lv_iconst (v := 0) K.hx K.hb d_M_thing_47 (by decide) ?_
        exact de_i K hP hS (Or.inr (Or.inl ⟨(fun h => h.2 w_15), rfl, rfl, rfl⟩)) (Nat.le_of_ble_eq_true rfl) (Nat.le_of_ble_eq_true rfl) d_M_thing_48
    · refine lv_topE (y := 1) w_15 ?_
      refine lv_if_eq (tgt := 25) K.hx K.hb d_M_thing_18 (by decide) (fun c_18 => (show False from by revert c_18; decide).elim) (fun _ => ?_)
      refine lv_iconst (v := 1) K.hx K.hb d_M_thing_21 (by decide) ?_
      refine lv_goto (tgt := 26) K.hx K.hb d_M_thing_22 (by decide) ?_
      refine lv_aload_n K.hx K.hb d_M_thing_26 rfl (lv_at hl 0 rfl) ?_
      refine g_get K.1 hP (0) (by decide) rfl rfl i_M 2 (by decide) rfl (Or.inl kw_636) rfl d_M_thing_27 ?_
      refine lv_topE (y := nI tc) htc ?_
      refine lv_bipush (v := 8) K.hx K.hb d_M_thing_30 (by decide) ?_
      refine lv_icmp_ge (tgt := 39) K.hx K.hb d_M_thing_32 (by decide) (fun c_32 => ?_) (fun c_32 => ?_)
      · refine lv_iconst (v := 0) K.hx K.hb d_M_thing_39 (by decide) ?_
        refine lv_iconst (v := 1) K.hx K.hb d_M_thing_40 (by decide) ?_
        refine dd_V K hP hS (c_M_goes l D cs ad _ _ 1 0 1) kw_751 xm_M_goes kw_748 kw_750 kw_13 (g_recv K.1.2.1 hP (0) (by decide) rfl rfl) rfl hl.1 d_M_thing_41 (Nat.le_of_ble_eq_true rfl) (Nat.le_of_ble_eq_true rfl) ⟨(Nat.le_of_ble_eq_true rfl), (Nat.le_of_ble_eq_true rfl)⟩ (fun r v1 sd1 H l1 hp hP hS => ?_)
        obtain ⟨rfl, rfl, rfl⟩ := hp
        have hgz : gz 1 0 1 = 2 := by decide
        rw [hgz] at hP
        refine lv_topE (y := 0) (by rw [hgz]; decide) ?_
        refine lv_if_ne (tgt := 49) K.hx K.hb d_M_thing_44 (by decide) (fun c_44 => (show False from by revert c_44; decide).elim) (fun _ => ?_)
        refine lv_iconst (v := 0) K.hx K.hb d_M_thing_47 (by decide) ?_
        exact de_i K hP hS (Or.inr (Or.inr ⟨⟨one_ne w_5, one_ne w_15⟩, fun h => absurd h (Nat.not_lt.mpr ((nI_leI (by decide) (by omega)).mp (show nI 8 ≤ nI tc from c_32))), rfl, rfl, rfl⟩)) (Nat.le_of_ble_eq_true rfl) (Nat.le_of_ble_eq_true rfl) d_M_thing_48
      · refine lv_iconst (v := 1) K.hx K.hb d_M_thing_35 (by decide) ?_
        refine lv_goto (tgt := 40) K.hx K.hb d_M_thing_36 (by decide) ?_
        refine lv_iconst (v := 1) K.hx K.hb d_M_thing_40 (by decide) ?_
        refine dd_V K hP hS (c_M_goes l D cs ad _ _ 1 1 1) kw_751 xm_M_goes kw_748 kw_750 kw_13 (g_recv K.1.2.1 hP (0) (by decide) rfl rfl) rfl hl.1 d_M_thing_41 (Nat.le_of_ble_eq_true rfl) (Nat.le_of_ble_eq_true rfl) ⟨(Nat.le_of_ble_eq_true rfl), (Nat.le_of_ble_eq_true rfl)⟩ (fun r v1 sd1 H l1 hp hP hS => ?_)
        obtain ⟨rfl, rfl, rfl⟩ := hp
        have hgz : gz 1 1 1 = 0 := by decide
        rw [hgz] at hP
        refine lv_topE (y := 1) (by rw [hgz]; decide) ?_
        refine lv_if_ne (tgt := 49) K.hx K.hb d_M_thing_44 (by decide) (fun _ => ?_) (fun c_44 => (show False from by revert c_44; decide).elim)
        have ht : tc < 8 := (nI_ltI (by omega) (by decide)).mp (show nI tc < nI 8 from Int32.not_le.mp c_32)
        refine lv_aload_n K.hx K.hb d_M_thing_49 rfl (lv_at hl 0 rfl) ?_
        refine g_get K.1 hP (0) (by decide) rfl rfl i_M 3 (by decide) rfl (Or.inl kw_637) rfl d_M_thing_50 ?_
        refine lv_aload_n K.hx K.hb d_M_thing_53 rfl (lv_at hl 0 rfl) ?_
        refine g_get K.1 hP (0) (by decide) rfl rfl i_M 2 (by decide) rfl (Or.inl kw_636) rfl d_M_thing_54 ?_
        refine lv_topE (y := (v 0 2)) (by first | (simp [u2_at, kpM]; done) | (simp [u2_at, kpM] <;> (intros; omega)) | (simp only [u2_at, kpM]; (repeat' split) <;> first | rfl | (exfalso; omega))) ?_
        refine lv_topE (y := nI tc) htc ?_
        refine lv_iload_n K.hx K.hb d_M_thing_57 rfl (lv_at hl 1 rfl) ?_
        refine g_iast K.1 hP hS (1) (by decide) (fun _ => rfl) 0 rfl (tc) rfl (by omega) (by decide) d_M_thing_58 (fun H l1 hP hS => ?_)
        refine lv_aload_n K.hx K.hb d_M_thing_59 rfl (lv_at hl 0 rfl) ?_
        refine g_get K.1 hP (0) (by decide) rfl rfl i_M 4 (by decide) rfl (Or.inl kw_638) rfl d_M_thing_60 ?_
        refine lv_aload_n K.hx K.hb d_M_thing_63 rfl (lv_at hl 0 rfl) ?_
        refine g_get K.1 hP (0) (by decide) rfl rfl i_M 2 (by decide) rfl (Or.inl kw_636) rfl d_M_thing_64 ?_
        refine lv_topE (y := (v 0 2)) (by first | (simp [u2_at, kpM]; done) | (simp [u2_at, kpM] <;> (intros; omega)) | (simp only [u2_at, kpM]; (repeat' split) <;> first | rfl | (exfalso; omega))) ?_
        refine lv_topE (y := nI tc) htc ?_
        refine lv_iload_n K.hx K.hb d_M_thing_67 rfl (lv_at hl 2 rfl) ?_
        refine g_iast K.1 hP hS (2) (by decide) (fun _ => rfl) 0 rfl (tc) rfl (by omega) (by decide) d_M_thing_68 (fun H l1 hP hS => ?_)
        refine lv_aload_n K.hx K.hb d_M_thing_69 rfl (lv_at hl 0 rfl) ?_
        refine g_get K.1 hP (0) (by decide) rfl rfl i_M 5 (by decide) rfl (Or.inl kw_639) rfl d_M_thing_70 ?_
        refine lv_aload_n K.hx K.hb d_M_thing_73 rfl (lv_at hl 0 rfl) ?_
        refine g_get K.1 hP (0) (by decide) rfl rfl i_M 2 (by decide) rfl (Or.inl kw_636) rfl d_M_thing_74 ?_
        refine lv_topE (y := (v 0 2)) (by first | (simp [u2_at, kpM]; done) | (simp [u2_at, kpM] <;> (intros; omega)) | (simp only [u2_at, kpM]; (repeat' split) <;> first | rfl | (exfalso; omega))) ?_
        refine lv_topE (y := nI tc) htc ?_
        refine lv_iconst (v := 0) K.hx K.hb d_M_thing_77 (by decide) ?_
        refine g_iast K.1 hP hS (3) (by decide) (fun _ => rfl) 0 rfl (tc) rfl (by omega) (by decide) d_M_thing_78 (fun H l1 hP hS => ?_)
        refine lv_aload_n K.hx K.hb d_M_thing_79 rfl (lv_at hl 0 rfl) ?_
        refine g_get K.1 hP (0) (by decide) rfl rfl i_M 6 (by decide) rfl (Or.inl kw_640) rfl d_M_thing_80 ?_
        refine lv_aload_n K.hx K.hb d_M_thing_83 rfl (lv_at hl 0 rfl) ?_
        refine g_get K.1 hP (0) (by decide) rfl rfl i_M 2 (by decide) rfl (Or.inl kw_636) rfl d_M_thing_84 ?_
        refine lv_topE (y := (v 0 2)) (by first | (simp [u2_at, kpM]; done) | (simp [u2_at, kpM] <;> (intros; omega)) | (simp only [u2_at, kpM]; (repeat' split) <;> first | rfl | (exfalso; omega))) ?_
        refine lv_topE (y := nI tc) htc ?_
        refine lv_iconst (v := 0) K.hx K.hb d_M_thing_87 (by decide) ?_
        refine g_zast K.1 hP hS (4) (by decide) (fun _ => rfl) 1 rfl rfl (tc) rfl (by omega) (by decide) d_M_thing_88 (fun H l1 hP hS => ?_)
        refine lv_iconst (v := 0) K.hx K.hb d_M_thing_89 (by decide) ?_
        refine lv_istore_n (lv' := [(3, .int 0), (0, .ref (ad 0)), (1, .int x), (2, .int y)]) K.hx K.hb d_M_thing_90 rfl hl (by decide) rfl (fun ls hl => ?_)
        refine lv_iload_n K.hx K.hb d_M_thing_91 rfl (lv_at hl 0 rfl) ?_
        refine lv_iconst (v := 5) K.hx K.hb d_M_thing_92 (by decide) ?_
        refine lv_icmp_ge (tgt := 116) K.hx K.hb d_M_thing_93 (by decide) (fun c_93 => (show False from by revert c_93; decide).elim) (fun _ => ?_)
        refine lv_aload_n K.hx K.hb d_M_thing_96 rfl (lv_at hl 1 rfl) ?_
        refine g_get K.1 hP (0) (by decide) rfl rfl i_M 7 (by decide) rfl (Or.inl kw_641) rfl d_M_thing_97 ?_
        refine lv_iconst (v := 5) K.hx K.hb d_M_thing_100 (by decide) ?_
        refine lv_aload_n K.hx K.hb d_M_thing_101 rfl (lv_at hl 1 rfl) ?_
        refine g_get K.1 hP (0) (by decide) rfl rfl i_M 2 (by decide) rfl (Or.inl kw_636) rfl d_M_thing_102 ?_
        refine lv_topE (y := (v 0 2)) (by first | (simp [u2_at, kpM]; done) | (simp [u2_at, kpM] <;> (intros; omega)) | (simp only [u2_at, kpM]; (repeat' split) <;> first | rfl | (exfalso; omega))) ?_
        refine lv_topE (y := nI tc) htc ?_
        refine lv_imul K.hx K.hb d_M_thing_105 ?_
        refine lv_topE (y := nI (5 * tc)) (pk_mul _ _) ?_
        refine lv_iload_n K.hx K.hb d_M_thing_106 rfl (lv_at hl 0 rfl) ?_
        refine lv_iadd K.hx K.hb d_M_thing_107 ?_
        refine lv_topE (y := nI (5 * tc + 0)) (nI_add _ _) ?_
        refine lv_iconst (v := 0) K.hx K.hb d_M_thing_108 (by decide) ?_
        refine g_iast K.1 hP hS (5) (by decide) (fun _ => rfl) 0 rfl (5 * tc + 0) rfl (by omega) (by decide) d_M_thing_109 (fun H l1 hP hS => ?_)
        refine lv_iinc (v := 1) (lv' := [(3, .int 1), (0, .ref (ad 0)), (1, .int x), (2, .int y)]) K.hx K.hb d_M_thing_110 hl (k := 0) rfl (by decide) (by decide) rfl (fun ls hl => ?_)
        refine lv_goto (tgt := 91) K.hx K.hb d_M_thing_113 (by decide) ?_
        refine lv_iload_n K.hx K.hb d_M_thing_91 rfl (lv_at hl 0 rfl) ?_
        refine lv_iconst (v := 5) K.hx K.hb d_M_thing_92 (by decide) ?_
        refine lv_icmp_ge (tgt := 116) K.hx K.hb d_M_thing_93 (by decide) (fun c_93_1 => (show False from by revert c_93_1; decide).elim) (fun _ => ?_)
        refine lv_aload_n K.hx K.hb d_M_thing_96 rfl (lv_at hl 1 rfl) ?_
        refine g_get K.1 hP (0) (by decide) rfl rfl i_M 7 (by decide) rfl (Or.inl kw_641) rfl d_M_thing_97 ?_
        refine lv_iconst (v := 5) K.hx K.hb d_M_thing_100 (by decide) ?_
        refine lv_aload_n K.hx K.hb d_M_thing_101 rfl (lv_at hl 1 rfl) ?_
        refine g_get K.1 hP (0) (by decide) rfl rfl i_M 2 (by decide) rfl (Or.inl kw_636) rfl d_M_thing_102 ?_
        refine lv_topE (y := (v 0 2)) (by first | (simp [u2_at, kpM]; done) | (simp [u2_at, kpM] <;> (intros; omega)) | (simp only [u2_at, kpM]; (repeat' split) <;> first | rfl | (exfalso; omega))) ?_
        refine lv_topE (y := nI tc) htc ?_
        refine lv_imul K.hx K.hb d_M_thing_105 ?_
        refine lv_topE (y := nI (5 * tc)) (pk_mul _ _) ?_
        refine lv_iload_n K.hx K.hb d_M_thing_106 rfl (lv_at hl 0 rfl) ?_
        refine lv_iadd K.hx K.hb d_M_thing_107 ?_
        refine lv_topE (y := nI (5 * tc + 1)) (nI_add _ _) ?_
        refine lv_iconst (v := 0) K.hx K.hb d_M_thing_108 (by decide) ?_
        refine g_iast K.1 hP hS (5) (by decide) (fun _ => rfl) 0 rfl (5 * tc + 1) rfl (by omega) (by decide) d_M_thing_109 (fun H l1 hP hS => ?_)
        refine lv_iinc (v := 2) (lv' := [(3, .int 2), (0, .ref (ad 0)), (1, .int x), (2, .int y)]) K.hx K.hb d_M_thing_110 hl (k := 0) rfl (by decide) (by decide) rfl (fun ls hl => ?_)
        refine lv_goto (tgt := 91) K.hx K.hb d_M_thing_113 (by decide) ?_
        refine lv_iload_n K.hx K.hb d_M_thing_91 rfl (lv_at hl 0 rfl) ?_
        refine lv_iconst (v := 5) K.hx K.hb d_M_thing_92 (by decide) ?_
        refine lv_icmp_ge (tgt := 116) K.hx K.hb d_M_thing_93 (by decide) (fun c_93_2 => (show False from by revert c_93_2; decide).elim) (fun _ => ?_)
        refine lv_aload_n K.hx K.hb d_M_thing_96 rfl (lv_at hl 1 rfl) ?_
        refine g_get K.1 hP (0) (by decide) rfl rfl i_M 7 (by decide) rfl (Or.inl kw_641) rfl d_M_thing_97 ?_
        refine lv_iconst (v := 5) K.hx K.hb d_M_thing_100 (by decide) ?_
        refine lv_aload_n K.hx K.hb d_M_thing_101 rfl (lv_at hl 1 rfl) ?_
        refine g_get K.1 hP (0) (by decide) rfl rfl i_M 2 (by decide) rfl (Or.inl kw_636) rfl d_M_thing_102 ?_
        refine lv_topE (y := (v 0 2)) (by first | (simp [u2_at, kpM]; done) | (simp [u2_at, kpM] <;> (intros; omega)) | (simp only [u2_at, kpM]; (repeat' split) <;> first | rfl | (exfalso; omega))) ?_
        refine lv_topE (y := nI tc) htc ?_
        refine lv_imul K.hx K.hb d_M_thing_105 ?_
        refine lv_topE (y := nI (5 * tc)) (pk_mul _ _) ?_
        refine lv_iload_n K.hx K.hb d_M_thing_106 rfl (lv_at hl 0 rfl) ?_
        refine lv_iadd K.hx K.hb d_M_thing_107 ?_
        refine lv_topE (y := nI (5 * tc + 2)) (nI_add _ _) ?_
        refine lv_iconst (v := 0) K.hx K.hb d_M_thing_108 (by decide) ?_
        refine g_iast K.1 hP hS (5) (by decide) (fun _ => rfl) 0 rfl (5 * tc + 2) rfl (by omega) (by decide) d_M_thing_109 (fun H l1 hP hS => ?_)
        refine lv_iinc (v := 3) (lv' := [(3, .int 3), (0, .ref (ad 0)), (1, .int x), (2, .int y)]) K.hx K.hb d_M_thing_110 hl (k := 0) rfl (by decide) (by decide) rfl (fun ls hl => ?_)
        refine lv_goto (tgt := 91) K.hx K.hb d_M_thing_113 (by decide) ?_
        refine lv_iload_n K.hx K.hb d_M_thing_91 rfl (lv_at hl 0 rfl) ?_
        refine lv_iconst (v := 5) K.hx K.hb d_M_thing_92 (by decide) ?_
        refine lv_icmp_ge (tgt := 116) K.hx K.hb d_M_thing_93 (by decide) (fun c_93_3 => (show False from by revert c_93_3; decide).elim) (fun _ => ?_)
        refine lv_aload_n K.hx K.hb d_M_thing_96 rfl (lv_at hl 1 rfl) ?_
        refine g_get K.1 hP (0) (by decide) rfl rfl i_M 7 (by decide) rfl (Or.inl kw_641) rfl d_M_thing_97 ?_
        refine lv_iconst (v := 5) K.hx K.hb d_M_thing_100 (by decide) ?_
        refine lv_aload_n K.hx K.hb d_M_thing_101 rfl (lv_at hl 1 rfl) ?_
        refine g_get K.1 hP (0) (by decide) rfl rfl i_M 2 (by decide) rfl (Or.inl kw_636) rfl d_M_thing_102 ?_
        refine lv_topE (y := (v 0 2)) (by first | (simp [u2_at, kpM]; done) | (simp [u2_at, kpM] <;> (intros; omega)) | (simp only [u2_at, kpM]; (repeat' split) <;> first | rfl | (exfalso; omega))) ?_
        refine lv_topE (y := nI tc) htc ?_
        refine lv_imul K.hx K.hb d_M_thing_105 ?_
        refine lv_topE (y := nI (5 * tc)) (pk_mul _ _) ?_
        refine lv_iload_n K.hx K.hb d_M_thing_106 rfl (lv_at hl 0 rfl) ?_
        refine lv_iadd K.hx K.hb d_M_thing_107 ?_
        refine lv_topE (y := nI (5 * tc + 3)) (nI_add _ _) ?_
        refine lv_iconst (v := 0) K.hx K.hb d_M_thing_108 (by decide) ?_
        refine g_iast K.1 hP hS (5) (by decide) (fun _ => rfl) 0 rfl (5 * tc + 3) rfl (by omega) (by decide) d_M_thing_109 (fun H l1 hP hS => ?_)
        refine lv_iinc (v := 4) (lv' := [(3, .int 4), (0, .ref (ad 0)), (1, .int x), (2, .int y)]) K.hx K.hb d_M_thing_110 hl (k := 0) rfl (by decide) (by decide) rfl (fun ls hl => ?_)
        refine lv_goto (tgt := 91) K.hx K.hb d_M_thing_113 (by decide) ?_
        refine lv_iload_n K.hx K.hb d_M_thing_91 rfl (lv_at hl 0 rfl) ?_
        refine lv_iconst (v := 5) K.hx K.hb d_M_thing_92 (by decide) ?_
        refine lv_icmp_ge (tgt := 116) K.hx K.hb d_M_thing_93 (by decide) (fun c_93_4 => (show False from by revert c_93_4; decide).elim) (fun _ => ?_)
        refine lv_aload_n K.hx K.hb d_M_thing_96 rfl (lv_at hl 1 rfl) ?_
        refine g_get K.1 hP (0) (by decide) rfl rfl i_M 7 (by decide) rfl (Or.inl kw_641) rfl d_M_thing_97 ?_
        refine lv_iconst (v := 5) K.hx K.hb d_M_thing_100 (by decide) ?_
        refine lv_aload_n K.hx K.hb d_M_thing_101 rfl (lv_at hl 1 rfl) ?_
        refine g_get K.1 hP (0) (by decide) rfl rfl i_M 2 (by decide) rfl (Or.inl kw_636) rfl d_M_thing_102 ?_
        refine lv_topE (y := (v 0 2)) (by first | (simp [u2_at, kpM]; done) | (simp [u2_at, kpM] <;> (intros; omega)) | (simp only [u2_at, kpM]; (repeat' split) <;> first | rfl | (exfalso; omega))) ?_
        refine lv_topE (y := nI tc) htc ?_
        refine lv_imul K.hx K.hb d_M_thing_105 ?_
        refine lv_topE (y := nI (5 * tc)) (pk_mul _ _) ?_
        refine lv_iload_n K.hx K.hb d_M_thing_106 rfl (lv_at hl 0 rfl) ?_
        refine lv_iadd K.hx K.hb d_M_thing_107 ?_
        refine lv_topE (y := nI (5 * tc + 4)) (nI_add _ _) ?_
        refine lv_iconst (v := 0) K.hx K.hb d_M_thing_108 (by decide) ?_
        refine g_iast K.1 hP hS (5) (by decide) (fun _ => rfl) 0 rfl (5 * tc + 4) rfl (by omega) (by decide) d_M_thing_109 (fun H l1 hP hS => ?_)
        refine lv_iinc (v := 5) (lv' := [(3, .int 5), (0, .ref (ad 0)), (1, .int x), (2, .int y)]) K.hx K.hb d_M_thing_110 hl (k := 0) rfl (by decide) (by decide) rfl (fun ls hl => ?_)
        refine lv_goto (tgt := 91) K.hx K.hb d_M_thing_113 (by decide) ?_
        refine lv_iload_n K.hx K.hb d_M_thing_91 rfl (lv_at hl 0 rfl) ?_
        refine lv_iconst (v := 5) K.hx K.hb d_M_thing_92 (by decide) ?_
        refine lv_icmp_ge (tgt := 116) K.hx K.hb d_M_thing_93 (by decide) (fun _ => ?_) (fun c_93_5 => (show False from by revert c_93_5; decide).elim)
        refine lv_aload_n K.hx K.hb d_M_thing_116 rfl (lv_at hl 1 rfl) ?_
        refine lv_dup K.hx K.hb d_M_thing_117 rfl ?_
        refine g_get K.1 hP (0) (by decide) rfl rfl i_M 2 (by decide) rfl (Or.inl kw_636) rfl d_M_thing_118 ?_
        refine lv_topE (y := (v 0 2)) (by first | (simp [u2_at, kpM]; done) | (simp [u2_at, kpM] <;> (intros; omega)) | (simp only [u2_at, kpM]; (repeat' split) <;> first | rfl | (exfalso; omega))) ?_
        refine lv_topE (y := nI tc) htc ?_
        refine lv_iconst (v := 1) K.hx K.hb d_M_thing_121 (by decide) ?_
        refine lv_iadd K.hx K.hb d_M_thing_122 ?_
        refine lv_topE (y := nI (tc + 1)) (nI_add _ _) ?_
        refine g_puti K.1 hP hS (0) (by decide) rfl rfl i_M ft_M ft_M_ok n_M 2 (by decide) rfl (Or.inl kw_636) rfl rfl rfl (Nat.le_of_ble_eq_true rfl) rfl d_M_thing_123 (fun H l1 hP hS => ?_)
        refine lv_aload_n K.hx K.hb d_M_thing_126 rfl (lv_at hl 1 rfl) ?_
        refine g_get K.1 hP (0) (by decide) rfl rfl i_M 2 (by decide) rfl (Or.inl kw_636) rfl d_M_thing_127 ?_
        refine lv_topE (y := (nI (tc + 1))) (by first | (simp [u2_at, kpM]; done) | (simp [u2_at, kpM] <;> (intros; omega)) | (simp only [u2_at, kpM]; (repeat' split) <;> first | rfl | (exfalso; omega))) ?_
        refine lv_topE (y := nI (tc + 1)) rfl ?_
        refine lv_iconst (v := 1) K.hx K.hb d_M_thing_130 (by decide) ?_
        refine lv_isub K.hx K.hb d_M_thing_131 ?_
        refine lv_topE (y := nI (tc + 0)) (nI_pred _) ?_
        exact de_i K hP hS (Or.inl ⟨⟨one_ne w_5, one_ne w_15⟩, ht, rfl, rfl, rfl⟩) (Nat.le_of_ble_eq_true rfl) (Nat.le_of_ble_eq_true rfl) d_M_thing_132
set_option maxHeartbeats 4000000 in
set_option maxRecDepth 100000 in
theorem c_M_use (l : Launch) (D : va_G) (cs : Nat → ClassId) (ad : Nat → Nat) (v : Nat → Nat → Int32) (sd : Int64) {tc : Nat} (htc : v 0 2 = nI tc) (ht8 : tc ≤ 8) (x y : Int32)  : Dm l y_M_use b_M_use 4 (some .int) (rmx 2 0) [.ref (ad 0), .int x, .int y] D cs ad v sd (fun r v' sd' => (∃ i, i < tc ∧ x = nI i ∧ barM v i = 0 ∧ ¬ wthZ y 1 1000000 = 0 ∧ r = some (.int (v 3 i + y)) ∧ kpM (u2 (u2 v 0 0 0) 3 i (v 3 i + y)) i y = v' ∧ sd = sd') ∨ ((¬ ∃ i, i < tc ∧ x = nI i) ∧ r = some (.int 0) ∧ u2 v 0 0 1 = v' ∧ sd = sd') ∨ (∃ i, i < tc ∧ x = nI i ∧ ¬ barM v i = 0 ∧ r = some (.int 0) ∧ u2 v 0 0 2 = v' ∧ sd = sd') ∨ (∃ i, i < tc ∧ x = nI i ∧ barM v i = 0 ∧ wthZ y 1 1000000 = 0 ∧ r = some (.int 0) ∧ u2 v 0 0 3 = v' ∧ sd = sd')) (fun cls => False) := by
  refine dw_enter (own := "WearHoursModel") rfl (Nat.le_of_ble_eq_true rfl) ?_
  intro p e s m below meth c ls K hS hP hl
  have hl : lv_has ls 4 [(0, .ref (ad 0)), (1, .int x), (2, .int y)] := hl
  refine lv_aload_n K.hx K.hb d_M_use_0 rfl (lv_at hl 0 rfl) ?_
  refine lv_iload_n K.hx K.hb d_M_use_1 rfl (lv_at hl 1 rfl) ?_
  refine dd_V K hP hS (c_M_isThing l D cs ad _ _ htc ht8 x) kw_759 xm_M_isThing kw_756 kw_758 kw_14 (g_recv K.1.2.1 hP (0) (by decide) rfl rfl) rfl hl.1 d_M_use_2 (Nat.le_of_ble_eq_true rfl) (Nat.le_of_ble_eq_true rfl) ⟨(Nat.le_of_ble_eq_true rfl), (Nat.le_of_ble_eq_true rfl)⟩ (fun r v1 sd1 H l1 hp hP hS => ?_)
  obtain ⟨rfl, rfl, rfl⟩ := hp
  by_cases hx : ∃ i, i < tc ∧ x = nI i
  · refine lv_topE (y := 1) (wth_yes (by omega) hx) ?_
    obtain ⟨i, hi, rfl⟩ := hx
    have hi8 : i < 8 := by omega
    refine lv_istore_n (lv' := [(3, .int 1), (0, .ref (ad 0)), (1, .int (nI i)), (2, .int y)]) K.hx K.hb d_M_use_5 rfl hl (by decide) rfl (fun ls hl => ?_)
    refine lv_aload_n K.hx K.hb d_M_use_6 rfl (lv_at hl 1 rfl) ?_
    refine lv_iload_n K.hx K.hb d_M_use_7 rfl (lv_at hl 0 rfl) ?_
    refine lv_iload_n K.hx K.hb d_M_use_8 rfl (lv_at hl 0 rfl) ?_
    refine lv_if_eq (tgt := 24) K.hx K.hb d_M_use_9 (by decide) (fun c_9 => (show False from by revert c_9; decide).elim) (fun _ => ?_)
    refine lv_aload_n K.hx K.hb d_M_use_12 rfl (lv_at hl 1 rfl) ?_
    refine lv_iload_n K.hx K.hb d_M_use_13 rfl (lv_at hl 2 rfl) ?_
    refine dd_V K hP hS (c_M_isBarred l D cs ad _ _ hi8) kw_763 xm_M_isBarred kw_760 kw_762 kw_15 (g_recv K.1.2.1 hP (0) (by decide) rfl rfl) rfl hl.1 d_M_use_14 (Nat.le_of_ble_eq_true rfl) (Nat.le_of_ble_eq_true rfl) ⟨(Nat.le_of_ble_eq_true rfl), (Nat.le_of_ble_eq_true rfl)⟩ (fun r v1 sd1 H l1 hp hP hS => ?_)
    obtain ⟨rfl, rfl, rfl⟩ := hp
    rcases barM_01 v i with w_14 | w_14
    · refine lv_topE (y := 0) w_14 ?_
      refine lv_if_ne (tgt := 24) K.hx K.hb d_M_use_17 (by decide) (fun c_17 => (show False from by revert c_17; decide).elim) (fun _ => ?_)
      refine lv_iconst (v := 1) K.hx K.hb d_M_use_20 (by decide) ?_
      refine lv_goto (tgt := 25) K.hx K.hb d_M_use_21 (by decide) ?_
      refine lv_iload_n K.hx K.hb d_M_use_25 rfl (lv_at hl 3 rfl) ?_
      refine lv_iconst (v := 1) K.hx K.hb d_M_use_26 (by decide) ?_
      refine lv_ldc (v := 1000000) K.hx K.hb K.1.1.2.2.2.1 (K.1.1.2.2.2.2 _ kw_744) d_M_use_27 ?_
      refine dd_S K hP hS (c_M_in l D cs ad _ _ y 1 1000000) kw_747 xm_M_in kw_745 kw_746 kw_29 rfl hl.1 d_M_use_29 (Nat.le_of_ble_eq_true rfl) (Nat.le_of_ble_eq_true rfl) ⟨(Nat.le_of_ble_eq_true rfl), (Nat.le_of_ble_eq_true rfl)⟩ (fun r v1 sd1 H l1 hp hP hS => ?_)
      obtain ⟨rfl, rfl, rfl⟩ := hp
      rcases wth_01 y 1 1000000 with w_29 | w_29
      · refine lv_topE (y := 0) w_29 ?_
        refine dd_V K hP hS (c_M_goes l D cs ad _ _ 1 1 0) kw_751 xm_M_goes kw_748 kw_750 kw_13 (g_recv K.1.2.1 hP (0) (by decide) rfl rfl) rfl hl.1 d_M_use_32 (Nat.le_of_ble_eq_true rfl) (Nat.le_of_ble_eq_true rfl) ⟨(Nat.le_of_ble_eq_true rfl), (Nat.le_of_ble_eq_true rfl)⟩ (fun r v1 sd1 H l1 hp hP hS => ?_)
        obtain ⟨rfl, rfl, rfl⟩ := hp
        have hgz : gz 1 1 0 = 3 := by decide
        rw [hgz] at hP
        refine lv_topE (y := 0) (by rw [hgz]; decide) ?_
        refine lv_if_ne (tgt := 40) K.hx K.hb d_M_use_35 (by decide) (fun c_35 => (show False from by revert c_35; decide).elim) (fun _ => ?_)
        refine lv_iconst (v := 0) K.hx K.hb d_M_use_38 (by decide) ?_
        exact de_i K hP hS (Or.inr (Or.inr (Or.inr ⟨i, hi, rfl, w_14, w_29, rfl, rfl, rfl⟩))) (Nat.le_of_ble_eq_true rfl) (Nat.le_of_ble_eq_true rfl) d_M_use_39
      · refine lv_topE (y := 1) w_29 ?_
        refine dd_V K hP hS (c_M_goes l D cs ad _ _ 1 1 1) kw_751 xm_M_goes kw_748 kw_750 kw_13 (g_recv K.1.2.1 hP (0) (by decide) rfl rfl) rfl hl.1 d_M_use_32 (Nat.le_of_ble_eq_true rfl) (Nat.le_of_ble_eq_true rfl) ⟨(Nat.le_of_ble_eq_true rfl), (Nat.le_of_ble_eq_true rfl)⟩ (fun r v1 sd1 H l1 hp hP hS => ?_)
        obtain ⟨rfl, rfl, rfl⟩ := hp
        have hgz : gz 1 1 1 = 0 := by decide
        rw [hgz] at hP
        refine lv_topE (y := 1) (by rw [hgz]; decide) ?_
        refine lv_if_ne (tgt := 40) K.hx K.hb d_M_use_35 (by decide) (fun _ => ?_) (fun c_35 => (show False from by revert c_35; decide).elim)
        refine lv_aload_n K.hx K.hb d_M_use_40 rfl (lv_at hl 1 rfl) ?_
        refine g_get K.1 hP (0) (by decide) rfl rfl i_M 5 (by decide) rfl (Or.inl kw_639) rfl d_M_use_41 ?_
        refine lv_iload_n K.hx K.hb d_M_use_44 rfl (lv_at hl 2 rfl) ?_
        refine lv_aload_n K.hx K.hb d_M_use_45 rfl (lv_at hl 1 rfl) ?_
        refine g_get K.1 hP (0) (by decide) rfl rfl i_M 5 (by decide) rfl (Or.inl kw_639) rfl d_M_use_46 ?_
        refine lv_iload_n K.hx K.hb d_M_use_49 rfl (lv_at hl 2 rfl) ?_
        refine g_iald K.1 hP (3) (by decide) rfl 0 rfl (i) rfl (by omega) (by decide) d_M_use_50 ?_
        refine lv_topE (y := (v 3 i)) (by first | (simp [u2_at, kpM]; done) | (simp [u2_at, kpM] <;> (intros; omega)) | (simp only [u2_at, kpM]; (repeat' split) <;> first | rfl | (exfalso; omega))) ?_
        refine lv_iload_n K.hx K.hb d_M_use_51 rfl (lv_at hl 3 rfl) ?_
        refine lv_iadd K.hx K.hb d_M_use_52 ?_
        refine g_iast K.1 hP hS (3) (by decide) (fun _ => rfl) 0 rfl (i) rfl (by omega) (by decide) d_M_use_53 (fun H l1 hP hS => ?_)
        refine lv_aload_n K.hx K.hb d_M_use_54 rfl (lv_at hl 1 rfl) ?_
        refine lv_iload_n K.hx K.hb d_M_use_55 rfl (lv_at hl 2 rfl) ?_
        refine lv_iload_n K.hx K.hb d_M_use_56 rfl (lv_at hl 3 rfl) ?_
        refine dd_V K hP hS (c_M_keep l D cs ad _ _ hi8 y) kw_767 xm_M_keep kw_764 kw_766 kw_16 (g_recv K.1.2.1 hP (0) (by decide) rfl rfl) rfl hl.1 d_M_use_57 (Nat.le_of_ble_eq_true rfl) (Nat.le_of_ble_eq_true rfl) ⟨(Nat.le_of_ble_eq_true rfl), (Nat.le_of_ble_eq_true rfl)⟩ (fun r v1 sd1 H l1 hp hP hS => ?_)
        obtain ⟨rfl, rfl, rfl⟩ := hp
        refine lv_aload_n K.hx K.hb d_M_use_60 rfl (lv_at hl 1 rfl) ?_
        refine g_get K.1 hP (0) (by decide) rfl rfl i_M 5 (by decide) rfl (Or.inl kw_639) rfl d_M_use_61 ?_
        refine lv_iload_n K.hx K.hb d_M_use_64 rfl (lv_at hl 2 rfl) ?_
        refine g_iald K.1 hP (3) (by decide) rfl 0 rfl (i) rfl (by omega) (by decide) d_M_use_65 ?_
        refine lv_topE (y := ((v 3 i) + y)) (by first | (simp [u2_at, kpM]; done) | (simp [u2_at, kpM] <;> (intros; omega)) | (simp only [u2_at, kpM]; (repeat' split) <;> first | rfl | (exfalso; omega))) ?_
        exact de_i K hP hS (Or.inl ⟨i, hi, rfl, w_14, one_ne w_29, by simp [kpM, u2_at], rfl, rfl⟩) (Nat.le_of_ble_eq_true rfl) (Nat.le_of_ble_eq_true rfl) d_M_use_66
    · refine lv_topE (y := 1) w_14 ?_
      refine lv_if_ne (tgt := 24) K.hx K.hb d_M_use_17 (by decide) (fun _ => ?_) (fun c_17 => (show False from by revert c_17; decide).elim)
      refine lv_iconst (v := 0) K.hx K.hb d_M_use_24 (by decide) ?_
      refine lv_iload_n K.hx K.hb d_M_use_25 rfl (lv_at hl 3 rfl) ?_
      refine lv_iconst (v := 1) K.hx K.hb d_M_use_26 (by decide) ?_
      refine lv_ldc (v := 1000000) K.hx K.hb K.1.1.2.2.2.1 (K.1.1.2.2.2.2 _ kw_744) d_M_use_27 ?_
      refine dd_S K hP hS (c_M_in l D cs ad _ _ y 1 1000000) kw_747 xm_M_in kw_745 kw_746 kw_29 rfl hl.1 d_M_use_29 (Nat.le_of_ble_eq_true rfl) (Nat.le_of_ble_eq_true rfl) ⟨(Nat.le_of_ble_eq_true rfl), (Nat.le_of_ble_eq_true rfl)⟩ (fun r v1 sd1 H l1 hp hP hS => ?_)
      obtain ⟨rfl, rfl, rfl⟩ := hp
      rcases wth_01 y 1 1000000 with w_29 | w_29
      · refine lv_topE (y := 0) w_29 ?_
        refine dd_V K hP hS (c_M_goes l D cs ad _ _ 1 0 0) kw_751 xm_M_goes kw_748 kw_750 kw_13 (g_recv K.1.2.1 hP (0) (by decide) rfl rfl) rfl hl.1 d_M_use_32 (Nat.le_of_ble_eq_true rfl) (Nat.le_of_ble_eq_true rfl) ⟨(Nat.le_of_ble_eq_true rfl), (Nat.le_of_ble_eq_true rfl)⟩ (fun r v1 sd1 H l1 hp hP hS => ?_)
        obtain ⟨rfl, rfl, rfl⟩ := hp
        have hgz : gz 1 0 0 = 2 := by decide
        rw [hgz] at hP
        refine lv_topE (y := 0) (by rw [hgz]; decide) ?_
        refine lv_if_ne (tgt := 40) K.hx K.hb d_M_use_35 (by decide) (fun c_35 => (show False from by revert c_35; decide).elim) (fun _ => ?_)
        refine lv_iconst (v := 0) K.hx K.hb d_M_use_38 (by decide) ?_
        exact de_i K hP hS (Or.inr (Or.inr (Or.inl ⟨i, hi, rfl, one_ne w_14, rfl, rfl, rfl⟩))) (Nat.le_of_ble_eq_true rfl) (Nat.le_of_ble_eq_true rfl) d_M_use_39
      · refine lv_topE (y := 1) w_29 ?_
        refine dd_V K hP hS (c_M_goes l D cs ad _ _ 1 0 1) kw_751 xm_M_goes kw_748 kw_750 kw_13 (g_recv K.1.2.1 hP (0) (by decide) rfl rfl) rfl hl.1 d_M_use_32 (Nat.le_of_ble_eq_true rfl) (Nat.le_of_ble_eq_true rfl) ⟨(Nat.le_of_ble_eq_true rfl), (Nat.le_of_ble_eq_true rfl)⟩ (fun r v1 sd1 H l1 hp hP hS => ?_)
        obtain ⟨rfl, rfl, rfl⟩ := hp
        have hgz : gz 1 0 1 = 2 := by decide
        rw [hgz] at hP
        refine lv_topE (y := 0) (by rw [hgz]; decide) ?_
        refine lv_if_ne (tgt := 40) K.hx K.hb d_M_use_35 (by decide) (fun c_35 => (show False from by revert c_35; decide).elim) (fun _ => ?_)
        refine lv_iconst (v := 0) K.hx K.hb d_M_use_38 (by decide) ?_
        exact de_i K hP hS (Or.inr (Or.inr (Or.inl ⟨i, hi, rfl, one_ne w_14, rfl, rfl, rfl⟩))) (Nat.le_of_ble_eq_true rfl) (Nat.le_of_ble_eq_true rfl) d_M_use_39
  · refine lv_topE (y := 0) (wth_no (by omega) hx) ?_
    refine lv_istore_n (lv' := [(3, .int 0), (0, .ref (ad 0)), (1, .int x), (2, .int y)]) K.hx K.hb d_M_use_5 rfl hl (by decide) rfl (fun ls hl => ?_)
    refine lv_aload_n K.hx K.hb d_M_use_6 rfl (lv_at hl 1 rfl) ?_
    refine lv_iload_n K.hx K.hb d_M_use_7 rfl (lv_at hl 0 rfl) ?_
    refine lv_iload_n K.hx K.hb d_M_use_8 rfl (lv_at hl 0 rfl) ?_
    refine lv_if_eq (tgt := 24) K.hx K.hb d_M_use_9 (by decide) (fun _ => ?_) (fun c_9 => (show False from by revert c_9; decide).elim)
    refine lv_iconst (v := 0) K.hx K.hb d_M_use_24 (by decide) ?_
    refine lv_iload_n K.hx K.hb d_M_use_25 rfl (lv_at hl 3 rfl) ?_
    refine lv_iconst (v := 1) K.hx K.hb d_M_use_26 (by decide) ?_
    refine lv_ldc (v := 1000000) K.hx K.hb K.1.1.2.2.2.1 (K.1.1.2.2.2.2 _ kw_744) d_M_use_27 ?_
    refine dd_S K hP hS (c_M_in l D cs ad _ _ y 1 1000000) kw_747 xm_M_in kw_745 kw_746 kw_29 rfl hl.1 d_M_use_29 (Nat.le_of_ble_eq_true rfl) (Nat.le_of_ble_eq_true rfl) ⟨(Nat.le_of_ble_eq_true rfl), (Nat.le_of_ble_eq_true rfl)⟩ (fun r v1 sd1 H l1 hp hP hS => ?_)
    obtain ⟨rfl, rfl, rfl⟩ := hp
    rcases wth_01 y 1 1000000 with w_29 | w_29
    · refine lv_topE (y := 0) w_29 ?_
      refine dd_V K hP hS (c_M_goes l D cs ad _ _ 0 0 0) kw_751 xm_M_goes kw_748 kw_750 kw_13 (g_recv K.1.2.1 hP (0) (by decide) rfl rfl) rfl hl.1 d_M_use_32 (Nat.le_of_ble_eq_true rfl) (Nat.le_of_ble_eq_true rfl) ⟨(Nat.le_of_ble_eq_true rfl), (Nat.le_of_ble_eq_true rfl)⟩ (fun r v1 sd1 H l1 hp hP hS => ?_)
      obtain ⟨rfl, rfl, rfl⟩ := hp
      have hgz : gz 0 0 0 = 1 := by decide
      rw [hgz] at hP
      refine lv_topE (y := 0) (by rw [hgz]; decide) ?_
      refine lv_if_ne (tgt := 40) K.hx K.hb d_M_use_35 (by decide) (fun c_35 => (show False from by revert c_35; decide).elim) (fun _ => ?_)
      refine lv_iconst (v := 0) K.hx K.hb d_M_use_38 (by decide) ?_
      exact de_i K hP hS (Or.inr (Or.inl ⟨hx, rfl, rfl, rfl⟩)) (Nat.le_of_ble_eq_true rfl) (Nat.le_of_ble_eq_true rfl) d_M_use_39
    · refine lv_topE (y := 1) w_29 ?_
      refine dd_V K hP hS (c_M_goes l D cs ad _ _ 0 0 1) kw_751 xm_M_goes kw_748 kw_750 kw_13 (g_recv K.1.2.1 hP (0) (by decide) rfl rfl) rfl hl.1 d_M_use_32 (Nat.le_of_ble_eq_true rfl) (Nat.le_of_ble_eq_true rfl) ⟨(Nat.le_of_ble_eq_true rfl), (Nat.le_of_ble_eq_true rfl)⟩ (fun r v1 sd1 H l1 hp hP hS => ?_)
      obtain ⟨rfl, rfl, rfl⟩ := hp
      have hgz : gz 0 0 1 = 1 := by decide
      rw [hgz] at hP
      refine lv_topE (y := 0) (by rw [hgz]; decide) ?_
      refine lv_if_ne (tgt := 40) K.hx K.hb d_M_use_35 (by decide) (fun c_35 => (show False from by revert c_35; decide).elim) (fun _ => ?_)
      refine lv_iconst (v := 0) K.hx K.hb d_M_use_38 (by decide) ?_
      exact de_i K hP hS (Or.inr (Or.inl ⟨hx, rfl, rfl, rfl⟩)) (Nat.le_of_ble_eq_true rfl) (Nat.le_of_ble_eq_true rfl) d_M_use_39
set_option maxHeartbeats 4000000 in
set_option maxRecDepth 100000 in
theorem c_M_told (l : Launch) (D : va_G) (cs : Nat → ClassId) (ad : Nat → Nat) (v : Nat → Nat → Int32) (sd : Int64) {tc : Nat} (htc : v 0 2 = nI tc) (ht8 : tc ≤ 8) (x y : Int32)  : Dm l y_M_told b_M_told 3 (some .int) (rmx 2 0) [.ref (ad 0), .int x, .int y] D cs ad v sd (fun r v' sd' => (∃ i, i < tc ∧ x = nI i ∧ ¬ wthZ y 0 2 = 0 ∧ r = some (.int (if y = 0 then v 3 i else if y = 1 then barM v i else if v 2 i ≤ v 3 i then 0 else v 2 i - v 3 i)) ∧ u2 v 0 0 0 = v' ∧ sd = sd') ∨ (¬ ((∃ i, i < tc ∧ x = nI i) ∧ ¬ wthZ y 0 2 = 0) ∧ r = some (.int 0) ∧ u2 v 0 0 1 = v' ∧ sd = sd')) (fun cls => False) := by
  refine dw_enter (own := "WearHoursModel") rfl (Nat.le_of_ble_eq_true rfl) ?_
  intro p e s m below meth c ls K hS hP hl
  have hl : lv_has ls 3 [(0, .ref (ad 0)), (1, .int x), (2, .int y)] := hl
  refine lv_aload_n K.hx K.hb d_M_told_0 rfl (lv_at hl 0 rfl) ?_
  refine lv_aload_n K.hx K.hb d_M_told_1 rfl (lv_at hl 0 rfl) ?_
  refine lv_iload_n K.hx K.hb d_M_told_2 rfl (lv_at hl 1 rfl) ?_
  refine dd_V K hP hS (c_M_isThing l D cs ad _ _ htc ht8 x) kw_759 xm_M_isThing kw_756 kw_758 kw_14 (g_recv K.1.2.1 hP (0) (by decide) rfl rfl) rfl hl.1 d_M_told_3 (Nat.le_of_ble_eq_true rfl) (Nat.le_of_ble_eq_true rfl) ⟨(Nat.le_of_ble_eq_true rfl), (Nat.le_of_ble_eq_true rfl)⟩ (fun r v1 sd1 H l1 hp hP hS => ?_)
  obtain ⟨rfl, rfl, rfl⟩ := hp
  by_cases hx : ∃ i, i < tc ∧ x = nI i
  · refine lv_topE (y := 1) (wth_yes (by omega) hx) ?_
    obtain ⟨i, hi, rfl⟩ := hx
    have hi8 : i < 8 := by omega
    refine lv_if_eq (tgt := 22) K.hx K.hb d_M_told_6 (by decide) (fun c_6 => (show False from by revert c_6; decide).elim) (fun _ => ?_)
    refine lv_iload_n K.hx K.hb d_M_told_9 rfl (lv_at hl 2 rfl) ?_
    refine lv_iconst (v := 0) K.hx K.hb d_M_told_10 (by decide) ?_
    refine lv_iconst (v := 2) K.hx K.hb d_M_told_11 (by decide) ?_
    refine dd_S K hP hS (c_M_in l D cs ad _ _ y 0 2) kw_747 xm_M_in kw_745 kw_746 kw_29 rfl hl.1 d_M_told_12 (Nat.le_of_ble_eq_true rfl) (Nat.le_of_ble_eq_true rfl) ⟨(Nat.le_of_ble_eq_true rfl), (Nat.le_of_ble_eq_true rfl)⟩ (fun r v1 sd1 H l1 hp hP hS => ?_)
    obtain ⟨rfl, rfl, rfl⟩ := hp
    rcases wth_01 y 0 2 with w_12 | w_12
    · refine lv_topE (y := 0) w_12 ?_
      refine lv_if_eq (tgt := 22) K.hx K.hb d_M_told_15 (by decide) (fun _ => ?_) (fun c_15 => (show False from by revert c_15; decide).elim)
      refine lv_iconst (v := 0) K.hx K.hb d_M_told_22 (by decide) ?_
      refine lv_iconst (v := 1) K.hx K.hb d_M_told_23 (by decide) ?_
      refine lv_iconst (v := 1) K.hx K.hb d_M_told_24 (by decide) ?_
      refine dd_V K hP hS (c_M_goes l D cs ad _ _ 0 1 1) kw_751 xm_M_goes kw_748 kw_750 kw_13 (g_recv K.1.2.1 hP (0) (by decide) rfl rfl) rfl hl.1 d_M_told_25 (Nat.le_of_ble_eq_true rfl) (Nat.le_of_ble_eq_true rfl) ⟨(Nat.le_of_ble_eq_true rfl), (Nat.le_of_ble_eq_true rfl)⟩ (fun r v1 sd1 H l1 hp hP hS => ?_)
      obtain ⟨rfl, rfl, rfl⟩ := hp
      have hgz : gz 0 1 1 = 1 := by decide
      rw [hgz] at hP
      refine lv_topE (y := 0) (by rw [hgz]; decide) ?_
      refine lv_if_ne (tgt := 33) K.hx K.hb d_M_told_28 (by decide) (fun c_28 => (show False from by revert c_28; decide).elim) (fun _ => ?_)
      refine lv_iconst (v := 0) K.hx K.hb d_M_told_31 (by decide) ?_
      exact de_i K hP hS (Or.inr ⟨(fun h => h.2 w_12), rfl, rfl, rfl⟩) (Nat.le_of_ble_eq_true rfl) (Nat.le_of_ble_eq_true rfl) d_M_told_32
    · refine lv_topE (y := 1) w_12 ?_
      refine lv_if_eq (tgt := 22) K.hx K.hb d_M_told_15 (by decide) (fun c_15 => (show False from by revert c_15; decide).elim) (fun _ => ?_)
      refine lv_iconst (v := 1) K.hx K.hb d_M_told_18 (by decide) ?_
      refine lv_goto (tgt := 23) K.hx K.hb d_M_told_19 (by decide) ?_
      refine lv_iconst (v := 1) K.hx K.hb d_M_told_23 (by decide) ?_
      refine lv_iconst (v := 1) K.hx K.hb d_M_told_24 (by decide) ?_
      refine dd_V K hP hS (c_M_goes l D cs ad _ _ 1 1 1) kw_751 xm_M_goes kw_748 kw_750 kw_13 (g_recv K.1.2.1 hP (0) (by decide) rfl rfl) rfl hl.1 d_M_told_25 (Nat.le_of_ble_eq_true rfl) (Nat.le_of_ble_eq_true rfl) ⟨(Nat.le_of_ble_eq_true rfl), (Nat.le_of_ble_eq_true rfl)⟩ (fun r v1 sd1 H l1 hp hP hS => ?_)
      obtain ⟨rfl, rfl, rfl⟩ := hp
      have hgz : gz 1 1 1 = 0 := by decide
      rw [hgz] at hP
      refine lv_topE (y := 1) (by rw [hgz]; decide) ?_
      refine lv_if_ne (tgt := 33) K.hx K.hb d_M_told_28 (by decide) (fun _ => ?_) (fun c_28 => (show False from by revert c_28; decide).elim)
      refine lv_iload_n K.hx K.hb d_M_told_33 rfl (lv_at hl 2 rfl) ?_
      refine lv_if_ne (tgt := 44) K.hx K.hb d_M_told_34 (by decide) (fun c_34 => ?_) (fun c_34 => ?_)
      · refine lv_iload_n K.hx K.hb d_M_told_44 rfl (lv_at hl 2 rfl) ?_
        refine lv_iconst (v := 1) K.hx K.hb d_M_told_45 (by decide) ?_
        refine lv_icmp_ne (tgt := 63) K.hx K.hb d_M_told_46 (by decide) (fun c_46 => ?_) (fun c_46 => ?_)
        · refine lv_aload_n K.hx K.hb d_M_told_63 rfl (lv_at hl 0 rfl) ?_
          refine g_get K.1 hP (0) (by decide) rfl rfl i_M 4 (by decide) rfl (Or.inl kw_638) rfl d_M_told_64 ?_
          refine lv_iload_n K.hx K.hb d_M_told_67 rfl (lv_at hl 1 rfl) ?_
          refine g_iald K.1 hP (2) (by decide) rfl 0 rfl (i) rfl (by omega) (by decide) d_M_told_68 ?_
          refine lv_topE (y := (v 2 i)) (by first | (simp [u2_at, kpM]; done) | (simp [u2_at, kpM] <;> (intros; omega)) | (simp only [u2_at, kpM]; (repeat' split) <;> first | rfl | (exfalso; omega))) ?_
          refine lv_aload_n K.hx K.hb d_M_told_69 rfl (lv_at hl 0 rfl) ?_
          refine g_get K.1 hP (0) (by decide) rfl rfl i_M 5 (by decide) rfl (Or.inl kw_639) rfl d_M_told_70 ?_
          refine lv_iload_n K.hx K.hb d_M_told_73 rfl (lv_at hl 1 rfl) ?_
          refine g_iald K.1 hP (3) (by decide) rfl 0 rfl (i) rfl (by omega) (by decide) d_M_told_74 ?_
          refine lv_topE (y := (v 3 i)) (by first | (simp [u2_at, kpM]; done) | (simp [u2_at, kpM] <;> (intros; omega)) | (simp only [u2_at, kpM]; (repeat' split) <;> first | rfl | (exfalso; omega))) ?_
          refine lv_icmp_le (tgt := 94) K.hx K.hb d_M_told_75 (by decide) (fun c_75 => ?_) (fun c_75 => ?_)
          · refine lv_iconst (v := 0) K.hx K.hb d_M_told_94 (by decide) ?_
            exact de_i K hP hS (Or.inl ⟨i, hi, rfl, one_ne w_12, by rw [if_neg c_34, if_neg c_46, if_pos c_75], rfl, rfl⟩) (Nat.le_of_ble_eq_true rfl) (Nat.le_of_ble_eq_true rfl) d_M_told_95
          · refine lv_aload_n K.hx K.hb d_M_told_78 rfl (lv_at hl 0 rfl) ?_
            refine g_get K.1 hP (0) (by decide) rfl rfl i_M 4 (by decide) rfl (Or.inl kw_638) rfl d_M_told_79 ?_
            refine lv_iload_n K.hx K.hb d_M_told_82 rfl (lv_at hl 1 rfl) ?_
            refine g_iald K.1 hP (2) (by decide) rfl 0 rfl (i) rfl (by omega) (by decide) d_M_told_83 ?_
            refine lv_topE (y := (v 2 i)) (by first | (simp [u2_at, kpM]; done) | (simp [u2_at, kpM] <;> (intros; omega)) | (simp only [u2_at, kpM]; (repeat' split) <;> first | rfl | (exfalso; omega))) ?_
            refine lv_aload_n K.hx K.hb d_M_told_84 rfl (lv_at hl 0 rfl) ?_
            refine g_get K.1 hP (0) (by decide) rfl rfl i_M 5 (by decide) rfl (Or.inl kw_639) rfl d_M_told_85 ?_
            refine lv_iload_n K.hx K.hb d_M_told_88 rfl (lv_at hl 1 rfl) ?_
            refine g_iald K.1 hP (3) (by decide) rfl 0 rfl (i) rfl (by omega) (by decide) d_M_told_89 ?_
            refine lv_topE (y := (v 3 i)) (by first | (simp [u2_at, kpM]; done) | (simp [u2_at, kpM] <;> (intros; omega)) | (simp only [u2_at, kpM]; (repeat' split) <;> first | rfl | (exfalso; omega))) ?_
            refine lv_isub K.hx K.hb d_M_told_90 ?_
            refine lv_goto (tgt := 95) K.hx K.hb d_M_told_91 (by decide) ?_
            exact de_i K hP hS (Or.inl ⟨i, hi, rfl, one_ne w_12, by rw [if_neg c_34, if_neg c_46, if_neg c_75], rfl, rfl⟩) (Nat.le_of_ble_eq_true rfl) (Nat.le_of_ble_eq_true rfl) d_M_told_95
        · refine lv_aload_n K.hx K.hb d_M_told_49 rfl (lv_at hl 0 rfl) ?_
          refine lv_iload_n K.hx K.hb d_M_told_50 rfl (lv_at hl 1 rfl) ?_
          refine dd_V K hP hS (c_M_isBarred l D cs ad _ _ hi8) kw_763 xm_M_isBarred kw_760 kw_762 kw_15 (g_recv K.1.2.1 hP (0) (by decide) rfl rfl) rfl hl.1 d_M_told_51 (Nat.le_of_ble_eq_true rfl) (Nat.le_of_ble_eq_true rfl) ⟨(Nat.le_of_ble_eq_true rfl), (Nat.le_of_ble_eq_true rfl)⟩ (fun r v1 sd1 H l1 hp hP hS => ?_)
          obtain ⟨rfl, rfl, rfl⟩ := hp
          rcases barM_01 (u2 v 0 0 0) i with w_51 | w_51
          · refine lv_topE (y := 0) w_51 ?_
            refine lv_if_eq (tgt := 61) K.hx K.hb d_M_told_54 (by decide) (fun _ => ?_) (fun c_54 => (show False from by revert c_54; decide).elim)
            refine lv_iconst (v := 0) K.hx K.hb d_M_told_61 (by decide) ?_
            exact de_i K hP hS (Or.inl ⟨i, hi, rfl, one_ne w_12, by first | (simp_all [u2_at]; done) | (simp_all [u2_at, barM]; done), rfl, rfl⟩) (Nat.le_of_ble_eq_true rfl) (Nat.le_of_ble_eq_true rfl) d_M_told_62
          · refine lv_topE (y := 1) w_51 ?_
            refine lv_if_eq (tgt := 61) K.hx K.hb d_M_told_54 (by decide) (fun c_54 => (show False from by revert c_54; decide).elim) (fun _ => ?_)
            refine lv_iconst (v := 1) K.hx K.hb d_M_told_57 (by decide) ?_
            refine lv_goto (tgt := 62) K.hx K.hb d_M_told_58 (by decide) ?_
            exact de_i K hP hS (Or.inl ⟨i, hi, rfl, one_ne w_12, by first | (simp_all [u2_at]; done) | (simp_all [u2_at, barM]; done), rfl, rfl⟩) (Nat.le_of_ble_eq_true rfl) (Nat.le_of_ble_eq_true rfl) d_M_told_62
      · refine lv_aload_n K.hx K.hb d_M_told_37 rfl (lv_at hl 0 rfl) ?_
        refine g_get K.1 hP (0) (by decide) rfl rfl i_M 5 (by decide) rfl (Or.inl kw_639) rfl d_M_told_38 ?_
        refine lv_iload_n K.hx K.hb d_M_told_41 rfl (lv_at hl 1 rfl) ?_
        refine g_iald K.1 hP (3) (by decide) rfl 0 rfl (i) rfl (by omega) (by decide) d_M_told_42 ?_
        refine lv_topE (y := (v 3 i)) (by first | (simp [u2_at, kpM]; done) | (simp [u2_at, kpM] <;> (intros; omega)) | (simp only [u2_at, kpM]; (repeat' split) <;> first | rfl | (exfalso; omega))) ?_
        exact de_i K hP hS (Or.inl ⟨i, hi, rfl, one_ne w_12, by first | (simp_all [u2_at]; done) | (simp_all [u2_at, barM]; done), rfl, rfl⟩) (Nat.le_of_ble_eq_true rfl) (Nat.le_of_ble_eq_true rfl) d_M_told_43
  · refine lv_topE (y := 0) (wth_no (by omega) hx) ?_
    refine lv_if_eq (tgt := 22) K.hx K.hb d_M_told_6 (by decide) (fun _ => ?_) (fun c_6 => (show False from by revert c_6; decide).elim)
    refine lv_iconst (v := 0) K.hx K.hb d_M_told_22 (by decide) ?_
    refine lv_iconst (v := 1) K.hx K.hb d_M_told_23 (by decide) ?_
    refine lv_iconst (v := 1) K.hx K.hb d_M_told_24 (by decide) ?_
    refine dd_V K hP hS (c_M_goes l D cs ad _ _ 0 1 1) kw_751 xm_M_goes kw_748 kw_750 kw_13 (g_recv K.1.2.1 hP (0) (by decide) rfl rfl) rfl hl.1 d_M_told_25 (Nat.le_of_ble_eq_true rfl) (Nat.le_of_ble_eq_true rfl) ⟨(Nat.le_of_ble_eq_true rfl), (Nat.le_of_ble_eq_true rfl)⟩ (fun r v1 sd1 H l1 hp hP hS => ?_)
    obtain ⟨rfl, rfl, rfl⟩ := hp
    have hgz : gz 0 1 1 = 1 := by decide
    rw [hgz] at hP
    refine lv_topE (y := 0) (by rw [hgz]; decide) ?_
    refine lv_if_ne (tgt := 33) K.hx K.hb d_M_told_28 (by decide) (fun c_28 => (show False from by revert c_28; decide).elim) (fun _ => ?_)
    refine lv_iconst (v := 0) K.hx K.hb d_M_told_31 (by decide) ?_
    exact de_i K hP hS (Or.inr ⟨(fun h => hx h.1), rfl, rfl, rfl⟩) (Nat.le_of_ble_eq_true rfl) (Nat.le_of_ble_eq_true rfl) d_M_told_32
set_option maxHeartbeats 4000000 in
set_option maxRecDepth 100000 in
theorem c_M_left (l : Launch) (D : va_G) (cs : Nat → ClassId) (ad : Nat → Nat) (v : Nat → Nat → Int32) (sd : Int64) {tc : Nat} (htc : v 0 2 = nI tc) (ht8 : tc ≤ 8) (x y : Int32)  : Dm l y_M_left b_M_left 7 (some .int) (rmx 2 0) [.ref (ad 0), .int x, .int y] D cs ad v sd (fun r v' sd' => (∃ i, i < tc ∧ x = nI i ∧ ¬ wthZ y 0 1000 = 0 ∧ r = some (.int (if lfD (v 1 i) (lfZ sd i y) ≤ v 3 i then 0 else lfD (v 1 i) (lfZ sd i y) - v 3 i)) ∧ u2 v 0 0 0 = v' ∧ sd = sd') ∨ ((¬ ∃ i, i < tc ∧ x = nI i) ∧ r = some (.int 0) ∧ u2 v 0 0 1 = v' ∧ sd = sd') ∨ ((∃ i, i < tc ∧ x = nI i) ∧ wthZ y 0 1000 = 0 ∧ r = some (.int 0) ∧ u2 v 0 0 2 = v' ∧ sd = sd')) (fun cls => False) := by
  refine dw_enter (own := "WearHoursModel") rfl (Nat.le_of_ble_eq_true rfl) ?_
  intro p e s m below meth c ls K hS hP hl
  have hl : lv_has ls 7 [(0, .ref (ad 0)), (1, .int x), (2, .int y)] := hl
  refine lv_aload_n K.hx K.hb d_M_left_0 rfl (lv_at hl 0 rfl) ?_
  refine lv_aload_n K.hx K.hb d_M_left_1 rfl (lv_at hl 0 rfl) ?_
  refine lv_iload_n K.hx K.hb d_M_left_2 rfl (lv_at hl 1 rfl) ?_
  refine dd_V K hP hS (c_M_isThing l D cs ad _ _ htc ht8 x) kw_759 xm_M_isThing kw_756 kw_758 kw_14 (g_recv K.1.2.1 hP (0) (by decide) rfl rfl) rfl hl.1 d_M_left_3 (Nat.le_of_ble_eq_true rfl) (Nat.le_of_ble_eq_true rfl) ⟨(Nat.le_of_ble_eq_true rfl), (Nat.le_of_ble_eq_true rfl)⟩ (fun r v1 sd1 H l1 hp hP hS => ?_)
  obtain ⟨rfl, rfl, rfl⟩ := hp
  by_cases hx : ∃ i, i < tc ∧ x = nI i
  · refine lv_topE (y := 1) (wth_yes (by omega) hx) ?_
    obtain ⟨i, hi, rfl⟩ := hx
    have hi8 : i < 8 := by omega
    refine lv_iload_n K.hx K.hb d_M_left_6 rfl (lv_at hl 2 rfl) ?_
    refine lv_iconst (v := 0) K.hx K.hb d_M_left_7 (by decide) ?_
    refine lv_sipush (v := 1000) K.hx K.hb d_M_left_8 (by decide) ?_
    refine dd_S K hP hS (c_M_in l D cs ad _ _ y 0 1000) kw_747 xm_M_in kw_745 kw_746 kw_29 rfl hl.1 d_M_left_11 (Nat.le_of_ble_eq_true rfl) (Nat.le_of_ble_eq_true rfl) ⟨(Nat.le_of_ble_eq_true rfl), (Nat.le_of_ble_eq_true rfl)⟩ (fun r v1 sd1 H l1 hp hP hS => ?_)
    obtain ⟨rfl, rfl, rfl⟩ := hp
    rcases wth_01 y 0 1000 with w_11 | w_11
    · refine lv_topE (y := 0) w_11 ?_
      refine lv_iconst (v := 1) K.hx K.hb d_M_left_14 (by decide) ?_
      refine dd_V K hP hS (c_M_goes l D cs ad _ _ 1 0 1) kw_751 xm_M_goes kw_748 kw_750 kw_13 (g_recv K.1.2.1 hP (0) (by decide) rfl rfl) rfl hl.1 d_M_left_15 (Nat.le_of_ble_eq_true rfl) (Nat.le_of_ble_eq_true rfl) ⟨(Nat.le_of_ble_eq_true rfl), (Nat.le_of_ble_eq_true rfl)⟩ (fun r v1 sd1 H l1 hp hP hS => ?_)
      obtain ⟨rfl, rfl, rfl⟩ := hp
      have hgz : gz 1 0 1 = 2 := by decide
      rw [hgz] at hP
      refine lv_topE (y := 0) (by rw [hgz]; decide) ?_
      refine lv_if_ne (tgt := 23) K.hx K.hb d_M_left_18 (by decide) (fun c_18 => (show False from by revert c_18; decide).elim) (fun _ => ?_)
      refine lv_iconst (v := 0) K.hx K.hb d_M_left_21 (by decide) ?_
      exact de_i K hP hS (Or.inr (Or.inr ⟨⟨i, hi, rfl⟩, w_11, rfl, rfl, rfl⟩)) (Nat.le_of_ble_eq_true rfl) (Nat.le_of_ble_eq_true rfl) d_M_left_22
    · refine lv_topE (y := 1) w_11 ?_
      refine lv_iconst (v := 1) K.hx K.hb d_M_left_14 (by decide) ?_
      refine dd_V K hP hS (c_M_goes l D cs ad _ _ 1 1 1) kw_751 xm_M_goes kw_748 kw_750 kw_13 (g_recv K.1.2.1 hP (0) (by decide) rfl rfl) rfl hl.1 d_M_left_15 (Nat.le_of_ble_eq_true rfl) (Nat.le_of_ble_eq_true rfl) ⟨(Nat.le_of_ble_eq_true rfl), (Nat.le_of_ble_eq_true rfl)⟩ (fun r v1 sd1 H l1 hp hP hS => ?_)
      obtain ⟨rfl, rfl, rfl⟩ := hp
      have hgz : gz 1 1 1 = 0 := by decide
      rw [hgz] at hP
      refine lv_topE (y := 1) (by rw [hgz]; decide) ?_
      refine lv_if_ne (tgt := 23) K.hx K.hb d_M_left_18 (by decide) (fun _ => ?_) (fun c_18 => (show False from by revert c_18; decide).elim)
      refine lv_aload_n K.hx K.hb d_M_left_23 rfl (lv_at hl 0 rfl) ?_
      refine lv_sipush (v := 1001) K.hx K.hb d_M_left_24 (by decide) ?_
      refine lv_iload_n K.hx K.hb d_M_left_27 rfl (lv_at hl 1 rfl) ?_
      refine lv_imul K.hx K.hb d_M_left_28 ?_
      refine lv_topE (y := nI (1001 * i)) (pk_mul _ _) ?_
      refine lv_iload_n K.hx K.hb d_M_left_29 rfl (lv_at hl 2 rfl) ?_
      refine lv_iadd K.hx K.hb d_M_left_30 ?_
      refine lv_iconst (v := 1) K.hx K.hb d_M_left_31 (by decide) ?_
      refine lv_iadd K.hx K.hb d_M_left_32 ?_
      refine dd_V K hP hS (c_M_number l D cs ad _ _ (((nI (1001 * i)) + y) + 1)) kw_779 xm_M_number kw_776 kw_778 kw_17 (g_recv K.1.2.1 hP (0) (by decide) rfl rfl) rfl hl.1 d_M_left_33 (Nat.le_of_ble_eq_true rfl) (Nat.le_of_ble_eq_true rfl) ⟨(Nat.le_of_ble_eq_true rfl), (Nat.le_of_ble_eq_true rfl)⟩ (fun r v1 sd1 H l1 hp hP hS => ?_)
      obtain ⟨rfl, rfl, rfl⟩ := hp
      refine lv_iconst (v := 1) K.hx K.hb d_M_left_36 (by decide) ?_
      refine lv_lshl K.hx K.hb d_M_left_37 rfl ?_
      refine lv_iconst (v := 1) K.hx K.hb d_M_left_38 (by decide) ?_
      refine lv_lushr K.hx K.hb d_M_left_39 rfl ?_
      refine lv_topl (fun z1 ez1 => ?_)
      refine lv_lstore_n (lv' := [(3, .long z1), (0, .ref (ad 0)), (1, .int (nI i)), (2, .int y)]) K.hx K.hb d_M_left_40 rfl hl (by decide) rfl (fun ls hl => ?_)
      refine lv_lload_n K.hx K.hb d_M_left_41 rfl (lv_at hl 0 rfl) ?_
      refine lv_ldc2 (v := 101) K.hx K.hb K.1.1.2.2.2.1 (K.1.1.2.2.2.2 _ kw_783) d_M_left_42 ?_
      refine lv_lrem K.hx K.hb d_M_left_45 (by decide) ?_
      refine lv_l2i K.hx K.hb d_M_left_46 rfl ?_
      refine lv_istore (lv' := [(5, .int ((z1 - z1 / 101 * 101).toInt32)), (3, .long z1), (0, .ref (ad 0)), (1, .int (nI i)), (2, .int y)]) K.hx K.hb d_M_left_47 hl (by decide) rfl (fun ls hl => ?_)
      refine lv_aload_n K.hx K.hb d_M_left_49 rfl (lv_at hl 2 rfl) ?_
      refine g_get K.1 hP (0) (by decide) rfl rfl i_M 3 (by decide) rfl (Or.inl kw_637) rfl d_M_left_50 ?_
      refine lv_iload_n K.hx K.hb d_M_left_53 rfl (lv_at hl 3 rfl) ?_
      refine g_iald K.1 hP (1) (by decide) rfl 0 rfl (i) rfl (by omega) (by decide) d_M_left_54 ?_
      refine lv_topE (y := (v 1 i)) (by first | (simp [u2_at, kpM]; done) | (simp [u2_at, kpM] <;> (intros; omega)) | (simp only [u2_at, kpM]; (repeat' split) <;> first | rfl | (exfalso; omega))) ?_
      refine lv_bipush (v := 50) K.hx K.hb d_M_left_55 (by decide) ?_
      refine lv_iload K.hx K.hb d_M_left_57 (lv_at hl 0 rfl) ?_
      refine lv_iadd K.hx K.hb d_M_left_59 ?_
      refine lv_imul K.hx K.hb d_M_left_60 ?_
      refine lv_bipush (v := 100) K.hx K.hb d_M_left_61 (by decide) ?_
      refine lv_idiv K.hx K.hb d_M_left_63 (by decide) ?_
      refine lv_topi (fun z2 ez2 => ?_)
      refine lv_istore (lv' := [(6, .int z2), (5, .int ((z1 - z1 / 101 * 101).toInt32)), (3, .long z1), (0, .ref (ad 0)), (1, .int (nI i)), (2, .int y)]) K.hx K.hb d_M_left_64 hl (by decide) rfl (fun ls hl => ?_)
      refine lv_iload K.hx K.hb d_M_left_66 (lv_at hl 0 rfl) ?_
      refine lv_aload_n K.hx K.hb d_M_left_68 rfl (lv_at hl 3 rfl) ?_
      refine g_get K.1 hP (0) (by decide) rfl rfl i_M 5 (by decide) rfl (Or.inl kw_639) rfl d_M_left_69 ?_
      refine lv_iload_n K.hx K.hb d_M_left_72 rfl (lv_at hl 4 rfl) ?_
      refine g_iald K.1 hP (3) (by decide) rfl 0 rfl (i) rfl (by omega) (by decide) d_M_left_73 ?_
      refine lv_topE (y := (v 3 i)) (by first | (simp [u2_at, kpM]; done) | (simp [u2_at, kpM] <;> (intros; omega)) | (simp only [u2_at, kpM]; (repeat' split) <;> first | rfl | (exfalso; omega))) ?_
      refine lv_icmp_le (tgt := 89) K.hx K.hb d_M_left_74 (by decide) (fun c_74 => ?_) (fun c_74 => ?_)
      · refine lv_iconst (v := 0) K.hx K.hb d_M_left_89 (by decide) ?_
        exact de_i K hP hS (Or.inl ⟨i, hi, rfl, one_ne w_11, by rw [show lfD (v 1 i) (lfZ sd i y) = z2 from by subst ez1 ez2; rfl, if_pos c_74], rfl, rfl⟩) (Nat.le_of_ble_eq_true rfl) (Nat.le_of_ble_eq_true rfl) d_M_left_90
      · refine lv_iload K.hx K.hb d_M_left_77 (lv_at hl 0 rfl) ?_
        refine lv_aload_n K.hx K.hb d_M_left_79 rfl (lv_at hl 3 rfl) ?_
        refine g_get K.1 hP (0) (by decide) rfl rfl i_M 5 (by decide) rfl (Or.inl kw_639) rfl d_M_left_80 ?_
        refine lv_iload_n K.hx K.hb d_M_left_83 rfl (lv_at hl 4 rfl) ?_
        refine g_iald K.1 hP (3) (by decide) rfl 0 rfl (i) rfl (by omega) (by decide) d_M_left_84 ?_
        refine lv_topE (y := (v 3 i)) (by first | (simp [u2_at, kpM]; done) | (simp [u2_at, kpM] <;> (intros; omega)) | (simp only [u2_at, kpM]; (repeat' split) <;> first | rfl | (exfalso; omega))) ?_
        refine lv_isub K.hx K.hb d_M_left_85 ?_
        refine lv_goto (tgt := 90) K.hx K.hb d_M_left_86 (by decide) ?_
        exact de_i K hP hS (Or.inl ⟨i, hi, rfl, one_ne w_11, by rw [show lfD (v 1 i) (lfZ sd i y) = z2 from by subst ez1 ez2; rfl, if_neg c_74], rfl, rfl⟩) (Nat.le_of_ble_eq_true rfl) (Nat.le_of_ble_eq_true rfl) d_M_left_90
  · refine lv_topE (y := 0) (wth_no (by omega) hx) ?_
    refine lv_iload_n K.hx K.hb d_M_left_6 rfl (lv_at hl 2 rfl) ?_
    refine lv_iconst (v := 0) K.hx K.hb d_M_left_7 (by decide) ?_
    refine lv_sipush (v := 1000) K.hx K.hb d_M_left_8 (by decide) ?_
    refine dd_S K hP hS (c_M_in l D cs ad _ _ y 0 1000) kw_747 xm_M_in kw_745 kw_746 kw_29 rfl hl.1 d_M_left_11 (Nat.le_of_ble_eq_true rfl) (Nat.le_of_ble_eq_true rfl) ⟨(Nat.le_of_ble_eq_true rfl), (Nat.le_of_ble_eq_true rfl)⟩ (fun r v1 sd1 H l1 hp hP hS => ?_)
    obtain ⟨rfl, rfl, rfl⟩ := hp
    rcases wth_01 y 0 1000 with w_11 | w_11
    · refine lv_topE (y := 0) w_11 ?_
      refine lv_iconst (v := 1) K.hx K.hb d_M_left_14 (by decide) ?_
      refine dd_V K hP hS (c_M_goes l D cs ad _ _ 0 0 1) kw_751 xm_M_goes kw_748 kw_750 kw_13 (g_recv K.1.2.1 hP (0) (by decide) rfl rfl) rfl hl.1 d_M_left_15 (Nat.le_of_ble_eq_true rfl) (Nat.le_of_ble_eq_true rfl) ⟨(Nat.le_of_ble_eq_true rfl), (Nat.le_of_ble_eq_true rfl)⟩ (fun r v1 sd1 H l1 hp hP hS => ?_)
      obtain ⟨rfl, rfl, rfl⟩ := hp
      have hgz : gz 0 0 1 = 1 := by decide
      rw [hgz] at hP
      refine lv_topE (y := 0) (by rw [hgz]; decide) ?_
      refine lv_if_ne (tgt := 23) K.hx K.hb d_M_left_18 (by decide) (fun c_18 => (show False from by revert c_18; decide).elim) (fun _ => ?_)
      refine lv_iconst (v := 0) K.hx K.hb d_M_left_21 (by decide) ?_
      exact de_i K hP hS (Or.inr (Or.inl ⟨hx, rfl, rfl, rfl⟩)) (Nat.le_of_ble_eq_true rfl) (Nat.le_of_ble_eq_true rfl) d_M_left_22
    · refine lv_topE (y := 1) w_11 ?_
      refine lv_iconst (v := 1) K.hx K.hb d_M_left_14 (by decide) ?_
      refine dd_V K hP hS (c_M_goes l D cs ad _ _ 0 1 1) kw_751 xm_M_goes kw_748 kw_750 kw_13 (g_recv K.1.2.1 hP (0) (by decide) rfl rfl) rfl hl.1 d_M_left_15 (Nat.le_of_ble_eq_true rfl) (Nat.le_of_ble_eq_true rfl) ⟨(Nat.le_of_ble_eq_true rfl), (Nat.le_of_ble_eq_true rfl)⟩ (fun r v1 sd1 H l1 hp hP hS => ?_)
      obtain ⟨rfl, rfl, rfl⟩ := hp
      have hgz : gz 0 1 1 = 1 := by decide
      rw [hgz] at hP
      refine lv_topE (y := 0) (by rw [hgz]; decide) ?_
      refine lv_if_ne (tgt := 23) K.hx K.hb d_M_left_18 (by decide) (fun c_18 => (show False from by revert c_18; decide).elim) (fun _ => ?_)
      refine lv_iconst (v := 0) K.hx K.hb d_M_left_21 (by decide) ?_
      exact de_i K hP hS (Or.inr (Or.inl ⟨hx, rfl, rfl, rfl⟩)) (Nat.le_of_ble_eq_true rfl) (Nat.le_of_ble_eq_true rfl) d_M_left_22
set_option maxHeartbeats 4000000 in
set_option maxRecDepth 100000 in
theorem c_M_permit (l : Launch) (D : va_G) (cs : Nat → ClassId) (ad : Nat → Nat) (v : Nat → Nat → Int32) (sd : Int64) {tc : Nat} (htc : v 0 2 = nI tc) (ht8 : tc ≤ 8) (x y : Int32)  : Dm l y_M_permit b_M_permit 4 none (rmx 2 0) [.ref (ad 0), .int x, .int y] D cs ad v sd (fun r v' sd' => (∃ i, i < tc ∧ x = nI i ∧ v 4 i = y ∧ r = none ∧ kpM (u2 (u2 v 0 0 0) 4 i (if y = 0 then 1 else 0)) i (if y = 0 then -2 else -3) = v' ∧ sd = sd') ∨ ((¬ ∃ i, i < tc ∧ x = nI i) ∧ r = none ∧ u2 v 0 0 1 = v' ∧ sd = sd') ∨ (∃ i, i < tc ∧ x = nI i ∧ ¬ v 4 i = y ∧ r = none ∧ u2 v 0 0 2 = v' ∧ sd = sd')) (fun cls => False) := by
  refine dw_enter (own := "WearHoursModel") rfl (Nat.le_of_ble_eq_true rfl) ?_
  intro p e s m below meth c ls K hS hP hl
  have hl : lv_has ls 4 [(0, .ref (ad 0)), (1, .int x), (2, .int y)] := hl
  refine lv_aload_n K.hx K.hb d_M_permit_0 rfl (lv_at hl 0 rfl) ?_
  refine lv_iload_n K.hx K.hb d_M_permit_1 rfl (lv_at hl 1 rfl) ?_
  refine dd_V K hP hS (c_M_isThing l D cs ad _ _ htc ht8 x) kw_759 xm_M_isThing kw_756 kw_758 kw_14 (g_recv K.1.2.1 hP (0) (by decide) rfl rfl) rfl hl.1 d_M_permit_2 (Nat.le_of_ble_eq_true rfl) (Nat.le_of_ble_eq_true rfl) ⟨(Nat.le_of_ble_eq_true rfl), (Nat.le_of_ble_eq_true rfl)⟩ (fun r v1 sd1 H l1 hp hP hS => ?_)
  obtain ⟨rfl, rfl, rfl⟩ := hp
  by_cases hx : ∃ i, i < tc ∧ x = nI i
  · refine lv_topE (y := 1) (wth_yes (by omega) hx) ?_
    obtain ⟨i, hi, rfl⟩ := hx
    have hi8 : i < 8 := by omega
    refine lv_istore_n (lv' := [(3, .int 1), (0, .ref (ad 0)), (1, .int (nI i)), (2, .int y)]) K.hx K.hb d_M_permit_5 rfl hl (by decide) rfl (fun ls hl => ?_)
    refine lv_aload_n K.hx K.hb d_M_permit_6 rfl (lv_at hl 1 rfl) ?_
    refine lv_iload_n K.hx K.hb d_M_permit_7 rfl (lv_at hl 0 rfl) ?_
    refine lv_iload_n K.hx K.hb d_M_permit_8 rfl (lv_at hl 0 rfl) ?_
    refine lv_if_eq (tgt := 26) K.hx K.hb d_M_permit_9 (by decide) (fun c_9 => (show False from by revert c_9; decide).elim) (fun _ => ?_)
    refine lv_aload_n K.hx K.hb d_M_permit_12 rfl (lv_at hl 1 rfl) ?_
    refine g_get K.1 hP (0) (by decide) rfl rfl i_M 6 (by decide) rfl (Or.inl kw_640) rfl d_M_permit_13 ?_
    refine lv_iload_n K.hx K.hb d_M_permit_16 rfl (lv_at hl 2 rfl) ?_
    refine g_zald K.1 hP (4) (by decide) rfl 1 rfl (i) rfl (by omega) (by decide) d_M_permit_17 ?_
    refine lv_iload_n K.hx K.hb d_M_permit_18 rfl (lv_at hl 3 rfl) ?_
    refine lv_icmp_ne (tgt := 26) K.hx K.hb d_M_permit_19 (by decide) (fun c_19 => ?_) (fun c_19 => ?_)
    · refine lv_iconst (v := 0) K.hx K.hb d_M_permit_26 (by decide) ?_
      refine lv_iconst (v := 1) K.hx K.hb d_M_permit_27 (by decide) ?_
      refine dd_V K hP hS (c_M_goes l D cs ad _ _ 1 0 1) kw_751 xm_M_goes kw_748 kw_750 kw_13 (g_recv K.1.2.1 hP (0) (by decide) rfl rfl) rfl hl.1 d_M_permit_28 (Nat.le_of_ble_eq_true rfl) (Nat.le_of_ble_eq_true rfl) ⟨(Nat.le_of_ble_eq_true rfl), (Nat.le_of_ble_eq_true rfl)⟩ (fun r v1 sd1 H l1 hp hP hS => ?_)
      obtain ⟨rfl, rfl, rfl⟩ := hp
      have hgz : gz 1 0 1 = 2 := by decide
      rw [hgz] at hP
      refine lv_topE (y := 0) (by rw [hgz]; decide) ?_
      refine lv_if_ne (tgt := 35) K.hx K.hb d_M_permit_31 (by decide) (fun c_31 => (show False from by revert c_31; decide).elim) (fun _ => ?_)
      exact de_v K hP hS (Or.inr (Or.inr ⟨i, hi, rfl, c_19, rfl, rfl, rfl⟩)) (Nat.le_of_ble_eq_true rfl) (Nat.le_of_ble_eq_true rfl) d_M_permit_34
    · refine lv_iconst (v := 1) K.hx K.hb d_M_permit_22 (by decide) ?_
      refine lv_goto (tgt := 27) K.hx K.hb d_M_permit_23 (by decide) ?_
      refine lv_iconst (v := 1) K.hx K.hb d_M_permit_27 (by decide) ?_
      refine dd_V K hP hS (c_M_goes l D cs ad _ _ 1 1 1) kw_751 xm_M_goes kw_748 kw_750 kw_13 (g_recv K.1.2.1 hP (0) (by decide) rfl rfl) rfl hl.1 d_M_permit_28 (Nat.le_of_ble_eq_true rfl) (Nat.le_of_ble_eq_true rfl) ⟨(Nat.le_of_ble_eq_true rfl), (Nat.le_of_ble_eq_true rfl)⟩ (fun r v1 sd1 H l1 hp hP hS => ?_)
      obtain ⟨rfl, rfl, rfl⟩ := hp
      have hgz : gz 1 1 1 = 0 := by decide
      rw [hgz] at hP
      refine lv_topE (y := 1) (by rw [hgz]; decide) ?_
      refine lv_if_ne (tgt := 35) K.hx K.hb d_M_permit_31 (by decide) (fun _ => ?_) (fun c_31 => (show False from by revert c_31; decide).elim)
      refine lv_aload_n K.hx K.hb d_M_permit_35 rfl (lv_at hl 1 rfl) ?_
      refine g_get K.1 hP (0) (by decide) rfl rfl i_M 6 (by decide) rfl (Or.inl kw_640) rfl d_M_permit_36 ?_
      refine lv_iload_n K.hx K.hb d_M_permit_39 rfl (lv_at hl 2 rfl) ?_
      refine lv_iload_n K.hx K.hb d_M_permit_40 rfl (lv_at hl 3 rfl) ?_
      refine lv_if_ne (tgt := 48) K.hx K.hb d_M_permit_41 (by decide) (fun c_41 => ?_) (fun c_41 => ?_)
      · refine lv_iconst (v := 0) K.hx K.hb d_M_permit_48 (by decide) ?_
        refine g_zast K.1 hP hS (4) (by decide) (fun _ => rfl) 1 rfl rfl (i) rfl (by omega) (by decide) d_M_permit_49 (fun H l1 hP hS => ?_)
        refine lv_aload_n K.hx K.hb d_M_permit_50 rfl (lv_at hl 1 rfl) ?_
        refine lv_iload_n K.hx K.hb d_M_permit_51 rfl (lv_at hl 2 rfl) ?_
        refine lv_iload_n K.hx K.hb d_M_permit_52 rfl (lv_at hl 3 rfl) ?_
        refine lv_if_eq (tgt := 61) K.hx K.hb d_M_permit_53 (by decide) (fun c_53 => (absurd c_53 c_41)) (fun c_53 => ?_)
        refine lv_bipush (v := (-3)) K.hx K.hb d_M_permit_56 (by decide) ?_
        refine lv_goto (tgt := 63) K.hx K.hb d_M_permit_58 (by decide) ?_
        refine dd_V K hP hS (c_M_keep l D cs ad _ _ hi8 (-3)) kw_767 xm_M_keep kw_764 kw_766 kw_16 (g_recv K.1.2.1 hP (0) (by decide) rfl rfl) rfl hl.1 d_M_permit_63 (Nat.le_of_ble_eq_true rfl) (Nat.le_of_ble_eq_true rfl) ⟨(Nat.le_of_ble_eq_true rfl), (Nat.le_of_ble_eq_true rfl)⟩ (fun r v1 sd1 H l1 hp hP hS => ?_)
        obtain ⟨rfl, rfl, rfl⟩ := hp
        exact de_v K hP hS (Or.inl ⟨i, hi, rfl, c_19, rfl, by rw [if_neg c_41, if_neg c_41], rfl⟩) (Nat.le_of_ble_eq_true rfl) (Nat.le_of_ble_eq_true rfl) d_M_permit_66
      · refine lv_iconst (v := 1) K.hx K.hb d_M_permit_44 (by decide) ?_
        refine lv_goto (tgt := 49) K.hx K.hb d_M_permit_45 (by decide) ?_
        refine g_zast K.1 hP hS (4) (by decide) (fun _ => rfl) 1 rfl rfl (i) rfl (by omega) (by decide) d_M_permit_49 (fun H l1 hP hS => ?_)
        refine lv_aload_n K.hx K.hb d_M_permit_50 rfl (lv_at hl 1 rfl) ?_
        refine lv_iload_n K.hx K.hb d_M_permit_51 rfl (lv_at hl 2 rfl) ?_
        refine lv_iload_n K.hx K.hb d_M_permit_52 rfl (lv_at hl 3 rfl) ?_
        refine lv_if_eq (tgt := 61) K.hx K.hb d_M_permit_53 (by decide) (fun c_53 => ?_) (fun c_53 => (absurd c_41 c_53))
        refine lv_bipush (v := (-2)) K.hx K.hb d_M_permit_61 (by decide) ?_
        refine dd_V K hP hS (c_M_keep l D cs ad _ _ hi8 (-2)) kw_767 xm_M_keep kw_764 kw_766 kw_16 (g_recv K.1.2.1 hP (0) (by decide) rfl rfl) rfl hl.1 d_M_permit_63 (Nat.le_of_ble_eq_true rfl) (Nat.le_of_ble_eq_true rfl) ⟨(Nat.le_of_ble_eq_true rfl), (Nat.le_of_ble_eq_true rfl)⟩ (fun r v1 sd1 H l1 hp hP hS => ?_)
        obtain ⟨rfl, rfl, rfl⟩ := hp
        exact de_v K hP hS (Or.inl ⟨i, hi, rfl, c_19, rfl, by rw [if_pos c_41, if_pos c_41], rfl⟩) (Nat.le_of_ble_eq_true rfl) (Nat.le_of_ble_eq_true rfl) d_M_permit_66
  · refine lv_topE (y := 0) (wth_no (by omega) hx) ?_
    refine lv_istore_n (lv' := [(3, .int 0), (0, .ref (ad 0)), (1, .int x), (2, .int y)]) K.hx K.hb d_M_permit_5 rfl hl (by decide) rfl (fun ls hl => ?_)
    refine lv_aload_n K.hx K.hb d_M_permit_6 rfl (lv_at hl 1 rfl) ?_
    refine lv_iload_n K.hx K.hb d_M_permit_7 rfl (lv_at hl 0 rfl) ?_
    refine lv_iload_n K.hx K.hb d_M_permit_8 rfl (lv_at hl 0 rfl) ?_
    refine lv_if_eq (tgt := 26) K.hx K.hb d_M_permit_9 (by decide) (fun _ => ?_) (fun c_9 => (show False from by revert c_9; decide).elim)
    refine lv_iconst (v := 0) K.hx K.hb d_M_permit_26 (by decide) ?_
    refine lv_iconst (v := 1) K.hx K.hb d_M_permit_27 (by decide) ?_
    refine dd_V K hP hS (c_M_goes l D cs ad _ _ 0 0 1) kw_751 xm_M_goes kw_748 kw_750 kw_13 (g_recv K.1.2.1 hP (0) (by decide) rfl rfl) rfl hl.1 d_M_permit_28 (Nat.le_of_ble_eq_true rfl) (Nat.le_of_ble_eq_true rfl) ⟨(Nat.le_of_ble_eq_true rfl), (Nat.le_of_ble_eq_true rfl)⟩ (fun r v1 sd1 H l1 hp hP hS => ?_)
    obtain ⟨rfl, rfl, rfl⟩ := hp
    have hgz : gz 0 0 1 = 1 := by decide
    rw [hgz] at hP
    refine lv_topE (y := 0) (by rw [hgz]; decide) ?_
    refine lv_if_ne (tgt := 35) K.hx K.hb d_M_permit_31 (by decide) (fun c_31 => (show False from by revert c_31; decide).elim) (fun _ => ?_)
    exact de_v K hP hS (Or.inr (Or.inl ⟨hx, rfl, rfl, rfl⟩)) (Nat.le_of_ble_eq_true rfl) (Nat.le_of_ble_eq_true rfl) d_M_permit_34
set_option maxHeartbeats 4000000 in
set_option maxRecDepth 100000 in
theorem c_M_history (l : Launch) (D : va_G) (cs : Nat → ClassId) (ad : Nat → Nat) (v : Nat → Nat → Int32) (sd : Int64) {tc : Nat} (htc : v 0 2 = nI tc) (ht8 : tc ≤ 8) (x y : Int32)  : Dm l y_M_history b_M_history 3 (some .int) (rmx 2 0) [.ref (ad 0), .int x, .int y] D cs ad v sd (fun r v' sd' => (∃ i, i < tc ∧ x = nI i ∧ ¬ y < 0 ∧ r = some (.int (if 5 ≤ y then 0 else v 5 (5 * i + y.toNatClampNeg))) ∧ u2 v 0 0 0 = v' ∧ sd = sd') ∨ (¬ ((∃ i, i < tc ∧ x = nI i) ∧ ¬ y < 0) ∧ r = some (.int 0) ∧ u2 v 0 0 1 = v' ∧ sd = sd')) (fun cls => False) := by
  refine dw_enter (own := "WearHoursModel") rfl (Nat.le_of_ble_eq_true rfl) ?_
  intro p e s m below meth c ls K hS hP hl
  have hl : lv_has ls 3 [(0, .ref (ad 0)), (1, .int x), (2, .int y)] := hl
  refine lv_aload_n K.hx K.hb d_M_history_0 rfl (lv_at hl 0 rfl) ?_
  refine lv_aload_n K.hx K.hb d_M_history_1 rfl (lv_at hl 0 rfl) ?_
  refine lv_iload_n K.hx K.hb d_M_history_2 rfl (lv_at hl 1 rfl) ?_
  refine dd_V K hP hS (c_M_isThing l D cs ad _ _ htc ht8 x) kw_759 xm_M_isThing kw_756 kw_758 kw_14 (g_recv K.1.2.1 hP (0) (by decide) rfl rfl) rfl hl.1 d_M_history_3 (Nat.le_of_ble_eq_true rfl) (Nat.le_of_ble_eq_true rfl) ⟨(Nat.le_of_ble_eq_true rfl), (Nat.le_of_ble_eq_true rfl)⟩ (fun r v1 sd1 H l1 hp hP hS => ?_)
  obtain ⟨rfl, rfl, rfl⟩ := hp
  by_cases hx : ∃ i, i < tc ∧ x = nI i
  · refine lv_topE (y := 1) (wth_yes (by omega) hx) ?_
    obtain ⟨i, hi, rfl⟩ := hx
    have hi8 : i < 8 := by omega
    refine lv_if_eq (tgt := 17) K.hx K.hb d_M_history_6 (by decide) (fun c_6 => (show False from by revert c_6; decide).elim) (fun _ => ?_)
    refine lv_iload_n K.hx K.hb d_M_history_9 rfl (lv_at hl 2 rfl) ?_
    refine lv_if_lt (tgt := 17) K.hx K.hb d_M_history_10 (by decide) (fun c_10 => ?_) (fun c_10 => ?_)
    · refine lv_iconst (v := 0) K.hx K.hb d_M_history_17 (by decide) ?_
      refine lv_iconst (v := 1) K.hx K.hb d_M_history_18 (by decide) ?_
      refine lv_iconst (v := 1) K.hx K.hb d_M_history_19 (by decide) ?_
      refine dd_V K hP hS (c_M_goes l D cs ad _ _ 0 1 1) kw_751 xm_M_goes kw_748 kw_750 kw_13 (g_recv K.1.2.1 hP (0) (by decide) rfl rfl) rfl hl.1 d_M_history_20 (Nat.le_of_ble_eq_true rfl) (Nat.le_of_ble_eq_true rfl) ⟨(Nat.le_of_ble_eq_true rfl), (Nat.le_of_ble_eq_true rfl)⟩ (fun r v1 sd1 H l1 hp hP hS => ?_)
      obtain ⟨rfl, rfl, rfl⟩ := hp
      have hgz : gz 0 1 1 = 1 := by decide
      rw [hgz] at hP
      refine lv_topE (y := 0) (by rw [hgz]; decide) ?_
      refine lv_if_ne (tgt := 28) K.hx K.hb d_M_history_23 (by decide) (fun c_23 => (show False from by revert c_23; decide).elim) (fun _ => ?_)
      refine lv_iconst (v := 0) K.hx K.hb d_M_history_26 (by decide) ?_
      exact de_i K hP hS (Or.inr ⟨(fun h => h.2 c_10), rfl, rfl, rfl⟩) (Nat.le_of_ble_eq_true rfl) (Nat.le_of_ble_eq_true rfl) d_M_history_27
    · refine lv_iconst (v := 1) K.hx K.hb d_M_history_13 (by decide) ?_
      refine lv_goto (tgt := 18) K.hx K.hb d_M_history_14 (by decide) ?_
      refine lv_iconst (v := 1) K.hx K.hb d_M_history_18 (by decide) ?_
      refine lv_iconst (v := 1) K.hx K.hb d_M_history_19 (by decide) ?_
      refine dd_V K hP hS (c_M_goes l D cs ad _ _ 1 1 1) kw_751 xm_M_goes kw_748 kw_750 kw_13 (g_recv K.1.2.1 hP (0) (by decide) rfl rfl) rfl hl.1 d_M_history_20 (Nat.le_of_ble_eq_true rfl) (Nat.le_of_ble_eq_true rfl) ⟨(Nat.le_of_ble_eq_true rfl), (Nat.le_of_ble_eq_true rfl)⟩ (fun r v1 sd1 H l1 hp hP hS => ?_)
      obtain ⟨rfl, rfl, rfl⟩ := hp
      have hgz : gz 1 1 1 = 0 := by decide
      rw [hgz] at hP
      refine lv_topE (y := 1) (by rw [hgz]; decide) ?_
      refine lv_if_ne (tgt := 28) K.hx K.hb d_M_history_23 (by decide) (fun _ => ?_) (fun c_23 => (show False from by revert c_23; decide).elim)
      refine lv_iload_n K.hx K.hb d_M_history_28 rfl (lv_at hl 2 rfl) ?_
      refine lv_iconst (v := 5) K.hx K.hb d_M_history_29 (by decide) ?_
      refine lv_icmp_ge (tgt := 46) K.hx K.hb d_M_history_30 (by decide) (fun c_30 => ?_) (fun c_30 => ?_)
      · refine lv_iconst (v := 0) K.hx K.hb d_M_history_46 (by decide) ?_
        exact de_i K hP hS (Or.inl ⟨i, hi, rfl, c_10, by rw [if_pos c_30], rfl, rfl⟩) (Nat.le_of_ble_eq_true rfl) (Nat.le_of_ble_eq_true rfl) d_M_history_47
      · obtain ⟨j, hj, rfl⟩ : ∃ j : Nat, j < 5 ∧ y = nI j := chg_ix c_10 c_30
        refine lv_aload_n K.hx K.hb d_M_history_33 rfl (lv_at hl 0 rfl) ?_
        refine g_get K.1 hP (0) (by decide) rfl rfl i_M 7 (by decide) rfl (Or.inl kw_641) rfl d_M_history_34 ?_
        refine lv_iconst (v := 5) K.hx K.hb d_M_history_37 (by decide) ?_
        refine lv_iload_n K.hx K.hb d_M_history_38 rfl (lv_at hl 1 rfl) ?_
        refine lv_imul K.hx K.hb d_M_history_39 ?_
        refine lv_topE (y := nI (5 * i)) (pk_mul _ _) ?_
        refine lv_iload_n K.hx K.hb d_M_history_40 rfl (lv_at hl 2 rfl) ?_
        refine lv_iadd K.hx K.hb d_M_history_41 ?_
        refine lv_topE (y := nI (5 * i + j)) (nI_add _ _) ?_
        refine g_iald K.1 hP (5) (by decide) rfl 0 rfl (5 * i + j) rfl (by omega) (by decide) d_M_history_42 ?_
        refine lv_topE (y := (v 5 (5 * i + j))) (by first | (simp [u2_at, kpM]; done) | (simp [u2_at, kpM] <;> (intros; omega)) | (simp only [u2_at, kpM]; (repeat' split) <;> first | rfl | (exfalso; omega))) ?_
        refine lv_goto (tgt := 47) K.hx K.hb d_M_history_43 (by decide) ?_
        exact de_i K hP hS (Or.inl ⟨i, hi, rfl, c_10, by rw [if_neg c_30, nI_clamp (show j < 2 ^ 31 by omega)], rfl, rfl⟩) (Nat.le_of_ble_eq_true rfl) (Nat.le_of_ble_eq_true rfl) d_M_history_47
  · refine lv_topE (y := 0) (wth_no (by omega) hx) ?_
    refine lv_if_eq (tgt := 17) K.hx K.hb d_M_history_6 (by decide) (fun _ => ?_) (fun c_6 => (show False from by revert c_6; decide).elim)
    refine lv_iconst (v := 0) K.hx K.hb d_M_history_17 (by decide) ?_
    refine lv_iconst (v := 1) K.hx K.hb d_M_history_18 (by decide) ?_
    refine lv_iconst (v := 1) K.hx K.hb d_M_history_19 (by decide) ?_
    refine dd_V K hP hS (c_M_goes l D cs ad _ _ 0 1 1) kw_751 xm_M_goes kw_748 kw_750 kw_13 (g_recv K.1.2.1 hP (0) (by decide) rfl rfl) rfl hl.1 d_M_history_20 (Nat.le_of_ble_eq_true rfl) (Nat.le_of_ble_eq_true rfl) ⟨(Nat.le_of_ble_eq_true rfl), (Nat.le_of_ble_eq_true rfl)⟩ (fun r v1 sd1 H l1 hp hP hS => ?_)
    obtain ⟨rfl, rfl, rfl⟩ := hp
    have hgz : gz 0 1 1 = 1 := by decide
    rw [hgz] at hP
    refine lv_topE (y := 0) (by rw [hgz]; decide) ?_
    refine lv_if_ne (tgt := 28) K.hx K.hb d_M_history_23 (by decide) (fun c_23 => (show False from by revert c_23; decide).elim) (fun _ => ?_)
    refine lv_iconst (v := 0) K.hx K.hb d_M_history_26 (by decide) ?_
    exact de_i K hP hS (Or.inr ⟨(fun h => hx h.1), rfl, rfl, rfl⟩) (Nat.le_of_ble_eq_true rfl) (Nat.le_of_ble_eq_true rfl) d_M_history_27
set_option maxHeartbeats 4000000 in
set_option maxRecDepth 100000 in
theorem c_M_gap (l : Launch) (D : va_G) (cs : Nat → ClassId) (ad : Nat → Nat) (v : Nat → Nat → Int32) (sd : Int64) {gc : Nat} (hgc : v 0 8 = nI gc) (hg6 : gc ≤ 6) (x y : Int32)  : Dm l y_M_gap b_M_gap 3 (some .int) (rmx 2 0) [.ref (ad 0), .int x, .int y] D cs ad v sd (fun r v' sd' => (hrZ x y ∧ gc < 6 ∧ r = some (.int (nI (gc + 1))) ∧ u2 (u2 (u2 (u2 (u2 v 0 0 0) 6 gc x) 7 gc y) 0 8 (nI (gc + 1))) 0 23 0 = v' ∧ sd = sd') ∨ (¬ hrZ x y ∧ r = some (.int 0) ∧ u2 v 0 0 1 = v' ∧ sd = sd') ∨ (hrZ x y ∧ ¬ gc < 6 ∧ r = some (.int 0) ∧ u2 v 0 0 2 = v' ∧ sd = sd')) (fun cls => False) := by
  refine dw_enter (own := "WearHoursModel") rfl (Nat.le_of_ble_eq_true rfl) ?_
  intro p e s m below meth c ls K hS hP hl
  have hl : lv_has ls 3 [(0, .ref (ad 0)), (1, .int x), (2, .int y)] := hl
  refine lv_aload_n K.hx K.hb d_M_gap_0 rfl (lv_at hl 0 rfl) ?_
  refine lv_iload_n K.hx K.hb d_M_gap_1 rfl (lv_at hl 1 rfl) ?_
  refine lv_iload_n K.hx K.hb d_M_gap_2 rfl (lv_at hl 2 rfl) ?_
  refine dd_S K hP hS (c_M_areHours l D cs ad _ _ x y) kw_798 xm_M_areHours kw_796 kw_797 kw_29 rfl hl.1 d_M_gap_3 (Nat.le_of_ble_eq_true rfl) (Nat.le_of_ble_eq_true rfl) ⟨(Nat.le_of_ble_eq_true rfl), (Nat.le_of_ble_eq_true rfl)⟩ (fun r v1 sd1 H l1 hp hP hS => ?_)
  obtain ⟨rfl, rfl, rfl⟩ := hp
  by_cases w_3 : hrZ x y
  · refine lv_topE (y := 1) ((hr_eq _ _).trans (if_pos w_3)) ?_
    refine lv_aload_n K.hx K.hb d_M_gap_6 rfl (lv_at hl 0 rfl) ?_
    refine g_get K.1 hP (0) (by decide) rfl rfl i_M 8 (by decide) rfl (Or.inl kw_642) rfl d_M_gap_7 ?_
    refine lv_topE (y := nI gc) hgc ?_
    refine lv_bipush (v := 6) K.hx K.hb d_M_gap_10 (by decide) ?_
    refine lv_icmp_ge (tgt := 19) K.hx K.hb d_M_gap_12 (by decide) (fun c_12 => ?_) (fun c_12 => ?_)
    · refine lv_iconst (v := 0) K.hx K.hb d_M_gap_19 (by decide) ?_
      refine lv_iconst (v := 1) K.hx K.hb d_M_gap_20 (by decide) ?_
      refine dd_V K hP hS (c_M_goes l D cs ad _ _ 1 0 1) kw_751 xm_M_goes kw_748 kw_750 kw_13 (g_recv K.1.2.1 hP (0) (by decide) rfl rfl) rfl hl.1 d_M_gap_21 (Nat.le_of_ble_eq_true rfl) (Nat.le_of_ble_eq_true rfl) ⟨(Nat.le_of_ble_eq_true rfl), (Nat.le_of_ble_eq_true rfl)⟩ (fun r v1 sd1 H l1 hp hP hS => ?_)
      obtain ⟨rfl, rfl, rfl⟩ := hp
      have hgz : gz 1 0 1 = 2 := by decide
      rw [hgz] at hP
      refine lv_topE (y := 0) (by rw [hgz]; decide) ?_
      refine lv_if_ne (tgt := 29) K.hx K.hb d_M_gap_24 (by decide) (fun c_24 => (show False from by revert c_24; decide).elim) (fun _ => ?_)
      refine lv_iconst (v := 0) K.hx K.hb d_M_gap_27 (by decide) ?_
      exact de_i K hP hS (Or.inr (Or.inr ⟨w_3, fun h => absurd h (Nat.not_lt.mpr ((nI_leI (by decide) (by omega)).mp (show nI 6 ≤ nI gc from c_12))), rfl, rfl, rfl⟩)) (Nat.le_of_ble_eq_true rfl) (Nat.le_of_ble_eq_true rfl) d_M_gap_28
    · refine lv_iconst (v := 1) K.hx K.hb d_M_gap_15 (by decide) ?_
      refine lv_goto (tgt := 20) K.hx K.hb d_M_gap_16 (by decide) ?_
      refine lv_iconst (v := 1) K.hx K.hb d_M_gap_20 (by decide) ?_
      refine dd_V K hP hS (c_M_goes l D cs ad _ _ 1 1 1) kw_751 xm_M_goes kw_748 kw_750 kw_13 (g_recv K.1.2.1 hP (0) (by decide) rfl rfl) rfl hl.1 d_M_gap_21 (Nat.le_of_ble_eq_true rfl) (Nat.le_of_ble_eq_true rfl) ⟨(Nat.le_of_ble_eq_true rfl), (Nat.le_of_ble_eq_true rfl)⟩ (fun r v1 sd1 H l1 hp hP hS => ?_)
      obtain ⟨rfl, rfl, rfl⟩ := hp
      have hgz : gz 1 1 1 = 0 := by decide
      rw [hgz] at hP
      refine lv_topE (y := 1) (by rw [hgz]; decide) ?_
      refine lv_if_ne (tgt := 29) K.hx K.hb d_M_gap_24 (by decide) (fun _ => ?_) (fun c_24 => (show False from by revert c_24; decide).elim)
      have hlt : gc < 6 := (nI_ltI (by omega) (by decide)).mp (show nI gc < nI 6 from Int32.not_le.mp c_12)
      refine lv_aload_n K.hx K.hb d_M_gap_29 rfl (lv_at hl 0 rfl) ?_
      refine g_get K.1 hP (0) (by decide) rfl rfl i_M 9 (by decide) rfl (Or.inl kw_643) rfl d_M_gap_30 ?_
      refine lv_aload_n K.hx K.hb d_M_gap_33 rfl (lv_at hl 0 rfl) ?_
      refine g_get K.1 hP (0) (by decide) rfl rfl i_M 8 (by decide) rfl (Or.inl kw_642) rfl d_M_gap_34 ?_
      refine lv_topE (y := (v 0 8)) (by first | (simp [u2_at, kpM]; done) | (simp [u2_at, kpM] <;> (intros; omega)) | (simp only [u2_at, kpM]; (repeat' split) <;> first | rfl | (exfalso; omega))) ?_
      refine lv_topE (y := nI gc) hgc ?_
      refine lv_iload_n K.hx K.hb d_M_gap_37 rfl (lv_at hl 1 rfl) ?_
      refine g_iast K.1 hP hS (6) (by decide) (fun _ => rfl) 0 rfl (gc) rfl (by omega) (by decide) d_M_gap_38 (fun H l1 hP hS => ?_)
      refine lv_aload_n K.hx K.hb d_M_gap_39 rfl (lv_at hl 0 rfl) ?_
      refine g_get K.1 hP (0) (by decide) rfl rfl i_M 10 (by decide) rfl (Or.inl kw_644) rfl d_M_gap_40 ?_
      refine lv_aload_n K.hx K.hb d_M_gap_43 rfl (lv_at hl 0 rfl) ?_
      refine g_get K.1 hP (0) (by decide) rfl rfl i_M 8 (by decide) rfl (Or.inl kw_642) rfl d_M_gap_44 ?_
      refine lv_topE (y := (v 0 8)) (by first | (simp [u2_at, kpM]; done) | (simp [u2_at, kpM] <;> (intros; omega)) | (simp only [u2_at, kpM]; (repeat' split) <;> first | rfl | (exfalso; omega))) ?_
      refine lv_topE (y := nI gc) hgc ?_
      refine lv_iload_n K.hx K.hb d_M_gap_47 rfl (lv_at hl 2 rfl) ?_
      refine g_iast K.1 hP hS (7) (by decide) (fun _ => rfl) 0 rfl (gc) rfl (by omega) (by decide) d_M_gap_48 (fun H l1 hP hS => ?_)
      refine lv_aload_n K.hx K.hb d_M_gap_49 rfl (lv_at hl 0 rfl) ?_
      refine lv_dup K.hx K.hb d_M_gap_50 rfl ?_
      refine g_get K.1 hP (0) (by decide) rfl rfl i_M 8 (by decide) rfl (Or.inl kw_642) rfl d_M_gap_51 ?_
      refine lv_topE (y := (v 0 8)) (by first | (simp [u2_at, kpM]; done) | (simp [u2_at, kpM] <;> (intros; omega)) | (simp only [u2_at, kpM]; (repeat' split) <;> first | rfl | (exfalso; omega))) ?_
      refine lv_topE (y := nI gc) hgc ?_
      refine lv_iconst (v := 1) K.hx K.hb d_M_gap_54 (by decide) ?_
      refine lv_iadd K.hx K.hb d_M_gap_55 ?_
      refine lv_topE (y := nI (gc + 1)) (nI_add _ _) ?_
      refine g_puti K.1 hP hS (0) (by decide) rfl rfl i_M ft_M ft_M_ok n_M 8 (by decide) rfl (Or.inl kw_642) rfl rfl rfl (Nat.le_of_ble_eq_true rfl) rfl d_M_gap_56 (fun H l1 hP hS => ?_)
      refine lv_aload_n K.hx K.hb d_M_gap_59 rfl (lv_at hl 0 rfl) ?_
      refine lv_iconst (v := 0) K.hx K.hb d_M_gap_60 (by decide) ?_
      refine g_puti K.1 hP hS (0) (by decide) rfl rfl i_M ft_M ft_M_ok n_M 23 (by decide) rfl (Or.inl kw_657) rfl rfl rfl (Nat.le_of_ble_eq_true rfl) rfl d_M_gap_61 (fun H l1 hP hS => ?_)
      refine lv_aload_n K.hx K.hb d_M_gap_64 rfl (lv_at hl 0 rfl) ?_
      refine g_get K.1 hP (0) (by decide) rfl rfl i_M 8 (by decide) rfl (Or.inl kw_642) rfl d_M_gap_65 ?_
      refine lv_topE (y := (nI (gc + 1))) (by first | (simp [u2_at, kpM]; done) | (simp [u2_at, kpM] <;> (intros; omega)) | (simp only [u2_at, kpM]; (repeat' split) <;> first | rfl | (exfalso; omega))) ?_
      refine lv_topE (y := nI (gc + 1)) rfl ?_
      exact de_i K hP hS (Or.inl ⟨w_3, hlt, rfl, rfl, rfl⟩) (Nat.le_of_ble_eq_true rfl) (Nat.le_of_ble_eq_true rfl) d_M_gap_68
  · refine lv_topE (y := 0) ((hr_eq _ _).trans (if_neg w_3)) ?_
    refine lv_aload_n K.hx K.hb d_M_gap_6 rfl (lv_at hl 0 rfl) ?_
    refine g_get K.1 hP (0) (by decide) rfl rfl i_M 8 (by decide) rfl (Or.inl kw_642) rfl d_M_gap_7 ?_
    refine lv_topE (y := nI gc) hgc ?_
    refine lv_bipush (v := 6) K.hx K.hb d_M_gap_10 (by decide) ?_
    refine lv_icmp_ge (tgt := 19) K.hx K.hb d_M_gap_12 (by decide) (fun c_12 => ?_) (fun c_12 => ?_)
    · refine lv_iconst (v := 0) K.hx K.hb d_M_gap_19 (by decide) ?_
      refine lv_iconst (v := 1) K.hx K.hb d_M_gap_20 (by decide) ?_
      refine dd_V K hP hS (c_M_goes l D cs ad _ _ 0 0 1) kw_751 xm_M_goes kw_748 kw_750 kw_13 (g_recv K.1.2.1 hP (0) (by decide) rfl rfl) rfl hl.1 d_M_gap_21 (Nat.le_of_ble_eq_true rfl) (Nat.le_of_ble_eq_true rfl) ⟨(Nat.le_of_ble_eq_true rfl), (Nat.le_of_ble_eq_true rfl)⟩ (fun r v1 sd1 H l1 hp hP hS => ?_)
      obtain ⟨rfl, rfl, rfl⟩ := hp
      have hgz : gz 0 0 1 = 1 := by decide
      rw [hgz] at hP
      refine lv_topE (y := 0) (by rw [hgz]; decide) ?_
      refine lv_if_ne (tgt := 29) K.hx K.hb d_M_gap_24 (by decide) (fun c_24 => (show False from by revert c_24; decide).elim) (fun _ => ?_)
      refine lv_iconst (v := 0) K.hx K.hb d_M_gap_27 (by decide) ?_
      exact de_i K hP hS (Or.inr (Or.inl ⟨w_3, rfl, rfl, rfl⟩)) (Nat.le_of_ble_eq_true rfl) (Nat.le_of_ble_eq_true rfl) d_M_gap_28
    · refine lv_iconst (v := 1) K.hx K.hb d_M_gap_15 (by decide) ?_
      refine lv_goto (tgt := 20) K.hx K.hb d_M_gap_16 (by decide) ?_
      refine lv_iconst (v := 1) K.hx K.hb d_M_gap_20 (by decide) ?_
      refine dd_V K hP hS (c_M_goes l D cs ad _ _ 0 1 1) kw_751 xm_M_goes kw_748 kw_750 kw_13 (g_recv K.1.2.1 hP (0) (by decide) rfl rfl) rfl hl.1 d_M_gap_21 (Nat.le_of_ble_eq_true rfl) (Nat.le_of_ble_eq_true rfl) ⟨(Nat.le_of_ble_eq_true rfl), (Nat.le_of_ble_eq_true rfl)⟩ (fun r v1 sd1 H l1 hp hP hS => ?_)
      obtain ⟨rfl, rfl, rfl⟩ := hp
      have hgz : gz 0 1 1 = 1 := by decide
      rw [hgz] at hP
      refine lv_topE (y := 0) (by rw [hgz]; decide) ?_
      refine lv_if_ne (tgt := 29) K.hx K.hb d_M_gap_24 (by decide) (fun c_24 => (show False from by revert c_24; decide).elim) (fun _ => ?_)
      refine lv_iconst (v := 0) K.hx K.hb d_M_gap_27 (by decide) ?_
      exact de_i K hP hS (Or.inr (Or.inl ⟨w_3, rfl, rfl, rfl⟩)) (Nat.le_of_ble_eq_true rfl) (Nat.le_of_ble_eq_true rfl) d_M_gap_28
set_option maxHeartbeats 4000000 in
set_option maxRecDepth 100000 in
theorem c_M_person (l : Launch) (D : va_G) (cs : Nat → ClassId) (ad : Nat → Nat) (v : Nat → Nat → Int32) (sd : Int64) {pc : Nat} (hpc : v 0 11 = nI pc) (hp4 : pc ≤ 4) (x y z : Int32)  : Dm l y_M_person b_M_person 4 (some .int) (rmx 2 0) [.ref (ad 0), .int x, .int y, .int z] D cs ad v sd (fun r v' sd' => ((¬ wthZ x 0 3 = 0 ∧ hrZ y z) ∧ pc < 4 ∧ r = some (.int (nI pc)) ∧ u2 (u2 (u2 (u2 (u2 (u2 v 0 0 0) 8 pc x) 9 pc y) 10 pc z) 0 11 (nI (pc + 1))) 0 23 0 = v' ∧ sd = sd') ∨ (¬ (¬ wthZ x 0 3 = 0 ∧ hrZ y z) ∧ r = some (.int 0) ∧ u2 v 0 0 1 = v' ∧ sd = sd') ∨ ((¬ wthZ x 0 3 = 0 ∧ hrZ y z) ∧ ¬ pc < 4 ∧ r = some (.int 0) ∧ u2 v 0 0 2 = v' ∧ sd = sd')) (fun cls => False) := by
  refine dw_enter (own := "WearHoursModel") rfl (Nat.le_of_ble_eq_true rfl) ?_
  intro p e s m below meth c ls K hS hP hl
  have hl : lv_has ls 4 [(0, .ref (ad 0)), (1, .int x), (2, .int y), (3, .int z)] := hl
  refine lv_aload_n K.hx K.hb d_M_person_0 rfl (lv_at hl 0 rfl) ?_
  refine lv_iload_n K.hx K.hb d_M_person_1 rfl (lv_at hl 1 rfl) ?_
  refine lv_iconst (v := 0) K.hx K.hb d_M_person_2 (by decide) ?_
  refine lv_iconst (v := 3) K.hx K.hb d_M_person_3 (by decide) ?_
  refine dd_S K hP hS (c_M_in l D cs ad _ _ x 0 3) kw_747 xm_M_in kw_745 kw_746 kw_29 rfl hl.1 d_M_person_4 (Nat.le_of_ble_eq_true rfl) (Nat.le_of_ble_eq_true rfl) ⟨(Nat.le_of_ble_eq_true rfl), (Nat.le_of_ble_eq_true rfl)⟩ (fun r v1 sd1 H l1 hp hP hS => ?_)
  obtain ⟨rfl, rfl, rfl⟩ := hp
  rcases wth_01 x 0 3 with w_4 | w_4
  · refine lv_topE (y := 0) w_4 ?_
    refine lv_if_eq (tgt := 22) K.hx K.hb d_M_person_7 (by decide) (fun _ => ?_) (fun c_7 => (show False from by revert c_7; decide).elim)
    refine lv_iconst (v := 0) K.hx K.hb d_M_person_22 (by decide) ?_
    refine lv_aload_n K.hx K.hb d_M_person_23 rfl (lv_at hl 0 rfl) ?_
    refine g_get K.1 hP (0) (by decide) rfl rfl i_M 11 (by decide) rfl (Or.inl kw_645) rfl d_M_person_24 ?_
    refine lv_topE (y := nI pc) hpc ?_
    refine lv_iconst (v := 4) K.hx K.hb d_M_person_27 (by decide) ?_
    refine lv_icmp_ge (tgt := 35) K.hx K.hb d_M_person_28 (by decide) (fun c_28 => ?_) (fun c_28 => ?_)
    · refine lv_iconst (v := 0) K.hx K.hb d_M_person_35 (by decide) ?_
      refine lv_iconst (v := 1) K.hx K.hb d_M_person_36 (by decide) ?_
      refine dd_V K hP hS (c_M_goes l D cs ad _ _ 0 0 1) kw_751 xm_M_goes kw_748 kw_750 kw_13 (g_recv K.1.2.1 hP (0) (by decide) rfl rfl) rfl hl.1 d_M_person_37 (Nat.le_of_ble_eq_true rfl) (Nat.le_of_ble_eq_true rfl) ⟨(Nat.le_of_ble_eq_true rfl), (Nat.le_of_ble_eq_true rfl)⟩ (fun r v1 sd1 H l1 hp hP hS => ?_)
      obtain ⟨rfl, rfl, rfl⟩ := hp
      have hgz : gz 0 0 1 = 1 := by decide
      rw [hgz] at hP
      refine lv_topE (y := 0) (by rw [hgz]; decide) ?_
      refine lv_if_ne (tgt := 45) K.hx K.hb d_M_person_40 (by decide) (fun c_40 => (show False from by revert c_40; decide).elim) (fun _ => ?_)
      refine lv_iconst (v := 0) K.hx K.hb d_M_person_43 (by decide) ?_
      exact de_i K hP hS (Or.inr (Or.inl ⟨(fun h => h.1 w_4), rfl, rfl, rfl⟩)) (Nat.le_of_ble_eq_true rfl) (Nat.le_of_ble_eq_true rfl) d_M_person_44
    · refine lv_iconst (v := 1) K.hx K.hb d_M_person_31 (by decide) ?_
      refine lv_goto (tgt := 36) K.hx K.hb d_M_person_32 (by decide) ?_
      refine lv_iconst (v := 1) K.hx K.hb d_M_person_36 (by decide) ?_
      refine dd_V K hP hS (c_M_goes l D cs ad _ _ 0 1 1) kw_751 xm_M_goes kw_748 kw_750 kw_13 (g_recv K.1.2.1 hP (0) (by decide) rfl rfl) rfl hl.1 d_M_person_37 (Nat.le_of_ble_eq_true rfl) (Nat.le_of_ble_eq_true rfl) ⟨(Nat.le_of_ble_eq_true rfl), (Nat.le_of_ble_eq_true rfl)⟩ (fun r v1 sd1 H l1 hp hP hS => ?_)
      obtain ⟨rfl, rfl, rfl⟩ := hp
      have hgz : gz 0 1 1 = 1 := by decide
      rw [hgz] at hP
      refine lv_topE (y := 0) (by rw [hgz]; decide) ?_
      refine lv_if_ne (tgt := 45) K.hx K.hb d_M_person_40 (by decide) (fun c_40 => (show False from by revert c_40; decide).elim) (fun _ => ?_)
      refine lv_iconst (v := 0) K.hx K.hb d_M_person_43 (by decide) ?_
      exact de_i K hP hS (Or.inr (Or.inl ⟨(fun h => h.1 w_4), rfl, rfl, rfl⟩)) (Nat.le_of_ble_eq_true rfl) (Nat.le_of_ble_eq_true rfl) d_M_person_44
  · refine lv_topE (y := 1) w_4 ?_
    refine lv_if_eq (tgt := 22) K.hx K.hb d_M_person_7 (by decide) (fun c_7 => (show False from by revert c_7; decide).elim) (fun _ => ?_)
    refine lv_iload_n K.hx K.hb d_M_person_10 rfl (lv_at hl 2 rfl) ?_
    refine lv_iload_n K.hx K.hb d_M_person_11 rfl (lv_at hl 3 rfl) ?_
    refine dd_S K hP hS (c_M_areHours l D cs ad _ _ y z) kw_798 xm_M_areHours kw_796 kw_797 kw_29 rfl hl.1 d_M_person_12 (Nat.le_of_ble_eq_true rfl) (Nat.le_of_ble_eq_true rfl) ⟨(Nat.le_of_ble_eq_true rfl), (Nat.le_of_ble_eq_true rfl)⟩ (fun r v1 sd1 H l1 hp hP hS => ?_)
    obtain ⟨rfl, rfl, rfl⟩ := hp
    by_cases w_12 : hrZ y z
    · refine lv_topE (y := 1) ((hr_eq _ _).trans (if_pos w_12)) ?_
      refine lv_if_eq (tgt := 22) K.hx K.hb d_M_person_15 (by decide) (fun c_15 => (show False from by revert c_15; decide).elim) (fun _ => ?_)
      refine lv_iconst (v := 1) K.hx K.hb d_M_person_18 (by decide) ?_
      refine lv_goto (tgt := 23) K.hx K.hb d_M_person_19 (by decide) ?_
      refine lv_aload_n K.hx K.hb d_M_person_23 rfl (lv_at hl 0 rfl) ?_
      refine g_get K.1 hP (0) (by decide) rfl rfl i_M 11 (by decide) rfl (Or.inl kw_645) rfl d_M_person_24 ?_
      refine lv_topE (y := nI pc) hpc ?_
      refine lv_iconst (v := 4) K.hx K.hb d_M_person_27 (by decide) ?_
      refine lv_icmp_ge (tgt := 35) K.hx K.hb d_M_person_28 (by decide) (fun c_28 => ?_) (fun c_28 => ?_)
      · refine lv_iconst (v := 0) K.hx K.hb d_M_person_35 (by decide) ?_
        refine lv_iconst (v := 1) K.hx K.hb d_M_person_36 (by decide) ?_
        refine dd_V K hP hS (c_M_goes l D cs ad _ _ 1 0 1) kw_751 xm_M_goes kw_748 kw_750 kw_13 (g_recv K.1.2.1 hP (0) (by decide) rfl rfl) rfl hl.1 d_M_person_37 (Nat.le_of_ble_eq_true rfl) (Nat.le_of_ble_eq_true rfl) ⟨(Nat.le_of_ble_eq_true rfl), (Nat.le_of_ble_eq_true rfl)⟩ (fun r v1 sd1 H l1 hp hP hS => ?_)
        obtain ⟨rfl, rfl, rfl⟩ := hp
        have hgz : gz 1 0 1 = 2 := by decide
        rw [hgz] at hP
        refine lv_topE (y := 0) (by rw [hgz]; decide) ?_
        refine lv_if_ne (tgt := 45) K.hx K.hb d_M_person_40 (by decide) (fun c_40 => (show False from by revert c_40; decide).elim) (fun _ => ?_)
        refine lv_iconst (v := 0) K.hx K.hb d_M_person_43 (by decide) ?_
        exact de_i K hP hS (Or.inr (Or.inr ⟨⟨one_ne w_4, w_12⟩, fun h => absurd h (Nat.not_lt.mpr ((nI_leI (by decide) (by omega)).mp (show nI 4 ≤ nI pc from c_28))), rfl, rfl, rfl⟩)) (Nat.le_of_ble_eq_true rfl) (Nat.le_of_ble_eq_true rfl) d_M_person_44
      · refine lv_iconst (v := 1) K.hx K.hb d_M_person_31 (by decide) ?_
        refine lv_goto (tgt := 36) K.hx K.hb d_M_person_32 (by decide) ?_
        refine lv_iconst (v := 1) K.hx K.hb d_M_person_36 (by decide) ?_
        refine dd_V K hP hS (c_M_goes l D cs ad _ _ 1 1 1) kw_751 xm_M_goes kw_748 kw_750 kw_13 (g_recv K.1.2.1 hP (0) (by decide) rfl rfl) rfl hl.1 d_M_person_37 (Nat.le_of_ble_eq_true rfl) (Nat.le_of_ble_eq_true rfl) ⟨(Nat.le_of_ble_eq_true rfl), (Nat.le_of_ble_eq_true rfl)⟩ (fun r v1 sd1 H l1 hp hP hS => ?_)
        obtain ⟨rfl, rfl, rfl⟩ := hp
        have hgz : gz 1 1 1 = 0 := by decide
        rw [hgz] at hP
        refine lv_topE (y := 1) (by rw [hgz]; decide) ?_
        refine lv_if_ne (tgt := 45) K.hx K.hb d_M_person_40 (by decide) (fun _ => ?_) (fun c_40 => (show False from by revert c_40; decide).elim)
        have hlt : pc < 4 := (nI_ltI (by omega) (by decide)).mp (show nI pc < nI 4 from Int32.not_le.mp c_28)
        refine lv_aload_n K.hx K.hb d_M_person_45 rfl (lv_at hl 0 rfl) ?_
        refine g_get K.1 hP (0) (by decide) rfl rfl i_M 12 (by decide) rfl (Or.inl kw_646) rfl d_M_person_46 ?_
        refine lv_aload_n K.hx K.hb d_M_person_49 rfl (lv_at hl 0 rfl) ?_
        refine g_get K.1 hP (0) (by decide) rfl rfl i_M 11 (by decide) rfl (Or.inl kw_645) rfl d_M_person_50 ?_
        refine lv_topE (y := (v 0 11)) (by first | (simp [u2_at, kpM]; done) | (simp [u2_at, kpM] <;> (intros; omega)) | (simp only [u2_at, kpM]; (repeat' split) <;> first | rfl | (exfalso; omega))) ?_
        refine lv_topE (y := nI pc) hpc ?_
        refine lv_iload_n K.hx K.hb d_M_person_53 rfl (lv_at hl 1 rfl) ?_
        refine g_iast K.1 hP hS (8) (by decide) (fun _ => rfl) 0 rfl (pc) rfl (by omega) (by decide) d_M_person_54 (fun H l1 hP hS => ?_)
        refine lv_aload_n K.hx K.hb d_M_person_55 rfl (lv_at hl 0 rfl) ?_
        refine g_get K.1 hP (0) (by decide) rfl rfl i_M 13 (by decide) rfl (Or.inl kw_647) rfl d_M_person_56 ?_
        refine lv_aload_n K.hx K.hb d_M_person_59 rfl (lv_at hl 0 rfl) ?_
        refine g_get K.1 hP (0) (by decide) rfl rfl i_M 11 (by decide) rfl (Or.inl kw_645) rfl d_M_person_60 ?_
        refine lv_topE (y := (v 0 11)) (by first | (simp [u2_at, kpM]; done) | (simp [u2_at, kpM] <;> (intros; omega)) | (simp only [u2_at, kpM]; (repeat' split) <;> first | rfl | (exfalso; omega))) ?_
        refine lv_topE (y := nI pc) hpc ?_
        refine lv_iload_n K.hx K.hb d_M_person_63 rfl (lv_at hl 2 rfl) ?_
        refine g_iast K.1 hP hS (9) (by decide) (fun _ => rfl) 0 rfl (pc) rfl (by omega) (by decide) d_M_person_64 (fun H l1 hP hS => ?_)
        refine lv_aload_n K.hx K.hb d_M_person_65 rfl (lv_at hl 0 rfl) ?_
        refine g_get K.1 hP (0) (by decide) rfl rfl i_M 14 (by decide) rfl (Or.inl kw_648) rfl d_M_person_66 ?_
        refine lv_aload_n K.hx K.hb d_M_person_69 rfl (lv_at hl 0 rfl) ?_
        refine g_get K.1 hP (0) (by decide) rfl rfl i_M 11 (by decide) rfl (Or.inl kw_645) rfl d_M_person_70 ?_
        refine lv_topE (y := (v 0 11)) (by first | (simp [u2_at, kpM]; done) | (simp [u2_at, kpM] <;> (intros; omega)) | (simp only [u2_at, kpM]; (repeat' split) <;> first | rfl | (exfalso; omega))) ?_
        refine lv_topE (y := nI pc) hpc ?_
        refine lv_iload_n K.hx K.hb d_M_person_73 rfl (lv_at hl 3 rfl) ?_
        refine g_iast K.1 hP hS (10) (by decide) (fun _ => rfl) 0 rfl (pc) rfl (by omega) (by decide) d_M_person_74 (fun H l1 hP hS => ?_)
        refine lv_aload_n K.hx K.hb d_M_person_75 rfl (lv_at hl 0 rfl) ?_
        refine lv_dup K.hx K.hb d_M_person_76 rfl ?_
        refine g_get K.1 hP (0) (by decide) rfl rfl i_M 11 (by decide) rfl (Or.inl kw_645) rfl d_M_person_77 ?_
        refine lv_topE (y := (v 0 11)) (by first | (simp [u2_at, kpM]; done) | (simp [u2_at, kpM] <;> (intros; omega)) | (simp only [u2_at, kpM]; (repeat' split) <;> first | rfl | (exfalso; omega))) ?_
        refine lv_topE (y := nI pc) hpc ?_
        refine lv_iconst (v := 1) K.hx K.hb d_M_person_80 (by decide) ?_
        refine lv_iadd K.hx K.hb d_M_person_81 ?_
        refine lv_topE (y := nI (pc + 1)) (nI_add _ _) ?_
        refine g_puti K.1 hP hS (0) (by decide) rfl rfl i_M ft_M ft_M_ok n_M 11 (by decide) rfl (Or.inl kw_645) rfl rfl rfl (Nat.le_of_ble_eq_true rfl) rfl d_M_person_82 (fun H l1 hP hS => ?_)
        refine lv_aload_n K.hx K.hb d_M_person_85 rfl (lv_at hl 0 rfl) ?_
        refine lv_iconst (v := 0) K.hx K.hb d_M_person_86 (by decide) ?_
        refine g_puti K.1 hP hS (0) (by decide) rfl rfl i_M ft_M ft_M_ok n_M 23 (by decide) rfl (Or.inl kw_657) rfl rfl rfl (Nat.le_of_ble_eq_true rfl) rfl d_M_person_87 (fun H l1 hP hS => ?_)
        refine lv_aload_n K.hx K.hb d_M_person_90 rfl (lv_at hl 0 rfl) ?_
        refine g_get K.1 hP (0) (by decide) rfl rfl i_M 11 (by decide) rfl (Or.inl kw_645) rfl d_M_person_91 ?_
        refine lv_topE (y := (nI (pc + 1))) (by first | (simp [u2_at, kpM]; done) | (simp [u2_at, kpM] <;> (intros; omega)) | (simp only [u2_at, kpM]; (repeat' split) <;> first | rfl | (exfalso; omega))) ?_
        refine lv_topE (y := nI (pc + 1)) rfl ?_
        refine lv_iconst (v := 1) K.hx K.hb d_M_person_94 (by decide) ?_
        refine lv_isub K.hx K.hb d_M_person_95 ?_
        refine lv_topE (y := nI (pc + 0)) (nI_pred _) ?_
        exact de_i K hP hS (Or.inl ⟨⟨one_ne w_4, w_12⟩, hlt, rfl, rfl, rfl⟩) (Nat.le_of_ble_eq_true rfl) (Nat.le_of_ble_eq_true rfl) d_M_person_96
    · refine lv_topE (y := 0) ((hr_eq _ _).trans (if_neg w_12)) ?_
      refine lv_if_eq (tgt := 22) K.hx K.hb d_M_person_15 (by decide) (fun _ => ?_) (fun c_15 => (show False from by revert c_15; decide).elim)
      refine lv_iconst (v := 0) K.hx K.hb d_M_person_22 (by decide) ?_
      refine lv_aload_n K.hx K.hb d_M_person_23 rfl (lv_at hl 0 rfl) ?_
      refine g_get K.1 hP (0) (by decide) rfl rfl i_M 11 (by decide) rfl (Or.inl kw_645) rfl d_M_person_24 ?_
      refine lv_topE (y := nI pc) hpc ?_
      refine lv_iconst (v := 4) K.hx K.hb d_M_person_27 (by decide) ?_
      refine lv_icmp_ge (tgt := 35) K.hx K.hb d_M_person_28 (by decide) (fun c_28 => ?_) (fun c_28 => ?_)
      · refine lv_iconst (v := 0) K.hx K.hb d_M_person_35 (by decide) ?_
        refine lv_iconst (v := 1) K.hx K.hb d_M_person_36 (by decide) ?_
        refine dd_V K hP hS (c_M_goes l D cs ad _ _ 0 0 1) kw_751 xm_M_goes kw_748 kw_750 kw_13 (g_recv K.1.2.1 hP (0) (by decide) rfl rfl) rfl hl.1 d_M_person_37 (Nat.le_of_ble_eq_true rfl) (Nat.le_of_ble_eq_true rfl) ⟨(Nat.le_of_ble_eq_true rfl), (Nat.le_of_ble_eq_true rfl)⟩ (fun r v1 sd1 H l1 hp hP hS => ?_)
        obtain ⟨rfl, rfl, rfl⟩ := hp
        have hgz : gz 0 0 1 = 1 := by decide
        rw [hgz] at hP
        refine lv_topE (y := 0) (by rw [hgz]; decide) ?_
        refine lv_if_ne (tgt := 45) K.hx K.hb d_M_person_40 (by decide) (fun c_40 => (show False from by revert c_40; decide).elim) (fun _ => ?_)
        refine lv_iconst (v := 0) K.hx K.hb d_M_person_43 (by decide) ?_
        exact de_i K hP hS (Or.inr (Or.inl ⟨(fun h => w_12 h.2), rfl, rfl, rfl⟩)) (Nat.le_of_ble_eq_true rfl) (Nat.le_of_ble_eq_true rfl) d_M_person_44
      · refine lv_iconst (v := 1) K.hx K.hb d_M_person_31 (by decide) ?_
        refine lv_goto (tgt := 36) K.hx K.hb d_M_person_32 (by decide) ?_
        refine lv_iconst (v := 1) K.hx K.hb d_M_person_36 (by decide) ?_
        refine dd_V K hP hS (c_M_goes l D cs ad _ _ 0 1 1) kw_751 xm_M_goes kw_748 kw_750 kw_13 (g_recv K.1.2.1 hP (0) (by decide) rfl rfl) rfl hl.1 d_M_person_37 (Nat.le_of_ble_eq_true rfl) (Nat.le_of_ble_eq_true rfl) ⟨(Nat.le_of_ble_eq_true rfl), (Nat.le_of_ble_eq_true rfl)⟩ (fun r v1 sd1 H l1 hp hP hS => ?_)
        obtain ⟨rfl, rfl, rfl⟩ := hp
        have hgz : gz 0 1 1 = 1 := by decide
        rw [hgz] at hP
        refine lv_topE (y := 0) (by rw [hgz]; decide) ?_
        refine lv_if_ne (tgt := 45) K.hx K.hb d_M_person_40 (by decide) (fun c_40 => (show False from by revert c_40; decide).elim) (fun _ => ?_)
        refine lv_iconst (v := 0) K.hx K.hb d_M_person_43 (by decide) ?_
        exact de_i K hP hS (Or.inr (Or.inl ⟨(fun h => w_12 h.2), rfl, rfl, rfl⟩)) (Nat.le_of_ble_eq_true rfl) (Nat.le_of_ble_eq_true rfl) d_M_person_44
set_option maxHeartbeats 4000000 in
set_option maxRecDepth 100000 in
theorem c_M_repair (l : Launch) (D : va_G) (cs : Nat → ClassId) (ad : Nat → Nat) (v : Nat → Nat → Int32) (sd : Int64) {tc : Nat} (htc : v 0 2 = nI tc) (ht8 : tc ≤ 8) {rc : Nat} (hrc : v 0 15 = nI rc) (hr5 : rc ≤ 5) (x y z w : Int32)  : Dm l y_M_repair b_M_repair 5 (some .int) (rmx 2 0) [.ref (ad 0), .int x, .int y, .int z, .int w] D cs ad v sd (fun r v' sd' => (∃ i, i < tc ∧ x = nI i ∧ (¬ wthZ y 1 24 = 0 ∧ ¬ wthZ z 0 3 = 0 ∧ ¬ wthZ w 0 1000 = 0) ∧ rc < 5 ∧ r = some (.int (nI rc)) ∧ u2 (u2 (u2 (u2 (u2 (u2 (u2 v 0 0 0) 11 rc (nI i)) 12 rc y) 13 rc z) 14 rc w) 0 15 (nI (rc + 1))) 0 23 0 = v' ∧ sd = sd') ∨ ((¬ ∃ i, i < tc ∧ x = nI i) ∧ r = some (.int 0) ∧ u2 v 0 0 1 = v' ∧ sd = sd') ∨ ((∃ i, i < tc ∧ x = nI i) ∧ ¬ (¬ wthZ y 1 24 = 0 ∧ ¬ wthZ z 0 3 = 0 ∧ ¬ wthZ w 0 1000 = 0) ∧ r = some (.int 0) ∧ u2 v 0 0 2 = v' ∧ sd = sd') ∨ ((∃ i, i < tc ∧ x = nI i) ∧ (¬ wthZ y 1 24 = 0 ∧ ¬ wthZ z 0 3 = 0 ∧ ¬ wthZ w 0 1000 = 0) ∧ ¬ rc < 5 ∧ r = some (.int 0) ∧ u2 v 0 0 3 = v' ∧ sd = sd')) (fun cls => False) := by
  refine dw_enter (own := "WearHoursModel") rfl (Nat.le_of_ble_eq_true rfl) ?_
  intro p e s m below meth c ls K hS hP hl
  have hl : lv_has ls 5 [(0, .ref (ad 0)), (1, .int x), (2, .int y), (3, .int z), (4, .int w)] := hl
  refine lv_aload_n K.hx K.hb d_M_repair_0 rfl (lv_at hl 0 rfl) ?_
  refine lv_aload_n K.hx K.hb d_M_repair_1 rfl (lv_at hl 0 rfl) ?_
  refine lv_iload_n K.hx K.hb d_M_repair_2 rfl (lv_at hl 1 rfl) ?_
  refine dd_V K hP hS (c_M_isThing l D cs ad _ _ htc ht8 x) kw_759 xm_M_isThing kw_756 kw_758 kw_14 (g_recv K.1.2.1 hP (0) (by decide) rfl rfl) rfl hl.1 d_M_repair_3 (Nat.le_of_ble_eq_true rfl) (Nat.le_of_ble_eq_true rfl) ⟨(Nat.le_of_ble_eq_true rfl), (Nat.le_of_ble_eq_true rfl)⟩ (fun r v1 sd1 H l1 hp hP hS => ?_)
  obtain ⟨rfl, rfl, rfl⟩ := hp
  by_cases hx : ∃ i, i < tc ∧ x = nI i
  · refine lv_topE (y := 1) (wth_yes (by omega) hx) ?_
    obtain ⟨i, hi, rfl⟩ := hx
    have hi8 : i < 8 := by omega
    refine lv_iload_n K.hx K.hb d_M_repair_6 rfl (lv_at hl 2 rfl) ?_
    refine lv_iconst (v := 1) K.hx K.hb d_M_repair_7 (by decide) ?_
    refine lv_bipush (v := 24) K.hx K.hb d_M_repair_8 (by decide) ?_
    refine dd_S K hP hS (c_M_in l D cs ad _ _ y 1 24) kw_747 xm_M_in kw_745 kw_746 kw_29 rfl hl.1 d_M_repair_10 (Nat.le_of_ble_eq_true rfl) (Nat.le_of_ble_eq_true rfl) ⟨(Nat.le_of_ble_eq_true rfl), (Nat.le_of_ble_eq_true rfl)⟩ (fun r v1 sd1 H l1 hp hP hS => ?_)
    obtain ⟨rfl, rfl, rfl⟩ := hp
    rcases wth_01 y 1 24 with w_10 | w_10
    · refine lv_topE (y := 0) w_10 ?_
      refine lv_if_eq (tgt := 41) K.hx K.hb d_M_repair_13 (by decide) (fun _ => ?_) (fun c_13 => (show False from by revert c_13; decide).elim)
      refine lv_iconst (v := 0) K.hx K.hb d_M_repair_41 (by decide) ?_
      refine lv_aload_n K.hx K.hb d_M_repair_42 rfl (lv_at hl 0 rfl) ?_
      refine g_get K.1 hP (0) (by decide) rfl rfl i_M 15 (by decide) rfl (Or.inl kw_649) rfl d_M_repair_43 ?_
      refine lv_topE (y := nI rc) hrc ?_
      refine lv_iconst (v := 5) K.hx K.hb d_M_repair_46 (by decide) ?_
      refine lv_icmp_ge (tgt := 54) K.hx K.hb d_M_repair_47 (by decide) (fun c_47 => ?_) (fun c_47 => ?_)
      · refine lv_iconst (v := 0) K.hx K.hb d_M_repair_54 (by decide) ?_
        refine dd_V K hP hS (c_M_goes l D cs ad _ _ 1 0 0) kw_751 xm_M_goes kw_748 kw_750 kw_13 (g_recv K.1.2.1 hP (0) (by decide) rfl rfl) rfl hl.1 d_M_repair_55 (Nat.le_of_ble_eq_true rfl) (Nat.le_of_ble_eq_true rfl) ⟨(Nat.le_of_ble_eq_true rfl), (Nat.le_of_ble_eq_true rfl)⟩ (fun r v1 sd1 H l1 hp hP hS => ?_)
        obtain ⟨rfl, rfl, rfl⟩ := hp
        have hgz : gz 1 0 0 = 2 := by decide
        rw [hgz] at hP
        refine lv_topE (y := 0) (by rw [hgz]; decide) ?_
        refine lv_if_ne (tgt := 63) K.hx K.hb d_M_repair_58 (by decide) (fun c_58 => (show False from by revert c_58; decide).elim) (fun _ => ?_)
        refine lv_iconst (v := 0) K.hx K.hb d_M_repair_61 (by decide) ?_
        exact de_i K hP hS (Or.inr (Or.inr (Or.inl ⟨⟨i, hi, rfl⟩, (fun h => h.1 w_10), rfl, rfl, rfl⟩))) (Nat.le_of_ble_eq_true rfl) (Nat.le_of_ble_eq_true rfl) d_M_repair_62
      · refine lv_iconst (v := 1) K.hx K.hb d_M_repair_50 (by decide) ?_
        refine lv_goto (tgt := 55) K.hx K.hb d_M_repair_51 (by decide) ?_
        refine dd_V K hP hS (c_M_goes l D cs ad _ _ 1 0 1) kw_751 xm_M_goes kw_748 kw_750 kw_13 (g_recv K.1.2.1 hP (0) (by decide) rfl rfl) rfl hl.1 d_M_repair_55 (Nat.le_of_ble_eq_true rfl) (Nat.le_of_ble_eq_true rfl) ⟨(Nat.le_of_ble_eq_true rfl), (Nat.le_of_ble_eq_true rfl)⟩ (fun r v1 sd1 H l1 hp hP hS => ?_)
        obtain ⟨rfl, rfl, rfl⟩ := hp
        have hgz : gz 1 0 1 = 2 := by decide
        rw [hgz] at hP
        refine lv_topE (y := 0) (by rw [hgz]; decide) ?_
        refine lv_if_ne (tgt := 63) K.hx K.hb d_M_repair_58 (by decide) (fun c_58 => (show False from by revert c_58; decide).elim) (fun _ => ?_)
        refine lv_iconst (v := 0) K.hx K.hb d_M_repair_61 (by decide) ?_
        exact de_i K hP hS (Or.inr (Or.inr (Or.inl ⟨⟨i, hi, rfl⟩, (fun h => h.1 w_10), rfl, rfl, rfl⟩))) (Nat.le_of_ble_eq_true rfl) (Nat.le_of_ble_eq_true rfl) d_M_repair_62
    · refine lv_topE (y := 1) w_10 ?_
      refine lv_if_eq (tgt := 41) K.hx K.hb d_M_repair_13 (by decide) (fun c_13 => (show False from by revert c_13; decide).elim) (fun _ => ?_)
      refine lv_iload_n K.hx K.hb d_M_repair_16 rfl (lv_at hl 3 rfl) ?_
      refine lv_iconst (v := 0) K.hx K.hb d_M_repair_17 (by decide) ?_
      refine lv_iconst (v := 3) K.hx K.hb d_M_repair_18 (by decide) ?_
      refine dd_S K hP hS (c_M_in l D cs ad _ _ z 0 3) kw_747 xm_M_in kw_745 kw_746 kw_29 rfl hl.1 d_M_repair_19 (Nat.le_of_ble_eq_true rfl) (Nat.le_of_ble_eq_true rfl) ⟨(Nat.le_of_ble_eq_true rfl), (Nat.le_of_ble_eq_true rfl)⟩ (fun r v1 sd1 H l1 hp hP hS => ?_)
      obtain ⟨rfl, rfl, rfl⟩ := hp
      rcases wth_01 z 0 3 with w_19 | w_19
      · refine lv_topE (y := 0) w_19 ?_
        refine lv_if_eq (tgt := 41) K.hx K.hb d_M_repair_22 (by decide) (fun _ => ?_) (fun c_22 => (show False from by revert c_22; decide).elim)
        refine lv_iconst (v := 0) K.hx K.hb d_M_repair_41 (by decide) ?_
        refine lv_aload_n K.hx K.hb d_M_repair_42 rfl (lv_at hl 0 rfl) ?_
        refine g_get K.1 hP (0) (by decide) rfl rfl i_M 15 (by decide) rfl (Or.inl kw_649) rfl d_M_repair_43 ?_
        refine lv_topE (y := nI rc) hrc ?_
        refine lv_iconst (v := 5) K.hx K.hb d_M_repair_46 (by decide) ?_
        refine lv_icmp_ge (tgt := 54) K.hx K.hb d_M_repair_47 (by decide) (fun c_47 => ?_) (fun c_47 => ?_)
        · refine lv_iconst (v := 0) K.hx K.hb d_M_repair_54 (by decide) ?_
          refine dd_V K hP hS (c_M_goes l D cs ad _ _ 1 0 0) kw_751 xm_M_goes kw_748 kw_750 kw_13 (g_recv K.1.2.1 hP (0) (by decide) rfl rfl) rfl hl.1 d_M_repair_55 (Nat.le_of_ble_eq_true rfl) (Nat.le_of_ble_eq_true rfl) ⟨(Nat.le_of_ble_eq_true rfl), (Nat.le_of_ble_eq_true rfl)⟩ (fun r v1 sd1 H l1 hp hP hS => ?_)
          obtain ⟨rfl, rfl, rfl⟩ := hp
          have hgz : gz 1 0 0 = 2 := by decide
          rw [hgz] at hP
          refine lv_topE (y := 0) (by rw [hgz]; decide) ?_
          refine lv_if_ne (tgt := 63) K.hx K.hb d_M_repair_58 (by decide) (fun c_58 => (show False from by revert c_58; decide).elim) (fun _ => ?_)
          refine lv_iconst (v := 0) K.hx K.hb d_M_repair_61 (by decide) ?_
          exact de_i K hP hS (Or.inr (Or.inr (Or.inl ⟨⟨i, hi, rfl⟩, (fun h => h.2.1 w_19), rfl, rfl, rfl⟩))) (Nat.le_of_ble_eq_true rfl) (Nat.le_of_ble_eq_true rfl) d_M_repair_62
        · refine lv_iconst (v := 1) K.hx K.hb d_M_repair_50 (by decide) ?_
          refine lv_goto (tgt := 55) K.hx K.hb d_M_repair_51 (by decide) ?_
          refine dd_V K hP hS (c_M_goes l D cs ad _ _ 1 0 1) kw_751 xm_M_goes kw_748 kw_750 kw_13 (g_recv K.1.2.1 hP (0) (by decide) rfl rfl) rfl hl.1 d_M_repair_55 (Nat.le_of_ble_eq_true rfl) (Nat.le_of_ble_eq_true rfl) ⟨(Nat.le_of_ble_eq_true rfl), (Nat.le_of_ble_eq_true rfl)⟩ (fun r v1 sd1 H l1 hp hP hS => ?_)
          obtain ⟨rfl, rfl, rfl⟩ := hp
          have hgz : gz 1 0 1 = 2 := by decide
          rw [hgz] at hP
          refine lv_topE (y := 0) (by rw [hgz]; decide) ?_
          refine lv_if_ne (tgt := 63) K.hx K.hb d_M_repair_58 (by decide) (fun c_58 => (show False from by revert c_58; decide).elim) (fun _ => ?_)
          refine lv_iconst (v := 0) K.hx K.hb d_M_repair_61 (by decide) ?_
          exact de_i K hP hS (Or.inr (Or.inr (Or.inl ⟨⟨i, hi, rfl⟩, (fun h => h.2.1 w_19), rfl, rfl, rfl⟩))) (Nat.le_of_ble_eq_true rfl) (Nat.le_of_ble_eq_true rfl) d_M_repair_62
      · refine lv_topE (y := 1) w_19 ?_
        refine lv_if_eq (tgt := 41) K.hx K.hb d_M_repair_22 (by decide) (fun c_22 => (show False from by revert c_22; decide).elim) (fun _ => ?_)
        refine lv_iload K.hx K.hb d_M_repair_25 (lv_at hl 4 rfl) ?_
        refine lv_iconst (v := 0) K.hx K.hb d_M_repair_27 (by decide) ?_
        refine lv_sipush (v := 1000) K.hx K.hb d_M_repair_28 (by decide) ?_
        refine dd_S K hP hS (c_M_in l D cs ad _ _ w 0 1000) kw_747 xm_M_in kw_745 kw_746 kw_29 rfl hl.1 d_M_repair_31 (Nat.le_of_ble_eq_true rfl) (Nat.le_of_ble_eq_true rfl) ⟨(Nat.le_of_ble_eq_true rfl), (Nat.le_of_ble_eq_true rfl)⟩ (fun r v1 sd1 H l1 hp hP hS => ?_)
        obtain ⟨rfl, rfl, rfl⟩ := hp
        rcases wth_01 w 0 1000 with w_31 | w_31
        · refine lv_topE (y := 0) w_31 ?_
          refine lv_if_eq (tgt := 41) K.hx K.hb d_M_repair_34 (by decide) (fun _ => ?_) (fun c_34 => (show False from by revert c_34; decide).elim)
          refine lv_iconst (v := 0) K.hx K.hb d_M_repair_41 (by decide) ?_
          refine lv_aload_n K.hx K.hb d_M_repair_42 rfl (lv_at hl 0 rfl) ?_
          refine g_get K.1 hP (0) (by decide) rfl rfl i_M 15 (by decide) rfl (Or.inl kw_649) rfl d_M_repair_43 ?_
          refine lv_topE (y := nI rc) hrc ?_
          refine lv_iconst (v := 5) K.hx K.hb d_M_repair_46 (by decide) ?_
          refine lv_icmp_ge (tgt := 54) K.hx K.hb d_M_repair_47 (by decide) (fun c_47 => ?_) (fun c_47 => ?_)
          · refine lv_iconst (v := 0) K.hx K.hb d_M_repair_54 (by decide) ?_
            refine dd_V K hP hS (c_M_goes l D cs ad _ _ 1 0 0) kw_751 xm_M_goes kw_748 kw_750 kw_13 (g_recv K.1.2.1 hP (0) (by decide) rfl rfl) rfl hl.1 d_M_repair_55 (Nat.le_of_ble_eq_true rfl) (Nat.le_of_ble_eq_true rfl) ⟨(Nat.le_of_ble_eq_true rfl), (Nat.le_of_ble_eq_true rfl)⟩ (fun r v1 sd1 H l1 hp hP hS => ?_)
            obtain ⟨rfl, rfl, rfl⟩ := hp
            have hgz : gz 1 0 0 = 2 := by decide
            rw [hgz] at hP
            refine lv_topE (y := 0) (by rw [hgz]; decide) ?_
            refine lv_if_ne (tgt := 63) K.hx K.hb d_M_repair_58 (by decide) (fun c_58 => (show False from by revert c_58; decide).elim) (fun _ => ?_)
            refine lv_iconst (v := 0) K.hx K.hb d_M_repair_61 (by decide) ?_
            exact de_i K hP hS (Or.inr (Or.inr (Or.inl ⟨⟨i, hi, rfl⟩, (fun h => h.2.2 w_31), rfl, rfl, rfl⟩))) (Nat.le_of_ble_eq_true rfl) (Nat.le_of_ble_eq_true rfl) d_M_repair_62
          · refine lv_iconst (v := 1) K.hx K.hb d_M_repair_50 (by decide) ?_
            refine lv_goto (tgt := 55) K.hx K.hb d_M_repair_51 (by decide) ?_
            refine dd_V K hP hS (c_M_goes l D cs ad _ _ 1 0 1) kw_751 xm_M_goes kw_748 kw_750 kw_13 (g_recv K.1.2.1 hP (0) (by decide) rfl rfl) rfl hl.1 d_M_repair_55 (Nat.le_of_ble_eq_true rfl) (Nat.le_of_ble_eq_true rfl) ⟨(Nat.le_of_ble_eq_true rfl), (Nat.le_of_ble_eq_true rfl)⟩ (fun r v1 sd1 H l1 hp hP hS => ?_)
            obtain ⟨rfl, rfl, rfl⟩ := hp
            have hgz : gz 1 0 1 = 2 := by decide
            rw [hgz] at hP
            refine lv_topE (y := 0) (by rw [hgz]; decide) ?_
            refine lv_if_ne (tgt := 63) K.hx K.hb d_M_repair_58 (by decide) (fun c_58 => (show False from by revert c_58; decide).elim) (fun _ => ?_)
            refine lv_iconst (v := 0) K.hx K.hb d_M_repair_61 (by decide) ?_
            exact de_i K hP hS (Or.inr (Or.inr (Or.inl ⟨⟨i, hi, rfl⟩, (fun h => h.2.2 w_31), rfl, rfl, rfl⟩))) (Nat.le_of_ble_eq_true rfl) (Nat.le_of_ble_eq_true rfl) d_M_repair_62
        · refine lv_topE (y := 1) w_31 ?_
          refine lv_if_eq (tgt := 41) K.hx K.hb d_M_repair_34 (by decide) (fun c_34 => (show False from by revert c_34; decide).elim) (fun _ => ?_)
          refine lv_iconst (v := 1) K.hx K.hb d_M_repair_37 (by decide) ?_
          refine lv_goto (tgt := 42) K.hx K.hb d_M_repair_38 (by decide) ?_
          refine lv_aload_n K.hx K.hb d_M_repair_42 rfl (lv_at hl 0 rfl) ?_
          refine g_get K.1 hP (0) (by decide) rfl rfl i_M 15 (by decide) rfl (Or.inl kw_649) rfl d_M_repair_43 ?_
          refine lv_topE (y := nI rc) hrc ?_
          refine lv_iconst (v := 5) K.hx K.hb d_M_repair_46 (by decide) ?_
          refine lv_icmp_ge (tgt := 54) K.hx K.hb d_M_repair_47 (by decide) (fun c_47 => ?_) (fun c_47 => ?_)
          · refine lv_iconst (v := 0) K.hx K.hb d_M_repair_54 (by decide) ?_
            refine dd_V K hP hS (c_M_goes l D cs ad _ _ 1 1 0) kw_751 xm_M_goes kw_748 kw_750 kw_13 (g_recv K.1.2.1 hP (0) (by decide) rfl rfl) rfl hl.1 d_M_repair_55 (Nat.le_of_ble_eq_true rfl) (Nat.le_of_ble_eq_true rfl) ⟨(Nat.le_of_ble_eq_true rfl), (Nat.le_of_ble_eq_true rfl)⟩ (fun r v1 sd1 H l1 hp hP hS => ?_)
            obtain ⟨rfl, rfl, rfl⟩ := hp
            have hgz : gz 1 1 0 = 3 := by decide
            rw [hgz] at hP
            refine lv_topE (y := 0) (by rw [hgz]; decide) ?_
            refine lv_if_ne (tgt := 63) K.hx K.hb d_M_repair_58 (by decide) (fun c_58 => (show False from by revert c_58; decide).elim) (fun _ => ?_)
            refine lv_iconst (v := 0) K.hx K.hb d_M_repair_61 (by decide) ?_
            exact de_i K hP hS (Or.inr (Or.inr (Or.inr ⟨⟨i, hi, rfl⟩, ⟨one_ne w_10, one_ne w_19, one_ne w_31⟩, fun h => absurd h (Nat.not_lt.mpr ((nI_leI (by decide) (by omega)).mp (show nI 5 ≤ nI rc from c_47))), rfl, rfl, rfl⟩))) (Nat.le_of_ble_eq_true rfl) (Nat.le_of_ble_eq_true rfl) d_M_repair_62
          · refine lv_iconst (v := 1) K.hx K.hb d_M_repair_50 (by decide) ?_
            refine lv_goto (tgt := 55) K.hx K.hb d_M_repair_51 (by decide) ?_
            refine dd_V K hP hS (c_M_goes l D cs ad _ _ 1 1 1) kw_751 xm_M_goes kw_748 kw_750 kw_13 (g_recv K.1.2.1 hP (0) (by decide) rfl rfl) rfl hl.1 d_M_repair_55 (Nat.le_of_ble_eq_true rfl) (Nat.le_of_ble_eq_true rfl) ⟨(Nat.le_of_ble_eq_true rfl), (Nat.le_of_ble_eq_true rfl)⟩ (fun r v1 sd1 H l1 hp hP hS => ?_)
            obtain ⟨rfl, rfl, rfl⟩ := hp
            have hgz : gz 1 1 1 = 0 := by decide
            rw [hgz] at hP
            refine lv_topE (y := 1) (by rw [hgz]; decide) ?_
            refine lv_if_ne (tgt := 63) K.hx K.hb d_M_repair_58 (by decide) (fun _ => ?_) (fun c_58 => (show False from by revert c_58; decide).elim)
            have hlt : rc < 5 := (nI_ltI (by omega) (by decide)).mp (show nI rc < nI 5 from Int32.not_le.mp c_47)
            refine lv_aload_n K.hx K.hb d_M_repair_63 rfl (lv_at hl 0 rfl) ?_
            refine g_get K.1 hP (0) (by decide) rfl rfl i_M 16 (by decide) rfl (Or.inl kw_650) rfl d_M_repair_64 ?_
            refine lv_aload_n K.hx K.hb d_M_repair_67 rfl (lv_at hl 0 rfl) ?_
            refine g_get K.1 hP (0) (by decide) rfl rfl i_M 15 (by decide) rfl (Or.inl kw_649) rfl d_M_repair_68 ?_
            refine lv_topE (y := (v 0 15)) (by first | (simp [u2_at, kpM]; done) | (simp [u2_at, kpM] <;> (intros; omega)) | (simp only [u2_at, kpM]; (repeat' split) <;> first | rfl | (exfalso; omega))) ?_
            refine lv_topE (y := nI rc) hrc ?_
            refine lv_iload_n K.hx K.hb d_M_repair_71 rfl (lv_at hl 1 rfl) ?_
            refine g_iast K.1 hP hS (11) (by decide) (fun _ => rfl) 0 rfl (rc) rfl (by omega) (by decide) d_M_repair_72 (fun H l1 hP hS => ?_)
            refine lv_aload_n K.hx K.hb d_M_repair_73 rfl (lv_at hl 0 rfl) ?_
            refine g_get K.1 hP (0) (by decide) rfl rfl i_M 17 (by decide) rfl (Or.inl kw_651) rfl d_M_repair_74 ?_
            refine lv_aload_n K.hx K.hb d_M_repair_77 rfl (lv_at hl 0 rfl) ?_
            refine g_get K.1 hP (0) (by decide) rfl rfl i_M 15 (by decide) rfl (Or.inl kw_649) rfl d_M_repair_78 ?_
            refine lv_topE (y := (v 0 15)) (by first | (simp [u2_at, kpM]; done) | (simp [u2_at, kpM] <;> (intros; omega)) | (simp only [u2_at, kpM]; (repeat' split) <;> first | rfl | (exfalso; omega))) ?_
            refine lv_topE (y := nI rc) hrc ?_
            refine lv_iload_n K.hx K.hb d_M_repair_81 rfl (lv_at hl 2 rfl) ?_
            refine g_iast K.1 hP hS (12) (by decide) (fun _ => rfl) 0 rfl (rc) rfl (by omega) (by decide) d_M_repair_82 (fun H l1 hP hS => ?_)
            refine lv_aload_n K.hx K.hb d_M_repair_83 rfl (lv_at hl 0 rfl) ?_
            refine g_get K.1 hP (0) (by decide) rfl rfl i_M 18 (by decide) rfl (Or.inl kw_652) rfl d_M_repair_84 ?_
            refine lv_aload_n K.hx K.hb d_M_repair_87 rfl (lv_at hl 0 rfl) ?_
            refine g_get K.1 hP (0) (by decide) rfl rfl i_M 15 (by decide) rfl (Or.inl kw_649) rfl d_M_repair_88 ?_
            refine lv_topE (y := (v 0 15)) (by first | (simp [u2_at, kpM]; done) | (simp [u2_at, kpM] <;> (intros; omega)) | (simp only [u2_at, kpM]; (repeat' split) <;> first | rfl | (exfalso; omega))) ?_
            refine lv_topE (y := nI rc) hrc ?_
            refine lv_iload_n K.hx K.hb d_M_repair_91 rfl (lv_at hl 3 rfl) ?_
            refine g_iast K.1 hP hS (13) (by decide) (fun _ => rfl) 0 rfl (rc) rfl (by omega) (by decide) d_M_repair_92 (fun H l1 hP hS => ?_)
            refine lv_aload_n K.hx K.hb d_M_repair_93 rfl (lv_at hl 0 rfl) ?_
            refine g_get K.1 hP (0) (by decide) rfl rfl i_M 19 (by decide) rfl (Or.inl kw_653) rfl d_M_repair_94 ?_
            refine lv_aload_n K.hx K.hb d_M_repair_97 rfl (lv_at hl 0 rfl) ?_
            refine g_get K.1 hP (0) (by decide) rfl rfl i_M 15 (by decide) rfl (Or.inl kw_649) rfl d_M_repair_98 ?_
            refine lv_topE (y := (v 0 15)) (by first | (simp [u2_at, kpM]; done) | (simp [u2_at, kpM] <;> (intros; omega)) | (simp only [u2_at, kpM]; (repeat' split) <;> first | rfl | (exfalso; omega))) ?_
            refine lv_topE (y := nI rc) hrc ?_
            refine lv_iload K.hx K.hb d_M_repair_101 (lv_at hl 4 rfl) ?_
            refine g_iast K.1 hP hS (14) (by decide) (fun _ => rfl) 0 rfl (rc) rfl (by omega) (by decide) d_M_repair_103 (fun H l1 hP hS => ?_)
            refine lv_aload_n K.hx K.hb d_M_repair_104 rfl (lv_at hl 0 rfl) ?_
            refine lv_dup K.hx K.hb d_M_repair_105 rfl ?_
            refine g_get K.1 hP (0) (by decide) rfl rfl i_M 15 (by decide) rfl (Or.inl kw_649) rfl d_M_repair_106 ?_
            refine lv_topE (y := (v 0 15)) (by first | (simp [u2_at, kpM]; done) | (simp [u2_at, kpM] <;> (intros; omega)) | (simp only [u2_at, kpM]; (repeat' split) <;> first | rfl | (exfalso; omega))) ?_
            refine lv_topE (y := nI rc) hrc ?_
            refine lv_iconst (v := 1) K.hx K.hb d_M_repair_109 (by decide) ?_
            refine lv_iadd K.hx K.hb d_M_repair_110 ?_
            refine lv_topE (y := nI (rc + 1)) (nI_add _ _) ?_
            refine g_puti K.1 hP hS (0) (by decide) rfl rfl i_M ft_M ft_M_ok n_M 15 (by decide) rfl (Or.inl kw_649) rfl rfl rfl (Nat.le_of_ble_eq_true rfl) rfl d_M_repair_111 (fun H l1 hP hS => ?_)
            refine lv_aload_n K.hx K.hb d_M_repair_114 rfl (lv_at hl 0 rfl) ?_
            refine lv_iconst (v := 0) K.hx K.hb d_M_repair_115 (by decide) ?_
            refine g_puti K.1 hP hS (0) (by decide) rfl rfl i_M ft_M ft_M_ok n_M 23 (by decide) rfl (Or.inl kw_657) rfl rfl rfl (Nat.le_of_ble_eq_true rfl) rfl d_M_repair_116 (fun H l1 hP hS => ?_)
            refine lv_aload_n K.hx K.hb d_M_repair_119 rfl (lv_at hl 0 rfl) ?_
            refine g_get K.1 hP (0) (by decide) rfl rfl i_M 15 (by decide) rfl (Or.inl kw_649) rfl d_M_repair_120 ?_
            refine lv_topE (y := (nI (rc + 1))) (by first | (simp [u2_at, kpM]; done) | (simp [u2_at, kpM] <;> (intros; omega)) | (simp only [u2_at, kpM]; (repeat' split) <;> first | rfl | (exfalso; omega))) ?_
            refine lv_topE (y := nI (rc + 1)) rfl ?_
            refine lv_iconst (v := 1) K.hx K.hb d_M_repair_123 (by decide) ?_
            refine lv_isub K.hx K.hb d_M_repair_124 ?_
            refine lv_topE (y := nI (rc + 0)) (nI_pred _) ?_
            exact de_i K hP hS (Or.inl ⟨i, hi, rfl, ⟨one_ne w_10, one_ne w_19, one_ne w_31⟩, hlt, rfl, rfl, rfl⟩) (Nat.le_of_ble_eq_true rfl) (Nat.le_of_ble_eq_true rfl) d_M_repair_125
  · refine lv_topE (y := 0) (wth_no (by omega) hx) ?_
    refine lv_iload_n K.hx K.hb d_M_repair_6 rfl (lv_at hl 2 rfl) ?_
    refine lv_iconst (v := 1) K.hx K.hb d_M_repair_7 (by decide) ?_
    refine lv_bipush (v := 24) K.hx K.hb d_M_repair_8 (by decide) ?_
    refine dd_S K hP hS (c_M_in l D cs ad _ _ y 1 24) kw_747 xm_M_in kw_745 kw_746 kw_29 rfl hl.1 d_M_repair_10 (Nat.le_of_ble_eq_true rfl) (Nat.le_of_ble_eq_true rfl) ⟨(Nat.le_of_ble_eq_true rfl), (Nat.le_of_ble_eq_true rfl)⟩ (fun r v1 sd1 H l1 hp hP hS => ?_)
    obtain ⟨rfl, rfl, rfl⟩ := hp
    rcases wth_01 y 1 24 with w_10 | w_10
    · refine lv_topE (y := 0) w_10 ?_
      refine lv_if_eq (tgt := 41) K.hx K.hb d_M_repair_13 (by decide) (fun _ => ?_) (fun c_13 => (show False from by revert c_13; decide).elim)
      refine lv_iconst (v := 0) K.hx K.hb d_M_repair_41 (by decide) ?_
      refine lv_aload_n K.hx K.hb d_M_repair_42 rfl (lv_at hl 0 rfl) ?_
      refine g_get K.1 hP (0) (by decide) rfl rfl i_M 15 (by decide) rfl (Or.inl kw_649) rfl d_M_repair_43 ?_
      refine lv_topE (y := nI rc) hrc ?_
      refine lv_iconst (v := 5) K.hx K.hb d_M_repair_46 (by decide) ?_
      refine lv_icmp_ge (tgt := 54) K.hx K.hb d_M_repair_47 (by decide) (fun c_47 => ?_) (fun c_47 => ?_)
      · refine lv_iconst (v := 0) K.hx K.hb d_M_repair_54 (by decide) ?_
        refine dd_V K hP hS (c_M_goes l D cs ad _ _ 0 0 0) kw_751 xm_M_goes kw_748 kw_750 kw_13 (g_recv K.1.2.1 hP (0) (by decide) rfl rfl) rfl hl.1 d_M_repair_55 (Nat.le_of_ble_eq_true rfl) (Nat.le_of_ble_eq_true rfl) ⟨(Nat.le_of_ble_eq_true rfl), (Nat.le_of_ble_eq_true rfl)⟩ (fun r v1 sd1 H l1 hp hP hS => ?_)
        obtain ⟨rfl, rfl, rfl⟩ := hp
        have hgz : gz 0 0 0 = 1 := by decide
        rw [hgz] at hP
        refine lv_topE (y := 0) (by rw [hgz]; decide) ?_
        refine lv_if_ne (tgt := 63) K.hx K.hb d_M_repair_58 (by decide) (fun c_58 => (show False from by revert c_58; decide).elim) (fun _ => ?_)
        refine lv_iconst (v := 0) K.hx K.hb d_M_repair_61 (by decide) ?_
        exact de_i K hP hS (Or.inr (Or.inl ⟨hx, rfl, rfl, rfl⟩)) (Nat.le_of_ble_eq_true rfl) (Nat.le_of_ble_eq_true rfl) d_M_repair_62
      · refine lv_iconst (v := 1) K.hx K.hb d_M_repair_50 (by decide) ?_
        refine lv_goto (tgt := 55) K.hx K.hb d_M_repair_51 (by decide) ?_
        refine dd_V K hP hS (c_M_goes l D cs ad _ _ 0 0 1) kw_751 xm_M_goes kw_748 kw_750 kw_13 (g_recv K.1.2.1 hP (0) (by decide) rfl rfl) rfl hl.1 d_M_repair_55 (Nat.le_of_ble_eq_true rfl) (Nat.le_of_ble_eq_true rfl) ⟨(Nat.le_of_ble_eq_true rfl), (Nat.le_of_ble_eq_true rfl)⟩ (fun r v1 sd1 H l1 hp hP hS => ?_)
        obtain ⟨rfl, rfl, rfl⟩ := hp
        have hgz : gz 0 0 1 = 1 := by decide
        rw [hgz] at hP
        refine lv_topE (y := 0) (by rw [hgz]; decide) ?_
        refine lv_if_ne (tgt := 63) K.hx K.hb d_M_repair_58 (by decide) (fun c_58 => (show False from by revert c_58; decide).elim) (fun _ => ?_)
        refine lv_iconst (v := 0) K.hx K.hb d_M_repair_61 (by decide) ?_
        exact de_i K hP hS (Or.inr (Or.inl ⟨hx, rfl, rfl, rfl⟩)) (Nat.le_of_ble_eq_true rfl) (Nat.le_of_ble_eq_true rfl) d_M_repair_62
    · refine lv_topE (y := 1) w_10 ?_
      refine lv_if_eq (tgt := 41) K.hx K.hb d_M_repair_13 (by decide) (fun c_13 => (show False from by revert c_13; decide).elim) (fun _ => ?_)
      refine lv_iload_n K.hx K.hb d_M_repair_16 rfl (lv_at hl 3 rfl) ?_
      refine lv_iconst (v := 0) K.hx K.hb d_M_repair_17 (by decide) ?_
      refine lv_iconst (v := 3) K.hx K.hb d_M_repair_18 (by decide) ?_
      refine dd_S K hP hS (c_M_in l D cs ad _ _ z 0 3) kw_747 xm_M_in kw_745 kw_746 kw_29 rfl hl.1 d_M_repair_19 (Nat.le_of_ble_eq_true rfl) (Nat.le_of_ble_eq_true rfl) ⟨(Nat.le_of_ble_eq_true rfl), (Nat.le_of_ble_eq_true rfl)⟩ (fun r v1 sd1 H l1 hp hP hS => ?_)
      obtain ⟨rfl, rfl, rfl⟩ := hp
      rcases wth_01 z 0 3 with w_19 | w_19
      · refine lv_topE (y := 0) w_19 ?_
        refine lv_if_eq (tgt := 41) K.hx K.hb d_M_repair_22 (by decide) (fun _ => ?_) (fun c_22 => (show False from by revert c_22; decide).elim)
        refine lv_iconst (v := 0) K.hx K.hb d_M_repair_41 (by decide) ?_
        refine lv_aload_n K.hx K.hb d_M_repair_42 rfl (lv_at hl 0 rfl) ?_
        refine g_get K.1 hP (0) (by decide) rfl rfl i_M 15 (by decide) rfl (Or.inl kw_649) rfl d_M_repair_43 ?_
        refine lv_topE (y := nI rc) hrc ?_
        refine lv_iconst (v := 5) K.hx K.hb d_M_repair_46 (by decide) ?_
        refine lv_icmp_ge (tgt := 54) K.hx K.hb d_M_repair_47 (by decide) (fun c_47 => ?_) (fun c_47 => ?_)
        · refine lv_iconst (v := 0) K.hx K.hb d_M_repair_54 (by decide) ?_
          refine dd_V K hP hS (c_M_goes l D cs ad _ _ 0 0 0) kw_751 xm_M_goes kw_748 kw_750 kw_13 (g_recv K.1.2.1 hP (0) (by decide) rfl rfl) rfl hl.1 d_M_repair_55 (Nat.le_of_ble_eq_true rfl) (Nat.le_of_ble_eq_true rfl) ⟨(Nat.le_of_ble_eq_true rfl), (Nat.le_of_ble_eq_true rfl)⟩ (fun r v1 sd1 H l1 hp hP hS => ?_)
          obtain ⟨rfl, rfl, rfl⟩ := hp
          have hgz : gz 0 0 0 = 1 := by decide
          rw [hgz] at hP
          refine lv_topE (y := 0) (by rw [hgz]; decide) ?_
          refine lv_if_ne (tgt := 63) K.hx K.hb d_M_repair_58 (by decide) (fun c_58 => (show False from by revert c_58; decide).elim) (fun _ => ?_)
          refine lv_iconst (v := 0) K.hx K.hb d_M_repair_61 (by decide) ?_
          exact de_i K hP hS (Or.inr (Or.inl ⟨hx, rfl, rfl, rfl⟩)) (Nat.le_of_ble_eq_true rfl) (Nat.le_of_ble_eq_true rfl) d_M_repair_62
        · refine lv_iconst (v := 1) K.hx K.hb d_M_repair_50 (by decide) ?_
          refine lv_goto (tgt := 55) K.hx K.hb d_M_repair_51 (by decide) ?_
          refine dd_V K hP hS (c_M_goes l D cs ad _ _ 0 0 1) kw_751 xm_M_goes kw_748 kw_750 kw_13 (g_recv K.1.2.1 hP (0) (by decide) rfl rfl) rfl hl.1 d_M_repair_55 (Nat.le_of_ble_eq_true rfl) (Nat.le_of_ble_eq_true rfl) ⟨(Nat.le_of_ble_eq_true rfl), (Nat.le_of_ble_eq_true rfl)⟩ (fun r v1 sd1 H l1 hp hP hS => ?_)
          obtain ⟨rfl, rfl, rfl⟩ := hp
          have hgz : gz 0 0 1 = 1 := by decide
          rw [hgz] at hP
          refine lv_topE (y := 0) (by rw [hgz]; decide) ?_
          refine lv_if_ne (tgt := 63) K.hx K.hb d_M_repair_58 (by decide) (fun c_58 => (show False from by revert c_58; decide).elim) (fun _ => ?_)
          refine lv_iconst (v := 0) K.hx K.hb d_M_repair_61 (by decide) ?_
          exact de_i K hP hS (Or.inr (Or.inl ⟨hx, rfl, rfl, rfl⟩)) (Nat.le_of_ble_eq_true rfl) (Nat.le_of_ble_eq_true rfl) d_M_repair_62
      · refine lv_topE (y := 1) w_19 ?_
        refine lv_if_eq (tgt := 41) K.hx K.hb d_M_repair_22 (by decide) (fun c_22 => (show False from by revert c_22; decide).elim) (fun _ => ?_)
        refine lv_iload K.hx K.hb d_M_repair_25 (lv_at hl 4 rfl) ?_
        refine lv_iconst (v := 0) K.hx K.hb d_M_repair_27 (by decide) ?_
        refine lv_sipush (v := 1000) K.hx K.hb d_M_repair_28 (by decide) ?_
        refine dd_S K hP hS (c_M_in l D cs ad _ _ w 0 1000) kw_747 xm_M_in kw_745 kw_746 kw_29 rfl hl.1 d_M_repair_31 (Nat.le_of_ble_eq_true rfl) (Nat.le_of_ble_eq_true rfl) ⟨(Nat.le_of_ble_eq_true rfl), (Nat.le_of_ble_eq_true rfl)⟩ (fun r v1 sd1 H l1 hp hP hS => ?_)
        obtain ⟨rfl, rfl, rfl⟩ := hp
        rcases wth_01 w 0 1000 with w_31 | w_31
        · refine lv_topE (y := 0) w_31 ?_
          refine lv_if_eq (tgt := 41) K.hx K.hb d_M_repair_34 (by decide) (fun _ => ?_) (fun c_34 => (show False from by revert c_34; decide).elim)
          refine lv_iconst (v := 0) K.hx K.hb d_M_repair_41 (by decide) ?_
          refine lv_aload_n K.hx K.hb d_M_repair_42 rfl (lv_at hl 0 rfl) ?_
          refine g_get K.1 hP (0) (by decide) rfl rfl i_M 15 (by decide) rfl (Or.inl kw_649) rfl d_M_repair_43 ?_
          refine lv_topE (y := nI rc) hrc ?_
          refine lv_iconst (v := 5) K.hx K.hb d_M_repair_46 (by decide) ?_
          refine lv_icmp_ge (tgt := 54) K.hx K.hb d_M_repair_47 (by decide) (fun c_47 => ?_) (fun c_47 => ?_)
          · refine lv_iconst (v := 0) K.hx K.hb d_M_repair_54 (by decide) ?_
            refine dd_V K hP hS (c_M_goes l D cs ad _ _ 0 0 0) kw_751 xm_M_goes kw_748 kw_750 kw_13 (g_recv K.1.2.1 hP (0) (by decide) rfl rfl) rfl hl.1 d_M_repair_55 (Nat.le_of_ble_eq_true rfl) (Nat.le_of_ble_eq_true rfl) ⟨(Nat.le_of_ble_eq_true rfl), (Nat.le_of_ble_eq_true rfl)⟩ (fun r v1 sd1 H l1 hp hP hS => ?_)
            obtain ⟨rfl, rfl, rfl⟩ := hp
            have hgz : gz 0 0 0 = 1 := by decide
            rw [hgz] at hP
            refine lv_topE (y := 0) (by rw [hgz]; decide) ?_
            refine lv_if_ne (tgt := 63) K.hx K.hb d_M_repair_58 (by decide) (fun c_58 => (show False from by revert c_58; decide).elim) (fun _ => ?_)
            refine lv_iconst (v := 0) K.hx K.hb d_M_repair_61 (by decide) ?_
            exact de_i K hP hS (Or.inr (Or.inl ⟨hx, rfl, rfl, rfl⟩)) (Nat.le_of_ble_eq_true rfl) (Nat.le_of_ble_eq_true rfl) d_M_repair_62
          · refine lv_iconst (v := 1) K.hx K.hb d_M_repair_50 (by decide) ?_
            refine lv_goto (tgt := 55) K.hx K.hb d_M_repair_51 (by decide) ?_
            refine dd_V K hP hS (c_M_goes l D cs ad _ _ 0 0 1) kw_751 xm_M_goes kw_748 kw_750 kw_13 (g_recv K.1.2.1 hP (0) (by decide) rfl rfl) rfl hl.1 d_M_repair_55 (Nat.le_of_ble_eq_true rfl) (Nat.le_of_ble_eq_true rfl) ⟨(Nat.le_of_ble_eq_true rfl), (Nat.le_of_ble_eq_true rfl)⟩ (fun r v1 sd1 H l1 hp hP hS => ?_)
            obtain ⟨rfl, rfl, rfl⟩ := hp
            have hgz : gz 0 0 1 = 1 := by decide
            rw [hgz] at hP
            refine lv_topE (y := 0) (by rw [hgz]; decide) ?_
            refine lv_if_ne (tgt := 63) K.hx K.hb d_M_repair_58 (by decide) (fun c_58 => (show False from by revert c_58; decide).elim) (fun _ => ?_)
            refine lv_iconst (v := 0) K.hx K.hb d_M_repair_61 (by decide) ?_
            exact de_i K hP hS (Or.inr (Or.inl ⟨hx, rfl, rfl, rfl⟩)) (Nat.le_of_ble_eq_true rfl) (Nat.le_of_ble_eq_true rfl) d_M_repair_62
        · refine lv_topE (y := 1) w_31 ?_
          refine lv_if_eq (tgt := 41) K.hx K.hb d_M_repair_34 (by decide) (fun c_34 => (show False from by revert c_34; decide).elim) (fun _ => ?_)
          refine lv_iconst (v := 1) K.hx K.hb d_M_repair_37 (by decide) ?_
          refine lv_goto (tgt := 42) K.hx K.hb d_M_repair_38 (by decide) ?_
          refine lv_aload_n K.hx K.hb d_M_repair_42 rfl (lv_at hl 0 rfl) ?_
          refine g_get K.1 hP (0) (by decide) rfl rfl i_M 15 (by decide) rfl (Or.inl kw_649) rfl d_M_repair_43 ?_
          refine lv_topE (y := nI rc) hrc ?_
          refine lv_iconst (v := 5) K.hx K.hb d_M_repair_46 (by decide) ?_
          refine lv_icmp_ge (tgt := 54) K.hx K.hb d_M_repair_47 (by decide) (fun c_47 => ?_) (fun c_47 => ?_)
          · refine lv_iconst (v := 0) K.hx K.hb d_M_repair_54 (by decide) ?_
            refine dd_V K hP hS (c_M_goes l D cs ad _ _ 0 1 0) kw_751 xm_M_goes kw_748 kw_750 kw_13 (g_recv K.1.2.1 hP (0) (by decide) rfl rfl) rfl hl.1 d_M_repair_55 (Nat.le_of_ble_eq_true rfl) (Nat.le_of_ble_eq_true rfl) ⟨(Nat.le_of_ble_eq_true rfl), (Nat.le_of_ble_eq_true rfl)⟩ (fun r v1 sd1 H l1 hp hP hS => ?_)
            obtain ⟨rfl, rfl, rfl⟩ := hp
            have hgz : gz 0 1 0 = 1 := by decide
            rw [hgz] at hP
            refine lv_topE (y := 0) (by rw [hgz]; decide) ?_
            refine lv_if_ne (tgt := 63) K.hx K.hb d_M_repair_58 (by decide) (fun c_58 => (show False from by revert c_58; decide).elim) (fun _ => ?_)
            refine lv_iconst (v := 0) K.hx K.hb d_M_repair_61 (by decide) ?_
            exact de_i K hP hS (Or.inr (Or.inl ⟨hx, rfl, rfl, rfl⟩)) (Nat.le_of_ble_eq_true rfl) (Nat.le_of_ble_eq_true rfl) d_M_repair_62
          · refine lv_iconst (v := 1) K.hx K.hb d_M_repair_50 (by decide) ?_
            refine lv_goto (tgt := 55) K.hx K.hb d_M_repair_51 (by decide) ?_
            refine dd_V K hP hS (c_M_goes l D cs ad _ _ 0 1 1) kw_751 xm_M_goes kw_748 kw_750 kw_13 (g_recv K.1.2.1 hP (0) (by decide) rfl rfl) rfl hl.1 d_M_repair_55 (Nat.le_of_ble_eq_true rfl) (Nat.le_of_ble_eq_true rfl) ⟨(Nat.le_of_ble_eq_true rfl), (Nat.le_of_ble_eq_true rfl)⟩ (fun r v1 sd1 H l1 hp hP hS => ?_)
            obtain ⟨rfl, rfl, rfl⟩ := hp
            have hgz : gz 0 1 1 = 1 := by decide
            rw [hgz] at hP
            refine lv_topE (y := 0) (by rw [hgz]; decide) ?_
            refine lv_if_ne (tgt := 63) K.hx K.hb d_M_repair_58 (by decide) (fun c_58 => (show False from by revert c_58; decide).elim) (fun _ => ?_)
            refine lv_iconst (v := 0) K.hx K.hb d_M_repair_61 (by decide) ?_
            exact de_i K hP hS (Or.inr (Or.inl ⟨hx, rfl, rfl, rfl⟩)) (Nat.le_of_ble_eq_true rfl) (Nat.le_of_ble_eq_true rfl) d_M_repair_62
set_option maxHeartbeats 4000000 in
set_option maxRecDepth 100000 in
theorem c_M_rules (l : Launch) (D : va_G) (cs : Nat → ClassId) (ad : Nat → Nat) (v : Nat → Nat → Int32) (sd : Int64) (x y : Int32)  : Dm l y_M_rules b_M_rules 3 none (rmx 1 0) [.ref (ad 0), .int x, .int y] D cs ad v sd (fun r v' sd' => ((¬ wthZ x 0 24 = 0 ∧ ¬ wthZ y 0 1000000 = 0) ∧ r = none ∧ u2 (u2 (u2 (u2 v 0 0 0) 0 20 x) 0 21 y) 0 23 0 = v' ∧ sd = sd') ∨ (¬ (¬ wthZ x 0 24 = 0 ∧ ¬ wthZ y 0 1000000 = 0) ∧ r = none ∧ u2 v 0 0 1 = v' ∧ sd = sd')) (fun cls => False) := by
  refine dw_enter (own := "WearHoursModel") rfl (Nat.le_of_ble_eq_true rfl) ?_
  intro p e s m below meth c ls K hS hP hl
  have hl : lv_has ls 3 [(0, .ref (ad 0)), (1, .int x), (2, .int y)] := hl
  refine lv_aload_n K.hx K.hb d_M_rules_0 rfl (lv_at hl 0 rfl) ?_
  refine lv_iload_n K.hx K.hb d_M_rules_1 rfl (lv_at hl 1 rfl) ?_
  refine lv_iconst (v := 0) K.hx K.hb d_M_rules_2 (by decide) ?_
  refine lv_bipush (v := 24) K.hx K.hb d_M_rules_3 (by decide) ?_
  refine dd_S K hP hS (c_M_in l D cs ad _ _ x 0 24) kw_747 xm_M_in kw_745 kw_746 kw_29 rfl hl.1 d_M_rules_5 (Nat.le_of_ble_eq_true rfl) (Nat.le_of_ble_eq_true rfl) ⟨(Nat.le_of_ble_eq_true rfl), (Nat.le_of_ble_eq_true rfl)⟩ (fun r v1 sd1 H l1 hp hP hS => ?_)
  obtain ⟨rfl, rfl, rfl⟩ := hp
  rcases wth_01 x 0 24 with w_5 | w_5
  · refine lv_topE (y := 0) w_5 ?_
    refine lv_if_eq (tgt := 25) K.hx K.hb d_M_rules_8 (by decide) (fun _ => ?_) (fun c_8 => (show False from by revert c_8; decide).elim)
    refine lv_iconst (v := 0) K.hx K.hb d_M_rules_25 (by decide) ?_
    refine lv_iconst (v := 1) K.hx K.hb d_M_rules_26 (by decide) ?_
    refine lv_iconst (v := 1) K.hx K.hb d_M_rules_27 (by decide) ?_
    refine dd_V K hP hS (c_M_goes l D cs ad _ _ 0 1 1) kw_751 xm_M_goes kw_748 kw_750 kw_13 (g_recv K.1.2.1 hP (0) (by decide) rfl rfl) rfl hl.1 d_M_rules_28 (Nat.le_of_ble_eq_true rfl) (Nat.le_of_ble_eq_true rfl) ⟨(Nat.le_of_ble_eq_true rfl), (Nat.le_of_ble_eq_true rfl)⟩ (fun r v1 sd1 H l1 hp hP hS => ?_)
    obtain ⟨rfl, rfl, rfl⟩ := hp
    have hgz : gz 0 1 1 = 1 := by decide
    rw [hgz] at hP
    refine lv_topE (y := 0) (by rw [hgz]; decide) ?_
    refine lv_if_ne (tgt := 35) K.hx K.hb d_M_rules_31 (by decide) (fun c_31 => (show False from by revert c_31; decide).elim) (fun _ => ?_)
    exact de_v K hP hS (Or.inr ⟨(fun h => h.1 w_5), rfl, rfl, rfl⟩) (Nat.le_of_ble_eq_true rfl) (Nat.le_of_ble_eq_true rfl) d_M_rules_34
  · refine lv_topE (y := 1) w_5 ?_
    refine lv_if_eq (tgt := 25) K.hx K.hb d_M_rules_8 (by decide) (fun c_8 => (show False from by revert c_8; decide).elim) (fun _ => ?_)
    refine lv_iload_n K.hx K.hb d_M_rules_11 rfl (lv_at hl 2 rfl) ?_
    refine lv_iconst (v := 0) K.hx K.hb d_M_rules_12 (by decide) ?_
    refine lv_ldc (v := 1000000) K.hx K.hb K.1.1.2.2.2.1 (K.1.1.2.2.2.2 _ kw_744) d_M_rules_13 ?_
    refine dd_S K hP hS (c_M_in l D cs ad _ _ y 0 1000000) kw_747 xm_M_in kw_745 kw_746 kw_29 rfl hl.1 d_M_rules_15 (Nat.le_of_ble_eq_true rfl) (Nat.le_of_ble_eq_true rfl) ⟨(Nat.le_of_ble_eq_true rfl), (Nat.le_of_ble_eq_true rfl)⟩ (fun r v1 sd1 H l1 hp hP hS => ?_)
    obtain ⟨rfl, rfl, rfl⟩ := hp
    rcases wth_01 y 0 1000000 with w_15 | w_15
    · refine lv_topE (y := 0) w_15 ?_
      refine lv_if_eq (tgt := 25) K.hx K.hb d_M_rules_18 (by decide) (fun _ => ?_) (fun c_18 => (show False from by revert c_18; decide).elim)
      refine lv_iconst (v := 0) K.hx K.hb d_M_rules_25 (by decide) ?_
      refine lv_iconst (v := 1) K.hx K.hb d_M_rules_26 (by decide) ?_
      refine lv_iconst (v := 1) K.hx K.hb d_M_rules_27 (by decide) ?_
      refine dd_V K hP hS (c_M_goes l D cs ad _ _ 0 1 1) kw_751 xm_M_goes kw_748 kw_750 kw_13 (g_recv K.1.2.1 hP (0) (by decide) rfl rfl) rfl hl.1 d_M_rules_28 (Nat.le_of_ble_eq_true rfl) (Nat.le_of_ble_eq_true rfl) ⟨(Nat.le_of_ble_eq_true rfl), (Nat.le_of_ble_eq_true rfl)⟩ (fun r v1 sd1 H l1 hp hP hS => ?_)
      obtain ⟨rfl, rfl, rfl⟩ := hp
      have hgz : gz 0 1 1 = 1 := by decide
      rw [hgz] at hP
      refine lv_topE (y := 0) (by rw [hgz]; decide) ?_
      refine lv_if_ne (tgt := 35) K.hx K.hb d_M_rules_31 (by decide) (fun c_31 => (show False from by revert c_31; decide).elim) (fun _ => ?_)
      exact de_v K hP hS (Or.inr ⟨(fun h => h.2 w_15), rfl, rfl, rfl⟩) (Nat.le_of_ble_eq_true rfl) (Nat.le_of_ble_eq_true rfl) d_M_rules_34
    · refine lv_topE (y := 1) w_15 ?_
      refine lv_if_eq (tgt := 25) K.hx K.hb d_M_rules_18 (by decide) (fun c_18 => (show False from by revert c_18; decide).elim) (fun _ => ?_)
      refine lv_iconst (v := 1) K.hx K.hb d_M_rules_21 (by decide) ?_
      refine lv_goto (tgt := 26) K.hx K.hb d_M_rules_22 (by decide) ?_
      refine lv_iconst (v := 1) K.hx K.hb d_M_rules_26 (by decide) ?_
      refine lv_iconst (v := 1) K.hx K.hb d_M_rules_27 (by decide) ?_
      refine dd_V K hP hS (c_M_goes l D cs ad _ _ 1 1 1) kw_751 xm_M_goes kw_748 kw_750 kw_13 (g_recv K.1.2.1 hP (0) (by decide) rfl rfl) rfl hl.1 d_M_rules_28 (Nat.le_of_ble_eq_true rfl) (Nat.le_of_ble_eq_true rfl) ⟨(Nat.le_of_ble_eq_true rfl), (Nat.le_of_ble_eq_true rfl)⟩ (fun r v1 sd1 H l1 hp hP hS => ?_)
      obtain ⟨rfl, rfl, rfl⟩ := hp
      have hgz : gz 1 1 1 = 0 := by decide
      rw [hgz] at hP
      refine lv_topE (y := 1) (by rw [hgz]; decide) ?_
      refine lv_if_ne (tgt := 35) K.hx K.hb d_M_rules_31 (by decide) (fun _ => ?_) (fun c_31 => (show False from by revert c_31; decide).elim)
      refine lv_aload_n K.hx K.hb d_M_rules_35 rfl (lv_at hl 0 rfl) ?_
      refine lv_iload_n K.hx K.hb d_M_rules_36 rfl (lv_at hl 1 rfl) ?_
      refine g_puti K.1 hP hS (0) (by decide) rfl rfl i_M ft_M ft_M_ok n_M 20 (by decide) rfl (Or.inl kw_654) rfl rfl rfl (Nat.le_of_ble_eq_true rfl) rfl d_M_rules_37 (fun H l1 hP hS => ?_)
      refine lv_aload_n K.hx K.hb d_M_rules_40 rfl (lv_at hl 0 rfl) ?_
      refine lv_iload_n K.hx K.hb d_M_rules_41 rfl (lv_at hl 2 rfl) ?_
      refine g_puti K.1 hP hS (0) (by decide) rfl rfl i_M ft_M ft_M_ok n_M 21 (by decide) rfl (Or.inl kw_655) rfl rfl rfl (Nat.le_of_ble_eq_true rfl) rfl d_M_rules_42 (fun H l1 hP hS => ?_)
      refine lv_aload_n K.hx K.hb d_M_rules_45 rfl (lv_at hl 0 rfl) ?_
      refine lv_iconst (v := 0) K.hx K.hb d_M_rules_46 (by decide) ?_
      refine g_puti K.1 hP hS (0) (by decide) rfl rfl i_M ft_M ft_M_ok n_M 23 (by decide) rfl (Or.inl kw_657) rfl rfl rfl (Nat.le_of_ble_eq_true rfl) rfl d_M_rules_47 (fun H l1 hP hS => ?_)
      exact de_v K hP hS (Or.inl ⟨⟨one_ne w_5, one_ne w_15⟩, rfl, rfl, rfl⟩) (Nat.le_of_ble_eq_true rfl) (Nat.le_of_ble_eq_true rfl) d_M_rules_50
set_option maxHeartbeats 4000000 in
set_option maxRecDepth 100000 in
theorem c_M_at (l : Launch) (D : va_G) (cs : Nat → ClassId) (ad : Nat → Nat) (v : Nat → Nat → Int32) (sd : Int64) {rc : Nat} (hrc : v 0 15 = nI rc) (hr5 : rc ≤ 5) {pc : Nat} (hpc : v 0 11 = nI pc) (hp4 : pc ≤ 4) (hdv : ¬ v 0 23 = 0 → ∀ i, i < rc → 0 ≤ v 16 i → 0 < pc) (x y : Int32)  : Dm l y_M_at b_M_at 3 (some .int) (rmx 1 0) [.ref (ad 0), .int x, .int y] D cs ad v sd (fun r v' sd' => (∃ i, i < rc ∧ x = nI i ∧ ¬ wthZ y 0 2 = 0 ∧ ¬ v 0 23 = 0 ∧ r = some (.int (if v 16 i < 0 then -1 else if y = 0 then v 16 i else if y = 1 then v 17 i - v 17 i / nI pc * nI pc else v 17 i / nI pc)) ∧ u2 v 0 0 0 = v' ∧ sd = sd') ∨ (¬ ((∃ i, i < rc ∧ x = nI i) ∧ ¬ wthZ y 0 2 = 0) ∧ r = some (.int 0) ∧ u2 v 0 0 1 = v' ∧ sd = sd') ∨ ((∃ i, i < rc ∧ x = nI i) ∧ ¬ wthZ y 0 2 = 0 ∧ v 0 23 = 0 ∧ r = some (.int 0) ∧ u2 v 0 0 2 = v' ∧ sd = sd')) (fun cls => False) := by
  refine dw_enter (own := "WearHoursModel") rfl (Nat.le_of_ble_eq_true rfl) ?_
  intro p e s m below meth c ls K hS hP hl
  have hl : lv_has ls 3 [(0, .ref (ad 0)), (1, .int x), (2, .int y)] := hl
  refine lv_aload_n K.hx K.hb d_M_at_0 rfl (lv_at hl 0 rfl) ?_
  refine lv_iload_n K.hx K.hb d_M_at_1 rfl (lv_at hl 1 rfl) ?_
  refine lv_iconst (v := 0) K.hx K.hb d_M_at_2 (by decide) ?_
  refine lv_aload_n K.hx K.hb d_M_at_3 rfl (lv_at hl 0 rfl) ?_
  refine g_get K.1 hP (0) (by decide) rfl rfl i_M 15 (by decide) rfl (Or.inl kw_649) rfl d_M_at_4 ?_
  refine lv_topE (y := nI rc) hrc ?_
  refine lv_iconst (v := 1) K.hx K.hb d_M_at_7 (by decide) ?_
  refine lv_isub K.hx K.hb d_M_at_8 ?_
  refine dd_S K hP hS (c_M_in l D cs ad _ _ x 0 ((nI rc) - 1)) kw_747 xm_M_in kw_745 kw_746 kw_29 rfl hl.1 d_M_at_9 (Nat.le_of_ble_eq_true rfl) (Nat.le_of_ble_eq_true rfl) ⟨(Nat.le_of_ble_eq_true rfl), (Nat.le_of_ble_eq_true rfl)⟩ (fun r v1 sd1 H l1 hp hP hS => ?_)
  obtain ⟨rfl, rfl, rfl⟩ := hp
  by_cases hx : ∃ i, i < rc ∧ x = nI i
  · refine lv_topE (y := 1) (wth_yes (by omega) hx) ?_
    obtain ⟨i, hi, rfl⟩ := hx
    have hi8 : i < 8 := by omega
    refine lv_if_eq (tgt := 28) K.hx K.hb d_M_at_12 (by decide) (fun c_12 => (show False from by revert c_12; decide).elim) (fun _ => ?_)
    refine lv_iload_n K.hx K.hb d_M_at_15 rfl (lv_at hl 2 rfl) ?_
    refine lv_iconst (v := 0) K.hx K.hb d_M_at_16 (by decide) ?_
    refine lv_iconst (v := 2) K.hx K.hb d_M_at_17 (by decide) ?_
    refine dd_S K hP hS (c_M_in l D cs ad _ _ y 0 2) kw_747 xm_M_in kw_745 kw_746 kw_29 rfl hl.1 d_M_at_18 (Nat.le_of_ble_eq_true rfl) (Nat.le_of_ble_eq_true rfl) ⟨(Nat.le_of_ble_eq_true rfl), (Nat.le_of_ble_eq_true rfl)⟩ (fun r v1 sd1 H l1 hp hP hS => ?_)
    obtain ⟨rfl, rfl, rfl⟩ := hp
    rcases wth_01 y 0 2 with w_18 | w_18
    · refine lv_topE (y := 0) w_18 ?_
      refine lv_if_eq (tgt := 28) K.hx K.hb d_M_at_21 (by decide) (fun _ => ?_) (fun c_21 => (show False from by revert c_21; decide).elim)
      refine lv_iconst (v := 0) K.hx K.hb d_M_at_28 (by decide) ?_
      refine lv_aload_n K.hx K.hb d_M_at_29 rfl (lv_at hl 0 rfl) ?_
      refine g_get K.1 hP (0) (by decide) rfl rfl i_M 23 (by decide) rfl (Or.inl kw_657) rfl d_M_at_30 ?_
      by_cases hpl : v 0 23 = 0
      · refine lv_topE (y := 0) hpl ?_
        refine lv_iconst (v := 1) K.hx K.hb d_M_at_33 (by decide) ?_
        refine dd_V K hP hS (c_M_goes l D cs ad _ _ 0 0 1) kw_751 xm_M_goes kw_748 kw_750 kw_13 (g_recv K.1.2.1 hP (0) (by decide) rfl rfl) rfl hl.1 d_M_at_34 (Nat.le_of_ble_eq_true rfl) (Nat.le_of_ble_eq_true rfl) ⟨(Nat.le_of_ble_eq_true rfl), (Nat.le_of_ble_eq_true rfl)⟩ (fun r v1 sd1 H l1 hp hP hS => ?_)
        obtain ⟨rfl, rfl, rfl⟩ := hp
        have hgz : gz 0 0 1 = 1 := by decide
        rw [hgz] at hP
        refine lv_topE (y := 0) (by rw [hgz]; decide) ?_
        refine lv_if_ne (tgt := 42) K.hx K.hb d_M_at_37 (by decide) (fun c_37 => (show False from by revert c_37; decide).elim) (fun _ => ?_)
        refine lv_iconst (v := 0) K.hx K.hb d_M_at_40 (by decide) ?_
        exact de_i K hP hS (Or.inr (Or.inl ⟨(fun h => h.2 w_18), rfl, rfl, rfl⟩)) (Nat.le_of_ble_eq_true rfl) (Nat.le_of_ble_eq_true rfl) d_M_at_41
      · refine lv_iconst (v := 1) K.hx K.hb d_M_at_33 (by decide) ?_
        refine dd_V K hP hS (c_M_goes l D cs ad _ _ 0 (v 0 23) 1) kw_751 xm_M_goes kw_748 kw_750 kw_13 (g_recv K.1.2.1 hP (0) (by decide) rfl rfl) rfl hl.1 d_M_at_34 (Nat.le_of_ble_eq_true rfl) (Nat.le_of_ble_eq_true rfl) ⟨(Nat.le_of_ble_eq_true rfl), (Nat.le_of_ble_eq_true rfl)⟩ (fun r v1 sd1 H l1 hp hP hS => ?_)
        obtain ⟨rfl, rfl, rfl⟩ := hp
        have hgz : gz 0 (v 0 23) 1 = 1 := by simp [gz, hpl]
        rw [hgz] at hP
        refine lv_topE (y := 0) (by rw [hgz]; decide) ?_
        refine lv_if_ne (tgt := 42) K.hx K.hb d_M_at_37 (by decide) (fun c_37 => (show False from by revert c_37; decide).elim) (fun _ => ?_)
        refine lv_iconst (v := 0) K.hx K.hb d_M_at_40 (by decide) ?_
        exact de_i K hP hS (Or.inr (Or.inl ⟨(fun h => h.2 w_18), rfl, rfl, rfl⟩)) (Nat.le_of_ble_eq_true rfl) (Nat.le_of_ble_eq_true rfl) d_M_at_41
    · refine lv_topE (y := 1) w_18 ?_
      refine lv_if_eq (tgt := 28) K.hx K.hb d_M_at_21 (by decide) (fun c_21 => (show False from by revert c_21; decide).elim) (fun _ => ?_)
      refine lv_iconst (v := 1) K.hx K.hb d_M_at_24 (by decide) ?_
      refine lv_goto (tgt := 29) K.hx K.hb d_M_at_25 (by decide) ?_
      refine lv_aload_n K.hx K.hb d_M_at_29 rfl (lv_at hl 0 rfl) ?_
      refine g_get K.1 hP (0) (by decide) rfl rfl i_M 23 (by decide) rfl (Or.inl kw_657) rfl d_M_at_30 ?_
      by_cases hpl : v 0 23 = 0
      · refine lv_topE (y := 0) hpl ?_
        refine lv_iconst (v := 1) K.hx K.hb d_M_at_33 (by decide) ?_
        refine dd_V K hP hS (c_M_goes l D cs ad _ _ 1 0 1) kw_751 xm_M_goes kw_748 kw_750 kw_13 (g_recv K.1.2.1 hP (0) (by decide) rfl rfl) rfl hl.1 d_M_at_34 (Nat.le_of_ble_eq_true rfl) (Nat.le_of_ble_eq_true rfl) ⟨(Nat.le_of_ble_eq_true rfl), (Nat.le_of_ble_eq_true rfl)⟩ (fun r v1 sd1 H l1 hp hP hS => ?_)
        obtain ⟨rfl, rfl, rfl⟩ := hp
        have hgz : gz 1 0 1 = 2 := by decide
        rw [hgz] at hP
        refine lv_topE (y := 0) (by rw [hgz]; decide) ?_
        refine lv_if_ne (tgt := 42) K.hx K.hb d_M_at_37 (by decide) (fun c_37 => (show False from by revert c_37; decide).elim) (fun _ => ?_)
        refine lv_iconst (v := 0) K.hx K.hb d_M_at_40 (by decide) ?_
        exact de_i K hP hS (Or.inr (Or.inr ⟨⟨i, hi, rfl⟩, one_ne w_18, hpl, rfl, rfl, rfl⟩)) (Nat.le_of_ble_eq_true rfl) (Nat.le_of_ble_eq_true rfl) d_M_at_41
      · refine lv_iconst (v := 1) K.hx K.hb d_M_at_33 (by decide) ?_
        refine dd_V K hP hS (c_M_goes l D cs ad _ _ 1 (v 0 23) 1) kw_751 xm_M_goes kw_748 kw_750 kw_13 (g_recv K.1.2.1 hP (0) (by decide) rfl rfl) rfl hl.1 d_M_at_34 (Nat.le_of_ble_eq_true rfl) (Nat.le_of_ble_eq_true rfl) ⟨(Nat.le_of_ble_eq_true rfl), (Nat.le_of_ble_eq_true rfl)⟩ (fun r v1 sd1 H l1 hp hP hS => ?_)
        obtain ⟨rfl, rfl, rfl⟩ := hp
        have hgz : gz 1 (v 0 23) 1 = 0 := by simp [gz, hpl]
        rw [hgz] at hP
        refine lv_topE (y := 1) (by rw [hgz]; decide) ?_
        refine lv_if_ne (tgt := 42) K.hx K.hb d_M_at_37 (by decide) (fun _ => ?_) (fun c_37 => (show False from by revert c_37; decide).elim)
        refine lv_aload_n K.hx K.hb d_M_at_42 rfl (lv_at hl 0 rfl) ?_
        refine g_get K.1 hP (0) (by decide) rfl rfl i_M 25 (by decide) rfl (Or.inl kw_659) rfl d_M_at_43 ?_
        refine lv_iload_n K.hx K.hb d_M_at_46 rfl (lv_at hl 1 rfl) ?_
        refine g_iald K.1 hP (16) (by decide) rfl 0 rfl (i) rfl (by omega) (by decide) d_M_at_47 ?_
        refine lv_topE (y := (v 16 i)) (by first | (simp [u2_at, kpM]; done) | (simp [u2_at, kpM] <;> (intros; omega)) | (simp only [u2_at, kpM]; (repeat' split) <;> first | rfl | (exfalso; omega))) ?_
        refine lv_if_ge (tgt := 53) K.hx K.hb d_M_at_48 (by decide) (fun c_48 => ?_) (fun c_48 => ?_)
        · refine lv_iload_n K.hx K.hb d_M_at_53 rfl (lv_at hl 2 rfl) ?_
          refine lv_if_ne (tgt := 66) K.hx K.hb d_M_at_54 (by decide) (fun c_54 => ?_) (fun c_54 => ?_)
          · refine lv_iload_n K.hx K.hb d_M_at_66 rfl (lv_at hl 2 rfl) ?_
            refine lv_iconst (v := 1) K.hx K.hb d_M_at_67 (by decide) ?_
            refine lv_icmp_ne (tgt := 85) K.hx K.hb d_M_at_68 (by decide) (fun c_68 => ?_) (fun c_68 => ?_)
            · refine lv_aload_n K.hx K.hb d_M_at_85 rfl (lv_at hl 0 rfl) ?_
              refine g_get K.1 hP (0) (by decide) rfl rfl i_M 26 (by decide) rfl (Or.inl kw_660) rfl d_M_at_86 ?_
              refine lv_iload_n K.hx K.hb d_M_at_89 rfl (lv_at hl 1 rfl) ?_
              refine g_iald K.1 hP (17) (by decide) rfl 0 rfl (i) rfl (by omega) (by decide) d_M_at_90 ?_
              refine lv_topE (y := (v 17 i)) (by first | (simp [u2_at, kpM]; done) | (simp [u2_at, kpM] <;> (intros; omega)) | (simp only [u2_at, kpM]; (repeat' split) <;> first | rfl | (exfalso; omega))) ?_
              refine lv_aload_n K.hx K.hb d_M_at_91 rfl (lv_at hl 0 rfl) ?_
              refine g_get K.1 hP (0) (by decide) rfl rfl i_M 11 (by decide) rfl (Or.inl kw_645) rfl d_M_at_92 ?_
              refine lv_topE (y := (v 0 11)) (by first | (simp [u2_at, kpM]; done) | (simp [u2_at, kpM] <;> (intros; omega)) | (simp only [u2_at, kpM]; (repeat' split) <;> first | rfl | (exfalso; omega))) ?_
              refine lv_topE (y := nI pc) hpc ?_
              refine lv_idiv K.hx K.hb d_M_at_95 (nI_ne0 (hdv hpl i hi c_48) (by omega)) ?_
              exact de_i K hP hS (Or.inl ⟨i, hi, rfl, one_ne w_18, hpl, by rw [if_neg (Int32.not_lt.mpr c_48), if_neg c_54, if_neg c_68], rfl, rfl⟩) (Nat.le_of_ble_eq_true rfl) (Nat.le_of_ble_eq_true rfl) d_M_at_96
            · refine lv_aload_n K.hx K.hb d_M_at_71 rfl (lv_at hl 0 rfl) ?_
              refine g_get K.1 hP (0) (by decide) rfl rfl i_M 26 (by decide) rfl (Or.inl kw_660) rfl d_M_at_72 ?_
              refine lv_iload_n K.hx K.hb d_M_at_75 rfl (lv_at hl 1 rfl) ?_
              refine g_iald K.1 hP (17) (by decide) rfl 0 rfl (i) rfl (by omega) (by decide) d_M_at_76 ?_
              refine lv_topE (y := (v 17 i)) (by first | (simp [u2_at, kpM]; done) | (simp [u2_at, kpM] <;> (intros; omega)) | (simp only [u2_at, kpM]; (repeat' split) <;> first | rfl | (exfalso; omega))) ?_
              refine lv_aload_n K.hx K.hb d_M_at_77 rfl (lv_at hl 0 rfl) ?_
              refine g_get K.1 hP (0) (by decide) rfl rfl i_M 11 (by decide) rfl (Or.inl kw_645) rfl d_M_at_78 ?_
              refine lv_topE (y := (v 0 11)) (by first | (simp [u2_at, kpM]; done) | (simp [u2_at, kpM] <;> (intros; omega)) | (simp only [u2_at, kpM]; (repeat' split) <;> first | rfl | (exfalso; omega))) ?_
              refine lv_topE (y := nI pc) hpc ?_
              refine lv_irem K.hx K.hb d_M_at_81 (nI_ne0 (hdv hpl i hi c_48) (by omega)) ?_
              refine lv_goto (tgt := 96) K.hx K.hb d_M_at_82 (by decide) ?_
              exact de_i K hP hS (Or.inl ⟨i, hi, rfl, one_ne w_18, hpl, by rw [if_neg (Int32.not_lt.mpr c_48), if_neg c_54, if_pos c_68], rfl, rfl⟩) (Nat.le_of_ble_eq_true rfl) (Nat.le_of_ble_eq_true rfl) d_M_at_96
          · refine lv_aload_n K.hx K.hb d_M_at_57 rfl (lv_at hl 0 rfl) ?_
            refine g_get K.1 hP (0) (by decide) rfl rfl i_M 25 (by decide) rfl (Or.inl kw_659) rfl d_M_at_58 ?_
            refine lv_iload_n K.hx K.hb d_M_at_61 rfl (lv_at hl 1 rfl) ?_
            refine g_iald K.1 hP (16) (by decide) rfl 0 rfl (i) rfl (by omega) (by decide) d_M_at_62 ?_
            refine lv_topE (y := (v 16 i)) (by first | (simp [u2_at, kpM]; done) | (simp [u2_at, kpM] <;> (intros; omega)) | (simp only [u2_at, kpM]; (repeat' split) <;> first | rfl | (exfalso; omega))) ?_
            refine lv_goto (tgt := 96) K.hx K.hb d_M_at_63 (by decide) ?_
            exact de_i K hP hS (Or.inl ⟨i, hi, rfl, one_ne w_18, hpl, by rw [if_neg (Int32.not_lt.mpr c_48), if_pos c_54], rfl, rfl⟩) (Nat.le_of_ble_eq_true rfl) (Nat.le_of_ble_eq_true rfl) d_M_at_96
        · refine lv_iconst (v := (-1)) K.hx K.hb d_M_at_51 (by decide) ?_
          exact de_i K hP hS (Or.inl ⟨i, hi, rfl, one_ne w_18, hpl, by rw [if_pos (Int32.not_le.mp c_48)], rfl, rfl⟩) (Nat.le_of_ble_eq_true rfl) (Nat.le_of_ble_eq_true rfl) d_M_at_52
  · refine lv_topE (y := 0) (wth_no (by omega) hx) ?_
    refine lv_if_eq (tgt := 28) K.hx K.hb d_M_at_12 (by decide) (fun _ => ?_) (fun c_12 => (show False from by revert c_12; decide).elim)
    refine lv_iconst (v := 0) K.hx K.hb d_M_at_28 (by decide) ?_
    refine lv_aload_n K.hx K.hb d_M_at_29 rfl (lv_at hl 0 rfl) ?_
    refine g_get K.1 hP (0) (by decide) rfl rfl i_M 23 (by decide) rfl (Or.inl kw_657) rfl d_M_at_30 ?_
    by_cases hpl : v 0 23 = 0
    · refine lv_topE (y := 0) hpl ?_
      refine lv_iconst (v := 1) K.hx K.hb d_M_at_33 (by decide) ?_
      refine dd_V K hP hS (c_M_goes l D cs ad _ _ 0 0 1) kw_751 xm_M_goes kw_748 kw_750 kw_13 (g_recv K.1.2.1 hP (0) (by decide) rfl rfl) rfl hl.1 d_M_at_34 (Nat.le_of_ble_eq_true rfl) (Nat.le_of_ble_eq_true rfl) ⟨(Nat.le_of_ble_eq_true rfl), (Nat.le_of_ble_eq_true rfl)⟩ (fun r v1 sd1 H l1 hp hP hS => ?_)
      obtain ⟨rfl, rfl, rfl⟩ := hp
      have hgz : gz 0 0 1 = 1 := by decide
      rw [hgz] at hP
      refine lv_topE (y := 0) (by rw [hgz]; decide) ?_
      refine lv_if_ne (tgt := 42) K.hx K.hb d_M_at_37 (by decide) (fun c_37 => (show False from by revert c_37; decide).elim) (fun _ => ?_)
      refine lv_iconst (v := 0) K.hx K.hb d_M_at_40 (by decide) ?_
      exact de_i K hP hS (Or.inr (Or.inl ⟨(fun h => hx h.1), rfl, rfl, rfl⟩)) (Nat.le_of_ble_eq_true rfl) (Nat.le_of_ble_eq_true rfl) d_M_at_41
    · refine lv_iconst (v := 1) K.hx K.hb d_M_at_33 (by decide) ?_
      refine dd_V K hP hS (c_M_goes l D cs ad _ _ 0 (v 0 23) 1) kw_751 xm_M_goes kw_748 kw_750 kw_13 (g_recv K.1.2.1 hP (0) (by decide) rfl rfl) rfl hl.1 d_M_at_34 (Nat.le_of_ble_eq_true rfl) (Nat.le_of_ble_eq_true rfl) ⟨(Nat.le_of_ble_eq_true rfl), (Nat.le_of_ble_eq_true rfl)⟩ (fun r v1 sd1 H l1 hp hP hS => ?_)
      obtain ⟨rfl, rfl, rfl⟩ := hp
      have hgz : gz 0 (v 0 23) 1 = 1 := by simp [gz, hpl]
      rw [hgz] at hP
      refine lv_topE (y := 0) (by rw [hgz]; decide) ?_
      refine lv_if_ne (tgt := 42) K.hx K.hb d_M_at_37 (by decide) (fun c_37 => (show False from by revert c_37; decide).elim) (fun _ => ?_)
      refine lv_iconst (v := 0) K.hx K.hb d_M_at_40 (by decide) ?_
      exact de_i K hP hS (Or.inr (Or.inl ⟨(fun h => hx h.1), rfl, rfl, rfl⟩)) (Nat.le_of_ble_eq_true rfl) (Nat.le_of_ble_eq_true rfl) d_M_at_41
set_option maxHeartbeats 4000000 in
set_option maxRecDepth 100000 in
theorem c_M_cost (l : Launch) (D : va_G) (cs : Nat → ClassId) (ad : Nat → Nat) (v : Nat → Nat → Int32) (sd : Int64)   : Dm l y_M_cost b_M_cost 1 (some .int) (rmx 1 0) [.ref (ad 0)] D cs ad v sd (fun r v' sd' => (¬ v 0 23 = 0 ∧ r = some (.int (v 0 24)) ∧ u2 v 0 0 0 = v' ∧ sd = sd') ∨ (v 0 23 = 0 ∧ r = some (.int 0) ∧ u2 v 0 0 1 = v' ∧ sd = sd')) (fun cls => False) := by
  refine dw_enter (own := "WearHoursModel") rfl (Nat.le_of_ble_eq_true rfl) ?_
  intro p e s m below meth c ls K hS hP hl
  have hl : lv_has ls 1 [(0, .ref (ad 0))] := hl
  refine lv_aload_n K.hx K.hb d_M_cost_0 rfl (lv_at hl 0 rfl) ?_
  refine lv_aload_n K.hx K.hb d_M_cost_1 rfl (lv_at hl 0 rfl) ?_
  refine g_get K.1 hP (0) (by decide) rfl rfl i_M 23 (by decide) rfl (Or.inl kw_657) rfl d_M_cost_2 ?_
  by_cases hpl : v 0 23 = 0
  · refine lv_topE (y := 0) hpl ?_
    refine lv_iconst (v := 1) K.hx K.hb d_M_cost_5 (by decide) ?_
    refine lv_iconst (v := 1) K.hx K.hb d_M_cost_6 (by decide) ?_
    refine dd_V K hP hS (c_M_goes l D cs ad _ _ 0 1 1) kw_751 xm_M_goes kw_748 kw_750 kw_13 (g_recv K.1.2.1 hP (0) (by decide) rfl rfl) rfl hl.1 d_M_cost_7 (Nat.le_of_ble_eq_true rfl) (Nat.le_of_ble_eq_true rfl) ⟨(Nat.le_of_ble_eq_true rfl), (Nat.le_of_ble_eq_true rfl)⟩ (fun r v1 sd1 H l1 hp hP hS => ?_)
    obtain ⟨rfl, rfl, rfl⟩ := hp
    have hgz : gz 0 1 1 = 1 := by decide
    rw [hgz] at hP
    refine lv_topE (y := 0) (by rw [hgz]; decide) ?_
    refine lv_if_ne (tgt := 15) K.hx K.hb d_M_cost_10 (by decide) (fun c_10 => (show False from by revert c_10; decide).elim) (fun _ => ?_)
    refine lv_iconst (v := 0) K.hx K.hb d_M_cost_13 (by decide) ?_
    exact de_i K hP hS (Or.inr ⟨hpl, rfl, rfl, rfl⟩) (Nat.le_of_ble_eq_true rfl) (Nat.le_of_ble_eq_true rfl) d_M_cost_14
  · refine lv_iconst (v := 1) K.hx K.hb d_M_cost_5 (by decide) ?_
    refine lv_iconst (v := 1) K.hx K.hb d_M_cost_6 (by decide) ?_
    refine dd_V K hP hS (c_M_goes l D cs ad _ _ (v 0 23) 1 1) kw_751 xm_M_goes kw_748 kw_750 kw_13 (g_recv K.1.2.1 hP (0) (by decide) rfl rfl) rfl hl.1 d_M_cost_7 (Nat.le_of_ble_eq_true rfl) (Nat.le_of_ble_eq_true rfl) ⟨(Nat.le_of_ble_eq_true rfl), (Nat.le_of_ble_eq_true rfl)⟩ (fun r v1 sd1 H l1 hp hP hS => ?_)
    obtain ⟨rfl, rfl, rfl⟩ := hp
    have hgz : gz (v 0 23) 1 1 = 0 := by simp [gz, hpl]
    rw [hgz] at hP
    refine lv_topE (y := 1) (by rw [hgz]; decide) ?_
    refine lv_if_ne (tgt := 15) K.hx K.hb d_M_cost_10 (by decide) (fun _ => ?_) (fun c_10 => (show False from by revert c_10; decide).elim)
    refine lv_aload_n K.hx K.hb d_M_cost_15 rfl (lv_at hl 0 rfl) ?_
    refine g_get K.1 hP (0) (by decide) rfl rfl i_M 24 (by decide) rfl (Or.inl kw_658) rfl d_M_cost_16 ?_
    refine lv_topE (y := (v 0 24)) (by first | (simp [u2_at, kpM]; done) | (simp [u2_at, kpM] <;> (intros; omega)) | (simp only [u2_at, kpM]; (repeat' split) <;> first | rfl | (exfalso; omega))) ?_
    exact de_i K hP hS (Or.inl ⟨hpl, rfl, rfl, rfl⟩) (Nat.le_of_ble_eq_true rfl) (Nat.le_of_ble_eq_true rfl) d_M_cost_19
set_option maxHeartbeats 4000000 in
set_option maxRecDepth 100000 in
theorem c_M_spare (l : Launch) (D : va_G) (cs : Nat → ClassId) (ad : Nat → Nat) (v : Nat → Nat → Int32) (sd : Int64) (x y : Int32)  : Dm l y_M_spare b_M_spare 5 (some .int) (rmx 1 0) [.ref (ad 0), .int x, .int y] D cs ad v sd (fun r v' sd' => (∃ i, i < 4 ∧ x = nI i ∧ ¬ wthZ y 0 100 = 0 ∧ ¬ 1000 < v 15 i + y ∧ r = some (.int (v 15 i + y)) ∧ u2 (u2 v 0 0 0) 15 i (v 15 i + y) = v' ∧ sd = sd') ∨ ((¬ ∃ i, i < 4 ∧ x = nI i) ∧ r = some (.int 0) ∧ u2 v 0 0 1 = v' ∧ sd = sd') ∨ ((∃ i, i < 4 ∧ x = nI i) ∧ wthZ y 0 100 = 0 ∧ r = some (.int 0) ∧ u2 v 0 0 2 = v' ∧ sd = sd') ∨ (∃ i, i < 4 ∧ x = nI i ∧ ¬ wthZ y 0 100 = 0 ∧ 1000 < v 15 i + y ∧ r = some (.int 0) ∧ u2 v 0 0 3 = v' ∧ sd = sd')) (fun cls => False) := by
  refine dw_enter (own := "WearHoursModel") rfl (Nat.le_of_ble_eq_true rfl) ?_
  intro p e s m below meth c ls K hS hP hl
  have hl : lv_has ls 5 [(0, .ref (ad 0)), (1, .int x), (2, .int y)] := hl
  refine lv_iload_n K.hx K.hb d_M_spare_0 rfl (lv_at hl 1 rfl) ?_
  refine lv_iconst (v := 0) K.hx K.hb d_M_spare_1 (by decide) ?_
  refine lv_iconst (v := 3) K.hx K.hb d_M_spare_2 (by decide) ?_
  refine dd_S K hP hS (c_M_in l D cs ad _ _ x 0 3) kw_747 xm_M_in kw_745 kw_746 kw_29 rfl hl.1 d_M_spare_3 (Nat.le_of_ble_eq_true rfl) (Nat.le_of_ble_eq_true rfl) ⟨(Nat.le_of_ble_eq_true rfl), (Nat.le_of_ble_eq_true rfl)⟩ (fun r v1 sd1 H l1 hp hP hS => ?_)
  obtain ⟨rfl, rfl, rfl⟩ := hp
  by_cases hx : ∃ i, i < 4 ∧ x = nI i
  · refine lv_topE (y := 1) (wth_yes4 (by omega) hx) ?_
    obtain ⟨i, hi, rfl⟩ := hx
    have hi8 : i < 8 := by omega
    refine lv_istore_n (lv' := [(3, .int 1), (0, .ref (ad 0)), (1, .int (nI i)), (2, .int y)]) K.hx K.hb d_M_spare_6 rfl hl (by decide) rfl (fun ls hl => ?_)
    refine lv_iload_n K.hx K.hb d_M_spare_7 rfl (lv_at hl 3 rfl) ?_
    refine lv_iconst (v := 0) K.hx K.hb d_M_spare_8 (by decide) ?_
    refine lv_bipush (v := 100) K.hx K.hb d_M_spare_9 (by decide) ?_
    refine dd_S K hP hS (c_M_in l D cs ad _ _ y 0 100) kw_747 xm_M_in kw_745 kw_746 kw_29 rfl hl.1 d_M_spare_11 (Nat.le_of_ble_eq_true rfl) (Nat.le_of_ble_eq_true rfl) ⟨(Nat.le_of_ble_eq_true rfl), (Nat.le_of_ble_eq_true rfl)⟩ (fun r v1 sd1 H l1 hp hP hS => ?_)
    obtain ⟨rfl, rfl, rfl⟩ := hp
    rcases wth_01 y 0 100 with w_11 | w_11
    · refine lv_topE (y := 0) w_11 ?_
      refine lv_istore (lv' := [(4, .int 0), (3, .int 1), (0, .ref (ad 0)), (1, .int (nI i)), (2, .int y)]) K.hx K.hb d_M_spare_14 hl (by decide) rfl (fun ls hl => ?_)
      refine lv_aload_n K.hx K.hb d_M_spare_16 rfl (lv_at hl 2 rfl) ?_
      refine lv_iload_n K.hx K.hb d_M_spare_17 rfl (lv_at hl 1 rfl) ?_
      refine lv_iload K.hx K.hb d_M_spare_18 (lv_at hl 0 rfl) ?_
      refine lv_iload_n K.hx K.hb d_M_spare_20 rfl (lv_at hl 1 rfl) ?_
      refine lv_if_eq (tgt := 47) K.hx K.hb d_M_spare_21 (by decide) (fun c_21 => (show False from by revert c_21; decide).elim) (fun _ => ?_)
      refine lv_iload K.hx K.hb d_M_spare_24 (lv_at hl 0 rfl) ?_
      refine lv_if_eq (tgt := 47) K.hx K.hb d_M_spare_26 (by decide) (fun _ => ?_) (fun c_26 => (show False from by revert c_26; decide).elim)
      refine lv_iconst (v := 0) K.hx K.hb d_M_spare_47 (by decide) ?_
      refine dd_V K hP hS (c_M_goes l D cs ad _ _ 1 0 0) kw_751 xm_M_goes kw_748 kw_750 kw_13 (g_recv K.1.2.1 hP (0) (by decide) rfl rfl) rfl hl.1 d_M_spare_48 (Nat.le_of_ble_eq_true rfl) (Nat.le_of_ble_eq_true rfl) ⟨(Nat.le_of_ble_eq_true rfl), (Nat.le_of_ble_eq_true rfl)⟩ (fun r v1 sd1 H l1 hp hP hS => ?_)
      obtain ⟨rfl, rfl, rfl⟩ := hp
      have hgz : gz 1 0 0 = 2 := by decide
      rw [hgz] at hP
      refine lv_topE (y := 0) (by rw [hgz]; decide) ?_
      refine lv_if_ne (tgt := 56) K.hx K.hb d_M_spare_51 (by decide) (fun c_51 => (show False from by revert c_51; decide).elim) (fun _ => ?_)
      refine lv_iconst (v := 0) K.hx K.hb d_M_spare_54 (by decide) ?_
      exact de_i K hP hS (Or.inr (Or.inr (Or.inl ⟨⟨i, hi, rfl⟩, w_11, rfl, rfl, rfl⟩))) (Nat.le_of_ble_eq_true rfl) (Nat.le_of_ble_eq_true rfl) d_M_spare_55
    · refine lv_topE (y := 1) w_11 ?_
      refine lv_istore (lv' := [(4, .int 1), (3, .int 1), (0, .ref (ad 0)), (1, .int (nI i)), (2, .int y)]) K.hx K.hb d_M_spare_14 hl (by decide) rfl (fun ls hl => ?_)
      refine lv_aload_n K.hx K.hb d_M_spare_16 rfl (lv_at hl 2 rfl) ?_
      refine lv_iload_n K.hx K.hb d_M_spare_17 rfl (lv_at hl 1 rfl) ?_
      refine lv_iload K.hx K.hb d_M_spare_18 (lv_at hl 0 rfl) ?_
      refine lv_iload_n K.hx K.hb d_M_spare_20 rfl (lv_at hl 1 rfl) ?_
      refine lv_if_eq (tgt := 47) K.hx K.hb d_M_spare_21 (by decide) (fun c_21 => (show False from by revert c_21; decide).elim) (fun _ => ?_)
      refine lv_iload K.hx K.hb d_M_spare_24 (lv_at hl 0 rfl) ?_
      refine lv_if_eq (tgt := 47) K.hx K.hb d_M_spare_26 (by decide) (fun c_26 => (show False from by revert c_26; decide).elim) (fun _ => ?_)
      refine lv_aload_n K.hx K.hb d_M_spare_29 rfl (lv_at hl 2 rfl) ?_
      refine g_get K.1 hP (0) (by decide) rfl rfl i_M 22 (by decide) rfl (Or.inl kw_656) rfl d_M_spare_30 ?_
      refine lv_iload_n K.hx K.hb d_M_spare_33 rfl (lv_at hl 3 rfl) ?_
      refine g_iald K.1 hP (15) (by decide) rfl 0 rfl (i) rfl (by omega) (by decide) d_M_spare_34 ?_
      refine lv_iload_n K.hx K.hb d_M_spare_35 rfl (lv_at hl 4 rfl) ?_
      refine lv_iadd K.hx K.hb d_M_spare_36 ?_
      refine lv_sipush (v := 1000) K.hx K.hb d_M_spare_37 (by decide) ?_
      refine lv_icmp_gt (tgt := 47) K.hx K.hb d_M_spare_40 (by decide) (fun c_40 => ?_) (fun c_40 => ?_)
      · refine lv_iconst (v := 0) K.hx K.hb d_M_spare_47 (by decide) ?_
        refine dd_V K hP hS (c_M_goes l D cs ad _ _ 1 1 0) kw_751 xm_M_goes kw_748 kw_750 kw_13 (g_recv K.1.2.1 hP (0) (by decide) rfl rfl) rfl hl.1 d_M_spare_48 (Nat.le_of_ble_eq_true rfl) (Nat.le_of_ble_eq_true rfl) ⟨(Nat.le_of_ble_eq_true rfl), (Nat.le_of_ble_eq_true rfl)⟩ (fun r v1 sd1 H l1 hp hP hS => ?_)
        obtain ⟨rfl, rfl, rfl⟩ := hp
        have hgz : gz 1 1 0 = 3 := by decide
        rw [hgz] at hP
        refine lv_topE (y := 0) (by rw [hgz]; decide) ?_
        refine lv_if_ne (tgt := 56) K.hx K.hb d_M_spare_51 (by decide) (fun c_51 => (show False from by revert c_51; decide).elim) (fun _ => ?_)
        refine lv_iconst (v := 0) K.hx K.hb d_M_spare_54 (by decide) ?_
        exact de_i K hP hS (Or.inr (Or.inr (Or.inr ⟨i, hi, rfl, one_ne w_11, c_40, rfl, rfl, rfl⟩))) (Nat.le_of_ble_eq_true rfl) (Nat.le_of_ble_eq_true rfl) d_M_spare_55
      · refine lv_iconst (v := 1) K.hx K.hb d_M_spare_43 (by decide) ?_
        refine lv_goto (tgt := 48) K.hx K.hb d_M_spare_44 (by decide) ?_
        refine dd_V K hP hS (c_M_goes l D cs ad _ _ 1 1 1) kw_751 xm_M_goes kw_748 kw_750 kw_13 (g_recv K.1.2.1 hP (0) (by decide) rfl rfl) rfl hl.1 d_M_spare_48 (Nat.le_of_ble_eq_true rfl) (Nat.le_of_ble_eq_true rfl) ⟨(Nat.le_of_ble_eq_true rfl), (Nat.le_of_ble_eq_true rfl)⟩ (fun r v1 sd1 H l1 hp hP hS => ?_)
        obtain ⟨rfl, rfl, rfl⟩ := hp
        have hgz : gz 1 1 1 = 0 := by decide
        rw [hgz] at hP
        refine lv_topE (y := 1) (by rw [hgz]; decide) ?_
        refine lv_if_ne (tgt := 56) K.hx K.hb d_M_spare_51 (by decide) (fun _ => ?_) (fun c_51 => (show False from by revert c_51; decide).elim)
        refine lv_aload_n K.hx K.hb d_M_spare_56 rfl (lv_at hl 2 rfl) ?_
        refine g_get K.1 hP (0) (by decide) rfl rfl i_M 22 (by decide) rfl (Or.inl kw_656) rfl d_M_spare_57 ?_
        refine lv_iload_n K.hx K.hb d_M_spare_60 rfl (lv_at hl 3 rfl) ?_
        refine lv_aload_n K.hx K.hb d_M_spare_61 rfl (lv_at hl 2 rfl) ?_
        refine g_get K.1 hP (0) (by decide) rfl rfl i_M 22 (by decide) rfl (Or.inl kw_656) rfl d_M_spare_62 ?_
        refine lv_iload_n K.hx K.hb d_M_spare_65 rfl (lv_at hl 3 rfl) ?_
        refine g_iald K.1 hP (15) (by decide) rfl 0 rfl (i) rfl (by omega) (by decide) d_M_spare_66 ?_
        refine lv_topE (y := (v 15 i)) (by first | (simp [u2_at, kpM]; done) | (simp [u2_at, kpM] <;> (intros; omega)) | (simp only [u2_at, kpM]; (repeat' split) <;> first | rfl | (exfalso; omega))) ?_
        refine lv_iload_n K.hx K.hb d_M_spare_67 rfl (lv_at hl 4 rfl) ?_
        refine lv_iadd K.hx K.hb d_M_spare_68 ?_
        refine g_iast K.1 hP hS (15) (by decide) (fun _ => rfl) 0 rfl (i) rfl (by omega) (by decide) d_M_spare_69 (fun H l1 hP hS => ?_)
        refine lv_aload_n K.hx K.hb d_M_spare_70 rfl (lv_at hl 2 rfl) ?_
        refine g_get K.1 hP (0) (by decide) rfl rfl i_M 22 (by decide) rfl (Or.inl kw_656) rfl d_M_spare_71 ?_
        refine lv_iload_n K.hx K.hb d_M_spare_74 rfl (lv_at hl 3 rfl) ?_
        refine g_iald K.1 hP (15) (by decide) rfl 0 rfl (i) rfl (by omega) (by decide) d_M_spare_75 ?_
        refine lv_topE (y := ((v 15 i) + y)) (by first | (simp [u2_at, kpM]; done) | (simp [u2_at, kpM] <;> (intros; omega)) | (simp only [u2_at, kpM]; (repeat' split) <;> first | rfl | (exfalso; omega))) ?_
        exact de_i K hP hS (Or.inl ⟨i, hi, rfl, one_ne w_11, c_40, by simp [u2_at], rfl, rfl⟩) (Nat.le_of_ble_eq_true rfl) (Nat.le_of_ble_eq_true rfl) d_M_spare_76
  · refine lv_topE (y := 0) (wth_no4 (by omega) hx) ?_
    refine lv_istore_n (lv' := [(3, .int 0), (0, .ref (ad 0)), (1, .int x), (2, .int y)]) K.hx K.hb d_M_spare_6 rfl hl (by decide) rfl (fun ls hl => ?_)
    refine lv_iload_n K.hx K.hb d_M_spare_7 rfl (lv_at hl 3 rfl) ?_
    refine lv_iconst (v := 0) K.hx K.hb d_M_spare_8 (by decide) ?_
    refine lv_bipush (v := 100) K.hx K.hb d_M_spare_9 (by decide) ?_
    refine dd_S K hP hS (c_M_in l D cs ad _ _ y 0 100) kw_747 xm_M_in kw_745 kw_746 kw_29 rfl hl.1 d_M_spare_11 (Nat.le_of_ble_eq_true rfl) (Nat.le_of_ble_eq_true rfl) ⟨(Nat.le_of_ble_eq_true rfl), (Nat.le_of_ble_eq_true rfl)⟩ (fun r v1 sd1 H l1 hp hP hS => ?_)
    obtain ⟨rfl, rfl, rfl⟩ := hp
    rcases wth_01 y 0 100 with w_11 | w_11
    · refine lv_topE (y := 0) w_11 ?_
      refine lv_istore (lv' := [(4, .int 0), (3, .int 0), (0, .ref (ad 0)), (1, .int x), (2, .int y)]) K.hx K.hb d_M_spare_14 hl (by decide) rfl (fun ls hl => ?_)
      refine lv_aload_n K.hx K.hb d_M_spare_16 rfl (lv_at hl 2 rfl) ?_
      refine lv_iload_n K.hx K.hb d_M_spare_17 rfl (lv_at hl 1 rfl) ?_
      refine lv_iload K.hx K.hb d_M_spare_18 (lv_at hl 0 rfl) ?_
      refine lv_iload_n K.hx K.hb d_M_spare_20 rfl (lv_at hl 1 rfl) ?_
      refine lv_if_eq (tgt := 47) K.hx K.hb d_M_spare_21 (by decide) (fun _ => ?_) (fun c_21 => (show False from by revert c_21; decide).elim)
      refine lv_iconst (v := 0) K.hx K.hb d_M_spare_47 (by decide) ?_
      refine dd_V K hP hS (c_M_goes l D cs ad _ _ 0 0 0) kw_751 xm_M_goes kw_748 kw_750 kw_13 (g_recv K.1.2.1 hP (0) (by decide) rfl rfl) rfl hl.1 d_M_spare_48 (Nat.le_of_ble_eq_true rfl) (Nat.le_of_ble_eq_true rfl) ⟨(Nat.le_of_ble_eq_true rfl), (Nat.le_of_ble_eq_true rfl)⟩ (fun r v1 sd1 H l1 hp hP hS => ?_)
      obtain ⟨rfl, rfl, rfl⟩ := hp
      have hgz : gz 0 0 0 = 1 := by decide
      rw [hgz] at hP
      refine lv_topE (y := 0) (by rw [hgz]; decide) ?_
      refine lv_if_ne (tgt := 56) K.hx K.hb d_M_spare_51 (by decide) (fun c_51 => (show False from by revert c_51; decide).elim) (fun _ => ?_)
      refine lv_iconst (v := 0) K.hx K.hb d_M_spare_54 (by decide) ?_
      exact de_i K hP hS (Or.inr (Or.inl ⟨hx, rfl, rfl, rfl⟩)) (Nat.le_of_ble_eq_true rfl) (Nat.le_of_ble_eq_true rfl) d_M_spare_55
    · refine lv_topE (y := 1) w_11 ?_
      refine lv_istore (lv' := [(4, .int 1), (3, .int 0), (0, .ref (ad 0)), (1, .int x), (2, .int y)]) K.hx K.hb d_M_spare_14 hl (by decide) rfl (fun ls hl => ?_)
      refine lv_aload_n K.hx K.hb d_M_spare_16 rfl (lv_at hl 2 rfl) ?_
      refine lv_iload_n K.hx K.hb d_M_spare_17 rfl (lv_at hl 1 rfl) ?_
      refine lv_iload K.hx K.hb d_M_spare_18 (lv_at hl 0 rfl) ?_
      refine lv_iload_n K.hx K.hb d_M_spare_20 rfl (lv_at hl 1 rfl) ?_
      refine lv_if_eq (tgt := 47) K.hx K.hb d_M_spare_21 (by decide) (fun _ => ?_) (fun c_21 => (show False from by revert c_21; decide).elim)
      refine lv_iconst (v := 0) K.hx K.hb d_M_spare_47 (by decide) ?_
      refine dd_V K hP hS (c_M_goes l D cs ad _ _ 0 1 0) kw_751 xm_M_goes kw_748 kw_750 kw_13 (g_recv K.1.2.1 hP (0) (by decide) rfl rfl) rfl hl.1 d_M_spare_48 (Nat.le_of_ble_eq_true rfl) (Nat.le_of_ble_eq_true rfl) ⟨(Nat.le_of_ble_eq_true rfl), (Nat.le_of_ble_eq_true rfl)⟩ (fun r v1 sd1 H l1 hp hP hS => ?_)
      obtain ⟨rfl, rfl, rfl⟩ := hp
      have hgz : gz 0 1 0 = 1 := by decide
      rw [hgz] at hP
      refine lv_topE (y := 0) (by rw [hgz]; decide) ?_
      refine lv_if_ne (tgt := 56) K.hx K.hb d_M_spare_51 (by decide) (fun c_51 => (show False from by revert c_51; decide).elim) (fun _ => ?_)
      refine lv_iconst (v := 0) K.hx K.hb d_M_spare_54 (by decide) ?_
      exact de_i K hP hS (Or.inr (Or.inl ⟨hx, rfl, rfl, rfl⟩)) (Nat.le_of_ble_eq_true rfl) (Nat.le_of_ble_eq_true rfl) d_M_spare_55
end
section
/-! the reference's search: its steps -/
def ltZ (x y : Int32) : Int32 := if x ≤ y then y else x
def bgH (v : Nat → Nat → Int32) (i g q t : Nat) : Int32 := ltZ (ltZ (v 6 g) (v 9 q)) (ltZ (v 18 (4 * i + q)) (v 19 (8 * i + t)))
def begM (v : Nat → Nat → Int32) (i g q t : Nat) : Int32 := if v 8 q = v 13 i then (if v 7 g < bgH v i g q t + v 12 i then -1 else if v 10 q < bgH v i g q t + v 12 i then -1 else bgH v i g q t) else -1
set_option maxHeartbeats 4000000 in
set_option maxRecDepth 100000 in
theorem c_M_begins (l : Launch) (D : va_G) (cs : Nat → ClassId) (ad : Nat → Nat) (v : Nat → Nat → Int32) (sd : Int64) {i g q t : Nat} (hi : i < 5) (hg : g < 6) (hq : q < 4) (ht : t < 8) (ht0 : v 11 i = nI t)  : Dm l y_M_begins b_M_begins 5 (some .int) (rmx 1 0) [.ref (ad 0), .int (nI i), .int (nI g), .int (nI q)] D cs ad v sd (fun r v' sd' => r = some (.int (begM v i g q t)) ∧ v = v' ∧ sd = sd') (fun cls => False) := by
  refine dw_enter (own := "WearHoursModel") rfl (Nat.le_of_ble_eq_true rfl) ?_
  intro p e s m below meth c ls K hS hP hl
  have hl : lv_has ls 5 [(0, .ref (ad 0)), (1, .int (nI i)), (2, .int (nI g)), (3, .int (nI q))] := hl
  refine lv_aload_n K.hx K.hb d_M_begins_0 rfl (lv_at hl 0 rfl) ?_
  refine g_get K.1 hP (0) (by decide) rfl rfl i_M 12 (by decide) rfl (Or.inl kw_646) rfl d_M_begins_1 ?_
  refine lv_iload_n K.hx K.hb d_M_begins_4 rfl (lv_at hl 3 rfl) ?_
  refine g_iald K.1 hP (8) (by decide) rfl 0 rfl (q) rfl (by omega) (by decide) d_M_begins_5 ?_
  refine lv_aload_n K.hx K.hb d_M_begins_6 rfl (lv_at hl 0 rfl) ?_
  refine g_get K.1 hP (0) (by decide) rfl rfl i_M 18 (by decide) rfl (Or.inl kw_652) rfl d_M_begins_7 ?_
  refine lv_iload_n K.hx K.hb d_M_begins_10 rfl (lv_at hl 1 rfl) ?_
  refine g_iald K.1 hP (13) (by decide) rfl 0 rfl (i) rfl (by omega) (by decide) d_M_begins_11 ?_
  refine lv_icmp_eq (tgt := 17) K.hx K.hb d_M_begins_12 (by decide) (fun c_12 => ?_) (fun c_12 => ?_)
  · refine lv_aload_n K.hx K.hb d_M_begins_17 rfl (lv_at hl 0 rfl) ?_
    refine g_get K.1 hP (0) (by decide) rfl rfl i_M 9 (by decide) rfl (Or.inl kw_643) rfl d_M_begins_18 ?_
    refine lv_iload_n K.hx K.hb d_M_begins_21 rfl (lv_at hl 2 rfl) ?_
    refine g_iald K.1 hP (6) (by decide) rfl 0 rfl (g) rfl (by omega) (by decide) d_M_begins_22 ?_
    refine lv_aload_n K.hx K.hb d_M_begins_23 rfl (lv_at hl 0 rfl) ?_
    refine g_get K.1 hP (0) (by decide) rfl rfl i_M 13 (by decide) rfl (Or.inl kw_647) rfl d_M_begins_24 ?_
    refine lv_iload_n K.hx K.hb d_M_begins_27 rfl (lv_at hl 3 rfl) ?_
    refine g_iald K.1 hP (9) (by decide) rfl 0 rfl (q) rfl (by omega) (by decide) d_M_begins_28 ?_
    refine dd_S K hP hS (c_M_later l D cs ad _ _ (v 6 g) (v 9 q)) kw_825 xm_M_later kw_823 kw_824 kw_29 rfl hl.1 d_M_begins_29 (Nat.le_of_ble_eq_true rfl) (Nat.le_of_ble_eq_true rfl) ⟨(Nat.le_of_ble_eq_true rfl), (Nat.le_of_ble_eq_true rfl)⟩ (fun r v1 sd1 H l1 hp hP hS => ?_)
    obtain ⟨rfl, rfl, rfl⟩ := hp
    refine lv_aload_n K.hx K.hb d_M_begins_32 rfl (lv_at hl 0 rfl) ?_
    refine g_get K.1 hP (0) (by decide) rfl rfl i_M 27 (by decide) rfl (Or.inl kw_661) rfl d_M_begins_33 ?_
    refine lv_iconst (v := 4) K.hx K.hb d_M_begins_36 (by decide) ?_
    refine lv_iload_n K.hx K.hb d_M_begins_37 rfl (lv_at hl 1 rfl) ?_
    refine lv_imul K.hx K.hb d_M_begins_38 ?_
    refine lv_topE (y := nI (4 * i)) (pk_mul _ _) ?_
    refine lv_iload_n K.hx K.hb d_M_begins_39 rfl (lv_at hl 3 rfl) ?_
    refine lv_iadd K.hx K.hb d_M_begins_40 ?_
    refine lv_topE (y := nI (4 * i + q)) (nI_add _ _) ?_
    refine g_iald K.1 hP (18) (by decide) rfl 0 rfl (4 * i + q) rfl (by omega) (by decide) d_M_begins_41 ?_
    refine lv_aload_n K.hx K.hb d_M_begins_42 rfl (lv_at hl 0 rfl) ?_
    refine g_get K.1 hP (0) (by decide) rfl rfl i_M 28 (by decide) rfl (Or.inl kw_662) rfl d_M_begins_43 ?_
    refine lv_bipush (v := 8) K.hx K.hb d_M_begins_46 (by decide) ?_
    refine lv_iload_n K.hx K.hb d_M_begins_48 rfl (lv_at hl 1 rfl) ?_
    refine lv_imul K.hx K.hb d_M_begins_49 ?_
    refine lv_topE (y := nI (8 * i)) (pk_mul _ _) ?_
    refine lv_aload_n K.hx K.hb d_M_begins_50 rfl (lv_at hl 0 rfl) ?_
    refine g_get K.1 hP (0) (by decide) rfl rfl i_M 16 (by decide) rfl (Or.inl kw_650) rfl d_M_begins_51 ?_
    refine lv_iload_n K.hx K.hb d_M_begins_54 rfl (lv_at hl 1 rfl) ?_
    refine g_iald K.1 hP (11) (by decide) rfl 0 rfl (i) rfl (by omega) (by decide) d_M_begins_55 ?_
    refine lv_topE (y := nI t) ht0 ?_
    refine lv_iadd K.hx K.hb d_M_begins_56 ?_
    refine lv_topE (y := nI (8 * i + t)) (nI_add _ _) ?_
    refine g_iald K.1 hP (19) (by decide) rfl 0 rfl (8 * i + t) rfl (by omega) (by decide) d_M_begins_57 ?_
    refine dd_S K hP hS (c_M_later l D cs ad _ _ (v 18 (4 * i + q)) (v 19 (8 * i + t))) kw_825 xm_M_later kw_823 kw_824 kw_29 rfl hl.1 d_M_begins_58 (Nat.le_of_ble_eq_true rfl) (Nat.le_of_ble_eq_true rfl) ⟨(Nat.le_of_ble_eq_true rfl), (Nat.le_of_ble_eq_true rfl)⟩ (fun r v1 sd1 H l1 hp hP hS => ?_)
    obtain ⟨rfl, rfl, rfl⟩ := hp
    refine dd_S K hP hS (c_M_later l D cs ad _ _ (if (v 6 g) ≤ (v 9 q) then (v 9 q) else (v 6 g)) (if (v 18 (4 * i + q)) ≤ (v 19 (8 * i + t)) then (v 19 (8 * i + t)) else (v 18 (4 * i + q)))) kw_825 xm_M_later kw_823 kw_824 kw_29 rfl hl.1 d_M_begins_61 (Nat.le_of_ble_eq_true rfl) (Nat.le_of_ble_eq_true rfl) ⟨(Nat.le_of_ble_eq_true rfl), (Nat.le_of_ble_eq_true rfl)⟩ (fun r v1 sd1 H l1 hp hP hS => ?_)
    obtain ⟨rfl, rfl, rfl⟩ := hp
    refine lv_topi (fun z1 ez1 => ?_)
    refine lv_istore (lv' := [(4, .int z1), (0, .ref (ad 0)), (1, .int (nI i)), (2, .int (nI g)), (3, .int (nI q))]) K.hx K.hb d_M_begins_64 hl (by decide) rfl (fun ls hl => ?_)
    refine lv_iload K.hx K.hb d_M_begins_66 (lv_at hl 0 rfl) ?_
    refine lv_aload_n K.hx K.hb d_M_begins_68 rfl (lv_at hl 1 rfl) ?_
    refine g_get K.1 hP (0) (by decide) rfl rfl i_M 17 (by decide) rfl (Or.inl kw_651) rfl d_M_begins_69 ?_
    refine lv_iload_n K.hx K.hb d_M_begins_72 rfl (lv_at hl 2 rfl) ?_
    refine g_iald K.1 hP (12) (by decide) rfl 0 rfl (i) rfl (by omega) (by decide) d_M_begins_73 ?_
    refine lv_iadd K.hx K.hb d_M_begins_74 ?_
    refine lv_aload_n K.hx K.hb d_M_begins_75 rfl (lv_at hl 1 rfl) ?_
    refine g_get K.1 hP (0) (by decide) rfl rfl i_M 10 (by decide) rfl (Or.inl kw_644) rfl d_M_begins_76 ?_
    refine lv_iload_n K.hx K.hb d_M_begins_79 rfl (lv_at hl 3 rfl) ?_
    refine g_iald K.1 hP (7) (by decide) rfl 0 rfl (g) rfl (by omega) (by decide) d_M_begins_80 ?_
    refine lv_icmp_gt (tgt := 107) K.hx K.hb d_M_begins_81 (by decide) (fun c_81 => ?_) (fun c_81 => ?_)
    · refine lv_iconst (v := (-1)) K.hx K.hb d_M_begins_107 (by decide) ?_
      exact de_i K hP hS ⟨by rw [show begM v i g q t = (-1) from by subst ez1; exact (if_pos c_12).trans (if_pos c_81)], rfl, rfl⟩ (Nat.le_of_ble_eq_true rfl) (Nat.le_of_ble_eq_true rfl) d_M_begins_108
    · refine lv_iload K.hx K.hb d_M_begins_84 (lv_at hl 0 rfl) ?_
      refine lv_aload_n K.hx K.hb d_M_begins_86 rfl (lv_at hl 1 rfl) ?_
      refine g_get K.1 hP (0) (by decide) rfl rfl i_M 17 (by decide) rfl (Or.inl kw_651) rfl d_M_begins_87 ?_
      refine lv_iload_n K.hx K.hb d_M_begins_90 rfl (lv_at hl 2 rfl) ?_
      refine g_iald K.1 hP (12) (by decide) rfl 0 rfl (i) rfl (by omega) (by decide) d_M_begins_91 ?_
      refine lv_iadd K.hx K.hb d_M_begins_92 ?_
      refine lv_aload_n K.hx K.hb d_M_begins_93 rfl (lv_at hl 1 rfl) ?_
      refine g_get K.1 hP (0) (by decide) rfl rfl i_M 14 (by decide) rfl (Or.inl kw_648) rfl d_M_begins_94 ?_
      refine lv_iload_n K.hx K.hb d_M_begins_97 rfl (lv_at hl 4 rfl) ?_
      refine g_iald K.1 hP (10) (by decide) rfl 0 rfl (q) rfl (by omega) (by decide) d_M_begins_98 ?_
      refine lv_icmp_gt (tgt := 107) K.hx K.hb d_M_begins_99 (by decide) (fun c_99 => ?_) (fun c_99 => ?_)
      · refine lv_iconst (v := (-1)) K.hx K.hb d_M_begins_107 (by decide) ?_
        exact de_i K hP hS ⟨by rw [show begM v i g q t = (-1) from by subst ez1; exact (if_pos c_12).trans ((if_neg c_81).trans (if_pos c_99))], rfl, rfl⟩ (Nat.le_of_ble_eq_true rfl) (Nat.le_of_ble_eq_true rfl) d_M_begins_108
      · refine lv_iload K.hx K.hb d_M_begins_102 (lv_at hl 0 rfl) ?_
        refine lv_goto (tgt := 108) K.hx K.hb d_M_begins_104 (by decide) ?_
        exact de_i K hP hS ⟨by rw [show begM v i g q t = z1 from by subst ez1; exact (if_pos c_12).trans ((if_neg c_81).trans (if_neg c_99))], rfl, rfl⟩ (Nat.le_of_ble_eq_true rfl) (Nat.le_of_ble_eq_true rfl) d_M_begins_108
  · refine lv_iconst (v := (-1)) K.hx K.hb d_M_begins_15 (by decide) ?_
    exact de_i K hP hS ⟨by rw [show begM v i g q t = -1 from if_neg c_12], rfl, rfl⟩ (Nat.le_of_ble_eq_true rfl) (Nat.le_of_ble_eq_true rfl) d_M_begins_16
def cpM (v : Nat → Nat → Int32) (i : Nat) : Nat → Nat → Int32 := fun k j => if k = 18 ∧ 4 * (i + 1) ≤ j ∧ j < 4 * (i + 1) + 4 then v 18 (j - 4) else if k = 19 ∧ 8 * (i + 1) ≤ j ∧ j < 8 * (i + 1) + 8 then v 19 (j - 8) else v k j
set_option maxHeartbeats 4000000 in
theorem cpM_eq (v : Nat → Nat → Int32) (i : Nat) : u2 (u2 (u2 (u2 (u2 (u2 (u2 (u2 (u2 (u2 (u2 (u2 v 18 (4 * (i + 1) + 0) (v 18 (4 * i + 0))) 18 (4 * (i + 1) + 1) (v 18 (4 * i + 1))) 18 (4 * (i + 1) + 2) (v 18 (4 * i + 2))) 18 (4 * (i + 1) + 3) (v 18 (4 * i + 3))) 19 (8 * (i + 1) + 0) (v 19 (8 * i + 0))) 19 (8 * (i + 1) + 1) (v 19 (8 * i + 1))) 19 (8 * (i + 1) + 2) (v 19 (8 * i + 2))) 19 (8 * (i + 1) + 3) (v 19 (8 * i + 3))) 19 (8 * (i + 1) + 4) (v 19 (8 * i + 4))) 19 (8 * (i + 1) + 5) (v 19 (8 * i + 5))) 19 (8 * (i + 1) + 6) (v 19 (8 * i + 6))) 19 (8 * (i + 1) + 7) (v 19 (8 * i + 7)) = cpM v i := by
  funext k j
  simp only [u2_at, cpM]
  by_cases h1 : k = 18
  · subst h1
    by_cases h2 : 4 * (i + 1) ≤ j ∧ j < 4 * (i + 1) + 4
    · rw [if_pos (show (18 : Nat) = 18 ∧ 4 * (i + 1) ≤ j ∧ j < 4 * (i + 1) + 4 from ⟨rfl, h2⟩)]
      rcases (show j = 4 * (i + 1) + 0 ∨ j = 4 * (i + 1) + 1 ∨ j = 4 * (i + 1) + 2 ∨ j = 4 * (i + 1) + 3 by omega) with rfl | rfl | rfl | rfl
      · rw [show 4 * (i + 1) + 0 - 4 = 4 * i + 0 by omega]; simp
      · rw [show 4 * (i + 1) + 1 - 4 = 4 * i + 1 by omega]; simp
      · rw [show 4 * (i + 1) + 2 - 4 = 4 * i + 2 by omega]; simp
      · rw [show 4 * (i + 1) + 3 - 4 = 4 * i + 3 by omega]; simp
    · rw [if_neg (show ¬ ((18 : Nat) = 18 ∧ 4 * (i + 1) ≤ j ∧ j < 4 * (i + 1) + 4) from fun q => h2 q.2)]
      rw [if_neg (by omega), if_neg (by omega), if_neg (by omega), if_neg (by omega), if_neg (by omega), if_neg (by omega), if_neg (by omega), if_neg (by omega), if_neg (by omega), if_neg (by omega), if_neg (by omega), if_neg (by omega), if_neg (by omega)]
  · by_cases h3 : k = 19
    · subst h3
      rw [if_neg (show ¬ ((19 : Nat) = 18 ∧ 4 * (i + 1) ≤ j ∧ j < 4 * (i + 1) + 4) from fun q => absurd q.1 (by decide))]
      by_cases h2 : 8 * (i + 1) ≤ j ∧ j < 8 * (i + 1) + 8
      · rw [if_pos (show (19 : Nat) = 19 ∧ 8 * (i + 1) ≤ j ∧ j < 8 * (i + 1) + 8 from ⟨rfl, h2⟩)]
        rcases (show j = 8 * (i + 1) + 0 ∨ j = 8 * (i + 1) + 1 ∨ j = 8 * (i + 1) + 2 ∨ j = 8 * (i + 1) + 3 ∨ j = 8 * (i + 1) + 4 ∨ j = 8 * (i + 1) + 5 ∨ j = 8 * (i + 1) + 6 ∨ j = 8 * (i + 1) + 7 by omega) with rfl | rfl | rfl | rfl | rfl | rfl | rfl | rfl
        · rw [show 8 * (i + 1) + 0 - 8 = 8 * i + 0 by omega]; simp
        · rw [show 8 * (i + 1) + 1 - 8 = 8 * i + 1 by omega]; simp
        · rw [show 8 * (i + 1) + 2 - 8 = 8 * i + 2 by omega]; simp
        · rw [show 8 * (i + 1) + 3 - 8 = 8 * i + 3 by omega]; simp
        · rw [show 8 * (i + 1) + 4 - 8 = 8 * i + 4 by omega]; simp
        · rw [show 8 * (i + 1) + 5 - 8 = 8 * i + 5 by omega]; simp
        · rw [show 8 * (i + 1) + 6 - 8 = 8 * i + 6 by omega]; simp
        · rw [show 8 * (i + 1) + 7 - 8 = 8 * i + 7 by omega]; simp
      · rw [if_neg (show ¬ ((19 : Nat) = 19 ∧ 8 * (i + 1) ≤ j ∧ j < 8 * (i + 1) + 8) from fun q => h2 q.2)]
        rw [if_neg (by omega), if_neg (by omega), if_neg (by omega), if_neg (by omega), if_neg (by omega), if_neg (by omega), if_neg (by omega), if_neg (by omega), if_neg (by omega), if_neg (by omega), if_neg (by omega), if_neg (by omega)]
    · simp [h1, h3]
def tkM (v : Nat → Nat → Int32) (i c pc t : Nat) : Nat → Nat → Int32 := if 0 ≤ v 22 i then u2 (u2 (u2 (cpM v i) 20 (i + 1) (v 20 i + v 22 i * v 14 i)) 18 (4 * (i + 1) + c % pc) (v 22 i + v 12 i + v 0 20)) 19 (8 * (i + 1) + t) (v 22 i + v 12 i)
  else u2 (cpM v i) 20 (i + 1) (v 20 i + 168 * v 14 i + v 0 21)
set_option maxHeartbeats 4000000 in
set_option maxRecDepth 100000 in
theorem c_M_take (l : Launch) (D : va_G) (cs : Nat → ClassId) (ad : Nat → Nat) (v : Nat → Nat → Int32) (sd : Int64) {i t c_ pc : Nat} (hi : i < 5) (ht : t < 8) (ht0 : v 11 i = nI t) (hc : v 21 i = nI c_) (hcb : c_ < 1000) (hpc : v 0 11 = nI pc) (hp4 : pc ≤ 4) (hpp : 0 ≤ v 22 i → 0 < pc)  : Dm l y_M_take b_M_take 3 none (rmx 1 0) [.ref (ad 0), .int (nI i)] D cs ad v sd (fun r v' sd' => r = none ∧ tkM v i c_ pc t = v' ∧ sd = sd') (fun cls => False) := by
  refine dw_enter (own := "WearHoursModel") rfl (Nat.le_of_ble_eq_true rfl) ?_
  intro p e s m below meth c ls K hS hP hl
  have hl : lv_has ls 3 [(0, .ref (ad 0)), (1, .int (nI i))] := hl
  refine lv_iconst (v := 0) K.hx K.hb d_M_take_0 (by decide) ?_
  refine lv_istore_n (lv' := [(2, .int 0), (0, .ref (ad 0)), (1, .int (nI i))]) K.hx K.hb d_M_take_1 rfl hl (by decide) rfl (fun ls hl => ?_)
  refine lv_iload_n K.hx K.hb d_M_take_2 rfl (lv_at hl 0 rfl) ?_
  refine lv_iconst (v := 4) K.hx K.hb d_M_take_3 (by decide) ?_
  refine lv_icmp_ge (tgt := 35) K.hx K.hb d_M_take_4 (by decide) (fun c_4 => (show False from by revert c_4; decide).elim) (fun _ => ?_)
  refine lv_aload_n K.hx K.hb d_M_take_7 rfl (lv_at hl 1 rfl) ?_
  refine g_get K.1 hP (0) (by decide) rfl rfl i_M 27 (by decide) rfl (Or.inl kw_661) rfl d_M_take_8 ?_
  refine lv_iconst (v := 4) K.hx K.hb d_M_take_11 (by decide) ?_
  refine lv_iload_n K.hx K.hb d_M_take_12 rfl (lv_at hl 2 rfl) ?_
  refine lv_iconst (v := 1) K.hx K.hb d_M_take_13 (by decide) ?_
  refine lv_iadd K.hx K.hb d_M_take_14 ?_
  refine lv_topE (y := nI (i + 1)) (nI_add _ _) ?_
  refine lv_imul K.hx K.hb d_M_take_15 ?_
  refine lv_topE (y := nI (4 * (i + 1))) (pk_mul _ _) ?_
  refine lv_iload_n K.hx K.hb d_M_take_16 rfl (lv_at hl 0 rfl) ?_
  refine lv_iadd K.hx K.hb d_M_take_17 ?_
  refine lv_topE (y := nI ((4 * (i + 1)) + 0)) (nI_add _ _) ?_
  refine lv_aload_n K.hx K.hb d_M_take_18 rfl (lv_at hl 1 rfl) ?_
  refine g_get K.1 hP (0) (by decide) rfl rfl i_M 27 (by decide) rfl (Or.inl kw_661) rfl d_M_take_19 ?_
  refine lv_iconst (v := 4) K.hx K.hb d_M_take_22 (by decide) ?_
  refine lv_iload_n K.hx K.hb d_M_take_23 rfl (lv_at hl 2 rfl) ?_
  refine lv_imul K.hx K.hb d_M_take_24 ?_
  refine lv_topE (y := nI (4 * i)) (pk_mul _ _) ?_
  refine lv_iload_n K.hx K.hb d_M_take_25 rfl (lv_at hl 0 rfl) ?_
  refine lv_iadd K.hx K.hb d_M_take_26 ?_
  refine lv_topE (y := nI (4 * i + 0)) (nI_add _ _) ?_
  refine g_iald K.1 hP (18) (by decide) rfl 0 rfl (4 * i + 0) rfl (by omega) (by decide) d_M_take_27 ?_
  refine g_iast K.1 hP hS (18) (by decide) (fun _ => rfl) 0 rfl ((4 * (i + 1)) + 0) rfl (by omega) (by decide) d_M_take_28 (fun H l1 hP hS => ?_)
  refine lv_iinc (v := 1) (lv' := [(2, .int 1), (0, .ref (ad 0)), (1, .int (nI i))]) K.hx K.hb d_M_take_29 hl (k := 0) rfl (by decide) (by decide) rfl (fun ls hl => ?_)
  refine lv_goto (tgt := 2) K.hx K.hb d_M_take_32 (by decide) ?_
  refine lv_iload_n K.hx K.hb d_M_take_2 rfl (lv_at hl 0 rfl) ?_
  refine lv_iconst (v := 4) K.hx K.hb d_M_take_3 (by decide) ?_
  refine lv_icmp_ge (tgt := 35) K.hx K.hb d_M_take_4 (by decide) (fun c_4_1 => (show False from by revert c_4_1; decide).elim) (fun _ => ?_)
  refine lv_aload_n K.hx K.hb d_M_take_7 rfl (lv_at hl 1 rfl) ?_
  refine g_get K.1 hP (0) (by decide) rfl rfl i_M 27 (by decide) rfl (Or.inl kw_661) rfl d_M_take_8 ?_
  refine lv_iconst (v := 4) K.hx K.hb d_M_take_11 (by decide) ?_
  refine lv_iload_n K.hx K.hb d_M_take_12 rfl (lv_at hl 2 rfl) ?_
  refine lv_iconst (v := 1) K.hx K.hb d_M_take_13 (by decide) ?_
  refine lv_iadd K.hx K.hb d_M_take_14 ?_
  refine lv_topE (y := nI (i + 1)) (nI_add _ _) ?_
  refine lv_imul K.hx K.hb d_M_take_15 ?_
  refine lv_topE (y := nI (4 * (i + 1))) (pk_mul _ _) ?_
  refine lv_iload_n K.hx K.hb d_M_take_16 rfl (lv_at hl 0 rfl) ?_
  refine lv_iadd K.hx K.hb d_M_take_17 ?_
  refine lv_topE (y := nI ((4 * (i + 1)) + 1)) (nI_add _ _) ?_
  refine lv_aload_n K.hx K.hb d_M_take_18 rfl (lv_at hl 1 rfl) ?_
  refine g_get K.1 hP (0) (by decide) rfl rfl i_M 27 (by decide) rfl (Or.inl kw_661) rfl d_M_take_19 ?_
  refine lv_iconst (v := 4) K.hx K.hb d_M_take_22 (by decide) ?_
  refine lv_iload_n K.hx K.hb d_M_take_23 rfl (lv_at hl 2 rfl) ?_
  refine lv_imul K.hx K.hb d_M_take_24 ?_
  refine lv_topE (y := nI (4 * i)) (pk_mul _ _) ?_
  refine lv_iload_n K.hx K.hb d_M_take_25 rfl (lv_at hl 0 rfl) ?_
  refine lv_iadd K.hx K.hb d_M_take_26 ?_
  refine lv_topE (y := nI (4 * i + 1)) (nI_add _ _) ?_
  refine g_iald K.1 hP (18) (by decide) rfl 0 rfl (4 * i + 1) rfl (by omega) (by decide) d_M_take_27 ?_
  refine lv_topE (y := (v 18 (4 * i + 1))) (by first | (simp [u2_at, cpM]; done) | (simp only [u2_at, cpM]; repeat (rw [if_neg (by omega)])) | (simp [u2_at, cpM] <;> (intros; omega))) ?_
  refine g_iast K.1 hP hS (18) (by decide) (fun _ => rfl) 0 rfl ((4 * (i + 1)) + 1) rfl (by omega) (by decide) d_M_take_28 (fun H l1 hP hS => ?_)
  refine lv_iinc (v := 2) (lv' := [(2, .int 2), (0, .ref (ad 0)), (1, .int (nI i))]) K.hx K.hb d_M_take_29 hl (k := 0) rfl (by decide) (by decide) rfl (fun ls hl => ?_)
  refine lv_goto (tgt := 2) K.hx K.hb d_M_take_32 (by decide) ?_
  refine lv_iload_n K.hx K.hb d_M_take_2 rfl (lv_at hl 0 rfl) ?_
  refine lv_iconst (v := 4) K.hx K.hb d_M_take_3 (by decide) ?_
  refine lv_icmp_ge (tgt := 35) K.hx K.hb d_M_take_4 (by decide) (fun c_4_2 => (show False from by revert c_4_2; decide).elim) (fun _ => ?_)
  refine lv_aload_n K.hx K.hb d_M_take_7 rfl (lv_at hl 1 rfl) ?_
  refine g_get K.1 hP (0) (by decide) rfl rfl i_M 27 (by decide) rfl (Or.inl kw_661) rfl d_M_take_8 ?_
  refine lv_iconst (v := 4) K.hx K.hb d_M_take_11 (by decide) ?_
  refine lv_iload_n K.hx K.hb d_M_take_12 rfl (lv_at hl 2 rfl) ?_
  refine lv_iconst (v := 1) K.hx K.hb d_M_take_13 (by decide) ?_
  refine lv_iadd K.hx K.hb d_M_take_14 ?_
  refine lv_topE (y := nI (i + 1)) (nI_add _ _) ?_
  refine lv_imul K.hx K.hb d_M_take_15 ?_
  refine lv_topE (y := nI (4 * (i + 1))) (pk_mul _ _) ?_
  refine lv_iload_n K.hx K.hb d_M_take_16 rfl (lv_at hl 0 rfl) ?_
  refine lv_iadd K.hx K.hb d_M_take_17 ?_
  refine lv_topE (y := nI ((4 * (i + 1)) + 2)) (nI_add _ _) ?_
  refine lv_aload_n K.hx K.hb d_M_take_18 rfl (lv_at hl 1 rfl) ?_
  refine g_get K.1 hP (0) (by decide) rfl rfl i_M 27 (by decide) rfl (Or.inl kw_661) rfl d_M_take_19 ?_
  refine lv_iconst (v := 4) K.hx K.hb d_M_take_22 (by decide) ?_
  refine lv_iload_n K.hx K.hb d_M_take_23 rfl (lv_at hl 2 rfl) ?_
  refine lv_imul K.hx K.hb d_M_take_24 ?_
  refine lv_topE (y := nI (4 * i)) (pk_mul _ _) ?_
  refine lv_iload_n K.hx K.hb d_M_take_25 rfl (lv_at hl 0 rfl) ?_
  refine lv_iadd K.hx K.hb d_M_take_26 ?_
  refine lv_topE (y := nI (4 * i + 2)) (nI_add _ _) ?_
  refine g_iald K.1 hP (18) (by decide) rfl 0 rfl (4 * i + 2) rfl (by omega) (by decide) d_M_take_27 ?_
  refine lv_topE (y := (v 18 (4 * i + 2))) (by first | (simp [u2_at, cpM]; done) | (simp only [u2_at, cpM]; repeat (rw [if_neg (by omega)])) | (simp [u2_at, cpM] <;> (intros; omega))) ?_
  refine g_iast K.1 hP hS (18) (by decide) (fun _ => rfl) 0 rfl ((4 * (i + 1)) + 2) rfl (by omega) (by decide) d_M_take_28 (fun H l1 hP hS => ?_)
  refine lv_iinc (v := 3) (lv' := [(2, .int 3), (0, .ref (ad 0)), (1, .int (nI i))]) K.hx K.hb d_M_take_29 hl (k := 0) rfl (by decide) (by decide) rfl (fun ls hl => ?_)
  refine lv_goto (tgt := 2) K.hx K.hb d_M_take_32 (by decide) ?_
  refine lv_iload_n K.hx K.hb d_M_take_2 rfl (lv_at hl 0 rfl) ?_
  refine lv_iconst (v := 4) K.hx K.hb d_M_take_3 (by decide) ?_
  refine lv_icmp_ge (tgt := 35) K.hx K.hb d_M_take_4 (by decide) (fun c_4_3 => (show False from by revert c_4_3; decide).elim) (fun _ => ?_)
  refine lv_aload_n K.hx K.hb d_M_take_7 rfl (lv_at hl 1 rfl) ?_
  refine g_get K.1 hP (0) (by decide) rfl rfl i_M 27 (by decide) rfl (Or.inl kw_661) rfl d_M_take_8 ?_
  refine lv_iconst (v := 4) K.hx K.hb d_M_take_11 (by decide) ?_
  refine lv_iload_n K.hx K.hb d_M_take_12 rfl (lv_at hl 2 rfl) ?_
  refine lv_iconst (v := 1) K.hx K.hb d_M_take_13 (by decide) ?_
  refine lv_iadd K.hx K.hb d_M_take_14 ?_
  refine lv_topE (y := nI (i + 1)) (nI_add _ _) ?_
  refine lv_imul K.hx K.hb d_M_take_15 ?_
  refine lv_topE (y := nI (4 * (i + 1))) (pk_mul _ _) ?_
  refine lv_iload_n K.hx K.hb d_M_take_16 rfl (lv_at hl 0 rfl) ?_
  refine lv_iadd K.hx K.hb d_M_take_17 ?_
  refine lv_topE (y := nI ((4 * (i + 1)) + 3)) (nI_add _ _) ?_
  refine lv_aload_n K.hx K.hb d_M_take_18 rfl (lv_at hl 1 rfl) ?_
  refine g_get K.1 hP (0) (by decide) rfl rfl i_M 27 (by decide) rfl (Or.inl kw_661) rfl d_M_take_19 ?_
  refine lv_iconst (v := 4) K.hx K.hb d_M_take_22 (by decide) ?_
  refine lv_iload_n K.hx K.hb d_M_take_23 rfl (lv_at hl 2 rfl) ?_
  refine lv_imul K.hx K.hb d_M_take_24 ?_
  refine lv_topE (y := nI (4 * i)) (pk_mul _ _) ?_
  refine lv_iload_n K.hx K.hb d_M_take_25 rfl (lv_at hl 0 rfl) ?_
  refine lv_iadd K.hx K.hb d_M_take_26 ?_
  refine lv_topE (y := nI (4 * i + 3)) (nI_add _ _) ?_
  refine g_iald K.1 hP (18) (by decide) rfl 0 rfl (4 * i + 3) rfl (by omega) (by decide) d_M_take_27 ?_
  refine lv_topE (y := (v 18 (4 * i + 3))) (by first | (simp [u2_at, cpM]; done) | (simp only [u2_at, cpM]; repeat (rw [if_neg (by omega)])) | (simp [u2_at, cpM] <;> (intros; omega))) ?_
  refine g_iast K.1 hP hS (18) (by decide) (fun _ => rfl) 0 rfl ((4 * (i + 1)) + 3) rfl (by omega) (by decide) d_M_take_28 (fun H l1 hP hS => ?_)
  refine lv_iinc (v := 4) (lv' := [(2, .int 4), (0, .ref (ad 0)), (1, .int (nI i))]) K.hx K.hb d_M_take_29 hl (k := 0) rfl (by decide) (by decide) rfl (fun ls hl => ?_)
  refine lv_goto (tgt := 2) K.hx K.hb d_M_take_32 (by decide) ?_
  refine lv_iload_n K.hx K.hb d_M_take_2 rfl (lv_at hl 0 rfl) ?_
  refine lv_iconst (v := 4) K.hx K.hb d_M_take_3 (by decide) ?_
  refine lv_icmp_ge (tgt := 35) K.hx K.hb d_M_take_4 (by decide) (fun _ => ?_) (fun c_4_4 => (show False from by revert c_4_4; decide).elim)
  refine lv_iconst (v := 0) K.hx K.hb d_M_take_35 (by decide) ?_
  refine lv_istore_n (lv' := [(2, .int 0), (0, .ref (ad 0)), (1, .int (nI i))]) K.hx K.hb d_M_take_36 rfl hl (by decide) rfl (fun ls hl => ?_)
  refine lv_iload_n K.hx K.hb d_M_take_37 rfl (lv_at hl 0 rfl) ?_
  refine lv_bipush (v := 8) K.hx K.hb d_M_take_38 (by decide) ?_
  refine lv_icmp_ge (tgt := 73) K.hx K.hb d_M_take_40 (by decide) (fun c_40 => (show False from by revert c_40; decide).elim) (fun _ => ?_)
  refine lv_aload_n K.hx K.hb d_M_take_43 rfl (lv_at hl 1 rfl) ?_
  refine g_get K.1 hP (0) (by decide) rfl rfl i_M 28 (by decide) rfl (Or.inl kw_662) rfl d_M_take_44 ?_
  refine lv_bipush (v := 8) K.hx K.hb d_M_take_47 (by decide) ?_
  refine lv_iload_n K.hx K.hb d_M_take_49 rfl (lv_at hl 2 rfl) ?_
  refine lv_iconst (v := 1) K.hx K.hb d_M_take_50 (by decide) ?_
  refine lv_iadd K.hx K.hb d_M_take_51 ?_
  refine lv_topE (y := nI (i + 1)) (nI_add _ _) ?_
  refine lv_imul K.hx K.hb d_M_take_52 ?_
  refine lv_topE (y := nI (8 * (i + 1))) (pk_mul _ _) ?_
  refine lv_iload_n K.hx K.hb d_M_take_53 rfl (lv_at hl 0 rfl) ?_
  refine lv_iadd K.hx K.hb d_M_take_54 ?_
  refine lv_topE (y := nI ((8 * (i + 1)) + 0)) (nI_add _ _) ?_
  refine lv_aload_n K.hx K.hb d_M_take_55 rfl (lv_at hl 1 rfl) ?_
  refine g_get K.1 hP (0) (by decide) rfl rfl i_M 28 (by decide) rfl (Or.inl kw_662) rfl d_M_take_56 ?_
  refine lv_bipush (v := 8) K.hx K.hb d_M_take_59 (by decide) ?_
  refine lv_iload_n K.hx K.hb d_M_take_61 rfl (lv_at hl 2 rfl) ?_
  refine lv_imul K.hx K.hb d_M_take_62 ?_
  refine lv_topE (y := nI (8 * i)) (pk_mul _ _) ?_
  refine lv_iload_n K.hx K.hb d_M_take_63 rfl (lv_at hl 0 rfl) ?_
  refine lv_iadd K.hx K.hb d_M_take_64 ?_
  refine lv_topE (y := nI (8 * i + 0)) (nI_add _ _) ?_
  refine g_iald K.1 hP (19) (by decide) rfl 0 rfl (8 * i + 0) rfl (by omega) (by decide) d_M_take_65 ?_
  refine lv_topE (y := (v 19 (8 * i + 0))) (by first | (simp [u2_at, cpM]; done) | (simp only [u2_at, cpM]; repeat (rw [if_neg (by omega)])) | (simp [u2_at, cpM] <;> (intros; omega))) ?_
  refine g_iast K.1 hP hS (19) (by decide) (fun _ => rfl) 0 rfl ((8 * (i + 1)) + 0) rfl (by omega) (by decide) d_M_take_66 (fun H l1 hP hS => ?_)
  refine lv_iinc (v := 1) (lv' := [(2, .int 1), (0, .ref (ad 0)), (1, .int (nI i))]) K.hx K.hb d_M_take_67 hl (k := 0) rfl (by decide) (by decide) rfl (fun ls hl => ?_)
  refine lv_goto (tgt := 37) K.hx K.hb d_M_take_70 (by decide) ?_
  refine lv_iload_n K.hx K.hb d_M_take_37 rfl (lv_at hl 0 rfl) ?_
  refine lv_bipush (v := 8) K.hx K.hb d_M_take_38 (by decide) ?_
  refine lv_icmp_ge (tgt := 73) K.hx K.hb d_M_take_40 (by decide) (fun c_40_5 => (show False from by revert c_40_5; decide).elim) (fun _ => ?_)
  refine lv_aload_n K.hx K.hb d_M_take_43 rfl (lv_at hl 1 rfl) ?_
  refine g_get K.1 hP (0) (by decide) rfl rfl i_M 28 (by decide) rfl (Or.inl kw_662) rfl d_M_take_44 ?_
  refine lv_bipush (v := 8) K.hx K.hb d_M_take_47 (by decide) ?_
  refine lv_iload_n K.hx K.hb d_M_take_49 rfl (lv_at hl 2 rfl) ?_
  refine lv_iconst (v := 1) K.hx K.hb d_M_take_50 (by decide) ?_
  refine lv_iadd K.hx K.hb d_M_take_51 ?_
  refine lv_topE (y := nI (i + 1)) (nI_add _ _) ?_
  refine lv_imul K.hx K.hb d_M_take_52 ?_
  refine lv_topE (y := nI (8 * (i + 1))) (pk_mul _ _) ?_
  refine lv_iload_n K.hx K.hb d_M_take_53 rfl (lv_at hl 0 rfl) ?_
  refine lv_iadd K.hx K.hb d_M_take_54 ?_
  refine lv_topE (y := nI ((8 * (i + 1)) + 1)) (nI_add _ _) ?_
  refine lv_aload_n K.hx K.hb d_M_take_55 rfl (lv_at hl 1 rfl) ?_
  refine g_get K.1 hP (0) (by decide) rfl rfl i_M 28 (by decide) rfl (Or.inl kw_662) rfl d_M_take_56 ?_
  refine lv_bipush (v := 8) K.hx K.hb d_M_take_59 (by decide) ?_
  refine lv_iload_n K.hx K.hb d_M_take_61 rfl (lv_at hl 2 rfl) ?_
  refine lv_imul K.hx K.hb d_M_take_62 ?_
  refine lv_topE (y := nI (8 * i)) (pk_mul _ _) ?_
  refine lv_iload_n K.hx K.hb d_M_take_63 rfl (lv_at hl 0 rfl) ?_
  refine lv_iadd K.hx K.hb d_M_take_64 ?_
  refine lv_topE (y := nI (8 * i + 1)) (nI_add _ _) ?_
  refine g_iald K.1 hP (19) (by decide) rfl 0 rfl (8 * i + 1) rfl (by omega) (by decide) d_M_take_65 ?_
  refine lv_topE (y := (v 19 (8 * i + 1))) (by first | (simp [u2_at, cpM]; done) | (simp only [u2_at, cpM]; repeat (rw [if_neg (by omega)])) | (simp [u2_at, cpM] <;> (intros; omega))) ?_
  refine g_iast K.1 hP hS (19) (by decide) (fun _ => rfl) 0 rfl ((8 * (i + 1)) + 1) rfl (by omega) (by decide) d_M_take_66 (fun H l1 hP hS => ?_)
  refine lv_iinc (v := 2) (lv' := [(2, .int 2), (0, .ref (ad 0)), (1, .int (nI i))]) K.hx K.hb d_M_take_67 hl (k := 0) rfl (by decide) (by decide) rfl (fun ls hl => ?_)
  refine lv_goto (tgt := 37) K.hx K.hb d_M_take_70 (by decide) ?_
  refine lv_iload_n K.hx K.hb d_M_take_37 rfl (lv_at hl 0 rfl) ?_
  refine lv_bipush (v := 8) K.hx K.hb d_M_take_38 (by decide) ?_
  refine lv_icmp_ge (tgt := 73) K.hx K.hb d_M_take_40 (by decide) (fun c_40_6 => (show False from by revert c_40_6; decide).elim) (fun _ => ?_)
  refine lv_aload_n K.hx K.hb d_M_take_43 rfl (lv_at hl 1 rfl) ?_
  refine g_get K.1 hP (0) (by decide) rfl rfl i_M 28 (by decide) rfl (Or.inl kw_662) rfl d_M_take_44 ?_
  refine lv_bipush (v := 8) K.hx K.hb d_M_take_47 (by decide) ?_
  refine lv_iload_n K.hx K.hb d_M_take_49 rfl (lv_at hl 2 rfl) ?_
  refine lv_iconst (v := 1) K.hx K.hb d_M_take_50 (by decide) ?_
  refine lv_iadd K.hx K.hb d_M_take_51 ?_
  refine lv_topE (y := nI (i + 1)) (nI_add _ _) ?_
  refine lv_imul K.hx K.hb d_M_take_52 ?_
  refine lv_topE (y := nI (8 * (i + 1))) (pk_mul _ _) ?_
  refine lv_iload_n K.hx K.hb d_M_take_53 rfl (lv_at hl 0 rfl) ?_
  refine lv_iadd K.hx K.hb d_M_take_54 ?_
  refine lv_topE (y := nI ((8 * (i + 1)) + 2)) (nI_add _ _) ?_
  refine lv_aload_n K.hx K.hb d_M_take_55 rfl (lv_at hl 1 rfl) ?_
  refine g_get K.1 hP (0) (by decide) rfl rfl i_M 28 (by decide) rfl (Or.inl kw_662) rfl d_M_take_56 ?_
  refine lv_bipush (v := 8) K.hx K.hb d_M_take_59 (by decide) ?_
  refine lv_iload_n K.hx K.hb d_M_take_61 rfl (lv_at hl 2 rfl) ?_
  refine lv_imul K.hx K.hb d_M_take_62 ?_
  refine lv_topE (y := nI (8 * i)) (pk_mul _ _) ?_
  refine lv_iload_n K.hx K.hb d_M_take_63 rfl (lv_at hl 0 rfl) ?_
  refine lv_iadd K.hx K.hb d_M_take_64 ?_
  refine lv_topE (y := nI (8 * i + 2)) (nI_add _ _) ?_
  refine g_iald K.1 hP (19) (by decide) rfl 0 rfl (8 * i + 2) rfl (by omega) (by decide) d_M_take_65 ?_
  refine lv_topE (y := (v 19 (8 * i + 2))) (by first | (simp [u2_at, cpM]; done) | (simp only [u2_at, cpM]; repeat (rw [if_neg (by omega)])) | (simp [u2_at, cpM] <;> (intros; omega))) ?_
  refine g_iast K.1 hP hS (19) (by decide) (fun _ => rfl) 0 rfl ((8 * (i + 1)) + 2) rfl (by omega) (by decide) d_M_take_66 (fun H l1 hP hS => ?_)
  refine lv_iinc (v := 3) (lv' := [(2, .int 3), (0, .ref (ad 0)), (1, .int (nI i))]) K.hx K.hb d_M_take_67 hl (k := 0) rfl (by decide) (by decide) rfl (fun ls hl => ?_)
  refine lv_goto (tgt := 37) K.hx K.hb d_M_take_70 (by decide) ?_
  refine lv_iload_n K.hx K.hb d_M_take_37 rfl (lv_at hl 0 rfl) ?_
  refine lv_bipush (v := 8) K.hx K.hb d_M_take_38 (by decide) ?_
  refine lv_icmp_ge (tgt := 73) K.hx K.hb d_M_take_40 (by decide) (fun c_40_7 => (show False from by revert c_40_7; decide).elim) (fun _ => ?_)
  refine lv_aload_n K.hx K.hb d_M_take_43 rfl (lv_at hl 1 rfl) ?_
  refine g_get K.1 hP (0) (by decide) rfl rfl i_M 28 (by decide) rfl (Or.inl kw_662) rfl d_M_take_44 ?_
  refine lv_bipush (v := 8) K.hx K.hb d_M_take_47 (by decide) ?_
  refine lv_iload_n K.hx K.hb d_M_take_49 rfl (lv_at hl 2 rfl) ?_
  refine lv_iconst (v := 1) K.hx K.hb d_M_take_50 (by decide) ?_
  refine lv_iadd K.hx K.hb d_M_take_51 ?_
  refine lv_topE (y := nI (i + 1)) (nI_add _ _) ?_
  refine lv_imul K.hx K.hb d_M_take_52 ?_
  refine lv_topE (y := nI (8 * (i + 1))) (pk_mul _ _) ?_
  refine lv_iload_n K.hx K.hb d_M_take_53 rfl (lv_at hl 0 rfl) ?_
  refine lv_iadd K.hx K.hb d_M_take_54 ?_
  refine lv_topE (y := nI ((8 * (i + 1)) + 3)) (nI_add _ _) ?_
  refine lv_aload_n K.hx K.hb d_M_take_55 rfl (lv_at hl 1 rfl) ?_
  refine g_get K.1 hP (0) (by decide) rfl rfl i_M 28 (by decide) rfl (Or.inl kw_662) rfl d_M_take_56 ?_
  refine lv_bipush (v := 8) K.hx K.hb d_M_take_59 (by decide) ?_
  refine lv_iload_n K.hx K.hb d_M_take_61 rfl (lv_at hl 2 rfl) ?_
  refine lv_imul K.hx K.hb d_M_take_62 ?_
  refine lv_topE (y := nI (8 * i)) (pk_mul _ _) ?_
  refine lv_iload_n K.hx K.hb d_M_take_63 rfl (lv_at hl 0 rfl) ?_
  refine lv_iadd K.hx K.hb d_M_take_64 ?_
  refine lv_topE (y := nI (8 * i + 3)) (nI_add _ _) ?_
  refine g_iald K.1 hP (19) (by decide) rfl 0 rfl (8 * i + 3) rfl (by omega) (by decide) d_M_take_65 ?_
  refine lv_topE (y := (v 19 (8 * i + 3))) (by first | (simp [u2_at, cpM]; done) | (simp only [u2_at, cpM]; repeat (rw [if_neg (by omega)])) | (simp [u2_at, cpM] <;> (intros; omega))) ?_
  refine g_iast K.1 hP hS (19) (by decide) (fun _ => rfl) 0 rfl ((8 * (i + 1)) + 3) rfl (by omega) (by decide) d_M_take_66 (fun H l1 hP hS => ?_)
  refine lv_iinc (v := 4) (lv' := [(2, .int 4), (0, .ref (ad 0)), (1, .int (nI i))]) K.hx K.hb d_M_take_67 hl (k := 0) rfl (by decide) (by decide) rfl (fun ls hl => ?_)
  refine lv_goto (tgt := 37) K.hx K.hb d_M_take_70 (by decide) ?_
  refine lv_iload_n K.hx K.hb d_M_take_37 rfl (lv_at hl 0 rfl) ?_
  refine lv_bipush (v := 8) K.hx K.hb d_M_take_38 (by decide) ?_
  refine lv_icmp_ge (tgt := 73) K.hx K.hb d_M_take_40 (by decide) (fun c_40_8 => (show False from by revert c_40_8; decide).elim) (fun _ => ?_)
  refine lv_aload_n K.hx K.hb d_M_take_43 rfl (lv_at hl 1 rfl) ?_
  refine g_get K.1 hP (0) (by decide) rfl rfl i_M 28 (by decide) rfl (Or.inl kw_662) rfl d_M_take_44 ?_
  refine lv_bipush (v := 8) K.hx K.hb d_M_take_47 (by decide) ?_
  refine lv_iload_n K.hx K.hb d_M_take_49 rfl (lv_at hl 2 rfl) ?_
  refine lv_iconst (v := 1) K.hx K.hb d_M_take_50 (by decide) ?_
  refine lv_iadd K.hx K.hb d_M_take_51 ?_
  refine lv_topE (y := nI (i + 1)) (nI_add _ _) ?_
  refine lv_imul K.hx K.hb d_M_take_52 ?_
  refine lv_topE (y := nI (8 * (i + 1))) (pk_mul _ _) ?_
  refine lv_iload_n K.hx K.hb d_M_take_53 rfl (lv_at hl 0 rfl) ?_
  refine lv_iadd K.hx K.hb d_M_take_54 ?_
  refine lv_topE (y := nI ((8 * (i + 1)) + 4)) (nI_add _ _) ?_
  refine lv_aload_n K.hx K.hb d_M_take_55 rfl (lv_at hl 1 rfl) ?_
  refine g_get K.1 hP (0) (by decide) rfl rfl i_M 28 (by decide) rfl (Or.inl kw_662) rfl d_M_take_56 ?_
  refine lv_bipush (v := 8) K.hx K.hb d_M_take_59 (by decide) ?_
  refine lv_iload_n K.hx K.hb d_M_take_61 rfl (lv_at hl 2 rfl) ?_
  refine lv_imul K.hx K.hb d_M_take_62 ?_
  refine lv_topE (y := nI (8 * i)) (pk_mul _ _) ?_
  refine lv_iload_n K.hx K.hb d_M_take_63 rfl (lv_at hl 0 rfl) ?_
  refine lv_iadd K.hx K.hb d_M_take_64 ?_
  refine lv_topE (y := nI (8 * i + 4)) (nI_add _ _) ?_
  refine g_iald K.1 hP (19) (by decide) rfl 0 rfl (8 * i + 4) rfl (by omega) (by decide) d_M_take_65 ?_
  refine lv_topE (y := (v 19 (8 * i + 4))) (by first | (simp [u2_at, cpM]; done) | (simp only [u2_at, cpM]; repeat (rw [if_neg (by omega)])) | (simp [u2_at, cpM] <;> (intros; omega))) ?_
  refine g_iast K.1 hP hS (19) (by decide) (fun _ => rfl) 0 rfl ((8 * (i + 1)) + 4) rfl (by omega) (by decide) d_M_take_66 (fun H l1 hP hS => ?_)
  refine lv_iinc (v := 5) (lv' := [(2, .int 5), (0, .ref (ad 0)), (1, .int (nI i))]) K.hx K.hb d_M_take_67 hl (k := 0) rfl (by decide) (by decide) rfl (fun ls hl => ?_)
  refine lv_goto (tgt := 37) K.hx K.hb d_M_take_70 (by decide) ?_
  refine lv_iload_n K.hx K.hb d_M_take_37 rfl (lv_at hl 0 rfl) ?_
  refine lv_bipush (v := 8) K.hx K.hb d_M_take_38 (by decide) ?_
  refine lv_icmp_ge (tgt := 73) K.hx K.hb d_M_take_40 (by decide) (fun c_40_9 => (show False from by revert c_40_9; decide).elim) (fun _ => ?_)
  refine lv_aload_n K.hx K.hb d_M_take_43 rfl (lv_at hl 1 rfl) ?_
  refine g_get K.1 hP (0) (by decide) rfl rfl i_M 28 (by decide) rfl (Or.inl kw_662) rfl d_M_take_44 ?_
  refine lv_bipush (v := 8) K.hx K.hb d_M_take_47 (by decide) ?_
  refine lv_iload_n K.hx K.hb d_M_take_49 rfl (lv_at hl 2 rfl) ?_
  refine lv_iconst (v := 1) K.hx K.hb d_M_take_50 (by decide) ?_
  refine lv_iadd K.hx K.hb d_M_take_51 ?_
  refine lv_topE (y := nI (i + 1)) (nI_add _ _) ?_
  refine lv_imul K.hx K.hb d_M_take_52 ?_
  refine lv_topE (y := nI (8 * (i + 1))) (pk_mul _ _) ?_
  refine lv_iload_n K.hx K.hb d_M_take_53 rfl (lv_at hl 0 rfl) ?_
  refine lv_iadd K.hx K.hb d_M_take_54 ?_
  refine lv_topE (y := nI ((8 * (i + 1)) + 5)) (nI_add _ _) ?_
  refine lv_aload_n K.hx K.hb d_M_take_55 rfl (lv_at hl 1 rfl) ?_
  refine g_get K.1 hP (0) (by decide) rfl rfl i_M 28 (by decide) rfl (Or.inl kw_662) rfl d_M_take_56 ?_
  refine lv_bipush (v := 8) K.hx K.hb d_M_take_59 (by decide) ?_
  refine lv_iload_n K.hx K.hb d_M_take_61 rfl (lv_at hl 2 rfl) ?_
  refine lv_imul K.hx K.hb d_M_take_62 ?_
  refine lv_topE (y := nI (8 * i)) (pk_mul _ _) ?_
  refine lv_iload_n K.hx K.hb d_M_take_63 rfl (lv_at hl 0 rfl) ?_
  refine lv_iadd K.hx K.hb d_M_take_64 ?_
  refine lv_topE (y := nI (8 * i + 5)) (nI_add _ _) ?_
  refine g_iald K.1 hP (19) (by decide) rfl 0 rfl (8 * i + 5) rfl (by omega) (by decide) d_M_take_65 ?_
  refine lv_topE (y := (v 19 (8 * i + 5))) (by first | (simp [u2_at, cpM]; done) | (simp only [u2_at, cpM]; repeat (rw [if_neg (by omega)])) | (simp [u2_at, cpM] <;> (intros; omega))) ?_
  refine g_iast K.1 hP hS (19) (by decide) (fun _ => rfl) 0 rfl ((8 * (i + 1)) + 5) rfl (by omega) (by decide) d_M_take_66 (fun H l1 hP hS => ?_)
  refine lv_iinc (v := 6) (lv' := [(2, .int 6), (0, .ref (ad 0)), (1, .int (nI i))]) K.hx K.hb d_M_take_67 hl (k := 0) rfl (by decide) (by decide) rfl (fun ls hl => ?_)
  refine lv_goto (tgt := 37) K.hx K.hb d_M_take_70 (by decide) ?_
  refine lv_iload_n K.hx K.hb d_M_take_37 rfl (lv_at hl 0 rfl) ?_
  refine lv_bipush (v := 8) K.hx K.hb d_M_take_38 (by decide) ?_
  refine lv_icmp_ge (tgt := 73) K.hx K.hb d_M_take_40 (by decide) (fun c_40_10 => (show False from by revert c_40_10; decide).elim) (fun _ => ?_)
  refine lv_aload_n K.hx K.hb d_M_take_43 rfl (lv_at hl 1 rfl) ?_
  refine g_get K.1 hP (0) (by decide) rfl rfl i_M 28 (by decide) rfl (Or.inl kw_662) rfl d_M_take_44 ?_
  refine lv_bipush (v := 8) K.hx K.hb d_M_take_47 (by decide) ?_
  refine lv_iload_n K.hx K.hb d_M_take_49 rfl (lv_at hl 2 rfl) ?_
  refine lv_iconst (v := 1) K.hx K.hb d_M_take_50 (by decide) ?_
  refine lv_iadd K.hx K.hb d_M_take_51 ?_
  refine lv_topE (y := nI (i + 1)) (nI_add _ _) ?_
  refine lv_imul K.hx K.hb d_M_take_52 ?_
  refine lv_topE (y := nI (8 * (i + 1))) (pk_mul _ _) ?_
  refine lv_iload_n K.hx K.hb d_M_take_53 rfl (lv_at hl 0 rfl) ?_
  refine lv_iadd K.hx K.hb d_M_take_54 ?_
  refine lv_topE (y := nI ((8 * (i + 1)) + 6)) (nI_add _ _) ?_
  refine lv_aload_n K.hx K.hb d_M_take_55 rfl (lv_at hl 1 rfl) ?_
  refine g_get K.1 hP (0) (by decide) rfl rfl i_M 28 (by decide) rfl (Or.inl kw_662) rfl d_M_take_56 ?_
  refine lv_bipush (v := 8) K.hx K.hb d_M_take_59 (by decide) ?_
  refine lv_iload_n K.hx K.hb d_M_take_61 rfl (lv_at hl 2 rfl) ?_
  refine lv_imul K.hx K.hb d_M_take_62 ?_
  refine lv_topE (y := nI (8 * i)) (pk_mul _ _) ?_
  refine lv_iload_n K.hx K.hb d_M_take_63 rfl (lv_at hl 0 rfl) ?_
  refine lv_iadd K.hx K.hb d_M_take_64 ?_
  refine lv_topE (y := nI (8 * i + 6)) (nI_add _ _) ?_
  refine g_iald K.1 hP (19) (by decide) rfl 0 rfl (8 * i + 6) rfl (by omega) (by decide) d_M_take_65 ?_
  refine lv_topE (y := (v 19 (8 * i + 6))) (by first | (simp [u2_at, cpM]; done) | (simp only [u2_at, cpM]; repeat (rw [if_neg (by omega)])) | (simp [u2_at, cpM] <;> (intros; omega))) ?_
  refine g_iast K.1 hP hS (19) (by decide) (fun _ => rfl) 0 rfl ((8 * (i + 1)) + 6) rfl (by omega) (by decide) d_M_take_66 (fun H l1 hP hS => ?_)
  refine lv_iinc (v := 7) (lv' := [(2, .int 7), (0, .ref (ad 0)), (1, .int (nI i))]) K.hx K.hb d_M_take_67 hl (k := 0) rfl (by decide) (by decide) rfl (fun ls hl => ?_)
  refine lv_goto (tgt := 37) K.hx K.hb d_M_take_70 (by decide) ?_
  refine lv_iload_n K.hx K.hb d_M_take_37 rfl (lv_at hl 0 rfl) ?_
  refine lv_bipush (v := 8) K.hx K.hb d_M_take_38 (by decide) ?_
  refine lv_icmp_ge (tgt := 73) K.hx K.hb d_M_take_40 (by decide) (fun c_40_11 => (show False from by revert c_40_11; decide).elim) (fun _ => ?_)
  refine lv_aload_n K.hx K.hb d_M_take_43 rfl (lv_at hl 1 rfl) ?_
  refine g_get K.1 hP (0) (by decide) rfl rfl i_M 28 (by decide) rfl (Or.inl kw_662) rfl d_M_take_44 ?_
  refine lv_bipush (v := 8) K.hx K.hb d_M_take_47 (by decide) ?_
  refine lv_iload_n K.hx K.hb d_M_take_49 rfl (lv_at hl 2 rfl) ?_
  refine lv_iconst (v := 1) K.hx K.hb d_M_take_50 (by decide) ?_
  refine lv_iadd K.hx K.hb d_M_take_51 ?_
  refine lv_topE (y := nI (i + 1)) (nI_add _ _) ?_
  refine lv_imul K.hx K.hb d_M_take_52 ?_
  refine lv_topE (y := nI (8 * (i + 1))) (pk_mul _ _) ?_
  refine lv_iload_n K.hx K.hb d_M_take_53 rfl (lv_at hl 0 rfl) ?_
  refine lv_iadd K.hx K.hb d_M_take_54 ?_
  refine lv_topE (y := nI ((8 * (i + 1)) + 7)) (nI_add _ _) ?_
  refine lv_aload_n K.hx K.hb d_M_take_55 rfl (lv_at hl 1 rfl) ?_
  refine g_get K.1 hP (0) (by decide) rfl rfl i_M 28 (by decide) rfl (Or.inl kw_662) rfl d_M_take_56 ?_
  refine lv_bipush (v := 8) K.hx K.hb d_M_take_59 (by decide) ?_
  refine lv_iload_n K.hx K.hb d_M_take_61 rfl (lv_at hl 2 rfl) ?_
  refine lv_imul K.hx K.hb d_M_take_62 ?_
  refine lv_topE (y := nI (8 * i)) (pk_mul _ _) ?_
  refine lv_iload_n K.hx K.hb d_M_take_63 rfl (lv_at hl 0 rfl) ?_
  refine lv_iadd K.hx K.hb d_M_take_64 ?_
  refine lv_topE (y := nI (8 * i + 7)) (nI_add _ _) ?_
  refine g_iald K.1 hP (19) (by decide) rfl 0 rfl (8 * i + 7) rfl (by omega) (by decide) d_M_take_65 ?_
  refine lv_topE (y := (v 19 (8 * i + 7))) (by first | (simp [u2_at, cpM]; done) | (simp only [u2_at, cpM]; repeat (rw [if_neg (by omega)])) | (simp [u2_at, cpM] <;> (intros; omega))) ?_
  refine g_iast K.1 hP hS (19) (by decide) (fun _ => rfl) 0 rfl ((8 * (i + 1)) + 7) rfl (by omega) (by decide) d_M_take_66 (fun H l1 hP hS => ?_)
  refine lv_iinc (v := 8) (lv' := [(2, .int 8), (0, .ref (ad 0)), (1, .int (nI i))]) K.hx K.hb d_M_take_67 hl (k := 0) rfl (by decide) (by decide) rfl (fun ls hl => ?_)
  refine lv_goto (tgt := 37) K.hx K.hb d_M_take_70 (by decide) ?_
  refine lv_iload_n K.hx K.hb d_M_take_37 rfl (lv_at hl 0 rfl) ?_
  refine lv_bipush (v := 8) K.hx K.hb d_M_take_38 (by decide) ?_
  refine lv_icmp_ge (tgt := 73) K.hx K.hb d_M_take_40 (by decide) (fun _ => ?_) (fun c_40_12 => (show False from by revert c_40_12; decide).elim)
  rw [cpM_eq] at hP
  refine lv_aload_n K.hx K.hb d_M_take_73 rfl (lv_at hl 1 rfl) ?_
  refine g_get K.1 hP (0) (by decide) rfl rfl i_M 31 (by decide) rfl (Or.inl kw_665) rfl d_M_take_74 ?_
  refine lv_iload_n K.hx K.hb d_M_take_77 rfl (lv_at hl 2 rfl) ?_
  refine g_iald K.1 hP (22) (by decide) rfl 0 rfl (i) rfl (by omega) (by decide) d_M_take_78 ?_
  refine lv_topE (y := (v 22 i)) (by first | (simp [u2_at, cpM]; done) | (simp only [u2_at, cpM]; repeat (rw [if_neg (by omega)])) | (simp [u2_at, cpM] <;> (intros; omega))) ?_
  refine lv_if_ge (tgt := 113) K.hx K.hb d_M_take_79 (by decide) (fun c_79 => ?_) (fun c_79 => ?_)
  · refine lv_aload_n K.hx K.hb d_M_take_113 rfl (lv_at hl 1 rfl) ?_
    refine g_get K.1 hP (0) (by decide) rfl rfl i_M 29 (by decide) rfl (Or.inl kw_663) rfl d_M_take_114 ?_
    refine lv_iload_n K.hx K.hb d_M_take_117 rfl (lv_at hl 2 rfl) ?_
    refine lv_iconst (v := 1) K.hx K.hb d_M_take_118 (by decide) ?_
    refine lv_iadd K.hx K.hb d_M_take_119 ?_
    refine lv_topE (y := nI (i + 1)) (nI_add _ _) ?_
    refine lv_aload_n K.hx K.hb d_M_take_120 rfl (lv_at hl 1 rfl) ?_
    refine g_get K.1 hP (0) (by decide) rfl rfl i_M 29 (by decide) rfl (Or.inl kw_663) rfl d_M_take_121 ?_
    refine lv_iload_n K.hx K.hb d_M_take_124 rfl (lv_at hl 2 rfl) ?_
    refine g_iald K.1 hP (20) (by decide) rfl 0 rfl (i) rfl (by omega) (by decide) d_M_take_125 ?_
    refine lv_topE (y := (v 20 i)) (by first | (simp [u2_at, cpM]; done) | (simp only [u2_at, cpM]; repeat (rw [if_neg (by omega)])) | (simp [u2_at, cpM] <;> (intros; omega))) ?_
    refine lv_aload_n K.hx K.hb d_M_take_126 rfl (lv_at hl 1 rfl) ?_
    refine g_get K.1 hP (0) (by decide) rfl rfl i_M 31 (by decide) rfl (Or.inl kw_665) rfl d_M_take_127 ?_
    refine lv_iload_n K.hx K.hb d_M_take_130 rfl (lv_at hl 2 rfl) ?_
    refine g_iald K.1 hP (22) (by decide) rfl 0 rfl (i) rfl (by omega) (by decide) d_M_take_131 ?_
    refine lv_topE (y := (v 22 i)) (by first | (simp [u2_at, cpM]; done) | (simp only [u2_at, cpM]; repeat (rw [if_neg (by omega)])) | (simp [u2_at, cpM] <;> (intros; omega))) ?_
    refine lv_aload_n K.hx K.hb d_M_take_132 rfl (lv_at hl 1 rfl) ?_
    refine g_get K.1 hP (0) (by decide) rfl rfl i_M 19 (by decide) rfl (Or.inl kw_653) rfl d_M_take_133 ?_
    refine lv_iload_n K.hx K.hb d_M_take_136 rfl (lv_at hl 2 rfl) ?_
    refine g_iald K.1 hP (14) (by decide) rfl 0 rfl (i) rfl (by omega) (by decide) d_M_take_137 ?_
    refine lv_topE (y := (v 14 i)) (by first | (simp [u2_at, cpM]; done) | (simp only [u2_at, cpM]; repeat (rw [if_neg (by omega)])) | (simp [u2_at, cpM] <;> (intros; omega))) ?_
    refine lv_imul K.hx K.hb d_M_take_138 ?_
    refine lv_iadd K.hx K.hb d_M_take_139 ?_
    refine g_iast K.1 hP hS (20) (by decide) (fun _ => rfl) 0 rfl (i + 1) rfl (by omega) (by decide) d_M_take_140 (fun H l1 hP hS => ?_)
    refine lv_aload_n K.hx K.hb d_M_take_141 rfl (lv_at hl 1 rfl) ?_
    refine g_get K.1 hP (0) (by decide) rfl rfl i_M 27 (by decide) rfl (Or.inl kw_661) rfl d_M_take_142 ?_
    refine lv_iconst (v := 4) K.hx K.hb d_M_take_145 (by decide) ?_
    refine lv_iload_n K.hx K.hb d_M_take_146 rfl (lv_at hl 2 rfl) ?_
    refine lv_iconst (v := 1) K.hx K.hb d_M_take_147 (by decide) ?_
    refine lv_iadd K.hx K.hb d_M_take_148 ?_
    refine lv_topE (y := nI (i + 1)) (nI_add _ _) ?_
    refine lv_imul K.hx K.hb d_M_take_149 ?_
    refine lv_topE (y := nI (4 * (i + 1))) (pk_mul _ _) ?_
    refine lv_aload_n K.hx K.hb d_M_take_150 rfl (lv_at hl 1 rfl) ?_
    refine g_get K.1 hP (0) (by decide) rfl rfl i_M 30 (by decide) rfl (Or.inl kw_664) rfl d_M_take_151 ?_
    refine lv_iload_n K.hx K.hb d_M_take_154 rfl (lv_at hl 2 rfl) ?_
    refine g_iald K.1 hP (21) (by decide) rfl 0 rfl (i) rfl (by omega) (by decide) d_M_take_155 ?_
    refine lv_topE (y := (v 21 i)) (by first | (simp [u2_at, cpM]; done) | (simp only [u2_at, cpM]; repeat (rw [if_neg (by omega)])) | (simp [u2_at, cpM] <;> (intros; omega))) ?_
    refine lv_topE (y := nI c_) hc ?_
    refine lv_aload_n K.hx K.hb d_M_take_156 rfl (lv_at hl 1 rfl) ?_
    refine g_get K.1 hP (0) (by decide) rfl rfl i_M 11 (by decide) rfl (Or.inl kw_645) rfl d_M_take_157 ?_
    refine lv_topE (y := (v 0 11)) (by first | (simp [u2_at, cpM]; done) | (simp [u2_at, cpM] <;> (intros; omega)) | (simp only [u2_at, cpM]; (repeat' split) <;> first | rfl | (exfalso; omega))) ?_
    refine lv_topE (y := nI pc) hpc ?_
    refine lv_irem K.hx K.hb d_M_take_160 (nI_ne0 (hpp c_79) (by omega)) ?_
    have hpp0 := hpp c_79
    refine lv_topE (y := nI (c_ % pc)) (pk_rem (by omega) hpp0 (by omega)) ?_
    have hmod : c_ % pc < pc := Nat.mod_lt _ hpp0
    refine lv_iadd K.hx K.hb d_M_take_161 ?_
    refine lv_topE (y := nI ((4 * (i + 1)) + (c_ % pc))) (nI_add _ _) ?_
    refine lv_aload_n K.hx K.hb d_M_take_162 rfl (lv_at hl 1 rfl) ?_
    refine g_get K.1 hP (0) (by decide) rfl rfl i_M 31 (by decide) rfl (Or.inl kw_665) rfl d_M_take_163 ?_
    refine lv_iload_n K.hx K.hb d_M_take_166 rfl (lv_at hl 2 rfl) ?_
    refine g_iald K.1 hP (22) (by decide) rfl 0 rfl (i) rfl (by omega) (by decide) d_M_take_167 ?_
    refine lv_topE (y := (v 22 i)) (by first | (simp [u2_at, cpM]; done) | (simp only [u2_at, cpM]; repeat (rw [if_neg (by omega)])) | (simp [u2_at, cpM] <;> (intros; omega))) ?_
    refine lv_aload_n K.hx K.hb d_M_take_168 rfl (lv_at hl 1 rfl) ?_
    refine g_get K.1 hP (0) (by decide) rfl rfl i_M 17 (by decide) rfl (Or.inl kw_651) rfl d_M_take_169 ?_
    refine lv_iload_n K.hx K.hb d_M_take_172 rfl (lv_at hl 2 rfl) ?_
    refine g_iald K.1 hP (12) (by decide) rfl 0 rfl (i) rfl (by omega) (by decide) d_M_take_173 ?_
    refine lv_topE (y := (v 12 i)) (by first | (simp [u2_at, cpM]; done) | (simp only [u2_at, cpM]; repeat (rw [if_neg (by omega)])) | (simp [u2_at, cpM] <;> (intros; omega))) ?_
    refine lv_iadd K.hx K.hb d_M_take_174 ?_
    refine lv_aload_n K.hx K.hb d_M_take_175 rfl (lv_at hl 1 rfl) ?_
    refine g_get K.1 hP (0) (by decide) rfl rfl i_M 20 (by decide) rfl (Or.inl kw_654) rfl d_M_take_176 ?_
    refine lv_topE (y := (v 0 20)) (by first | (simp [u2_at, cpM]; done) | (simp [u2_at, cpM] <;> (intros; omega)) | (simp only [u2_at, cpM]; (repeat' split) <;> first | rfl | (exfalso; omega))) ?_
    refine lv_iadd K.hx K.hb d_M_take_179 ?_
    refine g_iast K.1 hP hS (18) (by decide) (fun _ => rfl) 0 rfl ((4 * (i + 1)) + (c_ % pc)) rfl (by omega) (by decide) d_M_take_180 (fun H l1 hP hS => ?_)
    refine lv_aload_n K.hx K.hb d_M_take_181 rfl (lv_at hl 1 rfl) ?_
    refine g_get K.1 hP (0) (by decide) rfl rfl i_M 28 (by decide) rfl (Or.inl kw_662) rfl d_M_take_182 ?_
    refine lv_bipush (v := 8) K.hx K.hb d_M_take_185 (by decide) ?_
    refine lv_iload_n K.hx K.hb d_M_take_187 rfl (lv_at hl 2 rfl) ?_
    refine lv_iconst (v := 1) K.hx K.hb d_M_take_188 (by decide) ?_
    refine lv_iadd K.hx K.hb d_M_take_189 ?_
    refine lv_topE (y := nI (i + 1)) (nI_add _ _) ?_
    refine lv_imul K.hx K.hb d_M_take_190 ?_
    refine lv_topE (y := nI (8 * (i + 1))) (pk_mul _ _) ?_
    refine lv_aload_n K.hx K.hb d_M_take_191 rfl (lv_at hl 1 rfl) ?_
    refine g_get K.1 hP (0) (by decide) rfl rfl i_M 16 (by decide) rfl (Or.inl kw_650) rfl d_M_take_192 ?_
    refine lv_iload_n K.hx K.hb d_M_take_195 rfl (lv_at hl 2 rfl) ?_
    refine g_iald K.1 hP (11) (by decide) rfl 0 rfl (i) rfl (by omega) (by decide) d_M_take_196 ?_
    refine lv_topE (y := (v 11 i)) (by first | (simp [u2_at, cpM]; done) | (simp only [u2_at, cpM]; repeat (rw [if_neg (by omega)])) | (simp [u2_at, cpM] <;> (intros; omega))) ?_
    refine lv_topE (y := nI t) ht0 ?_
    refine lv_iadd K.hx K.hb d_M_take_197 ?_
    refine lv_topE (y := nI ((8 * (i + 1)) + t)) (nI_add _ _) ?_
    refine lv_aload_n K.hx K.hb d_M_take_198 rfl (lv_at hl 1 rfl) ?_
    refine g_get K.1 hP (0) (by decide) rfl rfl i_M 31 (by decide) rfl (Or.inl kw_665) rfl d_M_take_199 ?_
    refine lv_iload_n K.hx K.hb d_M_take_202 rfl (lv_at hl 2 rfl) ?_
    refine g_iald K.1 hP (22) (by decide) rfl 0 rfl (i) rfl (by omega) (by decide) d_M_take_203 ?_
    refine lv_topE (y := (v 22 i)) (by first | (simp [u2_at, cpM]; done) | (simp only [u2_at, cpM]; repeat (rw [if_neg (by omega)])) | (simp [u2_at, cpM] <;> (intros; omega))) ?_
    refine lv_aload_n K.hx K.hb d_M_take_204 rfl (lv_at hl 1 rfl) ?_
    refine g_get K.1 hP (0) (by decide) rfl rfl i_M 17 (by decide) rfl (Or.inl kw_651) rfl d_M_take_205 ?_
    refine lv_iload_n K.hx K.hb d_M_take_208 rfl (lv_at hl 2 rfl) ?_
    refine g_iald K.1 hP (12) (by decide) rfl 0 rfl (i) rfl (by omega) (by decide) d_M_take_209 ?_
    refine lv_topE (y := (v 12 i)) (by first | (simp [u2_at, cpM]; done) | (simp only [u2_at, cpM]; repeat (rw [if_neg (by omega)])) | (simp [u2_at, cpM] <;> (intros; omega))) ?_
    refine lv_iadd K.hx K.hb d_M_take_210 ?_
    refine g_iast K.1 hP hS (19) (by decide) (fun _ => rfl) 0 rfl ((8 * (i + 1)) + t) rfl (by omega) (by decide) d_M_take_211 (fun H l1 hP hS => ?_)
    exact de_v K hP hS ⟨rfl, if_pos c_79, rfl⟩ (Nat.le_of_ble_eq_true rfl) (Nat.le_of_ble_eq_true rfl) d_M_take_212
  · refine lv_aload_n K.hx K.hb d_M_take_82 rfl (lv_at hl 1 rfl) ?_
    refine g_get K.1 hP (0) (by decide) rfl rfl i_M 29 (by decide) rfl (Or.inl kw_663) rfl d_M_take_83 ?_
    refine lv_iload_n K.hx K.hb d_M_take_86 rfl (lv_at hl 2 rfl) ?_
    refine lv_iconst (v := 1) K.hx K.hb d_M_take_87 (by decide) ?_
    refine lv_iadd K.hx K.hb d_M_take_88 ?_
    refine lv_topE (y := nI (i + 1)) (nI_add _ _) ?_
    refine lv_aload_n K.hx K.hb d_M_take_89 rfl (lv_at hl 1 rfl) ?_
    refine g_get K.1 hP (0) (by decide) rfl rfl i_M 29 (by decide) rfl (Or.inl kw_663) rfl d_M_take_90 ?_
    refine lv_iload_n K.hx K.hb d_M_take_93 rfl (lv_at hl 2 rfl) ?_
    refine g_iald K.1 hP (20) (by decide) rfl 0 rfl (i) rfl (by omega) (by decide) d_M_take_94 ?_
    refine lv_topE (y := (v 20 i)) (by first | (simp [u2_at, cpM]; done) | (simp only [u2_at, cpM]; repeat (rw [if_neg (by omega)])) | (simp [u2_at, cpM] <;> (intros; omega))) ?_
    refine lv_sipush (v := 168) K.hx K.hb d_M_take_95 (by decide) ?_
    refine lv_aload_n K.hx K.hb d_M_take_98 rfl (lv_at hl 1 rfl) ?_
    refine g_get K.1 hP (0) (by decide) rfl rfl i_M 19 (by decide) rfl (Or.inl kw_653) rfl d_M_take_99 ?_
    refine lv_iload_n K.hx K.hb d_M_take_102 rfl (lv_at hl 2 rfl) ?_
    refine g_iald K.1 hP (14) (by decide) rfl 0 rfl (i) rfl (by omega) (by decide) d_M_take_103 ?_
    refine lv_topE (y := (v 14 i)) (by first | (simp [u2_at, cpM]; done) | (simp only [u2_at, cpM]; repeat (rw [if_neg (by omega)])) | (simp [u2_at, cpM] <;> (intros; omega))) ?_
    refine lv_imul K.hx K.hb d_M_take_104 ?_
    refine lv_iadd K.hx K.hb d_M_take_105 ?_
    refine lv_aload_n K.hx K.hb d_M_take_106 rfl (lv_at hl 1 rfl) ?_
    refine g_get K.1 hP (0) (by decide) rfl rfl i_M 21 (by decide) rfl (Or.inl kw_655) rfl d_M_take_107 ?_
    refine lv_topE (y := (v 0 21)) (by first | (simp [u2_at, cpM]; done) | (simp [u2_at, cpM] <;> (intros; omega)) | (simp only [u2_at, cpM]; (repeat' split) <;> first | rfl | (exfalso; omega))) ?_
    refine lv_iadd K.hx K.hb d_M_take_110 ?_
    refine g_iast K.1 hP hS (20) (by decide) (fun _ => rfl) 0 rfl (i + 1) rfl (by omega) (by decide) d_M_take_111 (fun H l1 hP hS => ?_)
    exact de_v K hP hS ⟨rfl, if_neg c_79, rfl⟩ (Nat.le_of_ble_eq_true rfl) (Nat.le_of_ble_eq_true rfl) d_M_take_112
end
