/-! A walk's calls, by the callee's own walk: a contract (Mx) is a walk from the callee's entry to an end that returns or throws; a call of it goes on behind the call, or with what was thrown. -/
theorem xs_weak {tb : Tables} {e : Env} {mid below : List Frame} {a b : State} (h : Steps tb e (mid ++ below) a b) : Steps tb e below a b := by
  obtain ⟨n, hn, hw⟩ := h
  refine ⟨n, hn, fun k hk => ?_⟩
  obtain ⟨above, h1, h2, h3⟩ := hw k hk
  refine ⟨above ++ mid, by rw [h1, List.append_assoc], ?_, ?_⟩
  · cases above with
    | nil => exact absurd rfl h2
    | cons x t => simp
  · intro q hq
    cases above with
    | nil => exact absurd rfl h2
    | cons x t =>
      simp only [List.cons_append, List.cons.injEq] at hq
      obtain ⟨rfl, h4⟩ := hq
      have h5 : t = [] := (List.append_eq_nil_iff.mp h4).1
      exact h3 q (by rw [h5])
/-- the frame of a whole invocation -/
def xF (st t : State) (L : List Loc) (mc ms : Nat) : Prop := st.WarmedH t.vm ∧ st.sameButNew ({ t with vm := st.vm } : State) L mc ms
def xMQ (below : List Frame) (Qc : State → Outcome → State → Prop) (s : State) (mc ms : Nat) (free : Addr → Prop) : State → Prop := fun t =>
  ∃ o, t.status = .running ∧ Ended t below o ∧ Qc s o t ∧ ∃ L, xF s t L mc ms ∧ ∀ q ∈ L, free q.base
/-- a contract: from every entry with Pc the method comes to an end with Qc -/
def Mx (l : Launch) (y : MethodName) (bytes : ByteArray) (maxL : Nat) (ret : Option FieldType) (hh : List (Nat × Nat × Nat × Nat)) (rm : Room) (av : List Value) (Pc : State → Prop) (Qc : State → Outcome → State → Prop) (free : Addr → Prop) : Prop :=
  ∀ (p : Program) (e : Env) (s : State) (m : MethodId) (below : List Frame) (meth : Method) (c : Code),
    p.tables.exec = Jvm.exec → s.methodNamed? y = some m → c.code = bytes → c.maxLocals = maxL → c.exceptionTable.toList = tableOf hh → meth.name = y.name → meth.sig.returnType = ret → meth.locks = false →
    (∀ w ∈ gt, w.before av.toArray s = true) → Pc s →
    W p l e rm s m av.toArray below meth c s.heap [] 0 0 (xMQ below Qc s rm.cells rm.slots free) (entryFrame m av.toArray maxL)
/-- the code word of a method, with its table of handlers or without one -/
def xCode (y : MethodName) (bytes : ByteArray) (maxL : Nat) (ret : Option FieldType) (hh : List (Nat × Nat × Nat × Nat)) : Prop := (hh = [] ∧ Cond.code y bytes maxL ret ∈ gt) ∨ Cond.codeWith y bytes maxL ret hh ∈ gt
theorem xCode.spec {y : MethodName} {bytes : ByteArray} {maxL : Nat} {ret : Option FieldType} {hh : List (Nat × Nat × Nat × Nat)} (h : xCode y bytes maxL ret hh) {s : State} {args : Array Value} (hw : ∀ w ∈ gt, w.before args s = true) {mk : MethodId} (hn : s.methodNamed? y = some mk) :
    ∃ meth c, s.vm.method? mk = some meth ∧ meth.code = some c ∧ c.code = bytes ∧ c.maxLocals = maxL ∧ c.exceptionTable.toList = tableOf hh ∧ meth.sig.returnType = ret ∧ meth.locks = false ∧ parseMethodDescriptor y.desc = some meth.sig := by
  rcases h with ⟨h0, h⟩ | h
  · obtain ⟨meth, c, h1, h2, h3, h4, h5, h6, h7, h8⟩ := Cond.code_spec hn (hw _ h)
    refine ⟨meth, c, h1, h2, h3, h4, ?_, h5, h6, h8⟩
    rw [h0, Array.isEmpty_iff.mp h7]
    rfl
  · obtain ⟨m9, meth, c, hn9, h1, h2, h3, h4, h5, h6, h7, h8⟩ := Cond.codeWith_spec (hw _ h)
    cases Option.some.inj (hn9.symm.trans hn)
    exact ⟨meth, c, h1, h2, h3, h4, by rw [← h5, table_eq], h6, h7, h8⟩
section XCalls
variable {p : Program} {l : Launch} {e : Env} {R : Room} {s : State} {m : MethodId} {args : Array Value} {below : List Frame} {meth : Method} {c : Code} {T : State} {locs : List Loc} {cells slots : Nat}
variable {y : MethodName} {bytes : ByteArray} {maxL : Nat} {ret : Option FieldType} {hh : List (Nat × Nat × Nat × Nat)} {rm : Room} {av : List Value} {Pc : State → Prop} {Qc : State → Outcome → State → Prop} {free : Addr → Prop}
theorem xc_core (X : Stand p l e R s m args below meth c T locs cells slots) (hx : p.tables.exec = Jvm.exec) (hM : Mx l y bytes maxL ret hh rm av Pc Qc free)
    (hw : ∀ w ∈ gt, w.before args s = true) (hcode : xCode y bytes maxL ret hh) (hpn : plainName y.cls = true)
    {mk : MethodId} (hn : s.methodNamed? y = some mk) {g : JFrame} (hg : g.method = m) (hsize : g.locals.size = c.maxLocals) {ig : Instr} (hdg : decode c.code g.pc = .ok (ig, 3))
    (hfr : rm.frames + 1 ≤ R.frames) (hlo : 2 * g.monitorRoom + (g.stack.map fun v => v.category).sum + (maxL + 11) + rm.locals ≤ R.locals) (hce : cells + rm.cells ≤ R.cells) (hsl : slots + rm.slots ≤ R.slots)
    (hPc : Pc (T.calling g mk av.toArray)) :
    ∃ (o : Outcome) (t : State) (L : List Loc) (T' : State), Qc (T.calling g mk av.toArray) o t ∧ (∀ q ∈ L, free q.base) ∧ Stand p l e R s m args below meth c T' (locs ++ L) (cells + rm.cells) (slots + rm.slots) ∧ T'.heap = t.heap ∧ T'.vm = t.vm ∧
      ∀ acts, (∀ v, o = .returned v → Steps p.tables e below (doInvoke e (T.setTop g) acts mk av.toArray).1 (T'.setTop { g with pc := g.pc + 3, stack := v.toList ++ g.stack })) ∧
        (∀ q, o = .threw q → Steps p.tables e below (doInvoke e (T.setTop g) acts mk av.toArray).1 ((T'.setTop g).pushFrame (.throwing q))) := by
  obtain ⟨methk, ck, hmS, hck, hb, hml, htab, hret, hlk, hsig⟩ := hcode.spec hw hn
  have hmk : T.vm.method? mk = some methk := by rw [X.warmed.alike.method?]; exact hmS
  obtain ⟨kY, hkY, hkn⟩ := className_of_methodNamed hn
  have hpk : T.plainMethod mk := X.warmed.plainAt (fun k hk => by cases Option.some.inj (hk.symm.trans hkY); rw [hkn]; exact hpn)
  obtain ⟨Y, hin⟩ := X.into hg hsize hdg av.toArray (R' := rm) hmk hck hlk hpk hfr (by rw [hml]; exact hlo) hce hsl
  have hWu : s.WarmedH (T.calling g mk av.toArray).vm := X.warmed
  have hws : ∀ w ∈ gt, w.before av.toArray (T.calling g mk av.toArray) = true := fun w hw' => word_at hWu (gt_good (List.mem_filter.mp hw').2) (hw w hw')
  have hnT : (T.calling g mk av.toArray).methodNamed? y = some mk := X.named hn
  have K := hM p e (T.calling g mk av.toArray) mk (.java g :: below) methk ck hx hnT hb hml htab (name_of_methodNamed hn hmS).1 hret hlk hws hPc
  obtain ⟨t, hst, o, -, hend, hq, L, ⟨hWt, hsame⟩, hL⟩ := K ((T.setTop g).pushFrame (.java (entryFrame mk av.toArray ck.maxLocals))) rfl Y
  rw [← hml] at hst
  have hst' : Steps p.tables e below (((T.setTop g).pushFrame (.java (entryFrame mk av.toArray ck.maxLocals))).setTop (entryFrame mk av.toArray ck.maxLocals)) t := xs_weak (mid := [.java g]) hst
  cases o with
  | returned v =>
    obtain ⟨T', X', hW', hB', ht⟩ := X.outOf hg hdg hend hWt hsame
    refine ⟨.returned v, t, L, T', hq, hL, X', by rw [ht]; simp, by rw [ht]; simp, fun acts => ⟨fun v' hv => ?_, fun q hq' => (by cases hq')⟩⟩
    cases hv
    rw [hin acts, ← ht]
    exact hst'
  | threw q =>
    obtain ⟨T', X', hW', hB', ht⟩ := X.outOfThrown hg hend hWt hsame
    refine ⟨.threw q, t, L, T', hq, hL, X', by rw [ht, throwing_heap], by rw [ht, throwing_vm], fun acts => ⟨fun v' hv => (by cases hv), fun q' hq' => ?_⟩⟩
    cases hq'
    rw [hin acts, ← ht]
    exact hst'
end XCalls
