/-! rows of a walk: calls, ends, throws -/
/-- a walk goes on from a frame over which 'q is being thrown' lies -/
def XW (p : Program) (l : Launch) (e : Env) (R : Room) (s : State) (m : MethodId) (args : Array Value) (below : List Frame) (meth : Method) (c : Code) (H : Heap) (locs : List Loc) (cells slots : Nat) (Q : State → Prop) (g : JFrame) (q : Addr) : Prop :=
  ∀ T : State, T.heap = H → Stand p l e R s m args below meth c T locs cells slots → ∃ t, Steps p.tables e below ((T.setTop g).pushFrame (.throwing q)) t ∧ Q t
/-- how an invocation ends: what it may change; f of what it returns; x of what it throws -/
def QQ (A : Nat → Prop) (f : Option Value → State → Prop) (x : String → State → Prop) : State → Outcome → State → Prop := fun st o t =>
  va_F A st t ∧ ((∃ v, o = .returned v ∧ f v t) ∨ ∃ (q : Addr) (cls : String) (cell : Cell), o = .threw q ∧ t.heap[q]? = some cell ∧ cell.vm = .none ∧ t.vm.findClass cls = some cell.cls ∧ x cls t)
abbrev Mq (l : Launch) (y : MethodName) (bytes : ByteArray) (maxL : Nat) (ret : Option FieldType) (hh : List (Nat × Nat × Nat × Nat)) (rm : Room) (av : List Value) (Pc : State → Prop) (A : Nat → Prop) (f : Option Value → State → Prop) (x : String → State → Prop) : Prop :=
  Mx l y bytes maxL ret hh rm av Pc (QQ A f x) A
abbrev Fx (p : Program) (m : MethodId) (c : Code) (cc : ByteArray) (nL : Nat) (s : State) (args : Array Value) (own : String) : Prop :=
  p.tables.exec = Jvm.exec ∧ c.code = cc ∧ c.maxLocals = nL ∧ s.vm.findClass own = some m.cls ∧ ∀ w ∈ gt, w.before args s = true
section XRows
variable {p : Program} {l : Launch} {e : Env} {R : Room} {s : State} {m : MethodId} {args : Array Value} {below : List Frame} {meth : Method} {c : Code} {H : Heap} {locs : List Loc} {cells slots : Nat} {Q : State → Prop}
variable {y : MethodName} {bytes cc : ByteArray} {maxL nL index pc : Nat} {ret : Option FieldType} {hh : List (Nat × Nat × Nat × Nat)} {rm : Room} {av As rest st : List Value} {Pc : State → Prop} {A A0 : Nat → Prop} {f : Option Value → State → Prop} {x : String → State → Prop} {own C host : String} {H0 : Heap} {ls : Array Slot} {b : Addr}
theorem xc_go {T : State} (hT : T.heap = H) {vm₁ : Vm} (X : Stand p l e R s m args below meth c (T.setVm vm₁) locs cells slots) (F : Fx p m c cc nL s args own) (hM : Mq l y bytes maxL ret hh rm av Pc A f x)
    (hcode : xCode y bytes maxL ret hh) (hpn : plainName y.cls = true) {mk : MethodId} (hn : s.methodNamed? y = some mk)
    (hstep : ∀ target, (∀ acts, Steps p.tables e below (doInvoke e ((T.setVm vm₁).setTop (F0 m pc ls rest)) acts mk av.toArray).1 target) → Steps p.tables e below (T.setTop (F0 m pc ls st)) target)
    (hsz : ls.size = nL) {ig : Instr} (hdg : decode cc pc = .ok (ig, 3)) (hfr : rm.frames + 1 ≤ R.frames) (hlo : (rest.map fun v => v.category).sum + (maxL + 11) + rm.locals ≤ R.locals) (hf : cells + rm.cells ≤ R.cells ∧ slots + rm.slots ≤ R.slots)
    (hPc : ∀ U : State, U.heap = H → s.WarmedH U.vm → Pc U) (hS : va_S A0 H0 H locs) (hA : ∀ q, A q → A0 q)
    (kr : ∀ (v : Option Value) (t : State) (H1 : Heap) (locs1 : List Loc), t.heap = H1 → s.WarmedH t.vm → f v t → H.size ≤ H1.size → (∀ q : Nat, q < H.size → ¬ A q → H1[q]? = H[q]?) → va_S A0 H0 H1 locs1 → W p l e R s m args below meth c H1 locs1 (cells + rm.cells) (slots + rm.slots) Q (F0 m (pc + 3) ls (v.toList ++ rest)))
    (kt : ∀ (q : Addr) (cls : String) (cell : Cell) (t : State) (H1 : Heap) (locs1 : List Loc), t.heap = H1 → s.WarmedH t.vm → H1[q]? = some cell → cell.vm = .none → s.vm.findClass cls = some cell.cls → x cls t → H.size ≤ H1.size → (∀ q : Nat, q < H.size → ¬ A q → H1[q]? = H[q]?) → va_S A0 H0 H1 locs1 → XW p l e R s m args below meth c H1 locs1 (cells + rm.cells) (slots + rm.slots) Q (F0 m pc ls rest) q) :
    ∃ t, Steps p.tables e below (T.setTop (F0 m pc ls st)) t ∧ Q t := by
  obtain ⟨hx, hb, hml, ho, hw⟩ := F
  obtain ⟨o, t, L, T', ⟨⟨hz, hk⟩, hq⟩, hL, X', e1, e2, hgo⟩ := xc_core (g := F0 m pc ls rest) X hx hM hw hcode hpn hn rfl (hsz.trans hml.symm) (by rw [hb]; exact hdg) hfr
    (by show 2 * 0 + (rest.map fun v => v.category).sum + (maxL + 11) + rm.locals ≤ R.locals; omega) hf.1 hf.2 (hPc _ (by rw [← hT]; rfl) X.warmed)
  have hz' : H.size ≤ t.heap.size := by rw [← hT]; exact hz
  have hk' : ∀ q : Nat, q < H.size → ¬ A q → t.heap[q]? = H[q]? := by
    intro q h1 h2
    rw [← hT] at h1 ⊢
    exact hk q h1 h2
  have hS' : va_S A0 H0 t.heap (locs ++ L) := ⟨Nat.le_trans hS.1 hz', fun q h1 h2 => by rw [hk' q (Nat.lt_of_lt_of_le h1 hS.1) (fun z => h2 (hA q z))]; exact hS.2.1 q h1 h2, fun q hq => by
    rcases List.mem_append.mp hq with h | h
    · exact hS.2.2 q h
    · exact hA _ (hL q h)⟩
  have hW : s.WarmedH t.vm := by rw [← e2]; exact X'.warmed
  rcases hq with ⟨v, ho, hfv⟩ | ⟨q, cls, cell, ho, h1, h2, h3, h4⟩
  · obtain ⟨t2, a1, b1⟩ := kr v t t.heap (locs ++ L) rfl hW hfv hz' hk' hS' T' e1 X'
    exact ⟨t2, hstep t2 (fun acts => ((hgo acts).1 v ho).trans a1), b1⟩
  · obtain ⟨t2, a1, b1⟩ := kt q cls cell t t.heap (locs ++ L) rfl hW h1 h2 (by rw [← hW.alike.findClass]; exact h3) h4 hz' hk' hS' T' e1 X'
    exact ⟨t2, hstep t2 (fun acts => ((hgo acts).2 q ho).trans a1), b1⟩
/-- the facts of a called method that a program decides -/
abbrev xMeth (y : MethodName) (n : Nat) : Prop := plainName y.cls = true ∧ (y.cls ≠ "java/lang/invoke/MethodHandle" ∧ y.cls ≠ "java/lang/invoke/VarHandle") ∧ (parseMethodDescriptor y.desc).map (fun d => d.parameters.length) = some n
theorem xc_V (F : Fx p m c cc nL s args own) (hM : Mq l y bytes maxL ret hh rm (.ref b :: As) Pc A f x) (hcode : xCode y bytes maxL ret hh) (hy : xMeth y As.length)
    (hl : Cond.methodLink own index y ∈ gt) (hi : Cond.instanceMethod y ∈ gt) (hse : Cond.selects C y y ∈ gt) (hrecv : ∃ cell : Cell, H[b]? = some cell ∧ cell.vm.isStatics = false ∧ s.vm.findClass C = some cell.cls)
    (hst : st = As.reverse ++ .ref b :: rest) (hsz : ls.size = nL) (hdg : decode cc pc = .ok (.invokevirtual index, 3)) (hfr : rm.frames + 1 ≤ R.frames) (hlo : (rest.map fun v => v.category).sum + (maxL + 11) + rm.locals ≤ R.locals) (hf : cells + rm.cells ≤ R.cells ∧ slots + rm.slots ≤ R.slots)
    (hPc : ∀ U : State, U.heap = H → s.WarmedH U.vm → Pc U) (hS : va_S A0 H0 H locs) (hA : ∀ q, A q → A0 q)
    (kr : ∀ (v : Option Value) (t : State) (H1 : Heap) (locs1 : List Loc), t.heap = H1 → s.WarmedH t.vm → f v t → H.size ≤ H1.size → (∀ q : Nat, q < H.size → ¬ A q → H1[q]? = H[q]?) → va_S A0 H0 H1 locs1 → W p l e R s m args below meth c H1 locs1 (cells + rm.cells) (slots + rm.slots) Q (F0 m (pc + 3) ls (v.toList ++ rest)))
    (kt : ∀ (q : Addr) (cls : String) (cell : Cell) (t : State) (H1 : Heap) (locs1 : List Loc), t.heap = H1 → s.WarmedH t.vm → H1[q]? = some cell → cell.vm = .none → s.vm.findClass cls = some cell.cls → x cls t → H.size ≤ H1.size → (∀ q : Nat, q < H.size → ¬ A q → H1[q]? = H[q]?) → va_S A0 H0 H1 locs1 → XW p l e R s m args below meth c H1 locs1 (cells + rm.cells) (slots + rm.slots) Q (F0 m pc ls rest) q) :
    W p l e R s m args below meth c H locs cells slots Q (F0 m pc ls st) := by
  intro T hT X
  obtain ⟨hx, hb, hml, ho, hw⟩ := id F
  obtain ⟨mk, methM, hnamed, hmethM, hstM, habM⟩ := Cond.instanceMethod_spec (hw _ hi)
  obtain ⟨methM', cM, hmethM', -, -, -, -, -, -, hsigM⟩ := hcode.spec hw hnamed
  cases Option.some.inj (hmethM.symm.trans hmethM')
  obtain ⟨c2, r2, m2, q1, q2, q3, q4, kP, hkP, hkPi⟩ := Cond.selects_spec (hw _ hse)
  obtain ⟨cellB, hcB, hoB, hclB⟩ := hrecv
  cases Option.some.inj (hclB.symm.trans q1)
  cases Option.some.inj ((State.methodFound?_of_named hnamed hy.2.1).symm.trans q2)
  cases Option.some.inj (hnamed.symm.trans q3)
  have hselP : selectMethod e.platform s.vm cellB.cls mk = .method mk := by rw [Launch.admits_selectMethod X.admits]; exact q4
  have hlen : As.length = methM.sig.parameters.length := by
    have h2 := hy.2.2
    rw [hsigM] at h2
    exact (Option.some.inj h2).symm
  obtain ⟨vm₁, X₁, hstep⟩ := X.invokevirtual hx ho (hw _ hl) hnamed hmethM hstM hkP hkPi hy.2.1 (a := b) (cell := cellB) (by rw [hT]; exact hcB)
    (fun z h => by rw [h] at hoB; cases hoB) hselP hmethM habM hkP hkPi (g := F0 m pc ls st) rfl (argsL := As) (rest := rest) hlen hst (by rw [hb]; exact hdg)
  exact xc_go hT X₁ F hM hcode hy.1 hnamed hstep hsz hdg hfr hlo hf hPc hS hA kr kt
theorem xc_S (F : Fx p m c cc nL s args own) (hM : Mq l y bytes maxL ret hh rm As Pc A f x) (hcode : xCode y bytes maxL ret hh) (hy : xMeth y As.length)
    (hl : Cond.methodLink own index y ∈ gt) (hi : Cond.static y ∈ gt) (hini : Cond.initialized y.cls ∈ gt)
    (hst : st = As.reverse ++ rest) (hsz : ls.size = nL) (hdg : decode cc pc = .ok (.invokestatic index, 3)) (hfr : rm.frames + 1 ≤ R.frames) (hlo : (rest.map fun v => v.category).sum + (maxL + 11) + rm.locals ≤ R.locals) (hf : cells + rm.cells ≤ R.cells ∧ slots + rm.slots ≤ R.slots)
    (hPc : ∀ U : State, U.heap = H → s.WarmedH U.vm → Pc U) (hS : va_S A0 H0 H locs) (hA : ∀ q, A q → A0 q)
    (kr : ∀ (v : Option Value) (t : State) (H1 : Heap) (locs1 : List Loc), t.heap = H1 → s.WarmedH t.vm → f v t → H.size ≤ H1.size → (∀ q : Nat, q < H.size → ¬ A q → H1[q]? = H[q]?) → va_S A0 H0 H1 locs1 → W p l e R s m args below meth c H1 locs1 (cells + rm.cells) (slots + rm.slots) Q (F0 m (pc + 3) ls (v.toList ++ rest)))
    (kt : ∀ (q : Addr) (cls : String) (cell : Cell) (t : State) (H1 : Heap) (locs1 : List Loc), t.heap = H1 → s.WarmedH t.vm → H1[q]? = some cell → cell.vm = .none → s.vm.findClass cls = some cell.cls → x cls t → H.size ≤ H1.size → (∀ q : Nat, q < H.size → ¬ A q → H1[q]? = H[q]?) → va_S A0 H0 H1 locs1 → XW p l e R s m args below meth c H1 locs1 (cells + rm.cells) (slots + rm.slots) Q (F0 m pc ls rest) q) :
    W p l e R s m args below meth c H locs cells slots Q (F0 m pc ls st) := by
  intro T hT X
  obtain ⟨hx, hb, hml, ho, hw⟩ := id F
  obtain ⟨mk, methM, hnamed, hmethM, hstM⟩ : ∃ mk methM, s.methodNamed? y = some mk ∧ s.vm.method? mk = some methM ∧ methM.isStatic = true := by
    have h1 := hw _ hi
    cases hn : s.methodNamed? y with
    | none => simp [Cond.before, Cond.holds, Cond.value, hn] at h1
    | some mk =>
      obtain ⟨methM, cM, h2, -⟩ := hcode.spec hw hn
      exact ⟨mk, methM, rfl, h2, Cond.static_spec hn h2 h1⟩
  obtain ⟨methM', cM, hmethM', -, -, -, -, -, -, hsigM⟩ := hcode.spec hw hnamed
  cases Option.some.inj (hmethM.symm.trans hmethM')
  obtain ⟨kP, hkP, -⟩ := className_of_methodNamed hnamed
  have hinitP : kP.init = .initialized := Cond.initialized_spec (findClass_of_methodNamed hnamed) hkP (hw _ hini)
  have hlen : As.length = methM.sig.parameters.length := by
    have h2 := hy.2.2
    rw [hsigM] at h2
    exact (Option.some.inj h2).symm
  obtain ⟨vm₁, X₁, hstep⟩ := X.invokestatic hx ho (hw _ hl) hnamed hmethM hstM hkP hinitP hy.2.1 (g := F0 m pc ls st) rfl (argsL := As) (rest := rest) hlen hst (by rw [hb]; exact hdg)
  exact xc_go hT X₁ F hM hcode hy.1 hnamed hstep hsz hdg hfr hlo hf hPc hS hA kr kt
theorem xc_I (F : Fx p m c cc nL s args own) (hM : Mq l y bytes maxL none [] rm (.ref b :: As) Pc A f x) (hcode : Cond.code y bytes maxL none ∈ gt) (hy : xMeth y As.length) (hy1 : y.name = "<init>")
    (hl : Cond.methodLink own index y ∈ gt ∨ va_Nw (.methodLinkNest own index y host) s) (hi : Cond.instanceMethod y ∈ gt)
    (hst : st = As.reverse ++ .ref b :: rest) (hsz : ls.size = nL) (hdg : decode cc pc = .ok (.invokespecial index, 3)) (hfr : rm.frames + 1 ≤ R.frames) (hlo : (rest.map fun v => v.category).sum + (maxL + 11) + rm.locals ≤ R.locals) (hf : cells + rm.cells ≤ R.cells ∧ slots + rm.slots ≤ R.slots)
    (hPc : ∀ U : State, U.heap = H → s.WarmedH U.vm → Pc U) (hS : va_S A0 H0 H locs) (hA : ∀ q, A q → A0 q)
    (kr : ∀ (v : Option Value) (t : State) (H1 : Heap) (locs1 : List Loc), t.heap = H1 → s.WarmedH t.vm → f v t → H.size ≤ H1.size → (∀ q : Nat, q < H.size → ¬ A q → H1[q]? = H[q]?) → va_S A0 H0 H1 locs1 → W p l e R s m args below meth c H1 locs1 (cells + rm.cells) (slots + rm.slots) Q (F0 m (pc + 3) ls (v.toList ++ rest)))
    (kt : ∀ (q : Addr) (cls : String) (cell : Cell) (t : State) (H1 : Heap) (locs1 : List Loc), t.heap = H1 → s.WarmedH t.vm → H1[q]? = some cell → cell.vm = .none → s.vm.findClass cls = some cell.cls → x cls t → H.size ≤ H1.size → (∀ q : Nat, q < H.size → ¬ A q → H1[q]? = H[q]?) → va_S A0 H0 H1 locs1 → XW p l e R s m args below meth c H1 locs1 (cells + rm.cells) (slots + rm.slots) Q (F0 m pc ls rest) q) :
    W p l e R s m args below meth c H locs cells slots Q (F0 m pc ls st) := by
  intro T hT X
  obtain ⟨hx, hb, hml, ho, hw⟩ := id F
  have hpl : e.platform.magicAccessors = ({} : Platform).magicAccessors := by rw [X.admits.platform]
  have hlen : ∀ sig, parseMethodDescriptor y.desc = some sig → As.length = sig.parameters.length := fun sig h => by
    have h2 := hy.2.2
    rw [h] at h2
    exact (Option.some.inj h2).symm
  rcases hl with hl | hl
  · obtain ⟨mk, methM, cM, kP, vm₁, hnamed, -, -, -, -, -, -, -, hW₁, hstep⟩ := Steps.initColdArgs (e := e) X.here hx X.warmed hpl ho hy1 hy.2.1 (hw _ hl) (hw _ hi) (hw _ hcode) (f := F0 m pc ls st) rfl hlen hst (by rw [hb]; exact hdg)
    exact xc_go hT (X.noted hW₁) F hM (Or.inl ⟨rfl, hcode⟩) hy.1 hnamed hstep hsz hdg hfr hlo hf hPc hS hA kr kt
  · obtain ⟨mk, methM, cM, kP, vm₁, hnamed, -, -, -, -, -, -, -, hW₁, hstep⟩ := Steps.initColdArgsNest (e := e) X.here hx X.warmed hpl ho hy1 hy.2.1 (va_Nw.use rfl hl) (hw _ hi) (hw _ hcode) (f := F0 m pc ls st) rfl hlen hst (by rw [hb]; exact hdg)
    exact xc_go hT (X.noted hW₁) F hM (Or.inl ⟨rfl, hcode⟩) hy.1 hnamed hstep hsz hdg hfr hlo hf hPc hS hA kr kt
/-- a method that never throws: the second goal of a call of it -/
theorem xt_no {α : Prop} (h : False) : α := h.elim
/-! ends -/
theorem xe_mq {mc ms : Nat} {Qc : State → Outcome → State → Prop} {free : Addr → Prop} {t : State} (h : MQ below (fun _ => Qc) args s mc ms free t) : xMQ below Qc s mc ms free t := by
  obtain ⟨o, h1, h2, h3, L, ⟨h4, h5, h6⟩, h7⟩ := h
  exact ⟨o, h1, h2, h3, L, ⟨h5, h6⟩, h7⟩
theorem xe_up {Q2 : State → Prop} {g : JFrame} (h : ∀ t, Q t → Q2 t) (k : W p l e R s m args below meth c H locs cells slots Q g) : W p l e R s m args below meth c H locs cells slots Q2 g := by
  intro T hT X
  obtain ⟨t, a, b⟩ := k T hT X
  exact ⟨t, a, h t b⟩
variable {mc ms : Nat}
theorem xe_i (hx : p.tables.exec = Jvm.exec) (hb : c.code = cc) (hr : meth.sig.returnType = some .int) (hlk : meth.locks = false) (hS : va_S A s.heap H locs) {v : Int32} (hq : ∀ t : State, t.heap = H → s.WarmedH t.vm → f (some (.int v)) t) (hc : cells ≤ mc) (hs : slots ≤ ms) (hdg : decode cc pc = .ok (.ireturn, 1)) :
    W p l e R s m args below meth c H locs cells slots (xMQ below (QQ A f x) s mc ms A) (F0 m pc ls [.int v]) :=
  W.widen hc hs (xe_up (fun _ h => xe_mq h) (W.iret (Qc := fun _ => QQ A f x) hx hb hr (fun t ht hW => ⟨hS.F ht, Or.inl ⟨_, rfl, hq t ht hW⟩⟩) hS.2.2 hdg hlk))
theorem xe_z (hx : p.tables.exec = Jvm.exec) (hb : c.code = cc) (hr : meth.sig.returnType = some .boolean) (hlk : meth.locks = false) (hS : va_S A s.heap H locs) {v : Int32} (hv : narrow .boolean (.int v) = .int v) (hq : ∀ t : State, t.heap = H → s.WarmedH t.vm → f (some (.int v)) t) (hc : cells ≤ mc) (hs : slots ≤ ms) (hdg : decode cc pc = .ok (.ireturn, 1)) :
    W p l e R s m args below meth c H locs cells slots (xMQ below (QQ A f x) s mc ms A) (F0 m pc ls [.int v]) :=
  W.widen hc hs (xe_up (fun _ h => xe_mq h) (W.zret (Qc := fun _ => QQ A f x) hx hb hr hv (fun t ht hW => ⟨hS.F ht, Or.inl ⟨_, rfl, hq t ht hW⟩⟩) hS.2.2 hdg hlk))
theorem xe_l (hx : p.tables.exec = Jvm.exec) (hb : c.code = cc) (hr : meth.sig.returnType = some .long) (hlk : meth.locks = false) (hS : va_S A s.heap H locs) {v : Int64} (hq : ∀ t : State, t.heap = H → s.WarmedH t.vm → f (some (.long v)) t) (hc : cells ≤ mc) (hs : slots ≤ ms) (hdg : decode cc pc = .ok (.lreturn, 1)) :
    W p l e R s m args below meth c H locs cells slots (xMQ below (QQ A f x) s mc ms A) (F0 m pc ls [.long v]) :=
  W.widen hc hs (xe_up (fun _ h => xe_mq h) (W.lret (Qc := fun _ => QQ A f x) hx hb hr (fun t ht hW => ⟨hS.F ht, Or.inl ⟨_, rfl, hq t ht hW⟩⟩) hS.2.2 hdg hlk))
theorem xe_v (hx : p.tables.exec = Jvm.exec) (hb : c.code = cc) (hr : meth.sig.returnType = none) (hlk : meth.locks = false) (hS : va_S A s.heap H locs) (hq : ∀ t : State, t.heap = H → s.WarmedH t.vm → f none t) (hc : cells ≤ mc) (hs : slots ≤ ms) (hdg : decode cc pc = .ok (.return_, 1)) :
    W p l e R s m args below meth c H locs cells slots (xMQ below (QQ A f x) s mc ms A) (F0 m pc ls []) :=
  W.widen hc hs (xe_up (fun _ h => xe_mq h) (W.vret (Qc := fun _ => QQ A f x) hx hb hr (fun t ht hW => ⟨hS.F ht, Or.inl ⟨_, rfl, hq t ht hW⟩⟩) hS.2.2 hdg hlk))
theorem xe_a {cl : String} (hx : p.tables.exec = Jvm.exec) (hb : c.code = cc) (hr : meth.sig.returnType = some (.object cl)) (hlk : meth.locks = false) (hS : va_S A s.heap H locs) {v : Nat} (hq : ∀ t : State, t.heap = H → s.WarmedH t.vm → f (some (.ref v)) t) (hc : cells ≤ mc) (hs : slots ≤ ms) (hdg : decode cc pc = .ok (.areturn, 1)) :
    W p l e R s m args below meth c H locs cells slots (xMQ below (QQ A f x) s mc ms A) (F0 m pc ls [.ref v]) :=
  W.widen hc hs (xe_up (fun _ h => xe_mq h) (W.aret (Qc := fun _ => QQ A f x) hx hb hr (Or.inl ⟨_, rfl⟩) (Or.inr ⟨_, rfl⟩) (fun t ht hW => ⟨hS.F ht, Or.inl ⟨_, rfl, hq t ht hW⟩⟩) hS.2.2 hdg hlk))
/-- what was thrown goes on to the caller -/
theorem xe_t {q : Addr} {cls : String} {cell : Cell} (htab : c.exceptionTable.toList = tableOf []) (hlk : meth.locks = false) (hS : va_S A s.heap H locs) (hq : H[q]? = some cell) (hv : cell.vm = .none) (hcl : s.vm.findClass cls = some cell.cls) (hx : ∀ t : State, t.heap = H → s.WarmedH t.vm → x cls t) (hc : cells ≤ mc) (hs : slots ≤ ms) :
    XW p l e R s m args below meth c H locs cells slots (xMQ below (QQ A f x) s mc ms A) (F0 m pc ls rest) q := by
  intro T hT X
  have X2 := stand_widen X hc hs
  obtain ⟨h1, h2, h3, h4, h5⟩ := X2.leaveThrown q (g := F0 m pc ls rest) rfl rfl rfl (by rw [htab]; exact fun z hz => by cases hz) hlk
  refine ⟨_, h1, .threw q, h2, h3, ⟨hS.F hT, Or.inr ⟨q, cls, cell, rfl, by rw [show (T.setFrames (.throwing q :: below)).heap = T.heap from rfl, hT]; exact hq, hv, ?_, hx _ hT h4⟩⟩, locs, ⟨h4, h5⟩, hS.2.2⟩
  rw [h4.alike.findClass]
  exact hcl
end XRows
