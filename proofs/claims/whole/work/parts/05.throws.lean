/-! what the tables say beyond gt, and 'throw new E("text")' -/
def isNw (w : Cond) : Bool := match w with
  | .fieldLinkNest _ _ _ _ _ _ => true
  | .methodLinkNest _ _ _ _ => true
  | .castable _ _ => true
  | .declares _ => true
  | _ => false
def nwt : List Cond := lw_tbl.filter isNw
theorem nwm {w : Cond} (h : w ∈ lw_tbl) (hg : isNw w = true) : w ∈ nwt := List.mem_filter.mpr ⟨h, hg⟩
def NW (U : State) : Prop := ∀ w ∈ nwt, va_Nw w U
theorem NW.warm {s U : State} (hW : s.WarmedH U.vm) (h : NW s) : NW U := fun w hw => by
  have h1 := h w hw
  have h2 := (List.mem_filter.mp hw).2
  cases w <;> first | exact va_Nw.warmF hW h1 | exact va_Nw.warmM hW h1 | exact va_Nw.warmC hW h1 | exact va_Nw.warmD hW h1 | (cases h2)
/-- the texts of the class: place in its pool, and text -/
def strs : List (Nat × String) := [(47, "life and bound are 1 to 1000000"), (58, "there are 8 things"), (227, "there is no such thing"), (75, "the thing is barred"), (78, "units are 1 to 1000000"), (229, "what is 0 to 2"), (94, "a draw is 0 to 1000"), (117, "the permit is so already"), (125, "a change's number is 0 or more"), (231, "hours are 0 to 168, the second behind the first"), (138, "there are 6 gaps"), (233, "a skill is 0 to 3"), (152, "there are 4 persons"), (158, "hours are 1 to 24, waiting is 0 to 1000"), (163, "there are 5 repairs"), (169, "rest is 0 to 24, failing is 0 to 1000000"), (186, "there is no such repair"), (235, "there is no plan"), (221, "a kind is 0 to 3"), (223, "spares are 0 to 100 at once"), (225, "a kind has at most 1000 spares")]
def SR (U : State) : Prop := ∀ q ∈ strs, ∃ a, vk_R "WearHours" q.1 q.2 a U
theorem SR.warm {s U : State} (hW : s.WarmedH U.vm) (h : SR s) : SR U := fun q hq => by
  obtain ⟨a, ha⟩ := h q hq
  exact ⟨a, vk_R.warm hW ha⟩
/-- a static of Throwable's that holds a reference or null -/
def stZ (n d : String) (U : State) (H : Heap) : Prop := ∃ (c : ClassId) (k : Class) (i : Nat) (f : Field) (a : Nat) (cell : Cell), U.vm.findClass Bundle.tN = some c ∧ U.fieldFound? Bundle.tN n d = some (c, k, i, f) ∧ f.isStatic = true ∧ k.statics = some a ∧ H[a]? = some cell ∧ cell.vm.isStatics = true ∧ cell.cls = c ∧
  f.slot < cell.slots.size ∧ k.staticTypes[f.slot]? = some f.type ∧ (cell.slots[f.slot]? = some .null ∨ ∃ t, cell.slots[f.slot]? = some (.ref t))
theorem stZ.of {n d : String} {args : Array Value} {U : State} (h : (Cond.laysStatic Bundle.tN n d).before args U = true) (h2 : (Cond.isRef (.static Bundle.tN n d)).before args U = true) : stZ n d U U.heap := by
  obtain ⟨c, k, i, f, a, cell, e1, e2, e3, e4, e5, e6, e7, e8, e9⟩ := Cond.laysStatic_spec h
  refine ⟨c, k, i, f, a, cell, e1, e2, e3, e4, e5, e6, e7, e8, e9, ?_⟩
  have he : (Term.static Bundle.tN n d).eval args U none [] U = cell.slots[f.slot]? := by
    simp [Term.eval, State.fieldNamed?, e2, e3, e4, e5, e6]
  simp only [Cond.before, Cond.holds, Cond.value] at h2
  rw [he] at h2
  cases hv : cell.slots[f.slot]? with
  | none => simp [hv] at h2
  | some v =>
    cases v with
    | null => exact Or.inl rfl
    | ref t => exact Or.inr ⟨t, rfl⟩
    | _ => simp [hv] at h2
theorem stZ.to {n d : String} {args : Array Value} {U : State} (h : stZ n d U U.heap) : (Cond.laysStatic Bundle.tN n d).before args U = true ∧ (Cond.isRef (.static Bundle.tN n d)).before args U = true := by
  obtain ⟨c, k, i, f, a, cell, e1, e2, e3, e4, e5, e6, e7, e8, e9, e10⟩ := h
  refine ⟨?_, ?_⟩
  · simp only [Cond.before, Cond.holds, Cond.value, e1, e2, e4, e5, Option.bind_some, Option.map_some]
    simp [e3, e6, e7, e8, e9]
  · have he : (Term.static Bundle.tN n d).eval args U none [] U = cell.slots[f.slot]? := by
      simp [Term.eval, State.fieldNamed?, e2, e3, e4, e5, e6]
    simp only [Cond.before, Cond.holds, Cond.value]
    rw [he]
    rcases e10 with h | ⟨t, h⟩ <;> simp [h]
theorem stZ.moved {n d : String} {u U : State} {H : Heap} (hvm : u.vm.Alike U.vm) (h : stZ n d u H) : stZ n d U H := by
  obtain ⟨c, k, i, f, a, cell, e1, e2, e3, e4, e5, e6, e7, e8, e9, e10⟩ := h
  obtain ⟨k', hi', he⟩ := State.fieldFound?_setVm hvm e2
  exact ⟨c, k', i, f, a, cell, by rw [hvm.findClass]; exact e1, hi', e3, by rw [he]; exact e4, e5, e6, e7, e8, by rw [he]; exact e9, e10⟩
/-- cells that a method may change hold no statics -/
def noSt (A : Nat → Prop) (H : Heap) : Prop := ∀ (q : Nat) (cell : Cell), A q → H[q]? = some cell → cell.vm.isStatics = false
theorem stZ.kept {n d : String} {U : State} {H H1 : Heap} {A : Nat → Prop} (h : stZ n d U H) (hA : noSt A H) (hq : ∀ a : Nat, a < H.size → ¬ A a → H1[a]? = H[a]?) : stZ n d U H1 := by
  obtain ⟨c, k, i, f, a, cell, e1, e2, e3, e4, e5, e6, e7, e8, e9, e10⟩ := h
  refine ⟨c, k, i, f, a, cell, e1, e2, e3, e4, ?_, e6, e7, e8, e9, e10⟩
  rw [hq a (Array.getElem?_eq_some_iff.mp e5).1 (fun z => by have := hA a cell z e5; rw [e6] at this; cases this)]
  exact e5
def ST (U : State) (H : Heap) : Prop := stZ "UNASSIGNED_STACK" Bundle.steD U H ∧ stZ "SUPPRESSED_SENTINEL" Bundle.listD U H
theorem ST.moved {u U : State} {H : Heap} (hvm : u.vm.Alike U.vm) (h : ST u H) : ST U H := ⟨h.1.moved hvm, h.2.moved hvm⟩
theorem ST.kept {U : State} {H H1 : Heap} {A : Nat → Prop} (h : ST U H) (hA : noSt A H) (hq : ∀ a : Nat, a < H.size → ¬ A a → H1[a]? = H[a]?) : ST U H1 := ⟨h.1.kept hA hq, h.2.kept hA hq⟩
/-- the words of the statics -/
def stw : List Cond := [.laysStatic Bundle.tN "UNASSIGNED_STACK" Bundle.steD, .isRef (.static Bundle.tN "UNASSIGNED_STACK" Bundle.steD), .laysStatic Bundle.tN "SUPPRESSED_SENTINEL" Bundle.listD, .isRef (.static Bundle.tN "SUPPRESSED_SENTINEL" Bundle.listD)]
def xNames : List String := ["java/lang/RuntimeException", "java/lang/Exception"]
abbrev xAtoms (ic : Nat) (cls : String) : Prop := ∀ w ∈ Bundle.ownAtoms "WearHours" ic cls xNames, w ∈ gt ∨ w ∈ nwt ∨ w ∈ stw
theorem xAtoms.at {ic : Nat} {cls : String} (h : xAtoms ic cls) {args : Array Value} {U : State} (hw : ∀ w ∈ gt, w.before args U = true) (hN : NW U) (hZ : ST U U.heap) : ∀ w ∈ Bundle.ownAtoms "WearHours" ic cls xNames, w.before args U = true := by
  intro w hm
  rcases h w hm with h1 | h1 | h1
  · exact hw w h1
  · have h2 := hN w h1
    have h3 := (List.mem_filter.mp h1).2
    cases w <;> first | exact va_Nw.use rfl h2 | (cases h3)
  · simp only [stw, List.mem_cons, List.not_mem_nil, or_false] at h1
    rcases h1 with rfl | rfl | rfl | rfl
    · exact hZ.1.to.1
    · exact hZ.1.to.2
    · exact hZ.2.to.1
    · exact hZ.2.to.2
section XThrow
variable {p : Program} {l : Launch} {e : Env} {R : Room} {s : State} {m : MethodId} {args : Array Value} {below : List Frame} {meth : Method} {c : Code} {H : Heap} {locs : List Loc} {cells slots : Nat} {Q : State → Prop}
/-- the same walk, told from where it stands -/
theorem x_here {T : State} (X : Stand p l e R s m args below meth c T locs cells slots) {R' : Room} (h1 : R'.frames ≤ R.frames) (h2 : R'.locals ≤ R.locals) (h3 : cells + R'.cells ≤ R.cells) (h4 : slots + R'.slots ≤ R.slots) :
    Stand p l e R' ((T.setVm s.vm).setFrames (.invoking m args :: below)) m args below meth c T [] 0 0 := by
  obtain ⟨g₀, hfr⟩ := X.frames_eq
  have hcur : T.cur < T.threads.size := State.cur_lt_of_frames hfr
  have hF : ((T.setVm s.vm).setFrames (.invoking m args :: below)).frames = .invoking m args :: below := State.frames_setFrames _ hcur
  have hlim : e.platform.stackLimits ((T.setVm s.vm).setFrames (.invoking m args :: below)).me = e.platform.stackLimits s.me := by rw [State.stackLimits_setFrames]; exact X.limits
  have hby : ((T.setVm s.vm).setFrames (.invoking m args :: below)).me.stackBytes = s.me.stackBytes := by rw [State.stackBytes_setFrames]; exact X.bytes
  have hloc : ((T.setVm s.vm).setFrames (.invoking m args :: below)).localsInUse = s.localsInUse := by
    rw [State.localsInUse_invoking hF (meth := meth) (c := c) X.method X.code, State.localsInUse_invoking X.frames X.method X.code]
  have hz := X.heapSize
  have hu := X.used
  refine { admits := X.admits, cas := X.cas, clock := X.clock, frames := hF, room := ?_, hears := X.hears, method := X.method, code := X.code, here := X.here, tail := X.tail, warmed := X.warmed, limits := ?_, bytes := ?_, same := ?_ }
  · have hr := X.room
    simp only [State.hasRoom, Bool.and_eq_true, decide_eq_true_eq, X.frames, List.length_cons] at hr
    simp only [State.hasRoom, Bool.and_eq_true, decide_eq_true_eq, hF, hlim, hby, hloc, List.length_cons]
    obtain ⟨⟨⟨⟨a1, a2, a3, a4, a5, a6⟩, a7⟩, a8⟩, a9⟩ := hr
    refine ⟨⟨⟨⟨by omega, by omega, by omega, by omega, by omega, a6⟩, ?_⟩, ?_⟩, X.book⟩
    · show T.heap.size + R'.cells ≤ _
      omega
    · show T.slotsUsed + R'.slots ≤ _
      omega
  · rw [hlim]; exact X.limits
  · rw [hby]; exact X.bytes
  · have hd : (T.heap.toList.drop T.heap.size) = [] := List.drop_eq_nil_of_le (Nat.le_of_eq Array.length_toList)
    refine ⟨?_, Nat.le_refl _, Nat.le_refl _, ?_, ?_, fun a c9 h9 => ⟨c9, h9, rfl, rfl, fun _ _ => rfl⟩⟩
    · obtain ⟨t, ht, -⟩ := State.frames_cons hfr
      show T.setVm s.vm = { ((T.setVm s.vm).setFrames (.invoking m args :: below)).setFrames (T.setVm s.vm).frames with heap := T.heap, slotsUsed := T.slotsUsed }
      have hself : (T.setVm s.vm).setFrames (T.setVm s.vm).frames = T.setVm s.vm := State.setFrames_self (s := T.setVm s.vm) ht
      rw [State.setFrames_setFrames, hself]
      rfl
    · show T.slotsUsed = T.slotsUsed + ((T.heap.toList.drop T.heap.size).map (·.slots.size)).sum
      rw [hd]; rfl
    · show ((T.heap.toList.drop T.heap.size).map (·.slots.size)).sum ≤ 0
      rw [hd]; exact Nat.le_refl _
variable {cc : ByteArray} {nL pc ik is ic mc ms : Nat} {rest : List Value} {A : Nat → Prop} {f : Option Value → State → Prop} {x : String → State → Prop} {ls : Array Slot} {cls text : String}
theorem x_throw (F : Fx p m c cc nL s args "WearHours") (hfl : l.flags = flags0) (hN : NW s) (hSR : SR s) (hZ : ST s s.heap) (hA : noSt A s.heap) (hS : va_S A s.heap H locs) (htab : c.exceptionTable.toList = tableOf []) (hlk : meth.locks = false)
    (hk : Cond.classLink "WearHours" ik cls ∈ gt) (hini : Cond.initialized cls ∈ gt) (hat : xAtoms ic cls) (hfit : Bundle.fit cls = true) (hstr : (is, text) ∈ strs) (hsz : ls.size = nL)
    (d0 : decode cc pc = .ok (.new ik, 3)) (d3 : decode cc (pc + 3) = .ok (.dup, 1)) (d4 : decode cc (pc + 4) = .ok (.ldc is, 2)) (d6 : decode cc (pc + 6) = .ok (.invokespecial ic, 3)) (d9 : decode cc (pc + 9) = .ok (.athrow, 1))
    (hRf : 6 ≤ R.frames) (hRl : (rest.map fun v => v.category).sum + 90 ≤ R.locals) (hRc : cells + 1 ≤ R.cells) (hRs : slots + 6 ≤ R.slots) (hc : cells + 1 ≤ mc) (hs : slots + 6 ≤ ms)
    (hx : ∀ t : State, s.WarmedH t.vm → H.size ≤ t.heap.size → (∀ q : Nat, q < H.size → t.heap[q]? = H[q]?) → x cls t) :
    W p l e R s m args below meth c H locs cells slots (xMQ below (QQ A f x) s mc ms A) (F0 m pc ls rest) := by
  intro T hT X
  obtain ⟨hx0, hb, hml, ho, hw⟩ := F
  have htr : e.platform.stackTraces = false := Launch.traces_off hfl X.admits
  have Y := x_here X (R' := { frames := R.frames, locals := R.locals, cells := 1, slots := 6 }) (Nat.le_refl _) (Nat.le_refl _) hRc hRs
  obtain ⟨s', hs'⟩ : ∃ z, z = (T.setVm s.vm).setFrames (.invoking m args :: below) := ⟨_, rfl⟩
  rw [← hs'] at Y
  have hvm : s'.vm = s.vm := by rw [hs']; rfl
  have hhp : s'.heap = H := by rw [hs']; exact hT
  have hW0 : s.WarmedH s'.vm := by rw [hvm]; exact State.WarmedH.refl s
  have hw' : ∀ w ∈ gt, w.before args s' = true := fun w h => word_at hW0 (gt_good (List.mem_filter.mp h).2) (hw w h)
  have hN' : NW s' := hN.warm hW0
  have hZ' : ST s' s'.heap := by rw [hhp]; exact (hZ.kept hA hS.2.1).moved hW0.alike
  obtain ⟨sa, hsa⟩ := hSR.warm hW0 (is, text) hstr
  have ho' : s'.vm.findClass "WearHours" = some m.cls := by rw [hvm]; exact ho
  have h := hat.at hw' hN' hZ'
  have hins : (Cond.instantiable cls 6).before args s' = true := h _ (by simp [Bundle.ownAtoms])
  obtain ⟨vm₁, cX, kX, hfX, hkX, -, -, X₁, st1⟩ := Y.newCold hx0 (own := "WearHours") (C := cls) (index := ik) (n := 6) ho' (hw' _ hk) hins (hw' _ hini)
    (g := F0 m pc ls rest) rfl (by rw [hb]; exact d0) (Nat.le_refl _) (Nat.le_refl _)
  generalize hT1 : (T.setVm vm₁).pushCell { cls := cX, slots := kX.instanceTypes.map defaultValue, vm := .none } = T1 at X₁ st1
  have hcell : T1.heap[T.heap.size]? = some (freshCell cX kX) := by rw [← hT1]; exact State.heap_pushCell_size _ _
  have d3' : decode c.code (pc + 3) = .ok (.dup, 1) := by rw [hb]; exact d3
  have d4' : decode c.code (pc + 4) = .ok (.ldc is, 2) := by rw [hb]; exact d4
  have hcat : (Value.ref T.heap.size).category = 1 := rfl
  obtain ⟨U, hsteps, hrun, hend, hWU, hsame, ce, hce, hO⟩ := X₁.ctorThrowS hx0 htr (own := "WearHours") (cls := cls) (names := xNames) (ic := ic) ho' hfit (by decide) h (fun z hz => nomatch hz) hfX hkX hcell (by rw [hhp, hT]; exact Nat.le_refl _) (msg := .ref sa) rfl
    (g := F0 m (pc + 6) ls (.ref sa :: .ref T.heap.size :: .ref T.heap.size :: rest)) rfl (hsz.trans hml.symm) rfl rfl (rest := rest) rfl
    (by rw [hb]; exact d6) (by rw [hb]; exact d9) (by rw [htab]; exact fun z hz => nomatch hz) (by show 2 + 3 < R.frames; omega) (by show 2 * 0 + ((Value.ref T.heap.size :: rest).map fun v => v.category).sum + (13 * (2 + 1) + 42) ≤ R.locals; simp only [List.map_cons, List.sum_cons, hcat]; omega) hlk
  have hWs : s.WarmedH U.vm := State.WarmedH.trans hW0 hWU
  obtain ⟨e1, e2, e3, e4, e5, e6⟩ := id hsame
  have hz : H.size ≤ U.heap.size := by rw [← hhp]; exact e2
  have hk' : ∀ q : Nat, q < H.size → U.heap[q]? = H[q]? := by
    intro q hq
    rw [← hhp] at hq ⊢
    obtain ⟨c', g1, g2, g3, g4⟩ := e6 q s'.heap[q] (Array.getElem?_eq_getElem hq)
    have g1' : U.heap[q]? = some c' := g1
    rw [g1', Array.getElem?_eq_getElem hq, g2]
    have g5 : c'.slots = s'.heap[q].slots := Array.ext_getElem? (fun i => g4 i (fun z => nomatch z))
    rw [g5]
  have hall : s.sameButNew ({ U with vm := s.vm } : State) locs mc ms := by
    subst hs'
    rw [State.setFrames_setFrames] at e1
    have h2 : (T.setVm s.vm).sameButNew ({ U with vm := s.vm } : State) [] (0 + 1) (0 + 6) := ⟨e1, e2, e3, e4, e5, e6⟩
    have h3 := X.same.trans h2
    rw [List.append_nil] at h3
    exact h3.mono hc hs
  refine ⟨U, ?_, .threw T.heap.size, hrun, hend, ⟨⟨Nat.le_trans hS.1 hz, fun q h1 h2 => ?_⟩, Or.inr ⟨_, cls, ce, rfl, hce, hO.vm, ?_, hx U hWs hz hk'⟩⟩, locs, ⟨hWs, hall⟩, hS.2.2⟩
  · refine st1 _ ?_
    show Steps p.tables e below (T1.setTop (F0 m (pc + 3) ls (.ref T.heap.size :: rest))) _
    jvm_step X₁.here [X₁.here.top, hx0, d3', Value.category]
    exact X₁.ldcString hx0 (own := "WearHours") (text := text) (index := is) (a := sa) ho' hsa.1 hsa.2 (g := F0 m (pc + 4) ls (.ref T.heap.size :: .ref T.heap.size :: rest)) rfl d4' _ hsteps
  · rw [hk' q (Nat.lt_of_lt_of_le h1 hS.1)]
    exact hS.2.1 q h1 h2
  · rw [hWU.alike.findClass]
    exact hO.cls
end XThrow
