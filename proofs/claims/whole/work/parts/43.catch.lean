/-! what was thrown is caught -/
theorem go_cold {E : CtlPost} {e : Env} {d : Bool} {acts : List Action} {s : State} {f : JFrame} {a : Addr} {Q : Handler → Pre} {x : ExceptionTableEntry} {t : List ExceptionTableEntry} {c : ClassId} {vm' : Vm} {cell : Cell} (hx : covers x f.pc = true) (h0 : x.catchType ≠ 0)
    (hg : (Jvm.resolveClass f.method.cls x.catchType).Gives e.toSetting s.vm (.ok c) vm') (hsz : vm'.classes.size ≤ s.vm.classes.size) (hcell : s.heap[a]? = some cell) (hobj : ∀ k, cell.vm ≠ .statics k) (hk : ∃ k, vm'.classes[cell.cls]? = some k) (hc : ∃ k, vm'.classes[c]? = some k) :
    wp (findHandler.go f a (x :: t)) Q E e d acts s ↔ if vm'.assignable cell.cls c = true then Q (.found x.handlerPc) d acts (s.setVm vm') else wp (findHandler.go f a t) Q E e d acts (s.setVm vm') := by
  simp only [covers] at hx
  obtain ⟨ha, ht⟩ := hg.op (op := VmOp.resolveClass f.method.cls x.catchType) rfl
  cases hfit : vm'.assignable cell.cls c <;> simp [findHandler.go, hx, h0, ha, ht, hsz, hcell, hobj, hk, hc, hfit, VmOp.dirties, VmOp.acts]
/-- exceptions that are none of another kind -/
def ncl : List (String × String) := [("java/lang/UnsupportedOperationException", "java/lang/IndexOutOfBoundsException"), ("java/lang/UnsupportedOperationException", "java/lang/IllegalStateException"), ("java/lang/UnsupportedOperationException", "java/lang/IllegalArgumentException"), ("java/lang/IndexOutOfBoundsException", "java/lang/UnsupportedOperationException"), ("java/lang/IndexOutOfBoundsException", "java/lang/IllegalStateException"), ("java/lang/IndexOutOfBoundsException", "java/lang/IllegalArgumentException"), ("java/lang/IllegalStateException", "java/lang/UnsupportedOperationException"), ("java/lang/IllegalStateException", "java/lang/IndexOutOfBoundsException"), ("java/lang/IllegalStateException", "java/lang/IllegalArgumentException"), ("java/lang/IllegalArgumentException", "java/lang/UnsupportedOperationException"), ("java/lang/IllegalArgumentException", "java/lang/IndexOutOfBoundsException"), ("java/lang/IllegalArgumentException", "java/lang/IllegalStateException")]
def NCs (U : State) : Prop := ∀ q ∈ ncl, ∀ c t, U.vm.findClass q.1 = some c → U.vm.findClass q.2 = some t → U.vm.assignable c t = false
theorem NCs.warm {s U : State} (hW : s.WarmedH U.vm) (h : NCs s) : NCs U := fun q hq c t h1 h2 => by
  rw [hW.alike.findClass] at h1 h2
  rw [hW.alike.assignable]
  exact h q hq c t h1 h2
section Catch
variable {p : Program} {l : Launch} {e : Env} {R : Room} {s : State} {m : MethodId} {args : Array Value} {below : List Frame} {meth : Method} {c : Code} {H : Heap} {locs : List Loc} {cells slots : Nat} {Q : State → Prop}
/-- the search through the table, cold -/
theorem go_all {own cls : String} {a : Addr} {cell : Cell} {f : JFrame} {T : State} (hpl : e.platform.magicAccessors = ({} : Platform).magicAccessors) (hown : s.vm.findClass own = some f.method.cls) (hw : ∀ w ∈ gt, w.before args s = true) (hNC : NCs s) (hcell : T.heap[a]? = some cell) (hv : cell.vm = .none) (hcl : s.vm.findClass cls = some cell.cls) (hca : ∀ t, s.vm.findClass cls = some t → s.vm.assignable t t = true)
    {st en h ct : Nat} {rest : List (Nat × Nat × Nat × Nat)} (hhit : covers ⟨st, en, h, ct⟩ f.pc = true) (h0 : ct ≠ 0) (hlk : Cond.classLink own ct cls ∈ gt) : ∀ (pre : List ((Nat × Nat × Nat × Nat) × String)), (∀ y ∈ pre, covers ⟨y.1.1, y.1.2.1, y.1.2.2.1, y.1.2.2.2⟩ f.pc = true ∧ y.1.2.2.2 ≠ 0 ∧ Cond.classLink own y.1.2.2.2 y.2 ∈ gt ∧ (cls, y.2) ∈ ncl) →
    ∀ vm₁ : Vm, s.WarmedH vm₁ → ∃ vm', s.WarmedH vm' ∧ ∀ (Q : Handler → Pre) (E : CtlPost) (d : Bool) (acts : List Action), wp (findHandler.go f a (tableOf (pre.map (·.1) ++ (st, en, h, ct) :: rest))) Q E e d acts (T.setVm vm₁) ↔ Q (.found h) d acts (T.setVm vm') := by
  have hobj : ∀ k, cell.vm ≠ .statics k := fun k q => by rw [hv] at q; cases q
  have hcls : ∃ k, s.vm.classes[cell.cls]? = some k := Vm.classAt_of_findClass hcl
  have one : ∀ (ct : Nat) (C : String), Cond.classLink own ct C ∈ gt → ∀ vm₁ : Vm, s.WarmedH vm₁ → ∃ (cC : ClassId) (vm' : Vm), s.vm.findClass C = some cC ∧ s.WarmedH vm' ∧ (Jvm.resolveClass f.method.cls ct).Gives e.toSetting vm₁ (.ok cC) vm' ∧ vm'.classes.size ≤ vm₁.classes.size ∧ (∃ k, vm'.classes[cell.cls]? = some k) ∧ ∃ k, vm'.classes[cC]? = some k := by
    intro ct C hl vm₁ hW
    obtain ⟨cC, hf, hlinks⟩ := Cond.classLink_spec hown (hw _ hl) e.platform hpl
    obtain ⟨h1, h2, -⟩ := State.classEntry (e := e) hW hlinks
    obtain ⟨k, hk⟩ := hcls
    obtain ⟨k2, hk2⟩ := Vm.classAt_of_findClass hf
    obtain ⟨k', hk', -⟩ := h2.alike.2.2 _ _ hk
    obtain ⟨k2', hk2', -⟩ := h2.alike.2.2 _ _ hk2
    exact ⟨cC, _, hf, h2, h1, by rw [Vm.size_noted]; exact Nat.le_refl _, ⟨k', hk'⟩, k2', hk2'⟩
  intro pre
  induction pre with
  | nil =>
    intro _ vm₁ hW
    obtain ⟨cC, vm', f1, f2, f3, f4, f5, f6⟩ := one ct cls hlk vm₁ hW
    cases Option.some.inj (hcl.symm.trans f1)
    refine ⟨vm', f2, fun Q E d acts => ?_⟩
    show wp (findHandler.go f a (⟨st, en, h, ct⟩ :: tableOf rest)) Q E e d acts (T.setVm vm₁) ↔ _
    rw [go_cold (s := T.setVm vm₁) hhit h0 f3 f4 hcell hobj f5 f6, if_pos (by rw [f2.alike.assignable]; exact hca _ hcl)]
    rfl
  | cons y pre ih =>
    intro hp vm₁ hW
    obtain ⟨g1, g2, g3, g4⟩ := hp y List.mem_cons_self
    obtain ⟨cC, vm', f1, f2, f3, f4, f5, f6⟩ := one y.1.2.2.2 y.2 g3 vm₁ hW
    obtain ⟨vm2, k1, k2⟩ := ih (fun z hz => hp z (List.mem_cons_of_mem _ hz)) vm' f2
    refine ⟨vm2, k1, fun Q E d acts => ?_⟩
    show wp (findHandler.go f a (⟨y.1.1, y.1.2.1, y.1.2.2.1, y.1.2.2.2⟩ :: tableOf (pre.map (·.1) ++ (st, en, h, ct) :: rest))) Q E e d acts (T.setVm vm₁) ↔ _
    rw [go_cold (s := T.setVm vm₁) g1 g2 f3 f4 hcell hobj f5 f6, if_neg (by rw [f2.alike.assignable, hNC _ g4 _ _ hcl f1]; decide)]
    exact k2 Q E d acts
theorem x_catch {cc : ByteArray} {nL pc : Nat} {own cls : String} {q : Addr} {cell : Cell} {ls : Array Slot} {rest0 : List Value} (F : Fx p m c cc nL s args own) (hNC : NCs s) (hN : NW s) (hq : H[q]? = some cell) (hv : cell.vm = .none) (hcl : s.vm.findClass cls = some cell.cls) (hself : Cond.castable cls cls ∈ nwt)
    (pre : List ((Nat × Nat × Nat × Nat) × String)) {st en h ct : Nat} {rest : List (Nat × Nat × Nat × Nat)} (htab : c.exceptionTable.toList = tableOf (pre.map (·.1) ++ (st, en, h, ct) :: rest)) (hpre : ∀ y ∈ pre, covers ⟨y.1.1, y.1.2.1, y.1.2.2.1, y.1.2.2.2⟩ pc = true ∧ y.1.2.2.2 ≠ 0 ∧ Cond.classLink own y.1.2.2.2 y.2 ∈ gt ∧ (cls, y.2) ∈ ncl) (hhit : covers ⟨st, en, h, ct⟩ pc = true) (h0 : ct ≠ 0) (hlk : Cond.classLink own ct cls ∈ gt)
    (k : W p l e R s m args below meth c H locs cells slots Q (F0 m h ls [.ref q])) : XW p l e R s m args below meth c H locs cells slots Q (F0 m pc ls rest0) q := by
  intro T hT X
  obtain ⟨hx, hb, hml, ho, hw⟩ := F
  have hpl : e.platform.magicAccessors = ({} : Platform).magicAccessors := by rw [X.admits.platform]
  have hca : ∀ t, s.vm.findClass cls = some t → s.vm.assignable t t = true := by
    intro t ht
    obtain ⟨c1, c2, a1, a2, a3⟩ := Cond.castable_spec (va_Nw.use (A := args) rfl (hN _ hself))
    cases Option.some.inj (a1.symm.trans ht)
    cases Option.some.inj (a2.symm.trans ht)
    exact a3
  obtain ⟨vm', hW', hgo⟩ := go_all (f := F0 m pc ls rest0) (T := (T.setTop (F0 m pc ls rest0)).pushFrame (.throwing q)) (a := q) hpl ho hw hNC (by show T.heap[q]? = _; rw [hT]; exact hq) hv hcl hca (rest := rest) hhit h0 hlk pre hpre T.vm X.warmed
  have hself' : ((T.setTop (F0 m pc ls rest0)).pushFrame (.throwing q)).setVm T.vm = (T.setTop (F0 m pc ls rest0)).pushFrame (.throwing q) := rfl
  rw [hself'] at hgo
  have hmeth : ((T.setTop (F0 m pc ls rest0)).pushFrame (.throwing q)).vm.method? (F0 m pc ls rest0).method = some meth := X.method'
  have hfind : ∀ (Q : Handler → Pre) (E : CtlPost) (d : Bool) (acts : List Action), wp (findHandler (F0 m pc ls rest0) q) Q E e d acts ((T.setTop (F0 m pc ls rest0)).pushFrame (.throwing q)) ↔ Q (.found h) d acts (((T.setTop (F0 m pc ls rest0)).pushFrame (.throwing q)).setVm vm') := by
    intro Q E d acts
    rw [W.findHandler_eq hmeth X.code, htab]
    exact hgo Q E d acts
  obtain ⟨t, a1, b1⟩ := k (T.setVm vm') hT (X.noted hW')
  refine ⟨t, ?_, b1⟩
  have hat : At T (F0 m pc ls rest0).method c below := X.here
  obtain ⟨hgo2, hwi⟩ := hat.throwing q
  refine Steps.head hgo2 hwi ?_
  have hstep : (stepThrowing e ((T.setTop (F0 m pc ls rest0)).pushFrame (.throwing q)) q (.java (F0 m pc ls rest0) :: T.frames.tail)).Is ((((T.setTop (F0 m pc ls rest0)).pushFrame (.throwing q)).setVm vm').setFrames (.java { F0 m pc ls rest0 with pc := h, stack := [.ref q] } :: T.frames.tail)) [] := by
    simp only [stepThrowing, searchFrame, vmDo]
    generalize hr : Sem.go _ e false [] _ = res
    obtain ⟨as, rfl, ha⟩ := Sem.eq_ok_of hr (a := Handler.found h) (s' := ((T.setTop (F0 m pc ls rest0)).pushFrame (.throwing q)).setVm vm') (acts' := []) (by simp [hfind _ _ _ _])
    exact ⟨rfl, ha⟩
  rw [stepThread_throwing (frames_entered hat.top _), hstep.1]
  obtain ⟨g₀, hg⟩ := Option.isSome_iff_exists.mp hat.top
  obtain ⟨r, hr⟩ := State.topJava?_eq_some.mp hg
  have hfin : (((T.setTop (F0 m pc ls rest0)).pushFrame (.throwing q)).setVm vm').setFrames (.java { F0 m pc ls rest0 with pc := h, stack := [.ref q] } :: T.frames.tail) = (T.setVm vm').setTop (F0 m h ls [.ref q]) := by
    have e1 : ((T.setTop (F0 m pc ls rest0)).pushFrame (.throwing q)).setFrames (.java (F0 m h ls [.ref q]) :: T.frames.tail) = T.setTop (F0 m h ls [.ref q]) := by
      rw [State.pushFrame, State.setFrames_setFrames, State.setTop_of_frames _ hr, State.setFrames_setFrames, State.setTop_of_frames _ hr, hr]
      rfl
    show (((T.setTop (F0 m pc ls rest0)).pushFrame (.throwing q)).setFrames (.java (F0 m h ls [.ref q]) :: T.frames.tail)).setVm vm' = (T.setTop (F0 m h ls [.ref q])).setVm vm'
    rw [e1]
  rw [hfin]
  exact a1
end Catch
