/-! rows of the law's own methods -/
/-- the fixed part of a walk of the law's methods -/
def Lx (p : Program) (m : MethodId) (c : Code) (cc : ByteArray) (nL : Nat) (s : State) (args : Array Value) (own : String) (D : va_G) (cs : Nat → ClassId) (A0 : Nat → Prop) : Prop :=
  Fx p m c cc nL s args own ∧ va_K D classes (tyl cs) s ∧ NW s ∧ SR s ∧ NCs s ∧ ST s s.heap ∧ noSt A0 s.heap
abbrev hC (D : va_G) (cs : Nat → ClassId) (ad : Nat → Nat) (v : Nat → Nat → Int32) (sd : Int64) (H : Heap) : Prop := va_P D classes (wv 42 ad (fun k => eC cs ad sd k (v k))) H
abbrev hM (D : va_G) (cs : Nat → ClassId) (ad : Nat → Nat) (v : Nat → Nat → Int32) (sd : Int64) (H : Heap) : Prop := va_P D classes (wv 23 ad (fun k => eM cs ad sd k (v k))) H
abbrev aL (c : ClassId) (f : Nat → Int64) : va_E := .inl (c, 1, .inr (.inl f))
section LawRows
variable {p : Program} {l : Launch} {e : Env} {R : Room} {s : State} {m : MethodId} {args : Array Value} {below : List Frame} {meth : Method} {c : Code} {H : Heap} {locs : List Loc} {cells slots : Nat} {Q : State → Prop}
variable {y : MethodName} {bytes cc : ByteArray} {maxL nL pc index : Nat} {ret : Option FieldType} {rm : Room} {As rest st : List Value} {own : String} {D : va_G} {cs : Nat → ClassId} {ad : Nat → Nat} {v v' : Nat → Nat → Int32} {sd sd' : Int64} {post : Option Value → (Nat → Nat → Int32) → Int64 → Prop} {xp : String → Prop} {ls : Array Slot} {A0 : Nat → Prop} {w : Nat} {f : Nat → Int64}
theorem Lx.hx (K : Lx p m c cc nL s args own D cs A0) : p.tables.exec = Jvm.exec := K.1.1
theorem Lx.hb (K : Lx p m c cc nL s args own D cs A0) : c.code = cc := K.1.2.1
theorem Lx.cw (K : Lx p m c cc nL s args own D cs A0) (hap : apt 42 ad) (hS : va_S A0 s.heap H locs) (hP : hC D cs ad v sd H) (t : State) (ht : t.heap = H) (hW : s.WarmedH t.vm) : CWs D cs ad v sd t := by
  obtain ⟨F, hK, hN, hSR, hNC, hZ, hns⟩ := K
  exact ⟨by rw [ht]; exact hP, hK.moved hW.alike, hap, hN.warm hW, hSR.warm hW, by rw [ht]; exact (hZ.kept hns hS.2.1).moved hW.alike⟩
theorem Lx.mw (K : Lx p m c cc nL s args own D cs A0) (hap : apt 23 ad) (hS : va_S A0 s.heap H locs) (hP : hM D cs ad v sd H) (t : State) (ht : t.heap = H) (hW : s.WarmedH t.vm) : MWs D cs ad v sd t := by
  obtain ⟨F, hK, hN, hSR, hNC, hZ, hns⟩ := K
  exact ⟨by rw [ht]; exact hP, hK.moved hW.alike, hap, hN.warm hW, hSR.warm hW, by rw [ht]; exact (hZ.kept hns hS.2.1).moved hW.alike⟩
/-- a call on the object of the class -/
theorem zc_V (K : Lx p m c cc nL s args own D cs A0) (hap : apt 42 ad) (hP : hC D cs ad v sd H) (hS : va_S A0 s.heap H locs) (hsub : ∀ q, aA 42 ad H.size q → A0 q)
    (hM : Cm l y bytes maxL ret rm (.ref (ad 0) :: As) D cs ad v sd post xp) (hcode : Cond.code y bytes maxL ret ∈ gt) (hy : xMeth y As.length) (hl : Cond.methodLink own index y ∈ gt) (hi : Cond.instanceMethod y ∈ gt) (hse : Cond.selects "WearHours" y y ∈ gt)
    (hst : st = As.reverse ++ .ref (ad 0) :: rest) (hsz : ls.size = nL) (hdg : decode cc pc = .ok (.invokevirtual index, 3)) (hfr : rm.frames + 1 ≤ R.frames) (hlo : (rest.map fun v => v.category).sum + (maxL + 11) + rm.locals ≤ R.locals) (hf : cells + rm.cells ≤ R.cells ∧ slots + rm.slots ≤ R.slots)
    (kr : ∀ (r : Option Value) (v' : Nat → Nat → Int32) (sd' : Int64) (H1 : Heap) (locs1 : List Loc), post r v' sd' → hC D cs ad v' sd' H1 → (∀ q : Nat, q < H.size → ¬ aA 42 ad H.size q → H1[q]? = H[q]?) → va_S A0 s.heap H1 locs1 → W p l e R s m args below meth c H1 locs1 (cells + rm.cells) (slots + rm.slots) Q (F0 m (pc + 3) ls (r.toList ++ rest)))
    (kt : ∀ (q : Addr) (cls : String) (cell : Cell) (H1 : Heap) (locs1 : List Loc), xp cls → H1[q]? = some cell → cell.vm = .none → s.vm.findClass cls = some cell.cls → hC D cs ad v sd H1 → (∀ q : Nat, q < H.size → ¬ aA 42 ad H.size q → H1[q]? = H[q]?) → va_S A0 s.heap H1 locs1 → XW p l e R s m args below meth c H1 locs1 (cells + rm.cells) (slots + rm.slots) Q (F0 m pc ls rest) q) :
    W p l e R s m args below meth c H locs cells slots Q (F0 m pc ls st) := by
  refine xc_V K.1 (hM H.size) (Or.inl ⟨rfl, hcode⟩) hy hl hi hse (g_recv (E := eC cs ad sd) (v := v) K.2.1 hP 0 (by decide) rfl rfl) hst hsz hdg hfr hlo hf (fun U hU hW => ⟨by rw [hU], K.cw hap hS hP U hU hW⟩) hS hsub ?_ ?_
  · intro r t H1 l1 ht hW hf1 _ hk hS1
    obtain ⟨v', sd', hp, hC1⟩ := hf1
    exact kr r v' sd' H1 l1 hp (by rw [← ht]; exact hC1.1) hk hS1
  · intro q cls cell t H1 l1 ht hW hq hv hcl hx1 _ hk hS1
    exact kt q cls cell H1 l1 hx1.1 hq hv hcl (by rw [← ht]; exact hx1.2.1) hk hS1
/-- a call on the reference -/
theorem zc_M (K : Lx p m c cc nL s args own D cs A0) (hap : apt 23 ad) (hP : hM D cs ad v sd H) (hS : va_S A0 s.heap H locs) (hsub : ∀ q, aA 23 ad H.size q → A0 q)
    (hM : Dm l y bytes maxL ret rm (.ref (ad 0) :: As) D cs ad v sd post (fun _ => False)) (hcode : Cond.code y bytes maxL ret ∈ gt) (hy : xMeth y As.length) (hl : Cond.methodLink own index y ∈ gt) (hi : Cond.instanceMethod y ∈ gt) (hse : Cond.selects "WearHoursModel" y y ∈ gt)
    (hst : st = As.reverse ++ .ref (ad 0) :: rest) (hsz : ls.size = nL) (hdg : decode cc pc = .ok (.invokevirtual index, 3)) (hfr : rm.frames + 1 ≤ R.frames) (hlo : (rest.map fun v => v.category).sum + (maxL + 11) + rm.locals ≤ R.locals) (hf : cells + rm.cells ≤ R.cells ∧ slots + rm.slots ≤ R.slots)
    (kr : ∀ (r : Option Value) (v' : Nat → Nat → Int32) (sd' : Int64) (H1 : Heap) (locs1 : List Loc), post r v' sd' → va_P D classes (wv 23 ad (fun k => eM cs ad sd' k (v' k))) H1 → (∀ q : Nat, q < H.size → ¬ aA 23 ad H.size q → H1[q]? = H[q]?) → va_S A0 s.heap H1 locs1 → W p l e R s m args below meth c H1 locs1 (cells + rm.cells) (slots + rm.slots) Q (F0 m (pc + 3) ls (r.toList ++ rest))) :
    W p l e R s m args below meth c H locs cells slots Q (F0 m pc ls st) := by
  refine xc_V K.1 (hM H.size) (Or.inl ⟨rfl, hcode⟩) hy hl hi hse (g_recv (E := eM cs ad sd) (v := v) K.2.1 hP 0 (by decide) rfl rfl) hst hsz hdg hfr hlo hf (fun U hU hW => ⟨by rw [hU], K.mw hap hS hP U hU hW⟩) hS hsub ?_ ?_
  · intro r t H1 l1 ht hW hf1 _ hk hS1
    obtain ⟨v', sd', hp, hC1⟩ := hf1
    exact kr r v' sd' H1 l1 hp (by rw [← ht]; exact hC1.1) hk hS1
  · intro q cls cell t H1 l1 _ _ _ _ _ hx1
    exact hx1.1.elim
theorem nA {n : Nat} {sz : Nat} (h1 : w < sz) (h2 : ∀ k, k < n → ad k ≠ w) : ¬ aA n ad sz w := by
  rintro (⟨k, hk, h⟩ | h)
  · exact h2 k hk h.symm
  · omega
/-- the long is laid into out -/
theorem zc_last (K : Lx p m c cc nL s args own D cs A0) (hap : apt 42 ad) (hP : hC D cs ad v sd H) (hO : va_at D classes (w, aL (cs 2) f) H) (hne : ∀ k, k < 42 → ad k ≠ w) (hS : va_S A0 s.heap H locs) (hA : ∀ k, k < 42 → A0 (ad k)) (hw : A0 w) {x : Int64} (hdg : decode cc pc = .ok (.lastore, 1))
    (kk : ∀ (H1 : Heap) (locs1 : List Loc) (f' : Nat → Int64), f' 0 = x → hC D cs ad v sd H1 → va_at D classes (w, aL (cs 2) f') H1 → va_S A0 s.heap H1 locs1 → W p l e R s m args below meth c H1 locs1 cells slots Q (F0 m (pc + 1) ls rest)) :
    W p l e R s m args below meth c H locs cells slots Q (F0 m pc ls (.long x :: .int 0 :: .ref w :: rest)) := by
  have hP2 : va_P D classes (wv 43 (nu ad 42 w) (cu (fun k => eC cs ad sd k (v k)) 42 (aL (cs 2) f))) H := by
    rw [← wv_push]
    exact hP.app (fun k q hq => by
      have hz : k < 1 := (List.getElem?_eq_some_iff.mp hq).1
      rw [show k = 0 by omega] at hq
      cases hq
      exact hO)
  have hD2 : va_D A0 (wv 43 (nu ad 42 w) (cu (fun k => eC cs ad sd k (v k)) 42 (aL (cs 2) f))) := by
    refine ⟨fun i j a b ha hb hab => ?_, fun k q hq => ?_⟩
    · obtain ⟨h1, rfl⟩ := wv_of ha
      obtain ⟨h2, rfl⟩ := wv_of hb
      have hab : (if i = 42 then w else ad i) = (if j = 42 then w else ad j) := hab
      by_cases e1 : i = 42
      · by_cases e2 : j = 42
        · omega
        · rw [if_pos e1, if_neg e2] at hab
          exact absurd hab.symm (hne j (by omega))
      · by_cases e2 : j = 42
        · rw [if_neg e1, if_pos e2] at hab
          exact absurd hab (hne i (by omega))
        · rw [if_neg e1, if_neg e2] at hab
          exact hap i j (by omega) (by omega) hab
    · obtain ⟨h1, rfl⟩ := wv_of hq
      show A0 (if k = 42 then w else ad k)
      split
      · exact hw
      · exact hA k (by omega)
  have he : (wv 43 (nu ad 42 w) (cu (fun k => eC cs ad sd k (v k)) 42 (aL (cs 2) f)))[42]? = some (w, aL (cs 2) f) := wv_at (by decide)
  refine va_last K.hx K.hb K.2.1 hP2 hD2 hS 42 2 he rfl (i := 0) (vp_in_nI (n := 0) (by decide) (by decide)) hdg (fun H1 l1 h1 _ h3 => ?_)
  refine kk H1 l1 (vp_updL f 0 x) pk_uLs (fun k q hq => ?_) (h1 42 (w, aL (cs 2) (vp_updL f 0 x)) ?_) h3
  · obtain ⟨hk, rfl⟩ := wv_of hq
    have h9 := h1 k _ (by rw [List.getElem?_set_ne (by omega)]; exact wv_at (show k < 43 by omega))
    have e1 : nu ad 42 w k = ad k := if_neg (by omega)
    have e2 : cu (fun k => eC cs ad sd k (v k)) 42 (aL (cs 2) f) k = eC cs ad sd k (v k) := if_neg (by omega)
    rw [e1, e2] at h9
    exact h9
  · rw [List.getElem?_set_self (by simp [wv])]
    rfl
end LawRows
/-- a contract of a helper that answers a number: 0 and the number in out, or the code of what was thrown -/
def Zm (l : Launch) (y : MethodName) (bytes : ByteArray) (maxL : Nat) (hh : List (Nat × Nat × Nat × Nat)) (rm : Room) (av : List Value) (D : va_G) (cs : Nat → ClassId) (ad : Nat → Nat) (w : Nat) (v : Nat → Nat → Int32) (sd : Int64) (post : Option Value → (Nat → Nat → Int32) → Int64 → Prop) (xp : String → Prop) (hs : List (String × Int32)) : Prop :=
  ∀ sz, Mq l y bytes maxL (some .int) hh rm av (fun U => U.heap.size = sz ∧ CWs D cs ad v sd U ∧ NCs U ∧ (∃ f, va_at D classes (w, aL (cs 2) f) U.heap) ∧ ∀ k, k < 42 → ad k ≠ w) (fun q => aA 42 ad sz q ∨ q = w)
    (fun r t => ∃ k a v' sd' f', r = some (.int k) ∧ Zo post xp hs v sd k (some (.int a)) v' sd' ∧ CWs D cs ad v' sd' t ∧ va_at D classes (w, aL (cs 2) f') t.heap ∧ (k = 0 → f' 0 = a.toInt64)) (fun _ _ => False)
/-- a contract of a helper without an answer -/
def Zv (l : Launch) (y : MethodName) (bytes : ByteArray) (maxL : Nat) (hh : List (Nat × Nat × Nat × Nat)) (rm : Room) (av : List Value) (D : va_G) (cs : Nat → ClassId) (ad : Nat → Nat) (v : Nat → Nat → Int32) (sd : Int64) (post : Option Value → (Nat → Nat → Int32) → Int64 → Prop) (xp : String → Prop) (hs : List (String × Int32)) : Prop :=
  ∀ sz, Mq l y bytes maxL (some .int) hh rm av (fun U => U.heap.size = sz ∧ CWs D cs ad v sd U ∧ NCs U) (aA 42 ad sz)
    (fun r t => ∃ k v' sd', r = some (.int k) ∧ Zo post xp hs v sd k none v' sd' ∧ CWs D cs ad v' sd' t) (fun _ _ => False)
section ZEnter
variable {l : Launch} {y : MethodName} {bytes : ByteArray} {maxL : Nat} {hh : List (Nat × Nat × Nat × Nat)} {rm : Room} {av : List Value} {D : va_G} {cs : Nat → ClassId} {ad : Nat → Nat} {w : Nat} {v : Nat → Nat → Int32} {sd : Int64} {post : Option Value → (Nat → Nat → Int32) → Int64 → Prop} {xp : String → Prop} {hs : List (String × Int32)}
theorem zm_enter (hown : y.cls = "WearHoursLaw") (hpl : (lg_sl av).length ≤ maxL)
    (body : ∀ (p : Program) (e : Env) (s : State) (m : MethodId) (below : List Frame) (meth : Method) (c : Code) (ls : Array Slot) (f : Nat → Int64), Lx p m c bytes maxL s av.toArray "WearHoursLaw" D cs (fun q => aA 42 ad s.heap.size q ∨ q = w) → c.exceptionTable.toList = tableOf hh → meth.locks = false → meth.sig.returnType = some .int → apt 42 ad → (∀ k, k < 42 → ad k ≠ w) → va_S (fun q => aA 42 ad s.heap.size q ∨ q = w) s.heap s.heap [] → hC D cs ad v sd s.heap → va_at D classes (w, aL (cs 2) f) s.heap → lv_has ls maxL (lv_args 0 av) →
      W p l e rm s m av.toArray below meth c s.heap [] 0 0 (xMQ below (QQ (fun q => aA 42 ad s.heap.size q ∨ q = w) (fun r t => ∃ k a v' sd' f', r = some (.int k) ∧ Zo post xp hs v sd k (some (.int a)) v' sd' ∧ CWs D cs ad v' sd' t ∧ va_at D classes (w, aL (cs 2) f') t.heap ∧ (k = 0 → f' 0 = a.toInt64)) (fun _ _ => False)) s rm.cells rm.slots (fun q => aA 42 ad s.heap.size q ∨ q = w)) (F0 m 0 ls [])) : Zm l y bytes maxL hh rm av D cs ad w v sd post xp hs := by
  intro sz p e s m below meth c hx hn hb hml htab hname hret hlk hw hPc
  obtain ⟨rfl, ⟨hP, hK, hap, hN, hSR, hZ⟩, hNC, ⟨f, hO⟩, hne⟩ := hPc
  have hl := lv_entry av hpl
  rw [lg_entry_eq]
  refine body p e s m below meth c _ f ⟨⟨hx, hb, hml, by rw [← hown]; exact findClass_of_methodNamed hn, hw⟩, hK, hN, hSR, hNC, hZ, ?_⟩ htab hlk hret hap hne va_S.rf hP hO hl
  rintro q cell (hq | rfl) hc
  · exact wv_nost rfl hP q cell hq hc
  · have h9 : s.heap[q]? = some (vp_cell (cs 2) (1, .inr (.inl f))) := hO
    cases Option.some.inj (hc.symm.trans h9)
    rfl
theorem zv_enter (hown : y.cls = "WearHoursLaw") (hpl : (lg_sl av).length ≤ maxL)
    (body : ∀ (p : Program) (e : Env) (s : State) (m : MethodId) (below : List Frame) (meth : Method) (c : Code) (ls : Array Slot), Lx p m c bytes maxL s av.toArray "WearHoursLaw" D cs (aA 42 ad s.heap.size) → c.exceptionTable.toList = tableOf hh → meth.locks = false → meth.sig.returnType = some .int → apt 42 ad → va_S (aA 42 ad s.heap.size) s.heap s.heap [] → hC D cs ad v sd s.heap → lv_has ls maxL (lv_args 0 av) →
      W p l e rm s m av.toArray below meth c s.heap [] 0 0 (xMQ below (QQ (aA 42 ad s.heap.size) (fun r t => ∃ k v' sd', r = some (.int k) ∧ Zo post xp hs v sd k none v' sd' ∧ CWs D cs ad v' sd' t) (fun _ _ => False)) s rm.cells rm.slots (aA 42 ad s.heap.size)) (F0 m 0 ls [])) : Zv l y bytes maxL hh rm av D cs ad v sd post xp hs := by
  intro sz p e s m below meth c hx hn hb hml htab hname hret hlk hw hPc
  obtain ⟨rfl, ⟨hP, hK, hap, hN, hSR, hZ⟩, hNC⟩ := hPc
  have hl := lv_entry av hpl
  rw [lg_entry_eq]
  exact body p e s m below meth c _ ⟨⟨hx, hb, hml, by rw [← hown]; exact findClass_of_methodNamed hn, hw⟩, hK, hN, hSR, hNC, hZ, fun q cell hq hc => wv_nost rfl hP q cell hq hc⟩ htab hlk hret hap va_S.rf hP hl
end ZEnter
