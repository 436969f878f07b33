/-! the reference's world: 23 roles: 0 the object; 1 life; 2 bound; 3 used; 4 closed; 5 history; 6 gapFrom; 7 gapTo; 8 personSkill; 9 personFrom; 10 personTo; 11 thing; 12 hours; 13 skill; 14 waiting; 15 spares; 16 planHour; 17 planChoice; 18 busyPerson; 19 busyThing; 20 cost; 21 choice; 22 hour -/
def eM (cs : Nat → ClassId) (ad : Nat → Nat) (sd : Int64) (k : Nat) (w : Nat → Int32) : va_E :=
  if k = 0 then .inr (7, [.int (w 0), .long sd, .int (w 2), .ref (ad 1), .ref (ad 2), .ref (ad 3), .ref (ad 4), .ref (ad 5), .int (w 8), .ref (ad 6), .ref (ad 7), .int (w 11), .ref (ad 8), .ref (ad 9), .ref (ad 10), .int (w 15), .ref (ad 11), .ref (ad 12), .ref (ad 13), .ref (ad 14), .int (w 20), .int (w 21), .ref (ad 15), .int (w 23), .int (w 24), .ref (ad 16), .ref (ad 17), .ref (ad 18), .ref (ad 19), .ref (ad 20), .ref (ad 21), .ref (ad 22)])
  else if k = 1 then aI (cs 0) 8 w
  else if k = 2 then aI (cs 0) 8 w
  else if k = 3 then aI (cs 0) 8 w
  else if k = 4 then aI (cs 1) 8 w
  else if k = 5 then aI (cs 0) 40 w
  else if k = 6 then aI (cs 0) 6 w
  else if k = 7 then aI (cs 0) 6 w
  else if k = 8 then aI (cs 0) 4 w
  else if k = 9 then aI (cs 0) 4 w
  else if k = 10 then aI (cs 0) 4 w
  else if k = 11 then aI (cs 0) 5 w
  else if k = 12 then aI (cs 0) 5 w
  else if k = 13 then aI (cs 0) 5 w
  else if k = 14 then aI (cs 0) 5 w
  else if k = 15 then aI (cs 0) 4 w
  else if k = 16 then aI (cs 0) 5 w
  else if k = 17 then aI (cs 0) 5 w
  else if k = 18 then aI (cs 0) 24 w
  else if k = 19 then aI (cs 0) 48 w
  else if k = 20 then aI (cs 0) 6 w
  else if k = 21 then aI (cs 0) 6 w
  else aI (cs 0) 6 w
/-- the model's world holds at a state -/
def MWs (D : va_G) (cs : Nat → ClassId) (ad : Nat → Nat) (v : Nat → Nat → Int32) (sd : Int64) (U : State) : Prop :=
  va_P D classes (wv 23 ad (fun k => eM cs ad sd k (v k))) U.heap ∧ va_K D classes (tyl cs) U ∧ apt 23 ad ∧ NW U ∧ SR U ∧ ST U U.heap
/-- a contract of a method over the model's world -/
def Dm (l : Launch) (y : MethodName) (bytes : ByteArray) (maxL : Nat) (ret : Option FieldType) (rm : Room) (av : List Value) (D : va_G) (cs : Nat → ClassId) (ad : Nat → Nat) (v : Nat → Nat → Int32) (sd : Int64) (post : Option Value → (Nat → Nat → Int32) → Int64 → Prop) (xp : String → Prop) : Prop :=
  ∀ sz, Mq l y bytes maxL ret [] rm av (fun U => U.heap.size = sz ∧ MWs D cs ad v sd U) (aA 23 ad sz) (fun r t => ∃ v' sd', post r v' sd' ∧ MWs D cs ad v' sd' t) (fun cls t => xp cls ∧ MWs D cs ad v sd t)
/-- the fixed part of a walk over the model's world -/
def Dx (p : Program) (l : Launch) (m : MethodId) (meth : Method) (c : Code) (cc : ByteArray) (nL : Nat) (ret : Option FieldType) (s : State) (args : Array Value) (own : String) (D : va_G) (cs : Nat → ClassId) (ad : Nat → Nat) : Prop :=
  Gx p m c cc nL s args own D (tyl cs) 23 ad (aA 23 ad s.heap.size) ∧ SR s ∧ ST s s.heap ∧ noSt (aA 23 ad s.heap.size) s.heap ∧ c.exceptionTable.toList = tableOf [] ∧ meth.locks = false ∧ meth.sig.returnType = ret ∧ meth.name = meth.name
section DRows
variable {p : Program} {l : Launch} {e : Env} {R : Room} {s : State} {m : MethodId} {args : Array Value} {below : List Frame} {meth : Method} {c : Code} {H : Heap} {locs : List Loc} {cells slots : Nat} {Q : State → Prop}
variable {y : MethodName} {bytes cc : ByteArray} {maxL nL pc index : Nat} {ret ret' : Option FieldType} {rm : Room} {av As rest st : List Value} {own C : String} {D : va_G} {cs : Nat → ClassId} {ad : Nat → Nat} {v v0 v' : Nat → Nat → Int32} {sd sd0 sd' : Int64} {post post' : Option Value → (Nat → Nat → Int32) → Int64 → Prop} {xp xp' : String → Prop} {ls : Array Slot} {b : Addr}
theorem Dx.hx (C : Dx p l m meth c cc nL ret s args own D cs ad) : p.tables.exec = Jvm.exec := C.1.1.1
theorem Dx.hb (C : Dx p l m meth c cc nL ret s args own D cs ad) : c.code = cc := C.1.1.2.1
theorem dw_at (K : Dx p l m meth c cc nL ret s args own D cs ad) (hS : va_S (aA 23 ad s.heap.size) s.heap H locs) (hP : va_P D classes (wv 23 ad (fun k => eM cs ad sd k (v k))) H) (t : State) (ht : t.heap = H) (hW : s.WarmedH t.vm) : MWs D cs ad v sd t := by
  obtain ⟨⟨F, hK, hap, hAd, hN⟩, hSR, hZ, hns, -⟩ := K
  exact ⟨by rw [ht]; exact hP, hK.moved hW.alike, hap, hN.warm hW, hSR.warm hW, by rw [ht]; exact (hZ.kept hns hS.2.1).moved hW.alike⟩
theorem dw_sub (hS : va_S (aA 23 ad s.heap.size) s.heap H locs) : ∀ q, aA 23 ad H.size q → aA 23 ad s.heap.size q := by
  intro q hq
  rcases hq with h | h
  · exact Or.inl h
  · exact Or.inr (Nat.le_trans hS.1 h)
theorem dw_enter (hown : y.cls = own) (hpl : (lg_sl av).length ≤ maxL)
    (body : ∀ (p : Program) (e : Env) (s : State) (m : MethodId) (below : List Frame) (meth : Method) (c : Code) (ls : Array Slot), Dx p l m meth c bytes maxL ret s av.toArray own D cs ad → va_S (aA 23 ad s.heap.size) s.heap s.heap [] → va_P D classes (wv 23 ad (fun k => eM cs ad sd k (v k))) s.heap → lv_has ls maxL (lv_args 0 av) →
      W p l e rm s m av.toArray below meth c s.heap [] 0 0 (xMQ below (QQ (aA 23 ad s.heap.size) (fun r t => ∃ v' sd', post r v' sd' ∧ MWs D cs ad v' sd' t) (fun cls t => xp cls ∧ MWs D cs ad v sd t)) s rm.cells rm.slots (aA 23 ad s.heap.size)) (F0 m 0 ls [])) : Dm l y bytes maxL ret rm av D cs ad v sd post xp := by
  intro sz p e s m below meth c hx hn hb hml htab hname hret hlk hw hPc
  obtain ⟨rfl, hP, hK, hap, hN, hSR, hZ⟩ := hPc
  have hl := lv_entry av hpl
  rw [lg_entry_eq]
  exact body p e s m below meth c _ ⟨⟨⟨hx, hb, hml, by rw [← hown]; exact findClass_of_methodNamed hn, hw⟩, hK, hap, fun k hk => Or.inl ⟨k, hk, rfl⟩, hN⟩, hSR, hZ, wv_nost rfl hP, htab, hlk, hret, rfl⟩ va_S.rf hP hl
/-- a call on an object of the model's world that never throws -/
theorem dd_V (K : Dx p l m meth c cc nL ret' s args own D cs ad) (hP : va_P D classes (wv 23 ad (fun k => eM cs ad sd k (v k))) H) (hS : va_S (aA 23 ad s.heap.size) s.heap H locs)
    (hM : Dm l y bytes maxL ret rm (.ref b :: As) D cs ad v sd post (fun _ => False)) (hcode : Cond.code y bytes maxL ret ∈ gt) (hy : xMeth y As.length) (hl : Cond.methodLink own index y ∈ gt) (hi : Cond.instanceMethod y ∈ gt) (hse : Cond.selects C y y ∈ gt) (hrecv : ∃ cell : Cell, H[b]? = some cell ∧ cell.vm.isStatics = false ∧ s.vm.findClass C = some cell.cls)
    (hst : st = As.reverse ++ .ref b :: rest) (hsz : ls.size = nL) (hdg : decode cc pc = .ok (.invokevirtual index, 3)) (hfr : rm.frames + 1 ≤ R.frames) (hlo : (rest.map fun v => v.category).sum + (maxL + 11) + rm.locals ≤ R.locals) (hf : cells + rm.cells ≤ R.cells ∧ slots + rm.slots ≤ R.slots)
    (kr : ∀ (r : Option Value) (v' : Nat → Nat → Int32) (sd' : Int64) (H1 : Heap) (locs1 : List Loc), post r v' sd' → va_P D classes (wv 23 ad (fun k => eM cs ad sd' k (v' k))) H1 → va_S (aA 23 ad s.heap.size) s.heap H1 locs1 → W p l e R s m args below meth c H1 locs1 (cells + rm.cells) (slots + rm.slots) Q (F0 m (pc + 3) ls (r.toList ++ rest))) :
    W p l e R s m args below meth c H locs cells slots Q (F0 m pc ls st) := by
  refine xc_V K.1.1 (hM H.size) (Or.inl ⟨rfl, hcode⟩) hy hl hi hse hrecv hst hsz hdg hfr hlo hf (fun U hU hW => ⟨by rw [hU], dw_at K hS hP U hU hW⟩) hS (dw_sub hS) ?_ ?_
  · intro r t H1 l1 ht hW hf1 _ _ hS1
    obtain ⟨v', sd', hp, hC⟩ := hf1
    exact kr r v' sd' H1 l1 hp (by rw [← ht]; exact hC.1) hS1
  · intro q cls cell t H1 l1 _ _ _ _ _ hx1
    exact hx1.1.elim
theorem dd_S (K : Dx p l m meth c cc nL ret' s args own D cs ad) (hP : va_P D classes (wv 23 ad (fun k => eM cs ad sd k (v k))) H) (hS : va_S (aA 23 ad s.heap.size) s.heap H locs)
    (hM : Dm l y bytes maxL ret rm As D cs ad v sd post (fun _ => False)) (hcode : Cond.code y bytes maxL ret ∈ gt) (hy : xMeth y As.length) (hl : Cond.methodLink own index y ∈ gt) (hi : Cond.static y ∈ gt) (hini : Cond.initialized y.cls ∈ gt)
    (hst : st = As.reverse ++ rest) (hsz : ls.size = nL) (hdg : decode cc pc = .ok (.invokestatic index, 3)) (hfr : rm.frames + 1 ≤ R.frames) (hlo : (rest.map fun v => v.category).sum + (maxL + 11) + rm.locals ≤ R.locals) (hf : cells + rm.cells ≤ R.cells ∧ slots + rm.slots ≤ R.slots)
    (kr : ∀ (r : Option Value) (v' : Nat → Nat → Int32) (sd' : Int64) (H1 : Heap) (locs1 : List Loc), post r v' sd' → va_P D classes (wv 23 ad (fun k => eM cs ad sd' k (v' k))) H1 → va_S (aA 23 ad s.heap.size) s.heap H1 locs1 → W p l e R s m args below meth c H1 locs1 (cells + rm.cells) (slots + rm.slots) Q (F0 m (pc + 3) ls (r.toList ++ rest))) :
    W p l e R s m args below meth c H locs cells slots Q (F0 m pc ls st) := by
  refine xc_S K.1.1 (hM H.size) (Or.inl ⟨rfl, hcode⟩) hy hl hi hini hst hsz hdg hfr hlo hf (fun U hU hW => ⟨by rw [hU], dw_at K hS hP U hU hW⟩) hS (dw_sub hS) ?_ ?_
  · intro r t H1 l1 ht hW hf1 _ _ hS1
    obtain ⟨v', sd', hp, hC⟩ := hf1
    exact kr r v' sd' H1 l1 hp (by rw [← ht]; exact hC.1) hS1
  · intro q cls cell t H1 l1 _ _ _ _ _ hx1
    exact hx1.1.elim
variable {mc ms : Nat} {f : Option Value → State → Prop}
/-! ends -/
abbrev dQ (below : List Frame) (s : State) (mc ms : Nat) (D : va_G) (cs : Nat → ClassId) (ad : Nat → Nat) (post : Option Value → (Nat → Nat → Int32) → Int64 → Prop) (xp : String → Prop) (v0 : Nat → Nat → Int32) (sd0 : Int64) : State → Prop :=
  xMQ below (QQ (aA 23 ad s.heap.size) (fun r t => ∃ v' sd', post r v' sd' ∧ MWs D cs ad v' sd' t) (fun cls t => xp cls ∧ MWs D cs ad v0 sd0 t)) s mc ms (aA 23 ad s.heap.size)
theorem de_i (K : Dx p l m meth c cc nL (some .int) s args own D cs ad) (hP : va_P D classes (wv 23 ad (fun k => eM cs ad sd k (v k))) H) (hS : va_S (aA 23 ad s.heap.size) s.heap H locs) {z : Int32} (hp : post (some (.int z)) v sd) (hc : cells ≤ mc) (hs : slots ≤ ms) (hdg : decode cc pc = .ok (.ireturn, 1)) :
    W p l e R s m args below meth c H locs cells slots (dQ below s mc ms D cs ad post xp v0 sd0) (F0 m pc ls [.int z]) :=
  xe_i K.hx K.hb K.2.2.2.2.2.2.1 K.2.2.2.2.2.1 hS (fun t ht hW => ⟨v, sd, hp, dw_at K hS hP t ht hW⟩) hc hs hdg
theorem de_z (K : Dx p l m meth c cc nL (some .boolean) s args own D cs ad) (hP : va_P D classes (wv 23 ad (fun k => eM cs ad sd k (v k))) H) (hS : va_S (aA 23 ad s.heap.size) s.heap H locs) {z : Int32} (hz : narrow .boolean (.int z) = .int z) (hp : post (some (.int z)) v sd) (hc : cells ≤ mc) (hs : slots ≤ ms) (hdg : decode cc pc = .ok (.ireturn, 1)) :
    W p l e R s m args below meth c H locs cells slots (dQ below s mc ms D cs ad post xp v0 sd0) (F0 m pc ls [.int z]) :=
  xe_z K.hx K.hb K.2.2.2.2.2.2.1 K.2.2.2.2.2.1 hS hz (fun t ht hW => ⟨v, sd, hp, dw_at K hS hP t ht hW⟩) hc hs hdg
theorem de_l (K : Dx p l m meth c cc nL (some .long) s args own D cs ad) (hP : va_P D classes (wv 23 ad (fun k => eM cs ad sd k (v k))) H) (hS : va_S (aA 23 ad s.heap.size) s.heap H locs) {z : Int64} (hp : post (some (.long z)) v sd) (hc : cells ≤ mc) (hs : slots ≤ ms) (hdg : decode cc pc = .ok (.lreturn, 1)) :
    W p l e R s m args below meth c H locs cells slots (dQ below s mc ms D cs ad post xp v0 sd0) (F0 m pc ls [.long z]) :=
  xe_l K.hx K.hb K.2.2.2.2.2.2.1 K.2.2.2.2.2.1 hS (fun t ht hW => ⟨v, sd, hp, dw_at K hS hP t ht hW⟩) hc hs hdg
theorem de_v (K : Dx p l m meth c cc nL none s args own D cs ad) (hP : va_P D classes (wv 23 ad (fun k => eM cs ad sd k (v k))) H) (hS : va_S (aA 23 ad s.heap.size) s.heap H locs) (hp : post none v sd) (hc : cells ≤ mc) (hs : slots ≤ ms) (hdg : decode cc pc = .ok (.return_, 1)) :
    W p l e R s m args below meth c H locs cells slots (dQ below s mc ms D cs ad post xp v0 sd0) (F0 m pc ls []) :=
  xe_v K.hx K.hb K.2.2.2.2.2.2.1 K.2.2.2.2.2.1 hS (fun t ht hW => ⟨v, sd, hp, dw_at K hS hP t ht hW⟩) hc hs hdg
end DRows
