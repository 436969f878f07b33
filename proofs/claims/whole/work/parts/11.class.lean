/-! the class's world: 42 roles. 0 the object; 1 things; 2..9 Thing; 10..17 their changes; 18 spares; 19 the Week; 20 gaps; 21..26 Gap; 27 persons; 28..31 Person; 32 repairs; 33..37 Repair; 38 the Planner; 39 personFree; 40 thingFree; 41 floors -/
abbrev aI (cA : ClassId) (n : Nat) (w : Nat → Int32) : va_E := .inl (cA, n, .inl w)
abbrev aR (cA : ClassId) (n : Nat) (f : Nat → Option Nat) : va_E := .inl (cA, n, .inr (.inr (.inr (.inr f))))
def eC (cs : Nat → ClassId) (ad : Nat → Nat) (sd : Int64) (k : Nat) (w : Nat → Int32) : va_E :=
  if k < 18 then
    if k = 0 then .inr (0, [.long sd, .ref (ad 1), .int (w 2), .ref (ad 18), .ref (ad 19), .ref (ad 38)])
    else if k = 1 then aR (cs 3) 8 (fun j => some (ad (2 + j)))
    else if k < 10 then .inr (1, [.int (w 0), .int (w 1), .int (w 2), .int (w 3), .ref (ad (k + 8))])
    else aI (cs 0) 5 w
  else if k = 18 then aI (cs 0) 4 w
  else if k = 19 then .inr (2, [.ref (ad 20), .int (w 1), .ref (ad 27), .int (w 3), .ref (ad 32), .int (w 5), .int (w 6), .int (w 7)])
  else if k = 20 then aR (cs 4) 6 (fun j => some (ad (21 + j)))
  else if k < 27 then .inr (3, [.int (w 0), .int (w 1)])
  else if k = 27 then aR (cs 5) 4 (fun j => some (ad (28 + j)))
  else if k < 32 then .inr (4, [.int (w 0), .int (w 1), .int (w 2)])
  else if k = 32 then aR (cs 6) 5 (fun j => some (ad (33 + j)))
  else if k < 38 then .inr (5, [.int (w 0), .int (w 1), .int (w 2), .int (w 3), .int (w 4), .int (w 5), .int (w 6)])
  else if k = 38 then .inr (6, [.ref (ad 19), .ref (ad 39), .ref (ad 40), .ref (ad 41), .int (w 4), .int (w 5), .int (w 6)])
  else if k = 39 then aI (cs 0) 4 w
  else if k = 40 then aI (cs 0) 8 w
  else aI (cs 0) 6 w
section EC
variable {cs : Nat → ClassId} {ad : Nat → Nat} {sd : Int64} {w : Nat → Int32} {i : Nat}
theorem eT (hi : i < 8) : eC cs ad sd (2 + i) w = .inr (1, [.int (w 0), .int (w 1), .int (w 2), .int (w 3), .ref (ad (10 + i))]) := by
  unfold eC
  rw [if_pos (by omega), if_neg (by omega), if_neg (by omega), if_pos (by omega), show 2 + i + 8 = 10 + i by omega]
theorem eH (hi : i < 8) : eC cs ad sd (10 + i) w = aI (cs 0) 5 w := by
  unfold eC
  rw [if_pos (by omega), if_neg (by omega), if_neg (by omega), if_neg (by omega)]
theorem eG (hi : i < 6) : eC cs ad sd (21 + i) w = .inr (3, [.int (w 0), .int (w 1)]) := by
  unfold eC
  rw [if_neg (by omega), if_neg (by omega), if_neg (by omega), if_neg (by omega), if_pos (by omega)]
theorem eP (hi : i < 4) : eC cs ad sd (28 + i) w = .inr (4, [.int (w 0), .int (w 1), .int (w 2)]) := by
  unfold eC
  rw [if_neg (by omega), if_neg (by omega), if_neg (by omega), if_neg (by omega), if_neg (by omega), if_neg (by omega), if_pos (by omega)]
theorem eR (hi : i < 5) : eC cs ad sd (33 + i) w = .inr (5, [.int (w 0), .int (w 1), .int (w 2), .int (w 3), .int (w 4), .int (w 5), .int (w 6)]) := by
  unfold eC
  rw [if_neg (by omega), if_neg (by omega), if_neg (by omega), if_neg (by omega), if_neg (by omega), if_neg (by omega), if_neg (by omega), if_neg (by omega), if_pos (by omega)]
end EC
abbrev tyl (cs : Nat → ClassId) : List (ClassId × FieldType) := [(cs 0, .int), (cs 1, .boolean), (cs 2, .long), (cs 3, .object "WearHours$Thing"), (cs 4, .object "WearHours$Gap"), (cs 5, .object "WearHours$Person"), (cs 6, .object "WearHours$Repair")]
/-- the class's world holds at a state -/
def CWs (D : va_G) (cs : Nat → ClassId) (ad : Nat → Nat) (v : Nat → Nat → Int32) (sd : Int64) (U : State) : Prop :=
  va_P D classes (wv 42 ad (fun k => eC cs ad sd k (v k))) U.heap ∧ va_K D classes (tyl cs) U ∧ apt 42 ad ∧ NW U ∧ SR U ∧ ST U U.heap
/-- rooms: depth of calls, and how many exceptions may be made -/
abbrev rmx (k n : Nat) : Room := { frames := k + 6, cells := n, slots := 6 * n, locals := 60 * (k + 3) }
/-- a contract of a method over the class's world -/
def Cm (l : Launch) (y : MethodName) (bytes : ByteArray) (maxL : Nat) (ret : Option FieldType) (rm : Room) (av : List Value) (D : va_G) (cs : Nat → ClassId) (ad : Nat → Nat) (v : Nat → Nat → Int32) (sd : Int64) (post : Option Value → (Nat → Nat → Int32) → Int64 → Prop) (xp : String → Prop) : Prop :=
  ∀ sz, Mq l y bytes maxL ret [] rm av (fun U => U.heap.size = sz ∧ CWs D cs ad v sd U) (aA 42 ad sz) (fun r t => ∃ v' sd', post r v' sd' ∧ CWs D cs ad v' sd' t) (fun cls t => xp cls ∧ CWs D cs ad v sd t)
/-- the fixed part of a walk over the class's world -/
def Cx (p : Program) (l : Launch) (m : MethodId) (meth : Method) (c : Code) (cc : ByteArray) (nL : Nat) (ret : Option FieldType) (s : State) (args : Array Value) (own : String) (D : va_G) (cs : Nat → ClassId) (ad : Nat → Nat) : Prop :=
  Gx p m c cc nL s args own D (tyl cs) 42 ad (aA 42 ad s.heap.size) ∧ SR s ∧ ST s s.heap ∧ noSt (aA 42 ad s.heap.size) s.heap ∧ c.exceptionTable.toList = tableOf [] ∧ meth.locks = false ∧ meth.sig.returnType = ret ∧ meth.name = meth.name
section CRows
variable {p : Program} {l : Launch} {e : Env} {R : Room} {s : State} {m : MethodId} {args : Array Value} {below : List Frame} {meth : Method} {c : Code} {H : Heap} {locs : List Loc} {cells slots : Nat} {Q : State → Prop}
variable {y : MethodName} {bytes cc : ByteArray} {maxL nL pc index : Nat} {ret ret' : Option FieldType} {rm : Room} {av As rest st : List Value} {own C : String} {D : va_G} {cs : Nat → ClassId} {ad : Nat → Nat} {v v0 v' : Nat → Nat → Int32} {sd sd0 sd' : Int64} {post post' : Option Value → (Nat → Nat → Int32) → Int64 → Prop} {xp xp' : String → Prop} {ls : Array Slot} {b : Addr}
theorem Cx.hx (C : Cx p l m meth c cc nL ret s args own D cs ad) : p.tables.exec = Jvm.exec := C.1.1.1
theorem Cx.hb (C : Cx p l m meth c cc nL ret s args own D cs ad) : c.code = cc := C.1.1.2.1
theorem cw_at (K : Cx p l m meth c cc nL ret s args own D cs ad) (hS : va_S (aA 42 ad s.heap.size) s.heap H locs) (hP : va_P D classes (wv 42 ad (fun k => eC cs ad sd k (v k))) H) (t : State) (ht : t.heap = H) (hW : s.WarmedH t.vm) : CWs D cs ad v sd t := by
  obtain ⟨⟨F, hK, hap, hAd, hN⟩, hSR, hZ, hns, -⟩ := K
  exact ⟨by rw [ht]; exact hP, hK.moved hW.alike, hap, hN.warm hW, hSR.warm hW, by rw [ht]; exact (hZ.kept hns hS.2.1).moved hW.alike⟩
theorem cw_sub (hS : va_S (aA 42 ad s.heap.size) s.heap H locs) : ∀ q, aA 42 ad H.size q → aA 42 ad s.heap.size q := by
  intro q hq
  rcases hq with h | h
  · exact Or.inl h
  · exact Or.inr (Nat.le_trans hS.1 h)
theorem cw_enter (hown : y.cls = own) (hpl : (lg_sl av).length ≤ maxL)
    (body : ∀ (p : Program) (e : Env) (s : State) (m : MethodId) (below : List Frame) (meth : Method) (c : Code) (ls : Array Slot), Cx p l m meth c bytes maxL ret s av.toArray own D cs ad → va_S (aA 42 ad s.heap.size) s.heap s.heap [] → va_P D classes (wv 42 ad (fun k => eC cs ad sd k (v k))) s.heap → lv_has ls maxL (lv_args 0 av) →
      W p l e rm s m av.toArray below meth c s.heap [] 0 0 (xMQ below (QQ (aA 42 ad s.heap.size) (fun r t => ∃ v' sd', post r v' sd' ∧ CWs D cs ad v' sd' t) (fun cls t => xp cls ∧ CWs D cs ad v sd t)) s rm.cells rm.slots (aA 42 ad s.heap.size)) (F0 m 0 ls [])) : Cm l y bytes maxL ret rm av D cs ad v sd post xp := by
  intro sz p e s m below meth c hx hn hb hml htab hname hret hlk hw hPc
  obtain ⟨rfl, hP, hK, hap, hN, hSR, hZ⟩ := hPc
  have hl := lv_entry av hpl
  rw [lg_entry_eq]
  exact body p e s m below meth c _ ⟨⟨⟨hx, hb, hml, by rw [← hown]; exact findClass_of_methodNamed hn, hw⟩, hK, hap, fun k hk => Or.inl ⟨k, hk, rfl⟩, hN⟩, hSR, hZ, wv_nost rfl hP, htab, hlk, hret, rfl⟩ va_S.rf hP hl
/-- a call on an object of the class's world that never throws -/
theorem cc_V (K : Cx p l m meth c cc nL ret' s args own D cs ad) (hP : va_P D classes (wv 42 ad (fun k => eC cs ad sd k (v k))) H) (hS : va_S (aA 42 ad s.heap.size) s.heap H locs)
    (hM : Cm l y bytes maxL ret rm (.ref b :: As) D cs ad v sd post (fun _ => False)) (hcode : Cond.code y bytes maxL ret ∈ gt) (hy : xMeth y As.length) (hl : Cond.methodLink own index y ∈ gt) (hi : Cond.instanceMethod y ∈ gt) (hse : Cond.selects C y y ∈ gt) (hrecv : ∃ cell : Cell, H[b]? = some cell ∧ cell.vm.isStatics = false ∧ s.vm.findClass C = some cell.cls)
    (hst : st = As.reverse ++ .ref b :: rest) (hsz : ls.size = nL) (hdg : decode cc pc = .ok (.invokevirtual index, 3)) (hfr : rm.frames + 1 ≤ R.frames) (hlo : (rest.map fun v => v.category).sum + (maxL + 11) + rm.locals ≤ R.locals) (hf : cells + rm.cells ≤ R.cells ∧ slots + rm.slots ≤ R.slots)
    (kr : ∀ (r : Option Value) (v' : Nat → Nat → Int32) (sd' : Int64) (H1 : Heap) (locs1 : List Loc), post r v' sd' → va_P D classes (wv 42 ad (fun k => eC cs ad sd' k (v' k))) H1 → va_S (aA 42 ad s.heap.size) s.heap H1 locs1 → W p l e R s m args below meth c H1 locs1 (cells + rm.cells) (slots + rm.slots) Q (F0 m (pc + 3) ls (r.toList ++ rest))) :
    W p l e R s m args below meth c H locs cells slots Q (F0 m pc ls st) := by
  refine xc_V K.1.1 (hM H.size) (Or.inl ⟨rfl, hcode⟩) hy hl hi hse hrecv hst hsz hdg hfr hlo hf (fun U hU hW => ⟨by rw [hU], cw_at K hS hP U hU hW⟩) hS (cw_sub hS) ?_ ?_
  · intro r t H1 l1 ht hW hf1 _ _ hS1
    obtain ⟨v', sd', hp, hC⟩ := hf1
    exact kr r v' sd' H1 l1 hp (by rw [← ht]; exact hC.1) hS1
  · intro q cls cell t H1 l1 _ _ _ _ _ hx1
    exact hx1.1.elim
theorem cc_S (K : Cx p l m meth c cc nL ret' s args own D cs ad) (hP : va_P D classes (wv 42 ad (fun k => eC cs ad sd k (v k))) H) (hS : va_S (aA 42 ad s.heap.size) s.heap H locs)
    (hM : Cm l y bytes maxL ret rm As D cs ad v sd post (fun _ => False)) (hcode : Cond.code y bytes maxL ret ∈ gt) (hy : xMeth y As.length) (hl : Cond.methodLink own index y ∈ gt) (hi : Cond.static y ∈ gt) (hini : Cond.initialized y.cls ∈ gt)
    (hst : st = As.reverse ++ rest) (hsz : ls.size = nL) (hdg : decode cc pc = .ok (.invokestatic index, 3)) (hfr : rm.frames + 1 ≤ R.frames) (hlo : (rest.map fun v => v.category).sum + (maxL + 11) + rm.locals ≤ R.locals) (hf : cells + rm.cells ≤ R.cells ∧ slots + rm.slots ≤ R.slots)
    (kr : ∀ (r : Option Value) (v' : Nat → Nat → Int32) (sd' : Int64) (H1 : Heap) (locs1 : List Loc), post r v' sd' → va_P D classes (wv 42 ad (fun k => eC cs ad sd' k (v' k))) H1 → va_S (aA 42 ad s.heap.size) s.heap H1 locs1 → W p l e R s m args below meth c H1 locs1 (cells + rm.cells) (slots + rm.slots) Q (F0 m (pc + 3) ls (r.toList ++ rest))) :
    W p l e R s m args below meth c H locs cells slots Q (F0 m pc ls st) := by
  refine xc_S K.1.1 (hM H.size) (Or.inl ⟨rfl, hcode⟩) hy hl hi hini hst hsz hdg hfr hlo hf (fun U hU hW => ⟨by rw [hU], cw_at K hS hP U hU hW⟩) hS (cw_sub hS) ?_ ?_
  · intro r t H1 l1 ht hW hf1 _ _ hS1
    obtain ⟨v', sd', hp, hC⟩ := hf1
    exact kr r v' sd' H1 l1 hp (by rw [← ht]; exact hC.1) hS1
  · intro q cls cell t H1 l1 _ _ _ _ _ hx1
    exact hx1.1.elim
variable {mc ms : Nat} {f : Option Value → State → Prop}
/-- a call that may throw: what it throws goes on to the caller, everything is as it was -/
theorem cc_Vx (K : Cx p l m meth c cc nL ret' s args own D cs ad) (hP : va_P D classes (wv 42 ad (fun k => eC cs ad sd k (v k))) H) (hS : va_S (aA 42 ad s.heap.size) s.heap H locs)
    (hM : Cm l y bytes maxL ret rm (.ref b :: As) D cs ad v sd post xp) (hxp : ∀ cls, xp cls → xp' cls) (hcode : Cond.code y bytes maxL ret ∈ gt) (hy : xMeth y As.length) (hl : Cond.methodLink own index y ∈ gt) (hi : Cond.instanceMethod y ∈ gt) (hse : Cond.selects C y y ∈ gt) (hrecv : ∃ cell : Cell, H[b]? = some cell ∧ cell.vm.isStatics = false ∧ s.vm.findClass C = some cell.cls)
    (hst : st = As.reverse ++ .ref b :: rest) (hsz : ls.size = nL) (hdg : decode cc pc = .ok (.invokevirtual index, 3)) (hfr : rm.frames + 1 ≤ R.frames) (hlo : (rest.map fun v => v.category).sum + (maxL + 11) + rm.locals ≤ R.locals) (hf : cells + rm.cells ≤ R.cells ∧ slots + rm.slots ≤ R.slots) (hmc : cells + rm.cells ≤ mc) (hms : slots + rm.slots ≤ ms)
    (kr : ∀ (r : Option Value) (v' : Nat → Nat → Int32) (sd' : Int64) (H1 : Heap) (locs1 : List Loc), post r v' sd' → va_P D classes (wv 42 ad (fun k => eC cs ad sd' k (v' k))) H1 → va_S (aA 42 ad s.heap.size) s.heap H1 locs1 → W p l e R s m args below meth c H1 locs1 (cells + rm.cells) (slots + rm.slots) (xMQ below (QQ (aA 42 ad s.heap.size) f (fun cls t => xp' cls ∧ CWs D cs ad v sd t)) s mc ms (aA 42 ad s.heap.size)) (F0 m (pc + 3) ls (r.toList ++ rest))) :
    W p l e R s m args below meth c H locs cells slots (xMQ below (QQ (aA 42 ad s.heap.size) f (fun cls t => xp' cls ∧ CWs D cs ad v sd t)) s mc ms (aA 42 ad s.heap.size)) (F0 m pc ls st) := by
  refine xc_V K.1.1 (hM H.size) (Or.inl ⟨rfl, hcode⟩) hy hl hi hse hrecv hst hsz hdg hfr hlo hf (fun U hU hW => ⟨by rw [hU], cw_at K hS hP U hU hW⟩) hS (cw_sub hS) ?_ ?_
  · intro r t H1 l1 ht hW hf1 _ _ hS1
    obtain ⟨v', sd', hp, hC⟩ := hf1
    exact kr r v' sd' H1 l1 hp (by rw [← ht]; exact hC.1) hS1
  · intro q cls cell t H1 l1 ht hW hq hv hcl hx1 _ _ hS1
    exact xe_t K.2.2.2.2.1 K.2.2.2.2.2.1 hS1 hq hv hcl (fun t' ht' hW' => ⟨hxp cls hx1.1, cw_at K hS1 (by rw [← ht]; exact hx1.2.1) t' ht' hW'⟩) hmc hms
theorem cc_Sx (K : Cx p l m meth c cc nL ret' s args own D cs ad) (hP : va_P D classes (wv 42 ad (fun k => eC cs ad sd k (v k))) H) (hS : va_S (aA 42 ad s.heap.size) s.heap H locs)
    (hM : Cm l y bytes maxL ret rm As D cs ad v sd post xp) (hxp : ∀ cls, xp cls → xp' cls) (hcode : Cond.code y bytes maxL ret ∈ gt) (hy : xMeth y As.length) (hl : Cond.methodLink own index y ∈ gt) (hi : Cond.static y ∈ gt) (hini : Cond.initialized y.cls ∈ gt)
    (hst : st = As.reverse ++ rest) (hsz : ls.size = nL) (hdg : decode cc pc = .ok (.invokestatic index, 3)) (hfr : rm.frames + 1 ≤ R.frames) (hlo : (rest.map fun v => v.category).sum + (maxL + 11) + rm.locals ≤ R.locals) (hf : cells + rm.cells ≤ R.cells ∧ slots + rm.slots ≤ R.slots) (hmc : cells + rm.cells ≤ mc) (hms : slots + rm.slots ≤ ms)
    (kr : ∀ (r : Option Value) (v' : Nat → Nat → Int32) (sd' : Int64) (H1 : Heap) (locs1 : List Loc), post r v' sd' → va_P D classes (wv 42 ad (fun k => eC cs ad sd' k (v' k))) H1 → va_S (aA 42 ad s.heap.size) s.heap H1 locs1 → W p l e R s m args below meth c H1 locs1 (cells + rm.cells) (slots + rm.slots) (xMQ below (QQ (aA 42 ad s.heap.size) f (fun cls t => xp' cls ∧ CWs D cs ad v sd t)) s mc ms (aA 42 ad s.heap.size)) (F0 m (pc + 3) ls (r.toList ++ rest))) :
    W p l e R s m args below meth c H locs cells slots (xMQ below (QQ (aA 42 ad s.heap.size) f (fun cls t => xp' cls ∧ CWs D cs ad v sd t)) s mc ms (aA 42 ad s.heap.size)) (F0 m pc ls st) := by
  refine xc_S K.1.1 (hM H.size) (Or.inl ⟨rfl, hcode⟩) hy hl hi hini hst hsz hdg hfr hlo hf (fun U hU hW => ⟨by rw [hU], cw_at K hS hP U hU hW⟩) hS (cw_sub hS) ?_ ?_
  · intro r t H1 l1 ht hW hf1 _ _ hS1
    obtain ⟨v', sd', hp, hC⟩ := hf1
    exact kr r v' sd' H1 l1 hp (by rw [← ht]; exact hC.1) hS1
  · intro q cls cell t H1 l1 ht hW hq hv hcl hx1 _ _ hS1
    exact xe_t K.2.2.2.2.1 K.2.2.2.2.2.1 hS1 hq hv hcl (fun t' ht' hW' => ⟨hxp cls hx1.1, cw_at K hS1 (by rw [← ht]; exact hx1.2.1) t' ht' hW'⟩) hmc hms
/-! ends -/
abbrev cQ (below : List Frame) (s : State) (mc ms : Nat) (D : va_G) (cs : Nat → ClassId) (ad : Nat → Nat) (post : Option Value → (Nat → Nat → Int32) → Int64 → Prop) (xp : String → Prop) (v0 : Nat → Nat → Int32) (sd0 : Int64) : State → Prop :=
  xMQ below (QQ (aA 42 ad s.heap.size) (fun r t => ∃ v' sd', post r v' sd' ∧ CWs D cs ad v' sd' t) (fun cls t => xp cls ∧ CWs D cs ad v0 sd0 t)) s mc ms (aA 42 ad s.heap.size)
theorem ce_i (K : Cx p l m meth c cc nL (some .int) s args own D cs ad) (hP : va_P D classes (wv 42 ad (fun k => eC cs ad sd k (v k))) H) (hS : va_S (aA 42 ad s.heap.size) s.heap H locs) {z : Int32} (hp : post (some (.int z)) v sd) (hc : cells ≤ mc) (hs : slots ≤ ms) (hdg : decode cc pc = .ok (.ireturn, 1)) :
    W p l e R s m args below meth c H locs cells slots (cQ below s mc ms D cs ad post xp v0 sd0) (F0 m pc ls [.int z]) :=
  xe_i K.hx K.hb K.2.2.2.2.2.2.1 K.2.2.2.2.2.1 hS (fun t ht hW => ⟨v, sd, hp, cw_at K hS hP t ht hW⟩) hc hs hdg
theorem ce_z (K : Cx p l m meth c cc nL (some .boolean) s args own D cs ad) (hP : va_P D classes (wv 42 ad (fun k => eC cs ad sd k (v k))) H) (hS : va_S (aA 42 ad s.heap.size) s.heap H locs) {z : Int32} (hz : narrow .boolean (.int z) = .int z) (hp : post (some (.int z)) v sd) (hc : cells ≤ mc) (hs : slots ≤ ms) (hdg : decode cc pc = .ok (.ireturn, 1)) :
    W p l e R s m args below meth c H locs cells slots (cQ below s mc ms D cs ad post xp v0 sd0) (F0 m pc ls [.int z]) :=
  xe_z K.hx K.hb K.2.2.2.2.2.2.1 K.2.2.2.2.2.1 hS hz (fun t ht hW => ⟨v, sd, hp, cw_at K hS hP t ht hW⟩) hc hs hdg
theorem ce_l (K : Cx p l m meth c cc nL (some .long) s args own D cs ad) (hP : va_P D classes (wv 42 ad (fun k => eC cs ad sd k (v k))) H) (hS : va_S (aA 42 ad s.heap.size) s.heap H locs) {z : Int64} (hp : post (some (.long z)) v sd) (hc : cells ≤ mc) (hs : slots ≤ ms) (hdg : decode cc pc = .ok (.lreturn, 1)) :
    W p l e R s m args below meth c H locs cells slots (cQ below s mc ms D cs ad post xp v0 sd0) (F0 m pc ls [.long z]) :=
  xe_l K.hx K.hb K.2.2.2.2.2.2.1 K.2.2.2.2.2.1 hS (fun t ht hW => ⟨v, sd, hp, cw_at K hS hP t ht hW⟩) hc hs hdg
theorem ce_v (K : Cx p l m meth c cc nL none s args own D cs ad) (hP : va_P D classes (wv 42 ad (fun k => eC cs ad sd k (v k))) H) (hS : va_S (aA 42 ad s.heap.size) s.heap H locs) (hp : post none v sd) (hc : cells ≤ mc) (hs : slots ≤ ms) (hdg : decode cc pc = .ok (.return_, 1)) :
    W p l e R s m args below meth c H locs cells slots (cQ below s mc ms D cs ad post xp v0 sd0) (F0 m pc ls []) :=
  xe_v K.hx K.hb K.2.2.2.2.2.2.1 K.2.2.2.2.2.1 hS (fun t ht hW => ⟨v, sd, hp, cw_at K hS hP t ht hW⟩) hc hs hdg
theorem ce_a {cl : String} (K : Cx p l m meth c cc nL (some (.object cl)) s args own D cs ad) (hP : va_P D classes (wv 42 ad (fun k => eC cs ad sd k (v k))) H) (hS : va_S (aA 42 ad s.heap.size) s.heap H locs) {z : Nat} (hp : post (some (.ref z)) v sd) (hc : cells ≤ mc) (hs : slots ≤ ms) (hdg : decode cc pc = .ok (.areturn, 1)) :
    W p l e R s m args below meth c H locs cells slots (cQ below s mc ms D cs ad post xp v0 sd0) (F0 m pc ls [.ref z]) :=
  xe_a K.hx K.hb K.2.2.2.2.2.2.1 K.2.2.2.2.2.1 hS (fun t ht hW => ⟨v, sd, hp, cw_at K hS hP t ht hW⟩) hc hs hdg
/-- throw new E("text"), in the class itself -/
theorem ce_t {ik is ic : Nat} {cls text : String} (K : Cx p l m meth c cc nL ret s args "WearHours" D cs ad) (hP : va_P D classes (wv 42 ad (fun k => eC cs ad sd k (v k))) H) (hS : va_S (aA 42 ad s.heap.size) s.heap H locs) (hfl : l.flags = flags0)
    (hk : Cond.classLink "WearHours" ik cls ∈ gt) (hini : Cond.initialized cls ∈ gt) (hat : xAtoms ic cls) (hfit : Bundle.fit cls = true) (hstr : (is, text) ∈ strs) (hsz : ls.size = nL)
    (d0 : decode cc pc = .ok (.new ik, 3)) (d3 : decode cc (pc + 3) = .ok (.dup, 1)) (d4 : decode cc (pc + 4) = .ok (.ldc is, 2)) (d6 : decode cc (pc + 6) = .ok (.invokespecial ic, 3)) (d9 : decode cc (pc + 9) = .ok (.athrow, 1))
    (hRf : 6 ≤ R.frames) (hRl : (rest.map fun v => v.category).sum + 90 ≤ R.locals) (hRc : cells + 1 ≤ R.cells) (hRs : slots + 6 ≤ R.slots) (hc : cells + 1 ≤ mc) (hs : slots + 6 ≤ ms) (hxp : xp cls) :
    W p l e R s m args below meth c H locs cells slots (cQ below s mc ms D cs ad post xp v sd) (F0 m pc ls rest) := by
  refine x_throw K.1.1 hfl K.1.2.2.2.2 K.2.1 K.2.2.1 K.2.2.2.1 hS K.2.2.2.2.1 K.2.2.2.2.2.1 hk hini hat hfit hstr hsz d0 d3 d4 d6 d9 hRf hRl hRc hRs hc hs (fun t hW hz hk' => ⟨hxp, ?_⟩)
  obtain ⟨⟨F, hK, hap, hAd, hN⟩, hSR, hZ, hns, -⟩ := K
  refine ⟨fun k q hq => ?_, hK.moved hW.alike, hap, hN.warm hW, hSR.warm hW, ?_⟩
  · exact (hP k q hq).kept (hk' q.1 (hP k q hq).lt)
  · refine ((hZ.kept hns (H1 := t.heap) (fun a h1 h2 => ?_))).moved hW.alike
    rw [hk' a (Nat.lt_of_lt_of_le h1 hS.1)]
    exact hS.2.1 a h1 h2
end CRows
