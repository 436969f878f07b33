/-! worlds that grow: makers of objects -/
def cu (ct : Nat → va_E) (r : Nat) (e : va_E) : Nat → va_E := fun k => if k = r then e else ct k
def nu (ad : Nat → Nat) (r q : Nat) : Nat → Nat := fun k => if k = r then q else ad k
theorem wv_push (n : Nat) (ad : Nat → Nat) (ct : Nat → va_E) (q : Nat) (e : va_E) : wv n ad ct ++ [(q, e)] = wv (n + 1) (nu ad n q) (cu ct n e) := by
  unfold wv
  rw [List.range_succ, List.map_append]
  congr 1
  · apply List.map_congr_left
    intro k hk
    have : k < n := List.mem_range.mp hk
    unfold nu cu
    rw [if_neg (by omega), if_neg (by omega)]
  · simp [nu, cu]
theorem wv_cu {n r : Nat} (hr : r < n) (ad : Nat → Nat) (ct : Nat → va_E) (e : va_E) : (wv n ad ct).set r (ad r, e) = wv n ad (cu ct r e) :=
  wv_set hr (by unfold cu; rw [if_pos rfl]) (fun k hk => by unfold cu; rw [if_neg hk])
def aG (o S : Nat) : Nat → Prop := fun q => q = o ∨ S ≤ q
def AOs (U : State) : Prop := va_AO "WearHours$Thing" U ∧ va_AO "WearHours$Gap" U ∧ va_AO "WearHours$Person" U ∧ va_AO "WearHours$Repair" U
/-- what a maker needs of the tables -/
def Bs (D : va_G) (cs : Nat → ClassId) (U : State) : Prop := va_K D classes (tyl cs) U ∧ NW U ∧ AOs U
theorem Bs.warm {D : va_G} {cs : Nat → ClassId} {s U : State} (hW : s.WarmedH U.vm) (h : Bs D cs s) : Bs D cs U :=
  ⟨h.1.moved hW.alike, h.2.1.warm hW, h.2.2.1.moved hW.alike, h.2.2.2.1.moved hW.alike, h.2.2.2.2.1.moved hW.alike, h.2.2.2.2.2.moved hW.alike⟩
/-- a contract of a maker: n cells when it is done, the object o among them -/
def Nc (l : Launch) (y : MethodName) (bytes : ByteArray) (maxL : Nat) (rm : Room) (av : List Value) (D : va_G) (cs : Nat → ClassId) (o : Nat) (c0 : va_E) (n : Nat) (ctq : (Nat → Nat) → Nat → va_E) : Prop :=
  ∀ S, Mq l y bytes maxL none [] rm av (fun U => U.heap.size = S ∧ Bs D cs U ∧ va_at D classes (o, c0) U.heap) (aG o S) (fun r t => r = none ∧ ∃ ad : Nat → Nat, ad 0 = o ∧ va_P D classes (wv n ad (ctq ad)) t.heap ∧ va_D (aG o S) (wv n ad (ctq ad))) (fun _ _ => False)
/-- the fixed part of a maker's walk -/
def Nx (p : Program) (m : MethodId) (meth : Method) (c : Code) (cc : ByteArray) (nL : Nat) (s : State) (args : Array Value) (own : String) (D : va_G) (cs : Nat → ClassId) : Prop :=
  Fx p m c cc nL s args own ∧ Bs D cs s ∧ c.exceptionTable.toList = tableOf [] ∧ meth.locks = false ∧ meth.sig.returnType = none ∧ meth.name = "<init>"
section Grow
variable {p : Program} {l : Launch} {e : Env} {R : Room} {s : State} {m : MethodId} {args : Array Value} {below : List Frame} {meth : Method} {c : Code} {H : Heap} {locs : List Loc} {cells slots : Nat} {Q : State → Prop}
variable {y : MethodName} {bytes cc : ByteArray} {maxL nL pc index : Nat} {rm : Room} {av As rest st : List Value} {own C : String} {D : va_G} {cs : Nat → ClassId} {ad : Nat → Nat} {ct : Nat → va_E} {o n ci N : Nat} {c0 : va_E} {ctq : (Nat → Nat) → Nat → va_E} {ls : Array Slot} {b : Addr} {T : u_T} {fs fs' : List Value}
theorem Nx.hx (C : Nx p m meth c cc nL s args own D cs) : p.tables.exec = Jvm.exec := C.1.1
theorem Nx.hb (C : Nx p m meth c cc nL s args own D cs) : c.code = cc := C.1.2.1
theorem nw_enter (hown : y.cls = own) (hnm : y.name = "<init>") (hpl : (lg_sl av).length ≤ maxL)
    (body : ∀ (p : Program) (e : Env) (s : State) (m : MethodId) (below : List Frame) (meth : Method) (c : Code) (ls : Array Slot), Nx p m meth c bytes maxL s av.toArray own D cs → va_S (aG o s.heap.size) s.heap s.heap [] → va_P D classes (wv 1 (fun _ => o) (fun _ => c0)) s.heap → va_D (aG o s.heap.size) (wv 1 (fun _ => o) (fun _ => c0)) → lv_has ls maxL (lv_args 0 av) →
      W p l e rm s m av.toArray below meth c s.heap [] 0 0 (xMQ below (QQ (aG o s.heap.size) (fun r t => r = none ∧ ∃ ad : Nat → Nat, ad 0 = o ∧ va_P D classes (wv n ad (ctq ad)) t.heap ∧ va_D (aG o s.heap.size) (wv n ad (ctq ad))) (fun _ _ => False)) s rm.cells rm.slots (aG o s.heap.size)) (F0 m 0 ls [])) : Nc l y bytes maxL rm av D cs o c0 n ctq := by
  intro S p e s m below meth c hx hn hb hml htab hname hret hlk hw hPc
  obtain ⟨rfl, hB, hat⟩ := hPc
  have hl := lv_entry av hpl
  rw [lg_entry_eq]
  refine body p e s m below meth c _ ⟨⟨hx, hb, hml, by rw [← hown]; exact findClass_of_methodNamed hn, hw⟩, hB, htab, hlk, hret, hname.trans hnm⟩ va_S.rf (fun k q hq => ?_) ⟨fun i j x z hx hz _ => ?_, fun k q hq => ?_⟩ hl
  · obtain ⟨h1, rfl⟩ := wv_of hq
    exact hat
  · have h1 := (wv_of hx).1
    have h2 := (wv_of hz).1
    omega
  · obtain ⟨h1, rfl⟩ := wv_of hq
    exact Or.inl rfl
/-- the end of a maker -/
theorem ne_v {mc ms : Nat} (K : Nx p m meth c cc nL s args own D cs) (hP : va_P D classes (wv n ad ct) H) (hD : va_D (aG o s.heap.size) (wv n ad ct)) (hS : va_S (aG o s.heap.size) s.heap H locs) {f : Option Value → State → Prop} (hf : ∀ t : State, t.heap = H → f none t) (hc : cells ≤ mc) (hs : slots ≤ ms) (hdg : decode cc pc = .ok (.return_, 1)) :
    W p l e R s m args below meth c H locs cells slots (xMQ below (QQ (aG o s.heap.size) f (fun _ _ => False)) s mc ms (aG o s.heap.size)) (F0 m pc ls []) :=
  xe_v K.hx K.hb K.2.2.2.2.1 K.2.2.2.1 hS (fun t ht _ => hf t ht) hc hs hdg
theorem n_put {A : Nat → Prop} (K : Nx p m meth c cc nL s args own D cs) (hP : va_P D classes (wv n ad ct) H) (hD : va_D A (wv n ad ct)) (hS : va_S A s.heap H locs) (r : Nat) (hr : r < n) (he : ct r = .inr (ci, fs)) (hc : classes[ci]? = some (C, T, N)) (hin : ∀ w ∈ u_ws C T N, w ∈ gt) (ty0 : Nat → FieldType) (hty : ∀ k, k < N → parseFieldDescriptor (T k).2.2.1 = some (ty0 k)) (hnm : ∀ a, a < N → ∀ b, b < N → a ≠ b → (T a).2.1 ≠ (T b).2.1) (k : Nat) (hk : k < N) (hd : (T k).1 = C) (hl : Cond.fieldLink own index C (T k).2.1 (T k).2.2.1 ∈ gt) (ho : C = own)
    {x : Value} (hn : narrow (ty0 k) x = x) (hfit : fits (ty0 k) x = true) (hlen : k < fs.length) (hset : fs.set k x = fs') {a : Nat} (ha : ad r = a) (hdg : decode cc pc = .ok (.putfield index, 3))
    (kk : ∀ (H1 : Heap) (locs1 : List Loc), va_P D classes (wv n ad (cu ct r (.inr (ci, fs')))) H1 → va_D A (wv n ad (cu ct r (.inr (ci, fs')))) → va_S A s.heap H1 locs1 → W p l e R s m args below meth c H1 locs1 cells slots Q (F0 m (pc + 3) ls rest)) : W p l e R s m args below meth c H locs cells slots Q (F0 m pc ls (x :: .ref a :: rest)) := by
  obtain ⟨⟨hx, hb, hml, hown, hw⟩, ⟨hK, -, -⟩, -, -, -, hnam⟩ := K
  subst hset
  subst ha
  have he' : (wv n ad ct)[r]? = some (ad r, .inr (ci, fs)) := by rw [wv_at hr, he]
  cases hf : (T k).2.2.2 with
  | false => exact va_put (C := C) (T := T) (N := N) (ref := C) hx hb hw hin ty0 hty hnm hown hK hP hD hS r he' hc k hk (hw _ hl) (fun z h => by rw [hd] at h; exact h) hf (hty k hk) hn hfit hlen hdg (fun H1 l1 h1 h2 h3 => kk H1 l1 (by rw [← wv_cu hr]; exact h1) (by rw [← wv_cu hr]; exact h2) h3)
  | true => exact va_putF (C := C) (T := T) (N := N) (ref := C) hx hb hw hin ty0 hty hnm hown hK hP hD hS r he' hc k hk (hw _ hl) (fun z h => by rw [hd] at h; exact h) hf hnam (hd.trans ho) (hty k hk) hn hfit hlen hdg (fun H1 l1 h1 h2 h3 => kk H1 l1 (by rw [← wv_cu hr]; exact h1) (by rw [← wv_cu hr]; exact h2) h3)
theorem n_get (K : Nx p m meth c cc nL s args own D cs) (hP : va_P D classes (wv n ad ct) H) (r : Nat) (hr : r < n) (he : ct r = .inr (ci, fs)) (hc : classes[ci]? = some (C, T, N)) (hin : ∀ w ∈ u_ws C T N, w ∈ gt) (k : Nat) (hk : k < N) (hd : (T k).1 = C) (hl : Cond.fieldLink own index C (T k).2.1 (T k).2.2.1 ∈ gt)
    {x : Value} (hv : fs[k]? = some x) {a : Nat} (ha : ad r = a) (hdg : decode cc pc = .ok (.getfield index, 3))
    (kk : W p l e R s m args below meth c H locs cells slots Q (F0 m (pc + 3) ls (x :: rest))) : W p l e R s m args below meth c H locs cells slots Q (F0 m pc ls (.ref a :: rest)) := by
  obtain ⟨⟨hx, hb, hml, hown, hw⟩, ⟨hK, -, -⟩, -⟩ := K
  subst ha
  have he' : (wv n ad ct)[r]? = some (ad r, .inr (ci, fs)) := by rw [wv_at hr, he]
  exact va_get (C := C) (T := T) (N := N) (ref := C) hx hb hw hin hown hK hP r he' hc k hk (hw _ hl) (fun z h => by rw [hd] at h; exact h) hv hdg kk
theorem n_new (K : Nx p m meth c cc nL s args own D cs) (hP : va_P D classes (wv n ad ct) H) (hD : va_D (aG o s.heap.size) (wv n ad ct)) (hS : va_S (aG o s.heap.size) s.heap H locs) (hc : classes[ci]? = some (C, T, N)) (hin : ∀ w ∈ u_ws C T N, w ∈ gt) (ty : Nat → FieldType) (hty : ∀ k, k < N → parseFieldDescriptor (T k).2.2.1 = some (ty k)) (hcl : Cond.classLink own index C ∈ gt) (hinst : Cond.instantiable C N ∈ gt) (hini : Cond.initialized C ∈ gt)
    (hfs : ∀ j, j < N → defaultValue (ty j) = vp_V fs j) (hcells : cells + 1 ≤ R.cells) (hslots : slots + N ≤ R.slots) (hdg : decode cc pc = .ok (.new index, 3))
    (kk : ∀ (q : Nat) (H1 : Heap), va_P D classes (wv (n + 1) (nu ad n q) (cu ct n (.inr (ci, fs)))) H1 → va_D (aG o s.heap.size) (wv (n + 1) (nu ad n q) (cu ct n (.inr (ci, fs)))) → va_S (aG o s.heap.size) s.heap H1 locs → W p l e R s m args below meth c H1 locs (cells + 1) (slots + N) Q (F0 m (pc + 3) ls (.ref q :: rest))) : W p l e R s m args below meth c H locs cells slots Q (F0 m pc ls rest) := by
  obtain ⟨⟨hx, hb, hml, hown, hw⟩, ⟨hK, -, -⟩, -⟩ := K
  exact va_new hx hb hw hin ty hty hown (hw _ hcl) (hw _ hinst) (hw _ hini) hK hP hD hS (fun q h => Or.inr h) hc hfs hcells hslots hdg (fun q H1 h1 h2 h3 => kk q H1 (by rw [← wv_push]; exact h1) (by rw [← wv_push]; exact h2) h3)
theorem n_newa (K : Nx p m meth c cc nL s args own D cs) (hP : va_P D classes (wv n ad ct) H) (hD : va_D (aG o s.heap.size) (wv n ad ct)) (hS : va_S (aG o s.heap.size) s.heap H locs) {atype : ArrayType} (harr : Cond.arrayClass (newarray.typeOf atype) ∈ gt) {ty : FieldType} (hty : newarray.typeOf atype = ty) (hob : ∀ C, ty ≠ .object C) (t0 : Nat) (ht : (tyl cs)[t0]? = some (cs t0, ty))
    {z : Int32} {N' : Nat} {a0 : vp_A} (ha : ∀ cA : ClassId, vp_cell cA a0 = arrV cA N' (fun _ => defaultValue ty)) (hn : ¬ z < 0) (hN : z.toNatClampNeg = N') (hbytes : N' * componentBytes ty ≤ 536870912) (hcells : cells + 1 ≤ R.cells) (hslots : slots + N' ≤ R.slots) (hdg : decode cc pc = .ok (.newarray atype, 2))
    (kk : ∀ (q : Nat) (H1 : Heap), va_P D classes (wv (n + 1) (nu ad n q) (cu ct n (.inl (cs t0, a0)))) H1 → va_D (aG o s.heap.size) (wv (n + 1) (nu ad n q) (cu ct n (.inl (cs t0, a0)))) → va_S (aG o s.heap.size) s.heap H1 locs → W p l e R s m args below meth c H1 locs (cells + 1) (slots + N') Q (F0 m (pc + 2) ls (.ref q :: rest))) : W p l e R s m args below meth c H locs cells slots Q (F0 m pc ls (.int z :: rest)) := by
  obtain ⟨⟨hx, hb, hml, hown, hw⟩, ⟨hK, -, -⟩, -⟩ := K
  refine va_newa hx hb (hw _ harr) hty hK hP hD hS (fun q h => Or.inr h) ha hn hN hbytes hcells hslots hdg (fun q cA H1 hK1 h1 h2 h3 => ?_)
  have e1 : va_RA s cA ty := (hK1.2 (tyl cs).length (cA, ty) (by simp)).2
  have e2 : va_RA s (cs t0) ty := (hK.2 t0 _ ht).2
  have e3 : cA = cs t0 := by
    cases ty with
    | object C => exact absurd rfl (hob C)
    | _ => exact Option.some.inj (Eq.trans (Eq.symm e1) e2)
  subst e3
  exact kk q H1 (by rw [← wv_push]; exact h1) (by rw [← wv_push]; exact h2) h3
theorem n_newq (K : Nx p m meth c cc nL s args own D cs) (hP : va_P D classes (wv n ad ct) H) (hD : va_D (aG o s.heap.size) (wv n ad ct)) (hS : va_S (aG o s.heap.size) s.heap H locs) (hcl : Cond.classLink own index C ∈ gt) (hao : va_AO C s) (t0 : Nat) (ht : (tyl cs)[t0]? = some (cs t0, .object C))
    {z : Int32} {N' : Nat} (hn : ¬ z < 0) (hN : z.toNatClampNeg = N') (hbytes : N' * 4 ≤ 536870912) (hcells : cells + 1 ≤ R.cells) (hslots : slots + N' ≤ R.slots) (hdg : decode cc pc = .ok (.anewarray index, 3))
    (kk : ∀ (q : Nat) (H1 : Heap), va_P D classes (wv (n + 1) (nu ad n q) (cu ct n (aR (cs t0) N' (fun _ => none)))) H1 → va_D (aG o s.heap.size) (wv (n + 1) (nu ad n q) (cu ct n (aR (cs t0) N' (fun _ => none)))) → va_S (aG o s.heap.size) s.heap H1 locs → W p l e R s m args below meth c H1 locs (cells + 1) (slots + N') Q (F0 m (pc + 3) ls (.ref q :: rest))) : W p l e R s m args below meth c H locs cells slots Q (F0 m pc ls (.int z :: rest)) := by
  obtain ⟨⟨hx, hb, hml, hown, hw⟩, ⟨hK, -, -⟩, -⟩ := K
  refine va_newq hx hb hown (hw _ hcl) hao hK hP hD hS (fun q h => Or.inr h) hn hN hbytes hcells hslots hdg (fun q cA H1 hK1 h1 h2 h3 => ?_)
  have e1 : va_RA s cA (.object C) := (hK1.2 (tyl cs).length (cA, .object C) (by simp)).2
  have e2 : va_RA s (cs t0) (.object C) := (hK.2 t0 _ ht).2
  obtain ⟨_, _, _, _, _, f1⟩ := e1
  obtain ⟨_, _, _, _, _, f2⟩ := e2
  have e3 : cA = cs t0 := Option.some.inj (f1.symm.trans f2)
  subst e3
  exact kk q H1 (by rw [← wv_push]; exact h1) (by rw [← wv_push]; exact h2) h3
theorem n_ast {A : Nat → Prop} (K : Nx p m meth c cc nL s args own D cs) (hP : va_P D classes (wv n ad ct) H) (hD : va_D A (wv n ad ct)) (hS : va_S A s.heap H locs) (r qk : Nat) (hr : r < n) (hq : qk < n) {t0 L v a : Nat} {f : Nat → Option Nat} {vs : List Value} (he : ct r = aR (cs t0) L f) (ht : (tyl cs)[t0]? = some (cs t0, .object C)) (hv : ct qk = .inr (ci, vs)) (hc : classes[ci]? = some (C, T, N)) (ha : ad r = a) (hva : ad qk = v) {i : Int32} (j : Nat) (hi : i = nI j) (hj : j < L) (hL : L < 2 ^ 31) (hdg : decode cc pc = .ok (.aastore, 1))
    (kk : ∀ (H1 : Heap) (locs1 : List Loc), va_P D classes (wv n ad (cu ct r (aR (cs t0) L (va_up f j (some v))))) H1 → va_D A (wv n ad (cu ct r (aR (cs t0) L (va_up f j (some v))))) → va_S A s.heap H1 locs1 → W p l e R s m args below meth c H1 locs1 cells slots Q (F0 m (pc + 1) ls rest)) : W p l e R s m args below meth c H locs cells slots Q (F0 m pc ls (.ref v :: .int i :: .ref a :: rest)) := by
  obtain ⟨⟨hx, hb, hml, hown, hw⟩, ⟨hK, -, -⟩, -⟩ := K
  subst ha
  subst hva
  refine va_astq hx hb hK hP hD hS r t0 qk ci (by rw [wv_at hr, he]) ht (by rw [wv_at hq, hv]) hc (i := i) (by rw [hi]; exact vp_in_nI hj hL) hdg (fun H1 l1 h1 h2 h3 => ?_)
  rw [hi, nI_clamp (by omega)] at h1 h2
  exact kk H1 l1 (by rw [← wv_cu hr]; exact h1) (by rw [← wv_cu hr]; exact h2) h3
/-- a maker that makes nothing -/
def N0 (l : Launch) (y : MethodName) (bytes : ByteArray) : Prop := ∀ sz b, Mq l y bytes 1 none [] { frames := 3, cells := 0, slots := 0, locals := 40 } [.ref b] (fun U => U.heap.size = sz) (fun q => sz ≤ q) (fun r _ => r = none) (fun _ _ => False)
theorem n_init0 (K : Nx p m meth c cc nL s args own D cs) (hP : va_P D classes (wv n ad ct) H) (hD : va_D (aG o s.heap.size) (wv n ad ct)) (hS : va_S (aG o s.heap.size) s.heap H locs) (hM : N0 l y bytes) (hcode : Cond.code y bytes 1 none ∈ gt) (hy : xMeth y 0) (hy1 : y.name = "<init>") {host : String} (hl : Cond.methodLink own index y ∈ gt ∨ Cond.methodLinkNest own index y host ∈ nwt) (hi : Cond.instanceMethod y ∈ gt)
    (hsz : ls.size = nL) (hdg : decode cc pc = .ok (.invokespecial index, 3)) (hfr : 4 ≤ R.frames) (hlo : (rest.map fun v => v.category).sum + 52 ≤ R.locals) (hf : cells ≤ R.cells ∧ slots ≤ R.slots)
    (kk : ∀ (H1 : Heap) (locs1 : List Loc), va_P D classes (wv n ad ct) H1 → va_S (aG o s.heap.size) s.heap H1 locs1 → W p l e R s m args below meth c H1 locs1 cells slots Q (F0 m (pc + 3) ls rest)) : W p l e R s m args below meth c H locs cells slots Q (F0 m pc ls (.ref b :: rest)) := by
  have hN := K.2.1.2.1
  refine xc_I (As := []) (host := host) K.1 (hM H.size b) hcode hy hy1 (hl.imp id (fun h => hN _ h)) hi rfl hsz hdg hfr (by show _ + (1 + 11) + 40 ≤ _; omega) hf (fun U hU _ => by rw [hU]) hS (fun q hq => Or.inr (Nat.le_trans hS.1 hq)) ?_ ?_
  · intro r t H1 l1 ht hW hf1 hs1 hk1 hS1
    subst hf1
    exact kk H1 l1 (hP.kept (fun k q hq => hk1 q.1 (hP k q hq).lt (Nat.not_le.mpr (hP k q hq).lt))) hS1
  · intro q cls cell t H1 l1 _ _ _ _ _ hx1
    exact hx1.elim
/-- a maker's call: its new cells come behind the others -/
theorem n_init (K : Nx p m meth c cc nL s args own D cs) (hP : va_P D classes (wv n ad ct) H) (hD : va_D (aG o s.heap.size) (wv n ad ct)) (hS : va_S (aG o s.heap.size) s.heap H locs) (r : Nat) (hr : r < n) (hb : ad r = b) {n1 : Nat} (hM : Nc l y bytes maxL rm (.ref b :: As) D cs b (ct r) (n1 + 1) ctq) (hcode : Cond.code y bytes maxL none ∈ gt) (hy : xMeth y As.length) (hy1 : y.name = "<init>") {host : String} (hl : Cond.methodLink own index y ∈ gt ∨ Cond.methodLinkNest own index y host ∈ nwt) (hi : Cond.instanceMethod y ∈ gt)
    (hst : st = As.reverse ++ .ref b :: rest) (hsz : ls.size = nL) (hdg : decode cc pc = .ok (.invokespecial index, 3)) (hfr : rm.frames + 1 ≤ R.frames) (hlo : (rest.map fun v => v.category).sum + (maxL + 11) + rm.locals ≤ R.locals) (hf : cells + rm.cells ≤ R.cells ∧ slots + rm.slots ≤ R.slots)
    (kk : ∀ (a1 : Nat → Nat) (H1 : Heap) (locs1 : List Loc), a1 0 = b → va_P D classes (wv (n + n1) (fun k => if k < n then ad k else a1 (k - n + 1)) (fun k => if k = r then ctq a1 0 else if k < n then ct k else ctq a1 (k - n + 1))) H1 → va_D (aG o s.heap.size) (wv (n + n1) (fun k => if k < n then ad k else a1 (k - n + 1)) (fun k => if k = r then ctq a1 0 else if k < n then ct k else ctq a1 (k - n + 1))) → va_S (aG o s.heap.size) s.heap H1 locs1 → W p l e R s m args below meth c H1 locs1 (cells + rm.cells) (slots + rm.slots) Q (F0 m (pc + 3) ls rest)) : W p l e R s m args below meth c H locs cells slots Q (F0 m pc ls st) := by
  have hN := K.2.1.2.1
  have hbl : b < H.size := by
    have := (hP r _ (wv_at hr)).lt
    rw [← hb]; exact this
  have hAb : aG o s.heap.size b := by
    have := hD.2 r _ (wv_at hr)
    rw [← hb]; exact this
  refine xc_I (host := host) K.1 (hM H.size) hcode hy hy1 (hl.imp id (fun h => hN _ h)) hi hst hsz hdg hfr hlo hf (fun U hU hW => ⟨by rw [hU], K.2.1.warm hW, ?_⟩) hS (fun q hq => ?_) ?_ ?_
  · have := hP r _ (wv_at hr)
    rw [hb] at this
    rw [hU]; exact this
  · rcases hq with rfl | hq
    · exact hAb
    · exact Or.inr (Nat.le_trans hS.1 hq)
  · intro v t H1 l1 ht hW hf1 hs1 hk1 hS1
    obtain ⟨rfl, a1, h0, hP1, hD1⟩ := hf1
    rw [ht] at hP1
    have hnew : ∀ k, k < n1 → H.size ≤ a1 (k + 1) := by
      intro k hk
      rcases hD1.2 (k + 1) _ (wv_at (by omega)) with h9 | h9
      · have := hD1.1 (k + 1) 0 _ _ (wv_at (by omega)) (wv_at (by omega)) (by show a1 (k + 1) = a1 0; rw [h0]; exact h9)
        omega
      · exact h9
    have hold : ∀ k, k < n → ad k < H.size := fun k hk => (hP k _ (wv_at hk)).lt
    refine kk a1 H1 l1 h0 (fun k q hq => ?_) ⟨fun i j x z hx hz hxz => ?_, fun k q hq => ?_⟩ hS1
    · obtain ⟨hk, rfl⟩ := wv_of hq
      by_cases h1 : k = r
      · subst h1
        show va_at D classes (if k < n then ad k else a1 (k - n + 1), if k = k then ctq a1 0 else _) H1
        rw [if_pos hr, if_pos rfl, hb, ← h0]
        exact hP1 0 _ (wv_at (by omega))
      · by_cases h2 : k < n
        · show va_at D classes (if k < n then ad k else a1 (k - n + 1), if k = r then ctq a1 0 else if k < n then ct k else _) H1
          rw [if_pos h2, if_neg h1, if_pos h2]
          refine (hP k _ (wv_at h2)).kept (hk1 _ (hold k h2) (fun h9 => ?_))
          rcases h9 with h9 | h9
          · exact h1 (hD.1 k r _ _ (wv_at h2) (wv_at hr) (by show ad k = ad r; rw [hb]; exact h9))
          · have := hold k h2
            have h9 : H.size ≤ ad k := h9
            omega
        · show va_at D classes (if k < n then ad k else a1 (k - n + 1), if k = r then ctq a1 0 else if k < n then ct k else ctq a1 (k - n + 1)) H1
          rw [if_neg h2, if_neg h1, if_neg h2]
          exact hP1 (k - n + 1) _ (wv_at (by omega))
    · obtain ⟨hi', rfl⟩ := wv_of hx
      obtain ⟨hj', rfl⟩ := wv_of hz
      have hxz : (if i < n then ad i else a1 (i - n + 1)) = (if j < n then ad j else a1 (j - n + 1)) := hxz
      by_cases h1 : i < n
      · rw [if_pos h1] at hxz
        by_cases h2 : j < n
        · rw [if_pos h2] at hxz
          exact hD.1 i j _ _ (wv_at h1) (wv_at h2) hxz
        · rw [if_neg h2] at hxz
          have g1 := hold i h1
          have g2 := hnew (j - n) (by omega)
          omega
      · rw [if_neg h1] at hxz
        by_cases h2 : j < n
        · rw [if_pos h2] at hxz
          have g1 := hold j h2
          have g2 := hnew (i - n) (by omega)
          omega
        · rw [if_neg h2] at hxz
          have := hD1.1 (i - n + 1) (j - n + 1) _ _ (wv_at (by omega)) (wv_at (by omega)) hxz
          omega
    · obtain ⟨hk, rfl⟩ := wv_of hq
      show aG o s.heap.size (if k < n then ad k else a1 (k - n + 1))
      by_cases h2 : k < n
      · rw [if_pos h2]; exact hD.2 k _ (wv_at h2)
      · rw [if_neg h2]
        exact Or.inr (Nat.le_trans hS.1 (hnew (k - n) (by omega)))
  · intro q cls cell t H1 l1 _ _ _ _ _ hx1
    exact hx1.elim
end Grow
