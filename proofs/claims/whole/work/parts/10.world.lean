/-! worlds by roles: the cell of role k lies at ad k and holds E k (v k) -/
def wv (n : Nat) (ad : Nat → Nat) (ct : Nat → va_E) : va_W := (List.range n).map (fun k => (ad k, ct k))
theorem wv_at {n : Nat} {ad : Nat → Nat} {ct : Nat → va_E} {k : Nat} (h : k < n) : (wv n ad ct)[k]? = some (ad k, ct k) := by
  simp [wv, h]
theorem wv_of {n : Nat} {ad : Nat → Nat} {ct : Nat → va_E} {k : Nat} {q : Nat × va_E} (h : (wv n ad ct)[k]? = some q) : k < n ∧ q = (ad k, ct k) := by
  have hk : k < n := by
    have := (List.getElem?_eq_some_iff.mp h).1
    simpa [wv] using this
  rw [wv_at hk] at h
  exact ⟨hk, (Option.some.inj h).symm⟩
/-- the rows of numbers, one changed -/
def u2 (v : Nat → Nat → Int32) (r j : Nat) (x : Int32) : Nat → Nat → Int32 := fun k => if k = r then upd (v r) j x else v k
theorem u2_self (v : Nat → Nat → Int32) (r j : Nat) (x : Int32) : u2 v r j x r = upd (v r) j x := if_pos rfl
theorem u2_ne {v : Nat → Nat → Int32} {r j k : Nat} {x : Int32} (h : k ≠ r) : u2 v r j x k = v k := if_neg h
theorem u2_eq (v : Nat → Nat → Int32) (r j : Nat) (x : Int32) : u2 v r j x r j = x := by rw [u2_self]; exact pk_us
theorem u2_at (v : Nat → Nat → Int32) (r j : Nat) (x : Int32) (k i : Nat) : u2 v r j x k i = if k = r ∧ i = j then x else v k i := by
  unfold u2
  by_cases h : k = r
  · subst h
    rw [if_pos rfl]
    by_cases h2 : i = j
    · subst h2; rw [if_pos ⟨rfl, rfl⟩]; exact pk_us
    · rw [if_neg (fun q => h2 q.2)]; exact pk_un h2
  · rw [if_neg h, if_neg (fun q => h q.1)]
theorem wv_set {n : Nat} {ad : Nat → Nat} {ct ct' : Nat → va_E} {r : Nat} {e : va_E} (hr : r < n) (he : e = ct' r) (ho : ∀ k, k ≠ r → ct' k = ct k) : (wv n ad ct).set r (ad r, e) = wv n ad ct' := by
  apply List.ext_getElem?
  intro k
  by_cases hk : k < n
  · rw [wv_at hk]
    by_cases h : k = r
    · subst h
      rw [List.getElem?_set_self (by simpa [wv] using hk), he]
    · rw [List.getElem?_set_ne (Ne.symm h), wv_at hk, ho k h]
  · rw [List.getElem?_eq_none (by simpa [wv] using hk), List.getElem?_eq_none (by simpa [wv] using hk)]
/-- the addresses of n roles are apart -/
def apt (n : Nat) (ad : Nat → Nat) : Prop := ∀ i j, i < n → j < n → ad i = ad j → i = j
/-- what a method over these roles may change, from a heap of sz cells -/
def aA (n : Nat) (ad : Nat → Nat) (sz : Nat) : Nat → Prop := fun q => (∃ k, k < n ∧ q = ad k) ∨ sz ≤ q
theorem apt.D {n : Nat} {ad : Nat → Nat} {ct : Nat → va_E} {A : Nat → Prop} (h : apt n ad) (hA : ∀ k, k < n → A (ad k)) : va_D A (wv n ad ct) := by
  refine ⟨fun i j x y hx hy hxy => ?_, fun k q hq => ?_⟩
  · obtain ⟨h1, rfl⟩ := wv_of hx
    obtain ⟨h2, rfl⟩ := wv_of hy
    exact h i j h1 h2 hxy
  · obtain ⟨h1, rfl⟩ := wv_of hq
    exact hA k h1
/-- the fixed part of a walk over a world of n roles -/
abbrev Gx (p : Program) (m : MethodId) (c : Code) (cc : ByteArray) (nL : Nat) (s : State) (args : Array Value) (own : String) (D : va_G) (tys : List (ClassId × FieldType)) (n : Nat) (ad : Nat → Nat) (A : Nat → Prop) : Prop :=
  Fx p m c cc nL s args own ∧ va_K D classes tys s ∧ apt n ad ∧ (∀ k, k < n → A (ad k)) ∧ NW s
/-- a field's link, in its own class or across the nest -/
def lnk (own : String) (index : Nat) (C f d : String) : Prop := Cond.fieldLink own index C f d ∈ gt ∨ Cond.fieldLinkNest own index C f d "WearHours" ∈ nwt
section GRows
variable {p : Program} {l : Launch} {e : Env} {R : Room} {s : State} {m : MethodId} {args : Array Value} {below : List Frame} {meth : Method} {c : Code} {H : Heap} {locs : List Loc} {cells slots : Nat} {Q : State → Prop}
variable {cc : ByteArray} {nL pc index ci N n : Nat} {own C : String} {D : va_G} {tys : List (ClassId × FieldType)} {ad : Nat → Nat} {A : Nat → Prop} {E : Nat → (Nat → Int32) → va_E} {v : Nat → Nat → Int32} {T : u_T} {fs : List Value} {rest : List Value} {ls : Array Slot} {H0 : Heap}
theorem g_get (G : Gx p m c cc nL s args own D tys n ad A) (hP : va_P D classes (wv n ad (fun k => E k (v k))) H) (r : Nat) (hr : r < n) (hE : E r (v r) = .inr (ci, fs)) (hc : classes[ci]? = some (C, T, N)) (hin : ∀ w ∈ u_ws C T N, w ∈ gt) (k : Nat) (hk : k < N) (hd : (T k).1 = C) (hl : lnk own index C (T k).2.1 (T k).2.2.1)
    {x : Value} (hv : fs[k]? = some x) (hdg : decode cc pc = .ok (.getfield index, 3))
    (kk : W p l e R s m args below meth c H locs cells slots Q (F0 m (pc + 3) ls (x :: rest))) : W p l e R s m args below meth c H locs cells slots Q (F0 m pc ls (.ref (ad r) :: rest)) := by
  obtain ⟨⟨hx, hb, hml, ho, hw⟩, hK, -, -, hN⟩ := G
  have he : (wv n ad (fun k => E k (v k)))[r]? = some (ad r, .inr (ci, fs)) := by rw [wv_at hr, hE]
  rcases hl with hl | hl
  · exact va_get (C := C) (T := T) (N := N) (ref := C) hx hb hw hin ho hK hP r he hc k hk (hw _ hl) (fun z h => by rw [hd] at h; exact h) hv hdg kk
  · exact va_getN (C := C) (T := T) (N := N) (ref := C) (host := "WearHours") hx hb hw hin ho hK hP r he hc k hk (va_Nw.use rfl (hN _ hl)) (fun z h => by rw [hd] at h; exact h) hv hdg kk
theorem g_put (G : Gx p m c cc nL s args own D tys n ad A) (hP : va_P D classes (wv n ad (fun k => E k (v k))) H) (hS : va_S A H0 H locs) (r : Nat) (hr : r < n) (hE : E r (v r) = .inr (ci, fs)) (hc : classes[ci]? = some (C, T, N)) (hin : ∀ w ∈ u_ws C T N, w ∈ gt) (ty0 : Nat → FieldType) (hty : ∀ k, k < N → parseFieldDescriptor (T k).2.2.1 = some (ty0 k)) (hnm : ∀ a, a < N → ∀ b, b < N → a ≠ b → (T a).2.1 ≠ (T b).2.1) (k : Nat) (hk : k < N) (hd : (T k).1 = C) (hl : lnk own index C (T k).2.1 (T k).2.2.1)
    (hfin : (T k).2.2.2 = false) {x : Value} (hn : narrow (ty0 k) x = x) (hfit : fits (ty0 k) x = true) (hlen : k < fs.length) {E' : Nat → (Nat → Int32) → va_E} {v' : Nat → Nat → Int32} (hE' : Sum.inr (ci, fs.set k x) = E' r (v' r)) (ho' : ∀ k, k ≠ r → E' k (v' k) = E k (v k)) (hdg : decode cc pc = .ok (.putfield index, 3))
    (kk : ∀ (H1 : Heap) (locs1 : List Loc), va_P D classes (wv n ad (fun k => E' k (v' k))) H1 → va_S A H0 H1 locs1 → W p l e R s m args below meth c H1 locs1 cells slots Q (F0 m (pc + 3) ls rest)) : W p l e R s m args below meth c H locs cells slots Q (F0 m pc ls (x :: .ref (ad r) :: rest)) := by
  obtain ⟨⟨hx, hb, hml, ho, hw⟩, hK, hap, hAd, hN⟩ := G
  have he : (wv n ad (fun k => E k (v k)))[r]? = some (ad r, .inr (ci, fs)) := by rw [wv_at hr, hE]
  have hset : (wv n ad (fun k => E k (v k))).set r (ad r, .inr (ci, fs.set k x)) = wv n ad (fun k => E' k (v' k)) := wv_set hr hE' ho'
  rcases hl with hl | hl
  · exact va_put (C := C) (T := T) (N := N) (ref := C) hx hb hw hin ty0 hty hnm ho hK hP (hap.D hAd) hS r he hc k hk (hw _ hl) (fun z h => by rw [hd] at h; exact h) hfin (hty k hk) hn hfit hlen hdg (fun H1 l1 hP1 _ hS1 => kk H1 l1 (by rw [hset] at hP1; exact hP1) hS1)
  · exact va_putN (C := C) (T := T) (N := N) (ref := C) (host := "WearHours") hx hb hw hin ty0 hty hnm ho hK hP (hap.D hAd) hS r he hc k hk (va_Nw.use rfl (hN _ hl)) (fun z h => by rw [hd] at h; exact h) hfin (hty k hk) hn hfit hlen hdg (fun H1 l1 hP1 _ hS1 => kk H1 l1 (by rw [hset] at hP1; exact hP1) hS1)
/-- an int field gets an int -/
theorem g_puti (G : Gx p m c cc nL s args own D tys n ad A) (hP : va_P D classes (wv n ad (fun k => E k (v k))) H) (hS : va_S A H0 H locs) (r : Nat) (hr : r < n) (hE : E r (v r) = .inr (ci, fs)) (hc : classes[ci]? = some (C, T, N)) (hin : ∀ w ∈ u_ws C T N, w ∈ gt) (ty0 : Nat → FieldType) (hty : ∀ k, k < N → parseFieldDescriptor (T k).2.2.1 = some (ty0 k)) (hnm : ∀ a, a < N → ∀ b, b < N → a ≠ b → (T a).2.1 ≠ (T b).2.1) (k : Nat) (hk : k < N) (hd : (T k).1 = C) (hl : lnk own index C (T k).2.1 (T k).2.2.1)
    (hfin : (T k).2.2.2 = false) {x : Int32} (hn : narrow (ty0 k) (.int x) = .int x) (hfit : fits (ty0 k) (.int x) = true) (hlen : k < fs.length) (hE' : Sum.inr (ci, fs.set k (.int x)) = E r (upd (v r) k x)) (hdg : decode cc pc = .ok (.putfield index, 3))
    (kk : ∀ (H1 : Heap) (locs1 : List Loc), va_P D classes (wv n ad (fun q => E q (u2 v r k x q))) H1 → va_S A H0 H1 locs1 → W p l e R s m args below meth c H1 locs1 cells slots Q (F0 m (pc + 3) ls rest)) : W p l e R s m args below meth c H locs cells slots Q (F0 m pc ls (.int x :: .ref (ad r) :: rest)) :=
  g_put (E' := E) (v' := u2 v r k x) G hP hS r hr hE hc hin ty0 hty hnm k hk hd hl hfin hn hfit hlen (by rw [u2_self]; exact hE') (fun q hq => by rw [u2_ne hq]) hdg kk
theorem g_iald (G : Gx p m c cc nL s args own D tys n ad A) (hP : va_P D classes (wv n ad (fun k => E k (v k))) H) (r : Nat) (hr : r < n) {cA : ClassId} {len : Nat} (hE : E r (v r) = .inl (cA, len, .inl (v r))) (t0 : Nat) (ht : tys[t0]? = some (cA, .int)) {i : Int32} (j : Nat) (hi : i = nI j) (hj : j < len) (hlen : len < 2 ^ 31) (hdg : decode cc pc = .ok (.iaload, 1))
    (kk : W p l e R s m args below meth c H locs cells slots Q (F0 m (pc + 1) ls (.int (v r j) :: rest))) : W p l e R s m args below meth c H locs cells slots Q (F0 m pc ls (.int i :: .ref (ad r) :: rest)) := by
  obtain ⟨⟨hx, hb, hml, ho, hw⟩, hK, -, -, -⟩ := G
  have he : (wv n ad (fun k => E k (v k)))[r]? = some (ad r, .inl (cA, len, .inl (v r))) := by rw [wv_at hr, hE]
  refine va_iald hx hb hK hP r t0 he ht (i := i) (by rw [hi]; exact vp_in_nI hj hlen) hdg ?_
  rw [hi, nI_clamp (by omega)]
  exact kk
theorem g_iast (G : Gx p m c cc nL s args own D tys n ad A) (hP : va_P D classes (wv n ad (fun k => E k (v k))) H) (hS : va_S A H0 H locs) (r : Nat) (hr : r < n) {cA : ClassId} {len : Nat} (hE : ∀ w, E r w = .inl (cA, len, .inl w)) (t0 : Nat) (ht : tys[t0]? = some (cA, .int)) {i x : Int32} (j : Nat) (hi : i = nI j) (hj : j < len) (hlen : len < 2 ^ 31) (hdg : decode cc pc = .ok (.iastore, 1))
    (kk : ∀ (H1 : Heap) (locs1 : List Loc), va_P D classes (wv n ad (fun q => E q (u2 v r j x q))) H1 → va_S A H0 H1 locs1 → W p l e R s m args below meth c H1 locs1 cells slots Q (F0 m (pc + 1) ls rest)) : W p l e R s m args below meth c H locs cells slots Q (F0 m pc ls (.int x :: .int i :: .ref (ad r) :: rest)) := by
  obtain ⟨⟨hx, hb, hml, ho, hw⟩, hK, hap, hAd, -⟩ := G
  have he : (wv n ad (fun k => E k (v k)))[r]? = some (ad r, .inl (cA, len, .inl (v r))) := by rw [wv_at hr, hE]
  refine va_iast hx hb hK hP (hap.D hAd) hS r t0 he ht (i := i) (by rw [hi]; exact vp_in_nI hj hlen) hdg (fun H1 l1 hP1 _ hS1 => kk H1 l1 ?_ hS1)
  rw [hi, nI_clamp (by omega)] at hP1
  rw [wv_set (ct' := fun q => E q (u2 v r j x q)) hr (by rw [u2_self, hE]) (fun q hq => by rw [u2_ne hq])] at hP1
  exact hP1
theorem g_zald (G : Gx p m c cc nL s args own D tys n ad A) (hP : va_P D classes (wv n ad (fun k => E k (v k))) H) (r : Nat) (hr : r < n) {cA : ClassId} {len : Nat} (hE : E r (v r) = .inl (cA, len, .inl (v r))) (t0 : Nat) (ht : tys[t0]? = some (cA, .boolean)) {i : Int32} (j : Nat) (hi : i = nI j) (hj : j < len) (hlen : len < 2 ^ 31) (hdg : decode cc pc = .ok (.baload, 1))
    (kk : W p l e R s m args below meth c H locs cells slots Q (F0 m (pc + 1) ls (.int (v r j) :: rest))) : W p l e R s m args below meth c H locs cells slots Q (F0 m pc ls (.int i :: .ref (ad r) :: rest)) := by
  obtain ⟨⟨hx, hb, hml, ho, hw⟩, hK, -, -, -⟩ := G
  have he : (wv n ad (fun k => E k (v k)))[r]? = some (ad r, .inl (cA, len, .inl (v r))) := by rw [wv_at hr, hE]
  refine va_zald hx hb hK hP r t0 he ht (i := i) (by rw [hi]; exact vp_in_nI hj hlen) hdg ?_
  rw [hi, nI_clamp (by omega)]
  exact kk
theorem g_zast (G : Gx p m c cc nL s args own D tys n ad A) (hP : va_P D classes (wv n ad (fun k => E k (v k))) H) (hS : va_S A H0 H locs) (r : Nat) (hr : r < n) {cA : ClassId} {len : Nat} (hE : ∀ w, E r w = .inl (cA, len, .inl w)) (t0 : Nat) (ht : tys[t0]? = some (cA, .boolean)) {i x : Int32} (hx01 : vp_nar .boolean x = x) (j : Nat) (hi : i = nI j) (hj : j < len) (hlen : len < 2 ^ 31) (hdg : decode cc pc = .ok (.bastore, 1))
    (kk : ∀ (H1 : Heap) (locs1 : List Loc), va_P D classes (wv n ad (fun q => E q (u2 v r j x q))) H1 → va_S A H0 H1 locs1 → W p l e R s m args below meth c H1 locs1 cells slots Q (F0 m (pc + 1) ls rest)) : W p l e R s m args below meth c H locs cells slots Q (F0 m pc ls (.int x :: .int i :: .ref (ad r) :: rest)) := by
  obtain ⟨⟨hx, hb, hml, ho, hw⟩, hK, hap, hAd, -⟩ := G
  have he : (wv n ad (fun k => E k (v k)))[r]? = some (ad r, .inl (cA, len, .inl (v r))) := by rw [wv_at hr, hE]
  refine va_zast hx hb hK hP (hap.D hAd) hS r t0 he ht (i := i) (by rw [hi]; exact vp_in_nI hj hlen) hdg (fun H1 l1 hP1 _ hS1 => kk H1 l1 ?_ hS1)
  rw [hi, nI_clamp (by omega), hx01] at hP1
  rw [wv_set (ct' := fun q => E q (u2 v r j x q)) hr (by rw [u2_self, hE]) (fun q hq => by rw [u2_ne hq])] at hP1
  exact hP1
theorem g_aald (G : Gx p m c cc nL s args own D tys n ad A) (hP : va_P D classes (wv n ad (fun k => E k (v k))) H) (r : Nat) (hr : r < n) {cA : ClassId} {len : Nat} {f : Nat → Option Nat} (hE : E r (v r) = .inl (cA, len, .inr (.inr (.inr (.inr f))))) (t0 : Nat) (ht : tys[t0]? = some (cA, .object C)) {i : Int32} (j : Nat) (hi : i = nI j) (hj : j < len) (hlen : len < 2 ^ 31) {b : Nat} (hf : f j = some b) (hdg : decode cc pc = .ok (.aaload, 1))
    (kk : W p l e R s m args below meth c H locs cells slots Q (F0 m (pc + 1) ls (.ref b :: rest))) : W p l e R s m args below meth c H locs cells slots Q (F0 m pc ls (.int i :: .ref (ad r) :: rest)) := by
  obtain ⟨⟨hx, hb, hml, ho, hw⟩, hK, -, -, -⟩ := G
  have he : (wv n ad (fun k => E k (v k)))[r]? = some (ad r, .inl (cA, len, .inr (.inr (.inr (.inr f))))) := by rw [wv_at hr, hE]
  refine va_aldq hx hb hK hP r t0 he ht (i := i) (by rw [hi]; exact vp_in_nI hj hlen) hdg ?_
  rw [hi, nI_clamp (by omega), hf]
  exact kk
theorem g_alen (G : Gx p m c cc nL s args own D tys n ad A) (hP : va_P D classes (wv n ad (fun k => E k (v k))) H) (r : Nat) (hr : r < n) {cA : ClassId} {x : vp_A} (hE : E r (v r) = .inl (cA, x)) (t0 : Nat) {ty : FieldType} (ht : tys[t0]? = some (cA, ty)) {i : Int32} (hi : Int32.ofNat x.1 = i) (hdg : decode cc pc = .ok (.arraylength, 1))
    (kk : W p l e R s m args below meth c H locs cells slots Q (F0 m (pc + 1) ls (.int i :: rest))) : W p l e R s m args below meth c H locs cells slots Q (F0 m pc ls (.ref (ad r) :: rest)) := by
  obtain ⟨⟨hx, hb, hml, ho, hw⟩, hK, -, -, -⟩ := G
  have he : (wv n ad (fun k => E k (v k)))[r]? = some (ad r, .inl (cA, x)) := by rw [wv_at hr, hE]
  exact va_alen hx hb hK hP r t0 he ht hi hdg kk
theorem g_recv (hK : va_K D classes tys s) (hP : va_P D classes (wv n ad (fun k => E k (v k))) H) (r : Nat) (hr : r < n) (hE : E r (v r) = .inr (ci, fs)) (hc : classes[ci]? = some (C, T, N)) : ∃ cell : Cell, H[ad r]? = some cell ∧ cell.vm.isStatics = false ∧ s.vm.findClass C = some cell.cls := by
  have he : (wv n ad (fun k => E k (v k)))[r]? = some (ad r, .inr (ci, fs)) := by rw [wv_at hr, hE]
  exact va_recv hK hP hc he
end GRows
theorem wv_nost {D : va_G} {n : Nat} {ad : Nat → Nat} {ct : Nat → va_E} {H : Heap} {sz : Nat} (hsz : H.size = sz) (hP : va_P D classes (wv n ad ct) H) : noSt (aA n ad sz) H := by
  intro q cell hq hcell
  rcases hq with ⟨k, hk, rfl⟩ | hq
  · have h := hP k _ (wv_at hk)
    unfold va_at at h
    split at h
    · rw [hcell] at h
      cases Option.some.inj h
      rename_i a _
      obtain ⟨cA, n9, f | f | f | f | f⟩ := a <;> rfl
    · obtain ⟨r, -, cell', h1, -, h3, -⟩ := h
      cases Option.some.inj (hcell.symm.trans h1)
      rw [h3]; rfl
  · have := (Array.getElem?_eq_some_iff.mp hcell).1
    omega
