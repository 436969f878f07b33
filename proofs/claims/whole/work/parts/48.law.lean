/-! the law's own walk: its state, and what its calls leave -/
def lA (s : State) : Nat → Prop := fun q => s.heap.size ≤ q
/-- what holds of the heap ahead of each call of the script -/
def LI (s : State) (D : va_G) (cs : Nat → ClassId) (aC aM : Nat → Nat) (w : Nat) (v u : Nat → Nat → Int32) (sd : Int64) (f : Nat → Int64) (H : Heap) : Prop :=
  hC D cs aC v sd H ∧ hM D cs aM u sd H ∧ va_at D classes (w, aL (cs 2) f) H
/-- the addresses -/
def LA (s : State) (aC aM : Nat → Nat) (w : Nat) : Prop := apt 42 aC ∧ apt 23 aM ∧ (∀ k, k < 42 → s.heap.size ≤ aC k) ∧ (∀ k, k < 23 → s.heap.size ≤ aM k) ∧ s.heap.size ≤ w ∧ (∀ k, k < 42 → aC k ≠ w) ∧ (∀ k, k < 23 → aM k ≠ w) ∧ ∀ i j, i < 42 → j < 23 → aC i ≠ aM j
section Law
variable {p : Program} {l : Launch} {e : Env} {R : Room} {s : State} {m : MethodId} {args : Array Value} {below : List Frame} {meth : Method} {c : Code} {H H1 : Heap} {locs : List Loc} {cells slots : Nat} {Q : State → Prop}
variable {y : MethodName} {bytes cc : ByteArray} {maxL nL pc index : Nat} {hh : List (Nat × Nat × Nat × Nat)} {rm : Room} {As rest st : List Value} {D : va_G} {cs : Nat → ClassId} {aC aM ad : Nat → Nat} {v v' u : Nat → Nat → Int32} {sd sd' sd2 : Int64} {post : Option Value → (Nat → Nat → Int32) → Int64 → Prop} {xp : String → Prop} {hs : List (String × Int32)} {ls : Array Slot} {A0 : Nat → Prop} {w : Nat} {f : Nat → Int64} {own : String}
/-- a call of a helper that answers -/
theorem zc_Z (K : Lx p m c cc nL s args own D cs A0) (hap : apt 42 ad) (hP : hC D cs ad v sd H) (hO : va_at D classes (w, aL (cs 2) f) H) (hne : ∀ k, k < 42 → ad k ≠ w) (hS : va_S A0 s.heap H locs) (hsub : ∀ q, aA 42 ad H.size q → A0 q) (hw : A0 w)
    (hM : Zm l y bytes maxL hh rm As D cs ad w v sd post xp hs) (hcode : Cond.codeWith y bytes maxL (some .int) hh ∈ gt) (hy : xMeth y As.length) (hl : Cond.methodLink own index y ∈ gt) (hi : Cond.static y ∈ gt) (hini : Cond.initialized y.cls ∈ gt)
    (hst : st = As.reverse ++ rest) (hsz : ls.size = nL) (hdg : decode cc pc = .ok (.invokestatic index, 3)) (hfr : rm.frames + 1 ≤ R.frames) (hlo : (rest.map fun v => v.category).sum + (maxL + 11) + rm.locals ≤ R.locals) (hf : cells + rm.cells ≤ R.cells ∧ slots + rm.slots ≤ R.slots)
    (kr : ∀ (k a : Int32) (v' : Nat → Nat → Int32) (sd' : Int64) (f' : Nat → Int64) (H1 : Heap) (locs1 : List Loc), Zo post xp hs v sd k (some (.int a)) v' sd' → hC D cs ad v' sd' H1 → va_at D classes (w, aL (cs 2) f') H1 → (k = 0 → f' 0 = a.toInt64) → (∀ q : Nat, q < H.size → ¬ (aA 42 ad H.size q ∨ q = w) → H1[q]? = H[q]?) → va_S A0 s.heap H1 locs1 → W p l e R s m args below meth c H1 locs1 (cells + rm.cells) (slots + rm.slots) Q (F0 m (pc + 3) ls (.int k :: rest))) :
    W p l e R s m args below meth c H locs cells slots Q (F0 m pc ls st) := by
  refine xc_S K.1 (hM H.size) (Or.inr hcode) hy hl hi hini hst hsz hdg hfr hlo hf (fun U hU hW => ⟨by rw [hU], K.cw hap hS hP U hU hW, K.2.2.2.2.1.warm hW, ⟨f, by rw [hU]; exact hO⟩, hne⟩) hS (fun q hq => ?_) ?_ ?_
  · rcases hq with hq | rfl
    · exact hsub q hq
    · exact hw
  · intro r t H1 l1 ht hW hf1 _ hk hS1
    obtain ⟨k, a, v', sd', f', rfl, h1, h2, h3, h4⟩ := hf1
    exact kr k a v' sd' f' H1 l1 h1 (by rw [← ht]; exact h2.1) (by rw [← ht]; exact h3) h4 hk hS1
  · intro q cls cell t H1 l1 _ _ _ _ _ hx1
    exact hx1.elim
/-- a call of a helper without an answer -/
theorem zc_Zv (K : Lx p m c cc nL s args own D cs A0) (hap : apt 42 ad) (hP : hC D cs ad v sd H) (hS : va_S A0 s.heap H locs) (hsub : ∀ q, aA 42 ad H.size q → A0 q)
    (hM : Zv l y bytes maxL hh rm As D cs ad v sd post xp hs) (hcode : Cond.codeWith y bytes maxL (some .int) hh ∈ gt) (hy : xMeth y As.length) (hl : Cond.methodLink own index y ∈ gt) (hi : Cond.static y ∈ gt) (hini : Cond.initialized y.cls ∈ gt)
    (hst : st = As.reverse ++ rest) (hsz : ls.size = nL) (hdg : decode cc pc = .ok (.invokestatic index, 3)) (hfr : rm.frames + 1 ≤ R.frames) (hlo : (rest.map fun v => v.category).sum + (maxL + 11) + rm.locals ≤ R.locals) (hf : cells + rm.cells ≤ R.cells ∧ slots + rm.slots ≤ R.slots)
    (kr : ∀ (k : Int32) (v' : Nat → Nat → Int32) (sd' : Int64) (H1 : Heap) (locs1 : List Loc), Zo post xp hs v sd k none v' sd' → hC D cs ad v' sd' H1 → (∀ q : Nat, q < H.size → ¬ aA 42 ad H.size q → H1[q]? = H[q]?) → va_S A0 s.heap H1 locs1 → W p l e R s m args below meth c H1 locs1 (cells + rm.cells) (slots + rm.slots) Q (F0 m (pc + 3) ls (.int k :: rest))) :
    W p l e R s m args below meth c H locs cells slots Q (F0 m pc ls st) := by
  refine xc_S K.1 (hM H.size) (Or.inr hcode) hy hl hi hini hst hsz hdg hfr hlo hf (fun U hU hW => ⟨by rw [hU], K.cw hap hS hP U hU hW, K.2.2.2.2.1.warm hW⟩) hS hsub ?_ ?_
  · intro r t H1 l1 ht hW hf1 _ hk hS1
    obtain ⟨k, v', sd', rfl, h1, h2⟩ := hf1
    exact kr k v' sd' H1 l1 h1 (by rw [← ht]; exact h2.1) hk hS1
  · intro q cls cell t H1 l1 _ _ _ _ _ hx1
    exact hx1.elim
/-- what is kept over calls on the one and on the other -/
theorem LA.kM (h : LA s aC aM w) (hP : hM D cs aM u sd H) (hk : ∀ q : Nat, q < H.size → ¬ (aA 42 aC H.size q ∨ q = w) → H1[q]? = H[q]?) : hM D cs aM u sd H1 := by
  intro k q hq
  have h1 := hP k q hq
  obtain ⟨hk9, rfl⟩ := wv_of hq
  refine h1.kept (hk _ h1.lt ?_)
  rintro (h2 | h2)
  · exact nA h1.lt (fun j hj => h.2.2.2.2.2.2.2 j k hj hk9) h2
  · exact h.2.2.2.2.2.2.1 k hk9 h2
theorem LA.kC (h : LA s aC aM w) (hP : hC D cs aC v sd H) (hk : ∀ q : Nat, q < H.size → ¬ aA 23 aM H.size q → H1[q]? = H[q]?) : hC D cs aC v sd H1 := by
  intro k q hq
  have h1 := hP k q hq
  obtain ⟨hk9, rfl⟩ := wv_of hq
  exact h1.kept (hk _ h1.lt (nA h1.lt (fun j hj => (h.2.2.2.2.2.2.2 k j hk9 hj).symm)))
theorem LA.kO (h : LA s aC aM w) (hO : va_at D classes (w, aL (cs 2) f) H) (hk : ∀ q : Nat, q < H.size → ¬ aA 23 aM H.size q → H1[q]? = H[q]?) : va_at D classes (w, aL (cs 2) f) H1 :=
  hO.kept (hk _ hO.lt (nA hO.lt h.2.2.2.2.2.2.1))
theorem LA.kO2 (h : LA s aC aM w) (hO : va_at D classes (w, aL (cs 2) f) H) (hk : ∀ q : Nat, q < H.size → ¬ aA 42 aC H.size q → H1[q]? = H[q]?) : va_at D classes (w, aL (cs 2) f) H1 :=
  hO.kept (hk _ hO.lt (nA hO.lt h.2.2.2.2.2.1))
theorem LA.sC (h : LA s aC aM w) (hS : va_S (lA s) s.heap H locs) : ∀ q, aA 42 aC H.size q → lA s q := by
  rintro q (⟨k, hk, rfl⟩ | h1)
  · exact h.2.2.1 k hk
  · exact Nat.le_trans hS.1 h1
theorem LA.sM (h : LA s aC aM w) (hS : va_S (lA s) s.heap H locs) : ∀ q, aA 23 aM H.size q → lA s q := by
  rintro q (⟨k, hk, rfl⟩ | h1)
  · exact h.2.2.2.1 k hk
  · exact Nat.le_trans hS.1 h1
/-- out is read -/
theorem zc_lald (K : Lx p m c cc nL s args own D cs A0) (hO : va_at D classes (w, aL (cs 2) f) H) (hdg : decode cc pc = .ok (.laload, 1))
    (kk : W p l e R s m args below meth c H locs cells slots Q (F0 m (pc + 1) ls (.long (f 0) :: rest))) : W p l e R s m args below meth c H locs cells slots Q (F0 m pc ls (.int 0 :: .ref w :: rest)) :=
  va_lald (ws := [(w, aL (cs 2) f)]) K.hx K.hb K.2.1 (fun k q hq => by
      have hz : k < 1 := (List.getElem?_eq_some_iff.mp hq).1
      rw [show k = 0 by omega] at hq
      cases hq
      exact hO) 0 2 rfl rfl (vp_in_nI (n := 0) (by decide) (by decide)) hdg kk
/-- the script is read -/
theorem zc_sld {b L : Nat} {xs : Nat → Int32} (K : Lx p m c cc nL s args own D cs (lA s)) (hX : va_X b L xs s s.heap) (hbl : b < s.heap.size) (hS : va_S (lA s) s.heap H locs) {i : Int32} (j : Nat) (hi : i = nI j) (hj : j < L) (hL : L < 2 ^ 31) (hdg : decode cc pc = .ok (.iaload, 1))
    (kk : W p l e R s m args below meth c H locs cells slots Q (F0 m (pc + 1) ls (.int (xs j) :: rest))) : W p l e R s m args below meth c H locs cells slots Q (F0 m pc ls (.int i :: .ref b :: rest)) := by
  refine va_sld K.hx K.hb hX hbl (fun h => by have h : s.heap.size ≤ b := h; omega) hS (i := i) (by rw [hi]; exact vp_in_nI hj hL) hdg ?_
  rw [hi, nI_clamp (by omega)]
  exact kk
end Law
theorem lw_cond {L n : Nat} (hL : L ≤ 2560) (hn : n ≤ 600) : ¬ nI L - 5 < nI (5 * n) ↔ 5 * n + 5 ≤ L := by
  have h1 := pk_sub_toInt (a := L) (b := 5) (by omega) (by omega)
  have h2 := nI_toInt (n := 5 * n) (by omega)
  rw [Int32.lt_iff_toInt_lt, show nI L - 5 = nI L - nI 5 from rfl, h1, h2]
  omega
