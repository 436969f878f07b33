/-! the law's loop -/
def R_law : String := "WearHoursLaw"
def lw_P (b : Addr) (xs : List Int32) (args : Array Value) (s : State) : Prop := args = #[.ref b] ∧ s.IntsAt b xs ∧ xs.length ≤ 2560 ∧ (Jvm.Cond.and given_1 narrow_1).before args s = true
def lw_Q (_ : Array Value) (s : State) (o : Outcome) (t : State) : Prop := o = .returned (some (.int 1)) ∧ Framed s o t [] 669350 7088055
def lw_Z (below : List Frame) (a : Array Value) (s : State) : State → Prop := fun t => ∃ o, t.status = .running ∧ Ended t below o ∧ lw_Q a s o t
/-- the law's own end, with 1 on the stack, nothing written that was there before, its room as the claim has it -/
theorem lw_ret {p : Program} {l : Launch} {e : Env} {s : State} {m : MethodId} {below : List Frame} {meth : Method} {c : Code} {b : Nat} (hx : p.tables.exec = Jvm.exec) (hb : c.code = code) (hr : meth.sig.returnType = ret) (hlocks : meth.locks = false) {pc : Nat} {H : Heap} {ls : Array Slot} (hdg : decode code pc = .ok (.ireturn, 1)) : W p l e room_1 s m #[Value.ref b] below meth c H [] 669350 7088055 (lw_Z below #[Value.ref b] s) (F0 m pc ls [.int 1]) := by
  intro T hT X
  obtain ⟨fs, hret, hrun, hended, hW, hframe⟩ := X.leave (v := some (.int 1)) (hlocks := hlocks) (fun h => by rw [hr] at h; cases h)
  have hmeth' : T.vm.method? m = some meth := X.method'
  refine ⟨T.setFrames fs, ?_, .returned (some (.int 1)), hrun, hended, rfl, ⟨_, rfl⟩, hW, hframe⟩
  jvm_step X.here [X.here.top, hx, hb, hdg, hmeth', hr, ret, narrow_b1]
  (try refine ⟨rfl, ?_⟩); (try refine ⟨rfl, ?_⟩)
  first | (intro acts; rw [hret _ acts rfl rfl rfl]) | rw [hret _ _ rfl rfl rfl]
  exact Steps.refl _
/-- what holds at the law's entry: the machine, the code, the tables' words (any of lw_tbl by 'hts w (by decide +kernel)'), the script of L ints xs at the cell b, what the Statement gives of the start (any of its parts by flat_of_before) -/
def lw_At (p : Program) (s : State) (m : MethodId) (meth : Method) (c : Code) (b L : Nat) (xs : Nat → Int32) : Prop :=
  p.tables.exec = Jvm.exec ∧ c.code = code ∧ meth.sig.returnType = ret ∧ c.maxLocals = 7 ∧ s.vm.findClass R_law = some m.cls ∧ (∀ w ∈ lw_tbl, w.before #[Value.ref b] s = true) ∧ va_X b L xs s s.heap ∧ b < s.heap.size ∧ meth.locks = false ∧ (Jvm.Cond.and given_1 narrow_1).before #[Value.ref b] s = true
theorem n5 (n : Nat) : nI (5 * n) + 5 = nI (5 * (n + 1)) := by
  rw [show (5 : Int32) = nI 5 from rfl, nI_add]
  rfl
set_option maxHeartbeats 4000000 in
set_option maxRecDepth 100000 in
theorem lw_loop {p : Program} {l : Launch} {e : Env} {s : State} {m : MethodId} {below : List Frame} {meth : Method} {c : Code} {D : va_G} {cs : Nat → ClassId} {aC aM : Nat → Nat} {w b L : Nat} {xs : Nat → Int32} (hfl : l.flags = flags0) (K : Lx p m c code 7 s #[Value.ref b] "WearHoursLaw" D cs (lA s)) (hret : meth.sig.returnType = ret) (hlk : meth.locks = false) (hA : LA s aC aM w) (hX : va_X b L xs s s.heap) (hbl : b < s.heap.size) (hL : L ≤ 2560) :
    ∀ (k n : Nat), L < 5 * n + 5 + 5 * k → n ≤ 512 → ∀ (v u : Nat → Nat → Int32) (sd : Int64) (f : Nat → Int64) (H : Heap) (l1 : List Loc) (ls : Array Slot), LI s D cs aC aM w v u sd f H → RL v u → va_S (lA s) s.heap H l1 → lv_has ls 7 [(0, .ref b), (1, .ref (aC 0)), (2, .ref (aM 0)), (3, .ref w), (4, .int (nI (5 * n)))] →
      W p l e room_1 s m #[Value.ref b] below meth c H l1 (100 + 3 * n) (1000 + 18 * n) (lw_Z below #[Value.ref b] s) (F0 m 23 ls []) := by
  intro k
  induction k with
  | zero =>
    intro n hk hn v u sd f H l1 ls hI hR hS hl
    refine lv_iload K.hx K.hb d_Z_law_23 (lv_at hl 4 rfl) ?_
    refine lv_aload_n K.hx K.hb d_Z_law_25 rfl (lv_at hl 0 rfl) ?_
    refine va_slen K.hx K.hb hX hbl (fun h => by have h : s.heap.size ≤ b := h; omega) hS d_Z_law_26 ?_
    refine lv_iconst (v := 5) K.hx K.hb d_Z_law_27 (by decide) ?_
    refine lv_isub K.hx K.hb d_Z_law_28 ?_
    refine lv_icmp_gt (tgt := 1106) K.hx K.hb d_Z_law_29 (by decide) (fun _ => ?_) (fun c_29 => absurd ((lw_cond hL (by omega)).mp c_29) (by omega))
    refine lv_iconst (v := 1) K.hx K.hb d_Z_law_1106 (by decide) ?_
    refine va_forget (fun q hq => hS.2.2 q hq) ?_
    exact W.widen (by omega) (by omega) (lw_ret K.hx K.hb hret hlk d_Z_law_1107)
  | succ k ih =>
    intro n hk hn v u sd f H l1 ls hI hR hS hl
    refine lv_iload K.hx K.hb d_Z_law_23 (lv_at hl 4 rfl) ?_
    refine lv_aload_n K.hx K.hb d_Z_law_25 rfl (lv_at hl 0 rfl) ?_
    refine va_slen K.hx K.hb hX hbl (fun h => by have h : s.heap.size ≤ b := h; omega) hS d_Z_law_26 ?_
    refine lv_iconst (v := 5) K.hx K.hb d_Z_law_27 (by decide) ?_
    refine lv_isub K.hx K.hb d_Z_law_28 ?_
    refine lv_icmp_gt (tgt := 1106) K.hx K.hb d_Z_law_29 (by decide) (fun _ => ?_) (fun c_29 => ?_)
    · refine lv_iconst (v := 1) K.hx K.hb d_Z_law_1106 (by decide) ?_
      refine va_forget (fun q hq => hS.2.2 q hq) ?_
      exact W.widen (by omega) (by omega) (lw_ret K.hx K.hb hret hlk d_Z_law_1107)
    · have hn5 : 5 * n + 5 ≤ L := (lw_cond hL (by omega)).mp c_29
      have kx : ∀ (v u : Nat → Nat → Int32) (sd : Int64) (f : Nat → Int64) (H : Heap) (l1 : List Loc) (ls : Array Slot), LI s D cs aC aM w v u sd f H → RL v u → va_S (lA s) s.heap H l1 → lv_has ls 7 [(0, .ref b), (1, .ref (aC 0)), (2, .ref (aM 0)), (3, .ref w), (4, .int (nI (5 * n)))] → W p l e room_1 s m #[Value.ref b] below meth c H l1 (100 + 3 * n + 3) (1000 + 18 * n + 18) (lw_Z below #[Value.ref b] s) (F0 m 1100 ls []) := by
        intro v u sd f H l1 ls hI hR hS hl
        refine lv_iinc (v := nI (5 * (n + 1))) (lv' := [(4, .int (nI (5 * (n + 1)))), (0, .ref b), (1, .ref (aC 0)), (2, .ref (aM 0)), (3, .ref w)]) K.hx K.hb d_Z_law_1100 hl (k := 4) rfl (n5 n) (by decide) rfl (fun ls hl => ?_)
        refine lv_goto (tgt := 23) K.hx K.hb d_Z_law_1103 (by decide) ?_
        exact W.widen (by omega) (by omega) (ih (n + 1) (by omega) (by omega) v u sd f H l1 ls hI hR hS (lv_sub hl [1, 2, 3, 4, 0] rfl))
      refine lv_aload_n K.hx K.hb d_Z_law_32 rfl (lv_at hl 0 rfl) ?_
      refine lv_iload K.hx K.hb d_Z_law_33 (lv_at hl 4 rfl) ?_
      refine zc_sld K hX hbl hS (5 * n) rfl (by omega) (by omega) d_Z_law_35 ?_
      refine lv_bipush (v := 15) K.hx K.hb d_Z_law_36 (by decide) ?_
      refine lv_iand K.hx K.hb d_Z_law_38 ?_
      obtain ⟨j, hj, ej⟩ := pk_andE (xs (5 * n)) (m := 15) 4 (by decide)
      refine lv_topE ej ?_
      have hl : lv_has ls 7 [(4, .int (nI (5 * n))), (0, .ref b), (1, .ref (aC 0)), (2, .ref (aM 0)), (3, .ref w)] := lv_sub hl [4, 0, 1, 2, 3] rfl
      have hn := hn5
      rcases (show j = 0 ∨ j = 1 ∨ j = 2 ∨ j = 3 ∨ j = 4 ∨ j = 5 ∨ j = 6 ∨ j = 7 ∨ j = 8 ∨ j = 9 ∨ j = 10 ∨ j = 11 ∨ j = 12 ∨ j = 13 ∨ j = 14 ∨ j = 15 by omega) with rfl | rfl | rfl | rfl | rfl | rfl | rfl | rfl | rfl | rfl | rfl | rfl | rfl | rfl | rfl | rfl
      · refine lv_tableIn (x := nI 0) (tgt := 116) K.hx K.hb d_Z_law_39 (by decide) (by decide) rfl (by decide) ?_
        exact lw_op_seed hfl K hA hX hbl hL hn kx v u sd f H l1 ls hI hR hS (lv_sub hl [1, 2, 3, 4, 0] rfl)
      · refine lv_tableIn (x := nI 1) (tgt := 171) K.hx K.hb d_Z_law_39 (by decide) (by decide) rfl (by decide) ?_
        exact lw_op_thing hfl K hA hX hbl hL hn kx v u sd f H l1 ls hI hR hS (lv_sub hl [1, 2, 3, 4, 0] rfl)
      · refine lv_tableIn (x := nI 2) (tgt := 239) K.hx K.hb d_Z_law_39 (by decide) (by decide) rfl (by decide) ?_
        exact lw_op_use hfl K hA hX hbl hL hn kx v u sd f H l1 ls hI hR hS (lv_sub hl [1, 2, 3, 4, 0] rfl)
      · refine lv_tableIn (x := nI 3) (tgt := 307) K.hx K.hb d_Z_law_39 (by decide) (by decide) rfl (by decide) ?_
        exact lw_op_told hfl K hA hX hbl hL hn kx v u sd f H l1 ls hI hR hS (lv_sub hl [1, 2, 3, 4, 0] rfl)
      · refine lv_tableIn (x := nI 4) (tgt := 375) K.hx K.hb d_Z_law_39 (by decide) (by decide) rfl (by decide) ?_
        exact lw_op_left hfl K hA hX hbl hL hn kx v u sd f H l1 ls hI hR hS (lv_sub hl [1, 2, 3, 4, 0] rfl)
      · refine lv_tableIn (x := nI 5) (tgt := 443) K.hx K.hb d_Z_law_39 (by decide) (by decide) rfl (by decide) ?_
        exact lw_op_permit hfl K hA hX hbl hL hn kx v u sd f H l1 ls hI hR hS (lv_sub hl [1, 2, 3, 4, 0] rfl)
      · refine lv_tableIn (x := nI 6) (tgt := 507) K.hx K.hb d_Z_law_39 (by decide) (by decide) rfl (by decide) ?_
        exact lw_op_history hfl K hA hX hbl hL hn kx v u sd f H l1 ls hI hR hS (lv_sub hl [1, 2, 3, 4, 0] rfl)
      · refine lv_tableIn (x := nI 7) (tgt := 575) K.hx K.hb d_Z_law_39 (by decide) (by decide) rfl (by decide) ?_
        exact lw_op_gap hfl K hA hX hbl hL hn kx v u sd f H l1 ls hI hR hS (lv_sub hl [1, 2, 3, 4, 0] rfl)
      · refine lv_tableIn (x := nI 8) (tgt := 643) K.hx K.hb d_Z_law_39 (by decide) (by decide) rfl (by decide) ?_
        exact lw_op_person hfl K hA hX hbl hL hn kx v u sd f H l1 ls hI hR hS (lv_sub hl [1, 2, 3, 4, 0] rfl)
      · refine lv_tableIn (x := nI 9) (tgt := 723) K.hx K.hb d_Z_law_39 (by decide) (by decide) rfl (by decide) ?_
        exact lw_op_repair hfl K hA hX hbl hL hn kx v u sd f H l1 ls hI hR hS (lv_sub hl [1, 2, 3, 4, 0] rfl)
      · refine lv_tableIn (x := nI 10) (tgt := 815) K.hx K.hb d_Z_law_39 (by decide) (by decide) rfl (by decide) ?_
        exact lw_op_rules hfl K hA hX hbl hL hn kx v u sd f H l1 ls hI hR hS (lv_sub hl [1, 2, 3, 4, 0] rfl)
      · refine lv_tableIn (x := nI 11) (tgt := 863) K.hx K.hb d_Z_law_39 (by decide) (by decide) rfl (by decide) ?_
        exact lw_op_plan hfl K hA hX hbl hL hn kx v u sd f H l1 ls hI hR hS (lv_sub hl [1, 2, 3, 4, 0] rfl)
      · refine lv_tableIn (x := nI 12) (tgt := 876) K.hx K.hb d_Z_law_39 (by decide) (by decide) rfl (by decide) ?_
        exact lw_op_at hfl K hA hX hbl hL hn kx v u sd f H l1 ls hI hR hS (lv_sub hl [1, 2, 3, 4, 0] rfl)
      · refine lv_tableIn (x := nI 13) (tgt := 944) K.hx K.hb d_Z_law_39 (by decide) (by decide) rfl (by decide) ?_
        exact lw_op_cost hfl K hA hX hbl hL hn kx v u sd f H l1 ls hI hR hS (lv_sub hl [1, 2, 3, 4, 0] rfl)
      · refine lv_tableIn (x := nI 14) (tgt := 988) K.hx K.hb d_Z_law_39 (by decide) (by decide) rfl (by decide) ?_
        exact lw_op_done hfl K hA hX hbl hL hn kx v u sd f H l1 ls hI hR hS (lv_sub hl [1, 2, 3, 4, 0] rfl)
      · refine lv_tableIn (x := nI 15) (tgt := 1032) K.hx K.hb d_Z_law_39 (by decide) (by decide) rfl (by decide) ?_
        exact lw_op_spare hfl K hA hX hbl hL hn kx v u sd f H l1 ls hI hR hS (lv_sub hl [1, 2, 3, 4, 0] rfl)
