/-! the planner: what its methods answer, as functions of the rows -/
def mxZ (x y : Int32) : Int32 := if x < y then y else x
def mnZ (x y : Int32) : Int32 := if y < x then y else x
/-- the thing of repair i -/
def th (v : Nat → Nat → Int32) (i : Nat) : Nat := (v (33 + i) 0).toNatClampNeg
def begH (v : Nat → Nat → Int32) (i g p : Nat) : Int32 := mxZ (mxZ (v (21 + g) 0) (v (28 + p) 1)) (mxZ (v 39 p) (v 40 (th v i)))
def begZ (v : Nat → Nat → Int32) (i g p : Nat) : Int32 := if v (28 + p) 0 = v (33 + i) 2 then (if mnZ (v (21 + g) 1) (v (28 + p) 2) < begH v i g p + v (33 + i) 1 then -1 else begH v i g p) else -1
theorem begZ_no {v : Nat → Nat → Int32} {i g p : Nat} (h : ¬ v (28 + p) 0 = v (33 + i) 2) : begZ v i g p = -1 := if_neg h
theorem begZ_lo {v : Nat → Nat → Int32} {i g p : Nat} (h : v (28 + p) 0 = v (33 + i) 2) (h2 : mnZ (v (21 + g) 1) (v (28 + p) 2) < begH v i g p + v (33 + i) 1) : begZ v i g p = -1 := by
  unfold begZ; rw [if_pos h, if_pos h2]
theorem begZ_hi {v : Nat → Nat → Int32} {i g p : Nat} (h : v (28 + p) 0 = v (33 + i) 2) (h2 : ¬ mnZ (v (21 + g) 1) (v (28 + p) 2) < begH v i g p + v (33 + i) 1) : begZ v i g p = begH v i g p := by
  unfold begZ; rw [if_pos h, if_neg h2]
/-- the counts, and the things of the repairs -/
def PI (gc pc rc : Nat) (v : Nat → Nat → Int32) : Prop := v 19 1 = nI gc ∧ gc ≤ 6 ∧ v 19 3 = nI pc ∧ pc ≤ 4 ∧ v 19 5 = nI rc ∧ rc ≤ 5 ∧ ∀ i, i < rc → ∃ t, t < 8 ∧ v (33 + i) 0 = nI t
theorem PI_th {gc pc rc : Nat} {v : Nat → Nat → Int32} (h : PI gc pc rc v) {i : Nat} (hi : i < rc) : v (33 + i) 0 = nI (th v i) ∧ th v i < 8 := by
  obtain ⟨t, ht, e⟩ := h.2.2.2.2.2.2 i hi
  have e2 : th v i = t := by unfold th; rw [e, nI_clamp (by omega)]
  rw [e2]
  exact ⟨e, ht⟩
def occ (v : Nat → Nat → Int32) (i p : Nat) (h : Int32) : Nat → Nat → Int32 := u2 (u2 v 40 (th v i) (h + v (33 + i) 1)) 39 p (h + v (33 + i) 1 + v 19 6)
/-- the first beginning over the first n gaps -/
def fbS (f h : Int32) : Int32 := if h = -1 then f else if f = -1 then h else if f ≤ h then f else h
def fbL (v : Nat → Nat → Int32) (i p : Nat) : Nat → Int32
  | 0 => -1
  | g + 1 => fbS (fbL v i p g) (begZ v i g p)
def fbZ (v : Nat → Nat → Int32) (i p gc : Nat) : Int32 := if v (28 + p) 0 = v (33 + i) 2 then fbL v i p gc else -1
def cuZ (v : Nat → Nat → Int32) (i : Nat) : Int32 := v (33 + i) 3 * 168 + v 19 7
def flS (v : Nat → Nat → Int32) (i gc : Nat) (l : Int32) (p : Nat) : Int32 := if fbZ v i p gc = -1 then l else mnZ l (v (33 + i) 3 * fbZ v i p gc)
def flL (v : Nat → Nat → Int32) (i gc : Nat) : Nat → Int32
  | 0 => cuZ v i
  | p + 1 => flS v i gc (flL v i gc p) p
/-- costs: rec is the least cost of the later repairs -/
def cbG (rec : (Nat → Nat → Int32) → Nat → Int32 → Int32) (v : Nat → Nat → Int32) (n p : Nat) (h lim : Int32) : Int32 :=
  if v (33 + n) 3 * h + v 41 (n + 1) < lim then v (33 + n) 3 * h + rec (occ v n p h) (n + 1) (lim - v (33 + n) 3 * h) else lim
def ppL (rec : (Nat → Nat → Int32) → Nat → Int32 → Int32) (gc : Nat) (v : Nat → Nat → Int32) (n : Nat) (lim : Int32) : Nat → Int32
  | 0 => lim
  | p + 1 => if fbZ v n p gc = -1 then ppL rec gc v n lim p else cbG rec v n p (fbZ v n p gc) (ppL rec gc v n lim p)
def lcS (rec : (Nat → Nat → Int32) → Nat → Int32 → Int32) (gc pc : Nat) (v : Nat → Nat → Int32) (n : Nat) (lim : Int32) : Int32 :=
  if cuZ v n + v 41 (n + 1) < ppL rec gc v n lim pc then cuZ v n + rec v (n + 1) (ppL rec gc v n lim pc - cuZ v n) else ppL rec gc v n lim pc
def lcF (gc pc rc : Nat) : Nat → (Nat → Nat → Int32) → Nat → Int32 → Int32
  | 0 => fun _ _ _ => 0
  | f + 1 => fun v n lim => if n < rc then lcS (lcF gc pc rc f) gc pc v n lim else 0
def fre (v : Nat → Nat → Int32) : Nat → Nat → Int32 := u2 (u2 (u2 (u2 (u2 (u2 (u2 (u2 (u2 (u2 (u2 (u2 v 39 0 0) 39 1 0) 39 2 0) 39 3 0) 40 0 0) 40 1 0) 40 2 0) 40 3 0) 40 4 0) 40 5 0) 40 6 0) 40 7 0
set_option maxHeartbeats 4000000 in
set_option maxRecDepth 100000 in
theorem c_L_freeAll (l : Launch) (D : va_G) (cs : Nat → ClassId) (ad : Nat → Nat) (v : Nat → Nat → Int32) (sd : Int64)   : Cm l y_L_freeAll b_L_freeAll 2 none (rmx 0 0) [.ref (ad 38)] D cs ad v sd (fun r v' sd' => r = none ∧ fre v = v' ∧ sd = sd') (fun cls => False) := by
  refine cw_enter (own := "WearHours$Planner") rfl (Nat.le_of_ble_eq_true rfl) ?_
  intro p e s m below meth c ls K hS hP hl
  have hl : lv_has ls 2 [(0, .ref (ad 38))] := hl
  refine lv_iconst (v := 0) K.hx K.hb d_L_freeAll_0 (by decide) ?_
  refine lv_istore_n (lv' := [(1, .int 0), (0, .ref (ad 38))]) K.hx K.hb d_L_freeAll_1 rfl hl (by decide) rfl (fun ls hl => ?_)
  refine lv_iload_n K.hx K.hb d_L_freeAll_2 rfl (lv_at hl 0 rfl) ?_
  refine lv_aload_n K.hx K.hb d_L_freeAll_3 rfl (lv_at hl 1 rfl) ?_
  refine g_get K.1 hP (38) (by decide) rfl rfl i_L 1 (by decide) rfl (Or.inl kw_198) rfl d_L_freeAll_4 ?_
  refine g_alen K.1 hP (39) (by decide) rfl 0 rfl (i := 4) rfl d_L_freeAll_7 ?_
  refine lv_icmp_ge (tgt := 24) K.hx K.hb d_L_freeAll_8 (by decide) (fun c_8 => (show False from by revert c_8; decide).elim) (fun _ => ?_)
  refine lv_aload_n K.hx K.hb d_L_freeAll_11 rfl (lv_at hl 1 rfl) ?_
  refine g_get K.1 hP (38) (by decide) rfl rfl i_L 1 (by decide) rfl (Or.inl kw_198) rfl d_L_freeAll_12 ?_
  refine lv_iload_n K.hx K.hb d_L_freeAll_15 rfl (lv_at hl 0 rfl) ?_
  refine lv_iconst (v := 0) K.hx K.hb d_L_freeAll_16 (by decide) ?_
  refine g_iast K.1 hP hS (39) (by decide) (fun _ => rfl) 0 rfl (0) rfl (by decide) (by decide) d_L_freeAll_17 (fun H l1 hP hS => ?_)
  refine lv_iinc (v := 1) (lv' := [(1, .int 1), (0, .ref (ad 38))]) K.hx K.hb d_L_freeAll_18 hl (k := 0) rfl (by decide) (by decide) rfl (fun ls hl => ?_)
  refine lv_goto (tgt := 2) K.hx K.hb d_L_freeAll_21 (by decide) ?_
  refine lv_iload_n K.hx K.hb d_L_freeAll_2 rfl (lv_at hl 0 rfl) ?_
  refine lv_aload_n K.hx K.hb d_L_freeAll_3 rfl (lv_at hl 1 rfl) ?_
  refine g_get K.1 hP (38) (by decide) rfl rfl i_L 1 (by decide) rfl (Or.inl kw_198) rfl d_L_freeAll_4 ?_
  refine g_alen K.1 hP (39) (by decide) rfl 0 rfl (i := 4) rfl d_L_freeAll_7 ?_
  refine lv_icmp_ge (tgt := 24) K.hx K.hb d_L_freeAll_8 (by decide) (fun c_8_1 => (show False from by revert c_8_1; decide).elim) (fun _ => ?_)
  refine lv_aload_n K.hx K.hb d_L_freeAll_11 rfl (lv_at hl 1 rfl) ?_
  refine g_get K.1 hP (38) (by decide) rfl rfl i_L 1 (by decide) rfl (Or.inl kw_198) rfl d_L_freeAll_12 ?_
  refine lv_iload_n K.hx K.hb d_L_freeAll_15 rfl (lv_at hl 0 rfl) ?_
  refine lv_iconst (v := 0) K.hx K.hb d_L_freeAll_16 (by decide) ?_
  refine g_iast K.1 hP hS (39) (by decide) (fun _ => rfl) 0 rfl (1) rfl (by decide) (by decide) d_L_freeAll_17 (fun H l1 hP hS => ?_)
  refine lv_iinc (v := 2) (lv' := [(1, .int 2), (0, .ref (ad 38))]) K.hx K.hb d_L_freeAll_18 hl (k := 0) rfl (by decide) (by decide) rfl (fun ls hl => ?_)
  refine lv_goto (tgt := 2) K.hx K.hb d_L_freeAll_21 (by decide) ?_
  refine lv_iload_n K.hx K.hb d_L_freeAll_2 rfl (lv_at hl 0 rfl) ?_
  refine lv_aload_n K.hx K.hb d_L_freeAll_3 rfl (lv_at hl 1 rfl) ?_
  refine g_get K.1 hP (38) (by decide) rfl rfl i_L 1 (by decide) rfl (Or.inl kw_198) rfl d_L_freeAll_4 ?_
  refine g_alen K.1 hP (39) (by decide) rfl 0 rfl (i := 4) rfl d_L_freeAll_7 ?_
  refine lv_icmp_ge (tgt := 24) K.hx K.hb d_L_freeAll_8 (by decide) (fun c_8_2 => (show False from by revert c_8_2; decide).elim) (fun _ => ?_)
  refine lv_aload_n K.hx K.hb d_L_freeAll_11 rfl (lv_at hl 1 rfl) ?_
  refine g_get K.1 hP (38) (by decide) rfl rfl i_L 1 (by decide) rfl (Or.inl kw_198) rfl d_L_freeAll_12 ?_
  refine lv_iload_n K.hx K.hb d_L_freeAll_15 rfl (lv_at hl 0 rfl) ?_
  refine lv_iconst (v := 0) K.hx K.hb d_L_freeAll_16 (by decide) ?_
  refine g_iast K.1 hP hS (39) (by decide) (fun _ => rfl) 0 rfl (2) rfl (by decide) (by decide) d_L_freeAll_17 (fun H l1 hP hS => ?_)
  refine lv_iinc (v := 3) (lv' := [(1, .int 3), (0, .ref (ad 38))]) K.hx K.hb d_L_freeAll_18 hl (k := 0) rfl (by decide) (by decide) rfl (fun ls hl => ?_)
  refine lv_goto (tgt := 2) K.hx K.hb d_L_freeAll_21 (by decide) ?_
  refine lv_iload_n K.hx K.hb d_L_freeAll_2 rfl (lv_at hl 0 rfl) ?_
  refine lv_aload_n K.hx K.hb d_L_freeAll_3 rfl (lv_at hl 1 rfl) ?_
  refine g_get K.1 hP (38) (by decide) rfl rfl i_L 1 (by decide) rfl (Or.inl kw_198) rfl d_L_freeAll_4 ?_
  refine g_alen K.1 hP (39) (by decide) rfl 0 rfl (i := 4) rfl d_L_freeAll_7 ?_
  refine lv_icmp_ge (tgt := 24) K.hx K.hb d_L_freeAll_8 (by decide) (fun c_8_3 => (show False from by revert c_8_3; decide).elim) (fun _ => ?_)
  refine lv_aload_n K.hx K.hb d_L_freeAll_11 rfl (lv_at hl 1 rfl) ?_
  refine g_get K.1 hP (38) (by decide) rfl rfl i_L 1 (by decide) rfl (Or.inl kw_198) rfl d_L_freeAll_12 ?_
  refine lv_iload_n K.hx K.hb d_L_freeAll_15 rfl (lv_at hl 0 rfl) ?_
  refine lv_iconst (v := 0) K.hx K.hb d_L_freeAll_16 (by decide) ?_
  refine g_iast K.1 hP hS (39) (by decide) (fun _ => rfl) 0 rfl (3) rfl (by decide) (by decide) d_L_freeAll_17 (fun H l1 hP hS => ?_)
  refine lv_iinc (v := 4) (lv' := [(1, .int 4), (0, .ref (ad 38))]) K.hx K.hb d_L_freeAll_18 hl (k := 0) rfl (by decide) (by decide) rfl (fun ls hl => ?_)
  refine lv_goto (tgt := 2) K.hx K.hb d_L_freeAll_21 (by decide) ?_
  refine lv_iload_n K.hx K.hb d_L_freeAll_2 rfl (lv_at hl 0 rfl) ?_
  refine lv_aload_n K.hx K.hb d_L_freeAll_3 rfl (lv_at hl 1 rfl) ?_
  refine g_get K.1 hP (38) (by decide) rfl rfl i_L 1 (by decide) rfl (Or.inl kw_198) rfl d_L_freeAll_4 ?_
  refine g_alen K.1 hP (39) (by decide) rfl 0 rfl (i := 4) rfl d_L_freeAll_7 ?_
  refine lv_icmp_ge (tgt := 24) K.hx K.hb d_L_freeAll_8 (by decide) (fun _ => ?_) (fun c_8_4 => (show False from by revert c_8_4; decide).elim)
  refine lv_iconst (v := 0) K.hx K.hb d_L_freeAll_24 (by decide) ?_
  refine lv_istore_n (lv' := [(1, .int 0), (0, .ref (ad 38))]) K.hx K.hb d_L_freeAll_25 rfl hl (by decide) rfl (fun ls hl => ?_)
  refine lv_iload_n K.hx K.hb d_L_freeAll_26 rfl (lv_at hl 0 rfl) ?_
  refine lv_aload_n K.hx K.hb d_L_freeAll_27 rfl (lv_at hl 1 rfl) ?_
  refine g_get K.1 hP (38) (by decide) rfl rfl i_L 2 (by decide) rfl (Or.inl kw_199) rfl d_L_freeAll_28 ?_
  refine g_alen K.1 hP (40) (by decide) rfl 0 rfl (i := 8) rfl d_L_freeAll_31 ?_
  refine lv_icmp_ge (tgt := 48) K.hx K.hb d_L_freeAll_32 (by decide) (fun c_32 => (show False from by revert c_32; decide).elim) (fun _ => ?_)
  refine lv_aload_n K.hx K.hb d_L_freeAll_35 rfl (lv_at hl 1 rfl) ?_
  refine g_get K.1 hP (38) (by decide) rfl rfl i_L 2 (by decide) rfl (Or.inl kw_199) rfl d_L_freeAll_36 ?_
  refine lv_iload_n K.hx K.hb d_L_freeAll_39 rfl (lv_at hl 0 rfl) ?_
  refine lv_iconst (v := 0) K.hx K.hb d_L_freeAll_40 (by decide) ?_
  refine g_iast K.1 hP hS (40) (by decide) (fun _ => rfl) 0 rfl (0) rfl (by decide) (by decide) d_L_freeAll_41 (fun H l1 hP hS => ?_)
  refine lv_iinc (v := 1) (lv' := [(1, .int 1), (0, .ref (ad 38))]) K.hx K.hb d_L_freeAll_42 hl (k := 0) rfl (by decide) (by decide) rfl (fun ls hl => ?_)
  refine lv_goto (tgt := 26) K.hx K.hb d_L_freeAll_45 (by decide) ?_
  refine lv_iload_n K.hx K.hb d_L_freeAll_26 rfl (lv_at hl 0 rfl) ?_
  refine lv_aload_n K.hx K.hb d_L_freeAll_27 rfl (lv_at hl 1 rfl) ?_
  refine g_get K.1 hP (38) (by decide) rfl rfl i_L 2 (by decide) rfl (Or.inl kw_199) rfl d_L_freeAll_28 ?_
  refine g_alen K.1 hP (40) (by decide) rfl 0 rfl (i := 8) rfl d_L_freeAll_31 ?_
  refine lv_icmp_ge (tgt := 48) K.hx K.hb d_L_freeAll_32 (by decide) (fun c_32_5 => (show False from by revert c_32_5; decide).elim) (fun _ => ?_)
  refine lv_aload_n K.hx K.hb d_L_freeAll_35 rfl (lv_at hl 1 rfl) ?_
  refine g_get K.1 hP (38) (by decide) rfl rfl i_L 2 (by decide) rfl (Or.inl kw_199) rfl d_L_freeAll_36 ?_
  refine lv_iload_n K.hx K.hb d_L_freeAll_39 rfl (lv_at hl 0 rfl) ?_
  refine lv_iconst (v := 0) K.hx K.hb d_L_freeAll_40 (by decide) ?_
  refine g_iast K.1 hP hS (40) (by decide) (fun _ => rfl) 0 rfl (1) rfl (by decide) (by decide) d_L_freeAll_41 (fun H l1 hP hS => ?_)
  refine lv_iinc (v := 2) (lv' := [(1, .int 2), (0, .ref (ad 38))]) K.hx K.hb d_L_freeAll_42 hl (k := 0) rfl (by decide) (by decide) rfl (fun ls hl => ?_)
  refine lv_goto (tgt := 26) K.hx K.hb d_L_freeAll_45 (by decide) ?_
  refine lv_iload_n K.hx K.hb d_L_freeAll_26 rfl (lv_at hl 0 rfl) ?_
  refine lv_aload_n K.hx K.hb d_L_freeAll_27 rfl (lv_at hl 1 rfl) ?_
  refine g_get K.1 hP (38) (by decide) rfl rfl i_L 2 (by decide) rfl (Or.inl kw_199) rfl d_L_freeAll_28 ?_
  refine g_alen K.1 hP (40) (by decide) rfl 0 rfl (i := 8) rfl d_L_freeAll_31 ?_
  refine lv_icmp_ge (tgt := 48) K.hx K.hb d_L_freeAll_32 (by decide) (fun c_32_6 => (show False from by revert c_32_6; decide).elim) (fun _ => ?_)
  refine lv_aload_n K.hx K.hb d_L_freeAll_35 rfl (lv_at hl 1 rfl) ?_
  refine g_get K.1 hP (38) (by decide) rfl rfl i_L 2 (by decide) rfl (Or.inl kw_199) rfl d_L_freeAll_36 ?_
  refine lv_iload_n K.hx K.hb d_L_freeAll_39 rfl (lv_at hl 0 rfl) ?_
  refine lv_iconst (v := 0) K.hx K.hb d_L_freeAll_40 (by decide) ?_
  refine g_iast K.1 hP hS (40) (by decide) (fun _ => rfl) 0 rfl (2) rfl (by decide) (by decide) d_L_freeAll_41 (fun H l1 hP hS => ?_)
  refine lv_iinc (v := 3) (lv' := [(1, .int 3), (0, .ref (ad 38))]) K.hx K.hb d_L_freeAll_42 hl (k := 0) rfl (by decide) (by decide) rfl (fun ls hl => ?_)
  refine lv_goto (tgt := 26) K.hx K.hb d_L_freeAll_45 (by decide) ?_
  refine lv_iload_n K.hx K.hb d_L_freeAll_26 rfl (lv_at hl 0 rfl) ?_
  refine lv_aload_n K.hx K.hb d_L_freeAll_27 rfl (lv_at hl 1 rfl) ?_
  refine g_get K.1 hP (38) (by decide) rfl rfl i_L 2 (by decide) rfl (Or.inl kw_199) rfl d_L_freeAll_28 ?_
  refine g_alen K.1 hP (40) (by decide) rfl 0 rfl (i := 8) rfl d_L_freeAll_31 ?_
  refine lv_icmp_ge (tgt := 48) K.hx K.hb d_L_freeAll_32 (by decide) (fun c_32_7 => (show False from by revert c_32_7; decide).elim) (fun _ => ?_)
  refine lv_aload_n K.hx K.hb d_L_freeAll_35 rfl (lv_at hl 1 rfl) ?_
  refine g_get K.1 hP (38) (by decide) rfl rfl i_L 2 (by decide) rfl (Or.inl kw_199) rfl d_L_freeAll_36 ?_
  refine lv_iload_n K.hx K.hb d_L_freeAll_39 rfl (lv_at hl 0 rfl) ?_
  refine lv_iconst (v := 0) K.hx K.hb d_L_freeAll_40 (by decide) ?_
  refine g_iast K.1 hP hS (40) (by decide) (fun _ => rfl) 0 rfl (3) rfl (by decide) (by decide) d_L_freeAll_41 (fun H l1 hP hS => ?_)
  refine lv_iinc (v := 4) (lv' := [(1, .int 4), (0, .ref (ad 38))]) K.hx K.hb d_L_freeAll_42 hl (k := 0) rfl (by decide) (by decide) rfl (fun ls hl => ?_)
  refine lv_goto (tgt := 26) K.hx K.hb d_L_freeAll_45 (by decide) ?_
  refine lv_iload_n K.hx K.hb d_L_freeAll_26 rfl (lv_at hl 0 rfl) ?_
  refine lv_aload_n K.hx K.hb d_L_freeAll_27 rfl (lv_at hl 1 rfl) ?_
  refine g_get K.1 hP (38) (by decide) rfl rfl i_L 2 (by decide) rfl (Or.inl kw_199) rfl d_L_freeAll_28 ?_
  refine g_alen K.1 hP (40) (by decide) rfl 0 rfl (i := 8) rfl d_L_freeAll_31 ?_
  refine lv_icmp_ge (tgt := 48) K.hx K.hb d_L_freeAll_32 (by decide) (fun c_32_8 => (show False from by revert c_32_8; decide).elim) (fun _ => ?_)
  refine lv_aload_n K.hx K.hb d_L_freeAll_35 rfl (lv_at hl 1 rfl) ?_
  refine g_get K.1 hP (38) (by decide) rfl rfl i_L 2 (by decide) rfl (Or.inl kw_199) rfl d_L_freeAll_36 ?_
  refine lv_iload_n K.hx K.hb d_L_freeAll_39 rfl (lv_at hl 0 rfl) ?_
  refine lv_iconst (v := 0) K.hx K.hb d_L_freeAll_40 (by decide) ?_
  refine g_iast K.1 hP hS (40) (by decide) (fun _ => rfl) 0 rfl (4) rfl (by decide) (by decide) d_L_freeAll_41 (fun H l1 hP hS => ?_)
  refine lv_iinc (v := 5) (lv' := [(1, .int 5), (0, .ref (ad 38))]) K.hx K.hb d_L_freeAll_42 hl (k := 0) rfl (by decide) (by decide) rfl (fun ls hl => ?_)
  refine lv_goto (tgt := 26) K.hx K.hb d_L_freeAll_45 (by decide) ?_
  refine lv_iload_n K.hx K.hb d_L_freeAll_26 rfl (lv_at hl 0 rfl) ?_
  refine lv_aload_n K.hx K.hb d_L_freeAll_27 rfl (lv_at hl 1 rfl) ?_
  refine g_get K.1 hP (38) (by decide) rfl rfl i_L 2 (by decide) rfl (Or.inl kw_199) rfl d_L_freeAll_28 ?_
  refine g_alen K.1 hP (40) (by decide) rfl 0 rfl (i := 8) rfl d_L_freeAll_31 ?_
  refine lv_icmp_ge (tgt := 48) K.hx K.hb d_L_freeAll_32 (by decide) (fun c_32_9 => (show False from by revert c_32_9; decide).elim) (fun _ => ?_)
  refine lv_aload_n K.hx K.hb d_L_freeAll_35 rfl (lv_at hl 1 rfl) ?_
  refine g_get K.1 hP (38) (by decide) rfl rfl i_L 2 (by decide) rfl (Or.inl kw_199) rfl d_L_freeAll_36 ?_
  refine lv_iload_n K.hx K.hb d_L_freeAll_39 rfl (lv_at hl 0 rfl) ?_
  refine lv_iconst (v := 0) K.hx K.hb d_L_freeAll_40 (by decide) ?_
  refine g_iast K.1 hP hS (40) (by decide) (fun _ => rfl) 0 rfl (5) rfl (by decide) (by decide) d_L_freeAll_41 (fun H l1 hP hS => ?_)
  refine lv_iinc (v := 6) (lv' := [(1, .int 6), (0, .ref (ad 38))]) K.hx K.hb d_L_freeAll_42 hl (k := 0) rfl (by decide) (by decide) rfl (fun ls hl => ?_)
  refine lv_goto (tgt := 26) K.hx K.hb d_L_freeAll_45 (by decide) ?_
  refine lv_iload_n K.hx K.hb d_L_freeAll_26 rfl (lv_at hl 0 rfl) ?_
  refine lv_aload_n K.hx K.hb d_L_freeAll_27 rfl (lv_at hl 1 rfl) ?_
  refine g_get K.1 hP (38) (by decide) rfl rfl i_L 2 (by decide) rfl (Or.inl kw_199) rfl d_L_freeAll_28 ?_
  refine g_alen K.1 hP (40) (by decide) rfl 0 rfl (i := 8) rfl d_L_freeAll_31 ?_
  refine lv_icmp_ge (tgt := 48) K.hx K.hb d_L_freeAll_32 (by decide) (fun c_32_10 => (show False from by revert c_32_10; decide).elim) (fun _ => ?_)
  refine lv_aload_n K.hx K.hb d_L_freeAll_35 rfl (lv_at hl 1 rfl) ?_
  refine g_get K.1 hP (38) (by decide) rfl rfl i_L 2 (by decide) rfl (Or.inl kw_199) rfl d_L_freeAll_36 ?_
  refine lv_iload_n K.hx K.hb d_L_freeAll_39 rfl (lv_at hl 0 rfl) ?_
  refine lv_iconst (v := 0) K.hx K.hb d_L_freeAll_40 (by decide) ?_
  refine g_iast K.1 hP hS (40) (by decide) (fun _ => rfl) 0 rfl (6) rfl (by decide) (by decide) d_L_freeAll_41 (fun H l1 hP hS => ?_)
  refine lv_iinc (v := 7) (lv' := [(1, .int 7), (0, .ref (ad 38))]) K.hx K.hb d_L_freeAll_42 hl (k := 0) rfl (by decide) (by decide) rfl (fun ls hl => ?_)
  refine lv_goto (tgt := 26) K.hx K.hb d_L_freeAll_45 (by decide) ?_
  refine lv_iload_n K.hx K.hb d_L_freeAll_26 rfl (lv_at hl 0 rfl) ?_
  refine lv_aload_n K.hx K.hb d_L_freeAll_27 rfl (lv_at hl 1 rfl) ?_
  refine g_get K.1 hP (38) (by decide) rfl rfl i_L 2 (by decide) rfl (Or.inl kw_199) rfl d_L_freeAll_28 ?_
  refine g_alen K.1 hP (40) (by decide) rfl 0 rfl (i := 8) rfl d_L_freeAll_31 ?_
  refine lv_icmp_ge (tgt := 48) K.hx K.hb d_L_freeAll_32 (by decide) (fun c_32_11 => (show False from by revert c_32_11; decide).elim) (fun _ => ?_)
  refine lv_aload_n K.hx K.hb d_L_freeAll_35 rfl (lv_at hl 1 rfl) ?_
  refine g_get K.1 hP (38) (by decide) rfl rfl i_L 2 (by decide) rfl (Or.inl kw_199) rfl d_L_freeAll_36 ?_
  refine lv_iload_n K.hx K.hb d_L_freeAll_39 rfl (lv_at hl 0 rfl) ?_
  refine lv_iconst (v := 0) K.hx K.hb d_L_freeAll_40 (by decide) ?_
  refine g_iast K.1 hP hS (40) (by decide) (fun _ => rfl) 0 rfl (7) rfl (by decide) (by decide) d_L_freeAll_41 (fun H l1 hP hS => ?_)
  refine lv_iinc (v := 8) (lv' := [(1, .int 8), (0, .ref (ad 38))]) K.hx K.hb d_L_freeAll_42 hl (k := 0) rfl (by decide) (by decide) rfl (fun ls hl => ?_)
  refine lv_goto (tgt := 26) K.hx K.hb d_L_freeAll_45 (by decide) ?_
  refine lv_iload_n K.hx K.hb d_L_freeAll_26 rfl (lv_at hl 0 rfl) ?_
  refine lv_aload_n K.hx K.hb d_L_freeAll_27 rfl (lv_at hl 1 rfl) ?_
  refine g_get K.1 hP (38) (by decide) rfl rfl i_L 2 (by decide) rfl (Or.inl kw_199) rfl d_L_freeAll_28 ?_
  refine g_alen K.1 hP (40) (by decide) rfl 0 rfl (i := 8) rfl d_L_freeAll_31 ?_
  refine lv_icmp_ge (tgt := 48) K.hx K.hb d_L_freeAll_32 (by decide) (fun _ => ?_) (fun c_32_12 => (show False from by revert c_32_12; decide).elim)
  exact ce_v K hP hS ⟨rfl, rfl, rfl⟩ (Nat.le_of_ble_eq_true rfl) (Nat.le_of_ble_eq_true rfl) d_L_freeAll_48
set_option maxHeartbeats 4000000 in
set_option maxRecDepth 100000 in
theorem c_L_occupy (l : Launch) (D : va_G) (cs : Nat → ClassId) (ad : Nat → Nat) (v : Nat → Nat → Int32) (sd : Int64) {gc pc rc : Nat} (hPI : PI gc pc rc v) {i : Nat} (hi : i < rc) {q : Nat} (hq : q < 4) (h : Int32)  : Cm l y_L_occupy b_L_occupy 5 none (rmx 0 0) [.ref (ad 38), .ref (ad (33 + i)), .int (nI q), .int h] D cs ad v sd (fun r v' sd' => r = none ∧ occ v i q h = v' ∧ sd = sd') (fun cls => False) := by
  refine cw_enter (own := "WearHours$Planner") rfl (Nat.le_of_ble_eq_true rfl) ?_
  intro p e s m below meth c ls K hS hP hl
  have hl : lv_has ls 5 [(0, .ref (ad 38)), (1, .ref (ad (33 + i))), (2, .int (nI q)), (3, .int h)] := hl
  obtain ⟨hth, hth8⟩ := PI_th hPI hi
  have hg6 := hPI.2.1
  have hp4 := hPI.2.2.2.1
  have hr5 := hPI.2.2.2.2.2.1
  have hi5 : i < 5 := by omega
  refine lv_iload_n K.hx K.hb d_L_occupy_0 rfl (lv_at hl 3 rfl) ?_
  refine lv_aload_n K.hx K.hb d_L_occupy_1 rfl (lv_at hl 1 rfl) ?_
  refine g_get K.1 hP (33 + i) (by have := hi5; omega) (eR hi5) rfl i_R 1 (by decide) rfl (Or.inr nw_126) rfl d_L_occupy_2 ?_
  refine lv_iadd K.hx K.hb d_L_occupy_5 ?_
  refine lv_istore (lv' := [(4, .int (h + (v (33 + i) 1))), (0, .ref (ad 38)), (1, .ref (ad (33 + i))), (2, .int (nI q)), (3, .int h)]) K.hx K.hb d_L_occupy_6 hl (by decide) rfl (fun ls hl => ?_)
  refine lv_aload_n K.hx K.hb d_L_occupy_8 rfl (lv_at hl 1 rfl) ?_
  refine g_get K.1 hP (38) (by decide) rfl rfl i_L 2 (by decide) rfl (Or.inl kw_199) rfl d_L_occupy_9 ?_
  refine lv_aload_n K.hx K.hb d_L_occupy_12 rfl (lv_at hl 2 rfl) ?_
  refine g_get K.1 hP (33 + i) (by have := hi5; omega) (eR hi5) rfl i_R 0 (by decide) rfl (Or.inr nw_123) rfl d_L_occupy_13 ?_
  refine lv_iload K.hx K.hb d_L_occupy_16 (lv_at hl 0 rfl) ?_
  refine g_iast K.1 hP hS (40) (by decide) (fun _ => rfl) 0 rfl (th v i) hth (by have := hth8; omega) (by decide) d_L_occupy_18 (fun H l1 hP hS => ?_)
  refine lv_aload_n K.hx K.hb d_L_occupy_19 rfl (lv_at hl 1 rfl) ?_
  refine g_get K.1 hP (38) (by decide) rfl rfl i_L 1 (by decide) rfl (Or.inl kw_198) rfl d_L_occupy_20 ?_
  refine lv_iload_n K.hx K.hb d_L_occupy_23 rfl (lv_at hl 3 rfl) ?_
  refine lv_iload K.hx K.hb d_L_occupy_24 (lv_at hl 0 rfl) ?_
  refine lv_aload_n K.hx K.hb d_L_occupy_26 rfl (lv_at hl 1 rfl) ?_
  refine g_get K.1 hP (38) (by decide) rfl rfl i_L 0 (by decide) rfl (Or.inl kw_197) rfl d_L_occupy_27 ?_
  refine g_get K.1 hP (19) (by decide) rfl rfl i_K 6 (by decide) rfl (Or.inr nw_170) rfl d_L_occupy_30 ?_
  refine lv_topE (y := (v 19 6)) (by first | (simp [u2_at, kp]; done) | (simp [u2_at, kp] <;> (intros; omega)) | (simp only [u2_at, kp]; (repeat' split) <;> first | rfl | (exfalso; omega))) ?_
  refine lv_iadd K.hx K.hb d_L_occupy_33 ?_
  refine g_iast K.1 hP hS (39) (by decide) (fun _ => rfl) 0 rfl (q) rfl (by have := hq; omega) (by decide) d_L_occupy_34 (fun H l1 hP hS => ?_)
  exact ce_v K hP hS ⟨rfl, rfl, rfl⟩ (Nat.le_of_ble_eq_true rfl) (Nat.le_of_ble_eq_true rfl) d_L_occupy_35
set_option maxHeartbeats 4000000 in
set_option maxRecDepth 100000 in
theorem c_L_beginning (l : Launch) (D : va_G) (cs : Nat → ClassId) (ad : Nat → Nat) (v : Nat → Nat → Int32) (sd : Int64) {gc pc rc : Nat} (hPI : PI gc pc rc v) {i : Nat} (hi : i < rc) {g : Nat} (hg : g < 6) {q : Nat} (hq : q < 4)  : Cm l y_L_beginning b_L_beginning 9 (some .int) (rmx 0 0) [.ref (ad 38), .ref (ad (33 + i)), .int (nI g), .int (nI q)] D cs ad v sd (fun r v' sd' => r = some (.int (begZ v i g q)) ∧ v = v' ∧ sd = sd') (fun cls => False) := by
  refine cw_enter (own := "WearHours$Planner") rfl (Nat.le_of_ble_eq_true rfl) ?_
  intro p e s m below meth c ls K hS hP hl
  have hl : lv_has ls 9 [(0, .ref (ad 38)), (1, .ref (ad (33 + i))), (2, .int (nI g)), (3, .int (nI q))] := hl
  obtain ⟨hth, hth8⟩ := PI_th hPI hi
  have hg6 := hPI.2.1
  have hp4 := hPI.2.2.2.1
  have hr5 := hPI.2.2.2.2.2.1
  have hi5 : i < 5 := by omega
  refine lv_aload_n K.hx K.hb d_L_beginning_0 rfl (lv_at hl 0 rfl) ?_
  refine g_get K.1 hP (38) (by decide) rfl rfl i_L 0 (by decide) rfl (Or.inl kw_197) rfl d_L_beginning_1 ?_
  refine g_get K.1 hP (19) (by decide) rfl rfl i_K 0 (by decide) rfl (Or.inr nw_154) rfl d_L_beginning_4 ?_
  refine lv_iload_n K.hx K.hb d_L_beginning_7 rfl (lv_at hl 2 rfl) ?_
  refine g_aald K.1 hP (20) (by decide) rfl 4 rfl (g) rfl (by have := hg; omega) (by decide) rfl d_L_beginning_8 ?_
  refine lv_astore (lv' := [(4, .ref (ad (21 + g))), (0, .ref (ad 38)), (1, .ref (ad (33 + i))), (2, .int (nI g)), (3, .int (nI q))]) K.hx K.hb d_L_beginning_9 hl (by decide) rfl (fun ls hl => ?_)
  refine lv_aload_n K.hx K.hb d_L_beginning_11 rfl (lv_at hl 1 rfl) ?_
  refine g_get K.1 hP (38) (by decide) rfl rfl i_L 0 (by decide) rfl (Or.inl kw_197) rfl d_L_beginning_12 ?_
  refine g_get K.1 hP (19) (by decide) rfl rfl i_K 2 (by decide) rfl (Or.inr nw_159) rfl d_L_beginning_15 ?_
  refine lv_iload_n K.hx K.hb d_L_beginning_18 rfl (lv_at hl 4 rfl) ?_
  refine g_aald K.1 hP (27) (by decide) rfl 5 rfl (q) rfl (by have := hq; omega) (by decide) rfl d_L_beginning_19 ?_
  refine lv_astore (lv' := [(5, .ref (ad (28 + q))), (4, .ref (ad (21 + g))), (0, .ref (ad 38)), (1, .ref (ad (33 + i))), (2, .int (nI g)), (3, .int (nI q))]) K.hx K.hb d_L_beginning_20 hl (by decide) rfl (fun ls hl => ?_)
  refine lv_aload K.hx K.hb d_L_beginning_22 (lv_at hl 0 rfl) ?_
  refine g_get K.1 hP (28 + q) (by have := hq; omega) (eP hq) rfl i_P 0 (by decide) rfl (Or.inr nw_103) rfl d_L_beginning_24 ?_
  refine lv_aload_n K.hx K.hb d_L_beginning_27 rfl (lv_at hl 3 rfl) ?_
  refine g_get K.1 hP (33 + i) (by have := hi5; omega) (eR hi5) rfl i_R 2 (by decide) rfl (Or.inr nw_128) rfl d_L_beginning_28 ?_
  refine lv_icmp_eq (tgt := 36) K.hx K.hb d_L_beginning_31 (by decide) (fun c_31 => ?_) (fun c_31 => ?_)
  · refine lv_aload K.hx K.hb d_L_beginning_36 (lv_at hl 1 rfl) ?_
    refine g_get K.1 hP (21 + g) (by have := hg; omega) (eG hg) rfl i_G 0 (by decide) rfl (Or.inr nw_87) rfl d_L_beginning_38 ?_
    refine lv_aload K.hx K.hb d_L_beginning_41 (lv_at hl 0 rfl) ?_
    refine g_get K.1 hP (28 + q) (by have := hq; omega) (eP hq) rfl i_P 1 (by decide) rfl (Or.inr nw_105) rfl d_L_beginning_43 ?_
    refine va_mmax K.hx K.hb (K.1.1.2.2.1.trans hl.1.symm) K.1.1.2.2.2.1 (K.1.1.2.2.2.2 _ kw_273) (K.1.1.2.2.2.2 _ kw_274) (K.1.1.2.2.2.2 _ kw_37) (K.1.1.2.2.2.2 _ kw_275) (Nat.le_of_ble_eq_true rfl) (Nat.le_of_ble_eq_true rfl) (Nat.le_of_ble_eq_true rfl) (Nat.le_of_ble_eq_true rfl) d_L_beginning_46 ?_
    refine lv_topi (fun z6 z6e => ?_)
    refine lv_istore (lv' := [(6, .int z6), (5, .ref (ad (28 + q))), (4, .ref (ad (21 + g))), (0, .ref (ad 38)), (1, .ref (ad (33 + i))), (2, .int (nI g)), (3, .int (nI q))]) K.hx K.hb d_L_beginning_49 hl (by decide) rfl (fun ls hl => ?_)
    refine lv_aload_n K.hx K.hb d_L_beginning_51 rfl (lv_at hl 3 rfl) ?_
    refine g_get K.1 hP (38) (by decide) rfl rfl i_L 1 (by decide) rfl (Or.inl kw_198) rfl d_L_beginning_52 ?_
    refine lv_iload_n K.hx K.hb d_L_beginning_55 rfl (lv_at hl 6 rfl) ?_
    refine g_iald K.1 hP (39) (by decide) rfl 0 rfl (q) rfl (by have := hq; omega) (by decide) d_L_beginning_56 ?_
    refine lv_aload_n K.hx K.hb d_L_beginning_57 rfl (lv_at hl 3 rfl) ?_
    refine g_get K.1 hP (38) (by decide) rfl rfl i_L 2 (by decide) rfl (Or.inl kw_199) rfl d_L_beginning_58 ?_
    refine lv_aload_n K.hx K.hb d_L_beginning_61 rfl (lv_at hl 4 rfl) ?_
    refine g_get K.1 hP (33 + i) (by have := hi5; omega) (eR hi5) rfl i_R 0 (by decide) rfl (Or.inr nw_123) rfl d_L_beginning_62 ?_
    refine g_iald K.1 hP (40) (by decide) rfl 0 rfl (th v i) hth (by have := hth8; omega) (by decide) d_L_beginning_65 ?_
    refine va_mmax K.hx K.hb (K.1.1.2.2.1.trans hl.1.symm) K.1.1.2.2.2.1 (K.1.1.2.2.2.2 _ kw_273) (K.1.1.2.2.2.2 _ kw_274) (K.1.1.2.2.2.2 _ kw_37) (K.1.1.2.2.2.2 _ kw_275) (Nat.le_of_ble_eq_true rfl) (Nat.le_of_ble_eq_true rfl) (Nat.le_of_ble_eq_true rfl) (Nat.le_of_ble_eq_true rfl) d_L_beginning_66 ?_
    refine lv_topi (fun z7 z7e => ?_)
    refine lv_istore (lv' := [(7, .int z7), (6, .int z6), (5, .ref (ad (28 + q))), (4, .ref (ad (21 + g))), (0, .ref (ad 38)), (1, .ref (ad (33 + i))), (2, .int (nI g)), (3, .int (nI q))]) K.hx K.hb d_L_beginning_69 hl (by decide) rfl (fun ls hl => ?_)
    refine lv_iload K.hx K.hb d_L_beginning_71 (lv_at hl 1 rfl) ?_
    refine lv_iload K.hx K.hb d_L_beginning_73 (lv_at hl 0 rfl) ?_
    refine va_mmax K.hx K.hb (K.1.1.2.2.1.trans hl.1.symm) K.1.1.2.2.2.1 (K.1.1.2.2.2.2 _ kw_273) (K.1.1.2.2.2.2 _ kw_274) (K.1.1.2.2.2.2 _ kw_37) (K.1.1.2.2.2.2 _ kw_275) (Nat.le_of_ble_eq_true rfl) (Nat.le_of_ble_eq_true rfl) (Nat.le_of_ble_eq_true rfl) (Nat.le_of_ble_eq_true rfl) d_L_beginning_75 ?_
    refine lv_topi (fun z8 z8e => ?_)
    refine lv_istore (lv' := [(8, .int z8), (7, .int z7), (6, .int z6), (5, .ref (ad (28 + q))), (4, .ref (ad (21 + g))), (0, .ref (ad 38)), (1, .ref (ad (33 + i))), (2, .int (nI g)), (3, .int (nI q))]) K.hx K.hb d_L_beginning_78 hl (by decide) rfl (fun ls hl => ?_)
    refine lv_iload K.hx K.hb d_L_beginning_80 (lv_at hl 0 rfl) ?_
    refine lv_aload_n K.hx K.hb d_L_beginning_82 rfl (lv_at hl 6 rfl) ?_
    refine g_get K.1 hP (33 + i) (by have := hi5; omega) (eR hi5) rfl i_R 1 (by decide) rfl (Or.inr nw_126) rfl d_L_beginning_83 ?_
    refine lv_iadd K.hx K.hb d_L_beginning_86 ?_
    refine lv_aload K.hx K.hb d_L_beginning_87 (lv_at hl 4 rfl) ?_
    refine g_get K.1 hP (21 + g) (by have := hg; omega) (eG hg) rfl i_G 1 (by decide) rfl (Or.inr nw_89) rfl d_L_beginning_89 ?_
    refine lv_aload K.hx K.hb d_L_beginning_92 (lv_at hl 3 rfl) ?_
    refine g_get K.1 hP (28 + q) (by have := hq; omega) (eP hq) rfl i_P 2 (by decide) rfl (Or.inr nw_107) rfl d_L_beginning_94 ?_
    refine va_mmin K.hx K.hb (K.1.1.2.2.1.trans hl.1.symm) K.1.1.2.2.2.1 (K.1.1.2.2.2.2 _ kw_276) (K.1.1.2.2.2.2 _ kw_277) (K.1.1.2.2.2.2 _ kw_37) (K.1.1.2.2.2.2 _ kw_278) (Nat.le_of_ble_eq_true rfl) (Nat.le_of_ble_eq_true rfl) (Nat.le_of_ble_eq_true rfl) (Nat.le_of_ble_eq_true rfl) d_L_beginning_97 ?_
    refine lv_icmp_gt (tgt := 108) K.hx K.hb d_L_beginning_100 (by decide) (fun c_100 => ?_) (fun c_100 => ?_)
    · refine lv_iconst (v := (-1)) K.hx K.hb d_L_beginning_108 (by decide) ?_
      exact ce_i K hP hS ⟨by rw [begZ_lo c_31 (by rw [show begH v i g q = z8 from by subst z6e; subst z7e; subst z8e; rfl]; exact c_100)], rfl, rfl⟩ (Nat.le_of_ble_eq_true rfl) (Nat.le_of_ble_eq_true rfl) d_L_beginning_109
    · refine lv_iload K.hx K.hb d_L_beginning_103 (lv_at hl 0 rfl) ?_
      refine lv_goto (tgt := 109) K.hx K.hb d_L_beginning_105 (by decide) ?_
      exact ce_i K hP hS ⟨by rw [begZ_hi c_31 (by rw [show begH v i g q = z8 from by subst z6e; subst z7e; subst z8e; rfl]; exact c_100), show begH v i g q = z8 from by subst z6e; subst z7e; subst z8e; rfl], rfl, rfl⟩ (Nat.le_of_ble_eq_true rfl) (Nat.le_of_ble_eq_true rfl) d_L_beginning_109
  · refine lv_iconst (v := (-1)) K.hx K.hb d_L_beginning_34 (by decide) ?_
    exact ce_i K hP hS ⟨by rw [begZ_no c_31], rfl, rfl⟩ (Nat.le_of_ble_eq_true rfl) (Nat.le_of_ble_eq_true rfl) d_L_beginning_35
