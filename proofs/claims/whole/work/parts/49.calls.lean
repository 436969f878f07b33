/-! each call of the script -/
set_option maxHeartbeats 4000000 in
set_option maxRecDepth 100000 in
theorem lw_op_seed {p : Program} {l : Launch} {e : Env} {s : State} {m : MethodId} {args : Array Value} {below : List Frame} {meth : Method} {c : Code} {Q : State → Prop} {D : va_G} {cs : Nat → ClassId} {aC aM : Nat → Nat} {w b L n : Nat} {xs : Nat → Int32} (hfl : l.flags = flags0) (K : Lx p m c code 7 s args "WearHoursLaw" D cs (lA s)) (hA : LA s aC aM w) (hX : va_X b L xs s s.heap) (hbl : b < s.heap.size) (hL : L ≤ 2560) (hn : 5 * n + 5 ≤ L)
    (kx : ∀ (v u : Nat → Nat → Int32) (sd : Int64) (f : Nat → Int64) (H : Heap) (l1 : List Loc) (ls : Array Slot), LI s D cs aC aM w v u sd f H → RL v u → va_S (lA s) s.heap H l1 → lv_has ls 7 [(0, .ref b), (1, .ref (aC 0)), (2, .ref (aM 0)), (3, .ref w), (4, .int (nI (5 * n)))] → W p l e room_1 s m args below meth c H l1 (100 + 3 * n + 3) (1000 + 18 * n + 18) Q (F0 m 1100 ls [])) : ∀ (v u : Nat → Nat → Int32) (sd : Int64) (f : Nat → Int64) (H : Heap) (l1 : List Loc) (ls : Array Slot), LI s D cs aC aM w v u sd f H → RL v u → va_S (lA s) s.heap H l1 → lv_has ls 7 [(0, .ref b), (1, .ref (aC 0)), (2, .ref (aM 0)), (3, .ref w), (4, .int (nI (5 * n)))] → W p l e room_1 s m args below meth c H l1 (100 + 3 * n) (1000 + 18 * n) Q (F0 m 116 ls []) := by
  intro v u sd f H l1 ls hI hRL hS hl
  obtain ⟨hP, hMP, hO⟩ := hI
  obtain ⟨tc, d, gc, pc, rc, hRA0⟩ := hRL
  have hRA : RA v u tc d gc pc rc := hRA0
  have htc := hRA.1.2.1
  have htcM := hRA.1.2.2.1
  have ht8 := hRA.1.1
  have hRP := hRA.2.2.1
  have hg6 := hRP.1
  have hp4 := hRP.2.1
  have hr5 := hRP.2.2.1
  have hD := hRP.2.2.2.1
  have hMR := hRP.2.2.2.2.2.1
  have hgc := hRP.2.2.2.2.2.2.1.1
  have hpc := hRP.2.2.2.2.2.2.1.2.1
  have hrc := hRP.2.2.2.2.2.2.1.2.2
  have hgcM := hMR.2.2.2.2.2.1
  have hpcM := hMR.2.2.2.2.2.2.1
  have hrcM := hMR.2.2.2.2.2.2.2
  have hPI := hRA.PI
  have hSK := hRA.SK
  have hMI := hRA.MI
  have hdv := hRA.dv
  refine lv_aload_n K.hx K.hb d_Z_law_116 rfl (lv_at hl 1 rfl) ?_
  refine lv_aload_n K.hx K.hb d_Z_law_117 rfl (lv_at hl 0 rfl) ?_
  refine lv_iload K.hx K.hb d_Z_law_118 (lv_at hl 4 rfl) ?_
  refine lv_iconst (v := 1) K.hx K.hb d_Z_law_120 (by decide) ?_
  refine lv_iadd K.hx K.hb d_Z_law_121 ?_
  refine lv_topE (y := nI (5 * n + 1)) (nI_add _ _) ?_
  refine zc_sld K hX hbl hS (5 * n + 1) rfl (by omega) (by omega) d_Z_law_122 ?_
  refine lv_i2l K.hx K.hb d_Z_law_123 rfl ?_
  refine lv_bipush (v := 32) K.hx K.hb d_Z_law_124 (by decide) ?_
  refine lv_lshl K.hx K.hb d_Z_law_126 rfl ?_
  refine lv_aload_n K.hx K.hb d_Z_law_127 rfl (lv_at hl 0 rfl) ?_
  refine lv_iload K.hx K.hb d_Z_law_128 (lv_at hl 4 rfl) ?_
  refine lv_iconst (v := 2) K.hx K.hb d_Z_law_130 (by decide) ?_
  refine lv_iadd K.hx K.hb d_Z_law_131 ?_
  refine lv_topE (y := nI (5 * n + 2)) (nI_add _ _) ?_
  refine zc_sld K hX hbl hS (5 * n + 2) rfl (by omega) (by omega) d_Z_law_132 ?_
  refine lv_i2l K.hx K.hb d_Z_law_133 rfl ?_
  refine lv_ldc2 (v := 4294967295) K.hx K.hb K.1.2.2.2.1 (K.1.2.2.2.2 _ kw_846) d_Z_law_134 ?_
  refine lv_land K.hx K.hb d_Z_law_137 ?_
  refine lv_lor K.hx K.hb d_Z_law_138 ?_
  refine zc_V K hA.1 hP hS (hA.sC hS) (c_W_seed l D cs aC v sd ((((xs (5 * n + 1)).toInt64) <<< ((32 : Int32).toInt64 &&& 63)) ||| (((xs (5 * n + 2)).toInt64) &&& 4294967295))) kw_244 xm_W_seed kw_241 kw_242 kw_243 rfl hl.1 d_Z_law_139 (Nat.le_of_ble_eq_true rfl) (Nat.le_of_ble_eq_true rfl) ⟨by show 100 + 3 * n + 0 ≤ 669350; omega, by show 1000 + 18 * n + 0 ≤ 7088055; omega⟩ (fun r v1 sd1 H l1 hp hP hk hS => ?_) (fun q cls cell H l1 hx => hx.elim)
  have hMP := hA.kM hMP (fun q h1 h2 => hk q h1 (fun h3 => h2 (Or.inl h3)))
  have hO := hA.kO2 hO hk
  obtain ⟨rfl, rfl, rfl⟩ := hp
  refine lv_aload_n K.hx K.hb d_Z_law_142 rfl (lv_at hl 2 rfl) ?_
  refine lv_aload_n K.hx K.hb d_Z_law_143 rfl (lv_at hl 0 rfl) ?_
  refine lv_iload K.hx K.hb d_Z_law_144 (lv_at hl 4 rfl) ?_
  refine lv_iconst (v := 1) K.hx K.hb d_Z_law_146 (by decide) ?_
  refine lv_iadd K.hx K.hb d_Z_law_147 ?_
  refine lv_topE (y := nI (5 * n + 1)) (nI_add _ _) ?_
  refine zc_sld K hX hbl hS (5 * n + 1) rfl (by omega) (by omega) d_Z_law_148 ?_
  refine lv_i2l K.hx K.hb d_Z_law_149 rfl ?_
  refine lv_bipush (v := 32) K.hx K.hb d_Z_law_150 (by decide) ?_
  refine lv_lshl K.hx K.hb d_Z_law_152 rfl ?_
  refine lv_aload_n K.hx K.hb d_Z_law_153 rfl (lv_at hl 0 rfl) ?_
  refine lv_iload K.hx K.hb d_Z_law_154 (lv_at hl 4 rfl) ?_
  refine lv_iconst (v := 2) K.hx K.hb d_Z_law_156 (by decide) ?_
  refine lv_iadd K.hx K.hb d_Z_law_157 ?_
  refine lv_topE (y := nI (5 * n + 2)) (nI_add _ _) ?_
  refine zc_sld K hX hbl hS (5 * n + 2) rfl (by omega) (by omega) d_Z_law_158 ?_
  refine lv_i2l K.hx K.hb d_Z_law_159 rfl ?_
  refine lv_ldc2 (v := 4294967295) K.hx K.hb K.1.2.2.2.1 (K.1.2.2.2.2 _ kw_846) d_Z_law_160 ?_
  refine lv_land K.hx K.hb d_Z_law_163 ?_
  refine lv_lor K.hx K.hb d_Z_law_164 ?_
  refine zc_M K hA.2.1 hMP hS (hA.sM hS) (c_M_seed l D cs aM u sd ((((xs (5 * n + 1)).toInt64) <<< ((32 : Int32).toInt64 &&& 63)) ||| (((xs (5 * n + 2)).toInt64) &&& 4294967295))) kw_739 xm_M_seed kw_736 kw_737 kw_738 rfl hl.1 d_Z_law_165 (Nat.le_of_ble_eq_true rfl) (Nat.le_of_ble_eq_true rfl) ⟨by show 100 + 3 * n + 0 + 0 ≤ 669350; omega, by show 1000 + 18 * n + 0 + 0 ≤ 7088055; omega⟩ (fun r u1 sd2 H l1 hm hMP hk hS => ?_)
  have hP := hA.kC hP hk
  have hO := hA.kO hO hk
  obtain ⟨rfl, rfl, rfl⟩ := hm
  have hg4 : RL v (u2 u 0 0 0) := hRA.o 0
  refine lv_goto (tgt := 1100) K.hx K.hb d_Z_law_168 (by decide) ?_
  exact W.widen (by show 100 + 3 * n + 0 + 0 ≤ 100 + 3 * n + 3; omega) (by show 1000 + 18 * n + 0 + 0 ≤ 1000 + 18 * n + 18; omega) (kx v (u2 u 0 0 0) ((((xs (5 * n + 1)).toInt64) <<< ((32 : Int32).toInt64 &&& 63)) ||| (((xs (5 * n + 2)).toInt64) &&& 4294967295)) f H l1 ls ⟨hP, hMP, hO⟩ hg4 hS (lv_sub hl [0, 1, 2, 3, 4] rfl))
set_option maxHeartbeats 4000000 in
set_option maxRecDepth 100000 in
theorem lw_op_thing {p : Program} {l : Launch} {e : Env} {s : State} {m : MethodId} {args : Array Value} {below : List Frame} {meth : Method} {c : Code} {Q : State → Prop} {D : va_G} {cs : Nat → ClassId} {aC aM : Nat → Nat} {w b L n : Nat} {xs : Nat → Int32} (hfl : l.flags = flags0) (K : Lx p m c code 7 s args "WearHoursLaw" D cs (lA s)) (hA : LA s aC aM w) (hX : va_X b L xs s s.heap) (hbl : b < s.heap.size) (hL : L ≤ 2560) (hn : 5 * n + 5 ≤ L)
    (kx : ∀ (v u : Nat → Nat → Int32) (sd : Int64) (f : Nat → Int64) (H : Heap) (l1 : List Loc) (ls : Array Slot), LI s D cs aC aM w v u sd f H → RL v u → va_S (lA s) s.heap H l1 → lv_has ls 7 [(0, .ref b), (1, .ref (aC 0)), (2, .ref (aM 0)), (3, .ref w), (4, .int (nI (5 * n)))] → W p l e room_1 s m args below meth c H l1 (100 + 3 * n + 3) (1000 + 18 * n + 18) Q (F0 m 1100 ls [])) : ∀ (v u : Nat → Nat → Int32) (sd : Int64) (f : Nat → Int64) (H : Heap) (l1 : List Loc) (ls : Array Slot), LI s D cs aC aM w v u sd f H → RL v u → va_S (lA s) s.heap H l1 → lv_has ls 7 [(0, .ref b), (1, .ref (aC 0)), (2, .ref (aM 0)), (3, .ref w), (4, .int (nI (5 * n)))] → W p l e room_1 s m args below meth c H l1 (100 + 3 * n) (1000 + 18 * n) Q (F0 m 171 ls []) := by
  intro v u sd f H l1 ls hI hRL hS hl
  obtain ⟨hP, hMP, hO⟩ := hI
  obtain ⟨tc, d, gc, pc, rc, hRA0⟩ := hRL
  have hRA : RA v u tc d gc pc rc := hRA0
  have htc := hRA.1.2.1
  have htcM := hRA.1.2.2.1
  have ht8 := hRA.1.1
  have hRP := hRA.2.2.1
  have hg6 := hRP.1
  have hp4 := hRP.2.1
  have hr5 := hRP.2.2.1
  have hD := hRP.2.2.2.1
  have hMR := hRP.2.2.2.2.2.1
  have hgc := hRP.2.2.2.2.2.2.1.1
  have hpc := hRP.2.2.2.2.2.2.1.2.1
  have hrc := hRP.2.2.2.2.2.2.1.2.2
  have hgcM := hMR.2.2.2.2.2.1
  have hpcM := hMR.2.2.2.2.2.2.1
  have hrcM := hMR.2.2.2.2.2.2.2
  have hPI := hRA.PI
  have hSK := hRA.SK
  have hMI := hRA.MI
  have hdv := hRA.dv
  refine lv_aload_n K.hx K.hb d_Z_law_171 rfl (lv_at hl 1 rfl) ?_
  refine lv_aload_n K.hx K.hb d_Z_law_172 rfl (lv_at hl 0 rfl) ?_
  refine lv_iload K.hx K.hb d_Z_law_173 (lv_at hl 4 rfl) ?_
  refine lv_iconst (v := 1) K.hx K.hb d_Z_law_175 (by decide) ?_
  refine lv_iadd K.hx K.hb d_Z_law_176 ?_
  refine lv_topE (y := nI (5 * n + 1)) (nI_add _ _) ?_
  refine zc_sld K hX hbl hS (5 * n + 1) rfl (by omega) (by omega) d_Z_law_177 ?_
  refine lv_aload_n K.hx K.hb d_Z_law_178 rfl (lv_at hl 0 rfl) ?_
  refine lv_iload K.hx K.hb d_Z_law_179 (lv_at hl 4 rfl) ?_
  refine lv_iconst (v := 2) K.hx K.hb d_Z_law_181 (by decide) ?_
  refine lv_iadd K.hx K.hb d_Z_law_182 ?_
  refine lv_topE (y := nI (5 * n + 2)) (nI_add _ _) ?_
  refine zc_sld K hX hbl hS (5 * n + 2) rfl (by omega) (by omega) d_Z_law_183 ?_
  refine lv_aload_n K.hx K.hb d_Z_law_184 rfl (lv_at hl 3 rfl) ?_
  refine zc_Z K hA.1 hP hO hA.2.2.2.2.2.1 hS (hA.sC hS) hA.2.2.2.2.1 (c_Z_thing l D cs aC w v sd hfl htc ht8 (xs (5 * n + 1)) (xs (5 * n + 2))) kw_311 xm_Z_thing kw_309 kw_310 kw_21 rfl hl.1 d_Z_law_185 (Nat.le_of_ble_eq_true rfl) (Nat.le_of_ble_eq_true rfl) ⟨by show 100 + 3 * n + 1 ≤ 669350; omega, by show 1000 + 18 * n + 6 ≤ 7088055; omega⟩ (fun k a v1 sd1 f1 H l1 hZo hP hO hf1 hk hS => ?_)
  have hMP := hA.kM hMP hk
  refine lv_istore (lv' := [(5, .int k), (0, .ref b), (1, .ref (aC 0)), (2, .ref (aM 0)), (3, .ref w), (4, .int (nI (5 * n)))]) K.hx K.hb d_Z_law_188 hl (by decide) rfl (fun ls hl => ?_)
  refine lv_aload_n K.hx K.hb d_Z_law_190 rfl (lv_at hl 3 rfl) ?_
  refine lv_aload_n K.hx K.hb d_Z_law_191 rfl (lv_at hl 1 rfl) ?_
  refine lv_iload K.hx K.hb d_Z_law_192 (lv_at hl 5 rfl) ?_
  refine lv_iconst (v := 1) K.hx K.hb d_Z_law_194 (by decide) ?_
  refine lv_iadd K.hx K.hb d_Z_law_195 ?_
  refine lv_topE (y := nI (5 * n + 1)) (nI_add _ _) ?_
  refine zc_sld K hX hbl hS (5 * n + 1) rfl (by omega) (by omega) d_Z_law_196 ?_
  refine lv_aload_n K.hx K.hb d_Z_law_197 rfl (lv_at hl 1 rfl) ?_
  refine lv_iload K.hx K.hb d_Z_law_198 (lv_at hl 5 rfl) ?_
  refine lv_iconst (v := 2) K.hx K.hb d_Z_law_200 (by decide) ?_
  refine lv_iadd K.hx K.hb d_Z_law_201 ?_
  refine lv_topE (y := nI (5 * n + 2)) (nI_add _ _) ?_
  refine zc_sld K hX hbl hS (5 * n + 2) rfl (by omega) (by omega) d_Z_law_202 ?_
  refine zc_M K hA.2.1 hMP hS (hA.sM hS) (k_M_thing l D cs aM u sd htcM ht8 (xs (5 * n + 1)) (xs (5 * n + 2))) kw_743 xm_M_thing kw_740 kw_741 kw_742 rfl hl.1 d_Z_law_203 (Nat.le_of_ble_eq_true rfl) (Nat.le_of_ble_eq_true rfl) ⟨by show 100 + 3 * n + 1 + 0 ≤ 669350; omega, by show 1000 + 18 * n + 6 + 0 ≤ 7088055; omega⟩ (fun r u1 sd2 H l1 hm hMP hk hS => ?_)
  have hP := hA.kC hP hk
  have hO := hA.kO hO hk
  obtain ⟨bb, rfl⟩ : ∃ bb, r = some (.int bb) := by rcases hm with ⟨_, _, h, _⟩ | ⟨_, h, _⟩ | ⟨_, _, h, _⟩ <;> exact ⟨_, h⟩
  obtain ⟨hg1, hg2, hg3, hg4⟩ := m_thing hRA hZo hm
  subst hg3
  refine lv_istore (lv' := [(6, .int bb), (5, .int k), (0, .ref b), (1, .ref (aC 0)), (2, .ref (aM 0)), (3, .ref w), (4, .int (nI (5 * n)))]) K.hx K.hb d_Z_law_206 hl (by decide) rfl (fun ls hl => ?_)
  refine lv_aload_n K.hx K.hb d_Z_law_208 rfl (lv_at hl 4 rfl) ?_
  refine zc_M K hA.2.1 hMP hS (hA.sM hS) (c_M_thrown l D cs aM u1 sd1) kw_735 xm_M_thrown kw_732 kw_733 kw_734 rfl hl.1 d_Z_law_209 (Nat.le_of_ble_eq_true rfl) (Nat.le_of_ble_eq_true rfl) ⟨by show 100 + 3 * n + 1 + 0 + 0 ≤ 669350; omega, by show 1000 + 18 * n + 6 + 0 + 0 ≤ 7088055; omega⟩ (fun r u3 sd3 H l1 hth hMP hk hS => ?_)
  have hP := hA.kC hP hk
  have hO := hA.kO hO hk
  obtain ⟨rfl, rfl, rfl⟩ := hth
  refine lv_iload K.hx K.hb d_Z_law_212 (lv_at hl 1 rfl) ?_
  refine lv_icmp_eq (tgt := 219) K.hx K.hb d_Z_law_214 (by decide) (fun c_214 => ?_) (fun c_214 => (absurd hg1 c_214))
  refine lv_iload K.hx K.hb d_Z_law_219 (lv_at hl 1 rfl) ?_
  refine lv_if_ne (tgt := 236) K.hx K.hb d_Z_law_221 (by decide) (fun c_221 => ?_) (fun c_221 => ?_)
  · refine lv_goto (tgt := 1100) K.hx K.hb d_Z_law_236 (by decide) ?_
    exact W.widen (by show 100 + 3 * n + 1 + 0 + 0 ≤ 100 + 3 * n + 3; omega) (by show 1000 + 18 * n + 6 + 0 + 0 ≤ 1000 + 18 * n + 18; omega) (kx v1 u1 sd1 f1 H l1 ls ⟨hP, hMP, hO⟩ hg4 hS (lv_sub hl [2, 3, 4, 5, 6] rfl))
  · refine lv_aload_n K.hx K.hb d_Z_law_224 rfl (lv_at hl 5 rfl) ?_
    refine lv_iconst (v := 0) K.hx K.hb d_Z_law_225 (by decide) ?_
    refine zc_lald K hO d_Z_law_226 ?_
    refine lv_iload K.hx K.hb d_Z_law_227 (lv_at hl 0 rfl) ?_
    refine lv_i2l K.hx K.hb d_Z_law_229 rfl ?_
    refine W.lcmp K.hx K.hb d_Z_law_230 ?_
    refine lv_topE (y := 0) (by rw [hf1 c_221, show a = bb from by have h9 := hg2 c_221; injection h9 with h9; injection h9]; simp [lg_cmp]) ?_
    refine lv_if_eq (tgt := 236) K.hx K.hb d_Z_law_231 (by decide) (fun _ => ?_) (fun c_231 => (show False from by revert c_231; decide).elim)
    refine lv_goto (tgt := 1100) K.hx K.hb d_Z_law_236 (by decide) ?_
    exact W.widen (by show 100 + 3 * n + 1 + 0 + 0 ≤ 100 + 3 * n + 3; omega) (by show 1000 + 18 * n + 6 + 0 + 0 ≤ 1000 + 18 * n + 18; omega) (kx v1 u1 sd1 f1 H l1 ls ⟨hP, hMP, hO⟩ hg4 hS (lv_sub hl [2, 3, 4, 5, 6] rfl))
set_option maxHeartbeats 4000000 in
set_option maxRecDepth 100000 in
theorem lw_op_use {p : Program} {l : Launch} {e : Env} {s : State} {m : MethodId} {args : Array Value} {below : List Frame} {meth : Method} {c : Code} {Q : State → Prop} {D : va_G} {cs : Nat → ClassId} {aC aM : Nat → Nat} {w b L n : Nat} {xs : Nat → Int32} (hfl : l.flags = flags0) (K : Lx p m c code 7 s args "WearHoursLaw" D cs (lA s)) (hA : LA s aC aM w) (hX : va_X b L xs s s.heap) (hbl : b < s.heap.size) (hL : L ≤ 2560) (hn : 5 * n + 5 ≤ L)
    (kx : ∀ (v u : Nat → Nat → Int32) (sd : Int64) (f : Nat → Int64) (H : Heap) (l1 : List Loc) (ls : Array Slot), LI s D cs aC aM w v u sd f H → RL v u → va_S (lA s) s.heap H l1 → lv_has ls 7 [(0, .ref b), (1, .ref (aC 0)), (2, .ref (aM 0)), (3, .ref w), (4, .int (nI (5 * n)))] → W p l e room_1 s m args below meth c H l1 (100 + 3 * n + 3) (1000 + 18 * n + 18) Q (F0 m 1100 ls [])) : ∀ (v u : Nat → Nat → Int32) (sd : Int64) (f : Nat → Int64) (H : Heap) (l1 : List Loc) (ls : Array Slot), LI s D cs aC aM w v u sd f H → RL v u → va_S (lA s) s.heap H l1 → lv_has ls 7 [(0, .ref b), (1, .ref (aC 0)), (2, .ref (aM 0)), (3, .ref w), (4, .int (nI (5 * n)))] → W p l e room_1 s m args below meth c H l1 (100 + 3 * n) (1000 + 18 * n) Q (F0 m 239 ls []) := by
  intro v u sd f H l1 ls hI hRL hS hl
  obtain ⟨hP, hMP, hO⟩ := hI
  obtain ⟨tc, d, gc, pc, rc, hRA0⟩ := hRL
  have hRA : RA v u tc d gc pc rc := hRA0
  have htc := hRA.1.2.1
  have htcM := hRA.1.2.2.1
  have ht8 := hRA.1.1
  have hRP := hRA.2.2.1
  have hg6 := hRP.1
  have hp4 := hRP.2.1
  have hr5 := hRP.2.2.1
  have hD := hRP.2.2.2.1
  have hMR := hRP.2.2.2.2.2.1
  have hgc := hRP.2.2.2.2.2.2.1.1
  have hpc := hRP.2.2.2.2.2.2.1.2.1
  have hrc := hRP.2.2.2.2.2.2.1.2.2
  have hgcM := hMR.2.2.2.2.2.1
  have hpcM := hMR.2.2.2.2.2.2.1
  have hrcM := hMR.2.2.2.2.2.2.2
  have hPI := hRA.PI
  have hSK := hRA.SK
  have hMI := hRA.MI
  have hdv := hRA.dv
  refine lv_aload_n K.hx K.hb d_Z_law_239 rfl (lv_at hl 1 rfl) ?_
  refine lv_aload_n K.hx K.hb d_Z_law_240 rfl (lv_at hl 0 rfl) ?_
  refine lv_iload K.hx K.hb d_Z_law_241 (lv_at hl 4 rfl) ?_
  refine lv_iconst (v := 1) K.hx K.hb d_Z_law_243 (by decide) ?_
  refine lv_iadd K.hx K.hb d_Z_law_244 ?_
  refine lv_topE (y := nI (5 * n + 1)) (nI_add _ _) ?_
  refine zc_sld K hX hbl hS (5 * n + 1) rfl (by omega) (by omega) d_Z_law_245 ?_
  refine lv_aload_n K.hx K.hb d_Z_law_246 rfl (lv_at hl 0 rfl) ?_
  refine lv_iload K.hx K.hb d_Z_law_247 (lv_at hl 4 rfl) ?_
  refine lv_iconst (v := 2) K.hx K.hb d_Z_law_249 (by decide) ?_
  refine lv_iadd K.hx K.hb d_Z_law_250 ?_
  refine lv_topE (y := nI (5 * n + 2)) (nI_add _ _) ?_
  refine zc_sld K hX hbl hS (5 * n + 2) rfl (by omega) (by omega) d_Z_law_251 ?_
  refine lv_aload_n K.hx K.hb d_Z_law_252 rfl (lv_at hl 3 rfl) ?_
  refine zc_Z K hA.1 hP hO hA.2.2.2.2.2.1 hS (hA.sC hS) hA.2.2.2.2.1 (c_Z_use l D cs aC w v sd hfl htc ht8 (xs (5 * n + 1)) (xs (5 * n + 2))) kw_413 xm_Z_use kw_411 kw_412 kw_21 rfl hl.1 d_Z_law_253 (Nat.le_of_ble_eq_true rfl) (Nat.le_of_ble_eq_true rfl) ⟨by show 100 + 3 * n + 2 ≤ 669350; omega, by show 1000 + 18 * n + 12 ≤ 7088055; omega⟩ (fun k a v1 sd1 f1 H l1 hZo hP hO hf1 hk hS => ?_)
  have hMP := hA.kM hMP hk
  refine lv_istore (lv' := [(5, .int k), (0, .ref b), (1, .ref (aC 0)), (2, .ref (aM 0)), (3, .ref w), (4, .int (nI (5 * n)))]) K.hx K.hb d_Z_law_256 hl (by decide) rfl (fun ls hl => ?_)
  refine lv_aload_n K.hx K.hb d_Z_law_258 rfl (lv_at hl 3 rfl) ?_
  refine lv_aload_n K.hx K.hb d_Z_law_259 rfl (lv_at hl 1 rfl) ?_
  refine lv_iload K.hx K.hb d_Z_law_260 (lv_at hl 5 rfl) ?_
  refine lv_iconst (v := 1) K.hx K.hb d_Z_law_262 (by decide) ?_
  refine lv_iadd K.hx K.hb d_Z_law_263 ?_
  refine lv_topE (y := nI (5 * n + 1)) (nI_add _ _) ?_
  refine zc_sld K hX hbl hS (5 * n + 1) rfl (by omega) (by omega) d_Z_law_264 ?_
  refine lv_aload_n K.hx K.hb d_Z_law_265 rfl (lv_at hl 1 rfl) ?_
  refine lv_iload K.hx K.hb d_Z_law_266 (lv_at hl 5 rfl) ?_
  refine lv_iconst (v := 2) K.hx K.hb d_Z_law_268 (by decide) ?_
  refine lv_iadd K.hx K.hb d_Z_law_269 ?_
  refine lv_topE (y := nI (5 * n + 2)) (nI_add _ _) ?_
  refine zc_sld K hX hbl hS (5 * n + 2) rfl (by omega) (by omega) d_Z_law_270 ?_
  refine zc_M K hA.2.1 hMP hS (hA.sM hS) (k_M_use l D cs aM u sd htcM ht8 (xs (5 * n + 1)) (xs (5 * n + 2))) kw_755 xm_M_use kw_752 kw_753 kw_754 rfl hl.1 d_Z_law_271 (Nat.le_of_ble_eq_true rfl) (Nat.le_of_ble_eq_true rfl) ⟨by show 100 + 3 * n + 2 + 0 ≤ 669350; omega, by show 1000 + 18 * n + 12 + 0 ≤ 7088055; omega⟩ (fun r u1 sd2 H l1 hm hMP hk hS => ?_)
  have hP := hA.kC hP hk
  have hO := hA.kO hO hk
  obtain ⟨bb, rfl⟩ : ∃ bb, r = some (.int bb) := by rcases hm with ⟨_, _, _, _, _, h, _⟩ | ⟨_, h, _⟩ | ⟨_, _, _, _, h, _⟩ | ⟨_, _, _, _, _, h, _⟩ <;> exact ⟨_, h⟩
  obtain ⟨hg1, hg2, hg3, hg4⟩ := m_use hRA hZo hm
  subst hg3
  refine lv_istore (lv' := [(6, .int bb), (5, .int k), (0, .ref b), (1, .ref (aC 0)), (2, .ref (aM 0)), (3, .ref w), (4, .int (nI (5 * n)))]) K.hx K.hb d_Z_law_274 hl (by decide) rfl (fun ls hl => ?_)
  refine lv_aload_n K.hx K.hb d_Z_law_276 rfl (lv_at hl 4 rfl) ?_
  refine zc_M K hA.2.1 hMP hS (hA.sM hS) (c_M_thrown l D cs aM u1 sd1) kw_735 xm_M_thrown kw_732 kw_733 kw_734 rfl hl.1 d_Z_law_277 (Nat.le_of_ble_eq_true rfl) (Nat.le_of_ble_eq_true rfl) ⟨by show 100 + 3 * n + 2 + 0 + 0 ≤ 669350; omega, by show 1000 + 18 * n + 12 + 0 + 0 ≤ 7088055; omega⟩ (fun r u3 sd3 H l1 hth hMP hk hS => ?_)
  have hP := hA.kC hP hk
  have hO := hA.kO hO hk
  obtain ⟨rfl, rfl, rfl⟩ := hth
  refine lv_iload K.hx K.hb d_Z_law_280 (lv_at hl 1 rfl) ?_
  refine lv_icmp_eq (tgt := 287) K.hx K.hb d_Z_law_282 (by decide) (fun c_282 => ?_) (fun c_282 => (absurd hg1 c_282))
  refine lv_iload K.hx K.hb d_Z_law_287 (lv_at hl 1 rfl) ?_
  refine lv_if_ne (tgt := 304) K.hx K.hb d_Z_law_289 (by decide) (fun c_289 => ?_) (fun c_289 => ?_)
  · refine lv_goto (tgt := 1100) K.hx K.hb d_Z_law_304 (by decide) ?_
    exact W.widen (by show 100 + 3 * n + 2 + 0 + 0 ≤ 100 + 3 * n + 3; omega) (by show 1000 + 18 * n + 12 + 0 + 0 ≤ 1000 + 18 * n + 18; omega) (kx v1 u1 sd1 f1 H l1 ls ⟨hP, hMP, hO⟩ hg4 hS (lv_sub hl [2, 3, 4, 5, 6] rfl))
  · refine lv_aload_n K.hx K.hb d_Z_law_292 rfl (lv_at hl 5 rfl) ?_
    refine lv_iconst (v := 0) K.hx K.hb d_Z_law_293 (by decide) ?_
    refine zc_lald K hO d_Z_law_294 ?_
    refine lv_iload K.hx K.hb d_Z_law_295 (lv_at hl 0 rfl) ?_
    refine lv_i2l K.hx K.hb d_Z_law_297 rfl ?_
    refine W.lcmp K.hx K.hb d_Z_law_298 ?_
    refine lv_topE (y := 0) (by rw [hf1 c_289, show a = bb from by have h9 := hg2 c_289; injection h9 with h9; injection h9]; simp [lg_cmp]) ?_
    refine lv_if_eq (tgt := 304) K.hx K.hb d_Z_law_299 (by decide) (fun _ => ?_) (fun c_299 => (show False from by revert c_299; decide).elim)
    refine lv_goto (tgt := 1100) K.hx K.hb d_Z_law_304 (by decide) ?_
    exact W.widen (by show 100 + 3 * n + 2 + 0 + 0 ≤ 100 + 3 * n + 3; omega) (by show 1000 + 18 * n + 12 + 0 + 0 ≤ 1000 + 18 * n + 18; omega) (kx v1 u1 sd1 f1 H l1 ls ⟨hP, hMP, hO⟩ hg4 hS (lv_sub hl [2, 3, 4, 5, 6] rfl))
set_option maxHeartbeats 4000000 in
set_option maxRecDepth 100000 in
theorem lw_op_told {p : Program} {l : Launch} {e : Env} {s : State} {m : MethodId} {args : Array Value} {below : List Frame} {meth : Method} {c : Code} {Q : State → Prop} {D : va_G} {cs : Nat → ClassId} {aC aM : Nat → Nat} {w b L n : Nat} {xs : Nat → Int32} (hfl : l.flags = flags0) (K : Lx p m c code 7 s args "WearHoursLaw" D cs (lA s)) (hA : LA s aC aM w) (hX : va_X b L xs s s.heap) (hbl : b < s.heap.size) (hL : L ≤ 2560) (hn : 5 * n + 5 ≤ L)
    (kx : ∀ (v u : Nat → Nat → Int32) (sd : Int64) (f : Nat → Int64) (H : Heap) (l1 : List Loc) (ls : Array Slot), LI s D cs aC aM w v u sd f H → RL v u → va_S (lA s) s.heap H l1 → lv_has ls 7 [(0, .ref b), (1, .ref (aC 0)), (2, .ref (aM 0)), (3, .ref w), (4, .int (nI (5 * n)))] → W p l e room_1 s m args below meth c H l1 (100 + 3 * n + 3) (1000 + 18 * n + 18) Q (F0 m 1100 ls [])) : ∀ (v u : Nat → Nat → Int32) (sd : Int64) (f : Nat → Int64) (H : Heap) (l1 : List Loc) (ls : Array Slot), LI s D cs aC aM w v u sd f H → RL v u → va_S (lA s) s.heap H l1 → lv_has ls 7 [(0, .ref b), (1, .ref (aC 0)), (2, .ref (aM 0)), (3, .ref w), (4, .int (nI (5 * n)))] → W p l e room_1 s m args below meth c H l1 (100 + 3 * n) (1000 + 18 * n) Q (F0 m 307 ls []) := by
  intro v u sd f H l1 ls hI hRL hS hl
  obtain ⟨hP, hMP, hO⟩ := hI
  obtain ⟨tc, d, gc, pc, rc, hRA0⟩ := hRL
  have hRA : RA v u tc d gc pc rc := hRA0
  have htc := hRA.1.2.1
  have htcM := hRA.1.2.2.1
  have ht8 := hRA.1.1
  have hRP := hRA.2.2.1
  have hg6 := hRP.1
  have hp4 := hRP.2.1
  have hr5 := hRP.2.2.1
  have hD := hRP.2.2.2.1
  have hMR := hRP.2.2.2.2.2.1
  have hgc := hRP.2.2.2.2.2.2.1.1
  have hpc := hRP.2.2.2.2.2.2.1.2.1
  have hrc := hRP.2.2.2.2.2.2.1.2.2
  have hgcM := hMR.2.2.2.2.2.1
  have hpcM := hMR.2.2.2.2.2.2.1
  have hrcM := hMR.2.2.2.2.2.2.2
  have hPI := hRA.PI
  have hSK := hRA.SK
  have hMI := hRA.MI
  have hdv := hRA.dv
  refine lv_aload_n K.hx K.hb d_Z_law_307 rfl (lv_at hl 1 rfl) ?_
  refine lv_aload_n K.hx K.hb d_Z_law_308 rfl (lv_at hl 0 rfl) ?_
  refine lv_iload K.hx K.hb d_Z_law_309 (lv_at hl 4 rfl) ?_
  refine lv_iconst (v := 1) K.hx K.hb d_Z_law_311 (by decide) ?_
  refine lv_iadd K.hx K.hb d_Z_law_312 ?_
  refine lv_topE (y := nI (5 * n + 1)) (nI_add _ _) ?_
  refine zc_sld K hX hbl hS (5 * n + 1) rfl (by omega) (by omega) d_Z_law_313 ?_
  refine lv_aload_n K.hx K.hb d_Z_law_314 rfl (lv_at hl 0 rfl) ?_
  refine lv_iload K.hx K.hb d_Z_law_315 (lv_at hl 4 rfl) ?_
  refine lv_iconst (v := 2) K.hx K.hb d_Z_law_317 (by decide) ?_
  refine lv_iadd K.hx K.hb d_Z_law_318 ?_
  refine lv_topE (y := nI (5 * n + 2)) (nI_add _ _) ?_
  refine zc_sld K hX hbl hS (5 * n + 2) rfl (by omega) (by omega) d_Z_law_319 ?_
  refine lv_aload_n K.hx K.hb d_Z_law_320 rfl (lv_at hl 3 rfl) ?_
  refine zc_Z K hA.1 hP hO hA.2.2.2.2.2.1 hS (hA.sC hS) hA.2.2.2.2.1 (c_Z_told l D cs aC w v sd hfl htc ht8 (xs (5 * n + 1)) (xs (5 * n + 2))) kw_471 xm_Z_told kw_469 kw_470 kw_21 rfl hl.1 d_Z_law_321 (Nat.le_of_ble_eq_true rfl) (Nat.le_of_ble_eq_true rfl) ⟨by show 100 + 3 * n + 2 ≤ 669350; omega, by show 1000 + 18 * n + 12 ≤ 7088055; omega⟩ (fun k a v1 sd1 f1 H l1 hZo hP hO hf1 hk hS => ?_)
  have hMP := hA.kM hMP hk
  refine lv_istore (lv' := [(5, .int k), (0, .ref b), (1, .ref (aC 0)), (2, .ref (aM 0)), (3, .ref w), (4, .int (nI (5 * n)))]) K.hx K.hb d_Z_law_324 hl (by decide) rfl (fun ls hl => ?_)
  refine lv_aload_n K.hx K.hb d_Z_law_326 rfl (lv_at hl 3 rfl) ?_
  refine lv_aload_n K.hx K.hb d_Z_law_327 rfl (lv_at hl 1 rfl) ?_
  refine lv_iload K.hx K.hb d_Z_law_328 (lv_at hl 5 rfl) ?_
  refine lv_iconst (v := 1) K.hx K.hb d_Z_law_330 (by decide) ?_
  refine lv_iadd K.hx K.hb d_Z_law_331 ?_
  refine lv_topE (y := nI (5 * n + 1)) (nI_add _ _) ?_
  refine zc_sld K hX hbl hS (5 * n + 1) rfl (by omega) (by omega) d_Z_law_332 ?_
  refine lv_aload_n K.hx K.hb d_Z_law_333 rfl (lv_at hl 1 rfl) ?_
  refine lv_iload K.hx K.hb d_Z_law_334 (lv_at hl 5 rfl) ?_
  refine lv_iconst (v := 2) K.hx K.hb d_Z_law_336 (by decide) ?_
  refine lv_iadd K.hx K.hb d_Z_law_337 ?_
  refine lv_topE (y := nI (5 * n + 2)) (nI_add _ _) ?_
  refine zc_sld K hX hbl hS (5 * n + 2) rfl (by omega) (by omega) d_Z_law_338 ?_
  refine zc_M K hA.2.1 hMP hS (hA.sM hS) (k_M_told l D cs aM u sd htcM ht8 (xs (5 * n + 1)) (xs (5 * n + 2))) kw_771 xm_M_told kw_768 kw_769 kw_770 rfl hl.1 d_Z_law_339 (Nat.le_of_ble_eq_true rfl) (Nat.le_of_ble_eq_true rfl) ⟨by show 100 + 3 * n + 2 + 0 ≤ 669350; omega, by show 1000 + 18 * n + 12 + 0 ≤ 7088055; omega⟩ (fun r u1 sd2 H l1 hm hMP hk hS => ?_)
  have hP := hA.kC hP hk
  have hO := hA.kO hO hk
  obtain ⟨bb, rfl⟩ : ∃ bb, r = some (.int bb) := by rcases hm with ⟨_, _, _, _, h, _⟩ | ⟨_, h, _⟩ <;> exact ⟨_, h⟩
  obtain ⟨hg1, hg2, hg3, hg4⟩ := m_told hRA hZo hm
  subst hg3
  refine lv_istore (lv' := [(6, .int bb), (5, .int k), (0, .ref b), (1, .ref (aC 0)), (2, .ref (aM 0)), (3, .ref w), (4, .int (nI (5 * n)))]) K.hx K.hb d_Z_law_342 hl (by decide) rfl (fun ls hl => ?_)
  refine lv_aload_n K.hx K.hb d_Z_law_344 rfl (lv_at hl 4 rfl) ?_
  refine zc_M K hA.2.1 hMP hS (hA.sM hS) (c_M_thrown l D cs aM u1 sd1) kw_735 xm_M_thrown kw_732 kw_733 kw_734 rfl hl.1 d_Z_law_345 (Nat.le_of_ble_eq_true rfl) (Nat.le_of_ble_eq_true rfl) ⟨by show 100 + 3 * n + 2 + 0 + 0 ≤ 669350; omega, by show 1000 + 18 * n + 12 + 0 + 0 ≤ 7088055; omega⟩ (fun r u3 sd3 H l1 hth hMP hk hS => ?_)
  have hP := hA.kC hP hk
  have hO := hA.kO hO hk
  obtain ⟨rfl, rfl, rfl⟩ := hth
  refine lv_iload K.hx K.hb d_Z_law_348 (lv_at hl 1 rfl) ?_
  refine lv_icmp_eq (tgt := 355) K.hx K.hb d_Z_law_350 (by decide) (fun c_350 => ?_) (fun c_350 => (absurd hg1 c_350))
  refine lv_iload K.hx K.hb d_Z_law_355 (lv_at hl 1 rfl) ?_
  refine lv_if_ne (tgt := 372) K.hx K.hb d_Z_law_357 (by decide) (fun c_357 => ?_) (fun c_357 => ?_)
  · refine lv_goto (tgt := 1100) K.hx K.hb d_Z_law_372 (by decide) ?_
    exact W.widen (by show 100 + 3 * n + 2 + 0 + 0 ≤ 100 + 3 * n + 3; omega) (by show 1000 + 18 * n + 12 + 0 + 0 ≤ 1000 + 18 * n + 18; omega) (kx v1 u1 sd1 f1 H l1 ls ⟨hP, hMP, hO⟩ hg4 hS (lv_sub hl [2, 3, 4, 5, 6] rfl))
  · refine lv_aload_n K.hx K.hb d_Z_law_360 rfl (lv_at hl 5 rfl) ?_
    refine lv_iconst (v := 0) K.hx K.hb d_Z_law_361 (by decide) ?_
    refine zc_lald K hO d_Z_law_362 ?_
    refine lv_iload K.hx K.hb d_Z_law_363 (lv_at hl 0 rfl) ?_
    refine lv_i2l K.hx K.hb d_Z_law_365 rfl ?_
    refine W.lcmp K.hx K.hb d_Z_law_366 ?_
    refine lv_topE (y := 0) (by rw [hf1 c_357, show a = bb from by have h9 := hg2 c_357; injection h9 with h9; injection h9]; simp [lg_cmp]) ?_
    refine lv_if_eq (tgt := 372) K.hx K.hb d_Z_law_367 (by decide) (fun _ => ?_) (fun c_367 => (show False from by revert c_367; decide).elim)
    refine lv_goto (tgt := 1100) K.hx K.hb d_Z_law_372 (by decide) ?_
    exact W.widen (by show 100 + 3 * n + 2 + 0 + 0 ≤ 100 + 3 * n + 3; omega) (by show 1000 + 18 * n + 12 + 0 + 0 ≤ 1000 + 18 * n + 18; omega) (kx v1 u1 sd1 f1 H l1 ls ⟨hP, hMP, hO⟩ hg4 hS (lv_sub hl [2, 3, 4, 5, 6] rfl))
set_option maxHeartbeats 4000000 in
set_option maxRecDepth 100000 in
theorem lw_op_left {p : Program} {l : Launch} {e : Env} {s : State} {m : MethodId} {args : Array Value} {below : List Frame} {meth : Method} {c : Code} {Q : State → Prop} {D : va_G} {cs : Nat → ClassId} {aC aM : Nat → Nat} {w b L n : Nat} {xs : Nat → Int32} (hfl : l.flags = flags0) (K : Lx p m c code 7 s args "WearHoursLaw" D cs (lA s)) (hA : LA s aC aM w) (hX : va_X b L xs s s.heap) (hbl : b < s.heap.size) (hL : L ≤ 2560) (hn : 5 * n + 5 ≤ L)
    (kx : ∀ (v u : Nat → Nat → Int32) (sd : Int64) (f : Nat → Int64) (H : Heap) (l1 : List Loc) (ls : Array Slot), LI s D cs aC aM w v u sd f H → RL v u → va_S (lA s) s.heap H l1 → lv_has ls 7 [(0, .ref b), (1, .ref (aC 0)), (2, .ref (aM 0)), (3, .ref w), (4, .int (nI (5 * n)))] → W p l e room_1 s m args below meth c H l1 (100 + 3 * n + 3) (1000 + 18 * n + 18) Q (F0 m 1100 ls [])) : ∀ (v u : Nat → Nat → Int32) (sd : Int64) (f : Nat → Int64) (H : Heap) (l1 : List Loc) (ls : Array Slot), LI s D cs aC aM w v u sd f H → RL v u → va_S (lA s) s.heap H l1 → lv_has ls 7 [(0, .ref b), (1, .ref (aC 0)), (2, .ref (aM 0)), (3, .ref w), (4, .int (nI (5 * n)))] → W p l e room_1 s m args below meth c H l1 (100 + 3 * n) (1000 + 18 * n) Q (F0 m 375 ls []) := by
  intro v u sd f H l1 ls hI hRL hS hl
  obtain ⟨hP, hMP, hO⟩ := hI
  obtain ⟨tc, d, gc, pc, rc, hRA0⟩ := hRL
  have hRA : RA v u tc d gc pc rc := hRA0
  have htc := hRA.1.2.1
  have htcM := hRA.1.2.2.1
  have ht8 := hRA.1.1
  have hRP := hRA.2.2.1
  have hg6 := hRP.1
  have hp4 := hRP.2.1
  have hr5 := hRP.2.2.1
  have hD := hRP.2.2.2.1
  have hMR := hRP.2.2.2.2.2.1
  have hgc := hRP.2.2.2.2.2.2.1.1
  have hpc := hRP.2.2.2.2.2.2.1.2.1
  have hrc := hRP.2.2.2.2.2.2.1.2.2
  have hgcM := hMR.2.2.2.2.2.1
  have hpcM := hMR.2.2.2.2.2.2.1
  have hrcM := hMR.2.2.2.2.2.2.2
  have hPI := hRA.PI
  have hSK := hRA.SK
  have hMI := hRA.MI
  have hdv := hRA.dv
  refine lv_aload_n K.hx K.hb d_Z_law_375 rfl (lv_at hl 1 rfl) ?_
  refine lv_aload_n K.hx K.hb d_Z_law_376 rfl (lv_at hl 0 rfl) ?_
  refine lv_iload K.hx K.hb d_Z_law_377 (lv_at hl 4 rfl) ?_
  refine lv_iconst (v := 1) K.hx K.hb d_Z_law_379 (by decide) ?_
  refine lv_iadd K.hx K.hb d_Z_law_380 ?_
  refine lv_topE (y := nI (5 * n + 1)) (nI_add _ _) ?_
  refine zc_sld K hX hbl hS (5 * n + 1) rfl (by omega) (by omega) d_Z_law_381 ?_
  refine lv_aload_n K.hx K.hb d_Z_law_382 rfl (lv_at hl 0 rfl) ?_
  refine lv_iload K.hx K.hb d_Z_law_383 (lv_at hl 4 rfl) ?_
  refine lv_iconst (v := 2) K.hx K.hb d_Z_law_385 (by decide) ?_
  refine lv_iadd K.hx K.hb d_Z_law_386 ?_
  refine lv_topE (y := nI (5 * n + 2)) (nI_add _ _) ?_
  refine zc_sld K hX hbl hS (5 * n + 2) rfl (by omega) (by omega) d_Z_law_387 ?_
  refine lv_aload_n K.hx K.hb d_Z_law_388 rfl (lv_at hl 3 rfl) ?_
  refine zc_Z K hA.1 hP hO hA.2.2.2.2.2.1 hS (hA.sC hS) hA.2.2.2.2.1 (c_Z_left l D cs aC w v sd hfl htc ht8 (xs (5 * n + 1)) (xs (5 * n + 2))) kw_487 xm_Z_left kw_485 kw_486 kw_21 rfl hl.1 d_Z_law_389 (Nat.le_of_ble_eq_true rfl) (Nat.le_of_ble_eq_true rfl) ⟨by show 100 + 3 * n + 2 ≤ 669350; omega, by show 1000 + 18 * n + 12 ≤ 7088055; omega⟩ (fun k a v1 sd1 f1 H l1 hZo hP hO hf1 hk hS => ?_)
  have hMP := hA.kM hMP hk
  refine lv_istore (lv' := [(5, .int k), (0, .ref b), (1, .ref (aC 0)), (2, .ref (aM 0)), (3, .ref w), (4, .int (nI (5 * n)))]) K.hx K.hb d_Z_law_392 hl (by decide) rfl (fun ls hl => ?_)
  refine lv_aload_n K.hx K.hb d_Z_law_394 rfl (lv_at hl 3 rfl) ?_
  refine lv_aload_n K.hx K.hb d_Z_law_395 rfl (lv_at hl 1 rfl) ?_
  refine lv_iload K.hx K.hb d_Z_law_396 (lv_at hl 5 rfl) ?_
  refine lv_iconst (v := 1) K.hx K.hb d_Z_law_398 (by decide) ?_
  refine lv_iadd K.hx K.hb d_Z_law_399 ?_
  refine lv_topE (y := nI (5 * n + 1)) (nI_add _ _) ?_
  refine zc_sld K hX hbl hS (5 * n + 1) rfl (by omega) (by omega) d_Z_law_400 ?_
  refine lv_aload_n K.hx K.hb d_Z_law_401 rfl (lv_at hl 1 rfl) ?_
  refine lv_iload K.hx K.hb d_Z_law_402 (lv_at hl 5 rfl) ?_
  refine lv_iconst (v := 2) K.hx K.hb d_Z_law_404 (by decide) ?_
  refine lv_iadd K.hx K.hb d_Z_law_405 ?_
  refine lv_topE (y := nI (5 * n + 2)) (nI_add _ _) ?_
  refine zc_sld K hX hbl hS (5 * n + 2) rfl (by omega) (by omega) d_Z_law_406 ?_
  refine zc_M K hA.2.1 hMP hS (hA.sM hS) (k_M_left l D cs aM u sd htcM ht8 (xs (5 * n + 1)) (xs (5 * n + 2))) kw_775 xm_M_left kw_772 kw_773 kw_774 rfl hl.1 d_Z_law_407 (Nat.le_of_ble_eq_true rfl) (Nat.le_of_ble_eq_true rfl) ⟨by show 100 + 3 * n + 2 + 0 ≤ 669350; omega, by show 1000 + 18 * n + 12 + 0 ≤ 7088055; omega⟩ (fun r u1 sd2 H l1 hm hMP hk hS => ?_)
  have hP := hA.kC hP hk
  have hO := hA.kO hO hk
  obtain ⟨bb, rfl⟩ : ∃ bb, r = some (.int bb) := by rcases hm with ⟨_, _, _, _, h, _⟩ | ⟨_, h, _⟩ | ⟨_, _, h, _⟩ <;> exact ⟨_, h⟩
  obtain ⟨hg1, hg2, hg3, hg4⟩ := m_left hRA hZo hm
  subst hg3
  refine lv_istore (lv' := [(6, .int bb), (5, .int k), (0, .ref b), (1, .ref (aC 0)), (2, .ref (aM 0)), (3, .ref w), (4, .int (nI (5 * n)))]) K.hx K.hb d_Z_law_410 hl (by decide) rfl (fun ls hl => ?_)
  refine lv_aload_n K.hx K.hb d_Z_law_412 rfl (lv_at hl 4 rfl) ?_
  refine zc_M K hA.2.1 hMP hS (hA.sM hS) (c_M_thrown l D cs aM u1 sd1) kw_735 xm_M_thrown kw_732 kw_733 kw_734 rfl hl.1 d_Z_law_413 (Nat.le_of_ble_eq_true rfl) (Nat.le_of_ble_eq_true rfl) ⟨by show 100 + 3 * n + 2 + 0 + 0 ≤ 669350; omega, by show 1000 + 18 * n + 12 + 0 + 0 ≤ 7088055; omega⟩ (fun r u3 sd3 H l1 hth hMP hk hS => ?_)
  have hP := hA.kC hP hk
  have hO := hA.kO hO hk
  obtain ⟨rfl, rfl, rfl⟩ := hth
  refine lv_iload K.hx K.hb d_Z_law_416 (lv_at hl 1 rfl) ?_
  refine lv_icmp_eq (tgt := 423) K.hx K.hb d_Z_law_418 (by decide) (fun c_418 => ?_) (fun c_418 => (absurd hg1 c_418))
  refine lv_iload K.hx K.hb d_Z_law_423 (lv_at hl 1 rfl) ?_
  refine lv_if_ne (tgt := 440) K.hx K.hb d_Z_law_425 (by decide) (fun c_425 => ?_) (fun c_425 => ?_)
  · refine lv_goto (tgt := 1100) K.hx K.hb d_Z_law_440 (by decide) ?_
    exact W.widen (by show 100 + 3 * n + 2 + 0 + 0 ≤ 100 + 3 * n + 3; omega) (by show 1000 + 18 * n + 12 + 0 + 0 ≤ 1000 + 18 * n + 18; omega) (kx v1 u1 sd1 f1 H l1 ls ⟨hP, hMP, hO⟩ hg4 hS (lv_sub hl [2, 3, 4, 5, 6] rfl))
  · refine lv_aload_n K.hx K.hb d_Z_law_428 rfl (lv_at hl 5 rfl) ?_
    refine lv_iconst (v := 0) K.hx K.hb d_Z_law_429 (by decide) ?_
    refine zc_lald K hO d_Z_law_430 ?_
    refine lv_iload K.hx K.hb d_Z_law_431 (lv_at hl 0 rfl) ?_
    refine lv_i2l K.hx K.hb d_Z_law_433 rfl ?_
    refine W.lcmp K.hx K.hb d_Z_law_434 ?_
    refine lv_topE (y := 0) (by rw [hf1 c_425, show a = bb from by have h9 := hg2 c_425; injection h9 with h9; injection h9]; simp [lg_cmp]) ?_
    refine lv_if_eq (tgt := 440) K.hx K.hb d_Z_law_435 (by decide) (fun _ => ?_) (fun c_435 => (show False from by revert c_435; decide).elim)
    refine lv_goto (tgt := 1100) K.hx K.hb d_Z_law_440 (by decide) ?_
    exact W.widen (by show 100 + 3 * n + 2 + 0 + 0 ≤ 100 + 3 * n + 3; omega) (by show 1000 + 18 * n + 12 + 0 + 0 ≤ 1000 + 18 * n + 18; omega) (kx v1 u1 sd1 f1 H l1 ls ⟨hP, hMP, hO⟩ hg4 hS (lv_sub hl [2, 3, 4, 5, 6] rfl))
set_option maxHeartbeats 4000000 in
set_option maxRecDepth 100000 in
theorem lw_op_permit {p : Program} {l : Launch} {e : Env} {s : State} {m : MethodId} {args : Array Value} {below : List Frame} {meth : Method} {c : Code} {Q : State → Prop} {D : va_G} {cs : Nat → ClassId} {aC aM : Nat → Nat} {w b L n : Nat} {xs : Nat → Int32} (hfl : l.flags = flags0) (K : Lx p m c code 7 s args "WearHoursLaw" D cs (lA s)) (hA : LA s aC aM w) (hX : va_X b L xs s s.heap) (hbl : b < s.heap.size) (hL : L ≤ 2560) (hn : 5 * n + 5 ≤ L)
    (kx : ∀ (v u : Nat → Nat → Int32) (sd : Int64) (f : Nat → Int64) (H : Heap) (l1 : List Loc) (ls : Array Slot), LI s D cs aC aM w v u sd f H → RL v u → va_S (lA s) s.heap H l1 → lv_has ls 7 [(0, .ref b), (1, .ref (aC 0)), (2, .ref (aM 0)), (3, .ref w), (4, .int (nI (5 * n)))] → W p l e room_1 s m args below meth c H l1 (100 + 3 * n + 3) (1000 + 18 * n + 18) Q (F0 m 1100 ls [])) : ∀ (v u : Nat → Nat → Int32) (sd : Int64) (f : Nat → Int64) (H : Heap) (l1 : List Loc) (ls : Array Slot), LI s D cs aC aM w v u sd f H → RL v u → va_S (lA s) s.heap H l1 → lv_has ls 7 [(0, .ref b), (1, .ref (aC 0)), (2, .ref (aM 0)), (3, .ref w), (4, .int (nI (5 * n)))] → W p l e room_1 s m args below meth c H l1 (100 + 3 * n) (1000 + 18 * n) Q (F0 m 443 ls []) := by
  intro v u sd f H l1 ls hI hRL hS hl
  obtain ⟨hP, hMP, hO⟩ := hI
  obtain ⟨tc, d, gc, pc, rc, hRA0⟩ := hRL
  have hRA : RA v u tc d gc pc rc := hRA0
  have htc := hRA.1.2.1
  have htcM := hRA.1.2.2.1
  have ht8 := hRA.1.1
  have hRP := hRA.2.2.1
  have hg6 := hRP.1
  have hp4 := hRP.2.1
  have hr5 := hRP.2.2.1
  have hD := hRP.2.2.2.1
  have hMR := hRP.2.2.2.2.2.1
  have hgc := hRP.2.2.2.2.2.2.1.1
  have hpc := hRP.2.2.2.2.2.2.1.2.1
  have hrc := hRP.2.2.2.2.2.2.1.2.2
  have hgcM := hMR.2.2.2.2.2.1
  have hpcM := hMR.2.2.2.2.2.2.1
  have hrcM := hMR.2.2.2.2.2.2.2
  have hPI := hRA.PI
  have hSK := hRA.SK
  have hMI := hRA.MI
  have hdv := hRA.dv
  refine lv_aload_n K.hx K.hb d_Z_law_443 rfl (lv_at hl 1 rfl) ?_
  refine lv_aload_n K.hx K.hb d_Z_law_444 rfl (lv_at hl 0 rfl) ?_
  refine lv_iload K.hx K.hb d_Z_law_445 (lv_at hl 4 rfl) ?_
  refine lv_iconst (v := 1) K.hx K.hb d_Z_law_447 (by decide) ?_
  refine lv_iadd K.hx K.hb d_Z_law_448 ?_
  refine lv_topE (y := nI (5 * n + 1)) (nI_add _ _) ?_
  refine zc_sld K hX hbl hS (5 * n + 1) rfl (by omega) (by omega) d_Z_law_449 ?_
  refine lv_aload_n K.hx K.hb d_Z_law_450 rfl (lv_at hl 0 rfl) ?_
  refine lv_iload K.hx K.hb d_Z_law_451 (lv_at hl 4 rfl) ?_
  refine lv_iconst (v := 2) K.hx K.hb d_Z_law_453 (by decide) ?_
  refine lv_iadd K.hx K.hb d_Z_law_454 ?_
  refine lv_topE (y := nI (5 * n + 2)) (nI_add _ _) ?_
  refine zc_sld K hX hbl hS (5 * n + 2) rfl (by omega) (by omega) d_Z_law_455 ?_
  refine lv_if_eq (tgt := 463) K.hx K.hb d_Z_law_456 (by decide) (fun c_456 => ?_) (fun c_456 => ?_)
  · refine lv_iconst (v := 0) K.hx K.hb d_Z_law_463 (by decide) ?_
    refine zc_Zv K hA.1 hP hS (hA.sC hS) (c_Z_permit l D cs aC v sd hfl htc ht8 (xs (5 * n + 1)) 0 (by first | exact Or.inl rfl | exact Or.inr rfl)) kw_506 xm_Z_permit kw_504 kw_505 kw_21 rfl hl.1 d_Z_law_464 (Nat.le_of_ble_eq_true rfl) (Nat.le_of_ble_eq_true rfl) ⟨by show 100 + 3 * n + 2 ≤ 669350; omega, by show 1000 + 18 * n + 12 ≤ 7088055; omega⟩ (fun k v1 sd1 H l1 hZo hP hk hS => ?_)
    have hMP := hA.kM hMP (fun q h1 h2 => hk q h1 (fun h3 => h2 (Or.inl h3)))
    have hO := hA.kO2 hO hk
    refine lv_istore (lv' := [(5, .int k), (0, .ref b), (1, .ref (aC 0)), (2, .ref (aM 0)), (3, .ref w), (4, .int (nI (5 * n)))]) K.hx K.hb d_Z_law_467 hl (by decide) rfl (fun ls hl => ?_)
    refine lv_aload_n K.hx K.hb d_Z_law_469 rfl (lv_at hl 3 rfl) ?_
    refine lv_aload_n K.hx K.hb d_Z_law_470 rfl (lv_at hl 1 rfl) ?_
    refine lv_iload K.hx K.hb d_Z_law_471 (lv_at hl 5 rfl) ?_
    refine lv_iconst (v := 1) K.hx K.hb d_Z_law_473 (by decide) ?_
    refine lv_iadd K.hx K.hb d_Z_law_474 ?_
    refine lv_topE (y := nI (5 * n + 1)) (nI_add _ _) ?_
    refine zc_sld K hX hbl hS (5 * n + 1) rfl (by omega) (by omega) d_Z_law_475 ?_
    refine lv_aload_n K.hx K.hb d_Z_law_476 rfl (lv_at hl 1 rfl) ?_
    refine lv_iload K.hx K.hb d_Z_law_477 (lv_at hl 5 rfl) ?_
    refine lv_iconst (v := 2) K.hx K.hb d_Z_law_479 (by decide) ?_
    refine lv_iadd K.hx K.hb d_Z_law_480 ?_
    refine lv_topE (y := nI (5 * n + 2)) (nI_add _ _) ?_
    refine zc_sld K hX hbl hS (5 * n + 2) rfl (by omega) (by omega) d_Z_law_481 ?_
    refine lv_if_eq (tgt := 489) K.hx K.hb d_Z_law_482 (by decide) (fun c_482 => ?_) (fun c_482 => (absurd c_456 c_482))
    refine lv_iconst (v := 0) K.hx K.hb d_Z_law_489 (by decide) ?_
    refine zc_M K hA.2.1 hMP hS (hA.sM hS) (k_M_permit l D cs aM u sd htcM ht8 (xs (5 * n + 1)) 0) kw_787 xm_M_permit kw_784 kw_785 kw_786 rfl hl.1 d_Z_law_490 (Nat.le_of_ble_eq_true rfl) (Nat.le_of_ble_eq_true rfl) ⟨by show 100 + 3 * n + 2 + 0 ≤ 669350; omega, by show 1000 + 18 * n + 12 + 0 ≤ 7088055; omega⟩ (fun r u1 sd2 H l1 hm hMP hk hS => ?_)
    have hP := hA.kC hP hk
    have hO := hA.kO hO hk
    obtain rfl : r = none := by rcases hm with ⟨_, _, _, _, h, _⟩ | ⟨_, h, _⟩ | ⟨_, _, _, _, h, _⟩ <;> exact h
    obtain ⟨hg1, hg2, hg3, hg4⟩ := m_permit hRA (by first | exact Or.inl rfl | exact Or.inr rfl) hZo hm
    subst hg3
    refine lv_aload_n K.hx K.hb d_Z_law_493 rfl (lv_at hl 3 rfl) ?_
    refine zc_M K hA.2.1 hMP hS (hA.sM hS) (c_M_thrown l D cs aM u1 sd1) kw_735 xm_M_thrown kw_732 kw_733 kw_734 rfl hl.1 d_Z_law_494 (Nat.le_of_ble_eq_true rfl) (Nat.le_of_ble_eq_true rfl) ⟨by show 100 + 3 * n + 2 + 0 + 0 ≤ 669350; omega, by show 1000 + 18 * n + 12 + 0 + 0 ≤ 7088055; omega⟩ (fun r u3 sd3 H l1 hth hMP hk hS => ?_)
    have hP := hA.kC hP hk
    have hO := hA.kO hO hk
    obtain ⟨rfl, rfl, rfl⟩ := hth
    refine lv_iload K.hx K.hb d_Z_law_497 (lv_at hl 0 rfl) ?_
    refine lv_icmp_eq (tgt := 504) K.hx K.hb d_Z_law_499 (by decide) (fun c_499 => ?_) (fun c_499 => (absurd hg1 c_499))
    refine lv_goto (tgt := 1100) K.hx K.hb d_Z_law_504 (by decide) ?_
    exact W.widen (by show 100 + 3 * n + 2 + 0 + 0 ≤ 100 + 3 * n + 3; omega) (by show 1000 + 18 * n + 12 + 0 + 0 ≤ 1000 + 18 * n + 18; omega) (kx v1 u1 sd1 f H l1 ls ⟨hP, hMP, hO⟩ hg4 hS (lv_sub hl [1, 2, 3, 4, 5] rfl))
  · refine lv_iconst (v := 1) K.hx K.hb d_Z_law_459 (by decide) ?_
    refine lv_goto (tgt := 464) K.hx K.hb d_Z_law_460 (by decide) ?_
    refine zc_Zv K hA.1 hP hS (hA.sC hS) (c_Z_permit l D cs aC v sd hfl htc ht8 (xs (5 * n + 1)) 1 (by first | exact Or.inl rfl | exact Or.inr rfl)) kw_506 xm_Z_permit kw_504 kw_505 kw_21 rfl hl.1 d_Z_law_464 (Nat.le_of_ble_eq_true rfl) (Nat.le_of_ble_eq_true rfl) ⟨by show 100 + 3 * n + 2 ≤ 669350; omega, by show 1000 + 18 * n + 12 ≤ 7088055; omega⟩ (fun k v1 sd1 H l1 hZo hP hk hS => ?_)
    have hMP := hA.kM hMP (fun q h1 h2 => hk q h1 (fun h3 => h2 (Or.inl h3)))
    have hO := hA.kO2 hO hk
    refine lv_istore (lv' := [(5, .int k), (0, .ref b), (1, .ref (aC 0)), (2, .ref (aM 0)), (3, .ref w), (4, .int (nI (5 * n)))]) K.hx K.hb d_Z_law_467 hl (by decide) rfl (fun ls hl => ?_)
    refine lv_aload_n K.hx K.hb d_Z_law_469 rfl (lv_at hl 3 rfl) ?_
    refine lv_aload_n K.hx K.hb d_Z_law_470 rfl (lv_at hl 1 rfl) ?_
    refine lv_iload K.hx K.hb d_Z_law_471 (lv_at hl 5 rfl) ?_
    refine lv_iconst (v := 1) K.hx K.hb d_Z_law_473 (by decide) ?_
    refine lv_iadd K.hx K.hb d_Z_law_474 ?_
    refine lv_topE (y := nI (5 * n + 1)) (nI_add _ _) ?_
    refine zc_sld K hX hbl hS (5 * n + 1) rfl (by omega) (by omega) d_Z_law_475 ?_
    refine lv_aload_n K.hx K.hb d_Z_law_476 rfl (lv_at hl 1 rfl) ?_
    refine lv_iload K.hx K.hb d_Z_law_477 (lv_at hl 5 rfl) ?_
    refine lv_iconst (v := 2) K.hx K.hb d_Z_law_479 (by decide) ?_
    refine lv_iadd K.hx K.hb d_Z_law_480 ?_
    refine lv_topE (y := nI (5 * n + 2)) (nI_add _ _) ?_
    refine zc_sld K hX hbl hS (5 * n + 2) rfl (by omega) (by omega) d_Z_law_481 ?_
    refine lv_if_eq (tgt := 489) K.hx K.hb d_Z_law_482 (by decide) (fun c_482 => (absurd c_482 c_456)) (fun c_482 => ?_)
    refine lv_iconst (v := 1) K.hx K.hb d_Z_law_485 (by decide) ?_
    refine lv_goto (tgt := 490) K.hx K.hb d_Z_law_486 (by decide) ?_
    refine zc_M K hA.2.1 hMP hS (hA.sM hS) (k_M_permit l D cs aM u sd htcM ht8 (xs (5 * n + 1)) 1) kw_787 xm_M_permit kw_784 kw_785 kw_786 rfl hl.1 d_Z_law_490 (Nat.le_of_ble_eq_true rfl) (Nat.le_of_ble_eq_true rfl) ⟨by show 100 + 3 * n + 2 + 0 ≤ 669350; omega, by show 1000 + 18 * n + 12 + 0 ≤ 7088055; omega⟩ (fun r u1 sd2 H l1 hm hMP hk hS => ?_)
    have hP := hA.kC hP hk
    have hO := hA.kO hO hk
    obtain rfl : r = none := by rcases hm with ⟨_, _, _, _, h, _⟩ | ⟨_, h, _⟩ | ⟨_, _, _, _, h, _⟩ <;> exact h
    obtain ⟨hg1, hg2, hg3, hg4⟩ := m_permit hRA (by first | exact Or.inl rfl | exact Or.inr rfl) hZo hm
    subst hg3
    refine lv_aload_n K.hx K.hb d_Z_law_493 rfl (lv_at hl 3 rfl) ?_
    refine zc_M K hA.2.1 hMP hS (hA.sM hS) (c_M_thrown l D cs aM u1 sd1) kw_735 xm_M_thrown kw_732 kw_733 kw_734 rfl hl.1 d_Z_law_494 (Nat.le_of_ble_eq_true rfl) (Nat.le_of_ble_eq_true rfl) ⟨by show 100 + 3 * n + 2 + 0 + 0 ≤ 669350; omega, by show 1000 + 18 * n + 12 + 0 + 0 ≤ 7088055; omega⟩ (fun r u3 sd3 H l1 hth hMP hk hS => ?_)
    have hP := hA.kC hP hk
    have hO := hA.kO hO hk
    obtain ⟨rfl, rfl, rfl⟩ := hth
    refine lv_iload K.hx K.hb d_Z_law_497 (lv_at hl 0 rfl) ?_
    refine lv_icmp_eq (tgt := 504) K.hx K.hb d_Z_law_499 (by decide) (fun c_499 => ?_) (fun c_499 => (absurd hg1 c_499))
    refine lv_goto (tgt := 1100) K.hx K.hb d_Z_law_504 (by decide) ?_
    exact W.widen (by show 100 + 3 * n + 2 + 0 + 0 ≤ 100 + 3 * n + 3; omega) (by show 1000 + 18 * n + 12 + 0 + 0 ≤ 1000 + 18 * n + 18; omega) (kx v1 u1 sd1 f H l1 ls ⟨hP, hMP, hO⟩ hg4 hS (lv_sub hl [1, 2, 3, 4, 5] rfl))
set_option maxHeartbeats 4000000 in
set_option maxRecDepth 100000 in
theorem lw_op_history {p : Program} {l : Launch} {e : Env} {s : State} {m : MethodId} {args : Array Value} {below : List Frame} {meth : Method} {c : Code} {Q : State → Prop} {D : va_G} {cs : Nat → ClassId} {aC aM : Nat → Nat} {w b L n : Nat} {xs : Nat → Int32} (hfl : l.flags = flags0) (K : Lx p m c code 7 s args "WearHoursLaw" D cs (lA s)) (hA : LA s aC aM w) (hX : va_X b L xs s s.heap) (hbl : b < s.heap.size) (hL : L ≤ 2560) (hn : 5 * n + 5 ≤ L)
    (kx : ∀ (v u : Nat → Nat → Int32) (sd : Int64) (f : Nat → Int64) (H : Heap) (l1 : List Loc) (ls : Array Slot), LI s D cs aC aM w v u sd f H → RL v u → va_S (lA s) s.heap H l1 → lv_has ls 7 [(0, .ref b), (1, .ref (aC 0)), (2, .ref (aM 0)), (3, .ref w), (4, .int (nI (5 * n)))] → W p l e room_1 s m args below meth c H l1 (100 + 3 * n + 3) (1000 + 18 * n + 18) Q (F0 m 1100 ls [])) : ∀ (v u : Nat → Nat → Int32) (sd : Int64) (f : Nat → Int64) (H : Heap) (l1 : List Loc) (ls : Array Slot), LI s D cs aC aM w v u sd f H → RL v u → va_S (lA s) s.heap H l1 → lv_has ls 7 [(0, .ref b), (1, .ref (aC 0)), (2, .ref (aM 0)), (3, .ref w), (4, .int (nI (5 * n)))] → W p l e room_1 s m args below meth c H l1 (100 + 3 * n) (1000 + 18 * n) Q (F0 m 507 ls []) := by
  intro v u sd f H l1 ls hI hRL hS hl
  obtain ⟨hP, hMP, hO⟩ := hI
  obtain ⟨tc, d, gc, pc, rc, hRA0⟩ := hRL
  have hRA : RA v u tc d gc pc rc := hRA0
  have htc := hRA.1.2.1
  have htcM := hRA.1.2.2.1
  have ht8 := hRA.1.1
  have hRP := hRA.2.2.1
  have hg6 := hRP.1
  have hp4 := hRP.2.1
  have hr5 := hRP.2.2.1
  have hD := hRP.2.2.2.1
  have hMR := hRP.2.2.2.2.2.1
  have hgc := hRP.2.2.2.2.2.2.1.1
  have hpc := hRP.2.2.2.2.2.2.1.2.1
  have hrc := hRP.2.2.2.2.2.2.1.2.2
  have hgcM := hMR.2.2.2.2.2.1
  have hpcM := hMR.2.2.2.2.2.2.1
  have hrcM := hMR.2.2.2.2.2.2.2
  have hPI := hRA.PI
  have hSK := hRA.SK
  have hMI := hRA.MI
  have hdv := hRA.dv
  refine lv_aload_n K.hx K.hb d_Z_law_507 rfl (lv_at hl 1 rfl) ?_
  refine lv_aload_n K.hx K.hb d_Z_law_508 rfl (lv_at hl 0 rfl) ?_
  refine lv_iload K.hx K.hb d_Z_law_509 (lv_at hl 4 rfl) ?_
  refine lv_iconst (v := 1) K.hx K.hb d_Z_law_511 (by decide) ?_
  refine lv_iadd K.hx K.hb d_Z_law_512 ?_
  refine lv_topE (y := nI (5 * n + 1)) (nI_add _ _) ?_
  refine zc_sld K hX hbl hS (5 * n + 1) rfl (by omega) (by omega) d_Z_law_513 ?_
  refine lv_aload_n K.hx K.hb d_Z_law_514 rfl (lv_at hl 0 rfl) ?_
  refine lv_iload K.hx K.hb d_Z_law_515 (lv_at hl 4 rfl) ?_
  refine lv_iconst (v := 2) K.hx K.hb d_Z_law_517 (by decide) ?_
  refine lv_iadd K.hx K.hb d_Z_law_518 ?_
  refine lv_topE (y := nI (5 * n + 2)) (nI_add _ _) ?_
  refine zc_sld K hX hbl hS (5 * n + 2) rfl (by omega) (by omega) d_Z_law_519 ?_
  refine lv_aload_n K.hx K.hb d_Z_law_520 rfl (lv_at hl 3 rfl) ?_
  refine zc_Z K hA.1 hP hO hA.2.2.2.2.2.1 hS (hA.sC hS) hA.2.2.2.2.1 (c_Z_history l D cs aC w v sd hfl htc ht8 (xs (5 * n + 1)) (xs (5 * n + 2))) kw_518 xm_Z_history kw_516 kw_517 kw_21 rfl hl.1 d_Z_law_521 (Nat.le_of_ble_eq_true rfl) (Nat.le_of_ble_eq_true rfl) ⟨by show 100 + 3 * n + 2 ≤ 669350; omega, by show 1000 + 18 * n + 12 ≤ 7088055; omega⟩ (fun k a v1 sd1 f1 H l1 hZo hP hO hf1 hk hS => ?_)
  have hMP := hA.kM hMP hk
  refine lv_istore (lv' := [(5, .int k), (0, .ref b), (1, .ref (aC 0)), (2, .ref (aM 0)), (3, .ref w), (4, .int (nI (5 * n)))]) K.hx K.hb d_Z_law_524 hl (by decide) rfl (fun ls hl => ?_)
  refine lv_aload_n K.hx K.hb d_Z_law_526 rfl (lv_at hl 3 rfl) ?_
  refine lv_aload_n K.hx K.hb d_Z_law_527 rfl (lv_at hl 1 rfl) ?_
  refine lv_iload K.hx K.hb d_Z_law_528 (lv_at hl 5 rfl) ?_
  refine lv_iconst (v := 1) K.hx K.hb d_Z_law_530 (by decide) ?_
  refine lv_iadd K.hx K.hb d_Z_law_531 ?_
  refine lv_topE (y := nI (5 * n + 1)) (nI_add _ _) ?_
  refine zc_sld K hX hbl hS (5 * n + 1) rfl (by omega) (by omega) d_Z_law_532 ?_
  refine lv_aload_n K.hx K.hb d_Z_law_533 rfl (lv_at hl 1 rfl) ?_
  refine lv_iload K.hx K.hb d_Z_law_534 (lv_at hl 5 rfl) ?_
  refine lv_iconst (v := 2) K.hx K.hb d_Z_law_536 (by decide) ?_
  refine lv_iadd K.hx K.hb d_Z_law_537 ?_
  refine lv_topE (y := nI (5 * n + 2)) (nI_add _ _) ?_
  refine zc_sld K hX hbl hS (5 * n + 2) rfl (by omega) (by omega) d_Z_law_538 ?_
  refine zc_M K hA.2.1 hMP hS (hA.sM hS) (k_M_history l D cs aM u sd htcM ht8 (xs (5 * n + 1)) (xs (5 * n + 2))) kw_791 xm_M_history kw_788 kw_789 kw_790 rfl hl.1 d_Z_law_539 (Nat.le_of_ble_eq_true rfl) (Nat.le_of_ble_eq_true rfl) ⟨by show 100 + 3 * n + 2 + 0 ≤ 669350; omega, by show 1000 + 18 * n + 12 + 0 ≤ 7088055; omega⟩ (fun r u1 sd2 H l1 hm hMP hk hS => ?_)
  have hP := hA.kC hP hk
  have hO := hA.kO hO hk
  obtain ⟨bb, rfl⟩ : ∃ bb, r = some (.int bb) := by rcases hm with ⟨_, _, _, _, h, _⟩ | ⟨_, h, _⟩ <;> exact ⟨_, h⟩
  obtain ⟨hg1, hg2, hg3, hg4⟩ := m_history hRA hZo hm
  subst hg3
  refine lv_istore (lv' := [(6, .int bb), (5, .int k), (0, .ref b), (1, .ref (aC 0)), (2, .ref (aM 0)), (3, .ref w), (4, .int (nI (5 * n)))]) K.hx K.hb d_Z_law_542 hl (by decide) rfl (fun ls hl => ?_)
  refine lv_aload_n K.hx K.hb d_Z_law_544 rfl (lv_at hl 4 rfl) ?_
  refine zc_M K hA.2.1 hMP hS (hA.sM hS) (c_M_thrown l D cs aM u1 sd1) kw_735 xm_M_thrown kw_732 kw_733 kw_734 rfl hl.1 d_Z_law_545 (Nat.le_of_ble_eq_true rfl) (Nat.le_of_ble_eq_true rfl) ⟨by show 100 + 3 * n + 2 + 0 + 0 ≤ 669350; omega, by show 1000 + 18 * n + 12 + 0 + 0 ≤ 7088055; omega⟩ (fun r u3 sd3 H l1 hth hMP hk hS => ?_)
  have hP := hA.kC hP hk
  have hO := hA.kO hO hk
  obtain ⟨rfl, rfl, rfl⟩ := hth
  refine lv_iload K.hx K.hb d_Z_law_548 (lv_at hl 1 rfl) ?_
  refine lv_icmp_eq (tgt := 555) K.hx K.hb d_Z_law_550 (by decide) (fun c_550 => ?_) (fun c_550 => (absurd hg1 c_550))
  refine lv_iload K.hx K.hb d_Z_law_555 (lv_at hl 1 rfl) ?_
  refine lv_if_ne (tgt := 572) K.hx K.hb d_Z_law_557 (by decide) (fun c_557 => ?_) (fun c_557 => ?_)
  · refine lv_goto (tgt := 1100) K.hx K.hb d_Z_law_572 (by decide) ?_
    exact W.widen (by show 100 + 3 * n + 2 + 0 + 0 ≤ 100 + 3 * n + 3; omega) (by show 1000 + 18 * n + 12 + 0 + 0 ≤ 1000 + 18 * n + 18; omega) (kx v1 u1 sd1 f1 H l1 ls ⟨hP, hMP, hO⟩ hg4 hS (lv_sub hl [2, 3, 4, 5, 6] rfl))
  · refine lv_aload_n K.hx K.hb d_Z_law_560 rfl (lv_at hl 5 rfl) ?_
    refine lv_iconst (v := 0) K.hx K.hb d_Z_law_561 (by decide) ?_
    refine zc_lald K hO d_Z_law_562 ?_
    refine lv_iload K.hx K.hb d_Z_law_563 (lv_at hl 0 rfl) ?_
    refine lv_i2l K.hx K.hb d_Z_law_565 rfl ?_
    refine W.lcmp K.hx K.hb d_Z_law_566 ?_
    refine lv_topE (y := 0) (by rw [hf1 c_557, show a = bb from by have h9 := hg2 c_557; injection h9 with h9; injection h9]; simp [lg_cmp]) ?_
    refine lv_if_eq (tgt := 572) K.hx K.hb d_Z_law_567 (by decide) (fun _ => ?_) (fun c_567 => (show False from by revert c_567; decide).elim)
    refine lv_goto (tgt := 1100) K.hx K.hb d_Z_law_572 (by decide) ?_
    exact W.widen (by show 100 + 3 * n + 2 + 0 + 0 ≤ 100 + 3 * n + 3; omega) (by show 1000 + 18 * n + 12 + 0 + 0 ≤ 1000 + 18 * n + 18; omega) (kx v1 u1 sd1 f1 H l1 ls ⟨hP, hMP, hO⟩ hg4 hS (lv_sub hl [2, 3, 4, 5, 6] rfl))
set_option maxHeartbeats 4000000 in
set_option maxRecDepth 100000 in
theorem lw_op_gap {p : Program} {l : Launch} {e : Env} {s : State} {m : MethodId} {args : Array Value} {below : List Frame} {meth : Method} {c : Code} {Q : State → Prop} {D : va_G} {cs : Nat → ClassId} {aC aM : Nat → Nat} {w b L n : Nat} {xs : Nat → Int32} (hfl : l.flags = flags0) (K : Lx p m c code 7 s args "WearHoursLaw" D cs (lA s)) (hA : LA s aC aM w) (hX : va_X b L xs s s.heap) (hbl : b < s.heap.size) (hL : L ≤ 2560) (hn : 5 * n + 5 ≤ L)
    (kx : ∀ (v u : Nat → Nat → Int32) (sd : Int64) (f : Nat → Int64) (H : Heap) (l1 : List Loc) (ls : Array Slot), LI s D cs aC aM w v u sd f H → RL v u → va_S (lA s) s.heap H l1 → lv_has ls 7 [(0, .ref b), (1, .ref (aC 0)), (2, .ref (aM 0)), (3, .ref w), (4, .int (nI (5 * n)))] → W p l e room_1 s m args below meth c H l1 (100 + 3 * n + 3) (1000 + 18 * n + 18) Q (F0 m 1100 ls [])) : ∀ (v u : Nat → Nat → Int32) (sd : Int64) (f : Nat → Int64) (H : Heap) (l1 : List Loc) (ls : Array Slot), LI s D cs aC aM w v u sd f H → RL v u → va_S (lA s) s.heap H l1 → lv_has ls 7 [(0, .ref b), (1, .ref (aC 0)), (2, .ref (aM 0)), (3, .ref w), (4, .int (nI (5 * n)))] → W p l e room_1 s m args below meth c H l1 (100 + 3 * n) (1000 + 18 * n) Q (F0 m 575 ls []) := by
  intro v u sd f H l1 ls hI hRL hS hl
  obtain ⟨hP, hMP, hO⟩ := hI
  obtain ⟨tc, d, gc, pc, rc, hRA0⟩ := hRL
  have hRA : RA v u tc d gc pc rc := hRA0
  have htc := hRA.1.2.1
  have htcM := hRA.1.2.2.1
  have ht8 := hRA.1.1
  have hRP := hRA.2.2.1
  have hg6 := hRP.1
  have hp4 := hRP.2.1
  have hr5 := hRP.2.2.1
  have hD := hRP.2.2.2.1
  have hMR := hRP.2.2.2.2.2.1
  have hgc := hRP.2.2.2.2.2.2.1.1
  have hpc := hRP.2.2.2.2.2.2.1.2.1
  have hrc := hRP.2.2.2.2.2.2.1.2.2
  have hgcM := hMR.2.2.2.2.2.1
  have hpcM := hMR.2.2.2.2.2.2.1
  have hrcM := hMR.2.2.2.2.2.2.2
  have hPI := hRA.PI
  have hSK := hRA.SK
  have hMI := hRA.MI
  have hdv := hRA.dv
  refine lv_aload_n K.hx K.hb d_Z_law_575 rfl (lv_at hl 1 rfl) ?_
  refine lv_aload_n K.hx K.hb d_Z_law_576 rfl (lv_at hl 0 rfl) ?_
  refine lv_iload K.hx K.hb d_Z_law_577 (lv_at hl 4 rfl) ?_
  refine lv_iconst (v := 1) K.hx K.hb d_Z_law_579 (by decide) ?_
  refine lv_iadd K.hx K.hb d_Z_law_580 ?_
  refine lv_topE (y := nI (5 * n + 1)) (nI_add _ _) ?_
  refine zc_sld K hX hbl hS (5 * n + 1) rfl (by omega) (by omega) d_Z_law_581 ?_
  refine lv_aload_n K.hx K.hb d_Z_law_582 rfl (lv_at hl 0 rfl) ?_
  refine lv_iload K.hx K.hb d_Z_law_583 (lv_at hl 4 rfl) ?_
  refine lv_iconst (v := 2) K.hx K.hb d_Z_law_585 (by decide) ?_
  refine lv_iadd K.hx K.hb d_Z_law_586 ?_
  refine lv_topE (y := nI (5 * n + 2)) (nI_add _ _) ?_
  refine zc_sld K hX hbl hS (5 * n + 2) rfl (by omega) (by omega) d_Z_law_587 ?_
  refine lv_aload_n K.hx K.hb d_Z_law_588 rfl (lv_at hl 3 rfl) ?_
  refine zc_Z K hA.1 hP hO hA.2.2.2.2.2.1 hS (hA.sC hS) hA.2.2.2.2.1 (c_Z_gap l D cs aC w v sd hfl hgc hg6 (xs (5 * n + 1)) (xs (5 * n + 2))) kw_530 xm_Z_gap kw_528 kw_529 kw_21 rfl hl.1 d_Z_law_589 (Nat.le_of_ble_eq_true rfl) (Nat.le_of_ble_eq_true rfl) ⟨by show 100 + 3 * n + 2 ≤ 669350; omega, by show 1000 + 18 * n + 12 ≤ 7088055; omega⟩ (fun k a v1 sd1 f1 H l1 hZo hP hO hf1 hk hS => ?_)
  have hMP := hA.kM hMP hk
  refine lv_istore (lv' := [(5, .int k), (0, .ref b), (1, .ref (aC 0)), (2, .ref (aM 0)), (3, .ref w), (4, .int (nI (5 * n)))]) K.hx K.hb d_Z_law_592 hl (by decide) rfl (fun ls hl => ?_)
  refine lv_aload_n K.hx K.hb d_Z_law_594 rfl (lv_at hl 3 rfl) ?_
  refine lv_aload_n K.hx K.hb d_Z_law_595 rfl (lv_at hl 1 rfl) ?_
  refine lv_iload K.hx K.hb d_Z_law_596 (lv_at hl 5 rfl) ?_
  refine lv_iconst (v := 1) K.hx K.hb d_Z_law_598 (by decide) ?_
  refine lv_iadd K.hx K.hb d_Z_law_599 ?_
  refine lv_topE (y := nI (5 * n + 1)) (nI_add _ _) ?_
  refine zc_sld K hX hbl hS (5 * n + 1) rfl (by omega) (by omega) d_Z_law_600 ?_
  refine lv_aload_n K.hx K.hb d_Z_law_601 rfl (lv_at hl 1 rfl) ?_
  refine lv_iload K.hx K.hb d_Z_law_602 (lv_at hl 5 rfl) ?_
  refine lv_iconst (v := 2) K.hx K.hb d_Z_law_604 (by decide) ?_
  refine lv_iadd K.hx K.hb d_Z_law_605 ?_
  refine lv_topE (y := nI (5 * n + 2)) (nI_add _ _) ?_
  refine zc_sld K hX hbl hS (5 * n + 2) rfl (by omega) (by omega) d_Z_law_606 ?_
  refine zc_M K hA.2.1 hMP hS (hA.sM hS) (k_M_gap l D cs aM u sd hgcM hg6 (xs (5 * n + 1)) (xs (5 * n + 2))) kw_795 xm_M_gap kw_792 kw_793 kw_794 rfl hl.1 d_Z_law_607 (Nat.le_of_ble_eq_true rfl) (Nat.le_of_ble_eq_true rfl) ⟨by show 100 + 3 * n + 2 + 0 ≤ 669350; omega, by show 1000 + 18 * n + 12 + 0 ≤ 7088055; omega⟩ (fun r u1 sd2 H l1 hm hMP hk hS => ?_)
  have hP := hA.kC hP hk
  have hO := hA.kO hO hk
  obtain ⟨bb, rfl⟩ : ∃ bb, r = some (.int bb) := by rcases hm with ⟨_, _, h, _⟩ | ⟨_, h, _⟩ | ⟨_, _, h, _⟩ <;> exact ⟨_, h⟩
  obtain ⟨hg1, hg2, hg3, hg4⟩ := m_gap hRA hZo hm
  subst hg3
  refine lv_istore (lv' := [(6, .int bb), (5, .int k), (0, .ref b), (1, .ref (aC 0)), (2, .ref (aM 0)), (3, .ref w), (4, .int (nI (5 * n)))]) K.hx K.hb d_Z_law_610 hl (by decide) rfl (fun ls hl => ?_)
  refine lv_aload_n K.hx K.hb d_Z_law_612 rfl (lv_at hl 4 rfl) ?_
  refine zc_M K hA.2.1 hMP hS (hA.sM hS) (c_M_thrown l D cs aM u1 sd1) kw_735 xm_M_thrown kw_732 kw_733 kw_734 rfl hl.1 d_Z_law_613 (Nat.le_of_ble_eq_true rfl) (Nat.le_of_ble_eq_true rfl) ⟨by show 100 + 3 * n + 2 + 0 + 0 ≤ 669350; omega, by show 1000 + 18 * n + 12 + 0 + 0 ≤ 7088055; omega⟩ (fun r u3 sd3 H l1 hth hMP hk hS => ?_)
  have hP := hA.kC hP hk
  have hO := hA.kO hO hk
  obtain ⟨rfl, rfl, rfl⟩ := hth
  refine lv_iload K.hx K.hb d_Z_law_616 (lv_at hl 1 rfl) ?_
  refine lv_icmp_eq (tgt := 623) K.hx K.hb d_Z_law_618 (by decide) (fun c_618 => ?_) (fun c_618 => (absurd hg1 c_618))
  refine lv_iload K.hx K.hb d_Z_law_623 (lv_at hl 1 rfl) ?_
  refine lv_if_ne (tgt := 640) K.hx K.hb d_Z_law_625 (by decide) (fun c_625 => ?_) (fun c_625 => ?_)
  · refine lv_goto (tgt := 1100) K.hx K.hb d_Z_law_640 (by decide) ?_
    exact W.widen (by show 100 + 3 * n + 2 + 0 + 0 ≤ 100 + 3 * n + 3; omega) (by show 1000 + 18 * n + 12 + 0 + 0 ≤ 1000 + 18 * n + 18; omega) (kx v1 u1 sd1 f1 H l1 ls ⟨hP, hMP, hO⟩ hg4 hS (lv_sub hl [2, 3, 4, 5, 6] rfl))
  · refine lv_aload_n K.hx K.hb d_Z_law_628 rfl (lv_at hl 5 rfl) ?_
    refine lv_iconst (v := 0) K.hx K.hb d_Z_law_629 (by decide) ?_
    refine zc_lald K hO d_Z_law_630 ?_
    refine lv_iload K.hx K.hb d_Z_law_631 (lv_at hl 0 rfl) ?_
    refine lv_i2l K.hx K.hb d_Z_law_633 rfl ?_
    refine W.lcmp K.hx K.hb d_Z_law_634 ?_
    refine lv_topE (y := 0) (by rw [hf1 c_625, show a = bb from by have h9 := hg2 c_625; injection h9 with h9; injection h9]; simp [lg_cmp]) ?_
    refine lv_if_eq (tgt := 640) K.hx K.hb d_Z_law_635 (by decide) (fun _ => ?_) (fun c_635 => (show False from by revert c_635; decide).elim)
    refine lv_goto (tgt := 1100) K.hx K.hb d_Z_law_640 (by decide) ?_
    exact W.widen (by show 100 + 3 * n + 2 + 0 + 0 ≤ 100 + 3 * n + 3; omega) (by show 1000 + 18 * n + 12 + 0 + 0 ≤ 1000 + 18 * n + 18; omega) (kx v1 u1 sd1 f1 H l1 ls ⟨hP, hMP, hO⟩ hg4 hS (lv_sub hl [2, 3, 4, 5, 6] rfl))
set_option maxHeartbeats 4000000 in
set_option maxRecDepth 100000 in
theorem lw_op_person {p : Program} {l : Launch} {e : Env} {s : State} {m : MethodId} {args : Array Value} {below : List Frame} {meth : Method} {c : Code} {Q : State → Prop} {D : va_G} {cs : Nat → ClassId} {aC aM : Nat → Nat} {w b L n : Nat} {xs : Nat → Int32} (hfl : l.flags = flags0) (K : Lx p m c code 7 s args "WearHoursLaw" D cs (lA s)) (hA : LA s aC aM w) (hX : va_X b L xs s s.heap) (hbl : b < s.heap.size) (hL : L ≤ 2560) (hn : 5 * n + 5 ≤ L)
    (kx : ∀ (v u : Nat → Nat → Int32) (sd : Int64) (f : Nat → Int64) (H : Heap) (l1 : List Loc) (ls : Array Slot), LI s D cs aC aM w v u sd f H → RL v u → va_S (lA s) s.heap H l1 → lv_has ls 7 [(0, .ref b), (1, .ref (aC 0)), (2, .ref (aM 0)), (3, .ref w), (4, .int (nI (5 * n)))] → W p l e room_1 s m args below meth c H l1 (100 + 3 * n + 3) (1000 + 18 * n + 18) Q (F0 m 1100 ls [])) : ∀ (v u : Nat → Nat → Int32) (sd : Int64) (f : Nat → Int64) (H : Heap) (l1 : List Loc) (ls : Array Slot), LI s D cs aC aM w v u sd f H → RL v u → va_S (lA s) s.heap H l1 → lv_has ls 7 [(0, .ref b), (1, .ref (aC 0)), (2, .ref (aM 0)), (3, .ref w), (4, .int (nI (5 * n)))] → W p l e room_1 s m args below meth c H l1 (100 + 3 * n) (1000 + 18 * n) Q (F0 m 643 ls []) := by
  intro v u sd f H l1 ls hI hRL hS hl
  obtain ⟨hP, hMP, hO⟩ := hI
  obtain ⟨tc, d, gc, pc, rc, hRA0⟩ := hRL
  have hRA : RA v u tc d gc pc rc := hRA0
  have htc := hRA.1.2.1
  have htcM := hRA.1.2.2.1
  have ht8 := hRA.1.1
  have hRP := hRA.2.2.1
  have hg6 := hRP.1
  have hp4 := hRP.2.1
  have hr5 := hRP.2.2.1
  have hD := hRP.2.2.2.1
  have hMR := hRP.2.2.2.2.2.1
  have hgc := hRP.2.2.2.2.2.2.1.1
  have hpc := hRP.2.2.2.2.2.2.1.2.1
  have hrc := hRP.2.2.2.2.2.2.1.2.2
  have hgcM := hMR.2.2.2.2.2.1
  have hpcM := hMR.2.2.2.2.2.2.1
  have hrcM := hMR.2.2.2.2.2.2.2
  have hPI := hRA.PI
  have hSK := hRA.SK
  have hMI := hRA.MI
  have hdv := hRA.dv
  refine lv_aload_n K.hx K.hb d_Z_law_643 rfl (lv_at hl 1 rfl) ?_
  refine lv_aload_n K.hx K.hb d_Z_law_644 rfl (lv_at hl 0 rfl) ?_
  refine lv_iload K.hx K.hb d_Z_law_645 (lv_at hl 4 rfl) ?_
  refine lv_iconst (v := 1) K.hx K.hb d_Z_law_647 (by decide) ?_
  refine lv_iadd K.hx K.hb d_Z_law_648 ?_
  refine lv_topE (y := nI (5 * n + 1)) (nI_add _ _) ?_
  refine zc_sld K hX hbl hS (5 * n + 1) rfl (by omega) (by omega) d_Z_law_649 ?_
  refine lv_aload_n K.hx K.hb d_Z_law_650 rfl (lv_at hl 0 rfl) ?_
  refine lv_iload K.hx K.hb d_Z_law_651 (lv_at hl 4 rfl) ?_
  refine lv_iconst (v := 2) K.hx K.hb d_Z_law_653 (by decide) ?_
  refine lv_iadd K.hx K.hb d_Z_law_654 ?_
  refine lv_topE (y := nI (5 * n + 2)) (nI_add _ _) ?_
  refine zc_sld K hX hbl hS (5 * n + 2) rfl (by omega) (by omega) d_Z_law_655 ?_
  refine lv_aload_n K.hx K.hb d_Z_law_656 rfl (lv_at hl 0 rfl) ?_
  refine lv_iload K.hx K.hb d_Z_law_657 (lv_at hl 4 rfl) ?_
  refine lv_iconst (v := 3) K.hx K.hb d_Z_law_659 (by decide) ?_
  refine lv_iadd K.hx K.hb d_Z_law_660 ?_
  refine lv_topE (y := nI (5 * n + 3)) (nI_add _ _) ?_
  refine zc_sld K hX hbl hS (5 * n + 3) rfl (by omega) (by omega) d_Z_law_661 ?_
  refine lv_aload_n K.hx K.hb d_Z_law_662 rfl (lv_at hl 3 rfl) ?_
  refine zc_Z K hA.1 hP hO hA.2.2.2.2.2.1 hS (hA.sC hS) hA.2.2.2.2.1 (c_Z_person l D cs aC w v sd hfl hpc hp4 (xs (5 * n + 1)) (xs (5 * n + 2)) (xs (5 * n + 3))) kw_550 xm_Z_person kw_548 kw_549 kw_21 rfl hl.1 d_Z_law_663 (Nat.le_of_ble_eq_true rfl) (Nat.le_of_ble_eq_true rfl) ⟨by show 100 + 3 * n + 3 ≤ 669350; omega, by show 1000 + 18 * n + 18 ≤ 7088055; omega⟩ (fun k a v1 sd1 f1 H l1 hZo hP hO hf1 hk hS => ?_)
  have hMP := hA.kM hMP hk
  refine lv_istore (lv' := [(5, .int k), (0, .ref b), (1, .ref (aC 0)), (2, .ref (aM 0)), (3, .ref w), (4, .int (nI (5 * n)))]) K.hx K.hb d_Z_law_666 hl (by decide) rfl (fun ls hl => ?_)
  refine lv_aload_n K.hx K.hb d_Z_law_668 rfl (lv_at hl 3 rfl) ?_
  refine lv_aload_n K.hx K.hb d_Z_law_669 rfl (lv_at hl 1 rfl) ?_
  refine lv_iload K.hx K.hb d_Z_law_670 (lv_at hl 5 rfl) ?_
  refine lv_iconst (v := 1) K.hx K.hb d_Z_law_672 (by decide) ?_
  refine lv_iadd K.hx K.hb d_Z_law_673 ?_
  refine lv_topE (y := nI (5 * n + 1)) (nI_add _ _) ?_
  refine zc_sld K hX hbl hS (5 * n + 1) rfl (by omega) (by omega) d_Z_law_674 ?_
  refine lv_aload_n K.hx K.hb d_Z_law_675 rfl (lv_at hl 1 rfl) ?_
  refine lv_iload K.hx K.hb d_Z_law_676 (lv_at hl 5 rfl) ?_
  refine lv_iconst (v := 2) K.hx K.hb d_Z_law_678 (by decide) ?_
  refine lv_iadd K.hx K.hb d_Z_law_679 ?_
  refine lv_topE (y := nI (5 * n + 2)) (nI_add _ _) ?_
  refine zc_sld K hX hbl hS (5 * n + 2) rfl (by omega) (by omega) d_Z_law_680 ?_
  refine lv_aload_n K.hx K.hb d_Z_law_681 rfl (lv_at hl 1 rfl) ?_
  refine lv_iload K.hx K.hb d_Z_law_682 (lv_at hl 5 rfl) ?_
  refine lv_iconst (v := 3) K.hx K.hb d_Z_law_684 (by decide) ?_
  refine lv_iadd K.hx K.hb d_Z_law_685 ?_
  refine lv_topE (y := nI (5 * n + 3)) (nI_add _ _) ?_
  refine zc_sld K hX hbl hS (5 * n + 3) rfl (by omega) (by omega) d_Z_law_686 ?_
  refine zc_M K hA.2.1 hMP hS (hA.sM hS) (k_M_person l D cs aM u sd hpcM hp4 (xs (5 * n + 1)) (xs (5 * n + 2)) (xs (5 * n + 3))) kw_802 xm_M_person kw_799 kw_800 kw_801 rfl hl.1 d_Z_law_687 (Nat.le_of_ble_eq_true rfl) (Nat.le_of_ble_eq_true rfl) ⟨by show 100 + 3 * n + 3 + 0 ≤ 669350; omega, by show 1000 + 18 * n + 18 + 0 ≤ 7088055; omega⟩ (fun r u1 sd2 H l1 hm hMP hk hS => ?_)
  have hP := hA.kC hP hk
  have hO := hA.kO hO hk
  obtain ⟨bb, rfl⟩ : ∃ bb, r = some (.int bb) := by rcases hm with ⟨_, _, h, _⟩ | ⟨_, h, _⟩ | ⟨_, _, h, _⟩ <;> exact ⟨_, h⟩
  obtain ⟨hg1, hg2, hg3, hg4⟩ := m_person hRA hZo hm
  subst hg3
  refine lv_istore (lv' := [(6, .int bb), (5, .int k), (0, .ref b), (1, .ref (aC 0)), (2, .ref (aM 0)), (3, .ref w), (4, .int (nI (5 * n)))]) K.hx K.hb d_Z_law_690 hl (by decide) rfl (fun ls hl => ?_)
  refine lv_aload_n K.hx K.hb d_Z_law_692 rfl (lv_at hl 4 rfl) ?_
  refine zc_M K hA.2.1 hMP hS (hA.sM hS) (c_M_thrown l D cs aM u1 sd1) kw_735 xm_M_thrown kw_732 kw_733 kw_734 rfl hl.1 d_Z_law_693 (Nat.le_of_ble_eq_true rfl) (Nat.le_of_ble_eq_true rfl) ⟨by show 100 + 3 * n + 3 + 0 + 0 ≤ 669350; omega, by show 1000 + 18 * n + 18 + 0 + 0 ≤ 7088055; omega⟩ (fun r u3 sd3 H l1 hth hMP hk hS => ?_)
  have hP := hA.kC hP hk
  have hO := hA.kO hO hk
  obtain ⟨rfl, rfl, rfl⟩ := hth
  refine lv_iload K.hx K.hb d_Z_law_696 (lv_at hl 1 rfl) ?_
  refine lv_icmp_eq (tgt := 703) K.hx K.hb d_Z_law_698 (by decide) (fun c_698 => ?_) (fun c_698 => (absurd hg1 c_698))
  refine lv_iload K.hx K.hb d_Z_law_703 (lv_at hl 1 rfl) ?_
  refine lv_if_ne (tgt := 720) K.hx K.hb d_Z_law_705 (by decide) (fun c_705 => ?_) (fun c_705 => ?_)
  · refine lv_goto (tgt := 1100) K.hx K.hb d_Z_law_720 (by decide) ?_
    exact W.widen (by show 100 + 3 * n + 3 + 0 + 0 ≤ 100 + 3 * n + 3; omega) (by show 1000 + 18 * n + 18 + 0 + 0 ≤ 1000 + 18 * n + 18; omega) (kx v1 u1 sd1 f1 H l1 ls ⟨hP, hMP, hO⟩ hg4 hS (lv_sub hl [2, 3, 4, 5, 6] rfl))
  · refine lv_aload_n K.hx K.hb d_Z_law_708 rfl (lv_at hl 5 rfl) ?_
    refine lv_iconst (v := 0) K.hx K.hb d_Z_law_709 (by decide) ?_
    refine zc_lald K hO d_Z_law_710 ?_
    refine lv_iload K.hx K.hb d_Z_law_711 (lv_at hl 0 rfl) ?_
    refine lv_i2l K.hx K.hb d_Z_law_713 rfl ?_
    refine W.lcmp K.hx K.hb d_Z_law_714 ?_
    refine lv_topE (y := 0) (by rw [hf1 c_705, show a = bb from by have h9 := hg2 c_705; injection h9 with h9; injection h9]; simp [lg_cmp]) ?_
    refine lv_if_eq (tgt := 720) K.hx K.hb d_Z_law_715 (by decide) (fun _ => ?_) (fun c_715 => (show False from by revert c_715; decide).elim)
    refine lv_goto (tgt := 1100) K.hx K.hb d_Z_law_720 (by decide) ?_
    exact W.widen (by show 100 + 3 * n + 3 + 0 + 0 ≤ 100 + 3 * n + 3; omega) (by show 1000 + 18 * n + 18 + 0 + 0 ≤ 1000 + 18 * n + 18; omega) (kx v1 u1 sd1 f1 H l1 ls ⟨hP, hMP, hO⟩ hg4 hS (lv_sub hl [2, 3, 4, 5, 6] rfl))
set_option maxHeartbeats 4000000 in
set_option maxRecDepth 100000 in
theorem lw_op_repair {p : Program} {l : Launch} {e : Env} {s : State} {m : MethodId} {args : Array Value} {below : List Frame} {meth : Method} {c : Code} {Q : State → Prop} {D : va_G} {cs : Nat → ClassId} {aC aM : Nat → Nat} {w b L n : Nat} {xs : Nat → Int32} (hfl : l.flags = flags0) (K : Lx p m c code 7 s args "WearHoursLaw" D cs (lA s)) (hA : LA s aC aM w) (hX : va_X b L xs s s.heap) (hbl : b < s.heap.size) (hL : L ≤ 2560) (hn : 5 * n + 5 ≤ L)
    (kx : ∀ (v u : Nat → Nat → Int32) (sd : Int64) (f : Nat → Int64) (H : Heap) (l1 : List Loc) (ls : Array Slot), LI s D cs aC aM w v u sd f H → RL v u → va_S (lA s) s.heap H l1 → lv_has ls 7 [(0, .ref b), (1, .ref (aC 0)), (2, .ref (aM 0)), (3, .ref w), (4, .int (nI (5 * n)))] → W p l e room_1 s m args below meth c H l1 (100 + 3 * n + 3) (1000 + 18 * n + 18) Q (F0 m 1100 ls [])) : ∀ (v u : Nat → Nat → Int32) (sd : Int64) (f : Nat → Int64) (H : Heap) (l1 : List Loc) (ls : Array Slot), LI s D cs aC aM w v u sd f H → RL v u → va_S (lA s) s.heap H l1 → lv_has ls 7 [(0, .ref b), (1, .ref (aC 0)), (2, .ref (aM 0)), (3, .ref w), (4, .int (nI (5 * n)))] → W p l e room_1 s m args below meth c H l1 (100 + 3 * n) (1000 + 18 * n) Q (F0 m 723 ls []) := by
  intro v u sd f H l1 ls hI hRL hS hl
  obtain ⟨hP, hMP, hO⟩ := hI
  obtain ⟨tc, d, gc, pc, rc, hRA0⟩ := hRL
  have hRA : RA v u tc d gc pc rc := hRA0
  have htc := hRA.1.2.1
  have htcM := hRA.1.2.2.1
  have ht8 := hRA.1.1
  have hRP := hRA.2.2.1
  have hg6 := hRP.1
  have hp4 := hRP.2.1
  have hr5 := hRP.2.2.1
  have hD := hRP.2.2.2.1
  have hMR := hRP.2.2.2.2.2.1
  have hgc := hRP.2.2.2.2.2.2.1.1
  have hpc := hRP.2.2.2.2.2.2.1.2.1
  have hrc := hRP.2.2.2.2.2.2.1.2.2
  have hgcM := hMR.2.2.2.2.2.1
  have hpcM := hMR.2.2.2.2.2.2.1
  have hrcM := hMR.2.2.2.2.2.2.2
  have hPI := hRA.PI
  have hSK := hRA.SK
  have hMI := hRA.MI
  have hdv := hRA.dv
  refine lv_aload_n K.hx K.hb d_Z_law_723 rfl (lv_at hl 1 rfl) ?_
  refine lv_aload_n K.hx K.hb d_Z_law_724 rfl (lv_at hl 0 rfl) ?_
  refine lv_iload K.hx K.hb d_Z_law_725 (lv_at hl 4 rfl) ?_
  refine lv_iconst (v := 1) K.hx K.hb d_Z_law_727 (by decide) ?_
  refine lv_iadd K.hx K.hb d_Z_law_728 ?_
  refine lv_topE (y := nI (5 * n + 1)) (nI_add _ _) ?_
  refine zc_sld K hX hbl hS (5 * n + 1) rfl (by omega) (by omega) d_Z_law_729 ?_
  refine lv_aload_n K.hx K.hb d_Z_law_730 rfl (lv_at hl 0 rfl) ?_
  refine lv_iload K.hx K.hb d_Z_law_731 (lv_at hl 4 rfl) ?_
  refine lv_iconst (v := 2) K.hx K.hb d_Z_law_733 (by decide) ?_
  refine lv_iadd K.hx K.hb d_Z_law_734 ?_
  refine lv_topE (y := nI (5 * n + 2)) (nI_add _ _) ?_
  refine zc_sld K hX hbl hS (5 * n + 2) rfl (by omega) (by omega) d_Z_law_735 ?_
  refine lv_aload_n K.hx K.hb d_Z_law_736 rfl (lv_at hl 0 rfl) ?_
  refine lv_iload K.hx K.hb d_Z_law_737 (lv_at hl 4 rfl) ?_
  refine lv_iconst (v := 3) K.hx K.hb d_Z_law_739 (by decide) ?_
  refine lv_iadd K.hx K.hb d_Z_law_740 ?_
  refine lv_topE (y := nI (5 * n + 3)) (nI_add _ _) ?_
  refine zc_sld K hX hbl hS (5 * n + 3) rfl (by omega) (by omega) d_Z_law_741 ?_
  refine lv_aload_n K.hx K.hb d_Z_law_742 rfl (lv_at hl 0 rfl) ?_
  refine lv_iload K.hx K.hb d_Z_law_743 (lv_at hl 4 rfl) ?_
  refine lv_iconst (v := 4) K.hx K.hb d_Z_law_745 (by decide) ?_
  refine lv_iadd K.hx K.hb d_Z_law_746 ?_
  refine lv_topE (y := nI (5 * n + 4)) (nI_add _ _) ?_
  refine zc_sld K hX hbl hS (5 * n + 4) rfl (by omega) (by omega) d_Z_law_747 ?_
  refine lv_aload_n K.hx K.hb d_Z_law_748 rfl (lv_at hl 3 rfl) ?_
  refine zc_Z K hA.1 hP hO hA.2.2.2.2.2.1 hS (hA.sC hS) hA.2.2.2.2.1 (c_Z_repair l D cs aC w v sd hfl htc ht8 hrc hr5 (xs (5 * n + 1)) (xs (5 * n + 2)) (xs (5 * n + 3)) (xs (5 * n + 4))) kw_566 xm_Z_repair kw_564 kw_565 kw_21 rfl hl.1 d_Z_law_749 (Nat.le_of_ble_eq_true rfl) (Nat.le_of_ble_eq_true rfl) ⟨by show 100 + 3 * n + 3 ≤ 669350; omega, by show 1000 + 18 * n + 18 ≤ 7088055; omega⟩ (fun k a v1 sd1 f1 H l1 hZo hP hO hf1 hk hS => ?_)
  have hMP := hA.kM hMP hk
  refine lv_istore (lv' := [(5, .int k), (0, .ref b), (1, .ref (aC 0)), (2, .ref (aM 0)), (3, .ref w), (4, .int (nI (5 * n)))]) K.hx K.hb d_Z_law_752 hl (by decide) rfl (fun ls hl => ?_)
  refine lv_aload_n K.hx K.hb d_Z_law_754 rfl (lv_at hl 3 rfl) ?_
  refine lv_aload_n K.hx K.hb d_Z_law_755 rfl (lv_at hl 1 rfl) ?_
  refine lv_iload K.hx K.hb d_Z_law_756 (lv_at hl 5 rfl) ?_
  refine lv_iconst (v := 1) K.hx K.hb d_Z_law_758 (by decide) ?_
  refine lv_iadd K.hx K.hb d_Z_law_759 ?_
  refine lv_topE (y := nI (5 * n + 1)) (nI_add _ _) ?_
  refine zc_sld K hX hbl hS (5 * n + 1) rfl (by omega) (by omega) d_Z_law_760 ?_
  refine lv_aload_n K.hx K.hb d_Z_law_761 rfl (lv_at hl 1 rfl) ?_
  refine lv_iload K.hx K.hb d_Z_law_762 (lv_at hl 5 rfl) ?_
  refine lv_iconst (v := 2) K.hx K.hb d_Z_law_764 (by decide) ?_
  refine lv_iadd K.hx K.hb d_Z_law_765 ?_
  refine lv_topE (y := nI (5 * n + 2)) (nI_add _ _) ?_
  refine zc_sld K hX hbl hS (5 * n + 2) rfl (by omega) (by omega) d_Z_law_766 ?_
  refine lv_aload_n K.hx K.hb d_Z_law_767 rfl (lv_at hl 1 rfl) ?_
  refine lv_iload K.hx K.hb d_Z_law_768 (lv_at hl 5 rfl) ?_
  refine lv_iconst (v := 3) K.hx K.hb d_Z_law_770 (by decide) ?_
  refine lv_iadd K.hx K.hb d_Z_law_771 ?_
  refine lv_topE (y := nI (5 * n + 3)) (nI_add _ _) ?_
  refine zc_sld K hX hbl hS (5 * n + 3) rfl (by omega) (by omega) d_Z_law_772 ?_
  refine lv_aload_n K.hx K.hb d_Z_law_773 rfl (lv_at hl 1 rfl) ?_
  refine lv_iload K.hx K.hb d_Z_law_774 (lv_at hl 5 rfl) ?_
  refine lv_iconst (v := 4) K.hx K.hb d_Z_law_776 (by decide) ?_
  refine lv_iadd K.hx K.hb d_Z_law_777 ?_
  refine lv_topE (y := nI (5 * n + 4)) (nI_add _ _) ?_
  refine zc_sld K hX hbl hS (5 * n + 4) rfl (by omega) (by omega) d_Z_law_778 ?_
  refine zc_M K hA.2.1 hMP hS (hA.sM hS) (k_M_repair l D cs aM u sd htcM ht8 hrcM hr5 (xs (5 * n + 1)) (xs (5 * n + 2)) (xs (5 * n + 3)) (xs (5 * n + 4))) kw_806 xm_M_repair kw_803 kw_804 kw_805 rfl hl.1 d_Z_law_779 (Nat.le_of_ble_eq_true rfl) (Nat.le_of_ble_eq_true rfl) ⟨by show 100 + 3 * n + 3 + 0 ≤ 669350; omega, by show 1000 + 18 * n + 18 + 0 ≤ 7088055; omega⟩ (fun r u1 sd2 H l1 hm hMP hk hS => ?_)
  have hP := hA.kC hP hk
  have hO := hA.kO hO hk
  obtain ⟨bb, rfl⟩ : ∃ bb, r = some (.int bb) := by rcases hm with ⟨_, _, _, _, _, h, _⟩ | ⟨_, h, _⟩ | ⟨_, _, h, _⟩ | ⟨_, _, _, h, _⟩ <;> exact ⟨_, h⟩
  obtain ⟨hg1, hg2, hg3, hg4⟩ := m_repair hRA hZo hm
  subst hg3
  refine lv_istore (lv' := [(6, .int bb), (5, .int k), (0, .ref b), (1, .ref (aC 0)), (2, .ref (aM 0)), (3, .ref w), (4, .int (nI (5 * n)))]) K.hx K.hb d_Z_law_782 hl (by decide) rfl (fun ls hl => ?_)
  refine lv_aload_n K.hx K.hb d_Z_law_784 rfl (lv_at hl 4 rfl) ?_
  refine zc_M K hA.2.1 hMP hS (hA.sM hS) (c_M_thrown l D cs aM u1 sd1) kw_735 xm_M_thrown kw_732 kw_733 kw_734 rfl hl.1 d_Z_law_785 (Nat.le_of_ble_eq_true rfl) (Nat.le_of_ble_eq_true rfl) ⟨by show 100 + 3 * n + 3 + 0 + 0 ≤ 669350; omega, by show 1000 + 18 * n + 18 + 0 + 0 ≤ 7088055; omega⟩ (fun r u3 sd3 H l1 hth hMP hk hS => ?_)
  have hP := hA.kC hP hk
  have hO := hA.kO hO hk
  obtain ⟨rfl, rfl, rfl⟩ := hth
  refine lv_iload K.hx K.hb d_Z_law_788 (lv_at hl 1 rfl) ?_
  refine lv_icmp_eq (tgt := 795) K.hx K.hb d_Z_law_790 (by decide) (fun c_790 => ?_) (fun c_790 => (absurd hg1 c_790))
  refine lv_iload K.hx K.hb d_Z_law_795 (lv_at hl 1 rfl) ?_
  refine lv_if_ne (tgt := 812) K.hx K.hb d_Z_law_797 (by decide) (fun c_797 => ?_) (fun c_797 => ?_)
  · refine lv_goto (tgt := 1100) K.hx K.hb d_Z_law_812 (by decide) ?_
    exact W.widen (by show 100 + 3 * n + 3 + 0 + 0 ≤ 100 + 3 * n + 3; omega) (by show 1000 + 18 * n + 18 + 0 + 0 ≤ 1000 + 18 * n + 18; omega) (kx v1 u1 sd1 f1 H l1 ls ⟨hP, hMP, hO⟩ hg4 hS (lv_sub hl [2, 3, 4, 5, 6] rfl))
  · refine lv_aload_n K.hx K.hb d_Z_law_800 rfl (lv_at hl 5 rfl) ?_
    refine lv_iconst (v := 0) K.hx K.hb d_Z_law_801 (by decide) ?_
    refine zc_lald K hO d_Z_law_802 ?_
    refine lv_iload K.hx K.hb d_Z_law_803 (lv_at hl 0 rfl) ?_
    refine lv_i2l K.hx K.hb d_Z_law_805 rfl ?_
    refine W.lcmp K.hx K.hb d_Z_law_806 ?_
    refine lv_topE (y := 0) (by rw [hf1 c_797, show a = bb from by have h9 := hg2 c_797; injection h9 with h9; injection h9]; simp [lg_cmp]) ?_
    refine lv_if_eq (tgt := 812) K.hx K.hb d_Z_law_807 (by decide) (fun _ => ?_) (fun c_807 => (show False from by revert c_807; decide).elim)
    refine lv_goto (tgt := 1100) K.hx K.hb d_Z_law_812 (by decide) ?_
    exact W.widen (by show 100 + 3 * n + 3 + 0 + 0 ≤ 100 + 3 * n + 3; omega) (by show 1000 + 18 * n + 18 + 0 + 0 ≤ 1000 + 18 * n + 18; omega) (kx v1 u1 sd1 f1 H l1 ls ⟨hP, hMP, hO⟩ hg4 hS (lv_sub hl [2, 3, 4, 5, 6] rfl))
set_option maxHeartbeats 4000000 in
set_option maxRecDepth 100000 in
theorem lw_op_rules {p : Program} {l : Launch} {e : Env} {s : State} {m : MethodId} {args : Array Value} {below : List Frame} {meth : Method} {c : Code} {Q : State → Prop} {D : va_G} {cs : Nat → ClassId} {aC aM : Nat → Nat} {w b L n : Nat} {xs : Nat → Int32} (hfl : l.flags = flags0) (K : Lx p m c code 7 s args "WearHoursLaw" D cs (lA s)) (hA : LA s aC aM w) (hX : va_X b L xs s s.heap) (hbl : b < s.heap.size) (hL : L ≤ 2560) (hn : 5 * n + 5 ≤ L)
    (kx : ∀ (v u : Nat → Nat → Int32) (sd : Int64) (f : Nat → Int64) (H : Heap) (l1 : List Loc) (ls : Array Slot), LI s D cs aC aM w v u sd f H → RL v u → va_S (lA s) s.heap H l1 → lv_has ls 7 [(0, .ref b), (1, .ref (aC 0)), (2, .ref (aM 0)), (3, .ref w), (4, .int (nI (5 * n)))] → W p l e room_1 s m args below meth c H l1 (100 + 3 * n + 3) (1000 + 18 * n + 18) Q (F0 m 1100 ls [])) : ∀ (v u : Nat → Nat → Int32) (sd : Int64) (f : Nat → Int64) (H : Heap) (l1 : List Loc) (ls : Array Slot), LI s D cs aC aM w v u sd f H → RL v u → va_S (lA s) s.heap H l1 → lv_has ls 7 [(0, .ref b), (1, .ref (aC 0)), (2, .ref (aM 0)), (3, .ref w), (4, .int (nI (5 * n)))] → W p l e room_1 s m args below meth c H l1 (100 + 3 * n) (1000 + 18 * n) Q (F0 m 815 ls []) := by
  intro v u sd f H l1 ls hI hRL hS hl
  obtain ⟨hP, hMP, hO⟩ := hI
  obtain ⟨tc, d, gc, pc, rc, hRA0⟩ := hRL
  have hRA : RA v u tc d gc pc rc := hRA0
  have htc := hRA.1.2.1
  have htcM := hRA.1.2.2.1
  have ht8 := hRA.1.1
  have hRP := hRA.2.2.1
  have hg6 := hRP.1
  have hp4 := hRP.2.1
  have hr5 := hRP.2.2.1
  have hD := hRP.2.2.2.1
  have hMR := hRP.2.2.2.2.2.1
  have hgc := hRP.2.2.2.2.2.2.1.1
  have hpc := hRP.2.2.2.2.2.2.1.2.1
  have hrc := hRP.2.2.2.2.2.2.1.2.2
  have hgcM := hMR.2.2.2.2.2.1
  have hpcM := hMR.2.2.2.2.2.2.1
  have hrcM := hMR.2.2.2.2.2.2.2
  have hPI := hRA.PI
  have hSK := hRA.SK
  have hMI := hRA.MI
  have hdv := hRA.dv
  refine lv_aload_n K.hx K.hb d_Z_law_815 rfl (lv_at hl 1 rfl) ?_
  refine lv_aload_n K.hx K.hb d_Z_law_816 rfl (lv_at hl 0 rfl) ?_
  refine lv_iload K.hx K.hb d_Z_law_817 (lv_at hl 4 rfl) ?_
  refine lv_iconst (v := 1) K.hx K.hb d_Z_law_819 (by decide) ?_
  refine lv_iadd K.hx K.hb d_Z_law_820 ?_
  refine lv_topE (y := nI (5 * n + 1)) (nI_add _ _) ?_
  refine zc_sld K hX hbl hS (5 * n + 1) rfl (by omega) (by omega) d_Z_law_821 ?_
  refine lv_aload_n K.hx K.hb d_Z_law_822 rfl (lv_at hl 0 rfl) ?_
  refine lv_iload K.hx K.hb d_Z_law_823 (lv_at hl 4 rfl) ?_
  refine lv_iconst (v := 2) K.hx K.hb d_Z_law_825 (by decide) ?_
  refine lv_iadd K.hx K.hb d_Z_law_826 ?_
  refine lv_topE (y := nI (5 * n + 2)) (nI_add _ _) ?_
  refine zc_sld K hX hbl hS (5 * n + 2) rfl (by omega) (by omega) d_Z_law_827 ?_
  refine zc_Zv K hA.1 hP hS (hA.sC hS) (c_Z_rules l D cs aC v sd hfl (xs (5 * n + 1)) (xs (5 * n + 2))) kw_580 xm_Z_rules kw_578 kw_579 kw_21 rfl hl.1 d_Z_law_828 (Nat.le_of_ble_eq_true rfl) (Nat.le_of_ble_eq_true rfl) ⟨by show 100 + 3 * n + 1 ≤ 669350; omega, by show 1000 + 18 * n + 6 ≤ 7088055; omega⟩ (fun k v1 sd1 H l1 hZo hP hk hS => ?_)
  have hMP := hA.kM hMP (fun q h1 h2 => hk q h1 (fun h3 => h2 (Or.inl h3)))
  have hO := hA.kO2 hO hk
  refine lv_istore (lv' := [(5, .int k), (0, .ref b), (1, .ref (aC 0)), (2, .ref (aM 0)), (3, .ref w), (4, .int (nI (5 * n)))]) K.hx K.hb d_Z_law_831 hl (by decide) rfl (fun ls hl => ?_)
  refine lv_aload_n K.hx K.hb d_Z_law_833 rfl (lv_at hl 3 rfl) ?_
  refine lv_aload_n K.hx K.hb d_Z_law_834 rfl (lv_at hl 1 rfl) ?_
  refine lv_iload K.hx K.hb d_Z_law_835 (lv_at hl 5 rfl) ?_
  refine lv_iconst (v := 1) K.hx K.hb d_Z_law_837 (by decide) ?_
  refine lv_iadd K.hx K.hb d_Z_law_838 ?_
  refine lv_topE (y := nI (5 * n + 1)) (nI_add _ _) ?_
  refine zc_sld K hX hbl hS (5 * n + 1) rfl (by omega) (by omega) d_Z_law_839 ?_
  refine lv_aload_n K.hx K.hb d_Z_law_840 rfl (lv_at hl 1 rfl) ?_
  refine lv_iload K.hx K.hb d_Z_law_841 (lv_at hl 5 rfl) ?_
  refine lv_iconst (v := 2) K.hx K.hb d_Z_law_843 (by decide) ?_
  refine lv_iadd K.hx K.hb d_Z_law_844 ?_
  refine lv_topE (y := nI (5 * n + 2)) (nI_add _ _) ?_
  refine zc_sld K hX hbl hS (5 * n + 2) rfl (by omega) (by omega) d_Z_law_845 ?_
  refine zc_M K hA.2.1 hMP hS (hA.sM hS) (k_M_rules l D cs aM u sd (xs (5 * n + 1)) (xs (5 * n + 2))) kw_810 xm_M_rules kw_807 kw_808 kw_809 rfl hl.1 d_Z_law_846 (Nat.le_of_ble_eq_true rfl) (Nat.le_of_ble_eq_true rfl) ⟨by show 100 + 3 * n + 1 + 0 ≤ 669350; omega, by show 1000 + 18 * n + 6 + 0 ≤ 7088055; omega⟩ (fun r u1 sd2 H l1 hm hMP hk hS => ?_)
  have hP := hA.kC hP hk
  have hO := hA.kO hO hk
  obtain rfl : r = none := by rcases hm with ⟨_, h, _⟩ | ⟨_, h, _⟩ <;> exact h
  obtain ⟨hg1, hg2, hg3, hg4⟩ := m_rules hRA hZo hm
  subst hg3
  refine lv_aload_n K.hx K.hb d_Z_law_849 rfl (lv_at hl 3 rfl) ?_
  refine zc_M K hA.2.1 hMP hS (hA.sM hS) (c_M_thrown l D cs aM u1 sd1) kw_735 xm_M_thrown kw_732 kw_733 kw_734 rfl hl.1 d_Z_law_850 (Nat.le_of_ble_eq_true rfl) (Nat.le_of_ble_eq_true rfl) ⟨by show 100 + 3 * n + 1 + 0 + 0 ≤ 669350; omega, by show 1000 + 18 * n + 6 + 0 + 0 ≤ 7088055; omega⟩ (fun r u3 sd3 H l1 hth hMP hk hS => ?_)
  have hP := hA.kC hP hk
  have hO := hA.kO hO hk
  obtain ⟨rfl, rfl, rfl⟩ := hth
  refine lv_iload K.hx K.hb d_Z_law_853 (lv_at hl 0 rfl) ?_
  refine lv_icmp_eq (tgt := 860) K.hx K.hb d_Z_law_855 (by decide) (fun c_855 => ?_) (fun c_855 => (absurd hg1 c_855))
  refine lv_goto (tgt := 1100) K.hx K.hb d_Z_law_860 (by decide) ?_
  exact W.widen (by show 100 + 3 * n + 1 + 0 + 0 ≤ 100 + 3 * n + 3; omega) (by show 1000 + 18 * n + 6 + 0 + 0 ≤ 1000 + 18 * n + 18; omega) (kx v1 u1 sd1 f H l1 ls ⟨hP, hMP, hO⟩ hg4 hS (lv_sub hl [1, 2, 3, 4, 5] rfl))
set_option maxHeartbeats 4000000 in
set_option maxRecDepth 100000 in
theorem lw_op_plan {p : Program} {l : Launch} {e : Env} {s : State} {m : MethodId} {args : Array Value} {below : List Frame} {meth : Method} {c : Code} {Q : State → Prop} {D : va_G} {cs : Nat → ClassId} {aC aM : Nat → Nat} {w b L n : Nat} {xs : Nat → Int32} (hfl : l.flags = flags0) (K : Lx p m c code 7 s args "WearHoursLaw" D cs (lA s)) (hA : LA s aC aM w) (hX : va_X b L xs s s.heap) (hbl : b < s.heap.size) (hL : L ≤ 2560) (hn : 5 * n + 5 ≤ L)
    (kx : ∀ (v u : Nat → Nat → Int32) (sd : Int64) (f : Nat → Int64) (H : Heap) (l1 : List Loc) (ls : Array Slot), LI s D cs aC aM w v u sd f H → RL v u → va_S (lA s) s.heap H l1 → lv_has ls 7 [(0, .ref b), (1, .ref (aC 0)), (2, .ref (aM 0)), (3, .ref w), (4, .int (nI (5 * n)))] → W p l e room_1 s m args below meth c H l1 (100 + 3 * n + 3) (1000 + 18 * n + 18) Q (F0 m 1100 ls [])) : ∀ (v u : Nat → Nat → Int32) (sd : Int64) (f : Nat → Int64) (H : Heap) (l1 : List Loc) (ls : Array Slot), LI s D cs aC aM w v u sd f H → RL v u → va_S (lA s) s.heap H l1 → lv_has ls 7 [(0, .ref b), (1, .ref (aC 0)), (2, .ref (aM 0)), (3, .ref w), (4, .int (nI (5 * n)))] → W p l e room_1 s m args below meth c H l1 (100 + 3 * n) (1000 + 18 * n) Q (F0 m 863 ls []) := by
  intro v u sd f H l1 ls hI hRL hS hl
  obtain ⟨hP, hMP, hO⟩ := hI
  obtain ⟨tc, d, gc, pc, rc, hRA0⟩ := hRL
  have hRA : RA v u tc d gc pc rc := hRA0
  have htc := hRA.1.2.1
  have htcM := hRA.1.2.2.1
  have ht8 := hRA.1.1
  have hRP := hRA.2.2.1
  have hg6 := hRP.1
  have hp4 := hRP.2.1
  have hr5 := hRP.2.2.1
  have hD := hRP.2.2.2.1
  have hMR := hRP.2.2.2.2.2.1
  have hgc := hRP.2.2.2.2.2.2.1.1
  have hpc := hRP.2.2.2.2.2.2.1.2.1
  have hrc := hRP.2.2.2.2.2.2.1.2.2
  have hgcM := hMR.2.2.2.2.2.1
  have hpcM := hMR.2.2.2.2.2.2.1
  have hrcM := hMR.2.2.2.2.2.2.2
  have hPI := hRA.PI
  have hSK := hRA.SK
  have hMI := hRA.MI
  have hdv := hRA.dv
  refine lv_aload_n K.hx K.hb d_Z_law_863 rfl (lv_at hl 1 rfl) ?_
  refine zc_V K hA.1 hP hS (hA.sC hS) (k_W_plan l D cs aC v sd hPI) kw_248 xm_W_plan kw_245 kw_246 kw_247 rfl hl.1 d_Z_law_864 (Nat.le_of_ble_eq_true rfl) (Nat.le_of_ble_eq_true rfl) ⟨by show 100 + 3 * n + 0 ≤ 669350; omega, by show 1000 + 18 * n + 0 ≤ 7088055; omega⟩ (fun r v1 sd1 H l1 hp hP hk hS => ?_) (fun q cls cell H l1 hx => (show False from hx).elim)
  have hMP := hA.kM hMP (fun q h1 h2 => hk q h1 (fun h3 => h2 (Or.inl h3)))
  have hO := hA.kO2 hO hk
  obtain ⟨a, rfl⟩ : ∃ a, r = some (.int a) := by rcases hp with ⟨_, h, _⟩ | ⟨_, _, _, h, _⟩ <;> exact ⟨_, h⟩
  refine lv_aload_n K.hx K.hb d_Z_law_867 rfl (lv_at hl 2 rfl) ?_
  refine zc_M K hA.2.1 hMP hS (hA.sM hS) (k_M_plan l D cs aM u sd hD hg6 hp4 hr5 hMR) kw_814 xm_M_plan kw_811 kw_812 kw_813 rfl hl.1 d_Z_law_868 (Nat.le_of_ble_eq_true rfl) (Nat.le_of_ble_eq_true rfl) ⟨by show 100 + 3 * n + 0 + 0 ≤ 669350; omega, by show 1000 + 18 * n + 0 + 0 ≤ 7088055; omega⟩ (fun r u1 sd2 H l1 hm hMP hk hS => ?_)
  have hP := hA.kC hP hk
  have hO := hA.kO hO hk
  obtain ⟨bb, rfl⟩ : ∃ bb, r = some (.int bb) := ⟨_, hm.1⟩
  obtain ⟨hg1, hg2, hg3, hg4⟩ := m_plan hRA hp hm
  subst hg3
  refine lv_icmp_eq (tgt := 1100) K.hx K.hb d_Z_law_871 (by decide) (fun c_871 => ?_) (fun c_871 => (absurd (by injection hg2 with h9; injection h9) c_871))
  exact W.widen (by show 100 + 3 * n + 0 + 0 ≤ 100 + 3 * n + 3; omega) (by show 1000 + 18 * n + 0 + 0 ≤ 1000 + 18 * n + 18; omega) (kx v1 u1 sd1 f H l1 ls ⟨hP, hMP, hO⟩ hg4 hS (lv_sub hl [0, 1, 2, 3, 4] rfl))
set_option maxHeartbeats 4000000 in
set_option maxRecDepth 100000 in
theorem lw_op_at {p : Program} {l : Launch} {e : Env} {s : State} {m : MethodId} {args : Array Value} {below : List Frame} {meth : Method} {c : Code} {Q : State → Prop} {D : va_G} {cs : Nat → ClassId} {aC aM : Nat → Nat} {w b L n : Nat} {xs : Nat → Int32} (hfl : l.flags = flags0) (K : Lx p m c code 7 s args "WearHoursLaw" D cs (lA s)) (hA : LA s aC aM w) (hX : va_X b L xs s s.heap) (hbl : b < s.heap.size) (hL : L ≤ 2560) (hn : 5 * n + 5 ≤ L)
    (kx : ∀ (v u : Nat → Nat → Int32) (sd : Int64) (f : Nat → Int64) (H : Heap) (l1 : List Loc) (ls : Array Slot), LI s D cs aC aM w v u sd f H → RL v u → va_S (lA s) s.heap H l1 → lv_has ls 7 [(0, .ref b), (1, .ref (aC 0)), (2, .ref (aM 0)), (3, .ref w), (4, .int (nI (5 * n)))] → W p l e room_1 s m args below meth c H l1 (100 + 3 * n + 3) (1000 + 18 * n + 18) Q (F0 m 1100 ls [])) : ∀ (v u : Nat → Nat → Int32) (sd : Int64) (f : Nat → Int64) (H : Heap) (l1 : List Loc) (ls : Array Slot), LI s D cs aC aM w v u sd f H → RL v u → va_S (lA s) s.heap H l1 → lv_has ls 7 [(0, .ref b), (1, .ref (aC 0)), (2, .ref (aM 0)), (3, .ref w), (4, .int (nI (5 * n)))] → W p l e room_1 s m args below meth c H l1 (100 + 3 * n) (1000 + 18 * n) Q (F0 m 876 ls []) := by
  intro v u sd f H l1 ls hI hRL hS hl
  obtain ⟨hP, hMP, hO⟩ := hI
  obtain ⟨tc, d, gc, pc, rc, hRA0⟩ := hRL
  have hRA : RA v u tc d gc pc rc := hRA0
  have htc := hRA.1.2.1
  have htcM := hRA.1.2.2.1
  have ht8 := hRA.1.1
  have hRP := hRA.2.2.1
  have hg6 := hRP.1
  have hp4 := hRP.2.1
  have hr5 := hRP.2.2.1
  have hD := hRP.2.2.2.1
  have hMR := hRP.2.2.2.2.2.1
  have hgc := hRP.2.2.2.2.2.2.1.1
  have hpc := hRP.2.2.2.2.2.2.1.2.1
  have hrc := hRP.2.2.2.2.2.2.1.2.2
  have hgcM := hMR.2.2.2.2.2.1
  have hpcM := hMR.2.2.2.2.2.2.1
  have hrcM := hMR.2.2.2.2.2.2.2
  have hPI := hRA.PI
  have hSK := hRA.SK
  have hMI := hRA.MI
  have hdv := hRA.dv
  refine lv_aload_n K.hx K.hb d_Z_law_876 rfl (lv_at hl 1 rfl) ?_
  refine lv_aload_n K.hx K.hb d_Z_law_877 rfl (lv_at hl 0 rfl) ?_
  refine lv_iload K.hx K.hb d_Z_law_878 (lv_at hl 4 rfl) ?_
  refine lv_iconst (v := 1) K.hx K.hb d_Z_law_880 (by decide) ?_
  refine lv_iadd K.hx K.hb d_Z_law_881 ?_
  refine lv_topE (y := nI (5 * n + 1)) (nI_add _ _) ?_
  refine zc_sld K hX hbl hS (5 * n + 1) rfl (by omega) (by omega) d_Z_law_882 ?_
  refine lv_aload_n K.hx K.hb d_Z_law_883 rfl (lv_at hl 0 rfl) ?_
  refine lv_iload K.hx K.hb d_Z_law_884 (lv_at hl 4 rfl) ?_
  refine lv_iconst (v := 2) K.hx K.hb d_Z_law_886 (by decide) ?_
  refine lv_iadd K.hx K.hb d_Z_law_887 ?_
  refine lv_topE (y := nI (5 * n + 2)) (nI_add _ _) ?_
  refine zc_sld K hX hbl hS (5 * n + 2) rfl (by omega) (by omega) d_Z_law_888 ?_
  refine lv_aload_n K.hx K.hb d_Z_law_889 rfl (lv_at hl 3 rfl) ?_
  refine zc_Z K hA.1 hP hO hA.2.2.2.2.2.1 hS (hA.sC hS) hA.2.2.2.2.1 (c_Z_at l D cs aC w v sd hfl hrc hr5 (xs (5 * n + 1)) (xs (5 * n + 2))) kw_588 xm_Z_at kw_586 kw_587 kw_21 rfl hl.1 d_Z_law_890 (Nat.le_of_ble_eq_true rfl) (Nat.le_of_ble_eq_true rfl) ⟨by show 100 + 3 * n + 3 ≤ 669350; omega, by show 1000 + 18 * n + 18 ≤ 7088055; omega⟩ (fun k a v1 sd1 f1 H l1 hZo hP hO hf1 hk hS => ?_)
  have hMP := hA.kM hMP hk
  refine lv_istore (lv' := [(5, .int k), (0, .ref b), (1, .ref (aC 0)), (2, .ref (aM 0)), (3, .ref w), (4, .int (nI (5 * n)))]) K.hx K.hb d_Z_law_893 hl (by decide) rfl (fun ls hl => ?_)
  refine lv_aload_n K.hx K.hb d_Z_law_895 rfl (lv_at hl 3 rfl) ?_
  refine lv_aload_n K.hx K.hb d_Z_law_896 rfl (lv_at hl 1 rfl) ?_
  refine lv_iload K.hx K.hb d_Z_law_897 (lv_at hl 5 rfl) ?_
  refine lv_iconst (v := 1) K.hx K.hb d_Z_law_899 (by decide) ?_
  refine lv_iadd K.hx K.hb d_Z_law_900 ?_
  refine lv_topE (y := nI (5 * n + 1)) (nI_add _ _) ?_
  refine zc_sld K hX hbl hS (5 * n + 1) rfl (by omega) (by omega) d_Z_law_901 ?_
  refine lv_aload_n K.hx K.hb d_Z_law_902 rfl (lv_at hl 1 rfl) ?_
  refine lv_iload K.hx K.hb d_Z_law_903 (lv_at hl 5 rfl) ?_
  refine lv_iconst (v := 2) K.hx K.hb d_Z_law_905 (by decide) ?_
  refine lv_iadd K.hx K.hb d_Z_law_906 ?_
  refine lv_topE (y := nI (5 * n + 2)) (nI_add _ _) ?_
  refine zc_sld K hX hbl hS (5 * n + 2) rfl (by omega) (by omega) d_Z_law_907 ?_
  refine zc_M K hA.2.1 hMP hS (hA.sM hS) (k_M_at l D cs aM u sd hrcM hr5 hpcM hp4 hdv (xs (5 * n + 1)) (xs (5 * n + 2))) kw_833 xm_M_at kw_830 kw_831 kw_832 rfl hl.1 d_Z_law_908 (Nat.le_of_ble_eq_true rfl) (Nat.le_of_ble_eq_true rfl) ⟨by show 100 + 3 * n + 3 + 0 ≤ 669350; omega, by show 1000 + 18 * n + 18 + 0 ≤ 7088055; omega⟩ (fun r u1 sd2 H l1 hm hMP hk hS => ?_)
  have hP := hA.kC hP hk
  have hO := hA.kO hO hk
  obtain ⟨bb, rfl⟩ : ∃ bb, r = some (.int bb) := by rcases hm with ⟨_, _, _, _, _, h, _⟩ | ⟨_, h, _⟩ | ⟨_, _, _, h, _⟩ <;> exact ⟨_, h⟩
  obtain ⟨hg1, hg2, hg3, hg4⟩ := m_at hRA hZo hm
  subst hg3
  refine lv_istore (lv' := [(6, .int bb), (5, .int k), (0, .ref b), (1, .ref (aC 0)), (2, .ref (aM 0)), (3, .ref w), (4, .int (nI (5 * n)))]) K.hx K.hb d_Z_law_911 hl (by decide) rfl (fun ls hl => ?_)
  refine lv_aload_n K.hx K.hb d_Z_law_913 rfl (lv_at hl 4 rfl) ?_
  refine zc_M K hA.2.1 hMP hS (hA.sM hS) (c_M_thrown l D cs aM u1 sd1) kw_735 xm_M_thrown kw_732 kw_733 kw_734 rfl hl.1 d_Z_law_914 (Nat.le_of_ble_eq_true rfl) (Nat.le_of_ble_eq_true rfl) ⟨by show 100 + 3 * n + 3 + 0 + 0 ≤ 669350; omega, by show 1000 + 18 * n + 18 + 0 + 0 ≤ 7088055; omega⟩ (fun r u3 sd3 H l1 hth hMP hk hS => ?_)
  have hP := hA.kC hP hk
  have hO := hA.kO hO hk
  obtain ⟨rfl, rfl, rfl⟩ := hth
  refine lv_iload K.hx K.hb d_Z_law_917 (lv_at hl 1 rfl) ?_
  refine lv_icmp_eq (tgt := 924) K.hx K.hb d_Z_law_919 (by decide) (fun c_919 => ?_) (fun c_919 => (absurd hg1 c_919))
  refine lv_iload K.hx K.hb d_Z_law_924 (lv_at hl 1 rfl) ?_
  refine lv_if_ne (tgt := 941) K.hx K.hb d_Z_law_926 (by decide) (fun c_926 => ?_) (fun c_926 => ?_)
  · refine lv_goto (tgt := 1100) K.hx K.hb d_Z_law_941 (by decide) ?_
    exact W.widen (by show 100 + 3 * n + 3 + 0 + 0 ≤ 100 + 3 * n + 3; omega) (by show 1000 + 18 * n + 18 + 0 + 0 ≤ 1000 + 18 * n + 18; omega) (kx v1 u1 sd1 f1 H l1 ls ⟨hP, hMP, hO⟩ hg4 hS (lv_sub hl [2, 3, 4, 5, 6] rfl))
  · refine lv_aload_n K.hx K.hb d_Z_law_929 rfl (lv_at hl 5 rfl) ?_
    refine lv_iconst (v := 0) K.hx K.hb d_Z_law_930 (by decide) ?_
    refine zc_lald K hO d_Z_law_931 ?_
    refine lv_iload K.hx K.hb d_Z_law_932 (lv_at hl 0 rfl) ?_
    refine lv_i2l K.hx K.hb d_Z_law_934 rfl ?_
    refine W.lcmp K.hx K.hb d_Z_law_935 ?_
    refine lv_topE (y := 0) (by rw [hf1 c_926, show a = bb from by have h9 := hg2 c_926; injection h9 with h9; injection h9]; simp [lg_cmp]) ?_
    refine lv_if_eq (tgt := 941) K.hx K.hb d_Z_law_936 (by decide) (fun _ => ?_) (fun c_936 => (show False from by revert c_936; decide).elim)
    refine lv_goto (tgt := 1100) K.hx K.hb d_Z_law_941 (by decide) ?_
    exact W.widen (by show 100 + 3 * n + 3 + 0 + 0 ≤ 100 + 3 * n + 3; omega) (by show 1000 + 18 * n + 18 + 0 + 0 ≤ 1000 + 18 * n + 18; omega) (kx v1 u1 sd1 f1 H l1 ls ⟨hP, hMP, hO⟩ hg4 hS (lv_sub hl [2, 3, 4, 5, 6] rfl))
set_option maxHeartbeats 4000000 in
set_option maxRecDepth 100000 in
theorem lw_op_cost {p : Program} {l : Launch} {e : Env} {s : State} {m : MethodId} {args : Array Value} {below : List Frame} {meth : Method} {c : Code} {Q : State → Prop} {D : va_G} {cs : Nat → ClassId} {aC aM : Nat → Nat} {w b L n : Nat} {xs : Nat → Int32} (hfl : l.flags = flags0) (K : Lx p m c code 7 s args "WearHoursLaw" D cs (lA s)) (hA : LA s aC aM w) (hX : va_X b L xs s s.heap) (hbl : b < s.heap.size) (hL : L ≤ 2560) (hn : 5 * n + 5 ≤ L)
    (kx : ∀ (v u : Nat → Nat → Int32) (sd : Int64) (f : Nat → Int64) (H : Heap) (l1 : List Loc) (ls : Array Slot), LI s D cs aC aM w v u sd f H → RL v u → va_S (lA s) s.heap H l1 → lv_has ls 7 [(0, .ref b), (1, .ref (aC 0)), (2, .ref (aM 0)), (3, .ref w), (4, .int (nI (5 * n)))] → W p l e room_1 s m args below meth c H l1 (100 + 3 * n + 3) (1000 + 18 * n + 18) Q (F0 m 1100 ls [])) : ∀ (v u : Nat → Nat → Int32) (sd : Int64) (f : Nat → Int64) (H : Heap) (l1 : List Loc) (ls : Array Slot), LI s D cs aC aM w v u sd f H → RL v u → va_S (lA s) s.heap H l1 → lv_has ls 7 [(0, .ref b), (1, .ref (aC 0)), (2, .ref (aM 0)), (3, .ref w), (4, .int (nI (5 * n)))] → W p l e room_1 s m args below meth c H l1 (100 + 3 * n) (1000 + 18 * n) Q (F0 m 944 ls []) := by
  intro v u sd f H l1 ls hI hRL hS hl
  obtain ⟨hP, hMP, hO⟩ := hI
  obtain ⟨tc, d, gc, pc, rc, hRA0⟩ := hRL
  have hRA : RA v u tc d gc pc rc := hRA0
  have htc := hRA.1.2.1
  have htcM := hRA.1.2.2.1
  have ht8 := hRA.1.1
  have hRP := hRA.2.2.1
  have hg6 := hRP.1
  have hp4 := hRP.2.1
  have hr5 := hRP.2.2.1
  have hD := hRP.2.2.2.1
  have hMR := hRP.2.2.2.2.2.1
  have hgc := hRP.2.2.2.2.2.2.1.1
  have hpc := hRP.2.2.2.2.2.2.1.2.1
  have hrc := hRP.2.2.2.2.2.2.1.2.2
  have hgcM := hMR.2.2.2.2.2.1
  have hpcM := hMR.2.2.2.2.2.2.1
  have hrcM := hMR.2.2.2.2.2.2.2
  have hPI := hRA.PI
  have hSK := hRA.SK
  have hMI := hRA.MI
  have hdv := hRA.dv
  refine lv_aload_n K.hx K.hb d_Z_law_944 rfl (lv_at hl 1 rfl) ?_
  refine lv_aload_n K.hx K.hb d_Z_law_945 rfl (lv_at hl 3 rfl) ?_
  refine zc_Z K hA.1 hP hO hA.2.2.2.2.2.1 hS (hA.sC hS) hA.2.2.2.2.1 (c_Z_cost l D cs aC w v sd hfl) kw_601 xm_Z_cost kw_599 kw_600 kw_21 rfl hl.1 d_Z_law_946 (Nat.le_of_ble_eq_true rfl) (Nat.le_of_ble_eq_true rfl) ⟨by show 100 + 3 * n + 1 ≤ 669350; omega, by show 1000 + 18 * n + 6 ≤ 7088055; omega⟩ (fun k a v1 sd1 f1 H l1 hZo hP hO hf1 hk hS => ?_)
  have hMP := hA.kM hMP hk
  refine lv_istore (lv' := [(5, .int k), (0, .ref b), (1, .ref (aC 0)), (2, .ref (aM 0)), (3, .ref w), (4, .int (nI (5 * n)))]) K.hx K.hb d_Z_law_949 hl (by decide) rfl (fun ls hl => ?_)
  refine lv_aload_n K.hx K.hb d_Z_law_951 rfl (lv_at hl 3 rfl) ?_
  refine zc_M K hA.2.1 hMP hS (hA.sM hS) (k_M_cost l D cs aM u sd ) kw_837 xm_M_cost kw_834 kw_835 kw_836 rfl hl.1 d_Z_law_952 (Nat.le_of_ble_eq_true rfl) (Nat.le_of_ble_eq_true rfl) ⟨by show 100 + 3 * n + 1 + 0 ≤ 669350; omega, by show 1000 + 18 * n + 6 + 0 ≤ 7088055; omega⟩ (fun r u1 sd2 H l1 hm hMP hk hS => ?_)
  have hP := hA.kC hP hk
  have hO := hA.kO hO hk
  obtain ⟨bb, rfl⟩ : ∃ bb, r = some (.int bb) := by rcases hm with ⟨_, h, _⟩ | ⟨_, h, _⟩ <;> exact ⟨_, h⟩
  obtain ⟨hg1, hg2, hg3, hg4⟩ := m_cost hRA hZo hm
  subst hg3
  refine lv_istore (lv' := [(6, .int bb), (5, .int k), (0, .ref b), (1, .ref (aC 0)), (2, .ref (aM 0)), (3, .ref w), (4, .int (nI (5 * n)))]) K.hx K.hb d_Z_law_955 hl (by decide) rfl (fun ls hl => ?_)
  refine lv_aload_n K.hx K.hb d_Z_law_957 rfl (lv_at hl 4 rfl) ?_
  refine zc_M K hA.2.1 hMP hS (hA.sM hS) (c_M_thrown l D cs aM u1 sd1) kw_735 xm_M_thrown kw_732 kw_733 kw_734 rfl hl.1 d_Z_law_958 (Nat.le_of_ble_eq_true rfl) (Nat.le_of_ble_eq_true rfl) ⟨by show 100 + 3 * n + 1 + 0 + 0 ≤ 669350; omega, by show 1000 + 18 * n + 6 + 0 + 0 ≤ 7088055; omega⟩ (fun r u3 sd3 H l1 hth hMP hk hS => ?_)
  have hP := hA.kC hP hk
  have hO := hA.kO hO hk
  obtain ⟨rfl, rfl, rfl⟩ := hth
  refine lv_iload K.hx K.hb d_Z_law_961 (lv_at hl 1 rfl) ?_
  refine lv_icmp_eq (tgt := 968) K.hx K.hb d_Z_law_963 (by decide) (fun c_963 => ?_) (fun c_963 => (absurd hg1 c_963))
  refine lv_iload K.hx K.hb d_Z_law_968 (lv_at hl 1 rfl) ?_
  refine lv_if_ne (tgt := 985) K.hx K.hb d_Z_law_970 (by decide) (fun c_970 => ?_) (fun c_970 => ?_)
  · refine lv_goto (tgt := 1100) K.hx K.hb d_Z_law_985 (by decide) ?_
    exact W.widen (by show 100 + 3 * n + 1 + 0 + 0 ≤ 100 + 3 * n + 3; omega) (by show 1000 + 18 * n + 6 + 0 + 0 ≤ 1000 + 18 * n + 18; omega) (kx v1 u1 sd1 f1 H l1 ls ⟨hP, hMP, hO⟩ hg4 hS (lv_sub hl [2, 3, 4, 5, 6] rfl))
  · refine lv_aload_n K.hx K.hb d_Z_law_973 rfl (lv_at hl 5 rfl) ?_
    refine lv_iconst (v := 0) K.hx K.hb d_Z_law_974 (by decide) ?_
    refine zc_lald K hO d_Z_law_975 ?_
    refine lv_iload K.hx K.hb d_Z_law_976 (lv_at hl 0 rfl) ?_
    refine lv_i2l K.hx K.hb d_Z_law_978 rfl ?_
    refine W.lcmp K.hx K.hb d_Z_law_979 ?_
    refine lv_topE (y := 0) (by rw [hf1 c_970, show a = bb from by have h9 := hg2 c_970; injection h9 with h9; injection h9]; simp [lg_cmp]) ?_
    refine lv_if_eq (tgt := 985) K.hx K.hb d_Z_law_980 (by decide) (fun _ => ?_) (fun c_980 => (show False from by revert c_980; decide).elim)
    refine lv_goto (tgt := 1100) K.hx K.hb d_Z_law_985 (by decide) ?_
    exact W.widen (by show 100 + 3 * n + 1 + 0 + 0 ≤ 100 + 3 * n + 3; omega) (by show 1000 + 18 * n + 6 + 0 + 0 ≤ 1000 + 18 * n + 18; omega) (kx v1 u1 sd1 f1 H l1 ls ⟨hP, hMP, hO⟩ hg4 hS (lv_sub hl [2, 3, 4, 5, 6] rfl))
set_option maxHeartbeats 4000000 in
set_option maxRecDepth 100000 in
theorem lw_op_done {p : Program} {l : Launch} {e : Env} {s : State} {m : MethodId} {args : Array Value} {below : List Frame} {meth : Method} {c : Code} {Q : State → Prop} {D : va_G} {cs : Nat → ClassId} {aC aM : Nat → Nat} {w b L n : Nat} {xs : Nat → Int32} (hfl : l.flags = flags0) (K : Lx p m c code 7 s args "WearHoursLaw" D cs (lA s)) (hA : LA s aC aM w) (hX : va_X b L xs s s.heap) (hbl : b < s.heap.size) (hL : L ≤ 2560) (hn : 5 * n + 5 ≤ L)
    (kx : ∀ (v u : Nat → Nat → Int32) (sd : Int64) (f : Nat → Int64) (H : Heap) (l1 : List Loc) (ls : Array Slot), LI s D cs aC aM w v u sd f H → RL v u → va_S (lA s) s.heap H l1 → lv_has ls 7 [(0, .ref b), (1, .ref (aC 0)), (2, .ref (aM 0)), (3, .ref w), (4, .int (nI (5 * n)))] → W p l e room_1 s m args below meth c H l1 (100 + 3 * n + 3) (1000 + 18 * n + 18) Q (F0 m 1100 ls [])) : ∀ (v u : Nat → Nat → Int32) (sd : Int64) (f : Nat → Int64) (H : Heap) (l1 : List Loc) (ls : Array Slot), LI s D cs aC aM w v u sd f H → RL v u → va_S (lA s) s.heap H l1 → lv_has ls 7 [(0, .ref b), (1, .ref (aC 0)), (2, .ref (aM 0)), (3, .ref w), (4, .int (nI (5 * n)))] → W p l e room_1 s m args below meth c H l1 (100 + 3 * n) (1000 + 18 * n) Q (F0 m 988 ls []) := by
  intro v u sd f H l1 ls hI hRL hS hl
  obtain ⟨hP, hMP, hO⟩ := hI
  obtain ⟨tc, d, gc, pc, rc, hRA0⟩ := hRL
  have hRA : RA v u tc d gc pc rc := hRA0
  have htc := hRA.1.2.1
  have htcM := hRA.1.2.2.1
  have ht8 := hRA.1.1
  have hRP := hRA.2.2.1
  have hg6 := hRP.1
  have hp4 := hRP.2.1
  have hr5 := hRP.2.2.1
  have hD := hRP.2.2.2.1
  have hMR := hRP.2.2.2.2.2.1
  have hgc := hRP.2.2.2.2.2.2.1.1
  have hpc := hRP.2.2.2.2.2.2.1.2.1
  have hrc := hRP.2.2.2.2.2.2.1.2.2
  have hgcM := hMR.2.2.2.2.2.1
  have hpcM := hMR.2.2.2.2.2.2.1
  have hrcM := hMR.2.2.2.2.2.2.2
  have hPI := hRA.PI
  have hSK := hRA.SK
  have hMI := hRA.MI
  have hdv := hRA.dv
  refine lv_aload_n K.hx K.hb d_Z_law_988 rfl (lv_at hl 1 rfl) ?_
  refine lv_aload_n K.hx K.hb d_Z_law_989 rfl (lv_at hl 3 rfl) ?_
  refine zc_Z K hA.1 hP hO hA.2.2.2.2.2.1 hS (hA.sC hS) hA.2.2.2.2.1 (c_Z_done l D cs aC w v sd hfl hPI hSK) kw_608 xm_Z_done kw_606 kw_607 kw_21 rfl hl.1 d_Z_law_990 (Nat.le_of_ble_eq_true rfl) (Nat.le_of_ble_eq_true rfl) ⟨by show 100 + 3 * n + 1 ≤ 669350; omega, by show 1000 + 18 * n + 6 ≤ 7088055; omega⟩ (fun k a v1 sd1 f1 H l1 hZo hP hO hf1 hk hS => ?_)
  have hMP := hA.kM hMP hk
  refine lv_istore (lv' := [(5, .int k), (0, .ref b), (1, .ref (aC 0)), (2, .ref (aM 0)), (3, .ref w), (4, .int (nI (5 * n)))]) K.hx K.hb d_Z_law_993 hl (by decide) rfl (fun ls hl => ?_)
  refine lv_aload_n K.hx K.hb d_Z_law_995 rfl (lv_at hl 3 rfl) ?_
  refine zc_M K hA.2.1 hMP hS (hA.sM hS) (k_M_done l D cs aM u sd hMI) kw_841 xm_M_done kw_838 kw_839 kw_840 rfl hl.1 d_Z_law_996 (Nat.le_of_ble_eq_true rfl) (Nat.le_of_ble_eq_true rfl) ⟨by show 100 + 3 * n + 1 + 0 ≤ 669350; omega, by show 1000 + 18 * n + 6 + 0 ≤ 7088055; omega⟩ (fun r u1 sd2 H l1 hm hMP hk hS => ?_)
  have hP := hA.kC hP hk
  have hO := hA.kO hO hk
  obtain ⟨bb, rfl⟩ : ∃ bb, r = some (.int bb) := by rcases hm with ⟨_, h, _⟩ | ⟨_, h, _⟩ <;> exact ⟨_, h⟩
  obtain ⟨hg1, hg2, hg3, hg4⟩ := m_done hRA hZo hm
  subst hg3
  refine lv_istore (lv' := [(6, .int bb), (5, .int k), (0, .ref b), (1, .ref (aC 0)), (2, .ref (aM 0)), (3, .ref w), (4, .int (nI (5 * n)))]) K.hx K.hb d_Z_law_999 hl (by decide) rfl (fun ls hl => ?_)
  refine lv_aload_n K.hx K.hb d_Z_law_1001 rfl (lv_at hl 4 rfl) ?_
  refine zc_M K hA.2.1 hMP hS (hA.sM hS) (c_M_thrown l D cs aM u1 sd1) kw_735 xm_M_thrown kw_732 kw_733 kw_734 rfl hl.1 d_Z_law_1002 (Nat.le_of_ble_eq_true rfl) (Nat.le_of_ble_eq_true rfl) ⟨by show 100 + 3 * n + 1 + 0 + 0 ≤ 669350; omega, by show 1000 + 18 * n + 6 + 0 + 0 ≤ 7088055; omega⟩ (fun r u3 sd3 H l1 hth hMP hk hS => ?_)
  have hP := hA.kC hP hk
  have hO := hA.kO hO hk
  obtain ⟨rfl, rfl, rfl⟩ := hth
  refine lv_iload K.hx K.hb d_Z_law_1005 (lv_at hl 1 rfl) ?_
  refine lv_icmp_eq (tgt := 1012) K.hx K.hb d_Z_law_1007 (by decide) (fun c_1007 => ?_) (fun c_1007 => (absurd hg1 c_1007))
  refine lv_iload K.hx K.hb d_Z_law_1012 (lv_at hl 1 rfl) ?_
  refine lv_if_ne (tgt := 1029) K.hx K.hb d_Z_law_1014 (by decide) (fun c_1014 => ?_) (fun c_1014 => ?_)
  · refine lv_goto (tgt := 1100) K.hx K.hb d_Z_law_1029 (by decide) ?_
    exact W.widen (by show 100 + 3 * n + 1 + 0 + 0 ≤ 100 + 3 * n + 3; omega) (by show 1000 + 18 * n + 6 + 0 + 0 ≤ 1000 + 18 * n + 18; omega) (kx v1 u1 sd1 f1 H l1 ls ⟨hP, hMP, hO⟩ hg4 hS (lv_sub hl [2, 3, 4, 5, 6] rfl))
  · refine lv_aload_n K.hx K.hb d_Z_law_1017 rfl (lv_at hl 5 rfl) ?_
    refine lv_iconst (v := 0) K.hx K.hb d_Z_law_1018 (by decide) ?_
    refine zc_lald K hO d_Z_law_1019 ?_
    refine lv_iload K.hx K.hb d_Z_law_1020 (lv_at hl 0 rfl) ?_
    refine lv_i2l K.hx K.hb d_Z_law_1022 rfl ?_
    refine W.lcmp K.hx K.hb d_Z_law_1023 ?_
    refine lv_topE (y := 0) (by rw [hf1 c_1014, show a = bb from by have h9 := hg2 c_1014; injection h9 with h9; injection h9]; simp [lg_cmp]) ?_
    refine lv_if_eq (tgt := 1029) K.hx K.hb d_Z_law_1024 (by decide) (fun _ => ?_) (fun c_1024 => (show False from by revert c_1024; decide).elim)
    refine lv_goto (tgt := 1100) K.hx K.hb d_Z_law_1029 (by decide) ?_
    exact W.widen (by show 100 + 3 * n + 1 + 0 + 0 ≤ 100 + 3 * n + 3; omega) (by show 1000 + 18 * n + 6 + 0 + 0 ≤ 1000 + 18 * n + 18; omega) (kx v1 u1 sd1 f1 H l1 ls ⟨hP, hMP, hO⟩ hg4 hS (lv_sub hl [2, 3, 4, 5, 6] rfl))
set_option maxHeartbeats 4000000 in
set_option maxRecDepth 100000 in
theorem lw_op_spare {p : Program} {l : Launch} {e : Env} {s : State} {m : MethodId} {args : Array Value} {below : List Frame} {meth : Method} {c : Code} {Q : State → Prop} {D : va_G} {cs : Nat → ClassId} {aC aM : Nat → Nat} {w b L n : Nat} {xs : Nat → Int32} (hfl : l.flags = flags0) (K : Lx p m c code 7 s args "WearHoursLaw" D cs (lA s)) (hA : LA s aC aM w) (hX : va_X b L xs s s.heap) (hbl : b < s.heap.size) (hL : L ≤ 2560) (hn : 5 * n + 5 ≤ L)
    (kx : ∀ (v u : Nat → Nat → Int32) (sd : Int64) (f : Nat → Int64) (H : Heap) (l1 : List Loc) (ls : Array Slot), LI s D cs aC aM w v u sd f H → RL v u → va_S (lA s) s.heap H l1 → lv_has ls 7 [(0, .ref b), (1, .ref (aC 0)), (2, .ref (aM 0)), (3, .ref w), (4, .int (nI (5 * n)))] → W p l e room_1 s m args below meth c H l1 (100 + 3 * n + 3) (1000 + 18 * n + 18) Q (F0 m 1100 ls [])) : ∀ (v u : Nat → Nat → Int32) (sd : Int64) (f : Nat → Int64) (H : Heap) (l1 : List Loc) (ls : Array Slot), LI s D cs aC aM w v u sd f H → RL v u → va_S (lA s) s.heap H l1 → lv_has ls 7 [(0, .ref b), (1, .ref (aC 0)), (2, .ref (aM 0)), (3, .ref w), (4, .int (nI (5 * n)))] → W p l e room_1 s m args below meth c H l1 (100 + 3 * n) (1000 + 18 * n) Q (F0 m 1032 ls []) := by
  intro v u sd f H l1 ls hI hRL hS hl
  obtain ⟨hP, hMP, hO⟩ := hI
  obtain ⟨tc, d, gc, pc, rc, hRA0⟩ := hRL
  have hRA : RA v u tc d gc pc rc := hRA0
  have htc := hRA.1.2.1
  have htcM := hRA.1.2.2.1
  have ht8 := hRA.1.1
  have hRP := hRA.2.2.1
  have hg6 := hRP.1
  have hp4 := hRP.2.1
  have hr5 := hRP.2.2.1
  have hD := hRP.2.2.2.1
  have hMR := hRP.2.2.2.2.2.1
  have hgc := hRP.2.2.2.2.2.2.1.1
  have hpc := hRP.2.2.2.2.2.2.1.2.1
  have hrc := hRP.2.2.2.2.2.2.1.2.2
  have hgcM := hMR.2.2.2.2.2.1
  have hpcM := hMR.2.2.2.2.2.2.1
  have hrcM := hMR.2.2.2.2.2.2.2
  have hPI := hRA.PI
  have hSK := hRA.SK
  have hMI := hRA.MI
  have hdv := hRA.dv
  refine lv_aload_n K.hx K.hb d_Z_law_1032 rfl (lv_at hl 1 rfl) ?_
  refine lv_aload_n K.hx K.hb d_Z_law_1033 rfl (lv_at hl 0 rfl) ?_
  refine lv_iload K.hx K.hb d_Z_law_1034 (lv_at hl 4 rfl) ?_
  refine lv_iconst (v := 1) K.hx K.hb d_Z_law_1036 (by decide) ?_
  refine lv_iadd K.hx K.hb d_Z_law_1037 ?_
  refine lv_topE (y := nI (5 * n + 1)) (nI_add _ _) ?_
  refine zc_sld K hX hbl hS (5 * n + 1) rfl (by omega) (by omega) d_Z_law_1038 ?_
  refine lv_aload_n K.hx K.hb d_Z_law_1039 rfl (lv_at hl 0 rfl) ?_
  refine lv_iload K.hx K.hb d_Z_law_1040 (lv_at hl 4 rfl) ?_
  refine lv_iconst (v := 2) K.hx K.hb d_Z_law_1042 (by decide) ?_
  refine lv_iadd K.hx K.hb d_Z_law_1043 ?_
  refine lv_topE (y := nI (5 * n + 2)) (nI_add _ _) ?_
  refine zc_sld K hX hbl hS (5 * n + 2) rfl (by omega) (by omega) d_Z_law_1044 ?_
  refine lv_aload_n K.hx K.hb d_Z_law_1045 rfl (lv_at hl 3 rfl) ?_
  refine zc_Z K hA.1 hP hO hA.2.2.2.2.2.1 hS (hA.sC hS) hA.2.2.2.2.1 (c_Z_spare l D cs aC w v sd hfl (xs (5 * n + 1)) (xs (5 * n + 2))) kw_620 xm_Z_spare kw_618 kw_619 kw_21 rfl hl.1 d_Z_law_1046 (Nat.le_of_ble_eq_true rfl) (Nat.le_of_ble_eq_true rfl) ⟨by show 100 + 3 * n + 1 ≤ 669350; omega, by show 1000 + 18 * n + 6 ≤ 7088055; omega⟩ (fun k a v1 sd1 f1 H l1 hZo hP hO hf1 hk hS => ?_)
  have hMP := hA.kM hMP hk
  refine lv_istore (lv' := [(5, .int k), (0, .ref b), (1, .ref (aC 0)), (2, .ref (aM 0)), (3, .ref w), (4, .int (nI (5 * n)))]) K.hx K.hb d_Z_law_1049 hl (by decide) rfl (fun ls hl => ?_)
  refine lv_aload_n K.hx K.hb d_Z_law_1051 rfl (lv_at hl 3 rfl) ?_
  refine lv_aload_n K.hx K.hb d_Z_law_1052 rfl (lv_at hl 1 rfl) ?_
  refine lv_iload K.hx K.hb d_Z_law_1053 (lv_at hl 5 rfl) ?_
  refine lv_iconst (v := 1) K.hx K.hb d_Z_law_1055 (by decide) ?_
  refine lv_iadd K.hx K.hb d_Z_law_1056 ?_
  refine lv_topE (y := nI (5 * n + 1)) (nI_add _ _) ?_
  refine zc_sld K hX hbl hS (5 * n + 1) rfl (by omega) (by omega) d_Z_law_1057 ?_
  refine lv_aload_n K.hx K.hb d_Z_law_1058 rfl (lv_at hl 1 rfl) ?_
  refine lv_iload K.hx K.hb d_Z_law_1059 (lv_at hl 5 rfl) ?_
  refine lv_iconst (v := 2) K.hx K.hb d_Z_law_1061 (by decide) ?_
  refine lv_iadd K.hx K.hb d_Z_law_1062 ?_
  refine lv_topE (y := nI (5 * n + 2)) (nI_add _ _) ?_
  refine zc_sld K hX hbl hS (5 * n + 2) rfl (by omega) (by omega) d_Z_law_1063 ?_
  refine zc_M K hA.2.1 hMP hS (hA.sM hS) (k_M_spare l D cs aM u sd (xs (5 * n + 1)) (xs (5 * n + 2))) kw_845 xm_M_spare kw_842 kw_843 kw_844 rfl hl.1 d_Z_law_1064 (Nat.le_of_ble_eq_true rfl) (Nat.le_of_ble_eq_true rfl) ⟨by show 100 + 3 * n + 1 + 0 ≤ 669350; omega, by show 1000 + 18 * n + 6 + 0 ≤ 7088055; omega⟩ (fun r u1 sd2 H l1 hm hMP hk hS => ?_)
  have hP := hA.kC hP hk
  have hO := hA.kO hO hk
  obtain ⟨bb, rfl⟩ : ∃ bb, r = some (.int bb) := by rcases hm with ⟨_, _, _, _, _, h, _⟩ | ⟨_, h, _⟩ | ⟨_, _, h, _⟩ | ⟨_, _, _, _, _, h, _⟩ <;> exact ⟨_, h⟩
  obtain ⟨hg1, hg2, hg3, hg4⟩ := m_spare hRA hZo hm
  subst hg3
  refine lv_istore (lv' := [(6, .int bb), (5, .int k), (0, .ref b), (1, .ref (aC 0)), (2, .ref (aM 0)), (3, .ref w), (4, .int (nI (5 * n)))]) K.hx K.hb d_Z_law_1067 hl (by decide) rfl (fun ls hl => ?_)
  refine lv_aload_n K.hx K.hb d_Z_law_1069 rfl (lv_at hl 4 rfl) ?_
  refine zc_M K hA.2.1 hMP hS (hA.sM hS) (c_M_thrown l D cs aM u1 sd1) kw_735 xm_M_thrown kw_732 kw_733 kw_734 rfl hl.1 d_Z_law_1070 (Nat.le_of_ble_eq_true rfl) (Nat.le_of_ble_eq_true rfl) ⟨by show 100 + 3 * n + 1 + 0 + 0 ≤ 669350; omega, by show 1000 + 18 * n + 6 + 0 + 0 ≤ 7088055; omega⟩ (fun r u3 sd3 H l1 hth hMP hk hS => ?_)
  have hP := hA.kC hP hk
  have hO := hA.kO hO hk
  obtain ⟨rfl, rfl, rfl⟩ := hth
  refine lv_iload K.hx K.hb d_Z_law_1073 (lv_at hl 1 rfl) ?_
  refine lv_icmp_eq (tgt := 1080) K.hx K.hb d_Z_law_1075 (by decide) (fun c_1075 => ?_) (fun c_1075 => (absurd hg1 c_1075))
  refine lv_iload K.hx K.hb d_Z_law_1080 (lv_at hl 1 rfl) ?_
  refine lv_if_ne (tgt := 1097) K.hx K.hb d_Z_law_1082 (by decide) (fun c_1082 => ?_) (fun c_1082 => ?_)
  · refine lv_goto (tgt := 1100) K.hx K.hb d_Z_law_1097 (by decide) ?_
    exact W.widen (by show 100 + 3 * n + 1 + 0 + 0 ≤ 100 + 3 * n + 3; omega) (by show 1000 + 18 * n + 6 + 0 + 0 ≤ 1000 + 18 * n + 18; omega) (kx v1 u1 sd1 f1 H l1 ls ⟨hP, hMP, hO⟩ hg4 hS (lv_sub hl [2, 3, 4, 5, 6] rfl))
  · refine lv_aload_n K.hx K.hb d_Z_law_1085 rfl (lv_at hl 5 rfl) ?_
    refine lv_iconst (v := 0) K.hx K.hb d_Z_law_1086 (by decide) ?_
    refine zc_lald K hO d_Z_law_1087 ?_
    refine lv_iload K.hx K.hb d_Z_law_1088 (lv_at hl 0 rfl) ?_
    refine lv_i2l K.hx K.hb d_Z_law_1090 rfl ?_
    refine W.lcmp K.hx K.hb d_Z_law_1091 ?_
    refine lv_topE (y := 0) (by rw [hf1 c_1082, show a = bb from by have h9 := hg2 c_1082; injection h9 with h9; injection h9]; simp [lg_cmp]) ?_
    refine lv_if_eq (tgt := 1097) K.hx K.hb d_Z_law_1092 (by decide) (fun _ => ?_) (fun c_1092 => (show False from by revert c_1092; decide).elim)
    refine lv_goto (tgt := 1100) K.hx K.hb d_Z_law_1097 (by decide) ?_
    exact W.widen (by show 100 + 3 * n + 1 + 0 + 0 ≤ 100 + 3 * n + 3; omega) (by show 1000 + 18 * n + 6 + 0 + 0 ≤ 1000 + 18 * n + 18; omega) (kx v1 u1 sd1 f1 H l1 ls ⟨hP, hMP, hO⟩ hg4 hS (lv_sub hl [2, 3, 4, 5, 6] rfl))
