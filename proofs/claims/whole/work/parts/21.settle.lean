/-! settle, makeBest -/
/-- a way (gap g, person q) for repair n keeps the budget b -/
def okS (gc pc rc : Nat) (v : Nat → Nat → Int32) (n : Nat) (b : Int32) (g q : Nat) : Prop := ¬ begZ v n g q = -1 ∧ ¬ b < cbG (lcF gc pc rc 6) v n q (begZ v n g q) (b + 1)
/-- no way ahead of (g, q) keeps it -/
def noS (gc pc rc : Nat) (v : Nat → Nat → Int32) (n : Nat) (b : Int32) (g q : Nat) : Prop := (∀ g' q', g' < g → q' < pc → ¬ okS gc pc rc v n b g' q') ∧ ∀ q', q' < q → ¬ okS gc pc rc v n b g q'
def unp (v : Nat → Nat → Int32) (n : Nat) : Nat → Nat → Int32 := u2 (u2 (u2 v (33 + n) 4 (-1)) (33 + n) 5 (-1)) (33 + n) 6 (-1)
def plc (v : Nat → Nat → Int32) (n g q : Nat) : Nat → Nat → Int32 := u2 (u2 (u2 (occ v n q (begZ v n g q)) (33 + n) 4 (begZ v n g q)) (33 + n) 5 (nI q)) (33 + n) 6 (nI g)
/-- what settle does over the rows v (repair n not placed yet in them) -/
def stR (gc pc rc : Nat) (v : Nat → Nat → Int32) (n : Nat) (b x : Int32) (v' : Nat → Nat → Int32) : Prop :=
  (∃ g q, g < gc ∧ q < pc ∧ okS gc pc rc v n b g q ∧ noS gc pc rc v n b g q ∧ x = v (33 + n) 3 * begZ v n g q ∧ plc v n g q = v') ∨ (noS gc pc rc v n b gc 0 ∧ x = cuZ v n ∧ v = v')
theorem PI_unp {gc pc rc : Nat} {v : Nat → Nat → Int32} (h : PI gc pc rc v) (n : Nat) (hn : n < 5) : PI gc pc rc (unp v n) := by
  obtain ⟨a1, a2, a3, a4, a5, a6, a7⟩ := h
  have r19 : unp v n 19 = v 19 := by unfold unp; rw [u2_ne (by omega), u2_ne (by omega), u2_ne (by omega)]
  refine ⟨by rw [r19]; exact a1, a2, by rw [r19]; exact a3, a4, by rw [r19]; exact a5, a6, fun i hi => ?_⟩
  obtain ⟨t, ht, e⟩ := a7 i hi
  refine ⟨t, ht, ?_⟩
  rw [← e]
  simp [unp, u2_at]
theorem noS_q {gc pc rc : Nat} {v : Nat → Nat → Int32} {n : Nat} {b : Int32} {g q : Nat} (h : noS gc pc rc v n b g q) (h2 : ¬ okS gc pc rc v n b g q) : noS gc pc rc v n b g (q + 1) := by
  refine ⟨h.1, fun q' hq => ?_⟩
  by_cases e : q' = q
  · rw [e]; exact h2
  · exact h.2 q' (by omega)
theorem noS_g {gc pc rc : Nat} {v : Nat → Nat → Int32} {n : Nat} {b : Int32} {g : Nat} (h : noS gc pc rc v n b g pc) : noS gc pc rc v n b (g + 1) 0 := by
  refine ⟨fun g' q' hg hq => ?_, fun q' hq => absurd hq (by omega)⟩
  by_cases e : g' = g
  · rw [e]; exact h.2 q' hq
  · exact h.1 g' q' (by omega) hq
theorem noS_0 {gc pc rc : Nat} {v : Nat → Nat → Int32} {n : Nat} {b : Int32} : noS gc pc rc v n b 0 0 := ⟨fun _ _ h => absurd h (by omega), fun _ h => absurd h (by omega)⟩
set_option maxHeartbeats 4000000 in
set_option maxRecDepth 100000 in
theorem lp_si {p : Program} {l : Launch} {e : Env} {s : State} {m : MethodId} {args : Array Value} {below : List Frame} {meth : Method} {c : Code} {Q : State → Prop} {D : va_G} {cs : Nat → ClassId} {ad : Nat → Nat} {v : Nat → Nat → Int32} {sd : Int64} (K : Cx p l m meth c b_L_settle 7 (some .int) s args "WearHours$Planner" D cs ad) {gc pc rc : Nat} (hLC : LCok l D cs ad sd gc pc rc 6) (hPI : PI gc pc rc v) {n : Nat} (hn : n < rc) {b : Int32} {g : Nat} (hgg : g < gc) 
    (kx : ∀ (_ : noS gc pc rc v n b g pc) (H : Heap) (l1 : List Loc) (ls : Array Slot), va_P D classes (wv 42 ad (fun k => eC cs ad sd k (v k))) H → va_S (aA 42 ad s.heap.size) s.heap H l1 → lv_has ls 7 [(0, .ref (ad 38)), (1, .int (nI n)), (2, .int b), (3, .ref (ad (33 + n))), (4, .int (nI g))] → W p l e (rmx 17 0) s m args below meth c H l1 0 0 Q (F0 m 110 ls []))
    (kf : ∀ (g q : Nat) (_ : g < gc) (_ : q < pc) (_ : okS gc pc rc v n b g q) (_ : noS gc pc rc v n b g q) (H : Heap) (l1 : List Loc) (ls : Array Slot), va_P D classes (wv 42 ad (fun k => eC cs ad sd k (v k))) H → va_S (aA 42 ad s.heap.size) s.heap H l1 → lv_has ls 7 [(0, .ref (ad 38)), (3, .ref (ad (33 + n))), (4, .int (nI g)), (5, .int (nI q)), (6, .int (begZ v n g q))] → W p l e (rmx 17 0) s m args below meth c H l1 0 0 Q (F0 m 77 ls []))
    : ∀ (k q : Nat), noS gc pc rc v n b g q → q ≤ pc → pc < q + k → ∀ (H : Heap) (l1 : List Loc) (ls : Array Slot), va_P D classes (wv 42 ad (fun k => eC cs ad sd k (v k))) H → va_S (aA 42 ad s.heap.size) s.heap H l1 → lv_has ls 7 [(0, .ref (ad 38)), (1, .int (nI n)), (2, .int b), (3, .ref (ad (33 + n))), (4, .int (nI g)), (5, .int (nI q))] → W p l e (rmx 17 0) s m args below meth c H l1 0 0 Q (F0 m 32 ls []) := by
  intro k
  induction k with
  | zero =>
    intro q hno h1 h2
    omega
  | succ k ih =>
    intro q hno hle hlt H l1 ls hP hS hl
    have hp4 := hPI.2.2.2.1
    have hr5 := hPI.2.2.2.2.2.1
    have hg66 := hPI.2.1
    have hn5 : n < 5 := by omega
    have hg6 : g < 6 := by omega
    refine lv_iload K.hx K.hb d_L_settle_32 (lv_at hl 5 rfl) ?_
    refine lv_aload_n K.hx K.hb d_L_settle_34 rfl (lv_at hl 0 rfl) ?_
    refine g_get K.1 hP (38) (by decide) rfl rfl i_L 0 (by decide) rfl (Or.inl kw_197) rfl d_L_settle_35 ?_
    refine g_get K.1 hP (19) (by decide) rfl rfl i_K 3 (by decide) rfl (Or.inr nw_161) rfl d_L_settle_38 ?_
    refine lv_icmp_ge (tgt := 110) K.hx K.hb d_L_settle_41 (by decide) (fun c_41 => ?_) (fun c_41 => ?_)
    · have hge : q = pc := Nat.le_antisymm hle ((nI_leI (by omega) (by omega)).mp (by rw [← hPI.2.2.1]; exact c_41))
      subst hge
      exact kx hno H l1 ls hP hS (lv_sub hl [0, 1, 2, 3, 4] rfl)
    · have hlt2 : q < pc := Nat.lt_of_not_le (fun h => c_41 (by rw [hPI.2.2.1]; exact nI_le h (by omega)))
      have hq9 : q < 4 := by omega
      refine lv_aload_n K.hx K.hb d_L_settle_44 rfl (lv_at hl 0 rfl) ?_
      refine lv_aload_n K.hx K.hb d_L_settle_45 rfl (lv_at hl 3 rfl) ?_
      refine lv_iload K.hx K.hb d_L_settle_46 (lv_at hl 4 rfl) ?_
      refine lv_iload K.hx K.hb d_L_settle_48 (lv_at hl 5 rfl) ?_
      refine cc_V K hP hS (c_L_beginning l D cs ad _ _ hPI hn hg6 hq9) kw_272 xm_L_beginning kw_269 kw_271 kw_3 (g_recv K.1.2.1 hP (38) (by decide) rfl rfl) rfl hl.1 d_L_settle_50 (Nat.le_of_ble_eq_true rfl) (Nat.le_of_ble_eq_true rfl) ⟨(Nat.le_of_ble_eq_true rfl), (Nat.le_of_ble_eq_true rfl)⟩ (fun r v1 sd1 H l1 hp hP hS => ?_)
      obtain ⟨rfl, rfl, rfl⟩ := hp
      refine lv_istore (lv' := [(6, .int (begZ v n g q)), (0, .ref (ad 38)), (1, .int (nI n)), (2, .int b), (3, .ref (ad (33 + n))), (4, .int (nI g)), (5, .int (nI q))]) K.hx K.hb d_L_settle_53 hl (by decide) rfl (fun ls hl => ?_)
      refine lv_iload K.hx K.hb d_L_settle_55 (lv_at hl 0 rfl) ?_
      refine lv_iconst (v := (-1)) K.hx K.hb d_L_settle_57 (by decide) ?_
      refine lv_icmp_eq (tgt := 104) K.hx K.hb d_L_settle_58 (by decide) (fun c_58 => ?_) (fun c_58 => ?_)
      · refine lv_iinc (v := nI (q + 1)) (lv' := [(5, .int (nI (q + 1))), (6, .int (begZ v n g q)), (0, .ref (ad 38)), (1, .int (nI n)), (2, .int b), (3, .ref (ad (33 + n))), (4, .int (nI g))]) K.hx K.hb d_L_settle_104 hl (k := 6) rfl (nI_1 _) (by decide) rfl (fun ls hl => ?_)
        refine lv_goto (tgt := 32) K.hx K.hb d_L_settle_107 (by decide) ?_
        exact ih (q + 1) (noS_q hno (fun h => h.1 c_58)) hlt2 (by omega) H l1 ls hP hS (lv_sub hl [2, 3, 4, 5, 6, 0] rfl)
      · refine lv_aload_n K.hx K.hb d_L_settle_61 rfl (lv_at hl 1 rfl) ?_
        refine lv_iload_n K.hx K.hb d_L_settle_62 rfl (lv_at hl 2 rfl) ?_
        refine lv_iload K.hx K.hb d_L_settle_63 (lv_at hl 6 rfl) ?_
        refine lv_iload K.hx K.hb d_L_settle_65 (lv_at hl 0 rfl) ?_
        refine lv_iload_n K.hx K.hb d_L_settle_67 rfl (lv_at hl 3 rfl) ?_
        refine lv_iconst (v := 1) K.hx K.hb d_L_settle_68 (by decide) ?_
        refine lv_iadd K.hx K.hb d_L_settle_69 ?_
        refine cc_V K hP hS (c_L_costBy l D cs ad _ _ hLC hPI hn (by omega) hq9 (begZ v n g q) (b + 1)) kw_287 xm_L_costBy kw_284 kw_286 kw_5 (g_recv K.1.2.1 hP (38) (by decide) rfl rfl) rfl hl.1 d_L_settle_70 (Nat.le_of_ble_eq_true rfl) (Nat.le_of_ble_eq_true rfl) ⟨(Nat.le_of_ble_eq_true rfl), (Nat.le_of_ble_eq_true rfl)⟩ (fun r v1 sd1 H l1 hp hP hS => ?_)
        obtain ⟨rfl, rfl, rfl⟩ := hp
        refine lv_iload_n K.hx K.hb d_L_settle_73 rfl (lv_at hl 3 rfl) ?_
        refine lv_icmp_gt (tgt := 104) K.hx K.hb d_L_settle_74 (by decide) (fun c_74 => ?_) (fun c_74 => ?_)
        · refine lv_iinc (v := nI (q + 1)) (lv' := [(5, .int (nI (q + 1))), (6, .int (begZ v n g q)), (0, .ref (ad 38)), (1, .int (nI n)), (2, .int b), (3, .ref (ad (33 + n))), (4, .int (nI g))]) K.hx K.hb d_L_settle_104 hl (k := 6) rfl (nI_1 _) (by decide) rfl (fun ls hl => ?_)
          refine lv_goto (tgt := 32) K.hx K.hb d_L_settle_107 (by decide) ?_
          exact ih (q + 1) (noS_q hno (fun h => h.2 c_74)) hlt2 (by omega) H l1 ls hP hS (lv_sub hl [2, 3, 4, 5, 6, 0] rfl)
        · exact kf g q hgg hlt2 ⟨c_58, c_74⟩ hno H l1 ls hP hS (lv_sub hl [1, 4, 5, 6, 0] rfl)
set_option maxHeartbeats 4000000 in
set_option maxRecDepth 100000 in
theorem lp_st {p : Program} {l : Launch} {e : Env} {s : State} {m : MethodId} {args : Array Value} {below : List Frame} {meth : Method} {c : Code} {Q : State → Prop} {D : va_G} {cs : Nat → ClassId} {ad : Nat → Nat} {v : Nat → Nat → Int32} {sd : Int64} (K : Cx p l m meth c b_L_settle 7 (some .int) s args "WearHours$Planner" D cs ad) {gc pc rc : Nat} (hLC : LCok l D cs ad sd gc pc rc 6) (hPI : PI gc pc rc v) {n : Nat} (hn : n < rc) {b : Int32} 
    (kx : ∀ (_ : noS gc pc rc v n b gc 0) (H : Heap) (l1 : List Loc) (ls : Array Slot), va_P D classes (wv 42 ad (fun k => eC cs ad sd k (v k))) H → va_S (aA 42 ad s.heap.size) s.heap H l1 → lv_has ls 7 [(0, .ref (ad 38)), (3, .ref (ad (33 + n)))] → W p l e (rmx 17 0) s m args below meth c H l1 0 0 Q (F0 m 116 ls []))
    (kf : ∀ (g q : Nat) (_ : g < gc) (_ : q < pc) (_ : okS gc pc rc v n b g q) (_ : noS gc pc rc v n b g q) (H : Heap) (l1 : List Loc) (ls : Array Slot), va_P D classes (wv 42 ad (fun k => eC cs ad sd k (v k))) H → va_S (aA 42 ad s.heap.size) s.heap H l1 → lv_has ls 7 [(0, .ref (ad 38)), (3, .ref (ad (33 + n))), (4, .int (nI g)), (5, .int (nI q)), (6, .int (begZ v n g q))] → W p l e (rmx 17 0) s m args below meth c H l1 0 0 Q (F0 m 77 ls []))
    : ∀ (k g : Nat), noS gc pc rc v n b g 0 → g ≤ gc → gc < g + k → ∀ (H : Heap) (l1 : List Loc) (ls : Array Slot), va_P D classes (wv 42 ad (fun k => eC cs ad sd k (v k))) H → va_S (aA 42 ad s.heap.size) s.heap H l1 → lv_has ls 7 [(0, .ref (ad 38)), (1, .int (nI n)), (2, .int b), (3, .ref (ad (33 + n))), (4, .int (nI g))] → W p l e (rmx 17 0) s m args below meth c H l1 0 0 Q (F0 m 17 ls []) := by
  intro k
  induction k with
  | zero =>
    intro g hno h1 h2
    omega
  | succ k ih =>
    intro g hno hle hlt H l1 ls hP hS hl
    have hp4 := hPI.2.2.2.1
    have hr5 := hPI.2.2.2.2.2.1
    have hg66 := hPI.2.1
    have hn5 : n < 5 := by omega
    refine lv_iload K.hx K.hb d_L_settle_17 (lv_at hl 4 rfl) ?_
    refine lv_aload_n K.hx K.hb d_L_settle_19 rfl (lv_at hl 0 rfl) ?_
    refine g_get K.1 hP (38) (by decide) rfl rfl i_L 0 (by decide) rfl (Or.inl kw_197) rfl d_L_settle_20 ?_
    refine g_get K.1 hP (19) (by decide) rfl rfl i_K 1 (by decide) rfl (Or.inr nw_156) rfl d_L_settle_23 ?_
    refine lv_icmp_ge (tgt := 116) K.hx K.hb d_L_settle_26 (by decide) (fun c_26 => ?_) (fun c_26 => ?_)
    · have hge : g = gc := Nat.le_antisymm hle ((nI_leI (by omega) (by omega)).mp (by rw [← hPI.1]; exact c_26))
      subst hge
      exact kx hno H l1 ls hP hS (lv_sub hl [0, 3] rfl)
    · have hlt2 : g < gc := Nat.lt_of_not_le (fun h => c_26 (by rw [hPI.1]; exact nI_le h (by omega)))
      refine lv_iconst (v := 0) K.hx K.hb d_L_settle_29 (by decide) ?_
      refine lv_istore (lv' := [(5, .int 0), (0, .ref (ad 38)), (1, .int (nI n)), (2, .int b), (3, .ref (ad (33 + n))), (4, .int (nI g))]) K.hx K.hb d_L_settle_30 hl (by decide) rfl (fun ls hl => ?_)
      refine lp_si K hLC hPI hn hlt2 (fun hno H l1 ls hP hS hl => ?_) kf (pc + 1) 0 hno (by omega) (by omega) _ _ ls hP hS (lv_sub hl [1, 2, 3, 4, 5, 0] rfl)
      refine lv_iinc (v := nI (g + 1)) (lv' := [(4, .int (nI (g + 1))), (0, .ref (ad 38)), (1, .int (nI n)), (2, .int b), (3, .ref (ad (33 + n)))]) K.hx K.hb d_L_settle_110 hl (k := 4) rfl (nI_1 _) (by decide) rfl (fun ls hl => ?_)
      refine lv_goto (tgt := 17) K.hx K.hb d_L_settle_113 (by decide) ?_
      exact ih (g + 1) (noS_g hno) hlt2 (by omega) H l1 ls hP hS (lv_sub hl [1, 2, 3, 4, 0] rfl)
set_option maxHeartbeats 4000000 in
set_option maxRecDepth 100000 in
theorem c_L_settle (l : Launch) (D : va_G) (cs : Nat → ClassId) (ad : Nat → Nat) (v : Nat → Nat → Int32) (sd : Int64) {gc pc rc : Nat} (hPI : PI gc pc rc v) {n : Nat} (hn : n < rc) (b : Int32)  : Cm l y_L_settle b_L_settle 7 (some .int) (rmx 17 0) [.ref (ad 38), .int (nI n), .int b] D cs ad v sd (fun r v' sd' => ∃ x, r = some (.int x) ∧ stR gc pc rc (unp v n) n b x v' ∧ sd = sd') (fun cls => False) := by
  refine cw_enter (own := "WearHours$Planner") rfl (Nat.le_of_ble_eq_true rfl) ?_
  intro p e s m below meth c ls K hS hP hl
  have hl : lv_has ls 7 [(0, .ref (ad 38)), (1, .int (nI n)), (2, .int b)] := hl
  have hg6 := hPI.2.1
  have hp4 := hPI.2.2.2.1
  have hr5 := hPI.2.2.2.2.2.1
  have hn5 : n < 5 := by omega
  refine lv_aload_n K.hx K.hb d_L_settle_0 rfl (lv_at hl 0 rfl) ?_
  refine g_get K.1 hP (38) (by decide) rfl rfl i_L 0 (by decide) rfl (Or.inl kw_197) rfl d_L_settle_1 ?_
  refine g_get K.1 hP (19) (by decide) rfl rfl i_K 4 (by decide) rfl (Or.inr nw_164) rfl d_L_settle_4 ?_
  refine lv_iload_n K.hx K.hb d_L_settle_7 rfl (lv_at hl 1 rfl) ?_
  refine g_aald K.1 hP (32) (by decide) rfl 6 rfl (n) rfl (by have := hn5; omega) (by decide) rfl d_L_settle_8 ?_
  refine lv_astore_n (lv' := [(3, .ref (ad (33 + n))), (0, .ref (ad 38)), (1, .int (nI n)), (2, .int b)]) K.hx K.hb d_L_settle_9 rfl hl (by decide) rfl (fun ls hl => ?_)
  refine lv_aload_n K.hx K.hb d_L_settle_10 rfl (lv_at hl 0 rfl) ?_
  refine cc_V K hP hS (c_R_unplace l D cs ad _ _ hn5) kw_299 xm_R_unplace kw_296 kw_297 kw_298 (g_recv K.1.2.1 hP (33 + n) (by have := hn5; omega) (eR hn5) rfl) rfl hl.1 d_L_settle_11 (Nat.le_of_ble_eq_true rfl) (Nat.le_of_ble_eq_true rfl) ⟨(Nat.le_of_ble_eq_true rfl), (Nat.le_of_ble_eq_true rfl)⟩ (fun r v1 sd1 H l1 hp hP hS => ?_)
  obtain ⟨rfl, rfl, rfl⟩ := hp
  refine lv_iconst (v := 0) K.hx K.hb d_L_settle_14 (by decide) ?_
  refine lv_istore (lv' := [(4, .int 0), (3, .ref (ad (33 + n))), (0, .ref (ad 38)), (1, .int (nI n)), (2, .int b)]) K.hx K.hb d_L_settle_15 hl (by decide) rfl (fun ls hl => ?_)
  refine lp_st (v := unp v n) K (c_leastCost l D cs ad sd gc pc rc 6) (PI_unp hPI n hn5) hn (fun hno H l1 ls hP hS hl => ?_) (fun g q hg hq hok hno H l1 ls hP hS hl => ?_) (gc + 1) 0 noS_0 (by omega) (by omega) _ _ ls hP hS (lv_sub hl [2, 3, 4, 1, 0] rfl)
  · refine lv_aload_n K.hx K.hb d_L_settle_116 rfl (lv_at hl 0 rfl) ?_
    refine g_get K.1 hP (38) (by decide) rfl rfl i_L 0 (by decide) rfl (Or.inl kw_197) rfl d_L_settle_117 ?_
    refine lv_aload_n K.hx K.hb d_L_settle_120 rfl (lv_at hl 1 rfl) ?_
    refine cc_V K hP hS (c_K_costUnplaced l D cs ad _ _ hn5) kw_264 xm_K_costUnplaced kw_261 kw_262 kw_263 (g_recv K.1.2.1 hP (19) (by decide) rfl rfl) rfl hl.1 d_L_settle_121 (Nat.le_of_ble_eq_true rfl) (Nat.le_of_ble_eq_true rfl) ⟨(Nat.le_of_ble_eq_true rfl), (Nat.le_of_ble_eq_true rfl)⟩ (fun r v1 sd1 H l1 hp hP hS => ?_)
    obtain ⟨rfl, rfl, rfl⟩ := hp
    exact ce_i K hP hS ⟨_, rfl, Or.inr ⟨hno, rfl, rfl⟩, rfl⟩ (Nat.le_of_ble_eq_true rfl) (Nat.le_of_ble_eq_true rfl) d_L_settle_124
  · have hq4 : q < 4 := by omega
    refine lv_aload_n K.hx K.hb d_L_settle_77 rfl (lv_at hl 0 rfl) ?_
    refine lv_aload_n K.hx K.hb d_L_settle_78 rfl (lv_at hl 1 rfl) ?_
    refine lv_iload K.hx K.hb d_L_settle_79 (lv_at hl 3 rfl) ?_
    refine lv_iload K.hx K.hb d_L_settle_81 (lv_at hl 4 rfl) ?_
    refine cc_V K hP hS (c_L_occupy l D cs ad _ _ (PI_unp hPI n hn5) hn hq4 (begZ (unp v n) n g q)) kw_291 xm_L_occupy kw_288 kw_290 kw_6 (g_recv K.1.2.1 hP (38) (by decide) rfl rfl) rfl hl.1 d_L_settle_83 (Nat.le_of_ble_eq_true rfl) (Nat.le_of_ble_eq_true rfl) ⟨(Nat.le_of_ble_eq_true rfl), (Nat.le_of_ble_eq_true rfl)⟩ (fun r v1 sd1 H l1 hp hP hS => ?_)
    obtain ⟨rfl, rfl, rfl⟩ := hp
    refine lv_aload_n K.hx K.hb d_L_settle_86 rfl (lv_at hl 1 rfl) ?_
    refine lv_iload K.hx K.hb d_L_settle_87 (lv_at hl 4 rfl) ?_
    refine lv_iload K.hx K.hb d_L_settle_89 (lv_at hl 3 rfl) ?_
    refine lv_iload K.hx K.hb d_L_settle_91 (lv_at hl 2 rfl) ?_
    refine cc_V K hP hS (c_R_place l D cs ad _ _ hn5 (begZ (unp v n) n g q) (nI q) (nI g)) kw_303 xm_R_place kw_304 kw_301 kw_302 (g_recv K.1.2.1 hP (33 + n) (by have := hn5; omega) (eR hn5) rfl) rfl hl.1 d_L_settle_93 (Nat.le_of_ble_eq_true rfl) (Nat.le_of_ble_eq_true rfl) ⟨(Nat.le_of_ble_eq_true rfl), (Nat.le_of_ble_eq_true rfl)⟩ (fun r v1 sd1 H l1 hp hP hS => ?_)
    obtain ⟨rfl, rfl, rfl⟩ := hp
    refine lv_aload_n K.hx K.hb d_L_settle_96 rfl (lv_at hl 1 rfl) ?_
    refine g_get K.1 hP (33 + n) (by have := hn5; omega) (eR hn5) rfl i_R 3 (by decide) rfl (Or.inr nw_131) rfl d_L_settle_97 ?_
    refine lv_topE (y := (unp v n (33 + n) 3)) (by first | (simp [u2_at, kp, occ]; done) | (simp [u2_at, kp, occ] <;> (intros; omega)) | (simp only [u2_at, kp, occ]; (repeat' split) <;> first | rfl | (exfalso; omega))) ?_
    refine lv_iload K.hx K.hb d_L_settle_100 (lv_at hl 4 rfl) ?_
    refine lv_imul K.hx K.hb d_L_settle_102 ?_
    exact ce_i K hP hS ⟨_, rfl, Or.inl ⟨g, q, hg, hq, hok, hno, rfl, rfl⟩, rfl⟩ (Nat.le_of_ble_eq_true rfl) (Nat.le_of_ble_eq_true rfl) d_L_settle_103
