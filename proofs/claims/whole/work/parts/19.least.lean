theorem rm_fr {k k' n n' : Nat} (hk : k + 1 ≤ k') : (rmx k n).frames + 1 ≤ (rmx k' n').frames := by
  simp only [rmx]; omega
theorem rm_lo {st : List Value} {maxL k k' n n' : Nat} (h : (st.map fun v => v.category).sum ≤ 8) (hm : maxL ≤ 20) (hk : k + 1 ≤ k') : (st.map fun v => v.category).sum + (maxL + 11) + (rmx k n).locals ≤ (rmx k' n').locals := by
  simp only [rmx]; omega
/-- the contract of leastCost, f calls deep -/
def LCok (l : Launch) (D : va_G) (cs : Nat → ClassId) (ad : Nat → Nat) (sd : Int64) (gc pc rc f : Nat) : Prop := ∀ (v : Nat → Nat → Int32) (n : Nat) (lim : Int32), PI gc pc rc v → n ≤ rc → rc < n + f →
  Cm l y_L_leastCost b_L_leastCost 7 (some .int) (rmx (2 * f + 3) 0) [.ref (ad 38), .int (nI n), .int lim] D cs ad v sd (fun r v' sd' => r = some (.int (lcF gc pc rc f v n lim)) ∧ v = v' ∧ sd = sd') (fun _ => False)
theorem PI_of {gc pc rc : Nat} {v u : Nat → Nat → Int32} (h : PI gc pc rc v) (h1 : u 19 = v 19) (h2 : ∀ i, i < 5 → u (33 + i) = v (33 + i)) : PI gc pc rc u := by
  obtain ⟨a1, a2, a3, a4, a5, a6, a7⟩ := h
  refine ⟨by rw [h1]; exact a1, a2, by rw [h1]; exact a3, a4, by rw [h1]; exact a5, a6, fun i hi => ?_⟩
  obtain ⟨t, ht, e⟩ := a7 i hi
  exact ⟨t, ht, by rw [h2 i (by omega)]; exact e⟩
theorem PI_occ {gc pc rc : Nat} {v : Nat → Nat → Int32} (h : PI gc pc rc v) (i p : Nat) (x : Int32) : PI gc pc rc (occ v i p x) :=
  PI_of h (by unfold occ; rw [u2_ne (by decide), u2_ne (by decide)]) (fun j hj => by unfold occ; rw [u2_ne (by omega), u2_ne (by omega)])
theorem occ_back (v : Nat → Nat → Int32) (i p : Nat) (h : Int32) : u2 (u2 (occ v i p h) 39 p (v 39 p)) 40 (th v i) (v 40 (th v i)) = v := by
  funext a b
  simp only [occ, u2_at]
  by_cases h1 : a = 40 ∧ b = th v i
  · rw [if_pos h1, h1.1, h1.2]
  · rw [if_neg h1]
    by_cases h2 : a = 39 ∧ b = p
    · rw [if_pos h2, h2.1, h2.2]
    · rw [if_neg h2, if_neg h2, if_neg h1]
set_option maxHeartbeats 4000000 in
set_option maxRecDepth 100000 in
theorem c_L_costBy (l : Launch) (D : va_G) (cs : Nat → ClassId) (ad : Nat → Nat) (v : Nat → Nat → Int32) (sd : Int64) {gc pc rc f : Nat} (hLC : LCok l D cs ad sd gc pc rc f) (hPI : PI gc pc rc v) {n : Nat} (hn : n < rc) (hf : rc < n + 1 + f) {q : Nat} (hq : q < 4) (h lim : Int32)  : Cm l y_L_costBy b_L_costBy 10 (some .int) (rmx (2 * f + 4) 0) [.ref (ad 38), .int (nI n), .int (nI q), .int h, .int lim] D cs ad v sd (fun r v' sd' => r = some (.int (cbG (lcF gc pc rc f) v n q h lim)) ∧ v = v' ∧ sd = sd') (fun cls => False) := by
  refine cw_enter (own := "WearHours$Planner") rfl (Nat.le_of_ble_eq_true rfl) ?_
  intro p e s m below meth c ls K hS hP hl
  have hl : lv_has ls 10 [(0, .ref (ad 38)), (1, .int (nI n)), (2, .int (nI q)), (3, .int h), (4, .int lim)] := hl
  obtain ⟨hth, hth8⟩ := PI_th hPI hn
  have hg6 := hPI.2.1
  have hp4 := hPI.2.2.2.1
  have hr5 := hPI.2.2.2.2.2.1
  have hn5 : n < 5 := by omega
  have hn1 : n + 1 < 6 := by omega
  refine lv_aload_n K.hx K.hb d_L_costBy_0 rfl (lv_at hl 0 rfl) ?_
  refine g_get K.1 hP (38) (by decide) rfl rfl i_L 0 (by decide) rfl (Or.inl kw_197) rfl d_L_costBy_1 ?_
  refine g_get K.1 hP (19) (by decide) rfl rfl i_K 4 (by decide) rfl (Or.inr nw_164) rfl d_L_costBy_4 ?_
  refine lv_iload_n K.hx K.hb d_L_costBy_7 rfl (lv_at hl 1 rfl) ?_
  refine g_aald K.1 hP (32) (by decide) rfl 6 rfl (n) rfl (by have := hn5; omega) (by decide) rfl d_L_costBy_8 ?_
  refine lv_astore (lv' := [(5, .ref (ad (33 + n))), (0, .ref (ad 38)), (1, .int (nI n)), (2, .int (nI q)), (3, .int h), (4, .int lim)]) K.hx K.hb d_L_costBy_9 hl (by decide) rfl (fun ls hl => ?_)
  refine lv_aload K.hx K.hb d_L_costBy_11 (lv_at hl 0 rfl) ?_
  refine g_get K.1 hP (33 + n) (by have := hn5; omega) (eR hn5) rfl i_R 3 (by decide) rfl (Or.inr nw_131) rfl d_L_costBy_13 ?_
  refine lv_iload_n K.hx K.hb d_L_costBy_16 rfl (lv_at hl 4 rfl) ?_
  refine lv_imul K.hx K.hb d_L_costBy_17 ?_
  refine lv_istore (lv' := [(6, .int ((v (33 + n) 3) * h)), (5, .ref (ad (33 + n))), (0, .ref (ad 38)), (1, .int (nI n)), (2, .int (nI q)), (3, .int h), (4, .int lim)]) K.hx K.hb d_L_costBy_18 hl (by decide) rfl (fun ls hl => ?_)
  refine lv_iload K.hx K.hb d_L_costBy_20 (lv_at hl 0 rfl) ?_
  refine lv_aload_n K.hx K.hb d_L_costBy_22 rfl (lv_at hl 2 rfl) ?_
  refine g_get K.1 hP (38) (by decide) rfl rfl i_L 3 (by decide) rfl (Or.inl kw_200) rfl d_L_costBy_23 ?_
  refine lv_iload_n K.hx K.hb d_L_costBy_26 rfl (lv_at hl 3 rfl) ?_
  refine lv_iconst (v := 1) K.hx K.hb d_L_costBy_27 (by decide) ?_
  refine lv_iadd K.hx K.hb d_L_costBy_28 ?_
  refine lv_topE (y := nI (n + 1)) (nI_1 _) ?_
  refine g_iald K.1 hP (41) (by decide) rfl 0 rfl (n + 1) rfl (by have := hn1; omega) (by decide) d_L_costBy_29 ?_
  refine lv_iadd K.hx K.hb d_L_costBy_30 ?_
  refine lv_iload K.hx K.hb d_L_costBy_31 (lv_at hl 6 rfl) ?_
  refine lv_icmp_lt (tgt := 39) K.hx K.hb d_L_costBy_33 (by decide) (fun c_33 => ?_) (fun c_33 => ?_)
  · refine lv_aload_n K.hx K.hb d_L_costBy_39 rfl (lv_at hl 2 rfl) ?_
    refine g_get K.1 hP (38) (by decide) rfl rfl i_L 1 (by decide) rfl (Or.inl kw_198) rfl d_L_costBy_40 ?_
    refine lv_iload_n K.hx K.hb d_L_costBy_43 rfl (lv_at hl 4 rfl) ?_
    refine g_iald K.1 hP (39) (by decide) rfl 0 rfl (q) rfl (by have := hq; omega) (by decide) d_L_costBy_44 ?_
    refine lv_istore (lv' := [(7, .int (v 39 q)), (6, .int ((v (33 + n) 3) * h)), (5, .ref (ad (33 + n))), (0, .ref (ad 38)), (1, .int (nI n)), (2, .int (nI q)), (3, .int h), (4, .int lim)]) K.hx K.hb d_L_costBy_45 hl (by decide) rfl (fun ls hl => ?_)
    refine lv_aload_n K.hx K.hb d_L_costBy_47 rfl (lv_at hl 3 rfl) ?_
    refine g_get K.1 hP (38) (by decide) rfl rfl i_L 2 (by decide) rfl (Or.inl kw_199) rfl d_L_costBy_48 ?_
    refine lv_aload K.hx K.hb d_L_costBy_51 (lv_at hl 2 rfl) ?_
    refine g_get K.1 hP (33 + n) (by have := hn5; omega) (eR hn5) rfl i_R 0 (by decide) rfl (Or.inr nw_123) rfl d_L_costBy_53 ?_
    refine g_iald K.1 hP (40) (by decide) rfl 0 rfl (th v n) hth (by have := hth8; omega) (by decide) d_L_costBy_56 ?_
    refine lv_istore (lv' := [(8, .int (v 40 (th v n))), (7, .int (v 39 q)), (6, .int ((v (33 + n) 3) * h)), (5, .ref (ad (33 + n))), (0, .ref (ad 38)), (1, .int (nI n)), (2, .int (nI q)), (3, .int h), (4, .int lim)]) K.hx K.hb d_L_costBy_57 hl (by decide) rfl (fun ls hl => ?_)
    refine lv_aload_n K.hx K.hb d_L_costBy_59 rfl (lv_at hl 4 rfl) ?_
    refine lv_aload K.hx K.hb d_L_costBy_60 (lv_at hl 3 rfl) ?_
    refine lv_iload_n K.hx K.hb d_L_costBy_62 rfl (lv_at hl 6 rfl) ?_
    refine lv_iload_n K.hx K.hb d_L_costBy_63 rfl (lv_at hl 7 rfl) ?_
    refine cc_V K hP hS (c_L_occupy l D cs ad _ _ hPI hn hq h) kw_291 xm_L_occupy kw_288 kw_290 kw_6 (g_recv K.1.2.1 hP (38) (by decide) rfl rfl) rfl hl.1 d_L_costBy_64 (rm_fr (by omega)) (rm_lo (Nat.le_of_ble_eq_true rfl) (by decide) (by omega)) ⟨(Nat.le_of_ble_eq_true rfl), (Nat.le_of_ble_eq_true rfl)⟩ (fun r v1 sd1 H l1 hp hP hS => ?_)
    obtain ⟨rfl, rfl, rfl⟩ := hp
    refine lv_iload K.hx K.hb d_L_costBy_67 (lv_at hl 2 rfl) ?_
    refine lv_aload_n K.hx K.hb d_L_costBy_69 rfl (lv_at hl 4 rfl) ?_
    refine lv_iload_n K.hx K.hb d_L_costBy_70 rfl (lv_at hl 5 rfl) ?_
    refine lv_iconst (v := 1) K.hx K.hb d_L_costBy_71 (by decide) ?_
    refine lv_iadd K.hx K.hb d_L_costBy_72 ?_
    refine lv_topE (y := nI (n + 1)) (nI_1 _) ?_
    refine lv_iload K.hx K.hb d_L_costBy_73 (lv_at hl 8 rfl) ?_
    refine lv_iload K.hx K.hb d_L_costBy_75 (lv_at hl 2 rfl) ?_
    refine lv_isub K.hx K.hb d_L_costBy_77 ?_
    refine cc_V K hP hS (hLC _ (n + 1) (lim - ((v (33 + n) 3) * h)) (PI_occ hPI n q h) (by omega) (by omega)) kw_283 xm_L_leastCost kw_280 kw_282 kw_4 (g_recv K.1.2.1 hP (38) (by decide) rfl rfl) rfl hl.1 d_L_costBy_78 (rm_fr (by omega)) (rm_lo (Nat.le_of_ble_eq_true rfl) (by decide) (by omega)) ⟨(Nat.le_of_ble_eq_true rfl), (Nat.le_of_ble_eq_true rfl)⟩ (fun r v1 sd1 H l1 hp hP hS => ?_)
    obtain ⟨rfl, rfl, rfl⟩ := hp
    refine lv_iadd K.hx K.hb d_L_costBy_81 ?_
    refine lv_istore (lv' := [(9, .int (((v (33 + n) 3) * h) + (lcF gc pc rc f (occ v n q h) (n + 1) (lim - ((v (33 + n) 3) * h))))), (8, .int (v 40 (th v n))), (7, .int (v 39 q)), (6, .int ((v (33 + n) 3) * h)), (5, .ref (ad (33 + n))), (0, .ref (ad 38)), (1, .int (nI n)), (2, .int (nI q)), (3, .int h), (4, .int lim)]) K.hx K.hb d_L_costBy_82 hl (by decide) rfl (fun ls hl => ?_)
    refine lv_aload_n K.hx K.hb d_L_costBy_84 rfl (lv_at hl 5 rfl) ?_
    refine g_get K.1 hP (38) (by decide) rfl rfl i_L 1 (by decide) rfl (Or.inl kw_198) rfl d_L_costBy_85 ?_
    refine lv_iload_n K.hx K.hb d_L_costBy_88 rfl (lv_at hl 7 rfl) ?_
    refine lv_iload K.hx K.hb d_L_costBy_89 (lv_at hl 2 rfl) ?_
    refine g_iast K.1 hP hS (39) (by decide) (fun _ => rfl) 0 rfl (q) rfl (by have := hq; omega) (by decide) d_L_costBy_91 (fun H l1 hP hS => ?_)
    refine lv_aload_n K.hx K.hb d_L_costBy_92 rfl (lv_at hl 5 rfl) ?_
    refine g_get K.1 hP (38) (by decide) rfl rfl i_L 2 (by decide) rfl (Or.inl kw_199) rfl d_L_costBy_93 ?_
    refine lv_aload K.hx K.hb d_L_costBy_96 (lv_at hl 4 rfl) ?_
    refine g_get K.1 hP (33 + n) (by have := hn5; omega) (eR hn5) rfl i_R 0 (by decide) rfl (Or.inr nw_123) rfl d_L_costBy_98 ?_
    refine lv_topE (y := (v (33 + n) 0)) (by first | (simp [u2_at, kp, occ]; done) | (simp [u2_at, kp, occ] <;> (intros; omega)) | (simp only [u2_at, kp, occ]; (repeat' split) <;> first | rfl | (exfalso; omega))) ?_
    refine lv_iload K.hx K.hb d_L_costBy_101 (lv_at hl 1 rfl) ?_
    refine g_iast K.1 hP hS (40) (by decide) (fun _ => rfl) 0 rfl (th v n) hth (by have := hth8; omega) (by decide) d_L_costBy_103 (fun H l1 hP hS => ?_)
    refine lv_iload K.hx K.hb d_L_costBy_104 (lv_at hl 0 rfl) ?_
    exact ce_i K hP hS ⟨by rw [show cbG (lcF gc pc rc f) v n q h lim = ((v (33 + n) 3) * h) + (lcF gc pc rc f (occ v n q h) (n + 1) (lim - ((v (33 + n) 3) * h))) from if_pos c_33], (occ_back v n q h).symm, rfl⟩ (Nat.le_of_ble_eq_true rfl) (Nat.le_of_ble_eq_true rfl) d_L_costBy_106
  · refine lv_iload K.hx K.hb d_L_costBy_36 (lv_at hl 6 rfl) ?_
    exact ce_i K hP hS ⟨by rw [show cbG (lcF gc pc rc f) v n q h lim = lim from if_neg c_33], rfl, rfl⟩ (Nat.le_of_ble_eq_true rfl) (Nat.le_of_ble_eq_true rfl) d_L_costBy_38
set_option maxHeartbeats 4000000 in
set_option maxRecDepth 100000 in
theorem lp_lc {p : Program} {l : Launch} {e : Env} {s : State} {m : MethodId} {args : Array Value} {below : List Frame} {meth : Method} {c : Code} {Q : State → Prop} {D : va_G} {cs : Nat → ClassId} {ad : Nat → Nat} {v : Nat → Nat → Int32} {sd : Int64} (K : Cx p l m meth c b_L_leastCost 7 (some .int) s args "WearHours$Planner" D cs ad) {gc pc rc f : Nat} (hLC : LCok l D cs ad sd gc pc rc f) (hPI : PI gc pc rc v) {n : Nat} (hn : n < rc) (hf : rc < n + 1 + f) {lim : Int32} 
    (kx : ∀  (H : Heap) (l1 : List Loc) (ls : Array Slot), va_P D classes (wv 42 ad (fun k => eC cs ad sd k (v k))) H → va_S (aA 42 ad s.heap.size) s.heap H l1 → lv_has ls 7 [(0, .ref (ad 38)), (1, .int (nI n)), (3, .ref (ad (33 + n))), (4, .int (ppL (lcF gc pc rc f) gc v n lim pc))] → W p l e (rmx (2 * (f + 1) + 3) 0) s m args below meth c H l1 0 0 Q (F0 m 75 ls []))
    : ∀ (k g : Nat), g ≤ pc → pc < g + k → ∀ (H : Heap) (l1 : List Loc) (ls : Array Slot), va_P D classes (wv 42 ad (fun k => eC cs ad sd k (v k))) H → va_S (aA 42 ad s.heap.size) s.heap H l1 → lv_has ls 7 [(0, .ref (ad 38)), (1, .int (nI n)), (3, .ref (ad (33 + n))), (4, .int (ppL (lcF gc pc rc f) gc v n lim g)), (5, .int (nI g))] → W p l e (rmx (2 * (f + 1) + 3) 0) s m args below meth c H l1 0 0 Q (F0 m 29 ls []) := by
  intro k
  induction k with
  | zero =>
    intro g  h1 h2
    omega
  | succ k ih =>
    intro g  hle hlt H l1 ls hP hS hl
    have hp4 := hPI.2.2.2.1
    have hr5 := hPI.2.2.2.2.2.1
    have hn5 : n < 5 := by omega
    refine lv_iload K.hx K.hb d_L_leastCost_29 (lv_at hl 4 rfl) ?_
    refine lv_aload_n K.hx K.hb d_L_leastCost_31 rfl (lv_at hl 0 rfl) ?_
    refine g_get K.1 hP (38) (by decide) rfl rfl i_L 0 (by decide) rfl (Or.inl kw_197) rfl d_L_leastCost_32 ?_
    refine g_get K.1 hP (19) (by decide) rfl rfl i_K 3 (by decide) rfl (Or.inr nw_161) rfl d_L_leastCost_35 ?_
    refine lv_icmp_ge (tgt := 75) K.hx K.hb d_L_leastCost_38 (by decide) (fun c_38 => ?_) (fun c_38 => ?_)
    · have hge : g = pc := Nat.le_antisymm hle ((nI_leI (by omega) (by omega)).mp (by rw [← hPI.2.2.1]; exact c_38))
      subst hge
      exact kx H l1 ls hP hS (lv_sub hl [0, 1, 2, 3] rfl)
    · have hlt2 : g < pc := Nat.lt_of_not_le (fun h => c_38 (by rw [hPI.2.2.1]; exact nI_le h (by omega)))
      have hg9 : g < 4 := by omega
      refine lv_aload_n K.hx K.hb d_L_leastCost_41 rfl (lv_at hl 0 rfl) ?_
      refine lv_aload_n K.hx K.hb d_L_leastCost_42 rfl (lv_at hl 2 rfl) ?_
      refine lv_iload K.hx K.hb d_L_leastCost_43 (lv_at hl 4 rfl) ?_
      refine cc_V K hP hS (c_L_firstBeginning l D cs ad _ _ hPI hn hg9) kw_268 xm_L_firstBeginning kw_265 kw_267 kw_2 (g_recv K.1.2.1 hP (38) (by decide) rfl rfl) rfl hl.1 d_L_leastCost_45 (rm_fr (by omega)) (rm_lo (Nat.le_of_ble_eq_true rfl) (by decide) (by omega)) ⟨(Nat.le_of_ble_eq_true rfl), (Nat.le_of_ble_eq_true rfl)⟩ (fun r v1 sd1 H l1 hp hP hS => ?_)
      obtain ⟨rfl, rfl, rfl⟩ := hp
      refine lv_istore (lv' := [(6, .int (fbZ v n g gc)), (0, .ref (ad 38)), (1, .int (nI n)), (3, .ref (ad (33 + n))), (4, .int (ppL (lcF gc pc rc f) gc v n lim g)), (5, .int (nI g))]) K.hx K.hb d_L_leastCost_48 hl (by decide) rfl (fun ls hl => ?_)
      refine lv_iload K.hx K.hb d_L_leastCost_50 (lv_at hl 0 rfl) ?_
      refine lv_iconst (v := (-1)) K.hx K.hb d_L_leastCost_52 (by decide) ?_
      refine lv_icmp_eq (tgt := 69) K.hx K.hb d_L_leastCost_53 (by decide) (fun c_53 => ?_) (fun c_53 => ?_)
      · refine lv_iinc (v := nI (g + 1)) (lv' := [(5, .int (nI (g + 1))), (6, .int (fbZ v n g gc)), (0, .ref (ad 38)), (1, .int (nI n)), (3, .ref (ad (33 + n))), (4, .int (ppL (lcF gc pc rc f) gc v n lim g))]) K.hx K.hb d_L_leastCost_69 hl (k := 5) rfl (nI_1 _) (by decide) rfl (fun ls hl => ?_)
        refine lv_goto (tgt := 29) K.hx K.hb d_L_leastCost_72 (by decide) ?_
        exact ih (g + 1) hlt2 (by omega) H l1 ls hP hS (by rw [show ppL (lcF gc pc rc f) gc v n lim (g + 1) = ppL (lcF gc pc rc f) gc v n lim g from if_pos c_53]; exact lv_sub hl [2, 3, 4, 5, 0] rfl)
      · refine lv_aload_n K.hx K.hb d_L_leastCost_56 rfl (lv_at hl 1 rfl) ?_
        refine lv_iload_n K.hx K.hb d_L_leastCost_57 rfl (lv_at hl 2 rfl) ?_
        refine lv_iload K.hx K.hb d_L_leastCost_58 (lv_at hl 5 rfl) ?_
        refine lv_iload K.hx K.hb d_L_leastCost_60 (lv_at hl 0 rfl) ?_
        refine lv_iload K.hx K.hb d_L_leastCost_62 (lv_at hl 4 rfl) ?_
        refine cc_V K hP hS (c_L_costBy l D cs ad _ _ hLC hPI hn (by omega) hg9 (fbZ v n g gc) (ppL (lcF gc pc rc f) gc v n lim g)) kw_287 xm_L_costBy kw_284 kw_286 kw_5 (g_recv K.1.2.1 hP (38) (by decide) rfl rfl) rfl hl.1 d_L_leastCost_64 (rm_fr (by omega)) (rm_lo (Nat.le_of_ble_eq_true rfl) (by decide) (by omega)) ⟨(Nat.le_of_ble_eq_true rfl), (Nat.le_of_ble_eq_true rfl)⟩ (fun r v1 sd1 H l1 hp hP hS => ?_)
        obtain ⟨rfl, rfl, rfl⟩ := hp
        refine lv_istore (lv' := [(4, .int (cbG (lcF gc pc rc f) v n g (fbZ v n g gc) (ppL (lcF gc pc rc f) gc v n lim g))), (6, .int (fbZ v n g gc)), (0, .ref (ad 38)), (1, .int (nI n)), (3, .ref (ad (33 + n))), (5, .int (nI g))]) K.hx K.hb d_L_leastCost_67 hl (by decide) rfl (fun ls hl => ?_)
        refine lv_iinc (v := nI (g + 1)) (lv' := [(5, .int (nI (g + 1))), (4, .int (cbG (lcF gc pc rc f) v n g (fbZ v n g gc) (ppL (lcF gc pc rc f) gc v n lim g))), (6, .int (fbZ v n g gc)), (0, .ref (ad 38)), (1, .int (nI n)), (3, .ref (ad (33 + n)))]) K.hx K.hb d_L_leastCost_69 hl (k := 5) rfl (nI_1 _) (by decide) rfl (fun ls hl => ?_)
        refine lv_goto (tgt := 29) K.hx K.hb d_L_leastCost_72 (by decide) ?_
        exact ih (g + 1) hlt2 (by omega) H l1 ls hP hS (by rw [show ppL (lcF gc pc rc f) gc v n lim (g + 1) = cbG (lcF gc pc rc f) v n g (fbZ v n g gc) (ppL (lcF gc pc rc f) gc v n lim g) from if_neg c_53]; exact lv_sub hl [3, 4, 5, 1, 0] rfl)
set_option maxHeartbeats 4000000 in
set_option maxRecDepth 100000 in
theorem c_leastCost_succ {l : Launch} {D : va_G} {cs : Nat → ClassId} {ad : Nat → Nat} {sd : Int64} {gc pc rc f : Nat} (hLC : LCok l D cs ad sd gc pc rc f) : LCok l D cs ad sd gc pc rc (f + 1) := by
  intro v n lim hPI hnr hf
  have hp4 := hPI.2.2.2.1
  have hr5 := hPI.2.2.2.2.2.1
  refine cw_enter (own := "WearHours$Planner") rfl (Nat.le_of_ble_eq_true rfl) ?_
  intro p e s m below meth c ls K hS hP hl
  have hl : lv_has ls 7 [(0, .ref (ad 38)), (1, .int (nI n)), (2, .int lim)] := hl
  refine lv_iload_n K.hx K.hb d_L_leastCost_0 rfl (lv_at hl 1 rfl) ?_
  refine lv_aload_n K.hx K.hb d_L_leastCost_1 rfl (lv_at hl 0 rfl) ?_
  refine g_get K.1 hP (38) (by decide) rfl rfl i_L 0 (by decide) rfl (Or.inl kw_197) rfl d_L_leastCost_2 ?_
  refine g_get K.1 hP (19) (by decide) rfl rfl i_K 5 (by decide) rfl (Or.inr nw_166) rfl d_L_leastCost_5 ?_
  refine lv_icmp_lt (tgt := 13) K.hx K.hb d_L_leastCost_8 (by decide) (fun c_8 => ?_) (fun c_8 => ?_)
  · have hn : n < rc := (nI_ltI (by omega) (by omega)).mp (by rw [← hPI.2.2.2.2.1]; exact c_8)
    have hn5 : n < 5 := by omega
    have hn1 : n + 1 < 6 := by omega
    refine lv_aload_n K.hx K.hb d_L_leastCost_13 rfl (lv_at hl 0 rfl) ?_
    refine g_get K.1 hP (38) (by decide) rfl rfl i_L 0 (by decide) rfl (Or.inl kw_197) rfl d_L_leastCost_14 ?_
    refine g_get K.1 hP (19) (by decide) rfl rfl i_K 4 (by decide) rfl (Or.inr nw_164) rfl d_L_leastCost_17 ?_
    refine lv_iload_n K.hx K.hb d_L_leastCost_20 rfl (lv_at hl 1 rfl) ?_
    refine g_aald K.1 hP (32) (by decide) rfl 6 rfl (n) rfl (by have := hn5; omega) (by decide) rfl d_L_leastCost_21 ?_
    refine lv_astore_n (lv' := [(3, .ref (ad (33 + n))), (0, .ref (ad 38)), (1, .int (nI n)), (2, .int lim)]) K.hx K.hb d_L_leastCost_22 rfl hl (by decide) rfl (fun ls hl => ?_)
    refine lv_iload_n K.hx K.hb d_L_leastCost_23 rfl (lv_at hl 3 rfl) ?_
    refine lv_istore (lv' := [(4, .int lim), (3, .ref (ad (33 + n))), (0, .ref (ad 38)), (1, .int (nI n)), (2, .int lim)]) K.hx K.hb d_L_leastCost_24 hl (by decide) rfl (fun ls hl => ?_)
    refine lv_iconst (v := 0) K.hx K.hb d_L_leastCost_26 (by decide) ?_
    refine lv_istore (lv' := [(5, .int 0), (4, .int lim), (3, .ref (ad (33 + n))), (0, .ref (ad 38)), (1, .int (nI n)), (2, .int lim)]) K.hx K.hb d_L_leastCost_27 hl (by decide) rfl (fun ls hl => ?_)
    refine lp_lc K hLC hPI hn (by omega) (fun H l1 ls hP hS hl => ?_) (pc + 1) 0 (by omega) (by omega) _ _ ls hP hS (lv_sub hl [3, 4, 2, 1, 0] rfl)
    refine lv_aload_n K.hx K.hb d_L_leastCost_75 rfl (lv_at hl 0 rfl) ?_
    refine g_get K.1 hP (38) (by decide) rfl rfl i_L 0 (by decide) rfl (Or.inl kw_197) rfl d_L_leastCost_76 ?_
    refine lv_aload_n K.hx K.hb d_L_leastCost_79 rfl (lv_at hl 2 rfl) ?_
    refine cc_V K hP hS (c_K_costUnplaced l D cs ad _ _ hn5) kw_264 xm_K_costUnplaced kw_261 kw_262 kw_263 (g_recv K.1.2.1 hP (19) (by decide) rfl rfl) rfl hl.1 d_L_leastCost_80 (rm_fr (by omega)) (rm_lo (Nat.le_of_ble_eq_true rfl) (by decide) (by omega)) ⟨(Nat.le_of_ble_eq_true rfl), (Nat.le_of_ble_eq_true rfl)⟩ (fun r v1 sd1 H l1 hp hP hS => ?_)
    obtain ⟨rfl, rfl, rfl⟩ := hp
    refine lv_istore (lv' := [(5, .int (v (33 + n) 3 * 168 + v 19 7)), (0, .ref (ad 38)), (1, .int (nI n)), (3, .ref (ad (33 + n))), (4, .int (ppL (lcF gc pc rc f) gc v n lim pc))]) K.hx K.hb d_L_leastCost_83 hl (by decide) rfl (fun ls hl => ?_)
    refine lv_iload K.hx K.hb d_L_leastCost_85 (lv_at hl 0 rfl) ?_
    refine lv_aload_n K.hx K.hb d_L_leastCost_87 rfl (lv_at hl 1 rfl) ?_
    refine g_get K.1 hP (38) (by decide) rfl rfl i_L 3 (by decide) rfl (Or.inl kw_200) rfl d_L_leastCost_88 ?_
    refine lv_iload_n K.hx K.hb d_L_leastCost_91 rfl (lv_at hl 2 rfl) ?_
    refine lv_iconst (v := 1) K.hx K.hb d_L_leastCost_92 (by decide) ?_
    refine lv_iadd K.hx K.hb d_L_leastCost_93 ?_
    refine lv_topE (y := nI (n + 1)) (nI_1 _) ?_
    refine g_iald K.1 hP (41) (by decide) rfl 0 rfl (n + 1) rfl (by have := hn1; omega) (by decide) d_L_leastCost_94 ?_
    refine lv_iadd K.hx K.hb d_L_leastCost_95 ?_
    refine lv_iload K.hx K.hb d_L_leastCost_96 (lv_at hl 4 rfl) ?_
    refine lv_icmp_ge (tgt := 118) K.hx K.hb d_L_leastCost_98 (by decide) (fun c_98 => ?_) (fun c_98 => ?_)
    · refine lv_iload K.hx K.hb d_L_leastCost_118 (lv_at hl 4 rfl) ?_
      exact ce_i K hP hS ⟨by rw [show lcF gc pc rc (f + 1) v n lim = ppL (lcF gc pc rc f) gc v n lim pc from (if_pos hn).trans (if_neg (Int32.not_lt.mpr c_98))], rfl, rfl⟩ (Nat.le_of_ble_eq_true rfl) (Nat.le_of_ble_eq_true rfl) d_L_leastCost_120
    · refine lv_iload K.hx K.hb d_L_leastCost_101 (lv_at hl 0 rfl) ?_
      refine lv_aload_n K.hx K.hb d_L_leastCost_103 rfl (lv_at hl 1 rfl) ?_
      refine lv_iload_n K.hx K.hb d_L_leastCost_104 rfl (lv_at hl 2 rfl) ?_
      refine lv_iconst (v := 1) K.hx K.hb d_L_leastCost_105 (by decide) ?_
      refine lv_iadd K.hx K.hb d_L_leastCost_106 ?_
      refine lv_topE (y := nI (n + 1)) (nI_1 _) ?_
      refine lv_iload K.hx K.hb d_L_leastCost_107 (lv_at hl 4 rfl) ?_
      refine lv_iload K.hx K.hb d_L_leastCost_109 (lv_at hl 0 rfl) ?_
      refine lv_isub K.hx K.hb d_L_leastCost_111 ?_
      refine cc_V K hP hS (hLC _ (n + 1) ((ppL (lcF gc pc rc f) gc v n lim pc) - (v (33 + n) 3 * 168 + v 19 7)) hPI (by omega) (by omega)) kw_283 xm_L_leastCost kw_280 kw_282 kw_4 (g_recv K.1.2.1 hP (38) (by decide) rfl rfl) rfl hl.1 d_L_leastCost_112 (rm_fr (by omega)) (rm_lo (Nat.le_of_ble_eq_true rfl) (by decide) (by omega)) ⟨(Nat.le_of_ble_eq_true rfl), (Nat.le_of_ble_eq_true rfl)⟩ (fun r v1 sd1 H l1 hp hP hS => ?_)
      obtain ⟨rfl, rfl, rfl⟩ := hp
      refine lv_iadd K.hx K.hb d_L_leastCost_115 ?_
      refine lv_istore (lv' := [(4, .int ((v (33 + n) 3 * 168 + v 19 7) + (lcF gc pc rc f v (n + 1) ((ppL (lcF gc pc rc f) gc v n lim pc) - (v (33 + n) 3 * 168 + v 19 7))))), (5, .int (v (33 + n) 3 * 168 + v 19 7)), (0, .ref (ad 38)), (1, .int (nI n)), (3, .ref (ad (33 + n)))]) K.hx K.hb d_L_leastCost_116 hl (by decide) rfl (fun ls hl => ?_)
      refine lv_iload K.hx K.hb d_L_leastCost_118 (lv_at hl 0 rfl) ?_
      exact ce_i K hP hS ⟨by rw [show lcF gc pc rc (f + 1) v n lim = (v (33 + n) 3 * 168 + v 19 7) + (lcF gc pc rc f v (n + 1) ((ppL (lcF gc pc rc f) gc v n lim pc) - (v (33 + n) 3 * 168 + v 19 7))) from (if_pos hn).trans (if_pos (Int32.not_le.mp c_98))], rfl, rfl⟩ (Nat.le_of_ble_eq_true rfl) (Nat.le_of_ble_eq_true rfl) d_L_leastCost_120
  · refine lv_iconst (v := 0) K.hx K.hb d_L_leastCost_11 (by decide) ?_
    exact ce_i K hP hS ⟨by rw [show lcF gc pc rc (f + 1) v n lim = 0 from if_neg (fun h => c_8 (by rw [hPI.2.2.2.2.1]; exact nI_lt h (by omega)))], rfl, rfl⟩ (Nat.le_of_ble_eq_true rfl) (Nat.le_of_ble_eq_true rfl) d_L_leastCost_12
theorem c_leastCost (l : Launch) (D : va_G) (cs : Nat → ClassId) (ad : Nat → Nat) (sd : Int64) (gc pc rc : Nat) : ∀ f, LCok l D cs ad sd gc pc rc f
  | 0 => fun _ _ _ _ h1 h2 => absurd h2 (by omega)
  | f + 1 => c_leastCost_succ (c_leastCost l D cs ad sd gc pc rc f)
