/-! makeBest, plan, done -/
theorem ite01 {c : Prop} [Decidable c] (h : (if c then (0 : Int32) else 1) = 0) : c := by
  by_cases hc : c
  · exact hc
  · rw [if_neg hc] at h
    exact absurd h (by decide)
def bmp (v : Nat → Nat → Int32) (n : Nat) : Nat → Nat → Int32 := if v (33 + n) 4 = -1 then v else u2 v 38 6 (v 38 6 + 1)
/-- k repairs from n on are settled, one after another -/
def mbR (gc pc rc : Nat) : Nat → Nat → (Nat → Nat → Int32) → Int32 → (Nat → Nat → Int32) → Prop
  | 0 => fun _ u _ v' => u = v'
  | k + 1 => fun n u b v' => ∃ x v1, stR gc pc rc (unp u n) n b x v1 ∧ mbR gc pc rc k (n + 1) (bmp v1 n) (b - x) v'
theorem PI_st {gc pc rc : Nat} {v v' : Nat → Nat → Int32} {n : Nat} {b x : Int32} (h : PI gc pc rc v) (hn : n < 5) (hs : stR gc pc rc v n b x v') : PI gc pc rc v' := by
  rcases hs with ⟨g, q, -, -, -, -, -, rfl⟩ | ⟨-, -, rfl⟩
  · obtain ⟨a1, a2, a3, a4, a5, a6, a7⟩ := h
    have r19 : plc v n g q 19 = v 19 := by unfold plc occ; rw [u2_ne (by omega), u2_ne (by omega), u2_ne (by omega), u2_ne (by omega), u2_ne (by omega)]
    refine ⟨by rw [r19]; exact a1, a2, by rw [r19]; exact a3, a4, by rw [r19]; exact a5, a6, fun i hi => ?_⟩
    obtain ⟨t, ht, e⟩ := a7 i hi
    refine ⟨t, ht, ?_⟩
    rw [← e]
    unfold plc occ
    simp only [u2_at]
    rw [if_neg (by omega), if_neg (by omega), if_neg (by omega), if_neg (by omega), if_neg (by omega)]
  · exact h
theorem PI_bmp {gc pc rc : Nat} {v : Nat → Nat → Int32} (h : PI gc pc rc v) (n : Nat) : PI gc pc rc (bmp v n) := by
  unfold bmp
  split
  · exact h
  · exact PI_of h (u2_ne (by omega)) (fun i hi => u2_ne (by omega))
theorem PI_fre {gc pc rc : Nat} {v : Nat → Nat → Int32} (h : PI gc pc rc v) : PI gc pc rc (fre v) := by
  refine PI_of h ?_ (fun i hi => ?_)
  · unfold fre
    simp only [u2_ne (show (19 : Nat) ≠ 39 by decide), u2_ne (show (19 : Nat) ≠ 40 by decide)]
  · unfold fre
    simp only [u2_ne (show (33 + i : Nat) ≠ 39 by omega), u2_ne (show (33 + i : Nat) ≠ 40 by omega)]
/-- the rows when the search begins, and the least cost -/
def stv (gc pc rc : Nat) (v : Nat → Nat → Int32) : Nat → Nat → Int32 := flo (fre v) gc pc rc 0
def lst (gc pc rc : Nat) (v : Nat → Nat → Int32) : Int32 := lcF gc pc rc 6 (stv gc pc rc v) 0 1000000000
def stw2 (gc pc rc : Nat) (v : Nat → Nat → Int32) : Nat → Nat → Int32 := u2 (u2 (stv gc pc rc v) 38 5 (lst gc pc rc v)) 38 6 0
set_option maxHeartbeats 4000000 in
set_option maxRecDepth 100000 in
theorem lp_mb {p : Program} {l : Launch} {e : Env} {s : State} {m : MethodId} {args : Array Value} {below : List Frame} {meth : Method} {c : Code} {Q : State → Prop} {D : va_G} {cs : Nat → ClassId} {ad : Nat → Nat} {sd : Int64} (K : Cx p l m meth c b_L_makeBest 3 none s args "WearHours$Planner" D cs ad) {gc pc rc : Nat}
    : ∀ (k n : Nat), n ≤ rc → rc < n + k → ∀ (v : Nat → Nat → Int32) (b : Int32), PI gc pc rc v → (∀ v', mbR gc pc rc (rc - n) n v b v' → ∀ (H : Heap) (l1 : List Loc) (ls : Array Slot), va_P D classes (wv 42 ad (fun k => eC cs ad sd k (v' k))) H → va_S (aA 42 ad s.heap.size) s.heap H l1 → lv_has ls 3 [(0, .ref (ad 38))] → W p l e (rmx 18 0) s m args below meth c H l1 0 0 Q (F0 m 82 ls [])) → ∀ (H : Heap) (l1 : List Loc) (ls : Array Slot), va_P D classes (wv 42 ad (fun k => eC cs ad sd k (v k))) H → va_S (aA 42 ad s.heap.size) s.heap H l1 → lv_has ls 3 [(0, .ref (ad 38)), (1, .int b), (2, .int (nI n))] → W p l e (rmx 18 0) s m args below meth c H l1 0 0 Q (F0 m 31 ls []) := by
  intro k
  induction k with
  | zero =>
    intro n h1 h2
    omega
  | succ k ih =>
    intro n hle hlt v b hPI kx H l1 ls hP hS hl
    have hr5 := hPI.2.2.2.2.2.1
    refine lv_iload_n K.hx K.hb d_L_makeBest_31 rfl (lv_at hl 2 rfl) ?_
    refine lv_aload_n K.hx K.hb d_L_makeBest_32 rfl (lv_at hl 0 rfl) ?_
    refine g_get K.1 hP (38) (by decide) rfl rfl i_L 0 (by decide) rfl (Or.inl kw_197) rfl d_L_makeBest_33 ?_
    refine g_get K.1 hP (19) (by decide) rfl rfl i_K 5 (by decide) rfl (Or.inr nw_166) rfl d_L_makeBest_36 ?_
    refine lv_icmp_ge (tgt := 82) K.hx K.hb d_L_makeBest_39 (by decide) (fun c_39 => ?_) (fun c_39 => ?_)
    · have hge : n = rc := Nat.le_antisymm hle ((nI_leI (by omega) (by omega)).mp (by rw [← hPI.2.2.2.2.1]; exact c_39))
      subst hge
      exact kx v (by rw [Nat.sub_self]; exact rfl) H l1 ls hP hS (lv_sub hl [0] rfl)
    · have hn : n < rc := Nat.lt_of_not_le (fun h => c_39 (by rw [hPI.2.2.2.2.1]; exact nI_le h (by omega)))
      have hn5 : n < 5 := by omega
      refine lv_iload_n K.hx K.hb d_L_makeBest_42 rfl (lv_at hl 1 rfl) ?_
      refine lv_aload_n K.hx K.hb d_L_makeBest_43 rfl (lv_at hl 0 rfl) ?_
      refine lv_iload_n K.hx K.hb d_L_makeBest_44 rfl (lv_at hl 2 rfl) ?_
      refine lv_iload_n K.hx K.hb d_L_makeBest_45 rfl (lv_at hl 1 rfl) ?_
      refine cc_V K hP hS (c_L_settle l D cs ad _ _ hPI hn b) kw_295 xm_L_settle kw_292 kw_294 kw_7 (g_recv K.1.2.1 hP (38) (by decide) rfl rfl) rfl hl.1 d_L_makeBest_46 (Nat.le_of_ble_eq_true rfl) (Nat.le_of_ble_eq_true rfl) ⟨(Nat.le_of_ble_eq_true rfl), (Nat.le_of_ble_eq_true rfl)⟩ (fun r v1 sd1 H l1 hp hP hS => ?_)
      obtain ⟨x, rfl, hst, rfl⟩ := hp
      refine lv_isub K.hx K.hb d_L_makeBest_49 ?_
      refine lv_istore_n (lv' := [(1, .int (b - x)), (0, .ref (ad 38)), (2, .int (nI n))]) K.hx K.hb d_L_makeBest_50 rfl hl (by decide) rfl (fun ls hl => ?_)
      refine lv_aload_n K.hx K.hb d_L_makeBest_51 rfl (lv_at hl 1 rfl) ?_
      refine g_get K.1 hP (38) (by decide) rfl rfl i_L 0 (by decide) rfl (Or.inl kw_197) rfl d_L_makeBest_52 ?_
      refine g_get K.1 hP (19) (by decide) rfl rfl i_K 4 (by decide) rfl (Or.inr nw_164) rfl d_L_makeBest_55 ?_
      refine lv_iload_n K.hx K.hb d_L_makeBest_58 rfl (lv_at hl 2 rfl) ?_
      refine g_aald K.1 hP (32) (by decide) rfl 6 rfl (n) rfl (by have := hn5; omega) (by decide) rfl d_L_makeBest_59 ?_
      refine cc_V K hP hS (c_R_isPlaced l D cs ad _ _ hn5) kw_308 xm_R_isPlaced kw_305 kw_306 kw_307 (g_recv K.1.2.1 hP (33 + n) (by have := hn5; omega) (eR hn5) rfl) rfl hl.1 d_L_makeBest_60 (Nat.le_of_ble_eq_true rfl) (Nat.le_of_ble_eq_true rfl) ⟨(Nat.le_of_ble_eq_true rfl), (Nat.le_of_ble_eq_true rfl)⟩ (fun r v1 sd1 H l1 hp hP hS => ?_)
      obtain ⟨rfl, rfl, rfl⟩ := hp
      refine lv_if_eq (tgt := 76) K.hx K.hb d_L_makeBest_63 (by decide) (fun c_63 => ?_) (fun c_63 => ?_)
      · refine lv_iinc (v := nI (n + 1)) (lv' := [(2, .int (nI (n + 1))), (1, .int (b - x)), (0, .ref (ad 38))]) K.hx K.hb d_L_makeBest_76 hl (k := 2) rfl (nI_1 _) (by decide) rfl (fun ls hl => ?_)
        refine lv_goto (tgt := 31) K.hx K.hb d_L_makeBest_79 (by decide) ?_
        have hbm : bmp v1 n = v1 := if_pos (ite01 c_63)
        refine ih (n + 1) hn (by omega) _ (b - x) (by rw [← hbm]; exact PI_bmp (PI_st (PI_unp hPI n hn5) hn5 hst) n) (fun v' hv' => kx v' ?_) H l1 ls hP hS (lv_sub hl [2, 1, 0] rfl)
        rw [show rc - n = (rc - (n + 1)) + 1 by omega]
        exact ⟨x, v1, hst, by rw [hbm]; exact hv'⟩
      · refine lv_aload_n K.hx K.hb d_L_makeBest_66 rfl (lv_at hl 1 rfl) ?_
        refine lv_dup K.hx K.hb d_L_makeBest_67 rfl ?_
        refine g_get K.1 hP (38) (by decide) rfl rfl i_L 6 (by decide) rfl (Or.inl kw_205) rfl d_L_makeBest_68 ?_
        refine lv_iconst (v := 1) K.hx K.hb d_L_makeBest_71 (by decide) ?_
        refine lv_iadd K.hx K.hb d_L_makeBest_72 ?_
        refine g_puti K.1 hP hS (38) (by decide) rfl rfl i_L ft_L ft_L_ok n_L 6 (by decide) rfl (Or.inl kw_205) rfl rfl rfl (Nat.le_of_ble_eq_true rfl) rfl d_L_makeBest_73 (fun H l1 hP hS => ?_)
        refine lv_iinc (v := nI (n + 1)) (lv' := [(2, .int (nI (n + 1))), (1, .int (b - x)), (0, .ref (ad 38))]) K.hx K.hb d_L_makeBest_76 hl (k := 2) rfl (nI_1 _) (by decide) rfl (fun ls hl => ?_)
        refine lv_goto (tgt := 31) K.hx K.hb d_L_makeBest_79 (by decide) ?_
        have hbm : bmp v1 n = u2 v1 38 6 ((v1 38 6) + 1) := if_neg (fun h9 => c_63 (by rw [if_pos h9]))
        refine ih (n + 1) hn (by omega) _ (b - x) (by rw [← hbm]; exact PI_bmp (PI_st (PI_unp hPI n hn5) hn5 hst) n) (fun v' hv' => kx v' ?_) H l1 ls hP hS (lv_sub hl [2, 1, 0] rfl)
        rw [show rc - n = (rc - (n + 1)) + 1 by omega]
        exact ⟨x, v1, hst, by rw [hbm]; exact hv'⟩
set_option maxHeartbeats 4000000 in
set_option maxRecDepth 100000 in
theorem c_L_makeBest (l : Launch) (D : va_G) (cs : Nat → ClassId) (ad : Nat → Nat) (v : Nat → Nat → Int32) (sd : Int64) {gc pc rc : Nat} (hPI : PI gc pc rc v)  : Cm l y_L_makeBest b_L_makeBest 3 none (rmx 18 0) [.ref (ad 38)] D cs ad v sd (fun r v' sd' => r = none ∧ (∃ v1, mbR gc pc rc rc 0 (stw2 gc pc rc v) (lst gc pc rc v) v1 ∧ u2 v1 38 4 1 = v') ∧ sd = sd') (fun cls => False) := by
  refine cw_enter (own := "WearHours$Planner") rfl (Nat.le_of_ble_eq_true rfl) ?_
  intro p e s m below meth c ls K hS hP hl
  have hl : lv_has ls 3 [(0, .ref (ad 38))] := hl
  have hg6 := hPI.2.1
  have hp4 := hPI.2.2.2.1
  have hr5 := hPI.2.2.2.2.2.1
  refine lv_aload_n K.hx K.hb d_L_makeBest_0 rfl (lv_at hl 0 rfl) ?_
  refine cc_V K hP hS (c_L_freeAll l D cs ad _ _) kw_256 xm_L_freeAll kw_253 kw_255 kw_0 (g_recv K.1.2.1 hP (38) (by decide) rfl rfl) rfl hl.1 d_L_makeBest_1 (Nat.le_of_ble_eq_true rfl) (Nat.le_of_ble_eq_true rfl) ⟨(Nat.le_of_ble_eq_true rfl), (Nat.le_of_ble_eq_true rfl)⟩ (fun r v1 sd1 H l1 hp hP hS => ?_)
  obtain ⟨rfl, rfl, rfl⟩ := hp
  refine lv_aload_n K.hx K.hb d_L_makeBest_4 rfl (lv_at hl 0 rfl) ?_
  refine cc_V K hP hS (c_L_sumFloors l D cs ad _ _ (PI_fre hPI)) kw_260 xm_L_sumFloors kw_257 kw_259 kw_1 (g_recv K.1.2.1 hP (38) (by decide) rfl rfl) rfl hl.1 d_L_makeBest_5 (Nat.le_of_ble_eq_true rfl) (Nat.le_of_ble_eq_true rfl) ⟨(Nat.le_of_ble_eq_true rfl), (Nat.le_of_ble_eq_true rfl)⟩ (fun r v1 sd1 H l1 hp hP hS => ?_)
  obtain ⟨rfl, rfl, rfl⟩ := hp
  refine lv_aload_n K.hx K.hb d_L_makeBest_8 rfl (lv_at hl 0 rfl) ?_
  refine lv_aload_n K.hx K.hb d_L_makeBest_9 rfl (lv_at hl 0 rfl) ?_
  refine lv_iconst (v := 0) K.hx K.hb d_L_makeBest_10 (by decide) ?_
  refine lv_ldc (v := 1000000000) K.hx K.hb K.1.1.2.2.2.1 (K.1.1.2.2.2.2 _ kw_279) d_L_makeBest_11 ?_
  refine cc_V K hP hS (c_leastCost l D cs ad _ gc pc rc 6 _ 0 1000000000 (PI_flo (PI_fre hPI) 0) (by omega) (by omega)) kw_283 xm_L_leastCost kw_280 kw_282 kw_4 (g_recv K.1.2.1 hP (38) (by decide) rfl rfl) rfl hl.1 d_L_makeBest_13 (Nat.le_of_ble_eq_true rfl) (Nat.le_of_ble_eq_true rfl) ⟨(Nat.le_of_ble_eq_true rfl), (Nat.le_of_ble_eq_true rfl)⟩ (fun r v1 sd1 H l1 hp hP hS => ?_)
  obtain ⟨rfl, rfl, rfl⟩ := hp
  refine lv_topE (y := lst gc pc rc v) rfl ?_
  refine g_puti K.1 hP hS (38) (by decide) rfl rfl i_L ft_L ft_L_ok n_L 5 (by decide) rfl (Or.inl kw_203) rfl rfl rfl (Nat.le_of_ble_eq_true rfl) rfl d_L_makeBest_16 (fun H l1 hP hS => ?_)
  refine lv_aload_n K.hx K.hb d_L_makeBest_19 rfl (lv_at hl 0 rfl) ?_
  refine lv_iconst (v := 0) K.hx K.hb d_L_makeBest_20 (by decide) ?_
  refine g_puti K.1 hP hS (38) (by decide) rfl rfl i_L ft_L ft_L_ok n_L 6 (by decide) rfl (Or.inl kw_205) rfl rfl rfl (Nat.le_of_ble_eq_true rfl) rfl d_L_makeBest_21 (fun H l1 hP hS => ?_)
  refine lv_aload_n K.hx K.hb d_L_makeBest_24 rfl (lv_at hl 0 rfl) ?_
  refine g_get K.1 hP (38) (by decide) rfl rfl i_L 5 (by decide) rfl (Or.inl kw_203) rfl d_L_makeBest_25 ?_
  refine lv_topE (y := (lst gc pc rc v)) (by first | (simp [u2_at, kp, occ]; done) | (simp [u2_at, kp, occ] <;> (intros; omega)) | (simp only [u2_at, kp, occ]; (repeat' split) <;> first | rfl | (exfalso; omega))) ?_
  refine lv_istore_n (lv' := [(1, .int (lst gc pc rc v)), (0, .ref (ad 38))]) K.hx K.hb d_L_makeBest_28 rfl hl (by decide) rfl (fun ls hl => ?_)
  refine lv_iconst (v := 0) K.hx K.hb d_L_makeBest_29 (by decide) ?_
  refine lv_istore_n (lv' := [(2, .int 0), (1, .int (lst gc pc rc v)), (0, .ref (ad 38))]) K.hx K.hb d_L_makeBest_30 rfl hl (by decide) rfl (fun ls hl => ?_)
  refine lp_mb K (rc + 1) 0 (by omega) (by omega) (stw2 gc pc rc v) (lst gc pc rc v) (PI_of (PI_flo (PI_fre hPI) 0) (by rw [stw2, u2_ne (by omega), u2_ne (by omega)]; rfl) (fun i hi => by rw [stw2, u2_ne (by omega), u2_ne (by omega)]; rfl)) (fun v1 hmb H l1 ls hP hS hl => ?_) _ _ ls hP hS (lv_sub hl [2, 1, 0] rfl)
  refine lv_aload_n K.hx K.hb d_L_makeBest_82 rfl (lv_at hl 0 rfl) ?_
  refine lv_iconst (v := 1) K.hx K.hb d_L_makeBest_83 (by decide) ?_
  refine g_puti K.1 hP hS (38) (by decide) rfl rfl i_L ft_L ft_L_ok n_L 4 (by decide) rfl (Or.inl kw_201) rfl rfl rfl (Nat.le_of_ble_eq_true rfl) rfl d_L_makeBest_84 (fun H l1 hP hS => ?_)
  exact ce_v K hP hS ⟨rfl, ⟨v1, hmb, rfl⟩, rfl⟩ (Nat.le_of_ble_eq_true rfl) (Nat.le_of_ble_eq_true rfl) d_L_makeBest_87
set_option maxHeartbeats 4000000 in
set_option maxRecDepth 100000 in
theorem c_W_plan (l : Launch) (D : va_G) (cs : Nat → ClassId) (ad : Nat → Nat) (v : Nat → Nat → Int32) (sd : Int64) {gc pc rc : Nat} (hPI : PI gc pc rc v)  : Cm l y_W_plan b_W_plan 1 (some .int) (rmx 19 0) [.ref (ad 0)] D cs ad v sd (fun r v' sd' => (¬ v 38 4 = 0 ∧ r = some (.int (v 38 6)) ∧ v = v' ∧ sd = sd') ∨ (v 38 4 = 0 ∧ ∃ v1, mbR gc pc rc rc 0 (stw2 gc pc rc v) (lst gc pc rc v) v1 ∧ r = some (.int (v1 38 6)) ∧ u2 v1 38 4 1 = v' ∧ sd = sd')) (fun cls => False) := by
  refine cw_enter (own := "WearHours") rfl (Nat.le_of_ble_eq_true rfl) ?_
  intro p e s m below meth c ls K hS hP hl
  have hl : lv_has ls 1 [(0, .ref (ad 0))] := hl
  refine lv_aload_n K.hx K.hb d_W_plan_0 rfl (lv_at hl 0 rfl) ?_
  refine g_get K.1 hP (0) (by decide) rfl rfl i_W 5 (by decide) rfl (Or.inl kw_227) rfl d_W_plan_1 ?_
  refine g_get K.1 hP (38) (by decide) rfl rfl i_L 4 (by decide) rfl (Or.inr nw_202) rfl d_W_plan_4 ?_
  refine lv_if_ne (tgt := 17) K.hx K.hb d_W_plan_7 (by decide) (fun c_7 => ?_) (fun c_7 => ?_)
  · refine lv_aload_n K.hx K.hb d_W_plan_17 rfl (lv_at hl 0 rfl) ?_
    refine g_get K.1 hP (0) (by decide) rfl rfl i_W 5 (by decide) rfl (Or.inl kw_227) rfl d_W_plan_18 ?_
    refine g_get K.1 hP (38) (by decide) rfl rfl i_L 6 (by decide) rfl (Or.inr nw_206) rfl d_W_plan_21 ?_
    exact ce_i K hP hS (Or.inl ⟨c_7, rfl, rfl, rfl⟩) (Nat.le_of_ble_eq_true rfl) (Nat.le_of_ble_eq_true rfl) d_W_plan_24
  · refine lv_aload_n K.hx K.hb d_W_plan_10 rfl (lv_at hl 0 rfl) ?_
    refine g_get K.1 hP (0) (by decide) rfl rfl i_W 5 (by decide) rfl (Or.inl kw_227) rfl d_W_plan_11 ?_
    refine cc_V K hP hS (c_L_makeBest l D cs ad _ _ hPI) kw_252 xm_L_makeBest kw_249 kw_250 kw_251 (g_recv K.1.2.1 hP (38) (by decide) rfl rfl) rfl hl.1 d_W_plan_14 (Nat.le_of_ble_eq_true rfl) (Nat.le_of_ble_eq_true rfl) ⟨(Nat.le_of_ble_eq_true rfl), (Nat.le_of_ble_eq_true rfl)⟩ (fun r v1 sd1 H l1 hp hP hS => ?_)
    obtain ⟨rfl, ⟨v2, hmb, rfl⟩, rfl⟩ := hp
    refine lv_aload_n K.hx K.hb d_W_plan_17 rfl (lv_at hl 0 rfl) ?_
    refine g_get K.1 hP (0) (by decide) rfl rfl i_W 5 (by decide) rfl (Or.inl kw_227) rfl d_W_plan_18 ?_
    refine g_get K.1 hP (38) (by decide) rfl rfl i_L 6 (by decide) rfl (Or.inr nw_206) rfl d_W_plan_21 ?_
    exact ce_i K hP hS (Or.inr ⟨c_7, v2, hmb, by simp [u2_at], rfl, rfl⟩) (Nat.le_of_ble_eq_true rfl) (Nat.le_of_ble_eq_true rfl) d_W_plan_24
