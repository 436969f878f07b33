set_option maxHeartbeats 4000000 in
set_option maxRecDepth 100000 in
theorem lp_fb {p : Program} {l : Launch} {e : Env} {s : State} {m : MethodId} {args : Array Value} {below : List Frame} {meth : Method} {c : Code} {Q : State → Prop} {D : va_G} {cs : Nat → ClassId} {ad : Nat → Nat} {v : Nat → Nat → Int32} {sd : Int64} (K : Cx p l m meth c b_L_firstBeginning 6 (some .int) s args "WearHours$Planner" D cs ad) {gc pc rc : Nat} (hPI : PI gc pc rc v) {i : Nat} (hi : i < rc) {q : Nat} (hq : q < 4) 
    (kx : ∀  (H : Heap) (l1 : List Loc) (ls : Array Slot), va_P D classes (wv 42 ad (fun k => eC cs ad sd k (v k))) H → va_S (aA 42 ad s.heap.size) s.heap H l1 → lv_has ls 6 [(3, .int (fbL v i q gc))] → W p l e (rmx 1 0) s m args below meth c H l1 0 0 Q (F0 m 74 ls []))
    : ∀ (n g : Nat), g ≤ gc → gc < g + n → ∀ (H : Heap) (l1 : List Loc) (ls : Array Slot), va_P D classes (wv 42 ad (fun k => eC cs ad sd k (v k))) H → va_S (aA 42 ad s.heap.size) s.heap H l1 → lv_has ls 6 [(0, .ref (ad 38)), (1, .ref (ad (33 + i))), (2, .int (nI q)), (3, .int (fbL v i q g)), (4, .int (nI g))] → W p l e (rmx 1 0) s m args below meth c H l1 0 0 Q (F0 m 26 ls []) := by
  intro n
  induction n with
  | zero =>
    intro g  h1 h2
    omega
  | succ n ih =>
    intro g  hle hlt H l1 ls hP hS hl
    have hg6 := hPI.2.1
    have hr5 := hPI.2.2.2.2.2.1
    have hi5 : i < 5 := by omega
    refine lv_iload K.hx K.hb d_L_firstBeginning_26 (lv_at hl 4 rfl) ?_
    refine lv_aload_n K.hx K.hb d_L_firstBeginning_28 rfl (lv_at hl 0 rfl) ?_
    refine g_get K.1 hP (38) (by decide) rfl rfl i_L 0 (by decide) rfl (Or.inl kw_197) rfl d_L_firstBeginning_29 ?_
    refine g_get K.1 hP (19) (by decide) rfl rfl i_K 1 (by decide) rfl (Or.inr nw_156) rfl d_L_firstBeginning_32 ?_
    refine lv_icmp_ge (tgt := 74) K.hx K.hb d_L_firstBeginning_35 (by decide) (fun c_35 => ?_) (fun c_35 => ?_)
    · have hge : g = gc := Nat.le_antisymm hle ((nI_leI (by omega) (by omega)).mp (by rw [← hPI.1]; exact c_35))
      subst hge
      exact kx H l1 ls hP hS (lv_sub hl [3] rfl)
    · have hlt2 : g < gc := Nat.lt_of_not_le (fun h => c_35 (by rw [hPI.1]; exact nI_le h (by omega)))
      have hg9 : g < 6 := by omega
      refine lv_aload_n K.hx K.hb d_L_firstBeginning_38 rfl (lv_at hl 0 rfl) ?_
      refine lv_aload_n K.hx K.hb d_L_firstBeginning_39 rfl (lv_at hl 1 rfl) ?_
      refine lv_iload K.hx K.hb d_L_firstBeginning_40 (lv_at hl 4 rfl) ?_
      refine lv_iload_n K.hx K.hb d_L_firstBeginning_42 rfl (lv_at hl 2 rfl) ?_
      refine cc_V K hP hS (c_L_beginning l D cs ad _ _ hPI hi hg9 hq) kw_272 xm_L_beginning kw_269 kw_271 kw_3 (g_recv K.1.2.1 hP (38) (by decide) rfl rfl) rfl hl.1 d_L_firstBeginning_43 (Nat.le_of_ble_eq_true rfl) (Nat.le_of_ble_eq_true rfl) ⟨(Nat.le_of_ble_eq_true rfl), (Nat.le_of_ble_eq_true rfl)⟩ (fun r v1 sd1 H l1 hp hP hS => ?_)
      obtain ⟨rfl, rfl, rfl⟩ := hp
      refine lv_istore (lv' := [(5, .int (begZ v i g q)), (0, .ref (ad 38)), (1, .ref (ad (33 + i))), (2, .int (nI q)), (3, .int (fbL v i q g)), (4, .int (nI g))]) K.hx K.hb d_L_firstBeginning_46 hl (by decide) rfl (fun ls hl => ?_)
      refine lv_iload K.hx K.hb d_L_firstBeginning_48 (lv_at hl 0 rfl) ?_
      refine lv_iconst (v := (-1)) K.hx K.hb d_L_firstBeginning_50 (by decide) ?_
      refine lv_icmp_eq (tgt := 68) K.hx K.hb d_L_firstBeginning_51 (by decide) (fun c_51 => ?_) (fun c_51 => ?_)
      · refine lv_iinc (v := nI (g + 1)) (lv' := [(4, .int (nI (g + 1))), (5, .int (begZ v i g q)), (0, .ref (ad 38)), (1, .ref (ad (33 + i))), (2, .int (nI q)), (3, .int (fbL v i q g))]) K.hx K.hb d_L_firstBeginning_68 hl (k := 5) rfl (nI_1 _) (by decide) rfl (fun ls hl => ?_)
        refine lv_goto (tgt := 26) K.hx K.hb d_L_firstBeginning_71 (by decide) ?_
        exact ih (g + 1) hlt2 (by omega) H l1 ls hP hS (by rw [show fbL v i q (g + 1) = fbL v i q g from by simp [fbL, fbS, *]]; exact lv_sub hl [2, 3, 4, 5, 0] rfl)
      · refine lv_iload_n K.hx K.hb d_L_firstBeginning_54 rfl (lv_at hl 4 rfl) ?_
        refine lv_iconst (v := (-1)) K.hx K.hb d_L_firstBeginning_55 (by decide) ?_
        refine lv_icmp_eq (tgt := 65) K.hx K.hb d_L_firstBeginning_56 (by decide) (fun c_56 => ?_) (fun c_56 => ?_)
        · refine lv_iload K.hx K.hb d_L_firstBeginning_65 (lv_at hl 0 rfl) ?_
          refine lv_istore_n (lv' := [(3, .int (begZ v i g q)), (5, .int (begZ v i g q)), (0, .ref (ad 38)), (1, .ref (ad (33 + i))), (2, .int (nI q)), (4, .int (nI g))]) K.hx K.hb d_L_firstBeginning_67 rfl hl (by decide) rfl (fun ls hl => ?_)
          refine lv_iinc (v := nI (g + 1)) (lv' := [(4, .int (nI (g + 1))), (3, .int (begZ v i g q)), (5, .int (begZ v i g q)), (0, .ref (ad 38)), (1, .ref (ad (33 + i))), (2, .int (nI q))]) K.hx K.hb d_L_firstBeginning_68 hl (k := 5) rfl (nI_1 _) (by decide) rfl (fun ls hl => ?_)
          refine lv_goto (tgt := 26) K.hx K.hb d_L_firstBeginning_71 (by decide) ?_
          exact ih (g + 1) hlt2 (by omega) H l1 ls hP hS (by rw [show fbL v i q (g + 1) = begZ v i g q from by simp [fbL, fbS, *]]; exact lv_sub hl [3, 4, 5, 1, 0] rfl)
        · refine lv_iload K.hx K.hb d_L_firstBeginning_59 (lv_at hl 0 rfl) ?_
          refine lv_iload_n K.hx K.hb d_L_firstBeginning_61 rfl (lv_at hl 4 rfl) ?_
          refine lv_icmp_ge (tgt := 68) K.hx K.hb d_L_firstBeginning_62 (by decide) (fun c_62 => ?_) (fun c_62 => ?_)
          · refine lv_iinc (v := nI (g + 1)) (lv' := [(4, .int (nI (g + 1))), (5, .int (begZ v i g q)), (0, .ref (ad 38)), (1, .ref (ad (33 + i))), (2, .int (nI q)), (3, .int (fbL v i q g))]) K.hx K.hb d_L_firstBeginning_68 hl (k := 5) rfl (nI_1 _) (by decide) rfl (fun ls hl => ?_)
            refine lv_goto (tgt := 26) K.hx K.hb d_L_firstBeginning_71 (by decide) ?_
            exact ih (g + 1) hlt2 (by omega) H l1 ls hP hS (by rw [show fbL v i q (g + 1) = fbL v i q g from by simp [fbL, fbS, *]]; exact lv_sub hl [2, 3, 4, 5, 0] rfl)
          · refine lv_iload K.hx K.hb d_L_firstBeginning_65 (lv_at hl 0 rfl) ?_
            refine lv_istore_n (lv' := [(3, .int (begZ v i g q)), (5, .int (begZ v i g q)), (0, .ref (ad 38)), (1, .ref (ad (33 + i))), (2, .int (nI q)), (4, .int (nI g))]) K.hx K.hb d_L_firstBeginning_67 rfl hl (by decide) rfl (fun ls hl => ?_)
            refine lv_iinc (v := nI (g + 1)) (lv' := [(4, .int (nI (g + 1))), (3, .int (begZ v i g q)), (5, .int (begZ v i g q)), (0, .ref (ad 38)), (1, .ref (ad (33 + i))), (2, .int (nI q))]) K.hx K.hb d_L_firstBeginning_68 hl (k := 5) rfl (nI_1 _) (by decide) rfl (fun ls hl => ?_)
            refine lv_goto (tgt := 26) K.hx K.hb d_L_firstBeginning_71 (by decide) ?_
            exact ih (g + 1) hlt2 (by omega) H l1 ls hP hS (by rw [show fbL v i q (g + 1) = begZ v i g q from by simp [fbL, fbS, *]]; exact lv_sub hl [3, 4, 5, 1, 0] rfl)
set_option maxHeartbeats 4000000 in
set_option maxRecDepth 100000 in
theorem c_L_firstBeginning (l : Launch) (D : va_G) (cs : Nat → ClassId) (ad : Nat → Nat) (v : Nat → Nat → Int32) (sd : Int64) {gc pc rc : Nat} (hPI : PI gc pc rc v) {i : Nat} (hi : i < rc) {q : Nat} (hq : q < 4)  : Cm l y_L_firstBeginning b_L_firstBeginning 6 (some .int) (rmx 1 0) [.ref (ad 38), .ref (ad (33 + i)), .int (nI q)] D cs ad v sd (fun r v' sd' => r = some (.int (fbZ v i q gc)) ∧ v = v' ∧ sd = sd') (fun cls => False) := by
  refine cw_enter (own := "WearHours$Planner") rfl (Nat.le_of_ble_eq_true rfl) ?_
  intro p e s m below meth c ls K hS hP hl
  have hl : lv_has ls 6 [(0, .ref (ad 38)), (1, .ref (ad (33 + i))), (2, .int (nI q))] := hl
  have hg6 := hPI.2.1
  have hr5 := hPI.2.2.2.2.2.1
  have hi5 : i < 5 := by omega
  refine lv_iconst (v := (-1)) K.hx K.hb d_L_firstBeginning_0 (by decide) ?_
  refine lv_istore_n (lv' := [(3, .int (-1)), (0, .ref (ad 38)), (1, .ref (ad (33 + i))), (2, .int (nI q))]) K.hx K.hb d_L_firstBeginning_1 rfl hl (by decide) rfl (fun ls hl => ?_)
  refine lv_aload_n K.hx K.hb d_L_firstBeginning_2 rfl (lv_at hl 1 rfl) ?_
  refine g_get K.1 hP (38) (by decide) rfl rfl i_L 0 (by decide) rfl (Or.inl kw_197) rfl d_L_firstBeginning_3 ?_
  refine g_get K.1 hP (19) (by decide) rfl rfl i_K 2 (by decide) rfl (Or.inr nw_159) rfl d_L_firstBeginning_6 ?_
  refine lv_iload_n K.hx K.hb d_L_firstBeginning_9 rfl (lv_at hl 3 rfl) ?_
  refine g_aald K.1 hP (27) (by decide) rfl 5 rfl (q) rfl (by have := hq; omega) (by decide) rfl d_L_firstBeginning_10 ?_
  refine g_get K.1 hP (28 + q) (by have := hq; omega) (eP hq) rfl i_P 0 (by decide) rfl (Or.inr nw_103) rfl d_L_firstBeginning_11 ?_
  refine lv_aload_n K.hx K.hb d_L_firstBeginning_14 rfl (lv_at hl 2 rfl) ?_
  refine g_get K.1 hP (33 + i) (by have := hi5; omega) (eR hi5) rfl i_R 2 (by decide) rfl (Or.inr nw_128) rfl d_L_firstBeginning_15 ?_
  refine lv_icmp_eq (tgt := 23) K.hx K.hb d_L_firstBeginning_18 (by decide) (fun c_18 => ?_) (fun c_18 => ?_)
  · refine lv_iconst (v := 0) K.hx K.hb d_L_firstBeginning_23 (by decide) ?_
    refine lv_istore (lv' := [(4, .int 0), (3, .int (-1)), (0, .ref (ad 38)), (1, .ref (ad (33 + i))), (2, .int (nI q))]) K.hx K.hb d_L_firstBeginning_24 hl (by decide) rfl (fun ls hl => ?_)
    refine lp_fb K hPI hi hq (fun H l1 ls hP hS hl => ?_) (gc + 1) 0 (by omega) (by omega) _ _ ls hP hS (lv_sub hl [2, 3, 4, 1, 0] rfl)
    refine lv_iload_n K.hx K.hb d_L_firstBeginning_74 rfl (lv_at hl 0 rfl) ?_
    exact ce_i K hP hS ⟨by rw [show fbZ v i q gc = fbL v i q gc from if_pos c_18], rfl, rfl⟩ (Nat.le_of_ble_eq_true rfl) (Nat.le_of_ble_eq_true rfl) d_L_firstBeginning_75
  · refine lv_iload_n K.hx K.hb d_L_firstBeginning_21 rfl (lv_at hl 0 rfl) ?_
    exact ce_i K hP hS ⟨by rw [show fbZ v i q gc = -1 from if_neg c_18], rfl, rfl⟩ (Nat.le_of_ble_eq_true rfl) (Nat.le_of_ble_eq_true rfl) d_L_firstBeginning_22
