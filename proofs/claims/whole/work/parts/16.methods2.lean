set_option maxHeartbeats 4000000 in
set_option maxRecDepth 100000 in
theorem c_W_gap (l : Launch) (D : va_G) (cs : Nat → ClassId) (ad : Nat → Nat) (v : Nat → Nat → Int32) (sd : Int64) (hfl : l.flags = flags0) {gc : Nat} (hgc : v 19 1 = nI gc) (hgl : gc ≤ 6) (x y : Int32)  : Cm l y_W_gap b_W_gap 3 (some .int) (rmx 1 2) [.ref (ad 0), .int x, .int y] D cs ad v sd (fun r v' sd' => (¬ x < 0 ∧ ¬ 168 < y ∧ x < y) ∧ gc < 6 ∧ r = some (.int (v 19 1 + 1)) ∧ u2 (u2 (u2 (u2 v (21 + gc) 0 x) (21 + gc) 1 y) 19 1 (v 19 1 + 1)) 38 4 0 = v' ∧ sd = sd') (fun cls => (¬ (¬ x < 0 ∧ ¬ 168 < y ∧ x < y) ∧ cls = "java/lang/IllegalArgumentException") ∨ ((¬ x < 0 ∧ ¬ 168 < y ∧ x < y) ∧ ¬ gc < 6 ∧ cls = "java/lang/UnsupportedOperationException")) := by
  refine cw_enter (own := "WearHours") rfl (Nat.le_of_ble_eq_true rfl) ?_
  intro p e s m below meth c ls K hS hP hl
  have hl : lv_has ls 3 [(0, .ref (ad 0)), (1, .int x), (2, .int y)] := hl
  refine lv_iload_n K.hx K.hb d_W_gap_0 rfl (lv_at hl 1 rfl) ?_
  refine lv_iload_n K.hx K.hb d_W_gap_1 rfl (lv_at hl 2 rfl) ?_
  refine cc_Sx K hP hS (c_W_checkHours l D cs ad _ _ hfl x y) (fun cls h => Or.inl h) kw_537 xm_W_checkHours kw_535 kw_536 kw_22 rfl hl.1 d_W_gap_2 (Nat.le_of_ble_eq_true rfl) (Nat.le_of_ble_eq_true rfl) ⟨(Nat.le_of_ble_eq_true rfl), (Nat.le_of_ble_eq_true rfl)⟩ (Nat.le_of_ble_eq_true rfl) (Nat.le_of_ble_eq_true rfl) (fun r v1 sd1 H l1 hp hP hS => ?_)
  obtain ⟨hch, rfl, rfl, rfl⟩ := hp
  refine lv_aload_n K.hx K.hb d_W_gap_5 rfl (lv_at hl 0 rfl) ?_
  refine g_get K.1 hP (0) (by decide) rfl rfl i_W 4 (by decide) rfl (Or.inl kw_226) rfl d_W_gap_6 ?_
  refine g_get K.1 hP (19) (by decide) rfl rfl i_K 1 (by decide) rfl (Or.inr nw_157) rfl d_W_gap_9 ?_
  refine lv_bipush (v := 6) K.hx K.hb d_W_gap_12 (by decide) ?_
  refine lv_icmp_lt (tgt := 27) K.hx K.hb d_W_gap_14 (by decide) (fun c_14 => ?_) (fun c_14 => ?_)
  · have hg6 : gc < 6 := (nI_ltI (by omega) (by decide)).mp (by rw [← hgc]; exact c_14)
    refine lv_aload_n K.hx K.hb d_W_gap_27 rfl (lv_at hl 0 rfl) ?_
    refine g_get K.1 hP (0) (by decide) rfl rfl i_W 4 (by decide) rfl (Or.inl kw_226) rfl d_W_gap_28 ?_
    refine lv_iload_n K.hx K.hb d_W_gap_31 rfl (lv_at hl 1 rfl) ?_
    refine lv_iload_n K.hx K.hb d_W_gap_32 rfl (lv_at hl 2 rfl) ?_
    refine cc_V K hP hS (c_K_addGap l D cs ad _ _ hgc hg6 x y) kw_543 xm_K_addGap kw_540 kw_541 kw_542 (g_recv K.1.2.1 hP (19) (by decide) rfl rfl) rfl hl.1 d_W_gap_33 (Nat.le_of_ble_eq_true rfl) (Nat.le_of_ble_eq_true rfl) ⟨(Nat.le_of_ble_eq_true rfl), (Nat.le_of_ble_eq_true rfl)⟩ (fun r v1 sd1 H l1 hp hP hS => ?_)
    obtain ⟨rfl, rfl, rfl⟩ := hp
    refine lv_aload_n K.hx K.hb d_W_gap_36 rfl (lv_at hl 0 rfl) ?_
    refine g_get K.1 hP (0) (by decide) rfl rfl i_W 5 (by decide) rfl (Or.inl kw_227) rfl d_W_gap_37 ?_
    refine cc_V K hP hS (c_L_forget l D cs ad _ _) kw_547 xm_L_forget kw_544 kw_545 kw_546 (g_recv K.1.2.1 hP (38) (by decide) rfl rfl) rfl hl.1 d_W_gap_40 (Nat.le_of_ble_eq_true rfl) (Nat.le_of_ble_eq_true rfl) ⟨(Nat.le_of_ble_eq_true rfl), (Nat.le_of_ble_eq_true rfl)⟩ (fun r v1 sd1 H l1 hp hP hS => ?_)
    obtain ⟨rfl, rfl, rfl⟩ := hp
    refine lv_aload_n K.hx K.hb d_W_gap_43 rfl (lv_at hl 0 rfl) ?_
    refine g_get K.1 hP (0) (by decide) rfl rfl i_W 4 (by decide) rfl (Or.inl kw_226) rfl d_W_gap_44 ?_
    refine g_get K.1 hP (19) (by decide) rfl rfl i_K 1 (by decide) rfl (Or.inr nw_157) rfl d_W_gap_47 ?_
    refine lv_topE (y := (v 19 1 + 1)) (by first | (simp [u2_at, kp]; done) | (simp [u2_at, kp] <;> (intros; omega)) | (simp only [u2_at, kp]; (repeat' split) <;> first | rfl | (exfalso; omega))) ?_
    exact ce_i K hP hS ⟨hch, hg6, rfl, rfl, rfl⟩ (Nat.le_of_ble_eq_true rfl) (Nat.le_of_ble_eq_true rfl) d_W_gap_50
  · exact ce_t K hP hS hfl kw_391 kw_34 xa_UOE rfl (text := "there are 6 gaps") (by decide) hl.1 d_W_gap_17 d_W_gap_20 d_W_gap_21 d_W_gap_23 d_W_gap_26 (Nat.le_of_ble_eq_true rfl) (Nat.le_of_ble_eq_true rfl) (Nat.le_of_ble_eq_true rfl) (Nat.le_of_ble_eq_true rfl) (Nat.le_of_ble_eq_true rfl) (Nat.le_of_ble_eq_true rfl) (Or.inr ⟨hch, fun h => c_14 (by rw [hgc]; exact nI_lt h (by decide)), rfl⟩)
set_option maxHeartbeats 4000000 in
set_option maxRecDepth 100000 in
theorem c_W_person (l : Launch) (D : va_G) (cs : Nat → ClassId) (ad : Nat → Nat) (v : Nat → Nat → Int32) (sd : Int64) (hfl : l.flags = flags0) {pc : Nat} (hpc : v 19 3 = nI pc) (hpl : pc ≤ 4) (x y z : Int32)  : Cm l y_W_person b_W_person 4 (some .int) (rmx 1 3) [.ref (ad 0), .int x, .int y, .int z] D cs ad v sd (fun r v' sd' => ((¬ x < 0 ∧ x < 4) ∧ ¬ y < 0 ∧ ¬ 168 < z ∧ y < z) ∧ pc < 4 ∧ r = some (.int (v 19 3 + 1 - 1)) ∧ u2 (u2 (u2 (u2 (u2 v (28 + pc) 0 x) (28 + pc) 1 y) (28 + pc) 2 z) 19 3 (v 19 3 + 1)) 38 4 0 = v' ∧ sd = sd') (fun cls => (¬ ((¬ x < 0 ∧ x < 4) ∧ ¬ y < 0 ∧ ¬ 168 < z ∧ y < z) ∧ cls = "java/lang/IllegalArgumentException") ∨ (((¬ x < 0 ∧ x < 4) ∧ ¬ y < 0 ∧ ¬ 168 < z ∧ y < z) ∧ ¬ pc < 4 ∧ cls = "java/lang/UnsupportedOperationException")) := by
  refine cw_enter (own := "WearHours") rfl (Nat.le_of_ble_eq_true rfl) ?_
  intro p e s m below meth c ls K hS hP hl
  have hl : lv_has ls 4 [(0, .ref (ad 0)), (1, .int x), (2, .int y), (3, .int z)] := hl
  refine lv_iload_n K.hx K.hb d_W_person_0 rfl (lv_at hl 1 rfl) ?_
  refine cc_Sx K hP hS (c_W_checkSkill l D cs ad _ _ hfl x) (fun cls h => Or.inl ⟨fun q => by rcases h.1 with h1 | h1 <;> simp_all, h.2⟩) kw_557 xm_W_checkSkill kw_555 kw_556 kw_22 rfl hl.1 d_W_person_1 (Nat.le_of_ble_eq_true rfl) (Nat.le_of_ble_eq_true rfl) ⟨(Nat.le_of_ble_eq_true rfl), (Nat.le_of_ble_eq_true rfl)⟩ (Nat.le_of_ble_eq_true rfl) (Nat.le_of_ble_eq_true rfl) (fun r v1 sd1 H l1 hp hP hS => ?_)
  obtain ⟨hcs, rfl, rfl, rfl⟩ := hp
  refine lv_iload_n K.hx K.hb d_W_person_4 rfl (lv_at hl 2 rfl) ?_
  refine lv_iload_n K.hx K.hb d_W_person_5 rfl (lv_at hl 3 rfl) ?_
  refine cc_Sx K hP hS (c_W_checkHours l D cs ad _ _ hfl y z) (fun cls h => Or.inl ⟨fun q => h.1 q.2, h.2⟩) kw_537 xm_W_checkHours kw_535 kw_536 kw_22 rfl hl.1 d_W_person_6 (Nat.le_of_ble_eq_true rfl) (Nat.le_of_ble_eq_true rfl) ⟨(Nat.le_of_ble_eq_true rfl), (Nat.le_of_ble_eq_true rfl)⟩ (Nat.le_of_ble_eq_true rfl) (Nat.le_of_ble_eq_true rfl) (fun r v1 sd1 H l1 hp hP hS => ?_)
  obtain ⟨hch, rfl, rfl, rfl⟩ := hp
  refine lv_aload_n K.hx K.hb d_W_person_9 rfl (lv_at hl 0 rfl) ?_
  refine g_get K.1 hP (0) (by decide) rfl rfl i_W 4 (by decide) rfl (Or.inl kw_226) rfl d_W_person_10 ?_
  refine g_get K.1 hP (19) (by decide) rfl rfl i_K 3 (by decide) rfl (Or.inr nw_162) rfl d_W_person_13 ?_
  refine lv_iconst (v := 4) K.hx K.hb d_W_person_16 (by decide) ?_
  refine lv_icmp_lt (tgt := 30) K.hx K.hb d_W_person_17 (by decide) (fun c_17 => ?_) (fun c_17 => ?_)
  · have hp4 : pc < 4 := (nI_ltI (by omega) (by decide)).mp (by rw [← hpc]; exact c_17)
    refine lv_aload_n K.hx K.hb d_W_person_30 rfl (lv_at hl 0 rfl) ?_
    refine g_get K.1 hP (0) (by decide) rfl rfl i_W 4 (by decide) rfl (Or.inl kw_226) rfl d_W_person_31 ?_
    refine lv_iload_n K.hx K.hb d_W_person_34 rfl (lv_at hl 1 rfl) ?_
    refine lv_iload_n K.hx K.hb d_W_person_35 rfl (lv_at hl 2 rfl) ?_
    refine lv_iload_n K.hx K.hb d_W_person_36 rfl (lv_at hl 3 rfl) ?_
    refine cc_V K hP hS (c_K_addPerson l D cs ad _ _ hpc hp4 x y z) kw_563 xm_K_addPerson kw_560 kw_561 kw_562 (g_recv K.1.2.1 hP (19) (by decide) rfl rfl) rfl hl.1 d_W_person_37 (Nat.le_of_ble_eq_true rfl) (Nat.le_of_ble_eq_true rfl) ⟨(Nat.le_of_ble_eq_true rfl), (Nat.le_of_ble_eq_true rfl)⟩ (fun r v1 sd1 H l1 hp hP hS => ?_)
    obtain ⟨rfl, rfl, rfl⟩ := hp
    refine lv_aload_n K.hx K.hb d_W_person_40 rfl (lv_at hl 0 rfl) ?_
    refine g_get K.1 hP (0) (by decide) rfl rfl i_W 5 (by decide) rfl (Or.inl kw_227) rfl d_W_person_41 ?_
    refine cc_V K hP hS (c_L_forget l D cs ad _ _) kw_547 xm_L_forget kw_544 kw_545 kw_546 (g_recv K.1.2.1 hP (38) (by decide) rfl rfl) rfl hl.1 d_W_person_44 (Nat.le_of_ble_eq_true rfl) (Nat.le_of_ble_eq_true rfl) ⟨(Nat.le_of_ble_eq_true rfl), (Nat.le_of_ble_eq_true rfl)⟩ (fun r v1 sd1 H l1 hp hP hS => ?_)
    obtain ⟨rfl, rfl, rfl⟩ := hp
    refine lv_aload_n K.hx K.hb d_W_person_47 rfl (lv_at hl 0 rfl) ?_
    refine g_get K.1 hP (0) (by decide) rfl rfl i_W 4 (by decide) rfl (Or.inl kw_226) rfl d_W_person_48 ?_
    refine g_get K.1 hP (19) (by decide) rfl rfl i_K 3 (by decide) rfl (Or.inr nw_162) rfl d_W_person_51 ?_
    refine lv_topE (y := (v 19 3 + 1)) (by first | (simp [u2_at, kp]; done) | (simp [u2_at, kp] <;> (intros; omega)) | (simp only [u2_at, kp]; (repeat' split) <;> first | rfl | (exfalso; omega))) ?_
    refine lv_iconst (v := 1) K.hx K.hb d_W_person_54 (by decide) ?_
    refine lv_isub K.hx K.hb d_W_person_55 ?_
    exact ce_i K hP hS ⟨⟨hcs, hch⟩, hp4, rfl, rfl, rfl⟩ (Nat.le_of_ble_eq_true rfl) (Nat.le_of_ble_eq_true rfl) d_W_person_56
  · exact ce_t K hP hS hfl kw_391 kw_34 xa_UOE rfl (text := "there are 4 persons") (by decide) hl.1 d_W_person_20 d_W_person_23 d_W_person_24 d_W_person_26 d_W_person_29 (Nat.le_of_ble_eq_true rfl) (Nat.le_of_ble_eq_true rfl) (Nat.le_of_ble_eq_true rfl) (Nat.le_of_ble_eq_true rfl) (Nat.le_of_ble_eq_true rfl) (Nat.le_of_ble_eq_true rfl) (Or.inr ⟨⟨hcs, hch⟩, fun h => c_17 (by rw [hpc]; exact nI_lt h (by decide)), rfl⟩)
set_option maxHeartbeats 4000000 in
set_option maxRecDepth 100000 in
theorem c_W_repair (l : Launch) (D : va_G) (cs : Nat → ClassId) (ad : Nat → Nat) (v : Nat → Nat → Int32) (sd : Int64) (hfl : l.flags = flags0) {tc : Nat} (htc : v 0 2 = nI tc) (ht8 : tc ≤ 8) {rc : Nat} (hrc : v 19 5 = nI rc) (hrl : rc ≤ 5) (x y z w : Int32)  : Cm l y_W_repair b_W_repair 5 (some .int) (rmx 3 3) [.ref (ad 0), .int x, .int y, .int z, .int w] D cs ad v sd (fun r v' sd' => ∃ i, i < tc ∧ x = nI i ∧ ((¬ z < 0 ∧ z < 4) ∧ ¬ wthZ y 1 24 = 0 ∧ ¬ wthZ w 0 1000 = 0) ∧ rc < 5 ∧ r = some (.int (v 19 5 + 1 - 1)) ∧ u2 (u2 (u2 (u2 (u2 (u2 (u2 (u2 (u2 v (33 + rc) 0 (nI i)) (33 + rc) 1 y) (33 + rc) 2 z) (33 + rc) 3 w) (33 + rc) 4 (-1)) (33 + rc) 5 (-1)) (33 + rc) 6 (-1)) 19 5 (v 19 5 + 1)) 38 4 0 = v' ∧ sd = sd') (fun cls => ((¬ ∃ i, i < tc ∧ x = nI i) ∧ cls = "java/lang/IndexOutOfBoundsException") ∨ ((∃ i, i < tc ∧ x = nI i) ∧ ¬ ((¬ z < 0 ∧ z < 4) ∧ ¬ wthZ y 1 24 = 0 ∧ ¬ wthZ w 0 1000 = 0) ∧ cls = "java/lang/IllegalArgumentException") ∨ ((∃ i, i < tc ∧ x = nI i) ∧ ((¬ z < 0 ∧ z < 4) ∧ ¬ wthZ y 1 24 = 0 ∧ ¬ wthZ w 0 1000 = 0) ∧ ¬ rc < 5 ∧ cls = "java/lang/UnsupportedOperationException")) := by
  refine cw_enter (own := "WearHours") rfl (Nat.le_of_ble_eq_true rfl) ?_
  intro p e s m below meth c ls K hS hP hl
  have hl : lv_has ls 5 [(0, .ref (ad 0)), (1, .int x), (2, .int y), (3, .int z), (4, .int w)] := hl
  refine lv_aload_n K.hx K.hb d_W_repair_0 rfl (lv_at hl 0 rfl) ?_
  refine lv_iload_n K.hx K.hb d_W_repair_1 rfl (lv_at hl 1 rfl) ?_
  refine cc_Vx K hP hS (c_W_knownThing l D cs ad _ _ hfl htc ht8 x) (fun cls h => Or.inl h) kw_423 xm_W_knownThing kw_420 kw_422 kw_9 (g_recv K.1.2.1 hP (0) (by decide) rfl rfl) rfl hl.1 d_W_repair_2 (Nat.le_of_ble_eq_true rfl) (Nat.le_of_ble_eq_true rfl) ⟨(Nat.le_of_ble_eq_true rfl), (Nat.le_of_ble_eq_true rfl)⟩ (Nat.le_of_ble_eq_true rfl) (Nat.le_of_ble_eq_true rfl) (fun r v1 sd1 H l1 hp hP hS => ?_)
  obtain ⟨i, hi, rfl, rfl, rfl, rfl⟩ := hp
  have hi8 : i < 8 := by omega
  refine lv_pop K.hx K.hb d_W_repair_5 rfl ?_
  refine lv_iload_n K.hx K.hb d_W_repair_6 rfl (lv_at hl 3 rfl) ?_
  refine cc_Sx K hP hS (c_W_checkSkill l D cs ad _ _ hfl z) (fun cls h => Or.inr (Or.inl ⟨⟨i, hi, rfl⟩, fun q => by rcases h.1 with h1 | h1 <;> simp_all, h.2⟩)) kw_557 xm_W_checkSkill kw_555 kw_556 kw_22 rfl hl.1 d_W_repair_7 (Nat.le_of_ble_eq_true rfl) (Nat.le_of_ble_eq_true rfl) ⟨(Nat.le_of_ble_eq_true rfl), (Nat.le_of_ble_eq_true rfl)⟩ (Nat.le_of_ble_eq_true rfl) (Nat.le_of_ble_eq_true rfl) (fun r v1 sd1 H l1 hp hP hS => ?_)
  obtain ⟨hcs, rfl, rfl, rfl⟩ := hp
  refine lv_iload_n K.hx K.hb d_W_repair_10 rfl (lv_at hl 2 rfl) ?_
  refine lv_iconst (v := 1) K.hx K.hb d_W_repair_11 (by decide) ?_
  refine lv_bipush (v := 24) K.hx K.hb d_W_repair_12 (by decide) ?_
  refine cc_S K hP hS (c_W_isWithin l D cs ad _ _ y 1 24) kw_321 xm_W_isWithin kw_319 kw_320 kw_22 rfl hl.1 d_W_repair_14 (Nat.le_of_ble_eq_true rfl) (Nat.le_of_ble_eq_true rfl) ⟨(Nat.le_of_ble_eq_true rfl), (Nat.le_of_ble_eq_true rfl)⟩ (fun r v1 sd1 H l1 hp hP hS => ?_)
  obtain ⟨rfl, rfl, rfl⟩ := hp
  refine lv_if_eq (tgt := 32) K.hx K.hb d_W_repair_17 (by decide) (fun c_17 => ?_) (fun c_17 => ?_)
  · exact ce_t K hP hS hfl kw_322 kw_33 xa_IAE rfl (text := "hours are 1 to 24, waiting is 0 to 1000") (by decide) hl.1 d_W_repair_32 d_W_repair_35 d_W_repair_36 d_W_repair_38 d_W_repair_41 (Nat.le_of_ble_eq_true rfl) (Nat.le_of_ble_eq_true rfl) (Nat.le_of_ble_eq_true rfl) (Nat.le_of_ble_eq_true rfl) (Nat.le_of_ble_eq_true rfl) (Nat.le_of_ble_eq_true rfl) (Or.inr (Or.inl ⟨⟨i, hi, rfl⟩, fun q => by simp_all, rfl⟩))
  · refine lv_iload K.hx K.hb d_W_repair_20 (lv_at hl 4 rfl) ?_
    refine lv_iconst (v := 0) K.hx K.hb d_W_repair_22 (by decide) ?_
    refine lv_sipush (v := 1000) K.hx K.hb d_W_repair_23 (by decide) ?_
    refine cc_S K hP hS (c_W_isWithin l D cs ad _ _ w 0 1000) kw_321 xm_W_isWithin kw_319 kw_320 kw_22 rfl hl.1 d_W_repair_26 (Nat.le_of_ble_eq_true rfl) (Nat.le_of_ble_eq_true rfl) ⟨(Nat.le_of_ble_eq_true rfl), (Nat.le_of_ble_eq_true rfl)⟩ (fun r v1 sd1 H l1 hp hP hS => ?_)
    obtain ⟨rfl, rfl, rfl⟩ := hp
    refine lv_if_ne (tgt := 42) K.hx K.hb d_W_repair_29 (by decide) (fun c_29 => ?_) (fun c_29 => ?_)
    · refine lv_aload_n K.hx K.hb d_W_repair_42 rfl (lv_at hl 0 rfl) ?_
      refine g_get K.1 hP (0) (by decide) rfl rfl i_W 4 (by decide) rfl (Or.inl kw_226) rfl d_W_repair_43 ?_
      refine g_get K.1 hP (19) (by decide) rfl rfl i_K 5 (by decide) rfl (Or.inr nw_168) rfl d_W_repair_46 ?_
      refine lv_iconst (v := 5) K.hx K.hb d_W_repair_49 (by decide) ?_
      refine lv_icmp_lt (tgt := 63) K.hx K.hb d_W_repair_50 (by decide) (fun c_50 => ?_) (fun c_50 => ?_)
      · have hr5 : rc < 5 := (nI_ltI (by omega) (by decide)).mp (by rw [← hrc]; exact c_50)
        refine lv_aload_n K.hx K.hb d_W_repair_63 rfl (lv_at hl 0 rfl) ?_
        refine g_get K.1 hP (0) (by decide) rfl rfl i_W 4 (by decide) rfl (Or.inl kw_226) rfl d_W_repair_64 ?_
        refine lv_iload_n K.hx K.hb d_W_repair_67 rfl (lv_at hl 1 rfl) ?_
        refine lv_iload_n K.hx K.hb d_W_repair_68 rfl (lv_at hl 2 rfl) ?_
        refine lv_iload_n K.hx K.hb d_W_repair_69 rfl (lv_at hl 3 rfl) ?_
        refine lv_iload K.hx K.hb d_W_repair_70 (lv_at hl 4 rfl) ?_
        refine cc_V K hP hS (c_K_addRepair l D cs ad _ _ hrc hr5 (nI i) y z w) kw_576 xm_K_addRepair kw_573 kw_574 kw_575 (g_recv K.1.2.1 hP (19) (by decide) rfl rfl) rfl hl.1 d_W_repair_72 (Nat.le_of_ble_eq_true rfl) (Nat.le_of_ble_eq_true rfl) ⟨(Nat.le_of_ble_eq_true rfl), (Nat.le_of_ble_eq_true rfl)⟩ (fun r v1 sd1 H l1 hp hP hS => ?_)
        obtain ⟨rfl, rfl, rfl⟩ := hp
        refine lv_aload_n K.hx K.hb d_W_repair_75 rfl (lv_at hl 0 rfl) ?_
        refine g_get K.1 hP (0) (by decide) rfl rfl i_W 5 (by decide) rfl (Or.inl kw_227) rfl d_W_repair_76 ?_
        refine cc_V K hP hS (c_L_forget l D cs ad _ _) kw_547 xm_L_forget kw_544 kw_545 kw_546 (g_recv K.1.2.1 hP (38) (by decide) rfl rfl) rfl hl.1 d_W_repair_79 (Nat.le_of_ble_eq_true rfl) (Nat.le_of_ble_eq_true rfl) ⟨(Nat.le_of_ble_eq_true rfl), (Nat.le_of_ble_eq_true rfl)⟩ (fun r v1 sd1 H l1 hp hP hS => ?_)
        obtain ⟨rfl, rfl, rfl⟩ := hp
        refine lv_aload_n K.hx K.hb d_W_repair_82 rfl (lv_at hl 0 rfl) ?_
        refine g_get K.1 hP (0) (by decide) rfl rfl i_W 4 (by decide) rfl (Or.inl kw_226) rfl d_W_repair_83 ?_
        refine g_get K.1 hP (19) (by decide) rfl rfl i_K 5 (by decide) rfl (Or.inr nw_168) rfl d_W_repair_86 ?_
        refine lv_topE (y := (v 19 5 + 1)) (by first | (simp [u2_at, kp]; done) | (simp [u2_at, kp] <;> (intros; omega)) | (simp only [u2_at, kp]; (repeat' split) <;> first | rfl | (exfalso; omega))) ?_
        refine lv_iconst (v := 1) K.hx K.hb d_W_repair_89 (by decide) ?_
        refine lv_isub K.hx K.hb d_W_repair_90 ?_
        exact ce_i K hP hS ⟨i, hi, rfl, ⟨hcs, ‹_›, ‹_›⟩, hr5, rfl, rfl, rfl⟩ (Nat.le_of_ble_eq_true rfl) (Nat.le_of_ble_eq_true rfl) d_W_repair_91
      · exact ce_t K hP hS hfl kw_391 kw_34 xa_UOE rfl (text := "there are 5 repairs") (by decide) hl.1 d_W_repair_53 d_W_repair_56 d_W_repair_57 d_W_repair_59 d_W_repair_62 (Nat.le_of_ble_eq_true rfl) (Nat.le_of_ble_eq_true rfl) (Nat.le_of_ble_eq_true rfl) (Nat.le_of_ble_eq_true rfl) (Nat.le_of_ble_eq_true rfl) (Nat.le_of_ble_eq_true rfl) (Or.inr (Or.inr ⟨⟨i, hi, rfl⟩, ⟨hcs, ‹_›, ‹_›⟩, fun h => c_50 (by rw [hrc]; exact nI_lt h (by decide)), rfl⟩))
    · exact ce_t K hP hS hfl kw_322 kw_33 xa_IAE rfl (text := "hours are 1 to 24, waiting is 0 to 1000") (by decide) hl.1 d_W_repair_32 d_W_repair_35 d_W_repair_36 d_W_repair_38 d_W_repair_41 (Nat.le_of_ble_eq_true rfl) (Nat.le_of_ble_eq_true rfl) (Nat.le_of_ble_eq_true rfl) (Nat.le_of_ble_eq_true rfl) (Nat.le_of_ble_eq_true rfl) (Nat.le_of_ble_eq_true rfl) (Or.inr (Or.inl ⟨⟨i, hi, rfl⟩, fun q => by simp_all, rfl⟩))
set_option maxHeartbeats 4000000 in
set_option maxRecDepth 100000 in
theorem c_W_rules (l : Launch) (D : va_G) (cs : Nat → ClassId) (ad : Nat → Nat) (v : Nat → Nat → Int32) (sd : Int64) (hfl : l.flags = flags0) (x y : Int32)  : Cm l y_W_rules b_W_rules 3 none (rmx 1 1) [.ref (ad 0), .int x, .int y] D cs ad v sd (fun r v' sd' => (¬ wthZ x 0 24 = 0 ∧ ¬ wthZ y 0 1000000 = 0) ∧ r = none ∧ u2 (u2 (u2 v 19 6 x) 19 7 y) 38 4 0 = v' ∧ sd = sd') (fun cls => ¬ (¬ wthZ x 0 24 = 0 ∧ ¬ wthZ y 0 1000000 = 0) ∧ cls = "java/lang/IllegalArgumentException") := by
  refine cw_enter (own := "WearHours") rfl (Nat.le_of_ble_eq_true rfl) ?_
  intro p e s m below meth c ls K hS hP hl
  have hl : lv_has ls 3 [(0, .ref (ad 0)), (1, .int x), (2, .int y)] := hl
  refine lv_iload_n K.hx K.hb d_W_rules_0 rfl (lv_at hl 1 rfl) ?_
  refine lv_iconst (v := 0) K.hx K.hb d_W_rules_1 (by decide) ?_
  refine lv_bipush (v := 24) K.hx K.hb d_W_rules_2 (by decide) ?_
  refine cc_S K hP hS (c_W_isWithin l D cs ad _ _ x 0 24) kw_321 xm_W_isWithin kw_319 kw_320 kw_22 rfl hl.1 d_W_rules_4 (Nat.le_of_ble_eq_true rfl) (Nat.le_of_ble_eq_true rfl) ⟨(Nat.le_of_ble_eq_true rfl), (Nat.le_of_ble_eq_true rfl)⟩ (fun r v1 sd1 H l1 hp hP hS => ?_)
  obtain ⟨rfl, rfl, rfl⟩ := hp
  refine lv_if_eq (tgt := 20) K.hx K.hb d_W_rules_7 (by decide) (fun c_7 => ?_) (fun c_7 => ?_)
  · exact ce_t K hP hS hfl kw_322 kw_33 xa_IAE rfl (text := "rest is 0 to 24, failing is 0 to 1000000") (by decide) hl.1 d_W_rules_20 d_W_rules_23 d_W_rules_24 d_W_rules_26 d_W_rules_29 (Nat.le_of_ble_eq_true rfl) (Nat.le_of_ble_eq_true rfl) (Nat.le_of_ble_eq_true rfl) (Nat.le_of_ble_eq_true rfl) (Nat.le_of_ble_eq_true rfl) (Nat.le_of_ble_eq_true rfl) ⟨fun q => by simp_all, rfl⟩
  · refine lv_iload_n K.hx K.hb d_W_rules_10 rfl (lv_at hl 2 rfl) ?_
    refine lv_iconst (v := 0) K.hx K.hb d_W_rules_11 (by decide) ?_
    refine lv_ldc (v := 1000000) K.hx K.hb K.1.1.2.2.2.1 (K.1.1.2.2.2.2 _ kw_318) d_W_rules_12 ?_
    refine cc_S K hP hS (c_W_isWithin l D cs ad _ _ y 0 1000000) kw_321 xm_W_isWithin kw_319 kw_320 kw_22 rfl hl.1 d_W_rules_14 (Nat.le_of_ble_eq_true rfl) (Nat.le_of_ble_eq_true rfl) ⟨(Nat.le_of_ble_eq_true rfl), (Nat.le_of_ble_eq_true rfl)⟩ (fun r v1 sd1 H l1 hp hP hS => ?_)
    obtain ⟨rfl, rfl, rfl⟩ := hp
    refine lv_if_ne (tgt := 30) K.hx K.hb d_W_rules_17 (by decide) (fun c_17 => ?_) (fun c_17 => ?_)
    · refine lv_aload_n K.hx K.hb d_W_rules_30 rfl (lv_at hl 0 rfl) ?_
      refine g_get K.1 hP (0) (by decide) rfl rfl i_W 4 (by decide) rfl (Or.inl kw_226) rfl d_W_rules_31 ?_
      refine lv_iload_n K.hx K.hb d_W_rules_34 rfl (lv_at hl 1 rfl) ?_
      refine g_puti K.1 hP hS (19) (by decide) rfl rfl i_K ft_K ft_K_ok n_K 6 (by decide) rfl (Or.inr nw_171) rfl rfl rfl (Nat.le_of_ble_eq_true rfl) rfl d_W_rules_35 (fun H l1 hP hS => ?_)
      refine lv_aload_n K.hx K.hb d_W_rules_38 rfl (lv_at hl 0 rfl) ?_
      refine g_get K.1 hP (0) (by decide) rfl rfl i_W 4 (by decide) rfl (Or.inl kw_226) rfl d_W_rules_39 ?_
      refine lv_iload_n K.hx K.hb d_W_rules_42 rfl (lv_at hl 2 rfl) ?_
      refine g_puti K.1 hP hS (19) (by decide) rfl rfl i_K ft_K ft_K_ok n_K 7 (by decide) rfl (Or.inr nw_173) rfl rfl rfl (Nat.le_of_ble_eq_true rfl) rfl d_W_rules_43 (fun H l1 hP hS => ?_)
      refine lv_aload_n K.hx K.hb d_W_rules_46 rfl (lv_at hl 0 rfl) ?_
      refine g_get K.1 hP (0) (by decide) rfl rfl i_W 5 (by decide) rfl (Or.inl kw_227) rfl d_W_rules_47 ?_
      refine cc_V K hP hS (c_L_forget l D cs ad _ _) kw_547 xm_L_forget kw_544 kw_545 kw_546 (g_recv K.1.2.1 hP (38) (by decide) rfl rfl) rfl hl.1 d_W_rules_50 (Nat.le_of_ble_eq_true rfl) (Nat.le_of_ble_eq_true rfl) ⟨(Nat.le_of_ble_eq_true rfl), (Nat.le_of_ble_eq_true rfl)⟩ (fun r v1 sd1 H l1 hp hP hS => ?_)
      obtain ⟨rfl, rfl, rfl⟩ := hp
      exact ce_v K hP hS ⟨⟨‹_›, ‹_›⟩, rfl, rfl, rfl⟩ (Nat.le_of_ble_eq_true rfl) (Nat.le_of_ble_eq_true rfl) d_W_rules_53
    · exact ce_t K hP hS hfl kw_322 kw_33 xa_IAE rfl (text := "rest is 0 to 24, failing is 0 to 1000000") (by decide) hl.1 d_W_rules_20 d_W_rules_23 d_W_rules_24 d_W_rules_26 d_W_rules_29 (Nat.le_of_ble_eq_true rfl) (Nat.le_of_ble_eq_true rfl) (Nat.le_of_ble_eq_true rfl) (Nat.le_of_ble_eq_true rfl) (Nat.le_of_ble_eq_true rfl) (Nat.le_of_ble_eq_true rfl) ⟨fun q => by simp_all, rfl⟩
set_option maxHeartbeats 4000000 in
set_option maxRecDepth 100000 in
theorem c_W_at (l : Launch) (D : va_G) (cs : Nat → ClassId) (ad : Nat → Nat) (v : Nat → Nat → Int32) (sd : Int64) (hfl : l.flags = flags0) {rc : Nat} (hrc : v 19 5 = nI rc) (hrl : rc ≤ 5) (x y : Int32)  : Cm l y_W_at b_W_at 4 (some .int) (rmx 1 3) [.ref (ad 0), .int x, .int y] D cs ad v sd (fun r v' sd' => ∃ i, i < rc ∧ x = nI i ∧ (¬ y < 0 ∧ y < 3) ∧ ¬ v 38 4 = 0 ∧ r = some (.int (if y = 0 then v (33 + i) 4 else if y = 1 then v (33 + i) 5 else v (33 + i) 6)) ∧ v = v' ∧ sd = sd') (fun cls => (¬ ((∃ i, i < rc ∧ x = nI i) ∧ (¬ y < 0 ∧ y < 3)) ∧ cls = "java/lang/IndexOutOfBoundsException") ∨ ((∃ i, i < rc ∧ x = nI i) ∧ (¬ y < 0 ∧ y < 3) ∧ v 38 4 = 0 ∧ cls = "java/lang/IllegalStateException")) := by
  refine cw_enter (own := "WearHours") rfl (Nat.le_of_ble_eq_true rfl) ?_
  intro p e s m below meth c ls K hS hP hl
  have hl : lv_has ls 4 [(0, .ref (ad 0)), (1, .int x), (2, .int y)] := hl
  refine lv_iload_n K.hx K.hb d_W_at_0 rfl (lv_at hl 1 rfl) ?_
  refine lv_if_lt (tgt := 15) K.hx K.hb d_W_at_1 (by decide) (fun c_1 => ?_) (fun c_1 => ?_)
  · exact ce_t K hP hS hfl kw_424 kw_35 xa_IOE rfl (text := "there is no such repair") (by decide) hl.1 d_W_at_15 d_W_at_18 d_W_at_19 d_W_at_21 d_W_at_24 (Nat.le_of_ble_eq_true rfl) (Nat.le_of_ble_eq_true rfl) (Nat.le_of_ble_eq_true rfl) (Nat.le_of_ble_eq_true rfl) (Nat.le_of_ble_eq_true rfl) (Nat.le_of_ble_eq_true rfl) (Or.inl ⟨fun q => (ix_no (n := rc) (by omega) (by first | exact Or.inl c_1 | exact Or.inr (by rw [← hrc]; exact c_12))) q.1, rfl⟩)
  · refine lv_iload_n K.hx K.hb d_W_at_4 rfl (lv_at hl 1 rfl) ?_
    refine lv_aload_n K.hx K.hb d_W_at_5 rfl (lv_at hl 0 rfl) ?_
    refine g_get K.1 hP (0) (by decide) rfl rfl i_W 4 (by decide) rfl (Or.inl kw_226) rfl d_W_at_6 ?_
    refine g_get K.1 hP (19) (by decide) rfl rfl i_K 5 (by decide) rfl (Or.inr nw_168) rfl d_W_at_9 ?_
    refine lv_icmp_lt (tgt := 25) K.hx K.hb d_W_at_12 (by decide) (fun c_12 => ?_) (fun c_12 => ?_)
    · obtain ⟨i, hi, rfl⟩ := ix_of (n := rc) (by omega) c_1 (by rw [← hrc]; exact c_12)
      have hi5 : i < 5 := by omega
      refine lv_iload_n K.hx K.hb d_W_at_25 rfl (lv_at hl 2 rfl) ?_
      refine cc_Sx K hP hS (c_W_checkWhat l D cs ad _ _ hfl y) (fun cls h => Or.inl ⟨fun q => by rcases h.1 with h1 | h1 <;> simp_all, h.2⟩) kw_478 xm_W_checkWhat kw_476 kw_477 kw_22 rfl hl.1 d_W_at_26 (Nat.le_of_ble_eq_true rfl) (Nat.le_of_ble_eq_true rfl) ⟨(Nat.le_of_ble_eq_true rfl), (Nat.le_of_ble_eq_true rfl)⟩ (Nat.le_of_ble_eq_true rfl) (Nat.le_of_ble_eq_true rfl) (fun r v1 sd1 H l1 hp hP hS => ?_)
      obtain ⟨hcw, rfl, rfl, rfl⟩ := hp
      refine lv_aload_n K.hx K.hb d_W_at_29 rfl (lv_at hl 0 rfl) ?_
      refine cc_Vx K hP hS (c_W_checkPlan l D cs ad _ _ hfl) (fun cls h => Or.inr ⟨⟨i, hi, rfl⟩, hcw, h⟩) kw_597 xm_W_checkPlan kw_594 kw_596 kw_12 (g_recv K.1.2.1 hP (0) (by decide) rfl rfl) rfl hl.1 d_W_at_30 (Nat.le_of_ble_eq_true rfl) (Nat.le_of_ble_eq_true rfl) ⟨(Nat.le_of_ble_eq_true rfl), (Nat.le_of_ble_eq_true rfl)⟩ (Nat.le_of_ble_eq_true rfl) (Nat.le_of_ble_eq_true rfl) (fun r v1 sd1 H l1 hp hP hS => ?_)
      obtain ⟨hcp, rfl, rfl, rfl⟩ := hp
      refine lv_aload_n K.hx K.hb d_W_at_33 rfl (lv_at hl 0 rfl) ?_
      refine g_get K.1 hP (0) (by decide) rfl rfl i_W 4 (by decide) rfl (Or.inl kw_226) rfl d_W_at_34 ?_
      refine g_get K.1 hP (19) (by decide) rfl rfl i_K 4 (by decide) rfl (Or.inr nw_165) rfl d_W_at_37 ?_
      refine lv_iload_n K.hx K.hb d_W_at_40 rfl (lv_at hl 1 rfl) ?_
      refine g_aald K.1 hP (32) (by decide) rfl 6 rfl (i) rfl (by have := hi5; omega) (by decide) rfl d_W_at_41 ?_
      refine lv_astore_n (lv' := [(3, .ref (ad (33 + i))), (0, .ref (ad 0)), (1, .int (nI i)), (2, .int y)]) K.hx K.hb d_W_at_42 rfl hl (by decide) rfl (fun ls hl => ?_)
      refine lv_iload_n K.hx K.hb d_W_at_43 rfl (lv_at hl 3 rfl) ?_
      refine lv_if_ne (tgt := 52) K.hx K.hb d_W_at_44 (by decide) (fun c_44 => ?_) (fun c_44 => ?_)
      · refine lv_iload_n K.hx K.hb d_W_at_52 rfl (lv_at hl 3 rfl) ?_
        refine lv_iconst (v := 1) K.hx K.hb d_W_at_53 (by decide) ?_
        refine lv_icmp_ne (tgt := 64) K.hx K.hb d_W_at_54 (by decide) (fun c_54 => ?_) (fun c_54 => ?_)
        · refine lv_aload_n K.hx K.hb d_W_at_64 rfl (lv_at hl 0 rfl) ?_
          refine g_get K.1 hP (33 + i) (by have := hi5; omega) (eR hi5) rfl i_R 6 (by decide) rfl (Or.inr nw_137) rfl d_W_at_65 ?_
          exact ce_i K hP hS ⟨i, hi, rfl, hcw, hcp, by simp [*], rfl, rfl⟩ (Nat.le_of_ble_eq_true rfl) (Nat.le_of_ble_eq_true rfl) d_W_at_68
        · refine lv_aload_n K.hx K.hb d_W_at_57 rfl (lv_at hl 0 rfl) ?_
          refine g_get K.1 hP (33 + i) (by have := hi5; omega) (eR hi5) rfl i_R 5 (by decide) rfl (Or.inr nw_135) rfl d_W_at_58 ?_
          refine lv_goto (tgt := 68) K.hx K.hb d_W_at_61 (by decide) ?_
          exact ce_i K hP hS ⟨i, hi, rfl, hcw, hcp, by simp [*], rfl, rfl⟩ (Nat.le_of_ble_eq_true rfl) (Nat.le_of_ble_eq_true rfl) d_W_at_68
      · refine lv_aload_n K.hx K.hb d_W_at_47 rfl (lv_at hl 0 rfl) ?_
        refine g_get K.1 hP (33 + i) (by have := hi5; omega) (eR hi5) rfl i_R 4 (by decide) rfl (Or.inr nw_133) rfl d_W_at_48 ?_
        exact ce_i K hP hS ⟨i, hi, rfl, hcw, hcp, by simp [*], rfl, rfl⟩ (Nat.le_of_ble_eq_true rfl) (Nat.le_of_ble_eq_true rfl) d_W_at_51
    · exact ce_t K hP hS hfl kw_424 kw_35 xa_IOE rfl (text := "there is no such repair") (by decide) hl.1 d_W_at_15 d_W_at_18 d_W_at_19 d_W_at_21 d_W_at_24 (Nat.le_of_ble_eq_true rfl) (Nat.le_of_ble_eq_true rfl) (Nat.le_of_ble_eq_true rfl) (Nat.le_of_ble_eq_true rfl) (Nat.le_of_ble_eq_true rfl) (Nat.le_of_ble_eq_true rfl) (Or.inl ⟨fun q => (ix_no (n := rc) (by omega) (by first | exact Or.inl c_1 | exact Or.inr (by rw [← hrc]; exact c_12))) q.1, rfl⟩)
set_option maxHeartbeats 4000000 in
set_option maxRecDepth 100000 in
theorem c_W_cost (l : Launch) (D : va_G) (cs : Nat → ClassId) (ad : Nat → Nat) (v : Nat → Nat → Int32) (sd : Int64) (hfl : l.flags = flags0)  : Cm l y_W_cost b_W_cost 1 (some .int) (rmx 1 1) [.ref (ad 0)] D cs ad v sd (fun r v' sd' => ¬ v 38 4 = 0 ∧ r = some (.int (v 38 5)) ∧ v = v' ∧ sd = sd') (fun cls => v 38 4 = 0 ∧ cls = "java/lang/IllegalStateException") := by
  refine cw_enter (own := "WearHours") rfl (Nat.le_of_ble_eq_true rfl) ?_
  intro p e s m below meth c ls K hS hP hl
  have hl : lv_has ls 1 [(0, .ref (ad 0))] := hl
  refine lv_aload_n K.hx K.hb d_W_cost_0 rfl (lv_at hl 0 rfl) ?_
  refine cc_Vx K hP hS (c_W_checkPlan l D cs ad _ _ hfl) (fun cls h => h) kw_597 xm_W_checkPlan kw_594 kw_596 kw_12 (g_recv K.1.2.1 hP (0) (by decide) rfl rfl) rfl hl.1 d_W_cost_1 (Nat.le_of_ble_eq_true rfl) (Nat.le_of_ble_eq_true rfl) ⟨(Nat.le_of_ble_eq_true rfl), (Nat.le_of_ble_eq_true rfl)⟩ (Nat.le_of_ble_eq_true rfl) (Nat.le_of_ble_eq_true rfl) (fun r v1 sd1 H l1 hp hP hS => ?_)
  obtain ⟨hcp, rfl, rfl, rfl⟩ := hp
  refine lv_aload_n K.hx K.hb d_W_cost_4 rfl (lv_at hl 0 rfl) ?_
  refine g_get K.1 hP (0) (by decide) rfl rfl i_W 5 (by decide) rfl (Or.inl kw_227) rfl d_W_cost_5 ?_
  refine g_get K.1 hP (38) (by decide) rfl rfl i_L 5 (by decide) rfl (Or.inr nw_204) rfl d_W_cost_8 ?_
  exact ce_i K hP hS ⟨hcp, rfl, rfl, rfl⟩ (Nat.le_of_ble_eq_true rfl) (Nat.le_of_ble_eq_true rfl) d_W_cost_11
set_option maxHeartbeats 4000000 in
set_option maxRecDepth 100000 in
theorem c_W_spare (l : Launch) (D : va_G) (cs : Nat → ClassId) (ad : Nat → Nat) (v : Nat → Nat → Int32) (sd : Int64) (hfl : l.flags = flags0) (x y : Int32)  : Cm l y_W_spare b_W_spare 3 (some .int) (rmx 1 1) [.ref (ad 0), .int x, .int y] D cs ad v sd (fun r v' sd' => ∃ i, i < 4 ∧ x = nI i ∧ ¬ wthZ y 0 100 = 0 ∧ v 18 i + y ≤ 1000 ∧ r = some (.int (v 18 i + y)) ∧ u2 v 18 i (v 18 i + y) = v' ∧ sd = sd') (fun cls => ((¬ ∃ i, i < 4 ∧ x = nI i) ∧ cls = "java/lang/IndexOutOfBoundsException") ∨ ((∃ i, i < 4 ∧ x = nI i) ∧ wthZ y 0 100 = 0 ∧ cls = "java/lang/IllegalArgumentException") ∨ (∃ i, i < 4 ∧ x = nI i ∧ ¬ wthZ y 0 100 = 0 ∧ ¬ v 18 i + y ≤ 1000 ∧ cls = "java/lang/UnsupportedOperationException")) := by
  refine cw_enter (own := "WearHours") rfl (Nat.le_of_ble_eq_true rfl) ?_
  intro p e s m below meth c ls K hS hP hl
  have hl : lv_has ls 3 [(0, .ref (ad 0)), (1, .int x), (2, .int y)] := hl
  refine lv_iload_n K.hx K.hb d_W_spare_0 rfl (lv_at hl 1 rfl) ?_
  refine lv_if_lt (tgt := 9) K.hx K.hb d_W_spare_1 (by decide) (fun c_1 => ?_) (fun c_1 => ?_)
  · exact ce_t K hP hS hfl kw_424 kw_35 xa_IOE rfl (text := "a kind is 0 to 3") (by decide) hl.1 d_W_spare_9 d_W_spare_12 d_W_spare_13 d_W_spare_15 d_W_spare_18 (Nat.le_of_ble_eq_true rfl) (Nat.le_of_ble_eq_true rfl) (Nat.le_of_ble_eq_true rfl) (Nat.le_of_ble_eq_true rfl) (Nat.le_of_ble_eq_true rfl) (Nat.le_of_ble_eq_true rfl) (Or.inl ⟨ix_no (n := 4) (by omega) (by first | exact Or.inl c_1 | exact Or.inr c_6), rfl⟩)
  · refine lv_iload_n K.hx K.hb d_W_spare_4 rfl (lv_at hl 1 rfl) ?_
    refine lv_iconst (v := 4) K.hx K.hb d_W_spare_5 (by decide) ?_
    refine lv_icmp_lt (tgt := 19) K.hx K.hb d_W_spare_6 (by decide) (fun c_6 => ?_) (fun c_6 => ?_)
    · obtain ⟨i, hi, rfl⟩ := ix_of (n := 4) (by omega) c_1 c_6
      refine lv_iload_n K.hx K.hb d_W_spare_19 rfl (lv_at hl 2 rfl) ?_
      refine lv_iconst (v := 0) K.hx K.hb d_W_spare_20 (by decide) ?_
      refine lv_bipush (v := 100) K.hx K.hb d_W_spare_21 (by decide) ?_
      refine cc_S K hP hS (c_W_isWithin l D cs ad _ _ y 0 100) kw_321 xm_W_isWithin kw_319 kw_320 kw_22 rfl hl.1 d_W_spare_23 (Nat.le_of_ble_eq_true rfl) (Nat.le_of_ble_eq_true rfl) ⟨(Nat.le_of_ble_eq_true rfl), (Nat.le_of_ble_eq_true rfl)⟩ (fun r v1 sd1 H l1 hp hP hS => ?_)
      obtain ⟨rfl, rfl, rfl⟩ := hp
      refine lv_if_ne (tgt := 39) K.hx K.hb d_W_spare_26 (by decide) (fun c_26 => ?_) (fun c_26 => ?_)
      · refine lv_aload_n K.hx K.hb d_W_spare_39 rfl (lv_at hl 0 rfl) ?_
        refine g_get K.1 hP (0) (by decide) rfl rfl i_W 3 (by decide) rfl (Or.inl kw_225) rfl d_W_spare_40 ?_
        refine lv_iload_n K.hx K.hb d_W_spare_43 rfl (lv_at hl 1 rfl) ?_
        refine g_iald K.1 hP (18) (by decide) rfl 0 rfl (i) rfl (by have := hi; omega) (by decide) d_W_spare_44 ?_
        refine lv_iload_n K.hx K.hb d_W_spare_45 rfl (lv_at hl 2 rfl) ?_
        refine lv_iadd K.hx K.hb d_W_spare_46 ?_
        refine lv_sipush (v := 1000) K.hx K.hb d_W_spare_47 (by decide) ?_
        refine lv_icmp_le (tgt := 63) K.hx K.hb d_W_spare_50 (by decide) (fun c_50 => ?_) (fun c_50 => ?_)
        · refine lv_aload_n K.hx K.hb d_W_spare_63 rfl (lv_at hl 0 rfl) ?_
          refine g_get K.1 hP (0) (by decide) rfl rfl i_W 3 (by decide) rfl (Or.inl kw_225) rfl d_W_spare_64 ?_
          refine lv_iload_n K.hx K.hb d_W_spare_67 rfl (lv_at hl 1 rfl) ?_
          refine lv_dup2_11 K.hx K.hb d_W_spare_68 rfl rfl ?_
          refine g_iald K.1 hP (18) (by decide) rfl 0 rfl (i) rfl (by have := hi; omega) (by decide) d_W_spare_69 ?_
          refine lv_iload_n K.hx K.hb d_W_spare_70 rfl (lv_at hl 2 rfl) ?_
          refine lv_iadd K.hx K.hb d_W_spare_71 ?_
          refine g_iast K.1 hP hS (18) (by decide) (fun _ => rfl) 0 rfl (i) rfl (by have := hi; omega) (by decide) d_W_spare_72 (fun H l1 hP hS => ?_)
          refine lv_aload_n K.hx K.hb d_W_spare_73 rfl (lv_at hl 0 rfl) ?_
          refine g_get K.1 hP (0) (by decide) rfl rfl i_W 3 (by decide) rfl (Or.inl kw_225) rfl d_W_spare_74 ?_
          refine lv_iload_n K.hx K.hb d_W_spare_77 rfl (lv_at hl 1 rfl) ?_
          refine g_iald K.1 hP (18) (by decide) rfl 0 rfl (i) rfl (by have := hi; omega) (by decide) d_W_spare_78 ?_
          refine lv_topE (y := ((v 18 i) + y)) (by first | (simp [u2_at, kp]; done) | (simp [u2_at, kp] <;> (intros; omega)) | (simp only [u2_at, kp]; (repeat' split) <;> first | rfl | (exfalso; omega))) ?_
          exact ce_i K hP hS ⟨i, hi, rfl, ‹_›, c_50, rfl, rfl, rfl⟩ (Nat.le_of_ble_eq_true rfl) (Nat.le_of_ble_eq_true rfl) d_W_spare_79
        · exact ce_t K hP hS hfl kw_391 kw_34 xa_UOE rfl (text := "a kind has at most 1000 spares") (by decide) hl.1 d_W_spare_53 d_W_spare_56 d_W_spare_57 d_W_spare_59 d_W_spare_62 (Nat.le_of_ble_eq_true rfl) (Nat.le_of_ble_eq_true rfl) (Nat.le_of_ble_eq_true rfl) (Nat.le_of_ble_eq_true rfl) (Nat.le_of_ble_eq_true rfl) (Nat.le_of_ble_eq_true rfl) (Or.inr (Or.inr ⟨i, hi, rfl, ‹_›, c_50, rfl⟩))
      · exact ce_t K hP hS hfl kw_322 kw_33 xa_IAE rfl (text := "spares are 0 to 100 at once") (by decide) hl.1 d_W_spare_29 d_W_spare_32 d_W_spare_33 d_W_spare_35 d_W_spare_38 (Nat.le_of_ble_eq_true rfl) (Nat.le_of_ble_eq_true rfl) (Nat.le_of_ble_eq_true rfl) (Nat.le_of_ble_eq_true rfl) (Nat.le_of_ble_eq_true rfl) (Nat.le_of_ble_eq_true rfl) (Or.inr (Or.inl ⟨⟨i, hi, rfl⟩, ‹_›, rfl⟩))
    · exact ce_t K hP hS hfl kw_424 kw_35 xa_IOE rfl (text := "a kind is 0 to 3") (by decide) hl.1 d_W_spare_9 d_W_spare_12 d_W_spare_13 d_W_spare_15 d_W_spare_18 (Nat.le_of_ble_eq_true rfl) (Nat.le_of_ble_eq_true rfl) (Nat.le_of_ble_eq_true rfl) (Nat.le_of_ble_eq_true rfl) (Nat.le_of_ble_eq_true rfl) (Nat.le_of_ble_eq_true rfl) (Or.inl ⟨ix_no (n := 4) (by omega) (by first | exact Or.inl c_1 | exact Or.inr c_6), rfl⟩)
