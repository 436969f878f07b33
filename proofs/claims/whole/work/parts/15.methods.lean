set_option maxHeartbeats 4000000 in
set_option maxRecDepth 100000 in
theorem c_R_isPlaced (l : Launch) (D : va_G) (cs : Nat → ClassId) (ad : Nat → Nat) (v : Nat → Nat → Int32) (sd : Int64) {i : Nat} (hi : i < 5)  : Cm l y_R_isPlaced b_R_isPlaced 1 (some .boolean) (rmx 0 0) [.ref (ad (33 + i))] D cs ad v sd (fun r v' sd' => r = some (.int (if v (33 + i) 4 = -1 then 0 else 1)) ∧ v = v' ∧ sd = sd') (fun cls => False) := by
  refine cw_enter (own := "WearHours$Repair") rfl (Nat.le_of_ble_eq_true rfl) ?_
  intro p e s m below meth c ls K hS hP hl
  have hl : lv_has ls 1 [(0, .ref (ad (33 + i)))] := hl
  refine lv_aload_n K.hx K.hb d_R_isPlaced_0 rfl (lv_at hl 0 rfl) ?_
  refine g_get K.1 hP (33 + i) (by have := hi; omega) (eR hi) rfl i_R 4 (by decide) rfl (Or.inl kw_132) rfl d_R_isPlaced_1 ?_
  refine lv_iconst (v := (-1)) K.hx K.hb d_R_isPlaced_4 (by decide) ?_
  refine lv_icmp_eq (tgt := 12) K.hx K.hb d_R_isPlaced_5 (by decide) (fun c_5 => ?_) (fun c_5 => ?_)
  · refine lv_iconst (v := 0) K.hx K.hb d_R_isPlaced_12 (by decide) ?_
    exact ce_z K hP hS rfl ⟨by simp [*], rfl, rfl⟩ (Nat.le_of_ble_eq_true rfl) (Nat.le_of_ble_eq_true rfl) d_R_isPlaced_13
  · refine lv_iconst (v := 1) K.hx K.hb d_R_isPlaced_8 (by decide) ?_
    refine lv_goto (tgt := 13) K.hx K.hb d_R_isPlaced_9 (by decide) ?_
    exact ce_z K hP hS rfl ⟨by simp [*], rfl, rfl⟩ (Nat.le_of_ble_eq_true rfl) (Nat.le_of_ble_eq_true rfl) d_R_isPlaced_13
set_option maxHeartbeats 4000000 in
set_option maxRecDepth 100000 in
theorem c_R_place (l : Launch) (D : va_G) (cs : Nat → ClassId) (ad : Nat → Nat) (v : Nat → Nat → Int32) (sd : Int64) {i : Nat} (hi : i < 5) (x y z : Int32)  : Cm l y_R_place b_R_place 4 none (rmx 0 0) [.ref (ad (33 + i)), .int x, .int y, .int z] D cs ad v sd (fun r v' sd' => r = none ∧ u2 (u2 (u2 v (33 + i) 4 x) (33 + i) 5 y) (33 + i) 6 z = v' ∧ sd = sd') (fun cls => False) := by
  refine cw_enter (own := "WearHours$Repair") rfl (Nat.le_of_ble_eq_true rfl) ?_
  intro p e s m below meth c ls K hS hP hl
  have hl : lv_has ls 4 [(0, .ref (ad (33 + i))), (1, .int x), (2, .int y), (3, .int z)] := hl
  refine lv_aload_n K.hx K.hb d_R_place_0 rfl (lv_at hl 0 rfl) ?_
  refine lv_iload_n K.hx K.hb d_R_place_1 rfl (lv_at hl 1 rfl) ?_
  refine g_puti K.1 hP hS (33 + i) (by have := hi; omega) (eR hi) rfl i_R ft_R ft_R_ok n_R 4 (by decide) rfl (Or.inl kw_132) rfl rfl rfl (Nat.le_of_ble_eq_true rfl) (by rw [eR hi]; rfl) d_R_place_2 (fun H l1 hP hS => ?_)
  refine lv_aload_n K.hx K.hb d_R_place_5 rfl (lv_at hl 0 rfl) ?_
  refine lv_iload_n K.hx K.hb d_R_place_6 rfl (lv_at hl 2 rfl) ?_
  refine g_puti K.1 hP hS (33 + i) (by have := hi; omega) (eR hi) rfl i_R ft_R ft_R_ok n_R 5 (by decide) rfl (Or.inl kw_134) rfl rfl rfl (Nat.le_of_ble_eq_true rfl) (by rw [eR hi]; rfl) d_R_place_7 (fun H l1 hP hS => ?_)
  refine lv_aload_n K.hx K.hb d_R_place_10 rfl (lv_at hl 0 rfl) ?_
  refine lv_iload_n K.hx K.hb d_R_place_11 rfl (lv_at hl 3 rfl) ?_
  refine g_puti K.1 hP hS (33 + i) (by have := hi; omega) (eR hi) rfl i_R ft_R ft_R_ok n_R 6 (by decide) rfl (Or.inl kw_136) rfl rfl rfl (Nat.le_of_ble_eq_true rfl) (by rw [eR hi]; rfl) d_R_place_12 (fun H l1 hP hS => ?_)
  exact ce_v K hP hS ⟨rfl, rfl, rfl⟩ (Nat.le_of_ble_eq_true rfl) (Nat.le_of_ble_eq_true rfl) d_R_place_15
set_option maxHeartbeats 4000000 in
set_option maxRecDepth 100000 in
theorem c_R_unplace (l : Launch) (D : va_G) (cs : Nat → ClassId) (ad : Nat → Nat) (v : Nat → Nat → Int32) (sd : Int64) {i : Nat} (hi : i < 5)  : Cm l y_R_unplace b_R_unplace 1 none (rmx 1 0) [.ref (ad (33 + i))] D cs ad v sd (fun r v' sd' => r = none ∧ u2 (u2 (u2 v (33 + i) 4 (-1)) (33 + i) 5 (-1)) (33 + i) 6 (-1) = v' ∧ sd = sd') (fun cls => False) := by
  refine cw_enter (own := "WearHours$Repair") rfl (Nat.le_of_ble_eq_true rfl) ?_
  intro p e s m below meth c ls K hS hP hl
  have hl : lv_has ls 1 [(0, .ref (ad (33 + i)))] := hl
  refine lv_aload_n K.hx K.hb d_R_unplace_0 rfl (lv_at hl 0 rfl) ?_
  refine lv_iconst (v := (-1)) K.hx K.hb d_R_unplace_1 (by decide) ?_
  refine lv_iconst (v := (-1)) K.hx K.hb d_R_unplace_2 (by decide) ?_
  refine lv_iconst (v := (-1)) K.hx K.hb d_R_unplace_3 (by decide) ?_
  refine cc_V K hP hS (c_R_place l D cs ad _ _ hi (-1) (-1) (-1)) kw_303 xm_R_place kw_300 kw_301 kw_302 (g_recv K.1.2.1 hP (33 + i) (by have := hi; omega) (eR hi) rfl) rfl hl.1 d_R_unplace_4 (Nat.le_of_ble_eq_true rfl) (Nat.le_of_ble_eq_true rfl) ⟨(Nat.le_of_ble_eq_true rfl), (Nat.le_of_ble_eq_true rfl)⟩ (fun r v1 sd1 H l1 hp hP hS => ?_)
  obtain ⟨rfl, rfl, rfl⟩ := hp
  exact ce_v K hP hS ⟨rfl, rfl, rfl⟩ (Nat.le_of_ble_eq_true rfl) (Nat.le_of_ble_eq_true rfl) d_R_unplace_7
set_option maxHeartbeats 4000000 in
set_option maxRecDepth 100000 in
theorem c_K_addGap (l : Launch) (D : va_G) (cs : Nat → ClassId) (ad : Nat → Nat) (v : Nat → Nat → Int32) (sd : Int64) {g : Nat} (hg : v 19 1 = nI g) (hg6 : g < 6) (x y : Int32)  : Cm l y_K_addGap b_K_addGap 4 none (rmx 0 0) [.ref (ad 19), .int x, .int y] D cs ad v sd (fun r v' sd' => r = none ∧ u2 (u2 (u2 v (21 + g) 0 x) (21 + g) 1 y) 19 1 (v 19 1 + 1) = v' ∧ sd = sd') (fun cls => False) := by
  refine cw_enter (own := "WearHours$Week") rfl (Nat.le_of_ble_eq_true rfl) ?_
  intro p e s m below meth c ls K hS hP hl
  have hl : lv_has ls 4 [(0, .ref (ad 19)), (1, .int x), (2, .int y)] := hl
  refine lv_aload_n K.hx K.hb d_K_addGap_0 rfl (lv_at hl 0 rfl) ?_
  refine g_get K.1 hP (19) (by decide) rfl rfl i_K 1 (by decide) rfl (Or.inl kw_155) rfl d_K_addGap_1 ?_
  refine lv_bipush (v := 6) K.hx K.hb d_K_addGap_4 (by decide) ?_
  refine lv_icmp_ge (tgt := 39) K.hx K.hb d_K_addGap_6 (by decide) (fun c_6 => (absurd (by rw [hg] at c_6; exact c_6) (nI_ge (a := g) (b := 6) hg6 (by decide)))) (fun c_6 => ?_)
  refine lv_aload_n K.hx K.hb d_K_addGap_9 rfl (lv_at hl 0 rfl) ?_
  refine g_get K.1 hP (19) (by decide) rfl rfl i_K 0 (by decide) rfl (Or.inl kw_153) rfl d_K_addGap_10 ?_
  refine lv_aload_n K.hx K.hb d_K_addGap_13 rfl (lv_at hl 0 rfl) ?_
  refine g_get K.1 hP (19) (by decide) rfl rfl i_K 1 (by decide) rfl (Or.inl kw_155) rfl d_K_addGap_14 ?_
  refine g_aald K.1 hP (20) (by decide) rfl 4 rfl (g) hg (by have := hg6; omega) (by decide) rfl d_K_addGap_17 ?_
  refine lv_astore_n (lv' := [(3, .ref (ad (21 + g))), (0, .ref (ad 19)), (1, .int x), (2, .int y)]) K.hx K.hb d_K_addGap_18 rfl hl (by decide) rfl (fun ls hl => ?_)
  refine lv_aload_n K.hx K.hb d_K_addGap_19 rfl (lv_at hl 0 rfl) ?_
  refine lv_iload_n K.hx K.hb d_K_addGap_20 rfl (lv_at hl 2 rfl) ?_
  refine g_puti K.1 hP hS (21 + g) (by have := hg6; omega) (eG hg6) rfl i_G ft_G ft_G_ok n_G 0 (by decide) rfl (Or.inr nw_86) rfl rfl rfl (Nat.le_of_ble_eq_true rfl) (by rw [eG hg6]; rfl) d_K_addGap_21 (fun H l1 hP hS => ?_)
  refine lv_aload_n K.hx K.hb d_K_addGap_24 rfl (lv_at hl 0 rfl) ?_
  refine lv_iload_n K.hx K.hb d_K_addGap_25 rfl (lv_at hl 3 rfl) ?_
  refine g_puti K.1 hP hS (21 + g) (by have := hg6; omega) (eG hg6) rfl i_G ft_G ft_G_ok n_G 1 (by decide) rfl (Or.inr nw_88) rfl rfl rfl (Nat.le_of_ble_eq_true rfl) (by rw [eG hg6]; rfl) d_K_addGap_26 (fun H l1 hP hS => ?_)
  refine lv_aload_n K.hx K.hb d_K_addGap_29 rfl (lv_at hl 1 rfl) ?_
  refine lv_dup K.hx K.hb d_K_addGap_30 rfl ?_
  refine g_get K.1 hP (19) (by decide) rfl rfl i_K 1 (by decide) rfl (Or.inl kw_155) rfl d_K_addGap_31 ?_
  refine lv_topE (y := (v 19 1)) (by first | (simp [u2_at, kp]; done) | (simp [u2_at, kp] <;> (intros; omega)) | (simp only [u2_at, kp]; (repeat' split) <;> first | rfl | (exfalso; omega))) ?_
  refine lv_iconst (v := 1) K.hx K.hb d_K_addGap_34 (by decide) ?_
  refine lv_iadd K.hx K.hb d_K_addGap_35 ?_
  refine g_puti K.1 hP hS (19) (by decide) rfl rfl i_K ft_K ft_K_ok n_K 1 (by decide) rfl (Or.inl kw_155) rfl rfl rfl (Nat.le_of_ble_eq_true rfl) rfl d_K_addGap_36 (fun H l1 hP hS => ?_)
  exact ce_v K hP hS ⟨rfl, rfl, rfl⟩ (Nat.le_of_ble_eq_true rfl) (Nat.le_of_ble_eq_true rfl) d_K_addGap_39
set_option maxHeartbeats 4000000 in
set_option maxRecDepth 100000 in
theorem c_K_addPerson (l : Launch) (D : va_G) (cs : Nat → ClassId) (ad : Nat → Nat) (v : Nat → Nat → Int32) (sd : Int64) {g : Nat} (hg : v 19 3 = nI g) (hg4 : g < 4) (x y z : Int32)  : Cm l y_K_addPerson b_K_addPerson 5 none (rmx 0 0) [.ref (ad 19), .int x, .int y, .int z] D cs ad v sd (fun r v' sd' => r = none ∧ u2 (u2 (u2 (u2 v (28 + g) 0 x) (28 + g) 1 y) (28 + g) 2 z) 19 3 (v 19 3 + 1) = v' ∧ sd = sd') (fun cls => False) := by
  refine cw_enter (own := "WearHours$Week") rfl (Nat.le_of_ble_eq_true rfl) ?_
  intro p e s m below meth c ls K hS hP hl
  have hl : lv_has ls 5 [(0, .ref (ad 19)), (1, .int x), (2, .int y), (3, .int z)] := hl
  refine lv_aload_n K.hx K.hb d_K_addPerson_0 rfl (lv_at hl 0 rfl) ?_
  refine g_get K.1 hP (19) (by decide) rfl rfl i_K 3 (by decide) rfl (Or.inl kw_160) rfl d_K_addPerson_1 ?_
  refine lv_iconst (v := 4) K.hx K.hb d_K_addPerson_4 (by decide) ?_
  refine lv_icmp_ge (tgt := 47) K.hx K.hb d_K_addPerson_5 (by decide) (fun c_5 => (absurd (by rw [hg] at c_5; exact c_5) (nI_ge (a := g) (b := 4) hg4 (by decide)))) (fun c_5 => ?_)
  refine lv_aload_n K.hx K.hb d_K_addPerson_8 rfl (lv_at hl 0 rfl) ?_
  refine g_get K.1 hP (19) (by decide) rfl rfl i_K 2 (by decide) rfl (Or.inl kw_158) rfl d_K_addPerson_9 ?_
  refine lv_aload_n K.hx K.hb d_K_addPerson_12 rfl (lv_at hl 0 rfl) ?_
  refine g_get K.1 hP (19) (by decide) rfl rfl i_K 3 (by decide) rfl (Or.inl kw_160) rfl d_K_addPerson_13 ?_
  refine g_aald K.1 hP (27) (by decide) rfl 5 rfl (g) hg (by have := hg4; omega) (by decide) rfl d_K_addPerson_16 ?_
  refine lv_astore (lv' := [(4, .ref (ad (28 + g))), (0, .ref (ad 19)), (1, .int x), (2, .int y), (3, .int z)]) K.hx K.hb d_K_addPerson_17 hl (by decide) rfl (fun ls hl => ?_)
  refine lv_aload K.hx K.hb d_K_addPerson_19 (lv_at hl 0 rfl) ?_
  refine lv_iload_n K.hx K.hb d_K_addPerson_21 rfl (lv_at hl 2 rfl) ?_
  refine g_puti K.1 hP hS (28 + g) (by have := hg4; omega) (eP hg4) rfl i_P ft_P ft_P_ok n_P 0 (by decide) rfl (Or.inr nw_102) rfl rfl rfl (Nat.le_of_ble_eq_true rfl) (by rw [eP hg4]; rfl) d_K_addPerson_22 (fun H l1 hP hS => ?_)
  refine lv_aload K.hx K.hb d_K_addPerson_25 (lv_at hl 0 rfl) ?_
  refine lv_iload_n K.hx K.hb d_K_addPerson_27 rfl (lv_at hl 3 rfl) ?_
  refine g_puti K.1 hP hS (28 + g) (by have := hg4; omega) (eP hg4) rfl i_P ft_P ft_P_ok n_P 1 (by decide) rfl (Or.inr nw_104) rfl rfl rfl (Nat.le_of_ble_eq_true rfl) (by rw [eP hg4]; rfl) d_K_addPerson_28 (fun H l1 hP hS => ?_)
  refine lv_aload K.hx K.hb d_K_addPerson_31 (lv_at hl 0 rfl) ?_
  refine lv_iload_n K.hx K.hb d_K_addPerson_33 rfl (lv_at hl 4 rfl) ?_
  refine g_puti K.1 hP hS (28 + g) (by have := hg4; omega) (eP hg4) rfl i_P ft_P ft_P_ok n_P 2 (by decide) rfl (Or.inr nw_106) rfl rfl rfl (Nat.le_of_ble_eq_true rfl) (by rw [eP hg4]; rfl) d_K_addPerson_34 (fun H l1 hP hS => ?_)
  refine lv_aload_n K.hx K.hb d_K_addPerson_37 rfl (lv_at hl 1 rfl) ?_
  refine lv_dup K.hx K.hb d_K_addPerson_38 rfl ?_
  refine g_get K.1 hP (19) (by decide) rfl rfl i_K 3 (by decide) rfl (Or.inl kw_160) rfl d_K_addPerson_39 ?_
  refine lv_topE (y := (v 19 3)) (by first | (simp [u2_at, kp]; done) | (simp [u2_at, kp] <;> (intros; omega)) | (simp only [u2_at, kp]; (repeat' split) <;> first | rfl | (exfalso; omega))) ?_
  refine lv_iconst (v := 1) K.hx K.hb d_K_addPerson_42 (by decide) ?_
  refine lv_iadd K.hx K.hb d_K_addPerson_43 ?_
  refine g_puti K.1 hP hS (19) (by decide) rfl rfl i_K ft_K ft_K_ok n_K 3 (by decide) rfl (Or.inl kw_160) rfl rfl rfl (Nat.le_of_ble_eq_true rfl) rfl d_K_addPerson_44 (fun H l1 hP hS => ?_)
  exact ce_v K hP hS ⟨rfl, rfl, rfl⟩ (Nat.le_of_ble_eq_true rfl) (Nat.le_of_ble_eq_true rfl) d_K_addPerson_47
set_option maxHeartbeats 4000000 in
set_option maxRecDepth 100000 in
theorem c_K_addRepair (l : Launch) (D : va_G) (cs : Nat → ClassId) (ad : Nat → Nat) (v : Nat → Nat → Int32) (sd : Int64) {g : Nat} (hg : v 19 5 = nI g) (hg5 : g < 5) (x y z w : Int32)  : Cm l y_K_addRepair b_K_addRepair 6 none (rmx 2 0) [.ref (ad 19), .int x, .int y, .int z, .int w] D cs ad v sd (fun r v' sd' => r = none ∧ u2 (u2 (u2 (u2 (u2 (u2 (u2 (u2 v (33 + g) 0 x) (33 + g) 1 y) (33 + g) 2 z) (33 + g) 3 w) (33 + g) 4 (-1)) (33 + g) 5 (-1)) (33 + g) 6 (-1)) 19 5 (v 19 5 + 1) = v' ∧ sd = sd') (fun cls => False) := by
  refine cw_enter (own := "WearHours$Week") rfl (Nat.le_of_ble_eq_true rfl) ?_
  intro p e s m below meth c ls K hS hP hl
  have hl : lv_has ls 6 [(0, .ref (ad 19)), (1, .int x), (2, .int y), (3, .int z), (4, .int w)] := hl
  refine lv_aload_n K.hx K.hb d_K_addRepair_0 rfl (lv_at hl 0 rfl) ?_
  refine g_get K.1 hP (19) (by decide) rfl rfl i_K 5 (by decide) rfl (Or.inl kw_167) rfl d_K_addRepair_1 ?_
  refine lv_iconst (v := 5) K.hx K.hb d_K_addRepair_4 (by decide) ?_
  refine lv_icmp_ge (tgt := 59) K.hx K.hb d_K_addRepair_5 (by decide) (fun c_5 => (absurd (by rw [hg] at c_5; exact c_5) (nI_ge (a := g) (b := 5) hg5 (by decide)))) (fun c_5 => ?_)
  refine lv_aload_n K.hx K.hb d_K_addRepair_8 rfl (lv_at hl 0 rfl) ?_
  refine g_get K.1 hP (19) (by decide) rfl rfl i_K 4 (by decide) rfl (Or.inl kw_163) rfl d_K_addRepair_9 ?_
  refine lv_aload_n K.hx K.hb d_K_addRepair_12 rfl (lv_at hl 0 rfl) ?_
  refine g_get K.1 hP (19) (by decide) rfl rfl i_K 5 (by decide) rfl (Or.inl kw_167) rfl d_K_addRepair_13 ?_
  refine g_aald K.1 hP (32) (by decide) rfl 6 rfl (g) hg (by have := hg5; omega) (by decide) rfl d_K_addRepair_16 ?_
  refine lv_astore (lv' := [(5, .ref (ad (33 + g))), (0, .ref (ad 19)), (1, .int x), (2, .int y), (3, .int z), (4, .int w)]) K.hx K.hb d_K_addRepair_17 hl (by decide) rfl (fun ls hl => ?_)
  refine lv_aload K.hx K.hb d_K_addRepair_19 (lv_at hl 0 rfl) ?_
  refine lv_iload_n K.hx K.hb d_K_addRepair_21 rfl (lv_at hl 2 rfl) ?_
  refine g_puti K.1 hP hS (33 + g) (by have := hg5; omega) (eR hg5) rfl i_R ft_R ft_R_ok n_R 0 (by decide) rfl (Or.inr nw_122) rfl rfl rfl (Nat.le_of_ble_eq_true rfl) (by rw [eR hg5]; rfl) d_K_addRepair_22 (fun H l1 hP hS => ?_)
  refine lv_aload K.hx K.hb d_K_addRepair_25 (lv_at hl 0 rfl) ?_
  refine lv_iload_n K.hx K.hb d_K_addRepair_27 rfl (lv_at hl 3 rfl) ?_
  refine g_puti K.1 hP hS (33 + g) (by have := hg5; omega) (eR hg5) rfl i_R ft_R ft_R_ok n_R 1 (by decide) rfl (Or.inr nw_125) rfl rfl rfl (Nat.le_of_ble_eq_true rfl) (by rw [eR hg5]; rfl) d_K_addRepair_28 (fun H l1 hP hS => ?_)
  refine lv_aload K.hx K.hb d_K_addRepair_31 (lv_at hl 0 rfl) ?_
  refine lv_iload_n K.hx K.hb d_K_addRepair_33 rfl (lv_at hl 4 rfl) ?_
  refine g_puti K.1 hP hS (33 + g) (by have := hg5; omega) (eR hg5) rfl i_R ft_R ft_R_ok n_R 2 (by decide) rfl (Or.inr nw_127) rfl rfl rfl (Nat.le_of_ble_eq_true rfl) (by rw [eR hg5]; rfl) d_K_addRepair_34 (fun H l1 hP hS => ?_)
  refine lv_aload K.hx K.hb d_K_addRepair_37 (lv_at hl 0 rfl) ?_
  refine lv_iload K.hx K.hb d_K_addRepair_39 (lv_at hl 5 rfl) ?_
  refine g_puti K.1 hP hS (33 + g) (by have := hg5; omega) (eR hg5) rfl i_R ft_R ft_R_ok n_R 3 (by decide) rfl (Or.inr nw_130) rfl rfl rfl (Nat.le_of_ble_eq_true rfl) (by rw [eR hg5]; rfl) d_K_addRepair_41 (fun H l1 hP hS => ?_)
  refine lv_aload K.hx K.hb d_K_addRepair_44 (lv_at hl 0 rfl) ?_
  refine cc_V K hP hS (c_R_unplace l D cs ad _ _ hg5) kw_299 xm_R_unplace kw_577 kw_297 kw_298 (g_recv K.1.2.1 hP (33 + g) (by have := hg5; omega) (eR hg5) rfl) rfl hl.1 d_K_addRepair_46 (Nat.le_of_ble_eq_true rfl) (Nat.le_of_ble_eq_true rfl) ⟨(Nat.le_of_ble_eq_true rfl), (Nat.le_of_ble_eq_true rfl)⟩ (fun r v1 sd1 H l1 hp hP hS => ?_)
  obtain ⟨rfl, rfl, rfl⟩ := hp
  refine lv_aload_n K.hx K.hb d_K_addRepair_49 rfl (lv_at hl 1 rfl) ?_
  refine lv_dup K.hx K.hb d_K_addRepair_50 rfl ?_
  refine g_get K.1 hP (19) (by decide) rfl rfl i_K 5 (by decide) rfl (Or.inl kw_167) rfl d_K_addRepair_51 ?_
  refine lv_topE (y := (v 19 5)) (by first | (simp [u2_at, kp]; done) | (simp [u2_at, kp] <;> (intros; omega)) | (simp only [u2_at, kp]; (repeat' split) <;> first | rfl | (exfalso; omega))) ?_
  refine lv_iconst (v := 1) K.hx K.hb d_K_addRepair_54 (by decide) ?_
  refine lv_iadd K.hx K.hb d_K_addRepair_55 ?_
  refine g_puti K.1 hP hS (19) (by decide) rfl rfl i_K ft_K ft_K_ok n_K 5 (by decide) rfl (Or.inl kw_167) rfl rfl rfl (Nat.le_of_ble_eq_true rfl) rfl d_K_addRepair_56 (fun H l1 hP hS => ?_)
  exact ce_v K hP hS ⟨rfl, rfl, rfl⟩ (Nat.le_of_ble_eq_true rfl) (Nat.le_of_ble_eq_true rfl) d_K_addRepair_59
set_option maxHeartbeats 4000000 in
set_option maxRecDepth 100000 in
theorem c_K_costUnplaced (l : Launch) (D : va_G) (cs : Nat → ClassId) (ad : Nat → Nat) (v : Nat → Nat → Int32) (sd : Int64) {i : Nat} (hi : i < 5)  : Cm l y_K_costUnplaced b_K_costUnplaced 2 (some .int) (rmx 0 0) [.ref (ad 19), .ref (ad (33 + i))] D cs ad v sd (fun r v' sd' => r = some (.int (v (33 + i) 3 * 168 + v 19 7)) ∧ v = v' ∧ sd = sd') (fun cls => False) := by
  refine cw_enter (own := "WearHours$Week") rfl (Nat.le_of_ble_eq_true rfl) ?_
  intro p e s m below meth c ls K hS hP hl
  have hl : lv_has ls 2 [(0, .ref (ad 19)), (1, .ref (ad (33 + i)))] := hl
  refine lv_aload_n K.hx K.hb d_K_costUnplaced_0 rfl (lv_at hl 1 rfl) ?_
  refine g_get K.1 hP (33 + i) (by have := hi; omega) (eR hi) rfl i_R 3 (by decide) rfl (Or.inr nw_130) rfl d_K_costUnplaced_1 ?_
  refine lv_sipush (v := 168) K.hx K.hb d_K_costUnplaced_4 (by decide) ?_
  refine lv_imul K.hx K.hb d_K_costUnplaced_7 ?_
  refine lv_aload_n K.hx K.hb d_K_costUnplaced_8 rfl (lv_at hl 0 rfl) ?_
  refine g_get K.1 hP (19) (by decide) rfl rfl i_K 7 (by decide) rfl (Or.inl kw_172) rfl d_K_costUnplaced_9 ?_
  refine lv_iadd K.hx K.hb d_K_costUnplaced_12 ?_
  exact ce_i K hP hS ⟨rfl, rfl, rfl⟩ (Nat.le_of_ble_eq_true rfl) (Nat.le_of_ble_eq_true rfl) d_K_costUnplaced_13
set_option maxHeartbeats 4000000 in
set_option maxRecDepth 100000 in
theorem c_L_forget (l : Launch) (D : va_G) (cs : Nat → ClassId) (ad : Nat → Nat) (v : Nat → Nat → Int32) (sd : Int64)   : Cm l y_L_forget b_L_forget 1 none (rmx 0 0) [.ref (ad 38)] D cs ad v sd (fun r v' sd' => r = none ∧ u2 v 38 4 0 = v' ∧ sd = sd') (fun cls => False) := by
  refine cw_enter (own := "WearHours$Planner") rfl (Nat.le_of_ble_eq_true rfl) ?_
  intro p e s m below meth c ls K hS hP hl
  have hl : lv_has ls 1 [(0, .ref (ad 38))] := hl
  refine lv_aload_n K.hx K.hb d_L_forget_0 rfl (lv_at hl 0 rfl) ?_
  refine lv_iconst (v := 0) K.hx K.hb d_L_forget_1 (by decide) ?_
  refine g_puti K.1 hP hS (38) (by decide) rfl rfl i_L ft_L ft_L_ok n_L 4 (by decide) rfl (Or.inl kw_201) rfl rfl rfl (Nat.le_of_ble_eq_true rfl) rfl d_L_forget_2 (fun H l1 hP hS => ?_)
  exact ce_v K hP hS ⟨rfl, rfl, rfl⟩ (Nat.le_of_ble_eq_true rfl) (Nat.le_of_ble_eq_true rfl) d_L_forget_5
set_option maxHeartbeats 4000000 in
set_option maxRecDepth 100000 in
theorem c_W_seed (l : Launch) (D : va_G) (cs : Nat → ClassId) (ad : Nat → Nat) (v : Nat → Nat → Int32) (sd : Int64) (x : Int64)  : Cm l y_W_seed b_W_seed 3 none (rmx 0 0) [.ref (ad 0), .long x] D cs ad v sd (fun r v' sd' => r = none ∧ v = v' ∧ x = sd') (fun cls => False) := by
  refine cw_enter (own := "WearHours") rfl (Nat.le_of_ble_eq_true rfl) ?_
  intro p e s m below meth c ls K hS hP hl
  have hl : lv_has ls 3 [(0, .ref (ad 0)), (1, .long x)] := hl
  refine lv_aload_n K.hx K.hb d_W_seed_0 rfl (lv_at hl 0 rfl) ?_
  refine lv_lload_n K.hx K.hb d_W_seed_1 rfl (lv_at hl 1 rfl) ?_
  refine g_put (E' := eC cs ad x) (v' := v) K.1 hP hS (0) (by decide) rfl rfl i_W ft_W ft_W_ok n_W 0 (by decide) rfl (Or.inl kw_222) rfl rfl rfl (Nat.le_of_ble_eq_true rfl) rfl (fun k hk => by unfold eC; simp only [if_neg hk]) d_W_seed_2 (fun H l1 hP hS => ?_)
  exact ce_v K hP hS ⟨rfl, rfl, rfl⟩ (Nat.le_of_ble_eq_true rfl) (Nat.le_of_ble_eq_true rfl) d_W_seed_5
def ush (z : Int64) (k : Int32) : Int64 := (z.toUInt64 >>> (k.toInt64.toUInt64 &&& Int64.toUInt64 63)).toInt64
def dr1 (sd q : Int64) : Int64 := sd + q * (-7046029254386353131)
def dr2 (sd q : Int64) : Int64 := (dr1 sd q ^^^ ush (dr1 sd q) 30) * (-4658895280553007687)
def dr3 (sd q : Int64) : Int64 := (dr2 sd q ^^^ ush (dr2 sd q) 27) * (-7723592293110705685)
def dr4 (sd q : Int64) : Int64 := dr3 sd q ^^^ ush (dr3 sd q) 31
set_option maxHeartbeats 4000000 in
set_option maxRecDepth 100000 in
theorem c_W_drawnNumber (l : Launch) (D : va_G) (cs : Nat → ClassId) (ad : Nat → Nat) (v : Nat → Nat → Int32) (sd : Int64) (x : Int64)  : Cm l y_W_drawnNumber b_W_drawnNumber 5 (some .long) (rmx 0 0) [.ref (ad 0), .long x] D cs ad v sd (fun r v' sd' => r = some (.long (dr4 sd x &&& 9223372036854775807)) ∧ v = v' ∧ sd = sd') (fun cls => False) := by
  refine cw_enter (own := "WearHours") rfl (Nat.le_of_ble_eq_true rfl) ?_
  intro p e s m below meth c ls K hS hP hl
  have hl : lv_has ls 5 [(0, .ref (ad 0)), (1, .long x)] := hl
  refine lv_aload_n K.hx K.hb d_W_drawnNumber_0 rfl (lv_at hl 0 rfl) ?_
  refine g_get K.1 hP (0) (by decide) rfl rfl i_W 0 (by decide) rfl (Or.inl kw_222) rfl d_W_drawnNumber_1 ?_
  refine lv_lload_n K.hx K.hb d_W_drawnNumber_4 rfl (lv_at hl 1 rfl) ?_
  refine lv_ldc2 (v := (-7046029254386353131)) K.hx K.hb K.1.1.2.2.2.1 (K.1.1.2.2.2.2 _ kw_498) d_W_drawnNumber_5 ?_
  refine lv_lmul K.hx K.hb d_W_drawnNumber_8 ?_
  refine lv_ladd K.hx K.hb d_W_drawnNumber_9 ?_
  refine lv_topl (fun z1 ez1 => ?_)
  refine lv_lstore_n (lv' := [(3, .long z1), (0, .ref (ad 0)), (1, .long x)]) K.hx K.hb d_W_drawnNumber_10 rfl hl (by decide) rfl (fun ls hl => ?_)
  refine lv_lload_n K.hx K.hb d_W_drawnNumber_11 rfl (lv_at hl 0 rfl) ?_
  refine lv_lload_n K.hx K.hb d_W_drawnNumber_12 rfl (lv_at hl 0 rfl) ?_
  refine lv_bipush (v := 30) K.hx K.hb d_W_drawnNumber_13 (by decide) ?_
  refine lv_lushr K.hx K.hb d_W_drawnNumber_15 rfl ?_
  refine lv_lxor K.hx K.hb d_W_drawnNumber_16 ?_
  refine lv_ldc2 (v := (-4658895280553007687)) K.hx K.hb K.1.1.2.2.2.1 (K.1.1.2.2.2.2 _ kw_499) d_W_drawnNumber_17 ?_
  refine lv_lmul K.hx K.hb d_W_drawnNumber_20 ?_
  refine lv_topl (fun z2 ez2 => ?_)
  refine lv_lstore_n (lv' := [(3, .long z2), (0, .ref (ad 0)), (1, .long x)]) K.hx K.hb d_W_drawnNumber_21 rfl hl (by decide) rfl (fun ls hl => ?_)
  refine lv_lload_n K.hx K.hb d_W_drawnNumber_22 rfl (lv_at hl 0 rfl) ?_
  refine lv_lload_n K.hx K.hb d_W_drawnNumber_23 rfl (lv_at hl 0 rfl) ?_
  refine lv_bipush (v := 27) K.hx K.hb d_W_drawnNumber_24 (by decide) ?_
  refine lv_lushr K.hx K.hb d_W_drawnNumber_26 rfl ?_
  refine lv_lxor K.hx K.hb d_W_drawnNumber_27 ?_
  refine lv_ldc2 (v := (-7723592293110705685)) K.hx K.hb K.1.1.2.2.2.1 (K.1.1.2.2.2.2 _ kw_500) d_W_drawnNumber_28 ?_
  refine lv_lmul K.hx K.hb d_W_drawnNumber_31 ?_
  refine lv_topl (fun z3 ez3 => ?_)
  refine lv_lstore_n (lv' := [(3, .long z3), (0, .ref (ad 0)), (1, .long x)]) K.hx K.hb d_W_drawnNumber_32 rfl hl (by decide) rfl (fun ls hl => ?_)
  refine lv_lload_n K.hx K.hb d_W_drawnNumber_33 rfl (lv_at hl 0 rfl) ?_
  refine lv_lload_n K.hx K.hb d_W_drawnNumber_34 rfl (lv_at hl 0 rfl) ?_
  refine lv_bipush (v := 31) K.hx K.hb d_W_drawnNumber_35 (by decide) ?_
  refine lv_lushr K.hx K.hb d_W_drawnNumber_37 rfl ?_
  refine lv_lxor K.hx K.hb d_W_drawnNumber_38 ?_
  refine lv_topl (fun z4 ez4 => ?_)
  refine lv_lstore_n (lv' := [(3, .long z4), (0, .ref (ad 0)), (1, .long x)]) K.hx K.hb d_W_drawnNumber_39 rfl hl (by decide) rfl (fun ls hl => ?_)
  refine lv_lload_n K.hx K.hb d_W_drawnNumber_40 rfl (lv_at hl 0 rfl) ?_
  refine lv_ldc2 (v := 9223372036854775807) K.hx K.hb K.1.1.2.2.2.1 (K.1.1.2.2.2.2 _ kw_501) d_W_drawnNumber_41 ?_
  refine lv_land K.hx K.hb d_W_drawnNumber_44 ?_
  exact ce_l K hP hS ⟨by rw [show z4 = dr4 sd x from by subst ez1 ez2 ez3 ez4; rfl], rfl, rfl⟩ (Nat.le_of_ble_eq_true rfl) (Nat.le_of_ble_eq_true rfl) d_W_drawnNumber_45
set_option maxHeartbeats 4000000 in
set_option maxRecDepth 100000 in
theorem c_W_thing (l : Launch) (D : va_G) (cs : Nat → ClassId) (ad : Nat → Nat) (v : Nat → Nat → Int32) (sd : Int64) (hfl : l.flags = flags0) {tc : Nat} (htc : v 0 2 = nI tc) (ht8 : tc ≤ 8) (x y : Int32)  : Cm l y_W_thing b_W_thing 3 (some .int) (rmx 1 1) [.ref (ad 0), .int x, .int y] D cs ad v sd (fun r v' sd' => (¬ wthZ x 1 1000000 = 0 ∧ ¬ wthZ y 1 1000000 = 0) ∧ tc < 8 ∧ r = some (.int (v 0 2 + 1 - 1)) ∧ u2 (u2 (u2 (u2 v (2 + tc) 0 x) (2 + tc) 1 y) (2 + tc) 3 1) 0 2 (v 0 2 + 1) = v' ∧ sd = sd') (fun cls => (¬ (¬ wthZ x 1 1000000 = 0 ∧ ¬ wthZ y 1 1000000 = 0) ∧ cls = "java/lang/IllegalArgumentException") ∨ ((¬ wthZ x 1 1000000 = 0 ∧ ¬ wthZ y 1 1000000 = 0) ∧ ¬ tc < 8 ∧ cls = "java/lang/UnsupportedOperationException")) := by
  refine cw_enter (own := "WearHours") rfl (Nat.le_of_ble_eq_true rfl) ?_
  intro p e s m below meth c ls K hS hP hl
  have hl : lv_has ls 3 [(0, .ref (ad 0)), (1, .int x), (2, .int y)] := hl
  refine lv_iload_n K.hx K.hb d_W_thing_0 rfl (lv_at hl 1 rfl) ?_
  refine lv_iconst (v := 1) K.hx K.hb d_W_thing_1 (by decide) ?_
  refine lv_ldc (v := 1000000) K.hx K.hb K.1.1.2.2.2.1 (K.1.1.2.2.2.2 _ kw_318) d_W_thing_2 ?_
  refine cc_S K hP hS (c_W_isWithin l D cs ad _ _ x 1 1000000) kw_321 xm_W_isWithin kw_319 kw_320 kw_22 rfl hl.1 d_W_thing_4 (Nat.le_of_ble_eq_true rfl) (Nat.le_of_ble_eq_true rfl) ⟨(Nat.le_of_ble_eq_true rfl), (Nat.le_of_ble_eq_true rfl)⟩ (fun r v1 sd1 H l1 hp hP hS => ?_)
  obtain ⟨rfl, rfl, rfl⟩ := hp
  refine lv_if_eq (tgt := 20) K.hx K.hb d_W_thing_7 (by decide) (fun c_7 => ?_) (fun c_7 => ?_)
  · exact ce_t K hP hS hfl kw_322 kw_33 xa_IAE rfl (text := "life and bound are 1 to 1000000") (by decide) hl.1 d_W_thing_20 d_W_thing_23 d_W_thing_24 d_W_thing_26 d_W_thing_29 (Nat.le_of_ble_eq_true rfl) (Nat.le_of_ble_eq_true rfl) (Nat.le_of_ble_eq_true rfl) (Nat.le_of_ble_eq_true rfl) (Nat.le_of_ble_eq_true rfl) (Nat.le_of_ble_eq_true rfl) (Or.inl ⟨fun h => by simp_all, rfl⟩)
  · refine lv_iload_n K.hx K.hb d_W_thing_10 rfl (lv_at hl 2 rfl) ?_
    refine lv_iconst (v := 1) K.hx K.hb d_W_thing_11 (by decide) ?_
    refine lv_ldc (v := 1000000) K.hx K.hb K.1.1.2.2.2.1 (K.1.1.2.2.2.2 _ kw_318) d_W_thing_12 ?_
    refine cc_S K hP hS (c_W_isWithin l D cs ad _ _ y 1 1000000) kw_321 xm_W_isWithin kw_319 kw_320 kw_22 rfl hl.1 d_W_thing_14 (Nat.le_of_ble_eq_true rfl) (Nat.le_of_ble_eq_true rfl) ⟨(Nat.le_of_ble_eq_true rfl), (Nat.le_of_ble_eq_true rfl)⟩ (fun r v1 sd1 H l1 hp hP hS => ?_)
    obtain ⟨rfl, rfl, rfl⟩ := hp
    refine lv_if_ne (tgt := 30) K.hx K.hb d_W_thing_17 (by decide) (fun c_17 => ?_) (fun c_17 => ?_)
    · refine lv_aload_n K.hx K.hb d_W_thing_30 rfl (lv_at hl 0 rfl) ?_
      refine g_get K.1 hP (0) (by decide) rfl rfl i_W 2 (by decide) rfl (Or.inl kw_224) rfl d_W_thing_31 ?_
      refine lv_bipush (v := 8) K.hx K.hb d_W_thing_34 (by decide) ?_
      refine lv_icmp_lt (tgt := 49) K.hx K.hb d_W_thing_36 (by decide) (fun c_36 => ?_) (fun c_36 => ?_)
      · have ht : tc < 8 := (nI_ltI (by omega) (by decide)).mp (by rw [← htc]; exact c_36)
        refine lv_aload_n K.hx K.hb d_W_thing_49 rfl (lv_at hl 0 rfl) ?_
        refine g_get K.1 hP (0) (by decide) rfl rfl i_W 1 (by decide) rfl (Or.inl kw_223) rfl d_W_thing_50 ?_
        refine lv_aload_n K.hx K.hb d_W_thing_53 rfl (lv_at hl 0 rfl) ?_
        refine g_get K.1 hP (0) (by decide) rfl rfl i_W 2 (by decide) rfl (Or.inl kw_224) rfl d_W_thing_54 ?_
        refine g_aald K.1 hP (1) (by decide) rfl 3 rfl (tc) htc (by have := ht; omega) (by decide) rfl d_W_thing_57 ?_
        refine lv_iload_n K.hx K.hb d_W_thing_58 rfl (lv_at hl 1 rfl) ?_
        refine lv_iload_n K.hx K.hb d_W_thing_59 rfl (lv_at hl 2 rfl) ?_
        refine cc_V K hP hS (c_T_begin l D cs ad _ _ ht x y) kw_410 xm_T_begin kw_407 kw_408 kw_409 (g_recv K.1.2.1 hP (2 + tc) (by have := ht; omega) (eT ht) rfl) rfl hl.1 d_W_thing_60 (Nat.le_of_ble_eq_true rfl) (Nat.le_of_ble_eq_true rfl) ⟨(Nat.le_of_ble_eq_true rfl), (Nat.le_of_ble_eq_true rfl)⟩ (fun r v1 sd1 H l1 hp hP hS => ?_)
        obtain ⟨rfl, rfl, rfl⟩ := hp
        refine lv_aload_n K.hx K.hb d_W_thing_63 rfl (lv_at hl 0 rfl) ?_
        refine lv_dup K.hx K.hb d_W_thing_64 rfl ?_
        refine g_get K.1 hP (0) (by decide) rfl rfl i_W 2 (by decide) rfl (Or.inl kw_224) rfl d_W_thing_65 ?_
        refine lv_topE (y := (v 0 2)) (by first | (simp [u2_at, kp]; done) | (simp [u2_at, kp] <;> (intros; omega)) | (simp only [u2_at, kp]; (repeat' split) <;> first | rfl | (exfalso; omega))) ?_
        refine lv_iconst (v := 1) K.hx K.hb d_W_thing_68 (by decide) ?_
        refine lv_iadd K.hx K.hb d_W_thing_69 ?_
        refine g_puti K.1 hP hS (0) (by decide) rfl rfl i_W ft_W ft_W_ok n_W 2 (by decide) rfl (Or.inl kw_224) rfl rfl rfl (Nat.le_of_ble_eq_true rfl) rfl d_W_thing_70 (fun H l1 hP hS => ?_)
        refine lv_aload_n K.hx K.hb d_W_thing_73 rfl (lv_at hl 0 rfl) ?_
        refine g_get K.1 hP (0) (by decide) rfl rfl i_W 2 (by decide) rfl (Or.inl kw_224) rfl d_W_thing_74 ?_
        refine lv_topE (y := ((v 0 2) + 1)) (by first | (simp [u2_at, kp]; done) | (simp [u2_at, kp] <;> (intros; omega)) | (simp only [u2_at, kp]; (repeat' split) <;> first | rfl | (exfalso; omega))) ?_
        refine lv_iconst (v := 1) K.hx K.hb d_W_thing_77 (by decide) ?_
        refine lv_isub K.hx K.hb d_W_thing_78 ?_
        exact ce_i K hP hS ⟨⟨‹_›, ‹_›⟩, ht, rfl, rfl, rfl⟩ (Nat.le_of_ble_eq_true rfl) (Nat.le_of_ble_eq_true rfl) d_W_thing_79
      · exact ce_t K hP hS hfl kw_391 kw_34 xa_UOE rfl (text := "there are 8 things") (by decide) hl.1 d_W_thing_39 d_W_thing_42 d_W_thing_43 d_W_thing_45 d_W_thing_48 (Nat.le_of_ble_eq_true rfl) (Nat.le_of_ble_eq_true rfl) (Nat.le_of_ble_eq_true rfl) (Nat.le_of_ble_eq_true rfl) (Nat.le_of_ble_eq_true rfl) (Nat.le_of_ble_eq_true rfl) (Or.inr ⟨⟨‹_›, ‹_›⟩, fun h => c_36 (by rw [htc]; exact nI_lt h (by decide)), rfl⟩)
    · exact ce_t K hP hS hfl kw_322 kw_33 xa_IAE rfl (text := "life and bound are 1 to 1000000") (by decide) hl.1 d_W_thing_20 d_W_thing_23 d_W_thing_24 d_W_thing_26 d_W_thing_29 (Nat.le_of_ble_eq_true rfl) (Nat.le_of_ble_eq_true rfl) (Nat.le_of_ble_eq_true rfl) (Nat.le_of_ble_eq_true rfl) (Nat.le_of_ble_eq_true rfl) (Nat.le_of_ble_eq_true rfl) (Or.inl ⟨fun h => by simp_all, rfl⟩)
set_option maxHeartbeats 4000000 in
set_option maxRecDepth 100000 in
theorem c_W_use (l : Launch) (D : va_G) (cs : Nat → ClassId) (ad : Nat → Nat) (v : Nat → Nat → Int32) (sd : Int64) (hfl : l.flags = flags0) {tc : Nat} (htc : v 0 2 = nI tc) (ht8 : tc ≤ 8) (x y : Int32)  : Cm l y_W_use b_W_use 4 (some .int) (rmx 2 2) [.ref (ad 0), .int x, .int y] D cs ad v sd (fun r v' sd' => ∃ i, i < tc ∧ x = nI i ∧ barZ v i = 0 ∧ ¬ wthZ y 1 1000000 = 0 ∧ r = some (.int (v (2 + i) 2 + y)) ∧ kp (u2 v (2 + i) 2 (v (2 + i) 2 + y)) i y = v' ∧ sd = sd') (fun cls => ((¬ ∃ i, i < tc ∧ x = nI i) ∧ cls = "java/lang/IndexOutOfBoundsException") ∨ (∃ i, i < tc ∧ x = nI i ∧ ¬ barZ v i = 0 ∧ cls = "java/lang/IllegalStateException") ∨ (∃ i, i < tc ∧ x = nI i ∧ barZ v i = 0 ∧ wthZ y 1 1000000 = 0 ∧ cls = "java/lang/IllegalArgumentException")) := by
  refine cw_enter (own := "WearHours") rfl (Nat.le_of_ble_eq_true rfl) ?_
  intro p e s m below meth c ls K hS hP hl
  have hl : lv_has ls 4 [(0, .ref (ad 0)), (1, .int x), (2, .int y)] := hl
  refine lv_aload_n K.hx K.hb d_W_use_0 rfl (lv_at hl 0 rfl) ?_
  refine lv_iload_n K.hx K.hb d_W_use_1 rfl (lv_at hl 1 rfl) ?_
  refine cc_Vx K hP hS (c_W_knownThing l D cs ad _ _ hfl htc ht8 x) (fun cls h => Or.inl h) kw_423 xm_W_knownThing kw_420 kw_422 kw_9 (g_recv K.1.2.1 hP (0) (by decide) rfl rfl) rfl hl.1 d_W_use_2 (Nat.le_of_ble_eq_true rfl) (Nat.le_of_ble_eq_true rfl) ⟨(Nat.le_of_ble_eq_true rfl), (Nat.le_of_ble_eq_true rfl)⟩ (Nat.le_of_ble_eq_true rfl) (Nat.le_of_ble_eq_true rfl) (fun r v1 sd1 H l1 hp hP hS => ?_)
  obtain ⟨i, hi, rfl, rfl, rfl, rfl⟩ := hp
  have hi8 : i < 8 := by omega
  refine lv_astore_n (lv' := [(3, .ref (ad (2 + i))), (0, .ref (ad 0)), (1, .int (nI i)), (2, .int y)]) K.hx K.hb d_W_use_5 rfl hl (by decide) rfl (fun ls hl => ?_)
  refine lv_aload_n K.hx K.hb d_W_use_6 rfl (lv_at hl 0 rfl) ?_
  refine cc_V K hP hS (c_T_isBarred l D cs ad _ _ hi8) kw_443 xm_T_isBarred kw_440 kw_441 kw_442 (g_recv K.1.2.1 hP (2 + i) (by have := hi8; omega) (eT hi8) rfl) rfl hl.1 d_W_use_7 (Nat.le_of_ble_eq_true rfl) (Nat.le_of_ble_eq_true rfl) ⟨(Nat.le_of_ble_eq_true rfl), (Nat.le_of_ble_eq_true rfl)⟩ (fun r v1 sd1 H l1 hp hP hS => ?_)
  obtain ⟨rfl, rfl, rfl⟩ := hp
  refine lv_if_eq (tgt := 23) K.hx K.hb d_W_use_10 (by decide) (fun c_10 => ?_) (fun c_10 => ?_)
  · refine lv_iload_n K.hx K.hb d_W_use_23 rfl (lv_at hl 3 rfl) ?_
    refine lv_iconst (v := 1) K.hx K.hb d_W_use_24 (by decide) ?_
    refine lv_ldc (v := 1000000) K.hx K.hb K.1.1.2.2.2.1 (K.1.1.2.2.2.2 _ kw_318) d_W_use_25 ?_
    refine cc_S K hP hS (c_W_isWithin l D cs ad _ _ y 1 1000000) kw_321 xm_W_isWithin kw_319 kw_320 kw_22 rfl hl.1 d_W_use_27 (Nat.le_of_ble_eq_true rfl) (Nat.le_of_ble_eq_true rfl) ⟨(Nat.le_of_ble_eq_true rfl), (Nat.le_of_ble_eq_true rfl)⟩ (fun r v1 sd1 H l1 hp hP hS => ?_)
    obtain ⟨rfl, rfl, rfl⟩ := hp
    refine lv_if_ne (tgt := 43) K.hx K.hb d_W_use_30 (by decide) (fun c_30 => ?_) (fun c_30 => ?_)
    · refine lv_aload_n K.hx K.hb d_W_use_43 rfl (lv_at hl 0 rfl) ?_
      refine lv_iload_n K.hx K.hb d_W_use_44 rfl (lv_at hl 3 rfl) ?_
      refine cc_V K hP hS (c_T_wear l D cs ad _ _ hi8 y) kw_464 xm_T_wear kw_461 kw_462 kw_463 (g_recv K.1.2.1 hP (2 + i) (by have := hi8; omega) (eT hi8) rfl) rfl hl.1 d_W_use_45 (Nat.le_of_ble_eq_true rfl) (Nat.le_of_ble_eq_true rfl) ⟨(Nat.le_of_ble_eq_true rfl), (Nat.le_of_ble_eq_true rfl)⟩ (fun r v1 sd1 H l1 hp hP hS => ?_)
      obtain ⟨rfl, rfl, rfl⟩ := hp
      refine lv_aload_n K.hx K.hb d_W_use_48 rfl (lv_at hl 0 rfl) ?_
      refine g_get K.1 hP (2 + i) (by have := hi8; omega) (eT hi8) rfl i_T 2 (by decide) rfl (Or.inr nw_57) rfl d_W_use_49 ?_
      refine lv_topE (y := (v (2 + i) 2 + y)) (by first | (simp [u2_at, kp]; done) | (simp [u2_at, kp] <;> (intros; omega)) | (simp only [u2_at, kp]; (repeat' split) <;> first | rfl | (exfalso; omega))) ?_
      exact ce_i K hP hS ⟨i, hi, rfl, ‹_›, ‹_›, rfl, rfl, rfl⟩ (Nat.le_of_ble_eq_true rfl) (Nat.le_of_ble_eq_true rfl) d_W_use_52
    · exact ce_t K hP hS hfl kw_322 kw_33 xa_IAE rfl (text := "units are 1 to 1000000") (by decide) hl.1 d_W_use_33 d_W_use_36 d_W_use_37 d_W_use_39 d_W_use_42 (Nat.le_of_ble_eq_true rfl) (Nat.le_of_ble_eq_true rfl) (Nat.le_of_ble_eq_true rfl) (Nat.le_of_ble_eq_true rfl) (Nat.le_of_ble_eq_true rfl) (Nat.le_of_ble_eq_true rfl) (Or.inr (Or.inr ⟨i, hi, rfl, ‹_›, ‹_›, rfl⟩))
  · exact ce_t K hP hS hfl kw_444 kw_36 xa_ISE rfl (text := "the thing is barred") (by decide) hl.1 d_W_use_13 d_W_use_16 d_W_use_17 d_W_use_19 d_W_use_22 (Nat.le_of_ble_eq_true rfl) (Nat.le_of_ble_eq_true rfl) (Nat.le_of_ble_eq_true rfl) (Nat.le_of_ble_eq_true rfl) (Nat.le_of_ble_eq_true rfl) (Nat.le_of_ble_eq_true rfl) (Or.inr (Or.inl ⟨i, hi, rfl, ‹_›, rfl⟩))
theorem barz_01 (v : Nat → Nat → Int32) (i : Nat) : barZ v i = 0 ∨ barZ v i = 1 := by
  unfold barZ
  split
  · exact Or.inr rfl
  · split
    · exact Or.inl rfl
    · exact Or.inr rfl
theorem barz_1 {v : Nat → Nat → Int32} {i : Nat} (h : ¬ barZ v i = 0) : barZ v i = 1 := (barz_01 v i).resolve_left h
set_option maxHeartbeats 4000000 in
set_option maxRecDepth 100000 in
theorem c_W_told (l : Launch) (D : va_G) (cs : Nat → ClassId) (ad : Nat → Nat) (v : Nat → Nat → Int32) (sd : Int64) (hfl : l.flags = flags0) {tc : Nat} (htc : v 0 2 = nI tc) (ht8 : tc ≤ 8) (x y : Int32)  : Cm l y_W_told b_W_told 4 (some .int) (rmx 2 2) [.ref (ad 0), .int x, .int y] D cs ad v sd (fun r v' sd' => ∃ i, i < tc ∧ x = nI i ∧ (¬ y < 0 ∧ y < 3) ∧ r = some (.int (if y = 0 then v (2 + i) 2 else if y = 1 then barZ v i else if 0 < v (2 + i) 1 - v (2 + i) 2 then v (2 + i) 1 - v (2 + i) 2 else 0)) ∧ v = v' ∧ sd = sd') (fun cls => ((¬ ∃ i, i < tc ∧ x = nI i) ∧ cls = "java/lang/IndexOutOfBoundsException") ∨ (∃ i, i < tc ∧ x = nI i ∧ (y < 0 ∨ ¬ y < 3) ∧ cls = "java/lang/IndexOutOfBoundsException")) := by
  refine cw_enter (own := "WearHours") rfl (Nat.le_of_ble_eq_true rfl) ?_
  intro p e s m below meth c ls K hS hP hl
  have hl : lv_has ls 4 [(0, .ref (ad 0)), (1, .int x), (2, .int y)] := hl
  refine lv_aload_n K.hx K.hb d_W_told_0 rfl (lv_at hl 0 rfl) ?_
  refine lv_iload_n K.hx K.hb d_W_told_1 rfl (lv_at hl 1 rfl) ?_
  refine cc_Vx K hP hS (c_W_knownThing l D cs ad _ _ hfl htc ht8 x) (fun cls h => Or.inl h) kw_423 xm_W_knownThing kw_420 kw_422 kw_9 (g_recv K.1.2.1 hP (0) (by decide) rfl rfl) rfl hl.1 d_W_told_2 (Nat.le_of_ble_eq_true rfl) (Nat.le_of_ble_eq_true rfl) ⟨(Nat.le_of_ble_eq_true rfl), (Nat.le_of_ble_eq_true rfl)⟩ (Nat.le_of_ble_eq_true rfl) (Nat.le_of_ble_eq_true rfl) (fun r v1 sd1 H l1 hp hP hS => ?_)
  obtain ⟨i, hi, rfl, rfl, rfl, rfl⟩ := hp
  have hi8 : i < 8 := by omega
  refine lv_astore_n (lv' := [(3, .ref (ad (2 + i))), (0, .ref (ad 0)), (1, .int (nI i)), (2, .int y)]) K.hx K.hb d_W_told_5 rfl hl (by decide) rfl (fun ls hl => ?_)
  refine lv_iload_n K.hx K.hb d_W_told_6 rfl (lv_at hl 3 rfl) ?_
  refine cc_Sx K hP hS (c_W_checkWhat l D cs ad _ _ hfl y) (fun cls h => Or.inr ⟨i, hi, rfl, h⟩) kw_478 xm_W_checkWhat kw_476 kw_477 kw_22 rfl hl.1 d_W_told_7 (Nat.le_of_ble_eq_true rfl) (Nat.le_of_ble_eq_true rfl) ⟨(Nat.le_of_ble_eq_true rfl), (Nat.le_of_ble_eq_true rfl)⟩ (Nat.le_of_ble_eq_true rfl) (Nat.le_of_ble_eq_true rfl) (fun r v1 sd1 H l1 hp hP hS => ?_)
  obtain ⟨hcw, rfl, rfl, rfl⟩ := hp
  refine lv_iload_n K.hx K.hb d_W_told_10 rfl (lv_at hl 3 rfl) ?_
  refine lv_if_ne (tgt := 19) K.hx K.hb d_W_told_11 (by decide) (fun c_11 => ?_) (fun c_11 => ?_)
  · refine lv_iload_n K.hx K.hb d_W_told_19 rfl (lv_at hl 3 rfl) ?_
    refine lv_iconst (v := 1) K.hx K.hb d_W_told_20 (by decide) ?_
    refine lv_icmp_ne (tgt := 37) K.hx K.hb d_W_told_21 (by decide) (fun c_21 => ?_) (fun c_21 => ?_)
    · refine lv_aload_n K.hx K.hb d_W_told_37 rfl (lv_at hl 0 rfl) ?_
      refine cc_V K hP hS (c_T_unitsToBound l D cs ad _ _ hi8) kw_483 xm_T_unitsToBound kw_480 kw_481 kw_482 (g_recv K.1.2.1 hP (2 + i) (by have := hi8; omega) (eT hi8) rfl) rfl hl.1 d_W_told_38 (Nat.le_of_ble_eq_true rfl) (Nat.le_of_ble_eq_true rfl) ⟨(Nat.le_of_ble_eq_true rfl), (Nat.le_of_ble_eq_true rfl)⟩ (fun r v1 sd1 H l1 hp hP hS => ?_)
      obtain ⟨rfl, rfl, rfl⟩ := hp
      exact ce_i K hP hS ⟨i, hi, rfl, hcw, by rw [if_neg c_11, if_neg c_21], rfl, rfl⟩ (Nat.le_of_ble_eq_true rfl) (Nat.le_of_ble_eq_true rfl) d_W_told_41
    · refine lv_aload_n K.hx K.hb d_W_told_24 rfl (lv_at hl 0 rfl) ?_
      refine cc_V K hP hS (c_T_isBarred l D cs ad _ _ hi8) kw_443 xm_T_isBarred kw_440 kw_441 kw_442 (g_recv K.1.2.1 hP (2 + i) (by have := hi8; omega) (eT hi8) rfl) rfl hl.1 d_W_told_25 (Nat.le_of_ble_eq_true rfl) (Nat.le_of_ble_eq_true rfl) ⟨(Nat.le_of_ble_eq_true rfl), (Nat.le_of_ble_eq_true rfl)⟩ (fun r v1 sd1 H l1 hp hP hS => ?_)
      obtain ⟨rfl, rfl, rfl⟩ := hp
      refine lv_if_eq (tgt := 35) K.hx K.hb d_W_told_28 (by decide) (fun c_28 => ?_) (fun c_28 => ?_)
      · refine lv_iconst (v := 0) K.hx K.hb d_W_told_35 (by decide) ?_
        exact ce_i K hP hS ⟨i, hi, rfl, hcw, by rw [if_neg c_11, if_pos c_21, c_28], rfl, rfl⟩ (Nat.le_of_ble_eq_true rfl) (Nat.le_of_ble_eq_true rfl) d_W_told_36
      · refine lv_iconst (v := 1) K.hx K.hb d_W_told_31 (by decide) ?_
        refine lv_goto (tgt := 36) K.hx K.hb d_W_told_32 (by decide) ?_
        exact ce_i K hP hS ⟨i, hi, rfl, hcw, by rw [if_neg c_11, if_pos c_21, barz_1 c_28], rfl, rfl⟩ (Nat.le_of_ble_eq_true rfl) (Nat.le_of_ble_eq_true rfl) d_W_told_36
  · refine lv_aload_n K.hx K.hb d_W_told_14 rfl (lv_at hl 0 rfl) ?_
    refine g_get K.1 hP (2 + i) (by have := hi8; omega) (eT hi8) rfl i_T 2 (by decide) rfl (Or.inr nw_57) rfl d_W_told_15 ?_
    exact ce_i K hP hS ⟨i, hi, rfl, hcw, by rw [if_pos c_11], rfl, rfl⟩ (Nat.le_of_ble_eq_true rfl) (Nat.le_of_ble_eq_true rfl) d_W_told_18
set_option maxHeartbeats 4000000 in
set_option maxRecDepth 100000 in
theorem c_W_left (l : Launch) (D : va_G) (cs : Nat → ClassId) (ad : Nat → Nat) (v : Nat → Nat → Int32) (sd : Int64) (hfl : l.flags = flags0) {tc : Nat} (htc : v 0 2 = nI tc) (ht8 : tc ≤ 8) (x y : Int32)  : Cm l y_W_left b_W_left 7 (some .int) (rmx 2 2) [.ref (ad 0), .int x, .int y] D cs ad v sd (fun r v' sd' => ∃ i, i < tc ∧ x = nI i ∧ ¬ wthZ y 0 1000 = 0 ∧ r = some (.int (if 0 < v (2 + i) 0 * (50 + ((dr4 sd (1001 * (nI i).toInt64 + y.toInt64 + 1) &&& 9223372036854775807) - (dr4 sd (1001 * (nI i).toInt64 + y.toInt64 + 1) &&& 9223372036854775807) / 101 * 101).toInt32) / 100 - v (2 + i) 2 then v (2 + i) 0 * (50 + ((dr4 sd (1001 * (nI i).toInt64 + y.toInt64 + 1) &&& 9223372036854775807) - (dr4 sd (1001 * (nI i).toInt64 + y.toInt64 + 1) &&& 9223372036854775807) / 101 * 101).toInt32) / 100 - v (2 + i) 2 else 0)) ∧ v = v' ∧ sd = sd') (fun cls => ((¬ ∃ i, i < tc ∧ x = nI i) ∧ cls = "java/lang/IndexOutOfBoundsException") ∨ (∃ i, i < tc ∧ x = nI i ∧ wthZ y 0 1000 = 0 ∧ cls = "java/lang/IllegalArgumentException")) := by
  refine cw_enter (own := "WearHours") rfl (Nat.le_of_ble_eq_true rfl) ?_
  intro p e s m below meth c ls K hS hP hl
  have hl : lv_has ls 7 [(0, .ref (ad 0)), (1, .int x), (2, .int y)] := hl
  refine lv_aload_n K.hx K.hb d_W_left_0 rfl (lv_at hl 0 rfl) ?_
  refine lv_iload_n K.hx K.hb d_W_left_1 rfl (lv_at hl 1 rfl) ?_
  refine cc_Vx K hP hS (c_W_knownThing l D cs ad _ _ hfl htc ht8 x) (fun cls h => Or.inl h) kw_423 xm_W_knownThing kw_420 kw_422 kw_9 (g_recv K.1.2.1 hP (0) (by decide) rfl rfl) rfl hl.1 d_W_left_2 (Nat.le_of_ble_eq_true rfl) (Nat.le_of_ble_eq_true rfl) ⟨(Nat.le_of_ble_eq_true rfl), (Nat.le_of_ble_eq_true rfl)⟩ (Nat.le_of_ble_eq_true rfl) (Nat.le_of_ble_eq_true rfl) (fun r v1 sd1 H l1 hp hP hS => ?_)
  obtain ⟨i, hi, rfl, rfl, rfl, rfl⟩ := hp
  have hi8 : i < 8 := by omega
  refine lv_astore_n (lv' := [(3, .ref (ad (2 + i))), (0, .ref (ad 0)), (1, .int (nI i)), (2, .int y)]) K.hx K.hb d_W_left_5 rfl hl (by decide) rfl (fun ls hl => ?_)
  refine lv_iload_n K.hx K.hb d_W_left_6 rfl (lv_at hl 3 rfl) ?_
  refine lv_iconst (v := 0) K.hx K.hb d_W_left_7 (by decide) ?_
  refine lv_sipush (v := 1000) K.hx K.hb d_W_left_8 (by decide) ?_
  refine cc_S K hP hS (c_W_isWithin l D cs ad _ _ y 0 1000) kw_321 xm_W_isWithin kw_319 kw_320 kw_22 rfl hl.1 d_W_left_11 (Nat.le_of_ble_eq_true rfl) (Nat.le_of_ble_eq_true rfl) ⟨(Nat.le_of_ble_eq_true rfl), (Nat.le_of_ble_eq_true rfl)⟩ (fun r v1 sd1 H l1 hp hP hS => ?_)
  obtain ⟨rfl, rfl, rfl⟩ := hp
  refine lv_if_ne (tgt := 27) K.hx K.hb d_W_left_14 (by decide) (fun c_14 => ?_) (fun c_14 => ?_)
  · refine lv_aload_n K.hx K.hb d_W_left_27 rfl (lv_at hl 1 rfl) ?_
    refine lv_ldc2 (v := 1001) K.hx K.hb K.1.1.2.2.2.1 (K.1.1.2.2.2.2 _ kw_493) d_W_left_28 ?_
    refine lv_iload_n K.hx K.hb d_W_left_31 rfl (lv_at hl 2 rfl) ?_
    refine lv_i2l K.hx K.hb d_W_left_32 rfl ?_
    refine lv_lmul K.hx K.hb d_W_left_33 ?_
    refine lv_iload_n K.hx K.hb d_W_left_34 rfl (lv_at hl 3 rfl) ?_
    refine lv_i2l K.hx K.hb d_W_left_35 rfl ?_
    refine lv_ladd K.hx K.hb d_W_left_36 ?_
    refine lv_lconst (v := 1) K.hx K.hb d_W_left_37 (by decide) ?_
    refine lv_ladd K.hx K.hb d_W_left_38 ?_
    refine cc_V K hP hS (c_W_drawnNumber l D cs ad _ _ (((1001 * ((nI i).toInt64)) + y.toInt64) + 1)) kw_497 xm_W_drawnNumber kw_494 kw_496 kw_11 (g_recv K.1.2.1 hP (0) (by decide) rfl rfl) rfl hl.1 d_W_left_39 (Nat.le_of_ble_eq_true rfl) (Nat.le_of_ble_eq_true rfl) ⟨(Nat.le_of_ble_eq_true rfl), (Nat.le_of_ble_eq_true rfl)⟩ (fun r v1 sd1 H l1 hp hP hS => ?_)
    obtain ⟨rfl, rfl, rfl⟩ := hp
    refine lv_topl (fun z1 ez1 => ?_)
    refine lv_lstore (lv' := [(4, .long z1), (3, .ref (ad (2 + i))), (0, .ref (ad 0)), (1, .int (nI i)), (2, .int y)]) K.hx K.hb d_W_left_42 hl (by decide) rfl (fun ls hl => ?_)
    refine lv_bipush (v := 50) K.hx K.hb d_W_left_44 (by decide) ?_
    refine lv_lload K.hx K.hb d_W_left_46 (lv_at hl 0 rfl) ?_
    refine lv_ldc2 (v := 101) K.hx K.hb K.1.1.2.2.2.1 (K.1.1.2.2.2.2 _ kw_502) d_W_left_48 ?_
    refine lv_lrem K.hx K.hb d_W_left_51 (by decide) ?_
    refine lv_l2i K.hx K.hb d_W_left_52 rfl ?_
    refine lv_iadd K.hx K.hb d_W_left_53 ?_
    refine lv_topi (fun z2 ez2 => ?_)
    refine lv_istore (lv' := [(6, .int z2), (4, .long z1), (3, .ref (ad (2 + i))), (0, .ref (ad 0)), (1, .int (nI i)), (2, .int y)]) K.hx K.hb d_W_left_54 hl (by decide) rfl (fun ls hl => ?_)
    refine lv_iconst (v := 0) K.hx K.hb d_W_left_56 (by decide) ?_
    refine lv_aload_n K.hx K.hb d_W_left_57 rfl (lv_at hl 2 rfl) ?_
    refine g_get K.1 hP (2 + i) (by have := hi8; omega) (eT hi8) rfl i_T 0 (by decide) rfl (Or.inr nw_54) rfl d_W_left_58 ?_
    refine lv_iload K.hx K.hb d_W_left_61 (lv_at hl 0 rfl) ?_
    refine lv_imul K.hx K.hb d_W_left_63 ?_
    refine lv_bipush (v := 100) K.hx K.hb d_W_left_64 (by decide) ?_
    refine lv_idiv K.hx K.hb d_W_left_66 (by decide) ?_
    refine lv_aload_n K.hx K.hb d_W_left_67 rfl (lv_at hl 2 rfl) ?_
    refine g_get K.1 hP (2 + i) (by have := hi8; omega) (eT hi8) rfl i_T 2 (by decide) rfl (Or.inr nw_57) rfl d_W_left_68 ?_
    refine lv_isub K.hx K.hb d_W_left_71 ?_
    refine va_mmax K.hx K.hb (K.1.1.2.2.1.trans hl.1.symm) K.1.1.2.2.2.1 (K.1.1.2.2.2.2 _ kw_503) (K.1.1.2.2.2.2 _ kw_274) (K.1.1.2.2.2.2 _ kw_37) (K.1.1.2.2.2.2 _ kw_275) (Nat.le_of_ble_eq_true rfl) (Nat.le_of_ble_eq_true rfl) (Nat.le_of_ble_eq_true rfl) (Nat.le_of_ble_eq_true rfl) d_W_left_72 ?_
    exact ce_i K hP hS ⟨i, hi, rfl, ‹_›, by subst ez1 ez2; rfl, rfl, rfl⟩ (Nat.le_of_ble_eq_true rfl) (Nat.le_of_ble_eq_true rfl) d_W_left_75
  · exact ce_t K hP hS hfl kw_322 kw_33 xa_IAE rfl (text := "a draw is 0 to 1000") (by decide) hl.1 d_W_left_17 d_W_left_20 d_W_left_21 d_W_left_23 d_W_left_26 (Nat.le_of_ble_eq_true rfl) (Nat.le_of_ble_eq_true rfl) (Nat.le_of_ble_eq_true rfl) (Nat.le_of_ble_eq_true rfl) (Nat.le_of_ble_eq_true rfl) (Nat.le_of_ble_eq_true rfl) (Or.inr ⟨i, hi, rfl, ‹_›, rfl⟩)
set_option maxHeartbeats 4000000 in
set_option maxRecDepth 100000 in
theorem c_W_permit (l : Launch) (D : va_G) (cs : Nat → ClassId) (ad : Nat → Nat) (v : Nat → Nat → Int32) (sd : Int64) (hfl : l.flags = flags0) {tc : Nat} (htc : v 0 2 = nI tc) (ht8 : tc ≤ 8) (x y : Int32) (h_y : y = 0 ∨ y = 1) : Cm l y_W_permit b_W_permit 4 none (rmx 2 2) [.ref (ad 0), .int x, .int y] D cs ad v sd (fun r v' sd' => ∃ i, i < tc ∧ x = nI i ∧ ¬ v (2 + i) 3 = y ∧ r = none ∧ kp (u2 v (2 + i) 3 y) i (if y = 0 then -2 else -3) = v' ∧ sd = sd') (fun cls => ((¬ ∃ i, i < tc ∧ x = nI i) ∧ cls = "java/lang/IndexOutOfBoundsException") ∨ (∃ i, i < tc ∧ x = nI i ∧ v (2 + i) 3 = y ∧ cls = "java/lang/UnsupportedOperationException")) := by
  refine cw_enter (own := "WearHours") rfl (Nat.le_of_ble_eq_true rfl) ?_
  intro p e s m below meth c ls K hS hP hl
  have hl : lv_has ls 4 [(0, .ref (ad 0)), (1, .int x), (2, .int y)] := hl
  refine lv_aload_n K.hx K.hb d_W_permit_0 rfl (lv_at hl 0 rfl) ?_
  refine lv_iload_n K.hx K.hb d_W_permit_1 rfl (lv_at hl 1 rfl) ?_
  refine cc_Vx K hP hS (c_W_knownThing l D cs ad _ _ hfl htc ht8 x) (fun cls h => Or.inl h) kw_423 xm_W_knownThing kw_420 kw_422 kw_9 (g_recv K.1.2.1 hP (0) (by decide) rfl rfl) rfl hl.1 d_W_permit_2 (Nat.le_of_ble_eq_true rfl) (Nat.le_of_ble_eq_true rfl) ⟨(Nat.le_of_ble_eq_true rfl), (Nat.le_of_ble_eq_true rfl)⟩ (Nat.le_of_ble_eq_true rfl) (Nat.le_of_ble_eq_true rfl) (fun r v1 sd1 H l1 hp hP hS => ?_)
  obtain ⟨i, hi, rfl, rfl, rfl, rfl⟩ := hp
  have hi8 : i < 8 := by omega
  refine lv_astore_n (lv' := [(3, .ref (ad (2 + i))), (0, .ref (ad 0)), (1, .int (nI i)), (2, .int y)]) K.hx K.hb d_W_permit_5 rfl hl (by decide) rfl (fun ls hl => ?_)
  refine lv_aload_n K.hx K.hb d_W_permit_6 rfl (lv_at hl 0 rfl) ?_
  refine g_get K.1 hP (2 + i) (by have := hi8; omega) (eT hi8) rfl i_T 3 (by decide) rfl (Or.inr nw_59) rfl d_W_permit_7 ?_
  refine lv_iload_n K.hx K.hb d_W_permit_10 rfl (lv_at hl 3 rfl) ?_
  refine lv_icmp_ne (tgt := 24) K.hx K.hb d_W_permit_11 (by decide) (fun c_11 => ?_) (fun c_11 => ?_)
  · refine lv_aload_n K.hx K.hb d_W_permit_24 rfl (lv_at hl 0 rfl) ?_
    refine lv_iload_n K.hx K.hb d_W_permit_25 rfl (lv_at hl 3 rfl) ?_
    refine cc_V K hP hS (c_T_setPermit l D cs ad _ _ hi8 y h_y) kw_515 xm_T_setPermit kw_512 kw_513 kw_514 (g_recv K.1.2.1 hP (2 + i) (by have := hi8; omega) (eT hi8) rfl) rfl hl.1 d_W_permit_26 (Nat.le_of_ble_eq_true rfl) (Nat.le_of_ble_eq_true rfl) ⟨(Nat.le_of_ble_eq_true rfl), (Nat.le_of_ble_eq_true rfl)⟩ (fun r v1 sd1 H l1 hp hP hS => ?_)
    obtain ⟨rfl, rfl, rfl⟩ := hp
    exact ce_v K hP hS ⟨i, hi, rfl, ‹_›, rfl, rfl, rfl⟩ (Nat.le_of_ble_eq_true rfl) (Nat.le_of_ble_eq_true rfl) d_W_permit_29
  · exact ce_t K hP hS hfl kw_391 kw_34 xa_UOE rfl (text := "the permit is so already") (by decide) hl.1 d_W_permit_14 d_W_permit_17 d_W_permit_18 d_W_permit_20 d_W_permit_23 (Nat.le_of_ble_eq_true rfl) (Nat.le_of_ble_eq_true rfl) (Nat.le_of_ble_eq_true rfl) (Nat.le_of_ble_eq_true rfl) (Nat.le_of_ble_eq_true rfl) (Nat.le_of_ble_eq_true rfl) (Or.inr ⟨i, hi, rfl, ‹_›, rfl⟩)
set_option maxHeartbeats 4000000 in
set_option maxRecDepth 100000 in
theorem c_W_history (l : Launch) (D : va_G) (cs : Nat → ClassId) (ad : Nat → Nat) (v : Nat → Nat → Int32) (sd : Int64) (hfl : l.flags = flags0) {tc : Nat} (htc : v 0 2 = nI tc) (ht8 : tc ≤ 8) (x y : Int32)  : Cm l y_W_history b_W_history 4 (some .int) (rmx 2 2) [.ref (ad 0), .int x, .int y] D cs ad v sd (fun r v' sd' => ∃ i, i < tc ∧ x = nI i ∧ ¬ y < 0 ∧ r = some (.int (if y < 0 then 0 else if 5 ≤ y then 0 else v (10 + i) y.toNatClampNeg)) ∧ v = v' ∧ sd = sd') (fun cls => ((¬ ∃ i, i < tc ∧ x = nI i) ∧ cls = "java/lang/IndexOutOfBoundsException") ∨ (∃ i, i < tc ∧ x = nI i ∧ y < 0 ∧ cls = "java/lang/IndexOutOfBoundsException")) := by
  refine cw_enter (own := "WearHours") rfl (Nat.le_of_ble_eq_true rfl) ?_
  intro p e s m below meth c ls K hS hP hl
  have hl : lv_has ls 4 [(0, .ref (ad 0)), (1, .int x), (2, .int y)] := hl
  refine lv_aload_n K.hx K.hb d_W_history_0 rfl (lv_at hl 0 rfl) ?_
  refine lv_iload_n K.hx K.hb d_W_history_1 rfl (lv_at hl 1 rfl) ?_
  refine cc_Vx K hP hS (c_W_knownThing l D cs ad _ _ hfl htc ht8 x) (fun cls h => Or.inl h) kw_423 xm_W_knownThing kw_420 kw_422 kw_9 (g_recv K.1.2.1 hP (0) (by decide) rfl rfl) rfl hl.1 d_W_history_2 (Nat.le_of_ble_eq_true rfl) (Nat.le_of_ble_eq_true rfl) ⟨(Nat.le_of_ble_eq_true rfl), (Nat.le_of_ble_eq_true rfl)⟩ (Nat.le_of_ble_eq_true rfl) (Nat.le_of_ble_eq_true rfl) (fun r v1 sd1 H l1 hp hP hS => ?_)
  obtain ⟨i, hi, rfl, rfl, rfl, rfl⟩ := hp
  have hi8 : i < 8 := by omega
  refine lv_astore_n (lv' := [(3, .ref (ad (2 + i))), (0, .ref (ad 0)), (1, .int (nI i)), (2, .int y)]) K.hx K.hb d_W_history_5 rfl hl (by decide) rfl (fun ls hl => ?_)
  refine lv_iload_n K.hx K.hb d_W_history_6 rfl (lv_at hl 3 rfl) ?_
  refine lv_if_ge (tgt := 20) K.hx K.hb d_W_history_7 (by decide) (fun c_7 => ?_) (fun c_7 => ?_)
  · refine lv_aload_n K.hx K.hb d_W_history_20 rfl (lv_at hl 0 rfl) ?_
    refine lv_iload_n K.hx K.hb d_W_history_21 rfl (lv_at hl 3 rfl) ?_
    refine cc_V K hP hS (c_T_change l D cs ad _ _ hi8 y) kw_527 xm_T_change kw_524 kw_525 kw_526 (g_recv K.1.2.1 hP (2 + i) (by have := hi8; omega) (eT hi8) rfl) rfl hl.1 d_W_history_22 (Nat.le_of_ble_eq_true rfl) (Nat.le_of_ble_eq_true rfl) ⟨(Nat.le_of_ble_eq_true rfl), (Nat.le_of_ble_eq_true rfl)⟩ (fun r v1 sd1 H l1 hp hP hS => ?_)
    obtain ⟨rfl, rfl, rfl⟩ := hp
    exact ce_i K hP hS ⟨i, hi, rfl, Int32.not_lt.mpr c_7, rfl, rfl, rfl⟩ (Nat.le_of_ble_eq_true rfl) (Nat.le_of_ble_eq_true rfl) d_W_history_25
  · exact ce_t K hP hS hfl kw_424 kw_35 xa_IOE rfl (text := "a change\'s number is 0 or more") (by decide) hl.1 d_W_history_10 d_W_history_13 d_W_history_14 d_W_history_16 d_W_history_19 (Nat.le_of_ble_eq_true rfl) (Nat.le_of_ble_eq_true rfl) (Nat.le_of_ble_eq_true rfl) (Nat.le_of_ble_eq_true rfl) (Nat.le_of_ble_eq_true rfl) (Nat.le_of_ble_eq_true rfl) (Or.inr ⟨i, hi, rfl, Int32.not_le.mp c_7, rfl⟩)
