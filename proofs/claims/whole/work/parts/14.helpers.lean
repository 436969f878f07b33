set_option maxHeartbeats 4000000 in
set_option maxRecDepth 100000 in
theorem c_W_isWithin (l : Launch) (D : va_G) (cs : Nat → ClassId) (ad : Nat → Nat) (v : Nat → Nat → Int32) (sd : Int64) (x a b : Int32)  : Cm l y_W_isWithin b_W_isWithin 3 (some .boolean) (rmx 0 0) [.int x, .int a, .int b] D cs ad v sd (fun r v' sd' => r = some (.int (wthZ x a b)) ∧ v = v' ∧ sd = sd') (fun cls => False) := by
  refine cw_enter (own := "WearHours") rfl (Nat.le_of_ble_eq_true rfl) ?_
  intro p e s m below meth c ls K hS hP hl
  have hl : lv_has ls 3 [(0, .int x), (1, .int a), (2, .int b)] := hl
  refine lv_iload_n K.hx K.hb d_W_isWithin_0 rfl (lv_at hl 0 rfl) ?_
  refine lv_iload_n K.hx K.hb d_W_isWithin_1 rfl (lv_at hl 1 rfl) ?_
  refine lv_icmp_lt (tgt := 14) K.hx K.hb d_W_isWithin_2 (by decide) (fun c_2 => ?_) (fun c_2 => ?_)
  · refine lv_iconst (v := 0) K.hx K.hb d_W_isWithin_14 (by decide) ?_
    exact ce_z K hP hS rfl ⟨by rw [show wthZ x a b = 0 from by simp [wthZ, *]], rfl, rfl⟩ (Nat.le_of_ble_eq_true rfl) (Nat.le_of_ble_eq_true rfl) d_W_isWithin_15
  · refine lv_iload_n K.hx K.hb d_W_isWithin_5 rfl (lv_at hl 0 rfl) ?_
    refine lv_iload_n K.hx K.hb d_W_isWithin_6 rfl (lv_at hl 2 rfl) ?_
    refine lv_icmp_gt (tgt := 14) K.hx K.hb d_W_isWithin_7 (by decide) (fun c_7 => ?_) (fun c_7 => ?_)
    · refine lv_iconst (v := 0) K.hx K.hb d_W_isWithin_14 (by decide) ?_
      exact ce_z K hP hS rfl ⟨by rw [show wthZ x a b = 0 from by simp [wthZ, *]], rfl, rfl⟩ (Nat.le_of_ble_eq_true rfl) (Nat.le_of_ble_eq_true rfl) d_W_isWithin_15
    · refine lv_iconst (v := 1) K.hx K.hb d_W_isWithin_10 (by decide) ?_
      refine lv_goto (tgt := 15) K.hx K.hb d_W_isWithin_11 (by decide) ?_
      exact ce_z K hP hS rfl ⟨by rw [show wthZ x a b = 1 from by simp [wthZ, *]], rfl, rfl⟩ (Nat.le_of_ble_eq_true rfl) (Nat.le_of_ble_eq_true rfl) d_W_isWithin_15
set_option maxHeartbeats 4000000 in
set_option maxRecDepth 100000 in
theorem c_W_checkWhat (l : Launch) (D : va_G) (cs : Nat → ClassId) (ad : Nat → Nat) (v : Nat → Nat → Int32) (sd : Int64) (hfl : l.flags = flags0) (x : Int32)  : Cm l y_W_checkWhat b_W_checkWhat 1 none (rmx 0 1) [.int x] D cs ad v sd (fun r v' sd' => (¬ x < 0 ∧ x < 3) ∧ r = none ∧ v = v' ∧ sd = sd') (fun cls => (x < 0 ∨ ¬ x < 3) ∧ cls = "java/lang/IndexOutOfBoundsException") := by
  refine cw_enter (own := "WearHours") rfl (Nat.le_of_ble_eq_true rfl) ?_
  intro p e s m below meth c ls K hS hP hl
  have hl : lv_has ls 1 [(0, .int x)] := hl
  refine lv_iload_n K.hx K.hb d_W_checkWhat_0 rfl (lv_at hl 0 rfl) ?_
  refine lv_if_lt (tgt := 9) K.hx K.hb d_W_checkWhat_1 (by decide) (fun c_1 => ?_) (fun c_1 => ?_)
  · exact ce_t K hP hS hfl kw_424 kw_35 xa_IOE rfl (text := "what is 0 to 2") (by decide) hl.1 d_W_checkWhat_9 d_W_checkWhat_12 d_W_checkWhat_13 d_W_checkWhat_15 d_W_checkWhat_18 (Nat.le_of_ble_eq_true rfl) (Nat.le_of_ble_eq_true rfl) (Nat.le_of_ble_eq_true rfl) (Nat.le_of_ble_eq_true rfl) (Nat.le_of_ble_eq_true rfl) (Nat.le_of_ble_eq_true rfl) ⟨by first | exact Or.inl ‹_› | exact Or.inr ‹_›, rfl⟩
  · refine lv_iload_n K.hx K.hb d_W_checkWhat_4 rfl (lv_at hl 0 rfl) ?_
    refine lv_iconst (v := 3) K.hx K.hb d_W_checkWhat_5 (by decide) ?_
    refine lv_icmp_lt (tgt := 19) K.hx K.hb d_W_checkWhat_6 (by decide) (fun c_6 => ?_) (fun c_6 => ?_)
    · exact ce_v K hP hS ⟨⟨‹_›, ‹_›⟩, rfl, rfl, rfl⟩ (Nat.le_of_ble_eq_true rfl) (Nat.le_of_ble_eq_true rfl) d_W_checkWhat_19
    · exact ce_t K hP hS hfl kw_424 kw_35 xa_IOE rfl (text := "what is 0 to 2") (by decide) hl.1 d_W_checkWhat_9 d_W_checkWhat_12 d_W_checkWhat_13 d_W_checkWhat_15 d_W_checkWhat_18 (Nat.le_of_ble_eq_true rfl) (Nat.le_of_ble_eq_true rfl) (Nat.le_of_ble_eq_true rfl) (Nat.le_of_ble_eq_true rfl) (Nat.le_of_ble_eq_true rfl) (Nat.le_of_ble_eq_true rfl) ⟨by first | exact Or.inl ‹_› | exact Or.inr ‹_›, rfl⟩
set_option maxHeartbeats 4000000 in
set_option maxRecDepth 100000 in
theorem c_W_checkSkill (l : Launch) (D : va_G) (cs : Nat → ClassId) (ad : Nat → Nat) (v : Nat → Nat → Int32) (sd : Int64) (hfl : l.flags = flags0) (x : Int32)  : Cm l y_W_checkSkill b_W_checkSkill 1 none (rmx 0 1) [.int x] D cs ad v sd (fun r v' sd' => (¬ x < 0 ∧ x < 4) ∧ r = none ∧ v = v' ∧ sd = sd') (fun cls => (x < 0 ∨ ¬ x < 4) ∧ cls = "java/lang/IllegalArgumentException") := by
  refine cw_enter (own := "WearHours") rfl (Nat.le_of_ble_eq_true rfl) ?_
  intro p e s m below meth c ls K hS hP hl
  have hl : lv_has ls 1 [(0, .int x)] := hl
  refine lv_iload_n K.hx K.hb d_W_checkSkill_0 rfl (lv_at hl 0 rfl) ?_
  refine lv_if_lt (tgt := 9) K.hx K.hb d_W_checkSkill_1 (by decide) (fun c_1 => ?_) (fun c_1 => ?_)
  · exact ce_t K hP hS hfl kw_322 kw_33 xa_IAE rfl (text := "a skill is 0 to 3") (by decide) hl.1 d_W_checkSkill_9 d_W_checkSkill_12 d_W_checkSkill_13 d_W_checkSkill_15 d_W_checkSkill_18 (Nat.le_of_ble_eq_true rfl) (Nat.le_of_ble_eq_true rfl) (Nat.le_of_ble_eq_true rfl) (Nat.le_of_ble_eq_true rfl) (Nat.le_of_ble_eq_true rfl) (Nat.le_of_ble_eq_true rfl) ⟨by first | exact Or.inl ‹_› | exact Or.inr ‹_›, rfl⟩
  · refine lv_iload_n K.hx K.hb d_W_checkSkill_4 rfl (lv_at hl 0 rfl) ?_
    refine lv_iconst (v := 4) K.hx K.hb d_W_checkSkill_5 (by decide) ?_
    refine lv_icmp_lt (tgt := 19) K.hx K.hb d_W_checkSkill_6 (by decide) (fun c_6 => ?_) (fun c_6 => ?_)
    · exact ce_v K hP hS ⟨⟨‹_›, ‹_›⟩, rfl, rfl, rfl⟩ (Nat.le_of_ble_eq_true rfl) (Nat.le_of_ble_eq_true rfl) d_W_checkSkill_19
    · exact ce_t K hP hS hfl kw_322 kw_33 xa_IAE rfl (text := "a skill is 0 to 3") (by decide) hl.1 d_W_checkSkill_9 d_W_checkSkill_12 d_W_checkSkill_13 d_W_checkSkill_15 d_W_checkSkill_18 (Nat.le_of_ble_eq_true rfl) (Nat.le_of_ble_eq_true rfl) (Nat.le_of_ble_eq_true rfl) (Nat.le_of_ble_eq_true rfl) (Nat.le_of_ble_eq_true rfl) (Nat.le_of_ble_eq_true rfl) ⟨by first | exact Or.inl ‹_› | exact Or.inr ‹_›, rfl⟩
set_option maxHeartbeats 4000000 in
set_option maxRecDepth 100000 in
theorem c_W_checkHours (l : Launch) (D : va_G) (cs : Nat → ClassId) (ad : Nat → Nat) (v : Nat → Nat → Int32) (sd : Int64) (hfl : l.flags = flags0) (x y : Int32)  : Cm l y_W_checkHours b_W_checkHours 2 none (rmx 0 1) [.int x, .int y] D cs ad v sd (fun r v' sd' => (¬ x < 0 ∧ ¬ 168 < y ∧ x < y) ∧ r = none ∧ v = v' ∧ sd = sd') (fun cls => ¬ (¬ x < 0 ∧ ¬ 168 < y ∧ x < y) ∧ cls = "java/lang/IllegalArgumentException") := by
  refine cw_enter (own := "WearHours") rfl (Nat.le_of_ble_eq_true rfl) ?_
  intro p e s m below meth c ls K hS hP hl
  have hl : lv_has ls 2 [(0, .int x), (1, .int y)] := hl
  refine lv_iload_n K.hx K.hb d_W_checkHours_0 rfl (lv_at hl 0 rfl) ?_
  refine lv_if_lt (tgt := 16) K.hx K.hb d_W_checkHours_1 (by decide) (fun c_1 => ?_) (fun c_1 => ?_)
  · exact ce_t K hP hS hfl kw_322 kw_33 xa_IAE rfl (text := "hours are 0 to 168, the second behind the first") (by decide) hl.1 d_W_checkHours_16 d_W_checkHours_19 d_W_checkHours_20 d_W_checkHours_22 d_W_checkHours_25 (Nat.le_of_ble_eq_true rfl) (Nat.le_of_ble_eq_true rfl) (Nat.le_of_ble_eq_true rfl) (Nat.le_of_ble_eq_true rfl) (Nat.le_of_ble_eq_true rfl) (Nat.le_of_ble_eq_true rfl) ⟨by intro h; simp_all, rfl⟩
  · refine lv_iload_n K.hx K.hb d_W_checkHours_4 rfl (lv_at hl 1 rfl) ?_
    refine lv_sipush (v := 168) K.hx K.hb d_W_checkHours_5 (by decide) ?_
    refine lv_icmp_gt (tgt := 16) K.hx K.hb d_W_checkHours_8 (by decide) (fun c_8 => ?_) (fun c_8 => ?_)
    · exact ce_t K hP hS hfl kw_322 kw_33 xa_IAE rfl (text := "hours are 0 to 168, the second behind the first") (by decide) hl.1 d_W_checkHours_16 d_W_checkHours_19 d_W_checkHours_20 d_W_checkHours_22 d_W_checkHours_25 (Nat.le_of_ble_eq_true rfl) (Nat.le_of_ble_eq_true rfl) (Nat.le_of_ble_eq_true rfl) (Nat.le_of_ble_eq_true rfl) (Nat.le_of_ble_eq_true rfl) (Nat.le_of_ble_eq_true rfl) ⟨by intro h; simp_all, rfl⟩
    · refine lv_iload_n K.hx K.hb d_W_checkHours_11 rfl (lv_at hl 1 rfl) ?_
      refine lv_iload_n K.hx K.hb d_W_checkHours_12 rfl (lv_at hl 0 rfl) ?_
      refine lv_icmp_gt (tgt := 26) K.hx K.hb d_W_checkHours_13 (by decide) (fun c_13 => ?_) (fun c_13 => ?_)
      · exact ce_v K hP hS ⟨⟨‹_›, ‹_›, ‹_›⟩, rfl, rfl, rfl⟩ (Nat.le_of_ble_eq_true rfl) (Nat.le_of_ble_eq_true rfl) d_W_checkHours_26
      · exact ce_t K hP hS hfl kw_322 kw_33 xa_IAE rfl (text := "hours are 0 to 168, the second behind the first") (by decide) hl.1 d_W_checkHours_16 d_W_checkHours_19 d_W_checkHours_20 d_W_checkHours_22 d_W_checkHours_25 (Nat.le_of_ble_eq_true rfl) (Nat.le_of_ble_eq_true rfl) (Nat.le_of_ble_eq_true rfl) (Nat.le_of_ble_eq_true rfl) (Nat.le_of_ble_eq_true rfl) (Nat.le_of_ble_eq_true rfl) ⟨by intro h; simp_all, rfl⟩
set_option maxHeartbeats 4000000 in
set_option maxRecDepth 100000 in
theorem c_W_checkPlan (l : Launch) (D : va_G) (cs : Nat → ClassId) (ad : Nat → Nat) (v : Nat → Nat → Int32) (sd : Int64) (hfl : l.flags = flags0)  : Cm l y_W_checkPlan b_W_checkPlan 1 none (rmx 0 1) [.ref (ad 0)] D cs ad v sd (fun r v' sd' => ¬ v 38 4 = 0 ∧ r = none ∧ v = v' ∧ sd = sd') (fun cls => v 38 4 = 0 ∧ cls = "java/lang/IllegalStateException") := by
  refine cw_enter (own := "WearHours") rfl (Nat.le_of_ble_eq_true rfl) ?_
  intro p e s m below meth c ls K hS hP hl
  have hl : lv_has ls 1 [(0, .ref (ad 0))] := hl
  refine lv_aload_n K.hx K.hb d_W_checkPlan_0 rfl (lv_at hl 0 rfl) ?_
  refine g_get K.1 hP (0) (by decide) rfl rfl i_W 5 (by decide) rfl (Or.inl kw_227) rfl d_W_checkPlan_1 ?_
  refine g_get K.1 hP (38) (by decide) rfl rfl i_L 4 (by decide) rfl (Or.inr nw_202) rfl d_W_checkPlan_4 ?_
  refine lv_if_ne (tgt := 20) K.hx K.hb d_W_checkPlan_7 (by decide) (fun c_7 => ?_) (fun c_7 => ?_)
  · exact ce_v K hP hS ⟨‹_›, rfl, rfl, rfl⟩ (Nat.le_of_ble_eq_true rfl) (Nat.le_of_ble_eq_true rfl) d_W_checkPlan_20
  · exact ce_t K hP hS hfl kw_444 kw_36 xa_ISE rfl (text := "there is no plan") (by decide) hl.1 d_W_checkPlan_10 d_W_checkPlan_13 d_W_checkPlan_14 d_W_checkPlan_16 d_W_checkPlan_19 (Nat.le_of_ble_eq_true rfl) (Nat.le_of_ble_eq_true rfl) (Nat.le_of_ble_eq_true rfl) (Nat.le_of_ble_eq_true rfl) (Nat.le_of_ble_eq_true rfl) (Nat.le_of_ble_eq_true rfl) ⟨‹_›, rfl⟩
theorem ix_of {x : Int32} {n : Nat} (hn : n < 2 ^ 31) (h1 : ¬ x < 0) (h2 : x < nI n) : ∃ j : Nat, j < n ∧ x = nI j := by
  obtain ⟨j, hj, rfl⟩ := nI_of h1
  exact ⟨j, (nI_ltI hj hn).mp h2, rfl⟩
theorem ix_no {x : Int32} {n : Nat} (hn : n < 2 ^ 31) (h : x < 0 ∨ ¬ x < nI n) : ¬ ∃ j : Nat, j < n ∧ x = nI j := by
  rintro ⟨j, hj, rfl⟩
  rcases h with h | h
  · exact nI_pos (by omega) h
  · exact h (nI_lt hj hn)
set_option maxHeartbeats 4000000 in
set_option maxRecDepth 100000 in
theorem c_W_knownThing (l : Launch) (D : va_G) (cs : Nat → ClassId) (ad : Nat → Nat) (v : Nat → Nat → Int32) (sd : Int64) (hfl : l.flags = flags0) {tc : Nat} (htc : v 0 2 = nI tc) (ht8 : tc ≤ 8) (x : Int32)  : Cm l y_W_knownThing b_W_knownThing 2 (some (.object "WearHours$Thing")) (rmx 0 1) [.ref (ad 0), .int x] D cs ad v sd (fun r v' sd' => ∃ i, i < tc ∧ x = nI i ∧ r = some (.ref (ad (2 + i))) ∧ v = v' ∧ sd = sd') (fun cls => (¬ ∃ i, i < tc ∧ x = nI i) ∧ cls = "java/lang/IndexOutOfBoundsException") := by
  refine cw_enter (own := "WearHours") rfl (Nat.le_of_ble_eq_true rfl) ?_
  intro p e s m below meth c ls K hS hP hl
  have hl : lv_has ls 2 [(0, .ref (ad 0)), (1, .int x)] := hl
  refine lv_iload_n K.hx K.hb d_W_knownThing_0 rfl (lv_at hl 1 rfl) ?_
  refine lv_if_lt (tgt := 12) K.hx K.hb d_W_knownThing_1 (by decide) (fun c_1 => ?_) (fun c_1 => ?_)
  · exact ce_t K hP hS hfl kw_424 kw_35 xa_IOE rfl (text := "there is no such thing") (by decide) hl.1 d_W_knownThing_12 d_W_knownThing_15 d_W_knownThing_16 d_W_knownThing_18 d_W_knownThing_21 (Nat.le_of_ble_eq_true rfl) (Nat.le_of_ble_eq_true rfl) (Nat.le_of_ble_eq_true rfl) (Nat.le_of_ble_eq_true rfl) (Nat.le_of_ble_eq_true rfl) (Nat.le_of_ble_eq_true rfl) ⟨ix_no (by omega) (by first | exact Or.inl ‹_› | exact Or.inr (by rw [← htc]; assumption)), rfl⟩
  · refine lv_iload_n K.hx K.hb d_W_knownThing_4 rfl (lv_at hl 1 rfl) ?_
    refine lv_aload_n K.hx K.hb d_W_knownThing_5 rfl (lv_at hl 0 rfl) ?_
    refine g_get K.1 hP (0) (by decide) rfl rfl i_W 2 (by decide) rfl (Or.inl kw_224) rfl d_W_knownThing_6 ?_
    refine lv_icmp_lt (tgt := 22) K.hx K.hb d_W_knownThing_9 (by decide) (fun c_9 => ?_) (fun c_9 => ?_)
    · obtain ⟨i, hi, rfl⟩ := ix_of (n := tc) (by omega) ‹_› (by rw [← htc]; assumption)
      have hi8 : i < 8 := by omega
      refine lv_aload_n K.hx K.hb d_W_knownThing_22 rfl (lv_at hl 0 rfl) ?_
      refine g_get K.1 hP (0) (by decide) rfl rfl i_W 1 (by decide) rfl (Or.inl kw_223) rfl d_W_knownThing_23 ?_
      refine lv_iload_n K.hx K.hb d_W_knownThing_26 rfl (lv_at hl 1 rfl) ?_
      refine g_aald K.1 hP (1) (by decide) rfl 3 rfl (i) rfl (by have := hi8; omega) (by decide) rfl d_W_knownThing_27 ?_
      exact ce_a K hP hS ⟨i, hi, rfl, rfl, rfl, rfl⟩ (Nat.le_of_ble_eq_true rfl) (Nat.le_of_ble_eq_true rfl) d_W_knownThing_28
    · exact ce_t K hP hS hfl kw_424 kw_35 xa_IOE rfl (text := "there is no such thing") (by decide) hl.1 d_W_knownThing_12 d_W_knownThing_15 d_W_knownThing_16 d_W_knownThing_18 d_W_knownThing_21 (Nat.le_of_ble_eq_true rfl) (Nat.le_of_ble_eq_true rfl) (Nat.le_of_ble_eq_true rfl) (Nat.le_of_ble_eq_true rfl) (Nat.le_of_ble_eq_true rfl) (Nat.le_of_ble_eq_true rfl) ⟨ix_no (by omega) (by first | exact Or.inl ‹_› | exact Or.inr (by rw [← htc]; assumption)), rfl⟩
