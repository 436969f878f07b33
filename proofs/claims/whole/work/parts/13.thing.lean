/-! what the methods of the class answer and do, as functions of the rows of numbers -/
/-- the changes of thing i, with x the latest -/
def kp (v : Nat → Nat → Int32) (i : Nat) (x : Int32) : Nat → Nat → Int32 := fun k j => if k = 10 + i then (if j = 0 then x else if j ≤ 4 then v k (j - 1) else v k j) else v k j
theorem kp_eq (v : Nat → Nat → Int32) (i : Nat) (x : Int32) : u2 (u2 (u2 (u2 (u2 v (10 + i) 4 (v (10 + i) 3)) (10 + i) 3 (v (10 + i) 2)) (10 + i) 2 (v (10 + i) 1)) (10 + i) 1 (v (10 + i) 0)) (10 + i) 0 x = kp v i x := by
  funext k j
  simp only [u2_at, kp]
  by_cases h1 : k = 10 + i
  · subst h1
    rcases (show j = 0 ∨ j = 1 ∨ j = 2 ∨ j = 3 ∨ j = 4 ∨ 4 < j by omega) with rfl | rfl | rfl | rfl | rfl | h2
    · simp
    · simp
    · simp
    · simp
    · simp
    · have h3 : ¬ j ≤ 4 := by omega
      have h4 : j ≠ 0 := by omega
      have h5 : j ≠ 1 := by omega
      have h6 : j ≠ 2 := by omega
      have h7 : j ≠ 3 := by omega
      have h8 : j ≠ 4 := by omega
      simp [h3, h4, h5, h6, h7, h8]
  · simp [h1]
def barZ (v : Nat → Nat → Int32) (i : Nat) : Int32 := if v (2 + i) 3 = 0 then 1 else if v (2 + i) 2 < v (2 + i) 1 then 0 else 1
def wthZ (x a b : Int32) : Int32 := if x < a then 0 else if b < x then 0 else 1
set_option maxHeartbeats 4000000 in
set_option maxRecDepth 100000 in
theorem c_T_keep (l : Launch) (D : va_G) (cs : Nat → ClassId) (ad : Nat → Nat) (v : Nat → Nat → Int32) (sd : Int64) {i : Nat} (hi : i < 8) (x : Int32)  : Cm l y_T_keep b_T_keep 3 none (rmx 0 0) [.ref (ad (2 + i)), .int x] D cs ad v sd (fun r v' sd' => r = none ∧ kp v i x = v' ∧ sd = sd') (fun cls => False) := by
  refine cw_enter (own := "WearHours$Thing") rfl (Nat.le_of_ble_eq_true rfl) ?_
  intro p e s m below meth c ls K hS hP hl
  have hl : lv_has ls 3 [(0, .ref (ad (2 + i))), (1, .int x)] := hl
  refine lv_iconst (v := 4) K.hx K.hb d_T_keep_0 (by decide) ?_
  refine lv_istore_n (lv' := [(2, .int 4), (0, .ref (ad (2 + i))), (1, .int x)]) K.hx K.hb d_T_keep_1 rfl hl (by decide) rfl (fun ls hl => ?_)
  refine lv_iload_n K.hx K.hb d_T_keep_2 rfl (lv_at hl 0 rfl) ?_
  refine lv_if_le (tgt := 26) K.hx K.hb d_T_keep_3 (by decide) (fun c_3 => (show False from by revert c_3; decide).elim) (fun _ => ?_)
  refine lv_aload_n K.hx K.hb d_T_keep_6 rfl (lv_at hl 1 rfl) ?_
  refine g_get K.1 hP (2 + i) (by have := hi; omega) (eT hi) rfl i_T 4 (by decide) rfl (Or.inl kw_60) rfl d_T_keep_7 ?_
  refine lv_iload_n K.hx K.hb d_T_keep_10 rfl (lv_at hl 0 rfl) ?_
  refine lv_aload_n K.hx K.hb d_T_keep_11 rfl (lv_at hl 1 rfl) ?_
  refine g_get K.1 hP (2 + i) (by have := hi; omega) (eT hi) rfl i_T 4 (by decide) rfl (Or.inl kw_60) rfl d_T_keep_12 ?_
  refine lv_iload_n K.hx K.hb d_T_keep_15 rfl (lv_at hl 0 rfl) ?_
  refine lv_iconst (v := 1) K.hx K.hb d_T_keep_16 (by decide) ?_
  refine lv_isub K.hx K.hb d_T_keep_17 ?_
  refine lv_topE (y := 3) (by decide) ?_
  refine g_iald K.1 hP (10 + i) (by have := hi; omega) (eH hi) 0 rfl (3) rfl (by decide) (by decide) d_T_keep_18 ?_
  refine g_iast K.1 hP hS (10 + i) (by have := hi; omega) (fun _ => eH hi) 0 rfl (4) rfl (by decide) (by decide) d_T_keep_19 (fun H l1 hP hS => ?_)
  refine lv_iinc (v := 3) (lv' := [(2, .int 3), (0, .ref (ad (2 + i))), (1, .int x)]) K.hx K.hb d_T_keep_20 hl (k := 0) rfl (by decide) (by decide) rfl (fun ls hl => ?_)
  refine lv_goto (tgt := 2) K.hx K.hb d_T_keep_23 (by decide) ?_
  refine lv_iload_n K.hx K.hb d_T_keep_2 rfl (lv_at hl 0 rfl) ?_
  refine lv_if_le (tgt := 26) K.hx K.hb d_T_keep_3 (by decide) (fun c_3_1 => (show False from by revert c_3_1; decide).elim) (fun _ => ?_)
  refine lv_aload_n K.hx K.hb d_T_keep_6 rfl (lv_at hl 1 rfl) ?_
  refine g_get K.1 hP (2 + i) (by have := hi; omega) (eT hi) rfl i_T 4 (by decide) rfl (Or.inl kw_60) rfl d_T_keep_7 ?_
  refine lv_iload_n K.hx K.hb d_T_keep_10 rfl (lv_at hl 0 rfl) ?_
  refine lv_aload_n K.hx K.hb d_T_keep_11 rfl (lv_at hl 1 rfl) ?_
  refine g_get K.1 hP (2 + i) (by have := hi; omega) (eT hi) rfl i_T 4 (by decide) rfl (Or.inl kw_60) rfl d_T_keep_12 ?_
  refine lv_iload_n K.hx K.hb d_T_keep_15 rfl (lv_at hl 0 rfl) ?_
  refine lv_iconst (v := 1) K.hx K.hb d_T_keep_16 (by decide) ?_
  refine lv_isub K.hx K.hb d_T_keep_17 ?_
  refine lv_topE (y := 2) (by decide) ?_
  refine g_iald K.1 hP (10 + i) (by have := hi; omega) (eH hi) 0 rfl (2) rfl (by decide) (by decide) d_T_keep_18 ?_
  refine lv_topE (y := (v (10 + i) 2)) (by first | (simp [u2_at, kp]; done) | (simp [u2_at, kp] <;> (intros; omega)) | (simp only [u2_at, kp]; (repeat' split) <;> first | rfl | (exfalso; omega))) ?_
  refine g_iast K.1 hP hS (10 + i) (by have := hi; omega) (fun _ => eH hi) 0 rfl (3) rfl (by decide) (by decide) d_T_keep_19 (fun H l1 hP hS => ?_)
  refine lv_iinc (v := 2) (lv' := [(2, .int 2), (0, .ref (ad (2 + i))), (1, .int x)]) K.hx K.hb d_T_keep_20 hl (k := 0) rfl (by decide) (by decide) rfl (fun ls hl => ?_)
  refine lv_goto (tgt := 2) K.hx K.hb d_T_keep_23 (by decide) ?_
  refine lv_iload_n K.hx K.hb d_T_keep_2 rfl (lv_at hl 0 rfl) ?_
  refine lv_if_le (tgt := 26) K.hx K.hb d_T_keep_3 (by decide) (fun c_3_2 => (show False from by revert c_3_2; decide).elim) (fun _ => ?_)
  refine lv_aload_n K.hx K.hb d_T_keep_6 rfl (lv_at hl 1 rfl) ?_
  refine g_get K.1 hP (2 + i) (by have := hi; omega) (eT hi) rfl i_T 4 (by decide) rfl (Or.inl kw_60) rfl d_T_keep_7 ?_
  refine lv_iload_n K.hx K.hb d_T_keep_10 rfl (lv_at hl 0 rfl) ?_
  refine lv_aload_n K.hx K.hb d_T_keep_11 rfl (lv_at hl 1 rfl) ?_
  refine g_get K.1 hP (2 + i) (by have := hi; omega) (eT hi) rfl i_T 4 (by decide) rfl (Or.inl kw_60) rfl d_T_keep_12 ?_
  refine lv_iload_n K.hx K.hb d_T_keep_15 rfl (lv_at hl 0 rfl) ?_
  refine lv_iconst (v := 1) K.hx K.hb d_T_keep_16 (by decide) ?_
  refine lv_isub K.hx K.hb d_T_keep_17 ?_
  refine lv_topE (y := 1) (by decide) ?_
  refine g_iald K.1 hP (10 + i) (by have := hi; omega) (eH hi) 0 rfl (1) rfl (by decide) (by decide) d_T_keep_18 ?_
  refine lv_topE (y := (v (10 + i) 1)) (by first | (simp [u2_at, kp]; done) | (simp [u2_at, kp] <;> (intros; omega)) | (simp only [u2_at, kp]; (repeat' split) <;> first | rfl | (exfalso; omega))) ?_
  refine g_iast K.1 hP hS (10 + i) (by have := hi; omega) (fun _ => eH hi) 0 rfl (2) rfl (by decide) (by decide) d_T_keep_19 (fun H l1 hP hS => ?_)
  refine lv_iinc (v := 1) (lv' := [(2, .int 1), (0, .ref (ad (2 + i))), (1, .int x)]) K.hx K.hb d_T_keep_20 hl (k := 0) rfl (by decide) (by decide) rfl (fun ls hl => ?_)
  refine lv_goto (tgt := 2) K.hx K.hb d_T_keep_23 (by decide) ?_
  refine lv_iload_n K.hx K.hb d_T_keep_2 rfl (lv_at hl 0 rfl) ?_
  refine lv_if_le (tgt := 26) K.hx K.hb d_T_keep_3 (by decide) (fun c_3_3 => (show False from by revert c_3_3; decide).elim) (fun _ => ?_)
  refine lv_aload_n K.hx K.hb d_T_keep_6 rfl (lv_at hl 1 rfl) ?_
  refine g_get K.1 hP (2 + i) (by have := hi; omega) (eT hi) rfl i_T 4 (by decide) rfl (Or.inl kw_60) rfl d_T_keep_7 ?_
  refine lv_iload_n K.hx K.hb d_T_keep_10 rfl (lv_at hl 0 rfl) ?_
  refine lv_aload_n K.hx K.hb d_T_keep_11 rfl (lv_at hl 1 rfl) ?_
  refine g_get K.1 hP (2 + i) (by have := hi; omega) (eT hi) rfl i_T 4 (by decide) rfl (Or.inl kw_60) rfl d_T_keep_12 ?_
  refine lv_iload_n K.hx K.hb d_T_keep_15 rfl (lv_at hl 0 rfl) ?_
  refine lv_iconst (v := 1) K.hx K.hb d_T_keep_16 (by decide) ?_
  refine lv_isub K.hx K.hb d_T_keep_17 ?_
  refine lv_topE (y := 0) (by decide) ?_
  refine g_iald K.1 hP (10 + i) (by have := hi; omega) (eH hi) 0 rfl (0) rfl (by decide) (by decide) d_T_keep_18 ?_
  refine lv_topE (y := (v (10 + i) 0)) (by first | (simp [u2_at, kp]; done) | (simp [u2_at, kp] <;> (intros; omega)) | (simp only [u2_at, kp]; (repeat' split) <;> first | rfl | (exfalso; omega))) ?_
  refine g_iast K.1 hP hS (10 + i) (by have := hi; omega) (fun _ => eH hi) 0 rfl (1) rfl (by decide) (by decide) d_T_keep_19 (fun H l1 hP hS => ?_)
  refine lv_iinc (v := 0) (lv' := [(2, .int 0), (0, .ref (ad (2 + i))), (1, .int x)]) K.hx K.hb d_T_keep_20 hl (k := 0) rfl (by decide) (by decide) rfl (fun ls hl => ?_)
  refine lv_goto (tgt := 2) K.hx K.hb d_T_keep_23 (by decide) ?_
  refine lv_iload_n K.hx K.hb d_T_keep_2 rfl (lv_at hl 0 rfl) ?_
  refine lv_if_le (tgt := 26) K.hx K.hb d_T_keep_3 (by decide) (fun _ => ?_) (fun c_3_4 => (show False from by revert c_3_4; decide).elim)
  refine lv_aload_n K.hx K.hb d_T_keep_26 rfl (lv_at hl 1 rfl) ?_
  refine g_get K.1 hP (2 + i) (by have := hi; omega) (eT hi) rfl i_T 4 (by decide) rfl (Or.inl kw_60) rfl d_T_keep_27 ?_
  refine lv_iconst (v := 0) K.hx K.hb d_T_keep_30 (by decide) ?_
  refine lv_iload_n K.hx K.hb d_T_keep_31 rfl (lv_at hl 2 rfl) ?_
  refine g_iast K.1 hP hS (10 + i) (by have := hi; omega) (fun _ => eH hi) 0 rfl (0) rfl (by decide) (by decide) d_T_keep_32 (fun H l1 hP hS => ?_)
  exact ce_v K hP hS ⟨rfl, (kp_eq v i x).symm, rfl⟩ (Nat.le_of_ble_eq_true rfl) (Nat.le_of_ble_eq_true rfl) d_T_keep_33
set_option maxHeartbeats 4000000 in
set_option maxRecDepth 100000 in
theorem c_T_begin (l : Launch) (D : va_G) (cs : Nat → ClassId) (ad : Nat → Nat) (v : Nat → Nat → Int32) (sd : Int64) {i : Nat} (hi : i < 8) (x y : Int32)  : Cm l y_T_begin b_T_begin 3 none (rmx 0 0) [.ref (ad (2 + i)), .int x, .int y] D cs ad v sd (fun r v' sd' => r = none ∧ u2 (u2 (u2 v (2 + i) 0 x) (2 + i) 1 y) (2 + i) 3 1 = v' ∧ sd = sd') (fun cls => False) := by
  refine cw_enter (own := "WearHours$Thing") rfl (Nat.le_of_ble_eq_true rfl) ?_
  intro p e s m below meth c ls K hS hP hl
  have hl : lv_has ls 3 [(0, .ref (ad (2 + i))), (1, .int x), (2, .int y)] := hl
  refine lv_aload_n K.hx K.hb d_T_begin_0 rfl (lv_at hl 0 rfl) ?_
  refine lv_iload_n K.hx K.hb d_T_begin_1 rfl (lv_at hl 1 rfl) ?_
  refine g_puti K.1 hP hS (2 + i) (by have := hi; omega) (eT hi) rfl i_T ft_T ft_T_ok n_T 0 (by decide) rfl (Or.inl kw_53) rfl rfl rfl (Nat.le_of_ble_eq_true rfl) (by rw [eT hi]; rfl) d_T_begin_2 (fun H l1 hP hS => ?_)
  refine lv_aload_n K.hx K.hb d_T_begin_5 rfl (lv_at hl 0 rfl) ?_
  refine lv_iload_n K.hx K.hb d_T_begin_6 rfl (lv_at hl 2 rfl) ?_
  refine g_puti K.1 hP hS (2 + i) (by have := hi; omega) (eT hi) rfl i_T ft_T ft_T_ok n_T 1 (by decide) rfl (Or.inl kw_55) rfl rfl rfl (Nat.le_of_ble_eq_true rfl) (by rw [eT hi]; rfl) d_T_begin_7 (fun H l1 hP hS => ?_)
  refine lv_aload_n K.hx K.hb d_T_begin_10 rfl (lv_at hl 0 rfl) ?_
  refine lv_iconst (v := 1) K.hx K.hb d_T_begin_11 (by decide) ?_
  refine g_puti K.1 hP hS (2 + i) (by have := hi; omega) (eT hi) rfl i_T ft_T ft_T_ok n_T 3 (by decide) rfl (Or.inl kw_58) rfl rfl rfl (Nat.le_of_ble_eq_true rfl) (by rw [eT hi]; rfl) d_T_begin_12 (fun H l1 hP hS => ?_)
  exact ce_v K hP hS ⟨rfl, rfl, rfl⟩ (Nat.le_of_ble_eq_true rfl) (Nat.le_of_ble_eq_true rfl) d_T_begin_15
set_option maxHeartbeats 4000000 in
set_option maxRecDepth 100000 in
theorem c_T_isBarred (l : Launch) (D : va_G) (cs : Nat → ClassId) (ad : Nat → Nat) (v : Nat → Nat → Int32) (sd : Int64) {i : Nat} (hi : i < 8)  : Cm l y_T_isBarred b_T_isBarred 1 (some .boolean) (rmx 0 0) [.ref (ad (2 + i))] D cs ad v sd (fun r v' sd' => r = some (.int (barZ v i)) ∧ v = v' ∧ sd = sd') (fun cls => False) := by
  refine cw_enter (own := "WearHours$Thing") rfl (Nat.le_of_ble_eq_true rfl) ?_
  intro p e s m below meth c ls K hS hP hl
  have hl : lv_has ls 1 [(0, .ref (ad (2 + i)))] := hl
  refine lv_aload_n K.hx K.hb d_T_isBarred_0 rfl (lv_at hl 0 rfl) ?_
  refine g_get K.1 hP (2 + i) (by have := hi; omega) (eT hi) rfl i_T 3 (by decide) rfl (Or.inl kw_58) rfl d_T_isBarred_1 ?_
  refine lv_if_eq (tgt := 18) K.hx K.hb d_T_isBarred_4 (by decide) (fun c_4 => ?_) (fun c_4 => ?_)
  · refine lv_iconst (v := 1) K.hx K.hb d_T_isBarred_18 (by decide) ?_
    refine lv_goto (tgt := 23) K.hx K.hb d_T_isBarred_19 (by decide) ?_
    exact ce_z K hP hS rfl ⟨by rw [show barZ v i = 1 from by simp [barZ, *]], rfl, rfl⟩ (Nat.le_of_ble_eq_true rfl) (Nat.le_of_ble_eq_true rfl) d_T_isBarred_23
  · refine lv_aload_n K.hx K.hb d_T_isBarred_7 rfl (lv_at hl 0 rfl) ?_
    refine g_get K.1 hP (2 + i) (by have := hi; omega) (eT hi) rfl i_T 2 (by decide) rfl (Or.inl kw_56) rfl d_T_isBarred_8 ?_
    refine lv_aload_n K.hx K.hb d_T_isBarred_11 rfl (lv_at hl 0 rfl) ?_
    refine g_get K.1 hP (2 + i) (by have := hi; omega) (eT hi) rfl i_T 1 (by decide) rfl (Or.inl kw_55) rfl d_T_isBarred_12 ?_
    refine lv_icmp_lt (tgt := 22) K.hx K.hb d_T_isBarred_15 (by decide) (fun c_15 => ?_) (fun c_15 => ?_)
    · refine lv_iconst (v := 0) K.hx K.hb d_T_isBarred_22 (by decide) ?_
      exact ce_z K hP hS rfl ⟨by rw [show barZ v i = 0 from by simp [barZ, *]], rfl, rfl⟩ (Nat.le_of_ble_eq_true rfl) (Nat.le_of_ble_eq_true rfl) d_T_isBarred_23
    · refine lv_iconst (v := 1) K.hx K.hb d_T_isBarred_18 (by decide) ?_
      refine lv_goto (tgt := 23) K.hx K.hb d_T_isBarred_19 (by decide) ?_
      exact ce_z K hP hS rfl ⟨by rw [show barZ v i = 1 from by simp [barZ, *]], rfl, rfl⟩ (Nat.le_of_ble_eq_true rfl) (Nat.le_of_ble_eq_true rfl) d_T_isBarred_23
set_option maxHeartbeats 4000000 in
set_option maxRecDepth 100000 in
theorem c_T_unitsToBound (l : Launch) (D : va_G) (cs : Nat → ClassId) (ad : Nat → Nat) (v : Nat → Nat → Int32) (sd : Int64) {i : Nat} (hi : i < 8)  : Cm l y_T_unitsToBound b_T_unitsToBound 1 (some .int) (rmx 0 0) [.ref (ad (2 + i))] D cs ad v sd (fun r v' sd' => r = some (.int (if 0 < v (2 + i) 1 - v (2 + i) 2 then v (2 + i) 1 - v (2 + i) 2 else 0)) ∧ v = v' ∧ sd = sd') (fun cls => False) := by
  refine cw_enter (own := "WearHours$Thing") rfl (Nat.le_of_ble_eq_true rfl) ?_
  intro p e s m below meth c ls K hS hP hl
  have hl : lv_has ls 1 [(0, .ref (ad (2 + i)))] := hl
  refine lv_iconst (v := 0) K.hx K.hb d_T_unitsToBound_0 (by decide) ?_
  refine lv_aload_n K.hx K.hb d_T_unitsToBound_1 rfl (lv_at hl 0 rfl) ?_
  refine g_get K.1 hP (2 + i) (by have := hi; omega) (eT hi) rfl i_T 1 (by decide) rfl (Or.inl kw_55) rfl d_T_unitsToBound_2 ?_
  refine lv_aload_n K.hx K.hb d_T_unitsToBound_5 rfl (lv_at hl 0 rfl) ?_
  refine g_get K.1 hP (2 + i) (by have := hi; omega) (eT hi) rfl i_T 2 (by decide) rfl (Or.inl kw_56) rfl d_T_unitsToBound_6 ?_
  refine lv_isub K.hx K.hb d_T_unitsToBound_9 ?_
  refine va_mmax K.hx K.hb (K.1.1.2.2.1.trans hl.1.symm) K.1.1.2.2.2.1 (K.1.1.2.2.2.2 _ kw_484) (K.1.1.2.2.2.2 _ kw_274) (K.1.1.2.2.2.2 _ kw_37) (K.1.1.2.2.2.2 _ kw_275) (Nat.le_of_ble_eq_true rfl) (Nat.le_of_ble_eq_true rfl) (Nat.le_of_ble_eq_true rfl) (Nat.le_of_ble_eq_true rfl) d_T_unitsToBound_10 ?_
  exact ce_i K hP hS ⟨rfl, rfl, rfl⟩ (Nat.le_of_ble_eq_true rfl) (Nat.le_of_ble_eq_true rfl) d_T_unitsToBound_13
set_option maxHeartbeats 4000000 in
set_option maxRecDepth 100000 in
theorem c_T_wear (l : Launch) (D : va_G) (cs : Nat → ClassId) (ad : Nat → Nat) (v : Nat → Nat → Int32) (sd : Int64) {i : Nat} (hi : i < 8) (x : Int32)  : Cm l y_T_wear b_T_wear 2 none (rmx 1 0) [.ref (ad (2 + i)), .int x] D cs ad v sd (fun r v' sd' => r = none ∧ kp (u2 v (2 + i) 2 (v (2 + i) 2 + x)) i x = v' ∧ sd = sd') (fun cls => False) := by
  refine cw_enter (own := "WearHours$Thing") rfl (Nat.le_of_ble_eq_true rfl) ?_
  intro p e s m below meth c ls K hS hP hl
  have hl : lv_has ls 2 [(0, .ref (ad (2 + i))), (1, .int x)] := hl
  refine lv_aload_n K.hx K.hb d_T_wear_0 rfl (lv_at hl 0 rfl) ?_
  refine lv_dup K.hx K.hb d_T_wear_1 rfl ?_
  refine g_get K.1 hP (2 + i) (by have := hi; omega) (eT hi) rfl i_T 2 (by decide) rfl (Or.inl kw_56) rfl d_T_wear_2 ?_
  refine lv_iload_n K.hx K.hb d_T_wear_5 rfl (lv_at hl 1 rfl) ?_
  refine lv_iadd K.hx K.hb d_T_wear_6 ?_
  refine g_puti K.1 hP hS (2 + i) (by have := hi; omega) (eT hi) rfl i_T ft_T ft_T_ok n_T 2 (by decide) rfl (Or.inl kw_56) rfl rfl rfl (Nat.le_of_ble_eq_true rfl) (by rw [eT hi]; rfl) d_T_wear_7 (fun H l1 hP hS => ?_)
  refine lv_aload_n K.hx K.hb d_T_wear_10 rfl (lv_at hl 0 rfl) ?_
  refine lv_iload_n K.hx K.hb d_T_wear_11 rfl (lv_at hl 1 rfl) ?_
  refine cc_V K hP hS (c_T_keep l D cs ad _ _ hi x) kw_468 xm_T_keep kw_465 kw_467 kw_10 (g_recv K.1.2.1 hP (2 + i) (by have := hi; omega) (eT hi) rfl) rfl hl.1 d_T_wear_12 (Nat.le_of_ble_eq_true rfl) (Nat.le_of_ble_eq_true rfl) ⟨(Nat.le_of_ble_eq_true rfl), (Nat.le_of_ble_eq_true rfl)⟩ (fun r v1 sd1 H l1 hp hP hS => ?_)
  obtain ⟨rfl, rfl, rfl⟩ := hp
  exact ce_v K hP hS ⟨rfl, rfl, rfl⟩ (Nat.le_of_ble_eq_true rfl) (Nat.le_of_ble_eq_true rfl) d_T_wear_15
set_option maxHeartbeats 4000000 in
set_option maxRecDepth 100000 in
theorem c_T_mend (l : Launch) (D : va_G) (cs : Nat → ClassId) (ad : Nat → Nat) (v : Nat → Nat → Int32) (sd : Int64) {i : Nat} (hi : i < 8)  : Cm l y_T_mend b_T_mend 1 none (rmx 1 0) [.ref (ad (2 + i))] D cs ad v sd (fun r v' sd' => r = none ∧ kp (u2 v (2 + i) 2 0) i (-1) = v' ∧ sd = sd') (fun cls => False) := by
  refine cw_enter (own := "WearHours$Thing") rfl (Nat.le_of_ble_eq_true rfl) ?_
  intro p e s m below meth c ls K hS hP hl
  have hl : lv_has ls 1 [(0, .ref (ad (2 + i)))] := hl
  refine lv_aload_n K.hx K.hb d_T_mend_0 rfl (lv_at hl 0 rfl) ?_
  refine lv_iconst (v := 0) K.hx K.hb d_T_mend_1 (by decide) ?_
  refine g_puti K.1 hP hS (2 + i) (by have := hi; omega) (eT hi) rfl i_T ft_T ft_T_ok n_T 2 (by decide) rfl (Or.inl kw_56) rfl rfl rfl (Nat.le_of_ble_eq_true rfl) (by rw [eT hi]; rfl) d_T_mend_2 (fun H l1 hP hS => ?_)
  refine lv_aload_n K.hx K.hb d_T_mend_5 rfl (lv_at hl 0 rfl) ?_
  refine lv_iconst (v := (-1)) K.hx K.hb d_T_mend_6 (by decide) ?_
  refine cc_V K hP hS (c_T_keep l D cs ad _ _ hi (-1)) kw_468 xm_T_keep kw_465 kw_467 kw_10 (g_recv K.1.2.1 hP (2 + i) (by have := hi; omega) (eT hi) rfl) rfl hl.1 d_T_mend_7 (Nat.le_of_ble_eq_true rfl) (Nat.le_of_ble_eq_true rfl) ⟨(Nat.le_of_ble_eq_true rfl), (Nat.le_of_ble_eq_true rfl)⟩ (fun r v1 sd1 H l1 hp hP hS => ?_)
  obtain ⟨rfl, rfl, rfl⟩ := hp
  exact ce_v K hP hS ⟨rfl, rfl, rfl⟩ (Nat.le_of_ble_eq_true rfl) (Nat.le_of_ble_eq_true rfl) d_T_mend_10
set_option maxHeartbeats 4000000 in
set_option maxRecDepth 100000 in
theorem c_T_setPermit (l : Launch) (D : va_G) (cs : Nat → ClassId) (ad : Nat → Nat) (v : Nat → Nat → Int32) (sd : Int64) {i : Nat} (hi : i < 8) (x : Int32) (h_x : x = 0 ∨ x = 1) : Cm l y_T_setPermit b_T_setPermit 2 none (rmx 1 0) [.ref (ad (2 + i)), .int x] D cs ad v sd (fun r v' sd' => r = none ∧ kp (u2 v (2 + i) 3 x) i (if x = 0 then -2 else -3) = v' ∧ sd = sd') (fun cls => False) := by
  refine cw_enter (own := "WearHours$Thing") rfl (Nat.le_of_ble_eq_true rfl) ?_
  intro p e s m below meth c ls K hS hP hl
  have hl : lv_has ls 2 [(0, .ref (ad (2 + i))), (1, .int x)] := hl
  refine lv_aload_n K.hx K.hb d_T_setPermit_0 rfl (lv_at hl 0 rfl) ?_
  refine lv_iload_n K.hx K.hb d_T_setPermit_1 rfl (lv_at hl 1 rfl) ?_
  refine g_puti K.1 hP hS (2 + i) (by have := hi; omega) (eT hi) rfl i_T ft_T ft_T_ok n_T 3 (by decide) rfl (Or.inl kw_58) rfl (by rcases h_x with h | h <;> rw [h] <;> rfl) (by rcases h_x with h | h <;> rw [h] <;> rfl) (Nat.le_of_ble_eq_true rfl) (by rw [eT hi]; rfl) d_T_setPermit_2 (fun H l1 hP hS => ?_)
  refine lv_aload_n K.hx K.hb d_T_setPermit_5 rfl (lv_at hl 0 rfl) ?_
  refine lv_iload_n K.hx K.hb d_T_setPermit_6 rfl (lv_at hl 1 rfl) ?_
  refine lv_if_eq (tgt := 15) K.hx K.hb d_T_setPermit_7 (by decide) (fun c_7 => ?_) (fun c_7 => ?_)
  · refine lv_bipush (v := (-2)) K.hx K.hb d_T_setPermit_15 (by decide) ?_
    refine cc_V K hP hS (c_T_keep l D cs ad _ _ hi (-2)) kw_468 xm_T_keep kw_465 kw_467 kw_10 (g_recv K.1.2.1 hP (2 + i) (by have := hi; omega) (eT hi) rfl) rfl hl.1 d_T_setPermit_17 (Nat.le_of_ble_eq_true rfl) (Nat.le_of_ble_eq_true rfl) ⟨(Nat.le_of_ble_eq_true rfl), (Nat.le_of_ble_eq_true rfl)⟩ (fun r v1 sd1 H l1 hp hP hS => ?_)
    obtain ⟨rfl, rfl, rfl⟩ := hp
    exact ce_v K hP hS ⟨rfl, by simp [*], rfl⟩ (Nat.le_of_ble_eq_true rfl) (Nat.le_of_ble_eq_true rfl) d_T_setPermit_20
  · refine lv_bipush (v := (-3)) K.hx K.hb d_T_setPermit_10 (by decide) ?_
    refine lv_goto (tgt := 17) K.hx K.hb d_T_setPermit_12 (by decide) ?_
    refine cc_V K hP hS (c_T_keep l D cs ad _ _ hi (-3)) kw_468 xm_T_keep kw_465 kw_467 kw_10 (g_recv K.1.2.1 hP (2 + i) (by have := hi; omega) (eT hi) rfl) rfl hl.1 d_T_setPermit_17 (Nat.le_of_ble_eq_true rfl) (Nat.le_of_ble_eq_true rfl) ⟨(Nat.le_of_ble_eq_true rfl), (Nat.le_of_ble_eq_true rfl)⟩ (fun r v1 sd1 H l1 hp hP hS => ?_)
    obtain ⟨rfl, rfl, rfl⟩ := hp
    exact ce_v K hP hS ⟨rfl, by simp [*], rfl⟩ (Nat.le_of_ble_eq_true rfl) (Nat.le_of_ble_eq_true rfl) d_T_setPermit_20
theorem chg_ix {x : Int32} (h1 : ¬ x < 0) (h2 : ¬ 5 ≤ x) : ∃ j : Nat, j < 5 ∧ x = nI j := by
  obtain ⟨j, hj, rfl⟩ := nI_of h1
  refine ⟨j, ?_, rfl⟩
  by_cases h : j < 5
  · exact h
  · exact absurd (nI_le (a := 5) (b := j) (by omega) hj) h2
set_option maxHeartbeats 4000000 in
set_option maxRecDepth 100000 in
theorem c_T_change (l : Launch) (D : va_G) (cs : Nat → ClassId) (ad : Nat → Nat) (v : Nat → Nat → Int32) (sd : Int64) {i : Nat} (hi : i < 8) (x : Int32)  : Cm l y_T_change b_T_change 2 (some .int) (rmx 0 0) [.ref (ad (2 + i)), .int x] D cs ad v sd (fun r v' sd' => r = some (.int (if x < 0 then 0 else if 5 ≤ x then 0 else v (10 + i) x.toNatClampNeg)) ∧ v = v' ∧ sd = sd') (fun cls => False) := by
  refine cw_enter (own := "WearHours$Thing") rfl (Nat.le_of_ble_eq_true rfl) ?_
  intro p e s m below meth c ls K hS hP hl
  have hl : lv_has ls 2 [(0, .ref (ad (2 + i))), (1, .int x)] := hl
  refine lv_iload_n K.hx K.hb d_T_change_0 rfl (lv_at hl 1 rfl) ?_
  refine lv_if_lt (tgt := 18) K.hx K.hb d_T_change_1 (by decide) (fun c_1 => ?_) (fun c_1 => ?_)
  · refine lv_iconst (v := 0) K.hx K.hb d_T_change_18 (by decide) ?_
    exact ce_i K hP hS ⟨by simp [*], rfl, rfl⟩ (Nat.le_of_ble_eq_true rfl) (Nat.le_of_ble_eq_true rfl) d_T_change_19
  · refine lv_iload_n K.hx K.hb d_T_change_4 rfl (lv_at hl 1 rfl) ?_
    refine lv_iconst (v := 5) K.hx K.hb d_T_change_5 (by decide) ?_
    refine lv_icmp_ge (tgt := 18) K.hx K.hb d_T_change_6 (by decide) (fun c_6 => ?_) (fun c_6 => ?_)
    · refine lv_iconst (v := 0) K.hx K.hb d_T_change_18 (by decide) ?_
      exact ce_i K hP hS ⟨by simp [*], rfl, rfl⟩ (Nat.le_of_ble_eq_true rfl) (Nat.le_of_ble_eq_true rfl) d_T_change_19
    · obtain ⟨j, hj, rfl⟩ : ∃ j : Nat, j < 5 ∧ x = nI j := chg_ix ‹_› ‹_›
      refine lv_aload_n K.hx K.hb d_T_change_9 rfl (lv_at hl 0 rfl) ?_
      refine g_get K.1 hP (2 + i) (by have := hi; omega) (eT hi) rfl i_T 4 (by decide) rfl (Or.inl kw_60) rfl d_T_change_10 ?_
      refine lv_iload_n K.hx K.hb d_T_change_13 rfl (lv_at hl 1 rfl) ?_
      refine g_iald K.1 hP (10 + i) (by have := hi; omega) (eH hi) 0 rfl (j) rfl (by have := hj; omega) (by decide) d_T_change_14 ?_
      refine lv_goto (tgt := 19) K.hx K.hb d_T_change_15 (by decide) ?_
      exact ce_i K hP hS ⟨by simp only [nI_clamp (show j < 2 ^ 31 by omega), if_neg c_1, if_neg c_6], rfl, rfl⟩ (Nat.le_of_ble_eq_true rfl) (Nat.le_of_ble_eq_true rfl) d_T_change_19
