/-! the reference's methods -/
def gz (a b c : Int32) : Int32 := if a = 0 then 1 else if b = 0 then 2 else if c = 0 then 3 else 0
def kpM (v : Nat → Nat → Int32) (t : Nat) (x : Int32) : Nat → Nat → Int32 := fun k j => if k = 5 ∧ 5 * t ≤ j ∧ j < 5 * t + 5 then (if j = 5 * t then x else v 5 (j - 1)) else v k j
theorem kpM_eq (v : Nat → Nat → Int32) (t : Nat) (x : Int32) : u2 (u2 (u2 (u2 (u2 v 5 (5 * t + 4) (v 5 (5 * t + 3))) 5 (5 * t + 3) (v 5 (5 * t + 2))) 5 (5 * t + 2) (v 5 (5 * t + 1))) 5 (5 * t + 1) (v 5 (5 * t + 0))) 5 (5 * t) x = kpM v t x := by
  funext k j
  simp only [u2_at, kpM]
  by_cases h1 : k = 5
  · subst h1
    by_cases h2 : 5 * t ≤ j ∧ j < 5 * t + 5
    · rw [if_pos (show (5 : Nat) = 5 ∧ 5 * t ≤ j ∧ j < 5 * t + 5 from ⟨rfl, h2⟩)]
      rcases (show j = 5 * t ∨ j = 5 * t + 1 ∨ j = 5 * t + 2 ∨ j = 5 * t + 3 ∨ j = 5 * t + 4 by omega) with rfl | rfl | rfl | rfl | rfl
      · simp
      · simp
      · simp
      · simp
      · simp
    · rw [if_neg (show ¬ ((5 : Nat) = 5 ∧ 5 * t ≤ j ∧ j < 5 * t + 5) from fun q => h2 q.2)]
      rw [if_neg (by omega), if_neg (by omega), if_neg (by omega), if_neg (by omega), if_neg (by omega)]
  · simp [h1]
theorem wth_nar (x a b : Int32) : narrow .boolean (.int (wthZ x a b)) = .int (wthZ x a b) := by
  unfold wthZ
  split
  · rfl
  · split
    · rfl
    · rfl
def barM (v : Nat → Nat → Int32) (i : Nat) : Int32 := if v 4 i = 0 then (if v 3 i < v 2 i then 0 else 1) else 1
set_option maxHeartbeats 4000000 in
set_option maxRecDepth 100000 in
theorem c_M_thrown (l : Launch) (D : va_G) (cs : Nat → ClassId) (ad : Nat → Nat) (v : Nat → Nat → Int32) (sd : Int64)   : Dm l y_M_thrown b_M_thrown 1 (some .int) (rmx 0 0) [.ref (ad 0)] D cs ad v sd (fun r v' sd' => r = some (.int (v 0 0)) ∧ v = v' ∧ sd = sd') (fun cls => False) := by
  refine dw_enter (own := "WearHoursModel") rfl (Nat.le_of_ble_eq_true rfl) ?_
  intro p e s m below meth c ls K hS hP hl
  have hl : lv_has ls 1 [(0, .ref (ad 0))] := hl
  refine lv_aload_n K.hx K.hb d_M_thrown_0 rfl (lv_at hl 0 rfl) ?_
  refine g_get K.1 hP (0) (by decide) rfl rfl i_M 0 (by decide) rfl (Or.inl kw_634) rfl d_M_thrown_1 ?_
  exact de_i K hP hS ⟨rfl, rfl, rfl⟩ (Nat.le_of_ble_eq_true rfl) (Nat.le_of_ble_eq_true rfl) d_M_thrown_4
set_option maxHeartbeats 4000000 in
set_option maxRecDepth 100000 in
theorem c_M_in (l : Launch) (D : va_G) (cs : Nat → ClassId) (ad : Nat → Nat) (v : Nat → Nat → Int32) (sd : Int64) (x a b : Int32)  : Dm l y_M_in b_M_in 3 (some .boolean) (rmx 0 0) [.int x, .int a, .int b] D cs ad v sd (fun r v' sd' => r = some (.int (wthZ x a b)) ∧ v = v' ∧ sd = sd') (fun cls => False) := by
  refine dw_enter (own := "WearHoursModel") rfl (Nat.le_of_ble_eq_true rfl) ?_
  intro p e s m below meth c ls K hS hP hl
  have hl : lv_has ls 3 [(0, .int x), (1, .int a), (2, .int b)] := hl
  refine lv_iload_n K.hx K.hb d_M_in_0 rfl (lv_at hl 0 rfl) ?_
  refine lv_iload_n K.hx K.hb d_M_in_1 rfl (lv_at hl 1 rfl) ?_
  refine lv_icmp_lt (tgt := 14) K.hx K.hb d_M_in_2 (by decide) (fun c_2 => ?_) (fun c_2 => ?_)
  · refine lv_iconst (v := 0) K.hx K.hb d_M_in_14 (by decide) ?_
    exact de_z K hP hS rfl ⟨by rw [show wthZ x a b = 0 from by simp [wthZ, *]], rfl, rfl⟩ (Nat.le_of_ble_eq_true rfl) (Nat.le_of_ble_eq_true rfl) d_M_in_15
  · refine lv_iload_n K.hx K.hb d_M_in_5 rfl (lv_at hl 0 rfl) ?_
    refine lv_iload_n K.hx K.hb d_M_in_6 rfl (lv_at hl 2 rfl) ?_
    refine lv_icmp_gt (tgt := 14) K.hx K.hb d_M_in_7 (by decide) (fun c_7 => ?_) (fun c_7 => ?_)
    · refine lv_iconst (v := 0) K.hx K.hb d_M_in_14 (by decide) ?_
      exact de_z K hP hS rfl ⟨by rw [show wthZ x a b = 0 from by simp [wthZ, *]], rfl, rfl⟩ (Nat.le_of_ble_eq_true rfl) (Nat.le_of_ble_eq_true rfl) d_M_in_15
    · refine lv_iconst (v := 1) K.hx K.hb d_M_in_10 (by decide) ?_
      refine lv_goto (tgt := 15) K.hx K.hb d_M_in_11 (by decide) ?_
      exact de_z K hP hS rfl ⟨by rw [show wthZ x a b = 1 from by simp [wthZ, *]], rfl, rfl⟩ (Nat.le_of_ble_eq_true rfl) (Nat.le_of_ble_eq_true rfl) d_M_in_15
set_option maxHeartbeats 4000000 in
set_option maxRecDepth 100000 in
theorem c_M_goes (l : Launch) (D : va_G) (cs : Nat → ClassId) (ad : Nat → Nat) (v : Nat → Nat → Int32) (sd : Int64) (a b q : Int32)  : Dm l y_M_goes b_M_goes 4 (some .boolean) (rmx 0 0) [.ref (ad 0), .int a, .int b, .int q] D cs ad v sd (fun r v' sd' => r = some (.int (if gz a b q = 0 then 1 else 0)) ∧ u2 v 0 0 (gz a b q) = v' ∧ sd = sd') (fun cls => False) := by
  refine dw_enter (own := "WearHoursModel") rfl (Nat.le_of_ble_eq_true rfl) ?_
  intro p e s m below meth c ls K hS hP hl
  have hl : lv_has ls 4 [(0, .ref (ad 0)), (1, .int a), (2, .int b), (3, .int q)] := hl
  refine lv_aload_n K.hx K.hb d_M_goes_0 rfl (lv_at hl 0 rfl) ?_
  refine lv_iload_n K.hx K.hb d_M_goes_1 rfl (lv_at hl 1 rfl) ?_
  refine lv_if_ne (tgt := 9) K.hx K.hb d_M_goes_2 (by decide) (fun c_2 => ?_) (fun c_2 => ?_)
  · refine lv_iload_n K.hx K.hb d_M_goes_9 rfl (lv_at hl 2 rfl) ?_
    refine lv_if_ne (tgt := 17) K.hx K.hb d_M_goes_10 (by decide) (fun c_10 => ?_) (fun c_10 => ?_)
    · refine lv_iload_n K.hx K.hb d_M_goes_17 rfl (lv_at hl 3 rfl) ?_
      refine lv_if_ne (tgt := 25) K.hx K.hb d_M_goes_18 (by decide) (fun c_18 => ?_) (fun c_18 => ?_)
      · refine lv_iconst (v := 0) K.hx K.hb d_M_goes_25 (by decide) ?_
        refine g_puti K.1 hP hS (0) (by decide) rfl rfl i_M ft_M ft_M_ok n_M 0 (by decide) rfl (Or.inl kw_634) rfl rfl rfl (Nat.le_of_ble_eq_true rfl) rfl d_M_goes_26 (fun H l1 hP hS => ?_)
        refine lv_aload_n K.hx K.hb d_M_goes_29 rfl (lv_at hl 0 rfl) ?_
        refine g_get K.1 hP (0) (by decide) rfl rfl i_M 0 (by decide) rfl (Or.inl kw_634) rfl d_M_goes_30 ?_
        refine lv_topE (y := 0) (by first | (simp [u2_at, kpM]; done) | (simp [u2_at, kpM] <;> (intros; omega)) | (simp only [u2_at, kpM]; (repeat' split) <;> first | rfl | (exfalso; omega))) ?_
        refine lv_if_ne (tgt := 40) K.hx K.hb d_M_goes_33 (by decide) (fun c_33 => (show False from by revert c_33; decide).elim) (fun _ => ?_)
        refine lv_iconst (v := 1) K.hx K.hb d_M_goes_36 (by decide) ?_
        refine lv_goto (tgt := 41) K.hx K.hb d_M_goes_37 (by decide) ?_
        exact de_z K hP hS rfl ⟨by rw [show gz a b q = 0 from by simp [gz, *]]; rfl, by rw [show gz a b q = 0 from by simp [gz, *]], rfl⟩ (Nat.le_of_ble_eq_true rfl) (Nat.le_of_ble_eq_true rfl) d_M_goes_41
      · refine lv_iconst (v := 3) K.hx K.hb d_M_goes_21 (by decide) ?_
        refine lv_goto (tgt := 26) K.hx K.hb d_M_goes_22 (by decide) ?_
        refine g_puti K.1 hP hS (0) (by decide) rfl rfl i_M ft_M ft_M_ok n_M 0 (by decide) rfl (Or.inl kw_634) rfl rfl rfl (Nat.le_of_ble_eq_true rfl) rfl d_M_goes_26 (fun H l1 hP hS => ?_)
        refine lv_aload_n K.hx K.hb d_M_goes_29 rfl (lv_at hl 0 rfl) ?_
        refine g_get K.1 hP (0) (by decide) rfl rfl i_M 0 (by decide) rfl (Or.inl kw_634) rfl d_M_goes_30 ?_
        refine lv_topE (y := 3) (by first | (simp [u2_at, kpM]; done) | (simp [u2_at, kpM] <;> (intros; omega)) | (simp only [u2_at, kpM]; (repeat' split) <;> first | rfl | (exfalso; omega))) ?_
        refine lv_if_ne (tgt := 40) K.hx K.hb d_M_goes_33 (by decide) (fun _ => ?_) (fun c_33 => (show False from by revert c_33; decide).elim)
        refine lv_iconst (v := 0) K.hx K.hb d_M_goes_40 (by decide) ?_
        exact de_z K hP hS rfl ⟨by rw [show gz a b q = 3 from by simp [gz, *]]; rfl, by rw [show gz a b q = 3 from by simp [gz, *]], rfl⟩ (Nat.le_of_ble_eq_true rfl) (Nat.le_of_ble_eq_true rfl) d_M_goes_41
    · refine lv_iconst (v := 2) K.hx K.hb d_M_goes_13 (by decide) ?_
      refine lv_goto (tgt := 26) K.hx K.hb d_M_goes_14 (by decide) ?_
      refine g_puti K.1 hP hS (0) (by decide) rfl rfl i_M ft_M ft_M_ok n_M 0 (by decide) rfl (Or.inl kw_634) rfl rfl rfl (Nat.le_of_ble_eq_true rfl) rfl d_M_goes_26 (fun H l1 hP hS => ?_)
      refine lv_aload_n K.hx K.hb d_M_goes_29 rfl (lv_at hl 0 rfl) ?_
      refine g_get K.1 hP (0) (by decide) rfl rfl i_M 0 (by decide) rfl (Or.inl kw_634) rfl d_M_goes_30 ?_
      refine lv_topE (y := 2) (by first | (simp [u2_at, kpM]; done) | (simp [u2_at, kpM] <;> (intros; omega)) | (simp only [u2_at, kpM]; (repeat' split) <;> first | rfl | (exfalso; omega))) ?_
      refine lv_if_ne (tgt := 40) K.hx K.hb d_M_goes_33 (by decide) (fun _ => ?_) (fun c_33 => (show False from by revert c_33; decide).elim)
      refine lv_iconst (v := 0) K.hx K.hb d_M_goes_40 (by decide) ?_
      exact de_z K hP hS rfl ⟨by rw [show gz a b q = 2 from by simp [gz, *]]; rfl, by rw [show gz a b q = 2 from by simp [gz, *]], rfl⟩ (Nat.le_of_ble_eq_true rfl) (Nat.le_of_ble_eq_true rfl) d_M_goes_41
  · refine lv_iconst (v := 1) K.hx K.hb d_M_goes_5 (by decide) ?_
    refine lv_goto (tgt := 26) K.hx K.hb d_M_goes_6 (by decide) ?_
    refine g_puti K.1 hP hS (0) (by decide) rfl rfl i_M ft_M ft_M_ok n_M 0 (by decide) rfl (Or.inl kw_634) rfl rfl rfl (Nat.le_of_ble_eq_true rfl) rfl d_M_goes_26 (fun H l1 hP hS => ?_)
    refine lv_aload_n K.hx K.hb d_M_goes_29 rfl (lv_at hl 0 rfl) ?_
    refine g_get K.1 hP (0) (by decide) rfl rfl i_M 0 (by decide) rfl (Or.inl kw_634) rfl d_M_goes_30 ?_
    refine lv_topE (y := 1) (by first | (simp [u2_at, kpM]; done) | (simp [u2_at, kpM] <;> (intros; omega)) | (simp only [u2_at, kpM]; (repeat' split) <;> first | rfl | (exfalso; omega))) ?_
    refine lv_if_ne (tgt := 40) K.hx K.hb d_M_goes_33 (by decide) (fun _ => ?_) (fun c_33 => (show False from by revert c_33; decide).elim)
    refine lv_iconst (v := 0) K.hx K.hb d_M_goes_40 (by decide) ?_
    exact de_z K hP hS rfl ⟨by rw [show gz a b q = 1 from by simp [gz, *]]; rfl, by rw [show gz a b q = 1 from by simp [gz, *]], rfl⟩ (Nat.le_of_ble_eq_true rfl) (Nat.le_of_ble_eq_true rfl) d_M_goes_41
set_option maxHeartbeats 4000000 in
set_option maxRecDepth 100000 in
theorem c_M_isThing (l : Launch) (D : va_G) (cs : Nat → ClassId) (ad : Nat → Nat) (v : Nat → Nat → Int32) (sd : Int64) {tc : Nat} (htc : v 0 2 = nI tc) (ht8 : tc ≤ 8) (x : Int32)  : Dm l y_M_isThing b_M_isThing 2 (some .boolean) (rmx 1 0) [.ref (ad 0), .int x] D cs ad v sd (fun r v' sd' => r = some (.int (wthZ x 0 (nI tc - 1))) ∧ v = v' ∧ sd = sd') (fun cls => False) := by
  refine dw_enter (own := "WearHoursModel") rfl (Nat.le_of_ble_eq_true rfl) ?_
  intro p e s m below meth c ls K hS hP hl
  have hl : lv_has ls 2 [(0, .ref (ad 0)), (1, .int x)] := hl
  refine lv_iload_n K.hx K.hb d_M_isThing_0 rfl (lv_at hl 1 rfl) ?_
  refine lv_iconst (v := 0) K.hx K.hb d_M_isThing_1 (by decide) ?_
  refine lv_aload_n K.hx K.hb d_M_isThing_2 rfl (lv_at hl 0 rfl) ?_
  refine g_get K.1 hP (0) (by decide) rfl rfl i_M 2 (by decide) rfl (Or.inl kw_636) rfl d_M_isThing_3 ?_
  refine lv_topE (y := nI tc) htc ?_
  refine lv_iconst (v := 1) K.hx K.hb d_M_isThing_6 (by decide) ?_
  refine lv_isub K.hx K.hb d_M_isThing_7 ?_
  refine dd_S K hP hS (c_M_in l D cs ad _ _ x 0 ((nI tc) - 1)) kw_747 xm_M_in kw_745 kw_746 kw_29 rfl hl.1 d_M_isThing_8 (Nat.le_of_ble_eq_true rfl) (Nat.le_of_ble_eq_true rfl) ⟨(Nat.le_of_ble_eq_true rfl), (Nat.le_of_ble_eq_true rfl)⟩ (fun r v1 sd1 H l1 hp hP hS => ?_)
  obtain ⟨rfl, rfl, rfl⟩ := hp
  exact de_z K hP hS (wth_nar _ _ _) ⟨rfl, rfl, rfl⟩ (Nat.le_of_ble_eq_true rfl) (Nat.le_of_ble_eq_true rfl) d_M_isThing_11
set_option maxHeartbeats 4000000 in
set_option maxRecDepth 100000 in
theorem c_M_seed (l : Launch) (D : va_G) (cs : Nat → ClassId) (ad : Nat → Nat) (v : Nat → Nat → Int32) (sd : Int64) (x : Int64)  : Dm l y_M_seed b_M_seed 3 none (rmx 0 0) [.ref (ad 0), .long x] D cs ad v sd (fun r v' sd' => r = none ∧ u2 v 0 0 0 = v' ∧ x = sd') (fun cls => False) := by
  refine dw_enter (own := "WearHoursModel") rfl (Nat.le_of_ble_eq_true rfl) ?_
  intro p e s m below meth c ls K hS hP hl
  have hl : lv_has ls 3 [(0, .ref (ad 0)), (1, .long x)] := hl
  refine lv_aload_n K.hx K.hb d_M_seed_0 rfl (lv_at hl 0 rfl) ?_
  refine lv_iconst (v := 0) K.hx K.hb d_M_seed_1 (by decide) ?_
  refine g_puti K.1 hP hS (0) (by decide) rfl rfl i_M ft_M ft_M_ok n_M 0 (by decide) rfl (Or.inl kw_634) rfl rfl rfl (Nat.le_of_ble_eq_true rfl) rfl d_M_seed_2 (fun H l1 hP hS => ?_)
  refine lv_aload_n K.hx K.hb d_M_seed_5 rfl (lv_at hl 0 rfl) ?_
  refine lv_lload_n K.hx K.hb d_M_seed_6 rfl (lv_at hl 1 rfl) ?_
  refine g_put (E' := eM cs ad x) (v' := (u2 v 0 0 0)) K.1 hP hS (0) (by decide) rfl rfl i_M ft_M ft_M_ok n_M 1 (by decide) rfl (Or.inl kw_635) rfl rfl rfl (Nat.le_of_ble_eq_true rfl) rfl (fun k hk => by unfold eM; simp only [if_neg hk]) d_M_seed_7 (fun H l1 hP hS => ?_)
  exact de_v K hP hS ⟨rfl, rfl, rfl⟩ (Nat.le_of_ble_eq_true rfl) (Nat.le_of_ble_eq_true rfl) d_M_seed_10
set_option maxHeartbeats 4000000 in
set_option maxRecDepth 100000 in
theorem c_M_keep (l : Launch) (D : va_G) (cs : Nat → ClassId) (ad : Nat → Nat) (v : Nat → Nat → Int32) (sd : Int64) {t : Nat} (ht : t < 8) (x : Int32)  : Dm l y_M_keep b_M_keep 4 none (rmx 0 0) [.ref (ad 0), .int (nI t), .int x] D cs ad v sd (fun r v' sd' => r = none ∧ kpM v t x = v' ∧ sd = sd') (fun cls => False) := by
  refine dw_enter (own := "WearHoursModel") rfl (Nat.le_of_ble_eq_true rfl) ?_
  intro p e s m below meth c ls K hS hP hl
  have hl : lv_has ls 4 [(0, .ref (ad 0)), (1, .int (nI t)), (2, .int x)] := hl
  refine lv_iconst (v := 4) K.hx K.hb d_M_keep_0 (by decide) ?_
  refine lv_istore_n (lv' := [(3, .int 4), (0, .ref (ad 0)), (1, .int (nI t)), (2, .int x)]) K.hx K.hb d_M_keep_1 rfl hl (by decide) rfl (fun ls hl => ?_)
  refine lv_iload_n K.hx K.hb d_M_keep_2 rfl (lv_at hl 0 rfl) ?_
  refine lv_if_le (tgt := 34) K.hx K.hb d_M_keep_3 (by decide) (fun c_3 => (show False from by revert c_3; decide).elim) (fun _ => ?_)
  refine lv_aload_n K.hx K.hb d_M_keep_6 rfl (lv_at hl 1 rfl) ?_
  refine g_get K.1 hP (0) (by decide) rfl rfl i_M 7 (by decide) rfl (Or.inl kw_641) rfl d_M_keep_7 ?_
  refine lv_iconst (v := 5) K.hx K.hb d_M_keep_10 (by decide) ?_
  refine lv_iload_n K.hx K.hb d_M_keep_11 rfl (lv_at hl 2 rfl) ?_
  refine lv_imul K.hx K.hb d_M_keep_12 ?_
  refine lv_topE (y := nI (5 * t)) (pk_mul _ _) ?_
  refine lv_iload_n K.hx K.hb d_M_keep_13 rfl (lv_at hl 0 rfl) ?_
  refine lv_iadd K.hx K.hb d_M_keep_14 ?_
  refine lv_topE (y := nI (5 * t + 4)) (nI_add _ _) ?_
  refine lv_aload_n K.hx K.hb d_M_keep_15 rfl (lv_at hl 1 rfl) ?_
  refine g_get K.1 hP (0) (by decide) rfl rfl i_M 7 (by decide) rfl (Or.inl kw_641) rfl d_M_keep_16 ?_
  refine lv_iconst (v := 5) K.hx K.hb d_M_keep_19 (by decide) ?_
  refine lv_iload_n K.hx K.hb d_M_keep_20 rfl (lv_at hl 2 rfl) ?_
  refine lv_imul K.hx K.hb d_M_keep_21 ?_
  refine lv_topE (y := nI (5 * t)) (pk_mul _ _) ?_
  refine lv_iload_n K.hx K.hb d_M_keep_22 rfl (lv_at hl 0 rfl) ?_
  refine lv_iadd K.hx K.hb d_M_keep_23 ?_
  refine lv_topE (y := nI (5 * t + 4)) (nI_add _ _) ?_
  refine lv_iconst (v := 1) K.hx K.hb d_M_keep_24 (by decide) ?_
  refine lv_isub K.hx K.hb d_M_keep_25 ?_
  refine lv_topE (y := nI (5 * t + 3)) (nI_pred _) ?_
  refine g_iald K.1 hP (5) (by decide) rfl 0 rfl (5 * t + 3) rfl (by omega) (by decide) d_M_keep_26 ?_
  refine g_iast K.1 hP hS (5) (by decide) (fun _ => rfl) 0 rfl (5 * t + 4) rfl (by omega) (by decide) d_M_keep_27 (fun H l1 hP hS => ?_)
  refine lv_iinc (v := 3) (lv' := [(3, .int 3), (0, .ref (ad 0)), (1, .int (nI t)), (2, .int x)]) K.hx K.hb d_M_keep_28 hl (k := 0) rfl (by decide) (by decide) rfl (fun ls hl => ?_)
  refine lv_goto (tgt := 2) K.hx K.hb d_M_keep_31 (by decide) ?_
  refine lv_iload_n K.hx K.hb d_M_keep_2 rfl (lv_at hl 0 rfl) ?_
  refine lv_if_le (tgt := 34) K.hx K.hb d_M_keep_3 (by decide) (fun c_3_1 => (show False from by revert c_3_1; decide).elim) (fun _ => ?_)
  refine lv_aload_n K.hx K.hb d_M_keep_6 rfl (lv_at hl 1 rfl) ?_
  refine g_get K.1 hP (0) (by decide) rfl rfl i_M 7 (by decide) rfl (Or.inl kw_641) rfl d_M_keep_7 ?_
  refine lv_iconst (v := 5) K.hx K.hb d_M_keep_10 (by decide) ?_
  refine lv_iload_n K.hx K.hb d_M_keep_11 rfl (lv_at hl 2 rfl) ?_
  refine lv_imul K.hx K.hb d_M_keep_12 ?_
  refine lv_topE (y := nI (5 * t)) (pk_mul _ _) ?_
  refine lv_iload_n K.hx K.hb d_M_keep_13 rfl (lv_at hl 0 rfl) ?_
  refine lv_iadd K.hx K.hb d_M_keep_14 ?_
  refine lv_topE (y := nI (5 * t + 3)) (nI_add _ _) ?_
  refine lv_aload_n K.hx K.hb d_M_keep_15 rfl (lv_at hl 1 rfl) ?_
  refine g_get K.1 hP (0) (by decide) rfl rfl i_M 7 (by decide) rfl (Or.inl kw_641) rfl d_M_keep_16 ?_
  refine lv_iconst (v := 5) K.hx K.hb d_M_keep_19 (by decide) ?_
  refine lv_iload_n K.hx K.hb d_M_keep_20 rfl (lv_at hl 2 rfl) ?_
  refine lv_imul K.hx K.hb d_M_keep_21 ?_
  refine lv_topE (y := nI (5 * t)) (pk_mul _ _) ?_
  refine lv_iload_n K.hx K.hb d_M_keep_22 rfl (lv_at hl 0 rfl) ?_
  refine lv_iadd K.hx K.hb d_M_keep_23 ?_
  refine lv_topE (y := nI (5 * t + 3)) (nI_add _ _) ?_
  refine lv_iconst (v := 1) K.hx K.hb d_M_keep_24 (by decide) ?_
  refine lv_isub K.hx K.hb d_M_keep_25 ?_
  refine lv_topE (y := nI (5 * t + 2)) (nI_pred _) ?_
  refine g_iald K.1 hP (5) (by decide) rfl 0 rfl (5 * t + 2) rfl (by omega) (by decide) d_M_keep_26 ?_
  refine lv_topE (y := (v 5 (5 * t + 2))) (by first | (simp [u2_at, kpM]; done) | (simp [u2_at, kpM] <;> (intros; omega)) | (simp only [u2_at, kpM]; (repeat' split) <;> first | rfl | (exfalso; omega))) ?_
  refine g_iast K.1 hP hS (5) (by decide) (fun _ => rfl) 0 rfl (5 * t + 3) rfl (by omega) (by decide) d_M_keep_27 (fun H l1 hP hS => ?_)
  refine lv_iinc (v := 2) (lv' := [(3, .int 2), (0, .ref (ad 0)), (1, .int (nI t)), (2, .int x)]) K.hx K.hb d_M_keep_28 hl (k := 0) rfl (by decide) (by decide) rfl (fun ls hl => ?_)
  refine lv_goto (tgt := 2) K.hx K.hb d_M_keep_31 (by decide) ?_
  refine lv_iload_n K.hx K.hb d_M_keep_2 rfl (lv_at hl 0 rfl) ?_
  refine lv_if_le (tgt := 34) K.hx K.hb d_M_keep_3 (by decide) (fun c_3_2 => (show False from by revert c_3_2; decide).elim) (fun _ => ?_)
  refine lv_aload_n K.hx K.hb d_M_keep_6 rfl (lv_at hl 1 rfl) ?_
  refine g_get K.1 hP (0) (by decide) rfl rfl i_M 7 (by decide) rfl (Or.inl kw_641) rfl d_M_keep_7 ?_
  refine lv_iconst (v := 5) K.hx K.hb d_M_keep_10 (by decide) ?_
  refine lv_iload_n K.hx K.hb d_M_keep_11 rfl (lv_at hl 2 rfl) ?_
  refine lv_imul K.hx K.hb d_M_keep_12 ?_
  refine lv_topE (y := nI (5 * t)) (pk_mul _ _) ?_
  refine lv_iload_n K.hx K.hb d_M_keep_13 rfl (lv_at hl 0 rfl) ?_
  refine lv_iadd K.hx K.hb d_M_keep_14 ?_
  refine lv_topE (y := nI (5 * t + 2)) (nI_add _ _) ?_
  refine lv_aload_n K.hx K.hb d_M_keep_15 rfl (lv_at hl 1 rfl) ?_
  refine g_get K.1 hP (0) (by decide) rfl rfl i_M 7 (by decide) rfl (Or.inl kw_641) rfl d_M_keep_16 ?_
  refine lv_iconst (v := 5) K.hx K.hb d_M_keep_19 (by decide) ?_
  refine lv_iload_n K.hx K.hb d_M_keep_20 rfl (lv_at hl 2 rfl) ?_
  refine lv_imul K.hx K.hb d_M_keep_21 ?_
  refine lv_topE (y := nI (5 * t)) (pk_mul _ _) ?_
  refine lv_iload_n K.hx K.hb d_M_keep_22 rfl (lv_at hl 0 rfl) ?_
  refine lv_iadd K.hx K.hb d_M_keep_23 ?_
  refine lv_topE (y := nI (5 * t + 2)) (nI_add _ _) ?_
  refine lv_iconst (v := 1) K.hx K.hb d_M_keep_24 (by decide) ?_
  refine lv_isub K.hx K.hb d_M_keep_25 ?_
  refine lv_topE (y := nI (5 * t + 1)) (nI_pred _) ?_
  refine g_iald K.1 hP (5) (by decide) rfl 0 rfl (5 * t + 1) rfl (by omega) (by decide) d_M_keep_26 ?_
  refine lv_topE (y := (v 5 (5 * t + 1))) (by first | (simp [u2_at, kpM]; done) | (simp [u2_at, kpM] <;> (intros; omega)) | (simp only [u2_at, kpM]; (repeat' split) <;> first | rfl | (exfalso; omega))) ?_
  refine g_iast K.1 hP hS (5) (by decide) (fun _ => rfl) 0 rfl (5 * t + 2) rfl (by omega) (by decide) d_M_keep_27 (fun H l1 hP hS => ?_)
  refine lv_iinc (v := 1) (lv' := [(3, .int 1), (0, .ref (ad 0)), (1, .int (nI t)), (2, .int x)]) K.hx K.hb d_M_keep_28 hl (k := 0) rfl (by decide) (by decide) rfl (fun ls hl => ?_)
  refine lv_goto (tgt := 2) K.hx K.hb d_M_keep_31 (by decide) ?_
  refine lv_iload_n K.hx K.hb d_M_keep_2 rfl (lv_at hl 0 rfl) ?_
  refine lv_if_le (tgt := 34) K.hx K.hb d_M_keep_3 (by decide) (fun c_3_3 => (show False from by revert c_3_3; decide).elim) (fun _ => ?_)
  refine lv_aload_n K.hx K.hb d_M_keep_6 rfl (lv_at hl 1 rfl) ?_
  refine g_get K.1 hP (0) (by decide) rfl rfl i_M 7 (by decide) rfl (Or.inl kw_641) rfl d_M_keep_7 ?_
  refine lv_iconst (v := 5) K.hx K.hb d_M_keep_10 (by decide) ?_
  refine lv_iload_n K.hx K.hb d_M_keep_11 rfl (lv_at hl 2 rfl) ?_
  refine lv_imul K.hx K.hb d_M_keep_12 ?_
  refine lv_topE (y := nI (5 * t)) (pk_mul _ _) ?_
  refine lv_iload_n K.hx K.hb d_M_keep_13 rfl (lv_at hl 0 rfl) ?_
  refine lv_iadd K.hx K.hb d_M_keep_14 ?_
  refine lv_topE (y := nI (5 * t + 1)) (nI_add _ _) ?_
  refine lv_aload_n K.hx K.hb d_M_keep_15 rfl (lv_at hl 1 rfl) ?_
  refine g_get K.1 hP (0) (by decide) rfl rfl i_M 7 (by decide) rfl (Or.inl kw_641) rfl d_M_keep_16 ?_
  refine lv_iconst (v := 5) K.hx K.hb d_M_keep_19 (by decide) ?_
  refine lv_iload_n K.hx K.hb d_M_keep_20 rfl (lv_at hl 2 rfl) ?_
  refine lv_imul K.hx K.hb d_M_keep_21 ?_
  refine lv_topE (y := nI (5 * t)) (pk_mul _ _) ?_
  refine lv_iload_n K.hx K.hb d_M_keep_22 rfl (lv_at hl 0 rfl) ?_
  refine lv_iadd K.hx K.hb d_M_keep_23 ?_
  refine lv_topE (y := nI (5 * t + 1)) (nI_add _ _) ?_
  refine lv_iconst (v := 1) K.hx K.hb d_M_keep_24 (by decide) ?_
  refine lv_isub K.hx K.hb d_M_keep_25 ?_
  refine lv_topE (y := nI (5 * t + 0)) (nI_pred _) ?_
  refine g_iald K.1 hP (5) (by decide) rfl 0 rfl (5 * t + 0) rfl (by omega) (by decide) d_M_keep_26 ?_
  refine lv_topE (y := (v 5 (5 * t + 0))) (by first | (simp [u2_at, kpM]; done) | (simp [u2_at, kpM] <;> (intros; omega)) | (simp only [u2_at, kpM]; (repeat' split) <;> first | rfl | (exfalso; omega))) ?_
  refine g_iast K.1 hP hS (5) (by decide) (fun _ => rfl) 0 rfl (5 * t + 1) rfl (by omega) (by decide) d_M_keep_27 (fun H l1 hP hS => ?_)
  refine lv_iinc (v := 0) (lv' := [(3, .int 0), (0, .ref (ad 0)), (1, .int (nI t)), (2, .int x)]) K.hx K.hb d_M_keep_28 hl (k := 0) rfl (by decide) (by decide) rfl (fun ls hl => ?_)
  refine lv_goto (tgt := 2) K.hx K.hb d_M_keep_31 (by decide) ?_
  refine lv_iload_n K.hx K.hb d_M_keep_2 rfl (lv_at hl 0 rfl) ?_
  refine lv_if_le (tgt := 34) K.hx K.hb d_M_keep_3 (by decide) (fun _ => ?_) (fun c_3_4 => (show False from by revert c_3_4; decide).elim)
  refine lv_aload_n K.hx K.hb d_M_keep_34 rfl (lv_at hl 1 rfl) ?_
  refine g_get K.1 hP (0) (by decide) rfl rfl i_M 7 (by decide) rfl (Or.inl kw_641) rfl d_M_keep_35 ?_
  refine lv_iconst (v := 5) K.hx K.hb d_M_keep_38 (by decide) ?_
  refine lv_iload_n K.hx K.hb d_M_keep_39 rfl (lv_at hl 2 rfl) ?_
  refine lv_imul K.hx K.hb d_M_keep_40 ?_
  refine lv_topE (y := nI (5 * t)) (pk_mul _ _) ?_
  refine lv_iload_n K.hx K.hb d_M_keep_41 rfl (lv_at hl 3 rfl) ?_
  refine g_iast K.1 hP hS (5) (by decide) (fun _ => rfl) 0 rfl (5 * t) rfl (by omega) (by decide) d_M_keep_42 (fun H l1 hP hS => ?_)
  exact de_v K hP hS ⟨rfl, (kpM_eq v t x).symm, rfl⟩ (Nat.le_of_ble_eq_true rfl) (Nat.le_of_ble_eq_true rfl) d_M_keep_43
set_option maxHeartbeats 4000000 in
set_option maxRecDepth 100000 in
theorem c_M_isBarred (l : Launch) (D : va_G) (cs : Nat → ClassId) (ad : Nat → Nat) (v : Nat → Nat → Int32) (sd : Int64) {t : Nat} (ht : t < 8)  : Dm l y_M_isBarred b_M_isBarred 2 (some .boolean) (rmx 0 0) [.ref (ad 0), .int (nI t)] D cs ad v sd (fun r v' sd' => r = some (.int (barM v t)) ∧ v = v' ∧ sd = sd') (fun cls => False) := by
  refine dw_enter (own := "WearHoursModel") rfl (Nat.le_of_ble_eq_true rfl) ?_
  intro p e s m below meth c ls K hS hP hl
  have hl : lv_has ls 2 [(0, .ref (ad 0)), (1, .int (nI t))] := hl
  refine lv_aload_n K.hx K.hb d_M_isBarred_0 rfl (lv_at hl 0 rfl) ?_
  refine g_get K.1 hP (0) (by decide) rfl rfl i_M 6 (by decide) rfl (Or.inl kw_640) rfl d_M_isBarred_1 ?_
  refine lv_iload_n K.hx K.hb d_M_isBarred_4 rfl (lv_at hl 1 rfl) ?_
  refine g_zald K.1 hP (4) (by decide) rfl 1 rfl (t) rfl (by omega) (by decide) d_M_isBarred_5 ?_
  refine lv_if_ne (tgt := 24) K.hx K.hb d_M_isBarred_6 (by decide) (fun c_6 => ?_) (fun c_6 => ?_)
  · refine lv_iconst (v := 1) K.hx K.hb d_M_isBarred_24 (by decide) ?_
    refine lv_goto (tgt := 29) K.hx K.hb d_M_isBarred_25 (by decide) ?_
    exact de_z K hP hS rfl ⟨by rw [show barM v t = 1 from by simp [barM, *]], rfl, rfl⟩ (Nat.le_of_ble_eq_true rfl) (Nat.le_of_ble_eq_true rfl) d_M_isBarred_29
  · refine lv_aload_n K.hx K.hb d_M_isBarred_9 rfl (lv_at hl 0 rfl) ?_
    refine g_get K.1 hP (0) (by decide) rfl rfl i_M 5 (by decide) rfl (Or.inl kw_639) rfl d_M_isBarred_10 ?_
    refine lv_iload_n K.hx K.hb d_M_isBarred_13 rfl (lv_at hl 1 rfl) ?_
    refine g_iald K.1 hP (3) (by decide) rfl 0 rfl (t) rfl (by omega) (by decide) d_M_isBarred_14 ?_
    refine lv_aload_n K.hx K.hb d_M_isBarred_15 rfl (lv_at hl 0 rfl) ?_
    refine g_get K.1 hP (0) (by decide) rfl rfl i_M 4 (by decide) rfl (Or.inl kw_638) rfl d_M_isBarred_16 ?_
    refine lv_iload_n K.hx K.hb d_M_isBarred_19 rfl (lv_at hl 1 rfl) ?_
    refine g_iald K.1 hP (2) (by decide) rfl 0 rfl (t) rfl (by omega) (by decide) d_M_isBarred_20 ?_
    refine lv_icmp_lt (tgt := 28) K.hx K.hb d_M_isBarred_21 (by decide) (fun c_21 => ?_) (fun c_21 => ?_)
    · refine lv_iconst (v := 0) K.hx K.hb d_M_isBarred_28 (by decide) ?_
      exact de_z K hP hS rfl ⟨by rw [show barM v t = 0 from by simp [barM, *]], rfl, rfl⟩ (Nat.le_of_ble_eq_true rfl) (Nat.le_of_ble_eq_true rfl) d_M_isBarred_29
    · refine lv_iconst (v := 1) K.hx K.hb d_M_isBarred_24 (by decide) ?_
      refine lv_goto (tgt := 29) K.hx K.hb d_M_isBarred_25 (by decide) ?_
      exact de_z K hP hS rfl ⟨by rw [show barM v t = 1 from by simp [barM, *]], rfl, rfl⟩ (Nat.le_of_ble_eq_true rfl) (Nat.le_of_ble_eq_true rfl) d_M_isBarred_29
set_option maxHeartbeats 4000000 in
set_option maxRecDepth 100000 in
theorem c_M_number (l : Launch) (D : va_G) (cs : Nat → ClassId) (ad : Nat → Nat) (v : Nat → Nat → Int32) (sd : Int64) (x : Int32)  : Dm l y_M_number b_M_number 4 (some .long) (rmx 0 0) [.ref (ad 0), .int x] D cs ad v sd (fun r v' sd' => r = some (.long (dr4 sd x.toInt64)) ∧ v = v' ∧ sd = sd') (fun cls => False) := by
  refine dw_enter (own := "WearHoursModel") rfl (Nat.le_of_ble_eq_true rfl) ?_
  intro p e s m below meth c ls K hS hP hl
  have hl : lv_has ls 4 [(0, .ref (ad 0)), (1, .int x)] := hl
  refine lv_aload_n K.hx K.hb d_M_number_0 rfl (lv_at hl 0 rfl) ?_
  refine g_get K.1 hP (0) (by decide) rfl rfl i_M 1 (by decide) rfl (Or.inl kw_635) rfl d_M_number_1 ?_
  refine lv_iload_n K.hx K.hb d_M_number_4 rfl (lv_at hl 1 rfl) ?_
  refine lv_i2l K.hx K.hb d_M_number_5 rfl ?_
  refine lv_ldc2 (v := (-7046029254386353131)) K.hx K.hb K.1.1.2.2.2.1 (K.1.1.2.2.2.2 _ kw_780) d_M_number_6 ?_
  refine lv_lmul K.hx K.hb d_M_number_9 ?_
  refine lv_ladd K.hx K.hb d_M_number_10 ?_
  refine lv_topl (fun z1 ez1 => ?_)
  refine lv_lstore_n (lv' := [(2, .long z1), (0, .ref (ad 0)), (1, .int x)]) K.hx K.hb d_M_number_11 rfl hl (by decide) rfl (fun ls hl => ?_)
  refine lv_lload_n K.hx K.hb d_M_number_12 rfl (lv_at hl 0 rfl) ?_
  refine lv_lload_n K.hx K.hb d_M_number_13 rfl (lv_at hl 0 rfl) ?_
  refine lv_bipush (v := 30) K.hx K.hb d_M_number_14 (by decide) ?_
  refine lv_lushr K.hx K.hb d_M_number_16 rfl ?_
  refine lv_lxor K.hx K.hb d_M_number_17 ?_
  refine lv_ldc2 (v := (-4658895280553007687)) K.hx K.hb K.1.1.2.2.2.1 (K.1.1.2.2.2.2 _ kw_781) d_M_number_18 ?_
  refine lv_lmul K.hx K.hb d_M_number_21 ?_
  refine lv_topl (fun z2 ez2 => ?_)
  refine lv_lstore_n (lv' := [(2, .long z2), (0, .ref (ad 0)), (1, .int x)]) K.hx K.hb d_M_number_22 rfl hl (by decide) rfl (fun ls hl => ?_)
  refine lv_lload_n K.hx K.hb d_M_number_23 rfl (lv_at hl 0 rfl) ?_
  refine lv_lload_n K.hx K.hb d_M_number_24 rfl (lv_at hl 0 rfl) ?_
  refine lv_bipush (v := 27) K.hx K.hb d_M_number_25 (by decide) ?_
  refine lv_lushr K.hx K.hb d_M_number_27 rfl ?_
  refine lv_lxor K.hx K.hb d_M_number_28 ?_
  refine lv_ldc2 (v := (-7723592293110705685)) K.hx K.hb K.1.1.2.2.2.1 (K.1.1.2.2.2.2 _ kw_782) d_M_number_29 ?_
  refine lv_lmul K.hx K.hb d_M_number_32 ?_
  refine lv_topl (fun z3 ez3 => ?_)
  refine lv_lstore_n (lv' := [(2, .long z3), (0, .ref (ad 0)), (1, .int x)]) K.hx K.hb d_M_number_33 rfl hl (by decide) rfl (fun ls hl => ?_)
  refine lv_lload_n K.hx K.hb d_M_number_34 rfl (lv_at hl 0 rfl) ?_
  refine lv_lload_n K.hx K.hb d_M_number_35 rfl (lv_at hl 0 rfl) ?_
  refine lv_bipush (v := 31) K.hx K.hb d_M_number_36 (by decide) ?_
  refine lv_lushr K.hx K.hb d_M_number_38 rfl ?_
  refine lv_lxor K.hx K.hb d_M_number_39 ?_
  refine lv_topl (fun z4 ez4 => ?_)
  exact de_l K hP hS ⟨by rw [show z4 = dr4 sd x.toInt64 from by subst ez1 ez2 ez3 ez4; rfl], rfl, rfl⟩ (Nat.le_of_ble_eq_true rfl) (Nat.le_of_ble_eq_true rfl) d_M_number_40
set_option maxHeartbeats 4000000 in
set_option maxRecDepth 100000 in
theorem c_M_areHours (l : Launch) (D : va_G) (cs : Nat → ClassId) (ad : Nat → Nat) (v : Nat → Nat → Int32) (sd : Int64) (x y : Int32)  : Dm l y_M_areHours b_M_areHours 2 (some .boolean) (rmx 1 0) [.int x, .int y] D cs ad v sd (fun r v' sd' => r = some (.int (if wthZ x 0 168 = 0 then 0 else if wthZ y 0 168 = 0 then 0 else if y ≤ x then 0 else 1)) ∧ v = v' ∧ sd = sd') (fun cls => False) := by
  refine dw_enter (own := "WearHoursModel") rfl (Nat.le_of_ble_eq_true rfl) ?_
  intro p e s m below meth c ls K hS hP hl
  have hl : lv_has ls 2 [(0, .int x), (1, .int y)] := hl
  refine lv_iload_n K.hx K.hb d_M_areHours_0 rfl (lv_at hl 0 rfl) ?_
  refine lv_iconst (v := 0) K.hx K.hb d_M_areHours_1 (by decide) ?_
  refine lv_sipush (v := 168) K.hx K.hb d_M_areHours_2 (by decide) ?_
  refine dd_S K hP hS (c_M_in l D cs ad _ _ x 0 168) kw_747 xm_M_in kw_745 kw_746 kw_29 rfl hl.1 d_M_areHours_5 (Nat.le_of_ble_eq_true rfl) (Nat.le_of_ble_eq_true rfl) ⟨(Nat.le_of_ble_eq_true rfl), (Nat.le_of_ble_eq_true rfl)⟩ (fun r v1 sd1 H l1 hp hP hS => ?_)
  obtain ⟨rfl, rfl, rfl⟩ := hp
  refine lv_if_eq (tgt := 31) K.hx K.hb d_M_areHours_8 (by decide) (fun c_8 => ?_) (fun c_8 => ?_)
  · refine lv_iconst (v := 0) K.hx K.hb d_M_areHours_31 (by decide) ?_
    exact de_z K hP hS rfl ⟨by simp [*], rfl, rfl⟩ (Nat.le_of_ble_eq_true rfl) (Nat.le_of_ble_eq_true rfl) d_M_areHours_32
  · refine lv_iload_n K.hx K.hb d_M_areHours_11 rfl (lv_at hl 1 rfl) ?_
    refine lv_iconst (v := 0) K.hx K.hb d_M_areHours_12 (by decide) ?_
    refine lv_sipush (v := 168) K.hx K.hb d_M_areHours_13 (by decide) ?_
    refine dd_S K hP hS (c_M_in l D cs ad _ _ y 0 168) kw_747 xm_M_in kw_745 kw_746 kw_29 rfl hl.1 d_M_areHours_16 (Nat.le_of_ble_eq_true rfl) (Nat.le_of_ble_eq_true rfl) ⟨(Nat.le_of_ble_eq_true rfl), (Nat.le_of_ble_eq_true rfl)⟩ (fun r v1 sd1 H l1 hp hP hS => ?_)
    obtain ⟨rfl, rfl, rfl⟩ := hp
    refine lv_if_eq (tgt := 31) K.hx K.hb d_M_areHours_19 (by decide) (fun c_19 => ?_) (fun c_19 => ?_)
    · refine lv_iconst (v := 0) K.hx K.hb d_M_areHours_31 (by decide) ?_
      exact de_z K hP hS rfl ⟨by simp [*], rfl, rfl⟩ (Nat.le_of_ble_eq_true rfl) (Nat.le_of_ble_eq_true rfl) d_M_areHours_32
    · refine lv_iload_n K.hx K.hb d_M_areHours_22 rfl (lv_at hl 0 rfl) ?_
      refine lv_iload_n K.hx K.hb d_M_areHours_23 rfl (lv_at hl 1 rfl) ?_
      refine lv_icmp_ge (tgt := 31) K.hx K.hb d_M_areHours_24 (by decide) (fun c_24 => ?_) (fun c_24 => ?_)
      · refine lv_iconst (v := 0) K.hx K.hb d_M_areHours_31 (by decide) ?_
        exact de_z K hP hS rfl ⟨by simp [*], rfl, rfl⟩ (Nat.le_of_ble_eq_true rfl) (Nat.le_of_ble_eq_true rfl) d_M_areHours_32
      · refine lv_iconst (v := 1) K.hx K.hb d_M_areHours_27 (by decide) ?_
        refine lv_goto (tgt := 32) K.hx K.hb d_M_areHours_28 (by decide) ?_
        exact de_z K hP hS rfl ⟨by simp [*], rfl, rfl⟩ (Nat.le_of_ble_eq_true rfl) (Nat.le_of_ble_eq_true rfl) d_M_areHours_32
set_option maxHeartbeats 4000000 in
set_option maxRecDepth 100000 in
theorem c_M_later (l : Launch) (D : va_G) (cs : Nat → ClassId) (ad : Nat → Nat) (v : Nat → Nat → Int32) (sd : Int64) (x y : Int32)  : Dm l y_M_later b_M_later 2 (some .int) (rmx 0 0) [.int x, .int y] D cs ad v sd (fun r v' sd' => r = some (.int (if x ≤ y then y else x)) ∧ v = v' ∧ sd = sd') (fun cls => False) := by
  refine dw_enter (own := "WearHoursModel") rfl (Nat.le_of_ble_eq_true rfl) ?_
  intro p e s m below meth c ls K hS hP hl
  have hl : lv_has ls 2 [(0, .int x), (1, .int y)] := hl
  refine lv_iload_n K.hx K.hb d_M_later_0 rfl (lv_at hl 0 rfl) ?_
  refine lv_iload_n K.hx K.hb d_M_later_1 rfl (lv_at hl 1 rfl) ?_
  refine lv_icmp_le (tgt := 9) K.hx K.hb d_M_later_2 (by decide) (fun c_2 => ?_) (fun c_2 => ?_)
  · refine lv_iload_n K.hx K.hb d_M_later_9 rfl (lv_at hl 1 rfl) ?_
    exact de_i K hP hS ⟨by simp [*], rfl, rfl⟩ (Nat.le_of_ble_eq_true rfl) (Nat.le_of_ble_eq_true rfl) d_M_later_10
  · refine lv_iload_n K.hx K.hb d_M_later_5 rfl (lv_at hl 0 rfl) ?_
    refine lv_goto (tgt := 10) K.hx K.hb d_M_later_6 (by decide) ?_
    exact de_i K hP hS ⟨by simp [*], rfl, rfl⟩ (Nat.le_of_ble_eq_true rfl) (Nat.le_of_ble_eq_true rfl) d_M_later_10
