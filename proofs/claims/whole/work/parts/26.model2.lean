/-! the reference's public methods -/
theorem wth_01 (x a b : Int32) : wthZ x a b = 0 ∨ wthZ x a b = 1 := by
  unfold wthZ
  split
  · exact Or.inl rfl
  · split
    · exact Or.inl rfl
    · exact Or.inr rfl
theorem barM_01 (v : Nat → Nat → Int32) (i : Nat) : barM v i = 0 ∨ barM v i = 1 := by
  unfold barM
  split
  · split
    · exact Or.inl rfl
    · exact Or.inr rfl
  · exact Or.inr rfl
theorem one_ne {z : Int32} (h : z = 1) : ¬ z = 0 := by
  rw [h]; decide
theorem wth_yes {x : Int32} {n : Nat} (hn : n ≤ 8) (h : ∃ i, i < n ∧ x = nI i) : wthZ x 0 (nI n - 1) = 1 := by
  obtain ⟨i, hi, rfl⟩ := h
  obtain ⟨k, rfl⟩ : ∃ k, n = k + 1 := ⟨n - 1, by omega⟩
  rw [nI_pred]
  unfold wthZ
  rw [if_neg (nI_pos (by omega)), if_neg (nI_nlt (by omega) (by omega))]
theorem wth_no {x : Int32} {n : Nat} (hn : n ≤ 8) (h : ¬ ∃ i, i < n ∧ x = nI i) : wthZ x 0 (nI n - 1) = 0 := by
  unfold wthZ
  by_cases hx : x < 0
  · rw [if_pos hx]
  · rw [if_neg hx]
    obtain ⟨j, hj, rfl⟩ := nI_of hx
    have hjn : ¬ j < n := fun q => h ⟨j, q, rfl⟩
    rcases (show n = 0 ∨ ∃ k, n = k + 1 by rcases n with _ | k; exact Or.inl rfl; exact Or.inr ⟨k, rfl⟩) with rfl | ⟨k, rfl⟩
    · rw [if_pos (show nI 0 - 1 < nI j from by
        have h1 := nI_toInt hj
        rw [Int32.lt_iff_toInt_lt, h1]
        have h2 : (nI 0 - 1).toInt = -1 := by decide
        omega)]
    · rw [nI_pred, if_pos (nI_lt (by omega) hj)]
theorem wth_yes4 {x : Int32} {n : Nat} (hn : n = 4) (h : ∃ i, i < n ∧ x = nI i) : wthZ x 0 3 = 1 := by
  subst hn
  have e : nI 4 - 1 = 3 := by decide
  rw [← e]
  exact wth_yes (by omega) h
theorem wth_no4 {x : Int32} {n : Nat} (hn : n = 4) (h : ¬ ∃ i, i < n ∧ x = nI i) : wthZ x 0 3 = 0 := by
  subst hn
  have e : nI 4 - 1 = 3 := by decide
  rw [← e]
  exact wth_no (by omega) h
def shZ (z : Int64) : Int64 := ush (z <<< ((1 : Int32).toInt64 &&& 63)) 1
def lfZ (sd : Int64) (i : Nat) (y : Int32) : Int64 := shZ (dr4 sd (nI (1001 * i) + y + 1).toInt64)
def lfD (u : Int32) (z : Int64) : Int32 := u * (50 + (z - z / 101 * 101).toInt32) / 100
abbrev hrZ (x y : Int32) : Prop := ¬ x < 0 ∧ ¬ 168 < y ∧ x < y
theorem hr_eq (x y : Int32) : (if wthZ x 0 168 = 0 then (0 : Int32) else if wthZ y 0 168 = 0 then 0 else if y ≤ x then 0 else 1) = if hrZ x y then 1 else 0 := by
  have e0 : (0 : Int32).toInt = 0 := rfl
  have e1 : (168 : Int32).toInt = 168 := rfl
  simp only [wthZ, hrZ, Int32.lt_iff_toInt_lt, Int32.le_iff_toInt_le, e0, e1]
  by_cases a1 : x.toInt < 0
  · simp [a1]
  · by_cases a2 : 168 < x.toInt
    · simp [a1, a2]
      intros
      omega
    · by_cases a3 : y.toInt < 0
      · simp [a1, a2, a3]
        intro a4
        omega
      · by_cases a4 : 168 < y.toInt
        · simp [a1, a2, a3, a4]
        · by_cases a5 : y.toInt ≤ x.toInt
          · simp [a1, a2, a3, a4, a5]
          · simp [a1, a2, a3, a4, a5, Int.not_le.mp a5]
set_option maxHeartbeats 4000000 in
set_option maxRecDepth 100000 in
theorem c_M_thing (l : Launch) (D : va_G) (cs : Nat → ClassId) (ad : Nat → Nat) (v : Nat → Nat → Int32) (sd : Int64) {tc : Nat} (htc : v 0 2 = nI tc) (ht8 : tc ≤ 8) (x y : Int32)  : Dm l y_M_thing b_M_thing 4 (some .int) (rmx 1 0) [.ref (ad 0), .int x, .int y] D cs ad v sd (fun r v' sd' => ((¬ wthZ x 1 1000000 = 0 ∧ ¬ wthZ y 1 1000000 = 0) ∧ tc < 8 ∧ r = some (.int (nI tc)) ∧ u2 (u2 (u2 (u2 (u2 (u2 (u2 (u2 (u2 (u2 (u2 v 0 0 0) 1 tc x) 2 tc y) 3 tc 0) 4 tc 0) 5 (5 * tc + 0) 0) 5 (5 * tc + 1) 0) 5 (5 * tc + 2) 0) 5 (5 * tc + 3) 0) 5 (5 * tc + 4) 0) 0 2 (nI (tc + 1)) = v' ∧ sd = sd') ∨ (¬ (¬ wthZ x 1 1000000 = 0 ∧ ¬ wthZ y 1 1000000 = 0) ∧ r = some (.int 0) ∧ u2 v 0 0 1 = v' ∧ sd = sd') ∨ ((¬ wthZ x 1 1000000 = 0 ∧ ¬ wthZ y 1 1000000 = 0) ∧ ¬ tc < 8 ∧ r = some (.int 0) ∧ u2 v 0 0 2 = v' ∧ sd = sd')) (fun cls => False) := by
  refine dw_enter (own := "WearHoursModel") rfl (Nat.le_of_ble_eq_true rfl) ?_
  intro p e s m below meth c ls K hS hP hl
  have hl : lv_has ls 4 [(0, .ref (ad 0)), (1, .int x), (2, .int y)] := hl
  refine lv_aload_n K.hx K.hb d_M_thing_0 rfl (lv_at hl 0 rfl) ?_
  refine lv_iload_n K.hx K.hb d_M_thing_1 rfl (lv_at hl 1 rfl) ?_
  refine lv_iconst (v := 1) K.hx K.hb d_M_thing_2 (by decide) ?_
  refine lv_ldc (v := 1000000) K.hx K.hb K.1.1.2.2.2.1 (K.1.1.2.2.2.2 _ kw_744) d_M_thing_3 ?_
  refine dd_S K hP hS (c_M_in l D cs ad _ _ x 1 1000000) kw_747 xm_M_in kw_745 kw_746 kw_29 rfl hl.1 d_M_thing_5 (Nat.le_of_ble_eq_true rfl) (Nat.le_of_ble_eq_true rfl) ⟨(Nat.le_of_ble_eq_true rfl), (Nat.le_of_ble_eq_true rfl)⟩ (fun r v1 sd1 H l1 hp hP hS => ?_)
  obtain ⟨rfl, rfl, rfl⟩ := hp
  rcases wth_01 x 1 1000000 with w_5 | w_5
  · refine lv_topE (y := 0) w_5 ?_
    refine lv_if_eq (tgt := 25) K.hx K.hb d_M_thing_8 (by decide) (fun _ => ?_) (fun c_8 => (show False from by revert c_8; decide).elim)
    refine lv_iconst (v := 0) K.hx K.hb d_M_thing_25 (by decide) ?_
    refine lv_aload_n K.hx K.hb d_M_thing_26 rfl (lv_at hl 0 rfl) ?_
    refine g_get K.1 hP (0) (by decide) rfl rfl i_M 2 (by decide) rfl (Or.inl kw_636) rfl d_M_thing_27 ?_
    refine lv_topE (y := nI tc) htc ?_
    refine lv_bipush (v := 8) K.hx K.hb d_M_thing_30 (by decide) ?_
    refine lv_icmp_ge (tgt := 39) K.hx K.hb d_M_thing_32 (by decide) (fun c_32 => ?_) (fun c_32 => ?_)
    · refine lv_iconst (v := 0) K.hx K.hb d_M_thing_39 (by decide) ?_
      refine lv_iconst (v := 1) K.hx K.hb d_M_thing_40 (by decide) ?_
      refine dd_V K hP hS (c_M_goes l D cs ad _ _ 0 0 1) kw_751 xm_M_goes kw_748 kw_750 kw_13 (g_recv K.1.2.1 hP (0) (by decide) rfl rfl) rfl hl.1 d_M_thing_41 (Nat.le_of_ble_eq_true rfl) (Nat.le_of_ble_eq_true rfl) ⟨(Nat.le_of_ble_eq_true rfl), (Nat.le_of_ble_eq_true rfl)⟩ (fun r v1 sd1 H l1 hp hP hS => ?_)
      obtain ⟨rfl, rfl, rfl⟩ := hp
      have hgz : gz 0 0 1 = 1 := by decide
      rw [hgz] at hP
      refine lv_topE (y := 0) (by rw [hgz]; decide) ?_
      refine lv_if_ne (tgt := 49) K.hx K.hb d_M_thing_44 (by decide) (fun c_44 => (show False from by revert c_44; decide).elim) (fun _ => ?_)
      refine lv_iconst (v := 0) K.hx K.hb d_M_thing_47 (by decide) ?_
      exact de_i K hP hS (Or.inr (Or.inl ⟨(fun h => h.1 w_5), rfl, rfl, rfl⟩)) (Nat.le_of_ble_eq_true rfl) (Nat.le_of_ble_eq_true rfl) d_M_thing_48
    · refine lv_iconst (v := 1) K.hx K.hb d_M_thing_35 (by decide) ?_
      refine lv_goto (tgt := 40) K.hx K.hb d_M_thing_36 (by decide) ?_
      refine lv_iconst (v := 1) K.hx K.hb d_M_thing_40 (by decide) ?_
      refine dd_V K hP hS (c_M_goes l D cs ad _ _ 0 1 1) kw_751 xm_M_goes kw_748 kw_750 kw_13 (g_recv K.1.2.1 hP (0) (by decide) rfl rfl) rfl hl.1 d_M_thing_41 (Nat.le_of_ble_eq_true rfl) (Nat.le_of_ble_eq_true rfl) ⟨(Nat.le_of_ble_eq_true rfl), (Nat.le_of_ble_eq_true rfl)⟩ (fun r v1 sd1 H l1 hp hP hS => ?_)
      obtain ⟨rfl, rfl, rfl⟩ := hp
      have hgz : gz 0 1 1 = 1 := by decide
      rw [hgz] at hP
      refine lv_topE (y := 0) (by rw [hgz]; decide) ?_
      refine lv_if_ne (tgt := 49) K.hx K.hb d_M_thing_44 (by decide) (fun c_44 => (show False from by revert c_44; decide).elim) (fun _ => ?_)
      refine lv_iconst (v := 0) K.hx K.hb d_M_thing_47 (by decide) ?_
      exact de_i K hP hS (Or.inr (Or.inl ⟨(fun h => h.1 w_5), rfl, rfl, rfl⟩)) (Nat.le_of_ble_eq_true rfl) (Nat.le_of_ble_eq_true rfl) d_M_thing_48
  · refine lv_topE (y := 1) w_5 ?_
    refine lv_if_eq (tgt := 25) K.hx K.hb d_M_thing_8 (by decide) (fun c_8 => (show False from by revert c_8; decide).elim) (fun _ => ?_)
    refine lv_iload_n K.hx K.hb d_M_thing_11 rfl (lv_at hl 2 rfl) ?_
    refine lv_iconst (v := 1) K.hx K.hb d_M_thing_12 (by decide) ?_
    refine lv_ldc (v := 1000000) K.hx K.hb K.1.1.2.2.2.1 (K.1.1.2.2.2.2 _ kw_744) d_M_thing_13 ?_
    refine dd_S K hP hS (c_M_in l D cs ad _ _ y 1 1000000) kw_747 xm_M_in kw_745 kw_746 kw_29 rfl hl.1 d_M_thing_15 (Nat.le_of_ble_eq_true rfl) (Nat.le_of_ble_eq_true rfl) ⟨(Nat.le_of_ble_eq_true rfl), (Nat.le_of_ble_eq_true rfl)⟩ (fun r v1 sd1 H l1 hp hP hS => ?_)
    obtain ⟨rfl, rfl, rfl⟩ := hp
    rcases wth_01 y 1 1000000 with w_15 | w_15
    · refine lv_topE (y := 0) w_15 ?_
      refine lv_if_eq (tgt := 25) K.hx K.hb d_M_thing_18 (by decide) (fun _ => ?_) (fun c_18 => (show False from by revert c_18; decide).elim)
      refine lv_iconst (v := 0) K.hx K.hb d_M_thing_25 (by decide) ?_
      refine lv_aload_n K.hx K.hb d_M_thing_26 rfl (lv_at hl 0 rfl) ?_
      refine g_get K.1 hP (0) (by decide) rfl rfl i_M 2 (by decide) rfl (Or.inl kw_636) rfl d_M_thing_27 ?_
      refine lv_topE (y := nI tc) htc ?_
      refine lv_bipush (v := 8) K.hx K.hb d_M_thing_30 (by decide) ?_
      refine lv_icmp_ge (tgt := 39) K.hx K.hb d_M_thing_32 (by decide) (fun c_32 => ?_) (fun c_32 => ?_)
      · refine lv_iconst (v := 0) K.hx K.hb d_M_thing_39 (by decide) ?_
        refine lv_iconst (v := 1) K.hx K.hb d_M_thing_40 (by decide) ?_
        refine dd_V K hP hS (c_M_goes l D cs ad _ _ 0 0 1) kw_751 xm_M_goes kw_748 kw_750 kw_13 (g_recv K.1.2.1 hP (0) (by decide) rfl rfl) rfl hl.1 d_M_thing_41 (Nat.le_of_ble_eq_true rfl) (Nat.le_of_ble_eq_true rfl) ⟨(Nat.le_of_ble_eq_true rfl), (Nat.le_of_ble_eq_true rfl)⟩ (fun r v1 sd1 H l1 hp hP hS => ?_)
        obtain ⟨rfl, rfl, rfl⟩ := hp
        have hgz : gz 0 0 1 = 1 := by decide
        rw [hgz] at hP
        refine lv_topE (y := 0) (by rw [hgz]; decide) ?_
        refine lv_if_ne (tgt := 49) K.hx K.hb d_M_thing_44 (by decide) (fun c_44 => (show False from by revert c_44; decide).elim) (fun _ => ?_)
        refine lv_iconst (v := 0) K.hx K.hb d_M_thing_47 (by decide) ?_
        exact de_i K hP hS (Or.inr (Or.inl ⟨(fun h => h.2 w_15), rfl, rfl, rfl⟩)) (Nat.le_of_ble_eq_true rfl) (Nat.le_of_ble_eq_true rfl) d_M_thing_48
      · refine lv_iconst (v := 1) K.hx K.hb d_M_thing_35 (by decide) ?_
        refine lv_goto (tgt := 40) K.hx K.hb d_M_thing_36 (by decide) ?_
        refine lv_iconst (v := 1) K.hx K.hb d_M_thing_40 (by decide) ?_
        refine dd_V K hP hS (c_M_goes l D cs ad _ _ 0 1 1) kw_751 xm_M_goes kw_748 kw_750 kw_13 (g_recv K.1.2.1 hP (0) (by decide) rfl rfl) rfl hl.1 d_M_thing_41 (Nat.le_of_ble_eq_true rfl) (Nat.le_of_ble_eq_true rfl) ⟨(Nat.le_of_ble_eq_true rfl), (Nat.le_of_ble_eq_true rfl)⟩ (fun r v1 sd1 H l1 hp hP hS => ?_)
        obtain ⟨rfl, rfl, rfl⟩ := hp
        have hgz : gz 0 1 1 = 1 := by decide
        rw [hgz] at hP
        refine lv_topE (y := 0) (by rw [hgz]; decide) ?_
        refine lv_if_ne (tgt := 49) K.hx K.hb d_M_thing_44 (by decide) (fun c_44 => (show False from by revert c_44; decide).elim) (fun _ => ?_)
        refine lv_iconst (v := 0) K.hx K.hb d_M_thing_47 (by decide) ?_
        exact de_i K hP hS (Or.inr (Or.inl ⟨(fun h => h.2 w_15), rfl, rfl, rfl⟩)) (Nat.le_of_ble_eq_true rfl) (Nat.le_of_ble_eq_true rfl) d_M_thing_48
    · refine lv_topE (y := 1) w_15 ?_
      refine lv_if_eq (tgt := 25) K.hx K.hb d_M_thing_18 (by decide) (fun c_18 => (show False from by revert c_18; decide).elim) (fun _ => ?_)
      refine lv_iconst (v := 1) K.hx K.hb d_M_thing_21 (by decide) ?_
      refine lv_goto (tgt := 26) K.hx K.hb d_M_thing_22 (by decide) ?_
      refine lv_aload_n K.hx K.hb d_M_thing_26 rfl (lv_at hl 0 rfl) ?_
      refine g_get K.1 hP (0) (by decide) rfl rfl i_M 2 (by decide) rfl (Or.inl kw_636) rfl d_M_thing_27 ?_
      refine lv_topE (y := nI tc) htc ?_
      refine lv_bipush (v := 8) K.hx K.hb d_M_thing_30 (by decide) ?_
      refine lv_icmp_ge (tgt := 39) K.hx K.hb d_M_thing_32 (by decide) (fun c_32 => ?_) (fun c_32 => ?_)
      · refine lv_iconst (v := 0) K.hx K.hb d_M_thing_39 (by decide) ?_
        refine lv_iconst (v := 1) K.hx K.hb d_M_thing_40 (by decide) ?_
        refine dd_V K hP hS (c_M_goes l D cs ad _ _ 1 0 1) kw_751 xm_M_goes kw_748 kw_750 kw_13 (g_recv K.1.2.1 hP (0) (by decide) rfl rfl) rfl hl.1 d_M_thing_41 (Nat.le_of_ble_eq_true rfl) (Nat.le_of_ble_eq_true rfl) ⟨(Nat.le_of_ble_eq_true rfl), (Nat.le_of_ble_eq_true rfl)⟩ (fun r v1 sd1 H l1 hp hP hS => ?_)
        obtain ⟨rfl, rfl, rfl⟩ := hp
        have hgz : gz 1 0 1 = 2 := by decide
        rw [hgz] at hP
        refine lv_topE (y := 0) (by rw [hgz]; decide) ?_
        refine lv_if_ne (tgt := 49) K.hx K.hb d_M_thing_44 (by decide) (fun c_44 => (show False from by revert c_44; decide).elim) (fun _ => ?_)
        refine lv_iconst (v := 0) K.hx K.hb d_M_thing_47 (by decide) ?_
        exact de_i K hP hS (Or.inr (Or.inr ⟨⟨one_ne w_5, one_ne w_15⟩, fun h => absurd h (Nat.not_lt.mpr ((nI_leI (by decide) (by omega)).mp (show nI 8 ≤ nI tc from c_32))), rfl, rfl, rfl⟩)) (Nat.le_of_ble_eq_true rfl) (Nat.le_of_ble_eq_true rfl) d_M_thing_48
      · refine lv_iconst (v := 1) K.hx K.hb d_M_thing_35 (by decide) ?_
        refine lv_goto (tgt := 40) K.hx K.hb d_M_thing_36 (by decide) ?_
        refine lv_iconst (v := 1) K.hx K.hb d_M_thing_40 (by decide) ?_
        refine dd_V K hP hS (c_M_goes l D cs ad _ _ 1 1 1) kw_751 xm_M_goes kw_748 kw_750 kw_13 (g_recv K.1.2.1 hP (0) (by decide) rfl rfl) rfl hl.1 d_M_thing_41 (Nat.le_of_ble_eq_true rfl) (Nat.le_of_ble_eq_true rfl) ⟨(Nat.le_of_ble_eq_true rfl), (Nat.le_of_ble_eq_true rfl)⟩ (fun r v1 sd1 H l1 hp hP hS => ?_)
        obtain ⟨rfl, rfl, rfl⟩ := hp
        have hgz : gz 1 1 1 = 0 := by decide
        rw [hgz] at hP
        refine lv_topE (y := 1) (by rw [hgz]; decide) ?_
        refine lv_if_ne (tgt := 49) K.hx K.hb d_M_thing_44 (by decide) (fun _ => ?_) (fun c_44 => (show False from by revert c_44; decide).elim)
        have ht : tc < 8 := (nI_ltI (by omega) (by decide)).mp (show nI tc < nI 8 from Int32.not_le.mp c_32)
        refine lv_aload_n K.hx K.hb d_M_thing_49 rfl (lv_at hl 0 rfl) ?_
        refine g_get K.1 hP (0) (by decide) rfl rfl i_M 3 (by decide) rfl (Or.inl kw_637) rfl d_M_thing_50 ?_
        refine lv_aload_n K.hx K.hb d_M_thing_53 rfl (lv_at hl 0 rfl) ?_
        refine g_get K.1 hP (0) (by decide) rfl rfl i_M 2 (by decide) rfl (Or.inl kw_636) rfl d_M_thing_54 ?_
        refine lv_topE (y := (v 0 2)) (by first | (simp [u2_at, kpM]; done) | (simp [u2_at, kpM] <;> (intros; omega)) | (simp only [u2_at, kpM]; (repeat' split) <;> first | rfl | (exfalso; omega))) ?_
        refine lv_topE (y := nI tc) htc ?_
        refine lv_iload_n K.hx K.hb d_M_thing_57 rfl (lv_at hl 1 rfl) ?_
        refine g_iast K.1 hP hS (1) (by decide) (fun _ => rfl) 0 rfl (tc) rfl (by omega) (by decide) d_M_thing_58 (fun H l1 hP hS => ?_)
        refine lv_aload_n K.hx K.hb d_M_thing_59 rfl (lv_at hl 0 rfl) ?_
        refine g_get K.1 hP (0) (by decide) rfl rfl i_M 4 (by decide) rfl (Or.inl kw_638) rfl d_M_thing_60 ?_
        refine lv_aload_n K.hx K.hb d_M_thing_63 rfl (lv_at hl 0 rfl) ?_
        refine g_get K.1 hP (0) (by decide) rfl rfl i_M 2 (by decide) rfl (Or.inl kw_636) rfl d_M_thing_64 ?_
        refine lv_topE (y := (v 0 2)) (by first | (simp [u2_at, kpM]; done) | (simp [u2_at, kpM] <;> (intros; omega)) | (simp only [u2_at, kpM]; (repeat' split) <;> first | rfl | (exfalso; omega))) ?_
        refine lv_topE (y := nI tc) htc ?_
        refine lv_iload_n K.hx K.hb d_M_thing_67 rfl (lv_at hl 2 rfl) ?_
        refine g_iast K.1 hP hS (2) (by decide) (fun _ => rfl) 0 rfl (tc) rfl (by omega) (by decide) d_M_thing_68 (fun H l1 hP hS => ?_)
        refine lv_aload_n K.hx K.hb d_M_thing_69 rfl (lv_at hl 0 rfl) ?_
        refine g_get K.1 hP (0) (by decide) rfl rfl i_M 5 (by decide) rfl (Or.inl kw_639) rfl d_M_thing_70 ?_
        refine lv_aload_n K.hx K.hb d_M_thing_73 rfl (lv_at hl 0 rfl) ?_
        refine g_get K.1 hP (0) (by decide) rfl rfl i_M 2 (by decide) rfl (Or.inl kw_636) rfl d_M_thing_74 ?_
        refine lv_topE (y := (v 0 2)) (by first | (simp [u2_at, kpM]; done) | (simp [u2_at, kpM] <;> (intros; omega)) | (simp only [u2_at, kpM]; (repeat' split) <;> first | rfl | (exfalso; omega))) ?_
        refine lv_topE (y := nI tc) htc ?_
        refine lv_iconst (v := 0) K.hx K.hb d_M_thing_77 (by decide) ?_
        refine g_iast K.1 hP hS (3) (by decide) (fun _ => rfl) 0 rfl (tc) rfl (by omega) (by decide) d_M_thing_78 (fun H l1 hP hS => ?_)
        refine lv_aload_n K.hx K.hb d_M_thing_79 rfl (lv_at hl 0 rfl) ?_
        refine g_get K.1 hP (0) (by decide) rfl rfl i_M 6 (by decide) rfl (Or.inl kw_640) rfl d_M_thing_80 ?_
        refine lv_aload_n K.hx K.hb d_M_thing_83 rfl (lv_at hl 0 rfl) ?_
        refine g_get K.1 hP (0) (by decide) rfl rfl i_M 2 (by decide) rfl (Or.inl kw_636) rfl d_M_thing_84 ?_
        refine lv_topE (y := (v 0 2)) (by first | (simp [u2_at, kpM]; done) | (simp [u2_at, kpM] <;> (intros; omega)) | (simp only [u2_at, kpM]; (repeat' split) <;> first | rfl | (exfalso; omega))) ?_
        refine lv_topE (y := nI tc) htc ?_
        refine lv_iconst (v := 0) K.hx K.hb d_M_thing_87 (by decide) ?_
        refine g_zast K.1 hP hS (4) (by decide) (fun _ => rfl) 1 rfl rfl (tc) rfl (by omega) (by decide) d_M_thing_88 (fun H l1 hP hS => ?_)
        refine lv_iconst (v := 0) K.hx K.hb d_M_thing_89 (by decide) ?_
        refine lv_istore_n (lv' := [(3, .int 0), (0, .ref (ad 0)), (1, .int x), (2, .int y)]) K.hx K.hb d_M_thing_90 rfl hl (by decide) rfl (fun ls hl => ?_)
        refine lv_iload_n K.hx K.hb d_M_thing_91 rfl (lv_at hl 0 rfl) ?_
        refine lv_iconst (v := 5) K.hx K.hb d_M_thing_92 (by decide) ?_
        refine lv_icmp_ge (tgt := 116) K.hx K.hb d_M_thing_93 (by decide) (fun c_93 => (show False from by revert c_93; decide).elim) (fun _ => ?_)
        refine lv_aload_n K.hx K.hb d_M_thing_96 rfl (lv_at hl 1 rfl) ?_
        refine g_get K.1 hP (0) (by decide) rfl rfl i_M 7 (by decide) rfl (Or.inl kw_641) rfl d_M_thing_97 ?_
        refine lv_iconst (v := 5) K.hx K.hb d_M_thing_100 (by decide) ?_
        refine lv_aload_n K.hx K.hb d_M_thing_101 rfl (lv_at hl 1 rfl) ?_
        refine g_get K.1 hP (0) (by decide) rfl rfl i_M 2 (by decide) rfl (Or.inl kw_636) rfl d_M_thing_102 ?_
        refine lv_topE (y := (v 0 2)) (by first | (simp [u2_at, kpM]; done) | (simp [u2_at, kpM] <;> (intros; omega)) | (simp only [u2_at, kpM]; (repeat' split) <;> first | rfl | (exfalso; omega))) ?_
        refine lv_topE (y := nI tc) htc ?_
        refine lv_imul K.hx K.hb d_M_thing_105 ?_
        refine lv_topE (y := nI (5 * tc)) (pk_mul _ _) ?_
        refine lv_iload_n K.hx K.hb d_M_thing_106 rfl (lv_at hl 0 rfl) ?_
        refine lv_iadd K.hx K.hb d_M_thing_107 ?_
        refine lv_topE (y := nI (5 * tc + 0)) (nI_add _ _) ?_
        refine lv_iconst (v := 0) K.hx K.hb d_M_thing_108 (by decide) ?_
        refine g_iast K.1 hP hS (5) (by decide) (fun _ => rfl) 0 rfl (5 * tc + 0) rfl (by omega) (by decide) d_M_thing_109 (fun H l1 hP hS => ?_)
        refine lv_iinc (v := 1) (lv' := [(3, .int 1), (0, .ref (ad 0)), (1, .int x), (2, .int y)]) K.hx K.hb d_M_thing_110 hl (k := 0) rfl (by decide) (by decide) rfl (fun ls hl => ?_)
        refine lv_goto (tgt := 91) K.hx K.hb d_M_thing_113 (by decide) ?_
        refine lv_iload_n K.hx K.hb d_M_thing_91 rfl (lv_at hl 0 rfl) ?_
        refine lv_iconst (v := 5) K.hx K.hb d_M_thing_92 (by decide) ?_
        refine lv_icmp_ge (tgt := 116) K.hx K.hb d_M_thing_93 (by decide) (fun c_93_1 => (show False from by revert c_93_1; decide).elim) (fun _ => ?_)
        refine lv_aload_n K.hx K.hb d_M_thing_96 rfl (lv_at hl 1 rfl) ?_
        refine g_get K.1 hP (0) (by decide) rfl rfl i_M 7 (by decide) rfl (Or.inl kw_641) rfl d_M_thing_97 ?_
        refine lv_iconst (v := 5) K.hx K.hb d_M_thing_100 (by decide) ?_
        refine lv_aload_n K.hx K.hb d_M_thing_101 rfl (lv_at hl 1 rfl) ?_
        refine g_get K.1 hP (0) (by decide) rfl rfl i_M 2 (by decide) rfl (Or.inl kw_636) rfl d_M_thing_102 ?_
        refine lv_topE (y := (v 0 2)) (by first | (simp [u2_at, kpM]; done) | (simp [u2_at, kpM] <;> (intros; omega)) | (simp only [u2_at, kpM]; (repeat' split) <;> first | rfl | (exfalso; omega))) ?_
        refine lv_topE (y := nI tc) htc ?_
        refine lv_imul K.hx K.hb d_M_thing_105 ?_
        refine lv_topE (y := nI (5 * tc)) (pk_mul _ _) ?_
        refine lv_iload_n K.hx K.hb d_M_thing_106 rfl (lv_at hl 0 rfl) ?_
        refine lv_iadd K.hx K.hb d_M_thing_107 ?_
        refine lv_topE (y := nI (5 * tc + 1)) (nI_add _ _) ?_
        refine lv_iconst (v := 0) K.hx K.hb d_M_thing_108 (by decide) ?_
        refine g_iast K.1 hP hS (5) (by decide) (fun _ => rfl) 0 rfl (5 * tc + 1) rfl (by omega) (by decide) d_M_thing_109 (fun H l1 hP hS => ?_)
        refine lv_iinc (v := 2) (lv' := [(3, .int 2), (0, .ref (ad 0)), (1, .int x), (2, .int y)]) K.hx K.hb d_M_thing_110 hl (k := 0) rfl (by decide) (by decide) rfl (fun ls hl => ?_)
        refine lv_goto (tgt := 91) K.hx K.hb d_M_thing_113 (by decide) ?_
        refine lv_iload_n K.hx K.hb d_M_thing_91 rfl (lv_at hl 0 rfl) ?_
        refine lv_iconst (v := 5) K.hx K.hb d_M_thing_92 (by decide) ?_
        refine lv_icmp_ge (tgt := 116) K.hx K.hb d_M_thing_93 (by decide) (fun c_93_2 => (show False from by revert c_93_2; decide).elim) (fun _ => ?_)
        refine lv_aload_n K.hx K.hb d_M_thing_96 rfl (lv_at hl 1 rfl) ?_
        refine g_get K.1 hP (0) (by decide) rfl rfl i_M 7 (by decide) rfl (Or.inl kw_641) rfl d_M_thing_97 ?_
        refine lv_iconst (v := 5) K.hx K.hb d_M_thing_100 (by decide) ?_
        refine lv_aload_n K.hx K.hb d_M_thing_101 rfl (lv_at hl 1 rfl) ?_
        refine g_get K.1 hP (0) (by decide) rfl rfl i_M 2 (by decide) rfl (Or.inl kw_636) rfl d_M_thing_102 ?_
        refine lv_topE (y := (v 0 2)) (by first | (simp [u2_at, kpM]; done) | (simp [u2_at, kpM] <;> (intros; omega)) | (simp only [u2_at, kpM]; (repeat' split) <;> first | rfl | (exfalso; omega))) ?_
        refine lv_topE (y := nI tc) htc ?_
        refine lv_imul K.hx K.hb d_M_thing_105 ?_
        refine lv_topE (y := nI (5 * tc)) (pk_mul _ _) ?_
        refine lv_iload_n K.hx K.hb d_M_thing_106 rfl (lv_at hl 0 rfl) ?_
        refine lv_iadd K.hx K.hb d_M_thing_107 ?_
        refine lv_topE (y := nI (5 * tc + 2)) (nI_add _ _) ?_
        refine lv_iconst (v := 0) K.hx K.hb d_M_thing_108 (by decide) ?_
        refine g_iast K.1 hP hS (5) (by decide) (fun _ => rfl) 0 rfl (5 * tc + 2) rfl (by omega) (by decide) d_M_thing_109 (fun H l1 hP hS => ?_)
        refine lv_iinc (v := 3) (lv' := [(3, .int 3), (0, .ref (ad 0)), (1, .int x), (2, .int y)]) K.hx K.hb d_M_thing_110 hl (k := 0) rfl (by decide) (by decide) rfl (fun ls hl => ?_)
        refine lv_goto (tgt := 91) K.hx K.hb d_M_thing_113 (by decide) ?_
        refine lv_iload_n K.hx K.hb d_M_thing_91 rfl (lv_at hl 0 rfl) ?_
        refine lv_iconst (v := 5) K.hx K.hb d_M_thing_92 (by decide) ?_
        refine lv_icmp_ge (tgt := 116) K.hx K.hb d_M_thing_93 (by decide) (fun c_93_3 => (show False from by revert c_93_3; decide).elim) (fun _ => ?_)
        refine lv_aload_n K.hx K.hb d_M_thing_96 rfl (lv_at hl 1 rfl) ?_
        refine g_get K.1 hP (0) (by decide) rfl rfl i_M 7 (by decide) rfl (Or.inl kw_641) rfl d_M_thing_97 ?_
        refine lv_iconst (v := 5) K.hx K.hb d_M_thing_100 (by decide) ?_
        refine lv_aload_n K.hx K.hb d_M_thing_101 rfl (lv_at hl 1 rfl) ?_
        refine g_get K.1 hP (0) (by decide) rfl rfl i_M 2 (by decide) rfl (Or.inl kw_636) rfl d_M_thing_102 ?_
        refine lv_topE (y := (v 0 2)) (by first | (simp [u2_at, kpM]; done) | (simp [u2_at, kpM] <;> (intros; omega)) | (simp only [u2_at, kpM]; (repeat' split) <;> first | rfl | (exfalso; omega))) ?_
        refine lv_topE (y := nI tc) htc ?_
        refine lv_imul K.hx K.hb d_M_thing_105 ?_
        refine lv_topE (y := nI (5 * tc)) (pk_mul _ _) ?_
        refine lv_iload_n K.hx K.hb d_M_thing_106 rfl (lv_at hl 0 rfl) ?_
        refine lv_iadd K.hx K.hb d_M_thing_107 ?_
        refine lv_topE (y := nI (5 * tc + 3)) (nI_add _ _) ?_
        refine lv_iconst (v := 0) K.hx K.hb d_M_thing_108 (by decide) ?_
        refine g_iast K.1 hP hS (5) (by decide) (fun _ => rfl) 0 rfl (5 * tc + 3) rfl (by omega) (by decide) d_M_thing_109 (fun H l1 hP hS => ?_)
        refine lv_iinc (v := 4) (lv' := [(3, .int 4), (0, .ref (ad 0)), (1, .int x), (2, .int y)]) K.hx K.hb d_M_thing_110 hl (k := 0) rfl (by decide) (by decide) rfl (fun ls hl => ?_)
        refine lv_goto (tgt := 91) K.hx K.hb d_M_thing_113 (by decide) ?_
        refine lv_iload_n K.hx K.hb d_M_thing_91 rfl (lv_at hl 0 rfl) ?_
        refine lv_iconst (v := 5) K.hx K.hb d_M_thing_92 (by decide) ?_
        refine lv_icmp_ge (tgt := 116) K.hx K.hb d_M_thing_93 (by decide) (fun c_93_4 => (show False from by revert c_93_4; decide).elim) (fun _ => ?_)
        refine lv_aload_n K.hx K.hb d_M_thing_96 rfl (lv_at hl 1 rfl) ?_
        refine g_get K.1 hP (0) (by decide) rfl rfl i_M 7 (by decide) rfl (Or.inl kw_641) rfl d_M_thing_97 ?_
        refine lv_iconst (v := 5) K.hx K.hb d_M_thing_100 (by decide) ?_
        refine lv_aload_n K.hx K.hb d_M_thing_101 rfl (lv_at hl 1 rfl) ?_
        refine g_get K.1 hP (0) (by decide) rfl rfl i_M 2 (by decide) rfl (Or.inl kw_636) rfl d_M_thing_102 ?_
        refine lv_topE (y := (v 0 2)) (by first | (simp [u2_at, kpM]; done) | (simp [u2_at, kpM] <;> (intros; omega)) | (simp only [u2_at, kpM]; (repeat' split) <;> first | rfl | (exfalso; omega))) ?_
        refine lv_topE (y := nI tc) htc ?_
        refine lv_imul K.hx K.hb d_M_thing_105 ?_
        refine lv_topE (y := nI (5 * tc)) (pk_mul _ _) ?_
        refine lv_iload_n K.hx K.hb d_M_thing_106 rfl (lv_at hl 0 rfl) ?_
        refine lv_iadd K.hx K.hb d_M_thing_107 ?_
        refine lv_topE (y := nI (5 * tc + 4)) (nI_add _ _) ?_
        refine lv_iconst (v := 0) K.hx K.hb d_M_thing_108 (by decide) ?_
        refine g_iast K.1 hP hS (5) (by decide) (fun _ => rfl) 0 rfl (5 * tc + 4) rfl (by omega) (by decide) d_M_thing_109 (fun H l1 hP hS => ?_)
        refine lv_iinc (v := 5) (lv' := [(3, .int 5), (0, .ref (ad 0)), (1, .int x), (2, .int y)]) K.hx K.hb d_M_thing_110 hl (k := 0) rfl (by decide) (by decide) rfl (fun ls hl => ?_)
        refine lv_goto (tgt := 91) K.hx K.hb d_M_thing_113 (by decide) ?_
        refine lv_iload_n K.hx K.hb d_M_thing_91 rfl (lv_at hl 0 rfl) ?_
        refine lv_iconst (v := 5) K.hx K.hb d_M_thing_92 (by decide) ?_
        refine lv_icmp_ge (tgt := 116) K.hx K.hb d_M_thing_93 (by decide) (fun _ => ?_) (fun c_93_5 => (show False from by revert c_93_5; decide).elim)
        refine lv_aload_n K.hx K.hb d_M_thing_116 rfl (lv_at hl 1 rfl) ?_
        refine lv_dup K.hx K.hb d_M_thing_117 rfl ?_
        refine g_get K.1 hP (0) (by decide) rfl rfl i_M 2 (by decide) rfl (Or.inl kw_636) rfl d_M_thing_118 ?_
        refine lv_topE (y := (v 0 2)) (by first | (simp [u2_at, kpM]; done) | (simp [u2_at, kpM] <;> (intros; omega)) | (simp only [u2_at, kpM]; (repeat' split) <;> first | rfl | (exfalso; omega))) ?_
        refine lv_topE (y := nI tc) htc ?_
        refine lv_iconst (v := 1) K.hx K.hb d_M_thing_121 (by decide) ?_
        refine lv_iadd K.hx K.hb d_M_thing_122 ?_
        refine lv_topE (y := nI (tc + 1)) (nI_add _ _) ?_
        refine g_puti K.1 hP hS (0) (by decide) rfl rfl i_M ft_M ft_M_ok n_M 2 (by decide) rfl (Or.inl kw_636) rfl rfl rfl (Nat.le_of_ble_eq_true rfl) rfl d_M_thing_123 (fun H l1 hP hS => ?_)
        refine lv_aload_n K.hx K.hb d_M_thing_126 rfl (lv_at hl 1 rfl) ?_
        refine g_get K.1 hP (0) (by decide) rfl rfl i_M 2 (by decide) rfl (Or.inl kw_636) rfl d_M_thing_127 ?_
        refine lv_topE (y := (nI (tc + 1))) (by first | (simp [u2_at, kpM]; done) | (simp [u2_at, kpM] <;> (intros; omega)) | (simp only [u2_at, kpM]; (repeat' split) <;> first | rfl | (exfalso; omega))) ?_
        refine lv_topE (y := nI (tc + 1)) rfl ?_
        refine lv_iconst (v := 1) K.hx K.hb d_M_thing_130 (by decide) ?_
        refine lv_isub K.hx K.hb d_M_thing_131 ?_
        refine lv_topE (y := nI (tc + 0)) (nI_pred _) ?_
        exact de_i K hP hS (Or.inl ⟨⟨one_ne w_5, one_ne w_15⟩, ht, rfl, rfl, rfl⟩) (Nat.le_of_ble_eq_true rfl) (Nat.le_of_ble_eq_true rfl) d_M_thing_132
set_option maxHeartbeats 4000000 in
set_option maxRecDepth 100000 in
theorem c_M_use (l : Launch) (D : va_G) (cs : Nat → ClassId) (ad : Nat → Nat) (v : Nat → Nat → Int32) (sd : Int64) {tc : Nat} (htc : v 0 2 = nI tc) (ht8 : tc ≤ 8) (x y : Int32)  : Dm l y_M_use b_M_use 4 (some .int) (rmx 2 0) [.ref (ad 0), .int x, .int y] D cs ad v sd (fun r v' sd' => (∃ i, i < tc ∧ x = nI i ∧ barM v i = 0 ∧ ¬ wthZ y 1 1000000 = 0 ∧ r = some (.int (v 3 i + y)) ∧ kpM (u2 (u2 v 0 0 0) 3 i (v 3 i + y)) i y = v' ∧ sd = sd') ∨ ((¬ ∃ i, i < tc ∧ x = nI i) ∧ r = some (.int 0) ∧ u2 v 0 0 1 = v' ∧ sd = sd') ∨ (∃ i, i < tc ∧ x = nI i ∧ ¬ barM v i = 0 ∧ r = some (.int 0) ∧ u2 v 0 0 2 = v' ∧ sd = sd') ∨ (∃ i, i < tc ∧ x = nI i ∧ barM v i = 0 ∧ wthZ y 1 1000000 = 0 ∧ r = some (.int 0) ∧ u2 v 0 0 3 = v' ∧ sd = sd')) (fun cls => False) := by
  refine dw_enter (own := "WearHoursModel") rfl (Nat.le_of_ble_eq_true rfl) ?_
  intro p e s m below meth c ls K hS hP hl
  have hl : lv_has ls 4 [(0, .ref (ad 0)), (1, .int x), (2, .int y)] := hl
  refine lv_aload_n K.hx K.hb d_M_use_0 rfl (lv_at hl 0 rfl) ?_
  refine lv_iload_n K.hx K.hb d_M_use_1 rfl (lv_at hl 1 rfl) ?_
  refine dd_V K hP hS (c_M_isThing l D cs ad _ _ htc ht8 x) kw_759 xm_M_isThing kw_756 kw_758 kw_14 (g_recv K.1.2.1 hP (0) (by decide) rfl rfl) rfl hl.1 d_M_use_2 (Nat.le_of_ble_eq_true rfl) (Nat.le_of_ble_eq_true rfl) ⟨(Nat.le_of_ble_eq_true rfl), (Nat.le_of_ble_eq_true rfl)⟩ (fun r v1 sd1 H l1 hp hP hS => ?_)
  obtain ⟨rfl, rfl, rfl⟩ := hp
  by_cases hx : ∃ i, i < tc ∧ x = nI i
  · refine lv_topE (y := 1) (wth_yes (by omega) hx) ?_
    obtain ⟨i, hi, rfl⟩ := hx
    have hi8 : i < 8 := by omega
    refine lv_istore_n (lv' := [(3, .int 1), (0, .ref (ad 0)), (1, .int (nI i)), (2, .int y)]) K.hx K.hb d_M_use_5 rfl hl (by decide) rfl (fun ls hl => ?_)
    refine lv_aload_n K.hx K.hb d_M_use_6 rfl (lv_at hl 1 rfl) ?_
    refine lv_iload_n K.hx K.hb d_M_use_7 rfl (lv_at hl 0 rfl) ?_
    refine lv_iload_n K.hx K.hb d_M_use_8 rfl (lv_at hl 0 rfl) ?_
    refine lv_if_eq (tgt := 24) K.hx K.hb d_M_use_9 (by decide) (fun c_9 => (show False from by revert c_9; decide).elim) (fun _ => ?_)
    refine lv_aload_n K.hx K.hb d_M_use_12 rfl (lv_at hl 1 rfl) ?_
    refine lv_iload_n K.hx K.hb d_M_use_13 rfl (lv_at hl 2 rfl) ?_
    refine dd_V K hP hS (c_M_isBarred l D cs ad _ _ hi8) kw_763 xm_M_isBarred kw_760 kw_762 kw_15 (g_recv K.1.2.1 hP (0) (by decide) rfl rfl) rfl hl.1 d_M_use_14 (Nat.le_of_ble_eq_true rfl) (Nat.le_of_ble_eq_true rfl) ⟨(Nat.le_of_ble_eq_true rfl), (Nat.le_of_ble_eq_true rfl)⟩ (fun r v1 sd1 H l1 hp hP hS => ?_)
    obtain ⟨rfl, rfl, rfl⟩ := hp
    rcases barM_01 v i with w_14 | w_14
    · refine lv_topE (y := 0) w_14 ?_
      refine lv_if_ne (tgt := 24) K.hx K.hb d_M_use_17 (by decide) (fun c_17 => (show False from by revert c_17; decide).elim) (fun _ => ?_)
      refine lv_iconst (v := 1) K.hx K.hb d_M_use_20 (by decide) ?_
      refine lv_goto (tgt := 25) K.hx K.hb d_M_use_21 (by decide) ?_
      refine lv_iload_n K.hx K.hb d_M_use_25 rfl (lv_at hl 3 rfl) ?_
      refine lv_iconst (v := 1) K.hx K.hb d_M_use_26 (by decide) ?_
      refine lv_ldc (v := 1000000) K.hx K.hb K.1.1.2.2.2.1 (K.1.1.2.2.2.2 _ kw_744) d_M_use_27 ?_
      refine dd_S K hP hS (c_M_in l D cs ad _ _ y 1 1000000) kw_747 xm_M_in kw_745 kw_746 kw_29 rfl hl.1 d_M_use_29 (Nat.le_of_ble_eq_true rfl) (Nat.le_of_ble_eq_true rfl) ⟨(Nat.le_of_ble_eq_true rfl), (Nat.le_of_ble_eq_true rfl)⟩ (fun r v1 sd1 H l1 hp hP hS => ?_)
      obtain ⟨rfl, rfl, rfl⟩ := hp
      rcases wth_01 y 1 1000000 with w_29 | w_29
      · refine lv_topE (y := 0) w_29 ?_
        refine dd_V K hP hS (c_M_goes l D cs ad _ _ 1 1 0) kw_751 xm_M_goes kw_748 kw_750 kw_13 (g_recv K.1.2.1 hP (0) (by decide) rfl rfl) rfl hl.1 d_M_use_32 (Nat.le_of_ble_eq_true rfl) (Nat.le_of_ble_eq_true rfl) ⟨(Nat.le_of_ble_eq_true rfl), (Nat.le_of_ble_eq_true rfl)⟩ (fun r v1 sd1 H l1 hp hP hS => ?_)
        obtain ⟨rfl, rfl, rfl⟩ := hp
        have hgz : gz 1 1 0 = 3 := by decide
        rw [hgz] at hP
        refine lv_topE (y := 0) (by rw [hgz]; decide) ?_
        refine lv_if_ne (tgt := 40) K.hx K.hb d_M_use_35 (by decide) (fun c_35 => (show False from by revert c_35; decide).elim) (fun _ => ?_)
        refine lv_iconst (v := 0) K.hx K.hb d_M_use_38 (by decide) ?_
        exact de_i K hP hS (Or.inr (Or.inr (Or.inr ⟨i, hi, rfl, w_14, w_29, rfl, rfl, rfl⟩))) (Nat.le_of_ble_eq_true rfl) (Nat.le_of_ble_eq_true rfl) d_M_use_39
      · refine lv_topE (y := 1) w_29 ?_
        refine dd_V K hP hS (c_M_goes l D cs ad _ _ 1 1 1) kw_751 xm_M_goes kw_748 kw_750 kw_13 (g_recv K.1.2.1 hP (0) (by decide) rfl rfl) rfl hl.1 d_M_use_32 (Nat.le_of_ble_eq_true rfl) (Nat.le_of_ble_eq_true rfl) ⟨(Nat.le_of_ble_eq_true rfl), (Nat.le_of_ble_eq_true rfl)⟩ (fun r v1 sd1 H l1 hp hP hS => ?_)
        obtain ⟨rfl, rfl, rfl⟩ := hp
        have hgz : gz 1 1 1 = 0 := by decide
        rw [hgz] at hP
        refine lv_topE (y := 1) (by rw [hgz]; decide) ?_
        refine lv_if_ne (tgt := 40) K.hx K.hb d_M_use_35 (by decide) (fun _ => ?_) (fun c_35 => (show False from by revert c_35; decide).elim)
        refine lv_aload_n K.hx K.hb d_M_use_40 rfl (lv_at hl 1 rfl) ?_
        refine g_get K.1 hP (0) (by decide) rfl rfl i_M 5 (by decide) rfl (Or.inl kw_639) rfl d_M_use_41 ?_
        refine lv_iload_n K.hx K.hb d_M_use_44 rfl (lv_at hl 2 rfl) ?_
        refine lv_aload_n K.hx K.hb d_M_use_45 rfl (lv_at hl 1 rfl) ?_
        refine g_get K.1 hP (0) (by decide) rfl rfl i_M 5 (by decide) rfl (Or.inl kw_639) rfl d_M_use_46 ?_
        refine lv_iload_n K.hx K.hb d_M_use_49 rfl (lv_at hl 2 rfl) ?_
        refine g_iald K.1 hP (3) (by decide) rfl 0 rfl (i) rfl (by omega) (by decide) d_M_use_50 ?_
        refine lv_topE (y := (v 3 i)) (by first | (simp [u2_at, kpM]; done) | (simp [u2_at, kpM] <;> (intros; omega)) | (simp only [u2_at, kpM]; (repeat' split) <;> first | rfl | (exfalso; omega))) ?_
        refine lv_iload_n K.hx K.hb d_M_use_51 rfl (lv_at hl 3 rfl) ?_
        refine lv_iadd K.hx K.hb d_M_use_52 ?_
        refine g_iast K.1 hP hS (3) (by decide) (fun _ => rfl) 0 rfl (i) rfl (by omega) (by decide) d_M_use_53 (fun H l1 hP hS => ?_)
        refine lv_aload_n K.hx K.hb d_M_use_54 rfl (lv_at hl 1 rfl) ?_
        refine lv_iload_n K.hx K.hb d_M_use_55 rfl (lv_at hl 2 rfl) ?_
        refine lv_iload_n K.hx K.hb d_M_use_56 rfl (lv_at hl 3 rfl) ?_
        refine dd_V K hP hS (c_M_keep l D cs ad _ _ hi8 y) kw_767 xm_M_keep kw_764 kw_766 kw_16 (g_recv K.1.2.1 hP (0) (by decide) rfl rfl) rfl hl.1 d_M_use_57 (Nat.le_of_ble_eq_true rfl) (Nat.le_of_ble_eq_true rfl) ⟨(Nat.le_of_ble_eq_true rfl), (Nat.le_of_ble_eq_true rfl)⟩ (fun r v1 sd1 H l1 hp hP hS => ?_)
        obtain ⟨rfl, rfl, rfl⟩ := hp
        refine lv_aload_n K.hx K.hb d_M_use_60 rfl (lv_at hl 1 rfl) ?_
        refine g_get K.1 hP (0) (by decide) rfl rfl i_M 5 (by decide) rfl (Or.inl kw_639) rfl d_M_use_61 ?_
        refine lv_iload_n K.hx K.hb d_M_use_64 rfl (lv_at hl 2 rfl) ?_
        refine g_iald K.1 hP (3) (by decide) rfl 0 rfl (i) rfl (by omega) (by decide) d_M_use_65 ?_
        refine lv_topE (y := ((v 3 i) + y)) (by first | (simp [u2_at, kpM]; done) | (simp [u2_at, kpM] <;> (intros; omega)) | (simp only [u2_at, kpM]; (repeat' split) <;> first | rfl | (exfalso; omega))) ?_
        exact de_i K hP hS (Or.inl ⟨i, hi, rfl, w_14, one_ne w_29, by simp [kpM, u2_at], rfl, rfl⟩) (Nat.le_of_ble_eq_true rfl) (Nat.le_of_ble_eq_true rfl) d_M_use_66
    · refine lv_topE (y := 1) w_14 ?_
      refine lv_if_ne (tgt := 24) K.hx K.hb d_M_use_17 (by decide) (fun _ => ?_) (fun c_17 => (show False from by revert c_17; decide).elim)
      refine lv_iconst (v := 0) K.hx K.hb d_M_use_24 (by decide) ?_
      refine lv_iload_n K.hx K.hb d_M_use_25 rfl (lv_at hl 3 rfl) ?_
      refine lv_iconst (v := 1) K.hx K.hb d_M_use_26 (by decide) ?_
      refine lv_ldc (v := 1000000) K.hx K.hb K.1.1.2.2.2.1 (K.1.1.2.2.2.2 _ kw_744) d_M_use_27 ?_
      refine dd_S K hP hS (c_M_in l D cs ad _ _ y 1 1000000) kw_747 xm_M_in kw_745 kw_746 kw_29 rfl hl.1 d_M_use_29 (Nat.le_of_ble_eq_true rfl) (Nat.le_of_ble_eq_true rfl) ⟨(Nat.le_of_ble_eq_true rfl), (Nat.le_of_ble_eq_true rfl)⟩ (fun r v1 sd1 H l1 hp hP hS => ?_)
      obtain ⟨rfl, rfl, rfl⟩ := hp
      rcases wth_01 y 1 1000000 with w_29 | w_29
      · refine lv_topE (y := 0) w_29 ?_
        refine dd_V K hP hS (c_M_goes l D cs ad _ _ 1 0 0) kw_751 xm_M_goes kw_748 kw_750 kw_13 (g_recv K.1.2.1 hP (0) (by decide) rfl rfl) rfl hl.1 d_M_use_32 (Nat.le_of_ble_eq_true rfl) (Nat.le_of_ble_eq_true rfl) ⟨(Nat.le_of_ble_eq_true rfl), (Nat.le_of_ble_eq_true rfl)⟩ (fun r v1 sd1 H l1 hp hP hS => ?_)
        obtain ⟨rfl, rfl, rfl⟩ := hp
        have hgz : gz 1 0 0 = 2 := by decide
        rw [hgz] at hP
        refine lv_topE (y := 0) (by rw [hgz]; decide) ?_
        refine lv_if_ne (tgt := 40) K.hx K.hb d_M_use_35 (by decide) (fun c_35 => (show False from by revert c_35; decide).elim) (fun _ => ?_)
        refine lv_iconst (v := 0) K.hx K.hb d_M_use_38 (by decide) ?_
        exact de_i K hP hS (Or.inr (Or.inr (Or.inl ⟨i, hi, rfl, one_ne w_14, rfl, rfl, rfl⟩))) (Nat.le_of_ble_eq_true rfl) (Nat.le_of_ble_eq_true rfl) d_M_use_39
      · refine lv_topE (y := 1) w_29 ?_
        refine dd_V K hP hS (c_M_goes l D cs ad _ _ 1 0 1) kw_751 xm_M_goes kw_748 kw_750 kw_13 (g_recv K.1.2.1 hP (0) (by decide) rfl rfl) rfl hl.1 d_M_use_32 (Nat.le_of_ble_eq_true rfl) (Nat.le_of_ble_eq_true rfl) ⟨(Nat.le_of_ble_eq_true rfl), (Nat.le_of_ble_eq_true rfl)⟩ (fun r v1 sd1 H l1 hp hP hS => ?_)
        obtain ⟨rfl, rfl, rfl⟩ := hp
        have hgz : gz 1 0 1 = 2 := by decide
        rw [hgz] at hP
        refine lv_topE (y := 0) (by rw [hgz]; decide) ?_
        refine lv_if_ne (tgt := 40) K.hx K.hb d_M_use_35 (by decide) (fun c_35 => (show False from by revert c_35; decide).elim) (fun _ => ?_)
        refine lv_iconst (v := 0) K.hx K.hb d_M_use_38 (by decide) ?_
        exact de_i K hP hS (Or.inr (Or.inr (Or.inl ⟨i, hi, rfl, one_ne w_14, rfl, rfl, rfl⟩))) (Nat.le_of_ble_eq_true rfl) (Nat.le_of_ble_eq_true rfl) d_M_use_39
  · refine lv_topE (y := 0) (wth_no (by omega) hx) ?_
    refine lv_istore_n (lv' := [(3, .int 0), (0, .ref (ad 0)), (1, .int x), (2, .int y)]) K.hx K.hb d_M_use_5 rfl hl (by decide) rfl (fun ls hl => ?_)
    refine lv_aload_n K.hx K.hb d_M_use_6 rfl (lv_at hl 1 rfl) ?_
    refine lv_iload_n K.hx K.hb d_M_use_7 rfl (lv_at hl 0 rfl) ?_
    refine lv_iload_n K.hx K.hb d_M_use_8 rfl (lv_at hl 0 rfl) ?_
    refine lv_if_eq (tgt := 24) K.hx K.hb d_M_use_9 (by decide) (fun _ => ?_) (fun c_9 => (show False from by revert c_9; decide).elim)
    refine lv_iconst (v := 0) K.hx K.hb d_M_use_24 (by decide) ?_
    refine lv_iload_n K.hx K.hb d_M_use_25 rfl (lv_at hl 3 rfl) ?_
    refine lv_iconst (v := 1) K.hx K.hb d_M_use_26 (by decide) ?_
    refine lv_ldc (v := 1000000) K.hx K.hb K.1.1.2.2.2.1 (K.1.1.2.2.2.2 _ kw_744) d_M_use_27 ?_
    refine dd_S K hP hS (c_M_in l D cs ad _ _ y 1 1000000) kw_747 xm_M_in kw_745 kw_746 kw_29 rfl hl.1 d_M_use_29 (Nat.le_of_ble_eq_true rfl) (Nat.le_of_ble_eq_true rfl) ⟨(Nat.le_of_ble_eq_true rfl), (Nat.le_of_ble_eq_true rfl)⟩ (fun r v1 sd1 H l1 hp hP hS => ?_)
    obtain ⟨rfl, rfl, rfl⟩ := hp
    rcases wth_01 y 1 1000000 with w_29 | w_29
    · refine lv_topE (y := 0) w_29 ?_
      refine dd_V K hP hS (c_M_goes l D cs ad _ _ 0 0 0) kw_751 xm_M_goes kw_748 kw_750 kw_13 (g_recv K.1.2.1 hP (0) (by decide) rfl rfl) rfl hl.1 d_M_use_32 (Nat.le_of_ble_eq_true rfl) (Nat.le_of_ble_eq_true rfl) ⟨(Nat.le_of_ble_eq_true rfl), (Nat.le_of_ble_eq_true rfl)⟩ (fun r v1 sd1 H l1 hp hP hS => ?_)
      obtain ⟨rfl, rfl, rfl⟩ := hp
      have hgz : gz 0 0 0 = 1 := by decide
      rw [hgz] at hP
      refine lv_topE (y := 0) (by rw [hgz]; decide) ?_
      refine lv_if_ne (tgt := 40) K.hx K.hb d_M_use_35 (by decide) (fun c_35 => (show False from by revert c_35; decide).elim) (fun _ => ?_)
      refine lv_iconst (v := 0) K.hx K.hb d_M_use_38 (by decide) ?_
      exact de_i K hP hS (Or.inr (Or.inl ⟨hx, rfl, rfl, rfl⟩)) (Nat.le_of_ble_eq_true rfl) (Nat.le_of_ble_eq_true rfl) d_M_use_39
    · refine lv_topE (y := 1) w_29 ?_
      refine dd_V K hP hS (c_M_goes l D cs ad _ _ 0 0 1) kw_751 xm_M_goes kw_748 kw_750 kw_13 (g_recv K.1.2.1 hP (0) (by decide) rfl rfl) rfl hl.1 d_M_use_32 (Nat.le_of_ble_eq_true rfl) (Nat.le_of_ble_eq_true rfl) ⟨(Nat.le_of_ble_eq_true rfl), (Nat.le_of_ble_eq_true rfl)⟩ (fun r v1 sd1 H l1 hp hP hS => ?_)
      obtain ⟨rfl, rfl, rfl⟩ := hp
      have hgz : gz 0 0 1 = 1 := by decide
      rw [hgz] at hP
      refine lv_topE (y := 0) (by rw [hgz]; decide) ?_
      refine lv_if_ne (tgt := 40) K.hx K.hb d_M_use_35 (by decide) (fun c_35 => (show False from by revert c_35; decide).elim) (fun _ => ?_)
      refine lv_iconst (v := 0) K.hx K.hb d_M_use_38 (by decide) ?_
      exact de_i K hP hS (Or.inr (Or.inl ⟨hx, rfl, rfl, rfl⟩)) (Nat.le_of_ble_eq_true rfl) (Nat.le_of_ble_eq_true rfl) d_M_use_39
set_option maxHeartbeats 4000000 in
set_option maxRecDepth 100000 in
theorem c_M_told (l : Launch) (D : va_G) (cs : Nat → ClassId) (ad : Nat → Nat) (v : Nat → Nat → Int32) (sd : Int64) {tc : Nat} (htc : v 0 2 = nI tc) (ht8 : tc ≤ 8) (x y : Int32)  : Dm l y_M_told b_M_told 3 (some .int) (rmx 2 0) [.ref (ad 0), .int x, .int y] D cs ad v sd (fun r v' sd' => (∃ i, i < tc ∧ x = nI i ∧ ¬ wthZ y 0 2 = 0 ∧ r = some (.int (if y = 0 then v 3 i else if y = 1 then barM v i else if v 2 i ≤ v 3 i then 0 else v 2 i - v 3 i)) ∧ u2 v 0 0 0 = v' ∧ sd = sd') ∨ (¬ ((∃ i, i < tc ∧ x = nI i) ∧ ¬ wthZ y 0 2 = 0) ∧ r = some (.int 0) ∧ u2 v 0 0 1 = v' ∧ sd = sd')) (fun cls => False) := by
  refine dw_enter (own := "WearHoursModel") rfl (Nat.le_of_ble_eq_true rfl) ?_
  intro p e s m below meth c ls K hS hP hl
  have hl : lv_has ls 3 [(0, .ref (ad 0)), (1, .int x), (2, .int y)] := hl
  refine lv_aload_n K.hx K.hb d_M_told_0 rfl (lv_at hl 0 rfl) ?_
  refine lv_aload_n K.hx K.hb d_M_told_1 rfl (lv_at hl 0 rfl) ?_
  refine lv_iload_n K.hx K.hb d_M_told_2 rfl (lv_at hl 1 rfl) ?_
  refine dd_V K hP hS (c_M_isThing l D cs ad _ _ htc ht8 x) kw_759 xm_M_isThing kw_756 kw_758 kw_14 (g_recv K.1.2.1 hP (0) (by decide) rfl rfl) rfl hl.1 d_M_told_3 (Nat.le_of_ble_eq_true rfl) (Nat.le_of_ble_eq_true rfl) ⟨(Nat.le_of_ble_eq_true rfl), (Nat.le_of_ble_eq_true rfl)⟩ (fun r v1 sd1 H l1 hp hP hS => ?_)
  obtain ⟨rfl, rfl, rfl⟩ := hp
  by_cases hx : ∃ i, i < tc ∧ x = nI i
  · refine lv_topE (y := 1) (wth_yes (by omega) hx) ?_
    obtain ⟨i, hi, rfl⟩ := hx
    have hi8 : i < 8 := by omega
    refine lv_if_eq (tgt := 22) K.hx K.hb d_M_told_6 (by decide) (fun c_6 => (show False from by revert c_6; decide).elim) (fun _ => ?_)
    refine lv_iload_n K.hx K.hb d_M_told_9 rfl (lv_at hl 2 rfl) ?_
    refine lv_iconst (v := 0) K.hx K.hb d_M_told_10 (by decide) ?_
    refine lv_iconst (v := 2) K.hx K.hb d_M_told_11 (by decide) ?_
    refine dd_S K hP hS (c_M_in l D cs ad _ _ y 0 2) kw_747 xm_M_in kw_745 kw_746 kw_29 rfl hl.1 d_M_told_12 (Nat.le_of_ble_eq_true rfl) (Nat.le_of_ble_eq_true rfl) ⟨(Nat.le_of_ble_eq_true rfl), (Nat.le_of_ble_eq_true rfl)⟩ (fun r v1 sd1 H l1 hp hP hS => ?_)
    obtain ⟨rfl, rfl, rfl⟩ := hp
    rcases wth_01 y 0 2 with w_12 | w_12
    · refine lv_topE (y := 0) w_12 ?_
      refine lv_if_eq (tgt := 22) K.hx K.hb d_M_told_15 (by decide) (fun _ => ?_) (fun c_15 => (show False from by revert c_15; decide).elim)
      refine lv_iconst (v := 0) K.hx K.hb d_M_told_22 (by decide) ?_
      refine lv_iconst (v := 1) K.hx K.hb d_M_told_23 (by decide) ?_
      refine lv_iconst (v := 1) K.hx K.hb d_M_told_24 (by decide) ?_
      refine dd_V K hP hS (c_M_goes l D cs ad _ _ 0 1 1) kw_751 xm_M_goes kw_748 kw_750 kw_13 (g_recv K.1.2.1 hP (0) (by decide) rfl rfl) rfl hl.1 d_M_told_25 (Nat.le_of_ble_eq_true rfl) (Nat.le_of_ble_eq_true rfl) ⟨(Nat.le_of_ble_eq_true rfl), (Nat.le_of_ble_eq_true rfl)⟩ (fun r v1 sd1 H l1 hp hP hS => ?_)
      obtain ⟨rfl, rfl, rfl⟩ := hp
      have hgz : gz 0 1 1 = 1 := by decide
      rw [hgz] at hP
      refine lv_topE (y := 0) (by rw [hgz]; decide) ?_
      refine lv_if_ne (tgt := 33) K.hx K.hb d_M_told_28 (by decide) (fun c_28 => (show False from by revert c_28; decide).elim) (fun _ => ?_)
      refine lv_iconst (v := 0) K.hx K.hb d_M_told_31 (by decide) ?_
      exact de_i K hP hS (Or.inr ⟨(fun h => h.2 w_12), rfl, rfl, rfl⟩) (Nat.le_of_ble_eq_true rfl) (Nat.le_of_ble_eq_true rfl) d_M_told_32
    · refine lv_topE (y := 1) w_12 ?_
      refine lv_if_eq (tgt := 22) K.hx K.hb d_M_told_15 (by decide) (fun c_15 => (show False from by revert c_15; decide).elim) (fun _ => ?_)
      refine lv_iconst (v := 1) K.hx K.hb d_M_told_18 (by decide) ?_
      refine lv_goto (tgt := 23) K.hx K.hb d_M_told_19 (by decide) ?_
      refine lv_iconst (v := 1) K.hx K.hb d_M_told_23 (by decide) ?_
      refine lv_iconst (v := 1) K.hx K.hb d_M_told_24 (by decide) ?_
      refine dd_V K hP hS (c_M_goes l D cs ad _ _ 1 1 1) kw_751 xm_M_goes kw_748 kw_750 kw_13 (g_recv K.1.2.1 hP (0) (by decide) rfl rfl) rfl hl.1 d_M_told_25 (Nat.le_of_ble_eq_true rfl) (Nat.le_of_ble_eq_true rfl) ⟨(Nat.le_of_ble_eq_true rfl), (Nat.le_of_ble_eq_true rfl)⟩ (fun r v1 sd1 H l1 hp hP hS => ?_)
      obtain ⟨rfl, rfl, rfl⟩ := hp
      have hgz : gz 1 1 1 = 0 := by decide
      rw [hgz] at hP
      refine lv_topE (y := 1) (by rw [hgz]; decide) ?_
      refine lv_if_ne (tgt := 33) K.hx K.hb d_M_told_28 (by decide) (fun _ => ?_) (fun c_28 => (show False from by revert c_28; decide).elim)
      refine lv_iload_n K.hx K.hb d_M_told_33 rfl (lv_at hl 2 rfl) ?_
      refine lv_if_ne (tgt := 44) K.hx K.hb d_M_told_34 (by decide) (fun c_34 => ?_) (fun c_34 => ?_)
      · refine lv_iload_n K.hx K.hb d_M_told_44 rfl (lv_at hl 2 rfl) ?_
        refine lv_iconst (v := 1) K.hx K.hb d_M_told_45 (by decide) ?_
        refine lv_icmp_ne (tgt := 63) K.hx K.hb d_M_told_46 (by decide) (fun c_46 => ?_) (fun c_46 => ?_)
        · refine lv_aload_n K.hx K.hb d_M_told_63 rfl (lv_at hl 0 rfl) ?_
          refine g_get K.1 hP (0) (by decide) rfl rfl i_M 4 (by decide) rfl (Or.inl kw_638) rfl d_M_told_64 ?_
          refine lv_iload_n K.hx K.hb d_M_told_67 rfl (lv_at hl 1 rfl) ?_
          refine g_iald K.1 hP (2) (by decide) rfl 0 rfl (i) rfl (by omega) (by decide) d_M_told_68 ?_
          refine lv_topE (y := (v 2 i)) (by first | (simp [u2_at, kpM]; done) | (simp [u2_at, kpM] <;> (intros; omega)) | (simp only [u2_at, kpM]; (repeat' split) <;> first | rfl | (exfalso; omega))) ?_
          refine lv_aload_n K.hx K.hb d_M_told_69 rfl (lv_at hl 0 rfl) ?_
          refine g_get K.1 hP (0) (by decide) rfl rfl i_M 5 (by decide) rfl (Or.inl kw_639) rfl d_M_told_70 ?_
          refine lv_iload_n K.hx K.hb d_M_told_73 rfl (lv_at hl 1 rfl) ?_
          refine g_iald K.1 hP (3) (by decide) rfl 0 rfl (i) rfl (by omega) (by decide) d_M_told_74 ?_
          refine lv_topE (y := (v 3 i)) (by first | (simp [u2_at, kpM]; done) | (simp [u2_at, kpM] <;> (intros; omega)) | (simp only [u2_at, kpM]; (repeat' split) <;> first | rfl | (exfalso; omega))) ?_
          refine lv_icmp_le (tgt := 94) K.hx K.hb d_M_told_75 (by decide) (fun c_75 => ?_) (fun c_75 => ?_)
          · refine lv_iconst (v := 0) K.hx K.hb d_M_told_94 (by decide) ?_
            exact de_i K hP hS (Or.inl ⟨i, hi, rfl, one_ne w_12, by rw [if_neg c_34, if_neg c_46, if_pos c_75], rfl, rfl⟩) (Nat.le_of_ble_eq_true rfl) (Nat.le_of_ble_eq_true rfl) d_M_told_95
          · refine lv_aload_n K.hx K.hb d_M_told_78 rfl (lv_at hl 0 rfl) ?_
            refine g_get K.1 hP (0) (by decide) rfl rfl i_M 4 (by decide) rfl (Or.inl kw_638) rfl d_M_told_79 ?_
            refine lv_iload_n K.hx K.hb d_M_told_82 rfl (lv_at hl 1 rfl) ?_
            refine g_iald K.1 hP (2) (by decide) rfl 0 rfl (i) rfl (by omega) (by decide) d_M_told_83 ?_
            refine lv_topE (y := (v 2 i)) (by first | (simp [u2_at, kpM]; done) | (simp [u2_at, kpM] <;> (intros; omega)) | (simp only [u2_at, kpM]; (repeat' split) <;> first | rfl | (exfalso; omega))) ?_
            refine lv_aload_n K.hx K.hb d_M_told_84 rfl (lv_at hl 0 rfl) ?_
            refine g_get K.1 hP (0) (by decide) rfl rfl i_M 5 (by decide) rfl (Or.inl kw_639) rfl d_M_told_85 ?_
            refine lv_iload_n K.hx K.hb d_M_told_88 rfl (lv_at hl 1 rfl) ?_
            refine g_iald K.1 hP (3) (by decide) rfl 0 rfl (i) rfl (by omega) (by decide) d_M_told_89 ?_
            refine lv_topE (y := (v 3 i)) (by first | (simp [u2_at, kpM]; done) | (simp [u2_at, kpM] <;> (intros; omega)) | (simp only [u2_at, kpM]; (repeat' split) <;> first | rfl | (exfalso; omega))) ?_
            refine lv_isub K.hx K.hb d_M_told_90 ?_
            refine lv_goto (tgt := 95) K.hx K.hb d_M_told_91 (by decide) ?_
            exact de_i K hP hS (Or.inl ⟨i, hi, rfl, one_ne w_12, by rw [if_neg c_34, if_neg c_46, if_neg c_75], rfl, rfl⟩) (Nat.le_of_ble_eq_true rfl) (Nat.le_of_ble_eq_true rfl) d_M_told_95
        · refine lv_aload_n K.hx K.hb d_M_told_49 rfl (lv_at hl 0 rfl) ?_
          refine lv_iload_n K.hx K.hb d_M_told_50 rfl (lv_at hl 1 rfl) ?_
          refine dd_V K hP hS (c_M_isBarred l D cs ad _ _ hi8) kw_763 xm_M_isBarred kw_760 kw_762 kw_15 (g_recv K.1.2.1 hP (0) (by decide) rfl rfl) rfl hl.1 d_M_told_51 (Nat.le_of_ble_eq_true rfl) (Nat.le_of_ble_eq_true rfl) ⟨(Nat.le_of_ble_eq_true rfl), (Nat.le_of_ble_eq_true rfl)⟩ (fun r v1 sd1 H l1 hp hP hS => ?_)
          obtain ⟨rfl, rfl, rfl⟩ := hp
          rcases barM_01 (u2 v 0 0 0) i with w_51 | w_51
          · refine lv_topE (y := 0) w_51 ?_
            refine lv_if_eq (tgt := 61) K.hx K.hb d_M_told_54 (by decide) (fun _ => ?_) (fun c_54 => (show False from by revert c_54; decide).elim)
            refine lv_iconst (v := 0) K.hx K.hb d_M_told_61 (by decide) ?_
            exact de_i K hP hS (Or.inl ⟨i, hi, rfl, one_ne w_12, by first | (simp_all [u2_at]; done) | (simp_all [u2_at, barM]; done), rfl, rfl⟩) (Nat.le_of_ble_eq_true rfl) (Nat.le_of_ble_eq_true rfl) d_M_told_62
          · refine lv_topE (y := 1) w_51 ?_
            refine lv_if_eq (tgt := 61) K.hx K.hb d_M_told_54 (by decide) (fun c_54 => (show False from by revert c_54; decide).elim) (fun _ => ?_)
            refine lv_iconst (v := 1) K.hx K.hb d_M_told_57 (by decide) ?_
            refine lv_goto (tgt := 62) K.hx K.hb d_M_told_58 (by decide) ?_
            exact de_i K hP hS (Or.inl ⟨i, hi, rfl, one_ne w_12, by first | (simp_all [u2_at]; done) | (simp_all [u2_at, barM]; done), rfl, rfl⟩) (Nat.le_of_ble_eq_true rfl) (Nat.le_of_ble_eq_true rfl) d_M_told_62
      · refine lv_aload_n K.hx K.hb d_M_told_37 rfl (lv_at hl 0 rfl) ?_
        refine g_get K.1 hP (0) (by decide) rfl rfl i_M 5 (by decide) rfl (Or.inl kw_639) rfl d_M_told_38 ?_
        refine lv_iload_n K.hx K.hb d_M_told_41 rfl (lv_at hl 1 rfl) ?_
        refine g_iald K.1 hP (3) (by decide) rfl 0 rfl (i) rfl (by omega) (by decide) d_M_told_42 ?_
        refine lv_topE (y := (v 3 i)) (by first | (simp [u2_at, kpM]; done) | (simp [u2_at, kpM] <;> (intros; omega)) | (simp only [u2_at, kpM]; (repeat' split) <;> first | rfl | (exfalso; omega))) ?_
        exact de_i K hP hS (Or.inl ⟨i, hi, rfl, one_ne w_12, by first | (simp_all [u2_at]; done) | (simp_all [u2_at, barM]; done), rfl, rfl⟩) (Nat.le_of_ble_eq_true rfl) (Nat.le_of_ble_eq_true rfl) d_M_told_43
  · refine lv_topE (y := 0) (wth_no (by omega) hx) ?_
    refine lv_if_eq (tgt := 22) K.hx K.hb d_M_told_6 (by decide) (fun _ => ?_) (fun c_6 => (show False from by revert c_6; decide).elim)
    refine lv_iconst (v := 0) K.hx K.hb d_M_told_22 (by decide) ?_
    refine lv_iconst (v := 1) K.hx K.hb d_M_told_23 (by decide) ?_
    refine lv_iconst (v := 1) K.hx K.hb d_M_told_24 (by decide) ?_
    refine dd_V K hP hS (c_M_goes l D cs ad _ _ 0 1 1) kw_751 xm_M_goes kw_748 kw_750 kw_13 (g_recv K.1.2.1 hP (0) (by decide) rfl rfl) rfl hl.1 d_M_told_25 (Nat.le_of_ble_eq_true rfl) (Nat.le_of_ble_eq_true rfl) ⟨(Nat.le_of_ble_eq_true rfl), (Nat.le_of_ble_eq_true rfl)⟩ (fun r v1 sd1 H l1 hp hP hS => ?_)
    obtain ⟨rfl, rfl, rfl⟩ := hp
    have hgz : gz 0 1 1 = 1 := by decide
    rw [hgz] at hP
    refine lv_topE (y := 0) (by rw [hgz]; decide) ?_
    refine lv_if_ne (tgt := 33) K.hx K.hb d_M_told_28 (by decide) (fun c_28 => (show False from by revert c_28; decide).elim) (fun _ => ?_)
    refine lv_iconst (v := 0) K.hx K.hb d_M_told_31 (by decide) ?_
    exact de_i K hP hS (Or.inr ⟨(fun h => hx h.1), rfl, rfl, rfl⟩) (Nat.le_of_ble_eq_true rfl) (Nat.le_of_ble_eq_true rfl) d_M_told_32
set_option maxHeartbeats 4000000 in
set_option maxRecDepth 100000 in
theorem c_M_left (l : Launch) (D : va_G) (cs : Nat → ClassId) (ad : Nat → Nat) (v : Nat → Nat → Int32) (sd : Int64) {tc : Nat} (htc : v 0 2 = nI tc) (ht8 : tc ≤ 8) (x y : Int32)  : Dm l y_M_left b_M_left 7 (some .int) (rmx 2 0) [.ref (ad 0), .int x, .int y] D cs ad v sd (fun r v' sd' => (∃ i, i < tc ∧ x = nI i ∧ ¬ wthZ y 0 1000 = 0 ∧ r = some (.int (if lfD (v 1 i) (lfZ sd i y) ≤ v 3 i then 0 else lfD (v 1 i) (lfZ sd i y) - v 3 i)) ∧ u2 v 0 0 0 = v' ∧ sd = sd') ∨ ((¬ ∃ i, i < tc ∧ x = nI i) ∧ r = some (.int 0) ∧ u2 v 0 0 1 = v' ∧ sd = sd') ∨ ((∃ i, i < tc ∧ x = nI i) ∧ wthZ y 0 1000 = 0 ∧ r = some (.int 0) ∧ u2 v 0 0 2 = v' ∧ sd = sd')) (fun cls => False) := by
  refine dw_enter (own := "WearHoursModel") rfl (Nat.le_of_ble_eq_true rfl) ?_
  intro p e s m below meth c ls K hS hP hl
  have hl : lv_has ls 7 [(0, .ref (ad 0)), (1, .int x), (2, .int y)] := hl
  refine lv_aload_n K.hx K.hb d_M_left_0 rfl (lv_at hl 0 rfl) ?_
  refine lv_aload_n K.hx K.hb d_M_left_1 rfl (lv_at hl 0 rfl) ?_
  refine lv_iload_n K.hx K.hb d_M_left_2 rfl (lv_at hl 1 rfl) ?_
  refine dd_V K hP hS (c_M_isThing l D cs ad _ _ htc ht8 x) kw_759 xm_M_isThing kw_756 kw_758 kw_14 (g_recv K.1.2.1 hP (0) (by decide) rfl rfl) rfl hl.1 d_M_left_3 (Nat.le_of_ble_eq_true rfl) (Nat.le_of_ble_eq_true rfl) ⟨(Nat.le_of_ble_eq_true rfl), (Nat.le_of_ble_eq_true rfl)⟩ (fun r v1 sd1 H l1 hp hP hS => ?_)
  obtain ⟨rfl, rfl, rfl⟩ := hp
  by_cases hx : ∃ i, i < tc ∧ x = nI i
  · refine lv_topE (y := 1) (wth_yes (by omega) hx) ?_
    obtain ⟨i, hi, rfl⟩ := hx
    have hi8 : i < 8 := by omega
    refine lv_iload_n K.hx K.hb d_M_left_6 rfl (lv_at hl 2 rfl) ?_
    refine lv_iconst (v := 0) K.hx K.hb d_M_left_7 (by decide) ?_
    refine lv_sipush (v := 1000) K.hx K.hb d_M_left_8 (by decide) ?_
    refine dd_S K hP hS (c_M_in l D cs ad _ _ y 0 1000) kw_747 xm_M_in kw_745 kw_746 kw_29 rfl hl.1 d_M_left_11 (Nat.le_of_ble_eq_true rfl) (Nat.le_of_ble_eq_true rfl) ⟨(Nat.le_of_ble_eq_true rfl), (Nat.le_of_ble_eq_true rfl)⟩ (fun r v1 sd1 H l1 hp hP hS => ?_)
    obtain ⟨rfl, rfl, rfl⟩ := hp
    rcases wth_01 y 0 1000 with w_11 | w_11
    · refine lv_topE (y := 0) w_11 ?_
      refine lv_iconst (v := 1) K.hx K.hb d_M_left_14 (by decide) ?_
      refine dd_V K hP hS (c_M_goes l D cs ad _ _ 1 0 1) kw_751 xm_M_goes kw_748 kw_750 kw_13 (g_recv K.1.2.1 hP (0) (by decide) rfl rfl) rfl hl.1 d_M_left_15 (Nat.le_of_ble_eq_true rfl) (Nat.le_of_ble_eq_true rfl) ⟨(Nat.le_of_ble_eq_true rfl), (Nat.le_of_ble_eq_true rfl)⟩ (fun r v1 sd1 H l1 hp hP hS => ?_)
      obtain ⟨rfl, rfl, rfl⟩ := hp
      have hgz : gz 1 0 1 = 2 := by decide
      rw [hgz] at hP
      refine lv_topE (y := 0) (by rw [hgz]; decide) ?_
      refine lv_if_ne (tgt := 23) K.hx K.hb d_M_left_18 (by decide) (fun c_18 => (show False from by revert c_18; decide).elim) (fun _ => ?_)
      refine lv_iconst (v := 0) K.hx K.hb d_M_left_21 (by decide) ?_
      exact de_i K hP hS (Or.inr (Or.inr ⟨⟨i, hi, rfl⟩, w_11, rfl, rfl, rfl⟩)) (Nat.le_of_ble_eq_true rfl) (Nat.le_of_ble_eq_true rfl) d_M_left_22
    · refine lv_topE (y := 1) w_11 ?_
      refine lv_iconst (v := 1) K.hx K.hb d_M_left_14 (by decide) ?_
      refine dd_V K hP hS (c_M_goes l D cs ad _ _ 1 1 1) kw_751 xm_M_goes kw_748 kw_750 kw_13 (g_recv K.1.2.1 hP (0) (by decide) rfl rfl) rfl hl.1 d_M_left_15 (Nat.le_of_ble_eq_true rfl) (Nat.le_of_ble_eq_true rfl) ⟨(Nat.le_of_ble_eq_true rfl), (Nat.le_of_ble_eq_true rfl)⟩ (fun r v1 sd1 H l1 hp hP hS => ?_)
      obtain ⟨rfl, rfl, rfl⟩ := hp
      have hgz : gz 1 1 1 = 0 := by decide
      rw [hgz] at hP
      refine lv_topE (y := 1) (by rw [hgz]; decide) ?_
      refine lv_if_ne (tgt := 23) K.hx K.hb d_M_left_18 (by decide) (fun _ => ?_) (fun c_18 => (show False from by revert c_18; decide).elim)
      refine lv_aload_n K.hx K.hb d_M_left_23 rfl (lv_at hl 0 rfl) ?_
      refine lv_sipush (v := 1001) K.hx K.hb d_M_left_24 (by decide) ?_
      refine lv_iload_n K.hx K.hb d_M_left_27 rfl (lv_at hl 1 rfl) ?_
      refine lv_imul K.hx K.hb d_M_left_28 ?_
      refine lv_topE (y := nI (1001 * i)) (pk_mul _ _) ?_
      refine lv_iload_n K.hx K.hb d_M_left_29 rfl (lv_at hl 2 rfl) ?_
      refine lv_iadd K.hx K.hb d_M_left_30 ?_
      refine lv_iconst (v := 1) K.hx K.hb d_M_left_31 (by decide) ?_
      refine lv_iadd K.hx K.hb d_M_left_32 ?_
      refine dd_V K hP hS (c_M_number l D cs ad _ _ (((nI (1001 * i)) + y) + 1)) kw_779 xm_M_number kw_776 kw_778 kw_17 (g_recv K.1.2.1 hP (0) (by decide) rfl rfl) rfl hl.1 d_M_left_33 (Nat.le_of_ble_eq_true rfl) (Nat.le_of_ble_eq_true rfl) ⟨(Nat.le_of_ble_eq_true rfl), (Nat.le_of_ble_eq_true rfl)⟩ (fun r v1 sd1 H l1 hp hP hS => ?_)
      obtain ⟨rfl, rfl, rfl⟩ := hp
      refine lv_iconst (v := 1) K.hx K.hb d_M_left_36 (by decide) ?_
      refine lv_lshl K.hx K.hb d_M_left_37 rfl ?_
      refine lv_iconst (v := 1) K.hx K.hb d_M_left_38 (by decide) ?_
      refine lv_lushr K.hx K.hb d_M_left_39 rfl ?_
      refine lv_topl (fun z1 ez1 => ?_)
      refine lv_lstore_n (lv' := [(3, .long z1), (0, .ref (ad 0)), (1, .int (nI i)), (2, .int y)]) K.hx K.hb d_M_left_40 rfl hl (by decide) rfl (fun ls hl => ?_)
      refine lv_lload_n K.hx K.hb d_M_left_41 rfl (lv_at hl 0 rfl) ?_
      refine lv_ldc2 (v := 101) K.hx K.hb K.1.1.2.2.2.1 (K.1.1.2.2.2.2 _ kw_783) d_M_left_42 ?_
      refine lv_lrem K.hx K.hb d_M_left_45 (by decide) ?_
      refine lv_l2i K.hx K.hb d_M_left_46 rfl ?_
      refine lv_istore (lv' := [(5, .int ((z1 - z1 / 101 * 101).toInt32)), (3, .long z1), (0, .ref (ad 0)), (1, .int (nI i)), (2, .int y)]) K.hx K.hb d_M_left_47 hl (by decide) rfl (fun ls hl => ?_)
      refine lv_aload_n K.hx K.hb d_M_left_49 rfl (lv_at hl 2 rfl) ?_
      refine g_get K.1 hP (0) (by decide) rfl rfl i_M 3 (by decide) rfl (Or.inl kw_637) rfl d_M_left_50 ?_
      refine lv_iload_n K.hx K.hb d_M_left_53 rfl (lv_at hl 3 rfl) ?_
      refine g_iald K.1 hP (1) (by decide) rfl 0 rfl (i) rfl (by omega) (by decide) d_M_left_54 ?_
      refine lv_topE (y := (v 1 i)) (by first | (simp [u2_at, kpM]; done) | (simp [u2_at, kpM] <;> (intros; omega)) | (simp only [u2_at, kpM]; (repeat' split) <;> first | rfl | (exfalso; omega))) ?_
      refine lv_bipush (v := 50) K.hx K.hb d_M_left_55 (by decide) ?_
      refine lv_iload K.hx K.hb d_M_left_57 (lv_at hl 0 rfl) ?_
      refine lv_iadd K.hx K.hb d_M_left_59 ?_
      refine lv_imul K.hx K.hb d_M_left_60 ?_
      refine lv_bipush (v := 100) K.hx K.hb d_M_left_61 (by decide) ?_
      refine lv_idiv K.hx K.hb d_M_left_63 (by decide) ?_
      refine lv_topi (fun z2 ez2 => ?_)
      refine lv_istore (lv' := [(6, .int z2), (5, .int ((z1 - z1 / 101 * 101).toInt32)), (3, .long z1), (0, .ref (ad 0)), (1, .int (nI i)), (2, .int y)]) K.hx K.hb d_M_left_64 hl (by decide) rfl (fun ls hl => ?_)
      refine lv_iload K.hx K.hb d_M_left_66 (lv_at hl 0 rfl) ?_
      refine lv_aload_n K.hx K.hb d_M_left_68 rfl (lv_at hl 3 rfl) ?_
      refine g_get K.1 hP (0) (by decide) rfl rfl i_M 5 (by decide) rfl (Or.inl kw_639) rfl d_M_left_69 ?_
      refine lv_iload_n K.hx K.hb d_M_left_72 rfl (lv_at hl 4 rfl) ?_
      refine g_iald K.1 hP (3) (by decide) rfl 0 rfl (i) rfl (by omega) (by decide) d_M_left_73 ?_
      refine lv_topE (y := (v 3 i)) (by first | (simp [u2_at, kpM]; done) | (simp [u2_at, kpM] <;> (intros; omega)) | (simp only [u2_at, kpM]; (repeat' split) <;> first | rfl | (exfalso; omega))) ?_
      refine lv_icmp_le (tgt := 89) K.hx K.hb d_M_left_74 (by decide) (fun c_74 => ?_) (fun c_74 => ?_)
      · refine lv_iconst (v := 0) K.hx K.hb d_M_left_89 (by decide) ?_
        exact de_i K hP hS (Or.inl ⟨i, hi, rfl, one_ne w_11, by rw [show lfD (v 1 i) (lfZ sd i y) = z2 from by subst ez1 ez2; rfl, if_pos c_74], rfl, rfl⟩) (Nat.le_of_ble_eq_true rfl) (Nat.le_of_ble_eq_true rfl) d_M_left_90
      · refine lv_iload K.hx K.hb d_M_left_77 (lv_at hl 0 rfl) ?_
        refine lv_aload_n K.hx K.hb d_M_left_79 rfl (lv_at hl 3 rfl) ?_
        refine g_get K.1 hP (0) (by decide) rfl rfl i_M 5 (by decide) rfl (Or.inl kw_639) rfl d_M_left_80 ?_
        refine lv_iload_n K.hx K.hb d_M_left_83 rfl (lv_at hl 4 rfl) ?_
        refine g_iald K.1 hP (3) (by decide) rfl 0 rfl (i) rfl (by omega) (by decide) d_M_left_84 ?_
        refine lv_topE (y := (v 3 i)) (by first | (simp [u2_at, kpM]; done) | (simp [u2_at, kpM] <;> (intros; omega)) | (simp only [u2_at, kpM]; (repeat' split) <;> first | rfl | (exfalso; omega))) ?_
        refine lv_isub K.hx K.hb d_M_left_85 ?_
        refine lv_goto (tgt := 90) K.hx K.hb d_M_left_86 (by decide) ?_
        exact de_i K hP hS (Or.inl ⟨i, hi, rfl, one_ne w_11, by rw [show lfD (v 1 i) (lfZ sd i y) = z2 from by subst ez1 ez2; rfl, if_neg c_74], rfl, rfl⟩) (Nat.le_of_ble_eq_true rfl) (Nat.le_of_ble_eq_true rfl) d_M_left_90
  · refine lv_topE (y := 0) (wth_no (by omega) hx) ?_
    refine lv_iload_n K.hx K.hb d_M_left_6 rfl (lv_at hl 2 rfl) ?_
    refine lv_iconst (v := 0) K.hx K.hb d_M_left_7 (by decide) ?_
    refine lv_sipush (v := 1000) K.hx K.hb d_M_left_8 (by decide) ?_
    refine dd_S K hP hS (c_M_in l D cs ad _ _ y 0 1000) kw_747 xm_M_in kw_745 kw_746 kw_29 rfl hl.1 d_M_left_11 (Nat.le_of_ble_eq_true rfl) (Nat.le_of_ble_eq_true rfl) ⟨(Nat.le_of_ble_eq_true rfl), (Nat.le_of_ble_eq_true rfl)⟩ (fun r v1 sd1 H l1 hp hP hS => ?_)
    obtain ⟨rfl, rfl, rfl⟩ := hp
    rcases wth_01 y 0 1000 with w_11 | w_11
    · refine lv_topE (y := 0) w_11 ?_
      refine lv_iconst (v := 1) K.hx K.hb d_M_left_14 (by decide) ?_
      refine dd_V K hP hS (c_M_goes l D cs ad _ _ 0 0 1) kw_751 xm_M_goes kw_748 kw_750 kw_13 (g_recv K.1.2.1 hP (0) (by decide) rfl rfl) rfl hl.1 d_M_left_15 (Nat.le_of_ble_eq_true rfl) (Nat.le_of_ble_eq_true rfl) ⟨(Nat.le_of_ble_eq_true rfl), (Nat.le_of_ble_eq_true rfl)⟩ (fun r v1 sd1 H l1 hp hP hS => ?_)
      obtain ⟨rfl, rfl, rfl⟩ := hp
      have hgz : gz 0 0 1 = 1 := by decide
      rw [hgz] at hP
      refine lv_topE (y := 0) (by rw [hgz]; decide) ?_
      refine lv_if_ne (tgt := 23) K.hx K.hb d_M_left_18 (by decide) (fun c_18 => (show False from by revert c_18; decide).elim) (fun _ => ?_)
      refine lv_iconst (v := 0) K.hx K.hb d_M_left_21 (by decide) ?_
      exact de_i K hP hS (Or.inr (Or.inl ⟨hx, rfl, rfl, rfl⟩)) (Nat.le_of_ble_eq_true rfl) (Nat.le_of_ble_eq_true rfl) d_M_left_22
    · refine lv_topE (y := 1) w_11 ?_
      refine lv_iconst (v := 1) K.hx K.hb d_M_left_14 (by decide) ?_
      refine dd_V K hP hS (c_M_goes l D cs ad _ _ 0 1 1) kw_751 xm_M_goes kw_748 kw_750 kw_13 (g_recv K.1.2.1 hP (0) (by decide) rfl rfl) rfl hl.1 d_M_left_15 (Nat.le_of_ble_eq_true rfl) (Nat.le_of_ble_eq_true rfl) ⟨(Nat.le_of_ble_eq_true rfl), (Nat.le_of_ble_eq_true rfl)⟩ (fun r v1 sd1 H l1 hp hP hS => ?_)
      obtain ⟨rfl, rfl, rfl⟩ := hp
      have hgz : gz 0 1 1 = 1 := by decide
      rw [hgz] at hP
      refine lv_topE (y := 0) (by rw [hgz]; decide) ?_
      refine lv_if_ne (tgt := 23) K.hx K.hb d_M_left_18 (by decide) (fun c_18 => (show False from by revert c_18; decide).elim) (fun _ => ?_)
      refine lv_iconst (v := 0) K.hx K.hb d_M_left_21 (by decide) ?_
      exact de_i K hP hS (Or.inr (Or.inl ⟨hx, rfl, rfl, rfl⟩)) (Nat.le_of_ble_eq_true rfl) (Nat.le_of_ble_eq_true rfl) d_M_left_22
set_option maxHeartbeats 4000000 in
set_option maxRecDepth 100000 in
theorem c_M_permit (l : Launch) (D : va_G) (cs : Nat → ClassId) (ad : Nat → Nat) (v : Nat → Nat → Int32) (sd : Int64) {tc : Nat} (htc : v 0 2 = nI tc) (ht8 : tc ≤ 8) (x y : Int32)  : Dm l y_M_permit b_M_permit 4 none (rmx 2 0) [.ref (ad 0), .int x, .int y] D cs ad v sd (fun r v' sd' => (∃ i, i < tc ∧ x = nI i ∧ v 4 i = y ∧ r = none ∧ kpM (u2 (u2 v 0 0 0) 4 i (if y = 0 then 1 else 0)) i (if y = 0 then -2 else -3) = v' ∧ sd = sd') ∨ ((¬ ∃ i, i < tc ∧ x = nI i) ∧ r = none ∧ u2 v 0 0 1 = v' ∧ sd = sd') ∨ (∃ i, i < tc ∧ x = nI i ∧ ¬ v 4 i = y ∧ r = none ∧ u2 v 0 0 2 = v' ∧ sd = sd')) (fun cls => False) := by
  refine dw_enter (own := "WearHoursModel") rfl (Nat.le_of_ble_eq_true rfl) ?_
  intro p e s m below meth c ls K hS hP hl
  have hl : lv_has ls 4 [(0, .ref (ad 0)), (1, .int x), (2, .int y)] := hl
  refine lv_aload_n K.hx K.hb d_M_permit_0 rfl (lv_at hl 0 rfl) ?_
  refine lv_iload_n K.hx K.hb d_M_permit_1 rfl (lv_at hl 1 rfl) ?_
  refine dd_V K hP hS (c_M_isThing l D cs ad _ _ htc ht8 x) kw_759 xm_M_isThing kw_756 kw_758 kw_14 (g_recv K.1.2.1 hP (0) (by decide) rfl rfl) rfl hl.1 d_M_permit_2 (Nat.le_of_ble_eq_true rfl) (Nat.le_of_ble_eq_true rfl) ⟨(Nat.le_of_ble_eq_true rfl), (Nat.le_of_ble_eq_true rfl)⟩ (fun r v1 sd1 H l1 hp hP hS => ?_)
  obtain ⟨rfl, rfl, rfl⟩ := hp
  by_cases hx : ∃ i, i < tc ∧ x = nI i
  · refine lv_topE (y := 1) (wth_yes (by omega) hx) ?_
    obtain ⟨i, hi, rfl⟩ := hx
    have hi8 : i < 8 := by omega
    refine lv_istore_n (lv' := [(3, .int 1), (0, .ref (ad 0)), (1, .int (nI i)), (2, .int y)]) K.hx K.hb d_M_permit_5 rfl hl (by decide) rfl (fun ls hl => ?_)
    refine lv_aload_n K.hx K.hb d_M_permit_6 rfl (lv_at hl 1 rfl) ?_
    refine lv_iload_n K.hx K.hb d_M_permit_7 rfl (lv_at hl 0 rfl) ?_
    refine lv_iload_n K.hx K.hb d_M_permit_8 rfl (lv_at hl 0 rfl) ?_
    refine lv_if_eq (tgt := 26) K.hx K.hb d_M_permit_9 (by decide) (fun c_9 => (show False from by revert c_9; decide).elim) (fun _ => ?_)
    refine lv_aload_n K.hx K.hb d_M_permit_12 rfl (lv_at hl 1 rfl) ?_
    refine g_get K.1 hP (0) (by decide) rfl rfl i_M 6 (by decide) rfl (Or.inl kw_640) rfl d_M_permit_13 ?_
    refine lv_iload_n K.hx K.hb d_M_permit_16 rfl (lv_at hl 2 rfl) ?_
    refine g_zald K.1 hP (4) (by decide) rfl 1 rfl (i) rfl (by omega) (by decide) d_M_permit_17 ?_
    refine lv_iload_n K.hx K.hb d_M_permit_18 rfl (lv_at hl 3 rfl) ?_
    refine lv_icmp_ne (tgt := 26) K.hx K.hb d_M_permit_19 (by decide) (fun c_19 => ?_) (fun c_19 => ?_)
    · refine lv_iconst (v := 0) K.hx K.hb d_M_permit_26 (by decide) ?_
      refine lv_iconst (v := 1) K.hx K.hb d_M_permit_27 (by decide) ?_
      refine dd_V K hP hS (c_M_goes l D cs ad _ _ 1 0 1) kw_751 xm_M_goes kw_748 kw_750 kw_13 (g_recv K.1.2.1 hP (0) (by decide) rfl rfl) rfl hl.1 d_M_permit_28 (Nat.le_of_ble_eq_true rfl) (Nat.le_of_ble_eq_true rfl) ⟨(Nat.le_of_ble_eq_true rfl), (Nat.le_of_ble_eq_true rfl)⟩ (fun r v1 sd1 H l1 hp hP hS => ?_)
      obtain ⟨rfl, rfl, rfl⟩ := hp
      have hgz : gz 1 0 1 = 2 := by decide
      rw [hgz] at hP
      refine lv_topE (y := 0) (by rw [hgz]; decide) ?_
      refine lv_if_ne (tgt := 35) K.hx K.hb d_M_permit_31 (by decide) (fun c_31 => (show False from by revert c_31; decide).elim) (fun _ => ?_)
      exact de_v K hP hS (Or.inr (Or.inr ⟨i, hi, rfl, c_19, rfl, rfl, rfl⟩)) (Nat.le_of_ble_eq_true rfl) (Nat.le_of_ble_eq_true rfl) d_M_permit_34
    · refine lv_iconst (v := 1) K.hx K.hb d_M_permit_22 (by decide) ?_
      refine lv_goto (tgt := 27) K.hx K.hb d_M_permit_23 (by decide) ?_
      refine lv_iconst (v := 1) K.hx K.hb d_M_permit_27 (by decide) ?_
      refine dd_V K hP hS (c_M_goes l D cs ad _ _ 1 1 1) kw_751 xm_M_goes kw_748 kw_750 kw_13 (g_recv K.1.2.1 hP (0) (by decide) rfl rfl) rfl hl.1 d_M_permit_28 (Nat.le_of_ble_eq_true rfl) (Nat.le_of_ble_eq_true rfl) ⟨(Nat.le_of_ble_eq_true rfl), (Nat.le_of_ble_eq_true rfl)⟩ (fun r v1 sd1 H l1 hp hP hS => ?_)
      obtain ⟨rfl, rfl, rfl⟩ := hp
      have hgz : gz 1 1 1 = 0 := by decide
      rw [hgz] at hP
      refine lv_topE (y := 1) (by rw [hgz]; decide) ?_
      refine lv_if_ne (tgt := 35) K.hx K.hb d_M_permit_31 (by decide) (fun _ => ?_) (fun c_31 => (show False from by revert c_31; decide).elim)
      refine lv_aload_n K.hx K.hb d_M_permit_35 rfl (lv_at hl 1 rfl) ?_
      refine g_get K.1 hP (0) (by decide) rfl rfl i_M 6 (by decide) rfl (Or.inl kw_640) rfl d_M_permit_36 ?_
      refine lv_iload_n K.hx K.hb d_M_permit_39 rfl (lv_at hl 2 rfl) ?_
      refine lv_iload_n K.hx K.hb d_M_permit_40 rfl (lv_at hl 3 rfl) ?_
      refine lv_if_ne (tgt := 48) K.hx K.hb d_M_permit_41 (by decide) (fun c_41 => ?_) (fun c_41 => ?_)
      · refine lv_iconst (v := 0) K.hx K.hb d_M_permit_48 (by decide) ?_
        refine g_zast K.1 hP hS (4) (by decide) (fun _ => rfl) 1 rfl rfl (i) rfl (by omega) (by decide) d_M_permit_49 (fun H l1 hP hS => ?_)
        refine lv_aload_n K.hx K.hb d_M_permit_50 rfl (lv_at hl 1 rfl) ?_
        refine lv_iload_n K.hx K.hb d_M_permit_51 rfl (lv_at hl 2 rfl) ?_
        refine lv_iload_n K.hx K.hb d_M_permit_52 rfl (lv_at hl 3 rfl) ?_
        refine lv_if_eq (tgt := 61) K.hx K.hb d_M_permit_53 (by decide) (fun c_53 => (absurd c_53 c_41)) (fun c_53 => ?_)
        refine lv_bipush (v := (-3)) K.hx K.hb d_M_permit_56 (by decide) ?_
        refine lv_goto (tgt := 63) K.hx K.hb d_M_permit_58 (by decide) ?_
        refine dd_V K hP hS (c_M_keep l D cs ad _ _ hi8 (-3)) kw_767 xm_M_keep kw_764 kw_766 kw_16 (g_recv K.1.2.1 hP (0) (by decide) rfl rfl) rfl hl.1 d_M_permit_63 (Nat.le_of_ble_eq_true rfl) (Nat.le_of_ble_eq_true rfl) ⟨(Nat.le_of_ble_eq_true rfl), (Nat.le_of_ble_eq_true rfl)⟩ (fun r v1 sd1 H l1 hp hP hS => ?_)
        obtain ⟨rfl, rfl, rfl⟩ := hp
        exact de_v K hP hS (Or.inl ⟨i, hi, rfl, c_19, rfl, by rw [if_neg c_41, if_neg c_41], rfl⟩) (Nat.le_of_ble_eq_true rfl) (Nat.le_of_ble_eq_true rfl) d_M_permit_66
      · refine lv_iconst (v := 1) K.hx K.hb d_M_permit_44 (by decide) ?_
        refine lv_goto (tgt := 49) K.hx K.hb d_M_permit_45 (by decide) ?_
        refine g_zast K.1 hP hS (4) (by decide) (fun _ => rfl) 1 rfl rfl (i) rfl (by omega) (by decide) d_M_permit_49 (fun H l1 hP hS => ?_)
        refine lv_aload_n K.hx K.hb d_M_permit_50 rfl (lv_at hl 1 rfl) ?_
        refine lv_iload_n K.hx K.hb d_M_permit_51 rfl (lv_at hl 2 rfl) ?_
        refine lv_iload_n K.hx K.hb d_M_permit_52 rfl (lv_at hl 3 rfl) ?_
        refine lv_if_eq (tgt := 61) K.hx K.hb d_M_permit_53 (by decide) (fun c_53 => ?_) (fun c_53 => (absurd c_41 c_53))
        refine lv_bipush (v := (-2)) K.hx K.hb d_M_permit_61 (by decide) ?_
        refine dd_V K hP hS (c_M_keep l D cs ad _ _ hi8 (-2)) kw_767 xm_M_keep kw_764 kw_766 kw_16 (g_recv K.1.2.1 hP (0) (by decide) rfl rfl) rfl hl.1 d_M_permit_63 (Nat.le_of_ble_eq_true rfl) (Nat.le_of_ble_eq_true rfl) ⟨(Nat.le_of_ble_eq_true rfl), (Nat.le_of_ble_eq_true rfl)⟩ (fun r v1 sd1 H l1 hp hP hS => ?_)
        obtain ⟨rfl, rfl, rfl⟩ := hp
        exact de_v K hP hS (Or.inl ⟨i, hi, rfl, c_19, rfl, by rw [if_pos c_41, if_pos c_41], rfl⟩) (Nat.le_of_ble_eq_true rfl) (Nat.le_of_ble_eq_true rfl) d_M_permit_66
  · refine lv_topE (y := 0) (wth_no (by omega) hx) ?_
    refine lv_istore_n (lv' := [(3, .int 0), (0, .ref (ad 0)), (1, .int x), (2, .int y)]) K.hx K.hb d_M_permit_5 rfl hl (by decide) rfl (fun ls hl => ?_)
    refine lv_aload_n K.hx K.hb d_M_permit_6 rfl (lv_at hl 1 rfl) ?_
    refine lv_iload_n K.hx K.hb d_M_permit_7 rfl (lv_at hl 0 rfl) ?_
    refine lv_iload_n K.hx K.hb d_M_permit_8 rfl (lv_at hl 0 rfl) ?_
    refine lv_if_eq (tgt := 26) K.hx K.hb d_M_permit_9 (by decide) (fun _ => ?_) (fun c_9 => (show False from by revert c_9; decide).elim)
    refine lv_iconst (v := 0) K.hx K.hb d_M_permit_26 (by decide) ?_
    refine lv_iconst (v := 1) K.hx K.hb d_M_permit_27 (by decide) ?_
    refine dd_V K hP hS (c_M_goes l D cs ad _ _ 0 0 1) kw_751 xm_M_goes kw_748 kw_750 kw_13 (g_recv K.1.2.1 hP (0) (by decide) rfl rfl) rfl hl.1 d_M_permit_28 (Nat.le_of_ble_eq_true rfl) (Nat.le_of_ble_eq_true rfl) ⟨(Nat.le_of_ble_eq_true rfl), (Nat.le_of_ble_eq_true rfl)⟩ (fun r v1 sd1 H l1 hp hP hS => ?_)
    obtain ⟨rfl, rfl, rfl⟩ := hp
    have hgz : gz 0 0 1 = 1 := by decide
    rw [hgz] at hP
    refine lv_topE (y := 0) (by rw [hgz]; decide) ?_
    refine lv_if_ne (tgt := 35) K.hx K.hb d_M_permit_31 (by decide) (fun c_31 => (show False from by revert c_31; decide).elim) (fun _ => ?_)
    exact de_v K hP hS (Or.inr (Or.inl ⟨hx, rfl, rfl, rfl⟩)) (Nat.le_of_ble_eq_true rfl) (Nat.le_of_ble_eq_true rfl) d_M_permit_34
set_option maxHeartbeats 4000000 in
set_option maxRecDepth 100000 in
theorem c_M_history (l : Launch) (D : va_G) (cs : Nat → ClassId) (ad : Nat → Nat) (v : Nat → Nat → Int32) (sd : Int64) {tc : Nat} (htc : v 0 2 = nI tc) (ht8 : tc ≤ 8) (x y : Int32)  : Dm l y_M_history b_M_history 3 (some .int) (rmx 2 0) [.ref (ad 0), .int x, .int y] D cs ad v sd (fun r v' sd' => (∃ i, i < tc ∧ x = nI i ∧ ¬ y < 0 ∧ r = some (.int (if 5 ≤ y then 0 else v 5 (5 * i + y.toNatClampNeg))) ∧ u2 v 0 0 0 = v' ∧ sd = sd') ∨ (¬ ((∃ i, i < tc ∧ x = nI i) ∧ ¬ y < 0) ∧ r = some (.int 0) ∧ u2 v 0 0 1 = v' ∧ sd = sd')) (fun cls => False) := by
  refine dw_enter (own := "WearHoursModel") rfl (Nat.le_of_ble_eq_true rfl) ?_
  intro p e s m below meth c ls K hS hP hl
  have hl : lv_has ls 3 [(0, .ref (ad 0)), (1, .int x), (2, .int y)] := hl
  refine lv_aload_n K.hx K.hb d_M_history_0 rfl (lv_at hl 0 rfl) ?_
  refine lv_aload_n K.hx K.hb d_M_history_1 rfl (lv_at hl 0 rfl) ?_
  refine lv_iload_n K.hx K.hb d_M_history_2 rfl (lv_at hl 1 rfl) ?_
  refine dd_V K hP hS (c_M_isThing l D cs ad _ _ htc ht8 x) kw_759 xm_M_isThing kw_756 kw_758 kw_14 (g_recv K.1.2.1 hP (0) (by decide) rfl rfl) rfl hl.1 d_M_history_3 (Nat.le_of_ble_eq_true rfl) (Nat.le_of_ble_eq_true rfl) ⟨(Nat.le_of_ble_eq_true rfl), (Nat.le_of_ble_eq_true rfl)⟩ (fun r v1 sd1 H l1 hp hP hS => ?_)
  obtain ⟨rfl, rfl, rfl⟩ := hp
  by_cases hx : ∃ i, i < tc ∧ x = nI i
  · refine lv_topE (y := 1) (wth_yes (by omega) hx) ?_
    obtain ⟨i, hi, rfl⟩ := hx
    have hi8 : i < 8 := by omega
    refine lv_if_eq (tgt := 17) K.hx K.hb d_M_history_6 (by decide) (fun c_6 => (show False from by revert c_6; decide).elim) (fun _ => ?_)
    refine lv_iload_n K.hx K.hb d_M_history_9 rfl (lv_at hl 2 rfl) ?_
    refine lv_if_lt (tgt := 17) K.hx K.hb d_M_history_10 (by decide) (fun c_10 => ?_) (fun c_10 => ?_)
    · refine lv_iconst (v := 0) K.hx K.hb d_M_history_17 (by decide) ?_
      refine lv_iconst (v := 1) K.hx K.hb d_M_history_18 (by decide) ?_
      refine lv_iconst (v := 1) K.hx K.hb d_M_history_19 (by decide) ?_
      refine dd_V K hP hS (c_M_goes l D cs ad _ _ 0 1 1) kw_751 xm_M_goes kw_748 kw_750 kw_13 (g_recv K.1.2.1 hP (0) (by decide) rfl rfl) rfl hl.1 d_M_history_20 (Nat.le_of_ble_eq_true rfl) (Nat.le_of_ble_eq_true rfl) ⟨(Nat.le_of_ble_eq_true rfl), (Nat.le_of_ble_eq_true rfl)⟩ (fun r v1 sd1 H l1 hp hP hS => ?_)
      obtain ⟨rfl, rfl, rfl⟩ := hp
      have hgz : gz 0 1 1 = 1 := by decide
      rw [hgz] at hP
      refine lv_topE (y := 0) (by rw [hgz]; decide) ?_
      refine lv_if_ne (tgt := 28) K.hx K.hb d_M_history_23 (by decide) (fun c_23 => (show False from by revert c_23; decide).elim) (fun _ => ?_)
      refine lv_iconst (v := 0) K.hx K.hb d_M_history_26 (by decide) ?_
      exact de_i K hP hS (Or.inr ⟨(fun h => h.2 c_10), rfl, rfl, rfl⟩) (Nat.le_of_ble_eq_true rfl) (Nat.le_of_ble_eq_true rfl) d_M_history_27
    · refine lv_iconst (v := 1) K.hx K.hb d_M_history_13 (by decide) ?_
      refine lv_goto (tgt := 18) K.hx K.hb d_M_history_14 (by decide) ?_
      refine lv_iconst (v := 1) K.hx K.hb d_M_history_18 (by decide) ?_
      refine lv_iconst (v := 1) K.hx K.hb d_M_history_19 (by decide) ?_
      refine dd_V K hP hS (c_M_goes l D cs ad _ _ 1 1 1) kw_751 xm_M_goes kw_748 kw_750 kw_13 (g_recv K.1.2.1 hP (0) (by decide) rfl rfl) rfl hl.1 d_M_history_20 (Nat.le_of_ble_eq_true rfl) (Nat.le_of_ble_eq_true rfl) ⟨(Nat.le_of_ble_eq_true rfl), (Nat.le_of_ble_eq_true rfl)⟩ (fun r v1 sd1 H l1 hp hP hS => ?_)
      obtain ⟨rfl, rfl, rfl⟩ := hp
      have hgz : gz 1 1 1 = 0 := by decide
      rw [hgz] at hP
      refine lv_topE (y := 1) (by rw [hgz]; decide) ?_
      refine lv_if_ne (tgt := 28) K.hx K.hb d_M_history_23 (by decide) (fun _ => ?_) (fun c_23 => (show False from by revert c_23; decide).elim)
      refine lv_iload_n K.hx K.hb d_M_history_28 rfl (lv_at hl 2 rfl) ?_
      refine lv_iconst (v := 5) K.hx K.hb d_M_history_29 (by decide) ?_
      refine lv_icmp_ge (tgt := 46) K.hx K.hb d_M_history_30 (by decide) (fun c_30 => ?_) (fun c_30 => ?_)
      · refine lv_iconst (v := 0) K.hx K.hb d_M_history_46 (by decide) ?_
        exact de_i K hP hS (Or.inl ⟨i, hi, rfl, c_10, by rw [if_pos c_30], rfl, rfl⟩) (Nat.le_of_ble_eq_true rfl) (Nat.le_of_ble_eq_true rfl) d_M_history_47
      · obtain ⟨j, hj, rfl⟩ : ∃ j : Nat, j < 5 ∧ y = nI j := chg_ix c_10 c_30
        refine lv_aload_n K.hx K.hb d_M_history_33 rfl (lv_at hl 0 rfl) ?_
        refine g_get K.1 hP (0) (by decide) rfl rfl i_M 7 (by decide) rfl (Or.inl kw_641) rfl d_M_history_34 ?_
        refine lv_iconst (v := 5) K.hx K.hb d_M_history_37 (by decide) ?_
        refine lv_iload_n K.hx K.hb d_M_history_38 rfl (lv_at hl 1 rfl) ?_
        refine lv_imul K.hx K.hb d_M_history_39 ?_
        refine lv_topE (y := nI (5 * i)) (pk_mul _ _) ?_
        refine lv_iload_n K.hx K.hb d_M_history_40 rfl (lv_at hl 2 rfl) ?_
        refine lv_iadd K.hx K.hb d_M_history_41 ?_
        refine lv_topE (y := nI (5 * i + j)) (nI_add _ _) ?_
        refine g_iald K.1 hP (5) (by decide) rfl 0 rfl (5 * i + j) rfl (by omega) (by decide) d_M_history_42 ?_
        refine lv_topE (y := (v 5 (5 * i + j))) (by first | (simp [u2_at, kpM]; done) | (simp [u2_at, kpM] <;> (intros; omega)) | (simp only [u2_at, kpM]; (repeat' split) <;> first | rfl | (exfalso; omega))) ?_
        refine lv_goto (tgt := 47) K.hx K.hb d_M_history_43 (by decide) ?_
        exact de_i K hP hS (Or.inl ⟨i, hi, rfl, c_10, by rw [if_neg c_30, nI_clamp (show j < 2 ^ 31 by omega)], rfl, rfl⟩) (Nat.le_of_ble_eq_true rfl) (Nat.le_of_ble_eq_true rfl) d_M_history_47
  · refine lv_topE (y := 0) (wth_no (by omega) hx) ?_
    refine lv_if_eq (tgt := 17) K.hx K.hb d_M_history_6 (by decide) (fun _ => ?_) (fun c_6 => (show False from by revert c_6; decide).elim)
    refine lv_iconst (v := 0) K.hx K.hb d_M_history_17 (by decide) ?_
    refine lv_iconst (v := 1) K.hx K.hb d_M_history_18 (by decide) ?_
    refine lv_iconst (v := 1) K.hx K.hb d_M_history_19 (by decide) ?_
    refine dd_V K hP hS (c_M_goes l D cs ad _ _ 0 1 1) kw_751 xm_M_goes kw_748 kw_750 kw_13 (g_recv K.1.2.1 hP (0) (by decide) rfl rfl) rfl hl.1 d_M_history_20 (Nat.le_of_ble_eq_true rfl) (Nat.le_of_ble_eq_true rfl) ⟨(Nat.le_of_ble_eq_true rfl), (Nat.le_of_ble_eq_true rfl)⟩ (fun r v1 sd1 H l1 hp hP hS => ?_)
    obtain ⟨rfl, rfl, rfl⟩ := hp
    have hgz : gz 0 1 1 = 1 := by decide
    rw [hgz] at hP
    refine lv_topE (y := 0) (by rw [hgz]; decide) ?_
    refine lv_if_ne (tgt := 28) K.hx K.hb d_M_history_23 (by decide) (fun c_23 => (show False from by revert c_23; decide).elim) (fun _ => ?_)
    refine lv_iconst (v := 0) K.hx K.hb d_M_history_26 (by decide) ?_
    exact de_i K hP hS (Or.inr ⟨(fun h => hx h.1), rfl, rfl, rfl⟩) (Nat.le_of_ble_eq_true rfl) (Nat.le_of_ble_eq_true rfl) d_M_history_27
set_option maxHeartbeats 4000000 in
set_option maxRecDepth 100000 in
theorem c_M_gap (l : Launch) (D : va_G) (cs : Nat → ClassId) (ad : Nat → Nat) (v : Nat → Nat → Int32) (sd : Int64) {gc : Nat} (hgc : v 0 8 = nI gc) (hg6 : gc ≤ 6) (x y : Int32)  : Dm l y_M_gap b_M_gap 3 (some .int) (rmx 2 0) [.ref (ad 0), .int x, .int y] D cs ad v sd (fun r v' sd' => (hrZ x y ∧ gc < 6 ∧ r = some (.int (nI (gc + 1))) ∧ u2 (u2 (u2 (u2 (u2 v 0 0 0) 6 gc x) 7 gc y) 0 8 (nI (gc + 1))) 0 23 0 = v' ∧ sd = sd') ∨ (¬ hrZ x y ∧ r = some (.int 0) ∧ u2 v 0 0 1 = v' ∧ sd = sd') ∨ (hrZ x y ∧ ¬ gc < 6 ∧ r = some (.int 0) ∧ u2 v 0 0 2 = v' ∧ sd = sd')) (fun cls => False) := by
  refine dw_enter (own := "WearHoursModel") rfl (Nat.le_of_ble_eq_true rfl) ?_
  intro p e s m below meth c ls K hS hP hl
  have hl : lv_has ls 3 [(0, .ref (ad 0)), (1, .int x), (2, .int y)] := hl
  refine lv_aload_n K.hx K.hb d_M_gap_0 rfl (lv_at hl 0 rfl) ?_
  refine lv_iload_n K.hx K.hb d_M_gap_1 rfl (lv_at hl 1 rfl) ?_
  refine lv_iload_n K.hx K.hb d_M_gap_2 rfl (lv_at hl 2 rfl) ?_
  refine dd_S K hP hS (c_M_areHours l D cs ad _ _ x y) kw_798 xm_M_areHours kw_796 kw_797 kw_29 rfl hl.1 d_M_gap_3 (Nat.le_of_ble_eq_true rfl) (Nat.le_of_ble_eq_true rfl) ⟨(Nat.le_of_ble_eq_true rfl), (Nat.le_of_ble_eq_true rfl)⟩ (fun r v1 sd1 H l1 hp hP hS => ?_)
  obtain ⟨rfl, rfl, rfl⟩ := hp
  by_cases w_3 : hrZ x y
  · refine lv_topE (y := 1) ((hr_eq _ _).trans (if_pos w_3)) ?_
    refine lv_aload_n K.hx K.hb d_M_gap_6 rfl (lv_at hl 0 rfl) ?_
    refine g_get K.1 hP (0) (by decide) rfl rfl i_M 8 (by decide) rfl (Or.inl kw_642) rfl d_M_gap_7 ?_
    refine lv_topE (y := nI gc) hgc ?_
    refine lv_bipush (v := 6) K.hx K.hb d_M_gap_10 (by decide) ?_
    refine lv_icmp_ge (tgt := 19) K.hx K.hb d_M_gap_12 (by decide) (fun c_12 => ?_) (fun c_12 => ?_)
    · refine lv_iconst (v := 0) K.hx K.hb d_M_gap_19 (by decide) ?_
      refine lv_iconst (v := 1) K.hx K.hb d_M_gap_20 (by decide) ?_
      refine dd_V K hP hS (c_M_goes l D cs ad _ _ 1 0 1) kw_751 xm_M_goes kw_748 kw_750 kw_13 (g_recv K.1.2.1 hP (0) (by decide) rfl rfl) rfl hl.1 d_M_gap_21 (Nat.le_of_ble_eq_true rfl) (Nat.le_of_ble_eq_true rfl) ⟨(Nat.le_of_ble_eq_true rfl), (Nat.le_of_ble_eq_true rfl)⟩ (fun r v1 sd1 H l1 hp hP hS => ?_)
      obtain ⟨rfl, rfl, rfl⟩ := hp
      have hgz : gz 1 0 1 = 2 := by decide
      rw [hgz] at hP
      refine lv_topE (y := 0) (by rw [hgz]; decide) ?_
      refine lv_if_ne (tgt := 29) K.hx K.hb d_M_gap_24 (by decide) (fun c_24 => (show False from by revert c_24; decide).elim) (fun _ => ?_)
      refine lv_iconst (v := 0) K.hx K.hb d_M_gap_27 (by decide) ?_
      exact de_i K hP hS (Or.inr (Or.inr ⟨w_3, fun h => absurd h (Nat.not_lt.mpr ((nI_leI (by decide) (by omega)).mp (show nI 6 ≤ nI gc from c_12))), rfl, rfl, rfl⟩)) (Nat.le_of_ble_eq_true rfl) (Nat.le_of_ble_eq_true rfl) d_M_gap_28
    · refine lv_iconst (v := 1) K.hx K.hb d_M_gap_15 (by decide) ?_
      refine lv_goto (tgt := 20) K.hx K.hb d_M_gap_16 (by decide) ?_
      refine lv_iconst (v := 1) K.hx K.hb d_M_gap_20 (by decide) ?_
      refine dd_V K hP hS (c_M_goes l D cs ad _ _ 1 1 1) kw_751 xm_M_goes kw_748 kw_750 kw_13 (g_recv K.1.2.1 hP (0) (by decide) rfl rfl) rfl hl.1 d_M_gap_21 (Nat.le_of_ble_eq_true rfl) (Nat.le_of_ble_eq_true rfl) ⟨(Nat.le_of_ble_eq_true rfl), (Nat.le_of_ble_eq_true rfl)⟩ (fun r v1 sd1 H l1 hp hP hS => ?_)
      obtain ⟨rfl, rfl, rfl⟩ := hp
      have hgz : gz 1 1 1 = 0 := by decide
      rw [hgz] at hP
      refine lv_topE (y := 1) (by rw [hgz]; decide) ?_
      refine lv_if_ne (tgt := 29) K.hx K.hb d_M_gap_24 (by decide) (fun _ => ?_) (fun c_24 => (show False from by revert c_24; decide).elim)
      have hlt : gc < 6 := (nI_ltI (by omega) (by decide)).mp (show nI gc < nI 6 from Int32.not_le.mp c_12)
      refine lv_aload_n K.hx K.hb d_M_gap_29 rfl (lv_at hl 0 rfl) ?_
      refine g_get K.1 hP (0) (by decide) rfl rfl i_M 9 (by decide) rfl (Or.inl kw_643) rfl d_M_gap_30 ?_
      refine lv_aload_n K.hx K.hb d_M_gap_33 rfl (lv_at hl 0 rfl) ?_
      refine g_get K.1 hP (0) (by decide) rfl rfl i_M 8 (by decide) rfl (Or.inl kw_642) rfl d_M_gap_34 ?_
      refine lv_topE (y := (v 0 8)) (by first | (simp [u2_at, kpM]; done) | (simp [u2_at, kpM] <;> (intros; omega)) | (simp only [u2_at, kpM]; (repeat' split) <;> first | rfl | (exfalso; omega))) ?_
      refine lv_topE (y := nI gc) hgc ?_
      refine lv_iload_n K.hx K.hb d_M_gap_37 rfl (lv_at hl 1 rfl) ?_
      refine g_iast K.1 hP hS (6) (by decide) (fun _ => rfl) 0 rfl (gc) rfl (by omega) (by decide) d_M_gap_38 (fun H l1 hP hS => ?_)
      refine lv_aload_n K.hx K.hb d_M_gap_39 rfl (lv_at hl 0 rfl) ?_
      refine g_get K.1 hP (0) (by decide) rfl rfl i_M 10 (by decide) rfl (Or.inl kw_644) rfl d_M_gap_40 ?_
      refine lv_aload_n K.hx K.hb d_M_gap_43 rfl (lv_at hl 0 rfl) ?_
      refine g_get K.1 hP (0) (by decide) rfl rfl i_M 8 (by decide) rfl (Or.inl kw_642) rfl d_M_gap_44 ?_
      refine lv_topE (y := (v 0 8)) (by first | (simp [u2_at, kpM]; done) | (simp [u2_at, kpM] <;> (intros; omega)) | (simp only [u2_at, kpM]; (repeat' split) <;> first | rfl | (exfalso; omega))) ?_
      refine lv_topE (y := nI gc) hgc ?_
      refine lv_iload_n K.hx K.hb d_M_gap_47 rfl (lv_at hl 2 rfl) ?_
      refine g_iast K.1 hP hS (7) (by decide) (fun _ => rfl) 0 rfl (gc) rfl (by omega) (by decide) d_M_gap_48 (fun H l1 hP hS => ?_)
      refine lv_aload_n K.hx K.hb d_M_gap_49 rfl (lv_at hl 0 rfl) ?_
      refine lv_dup K.hx K.hb d_M_gap_50 rfl ?_
      refine g_get K.1 hP (0) (by decide) rfl rfl i_M 8 (by decide) rfl (Or.inl kw_642) rfl d_M_gap_51 ?_
      refine lv_topE (y := (v 0 8)) (by first | (simp [u2_at, kpM]; done) | (simp [u2_at, kpM] <;> (intros; omega)) | (simp only [u2_at, kpM]; (repeat' split) <;> first | rfl | (exfalso; omega))) ?_
      refine lv_topE (y := nI gc) hgc ?_
      refine lv_iconst (v := 1) K.hx K.hb d_M_gap_54 (by decide) ?_
      refine lv_iadd K.hx K.hb d_M_gap_55 ?_
      refine lv_topE (y := nI (gc + 1)) (nI_add _ _) ?_
      refine g_puti K.1 hP hS (0) (by decide) rfl rfl i_M ft_M ft_M_ok n_M 8 (by decide) rfl (Or.inl kw_642) rfl rfl rfl (Nat.le_of_ble_eq_true rfl) rfl d_M_gap_56 (fun H l1 hP hS => ?_)
      refine lv_aload_n K.hx K.hb d_M_gap_59 rfl (lv_at hl 0 rfl) ?_
      refine lv_iconst (v := 0) K.hx K.hb d_M_gap_60 (by decide) ?_
      refine g_puti K.1 hP hS (0) (by decide) rfl rfl i_M ft_M ft_M_ok n_M 23 (by decide) rfl (Or.inl kw_657) rfl rfl rfl (Nat.le_of_ble_eq_true rfl) rfl d_M_gap_61 (fun H l1 hP hS => ?_)
      refine lv_aload_n K.hx K.hb d_M_gap_64 rfl (lv_at hl 0 rfl) ?_
      refine g_get K.1 hP (0) (by decide) rfl rfl i_M 8 (by decide) rfl (Or.inl kw_642) rfl d_M_gap_65 ?_
      refine lv_topE (y := (nI (gc + 1))) (by first | (simp [u2_at, kpM]; done) | (simp [u2_at, kpM] <;> (intros; omega)) | (simp only [u2_at, kpM]; (repeat' split) <;> first | rfl | (exfalso; omega))) ?_
      refine lv_topE (y := nI (gc + 1)) rfl ?_
      exact de_i K hP hS (Or.inl ⟨w_3, hlt, rfl, rfl, rfl⟩) (Nat.le_of_ble_eq_true rfl) (Nat.le_of_ble_eq_true rfl) d_M_gap_68
  · refine lv_topE (y := 0) ((hr_eq _ _).trans (if_neg w_3)) ?_
    refine lv_aload_n K.hx K.hb d_M_gap_6 rfl (lv_at hl 0 rfl) ?_
    refine g_get K.1 hP (0) (by decide) rfl rfl i_M 8 (by decide) rfl (Or.inl kw_642) rfl d_M_gap_7 ?_
    refine lv_topE (y := nI gc) hgc ?_
    refine lv_bipush (v := 6) K.hx K.hb d_M_gap_10 (by decide) ?_
    refine lv_icmp_ge (tgt := 19) K.hx K.hb d_M_gap_12 (by decide) (fun c_12 => ?_) (fun c_12 => ?_)
    · refine lv_iconst (v := 0) K.hx K.hb d_M_gap_19 (by decide) ?_
      refine lv_iconst (v := 1) K.hx K.hb d_M_gap_20 (by decide) ?_
      refine dd_V K hP hS (c_M_goes l D cs ad _ _ 0 0 1) kw_751 xm_M_goes kw_748 kw_750 kw_13 (g_recv K.1.2.1 hP (0) (by decide) rfl rfl) rfl hl.1 d_M_gap_21 (Nat.le_of_ble_eq_true rfl) (Nat.le_of_ble_eq_true rfl) ⟨(Nat.le_of_ble_eq_true rfl), (Nat.le_of_ble_eq_true rfl)⟩ (fun r v1 sd1 H l1 hp hP hS => ?_)
      obtain ⟨rfl, rfl, rfl⟩ := hp
      have hgz : gz 0 0 1 = 1 := by decide
      rw [hgz] at hP
      refine lv_topE (y := 0) (by rw [hgz]; decide) ?_
      refine lv_if_ne (tgt := 29) K.hx K.hb d_M_gap_24 (by decide) (fun c_24 => (show False from by revert c_24; decide).elim) (fun _ => ?_)
      refine lv_iconst (v := 0) K.hx K.hb d_M_gap_27 (by decide) ?_
      exact de_i K hP hS (Or.inr (Or.inl ⟨w_3, rfl, rfl, rfl⟩)) (Nat.le_of_ble_eq_true rfl) (Nat.le_of_ble_eq_true rfl) d_M_gap_28
    · refine lv_iconst (v := 1) K.hx K.hb d_M_gap_15 (by decide) ?_
      refine lv_goto (tgt := 20) K.hx K.hb d_M_gap_16 (by decide) ?_
      refine lv_iconst (v := 1) K.hx K.hb d_M_gap_20 (by decide) ?_
      refine dd_V K hP hS (c_M_goes l D cs ad _ _ 0 1 1) kw_751 xm_M_goes kw_748 kw_750 kw_13 (g_recv K.1.2.1 hP (0) (by decide) rfl rfl) rfl hl.1 d_M_gap_21 (Nat.le_of_ble_eq_true rfl) (Nat.le_of_ble_eq_true rfl) ⟨(Nat.le_of_ble_eq_true rfl), (Nat.le_of_ble_eq_true rfl)⟩ (fun r v1 sd1 H l1 hp hP hS => ?_)
      obtain ⟨rfl, rfl, rfl⟩ := hp
      have hgz : gz 0 1 1 = 1 := by decide
      rw [hgz] at hP
      refine lv_topE (y := 0) (by rw [hgz]; decide) ?_
      refine lv_if_ne (tgt := 29) K.hx K.hb d_M_gap_24 (by decide) (fun c_24 => (show False from by revert c_24; decide).elim) (fun _ => ?_)
      refine lv_iconst (v := 0) K.hx K.hb d_M_gap_27 (by decide) ?_
      exact de_i K hP hS (Or.inr (Or.inl ⟨w_3, rfl, rfl, rfl⟩)) (Nat.le_of_ble_eq_true rfl) (Nat.le_of_ble_eq_true rfl) d_M_gap_28
set_option maxHeartbeats 4000000 in
set_option maxRecDepth 100000 in
theorem c_M_person (l : Launch) (D : va_G) (cs : Nat → ClassId) (ad : Nat → Nat) (v : Nat → Nat → Int32) (sd : Int64) {pc : Nat} (hpc : v 0 11 = nI pc) (hp4 : pc ≤ 4) (x y z : Int32)  : Dm l y_M_person b_M_person 4 (some .int) (rmx 2 0) [.ref (ad 0), .int x, .int y, .int z] D cs ad v sd (fun r v' sd' => ((¬ wthZ x 0 3 = 0 ∧ hrZ y z) ∧ pc < 4 ∧ r = some (.int (nI pc)) ∧ u2 (u2 (u2 (u2 (u2 (u2 v 0 0 0) 8 pc x) 9 pc y) 10 pc z) 0 11 (nI (pc + 1))) 0 23 0 = v' ∧ sd = sd') ∨ (¬ (¬ wthZ x 0 3 = 0 ∧ hrZ y z) ∧ r = some (.int 0) ∧ u2 v 0 0 1 = v' ∧ sd = sd') ∨ ((¬ wthZ x 0 3 = 0 ∧ hrZ y z) ∧ ¬ pc < 4 ∧ r = some (.int 0) ∧ u2 v 0 0 2 = v' ∧ sd = sd')) (fun cls => False) := by
  refine dw_enter (own := "WearHoursModel") rfl (Nat.le_of_ble_eq_true rfl) ?_
  intro p e s m below meth c ls K hS hP hl
  have hl : lv_has ls 4 [(0, .ref (ad 0)), (1, .int x), (2, .int y), (3, .int z)] := hl
  refine lv_aload_n K.hx K.hb d_M_person_0 rfl (lv_at hl 0 rfl) ?_
  refine lv_iload_n K.hx K.hb d_M_person_1 rfl (lv_at hl 1 rfl) ?_
  refine lv_iconst (v := 0) K.hx K.hb d_M_person_2 (by decide) ?_
  refine lv_iconst (v := 3) K.hx K.hb d_M_person_3 (by decide) ?_
  refine dd_S K hP hS (c_M_in l D cs ad _ _ x 0 3) kw_747 xm_M_in kw_745 kw_746 kw_29 rfl hl.1 d_M_person_4 (Nat.le_of_ble_eq_true rfl) (Nat.le_of_ble_eq_true rfl) ⟨(Nat.le_of_ble_eq_true rfl), (Nat.le_of_ble_eq_true rfl)⟩ (fun r v1 sd1 H l1 hp hP hS => ?_)
  obtain ⟨rfl, rfl, rfl⟩ := hp
  rcases wth_01 x 0 3 with w_4 | w_4
  · refine lv_topE (y := 0) w_4 ?_
    refine lv_if_eq (tgt := 22) K.hx K.hb d_M_person_7 (by decide) (fun _ => ?_) (fun c_7 => (show False from by revert c_7; decide).elim)
    refine lv_iconst (v := 0) K.hx K.hb d_M_person_22 (by decide) ?_
    refine lv_aload_n K.hx K.hb d_M_person_23 rfl (lv_at hl 0 rfl) ?_
    refine g_get K.1 hP (0) (by decide) rfl rfl i_M 11 (by decide) rfl (Or.inl kw_645) rfl d_M_person_24 ?_
    refine lv_topE (y := nI pc) hpc ?_
    refine lv_iconst (v := 4) K.hx K.hb d_M_person_27 (by decide) ?_
    refine lv_icmp_ge (tgt := 35) K.hx K.hb d_M_person_28 (by decide) (fun c_28 => ?_) (fun c_28 => ?_)
    · refine lv_iconst (v := 0) K.hx K.hb d_M_person_35 (by decide) ?_
      refine lv_iconst (v := 1) K.hx K.hb d_M_person_36 (by decide) ?_
      refine dd_V K hP hS (c_M_goes l D cs ad _ _ 0 0 1) kw_751 xm_M_goes kw_748 kw_750 kw_13 (g_recv K.1.2.1 hP (0) (by decide) rfl rfl) rfl hl.1 d_M_person_37 (Nat.le_of_ble_eq_true rfl) (Nat.le_of_ble_eq_true rfl) ⟨(Nat.le_of_ble_eq_true rfl), (Nat.le_of_ble_eq_true rfl)⟩ (fun r v1 sd1 H l1 hp hP hS => ?_)
      obtain ⟨rfl, rfl, rfl⟩ := hp
      have hgz : gz 0 0 1 = 1 := by decide
      rw [hgz] at hP
      refine lv_topE (y := 0) (by rw [hgz]; decide) ?_
      refine lv_if_ne (tgt := 45) K.hx K.hb d_M_person_40 (by decide) (fun c_40 => (show False from by revert c_40; decide).elim) (fun _ => ?_)
      refine lv_iconst (v := 0) K.hx K.hb d_M_person_43 (by decide) ?_
      exact de_i K hP hS (Or.inr (Or.inl ⟨(fun h => h.1 w_4), rfl, rfl, rfl⟩)) (Nat.le_of_ble_eq_true rfl) (Nat.le_of_ble_eq_true rfl) d_M_person_44
    · refine lv_iconst (v := 1) K.hx K.hb d_M_person_31 (by decide) ?_
      refine lv_goto (tgt := 36) K.hx K.hb d_M_person_32 (by decide) ?_
      refine lv_iconst (v := 1) K.hx K.hb d_M_person_36 (by decide) ?_
      refine dd_V K hP hS (c_M_goes l D cs ad _ _ 0 1 1) kw_751 xm_M_goes kw_748 kw_750 kw_13 (g_recv K.1.2.1 hP (0) (by decide) rfl rfl) rfl hl.1 d_M_person_37 (Nat.le_of_ble_eq_true rfl) (Nat.le_of_ble_eq_true rfl) ⟨(Nat.le_of_ble_eq_true rfl), (Nat.le_of_ble_eq_true rfl)⟩ (fun r v1 sd1 H l1 hp hP hS => ?_)
      obtain ⟨rfl, rfl, rfl⟩ := hp
      have hgz : gz 0 1 1 = 1 := by decide
      rw [hgz] at hP
      refine lv_topE (y := 0) (by rw [hgz]; decide) ?_
      refine lv_if_ne (tgt := 45) K.hx K.hb d_M_person_40 (by decide) (fun c_40 => (show False from by revert c_40; decide).elim) (fun _ => ?_)
      refine lv_iconst (v := 0) K.hx K.hb d_M_person_43 (by decide) ?_
      exact de_i K hP hS (Or.inr (Or.inl ⟨(fun h => h.1 w_4), rfl, rfl, rfl⟩)) (Nat.le_of_ble_eq_true rfl) (Nat.le_of_ble_eq_true rfl) d_M_person_44
  · refine lv_topE (y := 1) w_4 ?_
    refine lv_if_eq (tgt := 22) K.hx K.hb d_M_person_7 (by decide) (fun c_7 => (show False from by revert c_7; decide).elim) (fun _ => ?_)
    refine lv_iload_n K.hx K.hb d_M_person_10 rfl (lv_at hl 2 rfl) ?_
    refine lv_iload_n K.hx K.hb d_M_person_11 rfl (lv_at hl 3 rfl) ?_
    refine dd_S K hP hS (c_M_areHours l D cs ad _ _ y z) kw_798 xm_M_areHours kw_796 kw_797 kw_29 rfl hl.1 d_M_person_12 (Nat.le_of_ble_eq_true rfl) (Nat.le_of_ble_eq_true rfl) ⟨(Nat.le_of_ble_eq_true rfl), (Nat.le_of_ble_eq_true rfl)⟩ (fun r v1 sd1 H l1 hp hP hS => ?_)
    obtain ⟨rfl, rfl, rfl⟩ := hp
    by_cases w_12 : hrZ y z
    · refine lv_topE (y := 1) ((hr_eq _ _).trans (if_pos w_12)) ?_
      refine lv_if_eq (tgt := 22) K.hx K.hb d_M_person_15 (by decide) (fun c_15 => (show False from by revert c_15; decide).elim) (fun _ => ?_)
      refine lv_iconst (v := 1) K.hx K.hb d_M_person_18 (by decide) ?_
      refine lv_goto (tgt := 23) K.hx K.hb d_M_person_19 (by decide) ?_
      refine lv_aload_n K.hx K.hb d_M_person_23 rfl (lv_at hl 0 rfl) ?_
      refine g_get K.1 hP (0) (by decide) rfl rfl i_M 11 (by decide) rfl (Or.inl kw_645) rfl d_M_person_24 ?_
      refine lv_topE (y := nI pc) hpc ?_
      refine lv_iconst (v := 4) K.hx K.hb d_M_person_27 (by decide) ?_
      refine lv_icmp_ge (tgt := 35) K.hx K.hb d_M_person_28 (by decide) (fun c_28 => ?_) (fun c_28 => ?_)
      · refine lv_iconst (v := 0) K.hx K.hb d_M_person_35 (by decide) ?_
        refine lv_iconst (v := 1) K.hx K.hb d_M_person_36 (by decide) ?_
        refine dd_V K hP hS (c_M_goes l D cs ad _ _ 1 0 1) kw_751 xm_M_goes kw_748 kw_750 kw_13 (g_recv K.1.2.1 hP (0) (by decide) rfl rfl) rfl hl.1 d_M_person_37 (Nat.le_of_ble_eq_true rfl) (Nat.le_of_ble_eq_true rfl) ⟨(Nat.le_of_ble_eq_true rfl), (Nat.le_of_ble_eq_true rfl)⟩ (fun r v1 sd1 H l1 hp hP hS => ?_)
        obtain ⟨rfl, rfl, rfl⟩ := hp
        have hgz : gz 1 0 1 = 2 := by decide
        rw [hgz] at hP
        refine lv_topE (y := 0) (by rw [hgz]; decide) ?_
        refine lv_if_ne (tgt := 45) K.hx K.hb d_M_person_40 (by decide) (fun c_40 => (show False from by revert c_40; decide).elim) (fun _ => ?_)
        refine lv_iconst (v := 0) K.hx K.hb d_M_person_43 (by decide) ?_
        exact de_i K hP hS (Or.inr (Or.inr ⟨⟨one_ne w_4, w_12⟩, fun h => absurd h (Nat.not_lt.mpr ((nI_leI (by decide) (by omega)).mp (show nI 4 ≤ nI pc from c_28))), rfl, rfl, rfl⟩)) (Nat.le_of_ble_eq_true rfl) (Nat.le_of_ble_eq_true rfl) d_M_person_44
      · refine lv_iconst (v := 1) K.hx K.hb d_M_person_31 (by decide) ?_
        refine lv_goto (tgt := 36) K.hx K.hb d_M_person_32 (by decide) ?_
        refine lv_iconst (v := 1) K.hx K.hb d_M_person_36 (by decide) ?_
        refine dd_V K hP hS (c_M_goes l D cs ad _ _ 1 1 1) kw_751 xm_M_goes kw_748 kw_750 kw_13 (g_recv K.1.2.1 hP (0) (by decide) rfl rfl) rfl hl.1 d_M_person_37 (Nat.le_of_ble_eq_true rfl) (Nat.le_of_ble_eq_true rfl) ⟨(Nat.le_of_ble_eq_true rfl), (Nat.le_of_ble_eq_true rfl)⟩ (fun r v1 sd1 H l1 hp hP hS => ?_)
        obtain ⟨rfl, rfl, rfl⟩ := hp
        have hgz : gz 1 1 1 = 0 := by decide
        rw [hgz] at hP
        refine lv_topE (y := 1) (by rw [hgz]; decide) ?_
        refine lv_if_ne (tgt := 45) K.hx K.hb d_M_person_40 (by decide) (fun _ => ?_) (fun c_40 => (show False from by revert c_40; decide).elim)
        have hlt : pc < 4 := (nI_ltI (by omega) (by decide)).mp (show nI pc < nI 4 from Int32.not_le.mp c_28)
        refine lv_aload_n K.hx K.hb d_M_person_45 rfl (lv_at hl 0 rfl) ?_
        refine g_get K.1 hP (0) (by decide) rfl rfl i_M 12 (by decide) rfl (Or.inl kw_646) rfl d_M_person_46 ?_
        refine lv_aload_n K.hx K.hb d_M_person_49 rfl (lv_at hl 0 rfl) ?_
        refine g_get K.1 hP (0) (by decide) rfl rfl i_M 11 (by decide) rfl (Or.inl kw_645) rfl d_M_person_50 ?_
        refine lv_topE (y := (v 0 11)) (by first | (simp [u2_at, kpM]; done) | (simp [u2_at, kpM] <;> (intros; omega)) | (simp only [u2_at, kpM]; (repeat' split) <;> first | rfl | (exfalso; omega))) ?_
        refine lv_topE (y := nI pc) hpc ?_
        refine lv_iload_n K.hx K.hb d_M_person_53 rfl (lv_at hl 1 rfl) ?_
        refine g_iast K.1 hP hS (8) (by decide) (fun _ => rfl) 0 rfl (pc) rfl (by omega) (by decide) d_M_person_54 (fun H l1 hP hS => ?_)
        refine lv_aload_n K.hx K.hb d_M_person_55 rfl (lv_at hl 0 rfl) ?_
        refine g_get K.1 hP (0) (by decide) rfl rfl i_M 13 (by decide) rfl (Or.inl kw_647) rfl d_M_person_56 ?_
        refine lv_aload_n K.hx K.hb d_M_person_59 rfl (lv_at hl 0 rfl) ?_
        refine g_get K.1 hP (0) (by decide) rfl rfl i_M 11 (by decide) rfl (Or.inl kw_645) rfl d_M_person_60 ?_
        refine lv_topE (y := (v 0 11)) (by first | (simp [u2_at, kpM]; done) | (simp [u2_at, kpM] <;> (intros; omega)) | (simp only [u2_at, kpM]; (repeat' split) <;> first | rfl | (exfalso; omega))) ?_
        refine lv_topE (y := nI pc) hpc ?_
        refine lv_iload_n K.hx K.hb d_M_person_63 rfl (lv_at hl 2 rfl) ?_
        refine g_iast K.1 hP hS (9) (by decide) (fun _ => rfl) 0 rfl (pc) rfl (by omega) (by decide) d_M_person_64 (fun H l1 hP hS => ?_)
        refine lv_aload_n K.hx K.hb d_M_person_65 rfl (lv_at hl 0 rfl) ?_
        refine g_get K.1 hP (0) (by decide) rfl rfl i_M 14 (by decide) rfl (Or.inl kw_648) rfl d_M_person_66 ?_
        refine lv_aload_n K.hx K.hb d_M_person_69 rfl (lv_at hl 0 rfl) ?_
        refine g_get K.1 hP (0) (by decide) rfl rfl i_M 11 (by decide) rfl (Or.inl kw_645) rfl d_M_person_70 ?_
        refine lv_topE (y := (v 0 11)) (by first | (simp [u2_at, kpM]; done) | (simp [u2_at, kpM] <;> (intros; omega)) | (simp only [u2_at, kpM]; (repeat' split) <;> first | rfl | (exfalso; omega))) ?_
        refine lv_topE (y := nI pc) hpc ?_
        refine lv_iload_n K.hx K.hb d_M_person_73 rfl (lv_at hl 3 rfl) ?_
        refine g_iast K.1 hP hS (10) (by decide) (fun _ => rfl) 0 rfl (pc) rfl (by omega) (by decide) d_M_person_74 (fun H l1 hP hS => ?_)
        refine lv_aload_n K.hx K.hb d_M_person_75 rfl (lv_at hl 0 rfl) ?_
        refine lv_dup K.hx K.hb d_M_person_76 rfl ?_
        refine g_get K.1 hP (0) (by decide) rfl rfl i_M 11 (by decide) rfl (Or.inl kw_645) rfl d_M_person_77 ?_
        refine lv_topE (y := (v 0 11)) (by first | (simp [u2_at, kpM]; done) | (simp [u2_at, kpM] <;> (intros; omega)) | (simp only [u2_at, kpM]; (repeat' split) <;> first | rfl | (exfalso; omega))) ?_
        refine lv_topE (y := nI pc) hpc ?_
        refine lv_iconst (v := 1) K.hx K.hb d_M_person_80 (by decide) ?_
        refine lv_iadd K.hx K.hb d_M_person_81 ?_
        refine lv_topE (y := nI (pc + 1)) (nI_add _ _) ?_
        refine g_puti K.1 hP hS (0) (by decide) rfl rfl i_M ft_M ft_M_ok n_M 11 (by decide) rfl (Or.inl kw_645) rfl rfl rfl (Nat.le_of_ble_eq_true rfl) rfl d_M_person_82 (fun H l1 hP hS => ?_)
        refine lv_aload_n K.hx K.hb d_M_person_85 rfl (lv_at hl 0 rfl) ?_
        refine lv_iconst (v := 0) K.hx K.hb d_M_person_86 (by decide) ?_
        refine g_puti K.1 hP hS (0) (by decide) rfl rfl i_M ft_M ft_M_ok n_M 23 (by decide) rfl (Or.inl kw_657) rfl rfl rfl (Nat.le_of_ble_eq_true rfl) rfl d_M_person_87 (fun H l1 hP hS => ?_)
        refine lv_aload_n K.hx K.hb d_M_person_90 rfl (lv_at hl 0 rfl) ?_
        refine g_get K.1 hP (0) (by decide) rfl rfl i_M 11 (by decide) rfl (Or.inl kw_645) rfl d_M_person_91 ?_
        refine lv_topE (y := (nI (pc + 1))) (by first | (simp [u2_at, kpM]; done) | (simp [u2_at, kpM] <;> (intros; omega)) | (simp only [u2_at, kpM]; (repeat' split) <;> first | rfl | (exfalso; omega))) ?_
        refine lv_topE (y := nI (pc + 1)) rfl ?_
        refine lv_iconst (v := 1) K.hx K.hb d_M_person_94 (by decide) ?_
        refine lv_isub K.hx K.hb d_M_person_95 ?_
        refine lv_topE (y := nI (pc + 0)) (nI_pred _) ?_
        exact de_i K hP hS (Or.inl ⟨⟨one_ne w_4, w_12⟩, hlt, rfl, rfl, rfl⟩) (Nat.le_of_ble_eq_true rfl) (Nat.le_of_ble_eq_true rfl) d_M_person_96
    · refine lv_topE (y := 0) ((hr_eq _ _).trans (if_neg w_12)) ?_
      refine lv_if_eq (tgt := 22) K.hx K.hb d_M_person_15 (by decide) (fun _ => ?_) (fun c_15 => (show False from by revert c_15; decide).elim)
      refine lv_iconst (v := 0) K.hx K.hb d_M_person_22 (by decide) ?_
      refine lv_aload_n K.hx K.hb d_M_person_23 rfl (lv_at hl 0 rfl) ?_
      refine g_get K.1 hP (0) (by decide) rfl rfl i_M 11 (by decide) rfl (Or.inl kw_645) rfl d_M_person_24 ?_
      refine lv_topE (y := nI pc) hpc ?_
      refine lv_iconst (v := 4) K.hx K.hb d_M_person_27 (by decide) ?_
      refine lv_icmp_ge (tgt := 35) K.hx K.hb d_M_person_28 (by decide) (fun c_28 => ?_) (fun c_28 => ?_)
      · refine lv_iconst (v := 0) K.hx K.hb d_M_person_35 (by decide) ?_
        refine lv_iconst (v := 1) K.hx K.hb d_M_person_36 (by decide) ?_
        refine dd_V K hP hS (c_M_goes l D cs ad _ _ 0 0 1) kw_751 xm_M_goes kw_748 kw_750 kw_13 (g_recv K.1.2.1 hP (0) (by decide) rfl rfl) rfl hl.1 d_M_person_37 (Nat.le_of_ble_eq_true rfl) (Nat.le_of_ble_eq_true rfl) ⟨(Nat.le_of_ble_eq_true rfl), (Nat.le_of_ble_eq_true rfl)⟩ (fun r v1 sd1 H l1 hp hP hS => ?_)
        obtain ⟨rfl, rfl, rfl⟩ := hp
        have hgz : gz 0 0 1 = 1 := by decide
        rw [hgz] at hP
        refine lv_topE (y := 0) (by rw [hgz]; decide) ?_
        refine lv_if_ne (tgt := 45) K.hx K.hb d_M_person_40 (by decide) (fun c_40 => (show False from by revert c_40; decide).elim) (fun _ => ?_)
        refine lv_iconst (v := 0) K.hx K.hb d_M_person_43 (by decide) ?_
        exact de_i K hP hS (Or.inr (Or.inl ⟨(fun h => w_12 h.2), rfl, rfl, rfl⟩)) (Nat.le_of_ble_eq_true rfl) (Nat.le_of_ble_eq_true rfl) d_M_person_44
      · refine lv_iconst (v := 1) K.hx K.hb d_M_person_31 (by decide) ?_
        refine lv_goto (tgt := 36) K.hx K.hb d_M_person_32 (by decide) ?_
        refine lv_iconst (v := 1) K.hx K.hb d_M_person_36 (by decide) ?_
        refine dd_V K hP hS (c_M_goes l D cs ad _ _ 0 1 1) kw_751 xm_M_goes kw_748 kw_750 kw_13 (g_recv K.1.2.1 hP (0) (by decide) rfl rfl) rfl hl.1 d_M_person_37 (Nat.le_of_ble_eq_true rfl) (Nat.le_of_ble_eq_true rfl) ⟨(Nat.le_of_ble_eq_true rfl), (Nat.le_of_ble_eq_true rfl)⟩ (fun r v1 sd1 H l1 hp hP hS => ?_)
        obtain ⟨rfl, rfl, rfl⟩ := hp
        have hgz : gz 0 1 1 = 1 := by decide
        rw [hgz] at hP
        refine lv_topE (y := 0) (by rw [hgz]; decide) ?_
        refine lv_if_ne (tgt := 45) K.hx K.hb d_M_person_40 (by decide) (fun c_40 => (show False from by revert c_40; decide).elim) (fun _ => ?_)
        refine lv_iconst (v := 0) K.hx K.hb d_M_person_43 (by decide) ?_
        exact de_i K hP hS (Or.inr (Or.inl ⟨(fun h => w_12 h.2), rfl, rfl, rfl⟩)) (Nat.le_of_ble_eq_true rfl) (Nat.le_of_ble_eq_true rfl) d_M_person_44
set_option maxHeartbeats 4000000 in
set_option maxRecDepth 100000 in
theorem c_M_repair (l : Launch) (D : va_G) (cs : Nat → ClassId) (ad : Nat → Nat) (v : Nat → Nat → Int32) (sd : Int64) {tc : Nat} (htc : v 0 2 = nI tc) (ht8 : tc ≤ 8) {rc : Nat} (hrc : v 0 15 = nI rc) (hr5 : rc ≤ 5) (x y z w : Int32)  : Dm l y_M_repair b_M_repair 5 (some .int) (rmx 2 0) [.ref (ad 0), .int x, .int y, .int z, .int w] D cs ad v sd (fun r v' sd' => (∃ i, i < tc ∧ x = nI i ∧ (¬ wthZ y 1 24 = 0 ∧ ¬ wthZ z 0 3 = 0 ∧ ¬ wthZ w 0 1000 = 0) ∧ rc < 5 ∧ r = some (.int (nI rc)) ∧ u2 (u2 (u2 (u2 (u2 (u2 (u2 v 0 0 0) 11 rc (nI i)) 12 rc y) 13 rc z) 14 rc w) 0 15 (nI (rc + 1))) 0 23 0 = v' ∧ sd = sd') ∨ ((¬ ∃ i, i < tc ∧ x = nI i) ∧ r = some (.int 0) ∧ u2 v 0 0 1 = v' ∧ sd = sd') ∨ ((∃ i, i < tc ∧ x = nI i) ∧ ¬ (¬ wthZ y 1 24 = 0 ∧ ¬ wthZ z 0 3 = 0 ∧ ¬ wthZ w 0 1000 = 0) ∧ r = some (.int 0) ∧ u2 v 0 0 2 = v' ∧ sd = sd') ∨ ((∃ i, i < tc ∧ x = nI i) ∧ (¬ wthZ y 1 24 = 0 ∧ ¬ wthZ z 0 3 = 0 ∧ ¬ wthZ w 0 1000 = 0) ∧ ¬ rc < 5 ∧ r = some (.int 0) ∧ u2 v 0 0 3 = v' ∧ sd = sd')) (fun cls => False) := by
  refine dw_enter (own := "WearHoursModel") rfl (Nat.le_of_ble_eq_true rfl) ?_
  intro p e s m below meth c ls K hS hP hl
  have hl : lv_has ls 5 [(0, .ref (ad 0)), (1, .int x), (2, .int y), (3, .int z), (4, .int w)] := hl
  refine lv_aload_n K.hx K.hb d_M_repair_0 rfl (lv_at hl 0 rfl) ?_
  refine lv_aload_n K.hx K.hb d_M_repair_1 rfl (lv_at hl 0 rfl) ?_
  refine lv_iload_n K.hx K.hb d_M_repair_2 rfl (lv_at hl 1 rfl) ?_
  refine dd_V K hP hS (c_M_isThing l D cs ad _ _ htc ht8 x) kw_759 xm_M_isThing kw_756 kw_758 kw_14 (g_recv K.1.2.1 hP (0) (by decide) rfl rfl) rfl hl.1 d_M_repair_3 (Nat.le_of_ble_eq_true rfl) (Nat.le_of_ble_eq_true rfl) ⟨(Nat.le_of_ble_eq_true rfl), (Nat.le_of_ble_eq_true rfl)⟩ (fun r v1 sd1 H l1 hp hP hS => ?_)
  obtain ⟨rfl, rfl, rfl⟩ := hp
  by_cases hx : ∃ i, i < tc ∧ x = nI i
  · refine lv_topE (y := 1) (wth_yes (by omega) hx) ?_
    obtain ⟨i, hi, rfl⟩ := hx
    have hi8 : i < 8 := by omega
    refine lv_iload_n K.hx K.hb d_M_repair_6 rfl (lv_at hl 2 rfl) ?_
    refine lv_iconst (v := 1) K.hx K.hb d_M_repair_7 (by decide) ?_
    refine lv_bipush (v := 24) K.hx K.hb d_M_repair_8 (by decide) ?_
    refine dd_S K hP hS (c_M_in l D cs ad _ _ y 1 24) kw_747 xm_M_in kw_745 kw_746 kw_29 rfl hl.1 d_M_repair_10 (Nat.le_of_ble_eq_true rfl) (Nat.le_of_ble_eq_true rfl) ⟨(Nat.le_of_ble_eq_true rfl), (Nat.le_of_ble_eq_true rfl)⟩ (fun r v1 sd1 H l1 hp hP hS => ?_)
    obtain ⟨rfl, rfl, rfl⟩ := hp
    rcases wth_01 y 1 24 with w_10 | w_10
    · refine lv_topE (y := 0) w_10 ?_
      refine lv_if_eq (tgt := 41) K.hx K.hb d_M_repair_13 (by decide) (fun _ => ?_) (fun c_13 => (show False from by revert c_13; decide).elim)
      refine lv_iconst (v := 0) K.hx K.hb d_M_repair_41 (by decide) ?_
      refine lv_aload_n K.hx K.hb d_M_repair_42 rfl (lv_at hl 0 rfl) ?_
      refine g_get K.1 hP (0) (by decide) rfl rfl i_M 15 (by decide) rfl (Or.inl kw_649) rfl d_M_repair_43 ?_
      refine lv_topE (y := nI rc) hrc ?_
      refine lv_iconst (v := 5) K.hx K.hb d_M_repair_46 (by decide) ?_
      refine lv_icmp_ge (tgt := 54) K.hx K.hb d_M_repair_47 (by decide) (fun c_47 => ?_) (fun c_47 => ?_)
      · refine lv_iconst (v := 0) K.hx K.hb d_M_repair_54 (by decide) ?_
        refine dd_V K hP hS (c_M_goes l D cs ad _ _ 1 0 0) kw_751 xm_M_goes kw_748 kw_750 kw_13 (g_recv K.1.2.1 hP (0) (by decide) rfl rfl) rfl hl.1 d_M_repair_55 (Nat.le_of_ble_eq_true rfl) (Nat.le_of_ble_eq_true rfl) ⟨(Nat.le_of_ble_eq_true rfl), (Nat.le_of_ble_eq_true rfl)⟩ (fun r v1 sd1 H l1 hp hP hS => ?_)
        obtain ⟨rfl, rfl, rfl⟩ := hp
        have hgz : gz 1 0 0 = 2 := by decide
        rw [hgz] at hP
        refine lv_topE (y := 0) (by rw [hgz]; decide) ?_
        refine lv_if_ne (tgt := 63) K.hx K.hb d_M_repair_58 (by decide) (fun c_58 => (show False from by revert c_58; decide).elim) (fun _ => ?_)
        refine lv_iconst (v := 0) K.hx K.hb d_M_repair_61 (by decide) ?_
        exact de_i K hP hS (Or.inr (Or.inr (Or.inl ⟨⟨i, hi, rfl⟩, (fun h => h.1 w_10), rfl, rfl, rfl⟩))) (Nat.le_of_ble_eq_true rfl) (Nat.le_of_ble_eq_true rfl) d_M_repair_62
      · refine lv_iconst (v := 1) K.hx K.hb d_M_repair_50 (by decide) ?_
        refine lv_goto (tgt := 55) K.hx K.hb d_M_repair_51 (by decide) ?_
        refine dd_V K hP hS (c_M_goes l D cs ad _ _ 1 0 1) kw_751 xm_M_goes kw_748 kw_750 kw_13 (g_recv K.1.2.1 hP (0) (by decide) rfl rfl) rfl hl.1 d_M_repair_55 (Nat.le_of_ble_eq_true rfl) (Nat.le_of_ble_eq_true rfl) ⟨(Nat.le_of_ble_eq_true rfl), (Nat.le_of_ble_eq_true rfl)⟩ (fun r v1 sd1 H l1 hp hP hS => ?_)
        obtain ⟨rfl, rfl, rfl⟩ := hp
        have hgz : gz 1 0 1 = 2 := by decide
        rw [hgz] at hP
        refine lv_topE (y := 0) (by rw [hgz]; decide) ?_
        refine lv_if_ne (tgt := 63) K.hx K.hb d_M_repair_58 (by decide) (fun c_58 => (show False from by revert c_58; decide).elim) (fun _ => ?_)
        refine lv_iconst (v := 0) K.hx K.hb d_M_repair_61 (by decide) ?_
        exact de_i K hP hS (Or.inr (Or.inr (Or.inl ⟨⟨i, hi, rfl⟩, (fun h => h.1 w_10), rfl, rfl, rfl⟩))) (Nat.le_of_ble_eq_true rfl) (Nat.le_of_ble_eq_true rfl) d_M_repair_62
    · refine lv_topE (y := 1) w_10 ?_
      refine lv_if_eq (tgt := 41) K.hx K.hb d_M_repair_13 (by decide) (fun c_13 => (show False from by revert c_13; decide).elim) (fun _ => ?_)
      refine lv_iload_n K.hx K.hb d_M_repair_16 rfl (lv_at hl 3 rfl) ?_
      refine lv_iconst (v := 0) K.hx K.hb d_M_repair_17 (by decide) ?_
      refine lv_iconst (v := 3) K.hx K.hb d_M_repair_18 (by decide) ?_
      refine dd_S K hP hS (c_M_in l D cs ad _ _ z 0 3) kw_747 xm_M_in kw_745 kw_746 kw_29 rfl hl.1 d_M_repair_19 (Nat.le_of_ble_eq_true rfl) (Nat.le_of_ble_eq_true rfl) ⟨(Nat.le_of_ble_eq_true rfl), (Nat.le_of_ble_eq_true rfl)⟩ (fun r v1 sd1 H l1 hp hP hS => ?_)
      obtain ⟨rfl, rfl, rfl⟩ := hp
      rcases wth_01 z 0 3 with w_19 | w_19
      · refine lv_topE (y := 0) w_19 ?_
        refine lv_if_eq (tgt := 41) K.hx K.hb d_M_repair_22 (by decide) (fun _ => ?_) (fun c_22 => (show False from by revert c_22; decide).elim)
        refine lv_iconst (v := 0) K.hx K.hb d_M_repair_41 (by decide) ?_
        refine lv_aload_n K.hx K.hb d_M_repair_42 rfl (lv_at hl 0 rfl) ?_
        refine g_get K.1 hP (0) (by decide) rfl rfl i_M 15 (by decide) rfl (Or.inl kw_649) rfl d_M_repair_43 ?_
        refine lv_topE (y := nI rc) hrc ?_
        refine lv_iconst (v := 5) K.hx K.hb d_M_repair_46 (by decide) ?_
        refine lv_icmp_ge (tgt := 54) K.hx K.hb d_M_repair_47 (by decide) (fun c_47 => ?_) (fun c_47 => ?_)
        · refine lv_iconst (v := 0) K.hx K.hb d_M_repair_54 (by decide) ?_
          refine dd_V K hP hS (c_M_goes l D cs ad _ _ 1 0 0) kw_751 xm_M_goes kw_748 kw_750 kw_13 (g_recv K.1.2.1 hP (0) (by decide) rfl rfl) rfl hl.1 d_M_repair_55 (Nat.le_of_ble_eq_true rfl) (Nat.le_of_ble_eq_true rfl) ⟨(Nat.le_of_ble_eq_true rfl), (Nat.le_of_ble_eq_true rfl)⟩ (fun r v1 sd1 H l1 hp hP hS => ?_)
          obtain ⟨rfl, rfl, rfl⟩ := hp
          have hgz : gz 1 0 0 = 2 := by decide
          rw [hgz] at hP
          refine lv_topE (y := 0) (by rw [hgz]; decide) ?_
          refine lv_if_ne (tgt := 63) K.hx K.hb d_M_repair_58 (by decide) (fun c_58 => (show False from by revert c_58; decide).elim) (fun _ => ?_)
          refine lv_iconst (v := 0) K.hx K.hb d_M_repair_61 (by decide) ?_
          exact de_i K hP hS (Or.inr (Or.inr (Or.inl ⟨⟨i, hi, rfl⟩, (fun h => h.2.1 w_19), rfl, rfl, rfl⟩))) (Nat.le_of_ble_eq_true rfl) (Nat.le_of_ble_eq_true rfl) d_M_repair_62
        · refine lv_iconst (v := 1) K.hx K.hb d_M_repair_50 (by decide) ?_
          refine lv_goto (tgt := 55) K.hx K.hb d_M_repair_51 (by decide) ?_
          refine dd_V K hP hS (c_M_goes l D cs ad _ _ 1 0 1) kw_751 xm_M_goes kw_748 kw_750 kw_13 (g_recv K.1.2.1 hP (0) (by decide) rfl rfl) rfl hl.1 d_M_repair_55 (Nat.le_of_ble_eq_true rfl) (Nat.le_of_ble_eq_true rfl) ⟨(Nat.le_of_ble_eq_true rfl), (Nat.le_of_ble_eq_true rfl)⟩ (fun r v1 sd1 H l1 hp hP hS => ?_)
          obtain ⟨rfl, rfl, rfl⟩ := hp
          have hgz : gz 1 0 1 = 2 := by decide
          rw [hgz] at hP
          refine lv_topE (y := 0) (by rw [hgz]; decide) ?_
          refine lv_if_ne (tgt := 63) K.hx K.hb d_M_repair_58 (by decide) (fun c_58 => (show False from by revert c_58; decide).elim) (fun _ => ?_)
          refine lv_iconst (v := 0) K.hx K.hb d_M_repair_61 (by decide) ?_
          exact de_i K hP hS (Or.inr (Or.inr (Or.inl ⟨⟨i, hi, rfl⟩, (fun h => h.2.1 w_19), rfl, rfl, rfl⟩))) (Nat.le_of_ble_eq_true rfl) (Nat.le_of_ble_eq_true rfl) d_M_repair_62
      · refine lv_topE (y := 1) w_19 ?_
        refine lv_if_eq (tgt := 41) K.hx K.hb d_M_repair_22 (by decide) (fun c_22 => (show False from by revert c_22; decide).elim) (fun _ => ?_)
        refine lv_iload K.hx K.hb d_M_repair_25 (lv_at hl 4 rfl) ?_
        refine lv_iconst (v := 0) K.hx K.hb d_M_repair_27 (by decide) ?_
        refine lv_sipush (v := 1000) K.hx K.hb d_M_repair_28 (by decide) ?_
        refine dd_S K hP hS (c_M_in l D cs ad _ _ w 0 1000) kw_747 xm_M_in kw_745 kw_746 kw_29 rfl hl.1 d_M_repair_31 (Nat.le_of_ble_eq_true rfl) (Nat.le_of_ble_eq_true rfl) ⟨(Nat.le_of_ble_eq_true rfl), (Nat.le_of_ble_eq_true rfl)⟩ (fun r v1 sd1 H l1 hp hP hS => ?_)
        obtain ⟨rfl, rfl, rfl⟩ := hp
        rcases wth_01 w 0 1000 with w_31 | w_31
        · refine lv_topE (y := 0) w_31 ?_
          refine lv_if_eq (tgt := 41) K.hx K.hb d_M_repair_34 (by decide) (fun _ => ?_) (fun c_34 => (show False from by revert c_34; decide).elim)
          refine lv_iconst (v := 0) K.hx K.hb d_M_repair_41 (by decide) ?_
          refine lv_aload_n K.hx K.hb d_M_repair_42 rfl (lv_at hl 0 rfl) ?_
          refine g_get K.1 hP (0) (by decide) rfl rfl i_M 15 (by decide) rfl (Or.inl kw_649) rfl d_M_repair_43 ?_
          refine lv_topE (y := nI rc) hrc ?_
          refine lv_iconst (v := 5) K.hx K.hb d_M_repair_46 (by decide) ?_
          refine lv_icmp_ge (tgt := 54) K.hx K.hb d_M_repair_47 (by decide) (fun c_47 => ?_) (fun c_47 => ?_)
          · refine lv_iconst (v := 0) K.hx K.hb d_M_repair_54 (by decide) ?_
            refine dd_V K hP hS (c_M_goes l D cs ad _ _ 1 0 0) kw_751 xm_M_goes kw_748 kw_750 kw_13 (g_recv K.1.2.1 hP (0) (by decide) rfl rfl) rfl hl.1 d_M_repair_55 (Nat.le_of_ble_eq_true rfl) (Nat.le_of_ble_eq_true rfl) ⟨(Nat.le_of_ble_eq_true rfl), (Nat.le_of_ble_eq_true rfl)⟩ (fun r v1 sd1 H l1 hp hP hS => ?_)
            obtain ⟨rfl, rfl, rfl⟩ := hp
            have hgz : gz 1 0 0 = 2 := by decide
            rw [hgz] at hP
            refine lv_topE (y := 0) (by rw [hgz]; decide) ?_
            refine lv_if_ne (tgt := 63) K.hx K.hb d_M_repair_58 (by decide) (fun c_58 => (show False from by revert c_58; decide).elim) (fun _ => ?_)
            refine lv_iconst (v := 0) K.hx K.hb d_M_repair_61 (by decide) ?_
            exact de_i K hP hS (Or.inr (Or.inr (Or.inl ⟨⟨i, hi, rfl⟩, (fun h => h.2.2 w_31), rfl, rfl, rfl⟩))) (Nat.le_of_ble_eq_true rfl) (Nat.le_of_ble_eq_true rfl) d_M_repair_62
          · refine lv_iconst (v := 1) K.hx K.hb d_M_repair_50 (by decide) ?_
            refine lv_goto (tgt := 55) K.hx K.hb d_M_repair_51 (by decide) ?_
            refine dd_V K hP hS (c_M_goes l D cs ad _ _ 1 0 1) kw_751 xm_M_goes kw_748 kw_750 kw_13 (g_recv K.1.2.1 hP (0) (by decide) rfl rfl) rfl hl.1 d_M_repair_55 (Nat.le_of_ble_eq_true rfl) (Nat.le_of_ble_eq_true rfl) ⟨(Nat.le_of_ble_eq_true rfl), (Nat.le_of_ble_eq_true rfl)⟩ (fun r v1 sd1 H l1 hp hP hS => ?_)
            obtain ⟨rfl, rfl, rfl⟩ := hp
            have hgz : gz 1 0 1 = 2 := by decide
            rw [hgz] at hP
            refine lv_topE (y := 0) (by rw [hgz]; decide) ?_
            refine lv_if_ne (tgt := 63) K.hx K.hb d_M_repair_58 (by decide) (fun c_58 => (show False from by revert c_58; decide).elim) (fun _ => ?_)
            refine lv_iconst (v := 0) K.hx K.hb d_M_repair_61 (by decide) ?_
            exact de_i K hP hS (Or.inr (Or.inr (Or.inl ⟨⟨i, hi, rfl⟩, (fun h => h.2.2 w_31), rfl, rfl, rfl⟩))) (Nat.le_of_ble_eq_true rfl) (Nat.le_of_ble_eq_true rfl) d_M_repair_62
        · refine lv_topE (y := 1) w_31 ?_
          refine lv_if_eq (tgt := 41) K.hx K.hb d_M_repair_34 (by decide) (fun c_34 => (show False from by revert c_34; decide).elim) (fun _ => ?_)
          refine lv_iconst (v := 1) K.hx K.hb d_M_repair_37 (by decide) ?_
          refine lv_goto (tgt := 42) K.hx K.hb d_M_repair_38 (by decide) ?_
          refine lv_aload_n K.hx K.hb d_M_repair_42 rfl (lv_at hl 0 rfl) ?_
          refine g_get K.1 hP (0) (by decide) rfl rfl i_M 15 (by decide) rfl (Or.inl kw_649) rfl d_M_repair_43 ?_
          refine lv_topE (y := nI rc) hrc ?_
          refine lv_iconst (v := 5) K.hx K.hb d_M_repair_46 (by decide) ?_
          refine lv_icmp_ge (tgt := 54) K.hx K.hb d_M_repair_47 (by decide) (fun c_47 => ?_) (fun c_47 => ?_)
          · refine lv_iconst (v := 0) K.hx K.hb d_M_repair_54 (by decide) ?_
            refine dd_V K hP hS (c_M_goes l D cs ad _ _ 1 1 0) kw_751 xm_M_goes kw_748 kw_750 kw_13 (g_recv K.1.2.1 hP (0) (by decide) rfl rfl) rfl hl.1 d_M_repair_55 (Nat.le_of_ble_eq_true rfl) (Nat.le_of_ble_eq_true rfl) ⟨(Nat.le_of_ble_eq_true rfl), (Nat.le_of_ble_eq_true rfl)⟩ (fun r v1 sd1 H l1 hp hP hS => ?_)
            obtain ⟨rfl, rfl, rfl⟩ := hp
            have hgz : gz 1 1 0 = 3 := by decide
            rw [hgz] at hP
            refine lv_topE (y := 0) (by rw [hgz]; decide) ?_
            refine lv_if_ne (tgt := 63) K.hx K.hb d_M_repair_58 (by decide) (fun c_58 => (show False from by revert c_58; decide).elim) (fun _ => ?_)
            refine lv_iconst (v := 0) K.hx K.hb d_M_repair_61 (by decide) ?_
            exact de_i K hP hS (Or.inr (Or.inr (Or.inr ⟨⟨i, hi, rfl⟩, ⟨one_ne w_10, one_ne w_19, one_ne w_31⟩, fun h => absurd h (Nat.not_lt.mpr ((nI_leI (by decide) (by omega)).mp (show nI 5 ≤ nI rc from c_47))), rfl, rfl, rfl⟩))) (Nat.le_of_ble_eq_true rfl) (Nat.le_of_ble_eq_true rfl) d_M_repair_62
          · refine lv_iconst (v := 1) K.hx K.hb d_M_repair_50 (by decide) ?_
            refine lv_goto (tgt := 55) K.hx K.hb d_M_repair_51 (by decide) ?_
            refine dd_V K hP hS (c_M_goes l D cs ad _ _ 1 1 1) kw_751 xm_M_goes kw_748 kw_750 kw_13 (g_recv K.1.2.1 hP (0) (by decide) rfl rfl) rfl hl.1 d_M_repair_55 (Nat.le_of_ble_eq_true rfl) (Nat.le_of_ble_eq_true rfl) ⟨(Nat.le_of_ble_eq_true rfl), (Nat.le_of_ble_eq_true rfl)⟩ (fun r v1 sd1 H l1 hp hP hS => ?_)
            obtain ⟨rfl, rfl, rfl⟩ := hp
            have hgz : gz 1 1 1 = 0 := by decide
            rw [hgz] at hP
            refine lv_topE (y := 1) (by rw [hgz]; decide) ?_
            refine lv_if_ne (tgt := 63) K.hx K.hb d_M_repair_58 (by decide) (fun _ => ?_) (fun c_58 => (show False from by revert c_58; decide).elim)
            have hlt : rc < 5 := (nI_ltI (by omega) (by decide)).mp (show nI rc < nI 5 from Int32.not_le.mp c_47)
            refine lv_aload_n K.hx K.hb d_M_repair_63 rfl (lv_at hl 0 rfl) ?_
            refine g_get K.1 hP (0) (by decide) rfl rfl i_M 16 (by decide) rfl (Or.inl kw_650) rfl d_M_repair_64 ?_
            refine lv_aload_n K.hx K.hb d_M_repair_67 rfl (lv_at hl 0 rfl) ?_
            refine g_get K.1 hP (0) (by decide) rfl rfl i_M 15 (by decide) rfl (Or.inl kw_649) rfl d_M_repair_68 ?_
            refine lv_topE (y := (v 0 15)) (by first | (simp [u2_at, kpM]; done) | (simp [u2_at, kpM] <;> (intros; omega)) | (simp only [u2_at, kpM]; (repeat' split) <;> first | rfl | (exfalso; omega))) ?_
            refine lv_topE (y := nI rc) hrc ?_
            refine lv_iload_n K.hx K.hb d_M_repair_71 rfl (lv_at hl 1 rfl) ?_
            refine g_iast K.1 hP hS (11) (by decide) (fun _ => rfl) 0 rfl (rc) rfl (by omega) (by decide) d_M_repair_72 (fun H l1 hP hS => ?_)
            refine lv_aload_n K.hx K.hb d_M_repair_73 rfl (lv_at hl 0 rfl) ?_
            refine g_get K.1 hP (0) (by decide) rfl rfl i_M 17 (by decide) rfl (Or.inl kw_651) rfl d_M_repair_74 ?_
            refine lv_aload_n K.hx K.hb d_M_repair_77 rfl (lv_at hl 0 rfl) ?_
            refine g_get K.1 hP (0) (by decide) rfl rfl i_M 15 (by decide) rfl (Or.inl kw_649) rfl d_M_repair_78 ?_
            refine lv_topE (y := (v 0 15)) (by first | (simp [u2_at, kpM]; done) | (simp [u2_at, kpM] <;> (intros; omega)) | (simp only [u2_at, kpM]; (repeat' split) <;> first | rfl | (exfalso; omega))) ?_
            refine lv_topE (y := nI rc) hrc ?_
            refine lv_iload_n K.hx K.hb d_M_repair_81 rfl (lv_at hl 2 rfl) ?_
            refine g_iast K.1 hP hS (12) (by decide) (fun _ => rfl) 0 rfl (rc) rfl (by omega) (by decide) d_M_repair_82 (fun H l1 hP hS => ?_)
            refine lv_aload_n K.hx K.hb d_M_repair_83 rfl (lv_at hl 0 rfl) ?_
            refine g_get K.1 hP (0) (by decide) rfl rfl i_M 18 (by decide) rfl (Or.inl kw_652) rfl d_M_repair_84 ?_
            refine lv_aload_n K.hx K.hb d_M_repair_87 rfl (lv_at hl 0 rfl) ?_
            refine g_get K.1 hP (0) (by decide) rfl rfl i_M 15 (by decide) rfl (Or.inl kw_649) rfl d_M_repair_88 ?_
            refine lv_topE (y := (v 0 15)) (by first | (simp [u2_at, kpM]; done) | (simp [u2_at, kpM] <;> (intros; omega)) | (simp only [u2_at, kpM]; (repeat' split) <;> first | rfl | (exfalso; omega))) ?_
            refine lv_topE (y := nI rc) hrc ?_
            refine lv_iload_n K.hx K.hb d_M_repair_91 rfl (lv_at hl 3 rfl) ?_
            refine g_iast K.1 hP hS (13) (by decide) (fun _ => rfl) 0 rfl (rc) rfl (by omega) (by decide) d_M_repair_92 (fun H l1 hP hS => ?_)
            refine lv_aload_n K.hx K.hb d_M_repair_93 rfl (lv_at hl 0 rfl) ?_
            refine g_get K.1 hP (0) (by decide) rfl rfl i_M 19 (by decide) rfl (Or.inl kw_653) rfl d_M_repair_94 ?_
            refine lv_aload_n K.hx K.hb d_M_repair_97 rfl (lv_at hl 0 rfl) ?_
            refine g_get K.1 hP (0) (by decide) rfl rfl i_M 15 (by decide) rfl (Or.inl kw_649) rfl d_M_repair_98 ?_
            refine lv_topE (y := (v 0 15)) (by first | (simp [u2_at, kpM]; done) | (simp [u2_at, kpM] <;> (intros; omega)) | (simp only [u2_at, kpM]; (repeat' split) <;> first | rfl | (exfalso; omega))) ?_
            refine lv_topE (y := nI rc) hrc ?_
            refine lv_iload K.hx K.hb d_M_repair_101 (lv_at hl 4 rfl) ?_
            refine g_iast K.1 hP hS (14) (by decide) (fun _ => rfl) 0 rfl (rc) rfl (by omega) (by decide) d_M_repair_103 (fun H l1 hP hS => ?_)
            refine lv_aload_n K.hx K.hb d_M_repair_104 rfl (lv_at hl 0 rfl) ?_
            refine lv_dup K.hx K.hb d_M_repair_105 rfl ?_
            refine g_get K.1 hP (0) (by decide) rfl rfl i_M 15 (by decide) rfl (Or.inl kw_649) rfl d_M_repair_106 ?_
            refine lv_topE (y := (v 0 15)) (by first | (simp [u2_at, kpM]; done) | (simp [u2_at, kpM] <;> (intros; omega)) | (simp only [u2_at, kpM]; (repeat' split) <;> first | rfl | (exfalso; omega))) ?_
            refine lv_topE (y := nI rc) hrc ?_
            refine lv_iconst (v := 1) K.hx K.hb d_M_repair_109 (by decide) ?_
            refine lv_iadd K.hx K.hb d_M_repair_110 ?_
            refine lv_topE (y := nI (rc + 1)) (nI_add _ _) ?_
            refine g_puti K.1 hP hS (0) (by decide) rfl rfl i_M ft_M ft_M_ok n_M 15 (by decide) rfl (Or.inl kw_649) rfl rfl rfl (Nat.le_of_ble_eq_true rfl) rfl d_M_repair_111 (fun H l1 hP hS => ?_)
            refine lv_aload_n K.hx K.hb d_M_repair_114 rfl (lv_at hl 0 rfl) ?_
            refine lv_iconst (v := 0) K.hx K.hb d_M_repair_115 (by decide) ?_
            refine g_puti K.1 hP hS (0) (by decide) rfl rfl i_M ft_M ft_M_ok n_M 23 (by decide) rfl (Or.inl kw_657) rfl rfl rfl (Nat.le_of_ble_eq_true rfl) rfl d_M_repair_116 (fun H l1 hP hS => ?_)
            refine lv_aload_n K.hx K.hb d_M_repair_119 rfl (lv_at hl 0 rfl) ?_
            refine g_get K.1 hP (0) (by decide) rfl rfl i_M 15 (by decide) rfl (Or.inl kw_649) rfl d_M_repair_120 ?_
            refine lv_topE (y := (nI (rc + 1))) (by first | (simp [u2_at, kpM]; done) | (simp [u2_at, kpM] <;> (intros; omega)) | (simp only [u2_at, kpM]; (repeat' split) <;> first | rfl | (exfalso; omega))) ?_
            refine lv_topE (y := nI (rc + 1)) rfl ?_
            refine lv_iconst (v := 1) K.hx K.hb d_M_repair_123 (by decide) ?_
            refine lv_isub K.hx K.hb d_M_repair_124 ?_
            refine lv_topE (y := nI (rc + 0)) (nI_pred _) ?_
            exact de_i K hP hS (Or.inl ⟨i, hi, rfl, ⟨one_ne w_10, one_ne w_19, one_ne w_31⟩, hlt, rfl, rfl, rfl⟩) (Nat.le_of_ble_eq_true rfl) (Nat.le_of_ble_eq_true rfl) d_M_repair_125
  · refine lv_topE (y := 0) (wth_no (by omega) hx) ?_
    refine lv_iload_n K.hx K.hb d_M_repair_6 rfl (lv_at hl 2 rfl) ?_
    refine lv_iconst (v := 1) K.hx K.hb d_M_repair_7 (by decide) ?_
    refine lv_bipush (v := 24) K.hx K.hb d_M_repair_8 (by decide) ?_
    refine dd_S K hP hS (c_M_in l D cs ad _ _ y 1 24) kw_747 xm_M_in kw_745 kw_746 kw_29 rfl hl.1 d_M_repair_10 (Nat.le_of_ble_eq_true rfl) (Nat.le_of_ble_eq_true rfl) ⟨(Nat.le_of_ble_eq_true rfl), (Nat.le_of_ble_eq_true rfl)⟩ (fun r v1 sd1 H l1 hp hP hS => ?_)
    obtain ⟨rfl, rfl, rfl⟩ := hp
    rcases wth_01 y 1 24 with w_10 | w_10
    · refine lv_topE (y := 0) w_10 ?_
      refine lv_if_eq (tgt := 41) K.hx K.hb d_M_repair_13 (by decide) (fun _ => ?_) (fun c_13 => (show False from by revert c_13; decide).elim)
      refine lv_iconst (v := 0) K.hx K.hb d_M_repair_41 (by decide) ?_
      refine lv_aload_n K.hx K.hb d_M_repair_42 rfl (lv_at hl 0 rfl) ?_
      refine g_get K.1 hP (0) (by decide) rfl rfl i_M 15 (by decide) rfl (Or.inl kw_649) rfl d_M_repair_43 ?_
      refine lv_topE (y := nI rc) hrc ?_
      refine lv_iconst (v := 5) K.hx K.hb d_M_repair_46 (by decide) ?_
      refine lv_icmp_ge (tgt := 54) K.hx K.hb d_M_repair_47 (by decide) (fun c_47 => ?_) (fun c_47 => ?_)
      · refine lv_iconst (v := 0) K.hx K.hb d_M_repair_54 (by decide) ?_
        refine dd_V K hP hS (c_M_goes l D cs ad _ _ 0 0 0) kw_751 xm_M_goes kw_748 kw_750 kw_13 (g_recv K.1.2.1 hP (0) (by decide) rfl rfl) rfl hl.1 d_M_repair_55 (Nat.le_of_ble_eq_true rfl) (Nat.le_of_ble_eq_true rfl) ⟨(Nat.le_of_ble_eq_true rfl), (Nat.le_of_ble_eq_true rfl)⟩ (fun r v1 sd1 H l1 hp hP hS => ?_)
        obtain ⟨rfl, rfl, rfl⟩ := hp
        have hgz : gz 0 0 0 = 1 := by decide
        rw [hgz] at hP
        refine lv_topE (y := 0) (by rw [hgz]; decide) ?_
        refine lv_if_ne (tgt := 63) K.hx K.hb d_M_repair_58 (by decide) (fun c_58 => (show False from by revert c_58; decide).elim) (fun _ => ?_)
        refine lv_iconst (v := 0) K.hx K.hb d_M_repair_61 (by decide) ?_
        exact de_i K hP hS (Or.inr (Or.inl ⟨hx, rfl, rfl, rfl⟩)) (Nat.le_of_ble_eq_true rfl) (Nat.le_of_ble_eq_true rfl) d_M_repair_62
      · refine lv_iconst (v := 1) K.hx K.hb d_M_repair_50 (by decide) ?_
        refine lv_goto (tgt := 55) K.hx K.hb d_M_repair_51 (by decide) ?_
        refine dd_V K hP hS (c_M_goes l D cs ad _ _ 0 0 1) kw_751 xm_M_goes kw_748 kw_750 kw_13 (g_recv K.1.2.1 hP (0) (by decide) rfl rfl) rfl hl.1 d_M_repair_55 (Nat.le_of_ble_eq_true rfl) (Nat.le_of_ble_eq_true rfl) ⟨(Nat.le_of_ble_eq_true rfl), (Nat.le_of_ble_eq_true rfl)⟩ (fun r v1 sd1 H l1 hp hP hS => ?_)
        obtain ⟨rfl, rfl, rfl⟩ := hp
        have hgz : gz 0 0 1 = 1 := by decide
        rw [hgz] at hP
        refine lv_topE (y := 0) (by rw [hgz]; decide) ?_
        refine lv_if_ne (tgt := 63) K.hx K.hb d_M_repair_58 (by decide) (fun c_58 => (show False from by revert c_58; decide).elim) (fun _ => ?_)
        refine lv_iconst (v := 0) K.hx K.hb d_M_repair_61 (by decide) ?_
        exact de_i K hP hS (Or.inr (Or.inl ⟨hx, rfl, rfl, rfl⟩)) (Nat.le_of_ble_eq_true rfl) (Nat.le_of_ble_eq_true rfl) d_M_repair_62
    · refine lv_topE (y := 1) w_10 ?_
      refine lv_if_eq (tgt := 41) K.hx K.hb d_M_repair_13 (by decide) (fun c_13 => (show False from by revert c_13; decide).elim) (fun _ => ?_)
      refine lv_iload_n K.hx K.hb d_M_repair_16 rfl (lv_at hl 3 rfl) ?_
      refine lv_iconst (v := 0) K.hx K.hb d_M_repair_17 (by decide) ?_
      refine lv_iconst (v := 3) K.hx K.hb d_M_repair_18 (by decide) ?_
      refine dd_S K hP hS (c_M_in l D cs ad _ _ z 0 3) kw_747 xm_M_in kw_745 kw_746 kw_29 rfl hl.1 d_M_repair_19 (Nat.le_of_ble_eq_true rfl) (Nat.le_of_ble_eq_true rfl) ⟨(Nat.le_of_ble_eq_true rfl), (Nat.le_of_ble_eq_true rfl)⟩ (fun r v1 sd1 H l1 hp hP hS => ?_)
      obtain ⟨rfl, rfl, rfl⟩ := hp
      rcases wth_01 z 0 3 with w_19 | w_19
      · refine lv_topE (y := 0) w_19 ?_
        refine lv_if_eq (tgt := 41) K.hx K.hb d_M_repair_22 (by decide) (fun _ => ?_) (fun c_22 => (show False from by revert c_22; decide).elim)
        refine lv_iconst (v := 0) K.hx K.hb d_M_repair_41 (by decide) ?_
        refine lv_aload_n K.hx K.hb d_M_repair_42 rfl (lv_at hl 0 rfl) ?_
        refine g_get K.1 hP (0) (by decide) rfl rfl i_M 15 (by decide) rfl (Or.inl kw_649) rfl d_M_repair_43 ?_
        refine lv_topE (y := nI rc) hrc ?_
        refine lv_iconst (v := 5) K.hx K.hb d_M_repair_46 (by decide) ?_
        refine lv_icmp_ge (tgt := 54) K.hx K.hb d_M_repair_47 (by decide) (fun c_47 => ?_) (fun c_47 => ?_)
        · refine lv_iconst (v := 0) K.hx K.hb d_M_repair_54 (by decide) ?_
          refine dd_V K hP hS (c_M_goes l D cs ad _ _ 0 0 0) kw_751 xm_M_goes kw_748 kw_750 kw_13 (g_recv K.1.2.1 hP (0) (by decide) rfl rfl) rfl hl.1 d_M_repair_55 (Nat.le_of_ble_eq_true rfl) (Nat.le_of_ble_eq_true rfl) ⟨(Nat.le_of_ble_eq_true rfl), (Nat.le_of_ble_eq_true rfl)⟩ (fun r v1 sd1 H l1 hp hP hS => ?_)
          obtain ⟨rfl, rfl, rfl⟩ := hp
          have hgz : gz 0 0 0 = 1 := by decide
          rw [hgz] at hP
          refine lv_topE (y := 0) (by rw [hgz]; decide) ?_
          refine lv_if_ne (tgt := 63) K.hx K.hb d_M_repair_58 (by decide) (fun c_58 => (show False from by revert c_58; decide).elim) (fun _ => ?_)
          refine lv_iconst (v := 0) K.hx K.hb d_M_repair_61 (by decide) ?_
          exact de_i K hP hS (Or.inr (Or.inl ⟨hx, rfl, rfl, rfl⟩)) (Nat.le_of_ble_eq_true rfl) (Nat.le_of_ble_eq_true rfl) d_M_repair_62
        · refine lv_iconst (v := 1) K.hx K.hb d_M_repair_50 (by decide) ?_
          refine lv_goto (tgt := 55) K.hx K.hb d_M_repair_51 (by decide) ?_
          refine dd_V K hP hS (c_M_goes l D cs ad _ _ 0 0 1) kw_751 xm_M_goes kw_748 kw_750 kw_13 (g_recv K.1.2.1 hP (0) (by decide) rfl rfl) rfl hl.1 d_M_repair_55 (Nat.le_of_ble_eq_true rfl) (Nat.le_of_ble_eq_true rfl) ⟨(Nat.le_of_ble_eq_true rfl), (Nat.le_of_ble_eq_true rfl)⟩ (fun r v1 sd1 H l1 hp hP hS => ?_)
          obtain ⟨rfl, rfl, rfl⟩ := hp
          have hgz : gz 0 0 1 = 1 := by decide
          rw [hgz] at hP
          refine lv_topE (y := 0) (by rw [hgz]; decide) ?_
          refine lv_if_ne (tgt := 63) K.hx K.hb d_M_repair_58 (by decide) (fun c_58 => (show False from by revert c_58; decide).elim) (fun _ => ?_)
          refine lv_iconst (v := 0) K.hx K.hb d_M_repair_61 (by decide) ?_
          exact de_i K hP hS (Or.inr (Or.inl ⟨hx, rfl, rfl, rfl⟩)) (Nat.le_of_ble_eq_true rfl) (Nat.le_of_ble_eq_true rfl) d_M_repair_62
      · refine lv_topE (y := 1) w_19 ?_
        refine lv_if_eq (tgt := 41) K.hx K.hb d_M_repair_22 (by decide) (fun c_22 => (show False from by revert c_22; decide).elim) (fun _ => ?_)
        refine lv_iload K.hx K.hb d_M_repair_25 (lv_at hl 4 rfl) ?_
        refine lv_iconst (v := 0) K.hx K.hb d_M_repair_27 (by decide) ?_
        refine lv_sipush (v := 1000) K.hx K.hb d_M_repair_28 (by decide) ?_
        refine dd_S K hP hS (c_M_in l D cs ad _ _ w 0 1000) kw_747 xm_M_in kw_745 kw_746 kw_29 rfl hl.1 d_M_repair_31 (Nat.le_of_ble_eq_true rfl) (Nat.le_of_ble_eq_true rfl) ⟨(Nat.le_of_ble_eq_true rfl), (Nat.le_of_ble_eq_true rfl)⟩ (fun r v1 sd1 H l1 hp hP hS => ?_)
        obtain ⟨rfl, rfl, rfl⟩ := hp
        rcases wth_01 w 0 1000 with w_31 | w_31
        · refine lv_topE (y := 0) w_31 ?_
          refine lv_if_eq (tgt := 41) K.hx K.hb d_M_repair_34 (by decide) (fun _ => ?_) (fun c_34 => (show False from by revert c_34; decide).elim)
          refine lv_iconst (v := 0) K.hx K.hb d_M_repair_41 (by decide) ?_
          refine lv_aload_n K.hx K.hb d_M_repair_42 rfl (lv_at hl 0 rfl) ?_
          refine g_get K.1 hP (0) (by decide) rfl rfl i_M 15 (by decide) rfl (Or.inl kw_649) rfl d_M_repair_43 ?_
          refine lv_topE (y := nI rc) hrc ?_
          refine lv_iconst (v := 5) K.hx K.hb d_M_repair_46 (by decide) ?_
          refine lv_icmp_ge (tgt := 54) K.hx K.hb d_M_repair_47 (by decide) (fun c_47 => ?_) (fun c_47 => ?_)
          · refine lv_iconst (v := 0) K.hx K.hb d_M_repair_54 (by decide) ?_
            refine dd_V K hP hS (c_M_goes l D cs ad _ _ 0 0 0) kw_751 xm_M_goes kw_748 kw_750 kw_13 (g_recv K.1.2.1 hP (0) (by decide) rfl rfl) rfl hl.1 d_M_repair_55 (Nat.le_of_ble_eq_true rfl) (Nat.le_of_ble_eq_true rfl) ⟨(Nat.le_of_ble_eq_true rfl), (Nat.le_of_ble_eq_true rfl)⟩ (fun r v1 sd1 H l1 hp hP hS => ?_)
            obtain ⟨rfl, rfl, rfl⟩ := hp
            have hgz : gz 0 0 0 = 1 := by decide
            rw [hgz] at hP
            refine lv_topE (y := 0) (by rw [hgz]; decide) ?_
            refine lv_if_ne (tgt := 63) K.hx K.hb d_M_repair_58 (by decide) (fun c_58 => (show False from by revert c_58; decide).elim) (fun _ => ?_)
            refine lv_iconst (v := 0) K.hx K.hb d_M_repair_61 (by decide) ?_
            exact de_i K hP hS (Or.inr (Or.inl ⟨hx, rfl, rfl, rfl⟩)) (Nat.le_of_ble_eq_true rfl) (Nat.le_of_ble_eq_true rfl) d_M_repair_62
          · refine lv_iconst (v := 1) K.hx K.hb d_M_repair_50 (by decide) ?_
            refine lv_goto (tgt := 55) K.hx K.hb d_M_repair_51 (by decide) ?_
            refine dd_V K hP hS (c_M_goes l D cs ad _ _ 0 0 1) kw_751 xm_M_goes kw_748 kw_750 kw_13 (g_recv K.1.2.1 hP (0) (by decide) rfl rfl) rfl hl.1 d_M_repair_55 (Nat.le_of_ble_eq_true rfl) (Nat.le_of_ble_eq_true rfl) ⟨(Nat.le_of_ble_eq_true rfl), (Nat.le_of_ble_eq_true rfl)⟩ (fun r v1 sd1 H l1 hp hP hS => ?_)
            obtain ⟨rfl, rfl, rfl⟩ := hp
            have hgz : gz 0 0 1 = 1 := by decide
            rw [hgz] at hP
            refine lv_topE (y := 0) (by rw [hgz]; decide) ?_
            refine lv_if_ne (tgt := 63) K.hx K.hb d_M_repair_58 (by decide) (fun c_58 => (show False from by revert c_58; decide).elim) (fun _ => ?_)
            refine lv_iconst (v := 0) K.hx K.hb d_M_repair_61 (by decide) ?_
            exact de_i K hP hS (Or.inr (Or.inl ⟨hx, rfl, rfl, rfl⟩)) (Nat.le_of_ble_eq_true rfl) (Nat.le_of_ble_eq_true rfl) d_M_repair_62
        · refine lv_topE (y := 1) w_31 ?_
          refine lv_if_eq (tgt := 41) K.hx K.hb d_M_repair_34 (by decide) (fun c_34 => (show False from by revert c_34; decide).elim) (fun _ => ?_)
          refine lv_iconst (v := 1) K.hx K.hb d_M_repair_37 (by decide) ?_
          refine lv_goto (tgt := 42) K.hx K.hb d_M_repair_38 (by decide) ?_
          refine lv_aload_n K.hx K.hb d_M_repair_42 rfl (lv_at hl 0 rfl) ?_
          refine g_get K.1 hP (0) (by decide) rfl rfl i_M 15 (by decide) rfl (Or.inl kw_649) rfl d_M_repair_43 ?_
          refine lv_topE (y := nI rc) hrc ?_
          refine lv_iconst (v := 5) K.hx K.hb d_M_repair_46 (by decide) ?_
          refine lv_icmp_ge (tgt := 54) K.hx K.hb d_M_repair_47 (by decide) (fun c_47 => ?_) (fun c_47 => ?_)
          · refine lv_iconst (v := 0) K.hx K.hb d_M_repair_54 (by decide) ?_
            refine dd_V K hP hS (c_M_goes l D cs ad _ _ 0 1 0) kw_751 xm_M_goes kw_748 kw_750 kw_13 (g_recv K.1.2.1 hP (0) (by decide) rfl rfl) rfl hl.1 d_M_repair_55 (Nat.le_of_ble_eq_true rfl) (Nat.le_of_ble_eq_true rfl) ⟨(Nat.le_of_ble_eq_true rfl), (Nat.le_of_ble_eq_true rfl)⟩ (fun r v1 sd1 H l1 hp hP hS => ?_)
            obtain ⟨rfl, rfl, rfl⟩ := hp
            have hgz : gz 0 1 0 = 1 := by decide
            rw [hgz] at hP
            refine lv_topE (y := 0) (by rw [hgz]; decide) ?_
            refine lv_if_ne (tgt := 63) K.hx K.hb d_M_repair_58 (by decide) (fun c_58 => (show False from by revert c_58; decide).elim) (fun _ => ?_)
            refine lv_iconst (v := 0) K.hx K.hb d_M_repair_61 (by decide) ?_
            exact de_i K hP hS (Or.inr (Or.inl ⟨hx, rfl, rfl, rfl⟩)) (Nat.le_of_ble_eq_true rfl) (Nat.le_of_ble_eq_true rfl) d_M_repair_62
          · refine lv_iconst (v := 1) K.hx K.hb d_M_repair_50 (by decide) ?_
            refine lv_goto (tgt := 55) K.hx K.hb d_M_repair_51 (by decide) ?_
            refine dd_V K hP hS (c_M_goes l D cs ad _ _ 0 1 1) kw_751 xm_M_goes kw_748 kw_750 kw_13 (g_recv K.1.2.1 hP (0) (by decide) rfl rfl) rfl hl.1 d_M_repair_55 (Nat.le_of_ble_eq_true rfl) (Nat.le_of_ble_eq_true rfl) ⟨(Nat.le_of_ble_eq_true rfl), (Nat.le_of_ble_eq_true rfl)⟩ (fun r v1 sd1 H l1 hp hP hS => ?_)
            obtain ⟨rfl, rfl, rfl⟩ := hp
            have hgz : gz 0 1 1 = 1 := by decide
            rw [hgz] at hP
            refine lv_topE (y := 0) (by rw [hgz]; decide) ?_
            refine lv_if_ne (tgt := 63) K.hx K.hb d_M_repair_58 (by decide) (fun c_58 => (show False from by revert c_58; decide).elim) (fun _ => ?_)
            refine lv_iconst (v := 0) K.hx K.hb d_M_repair_61 (by decide) ?_
            exact de_i K hP hS (Or.inr (Or.inl ⟨hx, rfl, rfl, rfl⟩)) (Nat.le_of_ble_eq_true rfl) (Nat.le_of_ble_eq_true rfl) d_M_repair_62
set_option maxHeartbeats 4000000 in
set_option maxRecDepth 100000 in
theorem c_M_rules (l : Launch) (D : va_G) (cs : Nat → ClassId) (ad : Nat → Nat) (v : Nat → Nat → Int32) (sd : Int64) (x y : Int32)  : Dm l y_M_rules b_M_rules 3 none (rmx 1 0) [.ref (ad 0), .int x, .int y] D cs ad v sd (fun r v' sd' => ((¬ wthZ x 0 24 = 0 ∧ ¬ wthZ y 0 1000000 = 0) ∧ r = none ∧ u2 (u2 (u2 (u2 v 0 0 0) 0 20 x) 0 21 y) 0 23 0 = v' ∧ sd = sd') ∨ (¬ (¬ wthZ x 0 24 = 0 ∧ ¬ wthZ y 0 1000000 = 0) ∧ r = none ∧ u2 v 0 0 1 = v' ∧ sd = sd')) (fun cls => False) := by
  refine dw_enter (own := "WearHoursModel") rfl (Nat.le_of_ble_eq_true rfl) ?_
  intro p e s m below meth c ls K hS hP hl
  have hl : lv_has ls 3 [(0, .ref (ad 0)), (1, .int x), (2, .int y)] := hl
  refine lv_aload_n K.hx K.hb d_M_rules_0 rfl (lv_at hl 0 rfl) ?_
  refine lv_iload_n K.hx K.hb d_M_rules_1 rfl (lv_at hl 1 rfl) ?_
  refine lv_iconst (v := 0) K.hx K.hb d_M_rules_2 (by decide) ?_
  refine lv_bipush (v := 24) K.hx K.hb d_M_rules_3 (by decide) ?_
  refine dd_S K hP hS (c_M_in l D cs ad _ _ x 0 24) kw_747 xm_M_in kw_745 kw_746 kw_29 rfl hl.1 d_M_rules_5 (Nat.le_of_ble_eq_true rfl) (Nat.le_of_ble_eq_true rfl) ⟨(Nat.le_of_ble_eq_true rfl), (Nat.le_of_ble_eq_true rfl)⟩ (fun r v1 sd1 H l1 hp hP hS => ?_)
  obtain ⟨rfl, rfl, rfl⟩ := hp
  rcases wth_01 x 0 24 with w_5 | w_5
  · refine lv_topE (y := 0) w_5 ?_
    refine lv_if_eq (tgt := 25) K.hx K.hb d_M_rules_8 (by decide) (fun _ => ?_) (fun c_8 => (show False from by revert c_8; decide).elim)
    refine lv_iconst (v := 0) K.hx K.hb d_M_rules_25 (by decide) ?_
    refine lv_iconst (v := 1) K.hx K.hb d_M_rules_26 (by decide) ?_
    refine lv_iconst (v := 1) K.hx K.hb d_M_rules_27 (by decide) ?_
    refine dd_V K hP hS (c_M_goes l D cs ad _ _ 0 1 1) kw_751 xm_M_goes kw_748 kw_750 kw_13 (g_recv K.1.2.1 hP (0) (by decide) rfl rfl) rfl hl.1 d_M_rules_28 (Nat.le_of_ble_eq_true rfl) (Nat.le_of_ble_eq_true rfl) ⟨(Nat.le_of_ble_eq_true rfl), (Nat.le_of_ble_eq_true rfl)⟩ (fun r v1 sd1 H l1 hp hP hS => ?_)
    obtain ⟨rfl, rfl, rfl⟩ := hp
    have hgz : gz 0 1 1 = 1 := by decide
    rw [hgz] at hP
    refine lv_topE (y := 0) (by rw [hgz]; decide) ?_
    refine lv_if_ne (tgt := 35) K.hx K.hb d_M_rules_31 (by decide) (fun c_31 => (show False from by revert c_31; decide).elim) (fun _ => ?_)
    exact de_v K hP hS (Or.inr ⟨(fun h => h.1 w_5), rfl, rfl, rfl⟩) (Nat.le_of_ble_eq_true rfl) (Nat.le_of_ble_eq_true rfl) d_M_rules_34
  · refine lv_topE (y := 1) w_5 ?_
    refine lv_if_eq (tgt := 25) K.hx K.hb d_M_rules_8 (by decide) (fun c_8 => (show False from by revert c_8; decide).elim) (fun _ => ?_)
    refine lv_iload_n K.hx K.hb d_M_rules_11 rfl (lv_at hl 2 rfl) ?_
    refine lv_iconst (v := 0) K.hx K.hb d_M_rules_12 (by decide) ?_
    refine lv_ldc (v := 1000000) K.hx K.hb K.1.1.2.2.2.1 (K.1.1.2.2.2.2 _ kw_744) d_M_rules_13 ?_
    refine dd_S K hP hS (c_M_in l D cs ad _ _ y 0 1000000) kw_747 xm_M_in kw_745 kw_746 kw_29 rfl hl.1 d_M_rules_15 (Nat.le_of_ble_eq_true rfl) (Nat.le_of_ble_eq_true rfl) ⟨(Nat.le_of_ble_eq_true rfl), (Nat.le_of_ble_eq_true rfl)⟩ (fun r v1 sd1 H l1 hp hP hS => ?_)
    obtain ⟨rfl, rfl, rfl⟩ := hp
    rcases wth_01 y 0 1000000 with w_15 | w_15
    · refine lv_topE (y := 0) w_15 ?_
      refine lv_if_eq (tgt := 25) K.hx K.hb d_M_rules_18 (by decide) (fun _ => ?_) (fun c_18 => (show False from by revert c_18; decide).elim)
      refine lv_iconst (v := 0) K.hx K.hb d_M_rules_25 (by decide) ?_
      refine lv_iconst (v := 1) K.hx K.hb d_M_rules_26 (by decide) ?_
      refine lv_iconst (v := 1) K.hx K.hb d_M_rules_27 (by decide) ?_
      refine dd_V K hP hS (c_M_goes l D cs ad _ _ 0 1 1) kw_751 xm_M_goes kw_748 kw_750 kw_13 (g_recv K.1.2.1 hP (0) (by decide) rfl rfl) rfl hl.1 d_M_rules_28 (Nat.le_of_ble_eq_true rfl) (Nat.le_of_ble_eq_true rfl) ⟨(Nat.le_of_ble_eq_true rfl), (Nat.le_of_ble_eq_true rfl)⟩ (fun r v1 sd1 H l1 hp hP hS => ?_)
      obtain ⟨rfl, rfl, rfl⟩ := hp
      have hgz : gz 0 1 1 = 1 := by decide
      rw [hgz] at hP
      refine lv_topE (y := 0) (by rw [hgz]; decide) ?_
      refine lv_if_ne (tgt := 35) K.hx K.hb d_M_rules_31 (by decide) (fun c_31 => (show False from by revert c_31; decide).elim) (fun _ => ?_)
      exact de_v K hP hS (Or.inr ⟨(fun h => h.2 w_15), rfl, rfl, rfl⟩) (Nat.le_of_ble_eq_true rfl) (Nat.le_of_ble_eq_true rfl) d_M_rules_34
    · refine lv_topE (y := 1) w_15 ?_
      refine lv_if_eq (tgt := 25) K.hx K.hb d_M_rules_18 (by decide) (fun c_18 => (show False from by revert c_18; decide).elim) (fun _ => ?_)
      refine lv_iconst (v := 1) K.hx K.hb d_M_rules_21 (by decide) ?_
      refine lv_goto (tgt := 26) K.hx K.hb d_M_rules_22 (by decide) ?_
      refine lv_iconst (v := 1) K.hx K.hb d_M_rules_26 (by decide) ?_
      refine lv_iconst (v := 1) K.hx K.hb d_M_rules_27 (by decide) ?_
      refine dd_V K hP hS (c_M_goes l D cs ad _ _ 1 1 1) kw_751 xm_M_goes kw_748 kw_750 kw_13 (g_recv K.1.2.1 hP (0) (by decide) rfl rfl) rfl hl.1 d_M_rules_28 (Nat.le_of_ble_eq_true rfl) (Nat.le_of_ble_eq_true rfl) ⟨(Nat.le_of_ble_eq_true rfl), (Nat.le_of_ble_eq_true rfl)⟩ (fun r v1 sd1 H l1 hp hP hS => ?_)
      obtain ⟨rfl, rfl, rfl⟩ := hp
      have hgz : gz 1 1 1 = 0 := by decide
      rw [hgz] at hP
      refine lv_topE (y := 1) (by rw [hgz]; decide) ?_
      refine lv_if_ne (tgt := 35) K.hx K.hb d_M_rules_31 (by decide) (fun _ => ?_) (fun c_31 => (show False from by revert c_31; decide).elim)
      refine lv_aload_n K.hx K.hb d_M_rules_35 rfl (lv_at hl 0 rfl) ?_
      refine lv_iload_n K.hx K.hb d_M_rules_36 rfl (lv_at hl 1 rfl) ?_
      refine g_puti K.1 hP hS (0) (by decide) rfl rfl i_M ft_M ft_M_ok n_M 20 (by decide) rfl (Or.inl kw_654) rfl rfl rfl (Nat.le_of_ble_eq_true rfl) rfl d_M_rules_37 (fun H l1 hP hS => ?_)
      refine lv_aload_n K.hx K.hb d_M_rules_40 rfl (lv_at hl 0 rfl) ?_
      refine lv_iload_n K.hx K.hb d_M_rules_41 rfl (lv_at hl 2 rfl) ?_
      refine g_puti K.1 hP hS (0) (by decide) rfl rfl i_M ft_M ft_M_ok n_M 21 (by decide) rfl (Or.inl kw_655) rfl rfl rfl (Nat.le_of_ble_eq_true rfl) rfl d_M_rules_42 (fun H l1 hP hS => ?_)
      refine lv_aload_n K.hx K.hb d_M_rules_45 rfl (lv_at hl 0 rfl) ?_
      refine lv_iconst (v := 0) K.hx K.hb d_M_rules_46 (by decide) ?_
      refine g_puti K.1 hP hS (0) (by decide) rfl rfl i_M ft_M ft_M_ok n_M 23 (by decide) rfl (Or.inl kw_657) rfl rfl rfl (Nat.le_of_ble_eq_true rfl) rfl d_M_rules_47 (fun H l1 hP hS => ?_)
      exact de_v K hP hS (Or.inl ⟨⟨one_ne w_5, one_ne w_15⟩, rfl, rfl, rfl⟩) (Nat.le_of_ble_eq_true rfl) (Nat.le_of_ble_eq_true rfl) d_M_rules_50
set_option maxHeartbeats 4000000 in
set_option maxRecDepth 100000 in
theorem c_M_at (l : Launch) (D : va_G) (cs : Nat → ClassId) (ad : Nat → Nat) (v : Nat → Nat → Int32) (sd : Int64) {rc : Nat} (hrc : v 0 15 = nI rc) (hr5 : rc ≤ 5) {pc : Nat} (hpc : v 0 11 = nI pc) (hp4 : pc ≤ 4) (hdv : ¬ v 0 23 = 0 → ∀ i, i < rc → 0 ≤ v 16 i → 0 < pc) (x y : Int32)  : Dm l y_M_at b_M_at 3 (some .int) (rmx 1 0) [.ref (ad 0), .int x, .int y] D cs ad v sd (fun r v' sd' => (∃ i, i < rc ∧ x = nI i ∧ ¬ wthZ y 0 2 = 0 ∧ ¬ v 0 23 = 0 ∧ r = some (.int (if v 16 i < 0 then -1 else if y = 0 then v 16 i else if y = 1 then v 17 i - v 17 i / nI pc * nI pc else v 17 i / nI pc)) ∧ u2 v 0 0 0 = v' ∧ sd = sd') ∨ (¬ ((∃ i, i < rc ∧ x = nI i) ∧ ¬ wthZ y 0 2 = 0) ∧ r = some (.int 0) ∧ u2 v 0 0 1 = v' ∧ sd = sd') ∨ ((∃ i, i < rc ∧ x = nI i) ∧ ¬ wthZ y 0 2 = 0 ∧ v 0 23 = 0 ∧ r = some (.int 0) ∧ u2 v 0 0 2 = v' ∧ sd = sd')) (fun cls => False) := by
  refine dw_enter (own := "WearHoursModel") rfl (Nat.le_of_ble_eq_true rfl) ?_
  intro p e s m below meth c ls K hS hP hl
  have hl : lv_has ls 3 [(0, .ref (ad 0)), (1, .int x), (2, .int y)] := hl
  refine lv_aload_n K.hx K.hb d_M_at_0 rfl (lv_at hl 0 rfl) ?_
  refine lv_iload_n K.hx K.hb d_M_at_1 rfl (lv_at hl 1 rfl) ?_
  refine lv_iconst (v := 0) K.hx K.hb d_M_at_2 (by decide) ?_
  refine lv_aload_n K.hx K.hb d_M_at_3 rfl (lv_at hl 0 rfl) ?_
  refine g_get K.1 hP (0) (by decide) rfl rfl i_M 15 (by decide) rfl (Or.inl kw_649) rfl d_M_at_4 ?_
  refine lv_topE (y := nI rc) hrc ?_
  refine lv_iconst (v := 1) K.hx K.hb d_M_at_7 (by decide) ?_
  refine lv_isub K.hx K.hb d_M_at_8 ?_
  refine dd_S K hP hS (c_M_in l D cs ad _ _ x 0 ((nI rc) - 1)) kw_747 xm_M_in kw_745 kw_746 kw_29 rfl hl.1 d_M_at_9 (Nat.le_of_ble_eq_true rfl) (Nat.le_of_ble_eq_true rfl) ⟨(Nat.le_of_ble_eq_true rfl), (Nat.le_of_ble_eq_true rfl)⟩ (fun r v1 sd1 H l1 hp hP hS => ?_)
  obtain ⟨rfl, rfl, rfl⟩ := hp
  by_cases hx : ∃ i, i < rc ∧ x = nI i
  · refine lv_topE (y := 1) (wth_yes (by omega) hx) ?_
    obtain ⟨i, hi, rfl⟩ := hx
    have hi8 : i < 8 := by omega
    refine lv_if_eq (tgt := 28) K.hx K.hb d_M_at_12 (by decide) (fun c_12 => (show False from by revert c_12; decide).elim) (fun _ => ?_)
    refine lv_iload_n K.hx K.hb d_M_at_15 rfl (lv_at hl 2 rfl) ?_
    refine lv_iconst (v := 0) K.hx K.hb d_M_at_16 (by decide) ?_
    refine lv_iconst (v := 2) K.hx K.hb d_M_at_17 (by decide) ?_
    refine dd_S K hP hS (c_M_in l D cs ad _ _ y 0 2) kw_747 xm_M_in kw_745 kw_746 kw_29 rfl hl.1 d_M_at_18 (Nat.le_of_ble_eq_true rfl) (Nat.le_of_ble_eq_true rfl) ⟨(Nat.le_of_ble_eq_true rfl), (Nat.le_of_ble_eq_true rfl)⟩ (fun r v1 sd1 H l1 hp hP hS => ?_)
    obtain ⟨rfl, rfl, rfl⟩ := hp
    rcases wth_01 y 0 2 with w_18 | w_18
    · refine lv_topE (y := 0) w_18 ?_
      refine lv_if_eq (tgt := 28) K.hx K.hb d_M_at_21 (by decide) (fun _ => ?_) (fun c_21 => (show False from by revert c_21; decide).elim)
      refine lv_iconst (v := 0) K.hx K.hb d_M_at_28 (by decide) ?_
      refine lv_aload_n K.hx K.hb d_M_at_29 rfl (lv_at hl 0 rfl) ?_
      refine g_get K.1 hP (0) (by decide) rfl rfl i_M 23 (by decide) rfl (Or.inl kw_657) rfl d_M_at_30 ?_
      by_cases hpl : v 0 23 = 0
      · refine lv_topE (y := 0) hpl ?_
        refine lv_iconst (v := 1) K.hx K.hb d_M_at_33 (by decide) ?_
        refine dd_V K hP hS (c_M_goes l D cs ad _ _ 0 0 1) kw_751 xm_M_goes kw_748 kw_750 kw_13 (g_recv K.1.2.1 hP (0) (by decide) rfl rfl) rfl hl.1 d_M_at_34 (Nat.le_of_ble_eq_true rfl) (Nat.le_of_ble_eq_true rfl) ⟨(Nat.le_of_ble_eq_true rfl), (Nat.le_of_ble_eq_true rfl)⟩ (fun r v1 sd1 H l1 hp hP hS => ?_)
        obtain ⟨rfl, rfl, rfl⟩ := hp
        have hgz : gz 0 0 1 = 1 := by decide
        rw [hgz] at hP
        refine lv_topE (y := 0) (by rw [hgz]; decide) ?_
        refine lv_if_ne (tgt := 42) K.hx K.hb d_M_at_37 (by decide) (fun c_37 => (show False from by revert c_37; decide).elim) (fun _ => ?_)
        refine lv_iconst (v := 0) K.hx K.hb d_M_at_40 (by decide) ?_
        exact de_i K hP hS (Or.inr (Or.inl ⟨(fun h => h.2 w_18), rfl, rfl, rfl⟩)) (Nat.le_of_ble_eq_true rfl) (Nat.le_of_ble_eq_true rfl) d_M_at_41
      · refine lv_iconst (v := 1) K.hx K.hb d_M_at_33 (by decide) ?_
        refine dd_V K hP hS (c_M_goes l D cs ad _ _ 0 (v 0 23) 1) kw_751 xm_M_goes kw_748 kw_750 kw_13 (g_recv K.1.2.1 hP (0) (by decide) rfl rfl) rfl hl.1 d_M_at_34 (Nat.le_of_ble_eq_true rfl) (Nat.le_of_ble_eq_true rfl) ⟨(Nat.le_of_ble_eq_true rfl), (Nat.le_of_ble_eq_true rfl)⟩ (fun r v1 sd1 H l1 hp hP hS => ?_)
        obtain ⟨rfl, rfl, rfl⟩ := hp
        have hgz : gz 0 (v 0 23) 1 = 1 := by simp [gz, hpl]
        rw [hgz] at hP
        refine lv_topE (y := 0) (by rw [hgz]; decide) ?_
        refine lv_if_ne (tgt := 42) K.hx K.hb d_M_at_37 (by decide) (fun c_37 => (show False from by revert c_37; decide).elim) (fun _ => ?_)
        refine lv_iconst (v := 0) K.hx K.hb d_M_at_40 (by decide) ?_
        exact de_i K hP hS (Or.inr (Or.inl ⟨(fun h => h.2 w_18), rfl, rfl, rfl⟩)) (Nat.le_of_ble_eq_true rfl) (Nat.le_of_ble_eq_true rfl) d_M_at_41
    · refine lv_topE (y := 1) w_18 ?_
      refine lv_if_eq (tgt := 28) K.hx K.hb d_M_at_21 (by decide) (fun c_21 => (show False from by revert c_21; decide).elim) (fun _ => ?_)
      refine lv_iconst (v := 1) K.hx K.hb d_M_at_24 (by decide) ?_
      refine lv_goto (tgt := 29) K.hx K.hb d_M_at_25 (by decide) ?_
      refine lv_aload_n K.hx K.hb d_M_at_29 rfl (lv_at hl 0 rfl) ?_
      refine g_get K.1 hP (0) (by decide) rfl rfl i_M 23 (by decide) rfl (Or.inl kw_657) rfl d_M_at_30 ?_
      by_cases hpl : v 0 23 = 0
      · refine lv_topE (y := 0) hpl ?_
        refine lv_iconst (v := 1) K.hx K.hb d_M_at_33 (by decide) ?_
        refine dd_V K hP hS (c_M_goes l D cs ad _ _ 1 0 1) kw_751 xm_M_goes kw_748 kw_750 kw_13 (g_recv K.1.2.1 hP (0) (by decide) rfl rfl) rfl hl.1 d_M_at_34 (Nat.le_of_ble_eq_true rfl) (Nat.le_of_ble_eq_true rfl) ⟨(Nat.le_of_ble_eq_true rfl), (Nat.le_of_ble_eq_true rfl)⟩ (fun r v1 sd1 H l1 hp hP hS => ?_)
        obtain ⟨rfl, rfl, rfl⟩ := hp
        have hgz : gz 1 0 1 = 2 := by decide
        rw [hgz] at hP
        refine lv_topE (y := 0) (by rw [hgz]; decide) ?_
        refine lv_if_ne (tgt := 42) K.hx K.hb d_M_at_37 (by decide) (fun c_37 => (show False from by revert c_37; decide).elim) (fun _ => ?_)
        refine lv_iconst (v := 0) K.hx K.hb d_M_at_40 (by decide) ?_
        exact de_i K hP hS (Or.inr (Or.inr ⟨⟨i, hi, rfl⟩, one_ne w_18, hpl, rfl, rfl, rfl⟩)) (Nat.le_of_ble_eq_true rfl) (Nat.le_of_ble_eq_true rfl) d_M_at_41
      · refine lv_iconst (v := 1) K.hx K.hb d_M_at_33 (by decide) ?_
        refine dd_V K hP hS (c_M_goes l D cs ad _ _ 1 (v 0 23) 1) kw_751 xm_M_goes kw_748 kw_750 kw_13 (g_recv K.1.2.1 hP (0) (by decide) rfl rfl) rfl hl.1 d_M_at_34 (Nat.le_of_ble_eq_true rfl) (Nat.le_of_ble_eq_true rfl) ⟨(Nat.le_of_ble_eq_true rfl), (Nat.le_of_ble_eq_true rfl)⟩ (fun r v1 sd1 H l1 hp hP hS => ?_)
        obtain ⟨rfl, rfl, rfl⟩ := hp
        have hgz : gz 1 (v 0 23) 1 = 0 := by simp [gz, hpl]
        rw [hgz] at hP
        refine lv_topE (y := 1) (by rw [hgz]; decide) ?_
        refine lv_if_ne (tgt := 42) K.hx K.hb d_M_at_37 (by decide) (fun _ => ?_) (fun c_37 => (show False from by revert c_37; decide).elim)
        refine lv_aload_n K.hx K.hb d_M_at_42 rfl (lv_at hl 0 rfl) ?_
        refine g_get K.1 hP (0) (by decide) rfl rfl i_M 25 (by decide) rfl (Or.inl kw_659) rfl d_M_at_43 ?_
        refine lv_iload_n K.hx K.hb d_M_at_46 rfl (lv_at hl 1 rfl) ?_
        refine g_iald K.1 hP (16) (by decide) rfl 0 rfl (i) rfl (by omega) (by decide) d_M_at_47 ?_
        refine lv_topE (y := (v 16 i)) (by first | (simp [u2_at, kpM]; done) | (simp [u2_at, kpM] <;> (intros; omega)) | (simp only [u2_at, kpM]; (repeat' split) <;> first | rfl | (exfalso; omega))) ?_
        refine lv_if_ge (tgt := 53) K.hx K.hb d_M_at_48 (by decide) (fun c_48 => ?_) (fun c_48 => ?_)
        · refine lv_iload_n K.hx K.hb d_M_at_53 rfl (lv_at hl 2 rfl) ?_
          refine lv_if_ne (tgt := 66) K.hx K.hb d_M_at_54 (by decide) (fun c_54 => ?_) (fun c_54 => ?_)
          · refine lv_iload_n K.hx K.hb d_M_at_66 rfl (lv_at hl 2 rfl) ?_
            refine lv_iconst (v := 1) K.hx K.hb d_M_at_67 (by decide) ?_
            refine lv_icmp_ne (tgt := 85) K.hx K.hb d_M_at_68 (by decide) (fun c_68 => ?_) (fun c_68 => ?_)
            · refine lv_aload_n K.hx K.hb d_M_at_85 rfl (lv_at hl 0 rfl) ?_
              refine g_get K.1 hP (0) (by decide) rfl rfl i_M 26 (by decide) rfl (Or.inl kw_660) rfl d_M_at_86 ?_
              refine lv_iload_n K.hx K.hb d_M_at_89 rfl (lv_at hl 1 rfl) ?_
              refine g_iald K.1 hP (17) (by decide) rfl 0 rfl (i) rfl (by omega) (by decide) d_M_at_90 ?_
              refine lv_topE (y := (v 17 i)) (by first | (simp [u2_at, kpM]; done) | (simp [u2_at, kpM] <;> (intros; omega)) | (simp only [u2_at, kpM]; (repeat' split) <;> first | rfl | (exfalso; omega))) ?_
              refine lv_aload_n K.hx K.hb d_M_at_91 rfl (lv_at hl 0 rfl) ?_
              refine g_get K.1 hP (0) (by decide) rfl rfl i_M 11 (by decide) rfl (Or.inl kw_645) rfl d_M_at_92 ?_
              refine lv_topE (y := (v 0 11)) (by first | (simp [u2_at, kpM]; done) | (simp [u2_at, kpM] <;> (intros; omega)) | (simp only [u2_at, kpM]; (repeat' split) <;> first | rfl | (exfalso; omega))) ?_
              refine lv_topE (y := nI pc) hpc ?_
              refine lv_idiv K.hx K.hb d_M_at_95 (nI_ne0 (hdv hpl i hi c_48) (by omega)) ?_
              exact de_i K hP hS (Or.inl ⟨i, hi, rfl, one_ne w_18, hpl, by rw [if_neg (Int32.not_lt.mpr c_48), if_neg c_54, if_neg c_68], rfl, rfl⟩) (Nat.le_of_ble_eq_true rfl) (Nat.le_of_ble_eq_true rfl) d_M_at_96
            · refine lv_aload_n K.hx K.hb d_M_at_71 rfl (lv_at hl 0 rfl) ?_
              refine g_get K.1 hP (0) (by decide) rfl rfl i_M 26 (by decide) rfl (Or.inl kw_660) rfl d_M_at_72 ?_
              refine lv_iload_n K.hx K.hb d_M_at_75 rfl (lv_at hl 1 rfl) ?_
              refine g_iald K.1 hP (17) (by decide) rfl 0 rfl (i) rfl (by omega) (by decide) d_M_at_76 ?_
              refine lv_topE (y := (v 17 i)) (by first | (simp [u2_at, kpM]; done) | (simp [u2_at, kpM] <;> (intros; omega)) | (simp only [u2_at, kpM]; (repeat' split) <;> first | rfl | (exfalso; omega))) ?_
              refine lv_aload_n K.hx K.hb d_M_at_77 rfl (lv_at hl 0 rfl) ?_
              refine g_get K.1 hP (0) (by decide) rfl rfl i_M 11 (by decide) rfl (Or.inl kw_645) rfl d_M_at_78 ?_
              refine lv_topE (y := (v 0 11)) (by first | (simp [u2_at, kpM]; done) | (simp [u2_at, kpM] <;> (intros; omega)) | (simp only [u2_at, kpM]; (repeat' split) <;> first | rfl | (exfalso; omega))) ?_
              refine lv_topE (y := nI pc) hpc ?_
              refine lv_irem K.hx K.hb d_M_at_81 (nI_ne0 (hdv hpl i hi c_48) (by omega)) ?_
              refine lv_goto (tgt := 96) K.hx K.hb d_M_at_82 (by decide) ?_
              exact de_i K hP hS (Or.inl ⟨i, hi, rfl, one_ne w_18, hpl, by rw [if_neg (Int32.not_lt.mpr c_48), if_neg c_54, if_pos c_68], rfl, rfl⟩) (Nat.le_of_ble_eq_true rfl) (Nat.le_of_ble_eq_true rfl) d_M_at_96
          · refine lv_aload_n K.hx K.hb d_M_at_57 rfl (lv_at hl 0 rfl) ?_
            refine g_get K.1 hP (0) (by decide) rfl rfl i_M 25 (by decide) rfl (Or.inl kw_659) rfl d_M_at_58 ?_
            refine lv_iload_n K.hx K.hb d_M_at_61 rfl (lv_at hl 1 rfl) ?_
            refine g_iald K.1 hP (16) (by decide) rfl 0 rfl (i) rfl (by omega) (by decide) d_M_at_62 ?_
            refine lv_topE (y := (v 16 i)) (by first | (simp [u2_at, kpM]; done) | (simp [u2_at, kpM] <;> (intros; omega)) | (simp only [u2_at, kpM]; (repeat' split) <;> first | rfl | (exfalso; omega))) ?_
            refine lv_goto (tgt := 96) K.hx K.hb d_M_at_63 (by decide) ?_
            exact de_i K hP hS (Or.inl ⟨i, hi, rfl, one_ne w_18, hpl, by rw [if_neg (Int32.not_lt.mpr c_48), if_pos c_54], rfl, rfl⟩) (Nat.le_of_ble_eq_true rfl) (Nat.le_of_ble_eq_true rfl) d_M_at_96
        · refine lv_iconst (v := (-1)) K.hx K.hb d_M_at_51 (by decide) ?_
          exact de_i K hP hS (Or.inl ⟨i, hi, rfl, one_ne w_18, hpl, by rw [if_pos (Int32.not_le.mp c_48)], rfl, rfl⟩) (Nat.le_of_ble_eq_true rfl) (Nat.le_of_ble_eq_true rfl) d_M_at_52
  · refine lv_topE (y := 0) (wth_no (by omega) hx) ?_
    refine lv_if_eq (tgt := 28) K.hx K.hb d_M_at_12 (by decide) (fun _ => ?_) (fun c_12 => (show False from by revert c_12; decide).elim)
    refine lv_iconst (v := 0) K.hx K.hb d_M_at_28 (by decide) ?_
    refine lv_aload_n K.hx K.hb d_M_at_29 rfl (lv_at hl 0 rfl) ?_
    refine g_get K.1 hP (0) (by decide) rfl rfl i_M 23 (by decide) rfl (Or.inl kw_657) rfl d_M_at_30 ?_
    by_cases hpl : v 0 23 = 0
    · refine lv_topE (y := 0) hpl ?_
      refine lv_iconst (v := 1) K.hx K.hb d_M_at_33 (by decide) ?_
      refine dd_V K hP hS (c_M_goes l D cs ad _ _ 0 0 1) kw_751 xm_M_goes kw_748 kw_750 kw_13 (g_recv K.1.2.1 hP (0) (by decide) rfl rfl) rfl hl.1 d_M_at_34 (Nat.le_of_ble_eq_true rfl) (Nat.le_of_ble_eq_true rfl) ⟨(Nat.le_of_ble_eq_true rfl), (Nat.le_of_ble_eq_true rfl)⟩ (fun r v1 sd1 H l1 hp hP hS => ?_)
      obtain ⟨rfl, rfl, rfl⟩ := hp
      have hgz : gz 0 0 1 = 1 := by decide
      rw [hgz] at hP
      refine lv_topE (y := 0) (by rw [hgz]; decide) ?_
      refine lv_if_ne (tgt := 42) K.hx K.hb d_M_at_37 (by decide) (fun c_37 => (show False from by revert c_37; decide).elim) (fun _ => ?_)
      refine lv_iconst (v := 0) K.hx K.hb d_M_at_40 (by decide) ?_
      exact de_i K hP hS (Or.inr (Or.inl ⟨(fun h => hx h.1), rfl, rfl, rfl⟩)) (Nat.le_of_ble_eq_true rfl) (Nat.le_of_ble_eq_true rfl) d_M_at_41
    · refine lv_iconst (v := 1) K.hx K.hb d_M_at_33 (by decide) ?_
      refine dd_V K hP hS (c_M_goes l D cs ad _ _ 0 (v 0 23) 1) kw_751 xm_M_goes kw_748 kw_750 kw_13 (g_recv K.1.2.1 hP (0) (by decide) rfl rfl) rfl hl.1 d_M_at_34 (Nat.le_of_ble_eq_true rfl) (Nat.le_of_ble_eq_true rfl) ⟨(Nat.le_of_ble_eq_true rfl), (Nat.le_of_ble_eq_true rfl)⟩ (fun r v1 sd1 H l1 hp hP hS => ?_)
      obtain ⟨rfl, rfl, rfl⟩ := hp
      have hgz : gz 0 (v 0 23) 1 = 1 := by simp [gz, hpl]
      rw [hgz] at hP
      refine lv_topE (y := 0) (by rw [hgz]; decide) ?_
      refine lv_if_ne (tgt := 42) K.hx K.hb d_M_at_37 (by decide) (fun c_37 => (show False from by revert c_37; decide).elim) (fun _ => ?_)
      refine lv_iconst (v := 0) K.hx K.hb d_M_at_40 (by decide) ?_
      exact de_i K hP hS (Or.inr (Or.inl ⟨(fun h => hx h.1), rfl, rfl, rfl⟩)) (Nat.le_of_ble_eq_true rfl) (Nat.le_of_ble_eq_true rfl) d_M_at_41
set_option maxHeartbeats 4000000 in
set_option maxRecDepth 100000 in
theorem c_M_cost (l : Launch) (D : va_G) (cs : Nat → ClassId) (ad : Nat → Nat) (v : Nat → Nat → Int32) (sd : Int64)   : Dm l y_M_cost b_M_cost 1 (some .int) (rmx 1 0) [.ref (ad 0)] D cs ad v sd (fun r v' sd' => (¬ v 0 23 = 0 ∧ r = some (.int (v 0 24)) ∧ u2 v 0 0 0 = v' ∧ sd = sd') ∨ (v 0 23 = 0 ∧ r = some (.int 0) ∧ u2 v 0 0 1 = v' ∧ sd = sd')) (fun cls => False) := by
  refine dw_enter (own := "WearHoursModel") rfl (Nat.le_of_ble_eq_true rfl) ?_
  intro p e s m below meth c ls K hS hP hl
  have hl : lv_has ls 1 [(0, .ref (ad 0))] := hl
  refine lv_aload_n K.hx K.hb d_M_cost_0 rfl (lv_at hl 0 rfl) ?_
  refine lv_aload_n K.hx K.hb d_M_cost_1 rfl (lv_at hl 0 rfl) ?_
  refine g_get K.1 hP (0) (by decide) rfl rfl i_M 23 (by decide) rfl (Or.inl kw_657) rfl d_M_cost_2 ?_
  by_cases hpl : v 0 23 = 0
  · refine lv_topE (y := 0) hpl ?_
    refine lv_iconst (v := 1) K.hx K.hb d_M_cost_5 (by decide) ?_
    refine lv_iconst (v := 1) K.hx K.hb d_M_cost_6 (by decide) ?_
    refine dd_V K hP hS (c_M_goes l D cs ad _ _ 0 1 1) kw_751 xm_M_goes kw_748 kw_750 kw_13 (g_recv K.1.2.1 hP (0) (by decide) rfl rfl) rfl hl.1 d_M_cost_7 (Nat.le_of_ble_eq_true rfl) (Nat.le_of_ble_eq_true rfl) ⟨(Nat.le_of_ble_eq_true rfl), (Nat.le_of_ble_eq_true rfl)⟩ (fun r v1 sd1 H l1 hp hP hS => ?_)
    obtain ⟨rfl, rfl, rfl⟩ := hp
    have hgz : gz 0 1 1 = 1 := by decide
    rw [hgz] at hP
    refine lv_topE (y := 0) (by rw [hgz]; decide) ?_
    refine lv_if_ne (tgt := 15) K.hx K.hb d_M_cost_10 (by decide) (fun c_10 => (show False from by revert c_10; decide).elim) (fun _ => ?_)
    refine lv_iconst (v := 0) K.hx K.hb d_M_cost_13 (by decide) ?_
    exact de_i K hP hS (Or.inr ⟨hpl, rfl, rfl, rfl⟩) (Nat.le_of_ble_eq_true rfl) (Nat.le_of_ble_eq_true rfl) d_M_cost_14
  · refine lv_iconst (v := 1) K.hx K.hb d_M_cost_5 (by decide) ?_
    refine lv_iconst (v := 1) K.hx K.hb d_M_cost_6 (by decide) ?_
    refine dd_V K hP hS (c_M_goes l D cs ad _ _ (v 0 23) 1 1) kw_751 xm_M_goes kw_748 kw_750 kw_13 (g_recv K.1.2.1 hP (0) (by decide) rfl rfl) rfl hl.1 d_M_cost_7 (Nat.le_of_ble_eq_true rfl) (Nat.le_of_ble_eq_true rfl) ⟨(Nat.le_of_ble_eq_true rfl), (Nat.le_of_ble_eq_true rfl)⟩ (fun r v1 sd1 H l1 hp hP hS => ?_)
    obtain ⟨rfl, rfl, rfl⟩ := hp
    have hgz : gz (v 0 23) 1 1 = 0 := by simp [gz, hpl]
    rw [hgz] at hP
    refine lv_topE (y := 1) (by rw [hgz]; decide) ?_
    refine lv_if_ne (tgt := 15) K.hx K.hb d_M_cost_10 (by decide) (fun _ => ?_) (fun c_10 => (show False from by revert c_10; decide).elim)
    refine lv_aload_n K.hx K.hb d_M_cost_15 rfl (lv_at hl 0 rfl) ?_
    refine g_get K.1 hP (0) (by decide) rfl rfl i_M 24 (by decide) rfl (Or.inl kw_658) rfl d_M_cost_16 ?_
    refine lv_topE (y := (v 0 24)) (by first | (simp [u2_at, kpM]; done) | (simp [u2_at, kpM] <;> (intros; omega)) | (simp only [u2_at, kpM]; (repeat' split) <;> first | rfl | (exfalso; omega))) ?_
    exact de_i K hP hS (Or.inl ⟨hpl, rfl, rfl, rfl⟩) (Nat.le_of_ble_eq_true rfl) (Nat.le_of_ble_eq_true rfl) d_M_cost_19
set_option maxHeartbeats 4000000 in
set_option maxRecDepth 100000 in
theorem c_M_spare (l : Launch) (D : va_G) (cs : Nat → ClassId) (ad : Nat → Nat) (v : Nat → Nat → Int32) (sd : Int64) (x y : Int32)  : Dm l y_M_spare b_M_spare 5 (some .int) (rmx 1 0) [.ref (ad 0), .int x, .int y] D cs ad v sd (fun r v' sd' => (∃ i, i < 4 ∧ x = nI i ∧ ¬ wthZ y 0 100 = 0 ∧ ¬ 1000 < v 15 i + y ∧ r = some (.int (v 15 i + y)) ∧ u2 (u2 v 0 0 0) 15 i (v 15 i + y) = v' ∧ sd = sd') ∨ ((¬ ∃ i, i < 4 ∧ x = nI i) ∧ r = some (.int 0) ∧ u2 v 0 0 1 = v' ∧ sd = sd') ∨ ((∃ i, i < 4 ∧ x = nI i) ∧ wthZ y 0 100 = 0 ∧ r = some (.int 0) ∧ u2 v 0 0 2 = v' ∧ sd = sd') ∨ (∃ i, i < 4 ∧ x = nI i ∧ ¬ wthZ y 0 100 = 0 ∧ 1000 < v 15 i + y ∧ r = some (.int 0) ∧ u2 v 0 0 3 = v' ∧ sd = sd')) (fun cls => False) := by
  refine dw_enter (own := "WearHoursModel") rfl (Nat.le_of_ble_eq_true rfl) ?_
  intro p e s m below meth c ls K hS hP hl
  have hl : lv_has ls 5 [(0, .ref (ad 0)), (1, .int x), (2, .int y)] := hl
  refine lv_iload_n K.hx K.hb d_M_spare_0 rfl (lv_at hl 1 rfl) ?_
  refine lv_iconst (v := 0) K.hx K.hb d_M_spare_1 (by decide) ?_
  refine lv_iconst (v := 3) K.hx K.hb d_M_spare_2 (by decide) ?_
  refine dd_S K hP hS (c_M_in l D cs ad _ _ x 0 3) kw_747 xm_M_in kw_745 kw_746 kw_29 rfl hl.1 d_M_spare_3 (Nat.le_of_ble_eq_true rfl) (Nat.le_of_ble_eq_true rfl) ⟨(Nat.le_of_ble_eq_true rfl), (Nat.le_of_ble_eq_true rfl)⟩ (fun r v1 sd1 H l1 hp hP hS => ?_)
  obtain ⟨rfl, rfl, rfl⟩ := hp
  by_cases hx : ∃ i, i < 4 ∧ x = nI i
  · refine lv_topE (y := 1) (wth_yes4 (by omega) hx) ?_
    obtain ⟨i, hi, rfl⟩ := hx
    have hi8 : i < 8 := by omega
    refine lv_istore_n (lv' := [(3, .int 1), (0, .ref (ad 0)), (1, .int (nI i)), (2, .int y)]) K.hx K.hb d_M_spare_6 rfl hl (by decide) rfl (fun ls hl => ?_)
    refine lv_iload_n K.hx K.hb d_M_spare_7 rfl (lv_at hl 3 rfl) ?_
    refine lv_iconst (v := 0) K.hx K.hb d_M_spare_8 (by decide) ?_
    refine lv_bipush (v := 100) K.hx K.hb d_M_spare_9 (by decide) ?_
    refine dd_S K hP hS (c_M_in l D cs ad _ _ y 0 100) kw_747 xm_M_in kw_745 kw_746 kw_29 rfl hl.1 d_M_spare_11 (Nat.le_of_ble_eq_true rfl) (Nat.le_of_ble_eq_true rfl) ⟨(Nat.le_of_ble_eq_true rfl), (Nat.le_of_ble_eq_true rfl)⟩ (fun r v1 sd1 H l1 hp hP hS => ?_)
    obtain ⟨rfl, rfl, rfl⟩ := hp
    rcases wth_01 y 0 100 with w_11 | w_11
    · refine lv_topE (y := 0) w_11 ?_
      refine lv_istore (lv' := [(4, .int 0), (3, .int 1), (0, .ref (ad 0)), (1, .int (nI i)), (2, .int y)]) K.hx K.hb d_M_spare_14 hl (by decide) rfl (fun ls hl => ?_)
      refine lv_aload_n K.hx K.hb d_M_spare_16 rfl (lv_at hl 2 rfl) ?_
      refine lv_iload_n K.hx K.hb d_M_spare_17 rfl (lv_at hl 1 rfl) ?_
      refine lv_iload K.hx K.hb d_M_spare_18 (lv_at hl 0 rfl) ?_
      refine lv_iload_n K.hx K.hb d_M_spare_20 rfl (lv_at hl 1 rfl) ?_
      refine lv_if_eq (tgt := 47) K.hx K.hb d_M_spare_21 (by decide) (fun c_21 => (show False from by revert c_21; decide).elim) (fun _ => ?_)
      refine lv_iload K.hx K.hb d_M_spare_24 (lv_at hl 0 rfl) ?_
      refine lv_if_eq (tgt := 47) K.hx K.hb d_M_spare_26 (by decide) (fun _ => ?_) (fun c_26 => (show False from by revert c_26; decide).elim)
      refine lv_iconst (v := 0) K.hx K.hb d_M_spare_47 (by decide) ?_
      refine dd_V K hP hS (c_M_goes l D cs ad _ _ 1 0 0) kw_751 xm_M_goes kw_748 kw_750 kw_13 (g_recv K.1.2.1 hP (0) (by decide) rfl rfl) rfl hl.1 d_M_spare_48 (Nat.le_of_ble_eq_true rfl) (Nat.le_of_ble_eq_true rfl) ⟨(Nat.le_of_ble_eq_true rfl), (Nat.le_of_ble_eq_true rfl)⟩ (fun r v1 sd1 H l1 hp hP hS => ?_)
      obtain ⟨rfl, rfl, rfl⟩ := hp
      have hgz : gz 1 0 0 = 2 := by decide
      rw [hgz] at hP
      refine lv_topE (y := 0) (by rw [hgz]; decide) ?_
      refine lv_if_ne (tgt := 56) K.hx K.hb d_M_spare_51 (by decide) (fun c_51 => (show False from by revert c_51; decide).elim) (fun _ => ?_)
      refine lv_iconst (v := 0) K.hx K.hb d_M_spare_54 (by decide) ?_
      exact de_i K hP hS (Or.inr (Or.inr (Or.inl ⟨⟨i, hi, rfl⟩, w_11, rfl, rfl, rfl⟩))) (Nat.le_of_ble_eq_true rfl) (Nat.le_of_ble_eq_true rfl) d_M_spare_55
    · refine lv_topE (y := 1) w_11 ?_
      refine lv_istore (lv' := [(4, .int 1), (3, .int 1), (0, .ref (ad 0)), (1, .int (nI i)), (2, .int y)]) K.hx K.hb d_M_spare_14 hl (by decide) rfl (fun ls hl => ?_)
      refine lv_aload_n K.hx K.hb d_M_spare_16 rfl (lv_at hl 2 rfl) ?_
      refine lv_iload_n K.hx K.hb d_M_spare_17 rfl (lv_at hl 1 rfl) ?_
      refine lv_iload K.hx K.hb d_M_spare_18 (lv_at hl 0 rfl) ?_
      refine lv_iload_n K.hx K.hb d_M_spare_20 rfl (lv_at hl 1 rfl) ?_
      refine lv_if_eq (tgt := 47) K.hx K.hb d_M_spare_21 (by decide) (fun c_21 => (show False from by revert c_21; decide).elim) (fun _ => ?_)
      refine lv_iload K.hx K.hb d_M_spare_24 (lv_at hl 0 rfl) ?_
      refine lv_if_eq (tgt := 47) K.hx K.hb d_M_spare_26 (by decide) (fun c_26 => (show False from by revert c_26; decide).elim) (fun _ => ?_)
      refine lv_aload_n K.hx K.hb d_M_spare_29 rfl (lv_at hl 2 rfl) ?_
      refine g_get K.1 hP (0) (by decide) rfl rfl i_M 22 (by decide) rfl (Or.inl kw_656) rfl d_M_spare_30 ?_
      refine lv_iload_n K.hx K.hb d_M_spare_33 rfl (lv_at hl 3 rfl) ?_
      refine g_iald K.1 hP (15) (by decide) rfl 0 rfl (i) rfl (by omega) (by decide) d_M_spare_34 ?_
      refine lv_iload_n K.hx K.hb d_M_spare_35 rfl (lv_at hl 4 rfl) ?_
      refine lv_iadd K.hx K.hb d_M_spare_36 ?_
      refine lv_sipush (v := 1000) K.hx K.hb d_M_spare_37 (by decide) ?_
      refine lv_icmp_gt (tgt := 47) K.hx K.hb d_M_spare_40 (by decide) (fun c_40 => ?_) (fun c_40 => ?_)
      · refine lv_iconst (v := 0) K.hx K.hb d_M_spare_47 (by decide) ?_
        refine dd_V K hP hS (c_M_goes l D cs ad _ _ 1 1 0) kw_751 xm_M_goes kw_748 kw_750 kw_13 (g_recv K.1.2.1 hP (0) (by decide) rfl rfl) rfl hl.1 d_M_spare_48 (Nat.le_of_ble_eq_true rfl) (Nat.le_of_ble_eq_true rfl) ⟨(Nat.le_of_ble_eq_true rfl), (Nat.le_of_ble_eq_true rfl)⟩ (fun r v1 sd1 H l1 hp hP hS => ?_)
        obtain ⟨rfl, rfl, rfl⟩ := hp
        have hgz : gz 1 1 0 = 3 := by decide
        rw [hgz] at hP
        refine lv_topE (y := 0) (by rw [hgz]; decide) ?_
        refine lv_if_ne (tgt := 56) K.hx K.hb d_M_spare_51 (by decide) (fun c_51 => (show False from by revert c_51; decide).elim) (fun _ => ?_)
        refine lv_iconst (v := 0) K.hx K.hb d_M_spare_54 (by decide) ?_
        exact de_i K hP hS (Or.inr (Or.inr (Or.inr ⟨i, hi, rfl, one_ne w_11, c_40, rfl, rfl, rfl⟩))) (Nat.le_of_ble_eq_true rfl) (Nat.le_of_ble_eq_true rfl) d_M_spare_55
      · refine lv_iconst (v := 1) K.hx K.hb d_M_spare_43 (by decide) ?_
        refine lv_goto (tgt := 48) K.hx K.hb d_M_spare_44 (by decide) ?_
        refine dd_V K hP hS (c_M_goes l D cs ad _ _ 1 1 1) kw_751 xm_M_goes kw_748 kw_750 kw_13 (g_recv K.1.2.1 hP (0) (by decide) rfl rfl) rfl hl.1 d_M_spare_48 (Nat.le_of_ble_eq_true rfl) (Nat.le_of_ble_eq_true rfl) ⟨(Nat.le_of_ble_eq_true rfl), (Nat.le_of_ble_eq_true rfl)⟩ (fun r v1 sd1 H l1 hp hP hS => ?_)
        obtain ⟨rfl, rfl, rfl⟩ := hp
        have hgz : gz 1 1 1 = 0 := by decide
        rw [hgz] at hP
        refine lv_topE (y := 1) (by rw [hgz]; decide) ?_
        refine lv_if_ne (tgt := 56) K.hx K.hb d_M_spare_51 (by decide) (fun _ => ?_) (fun c_51 => (show False from by revert c_51; decide).elim)
        refine lv_aload_n K.hx K.hb d_M_spare_56 rfl (lv_at hl 2 rfl) ?_
        refine g_get K.1 hP (0) (by decide) rfl rfl i_M 22 (by decide) rfl (Or.inl kw_656) rfl d_M_spare_57 ?_
        refine lv_iload_n K.hx K.hb d_M_spare_60 rfl (lv_at hl 3 rfl) ?_
        refine lv_aload_n K.hx K.hb d_M_spare_61 rfl (lv_at hl 2 rfl) ?_
        refine g_get K.1 hP (0) (by decide) rfl rfl i_M 22 (by decide) rfl (Or.inl kw_656) rfl d_M_spare_62 ?_
        refine lv_iload_n K.hx K.hb d_M_spare_65 rfl (lv_at hl 3 rfl) ?_
        refine g_iald K.1 hP (15) (by decide) rfl 0 rfl (i) rfl (by omega) (by decide) d_M_spare_66 ?_
        refine lv_topE (y := (v 15 i)) (by first | (simp [u2_at, kpM]; done) | (simp [u2_at, kpM] <;> (intros; omega)) | (simp only [u2_at, kpM]; (repeat' split) <;> first | rfl | (exfalso; omega))) ?_
        refine lv_iload_n K.hx K.hb d_M_spare_67 rfl (lv_at hl 4 rfl) ?_
        refine lv_iadd K.hx K.hb d_M_spare_68 ?_
        refine g_iast K.1 hP hS (15) (by decide) (fun _ => rfl) 0 rfl (i) rfl (by omega) (by decide) d_M_spare_69 (fun H l1 hP hS => ?_)
        refine lv_aload_n K.hx K.hb d_M_spare_70 rfl (lv_at hl 2 rfl) ?_
        refine g_get K.1 hP (0) (by decide) rfl rfl i_M 22 (by decide) rfl (Or.inl kw_656) rfl d_M_spare_71 ?_
        refine lv_iload_n K.hx K.hb d_M_spare_74 rfl (lv_at hl 3 rfl) ?_
        refine g_iald K.1 hP (15) (by decide) rfl 0 rfl (i) rfl (by omega) (by decide) d_M_spare_75 ?_
        refine lv_topE (y := ((v 15 i) + y)) (by first | (simp [u2_at, kpM]; done) | (simp [u2_at, kpM] <;> (intros; omega)) | (simp only [u2_at, kpM]; (repeat' split) <;> first | rfl | (exfalso; omega))) ?_
        exact de_i K hP hS (Or.inl ⟨i, hi, rfl, one_ne w_11, c_40, by simp [u2_at], rfl, rfl⟩) (Nat.le_of_ble_eq_true rfl) (Nat.le_of_ble_eq_true rfl) d_M_spare_76
  · refine lv_topE (y := 0) (wth_no4 (by omega) hx) ?_
    refine lv_istore_n (lv' := [(3, .int 0), (0, .ref (ad 0)), (1, .int x), (2, .int y)]) K.hx K.hb d_M_spare_6 rfl hl (by decide) rfl (fun ls hl => ?_)
    refine lv_iload_n K.hx K.hb d_M_spare_7 rfl (lv_at hl 3 rfl) ?_
    refine lv_iconst (v := 0) K.hx K.hb d_M_spare_8 (by decide) ?_
    refine lv_bipush (v := 100) K.hx K.hb d_M_spare_9 (by decide) ?_
    refine dd_S K hP hS (c_M_in l D cs ad _ _ y 0 100) kw_747 xm_M_in kw_745 kw_746 kw_29 rfl hl.1 d_M_spare_11 (Nat.le_of_ble_eq_true rfl) (Nat.le_of_ble_eq_true rfl) ⟨(Nat.le_of_ble_eq_true rfl), (Nat.le_of_ble_eq_true rfl)⟩ (fun r v1 sd1 H l1 hp hP hS => ?_)
    obtain ⟨rfl, rfl, rfl⟩ := hp
    rcases wth_01 y 0 100 with w_11 | w_11
    · refine lv_topE (y := 0) w_11 ?_
      refine lv_istore (lv' := [(4, .int 0), (3, .int 0), (0, .ref (ad 0)), (1, .int x), (2, .int y)]) K.hx K.hb d_M_spare_14 hl (by decide) rfl (fun ls hl => ?_)
      refine lv_aload_n K.hx K.hb d_M_spare_16 rfl (lv_at hl 2 rfl) ?_
      refine lv_iload_n K.hx K.hb d_M_spare_17 rfl (lv_at hl 1 rfl) ?_
      refine lv_iload K.hx K.hb d_M_spare_18 (lv_at hl 0 rfl) ?_
      refine lv_iload_n K.hx K.hb d_M_spare_20 rfl (lv_at hl 1 rfl) ?_
      refine lv_if_eq (tgt := 47) K.hx K.hb d_M_spare_21 (by decide) (fun _ => ?_) (fun c_21 => (show False from by revert c_21; decide).elim)
      refine lv_iconst (v := 0) K.hx K.hb d_M_spare_47 (by decide) ?_
      refine dd_V K hP hS (c_M_goes l D cs ad _ _ 0 0 0) kw_751 xm_M_goes kw_748 kw_750 kw_13 (g_recv K.1.2.1 hP (0) (by decide) rfl rfl) rfl hl.1 d_M_spare_48 (Nat.le_of_ble_eq_true rfl) (Nat.le_of_ble_eq_true rfl) ⟨(Nat.le_of_ble_eq_true rfl), (Nat.le_of_ble_eq_true rfl)⟩ (fun r v1 sd1 H l1 hp hP hS => ?_)
      obtain ⟨rfl, rfl, rfl⟩ := hp
      have hgz : gz 0 0 0 = 1 := by decide
      rw [hgz] at hP
      refine lv_topE (y := 0) (by rw [hgz]; decide) ?_
      refine lv_if_ne (tgt := 56) K.hx K.hb d_M_spare_51 (by decide) (fun c_51 => (show False from by revert c_51; decide).elim) (fun _ => ?_)
      refine lv_iconst (v := 0) K.hx K.hb d_M_spare_54 (by decide) ?_
      exact de_i K hP hS (Or.inr (Or.inl ⟨hx, rfl, rfl, rfl⟩)) (Nat.le_of_ble_eq_true rfl) (Nat.le_of_ble_eq_true rfl) d_M_spare_55
    · refine lv_topE (y := 1) w_11 ?_
      refine lv_istore (lv' := [(4, .int 1), (3, .int 0), (0, .ref (ad 0)), (1, .int x), (2, .int y)]) K.hx K.hb d_M_spare_14 hl (by decide) rfl (fun ls hl => ?_)
      refine lv_aload_n K.hx K.hb d_M_spare_16 rfl (lv_at hl 2 rfl) ?_
      refine lv_iload_n K.hx K.hb d_M_spare_17 rfl (lv_at hl 1 rfl) ?_
      refine lv_iload K.hx K.hb d_M_spare_18 (lv_at hl 0 rfl) ?_
      refine lv_iload_n K.hx K.hb d_M_spare_20 rfl (lv_at hl 1 rfl) ?_
      refine lv_if_eq (tgt := 47) K.hx K.hb d_M_spare_21 (by decide) (fun _ => ?_) (fun c_21 => (show False from by revert c_21; decide).elim)
      refine lv_iconst (v := 0) K.hx K.hb d_M_spare_47 (by decide) ?_
      refine dd_V K hP hS (c_M_goes l D cs ad _ _ 0 1 0) kw_751 xm_M_goes kw_748 kw_750 kw_13 (g_recv K.1.2.1 hP (0) (by decide) rfl rfl) rfl hl.1 d_M_spare_48 (Nat.le_of_ble_eq_true rfl) (Nat.le_of_ble_eq_true rfl) ⟨(Nat.le_of_ble_eq_true rfl), (Nat.le_of_ble_eq_true rfl)⟩ (fun r v1 sd1 H l1 hp hP hS => ?_)
      obtain ⟨rfl, rfl, rfl⟩ := hp
      have hgz : gz 0 1 0 = 1 := by decide
      rw [hgz] at hP
      refine lv_topE (y := 0) (by rw [hgz]; decide) ?_
      refine lv_if_ne (tgt := 56) K.hx K.hb d_M_spare_51 (by decide) (fun c_51 => (show False from by revert c_51; decide).elim) (fun _ => ?_)
      refine lv_iconst (v := 0) K.hx K.hb d_M_spare_54 (by decide) ?_
      exact de_i K hP hS (Or.inr (Or.inl ⟨hx, rfl, rfl, rfl⟩)) (Nat.le_of_ble_eq_true rfl) (Nat.le_of_ble_eq_true rfl) d_M_spare_55
