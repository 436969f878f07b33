/-! the reference's plan -/
theorem MR_00 {u : Nat → Nat → Int32} {d : Nat → Nat → Nat} {gc pc rc : Nat} (x y : Int32) (h : MR u d gc pc rc) : MR (u2 (u2 u 0 0 x) 0 23 y) d gc pc rc := by
  obtain ⟨h1, h2, h3, h4, h5, h6, h7, h8⟩ := h
  have e : ∀ a, a ≠ 0 → u2 (u2 u 0 0 x) 0 23 y a = u a := fun a ha => by rw [u2_ne ha, u2_ne ha]
  have e0 : ∀ j, j ≠ 0 → j ≠ 23 → u2 (u2 u 0 0 x) 0 23 y 0 j = u 0 j := fun j a b => by rw [u2_at, if_neg (by omega), u2_at, if_neg (by omega)]
  refine ⟨fun g q => ?_, fun p q => ?_, fun i q => ?_, ?_, ?_, ?_, ?_, ?_⟩
  · rw [e _ (by decide), e _ (by decide)]; exact h1 g q
  · rw [e _ (by decide), e _ (by decide), e _ (by decide)]; exact h2 p q
  · rw [e _ (by decide), e _ (by decide), e _ (by decide), e _ (by decide)]; exact h3 i q
  · rw [e0 _ (by decide) (by decide)]; exact h4
  · rw [e0 _ (by decide) (by decide)]; exact h5
  · rw [e0 _ (by decide) (by decide)]; exact h6
  · rw [e0 _ (by decide) (by decide)]; exact h7
  · rw [e0 _ (by decide) (by decide)]; exact h8
def pz (v : Nat → Nat → Int32) : Nat → Nat → Int32 := u2 (u2 (u2 (u2 (u2 (u2 (u2 (u2 (u2 (u2 (u2 (u2 (u2 (u2 (u2 (u2 v 0 0 0) 0 23 0) 18 0 0) 18 1 0) 18 2 0) 18 3 0) 19 0 0) 19 1 0) 19 2 0) 19 3 0) 19 4 0) 19 5 0) 19 6 0) 19 7 0) 20 0 0) 21 0 0
theorem pz_row {v : Nat → Nat → Int32} {a : Nat} (h : a ≠ 18 ∧ a ≠ 19 ∧ a ≠ 20 ∧ a ≠ 21) : pz v a = (u2 (u2 v 0 0 0) 0 23 0) a := by
  unfold pz
  simp only [u2_ne h.1, u2_ne h.2.1, u2_ne h.2.2.1, u2_ne h.2.2.2]
theorem pz_18 (v : Nat → Nat → Int32) (p : Nat) (hp : p < 4) : pz v 18 p = 0 := by
  unfold pz
  rcases (show p = 0 ∨ p = 1 ∨ p = 2 ∨ p = 3 by omega) with rfl | rfl | rfl | rfl <;> simp [u2_at]
theorem pz_19 (v : Nat → Nat → Int32) (t : Nat) (ht : t < 8) : pz v 19 t = 0 := by
  unfold pz
  rcases (show t = 0 ∨ t = 1 ∨ t = 2 ∨ t = 3 ∨ t = 4 ∨ t = 5 ∨ t = 6 ∨ t = 7 by omega) with rfl | rfl | rfl | rfl | rfl | rfl | rfl | rfl <;> simp [u2_at]
theorem pz_SI {v : Nat → Nat → Int32} {d : Nat → Nat → Nat} {gc pc rc : Nat} (h : MR v d gc pc rc) : SI d gc pc rc (pz v) 0 b0 0 [] none := by
  refine ⟨(MR_00 0 0 h).of (KM_r (fun a ha => pz_row (by omega))), ⟨fun p hp => ?_, fun t ht => ?_, ?_⟩, BB_0, by omega, trivial, rfl, ?_⟩
  · rw [Nat.mul_zero, Nat.zero_add]; exact pz_18 v p hp
  · rw [Nat.mul_zero, Nat.zero_add]; exact pz_19 v t ht
  · show pz v 20 0 = 0
    unfold pz
    rw [u2_ne (by decide), u2_eq]
  · show pz v 0 23 = 0
    rw [pz_row (by decide), u2_eq]
set_option maxHeartbeats 4000000 in
set_option maxRecDepth 100000 in
theorem c_M_plan (l : Launch) (D : va_G) (cs : Nat → ClassId) (ad : Nat → Nat) (v : Nat → Nat → Int32) (sd : Int64) {d : Nat → Nat → Nat} {gc pc rc : Nat} (hD : DB d gc pc rc) (hg6 : gc ≤ 6) (hp4 : pc ≤ 4) (hr5 : rc ≤ 5) (hM : MR v d gc pc rc)  : Dm l y_M_plan b_M_plan 5 (some .int) (rmx 3 0) [.ref (ad 0)] D cs ad v sd (fun r v' sd' => r = some (.int (cnM v' rc)) ∧ KM v' (u2 v 0 0 0) ∧ BQ v' (some (opt d gc pc rc 0 b0, (bs d gc pc rc 0 b0).2)) ∧ sd = sd') (fun cls => False) := by
  refine dw_enter (own := "WearHoursModel") rfl (Nat.le_of_ble_eq_true rfl) ?_
  intro p e s m below meth c ls K hS hP hl
  have hl : lv_has ls 5 [(0, .ref (ad 0))] := hl
  have h8 := hM.2.2.2.2.2.1
  have h11 := hM.2.2.2.2.2.2.1
  refine lv_aload_n K.hx K.hb d_M_plan_0 rfl (lv_at hl 0 rfl) ?_
  refine lv_iconst (v := 0) K.hx K.hb d_M_plan_1 (by decide) ?_
  refine g_puti K.1 hP hS (0) (by decide) rfl rfl i_M ft_M ft_M_ok n_M 0 (by decide) rfl (Or.inl kw_634) rfl rfl rfl (Nat.le_of_ble_eq_true rfl) rfl d_M_plan_2 (fun H l1 hP hS => ?_)
  refine lv_aload_n K.hx K.hb d_M_plan_5 rfl (lv_at hl 0 rfl) ?_
  refine lv_iconst (v := 0) K.hx K.hb d_M_plan_6 (by decide) ?_
  refine g_puti K.1 hP hS (0) (by decide) rfl rfl i_M ft_M ft_M_ok n_M 23 (by decide) rfl (Or.inl kw_657) rfl rfl rfl (Nat.le_of_ble_eq_true rfl) rfl d_M_plan_7 (fun H l1 hP hS => ?_)
  refine lv_iconst (v := 0) K.hx K.hb d_M_plan_10 (by decide) ?_
  refine lv_istore_n (lv' := [(1, .int 0), (0, .ref (ad 0))]) K.hx K.hb d_M_plan_11 rfl hl (by decide) rfl (fun ls hl => ?_)
  refine lv_iload_n K.hx K.hb d_M_plan_12 rfl (lv_at hl 0 rfl) ?_
  refine lv_iconst (v := 4) K.hx K.hb d_M_plan_13 (by decide) ?_
  refine lv_icmp_ge (tgt := 30) K.hx K.hb d_M_plan_14 (by decide) (fun c_14 => (show False from by revert c_14; decide).elim) (fun _ => ?_)
  refine lv_aload_n K.hx K.hb d_M_plan_17 rfl (lv_at hl 1 rfl) ?_
  refine g_get K.1 hP (0) (by decide) rfl rfl i_M 27 (by decide) rfl (Or.inl kw_661) rfl d_M_plan_18 ?_
  refine lv_iload_n K.hx K.hb d_M_plan_21 rfl (lv_at hl 0 rfl) ?_
  refine lv_iconst (v := 0) K.hx K.hb d_M_plan_22 (by decide) ?_
  refine g_iast K.1 hP hS (18) (by decide) (fun _ => rfl) 0 rfl (0) rfl (by decide) (by decide) d_M_plan_23 (fun H l1 hP hS => ?_)
  refine lv_iinc (v := 1) (lv' := [(1, .int 1), (0, .ref (ad 0))]) K.hx K.hb d_M_plan_24 hl (k := 0) rfl (by decide) (by decide) rfl (fun ls hl => ?_)
  refine lv_goto (tgt := 12) K.hx K.hb d_M_plan_27 (by decide) ?_
  refine lv_iload_n K.hx K.hb d_M_plan_12 rfl (lv_at hl 0 rfl) ?_
  refine lv_iconst (v := 4) K.hx K.hb d_M_plan_13 (by decide) ?_
  refine lv_icmp_ge (tgt := 30) K.hx K.hb d_M_plan_14 (by decide) (fun c_14_1 => (show False from by revert c_14_1; decide).elim) (fun _ => ?_)
  refine lv_aload_n K.hx K.hb d_M_plan_17 rfl (lv_at hl 1 rfl) ?_
  refine g_get K.1 hP (0) (by decide) rfl rfl i_M 27 (by decide) rfl (Or.inl kw_661) rfl d_M_plan_18 ?_
  refine lv_iload_n K.hx K.hb d_M_plan_21 rfl (lv_at hl 0 rfl) ?_
  refine lv_iconst (v := 0) K.hx K.hb d_M_plan_22 (by decide) ?_
  refine g_iast K.1 hP hS (18) (by decide) (fun _ => rfl) 0 rfl (1) rfl (by decide) (by decide) d_M_plan_23 (fun H l1 hP hS => ?_)
  refine lv_iinc (v := 2) (lv' := [(1, .int 2), (0, .ref (ad 0))]) K.hx K.hb d_M_plan_24 hl (k := 0) rfl (by decide) (by decide) rfl (fun ls hl => ?_)
  refine lv_goto (tgt := 12) K.hx K.hb d_M_plan_27 (by decide) ?_
  refine lv_iload_n K.hx K.hb d_M_plan_12 rfl (lv_at hl 0 rfl) ?_
  refine lv_iconst (v := 4) K.hx K.hb d_M_plan_13 (by decide) ?_
  refine lv_icmp_ge (tgt := 30) K.hx K.hb d_M_plan_14 (by decide) (fun c_14_2 => (show False from by revert c_14_2; decide).elim) (fun _ => ?_)
  refine lv_aload_n K.hx K.hb d_M_plan_17 rfl (lv_at hl 1 rfl) ?_
  refine g_get K.1 hP (0) (by decide) rfl rfl i_M 27 (by decide) rfl (Or.inl kw_661) rfl d_M_plan_18 ?_
  refine lv_iload_n K.hx K.hb d_M_plan_21 rfl (lv_at hl 0 rfl) ?_
  refine lv_iconst (v := 0) K.hx K.hb d_M_plan_22 (by decide) ?_
  refine g_iast K.1 hP hS (18) (by decide) (fun _ => rfl) 0 rfl (2) rfl (by decide) (by decide) d_M_plan_23 (fun H l1 hP hS => ?_)
  refine lv_iinc (v := 3) (lv' := [(1, .int 3), (0, .ref (ad 0))]) K.hx K.hb d_M_plan_24 hl (k := 0) rfl (by decide) (by decide) rfl (fun ls hl => ?_)
  refine lv_goto (tgt := 12) K.hx K.hb d_M_plan_27 (by decide) ?_
  refine lv_iload_n K.hx K.hb d_M_plan_12 rfl (lv_at hl 0 rfl) ?_
  refine lv_iconst (v := 4) K.hx K.hb d_M_plan_13 (by decide) ?_
  refine lv_icmp_ge (tgt := 30) K.hx K.hb d_M_plan_14 (by decide) (fun c_14_3 => (show False from by revert c_14_3; decide).elim) (fun _ => ?_)
  refine lv_aload_n K.hx K.hb d_M_plan_17 rfl (lv_at hl 1 rfl) ?_
  refine g_get K.1 hP (0) (by decide) rfl rfl i_M 27 (by decide) rfl (Or.inl kw_661) rfl d_M_plan_18 ?_
  refine lv_iload_n K.hx K.hb d_M_plan_21 rfl (lv_at hl 0 rfl) ?_
  refine lv_iconst (v := 0) K.hx K.hb d_M_plan_22 (by decide) ?_
  refine g_iast K.1 hP hS (18) (by decide) (fun _ => rfl) 0 rfl (3) rfl (by decide) (by decide) d_M_plan_23 (fun H l1 hP hS => ?_)
  refine lv_iinc (v := 4) (lv' := [(1, .int 4), (0, .ref (ad 0))]) K.hx K.hb d_M_plan_24 hl (k := 0) rfl (by decide) (by decide) rfl (fun ls hl => ?_)
  refine lv_goto (tgt := 12) K.hx K.hb d_M_plan_27 (by decide) ?_
  refine lv_iload_n K.hx K.hb d_M_plan_12 rfl (lv_at hl 0 rfl) ?_
  refine lv_iconst (v := 4) K.hx K.hb d_M_plan_13 (by decide) ?_
  refine lv_icmp_ge (tgt := 30) K.hx K.hb d_M_plan_14 (by decide) (fun _ => ?_) (fun c_14_4 => (show False from by revert c_14_4; decide).elim)
  refine lv_iconst (v := 0) K.hx K.hb d_M_plan_30 (by decide) ?_
  refine lv_istore_n (lv' := [(1, .int 0), (0, .ref (ad 0))]) K.hx K.hb d_M_plan_31 rfl hl (by decide) rfl (fun ls hl => ?_)
  refine lv_iload_n K.hx K.hb d_M_plan_32 rfl (lv_at hl 0 rfl) ?_
  refine lv_bipush (v := 8) K.hx K.hb d_M_plan_33 (by decide) ?_
  refine lv_icmp_ge (tgt := 51) K.hx K.hb d_M_plan_35 (by decide) (fun c_35 => (show False from by revert c_35; decide).elim) (fun _ => ?_)
  refine lv_aload_n K.hx K.hb d_M_plan_38 rfl (lv_at hl 1 rfl) ?_
  refine g_get K.1 hP (0) (by decide) rfl rfl i_M 28 (by decide) rfl (Or.inl kw_662) rfl d_M_plan_39 ?_
  refine lv_iload_n K.hx K.hb d_M_plan_42 rfl (lv_at hl 0 rfl) ?_
  refine lv_iconst (v := 0) K.hx K.hb d_M_plan_43 (by decide) ?_
  refine g_iast K.1 hP hS (19) (by decide) (fun _ => rfl) 0 rfl (0) rfl (by decide) (by decide) d_M_plan_44 (fun H l1 hP hS => ?_)
  refine lv_iinc (v := 1) (lv' := [(1, .int 1), (0, .ref (ad 0))]) K.hx K.hb d_M_plan_45 hl (k := 0) rfl (by decide) (by decide) rfl (fun ls hl => ?_)
  refine lv_goto (tgt := 32) K.hx K.hb d_M_plan_48 (by decide) ?_
  refine lv_iload_n K.hx K.hb d_M_plan_32 rfl (lv_at hl 0 rfl) ?_
  refine lv_bipush (v := 8) K.hx K.hb d_M_plan_33 (by decide) ?_
  refine lv_icmp_ge (tgt := 51) K.hx K.hb d_M_plan_35 (by decide) (fun c_35_5 => (show False from by revert c_35_5; decide).elim) (fun _ => ?_)
  refine lv_aload_n K.hx K.hb d_M_plan_38 rfl (lv_at hl 1 rfl) ?_
  refine g_get K.1 hP (0) (by decide) rfl rfl i_M 28 (by decide) rfl (Or.inl kw_662) rfl d_M_plan_39 ?_
  refine lv_iload_n K.hx K.hb d_M_plan_42 rfl (lv_at hl 0 rfl) ?_
  refine lv_iconst (v := 0) K.hx K.hb d_M_plan_43 (by decide) ?_
  refine g_iast K.1 hP hS (19) (by decide) (fun _ => rfl) 0 rfl (1) rfl (by decide) (by decide) d_M_plan_44 (fun H l1 hP hS => ?_)
  refine lv_iinc (v := 2) (lv' := [(1, .int 2), (0, .ref (ad 0))]) K.hx K.hb d_M_plan_45 hl (k := 0) rfl (by decide) (by decide) rfl (fun ls hl => ?_)
  refine lv_goto (tgt := 32) K.hx K.hb d_M_plan_48 (by decide) ?_
  refine lv_iload_n K.hx K.hb d_M_plan_32 rfl (lv_at hl 0 rfl) ?_
  refine lv_bipush (v := 8) K.hx K.hb d_M_plan_33 (by decide) ?_
  refine lv_icmp_ge (tgt := 51) K.hx K.hb d_M_plan_35 (by decide) (fun c_35_6 => (show False from by revert c_35_6; decide).elim) (fun _ => ?_)
  refine lv_aload_n K.hx K.hb d_M_plan_38 rfl (lv_at hl 1 rfl) ?_
  refine g_get K.1 hP (0) (by decide) rfl rfl i_M 28 (by decide) rfl (Or.inl kw_662) rfl d_M_plan_39 ?_
  refine lv_iload_n K.hx K.hb d_M_plan_42 rfl (lv_at hl 0 rfl) ?_
  refine lv_iconst (v := 0) K.hx K.hb d_M_plan_43 (by decide) ?_
  refine g_iast K.1 hP hS (19) (by decide) (fun _ => rfl) 0 rfl (2) rfl (by decide) (by decide) d_M_plan_44 (fun H l1 hP hS => ?_)
  refine lv_iinc (v := 3) (lv' := [(1, .int 3), (0, .ref (ad 0))]) K.hx K.hb d_M_plan_45 hl (k := 0) rfl (by decide) (by decide) rfl (fun ls hl => ?_)
  refine lv_goto (tgt := 32) K.hx K.hb d_M_plan_48 (by decide) ?_
  refine lv_iload_n K.hx K.hb d_M_plan_32 rfl (lv_at hl 0 rfl) ?_
  refine lv_bipush (v := 8) K.hx K.hb d_M_plan_33 (by decide) ?_
  refine lv_icmp_ge (tgt := 51) K.hx K.hb d_M_plan_35 (by decide) (fun c_35_7 => (show False from by revert c_35_7; decide).elim) (fun _ => ?_)
  refine lv_aload_n K.hx K.hb d_M_plan_38 rfl (lv_at hl 1 rfl) ?_
  refine g_get K.1 hP (0) (by decide) rfl rfl i_M 28 (by decide) rfl (Or.inl kw_662) rfl d_M_plan_39 ?_
  refine lv_iload_n K.hx K.hb d_M_plan_42 rfl (lv_at hl 0 rfl) ?_
  refine lv_iconst (v := 0) K.hx K.hb d_M_plan_43 (by decide) ?_
  refine g_iast K.1 hP hS (19) (by decide) (fun _ => rfl) 0 rfl (3) rfl (by decide) (by decide) d_M_plan_44 (fun H l1 hP hS => ?_)
  refine lv_iinc (v := 4) (lv' := [(1, .int 4), (0, .ref (ad 0))]) K.hx K.hb d_M_plan_45 hl (k := 0) rfl (by decide) (by decide) rfl (fun ls hl => ?_)
  refine lv_goto (tgt := 32) K.hx K.hb d_M_plan_48 (by decide) ?_
  refine lv_iload_n K.hx K.hb d_M_plan_32 rfl (lv_at hl 0 rfl) ?_
  refine lv_bipush (v := 8) K.hx K.hb d_M_plan_33 (by decide) ?_
  refine lv_icmp_ge (tgt := 51) K.hx K.hb d_M_plan_35 (by decide) (fun c_35_8 => (show False from by revert c_35_8; decide).elim) (fun _ => ?_)
  refine lv_aload_n K.hx K.hb d_M_plan_38 rfl (lv_at hl 1 rfl) ?_
  refine g_get K.1 hP (0) (by decide) rfl rfl i_M 28 (by decide) rfl (Or.inl kw_662) rfl d_M_plan_39 ?_
  refine lv_iload_n K.hx K.hb d_M_plan_42 rfl (lv_at hl 0 rfl) ?_
  refine lv_iconst (v := 0) K.hx K.hb d_M_plan_43 (by decide) ?_
  refine g_iast K.1 hP hS (19) (by decide) (fun _ => rfl) 0 rfl (4) rfl (by decide) (by decide) d_M_plan_44 (fun H l1 hP hS => ?_)
  refine lv_iinc (v := 5) (lv' := [(1, .int 5), (0, .ref (ad 0))]) K.hx K.hb d_M_plan_45 hl (k := 0) rfl (by decide) (by decide) rfl (fun ls hl => ?_)
  refine lv_goto (tgt := 32) K.hx K.hb d_M_plan_48 (by decide) ?_
  refine lv_iload_n K.hx K.hb d_M_plan_32 rfl (lv_at hl 0 rfl) ?_
  refine lv_bipush (v := 8) K.hx K.hb d_M_plan_33 (by decide) ?_
  refine lv_icmp_ge (tgt := 51) K.hx K.hb d_M_plan_35 (by decide) (fun c_35_9 => (show False from by revert c_35_9; decide).elim) (fun _ => ?_)
  refine lv_aload_n K.hx K.hb d_M_plan_38 rfl (lv_at hl 1 rfl) ?_
  refine g_get K.1 hP (0) (by decide) rfl rfl i_M 28 (by decide) rfl (Or.inl kw_662) rfl d_M_plan_39 ?_
  refine lv_iload_n K.hx K.hb d_M_plan_42 rfl (lv_at hl 0 rfl) ?_
  refine lv_iconst (v := 0) K.hx K.hb d_M_plan_43 (by decide) ?_
  refine g_iast K.1 hP hS (19) (by decide) (fun _ => rfl) 0 rfl (5) rfl (by decide) (by decide) d_M_plan_44 (fun H l1 hP hS => ?_)
  refine lv_iinc (v := 6) (lv' := [(1, .int 6), (0, .ref (ad 0))]) K.hx K.hb d_M_plan_45 hl (k := 0) rfl (by decide) (by decide) rfl (fun ls hl => ?_)
  refine lv_goto (tgt := 32) K.hx K.hb d_M_plan_48 (by decide) ?_
  refine lv_iload_n K.hx K.hb d_M_plan_32 rfl (lv_at hl 0 rfl) ?_
  refine lv_bipush (v := 8) K.hx K.hb d_M_plan_33 (by decide) ?_
  refine lv_icmp_ge (tgt := 51) K.hx K.hb d_M_plan_35 (by decide) (fun c_35_10 => (show False from by revert c_35_10; decide).elim) (fun _ => ?_)
  refine lv_aload_n K.hx K.hb d_M_plan_38 rfl (lv_at hl 1 rfl) ?_
  refine g_get K.1 hP (0) (by decide) rfl rfl i_M 28 (by decide) rfl (Or.inl kw_662) rfl d_M_plan_39 ?_
  refine lv_iload_n K.hx K.hb d_M_plan_42 rfl (lv_at hl 0 rfl) ?_
  refine lv_iconst (v := 0) K.hx K.hb d_M_plan_43 (by decide) ?_
  refine g_iast K.1 hP hS (19) (by decide) (fun _ => rfl) 0 rfl (6) rfl (by decide) (by decide) d_M_plan_44 (fun H l1 hP hS => ?_)
  refine lv_iinc (v := 7) (lv' := [(1, .int 7), (0, .ref (ad 0))]) K.hx K.hb d_M_plan_45 hl (k := 0) rfl (by decide) (by decide) rfl (fun ls hl => ?_)
  refine lv_goto (tgt := 32) K.hx K.hb d_M_plan_48 (by decide) ?_
  refine lv_iload_n K.hx K.hb d_M_plan_32 rfl (lv_at hl 0 rfl) ?_
  refine lv_bipush (v := 8) K.hx K.hb d_M_plan_33 (by decide) ?_
  refine lv_icmp_ge (tgt := 51) K.hx K.hb d_M_plan_35 (by decide) (fun c_35_11 => (show False from by revert c_35_11; decide).elim) (fun _ => ?_)
  refine lv_aload_n K.hx K.hb d_M_plan_38 rfl (lv_at hl 1 rfl) ?_
  refine g_get K.1 hP (0) (by decide) rfl rfl i_M 28 (by decide) rfl (Or.inl kw_662) rfl d_M_plan_39 ?_
  refine lv_iload_n K.hx K.hb d_M_plan_42 rfl (lv_at hl 0 rfl) ?_
  refine lv_iconst (v := 0) K.hx K.hb d_M_plan_43 (by decide) ?_
  refine g_iast K.1 hP hS (19) (by decide) (fun _ => rfl) 0 rfl (7) rfl (by decide) (by decide) d_M_plan_44 (fun H l1 hP hS => ?_)
  refine lv_iinc (v := 8) (lv' := [(1, .int 8), (0, .ref (ad 0))]) K.hx K.hb d_M_plan_45 hl (k := 0) rfl (by decide) (by decide) rfl (fun ls hl => ?_)
  refine lv_goto (tgt := 32) K.hx K.hb d_M_plan_48 (by decide) ?_
  refine lv_iload_n K.hx K.hb d_M_plan_32 rfl (lv_at hl 0 rfl) ?_
  refine lv_bipush (v := 8) K.hx K.hb d_M_plan_33 (by decide) ?_
  refine lv_icmp_ge (tgt := 51) K.hx K.hb d_M_plan_35 (by decide) (fun _ => ?_) (fun c_35_12 => (show False from by revert c_35_12; decide).elim)
  refine lv_aload_n K.hx K.hb d_M_plan_51 rfl (lv_at hl 1 rfl) ?_
  refine g_get K.1 hP (0) (by decide) rfl rfl i_M 29 (by decide) rfl (Or.inl kw_663) rfl d_M_plan_52 ?_
  refine lv_iconst (v := 0) K.hx K.hb d_M_plan_55 (by decide) ?_
  refine lv_iconst (v := 0) K.hx K.hb d_M_plan_56 (by decide) ?_
  refine g_iast K.1 hP hS (20) (by decide) (fun _ => rfl) 0 rfl (0) rfl (by decide) (by decide) d_M_plan_57 (fun H l1 hP hS => ?_)
  refine lv_aload_n K.hx K.hb d_M_plan_58 rfl (lv_at hl 1 rfl) ?_
  refine g_get K.1 hP (0) (by decide) rfl rfl i_M 30 (by decide) rfl (Or.inl kw_664) rfl d_M_plan_59 ?_
  refine lv_iconst (v := 0) K.hx K.hb d_M_plan_62 (by decide) ?_
  refine lv_iconst (v := 0) K.hx K.hb d_M_plan_63 (by decide) ?_
  refine g_iast K.1 hP hS (21) (by decide) (fun _ => rfl) 0 rfl (0) rfl (by decide) (by decide) d_M_plan_64 (fun H l1 hP hS => ?_)
  refine lv_aload_n K.hx K.hb d_M_plan_65 rfl (lv_at hl 1 rfl) ?_
  refine g_get K.1 hP (0) (by decide) rfl rfl i_M 8 (by decide) rfl (Or.inl kw_642) rfl d_M_plan_66 ?_
  refine lv_topE (y := (v 0 8)) (by first | (simp [u2_at, kpM]; done) | (simp [u2_at, kpM] <;> (intros; omega)) | (simp only [u2_at, kpM]; (repeat' split) <;> first | rfl | (exfalso; omega))) ?_
  refine lv_topE (y := nI gc) h8 ?_
  refine lv_aload_n K.hx K.hb d_M_plan_69 rfl (lv_at hl 1 rfl) ?_
  refine g_get K.1 hP (0) (by decide) rfl rfl i_M 11 (by decide) rfl (Or.inl kw_645) rfl d_M_plan_70 ?_
  refine lv_topE (y := (v 0 11)) (by first | (simp [u2_at, kpM]; done) | (simp [u2_at, kpM] <;> (intros; omega)) | (simp only [u2_at, kpM]; (repeat' split) <;> first | rfl | (exfalso; omega))) ?_
  refine lv_topE (y := nI pc) h11 ?_
  refine lv_imul K.hx K.hb d_M_plan_73 ?_
  refine lv_topE (y := nI (gc * pc)) (pk_mul _ _) ?_
  refine lv_istore_n (lv' := [(1, .int (nI (gc * pc))), (0, .ref (ad 0))]) K.hx K.hb d_M_plan_74 rfl hl (by decide) rfl (fun ls hl => ?_)
  refine lv_iconst (v := 0) K.hx K.hb d_M_plan_75 (by decide) ?_
  refine lv_istore_n (lv' := [(2, .int 0), (1, .int (nI (gc * pc))), (0, .ref (ad 0))]) K.hx K.hb d_M_plan_76 rfl hl (by decide) rfl (fun ls hl => ?_)
  have hP : va_P D classes (wv 23 ad (fun k => eM cs ad sd k (pz v k))) _ := hP
  refine dfs K hD hg6 hp4 hr5 rc 0 (by omega) (pz v) b0 0 [] none (pz_SI hM) (fun _ => by unfold pz; rw [u2_eq]; rfl) (fun u hKM hLO hBQ => ?_) _ _ ls hP hS (lv_sub hl [2, 1, 0] rfl)
  refine pl_out K (fun H l1 ls hP hS hl => ?_)
  refine lv_iconst (v := 0) K.hx K.hb d_M_plan_283 (by decide) ?_
  refine lv_istore_n (lv' := [(3, .int 0), (0, .ref (ad 0))]) K.hx K.hb d_M_plan_284 rfl hl (by decide) rfl (fun ls hl => ?_)
  refine lv_iconst (v := 0) K.hx K.hb d_M_plan_285 (by decide) ?_
  refine lv_istore (lv' := [(4, .int 0), (3, .int 0), (0, .ref (ad 0))]) K.hx K.hb d_M_plan_286 hl (by decide) rfl (fun ls hl => ?_)
  have hMu : MR u d gc pc rc := (pz_SI hM).1.of hKM
  refine pl_cnt K hMu.2.2.2.2.2.2.2 hr5 (fun H l1 ls hP hS hl => ?_) (rc + 1) 0 (by omega) (by omega) _ _ ls hP hS (lv_sub hl [2, 1, 0] rfl)
  refine lv_iload_n K.hx K.hb d_M_plan_316 rfl (lv_at hl 0 rfl) ?_
  exact de_i K hP hS ⟨rfl, fun a j h1 h2 => (hKM a j h1 h2).trans (by rw [pz_row (by omega), u2_at, if_neg (by omega)]), by rw [Nat.zero_add] at hBQ; exact hBQ, rfl⟩ (Nat.le_of_ble_eq_true rfl) (Nat.le_of_ble_eq_true rfl) d_M_plan_317
/-! entries of the best plan -/
def wfE (gc pc : Nat) (e : Nat × Int32) : Prop := e.2 = -1 ∨ ∃ x, x ≤ 168 ∧ e.2 = nI x ∧ e.1 < gc * pc
theorem bs_wf {d : Nat → Nat → Nat} {gc pc rc : Nat} (hD : DB d gc pc rc) : ∀ f i b, i + f ≤ rc → (bs d gc pc f i b).2.length = f ∧ ∀ e ∈ (bs d gc pc f i b).2, wfE gc pc e
  | 0, _, _, _ => ⟨rfl, fun e he => absurd he (by simp [bs])⟩
  | f + 1, i, b, h => by
    obtain ⟨c, o, hh, b', q1, q2, q3, -, -⟩ := bs_spec d gc pc f i b
    obtain ⟨r1, r2⟩ := bs_wf hD f (i + 1) b' (by omega)
    rw [q3]
    refine ⟨by show (bs d gc pc f (i + 1) b').2.length + 1 = f + 1; rw [r1], fun e he => ?_⟩
    rcases List.mem_cons.mp he with rfl | he
    · unfold wy at q2
      by_cases hc : c = gc * pc
      · rw [if_pos hc] at q2
        injection q2 with q2
        injection q2 with s1 s2
        injection s2 with s2 s3
        exact Or.inl s2.symm
      · rw [if_neg hc] at q2
        by_cases ho : okN d b i (c / pc) (c % pc)
        · rw [if_pos ho] at q2
          injection q2 with q2
          injection q2 with s1 s2
          injection s2 with s2 s3
          have hlt : c < gc * pc := Nat.lt_of_le_of_ne q1 hc
          have hg : c / pc < gc := Nat.div_lt_of_lt_mul (by rw [Nat.mul_comm]; exact hlt)
          have hbd := ok_bd hD hg ho
          exact Or.inr ⟨_, by omega, s2.symm, hlt⟩
        · rw [if_neg ho] at q2
          exact absurd q2 (by simp)
    · exact r2 e he
theorem wf_lt {gc pc : Nat} {e : Nat × Int32} (h : wfE gc pc e) : e.2 < 0 ↔ e.2 = -1 := by
  rcases h with h | ⟨x, x1, x2, -⟩
  · rw [h]; decide
  · rw [x2]
    exact ⟨fun q => absurd q (nI_pos (by omega)), fun q => absurd q (nI_m1 (by omega))⟩
/-- the entry of the plan at a place -/
theorem ME_at {u : Nat → Nat → Int32} : ∀ (L : List (Nat × Int32)) n, ME u n L → ∀ k (h : k < L.length), u 16 (n + k) = (L[k]'h).2 ∧ u 17 (n + k) = nI (L[k]'h).1
  | [], _, _, k, h => absurd h (by simp)
  | e :: L, n, hm, 0, h => hm.1
  | e :: L, n, hm, k + 1, h => by
    have := ME_at L (n + 1) hm.2 k (by simpa using h)
    rw [show n + 1 + k = n + (k + 1) by omega] at this
    exact this
theorem PE_at {pc : Nat} {v : Nat → Nat → Int32} : ∀ (L : List (Nat × Int32)) n, PE pc v n L → ∀ k (h : k < L.length), v (33 + (n + k)) 4 = (L[k]'h).2 ∧ v (33 + (n + k)) 5 = (if (L[k]'h).2 = -1 then -1 else nI ((L[k]'h).1 % pc)) ∧ v (33 + (n + k)) 6 = (if (L[k]'h).2 = -1 then -1 else nI ((L[k]'h).1 / pc))
  | [], _, _, k, h => absurd h (by simp)
  | e :: L, n, hm, 0, h => hm.1
  | e :: L, n, hm, k + 1, h => by
    have := PE_at L (n + 1) hm.2 k (by simpa using h)
    rw [show n + 1 + k = n + (k + 1) by omega] at this
    exact this
theorem cn_off (u : Nat → Nat → Int32) (n : Nat) (gc pc : Nat) : ∀ (L : List (Nat × Int32)), ME u n L → (∀ e ∈ L, wfE gc pc e) → ∀ x, cnM u n = x → cnM u (n + L.length) = x + nI (pcn L) := by
  intro L
  induction L generalizing n with
  | nil =>
    intro _ _ x hx
    show cnM u n = x + 0
    rw [Int32.add_zero]; exact hx
  | cons e L ih =>
    intro hm hw x hx
    have he := hw e (by simp)
    have h16 : u 16 n = e.2 := hm.1.1
    have hs : cnM u (n + 1) = if u 16 n < 0 then cnM u n else cnM u n + 1 := rfl
    rw [show n + (e :: L).length = n + 1 + L.length by simp; omega]
    by_cases hz : e.2 = -1
    · have h1 : cnM u (n + 1) = x := by rw [hs, h16, if_pos ((wf_lt he).mpr hz)]; exact hx
      rw [ih (n + 1) hm.2 (fun e' he' => hw e' (by simp [he'])) x h1]
      show _ = x + nI (if e.2 = -1 then pcn L else pcn L + 1)
      rw [if_pos hz]
    · have h1 : cnM u (n + 1) = x + 1 := by rw [hs, h16, if_neg (fun q => hz ((wf_lt he).mp q)), hx]
      rw [ih (n + 1) hm.2 (fun e' he' => hw e' (by simp [he'])) (x + 1) h1]
      show _ = x + nI (if e.2 = -1 then pcn L else pcn L + 1)
      rw [if_neg hz]
      exact nI_a1 _ _
theorem cn_eq {u : Nat → Nat → Int32} {gc pc rc : Nat} {L : List (Nat × Int32)} (h : ME u 0 L) (hw : ∀ e ∈ L, wfE gc pc e) (hl : L.length = rc) : cnM u rc = nI (pcn L) := by
  have := cn_off u 0 gc pc L h hw 0 rfl
  rw [hl, Nat.zero_add, Int32.zero_add] at this
  exact this
