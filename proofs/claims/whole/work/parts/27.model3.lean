/-! the reference's search: its steps -/
def ltZ (x y : Int32) : Int32 := if x ≤ y then y else x
def bgH (v : Nat → Nat → Int32) (i g q t : Nat) : Int32 := ltZ (ltZ (v 6 g) (v 9 q)) (ltZ (v 18 (4 * i + q)) (v 19 (8 * i + t)))
def begM (v : Nat → Nat → Int32) (i g q t : Nat) : Int32 := if v 8 q = v 13 i then (if v 7 g < bgH v i g q t + v 12 i then -1 else if v 10 q < bgH v i g q t + v 12 i then -1 else bgH v i g q t) else -1
set_option maxHeartbeats 4000000 in
set_option maxRecDepth 100000 in
theorem c_M_begins (l : Launch) (D : va_G) (cs : Nat → ClassId) (ad : Nat → Nat) (v : Nat → Nat → Int32) (sd : Int64) {i g q t : Nat} (hi : i < 5) (hg : g < 6) (hq : q < 4) (ht : t < 8) (ht0 : v 11 i = nI t)  : Dm l y_M_begins b_M_begins 5 (some .int) (rmx 1 0) [.ref (ad 0), .int (nI i), .int (nI g), .int (nI q)] D cs ad v sd (fun r v' sd' => r = some (.int (begM v i g q t)) ∧ v = v' ∧ sd = sd') (fun cls => False) := by
  refine dw_enter (own := "WearHoursModel") rfl (Nat.le_of_ble_eq_true rfl) ?_
  intro p e s m below meth c ls K hS hP hl
  have hl : lv_has ls 5 [(0, .ref (ad 0)), (1, .int (nI i)), (2, .int (nI g)), (3, .int (nI q))] := hl
  refine lv_aload_n K.hx K.hb d_M_begins_0 rfl (lv_at hl 0 rfl) ?_
  refine g_get K.1 hP (0) (by decide) rfl rfl i_M 12 (by decide) rfl (Or.inl kw_646) rfl d_M_begins_1 ?_
  refine lv_iload_n K.hx K.hb d_M_begins_4 rfl (lv_at hl 3 rfl) ?_
  refine g_iald K.1 hP (8) (by decide) rfl 0 rfl (q) rfl (by omega) (by decide) d_M_begins_5 ?_
  refine lv_aload_n K.hx K.hb d_M_begins_6 rfl (lv_at hl 0 rfl) ?_
  refine g_get K.1 hP (0) (by decide) rfl rfl i_M 18 (by decide) rfl (Or.inl kw_652) rfl d_M_begins_7 ?_
  refine lv_iload_n K.hx K.hb d_M_begins_10 rfl (lv_at hl 1 rfl) ?_
  refine g_iald K.1 hP (13) (by decide) rfl 0 rfl (i) rfl (by omega) (by decide) d_M_begins_11 ?_
  refine lv_icmp_eq (tgt := 17) K.hx K.hb d_M_begins_12 (by decide) (fun c_12 => ?_) (fun c_12 => ?_)
  · refine lv_aload_n K.hx K.hb d_M_begins_17 rfl (lv_at hl 0 rfl) ?_
    refine g_get K.1 hP (0) (by decide) rfl rfl i_M 9 (by decide) rfl (Or.inl kw_643) rfl d_M_begins_18 ?_
    refine lv_iload_n K.hx K.hb d_M_begins_21 rfl (lv_at hl 2 rfl) ?_
    refine g_iald K.1 hP (6) (by decide) rfl 0 rfl (g) rfl (by omega) (by decide) d_M_begins_22 ?_
    refine lv_aload_n K.hx K.hb d_M_begins_23 rfl (lv_at hl 0 rfl) ?_
    refine g_get K.1 hP (0) (by decide) rfl rfl i_M 13 (by decide) rfl (Or.inl kw_647) rfl d_M_begins_24 ?_
    refine lv_iload_n K.hx K.hb d_M_begins_27 rfl (lv_at hl 3 rfl) ?_
    refine g_iald K.1 hP (9) (by decide) rfl 0 rfl (q) rfl (by omega) (by decide) d_M_begins_28 ?_
    refine dd_S K hP hS (c_M_later l D cs ad _ _ (v 6 g) (v 9 q)) kw_825 xm_M_later kw_823 kw_824 kw_29 rfl hl.1 d_M_begins_29 (Nat.le_of_ble_eq_true rfl) (Nat.le_of_ble_eq_true rfl) ⟨(Nat.le_of_ble_eq_true rfl), (Nat.le_of_ble_eq_true rfl)⟩ (fun r v1 sd1 H l1 hp hP hS => ?_)
    obtain ⟨rfl, rfl, rfl⟩ := hp
    refine lv_aload_n K.hx K.hb d_M_begins_32 rfl (lv_at hl 0 rfl) ?_
    refine g_get K.1 hP (0) (by decide) rfl rfl i_M 27 (by decide) rfl (Or.inl kw_661) rfl d_M_begins_33 ?_
    refine lv_iconst (v := 4) K.hx K.hb d_M_begins_36 (by decide) ?_
    refine lv_iload_n K.hx K.hb d_M_begins_37 rfl (lv_at hl 1 rfl) ?_
    refine lv_imul K.hx K.hb d_M_begins_38 ?_
    refine lv_topE (y := nI (4 * i)) (pk_mul _ _) ?_
    refine lv_iload_n K.hx K.hb d_M_begins_39 rfl (lv_at hl 3 rfl) ?_
    refine lv_iadd K.hx K.hb d_M_begins_40 ?_
    refine lv_topE (y := nI (4 * i + q)) (nI_add _ _) ?_
    refine g_iald K.1 hP (18) (by decide) rfl 0 rfl (4 * i + q) rfl (by omega) (by decide) d_M_begins_41 ?_
    refine lv_aload_n K.hx K.hb d_M_begins_42 rfl (lv_at hl 0 rfl) ?_
    refine g_get K.1 hP (0) (by decide) rfl rfl i_M 28 (by decide) rfl (Or.inl kw_662) rfl d_M_begins_43 ?_
    refine lv_bipush (v := 8) K.hx K.hb d_M_begins_46 (by decide) ?_
    refine lv_iload_n K.hx K.hb d_M_begins_48 rfl (lv_at hl 1 rfl) ?_
    refine lv_imul K.hx K.hb d_M_begins_49 ?_
    refine lv_topE (y := nI (8 * i)) (pk_mul _ _) ?_
    refine lv_aload_n K.hx K.hb d_M_begins_50 rfl (lv_at hl 0 rfl) ?_
    refine g_get K.1 hP (0) (by decide) rfl rfl i_M 16 (by decide) rfl (Or.inl kw_650) rfl d_M_begins_51 ?_
    refine lv_iload_n K.hx K.hb d_M_begins_54 rfl (lv_at hl 1 rfl) ?_
    refine g_iald K.1 hP (11) (by decide) rfl 0 rfl (i) rfl (by omega) (by decide) d_M_begins_55 ?_
    refine lv_topE (y := nI t) ht0 ?_
    refine lv_iadd K.hx K.hb d_M_begins_56 ?_
    refine lv_topE (y := nI (8 * i + t)) (nI_add _ _) ?_
    refine g_iald K.1 hP (19) (by decide) rfl 0 rfl (8 * i + t) rfl (by omega) (by decide) d_M_begins_57 ?_
    refine dd_S K hP hS (c_M_later l D cs ad _ _ (v 18 (4 * i + q)) (v 19 (8 * i + t))) kw_825 xm_M_later kw_823 kw_824 kw_29 rfl hl.1 d_M_begins_58 (Nat.le_of_ble_eq_true rfl) (Nat.le_of_ble_eq_true rfl) ⟨(Nat.le_of_ble_eq_true rfl), (Nat.le_of_ble_eq_true rfl)⟩ (fun r v1 sd1 H l1 hp hP hS => ?_)
    obtain ⟨rfl, rfl, rfl⟩ := hp
    refine dd_S K hP hS (c_M_later l D cs ad _ _ (if (v 6 g) ≤ (v 9 q) then (v 9 q) else (v 6 g)) (if (v 18 (4 * i + q)) ≤ (v 19 (8 * i + t)) then (v 19 (8 * i + t)) else (v 18 (4 * i + q)))) kw_825 xm_M_later kw_823 kw_824 kw_29 rfl hl.1 d_M_begins_61 (Nat.le_of_ble_eq_true rfl) (Nat.le_of_ble_eq_true rfl) ⟨(Nat.le_of_ble_eq_true rfl), (Nat.le_of_ble_eq_true rfl)⟩ (fun r v1 sd1 H l1 hp hP hS => ?_)
    obtain ⟨rfl, rfl, rfl⟩ := hp
    refine lv_topi (fun z1 ez1 => ?_)
    refine lv_istore (lv' := [(4, .int z1), (0, .ref (ad 0)), (1, .int (nI i)), (2, .int (nI g)), (3, .int (nI q))]) K.hx K.hb d_M_begins_64 hl (by decide) rfl (fun ls hl => ?_)
    refine lv_iload K.hx K.hb d_M_begins_66 (lv_at hl 0 rfl) ?_
    refine lv_aload_n K.hx K.hb d_M_begins_68 rfl (lv_at hl 1 rfl) ?_
    refine g_get K.1 hP (0) (by decide) rfl rfl i_M 17 (by decide) rfl (Or.inl kw_651) rfl d_M_begins_69 ?_
    refine lv_iload_n K.hx K.hb d_M_begins_72 rfl (lv_at hl 2 rfl) ?_
    refine g_iald K.1 hP (12) (by decide) rfl 0 rfl (i) rfl (by omega) (by decide) d_M_begins_73 ?_
    refine lv_iadd K.hx K.hb d_M_begins_74 ?_
    refine lv_aload_n K.hx K.hb d_M_begins_75 rfl (lv_at hl 1 rfl) ?_
    refine g_get K.1 hP (0) (by decide) rfl rfl i_M 10 (by decide) rfl (Or.inl kw_644) rfl d_M_begins_76 ?_
    refine lv_iload_n K.hx K.hb d_M_begins_79 rfl (lv_at hl 3 rfl) ?_
    refine g_iald K.1 hP (7) (by decide) rfl 0 rfl (g) rfl (by omega) (by decide) d_M_begins_80 ?_
    refine lv_icmp_gt (tgt := 107) K.hx K.hb d_M_begins_81 (by decide) (fun c_81 => ?_) (fun c_81 => ?_)
    · refine lv_iconst (v := (-1)) K.hx K.hb d_M_begins_107 (by decide) ?_
      exact de_i K hP hS ⟨by rw [show begM v i g q t = (-1) from by subst ez1; exact (if_pos c_12).trans (if_pos c_81)], rfl, rfl⟩ (Nat.le_of_ble_eq_true rfl) (Nat.le_of_ble_eq_true rfl) d_M_begins_108
    · refine lv_iload K.hx K.hb d_M_begins_84 (lv_at hl 0 rfl) ?_
      refine lv_aload_n K.hx K.hb d_M_begins_86 rfl (lv_at hl 1 rfl) ?_
      refine g_get K.1 hP (0) (by decide) rfl rfl i_M 17 (by decide) rfl (Or.inl kw_651) rfl d_M_begins_87 ?_
      refine lv_iload_n K.hx K.hb d_M_begins_90 rfl (lv_at hl 2 rfl) ?_
      refine g_iald K.1 hP (12) (by decide) rfl 0 rfl (i) rfl (by omega) (by decide) d_M_begins_91 ?_
      refine lv_iadd K.hx K.hb d_M_begins_92 ?_
      refine lv_aload_n K.hx K.hb d_M_begins_93 rfl (lv_at hl 1 rfl) ?_
      refine g_get K.1 hP (0) (by decide) rfl rfl i_M 14 (by decide) rfl (Or.inl kw_648) rfl d_M_begins_94 ?_
      refine lv_iload_n K.hx K.hb d_M_begins_97 rfl (lv_at hl 4 rfl) ?_
      refine g_iald K.1 hP (10) (by decide) rfl 0 rfl (q) rfl (by omega) (by decide) d_M_begins_98 ?_
      refine lv_icmp_gt (tgt := 107) K.hx K.hb d_M_begins_99 (by decide) (fun c_99 => ?_) (fun c_99 => ?_)
      · refine lv_iconst (v := (-1)) K.hx K.hb d_M_begins_107 (by decide) ?_
        exact de_i K hP hS ⟨by rw [show begM v i g q t = (-1) from by subst ez1; exact (if_pos c_12).trans ((if_neg c_81).trans (if_pos c_99))], rfl, rfl⟩ (Nat.le_of_ble_eq_true rfl) (Nat.le_of_ble_eq_true rfl) d_M_begins_108
      · refine lv_iload K.hx K.hb d_M_begins_102 (lv_at hl 0 rfl) ?_
        refine lv_goto (tgt := 108) K.hx K.hb d_M_begins_104 (by decide) ?_
        exact de_i K hP hS ⟨by rw [show begM v i g q t = z1 from by subst ez1; exact (if_pos c_12).trans ((if_neg c_81).trans (if_neg c_99))], rfl, rfl⟩ (Nat.le_of_ble_eq_true rfl) (Nat.le_of_ble_eq_true rfl) d_M_begins_108
  · refine lv_iconst (v := (-1)) K.hx K.hb d_M_begins_15 (by decide) ?_
    exact de_i K hP hS ⟨by rw [show begM v i g q t = -1 from if_neg c_12], rfl, rfl⟩ (Nat.le_of_ble_eq_true rfl) (Nat.le_of_ble_eq_true rfl) d_M_begins_16
def cpM (v : Nat → Nat → Int32) (i : Nat) : Nat → Nat → Int32 := fun k j => if k = 18 ∧ 4 * (i + 1) ≤ j ∧ j < 4 * (i + 1) + 4 then v 18 (j - 4) else if k = 19 ∧ 8 * (i + 1) ≤ j ∧ j < 8 * (i + 1) + 8 then v 19 (j - 8) else v k j
set_option maxHeartbeats 4000000 in
theorem cpM_eq (v : Nat → Nat → Int32) (i : Nat) : u2 (u2 (u2 (u2 (u2 (u2 (u2 (u2 (u2 (u2 (u2 (u2 v 18 (4 * (i + 1) + 0) (v 18 (4 * i + 0))) 18 (4 * (i + 1) + 1) (v 18 (4 * i + 1))) 18 (4 * (i + 1) + 2) (v 18 (4 * i + 2))) 18 (4 * (i + 1) + 3) (v 18 (4 * i + 3))) 19 (8 * (i + 1) + 0) (v 19 (8 * i + 0))) 19 (8 * (i + 1) + 1) (v 19 (8 * i + 1))) 19 (8 * (i + 1) + 2) (v 19 (8 * i + 2))) 19 (8 * (i + 1) + 3) (v 19 (8 * i + 3))) 19 (8 * (i + 1) + 4) (v 19 (8 * i + 4))) 19 (8 * (i + 1) + 5) (v 19 (8 * i + 5))) 19 (8 * (i + 1) + 6) (v 19 (8 * i + 6))) 19 (8 * (i + 1) + 7) (v 19 (8 * i + 7)) = cpM v i := by
  funext k j
  simp only [u2_at, cpM]
  by_cases h1 : k = 18
  · subst h1
    by_cases h2 : 4 * (i + 1) ≤ j ∧ j < 4 * (i + 1) + 4
    · rw [if_pos (show (18 : Nat) = 18 ∧ 4 * (i + 1) ≤ j ∧ j < 4 * (i + 1) + 4 from ⟨rfl, h2⟩)]
      rcases (show j = 4 * (i + 1) + 0 ∨ j = 4 * (i + 1) + 1 ∨ j = 4 * (i + 1) + 2 ∨ j = 4 * (i + 1) + 3 by omega) with rfl | rfl | rfl | rfl
      · rw [show 4 * (i + 1) + 0 - 4 = 4 * i + 0 by omega]; simp
      · rw [show 4 * (i + 1) + 1 - 4 = 4 * i + 1 by omega]; simp
      · rw [show 4 * (i + 1) + 2 - 4 = 4 * i + 2 by omega]; simp
      · rw [show 4 * (i + 1) + 3 - 4 = 4 * i + 3 by omega]; simp
    · rw [if_neg (show ¬ ((18 : Nat) = 18 ∧ 4 * (i + 1) ≤ j ∧ j < 4 * (i + 1) + 4) from fun q => h2 q.2)]
      rw [if_neg (by omega), if_neg (by omega), if_neg (by omega), if_neg (by omega), if_neg (by omega), if_neg (by omega), if_neg (by omega), if_neg (by omega), if_neg (by omega), if_neg (by omega), if_neg (by omega), if_neg (by omega), if_neg (by omega)]
  · by_cases h3 : k = 19
    · subst h3
      rw [if_neg (show ¬ ((19 : Nat) = 18 ∧ 4 * (i + 1) ≤ j ∧ j < 4 * (i + 1) + 4) from fun q => absurd q.1 (by decide))]
      by_cases h2 : 8 * (i + 1) ≤ j ∧ j < 8 * (i + 1) + 8
      · rw [if_pos (show (19 : Nat) = 19 ∧ 8 * (i + 1) ≤ j ∧ j < 8 * (i + 1) + 8 from ⟨rfl, h2⟩)]
        rcases (show j = 8 * (i + 1) + 0 ∨ j = 8 * (i + 1) + 1 ∨ j = 8 * (i + 1) + 2 ∨ j = 8 * (i + 1) + 3 ∨ j = 8 * (i + 1) + 4 ∨ j = 8 * (i + 1) + 5 ∨ j = 8 * (i + 1) + 6 ∨ j = 8 * (i + 1) + 7 by omega) with rfl | rfl | rfl | rfl | rfl | rfl | rfl | rfl
        · rw [show 8 * (i + 1) + 0 - 8 = 8 * i + 0 by omega]; simp
        · rw [show 8 * (i + 1) + 1 - 8 = 8 * i + 1 by omega]; simp
        · rw [show 8 * (i + 1) + 2 - 8 = 8 * i + 2 by omega]; simp
        · rw [show 8 * (i + 1) + 3 - 8 = 8 * i + 3 by omega]; simp
        · rw [show 8 * (i + 1) + 4 - 8 = 8 * i + 4 by omega]; simp
        · rw [show 8 * (i + 1) + 5 - 8 = 8 * i + 5 by omega]; simp
        · rw [show 8 * (i + 1) + 6 - 8 = 8 * i + 6 by omega]; simp
        · rw [show 8 * (i + 1) + 7 - 8 = 8 * i + 7 by omega]; simp
      · rw [if_neg (show ¬ ((19 : Nat) = 19 ∧ 8 * (i + 1) ≤ j ∧ j < 8 * (i + 1) + 8) from fun q => h2 q.2)]
        rw [if_neg (by omega), if_neg (by omega), if_neg (by omega), if_neg (by omega), if_neg (by omega), if_neg (by omega), if_neg (by omega), if_neg (by omega), if_neg (by omega), if_neg (by omega), if_neg (by omega), if_neg (by omega)]
    · simp [h1, h3]
def tkM (v : Nat → Nat → Int32) (i c pc t : Nat) : Nat → Nat → Int32 := if 0 ≤ v 22 i then u2 (u2 (u2 (cpM v i) 20 (i + 1) (v 20 i + v 22 i * v 14 i)) 18 (4 * (i + 1) + c % pc) (v 22 i + v 12 i + v 0 20)) 19 (8 * (i + 1) + t) (v 22 i + v 12 i)
  else u2 (cpM v i) 20 (i + 1) (v 20 i + 168 * v 14 i + v 0 21)
set_option maxHeartbeats 4000000 in
set_option maxRecDepth 100000 in
theorem c_M_take (l : Launch) (D : va_G) (cs : Nat → ClassId) (ad : Nat → Nat) (v : Nat → Nat → Int32) (sd : Int64) {i t c_ pc : Nat} (hi : i < 5) (ht : t < 8) (ht0 : v 11 i = nI t) (hc : v 21 i = nI c_) (hcb : c_ < 1000) (hpc : v 0 11 = nI pc) (hp4 : pc ≤ 4) (hpp : 0 ≤ v 22 i → 0 < pc)  : Dm l y_M_take b_M_take 3 none (rmx 1 0) [.ref (ad 0), .int (nI i)] D cs ad v sd (fun r v' sd' => r = none ∧ tkM v i c_ pc t = v' ∧ sd = sd') (fun cls => False) := by
  refine dw_enter (own := "WearHoursModel") rfl (Nat.le_of_ble_eq_true rfl) ?_
  intro p e s m below meth c ls K hS hP hl
  have hl : lv_has ls 3 [(0, .ref (ad 0)), (1, .int (nI i))] := hl
  refine lv_iconst (v := 0) K.hx K.hb d_M_take_0 (by decide) ?_
  refine lv_istore_n (lv' := [(2, .int 0), (0, .ref (ad 0)), (1, .int (nI i))]) K.hx K.hb d_M_take_1 rfl hl (by decide) rfl (fun ls hl => ?_)
  refine lv_iload_n K.hx K.hb d_M_take_2 rfl (lv_at hl 0 rfl) ?_
  refine lv_iconst (v := 4) K.hx K.hb d_M_take_3 (by decide) ?_
  refine lv_icmp_ge (tgt := 35) K.hx K.hb d_M_take_4 (by decide) (fun c_4 => (show False from by revert c_4; decide).elim) (fun _ => ?_)
  refine lv_aload_n K.hx K.hb d_M_take_7 rfl (lv_at hl 1 rfl) ?_
  refine g_get K.1 hP (0) (by decide) rfl rfl i_M 27 (by decide) rfl (Or.inl kw_661) rfl d_M_take_8 ?_
  refine lv_iconst (v := 4) K.hx K.hb d_M_take_11 (by decide) ?_
  refine lv_iload_n K.hx K.hb d_M_take_12 rfl (lv_at hl 2 rfl) ?_
  refine lv_iconst (v := 1) K.hx K.hb d_M_take_13 (by decide) ?_
  refine lv_iadd K.hx K.hb d_M_take_14 ?_
  refine lv_topE (y := nI (i + 1)) (nI_add _ _) ?_
  refine lv_imul K.hx K.hb d_M_take_15 ?_
  refine lv_topE (y := nI (4 * (i + 1))) (pk_mul _ _) ?_
  refine lv_iload_n K.hx K.hb d_M_take_16 rfl (lv_at hl 0 rfl) ?_
  refine lv_iadd K.hx K.hb d_M_take_17 ?_
  refine lv_topE (y := nI ((4 * (i + 1)) + 0)) (nI_add _ _) ?_
  refine lv_aload_n K.hx K.hb d_M_take_18 rfl (lv_at hl 1 rfl) ?_
  refine g_get K.1 hP (0) (by decide) rfl rfl i_M 27 (by decide) rfl (Or.inl kw_661) rfl d_M_take_19 ?_
  refine lv_iconst (v := 4) K.hx K.hb d_M_take_22 (by decide) ?_
  refine lv_iload_n K.hx K.hb d_M_take_23 rfl (lv_at hl 2 rfl) ?_
  refine lv_imul K.hx K.hb d_M_take_24 ?_
  refine lv_topE (y := nI (4 * i)) (pk_mul _ _) ?_
  refine lv_iload_n K.hx K.hb d_M_take_25 rfl (lv_at hl 0 rfl) ?_
  refine lv_iadd K.hx K.hb d_M_take_26 ?_
  refine lv_topE (y := nI (4 * i + 0)) (nI_add _ _) ?_
  refine g_iald K.1 hP (18) (by decide) rfl 0 rfl (4 * i + 0) rfl (by omega) (by decide) d_M_take_27 ?_
  refine g_iast K.1 hP hS (18) (by decide) (fun _ => rfl) 0 rfl ((4 * (i + 1)) + 0) rfl (by omega) (by decide) d_M_take_28 (fun H l1 hP hS => ?_)
  refine lv_iinc (v := 1) (lv' := [(2, .int 1), (0, .ref (ad 0)), (1, .int (nI i))]) K.hx K.hb d_M_take_29 hl (k := 0) rfl (by decide) (by decide) rfl (fun ls hl => ?_)
  refine lv_goto (tgt := 2) K.hx K.hb d_M_take_32 (by decide) ?_
  refine lv_iload_n K.hx K.hb d_M_take_2 rfl (lv_at hl 0 rfl) ?_
  refine lv_iconst (v := 4) K.hx K.hb d_M_take_3 (by decide) ?_
  refine lv_icmp_ge (tgt := 35) K.hx K.hb d_M_take_4 (by decide) (fun c_4_1 => (show False from by revert c_4_1; decide).elim) (fun _ => ?_)
  refine lv_aload_n K.hx K.hb d_M_take_7 rfl (lv_at hl 1 rfl) ?_
  refine g_get K.1 hP (0) (by decide) rfl rfl i_M 27 (by decide) rfl (Or.inl kw_661) rfl d_M_take_8 ?_
  refine lv_iconst (v := 4) K.hx K.hb d_M_take_11 (by decide) ?_
  refine lv_iload_n K.hx K.hb d_M_take_12 rfl (lv_at hl 2 rfl) ?_
  refine lv_iconst (v := 1) K.hx K.hb d_M_take_13 (by decide) ?_
  refine lv_iadd K.hx K.hb d_M_take_14 ?_
  refine lv_topE (y := nI (i + 1)) (nI_add _ _) ?_
  refine lv_imul K.hx K.hb d_M_take_15 ?_
  refine lv_topE (y := nI (4 * (i + 1))) (pk_mul _ _) ?_
  refine lv_iload_n K.hx K.hb d_M_take_16 rfl (lv_at hl 0 rfl) ?_
  refine lv_iadd K.hx K.hb d_M_take_17 ?_
  refine lv_topE (y := nI ((4 * (i + 1)) + 1)) (nI_add _ _) ?_
  refine lv_aload_n K.hx K.hb d_M_take_18 rfl (lv_at hl 1 rfl) ?_
  refine g_get K.1 hP (0) (by decide) rfl rfl i_M 27 (by decide) rfl (Or.inl kw_661) rfl d_M_take_19 ?_
  refine lv_iconst (v := 4) K.hx K.hb d_M_take_22 (by decide) ?_
  refine lv_iload_n K.hx K.hb d_M_take_23 rfl (lv_at hl 2 rfl) ?_
  refine lv_imul K.hx K.hb d_M_take_24 ?_
  refine lv_topE (y := nI (4 * i)) (pk_mul _ _) ?_
  refine lv_iload_n K.hx K.hb d_M_take_25 rfl (lv_at hl 0 rfl) ?_
  refine lv_iadd K.hx K.hb d_M_take_26 ?_
  refine lv_topE (y := nI (4 * i + 1)) (nI_add _ _) ?_
  refine g_iald K.1 hP (18) (by decide) rfl 0 rfl (4 * i + 1) rfl (by omega) (by decide) d_M_take_27 ?_
  refine lv_topE (y := (v 18 (4 * i + 1))) (by first | (simp [u2_at, cpM]; done) | (simp only [u2_at, cpM]; repeat (rw [if_neg (by omega)])) | (simp [u2_at, cpM] <;> (intros; omega))) ?_
  refine g_iast K.1 hP hS (18) (by decide) (fun _ => rfl) 0 rfl ((4 * (i + 1)) + 1) rfl (by omega) (by decide) d_M_take_28 (fun H l1 hP hS => ?_)
  refine lv_iinc (v := 2) (lv' := [(2, .int 2), (0, .ref (ad 0)), (1, .int (nI i))]) K.hx K.hb d_M_take_29 hl (k := 0) rfl (by decide) (by decide) rfl (fun ls hl => ?_)
  refine lv_goto (tgt := 2) K.hx K.hb d_M_take_32 (by decide) ?_
  refine lv_iload_n K.hx K.hb d_M_take_2 rfl (lv_at hl 0 rfl) ?_
  refine lv_iconst (v := 4) K.hx K.hb d_M_take_3 (by decide) ?_
  refine lv_icmp_ge (tgt := 35) K.hx K.hb d_M_take_4 (by decide) (fun c_4_2 => (show False from by revert c_4_2; decide).elim) (fun _ => ?_)
  refine lv_aload_n K.hx K.hb d_M_take_7 rfl (lv_at hl 1 rfl) ?_
  refine g_get K.1 hP (0) (by decide) rfl rfl i_M 27 (by decide) rfl (Or.inl kw_661) rfl d_M_take_8 ?_
  refine lv_iconst (v := 4) K.hx K.hb d_M_take_11 (by decide) ?_
  refine lv_iload_n K.hx K.hb d_M_take_12 rfl (lv_at hl 2 rfl) ?_
  refine lv_iconst (v := 1) K.hx K.hb d_M_take_13 (by decide) ?_
  refine lv_iadd K.hx K.hb d_M_take_14 ?_
  refine lv_topE (y := nI (i + 1)) (nI_add _ _) ?_
  refine lv_imul K.hx K.hb d_M_take_15 ?_
  refine lv_topE (y := nI (4 * (i + 1))) (pk_mul _ _) ?_
  refine lv_iload_n K.hx K.hb d_M_take_16 rfl (lv_at hl 0 rfl) ?_
  refine lv_iadd K.hx K.hb d_M_take_17 ?_
  refine lv_topE (y := nI ((4 * (i + 1)) + 2)) (nI_add _ _) ?_
  refine lv_aload_n K.hx K.hb d_M_take_18 rfl (lv_at hl 1 rfl) ?_
  refine g_get K.1 hP (0) (by decide) rfl rfl i_M 27 (by decide) rfl (Or.inl kw_661) rfl d_M_take_19 ?_
  refine lv_iconst (v := 4) K.hx K.hb d_M_take_22 (by decide) ?_
  refine lv_iload_n K.hx K.hb d_M_take_23 rfl (lv_at hl 2 rfl) ?_
  refine lv_imul K.hx K.hb d_M_take_24 ?_
  refine lv_topE (y := nI (4 * i)) (pk_mul _ _) ?_
  refine lv_iload_n K.hx K.hb d_M_take_25 rfl (lv_at hl 0 rfl) ?_
  refine lv_iadd K.hx K.hb d_M_take_26 ?_
  refine lv_topE (y := nI (4 * i + 2)) (nI_add _ _) ?_
  refine g_iald K.1 hP (18) (by decide) rfl 0 rfl (4 * i + 2) rfl (by omega) (by decide) d_M_take_27 ?_
  refine lv_topE (y := (v 18 (4 * i + 2))) (by first | (simp [u2_at, cpM]; done) | (simp only [u2_at, cpM]; repeat (rw [if_neg (by omega)])) | (simp [u2_at, cpM] <;> (intros; omega))) ?_
  refine g_iast K.1 hP hS (18) (by decide) (fun _ => rfl) 0 rfl ((4 * (i + 1)) + 2) rfl (by omega) (by decide) d_M_take_28 (fun H l1 hP hS => ?_)
  refine lv_iinc (v := 3) (lv' := [(2, .int 3), (0, .ref (ad 0)), (1, .int (nI i))]) K.hx K.hb d_M_take_29 hl (k := 0) rfl (by decide) (by decide) rfl (fun ls hl => ?_)
  refine lv_goto (tgt := 2) K.hx K.hb d_M_take_32 (by decide) ?_
  refine lv_iload_n K.hx K.hb d_M_take_2 rfl (lv_at hl 0 rfl) ?_
  refine lv_iconst (v := 4) K.hx K.hb d_M_take_3 (by decide) ?_
  refine lv_icmp_ge (tgt := 35) K.hx K.hb d_M_take_4 (by decide) (fun c_4_3 => (show False from by revert c_4_3; decide).elim) (fun _ => ?_)
  refine lv_aload_n K.hx K.hb d_M_take_7 rfl (lv_at hl 1 rfl) ?_
  refine g_get K.1 hP (0) (by decide) rfl rfl i_M 27 (by decide) rfl (Or.inl kw_661) rfl d_M_take_8 ?_
  refine lv_iconst (v := 4) K.hx K.hb d_M_take_11 (by decide) ?_
  refine lv_iload_n K.hx K.hb d_M_take_12 rfl (lv_at hl 2 rfl) ?_
  refine lv_iconst (v := 1) K.hx K.hb d_M_take_13 (by decide) ?_
  refine lv_iadd K.hx K.hb d_M_take_14 ?_
  refine lv_topE (y := nI (i + 1)) (nI_add _ _) ?_
  refine lv_imul K.hx K.hb d_M_take_15 ?_
  refine lv_topE (y := nI (4 * (i + 1))) (pk_mul _ _) ?_
  refine lv_iload_n K.hx K.hb d_M_take_16 rfl (lv_at hl 0 rfl) ?_
  refine lv_iadd K.hx K.hb d_M_take_17 ?_
  refine lv_topE (y := nI ((4 * (i + 1)) + 3)) (nI_add _ _) ?_
  refine lv_aload_n K.hx K.hb d_M_take_18 rfl (lv_at hl 1 rfl) ?_
  refine g_get K.1 hP (0) (by decide) rfl rfl i_M 27 (by decide) rfl (Or.inl kw_661) rfl d_M_take_19 ?_
  refine lv_iconst (v := 4) K.hx K.hb d_M_take_22 (by decide) ?_
  refine lv_iload_n K.hx K.hb d_M_take_23 rfl (lv_at hl 2 rfl) ?_
  refine lv_imul K.hx K.hb d_M_take_24 ?_
  refine lv_topE (y := nI (4 * i)) (pk_mul _ _) ?_
  refine lv_iload_n K.hx K.hb d_M_take_25 rfl (lv_at hl 0 rfl) ?_
  refine lv_iadd K.hx K.hb d_M_take_26 ?_
  refine lv_topE (y := nI (4 * i + 3)) (nI_add _ _) ?_
  refine g_iald K.1 hP (18) (by decide) rfl 0 rfl (4 * i + 3) rfl (by omega) (by decide) d_M_take_27 ?_
  refine lv_topE (y := (v 18 (4 * i + 3))) (by first | (simp [u2_at, cpM]; done) | (simp only [u2_at, cpM]; repeat (rw [if_neg (by omega)])) | (simp [u2_at, cpM] <;> (intros; omega))) ?_
  refine g_iast K.1 hP hS (18) (by decide) (fun _ => rfl) 0 rfl ((4 * (i + 1)) + 3) rfl (by omega) (by decide) d_M_take_28 (fun H l1 hP hS => ?_)
  refine lv_iinc (v := 4) (lv' := [(2, .int 4), (0, .ref (ad 0)), (1, .int (nI i))]) K.hx K.hb d_M_take_29 hl (k := 0) rfl (by decide) (by decide) rfl (fun ls hl => ?_)
  refine lv_goto (tgt := 2) K.hx K.hb d_M_take_32 (by decide) ?_
  refine lv_iload_n K.hx K.hb d_M_take_2 rfl (lv_at hl 0 rfl) ?_
  refine lv_iconst (v := 4) K.hx K.hb d_M_take_3 (by decide) ?_
  refine lv_icmp_ge (tgt := 35) K.hx K.hb d_M_take_4 (by decide) (fun _ => ?_) (fun c_4_4 => (show False from by revert c_4_4; decide).elim)
  refine lv_iconst (v := 0) K.hx K.hb d_M_take_35 (by decide) ?_
  refine lv_istore_n (lv' := [(2, .int 0), (0, .ref (ad 0)), (1, .int (nI i))]) K.hx K.hb d_M_take_36 rfl hl (by decide) rfl (fun ls hl => ?_)
  refine lv_iload_n K.hx K.hb d_M_take_37 rfl (lv_at hl 0 rfl) ?_
  refine lv_bipush (v := 8) K.hx K.hb d_M_take_38 (by decide) ?_
  refine lv_icmp_ge (tgt := 73) K.hx K.hb d_M_take_40 (by decide) (fun c_40 => (show False from by revert c_40; decide).elim) (fun _ => ?_)
  refine lv_aload_n K.hx K.hb d_M_take_43 rfl (lv_at hl 1 rfl) ?_
  refine g_get K.1 hP (0) (by decide) rfl rfl i_M 28 (by decide) rfl (Or.inl kw_662) rfl d_M_take_44 ?_
  refine lv_bipush (v := 8) K.hx K.hb d_M_take_47 (by decide) ?_
  refine lv_iload_n K.hx K.hb d_M_take_49 rfl (lv_at hl 2 rfl) ?_
  refine lv_iconst (v := 1) K.hx K.hb d_M_take_50 (by decide) ?_
  refine lv_iadd K.hx K.hb d_M_take_51 ?_
  refine lv_topE (y := nI (i + 1)) (nI_add _ _) ?_
  refine lv_imul K.hx K.hb d_M_take_52 ?_
  refine lv_topE (y := nI (8 * (i + 1))) (pk_mul _ _) ?_
  refine lv_iload_n K.hx K.hb d_M_take_53 rfl (lv_at hl 0 rfl) ?_
  refine lv_iadd K.hx K.hb d_M_take_54 ?_
  refine lv_topE (y := nI ((8 * (i + 1)) + 0)) (nI_add _ _) ?_
  refine lv_aload_n K.hx K.hb d_M_take_55 rfl (lv_at hl 1 rfl) ?_
  refine g_get K.1 hP (0) (by decide) rfl rfl i_M 28 (by decide) rfl (Or.inl kw_662) rfl d_M_take_56 ?_
  refine lv_bipush (v := 8) K.hx K.hb d_M_take_59 (by decide) ?_
  refine lv_iload_n K.hx K.hb d_M_take_61 rfl (lv_at hl 2 rfl) ?_
  refine lv_imul K.hx K.hb d_M_take_62 ?_
  refine lv_topE (y := nI (8 * i)) (pk_mul _ _) ?_
  refine lv_iload_n K.hx K.hb d_M_take_63 rfl (lv_at hl 0 rfl) ?_
  refine lv_iadd K.hx K.hb d_M_take_64 ?_
  refine lv_topE (y := nI (8 * i + 0)) (nI_add _ _) ?_
  refine g_iald K.1 hP (19) (by decide) rfl 0 rfl (8 * i + 0) rfl (by omega) (by decide) d_M_take_65 ?_
  refine lv_topE (y := (v 19 (8 * i + 0))) (by first | (simp [u2_at, cpM]; done) | (simp only [u2_at, cpM]; repeat (rw [if_neg (by omega)])) | (simp [u2_at, cpM] <;> (intros; omega))) ?_
  refine g_iast K.1 hP hS (19) (by decide) (fun _ => rfl) 0 rfl ((8 * (i + 1)) + 0) rfl (by omega) (by decide) d_M_take_66 (fun H l1 hP hS => ?_)
  refine lv_iinc (v := 1) (lv' := [(2, .int 1), (0, .ref (ad 0)), (1, .int (nI i))]) K.hx K.hb d_M_take_67 hl (k := 0) rfl (by decide) (by decide) rfl (fun ls hl => ?_)
  refine lv_goto (tgt := 37) K.hx K.hb d_M_take_70 (by decide) ?_
  refine lv_iload_n K.hx K.hb d_M_take_37 rfl (lv_at hl 0 rfl) ?_
  refine lv_bipush (v := 8) K.hx K.hb d_M_take_38 (by decide) ?_
  refine lv_icmp_ge (tgt := 73) K.hx K.hb d_M_take_40 (by decide) (fun c_40_5 => (show False from by revert c_40_5; decide).elim) (fun _ => ?_)
  refine lv_aload_n K.hx K.hb d_M_take_43 rfl (lv_at hl 1 rfl) ?_
  refine g_get K.1 hP (0) (by decide) rfl rfl i_M 28 (by decide) rfl (Or.inl kw_662) rfl d_M_take_44 ?_
  refine lv_bipush (v := 8) K.hx K.hb d_M_take_47 (by decide) ?_
  refine lv_iload_n K.hx K.hb d_M_take_49 rfl (lv_at hl 2 rfl) ?_
  refine lv_iconst (v := 1) K.hx K.hb d_M_take_50 (by decide) ?_
  refine lv_iadd K.hx K.hb d_M_take_51 ?_
  refine lv_topE (y := nI (i + 1)) (nI_add _ _) ?_
  refine lv_imul K.hx K.hb d_M_take_52 ?_
  refine lv_topE (y := nI (8 * (i + 1))) (pk_mul _ _) ?_
  refine lv_iload_n K.hx K.hb d_M_take_53 rfl (lv_at hl 0 rfl) ?_
  refine lv_iadd K.hx K.hb d_M_take_54 ?_
  refine lv_topE (y := nI ((8 * (i + 1)) + 1)) (nI_add _ _) ?_
  refine lv_aload_n K.hx K.hb d_M_take_55 rfl (lv_at hl 1 rfl) ?_
  refine g_get K.1 hP (0) (by decide) rfl rfl i_M 28 (by decide) rfl (Or.inl kw_662) rfl d_M_take_56 ?_
  refine lv_bipush (v := 8) K.hx K.hb d_M_take_59 (by decide) ?_
  refine lv_iload_n K.hx K.hb d_M_take_61 rfl (lv_at hl 2 rfl) ?_
  refine lv_imul K.hx K.hb d_M_take_62 ?_
  refine lv_topE (y := nI (8 * i)) (pk_mul _ _) ?_
  refine lv_iload_n K.hx K.hb d_M_take_63 rfl (lv_at hl 0 rfl) ?_
  refine lv_iadd K.hx K.hb d_M_take_64 ?_
  refine lv_topE (y := nI (8 * i + 1)) (nI_add _ _) ?_
  refine g_iald K.1 hP (19) (by decide) rfl 0 rfl (8 * i + 1) rfl (by omega) (by decide) d_M_take_65 ?_
  refine lv_topE (y := (v 19 (8 * i + 1))) (by first | (simp [u2_at, cpM]; done) | (simp only [u2_at, cpM]; repeat (rw [if_neg (by omega)])) | (simp [u2_at, cpM] <;> (intros; omega))) ?_
  refine g_iast K.1 hP hS (19) (by decide) (fun _ => rfl) 0 rfl ((8 * (i + 1)) + 1) rfl (by omega) (by decide) d_M_take_66 (fun H l1 hP hS => ?_)
  refine lv_iinc (v := 2) (lv' := [(2, .int 2), (0, .ref (ad 0)), (1, .int (nI i))]) K.hx K.hb d_M_take_67 hl (k := 0) rfl (by decide) (by decide) rfl (fun ls hl => ?_)
  refine lv_goto (tgt := 37) K.hx K.hb d_M_take_70 (by decide) ?_
  refine lv_iload_n K.hx K.hb d_M_take_37 rfl (lv_at hl 0 rfl) ?_
  refine lv_bipush (v := 8) K.hx K.hb d_M_take_38 (by decide) ?_
  refine lv_icmp_ge (tgt := 73) K.hx K.hb d_M_take_40 (by decide) (fun c_40_6 => (show False from by revert c_40_6; decide).elim) (fun _ => ?_)
  refine lv_aload_n K.hx K.hb d_M_take_43 rfl (lv_at hl 1 rfl) ?_
  refine g_get K.1 hP (0) (by decide) rfl rfl i_M 28 (by decide) rfl (Or.inl kw_662) rfl d_M_take_44 ?_
  refine lv_bipush (v := 8) K.hx K.hb d_M_take_47 (by decide) ?_
  refine lv_iload_n K.hx K.hb d_M_take_49 rfl (lv_at hl 2 rfl) ?_
  refine lv_iconst (v := 1) K.hx K.hb d_M_take_50 (by decide) ?_
  refine lv_iadd K.hx K.hb d_M_take_51 ?_
  refine lv_topE (y := nI (i + 1)) (nI_add _ _) ?_
  refine lv_imul K.hx K.hb d_M_take_52 ?_
  refine lv_topE (y := nI (8 * (i + 1))) (pk_mul _ _) ?_
  refine lv_iload_n K.hx K.hb d_M_take_53 rfl (lv_at hl 0 rfl) ?_
  refine lv_iadd K.hx K.hb d_M_take_54 ?_
  refine lv_topE (y := nI ((8 * (i + 1)) + 2)) (nI_add _ _) ?_
  refine lv_aload_n K.hx K.hb d_M_take_55 rfl (lv_at hl 1 rfl) ?_
  refine g_get K.1 hP (0) (by decide) rfl rfl i_M 28 (by decide) rfl (Or.inl kw_662) rfl d_M_take_56 ?_
  refine lv_bipush (v := 8) K.hx K.hb d_M_take_59 (by decide) ?_
  refine lv_iload_n K.hx K.hb d_M_take_61 rfl (lv_at hl 2 rfl) ?_
  refine lv_imul K.hx K.hb d_M_take_62 ?_
  refine lv_topE (y := nI (8 * i)) (pk_mul _ _) ?_
  refine lv_iload_n K.hx K.hb d_M_take_63 rfl (lv_at hl 0 rfl) ?_
  refine lv_iadd K.hx K.hb d_M_take_64 ?_
  refine lv_topE (y := nI (8 * i + 2)) (nI_add _ _) ?_
  refine g_iald K.1 hP (19) (by decide) rfl 0 rfl (8 * i + 2) rfl (by omega) (by decide) d_M_take_65 ?_
  refine lv_topE (y := (v 19 (8 * i + 2))) (by first | (simp [u2_at, cpM]; done) | (simp only [u2_at, cpM]; repeat (rw [if_neg (by omega)])) | (simp [u2_at, cpM] <;> (intros; omega))) ?_
  refine g_iast K.1 hP hS (19) (by decide) (fun _ => rfl) 0 rfl ((8 * (i + 1)) + 2) rfl (by omega) (by decide) d_M_take_66 (fun H l1 hP hS => ?_)
  refine lv_iinc (v := 3) (lv' := [(2, .int 3), (0, .ref (ad 0)), (1, .int (nI i))]) K.hx K.hb d_M_take_67 hl (k := 0) rfl (by decide) (by decide) rfl (fun ls hl => ?_)
  refine lv_goto (tgt := 37) K.hx K.hb d_M_take_70 (by decide) ?_
  refine lv_iload_n K.hx K.hb d_M_take_37 rfl (lv_at hl 0 rfl) ?_
  refine lv_bipush (v := 8) K.hx K.hb d_M_take_38 (by decide) ?_
  refine lv_icmp_ge (tgt := 73) K.hx K.hb d_M_take_40 (by decide) (fun c_40_7 => (show False from by revert c_40_7; decide).elim) (fun _ => ?_)
  refine lv_aload_n K.hx K.hb d_M_take_43 rfl (lv_at hl 1 rfl) ?_
  refine g_get K.1 hP (0) (by decide) rfl rfl i_M 28 (by decide) rfl (Or.inl kw_662) rfl d_M_take_44 ?_
  refine lv_bipush (v := 8) K.hx K.hb d_M_take_47 (by decide) ?_
  refine lv_iload_n K.hx K.hb d_M_take_49 rfl (lv_at hl 2 rfl) ?_
  refine lv_iconst (v := 1) K.hx K.hb d_M_take_50 (by decide) ?_
  refine lv_iadd K.hx K.hb d_M_take_51 ?_
  refine lv_topE (y := nI (i + 1)) (nI_add _ _) ?_
  refine lv_imul K.hx K.hb d_M_take_52 ?_
  refine lv_topE (y := nI (8 * (i + 1))) (pk_mul _ _) ?_
  refine lv_iload_n K.hx K.hb d_M_take_53 rfl (lv_at hl 0 rfl) ?_
  refine lv_iadd K.hx K.hb d_M_take_54 ?_
  refine lv_topE (y := nI ((8 * (i + 1)) + 3)) (nI_add _ _) ?_
  refine lv_aload_n K.hx K.hb d_M_take_55 rfl (lv_at hl 1 rfl) ?_
  refine g_get K.1 hP (0) (by decide) rfl rfl i_M 28 (by decide) rfl (Or.inl kw_662) rfl d_M_take_56 ?_
  refine lv_bipush (v := 8) K.hx K.hb d_M_take_59 (by decide) ?_
  refine lv_iload_n K.hx K.hb d_M_take_61 rfl (lv_at hl 2 rfl) ?_
  refine lv_imul K.hx K.hb d_M_take_62 ?_
  refine lv_topE (y := nI (8 * i)) (pk_mul _ _) ?_
  refine lv_iload_n K.hx K.hb d_M_take_63 rfl (lv_at hl 0 rfl) ?_
  refine lv_iadd K.hx K.hb d_M_take_64 ?_
  refine lv_topE (y := nI (8 * i + 3)) (nI_add _ _) ?_
  refine g_iald K.1 hP (19) (by decide) rfl 0 rfl (8 * i + 3) rfl (by omega) (by decide) d_M_take_65 ?_
  refine lv_topE (y := (v 19 (8 * i + 3))) (by first | (simp [u2_at, cpM]; done) | (simp only [u2_at, cpM]; repeat (rw [if_neg (by omega)])) | (simp [u2_at, cpM] <;> (intros; omega))) ?_
  refine g_iast K.1 hP hS (19) (by decide) (fun _ => rfl) 0 rfl ((8 * (i + 1)) + 3) rfl (by omega) (by decide) d_M_take_66 (fun H l1 hP hS => ?_)
  refine lv_iinc (v := 4) (lv' := [(2, .int 4), (0, .ref (ad 0)), (1, .int (nI i))]) K.hx K.hb d_M_take_67 hl (k := 0) rfl (by decide) (by decide) rfl (fun ls hl => ?_)
  refine lv_goto (tgt := 37) K.hx K.hb d_M_take_70 (by decide) ?_
  refine lv_iload_n K.hx K.hb d_M_take_37 rfl (lv_at hl 0 rfl) ?_
  refine lv_bipush (v := 8) K.hx K.hb d_M_take_38 (by decide) ?_
  refine lv_icmp_ge (tgt := 73) K.hx K.hb d_M_take_40 (by decide) (fun c_40_8 => (show False from by revert c_40_8; decide).elim) (fun _ => ?_)
  refine lv_aload_n K.hx K.hb d_M_take_43 rfl (lv_at hl 1 rfl) ?_
  refine g_get K.1 hP (0) (by decide) rfl rfl i_M 28 (by decide) rfl (Or.inl kw_662) rfl d_M_take_44 ?_
  refine lv_bipush (v := 8) K.hx K.hb d_M_take_47 (by decide) ?_
  refine lv_iload_n K.hx K.hb d_M_take_49 rfl (lv_at hl 2 rfl) ?_
  refine lv_iconst (v := 1) K.hx K.hb d_M_take_50 (by decide) ?_
  refine lv_iadd K.hx K.hb d_M_take_51 ?_
  refine lv_topE (y := nI (i + 1)) (nI_add _ _) ?_
  refine lv_imul K.hx K.hb d_M_take_52 ?_
  refine lv_topE (y := nI (8 * (i + 1))) (pk_mul _ _) ?_
  refine lv_iload_n K.hx K.hb d_M_take_53 rfl (lv_at hl 0 rfl) ?_
  refine lv_iadd K.hx K.hb d_M_take_54 ?_
  refine lv_topE (y := nI ((8 * (i + 1)) + 4)) (nI_add _ _) ?_
  refine lv_aload_n K.hx K.hb d_M_take_55 rfl (lv_at hl 1 rfl) ?_
  refine g_get K.1 hP (0) (by decide) rfl rfl i_M 28 (by decide) rfl (Or.inl kw_662) rfl d_M_take_56 ?_
  refine lv_bipush (v := 8) K.hx K.hb d_M_take_59 (by decide) ?_
  refine lv_iload_n K.hx K.hb d_M_take_61 rfl (lv_at hl 2 rfl) ?_
  refine lv_imul K.hx K.hb d_M_take_62 ?_
  refine lv_topE (y := nI (8 * i)) (pk_mul _ _) ?_
  refine lv_iload_n K.hx K.hb d_M_take_63 rfl (lv_at hl 0 rfl) ?_
  refine lv_iadd K.hx K.hb d_M_take_64 ?_
  refine lv_topE (y := nI (8 * i + 4)) (nI_add _ _) ?_
  refine g_iald K.1 hP (19) (by decide) rfl 0 rfl (8 * i + 4) rfl (by omega) (by decide) d_M_take_65 ?_
  refine lv_topE (y := (v 19 (8 * i + 4))) (by first | (simp [u2_at, cpM]; done) | (simp only [u2_at, cpM]; repeat (rw [if_neg (by omega)])) | (simp [u2_at, cpM] <;> (intros; omega))) ?_
  refine g_iast K.1 hP hS (19) (by decide) (fun _ => rfl) 0 rfl ((8 * (i + 1)) + 4) rfl (by omega) (by decide) d_M_take_66 (fun H l1 hP hS => ?_)
  refine lv_iinc (v := 5) (lv' := [(2, .int 5), (0, .ref (ad 0)), (1, .int (nI i))]) K.hx K.hb d_M_take_67 hl (k := 0) rfl (by decide) (by decide) rfl (fun ls hl => ?_)
  refine lv_goto (tgt := 37) K.hx K.hb d_M_take_70 (by decide) ?_
  refine lv_iload_n K.hx K.hb d_M_take_37 rfl (lv_at hl 0 rfl) ?_
  refine lv_bipush (v := 8) K.hx K.hb d_M_take_38 (by decide) ?_
  refine lv_icmp_ge (tgt := 73) K.hx K.hb d_M_take_40 (by decide) (fun c_40_9 => (show False from by revert c_40_9; decide).elim) (fun _ => ?_)
  refine lv_aload_n K.hx K.hb d_M_take_43 rfl (lv_at hl 1 rfl) ?_
  refine g_get K.1 hP (0) (by decide) rfl rfl i_M 28 (by decide) rfl (Or.inl kw_662) rfl d_M_take_44 ?_
  refine lv_bipush (v := 8) K.hx K.hb d_M_take_47 (by decide) ?_
  refine lv_iload_n K.hx K.hb d_M_take_49 rfl (lv_at hl 2 rfl) ?_
  refine lv_iconst (v := 1) K.hx K.hb d_M_take_50 (by decide) ?_
  refine lv_iadd K.hx K.hb d_M_take_51 ?_
  refine lv_topE (y := nI (i + 1)) (nI_add _ _) ?_
  refine lv_imul K.hx K.hb d_M_take_52 ?_
  refine lv_topE (y := nI (8 * (i + 1))) (pk_mul _ _) ?_
  refine lv_iload_n K.hx K.hb d_M_take_53 rfl (lv_at hl 0 rfl) ?_
  refine lv_iadd K.hx K.hb d_M_take_54 ?_
  refine lv_topE (y := nI ((8 * (i + 1)) + 5)) (nI_add _ _) ?_
  refine lv_aload_n K.hx K.hb d_M_take_55 rfl (lv_at hl 1 rfl) ?_
  refine g_get K.1 hP (0) (by decide) rfl rfl i_M 28 (by decide) rfl (Or.inl kw_662) rfl d_M_take_56 ?_
  refine lv_bipush (v := 8) K.hx K.hb d_M_take_59 (by decide) ?_
  refine lv_iload_n K.hx K.hb d_M_take_61 rfl (lv_at hl 2 rfl) ?_
  refine lv_imul K.hx K.hb d_M_take_62 ?_
  refine lv_topE (y := nI (8 * i)) (pk_mul _ _) ?_
  refine lv_iload_n K.hx K.hb d_M_take_63 rfl (lv_at hl 0 rfl) ?_
  refine lv_iadd K.hx K.hb d_M_take_64 ?_
  refine lv_topE (y := nI (8 * i + 5)) (nI_add _ _) ?_
  refine g_iald K.1 hP (19) (by decide) rfl 0 rfl (8 * i + 5) rfl (by omega) (by decide) d_M_take_65 ?_
  refine lv_topE (y := (v 19 (8 * i + 5))) (by first | (simp [u2_at, cpM]; done) | (simp only [u2_at, cpM]; repeat (rw [if_neg (by omega)])) | (simp [u2_at, cpM] <;> (intros; omega))) ?_
  refine g_iast K.1 hP hS (19) (by decide) (fun _ => rfl) 0 rfl ((8 * (i + 1)) + 5) rfl (by omega) (by decide) d_M_take_66 (fun H l1 hP hS => ?_)
  refine lv_iinc (v := 6) (lv' := [(2, .int 6), (0, .ref (ad 0)), (1, .int (nI i))]) K.hx K.hb d_M_take_67 hl (k := 0) rfl (by decide) (by decide) rfl (fun ls hl => ?_)
  refine lv_goto (tgt := 37) K.hx K.hb d_M_take_70 (by decide) ?_
  refine lv_iload_n K.hx K.hb d_M_take_37 rfl (lv_at hl 0 rfl) ?_
  refine lv_bipush (v := 8) K.hx K.hb d_M_take_38 (by decide) ?_
  refine lv_icmp_ge (tgt := 73) K.hx K.hb d_M_take_40 (by decide) (fun c_40_10 => (show False from by revert c_40_10; decide).elim) (fun _ => ?_)
  refine lv_aload_n K.hx K.hb d_M_take_43 rfl (lv_at hl 1 rfl) ?_
  refine g_get K.1 hP (0) (by decide) rfl rfl i_M 28 (by decide) rfl (Or.inl kw_662) rfl d_M_take_44 ?_
  refine lv_bipush (v := 8) K.hx K.hb d_M_take_47 (by decide) ?_
  refine lv_iload_n K.hx K.hb d_M_take_49 rfl (lv_at hl 2 rfl) ?_
  refine lv_iconst (v := 1) K.hx K.hb d_M_take_50 (by decide) ?_
  refine lv_iadd K.hx K.hb d_M_take_51 ?_
  refine lv_topE (y := nI (i + 1)) (nI_add _ _) ?_
  refine lv_imul K.hx K.hb d_M_take_52 ?_
  refine lv_topE (y := nI (8 * (i + 1))) (pk_mul _ _) ?_
  refine lv_iload_n K.hx K.hb d_M_take_53 rfl (lv_at hl 0 rfl) ?_
  refine lv_iadd K.hx K.hb d_M_take_54 ?_
  refine lv_topE (y := nI ((8 * (i + 1)) + 6)) (nI_add _ _) ?_
  refine lv_aload_n K.hx K.hb d_M_take_55 rfl (lv_at hl 1 rfl) ?_
  refine g_get K.1 hP (0) (by decide) rfl rfl i_M 28 (by decide) rfl (Or.inl kw_662) rfl d_M_take_56 ?_
  refine lv_bipush (v := 8) K.hx K.hb d_M_take_59 (by decide) ?_
  refine lv_iload_n K.hx K.hb d_M_take_61 rfl (lv_at hl 2 rfl) ?_
  refine lv_imul K.hx K.hb d_M_take_62 ?_
  refine lv_topE (y := nI (8 * i)) (pk_mul _ _) ?_
  refine lv_iload_n K.hx K.hb d_M_take_63 rfl (lv_at hl 0 rfl) ?_
  refine lv_iadd K.hx K.hb d_M_take_64 ?_
  refine lv_topE (y := nI (8 * i + 6)) (nI_add _ _) ?_
  refine g_iald K.1 hP (19) (by decide) rfl 0 rfl (8 * i + 6) rfl (by omega) (by decide) d_M_take_65 ?_
  refine lv_topE (y := (v 19 (8 * i + 6))) (by first | (simp [u2_at, cpM]; done) | (simp only [u2_at, cpM]; repeat (rw [if_neg (by omega)])) | (simp [u2_at, cpM] <;> (intros; omega))) ?_
  refine g_iast K.1 hP hS (19) (by decide) (fun _ => rfl) 0 rfl ((8 * (i + 1)) + 6) rfl (by omega) (by decide) d_M_take_66 (fun H l1 hP hS => ?_)
  refine lv_iinc (v := 7) (lv' := [(2, .int 7), (0, .ref (ad 0)), (1, .int (nI i))]) K.hx K.hb d_M_take_67 hl (k := 0) rfl (by decide) (by decide) rfl (fun ls hl => ?_)
  refine lv_goto (tgt := 37) K.hx K.hb d_M_take_70 (by decide) ?_
  refine lv_iload_n K.hx K.hb d_M_take_37 rfl (lv_at hl 0 rfl) ?_
  refine lv_bipush (v := 8) K.hx K.hb d_M_take_38 (by decide) ?_
  refine lv_icmp_ge (tgt := 73) K.hx K.hb d_M_take_40 (by decide) (fun c_40_11 => (show False from by revert c_40_11; decide).elim) (fun _ => ?_)
  refine lv_aload_n K.hx K.hb d_M_take_43 rfl (lv_at hl 1 rfl) ?_
  refine g_get K.1 hP (0) (by decide) rfl rfl i_M 28 (by decide) rfl (Or.inl kw_662) rfl d_M_take_44 ?_
  refine lv_bipush (v := 8) K.hx K.hb d_M_take_47 (by decide) ?_
  refine lv_iload_n K.hx K.hb d_M_take_49 rfl (lv_at hl 2 rfl) ?_
  refine lv_iconst (v := 1) K.hx K.hb d_M_take_50 (by decide) ?_
  refine lv_iadd K.hx K.hb d_M_take_51 ?_
  refine lv_topE (y := nI (i + 1)) (nI_add _ _) ?_
  refine lv_imul K.hx K.hb d_M_take_52 ?_
  refine lv_topE (y := nI (8 * (i + 1))) (pk_mul _ _) ?_
  refine lv_iload_n K.hx K.hb d_M_take_53 rfl (lv_at hl 0 rfl) ?_
  refine lv_iadd K.hx K.hb d_M_take_54 ?_
  refine lv_topE (y := nI ((8 * (i + 1)) + 7)) (nI_add _ _) ?_
  refine lv_aload_n K.hx K.hb d_M_take_55 rfl (lv_at hl 1 rfl) ?_
  refine g_get K.1 hP (0) (by decide) rfl rfl i_M 28 (by decide) rfl (Or.inl kw_662) rfl d_M_take_56 ?_
  refine lv_bipush (v := 8) K.hx K.hb d_M_take_59 (by decide) ?_
  refine lv_iload_n K.hx K.hb d_M_take_61 rfl (lv_at hl 2 rfl) ?_
  refine lv_imul K.hx K.hb d_M_take_62 ?_
  refine lv_topE (y := nI (8 * i)) (pk_mul _ _) ?_
  refine lv_iload_n K.hx K.hb d_M_take_63 rfl (lv_at hl 0 rfl) ?_
  refine lv_iadd K.hx K.hb d_M_take_64 ?_
  refine lv_topE (y := nI (8 * i + 7)) (nI_add _ _) ?_
  refine g_iald K.1 hP (19) (by decide) rfl 0 rfl (8 * i + 7) rfl (by omega) (by decide) d_M_take_65 ?_
  refine lv_topE (y := (v 19 (8 * i + 7))) (by first | (simp [u2_at, cpM]; done) | (simp only [u2_at, cpM]; repeat (rw [if_neg (by omega)])) | (simp [u2_at, cpM] <;> (intros; omega))) ?_
  refine g_iast K.1 hP hS (19) (by decide) (fun _ => rfl) 0 rfl ((8 * (i + 1)) + 7) rfl (by omega) (by decide) d_M_take_66 (fun H l1 hP hS => ?_)
  refine lv_iinc (v := 8) (lv' := [(2, .int 8), (0, .ref (ad 0)), (1, .int (nI i))]) K.hx K.hb d_M_take_67 hl (k := 0) rfl (by decide) (by decide) rfl (fun ls hl => ?_)
  refine lv_goto (tgt := 37) K.hx K.hb d_M_take_70 (by decide) ?_
  refine lv_iload_n K.hx K.hb d_M_take_37 rfl (lv_at hl 0 rfl) ?_
  refine lv_bipush (v := 8) K.hx K.hb d_M_take_38 (by decide) ?_
  refine lv_icmp_ge (tgt := 73) K.hx K.hb d_M_take_40 (by decide) (fun _ => ?_) (fun c_40_12 => (show False from by revert c_40_12; decide).elim)
  rw [cpM_eq] at hP
  refine lv_aload_n K.hx K.hb d_M_take_73 rfl (lv_at hl 1 rfl) ?_
  refine g_get K.1 hP (0) (by decide) rfl rfl i_M 31 (by decide) rfl (Or.inl kw_665) rfl d_M_take_74 ?_
  refine lv_iload_n K.hx K.hb d_M_take_77 rfl (lv_at hl 2 rfl) ?_
  refine g_iald K.1 hP (22) (by decide) rfl 0 rfl (i) rfl (by omega) (by decide) d_M_take_78 ?_
  refine lv_topE (y := (v 22 i)) (by first | (simp [u2_at, cpM]; done) | (simp only [u2_at, cpM]; repeat (rw [if_neg (by omega)])) | (simp [u2_at, cpM] <;> (intros; omega))) ?_
  refine lv_if_ge (tgt := 113) K.hx K.hb d_M_take_79 (by decide) (fun c_79 => ?_) (fun c_79 => ?_)
  · refine lv_aload_n K.hx K.hb d_M_take_113 rfl (lv_at hl 1 rfl) ?_
    refine g_get K.1 hP (0) (by decide) rfl rfl i_M 29 (by decide) rfl (Or.inl kw_663) rfl d_M_take_114 ?_
    refine lv_iload_n K.hx K.hb d_M_take_117 rfl (lv_at hl 2 rfl) ?_
    refine lv_iconst (v := 1) K.hx K.hb d_M_take_118 (by decide) ?_
    refine lv_iadd K.hx K.hb d_M_take_119 ?_
    refine lv_topE (y := nI (i + 1)) (nI_add _ _) ?_
    refine lv_aload_n K.hx K.hb d_M_take_120 rfl (lv_at hl 1 rfl) ?_
    refine g_get K.1 hP (0) (by decide) rfl rfl i_M 29 (by decide) rfl (Or.inl kw_663) rfl d_M_take_121 ?_
    refine lv_iload_n K.hx K.hb d_M_take_124 rfl (lv_at hl 2 rfl) ?_
    refine g_iald K.1 hP (20) (by decide) rfl 0 rfl (i) rfl (by omega) (by decide) d_M_take_125 ?_
    refine lv_topE (y := (v 20 i)) (by first | (simp [u2_at, cpM]; done) | (simp only [u2_at, cpM]; repeat (rw [if_neg (by omega)])) | (simp [u2_at, cpM] <;> (intros; omega))) ?_
    refine lv_aload_n K.hx K.hb d_M_take_126 rfl (lv_at hl 1 rfl) ?_
    refine g_get K.1 hP (0) (by decide) rfl rfl i_M 31 (by decide) rfl (Or.inl kw_665) rfl d_M_take_127 ?_
    refine lv_iload_n K.hx K.hb d_M_take_130 rfl (lv_at hl 2 rfl) ?_
    refine g_iald K.1 hP (22) (by decide) rfl 0 rfl (i) rfl (by omega) (by decide) d_M_take_131 ?_
    refine lv_topE (y := (v 22 i)) (by first | (simp [u2_at, cpM]; done) | (simp only [u2_at, cpM]; repeat (rw [if_neg (by omega)])) | (simp [u2_at, cpM] <;> (intros; omega))) ?_
    refine lv_aload_n K.hx K.hb d_M_take_132 rfl (lv_at hl 1 rfl) ?_
    refine g_get K.1 hP (0) (by decide) rfl rfl i_M 19 (by decide) rfl (Or.inl kw_653) rfl d_M_take_133 ?_
    refine lv_iload_n K.hx K.hb d_M_take_136 rfl (lv_at hl 2 rfl) ?_
    refine g_iald K.1 hP (14) (by decide) rfl 0 rfl (i) rfl (by omega) (by decide) d_M_take_137 ?_
    refine lv_topE (y := (v 14 i)) (by first | (simp [u2_at, cpM]; done) | (simp only [u2_at, cpM]; repeat (rw [if_neg (by omega)])) | (simp [u2_at, cpM] <;> (intros; omega))) ?_
    refine lv_imul K.hx K.hb d_M_take_138 ?_
    refine lv_iadd K.hx K.hb d_M_take_139 ?_
    refine g_iast K.1 hP hS (20) (by decide) (fun _ => rfl) 0 rfl (i + 1) rfl (by omega) (by decide) d_M_take_140 (fun H l1 hP hS => ?_)
    refine lv_aload_n K.hx K.hb d_M_take_141 rfl (lv_at hl 1 rfl) ?_
    refine g_get K.1 hP (0) (by decide) rfl rfl i_M 27 (by decide) rfl (Or.inl kw_661) rfl d_M_take_142 ?_
    refine lv_iconst (v := 4) K.hx K.hb d_M_take_145 (by decide) ?_
    refine lv_iload_n K.hx K.hb d_M_take_146 rfl (lv_at hl 2 rfl) ?_
    refine lv_iconst (v := 1) K.hx K.hb d_M_take_147 (by decide) ?_
    refine lv_iadd K.hx K.hb d_M_take_148 ?_
    refine lv_topE (y := nI (i + 1)) (nI_add _ _) ?_
    refine lv_imul K.hx K.hb d_M_take_149 ?_
    refine lv_topE (y := nI (4 * (i + 1))) (pk_mul _ _) ?_
    refine lv_aload_n K.hx K.hb d_M_take_150 rfl (lv_at hl 1 rfl) ?_
    refine g_get K.1 hP (0) (by decide) rfl rfl i_M 30 (by decide) rfl (Or.inl kw_664) rfl d_M_take_151 ?_
    refine lv_iload_n K.hx K.hb d_M_take_154 rfl (lv_at hl 2 rfl) ?_
    refine g_iald K.1 hP (21) (by decide) rfl 0 rfl (i) rfl (by omega) (by decide) d_M_take_155 ?_
    refine lv_topE (y := (v 21 i)) (by first | (simp [u2_at, cpM]; done) | (simp only [u2_at, cpM]; repeat (rw [if_neg (by omega)])) | (simp [u2_at, cpM] <;> (intros; omega))) ?_
    refine lv_topE (y := nI c_) hc ?_
    refine lv_aload_n K.hx K.hb d_M_take_156 rfl (lv_at hl 1 rfl) ?_
    refine g_get K.1 hP (0) (by decide) rfl rfl i_M 11 (by decide) rfl (Or.inl kw_645) rfl d_M_take_157 ?_
    refine lv_topE (y := (v 0 11)) (by first | (simp [u2_at, cpM]; done) | (simp [u2_at, cpM] <;> (intros; omega)) | (simp only [u2_at, cpM]; (repeat' split) <;> first | rfl | (exfalso; omega))) ?_
    refine lv_topE (y := nI pc) hpc ?_
    refine lv_irem K.hx K.hb d_M_take_160 (nI_ne0 (hpp c_79) (by omega)) ?_
    have hpp0 := hpp c_79
    refine lv_topE (y := nI (c_ % pc)) (pk_rem (by omega) hpp0 (by omega)) ?_
    have hmod : c_ % pc < pc := Nat.mod_lt _ hpp0
    refine lv_iadd K.hx K.hb d_M_take_161 ?_
    refine lv_topE (y := nI ((4 * (i + 1)) + (c_ % pc))) (nI_add _ _) ?_
    refine lv_aload_n K.hx K.hb d_M_take_162 rfl (lv_at hl 1 rfl) ?_
    refine g_get K.1 hP (0) (by decide) rfl rfl i_M 31 (by decide) rfl (Or.inl kw_665) rfl d_M_take_163 ?_
    refine lv_iload_n K.hx K.hb d_M_take_166 rfl (lv_at hl 2 rfl) ?_
    refine g_iald K.1 hP (22) (by decide) rfl 0 rfl (i) rfl (by omega) (by decide) d_M_take_167 ?_
    refine lv_topE (y := (v 22 i)) (by first | (simp [u2_at, cpM]; done) | (simp only [u2_at, cpM]; repeat (rw [if_neg (by omega)])) | (simp [u2_at, cpM] <;> (intros; omega))) ?_
    refine lv_aload_n K.hx K.hb d_M_take_168 rfl (lv_at hl 1 rfl) ?_
    refine g_get K.1 hP (0) (by decide) rfl rfl i_M 17 (by decide) rfl (Or.inl kw_651) rfl d_M_take_169 ?_
    refine lv_iload_n K.hx K.hb d_M_take_172 rfl (lv_at hl 2 rfl) ?_
    refine g_iald K.1 hP (12) (by decide) rfl 0 rfl (i) rfl (by omega) (by decide) d_M_take_173 ?_
    refine lv_topE (y := (v 12 i)) (by first | (simp [u2_at, cpM]; done) | (simp only [u2_at, cpM]; repeat (rw [if_neg (by omega)])) | (simp [u2_at, cpM] <;> (intros; omega))) ?_
    refine lv_iadd K.hx K.hb d_M_take_174 ?_
    refine lv_aload_n K.hx K.hb d_M_take_175 rfl (lv_at hl 1 rfl) ?_
    refine g_get K.1 hP (0) (by decide) rfl rfl i_M 20 (by decide) rfl (Or.inl kw_654) rfl d_M_take_176 ?_
    refine lv_topE (y := (v 0 20)) (by first | (simp [u2_at, cpM]; done) | (simp [u2_at, cpM] <;> (intros; omega)) | (simp only [u2_at, cpM]; (repeat' split) <;> first | rfl | (exfalso; omega))) ?_
    refine lv_iadd K.hx K.hb d_M_take_179 ?_
    refine g_iast K.1 hP hS (18) (by decide) (fun _ => rfl) 0 rfl ((4 * (i + 1)) + (c_ % pc)) rfl (by omega) (by decide) d_M_take_180 (fun H l1 hP hS => ?_)
    refine lv_aload_n K.hx K.hb d_M_take_181 rfl (lv_at hl 1 rfl) ?_
    refine g_get K.1 hP (0) (by decide) rfl rfl i_M 28 (by decide) rfl (Or.inl kw_662) rfl d_M_take_182 ?_
    refine lv_bipush (v := 8) K.hx K.hb d_M_take_185 (by decide) ?_
    refine lv_iload_n K.hx K.hb d_M_take_187 rfl (lv_at hl 2 rfl) ?_
    refine lv_iconst (v := 1) K.hx K.hb d_M_take_188 (by decide) ?_
    refine lv_iadd K.hx K.hb d_M_take_189 ?_
    refine lv_topE (y := nI (i + 1)) (nI_add _ _) ?_
    refine lv_imul K.hx K.hb d_M_take_190 ?_
    refine lv_topE (y := nI (8 * (i + 1))) (pk_mul _ _) ?_
    refine lv_aload_n K.hx K.hb d_M_take_191 rfl (lv_at hl 1 rfl) ?_
    refine g_get K.1 hP (0) (by decide) rfl rfl i_M 16 (by decide) rfl (Or.inl kw_650) rfl d_M_take_192 ?_
    refine lv_iload_n K.hx K.hb d_M_take_195 rfl (lv_at hl 2 rfl) ?_
    refine g_iald K.1 hP (11) (by decide) rfl 0 rfl (i) rfl (by omega) (by decide) d_M_take_196 ?_
    refine lv_topE (y := (v 11 i)) (by first | (simp [u2_at, cpM]; done) | (simp only [u2_at, cpM]; repeat (rw [if_neg (by omega)])) | (simp [u2_at, cpM] <;> (intros; omega))) ?_
    refine lv_topE (y := nI t) ht0 ?_
    refine lv_iadd K.hx K.hb d_M_take_197 ?_
    refine lv_topE (y := nI ((8 * (i + 1)) + t)) (nI_add _ _) ?_
    refine lv_aload_n K.hx K.hb d_M_take_198 rfl (lv_at hl 1 rfl) ?_
    refine g_get K.1 hP (0) (by decide) rfl rfl i_M 31 (by decide) rfl (Or.inl kw_665) rfl d_M_take_199 ?_
    refine lv_iload_n K.hx K.hb d_M_take_202 rfl (lv_at hl 2 rfl) ?_
    refine g_iald K.1 hP (22) (by decide) rfl 0 rfl (i) rfl (by omega) (by decide) d_M_take_203 ?_
    refine lv_topE (y := (v 22 i)) (by first | (simp [u2_at, cpM]; done) | (simp only [u2_at, cpM]; repeat (rw [if_neg (by omega)])) | (simp [u2_at, cpM] <;> (intros; omega))) ?_
    refine lv_aload_n K.hx K.hb d_M_take_204 rfl (lv_at hl 1 rfl) ?_
    refine g_get K.1 hP (0) (by decide) rfl rfl i_M 17 (by decide) rfl (Or.inl kw_651) rfl d_M_take_205 ?_
    refine lv_iload_n K.hx K.hb d_M_take_208 rfl (lv_at hl 2 rfl) ?_
    refine g_iald K.1 hP (12) (by decide) rfl 0 rfl (i) rfl (by omega) (by decide) d_M_take_209 ?_
    refine lv_topE (y := (v 12 i)) (by first | (simp [u2_at, cpM]; done) | (simp only [u2_at, cpM]; repeat (rw [if_neg (by omega)])) | (simp [u2_at, cpM] <;> (intros; omega))) ?_
    refine lv_iadd K.hx K.hb d_M_take_210 ?_
    refine g_iast K.1 hP hS (19) (by decide) (fun _ => rfl) 0 rfl ((8 * (i + 1)) + t) rfl (by omega) (by decide) d_M_take_211 (fun H l1 hP hS => ?_)
    exact de_v K hP hS ⟨rfl, if_pos c_79, rfl⟩ (Nat.le_of_ble_eq_true rfl) (Nat.le_of_ble_eq_true rfl) d_M_take_212
  · refine lv_aload_n K.hx K.hb d_M_take_82 rfl (lv_at hl 1 rfl) ?_
    refine g_get K.1 hP (0) (by decide) rfl rfl i_M 29 (by decide) rfl (Or.inl kw_663) rfl d_M_take_83 ?_
    refine lv_iload_n K.hx K.hb d_M_take_86 rfl (lv_at hl 2 rfl) ?_
    refine lv_iconst (v := 1) K.hx K.hb d_M_take_87 (by decide) ?_
    refine lv_iadd K.hx K.hb d_M_take_88 ?_
    refine lv_topE (y := nI (i + 1)) (nI_add _ _) ?_
    refine lv_aload_n K.hx K.hb d_M_take_89 rfl (lv_at hl 1 rfl) ?_
    refine g_get K.1 hP (0) (by decide) rfl rfl i_M 29 (by decide) rfl (Or.inl kw_663) rfl d_M_take_90 ?_
    refine lv_iload_n K.hx K.hb d_M_take_93 rfl (lv_at hl 2 rfl) ?_
    refine g_iald K.1 hP (20) (by decide) rfl 0 rfl (i) rfl (by omega) (by decide) d_M_take_94 ?_
    refine lv_topE (y := (v 20 i)) (by first | (simp [u2_at, cpM]; done) | (simp only [u2_at, cpM]; repeat (rw [if_neg (by omega)])) | (simp [u2_at, cpM] <;> (intros; omega))) ?_
    refine lv_sipush (v := 168) K.hx K.hb d_M_take_95 (by decide) ?_
    refine lv_aload_n K.hx K.hb d_M_take_98 rfl (lv_at hl 1 rfl) ?_
    refine g_get K.1 hP (0) (by decide) rfl rfl i_M 19 (by decide) rfl (Or.inl kw_653) rfl d_M_take_99 ?_
    refine lv_iload_n K.hx K.hb d_M_take_102 rfl (lv_at hl 2 rfl) ?_
    refine g_iald K.1 hP (14) (by decide) rfl 0 rfl (i) rfl (by omega) (by decide) d_M_take_103 ?_
    refine lv_topE (y := (v 14 i)) (by first | (simp [u2_at, cpM]; done) | (simp only [u2_at, cpM]; repeat (rw [if_neg (by omega)])) | (simp [u2_at, cpM] <;> (intros; omega))) ?_
    refine lv_imul K.hx K.hb d_M_take_104 ?_
    refine lv_iadd K.hx K.hb d_M_take_105 ?_
    refine lv_aload_n K.hx K.hb d_M_take_106 rfl (lv_at hl 1 rfl) ?_
    refine g_get K.1 hP (0) (by decide) rfl rfl i_M 21 (by decide) rfl (Or.inl kw_655) rfl d_M_take_107 ?_
    refine lv_topE (y := (v 0 21)) (by first | (simp [u2_at, cpM]; done) | (simp [u2_at, cpM] <;> (intros; omega)) | (simp only [u2_at, cpM]; (repeat' split) <;> first | rfl | (exfalso; omega))) ?_
    refine lv_iadd K.hx K.hb d_M_take_110 ?_
    refine g_iast K.1 hP hS (20) (by decide) (fun _ => rfl) 0 rfl (i + 1) rfl (by omega) (by decide) d_M_take_111 (fun H l1 hP hS => ?_)
    exact de_v K hP hS ⟨rfl, if_neg c_79, rfl⟩ (Nat.le_of_ble_eq_true rfl) (Nat.le_of_ble_eq_true rfl) d_M_take_112
