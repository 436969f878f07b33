/-! the reference's done -/
def tM (v : Nat → Nat → Int32) (i : Nat) : Nat := (v 11 i).toNatClampNeg
def sM (v : Nat → Nat → Int32) (i : Nat) : Nat := (v 13 i).toNatClampNeg
/-- the counts, the things and the skills of the repairs -/
def MI (rc : Nat) (v : Nat → Nat → Int32) : Prop := v 0 15 = nI rc ∧ rc ≤ 5 ∧ ∀ i, i < rc → (∃ t, t < 8 ∧ v 11 i = nI t) ∧ ∃ t, t < 4 ∧ v 13 i = nI t
theorem MI_t {rc : Nat} {v : Nat → Nat → Int32} (h : MI rc v) {i : Nat} (hi : i < rc) : v 11 i = nI (tM v i) ∧ tM v i < 8 := by
  obtain ⟨t, ht, e⟩ := (h.2.2 i hi).1
  have e2 : tM v i = t := by unfold tM; rw [e, nI_clamp (by omega)]
  rw [e2]
  exact ⟨e, ht⟩
theorem MI_s {rc : Nat} {v : Nat → Nat → Int32} (h : MI rc v) {i : Nat} (hi : i < rc) : v 13 i = nI (sM v i) ∧ sM v i < 4 := by
  obtain ⟨t, ht, e⟩ := (h.2.2 i hi).2
  have e2 : sM v i = t := by unfold sM; rw [e, nI_clamp (by omega)]
  rw [e2]
  exact ⟨e, ht⟩
def dmP (v u : Nat → Nat → Int32) (i : Nat) : Bool := !decide (u 16 i < 0) && !decide (u 15 (sM v i) = 0)
def dmV (v u : Nat → Nat → Int32) (i : Nat) : Nat → Nat → Int32 := kpM (u2 (u2 u 15 (sM v i) (u 15 (sM v i) - 1)) 3 (tM v i) 0) (tM v i) (-1)
/-- the rows and the count when the first i repairs were looked at -/
def dm (v : Nat → Nat → Int32) : Nat → (Nat → Nat → Int32) × Int32
  | 0 => (v, 0)
  | i + 1 => if dmP v (dm v i).1 i = true then (dmV v (dm v i).1 i, (dm v i).2 + 1) else dm v i
abbrev dmv (v : Nat → Nat → Int32) (i : Nat) : Nat → Nat → Int32 := (dm v i).1
theorem dm_row {v : Nat → Nat → Int32} {a : Nat} (h1 : a ≠ 3) (h2 : a ≠ 5) (h3 : a ≠ 15) : ∀ i, dmv v i a = v a
  | 0 => rfl
  | i + 1 => by
    have e := dm_row (v := v) h1 h2 h3 i
    show (if dmP v (dmv v i) i = true then (dmV v (dmv v i) i, (dm v i).2 + 1) else dm v i).1 a = v a
    split
    · show dmV v (dmv v i) i a = v a
      rw [← e]
      funext b
      unfold dmV
      simp only [kpM, u2_at]
      rw [if_neg (by omega), if_neg (by omega), if_neg (by omega)]
    · exact e
set_option maxHeartbeats 4000000 in
set_option maxRecDepth 100000 in
theorem lp_dm {p : Program} {l : Launch} {e : Env} {s : State} {m : MethodId} {args : Array Value} {below : List Frame} {meth : Method} {c : Code} {Q : State → Prop} {D : va_G} {cs : Nat → ClassId} {ad : Nat → Nat} {v : Nat → Nat → Int32} {sd : Int64} (K : Dx p l m meth c b_M_done 3 (some .int) s args "WearHoursModel" D cs ad) {rc : Nat} (hMI : MI rc v) 
    (kx : ∀  (H : Heap) (l1 : List Loc) (ls : Array Slot), va_P D classes (wv 23 ad (fun k => eM cs ad sd k ((dmv v rc) k))) H → va_S (aA 23 ad s.heap.size) s.heap H l1 → lv_has ls 3 [(0, .ref (ad 0)), (1, .int ((dm v rc).2))] → W p l e (rmx 1 0) s m args below meth c H l1 0 0 Q (F0 m 100 ls []))
    : ∀ (n i : Nat), i ≤ rc → rc < i + n → ∀ (H : Heap) (l1 : List Loc) (ls : Array Slot), va_P D classes (wv 23 ad (fun k => eM cs ad sd k ((dmv v i) k))) H → va_S (aA 23 ad s.heap.size) s.heap H l1 → lv_has ls 3 [(0, .ref (ad 0)), (1, .int ((dm v i).2)), (2, .int (nI i))] → W p l e (rmx 1 0) s m args below meth c H l1 0 0 Q (F0 m 19 ls []) := by
  intro n
  induction n with
  | zero =>
    intro i  h1 h2
    omega
  | succ n ih =>
    intro i  hle hlt H l1 ls hP hS hl
    have hr5 := hMI.2.1
    have h15 : dmv v i 0 15 = nI rc := by rw [dm_row (by decide) (by decide) (by decide)]; exact hMI.1
    refine lv_iload_n K.hx K.hb d_M_done_19 rfl (lv_at hl 2 rfl) ?_
    refine lv_aload_n K.hx K.hb d_M_done_20 rfl (lv_at hl 0 rfl) ?_
    refine g_get K.1 hP (0) (by decide) rfl rfl i_M 15 (by decide) rfl (Or.inl kw_649) rfl d_M_done_21 ?_
    refine lv_topE (y := nI rc) h15 ?_
    refine lv_icmp_ge (tgt := 100) K.hx K.hb d_M_done_24 (by decide) (fun c_24 => ?_) (fun c_24 => ?_)
    · have hge : i = rc := Nat.le_antisymm hle ((nI_leI (by omega) (by omega)).mp c_24)
      subst hge
      exact kx H l1 ls hP hS (lv_sub hl [0, 1] rfl)
    · have hlt2 : i < rc := Nat.lt_of_not_le (fun h => c_24 (nI_le h (by omega)))
      have hti : dmv v i 11 i = nI (tM v i) := by rw [dm_row (by decide) (by decide) (by decide)]; exact (MI_t hMI hlt2).1
      have hti8 : tM v i < 8 := (MI_t hMI hlt2).2
      have hsi : dmv v i 13 i = nI (sM v i) := by rw [dm_row (by decide) (by decide) (by decide)]; exact (MI_s hMI hlt2).1
      have hsi4 : sM v i < 4 := (MI_s hMI hlt2).2
      refine lv_aload_n K.hx K.hb d_M_done_27 rfl (lv_at hl 0 rfl) ?_
      refine g_get K.1 hP (0) (by decide) rfl rfl i_M 25 (by decide) rfl (Or.inl kw_659) rfl d_M_done_28 ?_
      refine lv_iload_n K.hx K.hb d_M_done_31 rfl (lv_at hl 2 rfl) ?_
      refine g_iald K.1 hP (16) (by decide) rfl 0 rfl (i) rfl (by omega) (by decide) d_M_done_32 ?_
      refine lv_if_lt (tgt := 94) K.hx K.hb d_M_done_33 (by decide) (fun c_33 => ?_) (fun c_33 => ?_)
      · refine lv_iinc (v := nI (i + 1)) (lv' := [(2, .int (nI (i + 1))), (0, .ref (ad 0)), (1, .int ((dm v i).2))]) K.hx K.hb d_M_done_94 hl (k := 2) rfl (nI_1 _) (by decide) rfl (fun ls hl => ?_)
        refine lv_goto (tgt := 19) K.hx K.hb d_M_done_97 (by decide) ?_
        have hdn : dm v (i + 1) = dm v i := if_neg (by simp [dmP, c_33])
        exact ih (i + 1) hlt2 (by omega) H l1 ls (by rw [show dmv v (i + 1) = dmv v i from congrArg Prod.fst hdn]; exact hP) hS (by rw [hdn]; exact lv_sub hl [1, 2, 0] rfl)
      · refine lv_aload_n K.hx K.hb d_M_done_36 rfl (lv_at hl 0 rfl) ?_
        refine g_get K.1 hP (0) (by decide) rfl rfl i_M 22 (by decide) rfl (Or.inl kw_656) rfl d_M_done_37 ?_
        refine lv_aload_n K.hx K.hb d_M_done_40 rfl (lv_at hl 0 rfl) ?_
        refine g_get K.1 hP (0) (by decide) rfl rfl i_M 18 (by decide) rfl (Or.inl kw_652) rfl d_M_done_41 ?_
        refine lv_iload_n K.hx K.hb d_M_done_44 rfl (lv_at hl 2 rfl) ?_
        refine g_iald K.1 hP (13) (by decide) rfl 0 rfl (i) rfl (by omega) (by decide) d_M_done_45 ?_
        refine lv_topE (y := nI (sM v i)) hsi ?_
        refine g_iald K.1 hP (15) (by decide) rfl 0 rfl (sM v i) rfl (by omega) (by decide) d_M_done_46 ?_
        refine lv_if_ne (tgt := 53) K.hx K.hb d_M_done_47 (by decide) (fun c_47 => ?_) (fun c_47 => ?_)
        · refine lv_aload_n K.hx K.hb d_M_done_53 rfl (lv_at hl 0 rfl) ?_
          refine g_get K.1 hP (0) (by decide) rfl rfl i_M 22 (by decide) rfl (Or.inl kw_656) rfl d_M_done_54 ?_
          refine lv_aload_n K.hx K.hb d_M_done_57 rfl (lv_at hl 0 rfl) ?_
          refine g_get K.1 hP (0) (by decide) rfl rfl i_M 18 (by decide) rfl (Or.inl kw_652) rfl d_M_done_58 ?_
          refine lv_iload_n K.hx K.hb d_M_done_61 rfl (lv_at hl 2 rfl) ?_
          refine g_iald K.1 hP (13) (by decide) rfl 0 rfl (i) rfl (by omega) (by decide) d_M_done_62 ?_
          refine lv_topE (y := nI (sM v i)) hsi ?_
          refine lv_dup2_11 K.hx K.hb d_M_done_63 rfl rfl ?_
          refine g_iald K.1 hP (15) (by decide) rfl 0 rfl (sM v i) rfl (by omega) (by decide) d_M_done_64 ?_
          refine lv_iconst (v := 1) K.hx K.hb d_M_done_65 (by decide) ?_
          refine lv_isub K.hx K.hb d_M_done_66 ?_
          refine g_iast K.1 hP hS (15) (by decide) (fun _ => rfl) 0 rfl (sM v i) rfl (by omega) (by decide) d_M_done_67 (fun H l1 hP hS => ?_)
          refine lv_aload_n K.hx K.hb d_M_done_68 rfl (lv_at hl 0 rfl) ?_
          refine g_get K.1 hP (0) (by decide) rfl rfl i_M 5 (by decide) rfl (Or.inl kw_639) rfl d_M_done_69 ?_
          refine lv_aload_n K.hx K.hb d_M_done_72 rfl (lv_at hl 0 rfl) ?_
          refine g_get K.1 hP (0) (by decide) rfl rfl i_M 16 (by decide) rfl (Or.inl kw_650) rfl d_M_done_73 ?_
          refine lv_iload_n K.hx K.hb d_M_done_76 rfl (lv_at hl 2 rfl) ?_
          refine g_iald K.1 hP (11) (by decide) rfl 0 rfl (i) rfl (by omega) (by decide) d_M_done_77 ?_
          refine lv_topE (y := ((dmv v i) 11 i)) (by first | (simp [u2_at, kpM]; done) | (simp only [u2_at, kpM]; repeat (rw [if_neg (by omega)])) | (simp [u2_at, kpM] <;> (intros; omega))) ?_
          refine lv_topE (y := nI (tM v i)) hti ?_
          refine lv_iconst (v := 0) K.hx K.hb d_M_done_78 (by decide) ?_
          refine g_iast K.1 hP hS (3) (by decide) (fun _ => rfl) 0 rfl (tM v i) rfl (by omega) (by decide) d_M_done_79 (fun H l1 hP hS => ?_)
          refine lv_aload_n K.hx K.hb d_M_done_80 rfl (lv_at hl 0 rfl) ?_
          refine lv_aload_n K.hx K.hb d_M_done_81 rfl (lv_at hl 0 rfl) ?_
          refine g_get K.1 hP (0) (by decide) rfl rfl i_M 16 (by decide) rfl (Or.inl kw_650) rfl d_M_done_82 ?_
          refine lv_iload_n K.hx K.hb d_M_done_85 rfl (lv_at hl 2 rfl) ?_
          refine g_iald K.1 hP (11) (by decide) rfl 0 rfl (i) rfl (by omega) (by decide) d_M_done_86 ?_
          refine lv_topE (y := ((dmv v i) 11 i)) (by first | (simp [u2_at, kpM]; done) | (simp only [u2_at, kpM]; repeat (rw [if_neg (by omega)])) | (simp [u2_at, kpM] <;> (intros; omega))) ?_
          refine lv_topE (y := nI (tM v i)) hti ?_
          refine lv_iconst (v := (-1)) K.hx K.hb d_M_done_87 (by decide) ?_
          refine dd_V K hP hS (c_M_keep l D cs ad _ _ hti8 (-1)) kw_767 xm_M_keep kw_764 kw_766 kw_16 (g_recv K.1.2.1 hP (0) (by decide) rfl rfl) rfl hl.1 d_M_done_88 (Nat.le_of_ble_eq_true rfl) (Nat.le_of_ble_eq_true rfl) ⟨(Nat.le_of_ble_eq_true rfl), (Nat.le_of_ble_eq_true rfl)⟩ (fun r v1 sd1 H l1 hp hP hS => ?_)
          obtain ⟨rfl, rfl, rfl⟩ := hp
          refine lv_iinc (v := ((dm v i).2) + 1) (lv' := [(1, .int (((dm v i).2) + 1)), (0, .ref (ad 0)), (2, .int (nI i))]) K.hx K.hb d_M_done_91 hl (k := 1) rfl rfl (by decide) rfl (fun ls hl => ?_)
          refine lv_iinc (v := nI (i + 1)) (lv' := [(2, .int (nI (i + 1))), (1, .int (((dm v i).2) + 1)), (0, .ref (ad 0))]) K.hx K.hb d_M_done_94 hl (k := 2) rfl (nI_1 _) (by decide) rfl (fun ls hl => ?_)
          refine lv_goto (tgt := 19) K.hx K.hb d_M_done_97 (by decide) ?_
          have hdn : dm v (i + 1) = (kpM (u2 (u2 (dmv v i) 15 (sM v i) (((dmv v i) 15 (sM v i)) - 1)) 3 (tM v i) 0) (tM v i) (-1), (dm v i).2 + 1) := if_pos (by simp only [dmP, decide_eq_false c_33, decide_eq_false c_47]; rfl)
          exact ih (i + 1) hlt2 (by omega) H l1 ls (by rw [show dmv v (i + 1) = kpM (u2 (u2 (dmv v i) 15 (sM v i) (((dmv v i) 15 (sM v i)) - 1)) 3 (tM v i) 0) (tM v i) (-1) from congrArg Prod.fst hdn]; exact hP) hS (by rw [hdn]; exact lv_sub hl [2, 1, 0] rfl)
        · refine lv_goto (tgt := 94) K.hx K.hb d_M_done_50 (by decide) ?_
          refine lv_iinc (v := nI (i + 1)) (lv' := [(2, .int (nI (i + 1))), (0, .ref (ad 0)), (1, .int ((dm v i).2))]) K.hx K.hb d_M_done_94 hl (k := 2) rfl (nI_1 _) (by decide) rfl (fun ls hl => ?_)
          refine lv_goto (tgt := 19) K.hx K.hb d_M_done_97 (by decide) ?_
          have hdn : dm v (i + 1) = dm v i := if_neg (by simp [dmP, c_47])
          exact ih (i + 1) hlt2 (by omega) H l1 ls (by rw [show dmv v (i + 1) = dmv v i from congrArg Prod.fst hdn]; exact hP) hS (by rw [hdn]; exact lv_sub hl [1, 2, 0] rfl)
set_option maxHeartbeats 4000000 in
set_option maxRecDepth 100000 in
theorem c_M_done (l : Launch) (D : va_G) (cs : Nat → ClassId) (ad : Nat → Nat) (v : Nat → Nat → Int32) (sd : Int64) {rc : Nat} (hMI : MI rc v)  : Dm l y_M_done b_M_done 3 (some .int) (rmx 1 0) [.ref (ad 0)] D cs ad v sd (fun r v' sd' => (¬ v 0 23 = 0 ∧ r = some (.int (dm (u2 v 0 0 0) rc).2) ∧ u2 (u2 (dmv (u2 v 0 0 0) rc) 0 15 0) 0 23 0 = v' ∧ sd = sd') ∨ (v 0 23 = 0 ∧ r = some (.int 0) ∧ u2 v 0 0 1 = v' ∧ sd = sd')) (fun cls => False) := by
  refine dw_enter (own := "WearHoursModel") rfl (Nat.le_of_ble_eq_true rfl) ?_
  intro p e s m below meth c ls K hS hP hl
  have hl : lv_has ls 3 [(0, .ref (ad 0))] := hl
  have hM0 : MI rc (u2 v 0 0 0) := ⟨by rw [u2_at]; exact hMI.1, hMI.2.1, fun i hi => by rw [u2_ne (by decide), u2_ne (by decide)]; exact hMI.2.2 i hi⟩
  refine lv_aload_n K.hx K.hb d_M_done_0 rfl (lv_at hl 0 rfl) ?_
  refine lv_aload_n K.hx K.hb d_M_done_1 rfl (lv_at hl 0 rfl) ?_
  refine g_get K.1 hP (0) (by decide) rfl rfl i_M 23 (by decide) rfl (Or.inl kw_657) rfl d_M_done_2 ?_
  by_cases hpl : v 0 23 = 0
  · refine lv_topE (y := 0) hpl ?_
    refine lv_iconst (v := 1) K.hx K.hb d_M_done_5 (by decide) ?_
    refine lv_iconst (v := 1) K.hx K.hb d_M_done_6 (by decide) ?_
    refine dd_V K hP hS (c_M_goes l D cs ad _ _ 0 1 1) kw_751 xm_M_goes kw_748 kw_750 kw_13 (g_recv K.1.2.1 hP (0) (by decide) rfl rfl) rfl hl.1 d_M_done_7 (Nat.le_of_ble_eq_true rfl) (Nat.le_of_ble_eq_true rfl) ⟨(Nat.le_of_ble_eq_true rfl), (Nat.le_of_ble_eq_true rfl)⟩ (fun r v1 sd1 H l1 hp hP hS => ?_)
    obtain ⟨rfl, rfl, rfl⟩ := hp
    have hgz : gz 0 1 1 = 1 := by decide
    rw [hgz] at hP
    refine lv_topE (y := 0) (by rw [hgz]; decide) ?_
    refine lv_if_ne (tgt := 15) K.hx K.hb d_M_done_10 (by decide) (fun c_10 => (show False from by revert c_10; decide).elim) (fun _ => ?_)
    refine lv_iconst (v := 0) K.hx K.hb d_M_done_13 (by decide) ?_
    exact de_i K hP hS (Or.inr ⟨hpl, rfl, rfl, rfl⟩) (Nat.le_of_ble_eq_true rfl) (Nat.le_of_ble_eq_true rfl) d_M_done_14
  · refine lv_iconst (v := 1) K.hx K.hb d_M_done_5 (by decide) ?_
    refine lv_iconst (v := 1) K.hx K.hb d_M_done_6 (by decide) ?_
    refine dd_V K hP hS (c_M_goes l D cs ad _ _ (v 0 23) 1 1) kw_751 xm_M_goes kw_748 kw_750 kw_13 (g_recv K.1.2.1 hP (0) (by decide) rfl rfl) rfl hl.1 d_M_done_7 (Nat.le_of_ble_eq_true rfl) (Nat.le_of_ble_eq_true rfl) ⟨(Nat.le_of_ble_eq_true rfl), (Nat.le_of_ble_eq_true rfl)⟩ (fun r v1 sd1 H l1 hp hP hS => ?_)
    obtain ⟨rfl, rfl, rfl⟩ := hp
    have hgz : gz (v 0 23) 1 1 = 0 := by simp [gz, hpl]
    rw [hgz] at hP
    refine lv_topE (y := 1) (by rw [hgz]; decide) ?_
    refine lv_if_ne (tgt := 15) K.hx K.hb d_M_done_10 (by decide) (fun _ => ?_) (fun c_10 => (show False from by revert c_10; decide).elim)
    refine lv_iconst (v := 0) K.hx K.hb d_M_done_15 (by decide) ?_
    refine lv_istore_n (lv' := [(1, .int 0), (0, .ref (ad 0))]) K.hx K.hb d_M_done_16 rfl hl (by decide) rfl (fun ls hl => ?_)
    refine lv_iconst (v := 0) K.hx K.hb d_M_done_17 (by decide) ?_
    refine lv_istore_n (lv' := [(2, .int 0), (1, .int 0), (0, .ref (ad 0))]) K.hx K.hb d_M_done_18 rfl hl (by decide) rfl (fun ls hl => ?_)
    refine lp_dm K hM0 (fun H l1 ls hP hS hl => ?_) (rc + 1) 0 (by omega) (by omega) _ _ ls hP hS (lv_sub hl [2, 1, 0] rfl)
    refine lv_aload_n K.hx K.hb d_M_done_100 rfl (lv_at hl 0 rfl) ?_
    refine lv_iconst (v := 0) K.hx K.hb d_M_done_101 (by decide) ?_
    refine g_puti K.1 hP hS (0) (by decide) rfl rfl i_M ft_M ft_M_ok n_M 15 (by decide) rfl (Or.inl kw_649) rfl rfl rfl (Nat.le_of_ble_eq_true rfl) rfl d_M_done_102 (fun H l1 hP hS => ?_)
    refine lv_aload_n K.hx K.hb d_M_done_105 rfl (lv_at hl 0 rfl) ?_
    refine lv_iconst (v := 0) K.hx K.hb d_M_done_106 (by decide) ?_
    refine g_puti K.1 hP hS (0) (by decide) rfl rfl i_M ft_M ft_M_ok n_M 23 (by decide) rfl (Or.inl kw_657) rfl rfl rfl (Nat.le_of_ble_eq_true rfl) rfl d_M_done_107 (fun H l1 hP hS => ?_)
    refine lv_iload_n K.hx K.hb d_M_done_110 rfl (lv_at hl 1 rfl) ?_
    exact de_i K hP hS (Or.inl ⟨hpl, rfl, rfl, rfl⟩) (Nat.le_of_ble_eq_true rfl) (Nat.le_of_ble_eq_true rfl) d_M_done_111
