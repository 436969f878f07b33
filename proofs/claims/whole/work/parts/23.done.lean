/-! done -/
def sk (v : Nat → Nat → Int32) (i : Nat) : Nat := (v (33 + i) 2).toNatClampNeg
def SK (rc : Nat) (v : Nat → Nat → Int32) : Prop := ∀ i, i < rc → ∃ t, t < 4 ∧ v (33 + i) 2 = nI t
theorem SK_sk {rc : Nat} {v : Nat → Nat → Int32} (h : SK rc v) {i : Nat} (hi : i < rc) : v (33 + i) 2 = nI (sk v i) ∧ sk v i < 4 := by
  obtain ⟨t, ht, e⟩ := h i hi
  have e2 : sk v i = t := by unfold sk; rw [e, nI_clamp (by omega)]
  rw [e2]
  exact ⟨e, ht⟩
def dnP (u : Nat → Nat → Int32) (i : Nat) : Bool := !decide (u (33 + i) 4 = -1) && !decide (u 18 (sk u i) ≤ 0)
def dnV (u : Nat → Nat → Int32) (i : Nat) : Nat → Nat → Int32 := kp (u2 (u2 u 18 (sk u i) (u 18 (sk u i) - 1)) (2 + th u i) 2 0) (th u i) (-1)
/-- the rows and the count when the first i repairs were looked at -/
def dn (v : Nat → Nat → Int32) : Nat → (Nat → Nat → Int32) × Int32
  | 0 => (v, 0)
  | i + 1 => if dnP (dn v i).1 i = true then (dnV (dn v i).1 i, (dn v i).2 + 1) else dn v i
abbrev dnv (v : Nat → Nat → Int32) (i : Nat) : Nat → Nat → Int32 := (dn v i).1
theorem dn_row {v : Nat → Nat → Int32} {rc : Nat} (hr : rc ≤ 5) (ht : ∀ i, i < rc → th v i < 8) {a : Nat} (ha : a = 19 ∨ 20 ≤ a) : ∀ i, i ≤ rc → dnv v i a = v a
  | 0, _ => rfl
  | i + 1, h => by
    have e := dn_row hr ht ha i (by omega)
    have e3 := dn_row hr ht (a := 33 + i) (Or.inr (by omega)) i (by omega)
    have et : th (dnv v i) i = th v i := by unfold th; rw [e3]
    have h8 := ht i (by omega)
    show (if dnP (dnv v i) i = true then (dnV (dnv v i) i, (dn v i).2 + 1) else dn v i).1 a = v a
    split
    · show dnV (dnv v i) i a = v a
      rw [← e]
      funext b
      unfold dnV
      rw [et]
      simp only [kp, u2_at]
      rw [if_neg (by omega), if_neg (by omega), if_neg (by omega)]
    · exact e
set_option maxHeartbeats 4000000 in
set_option maxRecDepth 100000 in
theorem lp_dn {p : Program} {l : Launch} {e : Env} {s : State} {m : MethodId} {args : Array Value} {below : List Frame} {meth : Method} {c : Code} {Q : State → Prop} {D : va_G} {cs : Nat → ClassId} {ad : Nat → Nat} {v : Nat → Nat → Int32} {sd : Int64} (K : Cx p l m meth c b_W_done 4 (some .int) s args "WearHours" D cs ad) {gc pc rc : Nat} (hPI : PI gc pc rc v) (hSK : SK rc v) 
    (kx : ∀  (H : Heap) (l1 : List Loc) (ls : Array Slot), va_P D classes (wv 42 ad (fun k => eC cs ad sd k ((dnv v rc) k))) H → va_S (aA 42 ad s.heap.size) s.heap H l1 → lv_has ls 4 [(0, .ref (ad 0)), (1, .int ((dn v rc).2))] → W p l e (rmx 3 1) s m args below meth c H l1 1 6 Q (F0 m 82 ls []))
    : ∀ (n i : Nat), i ≤ rc → rc < i + n → ∀ (H : Heap) (l1 : List Loc) (ls : Array Slot), va_P D classes (wv 42 ad (fun k => eC cs ad sd k ((dnv v i) k))) H → va_S (aA 42 ad s.heap.size) s.heap H l1 → lv_has ls 4 [(0, .ref (ad 0)), (1, .int ((dn v i).2)), (2, .int (nI i))] → W p l e (rmx 3 1) s m args below meth c H l1 1 6 Q (F0 m 8 ls []) := by
  intro n
  induction n with
  | zero =>
    intro i  h1 h2
    omega
  | succ n ih =>
    intro i  hle hlt H l1 ls hP hS hl
    have hr5 := hPI.2.2.2.2.2.1
    have hth : ∀ i, i < rc → th v i < 8 := fun i hi => (PI_th hPI hi).2
    have hc19 : dnv v i 19 5 = nI rc := by rw [dn_row hr5 hth (Or.inl rfl) i hle]; exact hPI.2.2.2.2.1
    refine lv_iload_n K.hx K.hb d_W_done_8 rfl (lv_at hl 2 rfl) ?_
    refine lv_aload_n K.hx K.hb d_W_done_9 rfl (lv_at hl 0 rfl) ?_
    refine g_get K.1 hP (0) (by decide) rfl rfl i_W 4 (by decide) rfl (Or.inl kw_226) rfl d_W_done_10 ?_
    refine g_get K.1 hP (19) (by decide) rfl rfl i_K 5 (by decide) rfl (Or.inr nw_168) rfl d_W_done_13 ?_
    refine lv_icmp_ge (tgt := 82) K.hx K.hb d_W_done_16 (by decide) (fun c_16 => ?_) (fun c_16 => ?_)
    · have hge : i = rc := Nat.le_antisymm hle ((nI_leI (by omega) (by omega)).mp (by rw [← hc19]; exact c_16))
      subst hge
      exact kx H l1 ls hP hS (lv_sub hl [0, 1] rfl)
    · have hlt2 : i < rc := Nat.lt_of_not_le (fun h => c_16 (by rw [hc19]; exact nI_le h (by omega)))
      have hi5 : i < 5 := by omega
      have e33 : dnv v i (33 + i) = v (33 + i) := dn_row hr5 hth (Or.inr (by omega)) i hle
      have hti : dnv v i (33 + i) 0 = nI (th (dnv v i) i) ∧ th (dnv v i) i < 8 := by have h9 := PI_th hPI hlt2; unfold th at h9 ⊢; rw [e33]; exact h9
      have hsi : dnv v i (33 + i) 2 = nI (sk (dnv v i) i) ∧ sk (dnv v i) i < 4 := by have h9 := SK_sk hSK hlt2; unfold sk at h9 ⊢; rw [e33]; exact h9
      have hti8 := hti.2
      have hsi4 := hsi.2
      refine lv_aload_n K.hx K.hb d_W_done_19 rfl (lv_at hl 0 rfl) ?_
      refine g_get K.1 hP (0) (by decide) rfl rfl i_W 4 (by decide) rfl (Or.inl kw_226) rfl d_W_done_20 ?_
      refine g_get K.1 hP (19) (by decide) rfl rfl i_K 4 (by decide) rfl (Or.inr nw_165) rfl d_W_done_23 ?_
      refine lv_iload_n K.hx K.hb d_W_done_26 rfl (lv_at hl 2 rfl) ?_
      refine g_aald K.1 hP (32) (by decide) rfl 6 rfl (i) rfl (by have := hi5; omega) (by decide) rfl d_W_done_27 ?_
      refine lv_astore_n (lv' := [(3, .ref (ad (33 + i))), (0, .ref (ad 0)), (1, .int ((dn v i).2)), (2, .int (nI i))]) K.hx K.hb d_W_done_28 rfl hl (by decide) rfl (fun ls hl => ?_)
      refine lv_aload_n K.hx K.hb d_W_done_29 rfl (lv_at hl 0 rfl) ?_
      refine cc_V K hP hS (c_R_isPlaced l D cs ad _ _ hi5) kw_308 xm_R_isPlaced kw_613 kw_306 kw_307 (g_recv K.1.2.1 hP (33 + i) (by have := hi5; omega) (eR hi5) rfl) rfl hl.1 d_W_done_30 (Nat.le_of_ble_eq_true rfl) (Nat.le_of_ble_eq_true rfl) ⟨(Nat.le_of_ble_eq_true rfl), (Nat.le_of_ble_eq_true rfl)⟩ (fun r v1 sd1 H l1 hp hP hS => ?_)
      obtain ⟨rfl, rfl, rfl⟩ := hp
      refine lv_if_eq (tgt := 76) K.hx K.hb d_W_done_33 (by decide) (fun c_33 => ?_) (fun c_33 => ?_)
      · refine lv_iinc (v := nI (i + 1)) (lv' := [(2, .int (nI (i + 1))), (3, .ref (ad (33 + i))), (0, .ref (ad 0)), (1, .int ((dn v i).2))]) K.hx K.hb d_W_done_76 hl (k := 3) rfl (nI_1 _) (by decide) rfl (fun ls hl => ?_)
        refine lv_goto (tgt := 8) K.hx K.hb d_W_done_79 (by decide) ?_
        have hdn : dn v (i + 1) = dn v i := if_neg (by simp [dnP, ite01 c_33])
        exact ih (i + 1) hlt2 (by omega) H l1 ls (by rw [show dnv v (i + 1) = dnv v i from congrArg Prod.fst hdn]; exact hP) hS (by rw [hdn]; exact lv_sub hl [2, 3, 0] rfl)
      · refine lv_aload_n K.hx K.hb d_W_done_36 rfl (lv_at hl 1 rfl) ?_
        refine g_get K.1 hP (0) (by decide) rfl rfl i_W 3 (by decide) rfl (Or.inl kw_225) rfl d_W_done_37 ?_
        refine lv_aload_n K.hx K.hb d_W_done_40 rfl (lv_at hl 0 rfl) ?_
        refine g_get K.1 hP (33 + i) (by have := hi5; omega) (eR hi5) rfl i_R 2 (by decide) rfl (Or.inr nw_129) rfl d_W_done_41 ?_
        refine g_iald K.1 hP (18) (by decide) rfl 0 rfl (sk (dnv v i) i) hsi.1 (by have := hsi4; omega) (by decide) d_W_done_44 ?_
        refine lv_if_le (tgt := 76) K.hx K.hb d_W_done_45 (by decide) (fun c_45 => ?_) (fun c_45 => ?_)
        · refine lv_iinc (v := nI (i + 1)) (lv' := [(2, .int (nI (i + 1))), (3, .ref (ad (33 + i))), (0, .ref (ad 0)), (1, .int ((dn v i).2))]) K.hx K.hb d_W_done_76 hl (k := 3) rfl (nI_1 _) (by decide) rfl (fun ls hl => ?_)
          refine lv_goto (tgt := 8) K.hx K.hb d_W_done_79 (by decide) ?_
          have hdn : dn v (i + 1) = dn v i := if_neg (by simp [dnP, c_45])
          exact ih (i + 1) hlt2 (by omega) H l1 ls (by rw [show dnv v (i + 1) = dnv v i from congrArg Prod.fst hdn]; exact hP) hS (by rw [hdn]; exact lv_sub hl [2, 3, 0] rfl)
        · refine lv_aload_n K.hx K.hb d_W_done_48 rfl (lv_at hl 1 rfl) ?_
          refine g_get K.1 hP (0) (by decide) rfl rfl i_W 3 (by decide) rfl (Or.inl kw_225) rfl d_W_done_49 ?_
          refine lv_aload_n K.hx K.hb d_W_done_52 rfl (lv_at hl 0 rfl) ?_
          refine g_get K.1 hP (33 + i) (by have := hi5; omega) (eR hi5) rfl i_R 2 (by decide) rfl (Or.inr nw_129) rfl d_W_done_53 ?_
          refine lv_dup2_11 K.hx K.hb d_W_done_56 rfl rfl ?_
          refine g_iald K.1 hP (18) (by decide) rfl 0 rfl (sk (dnv v i) i) hsi.1 (by have := hsi4; omega) (by decide) d_W_done_57 ?_
          refine lv_iconst (v := 1) K.hx K.hb d_W_done_58 (by decide) ?_
          refine lv_isub K.hx K.hb d_W_done_59 ?_
          refine g_iast K.1 hP hS (18) (by decide) (fun _ => rfl) 0 rfl (sk (dnv v i) i) hsi.1 (by have := hsi4; omega) (by decide) d_W_done_60 (fun H l1 hP hS => ?_)
          refine lv_aload_n K.hx K.hb d_W_done_61 rfl (lv_at hl 1 rfl) ?_
          refine g_get K.1 hP (0) (by decide) rfl rfl i_W 1 (by decide) rfl (Or.inl kw_223) rfl d_W_done_62 ?_
          refine lv_aload_n K.hx K.hb d_W_done_65 rfl (lv_at hl 0 rfl) ?_
          refine g_get K.1 hP (33 + i) (by have := hi5; omega) (eR hi5) rfl i_R 0 (by decide) rfl (Or.inr nw_124) rfl d_W_done_66 ?_
          refine lv_topE (y := ((dnv v i) (33 + i) 0)) (by first | (simp [u2_at, kp, occ]; done) | (simp [u2_at, kp, occ] <;> (intros; omega)) | (simp only [u2_at, kp, occ]; (repeat' split) <;> first | rfl | (exfalso; omega))) ?_
          refine g_aald K.1 hP (1) (by decide) rfl 3 rfl (th (dnv v i) i) hti.1 (by have := hti8; omega) (by decide) rfl d_W_done_69 ?_
          refine cc_V K hP hS (c_T_mend l D cs ad _ _ hti8) kw_617 xm_T_mend kw_614 kw_615 kw_616 (g_recv K.1.2.1 hP (2 + (th (dnv v i) i)) (by have := hti8; omega) (eT hti8) rfl) rfl hl.1 d_W_done_70 (Nat.le_of_ble_eq_true rfl) (Nat.le_of_ble_eq_true rfl) ⟨(Nat.le_of_ble_eq_true rfl), (Nat.le_of_ble_eq_true rfl)⟩ (fun r v1 sd1 H l1 hp hP hS => ?_)
          obtain ⟨rfl, rfl, rfl⟩ := hp
          refine lv_iinc (v := ((dn v i).2) + 1) (lv' := [(1, .int (((dn v i).2) + 1)), (3, .ref (ad (33 + i))), (0, .ref (ad 0)), (2, .int (nI i))]) K.hx K.hb d_W_done_73 hl (k := 2) rfl rfl (by decide) rfl (fun ls hl => ?_)
          refine lv_iinc (v := nI (i + 1)) (lv' := [(2, .int (nI (i + 1))), (1, .int (((dn v i).2) + 1)), (3, .ref (ad (33 + i))), (0, .ref (ad 0))]) K.hx K.hb d_W_done_76 hl (k := 3) rfl (nI_1 _) (by decide) rfl (fun ls hl => ?_)
          refine lv_goto (tgt := 8) K.hx K.hb d_W_done_79 (by decide) ?_
          have hdn : dn v (i + 1) = (kp (u2 (u2 (dnv v i) 18 (sk (dnv v i) i) (((dnv v i) 18 (sk (dnv v i) i)) - 1)) (2 + (th (dnv v i) i)) 2 0) (th (dnv v i) i) (-1), (dn v i).2 + 1) := if_pos (by simp only [dnP, decide_eq_false (show ¬ dnv v i (33 + i) 4 = -1 from fun h => c_33 (by rw [if_pos h])), decide_eq_false c_45]; rfl)
          exact ih (i + 1) hlt2 (by omega) H l1 ls (by rw [show dnv v (i + 1) = kp (u2 (u2 (dnv v i) 18 (sk (dnv v i) i) (((dnv v i) 18 (sk (dnv v i) i)) - 1)) (2 + (th (dnv v i) i)) 2 0) (th (dnv v i) i) (-1) from congrArg Prod.fst hdn]; exact hP) hS (by rw [hdn]; exact lv_sub hl [3, 1, 0] rfl)
set_option maxHeartbeats 4000000 in
set_option maxRecDepth 100000 in
theorem c_W_done (l : Launch) (D : va_G) (cs : Nat → ClassId) (ad : Nat → Nat) (v : Nat → Nat → Int32) (sd : Int64) (hfl : l.flags = flags0) {gc pc rc : Nat} (hPI : PI gc pc rc v) (hSK : SK rc v)  : Cm l y_W_done b_W_done 4 (some .int) (rmx 3 1) [.ref (ad 0)] D cs ad v sd (fun r v' sd' => ¬ v 38 4 = 0 ∧ r = some (.int (dn v rc).2) ∧ u2 (u2 (dnv v rc) 19 5 0) 38 4 0 = v' ∧ sd = sd') (fun cls => v 38 4 = 0 ∧ cls = "java/lang/IllegalStateException") := by
  refine cw_enter (own := "WearHours") rfl (Nat.le_of_ble_eq_true rfl) ?_
  intro p e s m below meth c ls K hS hP hl
  have hl : lv_has ls 4 [(0, .ref (ad 0))] := hl
  refine lv_aload_n K.hx K.hb d_W_done_0 rfl (lv_at hl 0 rfl) ?_
  refine cc_Vx K hP hS (c_W_checkPlan l D cs ad _ _ hfl) (fun cls h => h) kw_597 xm_W_checkPlan kw_594 kw_596 kw_12 (g_recv K.1.2.1 hP (0) (by decide) rfl rfl) rfl hl.1 d_W_done_1 (Nat.le_of_ble_eq_true rfl) (Nat.le_of_ble_eq_true rfl) ⟨(Nat.le_of_ble_eq_true rfl), (Nat.le_of_ble_eq_true rfl)⟩ (Nat.le_of_ble_eq_true rfl) (Nat.le_of_ble_eq_true rfl) (fun r v1 sd1 H l1 hp hP hS => ?_)
  obtain ⟨hcp, rfl, rfl, rfl⟩ := hp
  refine lv_iconst (v := 0) K.hx K.hb d_W_done_4 (by decide) ?_
  refine lv_istore_n (lv' := [(1, .int 0), (0, .ref (ad 0))]) K.hx K.hb d_W_done_5 rfl hl (by decide) rfl (fun ls hl => ?_)
  refine lv_iconst (v := 0) K.hx K.hb d_W_done_6 (by decide) ?_
  refine lv_istore_n (lv' := [(2, .int 0), (1, .int 0), (0, .ref (ad 0))]) K.hx K.hb d_W_done_7 rfl hl (by decide) rfl (fun ls hl => ?_)
  refine lp_dn K hPI hSK (fun H l1 ls hP hS hl => ?_) (rc + 1) 0 (by omega) (by omega) _ _ ls hP hS (lv_sub hl [2, 1, 0] rfl)
  refine lv_aload_n K.hx K.hb d_W_done_82 rfl (lv_at hl 0 rfl) ?_
  refine g_get K.1 hP (0) (by decide) rfl rfl i_W 4 (by decide) rfl (Or.inl kw_226) rfl d_W_done_83 ?_
  refine lv_iconst (v := 0) K.hx K.hb d_W_done_86 (by decide) ?_
  refine g_puti K.1 hP hS (19) (by decide) rfl rfl i_K ft_K ft_K_ok n_K 5 (by decide) rfl (Or.inr nw_168) rfl rfl rfl (Nat.le_of_ble_eq_true rfl) rfl d_W_done_87 (fun H l1 hP hS => ?_)
  refine lv_aload_n K.hx K.hb d_W_done_90 rfl (lv_at hl 0 rfl) ?_
  refine g_get K.1 hP (0) (by decide) rfl rfl i_W 5 (by decide) rfl (Or.inl kw_227) rfl d_W_done_91 ?_
  refine cc_V K hP hS (c_L_forget l D cs ad _ _) kw_547 xm_L_forget kw_544 kw_545 kw_546 (g_recv K.1.2.1 hP (38) (by decide) rfl rfl) rfl hl.1 d_W_done_94 (Nat.le_of_ble_eq_true rfl) (Nat.le_of_ble_eq_true rfl) ⟨(Nat.le_of_ble_eq_true rfl), (Nat.le_of_ble_eq_true rfl)⟩ (fun r v1 sd1 H l1 hp hP hS => ?_)
  obtain ⟨rfl, rfl, rfl⟩ := hp
  refine lv_iload_n K.hx K.hb d_W_done_97 rfl (lv_at hl 1 rfl) ?_
  exact ce_i K hP hS ⟨hcp, rfl, rfl, rfl⟩ (Nat.le_of_ble_eq_true rfl) (Nat.le_of_ble_eq_true rfl) d_W_done_98
