/-! the reference's search: best, and the roads of its loop -/
def bsM (v : Nat → Nat → Int32) (rc i : Nat) : Nat → Nat → Int32 := fun k j => if k = 16 ∧ j < i then v 22 j else if k = 17 ∧ j < i then v 21 j else if k = 0 ∧ j = 23 then 1 else if k = 0 ∧ j = 24 then v 20 rc else v k j
theorem bsM_0 (v : Nat → Nat → Int32) (rc : Nat) : u2 (u2 v 0 23 1) 0 24 (v 20 rc) = bsM v rc 0 := by
  funext k j
  simp only [u2_at, bsM, Nat.not_lt_zero, and_false, if_false]
  by_cases h1 : k = 0 ∧ j = 23
  · rw [if_pos h1, if_pos h1, if_neg (by omega)]
  · rw [if_neg h1, if_neg h1]
theorem bsM_s (v : Nat → Nat → Int32) (rc i : Nat) : u2 (u2 (bsM v rc i) 16 i (bsM v rc i 22 i)) 17 i (bsM v rc i 21 i) = bsM v rc (i + 1) := by
  have e1 : bsM v rc i 22 i = v 22 i := by simp [bsM]
  have e2 : bsM v rc i 21 i = v 21 i := by simp [bsM]
  rw [e1, e2]
  funext k j
  simp only [u2_at, bsM]
  by_cases h1 : k = 17
  · subst h1
    by_cases h2 : j = i
    · subst h2
      simp
    · by_cases h3 : j < i
      · simp [h2, h3, show j < i + 1 by omega]
      · simp [h2, h3, show ¬ j < i + 1 by omega]
  · by_cases h4 : k = 16
    · subst h4
      by_cases h2 : j = i
      · subst h2
        simp
      · by_cases h3 : j < i
        · simp [h2, h3, show j < i + 1 by omega]
        · simp [h2, h3, show ¬ j < i + 1 by omega]
    · simp [h1, h4]
def hrM (v : Nat → Nat → Int32) (i ch gc pc t : Nat) : Int32 := if nI ch = nI (gc * pc) then -1 else begM v i (ch / pc) (ch % pc) t
theorem tkM_r {v : Nat → Nat → Int32} {i ch pc t k : Nat} (h : k ≠ 18 ∧ k ≠ 19 ∧ k ≠ 20) : tkM v i ch pc t k = v k := by
  have e : cpM v i k = v k := by
    funext j
    simp only [cpM]
    rw [if_neg (fun q => h.1 q.1), if_neg (fun q => h.2.1 q.1)]
  unfold tkM
  split
  · rw [u2_ne h.2.1, u2_ne h.1, u2_ne h.2.2, e]
  · rw [u2_ne h.2.2, e]
def cnM (v : Nat → Nat → Int32) : Nat → Int32
  | 0 => 0
  | k + 1 => if v 16 k < 0 then cnM v k else cnM v k + 1
theorem nI_dec (i : Nat) : nI (i + 1) + (-1) = nI i := by
  rw [← Int32.sub_eq_add_neg]
  exact nI_pred i
theorem fl6 {c g p : Nat} (h : c < g * p) (hg : g ≤ 6) (hp : p ≤ 4) : 0 < p ∧ c / p < 6 ∧ c % p < 4 ∧ c < 1000 := by
  have h0 : 0 < p := Nat.pos_of_ne_zero (fun q => by subst q; simp at h)
  have h1 : c / p < g := Nat.div_lt_of_lt_mul (by rw [Nat.mul_comm]; exact h)
  have h2 := Nat.mod_lt c h0
  have h3 : g * p ≤ 6 * 4 := Nat.mul_le_mul hg hp
  exact ⟨h0, by omega, by omega, by omega⟩
set_option maxHeartbeats 4000000 in
set_option maxRecDepth 100000 in
theorem lp_bs {p : Program} {l : Launch} {e : Env} {s : State} {m : MethodId} {args : Array Value} {below : List Frame} {meth : Method} {c : Code} {Q : State → Prop} {D : va_G} {cs : Nat → ClassId} {ad : Nat → Nat} {v : Nat → Nat → Int32} {sd : Int64} (K : Dx p l m meth c b_M_best 2 none s args "WearHoursModel" D cs ad) {rc : Nat} (hrc : v 0 15 = nI rc) (hr5 : rc ≤ 5) 
    (kx : ∀  (H : Heap) (l1 : List Loc) (ls : Array Slot), va_P D classes (wv 23 ad (fun k => eM cs ad sd k ((bsM v rc rc) k))) H → va_S (aA 23 ad s.heap.size) s.heap H l1 → lv_has ls 2 [(0, .ref (ad 0))] → W p l e (rmx 1 0) s m args below meth c H l1 0 0 Q (F0 m 58 ls []))
    : ∀ (n i : Nat), i ≤ rc → rc < i + n → ∀ (H : Heap) (l1 : List Loc) (ls : Array Slot), va_P D classes (wv 23 ad (fun k => eM cs ad sd k ((bsM v rc i) k))) H → va_S (aA 23 ad s.heap.size) s.heap H l1 → lv_has ls 2 [(0, .ref (ad 0)), (1, .int (nI i))] → W p l e (rmx 1 0) s m args below meth c H l1 0 0 Q (F0 m 20 ls []) := by
  intro n
  induction n with
  | zero =>
    intro i  h1 h2
    omega
  | succ n ih =>
    intro i  hle hlt H l1 ls hP hS hl
    have h15 : bsM v rc i 0 15 = nI rc := by simp [bsM]; exact hrc
    refine lv_iload_n K.hx K.hb d_M_best_20 rfl (lv_at hl 1 rfl) ?_
    refine lv_aload_n K.hx K.hb d_M_best_21 rfl (lv_at hl 0 rfl) ?_
    refine g_get K.1 hP (0) (by decide) rfl rfl i_M 15 (by decide) rfl (Or.inl kw_649) rfl d_M_best_22 ?_
    refine lv_topE (y := nI rc) h15 ?_
    refine lv_icmp_ge (tgt := 58) K.hx K.hb d_M_best_25 (by decide) (fun c_25 => ?_) (fun c_25 => ?_)
    · have hge : i = rc := Nat.le_antisymm hle ((nI_leI (by omega) (by omega)).mp c_25)
      subst hge
      exact kx H l1 ls hP hS (lv_sub hl [0] rfl)
    · have hlt2 : i < rc := Nat.lt_of_not_le (fun h => c_25 (nI_le h (by omega)))
      refine lv_aload_n K.hx K.hb d_M_best_28 rfl (lv_at hl 0 rfl) ?_
      refine g_get K.1 hP (0) (by decide) rfl rfl i_M 25 (by decide) rfl (Or.inl kw_659) rfl d_M_best_29 ?_
      refine lv_iload_n K.hx K.hb d_M_best_32 rfl (lv_at hl 1 rfl) ?_
      refine lv_aload_n K.hx K.hb d_M_best_33 rfl (lv_at hl 0 rfl) ?_
      refine g_get K.1 hP (0) (by decide) rfl rfl i_M 31 (by decide) rfl (Or.inl kw_665) rfl d_M_best_34 ?_
      refine lv_iload_n K.hx K.hb d_M_best_37 rfl (lv_at hl 1 rfl) ?_
      refine g_iald K.1 hP (22) (by decide) rfl 0 rfl (i) rfl (by omega) (by decide) d_M_best_38 ?_
      refine g_iast K.1 hP hS (16) (by decide) (fun _ => rfl) 0 rfl (i) rfl (by omega) (by decide) d_M_best_39 (fun H l1 hP hS => ?_)
      refine lv_aload_n K.hx K.hb d_M_best_40 rfl (lv_at hl 0 rfl) ?_
      refine g_get K.1 hP (0) (by decide) rfl rfl i_M 26 (by decide) rfl (Or.inl kw_660) rfl d_M_best_41 ?_
      refine lv_iload_n K.hx K.hb d_M_best_44 rfl (lv_at hl 1 rfl) ?_
      refine lv_aload_n K.hx K.hb d_M_best_45 rfl (lv_at hl 0 rfl) ?_
      refine g_get K.1 hP (0) (by decide) rfl rfl i_M 30 (by decide) rfl (Or.inl kw_664) rfl d_M_best_46 ?_
      refine lv_iload_n K.hx K.hb d_M_best_49 rfl (lv_at hl 1 rfl) ?_
      refine g_iald K.1 hP (21) (by decide) rfl 0 rfl (i) rfl (by omega) (by decide) d_M_best_50 ?_
      refine lv_topE (y := ((bsM v rc i) 21 i)) (by first | (simp [u2_at, kpM]; done) | (simp only [u2_at, kpM]; repeat (rw [if_neg (by omega)])) | (simp [u2_at, kpM] <;> (intros; omega))) ?_
      refine g_iast K.1 hP hS (17) (by decide) (fun _ => rfl) 0 rfl (i) rfl (by omega) (by decide) d_M_best_51 (fun H l1 hP hS => ?_)
      refine lv_iinc (v := nI (i + 1)) (lv' := [(1, .int (nI (i + 1))), (0, .ref (ad 0))]) K.hx K.hb d_M_best_52 hl (k := 1) rfl (nI_1 _) (by decide) rfl (fun ls hl => ?_)
      refine lv_goto (tgt := 20) K.hx K.hb d_M_best_55 (by decide) ?_
      rw [bsM_s] at hP
      exact ih (i + 1) hlt2 (by omega) H l1 ls hP hS (lv_sub hl [1, 0] rfl)
set_option maxHeartbeats 4000000 in
set_option maxRecDepth 100000 in
theorem c_M_best (l : Launch) (D : va_G) (cs : Nat → ClassId) (ad : Nat → Nat) (v : Nat → Nat → Int32) (sd : Int64) {rc : Nat} (hrc : v 0 15 = nI rc) (hr5 : rc ≤ 5)  : Dm l y_M_best b_M_best 2 none (rmx 1 0) [.ref (ad 0)] D cs ad v sd (fun r v' sd' => r = none ∧ bsM v rc rc = v' ∧ sd = sd') (fun cls => False) := by
  refine dw_enter (own := "WearHoursModel") rfl (Nat.le_of_ble_eq_true rfl) ?_
  intro p e s m below meth c ls K hS hP hl
  have hl : lv_has ls 2 [(0, .ref (ad 0))] := hl
  refine lv_aload_n K.hx K.hb d_M_best_0 rfl (lv_at hl 0 rfl) ?_
  refine lv_iconst (v := 1) K.hx K.hb d_M_best_1 (by decide) ?_
  refine g_puti K.1 hP hS (0) (by decide) rfl rfl i_M ft_M ft_M_ok n_M 23 (by decide) rfl (Or.inl kw_657) rfl rfl rfl (Nat.le_of_ble_eq_true rfl) rfl d_M_best_2 (fun H l1 hP hS => ?_)
  refine lv_aload_n K.hx K.hb d_M_best_5 rfl (lv_at hl 0 rfl) ?_
  refine lv_aload_n K.hx K.hb d_M_best_6 rfl (lv_at hl 0 rfl) ?_
  refine g_get K.1 hP (0) (by decide) rfl rfl i_M 29 (by decide) rfl (Or.inl kw_663) rfl d_M_best_7 ?_
  refine lv_aload_n K.hx K.hb d_M_best_10 rfl (lv_at hl 0 rfl) ?_
  refine g_get K.1 hP (0) (by decide) rfl rfl i_M 15 (by decide) rfl (Or.inl kw_649) rfl d_M_best_11 ?_
  refine lv_topE (y := (v 0 15)) (by first | (simp [u2_at, kpM]; done) | (simp [u2_at, kpM] <;> (intros; omega)) | (simp only [u2_at, kpM]; (repeat' split) <;> first | rfl | (exfalso; omega))) ?_
  refine lv_topE (y := nI rc) hrc ?_
  refine g_iald K.1 hP (20) (by decide) rfl 0 rfl (rc) rfl (by omega) (by decide) d_M_best_14 ?_
  refine lv_topE (y := (v 20 rc)) (by first | (simp [u2_at, kpM]; done) | (simp only [u2_at, kpM]; repeat (rw [if_neg (by omega)])) | (simp [u2_at, kpM] <;> (intros; omega))) ?_
  refine g_puti K.1 hP hS (0) (by decide) rfl rfl i_M ft_M ft_M_ok n_M 24 (by decide) rfl (Or.inl kw_658) rfl rfl rfl (Nat.le_of_ble_eq_true rfl) rfl d_M_best_15 (fun H l1 hP hS => ?_)
  refine lv_iconst (v := 0) K.hx K.hb d_M_best_18 (by decide) ?_
  refine lv_istore_n (lv' := [(1, .int 0), (0, .ref (ad 0))]) K.hx K.hb d_M_best_19 rfl hl (by decide) rfl (fun ls hl => ?_)
  rw [bsM_0] at hP
  refine lp_bs K hrc hr5 (fun H l1 ls hP hS hl => ?_) (rc + 1) 0 (by omega) (by omega) _ _ ls hP hS (lv_sub hl [1, 0] rfl)
  exact de_v K hP hS ⟨rfl, rfl, rfl⟩ (Nat.le_of_ble_eq_true rfl) (Nat.le_of_ble_eq_true rfl) d_M_best_58
set_option maxHeartbeats 4000000 in
set_option maxRecDepth 100000 in
theorem pl_leaf {p : Program} {l : Launch} {e : Env} {s : State} {m : MethodId} {args : Array Value} {below : List Frame} {meth : Method} {c : Code} {Q : State → Prop} {D : va_G} {cs : Nat → ClassId} {ad : Nat → Nat} {v : Nat → Nat → Int32} {sd : Int64} (K : Dx p l m meth c b_M_plan 5 (some .int) s args "WearHoursModel" D cs ad) {gc pc rc : Nat} (hrc : v 0 15 = nI rc) (hr5 : rc ≤ 5)
    (kx : ∀  (H : Heap) (l1 : List Loc) (ls : Array Slot), va_P D classes (wv 23 ad (fun k => eM cs ad sd k ((if v 0 23 = 0 ∨ ¬ v 0 24 ≤ v 20 rc then bsM v rc rc else v) k))) H → va_S (aA 23 ad s.heap.size) s.heap H l1 → lv_has ls 5 [(0, .ref (ad 0)), (1, .int (nI (gc * pc))), (2, .int (nI rc))] → W p l e (rmx 3 0) s m args below meth c H l1 0 0 Q (F0 m 131 ls []))
    : ∀ (H : Heap) (l1 : List Loc) (ls : Array Slot), va_P D classes (wv 23 ad (fun k => eM cs ad sd k (v k))) H → va_S (aA 23 ad s.heap.size) s.heap H l1 → lv_has ls 5 [(0, .ref (ad 0)), (1, .int (nI (gc * pc))), (2, .int (nI rc))] → W p l e (rmx 3 0) s m args below meth c H l1 0 0 Q (F0 m 77 ls []) := by
  intro H l1 ls hP hS hl
  refine lv_iload_n K.hx K.hb d_M_plan_77 rfl (lv_at hl 2 rfl) ?_
  refine lv_if_lt (tgt := 283) K.hx K.hb d_M_plan_78 (by decide) (fun c_78 => (absurd c_78 (nI_pos (by omega)))) (fun c_78 => ?_)
  refine lv_iload_n K.hx K.hb d_M_plan_81 rfl (lv_at hl 2 rfl) ?_
  refine lv_aload_n K.hx K.hb d_M_plan_82 rfl (lv_at hl 0 rfl) ?_
  refine g_get K.1 hP (0) (by decide) rfl rfl i_M 15 (by decide) rfl (Or.inl kw_649) rfl d_M_plan_83 ?_
  refine lv_topE (y := nI rc) hrc ?_
  refine lv_icmp_eq (tgt := 99) K.hx K.hb d_M_plan_86 (by decide) (fun c_86 => ?_) (fun c_86 => (absurd rfl c_86))
  refine lv_iload_n K.hx K.hb d_M_plan_99 rfl (lv_at hl 2 rfl) ?_
  refine lv_aload_n K.hx K.hb d_M_plan_100 rfl (lv_at hl 0 rfl) ?_
  refine g_get K.1 hP (0) (by decide) rfl rfl i_M 15 (by decide) rfl (Or.inl kw_649) rfl d_M_plan_101 ?_
  refine lv_topE (y := nI rc) hrc ?_
  refine lv_icmp_ne (tgt := 131) K.hx K.hb d_M_plan_104 (by decide) (fun c_104 => (absurd rfl c_104)) (fun c_104 => ?_)
  refine lv_aload_n K.hx K.hb d_M_plan_107 rfl (lv_at hl 0 rfl) ?_
  refine g_get K.1 hP (0) (by decide) rfl rfl i_M 23 (by decide) rfl (Or.inl kw_657) rfl d_M_plan_108 ?_
  refine lv_if_eq (tgt := 127) K.hx K.hb d_M_plan_111 (by decide) (fun c_111 => ?_) (fun c_111 => ?_)
  · refine lv_aload_n K.hx K.hb d_M_plan_127 rfl (lv_at hl 0 rfl) ?_
    refine dd_V K hP hS (c_M_best l D cs ad _ _ hrc hr5) kw_818 xm_M_best kw_815 kw_817 kw_18 (g_recv K.1.2.1 hP (0) (by decide) rfl rfl) rfl hl.1 d_M_plan_128 (Nat.le_of_ble_eq_true rfl) (Nat.le_of_ble_eq_true rfl) ⟨(Nat.le_of_ble_eq_true rfl), (Nat.le_of_ble_eq_true rfl)⟩ (fun r v1 sd1 H l1 hp hP hS => ?_)
    obtain ⟨rfl, rfl, rfl⟩ := hp
    exact kx H l1 ls (by rw [if_pos (Or.inl c_111)]; exact hP) hS (lv_sub hl [0, 1, 2] rfl)
  · refine lv_aload_n K.hx K.hb d_M_plan_114 rfl (lv_at hl 0 rfl) ?_
    refine g_get K.1 hP (0) (by decide) rfl rfl i_M 29 (by decide) rfl (Or.inl kw_663) rfl d_M_plan_115 ?_
    refine lv_iload_n K.hx K.hb d_M_plan_118 rfl (lv_at hl 2 rfl) ?_
    refine g_iald K.1 hP (20) (by decide) rfl 0 rfl (rc) rfl (by omega) (by decide) d_M_plan_119 ?_
    refine lv_aload_n K.hx K.hb d_M_plan_120 rfl (lv_at hl 0 rfl) ?_
    refine g_get K.1 hP (0) (by decide) rfl rfl i_M 24 (by decide) rfl (Or.inl kw_658) rfl d_M_plan_121 ?_
    refine lv_icmp_ge (tgt := 131) K.hx K.hb d_M_plan_124 (by decide) (fun c_124 => ?_) (fun c_124 => ?_)
    · exact kx H l1 ls (by rw [if_neg (fun h => h.elim (fun h => c_111 h) (fun h => h c_124))]; exact hP) hS (lv_sub hl [0, 1, 2] rfl)
    · refine lv_aload_n K.hx K.hb d_M_plan_127 rfl (lv_at hl 0 rfl) ?_
      refine dd_V K hP hS (c_M_best l D cs ad _ _ hrc hr5) kw_818 xm_M_best kw_815 kw_817 kw_18 (g_recv K.1.2.1 hP (0) (by decide) rfl rfl) rfl hl.1 d_M_plan_128 (Nat.le_of_ble_eq_true rfl) (Nat.le_of_ble_eq_true rfl) ⟨(Nat.le_of_ble_eq_true rfl), (Nat.le_of_ble_eq_true rfl)⟩ (fun r v1 sd1 H l1 hp hP hS => ?_)
      obtain ⟨rfl, rfl, rfl⟩ := hp
      exact kx H l1 ls (by rw [if_pos (Or.inr c_124)]; exact hP) hS (lv_sub hl [0, 1, 2] rfl)
set_option maxHeartbeats 4000000 in
set_option maxRecDepth 100000 in
theorem pl_up {p : Program} {l : Launch} {e : Env} {s : State} {m : MethodId} {args : Array Value} {below : List Frame} {meth : Method} {c : Code} {Q : State → Prop} {D : va_G} {cs : Nat → ClassId} {ad : Nat → Nat} {v : Nat → Nat → Int32} {sd : Int64} (K : Dx p l m meth c b_M_plan 5 (some .int) s args "WearHoursModel" D cs ad) {gc pc i ch : Nat} (hi : i < 5) (hc : v 21 i = nI ch)
    (kx : ∀  (H : Heap) (l1 : List Loc) (ls : Array Slot), va_P D classes (wv 23 ad (fun k => eM cs ad sd k ((u2 v 21 i (nI (ch + 1))) k))) H → va_S (aA 23 ad s.heap.size) s.heap H l1 → lv_has ls 5 [(0, .ref (ad 0)), (1, .int (nI (gc * pc))), (2, .int (nI i))] → W p l e (rmx 3 0) s m args below meth c H l1 0 0 Q (F0 m 77 ls []))
    : ∀ (H : Heap) (l1 : List Loc) (ls : Array Slot), va_P D classes (wv 23 ad (fun k => eM cs ad sd k (v k))) H → va_S (aA 23 ad s.heap.size) s.heap H l1 → lv_has ls 5 [(0, .ref (ad 0)), (1, .int (nI (gc * pc))), (2, .int (nI (i + 1)))] → W p l e (rmx 3 0) s m args below meth c H l1 0 0 Q (F0 m 131 ls []) := by
  intro H l1 ls hP hS hl
  refine lv_iinc (v := nI i) (lv' := [(2, .int (nI i)), (0, .ref (ad 0)), (1, .int (nI (gc * pc)))]) K.hx K.hb d_M_plan_131 hl (k := 2) rfl (nI_dec i) (by decide) rfl (fun ls hl => ?_)
  refine lv_iload_n K.hx K.hb d_M_plan_134 rfl (lv_at hl 0 rfl) ?_
  refine lv_if_lt (tgt := 77) K.hx K.hb d_M_plan_135 (by decide) (fun c_135 => (absurd c_135 (nI_pos (by omega)))) (fun c_135 => ?_)
  refine lv_aload_n K.hx K.hb d_M_plan_138 rfl (lv_at hl 1 rfl) ?_
  refine g_get K.1 hP (0) (by decide) rfl rfl i_M 30 (by decide) rfl (Or.inl kw_664) rfl d_M_plan_139 ?_
  refine lv_iload_n K.hx K.hb d_M_plan_142 rfl (lv_at hl 0 rfl) ?_
  refine lv_dup2_11 K.hx K.hb d_M_plan_143 rfl rfl ?_
  refine g_iald K.1 hP (21) (by decide) rfl 0 rfl (i) rfl (by omega) (by decide) d_M_plan_144 ?_
  refine lv_topE (y := nI ch) hc ?_
  refine lv_iconst (v := 1) K.hx K.hb d_M_plan_145 (by decide) ?_
  refine lv_iadd K.hx K.hb d_M_plan_146 ?_
  refine lv_topE (y := nI (ch + 1)) (nI_add _ _) ?_
  refine g_iast K.1 hP hS (21) (by decide) (fun _ => rfl) 0 rfl (i) rfl (by omega) (by decide) d_M_plan_147 (fun H l1 hP hS => ?_)
  refine lv_goto (tgt := 77) K.hx K.hb d_M_plan_148 (by decide) ?_
  exact kx H l1 ls hP hS (lv_sub hl [1, 2, 0] rfl)
set_option maxHeartbeats 4000000 in
set_option maxRecDepth 100000 in
theorem pl_out {p : Program} {l : Launch} {e : Env} {s : State} {m : MethodId} {args : Array Value} {below : List Frame} {meth : Method} {c : Code} {Q : State → Prop} {D : va_G} {cs : Nat → ClassId} {ad : Nat → Nat} {v : Nat → Nat → Int32} {sd : Int64} (K : Dx p l m meth c b_M_plan 5 (some .int) s args "WearHoursModel" D cs ad) {gc pc : Nat}
    (kx : ∀  (H : Heap) (l1 : List Loc) (ls : Array Slot), va_P D classes (wv 23 ad (fun k => eM cs ad sd k (v k))) H → va_S (aA 23 ad s.heap.size) s.heap H l1 → lv_has ls 5 [(0, .ref (ad 0))] → W p l e (rmx 3 0) s m args below meth c H l1 0 0 Q (F0 m 283 ls []))
    : ∀ (H : Heap) (l1 : List Loc) (ls : Array Slot), va_P D classes (wv 23 ad (fun k => eM cs ad sd k (v k))) H → va_S (aA 23 ad s.heap.size) s.heap H l1 → lv_has ls 5 [(0, .ref (ad 0)), (1, .int (nI (gc * pc))), (2, .int (nI 0))] → W p l e (rmx 3 0) s m args below meth c H l1 0 0 Q (F0 m 131 ls []) := by
  intro H l1 ls hP hS hl
  refine lv_iinc (v := -1) (lv' := [(2, .int (-1)), (0, .ref (ad 0)), (1, .int (nI (gc * pc)))]) K.hx K.hb d_M_plan_131 hl (k := 2) rfl (by decide) (by decide) rfl (fun ls hl => ?_)
  refine lv_iload_n K.hx K.hb d_M_plan_134 rfl (lv_at hl 0 rfl) ?_
  refine lv_if_lt (tgt := 77) K.hx K.hb d_M_plan_135 (by decide) (fun _ => ?_) (fun c_135 => (show False from by revert c_135; decide).elim)
  refine lv_iload_n K.hx K.hb d_M_plan_77 rfl (lv_at hl 0 rfl) ?_
  refine lv_if_lt (tgt := 283) K.hx K.hb d_M_plan_78 (by decide) (fun _ => ?_) (fun c_78 => (show False from by revert c_78; decide).elim)
  exact kx H l1 ls hP hS (lv_sub hl [1] rfl)
set_option maxHeartbeats 4000000 in
set_option maxRecDepth 100000 in
theorem pl_step {p : Program} {l : Launch} {e : Env} {s : State} {m : MethodId} {args : Array Value} {below : List Frame} {meth : Method} {c : Code} {Q : State → Prop} {D : va_G} {cs : Nat → ClassId} {ad : Nat → Nat} {v : Nat → Nat → Int32} {sd : Int64} (K : Dx p l m meth c b_M_plan 5 (some .int) s args "WearHoursModel" D cs ad) {gc pc rc i ch t : Nat} (hrc : v 0 15 = nI rc) (hr5 : rc ≤ 5) (hi : i < rc) (hpc : v 0 11 = nI pc) (hp4 : pc ≤ 4) (hg6 : gc ≤ 6) (hc : v 21 i = nI ch) (hcN : ch ≤ gc * pc + 1) (ht0 : v 11 i = nI t) (ht : t < 8)
    (ku : ∀ (_ : gc * pc < ch) (H : Heap) (l1 : List Loc) (ls : Array Slot), va_P D classes (wv 23 ad (fun k => eM cs ad sd k (v k))) H → va_S (aA 23 ad s.heap.size) s.heap H l1 → lv_has ls 5 [(0, .ref (ad 0)), (1, .int (nI (gc * pc))), (2, .int (nI i))] → W p l e (rmx 3 0) s m args below meth c H l1 0 0 Q (F0 m 131 ls []))
    (kn : ∀ (_ : ch < gc * pc) (_ : hrM v i ch gc pc t < 0) (H : Heap) (l1 : List Loc) (ls : Array Slot), va_P D classes (wv 23 ad (fun k => eM cs ad sd k ((u2 (u2 v 22 i (hrM v i ch gc pc t)) 21 i (nI (ch + 1))) k))) H → va_S (aA 23 ad s.heap.size) s.heap H l1 → lv_has ls 5 [(0, .ref (ad 0)), (1, .int (nI (gc * pc))), (2, .int (nI i))] → W p l e (rmx 3 0) s m args below meth c H l1 0 0 Q (F0 m 77 ls []))
    (kp : ∀ (_ : ch ≤ gc * pc) (_ : ch = gc * pc ∨ 0 ≤ hrM v i ch gc pc t) (_ : ¬ (tkM (u2 v 22 i (hrM v i ch gc pc t)) i ch pc t) 0 23 = 0) (_ : (tkM (u2 v 22 i (hrM v i ch gc pc t)) i ch pc t) 0 24 ≤ (tkM (u2 v 22 i (hrM v i ch gc pc t)) i ch pc t) 20 (i + 1)) (H : Heap) (l1 : List Loc) (ls : Array Slot), va_P D classes (wv 23 ad (fun k => eM cs ad sd k ((u2 (tkM (u2 v 22 i (hrM v i ch gc pc t)) i ch pc t) 21 i (nI (ch + 1))) k))) H → va_S (aA 23 ad s.heap.size) s.heap H l1 → lv_has ls 5 [(0, .ref (ad 0)), (1, .int (nI (gc * pc))), (2, .int (nI i))] → W p l e (rmx 3 0) s m args below meth c H l1 0 0 Q (F0 m 77 ls []))
    (kd : ∀ (_ : ch ≤ gc * pc) (_ : ch = gc * pc ∨ 0 ≤ hrM v i ch gc pc t) (_ : (tkM (u2 v 22 i (hrM v i ch gc pc t)) i ch pc t) 0 23 = 0 ∨ (tkM (u2 v 22 i (hrM v i ch gc pc t)) i ch pc t) 20 (i + 1) < (tkM (u2 v 22 i (hrM v i ch gc pc t)) i ch pc t) 0 24) (H : Heap) (l1 : List Loc) (ls : Array Slot), va_P D classes (wv 23 ad (fun k => eM cs ad sd k ((u2 (tkM (u2 v 22 i (hrM v i ch gc pc t)) i ch pc t) 21 (i + 1) 0) k))) H → va_S (aA 23 ad s.heap.size) s.heap H l1 → lv_has ls 5 [(0, .ref (ad 0)), (1, .int (nI (gc * pc))), (2, .int (nI (i + 1)))] → W p l e (rmx 3 0) s m args below meth c H l1 0 0 Q (F0 m 77 ls []))
    : ∀ (H : Heap) (l1 : List Loc) (ls : Array Slot), va_P D classes (wv 23 ad (fun k => eM cs ad sd k (v k))) H → va_S (aA 23 ad s.heap.size) s.heap H l1 → lv_has ls 5 [(0, .ref (ad 0)), (1, .int (nI (gc * pc))), (2, .int (nI i))] → W p l e (rmx 3 0) s m args below meth c H l1 0 0 Q (F0 m 77 ls []) := by
  intro H l1 ls hP hS hl
  have hgp := Nat.mul_le_mul hg6 hp4
  refine lv_iload_n K.hx K.hb d_M_plan_77 rfl (lv_at hl 2 rfl) ?_
  refine lv_if_lt (tgt := 283) K.hx K.hb d_M_plan_78 (by decide) (fun c_78 => (absurd c_78 (nI_pos (by omega)))) (fun c_78 => ?_)
  refine lv_iload_n K.hx K.hb d_M_plan_81 rfl (lv_at hl 2 rfl) ?_
  refine lv_aload_n K.hx K.hb d_M_plan_82 rfl (lv_at hl 0 rfl) ?_
  refine g_get K.1 hP (0) (by decide) rfl rfl i_M 15 (by decide) rfl (Or.inl kw_649) rfl d_M_plan_83 ?_
  refine lv_topE (y := nI rc) hrc ?_
  refine lv_icmp_eq (tgt := 99) K.hx K.hb d_M_plan_86 (by decide) (fun c_86 => (absurd ((nI_eq (by omega) (by omega)).mp c_86) (by omega))) (fun c_86 => ?_)
  refine lv_aload_n K.hx K.hb d_M_plan_89 rfl (lv_at hl 0 rfl) ?_
  refine g_get K.1 hP (0) (by decide) rfl rfl i_M 30 (by decide) rfl (Or.inl kw_664) rfl d_M_plan_90 ?_
  refine lv_iload_n K.hx K.hb d_M_plan_93 rfl (lv_at hl 2 rfl) ?_
  refine g_iald K.1 hP (21) (by decide) rfl 0 rfl (i) rfl (by omega) (by decide) d_M_plan_94 ?_
  refine lv_topE (y := nI ch) hc ?_
  refine lv_iload_n K.hx K.hb d_M_plan_95 rfl (lv_at hl 1 rfl) ?_
  refine lv_icmp_le (tgt := 151) K.hx K.hb d_M_plan_96 (by decide) (fun c_96 => ?_) (fun c_96 => ?_)
  · refine lv_aload_n K.hx K.hb d_M_plan_151 rfl (lv_at hl 0 rfl) ?_
    refine g_get K.1 hP (0) (by decide) rfl rfl i_M 31 (by decide) rfl (Or.inl kw_665) rfl d_M_plan_152 ?_
    refine lv_iload_n K.hx K.hb d_M_plan_155 rfl (lv_at hl 2 rfl) ?_
    refine lv_aload_n K.hx K.hb d_M_plan_156 rfl (lv_at hl 0 rfl) ?_
    refine g_get K.1 hP (0) (by decide) rfl rfl i_M 30 (by decide) rfl (Or.inl kw_664) rfl d_M_plan_157 ?_
    refine lv_iload_n K.hx K.hb d_M_plan_160 rfl (lv_at hl 2 rfl) ?_
    refine g_iald K.1 hP (21) (by decide) rfl 0 rfl (i) rfl (by omega) (by decide) d_M_plan_161 ?_
    refine lv_topE (y := nI ch) hc ?_
    refine lv_iload_n K.hx K.hb d_M_plan_162 rfl (lv_at hl 1 rfl) ?_
    refine lv_icmp_ne (tgt := 170) K.hx K.hb d_M_plan_163 (by decide) (fun c_163 => ?_) (fun c_163 => ?_)
    · have hlt : ch < gc * pc := Nat.lt_of_le_of_ne ((nI_leI (by omega) (by omega)).mp c_96) (fun q => c_163 (by rw [q]))
      have hfl := fl6 hlt hg6 hp4
      refine lv_aload_n K.hx K.hb d_M_plan_170 rfl (lv_at hl 0 rfl) ?_
      refine lv_iload_n K.hx K.hb d_M_plan_171 rfl (lv_at hl 2 rfl) ?_
      refine lv_aload_n K.hx K.hb d_M_plan_172 rfl (lv_at hl 0 rfl) ?_
      refine g_get K.1 hP (0) (by decide) rfl rfl i_M 30 (by decide) rfl (Or.inl kw_664) rfl d_M_plan_173 ?_
      refine lv_iload_n K.hx K.hb d_M_plan_176 rfl (lv_at hl 2 rfl) ?_
      refine g_iald K.1 hP (21) (by decide) rfl 0 rfl (i) rfl (by omega) (by decide) d_M_plan_177 ?_
      refine lv_topE (y := nI ch) hc ?_
      refine lv_aload_n K.hx K.hb d_M_plan_178 rfl (lv_at hl 0 rfl) ?_
      refine g_get K.1 hP (0) (by decide) rfl rfl i_M 11 (by decide) rfl (Or.inl kw_645) rfl d_M_plan_179 ?_
      refine lv_topE (y := nI pc) hpc ?_
      refine lv_idiv K.hx K.hb d_M_plan_182 (nI_ne0 hfl.1 (by omega)) ?_
      refine lv_topE (y := nI (ch / pc)) (pk_div (by omega) hfl.1 (by omega)) ?_
      refine lv_aload_n K.hx K.hb d_M_plan_183 rfl (lv_at hl 0 rfl) ?_
      refine g_get K.1 hP (0) (by decide) rfl rfl i_M 30 (by decide) rfl (Or.inl kw_664) rfl d_M_plan_184 ?_
      refine lv_iload_n K.hx K.hb d_M_plan_187 rfl (lv_at hl 2 rfl) ?_
      refine g_iald K.1 hP (21) (by decide) rfl 0 rfl (i) rfl (by omega) (by decide) d_M_plan_188 ?_
      refine lv_topE (y := nI ch) hc ?_
      refine lv_aload_n K.hx K.hb d_M_plan_189 rfl (lv_at hl 0 rfl) ?_
      refine g_get K.1 hP (0) (by decide) rfl rfl i_M 11 (by decide) rfl (Or.inl kw_645) rfl d_M_plan_190 ?_
      refine lv_topE (y := nI pc) hpc ?_
      refine lv_irem K.hx K.hb d_M_plan_193 (nI_ne0 hfl.1 (by omega)) ?_
      refine lv_topE (y := nI (ch % pc)) (pk_rem (by omega) hfl.1 (by omega)) ?_
      refine dd_V K hP hS (c_M_begins l D cs ad _ _ (by omega) hfl.2.1 hfl.2.2.1 ht ht0) kw_822 xm_M_begins kw_819 kw_821 kw_19 (g_recv K.1.2.1 hP (0) (by decide) rfl rfl) rfl hl.1 d_M_plan_194 (Nat.le_of_ble_eq_true rfl) (Nat.le_of_ble_eq_true rfl) ⟨(Nat.le_of_ble_eq_true rfl), (Nat.le_of_ble_eq_true rfl)⟩ (fun r v1 sd1 H l1 hp hP hS => ?_)
      obtain ⟨rfl, rfl, rfl⟩ := hp
      refine g_iast K.1 hP hS (22) (by decide) (fun _ => rfl) 0 rfl (i) rfl (by omega) (by decide) d_M_plan_197 (fun H l1 hP hS => ?_)
      have hh : hrM v i ch gc pc t = begM v i (ch / pc) (ch % pc) t := if_neg c_163
      rw [← hh] at hP
      refine lv_aload_n K.hx K.hb d_M_plan_198 rfl (lv_at hl 0 rfl) ?_
      refine g_get K.1 hP (0) (by decide) rfl rfl i_M 30 (by decide) rfl (Or.inl kw_664) rfl d_M_plan_199 ?_
      refine lv_iload_n K.hx K.hb d_M_plan_202 rfl (lv_at hl 2 rfl) ?_
      refine g_iald K.1 hP (21) (by decide) rfl 0 rfl (i) rfl (by omega) (by decide) d_M_plan_203 ?_
      refine lv_topE (y := (v 21 i)) (by first | (simp [u2_at, kpM]; done) | (simp only [u2_at, kpM]; repeat (rw [if_neg (by omega)])) | (simp [u2_at, kpM] <;> (intros; omega))) ?_
      refine lv_topE (y := nI ch) hc ?_
      refine lv_iload_n K.hx K.hb d_M_plan_204 rfl (lv_at hl 1 rfl) ?_
      refine lv_icmp_ge (tgt := 230) K.hx K.hb d_M_plan_205 (by decide) (fun c_205 => (absurd ((nI_leI (by omega) (by omega)).mp c_205) (by omega))) (fun c_205 => ?_)
      refine lv_aload_n K.hx K.hb d_M_plan_208 rfl (lv_at hl 0 rfl) ?_
      refine g_get K.1 hP (0) (by decide) rfl rfl i_M 31 (by decide) rfl (Or.inl kw_665) rfl d_M_plan_209 ?_
      refine lv_iload_n K.hx K.hb d_M_plan_212 rfl (lv_at hl 2 rfl) ?_
      refine g_iald K.1 hP (22) (by decide) rfl 0 rfl (i) rfl (by omega) (by decide) d_M_plan_213 ?_
      refine lv_topE (y := (hrM v i ch gc pc t)) (by first | (simp [u2_at, kpM]; done) | (simp only [u2_at, kpM]; repeat (rw [if_neg (by omega)])) | (simp [u2_at, kpM] <;> (intros; omega))) ?_
      refine lv_if_ge (tgt := 230) K.hx K.hb d_M_plan_214 (by decide) (fun c_214 => ?_) (fun c_214 => ?_)
      · have ht1 : (u2 v 22 i (hrM v i ch gc pc t)) 11 i = nI t := by rw [u2_ne (by decide)]; exact ht0
        have hc1 : (u2 v 22 i (hrM v i ch gc pc t)) 21 i = nI ch := by rw [u2_ne (by decide)]; exact hc
        have hpc1 : (u2 v 22 i (hrM v i ch gc pc t)) 0 11 = nI pc := by rw [u2_ne (by decide)]; exact hpc
        have hpp1 : 0 ≤ (u2 v 22 i (hrM v i ch gc pc t)) 22 i → 0 < pc := fun _ => hfl.1
        have hcb : ch < 1000 := by have := Nat.mul_le_mul hg6 hp4; have := (nI_leI (by omega) (by omega)).mp c_96; omega
        refine lv_aload_n K.hx K.hb d_M_plan_230 rfl (lv_at hl 0 rfl) ?_
        refine lv_iload_n K.hx K.hb d_M_plan_231 rfl (lv_at hl 2 rfl) ?_
        refine dd_V K hP hS (c_M_take l D cs ad _ _ (by omega) ht ht1 hc1 hcb hpc1 hp4 hpp1) kw_829 xm_M_take kw_826 kw_828 kw_20 (g_recv K.1.2.1 hP (0) (by decide) rfl rfl) rfl hl.1 d_M_plan_232 (Nat.le_of_ble_eq_true rfl) (Nat.le_of_ble_eq_true rfl) ⟨(Nat.le_of_ble_eq_true rfl), (Nat.le_of_ble_eq_true rfl)⟩ (fun r v1 sd1 H l1 hp hP hS => ?_)
        obtain ⟨rfl, rfl, rfl⟩ := hp
        have htk : (tkM (u2 v 22 i (hrM v i ch gc pc t)) i ch pc t) 21 i = nI ch := by rw [tkM_r (by decide)]; exact hc1
        refine lv_aload_n K.hx K.hb d_M_plan_235 rfl (lv_at hl 0 rfl) ?_
        refine g_get K.1 hP (0) (by decide) rfl rfl i_M 23 (by decide) rfl (Or.inl kw_657) rfl d_M_plan_236 ?_
        refine lv_if_eq (tgt := 270) K.hx K.hb d_M_plan_239 (by decide) (fun c_239 => ?_) (fun c_239 => ?_)
        · refine lv_iinc (v := nI (i + 1)) (lv' := [(2, .int (nI (i + 1))), (0, .ref (ad 0)), (1, .int (nI (gc * pc)))]) K.hx K.hb d_M_plan_270 hl (k := 2) rfl (nI_1 _) (by decide) rfl (fun ls hl => ?_)
          refine lv_aload_n K.hx K.hb d_M_plan_273 rfl (lv_at hl 1 rfl) ?_
          refine g_get K.1 hP (0) (by decide) rfl rfl i_M 30 (by decide) rfl (Or.inl kw_664) rfl d_M_plan_274 ?_
          refine lv_iload_n K.hx K.hb d_M_plan_277 rfl (lv_at hl 0 rfl) ?_
          refine lv_iconst (v := 0) K.hx K.hb d_M_plan_278 (by decide) ?_
          refine g_iast K.1 hP hS (21) (by decide) (fun _ => rfl) 0 rfl (i + 1) rfl (by omega) (by decide) d_M_plan_279 (fun H l1 hP hS => ?_)
          refine lv_goto (tgt := 77) K.hx K.hb d_M_plan_280 (by decide) ?_
          exact kd ((nI_leI (by omega) (by omega)).mp c_96) (Or.inr c_214) (Or.inl c_239) H l1 ls hP hS (lv_sub hl [1, 2, 0] rfl)
        · refine lv_aload_n K.hx K.hb d_M_plan_242 rfl (lv_at hl 0 rfl) ?_
          refine g_get K.1 hP (0) (by decide) rfl rfl i_M 29 (by decide) rfl (Or.inl kw_663) rfl d_M_plan_243 ?_
          refine lv_iload_n K.hx K.hb d_M_plan_246 rfl (lv_at hl 2 rfl) ?_
          refine lv_iconst (v := 1) K.hx K.hb d_M_plan_247 (by decide) ?_
          refine lv_iadd K.hx K.hb d_M_plan_248 ?_
          refine lv_topE (y := nI (i + 1)) (nI_add _ _) ?_
          refine g_iald K.1 hP (20) (by decide) rfl 0 rfl (i + 1) rfl (by omega) (by decide) d_M_plan_249 ?_
          refine lv_aload_n K.hx K.hb d_M_plan_250 rfl (lv_at hl 0 rfl) ?_
          refine g_get K.1 hP (0) (by decide) rfl rfl i_M 24 (by decide) rfl (Or.inl kw_658) rfl d_M_plan_251 ?_
          refine lv_icmp_lt (tgt := 270) K.hx K.hb d_M_plan_254 (by decide) (fun c_254 => ?_) (fun c_254 => ?_)
          · refine lv_iinc (v := nI (i + 1)) (lv' := [(2, .int (nI (i + 1))), (0, .ref (ad 0)), (1, .int (nI (gc * pc)))]) K.hx K.hb d_M_plan_270 hl (k := 2) rfl (nI_1 _) (by decide) rfl (fun ls hl => ?_)
            refine lv_aload_n K.hx K.hb d_M_plan_273 rfl (lv_at hl 1 rfl) ?_
            refine g_get K.1 hP (0) (by decide) rfl rfl i_M 30 (by decide) rfl (Or.inl kw_664) rfl d_M_plan_274 ?_
            refine lv_iload_n K.hx K.hb d_M_plan_277 rfl (lv_at hl 0 rfl) ?_
            refine lv_iconst (v := 0) K.hx K.hb d_M_plan_278 (by decide) ?_
            refine g_iast K.1 hP hS (21) (by decide) (fun _ => rfl) 0 rfl (i + 1) rfl (by omega) (by decide) d_M_plan_279 (fun H l1 hP hS => ?_)
            refine lv_goto (tgt := 77) K.hx K.hb d_M_plan_280 (by decide) ?_
            exact kd ((nI_leI (by omega) (by omega)).mp c_96) (Or.inr c_214) (Or.inr c_254) H l1 ls hP hS (lv_sub hl [1, 2, 0] rfl)
          · refine lv_aload_n K.hx K.hb d_M_plan_257 rfl (lv_at hl 0 rfl) ?_
            refine g_get K.1 hP (0) (by decide) rfl rfl i_M 30 (by decide) rfl (Or.inl kw_664) rfl d_M_plan_258 ?_
            refine lv_iload_n K.hx K.hb d_M_plan_261 rfl (lv_at hl 2 rfl) ?_
            refine lv_dup2_11 K.hx K.hb d_M_plan_262 rfl rfl ?_
            refine g_iald K.1 hP (21) (by decide) rfl 0 rfl (i) rfl (by omega) (by decide) d_M_plan_263 ?_
            refine lv_topE (y := nI ch) htk ?_
            refine lv_iconst (v := 1) K.hx K.hb d_M_plan_264 (by decide) ?_
            refine lv_iadd K.hx K.hb d_M_plan_265 ?_
            refine lv_topE (y := nI (ch + 1)) (nI_add _ _) ?_
            refine g_iast K.1 hP hS (21) (by decide) (fun _ => rfl) 0 rfl (i) rfl (by omega) (by decide) d_M_plan_266 (fun H l1 hP hS => ?_)
            refine lv_goto (tgt := 77) K.hx K.hb d_M_plan_267 (by decide) ?_
            exact kp ((nI_leI (by omega) (by omega)).mp c_96) (Or.inr c_214) c_239 (Int32.not_lt.mp c_254) H l1 ls hP hS (lv_sub hl [0, 1, 2] rfl)
      · refine lv_aload_n K.hx K.hb d_M_plan_217 rfl (lv_at hl 0 rfl) ?_
        refine g_get K.1 hP (0) (by decide) rfl rfl i_M 30 (by decide) rfl (Or.inl kw_664) rfl d_M_plan_218 ?_
        refine lv_iload_n K.hx K.hb d_M_plan_221 rfl (lv_at hl 2 rfl) ?_
        refine lv_dup2_11 K.hx K.hb d_M_plan_222 rfl rfl ?_
        refine g_iald K.1 hP (21) (by decide) rfl 0 rfl (i) rfl (by omega) (by decide) d_M_plan_223 ?_
        refine lv_topE (y := (v 21 i)) (by first | (simp [u2_at, kpM]; done) | (simp only [u2_at, kpM]; repeat (rw [if_neg (by omega)])) | (simp [u2_at, kpM] <;> (intros; omega))) ?_
        refine lv_topE (y := nI ch) hc ?_
        refine lv_iconst (v := 1) K.hx K.hb d_M_plan_224 (by decide) ?_
        refine lv_iadd K.hx K.hb d_M_plan_225 ?_
        refine lv_topE (y := nI (ch + 1)) (nI_add _ _) ?_
        refine g_iast K.1 hP hS (21) (by decide) (fun _ => rfl) 0 rfl (i) rfl (by omega) (by decide) d_M_plan_226 (fun H l1 hP hS => ?_)
        refine lv_goto (tgt := 77) K.hx K.hb d_M_plan_227 (by decide) ?_
        exact kn hlt (Int32.not_le.mp c_214) H l1 ls hP hS (lv_sub hl [0, 1, 2] rfl)
    · refine lv_iconst (v := (-1)) K.hx K.hb d_M_plan_166 (by decide) ?_
      refine lv_goto (tgt := 197) K.hx K.hb d_M_plan_167 (by decide) ?_
      refine g_iast K.1 hP hS (22) (by decide) (fun _ => rfl) 0 rfl (i) rfl (by omega) (by decide) d_M_plan_197 (fun H l1 hP hS => ?_)
      have hh : hrM v i ch gc pc t = -1 := if_pos c_163
      rw [← hh] at hP
      refine lv_aload_n K.hx K.hb d_M_plan_198 rfl (lv_at hl 0 rfl) ?_
      refine g_get K.1 hP (0) (by decide) rfl rfl i_M 30 (by decide) rfl (Or.inl kw_664) rfl d_M_plan_199 ?_
      refine lv_iload_n K.hx K.hb d_M_plan_202 rfl (lv_at hl 2 rfl) ?_
      refine g_iald K.1 hP (21) (by decide) rfl 0 rfl (i) rfl (by omega) (by decide) d_M_plan_203 ?_
      refine lv_topE (y := (v 21 i)) (by first | (simp [u2_at, kpM]; done) | (simp only [u2_at, kpM]; repeat (rw [if_neg (by omega)])) | (simp [u2_at, kpM] <;> (intros; omega))) ?_
      refine lv_topE (y := nI ch) hc ?_
      refine lv_iload_n K.hx K.hb d_M_plan_204 rfl (lv_at hl 1 rfl) ?_
      refine lv_icmp_ge (tgt := 230) K.hx K.hb d_M_plan_205 (by decide) (fun c_205 => ?_) (fun c_205 => (absurd (Int32.le_of_eq c_163.symm) c_205))
      have ht1 : (u2 v 22 i (hrM v i ch gc pc t)) 11 i = nI t := by rw [u2_ne (by decide)]; exact ht0
      have hc1 : (u2 v 22 i (hrM v i ch gc pc t)) 21 i = nI ch := by rw [u2_ne (by decide)]; exact hc
      have hpc1 : (u2 v 22 i (hrM v i ch gc pc t)) 0 11 = nI pc := by rw [u2_ne (by decide)]; exact hpc
      have hpp1 : 0 ≤ (u2 v 22 i (hrM v i ch gc pc t)) 22 i → 0 < pc := by rw [u2_eq, hh]; intro q; exact absurd q (by decide)
      have hcb : ch < 1000 := by have := Nat.mul_le_mul hg6 hp4; have := (nI_leI (by omega) (by omega)).mp c_96; omega
      refine lv_aload_n K.hx K.hb d_M_plan_230 rfl (lv_at hl 0 rfl) ?_
      refine lv_iload_n K.hx K.hb d_M_plan_231 rfl (lv_at hl 2 rfl) ?_
      refine dd_V K hP hS (c_M_take l D cs ad _ _ (by omega) ht ht1 hc1 hcb hpc1 hp4 hpp1) kw_829 xm_M_take kw_826 kw_828 kw_20 (g_recv K.1.2.1 hP (0) (by decide) rfl rfl) rfl hl.1 d_M_plan_232 (Nat.le_of_ble_eq_true rfl) (Nat.le_of_ble_eq_true rfl) ⟨(Nat.le_of_ble_eq_true rfl), (Nat.le_of_ble_eq_true rfl)⟩ (fun r v1 sd1 H l1 hp hP hS => ?_)
      obtain ⟨rfl, rfl, rfl⟩ := hp
      have htk : (tkM (u2 v 22 i (hrM v i ch gc pc t)) i ch pc t) 21 i = nI ch := by rw [tkM_r (by decide)]; exact hc1
      refine lv_aload_n K.hx K.hb d_M_plan_235 rfl (lv_at hl 0 rfl) ?_
      refine g_get K.1 hP (0) (by decide) rfl rfl i_M 23 (by decide) rfl (Or.inl kw_657) rfl d_M_plan_236 ?_
      refine lv_if_eq (tgt := 270) K.hx K.hb d_M_plan_239 (by decide) (fun c_239 => ?_) (fun c_239 => ?_)
      · refine lv_iinc (v := nI (i + 1)) (lv' := [(2, .int (nI (i + 1))), (0, .ref (ad 0)), (1, .int (nI (gc * pc)))]) K.hx K.hb d_M_plan_270 hl (k := 2) rfl (nI_1 _) (by decide) rfl (fun ls hl => ?_)
        refine lv_aload_n K.hx K.hb d_M_plan_273 rfl (lv_at hl 1 rfl) ?_
        refine g_get K.1 hP (0) (by decide) rfl rfl i_M 30 (by decide) rfl (Or.inl kw_664) rfl d_M_plan_274 ?_
        refine lv_iload_n K.hx K.hb d_M_plan_277 rfl (lv_at hl 0 rfl) ?_
        refine lv_iconst (v := 0) K.hx K.hb d_M_plan_278 (by decide) ?_
        refine g_iast K.1 hP hS (21) (by decide) (fun _ => rfl) 0 rfl (i + 1) rfl (by omega) (by decide) d_M_plan_279 (fun H l1 hP hS => ?_)
        refine lv_goto (tgt := 77) K.hx K.hb d_M_plan_280 (by decide) ?_
        exact kd ((nI_leI (by omega) (by omega)).mp c_96) (Or.inl ((nI_eq (by omega) (by omega)).mp c_163)) (Or.inl c_239) H l1 ls hP hS (lv_sub hl [1, 2, 0] rfl)
      · refine lv_aload_n K.hx K.hb d_M_plan_242 rfl (lv_at hl 0 rfl) ?_
        refine g_get K.1 hP (0) (by decide) rfl rfl i_M 29 (by decide) rfl (Or.inl kw_663) rfl d_M_plan_243 ?_
        refine lv_iload_n K.hx K.hb d_M_plan_246 rfl (lv_at hl 2 rfl) ?_
        refine lv_iconst (v := 1) K.hx K.hb d_M_plan_247 (by decide) ?_
        refine lv_iadd K.hx K.hb d_M_plan_248 ?_
        refine lv_topE (y := nI (i + 1)) (nI_add _ _) ?_
        refine g_iald K.1 hP (20) (by decide) rfl 0 rfl (i + 1) rfl (by omega) (by decide) d_M_plan_249 ?_
        refine lv_aload_n K.hx K.hb d_M_plan_250 rfl (lv_at hl 0 rfl) ?_
        refine g_get K.1 hP (0) (by decide) rfl rfl i_M 24 (by decide) rfl (Or.inl kw_658) rfl d_M_plan_251 ?_
        refine lv_icmp_lt (tgt := 270) K.hx K.hb d_M_plan_254 (by decide) (fun c_254 => ?_) (fun c_254 => ?_)
        · refine lv_iinc (v := nI (i + 1)) (lv' := [(2, .int (nI (i + 1))), (0, .ref (ad 0)), (1, .int (nI (gc * pc)))]) K.hx K.hb d_M_plan_270 hl (k := 2) rfl (nI_1 _) (by decide) rfl (fun ls hl => ?_)
          refine lv_aload_n K.hx K.hb d_M_plan_273 rfl (lv_at hl 1 rfl) ?_
          refine g_get K.1 hP (0) (by decide) rfl rfl i_M 30 (by decide) rfl (Or.inl kw_664) rfl d_M_plan_274 ?_
          refine lv_iload_n K.hx K.hb d_M_plan_277 rfl (lv_at hl 0 rfl) ?_
          refine lv_iconst (v := 0) K.hx K.hb d_M_plan_278 (by decide) ?_
          refine g_iast K.1 hP hS (21) (by decide) (fun _ => rfl) 0 rfl (i + 1) rfl (by omega) (by decide) d_M_plan_279 (fun H l1 hP hS => ?_)
          refine lv_goto (tgt := 77) K.hx K.hb d_M_plan_280 (by decide) ?_
          exact kd ((nI_leI (by omega) (by omega)).mp c_96) (Or.inl ((nI_eq (by omega) (by omega)).mp c_163)) (Or.inr c_254) H l1 ls hP hS (lv_sub hl [1, 2, 0] rfl)
        · refine lv_aload_n K.hx K.hb d_M_plan_257 rfl (lv_at hl 0 rfl) ?_
          refine g_get K.1 hP (0) (by decide) rfl rfl i_M 30 (by decide) rfl (Or.inl kw_664) rfl d_M_plan_258 ?_
          refine lv_iload_n K.hx K.hb d_M_plan_261 rfl (lv_at hl 2 rfl) ?_
          refine lv_dup2_11 K.hx K.hb d_M_plan_262 rfl rfl ?_
          refine g_iald K.1 hP (21) (by decide) rfl 0 rfl (i) rfl (by omega) (by decide) d_M_plan_263 ?_
          refine lv_topE (y := nI ch) htk ?_
          refine lv_iconst (v := 1) K.hx K.hb d_M_plan_264 (by decide) ?_
          refine lv_iadd K.hx K.hb d_M_plan_265 ?_
          refine lv_topE (y := nI (ch + 1)) (nI_add _ _) ?_
          refine g_iast K.1 hP hS (21) (by decide) (fun _ => rfl) 0 rfl (i) rfl (by omega) (by decide) d_M_plan_266 (fun H l1 hP hS => ?_)
          refine lv_goto (tgt := 77) K.hx K.hb d_M_plan_267 (by decide) ?_
          exact kp ((nI_leI (by omega) (by omega)).mp c_96) (Or.inl ((nI_eq (by omega) (by omega)).mp c_163)) c_239 (Int32.not_lt.mp c_254) H l1 ls hP hS (lv_sub hl [0, 1, 2] rfl)
  · refine lv_iload_n K.hx K.hb d_M_plan_99 rfl (lv_at hl 2 rfl) ?_
    refine lv_aload_n K.hx K.hb d_M_plan_100 rfl (lv_at hl 0 rfl) ?_
    refine g_get K.1 hP (0) (by decide) rfl rfl i_M 15 (by decide) rfl (Or.inl kw_649) rfl d_M_plan_101 ?_
    refine lv_topE (y := nI rc) hrc ?_
    refine lv_icmp_ne (tgt := 131) K.hx K.hb d_M_plan_104 (by decide) (fun c_104 => ?_) (fun c_104 => (absurd ((nI_eq (by omega) (by omega)).mp c_104) (by omega)))
    exact ku (Nat.lt_of_not_le (fun q => c_96 (nI_le q (by omega)))) H l1 ls hP hS (lv_sub hl [0, 1, 2] rfl)
set_option maxHeartbeats 4000000 in
set_option maxRecDepth 100000 in
theorem pl_cnt {p : Program} {l : Launch} {e : Env} {s : State} {m : MethodId} {args : Array Value} {below : List Frame} {meth : Method} {c : Code} {Q : State → Prop} {D : va_G} {cs : Nat → ClassId} {ad : Nat → Nat} {v : Nat → Nat → Int32} {sd : Int64} (K : Dx p l m meth c b_M_plan 5 (some .int) s args "WearHoursModel" D cs ad) {rc : Nat} (hrc : v 0 15 = nI rc) (hr5 : rc ≤ 5) 
    (kx : ∀  (H : Heap) (l1 : List Loc) (ls : Array Slot), va_P D classes (wv 23 ad (fun k => eM cs ad sd k (v k))) H → va_S (aA 23 ad s.heap.size) s.heap H l1 → lv_has ls 5 [(3, .int (cnM v rc))] → W p l e (rmx 3 0) s m args below meth c H l1 0 0 Q (F0 m 316 ls []))
    : ∀ (n i : Nat), i ≤ rc → rc < i + n → ∀ (H : Heap) (l1 : List Loc) (ls : Array Slot), va_P D classes (wv 23 ad (fun k => eM cs ad sd k (v k))) H → va_S (aA 23 ad s.heap.size) s.heap H l1 → lv_has ls 5 [(0, .ref (ad 0)), (3, .int (cnM v i)), (4, .int (nI i))] → W p l e (rmx 3 0) s m args below meth c H l1 0 0 Q (F0 m 288 ls []) := by
  intro n
  induction n with
  | zero =>
    intro i  h1 h2
    omega
  | succ n ih =>
    intro i  hle hlt H l1 ls hP hS hl
    refine lv_iload K.hx K.hb d_M_plan_288 (lv_at hl 2 rfl) ?_
    refine lv_aload_n K.hx K.hb d_M_plan_290 rfl (lv_at hl 0 rfl) ?_
    refine g_get K.1 hP (0) (by decide) rfl rfl i_M 15 (by decide) rfl (Or.inl kw_649) rfl d_M_plan_291 ?_
    refine lv_topE (y := nI rc) hrc ?_
    refine lv_icmp_ge (tgt := 316) K.hx K.hb d_M_plan_294 (by decide) (fun c_294 => ?_) (fun c_294 => ?_)
    · have hge : i = rc := Nat.le_antisymm hle ((nI_leI (by omega) (by omega)).mp c_294)
      subst hge
      exact kx H l1 ls hP hS (lv_sub hl [1] rfl)
    · have hlt2 : i < rc := Nat.lt_of_not_le (fun h => c_294 (nI_le h (by omega)))
      refine lv_aload_n K.hx K.hb d_M_plan_297 rfl (lv_at hl 0 rfl) ?_
      refine g_get K.1 hP (0) (by decide) rfl rfl i_M 25 (by decide) rfl (Or.inl kw_659) rfl d_M_plan_298 ?_
      refine lv_iload K.hx K.hb d_M_plan_301 (lv_at hl 2 rfl) ?_
      refine g_iald K.1 hP (16) (by decide) rfl 0 rfl (i) rfl (by omega) (by decide) d_M_plan_303 ?_
      refine lv_if_lt (tgt := 310) K.hx K.hb d_M_plan_304 (by decide) (fun c_304 => ?_) (fun c_304 => ?_)
      · refine lv_iinc (v := nI (i + 1)) (lv' := [(4, .int (nI (i + 1))), (0, .ref (ad 0)), (3, .int (cnM v i))]) K.hx K.hb d_M_plan_310 hl (k := 2) rfl (nI_1 _) (by decide) rfl (fun ls hl => ?_)
        refine lv_goto (tgt := 288) K.hx K.hb d_M_plan_313 (by decide) ?_
        exact ih (i + 1) hlt2 (by omega) H l1 ls hP hS (by rw [show cnM v (i + 1) = cnM v i from if_pos c_304]; exact lv_sub hl [1, 2, 0] rfl)
      · refine lv_iinc (v := (cnM v i) + 1) (lv' := [(3, .int ((cnM v i) + 1)), (0, .ref (ad 0)), (4, .int (nI i))]) K.hx K.hb d_M_plan_307 hl (k := 1) rfl rfl (by decide) rfl (fun ls hl => ?_)
        refine lv_iinc (v := nI (i + 1)) (lv' := [(4, .int (nI (i + 1))), (3, .int ((cnM v i) + 1)), (0, .ref (ad 0))]) K.hx K.hb d_M_plan_310 hl (k := 2) rfl (nI_1 _) (by decide) rfl (fun ls hl => ?_)
        refine lv_goto (tgt := 288) K.hx K.hb d_M_plan_313 (by decide) ?_
        exact ih (i + 1) hlt2 (by omega) H l1 ls hP hS (by rw [show cnM v (i + 1) = (cnM v i) + 1 from if_neg c_304]; exact lv_sub hl [2, 1, 0] rfl)
