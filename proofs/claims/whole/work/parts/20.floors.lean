/-! sumFloors -/
theorem begZ_of {v u : Nat → Nat → Int32} {i g p : Nat} (h1 : u (28 + p) = v (28 + p)) (h2 : u (33 + i) = v (33 + i)) (h3 : u (21 + g) = v (21 + g)) (h4 : u 39 = v 39) (h5 : u 40 = v 40) : begZ u i g p = begZ v i g p := by
  unfold begZ begH th
  rw [h1, h2, h3, h4, h5]
theorem fbL_of {v u : Nat → Nat → Int32} {i p : Nat} (h1 : u (28 + p) = v (28 + p)) (h2 : u (33 + i) = v (33 + i)) (h3 : ∀ g, g < 6 → u (21 + g) = v (21 + g)) (h4 : u 39 = v 39) (h5 : u 40 = v 40) : ∀ g, g ≤ 6 → fbL u i p g = fbL v i p g
  | 0, _ => rfl
  | g + 1, h => by
    show fbS (fbL u i p g) (begZ u i g p) = fbS (fbL v i p g) (begZ v i g p)
    rw [fbL_of h1 h2 h3 h4 h5 g (by omega), begZ_of h1 h2 (h3 g (by omega)) h4 h5]
theorem fbZ_of {v u : Nat → Nat → Int32} {i p gc : Nat} (hg : gc ≤ 6) (h1 : u (28 + p) = v (28 + p)) (h2 : u (33 + i) = v (33 + i)) (h3 : ∀ g, g < 6 → u (21 + g) = v (21 + g)) (h4 : u 39 = v 39) (h5 : u 40 = v 40) : fbZ u i p gc = fbZ v i p gc := by
  unfold fbZ
  rw [h1, h2, fbL_of h1 h2 h3 h4 h5 gc hg]
theorem flL_of {v u : Nat → Nat → Int32} {i gc : Nat} (hg : gc ≤ 6) (h0 : u 19 = v 19) (h1 : ∀ p, p < 4 → u (28 + p) = v (28 + p)) (h2 : u (33 + i) = v (33 + i)) (h3 : ∀ g, g < 6 → u (21 + g) = v (21 + g)) (h4 : u 39 = v 39) (h5 : u 40 = v 40) : ∀ p, p ≤ 4 → flL u i gc p = flL v i gc p
  | 0, _ => by show cuZ u i = cuZ v i; unfold cuZ; rw [h0, h2]
  | p + 1, h => by
    show flS u i gc (flL u i gc p) p = flS v i gc (flL v i gc p) p
    rw [flL_of hg h0 h1 h2 h3 h4 h5 p (by omega)]
    unfold flS
    rw [fbZ_of hg (h1 p (by omega)) h2 h3 h4 h5, h2]
def FLs (v : Nat → Nat → Int32) (gc pc rc : Nat) : Nat → Int32
  | 0 => 0
  | k + 1 => FLs v gc pc rc k + flL v (rc - (k + 1)) gc pc
/-- the floors from j on are there -/
def flo (v : Nat → Nat → Int32) (gc pc rc j : Nat) : Nat → Nat → Int32 := fun a b => if a = 41 ∧ j ≤ b ∧ b ≤ rc then FLs v gc pc rc (rc - b) else v a b
theorem flo_row {v : Nat → Nat → Int32} {gc pc rc j a : Nat} (h : a ≠ 41) : flo v gc pc rc j a = v a := by
  funext b
  simp [flo, h]
theorem flo_top (v : Nat → Nat → Int32) (gc pc rc : Nat) : u2 v 41 rc 0 = flo v gc pc rc rc := by
  funext a b
  simp only [u2_at, flo]
  by_cases h : a = 41 ∧ b = rc
  · rw [if_pos h, if_pos ⟨h.1, by omega, by omega⟩, h.2, Nat.sub_self]
    rfl
  · rw [if_neg h, if_neg (fun q => h ⟨q.1, by omega⟩)]
theorem flo_step {v : Nat → Nat → Int32} {gc pc rc i : Nat} (hg : gc ≤ 6) (hp : pc ≤ 4) (hi : i < rc) (hr : rc ≤ 5) : u2 (flo v gc pc rc (i + 1)) 41 i (flo v gc pc rc (i + 1) 41 (i + 1) + flL (flo v gc pc rc (i + 1)) i gc pc) = flo v gc pc rc i := by
  have e1 : flL (flo v gc pc rc (i + 1)) i gc pc = flL v i gc pc := flL_of hg (flo_row (by omega)) (fun p hp => flo_row (by omega)) (flo_row (by omega)) (fun g hg => flo_row (by omega)) (flo_row (by omega)) (flo_row (by omega)) pc hp
  have e2 : flo v gc pc rc (i + 1) 41 (i + 1) = FLs v gc pc rc (rc - (i + 1)) := if_pos ⟨rfl, by omega, by omega⟩
  rw [e1, e2]
  funext a b
  simp only [u2_at]
  by_cases h : a = 41 ∧ b = i
  · rw [if_pos h]
    show _ = if a = 41 ∧ i ≤ b ∧ b ≤ rc then _ else _
    rw [if_pos ⟨h.1, by omega, by omega⟩, h.2]
    obtain ⟨k, hk⟩ : ∃ k, rc - i = k + 1 := ⟨rc - i - 1, by omega⟩
    rw [hk, show rc - (i + 1) = k by omega]
    show _ = FLs v gc pc rc k + flL v (rc - (k + 1)) gc pc
    rw [show rc - (k + 1) = i by omega]
  · rw [if_neg h]
    show (if a = 41 ∧ i + 1 ≤ b ∧ b ≤ rc then _ else _) = if a = 41 ∧ i ≤ b ∧ b ≤ rc then _ else _
    by_cases h2 : a = 41 ∧ i + 1 ≤ b ∧ b ≤ rc
    · rw [if_pos h2, if_pos ⟨h2.1, by omega, h2.2.2⟩]
    · rw [if_neg h2, if_neg (fun q => h2 ⟨q.1, by have := fun z => h ⟨q.1, z⟩; omega, q.2.2⟩)]
theorem PI_flo {gc pc rc : Nat} {v : Nat → Nat → Int32} (h : PI gc pc rc v) (j : Nat) : PI gc pc rc (flo v gc pc rc j) := PI_of h (flo_row (by omega)) (fun i hi => flo_row (by omega))
theorem dec1 (x : Int32) : x - 1 = x + (-1) := by rw [Int32.sub_eq_add_neg]
set_option maxHeartbeats 4000000 in
set_option maxRecDepth 100000 in
theorem lp_sf {p : Program} {l : Launch} {e : Env} {s : State} {m : MethodId} {args : Array Value} {below : List Frame} {meth : Method} {c : Code} {Q : State → Prop} {D : va_G} {cs : Nat → ClassId} {ad : Nat → Nat} {v : Nat → Nat → Int32} {sd : Int64} (K : Cx p l m meth c b_L_sumFloors 6 none s args "WearHours$Planner" D cs ad) {gc pc rc : Nat} (hPI : PI gc pc rc v) {i : Nat} (hi : i < rc) 
    (kx : ∀  (H : Heap) (l1 : List Loc) (ls : Array Slot), va_P D classes (wv 42 ad (fun k => eC cs ad sd k (v k))) H → va_S (aA 42 ad s.heap.size) s.heap H l1 → lv_has ls 6 [(0, .ref (ad 38)), (1, .int (nI i)), (3, .int (flL v i gc pc))] → W p l e (rmx 2 0) s m args below meth c H l1 0 0 Q (F0 m 94 ls []))
    : ∀ (n g : Nat), g ≤ pc → pc < g + n → ∀ (H : Heap) (l1 : List Loc) (ls : Array Slot), va_P D classes (wv 42 ad (fun k => eC cs ad sd k (v k))) H → va_S (aA 42 ad s.heap.size) s.heap H l1 → lv_has ls 6 [(0, .ref (ad 38)), (1, .int (nI i)), (2, .ref (ad (33 + i))), (3, .int (flL v i gc g)), (4, .int (nI g))] → W p l e (rmx 2 0) s m args below meth c H l1 0 0 Q (F0 m 49 ls []) := by
  intro n
  induction n with
  | zero =>
    intro g  h1 h2
    omega
  | succ n ih =>
    intro g  hle hlt H l1 ls hP hS hl
    have hp4 := hPI.2.2.2.1
    have hr5 := hPI.2.2.2.2.2.1
    have hi5 : i < 5 := by omega
    refine lv_iload K.hx K.hb d_L_sumFloors_49 (lv_at hl 4 rfl) ?_
    refine lv_aload_n K.hx K.hb d_L_sumFloors_51 rfl (lv_at hl 0 rfl) ?_
    refine g_get K.1 hP (38) (by decide) rfl rfl i_L 0 (by decide) rfl (Or.inl kw_197) rfl d_L_sumFloors_52 ?_
    refine g_get K.1 hP (19) (by decide) rfl rfl i_K 3 (by decide) rfl (Or.inr nw_161) rfl d_L_sumFloors_55 ?_
    refine lv_icmp_ge (tgt := 94) K.hx K.hb d_L_sumFloors_58 (by decide) (fun c_58 => ?_) (fun c_58 => ?_)
    · have hge : g = pc := Nat.le_antisymm hle ((nI_leI (by omega) (by omega)).mp (by rw [← hPI.2.2.1]; exact c_58))
      subst hge
      exact kx H l1 ls hP hS (lv_sub hl [0, 1, 3] rfl)
    · have hlt2 : g < pc := Nat.lt_of_not_le (fun h => c_58 (by rw [hPI.2.2.1]; exact nI_le h (by omega)))
      have hg9 : g < 4 := by omega
      refine lv_aload_n K.hx K.hb d_L_sumFloors_61 rfl (lv_at hl 0 rfl) ?_
      refine lv_aload_n K.hx K.hb d_L_sumFloors_62 rfl (lv_at hl 2 rfl) ?_
      refine lv_iload K.hx K.hb d_L_sumFloors_63 (lv_at hl 4 rfl) ?_
      refine cc_V K hP hS (c_L_firstBeginning l D cs ad _ _ hPI hi hg9) kw_268 xm_L_firstBeginning kw_265 kw_267 kw_2 (g_recv K.1.2.1 hP (38) (by decide) rfl rfl) rfl hl.1 d_L_sumFloors_65 (Nat.le_of_ble_eq_true rfl) (Nat.le_of_ble_eq_true rfl) ⟨(Nat.le_of_ble_eq_true rfl), (Nat.le_of_ble_eq_true rfl)⟩ (fun r v1 sd1 H l1 hp hP hS => ?_)
      obtain ⟨rfl, rfl, rfl⟩ := hp
      refine lv_istore (lv' := [(5, .int (fbZ v i g gc)), (0, .ref (ad 38)), (1, .int (nI i)), (2, .ref (ad (33 + i))), (3, .int (flL v i gc g)), (4, .int (nI g))]) K.hx K.hb d_L_sumFloors_68 hl (by decide) rfl (fun ls hl => ?_)
      refine lv_iload K.hx K.hb d_L_sumFloors_70 (lv_at hl 0 rfl) ?_
      refine lv_iconst (v := (-1)) K.hx K.hb d_L_sumFloors_72 (by decide) ?_
      refine lv_icmp_eq (tgt := 88) K.hx K.hb d_L_sumFloors_73 (by decide) (fun c_73 => ?_) (fun c_73 => ?_)
      · refine lv_iinc (v := nI (g + 1)) (lv' := [(4, .int (nI (g + 1))), (5, .int (fbZ v i g gc)), (0, .ref (ad 38)), (1, .int (nI i)), (2, .ref (ad (33 + i))), (3, .int (flL v i gc g))]) K.hx K.hb d_L_sumFloors_88 hl (k := 5) rfl (nI_1 _) (by decide) rfl (fun ls hl => ?_)
        refine lv_goto (tgt := 49) K.hx K.hb d_L_sumFloors_91 (by decide) ?_
        exact ih (g + 1) hlt2 (by omega) H l1 ls hP hS (by rw [show flL v i gc (g + 1) = flL v i gc g from if_pos c_73]; exact lv_sub hl [2, 3, 4, 5, 0] rfl)
      · refine lv_iload_n K.hx K.hb d_L_sumFloors_76 rfl (lv_at hl 4 rfl) ?_
        refine lv_aload_n K.hx K.hb d_L_sumFloors_77 rfl (lv_at hl 3 rfl) ?_
        refine g_get K.1 hP (33 + i) (by have := hi5; omega) (eR hi5) rfl i_R 3 (by decide) rfl (Or.inr nw_131) rfl d_L_sumFloors_78 ?_
        refine lv_iload K.hx K.hb d_L_sumFloors_81 (lv_at hl 0 rfl) ?_
        refine lv_imul K.hx K.hb d_L_sumFloors_83 ?_
        refine va_mmin K.hx K.hb (K.1.1.2.2.1.trans hl.1.symm) K.1.1.2.2.2.1 (K.1.1.2.2.2.2 _ kw_276) (K.1.1.2.2.2.2 _ kw_277) (K.1.1.2.2.2.2 _ kw_37) (K.1.1.2.2.2.2 _ kw_278) (Nat.le_of_ble_eq_true rfl) (Nat.le_of_ble_eq_true rfl) (Nat.le_of_ble_eq_true rfl) (Nat.le_of_ble_eq_true rfl) d_L_sumFloors_84 ?_
        refine lv_istore_n (lv' := [(3, .int (if (v (33 + i) 3) * (fbZ v i g gc) < flL v i gc g then (v (33 + i) 3) * (fbZ v i g gc) else flL v i gc g)), (5, .int (fbZ v i g gc)), (0, .ref (ad 38)), (1, .int (nI i)), (2, .ref (ad (33 + i))), (4, .int (nI g))]) K.hx K.hb d_L_sumFloors_87 rfl hl (by decide) rfl (fun ls hl => ?_)
        refine lv_iinc (v := nI (g + 1)) (lv' := [(4, .int (nI (g + 1))), (3, .int (if (v (33 + i) 3) * (fbZ v i g gc) < flL v i gc g then (v (33 + i) 3) * (fbZ v i g gc) else flL v i gc g)), (5, .int (fbZ v i g gc)), (0, .ref (ad 38)), (1, .int (nI i)), (2, .ref (ad (33 + i)))]) K.hx K.hb d_L_sumFloors_88 hl (k := 5) rfl (nI_1 _) (by decide) rfl (fun ls hl => ?_)
        refine lv_goto (tgt := 49) K.hx K.hb d_L_sumFloors_91 (by decide) ?_
        exact ih (g + 1) hlt2 (by omega) H l1 ls hP hS (by rw [show flL v i gc (g + 1) = if (v (33 + i) 3) * (fbZ v i g gc) < flL v i gc g then (v (33 + i) 3) * (fbZ v i g gc) else flL v i gc g from if_neg c_73]; exact lv_sub hl [3, 4, 5, 1, 0] rfl)
set_option maxHeartbeats 4000000 in
set_option maxRecDepth 100000 in
theorem lp_so {p : Program} {l : Launch} {e : Env} {s : State} {m : MethodId} {args : Array Value} {below : List Frame} {meth : Method} {c : Code} {Q : State → Prop} {D : va_G} {cs : Nat → ClassId} {ad : Nat → Nat} {v : Nat → Nat → Int32} {sd : Int64} (K : Cx p l m meth c b_L_sumFloors 6 none s args "WearHours$Planner" D cs ad) {gc pc rc : Nat} (hPI : PI gc pc rc v)
    (kx : ∀ (H : Heap) (l1 : List Loc) (ls : Array Slot), va_P D classes (wv 42 ad (fun k => eC cs ad sd k ((flo v gc pc rc 0) k))) H → va_S (aA 42 ad s.heap.size) s.heap H l1 → lv_has ls 6 [] → W p l e (rmx 2 0) s m args below meth c H l1 0 0 Q (F0 m 116 ls []))
    : ∀ (j : Nat), j ≤ rc → ∀ (H : Heap) (l1 : List Loc) (ls : Array Slot), va_P D classes (wv 42 ad (fun k => eC cs ad sd k ((flo v gc pc rc j) k))) H → va_S (aA 42 ad s.heap.size) s.heap H l1 → lv_has ls 6 [(0, .ref (ad 38)), (1, .int (nI j + (-1)))] → W p l e (rmx 2 0) s m args below meth c H l1 0 0 Q (F0 m 23 ls []) := by
  have hg6 := hPI.2.1
  have hp4 := hPI.2.2.2.1
  have hr5 := hPI.2.2.2.2.2.1
  intro j
  induction j with
  | zero =>
    intro hj H l1 ls hP hS hl
    refine lv_iload_n K.hx K.hb d_L_sumFloors_23 rfl (lv_at hl 1 rfl) ?_
    refine lv_if_lt (tgt := 116) K.hx K.hb d_L_sumFloors_24 (by decide) (fun _ => ?_) (fun c_24 => absurd (by decide) c_24)
    exact kx H l1 ls hP hS (lv_sub hl [] rfl)
  | succ i ih =>
    intro hj H l1 ls hP hS hl
    have hi : i < rc := by omega
    have hi5 : i < 5 := by omega
    have hi6 : i < 6 := by omega
    have hi1 : i + 1 < 6 := by omega
    have hl : lv_has ls 6 [(0, .ref (ad 38)), (1, .int (nI i))] := by rw [← pk_m1 i]; exact hl
    refine lv_iload_n K.hx K.hb d_L_sumFloors_23 rfl (lv_at hl 1 rfl) ?_
    refine lv_if_lt (tgt := 116) K.hx K.hb d_L_sumFloors_24 (by decide) (fun c_24 => (absurd c_24 (nI_pos (by omega)))) (fun c_24 => ?_)
    refine lv_aload_n K.hx K.hb d_L_sumFloors_27 rfl (lv_at hl 0 rfl) ?_
    refine g_get K.1 hP (38) (by decide) rfl rfl i_L 0 (by decide) rfl (Or.inl kw_197) rfl d_L_sumFloors_28 ?_
    refine g_get K.1 hP (19) (by decide) rfl rfl i_K 4 (by decide) rfl (Or.inr nw_164) rfl d_L_sumFloors_31 ?_
    refine lv_iload_n K.hx K.hb d_L_sumFloors_34 rfl (lv_at hl 1 rfl) ?_
    refine g_aald K.1 hP (32) (by decide) rfl 6 rfl (i) rfl (by have := hi5; omega) (by decide) rfl d_L_sumFloors_35 ?_
    refine lv_astore_n (lv' := [(2, .ref (ad (33 + i))), (0, .ref (ad 38)), (1, .int (nI i))]) K.hx K.hb d_L_sumFloors_36 rfl hl (by decide) rfl (fun ls hl => ?_)
    refine lv_aload_n K.hx K.hb d_L_sumFloors_37 rfl (lv_at hl 1 rfl) ?_
    refine g_get K.1 hP (38) (by decide) rfl rfl i_L 0 (by decide) rfl (Or.inl kw_197) rfl d_L_sumFloors_38 ?_
    refine lv_aload_n K.hx K.hb d_L_sumFloors_41 rfl (lv_at hl 0 rfl) ?_
    refine cc_V K hP hS (c_K_costUnplaced l D cs ad _ _ hi5) kw_264 xm_K_costUnplaced kw_261 kw_262 kw_263 (g_recv K.1.2.1 hP (19) (by decide) rfl rfl) rfl hl.1 d_L_sumFloors_42 (Nat.le_of_ble_eq_true rfl) (Nat.le_of_ble_eq_true rfl) ⟨(Nat.le_of_ble_eq_true rfl), (Nat.le_of_ble_eq_true rfl)⟩ (fun r v1 sd1 H l1 hp hP hS => ?_)
    obtain ⟨rfl, rfl, rfl⟩ := hp
    refine lv_istore_n (lv' := [(3, .int ((flo v gc pc rc (i + 1)) (33 + i) 3 * 168 + (flo v gc pc rc (i + 1)) 19 7)), (2, .ref (ad (33 + i))), (0, .ref (ad 38)), (1, .int (nI i))]) K.hx K.hb d_L_sumFloors_45 rfl hl (by decide) rfl (fun ls hl => ?_)
    refine lv_iconst (v := 0) K.hx K.hb d_L_sumFloors_46 (by decide) ?_
    refine lv_istore (lv' := [(4, .int 0), (3, .int ((flo v gc pc rc (i + 1)) (33 + i) 3 * 168 + (flo v gc pc rc (i + 1)) 19 7)), (2, .ref (ad (33 + i))), (0, .ref (ad 38)), (1, .int (nI i))]) K.hx K.hb d_L_sumFloors_47 hl (by decide) rfl (fun ls hl => ?_)
    refine lp_sf K (PI_flo hPI (i + 1)) hi (fun H l1 ls hP hS hl => ?_) (pc + 1) 0 (by omega) (by omega) _ _ ls hP hS (lv_sub hl [3, 4, 2, 1, 0] rfl)
    refine lv_aload_n K.hx K.hb d_L_sumFloors_94 rfl (lv_at hl 0 rfl) ?_
    refine g_get K.1 hP (38) (by decide) rfl rfl i_L 3 (by decide) rfl (Or.inl kw_200) rfl d_L_sumFloors_95 ?_
    refine lv_iload_n K.hx K.hb d_L_sumFloors_98 rfl (lv_at hl 1 rfl) ?_
    refine lv_aload_n K.hx K.hb d_L_sumFloors_99 rfl (lv_at hl 0 rfl) ?_
    refine g_get K.1 hP (38) (by decide) rfl rfl i_L 3 (by decide) rfl (Or.inl kw_200) rfl d_L_sumFloors_100 ?_
    refine lv_iload_n K.hx K.hb d_L_sumFloors_103 rfl (lv_at hl 1 rfl) ?_
    refine lv_iconst (v := 1) K.hx K.hb d_L_sumFloors_104 (by decide) ?_
    refine lv_iadd K.hx K.hb d_L_sumFloors_105 ?_
    refine lv_topE (y := nI (i + 1)) (nI_1 _) ?_
    refine g_iald K.1 hP (41) (by decide) rfl 0 rfl (i + 1) rfl (by have := hi1; omega) (by decide) d_L_sumFloors_106 ?_
    refine lv_iload_n K.hx K.hb d_L_sumFloors_107 rfl (lv_at hl 2 rfl) ?_
    refine lv_iadd K.hx K.hb d_L_sumFloors_108 ?_
    refine g_iast K.1 hP hS (41) (by decide) (fun _ => rfl) 0 rfl (i) rfl (by have := hi6; omega) (by decide) d_L_sumFloors_109 (fun H l1 hP hS => ?_)
    refine lv_iinc (v := (nI i) + (-1)) (lv' := [(1, .int ((nI i) + (-1))), (0, .ref (ad 38)), (3, .int (flL (flo v gc pc rc (i + 1)) i gc pc))]) K.hx K.hb d_L_sumFloors_110 hl (k := 1) rfl rfl (by decide) rfl (fun ls hl => ?_)
    refine lv_goto (tgt := 23) K.hx K.hb d_L_sumFloors_113 (by decide) ?_
    exact ih (by omega) H l1 ls (by rw [flo_step hg6 hp4 hi hr5] at hP; exact hP) hS (lv_sub hl [1, 0] rfl)
set_option maxHeartbeats 4000000 in
set_option maxRecDepth 100000 in
theorem c_L_sumFloors (l : Launch) (D : va_G) (cs : Nat → ClassId) (ad : Nat → Nat) (v : Nat → Nat → Int32) (sd : Int64) {gc pc rc : Nat} (hPI : PI gc pc rc v)  : Cm l y_L_sumFloors b_L_sumFloors 6 none (rmx 2 0) [.ref (ad 38)] D cs ad v sd (fun r v' sd' => r = none ∧ flo v gc pc rc 0 = v' ∧ sd = sd') (fun cls => False) := by
  refine cw_enter (own := "WearHours$Planner") rfl (Nat.le_of_ble_eq_true rfl) ?_
  intro p e s m below meth c ls K hS hP hl
  have hl : lv_has ls 6 [(0, .ref (ad 38))] := hl
  have hg6 := hPI.2.1
  have hp4 := hPI.2.2.2.1
  have hr5 := hPI.2.2.2.2.2.1
  refine lv_aload_n K.hx K.hb d_L_sumFloors_0 rfl (lv_at hl 0 rfl) ?_
  refine g_get K.1 hP (38) (by decide) rfl rfl i_L 3 (by decide) rfl (Or.inl kw_200) rfl d_L_sumFloors_1 ?_
  refine lv_aload_n K.hx K.hb d_L_sumFloors_4 rfl (lv_at hl 0 rfl) ?_
  refine g_get K.1 hP (38) (by decide) rfl rfl i_L 0 (by decide) rfl (Or.inl kw_197) rfl d_L_sumFloors_5 ?_
  refine g_get K.1 hP (19) (by decide) rfl rfl i_K 5 (by decide) rfl (Or.inr nw_166) rfl d_L_sumFloors_8 ?_
  refine lv_iconst (v := 0) K.hx K.hb d_L_sumFloors_11 (by decide) ?_
  refine g_iast K.1 hP hS (41) (by decide) (fun _ => rfl) 0 rfl (rc) hPI.2.2.2.2.1 (by have := hr5; omega) (by decide) d_L_sumFloors_12 (fun H l1 hP hS => ?_)
  refine lv_aload_n K.hx K.hb d_L_sumFloors_13 rfl (lv_at hl 0 rfl) ?_
  refine g_get K.1 hP (38) (by decide) rfl rfl i_L 0 (by decide) rfl (Or.inl kw_197) rfl d_L_sumFloors_14 ?_
  refine g_get K.1 hP (19) (by decide) rfl rfl i_K 5 (by decide) rfl (Or.inr nw_166) rfl d_L_sumFloors_17 ?_
  refine lv_topE (y := (v 19 5)) (by first | (simp [u2_at, kp, occ]; done) | (simp [u2_at, kp, occ] <;> (intros; omega)) | (simp only [u2_at, kp, occ]; (repeat' split) <;> first | rfl | (exfalso; omega))) ?_
  refine lv_iconst (v := 1) K.hx K.hb d_L_sumFloors_20 (by decide) ?_
  refine lv_isub K.hx K.hb d_L_sumFloors_21 ?_
  refine lv_istore_n (lv' := [(1, .int ((v 19 5) - 1)), (0, .ref (ad 38))]) K.hx K.hb d_L_sumFloors_22 rfl hl (by decide) rfl (fun ls hl => ?_)
  refine lp_so K hPI (fun H l1 ls hP hS hl => ?_) rc (Nat.le_refl rc) _ _ ls (by rw [← flo_top]; exact hP) hS (by rw [← hPI.2.2.2.2.1, ← dec1]; exact lv_sub hl [1, 0] rfl)
  exact ce_v K hP hS ⟨rfl, rfl, rfl⟩ (Nat.le_of_ble_eq_true rfl) (Nat.le_of_ble_eq_true rfl) d_L_sumFloors_116
