/-! makers of objects: the contracts -/
theorem n_obj {p : Program} {l : Launch} {e : Env} {R : Room} {s : State} {m : MethodId} {args : Array Value} {below : List Frame} {meth : Method} {c : Code} {H : Heap} {locs : List Loc} {cells slots : Nat} {Q : State → Prop} {cc : ByteArray} {nL pc index : Nat} {rest : List Value} {own : String} {ls : Array Slot} {b : Addr} (F : Fx p m c cc nL s args own) (hl : Cond.methodLink own index Lib.objectInit ∈ gt)
    (hsz : ls.size = nL) (hdg : decode cc pc = .ok (.invokespecial index, 3)) (hfr : 1 ≤ R.frames) (hlo : (rest.map fun v => v.category).sum + 12 ≤ R.locals) (kk : W p l e R s m args below meth c H locs cells slots Q (F0 m (pc + 3) ls rest)) : W p l e R s m args below meth c H locs cells slots Q (F0 m pc ls (.ref b :: rest)) :=
  W.objInit F.1 F.2.1 F.2.2.2.1 (F.2.2.2.2 _ hl) (F.2.2.2.2 _ kw_44) (F.2.2.2.2 _ kw_45) (g := F0 m pc ls (.ref b :: rest)) rfl (hsz.trans F.2.2.1.symm) rfl hdg hfr (by show 2 * 0 + (rest.map fun v => v.category).sum + 12 ≤ R.locals; omega) kk
theorem aR_cong {c : ClassId} {n : Nat} {f g : Nat → Option Nat} (h : ∀ j, j < n → f j = g j) : vp_cell c (n, .inr (.inr (.inr (.inr f)))) = vp_cell c (n, .inr (.inr (.inr (.inr g)))) := by
  rw [vp_cell_q, vp_cell_q]
  unfold arrV
  congr 2
  funext j
  show va_rf (f j.val) = va_rf (g j.val)
  rw [h j.val j.isLt]
/-- the same cell -/
def sameC (a b : va_E) : Prop := a = b ∨ ∃ c n f g, a = aR c n f ∧ b = aR c n g ∧ ∀ j, j < n → f j = g j
theorem sameC.at {D : va_G} {cl : List vw_C} {q : Nat} {a b : va_E} {H : Heap} (h : sameC a b) (h2 : va_at D cl (q, a) H) : va_at D cl (q, b) H := by
  rcases h with rfl | ⟨c, n, f, g, rfl, rfl, h⟩
  · exact h2
  · show H[q]? = some (vp_cell c (n, .inr (.inr (.inr (.inr g)))))
    rw [← aR_cong h]
    exact h2
/-- a world, told in another order -/
theorem wv_conv {D : va_G} {cl : List vw_C} {A : Nat → Prop} {n n2 : Nat} {ad : Nat → Nat} {ct : Nat → va_E} {H : Heap} (hP : va_P D cl (wv n ad ct) H) (hD : va_D A (wv n ad ct)) (ctq : (Nat → Nat) → Nat → va_E) (σ : Nat → Nat) (h1 : ∀ k, k < n2 → σ k < n) (h2 : ∀ i j, i < n2 → j < n2 → σ i = σ j → i = j) (h4 : ∀ k, k < n2 → sameC (ct (σ k)) (ctq (fun k => ad (σ k)) k)) : va_P D cl (wv n2 (fun k => ad (σ k)) (ctq (fun k => ad (σ k)))) H ∧ va_D A (wv n2 (fun k => ad (σ k)) (ctq (fun k => ad (σ k)))) := by
  refine ⟨fun k q hq => ?_, fun i j x z hx hz hxz => ?_, fun k q hq => ?_⟩
  · obtain ⟨hk, rfl⟩ := wv_of hq
    exact (h4 k hk).at (hP (σ k) _ (wv_at (h1 k hk)))
  · obtain ⟨hi, rfl⟩ := wv_of hx
    obtain ⟨hj, rfl⟩ := wv_of hz
    exact h2 i j hi hj (hD.1 (σ i) (σ j) _ _ (wv_at (h1 i hi)) (wv_at (h1 j hj)) hxz)
  · obtain ⟨hk, rfl⟩ := wv_of hq
    have h9 := hD.2 (σ k) _ (wv_at (h1 k hk))
    exact h9
abbrev z_W : List Value := [.long 0, .null, .int 0, .null, .null, .null]
theorem df_W : ∀ j, j < 6 → defaultValue (ft_W j) = vp_V z_W j
  | 0, _ => rfl
  | 1, _ => rfl
  | 2, _ => rfl
  | 3, _ => rfl
  | 4, _ => rfl
  | 5, _ => rfl
  | j + 6, h => absurd h (by omega)
abbrev z_T : List Value := [.int 0, .int 0, .int 0, .int 0, .null]
theorem df_T : ∀ j, j < 5 → defaultValue (ft_T j) = vp_V z_T j
  | 0, _ => rfl
  | 1, _ => rfl
  | 2, _ => rfl
  | 3, _ => rfl
  | 4, _ => rfl
  | j + 5, h => absurd h (by omega)
abbrev z_K : List Value := [.null, .int 0, .null, .int 0, .null, .int 0, .int 0, .int 0]
theorem df_K : ∀ j, j < 8 → defaultValue (ft_K j) = vp_V z_K j
  | 0, _ => rfl
  | 1, _ => rfl
  | 2, _ => rfl
  | 3, _ => rfl
  | 4, _ => rfl
  | 5, _ => rfl
  | 6, _ => rfl
  | 7, _ => rfl
  | j + 8, h => absurd h (by omega)
abbrev z_G : List Value := [.int 0, .int 0]
theorem df_G : ∀ j, j < 2 → defaultValue (ft_G j) = vp_V z_G j
  | 0, _ => rfl
  | 1, _ => rfl
  | j + 2, h => absurd h (by omega)
abbrev z_P : List Value := [.int 0, .int 0, .int 0]
theorem df_P : ∀ j, j < 3 → defaultValue (ft_P j) = vp_V z_P j
  | 0, _ => rfl
  | 1, _ => rfl
  | 2, _ => rfl
  | j + 3, h => absurd h (by omega)
abbrev z_R : List Value := [.int 0, .int 0, .int 0, .int 0, .int 0, .int 0, .int 0]
theorem df_R : ∀ j, j < 7 → defaultValue (ft_R j) = vp_V z_R j
  | 0, _ => rfl
  | 1, _ => rfl
  | 2, _ => rfl
  | 3, _ => rfl
  | 4, _ => rfl
  | 5, _ => rfl
  | 6, _ => rfl
  | j + 7, h => absurd h (by omega)
abbrev z_L : List Value := [.null, .null, .null, .null, .int 0, .int 0, .int 0]
theorem df_L : ∀ j, j < 7 → defaultValue (ft_L j) = vp_V z_L j
  | 0, _ => rfl
  | 1, _ => rfl
  | 2, _ => rfl
  | 3, _ => rfl
  | 4, _ => rfl
  | 5, _ => rfl
  | 6, _ => rfl
  | j + 7, h => absurd h (by omega)
abbrev z_M : List Value := [.int 0, .long 0, .int 0, .null, .null, .null, .null, .null, .int 0, .null, .null, .int 0, .null, .null, .null, .int 0, .null, .null, .null, .null, .int 0, .int 0, .null, .int 0, .int 0, .null, .null, .null, .null, .null, .null, .null]
theorem df_M : ∀ j, j < 32 → defaultValue (ft_M j) = vp_V z_M j
  | 0, _ => rfl
  | 1, _ => rfl
  | 2, _ => rfl
  | 3, _ => rfl
  | 4, _ => rfl
  | 5, _ => rfl
  | 6, _ => rfl
  | 7, _ => rfl
  | 8, _ => rfl
  | 9, _ => rfl
  | 10, _ => rfl
  | 11, _ => rfl
  | 12, _ => rfl
  | 13, _ => rfl
  | 14, _ => rfl
  | 15, _ => rfl
  | 16, _ => rfl
  | 17, _ => rfl
  | 18, _ => rfl
  | 19, _ => rfl
  | 20, _ => rfl
  | 21, _ => rfl
  | 22, _ => rfl
  | 23, _ => rfl
  | 24, _ => rfl
  | 25, _ => rfl
  | 26, _ => rfl
  | 27, _ => rfl
  | 28, _ => rfl
  | 29, _ => rfl
  | 30, _ => rfl
  | 31, _ => rfl
  | j + 32, h => absurd h (by omega)
theorem c_G_init (l : Launch) : N0 l y_G_init b_G_init := by
  intro sz b p e s m below meth c hx hn hb hml htab hname hret hlk hw hPc
  have hl := lv_entry [Value.ref b] (n := 1) (Nat.le_of_ble_eq_true rfl)
  rw [lg_entry_eq]
  have hl : lv_has _ 1 [(0, .ref b)] := hl
  have hF : Fx p m c b_G_init 1 s #[Value.ref b] "WearHours$Gap" := ⟨hx, hb, hml, findClass_of_methodNamed hn, hw⟩
  refine lv_aload_n hx hb d_G_init_0 rfl (lv_at hl 0 rfl) ?_
  refine n_obj hF kw_85 hl.1 d_G_init_1 (Nat.le_of_ble_eq_true rfl) (Nat.le_of_ble_eq_true rfl) ?_
  exact xe_v hx hb hret hlk va_S.rf (fun t ht hW => rfl) (Nat.le_of_ble_eq_true rfl) (Nat.le_of_ble_eq_true rfl) d_G_init_4
theorem c_P_init (l : Launch) : N0 l y_P_init b_P_init := by
  intro sz b p e s m below meth c hx hn hb hml htab hname hret hlk hw hPc
  have hl := lv_entry [Value.ref b] (n := 1) (Nat.le_of_ble_eq_true rfl)
  rw [lg_entry_eq]
  have hl : lv_has _ 1 [(0, .ref b)] := hl
  have hF : Fx p m c b_P_init 1 s #[Value.ref b] "WearHours$Person" := ⟨hx, hb, hml, findClass_of_methodNamed hn, hw⟩
  refine lv_aload_n hx hb d_P_init_0 rfl (lv_at hl 0 rfl) ?_
  refine n_obj hF kw_101 hl.1 d_P_init_1 (Nat.le_of_ble_eq_true rfl) (Nat.le_of_ble_eq_true rfl) ?_
  exact xe_v hx hb hret hlk va_S.rf (fun t ht hW => rfl) (Nat.le_of_ble_eq_true rfl) (Nat.le_of_ble_eq_true rfl) d_P_init_4
theorem c_R_init (l : Launch) : N0 l y_R_init b_R_init := by
  intro sz b p e s m below meth c hx hn hb hml htab hname hret hlk hw hPc
  have hl := lv_entry [Value.ref b] (n := 1) (Nat.le_of_ble_eq_true rfl)
  rw [lg_entry_eq]
  have hl : lv_has _ 1 [(0, .ref b)] := hl
  have hF : Fx p m c b_R_init 1 s #[Value.ref b] "WearHours$Repair" := ⟨hx, hb, hml, findClass_of_methodNamed hn, hw⟩
  refine lv_aload_n hx hb d_R_init_0 rfl (lv_at hl 0 rfl) ?_
  refine n_obj hF kw_121 hl.1 d_R_init_1 (Nat.le_of_ble_eq_true rfl) (Nat.le_of_ble_eq_true rfl) ?_
  exact xe_v hx hb hret hlk va_S.rf (fun t ht hW => rfl) (Nat.le_of_ble_eq_true rfl) (Nat.le_of_ble_eq_true rfl) d_R_init_4
def ctT (cs : Nat → ClassId) (ad : Nat → Nat) (k : Nat) : va_E := if k = 0 then .inr (1, [.int 0, .int 0, .int 0, .int 0, .ref (ad 1)]) else aI (cs 0) 5 (fun _ => 0)
set_option maxHeartbeats 4000000 in
set_option maxRecDepth 100000 in
theorem c_T_init (l : Launch) (D : va_G) (cs : Nat → ClassId) (o : Nat) : Nc l y_T_init b_T_init 1 { frames := 4, cells := 1, slots := 5, locals := 100 } [.ref o] D cs o (.inr (1, z_T)) 2 (ctT cs) := by
  refine nw_enter (own := "WearHours$Thing") rfl rfl (Nat.le_of_ble_eq_true rfl) ?_
  intro p e s m below meth c ls K hS hP hD hl
  have hl : lv_has ls 1 [(0, .ref o)] := hl
  refine lv_aload_n K.hx K.hb d_T_init_0 rfl (lv_at hl 0 rfl) ?_
  refine n_obj K.1 kw_52 hl.1 d_T_init_1 (Nat.le_of_ble_eq_true rfl) (Nat.le_of_ble_eq_true rfl) ?_
  refine lv_aload_n K.hx K.hb d_T_init_4 rfl (lv_at hl 0 rfl) ?_
  refine lv_iconst (v := 5) K.hx K.hb d_T_init_5 (by decide) ?_
  refine n_newa (atype := .int) (a0 := (5, .inl (fun _ => 0))) K hP hD hS kw_72 rfl (fun C h => by cases h) 0 rfl (fun _ => rfl) (by decide) (N' := 5) (by decide) (by decide) (Nat.le_of_ble_eq_true rfl) (Nat.le_of_ble_eq_true rfl) d_T_init_6 (fun q1 H hP hD hS => ?_)
  refine n_put (fs := [.int 0, .int 0, .int 0, .int 0, .null]) (fs' := [.int 0, .int 0, .int 0, .int 0, .ref q1]) K hP hD hS 0 (by decide) rfl rfl i_T ft_T ft_T_ok n_T 4 (by decide) rfl kw_60 rfl rfl rfl (Nat.le_of_ble_eq_true rfl) rfl rfl d_T_init_8 (fun H l1 hP hD hS => ?_)
  have hcv := wv_conv (n2 := 2) hP hD (ctT cs) (fun k => k) (fun k h => h) (fun _ _ _ _ h => h) (fun k hk => match k, hk with | 0, _ => Or.inl rfl | 1, _ => Or.inl rfl | k + 2, h => absurd h (by omega))
  exact ne_v K hP hD hS (fun t ht => ⟨rfl, _, rfl, by rw [ht]; exact hcv.1, hcv.2⟩) (Nat.le_of_ble_eq_true rfl) (Nat.le_of_ble_eq_true rfl) d_T_init_11
def ctL (cs : Nat → ClassId) (w : Nat) (ad : Nat → Nat) (k : Nat) : va_E := if k = 0 then .inr (6, [.ref w, .ref (ad 1), .ref (ad 2), .ref (ad 3), .int 0, .int 0, .int 0]) else if k = 1 then aI (cs 0) 4 (fun _ => 0) else if k = 2 then aI (cs 0) 8 (fun _ => 0) else aI (cs 0) 6 (fun _ => 0)
set_option maxHeartbeats 4000000 in
set_option maxRecDepth 100000 in
theorem c_L_init (l : Launch) (D : va_G) (cs : Nat → ClassId) (o : Nat) (w : Nat) : Nc l y_L_init b_L_init 2 { frames := 4, cells := 3, slots := 18, locals := 100 } [.ref o, .ref w] D cs o (.inr (6, z_L)) 4 (ctL cs w) := by
  refine nw_enter (own := "WearHours$Planner") rfl rfl (Nat.le_of_ble_eq_true rfl) ?_
  intro p e s m below meth c ls K hS hP hD hl
  have hl : lv_has ls 2 [(0, .ref o), (1, .ref w)] := hl
  refine lv_aload_n K.hx K.hb d_L_init_0 rfl (lv_at hl 0 rfl) ?_
  refine n_obj K.1 kw_196 hl.1 d_L_init_1 (Nat.le_of_ble_eq_true rfl) (Nat.le_of_ble_eq_true rfl) ?_
  refine lv_aload_n K.hx K.hb d_L_init_4 rfl (lv_at hl 0 rfl) ?_
  refine lv_aload_n K.hx K.hb d_L_init_5 rfl (lv_at hl 1 rfl) ?_
  refine n_put (fs := [.null, .null, .null, .null, .int 0, .int 0, .int 0]) (fs' := [.ref w, .null, .null, .null, .int 0, .int 0, .int 0]) K hP hD hS 0 (by decide) rfl rfl i_L ft_L ft_L_ok n_L 0 (by decide) rfl kw_197 rfl rfl rfl (Nat.le_of_ble_eq_true rfl) rfl rfl d_L_init_6 (fun H l1 hP hD hS => ?_)
  refine lv_aload_n K.hx K.hb d_L_init_9 rfl (lv_at hl 0 rfl) ?_
  refine lv_iconst (v := 4) K.hx K.hb d_L_init_10 (by decide) ?_
  refine n_newa (atype := .int) (a0 := (4, .inl (fun _ => 0))) K hP hD hS kw_72 rfl (fun C h => by cases h) 0 rfl (fun _ => rfl) (by decide) (N' := 4) (by decide) (by decide) (Nat.le_of_ble_eq_true rfl) (Nat.le_of_ble_eq_true rfl) d_L_init_11 (fun q1 H hP hD hS => ?_)
  refine n_put (fs := [.ref w, .null, .null, .null, .int 0, .int 0, .int 0]) (fs' := [.ref w, .ref q1, .null, .null, .int 0, .int 0, .int 0]) K hP hD hS 0 (by decide) rfl rfl i_L ft_L ft_L_ok n_L 1 (by decide) rfl kw_198 rfl rfl rfl (Nat.le_of_ble_eq_true rfl) rfl rfl d_L_init_13 (fun H l1 hP hD hS => ?_)
  refine lv_aload_n K.hx K.hb d_L_init_16 rfl (lv_at hl 0 rfl) ?_
  refine lv_bipush (v := 8) K.hx K.hb d_L_init_17 (by decide) ?_
  refine n_newa (atype := .int) (a0 := (8, .inl (fun _ => 0))) K hP hD hS kw_72 rfl (fun C h => by cases h) 0 rfl (fun _ => rfl) (by decide) (N' := 8) (by decide) (by decide) (Nat.le_of_ble_eq_true rfl) (Nat.le_of_ble_eq_true rfl) d_L_init_19 (fun q2 H hP hD hS => ?_)
  refine n_put (fs := [.ref w, .ref q1, .null, .null, .int 0, .int 0, .int 0]) (fs' := [.ref w, .ref q1, .ref q2, .null, .int 0, .int 0, .int 0]) K hP hD hS 0 (by decide) rfl rfl i_L ft_L ft_L_ok n_L 2 (by decide) rfl kw_199 rfl rfl rfl (Nat.le_of_ble_eq_true rfl) rfl rfl d_L_init_21 (fun H l1 hP hD hS => ?_)
  refine lv_aload_n K.hx K.hb d_L_init_24 rfl (lv_at hl 0 rfl) ?_
  refine lv_bipush (v := 6) K.hx K.hb d_L_init_25 (by decide) ?_
  refine n_newa (atype := .int) (a0 := (6, .inl (fun _ => 0))) K hP hD hS kw_72 rfl (fun C h => by cases h) 0 rfl (fun _ => rfl) (by decide) (N' := 6) (by decide) (by decide) (Nat.le_of_ble_eq_true rfl) (Nat.le_of_ble_eq_true rfl) d_L_init_27 (fun q3 H hP hD hS => ?_)
  refine n_put (fs := [.ref w, .ref q1, .ref q2, .null, .int 0, .int 0, .int 0]) (fs' := [.ref w, .ref q1, .ref q2, .ref q3, .int 0, .int 0, .int 0]) K hP hD hS 0 (by decide) rfl rfl i_L ft_L ft_L_ok n_L 3 (by decide) rfl kw_200 rfl rfl rfl (Nat.le_of_ble_eq_true rfl) rfl rfl d_L_init_29 (fun H l1 hP hD hS => ?_)
  have hcv := wv_conv (n2 := 4) hP hD (ctL cs w) (fun k => k) (fun k h => h) (fun _ _ _ _ h => h) (fun k hk => match k, hk with | 0, _ => Or.inl rfl | 1, _ => Or.inl rfl | 2, _ => Or.inl rfl | 3, _ => Or.inl rfl | k + 4, h => absurd h (by omega))
  exact ne_v K hP hD hS (fun t ht => ⟨rfl, _, rfl, by rw [ht]; exact hcv.1, hcv.2⟩) (Nat.le_of_ble_eq_true rfl) (Nat.le_of_ble_eq_true rfl) d_L_init_32
def ctK (cs : Nat → ClassId) (ad : Nat → Nat) (k : Nat) : va_E := if k = 0 then .inr (2, [.ref (ad 1), .int 0, .ref (ad 8), .int 0, .ref (ad 13), .int 0, .int 8, .int 1000]) else if k = 1 then aR (cs 4) 6 (fun j => some (ad (2 + j))) else if k < 8 then .inr (3, z_G) else if k = 8 then aR (cs 5) 4 (fun j => some (ad (9 + j))) else if k < 13 then .inr (4, z_P) else if k = 13 then aR (cs 6) 5 (fun j => some (ad (14 + j))) else .inr (5, z_R)
set_option maxHeartbeats 4000000 in
set_option maxRecDepth 100000 in
theorem c_K_init (l : Launch) (D : va_G) (cs : Nat → ClassId) (o : Nat) : Nc l y_K_init b_K_init 2 { frames := 6, cells := 18, slots := 74, locals := 200 } [.ref o] D cs o (.inr (2, z_K)) 19 (ctK cs) := by
  refine nw_enter (own := "WearHours$Week") rfl rfl (Nat.le_of_ble_eq_true rfl) ?_
  intro p e s m below meth c ls K hS hP hD hl
  have hl : lv_has ls 2 [(0, .ref o)] := hl
  refine lv_aload_n K.hx K.hb d_K_init_0 rfl (lv_at hl 0 rfl) ?_
  refine n_obj K.1 kw_78 hl.1 d_K_init_1 (Nat.le_of_ble_eq_true rfl) (Nat.le_of_ble_eq_true rfl) ?_
  refine lv_aload_n K.hx K.hb d_K_init_4 rfl (lv_at hl 0 rfl) ?_
  refine lv_bipush (v := 6) K.hx K.hb d_K_init_5 (by decide) ?_
  refine n_newq K hP hD hS kw_79 K.2.1.2.2.2.1 4 rfl (by decide) (N' := 6) (by decide) (by decide) (Nat.le_of_ble_eq_true rfl) (Nat.le_of_ble_eq_true rfl) d_K_init_7 (fun q1 H hP hD hS => ?_)
  refine n_put (fs := [.null, .int 0, .null, .int 0, .null, .int 0, .int 0, .int 0]) (fs' := [.ref q1, .int 0, .null, .int 0, .null, .int 0, .int 0, .int 0]) K hP hD hS 0 (by decide) rfl rfl i_K ft_K ft_K_ok n_K 0 (by decide) rfl kw_153 rfl rfl rfl (Nat.le_of_ble_eq_true rfl) rfl rfl d_K_init_10 (fun H l1 hP hD hS => ?_)
  refine lv_iconst (v := 0) K.hx K.hb d_K_init_13 (by decide) ?_
  refine lv_istore_n (lv' := [(1, .int 0), (0, .ref o)]) K.hx K.hb d_K_init_14 rfl hl (by decide) rfl (fun ls hl => ?_)
  refine lv_iload_n K.hx K.hb d_K_init_15 rfl (lv_at hl 0 rfl) ?_
  refine lv_bipush (v := 6) K.hx K.hb d_K_init_16 (by decide) ?_
  refine lv_icmp_ge (tgt := 40) K.hx K.hb d_K_init_18 (by decide) (fun c_18 => (show False from by revert c_18; decide).elim) (fun _ => ?_)
  refine lv_aload_n K.hx K.hb d_K_init_21 rfl (lv_at hl 1 rfl) ?_
  refine n_get (fs := [.ref q1, .int 0, .null, .int 0, .null, .int 0, .int 0, .int 0]) K hP 0 (by decide) rfl rfl i_K 0 (by decide) rfl kw_153 rfl rfl d_K_init_22 ?_
  refine lv_iload_n K.hx K.hb d_K_init_25 rfl (lv_at hl 0 rfl) ?_
  refine n_new (ci := 3) (fs := z_G) K hP hD hS rfl i_G ft_G ft_G_ok kw_79 kw_81 kw_25 df_G (Nat.le_of_ble_eq_true rfl) (Nat.le_of_ble_eq_true rfl) d_K_init_26 (fun q2 H hP hD hS => ?_)
  refine lv_dup K.hx K.hb d_K_init_29 rfl ?_
  refine n_init0 (host := "WearHours") K hP hD hS (c_G_init l) kw_84 xm_G_init rfl (Or.inr nw_82) kw_83 hl.1 d_K_init_30 (Nat.le_of_ble_eq_true rfl) (Nat.le_of_ble_eq_true rfl) ⟨(Nat.le_of_ble_eq_true rfl), (Nat.le_of_ble_eq_true rfl)⟩ (fun H l1 hP hS => ?_)
  refine n_ast (t0 := 4) (L := 6) K hP hD hS 1 2 (by decide) (by decide) rfl rfl rfl rfl rfl rfl 0 rfl (by decide) (by decide) d_K_init_33 (fun H l1 hP hD hS => ?_)
  refine lv_iinc (v := 1) (lv' := [(1, .int 1), (0, .ref o)]) K.hx K.hb d_K_init_34 hl (k := 0) rfl (by decide) (by decide) rfl (fun ls hl => ?_)
  refine lv_goto (tgt := 15) K.hx K.hb d_K_init_37 (by decide) ?_
  refine lv_iload_n K.hx K.hb d_K_init_15 rfl (lv_at hl 0 rfl) ?_
  refine lv_bipush (v := 6) K.hx K.hb d_K_init_16 (by decide) ?_
  refine lv_icmp_ge (tgt := 40) K.hx K.hb d_K_init_18 (by decide) (fun c_18_1 => (show False from by revert c_18_1; decide).elim) (fun _ => ?_)
  refine lv_aload_n K.hx K.hb d_K_init_21 rfl (lv_at hl 1 rfl) ?_
  refine n_get (fs := [.ref q1, .int 0, .null, .int 0, .null, .int 0, .int 0, .int 0]) K hP 0 (by decide) rfl rfl i_K 0 (by decide) rfl kw_153 rfl rfl d_K_init_22 ?_
  refine lv_iload_n K.hx K.hb d_K_init_25 rfl (lv_at hl 0 rfl) ?_
  refine n_new (ci := 3) (fs := z_G) K hP hD hS rfl i_G ft_G ft_G_ok kw_79 kw_81 kw_25 df_G (Nat.le_of_ble_eq_true rfl) (Nat.le_of_ble_eq_true rfl) d_K_init_26 (fun q3 H hP hD hS => ?_)
  refine lv_dup K.hx K.hb d_K_init_29 rfl ?_
  refine n_init0 (host := "WearHours") K hP hD hS (c_G_init l) kw_84 xm_G_init rfl (Or.inr nw_82) kw_83 hl.1 d_K_init_30 (Nat.le_of_ble_eq_true rfl) (Nat.le_of_ble_eq_true rfl) ⟨(Nat.le_of_ble_eq_true rfl), (Nat.le_of_ble_eq_true rfl)⟩ (fun H l1 hP hS => ?_)
  refine n_ast (t0 := 4) (L := 6) K hP hD hS 1 3 (by decide) (by decide) rfl rfl rfl rfl rfl rfl 1 rfl (by decide) (by decide) d_K_init_33 (fun H l1 hP hD hS => ?_)
  refine lv_iinc (v := 2) (lv' := [(1, .int 2), (0, .ref o)]) K.hx K.hb d_K_init_34 hl (k := 0) rfl (by decide) (by decide) rfl (fun ls hl => ?_)
  refine lv_goto (tgt := 15) K.hx K.hb d_K_init_37 (by decide) ?_
  refine lv_iload_n K.hx K.hb d_K_init_15 rfl (lv_at hl 0 rfl) ?_
  refine lv_bipush (v := 6) K.hx K.hb d_K_init_16 (by decide) ?_
  refine lv_icmp_ge (tgt := 40) K.hx K.hb d_K_init_18 (by decide) (fun c_18_2 => (show False from by revert c_18_2; decide).elim) (fun _ => ?_)
  refine lv_aload_n K.hx K.hb d_K_init_21 rfl (lv_at hl 1 rfl) ?_
  refine n_get (fs := [.ref q1, .int 0, .null, .int 0, .null, .int 0, .int 0, .int 0]) K hP 0 (by decide) rfl rfl i_K 0 (by decide) rfl kw_153 rfl rfl d_K_init_22 ?_
  refine lv_iload_n K.hx K.hb d_K_init_25 rfl (lv_at hl 0 rfl) ?_
  refine n_new (ci := 3) (fs := z_G) K hP hD hS rfl i_G ft_G ft_G_ok kw_79 kw_81 kw_25 df_G (Nat.le_of_ble_eq_true rfl) (Nat.le_of_ble_eq_true rfl) d_K_init_26 (fun q4 H hP hD hS => ?_)
  refine lv_dup K.hx K.hb d_K_init_29 rfl ?_
  refine n_init0 (host := "WearHours") K hP hD hS (c_G_init l) kw_84 xm_G_init rfl (Or.inr nw_82) kw_83 hl.1 d_K_init_30 (Nat.le_of_ble_eq_true rfl) (Nat.le_of_ble_eq_true rfl) ⟨(Nat.le_of_ble_eq_true rfl), (Nat.le_of_ble_eq_true rfl)⟩ (fun H l1 hP hS => ?_)
  refine n_ast (t0 := 4) (L := 6) K hP hD hS 1 4 (by decide) (by decide) rfl rfl rfl rfl rfl rfl 2 rfl (by decide) (by decide) d_K_init_33 (fun H l1 hP hD hS => ?_)
  refine lv_iinc (v := 3) (lv' := [(1, .int 3), (0, .ref o)]) K.hx K.hb d_K_init_34 hl (k := 0) rfl (by decide) (by decide) rfl (fun ls hl => ?_)
  refine lv_goto (tgt := 15) K.hx K.hb d_K_init_37 (by decide) ?_
  refine lv_iload_n K.hx K.hb d_K_init_15 rfl (lv_at hl 0 rfl) ?_
  refine lv_bipush (v := 6) K.hx K.hb d_K_init_16 (by decide) ?_
  refine lv_icmp_ge (tgt := 40) K.hx K.hb d_K_init_18 (by decide) (fun c_18_3 => (show False from by revert c_18_3; decide).elim) (fun _ => ?_)
  refine lv_aload_n K.hx K.hb d_K_init_21 rfl (lv_at hl 1 rfl) ?_
  refine n_get (fs := [.ref q1, .int 0, .null, .int 0, .null, .int 0, .int 0, .int 0]) K hP 0 (by decide) rfl rfl i_K 0 (by decide) rfl kw_153 rfl rfl d_K_init_22 ?_
  refine lv_iload_n K.hx K.hb d_K_init_25 rfl (lv_at hl 0 rfl) ?_
  refine n_new (ci := 3) (fs := z_G) K hP hD hS rfl i_G ft_G ft_G_ok kw_79 kw_81 kw_25 df_G (Nat.le_of_ble_eq_true rfl) (Nat.le_of_ble_eq_true rfl) d_K_init_26 (fun q5 H hP hD hS => ?_)
  refine lv_dup K.hx K.hb d_K_init_29 rfl ?_
  refine n_init0 (host := "WearHours") K hP hD hS (c_G_init l) kw_84 xm_G_init rfl (Or.inr nw_82) kw_83 hl.1 d_K_init_30 (Nat.le_of_ble_eq_true rfl) (Nat.le_of_ble_eq_true rfl) ⟨(Nat.le_of_ble_eq_true rfl), (Nat.le_of_ble_eq_true rfl)⟩ (fun H l1 hP hS => ?_)
  refine n_ast (t0 := 4) (L := 6) K hP hD hS 1 5 (by decide) (by decide) rfl rfl rfl rfl rfl rfl 3 rfl (by decide) (by decide) d_K_init_33 (fun H l1 hP hD hS => ?_)
  refine lv_iinc (v := 4) (lv' := [(1, .int 4), (0, .ref o)]) K.hx K.hb d_K_init_34 hl (k := 0) rfl (by decide) (by decide) rfl (fun ls hl => ?_)
  refine lv_goto (tgt := 15) K.hx K.hb d_K_init_37 (by decide) ?_
  refine lv_iload_n K.hx K.hb d_K_init_15 rfl (lv_at hl 0 rfl) ?_
  refine lv_bipush (v := 6) K.hx K.hb d_K_init_16 (by decide) ?_
  refine lv_icmp_ge (tgt := 40) K.hx K.hb d_K_init_18 (by decide) (fun c_18_4 => (show False from by revert c_18_4; decide).elim) (fun _ => ?_)
  refine lv_aload_n K.hx K.hb d_K_init_21 rfl (lv_at hl 1 rfl) ?_
  refine n_get (fs := [.ref q1, .int 0, .null, .int 0, .null, .int 0, .int 0, .int 0]) K hP 0 (by decide) rfl rfl i_K 0 (by decide) rfl kw_153 rfl rfl d_K_init_22 ?_
  refine lv_iload_n K.hx K.hb d_K_init_25 rfl (lv_at hl 0 rfl) ?_
  refine n_new (ci := 3) (fs := z_G) K hP hD hS rfl i_G ft_G ft_G_ok kw_79 kw_81 kw_25 df_G (Nat.le_of_ble_eq_true rfl) (Nat.le_of_ble_eq_true rfl) d_K_init_26 (fun q6 H hP hD hS => ?_)
  refine lv_dup K.hx K.hb d_K_init_29 rfl ?_
  refine n_init0 (host := "WearHours") K hP hD hS (c_G_init l) kw_84 xm_G_init rfl (Or.inr nw_82) kw_83 hl.1 d_K_init_30 (Nat.le_of_ble_eq_true rfl) (Nat.le_of_ble_eq_true rfl) ⟨(Nat.le_of_ble_eq_true rfl), (Nat.le_of_ble_eq_true rfl)⟩ (fun H l1 hP hS => ?_)
  refine n_ast (t0 := 4) (L := 6) K hP hD hS 1 6 (by decide) (by decide) rfl rfl rfl rfl rfl rfl 4 rfl (by decide) (by decide) d_K_init_33 (fun H l1 hP hD hS => ?_)
  refine lv_iinc (v := 5) (lv' := [(1, .int 5), (0, .ref o)]) K.hx K.hb d_K_init_34 hl (k := 0) rfl (by decide) (by decide) rfl (fun ls hl => ?_)
  refine lv_goto (tgt := 15) K.hx K.hb d_K_init_37 (by decide) ?_
  refine lv_iload_n K.hx K.hb d_K_init_15 rfl (lv_at hl 0 rfl) ?_
  refine lv_bipush (v := 6) K.hx K.hb d_K_init_16 (by decide) ?_
  refine lv_icmp_ge (tgt := 40) K.hx K.hb d_K_init_18 (by decide) (fun c_18_5 => (show False from by revert c_18_5; decide).elim) (fun _ => ?_)
  refine lv_aload_n K.hx K.hb d_K_init_21 rfl (lv_at hl 1 rfl) ?_
  refine n_get (fs := [.ref q1, .int 0, .null, .int 0, .null, .int 0, .int 0, .int 0]) K hP 0 (by decide) rfl rfl i_K 0 (by decide) rfl kw_153 rfl rfl d_K_init_22 ?_
  refine lv_iload_n K.hx K.hb d_K_init_25 rfl (lv_at hl 0 rfl) ?_
  refine n_new (ci := 3) (fs := z_G) K hP hD hS rfl i_G ft_G ft_G_ok kw_79 kw_81 kw_25 df_G (Nat.le_of_ble_eq_true rfl) (Nat.le_of_ble_eq_true rfl) d_K_init_26 (fun q7 H hP hD hS => ?_)
  refine lv_dup K.hx K.hb d_K_init_29 rfl ?_
  refine n_init0 (host := "WearHours") K hP hD hS (c_G_init l) kw_84 xm_G_init rfl (Or.inr nw_82) kw_83 hl.1 d_K_init_30 (Nat.le_of_ble_eq_true rfl) (Nat.le_of_ble_eq_true rfl) ⟨(Nat.le_of_ble_eq_true rfl), (Nat.le_of_ble_eq_true rfl)⟩ (fun H l1 hP hS => ?_)
  refine n_ast (t0 := 4) (L := 6) K hP hD hS 1 7 (by decide) (by decide) rfl rfl rfl rfl rfl rfl 5 rfl (by decide) (by decide) d_K_init_33 (fun H l1 hP hD hS => ?_)
  refine lv_iinc (v := 6) (lv' := [(1, .int 6), (0, .ref o)]) K.hx K.hb d_K_init_34 hl (k := 0) rfl (by decide) (by decide) rfl (fun ls hl => ?_)
  refine lv_goto (tgt := 15) K.hx K.hb d_K_init_37 (by decide) ?_
  refine lv_iload_n K.hx K.hb d_K_init_15 rfl (lv_at hl 0 rfl) ?_
  refine lv_bipush (v := 6) K.hx K.hb d_K_init_16 (by decide) ?_
  refine lv_icmp_ge (tgt := 40) K.hx K.hb d_K_init_18 (by decide) (fun _ => ?_) (fun c_18_6 => (show False from by revert c_18_6; decide).elim)
  refine lv_aload_n K.hx K.hb d_K_init_40 rfl (lv_at hl 1 rfl) ?_
  refine lv_iconst (v := 4) K.hx K.hb d_K_init_41 (by decide) ?_
  refine n_newq K hP hD hS kw_95 K.2.1.2.2.2.2.1 5 rfl (by decide) (N' := 4) (by decide) (by decide) (Nat.le_of_ble_eq_true rfl) (Nat.le_of_ble_eq_true rfl) d_K_init_42 (fun q8 H hP hD hS => ?_)
  refine n_put (fs := [.ref q1, .int 0, .null, .int 0, .null, .int 0, .int 0, .int 0]) (fs' := [.ref q1, .int 0, .ref q8, .int 0, .null, .int 0, .int 0, .int 0]) K hP hD hS 0 (by decide) rfl rfl i_K ft_K ft_K_ok n_K 2 (by decide) rfl kw_158 rfl rfl rfl (Nat.le_of_ble_eq_true rfl) rfl rfl d_K_init_45 (fun H l1 hP hD hS => ?_)
  refine lv_iconst (v := 0) K.hx K.hb d_K_init_48 (by decide) ?_
  refine lv_istore_n (lv' := [(1, .int 0), (0, .ref o)]) K.hx K.hb d_K_init_49 rfl hl (by decide) rfl (fun ls hl => ?_)
  refine lv_iload_n K.hx K.hb d_K_init_50 rfl (lv_at hl 0 rfl) ?_
  refine lv_iconst (v := 4) K.hx K.hb d_K_init_51 (by decide) ?_
  refine lv_icmp_ge (tgt := 74) K.hx K.hb d_K_init_52 (by decide) (fun c_52 => (show False from by revert c_52; decide).elim) (fun _ => ?_)
  refine lv_aload_n K.hx K.hb d_K_init_55 rfl (lv_at hl 1 rfl) ?_
  refine n_get (fs := [.ref q1, .int 0, .ref q8, .int 0, .null, .int 0, .int 0, .int 0]) K hP 0 (by decide) rfl rfl i_K 2 (by decide) rfl kw_158 rfl rfl d_K_init_56 ?_
  refine lv_iload_n K.hx K.hb d_K_init_59 rfl (lv_at hl 0 rfl) ?_
  refine n_new (ci := 4) (fs := z_P) K hP hD hS rfl i_P ft_P ft_P_ok kw_95 kw_97 kw_26 df_P (Nat.le_of_ble_eq_true rfl) (Nat.le_of_ble_eq_true rfl) d_K_init_60 (fun q9 H hP hD hS => ?_)
  refine lv_dup K.hx K.hb d_K_init_63 rfl ?_
  refine n_init0 (host := "WearHours") K hP hD hS (c_P_init l) kw_100 xm_P_init rfl (Or.inr nw_98) kw_99 hl.1 d_K_init_64 (Nat.le_of_ble_eq_true rfl) (Nat.le_of_ble_eq_true rfl) ⟨(Nat.le_of_ble_eq_true rfl), (Nat.le_of_ble_eq_true rfl)⟩ (fun H l1 hP hS => ?_)
  refine n_ast (t0 := 5) (L := 4) K hP hD hS 8 9 (by decide) (by decide) rfl rfl rfl rfl rfl rfl 0 rfl (by decide) (by decide) d_K_init_67 (fun H l1 hP hD hS => ?_)
  refine lv_iinc (v := 1) (lv' := [(1, .int 1), (0, .ref o)]) K.hx K.hb d_K_init_68 hl (k := 0) rfl (by decide) (by decide) rfl (fun ls hl => ?_)
  refine lv_goto (tgt := 50) K.hx K.hb d_K_init_71 (by decide) ?_
  refine lv_iload_n K.hx K.hb d_K_init_50 rfl (lv_at hl 0 rfl) ?_
  refine lv_iconst (v := 4) K.hx K.hb d_K_init_51 (by decide) ?_
  refine lv_icmp_ge (tgt := 74) K.hx K.hb d_K_init_52 (by decide) (fun c_52_7 => (show False from by revert c_52_7; decide).elim) (fun _ => ?_)
  refine lv_aload_n K.hx K.hb d_K_init_55 rfl (lv_at hl 1 rfl) ?_
  refine n_get (fs := [.ref q1, .int 0, .ref q8, .int 0, .null, .int 0, .int 0, .int 0]) K hP 0 (by decide) rfl rfl i_K 2 (by decide) rfl kw_158 rfl rfl d_K_init_56 ?_
  refine lv_iload_n K.hx K.hb d_K_init_59 rfl (lv_at hl 0 rfl) ?_
  refine n_new (ci := 4) (fs := z_P) K hP hD hS rfl i_P ft_P ft_P_ok kw_95 kw_97 kw_26 df_P (Nat.le_of_ble_eq_true rfl) (Nat.le_of_ble_eq_true rfl) d_K_init_60 (fun q10 H hP hD hS => ?_)
  refine lv_dup K.hx K.hb d_K_init_63 rfl ?_
  refine n_init0 (host := "WearHours") K hP hD hS (c_P_init l) kw_100 xm_P_init rfl (Or.inr nw_98) kw_99 hl.1 d_K_init_64 (Nat.le_of_ble_eq_true rfl) (Nat.le_of_ble_eq_true rfl) ⟨(Nat.le_of_ble_eq_true rfl), (Nat.le_of_ble_eq_true rfl)⟩ (fun H l1 hP hS => ?_)
  refine n_ast (t0 := 5) (L := 4) K hP hD hS 8 10 (by decide) (by decide) rfl rfl rfl rfl rfl rfl 1 rfl (by decide) (by decide) d_K_init_67 (fun H l1 hP hD hS => ?_)
  refine lv_iinc (v := 2) (lv' := [(1, .int 2), (0, .ref o)]) K.hx K.hb d_K_init_68 hl (k := 0) rfl (by decide) (by decide) rfl (fun ls hl => ?_)
  refine lv_goto (tgt := 50) K.hx K.hb d_K_init_71 (by decide) ?_
  refine lv_iload_n K.hx K.hb d_K_init_50 rfl (lv_at hl 0 rfl) ?_
  refine lv_iconst (v := 4) K.hx K.hb d_K_init_51 (by decide) ?_
  refine lv_icmp_ge (tgt := 74) K.hx K.hb d_K_init_52 (by decide) (fun c_52_8 => (show False from by revert c_52_8; decide).elim) (fun _ => ?_)
  refine lv_aload_n K.hx K.hb d_K_init_55 rfl (lv_at hl 1 rfl) ?_
  refine n_get (fs := [.ref q1, .int 0, .ref q8, .int 0, .null, .int 0, .int 0, .int 0]) K hP 0 (by decide) rfl rfl i_K 2 (by decide) rfl kw_158 rfl rfl d_K_init_56 ?_
  refine lv_iload_n K.hx K.hb d_K_init_59 rfl (lv_at hl 0 rfl) ?_
  refine n_new (ci := 4) (fs := z_P) K hP hD hS rfl i_P ft_P ft_P_ok kw_95 kw_97 kw_26 df_P (Nat.le_of_ble_eq_true rfl) (Nat.le_of_ble_eq_true rfl) d_K_init_60 (fun q11 H hP hD hS => ?_)
  refine lv_dup K.hx K.hb d_K_init_63 rfl ?_
  refine n_init0 (host := "WearHours") K hP hD hS (c_P_init l) kw_100 xm_P_init rfl (Or.inr nw_98) kw_99 hl.1 d_K_init_64 (Nat.le_of_ble_eq_true rfl) (Nat.le_of_ble_eq_true rfl) ⟨(Nat.le_of_ble_eq_true rfl), (Nat.le_of_ble_eq_true rfl)⟩ (fun H l1 hP hS => ?_)
  refine n_ast (t0 := 5) (L := 4) K hP hD hS 8 11 (by decide) (by decide) rfl rfl rfl rfl rfl rfl 2 rfl (by decide) (by decide) d_K_init_67 (fun H l1 hP hD hS => ?_)
  refine lv_iinc (v := 3) (lv' := [(1, .int 3), (0, .ref o)]) K.hx K.hb d_K_init_68 hl (k := 0) rfl (by decide) (by decide) rfl (fun ls hl => ?_)
  refine lv_goto (tgt := 50) K.hx K.hb d_K_init_71 (by decide) ?_
  refine lv_iload_n K.hx K.hb d_K_init_50 rfl (lv_at hl 0 rfl) ?_
  refine lv_iconst (v := 4) K.hx K.hb d_K_init_51 (by decide) ?_
  refine lv_icmp_ge (tgt := 74) K.hx K.hb d_K_init_52 (by decide) (fun c_52_9 => (show False from by revert c_52_9; decide).elim) (fun _ => ?_)
  refine lv_aload_n K.hx K.hb d_K_init_55 rfl (lv_at hl 1 rfl) ?_
  refine n_get (fs := [.ref q1, .int 0, .ref q8, .int 0, .null, .int 0, .int 0, .int 0]) K hP 0 (by decide) rfl rfl i_K 2 (by decide) rfl kw_158 rfl rfl d_K_init_56 ?_
  refine lv_iload_n K.hx K.hb d_K_init_59 rfl (lv_at hl 0 rfl) ?_
  refine n_new (ci := 4) (fs := z_P) K hP hD hS rfl i_P ft_P ft_P_ok kw_95 kw_97 kw_26 df_P (Nat.le_of_ble_eq_true rfl) (Nat.le_of_ble_eq_true rfl) d_K_init_60 (fun q12 H hP hD hS => ?_)
  refine lv_dup K.hx K.hb d_K_init_63 rfl ?_
  refine n_init0 (host := "WearHours") K hP hD hS (c_P_init l) kw_100 xm_P_init rfl (Or.inr nw_98) kw_99 hl.1 d_K_init_64 (Nat.le_of_ble_eq_true rfl) (Nat.le_of_ble_eq_true rfl) ⟨(Nat.le_of_ble_eq_true rfl), (Nat.le_of_ble_eq_true rfl)⟩ (fun H l1 hP hS => ?_)
  refine n_ast (t0 := 5) (L := 4) K hP hD hS 8 12 (by decide) (by decide) rfl rfl rfl rfl rfl rfl 3 rfl (by decide) (by decide) d_K_init_67 (fun H l1 hP hD hS => ?_)
  refine lv_iinc (v := 4) (lv' := [(1, .int 4), (0, .ref o)]) K.hx K.hb d_K_init_68 hl (k := 0) rfl (by decide) (by decide) rfl (fun ls hl => ?_)
  refine lv_goto (tgt := 50) K.hx K.hb d_K_init_71 (by decide) ?_
  refine lv_iload_n K.hx K.hb d_K_init_50 rfl (lv_at hl 0 rfl) ?_
  refine lv_iconst (v := 4) K.hx K.hb d_K_init_51 (by decide) ?_
  refine lv_icmp_ge (tgt := 74) K.hx K.hb d_K_init_52 (by decide) (fun _ => ?_) (fun c_52_10 => (show False from by revert c_52_10; decide).elim)
  refine lv_aload_n K.hx K.hb d_K_init_74 rfl (lv_at hl 1 rfl) ?_
  refine lv_iconst (v := 5) K.hx K.hb d_K_init_75 (by decide) ?_
  refine n_newq K hP hD hS kw_115 K.2.1.2.2.2.2.2 6 rfl (by decide) (N' := 5) (by decide) (by decide) (Nat.le_of_ble_eq_true rfl) (Nat.le_of_ble_eq_true rfl) d_K_init_76 (fun q13 H hP hD hS => ?_)
  refine n_put (fs := [.ref q1, .int 0, .ref q8, .int 0, .null, .int 0, .int 0, .int 0]) (fs' := [.ref q1, .int 0, .ref q8, .int 0, .ref q13, .int 0, .int 0, .int 0]) K hP hD hS 0 (by decide) rfl rfl i_K ft_K ft_K_ok n_K 4 (by decide) rfl kw_163 rfl rfl rfl (Nat.le_of_ble_eq_true rfl) rfl rfl d_K_init_79 (fun H l1 hP hD hS => ?_)
  refine lv_iconst (v := 0) K.hx K.hb d_K_init_82 (by decide) ?_
  refine lv_istore_n (lv' := [(1, .int 0), (0, .ref o)]) K.hx K.hb d_K_init_83 rfl hl (by decide) rfl (fun ls hl => ?_)
  refine lv_iload_n K.hx K.hb d_K_init_84 rfl (lv_at hl 0 rfl) ?_
  refine lv_iconst (v := 5) K.hx K.hb d_K_init_85 (by decide) ?_
  refine lv_icmp_ge (tgt := 108) K.hx K.hb d_K_init_86 (by decide) (fun c_86 => (show False from by revert c_86; decide).elim) (fun _ => ?_)
  refine lv_aload_n K.hx K.hb d_K_init_89 rfl (lv_at hl 1 rfl) ?_
  refine n_get (fs := [.ref q1, .int 0, .ref q8, .int 0, .ref q13, .int 0, .int 0, .int 0]) K hP 0 (by decide) rfl rfl i_K 4 (by decide) rfl kw_163 rfl rfl d_K_init_90 ?_
  refine lv_iload_n K.hx K.hb d_K_init_93 rfl (lv_at hl 0 rfl) ?_
  refine n_new (ci := 5) (fs := z_R) K hP hD hS rfl i_R ft_R ft_R_ok kw_115 kw_117 kw_27 df_R (Nat.le_of_ble_eq_true rfl) (Nat.le_of_ble_eq_true rfl) d_K_init_94 (fun q14 H hP hD hS => ?_)
  refine lv_dup K.hx K.hb d_K_init_97 rfl ?_
  refine n_init0 (host := "WearHours") K hP hD hS (c_R_init l) kw_120 xm_R_init rfl (Or.inr nw_118) kw_119 hl.1 d_K_init_98 (Nat.le_of_ble_eq_true rfl) (Nat.le_of_ble_eq_true rfl) ⟨(Nat.le_of_ble_eq_true rfl), (Nat.le_of_ble_eq_true rfl)⟩ (fun H l1 hP hS => ?_)
  refine n_ast (t0 := 6) (L := 5) K hP hD hS 13 14 (by decide) (by decide) rfl rfl rfl rfl rfl rfl 0 rfl (by decide) (by decide) d_K_init_101 (fun H l1 hP hD hS => ?_)
  refine lv_iinc (v := 1) (lv' := [(1, .int 1), (0, .ref o)]) K.hx K.hb d_K_init_102 hl (k := 0) rfl (by decide) (by decide) rfl (fun ls hl => ?_)
  refine lv_goto (tgt := 84) K.hx K.hb d_K_init_105 (by decide) ?_
  refine lv_iload_n K.hx K.hb d_K_init_84 rfl (lv_at hl 0 rfl) ?_
  refine lv_iconst (v := 5) K.hx K.hb d_K_init_85 (by decide) ?_
  refine lv_icmp_ge (tgt := 108) K.hx K.hb d_K_init_86 (by decide) (fun c_86_11 => (show False from by revert c_86_11; decide).elim) (fun _ => ?_)
  refine lv_aload_n K.hx K.hb d_K_init_89 rfl (lv_at hl 1 rfl) ?_
  refine n_get (fs := [.ref q1, .int 0, .ref q8, .int 0, .ref q13, .int 0, .int 0, .int 0]) K hP 0 (by decide) rfl rfl i_K 4 (by decide) rfl kw_163 rfl rfl d_K_init_90 ?_
  refine lv_iload_n K.hx K.hb d_K_init_93 rfl (lv_at hl 0 rfl) ?_
  refine n_new (ci := 5) (fs := z_R) K hP hD hS rfl i_R ft_R ft_R_ok kw_115 kw_117 kw_27 df_R (Nat.le_of_ble_eq_true rfl) (Nat.le_of_ble_eq_true rfl) d_K_init_94 (fun q15 H hP hD hS => ?_)
  refine lv_dup K.hx K.hb d_K_init_97 rfl ?_
  refine n_init0 (host := "WearHours") K hP hD hS (c_R_init l) kw_120 xm_R_init rfl (Or.inr nw_118) kw_119 hl.1 d_K_init_98 (Nat.le_of_ble_eq_true rfl) (Nat.le_of_ble_eq_true rfl) ⟨(Nat.le_of_ble_eq_true rfl), (Nat.le_of_ble_eq_true rfl)⟩ (fun H l1 hP hS => ?_)
  refine n_ast (t0 := 6) (L := 5) K hP hD hS 13 15 (by decide) (by decide) rfl rfl rfl rfl rfl rfl 1 rfl (by decide) (by decide) d_K_init_101 (fun H l1 hP hD hS => ?_)
  refine lv_iinc (v := 2) (lv' := [(1, .int 2), (0, .ref o)]) K.hx K.hb d_K_init_102 hl (k := 0) rfl (by decide) (by decide) rfl (fun ls hl => ?_)
  refine lv_goto (tgt := 84) K.hx K.hb d_K_init_105 (by decide) ?_
  refine lv_iload_n K.hx K.hb d_K_init_84 rfl (lv_at hl 0 rfl) ?_
  refine lv_iconst (v := 5) K.hx K.hb d_K_init_85 (by decide) ?_
  refine lv_icmp_ge (tgt := 108) K.hx K.hb d_K_init_86 (by decide) (fun c_86_12 => (show False from by revert c_86_12; decide).elim) (fun _ => ?_)
  refine lv_aload_n K.hx K.hb d_K_init_89 rfl (lv_at hl 1 rfl) ?_
  refine n_get (fs := [.ref q1, .int 0, .ref q8, .int 0, .ref q13, .int 0, .int 0, .int 0]) K hP 0 (by decide) rfl rfl i_K 4 (by decide) rfl kw_163 rfl rfl d_K_init_90 ?_
  refine lv_iload_n K.hx K.hb d_K_init_93 rfl (lv_at hl 0 rfl) ?_
  refine n_new (ci := 5) (fs := z_R) K hP hD hS rfl i_R ft_R ft_R_ok kw_115 kw_117 kw_27 df_R (Nat.le_of_ble_eq_true rfl) (Nat.le_of_ble_eq_true rfl) d_K_init_94 (fun q16 H hP hD hS => ?_)
  refine lv_dup K.hx K.hb d_K_init_97 rfl ?_
  refine n_init0 (host := "WearHours") K hP hD hS (c_R_init l) kw_120 xm_R_init rfl (Or.inr nw_118) kw_119 hl.1 d_K_init_98 (Nat.le_of_ble_eq_true rfl) (Nat.le_of_ble_eq_true rfl) ⟨(Nat.le_of_ble_eq_true rfl), (Nat.le_of_ble_eq_true rfl)⟩ (fun H l1 hP hS => ?_)
  refine n_ast (t0 := 6) (L := 5) K hP hD hS 13 16 (by decide) (by decide) rfl rfl rfl rfl rfl rfl 2 rfl (by decide) (by decide) d_K_init_101 (fun H l1 hP hD hS => ?_)
  refine lv_iinc (v := 3) (lv' := [(1, .int 3), (0, .ref o)]) K.hx K.hb d_K_init_102 hl (k := 0) rfl (by decide) (by decide) rfl (fun ls hl => ?_)
  refine lv_goto (tgt := 84) K.hx K.hb d_K_init_105 (by decide) ?_
  refine lv_iload_n K.hx K.hb d_K_init_84 rfl (lv_at hl 0 rfl) ?_
  refine lv_iconst (v := 5) K.hx K.hb d_K_init_85 (by decide) ?_
  refine lv_icmp_ge (tgt := 108) K.hx K.hb d_K_init_86 (by decide) (fun c_86_13 => (show False from by revert c_86_13; decide).elim) (fun _ => ?_)
  refine lv_aload_n K.hx K.hb d_K_init_89 rfl (lv_at hl 1 rfl) ?_
  refine n_get (fs := [.ref q1, .int 0, .ref q8, .int 0, .ref q13, .int 0, .int 0, .int 0]) K hP 0 (by decide) rfl rfl i_K 4 (by decide) rfl kw_163 rfl rfl d_K_init_90 ?_
  refine lv_iload_n K.hx K.hb d_K_init_93 rfl (lv_at hl 0 rfl) ?_
  refine n_new (ci := 5) (fs := z_R) K hP hD hS rfl i_R ft_R ft_R_ok kw_115 kw_117 kw_27 df_R (Nat.le_of_ble_eq_true rfl) (Nat.le_of_ble_eq_true rfl) d_K_init_94 (fun q17 H hP hD hS => ?_)
  refine lv_dup K.hx K.hb d_K_init_97 rfl ?_
  refine n_init0 (host := "WearHours") K hP hD hS (c_R_init l) kw_120 xm_R_init rfl (Or.inr nw_118) kw_119 hl.1 d_K_init_98 (Nat.le_of_ble_eq_true rfl) (Nat.le_of_ble_eq_true rfl) ⟨(Nat.le_of_ble_eq_true rfl), (Nat.le_of_ble_eq_true rfl)⟩ (fun H l1 hP hS => ?_)
  refine n_ast (t0 := 6) (L := 5) K hP hD hS 13 17 (by decide) (by decide) rfl rfl rfl rfl rfl rfl 3 rfl (by decide) (by decide) d_K_init_101 (fun H l1 hP hD hS => ?_)
  refine lv_iinc (v := 4) (lv' := [(1, .int 4), (0, .ref o)]) K.hx K.hb d_K_init_102 hl (k := 0) rfl (by decide) (by decide) rfl (fun ls hl => ?_)
  refine lv_goto (tgt := 84) K.hx K.hb d_K_init_105 (by decide) ?_
  refine lv_iload_n K.hx K.hb d_K_init_84 rfl (lv_at hl 0 rfl) ?_
  refine lv_iconst (v := 5) K.hx K.hb d_K_init_85 (by decide) ?_
  refine lv_icmp_ge (tgt := 108) K.hx K.hb d_K_init_86 (by decide) (fun c_86_14 => (show False from by revert c_86_14; decide).elim) (fun _ => ?_)
  refine lv_aload_n K.hx K.hb d_K_init_89 rfl (lv_at hl 1 rfl) ?_
  refine n_get (fs := [.ref q1, .int 0, .ref q8, .int 0, .ref q13, .int 0, .int 0, .int 0]) K hP 0 (by decide) rfl rfl i_K 4 (by decide) rfl kw_163 rfl rfl d_K_init_90 ?_
  refine lv_iload_n K.hx K.hb d_K_init_93 rfl (lv_at hl 0 rfl) ?_
  refine n_new (ci := 5) (fs := z_R) K hP hD hS rfl i_R ft_R ft_R_ok kw_115 kw_117 kw_27 df_R (Nat.le_of_ble_eq_true rfl) (Nat.le_of_ble_eq_true rfl) d_K_init_94 (fun q18 H hP hD hS => ?_)
  refine lv_dup K.hx K.hb d_K_init_97 rfl ?_
  refine n_init0 (host := "WearHours") K hP hD hS (c_R_init l) kw_120 xm_R_init rfl (Or.inr nw_118) kw_119 hl.1 d_K_init_98 (Nat.le_of_ble_eq_true rfl) (Nat.le_of_ble_eq_true rfl) ⟨(Nat.le_of_ble_eq_true rfl), (Nat.le_of_ble_eq_true rfl)⟩ (fun H l1 hP hS => ?_)
  refine n_ast (t0 := 6) (L := 5) K hP hD hS 13 18 (by decide) (by decide) rfl rfl rfl rfl rfl rfl 4 rfl (by decide) (by decide) d_K_init_101 (fun H l1 hP hD hS => ?_)
  refine lv_iinc (v := 5) (lv' := [(1, .int 5), (0, .ref o)]) K.hx K.hb d_K_init_102 hl (k := 0) rfl (by decide) (by decide) rfl (fun ls hl => ?_)
  refine lv_goto (tgt := 84) K.hx K.hb d_K_init_105 (by decide) ?_
  refine lv_iload_n K.hx K.hb d_K_init_84 rfl (lv_at hl 0 rfl) ?_
  refine lv_iconst (v := 5) K.hx K.hb d_K_init_85 (by decide) ?_
  refine lv_icmp_ge (tgt := 108) K.hx K.hb d_K_init_86 (by decide) (fun _ => ?_) (fun c_86_15 => (show False from by revert c_86_15; decide).elim)
  refine lv_aload_n K.hx K.hb d_K_init_108 rfl (lv_at hl 1 rfl) ?_
  refine lv_bipush (v := 8) K.hx K.hb d_K_init_109 (by decide) ?_
  refine n_put (fs := [.ref q1, .int 0, .ref q8, .int 0, .ref q13, .int 0, .int 0, .int 0]) (fs' := [.ref q1, .int 0, .ref q8, .int 0, .ref q13, .int 0, .int 8, .int 0]) K hP hD hS 0 (by decide) rfl rfl i_K ft_K ft_K_ok n_K 6 (by decide) rfl kw_169 rfl rfl rfl (Nat.le_of_ble_eq_true rfl) rfl rfl d_K_init_111 (fun H l1 hP hD hS => ?_)
  refine lv_aload_n K.hx K.hb d_K_init_114 rfl (lv_at hl 1 rfl) ?_
  refine lv_sipush (v := 1000) K.hx K.hb d_K_init_115 (by decide) ?_
  refine n_put (fs := [.ref q1, .int 0, .ref q8, .int 0, .ref q13, .int 0, .int 8, .int 0]) (fs' := [.ref q1, .int 0, .ref q8, .int 0, .ref q13, .int 0, .int 8, .int 1000]) K hP hD hS 0 (by decide) rfl rfl i_K ft_K ft_K_ok n_K 7 (by decide) rfl kw_172 rfl rfl rfl (Nat.le_of_ble_eq_true rfl) rfl rfl d_K_init_118 (fun H l1 hP hD hS => ?_)
  have hcv := wv_conv (n2 := 19) hP hD (ctK cs) (fun k => k) (fun k h => h) (fun _ _ _ _ h => h) (fun k hk => match k, hk with | 0, _ => Or.inl rfl | 1, _ => Or.inr ⟨_, _, _, _, rfl, rfl, fun j hj => match j, hj with | 0, _ => rfl | 1, _ => rfl | 2, _ => rfl | 3, _ => rfl | 4, _ => rfl | 5, _ => rfl | j + 6, h => absurd h (by omega)⟩ | 2, _ => Or.inl rfl | 3, _ => Or.inl rfl | 4, _ => Or.inl rfl | 5, _ => Or.inl rfl | 6, _ => Or.inl rfl | 7, _ => Or.inl rfl | 8, _ => Or.inr ⟨_, _, _, _, rfl, rfl, fun j hj => match j, hj with | 0, _ => rfl | 1, _ => rfl | 2, _ => rfl | 3, _ => rfl | j + 4, h => absurd h (by omega)⟩ | 9, _ => Or.inl rfl | 10, _ => Or.inl rfl | 11, _ => Or.inl rfl | 12, _ => Or.inl rfl | 13, _ => Or.inr ⟨_, _, _, _, rfl, rfl, fun j hj => match j, hj with | 0, _ => rfl | 1, _ => rfl | 2, _ => rfl | 3, _ => rfl | 4, _ => rfl | j + 5, h => absurd h (by omega)⟩ | 14, _ => Or.inl rfl | 15, _ => Or.inl rfl | 16, _ => Or.inl rfl | 17, _ => Or.inl rfl | 18, _ => Or.inl rfl | k + 19, h => absurd h (by omega))
  exact ne_v K hP hD hS (fun t ht => ⟨rfl, _, rfl, by rw [ht]; exact hcv.1, hcv.2⟩) (Nat.le_of_ble_eq_true rfl) (Nat.le_of_ble_eq_true rfl) d_K_init_121
/-- the class's rows when an object is new -/
def vC0 : Nat → Nat → Int32 := u2 (u2 (fun _ _ => 0) 19 6 8) 19 7 1000
def pmC (k : Nat) : Nat := if k < 2 then k else if k < 10 then 2 * k - 2 else if k < 18 then 2 * k - 17 else k
def ctW (cs : Nat → ClassId) (ad : Nat → Nat) (k : Nat) : va_E := eC cs ad 1 k (vC0 k)
set_option maxHeartbeats 4000000 in
set_option maxRecDepth 100000 in
theorem c_W_init (l : Launch) (D : va_G) (cs : Nat → ClassId) (o : Nat) : Nc l y_W_init b_W_init 2 { frames := 10, cells := 41, slots := 199, locals := 400 } [.ref o] D cs o (.inr (0, z_W)) 42 (ctW cs) := by
  refine nw_enter (own := "WearHours") rfl rfl (Nat.le_of_ble_eq_true rfl) ?_
  intro p e s m below meth c ls K hS hP hD hl
  have hl : lv_has ls 2 [(0, .ref o)] := hl
  refine lv_aload_n K.hx K.hb d_W_init_0 rfl (lv_at hl 0 rfl) ?_
  refine n_obj K.1 kw_43 hl.1 d_W_init_1 (Nat.le_of_ble_eq_true rfl) (Nat.le_of_ble_eq_true rfl) ?_
  refine lv_aload_n K.hx K.hb d_W_init_4 rfl (lv_at hl 0 rfl) ?_
  refine lv_lconst (v := 1) K.hx K.hb d_W_init_5 (by decide) ?_
  refine n_put (fs := [.long 0, .null, .int 0, .null, .null, .null]) (fs' := [.long 1, .null, .int 0, .null, .null, .null]) K hP hD hS 0 (by decide) rfl rfl i_W ft_W ft_W_ok n_W 0 (by decide) rfl kw_222 rfl rfl rfl (Nat.le_of_ble_eq_true rfl) rfl rfl d_W_init_6 (fun H l1 hP hD hS => ?_)
  refine lv_aload_n K.hx K.hb d_W_init_9 rfl (lv_at hl 0 rfl) ?_
  refine lv_bipush (v := 8) K.hx K.hb d_W_init_10 (by decide) ?_
  refine n_newq K hP hD hS kw_46 K.2.1.2.2.1 3 rfl (by decide) (N' := 8) (by decide) (by decide) (Nat.le_of_ble_eq_true rfl) (Nat.le_of_ble_eq_true rfl) d_W_init_12 (fun q1 H hP hD hS => ?_)
  refine n_put (fs := [.long 1, .null, .int 0, .null, .null, .null]) (fs' := [.long 1, .ref q1, .int 0, .null, .null, .null]) K hP hD hS 0 (by decide) rfl rfl i_W ft_W ft_W_ok n_W 1 (by decide) rfl kw_223 rfl rfl rfl (Nat.le_of_ble_eq_true rfl) rfl rfl d_W_init_15 (fun H l1 hP hD hS => ?_)
  refine lv_iconst (v := 0) K.hx K.hb d_W_init_18 (by decide) ?_
  refine lv_istore_n (lv' := [(1, .int 0), (0, .ref o)]) K.hx K.hb d_W_init_19 rfl hl (by decide) rfl (fun ls hl => ?_)
  refine lv_iload_n K.hx K.hb d_W_init_20 rfl (lv_at hl 0 rfl) ?_
  refine lv_bipush (v := 8) K.hx K.hb d_W_init_21 (by decide) ?_
  refine lv_icmp_ge (tgt := 45) K.hx K.hb d_W_init_23 (by decide) (fun c_23 => (show False from by revert c_23; decide).elim) (fun _ => ?_)
  refine lv_aload_n K.hx K.hb d_W_init_26 rfl (lv_at hl 1 rfl) ?_
  refine n_get (fs := [.long 1, .ref q1, .int 0, .null, .null, .null]) K hP 0 (by decide) rfl rfl i_W 1 (by decide) rfl kw_223 rfl rfl d_W_init_27 ?_
  refine lv_iload_n K.hx K.hb d_W_init_30 rfl (lv_at hl 0 rfl) ?_
  refine n_new (ci := 1) (fs := z_T) K hP hD hS rfl i_T ft_T ft_T_ok kw_46 kw_48 kw_23 df_T (Nat.le_of_ble_eq_true rfl) (Nat.le_of_ble_eq_true rfl) d_W_init_31 (fun q2 H hP hD hS => ?_)
  refine lv_dup K.hx K.hb d_W_init_34 rfl ?_
  refine n_init (host := "WearHours") (n1 := 1) (As := []) K hP hD hS 2 (by decide) rfl (c_T_init l D cs q2) kw_51 xm_T_init rfl (Or.inl kw_49) kw_50 rfl hl.1 d_W_init_35 (Nat.le_of_ble_eq_true rfl) (Nat.le_of_ble_eq_true rfl) ⟨(Nat.le_of_ble_eq_true rfl), (Nat.le_of_ble_eq_true rfl)⟩ (fun a3 H l1 ea3 hP hD hS => ?_)
  refine n_ast (t0 := 3) (L := 8) K hP hD hS 1 2 (by decide) (by decide) rfl rfl rfl rfl rfl rfl 0 rfl (by decide) (by decide) d_W_init_38 (fun H l1 hP hD hS => ?_)
  refine lv_iinc (v := 1) (lv' := [(1, .int 1), (0, .ref o)]) K.hx K.hb d_W_init_39 hl (k := 0) rfl (by decide) (by decide) rfl (fun ls hl => ?_)
  refine lv_goto (tgt := 20) K.hx K.hb d_W_init_42 (by decide) ?_
  refine lv_iload_n K.hx K.hb d_W_init_20 rfl (lv_at hl 0 rfl) ?_
  refine lv_bipush (v := 8) K.hx K.hb d_W_init_21 (by decide) ?_
  refine lv_icmp_ge (tgt := 45) K.hx K.hb d_W_init_23 (by decide) (fun c_23_1 => (show False from by revert c_23_1; decide).elim) (fun _ => ?_)
  refine lv_aload_n K.hx K.hb d_W_init_26 rfl (lv_at hl 1 rfl) ?_
  refine n_get (fs := [.long 1, .ref q1, .int 0, .null, .null, .null]) K hP 0 (by decide) rfl rfl i_W 1 (by decide) rfl kw_223 rfl rfl d_W_init_27 ?_
  refine lv_iload_n K.hx K.hb d_W_init_30 rfl (lv_at hl 0 rfl) ?_
  refine n_new (ci := 1) (fs := z_T) K hP hD hS rfl i_T ft_T ft_T_ok kw_46 kw_48 kw_23 df_T (Nat.le_of_ble_eq_true rfl) (Nat.le_of_ble_eq_true rfl) d_W_init_31 (fun q4 H hP hD hS => ?_)
  refine lv_dup K.hx K.hb d_W_init_34 rfl ?_
  refine n_init (host := "WearHours") (n1 := 1) (As := []) K hP hD hS 4 (by decide) rfl (c_T_init l D cs q4) kw_51 xm_T_init rfl (Or.inl kw_49) kw_50 rfl hl.1 d_W_init_35 (Nat.le_of_ble_eq_true rfl) (Nat.le_of_ble_eq_true rfl) ⟨(Nat.le_of_ble_eq_true rfl), (Nat.le_of_ble_eq_true rfl)⟩ (fun a5 H l1 ea5 hP hD hS => ?_)
  refine n_ast (t0 := 3) (L := 8) K hP hD hS 1 4 (by decide) (by decide) rfl rfl rfl rfl rfl rfl 1 rfl (by decide) (by decide) d_W_init_38 (fun H l1 hP hD hS => ?_)
  refine lv_iinc (v := 2) (lv' := [(1, .int 2), (0, .ref o)]) K.hx K.hb d_W_init_39 hl (k := 0) rfl (by decide) (by decide) rfl (fun ls hl => ?_)
  refine lv_goto (tgt := 20) K.hx K.hb d_W_init_42 (by decide) ?_
  refine lv_iload_n K.hx K.hb d_W_init_20 rfl (lv_at hl 0 rfl) ?_
  refine lv_bipush (v := 8) K.hx K.hb d_W_init_21 (by decide) ?_
  refine lv_icmp_ge (tgt := 45) K.hx K.hb d_W_init_23 (by decide) (fun c_23_2 => (show False from by revert c_23_2; decide).elim) (fun _ => ?_)
  refine lv_aload_n K.hx K.hb d_W_init_26 rfl (lv_at hl 1 rfl) ?_
  refine n_get (fs := [.long 1, .ref q1, .int 0, .null, .null, .null]) K hP 0 (by decide) rfl rfl i_W 1 (by decide) rfl kw_223 rfl rfl d_W_init_27 ?_
  refine lv_iload_n K.hx K.hb d_W_init_30 rfl (lv_at hl 0 rfl) ?_
  refine n_new (ci := 1) (fs := z_T) K hP hD hS rfl i_T ft_T ft_T_ok kw_46 kw_48 kw_23 df_T (Nat.le_of_ble_eq_true rfl) (Nat.le_of_ble_eq_true rfl) d_W_init_31 (fun q6 H hP hD hS => ?_)
  refine lv_dup K.hx K.hb d_W_init_34 rfl ?_
  refine n_init (host := "WearHours") (n1 := 1) (As := []) K hP hD hS 6 (by decide) rfl (c_T_init l D cs q6) kw_51 xm_T_init rfl (Or.inl kw_49) kw_50 rfl hl.1 d_W_init_35 (Nat.le_of_ble_eq_true rfl) (Nat.le_of_ble_eq_true rfl) ⟨(Nat.le_of_ble_eq_true rfl), (Nat.le_of_ble_eq_true rfl)⟩ (fun a7 H l1 ea7 hP hD hS => ?_)
  refine n_ast (t0 := 3) (L := 8) K hP hD hS 1 6 (by decide) (by decide) rfl rfl rfl rfl rfl rfl 2 rfl (by decide) (by decide) d_W_init_38 (fun H l1 hP hD hS => ?_)
  refine lv_iinc (v := 3) (lv' := [(1, .int 3), (0, .ref o)]) K.hx K.hb d_W_init_39 hl (k := 0) rfl (by decide) (by decide) rfl (fun ls hl => ?_)
  refine lv_goto (tgt := 20) K.hx K.hb d_W_init_42 (by decide) ?_
  refine lv_iload_n K.hx K.hb d_W_init_20 rfl (lv_at hl 0 rfl) ?_
  refine lv_bipush (v := 8) K.hx K.hb d_W_init_21 (by decide) ?_
  refine lv_icmp_ge (tgt := 45) K.hx K.hb d_W_init_23 (by decide) (fun c_23_3 => (show False from by revert c_23_3; decide).elim) (fun _ => ?_)
  refine lv_aload_n K.hx K.hb d_W_init_26 rfl (lv_at hl 1 rfl) ?_
  refine n_get (fs := [.long 1, .ref q1, .int 0, .null, .null, .null]) K hP 0 (by decide) rfl rfl i_W 1 (by decide) rfl kw_223 rfl rfl d_W_init_27 ?_
  refine lv_iload_n K.hx K.hb d_W_init_30 rfl (lv_at hl 0 rfl) ?_
  refine n_new (ci := 1) (fs := z_T) K hP hD hS rfl i_T ft_T ft_T_ok kw_46 kw_48 kw_23 df_T (Nat.le_of_ble_eq_true rfl) (Nat.le_of_ble_eq_true rfl) d_W_init_31 (fun q8 H hP hD hS => ?_)
  refine lv_dup K.hx K.hb d_W_init_34 rfl ?_
  refine n_init (host := "WearHours") (n1 := 1) (As := []) K hP hD hS 8 (by decide) rfl (c_T_init l D cs q8) kw_51 xm_T_init rfl (Or.inl kw_49) kw_50 rfl hl.1 d_W_init_35 (Nat.le_of_ble_eq_true rfl) (Nat.le_of_ble_eq_true rfl) ⟨(Nat.le_of_ble_eq_true rfl), (Nat.le_of_ble_eq_true rfl)⟩ (fun a9 H l1 ea9 hP hD hS => ?_)
  refine n_ast (t0 := 3) (L := 8) K hP hD hS 1 8 (by decide) (by decide) rfl rfl rfl rfl rfl rfl 3 rfl (by decide) (by decide) d_W_init_38 (fun H l1 hP hD hS => ?_)
  refine lv_iinc (v := 4) (lv' := [(1, .int 4), (0, .ref o)]) K.hx K.hb d_W_init_39 hl (k := 0) rfl (by decide) (by decide) rfl (fun ls hl => ?_)
  refine lv_goto (tgt := 20) K.hx K.hb d_W_init_42 (by decide) ?_
  refine lv_iload_n K.hx K.hb d_W_init_20 rfl (lv_at hl 0 rfl) ?_
  refine lv_bipush (v := 8) K.hx K.hb d_W_init_21 (by decide) ?_
  refine lv_icmp_ge (tgt := 45) K.hx K.hb d_W_init_23 (by decide) (fun c_23_4 => (show False from by revert c_23_4; decide).elim) (fun _ => ?_)
  refine lv_aload_n K.hx K.hb d_W_init_26 rfl (lv_at hl 1 rfl) ?_
  refine n_get (fs := [.long 1, .ref q1, .int 0, .null, .null, .null]) K hP 0 (by decide) rfl rfl i_W 1 (by decide) rfl kw_223 rfl rfl d_W_init_27 ?_
  refine lv_iload_n K.hx K.hb d_W_init_30 rfl (lv_at hl 0 rfl) ?_
  refine n_new (ci := 1) (fs := z_T) K hP hD hS rfl i_T ft_T ft_T_ok kw_46 kw_48 kw_23 df_T (Nat.le_of_ble_eq_true rfl) (Nat.le_of_ble_eq_true rfl) d_W_init_31 (fun q10 H hP hD hS => ?_)
  refine lv_dup K.hx K.hb d_W_init_34 rfl ?_
  refine n_init (host := "WearHours") (n1 := 1) (As := []) K hP hD hS 10 (by decide) rfl (c_T_init l D cs q10) kw_51 xm_T_init rfl (Or.inl kw_49) kw_50 rfl hl.1 d_W_init_35 (Nat.le_of_ble_eq_true rfl) (Nat.le_of_ble_eq_true rfl) ⟨(Nat.le_of_ble_eq_true rfl), (Nat.le_of_ble_eq_true rfl)⟩ (fun a11 H l1 ea11 hP hD hS => ?_)
  refine n_ast (t0 := 3) (L := 8) K hP hD hS 1 10 (by decide) (by decide) rfl rfl rfl rfl rfl rfl 4 rfl (by decide) (by decide) d_W_init_38 (fun H l1 hP hD hS => ?_)
  refine lv_iinc (v := 5) (lv' := [(1, .int 5), (0, .ref o)]) K.hx K.hb d_W_init_39 hl (k := 0) rfl (by decide) (by decide) rfl (fun ls hl => ?_)
  refine lv_goto (tgt := 20) K.hx K.hb d_W_init_42 (by decide) ?_
  refine lv_iload_n K.hx K.hb d_W_init_20 rfl (lv_at hl 0 rfl) ?_
  refine lv_bipush (v := 8) K.hx K.hb d_W_init_21 (by decide) ?_
  refine lv_icmp_ge (tgt := 45) K.hx K.hb d_W_init_23 (by decide) (fun c_23_5 => (show False from by revert c_23_5; decide).elim) (fun _ => ?_)
  refine lv_aload_n K.hx K.hb d_W_init_26 rfl (lv_at hl 1 rfl) ?_
  refine n_get (fs := [.long 1, .ref q1, .int 0, .null, .null, .null]) K hP 0 (by decide) rfl rfl i_W 1 (by decide) rfl kw_223 rfl rfl d_W_init_27 ?_
  refine lv_iload_n K.hx K.hb d_W_init_30 rfl (lv_at hl 0 rfl) ?_
  refine n_new (ci := 1) (fs := z_T) K hP hD hS rfl i_T ft_T ft_T_ok kw_46 kw_48 kw_23 df_T (Nat.le_of_ble_eq_true rfl) (Nat.le_of_ble_eq_true rfl) d_W_init_31 (fun q12 H hP hD hS => ?_)
  refine lv_dup K.hx K.hb d_W_init_34 rfl ?_
  refine n_init (host := "WearHours") (n1 := 1) (As := []) K hP hD hS 12 (by decide) rfl (c_T_init l D cs q12) kw_51 xm_T_init rfl (Or.inl kw_49) kw_50 rfl hl.1 d_W_init_35 (Nat.le_of_ble_eq_true rfl) (Nat.le_of_ble_eq_true rfl) ⟨(Nat.le_of_ble_eq_true rfl), (Nat.le_of_ble_eq_true rfl)⟩ (fun a13 H l1 ea13 hP hD hS => ?_)
  refine n_ast (t0 := 3) (L := 8) K hP hD hS 1 12 (by decide) (by decide) rfl rfl rfl rfl rfl rfl 5 rfl (by decide) (by decide) d_W_init_38 (fun H l1 hP hD hS => ?_)
  refine lv_iinc (v := 6) (lv' := [(1, .int 6), (0, .ref o)]) K.hx K.hb d_W_init_39 hl (k := 0) rfl (by decide) (by decide) rfl (fun ls hl => ?_)
  refine lv_goto (tgt := 20) K.hx K.hb d_W_init_42 (by decide) ?_
  refine lv_iload_n K.hx K.hb d_W_init_20 rfl (lv_at hl 0 rfl) ?_
  refine lv_bipush (v := 8) K.hx K.hb d_W_init_21 (by decide) ?_
  refine lv_icmp_ge (tgt := 45) K.hx K.hb d_W_init_23 (by decide) (fun c_23_6 => (show False from by revert c_23_6; decide).elim) (fun _ => ?_)
  refine lv_aload_n K.hx K.hb d_W_init_26 rfl (lv_at hl 1 rfl) ?_
  refine n_get (fs := [.long 1, .ref q1, .int 0, .null, .null, .null]) K hP 0 (by decide) rfl rfl i_W 1 (by decide) rfl kw_223 rfl rfl d_W_init_27 ?_
  refine lv_iload_n K.hx K.hb d_W_init_30 rfl (lv_at hl 0 rfl) ?_
  refine n_new (ci := 1) (fs := z_T) K hP hD hS rfl i_T ft_T ft_T_ok kw_46 kw_48 kw_23 df_T (Nat.le_of_ble_eq_true rfl) (Nat.le_of_ble_eq_true rfl) d_W_init_31 (fun q14 H hP hD hS => ?_)
  refine lv_dup K.hx K.hb d_W_init_34 rfl ?_
  refine n_init (host := "WearHours") (n1 := 1) (As := []) K hP hD hS 14 (by decide) rfl (c_T_init l D cs q14) kw_51 xm_T_init rfl (Or.inl kw_49) kw_50 rfl hl.1 d_W_init_35 (Nat.le_of_ble_eq_true rfl) (Nat.le_of_ble_eq_true rfl) ⟨(Nat.le_of_ble_eq_true rfl), (Nat.le_of_ble_eq_true rfl)⟩ (fun a15 H l1 ea15 hP hD hS => ?_)
  refine n_ast (t0 := 3) (L := 8) K hP hD hS 1 14 (by decide) (by decide) rfl rfl rfl rfl rfl rfl 6 rfl (by decide) (by decide) d_W_init_38 (fun H l1 hP hD hS => ?_)
  refine lv_iinc (v := 7) (lv' := [(1, .int 7), (0, .ref o)]) K.hx K.hb d_W_init_39 hl (k := 0) rfl (by decide) (by decide) rfl (fun ls hl => ?_)
  refine lv_goto (tgt := 20) K.hx K.hb d_W_init_42 (by decide) ?_
  refine lv_iload_n K.hx K.hb d_W_init_20 rfl (lv_at hl 0 rfl) ?_
  refine lv_bipush (v := 8) K.hx K.hb d_W_init_21 (by decide) ?_
  refine lv_icmp_ge (tgt := 45) K.hx K.hb d_W_init_23 (by decide) (fun c_23_7 => (show False from by revert c_23_7; decide).elim) (fun _ => ?_)
  refine lv_aload_n K.hx K.hb d_W_init_26 rfl (lv_at hl 1 rfl) ?_
  refine n_get (fs := [.long 1, .ref q1, .int 0, .null, .null, .null]) K hP 0 (by decide) rfl rfl i_W 1 (by decide) rfl kw_223 rfl rfl d_W_init_27 ?_
  refine lv_iload_n K.hx K.hb d_W_init_30 rfl (lv_at hl 0 rfl) ?_
  refine n_new (ci := 1) (fs := z_T) K hP hD hS rfl i_T ft_T ft_T_ok kw_46 kw_48 kw_23 df_T (Nat.le_of_ble_eq_true rfl) (Nat.le_of_ble_eq_true rfl) d_W_init_31 (fun q16 H hP hD hS => ?_)
  refine lv_dup K.hx K.hb d_W_init_34 rfl ?_
  refine n_init (host := "WearHours") (n1 := 1) (As := []) K hP hD hS 16 (by decide) rfl (c_T_init l D cs q16) kw_51 xm_T_init rfl (Or.inl kw_49) kw_50 rfl hl.1 d_W_init_35 (Nat.le_of_ble_eq_true rfl) (Nat.le_of_ble_eq_true rfl) ⟨(Nat.le_of_ble_eq_true rfl), (Nat.le_of_ble_eq_true rfl)⟩ (fun a17 H l1 ea17 hP hD hS => ?_)
  refine n_ast (t0 := 3) (L := 8) K hP hD hS 1 16 (by decide) (by decide) rfl rfl rfl rfl rfl rfl 7 rfl (by decide) (by decide) d_W_init_38 (fun H l1 hP hD hS => ?_)
  refine lv_iinc (v := 8) (lv' := [(1, .int 8), (0, .ref o)]) K.hx K.hb d_W_init_39 hl (k := 0) rfl (by decide) (by decide) rfl (fun ls hl => ?_)
  refine lv_goto (tgt := 20) K.hx K.hb d_W_init_42 (by decide) ?_
  refine lv_iload_n K.hx K.hb d_W_init_20 rfl (lv_at hl 0 rfl) ?_
  refine lv_bipush (v := 8) K.hx K.hb d_W_init_21 (by decide) ?_
  refine lv_icmp_ge (tgt := 45) K.hx K.hb d_W_init_23 (by decide) (fun _ => ?_) (fun c_23_8 => (show False from by revert c_23_8; decide).elim)
  refine lv_aload_n K.hx K.hb d_W_init_45 rfl (lv_at hl 1 rfl) ?_
  refine lv_iconst (v := 4) K.hx K.hb d_W_init_46 (by decide) ?_
  refine n_newa (atype := .int) (a0 := (4, .inl (fun _ => 0))) K hP hD hS kw_72 rfl (fun C h => by cases h) 0 rfl (fun _ => rfl) (by decide) (N' := 4) (by decide) (by decide) (Nat.le_of_ble_eq_true rfl) (Nat.le_of_ble_eq_true rfl) d_W_init_47 (fun q18 H hP hD hS => ?_)
  refine n_put (fs := [.long 1, .ref q1, .int 0, .null, .null, .null]) (fs' := [.long 1, .ref q1, .int 0, .ref q18, .null, .null]) K hP hD hS 0 (by decide) rfl rfl i_W ft_W ft_W_ok n_W 3 (by decide) rfl kw_225 rfl rfl rfl (Nat.le_of_ble_eq_true rfl) rfl rfl d_W_init_49 (fun H l1 hP hD hS => ?_)
  refine lv_aload_n K.hx K.hb d_W_init_52 rfl (lv_at hl 1 rfl) ?_
  refine n_new (ci := 2) (fs := z_K) K hP hD hS rfl i_K ft_K ft_K_ok kw_73 kw_74 kw_24 df_K (Nat.le_of_ble_eq_true rfl) (Nat.le_of_ble_eq_true rfl) d_W_init_53 (fun q19 H hP hD hS => ?_)
  refine lv_dup K.hx K.hb d_W_init_56 rfl ?_
  refine n_init (host := "WearHours") (n1 := 18) (As := []) K hP hD hS 19 (by decide) rfl (c_K_init l D cs q19) kw_77 xm_K_init rfl (Or.inl kw_75) kw_76 rfl hl.1 d_W_init_57 (Nat.le_of_ble_eq_true rfl) (Nat.le_of_ble_eq_true rfl) ⟨(Nat.le_of_ble_eq_true rfl), (Nat.le_of_ble_eq_true rfl)⟩ (fun a20 H l1 ea20 hP hD hS => ?_)
  refine n_put (fs := [.long 1, .ref q1, .int 0, .ref q18, .null, .null]) (fs' := [.long 1, .ref q1, .int 0, .ref q18, .ref q19, .null]) K hP hD hS 0 (by decide) rfl rfl i_W ft_W ft_W_ok n_W 4 (by decide) rfl kw_226 rfl rfl rfl (Nat.le_of_ble_eq_true rfl) rfl rfl d_W_init_60 (fun H l1 hP hD hS => ?_)
  refine lv_aload_n K.hx K.hb d_W_init_63 rfl (lv_at hl 1 rfl) ?_
  refine n_new (ci := 6) (fs := z_L) K hP hD hS rfl i_L ft_L ft_L_ok kw_191 kw_192 kw_28 df_L (Nat.le_of_ble_eq_true rfl) (Nat.le_of_ble_eq_true rfl) d_W_init_64 (fun q21 H hP hD hS => ?_)
  refine lv_dup K.hx K.hb d_W_init_67 rfl ?_
  refine lv_aload_n K.hx K.hb d_W_init_68 rfl (lv_at hl 1 rfl) ?_
  refine n_get (fs := [.long 1, .ref q1, .int 0, .ref q18, .ref q19, .null]) K hP 0 (by decide) rfl rfl i_W 4 (by decide) rfl kw_226 rfl rfl d_W_init_69 ?_
  refine n_init (host := "WearHours") (n1 := 3) (As := [.ref q19]) K hP hD hS 38 (by decide) rfl (c_L_init l D cs q21 q19) kw_195 xm_L_init rfl (Or.inl kw_193) kw_194 rfl hl.1 d_W_init_72 (Nat.le_of_ble_eq_true rfl) (Nat.le_of_ble_eq_true rfl) ⟨(Nat.le_of_ble_eq_true rfl), (Nat.le_of_ble_eq_true rfl)⟩ (fun a22 H l1 ea22 hP hD hS => ?_)
  refine n_put (fs := [.long 1, .ref q1, .int 0, .ref q18, .ref q19, .null]) (fs' := [.long 1, .ref q1, .int 0, .ref q18, .ref q19, .ref q21]) K hP hD hS 0 (by decide) rfl rfl i_W ft_W ft_W_ok n_W 5 (by decide) rfl kw_227 rfl rfl rfl (Nat.le_of_ble_eq_true rfl) rfl rfl d_W_init_75 (fun H l1 hP hD hS => ?_)
  have hcv := wv_conv (n2 := 42) hP hD (ctW cs) pmC (fun k h => by unfold pmC; split; omega; split; omega; split; omega; omega) (fun i j hi hj h => by unfold pmC at h; (repeat' split at h) <;> omega) (fun k hk => match k, hk with | 0, _ => Or.inl rfl | 1, _ => Or.inr ⟨_, _, _, _, rfl, rfl, fun j hj => match j, hj with | 0, _ => rfl | 1, _ => rfl | 2, _ => rfl | 3, _ => rfl | 4, _ => rfl | 5, _ => rfl | 6, _ => rfl | 7, _ => rfl | j + 8, h => absurd h (by omega)⟩ | 2, _ => Or.inl rfl | 3, _ => Or.inl rfl | 4, _ => Or.inl rfl | 5, _ => Or.inl rfl | 6, _ => Or.inl rfl | 7, _ => Or.inl rfl | 8, _ => Or.inl rfl | 9, _ => Or.inl rfl | 10, _ => Or.inl rfl | 11, _ => Or.inl rfl | 12, _ => Or.inl rfl | 13, _ => Or.inl rfl | 14, _ => Or.inl rfl | 15, _ => Or.inl rfl | 16, _ => Or.inl rfl | 17, _ => Or.inl rfl | 18, _ => Or.inl rfl | 19, _ => Or.inl rfl | 20, _ => Or.inr ⟨_, _, _, _, rfl, rfl, fun j hj => match j, hj with | 0, _ => rfl | 1, _ => rfl | 2, _ => rfl | 3, _ => rfl | 4, _ => rfl | 5, _ => rfl | j + 6, h => absurd h (by omega)⟩ | 21, _ => Or.inl rfl | 22, _ => Or.inl rfl | 23, _ => Or.inl rfl | 24, _ => Or.inl rfl | 25, _ => Or.inl rfl | 26, _ => Or.inl rfl | 27, _ => Or.inr ⟨_, _, _, _, rfl, rfl, fun j hj => match j, hj with | 0, _ => rfl | 1, _ => rfl | 2, _ => rfl | 3, _ => rfl | j + 4, h => absurd h (by omega)⟩ | 28, _ => Or.inl rfl | 29, _ => Or.inl rfl | 30, _ => Or.inl rfl | 31, _ => Or.inl rfl | 32, _ => Or.inr ⟨_, _, _, _, rfl, rfl, fun j hj => match j, hj with | 0, _ => rfl | 1, _ => rfl | 2, _ => rfl | 3, _ => rfl | 4, _ => rfl | j + 5, h => absurd h (by omega)⟩ | 33, _ => Or.inl rfl | 34, _ => Or.inl rfl | 35, _ => Or.inl rfl | 36, _ => Or.inl rfl | 37, _ => Or.inl rfl | 38, _ => Or.inl rfl | 39, _ => Or.inl rfl | 40, _ => Or.inl rfl | 41, _ => Or.inl rfl | k + 42, h => absurd h (by omega))
  exact ne_v K hP hD hS (fun t ht => ⟨rfl, _, rfl, by rw [ht]; exact hcv.1, hcv.2⟩) (Nat.le_of_ble_eq_true rfl) (Nat.le_of_ble_eq_true rfl) d_W_init_78
/-- the reference's rows when an object is new -/
def vM0 : Nat → Nat → Int32 := u2 (u2 (fun _ _ => 0) 0 20 8) 0 21 1000
def ctM (cs : Nat → ClassId) (ad : Nat → Nat) (k : Nat) : va_E := eM cs ad 1 k (vM0 k)
set_option maxHeartbeats 4000000 in
set_option maxRecDepth 100000 in
theorem c_M_init (l : Launch) (D : va_G) (cs : Nat → ClassId) (o : Nat) : Nc l y_M_init b_M_init 1 { frames := 4, cells := 22, slots := 220, locals := 100 } [.ref o] D cs o (.inr (7, z_M)) 23 (ctM cs) := by
  refine nw_enter (own := "WearHoursModel") rfl rfl (Nat.le_of_ble_eq_true rfl) ?_
  intro p e s m below meth c ls K hS hP hD hl
  have hl : lv_has ls 1 [(0, .ref o)] := hl
  refine lv_aload_n K.hx K.hb d_M_init_0 rfl (lv_at hl 0 rfl) ?_
  refine n_obj K.1 kw_633 hl.1 d_M_init_1 (Nat.le_of_ble_eq_true rfl) (Nat.le_of_ble_eq_true rfl) ?_
  refine lv_aload_n K.hx K.hb d_M_init_4 rfl (lv_at hl 0 rfl) ?_
  refine lv_lconst (v := 1) K.hx K.hb d_M_init_5 (by decide) ?_
  refine n_put (fs := [.int 0, .long 0, .int 0, .null, .null, .null, .null, .null, .int 0, .null, .null, .int 0, .null, .null, .null, .int 0, .null, .null, .null, .null, .int 0, .int 0, .null, .int 0, .int 0, .null, .null, .null, .null, .null, .null, .null]) (fs' := [.int 0, .long 1, .int 0, .null, .null, .null, .null, .null, .int 0, .null, .null, .int 0, .null, .null, .null, .int 0, .null, .null, .null, .null, .int 0, .int 0, .null, .int 0, .int 0, .null, .null, .null, .null, .null, .null, .null]) K hP hD hS 0 (by decide) rfl rfl i_M ft_M ft_M_ok n_M 1 (by decide) rfl kw_635 rfl rfl rfl (Nat.le_of_ble_eq_true rfl) rfl rfl d_M_init_6 (fun H l1 hP hD hS => ?_)
  refine lv_aload_n K.hx K.hb d_M_init_9 rfl (lv_at hl 0 rfl) ?_
  refine lv_bipush (v := 8) K.hx K.hb d_M_init_10 (by decide) ?_
  refine n_newa (atype := .int) (a0 := (8, .inl (fun _ => 0))) K hP hD hS kw_72 rfl (fun C h => by cases h) 0 rfl (fun _ => rfl) (by decide) (N' := 8) (by decide) (by decide) (Nat.le_of_ble_eq_true rfl) (Nat.le_of_ble_eq_true rfl) d_M_init_12 (fun q1 H hP hD hS => ?_)
  refine n_put (fs := [.int 0, .long 1, .int 0, .null, .null, .null, .null, .null, .int 0, .null, .null, .int 0, .null, .null, .null, .int 0, .null, .null, .null, .null, .int 0, .int 0, .null, .int 0, .int 0, .null, .null, .null, .null, .null, .null, .null]) (fs' := [.int 0, .long 1, .int 0, .ref q1, .null, .null, .null, .null, .int 0, .null, .null, .int 0, .null, .null, .null, .int 0, .null, .null, .null, .null, .int 0, .int 0, .null, .int 0, .int 0, .null, .null, .null, .null, .null, .null, .null]) K hP hD hS 0 (by decide) rfl rfl i_M ft_M ft_M_ok n_M 3 (by decide) rfl kw_637 rfl rfl rfl (Nat.le_of_ble_eq_true rfl) rfl rfl d_M_init_14 (fun H l1 hP hD hS => ?_)
  refine lv_aload_n K.hx K.hb d_M_init_17 rfl (lv_at hl 0 rfl) ?_
  refine lv_bipush (v := 8) K.hx K.hb d_M_init_18 (by decide) ?_
  refine n_newa (atype := .int) (a0 := (8, .inl (fun _ => 0))) K hP hD hS kw_72 rfl (fun C h => by cases h) 0 rfl (fun _ => rfl) (by decide) (N' := 8) (by decide) (by decide) (Nat.le_of_ble_eq_true rfl) (Nat.le_of_ble_eq_true rfl) d_M_init_20 (fun q2 H hP hD hS => ?_)
  refine n_put (fs := [.int 0, .long 1, .int 0, .ref q1, .null, .null, .null, .null, .int 0, .null, .null, .int 0, .null, .null, .null, .int 0, .null, .null, .null, .null, .int 0, .int 0, .null, .int 0, .int 0, .null, .null, .null, .null, .null, .null, .null]) (fs' := [.int 0, .long 1, .int 0, .ref q1, .ref q2, .null, .null, .null, .int 0, .null, .null, .int 0, .null, .null, .null, .int 0, .null, .null, .null, .null, .int 0, .int 0, .null, .int 0, .int 0, .null, .null, .null, .null, .null, .null, .null]) K hP hD hS 0 (by decide) rfl rfl i_M ft_M ft_M_ok n_M 4 (by decide) rfl kw_638 rfl rfl rfl (Nat.le_of_ble_eq_true rfl) rfl rfl d_M_init_22 (fun H l1 hP hD hS => ?_)
  refine lv_aload_n K.hx K.hb d_M_init_25 rfl (lv_at hl 0 rfl) ?_
  refine lv_bipush (v := 8) K.hx K.hb d_M_init_26 (by decide) ?_
  refine n_newa (atype := .int) (a0 := (8, .inl (fun _ => 0))) K hP hD hS kw_72 rfl (fun C h => by cases h) 0 rfl (fun _ => rfl) (by decide) (N' := 8) (by decide) (by decide) (Nat.le_of_ble_eq_true rfl) (Nat.le_of_ble_eq_true rfl) d_M_init_28 (fun q3 H hP hD hS => ?_)
  refine n_put (fs := [.int 0, .long 1, .int 0, .ref q1, .ref q2, .null, .null, .null, .int 0, .null, .null, .int 0, .null, .null, .null, .int 0, .null, .null, .null, .null, .int 0, .int 0, .null, .int 0, .int 0, .null, .null, .null, .null, .null, .null, .null]) (fs' := [.int 0, .long 1, .int 0, .ref q1, .ref q2, .ref q3, .null, .null, .int 0, .null, .null, .int 0, .null, .null, .null, .int 0, .null, .null, .null, .null, .int 0, .int 0, .null, .int 0, .int 0, .null, .null, .null, .null, .null, .null, .null]) K hP hD hS 0 (by decide) rfl rfl i_M ft_M ft_M_ok n_M 5 (by decide) rfl kw_639 rfl rfl rfl (Nat.le_of_ble_eq_true rfl) rfl rfl d_M_init_30 (fun H l1 hP hD hS => ?_)
  refine lv_aload_n K.hx K.hb d_M_init_33 rfl (lv_at hl 0 rfl) ?_
  refine lv_bipush (v := 8) K.hx K.hb d_M_init_34 (by decide) ?_
  refine n_newa (atype := .boolean) (a0 := (8, .inl (fun _ => 0))) K hP hD hS kw_731 rfl (fun C h => by cases h) 1 rfl (fun _ => rfl) (by decide) (N' := 8) (by decide) (by decide) (Nat.le_of_ble_eq_true rfl) (Nat.le_of_ble_eq_true rfl) d_M_init_36 (fun q4 H hP hD hS => ?_)
  refine n_put (fs := [.int 0, .long 1, .int 0, .ref q1, .ref q2, .ref q3, .null, .null, .int 0, .null, .null, .int 0, .null, .null, .null, .int 0, .null, .null, .null, .null, .int 0, .int 0, .null, .int 0, .int 0, .null, .null, .null, .null, .null, .null, .null]) (fs' := [.int 0, .long 1, .int 0, .ref q1, .ref q2, .ref q3, .ref q4, .null, .int 0, .null, .null, .int 0, .null, .null, .null, .int 0, .null, .null, .null, .null, .int 0, .int 0, .null, .int 0, .int 0, .null, .null, .null, .null, .null, .null, .null]) K hP hD hS 0 (by decide) rfl rfl i_M ft_M ft_M_ok n_M 6 (by decide) rfl kw_640 rfl rfl rfl (Nat.le_of_ble_eq_true rfl) rfl rfl d_M_init_38 (fun H l1 hP hD hS => ?_)
  refine lv_aload_n K.hx K.hb d_M_init_41 rfl (lv_at hl 0 rfl) ?_
  refine lv_bipush (v := 40) K.hx K.hb d_M_init_42 (by decide) ?_
  refine n_newa (atype := .int) (a0 := (40, .inl (fun _ => 0))) K hP hD hS kw_72 rfl (fun C h => by cases h) 0 rfl (fun _ => rfl) (by decide) (N' := 40) (by decide) (by decide) (Nat.le_of_ble_eq_true rfl) (Nat.le_of_ble_eq_true rfl) d_M_init_44 (fun q5 H hP hD hS => ?_)
  refine n_put (fs := [.int 0, .long 1, .int 0, .ref q1, .ref q2, .ref q3, .ref q4, .null, .int 0, .null, .null, .int 0, .null, .null, .null, .int 0, .null, .null, .null, .null, .int 0, .int 0, .null, .int 0, .int 0, .null, .null, .null, .null, .null, .null, .null]) (fs' := [.int 0, .long 1, .int 0, .ref q1, .ref q2, .ref q3, .ref q4, .ref q5, .int 0, .null, .null, .int 0, .null, .null, .null, .int 0, .null, .null, .null, .null, .int 0, .int 0, .null, .int 0, .int 0, .null, .null, .null, .null, .null, .null, .null]) K hP hD hS 0 (by decide) rfl rfl i_M ft_M ft_M_ok n_M 7 (by decide) rfl kw_641 rfl rfl rfl (Nat.le_of_ble_eq_true rfl) rfl rfl d_M_init_46 (fun H l1 hP hD hS => ?_)
  refine lv_aload_n K.hx K.hb d_M_init_49 rfl (lv_at hl 0 rfl) ?_
  refine lv_bipush (v := 6) K.hx K.hb d_M_init_50 (by decide) ?_
  refine n_newa (atype := .int) (a0 := (6, .inl (fun _ => 0))) K hP hD hS kw_72 rfl (fun C h => by cases h) 0 rfl (fun _ => rfl) (by decide) (N' := 6) (by decide) (by decide) (Nat.le_of_ble_eq_true rfl) (Nat.le_of_ble_eq_true rfl) d_M_init_52 (fun q6 H hP hD hS => ?_)
  refine n_put (fs := [.int 0, .long 1, .int 0, .ref q1, .ref q2, .ref q3, .ref q4, .ref q5, .int 0, .null, .null, .int 0, .null, .null, .null, .int 0, .null, .null, .null, .null, .int 0, .int 0, .null, .int 0, .int 0, .null, .null, .null, .null, .null, .null, .null]) (fs' := [.int 0, .long 1, .int 0, .ref q1, .ref q2, .ref q3, .ref q4, .ref q5, .int 0, .ref q6, .null, .int 0, .null, .null, .null, .int 0, .null, .null, .null, .null, .int 0, .int 0, .null, .int 0, .int 0, .null, .null, .null, .null, .null, .null, .null]) K hP hD hS 0 (by decide) rfl rfl i_M ft_M ft_M_ok n_M 9 (by decide) rfl kw_643 rfl rfl rfl (Nat.le_of_ble_eq_true rfl) rfl rfl d_M_init_54 (fun H l1 hP hD hS => ?_)
  refine lv_aload_n K.hx K.hb d_M_init_57 rfl (lv_at hl 0 rfl) ?_
  refine lv_bipush (v := 6) K.hx K.hb d_M_init_58 (by decide) ?_
  refine n_newa (atype := .int) (a0 := (6, .inl (fun _ => 0))) K hP hD hS kw_72 rfl (fun C h => by cases h) 0 rfl (fun _ => rfl) (by decide) (N' := 6) (by decide) (by decide) (Nat.le_of_ble_eq_true rfl) (Nat.le_of_ble_eq_true rfl) d_M_init_60 (fun q7 H hP hD hS => ?_)
  refine n_put (fs := [.int 0, .long 1, .int 0, .ref q1, .ref q2, .ref q3, .ref q4, .ref q5, .int 0, .ref q6, .null, .int 0, .null, .null, .null, .int 0, .null, .null, .null, .null, .int 0, .int 0, .null, .int 0, .int 0, .null, .null, .null, .null, .null, .null, .null]) (fs' := [.int 0, .long 1, .int 0, .ref q1, .ref q2, .ref q3, .ref q4, .ref q5, .int 0, .ref q6, .ref q7, .int 0, .null, .null, .null, .int 0, .null, .null, .null, .null, .int 0, .int 0, .null, .int 0, .int 0, .null, .null, .null, .null, .null, .null, .null]) K hP hD hS 0 (by decide) rfl rfl i_M ft_M ft_M_ok n_M 10 (by decide) rfl kw_644 rfl rfl rfl (Nat.le_of_ble_eq_true rfl) rfl rfl d_M_init_62 (fun H l1 hP hD hS => ?_)
  refine lv_aload_n K.hx K.hb d_M_init_65 rfl (lv_at hl 0 rfl) ?_
  refine lv_iconst (v := 4) K.hx K.hb d_M_init_66 (by decide) ?_
  refine n_newa (atype := .int) (a0 := (4, .inl (fun _ => 0))) K hP hD hS kw_72 rfl (fun C h => by cases h) 0 rfl (fun _ => rfl) (by decide) (N' := 4) (by decide) (by decide) (Nat.le_of_ble_eq_true rfl) (Nat.le_of_ble_eq_true rfl) d_M_init_67 (fun q8 H hP hD hS => ?_)
  refine n_put (fs := [.int 0, .long 1, .int 0, .ref q1, .ref q2, .ref q3, .ref q4, .ref q5, .int 0, .ref q6, .ref q7, .int 0, .null, .null, .null, .int 0, .null, .null, .null, .null, .int 0, .int 0, .null, .int 0, .int 0, .null, .null, .null, .null, .null, .null, .null]) (fs' := [.int 0, .long 1, .int 0, .ref q1, .ref q2, .ref q3, .ref q4, .ref q5, .int 0, .ref q6, .ref q7, .int 0, .ref q8, .null, .null, .int 0, .null, .null, .null, .null, .int 0, .int 0, .null, .int 0, .int 0, .null, .null, .null, .null, .null, .null, .null]) K hP hD hS 0 (by decide) rfl rfl i_M ft_M ft_M_ok n_M 12 (by decide) rfl kw_646 rfl rfl rfl (Nat.le_of_ble_eq_true rfl) rfl rfl d_M_init_69 (fun H l1 hP hD hS => ?_)
  refine lv_aload_n K.hx K.hb d_M_init_72 rfl (lv_at hl 0 rfl) ?_
  refine lv_iconst (v := 4) K.hx K.hb d_M_init_73 (by decide) ?_
  refine n_newa (atype := .int) (a0 := (4, .inl (fun _ => 0))) K hP hD hS kw_72 rfl (fun C h => by cases h) 0 rfl (fun _ => rfl) (by decide) (N' := 4) (by decide) (by decide) (Nat.le_of_ble_eq_true rfl) (Nat.le_of_ble_eq_true rfl) d_M_init_74 (fun q9 H hP hD hS => ?_)
  refine n_put (fs := [.int 0, .long 1, .int 0, .ref q1, .ref q2, .ref q3, .ref q4, .ref q5, .int 0, .ref q6, .ref q7, .int 0, .ref q8, .null, .null, .int 0, .null, .null, .null, .null, .int 0, .int 0, .null, .int 0, .int 0, .null, .null, .null, .null, .null, .null, .null]) (fs' := [.int 0, .long 1, .int 0, .ref q1, .ref q2, .ref q3, .ref q4, .ref q5, .int 0, .ref q6, .ref q7, .int 0, .ref q8, .ref q9, .null, .int 0, .null, .null, .null, .null, .int 0, .int 0, .null, .int 0, .int 0, .null, .null, .null, .null, .null, .null, .null]) K hP hD hS 0 (by decide) rfl rfl i_M ft_M ft_M_ok n_M 13 (by decide) rfl kw_647 rfl rfl rfl (Nat.le_of_ble_eq_true rfl) rfl rfl d_M_init_76 (fun H l1 hP hD hS => ?_)
  refine lv_aload_n K.hx K.hb d_M_init_79 rfl (lv_at hl 0 rfl) ?_
  refine lv_iconst (v := 4) K.hx K.hb d_M_init_80 (by decide) ?_
  refine n_newa (atype := .int) (a0 := (4, .inl (fun _ => 0))) K hP hD hS kw_72 rfl (fun C h => by cases h) 0 rfl (fun _ => rfl) (by decide) (N' := 4) (by decide) (by decide) (Nat.le_of_ble_eq_true rfl) (Nat.le_of_ble_eq_true rfl) d_M_init_81 (fun q10 H hP hD hS => ?_)
  refine n_put (fs := [.int 0, .long 1, .int 0, .ref q1, .ref q2, .ref q3, .ref q4, .ref q5, .int 0, .ref q6, .ref q7, .int 0, .ref q8, .ref q9, .null, .int 0, .null, .null, .null, .null, .int 0, .int 0, .null, .int 0, .int 0, .null, .null, .null, .null, .null, .null, .null]) (fs' := [.int 0, .long 1, .int 0, .ref q1, .ref q2, .ref q3, .ref q4, .ref q5, .int 0, .ref q6, .ref q7, .int 0, .ref q8, .ref q9, .ref q10, .int 0, .null, .null, .null, .null, .int 0, .int 0, .null, .int 0, .int 0, .null, .null, .null, .null, .null, .null, .null]) K hP hD hS 0 (by decide) rfl rfl i_M ft_M ft_M_ok n_M 14 (by decide) rfl kw_648 rfl rfl rfl (Nat.le_of_ble_eq_true rfl) rfl rfl d_M_init_83 (fun H l1 hP hD hS => ?_)
  refine lv_aload_n K.hx K.hb d_M_init_86 rfl (lv_at hl 0 rfl) ?_
  refine lv_iconst (v := 5) K.hx K.hb d_M_init_87 (by decide) ?_
  refine n_newa (atype := .int) (a0 := (5, .inl (fun _ => 0))) K hP hD hS kw_72 rfl (fun C h => by cases h) 0 rfl (fun _ => rfl) (by decide) (N' := 5) (by decide) (by decide) (Nat.le_of_ble_eq_true rfl) (Nat.le_of_ble_eq_true rfl) d_M_init_88 (fun q11 H hP hD hS => ?_)
  refine n_put (fs := [.int 0, .long 1, .int 0, .ref q1, .ref q2, .ref q3, .ref q4, .ref q5, .int 0, .ref q6, .ref q7, .int 0, .ref q8, .ref q9, .ref q10, .int 0, .null, .null, .null, .null, .int 0, .int 0, .null, .int 0, .int 0, .null, .null, .null, .null, .null, .null, .null]) (fs' := [.int 0, .long 1, .int 0, .ref q1, .ref q2, .ref q3, .ref q4, .ref q5, .int 0, .ref q6, .ref q7, .int 0, .ref q8, .ref q9, .ref q10, .int 0, .ref q11, .null, .null, .null, .int 0, .int 0, .null, .int 0, .int 0, .null, .null, .null, .null, .null, .null, .null]) K hP hD hS 0 (by decide) rfl rfl i_M ft_M ft_M_ok n_M 16 (by decide) rfl kw_650 rfl rfl rfl (Nat.le_of_ble_eq_true rfl) rfl rfl d_M_init_90 (fun H l1 hP hD hS => ?_)
  refine lv_aload_n K.hx K.hb d_M_init_93 rfl (lv_at hl 0 rfl) ?_
  refine lv_iconst (v := 5) K.hx K.hb d_M_init_94 (by decide) ?_
  refine n_newa (atype := .int) (a0 := (5, .inl (fun _ => 0))) K hP hD hS kw_72 rfl (fun C h => by cases h) 0 rfl (fun _ => rfl) (by decide) (N' := 5) (by decide) (by decide) (Nat.le_of_ble_eq_true rfl) (Nat.le_of_ble_eq_true rfl) d_M_init_95 (fun q12 H hP hD hS => ?_)
  refine n_put (fs := [.int 0, .long 1, .int 0, .ref q1, .ref q2, .ref q3, .ref q4, .ref q5, .int 0, .ref q6, .ref q7, .int 0, .ref q8, .ref q9, .ref q10, .int 0, .ref q11, .null, .null, .null, .int 0, .int 0, .null, .int 0, .int 0, .null, .null, .null, .null, .null, .null, .null]) (fs' := [.int 0, .long 1, .int 0, .ref q1, .ref q2, .ref q3, .ref q4, .ref q5, .int 0, .ref q6, .ref q7, .int 0, .ref q8, .ref q9, .ref q10, .int 0, .ref q11, .ref q12, .null, .null, .int 0, .int 0, .null, .int 0, .int 0, .null, .null, .null, .null, .null, .null, .null]) K hP hD hS 0 (by decide) rfl rfl i_M ft_M ft_M_ok n_M 17 (by decide) rfl kw_651 rfl rfl rfl (Nat.le_of_ble_eq_true rfl) rfl rfl d_M_init_97 (fun H l1 hP hD hS => ?_)
  refine lv_aload_n K.hx K.hb d_M_init_100 rfl (lv_at hl 0 rfl) ?_
  refine lv_iconst (v := 5) K.hx K.hb d_M_init_101 (by decide) ?_
  refine n_newa (atype := .int) (a0 := (5, .inl (fun _ => 0))) K hP hD hS kw_72 rfl (fun C h => by cases h) 0 rfl (fun _ => rfl) (by decide) (N' := 5) (by decide) (by decide) (Nat.le_of_ble_eq_true rfl) (Nat.le_of_ble_eq_true rfl) d_M_init_102 (fun q13 H hP hD hS => ?_)
  refine n_put (fs := [.int 0, .long 1, .int 0, .ref q1, .ref q2, .ref q3, .ref q4, .ref q5, .int 0, .ref q6, .ref q7, .int 0, .ref q8, .ref q9, .ref q10, .int 0, .ref q11, .ref q12, .null, .null, .int 0, .int 0, .null, .int 0, .int 0, .null, .null, .null, .null, .null, .null, .null]) (fs' := [.int 0, .long 1, .int 0, .ref q1, .ref q2, .ref q3, .ref q4, .ref q5, .int 0, .ref q6, .ref q7, .int 0, .ref q8, .ref q9, .ref q10, .int 0, .ref q11, .ref q12, .ref q13, .null, .int 0, .int 0, .null, .int 0, .int 0, .null, .null, .null, .null, .null, .null, .null]) K hP hD hS 0 (by decide) rfl rfl i_M ft_M ft_M_ok n_M 18 (by decide) rfl kw_652 rfl rfl rfl (Nat.le_of_ble_eq_true rfl) rfl rfl d_M_init_104 (fun H l1 hP hD hS => ?_)
  refine lv_aload_n K.hx K.hb d_M_init_107 rfl (lv_at hl 0 rfl) ?_
  refine lv_iconst (v := 5) K.hx K.hb d_M_init_108 (by decide) ?_
  refine n_newa (atype := .int) (a0 := (5, .inl (fun _ => 0))) K hP hD hS kw_72 rfl (fun C h => by cases h) 0 rfl (fun _ => rfl) (by decide) (N' := 5) (by decide) (by decide) (Nat.le_of_ble_eq_true rfl) (Nat.le_of_ble_eq_true rfl) d_M_init_109 (fun q14 H hP hD hS => ?_)
  refine n_put (fs := [.int 0, .long 1, .int 0, .ref q1, .ref q2, .ref q3, .ref q4, .ref q5, .int 0, .ref q6, .ref q7, .int 0, .ref q8, .ref q9, .ref q10, .int 0, .ref q11, .ref q12, .ref q13, .null, .int 0, .int 0, .null, .int 0, .int 0, .null, .null, .null, .null, .null, .null, .null]) (fs' := [.int 0, .long 1, .int 0, .ref q1, .ref q2, .ref q3, .ref q4, .ref q5, .int 0, .ref q6, .ref q7, .int 0, .ref q8, .ref q9, .ref q10, .int 0, .ref q11, .ref q12, .ref q13, .ref q14, .int 0, .int 0, .null, .int 0, .int 0, .null, .null, .null, .null, .null, .null, .null]) K hP hD hS 0 (by decide) rfl rfl i_M ft_M ft_M_ok n_M 19 (by decide) rfl kw_653 rfl rfl rfl (Nat.le_of_ble_eq_true rfl) rfl rfl d_M_init_111 (fun H l1 hP hD hS => ?_)
  refine lv_aload_n K.hx K.hb d_M_init_114 rfl (lv_at hl 0 rfl) ?_
  refine lv_bipush (v := 8) K.hx K.hb d_M_init_115 (by decide) ?_
  refine n_put (fs := [.int 0, .long 1, .int 0, .ref q1, .ref q2, .ref q3, .ref q4, .ref q5, .int 0, .ref q6, .ref q7, .int 0, .ref q8, .ref q9, .ref q10, .int 0, .ref q11, .ref q12, .ref q13, .ref q14, .int 0, .int 0, .null, .int 0, .int 0, .null, .null, .null, .null, .null, .null, .null]) (fs' := [.int 0, .long 1, .int 0, .ref q1, .ref q2, .ref q3, .ref q4, .ref q5, .int 0, .ref q6, .ref q7, .int 0, .ref q8, .ref q9, .ref q10, .int 0, .ref q11, .ref q12, .ref q13, .ref q14, .int 8, .int 0, .null, .int 0, .int 0, .null, .null, .null, .null, .null, .null, .null]) K hP hD hS 0 (by decide) rfl rfl i_M ft_M ft_M_ok n_M 20 (by decide) rfl kw_654 rfl rfl rfl (Nat.le_of_ble_eq_true rfl) rfl rfl d_M_init_117 (fun H l1 hP hD hS => ?_)
  refine lv_aload_n K.hx K.hb d_M_init_120 rfl (lv_at hl 0 rfl) ?_
  refine lv_sipush (v := 1000) K.hx K.hb d_M_init_121 (by decide) ?_
  refine n_put (fs := [.int 0, .long 1, .int 0, .ref q1, .ref q2, .ref q3, .ref q4, .ref q5, .int 0, .ref q6, .ref q7, .int 0, .ref q8, .ref q9, .ref q10, .int 0, .ref q11, .ref q12, .ref q13, .ref q14, .int 8, .int 0, .null, .int 0, .int 0, .null, .null, .null, .null, .null, .null, .null]) (fs' := [.int 0, .long 1, .int 0, .ref q1, .ref q2, .ref q3, .ref q4, .ref q5, .int 0, .ref q6, .ref q7, .int 0, .ref q8, .ref q9, .ref q10, .int 0, .ref q11, .ref q12, .ref q13, .ref q14, .int 8, .int 1000, .null, .int 0, .int 0, .null, .null, .null, .null, .null, .null, .null]) K hP hD hS 0 (by decide) rfl rfl i_M ft_M ft_M_ok n_M 21 (by decide) rfl kw_655 rfl rfl rfl (Nat.le_of_ble_eq_true rfl) rfl rfl d_M_init_124 (fun H l1 hP hD hS => ?_)
  refine lv_aload_n K.hx K.hb d_M_init_127 rfl (lv_at hl 0 rfl) ?_
  refine lv_iconst (v := 4) K.hx K.hb d_M_init_128 (by decide) ?_
  refine n_newa (atype := .int) (a0 := (4, .inl (fun _ => 0))) K hP hD hS kw_72 rfl (fun C h => by cases h) 0 rfl (fun _ => rfl) (by decide) (N' := 4) (by decide) (by decide) (Nat.le_of_ble_eq_true rfl) (Nat.le_of_ble_eq_true rfl) d_M_init_129 (fun q15 H hP hD hS => ?_)
  refine n_put (fs := [.int 0, .long 1, .int 0, .ref q1, .ref q2, .ref q3, .ref q4, .ref q5, .int 0, .ref q6, .ref q7, .int 0, .ref q8, .ref q9, .ref q10, .int 0, .ref q11, .ref q12, .ref q13, .ref q14, .int 8, .int 1000, .null, .int 0, .int 0, .null, .null, .null, .null, .null, .null, .null]) (fs' := [.int 0, .long 1, .int 0, .ref q1, .ref q2, .ref q3, .ref q4, .ref q5, .int 0, .ref q6, .ref q7, .int 0, .ref q8, .ref q9, .ref q10, .int 0, .ref q11, .ref q12, .ref q13, .ref q14, .int 8, .int 1000, .ref q15, .int 0, .int 0, .null, .null, .null, .null, .null, .null, .null]) K hP hD hS 0 (by decide) rfl rfl i_M ft_M ft_M_ok n_M 22 (by decide) rfl kw_656 rfl rfl rfl (Nat.le_of_ble_eq_true rfl) rfl rfl d_M_init_131 (fun H l1 hP hD hS => ?_)
  refine lv_aload_n K.hx K.hb d_M_init_134 rfl (lv_at hl 0 rfl) ?_
  refine lv_iconst (v := 5) K.hx K.hb d_M_init_135 (by decide) ?_
  refine n_newa (atype := .int) (a0 := (5, .inl (fun _ => 0))) K hP hD hS kw_72 rfl (fun C h => by cases h) 0 rfl (fun _ => rfl) (by decide) (N' := 5) (by decide) (by decide) (Nat.le_of_ble_eq_true rfl) (Nat.le_of_ble_eq_true rfl) d_M_init_136 (fun q16 H hP hD hS => ?_)
  refine n_put (fs := [.int 0, .long 1, .int 0, .ref q1, .ref q2, .ref q3, .ref q4, .ref q5, .int 0, .ref q6, .ref q7, .int 0, .ref q8, .ref q9, .ref q10, .int 0, .ref q11, .ref q12, .ref q13, .ref q14, .int 8, .int 1000, .ref q15, .int 0, .int 0, .null, .null, .null, .null, .null, .null, .null]) (fs' := [.int 0, .long 1, .int 0, .ref q1, .ref q2, .ref q3, .ref q4, .ref q5, .int 0, .ref q6, .ref q7, .int 0, .ref q8, .ref q9, .ref q10, .int 0, .ref q11, .ref q12, .ref q13, .ref q14, .int 8, .int 1000, .ref q15, .int 0, .int 0, .ref q16, .null, .null, .null, .null, .null, .null]) K hP hD hS 0 (by decide) rfl rfl i_M ft_M ft_M_ok n_M 25 (by decide) rfl kw_659 rfl rfl rfl (Nat.le_of_ble_eq_true rfl) rfl rfl d_M_init_138 (fun H l1 hP hD hS => ?_)
  refine lv_aload_n K.hx K.hb d_M_init_141 rfl (lv_at hl 0 rfl) ?_
  refine lv_iconst (v := 5) K.hx K.hb d_M_init_142 (by decide) ?_
  refine n_newa (atype := .int) (a0 := (5, .inl (fun _ => 0))) K hP hD hS kw_72 rfl (fun C h => by cases h) 0 rfl (fun _ => rfl) (by decide) (N' := 5) (by decide) (by decide) (Nat.le_of_ble_eq_true rfl) (Nat.le_of_ble_eq_true rfl) d_M_init_143 (fun q17 H hP hD hS => ?_)
  refine n_put (fs := [.int 0, .long 1, .int 0, .ref q1, .ref q2, .ref q3, .ref q4, .ref q5, .int 0, .ref q6, .ref q7, .int 0, .ref q8, .ref q9, .ref q10, .int 0, .ref q11, .ref q12, .ref q13, .ref q14, .int 8, .int 1000, .ref q15, .int 0, .int 0, .ref q16, .null, .null, .null, .null, .null, .null]) (fs' := [.int 0, .long 1, .int 0, .ref q1, .ref q2, .ref q3, .ref q4, .ref q5, .int 0, .ref q6, .ref q7, .int 0, .ref q8, .ref q9, .ref q10, .int 0, .ref q11, .ref q12, .ref q13, .ref q14, .int 8, .int 1000, .ref q15, .int 0, .int 0, .ref q16, .ref q17, .null, .null, .null, .null, .null]) K hP hD hS 0 (by decide) rfl rfl i_M ft_M ft_M_ok n_M 26 (by decide) rfl kw_660 rfl rfl rfl (Nat.le_of_ble_eq_true rfl) rfl rfl d_M_init_145 (fun H l1 hP hD hS => ?_)
  refine lv_aload_n K.hx K.hb d_M_init_148 rfl (lv_at hl 0 rfl) ?_
  refine lv_bipush (v := 24) K.hx K.hb d_M_init_149 (by decide) ?_
  refine n_newa (atype := .int) (a0 := (24, .inl (fun _ => 0))) K hP hD hS kw_72 rfl (fun C h => by cases h) 0 rfl (fun _ => rfl) (by decide) (N' := 24) (by decide) (by decide) (Nat.le_of_ble_eq_true rfl) (Nat.le_of_ble_eq_true rfl) d_M_init_151 (fun q18 H hP hD hS => ?_)
  refine n_put (fs := [.int 0, .long 1, .int 0, .ref q1, .ref q2, .ref q3, .ref q4, .ref q5, .int 0, .ref q6, .ref q7, .int 0, .ref q8, .ref q9, .ref q10, .int 0, .ref q11, .ref q12, .ref q13, .ref q14, .int 8, .int 1000, .ref q15, .int 0, .int 0, .ref q16, .ref q17, .null, .null, .null, .null, .null]) (fs' := [.int 0, .long 1, .int 0, .ref q1, .ref q2, .ref q3, .ref q4, .ref q5, .int 0, .ref q6, .ref q7, .int 0, .ref q8, .ref q9, .ref q10, .int 0, .ref q11, .ref q12, .ref q13, .ref q14, .int 8, .int 1000, .ref q15, .int 0, .int 0, .ref q16, .ref q17, .ref q18, .null, .null, .null, .null]) K hP hD hS 0 (by decide) rfl rfl i_M ft_M ft_M_ok n_M 27 (by decide) rfl kw_661 rfl rfl rfl (Nat.le_of_ble_eq_true rfl) rfl rfl d_M_init_153 (fun H l1 hP hD hS => ?_)
  refine lv_aload_n K.hx K.hb d_M_init_156 rfl (lv_at hl 0 rfl) ?_
  refine lv_bipush (v := 48) K.hx K.hb d_M_init_157 (by decide) ?_
  refine n_newa (atype := .int) (a0 := (48, .inl (fun _ => 0))) K hP hD hS kw_72 rfl (fun C h => by cases h) 0 rfl (fun _ => rfl) (by decide) (N' := 48) (by decide) (by decide) (Nat.le_of_ble_eq_true rfl) (Nat.le_of_ble_eq_true rfl) d_M_init_159 (fun q19 H hP hD hS => ?_)
  refine n_put (fs := [.int 0, .long 1, .int 0, .ref q1, .ref q2, .ref q3, .ref q4, .ref q5, .int 0, .ref q6, .ref q7, .int 0, .ref q8, .ref q9, .ref q10, .int 0, .ref q11, .ref q12, .ref q13, .ref q14, .int 8, .int 1000, .ref q15, .int 0, .int 0, .ref q16, .ref q17, .ref q18, .null, .null, .null, .null]) (fs' := [.int 0, .long 1, .int 0, .ref q1, .ref q2, .ref q3, .ref q4, .ref q5, .int 0, .ref q6, .ref q7, .int 0, .ref q8, .ref q9, .ref q10, .int 0, .ref q11, .ref q12, .ref q13, .ref q14, .int 8, .int 1000, .ref q15, .int 0, .int 0, .ref q16, .ref q17, .ref q18, .ref q19, .null, .null, .null]) K hP hD hS 0 (by decide) rfl rfl i_M ft_M ft_M_ok n_M 28 (by decide) rfl kw_662 rfl rfl rfl (Nat.le_of_ble_eq_true rfl) rfl rfl d_M_init_161 (fun H l1 hP hD hS => ?_)
  refine lv_aload_n K.hx K.hb d_M_init_164 rfl (lv_at hl 0 rfl) ?_
  refine lv_bipush (v := 6) K.hx K.hb d_M_init_165 (by decide) ?_
  refine n_newa (atype := .int) (a0 := (6, .inl (fun _ => 0))) K hP hD hS kw_72 rfl (fun C h => by cases h) 0 rfl (fun _ => rfl) (by decide) (N' := 6) (by decide) (by decide) (Nat.le_of_ble_eq_true rfl) (Nat.le_of_ble_eq_true rfl) d_M_init_167 (fun q20 H hP hD hS => ?_)
  refine n_put (fs := [.int 0, .long 1, .int 0, .ref q1, .ref q2, .ref q3, .ref q4, .ref q5, .int 0, .ref q6, .ref q7, .int 0, .ref q8, .ref q9, .ref q10, .int 0, .ref q11, .ref q12, .ref q13, .ref q14, .int 8, .int 1000, .ref q15, .int 0, .int 0, .ref q16, .ref q17, .ref q18, .ref q19, .null, .null, .null]) (fs' := [.int 0, .long 1, .int 0, .ref q1, .ref q2, .ref q3, .ref q4, .ref q5, .int 0, .ref q6, .ref q7, .int 0, .ref q8, .ref q9, .ref q10, .int 0, .ref q11, .ref q12, .ref q13, .ref q14, .int 8, .int 1000, .ref q15, .int 0, .int 0, .ref q16, .ref q17, .ref q18, .ref q19, .ref q20, .null, .null]) K hP hD hS 0 (by decide) rfl rfl i_M ft_M ft_M_ok n_M 29 (by decide) rfl kw_663 rfl rfl rfl (Nat.le_of_ble_eq_true rfl) rfl rfl d_M_init_169 (fun H l1 hP hD hS => ?_)
  refine lv_aload_n K.hx K.hb d_M_init_172 rfl (lv_at hl 0 rfl) ?_
  refine lv_bipush (v := 6) K.hx K.hb d_M_init_173 (by decide) ?_
  refine n_newa (atype := .int) (a0 := (6, .inl (fun _ => 0))) K hP hD hS kw_72 rfl (fun C h => by cases h) 0 rfl (fun _ => rfl) (by decide) (N' := 6) (by decide) (by decide) (Nat.le_of_ble_eq_true rfl) (Nat.le_of_ble_eq_true rfl) d_M_init_175 (fun q21 H hP hD hS => ?_)
  refine n_put (fs := [.int 0, .long 1, .int 0, .ref q1, .ref q2, .ref q3, .ref q4, .ref q5, .int 0, .ref q6, .ref q7, .int 0, .ref q8, .ref q9, .ref q10, .int 0, .ref q11, .ref q12, .ref q13, .ref q14, .int 8, .int 1000, .ref q15, .int 0, .int 0, .ref q16, .ref q17, .ref q18, .ref q19, .ref q20, .null, .null]) (fs' := [.int 0, .long 1, .int 0, .ref q1, .ref q2, .ref q3, .ref q4, .ref q5, .int 0, .ref q6, .ref q7, .int 0, .ref q8, .ref q9, .ref q10, .int 0, .ref q11, .ref q12, .ref q13, .ref q14, .int 8, .int 1000, .ref q15, .int 0, .int 0, .ref q16, .ref q17, .ref q18, .ref q19, .ref q20, .ref q21, .null]) K hP hD hS 0 (by decide) rfl rfl i_M ft_M ft_M_ok n_M 30 (by decide) rfl kw_664 rfl rfl rfl (Nat.le_of_ble_eq_true rfl) rfl rfl d_M_init_177 (fun H l1 hP hD hS => ?_)
  refine lv_aload_n K.hx K.hb d_M_init_180 rfl (lv_at hl 0 rfl) ?_
  refine lv_bipush (v := 6) K.hx K.hb d_M_init_181 (by decide) ?_
  refine n_newa (atype := .int) (a0 := (6, .inl (fun _ => 0))) K hP hD hS kw_72 rfl (fun C h => by cases h) 0 rfl (fun _ => rfl) (by decide) (N' := 6) (by decide) (by decide) (Nat.le_of_ble_eq_true rfl) (Nat.le_of_ble_eq_true rfl) d_M_init_183 (fun q22 H hP hD hS => ?_)
  refine n_put (fs := [.int 0, .long 1, .int 0, .ref q1, .ref q2, .ref q3, .ref q4, .ref q5, .int 0, .ref q6, .ref q7, .int 0, .ref q8, .ref q9, .ref q10, .int 0, .ref q11, .ref q12, .ref q13, .ref q14, .int 8, .int 1000, .ref q15, .int 0, .int 0, .ref q16, .ref q17, .ref q18, .ref q19, .ref q20, .ref q21, .null]) (fs' := [.int 0, .long 1, .int 0, .ref q1, .ref q2, .ref q3, .ref q4, .ref q5, .int 0, .ref q6, .ref q7, .int 0, .ref q8, .ref q9, .ref q10, .int 0, .ref q11, .ref q12, .ref q13, .ref q14, .int 8, .int 1000, .ref q15, .int 0, .int 0, .ref q16, .ref q17, .ref q18, .ref q19, .ref q20, .ref q21, .ref q22]) K hP hD hS 0 (by decide) rfl rfl i_M ft_M ft_M_ok n_M 31 (by decide) rfl kw_665 rfl rfl rfl (Nat.le_of_ble_eq_true rfl) rfl rfl d_M_init_185 (fun H l1 hP hD hS => ?_)
  have hcv := wv_conv (n2 := 23) hP hD (ctM cs) (fun k => k) (fun k h => h) (fun _ _ _ _ h => h) (fun k hk => match k, hk with | 0, _ => Or.inl rfl | 1, _ => Or.inl rfl | 2, _ => Or.inl rfl | 3, _ => Or.inl rfl | 4, _ => Or.inl rfl | 5, _ => Or.inl rfl | 6, _ => Or.inl rfl | 7, _ => Or.inl rfl | 8, _ => Or.inl rfl | 9, _ => Or.inl rfl | 10, _ => Or.inl rfl | 11, _ => Or.inl rfl | 12, _ => Or.inl rfl | 13, _ => Or.inl rfl | 14, _ => Or.inl rfl | 15, _ => Or.inl rfl | 16, _ => Or.inl rfl | 17, _ => Or.inl rfl | 18, _ => Or.inl rfl | 19, _ => Or.inl rfl | 20, _ => Or.inl rfl | 21, _ => Or.inl rfl | 22, _ => Or.inl rfl | k + 23, h => absurd h (by omega))
  exact ne_v K hP hD hS (fun t ht => ⟨rfl, _, rfl, by rw [ht]; exact hcv.1, hcv.2⟩) (Nat.le_of_ble_eq_true rfl) (Nat.le_of_ble_eq_true rfl) d_M_init_188
