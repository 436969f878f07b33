/-! the law's start, and the claim -/
theorem st_D {args : Array Value} {s : State} (hw : ∀ w ∈ gt, w.before args s = true) : ∃ D : va_G, ∀ (k : Nat) (q : vw_C), classes[k]? = some q → u_Kn s q.1 q.2.1 q.2.2 (D.1 k) (D.2 k) := by
  obtain ⟨c0, i0, hk0⟩ := u_known (C := "WearHours") (T := F_W) (N := 6) (n := 6) hw i_W (hw _ kw_39)
  obtain ⟨c1, i1, hk1⟩ := u_known (C := "WearHours$Thing") (T := F_T) (N := 5) (n := 5) hw i_T (hw _ kw_48)
  obtain ⟨c2, i2, hk2⟩ := u_known (C := "WearHours$Week") (T := F_K) (N := 8) (n := 8) hw i_K (hw _ kw_74)
  obtain ⟨c3, i3, hk3⟩ := u_known (C := "WearHours$Gap") (T := F_G) (N := 2) (n := 2) hw i_G (hw _ kw_81)
  obtain ⟨c4, i4, hk4⟩ := u_known (C := "WearHours$Person") (T := F_P) (N := 3) (n := 3) hw i_P (hw _ kw_97)
  obtain ⟨c5, i5, hk5⟩ := u_known (C := "WearHours$Repair") (T := F_R) (N := 7) (n := 7) hw i_R (hw _ kw_117)
  obtain ⟨c6, i6, hk6⟩ := u_known (C := "WearHours$Planner") (T := F_L) (N := 7) (n := 7) hw i_L (hw _ kw_192)
  obtain ⟨c7, i7, hk7⟩ := u_known (C := "WearHoursModel") (T := F_M) (N := 32) (n := 32) hw i_M (hw _ kw_629)
  refine ⟨(fun k => if k = 0 then c0 else if k = 1 then c1 else if k = 2 then c2 else if k = 3 then c3 else if k = 4 then c4 else if k = 5 then c5 else if k = 6 then c6 else c7, fun k => if k = 0 then i0 else if k = 1 then i1 else if k = 2 then i2 else if k = 3 then i3 else if k = 4 then i4 else if k = 5 then i5 else if k = 6 then i6 else i7), ?_⟩
  intro k q hq
  match k, hq with
  | 0, hq => cases hq; exact hk0
  | 1, hq => cases hq; exact hk1
  | 2, hq => cases hq; exact hk2
  | 3, hq => cases hq; exact hk3
  | 4, hq => cases hq; exact hk4
  | 5, hq => cases hq; exact hk5
  | 6, hq => cases hq; exact hk6
  | 7, hq => cases hq; exact hk7
  | k + 8, hq => simp [classes] at hq

theorem st_arr {args : Array Value} {s : State} {ty : FieldType} (h : (Cond.arrayClass ty).before args s = true) (hob : ∀ C, ty ≠ .object C) : ∃ c, ArrOfT s c ty ∧ va_RA s c ty := by
  obtain ⟨c, k, comp, h1, h2, h3⟩ := Cond.arrayClass_spec h
  refine ⟨c, fun n z => ⟨fun k h => (by cases h), k, h2, comp, h3⟩, ?_⟩
  cases ty with
  | object C => exact absurd rfl (hob C)
  | _ => exact h1
theorem st_obj {s : State} {C : String} (h : va_AO C s) : ∃ c, ArrOfT s c (.object C) ∧ va_RA s c (.object C) := by
  obtain ⟨comp, c, k, h1, -, h2, h3, h4⟩ := Cond.arrayOver_spec (va_AO.use (A := #[]) h)
  exact ⟨c, fun n z => ⟨fun k h => (by cases h), k, h2, comp, h3⟩, k, comp, h2, h3, h1, h4⟩
theorem st_K {args : Array Value} {s : State} (hw : ∀ w ∈ gt, w.before args s = true) (hao : AOs s) : ∃ (D : va_G) (cs : Nat → ClassId), va_K D classes (tyl cs) s := by
  obtain ⟨D, hD⟩ := st_D hw
  obtain ⟨a0, p0⟩ := st_arr (hw _ kw_72) (fun C h => by cases h)
  obtain ⟨a1, p1⟩ := st_arr (hw _ kw_731) (fun C h => by cases h)
  obtain ⟨a2, p2⟩ := st_arr (hw _ kw_847) (fun C h => by cases h)
  obtain ⟨a3, p3⟩ := st_obj hao.1
  obtain ⟨a4, p4⟩ := st_obj hao.2.1
  obtain ⟨a5, p5⟩ := st_obj hao.2.2.1
  obtain ⟨a6, p6⟩ := st_obj hao.2.2.2
  refine ⟨D, fun k => if k = 0 then a0 else if k = 1 then a1 else if k = 2 then a2 else if k = 3 then a3 else if k = 4 then a4 else if k = 5 then a5 else a6, hD, ?_⟩
  intro k q hq
  match k, hq with
  | 0, hq => cases hq; exact p0
  | 1, hq => cases hq; exact p1
  | 2, hq => cases hq; exact p2
  | 3, hq => cases hq; exact p3
  | 4, hq => cases hq; exact p4
  | 5, hq => cases hq; exact p5
  | 6, hq => cases hq; exact p6
  | k + 7, hq => simp [tyl] at hq
theorem st_NW {args : Array Value} {s : State} (h : ∀ w ∈ lw_tbl, w.before args s = true) : NW s := by
  intro w hw
  have h1 := h w (List.mem_filter.mp hw).1
  have h2 := (List.mem_filter.mp hw).2
  cases w <;> first | exact va_Nw.of rfl h1 | (cases h2)
theorem st_not {args : Array Value} {s : State} {A B : String} (h : (Cond.not (Cond.castable A B)).before args s = true) : ∀ c t, s.vm.findClass A = some c → s.vm.findClass B = some t → s.vm.assignable c t = false := by
  intro c t h1 h2
  simp only [Cond.before, Cond.holds, Cond.value, h1, h2] at h
  simpa using h
theorem st_nc : ∀ q ∈ ncl, Cond.not (Cond.castable q.1 q.2) ∈ flatC (Jvm.Cond.and given_1 narrow_1) := by decide +kernel
theorem st_str : ∀ q ∈ strs, Cond.exactly (Term.string "WearHours" q.1) "java/lang/String" ∈ flatC (Jvm.Cond.and given_1 narrow_1) := by decide +kernel
theorem st_strT : ∀ q ∈ strs, Cond.stringRef "WearHours" q.1 q.2 ∈ tables_1 := by decide +kernel
theorem st_SR {args : Array Value} {s : State} (h : ∀ w ∈ lw_tbl, w.before args s = true) (hs : ∀ c ∈ flatC (Jvm.Cond.and given_1 narrow_1), c.before args s = true) : SR s := by
  intro q hq
  obtain ⟨a, -, -, -, ha, -⟩ := Cond.exactly_spec (hs _ (st_str q hq))
  exact ⟨a, vk_R.of (h _ (List.mem_append.mpr (Or.inr (st_strT q hq)))) ha⟩
/-- rows of new objects belong together -/
theorem RL_0 : RL vC0 vM0 := by
  have e : ∀ a j, a ≠ 19 → vC0 a j = 0 := fun a j h => by
    unfold vC0
    rw [u2_ne h, u2_ne h]
  have e2 : ∀ a j, a ≠ 0 → vM0 a j = 0 := fun a j h => by
    unfold vM0
    rw [u2_ne h, u2_ne h]
  refine ⟨0, fun k j => if k = 9 ∧ j = 0 then 8 else if k = 9 ∧ j = 1 then 1000 else 0, 0, 0, 0, ⟨by omega, by rw [e _ _ (by decide)]; rfl, by decide, fun i hi => absurd hi (by omega), fun i _ hi => ⟨e _ _ (by omega), fun k _ => e _ _ (by omega)⟩⟩, fun k _ => ⟨0, by omega, by rw [e _ _ (by decide)]; rfl, by rw [e2 _ _ (by decide)]; rfl⟩, ⟨by omega, by omega, by omega, ⟨fun g hg => absurd hg (by omega), fun p hp => absurd hp (by omega), fun i hi => absurd hi (by omega), by decide, by decide⟩, ⟨fun g hg => absurd hg (by omega), fun p hp => absurd hp (by omega), fun i hi => absurd hi (by omega), by decide, by decide⟩, ⟨fun g hg => absurd hg (by omega), fun p hp => absurd hp (by omega), fun i hi => absurd hi (by omega), by decide, by decide, by decide, by decide, by decide⟩, ⟨by decide, by decide, by decide⟩, fun i hi => absurd hi (by omega)⟩, Or.inl ⟨by rw [e _ _ (by decide)], by decide⟩⟩
set_option maxHeartbeats 4000000 in
set_option maxRecDepth 100000 in
theorem whole_start {p : Program} {e : Env} {s : State} {m : MethodId} {below : List Frame} {meth : Method} {c : Code} (l : Launch) (hfl : l.flags = flags0) {b L : Nat} {xs : Nat → Int32} (hL : L ≤ 2560) (C0 : lw_At p s m meth c b L xs) : W p l e room_1 s m #[Value.ref b] below meth c s.heap [] 0 0 (lw_Z below #[Value.ref b] s) (entryFrame m ([Value.ref b] : List Value).toArray 7) := by
  obtain ⟨hx, hb, hr, hml, hown, hts, hX, hbl, hlocks, hgv⟩ := id C0
  have hs := flat_of_before _ hgv
  have hw : ∀ w ∈ gt, w.before #[Value.ref b] s = true := fun w h => hts w (List.mem_filter.mp h).1
  have hao : AOs s := ⟨va_AO.of (hts (.arrayOver (.object "WearHours$Thing")) (by decide +kernel)), va_AO.of (hts (.arrayOver (.object "WearHours$Gap")) (by decide +kernel)), va_AO.of (hts (.arrayOver (.object "WearHours$Person")) (by decide +kernel)), va_AO.of (hts (.arrayOver (.object "WearHours$Repair")) (by decide +kernel))⟩
  obtain ⟨D, cs, hK⟩ := st_K hw hao
  have hN := st_NW hts
  have hSR := st_SR hts hs
  have hNC : NCs s := fun q hq => st_not (hs _ (st_nc q hq))
  have hZ : ST s s.heap := ⟨stZ.of (hts (.laysStatic Bundle.tN "UNASSIGNED_STACK" Bundle.steD) (by decide +kernel)) (hs (.isRef (.static Bundle.tN "UNASSIGNED_STACK" Bundle.steD)) (by decide +kernel)), stZ.of (hts (.laysStatic Bundle.tN "SUPPRESSED_SENTINEL" Bundle.listD) (by decide +kernel)) (hs (.isRef (.static Bundle.tN "SUPPRESSED_SENTINEL" Bundle.listD)) (by decide +kernel))⟩
  have hB : Bs D cs s := ⟨hK, hN, hao⟩
  have K : Lx p m c code 7 s #[Value.ref b] "WearHoursLaw" D cs (lA s) := ⟨⟨hx, hb, hml, hown, hw⟩, hK, hN, hSR, hNC, hZ, fun q cell hq hc => by
    have h1 : s.heap.size ≤ q := hq
    have h2 := (Array.getElem?_eq_some_iff.mp hc).1
    omega⟩
  have hS : va_S (lA s) s.heap s.heap [] := va_S.rf
  have hl := lv_entry ([.ref b]) (n := 7) (Nat.le_of_ble_eq_true rfl)
  rw [lg_entry_eq]
  generalize (lg_sl ([.ref b]) ++ List.replicate (7 - (lg_sl ([.ref b])).length) Slot.unset).toArray = ls at hl ⊢
  have hl : lv_has ls 7 [(0, .ref b)] := hl
  refine va_new (ci := 0) (fs := z_W) (C := "WearHours") (T := F_W) (N := 6) hx hb hw i_W ft_W ft_W_ok hown (hw _ kw_38) (hw _ kw_39) (hw _ kw_22) hK (ws := []) (fun k q h => by simp at h) ⟨fun i j p q h => by simp at h, fun k q h => by simp at h⟩ hS (fun _ h => h) rfl df_W (Nat.le_of_ble_eq_true rfl) (Nat.le_of_ble_eq_true rfl) d_Z_law_0 (fun q H hP hD hS => ?_)
  have hat : va_at D classes (q, .inr (0, z_W)) H := hP 0 _ rfl
  have hq : s.heap.size ≤ q := hD.2 0 _ rfl
  refine lv_dup hx hb d_Z_law_3 rfl ?_
  refine xc_I (As := []) (host := "WearHours") K.1 (c_W_init l D cs q H.size) kw_42 xm_W_init rfl (Or.inl kw_40) kw_41 rfl hl.1 d_Z_law_4 (Nat.le_of_ble_eq_true rfl) (Nat.le_of_ble_eq_true rfl) ⟨(Nat.le_of_ble_eq_true rfl), (Nat.le_of_ble_eq_true rfl)⟩ (fun U hU hW => ⟨by rw [hU], hB.warm hW, by rw [hU]; exact hat⟩) hS (fun x hx9 => ?_) ?_ (fun q cls cell t H1 l1 _ _ _ _ _ hx1 => hx1.elim)
  · rcases hx9 with rfl | h9
    · exact hq
    · exact Nat.le_trans hS.1 h9
  intro r t H1 l1 ht hW hf1 hsz1 _ hS1
  obtain ⟨rfl, aC, h0, hPC, hDC⟩ := hf1
  rw [ht] at hPC
  have hDC : va_D (lA s) (wv 42 aC (ctW cs aC)) := hDC.weaken (fun k x _ hx9 => by
    rcases hx9 with h9 | h9
    · exact Nat.le_trans hq (Nat.le_of_eq h9.symm)
    · exact Nat.le_trans hS.1 h9)
  refine lv_astore_n (lv' := [(1, .ref q), (0, .ref b)]) hx hb d_Z_law_7 rfl hl (by decide) rfl (fun ls hl => ?_)
  rw [← h0] at hl
  refine va_new (ci := 7) (fs := z_M) (C := "WearHoursModel") (T := F_M) (N := 32) hx hb hw i_M ft_M ft_M_ok hown (hw _ kw_628) (hw _ kw_629) (hw _ kw_29) hK hPC hDC hS1 (fun _ h => h) rfl df_M (Nat.le_of_ble_eq_true rfl) (Nat.le_of_ble_eq_true rfl) d_Z_law_8 (fun q2 H2 hP2 hD2 hS2 => ?_)
  rw [wv_push] at hP2 hD2
  have hat2 : va_at D classes (q2, .inr (7, z_M)) H2 := by
    have h9 := hP2 42 _ (wv_at (by decide))
    exact h9
  have hq2 : s.heap.size ≤ q2 := by
    have h9 := hD2.2 42 _ (wv_at (by decide))
    exact h9
  have hPC2 : va_P D classes (wv 42 aC (ctW cs aC)) H2 := by
    intro k x hx9
    obtain ⟨hk, rfl⟩ := wv_of hx9
    have h9 := hP2 k _ (wv_at (show k < 43 by omega))
    have e1 : nu aC 42 q2 k = aC k := if_neg (by omega)
    have e2 : cu (ctW cs aC) 42 (.inr (7, z_M)) k = ctW cs aC k := if_neg (by omega)
    rw [e1, e2] at h9
    exact h9
  have hne2 : ∀ k, k < 42 → aC k ≠ q2 := by
    intro k hk h9
    have := hD2.1 k 42 _ _ (wv_at (show k < 43 by omega)) (wv_at (by decide)) (by
      show (if k = 42 then q2 else aC k) = (if 42 = 42 then q2 else aC 42)
      rw [if_neg (by omega), if_pos rfl]
      exact h9)
    omega
  refine lv_dup hx hb d_Z_law_11 rfl ?_
  refine xc_I (As := []) (host := "WearHours") K.1 (c_M_init l D cs q2 H2.size) kw_632 xm_M_init rfl (Or.inl kw_630) kw_631 rfl hl.1 d_Z_law_12 (Nat.le_of_ble_eq_true rfl) (Nat.le_of_ble_eq_true rfl) ⟨(Nat.le_of_ble_eq_true rfl), (Nat.le_of_ble_eq_true rfl)⟩ (fun U hU hW => ⟨by rw [hU], hB.warm hW, by rw [hU]; exact hat2⟩) hS2 (fun x hx9 => ?_) ?_ (fun q cls cell t H1 l1 _ _ _ _ _ hx1 => hx1.elim)
  · rcases hx9 with rfl | h9
    · exact hq2
    · exact Nat.le_trans hS2.1 h9
  intro r t2 H3 l3 ht2 hW2 hf2 hsz2 hk2 hS3
  obtain ⟨rfl, aM, h02, hPM, hDM⟩ := hf2
  rw [ht2] at hPM
  have hlt : ∀ k, k < 42 → aC k < H2.size := fun k hk => (hPC2 k _ (wv_at hk)).lt
  have hPC3 : va_P D classes (wv 42 aC (ctW cs aC)) H3 := hPC2.kept (fun k x hx9 => by
    obtain ⟨hk, rfl⟩ := wv_of hx9
    refine hk2 _ (hlt k hk) (fun h9 => ?_)
    rcases h9 with h9 | h9
    · exact hne2 k hk h9
    · have h9 : H2.size ≤ aC k := h9
      have := hlt k hk
      omega)
  have hdis : ∀ i j, i < 42 → j < 23 → aC i ≠ aM j := by
    intro i j hi hj h9
    rcases hDM.2 j _ (wv_at hj) with g | g
    · exact hne2 i hi (h9.trans g)
    · have g : H2.size ≤ aM j := g
      have := hlt i hi
      omega
  have hDM : va_D (lA s) (wv 23 aM (ctM cs aM)) := hDM.weaken (fun k x _ hx9 => by
    rcases hx9 with h9 | h9
    · exact Nat.le_trans hq2 (Nat.le_of_eq h9.symm)
    · exact Nat.le_trans hS2.1 h9)
  refine lv_astore_n (lv' := [(2, .ref q2), (1, .ref (aC 0)), (0, .ref b)]) hx hb d_Z_law_15 rfl hl (by decide) rfl (fun ls hl => ?_)
  rw [← h02] at hl
  refine lv_iconst (v := 1) hx hb d_Z_law_16 (by decide) ?_
  have hPB : va_P D classes (wv 42 aC (ctW cs aC) ++ wv 23 aM (ctM cs aM)) H3 := hPC3.app hPM
  have hDB : va_D (lA s) (wv 42 aC (ctW cs aC) ++ wv 23 aM (ctM cs aM)) := hDC.app hDM (fun i j x z hx9 hz9 => by
    obtain ⟨hi, rfl⟩ := wv_of hx9
    obtain ⟨hj, rfl⟩ := wv_of hz9
    exact hdis i j hi hj)
  refine va_newa (atype := .long) (a0 := (1, .inr (.inl (fun _ => 0)))) hx hb (hw _ kw_847) rfl hK hPB hDB hS3 (fun _ h => h) (fun _ => rfl) (by decide) (N' := 1) (by decide) (by decide) (Nat.le_of_ble_eq_true rfl) (Nat.le_of_ble_eq_true rfl) d_Z_law_17 (fun w cA H4 hK4 hP4 hD4 hS4 => ?_)
  have ecA : cA = cs 2 := by
    have e1 : va_RA s cA .long := (hK4.2 7 (cA, .long) rfl).2
    have e2 : va_RA s (cs 2) .long := (hK.2 2 _ rfl).2
    exact Option.some.inj (Eq.trans (Eq.symm e1) e2)
  subst ecA
  have hlen1 : (wv 42 aC (ctW cs aC)).length = 42 := by simp [wv]
  have hlen2 : (wv 23 aM (ctM cs aM)).length = 23 := by simp [wv]
  have gC : ∀ k, k < 42 → ((wv 42 aC (ctW cs aC) ++ wv 23 aM (ctM cs aM)) ++ [(w, aL (cs 2) (fun _ => 0))])[k]? = some (aC k, ctW cs aC k) := fun k hk => by
    rw [List.getElem?_append_left (by rw [List.length_append, hlen1, hlen2]; omega), List.getElem?_append_left (by rw [hlen1]; exact hk), wv_at hk]
  have gM : ∀ k, k < 23 → ((wv 42 aC (ctW cs aC) ++ wv 23 aM (ctM cs aM)) ++ [(w, aL (cs 2) (fun _ => 0))])[42 + k]? = some (aM k, ctM cs aM k) := fun k hk => by
    rw [List.getElem?_append_left (by rw [List.length_append, hlen1, hlen2]; omega), List.getElem?_append_right (by rw [hlen1]; omega), hlen1, show 42 + k - 42 = k by omega, wv_at hk]
  have gO : ((wv 42 aC (ctW cs aC) ++ wv 23 aM (ctM cs aM)) ++ [(w, aL (cs 2) (fun _ => 0))])[65]? = some (w, aL (cs 2) (fun _ => 0)) := by
    rw [List.getElem?_append_right (by rw [List.length_append, hlen1, hlen2]; decide), List.length_append, hlen1, hlen2]
    rfl
  have hA : LA s aC aM w := by
    refine ⟨fun i j hi hj h9 => hDC.1 i j _ _ (wv_at hi) (wv_at hj) h9, fun i j hi hj h9 => hDM.1 i j _ _ (wv_at hi) (wv_at hj) h9, fun k hk => ?_, fun k hk => ?_, hD4.2 65 _ gO, fun k hk h9 => ?_, fun k hk h9 => ?_, hdis⟩
    · have h9 := hDC.2 k _ (wv_at hk)
      exact h9
    · have h9 := hDM.2 k _ (wv_at hk)
      exact h9
    · have := hD4.1 k 65 _ _ (gC k hk) gO h9
      omega
    · have := hD4.1 (42 + k) 65 _ _ (gM k hk) gO h9
      omega
  have hI : LI s D cs aC aM w vC0 vM0 1 (fun _ => 0) H4 := by
    refine ⟨fun k x hx9 => ?_, fun k x hx9 => ?_, hP4 65 _ gO⟩
    · obtain ⟨hk, rfl⟩ := wv_of hx9
      exact hP4 k _ (gC k hk)
    · obtain ⟨hk, rfl⟩ := wv_of hx9
      exact hP4 (42 + k) _ (gM k hk)
  refine lv_astore_n (lv' := [(3, .ref w), (2, .ref (aM 0)), (1, .ref (aC 0)), (0, .ref b)]) hx hb d_Z_law_19 rfl hl (by decide) rfl (fun ls hl => ?_)
  refine lv_iconst (v := 0) hx hb d_Z_law_20 (by decide) ?_
  refine lv_istore (lv' := [(4, .int 0), (3, .ref w), (2, .ref (aM 0)), (1, .ref (aC 0)), (0, .ref b)]) hx hb d_Z_law_21 hl (by decide) rfl (fun ls hl => ?_)
  exact W.widen (Nat.le_of_ble_eq_true rfl) (Nat.le_of_ble_eq_true rfl) (lw_loop hfl K hr hlocks hA hX hbl hL 512 0 (by omega) (by omega) vC0 vM0 1 (fun _ => 0) H4 _ ls hI RL_0 hS4 (lv_sub hl [4, 3, 2, 1, 0] rfl))
