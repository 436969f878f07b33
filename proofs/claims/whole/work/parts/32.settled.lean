/-! settling one repair after another gives the best plan -/
def PE (pc : Nat) (v : Nat → Nat → Int32) : Nat → List (Nat × Int32) → Prop
  | _, [] => True
  | n, e :: L => (v (33 + n) 4 = e.2 ∧ v (33 + n) 5 = (if e.2 = -1 then -1 else nI (e.1 % pc)) ∧ v (33 + n) 6 = (if e.2 = -1 then -1 else nI (e.1 / pc))) ∧ PE pc v (n + 1) L
def pcn : List (Nat × Int32) → Nat
  | [] => 0
  | e :: L => if e.2 = -1 then pcn L else pcn L + 1
section Settled
variable {v : Nat → Nat → Int32} {d b : Nat → Nat → Nat} {gc pc rc : Nat}
theorem BR_of {u : Nat → Nat → Int32} (h : BR v b) (e1 : u 39 = v 39) (e2 : u 40 = v 40) : BR u b := ⟨fun p hp => by rw [e1]; exact h.1 p hp, fun t ht => by rw [e2]; exact h.2 t ht⟩
theorem okS_iff (hD : DB d gc pc rc) (hg6 : gc ≤ 6) (hp4 : pc ≤ 4) (hr5 : rc ≤ 5) (hC : CR v d gc pc rc) (hR : BR v b) (hB : BB b) (hF : FR v d gc pc rc) {n B g q : Nat} (hn : n < rc) (hg : g < gc) (hq : q < pc) (hBl : B ≤ 5840000) :
    okS gc pc rc v n (nI B) g q ↔ okN d b n g q ∧ d 8 n * hN d b n g q + opt d gc pc (rc - (n + 1)) (n + 1) (ocN d b n q (hN d b n g q)) ≤ B := by
  unfold okS
  rw [beg_eq hD hC hR hB hp4 hn hg hq]
  unfold begN
  have hb := hN_bd (i := n) hD hB hg hq
  by_cases ho : okN d b n g q
  · have hbd := ok_bd hD hg ho
    rw [if_pos ho, oN_s, nI_1, cb_eq (b := b) hD hr5 hC hF hn (by omega) (by omega) (fun L2 a1 a2 => lc_eq hD hg6 hp4 hr5 6 (n + 1) _ _ L2 (by omega) (by omega) (hC.of (KC_occ _ _ _ _) hg6 hp4 hr5) (BR_occ hD hC hR hn) (BB_oc hD hB hbd) (FR_of hF (occ_41 _ _ _ _)) a1 a2)]
    constructor
    · intro h
      refine ⟨ho, ?_⟩
      have h2 := h.2
      rw [nI_ltI (by omega) (by omega)] at h2
      omega
    · intro h
      refine ⟨nI_m1 (by omega), ?_⟩
      rw [nI_ltI (by omega) (by omega)]
      omega
  · rw [if_neg ho, oN_n]
    constructor
    · intro h
      exact absurd rfl h.1
    · intro h
      exact absurd h.1 ho
theorem KC_unp (v : Nat → Nat → Int32) (n : Nat) : KC (unp v n) v := by
  intro a j h
  unfold unp
  rw [u2_at, u2_at, u2_at, if_neg (by omega), if_neg (by omega), if_neg (by omega)]
theorem unp_row {n a : Nat} (h : a ≠ 33 + n) : unp v n a = v a := by
  unfold unp
  rw [u2_ne h, u2_ne h, u2_ne h]
theorem plc_row {n g q a : Nat} (h : a ≠ 33 + n) (h1 : a ≠ 39) (h2 : a ≠ 40) : plc v n g q a = v a := by
  unfold plc occ
  rw [u2_ne h, u2_ne h, u2_ne h, u2_ne h1, u2_ne h2]
theorem plc_occ {n g q a : Nat} (h : a ≠ 33 + n) : plc v n g q a = occ v n q (begZ v n g q) a := by
  unfold plc
  rw [u2_ne h, u2_ne h, u2_ne h]
theorem KC_plc (v : Nat → Nat → Int32) (n g q : Nat) : KC (plc v n g q) v := by
  intro a j h
  unfold plc
  rw [u2_at, u2_at, u2_at, if_neg (by omega), if_neg (by omega), if_neg (by omega)]
  exact KC_occ v n q _ a j h
theorem plc_at (v : Nat → Nat → Int32) (n g q : Nat) : plc v n g q (33 + n) 4 = begZ v n g q ∧ plc v n g q (33 + n) 5 = nI q ∧ plc v n g q (33 + n) 6 = nI g := by
  unfold plc
  simp only [u2_at]
  simp
theorem nI_a1 (x : Int32) (k : Nat) : x + 1 + nI k = x + nI (k + 1) := by
  rw [Int32.add_assoc, ← nI_1, Int32.add_comm 1 (nI k)]
set_option maxHeartbeats 4000000 in
theorem mb_eq (hD : DB d gc pc rc) (hg6 : gc ≤ 6) (hp4 : pc ≤ 4) (hr5 : rc ≤ 5) : ∀ k n (u : Nat → Nat → Int32) (b : Nat → Nat → Nat) (v' : Nat → Nat → Int32), n + k = rc → CR u d gc pc rc → BR u b → BB b → FR u d gc pc rc → mbR gc pc rc k n u (nI (opt d gc pc k n b)) v' →
    KC v' u ∧ (∀ j, j ≠ 6 → v' 38 j = u 38 j) ∧ (∀ i, i < n → v' (33 + i) = u (33 + i)) ∧ PE pc v' n (bs d gc pc k n b).2 ∧ v' 38 6 = u 38 6 + nI (pcn (bs d gc pc k n b).2)
  | 0, n, u, b, v', _, _, _, _, _, h => by
    have h : u = v' := h
    subst h
    refine ⟨fun _ _ _ => rfl, fun _ _ => rfl, fun _ _ => rfl, trivial, ?_⟩
    show u 38 6 = u 38 6 + 0
    rw [Int32.add_zero]
  | k + 1, n, u, b, v', hnk, hC, hR, hB, hF, h => by
    obtain ⟨x, v1, hst, hmb⟩ := h
    have hn : n < rc := by omega
    have hk : rc - (n + 1) = k := by omega
    have hC0 := hC.of (KC_unp u n) hg6 hp4 hr5
    have hR0 : BR (unp u n) b := BR_of hR (unp_row (by omega)) (unp_row (by omega))
    have hF0 : FR (unp u n) d gc pc rc := FR_of hF (unp_row (by omega))
    have hob := opt_bd hD (k + 1) n b (by omega)
    have hob2 : (k + 1) * 1168000 ≤ 5 * 1168000 := Nat.mul_le_mul_right _ (by omega)
    have hiff := fun g q (hg : g < gc) (hq : q < pc) => okS_iff (n := n) (B := opt d gc pc (k + 1) n b) hD hg6 hp4 hr5 hC0 hR0 hB hF0 hn hg hq (by omega)
    rw [hk] at hiff
    rcases hst with ⟨g, q, hg, hq, hok, hno, rfl, rfl⟩ | ⟨hno, rfl, rfl⟩
    · obtain ⟨ho, hle⟩ := (hiff g q hg hq).mp hok
      have hbd := ok_bd hD hg ho
      have hbz : begZ (unp u n) n g q = nI (hN d b n g q) := by
        rw [beg_eq hD hC0 hR0 hB hp4 hn hg hq]
        unfold begN
        rw [if_pos ho, oN_s]
      have hbs := bs_is (f := k) (Nat.le_of_lt (gp_lt hg hq)) (wy_gp hg hq ho) hle (by
        intro c2 o2 h2 b2 hc2 hw hle2
        have hlt : c2 < gc * pc := Nat.lt_trans hc2 (gp_lt hg hq)
        have h0 : 0 < pc := by omega
        have hg2 : c2 / pc < gc := Nat.div_lt_of_lt_mul (by rw [Nat.mul_comm]; exact hlt)
        have hq2 : c2 % pc < pc := Nat.mod_lt _ h0
        unfold wy at hw
        rw [if_neg (by omega)] at hw
        by_cases ho2 : okN d b n (c2 / pc) (c2 % pc)
        · rw [if_pos ho2] at hw
          injection hw with hw
          injection hw with r1 r2
          injection r2 with r2 r3
          subst r1 r3
          have hok2 := (hiff (c2 / pc) (c2 % pc) hg2 hq2).mpr ⟨ho2, hle2⟩
          have hdm := Nat.div_add_mod c2 pc
          rcases Nat.lt_trichotomy (c2 / pc) g with h9 | h9 | h9
          · exact hno.1 _ _ h9 hq2 hok2
          · rw [h9] at hok2
            refine hno.2 _ ?_ hok2
            have : pc * (c2 / pc) = g * pc := by rw [h9, Nat.mul_comm]
            omega
          · have : (g + 1) * pc ≤ pc * (c2 / pc) := by rw [Nat.mul_comm pc]; exact Nat.mul_le_mul_right _ h9
            rw [Nat.succ_mul] at this
            omega
        · rw [if_neg ho2] at hw
          exact absurd hw (by simp))
      have hopt : opt d gc pc (k + 1) n b = d 8 n * hN d b n g q + opt d gc pc k (n + 1) (ocN d b n q (hN d b n g q)) := by
        show (bs d gc pc (k + 1) n b).1 = _
        rw [hbs]
      have hat := plc_at (unp u n) n g q
      have hbm : bmp (plc (unp u n) n g q) n = u2 (plc (unp u n) n g q) 38 6 (plc (unp u n) n g q 38 6 + 1) := by
        unfold bmp
        rw [if_neg]
        rw [hat.1, hbz]
        exact nI_m1 (by omega)
      rw [hbm] at hmb
      have hx : nI (opt d gc pc (k + 1) n b) - unp u n (33 + n) 3 * begZ (unp u n) n g q = nI (opt d gc pc k (n + 1) (ocN d b n q (hN d b n g q))) := by
        rw [hbz, (hC0.2.2.1 n hn).2.2.2, pk_mul, hopt, nI_sub (by omega)]
        congr 1
        omega
      rw [hx] at hmb
      have hK1 : KC (u2 (plc (unp u n) n g q) 38 6 (plc (unp u n) n g q 38 6 + 1)) u := by
        intro a j ha
        rw [u2_ne (by omega)]
        exact ((KC_plc (unp u n) n g q).tr (KC_unp u n)) a j ha
      have hR1 : BR (u2 (plc (unp u n) n g q) 38 6 (plc (unp u n) n g q 38 6 + 1)) (ocN d b n q (hN d b n g q)) := by
        have := BR_occ (p := q) (h := hN d b n g q) hD hC0 hR0 hn
        rw [← hbz] at this
        exact BR_of this (by rw [u2_ne (by decide), plc_occ (by omega)]) (by rw [u2_ne (by decide), plc_occ (by omega)])
      obtain ⟨r1, r2, r3, r4, r5⟩ := mb_eq hD hg6 hp4 hr5 k (n + 1) _ _ v' (by omega) (hC.of hK1 hg6 hp4 hr5) hR1 (BB_oc hD hB hbd) (FR_of hF (by rw [u2_ne (by decide), plc_row (by omega) (by decide) (by decide), unp_row (by omega)])) hmb
      refine ⟨r1.tr hK1, ?_, ?_, ?_, ?_⟩
      · intro j hj
        rw [r2 j hj, u2_at, if_neg (fun q => hj q.2), plc_row (by omega) (by decide) (by decide), unp_row (by omega)]
      · intro i hi
        rw [r3 i (by omega), u2_ne (by omega), plc_row (by omega) (by omega) (by omega), unp_row (by omega)]
      · rw [hbs]
        refine ⟨?_, r4⟩
        rw [r3 n (by omega), u2_ne (by omega), hat.1, hat.2.1, hat.2.2, hbz]
        have hne := nI_m1 (show hN d b n g q < 2 ^ 31 by omega)
        refine ⟨rfl, ?_, ?_⟩
        · show nI q = if nI (hN d b n g q) = -1 then -1 else nI ((g * pc + q) % pc)
          rw [if_neg hne, (gp_div hq).2]
        · show nI g = if nI (hN d b n g q) = -1 then -1 else nI ((g * pc + q) / pc)
          rw [if_neg hne, (gp_div hq).1]
      · rw [hbs, r5, u2_eq, plc_row (by omega) (by decide) (by decide), unp_row (by omega)]
        have hne := nI_m1 (show hN d b n g q < 2 ^ 31 by omega)
        show u 38 6 + 1 + nI (pcn (bs d gc pc k (n + 1) (ocN d b n q (hN d b n g q))).2) = u 38 6 + nI (if nI (hN d b n g q) = -1 then pcn (bs d gc pc k (n + 1) (ocN d b n q (hN d b n g q))).2 else pcn (bs d gc pc k (n + 1) (ocN d b n q (hN d b n g q))).2 + 1)
        rw [if_neg hne]
        exact nI_a1 _ _
    · have hbs := bs_is (f := k) (Nat.le_refl _) (wy_N d gc pc n b) (by
        obtain ⟨c, o, h, b', q1, q2, q3, -, -⟩ := bs_spec d gc pc k n b
        have e1 : opt d gc pc (k + 1) n b = o + opt d gc pc k (n + 1) b' := by
          show (bs d gc pc (k + 1) n b).1 = _
          rw [q3]
        unfold wy at q2
        by_cases hc : c = gc * pc
        · rw [if_pos hc] at q2
          injection q2 with q2
          injection q2 with r1 r2
          injection r2 with r2 r3
          subst r1 r3
          omega
        · rw [if_neg hc] at q2
          by_cases ho2 : okN d b n (c / pc) (c % pc)
          · rw [if_pos ho2] at q2
            injection q2 with q2
            injection q2 with r1 r2
            injection r2 with r2 r3
            subst r1 r3
            have hlt : c < gc * pc := Nat.lt_of_le_of_ne q1 hc
            have h0 : 0 < pc := Nat.pos_of_ne_zero (fun q => by subst q; simp at hlt)
            have hg2 : c / pc < gc := Nat.div_lt_of_lt_mul (by rw [Nat.mul_comm]; exact hlt)
            exact absurd ((hiff (c / pc) (c % pc) hg2 (Nat.mod_lt _ h0)).mpr ⟨ho2, by omega⟩) (hno.1 _ _ hg2 (Nat.mod_lt _ h0))
          · rw [if_neg ho2] at q2
            exact absurd q2 (by simp)) (by
        intro c2 o2 h2 b2 hlt hw hle2
        have h0 : 0 < pc := Nat.pos_of_ne_zero (fun q => by subst q; simp at hlt)
        have hg2 : c2 / pc < gc := Nat.div_lt_of_lt_mul (by rw [Nat.mul_comm]; exact hlt)
        unfold wy at hw
        rw [if_neg (by omega)] at hw
        by_cases ho2 : okN d b n (c2 / pc) (c2 % pc)
        · rw [if_pos ho2] at hw
          injection hw with hw
          injection hw with r1 r2
          injection r2 with r2 r3
          subst r1 r3
          exact hno.1 _ _ hg2 (Nat.mod_lt _ h0) ((hiff (c2 / pc) (c2 % pc) hg2 (Nat.mod_lt _ h0)).mpr ⟨ho2, hle2⟩)
        · rw [if_neg ho2] at hw
          exact absurd hw (by simp))
      have hopt : opt d gc pc (k + 1) n b = cuN d n + opt d gc pc k (n + 1) b := by
        show (bs d gc pc (k + 1) n b).1 = _
        rw [hbs]
      have h4 : unp u n (33 + n) 4 = -1 ∧ unp u n (33 + n) 5 = -1 ∧ unp u n (33 + n) 6 = -1 := by
        unfold unp
        simp only [u2_at]
        simp
      have hbm : bmp (unp u n) n = unp u n := if_pos h4.1
      rw [hbm] at hmb
      have hx : nI (opt d gc pc (k + 1) n b) - cuZ (unp u n) n = nI (opt d gc pc k (n + 1) b) := by
        rw [cu_eq hC0 hn, hopt, nI_sub (by omega)]
        congr 1
        omega
      rw [hx] at hmb
      obtain ⟨r1, r2, r3, r4, r5⟩ := mb_eq hD hg6 hp4 hr5 k (n + 1) _ _ v' (by omega) hC0 hR0 hB hF0 hmb
      refine ⟨r1.tr (KC_unp u n), ?_, ?_, ?_, ?_⟩
      · intro j hj
        rw [r2 j hj, unp_row (by omega)]
      · intro i hi
        rw [r3 i (by omega), unp_row (by omega)]
      · rw [hbs]
        refine ⟨?_, r4⟩
        rw [r3 n (by omega), h4.1, h4.2.1, h4.2.2]
        exact ⟨rfl, (if_pos rfl).symm, (if_pos rfl).symm⟩
      · rw [hbs, r5, unp_row (by omega)]
        show u 38 6 + nI (pcn (bs d gc pc k (n + 1) b).2) = u 38 6 + nI (if (-1 : Int32) = -1 then pcn (bs d gc pc k (n + 1) b).2 else pcn (bs d gc pc k (n + 1) b).2 + 1)
        rw [if_pos rfl]
/-! the floors -/
theorem fre_row {a : Nat} (h1 : a ≠ 39) (h2 : a ≠ 40) : fre v a = v a := by
  unfold fre
  simp only [u2_ne h1, u2_ne h2]
theorem BR_fre (v : Nat → Nat → Int32) : BR (fre v) b0 := by
  refine ⟨fun p hp => ?_, fun t ht => ?_⟩
  · show fre v 39 p = 0
    unfold fre
    rcases (show p = 0 ∨ p = 1 ∨ p = 2 ∨ p = 3 by omega) with rfl | rfl | rfl | rfl <;> simp [u2_at]
  · show fre v 40 t = 0
    unfold fre
    rcases (show t = 0 ∨ t = 1 ∨ t = 2 ∨ t = 3 ∨ t = 4 ∨ t = 5 ∨ t = 6 ∨ t = 7 by omega) with rfl | rfl | rfl | rfl | rfl | rfl | rfl | rfl <;> simp [u2_at]
theorem BB_0 : BB b0 := fun _ _ => Nat.zero_le _
theorem flL_eq (hD : DB d gc pc rc) (hC : CR v d gc pc rc) (hR : BR v b0) (hp4 : pc ≤ 4) {i : Nat} (hi : i < rc) : ∀ p, p ≤ pc → flL v i gc p = nI (lsN d gc i p)
  | 0, _ => cu_eq hC hi
  | p + 1, hp => by
    have ih := flL_eq hD hC hR hp4 hi p (by omega)
    have hcu := cu_bd hD hi
    have hls := ls_cu (d := d) (gc := gc) (i := i) p
    show flS v i gc (flL v i gc p) p = _
    unfold flS
    rw [ih, fbZ_eq hD hC hR BB_0 hp4 hi (by omega), lsN_s]
    rcases hq : fbN d b0 i p gc with _ | h
    · rw [oN_n, if_pos rfl]
    · have hb := fb_bd hD (Nat.le_refl _) hq
      have ho := own_bd hD hi (show h ≤ 168 by omega)
      rw [oN_s, if_neg (nI_m1 (show h < 2 ^ 31 by omega)), (hC.2.2.1 i hi).2.2.2, pk_mul, mn_nI (by omega) (by omega)]
theorem FLs_eq (hD : DB d gc pc rc) (hC : CR v d gc pc rc) (hR : BR v b0) (hp4 : pc ≤ 4) : ∀ k, k ≤ rc → FLs v gc pc rc k = nI (fsN d gc pc k (rc - k))
  | 0, _ => rfl
  | k + 1, hk => by
    have ih := FLs_eq hD hC hR hp4 k (by omega)
    show FLs v gc pc rc k + flL v (rc - (k + 1)) gc pc = nI (fsN d gc pc k (rc - (k + 1) + 1) + lsN d gc (rc - (k + 1)) pc)
    rw [ih, flL_eq hD hC hR hp4 (by omega) pc (Nat.le_refl _), nI_add, show rc - (k + 1) + 1 = rc - k by omega]
/-- what the planner leaves -/
theorem plan_C (hD : DB d gc pc rc) (hg6 : gc ≤ 6) (hp4 : pc ≤ 4) (hr5 : rc ≤ 5) (hC : CR v d gc pc rc) {v1 : Nat → Nat → Int32} (h : mbR gc pc rc rc 0 (stw2 gc pc rc v) (lst gc pc rc v) v1) :
    KC v1 v ∧ v1 38 5 = nI (opt d gc pc rc 0 b0) ∧ v1 38 6 = nI (pcn (bs d gc pc rc 0 b0).2) ∧ PE pc v1 0 (bs d gc pc rc 0 b0).2 := by
  have hK0 : KC (fre v) v := fun a j q => by rw [fre_row (by omega) (by omega)]
  have hC0 := hC.of hK0 hg6 hp4 hr5
  have hK1 : KC (stv gc pc rc v) v := fun a j q => by
    show flo (fre v) gc pc rc 0 a j = v a j
    rw [flo_row (by omega), fre_row (by omega) (by omega)]
  have hC1 := hC.of hK1 hg6 hp4 hr5
  have hR1 : BR (stv gc pc rc v) b0 := BR_of (BR_fre v) (flo_row (by decide)) (flo_row (by decide))
  have hF1 : FR (stv gc pc rc v) d gc pc rc := by
    intro k hk
    show (if 41 = 41 ∧ 0 ≤ k ∧ k ≤ rc then FLs (fre v) gc pc rc (rc - k) else fre v 41 k) = _
    rw [if_pos ⟨rfl, by omega, hk⟩, FLs_eq hD hC0 (BR_fre v) hp4 (rc - k) (by omega), show rc - (rc - k) = k by omega]
  have hob := opt_bd hD rc 0 b0 (by omega)
  have hob2 : rc * 1168000 ≤ 5 * 1168000 := Nat.mul_le_mul_right _ hr5
  have hl : lst gc pc rc v = nI (opt d gc pc rc 0 b0) := by
    have := lc_eq hD hg6 hp4 hr5 6 0 (stv gc pc rc v) b0 1000000000 (by omega) (by omega) hC1 hR1 BB_0 hF1 (by omega) (by omega)
    unfold lst
    rw [show (1000000000 : Int32) = nI 1000000000 from rfl, this]
    congr 1
    rw [Nat.sub_zero]
    omega
  rw [hl] at h
  have hK2 : KC (stw2 gc pc rc v) v := fun a j q => by
    unfold stw2
    rw [u2_ne (by omega), u2_ne (by omega)]
    exact hK1 a j q
  have e : ∀ a, a ≠ 38 → stw2 gc pc rc v a = stv gc pc rc v a := fun a ha => by
    unfold stw2
    rw [u2_ne ha, u2_ne ha]
  obtain ⟨r1, r2, r3, r4, r5⟩ := mb_eq hD hg6 hp4 hr5 rc 0 (stw2 gc pc rc v) b0 v1 (by omega) (hC.of hK2 hg6 hp4 hr5) (BR_of hR1 (e _ (by decide)) (e _ (by decide))) BB_0 (FR_of hF1 (e _ (by decide))) h
  refine ⟨r1.tr hK2, ?_, ?_, r4⟩
  · rw [r2 5 (by decide)]
    unfold stw2
    rw [u2_at, if_neg (by decide), u2_eq, hl]
  · rw [r5]
    unfold stw2
    rw [u2_eq, Int32.zero_add]
end Settled
