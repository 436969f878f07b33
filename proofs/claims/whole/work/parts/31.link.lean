/-! the planner's numbers are those of the plan in natural numbers -/
def DB (d : Nat → Nat → Nat) (gc pc rc : Nat) : Prop := (∀ g, g < gc → d 0 g ≤ 168 ∧ d 1 g ≤ 168) ∧ (∀ p, p < pc → d 2 p < 4 ∧ d 3 p ≤ 168 ∧ d 4 p ≤ 168) ∧ (∀ i, i < rc → d 5 i < 8 ∧ d 6 i ≤ 24 ∧ d 7 i < 4 ∧ d 8 i ≤ 1000) ∧ d 9 0 ≤ 24 ∧ d 9 1 ≤ 1000000
def CR (v : Nat → Nat → Int32) (d : Nat → Nat → Nat) (gc pc rc : Nat) : Prop := (∀ g, g < gc → v (21 + g) 0 = nI (d 0 g) ∧ v (21 + g) 1 = nI (d 1 g)) ∧ (∀ p, p < pc → v (28 + p) 0 = nI (d 2 p) ∧ v (28 + p) 1 = nI (d 3 p) ∧ v (28 + p) 2 = nI (d 4 p)) ∧ (∀ i, i < rc → v (33 + i) 0 = nI (d 5 i) ∧ v (33 + i) 1 = nI (d 6 i) ∧ v (33 + i) 2 = nI (d 7 i) ∧ v (33 + i) 3 = nI (d 8 i)) ∧ v 19 6 = nI (d 9 0) ∧ v 19 7 = nI (d 9 1)
def BR (v : Nat → Nat → Int32) (b : Nat → Nat → Nat) : Prop := (∀ p, p < 4 → v 39 p = nI (b 0 p)) ∧ ∀ t, t < 8 → v 40 t = nI (b 1 t)
def BB (b : Nat → Nat → Nat) : Prop := ∀ k j, b k j ≤ 192
def FR (v : Nat → Nat → Int32) (d : Nat → Nat → Nat) (gc pc rc : Nat) : Prop := ∀ k, k ≤ rc → v 41 k = nI (fsN d gc pc (rc - k) k)
/-- rows that the planner keeps -/
def KC (u v : Nat → Nat → Int32) : Prop := ∀ a j, a < 33 ∨ (33 ≤ a ∧ a < 38 ∧ j < 4) → u a j = v a j
theorem KC.tr {u v w : Nat → Nat → Int32} (h : KC u v) (h2 : KC v w) : KC u w := fun a j q => (h a j q).trans (h2 a j q)
theorem CR.of {u v : Nat → Nat → Int32} {d : Nat → Nat → Nat} {gc pc rc : Nat} (h : CR v d gc pc rc) (hk : KC u v) (hg : gc ≤ 6) (hp : pc ≤ 4) (hr : rc ≤ 5) : CR u d gc pc rc := by
  obtain ⟨h1, h2, h3, h4, h5⟩ := h
  refine ⟨fun g q => ?_, fun p q => ?_, fun i q => ?_, ?_, ?_⟩
  · rw [hk _ _ (Or.inl (by omega)), hk _ _ (Or.inl (by omega))]; exact h1 g q
  · rw [hk _ _ (Or.inl (by omega)), hk _ _ (Or.inl (by omega)), hk _ _ (Or.inl (by omega))]; exact h2 p q
  · rw [hk _ _ (Or.inr (by omega)), hk _ _ (Or.inr (by omega)), hk _ _ (Or.inr (by omega)), hk _ _ (Or.inr (by omega))]; exact h3 i q
  · rw [hk _ _ (Or.inl (by omega))]; exact h4
  · rw [hk _ _ (Or.inl (by omega))]; exact h5
def oN : Option Nat → Int32
  | none => -1
  | some h => nI h
theorem oN_s (h : Nat) : oN (some h) = nI h := rfl
theorem oN_n : oN none = -1 := rfl
theorem fbN_s (d b : Nat → Nat → Nat) (i p g : Nat) : fbN d b i p (g + 1) = if okN d b i g p then (match fbN d b i p g with | none => some (hN d b i g p) | some f => some (min f (hN d b i g p))) else fbN d b i p g := rfl
theorem ppN_s (d b : Nat → Nat → Nat) (gc pc f n lim p : Nat) : ppN d b gc pc f n lim (p + 1) = match fbN d b n p gc with | none => ppN d b gc pc f n lim p | some h => min (ppN d b gc pc f n lim p) (d 8 n * h + opt d gc pc f (n + 1) (ocN d b n p h)) := rfl
theorem lsN_s (d : Nat → Nat → Nat) (gc i p : Nat) : lsN d gc i (p + 1) = match fbN d b0 i p gc with | none => lsN d gc i p | some h => min (lsN d gc i p) (d 8 i * h) := rfl
theorem nI_m1 {h : Nat} (hh : h < 2 ^ 31) : ¬ nI h = -1 := by
  intro e
  have h1 := nI_toInt hh
  rw [e] at h1
  have h2 : (-1 : Int32).toInt = -1 := by decide
  omega
theorem mx_nI {a b : Nat} (ha : a < 2 ^ 31) (hb : b < 2 ^ 31) : mxZ (nI a) (nI b) = nI (max a b) := by
  unfold mxZ
  by_cases h : a < b
  · rw [if_pos (nI_lt h hb), Nat.max_eq_right (by omega)]
  · rw [if_neg (nI_nlt (by omega) ha), Nat.max_eq_left (by omega)]
theorem mn_nI {a b : Nat} (ha : a < 2 ^ 31) (hb : b < 2 ^ 31) : mnZ (nI a) (nI b) = nI (min a b) := by
  unfold mnZ
  by_cases h : b < a
  · rw [if_pos (nI_lt h ha), Nat.min_eq_right (by omega)]
  · rw [if_neg (nI_nlt (by omega) hb), Nat.min_eq_left (by omega)]
theorem nI_sub {a b : Nat} (h : b ≤ a) : nI a - nI b = nI (a - b) := by
  have e : nI a = nI (a - b) + nI b := by rw [nI_add, Nat.sub_add_cancel h]
  rw [e, Int32.add_sub_cancel]
section Link
variable {v : Nat → Nat → Int32} {d b : Nat → Nat → Nat} {gc pc rc : Nat}
theorem th_eq (hD : DB d gc pc rc) (hC : CR v d gc pc rc) {i : Nat} (hi : i < rc) : th v i = d 5 i := by
  unfold th
  have := (hD.2.2.1 i hi).1
  rw [(hC.2.2.1 i hi).1, nI_clamp (by omega)]
theorem hN_bd (hD : DB d gc pc rc) (hB : BB b) {i g p : Nat} (hg : g < gc) (hp : p < pc) : hN d b i g p ≤ 192 := by
  have h1 := (hD.1 g hg).1
  have h2 := (hD.2.1 p hp).2.1
  have h3 := hB 0 p
  have h4 := hB 1 (d 5 i)
  unfold hN
  omega
def begN (d b : Nat → Nat → Nat) (i g p : Nat) : Option Nat := if okN d b i g p then some (hN d b i g p) else none
theorem begH_eq (hD : DB d gc pc rc) (hC : CR v d gc pc rc) (hR : BR v b) (hB : BB b) (hp4 : pc ≤ 4) {i g p : Nat} (hi : i < rc) (hg : g < gc) (hp : p < pc) : begH v i g p = nI (hN d b i g p) := by
  have h1 := (hD.1 g hg).1
  have h2 := (hD.2.1 p hp).2.1
  have h3 := hB 0 p
  have h4 := hB 1 (d 5 i)
  have h5 := (hD.2.2.1 i hi).1
  unfold begH hN
  rw [th_eq hD hC hi, (hC.1 g hg).1, (hC.2.1 p hp).2.1, hR.1 p (by omega), hR.2 _ h5, mx_nI (by omega) (by omega), mx_nI (by omega) (by omega), mx_nI (by omega) (by omega)]
theorem beg_eq (hD : DB d gc pc rc) (hC : CR v d gc pc rc) (hR : BR v b) (hB : BB b) (hp4 : pc ≤ 4) {i g p : Nat} (hi : i < rc) (hg : g < gc) (hp : p < pc) : begZ v i g p = oN (begN d b i g p) := by
  have hb := hN_bd (i := i) hD hB hg hp
  have hbe := begH_eq hD hC hR hB hp4 hi hg hp
  have h1 := (hD.1 g hg).2
  have h2 := hD.2.1 p hp
  have h5 := hD.2.2.1 i hi
  unfold begN
  by_cases hs : d 2 p = d 7 i
  · have hs' : v (28 + p) 0 = v (33 + i) 2 := by rw [(hC.2.1 p hp).1, (hC.2.2.1 i hi).2.2.1, hs]
    have e : (mnZ (v (21 + g) 1) (v (28 + p) 2) < begH v i g p + v (33 + i) 1) ↔ min (d 1 g) (d 4 p) < hN d b i g p + d 6 i := by
      rw [hbe, (hC.1 g hg).2, (hC.2.1 p hp).2.2, (hC.2.2.1 i hi).2.1, mn_nI (by omega) (by omega), nI_add]
      exact nI_ltI (by omega) (by omega)
    by_cases hm : min (d 1 g) (d 4 p) < hN d b i g p + d 6 i
    · rw [begZ_lo hs' (e.mpr hm), if_neg (fun q => by obtain ⟨-, q2, q3⟩ := q; omega)]
      rfl
    · rw [begZ_hi hs' (fun q => hm (e.mp q)), if_pos ⟨hs, by omega, by omega⟩, hbe]
      rfl
  · rw [begZ_no (fun q => hs (by
      rw [(hC.2.1 p hp).1, (hC.2.2.1 i hi).2.2.1] at q
      exact (nI_eq (by omega) (by omega)).mp q)), if_neg (fun q => hs q.1)]
    rfl
theorem ok_bd (hD : DB d gc pc rc) {i g p : Nat} (hg : g < gc) (ho : okN d b i g p) : hN d b i g p + d 6 i ≤ 168 := by
  have h1 := (hD.1 g hg).2
  have h2 := ho.2.1
  omega
theorem fb_bd (hD : DB d gc pc rc) {i p n h : Nat} (hn : n ≤ gc) (hf : fbN d b i p n = some h) : h + d 6 i ≤ 168 := by
  obtain ⟨g, g1, g2, rfl⟩ := fb_at hf
  exact ok_bd hD (by omega) g2
theorem fbL_eq (hD : DB d gc pc rc) (hC : CR v d gc pc rc) (hR : BR v b) (hB : BB b) (hp4 : pc ≤ 4) {i p : Nat} (hi : i < rc) (hp : p < pc) : ∀ g, g ≤ gc → fbL v i p g = oN (fbN d b i p g)
  | 0, _ => rfl
  | g + 1, hg => by
    have ih := fbL_eq hD hC hR hB hp4 hi hp g (by omega)
    show fbS (fbL v i p g) (begZ v i g p) = _
    rw [ih, beg_eq hD hC hR hB hp4 hi (by omega) hp]
    have hb := hN_bd (i := i) hD hB (show g < gc by omega) hp
    rw [fbN_s]
    unfold begN fbS
    by_cases ho : okN d b i g p
    · rw [if_pos ho, if_pos ho, oN_s, if_neg (nI_m1 (show hN d b i g p < 2 ^ 31 by omega))]
      rcases hq : fbN d b i p g with _ | f
      · rw [oN_n, if_pos rfl]
        rfl
      · rw [oN_s]
        have hfb := fb_bd hD (by omega) hq
        rw [if_neg (nI_m1 (show f < 2 ^ 31 by omega))]
        show (if nI f ≤ nI (hN d b i g p) then nI f else nI (hN d b i g p)) = nI (min f (hN d b i g p))
        by_cases hl : f ≤ hN d b i g p
        · rw [if_pos (nI_le hl (by omega)), Nat.min_eq_left hl]
        · rw [if_neg (nI_ge (by omega) (by omega)), Nat.min_eq_right (by omega)]
    · rw [if_neg ho, if_neg ho, oN_n, if_pos rfl]
theorem fb_no {i p : Nat} (h : ¬ d 2 p = d 7 i) : ∀ n, fbN d b i p n = none
  | 0 => rfl
  | n + 1 => by
    unfold fbN
    rw [if_neg (fun q => h q.1)]
    exact fb_no h n
theorem fbZ_eq (hD : DB d gc pc rc) (hC : CR v d gc pc rc) (hR : BR v b) (hB : BB b) (hp4 : pc ≤ 4) {i p : Nat} (hi : i < rc) (hp : p < pc) : fbZ v i p gc = oN (fbN d b i p gc) := by
  unfold fbZ
  have h2 := hD.2.1 p hp
  have h5 := hD.2.2.1 i hi
  by_cases hs : d 2 p = d 7 i
  · rw [if_pos (by rw [(hC.2.1 p hp).1, (hC.2.2.1 i hi).2.2.1, hs])]
    exact fbL_eq hD hC hR hB hp4 hi hp gc (Nat.le_refl _)
  · rw [if_neg (fun q => hs (by
      rw [(hC.2.1 p hp).1, (hC.2.2.1 i hi).2.2.1] at q
      exact (nI_eq (by omega) (by omega)).mp q)), fb_no hs]
    rfl
theorem cu_eq (hC : CR v d gc pc rc) {i : Nat} (hi : i < rc) : cuZ v i = nI (cuN d i) := by
  unfold cuZ cuN
  rw [(hC.2.2.1 i hi).2.2.2, hC.2.2.2.2, show (168 : Int32) = nI 168 from rfl, pk_mul, nI_add]
theorem cu_bd (hD : DB d gc pc rc) {i : Nat} (hi : i < rc) : cuN d i ≤ 1168000 := by
  have h1 := (hD.2.2.1 i hi).2.2.2
  have h2 := hD.2.2.2.2
  have h3 := Nat.mul_le_mul_right 168 h1
  unfold cuN
  omega
theorem opt_bd (hD : DB d gc pc rc) : ∀ f i b, i + f ≤ rc → opt d gc pc f i b ≤ f * 1168000
  | 0, _, _, _ => Nat.le_refl _
  | f + 1, i, b, h => by
    obtain ⟨-, -, -, -, -, -, -, q4, -⟩ := bs_spec d gc pc f i b
    have h3 := q4 (gc * pc) _ _ _ (Nat.le_refl _) (wy_N d gc pc i b)
    have h4 := opt_bd hD f (i + 1) b (by omega)
    have h5 := cu_bd hD (show i < rc by omega)
    rw [Nat.succ_mul]
    omega
theorem own_bd (hD : DB d gc pc rc) {i h : Nat} (hi : i < rc) (hh : h ≤ 168) : d 8 i * h ≤ 168000 := by
  have h1 := (hD.2.2.1 i hi).2.2.2
  have := Nat.mul_le_mul h1 hh
  omega
theorem KC_occ (v : Nat → Nat → Int32) (i p : Nat) (x : Int32) : KC (occ v i p x) v := by
  intro a j h
  unfold occ
  rw [u2_ne (by omega), u2_ne (by omega)]
theorem BR_occ (hD : DB d gc pc rc) (hC : CR v d gc pc rc) (hR : BR v b) {i p h : Nat} (hi : i < rc) : BR (occ v i p (nI h)) (ocN d b i p h) := by
  unfold occ
  rw [th_eq hD hC hi, (hC.2.2.1 i hi).2.1, hC.2.2.2.1, nI_add, nI_add]
  refine ⟨fun q hq => ?_, fun t ht => ?_⟩
  · rw [u2_at, u2_at]
    unfold ocN
    by_cases e : q = p
    · rw [if_pos ⟨rfl, e⟩, if_pos ⟨rfl, e⟩]
    · rw [if_neg (fun x => e x.2), if_neg (by omega), if_neg (fun x => e x.2), if_neg (by omega)]
      exact hR.1 q hq
  · rw [u2_at, u2_at]
    unfold ocN
    by_cases e : t = d 5 i
    · rw [if_neg (by omega), if_pos ⟨rfl, e⟩, if_neg (by omega), if_pos ⟨rfl, e⟩]
    · rw [if_neg (by omega), if_neg (fun x => e x.2), if_neg (by omega), if_neg (fun x => e x.2)]
      exact hR.2 t ht
theorem BB_oc (hD : DB d gc pc rc) (hB : BB b) {i p h : Nat} (hh : h + d 6 i ≤ 168) : BB (ocN d b i p h) := by
  have := hD.2.2.2.1
  intro k j
  unfold ocN
  split
  · omega
  · split
    · omega
    · exact hB k j
theorem FR_of {u : Nat → Nat → Int32} (h : FR v d gc pc rc) (e : u 41 = v 41) : FR u d gc pc rc := fun k hk => by rw [e]; exact h k hk
theorem occ_41 (v : Nat → Nat → Int32) (i p : Nat) (x : Int32) : occ v i p x 41 = v 41 := by
  unfold occ
  rw [u2_ne (by decide), u2_ne (by decide)]
/-- the least cost with a limit, with the later repairs' least cost given -/
theorem cb_eq {rec : (Nat → Nat → Int32) → Nat → Int32 → Int32} (hD : DB d gc pc rc) (hr5 : rc ≤ 5) (hC : CR v d gc pc rc) (hF : FR v d gc pc rc) {n p h L : Nat} (hn : n < rc) (hh : h ≤ 168) (hL : L ≤ 1000000000)
    (hrec : ∀ L2, 0 < L2 → L2 ≤ 1000000000 → rec (occ v n p (nI h)) (n + 1) (nI L2) = nI (min L2 (opt d gc pc (rc - (n + 1)) (n + 1) (ocN d b n p h)))) :
    cbG rec v n p (nI h) (nI L) = nI (min L (d 8 n * h + opt d gc pc (rc - (n + 1)) (n + 1) (ocN d b n p h))) := by
  have h1 := own_bd hD hn hh
  have h2 := fs_le d gc pc (rc - (n + 1)) (n + 1) (ocN d b n p h)
  have h3 := opt_bd hD (rc - (n + 1)) (n + 1) (ocN d b n p h) (by omega)
  have h4 : (rc - (n + 1)) * 1168000 ≤ 5 * 1168000 := Nat.mul_le_mul_right _ (by omega)
  unfold cbG
  rw [(hC.2.2.1 n hn).2.2.2, hF (n + 1) (by omega), pk_mul, nI_add]
  by_cases hlt : d 8 n * h + fsN d gc pc (rc - (n + 1)) (n + 1) < L
  · rw [if_pos (nI_lt hlt (by omega)), nI_sub (by omega), hrec _ (by omega) (by omega), nI_add]
    congr 1
    omega
  · rw [if_neg (nI_nlt (by omega) (by omega))]
    congr 1
    omega
theorem pp_eq {rec : (Nat → Nat → Int32) → Nat → Int32 → Int32} (hD : DB d gc pc rc) (hp4 : pc ≤ 4) (hr5 : rc ≤ 5) (hC : CR v d gc pc rc) (hR : BR v b) (hB : BB b) (hF : FR v d gc pc rc) {n L : Nat} (hn : n < rc) (hL : L ≤ 1000000000)
    (hrec : ∀ p h L2, h + d 6 n ≤ 168 → 0 < L2 → L2 ≤ 1000000000 → rec (occ v n p (nI h)) (n + 1) (nI L2) = nI (min L2 (opt d gc pc (rc - (n + 1)) (n + 1) (ocN d b n p h)))) : ∀ p, p ≤ pc → ppL rec gc v n (nI L) p = nI (ppN d b gc pc (rc - (n + 1)) n L p)
  | 0, _ => rfl
  | p + 1, hp => by
    have ih := pp_eq hD hp4 hr5 hC hR hB hF hn hL hrec p (by omega)
    have hlim := pp_lim (d := d) (b := b) (gc := gc) (pc := pc) (f := rc - (n + 1)) (n := n) (lim := L) p
    show (if fbZ v n p gc = -1 then ppL rec gc v n (nI L) p else cbG rec v n p (fbZ v n p gc) (ppL rec gc v n (nI L) p)) = _
    rw [fbZ_eq hD hC hR hB hp4 hn (by omega), ih]
    rw [ppN_s]
    rcases hq : fbN d b n p gc with _ | h
    · rw [oN_n, if_pos rfl]
    · have hb := fb_bd hD (Nat.le_refl _) hq
      rw [oN_s, if_neg (nI_m1 (show h < 2 ^ 31 by omega))]
      exact cb_eq hD hr5 hC hF hn (by omega) (by omega) (fun L2 a1 a2 => hrec p h L2 hb a1 a2)
theorem lc_eq (hD : DB d gc pc rc) (hg6 : gc ≤ 6) (hp4 : pc ≤ 4) (hr5 : rc ≤ 5) : ∀ f n (v : Nat → Nat → Int32) (b : Nat → Nat → Nat) (L : Nat), n ≤ rc → rc - n < f → CR v d gc pc rc → BR v b → BB b → FR v d gc pc rc → 0 < L → L ≤ 1000000000 → lcF gc pc rc f v n (nI L) = nI (min L (opt d gc pc (rc - n) n b))
  | 0, n, v, b, L, _, h, _, _, _, _, _, _ => by omega
  | f + 1, n, v, b, L, hn, hf, hC, hR, hB, hF, h0, hL => by
    by_cases hlt : n < rc
    · show (if n < rc then lcS (lcF gc pc rc f) gc pc v n (nI L) else 0) = _
      rw [if_pos hlt]
      have hrec : ∀ p h L2, h + d 6 n ≤ 168 → 0 < L2 → L2 ≤ 1000000000 → lcF gc pc rc f (occ v n p (nI h)) (n + 1) (nI L2) = nI (min L2 (opt d gc pc (rc - (n + 1)) (n + 1) (ocN d b n p h))) := fun p h L2 hh a1 a2 =>
        lc_eq hD hg6 hp4 hr5 f (n + 1) _ _ L2 (by omega) (by omega) (hC.of (KC_occ _ _ _ _) hg6 hp4 hr5) (BR_occ hD hC hR hlt) (BB_oc hD hB hh) (FR_of hF (occ_41 _ _ _ _)) a1 a2
      have hpp := pp_eq hD hp4 hr5 hC hR hB hF hlt hL hrec pc (Nat.le_refl _)
      have hmin := pp_min d b gc pc (rc - (n + 1)) n L
      have hlim := pp_lim (d := d) (b := b) (gc := gc) (pc := pc) (f := rc - (n + 1)) (n := n) (lim := L) pc
      have h2 := fs_le d gc pc (rc - (n + 1)) (n + 1) b
      have h3 := opt_bd hD (rc - (n + 1)) (n + 1) b (by omega)
      have h4 : (rc - (n + 1)) * 1168000 ≤ 5 * 1168000 := Nat.mul_le_mul_right _ (by omega)
      have h5 := cu_bd hD hlt
      rw [show rc - n = rc - (n + 1) + 1 by omega, ← hmin]
      unfold lcS
      rw [hpp, cu_eq hC hlt, hF (n + 1) (by omega), nI_add]
      by_cases hx : cuN d n + fsN d gc pc (rc - (n + 1)) (n + 1) < ppN d b gc pc (rc - (n + 1)) n L pc
      · rw [if_pos (nI_lt hx (by omega)), nI_sub (by omega), lc_eq hD hg6 hp4 hr5 f (n + 1) v b _ (by omega) (by omega) hC hR hB hF (by omega) (by omega), nI_add]
        congr 1
        omega
      · rw [if_neg (nI_nlt (by omega) (by omega))]
        congr 1
        omega
    · have e : n = rc := by omega
      subst e
      show (if n < n then lcS (lcF gc pc n f) gc pc v n (nI L) else 0) = _
      rw [if_neg hlt, Nat.sub_self, show min L (opt d gc pc 0 n b) = 0 from Nat.min_eq_right (Nat.zero_le _)]
      rfl
end Link
