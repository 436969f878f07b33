/-! the reference's search finds the best plan -/
def MR (u : Nat → Nat → Int32) (d : Nat → Nat → Nat) (gc pc rc : Nat) : Prop := (∀ g, g < gc → u 6 g = nI (d 0 g) ∧ u 7 g = nI (d 1 g)) ∧ (∀ p, p < pc → u 8 p = nI (d 2 p) ∧ u 9 p = nI (d 3 p) ∧ u 10 p = nI (d 4 p)) ∧ (∀ i, i < rc → u 11 i = nI (d 5 i) ∧ u 12 i = nI (d 6 i) ∧ u 13 i = nI (d 7 i) ∧ u 14 i = nI (d 8 i)) ∧ u 0 20 = nI (d 9 0) ∧ u 0 21 = nI (d 9 1) ∧ u 0 8 = nI gc ∧ u 0 11 = nI pc ∧ u 0 15 = nI rc
/-- rows that the search keeps -/
def KM (u v : Nat → Nat → Int32) : Prop := ∀ a j, a < 16 → ¬ (a = 0 ∧ (j = 23 ∨ j = 24)) → u a j = v a j
theorem KM.tr {u v w : Nat → Nat → Int32} (h : KM u v) (h2 : KM v w) : KM u w := fun a j q r => (h a j q r).trans (h2 a j q r)
theorem MR.of {u v : Nat → Nat → Int32} {d : Nat → Nat → Nat} {gc pc rc : Nat} (h : MR v d gc pc rc) (hk : KM u v) : MR u d gc pc rc := by
  obtain ⟨h1, h2, h3, h4, h5, h6, h7, h8⟩ := h
  refine ⟨fun g q => ?_, fun p q => ?_, fun i q => ?_, ?_, ?_, ?_, ?_, ?_⟩
  · rw [hk _ _ (by omega) (by omega), hk _ _ (by omega) (by omega)]; exact h1 g q
  · rw [hk _ _ (by omega) (by omega), hk _ _ (by omega) (by omega), hk _ _ (by omega) (by omega)]; exact h2 p q
  · rw [hk _ _ (by omega) (by omega), hk _ _ (by omega) (by omega), hk _ _ (by omega) (by omega), hk _ _ (by omega) (by omega)]; exact h3 i q
  · rw [hk _ _ (by omega) (by omega)]; exact h4
  · rw [hk _ _ (by omega) (by omega)]; exact h5
  · rw [hk _ _ (by omega) (by omega)]; exact h6
  · rw [hk _ _ (by omega) (by omega)]; exact h7
  · rw [hk _ _ (by omega) (by omega)]; exact h8
/-- a level of the search -/
def LB (u : Nat → Nat → Int32) (i : Nat) (b : Nat → Nat → Nat) (C : Nat) : Prop := (∀ p, p < 4 → u 18 (4 * i + p) = nI (b 0 p)) ∧ (∀ t, t < 8 → u 19 (8 * i + t) = nI (b 1 t)) ∧ u 20 i = nI C
/-- the levels below i are kept -/
def LO (u v : Nat → Nat → Int32) (i : Nat) : Prop := (∀ k, k < i → u 21 k = v 21 k ∧ u 22 k = v 22 k) ∧ (∀ k, k ≤ i → u 20 k = v 20 k) ∧ (∀ k, k < 4 * (i + 1) → u 18 k = v 18 k) ∧ ∀ k, k < 8 * (i + 1) → u 19 k = v 19 k
theorem LO.tr {u v w : Nat → Nat → Int32} {i : Nat} (h : LO u v i) (h2 : LO v w i) : LO u w i :=
  ⟨fun k hk => ⟨((h.1 k hk).1).trans (h2.1 k hk).1, ((h.1 k hk).2).trans (h2.1 k hk).2⟩, fun k hk => (h.2.1 k hk).trans (h2.2.1 k hk), fun k hk => (h.2.2.1 k hk).trans (h2.2.2.1 k hk), fun k hk => (h.2.2.2 k hk).trans (h2.2.2.2 k hk)⟩
theorem LO.dn {u v : Nat → Nat → Int32} {i : Nat} (h : LO u v (i + 1)) : LO u v i :=
  ⟨fun k hk => h.1 k (by omega), fun k hk => h.2.1 k (by omega), fun k hk => h.2.2.1 k (by omega), fun k hk => h.2.2.2 k (by omega)⟩
theorem LB.of {u v : Nat → Nat → Int32} {i : Nat} {b : Nat → Nat → Nat} {C : Nat} (h : LB v i b C) (hl : LO u v i) : LB u i b C :=
  ⟨fun p hp => by rw [hl.2.2.1 _ (by omega)]; exact h.1 p hp, fun t ht => by rw [hl.2.2.2 _ (by omega)]; exact h.2.1 t ht, by rw [hl.2.1 i (Nat.le_refl _)]; exact h.2.2⟩
def CE (u : Nat → Nat → Int32) : Nat → List (Nat × Int32) → Prop
  | _, [] => True
  | n, e :: L => (u 22 n = e.2 ∧ u 21 n = nI e.1) ∧ CE u (n + 1) L
def ME (u : Nat → Nat → Int32) : Nat → List (Nat × Int32) → Prop
  | _, [] => True
  | n, e :: L => (u 16 n = e.2 ∧ u 17 n = nI e.1) ∧ ME u (n + 1) L
theorem CE_app (u : Nat → Nat → Int32) (M : List (Nat × Int32)) : ∀ (L : List (Nat × Int32)) n, CE u n L → CE u (n + L.length) M → CE u n (L ++ M)
  | [], n, _, h => h
  | e :: L, n, h1, h2 => ⟨h1.1, CE_app u M L (n + 1) h1.2 (by rw [show n + 1 + L.length = n + (e :: L).length by simp; omega]; exact h2)⟩
theorem CE_of {u v : Nat → Nat → Int32} {i : Nat} (h : ∀ k, k < i → u 21 k = v 21 k ∧ u 22 k = v 22 k) : ∀ (L : List (Nat × Int32)) n, n + L.length ≤ i → CE v n L → CE u n L
  | [], _, _, _ => trivial
  | e :: L, n, hl, hc => by
    have hl' : n + (L.length + 1) ≤ i := hl
    exact ⟨⟨by rw [(h n (by omega)).2]; exact hc.1.1, by rw [(h n (by omega)).1]; exact hc.1.2⟩, CE_of h L (n + 1) (by omega) hc.2⟩
theorem ME_bs {u : Nat → Nat → Int32} {rc : Nat} : ∀ (L : List (Nat × Int32)) n, n + L.length ≤ rc → CE u n L → ME (bsM u rc rc) n L
  | [], _, _, _ => trivial
  | e :: L, n, hl, hc => by
    have hl' : n + (L.length + 1) ≤ rc := hl
    refine ⟨⟨?_, ?_⟩, ME_bs L (n + 1) (by omega) hc.2⟩
    · unfold bsM
      rw [if_pos ⟨rfl, by omega⟩]
      exact hc.1.1
    · unfold bsM
      rw [if_neg (by omega), if_pos ⟨rfl, by omega⟩]
      exact hc.1.2
theorem ME_of {u v : Nat → Nat → Int32} (h1 : u 16 = v 16) (h2 : u 17 = v 17) : ∀ (L : List (Nat × Int32)) n, ME v n L → ME u n L
  | [], _, _ => trivial
  | e :: L, n, hc => ⟨⟨by rw [h1]; exact hc.1.1, by rw [h2]; exact hc.1.2⟩, ME_of h1 h2 L (n + 1) hc.2⟩
/-- the best so far -/
def BQ (u : Nat → Nat → Int32) : Option (Nat × List (Nat × Int32)) → Prop
  | none => u 0 23 = 0
  | some x => u 0 23 = 1 ∧ u 0 24 = nI x.1 ∧ x.1 ≤ 5840000 ∧ ME u 0 x.2
theorem BQ_of {u v : Nat → Nat → Int32} (h0 : u 0 23 = v 0 23) (h3 : u 0 24 = v 0 24) (h1 : u 16 = v 16) (h2 : u 17 = v 17) : ∀ {q}, BQ v q → BQ u q
  | none, h => h0.trans h
  | some x, h => ⟨h0.trans h.1, h3.trans h.2.1, h.2.2.1, ME_of h1 h2 _ _ h.2.2.2⟩
theorem pick_as (x y z : Option (Nat × List (Nat × Int32))) : pick (pick x y) z = pick x (pick y z) := by
  rcases x with _ | x
  · rfl
  · rcases y with _ | y
    · rfl
    · rcases z with _ | z
      · show pick (if y.1 < x.1 then some y else some x) none = if y.1 < x.1 then some y else some x
        split <;> rfl
      · show pick (if y.1 < x.1 then some y else some x) (some z) = pick (some x) (if z.1 < y.1 then some z else some y)
        by_cases h1 : y.1 < x.1
        · rw [if_pos h1]
          by_cases h2 : z.1 < y.1
          · rw [if_pos h2]
            show (if z.1 < y.1 then some z else some y) = if z.1 < x.1 then some z else some x
            rw [if_pos h2, if_pos (by omega)]
          · rw [if_neg h2]
            show (if z.1 < y.1 then some z else some y) = if y.1 < x.1 then some y else some x
            rw [if_neg h2, if_pos h1]
        · rw [if_neg h1]
          by_cases h2 : z.1 < y.1
          · rw [if_pos h2]
          · rw [if_neg h2]
            show (if z.1 < x.1 then some z else some x) = if y.1 < x.1 then some y else some x
            rw [if_neg h1, if_neg (by omega)]
def shf (C : Nat) (L0 : List (Nat × Int32)) : Option (Nat × List (Nat × Int32)) → Option (Nat × List (Nat × Int32))
  | none => none
  | some x => some (C + x.1, L0 ++ x.2)
theorem shf_pick (C : Nat) (L0 : List (Nat × Int32)) (x y : Option (Nat × List (Nat × Int32))) : shf C L0 (pick x y) = pick (shf C L0 x) (shf C L0 y) := by
  rcases x with _ | x
  · rfl
  · rcases y with _ | y
    · rfl
    · show shf C L0 (if y.1 < x.1 then some y else some x) = if C + y.1 < C + x.1 then some (C + y.1, L0 ++ y.2) else some (C + x.1, L0 ++ x.2)
      by_cases h : y.1 < x.1
      · rw [if_pos h, if_pos (by omega)]; rfl
      · rw [if_neg h, if_neg (by omega)]; rfl
theorem pick_no {q z : Option (Nat × List (Nat × Int32))} {K : Nat} {L : List (Nat × Int32)} {x : Nat × List (Nat × Int32)} (hq : q = some (K, L)) (h : K ≤ x.1) : pick q (pick (some x) z) = pick q z := by
  subst hq
  rw [← pick_as]
  show pick (if x.1 < K then some x else some (K, L)) z = _
  rw [if_neg (by omega)]
theorem lt_nI {a b : Nat} (ha : a < 2 ^ 31) (hb : b < 2 ^ 31) : ltZ (nI a) (nI b) = nI (max a b) := by
  unfold ltZ
  by_cases h : a ≤ b
  · rw [if_pos (nI_le h hb), Nat.max_eq_right h]
  · rw [if_neg (nI_ge (by omega) ha), Nat.max_eq_left (by omega)]
section Search
variable {u : Nat → Nat → Int32} {d b : Nat → Nat → Nat} {gc pc rc : Nat}
theorem begM_eq (hD : DB d gc pc rc) (hM : MR u d gc pc rc) (hB : BB b) (hp4 : pc ≤ 4) {i g p C : Nat} (hL : LB u i b C) (hi : i < rc) (hg : g < gc) (hp : p < pc) : begM u i g p (d 5 i) = oN (begN d b i g p) := by
  have hb := hN_bd (i := i) hD hB hg hp
  have h1 := hD.1 g hg
  have h2 := hD.2.1 p hp
  have h3 := hB 0 p
  have h4 := hB 1 (d 5 i)
  have h5 := hD.2.2.1 i hi
  have hbe : bgH u i g p (d 5 i) = nI (hN d b i g p) := by
    unfold bgH hN
    rw [(hM.1 g hg).1, (hM.2.1 p hp).2.1, hL.1 p (by omega), hL.2.1 _ h5.1, lt_nI (by omega) (by omega), lt_nI (by omega) (by omega), lt_nI (by omega) (by omega)]
  unfold begM begN
  rw [hbe, (hM.2.1 p hp).1, (hM.2.1 p hp).2.2, (hM.2.2.1 i hi).2.2.1, (hM.2.2.1 i hi).2.1, (hM.1 g hg).2, nI_add]
  by_cases hs : d 2 p = d 7 i
  · rw [if_pos (by rw [hs])]
    by_cases h8 : d 1 g < hN d b i g p + d 6 i
    · rw [if_pos (nI_lt h8 (by omega)), if_neg (fun q => by obtain ⟨-, q2, q3⟩ := q; omega)]
      rfl
    · rw [if_neg (nI_nlt (by omega) (by omega))]
      by_cases h9 : d 4 p < hN d b i g p + d 6 i
      · rw [if_pos (nI_lt h9 (by omega)), if_neg (fun q => by obtain ⟨-, q2, q3⟩ := q; omega)]
        rfl
      · rw [if_neg (nI_nlt (by omega) (by omega)), if_pos ⟨hs, by omega, by omega⟩]
        rfl
  · rw [if_neg (fun q => hs ((nI_eq (by omega) (by omega)).mp q)), if_neg (fun q => hs q.1)]
    rfl
/-- the hour of a choice, as the search reckons it -/
theorem hrM_none (hD : DB d gc pc rc) (hM : MR u d gc pc rc) (hB : BB b) (hg6 : gc ≤ 6) (hp4 : pc ≤ 4) {i ch C : Nat} (hL : LB u i b C) (hi : i < rc) (hc : ch ≤ gc * pc) (hw : wy d gc pc i b ch = none) : ch < gc * pc ∧ hrM u i ch gc pc (d 5 i) = -1 := by
  have hgp := Nat.mul_le_mul hg6 hp4
  unfold wy at hw
  by_cases e : ch = gc * pc
  · rw [if_pos e] at hw
    exact absurd hw (by simp)
  · rw [if_neg e] at hw
    have hlt : ch < gc * pc := by omega
    have h0 : 0 < pc := Nat.pos_of_ne_zero (fun q => by subst q; simp at hlt)
    have hg2 : ch / pc < gc := Nat.div_lt_of_lt_mul (by rw [Nat.mul_comm]; exact hlt)
    by_cases ho : okN d b i (ch / pc) (ch % pc)
    · rw [if_pos ho] at hw
      exact absurd hw (by simp)
    · refine ⟨hlt, ?_⟩
      unfold hrM
      rw [if_neg (fun q => e ((nI_eq (by omega) (by omega)).mp q)), begM_eq hD hM hB hp4 hL hi hg2 (Nat.mod_lt _ h0)]
      unfold begN
      rw [if_neg ho]
      rfl
theorem hrM_some (hD : DB d gc pc rc) (hM : MR u d gc pc rc) (hB : BB b) (hg6 : gc ≤ 6) (hp4 : pc ≤ 4) {i ch C o : Nat} {h : Int32} {b' : Nat → Nat → Nat} (hL : LB u i b C) (hi : i < rc) (hc : ch ≤ gc * pc) (hw : wy d gc pc i b ch = some (o, h, b')) :
    hrM u i ch gc pc (d 5 i) = h ∧ o ≤ 1168000 ∧ BB b' ∧ ((ch = gc * pc ∧ h = -1 ∧ o = cuN d i ∧ b' = b) ∨ (ch < gc * pc ∧ ∃ x, x ≤ 168 ∧ h = nI x ∧ o = d 8 i * x ∧ b' = ocN d b i (ch % pc) x)) := by
  have hgp := Nat.mul_le_mul hg6 hp4
  unfold wy at hw
  by_cases e : ch = gc * pc
  · rw [if_pos e] at hw
    injection hw with hw
    injection hw with r1 r2
    injection r2 with r2 r3
    subst r1 r2 r3
    refine ⟨?_, cu_bd hD hi, hB, Or.inl ⟨e, rfl, rfl, rfl⟩⟩
    unfold hrM
    rw [if_pos (by rw [e])]
  · rw [if_neg e] at hw
    have hlt : ch < gc * pc := by omega
    have h0 : 0 < pc := Nat.pos_of_ne_zero (fun q => by subst q; simp at hlt)
    have hg2 : ch / pc < gc := Nat.div_lt_of_lt_mul (by rw [Nat.mul_comm]; exact hlt)
    by_cases ho : okN d b i (ch / pc) (ch % pc)
    · rw [if_pos ho] at hw
      injection hw with hw
      injection hw with r1 r2
      injection r2 with r2 r3
      subst r1 r2 r3
      have hbd := ok_bd hD hg2 ho
      refine ⟨?_, Nat.le_trans (own_bd hD hi (by omega)) (by omega), BB_oc hD hB hbd, Or.inr ⟨hlt, _, by omega, rfl, rfl, rfl⟩⟩
      unfold hrM
      rw [if_neg (fun q => e ((nI_eq (by omega) (by omega)).mp q)), begM_eq hD hM hB hp4 hL hi hg2 (Nat.mod_lt _ h0)]
      unfold begN
      rw [if_pos ho]
      rfl
    · rw [if_neg ho] at hw
      exact absurd hw (by simp)
theorem cp_18 (u : Nat → Nat → Int32) (i p : Nat) (hp : p < 4) : cpM u i 18 (4 * (i + 1) + p) = u 18 (4 * i + p) := by
  unfold cpM
  rw [if_pos ⟨rfl, by omega, by omega⟩, show 4 * (i + 1) + p - 4 = 4 * i + p by omega]
theorem cp_19 (u : Nat → Nat → Int32) (i t : Nat) (ht : t < 8) : cpM u i 19 (8 * (i + 1) + t) = u 19 (8 * i + t) := by
  unfold cpM
  rw [if_neg (by omega), if_pos ⟨rfl, by omega, by omega⟩, show 8 * (i + 1) + t - 8 = 8 * i + t by omega]
/-- what take leaves, one level up -/
theorem tk_LB (hD : DB d gc pc rc) (hM : MR u d gc pc rc) (hp4 : pc ≤ 4) {i ch C o : Nat} {h : Int32} {b' : Nat → Nat → Nat} (hL : LB u i b C) (hi : i < rc) (hr5 : rc ≤ 5) (hh : u 22 i = h)
    (hx : (h = -1 ∧ o = cuN d i ∧ b' = b) ∨ (0 < pc ∧ ∃ x, x ≤ 168 ∧ h = nI x ∧ o = d 8 i * x ∧ b' = ocN d b i (ch % pc) x)) : LB (tkM u i ch pc (d 5 i)) (i + 1) b' (C + o) := by
  have h5 := hD.2.2.1 i hi
  unfold tkM
  rcases hx with ⟨h1, rfl, rfl⟩ | ⟨h0, x, hx1, h1, rfl, rfl⟩
  · rw [hh, h1, if_neg (by decide)]
    refine ⟨fun p hp => ?_, fun t ht => ?_, ?_⟩
    · rw [u2_ne (by decide), cp_18 _ _ _ hp]; exact hL.1 p hp
    · rw [u2_ne (by decide), cp_19 _ _ _ ht]; exact hL.2.1 t ht
    · rw [u2_eq, hL.2.2, (hM.2.2.1 i hi).2.2.2, hM.2.2.2.2.1, show (168 : Int32) = nI 168 from rfl, pk_mul, nI_add, nI_add]
      unfold cuN
      rw [Nat.mul_comm 168, Nat.add_assoc]
  · rw [hh, h1, if_pos (nI_pos' (by omega)), hL.2.2, (hM.2.2.1 i hi).2.2.2, (hM.2.2.1 i hi).2.1, hM.2.2.2.1, pk_mul, nI_add, nI_add, nI_add]
    have hm : ch % pc < 4 := Nat.lt_of_lt_of_le (Nat.mod_lt _ h0) hp4
    refine ⟨fun p hp => ?_, fun t ht => ?_, ?_⟩
    · rw [u2_ne (by decide), u2_at]
      unfold ocN
      by_cases e : p = ch % pc
      · rw [if_pos ⟨rfl, by rw [e]⟩, if_pos ⟨rfl, e⟩]
      · rw [if_neg (by omega), if_neg (fun q => e q.2), if_neg (by omega), u2_ne (by decide), cp_18 _ _ _ hp]
        exact hL.1 p hp
    · rw [u2_at]
      unfold ocN
      by_cases e : t = d 5 i
      · rw [if_pos ⟨rfl, by rw [e]⟩, if_neg (by omega), if_pos ⟨rfl, e⟩]
      · rw [if_neg (by omega), u2_ne (by decide), u2_ne (by decide), cp_19 _ _ _ ht, if_neg (by omega), if_neg (fun q => e q.2)]
        exact hL.2.1 t ht
    · rw [u2_ne (by decide), u2_ne (by decide), u2_eq, Nat.mul_comm x]
theorem tk_LO (u : Nat → Nat → Int32) (i ch pc t : Nat) : LO (tkM u i ch pc t) u i := by
  have e1 : ∀ k, k < 4 * (i + 1) → cpM u i 18 k = u 18 k := fun k hk => by
    unfold cpM
    rw [if_neg (by omega), if_neg (by omega)]
  have e2 : ∀ k, k < 8 * (i + 1) → cpM u i 19 k = u 19 k := fun k hk => by
    unfold cpM
    rw [if_neg (by omega), if_neg (by omega)]
  have e3 : ∀ k, cpM u i 20 k = u 20 k := fun k => by
    unfold cpM
    rw [if_neg (by omega), if_neg (by omega)]
  refine ⟨fun k hk => ⟨by rw [tkM_r (by decide)], by rw [tkM_r (by decide)]⟩, fun k hk => ?_, fun k hk => ?_, fun k hk => ?_⟩
  · unfold tkM
    split
    · rw [u2_ne (by decide), u2_ne (by decide), u2_at, if_neg (by omega), e3]
    · rw [u2_at, if_neg (by omega), e3]
  · unfold tkM
    split
    · rw [u2_ne (by decide), u2_at, if_neg (by omega), u2_ne (by decide), e1 k hk]
    · rw [u2_ne (by decide), e1 k hk]
  · unfold tkM
    split
    · rw [u2_at, if_neg (by omega), u2_ne (by decide), u2_ne (by decide), e2 k hk]
    · rw [u2_ne (by decide), e2 k hk]
theorem KM_r {u v : Nat → Nat → Int32} (h : ∀ a, a < 16 → u a = v a) : KM u v := fun a j ha _ => by rw [h a ha]
end Search
