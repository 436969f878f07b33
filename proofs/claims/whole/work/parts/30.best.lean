/-! the plan, in natural numbers. d: 0 gaps' from, 1 gaps' to, 2 persons' skill, 3 from, 4 to, 5 repairs' thing, 6 hours, 7 skill, 8 waiting, 9 rest and failing; b: 0 persons' free hours, 1 things' free hours -/
def hN (d b : Nat → Nat → Nat) (i g p : Nat) : Nat := max (max (d 0 g) (d 3 p)) (max (b 0 p) (b 1 (d 5 i)))
abbrev okN (d b : Nat → Nat → Nat) (i g p : Nat) : Prop := d 2 p = d 7 i ∧ hN d b i g p + d 6 i ≤ d 1 g ∧ hN d b i g p + d 6 i ≤ d 4 p
def ocN (d b : Nat → Nat → Nat) (i p h : Nat) : Nat → Nat → Nat := fun k j => if k = 0 ∧ j = p then h + d 6 i + d 9 0 else if k = 1 ∧ j = d 5 i then h + d 6 i else b k j
def cuN (d : Nat → Nat → Nat) (i : Nat) : Nat := d 8 i * 168 + d 9 1
/-- a choice: what it costs, its hour, and the free hours behind it -/
def wy (d : Nat → Nat → Nat) (gc pc i : Nat) (b : Nat → Nat → Nat) (c : Nat) : Option (Nat × Int32 × (Nat → Nat → Nat)) :=
  if c = gc * pc then some (cuN d i, -1, b) else if okN d b i (c / pc) (c % pc) then some (d 8 i * hN d b i (c / pc) (c % pc), nI (hN d b i (c / pc) (c % pc)), ocN d b i (c % pc) (hN d b i (c / pc) (c % pc))) else none
def pick (x y : Option (Nat × List (Nat × Int32))) : Option (Nat × List (Nat × Int32)) :=
  match x, y with
  | none, y => y
  | some x, none => some x
  | some x, some y => if y.1 < x.1 then some y else some x
def one (rec : (Nat → Nat → Nat) → Nat × List (Nat × Int32)) (d : Nat → Nat → Nat) (gc pc i : Nat) (b : Nat → Nat → Nat) (c : Nat) : Option (Nat × List (Nat × Int32)) :=
  match wy d gc pc i b c with
  | none => none
  | some (o, h, b') => some (o + (rec b').1, (c, h) :: (rec b').2)
/-- the best of the last k choices -/
def bF (rec : (Nat → Nat → Nat) → Nat × List (Nat × Int32)) (d : Nat → Nat → Nat) (gc pc i : Nat) (b : Nat → Nat → Nat) : Nat → Option (Nat × List (Nat × Int32))
  | 0 => none
  | k + 1 => pick (one rec d gc pc i b (gc * pc - k)) (bF rec d gc pc i b k)
/-- the best plan of f repairs from i on -/
def bs (d : Nat → Nat → Nat) (gc pc : Nat) : Nat → Nat → (Nat → Nat → Nat) → Nat × List (Nat × Int32)
  | 0 => fun _ _ => (0, [])
  | f + 1 => fun i b => (bF (bs d gc pc f (i + 1)) d gc pc i b (gc * pc + 1)).getD (0, [])
theorem wy_N (d : Nat → Nat → Nat) (gc pc i : Nat) (b : Nat → Nat → Nat) : wy d gc pc i b (gc * pc) = some (cuN d i, -1, b) := if_pos rfl
/-- what the best of the last k choices is -/
theorem bF_spec (rec : (Nat → Nat → Nat) → Nat × List (Nat × Int32)) (d : Nat → Nat → Nat) (gc pc i : Nat) (b : Nat → Nat → Nat) : ∀ k, k ≤ gc * pc →
    ∃ c o h b', gc * pc - k ≤ c ∧ c ≤ gc * pc ∧ wy d gc pc i b c = some (o, h, b') ∧ bF rec d gc pc i b (k + 1) = some (o + (rec b').1, (c, h) :: (rec b').2)
      ∧ (∀ c2 o2 h2 b2, gc * pc - k ≤ c2 → c2 ≤ gc * pc → wy d gc pc i b c2 = some (o2, h2, b2) → o + (rec b').1 ≤ o2 + (rec b2).1)
      ∧ (∀ c2 o2 h2 b2, gc * pc - k ≤ c2 → c2 < c → wy d gc pc i b c2 = some (o2, h2, b2) → o + (rec b').1 < o2 + (rec b2).1)
  | 0, _ => by
    refine ⟨gc * pc, cuN d i, -1, b, by omega, Nat.le_refl _, wy_N d gc pc i b, ?_, ?_, ?_⟩
    · simp [bF, one, wy_N, pick]
    · intro c2 o2 h2 b2 h1 h2' h3
      have e : c2 = gc * pc := by omega
      subst e
      rw [wy_N] at h3
      injection h3 with h3
      injection h3 with h4 h5
      injection h5 with h5 h6
      subst h4 h6
      exact Nat.le_refl _
    · intro c2 o2 h2 b2 h1 h2'
      omega
  | k + 1, hk => by
    obtain ⟨c, o, h, b', hc1, hc2, hw, hb, hm, hf⟩ := bF_spec rec d gc pc i b k (by omega)
    have hb' : bF rec d gc pc i b (k + 1 + 1) = pick (one rec d gc pc i b (gc * pc - (k + 1))) (bF rec d gc pc i b (k + 1)) := rfl
    rw [hb', hb]
    rcases hx : wy d gc pc i b (gc * pc - (k + 1)) with _ | ⟨o1, h1, b1⟩
    · refine ⟨c, o, h, b', by omega, hc2, hw, by simp [one, hx, pick], ?_, ?_⟩
      · intro c2 o2 h2 b2 q1 q2 q3
        rcases (show c2 = gc * pc - (k + 1) ∨ gc * pc - k ≤ c2 by omega) with e | e
        · subst e; rw [hx] at q3; exact absurd q3 (by simp)
        · exact hm c2 o2 h2 b2 e q2 q3
      · intro c2 o2 h2 b2 q1 q2 q3
        rcases (show c2 = gc * pc - (k + 1) ∨ gc * pc - k ≤ c2 by omega) with e | e
        · subst e; rw [hx] at q3; exact absurd q3 (by simp)
        · exact hf c2 o2 h2 b2 e q2 q3
    · by_cases hlt : o + (rec b').1 < o1 + (rec b1).1
      · refine ⟨c, o, h, b', by omega, hc2, hw, by simp [one, hx, pick, hlt], ?_, ?_⟩
        · intro c2 o2 h2 b2 q1 q2 q3
          rcases (show c2 = gc * pc - (k + 1) ∨ gc * pc - k ≤ c2 by omega) with e | e
          · subst e; rw [hx] at q3
            injection q3 with q3
            injection q3 with q4 q5
            injection q5 with q5 q6
            subst q4 q6
            omega
          · exact hm c2 o2 h2 b2 e q2 q3
        · intro c2 o2 h2 b2 q1 q2 q3
          rcases (show c2 = gc * pc - (k + 1) ∨ gc * pc - k ≤ c2 by omega) with e | e
          · subst e; rw [hx] at q3
            injection q3 with q3
            injection q3 with q4 q5
            injection q5 with q5 q6
            subst q4 q6
            exact hlt
          · exact hf c2 o2 h2 b2 e q2 q3
      · refine ⟨gc * pc - (k + 1), o1, h1, b1, Nat.le_refl _, by omega, hx, by simp [one, hx, pick, hlt], ?_, ?_⟩
        · intro c2 o2 h2 b2 q1 q2 q3
          rcases (show c2 = gc * pc - (k + 1) ∨ gc * pc - k ≤ c2 by omega) with e | e
          · subst e; rw [hx] at q3
            injection q3 with q3
            injection q3 with q4 q5
            injection q5 with q5 q6
            subst q4 q6
            exact Nat.le_refl _
          · have := hm c2 o2 h2 b2 e q2 q3
            omega
        · intro c2 o2 h2 b2 q1 q2 q3
          omega
abbrev opt (d : Nat → Nat → Nat) (gc pc f i : Nat) (b : Nat → Nat → Nat) : Nat := (bs d gc pc f i b).1
/-- the best plan begins with the first choice of least cost -/
theorem bs_spec (d : Nat → Nat → Nat) (gc pc f i : Nat) (b : Nat → Nat → Nat) :
    ∃ c o h b', c ≤ gc * pc ∧ wy d gc pc i b c = some (o, h, b') ∧ bs d gc pc (f + 1) i b = (o + opt d gc pc f (i + 1) b', (c, h) :: (bs d gc pc f (i + 1) b').2)
      ∧ (∀ c2 o2 h2 b2, c2 ≤ gc * pc → wy d gc pc i b c2 = some (o2, h2, b2) → opt d gc pc (f + 1) i b ≤ o2 + opt d gc pc f (i + 1) b2)
      ∧ (∀ c2 o2 h2 b2, c2 < c → wy d gc pc i b c2 = some (o2, h2, b2) → opt d gc pc (f + 1) i b < o2 + opt d gc pc f (i + 1) b2) := by
  obtain ⟨c, o, h, b', hc1, hc2, hw, hb, hm, hf⟩ := bF_spec (bs d gc pc f (i + 1)) d gc pc i b (gc * pc) (Nat.le_refl _)
  have e : bs d gc pc (f + 1) i b = (o + opt d gc pc f (i + 1) b', (c, h) :: (bs d gc pc f (i + 1) b').2) := by
    show (bF (bs d gc pc f (i + 1)) d gc pc i b (gc * pc + 1)).getD (0, []) = _
    rw [hb]
    rfl
  have e1 : opt d gc pc (f + 1) i b = o + opt d gc pc f (i + 1) b' := by
    show (bs d gc pc (f + 1) i b).1 = _
    rw [e]
  refine ⟨c, o, h, b', hc2, hw, e, ?_, ?_⟩
  · intro c2 o2 h2 b2 q1 q2
    rw [e1]
    exact hm c2 o2 h2 b2 (by omega) q1 q2
  · intro c2 o2 h2 b2 q1 q2
    rw [e1]
    exact hf c2 o2 h2 b2 (by omega) q1 q2
/-- which choice it is -/
theorem bs_is {d : Nat → Nat → Nat} {gc pc f i : Nat} {b : Nat → Nat → Nat} {c o : Nat} {h : Int32} {b' : Nat → Nat → Nat} (hc : c ≤ gc * pc) (hw : wy d gc pc i b c = some (o, h, b')) (hle : o + opt d gc pc f (i + 1) b' ≤ opt d gc pc (f + 1) i b)
    (hno : ∀ c2 o2 h2 b2, c2 < c → wy d gc pc i b c2 = some (o2, h2, b2) → ¬ o2 + opt d gc pc f (i + 1) b2 ≤ opt d gc pc (f + 1) i b) :
    bs d gc pc (f + 1) i b = (o + opt d gc pc f (i + 1) b', (c, h) :: (bs d gc pc f (i + 1) b').2) := by
  obtain ⟨c1, o1, h1, b1, q1, q2, q3, q4, q5⟩ := bs_spec d gc pc f i b
  have e1 : opt d gc pc (f + 1) i b = o1 + opt d gc pc f (i + 1) b1 := by
    show (bs d gc pc (f + 1) i b).1 = _
    rw [q3]
  have hcc : c1 = c := by
    rcases Nat.lt_trichotomy c1 c with h9 | h9 | h9
    · exact absurd (Nat.le_of_eq e1.symm) (hno c1 o1 h1 b1 h9 q2)
    · exact h9
    · have := q5 c o h b' h9 hw
      omega
  subst hcc
  rw [hw] at q2
  injection q2 with q2
  injection q2 with r1 r2
  injection r2 with r2 r3
  subst r1 r2 r3
  exact q3
/-! an earlier beginning costs no more -/
abbrev leB (b b2 : Nat → Nat → Nat) : Prop := ∀ k j, b k j ≤ b2 k j
theorem hN_le {d b b2 : Nat → Nat → Nat} (h : leB b b2) (i g p : Nat) : hN d b i g p ≤ hN d b2 i g p := by
  unfold hN
  have h1 := h 0 p
  have h2 := h 1 (d 5 i)
  omega
theorem ok_le {d b b2 : Nat → Nat → Nat} (h : leB b b2) {i g p : Nat} (ho : okN d b2 i g p) : okN d b i g p := by
  have h1 := hN_le (d := d) h i g p
  obtain ⟨a1, a2, a3⟩ := ho
  exact ⟨a1, by omega, by omega⟩
theorem oc_le {d b b2 : Nat → Nat → Nat} (h : leB b b2) (i p : Nat) {x y : Nat} (hx : x ≤ y) : leB (ocN d b i p x) (ocN d b2 i p y) := by
  intro k j
  unfold ocN
  split
  · omega
  · split
    · omega
    · exact h k j
theorem opt_le (d : Nat → Nat → Nat) (gc pc : Nat) : ∀ f i (b b2 : Nat → Nat → Nat), leB b b2 → opt d gc pc f i b ≤ opt d gc pc f i b2
  | 0, _, _, _, _ => Nat.le_refl _
  | f + 1, i, b, b2, h => by
    obtain ⟨c, o, hh, b', q1, q2, q3, -, -⟩ := bs_spec d gc pc f i b2
    obtain ⟨-, -, -, -, -, -, -, q4, -⟩ := bs_spec d gc pc f i b
    have e1 : opt d gc pc (f + 1) i b2 = o + opt d gc pc f (i + 1) b' := by
      show (bs d gc pc (f + 1) i b2).1 = _
      rw [q3]
    rw [e1]
    unfold wy at q2
    by_cases hc : c = gc * pc
    · rw [if_pos hc] at q2
      injection q2 with q2
      injection q2 with r1 r2
      injection r2 with r2 r3
      subst r1 r3
      have h1 := q4 (gc * pc) _ _ _ (Nat.le_refl _) (wy_N d gc pc i b)
      have h2 := opt_le d gc pc f (i + 1) b b2 h
      omega
    · rw [if_neg hc] at q2
      by_cases ho : okN d b2 i (c / pc) (c % pc)
      · rw [if_pos ho] at q2
        injection q2 with q2
        injection q2 with r1 r2
        injection r2 with r2 r3
        subst r1 r3
        have h1 := q4 c _ _ _ q1 (show wy d gc pc i b c = _ by unfold wy; rw [if_neg hc, if_pos (ok_le h ho)])
        have h2 := opt_le d gc pc f (i + 1) _ _ (oc_le (d := d) h i (c % pc) (hN_le (d := d) h i (c / pc) (c % pc)))
        have h3 : d 8 i * hN d b i (c / pc) (c % pc) ≤ d 8 i * hN d b2 i (c / pc) (c % pc) := Nat.mul_le_mul_left _ (hN_le h i _ _)
        omega
      · rw [if_neg ho] at q2
        exact absurd q2 (by simp)
/-- the first beginning of a person over the first gaps -/
def fbN (d b : Nat → Nat → Nat) (i p : Nat) : Nat → Option Nat
  | 0 => none
  | g + 1 => if okN d b i g p then (match fbN d b i p g with | none => some (hN d b i g p) | some f => some (min f (hN d b i g p))) else fbN d b i p g
theorem fb_at {d b : Nat → Nat → Nat} {i p : Nat} : ∀ {n h}, fbN d b i p n = some h → ∃ g, g < n ∧ okN d b i g p ∧ hN d b i g p = h
  | 0, h, e => by simp [fbN] at e
  | n + 1, h, e => by
    unfold fbN at e
    by_cases ho : okN d b i n p
    · rw [if_pos ho] at e
      rcases hq : fbN d b i p n with _ | f
      · rw [hq] at e
        injection e with e
        exact ⟨n, by omega, ho, e⟩
      · rw [hq] at e
        injection e with e
        obtain ⟨g, g1, g2, g3⟩ := fb_at hq
        rcases (show min f (hN d b i n p) = f ∨ min f (hN d b i n p) = hN d b i n p by omega) with h9 | h9
        · exact ⟨g, by omega, g2, by omega⟩
        · exact ⟨n, by omega, ho, by omega⟩
    · rw [if_neg ho] at e
      obtain ⟨g, g1, g2, g3⟩ := fb_at e
      exact ⟨g, by omega, g2, g3⟩
theorem fb_le {d b : Nat → Nat → Nat} {i p : Nat} : ∀ {n g}, g < n → okN d b i g p → ∃ h, fbN d b i p n = some h ∧ h ≤ hN d b i g p
  | 0, g, e, _ => by omega
  | n + 1, g, e, ho => by
    unfold fbN
    rcases (show g = n ∨ g < n by omega) with h9 | h9
    · subst h9
      rw [if_pos ho]
      rcases hq : fbN d b i p g with _ | f
      · exact ⟨_, rfl, Nat.le_refl _⟩
      · exact ⟨_, rfl, by omega⟩
    · obtain ⟨h, q1, q2⟩ := fb_le h9 ho
      rw [q1]
      by_cases h8 : okN d b i n p
      · rw [if_pos h8]
        exact ⟨_, rfl, by omega⟩
      · rw [if_neg h8]
        exact ⟨h, rfl, q2⟩
theorem gp_div {g p pc : Nat} (hp : p < pc) : (g * pc + p) / pc = g ∧ (g * pc + p) % pc = p := by
  constructor
  · rw [Nat.add_comm, Nat.add_mul_div_right _ _ (by omega), Nat.div_eq_of_lt hp, Nat.zero_add]
  · rw [Nat.add_comm, Nat.add_mul_mod_self_right, Nat.mod_eq_of_lt hp]
theorem gp_lt {g p gc pc : Nat} (hg : g < gc) (hp : p < pc) : g * pc + p < gc * pc := by
  have h1 : (g + 1) * pc ≤ gc * pc := Nat.mul_le_mul_right _ hg
  rw [Nat.succ_mul] at h1
  omega
theorem wy_gp {d b : Nat → Nat → Nat} {gc pc i g p : Nat} (hg : g < gc) (hp : p < pc) (ho : okN d b i g p) : wy d gc pc i b (g * pc + p) = some (d 8 i * hN d b i g p, nI (hN d b i g p), ocN d b i p (hN d b i g p)) := by
  unfold wy
  rw [if_neg (Nat.ne_of_lt (gp_lt hg hp)), (gp_div hp).1, (gp_div hp).2, if_pos ho]
/-- the least of a limit and of each person's first way -/
def ppN (d b : Nat → Nat → Nat) (gc pc f n lim : Nat) : Nat → Nat
  | 0 => lim
  | p + 1 => match fbN d b n p gc with | none => ppN d b gc pc f n lim p | some h => min (ppN d b gc pc f n lim p) (d 8 n * h + opt d gc pc f (n + 1) (ocN d b n p h))
theorem pp_ge {d b : Nat → Nat → Nat} {gc pc f n lim : Nat} : ∀ p, p ≤ pc → min lim (opt d gc pc (f + 1) n b) ≤ ppN d b gc pc f n lim p
  | 0, _ => Nat.min_le_left _ _
  | p + 1, hp => by
    have ih := pp_ge (d := d) (b := b) (gc := gc) (pc := pc) (f := f) (n := n) (lim := lim) p (by omega)
    unfold ppN
    rcases hq : fbN d b n p gc with _ | h
    · exact ih
    · obtain ⟨g, g1, g2, g3⟩ := fb_at hq
      obtain ⟨-, -, -, -, -, -, -, q4, -⟩ := bs_spec d gc pc f n b
      have h1 := q4 (g * pc + p) _ _ _ (Nat.le_of_lt (gp_lt g1 (by omega))) (wy_gp g1 (by omega) g2)
      rw [g3] at h1
      show min lim (opt d gc pc (f + 1) n b) ≤ min (ppN d b gc pc f n lim p) (d 8 n * h + opt d gc pc f (n + 1) (ocN d b n p h))
      omega
theorem pp_lim {d b : Nat → Nat → Nat} {gc pc f n lim : Nat} : ∀ p, ppN d b gc pc f n lim p ≤ lim
  | 0 => Nat.le_refl _
  | p + 1 => by
    have ih := pp_lim (d := d) (b := b) (gc := gc) (pc := pc) (f := f) (n := n) (lim := lim) p
    unfold ppN
    rcases hq : fbN d b n p gc with _ | h
    · exact ih
    · show min (ppN d b gc pc f n lim p) (d 8 n * h + opt d gc pc f (n + 1) (ocN d b n p h)) ≤ lim
      omega
theorem pp_le {d b : Nat → Nat → Nat} {gc pc f n lim : Nat} : ∀ {p q h}, q < p → fbN d b n q gc = some h → ppN d b gc pc f n lim p ≤ d 8 n * h + opt d gc pc f (n + 1) (ocN d b n q h)
  | 0, q, h, e, _ => by omega
  | p + 1, q, h, e, hq => by
    rcases (show q = p ∨ q < p by omega) with h9 | h9
    · subst h9
      unfold ppN
      rw [hq]
      exact Nat.min_le_right _ _
    · have ih := pp_le (lim := lim) (f := f) (pc := pc) h9 hq
      unfold ppN
      rcases hr : fbN d b n p gc with _ | h2
      · exact ih
      · show min (ppN d b gc pc f n lim p) (d 8 n * h2 + opt d gc pc f (n + 1) (ocN d b n p h2)) ≤ _
        omega
/-- persons' first ways and no way at all are enough -/
theorem pp_min (d b : Nat → Nat → Nat) (gc pc f n lim : Nat) : min (ppN d b gc pc f n lim pc) (cuN d n + opt d gc pc f (n + 1) b) = min lim (opt d gc pc (f + 1) n b) := by
  have h1 := pp_ge (d := d) (b := b) (gc := gc) (f := f) (n := n) (lim := lim) pc (Nat.le_refl _)
  have h2 := pp_lim (d := d) (b := b) (gc := gc) (pc := pc) (f := f) (n := n) (lim := lim) pc
  obtain ⟨c, o, hh, b', q1, q2, q3, q4, -⟩ := bs_spec d gc pc f n b
  have h3 := q4 (gc * pc) _ _ _ (Nat.le_refl _) (wy_N d gc pc n b)
  have e1 : opt d gc pc (f + 1) n b = o + opt d gc pc f (n + 1) b' := by
    show (bs d gc pc (f + 1) n b).1 = _
    rw [q3]
  have h4 : min (ppN d b gc pc f n lim pc) (cuN d n + opt d gc pc f (n + 1) b) ≤ opt d gc pc (f + 1) n b := by
    rw [e1]
    unfold wy at q2
    by_cases hc : c = gc * pc
    · rw [if_pos hc] at q2
      injection q2 with q2
      injection q2 with r1 r2
      injection r2 with r2 r3
      subst r1 r3
      exact Nat.min_le_right _ _
    · rw [if_neg hc] at q2
      by_cases ho : okN d b n (c / pc) (c % pc)
      · rw [if_pos ho] at q2
        injection q2 with q2
        injection q2 with r1 r2
        injection r2 with r2 r3
        subst r1 r3
        have hlt : c < gc * pc := Nat.lt_of_le_of_ne q1 hc
        have h0 : 0 < pc := Nat.pos_of_ne_zero (fun q => by subst q; simp at hlt)
        have hg : c / pc < gc := Nat.div_lt_of_lt_mul (by rw [Nat.mul_comm]; exact hlt)
        obtain ⟨h, k1, k2⟩ := fb_le hg ho
        have k3 := pp_le (pc := pc) (lim := lim) (f := f) (Nat.mod_lt c h0) k1
        have k4 := opt_le d gc pc f (n + 1) _ _ (oc_le (d := d) (b := b) (b2 := b) (fun _ _ => Nat.le_refl _) n (c % pc) k2)
        have k5 : d 8 n * h ≤ d 8 n * hN d b n (c / pc) (c % pc) := Nat.mul_le_mul_left _ k2
        omega
      · rw [if_neg ho] at q2
        exact absurd q2 (by simp)
  omega
/-! what repairs cost at the least, each alone -/
def b0 : Nat → Nat → Nat := fun _ _ => 0
def lsN (d : Nat → Nat → Nat) (gc i : Nat) : Nat → Nat
  | 0 => cuN d i
  | p + 1 => match fbN d b0 i p gc with | none => lsN d gc i p | some h => min (lsN d gc i p) (d 8 i * h)
def fsN (d : Nat → Nat → Nat) (gc pc : Nat) : Nat → Nat → Nat
  | 0, _ => 0
  | f + 1, i => fsN d gc pc f (i + 1) + lsN d gc i pc
theorem ls_cu {d : Nat → Nat → Nat} {gc i : Nat} : ∀ p, lsN d gc i p ≤ cuN d i
  | 0 => Nat.le_refl _
  | p + 1 => by
    have ih := ls_cu (d := d) (gc := gc) (i := i) p
    unfold lsN
    rcases hq : fbN d b0 i p gc with _ | h
    · exact ih
    · show min (lsN d gc i p) (d 8 i * h) ≤ _
      omega
theorem ls_le {d : Nat → Nat → Nat} {gc i : Nat} : ∀ {p q h}, q < p → fbN d b0 i q gc = some h → lsN d gc i p ≤ d 8 i * h
  | 0, q, h, e, _ => by omega
  | p + 1, q, h, e, hq => by
    rcases (show q = p ∨ q < p by omega) with h9 | h9
    · subst h9
      unfold lsN
      rw [hq]
      exact Nat.min_le_right _ _
    · have ih := ls_le h9 hq
      unfold lsN
      rcases hr : fbN d b0 i p gc with _ | h2
      · exact ih
      · show min (lsN d gc i p) (d 8 i * h2) ≤ _
        omega
theorem fs_le (d : Nat → Nat → Nat) (gc pc : Nat) : ∀ f i b, fsN d gc pc f i ≤ opt d gc pc f i b
  | 0, _, _ => Nat.le_refl _
  | f + 1, i, b => by
    obtain ⟨c, o, hh, b', q1, q2, q3, -, -⟩ := bs_spec d gc pc f i b
    have e1 : opt d gc pc (f + 1) i b = o + opt d gc pc f (i + 1) b' := by
      show (bs d gc pc (f + 1) i b).1 = _
      rw [q3]
    rw [e1]
    have ih := fs_le d gc pc f (i + 1) b'
    have h1 : lsN d gc i pc ≤ o := by
      unfold wy at q2
      by_cases hc : c = gc * pc
      · rw [if_pos hc] at q2
        injection q2 with q2
        injection q2 with r1 r2
        subst r1
        exact ls_cu pc
      · rw [if_neg hc] at q2
        by_cases ho : okN d b i (c / pc) (c % pc)
        · rw [if_pos ho] at q2
          injection q2 with q2
          injection q2 with r1 r2
          subst r1
          have hlt : c < gc * pc := Nat.lt_of_le_of_ne q1 hc
          have h0 : 0 < pc := Nat.pos_of_ne_zero (fun q => by subst q; simp at hlt)
          have hg : c / pc < gc := Nat.div_lt_of_lt_mul (by rw [Nat.mul_comm]; exact hlt)
          have hz : leB b0 b := fun _ _ => Nat.zero_le _
          obtain ⟨h, k1, k2⟩ := fb_le hg (ok_le hz ho)
          have k3 := ls_le (Nat.mod_lt c h0) k1
          have k4 := hN_le (d := d) hz i (c / pc) (c % pc)
          have k5 : d 8 i * h ≤ d 8 i * hN d b i (c / pc) (c % pc) := Nat.mul_le_mul_left _ (by omega)
          omega
        · rw [if_neg ho] at q2
          exact absurd q2 (by simp)
    show fsN d gc pc f (i + 1) + lsN d gc i pc ≤ _
    omega
