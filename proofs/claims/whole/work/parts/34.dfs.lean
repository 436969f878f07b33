/-! the reference's search, level by level -/
def AtM (p : Program) (l : Launch) (e : Env) (s : State) (m : MethodId) (args : Array Value) (below : List Frame) (meth : Method) (c : Code) (Q : State → Prop) (D : va_G) (cs : Nat → ClassId) (ad : Nat → Nat) (sd : Int64) (pc : Nat) (loc : List (Nat × Value)) (u : Nat → Nat → Int32) : Prop :=
  ∀ (H : Heap) (l1 : List Loc) (ls : Array Slot), va_P D classes (wv 23 ad (fun k => eM cs ad sd k (u k))) H → va_S (aA 23 ad s.heap.size) s.heap H l1 → lv_has ls 5 loc → W p l e (rmx 3 0) s m args below meth c H l1 0 0 Q (F0 m pc ls [])
abbrev Lc (ad : Nat → Nat) (gc pc i : Nat) : List (Nat × Value) := [(0, .ref (ad 0)), (1, .int (nI (gc * pc))), (2, .int (nI i))]
def SI (d : Nat → Nat → Nat) (gc pc rc : Nat) (u : Nat → Nat → Int32) (i : Nat) (b : Nat → Nat → Nat) (C : Nat) (L0 : List (Nat × Int32)) (q : Option (Nat × List (Nat × Int32))) : Prop :=
  MR u d gc pc rc ∧ LB u i b C ∧ BB b ∧ C ≤ i * 1168000 ∧ CE u 0 L0 ∧ L0.length = i ∧ BQ u q
theorem SI.of {d : Nat → Nat → Nat} {gc pc rc : Nat} {u u' : Nat → Nat → Int32} {i : Nat} {b : Nat → Nat → Nat} {C : Nat} {L0 : List (Nat × Int32)} {q q' : Option (Nat × List (Nat × Int32))} (h : SI d gc pc rc u i b C L0 q) (hk : KM u' u) (hl : LO u' u i) (hq : BQ u' q') : SI d gc pc rc u' i b C L0 q' :=
  ⟨h.1.of hk, h.2.1.of hl, h.2.2.1, h.2.2.2.1, CE_of hl.1 L0 0 (by rw [h.2.2.2.2.2.1]; omega) h.2.2.2.2.1, h.2.2.2.2.2.1, hq⟩
theorem LO_rf (u : Nat → Nat → Int32) (i : Nat) : LO u u i := ⟨fun _ _ => ⟨rfl, rfl⟩, fun _ _ => rfl, fun _ _ => rfl, fun _ _ => rfl⟩
theorem KM_rf (u : Nat → Nat → Int32) : KM u u := fun _ _ _ _ => rfl
theorem pick_n (q : Option (Nat × List (Nat × Int32))) : pick q none = q := by rcases q with _ | q <;> rfl
theorem bF_top (d : Nat → Nat → Nat) (gc pc f i : Nat) (b : Nat → Nat → Nat) : bF (bs d gc pc f (i + 1)) d gc pc i b (gc * pc + 1) = some (bs d gc pc (f + 1) i b) := by
  obtain ⟨c, o, h, b', -, -, -, hb, -, -⟩ := bF_spec (bs d gc pc f (i + 1)) d gc pc i b (gc * pc) (Nat.le_refl _)
  show _ = some ((bF (bs d gc pc f (i + 1)) d gc pc i b (gc * pc + 1)).getD (0, []))
  rw [hb]
  rfl
section Dfs
variable {p : Program} {l : Launch} {e : Env} {s : State} {m : MethodId} {args : Array Value} {below : List Frame} {meth : Method} {c : Code} {Q : State → Prop} {D : va_G} {cs : Nat → ClassId} {ad : Nat → Nat} {sd : Int64} {d : Nat → Nat → Nat} {gc pc rc : Nat}
theorem dfs_leaf (K : Dx p l m meth c b_M_plan 5 (some .int) s args "WearHoursModel" D cs ad) (hr5 : rc ≤ 5) {u : Nat → Nat → Int32} {b : Nat → Nat → Nat} {C : Nat} {L0 : List (Nat × Int32)} {q : Option (Nat × List (Nat × Int32))} (h : SI d gc pc rc u rc b C L0 q)
    (k : ∀ u', KM u' u → LO u' u rc → BQ u' (pick q (some (C, L0))) → AtM p l e s m args below meth c Q D cs ad sd 131 (Lc ad gc pc rc) u') : AtM p l e s m args below meth c Q D cs ad sd 77 (Lc ad gc pc rc) u := by
  obtain ⟨hM, hL, hB, hC, hCE, hlen, hq⟩ := h
  have hCb : C ≤ 5840000 := by
    have : rc * 1168000 ≤ 5 * 1168000 := Nat.mul_le_mul_right _ hr5
    omega
  refine pl_leaf K hM.2.2.2.2.2.2.2 hr5 (fun H l1 ls hP hS hl => ?_)
  have kb : KM (bsM u rc rc) u := by
    intro a j ha hj
    unfold bsM
    rw [if_neg (by omega), if_neg (by omega), if_neg (by omega), if_neg (by omega)]
  have lb : LO (bsM u rc rc) u rc := by
    have er : ∀ a, 18 ≤ a → bsM u rc rc a = u a := fun a ha => by
      funext j
      unfold bsM
      rw [if_neg (by omega), if_neg (by omega), if_neg (by omega), if_neg (by omega)]
    exact ⟨fun k _ => ⟨by rw [er _ (by decide)], by rw [er _ (by decide)]⟩, fun k _ => by rw [er _ (by decide)], fun k _ => by rw [er _ (by decide)], fun k _ => by rw [er _ (by decide)]⟩
  have hb : BQ (bsM u rc rc) (some (C, L0)) := by
    refine ⟨?_, ?_, hCb, ME_bs L0 0 (by omega) hCE⟩
    · unfold bsM; simp
    · show bsM u rc rc 0 24 = nI C
      rw [← hL.2.2]
      unfold bsM
      simp
  by_cases hc : u 0 23 = 0 ∨ ¬ u 0 24 ≤ u 20 rc
  · rw [if_pos hc] at hP
    refine k _ kb lb ?_ H l1 ls hP hS hl
    rcases q with _ | x
    · exact hb
    · have h1 : u 0 23 = 1 := hq.1
      have h2 : x.1 ≤ 5840000 := hq.2.2.1
      rcases hc with hc | hc
      · rw [h1] at hc
        exact absurd hc (by decide)
      · rw [hq.2.1, hL.2.2, nI_leI (by omega) (by omega)] at hc
        show BQ _ (if C < x.1 then some (C, L0) else some x)
        rw [if_pos (by omega)]
        exact hb
  · rw [if_neg hc] at hP
    refine k _ (KM_rf u) (LO_rf u rc) ?_ H l1 ls hP hS hl
    rcases q with _ | x
    · exact absurd (Or.inl hq) hc
    · have h2 : x.1 ≤ 5840000 := hq.2.2.1
      have h3 : u 0 24 ≤ u 20 rc := Decidable.of_not_not (fun h => hc (Or.inr h))
      rw [hq.2.1, hL.2.2, nI_leI (by omega) (by omega)] at h3
      show BQ _ (if C < x.1 then some (C, L0) else some x)
      rw [if_neg (by omega)]
      exact hq
set_option maxHeartbeats 4000000 in
theorem dfs_in (K : Dx p l m meth c b_M_plan 5 (some .int) s args "WearHoursModel" D cs ad) (hD : DB d gc pc rc) (hg6 : gc ≤ 6) (hp4 : pc ≤ 4) (hr5 : rc ≤ 5) {i j : Nat} (hij : i + (j + 1) = rc)
    (IH : ∀ (u : Nat → Nat → Int32) b C L0 q, SI d gc pc rc u (i + 1) b C L0 q → (0 < j → u 21 (i + 1) = nI 0) → (∀ u', KM u' u → LO u' u (i + 1) → BQ u' (pick q (some (C + opt d gc pc j (i + 1) b, L0 ++ (bs d gc pc j (i + 1) b).2))) → AtM p l e s m args below meth c Q D cs ad sd 131 (Lc ad gc pc (i + 1)) u') → AtM p l e s m args below meth c Q D cs ad sd 77 (Lc ad gc pc (i + 1)) u)
    {b : Nat → Nat → Nat} {C : Nat} {L0 : List (Nat × Int32)} : ∀ k, k ≤ gc * pc + 1 → ∀ (u : Nat → Nat → Int32) q, SI d gc pc rc u i b C L0 q → u 21 i = nI (gc * pc + 1 - k) →
      (∀ u', KM u' u → LO u' u i → BQ u' (pick q (shf C L0 (bF (bs d gc pc j (i + 1)) d gc pc i b k))) → AtM p l e s m args below meth c Q D cs ad sd 131 (Lc ad gc pc i) u') → AtM p l e s m args below meth c Q D cs ad sd 77 (Lc ad gc pc i) u := by
  have hi : i < rc := by omega
  intro k
  induction k with
  | zero =>
    intro _ u q h hc kk
    have hM := h.1
    have ht := hD.2.2.1 i hi
    refine pl_step (t := d 5 i) K hM.2.2.2.2.2.2.2 hr5 hi hM.2.2.2.2.2.2.1 hp4 hg6 hc (by omega) (hM.2.2.1 i hi).1 ht.1 (fun _ => ?_) (fun h1 => absurd h1 (by omega)) (fun h1 => absurd h1 (by omega)) (fun h1 => absurd h1 (by omega))
    refine kk u (KM_rf u) (LO_rf u i) ?_
    show BQ u (pick q none)
    rw [pick_n]
    exact h.2.2.2.2.2.2
  | succ k ih =>
    intro hk u q h hc kk
    have hM := h.1
    have hL := h.2.1
    have hB := h.2.2.1
    have hq := h.2.2.2.2.2.2
    have ht := hD.2.2.1 i hi
    have hch : gc * pc + 1 - (k + 1) = gc * pc - k := by omega
    rw [hch] at hc
    have o1 : gc * pc - k ≤ gc * pc + 1 := by omega
    have o2 : ¬ gc * pc < gc * pc - k := by omega
    have o3 : gc * pc - k + 1 = gc * pc + 1 - k := by omega
    have o4 : k ≤ gc * pc + 1 := by omega
    have hbF : bF (bs d gc pc j (i + 1)) d gc pc i b (k + 1) = pick (one (bs d gc pc j (i + 1)) d gc pc i b (gc * pc - k)) (bF (bs d gc pc j (i + 1)) d gc pc i b k) := rfl
    rw [hbF] at kk
    rcases hw : wy d gc pc i b (gc * pc - k) with _ | ⟨o, hh, b'⟩
    · obtain ⟨hlt, hhr⟩ := hrM_none hD hM hB hg6 hp4 hL hi (by omega) hw
      have hno : ¬ (gc * pc - k = gc * pc ∨ 0 ≤ hrM u i (gc * pc - k) gc pc (d 5 i)) := by
        rw [hhr]
        intro q9
        rcases q9 with q9 | q9
        · omega
        · exact absurd q9 (by decide)
      have hone : one (bs d gc pc j (i + 1)) d gc pc i b (gc * pc - k) = none := by simp [one, hw]
      rw [hone] at kk
      refine pl_step (t := d 5 i) K hM.2.2.2.2.2.2.2 hr5 hi hM.2.2.2.2.2.2.1 hp4 hg6 hc (by omega) (hM.2.2.1 i hi).1 ht.1 (fun h1 => absurd h1 (by omega)) (fun _ _ => ?_) (fun _ h1 => absurd h1 hno) (fun _ h1 => absurd h1 hno)
      have hK1 : KM (u2 (u2 u 22 i (hrM u i (gc * pc - k) gc pc (d 5 i))) 21 i (nI (gc * pc - k + 1))) u := KM_r (fun a ha => by rw [u2_ne (by omega), u2_ne (by omega)])
      have hL1 : LO (u2 (u2 u 22 i (hrM u i (gc * pc - k) gc pc (d 5 i))) 21 i (nI (gc * pc - k + 1))) u i := ⟨fun x hx => ⟨by rw [u2_at, if_neg (by omega), u2_ne (by decide)], by rw [u2_ne (by decide), u2_at, if_neg (by omega)]⟩, fun x hx => by rw [u2_ne (by decide), u2_ne (by decide)], fun x hx => by rw [u2_ne (by decide), u2_ne (by decide)], fun x hx => by rw [u2_ne (by decide), u2_ne (by decide)]⟩
      refine ih (by omega) _ q (h.of hK1 hL1 (BQ_of (by rw [u2_ne (by decide), u2_ne (by decide)]) (by rw [u2_ne (by decide), u2_ne (by decide)]) (by rw [u2_ne (by decide), u2_ne (by decide)]) (by rw [u2_ne (by decide), u2_ne (by decide)]) hq)) (by rw [u2_eq, o3]) (fun u' a1 a2 a3 => kk u' (a1.tr hK1) (a2.tr hL1) a3)
    · obtain ⟨hhr, hob, hBB, hx⟩ := hrM_some hD hM hB hg6 hp4 hL hi (by omega) hw
      have hone : one (bs d gc pc j (i + 1)) d gc pc i b (gc * pc - k) = some (o + opt d gc pc j (i + 1) b', (gc * pc - k, hh) :: (bs d gc pc j (i + 1) b').2) := by simp [one, hw]
      rw [hone, shf_pick] at kk
      have hx2 : (hh = -1 ∧ o = cuN d i ∧ b' = b) ∨ (0 < pc ∧ ∃ x, x ≤ 168 ∧ hh = nI x ∧ o = d 8 i * x ∧ b' = ocN d b i ((gc * pc - k) % pc) x) := by
        rcases hx with ⟨_, h1, h2, h3⟩ | ⟨h0, h1⟩
        · exact Or.inl ⟨h1, h2, h3⟩
        · exact Or.inr ⟨Nat.pos_of_ne_zero (fun q => by subst q; simp at h0), h1⟩
      have hnn : ¬ (gc * pc - k < gc * pc ∧ hrM u i (gc * pc - k) gc pc (d 5 i) < 0) := by
        rw [hhr]
        intro q9
        rcases hx with ⟨h0, _, _, _⟩ | ⟨_, x, x1, x2, _, _⟩
        · omega
        · rw [x2] at q9
          exact nI_pos (by omega) q9.2
      -- the rows behind take
      have hK2 : KM (u2 u 22 i (hrM u i (gc * pc - k) gc pc (d 5 i))) u := KM_r (fun a ha => by rw [u2_ne (by omega)])
      have hL2 : LO (u2 u 22 i (hrM u i (gc * pc - k) gc pc (d 5 i))) u i := ⟨fun x hx => ⟨by rw [u2_ne (by decide)], by rw [u2_at, if_neg (by omega)]⟩, fun x hx => by rw [u2_ne (by decide)], fun x hx => by rw [u2_ne (by decide)], fun x hx => by rw [u2_ne (by decide)]⟩
      have hTL := tk_LB (ch := gc * pc - k) (C := C) hD (hM.of hK2) hp4 (hL.of hL2) hi hr5 (by rw [u2_eq]; exact hhr) hx2
      have hKT : KM (tkM (u2 u 22 i (hrM u i (gc * pc - k) gc pc (d 5 i))) i (gc * pc - k) pc (d 5 i)) u := (KM_r (fun a ha => by rw [tkM_r (by omega)])).tr hK2
      have hLT : LO (tkM (u2 u 22 i (hrM u i (gc * pc - k) gc pc (d 5 i))) i (gc * pc - k) pc (d 5 i)) u i := (tk_LO _ _ _ _ _).tr hL2
      have hrow : ∀ a, a ≠ 18 → a ≠ 19 → a ≠ 20 → a ≠ 22 → tkM (u2 u 22 i (hrM u i (gc * pc - k) gc pc (d 5 i))) i (gc * pc - k) pc (d 5 i) a = u a := fun a a1 a2 a3 a4 => by rw [tkM_r ⟨a1, a2, a3⟩, u2_ne a4]
      have h22 : tkM (u2 u 22 i (hrM u i (gc * pc - k) gc pc (d 5 i))) i (gc * pc - k) pc (d 5 i) 22 i = hh := by rw [tkM_r (by decide), u2_eq]; exact hhr
      have hCb : C + o ≤ (i + 1) * 1168000 := by rw [Nat.succ_mul]; have := h.2.2.2.1; omega
      have hCb2 : C + o ≤ 5840000 := by
        have : (i + 1) * 1168000 ≤ 5 * 1168000 := Nat.mul_le_mul_right _ (by omega)
        omega
      refine pl_step (t := d 5 i) K hM.2.2.2.2.2.2.2 hr5 hi hM.2.2.2.2.2.2.1 hp4 hg6 hc o1 (hM.2.2.1 i hi).1 ht.1 (fun h1 => absurd h1 o2) (fun h1 h2 => absurd ⟨h1, h2⟩ hnn) (fun _ _ hpl hle => ?_) (fun _ _ _ => ?_)
      · -- no better than the best so far
        have hK1 : KM (u2 (tkM (u2 u 22 i (hrM u i (gc * pc - k) gc pc (d 5 i))) i (gc * pc - k) pc (d 5 i)) 21 i (nI (gc * pc - k + 1))) u := (KM_r (fun a ha => by rw [u2_ne (by omega)])).tr hKT
        have hL1 : LO (u2 (tkM (u2 u 22 i (hrM u i (gc * pc - k) gc pc (d 5 i))) i (gc * pc - k) pc (d 5 i)) 21 i (nI (gc * pc - k + 1))) u i := LO.tr ⟨fun x hx => ⟨by rw [u2_at, if_neg (by omega)], by rw [u2_ne (by decide)]⟩, fun x hx => by rw [u2_ne (by decide)], fun x hx => by rw [u2_ne (by decide)], fun x hx => by rw [u2_ne (by decide)]⟩ hLT
        rw [hrow 0 (by decide) (by decide) (by decide) (by decide)] at hpl hle
        rw [hTL.2.2] at hle
        refine ih o4 _ q (h.of hK1 hL1 (BQ_of (by rw [u2_ne (by decide), hrow 0 (by decide) (by decide) (by decide) (by decide)]) (by rw [u2_ne (by decide), hrow 0 (by decide) (by decide) (by decide) (by decide)]) (by rw [u2_ne (by decide), hrow 16 (by decide) (by decide) (by decide) (by decide)]) (by rw [u2_ne (by decide), hrow 17 (by decide) (by decide) (by decide) (by decide)]) hq)) (by rw [u2_eq, o3]) (fun u' a1 a2 a3 => kk u' (a1.tr hK1) (a2.tr hL1) ?_)
        rcases q with _ | x
        · exact absurd hq hpl
        · have hx1 : x.1 ≤ 5840000 := hq.2.2.1
          rw [hq.2.1, nI_leI (by omega) (by omega)] at hle
          have := pick_no (q := some x) (K := x.1) (L := x.2) (z := shf C L0 (bF (bs d gc pc j (i + 1)) d gc pc i b k)) (x := (C + (o + opt d gc pc j (i + 1) b'), L0 ++ ((gc * pc - k, hh) :: (bs d gc pc j (i + 1) b').2))) rfl (by show x.1 ≤ C + (o + opt d gc pc j (i + 1) b'); omega)
          show BQ u' (pick (some x) (pick (some (C + (o + opt d gc pc j (i + 1) b'), L0 ++ ((gc * pc - k, hh) :: (bs d gc pc j (i + 1) b').2))) _))
          rw [this]
          exact a3
      · -- down
        have hKD : KM (u2 (tkM (u2 u 22 i (hrM u i (gc * pc - k) gc pc (d 5 i))) i (gc * pc - k) pc (d 5 i)) 21 (i + 1) 0) u := (KM_r (fun a ha => by rw [u2_ne (by omega)])).tr hKT
        have hLD : LO (u2 (tkM (u2 u 22 i (hrM u i (gc * pc - k) gc pc (d 5 i))) i (gc * pc - k) pc (d 5 i)) 21 (i + 1) 0) u i := LO.tr ⟨fun x hx => ⟨by rw [u2_at, if_neg (by omega)], by rw [u2_ne (by decide)]⟩, fun x hx => by rw [u2_ne (by decide)], fun x hx => by rw [u2_ne (by decide)], fun x hx => by rw [u2_ne (by decide)]⟩ hLT
        have hBD : BQ (u2 (tkM (u2 u 22 i (hrM u i (gc * pc - k) gc pc (d 5 i))) i (gc * pc - k) pc (d 5 i)) 21 (i + 1) 0) q := BQ_of (by rw [u2_ne (by decide), hrow 0 (by decide) (by decide) (by decide) (by decide)]) (by rw [u2_ne (by decide), hrow 0 (by decide) (by decide) (by decide) (by decide)]) (by rw [u2_ne (by decide), hrow 16 (by decide) (by decide) (by decide) (by decide)]) (by rw [u2_ne (by decide), hrow 17 (by decide) (by decide) (by decide) (by decide)]) hq
        have hD21 : u2 (tkM (u2 u 22 i (hrM u i (gc * pc - k) gc pc (d 5 i))) i (gc * pc - k) pc (d 5 i)) 21 (i + 1) 0 21 i = nI (gc * pc - k) := by rw [u2_at, if_neg (by omega), hrow 21 (by decide) (by decide) (by decide) (by decide)]; exact hc
        refine IH _ b' (C + o) (L0 ++ [(gc * pc - k, hh)]) q ⟨hM.of hKD, ⟨fun x hx => by rw [u2_ne (by decide)]; exact hTL.1 x hx, fun x hx => by rw [u2_ne (by decide)]; exact hTL.2.1 x hx, by rw [u2_ne (by decide)]; exact hTL.2.2⟩, hBB, hCb, ?_, by rw [List.length_append, h.2.2.2.2.2.1]; rfl, hBD⟩ (fun _ => by rw [u2_eq]; rfl) (fun u' a1 a2 a3 => ?_)
        · refine CE_app _ _ L0 0 (CE_of hLD.1 L0 0 (by rw [h.2.2.2.2.2.1]; omega) h.2.2.2.2.1) ?_
          rw [h.2.2.2.2.2.1, Nat.zero_add]
          exact ⟨⟨by rw [u2_ne (by decide)]; exact h22, hD21⟩, trivial⟩
        · refine pl_up (ch := gc * pc - k) K (by omega) (by rw [(a2.1 i (by omega)).1]; exact hD21) ?_
          have hK3 : KM (u2 u' 21 i (nI (gc * pc - k + 1))) u := (KM_r (fun a ha => by rw [u2_ne (by omega)])).tr (a1.tr hKD)
          have hL3 : LO (u2 u' 21 i (nI (gc * pc - k + 1))) u i := LO.tr ⟨fun x hx => ⟨by rw [u2_at, if_neg (by omega)], by rw [u2_ne (by decide)]⟩, fun x hx => by rw [u2_ne (by decide)], fun x hx => by rw [u2_ne (by decide)], fun x hx => by rw [u2_ne (by decide)]⟩ (a2.dn.tr hLD)
          refine ih o4 _ _ (h.of hK3 hL3 (BQ_of (by rw [u2_ne (by decide)]) (by rw [u2_ne (by decide)]) (by rw [u2_ne (by decide)]) (by rw [u2_ne (by decide)]) a3)) (by rw [u2_eq, o3]) (fun u3 b1 b2 b3 => kk u3 (b1.tr hK3) (b2.tr hL3) ?_)
          rw [pick_as] at b3
          rw [show C + o + opt d gc pc j (i + 1) b' = C + (o + opt d gc pc j (i + 1) b') by omega, List.append_assoc] at b3
          exact b3
theorem dfs (K : Dx p l m meth c b_M_plan 5 (some .int) s args "WearHoursModel" D cs ad) (hD : DB d gc pc rc) (hg6 : gc ≤ 6) (hp4 : pc ≤ 4) (hr5 : rc ≤ 5) : ∀ j i, i + j = rc → ∀ (u : Nat → Nat → Int32) b C L0 q, SI d gc pc rc u i b C L0 q → (0 < j → u 21 i = nI 0) →
    (∀ u', KM u' u → LO u' u i → BQ u' (pick q (some (C + opt d gc pc j i b, L0 ++ (bs d gc pc j i b).2))) → AtM p l e s m args below meth c Q D cs ad sd 131 (Lc ad gc pc i) u') → AtM p l e s m args below meth c Q D cs ad sd 77 (Lc ad gc pc i) u
  | 0, i, hij, u, b, C, L0, q, h, _, k => by
    have e : i = rc := hij
    subst e
    refine dfs_leaf K hr5 h (fun u' a1 a2 a3 => k u' a1 a2 ?_)
    have : (some (C + opt d gc pc 0 i b, L0 ++ (bs d gc pc 0 i b).2) : Option (Nat × List (Nat × Int32))) = some (C, L0) := by
      show some (C + 0, L0 ++ []) = some (C, L0)
      rw [List.append_nil]
      rfl
    rw [this]
    exact a3
  | j + 1, i, hij, u, b, C, L0, q, h, h0, k => by
    refine dfs_in K hD hg6 hp4 hr5 hij (fun u b C L0 q a1 a2 a3 => dfs K hD hg6 hp4 hr5 j (i + 1) (by omega) u b C L0 q a1 a2 a3) (gc * pc + 1) (Nat.le_refl _) u q h (by rw [Nat.sub_self]; exact h0 (by omega)) (fun u' a1 a2 a3 => k u' a1 a2 ?_)
    rw [bF_top] at a3
    exact a3
end Dfs
