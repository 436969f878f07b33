/-! each call's two answers agree: the week and its plan -/
theorem hr_nat {x y : Int32} (h : hrZ x y) : ∃ X Y, X ≤ 168 ∧ Y ≤ 168 ∧ x = nI X ∧ y = nI Y := by
  obtain ⟨h1, h2, h3⟩ := h
  obtain ⟨X, X1, rfl⟩ := nI_of h1
  have h4 : ¬ y < 0 := fun q => h1 (by
    rw [Int32.lt_iff_toInt_lt] at q h3 ⊢
    omega)
  obtain ⟨Y, Y1, rfl⟩ := nI_of h4
  have h5 : ¬ 168 < Y := fun q => h2 (nI_lt (a := 168) q Y1)
  have h6 := (nI_ltI X1 Y1).mp h3
  exact ⟨X, Y, by omega, by omega, rfl, rfl⟩
theorem sk_nat {x : Int32} (h : ¬ x < 0 ∧ x < 4) : ∃ X, X < 4 ∧ x = nI X := by
  obtain ⟨X, X1, rfl⟩ := nI_of h.1
  exact ⟨X, (nI_ltI (b := 4) X1 (by decide)).mp h.2, rfl⟩
section Match3
variable {v u v' u' : Nat → Nat → Int32} {sd sd' sd2 : Int64} {tc gc pc rc : Nat} {d : Nat → Nat → Nat} {x y z w k : Int32} {r b : Option Value}
theorem m_gap (h : RA v u tc d gc pc rc) (hc : Zo (qW_gap v sd gc x y) (xW_gap v gc x y) [(sIAE, 1), (sUOE, 2)] v sd k r v' sd') (hm : qM_gap u sd gc x y b u' sd2) : Ag k r b v' u' sd' sd2 := by
  rcases hc with ⟨rfl, ho, hlt, rfl, rfl, rfl⟩ | ⟨cls, hx, hmem, rfl, rfl⟩
  · rcases hm with ⟨_, _, rfl, rfl, rfl⟩ | ⟨hn, _⟩ | ⟨_, hn, _⟩
    · obtain ⟨hT, hS, ⟨p0, p1, p2, ⟨d1, d2, d3, d4, d5⟩, ⟨c1, c2, c3, c4, c5⟩, ⟨m1, m2, m3, m4, m5, m6, m7, m8⟩, ⟨n1, n2, n3⟩, p7⟩, hN⟩ := h
      obtain ⟨X, Y, X1, Y1, rfl, rfl⟩ := hr_nat ho
      refine ⟨by simp [u2_at], fun _ => by rw [n1, nI_1], rfl, tc, (fun k j => if k = 0 ∧ j = gc then X else if k = 1 ∧ j = gc then Y else d k j), gc + 1, pc, rc, ?_, ?_, ⟨by omega, p1, p2, ⟨fun g hg => ?_, fun p hp => ?_, fun i hi => ?_, ?_, ?_⟩, ⟨fun g hg => ?_, fun p hp => ?_, fun i hi => ?_, ?_, ?_⟩, ⟨fun g hg => ?_, fun p hp => ?_, fun i hi => ?_, ?_, ?_, ?_, ?_, ?_⟩, ⟨?_, ?_, ?_⟩, fun i hi => ?_⟩, Or.inl ⟨u2_eq _ _ _ _, u2_eq _ _ _ _⟩⟩
      · exact RT_of hT (fun a j q => by rw [u2_ne (by omega), u2_ne (by omega), u2_ne (by omega), u2_ne (by omega)]) (fun a j q => by rw [u2_at, if_neg (by omega), u2_at, if_neg (by omega), u2_ne (by omega), u2_ne (by omega), u00 _ (by omega)])
      · exact RS_of hS (by rw [u2_ne (by omega), u2_ne (by omega), u2_ne (by omega), u2_ne (by omega)]) (by rw [u2_ne (by omega), u2_ne (by omega), u2_ne (by omega), u2_ne (by omega), u2_ne (by omega)])
      · by_cases e : g = gc
        · simp [e]; omega
        · simp [e]; exact d1 g (by omega)
      · simpa using d2 p hp
      · simpa using d3 i hi
      · simpa using d4
      · simpa using d5
      · by_cases e : g = gc
        · subst e
          simp [u2_at]
          omega
        · have e1 : ∀ j, u2 (u2 (u2 (u2 v (21 + gc) 0 (nI X)) (21 + gc) 1 (nI Y)) 19 1 (v 19 1 + 1)) 38 4 0 (21 + g) j = v (21 + g) j := fun j => by rw [u2_ne (by omega), u2_ne (by omega), u2_ne (by omega), u2_ne (by omega)]
          rw [e1, e1]
          simpa [e] using c1 g (by omega)
      · have e1 : ∀ j, u2 (u2 (u2 (u2 v (21 + gc) 0 (nI X)) (21 + gc) 1 (nI Y)) 19 1 (v 19 1 + 1)) 38 4 0 (28 + p) j = v (28 + p) j := fun j => by rw [u2_ne (by omega), u2_ne (by omega), u2_ne (by omega), u2_ne (by omega)]
        rw [e1, e1, e1]
        simpa using c2 p hp
      · have e1 : ∀ j, u2 (u2 (u2 (u2 v (21 + gc) 0 (nI X)) (21 + gc) 1 (nI Y)) 19 1 (v 19 1 + 1)) 38 4 0 (33 + i) j = v (33 + i) j := fun j => by rw [u2_ne (by omega), u2_ne (by omega), u2_ne (by omega), u2_ne (by omega)]
        rw [e1, e1, e1, e1]
        simpa using c3 i hi
      · rw [u2_ne (by omega), u2_at, if_neg (by omega), u2_ne (by omega), u2_ne (by omega)]; simpa using c4
      · rw [u2_ne (by omega), u2_at, if_neg (by omega), u2_ne (by omega), u2_ne (by omega)]; simpa using c5
      · by_cases e : g = gc
        · subst e; simp [u2_at]
        · simp only [u2_at]
          simpa [e] using m1 g (by omega)
      · simp only [u2_at]; simpa using m2 p hp
      · simp only [u2_at]; simpa using m3 i hi
      · simp only [u2_at]; simpa using m4
      · simp only [u2_at]; simpa using m5
      · simp [u2_at]
      · simp only [u2_at]; simpa using m7
      · simp only [u2_at]; simpa using m8
      · rw [u2_ne (by omega), u2_eq, n1, nI_1]
      · rw [u2_ne (by omega), u2_at, if_neg (by omega), u2_ne (by omega), u2_ne (by omega)]; exact n2
      · rw [u2_ne (by omega), u2_at, if_neg (by omega), u2_ne (by omega), u2_ne (by omega)]; exact n3
      · simpa using p7 i hi
    · exact absurd ho hn
    · exact absurd hlt hn
  · rcases hx with ⟨hx, rfl⟩ | ⟨hx, hx2, rfl⟩
    · have hk : k = 1 := by simpa [sIAE, sUOE, sIOE, sISE] using hmem
      subst hk
      rcases hm with ⟨hn, _⟩ | ⟨_, rfl, rfl, rfl⟩ | ⟨hn, _⟩
      · exact absurd hn hx
      · exact ⟨u2_eq _ _ _ _, fun q => absurd q (by decide), rfl, h.o 1⟩
      · exact absurd hn hx
    · have hk : k = 2 := by simpa [sIAE, sUOE, sIOE, sISE] using hmem
      subst hk
      rcases hm with ⟨_, hn, _⟩ | ⟨hn, _⟩ | ⟨_, _, rfl, rfl, rfl⟩
      · exact absurd hn hx2
      · exact absurd hx hn
      · exact ⟨u2_eq _ _ _ _, fun q => absurd q (by decide), rfl, h.o 2⟩
theorem m_person (h : RA v u tc d gc pc rc) (hc : Zo (qW_person v sd pc x y z) (xW_person v pc x y z) [(sIAE, 1), (sUOE, 2)] v sd k r v' sd') (hm : qM_person u sd pc x y z b u' sd2) : Ag k r b v' u' sd' sd2 := by
  have hw := wth_up (x := x) (n := 3) (by decide)
  rcases hc with ⟨rfl, ⟨hs, ho⟩, hlt, rfl, rfl, rfl⟩ | ⟨cls, hx, hmem, rfl, rfl⟩
  · rcases hm with ⟨_, _, rfl, rfl, rfl⟩ | ⟨hn, _⟩ | ⟨_, hn, _⟩
    · obtain ⟨hT, hS, ⟨p0, p1, p2, ⟨d1, d2, d3, d4, d5⟩, ⟨c1, c2, c3, c4, c5⟩, ⟨m1, m2, m3, m4, m5, m6, m7, m8⟩, ⟨n1, n2, n3⟩, p7⟩, hN⟩ := h
      obtain ⟨X, Y, X1, Y1, rfl, rfl⟩ := hr_nat ho
      obtain ⟨Z, Z1, rfl⟩ := sk_nat hs
      refine ⟨by simp [u2_at], fun _ => by rw [n2, nI_1, nI_pred], rfl, tc, (fun k j => if k = 2 ∧ j = pc then Z else if k = 3 ∧ j = pc then X else if k = 4 ∧ j = pc then Y else d k j), gc, pc + 1, rc, ?_, ?_, ⟨p0, by omega, p2, ⟨fun g hg => ?_, fun p hp => ?_, fun i hi => ?_, ?_, ?_⟩, ⟨fun g hg => ?_, fun p hp => ?_, fun i hi => ?_, ?_, ?_⟩, ⟨fun g hg => ?_, fun p hp => ?_, fun i hi => ?_, ?_, ?_, ?_, ?_, ?_⟩, ⟨?_, ?_, ?_⟩, fun i hi => ?_⟩, Or.inl ⟨u2_eq _ _ _ _, u2_eq _ _ _ _⟩⟩
      · exact RT_of hT (fun a j q => by rw [u2_ne (by omega), u2_ne (by omega), u2_ne (by omega), u2_ne (by omega), u2_ne (by omega)]) (fun a j q => by rw [u2_at, if_neg (by omega), u2_at, if_neg (by omega), u2_ne (by omega), u2_ne (by omega), u2_ne (by omega), u00 _ (by omega)])
      · exact RS_of hS (by rw [u2_ne (by omega), u2_ne (by omega), u2_ne (by omega), u2_ne (by omega), u2_ne (by omega)]) (by rw [u2_ne (by omega), u2_ne (by omega), u2_ne (by omega), u2_ne (by omega), u2_ne (by omega), u2_ne (by omega)])
      · simpa using d1 g hg
      · by_cases e : p = pc
        · simp [e]; omega
        · simp [e]; exact d2 p (by omega)
      · simpa using d3 i hi
      · simpa using d4
      · simpa using d5
      · have e1 : ∀ j, u2 (u2 (u2 (u2 (u2 v (28 + pc) 0 (nI Z)) (28 + pc) 1 (nI X)) (28 + pc) 2 (nI Y)) 19 3 (v 19 3 + 1)) 38 4 0 (21 + g) j = v (21 + g) j := fun j => by rw [u2_ne (by omega), u2_ne (by omega), u2_ne (by omega), u2_ne (by omega), u2_ne (by omega)]
        rw [e1, e1]
        simpa using c1 g hg
      · by_cases e : p = pc
        · subst e; simp [u2_at]
        · have e1 : ∀ j, u2 (u2 (u2 (u2 (u2 v (28 + pc) 0 (nI Z)) (28 + pc) 1 (nI X)) (28 + pc) 2 (nI Y)) 19 3 (v 19 3 + 1)) 38 4 0 (28 + p) j = v (28 + p) j := fun j => by rw [u2_ne (by omega), u2_ne (by omega), u2_ne (by omega), u2_ne (by omega), u2_ne (by omega)]
          rw [e1, e1, e1]
          simpa [e] using c2 p (by omega)
      · have e1 : ∀ j, u2 (u2 (u2 (u2 (u2 v (28 + pc) 0 (nI Z)) (28 + pc) 1 (nI X)) (28 + pc) 2 (nI Y)) 19 3 (v 19 3 + 1)) 38 4 0 (33 + i) j = v (33 + i) j := fun j => by rw [u2_ne (by omega), u2_ne (by omega), u2_ne (by omega), u2_ne (by omega), u2_ne (by omega)]
        rw [e1, e1, e1, e1]
        simpa using c3 i hi
      · rw [u2_ne (by omega), u2_at, if_neg (by omega), u2_ne (by omega), u2_ne (by omega), u2_ne (by omega)]; simpa using c4
      · rw [u2_ne (by omega), u2_at, if_neg (by omega), u2_ne (by omega), u2_ne (by omega), u2_ne (by omega)]; simpa using c5
      · simp only [u2_at]; simpa using m1 g hg
      · by_cases e : p = pc
        · subst e; simp [u2_at]
        · simp only [u2_at]
          simpa [e] using m2 p (by omega)
      · simp only [u2_at]; simpa using m3 i hi
      · simp only [u2_at]; simpa using m4
      · simp only [u2_at]; simpa using m5
      · simp only [u2_at]; simpa using m6
      · simp [u2_at]
      · simp only [u2_at]; simpa using m8
      · rw [u2_ne (by omega), u2_at, if_neg (by omega), u2_ne (by omega), u2_ne (by omega), u2_ne (by omega)]; exact n1
      · rw [u2_ne (by omega), u2_eq, n2, nI_1]
      · rw [u2_ne (by omega), u2_at, if_neg (by omega), u2_ne (by omega), u2_ne (by omega), u2_ne (by omega)]; exact n3
      · simpa using p7 i hi
    · exact absurd ⟨hw.mpr hs, ho⟩ hn
    · exact absurd hlt hn
  · rcases hx with ⟨hx, rfl⟩ | ⟨hx, hx2, rfl⟩
    · have hk : k = 1 := by simpa [sIAE, sUOE, sIOE, sISE] using hmem
      subst hk
      rcases hm with ⟨hn, _⟩ | ⟨_, rfl, rfl, rfl⟩ | ⟨hn, _⟩
      · exact absurd ⟨hw.mp hn.1, hn.2⟩ hx
      · exact ⟨u2_eq _ _ _ _, fun q => absurd q (by decide), rfl, h.o 1⟩
      · exact absurd ⟨hw.mp hn.1, hn.2⟩ hx
    · have hk : k = 2 := by simpa [sIAE, sUOE, sIOE, sISE] using hmem
      subst hk
      rcases hm with ⟨_, hn, _⟩ | ⟨hn, _⟩ | ⟨_, _, rfl, rfl, rfl⟩
      · exact absurd hn hx2
      · exact absurd ⟨hw.mpr hx.1, hx.2⟩ hn
      · exact ⟨u2_eq _ _ _ _, fun q => absurd q (by decide), rfl, h.o 2⟩
theorem m_repair (h : RA v u tc d gc pc rc) (hc : Zo (qW_repair v sd tc rc x y z w) (xW_repair v tc rc x y z w) [(sIOE, 1), (sIAE, 2), (sUOE, 3)] v sd k r v' sd') (hm : qM_repair u sd tc rc x y z w b u' sd2) : Ag k r b v' u' sd' sd2 := by
  have hw := wth_up (x := z) (n := 3) (by decide)
  have ht8 := h.1.1
  rcases hc with ⟨rfl, i0, hi0, rfl, ⟨hs, ho1, ho2⟩, hlt, rfl, rfl, rfl⟩ | ⟨cls, hx, hmem, rfl, rfl⟩
  · rcases hm with ⟨j0, hj0, e, _, _, rfl, rfl, rfl⟩ | ⟨hn, _⟩ | ⟨_, hn, _⟩ | ⟨_, _, hn, _⟩
    · have e := ix_eq ht8 hi0 hj0 e
      subst e
      obtain ⟨hT, hS, ⟨p0, p1, p2, ⟨d1, d2, d3, d4, d5⟩, ⟨c1, c2, c3, c4, c5⟩, ⟨m1, m2, m3, m4, m5, m6, m7, m8⟩, ⟨n1, n2, n3⟩, p7⟩, hN⟩ := h
      obtain ⟨Y, Y0, Y1, rfl⟩ := wth_nat (a := 1) (b := 24) (by decide) (by decide) ho1
      obtain ⟨V, V0, V1, rfl⟩ := wth_nat (a := 0) (b := 1000) (by decide) (by decide) ho2
      obtain ⟨Z, Z1, rfl⟩ := sk_nat hs
      refine ⟨by simp [u2_at], fun _ => by rw [n3, nI_1, nI_pred], rfl, tc, (fun k j => if k = 5 ∧ j = rc then j0 else if k = 6 ∧ j = rc then Y else if k = 7 ∧ j = rc then Z else if k = 8 ∧ j = rc then V else d k j), gc, pc, rc + 1, ?_, ?_, ⟨p0, p1, by omega, ⟨fun g hg => ?_, fun p hp => ?_, fun i hi => ?_, ?_, ?_⟩, ⟨fun g hg => ?_, fun p hp => ?_, fun i hi => ?_, ?_, ?_⟩, ⟨fun g hg => ?_, fun p hp => ?_, fun i hi => ?_, ?_, ?_, ?_, ?_, ?_⟩, ⟨?_, ?_, ?_⟩, fun i hi => ?_⟩, Or.inl ⟨u2_eq _ _ _ _, u2_eq _ _ _ _⟩⟩
      · exact RT_of hT (fun a j q => by simp only [u2_at]; repeat rw [if_neg (by omega)]) (fun a j q => by simp only [u2_at]; repeat rw [if_neg (by omega)])
      · exact RS_of hS (by funext j; simp only [u2_at]; repeat rw [if_neg (by omega)]) (by funext j; simp only [u2_at]; repeat rw [if_neg (by omega)])
      · simpa using d1 g hg
      · simpa using d2 p hp
      · by_cases e : i = rc
        · simp [e]; omega
        · simp [e]; exact d3 i (by omega)
      · simpa using d4
      · simpa using d5
      · simp only [u2_at]
        repeat rw [if_neg (show ¬ (21 + g = 38 ∧ _) by omega)]
        have := c1 g hg
        simp only [show ∀ q, ¬ (21 + g = 33 + rc ∧ q) from fun q z => by omega, show ∀ q, ¬ (21 + g = 19 ∧ q) from fun q z => by omega, show ∀ q, ¬ (21 + g = 38 ∧ q) from fun q z => by omega, if_false]
        simpa using this
      · have := c2 p hp
        simp only [u2_at, show ∀ q, ¬ (28 + p = 33 + rc ∧ q) from fun q z => by omega, show ∀ q, ¬ (28 + p = 19 ∧ q) from fun q z => by omega, show ∀ q, ¬ (28 + p = 38 ∧ q) from fun q z => by omega, if_false]
        simpa using this
      · by_cases e : i = rc
        · subst e
          simp only [u2_at, show ∀ q, ¬ (33 + i = 19 ∧ q) from fun q z => by omega, show ∀ q, ¬ (33 + i = 38 ∧ q) from fun q z => by omega, if_false]
          simp
        · have := c3 i (by omega)
          simp only [u2_at, show ∀ q, ¬ (33 + i = 33 + rc ∧ q) from fun q z => by omega, show ∀ q, ¬ (33 + i = 19 ∧ q) from fun q z => by omega, show ∀ q, ¬ (33 + i = 38 ∧ q) from fun q z => by omega, if_false]
          simpa [e] using this
      · simp only [u2_at, show ∀ q, ¬ (19 = 33 + rc ∧ q) from fun q z => by omega, if_false]; simpa using c4
      · simp only [u2_at, show ∀ q, ¬ (19 = 33 + rc ∧ q) from fun q z => by omega, if_false]; simpa using c5
      · simp only [u2_at]; simpa using m1 g hg
      · simp only [u2_at]; simpa using m2 p hp
      · by_cases e : i = rc
        · subst e; simp [u2_at]
        · simp only [u2_at]
          simpa [e] using m3 i (by omega)
      · simp only [u2_at]; simpa using m4
      · simp only [u2_at]; simpa using m5
      · simp only [u2_at]; simpa using m6
      · simp only [u2_at]; simpa using m7
      · simp [u2_at]
      · simp only [u2_at, show ∀ q, ¬ (19 = 33 + rc ∧ q) from fun q z => by omega, if_false]; simpa using n1
      · simp only [u2_at, show ∀ q, ¬ (19 = 33 + rc ∧ q) from fun q z => by omega, if_false]; simpa using n2
      · rw [u2_ne (by omega), u2_eq, n3, nI_1]
      · by_cases e : i = rc
        · simp [e]; exact hi0
        · simpa [e] using p7 i (by omega)
    · exact absurd ⟨i0, hi0, rfl⟩ hn
    · exact absurd ⟨ho1, hw.mpr hs, ho2⟩ hn
    · exact absurd hlt hn
  · rcases hx with ⟨hx, rfl⟩ | ⟨hx, hx2, rfl⟩ | ⟨hx, hx2, hx3, rfl⟩
    · have hk : k = 1 := by simpa [sIAE, sUOE, sIOE, sISE] using hmem
      subst hk
      rcases hm with ⟨j, hj, e, _⟩ | ⟨_, rfl, rfl, rfl⟩ | ⟨hn, _⟩ | ⟨hn, _⟩
      · exact absurd ⟨j, hj, e⟩ hx
      · exact ⟨u2_eq _ _ _ _, fun q => absurd q (by decide), rfl, h.o 1⟩
      · exact absurd hn hx
      · exact absurd hn hx
    · have hk : k = 2 := by simpa [sIAE, sUOE, sIOE, sISE] using hmem
      subst hk
      rcases hm with ⟨_, _, _, hn, _⟩ | ⟨hn, _⟩ | ⟨_, _, rfl, rfl, rfl⟩ | ⟨_, hn, _⟩
      · exact absurd ⟨hw.mp hn.2.1, hn.1, hn.2.2⟩ hx2
      · exact absurd hx hn
      · exact ⟨u2_eq _ _ _ _, fun q => absurd q (by decide), rfl, h.o 2⟩
      · exact absurd ⟨hw.mp hn.2.1, hn.1, hn.2.2⟩ hx2
    · have hk : k = 3 := by simpa [sIAE, sUOE, sIOE, sISE] using hmem
      subst hk
      rcases hm with ⟨_, _, _, _, hn, _⟩ | ⟨hn, _⟩ | ⟨_, hn, _⟩ | ⟨_, _, _, rfl, rfl, rfl⟩
      · exact absurd hn hx3
      · exact absurd hx hn
      · exact absurd ⟨hx2.2.1, hw.mpr hx2.1, hx2.2.2⟩ hn
      · exact ⟨u2_eq _ _ _ _, fun q => absurd q (by decide), rfl, h.o 3⟩
theorem m_rules (h : RA v u tc d gc pc rc) (hc : Zo (qW_rules v sd x y) (xW_rules v x y) [(sIAE, 1)] v sd k r v' sd') (hm : qM_rules u sd x y b u' sd2) : Ag k r b v' u' sd' sd2 := by
  rcases hc with ⟨rfl, ⟨ho1, ho2⟩, rfl, rfl, rfl⟩ | ⟨cls, ⟨hx, rfl⟩, hmem, rfl, rfl⟩
  · rcases hm with ⟨_, rfl, rfl, rfl⟩ | ⟨hn, _⟩
    · obtain ⟨hT, hS, ⟨p0, p1, p2, ⟨d1, d2, d3, d4, d5⟩, ⟨c1, c2, c3, c4, c5⟩, ⟨m1, m2, m3, m4, m5, m6, m7, m8⟩, ⟨n1, n2, n3⟩, p7⟩, hN⟩ := h
      obtain ⟨X, X0, X1, rfl⟩ := wth_nat (a := 0) (b := 24) (by decide) (by decide) ho1
      obtain ⟨Y, Y0, Y1, rfl⟩ := wth_nat (a := 0) (b := 1000000) (by decide) (by decide) ho2
      refine ⟨by simp [u2_at], fun _ => rfl, rfl, tc, (fun k j => if k = 9 ∧ j = 0 then X else if k = 9 ∧ j = 1 then Y else d k j), gc, pc, rc, ?_, ?_, ⟨p0, p1, p2, ⟨fun g hg => ?_, fun p hp => ?_, fun i hi => ?_, ?_, ?_⟩, ⟨fun g hg => ?_, fun p hp => ?_, fun i hi => ?_, ?_, ?_⟩, ⟨fun g hg => ?_, fun p hp => ?_, fun i hi => ?_, ?_, ?_, ?_, ?_, ?_⟩, ⟨?_, ?_, ?_⟩, fun i hi => ?_⟩, Or.inl ⟨u2_eq _ _ _ _, u2_eq _ _ _ _⟩⟩
      · exact RT_of hT (fun a j q => by rw [u2_ne (by omega), u2_ne (by omega), u2_ne (by omega)]) (fun a j q => by simp only [u2_at]; repeat rw [if_neg (by omega)])
      · exact RS_of hS (by rw [u2_ne (by omega), u2_ne (by omega), u2_ne (by omega)]) (by rw [u2_ne (by omega), u2_ne (by omega), u2_ne (by omega), u2_ne (by omega)])
      · simpa using d1 g hg
      · simpa using d2 p hp
      · simpa using d3 i hi
      · simpa using X1
      · simpa using Y1
      · rw [u2_ne (by omega), u2_ne (by omega), u2_ne (by omega)]; simpa using c1 g hg
      · rw [u2_ne (by omega), u2_ne (by omega), u2_ne (by omega)]; simpa using c2 p hp
      · rw [u2_ne (by omega), u2_ne (by omega), u2_ne (by omega)]; simpa using c3 i hi
      · simp [u2_at]
      · simp [u2_at]
      · simp only [u2_at]; simpa using m1 g hg
      · simp only [u2_at]; simpa using m2 p hp
      · simp only [u2_at]; simpa using m3 i hi
      · simp [u2_at]
      · simp [u2_at]
      · simp only [u2_at]; simpa using m6
      · simp only [u2_at]; simpa using m7
      · simp only [u2_at]; simpa using m8
      · simp only [u2_at]; simpa using n1
      · simp only [u2_at]; simpa using n2
      · simp only [u2_at]; simpa using n3
      · simpa using p7 i hi
    · exact absurd ⟨ho1, ho2⟩ hn
  · have hk : k = 1 := by simpa [sIAE, sUOE, sIOE, sISE] using hmem
    subst hk
    rcases hm with ⟨hn, _⟩ | ⟨_, rfl, rfl, rfl⟩
    · exact absurd hn hx
    · exact ⟨u2_eq _ _ _ _, fun q => absurd q (by decide), rfl, h.o 1⟩
end Match3
