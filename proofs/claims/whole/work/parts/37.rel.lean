/-! the rows of the class and of the reference belong together -/
def TR (v u : Nat → Nat → Int32) (i : Nat) : Prop := (∃ a, 1 ≤ a ∧ a ≤ 1000000 ∧ v (2 + i) 0 = nI a ∧ u 1 i = nI a) ∧ (∃ a, 1 ≤ a ∧ a ≤ 1000000 ∧ v (2 + i) 1 = nI a ∧ u 2 i = nI a) ∧ (∃ a, a ≤ 2000000 ∧ v (2 + i) 2 = nI a ∧ u 3 i = nI a) ∧ ((v (2 + i) 3 = 1 ∧ u 4 i = 0) ∨ (v (2 + i) 3 = 0 ∧ u 4 i = 1)) ∧ ∀ k, k < 5 → v (10 + i) k = u 5 (5 * i + k)
def RT (v u : Nat → Nat → Int32) (tc : Nat) : Prop := tc ≤ 8 ∧ v 0 2 = nI tc ∧ u 0 2 = nI tc ∧ (∀ i, i < tc → TR v u i) ∧ ∀ i, tc ≤ i → i < 8 → v (2 + i) 2 = 0 ∧ ∀ k, k < 5 → v (10 + i) k = 0
def RS (v u : Nat → Nat → Int32) : Prop := ∀ k, k < 4 → ∃ a, a ≤ 1000 ∧ v 18 k = nI a ∧ u 15 k = nI a
def RP (v u : Nat → Nat → Int32) (d : Nat → Nat → Nat) (gc pc rc tc : Nat) : Prop := gc ≤ 6 ∧ pc ≤ 4 ∧ rc ≤ 5 ∧ DB d gc pc rc ∧ CR v d gc pc rc ∧ MR u d gc pc rc ∧ (v 19 1 = nI gc ∧ v 19 3 = nI pc ∧ v 19 5 = nI rc) ∧ ∀ i, i < rc → d 5 i < tc
def RN (v u : Nat → Nat → Int32) (d : Nat → Nat → Nat) (gc pc rc : Nat) : Prop := (v 38 4 = 0 ∧ u 0 23 = 0) ∨ (v 38 4 = 1 ∧ v 38 5 = nI (opt d gc pc rc 0 b0) ∧ v 38 6 = nI (pcn (bs d gc pc rc 0 b0).2) ∧ PE pc v 0 (bs d gc pc rc 0 b0).2 ∧ BQ u (some (bs d gc pc rc 0 b0)))
def RL (v u : Nat → Nat → Int32) : Prop := ∃ tc d gc pc rc, RT v u tc ∧ RS v u ∧ RP v u d gc pc rc tc ∧ RN v u d gc pc rc
theorem RT_of {v u v' u' : Nat → Nat → Int32} {tc : Nat} (h : RT v u tc) (hv : ∀ a j, a < 18 → v' a j = v a j) (hu : ∀ a j, (a = 0 ∧ j = 2) ∨ (1 ≤ a ∧ a ≤ 5) → u' a j = u a j) : RT v' u' tc := by
  obtain ⟨h0, h1, h2, h3, h4⟩ := h
  refine ⟨h0, by rw [hv _ _ (by omega)]; exact h1, by rw [hu _ _ (by omega)]; exact h2, fun i hi => ?_, fun i hi hi8 => ⟨by rw [hv _ _ (by omega)]; exact (h4 i hi hi8).1, fun k hk => by rw [hv _ _ (by omega)]; exact (h4 i hi hi8).2 k hk⟩⟩
  obtain ⟨a1, a2, a3, a4, a5⟩ := h3 i hi
  unfold TR
  rw [hv _ _ (by omega), hv _ _ (by omega), hv _ _ (by omega), hv _ _ (by omega), hu _ _ (by omega), hu _ _ (by omega), hu _ _ (by omega), hu _ _ (by omega)]
  exact ⟨a1, a2, a3, a4, fun k hk => by rw [hv _ _ (by omega), hu _ _ (by omega)]; exact a5 k hk⟩
/-- one thing is changed -/
theorem RT_mod {v u v' u' : Nat → Nat → Int32} {tc i : Nat} (h : RT v u tc) (hi : i < tc) (hv : ∀ a j, a < 18 → a ≠ 2 + i → a ≠ 10 + i → v' a j = v a j) (hu : ∀ a j, (a = 0 ∧ j = 2) ∨ (1 ≤ a ∧ a ≤ 4 ∧ j ≠ i) ∨ (a = 5 ∧ ¬ (5 * i ≤ j ∧ j < 5 * i + 5)) → u' a j = u a j) (ht : TR v' u' i) : RT v' u' tc := by
  obtain ⟨h0, h1, h2, h3, h4⟩ := h
  refine ⟨h0, by rw [hv _ _ (by omega) (by omega) (by omega)]; exact h1, by rw [hu _ _ (by omega)]; exact h2, fun i' hi' => ?_, fun i' hi' hi8 => ⟨by rw [hv _ _ (by omega) (by omega) (by omega)]; exact (h4 i' hi' hi8).1, fun k hk => by rw [hv _ _ (by omega) (by omega) (by omega)]; exact (h4 i' hi' hi8).2 k hk⟩⟩
  by_cases e : i' = i
  · subst e; exact ht
  · obtain ⟨a1, a2, a3, a4, a5⟩ := h3 i' hi'
    unfold TR
    rw [hv _ _ (by omega) (by omega) (by omega), hv _ _ (by omega) (by omega) (by omega), hv _ _ (by omega) (by omega) (by omega), hv _ _ (by omega) (by omega) (by omega), hu _ _ (by omega), hu _ _ (by omega), hu _ _ (by omega), hu _ _ (by omega)]
    exact ⟨a1, a2, a3, a4, fun k hk => by rw [hv _ _ (by omega) (by omega) (by omega), hu _ _ (by omega)]; exact a5 k hk⟩
theorem RS_of {v u v' u' : Nat → Nat → Int32} (h : RS v u) (hv : v' 18 = v 18) (hu : u' 15 = u 15) : RS v' u' := fun k hk => by
  rw [hv, hu]; exact h k hk
theorem RP_of {v u v' u' : Nat → Nat → Int32} {d : Nat → Nat → Nat} {gc pc rc tc tc' : Nat} (h : RP v u d gc pc rc tc) (htc : tc ≤ tc') (hv : ∀ a j, (19 ≤ a ∧ a < 33) ∨ (33 ≤ a ∧ a < 38 ∧ j < 4) → v' a j = v a j) (hu : ∀ a j, (6 ≤ a ∧ a ≤ 14) ∨ (a = 0 ∧ (j = 8 ∨ j = 11 ∨ j = 15 ∨ j = 20 ∨ j = 21)) → u' a j = u a j) : RP v' u' d gc pc rc tc' := by
  obtain ⟨h0, h1, h2, h3, ⟨c1, c2, c3, c4, c5⟩, ⟨m1, m2, m3, m4, m5, m6, m7, m8⟩, ⟨n1, n2, n3⟩, h7⟩ := h
  refine ⟨h0, h1, h2, h3, ⟨fun g q => ?_, fun p q => ?_, fun i q => ?_, ?_, ?_⟩, ⟨fun g q => ?_, fun p q => ?_, fun i q => ?_, ?_, ?_, ?_, ?_, ?_⟩, ⟨?_, ?_, ?_⟩, fun i hi => Nat.lt_of_lt_of_le (h7 i hi) htc⟩
  · rw [hv _ _ (by omega), hv _ _ (by omega)]; exact c1 g q
  · rw [hv _ _ (by omega), hv _ _ (by omega), hv _ _ (by omega)]; exact c2 p q
  · rw [hv _ _ (by omega), hv _ _ (by omega), hv _ _ (by omega), hv _ _ (by omega)]; exact c3 i q
  · rw [hv _ _ (by omega)]; exact c4
  · rw [hv _ _ (by omega)]; exact c5
  · rw [hu _ _ (by omega), hu _ _ (by omega)]; exact m1 g q
  · rw [hu _ _ (by omega), hu _ _ (by omega), hu _ _ (by omega)]; exact m2 p q
  · rw [hu _ _ (by omega), hu _ _ (by omega), hu _ _ (by omega), hu _ _ (by omega)]; exact m3 i q
  · rw [hu _ _ (by omega)]; exact m4
  · rw [hu _ _ (by omega)]; exact m5
  · rw [hu _ _ (by omega)]; exact m6
  · rw [hu _ _ (by omega)]; exact m7
  · rw [hu _ _ (by omega)]; exact m8
  · rw [hv _ _ (by omega)]; exact n1
  · rw [hv _ _ (by omega)]; exact n2
  · rw [hv _ _ (by omega)]; exact n3
theorem PE_of {pc : Nat} {v v' : Nat → Nat → Int32} (hv : ∀ a j, 33 ≤ a → a < 38 → v' a j = v a j) : ∀ (L : List (Nat × Int32)) n, n + L.length ≤ 5 → PE pc v n L → PE pc v' n L
  | [], _, _, _ => trivial
  | e :: L, n, hl, h => by
    have hl' : n + (L.length + 1) ≤ 5 := hl
    refine ⟨?_, PE_of hv L (n + 1) (by omega) h.2⟩
    rw [hv _ _ (by omega) (by omega), hv _ _ (by omega) (by omega), hv _ _ (by omega) (by omega)]
    exact h.1
theorem RN_of {v u v' u' : Nat → Nat → Int32} {d : Nat → Nat → Nat} {gc pc rc : Nat} (h : RN v u d gc pc rc) (hD : DB d gc pc rc) (hr5 : rc ≤ 5) (hv : ∀ a j, (33 ≤ a ∧ a < 38) ∨ (a = 38 ∧ 4 ≤ j) → v' a j = v a j) (hu : u' 0 23 = u 0 23 ∧ u' 0 24 = u 0 24 ∧ u' 16 = u 16 ∧ u' 17 = u 17) : RN v' u' d gc pc rc := by
  rcases h with ⟨h1, h2⟩ | ⟨h1, h2, h3, h4, h5⟩
  · exact Or.inl ⟨by rw [hv _ _ (by omega)]; exact h1, by rw [hu.1]; exact h2⟩
  · exact Or.inr ⟨by rw [hv _ _ (by omega)]; exact h1, by rw [hv _ _ (by omega)]; exact h2, by rw [hv _ _ (by omega)]; exact h3, PE_of (fun a j q1 q2 => hv a j (Or.inl ⟨q1, q2⟩)) _ 0 (by rw [(bs_wf hD rc 0 b0 (by omega)).1]; omega) h4, BQ_of hu.1 hu.2.1 hu.2.2.1 hu.2.2.2 h5⟩
theorem u00 {u : Nat → Nat → Int32} {k : Int32} {a : Nat} (j : Nat) (h : ¬ (a = 0 ∧ j = 0)) : u2 u 0 0 k a j = u a j := by rw [u2_at, if_neg h]
theorem RT_0 {v u : Nat → Nat → Int32} {tc : Nat} (k : Int32) (h : RT v u tc) : RT v (u2 u 0 0 k) tc := RT_of h (fun _ _ _ => rfl) (fun a j q => u00 j (by omega))
theorem RS_0 {v u : Nat → Nat → Int32} (k : Int32) (h : RS v u) : RS v (u2 u 0 0 k) := RS_of h rfl (u2_ne (by decide))
theorem RP_0 {v u : Nat → Nat → Int32} {d : Nat → Nat → Nat} {gc pc rc tc : Nat} (k : Int32) (h : RP v u d gc pc rc tc) : RP v (u2 u 0 0 k) d gc pc rc tc := RP_of h (Nat.le_refl _) (fun _ _ _ => rfl) (fun a j q => u00 j (by omega))
theorem RN_0 {v u : Nat → Nat → Int32} {d : Nat → Nat → Nat} {gc pc rc : Nat} (k : Int32) (h : RN v u d gc pc rc) (hD : DB d gc pc rc) (hr5 : rc ≤ 5) : RN v (u2 u 0 0 k) d gc pc rc := RN_of h hD hr5 (fun _ _ _ => rfl) ⟨u00 23 (by omega), u00 24 (by omega), u2_ne (by decide), u2_ne (by decide)⟩
/-- rows that belong together, all of it -/
def RA (v u : Nat → Nat → Int32) (tc : Nat) (d : Nat → Nat → Nat) (gc pc rc : Nat) : Prop := RT v u tc ∧ RS v u ∧ RP v u d gc pc rc tc ∧ RN v u d gc pc rc
theorem RA.rl {v u : Nat → Nat → Int32} {tc : Nat} {d : Nat → Nat → Nat} {gc pc rc : Nat} (h : RA v u tc d gc pc rc) : RL v u := ⟨tc, d, gc, pc, rc, h⟩
theorem RA.o {v u : Nat → Nat → Int32} {tc : Nat} {d : Nat → Nat → Nat} {gc pc rc : Nat} (k : Int32) (h : RA v u tc d gc pc rc) : RL v (u2 u 0 0 k) := ⟨tc, d, gc, pc, rc, RT_0 k h.1, RS_0 k h.2.1, RP_0 k h.2.2.1, RN_0 k h.2.2.2 h.2.2.1.2.2.2.1 h.2.2.1.2.2.1⟩
/-- what a call of the class comes to: it returns (k = 0), or what it throws has the code k -/
def Zo (post : Option Value → (Nat → Nat → Int32) → Int64 → Prop) (xp : String → Prop) (hs : List (String × Int32)) (v : Nat → Nat → Int32) (sd : Int64) (k : Int32) (r : Option Value) (v' : Nat → Nat → Int32) (sd' : Int64) : Prop :=
  (k = 0 ∧ post r v' sd') ∨ ∃ cls, xp cls ∧ (cls, k) ∈ hs ∧ v' = v ∧ sd' = sd
/-- what is asked of a call's two answers -/
def Ag (k : Int32) (r b : Option Value) (v' u' : Nat → Nat → Int32) (sd' sd2 : Int64) : Prop := u' 0 0 = k ∧ (k = 0 → r = b) ∧ sd' = sd2 ∧ RL v' u'
theorem wth_nat {x : Int32} {a b : Nat} (ha : a < 2 ^ 31) (hb : b < 2 ^ 31) (h : ¬ wthZ x (nI a) (nI b) = 0) : ∃ k, a ≤ k ∧ k ≤ b ∧ x = nI k := by
  unfold wthZ at h
  by_cases h1 : x < nI a
  · rw [if_pos h1] at h; exact absurd rfl h
  · rw [if_neg h1] at h
    by_cases h2 : nI b < x
    · rw [if_pos h2] at h; exact absurd rfl h
    · have h0 : ¬ x < 0 := fun q => h1 (by
        have e := nI_toInt ha
        rw [Int32.lt_iff_toInt_lt] at q ⊢
        have e0 : (0 : Int32).toInt = 0 := rfl
        omega)
      obtain ⟨k, hk, rfl⟩ := nI_of h0
      exact ⟨k, Nat.le_of_not_lt (fun q => h1 (nI_lt q ha)), Nat.le_of_not_lt (fun q => h2 (nI_lt q hk)), rfl⟩
abbrev sIAE : String := "java/lang/IllegalArgumentException"
abbrev sUOE : String := "java/lang/UnsupportedOperationException"
abbrev sIOE : String := "java/lang/IndexOutOfBoundsException"
abbrev sISE : String := "java/lang/IllegalStateException"
section Match
variable {v u v' u' : Nat → Nat → Int32} {sd sd' sd2 : Int64} {tc gc pc rc : Nat} {d : Nat → Nat → Nat} {x y z w k : Int32} {r b : Option Value}
theorem m_thing (h : RA v u tc d gc pc rc) (hc : Zo (qW_thing v sd tc x y) (xW_thing v tc x y) [(sIAE, 1), (sUOE, 2)] v sd k r v' sd') (hm : qM_thing u sd tc x y b u' sd2) : Ag k r b v' u' sd' sd2 := by
  rcases hc with ⟨rfl, ⟨ho1, ho2⟩, hlt, rfl, rfl, rfl⟩ | ⟨cls, hx, hmem, rfl, rfl⟩
  · rcases hm with ⟨_, _, rfl, rfl, rfl⟩ | ⟨hn, _⟩ | ⟨_, hn, _⟩
    · obtain ⟨⟨t1, t2, t3, t4, t5⟩, hS, hP, hN⟩ := h
      obtain ⟨a, a1, a2, rfl⟩ := wth_nat (a := 1) (b := 1000000) (by decide) (by decide) ho1
      obtain ⟨c, c1, c2, rfl⟩ := wth_nat (a := 1) (b := 1000000) (by decide) (by decide) ho2
      refine ⟨by simp [u2_at], fun _ => by rw [t2, nI_1, nI_pred], rfl, tc + 1, d, gc, pc, rc, ⟨by omega, ?_, ?_, fun i hi => ?_, fun i hi hi8 => ?_⟩, ?_, ?_, ?_⟩
      · rw [u2_eq, t2, nI_1]
      · rw [u2_eq]
      · by_cases e : i = tc
        · subst e
          refine ⟨⟨a, a1, a2, ?_, ?_⟩, ⟨c, c1, c2, ?_, ?_⟩, ⟨0, by omega, ?_, ?_⟩, Or.inl ⟨?_, ?_⟩, fun k hk => ?_⟩
          · simp [u2_at]
          · simp [u2_at]
          · simp [u2_at]
          · simp [u2_at]
          · rw [show nI 0 = 0 from rfl, ← (t5 i (Nat.le_refl _) hlt).1]; simp [u2_at]
          · rw [show nI 0 = 0 from rfl]; simp [u2_at]
          · simp [u2_at]
          · simp [u2_at]
          · have e1 := (t5 i (Nat.le_refl _) hlt).2 k hk
            have e2 : u2 (u2 (u2 (u2 v (2 + i) 0 (nI a)) (2 + i) 1 (nI c)) (2 + i) 3 1) 0 2 (v 0 2 + 1) (10 + i) k = v (10 + i) k := by
              simp only [u2_at]; repeat rw [if_neg (by omega)]
            rw [e2, e1]
            rcases (show k = 0 ∨ k = 1 ∨ k = 2 ∨ k = 3 ∨ k = 4 by omega) with rfl | rfl | rfl | rfl | rfl <;> simp [u2_at]
        · obtain ⟨b1, b2, b3, b4, b5⟩ := t4 i (by omega)
          have ev : ∀ j, u2 (u2 (u2 (u2 v (2 + tc) 0 (nI a)) (2 + tc) 1 (nI c)) (2 + tc) 3 1) 0 2 (v 0 2 + 1) (2 + i) j = v (2 + i) j := fun j => by
            simp only [u2_at]; repeat rw [if_neg (by omega)]
          have ew : ∀ j, u2 (u2 (u2 (u2 v (2 + tc) 0 (nI a)) (2 + tc) 1 (nI c)) (2 + tc) 3 1) 0 2 (v 0 2 + 1) (10 + i) j = v (10 + i) j := fun j => by
            simp only [u2_at]; repeat rw [if_neg (by omega)]
          unfold TR
          simp only [ev, ew]
          simp only [u2_at]
          refine ⟨?_, ?_, ?_, ?_, fun k hk => ?_⟩
          · simpa [e] using b1
          · simpa [e] using b2
          · simpa [e] using b3
          · simpa [e] using b4
          · rw [b5 k hk]
            repeat rw [if_neg (by omega)]
      · have ew : ∀ q j, q ≠ 2 + tc → q ≠ 0 → u2 (u2 (u2 (u2 v (2 + tc) 0 (nI a)) (2 + tc) 1 (nI c)) (2 + tc) 3 1) 0 2 (v 0 2 + 1) q j = v q j := fun q j q1 q2 => by
          rw [u2_ne q2, u2_ne q1, u2_ne q1, u2_ne q1]
        exact ⟨by rw [ew _ _ (by omega) (by omega)]; exact (t5 i (by omega) hi8).1, fun k hk => by rw [ew _ _ (by omega) (by omega)]; exact (t5 i (by omega) hi8).2 k hk⟩
      · exact RS_of hS (by rw [u2_ne (by decide), u2_ne (by omega), u2_ne (by omega), u2_ne (by omega)]) (by simp [u2_ne])
      · exact RP_of hP (by omega) (fun a j q => by simp only [u2_at]; repeat rw [if_neg (by omega)]) (fun a j q => by simp only [u2_at]; repeat rw [if_neg (by omega)])
      · exact RN_of hN hP.2.2.2.1 hP.2.2.1 (fun a j q => by simp only [u2_at]; repeat rw [if_neg (by omega)]) ⟨by simp [u2_at], by simp [u2_at], by simp [u2_ne], by simp [u2_ne]⟩
    · exact absurd ⟨ho1, ho2⟩ hn
    · exact absurd hlt hn
  · rcases hx with ⟨hx, rfl⟩ | ⟨hx, hx2, rfl⟩
    · have hk : k = 1 := by simpa [sIAE, sUOE, sIOE, sISE] using hmem
      subst hk
      rcases hm with ⟨hn, _⟩ | ⟨_, rfl, rfl, rfl⟩ | ⟨hn, _⟩
      · exact absurd hn hx
      · exact ⟨u2_eq _ _ _ _, fun q => absurd q (by decide), rfl, h.o 1⟩
      · exact absurd hn hx
    · have hk : k = 2 := by simpa [sIAE, sUOE, sIOE, sISE] using hmem
      subst hk
      rcases hm with ⟨_, hn, _⟩ | ⟨hn, _⟩ | ⟨_, _, rfl, rfl, rfl⟩
      · exact absurd hn hx2
      · exact absurd hx hn
      · exact ⟨u2_eq _ _ _ _, fun q => absurd q (by decide), rfl, h.o 2⟩
end Match
