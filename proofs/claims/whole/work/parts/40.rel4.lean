/-! each call's two answers agree: plan, at, cost, done -/
section Match4
variable {v u v' u' : Nat → Nat → Int32} {sd sd' sd2 : Int64} {tc gc pc rc : Nat} {d : Nat → Nat → Nat} {x y z w k : Int32} {r b : Option Value}
theorem RA.PI (h : RA v u tc d gc pc rc) : PI gc pc rc v := by
  obtain ⟨-, -, ⟨p0, p1, p2, hD, hC, -, ⟨n1, n2, n3⟩, -⟩, -⟩ := h
  exact ⟨n1, p0, n2, p1, n3, p2, fun i hi => ⟨d 5 i, (hD.2.2.1 i hi).1, (hC.2.2.1 i hi).1⟩⟩
theorem RA.SK (h : RA v u tc d gc pc rc) : SK rc v := by
  obtain ⟨-, -, ⟨p0, p1, p2, hD, hC, -, -, -⟩, -⟩ := h
  exact fun i hi => ⟨d 7 i, (hD.2.2.1 i hi).2.2.1, (hC.2.2.1 i hi).2.2.1⟩
theorem RA.MI (h : RA v u tc d gc pc rc) : MI rc u := by
  obtain ⟨-, -, ⟨p0, p1, p2, hD, -, hM, -, -⟩, -⟩ := h
  exact ⟨hM.2.2.2.2.2.2.2, p2, fun i hi => ⟨⟨d 5 i, (hD.2.2.1 i hi).1, (hM.2.2.1 i hi).1⟩, ⟨d 7 i, (hD.2.2.1 i hi).2.2.1, (hM.2.2.1 i hi).2.2.1⟩⟩⟩
theorem RA.dv (h : RA v u tc d gc pc rc) : ¬ u 0 23 = 0 → ∀ i, i < rc → 0 ≤ u 16 i → 0 < pc := by
  obtain ⟨-, -, ⟨p0, p1, p2, hD, -, hM, -, -⟩, hN⟩ := h
  intro hp i hi h16
  rcases hN with ⟨-, hN⟩ | ⟨-, -, -, -, hq⟩
  · exact absurd hN hp
  · obtain ⟨wl, wf⟩ := bs_wf hD rc 0 b0 (by omega)
    have hil : i < (bs d gc pc rc 0 b0).2.length := by rw [wl]; exact hi
    have hat := ME_at _ 0 hq.2.2.2 i hil
    rw [Nat.zero_add] at hat
    rcases wf _ (List.getElem_mem hil) with q | ⟨a, -, -, q⟩
    · rw [hat.1, q] at h16
      exact absurd h16 (by decide)
    · exact Nat.pos_of_ne_zero (fun z => by subst z; simp at q)
theorem m_plan (h : RA v u tc d gc pc rc) (hc : qW_plan v sd gc pc rc r v' sd') (hm : qM_plan u sd d gc pc rc b u' sd2) : u' 0 0 = 0 ∧ r = b ∧ sd' = sd2 ∧ RL v' u' := by
  obtain ⟨hT, hS, hP, hN⟩ := h
  obtain ⟨rfl, hK, hQ, rfl⟩ := hm
  have hP0 := hP
  obtain ⟨p0, p1, p2, hD, hC, hM, n123, p7⟩ := hP
  obtain ⟨wl, wf⟩ := bs_wf hD rc 0 b0 (by omega)
  have hcn := cn_eq hQ.2.2.2 wf wl
  have h00 : u' 0 0 = 0 := by rw [hK 0 0 (by decide) (by omega)]; exact u2_eq _ _ _ _
  have hku : ∀ a j, a < 16 → ¬ (a = 0 ∧ (j = 0 ∨ j = 23 ∨ j = 24)) → u' a j = u a j := fun a j q1 q2 => by
    rw [hK a j q1 (by omega), u00 _ (by omega)]
  rcases hc with ⟨hp, rfl, rfl, rfl⟩ | ⟨hp, v1, hmb, rfl, rfl, rfl⟩
  · rcases hN with ⟨hN, -⟩ | ⟨q1, q2, q3, q4, -⟩
    · exact absurd hN hp
    · refine ⟨h00, by rw [q3, hcn], rfl, tc, d, gc, pc, rc, RT_of hT (fun _ _ _ => rfl) (fun a j q => hku a j (by omega) (by omega)), RS_of hS rfl (by funext j; exact hku 15 j (by omega) (by omega)), RP_of hP0 (Nat.le_refl _) (fun _ _ _ => rfl) (fun a j q => hku a j (by omega) (by omega)), Or.inr ⟨q1, q2, q3, q4, hQ⟩⟩
  · obtain ⟨k1, k2, k3, k4⟩ := plan_C hD p0 p1 p2 hC hmb
    refine ⟨h00, by rw [k3, hcn], rfl, tc, d, gc, pc, rc, RT_of hT (fun a j q => by rw [u2_ne (by omega)]; exact k1 a j (Or.inl (by omega))) (fun a j q => hku a j (by omega) (by omega)), RS_of hS (by funext j; rw [u2_ne (by decide)]; exact k1 18 j (Or.inl (by omega))) (by funext j; exact hku 15 j (by omega) (by omega)), RP_of hP0 (Nat.le_refl _) (fun a j q => by rw [u2_ne (by omega)]; exact k1 a j (by omega)) (fun a j q => hku a j (by omega) (by omega)), Or.inr ⟨u2_eq _ _ _ _, ?_, ?_, ?_, hQ⟩⟩
    · rw [u2_at, if_neg (by decide)]; exact k2
    · rw [u2_at, if_neg (by decide)]; exact k3
    · exact PE_of (fun a j q1 q2 => by rw [u2_ne (by omega)]) _ 0 (by rw [wl]; omega) k4
theorem m_at (h : RA v u tc d gc pc rc) (hc : Zo (qW_at v sd rc x y) (xW_at v rc x y) [(sIOE, 1), (sISE, 2)] v sd k r v' sd') (hm : qM_at u sd rc pc x y b u' sd2) : Ag k r b v' u' sd' sd2 := by
  have hw := wth_up (x := y) (n := 2) (by decide)
  have hr5 := h.2.2.1.2.2.1
  have hp4 := h.2.2.1.2.1
  have hg6 := h.2.2.1.1
  have hD := h.2.2.1.2.2.2.1
  have hpl : v 38 4 = 0 ↔ u 0 23 = 0 := by
    rcases h.2.2.2 with ⟨q1, q2⟩ | ⟨q1, -, -, -, q2⟩
    · rw [q1, q2]
    · rw [q1, q2.1]
  rcases hc with ⟨rfl, i, hi, rfl, hy, hp, rfl, rfl, rfl⟩ | ⟨cls, hx, hmem, rfl, rfl⟩
  · rcases hm with ⟨j, hj, e, _, _, rfl, rfl, rfl⟩ | ⟨hn, _⟩ | ⟨_, _, hn, _⟩
    · have e := ix_eq (by omega) hi hj e
      subst e
      refine ⟨u2_eq _ _ _ _, fun _ => ?_, rfl, h.o 0⟩
      rcases h.2.2.2 with ⟨q1, -⟩ | ⟨-, -, -, q4, q5⟩
      · exact absurd q1 hp
      · obtain ⟨wl, wf⟩ := bs_wf hD rc 0 b0 (by omega)
        have hil : j < (bs d gc pc rc 0 b0).2.length := by rw [wl]; exact hi
        have hat := ME_at _ 0 q5.2.2.2 j hil
        have hpt := PE_at _ 0 q4 j hil
        rw [Nat.zero_add] at hat hpt
        obtain ⟨e1, e2⟩ := hat
        obtain ⟨e3, e4, e5⟩ := hpt
        have hwf := wf _ (List.getElem_mem hil)
        rw [e1, e2, e3, e4, e5]
        by_cases hz : ((bs d gc pc rc 0 b0).2[j]'hil).2 = -1
        · rw [if_pos hz, if_pos hz, if_pos ((wf_lt hwf).mpr hz), hz]
          simp
        · rw [if_neg hz, if_neg hz, if_neg (fun q => hz ((wf_lt hwf).mp q))]
          rcases hwf with q | ⟨a, -, -, q⟩
          · exact absurd q hz
          · have h0 : 0 < pc := Nat.pos_of_ne_zero (fun z => by subst z; simp at q)
            have hgp := Nat.mul_le_mul hg6 hp4
            rw [pk_rem (by omega) h0 (by omega), pk_div (by omega) h0 (by omega)]
    · exact absurd ⟨⟨i, hi, rfl⟩, hw.mpr hy⟩ hn
    · exact absurd (hpl.mpr hn) hp
  · rcases hx with ⟨hx, rfl⟩ | ⟨hx, hx2, hx3, rfl⟩
    · have hk : k = 1 := by simpa [sIAE, sUOE, sIOE, sISE] using hmem
      subst hk
      rcases hm with ⟨j, hj, e, hn, _⟩ | ⟨_, rfl, rfl, rfl⟩ | ⟨hn, hn2, _⟩
      · exact absurd ⟨⟨j, hj, e⟩, hw.mp hn⟩ hx
      · exact ⟨u2_eq _ _ _ _, fun q => absurd q (by decide), rfl, h.o 1⟩
      · exact absurd ⟨hn, hw.mp hn2⟩ hx
    · have hk : k = 2 := by simpa [sIAE, sUOE, sIOE, sISE] using hmem
      subst hk
      rcases hm with ⟨j, hj, e, _, hn, _⟩ | ⟨hn, _⟩ | ⟨_, _, _, rfl, rfl, rfl⟩
      · exact absurd (hpl.mp hx3) hn
      · exact absurd ⟨hx, hw.mpr hx2⟩ hn
      · exact ⟨u2_eq _ _ _ _, fun q => absurd q (by decide), rfl, h.o 2⟩
theorem m_cost (h : RA v u tc d gc pc rc) (hc : Zo (qW_cost v sd) (xW_cost v) [(sISE, 1)] v sd k r v' sd') (hm : qM_cost u sd b u' sd2) : Ag k r b v' u' sd' sd2 := by
  rcases hc with ⟨rfl, hp, rfl, rfl, rfl⟩ | ⟨cls, ⟨hp, rfl⟩, hmem, rfl, rfl⟩
  · rcases h.2.2.2 with ⟨q1, -⟩ | ⟨-, q2, -, -, q5⟩
    · exact absurd q1 hp
    · rcases hm with ⟨_, rfl, rfl, rfl⟩ | ⟨hn, _⟩
      · exact ⟨u2_eq _ _ _ _, fun _ => by rw [q2, q5.2.1], rfl, h.o 0⟩
      · rw [q5.1] at hn
        exact absurd hn (by decide)
  · have hk : k = 1 := by simpa [sIAE, sUOE, sIOE, sISE] using hmem
    subst hk
    rcases h.2.2.2 with ⟨-, q1⟩ | ⟨q2, -⟩
    · rcases hm with ⟨hn, _⟩ | ⟨_, rfl, rfl, rfl⟩
      · exact absurd q1 hn
      · exact ⟨u2_eq _ _ _ _, fun q => absurd q (by decide), rfl, h.o 1⟩
    · rw [q2] at hp
      exact absurd hp (by decide)
/-- done, repair by repair -/
theorem dn_dm (h : RA v u tc d gc pc rc) (hpl : ¬ v 38 4 = 0) : ∀ i, i ≤ rc → RT (dnv v i) (dmv (u2 u 0 0 0) i) tc ∧ RS (dnv v i) (dmv (u2 u 0 0 0) i) ∧ (dn v i).2 = (dm (u2 u 0 0 0) i).2
  | 0, _ => ⟨RT_0 0 h.1, RS_0 0 h.2.1, rfl⟩
  | i + 1, hi => by
    obtain ⟨iT, iS, ic⟩ := dn_dm h hpl i (by omega)
    have hPI := h.PI
    have hSK := h.SK
    have hth : ∀ i, i < rc → th v i < 8 := fun i hi => (PI_th hPI hi).2
    obtain ⟨-, -, ⟨p0, p1, p2, hD, hC, hM, -, p7⟩, hN⟩ := h
    rcases hN with ⟨q1, -⟩ | ⟨-, -, -, q4, q5⟩
    · exact absurd q1 hpl
    · obtain ⟨wl, wf⟩ := bs_wf hD rc 0 b0 (by omega)
      have hil : i < (bs d gc pc rc 0 b0).2.length := by rw [wl]; omega
      have hat := ME_at _ 0 q5.2.2.2 i hil
      have hpt := PE_at _ 0 q4 i hil
      rw [Nat.zero_add] at hat hpt
      have hwf := wf _ (List.getElem_mem hil)
      have e33 : dnv v i (33 + i) = v (33 + i) := dn_row p2 hth (Or.inr (by omega)) i (by omega)
      have d3 := hD.2.2.1 i (by omega)
      have es : sk (dnv v i) i = d 7 i := by
        unfold sk
        rw [e33, (hC.2.2.1 i (by omega)).2.2.1, nI_clamp (by omega)]
      have et : th (dnv v i) i = d 5 i := by
        unfold th
        rw [e33, (hC.2.2.1 i (by omega)).1, nI_clamp (by omega)]
      have es2 : sM (u2 u 0 0 0) i = d 7 i := by
        unfold sM
        rw [u2_ne (by decide), (hM.2.2.1 i (by omega)).2.2.1, nI_clamp (by omega)]
      have et2 : tM (u2 u 0 0 0) i = d 5 i := by
        unfold tM
        rw [u2_ne (by decide), (hM.2.2.1 i (by omega)).1, nI_clamp (by omega)]
      have e16 : dmv (u2 u 0 0 0) i 16 i = ((bs d gc pc rc 0 b0).2[i]'hil).2 := by
        rw [dm_row (by decide) (by decide) (by decide), u2_ne (by decide)]
        exact hat.1
      obtain ⟨a, a1, a2, a3⟩ := iS (d 7 i) d3.2.2.1
      have hPP : dnP (dnv v i) i = dmP (u2 u 0 0 0) (dmv (u2 u 0 0 0) i) i := by
        unfold dnP dmP
        rw [es, es2, e33, hpt.1, e16, a2, a3]
        have h1 : decide (((bs d gc pc rc 0 b0).2[i]'hil).2 = -1) = decide (((bs d gc pc rc 0 b0).2[i]'hil).2 < 0) := decide_eq_decide.mpr (wf_lt hwf).symm
        have h2 : decide (nI a ≤ 0) = decide (nI a = 0) := decide_eq_decide.mpr ⟨fun q => by
          by_cases z : a = 0
          · rw [z]; rfl
          · exact absurd q (nI_nle (by omega) (by omega)), fun q => by rw [q]; decide⟩
        rw [h1, h2]
      have hs1 : dn v (i + 1) = if dnP (dnv v i) i = true then (dnV (dnv v i) i, (dn v i).2 + 1) else dn v i := rfl
      have hs2 : dm (u2 u 0 0 0) (i + 1) = if dmP (u2 u 0 0 0) (dmv (u2 u 0 0 0) i) i = true then (dmV (u2 u 0 0 0) (dmv (u2 u 0 0 0) i) i, (dm (u2 u 0 0 0) i).2 + 1) else dm (u2 u 0 0 0) i := rfl
      show RT (dn v (i + 1)).1 (dm (u2 u 0 0 0) (i + 1)).1 tc ∧ RS (dn v (i + 1)).1 (dm (u2 u 0 0 0) (i + 1)).1 ∧ (dn v (i + 1)).2 = (dm (u2 u 0 0 0) (i + 1)).2
      rw [hs1, hs2, ← hPP]
      by_cases hp : dnP (dnv v i) i = true
      · rw [if_pos hp, if_pos hp]
        have ha0 : 0 < a := by
          apply Nat.pos_of_ne_zero
          intro z
          unfold dnP at hp
          rw [es, a2, z] at hp
          simp at hp
          exact absurd hp.2 (by decide)
        obtain ⟨c, rfl⟩ : ∃ c, a = c + 1 := ⟨a - 1, by omega⟩
        have htc := p7 i (by omega)
        have ht8 := iT.1
        obtain ⟨t1, t2, t3, t4, t5⟩ := iT.2.2.2.1 (d 5 i) htc
        refine ⟨?_, ?_, by rw [ic]⟩
        · show RT (dnV (dnv v i) i) (dmV (u2 u 0 0 0) (dmv (u2 u 0 0 0) i) i) tc
          unfold dnV dmV
          rw [es, et, es2, et2]
          refine RT_mod iT htc (fun q j h1 h2 h3 => by rw [kp_o h3, u2_ne h2, u2_ne (by omega)]) (fun q j h1 => by rw [kpM_o (by omega), u2_at, if_neg (by omega), u2_ne (by omega)]) ⟨?_, ?_, ?_, ?_, ?_⟩
          · rw [kp_o (by omega), kpM_o (by omega), u2_at, if_neg (by omega), u2_ne (by omega), u2_ne (by decide), u2_ne (by decide)]; exact t1
          · rw [kp_o (by omega), kpM_o (by omega), u2_at, if_neg (by omega), u2_ne (by omega), u2_ne (by decide), u2_ne (by decide)]; exact t2
          · rw [kp_o (by omega), kpM_o (by omega), u2_eq, u2_eq]; exact ⟨0, by omega, rfl, rfl⟩
          · rw [kp_o (by omega), kpM_o (by omega), u2_at, if_neg (by omega), u2_ne (by omega), u2_ne (by decide), u2_ne (by decide)]; exact t4
          · exact kp_TR (fun k hk => by rw [u2_ne (by omega), u2_ne (by omega), u2_ne (by decide), u2_ne (by decide)]; exact t5 k hk)
        · show RS (dnV (dnv v i) i) (dmV (u2 u 0 0 0) (dmv (u2 u 0 0 0) i) i)
          unfold dnV dmV
          rw [es, et, es2, et2]
          intro q hq
          rw [kp_o (by omega), kpM_o (by omega), u2_ne (r := 2 + d 5 i) (by omega), u2_ne (r := 3) (by decide), u2_at, u2_at]
          by_cases e : q = d 7 i
          · rw [if_pos ⟨rfl, e⟩, if_pos ⟨rfl, e⟩, a2, a3, nI_pred]
            exact ⟨c, by omega, rfl, rfl⟩
          · rw [if_neg (fun z => e z.2), if_neg (fun z => e z.2)]
            exact iS q hq
      · rw [if_neg hp, if_neg hp]
        exact ⟨iT, iS, ic⟩
theorem m_done (h : RA v u tc d gc pc rc) (hc : Zo (qW_done v sd gc pc rc) (xW_done v gc pc rc) [(sISE, 1)] v sd k r v' sd') (hm : qM_done u sd rc b u' sd2) : Ag k r b v' u' sd' sd2 := by
  rcases hc with ⟨rfl, hp, rfl, rfl, rfl⟩ | ⟨cls, ⟨hp, rfl⟩, hmem, rfl, rfl⟩
  · obtain ⟨iT, iS, ic⟩ := dn_dm h hp rc (Nat.le_refl _)
    have hPI := h.PI
    have hth : ∀ i, i < rc → th v i < 8 := fun i hi => (PI_th hPI hi).2
    have hP := h.2.2.1
    obtain ⟨p0, p1, p2, ⟨d1, d2, d3, d4, d5⟩, ⟨c1, c2, c3, c4, c5⟩, ⟨m1, m2, m3, m4, m5, m6, m7, m8⟩, ⟨n1, n2, n3⟩, p7⟩ := hP
    have hv : ∀ a, 19 ≤ a → dnv v rc a = v a := fun a ha => dn_row p2 hth (by omega) rc (Nat.le_refl _)
    have hu : ∀ a, a ≠ 3 → a ≠ 5 → a ≠ 15 → dmv (u2 u 0 0 0) rc a = u2 u 0 0 0 a := fun a q1 q2 q3 => dm_row q1 q2 q3 rc
    rcases hm with ⟨_, rfl, rfl, rfl⟩ | ⟨hn, _⟩
    · refine ⟨?_, fun _ => by rw [ic], rfl, tc, d, gc, pc, 0, ?_, ?_, ⟨p0, p1, by omega, ⟨d1, d2, fun i hi => absurd hi (by omega), d4, d5⟩, ⟨fun g hg => ?_, fun p hp => ?_, fun i hi => absurd hi (by omega), ?_, ?_⟩, ⟨fun g hg => ?_, fun p hp => ?_, fun i hi => absurd hi (by omega), ?_, ?_, ?_, ?_, ?_⟩, ⟨?_, ?_, ?_⟩, fun i hi => absurd hi (by omega)⟩, Or.inl ⟨u2_eq _ _ _ _, u2_eq _ _ _ _⟩⟩
      · rw [u2_at, if_neg (by omega), u2_at, if_neg (by omega), hu _ (by decide) (by decide) (by decide)]; exact u2_eq _ _ _ _
      · exact RT_of iT (fun a j q => by rw [u2_ne (by omega), u2_ne (by omega)]) (fun a j q => by rw [u2_at, if_neg (by omega), u2_at, if_neg (by omega)])
      · exact RS_of iS (by rw [u2_ne (by omega), u2_ne (by omega)]) (by rw [u2_ne (by omega), u2_ne (by omega)])
      · rw [u2_ne (by omega), u2_ne (by omega), hv _ (by omega)]; exact c1 g hg
      · rw [u2_ne (by omega), u2_ne (by omega), hv _ (by omega)]; exact c2 p hp
      · rw [u2_ne (by omega), u2_at, if_neg (by omega), hv _ (by omega)]; exact c4
      · rw [u2_ne (by omega), u2_at, if_neg (by omega), hv _ (by omega)]; exact c5
      · rw [u2_ne (by omega), u2_ne (by omega), u2_ne (by omega), u2_ne (by omega), hu _ (by omega) (by omega) (by omega), hu _ (by omega) (by omega) (by omega), u2_ne (by omega), u2_ne (by omega)]; exact m1 g hg
      · rw [u2_ne (by omega), u2_ne (by omega), u2_ne (by omega), u2_ne (by omega), u2_ne (by omega), u2_ne (by omega), hu _ (by omega) (by omega) (by omega), hu _ (by omega) (by omega) (by omega), hu _ (by omega) (by omega) (by omega), u2_ne (by omega), u2_ne (by omega), u2_ne (by omega)]; exact m2 p hp
      · rw [u2_at, if_neg (by omega), u2_at, if_neg (by omega), hu _ (by decide) (by decide) (by decide), u00 _ (by omega)]; exact m4
      · rw [u2_at, if_neg (by omega), u2_at, if_neg (by omega), hu _ (by decide) (by decide) (by decide), u00 _ (by omega)]; exact m5
      · rw [u2_at, if_neg (by omega), u2_at, if_neg (by omega), hu _ (by decide) (by decide) (by decide), u00 _ (by omega)]; exact m6
      · rw [u2_at, if_neg (by omega), u2_at, if_neg (by omega), hu _ (by decide) (by decide) (by decide), u00 _ (by omega)]; exact m7
      · rw [u2_at, if_neg (by omega), u2_eq]; rfl
      · rw [u2_ne (by omega), u2_at, if_neg (by omega), hv _ (by omega)]; exact n1
      · rw [u2_ne (by omega), u2_at, if_neg (by omega), hv _ (by omega)]; exact n2
      · rw [u2_ne (by omega), u2_eq]; rfl
    · rcases h.2.2.2 with ⟨q1, -⟩ | ⟨-, -, -, -, q5⟩
      · exact absurd q1 hp
      · rw [q5.1] at hn
        exact absurd hn (by decide)
  · have hk : k = 1 := by simpa [sIAE, sUOE, sIOE, sISE] using hmem
    subst hk
    rcases h.2.2.2 with ⟨-, q1⟩ | ⟨q2, -⟩
    · rcases hm with ⟨hn, _⟩ | ⟨_, rfl, rfl, rfl⟩
      · exact absurd q1 hn
      · exact ⟨u2_eq _ _ _ _, fun q => absurd q (by decide), rfl, h.o 1⟩
    · rw [q2] at hp
      exact absurd hp (by decide)
end Match4
