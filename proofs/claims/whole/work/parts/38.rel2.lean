/-! each call's two answers agree: things -/
theorem ix_eq {i j n : Nat} (hn : n ≤ 8) (hi : i < n) (hj : j < n) (e : nI i = nI j) : j = i := ((nI_eq (by omega) (by omega)).mp e).symm
theorem bar_eq {v u : Nat → Nat → Int32} {i : Nat} (h : TR v u i) : barZ v i = barM u i := by
  obtain ⟨-, ⟨a, -, -, e1, e2⟩, ⟨c, -, e3, e4⟩, e5, -⟩ := h
  unfold barZ barM
  rw [e1, e2, e3, e4]
  rcases e5 with ⟨f1, f2⟩ | ⟨f1, f2⟩
  · rw [f1, f2, if_neg (by decide), if_pos rfl]
  · rw [f1, f2, if_pos rfl, if_neg (by decide)]
theorem wth_up {x : Int32} {n : Nat} (hn : n + 1 < 2 ^ 31) : ¬ wthZ x 0 (nI n) = 0 ↔ (¬ x < 0 ∧ x < nI (n + 1)) := by
  constructor
  · intro h
    obtain ⟨k, k1, k2, rfl⟩ := wth_nat (a := 0) (b := n) (by decide) (by omega) h
    exact ⟨nI_pos (by omega), nI_lt (by omega) hn⟩
  · rintro ⟨h1, h2⟩
    unfold wthZ
    obtain ⟨k, k1, rfl⟩ := nI_of h1
    have := (nI_ltI k1 hn).mp h2
    rw [if_neg h1, if_neg (nI_nlt (by omega) (by omega))]
    decide
theorem mx_sub {a c : Nat} (ha : a < 2 ^ 30) (hc : c < 2 ^ 30) : (if 0 < nI a - nI c then nI a - nI c else 0) = if nI a ≤ nI c then 0 else nI a - nI c := by
  by_cases h : a ≤ c
  · rw [if_pos (nI_le h (by omega)), if_neg]
    intro q
    have e := pk_sub_toInt ha hc
    rw [Int32.lt_iff_toInt_lt, e] at q
    have e0 : (0 : Int32).toInt = 0 := rfl
    omega
  · rw [if_neg (nI_ge (by omega) (by omega)), if_pos]
    have e := pk_sub_toInt ha hc
    rw [Int32.lt_iff_toInt_lt, e]
    have e0 : (0 : Int32).toInt = 0 := rfl
    omega
/-! the drawn number -/
def uN (x : Int64) : Nat := x.toUInt64.toNat
theorem uN_lt (x : Int64) : uN x < 18446744073709551616 := x.toUInt64.toNat_lt
theorem uN_inj {x y : Int64} (h : uN x = uN y) : x = y := congrArg UInt64.toInt64 (UInt64.toNat_inj.mp h)
theorem uN_shl (x : Int64) : uN (x <<< ((1 : Int32).toInt64 &&& 63)) = (2 * uN x) % 18446744073709551616 := by
  have h : (((1 : Int32).toInt64 &&& 63).toBitVec.smod 64).toNat = 1 := by decide
  show (x.toBitVec <<< (((1 : Int32).toInt64 &&& 63).toBitVec.smod 64).toNat).toNat = _
  rw [h, BitVec.toNat_shiftLeft, Nat.shiftLeft_eq, Nat.mul_comm]
  rfl
theorem uN_shr (x : Int64) (s : UInt64) : uN (x.toUInt64 >>> s).toInt64 = uN x / 2 ^ (s.toNat % 64) := by
  show (x.toUInt64 >>> s).toNat = _
  rw [UInt64.toNat_shiftRight, Nat.shiftRight_eq_div_pow]
  rfl
theorem uN_max (x : Int64) : uN (x &&& 9223372036854775807) = uN x % 9223372036854775808 := by
  show (x.toUInt64 &&& Int64.toUInt64 9223372036854775807).toNat = _
  rw [UInt64.toNat_and]
  exact Nat.and_two_pow_sub_one_eq_mod _ 63
theorem shZ_eq (x : Int64) : shZ x = x &&& 9223372036854775807 := by
  apply uN_inj
  unfold shZ ush
  have h : ((1 : Int32).toInt64.toUInt64 &&& Int64.toUInt64 63).toNat % 64 = 1 := by decide
  rw [uN_shr, h, uN_shl, uN_max]
  have := uN_lt x
  omega
theorem max_nat (x : Int64) : ∃ n, n < 9223372036854775808 ∧ x &&& 9223372036854775807 = lN n := by
  have h1 := uN_max x
  refine ⟨uN x % 9223372036854775808, by omega, uN_inj ?_⟩
  rw [h1]
  show _ = (UInt64.ofNat (uN x % 9223372036854775808)).toNat
  rw [UInt64.toNat_ofNat']
  exact (Nat.mod_eq_of_lt (by show _ < 18446744073709551616; omega)).symm
theorem place_eq {i n : Nat} (hi : i < 8) (hn : n ≤ 1000) : 1001 * (nI i).toInt64 + (nI n).toInt64 + 1 = (nI (1001 * i) + nI n + 1).toInt64 := by
  rw [nI_add, nI_1, nI_l (by omega), nI_l (by omega), nI_l (by omega), show (1001 : Int64) = lN 1001 from rfl, lN_mul, lN_add, lN_1]
theorem lfD_nat {a n : Nat} (ha : a ≤ 1000000) (hn : n < 9223372036854775808) : ∃ c, c < 2 ^ 30 ∧ lfD (nI a) (lN n) = nI c := by
  unfold lfD
  rw [show (101 : Int64) = lN 101 from rfl, pk_lRem (by omega) (by omega) (by omega), lN_i, show (50 : Int32) = nI 50 from rfl, nI_add, pk_mul, show (100 : Int32) = nI 100 from rfl]
  have h1 : n % 101 < 101 := Nat.mod_lt _ (by omega)
  have h2 : a * (50 + n % 101) ≤ 1000000 * 150 := Nat.mul_le_mul ha (by omega)
  rw [pk_div (by omega) (by omega) (by omega)]
  exact ⟨_, by omega, rfl⟩
section Match2
variable {v u v' u' : Nat → Nat → Int32} {sd sd' sd2 : Int64} {tc gc pc rc : Nat} {d : Nat → Nat → Nat} {x y z w k : Int32} {r b : Option Value}
theorem kp_o {i a : Nat} {x : Int32} (h : a ≠ 10 + i) (j : Nat) : kp v i x a j = v a j := if_neg h
theorem kpM_o {i a j : Nat} {x : Int32} (h : ¬ (a = 5 ∧ 5 * i ≤ j ∧ j < 5 * i + 5)) : kpM u i x a j = u a j := if_neg h
theorem kp_TR {i : Nat} {x : Int32} (h : ∀ k, k < 5 → v (10 + i) k = u 5 (5 * i + k)) : ∀ k, k < 5 → kp v i x (10 + i) k = kpM u i x 5 (5 * i + k) := by
  intro k hk
  unfold kp kpM
  rw [if_pos (show 10 + i = 10 + i from rfl), if_pos (show (5 : Nat) = 5 ∧ 5 * i ≤ 5 * i + k ∧ 5 * i + k < 5 * i + 5 from ⟨rfl, by omega, by omega⟩)]
  by_cases e : k = 0
  · rw [if_pos e, if_pos (by omega)]
  · rw [if_neg e, if_pos (by omega), if_neg (by omega), h _ (by omega)]
    congr 1
    omega
theorem m_use (h : RA v u tc d gc pc rc) (hc : Zo (qW_use v sd tc x y) (xW_use v tc x y) [(sIOE, 1), (sISE, 2), (sIAE, 3)] v sd k r v' sd') (hm : qM_use u sd tc x y b u' sd2) : Ag k r b v' u' sd' sd2 := by
  have ht8 := h.1.1
  have hTR := h.1.2.2.2.1
  rcases hc with ⟨rfl, i, hi, rfl, hb, hu, rfl, rfl, rfl⟩ | ⟨cls, hx, hmem, rfl, rfl⟩
  · rcases hm with ⟨j, hj, e, hb2, _, rfl, rfl, rfl⟩ | ⟨hn, _⟩ | ⟨j, hj, e, hb2, _⟩ | ⟨j, hj, e, _, hn, _⟩
    · have e := ix_eq ht8 hi hj e
      subst e
      obtain ⟨a1, ⟨bd, bd1, bd2, bd3, bd4⟩, ⟨s, s1, s2, s3⟩, a4, a5⟩ := hTR j hi
      obtain ⟨c, c1, c2, rfl⟩ := wth_nat (a := 1) (b := 1000000) (by decide) (by decide) hu
      have hlt : s < bd := by
        unfold barZ at hb
        by_cases q : v (2 + j) 3 = 0
        · rw [if_pos q] at hb; exact absurd hb (by decide)
        · rw [if_neg q, s2, bd3] at hb
          by_cases q2 : nI s < nI bd
          · exact (nI_ltI (by omega) (by omega)).mp q2
          · rw [if_neg q2] at hb; exact absurd hb (by decide)
      refine ⟨by simp [kpM, u2_at], fun _ => by rw [s2, s3], rfl, tc, d, gc, pc, rc, ?_, ?_, ?_, ?_⟩
      · refine RT_mod h.1 hi (fun a q h1 h2 h3 => by rw [kp_o h3, u2_ne h2]) (fun a q h1 => by rw [kpM_o (by omega), u2_at, if_neg (by omega), u00 _ (by omega)]) ⟨?_, ?_, ?_, ?_, ?_⟩
        · rw [kp_o (by omega), kpM_o (by omega), u2_at, if_neg (by omega), u2_ne (by decide), u00 _ (by omega)]; exact a1
        · rw [kp_o (by omega), kpM_o (by omega), u2_at, if_neg (by omega), u2_ne (by decide), u00 _ (by omega)]; exact ⟨bd, bd1, bd2, bd3, bd4⟩
        · rw [kp_o (by omega), kpM_o (by omega), u2_eq, u2_eq, s2, s3, nI_add]; exact ⟨s + c, by omega, rfl, rfl⟩
        · rw [kp_o (by omega), kpM_o (by omega), u2_at, if_neg (by omega), u2_ne (by decide), u00 _ (by omega)]; exact a4
        · exact kp_TR (fun k hk => by rw [u2_ne (by omega), u2_ne (by decide), u00 _ (by omega)]; exact a5 k hk)
      · exact RS_of h.2.1 (by funext q; rw [kp_o (by omega), u2_ne (by omega)]) (by funext q; rw [kpM_o (by omega), u2_ne (by decide), u2_ne (by decide)])
      · exact RP_of h.2.2.1 (Nat.le_refl _) (fun a q h1 => by rw [kp_o (by omega), u2_ne (by omega)]) (fun a q h1 => by rw [kpM_o (by omega), u2_ne (by omega), u00 _ (by omega)])
      · exact RN_of h.2.2.2 h.2.2.1.2.2.2.1 h.2.2.1.2.2.1 (fun a q h1 => by rw [kp_o (by omega), u2_ne (by omega)]) ⟨by rw [kpM_o (by omega), u2_ne (by decide), u00 _ (by omega)], by rw [kpM_o (by omega), u2_ne (by decide), u00 _ (by omega)], by funext q; rw [kpM_o (by omega), u2_ne (by decide), u2_ne (by decide)], by funext q; rw [kpM_o (by omega), u2_ne (by decide), u2_ne (by decide)]⟩
    · exact absurd ⟨i, hi, rfl⟩ hn
    · have e := ix_eq ht8 hi hj e
      subst e
      rw [← bar_eq (hTR _ hi)] at hb2
      exact absurd hb hb2
    · exact absurd hn hu
  · rcases hx with ⟨hx, rfl⟩ | ⟨i, hi, rfl, hb, rfl⟩ | ⟨i, hi, rfl, hb, hu, rfl⟩
    · have hk : k = 1 := by simpa [sIAE, sUOE, sIOE, sISE] using hmem
      subst hk
      rcases hm with ⟨j, hj, e, _⟩ | ⟨_, rfl, rfl, rfl⟩ | ⟨j, hj, e, _⟩ | ⟨j, hj, e, _⟩
      · exact absurd ⟨j, hj, e⟩ hx
      · exact ⟨u2_eq _ _ _ _, fun q => absurd q (by decide), rfl, h.o 1⟩
      · exact absurd ⟨j, hj, e⟩ hx
      · exact absurd ⟨j, hj, e⟩ hx
    · have hk : k = 2 := by simpa [sIAE, sUOE, sIOE, sISE] using hmem
      subst hk
      rw [bar_eq (hTR _ hi)] at hb
      rcases hm with ⟨j, hj, e, hb2, _⟩ | ⟨hn, _⟩ | ⟨j, hj, e, _, rfl, rfl, rfl⟩ | ⟨j, hj, e, hb2, _⟩
      · have e := ix_eq ht8 hi hj e
        subst e
        exact absurd hb2 hb
      · exact absurd ⟨i, hi, rfl⟩ hn
      · exact ⟨u2_eq _ _ _ _, fun q => absurd q (by decide), rfl, h.o 2⟩
      · have e := ix_eq ht8 hi hj e
        subst e
        exact absurd hb2 hb
    · have hk : k = 3 := by simpa [sIAE, sUOE, sIOE, sISE] using hmem
      subst hk
      rw [bar_eq (hTR _ hi)] at hb
      rcases hm with ⟨j, hj, e, hb2, hn, _⟩ | ⟨hn, _⟩ | ⟨j, hj, e, hb2, _⟩ | ⟨j, hj, e, _, _, rfl, rfl, rfl⟩
      · exact absurd hu hn
      · exact absurd ⟨i, hi, rfl⟩ hn
      · have e := ix_eq ht8 hi hj e
        subst e
        exact absurd hb hb2
      · exact ⟨u2_eq _ _ _ _, fun q => absurd q (by decide), rfl, h.o 3⟩
theorem m_told (h : RA v u tc d gc pc rc) (hc : Zo (qW_told v sd tc x y) (xW_told v tc x y) [(sIOE, 1)] v sd k r v' sd') (hm : qM_told u sd tc x y b u' sd2) : Ag k r b v' u' sd' sd2 := by
  have ht8 := h.1.1
  have hTR := h.1.2.2.2.1
  have hw := wth_up (x := y) (n := 2) (by decide)
  rcases hc with ⟨rfl, i, hi, rfl, hy, rfl, rfl, rfl⟩ | ⟨cls, hx, hmem, rfl, rfl⟩
  · rcases hm with ⟨j, hj, e, _, rfl, rfl, rfl⟩ | ⟨hn, _⟩
    · have e := ix_eq ht8 hi hj e
      subst e
      refine ⟨u2_eq _ _ _ _, fun _ => ?_, rfl, h.o 0⟩
      have hb := bar_eq (hTR _ hi)
      obtain ⟨a1, ⟨bd, bd1, bd2, bd3, bd4⟩, ⟨s, s1, s2, s3⟩, a4, a5⟩ := hTR j hi
      rw [hb, s2, s3, bd3, bd4, mx_sub (by omega) (by omega)]
    · exact absurd ⟨⟨i, hi, rfl⟩, hw.mpr hy⟩ hn
  · have hk : k = 1 := by
      rcases hx with ⟨_, rfl⟩ | ⟨_, _, _, _, rfl⟩ <;> simpa [sIAE, sUOE, sIOE, sISE] using hmem
    subst hk
    rcases hm with ⟨j, hj, e, hn, _⟩ | ⟨_, rfl, rfl, rfl⟩
    · rcases hx with ⟨hx, _⟩ | ⟨i, hi, _, hy, _⟩
      · exact absurd ⟨j, hj, e⟩ hx
      · have := hw.mp hn
        rcases hy with hy | hy
        · exact absurd hy this.1
        · exact absurd this.2 hy
    · exact ⟨u2_eq _ _ _ _, fun q => absurd q (by decide), rfl, h.o 1⟩
theorem m_left (h : RA v u tc d gc pc rc) (hc : Zo (qW_left v sd tc x y) (xW_left v tc x y) [(sIOE, 1), (sIAE, 2)] v sd k r v' sd') (hm : qM_left u sd tc x y b u' sd2) : Ag k r b v' u' sd' sd2 := by
  have ht8 := h.1.1
  have hTR := h.1.2.2.2.1
  rcases hc with ⟨rfl, i, hi, rfl, hy, rfl, rfl, rfl⟩ | ⟨cls, hx, hmem, rfl, rfl⟩
  · rcases hm with ⟨j, hj, e, _, rfl, rfl, rfl⟩ | ⟨hn, _⟩ | ⟨_, hn, _⟩
    · have e := ix_eq ht8 hi hj e
      subst e
      refine ⟨u2_eq _ _ _ _, fun _ => ?_, rfl, h.o 0⟩
      obtain ⟨⟨lf, l1, l2, l3, l4⟩, -, ⟨s, s1, s2, s3⟩, a4, a5⟩ := hTR j hi
      obtain ⟨n, n1, n2, rfl⟩ := wth_nat (a := 0) (b := 1000) (by decide) (by decide) hy
      have ez : lfZ sd j (nI n) = dr4 sd (1001 * (nI j).toInt64 + (nI n).toInt64 + 1) &&& 9223372036854775807 := by
        unfold lfZ
        rw [shZ_eq, place_eq (by omega) n2]
      obtain ⟨m, m1, m2⟩ := max_nat (dr4 sd (1001 * (nI j).toInt64 + (nI n).toInt64 + 1))
      obtain ⟨c, c1, c2⟩ := lfD_nat l2 m1
      have c3 : nI lf * (50 + (lN m - lN m / 101 * 101).toInt32) / 100 = nI c := c2
      rw [ez, m2, s2, s3, l3, l4, c2, c3, mx_sub c1 (by omega)]
    · exact absurd ⟨i, hi, rfl⟩ hn
    · exact absurd hn hy
  · rcases hx with ⟨hx, rfl⟩ | ⟨i, hi, rfl, hy, rfl⟩
    · have hk : k = 1 := by simpa [sIAE, sUOE, sIOE, sISE] using hmem
      subst hk
      rcases hm with ⟨j, hj, e, _⟩ | ⟨_, rfl, rfl, rfl⟩ | ⟨hn, _⟩
      · exact absurd ⟨j, hj, e⟩ hx
      · exact ⟨u2_eq _ _ _ _, fun q => absurd q (by decide), rfl, h.o 1⟩
      · exact absurd hn hx
    · have hk : k = 2 := by simpa [sIAE, sUOE, sIOE, sISE] using hmem
      subst hk
      rcases hm with ⟨j, hj, e, hn, _⟩ | ⟨hn, _⟩ | ⟨_, _, rfl, rfl, rfl⟩
      · exact absurd hy hn
      · exact absurd ⟨i, hi, rfl⟩ hn
      · exact ⟨u2_eq _ _ _ _, fun q => absurd q (by decide), rfl, h.o 2⟩
theorem m_permit (h : RA v u tc d gc pc rc) (hy : y = 0 ∨ y = 1) (hc : Zo (qW_permit v sd tc x y) (xW_permit v tc x y) [(sIOE, 1), (sUOE, 2)] v sd k r v' sd') (hm : qM_permit u sd tc x y b u' sd2) : Ag k r b v' u' sd' sd2 := by
  have ht8 := h.1.1
  have hTR := h.1.2.2.2.1
  have hiff : ∀ i, i < tc → (v (2 + i) 3 = y ↔ ¬ u 4 i = y) := by
    intro i hi
    obtain ⟨-, -, -, a4, -⟩ := hTR i hi
    rcases a4 with ⟨f1, f2⟩ | ⟨f1, f2⟩ <;> rw [f1, f2] <;> rcases hy with rfl | rfl <;> decide
  rcases hc with ⟨rfl, i, hi, rfl, hv3, rfl, rfl, rfl⟩ | ⟨cls, hx, hmem, rfl, rfl⟩
  · rcases hm with ⟨j, hj, e, _, rfl, rfl, rfl⟩ | ⟨hn, _⟩ | ⟨j, hj, e, hn, _⟩
    · have e := ix_eq ht8 hi hj e
      subst e
      obtain ⟨a1, a2, a3, a4, a5⟩ := hTR j hi
      refine ⟨by simp [kpM, u2_at], fun _ => rfl, rfl, tc, d, gc, pc, rc, ?_, ?_, ?_, ?_⟩
      · refine RT_mod h.1 hi (fun a q h1 h2 h3 => by rw [kp_o h3, u2_ne h2]) (fun a q h1 => by rw [kpM_o (by omega), u2_at, if_neg (by omega), u00 _ (by omega)]) ⟨?_, ?_, ?_, ?_, ?_⟩
        · rw [kp_o (by omega), kpM_o (by omega), u2_at, if_neg (by omega), u2_ne (by decide), u00 _ (by omega)]; exact a1
        · rw [kp_o (by omega), kpM_o (by omega), u2_at, if_neg (by omega), u2_ne (by decide), u00 _ (by omega)]; exact a2
        · rw [kp_o (by omega), kpM_o (by omega), u2_at, if_neg (by omega), u2_ne (by decide), u00 _ (by omega)]; exact a3
        · rw [kp_o (by omega), kpM_o (by omega), u2_eq, u2_eq]
          rcases hy with rfl | rfl
          · exact Or.inr ⟨rfl, if_pos rfl⟩
          · exact Or.inl ⟨rfl, if_neg (by decide)⟩
        · exact kp_TR (fun k hk => by rw [u2_ne (by omega), u2_ne (by decide), u00 _ (by omega)]; exact a5 k hk)
      · exact RS_of h.2.1 (by funext q; rw [kp_o (by omega), u2_ne (by omega)]) (by funext q; rw [kpM_o (by omega), u2_ne (by decide), u2_ne (by decide)])
      · exact RP_of h.2.2.1 (Nat.le_refl _) (fun a q h1 => by rw [kp_o (by omega), u2_ne (by omega)]) (fun a q h1 => by rw [kpM_o (by omega), u2_ne (by omega), u00 _ (by omega)])
      · exact RN_of h.2.2.2 h.2.2.1.2.2.2.1 h.2.2.1.2.2.1 (fun a q h1 => by rw [kp_o (by omega), u2_ne (by omega)]) ⟨by rw [kpM_o (by omega), u2_ne (by decide), u00 _ (by omega)], by rw [kpM_o (by omega), u2_ne (by decide), u00 _ (by omega)], by funext q; rw [kpM_o (by omega), u2_ne (by decide), u2_ne (by decide)], by funext q; rw [kpM_o (by omega), u2_ne (by decide), u2_ne (by decide)]⟩
    · exact absurd ⟨i, hi, rfl⟩ hn
    · have e := ix_eq ht8 hi hj e
      subst e
      exact absurd ((hiff _ hi).mpr hn) hv3
  · rcases hx with ⟨hx, rfl⟩ | ⟨i, hi, rfl, hv3, rfl⟩
    · have hk : k = 1 := by simpa [sIAE, sUOE, sIOE, sISE] using hmem
      subst hk
      rcases hm with ⟨j, hj, e, _⟩ | ⟨_, rfl, rfl, rfl⟩ | ⟨j, hj, e, _⟩
      · exact absurd ⟨j, hj, e⟩ hx
      · exact ⟨u2_eq _ _ _ _, fun q => absurd q (by decide), rfl, h.o 1⟩
      · exact absurd ⟨j, hj, e⟩ hx
    · have hk : k = 2 := by simpa [sIAE, sUOE, sIOE, sISE] using hmem
      subst hk
      rcases hm with ⟨j, hj, e, hn, _⟩ | ⟨hn, _⟩ | ⟨_, _, _, _, rfl, rfl, rfl⟩
      · have e := ix_eq ht8 hi hj e
        subst e
        exact absurd hn ((hiff _ hi).mp hv3)
      · exact absurd ⟨i, hi, rfl⟩ hn
      · exact ⟨u2_eq _ _ _ _, fun q => absurd q (by decide), rfl, h.o 2⟩
theorem m_history (h : RA v u tc d gc pc rc) (hc : Zo (qW_history v sd tc x y) (xW_history v tc x y) [(sIOE, 1)] v sd k r v' sd') (hm : qM_history u sd tc x y b u' sd2) : Ag k r b v' u' sd' sd2 := by
  have ht8 := h.1.1
  have hTR := h.1.2.2.2.1
  rcases hc with ⟨rfl, i, hi, rfl, hy, rfl, rfl, rfl⟩ | ⟨cls, hx, hmem, rfl, rfl⟩
  · rcases hm with ⟨j, hj, e, _, rfl, rfl, rfl⟩ | ⟨hn, _⟩
    · have e := ix_eq ht8 hi hj e
      subst e
      refine ⟨u2_eq _ _ _ _, fun _ => ?_, rfl, h.o 0⟩
      obtain ⟨-, -, -, -, a5⟩ := hTR j hi
      rw [if_neg hy]
      by_cases h5 : 5 ≤ y
      · rw [if_pos h5, if_pos h5]
      · obtain ⟨k, k1, rfl⟩ := chg_ix hy h5
        rw [if_neg h5, if_neg h5, nI_clamp (by omega), a5 k k1]
    · exact absurd ⟨⟨i, hi, rfl⟩, hy⟩ hn
  · have hk : k = 1 := by
      rcases hx with ⟨_, rfl⟩ | ⟨_, _, _, _, rfl⟩ <;> simpa [sIAE, sUOE, sIOE, sISE] using hmem
    subst hk
    rcases hm with ⟨j, hj, e, hn, _⟩ | ⟨_, rfl, rfl, rfl⟩
    · rcases hx with ⟨hx, _⟩ | ⟨i, hi, _, hy, _⟩
      · exact absurd ⟨j, hj, e⟩ hx
      · exact absurd hy hn
    · exact ⟨u2_eq _ _ _ _, fun q => absurd q (by decide), rfl, h.o 1⟩
theorem m_spare (h : RA v u tc d gc pc rc) (hc : Zo (qW_spare v sd x y) (xW_spare v x y) [(sIOE, 1), (sIAE, 2), (sUOE, 3)] v sd k r v' sd') (hm : qM_spare u sd x y b u' sd2) : Ag k r b v' u' sd' sd2 := by
  rcases hc with ⟨rfl, i, hi, rfl, hy, hle, rfl, rfl, rfl⟩ | ⟨cls, hx, hmem, rfl, rfl⟩
  · rcases hm with ⟨j, hj, e, _, _, rfl, rfl, rfl⟩ | ⟨hn, _⟩ | ⟨_, hn, _⟩ | ⟨j, hj, e, _, hn, _⟩
    · have e := ix_eq (by decide) hi hj e
      subst e
      obtain ⟨a, a1, a2, a3⟩ := h.2.1 j hi
      obtain ⟨c, c1, c2, rfl⟩ := wth_nat (a := 0) (b := 100) (by decide) (by decide) hy
      have hac : a + c ≤ 1000 := by
        rw [a2, nI_add] at hle
        exact (nI_leI (b := 1000) (by omega) (by decide)).mp hle
      refine ⟨by simp [u2_at], fun _ => by rw [a2, a3], rfl, tc, d, gc, pc, rc, ?_, fun q hq => ?_, ?_, ?_⟩
      · exact RT_of h.1 (fun a q h1 => by rw [u2_ne (by omega)]) (fun a q h1 => by rw [u2_ne (by omega), u00 _ (by omega)])
      · rw [u2_at, u2_at]
        by_cases e : q = j
        · rw [if_pos ⟨rfl, e⟩, if_pos ⟨rfl, e⟩, a2, a3, nI_add]
          exact ⟨a + c, hac, rfl, rfl⟩
        · rw [if_neg (fun z => e z.2), if_neg (fun z => e z.2), u00 _ (by omega)]
          exact h.2.1 q hq
      · exact RP_of h.2.2.1 (Nat.le_refl _) (fun a q h1 => by rw [u2_ne (by omega)]) (fun a q h1 => by rw [u2_ne (by omega), u00 _ (by omega)])
      · exact RN_of h.2.2.2 h.2.2.1.2.2.2.1 h.2.2.1.2.2.1 (fun a q h1 => by rw [u2_ne (by omega)]) ⟨by rw [u2_ne (by decide), u00 _ (by omega)], by rw [u2_ne (by decide), u00 _ (by omega)], by rw [u2_ne (by decide), u2_ne (by decide)], by rw [u2_ne (by decide), u2_ne (by decide)]⟩
    · exact absurd ⟨i, hi, rfl⟩ hn
    · exact absurd hn hy
    · have e := ix_eq (by decide) hi hj e
      subst e
      obtain ⟨a, a1, a2, a3⟩ := h.2.1 j hi
      rw [a2] at hle
      rw [a3] at hn
      exact absurd hle (Int32.not_le.mpr hn)
  · rcases hx with ⟨hx, rfl⟩ | ⟨hx, hy, rfl⟩ | ⟨i, hi, rfl, hy, hle, rfl⟩
    · have hk : k = 1 := by simpa [sIAE, sUOE, sIOE, sISE] using hmem
      subst hk
      rcases hm with ⟨j, hj, e, _⟩ | ⟨_, rfl, rfl, rfl⟩ | ⟨hn, _⟩ | ⟨j, hj, e, _⟩
      · exact absurd ⟨j, hj, e⟩ hx
      · exact ⟨u2_eq _ _ _ _, fun q => absurd q (by decide), rfl, h.o 1⟩
      · exact absurd hn hx
      · exact absurd ⟨j, hj, e⟩ hx
    · have hk : k = 2 := by simpa [sIAE, sUOE, sIOE, sISE] using hmem
      subst hk
      rcases hm with ⟨j, hj, e, hn, _⟩ | ⟨hn, _⟩ | ⟨_, _, rfl, rfl, rfl⟩ | ⟨j, hj, e, hn, _⟩
      · exact absurd hy hn
      · exact absurd hx hn
      · exact ⟨u2_eq _ _ _ _, fun q => absurd q (by decide), rfl, h.o 2⟩
      · exact absurd hy hn
    · have hk : k = 3 := by simpa [sIAE, sUOE, sIOE, sISE] using hmem
      subst hk
      obtain ⟨a, a1, a2, a3⟩ := h.2.1 i hi
      rcases hm with ⟨j, hj, e, _, hn, _⟩ | ⟨hn, _⟩ | ⟨_, hn, _⟩ | ⟨_, _, _, _, _, rfl, rfl, rfl⟩
      · have e := ix_eq (by decide) hi hj e
        subst e
        rw [a3] at hn
        rw [a2] at hle
        exact absurd (Int32.not_lt.mp hn) hle
      · exact absurd ⟨i, hi, rfl⟩ hn
      · exact absurd hn hy
      · exact ⟨u2_eq _ _ _ _, fun q => absurd q (by decide), rfl, h.o 3⟩
end Match2
