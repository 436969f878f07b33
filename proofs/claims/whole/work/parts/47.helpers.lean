/-! the law's helpers: contracts -/
theorem k_W_thing (l : Launch) (D : va_G) (cs : Nat → ClassId) (ad : Nat → Nat) (v : Nat → Nat → Int32) (sd : Int64) (hfl : l.flags = flags0) {tc : Nat} (htc : v 0 2 = nI tc) (ht8 : tc ≤ 8) (x y : Int32)  : Cm l y_W_thing b_W_thing 3 (some .int) (rmx 1 1) [.ref (ad 0), .int x, .int y] D cs ad v sd (qW_thing v sd tc x y) (xW_thing v tc x y) := c_W_thing l D cs ad v sd hfl htc ht8 x y
theorem k_M_thing (l : Launch) (D : va_G) (cs : Nat → ClassId) (ad : Nat → Nat) (v : Nat → Nat → Int32) (sd : Int64) {tc : Nat} (htc : v 0 2 = nI tc) (ht8 : tc ≤ 8) (x y : Int32)  : Dm l y_M_thing b_M_thing 4 (some .int) (rmx 1 0) [.ref (ad 0), .int x, .int y] D cs ad v sd (qM_thing v sd tc x y) (fun _ => False) := c_M_thing l D cs ad v sd htc ht8 x y
theorem k_W_use (l : Launch) (D : va_G) (cs : Nat → ClassId) (ad : Nat → Nat) (v : Nat → Nat → Int32) (sd : Int64) (hfl : l.flags = flags0) {tc : Nat} (htc : v 0 2 = nI tc) (ht8 : tc ≤ 8) (x y : Int32)  : Cm l y_W_use b_W_use 4 (some .int) (rmx 2 2) [.ref (ad 0), .int x, .int y] D cs ad v sd (qW_use v sd tc x y) (xW_use v tc x y) := c_W_use l D cs ad v sd hfl htc ht8 x y
theorem k_M_use (l : Launch) (D : va_G) (cs : Nat → ClassId) (ad : Nat → Nat) (v : Nat → Nat → Int32) (sd : Int64) {tc : Nat} (htc : v 0 2 = nI tc) (ht8 : tc ≤ 8) (x y : Int32)  : Dm l y_M_use b_M_use 4 (some .int) (rmx 2 0) [.ref (ad 0), .int x, .int y] D cs ad v sd (qM_use v sd tc x y) (fun _ => False) := c_M_use l D cs ad v sd htc ht8 x y
theorem k_W_told (l : Launch) (D : va_G) (cs : Nat → ClassId) (ad : Nat → Nat) (v : Nat → Nat → Int32) (sd : Int64) (hfl : l.flags = flags0) {tc : Nat} (htc : v 0 2 = nI tc) (ht8 : tc ≤ 8) (x y : Int32)  : Cm l y_W_told b_W_told 4 (some .int) (rmx 2 2) [.ref (ad 0), .int x, .int y] D cs ad v sd (qW_told v sd tc x y) (xW_told v tc x y) := c_W_told l D cs ad v sd hfl htc ht8 x y
theorem k_M_told (l : Launch) (D : va_G) (cs : Nat → ClassId) (ad : Nat → Nat) (v : Nat → Nat → Int32) (sd : Int64) {tc : Nat} (htc : v 0 2 = nI tc) (ht8 : tc ≤ 8) (x y : Int32)  : Dm l y_M_told b_M_told 3 (some .int) (rmx 2 0) [.ref (ad 0), .int x, .int y] D cs ad v sd (qM_told v sd tc x y) (fun _ => False) := c_M_told l D cs ad v sd htc ht8 x y
theorem k_W_left (l : Launch) (D : va_G) (cs : Nat → ClassId) (ad : Nat → Nat) (v : Nat → Nat → Int32) (sd : Int64) (hfl : l.flags = flags0) {tc : Nat} (htc : v 0 2 = nI tc) (ht8 : tc ≤ 8) (x y : Int32)  : Cm l y_W_left b_W_left 7 (some .int) (rmx 2 2) [.ref (ad 0), .int x, .int y] D cs ad v sd (qW_left v sd tc x y) (xW_left v tc x y) := c_W_left l D cs ad v sd hfl htc ht8 x y
theorem k_M_left (l : Launch) (D : va_G) (cs : Nat → ClassId) (ad : Nat → Nat) (v : Nat → Nat → Int32) (sd : Int64) {tc : Nat} (htc : v 0 2 = nI tc) (ht8 : tc ≤ 8) (x y : Int32)  : Dm l y_M_left b_M_left 7 (some .int) (rmx 2 0) [.ref (ad 0), .int x, .int y] D cs ad v sd (qM_left v sd tc x y) (fun _ => False) := c_M_left l D cs ad v sd htc ht8 x y
theorem k_W_permit (l : Launch) (D : va_G) (cs : Nat → ClassId) (ad : Nat → Nat) (v : Nat → Nat → Int32) (sd : Int64) (hfl : l.flags = flags0) {tc : Nat} (htc : v 0 2 = nI tc) (ht8 : tc ≤ 8) (x y : Int32) (h_y : y = 0 ∨ y = 1) : Cm l y_W_permit b_W_permit 4 none (rmx 2 2) [.ref (ad 0), .int x, .int y] D cs ad v sd (qW_permit v sd tc x y) (xW_permit v tc x y) := c_W_permit l D cs ad v sd hfl htc ht8 x y h_y
theorem k_M_permit (l : Launch) (D : va_G) (cs : Nat → ClassId) (ad : Nat → Nat) (v : Nat → Nat → Int32) (sd : Int64) {tc : Nat} (htc : v 0 2 = nI tc) (ht8 : tc ≤ 8) (x y : Int32)  : Dm l y_M_permit b_M_permit 4 none (rmx 2 0) [.ref (ad 0), .int x, .int y] D cs ad v sd (qM_permit v sd tc x y) (fun _ => False) := c_M_permit l D cs ad v sd htc ht8 x y
theorem k_W_history (l : Launch) (D : va_G) (cs : Nat → ClassId) (ad : Nat → Nat) (v : Nat → Nat → Int32) (sd : Int64) (hfl : l.flags = flags0) {tc : Nat} (htc : v 0 2 = nI tc) (ht8 : tc ≤ 8) (x y : Int32)  : Cm l y_W_history b_W_history 4 (some .int) (rmx 2 2) [.ref (ad 0), .int x, .int y] D cs ad v sd (qW_history v sd tc x y) (xW_history v tc x y) := c_W_history l D cs ad v sd hfl htc ht8 x y
theorem k_M_history (l : Launch) (D : va_G) (cs : Nat → ClassId) (ad : Nat → Nat) (v : Nat → Nat → Int32) (sd : Int64) {tc : Nat} (htc : v 0 2 = nI tc) (ht8 : tc ≤ 8) (x y : Int32)  : Dm l y_M_history b_M_history 3 (some .int) (rmx 2 0) [.ref (ad 0), .int x, .int y] D cs ad v sd (qM_history v sd tc x y) (fun _ => False) := c_M_history l D cs ad v sd htc ht8 x y
theorem k_W_gap (l : Launch) (D : va_G) (cs : Nat → ClassId) (ad : Nat → Nat) (v : Nat → Nat → Int32) (sd : Int64) (hfl : l.flags = flags0) {gc : Nat} (hgc : v 19 1 = nI gc) (hgl : gc ≤ 6) (x y : Int32)  : Cm l y_W_gap b_W_gap 3 (some .int) (rmx 1 2) [.ref (ad 0), .int x, .int y] D cs ad v sd (qW_gap v sd gc x y) (xW_gap v gc x y) := c_W_gap l D cs ad v sd hfl hgc hgl x y
theorem k_M_gap (l : Launch) (D : va_G) (cs : Nat → ClassId) (ad : Nat → Nat) (v : Nat → Nat → Int32) (sd : Int64) {gc : Nat} (hgc : v 0 8 = nI gc) (hg6 : gc ≤ 6) (x y : Int32)  : Dm l y_M_gap b_M_gap 3 (some .int) (rmx 2 0) [.ref (ad 0), .int x, .int y] D cs ad v sd (qM_gap v sd gc x y) (fun _ => False) := c_M_gap l D cs ad v sd hgc hg6 x y
theorem k_W_person (l : Launch) (D : va_G) (cs : Nat → ClassId) (ad : Nat → Nat) (v : Nat → Nat → Int32) (sd : Int64) (hfl : l.flags = flags0) {pc : Nat} (hpc : v 19 3 = nI pc) (hpl : pc ≤ 4) (x y z : Int32)  : Cm l y_W_person b_W_person 4 (some .int) (rmx 1 3) [.ref (ad 0), .int x, .int y, .int z] D cs ad v sd (qW_person v sd pc x y z) (xW_person v pc x y z) := c_W_person l D cs ad v sd hfl hpc hpl x y z
theorem k_M_person (l : Launch) (D : va_G) (cs : Nat → ClassId) (ad : Nat → Nat) (v : Nat → Nat → Int32) (sd : Int64) {pc : Nat} (hpc : v 0 11 = nI pc) (hp4 : pc ≤ 4) (x y z : Int32)  : Dm l y_M_person b_M_person 4 (some .int) (rmx 2 0) [.ref (ad 0), .int x, .int y, .int z] D cs ad v sd (qM_person v sd pc x y z) (fun _ => False) := c_M_person l D cs ad v sd hpc hp4 x y z
theorem k_W_repair (l : Launch) (D : va_G) (cs : Nat → ClassId) (ad : Nat → Nat) (v : Nat → Nat → Int32) (sd : Int64) (hfl : l.flags = flags0) {tc : Nat} (htc : v 0 2 = nI tc) (ht8 : tc ≤ 8) {rc : Nat} (hrc : v 19 5 = nI rc) (hrl : rc ≤ 5) (x y z w : Int32)  : Cm l y_W_repair b_W_repair 5 (some .int) (rmx 3 3) [.ref (ad 0), .int x, .int y, .int z, .int w] D cs ad v sd (qW_repair v sd tc rc x y z w) (xW_repair v tc rc x y z w) := c_W_repair l D cs ad v sd hfl htc ht8 hrc hrl x y z w
theorem k_M_repair (l : Launch) (D : va_G) (cs : Nat → ClassId) (ad : Nat → Nat) (v : Nat → Nat → Int32) (sd : Int64) {tc : Nat} (htc : v 0 2 = nI tc) (ht8 : tc ≤ 8) {rc : Nat} (hrc : v 0 15 = nI rc) (hr5 : rc ≤ 5) (x y z w : Int32)  : Dm l y_M_repair b_M_repair 5 (some .int) (rmx 2 0) [.ref (ad 0), .int x, .int y, .int z, .int w] D cs ad v sd (qM_repair v sd tc rc x y z w) (fun _ => False) := c_M_repair l D cs ad v sd htc ht8 hrc hr5 x y z w
theorem k_W_rules (l : Launch) (D : va_G) (cs : Nat → ClassId) (ad : Nat → Nat) (v : Nat → Nat → Int32) (sd : Int64) (hfl : l.flags = flags0) (x y : Int32)  : Cm l y_W_rules b_W_rules 3 none (rmx 1 1) [.ref (ad 0), .int x, .int y] D cs ad v sd (qW_rules v sd x y) (xW_rules v x y) := c_W_rules l D cs ad v sd hfl x y
theorem k_M_rules (l : Launch) (D : va_G) (cs : Nat → ClassId) (ad : Nat → Nat) (v : Nat → Nat → Int32) (sd : Int64) (x y : Int32)  : Dm l y_M_rules b_M_rules 3 none (rmx 1 0) [.ref (ad 0), .int x, .int y] D cs ad v sd (qM_rules v sd x y) (fun _ => False) := c_M_rules l D cs ad v sd x y
theorem k_W_plan (l : Launch) (D : va_G) (cs : Nat → ClassId) (ad : Nat → Nat) (v : Nat → Nat → Int32) (sd : Int64) {gc pc rc : Nat} (hPI : PI gc pc rc v)  : Cm l y_W_plan b_W_plan 1 (some .int) (rmx 19 0) [.ref (ad 0)] D cs ad v sd (qW_plan v sd gc pc rc) (xW_plan v gc pc rc) := c_W_plan l D cs ad v sd hPI
theorem k_M_plan (l : Launch) (D : va_G) (cs : Nat → ClassId) (ad : Nat → Nat) (v : Nat → Nat → Int32) (sd : Int64) {d : Nat → Nat → Nat} {gc pc rc : Nat} (hD : DB d gc pc rc) (hg6 : gc ≤ 6) (hp4 : pc ≤ 4) (hr5 : rc ≤ 5) (hM : MR v d gc pc rc)  : Dm l y_M_plan b_M_plan 5 (some .int) (rmx 3 0) [.ref (ad 0)] D cs ad v sd (qM_plan v sd d gc pc rc) (fun _ => False) := c_M_plan l D cs ad v sd hD hg6 hp4 hr5 hM
theorem k_W_at (l : Launch) (D : va_G) (cs : Nat → ClassId) (ad : Nat → Nat) (v : Nat → Nat → Int32) (sd : Int64) (hfl : l.flags = flags0) {rc : Nat} (hrc : v 19 5 = nI rc) (hrl : rc ≤ 5) (x y : Int32)  : Cm l y_W_at b_W_at 4 (some .int) (rmx 1 3) [.ref (ad 0), .int x, .int y] D cs ad v sd (qW_at v sd rc x y) (xW_at v rc x y) := c_W_at l D cs ad v sd hfl hrc hrl x y
theorem k_M_at (l : Launch) (D : va_G) (cs : Nat → ClassId) (ad : Nat → Nat) (v : Nat → Nat → Int32) (sd : Int64) {rc : Nat} (hrc : v 0 15 = nI rc) (hr5 : rc ≤ 5) {pc : Nat} (hpc : v 0 11 = nI pc) (hp4 : pc ≤ 4) (hdv : ¬ v 0 23 = 0 → ∀ i, i < rc → 0 ≤ v 16 i → 0 < pc) (x y : Int32)  : Dm l y_M_at b_M_at 3 (some .int) (rmx 1 0) [.ref (ad 0), .int x, .int y] D cs ad v sd (qM_at v sd rc pc x y) (fun _ => False) := c_M_at l D cs ad v sd hrc hr5 hpc hp4 hdv x y
theorem k_W_cost (l : Launch) (D : va_G) (cs : Nat → ClassId) (ad : Nat → Nat) (v : Nat → Nat → Int32) (sd : Int64) (hfl : l.flags = flags0)  : Cm l y_W_cost b_W_cost 1 (some .int) (rmx 1 1) [.ref (ad 0)] D cs ad v sd (qW_cost v sd ) (xW_cost v ) := c_W_cost l D cs ad v sd hfl
theorem k_M_cost (l : Launch) (D : va_G) (cs : Nat → ClassId) (ad : Nat → Nat) (v : Nat → Nat → Int32) (sd : Int64)   : Dm l y_M_cost b_M_cost 1 (some .int) (rmx 1 0) [.ref (ad 0)] D cs ad v sd (qM_cost v sd ) (fun _ => False) := c_M_cost l D cs ad v sd 
theorem k_W_done (l : Launch) (D : va_G) (cs : Nat → ClassId) (ad : Nat → Nat) (v : Nat → Nat → Int32) (sd : Int64) (hfl : l.flags = flags0) {gc pc rc : Nat} (hPI : PI gc pc rc v) (hSK : SK rc v)  : Cm l y_W_done b_W_done 4 (some .int) (rmx 3 1) [.ref (ad 0)] D cs ad v sd (qW_done v sd gc pc rc) (xW_done v gc pc rc) := c_W_done l D cs ad v sd hfl hPI hSK
theorem k_M_done (l : Launch) (D : va_G) (cs : Nat → ClassId) (ad : Nat → Nat) (v : Nat → Nat → Int32) (sd : Int64) {rc : Nat} (hMI : MI rc v)  : Dm l y_M_done b_M_done 3 (some .int) (rmx 1 0) [.ref (ad 0)] D cs ad v sd (qM_done v sd rc) (fun _ => False) := c_M_done l D cs ad v sd hMI
theorem k_W_spare (l : Launch) (D : va_G) (cs : Nat → ClassId) (ad : Nat → Nat) (v : Nat → Nat → Int32) (sd : Int64) (hfl : l.flags = flags0) (x y : Int32)  : Cm l y_W_spare b_W_spare 3 (some .int) (rmx 1 1) [.ref (ad 0), .int x, .int y] D cs ad v sd (qW_spare v sd x y) (xW_spare v x y) := c_W_spare l D cs ad v sd hfl x y
theorem k_M_spare (l : Launch) (D : va_G) (cs : Nat → ClassId) (ad : Nat → Nat) (v : Nat → Nat → Int32) (sd : Int64) (x y : Int32)  : Dm l y_M_spare b_M_spare 5 (some .int) (rmx 1 0) [.ref (ad 0), .int x, .int y] D cs ad v sd (qM_spare v sd x y) (fun _ => False) := c_M_spare l D cs ad v sd x y
theorem sub_A {n : Nat} {ad : Nat → Nat} {a b : Nat} (h : a ≤ b) : ∀ q, aA n ad b q → aA n ad a q := by
  rintro q (h1 | h1)
  · exact Or.inl h1
  · exact Or.inr (Nat.le_trans h h1)
set_option maxHeartbeats 4000000 in
set_option maxRecDepth 100000 in
theorem c_Z_thing (l : Launch) (D : va_G) (cs : Nat → ClassId) (ad : Nat → Nat) (w : Nat) (v : Nat → Nat → Int32) (sd : Int64) (hfl : l.flags = flags0) {tc : Nat} (htc : v 0 2 = nI tc) (ht8 : tc ≤ 8) (x y : Int32) : Zm l y_Z_thing b_Z_thing 5 [(0, 10, 13, 13), (0, 10, 17, 15)] (rmx 2 1) [.ref (ad 0), .int x, .int y, .ref w] D cs ad w v sd (qW_thing v sd tc x y) (xW_thing v tc x y) [(sIAE, 1), (sUOE, 2)] := by
  refine zm_enter rfl (Nat.le_of_ble_eq_true rfl) ?_
  intro p e s m below meth c ls f K htab hlk hret hap hne hS hP hO hl
  have hl : lv_has ls 5 [(0, .ref (ad 0)), (1, .int x), (2, .int y), (3, .ref w)] := hl
  refine lv_aload_n K.hx K.hb d_Z_thing_0 rfl (lv_at hl 3 rfl) ?_
  refine lv_iconst (v := 0) K.hx K.hb d_Z_thing_1 (by decide) ?_
  refine lv_aload_n K.hx K.hb d_Z_thing_2 rfl (lv_at hl 0 rfl) ?_
  refine lv_iload_n K.hx K.hb d_Z_thing_3 rfl (lv_at hl 1 rfl) ?_
  refine lv_iload_n K.hx K.hb d_Z_thing_4 rfl (lv_at hl 2 rfl) ?_
  refine zc_V K hap hP hS (fun q hq => Or.inl (sub_A hS.1 q hq)) (k_W_thing l D cs ad v sd hfl htc ht8 x y) kw_317 xm_W_thing kw_314 kw_315 kw_316 rfl hl.1 d_Z_thing_5 (Nat.le_of_ble_eq_true rfl) (Nat.le_of_ble_eq_true rfl) ⟨(Nat.le_of_ble_eq_true rfl), (Nat.le_of_ble_eq_true rfl)⟩ (fun r v1 sd1 H l1 hp hP hk hS => ?_) (fun q cls cell H l1 hx hq hv hcl hP hk hS => ?_)
  · obtain ⟨a, rfl⟩ : ∃ a, r = some (.int a) := by obtain ⟨_, _, h, _⟩ := hp; exact ⟨_, h⟩
    have hO := hO.kept (hk w hO.lt (nA hO.lt hne))
    refine lv_i2l K.hx K.hb d_Z_thing_8 rfl ?_
    refine zc_last K hap hP hO hne hS (fun k hk => Or.inl (Or.inl ⟨k, hk, rfl⟩)) (Or.inr rfl) d_Z_thing_9 (fun H l1 f1 hf1 hP hO hS => ?_)
    refine lv_goto (tgt := 21) K.hx K.hb d_Z_thing_10 (by decide) ?_
    refine lv_iconst (v := 0) K.hx K.hb d_Z_thing_21 (by decide) ?_
    exact xe_i K.hx K.hb hret hlk hS (fun t ht hW => ⟨0, a, v1, sd1, f1, rfl, Or.inl ⟨rfl, hp⟩, K.cw hap hS hP t ht hW, by rw [ht]; exact hO, fun _ => hf1⟩) (Nat.le_of_ble_eq_true rfl) (Nat.le_of_ble_eq_true rfl) d_Z_thing_22
  · have hO := hO.kept (hk w hO.lt (nA hO.lt hne))
    have hcls : cls = "java/lang/IllegalArgumentException" ∨ cls = "java/lang/UnsupportedOperationException" := by rcases hx with ⟨_, h⟩ | ⟨_, _, h⟩ <;> simp [h]
    rcases hcls with rfl | rfl
    · refine x_catch K.1 K.2.2.2.2.1 K.2.2.1 hq hv hcl nw_324 [] (st := 0) (en := 10) (h := 13) (ct := 13) (rest := [(0, 10, 17, 15)]) htab (fun _ h => nomatch h) rfl (by decide) kw_312 ?_
      refine lv_astore (lv' := [(4, .ref q), (0, .ref (ad 0)), (1, .int x), (2, .int y), (3, .ref w)]) K.hx K.hb d_Z_thing_13 hl (by decide) rfl (fun ls hl => ?_)
      refine lv_iconst (v := 1) K.hx K.hb d_Z_thing_15 (by decide) ?_
      exact xe_i K.hx K.hb hret hlk hS (fun t ht hW => ⟨1, 0, v, sd, f, rfl, Or.inr ⟨_, hx, by simp [sIAE, sUOE, sIOE, sISE], rfl, rfl⟩, K.cw hap hS hP t ht hW, by rw [ht]; exact hO, fun h => absurd h (by decide)⟩) (Nat.le_of_ble_eq_true rfl) (Nat.le_of_ble_eq_true rfl) d_Z_thing_16
    · refine x_catch K.1 K.2.2.2.2.1 K.2.2.1 hq hv hcl nw_393 [((0, 10, 13, 13), "java/lang/IllegalArgumentException")] (st := 0) (en := 10) (h := 17) (ct := 15) (rest := []) htab (List.forall_mem_cons.mpr ⟨⟨rfl, by decide, kw_312, by simp [ncl]⟩, (fun _ h => nomatch h)⟩) rfl (by decide) kw_313 ?_
      refine lv_astore (lv' := [(4, .ref q), (0, .ref (ad 0)), (1, .int x), (2, .int y), (3, .ref w)]) K.hx K.hb d_Z_thing_17 hl (by decide) rfl (fun ls hl => ?_)
      refine lv_iconst (v := 2) K.hx K.hb d_Z_thing_19 (by decide) ?_
      exact xe_i K.hx K.hb hret hlk hS (fun t ht hW => ⟨2, 0, v, sd, f, rfl, Or.inr ⟨_, hx, by simp [sIAE, sUOE, sIOE, sISE], rfl, rfl⟩, K.cw hap hS hP t ht hW, by rw [ht]; exact hO, fun h => absurd h (by decide)⟩) (Nat.le_of_ble_eq_true rfl) (Nat.le_of_ble_eq_true rfl) d_Z_thing_20
set_option maxHeartbeats 4000000 in
set_option maxRecDepth 100000 in
theorem c_Z_use (l : Launch) (D : va_G) (cs : Nat → ClassId) (ad : Nat → Nat) (w : Nat) (v : Nat → Nat → Int32) (sd : Int64) (hfl : l.flags = flags0) {tc : Nat} (htc : v 0 2 = nI tc) (ht8 : tc ≤ 8) (x y : Int32) : Zm l y_Z_use b_Z_use 5 [(0, 10, 13, 20), (0, 10, 17, 22), (0, 10, 21, 13)] (rmx 3 2) [.ref (ad 0), .int x, .int y, .ref w] D cs ad w v sd (qW_use v sd tc x y) (xW_use v tc x y) [(sIOE, 1), (sISE, 2), (sIAE, 3)] := by
  refine zm_enter rfl (Nat.le_of_ble_eq_true rfl) ?_
  intro p e s m below meth c ls f K htab hlk hret hap hne hS hP hO hl
  have hl : lv_has ls 5 [(0, .ref (ad 0)), (1, .int x), (2, .int y), (3, .ref w)] := hl
  refine lv_aload_n K.hx K.hb d_Z_use_0 rfl (lv_at hl 3 rfl) ?_
  refine lv_iconst (v := 0) K.hx K.hb d_Z_use_1 (by decide) ?_
  refine lv_aload_n K.hx K.hb d_Z_use_2 rfl (lv_at hl 0 rfl) ?_
  refine lv_iload_n K.hx K.hb d_Z_use_3 rfl (lv_at hl 1 rfl) ?_
  refine lv_iload_n K.hx K.hb d_Z_use_4 rfl (lv_at hl 2 rfl) ?_
  refine zc_V K hap hP hS (fun q hq => Or.inl (sub_A hS.1 q hq)) (k_W_use l D cs ad v sd hfl htc ht8 x y) kw_419 xm_W_use kw_416 kw_417 kw_418 rfl hl.1 d_Z_use_5 (Nat.le_of_ble_eq_true rfl) (Nat.le_of_ble_eq_true rfl) ⟨(Nat.le_of_ble_eq_true rfl), (Nat.le_of_ble_eq_true rfl)⟩ (fun r v1 sd1 H l1 hp hP hk hS => ?_) (fun q cls cell H l1 hx hq hv hcl hP hk hS => ?_)
  · obtain ⟨a, rfl⟩ : ∃ a, r = some (.int a) := by obtain ⟨_, _, _, _, _, h, _⟩ := hp; exact ⟨_, h⟩
    have hO := hO.kept (hk w hO.lt (nA hO.lt hne))
    refine lv_i2l K.hx K.hb d_Z_use_8 rfl ?_
    refine zc_last K hap hP hO hne hS (fun k hk => Or.inl (Or.inl ⟨k, hk, rfl⟩)) (Or.inr rfl) d_Z_use_9 (fun H l1 f1 hf1 hP hO hS => ?_)
    refine lv_goto (tgt := 25) K.hx K.hb d_Z_use_10 (by decide) ?_
    refine lv_iconst (v := 0) K.hx K.hb d_Z_use_25 (by decide) ?_
    exact xe_i K.hx K.hb hret hlk hS (fun t ht hW => ⟨0, a, v1, sd1, f1, rfl, Or.inl ⟨rfl, hp⟩, K.cw hap hS hP t ht hW, by rw [ht]; exact hO, fun _ => hf1⟩) (Nat.le_of_ble_eq_true rfl) (Nat.le_of_ble_eq_true rfl) d_Z_use_26
  · have hO := hO.kept (hk w hO.lt (nA hO.lt hne))
    have hcls : cls = "java/lang/IndexOutOfBoundsException" ∨ cls = "java/lang/IllegalStateException" ∨ cls = "java/lang/IllegalArgumentException" := by rcases hx with ⟨_, h⟩ | ⟨_, _, _, _, h⟩ | ⟨_, _, _, _, _, h⟩ <;> simp [h]
    rcases hcls with rfl | rfl | rfl
    · refine x_catch K.1 K.2.2.2.2.1 K.2.2.1 hq hv hcl nw_426 [] (st := 0) (en := 10) (h := 13) (ct := 20) (rest := [(0, 10, 17, 22), (0, 10, 21, 13)]) htab (fun _ h => nomatch h) rfl (by decide) kw_414 ?_
      refine lv_astore (lv' := [(4, .ref q), (0, .ref (ad 0)), (1, .int x), (2, .int y), (3, .ref w)]) K.hx K.hb d_Z_use_13 hl (by decide) rfl (fun ls hl => ?_)
      refine lv_iconst (v := 1) K.hx K.hb d_Z_use_15 (by decide) ?_
      exact xe_i K.hx K.hb hret hlk hS (fun t ht hW => ⟨1, 0, v, sd, f, rfl, Or.inr ⟨_, hx, by simp [sIAE, sUOE, sIOE, sISE], rfl, rfl⟩, K.cw hap hS hP t ht hW, by rw [ht]; exact hO, fun h => absurd h (by decide)⟩) (Nat.le_of_ble_eq_true rfl) (Nat.le_of_ble_eq_true rfl) d_Z_use_16
    · refine x_catch K.1 K.2.2.2.2.1 K.2.2.1 hq hv hcl nw_446 [((0, 10, 13, 20), "java/lang/IndexOutOfBoundsException")] (st := 0) (en := 10) (h := 17) (ct := 22) (rest := [(0, 10, 21, 13)]) htab (List.forall_mem_cons.mpr ⟨⟨rfl, by decide, kw_414, by simp [ncl]⟩, (fun _ h => nomatch h)⟩) rfl (by decide) kw_415 ?_
      refine lv_astore (lv' := [(4, .ref q), (0, .ref (ad 0)), (1, .int x), (2, .int y), (3, .ref w)]) K.hx K.hb d_Z_use_17 hl (by decide) rfl (fun ls hl => ?_)
      refine lv_iconst (v := 2) K.hx K.hb d_Z_use_19 (by decide) ?_
      exact xe_i K.hx K.hb hret hlk hS (fun t ht hW => ⟨2, 0, v, sd, f, rfl, Or.inr ⟨_, hx, by simp [sIAE, sUOE, sIOE, sISE], rfl, rfl⟩, K.cw hap hS hP t ht hW, by rw [ht]; exact hO, fun h => absurd h (by decide)⟩) (Nat.le_of_ble_eq_true rfl) (Nat.le_of_ble_eq_true rfl) d_Z_use_20
    · refine x_catch K.1 K.2.2.2.2.1 K.2.2.1 hq hv hcl nw_324 [((0, 10, 13, 20), "java/lang/IndexOutOfBoundsException"), ((0, 10, 17, 22), "java/lang/IllegalStateException")] (st := 0) (en := 10) (h := 21) (ct := 13) (rest := []) htab (List.forall_mem_cons.mpr ⟨⟨rfl, by decide, kw_414, by simp [ncl]⟩, (List.forall_mem_cons.mpr ⟨⟨rfl, by decide, kw_415, by simp [ncl]⟩, (fun _ h => nomatch h)⟩)⟩) rfl (by decide) kw_312 ?_
      refine lv_astore (lv' := [(4, .ref q), (0, .ref (ad 0)), (1, .int x), (2, .int y), (3, .ref w)]) K.hx K.hb d_Z_use_21 hl (by decide) rfl (fun ls hl => ?_)
      refine lv_iconst (v := 3) K.hx K.hb d_Z_use_23 (by decide) ?_
      exact xe_i K.hx K.hb hret hlk hS (fun t ht hW => ⟨3, 0, v, sd, f, rfl, Or.inr ⟨_, hx, by simp [sIAE, sUOE, sIOE, sISE], rfl, rfl⟩, K.cw hap hS hP t ht hW, by rw [ht]; exact hO, fun h => absurd h (by decide)⟩) (Nat.le_of_ble_eq_true rfl) (Nat.le_of_ble_eq_true rfl) d_Z_use_24
set_option maxHeartbeats 4000000 in
set_option maxRecDepth 100000 in
theorem c_Z_told (l : Launch) (D : va_G) (cs : Nat → ClassId) (ad : Nat → Nat) (w : Nat) (v : Nat → Nat → Int32) (sd : Int64) (hfl : l.flags = flags0) {tc : Nat} (htc : v 0 2 = nI tc) (ht8 : tc ≤ 8) (x y : Int32) : Zm l y_Z_told b_Z_told 5 [(0, 10, 13, 20)] (rmx 3 2) [.ref (ad 0), .int x, .int y, .ref w] D cs ad w v sd (qW_told v sd tc x y) (xW_told v tc x y) [(sIOE, 1)] := by
  refine zm_enter rfl (Nat.le_of_ble_eq_true rfl) ?_
  intro p e s m below meth c ls f K htab hlk hret hap hne hS hP hO hl
  have hl : lv_has ls 5 [(0, .ref (ad 0)), (1, .int x), (2, .int y), (3, .ref w)] := hl
  refine lv_aload_n K.hx K.hb d_Z_told_0 rfl (lv_at hl 3 rfl) ?_
  refine lv_iconst (v := 0) K.hx K.hb d_Z_told_1 (by decide) ?_
  refine lv_aload_n K.hx K.hb d_Z_told_2 rfl (lv_at hl 0 rfl) ?_
  refine lv_iload_n K.hx K.hb d_Z_told_3 rfl (lv_at hl 1 rfl) ?_
  refine lv_iload_n K.hx K.hb d_Z_told_4 rfl (lv_at hl 2 rfl) ?_
  refine zc_V K hap hP hS (fun q hq => Or.inl (sub_A hS.1 q hq)) (k_W_told l D cs ad v sd hfl htc ht8 x y) kw_475 xm_W_told kw_472 kw_473 kw_474 rfl hl.1 d_Z_told_5 (Nat.le_of_ble_eq_true rfl) (Nat.le_of_ble_eq_true rfl) ⟨(Nat.le_of_ble_eq_true rfl), (Nat.le_of_ble_eq_true rfl)⟩ (fun r v1 sd1 H l1 hp hP hk hS => ?_) (fun q cls cell H l1 hx hq hv hcl hP hk hS => ?_)
  · obtain ⟨a, rfl⟩ : ∃ a, r = some (.int a) := by obtain ⟨_, _, _, _, h, _⟩ := hp; exact ⟨_, h⟩
    have hO := hO.kept (hk w hO.lt (nA hO.lt hne))
    refine lv_i2l K.hx K.hb d_Z_told_8 rfl ?_
    refine zc_last K hap hP hO hne hS (fun k hk => Or.inl (Or.inl ⟨k, hk, rfl⟩)) (Or.inr rfl) d_Z_told_9 (fun H l1 f1 hf1 hP hO hS => ?_)
    refine lv_goto (tgt := 17) K.hx K.hb d_Z_told_10 (by decide) ?_
    refine lv_iconst (v := 0) K.hx K.hb d_Z_told_17 (by decide) ?_
    exact xe_i K.hx K.hb hret hlk hS (fun t ht hW => ⟨0, a, v1, sd1, f1, rfl, Or.inl ⟨rfl, hp⟩, K.cw hap hS hP t ht hW, by rw [ht]; exact hO, fun _ => hf1⟩) (Nat.le_of_ble_eq_true rfl) (Nat.le_of_ble_eq_true rfl) d_Z_told_18
  · have hO := hO.kept (hk w hO.lt (nA hO.lt hne))
    have hcls : cls = "java/lang/IndexOutOfBoundsException" := by rcases hx with ⟨_, h⟩ | ⟨_, _, _, _, h⟩ <;> simp [h]
    rcases hcls with rfl
    refine x_catch K.1 K.2.2.2.2.1 K.2.2.1 hq hv hcl nw_426 [] (st := 0) (en := 10) (h := 13) (ct := 20) (rest := []) htab (fun _ h => nomatch h) rfl (by decide) kw_414 ?_
    refine lv_astore (lv' := [(4, .ref q), (0, .ref (ad 0)), (1, .int x), (2, .int y), (3, .ref w)]) K.hx K.hb d_Z_told_13 hl (by decide) rfl (fun ls hl => ?_)
    refine lv_iconst (v := 1) K.hx K.hb d_Z_told_15 (by decide) ?_
    exact xe_i K.hx K.hb hret hlk hS (fun t ht hW => ⟨1, 0, v, sd, f, rfl, Or.inr ⟨_, hx, by simp [sIAE, sUOE, sIOE, sISE], rfl, rfl⟩, K.cw hap hS hP t ht hW, by rw [ht]; exact hO, fun h => absurd h (by decide)⟩) (Nat.le_of_ble_eq_true rfl) (Nat.le_of_ble_eq_true rfl) d_Z_told_16
set_option maxHeartbeats 4000000 in
set_option maxRecDepth 100000 in
theorem c_Z_left (l : Launch) (D : va_G) (cs : Nat → ClassId) (ad : Nat → Nat) (w : Nat) (v : Nat → Nat → Int32) (sd : Int64) (hfl : l.flags = flags0) {tc : Nat} (htc : v 0 2 = nI tc) (ht8 : tc ≤ 8) (x y : Int32) : Zm l y_Z_left b_Z_left 5 [(0, 10, 13, 20), (0, 10, 17, 13)] (rmx 3 2) [.ref (ad 0), .int x, .int y, .ref w] D cs ad w v sd (qW_left v sd tc x y) (xW_left v tc x y) [(sIOE, 1), (sIAE, 2)] := by
  refine zm_enter rfl (Nat.le_of_ble_eq_true rfl) ?_
  intro p e s m below meth c ls f K htab hlk hret hap hne hS hP hO hl
  have hl : lv_has ls 5 [(0, .ref (ad 0)), (1, .int x), (2, .int y), (3, .ref w)] := hl
  refine lv_aload_n K.hx K.hb d_Z_left_0 rfl (lv_at hl 3 rfl) ?_
  refine lv_iconst (v := 0) K.hx K.hb d_Z_left_1 (by decide) ?_
  refine lv_aload_n K.hx K.hb d_Z_left_2 rfl (lv_at hl 0 rfl) ?_
  refine lv_iload_n K.hx K.hb d_Z_left_3 rfl (lv_at hl 1 rfl) ?_
  refine lv_iload_n K.hx K.hb d_Z_left_4 rfl (lv_at hl 2 rfl) ?_
  refine zc_V K hap hP hS (fun q hq => Or.inl (sub_A hS.1 q hq)) (k_W_left l D cs ad v sd hfl htc ht8 x y) kw_491 xm_W_left kw_488 kw_489 kw_490 rfl hl.1 d_Z_left_5 (Nat.le_of_ble_eq_true rfl) (Nat.le_of_ble_eq_true rfl) ⟨(Nat.le_of_ble_eq_true rfl), (Nat.le_of_ble_eq_true rfl)⟩ (fun r v1 sd1 H l1 hp hP hk hS => ?_) (fun q cls cell H l1 hx hq hv hcl hP hk hS => ?_)
  · obtain ⟨a, rfl⟩ : ∃ a, r = some (.int a) := by obtain ⟨_, _, _, _, h, _⟩ := hp; exact ⟨_, h⟩
    have hO := hO.kept (hk w hO.lt (nA hO.lt hne))
    refine lv_i2l K.hx K.hb d_Z_left_8 rfl ?_
    refine zc_last K hap hP hO hne hS (fun k hk => Or.inl (Or.inl ⟨k, hk, rfl⟩)) (Or.inr rfl) d_Z_left_9 (fun H l1 f1 hf1 hP hO hS => ?_)
    refine lv_goto (tgt := 21) K.hx K.hb d_Z_left_10 (by decide) ?_
    refine lv_iconst (v := 0) K.hx K.hb d_Z_left_21 (by decide) ?_
    exact xe_i K.hx K.hb hret hlk hS (fun t ht hW => ⟨0, a, v1, sd1, f1, rfl, Or.inl ⟨rfl, hp⟩, K.cw hap hS hP t ht hW, by rw [ht]; exact hO, fun _ => hf1⟩) (Nat.le_of_ble_eq_true rfl) (Nat.le_of_ble_eq_true rfl) d_Z_left_22
  · have hO := hO.kept (hk w hO.lt (nA hO.lt hne))
    have hcls : cls = "java/lang/IndexOutOfBoundsException" ∨ cls = "java/lang/IllegalArgumentException" := by rcases hx with ⟨_, h⟩ | ⟨_, _, _, _, h⟩ <;> simp [h]
    rcases hcls with rfl | rfl
    · refine x_catch K.1 K.2.2.2.2.1 K.2.2.1 hq hv hcl nw_426 [] (st := 0) (en := 10) (h := 13) (ct := 20) (rest := [(0, 10, 17, 13)]) htab (fun _ h => nomatch h) rfl (by decide) kw_414 ?_
      refine lv_astore (lv' := [(4, .ref q), (0, .ref (ad 0)), (1, .int x), (2, .int y), (3, .ref w)]) K.hx K.hb d_Z_left_13 hl (by decide) rfl (fun ls hl => ?_)
      refine lv_iconst (v := 1) K.hx K.hb d_Z_left_15 (by decide) ?_
      exact xe_i K.hx K.hb hret hlk hS (fun t ht hW => ⟨1, 0, v, sd, f, rfl, Or.inr ⟨_, hx, by simp [sIAE, sUOE, sIOE, sISE], rfl, rfl⟩, K.cw hap hS hP t ht hW, by rw [ht]; exact hO, fun h => absurd h (by decide)⟩) (Nat.le_of_ble_eq_true rfl) (Nat.le_of_ble_eq_true rfl) d_Z_left_16
    · refine x_catch K.1 K.2.2.2.2.1 K.2.2.1 hq hv hcl nw_324 [((0, 10, 13, 20), "java/lang/IndexOutOfBoundsException")] (st := 0) (en := 10) (h := 17) (ct := 13) (rest := []) htab (List.forall_mem_cons.mpr ⟨⟨rfl, by decide, kw_414, by simp [ncl]⟩, (fun _ h => nomatch h)⟩) rfl (by decide) kw_312 ?_
      refine lv_astore (lv' := [(4, .ref q), (0, .ref (ad 0)), (1, .int x), (2, .int y), (3, .ref w)]) K.hx K.hb d_Z_left_17 hl (by decide) rfl (fun ls hl => ?_)
      refine lv_iconst (v := 2) K.hx K.hb d_Z_left_19 (by decide) ?_
      exact xe_i K.hx K.hb hret hlk hS (fun t ht hW => ⟨2, 0, v, sd, f, rfl, Or.inr ⟨_, hx, by simp [sIAE, sUOE, sIOE, sISE], rfl, rfl⟩, K.cw hap hS hP t ht hW, by rw [ht]; exact hO, fun h => absurd h (by decide)⟩) (Nat.le_of_ble_eq_true rfl) (Nat.le_of_ble_eq_true rfl) d_Z_left_20
set_option maxHeartbeats 4000000 in
set_option maxRecDepth 100000 in
theorem c_Z_permit (l : Launch) (D : va_G) (cs : Nat → ClassId) (ad : Nat → Nat) (v : Nat → Nat → Int32) (sd : Int64) (hfl : l.flags = flags0) {tc : Nat} (htc : v 0 2 = nI tc) (ht8 : tc ≤ 8) (x y : Int32) (h_y : y = 0 ∨ y = 1) : Zv l y_Z_permit b_Z_permit 4 [(0, 6, 9, 20), (0, 6, 12, 15)] (rmx 3 2) [.ref (ad 0), .int x, .int y] D cs ad v sd (qW_permit v sd tc x y) (xW_permit v tc x y) [(sIOE, 1), (sUOE, 2)] := by
  refine zv_enter rfl (Nat.le_of_ble_eq_true rfl) ?_
  intro p e s m below meth c ls K htab hlk hret hap hS hP hl
  have hl : lv_has ls 4 [(0, .ref (ad 0)), (1, .int x), (2, .int y)] := hl
  refine lv_aload_n K.hx K.hb d_Z_permit_0 rfl (lv_at hl 0 rfl) ?_
  refine lv_iload_n K.hx K.hb d_Z_permit_1 rfl (lv_at hl 1 rfl) ?_
  refine lv_iload_n K.hx K.hb d_Z_permit_2 rfl (lv_at hl 2 rfl) ?_
  refine zc_V K hap hP hS (sub_A hS.1) (k_W_permit l D cs ad v sd hfl htc ht8 x y h_y) kw_510 xm_W_permit kw_507 kw_508 kw_509 rfl hl.1 d_Z_permit_3 (Nat.le_of_ble_eq_true rfl) (Nat.le_of_ble_eq_true rfl) ⟨(Nat.le_of_ble_eq_true rfl), (Nat.le_of_ble_eq_true rfl)⟩ (fun r v1 sd1 H l1 hp hP hk hS => ?_) (fun q cls cell H l1 hx hq hv hcl hP hk hS => ?_)
  · obtain rfl : r = none := by obtain ⟨_, _, _, _, h, _⟩ := hp; exact h
    refine lv_goto (tgt := 15) K.hx K.hb d_Z_permit_6 (by decide) ?_
    refine lv_iconst (v := 0) K.hx K.hb d_Z_permit_15 (by decide) ?_
    exact xe_i K.hx K.hb hret hlk hS (fun t ht hW => ⟨0, v1, sd1, rfl, Or.inl ⟨rfl, hp⟩, K.cw hap hS hP t ht hW⟩) (Nat.le_of_ble_eq_true rfl) (Nat.le_of_ble_eq_true rfl) d_Z_permit_16
  · have hcls : cls = "java/lang/IndexOutOfBoundsException" ∨ cls = "java/lang/UnsupportedOperationException" := by rcases hx with ⟨_, h⟩ | ⟨_, _, _, _, h⟩ <;> simp [h]
    rcases hcls with rfl | rfl
    · refine x_catch K.1 K.2.2.2.2.1 K.2.2.1 hq hv hcl nw_426 [] (st := 0) (en := 6) (h := 9) (ct := 20) (rest := [(0, 6, 12, 15)]) htab (fun _ h => nomatch h) rfl (by decide) kw_414 ?_
      refine lv_astore_n (lv' := [(3, .ref q), (0, .ref (ad 0)), (1, .int x), (2, .int y)]) K.hx K.hb d_Z_permit_9 rfl hl (by decide) rfl (fun ls hl => ?_)
      refine lv_iconst (v := 1) K.hx K.hb d_Z_permit_10 (by decide) ?_
      exact xe_i K.hx K.hb hret hlk hS (fun t ht hW => ⟨1, v, sd, rfl, Or.inr ⟨_, hx, by simp [sIAE, sUOE, sIOE, sISE], rfl, rfl⟩, K.cw hap hS hP t ht hW⟩) (Nat.le_of_ble_eq_true rfl) (Nat.le_of_ble_eq_true rfl) d_Z_permit_11
    · refine x_catch K.1 K.2.2.2.2.1 K.2.2.1 hq hv hcl nw_393 [((0, 6, 9, 20), "java/lang/IndexOutOfBoundsException")] (st := 0) (en := 6) (h := 12) (ct := 15) (rest := []) htab (List.forall_mem_cons.mpr ⟨⟨rfl, by decide, kw_414, by simp [ncl]⟩, (fun _ h => nomatch h)⟩) rfl (by decide) kw_313 ?_
      refine lv_astore_n (lv' := [(3, .ref q), (0, .ref (ad 0)), (1, .int x), (2, .int y)]) K.hx K.hb d_Z_permit_12 rfl hl (by decide) rfl (fun ls hl => ?_)
      refine lv_iconst (v := 2) K.hx K.hb d_Z_permit_13 (by decide) ?_
      exact xe_i K.hx K.hb hret hlk hS (fun t ht hW => ⟨2, v, sd, rfl, Or.inr ⟨_, hx, by simp [sIAE, sUOE, sIOE, sISE], rfl, rfl⟩, K.cw hap hS hP t ht hW⟩) (Nat.le_of_ble_eq_true rfl) (Nat.le_of_ble_eq_true rfl) d_Z_permit_14
set_option maxHeartbeats 4000000 in
set_option maxRecDepth 100000 in
theorem c_Z_history (l : Launch) (D : va_G) (cs : Nat → ClassId) (ad : Nat → Nat) (w : Nat) (v : Nat → Nat → Int32) (sd : Int64) (hfl : l.flags = flags0) {tc : Nat} (htc : v 0 2 = nI tc) (ht8 : tc ≤ 8) (x y : Int32) : Zm l y_Z_history b_Z_history 5 [(0, 10, 13, 20)] (rmx 3 2) [.ref (ad 0), .int x, .int y, .ref w] D cs ad w v sd (qW_history v sd tc x y) (xW_history v tc x y) [(sIOE, 1)] := by
  refine zm_enter rfl (Nat.le_of_ble_eq_true rfl) ?_
  intro p e s m below meth c ls f K htab hlk hret hap hne hS hP hO hl
  have hl : lv_has ls 5 [(0, .ref (ad 0)), (1, .int x), (2, .int y), (3, .ref w)] := hl
  refine lv_aload_n K.hx K.hb d_Z_history_0 rfl (lv_at hl 3 rfl) ?_
  refine lv_iconst (v := 0) K.hx K.hb d_Z_history_1 (by decide) ?_
  refine lv_aload_n K.hx K.hb d_Z_history_2 rfl (lv_at hl 0 rfl) ?_
  refine lv_iload_n K.hx K.hb d_Z_history_3 rfl (lv_at hl 1 rfl) ?_
  refine lv_iload_n K.hx K.hb d_Z_history_4 rfl (lv_at hl 2 rfl) ?_
  refine zc_V K hap hP hS (fun q hq => Or.inl (sub_A hS.1 q hq)) (k_W_history l D cs ad v sd hfl htc ht8 x y) kw_522 xm_W_history kw_519 kw_520 kw_521 rfl hl.1 d_Z_history_5 (Nat.le_of_ble_eq_true rfl) (Nat.le_of_ble_eq_true rfl) ⟨(Nat.le_of_ble_eq_true rfl), (Nat.le_of_ble_eq_true rfl)⟩ (fun r v1 sd1 H l1 hp hP hk hS => ?_) (fun q cls cell H l1 hx hq hv hcl hP hk hS => ?_)
  · obtain ⟨a, rfl⟩ : ∃ a, r = some (.int a) := by obtain ⟨_, _, _, _, h, _⟩ := hp; exact ⟨_, h⟩
    have hO := hO.kept (hk w hO.lt (nA hO.lt hne))
    refine lv_i2l K.hx K.hb d_Z_history_8 rfl ?_
    refine zc_last K hap hP hO hne hS (fun k hk => Or.inl (Or.inl ⟨k, hk, rfl⟩)) (Or.inr rfl) d_Z_history_9 (fun H l1 f1 hf1 hP hO hS => ?_)
    refine lv_goto (tgt := 17) K.hx K.hb d_Z_history_10 (by decide) ?_
    refine lv_iconst (v := 0) K.hx K.hb d_Z_history_17 (by decide) ?_
    exact xe_i K.hx K.hb hret hlk hS (fun t ht hW => ⟨0, a, v1, sd1, f1, rfl, Or.inl ⟨rfl, hp⟩, K.cw hap hS hP t ht hW, by rw [ht]; exact hO, fun _ => hf1⟩) (Nat.le_of_ble_eq_true rfl) (Nat.le_of_ble_eq_true rfl) d_Z_history_18
  · have hO := hO.kept (hk w hO.lt (nA hO.lt hne))
    have hcls : cls = "java/lang/IndexOutOfBoundsException" := by rcases hx with ⟨_, h⟩ | ⟨_, _, _, _, h⟩ <;> simp [h]
    rcases hcls with rfl
    refine x_catch K.1 K.2.2.2.2.1 K.2.2.1 hq hv hcl nw_426 [] (st := 0) (en := 10) (h := 13) (ct := 20) (rest := []) htab (fun _ h => nomatch h) rfl (by decide) kw_414 ?_
    refine lv_astore (lv' := [(4, .ref q), (0, .ref (ad 0)), (1, .int x), (2, .int y), (3, .ref w)]) K.hx K.hb d_Z_history_13 hl (by decide) rfl (fun ls hl => ?_)
    refine lv_iconst (v := 1) K.hx K.hb d_Z_history_15 (by decide) ?_
    exact xe_i K.hx K.hb hret hlk hS (fun t ht hW => ⟨1, 0, v, sd, f, rfl, Or.inr ⟨_, hx, by simp [sIAE, sUOE, sIOE, sISE], rfl, rfl⟩, K.cw hap hS hP t ht hW, by rw [ht]; exact hO, fun h => absurd h (by decide)⟩) (Nat.le_of_ble_eq_true rfl) (Nat.le_of_ble_eq_true rfl) d_Z_history_16
set_option maxHeartbeats 4000000 in
set_option maxRecDepth 100000 in
theorem c_Z_gap (l : Launch) (D : va_G) (cs : Nat → ClassId) (ad : Nat → Nat) (w : Nat) (v : Nat → Nat → Int32) (sd : Int64) (hfl : l.flags = flags0) {gc : Nat} (hgc : v 19 1 = nI gc) (hgl : gc ≤ 6) (x y : Int32) : Zm l y_Z_gap b_Z_gap 5 [(0, 10, 13, 13), (0, 10, 17, 15)] (rmx 2 2) [.ref (ad 0), .int x, .int y, .ref w] D cs ad w v sd (qW_gap v sd gc x y) (xW_gap v gc x y) [(sIAE, 1), (sUOE, 2)] := by
  refine zm_enter rfl (Nat.le_of_ble_eq_true rfl) ?_
  intro p e s m below meth c ls f K htab hlk hret hap hne hS hP hO hl
  have hl : lv_has ls 5 [(0, .ref (ad 0)), (1, .int x), (2, .int y), (3, .ref w)] := hl
  refine lv_aload_n K.hx K.hb d_Z_gap_0 rfl (lv_at hl 3 rfl) ?_
  refine lv_iconst (v := 0) K.hx K.hb d_Z_gap_1 (by decide) ?_
  refine lv_aload_n K.hx K.hb d_Z_gap_2 rfl (lv_at hl 0 rfl) ?_
  refine lv_iload_n K.hx K.hb d_Z_gap_3 rfl (lv_at hl 1 rfl) ?_
  refine lv_iload_n K.hx K.hb d_Z_gap_4 rfl (lv_at hl 2 rfl) ?_
  refine zc_V K hap hP hS (fun q hq => Or.inl (sub_A hS.1 q hq)) (k_W_gap l D cs ad v sd hfl hgc hgl x y) kw_534 xm_W_gap kw_531 kw_532 kw_533 rfl hl.1 d_Z_gap_5 (Nat.le_of_ble_eq_true rfl) (Nat.le_of_ble_eq_true rfl) ⟨(Nat.le_of_ble_eq_true rfl), (Nat.le_of_ble_eq_true rfl)⟩ (fun r v1 sd1 H l1 hp hP hk hS => ?_) (fun q cls cell H l1 hx hq hv hcl hP hk hS => ?_)
  · obtain ⟨a, rfl⟩ : ∃ a, r = some (.int a) := by obtain ⟨_, _, h, _⟩ := hp; exact ⟨_, h⟩
    have hO := hO.kept (hk w hO.lt (nA hO.lt hne))
    refine lv_i2l K.hx K.hb d_Z_gap_8 rfl ?_
    refine zc_last K hap hP hO hne hS (fun k hk => Or.inl (Or.inl ⟨k, hk, rfl⟩)) (Or.inr rfl) d_Z_gap_9 (fun H l1 f1 hf1 hP hO hS => ?_)
    refine lv_goto (tgt := 21) K.hx K.hb d_Z_gap_10 (by decide) ?_
    refine lv_iconst (v := 0) K.hx K.hb d_Z_gap_21 (by decide) ?_
    exact xe_i K.hx K.hb hret hlk hS (fun t ht hW => ⟨0, a, v1, sd1, f1, rfl, Or.inl ⟨rfl, hp⟩, K.cw hap hS hP t ht hW, by rw [ht]; exact hO, fun _ => hf1⟩) (Nat.le_of_ble_eq_true rfl) (Nat.le_of_ble_eq_true rfl) d_Z_gap_22
  · have hO := hO.kept (hk w hO.lt (nA hO.lt hne))
    have hcls : cls = "java/lang/IllegalArgumentException" ∨ cls = "java/lang/UnsupportedOperationException" := by rcases hx with ⟨_, h⟩ | ⟨_, _, h⟩ <;> simp [h]
    rcases hcls with rfl | rfl
    · refine x_catch K.1 K.2.2.2.2.1 K.2.2.1 hq hv hcl nw_324 [] (st := 0) (en := 10) (h := 13) (ct := 13) (rest := [(0, 10, 17, 15)]) htab (fun _ h => nomatch h) rfl (by decide) kw_312 ?_
      refine lv_astore (lv' := [(4, .ref q), (0, .ref (ad 0)), (1, .int x), (2, .int y), (3, .ref w)]) K.hx K.hb d_Z_gap_13 hl (by decide) rfl (fun ls hl => ?_)
      refine lv_iconst (v := 1) K.hx K.hb d_Z_gap_15 (by decide) ?_
      exact xe_i K.hx K.hb hret hlk hS (fun t ht hW => ⟨1, 0, v, sd, f, rfl, Or.inr ⟨_, hx, by simp [sIAE, sUOE, sIOE, sISE], rfl, rfl⟩, K.cw hap hS hP t ht hW, by rw [ht]; exact hO, fun h => absurd h (by decide)⟩) (Nat.le_of_ble_eq_true rfl) (Nat.le_of_ble_eq_true rfl) d_Z_gap_16
    · refine x_catch K.1 K.2.2.2.2.1 K.2.2.1 hq hv hcl nw_393 [((0, 10, 13, 13), "java/lang/IllegalArgumentException")] (st := 0) (en := 10) (h := 17) (ct := 15) (rest := []) htab (List.forall_mem_cons.mpr ⟨⟨rfl, by decide, kw_312, by simp [ncl]⟩, (fun _ h => nomatch h)⟩) rfl (by decide) kw_313 ?_
      refine lv_astore (lv' := [(4, .ref q), (0, .ref (ad 0)), (1, .int x), (2, .int y), (3, .ref w)]) K.hx K.hb d_Z_gap_17 hl (by decide) rfl (fun ls hl => ?_)
      refine lv_iconst (v := 2) K.hx K.hb d_Z_gap_19 (by decide) ?_
      exact xe_i K.hx K.hb hret hlk hS (fun t ht hW => ⟨2, 0, v, sd, f, rfl, Or.inr ⟨_, hx, by simp [sIAE, sUOE, sIOE, sISE], rfl, rfl⟩, K.cw hap hS hP t ht hW, by rw [ht]; exact hO, fun h => absurd h (by decide)⟩) (Nat.le_of_ble_eq_true rfl) (Nat.le_of_ble_eq_true rfl) d_Z_gap_20
set_option maxHeartbeats 4000000 in
set_option maxRecDepth 100000 in
theorem c_Z_person (l : Launch) (D : va_G) (cs : Nat → ClassId) (ad : Nat → Nat) (w : Nat) (v : Nat → Nat → Int32) (sd : Int64) (hfl : l.flags = flags0) {pc : Nat} (hpc : v 19 3 = nI pc) (hpl : pc ≤ 4) (x y z : Int32) : Zm l y_Z_person b_Z_person 6 [(0, 12, 15, 13), (0, 12, 19, 15)] (rmx 2 3) [.ref (ad 0), .int x, .int y, .int z, .ref w] D cs ad w v sd (qW_person v sd pc x y z) (xW_person v pc x y z) [(sIAE, 1), (sUOE, 2)] := by
  refine zm_enter rfl (Nat.le_of_ble_eq_true rfl) ?_
  intro p e s m below meth c ls f K htab hlk hret hap hne hS hP hO hl
  have hl : lv_has ls 6 [(0, .ref (ad 0)), (1, .int x), (2, .int y), (3, .int z), (4, .ref w)] := hl
  refine lv_aload K.hx K.hb d_Z_person_0 (lv_at hl 4 rfl) ?_
  refine lv_iconst (v := 0) K.hx K.hb d_Z_person_2 (by decide) ?_
  refine lv_aload_n K.hx K.hb d_Z_person_3 rfl (lv_at hl 0 rfl) ?_
  refine lv_iload_n K.hx K.hb d_Z_person_4 rfl (lv_at hl 1 rfl) ?_
  refine lv_iload_n K.hx K.hb d_Z_person_5 rfl (lv_at hl 2 rfl) ?_
  refine lv_iload_n K.hx K.hb d_Z_person_6 rfl (lv_at hl 3 rfl) ?_
  refine zc_V K hap hP hS (fun q hq => Or.inl (sub_A hS.1 q hq)) (k_W_person l D cs ad v sd hfl hpc hpl x y z) kw_554 xm_W_person kw_551 kw_552 kw_553 rfl hl.1 d_Z_person_7 (Nat.le_of_ble_eq_true rfl) (Nat.le_of_ble_eq_true rfl) ⟨(Nat.le_of_ble_eq_true rfl), (Nat.le_of_ble_eq_true rfl)⟩ (fun r v1 sd1 H l1 hp hP hk hS => ?_) (fun q cls cell H l1 hx hq hv hcl hP hk hS => ?_)
  · obtain ⟨a, rfl⟩ : ∃ a, r = some (.int a) := by obtain ⟨_, _, h, _⟩ := hp; exact ⟨_, h⟩
    have hO := hO.kept (hk w hO.lt (nA hO.lt hne))
    refine lv_i2l K.hx K.hb d_Z_person_10 rfl ?_
    refine zc_last K hap hP hO hne hS (fun k hk => Or.inl (Or.inl ⟨k, hk, rfl⟩)) (Or.inr rfl) d_Z_person_11 (fun H l1 f1 hf1 hP hO hS => ?_)
    refine lv_goto (tgt := 23) K.hx K.hb d_Z_person_12 (by decide) ?_
    refine lv_iconst (v := 0) K.hx K.hb d_Z_person_23 (by decide) ?_
    exact xe_i K.hx K.hb hret hlk hS (fun t ht hW => ⟨0, a, v1, sd1, f1, rfl, Or.inl ⟨rfl, hp⟩, K.cw hap hS hP t ht hW, by rw [ht]; exact hO, fun _ => hf1⟩) (Nat.le_of_ble_eq_true rfl) (Nat.le_of_ble_eq_true rfl) d_Z_person_24
  · have hO := hO.kept (hk w hO.lt (nA hO.lt hne))
    have hcls : cls = "java/lang/IllegalArgumentException" ∨ cls = "java/lang/UnsupportedOperationException" := by rcases hx with ⟨_, h⟩ | ⟨_, _, h⟩ <;> simp [h]
    rcases hcls with rfl | rfl
    · refine x_catch K.1 K.2.2.2.2.1 K.2.2.1 hq hv hcl nw_324 [] (st := 0) (en := 12) (h := 15) (ct := 13) (rest := [(0, 12, 19, 15)]) htab (fun _ h => nomatch h) rfl (by decide) kw_312 ?_
      refine lv_astore (lv' := [(5, .ref q), (0, .ref (ad 0)), (1, .int x), (2, .int y), (3, .int z), (4, .ref w)]) K.hx K.hb d_Z_person_15 hl (by decide) rfl (fun ls hl => ?_)
      refine lv_iconst (v := 1) K.hx K.hb d_Z_person_17 (by decide) ?_
      exact xe_i K.hx K.hb hret hlk hS (fun t ht hW => ⟨1, 0, v, sd, f, rfl, Or.inr ⟨_, hx, by simp [sIAE, sUOE, sIOE, sISE], rfl, rfl⟩, K.cw hap hS hP t ht hW, by rw [ht]; exact hO, fun h => absurd h (by decide)⟩) (Nat.le_of_ble_eq_true rfl) (Nat.le_of_ble_eq_true rfl) d_Z_person_18
    · refine x_catch K.1 K.2.2.2.2.1 K.2.2.1 hq hv hcl nw_393 [((0, 12, 15, 13), "java/lang/IllegalArgumentException")] (st := 0) (en := 12) (h := 19) (ct := 15) (rest := []) htab (List.forall_mem_cons.mpr ⟨⟨rfl, by decide, kw_312, by simp [ncl]⟩, (fun _ h => nomatch h)⟩) rfl (by decide) kw_313 ?_
      refine lv_astore (lv' := [(5, .ref q), (0, .ref (ad 0)), (1, .int x), (2, .int y), (3, .int z), (4, .ref w)]) K.hx K.hb d_Z_person_19 hl (by decide) rfl (fun ls hl => ?_)
      refine lv_iconst (v := 2) K.hx K.hb d_Z_person_21 (by decide) ?_
      exact xe_i K.hx K.hb hret hlk hS (fun t ht hW => ⟨2, 0, v, sd, f, rfl, Or.inr ⟨_, hx, by simp [sIAE, sUOE, sIOE, sISE], rfl, rfl⟩, K.cw hap hS hP t ht hW, by rw [ht]; exact hO, fun h => absurd h (by decide)⟩) (Nat.le_of_ble_eq_true rfl) (Nat.le_of_ble_eq_true rfl) d_Z_person_22
set_option maxHeartbeats 4000000 in
set_option maxRecDepth 100000 in
theorem c_Z_repair (l : Launch) (D : va_G) (cs : Nat → ClassId) (ad : Nat → Nat) (w : Nat) (v : Nat → Nat → Int32) (sd : Int64) (hfl : l.flags = flags0) {tc : Nat} (htc : v 0 2 = nI tc) (ht8 : tc ≤ 8) {rc : Nat} (hrc : v 19 5 = nI rc) (hrl : rc ≤ 5) (x y z u : Int32) : Zm l y_Z_repair b_Z_repair 7 [(0, 14, 17, 20), (0, 14, 21, 13), (0, 14, 25, 15)] (rmx 4 3) [.ref (ad 0), .int x, .int y, .int z, .int u, .ref w] D cs ad w v sd (qW_repair v sd tc rc x y z u) (xW_repair v tc rc x y z u) [(sIOE, 1), (sIAE, 2), (sUOE, 3)] := by
  refine zm_enter rfl (Nat.le_of_ble_eq_true rfl) ?_
  intro p e s m below meth c ls f K htab hlk hret hap hne hS hP hO hl
  have hl : lv_has ls 7 [(0, .ref (ad 0)), (1, .int x), (2, .int y), (3, .int z), (4, .int u), (5, .ref w)] := hl
  refine lv_aload K.hx K.hb d_Z_repair_0 (lv_at hl 5 rfl) ?_
  refine lv_iconst (v := 0) K.hx K.hb d_Z_repair_2 (by decide) ?_
  refine lv_aload_n K.hx K.hb d_Z_repair_3 rfl (lv_at hl 0 rfl) ?_
  refine lv_iload_n K.hx K.hb d_Z_repair_4 rfl (lv_at hl 1 rfl) ?_
  refine lv_iload_n K.hx K.hb d_Z_repair_5 rfl (lv_at hl 2 rfl) ?_
  refine lv_iload_n K.hx K.hb d_Z_repair_6 rfl (lv_at hl 3 rfl) ?_
  refine lv_iload K.hx K.hb d_Z_repair_7 (lv_at hl 4 rfl) ?_
  refine zc_V K hap hP hS (fun q hq => Or.inl (sub_A hS.1 q hq)) (k_W_repair l D cs ad v sd hfl htc ht8 hrc hrl x y z u) kw_570 xm_W_repair kw_567 kw_568 kw_569 rfl hl.1 d_Z_repair_9 (Nat.le_of_ble_eq_true rfl) (Nat.le_of_ble_eq_true rfl) ⟨(Nat.le_of_ble_eq_true rfl), (Nat.le_of_ble_eq_true rfl)⟩ (fun r v1 sd1 H l1 hp hP hk hS => ?_) (fun q cls cell H l1 hx hq hv hcl hP hk hS => ?_)
  · obtain ⟨a, rfl⟩ : ∃ a, r = some (.int a) := by obtain ⟨_, _, _, _, _, h, _⟩ := hp; exact ⟨_, h⟩
    have hO := hO.kept (hk w hO.lt (nA hO.lt hne))
    refine lv_i2l K.hx K.hb d_Z_repair_12 rfl ?_
    refine zc_last K hap hP hO hne hS (fun k hk => Or.inl (Or.inl ⟨k, hk, rfl⟩)) (Or.inr rfl) d_Z_repair_13 (fun H l1 f1 hf1 hP hO hS => ?_)
    refine lv_goto (tgt := 29) K.hx K.hb d_Z_repair_14 (by decide) ?_
    refine lv_iconst (v := 0) K.hx K.hb d_Z_repair_29 (by decide) ?_
    exact xe_i K.hx K.hb hret hlk hS (fun t ht hW => ⟨0, a, v1, sd1, f1, rfl, Or.inl ⟨rfl, hp⟩, K.cw hap hS hP t ht hW, by rw [ht]; exact hO, fun _ => hf1⟩) (Nat.le_of_ble_eq_true rfl) (Nat.le_of_ble_eq_true rfl) d_Z_repair_30
  · have hO := hO.kept (hk w hO.lt (nA hO.lt hne))
    have hcls : cls = "java/lang/IndexOutOfBoundsException" ∨ cls = "java/lang/IllegalArgumentException" ∨ cls = "java/lang/UnsupportedOperationException" := by rcases hx with ⟨_, h⟩ | ⟨_, _, h⟩ | ⟨_, _, _, h⟩ <;> simp [h]
    rcases hcls with rfl | rfl | rfl
    · refine x_catch K.1 K.2.2.2.2.1 K.2.2.1 hq hv hcl nw_426 [] (st := 0) (en := 14) (h := 17) (ct := 20) (rest := [(0, 14, 21, 13), (0, 14, 25, 15)]) htab (fun _ h => nomatch h) rfl (by decide) kw_414 ?_
      refine lv_astore (lv' := [(6, .ref q), (0, .ref (ad 0)), (1, .int x), (2, .int y), (3, .int z), (4, .int u), (5, .ref w)]) K.hx K.hb d_Z_repair_17 hl (by decide) rfl (fun ls hl => ?_)
      refine lv_iconst (v := 1) K.hx K.hb d_Z_repair_19 (by decide) ?_
      exact xe_i K.hx K.hb hret hlk hS (fun t ht hW => ⟨1, 0, v, sd, f, rfl, Or.inr ⟨_, hx, by simp [sIAE, sUOE, sIOE, sISE], rfl, rfl⟩, K.cw hap hS hP t ht hW, by rw [ht]; exact hO, fun h => absurd h (by decide)⟩) (Nat.le_of_ble_eq_true rfl) (Nat.le_of_ble_eq_true rfl) d_Z_repair_20
    · refine x_catch K.1 K.2.2.2.2.1 K.2.2.1 hq hv hcl nw_324 [((0, 14, 17, 20), "java/lang/IndexOutOfBoundsException")] (st := 0) (en := 14) (h := 21) (ct := 13) (rest := [(0, 14, 25, 15)]) htab (List.forall_mem_cons.mpr ⟨⟨rfl, by decide, kw_414, by simp [ncl]⟩, (fun _ h => nomatch h)⟩) rfl (by decide) kw_312 ?_
      refine lv_astore (lv' := [(6, .ref q), (0, .ref (ad 0)), (1, .int x), (2, .int y), (3, .int z), (4, .int u), (5, .ref w)]) K.hx K.hb d_Z_repair_21 hl (by decide) rfl (fun ls hl => ?_)
      refine lv_iconst (v := 2) K.hx K.hb d_Z_repair_23 (by decide) ?_
      exact xe_i K.hx K.hb hret hlk hS (fun t ht hW => ⟨2, 0, v, sd, f, rfl, Or.inr ⟨_, hx, by simp [sIAE, sUOE, sIOE, sISE], rfl, rfl⟩, K.cw hap hS hP t ht hW, by rw [ht]; exact hO, fun h => absurd h (by decide)⟩) (Nat.le_of_ble_eq_true rfl) (Nat.le_of_ble_eq_true rfl) d_Z_repair_24
    · refine x_catch K.1 K.2.2.2.2.1 K.2.2.1 hq hv hcl nw_393 [((0, 14, 17, 20), "java/lang/IndexOutOfBoundsException"), ((0, 14, 21, 13), "java/lang/IllegalArgumentException")] (st := 0) (en := 14) (h := 25) (ct := 15) (rest := []) htab (List.forall_mem_cons.mpr ⟨⟨rfl, by decide, kw_414, by simp [ncl]⟩, (List.forall_mem_cons.mpr ⟨⟨rfl, by decide, kw_312, by simp [ncl]⟩, (fun _ h => nomatch h)⟩)⟩) rfl (by decide) kw_313 ?_
      refine lv_astore (lv' := [(6, .ref q), (0, .ref (ad 0)), (1, .int x), (2, .int y), (3, .int z), (4, .int u), (5, .ref w)]) K.hx K.hb d_Z_repair_25 hl (by decide) rfl (fun ls hl => ?_)
      refine lv_iconst (v := 3) K.hx K.hb d_Z_repair_27 (by decide) ?_
      exact xe_i K.hx K.hb hret hlk hS (fun t ht hW => ⟨3, 0, v, sd, f, rfl, Or.inr ⟨_, hx, by simp [sIAE, sUOE, sIOE, sISE], rfl, rfl⟩, K.cw hap hS hP t ht hW, by rw [ht]; exact hO, fun h => absurd h (by decide)⟩) (Nat.le_of_ble_eq_true rfl) (Nat.le_of_ble_eq_true rfl) d_Z_repair_28
set_option maxHeartbeats 4000000 in
set_option maxRecDepth 100000 in
theorem c_Z_rules (l : Launch) (D : va_G) (cs : Nat → ClassId) (ad : Nat → Nat) (v : Nat → Nat → Int32) (sd : Int64) (hfl : l.flags = flags0) (x y : Int32) : Zv l y_Z_rules b_Z_rules 4 [(0, 6, 9, 13)] (rmx 2 1) [.ref (ad 0), .int x, .int y] D cs ad v sd (qW_rules v sd x y) (xW_rules v x y) [(sIAE, 1)] := by
  refine zv_enter rfl (Nat.le_of_ble_eq_true rfl) ?_
  intro p e s m below meth c ls K htab hlk hret hap hS hP hl
  have hl : lv_has ls 4 [(0, .ref (ad 0)), (1, .int x), (2, .int y)] := hl
  refine lv_aload_n K.hx K.hb d_Z_rules_0 rfl (lv_at hl 0 rfl) ?_
  refine lv_iload_n K.hx K.hb d_Z_rules_1 rfl (lv_at hl 1 rfl) ?_
  refine lv_iload_n K.hx K.hb d_Z_rules_2 rfl (lv_at hl 2 rfl) ?_
  refine zc_V K hap hP hS (sub_A hS.1) (k_W_rules l D cs ad v sd hfl x y) kw_584 xm_W_rules kw_581 kw_582 kw_583 rfl hl.1 d_Z_rules_3 (Nat.le_of_ble_eq_true rfl) (Nat.le_of_ble_eq_true rfl) ⟨(Nat.le_of_ble_eq_true rfl), (Nat.le_of_ble_eq_true rfl)⟩ (fun r v1 sd1 H l1 hp hP hk hS => ?_) (fun q cls cell H l1 hx hq hv hcl hP hk hS => ?_)
  · obtain rfl : r = none := by obtain ⟨_, h, _⟩ := hp; exact h
    refine lv_goto (tgt := 12) K.hx K.hb d_Z_rules_6 (by decide) ?_
    refine lv_iconst (v := 0) K.hx K.hb d_Z_rules_12 (by decide) ?_
    exact xe_i K.hx K.hb hret hlk hS (fun t ht hW => ⟨0, v1, sd1, rfl, Or.inl ⟨rfl, hp⟩, K.cw hap hS hP t ht hW⟩) (Nat.le_of_ble_eq_true rfl) (Nat.le_of_ble_eq_true rfl) d_Z_rules_13
  · have hcls : cls = "java/lang/IllegalArgumentException" := by rcases hx with ⟨_, h⟩ <;> simp [h]
    rcases hcls with rfl
    refine x_catch K.1 K.2.2.2.2.1 K.2.2.1 hq hv hcl nw_324 [] (st := 0) (en := 6) (h := 9) (ct := 13) (rest := []) htab (fun _ h => nomatch h) rfl (by decide) kw_312 ?_
    refine lv_astore_n (lv' := [(3, .ref q), (0, .ref (ad 0)), (1, .int x), (2, .int y)]) K.hx K.hb d_Z_rules_9 rfl hl (by decide) rfl (fun ls hl => ?_)
    refine lv_iconst (v := 1) K.hx K.hb d_Z_rules_10 (by decide) ?_
    exact xe_i K.hx K.hb hret hlk hS (fun t ht hW => ⟨1, v, sd, rfl, Or.inr ⟨_, hx, by simp [sIAE, sUOE, sIOE, sISE], rfl, rfl⟩, K.cw hap hS hP t ht hW⟩) (Nat.le_of_ble_eq_true rfl) (Nat.le_of_ble_eq_true rfl) d_Z_rules_11
set_option maxHeartbeats 4000000 in
set_option maxRecDepth 100000 in
theorem c_Z_at (l : Launch) (D : va_G) (cs : Nat → ClassId) (ad : Nat → Nat) (w : Nat) (v : Nat → Nat → Int32) (sd : Int64) (hfl : l.flags = flags0) {rc : Nat} (hrc : v 19 5 = nI rc) (hrl : rc ≤ 5) (x y : Int32) : Zm l y_Z_at b_Z_at 5 [(0, 10, 13, 20), (0, 10, 17, 22)] (rmx 2 3) [.ref (ad 0), .int x, .int y, .ref w] D cs ad w v sd (qW_at v sd rc x y) (xW_at v rc x y) [(sIOE, 1), (sISE, 2)] := by
  refine zm_enter rfl (Nat.le_of_ble_eq_true rfl) ?_
  intro p e s m below meth c ls f K htab hlk hret hap hne hS hP hO hl
  have hl : lv_has ls 5 [(0, .ref (ad 0)), (1, .int x), (2, .int y), (3, .ref w)] := hl
  refine lv_aload_n K.hx K.hb d_Z_at_0 rfl (lv_at hl 3 rfl) ?_
  refine lv_iconst (v := 0) K.hx K.hb d_Z_at_1 (by decide) ?_
  refine lv_aload_n K.hx K.hb d_Z_at_2 rfl (lv_at hl 0 rfl) ?_
  refine lv_iload_n K.hx K.hb d_Z_at_3 rfl (lv_at hl 1 rfl) ?_
  refine lv_iload_n K.hx K.hb d_Z_at_4 rfl (lv_at hl 2 rfl) ?_
  refine zc_V K hap hP hS (fun q hq => Or.inl (sub_A hS.1 q hq)) (k_W_at l D cs ad v sd hfl hrc hrl x y) kw_592 xm_W_at kw_589 kw_590 kw_591 rfl hl.1 d_Z_at_5 (Nat.le_of_ble_eq_true rfl) (Nat.le_of_ble_eq_true rfl) ⟨(Nat.le_of_ble_eq_true rfl), (Nat.le_of_ble_eq_true rfl)⟩ (fun r v1 sd1 H l1 hp hP hk hS => ?_) (fun q cls cell H l1 hx hq hv hcl hP hk hS => ?_)
  · obtain ⟨a, rfl⟩ : ∃ a, r = some (.int a) := by obtain ⟨_, _, _, _, _, h, _⟩ := hp; exact ⟨_, h⟩
    have hO := hO.kept (hk w hO.lt (nA hO.lt hne))
    refine lv_i2l K.hx K.hb d_Z_at_8 rfl ?_
    refine zc_last K hap hP hO hne hS (fun k hk => Or.inl (Or.inl ⟨k, hk, rfl⟩)) (Or.inr rfl) d_Z_at_9 (fun H l1 f1 hf1 hP hO hS => ?_)
    refine lv_goto (tgt := 21) K.hx K.hb d_Z_at_10 (by decide) ?_
    refine lv_iconst (v := 0) K.hx K.hb d_Z_at_21 (by decide) ?_
    exact xe_i K.hx K.hb hret hlk hS (fun t ht hW => ⟨0, a, v1, sd1, f1, rfl, Or.inl ⟨rfl, hp⟩, K.cw hap hS hP t ht hW, by rw [ht]; exact hO, fun _ => hf1⟩) (Nat.le_of_ble_eq_true rfl) (Nat.le_of_ble_eq_true rfl) d_Z_at_22
  · have hO := hO.kept (hk w hO.lt (nA hO.lt hne))
    have hcls : cls = "java/lang/IndexOutOfBoundsException" ∨ cls = "java/lang/IllegalStateException" := by rcases hx with ⟨_, h⟩ | ⟨_, _, _, h⟩ <;> simp [h]
    rcases hcls with rfl | rfl
    · refine x_catch K.1 K.2.2.2.2.1 K.2.2.1 hq hv hcl nw_426 [] (st := 0) (en := 10) (h := 13) (ct := 20) (rest := [(0, 10, 17, 22)]) htab (fun _ h => nomatch h) rfl (by decide) kw_414 ?_
      refine lv_astore (lv' := [(4, .ref q), (0, .ref (ad 0)), (1, .int x), (2, .int y), (3, .ref w)]) K.hx K.hb d_Z_at_13 hl (by decide) rfl (fun ls hl => ?_)
      refine lv_iconst (v := 1) K.hx K.hb d_Z_at_15 (by decide) ?_
      exact xe_i K.hx K.hb hret hlk hS (fun t ht hW => ⟨1, 0, v, sd, f, rfl, Or.inr ⟨_, hx, by simp [sIAE, sUOE, sIOE, sISE], rfl, rfl⟩, K.cw hap hS hP t ht hW, by rw [ht]; exact hO, fun h => absurd h (by decide)⟩) (Nat.le_of_ble_eq_true rfl) (Nat.le_of_ble_eq_true rfl) d_Z_at_16
    · refine x_catch K.1 K.2.2.2.2.1 K.2.2.1 hq hv hcl nw_446 [((0, 10, 13, 20), "java/lang/IndexOutOfBoundsException")] (st := 0) (en := 10) (h := 17) (ct := 22) (rest := []) htab (List.forall_mem_cons.mpr ⟨⟨rfl, by decide, kw_414, by simp [ncl]⟩, (fun _ h => nomatch h)⟩) rfl (by decide) kw_415 ?_
      refine lv_astore (lv' := [(4, .ref q), (0, .ref (ad 0)), (1, .int x), (2, .int y), (3, .ref w)]) K.hx K.hb d_Z_at_17 hl (by decide) rfl (fun ls hl => ?_)
      refine lv_iconst (v := 2) K.hx K.hb d_Z_at_19 (by decide) ?_
      exact xe_i K.hx K.hb hret hlk hS (fun t ht hW => ⟨2, 0, v, sd, f, rfl, Or.inr ⟨_, hx, by simp [sIAE, sUOE, sIOE, sISE], rfl, rfl⟩, K.cw hap hS hP t ht hW, by rw [ht]; exact hO, fun h => absurd h (by decide)⟩) (Nat.le_of_ble_eq_true rfl) (Nat.le_of_ble_eq_true rfl) d_Z_at_20
set_option maxHeartbeats 4000000 in
set_option maxRecDepth 100000 in
theorem c_Z_cost (l : Launch) (D : va_G) (cs : Nat → ClassId) (ad : Nat → Nat) (w : Nat) (v : Nat → Nat → Int32) (sd : Int64) (hfl : l.flags = flags0) : Zm l y_Z_cost b_Z_cost 3 [(0, 8, 11, 22)] (rmx 2 1) [.ref (ad 0), .ref w] D cs ad w v sd (qW_cost v sd ) (xW_cost v ) [(sISE, 1)] := by
  refine zm_enter rfl (Nat.le_of_ble_eq_true rfl) ?_
  intro p e s m below meth c ls f K htab hlk hret hap hne hS hP hO hl
  have hl : lv_has ls 3 [(0, .ref (ad 0)), (1, .ref w)] := hl
  refine lv_aload_n K.hx K.hb d_Z_cost_0 rfl (lv_at hl 1 rfl) ?_
  refine lv_iconst (v := 0) K.hx K.hb d_Z_cost_1 (by decide) ?_
  refine lv_aload_n K.hx K.hb d_Z_cost_2 rfl (lv_at hl 0 rfl) ?_
  refine zc_V K hap hP hS (fun q hq => Or.inl (sub_A hS.1 q hq)) (k_W_cost l D cs ad v sd hfl) kw_605 xm_W_cost kw_602 kw_603 kw_604 rfl hl.1 d_Z_cost_3 (Nat.le_of_ble_eq_true rfl) (Nat.le_of_ble_eq_true rfl) ⟨(Nat.le_of_ble_eq_true rfl), (Nat.le_of_ble_eq_true rfl)⟩ (fun r v1 sd1 H l1 hp hP hk hS => ?_) (fun q cls cell H l1 hx hq hv hcl hP hk hS => ?_)
  · obtain ⟨a, rfl⟩ : ∃ a, r = some (.int a) := by obtain ⟨_, h, _⟩ := hp; exact ⟨_, h⟩
    have hO := hO.kept (hk w hO.lt (nA hO.lt hne))
    refine lv_i2l K.hx K.hb d_Z_cost_6 rfl ?_
    refine zc_last K hap hP hO hne hS (fun k hk => Or.inl (Or.inl ⟨k, hk, rfl⟩)) (Or.inr rfl) d_Z_cost_7 (fun H l1 f1 hf1 hP hO hS => ?_)
    refine lv_goto (tgt := 14) K.hx K.hb d_Z_cost_8 (by decide) ?_
    refine lv_iconst (v := 0) K.hx K.hb d_Z_cost_14 (by decide) ?_
    exact xe_i K.hx K.hb hret hlk hS (fun t ht hW => ⟨0, a, v1, sd1, f1, rfl, Or.inl ⟨rfl, hp⟩, K.cw hap hS hP t ht hW, by rw [ht]; exact hO, fun _ => hf1⟩) (Nat.le_of_ble_eq_true rfl) (Nat.le_of_ble_eq_true rfl) d_Z_cost_15
  · have hO := hO.kept (hk w hO.lt (nA hO.lt hne))
    have hcls : cls = "java/lang/IllegalStateException" := by rcases hx with ⟨_, h⟩ <;> simp [h]
    rcases hcls with rfl
    refine x_catch K.1 K.2.2.2.2.1 K.2.2.1 hq hv hcl nw_446 [] (st := 0) (en := 8) (h := 11) (ct := 22) (rest := []) htab (fun _ h => nomatch h) rfl (by decide) kw_415 ?_
    refine lv_astore_n (lv' := [(2, .ref q), (0, .ref (ad 0)), (1, .ref w)]) K.hx K.hb d_Z_cost_11 rfl hl (by decide) rfl (fun ls hl => ?_)
    refine lv_iconst (v := 1) K.hx K.hb d_Z_cost_12 (by decide) ?_
    exact xe_i K.hx K.hb hret hlk hS (fun t ht hW => ⟨1, 0, v, sd, f, rfl, Or.inr ⟨_, hx, by simp [sIAE, sUOE, sIOE, sISE], rfl, rfl⟩, K.cw hap hS hP t ht hW, by rw [ht]; exact hO, fun h => absurd h (by decide)⟩) (Nat.le_of_ble_eq_true rfl) (Nat.le_of_ble_eq_true rfl) d_Z_cost_13
set_option maxHeartbeats 4000000 in
set_option maxRecDepth 100000 in
theorem c_Z_done (l : Launch) (D : va_G) (cs : Nat → ClassId) (ad : Nat → Nat) (w : Nat) (v : Nat → Nat → Int32) (sd : Int64) (hfl : l.flags = flags0) {gc pc rc : Nat} (hPI : PI gc pc rc v) (hSK : SK rc v) : Zm l y_Z_done b_Z_done 3 [(0, 8, 11, 22)] (rmx 4 1) [.ref (ad 0), .ref w] D cs ad w v sd (qW_done v sd gc pc rc) (xW_done v gc pc rc) [(sISE, 1)] := by
  refine zm_enter rfl (Nat.le_of_ble_eq_true rfl) ?_
  intro p e s m below meth c ls f K htab hlk hret hap hne hS hP hO hl
  have hl : lv_has ls 3 [(0, .ref (ad 0)), (1, .ref w)] := hl
  refine lv_aload_n K.hx K.hb d_Z_done_0 rfl (lv_at hl 1 rfl) ?_
  refine lv_iconst (v := 0) K.hx K.hb d_Z_done_1 (by decide) ?_
  refine lv_aload_n K.hx K.hb d_Z_done_2 rfl (lv_at hl 0 rfl) ?_
  refine zc_V K hap hP hS (fun q hq => Or.inl (sub_A hS.1 q hq)) (k_W_done l D cs ad v sd hfl hPI hSK) kw_612 xm_W_done kw_609 kw_610 kw_611 rfl hl.1 d_Z_done_3 (Nat.le_of_ble_eq_true rfl) (Nat.le_of_ble_eq_true rfl) ⟨(Nat.le_of_ble_eq_true rfl), (Nat.le_of_ble_eq_true rfl)⟩ (fun r v1 sd1 H l1 hp hP hk hS => ?_) (fun q cls cell H l1 hx hq hv hcl hP hk hS => ?_)
  · obtain ⟨a, rfl⟩ : ∃ a, r = some (.int a) := by obtain ⟨_, h, _⟩ := hp; exact ⟨_, h⟩
    have hO := hO.kept (hk w hO.lt (nA hO.lt hne))
    refine lv_i2l K.hx K.hb d_Z_done_6 rfl ?_
    refine zc_last K hap hP hO hne hS (fun k hk => Or.inl (Or.inl ⟨k, hk, rfl⟩)) (Or.inr rfl) d_Z_done_7 (fun H l1 f1 hf1 hP hO hS => ?_)
    refine lv_goto (tgt := 14) K.hx K.hb d_Z_done_8 (by decide) ?_
    refine lv_iconst (v := 0) K.hx K.hb d_Z_done_14 (by decide) ?_
    exact xe_i K.hx K.hb hret hlk hS (fun t ht hW => ⟨0, a, v1, sd1, f1, rfl, Or.inl ⟨rfl, hp⟩, K.cw hap hS hP t ht hW, by rw [ht]; exact hO, fun _ => hf1⟩) (Nat.le_of_ble_eq_true rfl) (Nat.le_of_ble_eq_true rfl) d_Z_done_15
  · have hO := hO.kept (hk w hO.lt (nA hO.lt hne))
    have hcls : cls = "java/lang/IllegalStateException" := by rcases hx with ⟨_, h⟩ <;> simp [h]
    rcases hcls with rfl
    refine x_catch K.1 K.2.2.2.2.1 K.2.2.1 hq hv hcl nw_446 [] (st := 0) (en := 8) (h := 11) (ct := 22) (rest := []) htab (fun _ h => nomatch h) rfl (by decide) kw_415 ?_
    refine lv_astore_n (lv' := [(2, .ref q), (0, .ref (ad 0)), (1, .ref w)]) K.hx K.hb d_Z_done_11 rfl hl (by decide) rfl (fun ls hl => ?_)
    refine lv_iconst (v := 1) K.hx K.hb d_Z_done_12 (by decide) ?_
    exact xe_i K.hx K.hb hret hlk hS (fun t ht hW => ⟨1, 0, v, sd, f, rfl, Or.inr ⟨_, hx, by simp [sIAE, sUOE, sIOE, sISE], rfl, rfl⟩, K.cw hap hS hP t ht hW, by rw [ht]; exact hO, fun h => absurd h (by decide)⟩) (Nat.le_of_ble_eq_true rfl) (Nat.le_of_ble_eq_true rfl) d_Z_done_13
set_option maxHeartbeats 4000000 in
set_option maxRecDepth 100000 in
theorem c_Z_spare (l : Launch) (D : va_G) (cs : Nat → ClassId) (ad : Nat → Nat) (w : Nat) (v : Nat → Nat → Int32) (sd : Int64) (hfl : l.flags = flags0) (x y : Int32) : Zm l y_Z_spare b_Z_spare 5 [(0, 10, 13, 20), (0, 10, 17, 13), (0, 10, 21, 15)] (rmx 2 1) [.ref (ad 0), .int x, .int y, .ref w] D cs ad w v sd (qW_spare v sd x y) (xW_spare v x y) [(sIOE, 1), (sIAE, 2), (sUOE, 3)] := by
  refine zm_enter rfl (Nat.le_of_ble_eq_true rfl) ?_
  intro p e s m below meth c ls f K htab hlk hret hap hne hS hP hO hl
  have hl : lv_has ls 5 [(0, .ref (ad 0)), (1, .int x), (2, .int y), (3, .ref w)] := hl
  refine lv_aload_n K.hx K.hb d_Z_spare_0 rfl (lv_at hl 3 rfl) ?_
  refine lv_iconst (v := 0) K.hx K.hb d_Z_spare_1 (by decide) ?_
  refine lv_aload_n K.hx K.hb d_Z_spare_2 rfl (lv_at hl 0 rfl) ?_
  refine lv_iload_n K.hx K.hb d_Z_spare_3 rfl (lv_at hl 1 rfl) ?_
  refine lv_iload_n K.hx K.hb d_Z_spare_4 rfl (lv_at hl 2 rfl) ?_
  refine zc_V K hap hP hS (fun q hq => Or.inl (sub_A hS.1 q hq)) (k_W_spare l D cs ad v sd hfl x y) kw_624 xm_W_spare kw_621 kw_622 kw_623 rfl hl.1 d_Z_spare_5 (Nat.le_of_ble_eq_true rfl) (Nat.le_of_ble_eq_true rfl) ⟨(Nat.le_of_ble_eq_true rfl), (Nat.le_of_ble_eq_true rfl)⟩ (fun r v1 sd1 H l1 hp hP hk hS => ?_) (fun q cls cell H l1 hx hq hv hcl hP hk hS => ?_)
  · obtain ⟨a, rfl⟩ : ∃ a, r = some (.int a) := by obtain ⟨_, _, _, _, _, h, _⟩ := hp; exact ⟨_, h⟩
    have hO := hO.kept (hk w hO.lt (nA hO.lt hne))
    refine lv_i2l K.hx K.hb d_Z_spare_8 rfl ?_
    refine zc_last K hap hP hO hne hS (fun k hk => Or.inl (Or.inl ⟨k, hk, rfl⟩)) (Or.inr rfl) d_Z_spare_9 (fun H l1 f1 hf1 hP hO hS => ?_)
    refine lv_goto (tgt := 25) K.hx K.hb d_Z_spare_10 (by decide) ?_
    refine lv_iconst (v := 0) K.hx K.hb d_Z_spare_25 (by decide) ?_
    exact xe_i K.hx K.hb hret hlk hS (fun t ht hW => ⟨0, a, v1, sd1, f1, rfl, Or.inl ⟨rfl, hp⟩, K.cw hap hS hP t ht hW, by rw [ht]; exact hO, fun _ => hf1⟩) (Nat.le_of_ble_eq_true rfl) (Nat.le_of_ble_eq_true rfl) d_Z_spare_26
  · have hO := hO.kept (hk w hO.lt (nA hO.lt hne))
    have hcls : cls = "java/lang/IndexOutOfBoundsException" ∨ cls = "java/lang/IllegalArgumentException" ∨ cls = "java/lang/UnsupportedOperationException" := by rcases hx with ⟨_, h⟩ | ⟨_, _, h⟩ | ⟨_, _, _, _, _, h⟩ <;> simp [h]
    rcases hcls with rfl | rfl | rfl
    · refine x_catch K.1 K.2.2.2.2.1 K.2.2.1 hq hv hcl nw_426 [] (st := 0) (en := 10) (h := 13) (ct := 20) (rest := [(0, 10, 17, 13), (0, 10, 21, 15)]) htab (fun _ h => nomatch h) rfl (by decide) kw_414 ?_
      refine lv_astore (lv' := [(4, .ref q), (0, .ref (ad 0)), (1, .int x), (2, .int y), (3, .ref w)]) K.hx K.hb d_Z_spare_13 hl (by decide) rfl (fun ls hl => ?_)
      refine lv_iconst (v := 1) K.hx K.hb d_Z_spare_15 (by decide) ?_
      exact xe_i K.hx K.hb hret hlk hS (fun t ht hW => ⟨1, 0, v, sd, f, rfl, Or.inr ⟨_, hx, by simp [sIAE, sUOE, sIOE, sISE], rfl, rfl⟩, K.cw hap hS hP t ht hW, by rw [ht]; exact hO, fun h => absurd h (by decide)⟩) (Nat.le_of_ble_eq_true rfl) (Nat.le_of_ble_eq_true rfl) d_Z_spare_16
    · refine x_catch K.1 K.2.2.2.2.1 K.2.2.1 hq hv hcl nw_324 [((0, 10, 13, 20), "java/lang/IndexOutOfBoundsException")] (st := 0) (en := 10) (h := 17) (ct := 13) (rest := [(0, 10, 21, 15)]) htab (List.forall_mem_cons.mpr ⟨⟨rfl, by decide, kw_414, by simp [ncl]⟩, (fun _ h => nomatch h)⟩) rfl (by decide) kw_312 ?_
      refine lv_astore (lv' := [(4, .ref q), (0, .ref (ad 0)), (1, .int x), (2, .int y), (3, .ref w)]) K.hx K.hb d_Z_spare_17 hl (by decide) rfl (fun ls hl => ?_)
      refine lv_iconst (v := 2) K.hx K.hb d_Z_spare_19 (by decide) ?_
      exact xe_i K.hx K.hb hret hlk hS (fun t ht hW => ⟨2, 0, v, sd, f, rfl, Or.inr ⟨_, hx, by simp [sIAE, sUOE, sIOE, sISE], rfl, rfl⟩, K.cw hap hS hP t ht hW, by rw [ht]; exact hO, fun h => absurd h (by decide)⟩) (Nat.le_of_ble_eq_true rfl) (Nat.le_of_ble_eq_true rfl) d_Z_spare_20
    · refine x_catch K.1 K.2.2.2.2.1 K.2.2.1 hq hv hcl nw_393 [((0, 10, 13, 20), "java/lang/IndexOutOfBoundsException"), ((0, 10, 17, 13), "java/lang/IllegalArgumentException")] (st := 0) (en := 10) (h := 21) (ct := 15) (rest := []) htab (List.forall_mem_cons.mpr ⟨⟨rfl, by decide, kw_414, by simp [ncl]⟩, (List.forall_mem_cons.mpr ⟨⟨rfl, by decide, kw_312, by simp [ncl]⟩, (fun _ h => nomatch h)⟩)⟩) rfl (by decide) kw_313 ?_
      refine lv_astore (lv' := [(4, .ref q), (0, .ref (ad 0)), (1, .int x), (2, .int y), (3, .ref w)]) K.hx K.hb d_Z_spare_21 hl (by decide) rfl (fun ls hl => ?_)
      refine lv_iconst (v := 3) K.hx K.hb d_Z_spare_23 (by decide) ?_
      exact xe_i K.hx K.hb hret hlk hS (fun t ht hW => ⟨3, 0, v, sd, f, rfl, Or.inr ⟨_, hx, by simp [sIAE, sUOE, sIOE, sISE], rfl, rfl⟩, K.cw hap hS hP t ht hW, by rw [ht]; exact hO, fun h => absurd h (by decide)⟩) (Nat.le_of_ble_eq_true rfl) (Nat.le_of_ble_eq_true rfl) d_Z_spare_24
