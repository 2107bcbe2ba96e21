/-! ===== level 2: the reference's minute ===== -/
section FN
variable {S S2 T U : Sg} {nC nR nT nK nL nM nP td N : Nat} {lh : Nat → Nat}
theorem drkN_sm (f : SM S2 T) (c : Nat) : drkN T c = drkN S2 c := by
  unfold drkN full
  rw [vwI (f.v (x := 1131) (by omega) (by omega)), vwI (f.v (x := 1115) (by omega) (by omega)), vwI (f.v (x := 1118) (by omega) (by omega))]
theorem m_223 {w st : Ms} {be : Nat → Option Nat} {own : Nat → Nat → Nat} {n m mm c D acc : Nat} {u1 u2 : Int32} {Q : Unit → Sg → Prop} {K : Int64 → Int32 → Sg → Prop} (hc : c < n) (hw : Wb w be own n) (hi : Wi w st n m c) (p0 : sI S2 1108 c = Int32.ofNat (w 0 c)) (p1 : sI S2 1110 c = Int32.ofNat (w 1 c)) (pb : (sI S2 1111 c = -1 ∧ be c = none) ∨ ∃ b, c < b ∧ b < n ∧ sI S2 1111 c = Int32.ofNat b ∧ be c = some b) (f : SM S2 T) (f0 : ∀ j, j < n → sI T 1141 j = Int32.ofNat (st 0 j)) (fj : ∀ j, j < n → sL T 1144 j = gn (st 4 j) ∧ sL T 1145 j = gn (st 5 j) ∧ sI T 1146 j = Int32.ofNat (st 6 j)) (f1 : ∀ j, c ≤ j → j < n → sL T 1142 j = gn (st 1 j) ∧ sL T 1143 j = gn (st 2 j)) (f48 : sL T 1000 48 = gn (D + su (st 3) n)) (f49 : sL T 1000 49 = gn (su (st 4) n)) (f52 : sI T 1000 52 = Int32.ofNat (su (st 6) n)) (k : ∀ T', MX S2 T' (q_st w be st c (own mm c)) n (c + 1) D → MR T T' → K (gn (acc + q_ou w be st c (own mm c))) (Int32.ofNat (c + 1)) T') : P_X11_minute_B223 1000 u1 u2 (gn acc) (Int32.ofNat c) (gn (own mm c + st 1 c)) (Int32.ofNat (q_tk w st c (own mm c))) (Int32.ofNat (st 0 c + q_tk w st c (own mm c))) (Int32.ofNat (w 4 c)) T Q K := by
  have hin := wi_in (mm := mm) hw hi hc
  have n12 := hw.1
  obtain ⟨b0, b1, b2, b3, b4, -⟩ := hw.2.1 c hc
  have s0le := hi.1 c hc
  have h12 : c < 12 := by omega
  have htk := q_tk_le (st := st) (own := own mm c) b3
  have htk5 : q_tk w st c (own mm c) ≤ 500 := Nat.le_trans (Nat.min_le_right _ _) (by omega)
  have hsn : q_sn w st c (own mm c) ≤ st 0 c + q_tk w st c (own mm c) := Nat.min_le_left _ _
  have u3 := q_st_su (w := w) (be := be) (st := st) (own := own mm c) (k := 3) hc (by omega) (by omega)
  obtain ⟨s0, -, -, s3, -⟩ := q_st_c (w := w) (be := be) (st := st) (c := c) (own := own mm c)
  unfold P_X11_minute_B223
  intro x187 hx
  rw [n_minC (by omega) (by omega)] at hx
  have hx : x187 = Int32.ofNat (q_sn w st c (own mm c)) := hx
  subst hx
  refine ⟨f.1.o, 1141, f.1.a41.1, f.1.a41.2.1, by simp (disch := first | omega | decide) only [Option.some.injEq, exists_eq_left', exists_eq_left, forall_eq, forall_eq', true_and, and_true, true_implies, implies_true, false_implies, not_true_eq_false, not_false_eq_true, reduceCtorEq, and_self, forall_const, i10, i01, if_true, if_false, and_false, false_and, Nat.not_lt_zero, sK_pI, sN_pI, sR_pI, sL_pI, sK_pL, sN_pL, sR_pL, sI_pL, sK_pR, sN_pR, sI_pR, sL_pR, sI_pI_eq, sI_pI_ne, sL_pL_eq, sL_pL_ne, sR_pR_eq, sR_pR_ne, nn_le, nat32_lt, nn_eq, ln_le, nl_le, ln_lt, nl_lt, ln_eq, nl_eq, n_m1, n_lt0, vp_n, vp_l, lc_n, nat32c, n_s, nI_n, f.1.a41, h12], by simp (disch := first | omega | decide) only [Option.some.injEq, exists_eq_left', exists_eq_left, forall_eq, forall_eq', true_and, and_true, true_implies, implies_true, false_implies, not_true_eq_false, not_false_eq_true, reduceCtorEq, and_self, forall_const, i10, i01, if_true, if_false, and_false, false_and, Nat.not_lt_zero, sK_pI, sN_pI, sR_pI, sL_pI, sK_pL, sN_pL, sR_pL, sI_pL, sK_pR, sN_pR, sI_pR, sL_pR, sI_pI_eq, sI_pI_ne, sL_pL_eq, sL_pL_ne, sR_pR_eq, sR_pR_ne, nn_le, nat32_lt, nn_eq, ln_le, nl_le, ln_lt, nl_lt, ln_eq, nl_eq, n_m1, n_lt0, vp_n, vp_l, lc_n, nat32c, n_s, nI_n, f.1.a41, h12], fun t1 q1 t2 q2 y hy => ?_⟩
  rw [nat32c (by omega), f0 c hc, ← add_sub3, n_add, n_sub hsn, ← s0] at q1
  have hsn5 : q_sn w st c (own mm c) ≤ 100 := Nat.le_trans (Nat.min_le_right _ _) b4
  rw [q1, sL_pI, f48, n_64 (by omega), g_add] at q2
  rw [n_64 (by omega), g_sub htk] at hy
  rw [hy, q2]
  refine m_tail hc hw hi p0 p1 pb ((f.pI (by omega)).pL (by omega)) (fun j hj => ?_) fj f1 ?_ f49 f52 (fun T' a b => k T' a ((((MR.refl T).pI (by omega)).pL (by omega)).trans b))
  · by_cases e : j = c
    · subst e
      rw [sI_pL, sI_pI_eq]
    · rw [sI_pL, sI_pI_ne (by omega), f0 j hj]
      simp [q_st, e]
  · rw [sL_pL_eq, Nat.add_assoc, show su (st 3) n + q_sn w st c (own mm c) = su (q_st w be st c (own mm c) 3) n from by omega]
theorem m_soak {v : Int32} {st : Ms} {m mm c D acc : Nat} {u1 : Int32} {Q : Unit → Sg → Prop} {K : Int64 → Int32 → Sg → Prop} (h : IV S S2 nC nR nT nK nL nM nP td N lh) (hc : c < nC) (hi : Wi (wF S2 v) st nC m c) (f : SM S2 T) (f0 : ∀ j, j < nC → sI T 1141 j = Int32.ofNat (st 0 j)) (fj : ∀ j, j < nC → sL T 1144 j = gn (st 4 j) ∧ sL T 1145 j = gn (st 5 j) ∧ sI T 1146 j = Int32.ofNat (st 6 j)) (f1 : ∀ j, c ≤ j → j < nC → sL T 1142 j = gn (st 1 j) ∧ sL T 1143 j = gn (st 2 j)) (f48 : sL T 1000 48 = gn (D + su (st 3) nC)) (f49 : sL T 1000 49 = gn (su (st 4) nC)) (f52 : sI T 1000 52 = Int32.ofNat (su (st 6) nC)) (k : ∀ T', MX S2 T' (q_st (wF S2 v) (beF S2) st c (owF S2 nR mm c)) nC (c + 1) D → MR T T' → K (gn (acc + q_ou (wF S2 v) (beF S2) st c (owF S2 nR mm c))) (Int32.ofNat (c + 1)) T') : P_X11_minute_B112 1000 u1 v (gn acc) (Int32.ofNat c) (gn (owF S2 nR mm c + st 1 c)) (if isnw v c then 1 else 0) T Q K := by
  have hV := h
  obtain ⟨hk, hM, hS, hU, gA, hW, hB, hC, hR, hT, hK, hL, hZ, hP, hN⟩ := h
  have n12 := hC.2.1
  have h12 : c < 12 := by omega
  have hw := world_ok (v := v) gA hB hC hR
  have ar := area_e hC hc
  have p0 : sI S2 1108 c = Int32.ofNat (wF S2 v 0 c) := by rw [wF_lo (by omega)]; exact ar.2.2.1
  have p1 : sI S2 1110 c = Int32.ofNat (wF S2 v 1 c) := by rw [wF_lo (by omega)]; exact ar.2.2.2.2.1
  have pb := be_e hC hc
  have hin := wi_in (mm := mm) hw hi hc
  have s0le := hi.1 c hc
  obtain ⟨b0, b1, b2, b3, b4, -⟩ := hw.2.1 c hc
  have i12 : sI T 1112 c = sI S2 1112 c := by rw [vwI (f.v (x := 1112) (by omega) (by omega))]
  -- the bowl's part, once what may go in, the bowl and the drink are known
  have go : ∀ (w1 : Int32) (an : Int32), w1 = Int32.ofNat (wF S2 v 2 c) → (an = 0 → drkN S2 c = Int32.ofNat (wF S2 v 4 c) ∧ rg (sI S2 1115 c) 0 9) → (¬ an = 0 → sI S2 1131 0 = Int32.ofNat (wF S2 v 4 c)) → P_X11_minute_B178 1000 u1 v (gn acc) (Int32.ofNat c) (gn (owF S2 nR mm c + st 1 c)) an (gn ((owF S2 nR mm c + st 1 c) * wF S2 v 3 c / 10)) w1 T Q K := fun w1 an e1 e2 e3 => by
    have hop : (owF S2 nR mm c + st 1 c) * wF S2 v 3 c ≤ 960000 * 10 := Nat.mul_le_mul (by omega) b3
    unfold P_X11_minute_B178
    refine ⟨f.1.o, 1141, f.1.a41.1, f.1.a41.2.1, by simp (disch := first | omega | decide) only [Option.some.injEq, exists_eq_left', exists_eq_left, forall_eq, forall_eq', true_and, and_true, true_implies, implies_true, false_implies, not_true_eq_false, not_false_eq_true, reduceCtorEq, and_self, forall_const, i10, i01, if_true, if_false, and_false, false_and, Nat.not_lt_zero, sK_pI, sN_pI, sR_pI, sL_pI, sK_pL, sN_pL, sR_pL, sI_pL, sK_pR, sN_pR, sI_pR, sL_pR, sI_pI_eq, sI_pI_ne, sL_pL_eq, sL_pL_ne, sR_pR_eq, sR_pR_ne, nn_le, nat32_lt, nn_eq, ln_le, nl_le, ln_lt, nl_lt, ln_eq, nl_eq, n_m1, n_lt0, vp_n, vp_l, lc_n, nat32c, n_s, nI_n, f.1.a41, h12], fun x143 hx => ⟨1141, f.1.a41.1, f.1.a41.2.1, by simp (disch := first | omega | decide) only [Option.some.injEq, exists_eq_left', exists_eq_left, forall_eq, forall_eq', true_and, and_true, true_implies, implies_true, false_implies, not_true_eq_false, not_false_eq_true, reduceCtorEq, and_self, forall_const, i10, i01, if_true, if_false, and_false, false_and, Nat.not_lt_zero, sK_pI, sN_pI, sR_pI, sL_pI, sK_pL, sN_pL, sR_pL, sI_pL, sK_pR, sN_pR, sI_pR, sL_pR, sI_pI_eq, sI_pI_ne, sL_pL_eq, sL_pL_ne, sR_pR_eq, sR_pR_ne, nn_le, nat32_lt, nn_eq, ln_le, nl_le, ln_lt, nl_lt, ln_eq, nl_eq, n_m1, n_lt0, vp_n, vp_l, lc_n, nat32c, n_s, nI_n, f.1.a41, h12], ?_⟩⟩
    rw [nat32c (by omega), f0 c hc, e1, n_sub s0le, n_64 (by omega), g_minC (by omega) (by omega)] at hx
    have hx : x143 = gn (q_tk (wF S2 v) st c (owF S2 nR mm c)) := hx
    rw [hx, nat32c (by omega), f0 c hc, g_32, n_add]
    refine ⟨fun z => ?_, fun z => ⟨1131, f.1.a31.1, f.1.a31.2.1, by simp (disch := first | omega | decide) only [Option.some.injEq, exists_eq_left', exists_eq_left, forall_eq, forall_eq', true_and, and_true, true_implies, implies_true, false_implies, not_true_eq_false, not_false_eq_true, reduceCtorEq, and_self, forall_const, i10, i01, if_true, if_false, and_false, false_and, Nat.not_lt_zero, sK_pI, sN_pI, sR_pI, sL_pI, sK_pL, sN_pL, sR_pL, sI_pL, sK_pR, sN_pR, sI_pR, sL_pR, sI_pI_eq, sI_pI_ne, sL_pL_eq, sL_pL_ne, sR_pR_eq, sR_pR_ne, nn_le, nat32_lt, nn_eq, ln_le, nl_le, ln_lt, nl_lt, ln_eq, nl_eq, n_m1, n_lt0, vp_n, vp_l, lc_n, nat32c, n_s, nI_n, f.1.a31]; omega, ?_⟩⟩
    · obtain ⟨d1, d2⟩ := e2 z
      refine (mdrink_e f.1 (by rw [vwI (f.v (x := 1115) (by omega) (by omega))]; exact d2) h12).mpr ?_
      have d3 : full T c * (100 - sI T 1118 c) / 100 = Int32.ofNat (wF S2 v 4 c) := (drkN_sm f c).trans d1
      rw [d3]
      exact m_223 hc hw hi p0 p1 pb f f0 fj f1 f48 f49 f52 k
    · rw [show (0 : Int32).toNatClampNeg = 0 from by decide, vwI (f.v (x := 1131) (by omega) (by omega)), e3 z]
      exact m_223 hc hw hi p0 p1 pb f f0 fj f1 f48 f49 f52 k
  have old : ¬ isnw v c → ¬ sI S2 1112 c = 0 → P_X11_minute_B129 1000 u1 v (gn acc) (Int32.ofNat c) (gn (owF S2 nR mm c + st 1 c)) 0 T Q K := fun en hb => by
    have bd := bed_e gA hB h12 hb
    have w2 : wF S2 v 2 c = nt (sI S2 1116 c) := by rw [wF_old en]; simp [wB, hb]
    have w3 : wF S2 v 3 c = 10 - nt (sI S2 1119 c) := by rw [wF_old en]; simp [wB, hb]
    have w4 : wF S2 v 4 c = nt (drkN S2 c) := by rw [wF_old en]; simp [wB, hb]
    unfold P_X11_minute_B129 P_X11_minute_B157
    refine ⟨fun _ => ⟨f.1.o, 1119, f.1.a19.1, f.1.a19.2.1, by simp (disch := first | omega | decide) only [Option.some.injEq, exists_eq_left', exists_eq_left, forall_eq, forall_eq', true_and, and_true, true_implies, implies_true, false_implies, not_true_eq_false, not_false_eq_true, reduceCtorEq, and_self, forall_const, i10, i01, if_true, if_false, and_false, false_and, Nat.not_lt_zero, sK_pI, sN_pI, sR_pI, sL_pI, sK_pL, sN_pL, sR_pL, sI_pL, sK_pR, sN_pR, sI_pR, sL_pR, sI_pI_eq, sI_pI_ne, sL_pL_eq, sL_pL_ne, sR_pR_eq, sR_pR_ne, nn_le, nat32_lt, nn_eq, ln_le, nl_le, ln_lt, nl_lt, ln_eq, nl_eq, n_m1, n_lt0, vp_n, vp_l, lc_n, nat32c, n_s, nI_n, f.1.a19, h12], fun _ => ⟨f.1.o, 1116, f.1.a16.1, f.1.a16.2.1, by simp (disch := first | omega | decide) only [Option.some.injEq, exists_eq_left', exists_eq_left, forall_eq, forall_eq', true_and, and_true, true_implies, implies_true, false_implies, not_true_eq_false, not_false_eq_true, reduceCtorEq, and_self, forall_const, i10, i01, if_true, if_false, and_false, false_and, Nat.not_lt_zero, sK_pI, sN_pI, sR_pI, sL_pI, sK_pL, sN_pL, sR_pL, sI_pL, sK_pR, sN_pR, sI_pR, sL_pR, sI_pI_eq, sI_pI_ne, sL_pL_eq, sL_pL_ne, sR_pR_eq, sR_pR_ne, nn_le, nat32_lt, nn_eq, ln_le, nl_le, ln_lt, nl_lt, ln_eq, nl_eq, n_m1, n_lt0, vp_n, vp_l, lc_n, nat32c, n_s, nI_n, f.1.a16, h12], ?_⟩, fun z => absurd rfl z⟩, fun z => absurd rfl z⟩
    have hop : (owF S2 nR mm c + st 1 c) * wF S2 v 3 c ≤ 960000 * 10 := Nat.mul_le_mul (by omega) b3
    rw [nat32c (by omega), vwI (f.v (x := 1119) (by omega) (by omega)), vwI (f.v (x := 1116) (by omega) (by omega)), bd.2.2.1, show (10 : Int32) = Int32.ofNat 10 from rfl, n_sub bd.2.2.2.1, n_64 (by omega), g_mul, ← w3, g_divl (k := 10) (by omega) (by omega)]
    exact go _ 0 (by rw [w2]; exact bd.1) (fun _ => ⟨by rw [w4]; exact bd.2.2.2.2.1, ((hB c h12).2.2.2 hb).2.1⟩) (fun z => absurd rfl z)
  have new : isnw v c → P_X11_minute_B129 1000 u1 v (gn acc) (Int32.ofNat c) (gn (owF S2 nR mm c + st 1 c)) 1 T Q K := fun en => by
    have w2 : wF S2 v 2 c = 100 := by rw [wF_new (by omega) en]; rfl
    have w3 : wF S2 v 3 c = 10 := by rw [wF_new (by omega) en]; rfl
    have w4 : wF S2 v 4 c = nt (sI S2 1131 0) := by rw [wF_new (by omega) en]; rfl
    unfold P_X11_minute_B129 P_X11_minute_B157
    refine ⟨fun z => absurd z (by decide), fun _ => ⟨fun z => absurd z (by decide), fun _ => ?_⟩⟩
    have g := go 100 1 (by rw [w2]; rfl) (fun z => absurd z (by decide)) (fun _ => by rw [w4]; exact (lot0_e gA).1)
    rw [w3, Nat.mul_div_cancel _ (by omega)] at g
    exact g
  unfold P_X11_minute_B112
  refine ⟨f.1.o, 1112, f.1.a12.1, f.1.a12.2.1, by simp (disch := first | omega | decide) only [Option.some.injEq, exists_eq_left', exists_eq_left, forall_eq, forall_eq', true_and, and_true, true_implies, implies_true, false_implies, not_true_eq_false, not_false_eq_true, reduceCtorEq, and_self, forall_const, i10, i01, if_true, if_false, and_false, false_and, Nat.not_lt_zero, sK_pI, sN_pI, sR_pI, sL_pI, sK_pL, sN_pL, sR_pL, sI_pL, sK_pR, sN_pR, sI_pR, sL_pR, sI_pI_eq, sI_pI_ne, sL_pL_eq, sL_pL_ne, sR_pR_eq, sR_pR_ne, nn_le, nat32_lt, nn_eq, ln_le, nl_le, ln_lt, nl_lt, ln_eq, nl_eq, n_m1, n_lt0, vp_n, vp_l, lc_n, nat32c, n_s, nI_n, f.1.a12, h12], ?_⟩
  rw [nat32c (by omega), i12]
  by_cases en : isnw v c
  · rw [if_pos en]
    exact ⟨fun _ => ⟨fun z => absurd z (by decide), fun _ => new en⟩, fun _ => new en⟩
  · rw [if_neg en]
    refine ⟨fun hb => ⟨fun _ => ?_, fun z => absurd rfl z⟩, fun hb => old en hb⟩
    have w2 : wF S2 v 2 c = 0 := by rw [wF_old en]; simp [wB, hb]
    have w3 : wF S2 v 3 c = 0 := by rw [wF_old en]; simp [wB, hb]
    have w4 : wF S2 v 4 c = 0 := by rw [wF_old en]; simp [wB, hb]
    have tk : q_tk (wF S2 v) st c (owF S2 nR mm c) = 0 := by unfold q_tk; rw [w2, w3]; simp
    have sn : q_sn (wF S2 v) st c (owF S2 nR mm c) = 0 := by unfold q_sn; rw [w4]; simp
    have u3 := q_st_su (w := wF S2 v) (be := beF S2) (st := st) (own := owF S2 nR mm c) (k := 3) hc (by omega) (by omega)
    obtain ⟨s0, -, -, s3, -⟩ := q_st_c (w := wF S2 v) (be := beF S2) (st := st) (c := c) (own := owF S2 nR mm c)
    have t := m_tail (u1 := u1) (u2 := v) (acc := acc) (Q := Q) hc hw hi p0 p1 pb f (fun j hj => by
      rw [f0 j hj]
      by_cases e : j = c
      · subst e; rw [s0, tk, sn]; rfl
      · simp [q_st, e]) fj f1 (by rw [f48, show su (st 3) nC = su (q_st (wF S2 v) (beF S2) st c (owF S2 nR mm c) 3) nC from by omega]) f49 f52 k
    rw [tk] at t
    exact t
/-! roofs of a corner -/
def fallC (S2 : Sg) (c m r : Nat) : Nat := if sI S2 1125 r = Int32.ofNat c then rnF S2 m * nt (sI S2 1127 r) else 0
/-- barrels behind c corners of minute m -/
def BA (S2 T : Sg) (nR m c : Nat) : Prop := ∀ r, r < nR → sI T 1140 r = Int32.ofNat (brF S2 r (if nt (sI S2 1125 r) < c then m + 1 else m))
theorem m_give {m c ra : Nat} {Q : Int64 → Sg → Prop} (h : IV S S2 nC nR nT nK nL nM nP td N lh) (hc : c < nC) (f : SM S2 T) (hb : BA S2 T nR m c) (hra : sL T 1000 47 = gn ra) (k : ∀ U, SM S2 U → (∀ x, ¬ x = 1000 → ¬ x = 1140 → vw U x = vw T x) → (∀ i, sI U 1000 i = sI T 1000 i) → (∀ i, ¬ i = 47 → sL U 1000 i = sL T 1000 i) → BA S2 U nR m (c + 1) → sL U 1000 47 = gn (ra + su (fallC S2 c m) nR) → Q (gn (su (ovC S2 c m) nR)) U) : P_X11_roofsGive 1000 (Int32.ofNat c) (Int32.ofNat (rnF S2 m)) T Q := by
  have hV := h
  obtain ⟨hk, hM, hS, hU, gA, hW, hB, hC, hR, hT, hK, hL, hZ, hP, hN⟩ := h
  have n12 := hC.2.1
  have n30 := hR.2.1
  unfold P_X11_roofsGive P_X11_roofsGive_L5
  refine lpAS (N := nR) (s0 := 0) (R := fun i (a : Int64) U => SM S2 U ∧ (∀ x, ¬ x = 1000 → ¬ x = 1140 → vw U x = vw T x) ∧ (∀ i, sI U 1000 i = sI T 1000 i) ∧ (∀ i, ¬ i = 47 → sL U 1000 i = sL T 1000 i) ∧ (∀ r, r < nR → sI U 1140 r = Int32.ofNat (brF S2 r (if (if r < i then nt (sI S2 1125 r) < c + 1 else nt (sI S2 1125 r) < c) then m + 1 else m))) ∧ sL U 1000 47 = gn (ra + su (fallC S2 c m) i) ∧ a = gn (su (ovC S2 c m) i)) (B := fun a x U K => P_X11_roofsGive_L5b 1000 (Int32.ofNat c) (Int32.ofNat (rnF S2 m)) a x U Q K) rfl (Nat.zero_le _) ⟨f, fun _ _ _ => rfl, fun _ => rfl, fun _ _ => rfl, fun r hr => by simp only [Nat.not_lt_zero, if_false]; exact hb r hr, hra, rfl⟩ (fun i hi a U hR2 K hK => ?_)
  obtain ⟨g1, g2, g3, g4, g5, g6, rfl⟩ := hR2
  have i2 : sI U 1000 2 = Int32.ofNat nR := (g1.2.2.1 2 (by omega)).trans hR.2.2.1
  unfold P_X11_roofsGive_L5b P_X11_roofsGive_B94
  refine ⟨g1.1.o, fun e => ?_, fun e => ?_⟩
  · rw [i2, nn_le (by omega) (by omega)] at e
    have e2 : i = nR := by omega
    subst e2
    refine k U g1 g2 g3 g4 (fun r hr => ?_) g6
    have := g5 r hr
    simp only [hr, if_true] at this
    exact this
  · rw [i2, nn_le (by omega) (by omega)] at e
    have hlt : i < nR := by omega
    have hi30 : i < 30 := by omega
    obtain ⟨⟨cr, hcr, ecr⟩, ea, la, eb, lb, eh, lh'⟩ := roof_e hR hlt
    have j25 : sI U 1125 i = Int32.ofNat cr := by rw [vwI (g1.v (x := 1125) (by omega) (by omega))]; exact ecr
    have bi := g5 i hlt
    simp only [Nat.lt_irrefl, if_false] at bi
    rw [ecr, nt_n (by omega)] at bi
    refine ⟨1125, g1.1.a25.1, g1.1.a25.2.1, by simp (disch := first | omega | decide) only [Option.some.injEq, exists_eq_left', exists_eq_left, forall_eq, forall_eq', true_and, and_true, true_implies, implies_true, false_implies, not_true_eq_false, not_false_eq_true, reduceCtorEq, and_self, forall_const, i10, i01, if_true, if_false, and_false, false_and, Nat.not_lt_zero, sK_pI, sN_pI, sR_pI, sL_pI, sK_pL, sN_pL, sR_pL, sI_pL, sK_pR, sN_pR, sI_pR, sL_pR, sI_pI_eq, sI_pI_ne, sL_pL_eq, sL_pL_ne, sR_pR_eq, sR_pR_ne, nn_le, nat32_lt, nn_eq, ln_le, nl_le, ln_lt, nl_lt, ln_eq, nl_eq, n_m1, n_lt0, vp_n, vp_l, lc_n, nat32c, n_s, nI_n, g1.1.a25, hi30], ?_⟩
    rw [nat32c (by omega), j25]
    refine ⟨fun z => ?_, fun z => ?_⟩
    · rw [nn_eq (by omega) (by omega)] at z
      subst z
      simp only [Nat.lt_irrefl, if_false] at bi
      have fl := fall_le gA (r := i) m la
      have bl := br_le (S2 := S2) lh' m
      refine ⟨1127, g1.1.a27.1, g1.1.a27.2.1, by simp (disch := first | omega | decide) only [Option.some.injEq, exists_eq_left', exists_eq_left, forall_eq, forall_eq', true_and, and_true, true_implies, implies_true, false_implies, not_true_eq_false, not_false_eq_true, reduceCtorEq, and_self, forall_const, i10, i01, if_true, if_false, and_false, false_and, Nat.not_lt_zero, sK_pI, sN_pI, sR_pI, sL_pI, sK_pL, sN_pL, sR_pL, sI_pL, sK_pR, sN_pR, sI_pR, sL_pR, sI_pI_eq, sI_pI_ne, sL_pL_eq, sL_pL_ne, sR_pR_eq, sR_pR_ne, nn_le, nat32_lt, nn_eq, ln_le, nl_le, ln_lt, nl_lt, ln_eq, nl_eq, n_m1, n_lt0, vp_n, vp_l, lc_n, nat32c, n_s, nI_n, g1.1.a27, hi30], fun x12 hx12 => ⟨1128, g1.1.a28.1, g1.1.a28.2.1, by simp (disch := first | omega | decide) only [Option.some.injEq, exists_eq_left', exists_eq_left, forall_eq, forall_eq', true_and, and_true, true_implies, implies_true, false_implies, not_true_eq_false, not_false_eq_true, reduceCtorEq, and_self, forall_const, i10, i01, if_true, if_false, and_false, false_and, Nat.not_lt_zero, sK_pI, sN_pI, sR_pI, sL_pI, sK_pL, sN_pL, sR_pL, sI_pL, sK_pR, sN_pR, sI_pR, sL_pR, sI_pI_eq, sI_pI_ne, sL_pL_eq, sL_pL_ne, sR_pR_eq, sR_pR_ne, nn_le, nat32_lt, nn_eq, ln_le, nl_le, ln_lt, nl_lt, ln_eq, nl_eq, n_m1, n_lt0, vp_n, vp_l, lc_n, nat32c, n_s, nI_n, g1.1.a28, hi30], 1140, g1.1.a40.1, g1.1.a40.2.1, by simp (disch := first | omega | decide) only [Option.some.injEq, exists_eq_left', exists_eq_left, forall_eq, forall_eq', true_and, and_true, true_implies, implies_true, false_implies, not_true_eq_false, not_false_eq_true, reduceCtorEq, and_self, forall_const, i10, i01, if_true, if_false, and_false, false_and, Nat.not_lt_zero, sK_pI, sN_pI, sR_pI, sL_pI, sK_pL, sN_pL, sR_pL, sI_pL, sK_pR, sN_pR, sI_pR, sL_pR, sI_pI_eq, sI_pI_ne, sL_pL_eq, sL_pL_ne, sR_pR_eq, sR_pR_ne, nn_le, nat32_lt, nn_eq, ln_le, nl_le, ln_lt, nl_lt, ln_eq, nl_eq, n_m1, n_lt0, vp_n, vp_l, lc_n, nat32c, n_s, nI_n, g1.1.a40, hi30], fun x22 hx22 => ⟨1140, g1.1.a40.1, g1.1.a40.2.1, by simp (disch := first | omega | decide) only [Option.some.injEq, exists_eq_left', exists_eq_left, forall_eq, forall_eq', true_and, and_true, true_implies, implies_true, false_implies, not_true_eq_false, not_false_eq_true, reduceCtorEq, and_self, forall_const, i10, i01, if_true, if_false, and_false, false_and, Nat.not_lt_zero, sK_pI, sN_pI, sR_pI, sL_pI, sK_pL, sN_pL, sR_pL, sI_pL, sK_pR, sN_pR, sI_pR, sL_pR, sI_pI_eq, sI_pI_ne, sL_pL_eq, sL_pL_ne, sR_pR_eq, sR_pR_ne, nn_le, nat32_lt, nn_eq, ln_le, nl_le, ln_lt, nl_lt, ln_eq, nl_eq, n_m1, n_lt0, vp_n, vp_l, lc_n, nat32c, n_s, nI_n, g1.1.a40, hi30], by simp (disch := first | omega | decide) only [Option.some.injEq, exists_eq_left', exists_eq_left, forall_eq, forall_eq', true_and, and_true, true_implies, implies_true, false_implies, not_true_eq_false, not_false_eq_true, reduceCtorEq, and_self, forall_const, i10, i01, if_true, if_false, and_false, false_and, Nat.not_lt_zero, sK_pI, sN_pI, sR_pI, sL_pI, sK_pL, sN_pL, sR_pL, sI_pL, sK_pR, sN_pR, sI_pR, sL_pR, sI_pI_eq, sI_pI_ne, sL_pL_eq, sL_pL_ne, sR_pR_eq, sR_pR_ne, nn_le, nat32_lt, nn_eq, ln_le, nl_le, ln_lt, nl_lt, ln_eq, nl_eq, n_m1, n_lt0, vp_n, vp_l, lc_n, nat32c, n_s, nI_n, g1.1.a40, hi30], fun t1 q1 t2 q2 x35 hx35 x37 hx37 => ?_⟩⟩⟩
      rw [vwI (g1.v (x := 1127) (by omega) (by omega)), ea, n_mul] at hx12
      subst hx12
      rw [vwI (g1.v (x := 1128) (by omega) (by omega)), eb, bi, n_sub bl, n_minC (by omega) (by omega)] at hx22
      subst hx22
      rw [bi, n_add] at q1
      rw [q1, sL_pI, g6, n_64 (by omega), g_add] at q2
      rw [n_sub (Nat.min_le_left _ _), n_64 (by omega), g_add] at hx35
      rw [hx35, hx37, n_s]
      have ov : su (ovC S2 cr m) (i + 1) = su (ovC S2 cr m) i + (rnF S2 m * nt (sI S2 1127 i) - min (rnF S2 m * nt (sI S2 1127 i)) (nt (sI S2 1128 i) - brF S2 i m)) := by
        show _ + ovC S2 cr m i = _
        rw [show ovC S2 cr m i = ovF S2 i m from if_pos ecr]; rfl
      have fa : su (fallC S2 cr m) (i + 1) = su (fallC S2 cr m) i + rnF S2 m * nt (sI S2 1127 i) := by
        show _ + fallC S2 cr m i = _
        rw [show fallC S2 cr m i = rnF S2 m * nt (sI S2 1127 i) from if_pos ecr]
      refine hK hlt _ _ ⟨by rw [q2]; exact (g1.pI (by omega)).pL (by omega), fun x h1 h2 => by rw [q2, vw_pL h1, vw_pI h2]; exact g2 x h1 h2, fun j => by rw [q2, sI_pL, sI_pI_ne (by omega)]; exact g3 j, fun j hj => by rw [q2, sL_pL_ne (by omega), sL_pI]; exact g4 j hj, fun r hr => ?_, by rw [q2, sL_pL_eq, fa, Nat.add_assoc], by rw [ov]⟩
      rw [q2, sI_pL]
      by_cases e3 : r = i
      · subst e3
        rw [sI_pI_eq, if_pos (by rw [if_pos (Nat.lt_succ_self _), ecr, nt_n (by omega)]; exact Nat.lt_succ_self _)]
        rfl
      · rw [sI_pI_ne (by omega), g5 r hr]
        have : (r < i + 1) = (r < i) := by apply propext; omega
        simp only [this]
    · rw [nn_eq (by omega) (by omega)] at z
      intro x37 hx37
      rw [hx37, n_s]
      have ov : su (ovC S2 c m) (i + 1) = su (ovC S2 c m) i := by
        show _ + ovC S2 c m i = _
        rw [show ovC S2 c m i = 0 from if_neg (by rw [ecr, nn_eq (by omega) (by omega)]; exact z)]; rfl
      have fa : su (fallC S2 c m) (i + 1) = su (fallC S2 c m) i := by
        show _ + fallC S2 c m i = _
        rw [show fallC S2 c m i = 0 from if_neg (by rw [ecr, nn_eq (by omega) (by omega)]; exact z)]; rfl
      refine hK hlt _ _ ⟨g1, g2, g3, g4, fun r hr => ?_, by rw [fa]; exact g6, by rw [ov]⟩
      by_cases e3 : r = i
      · subst e3
        rw [bi]
        simp (disch := first | omega | decide) only [Nat.lt_succ_self, if_true, ecr, nt_n]
        have : (cr < c + 1) = (cr < c) := by apply propext; omega
        simp only [this]
      · rw [g5 r hr]
        have : (r < i + 1) = (r < i) := by apply propext; omega
        simp only [this]
end FN
