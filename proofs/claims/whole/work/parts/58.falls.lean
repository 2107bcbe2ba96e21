/-! ===== level 2: the reference's falls ===== -/
/-- what rains on corner c and its roofs in minute m -/
def rcF (S2 : Sg) (nR m c : Nat) : Nat := rnF S2 m * nt (sI S2 1107 c) + su (fallC S2 c m) nR
def raF (S2 : Sg) (nC nR : Nat) : Nat → Nat
  | 0 => 0
  | m + 1 => raF S2 nC nR m + su (rcF S2 nR m) nC
def bowlsF (S2 : Sg) (j : Nat) : Nat := if sI S2 1112 j = 0 then 0 else nt (sI S2 1121 j)
/-- the reference behind m minutes -/
def MM (S2 T : Sg) (nC nR : Nat) (v : Int32) (m : Nat) : Prop := SM S2 T ∧ (∀ j, j < nC → sI T 1141 j = Int32.ofNat ((q_rn (wF S2 v) (beF S2) (owF S2 nR) nC m).1 0 j) ∧ sL T 1144 j = gn ((q_rn (wF S2 v) (beF S2) (owF S2 nR) nC m).1 4 j) ∧ sL T 1145 j = gn ((q_rn (wF S2 v) (beF S2) (owF S2 nR) nC m).1 5 j) ∧ sI T 1146 j = Int32.ofNat ((q_rn (wF S2 v) (beF S2) (owF S2 nR) nC m).1 6 j)) ∧ sL T 1000 48 = gn (su (bowlsF S2) nC + su ((q_rn (wF S2 v) (beF S2) (owF S2 nR) nC m).1 3) nC) ∧ sL T 1000 49 = gn (su ((q_rn (wF S2 v) (beF S2) (owF S2 nR) nC m).1 4) nC) ∧ sI T 1000 52 = Int32.ofNat (su ((q_rn (wF S2 v) (beF S2) (owF S2 nR) nC m).1 6) nC) ∧ BA S2 T nR m 0 ∧ sL T 1000 47 = gn (raF S2 nC nR m) ∧ sL T 1000 50 = gn (q_rn (wF S2 v) (beF S2) (owF S2 nR) nC m).2.1 ∧ sL T 1000 51 = gn (q_rn (wF S2 v) (beF S2) (owF S2 nR) nC m).2.2
section FF
variable {S S2 T U : Sg} {nC nR nT nK nL nM nP td N : Nat} {lh : Nat → Nat}
theorem m_corner {v : Int32} {st : Ms} {m c D acc ra : Nat} {Q : Unit → Sg → Prop} {K : Int64 → Int32 → Sg → Prop} (h : IV S S2 nC nR nT nK nL nM nP td N lh) (hc : c < nC) (hi : Wi (wF S2 v) st nC m c) (hX : MX S2 T st nC c D) (hb : BA S2 T nR m c) (hra : sL T 1000 47 = gn ra) (k : ∀ T', MX S2 T' (q_st (wF S2 v) (beF S2) st c (owF S2 nR m c)) nC (c + 1) D → BA S2 T' nR m (c + 1) → sL T' 1000 47 = gn (ra + rcF S2 nR m c) → sL T' 1000 50 = sL T 1000 50 → sL T' 1000 51 = sL T 1000 51 → K (gn (acc + q_ou (wF S2 v) (beF S2) st c (owF S2 nR m c))) (Int32.ofNat (c + 1)) T') : P_X11_minute_L39b 1000 (Int32.ofNat (rnF S2 m)) v (gn acc) (Int32.ofNat c) T Q K := by
  have hV := h
  obtain ⟨hk, hM, hS, hU, gA, hW, hB, hC, hR, hT, hK, hL, hZ, hP, hN⟩ := h
  have n12 := hC.2.1
  have h12 : c < 12 := by omega
  obtain ⟨f, fj, f1, f48, f49, f52⟩ := hX
  have ar := area_e hC hc
  have rl := rn_le gA m
  have e7 : sI T 1107 c = Int32.ofNat (nt (sI S2 1107 c)) := by rw [vwI (f.v (x := 1107) (by omega) (by omega))]; exact ar.1
  have rm : rnF S2 m * nt (sI S2 1107 c) ≤ 5000 := Nat.le_trans (Nat.mul_le_mul rl ar.2.1) (by omega)
  unfold P_X11_minute_L39b
  refine ⟨f.1.o, fun e => ?_, fun _ => ⟨1142, f.1.a42.1, f.1.a42.2.1, by simp (disch := first | omega | decide) only [Option.some.injEq, exists_eq_left', exists_eq_left, forall_eq, forall_eq', true_and, and_true, true_implies, implies_true, false_implies, not_true_eq_false, not_false_eq_true, reduceCtorEq, and_self, forall_const, i10, i01, if_true, if_false, and_false, false_and, Nat.not_lt_zero, sK_pI, sN_pI, sR_pI, sL_pI, sK_pL, sN_pL, sR_pL, sI_pL, sK_pR, sN_pR, sI_pR, sL_pR, sI_pI_eq, sI_pI_ne, sL_pL_eq, sL_pL_ne, sR_pR_eq, sR_pR_ne, nn_le, nat32_lt, nn_eq, ln_le, nl_le, ln_lt, nl_lt, ln_eq, nl_eq, n_m1, n_lt0, vp_n, vp_l, lc_n, nat32c, n_s, nI_n, f.1.a42, h12], 1107, f.1.a7.1, f.1.a7.2.1, by simp (disch := first | omega | decide) only [Option.some.injEq, exists_eq_left', exists_eq_left, forall_eq, forall_eq', true_and, and_true, true_implies, implies_true, false_implies, not_true_eq_false, not_false_eq_true, reduceCtorEq, and_self, forall_const, i10, i01, if_true, if_false, and_false, false_and, Nat.not_lt_zero, sK_pI, sN_pI, sR_pI, sL_pI, sK_pL, sN_pL, sR_pL, sI_pL, sK_pR, sN_pR, sI_pR, sL_pR, sI_pI_eq, sI_pI_ne, sL_pL_eq, sL_pL_ne, sR_pR_eq, sR_pR_ne, nn_le, nat32_lt, nn_eq, ln_le, nl_le, ln_lt, nl_lt, ln_eq, nl_eq, n_m1, n_lt0, vp_n, vp_l, lc_n, nat32c, n_s, nI_n, f.1.a7, h12], m_give hV hc f hb hra (fun V g1 g2 g3 g4 g5 g6 x43 hx43 => ⟨1107, g1.1.a7.1, g1.1.a7.2.1, by simp (disch := first | omega | decide) only [Option.some.injEq, exists_eq_left', exists_eq_left, forall_eq, forall_eq', true_and, and_true, true_implies, implies_true, false_implies, not_true_eq_false, not_false_eq_true, reduceCtorEq, and_self, forall_const, i10, i01, if_true, if_false, and_false, false_and, Nat.not_lt_zero, sK_pI, sN_pI, sR_pI, sL_pI, sK_pL, sN_pL, sR_pL, sI_pL, sK_pR, sN_pR, sI_pR, sL_pR, sI_pI_eq, sI_pI_ne, sL_pL_eq, sL_pL_ne, sR_pR_eq, sR_pR_ne, nn_le, nat32_lt, nn_eq, ln_le, nl_le, ln_lt, nl_lt, ln_eq, nl_eq, n_m1, n_lt0, vp_n, vp_l, lc_n, nat32c, n_s, nI_n, g1.1.a7, h12], fun s49 q49 => ?_⟩)⟩⟩
  · rw [f.2.2.1 1 (by omega), hC.2.2.1, nn_le (by omega) (by omega)] at e
    omega
  · rw [nat32c (by omega), (f1 c (Nat.le_refl _) hc).1, e7, n_64 (by omega), n_64 (by omega), g_mul, g_add, g_add] at hx43
    have hx43 : x43 = gn (owF S2 nR m c + st 1 c) := by
      rw [hx43]; unfold owF; congr 1; omega
    subst hx43
    have e7' : sI V 1107 c = Int32.ofNat (nt (sI S2 1107 c)) := by rw [vwI (g1.v (x := 1107) (by omega) (by omega))]; exact ar.1
    rw [nat32c (by omega), e7', g6, n_64 (by omega), n_64 (by omega), g_mul, g_add] at q49
    have vV : ∀ x, ¬ x = 1000 → ¬ x = 1140 → vw s49 x = vw T x := fun x h1 h2 => by rw [q49, vw_pL h1]; exact g2 x h1 h2
    have m49 : SM S2 s49 := by rw [q49]; exact g1.pL (by omega)
    have b49 : BA S2 s49 nR m (c + 1) := fun r hr => by rw [q49]; exact g5 r hr
    have r49 : sL s49 1000 47 = gn (ra + rcF S2 nR m c) := by rw [q49, sL_pL_eq]; unfold rcF; congr 1; omega
    have l49 : ∀ i, ¬ i = 47 → sL s49 1000 i = sL T 1000 i := fun i hi => by rw [q49, sL_pL_ne (by omega)]; exact g4 i hi
    have i49 : ∀ i, sI s49 1000 i = sI T 1000 i := fun i => by rw [q49]; exact g3 i
    have s := m_soak (acc := acc) (u1 := Int32.ofNat (rnF S2 m)) (Q := Q) (K := K) (mm := m) (D := D) hV hc hi m49 (fun j hj => by rw [vwI (vV 1141 (by omega) (by omega))]; exact (fj j hj).1) (fun j hj => by rw [vwL (vV 1144 (by omega) (by omega)), vwL (vV 1145 (by omega) (by omega)), vwI (vV 1146 (by omega) (by omega))]; exact (fj j hj).2) (fun j h1 h2 => by rw [vwL (vV 1142 (by omega) (by omega)), vwL (vV 1143 (by omega) (by omega))]; exact f1 j h1 h2) (by rw [l49 48 (by omega)]; exact f48) (by rw [l49 49 (by omega)]; exact f49) (by rw [i49]; exact f52) (fun T' a b => k T' a (fun r hr => by rw [b.1]; exact b49 r hr) (b.2.1.trans r49) (b.2.2.1.trans (l49 50 (by omega))) (b.2.2.2.trans (l49 51 (by omega))))
    refine ⟨fun z => ?_, fun z => ?_⟩
    · rw [if_pos z] at s; exact s
    · rw [if_neg z] at s; exact s
theorem m_minute {v : Int32} {m : Nat} {Q : Unit → Sg → Prop} (h : IV S S2 nC nR nT nK nL nM nP td N lh) (hX : MM S2 T nC nR v m) (hm : m < 30) (k : ∀ T', MM S2 T' nC nR v (m + 1) → Q () T') : P_X11_minute 1000 (Int32.ofNat (rnF S2 m)) v T Q := by
  have hV := h
  obtain ⟨hk, hM, hS, hU, gA, hW, hB, hC, hR, hT, hK, hL, hZ, hP, hN⟩ := h
  have n12 := hC.2.1
  have hw := world_ok (v := v) gA hB hC hR
  obtain ⟨z1, z2, z3, z4⟩ := q_rn_wi hw m
  obtain ⟨x1, x2, x3, x4⟩ := hX
  have key : q_rn (wF S2 v) (beF S2) (owF S2 nR) nC (m + 1) = ((q_mn (wF S2 v) (beF S2) (owF S2 nR m) (q_rn (wF S2 v) (beF S2) (owF S2 nR) nC m).1 nC).1, (q_rn (wF S2 v) (beF S2) (owF S2 nR) nC m).2.1 + (q_mn (wF S2 v) (beF S2) (owF S2 nR m) (q_rn (wF S2 v) (beF S2) (owF S2 nR) nC m).1 nC).2, max (q_rn (wF S2 v) (beF S2) (owF S2 nR) nC m).2.2 (q_mn (wF S2 v) (beF S2) (owF S2 nR m) (q_rn (wF S2 v) (beF S2) (owF S2 nR) nC m).1 nC).2) := rfl
  unfold MM at k
  rw [key] at k
  generalize hst : (q_rn (wF S2 v) (beF S2) (owF S2 nR) nC m).1 = st at *
  have n6000 : m * 6000 ≤ 180000 := by omega
  unfold P_X11_minute P_X11_minute_L5
  refine lpS (N := nC) (s0 := 0) (R := fun c U => SM S2 U ∧ (∀ x, ¬ x = 1142 → ¬ x = 1143 → vw U x = vw T x) ∧ ∀ j, j < c → sL U 1142 j = 0 ∧ sL U 1143 j = 0) (B := fun x U K => P_X11_minute_L5b 1000 (Int32.ofNat (rnF S2 m)) v 0 x U Q K) rfl (Nat.zero_le _) ⟨x1, fun _ _ _ => rfl, fun j hj => absurd hj (Nat.not_lt_zero _)⟩ (fun c hc U hR2 K hK => ?_)
  obtain ⟨g1, g2, g3⟩ := hR2
  have i1 : sI U 1000 1 = Int32.ofNat nC := (g1.2.2.1 1 (by omega)).trans hC.2.2.1
  unfold P_X11_minute_L5b
  refine ⟨g1.1.o, fun e => ?_, fun e => ?_⟩
  · rw [i1, nn_le (by omega) (by omega)] at e
    have e2 : c = nC := by omega
    subst e2
    have hX0 : MX S2 U st c 0 (su (bowlsF S2) c) := by
      refine ⟨g1, fun j hj => ?_, fun j _ hj => ?_, ?_, ?_, ?_⟩
      · rw [vwI (g2 1141 (by omega) (by omega)), vwL (g2 1144 (by omega) (by omega)), vwL (g2 1145 (by omega) (by omega)), vwI (g2 1146 (by omega) (by omega))]
        exact x2 j hj
      · rw [(g3 j hj).1, (g3 j hj).2, (z2 j).1, (z2 j).2]
        exact ⟨rfl, rfl⟩
      · rw [vwL (g2 1000 (by omega) (by omega))]; exact x3
      · rw [vwL (g2 1000 (by omega) (by omega))]; exact x4.1
      · rw [vwI (g2 1000 (by omega) (by omega))]; exact x4.2.1
    unfold P_X11_minute_L39
    refine lpAS (N := c) (s0 := 0) (R := fun j (a : Int64) V => MX S2 V (q_mn (wF S2 v) (beF S2) (owF S2 nR m) st j).1 c j (su (bowlsF S2) c) ∧ BA S2 V nR m j ∧ sL V 1000 47 = gn (raF S2 c nR m + su (rcF S2 nR m) j) ∧ sL V 1000 50 = sL T 1000 50 ∧ sL V 1000 51 = sL T 1000 51 ∧ a = gn (q_mn (wF S2 v) (beF S2) (owF S2 nR m) st j).2) (B := fun a x V K => P_X11_minute_L39b 1000 (Int32.ofNat (rnF S2 m)) v a x V Q K) rfl (Nat.zero_le _) ⟨hX0, fun r hr => by rw [vwI (g2 1140 (by omega) (by omega))]; exact x4.2.2.1 r hr, by rw [vwL (g2 1000 (by omega) (by omega))]; exact x4.2.2.2.1, by rw [vwL (g2 1000 (by omega) (by omega))], by rw [vwL (g2 1000 (by omega) (by omega))], rfl⟩ (fun j hj a V hR3 K' hK' => ?_)
    obtain ⟨y1, y2, y3, y4, y5, rfl⟩ := hR3
    obtain ⟨w1, w2⟩ := q_mn_wi (mm := m) hw z1 (c := j) hj
    by_cases e3 : j = c
    · subst e3
      obtain ⟨f, fj, f1, f48, f49, f52⟩ := y1
      unfold P_X11_minute_L39b
      refine ⟨f.1.o, fun _ s23 q23 x26 hx26 s28 q28 => ?_, fun e => ?_⟩
      · rw [y4, x4.2.2.2.2.1, g_add] at q23
        rw [q23, sL_pL_ne (by omega), y5, x4.2.2.2.2.2, g_maxC (by omega) (by omega)] at hx26
        rw [hx26, q23] at q28
        rw [q28]
        refine k _ ⟨(f.pL (by omega)).pL (by omega), fun i hi => ?_, ?_, ?_, ?_, fun r hr => ?_, ?_, ?_, ?_⟩
        · simp (disch := first | omega | decide) only [sI_pL, sL_pL_ne]; exact fj i hi
        · simp (disch := first | omega | decide) only [sL_pL_ne]; exact f48
        · simp (disch := first | omega | decide) only [sL_pL_ne]; exact f49
        · exact f52
        · have := y2 r hr
          obtain ⟨⟨cr, hcr, ecr⟩, -⟩ := roof_e hR hr
          rw [ecr, nt_n (by omega), if_pos hcr] at this
          rw [if_neg (Nat.not_lt_zero _)]
          exact this
        · simp (disch := first | omega | decide) only [sL_pL_ne]; exact y3
        · simp (disch := first | omega | decide) only [sL_pL_ne, sL_pL_eq]
        · rw [sL_pL_eq]
      · rw [f.2.2.1 1 (by omega), hC.2.2.1] at e
        exact absurd (Int32.le_refl _) e
    · refine m_corner hV (by omega) w1 y1 y2 y3 (fun T' a1 a2 a3 a4 a5 => hK' (by omega) _ _ ⟨a1, a2, ?_, a4.trans y4, a5.trans y5, rfl⟩)
      rw [a3, Nat.add_assoc]; rfl
  · rw [i1, nn_le (by omega) (by omega)] at e
    have hlt : c < nC := by omega
    have h12 : c < 12 := by omega
    refine ⟨1142, g1.1.a42.1, g1.1.a42.2.1, by simp (disch := first | omega | decide) only [Option.some.injEq, exists_eq_left', exists_eq_left, forall_eq, forall_eq', true_and, and_true, true_implies, implies_true, false_implies, not_true_eq_false, not_false_eq_true, reduceCtorEq, and_self, forall_const, i10, i01, if_true, if_false, and_false, false_and, Nat.not_lt_zero, sK_pI, sN_pI, sR_pI, sL_pI, sK_pL, sN_pL, sR_pL, sI_pL, sK_pR, sN_pR, sI_pR, sL_pR, sI_pI_eq, sI_pI_ne, sL_pL_eq, sL_pL_ne, sR_pR_eq, sR_pR_ne, nn_le, nat32_lt, nn_eq, ln_le, nl_le, ln_lt, nl_lt, ln_eq, nl_eq, n_m1, n_lt0, vp_n, vp_l, lc_n, nat32c, n_s, nI_n, g1.1.a42, h12], fun t1 q1 => ?_⟩
    rw [nat32c (by omega)] at q1
    have m1 : SM S2 t1 := by rw [q1]; exact g1.pL (by omega)
    refine ⟨1143, m1.1.a43.1, m1.1.a43.2.1, by simp (disch := first | omega | decide) only [Option.some.injEq, exists_eq_left', exists_eq_left, forall_eq, forall_eq', true_and, and_true, true_implies, implies_true, false_implies, not_true_eq_false, not_false_eq_true, reduceCtorEq, and_self, forall_const, i10, i01, if_true, if_false, and_false, false_and, Nat.not_lt_zero, sK_pI, sN_pI, sR_pI, sL_pI, sK_pL, sN_pL, sR_pL, sI_pL, sK_pR, sN_pR, sI_pR, sL_pR, sI_pI_eq, sI_pI_ne, sL_pL_eq, sL_pL_ne, sR_pR_eq, sR_pR_ne, nn_le, nat32_lt, nn_eq, ln_le, nl_le, ln_lt, nl_lt, ln_eq, nl_eq, n_m1, n_lt0, vp_n, vp_l, lc_n, nat32c, n_s, nI_n, m1.1.a43, h12], fun t2 q2 x hx => ?_⟩
    rw [nat32c (by omega)] at q2
    rw [hx, n_s]
    refine hK hlt _ ⟨by rw [q2]; exact m1.pL (by omega), fun x h1 h2 => by rw [q2, vw_pL h2, q1, vw_pL h1]; exact g2 x h1 h2, fun j hj => ?_⟩
    rw [q2, q1]
    by_cases e3 : j = c
    · subst e3
      refine ⟨?_, ?_⟩ <;> simp (disch := first | omega | decide) only [sL_pL_ne, sL_pL_eq]
    · simp (disch := first | omega | decide) only [sL_pL_ne]
      exact g3 j (by omega)
theorem m_falls {v : Int32} {Q : Unit → Sg → Prop} (h : IV S S2 nC nR nT nK nL nM nP td N lh) (k : ∀ T, MM S2 T nC nR v nM → Q () T) : P_X11_falls 1000 v S2 Q := by
  have hV := h
  obtain ⟨hk, hM, hS, hU, gA, hW, hB, hC, hR, hT, hK, hL, hZ, hP, hN⟩ := h
  have n12 := hC.2.1
  have n30 := hR.2.1
  have m30 := hZ.2.2.1
  unfold P_X11_falls
  refine ⟨hM.o, fun s1 q1 s2 q2 s3 q3 s4 q4 s5 q5 s6 q6 => ?_⟩
  have mm : SM S2 s6 := by rw [q6, q5, q4, q3, q2, q1]; exact (((((SM.refl hM).pL (by omega)).pL (by omega)).pL (by omega)).pL (by omega)).pL (by omega) |>.pI (by omega)
  have e47 : sL s6 1000 47 = 0 ∧ sL s6 1000 48 = 0 ∧ sL s6 1000 49 = 0 ∧ sL s6 1000 50 = 0 ∧ sL s6 1000 51 = 0 ∧ sI s6 1000 52 = 0 := by
    rw [q6, q5, q4, q3, q2, q1]
    simp (disch := first | omega | decide) only [sL_pI, sL_pL_ne, sL_pL_eq, sI_pI_eq, and_self]
  clear q6 q5 q4 q3 q2 q1
  obtain ⟨a47, a48, a49, a50, a51, a52⟩ := e47
  unfold P_X11_falls_L32
  refine lpS (N := nR) (s0 := 0) (R := fun r U => SM S2 U ∧ (∀ x, ¬ x = 1140 → vw U x = vw s6 x) ∧ ∀ i, i < r → sI U 1140 i = Int32.ofNat (brF S2 i 0)) (B := fun x U K => P_X11_falls_L32b 1000 v x U Q K) rfl (Nat.zero_le _) ⟨mm, fun _ _ => rfl, fun j hj => absurd hj (Nat.not_lt_zero _)⟩ (fun r hr U hR2 K hK => ?_)
  obtain ⟨g1, g2, g3⟩ := hR2
  have i2 : sI U 1000 2 = Int32.ofNat nR := (g1.2.2.1 2 (by omega)).trans hR.2.2.1
  unfold P_X11_falls_L32b
  refine ⟨g1.1.o, fun e => ?_, fun e => ?_⟩
  · rw [i2, nn_le (by omega) (by omega)] at e
    have e2 : r = nR := by omega
    subst e2
    unfold P_X11_falls_L60
    refine lpS (N := nC) (s0 := 0) (R := fun c V => SM S2 V ∧ (∀ x, ¬ x = 1000 → ¬ (1141 ≤ x ∧ x ≤ 1146) → vw V x = vw U x) ∧ (∀ i, ¬ i = 48 → sL V 1000 i = sL U 1000 i) ∧ (∀ i, sI V 1000 i = sI U 1000 i) ∧ sL V 1000 48 = gn (su (bowlsF S2) c) ∧ ∀ j, j < c → sI V 1141 j = 0 ∧ sL V 1144 j = 0 ∧ sL V 1145 j = 0 ∧ sI V 1146 j = 0) (B := fun x V K => P_X11_falls_L60b 1000 v x V Q K) rfl (Nat.zero_le _) ⟨g1, fun _ _ _ => rfl, fun _ _ => rfl, fun _ => rfl, by rw [vwL (g2 1000 (by omega))]; exact a48, fun j hj => absurd hj (Nat.not_lt_zero _)⟩ (fun c hc V hR3 K' hK' => ?_)
    obtain ⟨y1, y2, y3, y4, y5, y6⟩ := hR3
    have i1 : sI V 1000 1 = Int32.ofNat nC := (y1.2.2.1 1 (by omega)).trans hC.2.2.1
    unfold P_X11_falls_L60b
    refine ⟨y1.1.o, fun e => ?_, fun e => ?_⟩
    · rw [i1, nn_le (by omega) (by omega)] at e
      have e2 : c = nC := by omega
      subst e2
      unfold P_X11_falls_L133
      have z3 : su (fun _ => 0) c = 0 := by have := su_le (f := fun _ => 0) (b := 0) (n := c) (fun _ _ => Nat.le_refl _); omega
      refine lpS (N := nM) (s0 := 0) (R := fun m W => MM S2 W c r v m) (B := fun x W K => P_X11_falls_L133b 1000 v x W Q K) rfl (Nat.zero_le _) ⟨y1, fun j hj => y6 j hj, ?_, ?_, ?_, fun i hi => ?_, ?_, ?_, ?_⟩ (fun m hm W hR4 K2 hK2 => ?_)
      · rw [y5]; show _ = gn (_ + su (fun _ => 0) c); rw [z3]; rfl
      · rw [y3 49 (by omega), vwL (g2 1000 (by omega)), a49]; show _ = gn (su (fun _ => 0) c); rw [z3]; rfl
      · rw [y4 52, vwI (g2 1000 (by omega)), a52]; show _ = Int32.ofNat (su (fun _ => 0) c); rw [z3]; rfl
      · rw [vwI (y2 1140 (by omega) (by omega)), if_neg (Nat.not_lt_zero _)]; exact g3 i hi
      · rw [y3 47 (by omega), vwL (g2 1000 (by omega)), a47]; rfl
      · rw [y3 50 (by omega), vwL (g2 1000 (by omega)), a50]; rfl
      · rw [y3 51 (by omega), vwL (g2 1000 (by omega)), a51]; rfl
      · have w1 := hR4.1
        have i3 : sI W 1000 3 = Int32.ofNat nM := (w1.2.2.1 3 (by omega)).trans hZ.2.1
        unfold P_X11_falls_L133b
        refine ⟨w1.1.o, fun e => ?_, fun e => ?_⟩
        · rw [i3, nn_le (by omega) (by omega)] at e
          have e2 : m = nM := by omega
          subst e2
          exact k W hR4
        · rw [i3, nn_le (by omega) (by omega)] at e
          have hlt : m < nM := by omega
          have hm30 : m < 30 := by omega
          refine ⟨1132, w1.1.a32.1, w1.1.a32.2.1, by simp (disch := first | omega | decide) only [Option.some.injEq, exists_eq_left', exists_eq_left, forall_eq, forall_eq', true_and, and_true, true_implies, implies_true, false_implies, not_true_eq_false, not_false_eq_true, reduceCtorEq, and_self, forall_const, i10, i01, if_true, if_false, and_false, false_and, Nat.not_lt_zero, sK_pI, sN_pI, sR_pI, sL_pI, sK_pL, sN_pL, sR_pL, sI_pL, sK_pR, sN_pR, sI_pR, sL_pR, sI_pI_eq, sI_pI_ne, sL_pL_eq, sL_pL_ne, sR_pR_eq, sR_pR_ne, nn_le, nat32_lt, nn_eq, ln_le, nl_le, ln_lt, nl_lt, ln_eq, nl_eq, n_m1, n_lt0, vp_n, vp_l, lc_n, nat32c, n_s, nI_n, w1.1.a32, hm30], ?_⟩
          rw [nat32c (by omega), vwI (w1.v (x := 1132) (by omega) (by omega)), (rn_e gA hm30).1]
          refine m_minute hV hR4 hm30 (fun T' g x hx => ?_)
          rw [hx, n_s]
          exact hK2 hlt _ g
    · rw [i1, nn_le (by omega) (by omega)] at e
      have hlt : c < nC := by omega
      have h12 : c < 12 := by omega
      have b93 : P_X11_falls_B93 1000 v (Int32.ofNat c) (some 1000) (sL V 1000 48) (gn (bowlsF S2 c)) V Q K' := by
        unfold P_X11_falls_B93
        refine ⟨1000, rfl, y1.1.o, fun t1 q1 => ?_⟩
        rw [y5, g_add] at q1
        have m1 : SM S2 t1 := by rw [q1]; exact y1.pL (by omega)
        refine ⟨m1.1.o, 1141, m1.1.a41.1, m1.1.a41.2.1, by simp (disch := first | omega | decide) only [Option.some.injEq, exists_eq_left', exists_eq_left, forall_eq, forall_eq', true_and, and_true, true_implies, implies_true, false_implies, not_true_eq_false, not_false_eq_true, reduceCtorEq, and_self, forall_const, i10, i01, if_true, if_false, and_false, false_and, Nat.not_lt_zero, sK_pI, sN_pI, sR_pI, sL_pI, sK_pL, sN_pL, sR_pL, sI_pL, sK_pR, sN_pR, sI_pR, sL_pR, sI_pI_eq, sI_pI_ne, sL_pL_eq, sL_pL_ne, sR_pR_eq, sR_pR_ne, nn_le, nat32_lt, nn_eq, ln_le, nl_le, ln_lt, nl_lt, ln_eq, nl_eq, n_m1, n_lt0, vp_n, vp_l, lc_n, nat32c, n_s, nI_n, m1.1.a41, h12], fun t2 q2 => ?_⟩
        have m2 : SM S2 t2 := by rw [q2]; exact m1.pI (by omega)
        refine ⟨1144, m2.1.a44.1, m2.1.a44.2.1, by simp (disch := first | omega | decide) only [Option.some.injEq, exists_eq_left', exists_eq_left, forall_eq, forall_eq', true_and, and_true, true_implies, implies_true, false_implies, not_true_eq_false, not_false_eq_true, reduceCtorEq, and_self, forall_const, i10, i01, if_true, if_false, and_false, false_and, Nat.not_lt_zero, sK_pI, sN_pI, sR_pI, sL_pI, sK_pL, sN_pL, sR_pL, sI_pL, sK_pR, sN_pR, sI_pR, sL_pR, sI_pI_eq, sI_pI_ne, sL_pL_eq, sL_pL_ne, sR_pR_eq, sR_pR_ne, nn_le, nat32_lt, nn_eq, ln_le, nl_le, ln_lt, nl_lt, ln_eq, nl_eq, n_m1, n_lt0, vp_n, vp_l, lc_n, nat32c, n_s, nI_n, m2.1.a44, h12], fun t3 q3 => ?_⟩
        have m3 : SM S2 t3 := by rw [q3]; exact m2.pL (by omega)
        refine ⟨1145, m3.1.a45.1, m3.1.a45.2.1, by simp (disch := first | omega | decide) only [Option.some.injEq, exists_eq_left', exists_eq_left, forall_eq, forall_eq', true_and, and_true, true_implies, implies_true, false_implies, not_true_eq_false, not_false_eq_true, reduceCtorEq, and_self, forall_const, i10, i01, if_true, if_false, and_false, false_and, Nat.not_lt_zero, sK_pI, sN_pI, sR_pI, sL_pI, sK_pL, sN_pL, sR_pL, sI_pL, sK_pR, sN_pR, sI_pR, sL_pR, sI_pI_eq, sI_pI_ne, sL_pL_eq, sL_pL_ne, sR_pR_eq, sR_pR_ne, nn_le, nat32_lt, nn_eq, ln_le, nl_le, ln_lt, nl_lt, ln_eq, nl_eq, n_m1, n_lt0, vp_n, vp_l, lc_n, nat32c, n_s, nI_n, m3.1.a45, h12], fun t4 q4 => ?_⟩
        have m4 : SM S2 t4 := by rw [q4]; exact m3.pL (by omega)
        refine ⟨1146, m4.1.a46.1, m4.1.a46.2.1, by simp (disch := first | omega | decide) only [Option.some.injEq, exists_eq_left', exists_eq_left, forall_eq, forall_eq', true_and, and_true, true_implies, implies_true, false_implies, not_true_eq_false, not_false_eq_true, reduceCtorEq, and_self, forall_const, i10, i01, if_true, if_false, and_false, false_and, Nat.not_lt_zero, sK_pI, sN_pI, sR_pI, sL_pI, sK_pL, sN_pL, sR_pL, sI_pL, sK_pR, sN_pR, sI_pR, sL_pR, sI_pI_eq, sI_pI_ne, sL_pL_eq, sL_pL_ne, sR_pR_eq, sR_pR_ne, nn_le, nat32_lt, nn_eq, ln_le, nl_le, ln_lt, nl_lt, ln_eq, nl_eq, n_m1, n_lt0, vp_n, vp_l, lc_n, nat32c, n_s, nI_n, m4.1.a46, h12], fun t5 q5 x hx => ?_⟩
        have m5 : SM S2 t5 := by rw [q5]; exact m4.pI (by omega)
        rw [hx, n_s]
        rw [nat32c (by omega)] at q2 q3 q4 q5
        refine hK' hlt _ ⟨m5, fun x h1 h2 => ?_, fun i hi => ?_, fun i => ?_, ?_, fun j hj => ?_⟩
        · rw [q5, q4, q3, q2, q1]
          simp (disch := first | omega | decide) only [vw_pI, vw_pL]
          exact y2 x h1 h2
        · rw [q5, q4, q3, q2, q1]
          simp (disch := first | omega | decide) only [sL_pI, sL_pL_ne]
          exact y3 i hi
        · rw [q5, q4, q3, q2, q1]
          simp (disch := first | omega | decide) only [sI_pL, sI_pI_ne]
          exact y4 i
        · rw [q5, q4, q3, q2, q1]
          simp (disch := first | omega | decide) only [sL_pI, sL_pL_ne, sL_pL_eq]
          rfl
        · rw [q5, q4, q3, q2, q1]
          by_cases e3 : j = c
          · subst e3
            simp (disch := first | omega | decide) only [sI_pL, sL_pI, sI_pI_ne, sI_pI_eq, sL_pL_ne, sL_pL_eq, and_self]
          · simp (disch := first | omega | decide) only [sI_pL, sL_pI, sI_pI_ne, sL_pL_ne]
            exact y6 j (by omega)
      unfold bowlsF at b93
      refine ⟨1112, y1.1.a12.1, y1.1.a12.2.1, by simp (disch := first | omega | decide) only [Option.some.injEq, exists_eq_left', exists_eq_left, forall_eq, forall_eq', true_and, and_true, true_implies, implies_true, false_implies, not_true_eq_false, not_false_eq_true, reduceCtorEq, and_self, forall_const, i10, i01, if_true, if_false, and_false, false_and, Nat.not_lt_zero, sK_pI, sN_pI, sR_pI, sL_pI, sK_pL, sN_pL, sR_pL, sI_pL, sK_pR, sN_pR, sI_pR, sL_pR, sI_pI_eq, sI_pI_ne, sL_pL_eq, sL_pL_ne, sR_pR_eq, sR_pR_ne, nn_le, nat32_lt, nn_eq, ln_le, nl_le, ln_lt, nl_lt, ln_eq, nl_eq, n_m1, n_lt0, vp_n, vp_l, lc_n, nat32c, n_s, nI_n, y1.1.a12, h12], ?_⟩
      rw [nat32c (by omega), vwI (y1.v (x := 1112) (by omega) (by omega))]
      refine ⟨fun hb => ?_, fun hb => ⟨1121, y1.1.a21.1, y1.1.a21.2.1, by simp (disch := first | omega | decide) only [Option.some.injEq, exists_eq_left', exists_eq_left, forall_eq, forall_eq', true_and, and_true, true_implies, implies_true, false_implies, not_true_eq_false, not_false_eq_true, reduceCtorEq, and_self, forall_const, i10, i01, if_true, if_false, and_false, false_and, Nat.not_lt_zero, sK_pI, sN_pI, sR_pI, sL_pI, sK_pL, sN_pL, sR_pL, sI_pL, sK_pR, sN_pR, sI_pR, sL_pR, sI_pI_eq, sI_pI_ne, sL_pL_eq, sL_pL_ne, sR_pR_eq, sR_pR_ne, nn_le, nat32_lt, nn_eq, ln_le, nl_le, ln_lt, nl_lt, ln_eq, nl_eq, n_m1, n_lt0, vp_n, vp_l, lc_n, nat32c, n_s, nI_n, y1.1.a21, h12], ?_⟩⟩
      · rw [if_pos hb] at b93; exact b93
      · obtain ⟨e1, e2⟩ := rg_nt (by omega) ((hB c h12).2.1).2.2
        rw [if_neg hb] at b93
        rw [vwI (y1.v (x := 1121) (by omega) (by omega)), e1, n_64 (by omega)]
        exact b93
  · rw [i2, nn_le (by omega) (by omega)] at e
    have hlt : r < nR := by omega
    have hr30 : r < 30 := by omega
    obtain ⟨-, -, -, -, -, eh, -⟩ := roof_e hR hlt
    refine ⟨1129, g1.1.a29.1, g1.1.a29.2.1, by simp (disch := first | omega | decide) only [Option.some.injEq, exists_eq_left', exists_eq_left, forall_eq, forall_eq', true_and, and_true, true_implies, implies_true, false_implies, not_true_eq_false, not_false_eq_true, reduceCtorEq, and_self, forall_const, i10, i01, if_true, if_false, and_false, false_and, Nat.not_lt_zero, sK_pI, sN_pI, sR_pI, sL_pI, sK_pL, sN_pL, sR_pL, sI_pL, sK_pR, sN_pR, sI_pR, sL_pR, sI_pI_eq, sI_pI_ne, sL_pL_eq, sL_pL_ne, sR_pR_eq, sR_pR_ne, nn_le, nat32_lt, nn_eq, ln_le, nl_le, ln_lt, nl_lt, ln_eq, nl_eq, n_m1, n_lt0, vp_n, vp_l, lc_n, nat32c, n_s, nI_n, g1.1.a29, hr30], 1140, g1.1.a40.1, g1.1.a40.2.1, by simp (disch := first | omega | decide) only [Option.some.injEq, exists_eq_left', exists_eq_left, forall_eq, forall_eq', true_and, and_true, true_implies, implies_true, false_implies, not_true_eq_false, not_false_eq_true, reduceCtorEq, and_self, forall_const, i10, i01, if_true, if_false, and_false, false_and, Nat.not_lt_zero, sK_pI, sN_pI, sR_pI, sL_pI, sK_pL, sN_pL, sR_pL, sI_pL, sK_pR, sN_pR, sI_pR, sL_pR, sI_pI_eq, sI_pI_ne, sL_pL_eq, sL_pL_ne, sR_pR_eq, sR_pR_ne, nn_le, nat32_lt, nn_eq, ln_le, nl_le, ln_lt, nl_lt, ln_eq, nl_eq, n_m1, n_lt0, vp_n, vp_l, lc_n, nat32c, n_s, nI_n, g1.1.a40, hr30], fun t1 q1 x hx => ?_⟩
    rw [nat32c (by omega), vwI (g1.v (x := 1129) (by omega) (by omega)), eh] at q1
    rw [hx, n_s]
    refine hK hlt _ ⟨by rw [q1]; exact g1.pI (by omega), fun x hx => by rw [q1, vw_pI hx]; exact g2 x hx, fun i hi => ?_⟩
    rw [q1]
    by_cases e3 : i = r
    · subst e3; exact sI_pI_eq
    · rw [sI_pI_ne (by omega)]; exact g3 i (by omega)
end FF
