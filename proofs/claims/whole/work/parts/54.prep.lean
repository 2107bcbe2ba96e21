/-! ===== level 2: the class's flow, laid over the streets ===== -/
def lieS (S : Sg) (a : Nat) (w : Option Nat) (v0 v1 v2 v3 v4 : Nat) : Sg := pI (pI (pI (pR (pI (pI S a 0 (Int32.ofNat v0)) a 1 (Int32.ofNat v1)) a 2 w) a 3 (Int32.ofNat v2)) a 4 (Int32.ofNat v4)) a 5 (Int32.ofNat v3)
/-- the flow's numbers behind the laying -/
def LY1 (S S2 : Sg) (nC n : Nat) : Prop := sI S 1043 6 = Int32.ofNat nC ∧ sI S 1043 8 = sI S2 1131 0 ∧ ∀ j, j < n → NP S S2 j ∧ sI S 1047 j = sI S2 1107 j
section PR
variable {S S2 T U : Sg} {nC nR nT nK nL nM nP td N : Nat} {lh : Nat → Nat}
theorem LY1.keep {n : Nat} (h : LY1 S S2 nC n) (g : ∀ x, (x = 1043 ∨ x = 1047 ∨ 7000 ≤ x ∧ x < 7012) → vw T x = vw S x) (hn : n ≤ 12) : LY1 T S2 nC n := by
  obtain ⟨h1, h2, h3⟩ := h
  refine ⟨by rw [vwI (g 1043 (by omega))]; exact h1, by rw [vwI (g 1043 (by omega))]; exact h2, fun j hj => ?_⟩
  obtain ⟨p, q⟩ := h3 j hj
  unfold NP at p ⊢
  rw [vwI (g 1047 (by omega)), vwI (g (7000 + j) (by omega)), vwR (g (7000 + j) (by omega))]
  exact ⟨p, q⟩
theorem x_lieAt {c : Nat} {w : Option Nat} {Q : Unit → Sg → Prop} (h : IV S S2 nC nR nT nK nL nM nP td N lh) (hc : c < nC) (hw : ∀ z, w = some z → ¬ sK S z = 0) (k : Q () (lieS S (7000 + c) w (wB S2 0 c) (wB S2 1 c) (wB S2 2 c) (wB S2 3 c) (wB S2 4 c))) : P_X5_lieAt (7000 + c) (some (2000 + c)) w (some 1050) S Q := by
  have hV := h
  obtain ⟨hk, hM, hS, hU, hA, hW, hB, hC, hR, hT, hK, hL, hZ, hP, hN⟩ := h
  have n12 := hC.2.1
  have o2 := hS.2.1
  have c0 := hC.2.2.2.1 c hc
  have k7 := hS.2.2.2.2.2 c (by omega)
  have ar := area_e hC hc
  have p0 : sI S2 1108 c = Int32.ofNat (wB S2 0 c) := ar.2.2.1
  have p1 : sI S2 1110 c = Int32.ofNat (wB S2 1 c) := ar.2.2.2.2.1
  unfold P_X5_lieAt
  refine ⟨2000 + c, rfl, c0.1, k7, fun s1 q1 s2 q2 => ⟨fun z hz => by rw [q2, q1]; exact hw z hz, fun s3 q3 => ?_⟩⟩
  rw [c0.2.2.1, p0] at q1
  subst q1
  rw [sI_pI_ne (by omega), c0.2.2.2.2.1, p1] at q2
  subst q2
  have sx3 : SX S s3 := by rw [q3]; exact (((SX.refl S).pI (by omega)).pI (by omega)).pR (by omega)
  have eR : sR s3 (2000 + c) 5 = if sI S2 1112 c = 0 then none else some (3000 + c) := by
    rw [q3]; simp (disch := first | omega | decide) only [sR_pR_ne]; exact c0.2.2.2.2.2.2.2.2.2
  unfold P_X5_lieAt_B40 P_X5_lieAt_B63 P_X5_lieAt_B88
  by_cases hb : sI S2 1112 c = 0
  · rw [if_pos hb] at eR
    have e2 : wB S2 2 c = 0 := by simp [wB, hb]
    have e3 : wB S2 3 c = 0 := by simp [wB, hb]
    have e4 : wB S2 4 c = 0 := by simp [wB, hb]
    rw [e2, e3, e4] at k
    refine ⟨fun _ => ⟨7000 + c, rfl, by rw [q3]; exact k7, fun s4 q4 => ⟨2000 + c, rfl, by rw [q4, q3]; exact c0.1, fun _ => ⟨7000 + c, rfl, by rw [q4, q3]; exact k7, fun s5 q5 => ⟨2000 + c, rfl, by rw [q5, q4, q3]; exact c0.1, fun _ => ⟨7000 + c, rfl, by rw [q5, q4, q3]; exact k7, fun s6 q6 => ?_⟩, fun b z => ?_⟩⟩, fun b z => ?_⟩⟩, fun b z => ?_⟩
    · rw [q6, q5, q4, q3]; exact k
    · rw [q5, q4] at z
      have z : sR s3 (2000 + c) 5 = some b := z
      rw [eR] at z; cases z
    · rw [q4] at z
      have z : sR s3 (2000 + c) 5 = some b := z
      rw [eR] at z; cases z
    · rw [eR] at z; cases z
  · rw [if_neg hb] at eR
    have be := bed_e hA hB (c := c) (by omega) hb
    have bE := ((hB c (by omega)).2.2.2 hb).1
    have e2 : sI S2 1116 c = Int32.ofNat (wB S2 2 c) := by rw [show wB S2 2 c = nt (sI S2 1116 c) from by simp [wB, hb]]; exact be.1
    have e3 : (10 : Int32) - sI S2 1119 c = Int32.ofNat (wB S2 3 c) := by
      rw [show wB S2 3 c = 10 - nt (sI S2 1119 c) from by simp [wB, hb], be.2.2.1, show (10 : Int32) = Int32.ofNat 10 from rfl, n_sub be.2.2.2.1, nt_n (by omega)]
    have e4 : drkN S2 c = Int32.ofNat (wB S2 4 c) := by rw [show wB S2 4 c = nt (drkN S2 c) from by simp [wB, hb]]; exact be.2.2.2.2.1
    refine ⟨fun z => (by rw [eR] at z; cases z), fun b z => ⟨3000 + c, eR, by rw [q3]; exact bE.1, 7000 + c, rfl, by rw [q3]; exact k7, fun s4 q4 => ?_⟩⟩
    have b1 : sI s3 (3000 + c) 1 = sI S2 1116 c := by rw [q3]; simp (disch := first | omega | decide) only [sI_pR, sI_pI_ne]; exact bE.2.2.2.2.2.1
    rw [b1, e2] at q4
    have sx4 : SX S s4 := by rw [q4]; exact sx3.pI (by omega)
    have eR4 : sR s4 (2000 + c) 5 = some (3000 + c) := by rw [q4]; exact eR
    have h4 := iv_sx hV sx4
    obtain ⟨tk, tM, tS, tU, tA, tW2, tB, tC, tR, tT, tK, tL, tZ, tP, tN⟩ := h4
    refine ⟨2000 + c, rfl, by rw [sx4.2.2]; exact c0.1, fun z => (by rw [eR4] at z; cases z), fun b z => ⟨3000 + c, eR4, by rw [sx4.2.2]; exact bE.1, (drink_e tS tA tB (by omega) hb).mpr ⟨7000 + c, rfl, by rw [sx4.2.2]; exact k7, fun s5 q5 => ?_⟩⟩⟩
    have d4 : full S2 c * (100 - sI S2 1118 c) / 100 = Int32.ofNat (wB S2 4 c) := e4
    rw [d4] at q5
    have sx5 : SX S s5 := by rw [q5]; exact sx4.pI (by omega)
    have eR5 : sR s5 (2000 + c) 5 = some (3000 + c) := by rw [q5]; exact eR4
    refine ⟨2000 + c, rfl, by rw [sx5.2.2]; exact c0.1, fun z => (by rw [eR5] at z; cases z), fun b z => ⟨3000 + c, eR5, by rw [sx5.2.2]; exact bE.1, 7000 + c, rfl, by rw [sx5.2.2]; exact k7, fun s6 q6 => ?_⟩⟩
    have b5 : sI s5 (3000 + c) 5 = sI S2 1119 c := by rw [vwI (sx5.1 (3000 + c) (by omega))]; exact bE.2.2.2.2.2.2.2.2.2.1
    rw [b5, e3] at q6
    rw [q6, q5, q4, q3]
    exact k
theorem sI_pRn {X : Sg} {a k b j : Nat} {v : Option Nat} : sI (pR X a k v) b j = sI X b j := by rw [sI_pR]
theorem sR_pIn {X : Sg} {a k b j : Nat} {v : Int32} : sR (pI X a k v) b j = sR X b j := by rw [sR_pI]
theorem lie_wz {c : Nat} {w : Option Nat} (hS : GS S) (hC : GC S S2 nC) (hc : c < nC) (hw : w = (beF S2 c).map (fun b => 7000 + b)) : ∀ z, w = some z → ¬ sK S z = 0 := fun z hz => by
  have n12 := hC.2.1
  rcases be_e hC hc with ⟨-, e⟩ | ⟨b, b1, b2, -, e⟩
  · rw [hw, e] at hz; cases hz
  · rw [hw, e, Option.map_some, Option.some.injEq] at hz
    rw [← hz]
    have h7 := hS.2.2.2.2.2 b (by omega)
    intro q
    rw [q] at h7
    exact absurd h7 (by decide)
theorem ly_step {c : Nat} {w : Option Nat} (hL : LY1 S S2 nC c) (hc : c < 12) (hw : w = (beF S2 c).map (fun b => 7000 + b)) : LY1 (pI (lieS S (7000 + c) w (wB S2 0 c) (wB S2 1 c) (wB S2 2 c) (wB S2 3 c) (wB S2 4 c)) 1047 c (sI S2 1107 c)) S2 nC (c + 1) := by
  obtain ⟨h1, h2, h3⟩ := hL
  unfold lieS
  refine ⟨by simp (disch := first | omega | decide) only [sI_pI_ne, sI_pRn]; exact h1, by simp (disch := first | omega | decide) only [sI_pI_ne, sI_pRn]; exact h2, fun j hj => ?_⟩
  by_cases e : j = c
  · subst e
    unfold NP
    rw [← hw]
    refine ⟨⟨?_, ?_, ?_, ?_, ?_, ?_⟩, ?_⟩ <;> simp (disch := first | omega | decide) only [sI_pI_ne, sI_pI_eq, sI_pRn, sR_pIn, sR_pR_eq]
  · obtain ⟨p, q⟩ := h3 j (by omega)
    unfold NP at p ⊢
    simp (disch := first | omega | decide) only [sI_pI_ne, sI_pRn, sR_pIn, sR_pR_ne]
    exact ⟨p, q⟩
theorem x_lie88 {c : Nat} {w : Option Nat} {Q : Unit → Sg → Prop} {K : Int32 → Sg → Prop} (h : IV S S2 nC nR nT nK nL nM nP td N lh) (hc : c < nC) (hL : LY1 S S2 nC c) (hw : w = (beF S2 c).map (fun b => 7000 + b)) (k : ∀ S', SX S S' → LY1 S' S2 nC (c + 1) → K (Int32.ofNat (c + 1)) S') : P_X3_lieOver_B88 1043 (some 1001) (some 1050) (Int32.ofNat c) (some (2000 + c)) w S Q K := by
  have hV := h
  obtain ⟨hk, hM, hS, hU, hA, hW, hB, hC, hR, hT, hK, gL, hZ, hP, hN⟩ := h
  have n12 := hC.2.1
  have o2 := hS.2.1
  have uL := hS.2.2.2.2
  have c0 := hC.2.2.2.1 c hc
  have h12 : c < 12 := by omega
  have wz := lie_wz hS hC hc hw
  unfold P_X3_lieOver_B88
  refine ⟨o2.2.2.2.2.1, 1044, o2.2.2.2.2.2.1, uL.1.1, p_get uL.1 h12 ⟨7000 + c, rfl, uL.2 c h12, x_lieAt hV hc wz ?_⟩⟩
  have sx : SX S (lieS S (7000 + c) w (wB S2 0 c) (wB S2 1 c) (wB S2 2 c) (wB S2 3 c) (wB S2 4 c)) := by
    unfold lieS
    exact ((((((SX.refl S).pI (by omega)).pI (by omega)).pR (by omega)).pI (by omega)).pI (by omega)).pI (by omega)
  have hT := iv_sx hV sx
  obtain ⟨tk, tM, tS, tU, tA, tW2, tB, tC, tR, tT, tK, tL, tZ, tP, tN⟩ := hT
  have t2 := tS.2.1
  have tc := tC.2.2.2.1 c hc
  refine ⟨2000 + c, rfl, tc.1, 1047, t2.2.2.2.2.2.2.2.2.1, by simp (disch := first | omega | decide) only [Option.some.injEq, exists_eq_left', exists_eq_left, forall_eq, forall_eq', true_and, and_true, true_implies, implies_true, false_implies, not_true_eq_false, not_false_eq_true, reduceCtorEq, and_self, forall_const, i10, i01, if_true, if_false, and_false, false_and, Nat.not_lt_zero, sK_pI, sN_pI, sR_pI, sL_pI, sK_pL, sN_pL, sR_pL, sI_pL, sK_pR, sN_pR, sI_pR, sL_pR, sI_pI_eq, sI_pI_ne, sL_pL_eq, sL_pL_ne, sR_pR_eq, sR_pR_ne, nn_le, nat32_lt, nn_eq, ln_le, nl_le, ln_lt, nl_lt, ln_eq, nl_eq, n_m1, n_lt0, vp_n, vp_l, lc_n, nat32c, n_s, nI_n, t2], by simp (disch := first | omega | decide) only [Option.some.injEq, exists_eq_left', exists_eq_left, forall_eq, forall_eq', true_and, and_true, true_implies, implies_true, false_implies, not_true_eq_false, not_false_eq_true, reduceCtorEq, and_self, forall_const, i10, i01, if_true, if_false, and_false, false_and, Nat.not_lt_zero, sK_pI, sN_pI, sR_pI, sL_pI, sK_pL, sN_pL, sR_pL, sI_pL, sK_pR, sN_pR, sI_pR, sL_pR, sI_pI_eq, sI_pI_ne, sL_pL_eq, sL_pL_ne, sR_pR_eq, sR_pR_ne, nn_le, nat32_lt, nn_eq, ln_le, nl_le, ln_lt, nl_lt, ln_eq, nl_eq, n_m1, n_lt0, vp_n, vp_l, lc_n, nat32c, n_s, nI_n, t2, h12], fun s1 q1 x hx => ?_⟩
  rw [nat32c (by omega), tc.2.1] at q1
  rw [hx, n_s]
  refine k s1 (by rw [q1]; exact sx.pI (by omega)) ?_
  subst q1
  exact ly_step hL h12 hw
theorem x_lieOver {Q : Unit → Sg → Prop} (h : IV S S2 nC nR nT nK nL nM nP td N lh) (k : ∀ S', SX S S' → LY1 S' S2 nC nC → Q () S') : P_X3_lieOver 1043 (some 1001) (some 1050) S Q := by
  have hV := h
  obtain ⟨hk, hM, hS, hU, hA, hW, hB, hC, hR, hT, hK, hL, hZ, hP, hN⟩ := h
  have n12 := hC.2.1
  have o2 := hS.2.1
  unfold P_X3_lieOver
  refine ⟨1001, rfl, hC.1.1, p_size hC.1 (fun x5 hx5 => ⟨o2.2.2.2.2.1, fun s8 q8 => ⟨1050, rfl, by rw [q8]; simp (disch := first | omega | decide) only [Option.some.injEq, exists_eq_left', exists_eq_left, forall_eq, forall_eq', true_and, and_true, true_implies, implies_true, false_implies, not_true_eq_false, not_false_eq_true, reduceCtorEq, and_self, forall_const, i10, i01, if_true, if_false, and_false, false_and, Nat.not_lt_zero, sK_pI, sN_pI, sR_pI, sL_pI, sK_pL, sN_pL, sR_pL, sI_pL, sK_pR, sN_pR, sI_pR, sL_pR, sI_pI_eq, sI_pI_ne, sL_pL_eq, sL_pL_ne, sR_pR_eq, sR_pR_ne, nn_le, nat32_lt, nn_eq, ln_le, nl_le, ln_lt, nl_lt, ln_eq, nl_eq, n_m1, n_lt0, vp_n, vp_l, lc_n, nat32c, n_s, nI_n, o2], fun z => ?_, fun _ => ⟨by rw [q8]; simp (disch := first | omega | decide) only [Option.some.injEq, exists_eq_left', exists_eq_left, forall_eq, forall_eq', true_and, and_true, true_implies, implies_true, false_implies, not_true_eq_false, not_false_eq_true, reduceCtorEq, and_self, forall_const, i10, i01, if_true, if_false, and_false, false_and, Nat.not_lt_zero, sK_pI, sN_pI, sR_pI, sL_pI, sK_pL, sN_pL, sR_pL, sI_pL, sK_pR, sN_pR, sI_pR, sL_pR, sI_pI_eq, sI_pI_ne, sL_pL_eq, sL_pL_ne, sR_pR_eq, sR_pR_ne, nn_le, nat32_lt, nn_eq, ln_le, nl_le, ln_lt, nl_lt, ln_eq, nl_eq, n_m1, n_lt0, vp_n, vp_l, lc_n, nat32c, n_s, nI_n, o2]; omega, ?_⟩⟩⟩)⟩
  · rw [q8, show sN (pI S 1043 6 x5) 1050 = 10 from by simp (disch := first | omega | decide) only [Option.some.injEq, exists_eq_left', exists_eq_left, forall_eq, forall_eq', true_and, and_true, true_implies, implies_true, false_implies, not_true_eq_false, not_false_eq_true, reduceCtorEq, and_self, forall_const, i10, i01, if_true, if_false, and_false, false_and, Nat.not_lt_zero, sK_pI, sN_pI, sR_pI, sL_pI, sK_pL, sN_pL, sR_pL, sI_pL, sK_pR, sN_pR, sI_pR, sL_pR, sI_pI_eq, sI_pI_ne, sL_pL_eq, sL_pL_ne, sR_pR_eq, sR_pR_ne, nn_le, nat32_lt, nn_eq, ln_le, nl_le, ln_lt, nl_lt, ln_eq, nl_eq, n_m1, n_lt0, vp_n, vp_l, lc_n, nat32c, n_s, nI_n, o2]] at z
    exact absurd z (by decide)
  · unfold P_X3_lieOver_B26
    refine ⟨1043, rfl, by rw [q8]; simp (disch := first | omega | decide) only [Option.some.injEq, exists_eq_left', exists_eq_left, forall_eq, forall_eq', true_and, and_true, true_implies, implies_true, false_implies, not_true_eq_false, not_false_eq_true, reduceCtorEq, and_self, forall_const, i10, i01, if_true, if_false, and_false, false_and, Nat.not_lt_zero, sK_pI, sN_pI, sR_pI, sL_pI, sK_pL, sN_pL, sR_pL, sI_pL, sK_pR, sN_pR, sI_pR, sL_pR, sI_pI_eq, sI_pI_ne, sL_pL_eq, sL_pL_ne, sR_pR_eq, sR_pR_ne, nn_le, nat32_lt, nn_eq, ln_le, nl_le, ln_lt, nl_lt, ln_eq, nl_eq, n_m1, n_lt0, vp_n, vp_l, lc_n, nat32c, n_s, nI_n, o2], fun s19 q19 => ?_⟩
    have e5 : x5 = Int32.ofNat nC := by
      rw [hx5, if_neg (by rw [show (12 : Int32) < Int32.ofNat nC ↔ 12 < nC from ln_lt (k := 12) (by omega) (by omega)]; omega)]
    have l0 : sI s8 1050 (0 : Int32).toNatClampNeg = sI S2 1131 0 := by
      rw [q8, show (0 : Int32).toNatClampNeg = 0 from by decide, sI_pI_ne (by omega)]
      exact (hA.1 0 (by omega)).1
    rw [l0, q8, e5] at q19
    subst q19
    unfold P_X3_lieOver_L31
    refine lpS (N := nC) (s0 := 0) (R := fun c σ => SX S σ ∧ LY1 σ S2 nC c) (B := fun x σ K => P_X3_lieOver_L31b 1043 (some 1001) (some 1050) x σ Q K) rfl (Nat.zero_le _) ⟨((SX.refl S).pI (by omega)).pI (by omega), by simp (disch := first | omega | decide) only [sI_pI_ne, sI_pI_eq], sI_pI_eq, fun j hj => absurd hj (Nat.not_lt_zero _)⟩ (fun c hc σ hR2 K hK => ?_)
    obtain ⟨r1, r2⟩ := hR2
    have hVσ := iv_sx hV r1
    have hVσ0 := hVσ
    obtain ⟨tk, tM, tS, tU, tA, tW2, tB, tC, tR, tT, tK, tL, tZ, tP, tN⟩ := hVσ
    have t2 := tS.2.1
    have uL := tS.2.2.2.2
    unfold P_X3_lieOver_L31b
    refine ⟨t2.2.2.2.2.1, fun e => ?_, fun e => ?_⟩
    · rw [r2.1, nn_le (by omega) (by omega)] at e
      have e2 : c = nC := by omega
      subst e2
      exact k σ r1 r2
    · rw [r2.1, nn_le (by omega) (by omega)] at e
      have hlt : c < nC := by omega
      have tc := tC.2.2.2.1 c hlt
      refine ⟨1001, rfl, tC.1.1, p_get tC.1 hlt ⟨2000 + c, rfl, tc.1, within_e.mpr ?_⟩⟩
      rw [tc.2.2.2.2.2.1, r2.1]
      refine ⟨fun z => ?_, fun z => ?_⟩
      · refine x_lie88 hVσ0 hlt r2 ?_ (fun S' g1 g2 => hK hlt _ ⟨r1.trans g1, g2⟩)
        rcases be_e tC hlt with ⟨-, e⟩ | ⟨b, b1, b2, e1, -⟩
        · rw [e]; rfl
        · exact absurd z ((inn_b (by omega) hlt).mpr ⟨b, b1, b2, e1⟩)
      · obtain ⟨b, b1, b2, e1⟩ := (inn_b (by omega) hlt).mp z
        rw [e1]
        refine ⟨1044, t2.2.2.2.2.2.1, uL.1.1, p_get uL.1 (by omega) ⟨7000 + b, rfl, uL.2 b (by omega), x_lie88 hVσ0 hlt r2 ?_ (fun S' g1 g2 => hK hlt _ ⟨r1.trans g1, g2⟩)⟩⟩
        rw [be_s (by omega) e1]; rfl
end PR
