/-! ===== level 2: the class's run of a storm ===== -/
/-- what storms leave as it was: all but the flow's own cells -/
def SX (S S' : Sg) : Prop := (∀ x, ¬ (x = 1043 ∨ 1045 ≤ x ∧ x ≤ 1047 ∨ 7000 ≤ x ∧ x < 7012) → vw S' x = vw S x) ∧ (∀ x, ¬ (7000 ≤ x ∧ x < 7012) → stru S' x = stru S x) ∧ ∀ x, sK S' x = sK S x
theorem SX.refl (S : Sg) : SX S S := ⟨fun _ _ => rfl, fun _ _ => rfl, fun _ => rfl⟩
theorem SX.trans {S T U : Sg} (h : SX S T) (g : SX T U) : SX S U := ⟨fun x hx => (g.1 x hx).trans (h.1 x hx), fun x hx => (g.2.1 x hx).trans (h.2.1 x hx), fun x => (g.2.2 x).trans (h.2.2 x)⟩
theorem RX.sx {S T : Sg} (h : RX S T) : SX S T := ⟨fun x hx => h.1 x (by omega), fun x hx => stru_vw (h.1 x hx), fun x => (h.2.1 x).1⟩
theorem SX.pI {S T : Sg} {a k : Nat} {v : Int32} (h : SX S T) (ha : a = 1043 ∨ 1045 ≤ a ∧ a ≤ 1047 ∨ 7000 ≤ a ∧ a < 7012) : SX S (pI T a k v) := h.trans ⟨fun x hx => vw_pI (by omega), fun x _ => rfl, fun x => rfl⟩
theorem SX.pR {S T : Sg} {a k : Nat} {v : Option Nat} (h : SX S T) (ha : 7000 ≤ a ∧ a < 7012) : SX S (pR T a k v) := h.trans ⟨fun x hx => vw_pR (by omega), fun x hx => stru_vw (vw_pR (by omega)), fun x => by rw [sK_pR]⟩
section RU
variable {S S2 T U : Sg} {nC nR nT nK nL nM nP td N : Nat} {lh : Nat → Nat}
theorem iv_sx (h : IV S S2 nC nR nT nK nL nM nP td N lh) (g : SX S T) : IV T S2 nC nR nT nK nL nM nP td N lh := by
  obtain ⟨hk, hM, hS, hU, hA, hW, hB, hC, hR, hT, hK, hL, hZ, hP, hN⟩ := h
  obtain ⟨g1, g2, g3⟩ := g
  have w20 : ∀ x, sK S x % 32 = 20 → 10000 ≤ x → vw T x = vw S x := fun x _ h => g1 x (by omega)
  refine ⟨⟨(g1 1 (by omega)).trans hk.1, (g1 2 (by omega)).trans hk.2.1, fun x hx => by rw [g3] at hx ⊢; exact hk.2.2 x hx⟩, hM, hS.keep (fun x h1 h2 h3 => g2 x (by omega)) (fun x hx => g1 x (by omega)) (fun x h1 h2 => g3 x), hU.keep (g1 1054 (by omega)) (fun k _ _ => rfl), hA.keep (fun x h1 h2 => g1 x (by omega)) (fun x _ _ => rfl), hW.keep (fun x hx => g1 x (by omega)) (fun x _ _ => rfl), hB.keep (fun x h1 h2 => g1 x (by omega)) (fun x _ _ => rfl), hC.keep (fun x hx => g1 x (by omega)) (fun x _ => rfl) rfl, hR.keep (Nat.le_refl _) (Nat.le_refl _) (fun x hx => g1 x (by omega)) (fun x _ _ => rfl) rfl, hT.keep (fun x hx => g1 x (by omega)) (fun x _ _ _ => rfl) rfl, hK.keep (fun x hx => g1 x (by omega)) (fun x _ _ => rfl) rfl, hL.keep (fun x hx => ?_) (fun x _ _ => rfl) rfl, hZ.keep (fun k _ _ => by rw [vwI (g1 1000 (by omega))]) (fun k _ => rfl), hP.keep (fun x h1 h2 => g1 x (by omega)) rfl rfl, ⟨hN.1, fun x hx => by rw [g3]; exact hN.2 x hx⟩⟩
  unfold lawR at hx
  exact g1 x (by omega)
/-- the flow, laid over the streets -/
def FP (S S2 : Sg) (nC nR nM : Nat) : Prop := sI S 1043 6 = Int32.ofNat nC ∧ sI S 1043 7 = Int32.ofNat nM ∧ sI S 1043 8 = sI S2 1131 0 ∧ (∀ j, j < nC → NP S S2 j) ∧ (∀ m c, m < nM → c < nC → sI S 1045 (12 * m + c) = Int32.ofNat (owF S2 nR m c)) ∧ ∀ r, r < nR → sI S 1046 r = Int32.ofNat (brF S2 r nM)
/-- what a run leaves as it was -/
def RY (S T : Sg) : Prop := (∀ x, ¬ (x = 1043 ∨ 7000 ≤ x ∧ x < 7012) → vw T x = vw S x) ∧ (∀ x, sK T x = sK S x ∧ sN T x = sN S x ∧ sR T x = sR S x) ∧ (∀ x i, ¬ x = 1043 → i ≤ 5 → sI T x i = sI S x i) ∧ ∀ i, ¬ i = 1 → ¬ i = 2 → sI T 1043 i = sI S 1043 i
theorem RY.refl (S : Sg) : RY S S := ⟨fun _ _ => rfl, fun _ => ⟨rfl, rfl, rfl⟩, fun _ _ _ _ => rfl, fun _ _ _ => rfl⟩
theorem RY.trans (h : RY S T) (g : RY T U) : RY S U := ⟨fun x hx => (g.1 x hx).trans (h.1 x hx), fun x => ⟨(g.2.1 x).1.trans (h.2.1 x).1, (g.2.1 x).2.1.trans (h.2.1 x).2.1, (g.2.1 x).2.2.trans (h.2.1 x).2.2⟩, fun x i hx hi => (g.2.2.1 x i hx hi).trans (h.2.2.1 x i hx hi), fun i h1 h2 => (g.2.2.2 i h1 h2).trans (h.2.2.2 i h1 h2)⟩
theorem RX.ry (h : RX S T) : RY S T := ⟨fun x hx => h.1 x (by omega), h.2.1, fun x i _ hi => h.2.2 x i (by omega), fun i _ _ => by rw [vwI (h.1 1043 (by omega))]⟩
theorem RY.sx (h : RY S T) : SX S T := by
  refine ⟨fun x hx => h.1 x (by omega), fun x hx => ?_, fun x => (h.2.1 x).1⟩
  unfold stru
  rw [(h.2.1 x).1, (h.2.1 x).2.1, (h.2.1 x).2.2]
theorem RY.pN (h : RY S T) {a i : Nat} {v : Int32} (h1 : 7000 ≤ a) (h2 : a < 7012) (h3 : 6 ≤ i) : RY S (pI T a i v) := h.trans ⟨fun x hx => vw_pI (by omega), fun x => ⟨rfl, rfl, rfl⟩, fun x j _ hj => sI_pI_ne (by omega), fun j _ _ => sI_pI_ne (by omega)⟩
theorem RY.pF (h : RY S T) {i : Nat} {v : Int32} (h3 : i = 1 ∨ i = 2) : RY S (pI T 1043 i v) := h.trans ⟨fun x hx => vw_pI (by omega), fun x => ⟨rfl, rfl, rfl⟩, fun x j hx hj => sI_pI_ne (by omega), fun j _ _ => sI_pI_ne (by omega)⟩
theorem NP.ry {j : Nat} (h : NP S S2 j) (g : RY S T) : NP T S2 j := by
  unfold NP at *
  have k := fun i hi => g.2.2.1 (7000 + j) i (by omega) hi
  rw [k 0 (by omega), k 1 (by omega), k 3 (by omega), k 5 (by omega), k 4 (by omega), (g.2.1 (7000 + j)).2.2]
  exact h
theorem FP.ry (h : FP S S2 nC nR nM) (g : RY S T) : FP T S2 nC nR nM := by
  obtain ⟨h1, h2, h3, h4, h5, h6⟩ := h
  refine ⟨(g.2.2.2 6 (by omega) (by omega)).trans h1, (g.2.2.2 7 (by omega) (by omega)).trans h2, (g.2.2.2 8 (by omega) (by omega)).trans h3, fun j hj => (h4 j hj).ry g, fun m c hm hc => ?_, fun r hr => ?_⟩
  · rw [vwI (g.1 1045 (by omega))]; exact h5 m c hm hc
  · rw [vwI (g.1 1046 (by omega))]; exact h6 r hr
/-- what a run tells -/
def FD (S : Sg) (n : Nat) (R : Ms × Nat × Nat) : Prop := (∀ j, j < n → ND S R.1 j) ∧ sI S 1043 1 = Int32.ofNat R.2.1 ∧ sI S 1043 2 = Int32.ofNat R.2.2
def NA (S : Sg) (v : Int32) (n : Nat) : Prop := ∀ j, j < n → sI S (7000 + j) 6 = if isnw v j then 1 else 0
theorem x_minF {st : Ms} {v : Int32} {m c : Nat} {Q : Unit → Sg → Prop} (h : IV S S2 nC nR nT nK nL nM nP td N lh) (hF : FP S S2 nC nR nM) (hA : NA S v nC) (hc : c < nC) (hm : m ≤ 30) (hi : Wi (wF S2 v) st nC m c) (hst : ∀ j, j < nC → ND S st j) (k : ∀ S', RX S S' → (∀ j, j < nC → ND S' (q_st (wF S2 v) (beF S2) st c (owF S2 nR m c)) j) → sI S' (7000 + c) 10 = Int32.ofNat (q_ou (wF S2 v) (beF S2) st c (owF S2 nR m c)) → Q () S') : P_X5_minute (7000 + c) (Int32.ofNat (owF S2 nR m c)) (sI S2 1131 0) S Q := by
  obtain ⟨hk, hM, hS, hU, gA, hW, hB, hC, hR, hT, hK, hL, hZ, hP, hN⟩ := h
  have n12 := hC.2.1
  have p := hF.2.2.2.1 c hc
  rw [(lot0_e gA).1]
  have a := hA c hc
  refine x_minute (own := owF S2 nR) (mm := m) (m := m) (w := wF S2 v) (be := beF S2) hS.2.2.2.2.2 hc (world_ok gA hB hC hR) hi hm (by rw [wF_lo (by omega)]; exact p.1) (by rw [wF_lo (by omega)]; exact p.2.1) (fun z => ?_) (fun z => ?_) p.2.2.2.2.2 hst k
  · by_cases e : isnw v c
    · rw [if_pos e] at a; rw [a] at z; exact absurd z (by decide)
    · rw [wF_old e, wF_old e, wF_old e]; exact ⟨p.2.2.1, p.2.2.2.1, p.2.2.2.2.1⟩
  · by_cases e : isnw v c
    · rw [wF_new (by omega) e, wF_new (by omega) e, wF_new (by omega) e]
      exact ⟨rfl, rfl, rfl⟩
    · rw [if_neg e] at a; exact absurd a z
theorem x_run60 {st : Ms} {v : Int32} {m : Nat} {Q : Unit → Sg → Prop} {K : Int32 → Sg → Prop} (h : IV S S2 nC nR nT nK nL nM nP td N lh) (hF : FP S S2 nC nR nM) (hA : NA S v nC) (hm : m < nM) (hm30 : nM ≤ 30) (hi : Wi (wF S2 v) st nC m 0) (hst : ∀ j, j < nC → ND S st j) (k : ∀ S', RX S S' → (∀ j, j < nC → ND S' (q_mn (wF S2 v) (beF S2) (owF S2 nR m) st nC).1 j) → (∀ s1, s1 = pI S' 1043 1 (sI S' 1043 1 + Int32.ofNat (q_mn (wF S2 v) (beF S2) (owF S2 nR m) st nC).2) → ∀ x, x = (if sI s1 1043 2 < Int32.ofNat (q_mn (wF S2 v) (beF S2) (owF S2 nR m) st nC).2 then Int32.ofNat (q_mn (wF S2 v) (beF S2) (owF S2 nR m) st nC).2 else sI s1 1043 2) → ∀ s2, s2 = pI s1 1043 2 x → K (Int32.ofNat (m + 1)) s2)) : P_X3_run_L60 1043 (Int32.ofNat m) 0 0 S Q K := by
  have hV := h
  obtain ⟨hk, hM, hS, hU, gA, hW, hB, hC, hR, hT, hK, hL, hZ, hP, hN⟩ := h
  have n12 := hC.2.1
  have hw := world_ok (v := v) gA hB hC hR
  have o2 := hS.2.1
  unfold P_X3_run_L60
  refine lpAS (N := nC) (s0 := 0) (R := fun c (a : Int32) σ => RX S σ ∧ (∀ j, j < nC → ND σ (q_mn (wF S2 v) (beF S2) (owF S2 nR m) st c).1 j) ∧ a = Int32.ofNat (q_mn (wF S2 v) (beF S2) (owF S2 nR m) st c).2) (B := fun a x σ K' => P_X3_run_L60b 1043 (Int32.ofNat m) a x σ Q K K') rfl (Nat.zero_le _) ⟨RX.refl S, hst, rfl⟩ (fun c hc a σ hR2 K' hK' => ?_)
  obtain ⟨r1, r2, rfl⟩ := hR2
  have hVσ := iv_sx hV r1.sx
  have hFσ := hF.ry r1.ry
  obtain ⟨tk, tM, tS, tU, tA, tW2, tB, tC, tR, tT, tK, tL, tZ, tP, tN⟩ := hVσ
  have u2 := tS.2.1
  have uL := tS.2.2.2.2
  have f6 := hFσ.1
  have f8 := hFσ.2.2.1
  unfold P_X3_run_L60b
  refine ⟨u2.2.2.2.2.1, fun e => ?_, fun e => ?_⟩
  · rw [f6, nn_le (by omega) (by omega)] at e
    have e2 : c = nC := by omega
    subst e2
    intro s1 q1 x hx s2 q2 y hy
    rw [hy, n_s]
    exact k σ r1 r2 s1 q1 x hx s2 q2
  · rw [f6, nn_le (by omega) (by omega)] at e
    have hlt : c < nC := by omega
    have hx : (Int32.ofNat m * 12 + Int32.ofNat c) = Int32.ofNat (12 * m + c) := by
      rw [show (12 : Int32) = Int32.ofNat 12 from rfl, n_mul, n_add, Nat.mul_comm]
    have h360 : 12 * m + c < 360 := by omega
    have ow := hFσ.2.2.2.2.1 m c hm hlt
    refine ⟨1044, u2.2.2.2.2.2.1, uL.1.1, p_get uL.1 (by omega) ⟨7000 + c, rfl, uL.2 c (by omega), 1045, u2.2.2.2.2.2.2.1, by simp (disch := first | omega | decide) only [Option.some.injEq, exists_eq_left', exists_eq_left, forall_eq, forall_eq', true_and, and_true, true_implies, implies_true, false_implies, not_true_eq_false, not_false_eq_true, reduceCtorEq, and_self, forall_const, i10, i01, if_true, if_false, and_false, false_and, Nat.not_lt_zero, sK_pI, sN_pI, sR_pI, sL_pI, sK_pL, sN_pL, sR_pL, sI_pL, sK_pR, sN_pR, sI_pR, sL_pR, sI_pI_eq, sI_pI_ne, sL_pL_eq, sL_pL_ne, sR_pR_eq, sR_pR_ne, nn_le, nat32_lt, nn_eq, ln_le, nl_le, ln_lt, nl_lt, ln_eq, nl_eq, n_m1, n_lt0, vp_n, vp_l, lc_n, nat32c, n_s, nI_n, u2], by rw [hx]; simp (disch := first | omega | decide) only [Option.some.injEq, exists_eq_left', exists_eq_left, forall_eq, forall_eq', true_and, and_true, true_implies, implies_true, false_implies, not_true_eq_false, not_false_eq_true, reduceCtorEq, and_self, forall_const, i10, i01, if_true, if_false, and_false, false_and, Nat.not_lt_zero, sK_pI, sN_pI, sR_pI, sL_pI, sK_pL, sN_pL, sR_pL, sI_pL, sK_pR, sN_pR, sI_pR, sL_pR, sI_pI_eq, sI_pI_ne, sL_pL_eq, sL_pL_ne, sR_pR_eq, sR_pR_ne, nn_le, nat32_lt, nn_eq, ln_le, nl_le, ln_lt, nl_lt, ln_eq, nl_eq, n_m1, n_lt0, vp_n, vp_l, lc_n, nat32c, n_s, nI_n, u2, h360], ?_⟩⟩
    rw [hx, nat32c (by omega), ow, f8]
    refine x_minF ⟨tk, tM, tS, tU, tA, tW2, tB, tC, tR, tT, tK, tL, tZ, tP, tN⟩ hFσ (fun j hj => by rw [r1.2.2 _ _ (by omega)]; exact hA j hj) hlt (by omega) (q_mn_wi (mm := m) hw hi (c := c) (by omega)).1 r2 (fun S' g1 g2 g3 x1 hx1 x2 hx2 => ?_)
    rw [g3, n_add] at hx1
    rw [hx1, hx2, n_s]
    exact hK' hlt _ _ ⟨r1.trans g1, g2, rfl⟩
theorem x_runF {v : Int32} {Q : Unit → Sg → Prop} (h : IV S S2 nC nR nT nK nL nM nP td N lh) (hF : FP S S2 nC nR nM) (k : ∀ S', RY S S' → FD S' nC (q_rn (wF S2 v) (beF S2) (owF S2 nR) nC nM) → Q () S') : P_X3_run 1043 v S Q := by
  have hV := h
  obtain ⟨hk, hM, hS, hU, gA, hW, hB, hC, hR, hT, hK, hL, hZ, hP, hN⟩ := h
  have n12 := hC.2.1
  have n30 := hZ.2.2.1
  have hw := world_ok (v := v) gA hB hC hR
  have o2 := hS.2.1
  unfold P_X3_run
  refine ⟨o2.2.2.2.2.1, fun s2 q2 s5 q5 => ?_⟩
  subst q2; subst q5
  unfold P_X3_run_L12
  refine lpS (N := nC) (s0 := 0) (R := fun c σ => RY S σ ∧ (sI σ 1043 1 = 0 ∧ sI σ 1043 2 = 0) ∧ ∀ j, j < c → ND σ (fun _ _ => 0) j ∧ sI σ (7000 + j) 6 = if isnw v j then 1 else 0) (B := fun x σ K => P_X3_run_L12b 1043 v x σ Q K) rfl (Nat.zero_le _) ⟨((RY.refl S).pF (Or.inl rfl)).pF (Or.inr rfl), ⟨by simp (disch := first | omega | decide) only [sI_pI_ne, sI_pI_eq], sI_pI_eq⟩, fun j hj => absurd hj (Nat.not_lt_zero _)⟩ (fun c hc σ hR2 K hK => ?_)
  obtain ⟨r1, ⟨r2, r3⟩, r4⟩ := hR2
  have hVσ := iv_sx hV r1.sx
  have hFσ := hF.ry r1
  have hVσ0 := hVσ
  obtain ⟨tk, tM, tS, tU, tA, tW2, tB, tC, tR, tT, tK, tL, tZ, tP, tN⟩ := hVσ
  have u2 := tS.2.1
  have uL := tS.2.2.2.2
  have f6 := hFσ.1
  unfold P_X3_run_L12b
  refine ⟨u2.2.2.2.2.1, fun e => ?_, fun e => ?_⟩
  · rw [f6, nn_le (by omega) (by omega)] at e
    have e2 : c = nC := by omega
    subst e2
    unfold P_X3_run_L47
    refine lpS (N := nM) (s0 := 0) (R := fun m ρ => RY S ρ ∧ NA ρ v c ∧ FD ρ c (q_rn (wF S2 v) (beF S2) (owF S2 nR) c m)) (B := fun x ρ K => P_X3_run_L47b 1043 x ρ Q K) rfl (Nat.zero_le _) ⟨r1, fun j hj => (r4 j hj).2, fun j hj => (r4 j hj).1, r2, r3⟩ (fun m hm ρ hR3 K hK => ?_)
    obtain ⟨g1, g2, g3, g4, g5⟩ := hR3
    have hVρ := iv_sx hV g1.sx
    have hFρ := hF.ry g1
    have w2 := hVρ.2.2.1.2.1
    have f7 := hFρ.2.1
    obtain ⟨z1, z2, z3, z4⟩ := q_rn_wi hw m
    have n6000 : m * 6000 ≤ 180000 := by omega
    unfold P_X3_run_L47b
    refine ⟨w2.2.2.2.2.1, fun e => ?_, fun e => ?_⟩
    · rw [f7, nn_le (by omega) (by omega)] at e
      have e2 : m = nM := by omega
      subst e2
      exact k ρ g1 ⟨g3, g4, g5⟩
    · rw [f7, nn_le (by omega) (by omega)] at e
      have hlt : m < nM := by omega
      obtain ⟨y1, y2, y3, y4⟩ := q_rn_wi hw (m + 1)
      have y4 : max (q_rn (wF S2 v) (beF S2) (owF S2 nR) c m).2.2 (q_mn (wF S2 v) (beF S2) (owF S2 nR m) (q_rn (wF S2 v) (beF S2) (owF S2 nR) c m).1 c).2 ≤ 6000 := y4
      refine x_run60 hVρ hFρ g2 hlt n30 z1 g3 (fun S' t1 t2 s1 q1 x hx s2 q2 => ?_)
      have i1 : sI S' 1043 1 = Int32.ofNat (q_rn (wF S2 v) (beF S2) (owF S2 nR) c m).2.1 := by rw [vwI (t1.1 1043 (by omega))]; exact g4
      have i2 : sI S' 1043 2 = Int32.ofNat (q_rn (wF S2 v) (beF S2) (owF S2 nR) c m).2.2 := by rw [vwI (t1.1 1043 (by omega))]; exact g5
      rw [i1, n_add] at q1
      subst q1
      rw [sI_pI_ne (by omega), i2, n_maxB (by omega) (by omega)] at hx
      rw [hx] at q2
      subst q2
      refine hK hlt _ ⟨((g1.trans t1.ry).pF (Or.inl rfl)).pF (Or.inr rfl), fun j hj => ?_, fun j hj => ?_, ?_, ?_⟩
      · simp (disch := first | omega | decide) only [sI_pI_ne]
        rw [t1.2.2 _ _ (by omega)]; exact g2 j hj
      · have n := t2 j hj
        unfold ND at n ⊢
        simp (disch := first | omega | decide) only [sI_pI_ne]
        exact n
      · simp (disch := first | omega | decide) only [sI_pI_ne, sI_pI_eq]; rfl
      · simp (disch := first | omega | decide) only [sI_pI_eq]; rfl
  · rw [f6, nn_le (by omega) (by omega)] at e
    have hlt : c < nC := by omega
    refine ⟨1044, u2.2.2.2.2.2.1, uL.1.1, p_get uL.1 (by omega) ⟨7000 + c, rfl, uL.2 c (by omega), holds_e.mpr ?_⟩⟩
    unfold P_X5_start
    refine ⟨uL.2 c (by omega), ?_, fun t1 q1 t2 q2 t3 q3 t4 q4 t5 q5 t6 q6 t7 q7 t8 q8 x hx => ?_⟩
    · split
      · exact Or.inr rfl
      · exact Or.inl rfl
    · subst q1; subst q2; subst q3; subst q4; subst q5; subst q6; subst q7; subst q8
      rw [hx, n_s]
      refine hK hlt _ ⟨(((((((r1.pN (by omega) (by omega) (by omega)).pN (by omega) (by omega) (by omega)).pN (by omega) (by omega) (by omega)).pN (by omega) (by omega) (by omega)).pN (by omega) (by omega) (by omega)).pN (by omega) (by omega) (by omega)).pN (by omega) (by omega) (by omega)).pN (by omega) (by omega) (by omega), ⟨by simp (disch := first | omega | decide) only [sI_pI_ne]; exact r2, by simp (disch := first | omega | decide) only [sI_pI_ne]; exact r3⟩, fun j hj => ?_⟩
      by_cases e2 : j = c
      · subst e2
        unfold ND
        refine ⟨⟨?_, ?_, ?_, ?_, ?_, ?_, ?_⟩, ?_⟩ <;> first | (simp (disch := first | omega | decide) only [sI_pI_ne, sI_pI_eq]; done) | (simp (disch := first | omega | decide) only [sI_pI_ne, sI_pI_eq]; rfl)
      · have r := r4 j (by omega)
        unfold ND at r ⊢
        simp (disch := first | omega | decide) only [sI_pI_ne]
        exact r
end RU
