/-! ===== level 2: a day, and pass ===== -/
theorem lpSB {α β : Type} {N s0 : Nat} {R : Nat → α → β → Prop} {B : Int32 → α → β → (Int32 → α → β → Prop) → Prop} {a0 : α} {b0 : β} {x0 : Int32} (hx : x0 = Int32.ofNat s0) (hs : s0 ≤ N) (h0 : R s0 a0 b0) (step : ∀ i, i ≤ N → ∀ a b, R i a b → ∀ K : Int32 → α → β → Prop, (i < N → ∀ a' b', R (i + 1) a' b' → K (Int32.ofNat (i + 1)) a' b') → B (Int32.ofNat i) a b K) : ∃ I : Nat → Int32 → α → β → Prop, (∃ n, I n x0 a0 b0) ∧ ∀ (n : Nat) (x : Int32) (a : α) (b : β), I n x a b → B x a b (fun x a b => ∃ n', n' < n ∧ I n' x a b) := by
  refine ⟨fun n x a b => ∃ i, i ≤ N ∧ n = N - i ∧ x = Int32.ofNat i ∧ R i a b, ⟨N - s0, s0, hs, rfl, hx, h0⟩, ?_⟩
  rintro n x a b ⟨i, hi, rfl, rfl, hr⟩
  exact step i hi a b hr _ (fun hl a' b' h' => ⟨N - (i + 1), by omega, i + 1, by omega, rfl, rfl, h'⟩)
noncomputable def bedsM (S2 : Sg) (o : Option Nat) (td : Nat) : Nat → Sg
  | 0 => S2
  | c + 1 => if sI (bedsM S2 o td c) 1112 c = 0 then bedsM S2 o td c else agesM (bedsM S2 o td c) o td c
def fiveN (S2 : Sg) (r : Nat) : Int32 := if sI S2 1129 r < 5 then sI S2 1129 r else 5
def roofM (S2 : Sg) (r : Nat) : Sg := pL (pI S2 1129 r (sI S2 1129 r - fiveN S2 r)) 1000 39 (sL S2 1000 39 + (fiveN S2 r).toInt64)
def roofsM (S2 : Sg) : Nat → Sg
  | 0 => S2
  | r + 1 => roofM (roofsM S2 r) r
def tWhen (S2 : Sg) (nC td p : Nat) : Prop := (sI S2 1170 p = 30 ∧ ¬ 10 ≤ sI S2 1171 p ∧ ¬ Int32.ofNat nC ≤ sI S2 1172 p ∧ ¬ Int32.ofNat td < sI S2 1174 p ∧ ((Int32.ofNat td - sI S2 1174 p) - (Int32.ofNat td - sI S2 1174 p) / sI S2 1173 p * sI S2 1173 p) = 0) ∧ ¬ sI S2 1112 (sI S2 1172 p).toNatClampNeg = 0
def tDo (S2 : Sg) (o : Option Nat) (td p : Nat) : Sg := if sI S2 1124 (11 * (sI S2 1172 p).toNatClampNeg + (sI S2 1171 p).toNatClampNeg) = Int32.ofNat td then pI S2 1134 (10 * (td / 365) + (sI S2 1171 p).toNatClampNeg) (sI S2 1134 (10 * (td / 365) + (sI S2 1171 p).toNatClampNeg) + 1) else pI S2 1133 (sI S2 1171 p).toNatClampNeg (sI S2 1133 (sI S2 1171 p).toNatClampNeg + lawV S2 o 3)
noncomputable def turnM (S2 : Sg) (o : Option Nat) (nC td p : Nat) : Sg := @ite Sg (tWhen S2 nC td p) (Classical.propDecidable _) (tDo S2 o td p) S2
noncomputable def turnsM (S2 : Sg) (o : Option Nat) (nC td r : Nat) : Nat → Sg
  | 0 => S2
  | s + 1 => turnM (turnsM S2 o nC td r s) o nC td (24 * r + s)
noncomputable def turnsO (S2 : Sg) (nC td : Nat) : Option Nat → Sg
  | none => S2
  | some r => turnsM S2 (some r) nC td r (sI S2 1168 r).toNatClampNeg
def GD (M : Sg) (nC nR nT nL nM nP td : Nat) (lh : Nat → Nat) : Prop := ∃ S nK N, IV S M nC nR nT nK nL nM nP td N lh
section DY
variable {S S2 : Sg} {nC nR nT nK nL nM nP td N : Nat} {lh : Nat → Nat} {o : Option Nat} {c : Nat}
theorem bedsM_s {c : Nat} : bedsM S2 o td (c + 1) = if sI (bedsM S2 o td c) 1112 c = 0 then bedsM S2 o td c else agesM (bedsM S2 o td c) o td c := rfl
theorem cntK_beds : ∀ {n : Nat}, ∀ c, c ≤ n → cntK (bedsM S2 o td c) ≤ cntK (bedsM S2 o td n)
  | 0, c, h => by
    have e : c = 0 := by omega
    subst e; exact Nat.le_refl _
  | n + 1, c, h => by
    rcases Nat.lt_or_ge n c with w | w
    · have e : c = n + 1 := by omega
      subst e; exact Nat.le_refl _
    · have h1 := cntK_beds c w
      rw [bedsM_s]
      split
      · exact h1
      · exact Nat.le_trans h1 cntK_ages
theorem x_beds {b : Nat × Nat} {Q : Unit → Sg → Prop} (h : IV S S2 nC nR nT nK nL nM nP td N lh) (hr : ∀ j, o = some j → j < nL) (hb1 : 2 * (cntK (bedsM S2 o td nC) - nK) ≤ b.1) (hb2 : 136 * (cntK (bedsM S2 o td nC) - nK) ≤ b.2) (k : ∀ S' nK' N' b', IV S' (bedsM S2 o td nC) nC nR nT nK' nL nM nP td N' lh → (∀ i, i ≤ nC → GD (bedsM S2 o td i) nC nR nT nL nM nP td lh) → P_X10_goBy_L106 1000 (some (lawH lh o)) 0 S' b' Q) : P_X10_goBy_L11 1000 (some (lawH lh o)) (Int32.ofNat (td % 365)) 0 S b Q := by
  unfold P_X10_goBy_L11
  refine lpSB (N := nC) (s0 := 0) (R := fun j σ b => ∃ nKj Nj, IV σ (bedsM S2 o td j) nC nR nT nKj nL nM nP td Nj lh ∧ 2 * (cntK (bedsM S2 o td nC) - nKj) ≤ b.1 ∧ 136 * (cntK (bedsM S2 o td nC) - nKj) ≤ b.2 ∧ ∀ i, i ≤ j → GD (bedsM S2 o td i) nC nR nT nL nM nP td lh) (B := fun x σ b K => P_X10_goBy_L11b 1000 (some (lawH lh o)) (Int32.ofNat (td % 365)) x σ b Q K) rfl (Nat.zero_le _) ⟨nK, N, h, hb1, hb2, fun i hi => ?_⟩ (fun j hj σ b hR K hK => ?_)
  · have e : i = 0 := by omega
    subst e; exact ⟨S, nK, N, h⟩
  obtain ⟨nKj, Nj, hj0, c1, c2, c3⟩ := hR
  by_cases e : j = nC
  · subst e
    have hj1 := hj0
    obtain ⟨tk, tM, tS, tU, tA, tW2, tB, tC, tR, tT, tK, tL, tZ, tP, tN⟩ := hj0
    unfold P_X10_goBy_L11b
    refine ⟨tS.1.1, 1001, tS.1.2.1, tC.1.1, p_size tC.1 ⟨fun _ => k σ nKj Nj _ hj1 c3, fun z => absurd (Int32.le_refl _) z⟩⟩
  · have hlt : j < nC := by omega
    have ck := cntK_e hj0.2.2.2.2.2.2.2.2.2.2.1
    have mono := cntK_beds (S2 := S2) (o := o) (td := td) (n := nC) (j + 1) (by omega)
    have hE := bedsM_s (S2 := S2) (o := o) (td := td) (c := j)
    by_cases hb : sI (bedsM S2 o td j) 1112 j = 0
    · rw [if_pos hb] at hE
      refine x_bedDay (b := b) hj0 hlt hr (fun z => absurd hb z) (fun _ => hK hlt _ _ ⟨nKj, Nj, by rw [hE]; exact hj0, c1, c2, fun i hi => ?_⟩) (fun z => absurd hb z)
      · rcases Nat.lt_or_ge j i with w | w
        · have : i = j + 1 := by omega
          subst this; rw [hE]; exact c3 j (Nat.le_refl _)
        · exact c3 i w
    · rw [if_neg hb] at hE
      rw [hE] at mono
      refine x_bedDay (b := b) hj0 hlt hr (fun _ => ⟨by omega, by omega⟩) (fun z => absurd z hb) (fun _ S' nK' N' b' hS' d1 d2 => hK hlt _ _ ⟨nK', N', by rw [hE]; exact hS', ?_, ?_, fun i hi => ?_⟩)
      · have ck2 := cntK_e hS'.2.2.2.2.2.2.2.2.2.2.1
        have ck3 := cntK_ages (S2 := bedsM S2 o td j) (o := o) (td := td) (c := j)
        omega
      · have ck2 := cntK_e hS'.2.2.2.2.2.2.2.2.2.2.1
        have ck3 := cntK_ages (S2 := bedsM S2 o td j) (o := o) (td := td) (c := j)
        omega
      · rcases Nat.lt_or_ge j i with w | w
        · have : i = j + 1 := by omega
          subst this; rw [hE]; exact ⟨S', nK', N', hS'⟩
        · exact c3 i w
/-! roofs -/
theorem n_min5 {a : Nat} (ha : a < 2147483648) : (if Int32.ofNat a < 5 then Int32.ofNat a else 5) = Int32.ofNat (min a 5) := by
  by_cases l : Int32.ofNat a < 5
  · rw [if_pos l]
    have l2 : a < 5 := (nl_lt (k := 5) (by omega) ha).mp l
    rw [Nat.min_eq_left (by omega)]
  · rw [if_neg l]
    have l2 : ¬ a < 5 := fun z => l ((nl_lt (k := 5) (by omega) ha).mpr z)
    rw [Nat.min_eq_right (by omega)]; rfl
theorem iv_give {r : Nat} (h : IV S S2 nC nR nT nK nL nM nP td N lh) (hr : r < nR) : IV (pL (pI S (4000 + r) 4 (sI S2 1129 r - fiveN S2 r)) 1054 5 (sL S 1054 5 + (fiveN S2 r).toInt64)) (roofM S2 r) nC nR nT nK nL nM nP td N lh := by
  have h0 := h
  obtain ⟨hk, hM, hS, hU, hA, hW, hB, hC, hR, hT, hK, hL, hZ, hP, hN⟩ := h
  obtain ⟨-, -, ⟨a, b, a1, b1, ha, hb⟩, -⟩ := hR.2.2.2.2.2 r hr
  have e : sI S2 1129 r - fiveN S2 r = Int32.ofNat (a - min a 5) := by
    unfold fiveN
    rw [ha, n_min5 (by omega), ← Int32.ofNat_sub _ _ (by omega)]
  have h1 := iv_roof (r := r) (a := a - min a 5) h0 hr ⟨a, by omega, by omega, ha⟩
  rw [← e] at h1
  exact iv_used (d := (fiveN S2 r).toInt64) h1
theorem x_roofs {b : Nat × Nat} {v1 : Option Nat} {Q : Unit → Sg → Prop} (h : IV S S2 nC nR nT nK nL nM nP td N lh) (k : ∀ S', IV S' (roofsM S2 nR) nC nR nT nK nL nM nP td N lh → (∀ i, i ≤ nR → GD (roofsM S2 i) nC nR nT nL nM nP td lh) → P_X10_goBy_L149 1000 v1 0 S' (b.1, b.2) Q) : P_X10_goBy_L106 1000 v1 0 S b Q := by
  unfold P_X10_goBy_L106
  refine lpS (N := nR) (s0 := 0) (R := fun j σ => IV σ (roofsM S2 j) nC nR nT nK nL nM nP td N lh ∧ ∀ i, i ≤ j → GD (roofsM S2 i) nC nR nT nL nM nP td lh) (B := fun x σ K => P_X10_goBy_L106b 1000 v1 x σ b Q K) rfl (Nat.zero_le _) ⟨h, fun i hi => ?_⟩ (fun j hj σ hR K hK => ?_)
  · have e : i = 0 := by omega
    subst e; exact ⟨S, nK, N, h⟩
  obtain ⟨hj0, hall⟩ := hR
  have hj1 := hj0
  obtain ⟨tk, tM, tS, tU, tA, tW2, tB, tC, tR, tT, tK, tL, tZ, tP, tN⟩ := hj0
  unfold P_X10_goBy_L106b
  refine ⟨tS.1.1, 1002, tS.1.2.2.1, tR.1.1, p_size tR.1 ⟨fun e => ?_, fun e => ?_⟩⟩
  · have hn := tR.2.1
    rw [nn_le (by omega) (by omega)] at e
    have e2 : j = nR := by omega
    subst e2; exact k σ hj1 hall
  · have hn := tR.2.1
    rw [nn_le (by omega) (by omega)] at e
    have hlt : j < nR := by omega
    have cj := tR.2.2.2.1 j hlt
    have o2 := tS.2.1
    have l5 : (5 : Int32).toNatClampNeg = 5 := by decide
    have v5 : vp_in 5 (sN σ 1054) := by
      simp (disch := first | omega | decide) only [Option.some.injEq, exists_eq_left', exists_eq_left, forall_eq, forall_eq', true_and, and_true, true_implies, implies_true, false_implies, not_true_eq_false, not_false_eq_true, reduceCtorEq, and_self, forall_const, i10, i01, if_true, if_false, and_false, false_and, Nat.not_lt_zero, sK_pI, sN_pI, sR_pI, sL_pI, sK_pL, sN_pL, sR_pL, sI_pL, sK_pR, sN_pR, sI_pR, sL_pR, sI_pI_eq, sI_pI_ne, sL_pL_eq, sL_pL_ne, sR_pR_eq, sR_pR_ne, nn_le, nat32_lt, nn_eq, ln_le, nl_le, ln_lt, nl_lt, ln_eq, nl_eq, n_m1, n_lt0, vp_n, vp_l, lc_n, nat32c, n_s, nI_n, o2]
      omega
    rw [l5]
    refine ⟨1054, tS.1.2.2.2.2.2.2.2.2.2.2.2.2.2.2, o2.2.2.2.2.2.2.2.2.2.2.2.2.2.2.2.2.2.2.2.2.2.2.2.1, v5, 1002, tS.1.2.2.1, tR.1.1, p_get tR.1 hlt ⟨_, rfl, cj.1, ?_⟩⟩
    unfold P_X6_give
    rw [cj.2.2.2.2.2.1]
    refine ⟨cj.1, fun x2 hx2 s1 e1 => ⟨by rw [e1]; exact v5, fun s2 e2 x hx => ?_⟩⟩
    have hx2 : x2 = fiveN (roofsM S2 j) j := hx2
    have g := iv_give hj1 hlt
    rw [hx, n_s]
    have e2 : s2 = pL (pI σ (4000 + j) 4 (sI (roofsM S2 j) 1129 j - fiveN (roofsM S2 j) j)) 1054 5 (sL σ 1054 5 + (fiveN (roofsM S2 j) j).toInt64) := by rw [e2, e1, hx2]
    rw [← e2] at g
    refine hK hlt _ ⟨g, fun i hi => ?_⟩
    rcases Nat.lt_or_ge j i with w | w
    · have : i = j + 1 := by omega
      subst this; exact ⟨s2, nK, N, g⟩
    · exact hall i w
/-! turns -/
theorem turnM_law {p q : Nat} {M : Sg} (x : Nat) (h1 : 1168 ≤ x) (h2 : x ≤ 1174) : vw (turnM M o nC q p) x = vw M x := by
  unfold turnM
  split
  · unfold tDo
    split
    · simp (disch := first | omega | decide) only [vw_pI]
    · simp (disch := first | omega | decide) only [vw_pI]
  · rfl
theorem turnsM_law {r : Nat} (x : Nat) (h1 : 1168 ≤ x) (h2 : x ≤ 1174) : ∀ s, vw (turnsM S2 o nC td r s) x = vw S2 x
  | 0 => rfl
  | s + 1 => (turnM_law x h1 h2).trans (turnsM_law x h1 h2 s)
theorem turnsM_skip {r s : Nat} (h : ¬ sI S2 1170 (24 * r + s) = 30) : turnsM S2 o nC td r (s + 1) = turnsM S2 o nC td r s := by
  show turnM (turnsM S2 o nC td r s) o nC td (24 * r + s) = _
  unfold turnM
  rw [if_neg]
  rintro ⟨⟨z, -⟩, -⟩
  rw [vwI (turnsM_law 1170 (by omega) (by omega) s)] at z
  exact h z
theorem turnsM_skips {r s : Nat} : ∀ {n : Nat}, s ≤ n → tcn S2 r n = tcn S2 r s → turnsM S2 o nC td r n = turnsM S2 o nC td r s
  | 0, h, _ => by
    have e : s = 0 := by omega
    subst e; rfl
  | n + 1, h, e => by
    rcases Nat.lt_or_ge n s with w | w
    · have e : s = n + 1 := by omega
      subst e; rfl
    · have m1 := tcn_mono (S2 := S2) (r := r) w
      rw [tcn_s] at e
      by_cases c : sI S2 1170 (24 * r + n) = 30
      · rw [if_pos c] at e; omega
      · rw [if_neg c] at e
        rw [turnsM_skip c]
        exact turnsM_skips w (by omega)
theorem x_settle {q p : Nat} {Q : Unit → Sg → Prop} (h : IV S S2 nC nR nT nK nL nM nP td N lh) (t : turnE S S2 q p) (hs : sI S2 1170 p = 30) (k : ∀ S', IV S' (turnM S2 o nC td p) nC nR nT nK nL nM nP td N lh → Q () S') : P_X10_settle 1000 (some q) (lawV S2 o 3) S Q := by
  have h0 := h
  obtain ⟨hk, hM, hS, hU, hA, hW, hB, hC, hR, hT, hK, hL, hZ, hP, hN⟩ := h
  have hn := hC.2.1
  have htd := hZ.2.2.2.2.2.1
  obtain ⟨t1, t2, t3, t4, t5, t6, ⟨n, -, n2, e1⟩, ⟨c, -, c2, e2⟩, ⟨ev, ev1, ev2, e3⟩, t10⟩ := t
  have t : turnE S S2 q p := ⟨t1, t2, t3, t4, t5, t6, ⟨n, by omega, n2, e1⟩, ⟨c, by omega, c2, e2⟩, ⟨ev, ev1, ev2, e3⟩, t10⟩
  have same : ¬ tWhen S2 nC td p → Q () S := fun z => by
    unfold turnM at k
    rw [if_neg z] at k
    exact k S h0
  unfold tWhen at same
  rw [e1, e2, nat32c (by omega)] at same
  have z4 := hZ.2.2.2.1
  unfold P_X10_settle
  refine ⟨q, rfl, t1, hS.1.1, ?_⟩
  rw [t3, t4, e1, e2, z4]
  by_cases hc : c < nC
  · by_cases hb : sI S2 1112 c = 0
    · rw [bedAt_n hS hC hc hb]
      exact fun x _ => ⟨fun _ => same (fun z => z.2 hb), fun c8 h8 => by cases h8⟩
    · obtain ⟨be, bb⟩ := (hB c (by omega)).2.2.2 hb
      rw [bedAt_y hS hC hc hb]
      intro x6 hx6
      have hx6 : x6 = Int32.ofNat (td / 365) := by rw [hx6]; exact n_divl (k := 365) (by omega) (by omega)
      subst hx6
      refine And.intro (fun z => absurd z (by simp)) (fun c8 h8 => ?_)
      cases h8
      refine (fallsOn_e t).mpr ⟨fun f => ⟨fun z => absurd z (by decide), fun _ => within_e.mpr ⟨fun w => ?_, fun w => within_e.mpr ⟨fun y => ?_, fun _ => ⟨be.1, ?_⟩⟩⟩⟩, fun f => ⟨fun _ => same (fun z => f z.1.2.2.2), fun z => absurd rfl z⟩⟩
      · refine same (fun z => ?_)
        have : n ≤ 9 := by
          have := z.1.2.1
          rw [show (10 : Int32) ≤ Int32.ofNat n ↔ 10 ≤ n from ln_le (k := 10) (by omega) (by omega)] at this
          omega
        rw [show inn (Int32.ofNat n) 0 9 = 1 from inn_l (lo := 0) (hi := 9) (by omega) (by omega) (by omega) this] at w
        exact absurd w (by decide)
      · rw [show inn (Int32.ofNat (td / 365)) 0 9 = 1 from inn_l (lo := 0) (hi := 9) (by omega) (by omega) (by omega) (by omega)] at y
        exact absurd y (by decide)
      · obtain ⟨n', -, n3, en⟩ := inn_rg (lo := 0) (hi := 9) (by omega) (by omega) w
        rw [nn_eq (by omega) (by omega)] at en
        subst en
        have hn10 : n < 10 := by omega
        have hn11 : n < 11 := by omega
        have hy10 : td / 365 < 10 := by omega
        have yes : tWhen S2 nC td p := by
          unfold tWhen
          rw [e1, e2, nat32c (by omega)]
          refine ⟨⟨hs, ?_, ?_, f⟩, hb⟩
          · rw [show (10 : Int32) ≤ Int32.ofNat n ↔ 10 ≤ n from ln_le (k := 10) (by omega) (by omega)]; omega
          · rw [nn_le (by omega) (by omega)]; omega
        unfold turnM at k
        rw [if_pos yes] at k
        unfold tDo at k
        rw [e1, e2, nat32c (by omega), nat32c (by omega)] at k
        have bk := be.2.2.2.2.2.2.2.2.2.2.2.2.2.2.2 n hn11
        have g3 := hS.2.2.1 n hn10
        unfold P_X0_wasCaredBy P_X0_wasCaredBy_B24
        have w10 : inn (Int32.ofNat n) 0 10 = 1 := inn_l (lo := 0) (hi := 10) (by omega) (by omega) (by omega) (by omega)
        by_cases cr : sI S2 1124 (11 * c + n) = Int32.ofNat td
        · rw [if_pos cr] at k
          rw [← hW.2 n (td / 365) hn10 hy10] at k
          have k2 := k _ (iv_kept h0 hn10 hy10)
          simp (disch := first | omega | decide) only [Option.some.injEq, exists_eq_left', exists_eq_left, forall_eq, forall_eq', true_and, and_true, true_implies, implies_true, false_implies, not_true_eq_false, not_false_eq_true, reduceCtorEq, and_self, forall_const, i10, i01, if_true, if_false, and_false, false_and, Nat.not_lt_zero, sK_pI, sN_pI, sR_pI, sL_pI, sK_pL, sN_pL, sR_pL, sI_pL, sK_pR, sN_pR, sI_pR, sL_pR, sI_pI_eq, sI_pI_ne, sL_pL_eq, sL_pL_ne, sR_pR_eq, sR_pR_ne, nn_le, nat32_lt, nn_eq, ln_le, nl_le, ln_lt, nl_lt, ln_eq, nl_eq, n_m1, n_lt0, vp_n, vp_l, lc_n, nat32c, n_s, nI_n, within_e, w10, be, bk, cr, hn11, hS.1, hS.2.1, g3, hn10, hy10]
          exact k2
        · rw [if_neg cr] at k
          rw [← hW.1 n hn10] at k
          have k2 := k _ (iv_owe h0 hn10)
          simp (disch := first | omega | decide) only [Option.some.injEq, exists_eq_left', exists_eq_left, forall_eq, forall_eq', true_and, and_true, true_implies, implies_true, false_implies, not_true_eq_false, not_false_eq_true, reduceCtorEq, and_self, forall_const, i10, i01, if_true, if_false, and_false, false_and, Nat.not_lt_zero, sK_pI, sN_pI, sR_pI, sL_pI, sK_pL, sN_pL, sR_pL, sI_pL, sK_pR, sN_pR, sI_pR, sL_pR, sI_pI_eq, sI_pI_ne, sL_pL_eq, sL_pL_ne, sR_pR_eq, sR_pR_ne, nn_le, nat32_lt, nn_eq, ln_le, nl_le, ln_lt, nl_lt, ln_eq, nl_eq, n_m1, n_lt0, vp_n, vp_l, lc_n, nat32c, n_s, nI_n, within_e, w10, be, bk, cr, hn11, hS.1, hS.2.1, hn10]
          exact k2
  · rw [bedAt_0 hS hC (fun ⟨i, hi, he⟩ => hc (by rw [nn_eq (by omega) (by omega)] at he; omega))]
    refine fun x _ => ⟨fun _ => same (fun z => ?_), fun c8 h8 => by cases h8⟩
    have := z.1.2.2.1
    rw [nn_le (by omega) (by omega)] at this
    omega
theorem x_turns {b : Nat × Nat} {Q : Unit → Sg → Prop} (h : IV S S2 nC nR nT nK nL nM nP td N lh) (hr : ∀ j, o = some j → j < nL) (k : ∀ S', IV S' (turnsO S2 nC td o) nC nR nT nK nL nM nP td N lh → (∀ r, o = some r → ∀ s, s ≤ (sI S2 1168 r).toNatClampNeg → GD (turnsM S2 (some r) nC td r s) nC nR nT nL nM nP td lh) → Q () S') : P_X10_goBy_L149 1000 (some (lawH lh o)) 0 S b Q := by
  unfold P_X10_goBy_L149
  cases o with
  | none =>
    have h0 := h
    obtain ⟨hk, hM, hS, hU, hA, hW, hB, hC, hR, hT, hK, hL, hZ, hP, hN⟩ := h
    obtain ⟨q, ro, th, l1, l2, l3, l4, l5⟩ := law_list hS hL hr
    have hk := lawH_k hS hL hr
    refine lpS (N := 0) (s0 := 0) (R := fun j σ => σ = S) (B := fun x σ K => P_X10_goBy_L149b 1000 (some (lawH lh none)) x σ b Q K) rfl (Nat.zero_le _) rfl (fun j hj σ hR K hK => ?_)
    have e : j = 0 := by omega
    subst e; subst hR
    unfold P_X10_goBy_L149b
    exact ⟨_, rfl, hk, q, l1, l2.1, p_size l2 ⟨fun _ => k σ h0 (fun r hr => by cases hr), fun z => absurd (Int32.le_refl _) z⟩⟩
  | some r =>
    have h0 := h
    have hlt := hr r rfl
    obtain ⟨-, st, s1, s2, -⟩ := h.2.2.2.2.2.2.2.2.2.2.2.1.2.2.2 r hlt
    have hnL := h.2.2.2.2.2.2.2.2.2.2.2.1.2.1
    replace k : ∀ S', IV S' (turnsM S2 (some r) nC td r (sI S2 1168 r).toNatClampNeg) nC nR nT nK nL nM nP td N lh → (∀ r', some r = some r' → ∀ s, s ≤ (sI S2 1168 r').toNatClampNeg → GD (turnsM S2 (some r') nC td r' s) nC nR nT nL nM nP td lh) → Q () S' := k
    rw [s2, nat32c (by omega)] at k
    have ht24 : tcn S2 r st ≤ 24 := Nat.le_trans tcn_le s1
    refine lpS (N := tcn S2 r st) (s0 := 0) (R := fun j σ => ∃ s, s ≤ st ∧ tcn S2 r s = j ∧ IV σ (turnsM S2 (some r) nC td r s) nC nR nT nK nL nM nP td N lh ∧ ∀ i, i ≤ s → GD (turnsM S2 (some r) nC td r i) nC nR nT nL nM nP td lh) (B := fun x σ K => P_X10_goBy_L149b 1000 (some (lawH lh (some r))) x σ b Q K) rfl (Nat.zero_le _) ⟨0, Nat.zero_le _, rfl, h, fun i hi => ?_⟩ (fun j hj σ hR K hK => ?_)
    · have e : i = 0 := by omega
      subst e; exact ⟨S, nK, N, h⟩
    obtain ⟨s, hs, hsj, hj0, hall⟩ := hR
    have hj1 := hj0
    obtain ⟨tk, tM, tS, tU, tA, tW2, tB, tC, tR, tT, tK, tL, tZ, tP, tN⟩ := hj0
    obtain ⟨q, ro, th, l1, l2, l3, l4, l5⟩ := law_list tS tL hr
    have hk := lawH_k tS tL hr
    obtain ⟨st', s1', s2', s3', s4'⟩ := l5 r rfl
    rw [vwI (turnsM_law 1168 (by omega) (by omega) s), s2, nn_eq (by omega) (by omega)] at s2'
    subst s2'
    have ek : ∀ i, tcn (turnsM S2 (some r) nC td r s) r i = tcn S2 r i := fun i => tcn_keep (fun j _ => by rw [vwI (turnsM_law 1170 (by omega) (by omega) s)])
    rw [ek] at s3'
    rw [s3'] at l2
    unfold P_X10_goBy_L149b
    refine ⟨_, rfl, hk, q, l1, l2.1, p_size l2 ⟨fun e => ?_, fun e => ?_⟩⟩
    · rw [nn_le (by omega) (by omega)] at e
      have ej : tcn S2 r st = tcn S2 r s := by omega
      have es := turnsM_skips (S2 := S2) (o := some r) (nC := nC) (td := td) hs ej
      refine k σ (by rw [es]; exact hj1) (fun r' hr' i hi => ?_)
      cases hr'
      rw [s2, nat32c (by omega)] at hi
      rcases Nat.lt_or_ge s i with w | w
      · have m1 := tcn_mono (S2 := S2) (r := r) (s := s) (n := i) (by omega)
        have m2 := tcn_mono (S2 := S2) (r := r) hi
        rw [turnsM_skips (S2 := S2) (o := some r) (nC := nC) (td := td) (s := s) (n := i) (by omega) (by omega)]
        exact hall s (Nat.le_refl _)
      · exact hall i w
    · rw [nn_le (by omega) (by omega)] at e
      have hlt2 : j < tcn S2 r st := by omega
      obtain ⟨p, p1, p2, p3⟩ := tcn_inv hlt2
      have hsp : s ≤ p := by
        rcases Nat.lt_or_ge p s with w | w
        · have := tcn_lt (S2 := S2) (r := r) w p2
          omega
        · exact w
      have es : turnsM S2 (some r) nC td r p = turnsM S2 (some r) nC td r s := turnsM_skips hsp (by omega)
      have t := s4' p p1 (by rw [vwI (turnsM_law 1170 (by omega) (by omega) s)]; exact p2)
      rw [ek, p3] at t
      refine ⟨q, l1, l2.1, p_get l2 hlt2 ⟨_, rfl, t.1, (value_l (w := 3) tS tL hr (by omega)).mpr ⟨tS.1.1, x_settle hj1 t (by rw [vwI (turnsM_law 1170 (by omega) (by omega) s)]; exact p2) (fun S' hS' x hx => ?_)⟩⟩⟩
      rw [hx, n_s]
      have e1 : turnM (turnsM S2 (some r) nC td r s) (some r) nC td (24 * r + p) = turnsM S2 (some r) nC td r (p + 1) := by rw [← es]; rfl
      rw [e1] at hS'
      refine hK hlt2 _ ⟨p + 1, by omega, by rw [tcn_s, if_pos p2]; omega, hS', fun i hi => ?_⟩
      rcases Nat.lt_or_ge p i with w | w
      · have : i = p + 1 := by omega
        subst this; exact ⟨S', nK, N, hS'⟩
      · rcases Nat.lt_or_ge s i with w2 | w2
        · have m1 := tcn_mono (S2 := S2) (r := r) (s := s) (n := i) (by omega)
          have m2 := tcn_mono (S2 := S2) (r := r) w
          rw [turnsM_skips (S2 := S2) (o := some r) (nC := nC) (td := td) (s := s) (n := i) (by omega) (by omega)]
          exact hall s (Nat.le_refl _)
        · exact hall i w2
end DY
