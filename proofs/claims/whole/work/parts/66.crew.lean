/-! ===== level 2: crew ===== -/
def gnF (S2 : Sg) (c : Nat) : Int32 := if sI S2 1112 c = 0 then 0 else full S2 c * (100 - (if (0 : Int32) < sI S2 1118 c - 30 then sI S2 1118 c - 30 else 0)) / 100 - full S2 c * (100 - sI S2 1118 c) / 100
def gst (S2 : Sg) (s c : Nat) : Int32 := if isnw (Int32.ofNat s) c then gnF S2 c else 0
def lastF (s : Nat) : Nat → Nat
  | 0 => 0
  | c + 1 => if isnw (Int32.ofNat s) c then c else lastF s c
def hN (nC s : Nat) : Nat := lastF s nC + 2 * pcn s
def allB (S2 : Sg) (nC s : Nat) : Prop := ∀ c, c < nC → isnw (Int32.ofNat s) c → ¬ sI S2 1112 c = 0
def tkR (S2 : Sg) (nC : Nat) (h : Int32) (s : Nat) (m : Int32) : Prop := allB S2 nC s ∧ ¬ h < Int32.ofNat (hN nC s) ∧ m < sm (gst S2 s) nC
noncomputable def cF (S2 : Sg) (nC : Nat) (h : Int32) : Nat → Nat × Int32
  | 0 => (0, 0)
  | s + 1 => @ite _ (1 ≤ s ∧ tkR S2 nC h s (cF S2 nC h s).2) (Classical.propDecidable _) (s, sm (gst S2 s) nC) (cF S2 nC h s)
theorem lastF_le {s : Nat} : ∀ c, lastF s c ≤ c
  | 0 => Nat.le_refl _
  | c + 1 => by
    have := lastF_le (s := s) c
    unfold lastF
    split <;> omega
theorem su_shift {g : Nat → Nat} : ∀ {n : Nat}, su g (n + 1) = g 0 + su (fun j => g (j + 1)) n
  | 0 => by show 0 + g 0 = g 0 + 0; omega
  | n + 1 => by
    show su g (n + 1) + g (n + 1) = g 0 + (su (fun j => g (j + 1)) n + g (n + 1))
    rw [su_shift]; omega
theorem pc_su : ∀ {f s : Nat}, pc f s = su (fun j => if s.testBit j = true then 1 else 0) f
  | 0, s => rfl
  | f + 1, s => by
    show s % 2 + pc f (s / 2) = _
    rw [su_shift, pc_su (f := f) (s := s / 2)]
    congr 1
    · rw [Nat.testBit_zero]
      by_cases e : s % 2 = 1
      · simp [e]
      · have : s % 2 = 0 := by omega
        simp [this]
    · refine su_congr (fun j _ => ?_)
      rw [Nat.testBit_succ]
theorem su_mono {f g : Nat → Nat} : ∀ {n : Nat}, (∀ i, i < n → f i ≤ g i) → su f n ≤ su g n
  | 0, _ => Nat.le_refl _
  | n + 1, h => by
    show su f n + f n ≤ su g n + g n
    have := su_mono (f := f) (g := g) (n := n) (fun i hi => h i (by omega))
    have := h n (by omega)
    omega
/-- a corner taken out of a set -/
theorem out_t {s c j : Nat} : (s ^^^ 2 ^ c).testBit j = (s.testBit j ^^ decide (c = j)) := by
  rw [Nat.testBit_xor, Nat.testBit_two_pow]
theorem tb_lt : ∀ (c : Nat) {x y : Nat}, x.testBit c = false → y.testBit c = true → (∀ j, c < j → x.testBit j = y.testBit j) → x < y
  | 0, x, y, h1, h2, h3 => by
    have e : x / 2 = y / 2 := Nat.eq_of_testBit_eq (fun j => by
      rw [← Nat.testBit_succ, ← Nat.testBit_succ]; exact h3 _ (Nat.succ_pos j))
    rw [Nat.testBit_zero] at h1 h2
    have h1 := of_decide_eq_false h1
    have h2 := of_decide_eq_true h2
    omega
  | c + 1, x, y, h1, h2, h3 => by
    rw [Nat.testBit_succ] at h1 h2
    have := tb_lt c h1 h2 (fun j hj => by
      rw [← Nat.testBit_succ, ← Nat.testBit_succ]; exact h3 _ (Nat.succ_lt_succ hj))
    omega
theorem out_lt {s c : Nat} (h : s.testBit c = true) : s ^^^ 2 ^ c < s := by
  refine tb_lt c ?_ h (fun j hj => ?_)
  · rw [out_t, h]; simp
  · rw [out_t]
    have : ¬ c = j := by omega
    simp [this]
section CR
variable {S S2 T U : Sg} {nC nR nT nK nL nM nP td N : Nat} {lh : Nat → Nat}
theorem out_i {s c j : Nat} (hj : j < 12) : isnw (Int32.ofNat (s ^^^ 2 ^ c)) j ↔ isnw (Int32.ofNat s) j ∧ ¬ j = c ∨ ¬ isnw (Int32.ofNat s) j ∧ j = c := by
  rw [isnw_t (by omega), isnw_t (by omega), out_t]
  by_cases e : c = j
  · subst e; cases s.testBit c <;> simp
  · have : ¬ j = c := fun q => e q.symm
    cases s.testBit j <;> simp [e, this]
theorem out_g {s c : Nat} (h12 : nC ≤ 12) (hc : c < nC) (hb : isnw (Int32.ofNat s) c) (h0 : sI S2 1112 c = 0) : sm (gst S2 (s ^^^ 2 ^ c)) nC = sm (gst S2 s) nC := by
  refine sm_congr (fun j hj => ?_)
  have g0 : gnF S2 c = 0 := if_pos h0
  unfold gst
  by_cases e : j = c
  · subst e
    rw [if_pos hb, g0]
    split <;> rfl
  · have : isnw (Int32.ofNat (s ^^^ 2 ^ c)) j ↔ isnw (Int32.ofNat s) j := by
      rw [out_i (by omega)]
      exact ⟨fun q => by rcases q with q | q; exact q.1; exact absurd q.2 e, fun q => Or.inl ⟨q, e⟩⟩
    by_cases q : isnw (Int32.ofNat s) j
    · rw [if_pos q, if_pos (this.mpr q)]
    · rw [if_neg q, if_neg (fun z => q (this.mp z))]
theorem out_h {s c : Nat} (h12 : nC ≤ 12) (hc : c < nC) (hb : isnw (Int32.ofNat s) c) : hN nC (s ^^^ 2 ^ c) ≤ hN nC s := by
  have l : ∀ n, n ≤ 12 → lastF (s ^^^ 2 ^ c) n ≤ lastF s n := fun n => by
    induction n with
    | zero => exact fun _ => Nat.le_refl _
    | succ n ih =>
      intro hn
      have i := ih (by omega)
      have m := lastF_le (s := s ^^^ 2 ^ c) n
      unfold lastF
      by_cases q : isnw (Int32.ofNat (s ^^^ 2 ^ c)) n
      · rw [if_pos q]
        rcases (out_i (by omega)).mp q with w | w
        · rw [if_pos w.1]; exact Nat.le_refl _
        · rw [w.2] at w; exact absurd hb w.1
      · rw [if_neg q]
        split
        · exact m
        · exact i
  have p : pcn (s ^^^ 2 ^ c) ≤ pcn s := by
    unfold pcn
    rw [pc_su, pc_su]
    refine su_mono (fun j hj => ?_)
    rw [out_t]
    have hb' := (isnw_t (s := s) (c := c) (by omega)).mp hb
    by_cases e : c = j
    · subst e; rw [hb']; simp
    · simp [e]
  unfold hN
  have := l nC h12
  omega
theorem hN_le {s : Nat} (h12 : nC ≤ 12) : hN nC s ≤ 36 := by
  have h1 := lastF_le (s := s) nC
  have h2 : pcn s ≤ 12 := pc_le
  unfold hN
  omega
theorem cF_y {h : Int32} {s : Nat} (q : 1 ≤ s ∧ tkR S2 nC h s (cF S2 nC h s).2) : cF S2 nC h (s + 1) = (s, sm (gst S2 s) nC) := by
  show @ite _ _ (Classical.propDecidable _) _ _ = _
  rw [if_pos q]
theorem cF_n {h : Int32} {s : Nat} (q : ¬ (1 ≤ s ∧ tkR S2 nC h s (cF S2 nC h s).2)) : cF S2 nC h (s + 1) = cF S2 nC h s := by
  show @ite _ _ (Classical.propDecidable _) _ _ = _
  rw [if_neg q]
theorem gst_0 (h12 : nC ≤ 12) : sm (gst S2 0) nC = 0 := by
  have : ∀ n, n ≤ 12 → sm (gst S2 0) n = 0 := fun n => by
    induction n with
    | zero => exact fun _ => rfl
    | succ n ih =>
      intro hn
      show sm (gst S2 0) n + gst S2 0 n = 0
      rw [ih (by omega)]
      unfold gst
      rw [if_neg (fun q => by rw [isnw_t (by omega)] at q; simp at q)]
      rfl
  exact this nC h12
theorem cF_J {h : Int32} (h12 : nC ≤ 12) : ∀ s, 0 ≤ (cF S2 nC h s).2 ∧ (∀ s', 1 ≤ s' → s' < s → ¬ h < Int32.ofNat (hN nC s') → sm (gst S2 s') nC ≤ (cF S2 nC h s).2) ∧ ((cF S2 nC h s).1 = 0 ∨ (cF S2 nC h s).1 < s)
  | 0 => ⟨Int32.le_refl _, fun s' h1 h2 => by omega, Or.inl rfl⟩
  | s + 1 => by
    obtain ⟨j1, j2, j3⟩ := cF_J (h := h) h12 s
    by_cases q : 1 ≤ s ∧ tkR S2 nC h s (cF S2 nC h s).2
    · rw [cF_y q]
      have lt := q.2.2.2
      refine ⟨Int32.le_trans j1 (Int32.le_of_lt lt), fun s' h1 h2 h3 => ?_, Or.inr (Nat.lt_succ_self _)⟩
      by_cases e : s' = s
      · subst e; exact Int32.le_refl _
      · exact Int32.le_trans (j2 s' h1 (by omega) h3) (Int32.le_of_lt lt)
    · rw [cF_n q]
      refine ⟨j1, fun s' h1 h2 h3 => ?_, by omega⟩
      by_cases e : s' = s
      · subst e
        by_cases a : allB S2 nC s'
        · refine Int32.not_lt.mp (fun z => q ⟨h1, a, h3, z⟩)
        · have ⟨c, hc⟩ := Classical.not_forall.mp a
          have ⟨hc, hb⟩ := Classical.not_imp.mp hc
          have ⟨hb, h0⟩ := Classical.not_imp.mp hb
          have h0 := Classical.not_not.mp h0
          have lt := out_lt ((isnw_t (s := s') (c := c) (by omega)).mp hb)
          rw [← out_g h12 hc hb h0]
          by_cases z : s' ^^^ 2 ^ c = 0
          · rw [z, gst_0 h12]; exact j1
          · refine j2 _ (by omega) lt (fun w => h3 ?_)
            have hh := out_h (s := s') h12 hc hb
            have l1 := hN_le (s := s') h12
            have l2 := hN_le (s := s' ^^^ 2 ^ c) h12
            refine Int32.lt_of_lt_of_le w ?_
            rw [nn_le (by omega) (by omega)]; exact hh
      · exact j2 s' h1 (by omega) h3
/-- a set with a corner that has no bed is never better -/
theorem cF_nb {h : Int32} {s : Nat} (h12 : nC ≤ 12) (hs : 1 ≤ s) (a : ¬ allB S2 nC s) (h3 : ¬ h < Int32.ofNat (hN nC s)) : sm (gst S2 s) nC ≤ (cF S2 nC h s).2 := by
  have j := (cF_J (S2 := S2) (h := h) h12 (s + 1)).2.1 s hs (Nat.lt_succ_self _) h3
  rw [cF_n (fun q => a q.2.1)] at j
  exact j
theorem iv_g {j : Nat} {v : Int32} (h : IV S S2 nC nR nT nK nL nM nP td N lh) : IV (pI S 1053 j v) S2 nC nR nT nK nL nM nP td N lh := by
  obtain ⟨hk, hM, hS, hU, hA, hW, hB, hC, hR, hT, hK, hL, hZ, hP, hN⟩ := h
  exact ⟨okS_pI hk (by omega), hM, hS.keep (fun x _ _ _ => rfl) (fun x hx => vw_pI (by omega)) (fun x _ _ => rfl), hU.keep (vw_pI (by omega)) (fun k _ _ => rfl), hA.keep (fun x _ _ => vw_pI (by omega)) (fun x _ _ => rfl), hW.keep (fun x hx => vw_pI (by omega)) (fun x _ _ => rfl), hB.keep (fun x _ _ => vw_pI (by omega)) (fun x _ _ => rfl), hC.keep (fun x hx => vw_pI (by omega)) (fun x _ => rfl) rfl, hR.keep (Nat.le_refl _) (Nat.le_refl _) (fun x hx => vw_pI (by omega)) (fun x _ _ => rfl) rfl, hT.keep (fun x hx => vw_pI (by omega)) (fun x _ _ _ => rfl) rfl, hK.keep (fun x hx => vw_pI (by omega)) (fun x _ _ => rfl) rfl, hL.keep (fun x hx => by unfold lawR at hx; exact vw_pI (by omega)) (fun x _ _ => rfl) rfl, hZ.keep (fun k _ _ => sI_pI_ne (by omega)) (fun k _ => rfl), hP.keep (fun x _ _ => vw_pI (by omega)) rfl rfl, hN⟩
theorem gainByCare_e {c : Nat} {Q : Int32 → Prop} (hS : GS S) (hA : GA S S2) (hB : GB S S2) (hc : c < 12) (hb : ¬ sI S2 1112 c = 0) (k : Q (gnF S2 c)) : P_X0_gainByCare (3000 + c) (some 1050) S Q := by
  obtain ⟨be, -⟩ := (hB c hc).2.2.2 hb
  unfold P_X0_gainByCare P_X0_clogCaredFor
  refine ⟨be.1, (fullDrink_e hS hA hB hc hb).mpr ⟨be.1, fun x2 hx => (drink_e hS hA hB hc hb).mpr ?_⟩⟩
  rw [be.2.2.2.2.2.2.2.2.1] at hx
  rw [hx]
  unfold gnF at k
  rw [if_neg hb] at k
  exact k
theorem x_weigh {Q : Unit → Sg → Prop} (h : IV S S2 nC nR nT nK nL nM nP td N lh) (k : ∀ σ, IV σ S2 nC nR nT nK nL nM nP td N lh → (∀ j, j < nC → sI σ 1053 j = gnF S2 j) → Q () σ) : P_X10_weighGains 1000 S Q := by
  unfold P_X10_weighGains P_X10_weighGains_L2
  refine lpS (N := nC) (s0 := 0) (R := fun c σ => IV σ S2 nC nR nT nK nL nM nP td N lh ∧ ∀ j, j < c → sI σ 1053 j = gnF S2 j) (B := fun x σ K => P_X10_weighGains_L2b 1000 x σ Q K) rfl (Nat.zero_le _) ⟨h, fun j hj => absurd hj (Nat.not_lt_zero _)⟩ (fun c hc σ hR2 K hK2 => ?_)
  obtain ⟨hV, hg⟩ := hR2
  have hV0 := hV
  obtain ⟨hk, hM, hS, hU, hA, hW, hB, hC, hR, hT, hK, hL, hZ, hP, hN⟩ := hV
  have n12 := hC.2.1
  have o := hS.1
  have o2 := hS.2.1
  have r12 : sR σ 1000 12 = some 1053 := o.2.2.2.2.2.2.2.2.2.2.2.2.2.1
  have sn : sN σ 1053 = 12 := by simp (disch := first | omega | decide) only [Option.some.injEq, exists_eq_left', exists_eq_left, forall_eq, forall_eq', true_and, and_true, true_implies, implies_true, false_implies, not_true_eq_false, not_false_eq_true, reduceCtorEq, and_self, forall_const, i10, i01, if_true, if_false, and_false, false_and, Nat.not_lt_zero, sK_pI, sN_pI, sR_pI, sL_pI, sK_pL, sN_pL, sR_pL, sI_pL, sK_pR, sN_pR, sI_pR, sL_pR, sI_pI_eq, sI_pI_ne, sL_pL_eq, sL_pL_ne, sR_pR_eq, sR_pR_ne, nn_le, nat32_lt, nn_eq, ln_le, nl_le, ln_lt, nl_lt, ln_eq, nl_eq, n_m1, n_lt0, vp_n, vp_l, lc_n, nat32c, n_s, nI_n, o2]
  have sk : sK σ 1053 % 32 = 16 := by simp (disch := first | omega | decide) only [Option.some.injEq, exists_eq_left', exists_eq_left, forall_eq, forall_eq', true_and, and_true, true_implies, implies_true, false_implies, not_true_eq_false, not_false_eq_true, reduceCtorEq, and_self, forall_const, i10, i01, if_true, if_false, and_false, false_and, Nat.not_lt_zero, sK_pI, sN_pI, sR_pI, sL_pI, sK_pL, sN_pL, sR_pL, sI_pL, sK_pR, sN_pR, sI_pR, sL_pR, sI_pI_eq, sI_pI_ne, sL_pL_eq, sL_pL_ne, sR_pR_eq, sR_pR_ne, nn_le, nat32_lt, nn_eq, ln_le, nl_le, ln_lt, nl_lt, ln_eq, nl_eq, n_m1, n_lt0, vp_n, vp_l, lc_n, nat32c, n_s, nI_n, o2]
  unfold P_X10_weighGains_L2b
  refine ⟨o.1, 1001, o.2.1, hC.1.1, p_size hC.1 ⟨fun e => ?_, fun e => ⟨1053, r12, sk, fun e2 => ?_, fun _ => ⟨1001, o.2.1, hC.1.1, ?_⟩⟩⟩⟩
  · rw [nn_le (by omega) (by omega)] at e
    have e2 : c = nC := by omega
    subst e2
    exact k σ hV0 hg
  · rw [nn_le (by omega) (by omega)] at e
    rw [sn, nI_n, nn_le (by omega) (by omega)] at e2
    omega
  · rw [nn_le (by omega) (by omega)] at e
    have hlt : c < nC := by omega
    have h12 : c < 12 := by omega
    have c0 := hC.2.2.2.1 c hlt
    have b58 : P_X10_weighGains_B58 1000 (Int32.ofNat c) (sR σ 1000 12) (Int32.ofNat c) (gnF S2 c) σ Q K := by
      unfold P_X10_weighGains_B58
      refine ⟨1053, r12, sk, by simp (disch := first | omega | decide) only [Option.some.injEq, exists_eq_left', exists_eq_left, forall_eq, forall_eq', true_and, and_true, true_implies, implies_true, false_implies, not_true_eq_false, not_false_eq_true, reduceCtorEq, and_self, forall_const, i10, i01, if_true, if_false, and_false, false_and, Nat.not_lt_zero, sK_pI, sN_pI, sR_pI, sL_pI, sK_pL, sN_pL, sR_pL, sI_pL, sK_pR, sN_pR, sI_pR, sL_pR, sI_pI_eq, sI_pI_ne, sL_pL_eq, sL_pL_ne, sR_pR_eq, sR_pR_ne, nn_le, nat32_lt, nn_eq, ln_le, nl_le, ln_lt, nl_lt, ln_eq, nl_eq, n_m1, n_lt0, vp_n, vp_l, lc_n, nat32c, n_s, nI_n, sn, h12], fun t1 w1 x hx => ?_⟩
      rw [nat32c (by omega)] at w1
      rw [hx, n_s]
      refine hK2 hlt _ ⟨by rw [w1]; exact iv_g hV0, fun j hj => ?_⟩
      rw [w1]
      by_cases e3 : j = c
      · subst e3; exact sI_pI_eq
      · rw [sI_pI_ne (by omega)]; exact hg j (by omega)
    refine p_get hC.1 hlt ⟨2000 + c, rfl, c0.1, fun r18 hr => ?_⟩
    rw [c0.2.2.2.2.2.2.2.2.2] at hr
    by_cases hb : sI S2 1112 c = 0
    · rw [if_pos hb] at hr
      subst hr
      have g0 : gnF S2 c = 0 := if_pos hb
      rw [g0] at b58
      exact ⟨fun _ => b58, fun b z => by cases z⟩
    · rw [if_neg hb] at hr
      subst hr
      refine ⟨fun z => (by cases z), fun b z => ?_⟩
      cases z
      rw [show sR σ 1000 8 = some 1050 from o.2.2.2.2.2.2.2.2.2.1]
      exact ⟨((hB c h12).2.2.2 hb).1.1, gainByCare_e hS hA hB h12 hb b58⟩
theorem x_gainOf {s : Nat} {Q : Int32 → Prop} (h : IV S S2 nC nR nT nK nL nM nP td N lh) (hg : ∀ j, j < nC → sI S 1053 j = gnF S2 j) (k : Q (sm (gst S2 s) nC)) : P_X10_gainOf 1000 (Int32.ofNat s) S Q := by
  obtain ⟨hk, hM, hS, hU, hA, hW, hB, hC, hR, hT, hK, hL, hZ, hP, hN⟩ := h
  have n12 := hC.2.1
  have o := hS.1
  have o2 := hS.2.1
  have r12 : sR S 1000 12 = some 1053 := o.2.2.2.2.2.2.2.2.2.2.2.2.2.1
  have sn : sN S 1053 = 12 := by simp (disch := first | omega | decide) only [Option.some.injEq, exists_eq_left', exists_eq_left, forall_eq, forall_eq', true_and, and_true, true_implies, implies_true, false_implies, not_true_eq_false, not_false_eq_true, reduceCtorEq, and_self, forall_const, i10, i01, if_true, if_false, and_false, false_and, Nat.not_lt_zero, sK_pI, sN_pI, sR_pI, sL_pI, sK_pL, sN_pL, sR_pL, sI_pL, sK_pR, sN_pR, sI_pR, sL_pR, sI_pI_eq, sI_pI_ne, sL_pL_eq, sL_pL_ne, sR_pR_eq, sR_pR_ne, nn_le, nat32_lt, nn_eq, ln_le, nl_le, ln_lt, nl_lt, ln_eq, nl_eq, n_m1, n_lt0, vp_n, vp_l, lc_n, nat32c, n_s, nI_n, o2]
  have sk : sK S 1053 % 32 = 16 := by simp (disch := first | omega | decide) only [Option.some.injEq, exists_eq_left', exists_eq_left, forall_eq, forall_eq', true_and, and_true, true_implies, implies_true, false_implies, not_true_eq_false, not_false_eq_true, reduceCtorEq, and_self, forall_const, i10, i01, if_true, if_false, and_false, false_and, Nat.not_lt_zero, sK_pI, sN_pI, sR_pI, sL_pI, sK_pL, sN_pL, sR_pL, sI_pL, sK_pR, sN_pR, sI_pR, sL_pR, sI_pI_eq, sI_pI_ne, sL_pL_eq, sL_pL_ne, sR_pR_eq, sR_pR_ne, nn_le, nat32_lt, nn_eq, ln_le, nl_le, ln_lt, nl_lt, ln_eq, nl_eq, n_m1, n_lt0, vp_n, vp_l, lc_n, nat32c, n_s, nI_n, o2]
  unfold P_X10_gainOf P_X10_gainOf_L4
  refine lpA (N := nC) (s0 := 0) (R := fun c (a : Int32) => a = sm (gst S2 s) c) (B := fun a x K => P_X10_gainOf_L4b 1000 (Int32.ofNat s) a x S Q K) rfl (Nat.zero_le _) rfl (fun c hc a ha K hK2 => ?_)
  subst ha
  unfold P_X10_gainOf_L4b P_X10_gainOf_B43
  refine ⟨o.1, 1001, o.2.1, hC.1.1, p_size hC.1 ⟨fun e => ?_, fun e => ⟨1053, r12, sk, fun e2 => ?_, fun _ => holds_e.mpr ?_⟩⟩⟩
  · rw [nn_le (by omega) (by omega)] at e
    have e2 : c = nC := by omega
    subst e2; exact k
  · rw [nn_le (by omega) (by omega)] at e
    rw [sn, nI_n, nn_le (by omega) (by omega)] at e2
    omega
  · rw [nn_le (by omega) (by omega)] at e
    have hlt : c < nC := by omega
    have h12 : c < 12 := by omega
    by_cases q : isnw (Int32.ofNat s) c
    · have q' : (Int32.ofNat s >>> (Int32.ofNat c &&& 31)) &&& 1 = 1 := q
      rw [if_pos q']
      refine ⟨fun z => absurd z (by decide), fun _ => ⟨1053, r12, sk, by simp (disch := first | omega | decide) only [Option.some.injEq, exists_eq_left', exists_eq_left, forall_eq, forall_eq', true_and, and_true, true_implies, implies_true, false_implies, not_true_eq_false, not_false_eq_true, reduceCtorEq, and_self, forall_const, i10, i01, if_true, if_false, and_false, false_and, Nat.not_lt_zero, sK_pI, sN_pI, sR_pI, sL_pI, sK_pL, sN_pL, sR_pL, sI_pL, sK_pR, sN_pR, sI_pR, sL_pR, sI_pI_eq, sI_pI_ne, sL_pL_eq, sL_pL_ne, sR_pR_eq, sR_pR_ne, nn_le, nat32_lt, nn_eq, ln_le, nl_le, ln_lt, nl_lt, ln_eq, nl_eq, n_m1, n_lt0, vp_n, vp_l, lc_n, nat32c, n_s, nI_n, sn, h12], fun x hx y hy => ?_⟩⟩
      rw [nat32c (by omega), hg c hlt] at hx
      rw [hx, hy, n_s]
      refine hK2 hlt _ ?_
      rw [sm_s]; unfold gst; rw [if_pos q]
    · have q' : ¬ (Int32.ofNat s >>> (Int32.ofNat c &&& 31)) &&& 1 = 1 := q
      rw [if_neg q']
      refine ⟨fun _ x hx y hy => ?_, fun z => absurd rfl z⟩
      rw [hx, hy, n_s]
      refine hK2 hlt _ ?_
      rw [sm_s]; unfold gst; rw [if_neg q]
theorem x_hours {s : Nat} {Q : Int32 → Prop} (h : IV S S2 nC nR nT nK nL nM nP td N lh) (hs : s < 4096) (k : Q (Int32.ofNat (hN nC s))) : P_X10_hoursFor 1000 (Int32.ofNat s) S Q := by
  obtain ⟨hk, hM, hS, hU, hA, hW, hB, hC, hR, hT, hK, hL, hZ, hP, hN'⟩ := h
  have n12 := hC.2.1
  have o := hS.1
  unfold P_X10_hoursFor P_X10_hoursFor_L4
  refine lpA (N := nC) (s0 := 0) (R := fun c (a : Int32) => a = Int32.ofNat (lastF s c)) (B := fun a x K => P_X10_hoursFor_L4b 1000 (Int32.ofNat s) a x S Q K) rfl (Nat.zero_le _) rfl (fun c hc a ha K hK2 => ?_)
  subst ha
  unfold P_X10_hoursFor_L4b P_X10_hoursFor_B28
  refine ⟨o.1, 1001, o.2.1, hC.1.1, p_size hC.1 ⟨fun e => bitCount_e ?_, fun e => holds_e.mpr ?_⟩⟩
  · rw [nn_le (by omega) (by omega)] at e
    have e2 : c = nC := by omega
    subst e2
    rw [bc_n hs, show (2 : Int32) = Int32.ofNat 2 from rfl, n_mul, n_add]; exact k
  · rw [nn_le (by omega) (by omega)] at e
    have hlt : c < nC := by omega
    by_cases q : isnw (Int32.ofNat s) c
    · have q' : (Int32.ofNat s >>> (Int32.ofNat c &&& 31)) &&& 1 = 1 := q
      rw [if_pos q']
      refine ⟨fun z => absurd z (by decide), fun _ x hx => ?_⟩
      rw [hx, n_s]
      refine hK2 hlt _ ?_
      unfold lastF; rw [if_pos q]
    · have q' : ¬ (Int32.ofNat s >>> (Int32.ofNat c &&& 31)) &&& 1 = 1 := q
      rw [if_neg q']
      refine ⟨fun _ x hx => ?_, fun z => absurd rfl z⟩
      rw [hx, n_s]
      refine hK2 hlt _ ?_
      show _ = Int32.ofNat (if isnw (Int32.ofNat s) c then c else lastF s c)
      rw [if_neg q]
theorem x_crewL {hr what : Int32} {Q : Int32 → Sg → Prop} (h : IV S S2 nC nR nT nK nL nM nP td N lh) (hg : ∀ j, j < nC → sI S 1053 j = gnF S2 j) (k : (what = 0 → Q (cF S2 nC hr (2 ^ nC)).2 S) ∧ (¬ what = 0 → (what = 1 → Q (Int32.ofNat (cF S2 nC hr (2 ^ nC)).1) S) ∧ (¬ what = 1 → Q (Int32.ofNat (hN nC (cF S2 nC hr (2 ^ nC)).1)) S))) : P_X10_crew_L33 1000 hr what 0 0 1 S Q := by
  have n12 := h.2.2.2.2.2.2.2.1.2.1
  have hC := h.2.2.2.2.2.2.2.1
  have o := h.2.2.1.1
  have p2 := pow_b nC (by omega)
  unfold P_X10_crew_L33
  refine lpAA (N := 2 ^ nC) (s0 := 1) (R := fun s (b m : Int32) => b = Int32.ofNat (cF S2 nC hr s).1 ∧ m = (cF S2 nC hr s).2) (B := fun b m x K => P_X10_crew_L33b 1000 hr what b m x S Q K) rfl p2.2 ⟨by rw [cF_n (fun q => by omega)]; rfl, by rw [cF_n (fun q => by omega)]; rfl⟩ (fun s hs b m hR2 K hK2 => ?_)
  obtain ⟨rfl, rfl⟩ := hR2
  unfold P_X10_crew_L33b P_X10_crew_B79
  refine ⟨o.1, 1001, o.2.1, hC.1.1, p_size hC.1 ?_⟩
  rw [shl1 nC (by omega)]
  refine ⟨fun e => ?_, fun e => ?_⟩
  · rw [nn_le (by omega) (by omega)] at e
    have e2 : s = 2 ^ nC := by omega
    subst e2
    refine ⟨k.1, fun z => ⟨(k.2 z).1, fun z2 => x_hours h ?_ ((k.2 z).2 z2)⟩⟩
    rcases (cF_J (S2 := S2) (h := hr) n12 (2 ^ nC)).2.2 with q | q
    · rw [q]; omega
    · omega
  · rw [nn_le (by omega) (by omega)] at e
    have hlt : s < 2 ^ nC := by omega
    have s4 : s < 4096 := by omega
    have s1 : 1 ≤ s ∨ s = 0 := by omega
    have skip : ¬ (1 ≤ s ∧ tkR S2 nC hr s (cF S2 nC hr s).2) → ∀ x, x = Int32.ofNat s + 1 → K (Int32.ofNat (cF S2 nC hr s).1) (cF S2 nC hr s).2 x := fun q x hx => by
      rw [hx, n_s]
      exact hK2 hlt _ _ ⟨by rw [cF_n q], by rw [cF_n q]⟩
    refine x_gainOf h hg ⟨fun z => skip (fun q => absurd q.2.2.2 (Int32.not_lt.mpr z)), fun z => x_hours h s4 ⟨fun w => skip (fun q => q.2.2.1 w), fun w x hx => ?_⟩⟩
    rw [hx, n_s]
    have z' := Int32.not_le.mp z
    rcases s1 with s1 | s1
    · have a : allB S2 nC s := Classical.byContradiction (fun a => absurd (cF_nb n12 s1 a w) z)
      have t := cF_y (S2 := S2) (nC := nC) (h := hr) ⟨s1, a, w, z'⟩
      exact hK2 hlt _ _ ⟨by rw [t], by rw [t]⟩
    · subst s1
      exfalso
      rw [gst_0 n12] at z'
      exact absurd z' (by show ¬ ((0 : Int32) < 0); decide)
theorem m_crewL {hr what : Int32} {Q : Int32 → Prop} (h : IV S S2 nC nR nT nK nL nM nP td N lh) (k : (what = 0 → Q (cF S2 nC hr (2 ^ nC)).2) ∧ (¬ what = 0 → (what = 1 → Q (Int32.ofNat (cF S2 nC hr (2 ^ nC)).1)) ∧ (¬ what = 1 → Q (Int32.ofNat (hN nC (cF S2 nC hr (2 ^ nC)).1))))) : P_X11_crew_L32 1000 hr what 0 0 0 1 S2 Q := by
  obtain ⟨hk, hM, hS, hU, hA, hW, hB, hC, hR, hT, hK, hL, hZ, hP, hN'⟩ := h
  have n12 := hC.2.1
  have p2 := pow_b nC (by omega)
  have hN0 : hN nC 0 = 0 := by
    have : ∀ n, n ≤ 12 → lastF 0 n = 0 := fun n => by
      induction n with
      | zero => exact fun _ => rfl
      | succ n ih =>
        intro hn
        show (if isnw (Int32.ofNat 0) n then n else lastF 0 n) = 0
        rw [if_neg (fun q => by rw [isnw_t (by omega)] at q; simp at q)]
        exact ih (by omega)
    unfold hN pcn
    rw [this nC n12, pc_0]
  unfold P_X11_crew_L32
  refine lpAAA (N := 2 ^ nC) (s0 := 1) (R := fun s (b m t : Int32) => b = Int32.ofNat (cF S2 nC hr s).1 ∧ m = (cF S2 nC hr s).2 ∧ t = Int32.ofNat (hN nC (cF S2 nC hr s).1)) (B := fun b m t x K => P_X11_crew_L32b 1000 hr what b m t x S2 Q K) rfl p2.2 ⟨by rw [cF_n (fun q => by omega)]; rfl, by rw [cF_n (fun q => by omega)]; rfl, by rw [cF_n (fun q => by omega), show (cF S2 nC hr 0).1 = 0 from rfl, hN0]; rfl⟩ (fun s hs b m t hR2 K hK2 => ?_)
  obtain ⟨rfl, rfl, rfl⟩ := hR2
  unfold P_X11_crew_L32b
  rw [hC.2.2.1, shl1 nC (by omega)]
  refine ⟨hM.o, fun e => ?_, fun e => ?_⟩
  · rw [nn_le (by omega) (by omega)] at e
    have e2 : s = 2 ^ nC := by omega
    subst e2
    exact k
  · rw [nn_le (by omega) (by omega)] at e
    have hlt : s < 2 ^ nC := by omega
    have s4 : s < 4096 := by omega
    have skip : ¬ (1 ≤ s ∧ tkR S2 nC hr s (cF S2 nC hr s).2) → P_X11_crew_B202 1000 hr what (Int32.ofNat (cF S2 nC hr s).1) (cF S2 nC hr s).2 (Int32.ofNat (hN nC (cF S2 nC hr s).1)) (Int32.ofNat s) S2 Q K := fun q => by
      unfold P_X11_crew_B202
      intro x hx
      rw [hx, n_s]
      exact hK2 hlt _ _ _ ⟨by rw [cF_n q], by rw [cF_n q], by rw [cF_n q]⟩
    unfold P_X11_crew_L55
    refine lpAAA (N := nC) (s0 := 0) (R := fun c (a l i : Int32) => a = sm (gst S2 s) c ∧ ((i = 1 ∧ (∀ j, j < c → isnw (Int32.ofNat s) j → ¬ sI S2 1112 j = 0) ∧ l = Int32.ofNat (lastF s c)) ∨ (i = 0 ∧ ¬ allB S2 nC s))) (B := fun a l i x K' => P_X11_crew_L55b 1000 hr what (Int32.ofNat (cF S2 nC hr s).1) (cF S2 nC hr s).2 (Int32.ofNat (hN nC (cF S2 nC hr s).1)) (Int32.ofNat s) a l i x S2 Q K K') rfl (Nat.zero_le _) ⟨rfl, Or.inl ⟨rfl, fun j hj => absurd hj (Nat.not_lt_zero _), rfl⟩⟩ (fun c hc a l i hR3 K' hK3 => ?_)
    obtain ⟨rfl, hi⟩ := hR3
    unfold P_X11_crew_L55b P_X11_crew_B96 P_X11_crew_B97 P_X11_crew_B148
    rw [hC.2.2.1]
    refine ⟨hM.o, fun e => ?_, fun e => ?_⟩
    · rw [nn_le (by omega) (by omega)] at e
      have e2 : c = nC := by omega
      subst e2
      rcases hi with ⟨rfl, hall, rfl⟩ | ⟨rfl, hna⟩
      · refine ⟨fun z => absurd z (by decide), fun _ => bits_e s4 ?_⟩
        rw [show (2 : Int32) = Int32.ofNat 2 from rfl, n_mul, n_add]
        refine ⟨fun z => skip (fun q => q.2.2.1 z), fun z => ⟨fun w => bits_e s4 (fun x16 hx => ?_), fun w => skip (fun q => w q.2.2.2)⟩⟩
        rw [n_mul, n_add] at hx
        unfold P_X11_crew_B202
        intro x hx2
        rw [hx2, n_s, hx]
        rcases Nat.eq_zero_or_pos s with s1 | s1
        · subst s1
          exfalso
          rw [gst_0 n12] at w
          exact absurd w (Int32.not_lt.mpr (cF_J (S2 := S2) (h := hr) n12 0).1)
        · have t := cF_y (S2 := S2) (nC := c) (h := hr) ⟨s1, hall, z, w⟩
          exact hK2 hlt _ _ _ ⟨by rw [t], by rw [t], by rw [t]; rfl⟩
      · exact ⟨fun _ => skip (fun q => hna q.2.1), fun z => absurd rfl z⟩
    · rw [nn_le (by omega) (by omega)] at e
      have hcl : c < nC := by omega
      have h12 : c < 12 := by omega
      have lot := fun hb => ((hB c h12).2.2.2 hb).2.1
      have stay : ¬ isnw (Int32.ofNat s) c → ∀ x, x = Int32.ofNat c + 1 → K' (sm (gst S2 s) c) l i x := fun q x hx => by
        rw [hx, n_s]
        refine hK3 hcl _ _ _ ⟨?_, ?_⟩
        · rw [sm_s]; unfold gst; rw [if_neg q]; simp
        · rcases hi with ⟨h1, h2, h3⟩ | hi
          · refine Or.inl ⟨h1, fun j hj hj2 => ?_, ?_⟩
            · by_cases e2 : j = c
              · subst e2; exact absurd hj2 q
              · exact h2 j (by omega) hj2
            · rw [h3]
              show _ = Int32.ofNat (if isnw (Int32.ofNat s) c then c else lastF s c)
              rw [if_neg q]
          · exact Or.inr hi
      have nob : isnw (Int32.ofNat s) c → sI S2 1112 c = 0 → ∀ x, x = Int32.ofNat c + 1 → K' (sm (gst S2 s) c) l 0 x := fun q hb x hx => by
        rw [hx, n_s]
        refine hK3 hcl _ _ _ ⟨?_, Or.inr ⟨rfl, fun a => a c hcl q hb⟩⟩
        rw [sm_s]; unfold gst; rw [if_pos q, show gnF S2 c = 0 from if_pos hb]; simp
      have bed : isnw (Int32.ofNat s) c → ¬ sI S2 1112 c = 0 → ∀ (ni : Int32), (i = ni) → ∃ c31 : Nat, sR S2 1000 18 = some c31 ∧ sK S2 c31 % 32 = 16 ∧ vp_in (Int32.ofNat c) (sN S2 c31) ∧ ∀ x35 : Int32, x35 = (if (0 : Int32) < ((sI S2 c31 (Int32.ofNat c).toNatClampNeg) - 30) then ((sI S2 c31 (Int32.ofNat c).toNatClampNeg) - 30) else (0 : Int32)) → P_X11_drinkBy 1000 (Int32.ofNat c) x35 S2 (fun x37 => P_X11_drink 1000 (Int32.ofNat c) S2 (fun x38 => ∀ x39 : Int32, x39 = sm (gst S2 s) c + (x37 - x38) → ∀ x41 : Int32, x41 = Int32.ofNat c + 1 → K' x39 (Int32.ofNat c) ni x41)) := fun q hb ni hni => by
        refine ⟨1118, hM.a18.1, hM.a18.2.1, by simp (disch := first | omega | decide) only [Option.some.injEq, exists_eq_left', exists_eq_left, forall_eq, forall_eq', true_and, and_true, true_implies, implies_true, false_implies, not_true_eq_false, not_false_eq_true, reduceCtorEq, and_self, forall_const, i10, i01, if_true, if_false, and_false, false_and, Nat.not_lt_zero, sK_pI, sN_pI, sR_pI, sL_pI, sK_pL, sN_pL, sR_pL, sI_pL, sK_pR, sN_pR, sI_pR, sL_pR, sI_pI_eq, sI_pI_ne, sL_pL_eq, sL_pL_ne, sR_pR_eq, sR_pR_ne, nn_le, nat32_lt, nn_eq, ln_le, nl_le, ln_lt, nl_lt, ln_eq, nl_eq, n_m1, n_lt0, vp_n, vp_l, lc_n, nat32c, n_s, nI_n, hM.a18, h12], fun x35 hx => (drinkBy_e hM (lot hb) h12).mpr ((mdrink_e hM (lot hb) h12).mpr (fun x39 hx2 x41 hx3 => ?_))⟩
        rw [nat32c (by omega)] at hx
        rw [hx] at hx2
        rw [hx3, n_s]
        refine hK3 hcl _ _ _ ⟨?_, ?_⟩
        · rw [hx2, sm_s]; unfold gst gnF; rw [if_pos q, if_neg hb]
        · rcases hi with ⟨h1, h2, h3⟩ | hi
          · refine Or.inl ⟨hni ▸ h1, fun j hj hj2 => ?_, ?_⟩
            · by_cases e2 : j = c
              · subst e2; exact hb
              · exact h2 j (by omega) hj2
            · show _ = Int32.ofNat (if isnw (Int32.ofNat s) c then c else lastF s c)
              rw [if_pos q]
          · exact Or.inr ⟨hni ▸ hi.1, hi.2⟩
      refine ⟨fun z => stay (isnw_0.mp z), fun z => ?_⟩
      have q : isnw (Int32.ofNat s) c := Classical.byContradiction (fun w => z (isnw_0.mpr w))
      refine ⟨fun i0 => ⟨hM.o, 1112, hM.a12.1, hM.a12.2.1, by simp (disch := first | omega | decide) only [Option.some.injEq, exists_eq_left', exists_eq_left, forall_eq, forall_eq', true_and, and_true, true_implies, implies_true, false_implies, not_true_eq_false, not_false_eq_true, reduceCtorEq, and_self, forall_const, i10, i01, if_true, if_false, and_false, false_and, Nat.not_lt_zero, sK_pI, sN_pI, sR_pI, sL_pI, sK_pL, sN_pL, sR_pL, sI_pL, sK_pR, sN_pR, sI_pR, sL_pR, sI_pI_eq, sI_pI_ne, sL_pL_eq, sL_pL_ne, sR_pR_eq, sR_pR_ne, nn_le, nat32_lt, nn_eq, ln_le, nl_le, ln_lt, nl_lt, ln_eq, nl_eq, n_m1, n_lt0, vp_n, vp_l, lc_n, nat32c, n_s, nI_n, hM.a12, h12], fun hb => ?_, fun hb => ?_⟩, fun i1 => ⟨1112, hM.a12.1, hM.a12.2.1, by simp (disch := first | omega | decide) only [Option.some.injEq, exists_eq_left', exists_eq_left, forall_eq, forall_eq', true_and, and_true, true_implies, implies_true, false_implies, not_true_eq_false, not_false_eq_true, reduceCtorEq, and_self, forall_const, i10, i01, if_true, if_false, and_false, false_and, Nat.not_lt_zero, sK_pI, sN_pI, sR_pI, sL_pI, sK_pL, sN_pL, sR_pL, sI_pL, sK_pR, sN_pR, sI_pR, sL_pR, sI_pI_eq, sI_pI_ne, sL_pL_eq, sL_pL_ne, sR_pR_eq, sR_pR_ne, nn_le, nat32_lt, nn_eq, ln_le, nl_le, ln_lt, nl_lt, ln_eq, nl_eq, n_m1, n_lt0, vp_n, vp_l, lc_n, nat32c, n_s, nI_n, hM.a12, h12], fun hb => ⟨hM.o, 1112, hM.a12.1, hM.a12.2.1, by simp (disch := first | omega | decide) only [Option.some.injEq, exists_eq_left', exists_eq_left, forall_eq, forall_eq', true_and, and_true, true_implies, implies_true, false_implies, not_true_eq_false, not_false_eq_true, reduceCtorEq, and_self, forall_const, i10, i01, if_true, if_false, and_false, false_and, Nat.not_lt_zero, sK_pI, sN_pI, sR_pI, sL_pI, sK_pL, sN_pL, sR_pL, sI_pL, sK_pR, sN_pR, sI_pR, sL_pR, sI_pI_eq, sI_pI_ne, sL_pL_eq, sL_pL_ne, sR_pR_eq, sR_pR_ne, nn_le, nat32_lt, nn_eq, ln_le, nl_le, ln_lt, nl_lt, ln_eq, nl_eq, n_m1, n_lt0, vp_n, vp_l, lc_n, nat32c, n_s, nI_n, hM.a12, h12], fun hb2 => ?_, fun hb2 => absurd hb hb2⟩, fun hb => ⟨hM.o, 1112, hM.a12.1, hM.a12.2.1, by simp (disch := first | omega | decide) only [Option.some.injEq, exists_eq_left', exists_eq_left, forall_eq, forall_eq', true_and, and_true, true_implies, implies_true, false_implies, not_true_eq_false, not_false_eq_true, reduceCtorEq, and_self, forall_const, i10, i01, if_true, if_false, and_false, false_and, Nat.not_lt_zero, sK_pI, sN_pI, sR_pI, sL_pI, sK_pL, sN_pL, sR_pL, sI_pL, sK_pR, sN_pR, sI_pR, sL_pR, sI_pI_eq, sI_pI_ne, sL_pL_eq, sL_pL_ne, sR_pR_eq, sR_pR_ne, nn_le, nat32_lt, nn_eq, ln_le, nl_le, ln_lt, nl_lt, ln_eq, nl_eq, n_m1, n_lt0, vp_n, vp_l, lc_n, nat32c, n_s, nI_n, hM.a12, h12], fun hb2 => absurd hb2 hb, fun hb2 => ?_⟩⟩⟩
      · rw [nat32c (by omega)] at hb; exact nob q hb
      · rw [nat32c (by omega)] at hb; exact bed q hb 0 i0
      · rw [nat32c (by omega)] at hb; exact nob q hb
      · rw [nat32c (by omega)] at hb
        refine bed q hb 1 ?_
        rcases hi with ⟨h1, -⟩ | ⟨h1, -⟩
        · exact h1
        · exact absurd h1 i1
end CR
theorem pr_crew : Pr_crew Inv := by
  intro S S2 hI v1 v2
  have hI0 := hI
  obtain ⟨hk, hM, hS, hU, hA, hW, hB, nC, nR, nT, nK, nL, nM, nP, td, N, lh, hC, hR, hT, hK, hL, hZ, hP, hGN⟩ := hI
  have hV : IV S S2 nC nR nT nK nL nM nP td N lh := ⟨hk, hM, hS, hU, hA, hW, hB, hC, hR, hT, hK, hL, hZ, hP, hGN⟩
  unfold P_X10_crew P_X11_crew
  refine within_e.mpr ⟨fun w1 => ⟨hk, isIn_e.mpr ⟨fun _ => ⟨rfl, hI0⟩, fun z => absurd w1 z⟩⟩, fun w1 => within_e.mpr ⟨fun w2 => ⟨hk, isIn_e.mpr ⟨fun z => absurd z w1, fun _ => isIn_e.mpr ⟨fun _ => ⟨rfl, hI0⟩, fun z => absurd w2 z⟩⟩⟩, fun w2 => ⟨hS.1.1, x_weigh hV (fun σ h2 hg => x_crewL h2 hg ?_)⟩⟩⟩
  have go : ∀ r, ((v2 = 0 → r = (cF S2 nC v1 (2 ^ nC)).2) ∧ (¬ v2 = 0 → (v2 = 1 → r = (Int32.ofNat (cF S2 nC v1 (2 ^ nC)).1)) ∧ (¬ v2 = 1 → r = (Int32.ofNat (hN nC (cF S2 nC v1 (2 ^ nC)).1))))) → P_X11_isIn v1 0 60 S2 (fun x1 => (x1 = 0 → r = -1 ∧ Inv σ S2) ∧ (¬ (x1 = 0) → P_X11_isIn v2 0 2 S2 (fun x3 => (x3 = 0 → r = -1 ∧ Inv σ S2) ∧ (¬ (x3 = 0) → P_X11_crew_L32 1000 v1 v2 0 0 0 1 S2 (fun r2 => r = r2 ∧ Inv σ S2))))) := fun r hr =>
    isIn_e.mpr ⟨fun z => absurd z w1, fun _ => isIn_e.mpr ⟨fun z => absurd z w2, fun _ => m_crewL h2 ⟨fun a => ⟨hr.1 a, iv_inv h2⟩, fun a => ⟨fun b => ⟨(hr.2 a).1 b, iv_inv h2⟩, fun b => ⟨(hr.2 a).2 b, iv_inv h2⟩⟩⟩⟩⟩
  exact ⟨fun a => ⟨h2.1, go _ ⟨fun _ => rfl, fun z => absurd a z⟩⟩, fun a => ⟨fun b => ⟨h2.1, go _ ⟨fun z => absurd z a, fun _ => ⟨fun _ => rfl, fun z => absurd b z⟩⟩⟩, fun b => ⟨h2.1, go _ ⟨fun z => absurd z a, fun _ => ⟨fun z => absurd z b, fun _ => rfl⟩⟩⟩⟩⟩
