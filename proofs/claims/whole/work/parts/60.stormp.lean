/-! ===== level 2: a storm comes: the pair behind it ===== -/
theorem su_add {f g : Nat → Nat} : ∀ {n : Nat}, su (fun i => f i + g i) n = su f n + su g n
  | 0 => rfl
  | n + 1 => by
    show su (fun i => f i + g i) n + (f n + g n) = su f n + f n + (su g n + g n)
    rw [su_add]; omega
theorem su_mul {f : Nat → Nat} {a : Nat} : ∀ {n : Nat}, su (fun i => a * f i) n = a * su f n
  | 0 => by simp [su]
  | n + 1 => by
    show su (fun i => a * f i) n + a * f n = a * (su f n + f n)
    rw [su_mul, Nat.mul_add]
theorem su_zero : ∀ {n : Nat}, su (fun _ => 0) n = 0
  | 0 => rfl
  | n + 1 => by show su (fun _ => 0) n + 0 = 0; rw [su_zero]
theorem su_one {f : Nat → Nat} {a v : Nat} : ∀ {n : Nat}, (∀ i, i < n → f i = if i = a then v else 0) → a < n → su f n = v
  | 0, _, z => absurd z (Nat.not_lt_zero _)
  | n + 1, h, z => by
    show su f n + f n = v
    rcases Nat.lt_or_ge a n with w | w
    · rw [su_one (fun i hi => h i (by omega)) w, h n (by omega), if_neg (by omega)]
      omega
    · have e : a = n := by omega
      subst e
      rw [su_congr (g := fun _ => 0) (fun i hi => by rw [h i (by omega), if_neg (by omega)]), su_zero, h a (by omega), if_pos rfl]
      omega
theorem su_swap {f : Nat → Nat → Nat} {n : Nat} : ∀ {m : Nat}, su (fun c => su (fun r => f c r) n) m = su (fun r => su (fun c => f c r) m) n
  | 0 => by
    show 0 = su (fun _ => 0) n
    rw [su_zero]
  | m + 1 => by
    show su (fun c => su (fun r => f c r) n) m + su (fun r => f m r) n = su (fun r => su (fun c => f c r) m + f m r) n
    rw [su_swap, su_add]
section SP
variable {S S2 T U : Sg} {nC nR nT nK nL nM nP td N : Nat} {lh : Nat → Nat}
/-- what rains in all -/
theorem ra_e (hR : GR S S2 nC nR td) (hn : nC ≤ 12) : ∀ m, raF S2 nC nR m = su (rnF S2) m * (su (fun c => nt (sI S2 1107 c)) nC + su (fun r => nt (sI S2 1127 r)) nR)
  | 0 => by show 0 = 0 * _; rw [Nat.zero_mul]
  | m + 1 => by
    show raF S2 nC nR m + su (rcF S2 nR m) nC = (su (rnF S2) m + rnF S2 m) * _
    rw [ra_e hR hn m, Nat.add_mul]
    congr 1
    have e : su (rcF S2 nR m) nC = su (fun c => rnF S2 m * nt (sI S2 1107 c)) nC + su (fun c => su (fun r => fallC S2 c m r) nR) nC := su_add
    rw [e, su_mul, su_swap, Nat.mul_add]
    congr 1
    rw [su_congr (g := fun r => rnF S2 m * nt (sI S2 1127 r)) (fun r hr => ?_), su_mul]
    obtain ⟨⟨cr, hcr, ecr⟩, -⟩ := roof_e hR hr
    refine su_one (a := cr) (fun c hc => ?_) hcr
    unfold fallC
    by_cases e : c = cr
    · subst e; rw [if_pos ecr, if_pos rfl]
    · rw [if_neg e, if_neg (by rw [ecr, nn_eq (by omega) (by omega)]; omega)]
theorem q_dry {w : Ms} {be : Nat → Option Nat} {own : Nat → Nat → Nat} {n c : Nat} (h4 : w 4 c = 0) : ∀ m, (q_rn w be own n m).1 3 c = 0
  | 0 => rfl
  | m + 1 => by
    have key : ∀ (st : Ms), st 3 c = 0 → ∀ j, (q_mn w be (own m) st j).1 3 c = 0 := fun st h0 j => by
      induction j with
      | zero => exact h0
      | succ j ih =>
        show q_st w be (q_mn w be (own m) st j).1 j (own m j) 3 c = 0
        by_cases e : c = j
        · subst e
          rw [(q_st_c).2.2.2.1, ih]
          unfold q_sn
          rw [h4]; simp
        · have : q_st w be (q_mn w be (own m) st j).1 j (own m j) 3 c = (q_mn w be (own m) st j).1 3 c := by simp [q_st, e]
          rw [this, ih]
    exact key _ (q_dry h4 m) n
/-- the object's store behind a storm, but for the told one -/
def stS (S1 S2 Sc : Sg) (nC nR nM : Nat) : Prop := (∀ x, stru Sc x = stru S1 x) ∧ (∀ x, ¬ (x = 1054 ∨ 2000 ≤ x ∧ x < 2000 + nC ∨ 3000 ≤ x ∧ x < 3000 + nC ∨ 4000 ≤ x ∧ x < 4000 + nR) → vw Sc x = vw S1 x) ∧ (∀ j, j < nC → ∀ k, sI Sc (2000 + j) k = if k = 6 then Int32.ofNat ((runF S2 nC nR nM 0).1 4 j) else if k = 7 then Int32.ofNat ((runF S2 nC nR nM 0).1 5 j) else if k = 8 then Int32.ofNat ((runF S2 nC nR nM 0).1 6 j) else sI S1 (2000 + j) k) ∧ (∀ j, j < nC → ¬ sI S2 1112 j = 0 → ∀ k, sI Sc (3000 + j) k = if k = 8 then Int32.ofNat ((runF S2 nC nR nM 0).1 0 j) else sI S1 (3000 + j) k) ∧ ∀ j, j < nR → ∀ k, sI Sc (4000 + j) k = if k = 4 then Int32.ofNat (brF S2 j nM) else sI S1 (4000 + j) k
def stT (S2 Tc : Sg) (nC nR nM : Nat) : Prop := MW Tc ∧ (∀ x, ¬ (x = 1000 ∨ x = 1121 ∨ x = 1129 ∨ 1140 ≤ x ∧ x ≤ 1146 ∨ x = 1156 ∨ x = 1157 ∨ x = 1160) → vw Tc x = vw S2 x) ∧ (∀ k, ¬ k = 52 → sI Tc 1000 k = sI S2 1000 k) ∧ (∀ i, sI Tc 1121 i = if i < nC then Int32.ofNat ((runF S2 nC nR nM 0).1 0 i) else sI S2 1121 i) ∧ (∀ i, sI Tc 1129 i = if i < nR then Int32.ofNat (brF S2 i nM) else sI S2 1129 i) ∧ (∀ i, sL Tc 1156 i = if i < nC then gn ((runF S2 nC nR nM 0).1 4 i) else sL S2 1156 i) ∧ (∀ i, sL Tc 1157 i = if i < nC then gn ((runF S2 nC nR nM 0).1 5 i) else sL S2 1157 i) ∧ ∀ i, sI Tc 1160 i = if i < nC then Int32.ofNat ((runF S2 nC nR nM 0).1 6 i) else sI S2 1160 i
theorem iv_storm {Sc Tc : Sg} (h : IV S S2 nC nR nT nK nL nM nP td N lh) (cS : stS S S2 Sc nC nR nM) (cT : stT S2 Tc nC nR nM) (gU : GU Sc Tc) : IV Sc Tc nC nR nT nK nL nM nP td N lh := by
  have hV := h
  obtain ⟨hk, hM, hS, hU, hA, hW, hB, hC, hR, hT, hK, hL, hZ, hP, hN⟩ := h
  obtain ⟨s1, s2, s3, s4, s5⟩ := cS
  obtain ⟨t0, t1, t2, t4, t5, t6, t7, t8⟩ := cT
  have n12 := hC.2.1
  have n30 := hR.2.1
  have w0 := world_ok (v := 0) hA hB hC hR
  have b := rn_b w0 hZ.2.2.1
  have k : ∀ x, sK Sc x = sK S x := fun x => stK (s1 x)
  refine ⟨⟨(s2 1 (by omega)).trans hk.1, (s2 2 (by omega)).trans hk.2.1, fun x hx => by rw [k] at hx ⊢; exact hk.2.2 x hx⟩, t0, hS.keep (fun x _ _ _ => s1 x) (fun x hx => s2 x (by omega)) (fun x _ _ => k x), gU, hA.keep (fun x h1 h2 => s2 x (by omega)) (fun x h1 h2 => t1 x (by omega)), hW.keep (fun x hx => s2 x (by omega)) (fun x h1 h2 => t1 x (by omega)), ?_, ?_, ?_, hT.keep (fun x hx => s2 x (by omega)) (fun x h1 h2 h3 => t1 x (by omega)) (t2 4 (by omega)), hK.keep (fun x hx => s2 x (by omega)) (fun x h1 h2 => t1 x (by omega)) (t2 6 (by omega)), hL.keep (fun x hx => by unfold lawR at hx; exact s2 x (by omega)) (fun x h1 h2 => t1 x (by omega)) (t2 67 (by omega)), hZ.keep (fun j h1 h2 => by rw [vwI (s2 1000 (by omega))]) (fun j hj => t2 j (by omega)), hP.keep (fun x h1 h2 => s2 x (by omega)) (t1 1175 (by omega)) (t2 77 (by omega)), ⟨hN.1, fun x hx => by rw [k]; exact hN.2 x hx⟩⟩
  · -- beds
    intro i hi
    obtain ⟨b1, b2, b3, b4⟩ := hB i hi
    unfold bedB0 at b2 ⊢
    rw [vwI (t1 1112 (by omega)), vwI (t1 1118 (by omega)), vwI (t1 1119 (by omega)), vwI (t1 1120 (by omega)), vwI (t1 1122 (by omega)), k, k, t4 i]
    have old : ¬ i < nC → sI S2 1112 i = 0 := fun z => (hC.2.2.2.2.1 i (by omega) hi).2.1
    refine ⟨b1, ⟨b2.1, b2.2.1, ?_⟩, fun z => ?_, fun z => ?_⟩
    · by_cases e : i < nC
      · rw [if_pos e]
        have := b.2.2.2.2.2.2 i e
        have := (w0.2.1 i e).2.2.1
        exact ⟨_, Nat.zero_le _, by unfold runF; omega, rfl⟩
      · rw [if_neg e]; exact b2.2.2
    · obtain ⟨c1, c2, c3, c4, c5, c6, c7⟩ := b3 z
      refine ⟨c1, c2, c3, c4, c5, ?_, c7⟩
      by_cases e : i < nC
      · rw [if_pos e]
        have e1 := b.2.2.2.2.2.2 i e
        have e2 : wF S2 0 2 i = 0 := by
          rw [wF_old (by unfold isnw; rw [show (0 : Int32) >>> (Int32.ofNat i &&& 31) = 0 from by simp]; decide)]
          simp [wB, z]
        have e3 : (runF S2 nC nR nM 0).1 0 i = 0 := by unfold runF; omega
        rw [e3]; rfl
      · rw [if_neg e]; exact c6
    · obtain ⟨c1, c2⟩ := b4 z
      have e : i < nC := Classical.byContradiction (fun q => z (old q))
      unfold bedE bedB at *
      rw [vwI (t1 1113 (by omega)), vwI (t1 1114 (by omega)), vwI (t1 1115 (by omega)), vwI (t1 1116 (by omega)), vwI (t1 1117 (by omega)), vwI (t1 1118 (by omega)), vwI (t1 1119 (by omega)), vwI (t1 1120 (by omega)), vwI (t1 1122 (by omega)), vwI (t1 1123 (by omega)), vwI (t1 1124 (by omega)), k, k, stN (s1 (3100 + i)), stR (s1 (3000 + i)), vwI (s2 (3100 + i) (by omega)), t4 i, if_pos e]
      refine ⟨?_, c2⟩
      obtain ⟨a1, a2, a3, a4, a5, a6, a7, a8, a9, a10, a11, a12, a13, a14, a15, a16⟩ := c1
      simp only [s4 i e z, Nat.reduceEqDiff, if_true, if_false]
      exact ⟨a1, a2, a3, a4, a5, a6, a7, a8, a9, a10, a11, a12, trivial, a14, a15, a16⟩
  · -- corners
    obtain ⟨h1, h2, h3, h4, h5, h6⟩ := hC
    refine ⟨h1.keep (s2 1001 (by omega)) (fun a a1 a2 => s2 a (by omega)) (s2 2 (by omega)), h2, (t2 1 (by omega)).trans h3, fun i hi => ?_, fun i hi hi2 => ?_, fun i hi => ?_⟩
    · have c := h4 i hi
      unfold cornerE at c ⊢
      rw [k, stR (s1 (2000 + i)), vwI (t1 1107 (by omega)), vwI (t1 1108 (by omega)), vwI (t1 1109 (by omega)), vwI (t1 1110 (by omega)), vwI (t1 1111 (by omega)), vwI (t1 1112 (by omega)), t6 i, t7 i, t8 i, if_pos hi, if_pos hi, if_pos hi]
      obtain ⟨a1, a2, a3, a4, a5, a6, a7, a8, a9, a10⟩ := c
      simp only [s3 i hi, Nat.reduceEqDiff, if_true, if_false]
      exact ⟨a1, a2, a3, a4, a5, a6, g_32.symm, g_32.symm, trivial, a10⟩
    · rw [k, vwI (t1 1112 (by omega)), t6 i, t7 i, t8 i, if_neg (by omega), if_neg (by omega), if_neg (by omega)]
      exact h5 i hi hi2
    · have c := h6 i hi
      unfold cornerB at c ⊢
      rw [vwI (t1 1107 (by omega)), vwI (t1 1108 (by omega)), vwI (t1 1109 (by omega)), vwI (t1 1110 (by omega)), vwI (t1 1111 (by omega))]
      exact c
  · -- roofs
    have hR0 := hR
    obtain ⟨h1, h2, h3, h4, h5, h6⟩ := hR
    refine ⟨h1.keep (s2 1002 (by omega)) (fun a a1 a2 => s2 a (by omega)) (s2 2 (by omega)), h2, (t2 2 (by omega)).trans h3, fun i hi => ?_, fun i hi hi2 => ?_, fun i hi => ?_⟩
    · have c := h4 i hi
      unfold roofE at c ⊢
      rw [k, vwI (t1 1125 (by omega)), vwI (t1 1126 (by omega)), vwI (t1 1127 (by omega)), vwI (t1 1128 (by omega)), vwI (t1 1130 (by omega)), t5 i, if_pos hi]
      obtain ⟨a1, a2, a3, a4, a5, a6, a7, a8⟩ := c
      simp only [s5 i hi, Nat.reduceEqDiff, if_true, if_false]
      exact ⟨a1, a2, a3, a4, a5, trivial, a7, a8⟩
    · rw [k, vwI (t1 1130 (by omega)), t5 i, if_neg (by omega)]
      exact h5 i hi hi2
    · have c := h6 i hi
      obtain ⟨-, -, -, eb, lb, -, lh'⟩ := roof_e hR0 hi
      unfold roofB at c ⊢
      rw [vwI (t1 1125 (by omega)), vwI (t1 1127 (by omega)), vwI (t1 1128 (by omega)), vwI (t1 1130 (by omega)), t5 i, if_pos hi]
      exact ⟨c.1, c.2.1, ⟨brF S2 i nM, nt (sI S2 1128 i), br_le lh' nM, lb, rfl, eb⟩, c.2.2.2⟩
end SP
