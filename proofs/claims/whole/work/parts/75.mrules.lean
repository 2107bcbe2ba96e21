/-! ===== level 2: rules, the reference's loop ===== -/
theorem byt_8 {b : Nat} (h : b < 256) : (byt b).toInt8.toInt32 = byt b := by
  apply Int32.toInt_inj.mp
  rw [Int8.toInt_toInt32, Int32.toInt_toInt8, byt_i h]
  split
  · exact Int.bmod_eq_of_le (by omega) (by omega)
  · exact Int.bmod_eq_of_le (by omega) (by omega)
/-- what rules() leaves as it was in the reference -/
def TR (nL : Nat) (S2 T : Sg) : Prop := (∀ x, ¬ x = 1000 → ¬ x = 1176 → ¬ x = 1168 → ¬ (1170 ≤ x ∧ x ≤ 1174) → vw T x = vw S2 x) ∧ MW T ∧ (∀ x j, 1170 ≤ x → x ≤ 1174 → j < 24 * nL → sI T x j = sI S2 x j) ∧ (∀ j, j < nL → sI T 1168 j = sI S2 1168 j) ∧ (∀ k, ¬ (k = 79 ∨ k = 81) → sI T 1000 k = sI S2 1000 k) ∧ sL T 1000 = sL S2 1000
theorem TR.tz {nL R : Nat} {S2 T U : Sg} (h : TR nL S2 T) (g : TZ R T U) (hR : 24 * nL ≤ R) : TR nL S2 U := ⟨fun x h1 h2 h3 h4 => (g.1 x h1 h4).trans (h.1 x h1 h2 h3 h4), g.2.1, fun x j h1 h2 h3 => (g.2.2.1 x j h1 h2 (by omega)).trans (h.2.2.1 x j h1 h2 h3), fun j hj => by rw [vwI (g.1 1168 (by omega) (by omega))]; exact h.2.2.2.1 j hj, fun k hk => (g.2.2.2.1 k (by omega) (by omega)).trans (h.2.2.2.2.1 k hk), g.2.2.2.2.trans h.2.2.2.2.2⟩
theorem TR.ty {nL : Nat} {S2 T U : Sg} (h : TR nL S2 T) (g : TY T U) : TR nL S2 U := h.tz (R := 24 * nL) ((TZ.refl h.2.1).ty g) (Nat.le_refl _)
section MR
variable {S2 T U : Sg} {f : Nat → Nat} {n nL : Nat}
/-- the reference behind s statements -/
def STs (S2 T : Sg) (f : Nat → Nat) (n nL s : Nat) : Prop := TR nL S2 T ∧ MT T f n (psF f n s) ∧ sI T 1168 nL = Int32.ofNat s ∧ ∀ i, i < s → rowE T (24 * nL + i) (stF f n (psF f n i)).1
theorem psF_sk {s : Nat} (h : GOODs f n s) (hs : ∀ i, i < s → ∀ p, (stF f n (psF f n i)).2 = .inr p → sk f n p = p) : sk f n (psF f n s) = psF f n s := by
  cases s with
  | zero => exact sk_sk
  | succ s => exact hs s (Nat.lt_succ_self _) _ (h s (Nat.lt_succ_self _)).2
theorem stepW_sk {i : Nat} {m : Nat ⊕ Nat} {p : Nat} (e : stepW f n i m = .inr p) : sk f n p = p := by
  cases m with
  | inl q => cases e
  | inr r =>
    by_cases t : tokW f n i r
    · rw [stepW_y t] at e
      cases e
      exact sk_sk
    · rw [stepW_n t] at e; cases e
theorem stF_sk {p r : Nat} (e : (stF f n p).2 = .inr r) : sk f n r = r := by
  by_cases y0 : tokW f n 0 p
  · rw [stF_0 y0] at e; exact stepW_sk e
  by_cases y4 : tokW f n 4 p
  · rw [stF_4 y4] at e; exact stepW_sk e
  by_cases y6 : tokW f n 6 p
  · rw [stF_6 y6] at e; exact stepW_sk e
  by_cases y7 : tokW f n 7 p
  · rw [stF_7 y7] at e; exact stepW_sk e
  by_cases y8 : tokW f n 8 p
  · rw [stF_8 y8] at e; exact stepW_sk e
  by_cases y9 : tokW f n 9 p
  · rw [stF_9 y9] at e; exact stepW_sk e
  by_cases y10 : tokW f n 10 p
  · rw [stF_10 y10] at e; exact stepW_sk e
  by_cases y11 : tokW f n 11 p
  · rw [stF_11 y11] at e; exact stepW_sk e
  by_cases y12 : tokW f n 12 p
  · rw [stF_12 y12] at e; exact stepW_sk e
  by_cases y15 : tokW f n 15 p
  · rw [stF_15 y15] at e; exact stepW_sk e
  by_cases y17 : tokW f n 17 p
  · rw [stF_17 y17] at e; exact stepW_sk e
  rw [show stF f n p = ((32, 0, 0, 0, 0), .inl p) from by unfold stF; rw [kwF_n y0, kwF_n y4, kwF_n y6, kwF_n y7, kwF_n y8, kwF_n y9, kwF_n y10, kwF_n y11, kwF_n y12, kwF_n y15, kwF_n y17]] at e
  cases e
theorem m_rulesL {s0 : Nat} {Q : Int32 → Sg → Prop} (hnL : nL < 10) (h67 : sI S2 1000 67 = Int32.ofNat nL) (hg : GOODs f n s0) (h24 : s0 ≤ 24) (hend : psF f n s0 < n → s0 = 24 ∨ ∃ q, s0 < 24 ∧ (stF f n (psF f n s0)).2 = .inl q) (h : STs S2 T f n nL 0) (kY : ¬ psF f n s0 < n → ∀ V, STs S2 V f n nL s0 → P_X11_rules_B169 1000 1 V Q) (kN : psF f n s0 < n → ∀ V q, TR nL S2 V → sI V 1000 79 = Int32.ofNat q → ((s0 = 24 ∧ q = psF f n s0) ∨ (s0 < 24 ∧ (stF f n (psF f n s0)).2 = .inl q)) → P_X11_rules_B169 1000 0 V Q) : P_X11_rules_L83 1000 1 T Q := by
  unfold P_X11_rules_L83
  refine ⟨fun m v V => (v = 1 ∧ ∃ s, s ≤ s0 ∧ m = s0 - s + 1 ∧ STs S2 V f n nL s) ∨ (v = 0 ∧ m = 0 ∧ psF f n s0 < n ∧ ∃ q, TR nL S2 V ∧ sI V 1000 79 = Int32.ofNat q ∧ ((s0 = 24 ∧ q = psF f n s0) ∨ (s0 < 24 ∧ (stF f n (psF f n s0)).2 = .inl q))), ⟨s0 + 1, Or.inl ⟨rfl, 0, Nat.zero_le _, rfl, h⟩⟩, ?_⟩
  intro m v V hI
  unfold P_X11_rules_L83b P_X11_rules_B140 P_X11_rules_B141
  rcases hI with ⟨rfl, s, hs, rfl, hV⟩ | ⟨rfl, rfl, hp, q, q1, q2, q3⟩
  · obtain ⟨r1, r2, r3, r4⟩ := hV
    have hM := r1.2.1
    have gs : GOODs f n s := fun i hi => hg i (by omega)
    have ps : sk f n (psF f n s) = psF f n s := psF_sk gs (fun i hi p e => stF_sk e)
    have e67 : sI V 1000 67 = Int32.ofNat nL := (r1.2.2.2.2.1 67 (by omega)).trans h67
    have n11 : nL < 11 := by omega
    have hn := r2.1.2.1
    have pn := r2.2.2
    refine ⟨fun z => absurd z (by decide), fun _ => ⟨hM.o, fun z => ?_, fun z => ⟨1168, hM.a68.1, hM.a68.2.1, by rw [e67]; simp (disch := first | omega | decide) only [Option.some.injEq, exists_eq_left', exists_eq_left, forall_eq, forall_eq', true_and, and_true, true_implies, implies_true, false_implies, not_true_eq_false, not_false_eq_true, reduceCtorEq, and_self, forall_const, i10, i01, if_true, if_false, and_false, false_and, Nat.not_lt_zero, sK_pI, sN_pI, sR_pI, sL_pI, sK_pL, sN_pL, sR_pL, sI_pL, sK_pR, sN_pR, sI_pR, sL_pR, sI_pI_eq, sI_pI_ne, sL_pL_eq, sL_pL_ne, sR_pR_eq, sR_pR_ne, nn_le, nat32_lt, nn_eq, ln_le, nl_le, ln_lt, nl_lt, ln_eq, nl_eq, n_m1, n_lt0, vp_n, vp_l, lc_n, nat32c, n_s, nI_n, hM.a68, n11], ?_⟩⟩⟩
    · rw [r2.1.2.2.1, r2.2.1, nn_le (by omega) (by omega)] at z
      by_cases e : s = s0
      · subst e; exact kY (by omega) V ⟨r1, r2, r3, r4⟩
      · have := (hg s (by omega)).1
        omega
    · rw [r2.1.2.2.1, r2.2.1, nn_le (by omega) (by omega)] at z
      have pl : psF f n s < n := by omega
      rw [e67, nat32c (by omega), r3, show (24 : Int32) ≤ Int32.ofNat s ↔ 24 ≤ s from ln_le (k := 24) (by omega) (by omega)]
      refine ⟨fun w => ⟨fun _ => ?_, fun y => absurd rfl y⟩, fun w => ⟨1168, hM.a68.1, hM.a68.2.1, by simp (disch := first | omega | decide) only [Option.some.injEq, exists_eq_left', exists_eq_left, forall_eq, forall_eq', true_and, and_true, true_implies, implies_true, false_implies, not_true_eq_false, not_false_eq_true, reduceCtorEq, and_self, forall_const, i10, i01, if_true, if_false, and_false, false_and, Nat.not_lt_zero, sK_pI, sN_pI, sR_pI, sL_pI, sK_pL, sN_pL, sR_pL, sI_pL, sK_pR, sN_pR, sI_pR, sL_pR, sI_pI_eq, sI_pI_ne, sL_pL_eq, sL_pL_ne, sR_pR_eq, sR_pR_ne, nn_le, nat32_lt, nn_eq, ln_le, nl_le, ln_lt, nl_lt, ln_eq, nl_eq, n_m1, n_lt0, vp_n, vp_l, lc_n, nat32c, n_s, nI_n, hM.a68, n11], ?_⟩⟩
      · have e : s = s0 := by omega
        subst e
        exact ⟨0, by omega, Or.inr ⟨rfl, rfl, pl, psF f n s, r1, r2.2.1, Or.inl ⟨by omega, rfl⟩⟩⟩
      · rw [r3, show (24 : Int32) = Int32.ofNat 24 from rfl, n_mul, n_add]
        refine m_statement (R := 24 * nL + s) r2 ps (by omega) (fun W q' z1 m1 e1 ro => ⟨fun y => absurd y (by decide), fun _ => ⟨fun y => absurd y (by decide), fun _ => ?_⟩⟩) (fun W r z1 m1 e1 => ⟨fun _ => ⟨fun _ => ?_, fun y => absurd rfl y⟩, fun y => absurd rfl y⟩)
        · have e : ¬ s = s0 := fun e => by
            subst e
            rcases hend pl with y | ⟨q, -, y⟩
            · omega
            · rw [e1] at y; cases y
          have g := hg s (by omega)
          rw [e1] at g
          have pe : sk f n q' = psF f n (s + 1) := by have := g.2; injection this
          have trW := r1.tz z1 (by omega)
          have hMW := z1.2.1
          have e67W : sI W 1000 67 = Int32.ofNat nL := (trW.2.2.2.2.1 67 (by omega)).trans h67
          have i68 : sI W 1168 nL = Int32.ofNat s := by rw [vwI (z1.1 1168 (by omega) (by omega))]; exact r3
          refine ⟨hMW.o, 1168, hMW.a68.1, hMW.a68.2.1, by rw [e67W]; simp (disch := first | omega | decide) only [Option.some.injEq, exists_eq_left', exists_eq_left, forall_eq, forall_eq', true_and, and_true, true_implies, implies_true, false_implies, not_true_eq_false, not_false_eq_true, reduceCtorEq, and_self, forall_const, i10, i01, if_true, if_false, and_false, false_and, Nat.not_lt_zero, sK_pI, sN_pI, sR_pI, sL_pI, sK_pL, sN_pL, sR_pL, sI_pL, sK_pR, sN_pR, sI_pR, sL_pR, sI_pI_eq, sI_pI_ne, sL_pL_eq, sL_pL_ne, sR_pR_eq, sR_pR_ne, nn_le, nat32_lt, nn_eq, ln_le, nl_le, ln_lt, nl_lt, ln_eq, nl_eq, n_m1, n_lt0, vp_n, vp_l, lc_n, nat32c, n_s, nI_n, hMW.a68, n11], by rw [e67W]; simp (disch := first | omega | decide) only [Option.some.injEq, exists_eq_left', exists_eq_left, forall_eq, forall_eq', true_and, and_true, true_implies, implies_true, false_implies, not_true_eq_false, not_false_eq_true, reduceCtorEq, and_self, forall_const, i10, i01, if_true, if_false, and_false, false_and, Nat.not_lt_zero, sK_pI, sN_pI, sR_pI, sL_pI, sK_pL, sN_pL, sR_pL, sI_pL, sK_pR, sN_pR, sI_pR, sL_pR, sI_pI_eq, sI_pI_ne, sL_pL_eq, sL_pL_ne, sR_pR_eq, sR_pR_ne, nn_le, nat32_lt, nn_eq, ln_le, nl_le, ln_lt, nl_lt, ln_eq, nl_eq, n_m1, n_lt0, vp_n, vp_l, lc_n, nat32c, n_s, nI_n, hMW.a68, n11], fun s67 w67 => ?_⟩
          rw [e67W, nat32c (by omega), i68, n_s] at w67
          have mt67 : MT s67 f n q' := by
            obtain ⟨⟨a1, a2, a3, a4⟩, a5, a6⟩ := m1
            rw [w67]
            exact ⟨⟨mw_pI a1 (by omega), a2, by rw [sI_pI_ne (by omega)]; exact a3, fun j hj => by rw [sI_pI_ne (by omega)]; exact a4 j hj⟩, by rw [sI_pI_ne (by omega)]; exact a5, a6⟩
          have tr67 : TR nL S2 s67 := by
            obtain ⟨a1, a2, a3, a4, a5, a6⟩ := trW
            rw [w67]
            exact ⟨fun x h1 h2 h3 h4 => by rw [vw_pI h3]; exact a1 x h1 h2 h3 h4, mw_pI a2 (by omega), fun x j h1 h2 h3 => by rw [sI_pI_ne (by omega)]; exact a3 x j h1 h2 h3, fun j hj => by rw [sI_pI_ne (by omega)]; exact a4 j hj, fun k hk => by rw [sI_pI_ne (by omega)]; exact a5 k hk, a6⟩
          refine m_blanks mt67.1 mt67.2.1 mt67.2.2 (fun Y y1 y2 y3 => ⟨s0 - (s + 1) + 1, by omega, Or.inl ⟨rfl, s + 1, by omega, rfl, tr67.ty y1, ?_, ?_, fun i hi => ?_⟩⟩)
          · rw [← pe]; exact mt67.ty y1 y2 (enn_le mt67.2.2)
          · rw [vwI (y1.1 1168 (by omega)), w67, sI_pI_eq]
          · have cells : ∀ x, 1170 ≤ x → x ≤ 1174 → sI Y x (24 * nL + i) = sI W x (24 * nL + i) := fun x h1 h2 => by
              rw [vwI (y1.1 x (by omega)), w67, sI_pI_ne (by omega)]
            unfold rowE
            rw [cells 1170 (by omega) (by omega), cells 1171 (by omega) (by omega), cells 1172 (by omega) (by omega), cells 1173 (by omega) (by omega), cells 1174 (by omega) (by omega)]
            by_cases c : i = s
            · subst c; exact ro
            · have old := r4 i (by omega)
              have ce : ∀ x, 1170 ≤ x → x ≤ 1174 → sI W x (24 * nL + i) = sI V x (24 * nL + i) := fun x h1 h2 => z1.2.2.1 x _ h1 h2 (by omega)
              rw [ce 1170 (by omega) (by omega), ce 1171 (by omega) (by omega), ce 1172 (by omega) (by omega), ce 1173 (by omega) (by omega), ce 1174 (by omega) (by omega)]
              exact old
        · have e : s = s0 := Classical.byContradiction (fun e => by
            have g := (hg s (by omega)).2
            rw [e1] at g; cases g)
          subst e
          exact ⟨0, by omega, Or.inr ⟨rfl, rfl, pl, r, r1.tz z1 (by omega), m1.2.1, Or.inr ⟨by omega, e1⟩⟩⟩
  · exact ⟨fun _ => kN hp V q q1 q2 q3, fun z => absurd rfl z⟩
/-- what rules() leaves as it was in the reference, the tape's length aside -/
def TQ (nL : Nat) (S2 T : Sg) : Prop := (∀ x, ¬ x = 1000 → ¬ x = 1176 → ¬ x = 1168 → ¬ (1170 ≤ x ∧ x ≤ 1174) → vw T x = vw S2 x) ∧ MW T ∧ (∀ x j, 1170 ≤ x → x ≤ 1174 → j < 24 * nL → sI T x j = sI S2 x j) ∧ (∀ j, j < nL → sI T 1168 j = sI S2 1168 j) ∧ (∀ k, ¬ (k = 77 ∨ k = 78 ∨ k = 79 ∨ k = 81) → sI T 1000 k = sI S2 1000 k) ∧ sL T 1000 = sL S2 1000 ∧ sI T 1000 77 = 0
theorem TR.tq {V W : Sg} (h : TQ nL S2 V) (g : TR nL V W) : TQ nL S2 W := ⟨fun x h1 h2 h3 h4 => (g.1 x h1 h2 h3 h4).trans (h.1 x h1 h2 h3 h4), g.2.1, fun x j h1 h2 h3 => (g.2.2.1 x j h1 h2 h3).trans (h.2.2.1 x j h1 h2 h3), fun j hj => (g.2.2.2.1 j hj).trans (h.2.2.2.1 j hj), fun k hk => (g.2.2.2.2.1 k (by omega)).trans (h.2.2.2.2.1 k hk), g.2.2.2.2.2.trans h.2.2.2.2.2.1, (g.2.2.2.2.1 77 (by omega)).trans h.2.2.2.2.2.2⟩
theorem m_rulesC {s0 : Nat} {Q : Int32 → Sg → Prop} (hM : MW S2) (hn : n ≤ 700) (hb : ∀ j, j < n → f j < 256 ∧ sI S2 1175 j = byt (f j)) (hnL : nL < 10) (h67 : sI S2 1000 67 = Int32.ofNat nL) (hg : GOODs f n s0) (h24 : s0 ≤ 24) (hend : psF f n s0 < n → s0 = 24 ∨ ∃ q, s0 < 24 ∧ (stF f n (psF f n s0)).2 = .inl q) (kY : ¬ psF f n s0 < n → ∀ V, TQ nL S2 V → sI V 1168 nL = Int32.ofNat s0 → (∀ i, i < s0 → rowE V (24 * nL + i) (stF f n (psF f n i)).1) → P_X11_rules_B169 1000 1 V Q) (kN : psF f n s0 < n → ∀ V q, TQ nL S2 V → sI V 1000 79 = Int32.ofNat q → ((s0 = 24 ∧ q = psF f n s0) ∨ (s0 < 24 ∧ (stF f n (psF f n s0)).2 = .inl q)) → P_X11_rules_B169 1000 0 V Q) : P_X11_rules_L29 1000 (Int32.ofNat n) 0 S2 Q := by
  unfold P_X11_rules_L29
  refine lpS (N := n) (s0 := 0) (R := fun j U => MW U ∧ (∀ x, ¬ x = 1176 → vw U x = vw S2 x) ∧ ∀ i, i < j → sI U 1176 i = byt (f i)) (B := fun x U K => P_X11_rules_L29b 1000 (Int32.ofNat n) x U Q K) rfl (Nat.zero_le _) ⟨hM, fun _ _ => rfl, fun i hi => absurd hi (Nat.not_lt_zero _)⟩ (fun j hj U hR K hK => ?_)
  obtain ⟨g1, g2, g3⟩ := hR
  unfold P_X11_rules_L29b
  refine ⟨fun e => ⟨g1.o, fun s7 w7 s10 w10 s13 w13 => ?_⟩, fun e => ⟨g1.o, 1175, g1.a75.1, g1.a75.2.1, ?_, 1176, g1.a76.1, g1.a76.2.1, ?_, fun s36 w36 x hx => ?_⟩⟩
  · rw [nn_le (by omega) (by omega)] at e
    have e2 : j = n := by omega
    subst e2
    have m13 : MW s13 := by rw [w13, w10, w7]; exact mw_pI (mw_pI (mw_pI g1 (by omega)) (by omega)) (by omega)
    have v13 : ∀ x, ¬ x = 1000 → ¬ x = 1176 → vw s13 x = vw S2 x := fun x h1 h2 => by rw [w13, vw_pI h1, w10, vw_pI h1, w7, vw_pI h1]; exact g2 x h2
    have i13 : ∀ k, ¬ (k = 77 ∨ k = 78 ∨ k = 79) → sI s13 1000 k = sI S2 1000 k := fun k hk => by rw [w13, sI_pI_ne (by omega), w10, sI_pI_ne (by omega), w7, sI_pI_ne (by omega), vwI (g2 1000 (by omega))]
    have l13 : sL s13 1000 = sL S2 1000 := by rw [w13, w10, w7]; exact (show sL U 1000 = sL S2 1000 from vwL (g2 1000 (by omega)))
    have t13 : ∀ i, i < j → sI s13 1176 i = byt (f i) := fun i hi => by rw [w13, sI_pI_ne (by omega), w10, sI_pI_ne (by omega), w7, sI_pI_ne (by omega)]; exact g3 i hi
    have e78 : sI s13 1000 78 = Int32.ofNat j := by rw [w13, sI_pI_ne (by omega), w10, sI_pI_ne (by omega), w7, sI_pI_eq]
    have e77 : sI s13 1000 77 = 0 := by rw [w13, sI_pI_ne (by omega), w10, sI_pI_eq]
    have e79 : sI s13 1000 79 = Int32.ofNat 0 := by rw [w13, sI_pI_eq]; rfl
    clear w13 w10 w7
    have n11 : nL < 11 := by omega
    have e67 : sI s13 1000 67 = Int32.ofNat nL := (i13 67 (by omega)).trans h67
    refine ⟨1168, m13.a68.1, m13.a68.2.1, by rw [e67]; simp (disch := first | omega | decide) only [Option.some.injEq, exists_eq_left', exists_eq_left, forall_eq, forall_eq', true_and, and_true, true_implies, implies_true, false_implies, not_true_eq_false, not_false_eq_true, reduceCtorEq, and_self, forall_const, i10, i01, if_true, if_false, and_false, false_and, Nat.not_lt_zero, sK_pI, sN_pI, sR_pI, sL_pI, sK_pL, sN_pL, sR_pL, sI_pL, sK_pR, sN_pR, sI_pR, sL_pR, sI_pI_eq, sI_pI_ne, sL_pL_eq, sL_pL_ne, sR_pR_eq, sR_pR_ne, nn_le, nat32_lt, nn_eq, ln_le, nl_le, ln_lt, nl_lt, ln_eq, nl_eq, n_m1, n_lt0, vp_n, vp_l, lc_n, nat32c, n_s, nI_n, m13.a68, n11], fun s20 w20 => ?_⟩
    rw [e67, nat32c (by omega)] at w20
    have tm20 : TM s20 f j := by
      rw [w20]
      exact ⟨mw_pI m13 (by omega), hn, by rw [sI_pI_ne (by omega)]; exact e78, fun i hi => ⟨(hb i hi).1, by rw [sI_pI_ne (by omega)]; exact t13 i hi⟩⟩
    have tq20 : TQ nL S2 s20 := by
      rw [w20]
      refine ⟨fun x h1 h2 h3 h4 => by rw [vw_pI h3]; exact v13 x h1 h2, mw_pI m13 (by omega), fun x i h1 h2 h3 => by rw [sI_pI_ne (by omega), vwI (v13 x (by omega) (by omega))], fun i hi => by rw [sI_pI_ne (by omega), vwI (v13 1168 (by omega) (by omega))], fun k hk => by rw [sI_pI_ne (by omega)]; exact i13 k (by omega), l13, by rw [sI_pI_ne (by omega)]; exact e77⟩
    refine m_blanks (q := 0) tm20 (by rw [w20, sI_pI_ne (by omega)]; exact e79) (Nat.zero_le _) (fun V v1 v2 v3 => ?_)
    have st0 : STs V V f j nL 0 := ⟨⟨fun _ _ _ _ _ => rfl, v1.2.1, fun _ _ _ _ _ => rfl, fun _ _ => rfl, fun _ _ => rfl, rfl⟩, ⟨tm20.ty v1, v2, enn_le (Nat.zero_le _)⟩, by rw [vwI (v1.1 1168 (by omega)), w20, sI_pI_eq]; rfl, fun i hi => absurd hi (Nat.not_lt_zero _)⟩
    have tqV : TQ nL S2 V := by
      obtain ⟨a1, a2, a3, a4, a5, a6, a7⟩ := tq20
      exact ⟨fun x h1 h2 h3 h4 => (v1.1 x h1).trans (a1 x h1 h2 h3 h4), v1.2.1, fun x i h1 h2 h3 => by rw [vwI (v1.1 x (by omega))]; exact a3 x i h1 h2 h3, fun i hi => by rw [vwI (v1.1 1168 (by omega))]; exact a4 i hi, fun k hk => (v1.2.2.1 k (by omega) (by omega)).trans (a5 k hk), v1.2.2.2.trans a6, (v1.2.2.1 77 (by omega) (by omega)).trans a7⟩
    exact m_rulesL hnL ((tqV.2.2.2.2.1 67 (by omega)).trans h67) hg h24 hend st0 (fun p W hW => kY p W (hW.1.tq tqV) hW.2.2.1 hW.2.2.2) (fun p W q hW e ho => kN p W q (hW.tq tqV) e ho)
  · rw [nn_le (by omega) (by omega)] at e
    have h7 : j < 700 := by omega
    simp (disch := first | omega | decide) only [Option.some.injEq, exists_eq_left', exists_eq_left, forall_eq, forall_eq', true_and, and_true, true_implies, implies_true, false_implies, not_true_eq_false, not_false_eq_true, reduceCtorEq, and_self, forall_const, i10, i01, if_true, if_false, and_false, false_and, Nat.not_lt_zero, sK_pI, sN_pI, sR_pI, sL_pI, sK_pL, sN_pL, sR_pL, sI_pL, sK_pR, sN_pR, sI_pR, sL_pR, sI_pI_eq, sI_pI_ne, sL_pL_eq, sL_pL_ne, sR_pR_eq, sR_pR_ne, nn_le, nat32_lt, nn_eq, ln_le, nl_le, ln_lt, nl_lt, ln_eq, nl_eq, n_m1, n_lt0, vp_n, vp_l, lc_n, nat32c, n_s, nI_n, g1.a75, h7]
  · rw [nn_le (by omega) (by omega)] at e
    have h7 : j < 700 := by omega
    simp (disch := first | omega | decide) only [Option.some.injEq, exists_eq_left', exists_eq_left, forall_eq, forall_eq', true_and, and_true, true_implies, implies_true, false_implies, not_true_eq_false, not_false_eq_true, reduceCtorEq, and_self, forall_const, i10, i01, if_true, if_false, and_false, false_and, Nat.not_lt_zero, sK_pI, sN_pI, sR_pI, sL_pI, sK_pL, sN_pL, sR_pL, sI_pL, sK_pR, sN_pR, sI_pR, sL_pR, sI_pI_eq, sI_pI_ne, sL_pL_eq, sL_pL_ne, sR_pR_eq, sR_pR_ne, nn_le, nat32_lt, nn_eq, ln_le, nl_le, ln_lt, nl_lt, ln_eq, nl_eq, n_m1, n_lt0, vp_n, vp_l, lc_n, nat32c, n_s, nI_n, g1.a76, h7]
  · rw [nn_le (by omega) (by omega)] at e
    rw [nat32c (by omega), vwI (g2 1175 (by omega)), (hb j (by omega)).2, byt_8 (hb j (by omega)).1] at w36
    rw [hx, n_s]
    refine hK (by omega) _ ⟨by rw [w36]; exact mw_pI g1 (by omega), fun x hx => by rw [w36, vw_pI hx]; exact g2 x hx, fun i hi => ?_⟩
    rw [w36]
    by_cases c : i = j
    · subst c; exact sI_pI_eq
    · rw [sI_pI_ne (by omega)]; exact g3 i (by omega)
end MR
