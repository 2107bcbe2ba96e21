/-! ===== level 2: rules, the reference, and both ===== -/
section RY2
variable {S S2 T V : Sg} {f : Nat → Nat} {n s0 nC nR nT nK nL nM nP td N : Nat} {lh : Nat → Nat}
theorem TQ.vq {v : Int32} (h : TQ nL S2 V) : VQ nL S2 (pI V 1000 80 v) := by
  obtain ⟨h1, h2, h3, h4, h5, h6, h7⟩ := h
  refine ⟨fun x x1 x2 x3 => ?_, mw_pI h2 (by omega), fun x j x1 x2 x3 => ?_, fun x j x1 x2 x3 => ?_, fun k hk => ?_, h6, ?_⟩
  · rw [vw_pI x1]; exact h1 x x1 x2 (by omega) (by omega)
  · rw [sI_pI_ne (by omega)]; exact h3 x j x1 x2 x3
  · rw [sI_pI_ne (by omega)]
    by_cases e : x = 1168
    · subst e; exact h4 j x3
    · rw [vwI (h1 x (by omega) (by omega) (by omega) (by omega))]
  · rw [sI_pI_ne (by omega)]; exact h5 k (by omega)
  · rw [sI_pI_ne (by omega)]; exact h7
theorem m_rules {Q : Int32 → Sg → Prop} (hI : IV S S2 nC nR nT nK nL nM nP td N lh) (hf : ∀ j, j < nP → f j < 256 ∧ sI S2 1175 j = byt (f j)) (hn : n ≤ nP) (hl : nL < 10) (hg : GOODs f n s0) (h24 : s0 ≤ 24) (hend : psF f n s0 < n → s0 = 24 ∨ ∃ q, s0 < 24 ∧ (stF f n (psF f n s0)).2 = .inl q) (kY : ¬ psF f n s0 < n → ∀ V, VQ nL S2 V → sI V 1168 nL = Int32.ofNat s0 → sI V 1169 nL = Int32.ofNat td → sI V 1000 67 = Int32.ofNat (nL + 1) → sI V 1000 80 = -1 → (∀ i, i < s0 → rowE V (24 * nL + i) (stF f n (psF f n i)).1) → Q (Int32.ofNat nL) V) (kN : psF f n s0 < n → ∀ V q, VQ nL S2 V → sI V 1000 67 = Int32.ofNat nL → sI V 1000 80 = Int32.ofNat q → ((s0 = 24 ∧ q = psF f n s0) ∨ (s0 < 24 ∧ (stF f n (psF f n s0)).2 = .inl q)) → Q (-1) V) : P_X11_rules 1000 (Int32.ofNat n) S2 Q := by
  obtain ⟨hk, hM, hS, hU, hA, hW, hB, hC, hR, hT, hK, hL, hZ, hP, hN⟩ := hI
  have hp := hP.1
  have e67 := hL.2.2.1
  have z0 := hZ.2.2.2.2.1
  have e1 : inn (Int32.ofNat n) 0 (sI S2 1000 77) = 1 := by
    rw [hP.2.2.1]
    refine inn_y ?_ ((nn_le (by omega) (by omega)).mpr hn)
    show Int32.ofNat 0 ≤ _
    exact (nn_le (by omega) (by omega)).mpr (Nat.zero_le _)
  unfold P_X11_rules
  refine ⟨hM.o, p_isIn ?_⟩
  rw [e1]
  refine ⟨fun z => absurd z (by decide), fun _ => ⟨fun z => ?_, fun _ => ?_⟩⟩
  · rw [e67, show Int32.ofNat nL = (10 : Int32) ↔ nL = 10 from nl_eq (k := 10) (by omega) (by omega)] at z
    omega
  refine m_rulesC hM (by omega) (fun j hj => hf j (by omega)) hl e67 hg h24 hend (fun y V tq e68 hr => ?_) (fun y V q tq e79 ho => ?_)
  · unfold P_X11_rules_B169 P_X11_rules_B182
    have tq0 := tq
    obtain ⟨h1, h2, h3, h4, h5, h6, h7⟩ := tq
    refine ⟨fun z => absurd z (by decide), fun _ => ⟨1000, rfl, h2.o, fun s83 w83 => ⟨fun z => absurd z (by decide), fun _ => ?_⟩⟩⟩
    have q83 : VQ nL S2 s83 := by rw [w83]; exact tq0.vq
    have c67 : sI s83 1000 67 = Int32.ofNat nL := by rw [w83, sI_pI_ne (by omega), h5 67 (by omega)]; exact e67
    have c80 : sI s83 1000 80 = -1 := by rw [w83, sI_pI_eq]
    have c0 : sI s83 1000 0 = Int32.ofNat td := by rw [w83, sI_pI_ne (by omega), h5 0 (by omega)]; exact z0
    have c68 : sI s83 1168 nL = Int32.ofNat s0 := by rw [w83, sI_pI_ne (by omega)]; exact e68
    have cr : ∀ x j, 1170 ≤ x → x ≤ 1174 → sI s83 x j = sI V x j := fun x j x1 x2 => by rw [w83, sI_pI_ne (by omega)]
    clear w83
    obtain ⟨g1, g2, g3, g4, g5, g6, g7⟩ := q83
    have n11 : nL < 11 := by omega
    refine ⟨g2.o, 1169, g2.a69.1, g2.a69.2.1, by rw [c67]; simp (disch := first | omega | decide) only [Option.some.injEq, exists_eq_left', exists_eq_left, forall_eq, forall_eq', true_and, and_true, true_implies, implies_true, false_implies, not_true_eq_false, not_false_eq_true, reduceCtorEq, and_self, forall_const, i10, i01, if_true, if_false, and_false, false_and, Nat.not_lt_zero, sK_pI, sN_pI, sR_pI, sL_pI, sK_pL, sN_pL, sR_pL, sI_pL, sK_pR, sN_pR, sI_pR, sL_pR, sI_pI_eq, sI_pI_ne, sL_pL_eq, sL_pL_ne, sR_pR_eq, sR_pR_ne, nn_le, nat32_lt, nn_eq, ln_le, nl_le, ln_lt, nl_lt, ln_eq, nl_eq, n_m1, n_lt0, vp_n, vp_l, lc_n, nat32c, n_s, nI_n, g2.a69, n11], fun s92 w92 s95 w95 => ?_⟩
    rw [c67, c0, nat32c (by omega)] at w92
    have d67 : sI s92 1000 67 = Int32.ofNat nL := by rw [w92, sI_pI_ne (by omega)]; exact c67
    rw [d67, n_s] at w95
    have f67 : sI s95 1000 67 = Int32.ofNat (nL + 1) := by rw [w95, sI_pI_eq]
    have i95 : ∀ x j, ¬ x = 1000 → ¬ (x = 1169 ∧ j = nL) → sI s95 x j = sI s83 x j := fun x j x1 x2 => by rw [w95, sI_pI_ne (by omega), w92, sI_pI_ne (by omega)]
    rw [f67, n_p (by omega), show nL + 1 - 1 = nL from by omega]
    refine kY y s95 ⟨fun x x1 x2 x3 => ?_, ?_, fun x j x1 x2 x3 => ?_, fun x j x1 x2 x3 => ?_, fun k hk => ?_, ?_, ?_⟩ ?_ ?_ f67 ?_ (fun i hi => ?_)
    · rw [w95, vw_pI x1, w92, vw_pI (by omega)]; exact g1 x x1 x2 x3
    · rw [w95, w92]; exact mw_pI (mw_pI g2 (by omega)) (by omega)
    · rw [i95 x j (by omega) (by omega)]; exact g3 x j x1 x2 x3
    · rw [i95 x j (by omega) (by omega)]; exact g4 x j x1 x2 x3
    · rw [w95, sI_pI_ne (by omega), w92, sI_pI_ne (by omega)]; exact g5 k hk
    · rw [w95, w92]; exact g6
    · rw [w95, sI_pI_ne (by omega), w92, sI_pI_ne (by omega)]; exact g7
    · rw [i95 1168 nL (by omega) (by omega)]; exact c68
    · rw [w95, sI_pI_ne (by omega), w92, sI_pI_eq]
    · rw [w95, sI_pI_ne (by omega), w92, sI_pI_ne (by omega)]; exact c80
    · have r := hr i hi
      unfold rowE at r ⊢
      rw [i95 1170 _ (by omega) (by omega), i95 1171 _ (by omega) (by omega), i95 1172 _ (by omega) (by omega), i95 1173 _ (by omega) (by omega), i95 1174 _ (by omega) (by omega), cr 1170 _ (by omega) (by omega), cr 1171 _ (by omega) (by omega), cr 1172 _ (by omega) (by omega), cr 1173 _ (by omega) (by omega), cr 1174 _ (by omega) (by omega)]
      exact r
  · unfold P_X11_rules_B169 P_X11_rules_B182
    refine ⟨fun _ => ⟨tq.2.1.o, 1000, rfl, tq.2.1.o, fun s83 w83 => ⟨fun _ => ?_, fun z => absurd rfl z⟩⟩, fun z => absurd rfl z⟩
    rw [e79] at w83
    refine kN y s83 q (by rw [w83]; exact tq.vq) ?_ (by rw [w83, sI_pI_eq]) ho
    rw [w83, sI_pI_ne (by omega), tq.2.2.2.2.1 67 (by omega)]; exact e67
end RY2
theorem pr_rules : Pr_rules Inv := by
  intro S S2 hI v1
  have hI0 := hI
  obtain ⟨hk, hM, hS, hU, hA, hW, hB, nC, nR, nT, nK, nL, nM, nP, td, N, lh, hC, hR, hT, hK, hL, hZ, hP, hN⟩ := hI
  have iv : IV S S2 nC nR nT nK nL nM nP td N lh := ⟨hk, hM, hS, hU, hA, hW, hB, hC, hR, hT, hK, hL, hZ, hP, hN⟩
  obtain ⟨⟨g0, -, -, -, -, g4, -, g6, -⟩, ⟨t1, -⟩, -⟩ := hS
  have e1 : sI S 1020 0 = Int32.ofNat nP := hP.2.1
  have e2 : sI S2 1000 77 = Int32.ofNat nP := hP.2.2.1
  have hp := hP.1
  by_cases h0 : inn v1 0 (Int32.ofNat nP) = 0
  · unfold P_X10_rules P_X11_rules
    refine ⟨g0, 1020, g6, t1, p_within ?_⟩
    rw [e1]
    refine ⟨fun _ => ⟨hk, hM.o, p_isIn ?_⟩, fun z => absurd h0 z⟩
    rw [e2]
    exact ⟨fun _ => ⟨rfl, hI0⟩, fun z => absurd h0 z⟩
  obtain ⟨n, -, hn, rfl⟩ := inn_rg (lo := 0) (by omega) (by omega) h0
  have hl10 := hL.2.1
  have e67 := hL.2.2.1
  by_cases hl : nL < 10
  · let f : Nat → Nat := fun j => (sI S 1021 j).toNatClampNeg
    have hb : ∀ j, j < nP → f j < 256 ∧ sI S 1021 j = Int32.ofNat (f j) ∧ sI S2 1175 j = byt (f j) := fun j hj => by
      obtain ⟨b, b1, b2, b3⟩ := hP.2.2.2 j hj
      have : f j = b := by
        show (sI S 1021 j).toNatClampNeg = b
        rw [b2, nat32c (by omega)]
      rw [this]
      exact ⟨b1, b2, b3⟩
    refine x_rules (f := f) iv (fun j hj => ⟨(hb j hj).1, (hb j hj).2.1⟩) hn hl (fun T N0 N' th s0 ho hN0 rx e17 lw lS gn => ⟨rx.2.2.2.2.2, ?_⟩) (fun T N0 N' q ho hN0 rx e17 lS gn => ⟨rx.2.2.2.2.2, ?_⟩)
    · obtain ⟨hg, he, h24⟩ := ho
      refine m_rules (f := f) iv (fun j hj => ⟨(hb j hj).1, (hb j hj).2.2⟩) hn hl hg h24 (fun y => absurd y he) (fun _ V vq e68 e69 f67 e80 hr => ⟨rfl, ?_⟩) (fun y => absurd y he)
      refine iv_inv (iv_rules iv hN0 rx vq (e17.trans e80.symm) (nL' := nL + 1) ⟨lS, by omega, f67, fun r hr2 => ?_⟩ gn)
      have n0 := hN.1
      by_cases c : r = nL
      · subst c
        rw [if_pos rfl]
        exact ⟨lw.2.1.trans e69.symm, s0, h24, e68, nl_lawE lw (by omega) hg hr⟩
      · rw [if_neg c]
        exact gl_old hL hN hN0 rx vq (by omega)
    · obtain ⟨s0, hg, hlt, ho⟩ := ho
      refine m_rules (f := f) iv (fun j hj => ⟨(hb j hj).1, (hb j hj).2.2⟩) hn hl hg (by omega) (fun _ => ?_) (fun y => absurd hlt y) (fun _ V q' vq f67 e80 ho' => ⟨rfl, ?_⟩)
      · rcases ho with ⟨a, -⟩ | ⟨a, b⟩
        · exact Or.inl a
        · exact Or.inr ⟨q, a, b⟩
      · have eq : q' = q := by
          rcases ho with ⟨a, a2⟩ | ⟨a, b⟩
          · rcases ho' with ⟨c, c2⟩ | ⟨c, d⟩
            · rw [a2, c2]
            · omega
          · rcases ho' with ⟨c, c2⟩ | ⟨c, d⟩
            · omega
            · rw [b] at d; cases d; rfl
        subst eq
        exact iv_inv (iv_rules iv hN0 rx vq (e17.trans e80.symm) (nL' := nL) ⟨lS, hl10, f67, fun r hr => gl_old hL hN hN0 rx vq hr⟩ gn)
  · have e10 : nL = 10 := by omega
    unfold P_X10_rules P_X11_rules
    refine ⟨g0, 1020, g6, t1, p_within ?_⟩
    rw [e1]
    refine ⟨fun z => absurd z h0, fun _ => ⟨1005, g4, hL.1.1, p_size hL.1 ⟨fun z => absurd ((nl_lt (k := 10) (by omega) (by omega)).mp z) hl, fun _ => ⟨hk, hM.o, p_isIn ?_⟩⟩⟩⟩
    rw [e2]
    refine ⟨fun z => absurd z h0, fun _ => ⟨fun _ => ⟨rfl, hI0⟩, fun z => absurd (by rw [e67, e10]; rfl) z⟩⟩
