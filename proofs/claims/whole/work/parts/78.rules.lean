/-! ===== level 2: rules ===== -/
section RZ
variable {S S2 T V : Sg} {f : Nat → Nat} {n s0 nC nR nT nK nL nM nP td N : Nat} {lh : Nat → Nat}
theorem x_rules {Q : Int32 → Sg → Prop} (hI : IV S S2 nC nR nT nK nL nM nP td N lh) (hf : ∀ j, j < nP → f j < 256 ∧ sI S 1021 j = Int32.ofNat (f j)) (hn : n ≤ nP) (hl : nL < 10) (kY : ∀ T N0 N' th s0, OutY f n s0 → N ≤ N0 → RXr S T N0 → sI T 1000 17 = -1 → NLw T f n N0 nL s0 td th → Lst T 1005 5 (fun i => if i = nL then N0 else lh i) (nL + 1) → GN T N' → Q (Int32.ofNat nL) T) (kN : ∀ T N0 N' q, OutN f n q → N ≤ N0 → RXr S T N0 → sI T 1000 17 = Int32.ofNat q → Lst T 1005 5 lh nL → GN T N' → Q (-1) T) : P_X10_rules 1000 (Int32.ofNat n) S (1000, 14000) Q := by
  obtain ⟨hk, hM, hS, hU, hA, hW, hB, hC, hR, hT, hK, hL, hZ, hP, hN⟩ := hI
  obtain ⟨⟨g0, -, -, -, -, g4, -, g6, -⟩, ⟨t1, t2, t3, t4, -⟩, -⟩ := hS
  have n0 := hN.1
  have n1 := hN.2
  have hp := hP.1
  have z15 := hZ.2.2.2.1
  have e1 : inn (Int32.ofNat n) 0 (sI S 1020 0) = 1 := by
    rw [hP.2.1]
    refine inn_y ?_ ((nn_le (by omega) (by omega)).mpr hn)
    show Int32.ofNat 0 ≤ _
    exact (nn_le (by omega) (by omega)).mpr (Nat.zero_le _)
  obtain ⟨N0, hN0, hmx⟩ : ∃ N0, N ≤ N0 ∧ ∀ x, sK S x ≤ N0 := ⟨N + mxK S N, by omega, fun x => by
    by_cases c : x < N
    · have : sK S x ≤ mxK S N := mxK_le c
      omega
    · rw [n1 x (by omega)]; omega⟩
  unfold P_X10_rules
  refine ⟨g0, 1020, g6, t1, p_within ?_⟩
  rw [e1]
  refine ⟨fun z => absurd z (by decide), fun _ => ⟨1005, g4, hL.1.1, p_size hL.1 ⟨fun _ => ?_, fun z => absurd ((nl_lt (k := 10) (by omega) (by omega)).mpr hl) z⟩⟩⟩
  refine ⟨6, N0, by decide, by decide, by decide, n1 N0 hN0, by omega, fun s19 w19 => ?_⟩
  have v19 : ∀ x, ¬ x = N0 → vw s19 x = vw S x := fun x hx => by rw [w19]; exact vw_nw hx
  have q19 : vw s19 N0 = (6, 0, fun _ => 0, fun _ => 0, fun _ => none) := by rw [w19]; exact vw_nwq
  clear w19
  have l19 : Lst s19 1005 5 lh nL := hL.1.keep (v19 1005 (by omega)) (fun a a1 a2 => v19 a (fun e => by have := n1 a (by omega); omega)) (v19 2 (by omega))
  refine ⟨1005, by rw [vwR (v19 1000 (by omega))]; exact g4, l19.1, p_size l19 ⟨(2, 24), by decide, by decide, ?_⟩⟩
  refine p_lawInit (q1 := N0 + 1) (q2 := N0 + 2) (κ1 := 1) (κ2 := 16) (by rw [show sK s19 N0 = 6 from congrArg (fun z => z.1) q19]) (congrArg (fun z => z.2.2.1) q19) (congrArg (fun z => z.2.2.2.1) q19) (congrArg (fun z => z.2.2.2.2) q19) (by rw [vwK (v19 _ (by omega))]; exact n1 _ (by omega)) (by rw [vwK (v19 _ (by omega))]; exact n1 _ (by omega)) (by omega) (by omega) (by omega) (by decide) (by decide) ((v19 1 (by omega)).trans hk.1) (by omega) (by decide) (by decide) (fun s27 i27 => ?_)
  obtain ⟨i1, i2, i3, i4⟩ := i27
  have v27 : ∀ x, ¬ x = N0 → ¬ x = N0 + 1 → ¬ x = N0 + 2 → vw s27 x = vw S x := fun x h1 h2 h3 => (i4 x h1 h2 h3).trans (v19 x h1)
  have low : ∀ x, x < N0 → vw s27 x = vw S x := fun x hx => v27 x (by omega) (by omega) (by omega)
  have kq : sK s19 N0 = 6 := congrArg (fun z => z.1) q19
  have k27 : sK s27 N0 = 6 := (show sK s27 N0 = sK s19 N0 from congrArg (fun z => z.1) i1).trans kq
  have r27 : ∀ k, sR s27 N0 k = if k = 2 then some (N0 + 1) else if k = 3 then some (N0 + 2) else none := fun k => congrFun (show sR s27 N0 = _ from congrArg (fun z => z.2.2.2.2) i1) k
  have j27 : ∀ k, sI s27 N0 k = if k = 0 then sI s19 1000 15 else if k = 1 then Int32.ofNat nL else 0 := fun k => congrFun (show sI s27 N0 = _ from congrArg (fun z => z.2.2.1) i1) k
  have kA : sK s27 (N0 + 1) = 1 := congrArg (fun z => z.1) i2
  have rA : sR s27 (N0 + 1) 1 = some 2 := congrFun (show sR s27 (N0 + 1) = _ from congrArg (fun z => z.2.2.2.2) i2) 1
  have jA : sI s27 (N0 + 1) 2 = 0 := congrFun (show sI s27 (N0 + 1) = _ from congrArg (fun z => z.2.2.1) i2) 2
  have kB : sK s27 (N0 + 2) = 16 := congrArg (fun z => z.1) i3
  have nB : sN s27 (N0 + 2) = 21 := congrArg (fun z => z.2.1) i3
  have jB : ∀ w, w < 21 → sI s27 (N0 + 2) w = bareV w := fun w hw => (congrFun (show sI s27 (N0 + 2) = _ from congrArg (fun z => z.2.2.1) i3) w).trans (if_pos hw)
  have lb : LBs s27 N0 := ⟨by omega, by rw [k27], by rw [r27]; rfl, by rw [r27]; rfl, fun x hx => by have := hmx x; rw [vwK (low x hx)]; omega⟩
  have ok27 : okS s27 := ⟨(low 1 (by omega)).trans hk.1, (low 2 (by omega)).trans hk.2.1, fun x hx => by
    by_cases c1 : x = N0
    · rw [c1, k27]; exact Or.inr (Or.inr (by unfold wr; omega))
    · by_cases c2 : x = N0 + 1
      · rw [c2, kA]; exact Or.inr (Or.inr (by unfold wr; omega))
      · by_cases c3 : x = N0 + 2
        · rw [c3, kB]; exact Or.inr (Or.inr (by unfold wr; omega))
        · rw [vwK (v27 x c1 c2 c3)] at hx ⊢; exact hk.2.2 x hx⟩
  have gn27 : GN s27 (N0 + 3) := ⟨by omega, fun x hx => by rw [vwK (v27 x (by omega) (by omega) (by omega))]; exact n1 x (by omega)⟩
  have l27 : Lst s27 (N0 + 1) N0 (fun _ => 0) 0 := ⟨by rw [kA], jA, by omega, Or.inl ⟨rfl, rA, by rw [vwK (low 2 (by omega))]; exact congrArg (fun z => z.1) hk.2.1⟩⟩
  refine ⟨1020, by rw [vwR (low 1000 (by omega))]; exact g6, by rw [vwK (low 1020 (by omega))]; exact t1, (48, 1680), by decide, by decide, ?_⟩
  refine x_read (f := f) lb ok27 gn27 (Nat.le_refl _) (by rw [vwK (low 1020 (by omega))]; exact t1) (by rw [vwR (low 1020 (by omega))]; exact t2) (by rw [vwK (low 1021 (by omega))]; exact t3) (by rw [vwN (low 1021 (by omega))]; exact t4) (by omega) (fun j hj => ⟨(hf j (by omega)).1, by rw [vwI (low 1021 (by omega))]; exact (hf j (by omega)).2⟩) (by rw [kB]) nB jB l27 (by decide) (by decide) (fun σ N' th' s ho hc s45 w45 => ?_) (fun σ N' nums' tc' th' tv' q ho hc s45 w45 => ?_)
  · have hr := hc.2.1
    obtain ⟨rx, mid, e17, gn, vN, vB⟩ := rx_mid hk hN hN0 v27 hr w45
    refine ⟨fun _ => ?_, fun z => absurd e17 z⟩
    have l45 : Lst s45 1005 5 lh nL := hL.1.keep (mid 1005 (by omega) (by omega) (by omega)) (fun a a1 a2 => mid a (Nat.lt_of_not_le (fun e => by have := n1 a (by omega); omega)) (by omega) (by omega)) (mid 2 (by omega) (by omega) (by omega))
    refine ⟨1005, by rw [stR rx.2.2.1]; exact g4, l45.1, (1, 40), by decide, by decide, ?_⟩
    refine p_add (N := N') l45 (by omega) (by rw [vwK vN, k27]; decide) (fun i hi => ?_) gn.2 gn.1 (by decide) (by show 2 * nL + 10 ≤ 40; omega) (fun S' lS aS => ?_)
    · obtain ⟨-, st, -, -, b4⟩ := hL.2.2.2 i hi
      have kk := b4.2.1
      have k0 := b4.1.1
      rw [vwK (mid _ (Nat.lt_of_not_le (fun e => by have := n1 (lh i) (by omega); omega)) (by omega) (by omega))]
      omega
    · obtain ⟨h1, h2, h3, h4, h5, h6, h7, h8, h9, h10⟩ := hr
      obtain ⟨a1, a2, a3, a4⟩ := aS
      have up : ∀ x, N0 ≤ x → ¬ sK σ x = 0 → ¬ sK σ x = 20 + 32 * 5 → vw S' x = vw σ x := fun x x1 x2 x3 => by
        rw [a1 x (by omega) (fun z => x3 (by have := z.2; rw [vwK (vB x x1)] at this; exact this)) (fun e => x2 (by rw [e]; exact h2.2 N' (Nat.le_refl _)))]
        exact vB x x1
      have s27k : vw σ N0 = vw s27 N0 := (vB N0 (Nat.le_refl _)).symm.trans vN
      have uN : vw S' N0 = vw s27 N0 := (up N0 (Nat.le_refl _) (by rw [vwK s27k, k27]; decide) (by rw [vwK s27k, k27]; decide)).trans s27k
      have kL := h8.1
      have kB2 := h7.1
      have uA := up (N0 + 1) (by omega) (by omega) (by omega)
      have uB := up (N0 + 2) (by omega) (by omega) (by omega)
      have rX : RXr S S' N0 := by
        obtain ⟨b1, b2, b3, b4, b5, b6⟩ := rx
        refine ⟨fun x x1 x2 x3 x4 x5 => ?_, ?_, ?_, fun k hk => ?_, ?_, okS_added b6 ⟨a1, a2, a3, a4⟩ (by omega) gn⟩
        · rw [a1 x x4 (fun z => x5 ⟨z.1, by have := z.2; rw [vwK (mid x x1 x2 x3)] at this; exact this⟩) (by omega)]
          exact mid x x1 x2 x3
        · rw [stru_vw (a1 1020 (by omega) (by omega) (by omega))]; exact b2
        · rw [stru_vw (a1 1000 (by omega) (by omega) (by omega))]; exact b3
        · rw [vwI (a1 1000 (by omega) (by omega) (by omega))]; exact b4 k hk
        · rw [vwI (a1 1020 (by omega) (by omega) (by omega))]; exact b5
      have lw : NLw S' f n N0 nL s td th' := by
        refine ⟨by rw [vwK uN, k27], ?_, ?_, by rw [vwR uN, r27]; rfl, h8.keep uA (fun a a1 a2 => ?_) ((a1 2 (by omega) (by omega) (by omega)).trans ?_), by rw [vwR uN, r27]; rfl, by rw [vwK uB]; exact h7.1, by rw [vwN uB]; exact h7.2.1, fun w hw => by rw [vwI uB]; exact h7.2.2 w hw, fun i hi => ?_⟩
        · rw [vwI uN, j27, if_pos rfl, vwI (v19 1000 (by omega))]; exact z15
        · rw [vwI uN, j27, if_neg (by decide), if_pos rfl]
        · refine up a (Nat.le_of_not_lt (fun e => ?_)) (by omega) (by omega)
          by_cases e20 : a = 1020
          · omega
          · have := lb.2.2.2.2 a e
            rw [vwK (h4 a (by omega) e20)] at a2
            exact this a2
        · rw [mid 2 (by omega) (by omega) (by omega), h4 2 (by omega) (by omega)]; exact (low 2 (by omega)).symm
        · obtain ⟨c1, c2, c3⟩ := h10 i hi
          have ut := up (th' i) (by omega) (by omega) (by omega)
          rw [vwK ut, vwI ut]
          exact ⟨c1, c2, c3⟩
      have e1' : sI S' N0 1 = Int32.ofNat nL := lw.2.2.1
      rw [e1']
      exact kY S' N0 (N' + 1) th' s ho hN0 rX (by rw [vwI (a1 1000 (by omega) (by omega) (by omega))]; exact e17) lw lS ⟨by omega, a2⟩
  · have hq := hc.2.2.2
    have hr := hc.2.1
    obtain ⟨rx, mid, e17, gn, vN, vB⟩ := rx_mid hk hN hN0 v27 hr w45
    refine ⟨fun z => ?_, fun _ => kN s45 N0 N' q ho hN0 rx e17 (hL.1.keep (mid 1005 (by omega) (by omega) (by omega)) (fun a a1 a2 => mid a (Nat.lt_of_not_le (fun e => by have := n1 a (by omega); omega)) (by omega) (by omega)) (mid 2 (by omega) (by omega) (by omega))) gn⟩
    rw [e17] at z
    exact ((n_m1 (by have := hq.2; omega)).mp z).elim
end RZ
