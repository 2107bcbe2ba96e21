/-! ===== level 2: complaints ===== -/
def complT (S : Sg) (q : Nat) (c k d : Int32) : Sg := pI (pI (pI (pI (pI (pI (nw S q 3 0) q 4 1) q 5 1) q 0 c) q 1 k) q 2 d) q 3 d
def joinT (S : Sg) (k : Nat) (d : Int32) : Sg := pI (pI S (6000 + k) 3 d) (6000 + k) 4 (sI S (6000 + k) 4 + 1)
def joinM (S2 : Sg) (k : Nat) (d : Int32) : Sg := pI (pI S2 1164 k d) 1165 k (sI S2 1165 k + 1)
def newM (S2 : Sg) (n : Nat) (c k d : Int32) : Sg := pI (pI (pI (pI (pI (pI (pI S2 1161 n c) 1162 n k) 1163 n d) 1164 n d) 1165 n 1) 1166 n 1) 1000 6 (Int32.ofNat (n + 1))
section TE
variable {S S2 : Sg} {nC nR nT nK nL nM nP td N : Nat} {lh : Nat → Nat}
theorem x_tell {c k : Int32} {b : Nat × Nat} {Q : Int32 → Sg → Prop} (hok : okS S) (hS : GS S) (hK : GK S S2 nK td) (hN : GN S N) (hd : sI S 1000 15 = Int32.ofNat td) (hb : (∀ i, i < nK → ¬ joins S2 c k (Int32.ofNat td) i) → nK < 60 → 2 ≤ b.1 ∧ 136 ≤ b.2)
    (kJ : ∀ i, i < nK → joins S2 c k (Int32.ofNat td) i → Q (Int32.ofNat i) (joinT S i (Int32.ofNat td)))
    (kN : (∀ i, i < nK → ¬ joins S2 c k (Int32.ofNat td) i) → nK < 60 → ∀ S', Lst S' 1004 4 (fun i => 6000 + i) (nK + 1) → Grown S S' (6000 + nK) 1004 4 → vw S' (6000 + nK) = vw (complT S (6000 + nK) c k (Int32.ofNat td)) (6000 + nK) → GN S' (N + 1) → okS S' → Q (Int32.ofNat nK) S')
    (k0 : (∀ i, i < nK → ¬ joins S2 c k (Int32.ofNat td) i) → nK = 60 → Q (-1) S) : P_X10_tellComplaint 1000 c k S b Q := by
  have hn := hK.2.1
  unfold P_X10_tellComplaint P_X10_tellComplaint_L2
  refine lpS (N := nK) (s0 := 0) (R := fun j σ => σ = S ∧ ∀ i, i < j → ¬ joins S2 c k (Int32.ofNat td) i) (B := fun x σ K => P_X10_tellComplaint_L2b 1000 c k x σ (b.1, b.2) Q K) rfl (by omega) ⟨rfl, fun i hi => absurd hi (Nat.not_lt_zero _)⟩ (fun j hj σ hR K hK2 => ?_)
  obtain ⟨rfl, hno⟩ := hR
  unfold P_X10_tellComplaint_L2b
  refine ⟨hS.1.1, 1004, hS.1.2.2.2.2.1, hK.1.1, p_size hK.1 ⟨fun e => ?_, fun e => ?_⟩⟩
  · rw [nn_le (by omega) (by omega)] at e
    have e2 : j = nK := by omega
    subst e2
    refine ⟨1004, hS.1.2.2.2.2.1, hK.1.1, p_size hK.1 ⟨fun hlt => ?_, fun hlt => ?_⟩⟩
    · have hlt : j < 60 := (nl_lt (by omega) (by omega)).mp hlt
      obtain ⟨hb1, hb2⟩ := hb hno hlt
      have h0 := hK.2.2.2.2.1 j (Nat.le_refl _) hlt
      refine ⟨3, 6000 + j, by decide, by show 1 ≤ b.1; omega, by show 6 ≤ b.2; omega, h0, by omega, fun z hz => ?_, fun s1 e1 => ?_⟩
      · rw [hS.1.2.2.2.2.1] at hz; cases hz; have := hK.1.1; omega
      · subst e1
        have hd2 : sI (nw σ (6000 + j) 3 0) 1000 15 = Int32.ofNat td := by rw [sI_nw, if_neg (by omega)]; exact hd
        rw [hd2]
        refine p_complaintInit (by rw [sK_nw, if_pos rfl]) ?_
        refine ⟨1004, hS.1.2.2.2.2.1, ?_, (1, 130), by show 1 ≤ b.1 - 1; omega, by show 130 ≤ b.2 - 6; omega, p_grow (κ := 3) hok (fun x hx => by simp (disch := first | omega | decide) only [vw_pI, vw_nw]) (by simp (disch := first | omega | decide) only [sK_pI, sK_nw, if_true]) (by decide) (by omega) (by omega) h0 hK.1 (by omega) (by omega) (fun i hi => by have := (hK.2.2.2.1 i hi).1; omega) (by omega) hN (by decide) (by show 2 * j + 10 ≤ 130; omega) (fun S' a1 a2 a3 a4 a5 => ?_)⟩
        · have := hK.1.1
          simp (disch := first | omega | decide) only [sK_pI, sK_nw, if_neg]
          exact this
        · rw [el_same] at a1
          have hg := a2
          unfold Grown at hg
          refine ⟨1004, by rw [vwR (hg 1000 (by omega) (by omega) (by omega) (by omega))]; exact hS.1.2.2.2.2.1, a1.1, p_size a1 ?_⟩
          rw [n_p (by omega), Nat.add_sub_cancel]
          exact kN hno hlt S' a1 a2 a3 a4 a5
    · exact k0 hno (by
        have : ¬ j < 60 := fun z => hlt ((nl_lt (i := j) (k := 60) (by omega) (by omega)).mpr z)
        omega)
  · rw [nn_le (by omega) (by omega)] at e
    have hlt : j < nK := by omega
    obtain ⟨c0, c1, c2, c3, c4, c5, c6, c7, c8⟩ := hK.2.2.2.1 j hlt
    refine ⟨1004, hS.1.2.2.2.2.1, hK.1.1, p_get hK.1 hlt ⟨_, rfl, c0, ?_⟩⟩
    have nxt : ¬ joins S2 c k (Int32.ofNat td) j → K (Int32.ofNat (j + 1)) σ := fun hq => hK2 hlt _ ⟨rfl, fun i hi => by
      rcases Nat.lt_or_ge i j with w | w
      · exact hno i w
      · have : i = j := by omega
        subst this; exact hq⟩
    unfold P_X1_joins
    rw [c1, c2, c4, c6, hd]
    have no : ¬ joins S2 c k (Int32.ofNat td) j → ((0 : Int32) = 0 → ∀ x54 : Int32, x54 = Int32.ofNat j + 1 → K x54 σ) ∧ (¬ (0 : Int32) = 0 → Q (Int32.ofNat j) σ) := fun hq => ⟨fun _ y hy => by rw [hy, n_s]; exact nxt hq, fun h => absurd rfl h⟩
    refine ⟨c0, fun h => no (fun z => z.1 h), fun h => ⟨fun h1 => ⟨fun h2 => ⟨fun h3 s1 e1 s2 e2 => ⟨fun z => absurd z (by decide), fun _ => ?_⟩, fun h3 => no (fun z => h3 z.2.2.2)⟩, fun h2 => no (fun z => h2 z.2.2.1)⟩, fun h1 => no (fun z => h1 z.2.1)⟩⟩
    have := kJ j hlt ⟨h, h1, h2, h3⟩
    unfold joinT at this
    rw [e2, e1, sI_pI, if_neg (by omega)]
    exact this
theorem m_tell {c k : Int32} {Q : Int32 → Sg → Prop} (hM : MW S2) (hc : sI S2 1000 6 = Int32.ofNat nK) (hn : nK ≤ 60) (hd : sI S2 1000 0 = Int32.ofNat td)
    (kJ : ∀ i, i < nK → joins S2 c k (Int32.ofNat td) i → Q (Int32.ofNat i) (joinM S2 i (Int32.ofNat td)))
    (kN : (∀ i, i < nK → ¬ joins S2 c k (Int32.ofNat td) i) → nK < 60 → Q (Int32.ofNat nK) (newM S2 nK c k (Int32.ofNat td)))
    (k0 : (∀ i, i < nK → ¬ joins S2 c k (Int32.ofNat td) i) → nK = 60 → Q (-1) S2) : P_X11_complain_L26 1000 c k (Int32.ofNat nK - 1) S2 Q := by
  unfold P_X11_complain_L26
  refine ⟨fun n x => ∃ i, i ≤ nK ∧ n = i ∧ x = Int32.ofNat i - 1 ∧ ∀ m, i ≤ m → m < nK → ¬ joins S2 c k (Int32.ofNat td) m, ⟨nK, nK, Nat.le_refl _, rfl, rfl, fun m h1 h2 => by omega⟩, ?_⟩
  rintro n x ⟨i, hi, rfl, rfl, hno⟩
  generalize hKK : (fun v3 => ∃ n', n' < n ∧ ∃ i, i ≤ nK ∧ n' = i ∧ v3 = Int32.ofNat i - 1 ∧ ∀ m, i ≤ m → m < nK → ¬ joins S2 c k (Int32.ofNat td) m) = K
  unfold P_X11_complain_L26b P_X11_complain_B100
  rcases Nat.eq_zero_or_pos n with z | z
  · subst z
    have hno2 : ∀ i, i < nK → ¬ joins S2 c k (Int32.ofNat td) i := fun m h => hno m (Nat.zero_le _) h
    rw [z_m1]
    refine ⟨fun _ => ⟨hM.o, ?_⟩, fun h => absurd (by decide) h⟩
    rw [hc]
    by_cases h60 : nK = 60
    · refine ⟨fun _ => k0 hno2 h60, fun h => absurd (by rw [h60]; rfl) h⟩
    · have hlt : nK < 60 := by omega
      have q := kN hno2 hlt
      unfold newM at q
      refine ⟨fun h => absurd ((nl_eq (i := nK) (k := 60) (by omega) (by omega)).mp h) h60, fun _ => ?_⟩
      simp (disch := first | omega | decide) only [Option.some.injEq, exists_eq_left', exists_eq_left, forall_eq, forall_eq', true_and, and_true, true_implies, implies_true, false_implies, not_true_eq_false, not_false_eq_true, reduceCtorEq, and_self, forall_const, i10, i01, if_true, if_false, and_false, false_and, Nat.not_lt_zero, sK_pI, sN_pI, sR_pI, sL_pI, sK_pL, sN_pL, sR_pL, sI_pL, sK_pR, sN_pR, sI_pR, sL_pR, sI_pI_eq, sI_pI_ne, sL_pL_eq, sL_pL_ne, sR_pR_eq, sR_pR_ne, nn_le, nat32_lt, nn_eq, ln_le, nl_le, ln_lt, nl_lt, ln_eq, nl_eq, n_m1, n_lt0, vp_n, vp_l, lc_n, nat32c, n_s, nI_n, hM.o, hM.a61, hM.a62, hM.a63, hM.a64, hM.a65, hM.a66, hc, hd, hlt, n_p, Nat.add_sub_cancel]
      exact q
  · obtain ⟨j, rfl⟩ : ∃ j, n = j + 1 := ⟨n - 1, by omega⟩
    rw [n_p z, Nat.add_sub_cancel]
    have hj : j < nK := by omega
    have h60 : j < 60 := by omega
    have nxt : ¬ joins S2 c k (Int32.ofNat td) j → K (Int32.ofNat j + (-1)) := fun hq => by
      rw [← hKK]
      exact ⟨j, by omega, j, by omega, rfl, by rw [Int32.sub_eq_add_neg], fun m h1 h2 => by
        rcases Nat.lt_or_ge j m with w | w
        · exact hno m w h2
        · have : m = j := by omega
          subst this; exact hq⟩
    simp (disch := first | omega | decide) only [Option.some.injEq, exists_eq_left', exists_eq_left, forall_eq, forall_eq', true_and, and_true, true_implies, implies_true, false_implies, not_true_eq_false, not_false_eq_true, reduceCtorEq, and_self, forall_const, i10, i01, if_true, if_false, and_false, false_and, Nat.not_lt_zero, sK_pI, sN_pI, sR_pI, sL_pI, sK_pL, sN_pL, sR_pL, sI_pL, sK_pR, sN_pR, sI_pR, sL_pR, sI_pI_eq, sI_pI_ne, sL_pL_eq, sL_pL_ne, sR_pR_eq, sR_pR_ne, nn_le, nat32_lt, nn_eq, ln_le, nl_le, ln_lt, nl_lt, ln_eq, nl_eq, n_m1, n_lt0, vp_n, vp_l, lc_n, nat32c, n_s, nI_n, hM.o, hM.a61, hM.a62, hM.a64, hM.a65, hM.a66, hd, h60]
    refine ⟨fun h => nxt (fun q => q.1 h), fun h => ⟨fun h1 => ⟨fun h2 => ⟨fun h3 => ?_, fun h3 => nxt (fun q => h3 q.2.2.2)⟩, fun h2 => nxt (fun q => h2 q.2.2.1)⟩, fun h1 => nxt (fun q => h1 q.2.1)⟩⟩
    exact kJ j hj ⟨h, h1, h2, h3⟩
theorem gk_join {c k : Int32} {i : Nat} (hK : GK S S2 nK td) (hi : i < nK) (hj : joins S2 c k (Int32.ofNat td) i) : GK (joinT S i (Int32.ofNat td)) (joinM S2 i (Int32.ofNat td)) nK td := by
  have hn := hK.2.1
  unfold joinT joinM
  refine ⟨hK.1.keep (by simp (disch := first | omega | decide) only [vw_pI]) (fun a a1 a2 => by simp (disch := first | omega | decide) only [vw_pI]) (by simp (disch := first | omega | decide) only [vw_pI]), hn, by simp (disch := first | omega | decide) only [Option.some.injEq, exists_eq_left', exists_eq_left, forall_eq, forall_eq', true_and, and_true, true_implies, implies_true, false_implies, not_true_eq_false, not_false_eq_true, reduceCtorEq, and_self, forall_const, i10, i01, if_true, if_false, and_false, false_and, Nat.not_lt_zero, sK_pI, sN_pI, sR_pI, sL_pI, sK_pL, sN_pL, sR_pL, sI_pL, sK_pR, sN_pR, sI_pR, sL_pR, sI_pI_eq, sI_pI_ne, sL_pL_eq, sL_pL_ne, sR_pR_eq, sR_pR_ne, nn_le, nat32_lt, nn_eq, ln_le, nl_le, ln_lt, nl_lt, ln_eq, nl_eq, n_m1, n_lt0, vp_n, vp_l, lc_n, nat32c, n_s, nI_n, hK.2.2.1], fun j hj => ?_, fun j j1 j2 => hK.2.2.2.2.1 j j1 j2, fun c' k' a b ha hb ja jb => ?_⟩
  · obtain ⟨k0, k1, k2, k3, k4, k5, k6, k7, k8⟩ := hK.2.2.2.1 j hj
    by_cases e : j = i
    · subst e; simp (disch := first | omega | decide) only [Option.some.injEq, exists_eq_left', exists_eq_left, forall_eq, forall_eq', true_and, and_true, true_implies, implies_true, false_implies, not_true_eq_false, not_false_eq_true, reduceCtorEq, and_self, forall_const, i10, i01, if_true, if_false, and_false, false_and, Nat.not_lt_zero, sK_pI, sN_pI, sR_pI, sL_pI, sK_pL, sN_pL, sR_pL, sI_pL, sK_pR, sN_pR, sI_pR, sL_pR, sI_pI_eq, sI_pI_ne, sL_pL_eq, sL_pL_ne, sR_pR_eq, sR_pR_ne, nn_le, nat32_lt, nn_eq, ln_le, nl_le, ln_lt, nl_lt, ln_eq, nl_eq, n_m1, n_lt0, vp_n, vp_l, lc_n, nat32c, n_s, nI_n, complE, k0, k1, k2, k3, k4, k5, k6]; exact ⟨k7, td, by omega, by omega, rfl⟩
    · simp (disch := first | omega | decide) only [Option.some.injEq, exists_eq_left', exists_eq_left, forall_eq, forall_eq', true_and, and_true, true_implies, implies_true, false_implies, not_true_eq_false, not_false_eq_true, reduceCtorEq, and_self, forall_const, i10, i01, if_true, if_false, and_false, false_and, Nat.not_lt_zero, sK_pI, sN_pI, sR_pI, sL_pI, sK_pL, sN_pL, sR_pL, sI_pL, sK_pR, sN_pR, sI_pR, sL_pR, sI_pI_eq, sI_pI_ne, sL_pL_eq, sL_pL_ne, sR_pR_eq, sR_pR_ne, nn_le, nat32_lt, nn_eq, ln_le, nl_le, ln_lt, nl_lt, ln_eq, nl_eq, n_m1, n_lt0, vp_n, vp_l, lc_n, nat32c, n_s, nI_n, complE, k0, k1, k2, k3, k4, k5, k6]; exact ⟨k7, k8⟩
  · have q : ∀ a, ¬ a = i → joins (pI (pI S2 1164 i (Int32.ofNat td)) 1165 i (sI S2 1165 i + 1)) c' k' (Int32.ofNat td) a → joins S2 c' k' (Int32.ofNat td) a := fun a e ja => by
      unfold joins at ja ⊢
      simp (disch := first | omega | decide) only [sI_pI_ne] at ja
      exact ja
    have q2 : joins (pI (pI S2 1164 i (Int32.ofNat td)) 1165 i (sI S2 1165 i + 1)) c' k' (Int32.ofNat td) i → c' = c ∧ k' = k := fun ja => by
      unfold joins at ja
      simp (disch := first | omega | decide) only [sI_pI_ne] at ja
      exact ⟨ja.2.1.symm.trans hj.2.1, ja.2.2.1.symm.trans hj.2.2.1⟩
    by_cases ea : a = i
    · by_cases eb : b = i
      · rw [ea, eb]
      · subst ea
        obtain ⟨rfl, rfl⟩ := q2 ja
        exact hK.2.2.2.2.2 _ _ a b ha hb hj (q b eb jb)
    · by_cases eb : b = i
      · subst eb
        obtain ⟨rfl, rfl⟩ := q2 jb
        exact hK.2.2.2.2.2 _ _ a b ha hb (q a ea ja) hj
      · exact hK.2.2.2.2.2 _ _ a b ha hb (q a ea ja) (q b eb jb)
theorem gk_new {S' : Sg} {c k : Int32} (hK : GK S S2 nK td) (hlt : nK < 60) (hno : ∀ i, i < nK → ¬ joins S2 c k (Int32.ofNat td) i) (gL : Lst S' 1004 4 (fun i => 6000 + i) (nK + 1)) (hg : Grown S S' (6000 + nK) 1004 4) (gq : vw S' (6000 + nK) = vw (complT S (6000 + nK) c k (Int32.ofNat td)) (6000 + nK)) : GK S' (newM S2 nK c k (Int32.ofNat td)) (nK + 1) td := by
  unfold Grown at hg
  unfold newM
  refine ⟨gL, by omega, by simp (disch := first | omega | decide) only [Option.some.injEq, exists_eq_left', exists_eq_left, forall_eq, forall_eq', true_and, and_true, true_implies, implies_true, false_implies, not_true_eq_false, not_false_eq_true, reduceCtorEq, and_self, forall_const, i10, i01, if_true, if_false, and_false, false_and, Nat.not_lt_zero, sK_pI, sN_pI, sR_pI, sL_pI, sK_pL, sN_pL, sR_pL, sI_pL, sK_pR, sN_pR, sI_pR, sL_pR, sI_pI_eq, sI_pI_ne, sL_pL_eq, sL_pL_ne, sR_pR_eq, sR_pR_ne, nn_le, nat32_lt, nn_eq, ln_le, nl_le, ln_lt, nl_lt, ln_eq, nl_eq, n_m1, n_lt0, vp_n, vp_l, lc_n, nat32c, n_s, nI_n, true_and], fun j hj => ?_, fun j j1 j2 => ?_, fun c' k' a b ha hb ja jb => ?_⟩
  · by_cases e : j = nK
    · subst e
      unfold complE
      rw [vwK gq, vwI gq]
      unfold complT
      simp (disch := first | omega | decide) only [Option.some.injEq, exists_eq_left', exists_eq_left, forall_eq, forall_eq', true_and, and_true, true_implies, implies_true, false_implies, not_true_eq_false, not_false_eq_true, reduceCtorEq, and_self, forall_const, i10, i01, if_true, if_false, and_false, false_and, Nat.not_lt_zero, sK_pI, sN_pI, sR_pI, sL_pI, sK_pL, sN_pL, sR_pL, sI_pL, sK_pR, sN_pR, sI_pR, sL_pR, sI_pI_eq, sI_pI_ne, sL_pL_eq, sL_pL_ne, sR_pR_eq, sR_pR_ne, nn_le, nat32_lt, nn_eq, ln_le, nl_le, ln_lt, nl_lt, ln_eq, nl_eq, n_m1, n_lt0, vp_n, vp_l, lc_n, nat32c, n_s, nI_n, sK_nw, sI_nw]
      exact ⟨Or.inr rfl, td, by omega, by omega, rfl⟩
    · obtain ⟨k0, k1, k2, k3, k4, k5, k6, k7, k8⟩ := hK.2.2.2.1 j (by omega)
      have fj := hg (6000 + j) (by omega) (by omega) (by omega) (by omega)
      unfold complE
      rw [vwK fj, vwI fj]
      simp (disch := first | omega | decide) only [Option.some.injEq, exists_eq_left', exists_eq_left, forall_eq, forall_eq', true_and, and_true, true_implies, implies_true, false_implies, not_true_eq_false, not_false_eq_true, reduceCtorEq, and_self, forall_const, i10, i01, if_true, if_false, and_false, false_and, Nat.not_lt_zero, sK_pI, sN_pI, sR_pI, sL_pI, sK_pL, sN_pL, sR_pL, sI_pL, sK_pR, sN_pR, sI_pR, sL_pR, sI_pI_eq, sI_pI_ne, sL_pL_eq, sL_pL_ne, sR_pR_eq, sR_pR_ne, nn_le, nat32_lt, nn_eq, ln_le, nl_le, ln_lt, nl_lt, ln_eq, nl_eq, n_m1, n_lt0, vp_n, vp_l, lc_n, nat32c, n_s, nI_n, k0, k1, k2, k3, k4, k5, k6]
      exact ⟨k7, k8⟩
  · have fj := hg (6000 + j) (by omega) (by omega) (by omega) (by omega)
    rw [vwK fj]
    exact hK.2.2.2.2.1 j (by omega) j2
  · have q : ∀ a, ¬ a = nK → joins (pI (pI (pI (pI (pI (pI (pI S2 1161 nK c) 1162 nK k) 1163 nK (Int32.ofNat td)) 1164 nK (Int32.ofNat td)) 1165 nK 1) 1166 nK 1) 1000 6 (Int32.ofNat (nK + 1))) c' k' (Int32.ofNat td) a → joins S2 c' k' (Int32.ofNat td) a := fun a e ja => by
      unfold joins at ja ⊢
      simp (disch := first | omega | decide) only [sI_pI_ne] at ja
      exact ja
    have q2 : joins (pI (pI (pI (pI (pI (pI (pI S2 1161 nK c) 1162 nK k) 1163 nK (Int32.ofNat td)) 1164 nK (Int32.ofNat td)) 1165 nK 1) 1166 nK 1) 1000 6 (Int32.ofNat (nK + 1))) c' k' (Int32.ofNat td) nK → c' = c ∧ k' = k := fun ja => by
      unfold joins at ja
      simp (disch := first | omega | decide) only [sI_pI_ne, sI_pI_eq] at ja
      exact ⟨ja.2.1.symm, ja.2.2.1.symm⟩
    by_cases ea : a = nK
    · by_cases eb : b = nK
      · rw [ea, eb]
      · subst ea
        obtain ⟨rfl, rfl⟩ := q2 ja
        exact absurd (q b eb jb) (hno b (by omega))
    · by_cases eb : b = nK
      · subst eb
        obtain ⟨rfl, rfl⟩ := q2 jb
        exact absurd (q a ea ja) (hno a (by omega))
      · exact hK.2.2.2.2.2 _ _ a b (by omega) (by omega) (q a ea ja) (q b eb jb)
end TE
theorem pr_complain : Pr_complain Inv := by
  intro S S2 hI v1 v2
  have hI0 := hI
  obtain ⟨hk, hM, hS, hU, hA, hW, hB, nC, nR, nT, nK, nL, nM, nP, td, N, lh, hC, hR, hT, hK, hL, hZ, hP, hN⟩ := hI
  unfold P_X10_complain P_X11_complain
  have hn := hK.2.1
  simp only [within_e, isIn_e]
  by_cases hc : isC v1 nC
  case neg => simp (disch := first | omega | decide) only [Option.some.injEq, exists_eq_left', exists_eq_left, forall_eq, forall_eq', true_and, and_true, true_implies, implies_true, false_implies, not_true_eq_false, not_false_eq_true, reduceCtorEq, and_self, forall_const, i10, i01, if_true, if_false, and_false, false_and, Nat.not_lt_zero, sK_pI, sN_pI, sR_pI, sL_pI, sK_pL, sN_pL, sR_pL, sI_pL, sK_pR, sN_pR, sI_pR, sL_pR, sI_pI_eq, sI_pI_ne, sL_pL_eq, sL_pL_ne, sR_pR_eq, sR_pR_ne, nn_le, nat32_lt, nn_eq, ln_le, nl_le, ln_lt, nl_lt, ln_eq, nl_eq, n_m1, n_lt0, vp_n, vp_l, lc_n, nat32c, n_s, nI_n, hS.1, hM.o, cornerAt_n hS hC hc, isCorner_n hM hC.2.2.1 hC.2.1 hc, hk, hI0]
  obtain ⟨i, hi, rfl⟩ := hc
  rw [cornerAt_y hS hC hi]
  simp only [isCorner_y hM hC.2.2.1 hC.2.1 hi]
  by_cases h1 : inn v2 0 3 = 0
  · simp (disch := first | omega | decide) only [Option.some.injEq, exists_eq_left', exists_eq_left, forall_eq, forall_eq', true_and, and_true, true_implies, implies_true, false_implies, not_true_eq_false, not_false_eq_true, reduceCtorEq, and_self, forall_const, i10, i01, if_true, if_false, and_false, false_and, Nat.not_lt_zero, sK_pI, sN_pI, sR_pI, sL_pI, sK_pL, sN_pL, sR_pL, sI_pL, sK_pR, sN_pR, sI_pR, sL_pR, sI_pI_eq, sI_pI_ne, sL_pL_eq, sL_pL_ne, sR_pR_eq, sR_pR_ne, nn_le, nat32_lt, nn_eq, ln_le, nl_le, ln_lt, nl_lt, ln_eq, nl_eq, n_m1, n_lt0, vp_n, vp_l, lc_n, nat32c, n_s, nI_n, h1, hS.1, hM.o, hk, hI0]
  refine ⟨hS.1.1, And.intro (fun h => absurd h (by simp)) (fun c3 hc3 => ⟨fun h => absurd h h1, fun _ => ⟨(1000, 14000), Nat.le_refl _, Nat.le_refl _, ?_⟩⟩)⟩
  have z4 := hZ.2.2.2.1
  have z5 := hZ.2.2.2.2.1
  have ref : ∀ {Q : Int32 → Sg → Prop}, P_X11_complain_L26 1000 (Int32.ofNat i) v2 (Int32.ofNat nK - 1) S2 Q → (sK S2 1000 % 32 = 13 ∧ ((1 : Int32) = 0 → Q (-1) S2) ∧ (¬ (1 : Int32) = 0 → (inn v2 0 3 = 0 → Q (-1) S2) ∧ (¬ inn v2 0 3 = 0 → ∀ x6 : Int32, x6 = (sI S2 1000 6) - 1 → P_X11_complain_L26 1000 (Int32.ofNat i) v2 x6 S2 Q))) := fun h => ⟨hM.o, fun z => absurd z (by decide), fun _ => ⟨fun z => absurd z h1, fun _ x hx => by rw [hx, hK.2.2.1]; exact h⟩⟩
  refine x_tell hk hS hK hN z4 (fun _ _ => ⟨by decide, by decide⟩) (fun j hj hjj => ⟨?_, ref (Q := fun r2 S2' => Int32.ofNat j = r2 ∧ Inv (joinT S j (Int32.ofNat td)) S2') (m_tell hM hK.2.2.1 hn z5 (fun j2 hj2 hjj2 => ?_) (fun hno _ => absurd hjj (hno j hj)) (fun hno _ => absurd hjj (hno j hj)))⟩) (fun hno hlt S' gL hg gq hgN hgo => ⟨hgo, ref (Q := fun r2 S2' => Int32.ofNat nK = r2 ∧ Inv S' S2') (m_tell hM hK.2.2.1 hn z5 (fun j2 hj2 hjj2 => absurd hjj2 (hno j2 hj2)) (fun _ _ => ⟨rfl, ?_⟩) (fun _ h60 => by omega))⟩) (fun hno h60 => ⟨hk, ref (Q := fun r2 S2' => -1 = r2 ∧ Inv S S2') (m_tell hM hK.2.2.1 hn z5 (fun j2 hj2 hjj2 => absurd hjj2 (hno j2 hj2)) (fun _ hlt => by omega) (fun _ _ => ⟨rfl, hI0⟩))⟩)
  · exact okS_pI (okS_pI hk (by omega)) (by omega)
  · have e := hK.2.2.2.2.2 _ _ j j2 hj hj2 hjj hjj2
    subst e
    have gk := gk_join hK hj hjj
    refine ⟨rfl, ?_⟩
    unfold joinT joinM at gk ⊢
    exact ⟨(okS_pI (okS_pI hk (by omega)) (by omega)), (mw_pI (mw_pI hM (by omega)) (by omega)), (hS.keep (fun x _ _ _ => rfl) (fun x hx => by simp (disch := first | omega | decide) only [vw_pI, vw_pL]) (fun x _ _ => rfl)), (hU.keep (by simp (disch := first | omega | decide) only [vw_pI, vw_pL]) (fun k h1 h2 => by simp (disch := first | omega | decide) only [sL_pL_ne, sL_pI])), (hA.keep (fun x h1 h2 => by simp (disch := first | omega | decide) only [vw_pI, vw_pL]) (fun x h1 h2 => by simp (disch := first | omega | decide) only [vw_pI, vw_pL])), (hW.keep (fun x hx => by simp (disch := first | omega | decide) only [vw_pI, vw_pL]) (fun x h1 h2 => by simp (disch := first | omega | decide) only [vw_pI, vw_pL])), (hB.keep (fun x h1 h2 => by simp (disch := first | omega | decide) only [vw_pI, vw_pL]) (fun x h1 h2 => by simp (disch := first | omega | decide) only [vw_pI, vw_pL])), nC, nR, nT, nK, nL, nM, nP, td, N, lh, (hC.keep (fun x hx => by simp (disch := first | omega | decide) only [vw_pI, vw_pL]) (fun x hx => by simp (disch := first | omega | decide) only [vw_pI, vw_pL]) (by simp (disch := first | omega | decide) only [sI_pI_ne, sI_pL])), (hR.keep (Nat.le_refl _) (Nat.le_refl _) (fun x hx => by simp (disch := first | omega | decide) only [vw_pI, vw_pL]) (fun x h1 h2 => by simp (disch := first | omega | decide) only [vw_pI, vw_pL]) (by simp (disch := first | omega | decide) only [sI_pI_ne, sI_pL])), (hT.keep (fun x hx => by simp (disch := first | omega | decide) only [vw_pI, vw_pL]) (fun x h1 h2 h3 => by simp (disch := first | omega | decide) only [vw_pI, vw_pL]) (by simp (disch := first | omega | decide) only [sI_pI_ne, sI_pL])), gk, (hL.keep (fun x hx => by unfold lawR at hx; simp (disch := first | omega | decide) only [vw_pI, vw_pL]) (fun x h1 h2 => by simp (disch := first | omega | decide) only [vw_pI, vw_pL]) (by simp (disch := first | omega | decide) only [sI_pI_ne, sI_pL])), (hZ.keep (fun k h1 h2 => by simp (disch := first | omega | decide) only [sI_pI_ne, sI_pL]) (fun k hk => by simp (disch := first | omega | decide) only [sI_pI_ne, sI_pL])), (hP.keep (fun x h1 h2 => by simp (disch := first | omega | decide) only [vw_pI, vw_pL]) (by simp (disch := first | omega | decide) only [vw_pI, vw_pL]) (by simp (disch := first | omega | decide) only [sI_pI_ne, sI_pL])), hN⟩
  · have gk := gk_new hK hlt hno gL hg gq
    unfold Grown at hg
    unfold newM at gk ⊢
    exact ⟨hgo, (mw_pI (mw_pI (mw_pI (mw_pI (mw_pI (mw_pI (mw_pI hM (by omega)) (by omega)) (by omega)) (by omega)) (by omega)) (by omega)) (by omega)), (hS.keep (fun x h1 h2 h3 => stru_vw (hg x (by omega) (by omega) (by omega) (by omega))) (fun x hx => hg x (by omega) (by omega) (by omega) (by omega)) (fun x h1 h2 => vwK (hg x (by omega) (by omega) (by omega) (by omega)))), (hU.keep (hg 1054 (by omega) (by omega) (by omega) (by omega)) (fun k h1 h2 => by simp (disch := first | omega | decide) only [sL_pL_ne, sL_pI])), (hA.keep (fun x h1 h2 => hg x (by omega) (by omega) (by omega) (by omega)) (fun x h1 h2 => by simp (disch := first | omega | decide) only [vw_pI, vw_pL])), (hW.keep (fun x hx => hg x (by omega) (by omega) (by omega) (by omega)) (fun x h1 h2 => by simp (disch := first | omega | decide) only [vw_pI, vw_pL])), (hB.keep (fun x h1 h2 => hg x (by omega) (by omega) (by omega) (by omega)) (fun x h1 h2 => by simp (disch := first | omega | decide) only [vw_pI, vw_pL])), nC, nR, nT, nK + 1, nL, nM, nP, td, N + 1, lh, (hC.keep (fun x hx => hg x (by omega) (by omega) (by omega) (by omega)) (fun x hx => by simp (disch := first | omega | decide) only [vw_pI, vw_pL]) (by simp (disch := first | omega | decide) only [sI_pI_ne, sI_pL])), (hR.keep (by omega) (Nat.le_refl _) (fun x hx => hg x (by omega) (by omega) (by omega) (by omega)) (fun x h1 h2 => by simp (disch := first | omega | decide) only [vw_pI, vw_pL]) (by simp (disch := first | omega | decide) only [sI_pI_ne, sI_pL])), (hT.keep (fun x hx => hg x (by omega) (by omega) (by omega) (by omega)) (fun x h1 h2 h3 => by simp (disch := first | omega | decide) only [vw_pI, vw_pL]) (by simp (disch := first | omega | decide) only [sI_pI_ne, sI_pL])), gk, (hL.keep (fun x hx => by unfold lawR at hx; exact hg x (by omega) (by omega) (by omega) (by omega)) (fun x h1 h2 => by simp (disch := first | omega | decide) only [vw_pI, vw_pL]) (by simp (disch := first | omega | decide) only [sI_pI_ne, sI_pL])), (hZ.keep (fun k h1 h2 => by rw [vwI (hg 1000 (by omega) (by omega) (by omega) (by omega))]) (fun k hk => by simp (disch := first | omega | decide) only [sI_pI_ne, sI_pL])), (hP.keep (fun x h1 h2 => hg x (by omega) (by omega) (by omega) (by omega)) (by simp (disch := first | omega | decide) only [vw_pI, vw_pL]) (by simp (disch := first | omega | decide) only [sI_pI_ne, sI_pL])), hgN⟩
