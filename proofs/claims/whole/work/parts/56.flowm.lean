/-! ===== level 2: the reference's storm ===== -/
/-- what storms leave as it was in the reference -/
def SM (S2 T : Sg) : Prop := MW T ∧ (∀ x, ¬ (x = 1000 ∨ 1140 ≤ x ∧ x ≤ 1146) → vw T x = vw S2 x) ∧ (∀ k, ¬ k = 52 → sI T 1000 k = sI S2 1000 k) ∧ ∀ k, ¬ (47 ≤ k ∧ k ≤ 51) → sL T 1000 k = sL S2 1000 k
theorem SM.refl {S2 : Sg} (h : MW S2) : SM S2 S2 := ⟨h, fun _ _ => rfl, fun _ _ => rfl, fun _ _ => rfl⟩
theorem SM.trans {S T U : Sg} (h : SM S T) (g : SM T U) : SM S U := ⟨g.1, fun x hx => (g.2.1 x hx).trans (h.2.1 x hx), fun k hk => (g.2.2.1 k hk).trans (h.2.2.1 k hk), fun k hk => (g.2.2.2 k hk).trans (h.2.2.2 k hk)⟩
theorem SM.pI {S T : Sg} {a k : Nat} {v : Int32} (h : SM S T) (ha : (1140 ≤ a ∧ a ≤ 1146) ∨ (a = 1000 ∧ k = 52)) : SM S (pI T a k v) := h.trans ⟨mw_pI h.1 (by omega), fun x hx => vw_pI (by omega), fun j hj => sI_pI_ne (by omega), fun j _ => rfl⟩
theorem SM.pL {S T : Sg} {a k : Nat} {v : Int64} (h : SM S T) (ha : (1140 ≤ a ∧ a ≤ 1146) ∨ (a = 1000 ∧ 47 ≤ k ∧ k ≤ 51)) : SM S (pL T a k v) := h.trans ⟨mw_pL h.1 (by omega), fun x hx => vw_pL (by omega), fun j _ => rfl, fun j hj => sL_pL_ne (by omega)⟩
theorem SM.v {S T : Sg} (h : SM S T) {x : Nat} (h1 : 1100 ≤ x) (h2 : x < 1140) : vw T x = vw S x := h.2.1 x (by omega)
section FM
variable {S S2 T U : Sg} {nC nR nT nK nL nM nP td N : Nat} {lh : Nat → Nat}
theorem iv_sm (h : IV S S2 nC nR nT nK nL nM nP td N lh) (g : SM S2 T) : IV S T nC nR nT nK nL nM nP td N lh := by
  obtain ⟨hk, hM, hS, hU, hA, hW, hB, hC, hR, hT, hK, hL, hZ, hP, hN⟩ := h
  obtain ⟨g1, g2, g3, g4⟩ := g
  exact ⟨hk, g1, hS, hU.keep rfl (fun k h1 h2 => g4 k (by omega)), hA.keep (fun x _ _ => rfl) (fun x h1 h2 => g2 x (by omega)), hW.keep (fun x _ => rfl) (fun x h1 h2 => g2 x (by omega)), hB.keep (fun x _ _ => rfl) (fun x h1 h2 => g2 x (by omega)), hC.keep (fun x _ => rfl) (fun x hx => g2 x (by omega)) (g3 1 (by omega)), hR.keep (Nat.le_refl _) (Nat.le_refl _) (fun x _ => rfl) (fun x h1 h2 => g2 x (by omega)) (g3 2 (by omega)), hT.keep (fun x _ => rfl) (fun x h1 h2 _ => g2 x (by omega)) (g3 4 (by omega)), hK.keep (fun x _ => rfl) (fun x h1 h2 => g2 x (by omega)) (g3 6 (by omega)), hL.keep (fun x _ => rfl) (fun x h1 h2 => g2 x (by omega)) (g3 67 (by omega)), hZ.keep (fun k _ _ => rfl) (fun k hk => g3 k (by omega)), hP.keep (fun x _ _ => rfl) (g2 1175 (by omega)) (g3 77 (by omega)), hN⟩
abbrev gn (n : Nat) : Int64 := Int64.ofNat n
def MX (S2 T : Sg) (st : Ms) (n c D : Nat) : Prop := SM S2 T ∧ (∀ j, j < n → sI T 1141 j = Int32.ofNat (st 0 j) ∧ sL T 1144 j = gn (st 4 j) ∧ sL T 1145 j = gn (st 5 j) ∧ sI T 1146 j = Int32.ofNat (st 6 j)) ∧ (∀ j, c ≤ j → j < n → sL T 1142 j = gn (st 1 j) ∧ sL T 1143 j = gn (st 2 j)) ∧ sL T 1000 48 = gn (D + su (st 3) n) ∧ sL T 1000 49 = gn (su (st 4) n) ∧ sI T 1000 52 = Int32.ofNat (su (st 6) n)
/-- barrels and the sums of rain and works are as they were -/
def MR (T U : Sg) : Prop := (∀ r, sI U 1140 r = sI T 1140 r) ∧ sL U 1000 47 = sL T 1000 47 ∧ sL U 1000 50 = sL T 1000 50 ∧ sL U 1000 51 = sL T 1000 51
theorem MR.refl (T : Sg) : MR T T := ⟨fun _ => rfl, rfl, rfl, rfl⟩
theorem MR.trans {V : Sg} (h : MR T U) (g : MR U V) : MR T V := ⟨fun r => (g.1 r).trans (h.1 r), g.2.1.trans h.2.1, g.2.2.1.trans h.2.2.1, g.2.2.2.trans h.2.2.2⟩
theorem MR.pI {a k : Nat} {v : Int32} (h : MR T U) (ha : ¬ a = 1140) : MR T (pI U a k v) := h.trans ⟨fun r => sI_pI_ne (by omega), rfl, rfl, rfl⟩
theorem MR.pL {a k : Nat} {v : Int64} (h : MR T U) (ha : ¬ a = 1000 ∨ (k = 48 ∨ k = 49)) : MR T (pL U a k v) := h.trans ⟨fun r => rfl, sL_pL_ne (by omega), sL_pL_ne (by omega), sL_pL_ne (by omega)⟩
theorem q_st_su {w st : Ms} {be : Nat → Option Nat} {c own k n : Nat} (hc : c < n) (h1 : ¬ k = 1) (h2 : ¬ k = 2) : su (q_st w be st c own k) n + st k c = su (st k) n + q_st w be st c own k c := su_upd (f := st k) (g := q_st w be st c own k) (fun j hj => by simp [q_st, hj, h1, h2]) hc
theorem m_413 {w st : Ms} {be : Nat → Option Nat} {n c x D acc : Nat} {u1 u2 : Int32} {Q : Unit → Sg → Prop} {K : Int64 → Int32 → Sg → Prop} (hc : c < n) (hn : n ≤ 12) (pb : (sI S2 1111 c = -1 ∧ be c = none) ∨ ∃ b, c < b ∧ b < n ∧ sI S2 1111 c = Int32.ofNat b ∧ be c = some b) (f : SM S2 T) (fj : ∀ j, j < n → sI T 1141 j = Int32.ofNat (q_st w be st c x 0 j) ∧ sL T 1144 j = gn (q_st w be st c x 4 j) ∧ sL T 1145 j = gn (q_st w be st c x 5 j) ∧ sI T 1146 j = Int32.ofNat (q_st w be st c x 6 j)) (f1 : ∀ j, c ≤ j → j < n → sL T 1142 j = gn (st 1 j) ∧ sL T 1143 j = gn (st 2 j)) (f48 : sL T 1000 48 = gn (D + su (q_st w be st c x 3) n)) (f49 : sL T 1000 49 = gn (su (q_st w be st c x 4) n)) (f52 : sI T 1000 52 = Int32.ofNat (su (q_st w be st c x 6) n)) (k : ∀ T', MX S2 T' (q_st w be st c x) n (c + 1) D → MR T T' → K (gn (acc + q_ou w be st c x)) (Int32.ofNat (c + 1)) T') : P_X11_minute_B413 1000 u1 u2 (gn acc) (Int32.ofNat c) (gn (q_ca w st c x)) (gn (q_ru w be st c x)) T Q K := by
  have h12 : c < 12 := by omega
  have e11 : sI T 1111 c = sI S2 1111 c := by rw [vwI (f.v (x := 1111) (by omega) (by omega))]
  unfold P_X11_minute_B413 P_X11_minute_B466
  refine ⟨f.1.o, 1111, f.1.a11.1, f.1.a11.2.1, by simp (disch := first | omega | decide) only [Option.some.injEq, exists_eq_left', exists_eq_left, forall_eq, forall_eq', true_and, and_true, true_implies, implies_true, false_implies, not_true_eq_false, not_false_eq_true, reduceCtorEq, and_self, forall_const, i10, i01, if_true, if_false, and_false, false_and, Nat.not_lt_zero, sK_pI, sN_pI, sR_pI, sL_pI, sK_pL, sN_pL, sR_pL, sI_pL, sK_pR, sN_pR, sI_pR, sL_pR, sI_pI_eq, sI_pI_ne, sL_pL_eq, sL_pL_ne, sR_pR_eq, sR_pR_ne, nn_le, nat32_lt, nn_eq, ln_le, nl_le, ln_lt, nl_lt, ln_eq, nl_eq, n_m1, n_lt0, vp_n, vp_l, lc_n, nat32c, n_s, nI_n, f.1.a11, h12], ?_⟩
  rw [nat32c (by omega), e11]
  rcases pb with ⟨e, eb⟩ | ⟨b, b1, b2, e, eb⟩
  · refine ⟨fun _ y hy z hz => ?_, fun z => absurd e z⟩
    have ou : q_ou w be st c x = q_ca w st c x := by unfold q_ou; rw [if_pos eb]
    rw [ou] at k
    rw [hy, hz, n_s, g_add]
    refine k T ⟨f, fj, fun j h1 h2 => ?_, f48, f49, f52⟩ (MR.refl T)
    rw [q_st_o (k := 1) (by omega) (by rw [eb]; intro z; cases z), q_st_o (k := 2) (by omega) (by rw [eb]; intro z; cases z)]
    exact f1 j (by omega) h2
  · have hb12 : b < 12 := by omega
    refine ⟨fun z => absurd z (by rw [e]; exact fun q => (n_m1 (by omega)).mp q), fun _ => ⟨1111, f.1.a11.1, f.1.a11.2.1, by simp (disch := first | omega | decide) only [Option.some.injEq, exists_eq_left', exists_eq_left, forall_eq, forall_eq', true_and, and_true, true_implies, implies_true, false_implies, not_true_eq_false, not_false_eq_true, reduceCtorEq, and_self, forall_const, i10, i01, if_true, if_false, and_false, false_and, Nat.not_lt_zero, sK_pI, sN_pI, sR_pI, sL_pI, sK_pL, sN_pL, sR_pL, sI_pL, sK_pR, sN_pR, sI_pR, sL_pR, sI_pI_eq, sI_pI_ne, sL_pL_eq, sL_pL_ne, sR_pR_eq, sR_pR_ne, nn_le, nat32_lt, nn_eq, ln_le, nl_le, ln_lt, nl_lt, ln_eq, nl_eq, n_m1, n_lt0, vp_n, vp_l, lc_n, nat32c, n_s, nI_n, f.1.a11, h12], 1143, f.1.a43.1, f.1.a43.2.1, ?_⟩⟩
    have ou : q_ou w be st c x = 0 := by unfold q_ou; rw [if_neg (by rw [eb]; intro z; cases z)]
    rw [ou] at k
    rw [e11, e, nat32c (by omega), (f1 b (by omega) b2).2, g_add]
    refine ⟨by simp (disch := first | omega | decide) only [Option.some.injEq, exists_eq_left', exists_eq_left, forall_eq, forall_eq', true_and, and_true, true_implies, implies_true, false_implies, not_true_eq_false, not_false_eq_true, reduceCtorEq, and_self, forall_const, i10, i01, if_true, if_false, and_false, false_and, Nat.not_lt_zero, sK_pI, sN_pI, sR_pI, sL_pI, sK_pL, sN_pL, sR_pL, sI_pL, sK_pR, sN_pR, sI_pR, sL_pR, sI_pI_eq, sI_pI_ne, sL_pL_eq, sL_pL_ne, sR_pR_eq, sR_pR_ne, nn_le, nat32_lt, nn_eq, ln_le, nl_le, ln_lt, nl_lt, ln_eq, nl_eq, n_m1, n_lt0, vp_n, vp_l, lc_n, nat32c, n_s, nI_n, f.1.a43, hb12], by simp (disch := first | omega | decide) only [Option.some.injEq, exists_eq_left', exists_eq_left, forall_eq, forall_eq', true_and, and_true, true_implies, implies_true, false_implies, not_true_eq_false, not_false_eq_true, reduceCtorEq, and_self, forall_const, i10, i01, if_true, if_false, and_false, false_and, Nat.not_lt_zero, sK_pI, sN_pI, sR_pI, sL_pI, sK_pL, sN_pL, sR_pL, sI_pL, sK_pR, sN_pR, sI_pR, sL_pR, sI_pI_eq, sI_pI_ne, sL_pL_eq, sL_pL_ne, sR_pR_eq, sR_pR_ne, nn_le, nat32_lt, nn_eq, ln_le, nl_le, ln_lt, nl_lt, ln_eq, nl_eq, n_m1, n_lt0, vp_n, vp_l, lc_n, nat32c, n_s, nI_n, f.1.a43, hb12], fun t1 q1 => ?_⟩
    have m1 : SM S2 t1 := by rw [q1]; exact f.pL (by omega)
    have e11' : sI t1 1111 c = Int32.ofNat b := by rw [q1, sI_pL, e11, e]
    refine ⟨1111, m1.1.a11.1, m1.1.a11.2.1, by simp (disch := first | omega | decide) only [Option.some.injEq, exists_eq_left', exists_eq_left, forall_eq, forall_eq', true_and, and_true, true_implies, implies_true, false_implies, not_true_eq_false, not_false_eq_true, reduceCtorEq, and_self, forall_const, i10, i01, if_true, if_false, and_false, false_and, Nat.not_lt_zero, sK_pI, sN_pI, sR_pI, sL_pI, sK_pL, sN_pL, sR_pL, sI_pL, sK_pR, sN_pR, sI_pR, sL_pR, sI_pI_eq, sI_pI_ne, sL_pL_eq, sL_pL_ne, sR_pR_eq, sR_pR_ne, nn_le, nat32_lt, nn_eq, ln_le, nl_le, ln_lt, nl_lt, ln_eq, nl_eq, n_m1, n_lt0, vp_n, vp_l, lc_n, nat32c, n_s, nI_n, m1.1.a11, h12], 1142, m1.1.a42.1, m1.1.a42.2.1, ?_⟩
    rw [e11', nat32c (by omega)]
    refine ⟨by simp (disch := first | omega | decide) only [Option.some.injEq, exists_eq_left', exists_eq_left, forall_eq, forall_eq', true_and, and_true, true_implies, implies_true, false_implies, not_true_eq_false, not_false_eq_true, reduceCtorEq, and_self, forall_const, i10, i01, if_true, if_false, and_false, false_and, Nat.not_lt_zero, sK_pI, sN_pI, sR_pI, sL_pI, sK_pL, sN_pL, sR_pL, sI_pL, sK_pR, sN_pR, sI_pR, sL_pR, sI_pI_eq, sI_pI_ne, sL_pL_eq, sL_pL_ne, sR_pR_eq, sR_pR_ne, nn_le, nat32_lt, nn_eq, ln_le, nl_le, ln_lt, nl_lt, ln_eq, nl_eq, n_m1, n_lt0, vp_n, vp_l, lc_n, nat32c, n_s, nI_n, m1.1.a42, hb12], by simp (disch := first | omega | decide) only [Option.some.injEq, exists_eq_left', exists_eq_left, forall_eq, forall_eq', true_and, and_true, true_implies, implies_true, false_implies, not_true_eq_false, not_false_eq_true, reduceCtorEq, and_self, forall_const, i10, i01, if_true, if_false, and_false, false_and, Nat.not_lt_zero, sK_pI, sN_pI, sR_pI, sL_pI, sK_pL, sN_pL, sR_pL, sI_pL, sK_pR, sN_pR, sI_pR, sL_pR, sI_pI_eq, sI_pI_ne, sL_pL_eq, sL_pL_ne, sR_pR_eq, sR_pR_ne, nn_le, nat32_lt, nn_eq, ln_le, nl_le, ln_lt, nl_lt, ln_eq, nl_eq, n_m1, n_lt0, vp_n, vp_l, lc_n, nat32c, n_s, nI_n, m1.1.a42, hb12], fun t2 q2 z hz => ?_⟩
    rw [q1, sL_pL_ne (by omega), (f1 b (by omega) b2).1, g_add] at q2
    rw [hz, n_s]
    rw [q2]
    refine k _ ⟨(f.pL (by omega)).pL (by omega), fun j hj => ?_, fun j h1 h2 => ?_, ?_, ?_, ?_⟩ (((MR.refl T).pL (by omega)).pL (by omega))
    · simp (disch := first | omega | decide) only [sI_pL, sL_pL_ne]; exact fj j hj
    · by_cases e2 : j = b
      · subst e2
        obtain ⟨-, r1, r2, -⟩ := q_st_b (w := w) (st := st) (own := x) eb (by omega)
        rw [r1, r2]
        refine ⟨?_, ?_⟩ <;> simp (disch := first | omega | decide) only [sL_pL_ne, sL_pL_eq]
      · rw [q_st_o (k := 1) (by omega) (by rw [eb]; intro z; cases z; exact e2 rfl), q_st_o (k := 2) (by omega) (by rw [eb]; intro z; cases z; exact e2 rfl)]
        simp (disch := first | omega | decide) only [sL_pL_ne]
        exact f1 j (by omega) h2
    · simp (disch := first | omega | decide) only [sL_pL_ne]; exact f48
    · simp (disch := first | omega | decide) only [sL_pL_ne]; exact f49
    · simp (disch := first | omega | decide) only [sI_pL]; exact f52
theorem m_318 {w st : Ms} {be : Nat → Option Nat} {n c x D acc : Nat} {u1 u2 : Int32} {Q : Unit → Sg → Prop} {K : Int64 → Int32 → Sg → Prop} (hc : c < n) (hn : n ≤ 12) (p1 : sI S2 1110 c = Int32.ofNat (w 1 c)) (pw : w 1 c ≤ 500) (pb : (sI S2 1111 c = -1 ∧ be c = none) ∨ ∃ b, c < b ∧ b < n ∧ sI S2 1111 c = Int32.ofNat b ∧ be c = some b) (b5 : st 5 c ≤ 500) (bca : q_ca w st c x ≤ 500) (bbe : q_be w st c x ≤ 960000) (f : SM S2 T) (f0 : ∀ j, j < n → sI T 1141 j = Int32.ofNat (q_st w be st c x 0 j)) (fj : ∀ j, j < n → sL T 1144 j = gn (st 4 j) ∧ sL T 1145 j = gn (st 5 j) ∧ sI T 1146 j = Int32.ofNat (st 6 j)) (f1 : ∀ j, c ≤ j → j < n → sL T 1142 j = gn (st 1 j) ∧ sL T 1143 j = gn (st 2 j)) (f48 : sL T 1000 48 = gn (D + su (q_st w be st c x 3) n)) (f49 : sL T 1000 49 = gn (su (st 4) n)) (f52 : sI T 1000 52 = Int32.ofNat (su (st 6) n)) (k : ∀ T', MX S2 T' (q_st w be st c x) n (c + 1) D → MR T T' → K (gn (acc + q_ou w be st c x)) (Int32.ofNat (c + 1)) T') : P_X11_minute_B318 1000 u1 u2 (gn acc) (Int32.ofNat c) (gn (q_ca w st c x)) (gn (q_be w st c x)) (gn (q_ru w be st c x)) T Q K := by
  have h12 : c < 12 := by omega
  have hru : q_ru w be st c x ≤ q_be w st c x := by unfold q_ru; split <;> omega
  obtain ⟨fc4, fc5, fc6⟩ := fj c hc
  obtain ⟨s0, s1, s2, s3, s4, s5, s6⟩ := q_st_c (w := w) (be := be) (st := st) (c := c) (own := x)
  have u4 := q_st_su (w := w) (be := be) (st := st) (own := x) (k := 4) hc (by omega) (by omega)
  have u6 := q_st_su (w := w) (be := be) (st := st) (own := x) (k := 6) hc (by omega) (by omega)
  have so : ∀ j k, ¬ j = c → ¬ k = 1 → ¬ k = 2 → q_st w be st c x k j = st k j := fun j k h1 h2 h3 => by simp [q_st, h1, h2, h3]
  unfold P_X11_minute_B318
  refine ⟨f.1.o, 1145, f.1.a45.1, f.1.a45.2.1, by simp (disch := first | omega | decide) only [Option.some.injEq, exists_eq_left', exists_eq_left, forall_eq, forall_eq', true_and, and_true, true_implies, implies_true, false_implies, not_true_eq_false, not_false_eq_true, reduceCtorEq, and_self, forall_const, i10, i01, if_true, if_false, and_false, false_and, Nat.not_lt_zero, sK_pI, sN_pI, sR_pI, sL_pI, sK_pL, sN_pL, sR_pL, sI_pL, sK_pR, sN_pR, sI_pR, sL_pR, sI_pI_eq, sI_pI_ne, sL_pL_eq, sL_pL_ne, sR_pR_eq, sR_pR_ne, nn_le, nat32_lt, nn_eq, ln_le, nl_le, ln_lt, nl_lt, ln_eq, nl_eq, n_m1, n_lt0, vp_n, vp_l, lc_n, nat32c, n_s, nI_n, f.1.a45, h12], fun x97 hx97 => ⟨1145, f.1.a45.1, f.1.a45.2.1, by simp (disch := first | omega | decide) only [Option.some.injEq, exists_eq_left', exists_eq_left, forall_eq, forall_eq', true_and, and_true, true_implies, implies_true, false_implies, not_true_eq_false, not_false_eq_true, reduceCtorEq, and_self, forall_const, i10, i01, if_true, if_false, and_false, false_and, Nat.not_lt_zero, sK_pI, sN_pI, sR_pI, sL_pI, sK_pL, sN_pL, sR_pL, sI_pL, sK_pR, sN_pR, sI_pR, sL_pR, sI_pI_eq, sI_pI_ne, sL_pL_eq, sL_pL_ne, sR_pR_eq, sR_pR_ne, nn_le, nat32_lt, nn_eq, ln_le, nl_le, ln_lt, nl_lt, ln_eq, nl_eq, n_m1, n_lt0, vp_n, vp_l, lc_n, nat32c, n_s, nI_n, f.1.a45, h12], fun t1 q1 => ?_⟩⟩
  rw [nat32c (by omega), fc5, g_maxC (by omega) (by omega), ← s5] at hx97
  rw [nat32c (by omega), hx97] at q1
  have m1 : SM S2 t1 := by rw [q1]; exact f.pL (by omega)
  refine ⟨1144, m1.1.a44.1, m1.1.a44.2.1, by simp (disch := first | omega | decide) only [Option.some.injEq, exists_eq_left', exists_eq_left, forall_eq, forall_eq', true_and, and_true, true_implies, implies_true, false_implies, not_true_eq_false, not_false_eq_true, reduceCtorEq, and_self, forall_const, i10, i01, if_true, if_false, and_false, false_and, Nat.not_lt_zero, sK_pI, sN_pI, sR_pI, sL_pI, sK_pL, sN_pL, sR_pL, sI_pL, sK_pR, sN_pR, sI_pR, sL_pR, sI_pI_eq, sI_pI_ne, sL_pL_eq, sL_pL_ne, sR_pR_eq, sR_pR_ne, nn_le, nat32_lt, nn_eq, ln_le, nl_le, ln_lt, nl_lt, ln_eq, nl_eq, n_m1, n_lt0, vp_n, vp_l, lc_n, nat32c, n_s, nI_n, m1.1.a44, h12], by simp (disch := first | omega | decide) only [Option.some.injEq, exists_eq_left', exists_eq_left, forall_eq, forall_eq', true_and, and_true, true_implies, implies_true, false_implies, not_true_eq_false, not_false_eq_true, reduceCtorEq, and_self, forall_const, i10, i01, if_true, if_false, and_false, false_and, Nat.not_lt_zero, sK_pI, sN_pI, sR_pI, sL_pI, sK_pL, sN_pL, sR_pL, sI_pL, sK_pR, sN_pR, sI_pR, sL_pR, sI_pI_eq, sI_pI_ne, sL_pL_eq, sL_pL_ne, sR_pR_eq, sR_pR_ne, nn_le, nat32_lt, nn_eq, ln_le, nl_le, ln_lt, nl_lt, ln_eq, nl_eq, n_m1, n_lt0, vp_n, vp_l, lc_n, nat32c, n_s, nI_n, m1.1.a44, h12], fun t2 q2 t3 q3 => ?_⟩
  rw [nat32c (by omega), q1, sL_pL_ne (by omega), fc4, g_sub hru, g_add, ← s4] at q2
  rw [q2, sL_pL_ne (by omega), sL_pL_ne (by omega), f49, g_sub hru, g_add, show su (st 4) n + (q_be w st c x - q_ru w be st c x) = su (q_st w be st c x 4) n from by omega] at q3
  have m3 : SM S2 t3 := by rw [q3]; exact ((f.pL (by omega)).pL (by omega)).pL (by omega)
  have r3 : MR T t3 := by rw [q3]; exact (((MR.refl T).pL (by omega)).pL (by omega)).pL (by omega)
  have e10 : sI t3 1110 c = Int32.ofNat (w 1 c) := by rw [vwI (m3.v (x := 1110) (by omega) (by omega))]; exact p1
  have g0 : ∀ j, j < n → sI t3 1141 j = Int32.ofNat (q_st w be st c x 0 j) := fun j hj => by rw [q3]; exact f0 j hj
  have g4 : ∀ j, j < n → sL t3 1144 j = gn (q_st w be st c x 4 j) ∧ sL t3 1145 j = gn (q_st w be st c x 5 j) := fun j hj => by
    rw [q3]
    by_cases e : j = c
    · subst e
      refine ⟨?_, ?_⟩ <;> simp (disch := first | omega | decide) only [sL_pL_ne, sL_pL_eq]
    · rw [so j 4 e (by omega) (by omega), so j 5 e (by omega) (by omega)]
      simp (disch := first | omega | decide) only [sL_pL_ne]
      exact ⟨(fj j hj).1, (fj j hj).2.1⟩
  have g1 : ∀ j, c ≤ j → j < n → sL t3 1142 j = gn (st 1 j) ∧ sL t3 1143 j = gn (st 2 j) := fun j h1 h2 => by
    rw [q3]; simp (disch := first | omega | decide) only [sL_pL_ne]; exact f1 j h1 h2
  have g48 : sL t3 1000 48 = gn (D + su (q_st w be st c x 3) n) := by rw [q3]; simp (disch := first | omega | decide) only [sL_pL_ne]; exact f48
  have g49 : sL t3 1000 49 = gn (su (q_st w be st c x 4) n) := by rw [q3]; simp (disch := first | omega | decide) only [sL_pL_eq]
  have i6 : ∀ j, sI t3 1146 j = sI T 1146 j := fun j => by rw [q3]; rfl
  have i52 : sI t3 1000 52 = Int32.ofNat (su (st 6) n) := by rw [q3]; exact f52
  clear q3 q2 q1 hx97
  have dry : q_we w st c x = 0 → P_X11_minute_B413 1000 u1 u2 (gn acc) (Int32.ofNat c) (gn (q_ca w st c x)) (gn (q_ru w be st c x)) t3 Q K := fun z => by
    rw [z] at s6
    refine m_413 hc hn pb m3 (fun j hj => ⟨g0 j hj, (g4 j hj).1, (g4 j hj).2, ?_⟩) g1 g48 g49 ?_ (fun T' a b => k T' a (r3.trans b))
    · rw [i6]
      by_cases e : j = c
      · subst e; rw [s6]; exact fc6
      · rw [so j 6 e (by omega) (by omega)]; exact (fj j hj).2.2
    · rw [i52, show su (st 6) n = su (q_st w be st c x 6) n from by omega]
  refine ⟨1110, m3.1.a10.1, m3.1.a10.2.1, by simp (disch := first | omega | decide) only [Option.some.injEq, exists_eq_left', exists_eq_left, forall_eq, forall_eq', true_and, and_true, true_implies, implies_true, false_implies, not_true_eq_false, not_false_eq_true, reduceCtorEq, and_self, forall_const, i10, i01, if_true, if_false, and_false, false_and, Nat.not_lt_zero, sK_pI, sN_pI, sR_pI, sL_pI, sK_pL, sN_pL, sR_pL, sI_pL, sK_pR, sN_pR, sI_pR, sL_pR, sI_pI_eq, sI_pI_ne, sL_pL_eq, sL_pL_ne, sR_pR_eq, sR_pR_ne, nn_le, nat32_lt, nn_eq, ln_le, nl_le, ln_lt, nl_lt, ln_eq, nl_eq, n_m1, n_lt0, vp_n, vp_l, lc_n, nat32c, n_s, nI_n, m3.1.a10, h12], ?_⟩
  rw [nat32c (by omega), e10]
  refine ⟨fun z => dry ?_, fun z => ⟨1110, m3.1.a10.1, m3.1.a10.2.1, by simp (disch := first | omega | decide) only [Option.some.injEq, exists_eq_left', exists_eq_left, forall_eq, forall_eq', true_and, and_true, true_implies, implies_true, false_implies, not_true_eq_false, not_false_eq_true, reduceCtorEq, and_self, forall_const, i10, i01, if_true, if_false, and_false, false_and, Nat.not_lt_zero, sK_pI, sN_pI, sR_pI, sL_pI, sK_pL, sN_pL, sR_pL, sI_pL, sK_pR, sN_pR, sI_pR, sL_pR, sI_pI_eq, sI_pI_ne, sL_pL_eq, sL_pL_ne, sR_pR_eq, sR_pR_ne, nn_le, nat32_lt, nn_eq, ln_le, nl_le, ln_lt, nl_lt, ln_eq, nl_eq, n_m1, n_lt0, vp_n, vp_l, lc_n, nat32c, n_s, nI_n, m3.1.a10, h12], ?_⟩⟩
  · rw [show Int32.ofNat (w 1 c) ≤ (0 : Int32) ↔ w 1 c ≤ 0 from nl_le (k := 0) (by omega) (by omega)] at z
    unfold q_we; rw [if_neg (by omega)]
  · rw [e10, n_64 (by omega), g_le (by omega) (by omega)]
    refine ⟨fun y => dry ?_, fun y => ⟨1146, m3.1.a46.1, m3.1.a46.2.1, by simp (disch := first | omega | decide) only [Option.some.injEq, exists_eq_left', exists_eq_left, forall_eq, forall_eq', true_and, and_true, true_implies, implies_true, false_implies, not_true_eq_false, not_false_eq_true, reduceCtorEq, and_self, forall_const, i10, i01, if_true, if_false, and_false, false_and, Nat.not_lt_zero, sK_pI, sN_pI, sR_pI, sL_pI, sK_pL, sN_pL, sR_pL, sI_pL, sK_pR, sN_pR, sI_pR, sL_pR, sI_pI_eq, sI_pI_ne, sL_pL_eq, sL_pL_ne, sR_pR_eq, sR_pR_ne, nn_le, nat32_lt, nn_eq, ln_le, nl_le, ln_lt, nl_lt, ln_eq, nl_eq, n_m1, n_lt0, vp_n, vp_l, lc_n, nat32c, n_s, nI_n, m3.1.a46, h12], by simp (disch := first | omega | decide) only [Option.some.injEq, exists_eq_left', exists_eq_left, forall_eq, forall_eq', true_and, and_true, true_implies, implies_true, false_implies, not_true_eq_false, not_false_eq_true, reduceCtorEq, and_self, forall_const, i10, i01, if_true, if_false, and_false, false_and, Nat.not_lt_zero, sK_pI, sN_pI, sR_pI, sL_pI, sK_pL, sN_pL, sR_pL, sI_pL, sK_pR, sN_pR, sI_pR, sL_pR, sI_pI_eq, sI_pI_ne, sL_pL_eq, sL_pL_ne, sR_pR_eq, sR_pR_ne, nn_le, nat32_lt, nn_eq, ln_le, nl_le, ln_lt, nl_lt, ln_eq, nl_eq, n_m1, n_lt0, vp_n, vp_l, lc_n, nat32c, n_s, nI_n, m3.1.a46, h12], fun t4 q4 t5 q5 => ?_⟩⟩
    · unfold q_we; rw [if_neg (by omega)]
    · rw [show Int32.ofNat (w 1 c) ≤ (0 : Int32) ↔ w 1 c ≤ 0 from nl_le (k := 0) (by omega) (by omega)] at z
      have we : q_we w st c x = 1 := by unfold q_we; rw [if_pos (by omega)]
      rw [we] at s6
      rw [i6, fc6, n_s] at q4
      rw [q4, sI_pI_ne (by omega), i52, n_s] at q5
      rw [q5]
      refine m_413 hc hn pb ((m3.pI (by omega)).pI (by omega)) (fun j hj => ⟨?_, ?_, ?_, ?_⟩) (fun j h1 h2 => g1 j h1 h2) g48 g49 ?_ (fun T' a b => k T' a (((r3.pI (by omega)).pI (by omega)).trans b))
      · simp (disch := first | omega | decide) only [sI_pI_ne]; exact g0 j hj
      · exact (g4 j hj).1
      · exact (g4 j hj).2
      · by_cases e : j = c
        · subst e
          rw [s6]
          simp (disch := first | omega | decide) only [sI_pI_ne, sI_pI_eq]
        · rw [so j 6 e (by omega) (by omega)]
          simp (disch := first | omega | decide) only [sI_pI_ne]
          rw [i6]
          exact (fj j hj).2.2
      · rw [sI_pI_eq, show su (st 6) n + 1 = su (q_st w be st c x 6) n from by omega]
theorem m_tail {w st : Ms} {be : Nat → Option Nat} {own : Nat → Nat → Nat} {n m mm c D acc : Nat} {u1 u2 : Int32} {Q : Unit → Sg → Prop} {K : Int64 → Int32 → Sg → Prop} (hc : c < n) (hw : Wb w be own n) (hi : Wi w st n m c) (p0 : sI S2 1108 c = Int32.ofNat (w 0 c)) (p1 : sI S2 1110 c = Int32.ofNat (w 1 c)) (pb : (sI S2 1111 c = -1 ∧ be c = none) ∨ ∃ b, c < b ∧ b < n ∧ sI S2 1111 c = Int32.ofNat b ∧ be c = some b) (f : SM S2 T) (f0 : ∀ j, j < n → sI T 1141 j = Int32.ofNat (q_st w be st c (own mm c) 0 j)) (fj : ∀ j, j < n → sL T 1144 j = gn (st 4 j) ∧ sL T 1145 j = gn (st 5 j) ∧ sI T 1146 j = Int32.ofNat (st 6 j)) (f1 : ∀ j, c ≤ j → j < n → sL T 1142 j = gn (st 1 j) ∧ sL T 1143 j = gn (st 2 j)) (f48 : sL T 1000 48 = gn (D + su (q_st w be st c (own mm c) 3) n)) (f49 : sL T 1000 49 = gn (su (st 4) n)) (f52 : sI T 1000 52 = Int32.ofNat (su (st 6) n)) (k : ∀ T', MX S2 T' (q_st w be st c (own mm c)) n (c + 1) D → MR T T' → K (gn (acc + q_ou w be st c (own mm c))) (Int32.ofNat (c + 1)) T') : P_X11_minute_B263 1000 u1 u2 (gn acc) (Int32.ofNat c) (gn (own mm c + st 1 c - q_tk w st c (own mm c))) T Q K := by
  have hin := wi_in (mm := mm) hw hi hc
  obtain ⟨n12, w2, w3⟩ := hw
  obtain ⟨b0, b1, b2, b3, b4, -⟩ := w2 c hc
  have a5c := (hi.2.2.2.2 c).2.2.1
  generalize own mm c = x at *
  have h12 : c < 12 := by omega
  have hca : q_ca w st c x ≤ q_in w st c x := Nat.min_le_left _ _
  have hca2 : q_ca w st c x ≤ w 0 c := Nat.min_le_right _ _
  have hbb : q_be w st c x = q_in w st c x - q_ca w st c x := rfl
  have hii : q_in w st c x = x + st 1 c - q_tk w st c x + st 2 c := rfl
  have e8 : sI T 1108 c = Int32.ofNat (w 0 c) := by rw [vwI (f.v (x := 1108) (by omega) (by omega))]; exact p0
  have e11 : sI T 1111 c = sI S2 1111 c := by rw [vwI (f.v (x := 1111) (by omega) (by omega))]
  unfold P_X11_minute_B263
  refine ⟨f.1.o, 1143, f.1.a43.1, f.1.a43.2.1, by simp (disch := first | omega | decide) only [Option.some.injEq, exists_eq_left', exists_eq_left, forall_eq, forall_eq', true_and, and_true, true_implies, implies_true, false_implies, not_true_eq_false, not_false_eq_true, reduceCtorEq, and_self, forall_const, i10, i01, if_true, if_false, and_false, false_and, Nat.not_lt_zero, sK_pI, sN_pI, sR_pI, sL_pI, sK_pL, sN_pL, sR_pL, sI_pL, sK_pR, sN_pR, sI_pR, sL_pR, sI_pI_eq, sI_pI_ne, sL_pL_eq, sL_pL_ne, sR_pR_eq, sR_pR_ne, nn_le, nat32_lt, nn_eq, ln_le, nl_le, ln_lt, nl_lt, ln_eq, nl_eq, n_m1, n_lt0, vp_n, vp_l, lc_n, nat32c, n_s, nI_n, f.1.a43, h12], fun x71 hx71 => ⟨1108, f.1.a8.1, f.1.a8.2.1, by simp (disch := first | omega | decide) only [Option.some.injEq, exists_eq_left', exists_eq_left, forall_eq, forall_eq', true_and, and_true, true_implies, implies_true, false_implies, not_true_eq_false, not_false_eq_true, reduceCtorEq, and_self, forall_const, i10, i01, if_true, if_false, and_false, false_and, Nat.not_lt_zero, sK_pI, sN_pI, sR_pI, sL_pI, sK_pL, sN_pL, sR_pL, sI_pL, sK_pR, sN_pR, sI_pR, sL_pR, sI_pI_eq, sI_pI_ne, sL_pL_eq, sL_pL_ne, sR_pR_eq, sR_pR_ne, nn_le, nat32_lt, nn_eq, ln_le, nl_le, ln_lt, nl_lt, ln_eq, nl_eq, n_m1, n_lt0, vp_n, vp_l, lc_n, nat32c, n_s, nI_n, f.1.a8, h12], fun x77 hx77 x79 hx79 => ⟨1111, f.1.a11.1, f.1.a11.2.1, by simp (disch := first | omega | decide) only [Option.some.injEq, exists_eq_left', exists_eq_left, forall_eq, forall_eq', true_and, and_true, true_implies, implies_true, false_implies, not_true_eq_false, not_false_eq_true, reduceCtorEq, and_self, forall_const, i10, i01, if_true, if_false, and_false, false_and, Nat.not_lt_zero, sK_pI, sN_pI, sR_pI, sL_pI, sK_pL, sN_pL, sR_pL, sI_pL, sK_pR, sN_pR, sI_pR, sL_pR, sI_pI_eq, sI_pI_ne, sL_pL_eq, sL_pL_ne, sR_pR_eq, sR_pR_ne, nn_le, nat32_lt, nn_eq, ln_le, nl_le, ln_lt, nl_lt, ln_eq, nl_eq, n_m1, n_lt0, vp_n, vp_l, lc_n, nat32c, n_s, nI_n, f.1.a11, h12], ?_⟩⟩⟩
  rw [nat32c (by omega), (f1 c (Nat.le_refl _) hc).2, g_add] at hx71
  have hx71 : x71 = gn (q_in w st c x) := hx71
  rw [nat32c (by omega), e8, hx71, n_64 (by omega), g_minC (by omega) (by omega)] at hx77
  have hx77 : x77 = gn (q_ca w st c x) := hx77
  rw [hx71, hx77, g_sub hca] at hx79
  have hx79 : x79 = gn (q_be w st c x) := hx79
  rw [nat32c (by omega), e11, hx77, hx79]
  refine ⟨fun z => ?_, fun z => ?_⟩
  · have ru : q_ru w be st c x = 0 := by
      unfold q_ru
      rcases pb with ⟨e, eb⟩ | ⟨b, d1, d2, e, eb⟩
      · rw [if_pos eb]
      · rw [e] at z; exact absurd z (fun q => (n_m1 (by omega)).mp q)
    have r := m_318 (acc := acc) (u1 := u1) (u2 := u2) (Q := Q) (x := x) hc n12 p1 b1 pb a5c (by omega) (by omega) f f0 fj f1 f48 f49 f52 k
    rw [ru] at r
    exact r
  · have ru : q_ru w be st c x = q_be w st c x / 2 := by
      unfold q_ru
      rcases pb with ⟨e, eb⟩ | ⟨b, d1, d2, e, eb⟩
      · exact absurd e z
      · rw [if_neg (by rw [eb]; intro q; cases q)]
    have r := m_318 (acc := acc) (u1 := u1) (u2 := u2) (Q := Q) (x := x) hc n12 p1 b1 pb a5c (by omega) (by omega) f f0 fj f1 f48 f49 f52 k
    rw [ru] at r
    rw [show gn (q_be w st c x) / 2 = gn (q_be w st c x / 2) from g_divl (k := 2) (by omega) (by omega)]
    exact r
end FM
