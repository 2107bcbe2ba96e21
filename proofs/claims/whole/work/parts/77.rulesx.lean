/-! ===== level 2: rules, the class's run and what it leaves ===== -/
def mxK (S : Sg) : Nat → Nat
  | 0 => 0
  | n + 1 => mxK S n + sK S n
theorem mxK_le {S : Sg} {x : Nat} : ∀ {n : Nat}, x < n → sK S x ≤ mxK S n
  | 0, h => absurd h (Nat.not_lt_zero _)
  | n + 1, h => by
    show _ ≤ mxK S n + sK S n
    by_cases c : x = n
    · subst c; omega
    · have : sK S x ≤ mxK S n := mxK_le (by omega)
      omega
/-- what rules() leaves as it was in the class's store -/
def RXr (S T : Sg) (N0 : Nat) : Prop := (∀ x, x < N0 → ¬ x = 1000 → ¬ x = 1020 → ¬ x = 1005 → ¬ (10000 ≤ x ∧ sK S x = 20 + 32 * 5) → vw T x = vw S x) ∧ stru T 1020 = stru S 1020 ∧ stru T 1000 = stru S 1000 ∧ (∀ k, ¬ k = 17 → sI T 1000 k = sI S 1000 k) ∧ sI T 1020 0 = 0 ∧ okS T
/-- what rules() leaves as it was in the reference, its end included -/
def VQ (nL : Nat) (S2 V : Sg) : Prop := (∀ x, ¬ x = 1000 → ¬ x = 1176 → ¬ (1168 ≤ x ∧ x ≤ 1174) → vw V x = vw S2 x) ∧ MW V ∧ (∀ x j, 1170 ≤ x → x ≤ 1174 → j < 24 * nL → sI V x j = sI S2 x j) ∧ (∀ x j, 1168 ≤ x → x ≤ 1169 → j < nL → sI V x j = sI S2 x j) ∧ (∀ k, ¬ (k = 67 ∨ k = 77 ∨ k = 78 ∨ k = 79 ∨ k = 80 ∨ k = 81) → sI V 1000 k = sI S2 1000 k) ∧ sL V 1000 = sL S2 1000 ∧ sI V 1000 77 = 0
/-- the law that has been read, in the class's store -/
def NLw (T : Sg) (f : Nat → Nat) (n N0 nL s0 td : Nat) (th : Nat → Nat) : Prop := sK T N0 % 32 = 6 ∧ sI T N0 0 = Int32.ofNat td ∧ sI T N0 1 = Int32.ofNat nL ∧ sR T N0 2 = some (N0 + 1) ∧ Lst T (N0 + 1) N0 th (tcF f n s0) ∧ sR T N0 3 = some (N0 + 2) ∧ sK T (N0 + 2) % 32 = 16 ∧ sN T (N0 + 2) = 21 ∧ (∀ w, w < 21 → sI T (N0 + 2) w = nuF f n s0 w) ∧ ∀ i, i < tcF f n s0 → sK T (th i) % 32 = 11 ∧ N0 + 3 ≤ th i ∧ ∀ k, k < 4 → sI T (th i) k = tvF f n s0 i k
section RQ
variable {S S2 T V : Sg} {f : Nat → Nat} {n s0 N0 N' nC nR nT nK nL nL' nM nP td N : Nat} {lh lh' th : Nat → Nat}
theorem iv_rules (h : IV S S2 nC nR nT nK nL nM nP td N lh) (hN0 : N ≤ N0) (a : RXr S T N0) (c : VQ nL S2 V) (z : sI T 1000 17 = sI V 1000 80) (hL' : GL T V nL' lh') (hn' : GN T N') : IV T V nC nR nT nK nL' nM 0 td N' lh' := by
  obtain ⟨hk, hM, hS, hU, hA, hW, hB, hC, hR, hT, hK, hL, hZ, hP, hN⟩ := h
  obtain ⟨a1, a2, a3, a4, a5, a6⟩ := a
  obtain ⟨c1, c2, c3, c4, c5, c6, c7⟩ := c
  have n0 := hN.1
  have n1 := hN.2
  have any : ∀ x, (x < 10000 ∧ ¬ x = 1000 ∧ ¬ x = 1020 ∧ ¬ x = 1005) ∨ (10000 ≤ x ∧ ¬ sK S x = 0 ∧ ¬ sK S x = 20 + 32 * 5) → vw T x = vw S x := fun x hx => by
    refine a1 x (Nat.lt_of_not_le (fun e => ?_)) (by omega) (by omega) (by omega) (by omega)
    have := n1 x (by omega)
    omega
  refine ⟨a6, c2, hS.keep (fun x h1 h2 h3 => ?_) (fun x hx => any x (by omega)) (fun x h1 h2 => vwK (any x (by omega))), hU.keep (any 1054 (by omega)) (fun k _ _ => by rw [c6]), hA.keep (fun x h1 h2 => any x (by omega)) (fun x h1 h2 => c1 x (by omega) (by omega) (by omega)), hW.keep (fun x hx => any x (by omega)) (fun x h1 h2 => c1 x (by omega) (by omega) (by omega)), hB.keep (fun x h1 h2 => any x (by omega)) (fun x h1 h2 => c1 x (by omega) (by omega) (by omega)), hC.keep (fun x hx => any x (by omega)) (fun x hx => c1 x (by omega) (by omega) (by omega)) (c5 1 (by omega)), hR.keep (Nat.le_refl _) (Nat.le_refl _) (fun x hx => any x (by omega)) (fun x h1 h2 => c1 x (by omega) (by omega) (by omega)) (c5 2 (by omega)), hT.keep (fun x hx => any x (by omega)) (fun x h1 h2 h3 => c1 x (by omega) (by omega) (by omega)) (c5 4 (by omega)), hK.keep (fun x hx => any x (by omega)) (fun x h1 h2 => c1 x (by omega) (by omega) (by omega)) (c5 6 (by omega)), hL', ?_, ⟨by omega, a5, c7, fun j hj => absurd hj (Nat.not_lt_zero _)⟩, hn'⟩
  · by_cases e : x = 1000
    · subst e; exact a3
    · by_cases e2 : x = 1020
      · subst e2; exact a2
      · exact stru_vw (any x (by omega))
  · obtain ⟨z1, z2, z3, z4, z5, z6, z7, z8⟩ := hZ
    exact ⟨(a4 14 (by omega)).trans z1, (c5 3 (by omega)).trans z2, z3, (a4 15 (by omega)).trans z4, (c5 0 (by omega)).trans z5, z6, (a4 16 (by omega)).trans (z7.trans (c5 5 (by omega)).symm), z⟩
theorem gl_old (hL : GL S S2 nL lh) (hN : GN S N) (hN0 : N ≤ N0) (a : RXr S T N0) (c : VQ nL S2 V) {r : Nat} (hr : r < nL) : sI T (lh r) 0 = sI V 1169 r ∧ ∃ st, st ≤ 24 ∧ sI V 1168 r = Int32.ofNat st ∧ lawE T V (lh r) r st := by
  obtain ⟨l1, l2, l3, l4⟩ := hL
  obtain ⟨b1, st, b2, b3, b4⟩ := l4 r hr
  have n0 := hN.1
  have n1 := hN.2
  have any : ∀ x, lawR S x → vw T x = vw S x := fun x hx => by
    unfold lawR at hx
    by_cases e : x = 2
    · exact a.1 x (by omega) (by omega) (by omega) (by omega) (by omega)
    · refine a.1 x (Nat.lt_of_not_le (fun w => ?_)) (by omega) (by omega) (by omega) (by omega)
      have := n1 x (by omega)
      omega
  have k := b4.2.1
  have h0 := b4.1.1
  refine ⟨?_, st, b2, ?_, b4.keep any (fun x j h1 h2 h3 => c.2.2.1 x _ h1 h2 (by omega))⟩
  · rw [vwI (any _ (Or.inr (Or.inl ⟨h0, by omega, by omega⟩))), c.2.2.2.1 1169 r (by omega) (by omega) hr]; exact b1
  · rw [c.2.2.2.1 1168 r (by omega) (by omega) hr]; exact b3
theorem nl_lawE (h : NLw T f n N0 nL s0 td th) (hN0 : 10000 ≤ N0) (hg : GOODs f n s0) (hr : ∀ i, i < s0 → rowE V (24 * nL + i) (stF f n (psF f n i)).1) : lawE T V N0 nL s0 := by
  obtain ⟨h1, h2, h3, h4, h5, h6, h7, h8, h9, h10⟩ := h
  have eq : ∀ w, w < 21 → lawF V nL w s0 = nuF f n s0 w := fun w hw => lawF_q hg hw hr s0 (Nat.le_refl _)
  refine ⟨⟨hN0, fun w hw => by rw [eq w hw]; exact nuF_rg hw s0⟩, h1, h3, N0 + 1, N0 + 2, th, by omega, by omega, h4, by rw [tcn_q hr s0 (Nat.le_refl _)]; exact h5, h6, h7, h8, fun w hw => by rw [eq w hw]; exact h9 w hw, fun s hs2 e => ?_⟩
  have ro := hr s hs2
  have o := stF_ok (f := f) (n := n) (psF f n s)
  have e30 : (stF f n (psF f n s)).1.1 = 30 := by
    rw [ro.1] at e
    obtain ⟨o1, -⟩ := o
    generalize (stF f n (psF f n s)).1.1 = so at o1 e ⊢
    exact (nl_eq (k := 30) (by omega) (by omega)).mp e
  rw [tcn_q hr s (by omega)]
  obtain ⟨t1, t2, t3⟩ := h10 _ (tcF_lt e30 hs2)
  have tv := fun k hk => (t3 k hk).trans (tvF_at e30 s0 hs2)
  obtain ⟨r0, r1, r2, r3, r4⟩ := ro
  obtain ⟨o1, o2, o3, o4, o5, o6, o7⟩ := o
  have r2 := r2 (by omega)
  have r3 := r3 (by omega)
  have r4 := r4 e30
  exact ⟨t1, by omega, (tv 0 (by omega)).trans r1.symm, (tv 1 (by omega)).trans r2.symm, (tv 2 (by omega)).trans r3.symm, (tv 3 (by omega)).trans r4.symm, ⟨_, Nat.zero_le _, o2, r1⟩, ⟨_, Nat.zero_le _, o3, r2⟩, ⟨_, o7 e30, o4, r3⟩, ⟨_, Nat.zero_le _, o5, r4⟩⟩
theorem rx_mid {s27 σ U : Sg} {v : Int32} {nums : Nat → Int32} {tc : Nat} {tv : Nat → Nat → Int32} (hk : okS S) (hN : GN S N) (hN0 : N ≤ N0) (v27 : ∀ x, ¬ x = N0 → ¬ x = N0 + 1 → ¬ x = N0 + 2 → vw s27 x = vw S x) (hc : RLs s27 σ N0 N' nums tc th tv) (w : U = pI (pI σ 1020 0 0) 1000 17 v) : RXr S U N0 ∧ (∀ x, x < N0 → ¬ x = 1000 → ¬ x = 1020 → vw U x = vw S x) ∧ sI U 1000 17 = v ∧ GN U N' ∧ vw U N0 = vw s27 N0 ∧ ∀ x, N0 ≤ x → vw U x = vw σ x := by
  obtain ⟨h1, h2, h3, h4, h5, h6, h7, h8, h9, h10⟩ := hc
  have n0 := hN.1
  have vU : ∀ x, ¬ x = 1000 → ¬ x = 1020 → vw U x = vw σ x := fun x e1 e2 => by rw [w, vw_pI e1, vw_pI e2]
  have mid : ∀ x, x < N0 → ¬ x = 1000 → ¬ x = 1020 → vw U x = vw S x := fun x e1 e2 e3 => by
    rw [vU x e2 e3, h4 x (by omega) e3, v27 x (by omega) (by omega) (by omega)]
  have sU : ∀ x, stru U x = stru σ x := fun x => by rw [w]; rfl
  refine ⟨⟨fun x e1 e2 e3 _ _ => mid x e1 e2 e3, ?_, ?_, fun k hk => ?_, ?_, ?_⟩, mid, ?_, ?_, ?_, fun x hx => vU x (by omega) (by omega)⟩
  · rw [sU, h5]; exact stru_vw (v27 1020 (by omega) (by omega) (by omega))
  · rw [sU, stru_vw (h4 1000 (by omega) (by omega))]; exact stru_vw (v27 1000 (by omega) (by omega) (by omega))
  · rw [w, sI_pI_ne (by omega), sI_pI_ne (by omega), vwI (h4 1000 (by omega) (by omega)), vwI (v27 1000 (by omega) (by omega) (by omega))]
  · rw [w, sI_pI_ne (by omega), sI_pI_eq]
  · rw [w]; exact okS_pI (okS_pI h1 (by omega)) (by omega)
  · rw [w, sI_pI_eq]
  · exact ⟨h2.1, fun x hx => by rw [stK (sU x)]; exact h2.2 x hx⟩
  · rw [vU N0 (by omega) (by omega), h4 N0 (Nat.le_refl _) (by omega)]
theorem okS_added {U : Sg} {h ro : Nat} (hk : okS S) (hA : Added S U h ro N) (h1 : 1000 ≤ h) (hN : GN S N) : okS U := by
  obtain ⟨a1, a2, a3, a4⟩ := hA
  have n0 := hN.1
  refine ⟨(a1 1 (by omega) (by omega) (by omega)).trans hk.1, (a1 2 (by omega) (by omega) (by omega)).trans hk.2.1, fun x hx => ?_⟩
  by_cases c : x = N
  · subst c
    rcases a3 with z | z
    · exact absurd (by rw [vwK z]; exact hN.2 x (Nat.le_refl _)) hx
    · refine Or.inr (Or.inr ?_)
      rw [z]; unfold wr; omega
  · rw [a4 x c] at hx ⊢
    exact hk.2.2 x hx
end RQ
