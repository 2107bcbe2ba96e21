/-! ===== level 2: neighbours, laws read, turns, fees ===== -/
theorem n_mull {a k : Nat} : Int32.ofNat a * (no_index (OfNat.ofNat k) : Int32) = Int32.ofNat (a * k) := (Int32.ofNat_mul a k).symm
section RD
variable {S S2 : Sg} {nC nR nT nK nL nM nP td N : Nat} {lh : Nat → Nat}
def kef (S2 : Sg) (n y : Nat) : Int32 := sI S2 1134 (10 * y + n)
theorem x_ever {n : Nat} {Q : Int32 → Prop} (hS : GS S) (hW : GW S S2) (hn : n < 10) (k : Q (sm (kef S2 n) 10)) : P_X10_neighbour_L37 1000 (Int32.ofNat n) 0 0 S Q := by
  unfold P_X10_neighbour_L37
  refine lpA (N := 10) (s0 := 0) (R := fun j a => a = sm (kef S2 n) j) (B := fun a x K => P_X10_neighbour_L37b 1000 (Int32.ofNat n) a x S Q K) rfl (by omega) rfl (fun j hj a ha K hK => ?_)
  subst ha
  unfold P_X10_neighbour_L37b
  have g3 := hS.2.2.1 n hn
  refine ⟨fun c => ?_, fun c => ?_⟩
  · simp (disch := first | omega | decide) only [ln_le] at c
    have e : j = 10 := by omega
    subst e; exact k
  · simp (disch := first | omega | decide) only [ln_le] at c
    have hl : j < 10 := by omega
    simp (disch := first | omega | decide) only [Option.some.injEq, exists_eq_left', exists_eq_left, forall_eq, forall_eq', true_and, and_true, true_implies, implies_true, false_implies, not_true_eq_false, not_false_eq_true, reduceCtorEq, and_self, forall_const, i10, i01, if_true, if_false, and_false, false_and, Nat.not_lt_zero, sK_pI, sN_pI, sR_pI, sL_pI, sK_pL, sN_pL, sR_pL, sI_pL, sK_pR, sN_pR, sI_pR, sL_pR, sI_pI_eq, sI_pI_ne, sL_pL_eq, sL_pL_ne, sR_pR_eq, sR_pR_ne, nn_le, nat32_lt, nn_eq, ln_le, nl_le, ln_lt, nl_lt, ln_eq, nl_eq, n_m1, n_lt0, vp_n, vp_l, lc_n, nat32c, n_s, nI_n, hS.1, hS.2.1, g3, hn, hl]
    exact hK hl _ (by rw [sm_s]; unfold kef; rw [hW.2 n j hn hl])
theorem m_ever {n : Nat} {w : Int32} {Q : Int32 → Prop} (hM : MW S2) (hn : n < 10) (k : Q (if w = 0 then sI S2 1133 n else sm (kef S2 n) 10)) : P_X11_neighbour_L26 1000 (Int32.ofNat n) w 0 0 S2 Q := by
  unfold P_X11_neighbour_L26
  refine lpA (N := 10) (s0 := 0) (R := fun j a => a = sm (kef S2 n) j) (B := fun a x K => P_X11_neighbour_L26b 1000 (Int32.ofNat n) w a x S2 Q K) rfl (by omega) rfl (fun j hj a ha K hK => ?_)
  subst ha
  unfold P_X11_neighbour_L26b
  refine ⟨fun c => ?_, fun c => ?_⟩
  · simp (disch := first | omega | decide) only [ln_le] at c
    have e : j = 10 := by omega
    subst e
    by_cases h : w = 0
    · rw [if_pos h] at k
      simp (disch := first | omega | decide) only [Option.some.injEq, exists_eq_left', exists_eq_left, forall_eq, forall_eq', true_and, and_true, true_implies, implies_true, false_implies, not_true_eq_false, not_false_eq_true, reduceCtorEq, and_self, forall_const, i10, i01, if_true, if_false, and_false, false_and, Nat.not_lt_zero, sK_pI, sN_pI, sR_pI, sL_pI, sK_pL, sN_pL, sR_pL, sI_pL, sK_pR, sN_pR, sI_pR, sL_pR, sI_pI_eq, sI_pI_ne, sL_pL_eq, sL_pL_ne, sR_pR_eq, sR_pR_ne, nn_le, nat32_lt, nn_eq, ln_le, nl_le, ln_lt, nl_lt, ln_eq, nl_eq, n_m1, n_lt0, vp_n, vp_l, lc_n, nat32c, n_s, nI_n, h, hM.o, hM.a33, hn]
      exact k
    · rw [if_neg h] at k
      simp (disch := first | omega | decide) only [Option.some.injEq, exists_eq_left', exists_eq_left, forall_eq, forall_eq', true_and, and_true, true_implies, implies_true, false_implies, not_true_eq_false, not_false_eq_true, reduceCtorEq, and_self, forall_const, i10, i01, if_true, if_false, and_false, false_and, Nat.not_lt_zero, sK_pI, sN_pI, sR_pI, sL_pI, sK_pL, sN_pL, sR_pL, sI_pL, sK_pR, sN_pR, sI_pR, sL_pR, sI_pI_eq, sI_pI_ne, sL_pL_eq, sL_pL_ne, sR_pR_eq, sR_pR_ne, nn_le, nat32_lt, nn_eq, ln_le, nl_le, ln_lt, nl_lt, ln_eq, nl_eq, n_m1, n_lt0, vp_n, vp_l, lc_n, nat32c, n_s, nI_n, h]
      exact k
  · simp (disch := first | omega | decide) only [ln_le] at c
    have hl : 10 * j + n < 100 := by omega
    simp (disch := first | omega | decide) only [Option.some.injEq, exists_eq_left', exists_eq_left, forall_eq, forall_eq', true_and, and_true, true_implies, implies_true, false_implies, not_true_eq_false, not_false_eq_true, reduceCtorEq, and_self, forall_const, i10, i01, if_true, if_false, and_false, false_and, Nat.not_lt_zero, sK_pI, sN_pI, sR_pI, sL_pI, sK_pL, sN_pL, sR_pL, sI_pL, sK_pR, sN_pR, sI_pR, sL_pR, sI_pI_eq, sI_pI_ne, sL_pL_eq, sL_pL_ne, sR_pR_eq, sR_pR_ne, nn_le, nat32_lt, nn_eq, ln_le, nl_le, ln_lt, nl_lt, ln_eq, nl_eq, n_m1, n_lt0, vp_n, vp_l, lc_n, nat32c, n_s, nI_n, hM.o, hM.a34, l_mul, n_add, hl]
    exact hK (by omega) _ rfl
/-! turns of a law in force -/
def lawSt (S2 : Sg) : Option Nat → Nat
  | none => 0
  | some r => (sI S2 1168 r).toNatClampNeg
def lawTc (S2 : Sg) : Option Nat → Nat
  | none => 0
  | some r => tcn S2 r (sI S2 1168 r).toNatClampNeg
theorem tcn_s {r s : Nat} : tcn S2 r (s + 1) = tcn S2 r s + if sI S2 1170 (24 * r + s) = 30 then 1 else 0 := rfl
theorem tcn_le {r : Nat} : ∀ {s : Nat}, tcn S2 r s ≤ s
  | 0 => Nat.le_refl _
  | s + 1 => by
    rw [tcn_s]
    have := tcn_le (r := r) (s := s)
    split <;> omega
theorem tcn_mono {r s : Nat} : ∀ {n : Nat}, s ≤ n → tcn S2 r s ≤ tcn S2 r n
  | 0, h => by
    have e : s = 0 := by omega
    subst e; exact Nat.le_refl _
  | n + 1, h => by
    rcases Nat.lt_or_ge n s with c | c
    · have e : s = n + 1 := by omega
      subst e; exact Nat.le_refl _
    · rw [tcn_s]; have := tcn_mono (r := r) c; omega
theorem tcn_inv {r j : Nat} : ∀ {n : Nat}, j < tcn S2 r n → ∃ s, s < n ∧ sI S2 1170 (24 * r + s) = 30 ∧ tcn S2 r s = j
  | 0, h => absurd h (Nat.not_lt_zero _)
  | n + 1, h => by
    rw [tcn_s] at h
    by_cases c : j < tcn S2 r n
    · obtain ⟨s, h1, h2, h3⟩ := tcn_inv c
      exact ⟨s, by omega, h2, h3⟩
    · by_cases d : sI S2 1170 (24 * r + n) = 30
      · rw [if_pos d] at h
        exact ⟨n, by omega, d, by omega⟩
      · rw [if_neg d] at h; omega
theorem tcn_lt {r s n : Nat} (h : s < n) (c : sI S2 1170 (24 * r + s) = 30) : tcn S2 r s < tcn S2 r n := by
  have h1 := tcn_mono (S2 := S2) (r := r) (s := s + 1) (n := n) (by omega)
  rw [tcn_s, if_pos c] at h1
  omega
/-- the list of turns of the law in force -/
theorem law_list {o : Option Nat} (hS : GS S) (hL : GL S S2 nL lh) (hr : ∀ j, o = some j → j < nL) : ∃ (q ro : Nat) (th : Nat → Nat), sR S (lawH lh o) 2 = some q ∧ Lst S q ro th (lawTc S2 o) ∧ lawTc S2 o ≤ 24 ∧ sI S (lawH lh o) 1 = optI o ∧ (∀ r, o = some r → ∃ st, st ≤ 24 ∧ sI S2 1168 r = Int32.ofNat st ∧ lawTc S2 o = tcn S2 r st ∧ ∀ s, s < st → sI S2 1170 (24 * r + s) = 30 → turnE S S2 (th (tcn S2 r s)) (24 * r + s)) := by
  cases o with
  | none =>
    obtain ⟨g1, g2, g3, g4, g5, -⟩ := hS.2.2.2.1
    exact ⟨1011, 0, _, g3, g5, Nat.zero_le _, g2, fun r h => by cases h⟩
  | some r =>
    obtain ⟨a, st, s1, s2, h⟩ := hL.2.2.2 r (hr r rfl)
    obtain ⟨h0, h1, h2, q1, q2, th, g1, g2, g3, g4, g5, g6, g7, g8, g9⟩ := h
    have e : lawTc S2 (some r) = tcn S2 r st := by
      show tcn S2 r (sI S2 1168 r).toNatClampNeg = _
      rw [s2, nat32c (by omega)]
    refine ⟨q1, lh r, th, g3, by rw [e]; exact g4, ?_, h2, fun r' hr' => ?_⟩
    · rw [e]; exact Nat.le_trans tcn_le s1
    · cases hr'
      exact ⟨st, s1, s2, e, g9⟩
theorem m_lawTurns {v : Int32} {Q : Int32 → Prop} (hM : MW S2) (hL : GL S S2 nL lh) {o : Option Nat} (hr : ∀ j, o = some j → j < nL) (k : Q (Int32.ofNat (lawTc S2 o))) (hv : v = 24 * optI o) : P_X11_law_L59 1000 (optI o) 0 v S2 Q := by
  subst hv
  have hn := hL.2.1
  unfold P_X11_law_L59
  cases o with
  | none =>
    refine ⟨fun n a x => a = 0, ⟨0, rfl⟩, ?_⟩
    rintro n a x rfl
    unfold P_X11_law_L59b
    exact ⟨fun _ => k, fun h => absurd rfl h⟩
  | some r =>
    have hlt := hr r rfl
    obtain ⟨-, st, s1, s2, -⟩ := hL.2.2.2 r hlt
    have e : lawTc S2 (some r) = tcn S2 r st := by
      show tcn S2 r (sI S2 1168 r).toNatClampNeg = _
      rw [s2, nat32c (by omega)]
    rw [e] at k
    refine ⟨fun n a x => ∃ s, s ≤ st ∧ n = st - s ∧ x = Int32.ofNat (24 * r + s) ∧ a = Int32.ofNat (tcn S2 r s), ⟨st, 0, by omega, rfl, l_mul, rfl⟩, ?_⟩
    rintro n a x ⟨s, hs, rfl, rfl, rfl⟩
    unfold P_X11_law_L59b P_X11_law_B99
    have h264 : 24 * r + s < 264 := by omega
    have h11 : r < 11 := by omega
    have hr32 : r < 2147483648 := by omega
    have he : ¬ (Int32.ofNat r = -1) := fun q => (n_m1 hr32).mp q
    refine ⟨fun q => absurd q he, fun _ => ?_⟩
    show _ ∧ _
    simp (disch := first | omega | decide) only [optI, Option.some.injEq, exists_eq_left', exists_eq_left, forall_eq, forall_eq', true_and, and_true, true_implies, implies_true, false_implies, not_true_eq_false, not_false_eq_true, reduceCtorEq, and_self, forall_const, i10, i01, if_true, if_false, and_false, false_and, Nat.not_lt_zero, hM.o, hM.a68, s2, l_mul, n_add, hM.a70, h264, h11, vp_n, nat32c, nn_le, one_e, n_s]
    refine ⟨fun c => ?_, fun c => ⟨fun d => ⟨st - (s + 1), by omega, s + 1, by omega, rfl, rfl, ?_⟩, fun d => ⟨st - (s + 1), by omega, s + 1, by omega, rfl, rfl, ?_⟩⟩⟩
    · have e : s = st := by omega
      subst e; exact k
    · rw [tcn_s, if_pos d, ← n_s]
    · rw [tcn_s, if_neg d]; simp
/-- a turn of a neighbour at a corner on a day -/
def tmat (S2 : Sg) (n c d : Int32) (p : Nat) : Prop := sI S2 1170 p = 30 ∧ sI S2 1171 p = n ∧ sI S2 1172 p = c ∧ ¬ d < sI S2 1174 p ∧ ((d - sI S2 1174 p) - (d - sI S2 1174 p) / sI S2 1173 p * sI S2 1173 p) = 0
def tany (S2 : Sg) (n c d : Int32) (r s : Nat) : Prop := ∃ j, j < s ∧ tmat S2 n c d (24 * r + j)
def tanyO (S2 : Sg) (n c d : Int32) : Option Nat → Prop
  | none => False
  | some r => tany S2 n c d r (sI S2 1168 r).toNatClampNeg
theorem fallsOn_e {q p : Nat} {d : Int32} {Q : Int32 → Prop} (h : turnE S S2 q p) : P_X9_fallsOn q d S Q ↔ ((¬ d < sI S2 1174 p ∧ ((d - sI S2 1174 p) - (d - sI S2 1174 p) / sI S2 1173 p * sI S2 1173 p) = 0) → Q 1) ∧ (¬ (¬ d < sI S2 1174 p ∧ ((d - sI S2 1174 p) - (d - sI S2 1174 p) / sI S2 1173 p * sI S2 1173 p) = 0) → Q 0) := by
  obtain ⟨t1, t2, t3, t4, t5, t6, t7, t8, ⟨e, e1, e2, e3⟩, t10⟩ := h
  unfold P_X9_fallsOn P_X9_fallsOn_B33
  have h1 : ¬ e ≤ 0 := by omega
  have h2 : ¬ e = 0 := by omega
  rw [t5, t6]
  by_cases c : d < sI S2 1174 p
  · simp (disch := first | omega | decide) only [Option.some.injEq, exists_eq_left', exists_eq_left, forall_eq, forall_eq', true_and, and_true, true_implies, implies_true, false_implies, not_true_eq_false, not_false_eq_true, reduceCtorEq, and_self, forall_const, i10, i01, if_true, if_false, and_false, false_and, Nat.not_lt_zero, sK_pI, sN_pI, sR_pI, sL_pI, sK_pL, sN_pL, sR_pL, sI_pL, sK_pR, sN_pR, sI_pR, sL_pR, sI_pI_eq, sI_pI_ne, sL_pL_eq, sL_pL_ne, sR_pR_eq, sR_pR_ne, nn_le, nat32_lt, nn_eq, ln_le, nl_le, ln_lt, nl_lt, ln_eq, nl_eq, n_m1, n_lt0, vp_n, vp_l, lc_n, nat32c, n_s, nI_n, t1, c]
  · by_cases m : ((d - sI S2 1174 p) - (d - sI S2 1174 p) / sI S2 1173 p * sI S2 1173 p) = 0
    · rw [e3] at m ⊢
      simp (disch := first | omega | decide) only [Option.some.injEq, exists_eq_left', exists_eq_left, forall_eq, forall_eq', true_and, and_true, true_implies, implies_true, false_implies, not_true_eq_false, not_false_eq_true, reduceCtorEq, and_self, forall_const, i10, i01, if_true, if_false, and_false, false_and, Nat.not_lt_zero, sK_pI, sN_pI, sR_pI, sL_pI, sK_pL, sN_pL, sR_pL, sI_pL, sK_pR, sN_pR, sI_pR, sL_pR, sI_pI_eq, sI_pI_ne, sL_pL_eq, sL_pL_ne, sR_pR_eq, sR_pR_ne, nn_le, nat32_lt, nn_eq, ln_le, nl_le, ln_lt, nl_lt, ln_eq, nl_eq, n_m1, n_lt0, vp_n, vp_l, lc_n, nat32c, n_s, nI_n, t1, c, m, h1, h2]
    · rw [e3] at m ⊢
      simp (disch := first | omega | decide) only [Option.some.injEq, exists_eq_left', exists_eq_left, forall_eq, forall_eq', true_and, and_true, true_implies, implies_true, false_implies, not_true_eq_false, not_false_eq_true, reduceCtorEq, and_self, forall_const, i10, i01, if_true, if_false, and_false, false_and, Nat.not_lt_zero, sK_pI, sN_pI, sR_pI, sL_pI, sK_pL, sN_pL, sR_pL, sI_pL, sK_pR, sN_pR, sI_pR, sL_pR, sI_pI_eq, sI_pI_ne, sL_pL_eq, sL_pL_ne, sR_pR_eq, sR_pR_ne, nn_le, nat32_lt, nn_eq, ln_le, nl_le, ln_lt, nl_lt, ln_eq, nl_eq, n_m1, n_lt0, vp_n, vp_l, lc_n, nat32c, n_s, nI_n, t1, c, m, h1, h2]
theorem x_turn {o : Option Nat} {n c d : Int32} {Q : Int32 → Prop} (hS : GS S) (hL : GL S S2 nL lh) (hr : ∀ j, o = some j → j < nL) (k1 : tanyO S2 n c d o → Q 1) (k0 : ¬ tanyO S2 n c d o → Q 0) : P_X10_turn_L41 1000 n c d (some (lawH lh o)) 0 S Q := by
  obtain ⟨q, ro, th, l1, l2, l3, l4, l5⟩ := law_list hS hL hr
  have hk := lawH_k hS hL hr
  unfold P_X10_turn_L41
  refine lpI (N := lawTc S2 o) (s0 := 0) (R := fun j => ∀ r st, o = some r → sI S2 1168 r = Int32.ofNat st → st ≤ 24 → ∀ s, s < st → tcn S2 r s < j → ¬ tmat S2 n c d (24 * r + s)) (B := fun x K => P_X10_turn_L41b 1000 n c d (some (lawH lh o)) x S Q K) rfl (Nat.zero_le _) (fun r st _ _ _ s _ h => absurd h (Nat.not_lt_zero _)) (fun j hj hR K hK => ?_)
  unfold P_X10_turn_L41b P_X10_turn_B98
  simp (disch := first | omega | decide) only [Option.some.injEq, exists_eq_left', exists_eq_left, forall_eq, forall_eq', true_and, and_true, true_implies, implies_true, false_implies, not_true_eq_false, not_false_eq_true, reduceCtorEq, and_self, forall_const, i10, i01, if_true, if_false, and_false, false_and, Nat.not_lt_zero, sK_pI, sN_pI, sR_pI, sL_pI, sK_pL, sN_pL, sR_pL, sI_pL, sK_pR, sN_pR, sI_pR, sL_pR, sI_pI_eq, sI_pI_ne, sL_pL_eq, sL_pL_ne, sR_pR_eq, sR_pR_ne, nn_le, nat32_lt, nn_eq, ln_le, nl_le, ln_lt, nl_lt, ln_eq, nl_eq, n_m1, n_lt0, vp_n, vp_l, lc_n, nat32c, n_s, nI_n, hk, l1, l2.1, size_e l2]
  refine ⟨fun e => k0 ?_, fun e => ?_⟩
  · cases o with
    | none => exact fun h => h
    | some r =>
      obtain ⟨st, s1, s2, s3, s4⟩ := l5 r rfl
      rintro ⟨s, h1, h2⟩
      rw [s2, nat32c (by omega)] at h1
      refine hR r st rfl s2 s1 s h1 ?_ h2
      have := tcn_lt h1 h2.1
      omega
  · have hlt : j < lawTc S2 o := by omega
    cases o with
    | none => exact absurd hlt (Nat.not_lt_zero _)
    | some r =>
      obtain ⟨st, s1, s2, s3, s4⟩ := l5 r rfl
      rw [s3] at hlt
      obtain ⟨s, h1, h2, h3⟩ := tcn_inv hlt
      have t := s4 s h1 h2
      rw [h3] at t
      have nxt : ¬ tmat S2 n c d (24 * r + s) → K (Int32.ofNat (j + 1)) := fun hno => hK (by omega) (fun r' st' hr' hst' hst2 s' hs' hj' => by
        cases hr'
        rw [s2, nn_eq (by omega) (by omega)] at hst'
        subst hst'
        by_cases e2 : tcn S2 r s' < j
        · exact hR r st rfl s2 s1 s' hs' e2
        · by_cases e3 : s' = s
          · subst e3; exact hno
          · intro hm
            rcases Nat.lt_or_ge s' s with c1 | c1
            · have := tcn_lt (S2 := S2) (r := r) c1 hm.1; omega
            · have := tcn_lt (S2 := S2) (r := r) (s := s) (n := s') (by omega) h2; omega)
      rw [get_e l2 (by omega)]
      refine ⟨_, rfl, t.1, ?_⟩
      rw [t.2.2.1, t.2.2.2.1]
      refine ⟨fun c1 => ⟨fun c2 => (fallsOn_e t).mpr ⟨fun f => ⟨fun z => absurd z (by decide), fun _ => k1 ⟨s, by rw [s2, nat32c (by omega)]; exact h1, h2, c1, c2, f.1, f.2⟩⟩, fun f => ⟨fun _ => ?_, fun z => absurd rfl z⟩⟩, fun c2 => ?_⟩, fun c1 => ?_⟩
      · exact nxt (fun hm => f ⟨hm.2.2.2.1, hm.2.2.2.2⟩)
      · exact nxt (fun hm => c2 hm.2.2.1)
      · exact nxt (fun hm => c1 hm.2.1)
theorem isTurn_e {p : Nat} {d : Int32} {Q : Int32 → Prop} (hM : MW S2) (hc : sI S2 1000 1 = Int32.ofNat nC) (hp : p < 264) (h3 : sI S2 1170 p = 30 → ¬ sI S2 1173 p = 0) (k1 : (sI S2 1170 p = 30 ∧ ¬ 10 ≤ sI S2 1171 p ∧ ¬ Int32.ofNat nC ≤ sI S2 1172 p ∧ ¬ d < sI S2 1174 p ∧ ((d - sI S2 1174 p) - (d - sI S2 1174 p) / sI S2 1173 p * sI S2 1173 p) = 0) → Q 1) (k0 : ¬ (sI S2 1170 p = 30 ∧ ¬ 10 ≤ sI S2 1171 p ∧ ¬ Int32.ofNat nC ≤ sI S2 1172 p ∧ ¬ d < sI S2 1174 p ∧ ((d - sI S2 1174 p) - (d - sI S2 1174 p) / sI S2 1173 p * sI S2 1173 p) = 0) → Q 0) : P_X11_isTurn 1000 (Int32.ofNat p) d S2 Q := by
  unfold P_X11_isTurn P_X11_isTurn_B67
  simp (disch := first | omega | decide) only [Option.some.injEq, exists_eq_left', exists_eq_left, forall_eq, forall_eq', true_and, and_true, true_implies, implies_true, false_implies, not_true_eq_false, not_false_eq_true, reduceCtorEq, and_self, forall_const, i10, i01, if_true, if_false, and_false, false_and, Nat.not_lt_zero, sK_pI, sN_pI, sR_pI, sL_pI, sK_pL, sN_pL, sR_pL, sI_pL, sK_pR, sN_pR, sI_pR, sL_pR, sI_pI_eq, sI_pI_ne, sL_pL_eq, sL_pL_ne, sR_pR_eq, sR_pR_ne, nn_le, nat32_lt, nn_eq, ln_le, nl_le, ln_lt, nl_lt, ln_eq, nl_eq, n_m1, n_lt0, vp_n, vp_l, lc_n, nat32c, n_s, nI_n, hM.o, hc, hM.a70, hM.a71, hM.a72, hM.a73, hM.a74, hp]
  exact ⟨fun a => ⟨fun b => k0 (fun z => z.2.1 b), fun b => ⟨fun c => k0 (fun z => z.2.2.1 c), fun c => ⟨fun e => k0 (fun z => z.2.2.2.1 e), fun e => ⟨h3 a, fun m => k1 ⟨a, b, c, e, m⟩, fun m => k0 (fun z => m z.2.2.2.2)⟩⟩⟩⟩, fun a => k0 (fun z => a z.1)⟩
theorem m_turn {o : Option Nat} {n c : Nat} {d v : Int32} {Q : Int32 → Prop} (hM : MW S2) (hL : GL S S2 nL lh) (hr : ∀ j, o = some j → j < nL) (hc : sI S2 1000 1 = Int32.ofNat nC) (hn : nC ≤ 12) (h10 : n < 10) (hcn : c < nC) (hv : v = 24 * optI o) (k1 : tanyO S2 (Int32.ofNat n) (Int32.ofNat c) d o → Q 1) (k0 : ¬ tanyO S2 (Int32.ofNat n) (Int32.ofNat c) d o → Q 0) : P_X11_turn_L48 1000 (Int32.ofNat n) (Int32.ofNat c) d (optI o) 0 v S2 Q := by
  subst hv
  have hnL := hL.2.1
  unfold P_X11_turn_L48
  cases o with
  | none =>
    refine ⟨fun n a x => a = 0, ⟨0, rfl⟩, ?_⟩
    rintro m a x rfl
    unfold P_X11_turn_L48b P_X11_turn_B122
    refine ⟨fun _ => ?_, fun h => absurd rfl h⟩
    rw [one_e, if_pos rfl]
    exact k0 (fun h => h)
  | some r =>
    have hlt := hr r rfl
    obtain ⟨-, st, s1, s2, hE⟩ := hL.2.2.2 r hlt
    obtain ⟨-, -, -, q1, q2, th, -, -, -, -, -, -, -, -, g9⟩ := hE
    have e : ∀ x, tanyO S2 (Int32.ofNat n) (Int32.ofNat c) d (some r) = x ↔ tany S2 (Int32.ofNat n) (Int32.ofNat c) d r st = x := fun x => by
      show tany S2 _ _ d r (sI S2 1168 r).toNatClampNeg = x ↔ _
      rw [s2, nat32c (by omega)]
    rw [(e _).mpr rfl] at k1 k0
    refine lpA (N := 24 * r + st) (s0 := 24 * r) (R := fun i a => ∃ s, i = 24 * r + s ∧ s ≤ st ∧ ((a = 0 ∧ ¬ tany S2 (Int32.ofNat n) (Int32.ofNat c) d r s) ∨ (a = 1 ∧ tany S2 (Int32.ofNat n) (Int32.ofNat c) d r s))) (B := fun a x K => P_X11_turn_L48b 1000 (Int32.ofNat n) (Int32.ofNat c) d (Int32.ofNat r) a x S2 Q K) l_mul (by omega) ⟨0, rfl, Nat.zero_le _, Or.inl ⟨rfl, fun ⟨j, hj, _⟩ => absurd hj (Nat.not_lt_zero _)⟩⟩ (fun i hi a hR K hK => ?_)
    obtain ⟨s, rfl, hs, ha⟩ := hR
    unfold P_X11_turn_L48b P_X11_turn_B122 P_X11_turn_B113 P_X11_turn_B109 P_X11_turn_B114
    have h264 : 24 * r + s < 264 := by omega
    have h11 : r < 11 := by omega
    have hr32 : r < 2147483648 := by omega
    have he : ¬ (Int32.ofNat r = -1) := fun q => (n_m1 hr32).mp q
    refine ⟨fun q => absurd q he, fun _ => ?_⟩
    show _ ∧ _
    simp (disch := first | omega | decide) only [optI, Option.some.injEq, exists_eq_left', exists_eq_left, forall_eq, forall_eq', true_and, and_true, true_implies, implies_true, false_implies, not_true_eq_false, not_false_eq_true, reduceCtorEq, and_self, forall_const, i10, i01, if_true, if_false, and_false, false_and, Nat.not_lt_zero, hM.o, hM.a68, s2, l_mul, n_add, hM.a71, hM.a72, h264, h11, vp_n, nat32c, nn_le, one_e, n_s]
    refine ⟨fun f => ?_, fun f => ⟨fun a0 => ?_, fun a1 => hK (by omega) _ ⟨s + 1, by omega, by omega, Or.inr ⟨rfl, ?_⟩⟩⟩⟩
    · have es : s = st := by omega
      subst es
      rcases ha with ⟨rfl, ha⟩ | ⟨rfl, ha⟩
      · exact k0 ha
      · exact k1 ha
    · have hno : ¬ tany S2 (Int32.ofNat n) (Int32.ofNat c) d r s := by
        rcases ha with ⟨_, h⟩ | ⟨h, _⟩
        · exact h
        · rw [a0] at h; exact absurd h (by decide)
      have no : ¬ tmat S2 (Int32.ofNat n) (Int32.ofNat c) d (24 * r + s) → ¬ tany S2 (Int32.ofNat n) (Int32.ofNat c) d r (s + 1) := fun h1 ⟨j, j1, j2⟩ => by
        rcases Nat.lt_or_ge j s with w | w
        · exact hno ⟨j, w, j2⟩
        · have : j = s := by omega
          subst this; exact h1 j2
      refine isTurn_e hM hc h264 (fun z => ?_) (fun z => ⟨fun w => absurd w (by decide), fun _ => ⟨fun w1 => ⟨fun w2 => hK (by omega) _ ⟨s + 1, by omega, by omega, Or.inr ⟨rfl, s, by omega, z.1, w1, w2, z.2.2.2.1, z.2.2.2.2⟩⟩, fun w2 => hK (by omega) _ ⟨s + 1, by omega, by omega, Or.inl ⟨rfl, no (fun hm => w2 hm.2.2.1)⟩⟩⟩, fun w1 => hK (by omega) _ ⟨s + 1, by omega, by omega, Or.inl ⟨rfl, no (fun hm => w1 hm.2.1)⟩⟩⟩⟩) (fun z => ⟨fun _ => hK (by omega) _ ⟨s + 1, by omega, by omega, Or.inl ⟨rfl, no (fun hm => z ⟨hm.1, ?_, ?_, hm.2.2.2.1, hm.2.2.2.2⟩)⟩⟩, fun w => absurd rfl w⟩)
      · have t := (g9 s (by omega) z).2.2.2.2.2.2.2.2.1
        obtain ⟨k, t1, t2, t3⟩ := t
        rw [t3]
        simp (disch := first | omega | decide) only [nl_eq]
        omega
      · rw [hm.2.1]
        simp (disch := first | omega | decide) only [ln_le]
        omega
      · rw [hm.2.2.1, nn_le (by omega) (by omega)]
        omega
    · rcases ha with ⟨h, _⟩ | ⟨_, j, j1, j2⟩
      · exact absurd h a1
      · exact ⟨j, by omega, j2⟩
end RD
theorem pr_neighbour : Pr_neighbour Inv := by
  intro S S2 hI v1 v2
  have hI0 := hI
  obtain ⟨hk, hM, hS, hU, hA, hW, hB, nC, nR, nT, nK, nL, nM, nP, td, N, lh, hC, hR, hT, hK, hL, hZ, hP, hN⟩ := hI
  unfold P_X10_neighbour P_X11_neighbour
  simp only [within_e, isIn_e]
  by_cases h1 : inn v1 0 9 = 0
  · simp (disch := first | omega | decide) only [Option.some.injEq, exists_eq_left', exists_eq_left, forall_eq, forall_eq', true_and, and_true, true_implies, implies_true, false_implies, not_true_eq_false, not_false_eq_true, reduceCtorEq, and_self, forall_const, i10, i01, if_true, if_false, and_false, false_and, Nat.not_lt_zero, sK_pI, sN_pI, sR_pI, sL_pI, sK_pL, sN_pL, sR_pL, sI_pL, sK_pR, sN_pR, sI_pR, sL_pR, sI_pI_eq, sI_pI_ne, sL_pL_eq, sL_pL_ne, sR_pR_eq, sR_pR_ne, nn_le, nat32_lt, nn_eq, ln_le, nl_le, ln_lt, nl_lt, ln_eq, nl_eq, n_m1, n_lt0, vp_n, vp_l, lc_n, nat32c, n_s, nI_n, h1, hI0]
  by_cases h2 : inn v2 0 1 = 0
  · simp (disch := first | omega | decide) only [Option.some.injEq, exists_eq_left', exists_eq_left, forall_eq, forall_eq', true_and, and_true, true_implies, implies_true, false_implies, not_true_eq_false, not_false_eq_true, reduceCtorEq, and_self, forall_const, i10, i01, if_true, if_false, and_false, false_and, Nat.not_lt_zero, sK_pI, sN_pI, sR_pI, sL_pI, sK_pL, sN_pL, sR_pL, sI_pL, sK_pR, sN_pR, sI_pR, sL_pR, sI_pI_eq, sI_pI_ne, sL_pL_eq, sL_pL_ne, sR_pR_eq, sR_pR_ne, nn_le, nat32_lt, nn_eq, ln_le, nl_le, ln_lt, nl_lt, ln_eq, nl_eq, n_m1, n_lt0, vp_n, vp_l, lc_n, nat32c, n_s, nI_n, h1, h2, hI0]
  obtain ⟨i, -, i2, rfl⟩ := inn_rg (lo := 0) (hi := 9) (by omega) (by omega) h1
  have hi : i < 10 := by omega
  simp (disch := first | omega | decide) only [Option.some.injEq, exists_eq_left', exists_eq_left, forall_eq, forall_eq', true_and, and_true, true_implies, implies_true, false_implies, not_true_eq_false, not_false_eq_true, reduceCtorEq, and_self, forall_const, i10, i01, if_true, if_false, and_false, false_and, Nat.not_lt_zero, sK_pI, sN_pI, sR_pI, sL_pI, sK_pL, sN_pL, sR_pL, sI_pL, sK_pR, sN_pR, sI_pR, sL_pR, sI_pI_eq, sI_pI_ne, sL_pL_eq, sL_pL_ne, sR_pR_eq, sR_pR_ne, nn_le, nat32_lt, nn_eq, ln_le, nl_le, ln_lt, nl_lt, ln_eq, nl_eq, n_m1, n_lt0, vp_n, vp_l, lc_n, nat32c, n_s, nI_n, h1, h2]
  by_cases h3 : v2 = 0
  · simp (disch := first | omega | decide) only [Option.some.injEq, exists_eq_left', exists_eq_left, forall_eq, forall_eq', true_and, and_true, true_implies, implies_true, false_implies, not_true_eq_false, not_false_eq_true, reduceCtorEq, and_self, forall_const, i10, i01, if_true, if_false, and_false, false_and, Nat.not_lt_zero, sK_pI, sN_pI, sR_pI, sL_pI, sK_pL, sN_pL, sR_pL, sI_pL, sK_pR, sN_pR, sI_pR, sL_pR, sI_pI_eq, sI_pI_ne, sL_pL_eq, sL_pL_ne, sR_pR_eq, sR_pR_ne, nn_le, nat32_lt, nn_eq, ln_le, nl_le, ln_lt, nl_lt, ln_eq, nl_eq, n_m1, n_lt0, vp_n, vp_l, lc_n, nat32c, n_s, nI_n, h3, hS.1, hS.2.1, hi, hW.1 i hi]
    refine m_ever hM hi ?_
    rw [if_pos rfl]; exact ⟨rfl, hI0⟩
  · simp (disch := first | omega | decide) only [Option.some.injEq, exists_eq_left', exists_eq_left, forall_eq, forall_eq', true_and, and_true, true_implies, implies_true, false_implies, not_true_eq_false, not_false_eq_true, reduceCtorEq, and_self, forall_const, i10, i01, if_true, if_false, and_false, false_and, Nat.not_lt_zero, sK_pI, sN_pI, sR_pI, sL_pI, sK_pL, sN_pL, sR_pL, sI_pL, sK_pR, sN_pR, sI_pR, sL_pR, sI_pI_eq, sI_pI_ne, sL_pL_eq, sL_pL_ne, sR_pR_eq, sR_pR_ne, nn_le, nat32_lt, nn_eq, ln_le, nl_le, ln_lt, nl_lt, ln_eq, nl_eq, n_m1, n_lt0, vp_n, vp_l, lc_n, nat32c, n_s, nI_n, h3]
    refine x_ever hS hW hi (m_ever hM hi ?_)
    rw [if_neg h3]; exact ⟨rfl, hI0⟩
theorem pr_law : Pr_law Inv := by
  intro S S2 hI v1 v2
  have hI0 := hI
  obtain ⟨hk, hM, hS, hU, hA, hW, hB, nC, nR, nT, nK, nL, nM, nP, td, N, lh, hC, hR, hT, hK, hL, hZ, hP, hN⟩ := hI
  unfold P_X10_law P_X11_law
  simp only [within_e, isIn_e]
  by_cases h1 : inn v1 0 3649 = 0
  · simp (disch := first | omega | decide) only [Option.some.injEq, exists_eq_left', exists_eq_left, forall_eq, forall_eq', true_and, and_true, true_implies, implies_true, false_implies, not_true_eq_false, not_false_eq_true, reduceCtorEq, and_self, forall_const, i10, i01, if_true, if_false, and_false, false_and, Nat.not_lt_zero, sK_pI, sN_pI, sR_pI, sL_pI, sK_pL, sN_pL, sR_pL, sI_pL, sK_pR, sN_pR, sI_pR, sL_pR, sI_pI_eq, sI_pI_ne, sL_pL_eq, sL_pL_ne, sR_pR_eq, sR_pR_ne, nn_le, nat32_lt, nn_eq, ln_le, nl_le, ln_lt, nl_lt, ln_eq, nl_eq, n_m1, n_lt0, vp_n, vp_l, lc_n, nat32c, n_s, nI_n, h1, hI0]
  by_cases h2 : inn v2 0 22 = 0
  · simp (disch := first | omega | decide) only [Option.some.injEq, exists_eq_left', exists_eq_left, forall_eq, forall_eq', true_and, and_true, true_implies, implies_true, false_implies, not_true_eq_false, not_false_eq_true, reduceCtorEq, and_self, forall_const, i10, i01, if_true, if_false, and_false, false_and, Nat.not_lt_zero, sK_pI, sN_pI, sR_pI, sL_pI, sK_pL, sN_pL, sR_pL, sI_pL, sK_pR, sN_pR, sI_pR, sL_pR, sI_pI_eq, sI_pI_ne, sL_pL_eq, sL_pL_ne, sR_pR_eq, sR_pR_ne, nn_le, nat32_lt, nn_eq, ln_le, nl_le, ln_lt, nl_lt, ln_eq, nl_eq, n_m1, n_lt0, vp_n, vp_l, lc_n, nat32c, n_s, nI_n, h1, h2, hI0]
  obtain ⟨w, -, w2, rfl⟩ := inn_rg (lo := 0) (hi := 22) (by omega) (by omega) h2
  simp (disch := first | omega | decide) only [Option.some.injEq, exists_eq_left', exists_eq_left, forall_eq, forall_eq', true_and, and_true, true_implies, implies_true, false_implies, not_true_eq_false, not_false_eq_true, reduceCtorEq, and_self, forall_const, i10, i01, if_true, if_false, and_false, false_and, Nat.not_lt_zero, sK_pI, sN_pI, sR_pI, sL_pI, sK_pL, sN_pL, sR_pL, sI_pL, sK_pR, sN_pR, sI_pR, sL_pR, sI_pI_eq, sI_pI_ne, sL_pL_eq, sL_pL_ne, sR_pR_eq, sR_pR_ne, nn_le, nat32_lt, nn_eq, ln_le, nl_le, ln_lt, nl_lt, ln_eq, nl_eq, n_m1, n_lt0, vp_n, vp_l, lc_n, nat32c, n_s, nI_n, h1, h2, hS.1, hM.o]
  refine x_lawOn hS hL ?_
  have hr : ∀ j, inF S2 v1 nL = some j → j < nL := fun j h => inF_lt h
  obtain ⟨q, ro, th, l1, l2, l3, l4, l5⟩ := law_list hS hL hr
  have hk2 := lawH_k hS hL hr
  by_cases c : 21 ≤ w
  · by_cases d : w = 21
    · subst d
      simp (disch := first | omega | decide) only [Option.some.injEq, exists_eq_left', exists_eq_left, forall_eq, forall_eq', true_and, and_true, true_implies, implies_true, false_implies, not_true_eq_false, not_false_eq_true, reduceCtorEq, and_self, forall_const, i10, i01, if_true, if_false, and_false, false_and, Nat.not_lt_zero, sK_pI, sN_pI, sR_pI, sL_pI, sK_pL, sN_pL, sR_pL, sI_pL, sK_pR, sN_pR, sI_pR, sL_pR, sI_pI_eq, sI_pI_ne, sL_pL_eq, sL_pL_ne, sR_pR_eq, sR_pR_ne, nn_le, nat32_lt, nn_eq, ln_le, nl_le, ln_lt, nl_lt, ln_eq, nl_eq, n_m1, n_lt0, vp_n, vp_l, lc_n, nat32c, n_s, nI_n, Nat.le_refl, hk2, l1, l2.1, size_e l2]
      refine m_inForce hM hL.2.2.1 hL.2.1 ?_
      refine ⟨fun h => absurd h (by decide), fun _ => ?_⟩
      refine m_lawTurns hM hL hr ⟨rfl, hI0⟩ rfl
    · have e : w = 22 := by omega
      subst e
      simp (disch := first | omega | decide) only [Option.some.injEq, exists_eq_left', exists_eq_left, forall_eq, forall_eq', true_and, and_true, true_implies, implies_true, false_implies, not_true_eq_false, not_false_eq_true, reduceCtorEq, and_self, forall_const, i10, i01, if_true, if_false, and_false, false_and, Nat.not_lt_zero, sK_pI, sN_pI, sR_pI, sL_pI, sK_pL, sN_pL, sR_pL, sI_pL, sK_pR, sN_pR, sI_pR, sL_pR, sI_pI_eq, sI_pI_ne, sL_pL_eq, sL_pL_ne, sR_pR_eq, sR_pR_ne, nn_le, nat32_lt, nn_eq, ln_le, nl_le, ln_lt, nl_lt, ln_eq, nl_eq, n_m1, n_lt0, vp_n, vp_l, lc_n, nat32c, n_s, nI_n, c, d, hk2, l4]
      exact m_inForce hM hL.2.2.1 hL.2.1 ⟨rfl, hI0⟩
  · have hw : w < 21 := by omega
    have hw2 : ¬ w = 22 := by omega
    refine ⟨fun h => absurd h c, fun _ => ⟨_, rfl, hk2, (value_e hS hL hr hw).mpr ?_⟩⟩
    refine m_inForce hM hL.2.2.1 hL.2.1 ?_
    exact ⟨fun h => absurd h hw2, fun _ => ⟨fun h => absurd h c, fun _ => m_lawOn hM hL hw ⟨rfl, hI0⟩⟩⟩
theorem pr_turn : Pr_turn Inv := by
  intro S S2 hI v1 v2 v3
  have hI0 := hI
  obtain ⟨hk, hM, hS, hU, hA, hW, hB, nC, nR, nT, nK, nL, nM, nP, td, N, lh, hC, hR, hT, hK, hL, hZ, hP, hN⟩ := hI
  unfold P_X10_turn P_X11_turn
  simp only [within_e, isIn_e]
  by_cases h1 : inn v1 0 9 = 0
  · simp (disch := first | omega | decide) only [Option.some.injEq, exists_eq_left', exists_eq_left, forall_eq, forall_eq', true_and, and_true, true_implies, implies_true, false_implies, not_true_eq_false, not_false_eq_true, reduceCtorEq, and_self, forall_const, i10, i01, if_true, if_false, and_false, false_and, Nat.not_lt_zero, sK_pI, sN_pI, sR_pI, sL_pI, sK_pL, sN_pL, sR_pL, sI_pL, sK_pR, sN_pR, sI_pR, sL_pR, sI_pI_eq, sI_pI_ne, sL_pL_eq, sL_pL_ne, sR_pR_eq, sR_pR_ne, nn_le, nat32_lt, nn_eq, ln_le, nl_le, ln_lt, nl_lt, ln_eq, nl_eq, n_m1, n_lt0, vp_n, vp_l, lc_n, nat32c, n_s, nI_n, h1, hI0]
  by_cases hc : isC v2 nC
  case neg => simp (disch := first | omega | decide) only [Option.some.injEq, exists_eq_left', exists_eq_left, forall_eq, forall_eq', true_and, and_true, true_implies, implies_true, false_implies, not_true_eq_false, not_false_eq_true, reduceCtorEq, and_self, forall_const, i10, i01, if_true, if_false, and_false, false_and, Nat.not_lt_zero, sK_pI, sN_pI, sR_pI, sL_pI, sK_pL, sN_pL, sR_pL, sI_pL, sK_pR, sN_pR, sI_pR, sL_pR, sI_pI_eq, sI_pI_ne, sL_pL_eq, sL_pL_ne, sR_pR_eq, sR_pR_ne, nn_le, nat32_lt, nn_eq, ln_le, nl_le, ln_lt, nl_lt, ln_eq, nl_eq, n_m1, n_lt0, vp_n, vp_l, lc_n, nat32c, n_s, nI_n, h1, hS.1, hM.o, cornerAt_n hS hC hc, isCorner_n hM hC.2.2.1 hC.2.1 hc, hI0]
  obtain ⟨i, hi, rfl⟩ := hc
  by_cases h2 : inn v3 0 3649 = 0
  · simp (disch := first | omega | decide) only [Option.some.injEq, exists_eq_left', exists_eq_left, forall_eq, forall_eq', true_and, and_true, true_implies, implies_true, false_implies, not_true_eq_false, not_false_eq_true, reduceCtorEq, and_self, forall_const, i10, i01, if_true, if_false, and_false, false_and, Nat.not_lt_zero, sK_pI, sN_pI, sR_pI, sL_pI, sK_pL, sN_pL, sR_pL, sI_pL, sK_pR, sN_pR, sI_pR, sL_pR, sI_pI_eq, sI_pI_ne, sL_pL_eq, sL_pL_ne, sR_pR_eq, sR_pR_ne, nn_le, nat32_lt, nn_eq, ln_le, nl_le, ln_lt, nl_lt, ln_eq, nl_eq, n_m1, n_lt0, vp_n, vp_l, lc_n, nat32c, n_s, nI_n, h1, h2, hS.1, hM.o, cornerAt_y hS hC hi, isCorner_y hM hC.2.2.1 hC.2.1 hi, hI0]
  obtain ⟨n, -, n2, rfl⟩ := inn_rg (lo := 0) (hi := 9) (by omega) (by omega) h1
  simp (disch := first | omega | decide) only [Option.some.injEq, exists_eq_left', exists_eq_left, forall_eq, forall_eq', true_and, and_true, true_implies, implies_true, false_implies, not_true_eq_false, not_false_eq_true, reduceCtorEq, and_self, forall_const, i10, i01, if_true, if_false, and_false, false_and, Nat.not_lt_zero, sK_pI, sN_pI, sR_pI, sL_pI, sK_pL, sN_pL, sR_pL, sI_pL, sK_pR, sN_pR, sI_pR, sL_pR, sI_pI_eq, sI_pI_ne, sL_pL_eq, sL_pL_ne, sR_pR_eq, sR_pR_ne, nn_le, nat32_lt, nn_eq, ln_le, nl_le, ln_lt, nl_lt, ln_eq, nl_eq, n_m1, n_lt0, vp_n, vp_l, lc_n, nat32c, n_s, nI_n, h1, h2, hS.1, hM.o, cornerAt_y hS hC hi, isCorner_y hM hC.2.2.1 hC.2.1 hi]
  have hr : ∀ j, inF S2 v3 nL = some j → j < nL := fun j h => inF_lt h
  refine x_lawOn hS hL (x_turn hS hL hr (fun hy => ?_) (fun hy => ?_))
  · exact m_inForce hM hL.2.2.1 hL.2.1 (m_turn hM hL hr hC.2.2.1 hC.2.1 (by omega) hi rfl (fun _ => ⟨rfl, hI0⟩) (fun h => absurd hy h))
  · exact m_inForce hM hL.2.2.1 hL.2.1 (m_turn hM hL hr hC.2.2.1 hC.2.1 (by omega) hi rfl (fun h => absurd h hy) (fun _ => ⟨rfl, hI0⟩))
/-! fee -/
def fef (S2 : Sg) (ow y l7 l8 : Int32) (i : Nat) : Int32 := if sI S2 1126 i = ow then l7 * sI S2 1127 i - (if ((sI S2 1130 i) >>> (y &&& 31)) &&& 1 = 1 then l8 * sI S2 1128 i else 0) else 0
theorem add_sub3 (a b c : Int32) : a + b - c = a + (b - c) := by
  rw [Int32.sub_eq_add_neg, Int32.sub_eq_add_neg, Int32.add_assoc]
def feeV (f : Int32) : Int32 := if (0 : Int32) < f then f else 0
def feeT (S2 : Sg) (ow y : Nat) (l9 a : Int32) : Int32 := if 10 ≤ ow then feeV a else feeV (a - l9 * sI S2 1134 (10 * y + ow))
section FE
variable {S S2 : Sg} {nC nR nT nK nL nM nP td N : Nat} {lh : Nat → Nat}
theorem x_fee {o : Option Nat} {ow y : Nat} {Q : Int32 → Prop} (hS : GS S) (hR : GR S S2 nC nR td) (hL : GL S S2 nL lh) (hW : GW S S2) (hr : ∀ j, o = some j → j < nL) (h20 : ow < 20) (hy : y < 10) (k : Q (feeT S2 ow y (lawV S2 o 9) (sm (fef S2 (Int32.ofNat ow) (Int32.ofNat y) (lawV S2 o 7) (lawV S2 o 8)) nR))) : P_X10_fee_L44 1000 (Int32.ofNat ow) (Int32.ofNat y) (some (lawH lh o)) 0 0 S Q := by
  have hn := hR.2.1
  have hk := lawH_k hS hL hr
  unfold P_X10_fee_L44
  refine lpA (N := nR) (s0 := 0) (R := fun j a => a = sm (fef S2 (Int32.ofNat ow) (Int32.ofNat y) (lawV S2 o 7) (lawV S2 o 8)) j) (B := fun a x K => P_X10_fee_L44b 1000 (Int32.ofNat ow) (Int32.ofNat y) (some (lawH lh o)) a x S Q K) rfl (by omega) rfl (fun j hj a ha K hK => ?_)
  subst ha
  unfold P_X10_fee_L44b P_X10_fee_B123 P_X10_fee_B126 P_X10_fee_B158
  simp (disch := first | omega | decide) only [Option.some.injEq, exists_eq_left', exists_eq_left, forall_eq, forall_eq', true_and, and_true, true_implies, implies_true, false_implies, not_true_eq_false, not_false_eq_true, reduceCtorEq, and_self, forall_const, i10, i01, if_true, if_false, and_false, false_and, Nat.not_lt_zero, sK_pI, sN_pI, sR_pI, sL_pI, sK_pL, sN_pL, sR_pL, sI_pL, sK_pR, sN_pR, sI_pR, sL_pR, sI_pI_eq, sI_pI_ne, sL_pL_eq, sL_pL_ne, sR_pR_eq, sR_pR_ne, nn_le, nat32_lt, nn_eq, ln_le, nl_le, ln_lt, nl_lt, ln_eq, nl_eq, n_m1, n_lt0, vp_n, vp_l, lc_n, nat32c, n_s, nI_n, hS.1, hR.1.1, size_e hR.1]
  refine ⟨fun c => ?_, fun c => ?_⟩
  · have e : j = nR := by omega
    subst e
    unfold feeT feeV at k
    refine ⟨fun d => ?_, fun d => ?_⟩
    · rw [if_pos d] at k; exact k
    · rw [if_neg d] at k
      have g3 := hS.2.2.1 ow (by omega)
      have h10 : ow < 10 := by omega
      rw [← hW.2 ow y h10 hy] at k
      simp (disch := first | omega | decide) only [Option.some.injEq, exists_eq_left', exists_eq_left, forall_eq, forall_eq', true_and, and_true, true_implies, implies_true, false_implies, not_true_eq_false, not_false_eq_true, reduceCtorEq, and_self, forall_const, i10, i01, if_true, if_false, and_false, false_and, Nat.not_lt_zero, sK_pI, sN_pI, sR_pI, sL_pI, sK_pL, sN_pL, sR_pL, sI_pL, sK_pR, sN_pR, sI_pR, sL_pR, sI_pI_eq, sI_pI_ne, sL_pL_eq, sL_pL_ne, sR_pR_eq, sR_pR_ne, nn_le, nat32_lt, nn_eq, ln_le, nl_le, ln_lt, nl_lt, ln_eq, nl_eq, n_m1, n_lt0, vp_n, vp_l, lc_n, nat32c, n_s, nI_n, hS.2.1, hk, value_l (w := 9) hS hL hr (by omega), g3, h10, hy]
      exact k
  · have hlt : j < nR := by omega
    have c0 := hR.2.2.2.1 j hlt
    unfold P_X6_wasProvedIn
    by_cases d : sI S2 1126 j = Int32.ofNat ow
    · by_cases e : ((sI S2 1130 j) >>> (Int32.ofNat y &&& 31)) &&& 1 = 1
      · simp (disch := first | omega | decide) only [Option.some.injEq, exists_eq_left', exists_eq_left, forall_eq, forall_eq', true_and, and_true, true_implies, implies_true, false_implies, not_true_eq_false, not_false_eq_true, reduceCtorEq, and_self, forall_const, i10, i01, if_true, if_false, and_false, false_and, Nat.not_lt_zero, sK_pI, sN_pI, sR_pI, sL_pI, sK_pL, sN_pL, sR_pL, sI_pL, sK_pR, sN_pR, sI_pR, sL_pR, sI_pI_eq, sI_pI_ne, sL_pL_eq, sL_pL_ne, sR_pR_eq, sR_pR_ne, nn_le, nat32_lt, nn_eq, ln_le, nl_le, ln_lt, nl_lt, ln_eq, nl_eq, n_m1, n_lt0, vp_n, vp_l, lc_n, nat32c, n_s, nI_n, get_e hR.1 hlt, c0, d, hk, value_l (w := 7) hS hL hr (by omega), value_l (w := 8) hS hL hr (by omega), holds_e, e, show bz 1 from Or.inr rfl]
        exact hK hlt _ (by rw [sm_s]; unfold fef; rw [if_pos d, if_pos e, add_sub3])
      · simp (disch := first | omega | decide) only [Option.some.injEq, exists_eq_left', exists_eq_left, forall_eq, forall_eq', true_and, and_true, true_implies, implies_true, false_implies, not_true_eq_false, not_false_eq_true, reduceCtorEq, and_self, forall_const, i10, i01, if_true, if_false, and_false, false_and, Nat.not_lt_zero, sK_pI, sN_pI, sR_pI, sL_pI, sK_pL, sN_pL, sR_pL, sI_pL, sK_pR, sN_pR, sI_pR, sL_pR, sI_pI_eq, sI_pI_ne, sL_pL_eq, sL_pL_ne, sR_pR_eq, sR_pR_ne, nn_le, nat32_lt, nn_eq, ln_le, nl_le, ln_lt, nl_lt, ln_eq, nl_eq, n_m1, n_lt0, vp_n, vp_l, lc_n, nat32c, n_s, nI_n, get_e hR.1 hlt, c0, d, hk, value_l (w := 7) hS hL hr (by omega), value_l (w := 8) hS hL hr (by omega), holds_e, e, show bz 0 from Or.inl rfl]
        exact hK hlt _ (by rw [sm_s]; unfold fef; rw [if_pos d, if_neg e, add_sub3])
    · simp (disch := first | omega | decide) only [Option.some.injEq, exists_eq_left', exists_eq_left, forall_eq, forall_eq', true_and, and_true, true_implies, implies_true, false_implies, not_true_eq_false, not_false_eq_true, reduceCtorEq, and_self, forall_const, i10, i01, if_true, if_false, and_false, false_and, Nat.not_lt_zero, sK_pI, sN_pI, sR_pI, sL_pI, sK_pL, sN_pL, sR_pL, sI_pL, sK_pR, sN_pR, sI_pR, sL_pR, sI_pI_eq, sI_pI_ne, sL_pL_eq, sL_pL_ne, sR_pR_eq, sR_pR_ne, nn_le, nat32_lt, nn_eq, ln_le, nl_le, ln_lt, nl_lt, ln_eq, nl_eq, n_m1, n_lt0, vp_n, vp_l, lc_n, nat32c, n_s, nI_n, get_e hR.1 hlt, c0, d]
      exact hK hlt _ (by rw [sm_s]; unfold fef; rw [if_neg d]; simp)
theorem m_fee {ow y : Nat} {v : Int32} {Q : Int32 → Prop} (hM : MW S2) (hR : GR S S2 nC nR td) (hL : GL S S2 nL lh) (h20 : ow < 20) (hy : y < 10) (k : Q (feeT S2 ow y (lawV S2 (inF S2 v nL) 9) (sm (fef S2 (Int32.ofNat ow) (Int32.ofNat y) (lawV S2 (inF S2 v nL) 7) (lawV S2 (inF S2 v nL) 8)) nR))) : P_X11_fee_L40 1000 (Int32.ofNat ow) (Int32.ofNat y) v 0 0 S2 Q := by
  have hn := hR.2.1
  unfold P_X11_fee_L40
  refine lpA (N := nR) (s0 := 0) (R := fun j a => a = sm (fef S2 (Int32.ofNat ow) (Int32.ofNat y) (lawV S2 (inF S2 v nL) 7) (lawV S2 (inF S2 v nL) 8)) j) (B := fun a x K => P_X11_fee_L40b 1000 (Int32.ofNat ow) (Int32.ofNat y) v a x S2 Q K) rfl (by omega) rfl (fun j hj a ha K hK => ?_)
  subst ha
  unfold P_X11_fee_L40b P_X11_fee_B114 P_X11_fee_B118 P_X11_fee_B154
  simp (disch := first | omega | decide) only [Option.some.injEq, exists_eq_left', exists_eq_left, forall_eq, forall_eq', true_and, and_true, true_implies, implies_true, false_implies, not_true_eq_false, not_false_eq_true, reduceCtorEq, and_self, forall_const, i10, i01, if_true, if_false, and_false, false_and, Nat.not_lt_zero, sK_pI, sN_pI, sR_pI, sL_pI, sK_pL, sN_pL, sR_pL, sI_pL, sK_pR, sN_pR, sI_pR, sL_pR, sI_pI_eq, sI_pI_ne, sL_pL_eq, sL_pL_ne, sR_pR_eq, sR_pR_ne, nn_le, nat32_lt, nn_eq, ln_le, nl_le, ln_lt, nl_lt, ln_eq, nl_eq, n_m1, n_lt0, vp_n, vp_l, lc_n, nat32c, n_s, nI_n, hM.o, hR.2.2.1]
  refine ⟨fun c => ?_, fun c => ?_⟩
  · have e : j = nR := by omega
    subst e
    unfold feeT feeV at k
    refine ⟨fun d => ?_, fun d => ?_⟩
    · rw [if_pos d] at k; exact k
    · rw [if_neg d] at k
      have h100 : 10 * y + ow < 100 := by omega
      refine m_lawOn (w := 9) hM hL (by omega) ?_
      simp (disch := first | omega | decide) only [Option.some.injEq, exists_eq_left', exists_eq_left, forall_eq, forall_eq', true_and, and_true, true_implies, implies_true, false_implies, not_true_eq_false, not_false_eq_true, reduceCtorEq, and_self, forall_const, i10, i01, if_true, if_false, and_false, false_and, Nat.not_lt_zero, sK_pI, sN_pI, sR_pI, sL_pI, sK_pL, sN_pL, sR_pL, sI_pL, sK_pR, sN_pR, sI_pR, sL_pR, sI_pI_eq, sI_pI_ne, sL_pL_eq, sL_pL_ne, sR_pR_eq, sR_pR_ne, nn_le, nat32_lt, nn_eq, ln_le, nl_le, ln_lt, nl_lt, ln_eq, nl_eq, n_m1, n_lt0, vp_n, vp_l, lc_n, nat32c, n_s, nI_n, hM.a34, l_mul, n_add, h100]
      exact k
  · have hlt : j < 30 := by omega
    have hl2 : j < nR := by omega
    by_cases d : sI S2 1126 j = Int32.ofNat ow
    · simp (disch := first | omega | decide) only [Option.some.injEq, exists_eq_left', exists_eq_left, forall_eq, forall_eq', true_and, and_true, true_implies, implies_true, false_implies, not_true_eq_false, not_false_eq_true, reduceCtorEq, and_self, forall_const, i10, i01, if_true, if_false, and_false, false_and, Nat.not_lt_zero, sK_pI, sN_pI, sR_pI, sL_pI, sK_pL, sN_pL, sR_pL, sI_pL, sK_pR, sN_pR, sI_pR, sL_pR, sI_pI_eq, sI_pI_ne, sL_pL_eq, sL_pL_ne, sR_pR_eq, sR_pR_ne, nn_le, nat32_lt, nn_eq, ln_le, nl_le, ln_lt, nl_lt, ln_eq, nl_eq, n_m1, n_lt0, vp_n, vp_l, lc_n, nat32c, n_s, nI_n, hM.a26, hlt, d]
      refine m_lawOn (w := 7) hM hL (by omega) ?_
      by_cases e : ((sI S2 1130 j) >>> (Int32.ofNat y &&& 31)) &&& 1 = 1
      · simp (disch := first | omega | decide) only [Option.some.injEq, exists_eq_left', exists_eq_left, forall_eq, forall_eq', true_and, and_true, true_implies, implies_true, false_implies, not_true_eq_false, not_false_eq_true, reduceCtorEq, and_self, forall_const, i10, i01, if_true, if_false, and_false, false_and, Nat.not_lt_zero, sK_pI, sN_pI, sR_pI, sL_pI, sK_pL, sN_pL, sR_pL, sI_pL, sK_pR, sN_pR, sI_pR, sL_pR, sI_pI_eq, sI_pI_ne, sL_pL_eq, sL_pL_ne, sR_pR_eq, sR_pR_ne, nn_le, nat32_lt, nn_eq, ln_le, nl_le, ln_lt, nl_lt, ln_eq, nl_eq, n_m1, n_lt0, vp_n, vp_l, lc_n, nat32c, n_s, nI_n, hM.a27, hM.a28, hM.a30, hlt, e]
        refine m_lawOn (w := 8) hM hL (by omega) ?_
        exact hK hl2 _ (by rw [sm_s]; unfold fef; rw [if_pos d, if_pos e])
      · simp (disch := first | omega | decide) only [Option.some.injEq, exists_eq_left', exists_eq_left, forall_eq, forall_eq', true_and, and_true, true_implies, implies_true, false_implies, not_true_eq_false, not_false_eq_true, reduceCtorEq, and_self, forall_const, i10, i01, if_true, if_false, and_false, false_and, Nat.not_lt_zero, sK_pI, sN_pI, sR_pI, sL_pI, sK_pL, sN_pL, sR_pL, sI_pL, sK_pR, sN_pR, sI_pR, sL_pR, sI_pI_eq, sI_pI_ne, sL_pL_eq, sL_pL_ne, sR_pR_eq, sR_pR_ne, nn_le, nat32_lt, nn_eq, ln_le, nl_le, ln_lt, nl_lt, ln_eq, nl_eq, n_m1, n_lt0, vp_n, vp_l, lc_n, nat32c, n_s, nI_n, hM.a27, hM.a28, hM.a30, hlt, e]
        exact hK hl2 _ (by rw [sm_s]; unfold fef; rw [if_pos d, if_neg e])
    · simp (disch := first | omega | decide) only [Option.some.injEq, exists_eq_left', exists_eq_left, forall_eq, forall_eq', true_and, and_true, true_implies, implies_true, false_implies, not_true_eq_false, not_false_eq_true, reduceCtorEq, and_self, forall_const, i10, i01, if_true, if_false, and_false, false_and, Nat.not_lt_zero, sK_pI, sN_pI, sR_pI, sL_pI, sK_pL, sN_pL, sR_pL, sI_pL, sK_pR, sN_pR, sI_pR, sL_pR, sI_pI_eq, sI_pI_ne, sL_pL_eq, sL_pL_ne, sR_pR_eq, sR_pR_ne, nn_le, nat32_lt, nn_eq, ln_le, nl_le, ln_lt, nl_lt, ln_eq, nl_eq, n_m1, n_lt0, vp_n, vp_l, lc_n, nat32c, n_s, nI_n, hM.a26, hlt, d]
      exact hK hl2 _ (by rw [sm_s]; unfold fef; rw [if_neg d]; simp)
end FE
theorem pr_fee : Pr_fee Inv := by
  intro S S2 hI v1 v2
  have hI0 := hI
  obtain ⟨hk, hM, hS, hU, hA, hW, hB, nC, nR, nT, nK, nL, nM, nP, td, N, lh, hC, hR, hT, hK, hL, hZ, hP, hN⟩ := hI
  unfold P_X10_fee P_X11_fee
  simp only [within_e, isIn_e]
  by_cases h1 : inn v1 0 19 = 0
  · simp (disch := first | omega | decide) only [Option.some.injEq, exists_eq_left', exists_eq_left, forall_eq, forall_eq', true_and, and_true, true_implies, implies_true, false_implies, not_true_eq_false, not_false_eq_true, reduceCtorEq, and_self, forall_const, i10, i01, if_true, if_false, and_false, false_and, Nat.not_lt_zero, sK_pI, sN_pI, sR_pI, sL_pI, sK_pL, sN_pL, sR_pL, sI_pL, sK_pR, sN_pR, sI_pR, sL_pR, sI_pI_eq, sI_pI_ne, sL_pL_eq, sL_pL_ne, sR_pR_eq, sR_pR_ne, nn_le, nat32_lt, nn_eq, ln_le, nl_le, ln_lt, nl_lt, ln_eq, nl_eq, n_m1, n_lt0, vp_n, vp_l, lc_n, nat32c, n_s, nI_n, h1, hI0]
  by_cases h2 : inn v2 0 9 = 0
  · simp (disch := first | omega | decide) only [Option.some.injEq, exists_eq_left', exists_eq_left, forall_eq, forall_eq', true_and, and_true, true_implies, implies_true, false_implies, not_true_eq_false, not_false_eq_true, reduceCtorEq, and_self, forall_const, i10, i01, if_true, if_false, and_false, false_and, Nat.not_lt_zero, sK_pI, sN_pI, sR_pI, sL_pI, sK_pL, sN_pL, sR_pL, sI_pL, sK_pR, sN_pR, sI_pR, sL_pR, sI_pI_eq, sI_pI_ne, sL_pL_eq, sL_pL_ne, sR_pR_eq, sR_pR_ne, nn_le, nat32_lt, nn_eq, ln_le, nl_le, ln_lt, nl_lt, ln_eq, nl_eq, n_m1, n_lt0, vp_n, vp_l, lc_n, nat32c, n_s, nI_n, h1, h2, hI0]
  obtain ⟨ow, -, o2, rfl⟩ := inn_rg (lo := 0) (hi := 19) (by omega) (by omega) h1
  obtain ⟨y, -, y2, rfl⟩ := inn_rg (lo := 0) (hi := 9) (by omega) (by omega) h2
  have e : y * 365 = 365 * y := Nat.mul_comm _ _
  simp (disch := first | omega | decide) only [Option.some.injEq, exists_eq_left', exists_eq_left, forall_eq, forall_eq', true_and, and_true, true_implies, implies_true, false_implies, not_true_eq_false, not_false_eq_true, reduceCtorEq, and_self, forall_const, i10, i01, if_true, if_false, and_false, false_and, Nat.not_lt_zero, sK_pI, sN_pI, sR_pI, sL_pI, sK_pL, sN_pL, sR_pL, sI_pL, sK_pR, sN_pR, sI_pR, sL_pR, sI_pI_eq, sI_pI_ne, sL_pL_eq, sL_pL_ne, sR_pR_eq, sR_pR_ne, nn_le, nat32_lt, nn_eq, ln_le, nl_le, ln_lt, nl_lt, ln_eq, nl_eq, n_m1, n_lt0, vp_n, vp_l, lc_n, nat32c, n_s, nI_n, h1, h2, hS.1, l_mul, n_mull, n_addl, n_subl, e]
  have hr : ∀ v j, inF S2 v nL = some j → j < nL := fun v j h => inF_lt h
  exact x_lawOn hS hL (x_fee hS hR hL hW (hr _) (by omega) (by omega) (m_fee hM hR hL (by omega) (by omega) ⟨rfl, hI0⟩))
