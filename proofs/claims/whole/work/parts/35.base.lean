/-! ===== level 2: laws as the reference reads them; parking, drink ===== -/
theorem holds_e {v c : Int32} {S : Sg} {Q : Int32 → Prop} : P_X10_holds v c S Q ↔ Q (if (v >>> (c &&& 31)) &&& 1 = 1 then 1 else 0) := by
  unfold P_X10_holds
  by_cases h : (v >>> (c &&& 31)) &&& 1 = 1
  · rw [if_pos h]; exact ⟨fun z => z.1 h, fun z => ⟨fun _ => z, fun q => absurd h q⟩⟩
  · rw [if_neg h]; exact ⟨fun z => z.2 h, fun z => ⟨fun q => absurd q h, fun _ => z⟩⟩
theorem one_e {v : Int32} {S : Sg} {Q : Int32 → Prop} : P_X11_one v S Q ↔ Q (if v = 0 then 0 else 1) := by
  unfold P_X11_one
  by_cases h : v = 0
  · rw [if_pos h]; exact ⟨fun z => z.1 h, fun z => ⟨fun _ => z, fun q => absurd h q⟩⟩
  · rw [if_neg h]; exact ⟨fun z => z.2 h, fun z => ⟨fun q => absurd q h, fun _ => z⟩⟩
theorem one_bz {v : Int32} {S : Sg} {Q : Int32 → Prop} (h : bz v) : P_X11_one v S Q ↔ Q v := by
  rw [one_e]
  rcases h with h | h <;> subst h <;> exact Iff.rfl
def sm (f : Nat → Int32) : Nat → Int32
  | 0 => 0
  | n + 1 => sm f n + f n
def smL (f : Nat → Int64) : Nat → Int64
  | 0 => 0
  | n + 1 => smL f n + f n
theorem sm_s {f : Nat → Int32} {n : Nat} : sm f (n + 1) = sm f n + f n := rfl
theorem smL_s {f : Nat → Int64} {n : Nat} : smL f (n + 1) = smL f n + f n := rfl
theorem sm_congr {f g : Nat → Int32} : ∀ {n : Nat}, (∀ i, i < n → f i = g i) → sm f n = sm g n
  | 0, _ => rfl
  | n + 1, h => by rw [sm_s, sm_s, sm_congr (fun i hi => h i (by omega)), h n (by omega)]
theorem smL_congr {f g : Nat → Int64} : ∀ {n : Nat}, (∀ i, i < n → f i = g i) → smL f n = smL g n
  | 0, _ => rfl
  | n + 1, h => by rw [smL_s, smL_s, smL_congr (fun i hi => h i (by omega)), h n (by omega)]
section BA
variable {S S2 : Sg} {nC nR nT nK nL nM nP td N : Nat} {lh : Nat → Nat}
theorem l220 {w v v4 : Int32} {p : Nat} {Q : Int32 → Prop} {K : Int32 → Int32 → Prop} (k : K v (Int32.ofNat (p + 1))) : P_X11_lawOn_B220 1000 w v v4 (Int32.ofNat p) S2 Q K := by
  unfold P_X11_lawOn_B220
  intro x hx
  rw [hx, n_s]
  exact k
theorem l184 {w v v4 : Int32} {p : Nat} {Q : Int32 → Prop} {K : Int32 → Int32 → Prop} (hM : MW S2) (hp : p < 264) (k : K (ls184 S2 w p v) (Int32.ofNat (p + 1))) : P_X11_lawOn_B184 1000 w v v4 (Int32.ofNat p) S2 Q K := by
  unfold ls184 at k
  unfold P_X11_lawOn_B184
  simp (disch := first | omega | decide) only [Option.some.injEq, exists_eq_left', exists_eq_left, forall_eq, forall_eq', true_and, and_true, true_implies, implies_true, false_implies, not_true_eq_false, not_false_eq_true, reduceCtorEq, and_self, forall_const, i10, i01, if_true, if_false, and_false, false_and, Nat.not_lt_zero, sK_pI, sN_pI, sR_pI, sL_pI, sK_pL, sN_pL, sR_pL, sI_pL, sK_pR, sN_pR, sI_pR, sL_pR, sI_pI_eq, sI_pI_ne, sL_pL_eq, sL_pL_ne, sR_pR_eq, sR_pR_ne, nn_le, nat32_lt, nn_eq, ln_le, nl_le, ln_lt, nl_lt, ln_eq, nl_eq, n_m1, n_lt0, vp_n, vp_l, lc_n, nat32c, n_s, nI_n, hM.o, hM.a70, hM.a71, hM.a73, hp]
  exact ⟨fun c => ⟨fun d => l220 (by rw [if_pos ⟨c, d⟩] at k; exact k), fun d => l220 (by rw [if_neg (fun z => d z.2)] at k; exact k)⟩, fun c => l220 (by rw [if_neg (fun z => c z.1)] at k; exact k)⟩
theorem l148 {w v v4 : Int32} {p : Nat} {Q : Int32 → Prop} {K : Int32 → Int32 → Prop} (hM : MW S2) (hp : p < 264) (k : K (ls148 S2 w p v) (Int32.ofNat (p + 1))) : P_X11_lawOn_B148 1000 w v v4 (Int32.ofNat p) S2 Q K := by
  unfold ls148 at k
  unfold P_X11_lawOn_B148
  simp (disch := first | omega | decide) only [Option.some.injEq, exists_eq_left', exists_eq_left, forall_eq, forall_eq', true_and, and_true, true_implies, implies_true, false_implies, not_true_eq_false, not_false_eq_true, reduceCtorEq, and_self, forall_const, i10, i01, if_true, if_false, and_false, false_and, Nat.not_lt_zero, sK_pI, sN_pI, sR_pI, sL_pI, sK_pL, sN_pL, sR_pL, sI_pL, sK_pR, sN_pR, sI_pR, sL_pR, sI_pI_eq, sI_pI_ne, sL_pL_eq, sL_pL_ne, sR_pR_eq, sR_pR_ne, nn_le, nat32_lt, nn_eq, ln_le, nl_le, ln_lt, nl_lt, ln_eq, nl_eq, n_m1, n_lt0, vp_n, vp_l, lc_n, nat32c, n_s, nI_n, hM.o, hM.a70, hM.a71, hM.a72, hp]
  exact ⟨fun c => ⟨fun d => l184 hM hp (by rw [if_pos ⟨c, d⟩] at k; exact k), fun d => l184 hM hp (by rw [if_neg (fun z => d z.2)] at k; exact k)⟩, fun c => l184 hM hp (by rw [if_neg (fun z => c z.1)] at k; exact k)⟩
theorem l122 {w v v4 : Int32} {p : Nat} {Q : Int32 → Prop} {K : Int32 → Int32 → Prop} (hM : MW S2) (hp : p < 264) (k : K (ls122 S2 w p v) (Int32.ofNat (p + 1))) : P_X11_lawOn_B122 1000 w v v4 (Int32.ofNat p) S2 Q K := by
  unfold ls122 at k
  unfold P_X11_lawOn_B122
  simp (disch := first | omega | decide) only [Option.some.injEq, exists_eq_left', exists_eq_left, forall_eq, forall_eq', true_and, and_true, true_implies, implies_true, false_implies, not_true_eq_false, not_false_eq_true, reduceCtorEq, and_self, forall_const, i10, i01, if_true, if_false, and_false, false_and, Nat.not_lt_zero, sK_pI, sN_pI, sR_pI, sL_pI, sK_pL, sN_pL, sR_pL, sI_pL, sK_pR, sN_pR, sI_pR, sL_pR, sI_pI_eq, sI_pI_ne, sL_pL_eq, sL_pL_ne, sR_pR_eq, sR_pR_ne, nn_le, nat32_lt, nn_eq, ln_le, nl_le, ln_lt, nl_lt, ln_eq, nl_eq, n_m1, n_lt0, vp_n, vp_l, lc_n, nat32c, n_s, nI_n, hM.o, hM.a70, hM.a73, hp]
  exact ⟨fun c => ⟨fun d => l148 hM hp (by rw [if_pos ⟨c, d⟩] at k; exact k), fun d => l148 hM hp (by rw [if_neg (fun z => d z.2)] at k; exact k)⟩, fun c => l148 hM hp (by rw [if_neg (fun z => c z.1)] at k; exact k)⟩
theorem l114 {w v4 : Int32} {p : Nat} {Q : Int32 → Prop} {K : Int32 → Int32 → Prop} (hM : MW S2) (hp : p < 264) (k : K (ls122 S2 w p (sI S2 1172 p)) (Int32.ofNat (p + 1))) : P_X11_lawOn_B114 1000 w v4 (Int32.ofNat p) S2 Q K := by
  unfold P_X11_lawOn_B114
  simp (disch := first | omega | decide) only [Option.some.injEq, exists_eq_left', exists_eq_left, forall_eq, forall_eq', true_and, and_true, true_implies, implies_true, false_implies, not_true_eq_false, not_false_eq_true, reduceCtorEq, and_self, forall_const, i10, i01, if_true, if_false, and_false, false_and, Nat.not_lt_zero, sK_pI, sN_pI, sR_pI, sL_pI, sK_pL, sN_pL, sR_pL, sI_pL, sK_pR, sN_pR, sI_pR, sL_pR, sI_pI_eq, sI_pI_ne, sL_pL_eq, sL_pL_ne, sR_pR_eq, sR_pR_ne, nn_le, nat32_lt, nn_eq, ln_le, nl_le, ln_lt, nl_lt, ln_eq, nl_eq, n_m1, n_lt0, vp_n, vp_l, lc_n, nat32c, n_s, nI_n, hM.o, hM.a72, hp]
  exact l122 hM hp k
theorem l96 {w v v4 : Int32} {p : Nat} {Q : Int32 → Prop} {K : Int32 → Int32 → Prop} (hM : MW S2) (hp : p < 264) (k : K (ls96 S2 w p v) (Int32.ofNat (p + 1))) : P_X11_lawOn_B96 1000 w v v4 (Int32.ofNat p) S2 Q K := by
  unfold ls96 at k
  unfold P_X11_lawOn_B96
  simp (disch := first | omega | decide) only [Option.some.injEq, exists_eq_left', exists_eq_left, forall_eq, forall_eq', true_and, and_true, true_implies, implies_true, false_implies, not_true_eq_false, not_false_eq_true, reduceCtorEq, and_self, forall_const, i10, i01, if_true, if_false, and_false, false_and, Nat.not_lt_zero, sK_pI, sN_pI, sR_pI, sL_pI, sK_pL, sN_pL, sR_pL, sI_pL, sK_pR, sN_pR, sI_pR, sL_pR, sI_pI_eq, sI_pI_ne, sL_pL_eq, sL_pL_ne, sR_pR_eq, sR_pR_ne, nn_le, nat32_lt, nn_eq, ln_le, nl_le, ln_lt, nl_lt, ln_eq, nl_eq, n_m1, n_lt0, vp_n, vp_l, lc_n, nat32c, n_s, nI_n, hM.o, hM.a70, hp]
  exact ⟨fun c => ⟨fun d => l114 hM hp (by rw [if_pos ⟨c, d⟩] at k; exact k), fun d => l122 hM hp (by rw [if_neg (fun z => d z.2)] at k; exact k)⟩, fun c => l122 hM hp (by rw [if_neg (fun z => c z.1)] at k; exact k)⟩
theorem l78 {w v v4 : Int32} {p : Nat} {Q : Int32 → Prop} {K : Int32 → Int32 → Prop} (hM : MW S2) (hp : p < 264) (k : K (ls78 S2 w p v) (Int32.ofNat (p + 1))) : P_X11_lawOn_B78 1000 w v v4 (Int32.ofNat p) S2 Q K := by
  unfold ls78 at k
  unfold P_X11_lawOn_B78
  simp (disch := first | omega | decide) only [Option.some.injEq, exists_eq_left', exists_eq_left, forall_eq, forall_eq', true_and, and_true, true_implies, implies_true, false_implies, not_true_eq_false, not_false_eq_true, reduceCtorEq, and_self, forall_const, i10, i01, if_true, if_false, and_false, false_and, Nat.not_lt_zero, sK_pI, sN_pI, sR_pI, sL_pI, sK_pL, sN_pL, sR_pL, sI_pL, sK_pR, sN_pR, sI_pR, sL_pR, sI_pI_eq, sI_pI_ne, sL_pL_eq, sL_pL_ne, sR_pR_eq, sR_pR_ne, nn_le, nat32_lt, nn_eq, ln_le, nl_le, ln_lt, nl_lt, ln_eq, nl_eq, n_m1, n_lt0, vp_n, vp_l, lc_n, nat32c, n_s, nI_n, hM.o, hM.a70, hp]
  exact ⟨fun c => ⟨fun d => l114 hM hp (by rw [if_pos ⟨c, d⟩] at k; exact k), fun d => l96 hM hp (by rw [if_neg (fun z => d z.2)] at k; exact k)⟩, fun c => l96 hM hp (by rw [if_neg (fun z => c z.1)] at k; exact k)⟩
theorem l62 {w v v4 : Int32} {p : Nat} {Q : Int32 → Prop} {K : Int32 → Int32 → Prop} (hM : MW S2) (hp : p < 264) (k : K (ls62 S2 w p v) (Int32.ofNat (p + 1))) : P_X11_lawOn_B62 1000 w v v4 (Int32.ofNat p) S2 Q K := by
  unfold ls62 at k
  unfold P_X11_lawOn_B62
  simp (disch := first | omega | decide) only [Option.some.injEq, exists_eq_left', exists_eq_left, forall_eq, forall_eq', true_and, and_true, true_implies, implies_true, false_implies, not_true_eq_false, not_false_eq_true, reduceCtorEq, and_self, forall_const, i10, i01, if_true, if_false, and_false, false_and, Nat.not_lt_zero, sK_pI, sN_pI, sR_pI, sL_pI, sK_pL, sN_pL, sR_pL, sI_pL, sK_pR, sN_pR, sI_pR, sL_pR, sI_pI_eq, sI_pI_ne, sL_pL_eq, sL_pL_ne, sR_pR_eq, sR_pR_ne, nn_le, nat32_lt, nn_eq, ln_le, nl_le, ln_lt, nl_lt, ln_eq, nl_eq, n_m1, n_lt0, vp_n, vp_l, lc_n, nat32c, n_s, nI_n, hM.o, hM.a70, hp]
  exact ⟨fun c => ⟨fun d => l114 hM hp (by rw [if_pos ⟨c, d⟩] at k; exact k), fun d => l78 hM hp (by rw [if_neg (fun z => d z.2)] at k; exact k)⟩, fun c => l78 hM hp (by rw [if_neg (fun z => c z.1)] at k; exact k)⟩
theorem m_lawOn {v : Int32} {w : Nat} {Q : Int32 → Prop} (hM : MW S2) (hL : GL S S2 nL lh) (hw : w < 21) (k : Q (lawV S2 (inF S2 v nL) w)) : P_X11_lawOn 1000 v (Int32.ofNat w) S2 Q := by
  unfold P_X11_lawOn
  rw [plain_e hw]
  refine ⟨hM.o, m_inForce hM hL.2.2.1 hL.2.1 ?_⟩
  have hr : ∀ r, inF S2 v nL = some r → r < nL := fun r h => inF_lt h
  have hn := hL.2.1
  generalize inF S2 v nL = o at k hr
  intro x4 hx4
  subst hx4
  unfold P_X11_lawOn_L19
  cases o with
  | none =>
    refine ⟨fun n a x => a = bareV w, ⟨0, rfl⟩, ?_⟩
    rintro n a x rfl
    unfold P_X11_lawOn_L19b
    exact ⟨fun _ => k, fun h => absurd rfl h⟩
  | some r =>
    have hlt := hr r rfl
    obtain ⟨-, st, s1, s2, -⟩ := hL.2.2.2 r hlt
    replace k : Q (lawF S2 r w st) := by
      have z : Q (lawF S2 r w (sI S2 1168 r).toNatClampNeg) := k
      rw [s2, nat32c (by omega)] at z
      exact z
    refine ⟨fun n a x => ∃ s, s ≤ st ∧ n = st - s ∧ x = Int32.ofNat (24 * r + s) ∧ a = lawF S2 r w s, ⟨st, 0, by omega, rfl, l_mul, rfl⟩, ?_⟩
    rintro n a x ⟨s, hs, rfl, rfl, rfl⟩
    unfold P_X11_lawOn_L19b
    have h264 : 24 * r + s < 264 := by omega
    have h11 : r < 11 := by omega
    have hr32 : r < 2147483648 := by omega
    have he : ¬ (Int32.ofNat r = -1) := fun q => (n_m1 hr32).mp q
    refine ⟨fun q => absurd q he, fun _ => ?_⟩
    show _ ∧ _
    simp (disch := first | omega | decide) only [optI, Option.some.injEq, exists_eq_left', exists_eq_left, forall_eq, forall_eq', true_and, and_true, true_implies, implies_true, false_implies, not_true_eq_false, not_false_eq_true, reduceCtorEq, and_self, forall_const, i10, i01, if_true, if_false, and_false, false_and, Nat.not_lt_zero, hM.o, hM.a68, s2, l_mul, n_add, hM.a70, hM.a71, h264, h11, vp_n, nat32c, nn_le]
    refine ⟨fun c => ?_, fun c => ?_⟩
    · have e : s = st := by omega
      subst e; exact k
    · have K : ∀ a', a' = lawStep S2 (Int32.ofNat w) (24 * r + s) (lawF S2 r w s) → ∃ n', n' < st - s ∧ ∃ s', s' ≤ st ∧ n' = st - s' ∧ Int32.ofNat (24 * r + s + 1) = Int32.ofNat (24 * r + s') ∧ a' = lawF S2 r w s' := fun a' h => ⟨st - (s + 1), by omega, s + 1, by omega, rfl, rfl, h⟩
      refine ⟨fun d => l62 hM h264 (K _ ?_), fun d => l62 hM h264 (K _ ?_)⟩
      · unfold lawStep; rw [if_pos d]
      · unfold lawStep; rw [if_neg d]
theorem m_now {w : Nat} {Q : Int32 → Prop} (hM : MW S2) (hL : GL S S2 nL lh) (hw : w < 21) (k : Q (lawV S2 (inF S2 (sI S2 1000 0) nL) w)) : P_X11_now 1000 (Int32.ofNat w) S2 Q := by
  unfold P_X11_now
  exact ⟨hM.o, m_lawOn hM hL hw k⟩
theorem x_lawNow {w : Nat} {Q : Int32 → Prop} (hS : GS S) (hL : GL S S2 nL lh) (hw : w < 21) {d : Int32} (k : Q (lawV S2 (inF S2 d nL) w)) : P_X10_lawOn 1000 d S (fun r => ∃ c : Nat, r = some c ∧ sK S c % 32 = 6 ∧ P_X4_value c (Int32.ofNat w) S Q) :=
  x_lawOn hS hL ⟨_, rfl, lawH_k hS hL (fun j h => inF_lt h), (value_e hS hL (fun j h => inF_lt h) hw).mpr k⟩
/-! parking -/
def pkf (S2 : Sg) (v : Int32) (i : Nat) : Int32 := if sI S2 1112 i = 0 ∧ ¬ (v >>> (Int32.ofNat i &&& 31)) &&& 1 = 1 then 0 else sI S2 1109 i
theorem x_parkingWith {v : Int32} {Q : Int32 → Prop} (hS : GS S) (hC : GC S S2 nC) (k : Q (sm (pkf S2 v) nC)) : P_X10_parkingWith 1000 v S Q := by
  have o := hS.1
  have hn := hC.2.1
  unfold P_X10_parkingWith P_X10_parkingWith_L4
  refine ⟨fun n a x => ∃ i, i ≤ nC ∧ n = nC - i ∧ x = Int32.ofNat i ∧ a = sm (pkf S2 v) i, ⟨nC, 0, by omega, rfl, rfl, rfl⟩, ?_⟩
  rintro n a x ⟨i, hi, rfl, rfl, rfl⟩
  unfold P_X10_parkingWith_L4b
  simp (disch := first | omega | decide) only [Option.some.injEq, exists_eq_left', exists_eq_left, forall_eq, forall_eq', true_and, and_true, true_implies, implies_true, false_implies, not_true_eq_false, not_false_eq_true, reduceCtorEq, and_self, forall_const, i10, i01, if_true, if_false, and_false, false_and, Nat.not_lt_zero, sK_pI, sN_pI, sR_pI, sL_pI, sK_pL, sN_pL, sR_pL, sI_pL, sK_pR, sN_pR, sI_pR, sL_pR, sI_pI_eq, sI_pI_ne, sL_pL_eq, sL_pL_ne, sR_pR_eq, sR_pR_ne, nn_le, nat32_lt, nn_eq, ln_le, nl_le, ln_lt, nl_lt, ln_eq, nl_eq, n_m1, n_lt0, vp_n, vp_l, lc_n, nat32c, n_s, nI_n, o, hC.1.1, size_e hC.1]
  refine ⟨fun c => ?_, fun c => ?_⟩
  · have e : i = nC := by omega
    subst e; exact k
  · have hlt : i < nC := by omega
    have c0 := hC.2.2.2.1 i hlt
    have K : ∀ a', a' = sm (pkf S2 v) i + pkf S2 v i → ∃ n', n' < nC - i ∧ ∃ i', i' ≤ nC ∧ n' = nC - i' ∧ Int32.ofNat (i + 1) = Int32.ofNat i' ∧ a' = sm (pkf S2 v) i' := fun a' h => ⟨nC - (i + 1), by omega, i + 1, by omega, rfl, rfl, h⟩
    unfold P_X10_parkingWith_B44 P_X10_parkingWith_B52
    by_cases hb : sI S2 1112 i = 0
    · by_cases hv : (v >>> (Int32.ofNat i &&& 31)) &&& 1 = 1
      · simp (disch := first | omega | decide) only [Option.some.injEq, exists_eq_left', exists_eq_left, forall_eq, forall_eq', true_and, and_true, true_implies, implies_true, false_implies, not_true_eq_false, not_false_eq_true, reduceCtorEq, and_self, forall_const, i10, i01, if_true, if_false, and_false, false_and, Nat.not_lt_zero, sK_pI, sN_pI, sR_pI, sL_pI, sK_pL, sN_pL, sR_pL, sI_pL, sK_pR, sN_pR, sI_pR, sL_pR, sI_pI_eq, sI_pI_ne, sL_pL_eq, sL_pL_ne, sR_pR_eq, sR_pR_ne, nn_le, nat32_lt, nn_eq, ln_le, nl_le, ln_lt, nl_lt, ln_eq, nl_eq, n_m1, n_lt0, vp_n, vp_l, lc_n, nat32c, n_s, nI_n, get_e hC.1 hlt, c0, holds_e, hb, hv]
        exact K _ (by simp [pkf, hb, hv])
      · simp (disch := first | omega | decide) only [Option.some.injEq, exists_eq_left', exists_eq_left, forall_eq, forall_eq', true_and, and_true, true_implies, implies_true, false_implies, not_true_eq_false, not_false_eq_true, reduceCtorEq, and_self, forall_const, i10, i01, if_true, if_false, and_false, false_and, Nat.not_lt_zero, sK_pI, sN_pI, sR_pI, sL_pI, sK_pL, sN_pL, sR_pL, sI_pL, sK_pR, sN_pR, sI_pR, sL_pR, sI_pI_eq, sI_pI_ne, sL_pL_eq, sL_pL_ne, sR_pR_eq, sR_pR_ne, nn_le, nat32_lt, nn_eq, ln_le, nl_le, ln_lt, nl_lt, ln_eq, nl_eq, n_m1, n_lt0, vp_n, vp_l, lc_n, nat32c, n_s, nI_n, get_e hC.1 hlt, c0, holds_e, hb, hv]
        exact K _ (by simp [pkf, hb, hv])
    · simp (disch := first | omega | decide) only [Option.some.injEq, exists_eq_left', exists_eq_left, forall_eq, forall_eq', true_and, and_true, true_implies, implies_true, false_implies, not_true_eq_false, not_false_eq_true, reduceCtorEq, and_self, forall_const, i10, i01, if_true, if_false, and_false, false_and, Nat.not_lt_zero, sK_pI, sN_pI, sR_pI, sL_pI, sK_pL, sN_pL, sR_pL, sI_pL, sK_pR, sN_pR, sI_pR, sL_pR, sI_pI_eq, sI_pI_ne, sL_pL_eq, sL_pL_ne, sR_pR_eq, sR_pR_ne, nn_le, nat32_lt, nn_eq, ln_le, nl_le, ln_lt, nl_lt, ln_eq, nl_eq, n_m1, n_lt0, vp_n, vp_l, lc_n, nat32c, n_s, nI_n, get_e hC.1 hlt, c0, hb]
      exact K _ (by simp [pkf, hb])
theorem m_parked {v : Int32} {Q : Int32 → Prop} (hM : MW S2) (hc : sI S2 1000 1 = Int32.ofNat nC) (hn : nC ≤ 12) (k : Q (sm (pkf S2 v) nC)) : P_X11_parked 1000 v S2 Q := by
  unfold P_X11_parked P_X11_parked_L4
  refine ⟨fun n a x => ∃ i, i ≤ nC ∧ n = nC - i ∧ x = Int32.ofNat i ∧ a = sm (pkf S2 v) i, ⟨nC, 0, by omega, rfl, rfl, rfl⟩, ?_⟩
  rintro n a x ⟨i, hi, rfl, rfl, rfl⟩
  unfold P_X11_parked_L4b
  simp (disch := first | omega | decide) only [Option.some.injEq, exists_eq_left', exists_eq_left, forall_eq, forall_eq', true_and, and_true, true_implies, implies_true, false_implies, not_true_eq_false, not_false_eq_true, reduceCtorEq, and_self, forall_const, i10, i01, if_true, if_false, and_false, false_and, Nat.not_lt_zero, sK_pI, sN_pI, sR_pI, sL_pI, sK_pL, sN_pL, sR_pL, sI_pL, sK_pR, sN_pR, sI_pR, sL_pR, sI_pI_eq, sI_pI_ne, sL_pL_eq, sL_pL_ne, sR_pR_eq, sR_pR_ne, nn_le, nat32_lt, nn_eq, ln_le, nl_le, ln_lt, nl_lt, ln_eq, nl_eq, n_m1, n_lt0, vp_n, vp_l, lc_n, nat32c, n_s, nI_n, hM.o, hc]
  refine ⟨fun c => ?_, fun c => ?_⟩
  · have e : i = nC := by omega
    subst e; exact k
  · have hlt : i < 12 := by omega
    have K : ∀ a', a' = sm (pkf S2 v) i + pkf S2 v i → ∃ n', n' < nC - i ∧ ∃ i', i' ≤ nC ∧ n' = nC - i' ∧ Int32.ofNat (i + 1) = Int32.ofNat i' ∧ a' = sm (pkf S2 v) i' := fun a' h => ⟨nC - (i + 1), by omega, i + 1, by omega, rfl, rfl, h⟩
    unfold P_X11_parked_B31 P_X11_parked_B41
    by_cases hb : sI S2 1112 i = 0
    · by_cases hv : (v >>> (Int32.ofNat i &&& 31)) &&& 1 = 1
      · simp (disch := first | omega | decide) only [Option.some.injEq, exists_eq_left', exists_eq_left, forall_eq, forall_eq', true_and, and_true, true_implies, implies_true, false_implies, not_true_eq_false, not_false_eq_true, reduceCtorEq, and_self, forall_const, i10, i01, if_true, if_false, and_false, false_and, Nat.not_lt_zero, sK_pI, sN_pI, sR_pI, sL_pI, sK_pL, sN_pL, sR_pL, sI_pL, sK_pR, sN_pR, sI_pR, sL_pR, sI_pI_eq, sI_pI_ne, sL_pL_eq, sL_pL_ne, sR_pR_eq, sR_pR_ne, nn_le, nat32_lt, nn_eq, ln_le, nl_le, ln_lt, nl_lt, ln_eq, nl_eq, n_m1, n_lt0, vp_n, vp_l, lc_n, nat32c, n_s, nI_n, hM.o, hM.a12, hM.a9, hlt, hb, hv]
        exact K _ (by simp [pkf, hb, hv])
      · simp (disch := first | omega | decide) only [Option.some.injEq, exists_eq_left', exists_eq_left, forall_eq, forall_eq', true_and, and_true, true_implies, implies_true, false_implies, not_true_eq_false, not_false_eq_true, reduceCtorEq, and_self, forall_const, i10, i01, if_true, if_false, and_false, false_and, Nat.not_lt_zero, sK_pI, sN_pI, sR_pI, sL_pI, sK_pL, sN_pL, sR_pL, sI_pL, sK_pR, sN_pR, sI_pR, sL_pR, sI_pI_eq, sI_pI_ne, sL_pL_eq, sL_pL_ne, sR_pR_eq, sR_pR_ne, nn_le, nat32_lt, nn_eq, ln_le, nl_le, ln_lt, nl_lt, ln_eq, nl_eq, n_m1, n_lt0, vp_n, vp_l, lc_n, nat32c, n_s, nI_n, hM.o, hM.a12, hM.a9, hlt, hb, hv]
        exact K _ (by simp [pkf, hb, hv])
    · simp (disch := first | omega | decide) only [Option.some.injEq, exists_eq_left', exists_eq_left, forall_eq, forall_eq', true_and, and_true, true_implies, implies_true, false_implies, not_true_eq_false, not_false_eq_true, reduceCtorEq, and_self, forall_const, i10, i01, if_true, if_false, and_false, false_and, Nat.not_lt_zero, sK_pI, sN_pI, sR_pI, sL_pI, sK_pL, sN_pL, sR_pL, sI_pL, sK_pR, sN_pR, sI_pR, sL_pR, sI_pI_eq, sI_pI_ne, sL_pL_eq, sL_pL_ne, sR_pR_eq, sR_pR_ne, nn_le, nat32_lt, nn_eq, ln_le, nl_le, ln_lt, nl_lt, ln_eq, nl_eq, n_m1, n_lt0, vp_n, vp_l, lc_n, nat32c, n_s, nI_n, hM.o, hM.a12, hM.a9, hlt, hb]
      exact K _ (by simp [pkf, hb])
/-! drink -/
def full (S2 : Sg) (i : Nat) : Int32 := sI S2 1131 (sI S2 1115 i).toNatClampNeg
theorem fullDrink_e {i : Nat} {Q : Int32 → Prop} (hS : GS S) (hA : GA S S2) (hB : GB S S2) (hi : i < 12) (hb : ¬ sI S2 1112 i = 0) : P_X0_fullDrink (3000 + i) (some 1050) S Q ↔ Q (full S2 i) := by
  have o2 := hS.2.1
  obtain ⟨e, b⟩ := (hB i hi).2.2.2 hb
  obtain ⟨k, -, k2, k3⟩ := b.1
  have a := (hA.1 k (by omega)).1
  have hk : k < 10 := by omega
  have hk2 : ¬ 10 ≤ k := by omega
  unfold P_X0_fullDrink P_X0_fullDrink_B25 full
  simp (disch := first | omega | decide) only [Option.some.injEq, exists_eq_left', exists_eq_left, forall_eq, forall_eq', true_and, and_true, true_implies, implies_true, false_implies, not_true_eq_false, not_false_eq_true, reduceCtorEq, and_self, forall_const, i10, i01, if_true, if_false, and_false, false_and, Nat.not_lt_zero, sK_pI, sN_pI, sR_pI, sL_pI, sK_pL, sN_pL, sR_pL, sI_pL, sK_pR, sN_pR, sI_pR, sL_pR, sI_pI_eq, sI_pI_ne, sL_pL_eq, sL_pL_ne, sR_pR_eq, sR_pR_ne, nn_le, nat32_lt, nn_eq, ln_le, nl_le, ln_lt, nl_lt, ln_eq, nl_eq, n_m1, n_lt0, vp_n, vp_l, lc_n, nat32c, n_s, nI_n, e, k3, o2, a, hk, hk2]
theorem drink_e {i : Nat} {Q : Int32 → Prop} (hS : GS S) (hA : GA S S2) (hB : GB S S2) (hi : i < 12) (hb : ¬ sI S2 1112 i = 0) : P_X0_drink (3000 + i) (some 1050) S Q ↔ Q (full S2 i * (100 - sI S2 1118 i) / 100) := by
  obtain ⟨e, b⟩ := (hB i hi).2.2.2 hb
  unfold P_X0_drink
  simp (disch := first | omega | decide) only [Option.some.injEq, exists_eq_left', exists_eq_left, forall_eq, forall_eq', true_and, and_true, true_implies, implies_true, false_implies, not_true_eq_false, not_false_eq_true, reduceCtorEq, and_self, forall_const, i10, i01, if_true, if_false, and_false, false_and, Nat.not_lt_zero, sK_pI, sN_pI, sR_pI, sL_pI, sK_pL, sN_pL, sR_pL, sI_pL, sK_pR, sN_pR, sI_pR, sL_pR, sI_pI_eq, sI_pI_ne, sL_pL_eq, sL_pL_ne, sR_pR_eq, sR_pR_ne, nn_le, nat32_lt, nn_eq, ln_le, nl_le, ln_lt, nl_lt, ln_eq, nl_eq, n_m1, n_lt0, vp_n, vp_l, lc_n, nat32c, n_s, nI_n, e, fullDrink_e hS hA hB hi hb]
theorem drinkBy_e {i : Nat} {g : Int32} {Q : Int32 → Prop} (hM : MW S2) (hl : rg (sI S2 1115 i) 0 9) (hi : i < 12) : P_X11_drinkBy 1000 (Int32.ofNat i) g S2 Q ↔ Q (full S2 i * (100 - g) / 100) := by
  obtain ⟨k, -, k2, k3⟩ := hl
  have hk : k < 10 := by omega
  unfold P_X11_drinkBy full
  simp (disch := first | omega | decide) only [Option.some.injEq, exists_eq_left', exists_eq_left, forall_eq, forall_eq', true_and, and_true, true_implies, implies_true, false_implies, not_true_eq_false, not_false_eq_true, reduceCtorEq, and_self, forall_const, i10, i01, if_true, if_false, and_false, false_and, Nat.not_lt_zero, sK_pI, sN_pI, sR_pI, sL_pI, sK_pL, sN_pL, sR_pL, sI_pL, sK_pR, sN_pR, sI_pR, sL_pR, sI_pI_eq, sI_pI_ne, sL_pL_eq, sL_pL_ne, sR_pR_eq, sR_pR_ne, nn_le, nat32_lt, nn_eq, ln_le, nl_le, ln_lt, nl_lt, ln_eq, nl_eq, n_m1, n_lt0, vp_n, vp_l, lc_n, nat32c, n_s, nI_n, hM.o, hM.a15, hM.a31, k3, hk, hi]
theorem mdrink_e {i : Nat} {Q : Int32 → Prop} (hM : MW S2) (hl : rg (sI S2 1115 i) 0 9) (hi : i < 12) : P_X11_drink 1000 (Int32.ofNat i) S2 Q ↔ Q (full S2 i * (100 - sI S2 1118 i) / 100) := by
  unfold P_X11_drink
  simp (disch := first | omega | decide) only [Option.some.injEq, exists_eq_left', exists_eq_left, forall_eq, forall_eq', true_and, and_true, true_implies, implies_true, false_implies, not_true_eq_false, not_false_eq_true, reduceCtorEq, and_self, forall_const, i10, i01, if_true, if_false, and_false, false_and, Nat.not_lt_zero, sK_pI, sN_pI, sR_pI, sL_pI, sK_pL, sN_pL, sR_pL, sI_pL, sK_pR, sN_pR, sI_pR, sL_pR, sI_pI_eq, sI_pI_ne, sL_pL_eq, sL_pL_ne, sR_pR_eq, sR_pR_ne, nn_le, nat32_lt, nn_eq, ln_le, nl_le, ln_lt, nl_lt, ln_eq, nl_eq, n_m1, n_lt0, vp_n, vp_l, lc_n, nat32c, n_s, nI_n, hM.o, hM.a18, hi, drinkBy_e hM hl hi]
end BA
