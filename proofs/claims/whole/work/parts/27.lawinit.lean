/-! ===== level 2: a law of the class's as it is made ===== -/
def LwI (S : Sg) (h q1 q2 κ1 κ2 : Nat) (v1 v2 : Int32) (i : Nat) (T : Sg) : Prop :=
  vw T h = (sK S h, sN S h, (fun k => if k = 0 then v1 else if k = 1 then v2 else 0), fun _ => 0, fun k => if k = 2 then some q1 else if k = 3 then some q2 else none) ∧ vw T q1 = (κ1, 0, fun _ => 0, fun _ => 0, fun k => if k = 1 then some 2 else none) ∧ vw T q2 = (κ2, 21, (fun j => if j < i then bareV j else 0), fun _ => 0, fun _ => none) ∧ ∀ x, ¬ x = h → ¬ x = q1 → ¬ x = q2 → vw T x = vw S x
theorem LwI.step {S T : Sg} {h q1 q2 κ1 κ2 : Nat} {v1 v2 : Int32} {i : Nat} (h2 : ¬ h = q2) (h12 : ¬ q1 = q2) (hL : LwI S h q1 q2 κ1 κ2 v1 v2 i T) : LwI S h q1 q2 κ1 κ2 v1 v2 (i + 1) (pI T q2 i (bareV i)) := by
  obtain ⟨a1, a2, a3, a4⟩ := hL
  refine ⟨(vw_pI h2).trans a1, (vw_pI h12).trans a2, ?_, fun x x1 x2 x3 => (vw_pI x3).trans (a4 x x1 x2 x3)⟩
  unfold vw at a3 ⊢
  simp only [Prod.mk.injEq] at a3 ⊢
  obtain ⟨c1, c2, c3, c4, c5⟩ := a3
  refine ⟨c1, c2, ?_, c4, c5⟩
  funext j
  rw [sI_pI, c3]
  by_cases e : j = i
  · rw [if_pos ⟨rfl, e⟩, if_pos (by omega), e]
  · rw [if_neg (fun z => e z.2)]
    show (if j < i then bareV j else 0) = _
    by_cases e2 : j < i
    · rw [if_pos e2, if_pos (by omega)]
    · rw [if_neg e2, if_neg (by omega)]
theorem p_lawLoop {S T : Sg} {h q1 q2 κ1 κ2 : Nat} {v1 v2 : Int32} {b : Nat × Nat} {Q : Unit → Sg → Prop} (hh : sK S h % 32 = 6) (k2 : κ2 % 32 = 16) (hB : vw S 1 = vBare) (h1 : ¬ 1 = h) (h1q : ¬ 1 = q1) (h1q2 : ¬ 1 = q2) (h2 : ¬ h = q2) (h12 : ¬ q1 = q2) (hT : LwI S h q1 q2 κ1 κ2 v1 v2 0 T) (k : ∀ S', LwI S h q1 q2 κ1 κ2 v1 v2 21 S' → Q () S') : P_X4_init_L35 h 0 T b Q := by
  unfold P_X4_init_L35
  refine ⟨fun n v U => ∃ i, i ≤ 21 ∧ v = Int32.ofNat i ∧ n = 21 - i ∧ LwI S h q1 q2 κ1 κ2 v1 v2 i U, ⟨21, 0, by omega, rfl, rfl, hT⟩, fun n v U hI => ?_⟩
  obtain ⟨i, hi, hv, hn, hL⟩ := hI
  subst hv
  have e1 : sK U h = sK S h := congrArg (fun z => z.1) hL.1
  have e2 : sR U h 3 = some q2 := congrFun (congrArg (fun z => z.2.2.2.2) hL.1) 3
  have e3 : sK U q2 = κ2 := congrArg (fun z => z.1) hL.2.2.1
  have e4 : sN U q2 = 21 := congrArg (fun z => z.2.1) hL.2.2.1
  have e5 : vw U 1 = vBare := (hL.2.2.2 1 h1 h1q h1q2).trans hB
  have e6 : sK U 1 = 24 := congrArg (fun z => z.1) e5
  have e7 : sN U 1 = 21 := congrArg (fun z => z.2.1) e5
  have e8 : sI U 1 = bareV := congrArg (fun z => z.2.2.1) e5
  have le : nI 21 ≤ Int32.ofNat i ↔ 21 ≤ i := by
    rw [Int32.le_iff_toInt_le, nat32 (by omega), show (nI 21).toInt = 21 from by decide]; omega
  have le2 : nI (sN U q2) ≤ Int32.ofNat i ↔ 21 ≤ i := by rw [e4]; exact le
  have le1 : nI (sN U 1) ≤ Int32.ofNat i ↔ 21 ≤ i := by rw [e7]; exact le
  unfold P_X4_init_L35b
  refine ⟨by rw [e1]; exact hh, q2, e2, by rw [e3]; exact k2, fun z => ?_, fun z => ?_⟩
  · have e : i = 21 := by have := le2.mp z; omega
    subst e
    exact k U hL
  · have hlt : i < 21 := by
      rcases Nat.lt_or_ge i 21 with y | y
      · exact y
      · exact absurd (le2.mpr y) z
    have hin : ∀ N, N = 21 → vp_in (Int32.ofNat i) N := fun N hN y => by
      rcases y with y | y
      · exact nat32_nn (by omega) y
      · rw [nat32c (by omega)] at y; omega
    refine ⟨by rw [e6], fun z2 => absurd (le1.mp z2) (by omega), fun _ => ⟨hin _ e7, q2, e2, by rw [e3]; exact k2, hin _ e4, fun U2 eU x ex => ⟨21 - (i + 1), by omega, i + 1, by omega, by rw [ex, nat32s], rfl, ?_⟩⟩⟩
    rw [eU, nat32c (by omega), e8]
    exact hL.step h2 h12
