/-! ===== level 2: Arrays.fill ===== -/
def FI (S : Sg) (c : Nat) (v : Int32) (i : Nat) (T : Sg) : Prop := (∀ x, ¬ x = c → vw T x = vw S x) ∧ sK T c = sK S c ∧ sN T c = sN S c ∧ sL T c = sL S c ∧ sR T c = sR S c ∧ ∀ j, sI T c j = if j < i then v else sI S c j
theorem p_fill {S : Sg} {c : Nat} {v : Int32} {Q : Unit → Sg → Prop} (hk : sK S c % 32 = 16) (hn : sN S c < 100000) (k : ∀ T, FI S c v (sN S c) T → Q () T) : P_J7_fill_53178 (some c) v S Q := by
  unfold P_J7_fill_53178
  refine ⟨c, rfl, hk, fun x hx => ?_⟩
  rw [hx]
  unfold P_J7_fill_53178_L5
  refine ⟨fun n w T => ∃ i, i ≤ sN S c ∧ w = Int32.ofNat i ∧ n = sN S c - i ∧ FI S c v i T, ⟨sN S c, 0, by omega, rfl, by omega, fun _ _ => rfl, rfl, rfl, rfl, rfl, fun j => by rw [if_neg (by omega)]⟩, fun n w T hI => ?_⟩
  obtain ⟨i, hi, hw, hn2, hF⟩ := hI
  subst hw
  obtain ⟨f1, f2, f3, f4, f5, f6⟩ := hF
  have le : nI (sN S c) ≤ Int32.ofNat i ↔ sN S c ≤ i := by
    rw [Int32.le_iff_toInt_le, nat32 (by omega), show (nI (sN S c)).toInt = ((sN S c : Nat) : Int) from nat32 (by omega)]; omega
  unfold P_J7_fill_53178_L5b
  refine ⟨fun z => ?_, fun z => ⟨c, rfl, by rw [f2]; exact hk, fun y => ?_, fun T2 e2 x2 ex => ?_⟩⟩
  · have e : i = sN S c := by have := le.mp z; omega
    subst e
    exact k T ⟨f1, f2, f3, f4, f5, f6⟩
  · have hlt : ¬ sN S c ≤ i := fun q => z (le.mpr q)
    rcases y with y | y
    · exact nat32_nn (by omega) y
    · rw [nat32c (by omega), f3] at y; omega
  · have hlt : ¬ sN S c ≤ i := fun q => z (le.mpr q)
    refine ⟨sN S c - (i + 1), by omega, i + 1, by omega, by rw [ex, nat32s], rfl, ?_⟩
    rw [e2, nat32c (by omega)]
    refine ⟨fun x hx => (vw_pI hx).trans (f1 x hx), f2, f3, f4, f5, fun j => ?_⟩
    rw [sI_pI, f6]
    by_cases e : j = i
    · rw [if_pos ⟨rfl, e⟩, if_pos (by omega)]
    · rw [if_neg (fun q => e q.2)]
      by_cases e2 : j < i
      · rw [if_pos e2, if_pos (by omega)]
      · rw [if_neg e2, if_neg (by omega)]
