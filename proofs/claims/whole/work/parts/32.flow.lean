/-! ===== level 2: the flow's nodes ===== -/
def FlJ (S : Sg) (h N : Nat) (i : Nat) (T : Sg) : Prop :=
  Lst T 1044 6 (fun j => 7000 + j) i ∧ (∀ x, N + i ≤ x → sK T x = 0) ∧ (∀ j, j < i → vw T (7000 + j) = (7, 0, fun _ => 0, fun _ => 0, fun _ => none)) ∧ (∀ x, x < N → ¬ x = 1044 → ¬ (7000 ≤ x ∧ x < 7000 + i) → ¬ sK S x = 20 + 32 * 6 → vw T x = vw S x) ∧ ∀ x, N ≤ x → ¬ sK T x = 0 → sK T x = 20 + 32 * 6
theorem p_flowLoop {S : Sg} {h N : Nat} {b0 : Nat × Nat} {Q : Unit → Sg → Prop} (hh : sK S h % 32 = 5) (hr : sR S h 0 = some 1044) (hhn : h < N) (hh4 : ¬ h = 1044) (hh7 : ¬ (7000 ≤ h ∧ h < 7012)) (hN : 10000 ≤ N) (hz : ∀ j, j < 12 → sK S (7000 + j) = 0) (hb1 : 24 ≤ b0.1) (hb2 : 2000 ≤ b0.2) (h0 : FlJ S h N 0 S) (k : ∀ T, FlJ S h N 12 T → Q () T) : P_X3_init_L42 h 0 S b0 Q := by
  unfold P_X3_init_L42
  refine ⟨fun n v T b => ∃ i, i ≤ 12 ∧ v = Int32.ofNat i ∧ n = 12 - i ∧ 2 * (12 - i) ≤ b.1 ∧ 60 * (12 - i) ≤ b.2 ∧ FlJ S h N i T, ⟨12, 0, by omega, rfl, rfl, by omega, by omega, h0⟩, fun n v T b hI => ?_⟩
  obtain ⟨i, hi, hv, hn, hc1, hc2, hJ⟩ := hI
  subst hv
  have h12 : (12 : Int32).toInt = 12 := by decide
  have le : (12 : Int32) ≤ Int32.ofNat i ↔ 12 ≤ i := by
    rw [Int32.le_iff_toInt_le, nat32 (by omega), h12]; omega
  obtain ⟨j1, j2, j3, j4, j5⟩ := hJ
  have hT : vw T h = vw S h := j4 h hhn hh4 (fun q => hh7 ⟨q.1, by omega⟩) (fun q => by rw [q] at hh; omega)
  have hzT : ∀ j, i ≤ j → j < 12 → sK T (7000 + j) = 0 := fun j q1 q2 => by
    rw [vwK (j4 (7000 + j) (by omega) (by omega) (fun q => by omega) (fun q => by rw [hz j q2] at q; omega))]
    exact hz j q2
  unfold P_X3_init_L42b
  refine ⟨fun z => ?_, fun z => ?_⟩
  · have e : i = 12 := by have := le.mp z; omega
    subst e
    exact k T ⟨j1, j2, j3, j4, j5⟩
  · have hlt : i < 12 := by
      rcases Nat.lt_or_ge i 12 with y | y
      · exact y
      · exact absurd (le.mpr y) z
    have hq := hzT i (Nat.le_refl _) hlt
    refine ⟨by rw [vwK hT]; exact hh, 7, 7000 + i, by decide, by omega, by omega, hq, by omega, fun y hy => ?_, fun U eU => ?_⟩
    · rw [vwR hT, hr] at hy
      cases hy
      have := j1.1
      omega
    · unfold P_X5_init
      have vU : ∀ x, ¬ x = 7000 + i → vw U x = vw T x := fun x hx => by rw [eU]; exact vw_nw hx
      have uU : vw U (7000 + i) = (7, 0, fun _ => 0, fun _ => 0, fun _ => none) := by rw [eU]; exact vw_nwq
      have kU : sK U (7000 + i) = 7 := congrArg (fun z => z.1) uU
      have hLU : Lst U 1044 6 (fun j => 7000 + j) i := j1.keep (vU 1044 (by omega)) (fun a _ ha => vU a (fun q => by rw [q, hq] at ha; omega)) (vU 2 (by omega))
      refine ⟨1044, by rw [vwR hT]; exact hr, by rw [vwK (vU 1044 (by omega))]; exact j1.1, (1, 44), by omega, by show 44 ≤ b.2 - 15; omega, ?_⟩
      refine p_add (N := N + i) hLU (by omega) (by rw [kU]; decide) (fun j hj => ?_) (fun x hx => ?_) (by omega) (by decide) (by show 2 * i + 10 ≤ 44; omega) (fun W hW hA x ex => ?_)
      · rw [vwK (vU (7000 + j) (by omega)), show sK T (7000 + j) = 7 from congrArg (fun z => z.1) (j3 j hj)]
        decide
      · rw [vwK (vU x (by omega))]; exact j2 x hx
      · obtain ⟨d1, d2, d3, d4⟩ := hA
        refine ⟨12 - (i + 1), by omega, i + 1, by omega, by rw [ex, nat32s], rfl, by show 2 * (12 - (i + 1)) ≤ b.1 - 1 - 1; omega, by show 60 * (12 - (i + 1)) ≤ b.2 - 15 - 44; omega, ?_, fun y hy => d2 y (by omega), fun j hj => ?_, fun y y1 y2 y3 y4 => ?_, fun y y1 y2 => ?_⟩
        · have e : (fun j => if j = i then 7000 + i else 7000 + j) = fun j => 7000 + j := by
            funext j
            by_cases c : j = i
            · rw [if_pos c, c]
            · rw [if_neg c]
          rw [e] at hW
          exact hW
        · rcases Nat.lt_or_ge j i with c | c
          · rw [d1 (7000 + j) (by omega) (by omega) (by omega), vU (7000 + j) (by omega)]
            exact j3 j c
          · have c : j = i := by omega
            subst c
            rw [d1 (7000 + j) (by omega) (by omega) (by omega)]
            exact uU
        · have y5 : ¬ y = 7000 + i := fun q => y3 ⟨by omega, by omega⟩
          have e := j4 y y1 y2 (fun q => y3 ⟨q.1, by omega⟩) y4
          rw [d1 y y2 (fun z => y4 (by have z2 := z.2; rw [vwK (vU y y5), vwK e] at z2; exact z2)) (by omega), vU y y5]
          exact e
        · by_cases c : y = N + i
          · subst c
            rcases d3 with w | w
            · rw [vwK w, vwK (vU (N + i) (by omega)), j2 (N + i) (Nat.le_refl _)] at y2
              exact absurd rfl y2
            · exact w
          · rw [d4 y c, vwK (vU y (by omega))] at y2 ⊢
            exact j5 y y1 y2
