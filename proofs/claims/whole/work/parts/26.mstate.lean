/-! ===== level 2: the reference's state; how its constructor leaves it ===== -/
/-- the reference's store, well-formed: the object, its arrays by their fields -/
def MW (S : Sg) : Prop := okS S ∧ sK S 1000 = 13 ∧ ∀ q ∈ mArr, sR S 1000 q.1 = some (1100 + q.1) ∧ sK S (1100 + q.1) = q.2.1 ∧ sN S (1100 + q.1) = q.2.2
def dr (i : Nat) : Nat → Int32 := fun j => if j < i then 20 else 0
def MI (i : Nat) (S : Sg) : Prop := MW S ∧ (∀ k, sI S 1000 k = if k = 80 then -1 else 0) ∧ (∀ k, sL S 1000 k = 0) ∧ ∀ q ∈ mArr, sI S (1100 + q.1) = (if q.1 = 31 then dr i else fun _ => 0) ∧ sL S (1100 + q.1) = fun _ => 0
theorem wr_mArr : ∀ q ∈ mArr, (16 ≤ q.2.1 % 32 ∧ q.2.1 % 32 ≤ 21) := by decide
theorem MI.start {S : Sg} (h : MB mArr S) : MI 0 (pI S 1000 80 (-1)) := by
  obtain ⟨a1, a2, a3, a4, a5, a6, a7⟩ := h
  have v1 : ∀ x, ¬ x = 1000 → vw (pI S 1000 80 (-1)) x = vw S x := fun x hx => vw_pI hx
  refine ⟨⟨⟨(v1 1 (by omega)).trans a1, (v1 2 (by omega)).trans a2, fun h hh => ?_⟩, a3, fun q hq => ?_⟩, fun k => ?_, a5, fun q hq => ?_⟩
  · rcases a7 h hh with e | e | e | ⟨q, hq, e⟩
    · exact Or.inl e
    · exact Or.inr (Or.inl e)
    · refine Or.inr (Or.inr ?_)
      rw [e]
      show wr (sK S 1000)
      rw [a3]; unfold wr; omega
    · refine Or.inr (Or.inr ?_)
      rw [e]
      show wr (sK S (1100 + q.1))
      rw [show sK S (1100 + q.1) = q.2.1 from congrArg (fun z => z.1) (a6 q hq).2]
      exact Or.inr (wr_mArr q hq)
  · exact ⟨(a6 q hq).1, congrArg (fun z => z.1) (a6 q hq).2, congrArg (fun z => z.2.1) (a6 q hq).2⟩
  · rw [sI_pI]
    by_cases e : k = 80
    · rw [if_pos ⟨rfl, e⟩, if_pos e]
    · rw [if_neg (fun z => e z.2), if_neg e, a4]
  · have e := v1 (1100 + q.1) (by omega)
    have hI := congrArg (fun z => z.2.2.1) (a6 q hq).2
    have hI : sI S (1100 + q.1) = fun _ => 0 := hI
    rw [vwI e, vwL e, hI]
    refine ⟨?_, congrArg (fun z => z.2.2.2.1) (a6 q hq).2⟩
    by_cases e2 : q.1 = 31
    · rw [if_pos e2]; funext j; show (0 : Int32) = if j < 0 then 20 else 0; rw [if_neg (by omega)]
    · rw [if_neg e2]
/-- a place of an array, or of the object, that is written leaves the reference well-formed -/
theorem mw_pI {S : Sg} (h : MW S) {a k : Nat} {v : Int32} (ha : 1000 ≤ a) : MW (pI S a k v) := by
  obtain ⟨⟨b1, b2, b3⟩, b4, b5⟩ := h
  exact ⟨⟨(vw_pI (by omega)).trans b1, (vw_pI (by omega)).trans b2, b3⟩, b4, b5⟩
theorem mw_pL {S : Sg} (h : MW S) {a k : Nat} {v : Int64} (ha : 1000 ≤ a) : MW (pL S a k v) := by
  obtain ⟨⟨b1, b2, b3⟩, b4, b5⟩ := h
  exact ⟨⟨(vw_pL (by omega)).trans b1, (vw_pL (by omega)).trans b2, b3⟩, b4, b5⟩
theorem MI.step {S : Sg} {i : Nat} (h : MI i S) : MI (i + 1) (pI S 1131 i 20) := by
  obtain ⟨h1, h2, h3, h4⟩ := h
  refine ⟨mw_pI h1 (by omega), fun k => ?_, h3, fun q hq => ?_⟩
  · rw [sI_pI, if_neg (fun z => by omega)]; exact h2 k
  · refine ⟨?_, (h4 q hq).2⟩
    by_cases e : q.1 = 31
    · rw [if_pos e, e]
      have h0 := (h4 q hq).1
      rw [if_pos e, e] at h0
      funext j
      rw [sI_pI]
      show (if 1100 + 31 = 1131 ∧ j = i then 20 else sI S (1100 + 31) j) = dr (i + 1) j
      rw [h0]
      unfold dr
      by_cases c : j = i
      · rw [if_pos ⟨rfl, c⟩, if_pos (by omega)]
      · rw [if_neg (fun z => c z.2)]
        by_cases c2 : j < i
        · rw [if_pos c2, if_pos (by omega)]
        · rw [if_neg c2, if_neg (by omega)]
    · rw [if_neg e]
      have h0 := (h4 q hq).1
      rw [if_neg e] at h0
      funext j
      rw [sI_pI, if_neg (fun z => e (by omega)), h0]
theorem m_init {Q : Unit → Sg → Prop} (k : ∀ S, MI 10 S → Q () S) : P_X11_init 1000 (nw S00 1000 13 0) (40000, 60000) Q := by
  refine m_init0 (fun S b hS => ?_)
  unfold P_X11_init_L483
  refine ⟨fun n v T => ∃ i, i ≤ 10 ∧ v = Int32.ofNat i ∧ n = 10 - i ∧ MI i T, ⟨10, 0, by omega, rfl, rfl, MI.start hS⟩, fun n v T hI => ?_⟩
  obtain ⟨i, hi, hv, hn, hM⟩ := hI
  subst hv
  unfold P_X11_init_L483b
  have h10 : (10 : Int32).toInt = 10 := by decide
  refine ⟨fun h => ?_, fun h => ?_⟩
  · have := Int32.le_iff_toInt_le.mp h
    rw [h10, nat32 (by omega)] at this
    have e : i = 10 := by omega
    subst e
    exact k T hM
  · have h31 := hM.1.2.2 (31, 16, 10) (by decide)
    have hlt : i < 10 := by
      rcases Nat.lt_or_ge i 10 with z | z
      · exact z
      · exact absurd (Int32.le_iff_toInt_le.mpr (by rw [h10, nat32 (by omega)]; omega)) h
    refine ⟨by rw [hM.1.2.1], 1131, h31.1, by rw [show sK T 1131 = 16 from h31.2.1], ?_, fun T2 e2 x ex => ⟨10 - (i + 1), by omega, i + 1, by omega, by rw [ex, nat32s], rfl, ?_⟩⟩
    · intro z
      rcases z with z | z
      · exact nat32_nn (by omega) z
      · rw [nat32c (by omega), show sN T 1131 = 10 from h31.2.2] at z; omega
    · rw [e2, nat32c (by omega)]; exact hM.step
