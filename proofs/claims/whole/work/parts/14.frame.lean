/-! ===== the frame: a contract over a part of the store holds over the whole, the rest kept ===== -/
def vw (σ : Sg) (a : Nat) : Nat × Nat × (Nat → Int32) × (Nat → Int64) × (Nat → Option Nat) := (sK σ a, sN σ a, sI σ a, sL σ a, sR σ a)
def vw0 : Nat × Nat × (Nat → Int32) × (Nat → Int64) × (Nat → Option Nat) := (0, 0, fun _ => 0, fun _ => 0, fun _ => none)
def ofv (f : Nat → Nat × Nat × (Nat → Int32) × (Nat → Int64) × (Nat → Option Nat)) : Sg := (fun a => (f a).1, fun a => (f a).2.1, fun a => (f a).2.2.1, fun a => (f a).2.2.2.1, fun a => (f a).2.2.2.2)
theorem vw_ofv (f : Nat → Nat × Nat × (Nat → Int32) × (Nat → Int64) × (Nat → Option Nat)) (a : Nat) : vw (ofv f) a = f a := rfl
theorem rp_vw {D : Dg} {U : State} {σ σ' : Sg} {a : Nat} {H : Heap} (e : vw σ' a = vw σ a) (h : rp D U σ a H) : rp D U σ' a H := by
  unfold vw at e
  simp only [Prod.mk.injEq] at e
  exact rp.congr e.1 e.2.1 e.2.2.1 e.2.2.2.1 e.2.2.2.2 h
theorem rp_zero {D : Dg} {U : State} {σ : Sg} {a : Nat} {H : Heap} (e : sK σ a = 0) : rp D U σ a H := ⟨fun z => by rw [e] at z; omega, fun z => by rw [e] at z; omega, fun z => by rw [e] at z; omega, fun z => by rw [e] at z; omega⟩
/-- σ1's cells are σ's -/
def sub (σ1 σ : Sg) : Prop := ∀ a, ¬ sK σ1 a = 0 → vw σ1 a = vw σ a
/-- σ, where σ1's writable cells are now σ2's -/
def ov (σ2 σ1 σ : Sg) : Sg := ofv (fun a => if ((1 ≤ sK σ2 a % 32 ∧ sK σ2 a % 32 ≤ 13) ∨ (16 ≤ sK σ2 a % 32 ∧ sK σ2 a % 32 ≤ 21)) then vw σ2 a else if ((1 ≤ sK σ1 a % 32 ∧ sK σ1 a % 32 ≤ 13) ∨ (16 ≤ sK σ1 a % 32 ∧ sK σ1 a % 32 ≤ 21)) then vw0 else vw σ a)
theorem ov1 {σ2 σ1 σ : Sg} {a : Nat} (h : wr (sK σ2 a)) : vw (ov σ2 σ1 σ) a = vw σ2 a := by unfold ov; rw [vw_ofv]; exact if_pos h
theorem ov2 {σ2 σ1 σ : Sg} {a : Nat} (h : ¬ wr (sK σ2 a)) (h1 : wr (sK σ1 a)) : vw (ov σ2 σ1 σ) a = vw0 := by unfold ov; rw [vw_ofv]; exact (if_neg h).trans (if_pos h1)
theorem ov3 {σ2 σ1 σ : Sg} {a : Nat} (h : ¬ wr (sK σ2 a)) (h1 : ¬ wr (sK σ1 a)) : vw (ov σ2 σ1 σ) a = vw σ a := by unfold ov; rw [vw_ofv]; exact (if_neg h).trans (if_neg h1)
theorem vwK {σ σ' : Sg} {a : Nat} (e : vw σ' a = vw σ a) : sK σ' a = sK σ a := congrArg (fun z => z.1) e
theorem vwN {σ σ' : Sg} {a : Nat} (e : vw σ' a = vw σ a) : sN σ' a = sN σ a := congrArg (fun z => z.2.1) e
theorem vwI {σ σ' : Sg} {a : Nat} (e : vw σ' a = vw σ a) : sI σ' a = sI σ a := congrArg (fun z => z.2.2.1) e
theorem vwL {σ σ' : Sg} {a : Nat} (e : vw σ' a = vw σ a) : sL σ' a = sL σ a := congrArg (fun z => z.2.2.2.1) e
theorem vwR {σ σ' : Sg} {a : Nat} (e : vw σ' a = vw σ a) : sR σ' a = sR σ a := congrArg (fun z => z.2.2.2.2) e
theorem wr0 : ¬ wr 0 := fun h => by unfold wr at h; omega
theorem wr_ne {k : Nat} (h : wr k) : ¬ k = 0 := fun e => by rw [e] at h; exact wr0 h
theorem rep_sub {D : Dg} {U : State} {σ1 σ : Sg} {H : Heap} (hs : sub σ1 σ) (hro : ro D σ1) (h : Rep D U σ H) : Rep D U σ1 H := by
  refine ⟨fun a => ?_, fun a hw => ?_, fun a hk => ?_, hro⟩
  · by_cases e : sK σ1 a = 0
    · exact rp_zero e
    · exact rp_vw (hs a e) (h.1 a)
  · exact h.2.1 a (by rw [← vwK (hs a (wr_ne hw))]; exact hw)
  · exact h.2.2.1 a (by rw [← vwK (hs a hk)]; exact hk)
theorem ctr_frame {ρ : Type} {l : Launch} {D : Dg} {y : MethodName} {bytes : ByteArray} {maxL : Nat} {ret : Option FieldType} {fr lo : Nat} {mk : ρ → Option Value} {av : List Value} {σ1 σ : Sg} {b : Nat × Nat} {Qm : ρ → Sg → Prop}
    (hC : Ctr l D y bytes maxL ret fr lo mk av σ1 b Qm) (hs : sub σ1 σ) (hro1 : ro D σ1) : Ctr l D y bytes maxL ret fr lo mk av σ b (fun r σ' => ∃ σ2, Qm r σ2 ∧ σ' = ov σ2 σ1 σ ∧ ∀ q, wr (sK σ2 q) → wr (sK σ1 q) ∨ sK σ q = 0) := by
  intro sz
  have hM := hC sz
  intro p e a1 a2 a3 s m args below hf happ hP hK
  obtain ⟨e0, hsz, hR, hWT, hWH, hb⟩ := hP
  obtain ⟨n, o, k1, k2, k3, ⟨⟨⟨r, σ2, ho, hq, hR2, hA2⟩, hF1, hF2⟩, L, hFE, hL⟩⟩ := hM p e a1 a2 a3 s m args below hf happ ⟨e0, hsz, rep_sub hs hro1 hR, hWT, hWH, hb⟩ hK
  refine ⟨n, o, k1, k2, k3, ⟨?_, ?_⟩⟩
  · have hal := hFE.2.1.alike
    have hw1 : ∀ q, wr (sK σ1 q) → wr (sK σ q) := fun q h => by rw [← vwK (hs q (wr_ne h))]; exact h
    have hold : ∀ q, ¬ sK σ q = 0 → q < sz := fun q h => by rw [← hsz]; exact hR.2.2.1 q h
    have hnew : ∀ q, wr (sK σ2 q) → wr (sK σ1 q) ∨ sK σ q = 0 := fun q h => (hA2 q h).elim Or.inl (fun h2 => Or.inr (by
      rcases Nat.eq_zero_or_pos (sK σ q) with z | z
      · exact z
      · exact absurd (hold q (by omega)) (by omega)))
    have hmono : ∀ q, AX σ1 sz q → AX σ sz q := fun q h => h.elim (fun z => Or.inl (hw1 q z)) Or.inr
    have hkeep : ∀ q, ¬ sK σ q = 0 → ¬ wr (sK σ1 q) → ∀ H, H = (stepsAlone p.tables e n s).heap → H[q]? = s.heap[q]? := fun q h1 h2 H hH => by
      rw [hH]
      exact hF2 q (by rw [hsz]; exact hold q h1) (fun z => z.elim h2 (fun z2 => by have := hold q h1; omega))
    refine ⟨⟨r, ov σ2 σ1 σ, ho, ⟨σ2, hq, rfl, hnew⟩, ?_, fun q h => ?_⟩, hF1, fun q h1 h2 => hF2 q h1 (fun z => h2 (hmono q z))⟩
    · refine ⟨fun a => ?_, fun a h => ?_, fun a h => ?_, ?_⟩
      · by_cases c1 : wr (sK σ2 a)
        · exact rp_vw (ov1 c1) (hR2.1 a)
        · by_cases c2 : wr (sK σ1 a)
          · exact rp_zero (by rw [show sK (ov σ2 σ1 σ) a = 0 from congrArg (fun z => z.1) (ov2 c1 c2)])
          · by_cases c3 : sK σ a = 0
            · exact rp_zero (by rw [vwK (ov3 c1 c2)]; exact c3)
            · exact rp_vw (ov3 c1 c2) (((hR.1 a).moved hal).kept (hkeep a c3 c2 _ rfl))
      · by_cases c1 : wr (sK σ2 a)
        · exact hR2.2.1 a c1
        · by_cases c2 : wr (sK σ1 a)
          · rw [show sK (ov σ2 σ1 σ) a = 0 from congrArg (fun z => z.1) (ov2 c1 c2)] at h; exact absurd h wr0
          · rw [vwK (ov3 c1 c2)] at h; exact hR.2.1 a h
      · by_cases c1 : wr (sK σ2 a)
        · exact hR2.2.2.1 a (wr_ne c1)
        · by_cases c2 : wr (sK σ1 a)
          · exact absurd (congrArg (fun z => z.1) (ov2 c1 c2)) h
          · rw [vwK (ov3 c1 c2)] at h
            exact Nat.lt_of_lt_of_le (hR.2.2.1 a h) hF1
      · have hro := hR.2.2.2
        have hRO : ∀ a, ¬ sK σ a = 0 → ¬ wr (sK σ a) → vw (ov σ2 σ1 σ) a = vw σ a := fun a h1 h2 => by
          have c2 : ¬ wr (sK σ1 a) := fun z => h2 (hw1 a z)
          exact ov3 (fun z => (hnew a z).elim c2 h1) c2
        obtain ⟨o1, o2, o3, o4⟩ := hro
        have hB := hRO (D.2.2 1) (by rw [o2]; decide) (by rw [o2]; unfold wr; omega)
        refine ⟨fun a => ⟨fun h => ?_, fun h => ?_⟩, by rw [vwK hB]; exact o2, by rw [vwN hB]; exact o3, by rw [vwI hB]; exact o4⟩
        · by_cases c1 : wr (sK σ2 a)
          · rw [vwK (ov1 c1)] at h; unfold wr at c1; omega
          · by_cases c2 : wr (sK σ1 a)
            · rw [show sK (ov σ2 σ1 σ) a = 0 from congrArg (fun z => z.1) (ov2 c1 c2)] at h; omega
            · rw [vwK (ov3 c1 c2)] at h; exact (o1 a).mp h
        · have h25 := (o1 a).mpr h
          rw [vwK (hRO a (by omega) (by unfold wr; omega))]
          exact h25
    · by_cases c1 : wr (sK σ2 q)
      · exact hmono q (hA2 q c1)
      · by_cases c2 : wr (sK σ1 q)
        · exact Or.inl (hw1 q c2)
        · rw [vwK (ov3 c1 c2)] at h; exact Or.inl h
  · exact ⟨L, hFE, fun q h => (hL q h).elim (fun z => Or.inl (by rw [← vwK (hs _ (wr_ne z))]; exact z)) Or.inr⟩
