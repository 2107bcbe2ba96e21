/-! ===== two objects in one heap: the class's (SX, adX) and the reference's (SM, adM) ===== -/
def vBare : Nat × Nat × (Nat → Int32) × (Nat → Int64) × (Nat → Option Nat) := (24, 21, bareV, fun _ => 0, fun _ => none)
def vEmpty : Nat × Nat × (Nat → Int32) × (Nat → Int64) × (Nat → Option Nat) := (25, 0, fun _ => 0, fun _ => 0, fun _ => none)
def okS (S : Sg) : Prop := vw S 1 = vBare ∧ vw S 2 = vEmpty ∧ ∀ h, ¬ sK S h = 0 → h = 1 ∨ h = 2 ∨ wr (sK S h)
def LJ (D : Dg) (b L : Nat) (xs : Nat → Int32) (σ : Sg) (ad ad2 : Nat → Nat) (S S2 : Sg) : Prop := Iso D S ad σ ∧ Iso D S2 ad2 σ ∧ okS S ∧ okS S2 ∧ (∀ h h', wr (sK S h) → wr (sK S2 h') → ¬ ad h = ad2 h') ∧ (sK σ b = 24 ∧ sN σ b = L ∧ sI σ b = xs) ∧ ro D σ
theorem LJ.symm {D : Dg} {b L : Nat} {xs : Nat → Int32} {σ : Sg} {ad ad2 : Nat → Nat} {S S2 : Sg} (h : LJ D b L xs σ ad ad2 S S2) : LJ D b L xs σ ad2 ad S2 S := ⟨h.2.1, h.1, h.2.2.2.1, h.2.2.1, fun a c h1 h2 e => h.2.2.2.2.1 c a h2 h1 e.symm, h.2.2.2.2.2⟩
theorem exRes (σ : Sg) (P : Nat → Prop) : ∃ σ1 : Sg, ∀ a, (P a → vw σ1 a = vw σ a) ∧ (¬ P a → vw σ1 a = vw0) :=
  ⟨ofv (fun a => @ite _ (P a) (Classical.propDecidable _) (vw σ a) vw0), fun a => ⟨fun h => by rw [vw_ofv]; exact if_pos h, fun h => by rw [vw_ofv]; exact if_neg h⟩⟩
theorem ctr_mono {ρ : Type} {l : Launch} {D : Dg} {y : MethodName} {bytes : ByteArray} {maxL : Nat} {ret : Option FieldType} {fr lo : Nat} {mk : ρ → Option Value} {av : List Value} {σ : Sg} {b : Nat × Nat} {Q1 Q2 : ρ → Sg → Prop}
    (hC : Ctr l D y bytes maxL ret fr lo mk av σ b Q1) (h : ∀ r σ', Q1 r σ' → Q2 r σ') : Ctr l D y bytes maxL ret fr lo mk av σ b Q2 := by
  intro sz p e a1 a2 a3 s m args below hf happ hP hK
  obtain ⟨n, o, k1, k2, k3, ⟨⟨⟨r, σ2, ho, hq, hR2, hA2⟩, hF⟩, hrest⟩⟩ := hC sz p e a1 a2 a3 s m args below hf happ hP hK
  exact ⟨n, o, k1, k2, k3, ⟨⟨⟨r, σ2, ho, h r σ2 hq, hR2, hA2⟩, hF⟩, hrest⟩⟩
theorem ro_ov {D : Dg} {σ2 σ1 σ : Sg} (hRO : ∀ a, ¬ sK σ a = 0 → ¬ wr (sK σ a) → vw (ov σ2 σ1 σ) a = vw σ a) (hro : ro D σ) : ro D (ov σ2 σ1 σ) := by
  obtain ⟨o1, o2, o3, o4⟩ := hro
  have hB := hRO (D.2.2 1) (by rw [o2]; decide) (by rw [o2]; unfold wr; omega)
  refine ⟨fun a => ⟨fun h => ?_, fun h => ?_⟩, by rw [vwK hB]; exact o2, by rw [vwN hB]; exact o3, by rw [vwI hB]; exact o4⟩
  · by_cases c1 : wr (sK σ2 a)
    · rw [vwK (ov1 c1)] at h; unfold wr at c1; omega
    · by_cases c2 : wr (sK σ1 a)
      · rw [show sK (ov σ2 σ1 σ) a = 0 from congrArg (fun z => z.1) (ov2 c1 c2)] at h; omega
      · rw [vwK (ov3 c1 c2)] at h; exact (o1 a).mp h
  · have h25 := (o1 a).mpr h
    rw [vwK (hRO a (by omega) (by unfold wr; omega))]
    exact h25
theorem callX {ρ : Type} {R : Sg → (Nat → Nat) → (Nat → Nat) → Prop} {l : Launch} {D : Dg} {y : MethodName} {bytes : ByteArray} {maxL : Nat} {ret : Option FieldType} {fr lo : Nat} {mk : ρ → Option Value} {av : List Value} {b : Nat × Nat} {QA : ρ → Sg → Prop} {sb L : Nat} {xs : Nat → Int32} {σ : Sg} {ad ad2 : Nat → Nat} {S S2 : Sg}
    (hJ : LJ D sb L xs σ ad ad2 S S2) (hR : ∀ ad', R S ad ad' → ∀ z, rlv S z → ad' z = ad z) (hC : CtrY R l D y bytes maxL ret fr lo mk av S b QA) (hok : ∀ r S', QA r S' → okS S') :
    Ctr l D y bytes maxL ret fr lo mk (av.map (cv ad)) σ b (fun r σ' => ∃ (r' : ρ) (S' : Sg) (ad' : Nat → Nat), mk r = (mk r').map (cv ad') ∧ QA r' S' ∧ LJ D sb L xs σ' ad' ad2 S' S2 ∧ ∀ z, rlv S z → ad' z = ad z) := by
  obtain ⟨hI, hI2, hk, hk2, hdj, hscr, hro⟩ := hJ
  obtain ⟨σ1, h1⟩ := exRes σ (fun a => (∃ h, ¬ sK S h = 0 ∧ ad h = a) ∨ a = D.2.2 1 ∨ a = D.2.2 2)
  have hs : sub σ1 σ := fun a ha => by
    by_cases c : (∃ h, ¬ sK S h = 0 ∧ ad h = a) ∨ a = D.2.2 1 ∨ a = D.2.2 2
    · exact (h1 a).1 c
    · exact absurd (congrArg (fun z => z.1) ((h1 a).2 c)) ha
  have hI1 : Iso D S ad σ1 := by
    refine ⟨fun h hh => ?_, hI.2⟩
    have e := (h1 (ad h)).1 (Or.inl ⟨h, hh, rfl⟩)
    rw [vwK e, vwN e, vwI e, vwL e, vwR e]
    exact hI.1 h hh
  obtain ⟨o1, o2, o3, o4⟩ := hro
  have hro1 : ro D σ1 := by
    have eB := (h1 (D.2.2 1)).1 (Or.inr (Or.inl rfl))
    refine ⟨fun a => ⟨fun h => ?_, fun h => ?_⟩, by rw [vwK eB]; exact o2, by rw [vwN eB]; exact o3, by rw [vwI eB]; exact o4⟩
    · exact (o1 a).mp (by rw [← vwK (hs a (by omega))]; exact h)
    · rw [vwK ((h1 a).1 (Or.inr (Or.inr h)))]; exact (o1 a).mpr h
  refine ctr_mono (ctr_frame (hC ad σ1 hI1) hs hro1) (fun r σ' hq => ?_)
  obtain ⟨σ2, ⟨r', S', ad', hr, hmk, hqa, hIn, hkin⟩, rfl, hnew⟩ := hq
  have hRO : ∀ a, ¬ sK σ a = 0 → ¬ wr (sK σ a) → vw (ov σ2 σ1 σ) a = vw σ a := fun a g1 g2 => by
    have c2 : ¬ wr (sK σ1 a) := fun z => g2 (by rw [← vwK (hs a (wr_ne z))]; exact z)
    exact ov3 (fun z => (hnew a z).elim c2 g1) c2
  have hag := hR ad' hr
  have hok' := hok r' S' hqa
  have hM1 : ∀ h, ¬ sK S2 h = 0 → ¬ wr (sK σ1 (ad2 h)) := fun h hh z => by
    by_cases c : (∃ h0, ¬ sK S h0 = 0 ∧ ad h0 = ad2 h) ∨ ad2 h = D.2.2 1 ∨ ad2 h = D.2.2 2
    · rcases c with ⟨h0, g1, g2⟩ | g | g
      · rw [vwK (hs _ (wr_ne z))] at z
        have z2 := z
        rw [(hI2.1 h hh).1] at z2
        rw [← g2, (hI.1 h0 g1).1] at z
        exact hdj h0 h z z2 g2
      · rw [vwK (hs _ (wr_ne z)), g, o2] at z
        unfold wr at z; omega
      · rw [vwK (hs _ (wr_ne z))] at z
        have := (o1 _).mpr g
        unfold wr at z; omega
    · rw [show sK σ1 (ad2 h) = 0 from congrArg (fun z => z.1) ((h1 _).2 c)] at z
      exact wr0 z
  have hM2 : ∀ h, ¬ sK S2 h = 0 → ¬ wr (sK σ2 (ad2 h)) := fun h hh z => (hnew _ z).elim (hM1 h hh) (fun z2 => hh (by rw [← (hI2.1 h hh).1]; exact z2))
  have hl1 : ¬ sK S 1 = 0 := by rw [show sK S 1 = 24 from congrArg (fun z => z.1) hk.1]; decide
  have hl2 : ¬ sK S 2 = 0 := by rw [show sK S 2 = 25 from congrArg (fun z => z.1) hk.2.1]; decide
  have hro' : ro D (ov σ2 σ1 σ) := ro_ov hRO ⟨o1, o2, o3, o4⟩
  refine ⟨r', S', ad', hmk, hqa, ⟨⟨fun h hh => ?_, hIn.2⟩, ⟨fun h hh => ?_, hI2.2⟩, hok', hk2, fun h h' w1 w2 e => ?_, ?_, hro'⟩, hag⟩
  · rcases hok'.2.2 h hh with e | e | e
    · subst e
      have ea : ad' 1 = ad 1 := hag 1 (Or.inr (by decide))
      have e0 := hI.1 1 hl1
      have en := hRO (ad 1) (by rw [e0.1]; exact hl1) (by rw [e0.1, show sK S 1 = 24 from congrArg (fun z => z.1) hk.1]; unfold wr; omega)
      have ev : vw S' 1 = vw S 1 := hok'.1.trans hk.1.symm
      rw [ea, vwK en, vwN en, vwI en, vwL en, vwR en, vwK ev, vwN ev, vwI ev, vwL ev]
      refine ⟨e0.1, e0.2.1, e0.2.2.1, e0.2.2.2.1, fun k => ?_⟩
      rw [e0.2.2.2.2 k, vwR ev, show sR S 1 k = none from congrFun (congrArg (fun z => z.2.2.2.2) hk.1) k]
      rfl
    · subst e
      have ea : ad' 2 = ad 2 := hag 2 (Or.inr (by decide))
      have e0 := hI.1 2 hl2
      have en := hRO (ad 2) (by rw [e0.1]; exact hl2) (by rw [e0.1, show sK S 2 = 25 from congrArg (fun z => z.1) hk.2.1]; unfold wr; omega)
      have ev : vw S' 2 = vw S 2 := hok'.2.1.trans hk.2.1.symm
      rw [ea, vwK en, vwN en, vwI en, vwL en, vwR en, vwK ev, vwN ev, vwI ev, vwL ev]
      refine ⟨e0.1, e0.2.1, e0.2.2.1, e0.2.2.2.1, fun k => ?_⟩
      rw [e0.2.2.2.2 k, vwR ev, show sR S 2 k = none from congrFun (congrArg (fun z => z.2.2.2.2) hk.2.1) k]
      rfl
    · have e0 := hIn.1 h hh
      have en : vw (ov σ2 σ1 σ) (ad' h) = vw σ2 (ad' h) := ov1 (by rw [e0.1]; exact e)
      rw [vwK en, vwN en, vwI en, vwL en, vwR en]
      exact e0
  · have en : vw (ov σ2 σ1 σ) (ad2 h) = vw σ (ad2 h) := ov3 (hM2 h hh) (hM1 h hh)
    rw [vwK en, vwN en, vwI en, vwL en, vwR en]
    exact hI2.1 h hh
  · have z : wr (sK σ2 (ad' h)) := by rw [(hIn.1 h (wr_ne w1)).1]; exact w1
    rw [e] at z
    exact hM2 h' (wr_ne w2) z
  · have en := hRO sb (by rw [hscr.1]; decide) (by rw [hscr.1]; unfold wr; omega)
    rw [vwK en, vwN en, vwI en]
    exact hscr
