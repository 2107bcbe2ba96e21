/-! ===== level 2: the class's reading of the rules ===== -/
noncomputable def psF (f : Nat → Nat) (n : Nat) : Nat → Nat
  | 0 => sk f n 0
  | s + 1 => match (stF f n (psF f n s)).2 with
    | .inr p => p
    | .inl q => q
def GOODs (f : Nat → Nat) (n s : Nat) : Prop := ∀ i, i < s → psF f n i < n ∧ (stF f n (psF f n i)).2 = .inr (psF f n (i + 1))
noncomputable def nuF (f : Nat → Nat) (n : Nat) : Nat → Nat → Int32
  | 0 => bareV
  | s + 1 => fun w => updW (stF f n (psF f n s)).1 w (nuF f n s w)
noncomputable def tcF (f : Nat → Nat) (n : Nat) : Nat → Nat
  | 0 => 0
  | s + 1 => tcF f n s + if (stF f n (psF f n s)).1.1 = 30 then 1 else 0
noncomputable def tvF (f : Nat → Nat) (n : Nat) : Nat → Nat → Nat → Int32
  | 0 => fun _ _ => 0
  | s + 1 => tvW (stF f n (psF f n s)).1 (tcF f n s) (tvF f n s)
def OutY (f : Nat → Nat) (n s : Nat) : Prop := GOODs f n s ∧ ¬ psF f n s < n ∧ s ≤ 24
def OutN (f : Nat → Nat) (n q : Nat) : Prop := ∃ s, GOODs f n s ∧ psF f n s < n ∧ ((s = 24 ∧ q = psF f n s) ∨ (s < 24 ∧ (stF f n (psF f n s)).2 = .inl q))
section RD
variable {S0 S T : Sg} {f : Nat → Nat} {n N0 N tc : Nat} {nums : Nat → Int32} {th : Nat → Nat} {tv : Nat → Nat → Int32} {m : Nat ⊕ Nat}
theorem tcF_le : ∀ s, tcF f n s ≤ s
  | 0 => Nat.le_refl _
  | s + 1 => by
    have := tcF_le s
    show tcF f n s + (if _ then 1 else 0) ≤ s + 1
    split <;> omega
theorem GOODs.next {s p : Nat} (h : GOODs f n s) (hp : psF f n s < n) (e : (stF f n (psF f n s)).2 = .inr p) : psF f n (s + 1) = p ∧ GOODs f n (s + 1) := by
  have e2 : psF f n (s + 1) = p := by
    show (match (stF f n (psF f n s)).2 with | .inr p => p | .inl q => q) = p
    rw [e]
  refine ⟨e2, fun i hi => ?_⟩
  by_cases c : i = s
  · subst c; rw [e2]; exact ⟨hp, e⟩
  · exact h i (by omega)
theorem x_read {b : Nat × Nat} {Q : Int32 → Sg → Prop} (hb : LBs S N0) (hok : okS S) (hN : GN S N) (h3 : N0 + 3 ≤ N) (t1 : sK S 1020 % 32 = 9) (t2 : sR S 1020 1 = some 1021) (t3 : sK S 1021 % 32 = 16) (t4 : sN S 1021 = 700) (hn : n ≤ 700) (t5 : ∀ j, j < n → f j < 256 ∧ sI S 1021 j = Int32.ofNat (f j)) (l1 : sK S (N0 + 2) % 32 = 16) (l2 : sN S (N0 + 2) = 21) (l3 : ∀ w, w < 21 → sI S (N0 + 2) w = bareV w) (l4 : Lst S (N0 + 1) N0 th 0) (hb1 : 48 ≤ b.1) (hb2 : 1680 ≤ b.2) (kY : ∀ σ N' th' s, OutY f n s → CSs S σ f n N0 N' (nuF f n s) (tcF f n s) th' (tvF f n s) (.inr (psF f n s)) → Q (-1) (pI σ 1020 0 0)) (kN : ∀ σ N' nums' tc' th' tv' q, OutN f n q → CSs S σ f n N0 N' nums' tc' th' tv' (.inl q) → Q (Int32.ofNat q) (pI σ 1020 0 0)) : P_X7_read 1020 (Int32.ofNat n) (some N0) S b Q := by
  have lb := hb.1
  unfold P_X7_read
  refine ⟨t1, fun s2 w2 s5 w5 s8 w8 => ?_⟩
  have v8 : ∀ x, ¬ x = 1020 → vw s8 x = vw S x := fun x hx => by rw [w8, vw_pI hx, w5, vw_pI hx, w2, vw_pI hx]
  have st8 : ∀ x, stru s8 x = stru S x := fun x => by rw [w8, w5, w2]; rfl
  have tp8 : TP s8 f n := ⟨by rw [stK (st8 1020)]; exact t1, by rw [stR (st8 1020)]; exact t2, by rw [stK (st8 1021)]; exact t3, by rw [stN (st8 1021)]; exact t4, hn, by rw [w8, w5, w2]; simp (disch := first | omega | decide) only [sI_pI_ne, sI_pI_eq], fun j hj => by rw [vwI (v8 1021 (by omega))]; exact t5 j hj⟩
  have e4 : sI s8 1020 4 = Int32.ofNat 0 := by rw [w8, sI_pI_eq]; rfl
  have e5 : sI s8 1020 5 = -1 := by rw [w8, w5]; simp (disch := first | omega | decide) only [sI_pI_ne, sI_pI_eq]
  have e0 : sI s8 1020 0 = sI S 1020 0 := by rw [w8, w5, w2]; simp (disch := first | omega | decide) only [sI_pI_ne]
  clear w8 w5 w2
  refine x_step tp8 e4 (Nat.zero_le _) (fun s9 g1 g2 g3 g4 => ?_)
  have tp9 := tp8.tx g1
  have v9 : ∀ x, ¬ x = 1020 → vw s9 x = vw S x := fun x hx => (g1.1 x hx).trans (v8 x hx)
  have k9 : ∀ x, sK s9 x = sK S x := fun x => (stK (g1.2.1 x)).trans (stK (st8 x))
  have start : CSs S s9 f n N0 N (nuF f n 0) (tcF f n 0) th (tvF f n 0) (.inr (psF f n 0)) := by
    refine ⟨hb, ⟨⟨(v9 1 (by omega)).trans hok.1, (v9 2 (by omega)).trans hok.2.1, fun x hx => by rw [k9] at hx ⊢; exact hok.2.2 x hx⟩, ⟨hN.1, fun x hx => by rw [k9]; exact hN.2 x hx⟩, h3, fun x _ hx => v9 x hx, (g1.2.1 1020).trans (st8 1020), (g1.2.2 0 (by omega)).trans e0, ⟨by rw [k9]; exact l1, by rw [vwN (v9 (N0 + 2) (by omega))]; exact l2, fun w hw => by rw [vwI (v9 (N0 + 2) (by omega))]; exact l3 w hw⟩, l4.keep (v9 _ (by omega)) (fun a a1 a2 => v9 a (by omega)) (v9 2 (by omega)), Nat.zero_le _, fun i hi => absurd hi (Nat.not_lt_zero _)⟩, tp9, ?_⟩
    exact LM.ok (g4.trans e5) (Nat.zero_le _) g2 g3
  unfold P_X7_read_L21
  refine lpSB (N := 25) (s0 := 0) (R := fun s σ b => (s ≤ 24 ∧ GOODs f n s ∧ 2 * (24 - s) ≤ b.1 ∧ 70 * (24 - s) ≤ b.2 ∧ ∃ N' th', CSs S σ f n N0 N' (nuF f n s) (tcF f n s) th' (tvF f n s) (.inr (psF f n s))) ∨ (∃ N' nums' tc' th' tv' q, OutN f n q ∧ CSs S σ f n N0 N' nums' tc' th' tv' (.inl q))) (B := fun x σ b K => P_X7_read_L21b 1020 (some N0) x σ b Q K) rfl (Nat.zero_le _) (Or.inl ⟨by omega, fun i hi => absurd hi (Nat.not_lt_zero _), by show 2 * (24 - 0) ≤ b.1; omega, by show 70 * (24 - 0) ≤ b.2; omega, N, th, start⟩) (fun s hs σ b' hR K hK => ?_)
  unfold P_X7_read_L21b P_X7_read_B74 P_X7_read_B68
  rcases hR with ⟨h24, hg, c1, c2, N', th', hc⟩ | ⟨N', nums', tc', th', tv', q, ho, hc⟩
  · obtain ⟨q1, q2, q3, q4, q5⟩ := hc.2.2.2
    have tp := hc.2.2.1
    refine ⟨fun z => ?_, fun _ => ⟨tp.1, fun _ => ⟨fun z => ⟨tp.1, fun s36 w36 => ?_⟩, fun z => ⟨fun e s28 w28 x hx => ?_, fun e => ⟨(2, 70), ?_, ?_, fun z hz => ?_, ?_⟩⟩⟩, fun z => absurd q1 z⟩⟩
    · rw [show (24 : Int32) < Int32.ofNat s ↔ 24 < s from ln_lt (k := 24) (by omega) (by omega)] at z
      omega
    · rw [tp.2.2.2.2.2.1, q4, nn_le (by omega) (by omega)] at z
      rw [w36, sI_pI_ne (by omega), q1]
      exact kY σ N' th' s ⟨hg, by omega, h24⟩ hc
    · rw [tp.2.2.2.2.2.1, q4, nn_le (by omega) (by omega)] at z
      rw [show Int32.ofNat s = (24 : Int32) ↔ s = 24 from nl_eq (k := 24) (by omega) (by omega)] at e
      rw [q4] at w28
      rw [hx, n_s]
      refine hK (by omega) _ _ (Or.inr ⟨N', _, _, th', _, psF f n s, ⟨s, hg, by omega, Or.inl ⟨e, rfl⟩⟩, hc.tx (by rw [w28]; exact (TX.refl σ).pI (Or.inr (Or.inr rfl))) ?_⟩)
      rw [w28]; exact ⟨sI_pI_eq, q2⟩
    · rw [show Int32.ofNat s = (24 : Int32) ↔ s = 24 from nl_eq (k := 24) (by omega) (by omega)] at e
      show 2 ≤ b'.1
      omega
    · rw [show Int32.ofNat s = (24 : Int32) ↔ s = 24 from nl_eq (k := 24) (by omega) (by omega)] at e
      show 70 ≤ b'.2
      omega
    · cases hz
      have := hc.2.1.2.2.2.1 N0 (Nat.le_refl _) (by omega)
      rw [vwK this]
      have := hb.2.1
      omega
    · rw [show Int32.ofNat s = (24 : Int32) ↔ s = 24 from nl_eq (k := 24) (by omega) (by omega)] at e
      rw [tp.2.2.2.2.2.1, q4, nn_le (by omega) (by omega)] at z
      have pl : psF f n s < n := by omega
      have tl := tcF_le (f := f) (n := n) s
      refine x_stmt hc (by omega) (Nat.le_refl _) (Nat.le_refl _) (fun S' N2 th2 _ h2 x hx => ?_)
      rw [hx, n_s]
      cases e3 : (stF f n (psF f n s)).2 with
      | inl q =>
        rw [e3] at h2
        exact hK (by omega) _ _ (Or.inr ⟨N2, _, _, th2, _, q, ⟨s, hg, pl, Or.inr ⟨by omega, e3⟩⟩, h2⟩)
      | inr p =>
        rw [e3] at h2
        obtain ⟨e4, g5⟩ := hg.next pl e3
        refine hK (by omega) _ _ (Or.inl ⟨by omega, g5, ?_, ?_, N2, th2, ?_⟩)
        · show 2 * (24 - (s + 1)) ≤ b'.1 - 2
          omega
        · show 70 * (24 - (s + 1)) ≤ b'.2 - 70
          omega
        · rw [e4]; exact h2
  · have tp := hc.2.2.1
    have hq := hc.2.2.2
    have nf : ¬ sI σ 1020 5 = -1 := fun z => by
      rw [hq.1] at z
      exact (n_m1 (by have := hq.2; omega)).mp z
    have out : sK σ 1020 % 32 = 9 ∧ ∀ σ36 : Sg, σ36 = pI σ 1020 0 0 → Q (sI σ36 1020 5) σ36 := ⟨tp.1, fun s36 w36 => by
      rw [w36, sI_pI_ne (by omega), hq.1]
      exact kN σ N' nums' tc' th' tv' q ho hc⟩
    exact ⟨fun _ => out, fun _ => ⟨tp.1, fun z => absurd z nf, fun _ => out⟩⟩
end RD
