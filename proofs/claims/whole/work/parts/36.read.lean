/-! ===== level 2: loops; the small readers ===== -/
theorem lpA {α : Type} {N s0 : Nat} {R : Nat → α → Prop} {B : α → Int32 → (α → Int32 → Prop) → Prop} {a0 : α} {x0 : Int32} (hx : x0 = Int32.ofNat s0) (hs : s0 ≤ N) (h0 : R s0 a0) (step : ∀ i, i ≤ N → ∀ a, R i a → ∀ K : α → Int32 → Prop, (i < N → ∀ a', R (i + 1) a' → K a' (Int32.ofNat (i + 1))) → B a (Int32.ofNat i) K) : ∃ I : Nat → α → Int32 → Prop, (∃ n, I n a0 x0) ∧ ∀ (n : Nat) (a : α) (x : Int32), I n a x → B a x (fun a x => ∃ n', n' < n ∧ I n' a x) := by
  refine ⟨fun n a x => ∃ i, i ≤ N ∧ n = N - i ∧ x = Int32.ofNat i ∧ R i a, ⟨N - s0, s0, hs, rfl, hx, h0⟩, ?_⟩
  rintro n a x ⟨i, hi, rfl, rfl, hr⟩
  exact step i hi a hr _ (fun hl a' h' => ⟨N - (i + 1), by omega, i + 1, by omega, rfl, rfl, h'⟩)
theorem lpI {N s0 : Nat} {R : Nat → Prop} {B : Int32 → (Int32 → Prop) → Prop} {x0 : Int32} (hx : x0 = Int32.ofNat s0) (hs : s0 ≤ N) (h0 : R s0) (step : ∀ i, i ≤ N → R i → ∀ K : Int32 → Prop, (i < N → R (i + 1) → K (Int32.ofNat (i + 1))) → B (Int32.ofNat i) K) : ∃ I : Nat → Int32 → Prop, (∃ n, I n x0) ∧ ∀ (n : Nat) (x : Int32), I n x → B x (fun x => ∃ n', n' < n ∧ I n' x) := by
  refine ⟨fun n x => ∃ i, i ≤ N ∧ n = N - i ∧ x = Int32.ofNat i ∧ R i, ⟨N - s0, s0, hs, rfl, hx, h0⟩, ?_⟩
  rintro n x ⟨i, hi, rfl, rfl, hr⟩
  exact step i hi hr _ (fun hl h' => ⟨N - (i + 1), by omega, i + 1, by omega, rfl, rfl, h'⟩)
theorem lpS {α : Type} {N s0 : Nat} {R : Nat → α → Prop} {B : Int32 → α → (Int32 → α → Prop) → Prop} {a0 : α} {x0 : Int32} (hx : x0 = Int32.ofNat s0) (hs : s0 ≤ N) (h0 : R s0 a0) (step : ∀ i, i ≤ N → ∀ a, R i a → ∀ K : Int32 → α → Prop, (i < N → ∀ a', R (i + 1) a' → K (Int32.ofNat (i + 1)) a') → B (Int32.ofNat i) a K) : ∃ I : Nat → Int32 → α → Prop, (∃ n, I n x0 a0) ∧ ∀ (n : Nat) (x : Int32) (a : α), I n x a → B x a (fun x a => ∃ n', n' < n ∧ I n' x a) := by
  refine ⟨fun n x a => ∃ i, i ≤ N ∧ n = N - i ∧ x = Int32.ofNat i ∧ R i a, ⟨N - s0, s0, hs, rfl, hx, h0⟩, ?_⟩
  rintro n x a ⟨i, hi, rfl, rfl, hr⟩
  exact step i hi a hr _ (fun hl a' h' => ⟨N - (i + 1), by omega, i + 1, by omega, rfl, rfl, h'⟩)
theorem lpAS {α β : Type} {N s0 : Nat} {R : Nat → α → β → Prop} {B : α → Int32 → β → (α → Int32 → β → Prop) → Prop} {a0 : α} {b0 : β} {x0 : Int32} (hx : x0 = Int32.ofNat s0) (hs : s0 ≤ N) (h0 : R s0 a0 b0) (step : ∀ i, i ≤ N → ∀ a b, R i a b → ∀ K : α → Int32 → β → Prop, (i < N → ∀ a' b', R (i + 1) a' b' → K a' (Int32.ofNat (i + 1)) b') → B a (Int32.ofNat i) b K) : ∃ I : Nat → α → Int32 → β → Prop, (∃ n, I n a0 x0 b0) ∧ ∀ (n : Nat) (a : α) (x : Int32) (b : β), I n a x b → B a x b (fun a x b => ∃ n', n' < n ∧ I n' a x b) := by
  refine ⟨fun n a x b => ∃ i, i ≤ N ∧ n = N - i ∧ x = Int32.ofNat i ∧ R i a b, ⟨N - s0, s0, hs, rfl, hx, h0⟩, ?_⟩
  rintro n a x b ⟨i, hi, rfl, rfl, hr⟩
  exact step i hi a b hr _ (fun hl a' b' h' => ⟨N - (i + 1), by omega, i + 1, by omega, rfl, rfl, h'⟩)
theorem lpAA {α β : Type} {N s0 : Nat} {R : Nat → α → β → Prop} {B : α → β → Int32 → (α → β → Int32 → Prop) → Prop} {a0 : α} {b0 : β} {x0 : Int32} (hx : x0 = Int32.ofNat s0) (hs : s0 ≤ N) (h0 : R s0 a0 b0) (step : ∀ i, i ≤ N → ∀ a b, R i a b → ∀ K : α → β → Int32 → Prop, (i < N → ∀ a' b', R (i + 1) a' b' → K a' b' (Int32.ofNat (i + 1))) → B a b (Int32.ofNat i) K) : ∃ I : Nat → α → β → Int32 → Prop, (∃ n, I n a0 b0 x0) ∧ ∀ (n : Nat) (a : α) (b : β) (x : Int32), I n a b x → B a b x (fun a b x => ∃ n', n' < n ∧ I n' a b x) := by
  refine ⟨fun n a b x => ∃ i, i ≤ N ∧ n = N - i ∧ x = Int32.ofNat i ∧ R i a b, ⟨N - s0, s0, hs, rfl, hx, h0⟩, ?_⟩
  rintro n a b x ⟨i, hi, rfl, rfl, hr⟩
  exact step i hi a b hr _ (fun hl a' b' h' => ⟨N - (i + 1), by omega, i + 1, by omega, rfl, rfl, h'⟩)
theorem lpAAA {α β γ : Type} {N s0 : Nat} {R : Nat → α → β → γ → Prop} {B : α → β → γ → Int32 → (α → β → γ → Int32 → Prop) → Prop} {a0 : α} {b0 : β} {c0 : γ} {x0 : Int32} (hx : x0 = Int32.ofNat s0) (hs : s0 ≤ N) (h0 : R s0 a0 b0 c0) (step : ∀ i, i ≤ N → ∀ a b c, R i a b c → ∀ K : α → β → γ → Int32 → Prop, (i < N → ∀ a' b' c', R (i + 1) a' b' c' → K a' b' c' (Int32.ofNat (i + 1))) → B a b c (Int32.ofNat i) K) : ∃ I : Nat → α → β → γ → Int32 → Prop, (∃ n, I n a0 b0 c0 x0) ∧ ∀ (n : Nat) (a : α) (b : β) (c : γ) (x : Int32), I n a b c x → B a b c x (fun a b c x => ∃ n', n' < n ∧ I n' a b c x) := by
  refine ⟨fun n a b c x => ∃ i, i ≤ N ∧ n = N - i ∧ x = Int32.ofNat i ∧ R i a b c, ⟨N - s0, s0, hs, rfl, hx, h0⟩, ?_⟩
  rintro n a b c x ⟨i, hi, rfl, rfl, hr⟩
  exact step i hi a b c hr _ (fun hl a' b' c' h' => ⟨N - (i + 1), by omega, i + 1, by omega, rfl, rfl, h'⟩)
theorem sw1 (v : Int32) : ((v = 0) = True ∧ (v = 1) = False) ∨ ((v = 0) = False ∧ (v = 1) = True) ∨ ((v = 0) = False ∧ (v = 1) = False) := by
  by_cases h0 : v = 0
  · subst h0
    exact Or.inl (by decide)
  by_cases h1 : v = 1
  · subst h1
    exact Or.inr (Or.inl (by decide))
  exact Or.inr (Or.inr (⟨eq_false h0, eq_false h1⟩))
theorem sw2 (v : Int32) : ((v = 0) = True ∧ (v = 1) = False ∧ (v = 2) = False) ∨ ((v = 0) = False ∧ (v = 1) = True ∧ (v = 2) = False) ∨ ((v = 0) = False ∧ (v = 1) = False ∧ (v = 2) = True) ∨ ((v = 0) = False ∧ (v = 1) = False ∧ (v = 2) = False) := by
  by_cases h0 : v = 0
  · subst h0
    exact Or.inl (by decide)
  by_cases h1 : v = 1
  · subst h1
    exact Or.inr (Or.inl (by decide))
  by_cases h2 : v = 2
  · subst h2
    exact Or.inr (Or.inr (Or.inl (by decide)))
  exact Or.inr (Or.inr (Or.inr (⟨eq_false h0, eq_false h1, eq_false h2⟩)))
theorem sw3 (v : Int32) : ((v = 0) = True ∧ (v = 1) = False ∧ (v = 2) = False ∧ (v = 3) = False) ∨ ((v = 0) = False ∧ (v = 1) = True ∧ (v = 2) = False ∧ (v = 3) = False) ∨ ((v = 0) = False ∧ (v = 1) = False ∧ (v = 2) = True ∧ (v = 3) = False) ∨ ((v = 0) = False ∧ (v = 1) = False ∧ (v = 2) = False ∧ (v = 3) = True) ∨ ((v = 0) = False ∧ (v = 1) = False ∧ (v = 2) = False ∧ (v = 3) = False) := by
  by_cases h0 : v = 0
  · subst h0
    exact Or.inl (by decide)
  by_cases h1 : v = 1
  · subst h1
    exact Or.inr (Or.inl (by decide))
  by_cases h2 : v = 2
  · subst h2
    exact Or.inr (Or.inr (Or.inl (by decide)))
  by_cases h3 : v = 3
  · subst h3
    exact Or.inr (Or.inr (Or.inr (Or.inl (by decide))))
  exact Or.inr (Or.inr (Or.inr (Or.inr (⟨eq_false h0, eq_false h1, eq_false h2, eq_false h3⟩))))
theorem sw4 (v : Int32) : ((v = 0) = True ∧ (v = 1) = False ∧ (v = 2) = False ∧ (v = 3) = False ∧ (v = 4) = False) ∨ ((v = 0) = False ∧ (v = 1) = True ∧ (v = 2) = False ∧ (v = 3) = False ∧ (v = 4) = False) ∨ ((v = 0) = False ∧ (v = 1) = False ∧ (v = 2) = True ∧ (v = 3) = False ∧ (v = 4) = False) ∨ ((v = 0) = False ∧ (v = 1) = False ∧ (v = 2) = False ∧ (v = 3) = True ∧ (v = 4) = False) ∨ ((v = 0) = False ∧ (v = 1) = False ∧ (v = 2) = False ∧ (v = 3) = False ∧ (v = 4) = True) ∨ ((v = 0) = False ∧ (v = 1) = False ∧ (v = 2) = False ∧ (v = 3) = False ∧ (v = 4) = False) := by
  by_cases h0 : v = 0
  · subst h0
    exact Or.inl (by decide)
  by_cases h1 : v = 1
  · subst h1
    exact Or.inr (Or.inl (by decide))
  by_cases h2 : v = 2
  · subst h2
    exact Or.inr (Or.inr (Or.inl (by decide)))
  by_cases h3 : v = 3
  · subst h3
    exact Or.inr (Or.inr (Or.inr (Or.inl (by decide))))
  by_cases h4 : v = 4
  · subst h4
    exact Or.inr (Or.inr (Or.inr (Or.inr (Or.inl (by decide)))))
  exact Or.inr (Or.inr (Or.inr (Or.inr (Or.inr (⟨eq_false h0, eq_false h1, eq_false h2, eq_false h3, eq_false h4⟩)))))
theorem sw5 (v : Int32) : ((v = 0) = True ∧ (v = 1) = False ∧ (v = 2) = False ∧ (v = 3) = False ∧ (v = 4) = False ∧ (v = 5) = False) ∨ ((v = 0) = False ∧ (v = 1) = True ∧ (v = 2) = False ∧ (v = 3) = False ∧ (v = 4) = False ∧ (v = 5) = False) ∨ ((v = 0) = False ∧ (v = 1) = False ∧ (v = 2) = True ∧ (v = 3) = False ∧ (v = 4) = False ∧ (v = 5) = False) ∨ ((v = 0) = False ∧ (v = 1) = False ∧ (v = 2) = False ∧ (v = 3) = True ∧ (v = 4) = False ∧ (v = 5) = False) ∨ ((v = 0) = False ∧ (v = 1) = False ∧ (v = 2) = False ∧ (v = 3) = False ∧ (v = 4) = True ∧ (v = 5) = False) ∨ ((v = 0) = False ∧ (v = 1) = False ∧ (v = 2) = False ∧ (v = 3) = False ∧ (v = 4) = False ∧ (v = 5) = True) ∨ ((v = 0) = False ∧ (v = 1) = False ∧ (v = 2) = False ∧ (v = 3) = False ∧ (v = 4) = False ∧ (v = 5) = False) := by
  by_cases h0 : v = 0
  · subst h0
    exact Or.inl (by decide)
  by_cases h1 : v = 1
  · subst h1
    exact Or.inr (Or.inl (by decide))
  by_cases h2 : v = 2
  · subst h2
    exact Or.inr (Or.inr (Or.inl (by decide)))
  by_cases h3 : v = 3
  · subst h3
    exact Or.inr (Or.inr (Or.inr (Or.inl (by decide))))
  by_cases h4 : v = 4
  · subst h4
    exact Or.inr (Or.inr (Or.inr (Or.inr (Or.inl (by decide)))))
  by_cases h5 : v = 5
  · subst h5
    exact Or.inr (Or.inr (Or.inr (Or.inr (Or.inr (Or.inl (by decide))))))
  exact Or.inr (Or.inr (Or.inr (Or.inr (Or.inr (Or.inr (⟨eq_false h0, eq_false h1, eq_false h2, eq_false h3, eq_false h4, eq_false h5⟩))))))
theorem sw6 (v : Int32) : ((v = 0) = True ∧ (v = 1) = False ∧ (v = 2) = False ∧ (v = 3) = False ∧ (v = 4) = False ∧ (v = 5) = False ∧ (v = 6) = False) ∨ ((v = 0) = False ∧ (v = 1) = True ∧ (v = 2) = False ∧ (v = 3) = False ∧ (v = 4) = False ∧ (v = 5) = False ∧ (v = 6) = False) ∨ ((v = 0) = False ∧ (v = 1) = False ∧ (v = 2) = True ∧ (v = 3) = False ∧ (v = 4) = False ∧ (v = 5) = False ∧ (v = 6) = False) ∨ ((v = 0) = False ∧ (v = 1) = False ∧ (v = 2) = False ∧ (v = 3) = True ∧ (v = 4) = False ∧ (v = 5) = False ∧ (v = 6) = False) ∨ ((v = 0) = False ∧ (v = 1) = False ∧ (v = 2) = False ∧ (v = 3) = False ∧ (v = 4) = True ∧ (v = 5) = False ∧ (v = 6) = False) ∨ ((v = 0) = False ∧ (v = 1) = False ∧ (v = 2) = False ∧ (v = 3) = False ∧ (v = 4) = False ∧ (v = 5) = True ∧ (v = 6) = False) ∨ ((v = 0) = False ∧ (v = 1) = False ∧ (v = 2) = False ∧ (v = 3) = False ∧ (v = 4) = False ∧ (v = 5) = False ∧ (v = 6) = True) ∨ ((v = 0) = False ∧ (v = 1) = False ∧ (v = 2) = False ∧ (v = 3) = False ∧ (v = 4) = False ∧ (v = 5) = False ∧ (v = 6) = False) := by
  by_cases h0 : v = 0
  · subst h0
    exact Or.inl (by decide)
  by_cases h1 : v = 1
  · subst h1
    exact Or.inr (Or.inl (by decide))
  by_cases h2 : v = 2
  · subst h2
    exact Or.inr (Or.inr (Or.inl (by decide)))
  by_cases h3 : v = 3
  · subst h3
    exact Or.inr (Or.inr (Or.inr (Or.inl (by decide))))
  by_cases h4 : v = 4
  · subst h4
    exact Or.inr (Or.inr (Or.inr (Or.inr (Or.inl (by decide)))))
  by_cases h5 : v = 5
  · subst h5
    exact Or.inr (Or.inr (Or.inr (Or.inr (Or.inr (Or.inl (by decide))))))
  by_cases h6 : v = 6
  · subst h6
    exact Or.inr (Or.inr (Or.inr (Or.inr (Or.inr (Or.inr (Or.inl (by decide)))))))
  exact Or.inr (Or.inr (Or.inr (Or.inr (Or.inr (Or.inr (Or.inr (⟨eq_false h0, eq_false h1, eq_false h2, eq_false h3, eq_false h4, eq_false h5, eq_false h6⟩)))))))
theorem sw8 (v : Int32) : ((v = 0) = True ∧ (v = 1) = False ∧ (v = 2) = False ∧ (v = 3) = False ∧ (v = 4) = False ∧ (v = 5) = False ∧ (v = 6) = False ∧ (v = 7) = False ∧ (v = 8) = False) ∨ ((v = 0) = False ∧ (v = 1) = True ∧ (v = 2) = False ∧ (v = 3) = False ∧ (v = 4) = False ∧ (v = 5) = False ∧ (v = 6) = False ∧ (v = 7) = False ∧ (v = 8) = False) ∨ ((v = 0) = False ∧ (v = 1) = False ∧ (v = 2) = True ∧ (v = 3) = False ∧ (v = 4) = False ∧ (v = 5) = False ∧ (v = 6) = False ∧ (v = 7) = False ∧ (v = 8) = False) ∨ ((v = 0) = False ∧ (v = 1) = False ∧ (v = 2) = False ∧ (v = 3) = True ∧ (v = 4) = False ∧ (v = 5) = False ∧ (v = 6) = False ∧ (v = 7) = False ∧ (v = 8) = False) ∨ ((v = 0) = False ∧ (v = 1) = False ∧ (v = 2) = False ∧ (v = 3) = False ∧ (v = 4) = True ∧ (v = 5) = False ∧ (v = 6) = False ∧ (v = 7) = False ∧ (v = 8) = False) ∨ ((v = 0) = False ∧ (v = 1) = False ∧ (v = 2) = False ∧ (v = 3) = False ∧ (v = 4) = False ∧ (v = 5) = True ∧ (v = 6) = False ∧ (v = 7) = False ∧ (v = 8) = False) ∨ ((v = 0) = False ∧ (v = 1) = False ∧ (v = 2) = False ∧ (v = 3) = False ∧ (v = 4) = False ∧ (v = 5) = False ∧ (v = 6) = True ∧ (v = 7) = False ∧ (v = 8) = False) ∨ ((v = 0) = False ∧ (v = 1) = False ∧ (v = 2) = False ∧ (v = 3) = False ∧ (v = 4) = False ∧ (v = 5) = False ∧ (v = 6) = False ∧ (v = 7) = True ∧ (v = 8) = False) ∨ ((v = 0) = False ∧ (v = 1) = False ∧ (v = 2) = False ∧ (v = 3) = False ∧ (v = 4) = False ∧ (v = 5) = False ∧ (v = 6) = False ∧ (v = 7) = False ∧ (v = 8) = True) ∨ ((v = 0) = False ∧ (v = 1) = False ∧ (v = 2) = False ∧ (v = 3) = False ∧ (v = 4) = False ∧ (v = 5) = False ∧ (v = 6) = False ∧ (v = 7) = False ∧ (v = 8) = False) := by
  by_cases h0 : v = 0
  · subst h0
    exact Or.inl (by decide)
  by_cases h1 : v = 1
  · subst h1
    exact Or.inr (Or.inl (by decide))
  by_cases h2 : v = 2
  · subst h2
    exact Or.inr (Or.inr (Or.inl (by decide)))
  by_cases h3 : v = 3
  · subst h3
    exact Or.inr (Or.inr (Or.inr (Or.inl (by decide))))
  by_cases h4 : v = 4
  · subst h4
    exact Or.inr (Or.inr (Or.inr (Or.inr (Or.inl (by decide)))))
  by_cases h5 : v = 5
  · subst h5
    exact Or.inr (Or.inr (Or.inr (Or.inr (Or.inr (Or.inl (by decide))))))
  by_cases h6 : v = 6
  · subst h6
    exact Or.inr (Or.inr (Or.inr (Or.inr (Or.inr (Or.inr (Or.inl (by decide)))))))
  by_cases h7 : v = 7
  · subst h7
    exact Or.inr (Or.inr (Or.inr (Or.inr (Or.inr (Or.inr (Or.inr (Or.inl (by decide))))))))
  by_cases h8 : v = 8
  · subst h8
    exact Or.inr (Or.inr (Or.inr (Or.inr (Or.inr (Or.inr (Or.inr (Or.inr (Or.inl (by decide)))))))))
  exact Or.inr (Or.inr (Or.inr (Or.inr (Or.inr (Or.inr (Or.inr (Or.inr (Or.inr (⟨eq_false h0, eq_false h1, eq_false h2, eq_false h3, eq_false h4, eq_false h5, eq_false h6, eq_false h7, eq_false h8⟩)))))))))
theorem sw12 (v : Int32) : ((v = 0) = True ∧ (v = 1) = False ∧ (v = 2) = False ∧ (v = 3) = False ∧ (v = 4) = False ∧ (v = 5) = False ∧ (v = 6) = False ∧ (v = 7) = False ∧ (v = 8) = False ∧ (v = 9) = False ∧ (v = 10) = False ∧ (v = 11) = False ∧ (v = 12) = False) ∨ ((v = 0) = False ∧ (v = 1) = True ∧ (v = 2) = False ∧ (v = 3) = False ∧ (v = 4) = False ∧ (v = 5) = False ∧ (v = 6) = False ∧ (v = 7) = False ∧ (v = 8) = False ∧ (v = 9) = False ∧ (v = 10) = False ∧ (v = 11) = False ∧ (v = 12) = False) ∨ ((v = 0) = False ∧ (v = 1) = False ∧ (v = 2) = True ∧ (v = 3) = False ∧ (v = 4) = False ∧ (v = 5) = False ∧ (v = 6) = False ∧ (v = 7) = False ∧ (v = 8) = False ∧ (v = 9) = False ∧ (v = 10) = False ∧ (v = 11) = False ∧ (v = 12) = False) ∨ ((v = 0) = False ∧ (v = 1) = False ∧ (v = 2) = False ∧ (v = 3) = True ∧ (v = 4) = False ∧ (v = 5) = False ∧ (v = 6) = False ∧ (v = 7) = False ∧ (v = 8) = False ∧ (v = 9) = False ∧ (v = 10) = False ∧ (v = 11) = False ∧ (v = 12) = False) ∨ ((v = 0) = False ∧ (v = 1) = False ∧ (v = 2) = False ∧ (v = 3) = False ∧ (v = 4) = True ∧ (v = 5) = False ∧ (v = 6) = False ∧ (v = 7) = False ∧ (v = 8) = False ∧ (v = 9) = False ∧ (v = 10) = False ∧ (v = 11) = False ∧ (v = 12) = False) ∨ ((v = 0) = False ∧ (v = 1) = False ∧ (v = 2) = False ∧ (v = 3) = False ∧ (v = 4) = False ∧ (v = 5) = True ∧ (v = 6) = False ∧ (v = 7) = False ∧ (v = 8) = False ∧ (v = 9) = False ∧ (v = 10) = False ∧ (v = 11) = False ∧ (v = 12) = False) ∨ ((v = 0) = False ∧ (v = 1) = False ∧ (v = 2) = False ∧ (v = 3) = False ∧ (v = 4) = False ∧ (v = 5) = False ∧ (v = 6) = True ∧ (v = 7) = False ∧ (v = 8) = False ∧ (v = 9) = False ∧ (v = 10) = False ∧ (v = 11) = False ∧ (v = 12) = False) ∨ ((v = 0) = False ∧ (v = 1) = False ∧ (v = 2) = False ∧ (v = 3) = False ∧ (v = 4) = False ∧ (v = 5) = False ∧ (v = 6) = False ∧ (v = 7) = True ∧ (v = 8) = False ∧ (v = 9) = False ∧ (v = 10) = False ∧ (v = 11) = False ∧ (v = 12) = False) ∨ ((v = 0) = False ∧ (v = 1) = False ∧ (v = 2) = False ∧ (v = 3) = False ∧ (v = 4) = False ∧ (v = 5) = False ∧ (v = 6) = False ∧ (v = 7) = False ∧ (v = 8) = True ∧ (v = 9) = False ∧ (v = 10) = False ∧ (v = 11) = False ∧ (v = 12) = False) ∨ ((v = 0) = False ∧ (v = 1) = False ∧ (v = 2) = False ∧ (v = 3) = False ∧ (v = 4) = False ∧ (v = 5) = False ∧ (v = 6) = False ∧ (v = 7) = False ∧ (v = 8) = False ∧ (v = 9) = True ∧ (v = 10) = False ∧ (v = 11) = False ∧ (v = 12) = False) ∨ ((v = 0) = False ∧ (v = 1) = False ∧ (v = 2) = False ∧ (v = 3) = False ∧ (v = 4) = False ∧ (v = 5) = False ∧ (v = 6) = False ∧ (v = 7) = False ∧ (v = 8) = False ∧ (v = 9) = False ∧ (v = 10) = True ∧ (v = 11) = False ∧ (v = 12) = False) ∨ ((v = 0) = False ∧ (v = 1) = False ∧ (v = 2) = False ∧ (v = 3) = False ∧ (v = 4) = False ∧ (v = 5) = False ∧ (v = 6) = False ∧ (v = 7) = False ∧ (v = 8) = False ∧ (v = 9) = False ∧ (v = 10) = False ∧ (v = 11) = True ∧ (v = 12) = False) ∨ ((v = 0) = False ∧ (v = 1) = False ∧ (v = 2) = False ∧ (v = 3) = False ∧ (v = 4) = False ∧ (v = 5) = False ∧ (v = 6) = False ∧ (v = 7) = False ∧ (v = 8) = False ∧ (v = 9) = False ∧ (v = 10) = False ∧ (v = 11) = False ∧ (v = 12) = True) ∨ ((v = 0) = False ∧ (v = 1) = False ∧ (v = 2) = False ∧ (v = 3) = False ∧ (v = 4) = False ∧ (v = 5) = False ∧ (v = 6) = False ∧ (v = 7) = False ∧ (v = 8) = False ∧ (v = 9) = False ∧ (v = 10) = False ∧ (v = 11) = False ∧ (v = 12) = False) := by
  by_cases h0 : v = 0
  · subst h0
    exact Or.inl (by decide)
  by_cases h1 : v = 1
  · subst h1
    exact Or.inr (Or.inl (by decide))
  by_cases h2 : v = 2
  · subst h2
    exact Or.inr (Or.inr (Or.inl (by decide)))
  by_cases h3 : v = 3
  · subst h3
    exact Or.inr (Or.inr (Or.inr (Or.inl (by decide))))
  by_cases h4 : v = 4
  · subst h4
    exact Or.inr (Or.inr (Or.inr (Or.inr (Or.inl (by decide)))))
  by_cases h5 : v = 5
  · subst h5
    exact Or.inr (Or.inr (Or.inr (Or.inr (Or.inr (Or.inl (by decide))))))
  by_cases h6 : v = 6
  · subst h6
    exact Or.inr (Or.inr (Or.inr (Or.inr (Or.inr (Or.inr (Or.inl (by decide)))))))
  by_cases h7 : v = 7
  · subst h7
    exact Or.inr (Or.inr (Or.inr (Or.inr (Or.inr (Or.inr (Or.inr (Or.inl (by decide))))))))
  by_cases h8 : v = 8
  · subst h8
    exact Or.inr (Or.inr (Or.inr (Or.inr (Or.inr (Or.inr (Or.inr (Or.inr (Or.inl (by decide)))))))))
  by_cases h9 : v = 9
  · subst h9
    exact Or.inr (Or.inr (Or.inr (Or.inr (Or.inr (Or.inr (Or.inr (Or.inr (Or.inr (Or.inl (by decide))))))))))
  by_cases h10 : v = 10
  · subst h10
    exact Or.inr (Or.inr (Or.inr (Or.inr (Or.inr (Or.inr (Or.inr (Or.inr (Or.inr (Or.inr (Or.inl (by decide)))))))))))
  by_cases h11 : v = 11
  · subst h11
    exact Or.inr (Or.inr (Or.inr (Or.inr (Or.inr (Or.inr (Or.inr (Or.inr (Or.inr (Or.inr (Or.inr (Or.inl (by decide))))))))))))
  by_cases h12 : v = 12
  · subst h12
    exact Or.inr (Or.inr (Or.inr (Or.inr (Or.inr (Or.inr (Or.inr (Or.inr (Or.inr (Or.inr (Or.inr (Or.inr (Or.inl (by decide)))))))))))))
  exact Or.inr (Or.inr (Or.inr (Or.inr (Or.inr (Or.inr (Or.inr (Or.inr (Or.inr (Or.inr (Or.inr (Or.inr (Or.inr (⟨eq_false h0, eq_false h1, eq_false h2, eq_false h3, eq_false h4, eq_false h5, eq_false h6, eq_false h7, eq_false h8, eq_false h9, eq_false h10, eq_false h11, eq_false h12⟩)))))))))))))
theorem sw13 (v : Int32) : ((v = 0) = True ∧ (v = 1) = False ∧ (v = 2) = False ∧ (v = 3) = False ∧ (v = 4) = False ∧ (v = 5) = False ∧ (v = 6) = False ∧ (v = 7) = False ∧ (v = 8) = False ∧ (v = 9) = False ∧ (v = 10) = False ∧ (v = 11) = False ∧ (v = 12) = False ∧ (v = 13) = False) ∨ ((v = 0) = False ∧ (v = 1) = True ∧ (v = 2) = False ∧ (v = 3) = False ∧ (v = 4) = False ∧ (v = 5) = False ∧ (v = 6) = False ∧ (v = 7) = False ∧ (v = 8) = False ∧ (v = 9) = False ∧ (v = 10) = False ∧ (v = 11) = False ∧ (v = 12) = False ∧ (v = 13) = False) ∨ ((v = 0) = False ∧ (v = 1) = False ∧ (v = 2) = True ∧ (v = 3) = False ∧ (v = 4) = False ∧ (v = 5) = False ∧ (v = 6) = False ∧ (v = 7) = False ∧ (v = 8) = False ∧ (v = 9) = False ∧ (v = 10) = False ∧ (v = 11) = False ∧ (v = 12) = False ∧ (v = 13) = False) ∨ ((v = 0) = False ∧ (v = 1) = False ∧ (v = 2) = False ∧ (v = 3) = True ∧ (v = 4) = False ∧ (v = 5) = False ∧ (v = 6) = False ∧ (v = 7) = False ∧ (v = 8) = False ∧ (v = 9) = False ∧ (v = 10) = False ∧ (v = 11) = False ∧ (v = 12) = False ∧ (v = 13) = False) ∨ ((v = 0) = False ∧ (v = 1) = False ∧ (v = 2) = False ∧ (v = 3) = False ∧ (v = 4) = True ∧ (v = 5) = False ∧ (v = 6) = False ∧ (v = 7) = False ∧ (v = 8) = False ∧ (v = 9) = False ∧ (v = 10) = False ∧ (v = 11) = False ∧ (v = 12) = False ∧ (v = 13) = False) ∨ ((v = 0) = False ∧ (v = 1) = False ∧ (v = 2) = False ∧ (v = 3) = False ∧ (v = 4) = False ∧ (v = 5) = True ∧ (v = 6) = False ∧ (v = 7) = False ∧ (v = 8) = False ∧ (v = 9) = False ∧ (v = 10) = False ∧ (v = 11) = False ∧ (v = 12) = False ∧ (v = 13) = False) ∨ ((v = 0) = False ∧ (v = 1) = False ∧ (v = 2) = False ∧ (v = 3) = False ∧ (v = 4) = False ∧ (v = 5) = False ∧ (v = 6) = True ∧ (v = 7) = False ∧ (v = 8) = False ∧ (v = 9) = False ∧ (v = 10) = False ∧ (v = 11) = False ∧ (v = 12) = False ∧ (v = 13) = False) ∨ ((v = 0) = False ∧ (v = 1) = False ∧ (v = 2) = False ∧ (v = 3) = False ∧ (v = 4) = False ∧ (v = 5) = False ∧ (v = 6) = False ∧ (v = 7) = True ∧ (v = 8) = False ∧ (v = 9) = False ∧ (v = 10) = False ∧ (v = 11) = False ∧ (v = 12) = False ∧ (v = 13) = False) ∨ ((v = 0) = False ∧ (v = 1) = False ∧ (v = 2) = False ∧ (v = 3) = False ∧ (v = 4) = False ∧ (v = 5) = False ∧ (v = 6) = False ∧ (v = 7) = False ∧ (v = 8) = True ∧ (v = 9) = False ∧ (v = 10) = False ∧ (v = 11) = False ∧ (v = 12) = False ∧ (v = 13) = False) ∨ ((v = 0) = False ∧ (v = 1) = False ∧ (v = 2) = False ∧ (v = 3) = False ∧ (v = 4) = False ∧ (v = 5) = False ∧ (v = 6) = False ∧ (v = 7) = False ∧ (v = 8) = False ∧ (v = 9) = True ∧ (v = 10) = False ∧ (v = 11) = False ∧ (v = 12) = False ∧ (v = 13) = False) ∨ ((v = 0) = False ∧ (v = 1) = False ∧ (v = 2) = False ∧ (v = 3) = False ∧ (v = 4) = False ∧ (v = 5) = False ∧ (v = 6) = False ∧ (v = 7) = False ∧ (v = 8) = False ∧ (v = 9) = False ∧ (v = 10) = True ∧ (v = 11) = False ∧ (v = 12) = False ∧ (v = 13) = False) ∨ ((v = 0) = False ∧ (v = 1) = False ∧ (v = 2) = False ∧ (v = 3) = False ∧ (v = 4) = False ∧ (v = 5) = False ∧ (v = 6) = False ∧ (v = 7) = False ∧ (v = 8) = False ∧ (v = 9) = False ∧ (v = 10) = False ∧ (v = 11) = True ∧ (v = 12) = False ∧ (v = 13) = False) ∨ ((v = 0) = False ∧ (v = 1) = False ∧ (v = 2) = False ∧ (v = 3) = False ∧ (v = 4) = False ∧ (v = 5) = False ∧ (v = 6) = False ∧ (v = 7) = False ∧ (v = 8) = False ∧ (v = 9) = False ∧ (v = 10) = False ∧ (v = 11) = False ∧ (v = 12) = True ∧ (v = 13) = False) ∨ ((v = 0) = False ∧ (v = 1) = False ∧ (v = 2) = False ∧ (v = 3) = False ∧ (v = 4) = False ∧ (v = 5) = False ∧ (v = 6) = False ∧ (v = 7) = False ∧ (v = 8) = False ∧ (v = 9) = False ∧ (v = 10) = False ∧ (v = 11) = False ∧ (v = 12) = False ∧ (v = 13) = True) ∨ ((v = 0) = False ∧ (v = 1) = False ∧ (v = 2) = False ∧ (v = 3) = False ∧ (v = 4) = False ∧ (v = 5) = False ∧ (v = 6) = False ∧ (v = 7) = False ∧ (v = 8) = False ∧ (v = 9) = False ∧ (v = 10) = False ∧ (v = 11) = False ∧ (v = 12) = False ∧ (v = 13) = False) := by
  by_cases h0 : v = 0
  · subst h0
    exact Or.inl (by decide)
  by_cases h1 : v = 1
  · subst h1
    exact Or.inr (Or.inl (by decide))
  by_cases h2 : v = 2
  · subst h2
    exact Or.inr (Or.inr (Or.inl (by decide)))
  by_cases h3 : v = 3
  · subst h3
    exact Or.inr (Or.inr (Or.inr (Or.inl (by decide))))
  by_cases h4 : v = 4
  · subst h4
    exact Or.inr (Or.inr (Or.inr (Or.inr (Or.inl (by decide)))))
  by_cases h5 : v = 5
  · subst h5
    exact Or.inr (Or.inr (Or.inr (Or.inr (Or.inr (Or.inl (by decide))))))
  by_cases h6 : v = 6
  · subst h6
    exact Or.inr (Or.inr (Or.inr (Or.inr (Or.inr (Or.inr (Or.inl (by decide)))))))
  by_cases h7 : v = 7
  · subst h7
    exact Or.inr (Or.inr (Or.inr (Or.inr (Or.inr (Or.inr (Or.inr (Or.inl (by decide))))))))
  by_cases h8 : v = 8
  · subst h8
    exact Or.inr (Or.inr (Or.inr (Or.inr (Or.inr (Or.inr (Or.inr (Or.inr (Or.inl (by decide)))))))))
  by_cases h9 : v = 9
  · subst h9
    exact Or.inr (Or.inr (Or.inr (Or.inr (Or.inr (Or.inr (Or.inr (Or.inr (Or.inr (Or.inl (by decide))))))))))
  by_cases h10 : v = 10
  · subst h10
    exact Or.inr (Or.inr (Or.inr (Or.inr (Or.inr (Or.inr (Or.inr (Or.inr (Or.inr (Or.inr (Or.inl (by decide)))))))))))
  by_cases h11 : v = 11
  · subst h11
    exact Or.inr (Or.inr (Or.inr (Or.inr (Or.inr (Or.inr (Or.inr (Or.inr (Or.inr (Or.inr (Or.inr (Or.inl (by decide))))))))))))
  by_cases h12 : v = 12
  · subst h12
    exact Or.inr (Or.inr (Or.inr (Or.inr (Or.inr (Or.inr (Or.inr (Or.inr (Or.inr (Or.inr (Or.inr (Or.inr (Or.inl (by decide)))))))))))))
  by_cases h13 : v = 13
  · subst h13
    exact Or.inr (Or.inr (Or.inr (Or.inr (Or.inr (Or.inr (Or.inr (Or.inr (Or.inr (Or.inr (Or.inr (Or.inr (Or.inr (Or.inl (by decide))))))))))))))
  exact Or.inr (Or.inr (Or.inr (Or.inr (Or.inr (Or.inr (Or.inr (Or.inr (Or.inr (Or.inr (Or.inr (Or.inr (Or.inr (Or.inr (⟨eq_false h0, eq_false h1, eq_false h2, eq_false h3, eq_false h4, eq_false h5, eq_false h6, eq_false h7, eq_false h8, eq_false h9, eq_false h10, eq_false h11, eq_false h12, eq_false h13⟩))))))))))))))
theorem pr_told : Pr_told Inv := by
  intro S S2 hI v1 v2
  have hI0 := hI
  obtain ⟨hk, hM, hS, hU, hA, hW, hB, nC, nR, nT, nK, nL, nM, nP, td, N, lh, hC, hR, hT, hK, hL, hZ, hP, hN⟩ := hI
  unfold P_X10_told P_X11_told
  by_cases hc : isC v1 nC
  · obtain ⟨i, hi, rfl⟩ := hc
    have c := hC.2.2.2.1 i hi
    have hn := hC.2.1
    have h12 : i < 12 := by omega
    have b := (hB i h12).1
    rw [cornerAt_y hS hC hi]
    simp only [isCorner_y hM hC.2.2.1 hn hi]
    unfold bz at b
    rcases sw8 v2 with q | q | q | q | q | q | q | q | q | q <;> rcases b with b | b <;> simp only [q, true_implies, false_implies, not_true_eq_false, not_false_eq_true, forall_eq, and_true, true_and, implies_true] <;>
      simp (disch := first | omega | decide) only [Option.some.injEq, exists_eq_left', exists_eq_left, forall_eq, forall_eq', true_and, and_true, true_implies, implies_true, false_implies, not_true_eq_false, not_false_eq_true, reduceCtorEq, and_self, forall_const, i10, i01, if_true, if_false, and_false, false_and, Nat.not_lt_zero, sK_pI, sN_pI, sR_pI, sL_pI, sK_pL, sN_pL, sR_pL, sI_pL, sK_pR, sN_pR, sI_pR, sL_pR, sI_pI_eq, sI_pI_ne, sL_pL_eq, sL_pL_ne, sR_pR_eq, sR_pR_ne, nn_le, nat32_lt, nn_eq, ln_le, nl_le, ln_lt, nl_lt, ln_eq, nl_eq, n_m1, n_lt0, vp_n, vp_l, lc_n, nat32c, n_s, nI_n, hS.1, hM.o, c, hM.a7, hM.a8, hM.a9, hM.a10, hM.a11, hM.a12, hM.a56, hM.a57, hM.a60, h12, b, one_e, hI0]
  · simp (disch := first | omega | decide) only [Option.some.injEq, exists_eq_left', exists_eq_left, forall_eq, forall_eq', true_and, and_true, true_implies, implies_true, false_implies, not_true_eq_false, not_false_eq_true, reduceCtorEq, and_self, forall_const, i10, i01, if_true, if_false, and_false, false_and, Nat.not_lt_zero, sK_pI, sN_pI, sR_pI, sL_pI, sK_pL, sN_pL, sR_pL, sI_pL, sK_pR, sN_pR, sI_pR, sL_pR, sI_pI_eq, sI_pI_ne, sL_pL_eq, sL_pL_ne, sR_pR_eq, sR_pR_ne, nn_le, nat32_lt, nn_eq, ln_le, nl_le, ln_lt, nl_lt, ln_eq, nl_eq, n_m1, n_lt0, vp_n, vp_l, lc_n, nat32c, n_s, nI_n, hS.1, hM.o, cornerAt_n hS hC hc, isCorner_n hM hC.2.2.1 hC.2.1 hc, hI0]
theorem lastY_s {p : Int32} {y : Nat} : lastY p (y + 1) = if (p >>> (Int32.ofNat y &&& 31)) &&& 1 = 1 then Int32.ofNat y else lastY p y := rfl
section RE
variable {S S2 : Sg} {nC nR nT nK nL nM nP td N : Nat} {lh : Nat → Nat}
theorem m_lastY {i : Nat} {Q : Int32 → Prop} (hM : MW S2) (hi : i < 30) (k : Q (lastY (sI S2 1130 i) 10)) : P_X11_roofOf_L96 1000 (Int32.ofNat i) (-1) 0 S2 Q := by
  unfold P_X11_roofOf_L96
  refine lpA (N := 10) (s0 := 0) (R := fun j a => a = lastY (sI S2 1130 i) j) (B := fun a x K => P_X11_roofOf_L96b 1000 (Int32.ofNat i) a x S2 Q K) rfl (by omega) rfl (fun j hj a ha K hK => ?_)
  subst ha
  unfold P_X11_roofOf_L96b P_X11_roofOf_B121
  simp (disch := first | omega | decide) only [Option.some.injEq, exists_eq_left', exists_eq_left, forall_eq, forall_eq', true_and, and_true, true_implies, implies_true, false_implies, not_true_eq_false, not_false_eq_true, reduceCtorEq, and_self, forall_const, i10, i01, if_true, if_false, and_false, false_and, Nat.not_lt_zero, sK_pI, sN_pI, sR_pI, sL_pI, sK_pL, sN_pL, sR_pL, sI_pL, sK_pR, sN_pR, sI_pR, sL_pR, sI_pI_eq, sI_pI_ne, sL_pL_eq, sL_pL_ne, sR_pR_eq, sR_pR_ne, nn_le, nat32_lt, nn_eq, ln_le, nl_le, ln_lt, nl_lt, ln_eq, nl_eq, n_m1, n_lt0, vp_n, vp_l, lc_n, nat32c, n_s, nI_n, hM.o, hM.a30, hi]
  refine ⟨fun c => ?_, fun c => ⟨fun d => hK (by omega) _ ?_, fun d => hK (by omega) _ ?_⟩⟩
  · have e : j = 10 := by omega
    subst e; exact k
  · show _ = lastY _ (j + 1); rw [lastY_s, if_pos d]
  · show _ = lastY _ (j + 1); rw [lastY_s, if_neg d]
theorem x_inBowls {Q : Int64 → Prop} (hS : GS S) (hC : GC S S2 nC) (hB : GB S S2) (k : Q (smL (fun i => (sI S2 1121 i).toInt64) nC)) : P_X10_inBowls 1000 S Q := by
  have hn := hC.2.1
  unfold P_X10_inBowls P_X10_inBowls_L4
  refine lpA (N := nC) (s0 := 0) (R := fun j a => a = smL (fun i => (sI S2 1121 i).toInt64) j) (B := fun a x K => P_X10_inBowls_L4b 1000 a x S Q K) rfl (by omega) rfl (fun j hj a ha K hK => ?_)
  subst ha
  unfold P_X10_inBowls_L4b P_X10_inBowls_B47
  simp (disch := first | omega | decide) only [Option.some.injEq, exists_eq_left', exists_eq_left, forall_eq, forall_eq', true_and, and_true, true_implies, implies_true, false_implies, not_true_eq_false, not_false_eq_true, reduceCtorEq, and_self, forall_const, i10, i01, if_true, if_false, and_false, false_and, Nat.not_lt_zero, sK_pI, sN_pI, sR_pI, sL_pI, sK_pL, sN_pL, sR_pL, sI_pL, sK_pR, sN_pR, sI_pR, sL_pR, sI_pI_eq, sI_pI_ne, sL_pL_eq, sL_pL_ne, sR_pR_eq, sR_pR_ne, nn_le, nat32_lt, nn_eq, ln_le, nl_le, ln_lt, nl_lt, ln_eq, nl_eq, n_m1, n_lt0, vp_n, vp_l, lc_n, nat32c, n_s, nI_n, hS.1, hC.1.1, size_e hC.1]
  refine ⟨fun c => ?_, fun c => ?_⟩
  · have e : j = nC := by omega
    subst e; exact k
  · have hlt : j < nC := by omega
    have c0 := hC.2.2.2.1 j hlt
    have b0 := (hB j (by omega)).2.2
    by_cases hb : sI S2 1112 j = 0
    · simp (disch := first | omega | decide) only [Option.some.injEq, exists_eq_left', exists_eq_left, forall_eq, forall_eq', true_and, and_true, true_implies, implies_true, false_implies, not_true_eq_false, not_false_eq_true, reduceCtorEq, and_self, forall_const, i10, i01, if_true, if_false, and_false, false_and, Nat.not_lt_zero, sK_pI, sN_pI, sR_pI, sL_pI, sK_pL, sN_pL, sR_pL, sI_pL, sK_pR, sN_pR, sI_pR, sL_pR, sI_pI_eq, sI_pI_ne, sL_pL_eq, sL_pL_ne, sR_pR_eq, sR_pR_ne, nn_le, nat32_lt, nn_eq, ln_le, nl_le, ln_lt, nl_lt, ln_eq, nl_eq, n_m1, n_lt0, vp_n, vp_l, lc_n, nat32c, n_s, nI_n, get_e hC.1 hlt, c0, hb]
      refine hK hlt _ ?_
      rw [smL_s, (b0.1 hb).2.2.2.2.2.1]; rfl
    · simp (disch := first | omega | decide) only [Option.some.injEq, exists_eq_left', exists_eq_left, forall_eq, forall_eq', true_and, and_true, true_implies, implies_true, false_implies, not_true_eq_false, not_false_eq_true, reduceCtorEq, and_self, forall_const, i10, i01, if_true, if_false, and_false, false_and, Nat.not_lt_zero, sK_pI, sN_pI, sR_pI, sL_pI, sK_pL, sN_pL, sR_pL, sI_pL, sK_pR, sN_pR, sI_pR, sL_pR, sI_pI_eq, sI_pI_ne, sL_pL_eq, sL_pL_ne, sR_pR_eq, sR_pR_ne, nn_le, nat32_lt, nn_eq, ln_le, nl_le, ln_lt, nl_lt, ln_eq, nl_eq, n_m1, n_lt0, vp_n, vp_l, lc_n, nat32c, n_s, nI_n, get_e hC.1 hlt, c0, hb, (b0.2 hb).1]
      exact hK hlt _ rfl
theorem x_inBarrels {Q : Int64 → Prop} (hS : GS S) (hR : GR S S2 nC nR td) (k : Q (smL (fun i => (sI S2 1129 i).toInt64) nR)) : P_X10_inBarrels 1000 S Q := by
  have hn := hR.2.1
  unfold P_X10_inBarrels P_X10_inBarrels_L4
  refine lpA (N := nR) (s0 := 0) (R := fun j a => a = smL (fun i => (sI S2 1129 i).toInt64) j) (B := fun a x K => P_X10_inBarrels_L4b 1000 a x S Q K) rfl (by omega) rfl (fun j hj a ha K hK => ?_)
  subst ha
  unfold P_X10_inBarrels_L4b
  simp (disch := first | omega | decide) only [Option.some.injEq, exists_eq_left', exists_eq_left, forall_eq, forall_eq', true_and, and_true, true_implies, implies_true, false_implies, not_true_eq_false, not_false_eq_true, reduceCtorEq, and_self, forall_const, i10, i01, if_true, if_false, and_false, false_and, Nat.not_lt_zero, sK_pI, sN_pI, sR_pI, sL_pI, sK_pL, sN_pL, sR_pL, sI_pL, sK_pR, sN_pR, sI_pR, sL_pR, sI_pI_eq, sI_pI_ne, sL_pL_eq, sL_pL_ne, sR_pR_eq, sR_pR_ne, nn_le, nat32_lt, nn_eq, ln_le, nl_le, ln_lt, nl_lt, ln_eq, nl_eq, n_m1, n_lt0, vp_n, vp_l, lc_n, nat32c, n_s, nI_n, hS.1, hR.1.1, size_e hR.1]
  refine ⟨fun c => ?_, fun c => ?_⟩
  · have e : j = nR := by omega
    subst e; exact k
  · have hlt : j < nR := by omega
    have c0 := hR.2.2.2.1 j hlt
    simp (disch := first | omega | decide) only [Option.some.injEq, exists_eq_left', exists_eq_left, forall_eq, forall_eq', true_and, and_true, true_implies, implies_true, false_implies, not_true_eq_false, not_false_eq_true, reduceCtorEq, and_self, forall_const, i10, i01, if_true, if_false, and_false, false_and, Nat.not_lt_zero, sK_pI, sN_pI, sR_pI, sL_pI, sK_pL, sN_pL, sR_pL, sI_pL, sK_pR, sN_pR, sI_pR, sL_pR, sI_pI_eq, sI_pI_ne, sL_pL_eq, sL_pL_ne, sR_pR_eq, sR_pR_ne, nn_le, nat32_lt, nn_eq, ln_le, nl_le, ln_lt, nl_lt, ln_eq, nl_eq, n_m1, n_lt0, vp_n, vp_l, lc_n, nat32c, n_s, nI_n, get_e hR.1 hlt, c0]
    exact hK hlt _ rfl
theorem m_bowls {Q : Int64 → Prop} (hM : MW S2) (hc : sI S2 1000 1 = Int32.ofNat nC) (hn : nC ≤ 12) (k : Q (smL (fun i => (sI S2 1121 i).toInt64) nC)) : P_X11_sum_L67 1000 0 0 S2 Q := by
  unfold P_X11_sum_L67
  refine lpA (N := nC) (s0 := 0) (R := fun j a => a = smL (fun i => (sI S2 1121 i).toInt64) j) (B := fun a x K => P_X11_sum_L67b 1000 a x S2 Q K) rfl (by omega) rfl (fun j hj a ha K hK => ?_)
  subst ha
  unfold P_X11_sum_L67b
  simp (disch := first | omega | decide) only [Option.some.injEq, exists_eq_left', exists_eq_left, forall_eq, forall_eq', true_and, and_true, true_implies, implies_true, false_implies, not_true_eq_false, not_false_eq_true, reduceCtorEq, and_self, forall_const, i10, i01, if_true, if_false, and_false, false_and, Nat.not_lt_zero, sK_pI, sN_pI, sR_pI, sL_pI, sK_pL, sN_pL, sR_pL, sI_pL, sK_pR, sN_pR, sI_pR, sL_pR, sI_pI_eq, sI_pI_ne, sL_pL_eq, sL_pL_ne, sR_pR_eq, sR_pR_ne, nn_le, nat32_lt, nn_eq, ln_le, nl_le, ln_lt, nl_lt, ln_eq, nl_eq, n_m1, n_lt0, vp_n, vp_l, lc_n, nat32c, n_s, nI_n, hM.o, hc]
  refine ⟨fun c => ?_, fun c => ?_⟩
  · have e : j = nC := by omega
    subst e; exact k
  · have hlt : j < 12 := by omega
    simp (disch := first | omega | decide) only [Option.some.injEq, exists_eq_left', exists_eq_left, forall_eq, forall_eq', true_and, and_true, true_implies, implies_true, false_implies, not_true_eq_false, not_false_eq_true, reduceCtorEq, and_self, forall_const, i10, i01, if_true, if_false, and_false, false_and, Nat.not_lt_zero, sK_pI, sN_pI, sR_pI, sL_pI, sK_pL, sN_pL, sR_pL, sI_pL, sK_pR, sN_pR, sI_pR, sL_pR, sI_pI_eq, sI_pI_ne, sL_pL_eq, sL_pL_ne, sR_pR_eq, sR_pR_ne, nn_le, nat32_lt, nn_eq, ln_le, nl_le, ln_lt, nl_lt, ln_eq, nl_eq, n_m1, n_lt0, vp_n, vp_l, lc_n, nat32c, n_s, nI_n, hM.a21, hlt]
    exact hK (by omega) _ rfl
theorem m_barrels {Q : Int64 → Prop} (hM : MW S2) (hc : sI S2 1000 2 = Int32.ofNat nR) (hn : nR ≤ 30) (k : Q (smL (fun i => (sI S2 1129 i).toInt64) nR)) : P_X11_sum_L103 1000 0 0 S2 Q := by
  unfold P_X11_sum_L103
  refine lpA (N := nR) (s0 := 0) (R := fun j a => a = smL (fun i => (sI S2 1129 i).toInt64) j) (B := fun a x K => P_X11_sum_L103b 1000 a x S2 Q K) rfl (by omega) rfl (fun j hj a ha K hK => ?_)
  subst ha
  unfold P_X11_sum_L103b
  simp (disch := first | omega | decide) only [Option.some.injEq, exists_eq_left', exists_eq_left, forall_eq, forall_eq', true_and, and_true, true_implies, implies_true, false_implies, not_true_eq_false, not_false_eq_true, reduceCtorEq, and_self, forall_const, i10, i01, if_true, if_false, and_false, false_and, Nat.not_lt_zero, sK_pI, sN_pI, sR_pI, sL_pI, sK_pL, sN_pL, sR_pL, sI_pL, sK_pR, sN_pR, sI_pR, sL_pR, sI_pI_eq, sI_pI_ne, sL_pL_eq, sL_pL_ne, sR_pR_eq, sR_pR_ne, nn_le, nat32_lt, nn_eq, ln_le, nl_le, ln_lt, nl_lt, ln_eq, nl_eq, n_m1, n_lt0, vp_n, vp_l, lc_n, nat32c, n_s, nI_n, hM.o, hc]
  refine ⟨fun c => ?_, fun c => ?_⟩
  · have e : j = nR := by omega
    subst e; exact k
  · have hlt : j < 30 := by omega
    simp (disch := first | omega | decide) only [Option.some.injEq, exists_eq_left', exists_eq_left, forall_eq, forall_eq', true_and, and_true, true_implies, implies_true, false_implies, not_true_eq_false, not_false_eq_true, reduceCtorEq, and_self, forall_const, i10, i01, if_true, if_false, and_false, false_and, Nat.not_lt_zero, sK_pI, sN_pI, sR_pI, sL_pI, sK_pL, sN_pL, sR_pL, sI_pL, sK_pR, sN_pR, sI_pR, sL_pR, sI_pI_eq, sI_pI_ne, sL_pL_eq, sL_pL_ne, sR_pR_eq, sR_pR_ne, nn_le, nat32_lt, nn_eq, ln_le, nl_le, ln_lt, nl_lt, ln_eq, nl_eq, n_m1, n_lt0, vp_n, vp_l, lc_n, nat32c, n_s, nI_n, hM.a29, hlt]
    exact hK (by omega) _ rfl
end RE
theorem pr_sum : Pr_sum Inv := by
  intro S S2 hI v1
  have hI0 := hI
  obtain ⟨hk, hM, hS, hU, hA, hW, hB, nC, nR, nT, nK, nL, nM, nP, td, N, lh, hC, hR, hT, hK, hL, hZ, hP, hN⟩ := hI
  unfold P_X10_sum P_X11_sum
  have hn6 : ¬ inn v1 0 6 = 0 → v1 = 0 ∨ v1 = 1 ∨ v1 = 2 ∨ v1 = 3 ∨ v1 = 4 ∨ v1 = 5 ∨ v1 = 6 := fun h => by
    obtain ⟨k, -, k2, rfl⟩ := inn_rg (lo := 0) (hi := 6) (by omega) (by omega) h
    have : k = 0 ∨ k = 1 ∨ k = 2 ∨ k = 3 ∨ k = 4 ∨ k = 5 ∨ k = 6 := by omega
    rcases this with rfl | rfl | rfl | rfl | rfl | rfl | rfl <;> decide
  have hy : ∀ k : Int32, v1 = k → inn k 0 6 = 1 → (inn v1 0 6 = 0) = False := fun k e h => by rw [e, h]; decide
  rcases sw6 v1 with q | q | q | q | q | q | q | q
  · have e : v1 = 0 := of_eq_true q.1
    have i0 := hy 0 e (by decide)
    have e2 : v1 = Int32.ofNat 0 := e
    simp only [within_e, i0, q, true_implies, false_implies, not_true_eq_false, not_false_eq_true, forall_eq, and_true, true_and, implies_true]
    clear q i0 e
    subst e2
    simp (disch := first | omega | decide) only [Option.some.injEq, exists_eq_left', exists_eq_left, forall_eq, forall_eq', true_and, and_true, true_implies, implies_true, false_implies, not_true_eq_false, not_false_eq_true, reduceCtorEq, and_self, forall_const, i10, i01, if_true, if_false, and_false, false_and, Nat.not_lt_zero, sK_pI, sN_pI, sR_pI, sL_pI, sK_pL, sN_pL, sR_pL, sI_pL, sK_pR, sN_pR, sI_pR, sL_pR, sI_pI_eq, sI_pI_ne, sL_pL_eq, sL_pL_ne, sR_pR_eq, sR_pR_ne, nn_le, nat32_lt, nn_eq, ln_le, nl_le, ln_lt, nl_lt, ln_eq, nl_eq, n_m1, n_lt0, vp_n, vp_l, lc_n, nat32c, n_s, nI_n, hS.1, hS.2.1, hM.o, hI0]
    exact ⟨by omega, hU.1⟩
  · have e : v1 = 1 := of_eq_true q.2.1
    have i0 := hy 1 e (by decide)
    have e2 : v1 = Int32.ofNat 1 := e
    simp only [within_e, i0, q, true_implies, false_implies, not_true_eq_false, not_false_eq_true, forall_eq, and_true, true_and, implies_true]
    clear q i0 e
    subst e2
    simp (disch := first | omega | decide) only [Option.some.injEq, exists_eq_left', exists_eq_left, forall_eq, forall_eq', true_and, and_true, true_implies, implies_true, false_implies, not_true_eq_false, not_false_eq_true, reduceCtorEq, and_self, forall_const, i10, i01, if_true, if_false, and_false, false_and, Nat.not_lt_zero, sK_pI, sN_pI, sR_pI, sL_pI, sK_pL, sN_pL, sR_pL, sI_pL, sK_pR, sN_pR, sI_pR, sL_pR, sI_pI_eq, sI_pI_ne, sL_pL_eq, sL_pL_ne, sR_pR_eq, sR_pR_ne, nn_le, nat32_lt, nn_eq, ln_le, nl_le, ln_lt, nl_lt, ln_eq, nl_eq, n_m1, n_lt0, vp_n, vp_l, lc_n, nat32c, n_s, nI_n, hS.1, hS.2.1, hM.o, hI0]
    exact ⟨by omega, hU.2.1⟩
  · have e : v1 = 2 := of_eq_true q.2.2.1
    have i0 := hy 2 e (by decide)
    have e2 : v1 = Int32.ofNat 2 := e
    simp only [within_e, i0, q, true_implies, false_implies, not_true_eq_false, not_false_eq_true, forall_eq, and_true, true_and, implies_true]
    clear q i0 e
    subst e2
    simp (disch := first | omega | decide) only [Option.some.injEq, exists_eq_left', exists_eq_left, forall_eq, forall_eq', true_and, and_true, true_implies, implies_true, false_implies, not_true_eq_false, not_false_eq_true, reduceCtorEq, and_self, forall_const, i10, i01, if_true, if_false, and_false, false_and, Nat.not_lt_zero, sK_pI, sN_pI, sR_pI, sL_pI, sK_pL, sN_pL, sR_pL, sI_pL, sK_pR, sN_pR, sI_pR, sL_pR, sI_pI_eq, sI_pI_ne, sL_pL_eq, sL_pL_ne, sR_pR_eq, sR_pR_ne, nn_le, nat32_lt, nn_eq, ln_le, nl_le, ln_lt, nl_lt, ln_eq, nl_eq, n_m1, n_lt0, vp_n, vp_l, lc_n, nat32c, n_s, nI_n, hS.1, hS.2.1, hM.o, hI0]
    exact ⟨by omega, hU.2.2.1⟩
  · have e : v1 = 3 := of_eq_true q.2.2.2.1
    have i0 := hy 3 e (by decide)
    have e2 : v1 = Int32.ofNat 3 := e
    simp only [within_e, i0, q, true_implies, false_implies, not_true_eq_false, not_false_eq_true, forall_eq, and_true, true_and, implies_true]
    clear q i0 e
    subst e2
    simp (disch := first | omega | decide) only [Option.some.injEq, exists_eq_left', exists_eq_left, forall_eq, forall_eq', true_and, and_true, true_implies, implies_true, false_implies, not_true_eq_false, not_false_eq_true, reduceCtorEq, and_self, forall_const, i10, i01, if_true, if_false, and_false, false_and, Nat.not_lt_zero, sK_pI, sN_pI, sR_pI, sL_pI, sK_pL, sN_pL, sR_pL, sI_pL, sK_pR, sN_pR, sI_pR, sL_pR, sI_pI_eq, sI_pI_ne, sL_pL_eq, sL_pL_ne, sR_pR_eq, sR_pR_ne, nn_le, nat32_lt, nn_eq, ln_le, nl_le, ln_lt, nl_lt, ln_eq, nl_eq, n_m1, n_lt0, vp_n, vp_l, lc_n, nat32c, n_s, nI_n, hS.1, hS.2.1, hM.o, hI0]
    exact ⟨by omega, hU.2.2.2.1⟩
  · have e : v1 = 4 := of_eq_true q.2.2.2.2.1
    have i0 := hy 4 e (by decide)
    have e2 : v1 = Int32.ofNat 4 := e
    simp only [within_e, i0, q, true_implies, false_implies, not_true_eq_false, not_false_eq_true, forall_eq, and_true, true_and, implies_true]
    exact ⟨hS.1.1, x_inBowls hS hC hB (m_bowls hM hC.2.2.1 hC.2.1 ⟨rfl, hI0⟩)⟩
  · have e : v1 = 5 := of_eq_true q.2.2.2.2.2.1
    have i0 := hy 5 e (by decide)
    have e2 : v1 = Int32.ofNat 5 := e
    simp only [within_e, i0, q, true_implies, false_implies, not_true_eq_false, not_false_eq_true, forall_eq, and_true, true_and, implies_true]
    clear q i0 e
    subst e2
    simp (disch := first | omega | decide) only [Option.some.injEq, exists_eq_left', exists_eq_left, forall_eq, forall_eq', true_and, and_true, true_implies, implies_true, false_implies, not_true_eq_false, not_false_eq_true, reduceCtorEq, and_self, forall_const, i10, i01, if_true, if_false, and_false, false_and, Nat.not_lt_zero, sK_pI, sN_pI, sR_pI, sL_pI, sK_pL, sN_pL, sR_pL, sI_pL, sK_pR, sN_pR, sI_pR, sL_pR, sI_pI_eq, sI_pI_ne, sL_pL_eq, sL_pL_ne, sR_pR_eq, sR_pR_ne, nn_le, nat32_lt, nn_eq, ln_le, nl_le, ln_lt, nl_lt, ln_eq, nl_eq, n_m1, n_lt0, vp_n, vp_l, lc_n, nat32c, n_s, nI_n, hS.1, hS.2.1, hM.o, hI0]
    exact ⟨by omega, hU.2.2.2.2⟩
  · have e : v1 = 6 := of_eq_true q.2.2.2.2.2.2
    have i0 := hy 6 e (by decide)
    have e2 : v1 = Int32.ofNat 6 := e
    simp only [within_e, i0, q, true_implies, false_implies, not_true_eq_false, not_false_eq_true, forall_eq, and_true, true_and, implies_true]
    exact ⟨hS.1.1, x_inBarrels hS hR (m_barrels hM hR.2.2.1 hR.2.1 ⟨rfl, hI0⟩)⟩
  · have hn : inn v1 0 6 = 0 := Classical.byContradiction fun h => by
      rcases hn6 h with e | e | e | e | e | e | e
      · exact of_eq_false q.1 e
      · exact of_eq_false q.2.1 e
      · exact of_eq_false q.2.2.1 e
      · exact of_eq_false q.2.2.2.1 e
      · exact of_eq_false q.2.2.2.2.1 e
      · exact of_eq_false q.2.2.2.2.2.1 e
      · exact of_eq_false q.2.2.2.2.2.2 e
    simp only [within_e, hn, q, true_implies, false_implies, not_true_eq_false, not_false_eq_true, forall_eq, and_true, true_and, implies_true]
    exact hI0
theorem pr_fault : Pr_fault Inv := by
  intro S S2 hI _
  have hI0 := hI
  obtain ⟨hk, hM, hS, hU, hA, hW, hB, nC, nR, nT, nK, nL, nM, nP, td, N, lh, hC, hR, hT, hK, hL, hZ, hP, hN⟩ := hI
  unfold P_X10_fault P_X11_fault
  simp (disch := first | omega | decide) only [Option.some.injEq, exists_eq_left', exists_eq_left, forall_eq, forall_eq', true_and, and_true, true_implies, implies_true, false_implies, not_true_eq_false, not_false_eq_true, reduceCtorEq, and_self, forall_const, i10, i01, if_true, if_false, and_false, false_and, Nat.not_lt_zero, sK_pI, sN_pI, sR_pI, sL_pI, sK_pL, sN_pL, sR_pL, sI_pL, sK_pR, sN_pR, sI_pR, sL_pR, sI_pI_eq, sI_pI_ne, sL_pL_eq, sL_pL_ne, sR_pR_eq, sR_pR_ne, nn_le, nat32_lt, nn_eq, ln_le, nl_le, ln_lt, nl_lt, ln_eq, nl_eq, n_m1, n_lt0, vp_n, vp_l, lc_n, nat32c, n_s, nI_n, hS.1, hM.o, hZ.2.2.2.2.2.2.2, hI0]
theorem pr_roofOf : Pr_roofOf Inv := by
  intro S S2 hI v1 v2
  have hI0 := hI
  obtain ⟨hk, hM, hS, hU, hA, hW, hB, nC, nR, nT, nK, nL, nM, nP, td, N, lh, hC, hR, hT, hK, hL, hZ, hP, hN⟩ := hI
  unfold P_X10_roofOf P_X11_roofOf
  have hn := hR.2.1
  by_cases hc : isC v1 nR
  · obtain ⟨i, hi, rfl⟩ := hc
    have c := hR.2.2.2.1 i hi
    have h30 : i < 30 := by omega
    rw [roofAt_y hS hR hi]
    simp only [isIn_e, hR.2.2.1, inn_cy (show nR < 2147483648 by omega) hi]
    rcases sw5 v2 with q | q | q | q | q | q | q <;> simp only [q, true_implies, false_implies, not_true_eq_false, not_false_eq_true, forall_eq, and_true, true_and, implies_true]
    case inr.inr.inr.inr.inr.inl =>
      simp (disch := first | omega | decide) only [Option.some.injEq, exists_eq_left', exists_eq_left, forall_eq, forall_eq', true_and, and_true, true_implies, implies_true, false_implies, not_true_eq_false, not_false_eq_true, reduceCtorEq, and_self, forall_const, i10, i01, if_true, if_false, and_false, false_and, Nat.not_lt_zero, sK_pI, sN_pI, sR_pI, sL_pI, sK_pL, sN_pL, sR_pL, sI_pL, sK_pR, sN_pR, sI_pR, sL_pR, sI_pI_eq, sI_pI_ne, sL_pL_eq, sL_pL_ne, sR_pR_eq, sR_pR_ne, nn_le, nat32_lt, nn_eq, ln_le, nl_le, ln_lt, nl_lt, ln_eq, nl_eq, n_m1, n_lt0, vp_n, vp_l, lc_n, nat32c, n_s, nI_n, hS.1, hM.o, c]
      exact m_lastY hM h30 ⟨rfl, hI0⟩
    all_goals
      simp (disch := first | omega | decide) only [Option.some.injEq, exists_eq_left', exists_eq_left, forall_eq, forall_eq', true_and, and_true, true_implies, implies_true, false_implies, not_true_eq_false, not_false_eq_true, reduceCtorEq, and_self, forall_const, i10, i01, if_true, if_false, and_false, false_and, Nat.not_lt_zero, sK_pI, sN_pI, sR_pI, sL_pI, sK_pL, sN_pL, sR_pL, sI_pL, sK_pR, sN_pR, sI_pR, sL_pR, sI_pI_eq, sI_pI_ne, sL_pL_eq, sL_pL_ne, sR_pR_eq, sR_pR_ne, nn_le, nat32_lt, nn_eq, ln_le, nl_le, ln_lt, nl_lt, ln_eq, nl_eq, n_m1, n_lt0, vp_n, vp_l, lc_n, nat32c, n_s, nI_n, hS.1, hM.o, c, hM.a25, hM.a26, hM.a27, hM.a28, hM.a29, h30, hI0]
  · simp (disch := first | omega | decide) only [Option.some.injEq, exists_eq_left', exists_eq_left, forall_eq, forall_eq', true_and, and_true, true_implies, implies_true, false_implies, not_true_eq_false, not_false_eq_true, reduceCtorEq, and_self, forall_const, i10, i01, if_true, if_false, and_false, false_and, Nat.not_lt_zero, sK_pI, sN_pI, sR_pI, sL_pI, sK_pL, sN_pL, sR_pL, sI_pL, sK_pR, sN_pR, sI_pR, sL_pR, sI_pI_eq, sI_pI_ne, sL_pL_eq, sL_pL_ne, sR_pR_eq, sR_pR_ne, nn_le, nat32_lt, nn_eq, ln_le, nl_le, ln_lt, nl_lt, ln_eq, nl_eq, n_m1, n_lt0, vp_n, vp_l, lc_n, nat32c, n_s, nI_n, hS.1, hM.o, roofAt_n hS hR hc, isIn_e, hR.2.2.1, inn_cn (show nR < 2147483648 by omega) hc, hI0]
theorem pr_stormOf : Pr_stormOf Inv := by
  intro S S2 hI v1 v2
  have hI0 := hI
  obtain ⟨hk, hM, hS, hU, hA, hW, hB, nC, nR, nT, nK, nL, nM, nP, td, N, lh, hC, hR, hT, hK, hL, hZ, hP, hN⟩ := hI
  unfold P_X10_stormOf P_X11_stormOf
  have hn := hT.2.1
  by_cases hc : isC v1 nT
  · obtain ⟨i, hi, rfl⟩ := hc
    have c := hT.2.2.2.1 i hi
    have h40 : i < 40 := by omega
    simp (disch := first | omega | decide) only [Option.some.injEq, exists_eq_left', exists_eq_left, forall_eq, forall_eq', true_and, and_true, true_implies, implies_true, false_implies, not_true_eq_false, not_false_eq_true, reduceCtorEq, and_self, forall_const, i10, i01, if_true, if_false, and_false, false_and, Nat.not_lt_zero, sK_pI, sN_pI, sR_pI, sL_pI, sK_pL, sN_pL, sR_pL, sI_pL, sK_pR, sN_pR, sI_pR, sL_pR, sI_pI_eq, sI_pI_ne, sL_pL_eq, sL_pL_ne, sR_pR_eq, sR_pR_ne, nn_le, nat32_lt, nn_eq, ln_le, nl_le, ln_lt, nl_lt, ln_eq, nl_eq, n_m1, n_lt0, vp_n, vp_l, lc_n, nat32c, n_s, nI_n, hS.1, hT.1.1, size_e hT.1, within_e, inn_cy (show nT < 2147483648 by omega) hi, get_e hT.1 hi, c, isIn_e, hT.2.2.1, hM.o]
    rcases sw4 v2 with q | q | q | q | q | q <;> simp only [q, true_implies, false_implies, not_true_eq_false, not_false_eq_true, forall_eq, and_true, true_and, implies_true] <;>
      simp (disch := first | omega | decide) only [Option.some.injEq, exists_eq_left', exists_eq_left, forall_eq, forall_eq', true_and, and_true, true_implies, implies_true, false_implies, not_true_eq_false, not_false_eq_true, reduceCtorEq, and_self, forall_const, i10, i01, if_true, if_false, and_false, false_and, Nat.not_lt_zero, sK_pI, sN_pI, sR_pI, sL_pI, sK_pL, sN_pL, sR_pL, sI_pL, sK_pR, sN_pR, sI_pR, sL_pR, sI_pI_eq, sI_pI_ne, sL_pL_eq, sL_pL_ne, sR_pR_eq, sR_pR_ne, nn_le, nat32_lt, nn_eq, ln_le, nl_le, ln_lt, nl_lt, ln_eq, nl_eq, n_m1, n_lt0, vp_n, vp_l, lc_n, nat32c, n_s, nI_n, hM.a53, hM.a54, hM.a55, hM.a58, hM.a59, h40, hI0]
  · simp (disch := first | omega | decide) only [Option.some.injEq, exists_eq_left', exists_eq_left, forall_eq, forall_eq', true_and, and_true, true_implies, implies_true, false_implies, not_true_eq_false, not_false_eq_true, reduceCtorEq, and_self, forall_const, i10, i01, if_true, if_false, and_false, false_and, Nat.not_lt_zero, sK_pI, sN_pI, sR_pI, sL_pI, sK_pL, sN_pL, sR_pL, sI_pL, sK_pR, sN_pR, sI_pR, sL_pR, sI_pI_eq, sI_pI_ne, sL_pL_eq, sL_pL_ne, sR_pR_eq, sR_pR_ne, nn_le, nat32_lt, nn_eq, ln_le, nl_le, ln_lt, nl_lt, ln_eq, nl_eq, n_m1, n_lt0, vp_n, vp_l, lc_n, nat32c, n_s, nI_n, hS.1, hT.1.1, size_e hT.1, within_e, inn_cn (show nT < 2147483648 by omega) hc, isIn_e, hT.2.2.1, hM.o, hI0]
theorem pr_complaint : Pr_complaint Inv := by
  intro S S2 hI v1 v2
  have hI0 := hI
  obtain ⟨hk, hM, hS, hU, hA, hW, hB, nC, nR, nT, nK, nL, nM, nP, td, N, lh, hC, hR, hT, hK, hL, hZ, hP, hN⟩ := hI
  unfold P_X10_complaint P_X11_complaint
  have hn := hK.2.1
  by_cases hc : isC v1 nK
  · obtain ⟨i, hi, rfl⟩ := hc
    have c := hK.2.2.2.1 i hi
    have h60 : i < 60 := by omega
    have b := c.2.2.2.2.2.2.2.1
    unfold bz at b
    obtain ⟨c0, c1, c2, c3, c4, c5, c6, -, -⟩ := c
    simp (disch := first | omega | decide) only [Option.some.injEq, exists_eq_left', exists_eq_left, forall_eq, forall_eq', true_and, and_true, true_implies, implies_true, false_implies, not_true_eq_false, not_false_eq_true, reduceCtorEq, and_self, forall_const, i10, i01, if_true, if_false, and_false, false_and, Nat.not_lt_zero, sK_pI, sN_pI, sR_pI, sL_pI, sK_pL, sN_pL, sR_pL, sI_pL, sK_pR, sN_pR, sI_pR, sL_pR, sI_pI_eq, sI_pI_ne, sL_pL_eq, sL_pL_ne, sR_pR_eq, sR_pR_ne, nn_le, nat32_lt, nn_eq, ln_le, nl_le, ln_lt, nl_lt, ln_eq, nl_eq, n_m1, n_lt0, vp_n, vp_l, lc_n, nat32c, n_s, nI_n, hS.1, hK.1.1, size_e hK.1, within_e, inn_cy (show nK < 2147483648 by omega) hi, get_e hK.1 hi, c0, c1, c2, c3, c4, c5, c6, isIn_e, hK.2.2.1, hM.o]
    rcases sw5 v2 with q | q | q | q | q | q | q <;> rcases b with b | b <;> simp only [q, true_implies, false_implies, not_true_eq_false, not_false_eq_true, forall_eq, and_true, true_and, implies_true] <;>
      simp (disch := first | omega | decide) only [Option.some.injEq, exists_eq_left', exists_eq_left, forall_eq, forall_eq', true_and, and_true, true_implies, implies_true, false_implies, not_true_eq_false, not_false_eq_true, reduceCtorEq, and_self, forall_const, i10, i01, if_true, if_false, and_false, false_and, Nat.not_lt_zero, sK_pI, sN_pI, sR_pI, sL_pI, sK_pL, sN_pL, sR_pL, sI_pL, sK_pR, sN_pR, sI_pR, sL_pR, sI_pI_eq, sI_pI_ne, sL_pL_eq, sL_pL_ne, sR_pR_eq, sR_pR_ne, nn_le, nat32_lt, nn_eq, ln_le, nl_le, ln_lt, nl_lt, ln_eq, nl_eq, n_m1, n_lt0, vp_n, vp_l, lc_n, nat32c, n_s, nI_n, hM.a61, hM.a62, hM.a63, hM.a64, hM.a65, hM.a66, h60, hI0, b, one_e]
  · simp (disch := first | omega | decide) only [Option.some.injEq, exists_eq_left', exists_eq_left, forall_eq, forall_eq', true_and, and_true, true_implies, implies_true, false_implies, not_true_eq_false, not_false_eq_true, reduceCtorEq, and_self, forall_const, i10, i01, if_true, if_false, and_false, false_and, Nat.not_lt_zero, sK_pI, sN_pI, sR_pI, sL_pI, sK_pL, sN_pL, sR_pL, sI_pL, sK_pR, sN_pR, sI_pR, sL_pR, sI_pI_eq, sI_pI_ne, sL_pL_eq, sL_pL_ne, sR_pR_eq, sR_pR_ne, nn_le, nat32_lt, nn_eq, ln_le, nl_le, ln_lt, nl_lt, ln_eq, nl_eq, n_m1, n_lt0, vp_n, vp_l, lc_n, nat32c, n_s, nI_n, hS.1, hK.1.1, size_e hK.1, within_e, inn_cn (show nK < 2147483648 by omega) hc, isIn_e, hK.2.2.1, hM.o, hI0]
