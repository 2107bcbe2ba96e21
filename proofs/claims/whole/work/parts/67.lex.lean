/-! ===== level 2: the tape's tokens ===== -/
def kd (b : Nat) : Nat := if 97 ≤ b ∧ b ≤ 122 then 2 else if 48 ≤ b ∧ b ≤ 57 then 3 else if b = 32 ∨ b = 10 then 1 else 0
def enF (f : Nat → Nat) (n k : Nat) : Nat → Nat → Nat
  | 0, p => p
  | u + 1, p => if p < n ∧ kd (f p) = k then enF f n k u (p + 1) else p
def en (f : Nat → Nat) (n k p : Nat) : Nat := enF f n k (n - p) p
section EN
variable {f : Nat → Nat} {n k p : Nat}
theorem enn_y (h : p < n) (e : kd (f p) = k) : en f n k p = en f n k (p + 1) := by
  unfold en
  rw [show n - p = (n - (p + 1)) + 1 from by omega]
  show (if p < n ∧ kd (f p) = k then _ else p) = _
  rw [if_pos ⟨h, e⟩]
theorem enn_n (h : ¬ (p < n ∧ kd (f p) = k)) : en f n k p = p := by
  unfold en
  cases n - p with
  | zero => rfl
  | succ u =>
    show (if p < n ∧ kd (f p) = k then _ else p) = _
    rw [if_neg h]
theorem enn_all : ∀ (u p : Nat), n - p = u → p ≤ en f n k p ∧ (p ≤ n → en f n k p ≤ n) ∧ (∀ j, p ≤ j → j < en f n k p → kd (f j) = k) ∧ ¬ (en f n k p < n ∧ kd (f (en f n k p)) = k)
  | 0, p, h => by
    rw [enn_n (by omega)]
    exact ⟨Nat.le_refl _, fun h => h, fun j h1 h2 => by omega, fun z => by omega⟩
  | u + 1, p, h => by
    by_cases c : p < n ∧ kd (f p) = k
    · rw [enn_y c.1 c.2]
      obtain ⟨a1, a2, a3, a4⟩ := enn_all u (p + 1) (by omega)
      refine ⟨by omega, fun _ => a2 (by omega), fun j h1 h2 => ?_, a4⟩
      by_cases e : j = p
      · subst e; exact c.2
      · exact a3 j (by omega) h2
    · rw [enn_n c]
      exact ⟨Nat.le_refl _, fun h => h, fun j h1 h2 => by omega, c⟩
theorem enn_ge : p ≤ en f n k p := (enn_all _ p rfl).1
theorem enn_le (h : p ≤ n) : en f n k p ≤ n := (enn_all _ p rfl).2.1 h
theorem enn_run {j : Nat} (h1 : p ≤ j) (h2 : j < en f n k p) : kd (f j) = k := (enn_all _ p rfl).2.2.1 j h1 h2
theorem enn_stop : ¬ (en f n k p < n ∧ kd (f (en f n k p)) = k) := (enn_all _ p rfl).2.2.2
def sk (f : Nat → Nat) (n p : Nat) : Nat := en f n 1 p
def te (f : Nat → Nat) (n p : Nat) : Nat := if p < n then (if kd (f p) = 0 then p + 1 else en f n (kd (f p)) p) else p
theorem sk_sk : sk f n (sk f n p) = sk f n p := enn_n enn_stop
theorem te_ge : p ≤ te f n p := by
  unfold te
  split
  · split
    · omega
    · exact enn_ge
  · exact Nat.le_refl _
theorem te_le (h : p ≤ n) : te f n p ≤ n := by
  unfold te
  split
  · split
    · omega
    · exact enn_le h
  · exact h
def byA (f : Nat → Nat) (n j : Nat) : Int32 := if j < n then Int32.ofNat (f j) else -1
def kiA (f : Nat → Nat) (n j : Nat) : Nat := if j < n then kd (f j) else 0
end EN
/-- the tape, with the text that is read -/
def TP (S : Sg) (f : Nat → Nat) (n : Nat) : Prop := sK S 1020 % 32 = 9 ∧ sR S 1020 1 = some 1021 ∧ sK S 1021 % 32 = 16 ∧ sN S 1021 = 700 ∧ n ≤ 700 ∧ sI S 1020 2 = Int32.ofNat n ∧ ∀ j, j < n → f j < 256 ∧ sI S 1021 j = Int32.ofNat (f j)
/-- what reading leaves as it was -/
def TX (S S' : Sg) : Prop := (∀ x, ¬ x = 1020 → vw S' x = vw S x) ∧ (∀ x, stru S' x = stru S x) ∧ ∀ k, ¬ (k = 3 ∨ k = 4 ∨ k = 5) → sI S' 1020 k = sI S 1020 k
theorem TX.refl (S : Sg) : TX S S := ⟨fun _ _ => rfl, fun _ => rfl, fun _ _ => rfl⟩
theorem TX.trans {S T U : Sg} (h : TX S T) (g : TX T U) : TX S U := ⟨fun x hx => (g.1 x hx).trans (h.1 x hx), fun x => (g.2.1 x).trans (h.2.1 x), fun k hk => (g.2.2 k hk).trans (h.2.2 k hk)⟩
theorem TX.pI {S T : Sg} {k : Nat} {v : Int32} (h : TX S T) (hk : k = 3 ∨ k = 4 ∨ k = 5) : TX S (pI T 1020 k v) := h.trans ⟨fun x hx => vw_pI hx, fun x => rfl, fun j hj => sI_pI_ne (by omega)⟩
section LX
variable {S T : Sg} {f : Nat → Nat} {n : Nat}
theorem TP.tx (h : TP S f n) (g : TX S T) : TP T f n := by
  obtain ⟨h1, h2, h3, h4, h5, h6, h7⟩ := h
  refine ⟨by rw [stK (g.2.1 1020)]; exact h1, by rw [stR (g.2.1 1020)]; exact h2, by rw [stK (g.2.1 1021)]; exact h3, by rw [stN (g.2.1 1021)]; exact h4, h5, (g.2.2 2 (by omega)).trans h6, fun j hj => ?_⟩
  rw [vwI (g.1 1021 (by omega))]; exact h7 j hj
theorem byteAt_k {j : Nat} {Q : Int32 → Prop} (h : TP S f n) (hj : j < 2147483648) (k : Q (byA f n j)) : P_X7_byteAt 1020 (Int32.ofNat j) S Q := by
  obtain ⟨h1, h2, h3, h4, h5, h6, h7⟩ := h
  unfold byA at k
  unfold P_X7_byteAt P_X7_byteAt_B30
  refine ⟨fun z => absurd z (nat32_nn hj), fun _ => ⟨h1, fun z => ?_, fun z => ⟨1021, h2, h3, fun y => ?_, fun y => ⟨1021, h2, h3, ?_, ?_⟩⟩⟩⟩
  · rw [h6, nn_le (by omega) hj] at z
    rw [if_neg (by omega)] at k; exact k
  · rw [h6, nn_le (by omega) hj] at z
    rw [h4, nI_n, nn_le (by omega) hj] at y
    omega
  · rw [h6, nn_le (by omega) hj] at z
    rw [h4, vp_n hj]; omega
  · rw [h6, nn_le (by omega) hj] at z
    rw [if_pos (by omega)] at k
    rw [nat32c hj, (h7 j (by omega)).2]; exact k
theorem kindOf_k {j : Nat} {Q : Int32 → Prop} (hf : ∀ j, j < n → f j < 256) (k : Q (Int32.ofNat (kiA f n j))) : P_X7_kindOf (byA f n j) S Q := by
  unfold kiA at k
  unfold byA
  unfold P_X7_kindOf P_X7_kindOf_B14 P_X7_kindOf_B28 P_X7_kindOf_B40
  by_cases hj : j < n
  · have b := hf j hj
    rw [if_pos hj] at k ⊢
    have l97 : Int32.ofNat (f j) < (97 : Int32) ↔ f j < 97 := nl_lt (k := 97) (by omega) (by omega)
    have l122 : (122 : Int32) < Int32.ofNat (f j) ↔ 122 < f j := ln_lt (k := 122) (by omega) (by omega)
    have l48 : Int32.ofNat (f j) < (48 : Int32) ↔ f j < 48 := nl_lt (k := 48) (by omega) (by omega)
    have l57 : (57 : Int32) < Int32.ofNat (f j) ↔ 57 < f j := ln_lt (k := 57) (by omega) (by omega)
    have l32 : Int32.ofNat (f j) = (32 : Int32) ↔ f j = 32 := nl_eq (k := 32) (by omega) (by omega)
    have l10 : Int32.ofNat (f j) = (10 : Int32) ↔ f j = 10 := nl_eq (k := 10) (by omega) (by omega)
    unfold kd at k
    simp only [l97, l122, l48, l57, l32, l10]
    by_cases a : 97 ≤ f j ∧ f j ≤ 122
    · rw [if_pos a] at k
      exact ⟨fun z => by omega, fun _ => ⟨fun z => by omega, fun _ => k⟩⟩
    · rw [if_neg a] at k
      have b14 : (f j < 48 → (f j = 32 → Q 1) ∧ (¬ f j = 32 → (f j = 10 → Q 1) ∧ (¬ f j = 10 → Q 0))) ∧ (¬ f j < 48 → (57 < f j → (f j = 32 → Q 1) ∧ (¬ f j = 32 → (f j = 10 → Q 1) ∧ (¬ f j = 10 → Q 0))) ∧ (¬ 57 < f j → Q 3)) := by
        by_cases d : 48 ≤ f j ∧ f j ≤ 57
        · rw [if_pos d] at k
          exact ⟨fun z => by omega, fun _ => ⟨fun z => by omega, fun _ => k⟩⟩
        · rw [if_neg d] at k
          have b28 : (f j = 32 → Q 1) ∧ (¬ f j = 32 → (f j = 10 → Q 1) ∧ (¬ f j = 10 → Q 0)) := by
            by_cases e : f j = 32 ∨ f j = 10
            · rw [if_pos e] at k
              exact ⟨fun _ => k, fun z => ⟨fun _ => k, fun y => by omega⟩⟩
            · rw [if_neg e] at k
              exact ⟨fun z => by omega, fun _ => ⟨fun z => by omega, fun _ => k⟩⟩
          exact ⟨fun _ => b28, fun _ => ⟨fun _ => b28, fun z => by omega⟩⟩
      exact ⟨fun _ => b14, fun _ => ⟨fun _ => b14, fun z => by omega⟩⟩
  · rw [if_neg hj] at k ⊢
    have b28 : ((-1 : Int32) = 32 → Q 1) ∧ (¬ (-1 : Int32) = 32 → ((-1 : Int32) = 10 → Q 1) ∧ (¬ (-1 : Int32) = 10 → Q 0)) := ⟨fun z => absurd z (by decide), fun _ => ⟨fun z => absurd z (by decide), fun _ => k⟩⟩
    exact ⟨fun _ => ⟨fun _ => b28, fun z => absurd (by decide) z⟩, fun z => absurd (by decide) z⟩
theorem x_step {q : Nat} {Q : Unit → Sg → Prop} (h : TP S f n) (e4 : sI S 1020 4 = Int32.ofNat q) (hq : q ≤ n) (k : ∀ S', TX S S' → sI S' 1020 3 = Int32.ofNat (sk f n q) → sI S' 1020 4 = Int32.ofNat (te f n (sk f n q)) → sI S' 1020 5 = sI S 1020 5 → Q () S') : P_X7_step 1020 S Q := by
  have hn := h.2.2.2.2.1
  have hf : ∀ j, j < n → f j < 256 := fun j hj => (h.2.2.2.2.2.2 j hj).1
  unfold P_X7_step
  refine ⟨h.1, fun s2 q2 => ?_⟩
  rw [e4] at q2
  unfold P_X7_step_L8
  refine ⟨fun m σ => ∃ p, p ≤ n ∧ m = n - p ∧ TX S σ ∧ sI σ 1020 3 = Int32.ofNat p ∧ sI σ 1020 5 = sI S 1020 5 ∧ sk f n p = sk f n q, ⟨n - q, q, hq, rfl, by rw [q2]; exact (TX.refl S).pI (Or.inl rfl), by rw [q2]; exact sI_pI_eq, by rw [q2]; exact sI_pI_ne (by omega), rfl⟩, ?_⟩
  rintro m σ ⟨p, hp, rfl, g1, g2, g3, g4⟩
  have hσ := h.tx g1
  have b47 : sk f n p = p → P_X7_step_B47 1020 σ Q := fun sp => by
    rw [sp] at g4
    unfold P_X7_step_B47
    refine ⟨hσ.1, ?_⟩
    rw [g2, hσ.2.2.2.2.2.1]
    refine byteAt_k hσ (by omega) (kindOf_k hf (fun x18 hx18 s20 w20 => ?_))
    rw [n_s, n_minC (by omega) (by omega)] at hx18
    subst hx18
    unfold P_X7_step_L76
    refine ⟨fun m ρ => ∃ r, r ≤ n ∧ m = n - r ∧ TX S ρ ∧ sI ρ 1020 3 = Int32.ofNat p ∧ sI ρ 1020 4 = Int32.ofNat r ∧ sI ρ 1020 5 = sI S 1020 5 ∧ ((kiA f n p = 0 ∧ r = te f n p) ∨ (¬ kiA f n p = 0 ∧ te f n p = en f n (kiA f n p) r)), ⟨n - min (p + 1) n, min (p + 1) n, Nat.min_le_right _ _, rfl, by rw [w20]; exact g1.pI (Or.inr (Or.inl rfl)), by rw [w20, sI_pI_ne (by omega)]; exact g2, by rw [w20]; exact sI_pI_eq, by rw [w20, sI_pI_ne (by omega)]; exact g3, ?_⟩, ?_⟩
    · unfold kiA te
      by_cases c : p < n
      · rw [if_pos c, if_pos c, Nat.min_eq_left (by omega)]
        by_cases d : kd (f p) = 0
        · rw [if_pos d]; exact Or.inl ⟨d, rfl⟩
        · rw [if_neg d]; exact Or.inr ⟨d, enn_y c rfl⟩
      · rw [if_neg c, if_neg c, Nat.min_eq_right (by omega)]
        exact Or.inl ⟨rfl, by omega⟩
    · rintro m ρ ⟨r, hr, rfl, y1, y2, y3, y4, y5⟩
      have hρ := h.tx y1
      have out : te f n p = r → Q () ρ := fun z => k ρ y1 (by rw [y2, g4]) (by rw [y3, ← g4, z]) y4
      unfold P_X7_step_L76b
      rw [y3, hρ.2.2.2.2.2.1]
      refine ⟨hρ.1, fun z => ?_, fun z => ⟨fun y => ?_, fun y => byteAt_k hρ (by omega) (kindOf_k hf ⟨fun w s w29 => ?_, fun w => ?_⟩)⟩⟩
      · rw [nn_le (by omega) (by omega)] at z
        rcases y5 with ⟨a, b⟩ | ⟨a, b⟩
        · exact out b.symm
        · refine out (b.trans (enn_n (by omega)))
      · rcases y5 with ⟨a, b⟩ | ⟨a, b⟩
        · exact out b.symm
        · have y : Int32.ofNat (kiA f n p) = Int32.ofNat 0 := y
          have kl : kiA f n p < 4 := by unfold kiA kd; split <;> (try split) <;> (try split) <;> (try split) <;> omega
          rw [nn_eq (by omega) (by omega)] at y
          exact absurd y a
      · rw [nn_le (by omega) (by omega)] at z
        have kl : ∀ j, kiA f n j < 4 := fun j => by unfold kiA kd; split <;> (try split) <;> (try split) <;> (try split) <;> omega
        have k1 := kl p
        have k2 := kl r
        rw [nn_eq (by omega) (by omega)] at w
        rcases y5 with ⟨a, b⟩ | ⟨a, b⟩
        · exact absurd (by rw [a]; rfl) y
        · rw [n_s] at w29
          refine ⟨n - (r + 1), by omega, r + 1, by omega, rfl, by rw [w29]; exact y1.pI (Or.inr (Or.inl rfl)), by rw [w29, sI_pI_ne (by omega)]; exact y2, by rw [w29]; exact sI_pI_eq, by rw [w29, sI_pI_ne (by omega)]; exact y4, Or.inr ⟨a, ?_⟩⟩
          rw [b]
          refine enn_y (by omega) ?_
          rw [← w]; unfold kiA; rw [if_pos (by omega)]
      · rw [nn_le (by omega) (by omega)] at z
        rcases y5 with ⟨a, b⟩ | ⟨a, b⟩
        · exact out b.symm
        · refine out (b.trans (enn_n (fun q => w ?_)))
          rw [← q.2]; unfold kiA; rw [if_pos (show r < n by omega)]
  unfold P_X7_step_L8b
  refine ⟨hσ.1, fun z => b47 ?_, fun z => ?_⟩
  · rw [g2, hσ.2.2.2.2.2.1, nn_le (by omega) (by omega)] at z
    exact enn_n (by omega)
  · rw [g2, hσ.2.2.2.2.2.1, nn_le (by omega) (by omega)] at z
    rw [g2]
    refine byteAt_k hσ (by omega) (kindOf_k hf ⟨fun w s w10 => ?_, fun w => b47 (enn_n (fun q => w ?_))⟩)
    · have kp : kd (f p) = 1 := by
        have w : Int32.ofNat (kiA f n p) = Int32.ofNat 1 := w
        have kl : kiA f n p < 4 := by unfold kiA kd; split <;> (try split) <;> (try split) <;> (try split) <;> omega
        rw [nn_eq (by omega) (by omega)] at w
        unfold kiA at w
        rw [if_pos (by omega)] at w
        exact w
      rw [n_s] at w10
      refine ⟨n - (p + 1), by omega, p + 1, by omega, rfl, by rw [w10]; exact g1.pI (Or.inl rfl), by rw [w10]; exact sI_pI_eq, by rw [w10, sI_pI_ne (by omega)]; exact g3, ?_⟩
      rw [← g4]
      exact (enn_y (by omega) kp).symm
    · unfold kiA
      rw [if_pos q.1, q.2]; rfl
end LX
