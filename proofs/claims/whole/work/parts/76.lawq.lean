/-! ===== level 2: the law that was read is the reference's ===== -/
def stOK (st : Nat × Nat × Nat × Nat × Nat) : Prop := (st.1 = 0 ∨ st.1 = 1 ∨ st.1 = 3 ∨ st.1 = 4 ∨ st.1 = 5 ∨ st.1 = 6 ∨ st.1 = 7 ∨ st.1 = 10 ∨ st.1 = 12 ∨ st.1 = 30 ∨ st.1 = 31 ∨ st.1 = 32) ∧ st.2.1 ≤ 9999 ∧ st.2.2.1 ≤ 9999 ∧ st.2.2.2.1 ≤ 9999 ∧ st.2.2.2.2 ≤ 9999 ∧ (st.1 = 31 → st.2.1 ≤ 3) ∧ (st.1 = 30 → 1 ≤ st.2.2.2.1)
section LQ
variable {T U : Sg} {f : Nat → Nat} {n nL r : Nat}
theorem ok_one {so : Nat} {m : Nat ⊕ Nat} (h : so = 0 ∨ so = 3 ∨ so = 4 ∨ so = 5 ∨ so = 6 ∨ so = 12) : stOK (oneS f n so m).1 := by
  have a := (stepN_le (f := f) (n := n) (lo := 0) (hi := 9999) (by omega) m).2
  unfold stOK oneS
  exact ⟨by dsimp only; omega, a, Nat.zero_le _, Nat.zero_le _, Nat.zero_le _, fun z => by have z : so = 31 := z; omega, fun z => by have z : so = 30 := z; omega⟩
theorem ok_two {so w : Nat} {m : Nat ⊕ Nat} (h : so = 1 ∨ so = 10) : stOK (twoS f n so w m).1 := by
  have a := fun m => (stepN_le (f := f) (n := n) (lo := 0) (hi := 9999) (by omega) m).2
  unfold stOK twoS
  exact ⟨by dsimp only; omega, a _, a _, Nat.zero_le _, Nat.zero_le _, fun z => by have z : so = 31 := z; omega, fun z => by have z : so = 30 := z; omega⟩
theorem ok_thr {w u : Nat} {m : Nat ⊕ Nat} : stOK (thrS f n 7 w u m).1 := by
  have a := fun m => (stepN_le (f := f) (n := n) (lo := 0) (hi := 9999) (by omega) m).2
  unfold stOK thrS
  exact ⟨by dsimp only; omega, a _, a _, a _, Nat.zero_le _, fun z => by have z : (7 : Nat) = 31 := z; omega, fun z => by have z : (7 : Nat) = 30 := z; omega⟩
theorem ok_look {m : Nat ⊕ Nat} : stOK (lookS f n m).1 := by
  have a := fun m => (stepN_le (f := f) (n := n) (lo := 0) (hi := 9999) (by omega) m).2
  have a3 := fun m => (stepN_le (f := f) (n := n) (lo := 0) (hi := 3) (by omega) m).2
  unfold stOK lookS
  exact ⟨by dsimp only; omega, Nat.le_trans (a3 _) (by omega), a _, a _, Nat.zero_le _, fun _ => a3 _, fun z => by have z : (31 : Nat) = 30 := z; omega⟩
theorem ok_turn {m : Nat ⊕ Nat} : stOK (turnS f n m).1 := by
  have a := fun m => (stepN_le (f := f) (n := n) (lo := 0) (hi := 9999) (by omega) m).2
  have a1 := fun m => stepN_le (f := f) (n := n) (lo := 1) (hi := 9999) (by omega) m
  unfold stOK turnS
  exact ⟨by dsimp only; omega, a _, a _, (a1 _).2, a _, fun z => by have z : (30 : Nat) = 31 := z; omega, fun _ => (a1 _).1⟩
theorem stF_ok (p : Nat) : stOK (stF f n p).1 := by
  by_cases y0 : tokW f n 0 p
  · rw [stF_0 y0]; exact ok_turn
  by_cases y4 : tokW f n 4 p
  · rw [stF_4 y4]; exact ok_look
  by_cases y6 : tokW f n 6 p
  · rw [stF_6 y6]; exact ok_one (by omega)
  by_cases y7 : tokW f n 7 p
  · rw [stF_7 y7]; exact ok_two (by omega)
  by_cases y8 : tokW f n 8 p
  · rw [stF_8 y8]; exact ok_one (by omega)
  by_cases y9 : tokW f n 9 p
  · rw [stF_9 y9]; exact ok_one (by omega)
  by_cases y10 : tokW f n 10 p
  · rw [stF_10 y10]; exact ok_one (by omega)
  by_cases y11 : tokW f n 11 p
  · rw [stF_11 y11]; exact ok_one (by omega)
  by_cases y12 : tokW f n 12 p
  · rw [stF_12 y12]; exact ok_thr
  by_cases y15 : tokW f n 15 p
  · rw [stF_15 y15]; exact ok_two (by omega)
  by_cases y17 : tokW f n 17 p
  · rw [stF_17 y17]; exact ok_one (by omega)
  rw [show stF f n p = ((32, 0, 0, 0, 0), .inl p) from by unfold stF; rw [kwF_n y0, kwF_n y4, kwF_n y6, kwF_n y7, kwF_n y8, kwF_n y9, kwF_n y10, kwF_n y11, kwF_n y12, kwF_n y15, kwF_n y17]]
  unfold stOK
  exact ⟨by dsimp only; omega, Nat.zero_le _, Nat.zero_le _, Nat.zero_le _, Nat.zero_le _, fun z => by have z : (32 : Nat) = 31 := z; omega, fun z => by have z : (32 : Nat) = 30 := z; omega⟩
theorem st_32 {p q : Nat} (e : (stF f n p).2 = .inr q) : ¬ (stF f n p).1.1 = 32 := by
  intro h
  by_cases y0 : tokW f n 0 p
  · rw [stF_0 y0] at h; exact absurd (show (30 : Nat) = 32 from h) (by decide)
  by_cases y4 : tokW f n 4 p
  · rw [stF_4 y4] at h; exact absurd (show (31 : Nat) = 32 from h) (by decide)
  by_cases y6 : tokW f n 6 p
  · rw [stF_6 y6] at h; exact absurd (show (0 : Nat) = 32 from h) (by decide)
  by_cases y7 : tokW f n 7 p
  · rw [stF_7 y7] at h; exact absurd (show (1 : Nat) = 32 from h) (by decide)
  by_cases y8 : tokW f n 8 p
  · rw [stF_8 y8] at h; exact absurd (show (3 : Nat) = 32 from h) (by decide)
  by_cases y9 : tokW f n 9 p
  · rw [stF_9 y9] at h; exact absurd (show (4 : Nat) = 32 from h) (by decide)
  by_cases y10 : tokW f n 10 p
  · rw [stF_10 y10] at h; exact absurd (show (5 : Nat) = 32 from h) (by decide)
  by_cases y11 : tokW f n 11 p
  · rw [stF_11 y11] at h; exact absurd (show (6 : Nat) = 32 from h) (by decide)
  by_cases y12 : tokW f n 12 p
  · rw [stF_12 y12] at h; exact absurd (show (7 : Nat) = 32 from h) (by decide)
  by_cases y15 : tokW f n 15 p
  · rw [stF_15 y15] at h; exact absurd (show (10 : Nat) = 32 from h) (by decide)
  by_cases y17 : tokW f n 17 p
  · rw [stF_17 y17] at h; exact absurd (show (12 : Nat) = 32 from h) (by decide)
  rw [show stF f n p = ((32, 0, 0, 0, 0), .inl p) from by unfold stF; rw [kwF_n y0, kwF_n y4, kwF_n y6, kwF_n y7, kwF_n y8, kwF_n y9, kwF_n y10, kwF_n y11, kwF_n y12, kwF_n y15, kwF_n y17]] at e
  cases e
theorem lawStep_e {R w : Nat} {v : Int32} {st : Nat × Nat × Nat × Nat × Nat} (hr : rowE T R st) (ho : stOK st) (h32 : ¬ st.1 = 32) (hw : w < 21) : lawStep T (Int32.ofNat w) R v = updW st w v := by
  obtain ⟨so, a, b, c, d⟩ := st
  obtain ⟨r0, r1, r2, r3, r4⟩ := hr
  obtain ⟨o1, o2, o3, o4, o5, o6, o7⟩ := ho
  simp only at r0 r1 r2 r3 r4 o1 o2 o3 o4 o5 o6 o7 h32
  have s1 : Int32.ofNat so = (1 : Int32) ↔ so = 1 := nl_eq (k := 1) (by omega) (by omega)
  have s7 : Int32.ofNat so = (7 : Int32) ↔ so = 7 := nl_eq (k := 7) (by omega) (by omega)
  have s10 : Int32.ofNat so = (10 : Int32) ↔ so = 10 := nl_eq (k := 10) (by omega) (by omega)
  have s31 : Int32.ofNat so = (31 : Int32) ↔ so = 31 := nl_eq (k := 31) (by omega) (by omega)
  have w2 : Int32.ofNat w = (2 : Int32) ↔ w = 2 := nl_eq (k := 2) (by omega) (by omega)
  have w8 : Int32.ofNat w = (8 : Int32) ↔ w = 8 := nl_eq (k := 8) (by omega) (by omega)
  have w9 : Int32.ofNat w = (9 : Int32) ↔ w = 9 := nl_eq (k := 9) (by omega) (by omega)
  have w11 : Int32.ofNat w = (11 : Int32) ↔ w = 11 := nl_eq (k := 11) (by omega) (by omega)
  have g13 : Int32.ofNat w = 13 + 2 * Int32.ofNat a ↔ w = 13 + 2 * a := by
    rw [show (2 : Int32) = Int32.ofNat 2 from rfl, n_mul, show (13 : Int32) = Int32.ofNat 13 from rfl, n_add, nn_eq (by omega) (by omega)]
  have g14 : Int32.ofNat w = 14 + 2 * Int32.ofNat a ↔ w = 14 + 2 * a := by
    rw [show (2 : Int32) = Int32.ofNat 2 from rfl, n_mul, show (14 : Int32) = Int32.ofNat 14 from rfl, n_add, nn_eq (by omega) (by omega)]
  have sw : Int32.ofNat so = Int32.ofNat w ↔ so = w := nn_eq (by omega) (by omega)
  unfold lawStep ls62 ls78 ls96 ls122 ls148 ls184 updW
  simp only [r0, r1, s1, s7, s10, s31, w2, w8, w9, w11, g13, g14, sw]
  rcases o1 with rfl | rfl | rfl | rfl | rfl | rfl | rfl | rfl | rfl | rfl | rfl | rfl <;> simp only [Nat.reduceEqDiff, false_and, true_and, if_false, false_or, or_false, if_true] <;> (repeat' split) <;> first | rfl | exact r1 | exact r2 (by omega) | exact r3 (by omega) | exact (r2 (by omega)).symm | (exfalso; omega)
theorem tcn_q {s0 : Nat} (hr : ∀ i, i < s0 → rowE T (24 * r + i) (stF f n (psF f n i)).1) : ∀ s, s ≤ s0 → tcn T r s = tcF f n s
  | 0, _ => rfl
  | s + 1, h => by
    have o := stF_ok (f := f) (n := n) (psF f n s)
    have ob : (stF f n (psF f n s)).1.1 < 100 := by
      obtain ⟨o1, -⟩ := o
      generalize (stF f n (psF f n s)).1.1 = so at o1 ⊢
      omega
    have e : Int32.ofNat (stF f n (psF f n s)).1.1 = (30 : Int32) ↔ (stF f n (psF f n s)).1.1 = 30 := nl_eq (k := 30) (by omega) (by omega)
    rw [tcn_s, tcn_q hr s (by omega), (hr s (by omega)).1]
    show _ = tcF f n s + (if (stF f n (psF f n s)).1.1 = 30 then 1 else 0)
    by_cases c : (stF f n (psF f n s)).1.1 = 30
    · rw [if_pos c, if_pos (e.2 c)]
    · rw [if_neg c, if_neg (fun z => c (e.1 z))]
theorem lawF_q {s0 w : Nat} (hg : GOODs f n s0) (hw : w < 21) (hr : ∀ i, i < s0 → rowE T (24 * r + i) (stF f n (psF f n i)).1) : ∀ s, s ≤ s0 → lawF T r w s = nuF f n s w
  | 0, _ => rfl
  | s + 1, h => by
    show lawStep T (Int32.ofNat w) (24 * r + s) (lawF T r w s) = updW (stF f n (psF f n s)).1 w (nuF f n s w)
    rw [lawF_q hg hw hr s (by omega)]
    exact lawStep_e (hr s (by omega)) (stF_ok _) (st_32 (hg s (by omega)).2) hw
theorem bare_rg : ∀ w, w < 21 → rg (bareV w) 0 9999 := by
  have : ∀ w, w < 21 → ∃ k, k < 1000 ∧ bareV w = Int32.ofNat k := by
    have h : ∀ w, w < 21 → bareV w = Int32.ofNat (nt (bareV w)) ∧ nt (bareV w) < 1000 := by decide +kernel
    exact fun w hw => ⟨_, (h w hw).2, (h w hw).1⟩
  intro w hw
  obtain ⟨k, k1, k2⟩ := this w hw
  exact ⟨k, Nat.zero_le _, by omega, k2⟩
theorem updW_rg {st : Nat × Nat × Nat × Nat × Nat} {w : Nat} {v : Int32} (o : stOK st) (h : rg v 0 9999) : rg (updW st w v) 0 9999 := by
  obtain ⟨-, a, b, c, -⟩ := o
  have n : ∀ k, k ≤ 9999 → rg (Int32.ofNat k) 0 9999 := fun k hk => ⟨k, Nat.zero_le _, hk, rfl⟩
  unfold updW
  split
  · split
    · exact n _ c
    · split
      · exact n _ b
      · exact h
  · split
    · exact n _ a
    · split
      · exact n _ b
      · split
        · exact n _ c
        · exact h
theorem nuF_rg {w : Nat} (hw : w < 21) : ∀ s, rg (nuF f n s w) 0 9999
  | 0 => bare_rg w hw
  | s + 1 => updW_rg (stF_ok _) (nuF_rg hw s)
theorem tcF_mono : ∀ {s t : Nat}, s ≤ t → tcF f n s ≤ tcF f n t
  | s, 0, h => by
    have : s = 0 := by omega
    subst this; exact Nat.le_refl _
  | s, t + 1, h => by
    by_cases c : s = t + 1
    · subst c; exact Nat.le_refl _
    · have := tcF_mono (s := s) (t := t) (by omega)
      show _ ≤ tcF f n t + _
      omega
theorem tvF_at {j k : Nat} (hs : (stF f n (psF f n j)).1.1 = 30) : ∀ s, j < s → tvF f n s (tcF f n j) k = Int32.ofNat (if k = 0 then (stF f n (psF f n j)).1.2.1 else if k = 1 then (stF f n (psF f n j)).1.2.2.1 else if k = 2 then (stF f n (psF f n j)).1.2.2.2.1 else (stF f n (psF f n j)).1.2.2.2.2)
  | 0, h => absurd h (Nat.not_lt_zero _)
  | s + 1, h => by
    show tvW (stF f n (psF f n s)).1 (tcF f n s) (tvF f n s) (tcF f n j) k = _
    unfold tvW
    by_cases c : j = s
    · subst c
      rw [if_pos ⟨hs, rfl⟩]
    · have m := tcF_mono (f := f) (n := n) (s := j + 1) (t := s) (by omega)
      have e : tcF f n (j + 1) = tcF f n j + 1 := by
        show tcF f n j + (if _ then 1 else 0) = _
        rw [if_pos hs]
      rw [if_neg (by omega)]
      exact tvF_at hs s (by omega)
theorem tcF_lt {j s : Nat} (hs : (stF f n (psF f n j)).1.1 = 30) (h : j < s) : tcF f n j < tcF f n s := by
  have m := tcF_mono (f := f) (n := n) (s := j + 1) (t := s) (by omega)
  have e : tcF f n (j + 1) = tcF f n j + 1 := by
    show tcF f n j + (if _ then 1 else 0) = _
    rw [if_pos hs]
  omega
end LQ
