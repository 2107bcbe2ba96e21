/-! ===== level 2: a statement of the rules, as the class reads it ===== -/
noncomputable def oneS (f : Nat → Nat) (n so : Nat) (m : Nat ⊕ Nat) : (Nat × Nat × Nat × Nat × Nat) × (Nat ⊕ Nat) := ((so, (stepN f n 0 9999 m).1, 0, 0, 0), stepW f n 18 (stepN f n 0 9999 m).2)
noncomputable def twoS (f : Nat → Nat) (n so w : Nat) (m : Nat ⊕ Nat) : (Nat × Nat × Nat × Nat × Nat) × (Nat ⊕ Nat) := ((so, (stepN f n 0 9999 m).1, (stepN f n 0 9999 (stepW f n w (stepN f n 0 9999 m).2)).1, 0, 0), stepW f n 18 (stepN f n 0 9999 (stepW f n w (stepN f n 0 9999 m).2)).2)
noncomputable def thrS (f : Nat → Nat) (n so w u : Nat) (m : Nat ⊕ Nat) : (Nat × Nat × Nat × Nat × Nat) × (Nat ⊕ Nat) := ((so, (stepN f n 0 9999 m).1, (stepN f n 0 9999 (stepW f n w (stepN f n 0 9999 m).2)).1, (stepN f n 0 9999 (stepW f n u (stepN f n 0 9999 (stepW f n w (stepN f n 0 9999 m).2)).2)).1, 0), stepW f n 18 (stepN f n 0 9999 (stepW f n u (stepN f n 0 9999 (stepW f n w (stepN f n 0 9999 m).2)).2)).2)
noncomputable def lookS (f : Nat → Nat) (n : Nat) (m : Nat ⊕ Nat) : (Nat × Nat × Nat × Nat × Nat) × (Nat ⊕ Nat) := ((31, (stepN f n 0 3 m).1, (stepN f n 0 9999 (stepW f n 3 (stepN f n 0 3 m).2)).1, (stepN f n 0 9999 (stepW f n 5 (stepN f n 0 9999 (stepW f n 3 (stepN f n 0 3 m).2)).2)).1, 0), stepW f n 18 (stepN f n 0 9999 (stepW f n 5 (stepN f n 0 9999 (stepW f n 3 (stepN f n 0 3 m).2)).2)).2)
noncomputable def turnS (f : Nat → Nat) (n : Nat) (m : Nat ⊕ Nat) : (Nat × Nat × Nat × Nat × Nat) × (Nat ⊕ Nat) := ((30, (stepN f n 0 9999 m).1, (stepN f n 0 9999 (stepW f n 1 (stepN f n 0 9999 m).2)).1, (stepN f n 1 9999 (stepW f n 2 (stepN f n 0 9999 (stepW f n 1 (stepN f n 0 9999 m).2)).2)).1, (stepN f n 0 9999 (stepW f n 3 (stepN f n 1 9999 (stepW f n 2 (stepN f n 0 9999 (stepW f n 1 (stepN f n 0 9999 m).2)).2)).2)).1), stepW f n 18 (stepN f n 0 9999 (stepW f n 3 (stepN f n 1 9999 (stepW f n 2 (stepN f n 0 9999 (stepW f n 1 (stepN f n 0 9999 m).2)).2)).2)).2)
noncomputable def kwF (f : Nat → Nat) (n p i : Nat) (a b : (Nat × Nat × Nat × Nat × Nat) × (Nat ⊕ Nat)) : (Nat × Nat × Nat × Nat × Nat) × (Nat ⊕ Nat) := @ite _ (tokW f n i p) (Classical.propDecidable _) a b
noncomputable def stF (f : Nat → Nat) (n p : Nat) : (Nat × Nat × Nat × Nat × Nat) × (Nat ⊕ Nat) :=
  kwF f n p 0 (turnS f n (.inr (sk f n (te f n p)))) (kwF f n p 4 (lookS f n (.inr (sk f n (te f n p)))) (kwF f n p 6 (oneS f n 0 (.inr (sk f n (te f n p)))) (kwF f n p 7 (twoS f n 1 5 (.inr (sk f n (te f n p)))) (kwF f n p 8 (oneS f n 3 (.inr (sk f n (te f n p)))) (kwF f n p 9 (oneS f n 4 (.inr (sk f n (te f n p)))) (kwF f n p 10 (oneS f n 5 (.inr (sk f n (te f n p)))) (kwF f n p 11 (oneS f n 6 (.inr (sk f n (te f n p)))) (kwF f n p 12 (thrS f n 7 13 14 (.inr (sk f n (te f n p)))) (kwF f n p 15 (twoS f n 10 16 (.inr (sk f n (te f n p)))) (kwF f n p 17 (oneS f n 12 (.inr (sk f n (te f n p)))) ((32, 0, 0, 0, 0), .inl p)))))))))))
def updW (st : Nat × Nat × Nat × Nat × Nat) (w : Nat) (v : Int32) : Int32 := if st.1 = 31 then (if w = 14 + 2 * st.2.1 then Int32.ofNat st.2.2.2.1 else if w = 13 + 2 * st.2.1 then Int32.ofNat st.2.2.1 else v) else if w = st.1 then Int32.ofNat st.2.1 else if (st.1 = 1 ∧ w = 2) ∨ (st.1 = 7 ∧ w = 8) ∨ (st.1 = 10 ∧ w = 11) then Int32.ofNat st.2.2.1 else if st.1 = 7 ∧ w = 9 then Int32.ofNat st.2.2.2.1 else v
def putV (w : Nat) (x : Int32) (nums : Nat → Int32) : Nat → Int32 := fun j => if j = w then x else nums j
def LBs (S0 : Sg) (N0 : Nat) : Prop := 10000 ≤ N0 ∧ sK S0 N0 % 32 = 6 ∧ sR S0 N0 2 = some (N0 + 1) ∧ sR S0 N0 3 = some (N0 + 2) ∧ ∀ x, x < N0 → ¬ sK S0 x = 20 + 32 * N0
/-- the law that is read -/
def RLs (S0 S : Sg) (N0 N : Nat) (nums : Nat → Int32) (tc : Nat) (th : Nat → Nat) (tv : Nat → Nat → Int32) : Prop := okS S ∧ GN S N ∧ N0 + 3 ≤ N ∧ (∀ x, x ≤ N0 → ¬ x = 1020 → vw S x = vw S0 x) ∧ stru S 1020 = stru S0 1020 ∧ sI S 1020 0 = sI S0 1020 0 ∧ (sK S (N0 + 2) % 32 = 16 ∧ sN S (N0 + 2) = 21 ∧ ∀ w, w < 21 → sI S (N0 + 2) w = nums w) ∧ Lst S (N0 + 1) N0 th tc ∧ tc ≤ 24 ∧ ∀ i, i < tc → sK S (th i) % 32 = 11 ∧ N0 + 3 ≤ th i ∧ ∀ k, k < 4 → sI S (th i) k = tv i k
/-- all that holds while statements are read -/
def CSs (S0 S : Sg) (f : Nat → Nat) (n N0 N : Nat) (nums : Nat → Int32) (tc : Nat) (th : Nat → Nat) (tv : Nat → Nat → Int32) (m : Nat ⊕ Nat) : Prop := LBs S0 N0 ∧ RLs S0 S N0 N nums tc th tv ∧ TP S f n ∧ LM S f n m
section CT
variable {S0 S T : Sg} {f : Nat → Nat} {n N0 N tc : Nat} {nums : Nat → Int32} {th : Nat → Nat} {tv : Nat → Nat → Int32} {m : Nat ⊕ Nat}
theorem okS_tx (h : okS S) (g : TX S T) : okS T := ⟨(g.1 1 (by omega)).trans h.1, (g.1 2 (by omega)).trans h.2.1, fun x hx => by rw [stK (g.2.1 x)] at hx ⊢; exact h.2.2 x hx⟩
theorem RLs.tx (h : RLs S0 S N0 N nums tc th tv) (hb : LBs S0 N0) (g : TX S T) : RLs S0 T N0 N nums tc th tv := by
  obtain ⟨h1, h2, h3, h4, h5, h6, h7, h8, h9, h10⟩ := h
  have b := hb.1
  refine ⟨okS_tx h1 g, ⟨h2.1, fun x hx => by rw [stK (g.2.1 x)]; exact h2.2 x hx⟩, h3, fun x hx hx2 => (g.1 x hx2).trans (h4 x hx hx2), (g.2.1 1020).trans h5, (g.2.2 0 (by omega)).trans h6, ?_, h8.keep (g.1 _ (by omega)) (fun a a1 a2 => g.1 a (by omega)) (g.1 2 (by omega)), h9, fun i hi => ?_⟩
  · rw [vwK (g.1 (N0 + 2) (by omega)), vwN (g.1 (N0 + 2) (by omega)), vwI (g.1 (N0 + 2) (by omega))]; exact h7
  · have t := h10 i hi
    rw [vwK (g.1 (th i) (by omega)), vwI (g.1 (th i) (by omega))]; exact t
theorem CSs.tx {m' : Nat ⊕ Nat} (h : CSs S0 S f n N0 N nums tc th tv m) (g : TX S T) (l : LM T f n m') : CSs S0 T f n N0 N nums tc th tv m' := ⟨h.1, h.2.1.tx h.1 g, h.2.2.1.tx g, l⟩
theorem stepN_le {lo hi : Nat} (hl : lo ≤ hi) (m : Nat ⊕ Nat) : lo ≤ (stepN f n lo hi m).1 ∧ (stepN f n lo hi m).1 ≤ hi := by
  cases m with
  | inl q => exact ⟨Nat.le_refl _, hl⟩
  | inr p =>
    by_cases h : numP f n lo hi p
    · rw [stepN_y h]; exact h.2.2
    · rw [stepN_n h]; exact ⟨Nat.le_refl _, hl⟩
/-- cells beyond the law's object change: the tape's own stand -/
theorem LM.vw {T : Sg} (h : LM S f n m) (g : vw T 1020 = vw S 1020) : LM T f n m := by
  cases m with
  | inl q => exact ⟨by rw [vwI g]; exact h.1, h.2⟩
  | inr p => exact ⟨by rw [vwI g]; exact h.1, h.2.1, h.2.2.1, by rw [vwI g]; exact h.2.2.2.1, by rw [vwI g]; exact h.2.2.2.2⟩
theorem TP.vw {T : Sg} (h : TP S f n) (g : vw T 1020 = vw S 1020) (g2 : vw T 1021 = vw S 1021) : TP T f n := by
  obtain ⟨h1, h2, h3, h4, h5, h6, h7⟩ := h
  exact ⟨by rw [vwK g]; exact h1, by rw [vwR g]; exact h2, by rw [vwK g2]; exact h3, by rw [vwN g2]; exact h4, h5, by rw [vwI g]; exact h6, fun j hj => by rw [vwI g2]; exact h7 j hj⟩
theorem x_put {w : Nat} {v : Int32} {Q : Unit → Sg → Prop} (h : CSs S0 S f n N0 N nums tc th tv m) (hw : w < 21) (k : ∀ S', CSs S0 S' f n N0 N (putV w v nums) tc th tv m → Q () S') : P_X4_put N0 (Int32.ofNat w) v S Q := by
  obtain ⟨hb, hr, hp, hm⟩ := h
  have hr0 := hr
  obtain ⟨h1, h2, h3, h4, h5, h6, h7, h8, h9, h10⟩ := hr
  have b := hb.1
  have v0 := h4 N0 (Nat.le_refl _) (by omega)
  have r3 : sR S N0 3 = some (N0 + 2) := by rw [vwR v0]; exact hb.2.2.2.1
  unfold P_X4_put
  refine ⟨fun z => absurd z (nat32_nn (by omega)), fun _ => ⟨by rw [vwK v0]; exact hb.2.1, N0 + 2, r3, h7.1, fun z => ?_, fun _ => ⟨N0 + 2, r3, h7.1, by rw [h7.2.1, vp_n (by omega)]; exact hw, fun s ws => ?_⟩⟩⟩
  · rw [h7.2.1, nI_n, nn_le (by omega) (by omega)] at z; omega
  · rw [nat32c (by omega)] at ws
    have vs : ∀ x, ¬ x = N0 + 2 → vw s x = vw S x := fun x hx => by rw [ws]; exact vw_pI hx
    refine k s ⟨hb, ⟨by rw [ws]; exact okS_pI h1 (by omega), by rw [ws]; exact h2, h3, fun x hx hx2 => (vs x (by omega)).trans (h4 x hx hx2), by rw [ws]; exact h5, by rw [vwI (vs 1020 (by omega))]; exact h6, ⟨by rw [ws]; exact h7.1, by rw [ws]; exact h7.2.1, fun j hj => ?_⟩, h8.keep (vs _ (by omega)) (fun a a1 a2 => vs a (fun e => ?_)) (vs 2 (by omega)), h9, fun i hi => ?_⟩, hp.vw (vs 1020 (by omega)) (vs 1021 (by omega)), hm.vw (vs 1020 (by omega))⟩
    · rw [ws]
      unfold putV
      by_cases e : j = w
      · subst e; rw [sI_pI_eq, if_pos rfl]
      · rw [sI_pI_ne (by omega), if_neg e]; exact h7.2.2 j hj
    · rw [e] at a2
      have := h7.1
      omega
    · have t := h10 i hi
      rw [vwK (vs (th i) (by omega)), vwI (vs (th i) (by omega))]; exact t
theorem x_rdN {w : Nat} {Q : Unit → Sg → Prop} (h : CSs S0 S f n N0 N nums tc th tv m) (hw : w < 21) (k : ∀ S', CSs S0 S' f n N0 N (putV w (Int32.ofNat (stepN f n 0 9999 m).1) nums) tc th tv (stepN f n 0 9999 m).2 → Q () S') : P_X7_readNumber 1020 (some N0) (Int32.ofNat w) S Q := by
  unfold P_X7_readNumber
  refine ⟨h.2.2.1.1, x_number (lo := 0) (hi := 9999) h.2.2.1 h.2.2.2 (by omega) (by omega) (fun S' g l => ?_)⟩
  have h' := h.tx g l
  refine ⟨N0, rfl, ?_, x_put h' hw k⟩
  rw [vwK (h'.2.1.2.2.2.1 N0 (Nat.le_refl _) (by have := h.1.1; omega))]
  exact h.1.2.1
theorem x_nd {i : Nat} {Q : Unit → Sg → Prop} (h : CSs S0 S f n N0 N nums tc th tv m) (hi : i < 19) (k : ∀ S', CSs S0 S' f n N0 N nums tc th tv (stepW f n i m) → Q () S') : P_X7_need 1020 i S Q :=
  x_need h.2.2.1 h.2.2.2 hi (fun S' g l => k S' (h.tx g l))
theorem x_nb {lo hi : Nat} {Q : Int32 → Sg → Prop} (h : CSs S0 S f n N0 N nums tc th tv m) (hlo : lo ≤ 9999) (hhi : hi ≤ 9999) (k : ∀ S', CSs S0 S' f n N0 N nums tc th tv (stepN f n lo hi m).2 → Q (Int32.ofNat (stepN f n lo hi m).1) S') : P_X7_number 1020 (Int32.ofNat lo) (Int32.ofNat hi) S Q :=
  x_number h.2.2.1 h.2.2.2 hlo hhi (fun S' g l => k S' (h.tx g l))
theorem x_259 {b : Nat × Nat} {Q : Unit → Sg → Prop} (h : CSs S0 S f n N0 N nums tc th tv m) (k : ∀ S', CSs S0 S' f n N0 N nums tc th tv (stepW f n 18 m) → Q () S') : P_X7_readStatement_B259 1020 S b Q := by
  unfold P_X7_readStatement_B259
  exact ⟨h.2.2.1.1, x_nd h (by omega) k⟩
theorem x_look {Q : Unit → Sg → Prop} (h : CSs S0 S f n N0 N nums tc th tv m) (k : ∀ S' nums', CSs S0 S' f n N0 N nums' tc th tv (stepN f n 0 9999 (stepW f n 5 (stepN f n 0 9999 (stepW f n 3 (stepN f n 0 3 m).2)).2)).2 → nums' = putV (14 + 2 * (stepN f n 0 3 m).1) (Int32.ofNat (stepN f n 0 9999 (stepW f n 5 (stepN f n 0 9999 (stepW f n 3 (stepN f n 0 3 m).2)).2)).1) (putV (13 + 2 * (stepN f n 0 3 m).1) (Int32.ofNat (stepN f n 0 9999 (stepW f n 3 (stepN f n 0 3 m).2)).1) nums) → Q () S') : P_X7_readLook 1020 (some N0) S Q := by
  have g3 := (stepN_le (f := f) (n := n) (lo := 0) (hi := 3) (by omega) m).2
  unfold P_X7_readLook
  refine ⟨h.2.2.1.1, x_nb (lo := 0) (hi := 3) h (by omega) (by omega) (fun s1 h1 => x_nd h1 (by omega) (fun s2 h2 => x_nb (lo := 0) (hi := 9999) h2 (by omega) (by omega) (fun s3 h3 => ⟨N0, rfl, ?_, ?_⟩)))⟩
  · rw [vwK (h3.2.1.2.2.2.1 N0 (Nat.le_refl _) (by have := h.1.1; omega))]
    exact h.1.2.1
  · rw [show (2 : Int32) = Int32.ofNat 2 from rfl, n_mul, show (13 : Int32) = Int32.ofNat 13 from rfl, n_add, show (14 : Int32) = Int32.ofNat 14 from rfl, n_add]
    exact x_put h3 (by omega) (fun s4 h4 => x_nd h4 (by omega) (fun s5 h5 => x_nb (lo := 0) (hi := 9999) h5 (by omega) (by omega) (fun s6 h6 => x_put h6 (by omega) (fun s7 h7 => k s7 _ h7 rfl))))
theorem x_turnRd {b : Nat × Nat} {Q : Unit → Sg → Prop} (h : CSs S0 S f n N0 N nums tc th tv m) (ht : tc < 24) (hb1 : 2 ≤ b.1) (hb2 : 70 ≤ b.2) (k : ∀ S' N' th', N ≤ N' → CSs S0 S' f n N0 N' nums (tc + 1) th' (fun i j => if i = tc then Int32.ofNat (if j = 0 then (stepN f n 0 9999 m).1 else if j = 1 then (stepN f n 0 9999 (stepW f n 1 (stepN f n 0 9999 m).2)).1 else if j = 2 then (stepN f n 1 9999 (stepW f n 2 (stepN f n 0 9999 (stepW f n 1 (stepN f n 0 9999 m).2)).2)).1 else (stepN f n 0 9999 (stepW f n 3 (stepN f n 1 9999 (stepW f n 2 (stepN f n 0 9999 (stepW f n 1 (stepN f n 0 9999 m).2)).2)).2)).1) else tv i j) (stepN f n 0 9999 (stepW f n 3 (stepN f n 1 9999 (stepW f n 2 (stepN f n 0 9999 (stepW f n 1 (stepN f n 0 9999 m).2)).2)).2)).2 → Q () S') : P_X7_readTurn 1020 (some N0) S b Q := by
  unfold P_X7_readTurn
  refine ⟨h.2.2.1.1, x_nb (lo := 0) (hi := 9999) h (by omega) (by omega) (fun s1 h1 => x_nd h1 (by omega) (fun s2 h2 => x_nb (lo := 0) (hi := 9999) h2 (by omega) (by omega) (fun s3 h3 => x_nd h3 (by omega) (fun s4 h4 => x_nb (lo := 1) (hi := 9999) h4 (by omega) (by omega) (fun s5 h5 => x_nd h5 (by omega) (fun s6 h6 => x_nb (lo := 0) (hi := 9999) h6 (by omega) (by omega) (fun s7 h7 => ?_)))))))⟩
  generalize (stepN f n 0 9999 m).1 = a at *
  generalize (stepN f n 0 9999 (stepW f n 1 (stepN f n 0 9999 m).2)).1 = b2 at *
  generalize (stepN f n 1 9999 (stepW f n 2 (stepN f n 0 9999 (stepW f n 1 (stepN f n 0 9999 m).2)).2)).1 = c at *
  generalize (stepN f n 0 9999 (stepW f n 3 (stepN f n 1 9999 (stepW f n 2 (stepN f n 0 9999 (stepW f n 1 (stepN f n 0 9999 m).2)).2)).2)).1 = d at *
  generalize (stepN f n 0 9999 (stepW f n 3 (stepN f n 1 9999 (stepW f n 2 (stepN f n 0 9999 (stepW f n 1 (stepN f n 0 9999 m).2)).2)).2)).2 = mm at *
  clear h1 h2 h3 h4 h5 h6
  obtain ⟨hb, hr, hp, hm⟩ := h7
  obtain ⟨r1, r2, r3, r4, r5, r6, r7, r8, r9, r10⟩ := hr
  have lb := hb.1
  have v0 := r4 N0 (Nat.le_refl _) (by omega)
  have e2 : sR s7 N0 2 = some (N0 + 1) := by rw [vwR v0]; exact hb.2.2.1
  have n0 := r2.2 N (Nat.le_refl _)
  refine ⟨N0, rfl, by rw [vwK v0]; exact hb.2.1, 11, N, by decide, by omega, by omega, n0, by omega, fun z hz => ?_, fun t1 w1 => p_turnInit (by rw [w1, sK_nw, if_pos rfl]) ⟨N0 + 1, e2, ?_, (1, 66), by show 1 ≤ b.1 - 1; omega, by show 66 ≤ b.2 - 4; omega, ?_⟩⟩
  · rw [e2] at hz; cases hz; have := r8.1; omega
  · rw [w1]
    simp only [sK_pI]
    rw [sK_nw, if_neg (by omega)]
    exact r8.1
  · have vt : ∀ x, ¬ x = N → vw (pI (pI (pI (pI t1 N 0 (Int32.ofNat a)) N 1 (Int32.ofNat b2)) N 2 (Int32.ofNat c)) N 3 (Int32.ofNat d)) x = vw s7 x := fun x hx => by rw [vw_pI hx, vw_pI hx, vw_pI hx, vw_pI hx, w1, vw_nw hx]
    have kt : ∀ x, ¬ x = N → sK (pI (pI (pI (pI t1 N 0 (Int32.ofNat a)) N 1 (Int32.ofNat b2)) N 2 (Int32.ofNat c)) N 3 (Int32.ofNat d)) x = sK s7 x := fun x hx => vwK (vt x hx)
    have kN : sK (pI (pI (pI (pI t1 N 0 (Int32.ofNat a)) N 1 (Int32.ofNat b2)) N 2 (Int32.ofNat c)) N 3 (Int32.ofNat d)) N = 11 := by rw [w1]; simp only [sK_pI]; rw [sK_nw, if_pos rfl]
    have iN : ∀ j, j < 4 → sI (pI (pI (pI (pI t1 N 0 (Int32.ofNat a)) N 1 (Int32.ofNat b2)) N 2 (Int32.ofNat c)) N 3 (Int32.ofNat d)) N j = Int32.ofNat (if j = 0 then a else if j = 1 then b2 else if j = 2 then c else d) := fun j hj => by
      have : j = 0 ∨ j = 1 ∨ j = 2 ∨ j = 3 := by omega
      rcases this with rfl | rfl | rfl | rfl <;> simp (disch := first | omega | decide) only [sI_pI_ne, sI_pI_eq, if_true, if_false, Nat.reduceEqDiff]
    generalize pI (pI (pI (pI t1 N 0 (Int32.ofNat a)) N 1 (Int32.ofNat b2)) N 2 (Int32.ofNat c)) N 3 (Int32.ofNat d) = t5 at *
    have thN : ∀ i, i < tc → ¬ th i = N := fun i hi e => by have := (r10 i hi).1; rw [e, n0] at this; omega
    have L := r8.keep (S' := t5) (vt _ (by omega)) (fun x x1 x2 => vt x (fun e => by rw [e, n0] at x2; omega)) (vt 2 (by omega))
    refine p_add (N := N + 1) L (by omega) (by rw [kN]; decide) (fun i hi => by rw [kt _ (thN i hi)]; have := (r10 i hi).1; omega) (fun x hx => by rw [kt x (by omega)]; exact r2.2 x (by omega)) (by omega) (by decide) (by show 2 * tc + 10 ≤ 66; omega) (fun S' L' hA => ?_)
    obtain ⟨a1, a2, a3, a4⟩ := hA
    have fr : ∀ x, ¬ x = N → ¬ x = N0 + 1 → ¬ (10000 ≤ x ∧ sK s7 x = 20 + 32 * N0) → ¬ x = N + 1 → vw S' x = vw s7 x := fun x x1 x2 x3 x4 => by
      rw [a1 x x2 (fun z => x3 ⟨z.1, by have := z.2; rw [kt x x1] at this; exact this⟩) x4, vt x x1]
    have fo : ∀ x, x ≤ N0 → vw S' x = vw s7 x := fun x hx => fr x (by omega) (by omega) (fun z => by
      by_cases e : x = N0
      · rw [e, vwK v0] at z; have := hb.2.1; omega
      · by_cases e3 : x = 1020
        · rw [e3] at z; have := hp.1; omega
        · rw [vwK (r4 x hx e3)] at z
          exact hb.2.2.2.2 x (by omega) z.2) (by omega)
    have kS : ∀ x, ¬ x = N + 1 → ¬ x = N → sK S' x = sK s7 x := fun x x1 x2 => by rw [a4 x x1, kt x x2]
    have kSN : sK S' N = 11 := by rw [a4 N (by omega), kN]
    have vSN : vw S' N = vw t5 N := a1 N (by omega) (fun z => by have := z.2; rw [kN] at this; omega) (by omega)
    have z1 : sK s7 (N + 1) = 0 := r2.2 (N + 1) (by omega)
    refine k S' (N + 2) _ (by omega) ⟨hb, ⟨⟨(fo 1 (by omega)).trans r1.1, (fo 2 (by omega)).trans r1.2.1, fun x hx => ?_⟩, ⟨by omega, fun x hx => a2 x (by omega)⟩, by omega, fun x hx hx2 => (fo x hx).trans (r4 x hx hx2), (stru_vw (fo 1020 (by omega))).trans r5, by rw [vwI (fo 1020 (by omega))]; exact r6, ?_, L', by omega, fun i hi => ?_⟩, hp.vw (fo 1020 (by omega)) (fo 1021 (by omega)), hm.vw (fo 1020 (by omega))⟩
    · by_cases e : x = N + 1
      · subst e
        rcases a3 with z | z
        · exfalso
          apply hx
          rw [vwK z, kt _ (by omega)]; exact z1
        · refine Or.inr (Or.inr ?_)
          rw [z]; unfold wr; omega
      · by_cases e2 : x = N
        · subst e2; refine Or.inr (Or.inr ?_); rw [kSN]; unfold wr; omega
        · rw [kS x e e2] at hx ⊢; exact r1.2.2 x hx
    · have v2 := fr (N0 + 2) (by omega) (by omega) (fun z => by have := r7.1; have := z.2; omega) (by omega)
      rw [vwK v2, vwN v2, vwI v2]; exact r7
    · by_cases e : i = tc
      · subst e
        simp only [if_true]
        refine ⟨by rw [kSN], by omega, fun j hj => ?_⟩
        rw [vwI vSN]; exact iN j hj
      · have t := r10 i (by omega)
        have n1 := thN i (by omega)
        have n2 : ¬ th i = N + 1 := fun q => by rw [q, z1] at t; omega
        have v2 := fr (th i) n1 (by omega) (fun z => by have := t.1; have := z.2; omega) n2
        simp only [e, if_false]
        rw [vwK v2, vwI v2]; exact t
end CT
