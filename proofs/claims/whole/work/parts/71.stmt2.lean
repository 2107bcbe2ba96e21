/-! ===== level 2: a whole statement, class side ===== -/
def tvW (st : Nat × Nat × Nat × Nat × Nat) (tc : Nat) (tv : Nat → Nat → Int32) (i j : Nat) : Int32 := if st.1 = 30 ∧ i = tc then Int32.ofNat (if j = 0 then st.2.1 else if j = 1 then st.2.2.1 else if j = 2 then st.2.2.2.1 else st.2.2.2.2) else tv i j
section S7
variable {S0 S T : Sg} {f : Nat → Nat} {n N0 N tc : Nat} {nums : Nat → Int32} {th : Nat → Nat} {tv : Nat → Nat → Int32} {m : Nat ⊕ Nat}
theorem kwF_y {p i : Nat} {a b : (Nat × Nat × Nat × Nat × Nat) × (Nat ⊕ Nat)} (h : tokW f n i p) : kwF f n p i a b = a := by
  unfold kwF; exact if_pos h
theorem kwF_n {p i : Nat} {a b : (Nat × Nat × Nat × Nat × Nat) × (Nat ⊕ Nat)} (h : ¬ tokW f n i p) : kwF f n p i a b = b := by
  unfold kwF; exact if_neg h
theorem CSs.cg {nums' : Nat → Int32} {tv' : Nat → Nat → Int32} (h : CSs S0 S f n N0 N nums tc th tv m) (e1 : ∀ w, w < 21 → nums w = nums' w) (e2 : ∀ i j, i < tc → j < 4 → tv i j = tv' i j) : CSs S0 S f n N0 N nums' tc th tv' m := by
  obtain ⟨hb, ⟨h1, h2, h3, h4, h5, h6, h7, h8, h9, h10⟩, hp, hm⟩ := h
  exact ⟨hb, ⟨h1, h2, h3, h4, h5, h6, ⟨h7.1, h7.2.1, fun w hw => (h7.2.2 w hw).trans (e1 w hw)⟩, h8, h9, fun i hi => ⟨(h10 i hi).1, (h10 i hi).2.1, fun k hk => ((h10 i hi).2.2 k hk).trans (e2 i k hi hk)⟩⟩, hp, hm⟩
theorem x_sk {i p : Nat} {Q : Int32 → Sg → Prop} (h : CSs S0 S f n N0 N nums tc th tv (.inr p)) (hi : i < 19) (k1 : tokW f n i p → ∀ S', CSs S0 S' f n N0 N nums tc th tv (.inr (sk f n (te f n p))) → Q 1 S') (k0 : ¬ tokW f n i p → Q 0 S) : P_X7_skips 1020 i S Q :=
  x_skips h.2.2.1 h.2.2.2 hi (fun t S' g l => k1 t S' (h.tx g l)) k0
theorem x_stmt {p : Nat} {b : Nat × Nat} {Q : Unit → Sg → Prop} (h : CSs S0 S f n N0 N nums tc th tv (.inr p)) (ht : tc < 24) (hb1 : 2 ≤ b.1) (hb2 : 70 ≤ b.2) (k : ∀ S' N' th', N ≤ N' → CSs S0 S' f n N0 N' (fun w => updW (stF f n p).1 w (nums w)) (tc + if (stF f n p).1.1 = 30 then 1 else 0) th' (tvW (stF f n p).1 tc tv) (stF f n p).2 → Q () S') : P_X7_readStatement 1020 (some N0) S b Q := by
  have fin : ∀ X, stF f n p = X → ∀ S' N' nums' tc' th' tv', N ≤ N' → CSs S0 S' f n N0 N' nums' tc' th' tv' X.2 → (∀ w, w < 21 → nums' w = updW X.1 w (nums w)) → tc' = tc + (if X.1.1 = 30 then 1 else 0) → (∀ i j, i < tc' → j < 4 → tv' i j = tvW X.1 tc tv i j) → Q () S' := fun X e S' N' nums' tc' th' tv' l1 l2 l3 l4 l5 => by
    subst e; subst l4
    exact k S' N' th' l1 (l2.cg l3 l5)
  unfold P_X7_readStatement
  refine ⟨h.2.2.1.1, x_sk h (by omega) (fun y0 s1 h1 => ⟨fun z => absurd z (by decide), fun _ => ?_⟩) (fun n0 => ⟨fun _ => ?_, fun z => absurd rfl z⟩)⟩
  · refine ⟨b, Nat.le_refl _, Nat.le_refl _, x_turnRd h1 ht hb1 hb2 (fun s2 N2 th2 l2 h2 => x_259 h2 (fun s3 h3 => fin (turnS f n (.inr (sk f n (te f n p)))) (by unfold stF; rw [kwF_y y0]) s3 N2 _ _ _ _ l2 h3 (fun w hw => ?_) rfl (fun i j hi hj => ?_)))⟩
    · simp [turnS, updW]; omega
    · simp [turnS, tvW]
  refine x_sk h (by omega) (fun y4 s1 h1 => ⟨fun z => absurd z (by decide), fun _ => ?_⟩) (fun n4 => ⟨fun _ => ?_, fun z => absurd rfl z⟩)
  · refine x_look h1 (fun s2 nu h2 hnu => x_259 h2 (fun s3 h3 => fin (lookS f n (.inr (sk f n (te f n p)))) (by unfold stF; rw [kwF_n n0, kwF_y y4]) s3 N _ _ _ _ (Nat.le_refl _) h3 (fun w hw => ?_) rfl (fun i j hi hj => by simp [lookS, tvW])))
    rw [hnu]; simp [lookS, updW, putV]; rfl
  refine x_sk h (by omega) (fun y6 s1 h1 => ⟨fun z => absurd z (by decide), fun _ => ?_⟩) (fun n6 => ⟨fun _ => ?_, fun z => absurd rfl z⟩)
  · exact x_rdN (w := 0) h1 (by omega) (fun s2 h2 => x_259 h2 (fun s3 h3 => fin (oneS f n 0 (.inr (sk f n (te f n p)))) (by unfold stF; rw [kwF_n n0, kwF_n n4, kwF_y y6]) s3 N _ _ _ _ (Nat.le_refl _) h3 (fun w hw => by simp [oneS, updW, putV]) rfl (fun i j hi hj => by simp [oneS, tvW])))
  refine x_sk h (by omega) (fun y7 s1 h1 => ⟨fun z => absurd z (by decide), fun _ => ?_⟩) (fun n7 => ⟨fun _ => ?_, fun z => absurd rfl z⟩)
  · refine x_rdN (w := 1) h1 (by omega) (fun s2 h2 => x_nd h2 (by omega) (fun s3 h3 => x_rdN (w := 2) h3 (by omega) (fun s4 h4 => x_259 h4 (fun s5 h5 => fin (twoS f n 1 5 (.inr (sk f n (te f n p)))) (by unfold stF; rw [kwF_n n0, kwF_n n4, kwF_n n6, kwF_y y7]) s5 N _ _ _ _ (Nat.le_refl _) h5 (fun w hw => ?_) rfl (fun i j hi hj => by simp [twoS, tvW])))))
    by_cases e1 : w = 1
    · subst e1; simp [twoS, updW, putV]
    · by_cases e2 : w = 2
      · subst e2; simp [twoS, updW, putV]
      · simp [twoS, updW, putV, e1, e2]
  refine x_sk h (by omega) (fun y8 s1 h1 => ⟨fun z => absurd z (by decide), fun _ => ?_⟩) (fun n8 => ⟨fun _ => ?_, fun z => absurd rfl z⟩)
  · exact x_rdN (w := 3) h1 (by omega) (fun s2 h2 => x_259 h2 (fun s3 h3 => fin (oneS f n 3 (.inr (sk f n (te f n p)))) (by unfold stF; rw [kwF_n n0, kwF_n n4, kwF_n n6, kwF_n n7, kwF_y y8]) s3 N _ _ _ _ (Nat.le_refl _) h3 (fun w hw => by simp [oneS, updW, putV]) rfl (fun i j hi hj => by simp [oneS, tvW])))
  refine x_sk h (by omega) (fun y9 s1 h1 => ⟨fun z => absurd z (by decide), fun _ => ?_⟩) (fun n9 => ⟨fun _ => ?_, fun z => absurd rfl z⟩)
  · exact x_rdN (w := 4) h1 (by omega) (fun s2 h2 => x_259 h2 (fun s3 h3 => fin (oneS f n 4 (.inr (sk f n (te f n p)))) (by unfold stF; rw [kwF_n n0, kwF_n n4, kwF_n n6, kwF_n n7, kwF_n n8, kwF_y y9]) s3 N _ _ _ _ (Nat.le_refl _) h3 (fun w hw => by simp [oneS, updW, putV]) rfl (fun i j hi hj => by simp [oneS, tvW])))
  refine x_sk h (by omega) (fun y10 s1 h1 => ⟨fun z => absurd z (by decide), fun _ => ?_⟩) (fun n10 => ⟨fun _ => ?_, fun z => absurd rfl z⟩)
  · exact x_rdN (w := 5) h1 (by omega) (fun s2 h2 => x_259 h2 (fun s3 h3 => fin (oneS f n 5 (.inr (sk f n (te f n p)))) (by unfold stF; rw [kwF_n n0, kwF_n n4, kwF_n n6, kwF_n n7, kwF_n n8, kwF_n n9, kwF_y y10]) s3 N _ _ _ _ (Nat.le_refl _) h3 (fun w hw => by simp [oneS, updW, putV]) rfl (fun i j hi hj => by simp [oneS, tvW])))
  refine x_sk h (by omega) (fun y11 s1 h1 => ⟨fun z => absurd z (by decide), fun _ => ?_⟩) (fun n11 => ⟨fun _ => ?_, fun z => absurd rfl z⟩)
  · exact x_rdN (w := 6) h1 (by omega) (fun s2 h2 => x_259 h2 (fun s3 h3 => fin (oneS f n 6 (.inr (sk f n (te f n p)))) (by unfold stF; rw [kwF_n n0, kwF_n n4, kwF_n n6, kwF_n n7, kwF_n n8, kwF_n n9, kwF_n n10, kwF_y y11]) s3 N _ _ _ _ (Nat.le_refl _) h3 (fun w hw => by simp [oneS, updW, putV]) rfl (fun i j hi hj => by simp [oneS, tvW])))
  refine x_sk h (by omega) (fun y12 s1 h1 => ⟨fun z => absurd z (by decide), fun _ => ?_⟩) (fun n12 => ⟨fun _ => ?_, fun z => absurd rfl z⟩)
  · refine x_rdN (w := 7) h1 (by omega) (fun s2 h2 => x_nd h2 (by omega) (fun s3 h3 => x_rdN (w := 8) h3 (by omega) (fun s4 h4 => x_nd h4 (by omega) (fun s5 h5 => x_rdN (w := 9) h5 (by omega) (fun s6 h6 => x_259 h6 (fun s7 h7 => fin (thrS f n 7 13 14 (.inr (sk f n (te f n p)))) (by unfold stF; rw [kwF_n n0, kwF_n n4, kwF_n n6, kwF_n n7, kwF_n n8, kwF_n n9, kwF_n n10, kwF_n n11, kwF_y y12]) s7 N _ _ _ _ (Nat.le_refl _) h7 (fun w hw => ?_) rfl (fun i j hi hj => by simp [thrS, tvW])))))))
    by_cases e1 : w = 7
    · subst e1; simp [thrS, updW, putV]
    · by_cases e2 : w = 8
      · subst e2; simp [thrS, updW, putV]
      · by_cases e3 : w = 9
        · subst e3; simp [thrS, updW, putV]
        · simp [thrS, updW, putV, e1, e2, e3]
  refine x_sk h (by omega) (fun y15 s1 h1 => ⟨fun z => absurd z (by decide), fun _ => ?_⟩) (fun n15 => ⟨fun _ => ?_, fun z => absurd rfl z⟩)
  · refine x_rdN (w := 10) h1 (by omega) (fun s2 h2 => x_nd h2 (by omega) (fun s3 h3 => x_rdN (w := 11) h3 (by omega) (fun s4 h4 => x_259 h4 (fun s5 h5 => fin (twoS f n 10 16 (.inr (sk f n (te f n p)))) (by unfold stF; rw [kwF_n n0, kwF_n n4, kwF_n n6, kwF_n n7, kwF_n n8, kwF_n n9, kwF_n n10, kwF_n n11, kwF_n n12, kwF_y y15]) s5 N _ _ _ _ (Nat.le_refl _) h5 (fun w hw => ?_) rfl (fun i j hi hj => by simp [twoS, tvW])))))
    by_cases e1 : w = 10
    · subst e1; simp [twoS, updW, putV]
    · by_cases e2 : w = 11
      · subst e2; simp [twoS, updW, putV]
      · simp [twoS, updW, putV, e1, e2]
  refine x_sk h (by omega) (fun y17 s1 h1 => ⟨fun z => absurd z (by decide), fun _ => ?_⟩) (fun n17 => ⟨fun _ => ?_, fun z => absurd rfl z⟩)
  · exact x_rdN (w := 12) h1 (by omega) (fun s2 h2 => x_259 h2 (fun s3 h3 => fin (oneS f n 12 (.inr (sk f n (te f n p)))) (by unfold stF; rw [kwF_n n0, kwF_n n4, kwF_n n6, kwF_n n7, kwF_n n8, kwF_n n9, kwF_n n10, kwF_n n11, kwF_n n12, kwF_n n15, kwF_y y17]) s3 N _ _ _ _ (Nat.le_refl _) h3 (fun w hw => by simp [oneS, updW, putV]) rfl (fun i j hi hj => by simp [oneS, tvW])))
  intro s1 w1
  obtain ⟨q1, q2, q3, q4, q5⟩ := h.2.2.2
  rw [q4] at w1
  have h1 : CSs S0 s1 f n N0 N nums tc th tv (.inl p) := h.tx (by rw [w1]; exact (TX.refl S).pI (Or.inr (Or.inr rfl))) (by rw [w1]; exact ⟨sI_pI_eq, q2⟩)
  refine x_259 h1 (fun s3 h3 => fin ((32, 0, 0, 0, 0), .inl p) (by unfold stF; rw [kwF_n n0, kwF_n n4, kwF_n n6, kwF_n n7, kwF_n n8, kwF_n n9, kwF_n n10, kwF_n n11, kwF_n n12, kwF_n n15, kwF_n n17]) s3 N _ _ _ _ (Nat.le_refl _) h3 (fun w hw => ?_) rfl (fun i j hi hj => by simp [tvW]))
  have e32 : ¬ w = 32 := by omega
  simp [updW, e32]
end S7
