/-! ===== level 2: a whole statement, reference side ===== -/
section M4
variable {T U : Sg} {f : Nat → Nat} {n q R : Nat}
theorem tok_u {i j p : Nat} (hi : i < 18) (hj : j < 18) (a : tokW f n i p) (b : tokW f n j p) : i = j := by
  have e : wl i = wl j := by have := a.1; have := b.1; omega
  exact tok_k i hi j hj e (fun t _ ht => by rw [← a.2 t ht, ← b.2 t (by omega)])
theorem tok_n {i j p : Nat} (a : tokW f n i p) (hi : i < 18) (hj : j < 18) (h : ¬ j = i) : ¬ tokW f n j p := fun b => h (tok_u hj hi b a)
theorem stF_0 {p : Nat} (a : tokW f n 0 p) : stF f n p = turnS f n (.inr (sk f n (te f n p))) := by
  unfold stF
  rw [kwF_y a]
theorem stF_4 {p : Nat} (a : tokW f n 4 p) : stF f n p = lookS f n (.inr (sk f n (te f n p))) := by
  unfold stF
  rw [kwF_n (tok_n a (by omega) (by omega) (by omega) : ¬ tokW f n 0 p), kwF_y a]
theorem stF_6 {p : Nat} (a : tokW f n 6 p) : stF f n p = oneS f n 0 (.inr (sk f n (te f n p))) := by
  unfold stF
  rw [kwF_n (tok_n a (by omega) (by omega) (by omega) : ¬ tokW f n 0 p), kwF_n (tok_n a (by omega) (by omega) (by omega) : ¬ tokW f n 4 p), kwF_y a]
theorem stF_7 {p : Nat} (a : tokW f n 7 p) : stF f n p = twoS f n 1 5 (.inr (sk f n (te f n p))) := by
  unfold stF
  rw [kwF_n (tok_n a (by omega) (by omega) (by omega) : ¬ tokW f n 0 p), kwF_n (tok_n a (by omega) (by omega) (by omega) : ¬ tokW f n 4 p), kwF_n (tok_n a (by omega) (by omega) (by omega) : ¬ tokW f n 6 p), kwF_y a]
theorem stF_8 {p : Nat} (a : tokW f n 8 p) : stF f n p = oneS f n 3 (.inr (sk f n (te f n p))) := by
  unfold stF
  rw [kwF_n (tok_n a (by omega) (by omega) (by omega) : ¬ tokW f n 0 p), kwF_n (tok_n a (by omega) (by omega) (by omega) : ¬ tokW f n 4 p), kwF_n (tok_n a (by omega) (by omega) (by omega) : ¬ tokW f n 6 p), kwF_n (tok_n a (by omega) (by omega) (by omega) : ¬ tokW f n 7 p), kwF_y a]
theorem stF_9 {p : Nat} (a : tokW f n 9 p) : stF f n p = oneS f n 4 (.inr (sk f n (te f n p))) := by
  unfold stF
  rw [kwF_n (tok_n a (by omega) (by omega) (by omega) : ¬ tokW f n 0 p), kwF_n (tok_n a (by omega) (by omega) (by omega) : ¬ tokW f n 4 p), kwF_n (tok_n a (by omega) (by omega) (by omega) : ¬ tokW f n 6 p), kwF_n (tok_n a (by omega) (by omega) (by omega) : ¬ tokW f n 7 p), kwF_n (tok_n a (by omega) (by omega) (by omega) : ¬ tokW f n 8 p), kwF_y a]
theorem stF_10 {p : Nat} (a : tokW f n 10 p) : stF f n p = oneS f n 5 (.inr (sk f n (te f n p))) := by
  unfold stF
  rw [kwF_n (tok_n a (by omega) (by omega) (by omega) : ¬ tokW f n 0 p), kwF_n (tok_n a (by omega) (by omega) (by omega) : ¬ tokW f n 4 p), kwF_n (tok_n a (by omega) (by omega) (by omega) : ¬ tokW f n 6 p), kwF_n (tok_n a (by omega) (by omega) (by omega) : ¬ tokW f n 7 p), kwF_n (tok_n a (by omega) (by omega) (by omega) : ¬ tokW f n 8 p), kwF_n (tok_n a (by omega) (by omega) (by omega) : ¬ tokW f n 9 p), kwF_y a]
theorem stF_11 {p : Nat} (a : tokW f n 11 p) : stF f n p = oneS f n 6 (.inr (sk f n (te f n p))) := by
  unfold stF
  rw [kwF_n (tok_n a (by omega) (by omega) (by omega) : ¬ tokW f n 0 p), kwF_n (tok_n a (by omega) (by omega) (by omega) : ¬ tokW f n 4 p), kwF_n (tok_n a (by omega) (by omega) (by omega) : ¬ tokW f n 6 p), kwF_n (tok_n a (by omega) (by omega) (by omega) : ¬ tokW f n 7 p), kwF_n (tok_n a (by omega) (by omega) (by omega) : ¬ tokW f n 8 p), kwF_n (tok_n a (by omega) (by omega) (by omega) : ¬ tokW f n 9 p), kwF_n (tok_n a (by omega) (by omega) (by omega) : ¬ tokW f n 10 p), kwF_y a]
theorem stF_12 {p : Nat} (a : tokW f n 12 p) : stF f n p = thrS f n 7 13 14 (.inr (sk f n (te f n p))) := by
  unfold stF
  rw [kwF_n (tok_n a (by omega) (by omega) (by omega) : ¬ tokW f n 0 p), kwF_n (tok_n a (by omega) (by omega) (by omega) : ¬ tokW f n 4 p), kwF_n (tok_n a (by omega) (by omega) (by omega) : ¬ tokW f n 6 p), kwF_n (tok_n a (by omega) (by omega) (by omega) : ¬ tokW f n 7 p), kwF_n (tok_n a (by omega) (by omega) (by omega) : ¬ tokW f n 8 p), kwF_n (tok_n a (by omega) (by omega) (by omega) : ¬ tokW f n 9 p), kwF_n (tok_n a (by omega) (by omega) (by omega) : ¬ tokW f n 10 p), kwF_n (tok_n a (by omega) (by omega) (by omega) : ¬ tokW f n 11 p), kwF_y a]
theorem stF_15 {p : Nat} (a : tokW f n 15 p) : stF f n p = twoS f n 10 16 (.inr (sk f n (te f n p))) := by
  unfold stF
  rw [kwF_n (tok_n a (by omega) (by omega) (by omega) : ¬ tokW f n 0 p), kwF_n (tok_n a (by omega) (by omega) (by omega) : ¬ tokW f n 4 p), kwF_n (tok_n a (by omega) (by omega) (by omega) : ¬ tokW f n 6 p), kwF_n (tok_n a (by omega) (by omega) (by omega) : ¬ tokW f n 7 p), kwF_n (tok_n a (by omega) (by omega) (by omega) : ¬ tokW f n 8 p), kwF_n (tok_n a (by omega) (by omega) (by omega) : ¬ tokW f n 9 p), kwF_n (tok_n a (by omega) (by omega) (by omega) : ¬ tokW f n 10 p), kwF_n (tok_n a (by omega) (by omega) (by omega) : ¬ tokW f n 11 p), kwF_n (tok_n a (by omega) (by omega) (by omega) : ¬ tokW f n 12 p), kwF_y a]
theorem stF_17 {p : Nat} (a : tokW f n 17 p) : stF f n p = oneS f n 12 (.inr (sk f n (te f n p))) := by
  unfold stF
  rw [kwF_n (tok_n a (by omega) (by omega) (by omega) : ¬ tokW f n 0 p), kwF_n (tok_n a (by omega) (by omega) (by omega) : ¬ tokW f n 4 p), kwF_n (tok_n a (by omega) (by omega) (by omega) : ¬ tokW f n 6 p), kwF_n (tok_n a (by omega) (by omega) (by omega) : ¬ tokW f n 7 p), kwF_n (tok_n a (by omega) (by omega) (by omega) : ¬ tokW f n 8 p), kwF_n (tok_n a (by omega) (by omega) (by omega) : ¬ tokW f n 9 p), kwF_n (tok_n a (by omega) (by omega) (by omega) : ¬ tokW f n 10 p), kwF_n (tok_n a (by omega) (by omega) (by omega) : ¬ tokW f n 11 p), kwF_n (tok_n a (by omega) (by omega) (by omega) : ¬ tokW f n 12 p), kwF_n (tok_n a (by omega) (by omega) (by omega) : ¬ tokW f n 15 p), kwF_y a]
theorem stF_e {p : Nat} (a : ∀ i, i < 18 → ¬ tokW f n i p) : stF f n p = ((32, 0, 0, 0, 0), .inl p) := by
  unfold stF
  rw [kwF_n (a 0 (by omega)), kwF_n (a 4 (by omega)), kwF_n (a 6 (by omega)), kwF_n (a 7 (by omega)), kwF_n (a 8 (by omega)), kwF_n (a 9 (by omega)), kwF_n (a 10 (by omega)), kwF_n (a 11 (by omega)), kwF_n (a 12 (by omega)), kwF_n (a 15 (by omega)), kwF_n (a 17 (by omega))]
theorem m_statement {p : Nat} {Q : Int32 → Sg → Prop} (h : MT T f n p) (hp : sk f n p = p) (hR : R < 264) (k1 : ∀ V q', TZ R T V → MT V f n q' → (stF f n p).2 = .inr (sk f n q') → rowE V R (stF f n p).1 → Q 1 V) (k0 : ∀ V r, TZ R T V → MT V f n r → (stF f n p).2 = .inl r → Q 0 V) : P_X11_statement 1000 (Int32.ofNat R) T Q := by
  have fin1 : ∀ X, stF f n p = X → ∀ pre, X.2 = stepW f n 18 pre → ∀ V q', TZ R T V → MT V f n q' → pre = .inr (sk f n q') → rowE V R X.1 → P_X11_statement_B114 1000 1 V Q := fun X e pre e2 V q' z m e3 r => by
    subst e; subst e3
    refine m_114 m (fun W q2 g1 g2 g3 => k1 W q2 (z.ty g1) g2 (e2.trans g3) ?_) (fun W g1 g2 g3 => k0 W _ (z.ty g1) g2 (e2.trans g3))
    unfold rowE at r ⊢
    rw [rowE_ty g1 1170 R (by omega), rowE_ty g1 1171 R (by omega), rowE_ty g1 1172 R (by omega), rowE_ty g1 1173 R (by omega), rowE_ty g1 1174 R (by omega)]
    exact r
  have fin0 : ∀ X, stF f n p = X → ∀ pre, X.2 = stepW f n 18 pre → ∀ V r, TZ R T V → MT V f n r → pre = .inl r → P_X11_statement_B114 1000 0 V Q := fun X e pre e2 V r z m e3 => by
    subst e; subst e3
    unfold P_X11_statement_B114
    exact ⟨fun _ => k0 V r z m e2, fun z => absurd rfl z⟩
  have hM := h.1.1
  have z0 : TZ R T T := TZ.refl hM
  unfold P_X11_statement
  refine ⟨hM.o, ?_⟩
  rw [w_turn]
  refine m_tk h (by omega) (fun V0 q0 g0 m0 y0 s0 t0 => ⟨fun z => absurd z (by decide), fun _ => ?_⟩) (fun V0 g0 m0 y0 s0 => ⟨fun _ => ?_, fun z => absurd rfl z⟩)
  · rw [hp] at y0 s0 t0
    have zz0 := z0.ty g0
    have e0 : sk f n q0 = sk f n (te f n p) := by rw [t0]
    exact m_turnsIn m0 hR (fun W r1 a1 a2 a3 a4 a5 a6 a7 a8 => fin1 _ (stF_0 y0) _ rfl W r1 (zz0.trans a1) a2 (by rw [← a3, e0]) ⟨a4, by rw [a5, e0]; rfl, fun _ => by rw [a6, e0]; rfl, fun _ => by rw [a7, e0]; rfl, fun _ => by rw [a8, e0]; rfl⟩) (fun W r a1 a2 a3 => fin0 _ (stF_0 y0) _ rfl W r (zz0.trans a1) a2 (by rw [← a3, e0]))
  rw [hp] at m0 y0
  have z0' := z0.ty g0
  rw [w_look]
  refine m_tk m0 (by omega) (fun V4 q4 g4 m4 y4 s4 t4 => ⟨fun z => absurd z (by decide), fun _ => ?_⟩) (fun V4 g4 m4 y4 s4 => ⟨fun _ => ?_, fun z => absurd rfl z⟩)
  · rw [hp] at y4 s4 t4
    have zz4 := z0'.ty g4
    have e4 : sk f n q4 = sk f n (te f n p) := by rw [t4]
    exact m_grades m4 hR (fun W r1 a1 a2 a3 a4 a5 a6 a7 => fin1 _ (stF_4 y4) _ rfl W r1 (zz4.trans a1) a2 (by rw [← a3, e4]) ⟨a4, by rw [a5, e4]; rfl, fun _ => by rw [a6, e4]; rfl, fun _ => by rw [a7, e4]; rfl, fun z => absurd (show 31 = 30 from z) (by decide)⟩) (fun W r a1 a2 a3 => fin0 _ (stF_4 y4) _ rfl W r (zz4.trans a1) a2 (by rw [← a3, e4]))
  rw [hp] at m4 y4
  have z4' := z0'.ty g4
  rw [w_leaves]
  refine m_tk m4 (by omega) (fun V7 q7 g7 m7 y7 s7 t7 => ⟨fun z => absurd z (by decide), fun _ => ?_⟩) (fun V7 g7 m7 y7 s7 => ⟨fun _ => ?_, fun z => absurd rfl z⟩)
  · rw [hp] at y7 s7 t7
    have zz7 := z4'.ty g7
    have e7 : sk f n q7 = sk f n (te f n p) := by rw [t7]
    rw [w_to]
    exact m_row2 (so := 1) m7 hR (by omega) (fun W r1 a1 a2 a3 a4 a5 a6 => fin1 _ (stF_7 y7) _ rfl W r1 (zz7.trans a1) a2 (by rw [← a3, e7]) ⟨a4, by rw [a5, e7]; rfl, fun _ => by rw [a6, e7]; rfl, fun z => absurd (show 1 = 7 ∨ 1 = 30 ∨ 1 = 31 from z) (by decide), fun z => absurd (show 1 = 30 from z) (by decide)⟩) (fun W r a1 a2 a3 => fin0 _ (stF_7 y7) _ rfl W r (zz7.trans a1) a2 (by rw [← a3, e7]))
  rw [hp] at m7 y7
  have z7' := z4'.ty g7
  rw [w_fee]
  refine m_tk m7 (by omega) (fun V12 q12 g12 m12 y12 s12 t12 => ⟨fun z => absurd z (by decide), fun _ => ?_⟩) (fun V12 g12 m12 y12 s12 => ⟨fun _ => ?_, fun z => absurd rfl z⟩)
  · rw [hp] at y12 s12 t12
    have zz12 := z7'.ty g12
    have e12 : sk f n q12 = sk f n (te f n p) := by rw [t12]
    rw [w_credit, w_bed]
    exact m_row3 (so := 7) m12 hR (by omega) (by omega) (fun W r1 a1 a2 a3 a4 a5 a6 a7 => fin1 _ (stF_12 y12) _ rfl W r1 (zz12.trans a1) a2 (by rw [← a3, e12]) ⟨a4, by rw [a5, e12]; rfl, fun _ => by rw [a6, e12]; rfl, fun _ => by rw [a7, e12]; rfl, fun z => absurd (show 7 = 30 from z) (by decide)⟩) (fun W r a1 a2 a3 => fin0 _ (stF_12 y12) _ rfl W r (zz12.trans a1) a2 (by rw [← a3, e12]))
  rw [hp] at m12 y12
  have z12' := z7'.ty g12
  rw [w_cost]
  refine m_tk m12 (by omega) (fun V15 q15 g15 m15 y15 s15 t15 => ⟨fun z => absurd z (by decide), fun _ => ?_⟩) (fun V15 g15 m15 y15 s15 => ⟨fun _ => ?_, fun z => absurd rfl z⟩)
  · rw [hp] at y15 s15 t15
    have zz15 := z12'.ty g15
    have e15 : sk f n q15 = sk f n (te f n p) := by rw [t15]
    rw [w_bowl]
    exact m_row2 (so := 10) m15 hR (by omega) (fun W r1 a1 a2 a3 a4 a5 a6 => fin1 _ (stF_15 y15) _ rfl W r1 (zz15.trans a1) a2 (by rw [← a3, e15]) ⟨a4, by rw [a5, e15]; rfl, fun _ => by rw [a6, e15]; rfl, fun z => absurd (show 10 = 7 ∨ 10 = 30 ∨ 10 = 31 from z) (by decide), fun z => absurd (show 10 = 30 from z) (by decide)⟩) (fun W r a1 a2 a3 => fin0 _ (stF_15 y15) _ rfl W r (zz15.trans a1) a2 (by rw [← a3, e15]))
  rw [hp] at m15 y15
  have z15' := z12'.ty g15
  unfold P_X11_others P_X11_others_B87 P_X11_others_B108
  refine ⟨m15.1.1.o, ?_⟩
  rw [w_clog]
  refine m_tk m15 (by omega) (fun V6 q6 g6 m6 y6 s6 t6 => ⟨fun z => absurd z (by decide), fun _ => ?_⟩) (fun V6 g6 m6 y6 s6 => ⟨fun _ => ?_, fun z => absurd rfl z⟩)
  · rw [hp] at y6 s6 t6
    have zz6 := z15'.ty g6
    have e6 : sk f n q6 = sk f n (te f n p) := by rw [t6]
    refine ⟨fun z => absurd z (by decide), fun _ => ⟨m6.1.1.o, m_row1 (so := 0) m6 hR (fun W r1 a1 a2 a3 a4 a5 => ⟨fun z => absurd z (by decide), fun _ => fin1 _ (stF_6 y6) _ rfl W r1 (zz6.trans a1) a2 (by rw [← a3, e6]) ⟨a4, by rw [a5, e6]; rfl, fun z => absurd (show 0 = 1 ∨ 0 = 7 ∨ 0 = 10 ∨ 0 = 30 ∨ 0 = 31 from z) (by decide), fun z => absurd (show 0 = 7 ∨ 0 = 30 ∨ 0 = 31 from z) (by decide), fun z => absurd (show 0 = 30 from z) (by decide)⟩⟩) (fun W a1 a2 a3 => ⟨fun _ => fin0 _ (stF_6 y6) _ rfl W _ (zz6.trans a1) a2 (by rw [← a3, e6]), fun z => absurd rfl z⟩)⟩⟩
  rw [hp] at m6 y6
  have z6' := z15'.ty g6
  rw [w_owe]
  refine m_tk m6 (by omega) (fun V8 q8 g8 m8 y8 s8 t8 => ⟨fun z => absurd z (by decide), fun _ => ?_⟩) (fun V8 g8 m8 y8 s8 => ⟨fun _ => ?_, fun z => absurd rfl z⟩)
  · rw [hp] at y8 s8 t8
    have zz8 := z6'.ty g8
    have e8 : sk f n q8 = sk f n (te f n p) := by rw [t8]
    refine ⟨fun z => absurd z (by decide), fun _ => ⟨m8.1.1.o, m_row1 (so := 3) m8 hR (fun W r1 a1 a2 a3 a4 a5 => ⟨fun z => absurd z (by decide), fun _ => fin1 _ (stF_8 y8) _ rfl W r1 (zz8.trans a1) a2 (by rw [← a3, e8]) ⟨a4, by rw [a5, e8]; rfl, fun z => absurd (show 3 = 1 ∨ 3 = 7 ∨ 3 = 10 ∨ 3 = 30 ∨ 3 = 31 from z) (by decide), fun z => absurd (show 3 = 7 ∨ 3 = 30 ∨ 3 = 31 from z) (by decide), fun z => absurd (show 3 = 30 from z) (by decide)⟩⟩) (fun W a1 a2 a3 => ⟨fun _ => fin0 _ (stF_8 y8) _ rfl W _ (zz8.trans a1) a2 (by rw [← a3, e8]), fun z => absurd rfl z⟩)⟩⟩
  rw [hp] at m8 y8
  have z8' := z6'.ty g8
  rw [w_parking]
  refine m_tk m8 (by omega) (fun V9 q9 g9 m9 y9 s9 t9 => ⟨fun z => absurd z (by decide), fun _ => ?_⟩) (fun V9 g9 m9 y9 s9 => ⟨fun _ => ?_, fun z => absurd rfl z⟩)
  · rw [hp] at y9 s9 t9
    have zz9 := z8'.ty g9
    have e9 : sk f n q9 = sk f n (te f n p) := by rw [t9]
    refine ⟨fun z => absurd z (by decide), fun _ => ⟨m9.1.1.o, m_row1 (so := 4) m9 hR (fun W r1 a1 a2 a3 a4 a5 => ⟨fun z => absurd z (by decide), fun _ => fin1 _ (stF_9 y9) _ rfl W r1 (zz9.trans a1) a2 (by rw [← a3, e9]) ⟨a4, by rw [a5, e9]; rfl, fun z => absurd (show 4 = 1 ∨ 4 = 7 ∨ 4 = 10 ∨ 4 = 30 ∨ 4 = 31 from z) (by decide), fun z => absurd (show 4 = 7 ∨ 4 = 30 ∨ 4 = 31 from z) (by decide), fun z => absurd (show 4 = 30 from z) (by decide)⟩⟩) (fun W a1 a2 a3 => ⟨fun _ => fin0 _ (stF_9 y9) _ rfl W _ (zz9.trans a1) a2 (by rw [← a3, e9]), fun z => absurd rfl z⟩)⟩⟩
  rw [hp] at m9 y9
  have z9' := z8'.ty g9
  rw [w_salt]
  refine m_tk m9 (by omega) (fun V10 q10 g10 m10 y10 s10 t10 => ⟨fun z => absurd z (by decide), fun _ => ?_⟩) (fun V10 g10 m10 y10 s10 => ⟨fun _ => ?_, fun z => absurd rfl z⟩)
  · rw [hp] at y10 s10 t10
    have zz10 := z9'.ty g10
    have e10 : sk f n q10 = sk f n (te f n p) := by rw [t10]
    refine ⟨fun z => absurd z (by decide), fun _ => ⟨m10.1.1.o, m_row1 (so := 5) m10 hR (fun W r1 a1 a2 a3 a4 a5 => ⟨fun z => absurd z (by decide), fun _ => fin1 _ (stF_10 y10) _ rfl W r1 (zz10.trans a1) a2 (by rw [← a3, e10]) ⟨a4, by rw [a5, e10]; rfl, fun z => absurd (show 5 = 1 ∨ 5 = 7 ∨ 5 = 10 ∨ 5 = 30 ∨ 5 = 31 from z) (by decide), fun z => absurd (show 5 = 7 ∨ 5 = 30 ∨ 5 = 31 from z) (by decide), fun z => absurd (show 5 = 30 from z) (by decide)⟩⟩) (fun W a1 a2 a3 => ⟨fun _ => fin0 _ (stF_10 y10) _ rfl W _ (zz10.trans a1) a2 (by rw [← a3, e10]), fun z => absurd rfl z⟩)⟩⟩
  rw [hp] at m10 y10
  have z10' := z9'.ty g10
  rw [w_stand]
  refine m_tk m10 (by omega) (fun V11 q11 g11 m11 y11 s11 t11 => ⟨fun z => absurd z (by decide), fun _ => ?_⟩) (fun V11 g11 m11 y11 s11 => ⟨fun _ => ?_, fun z => absurd rfl z⟩)
  · rw [hp] at y11 s11 t11
    have zz11 := z10'.ty g11
    have e11 : sk f n q11 = sk f n (te f n p) := by rw [t11]
    refine ⟨fun z => absurd z (by decide), fun _ => ⟨m11.1.1.o, m_row1 (so := 6) m11 hR (fun W r1 a1 a2 a3 a4 a5 => ⟨fun z => absurd z (by decide), fun _ => fin1 _ (stF_11 y11) _ rfl W r1 (zz11.trans a1) a2 (by rw [← a3, e11]) ⟨a4, by rw [a5, e11]; rfl, fun z => absurd (show 6 = 1 ∨ 6 = 7 ∨ 6 = 10 ∨ 6 = 30 ∨ 6 = 31 from z) (by decide), fun z => absurd (show 6 = 7 ∨ 6 = 30 ∨ 6 = 31 from z) (by decide), fun z => absurd (show 6 = 30 from z) (by decide)⟩⟩) (fun W a1 a2 a3 => ⟨fun _ => fin0 _ (stF_11 y11) _ rfl W _ (zz11.trans a1) a2 (by rw [← a3, e11]), fun z => absurd rfl z⟩)⟩⟩
  rw [hp] at m11 y11
  have z11' := z10'.ty g11
  rw [w_doubt]
  refine m_tk m11 (by omega) (fun V17 q17 g17 m17 y17 s17 t17 => ⟨fun z => absurd z (by decide), fun _ => ?_⟩) (fun V17 g17 m17 y17 s17 => ⟨fun _ => ?_, fun z => absurd rfl z⟩)
  · rw [hp] at y17 s17 t17
    have zz17 := z11'.ty g17
    have e17 : sk f n q17 = sk f n (te f n p) := by rw [t17]
    refine ⟨fun z => absurd z (by decide), fun _ => ⟨m17.1.1.o, m_row1 (so := 12) m17 hR (fun W r1 a1 a2 a3 a4 a5 => ⟨fun z => absurd z (by decide), fun _ => fin1 _ (stF_17 y17) _ rfl W r1 (zz17.trans a1) a2 (by rw [← a3, e17]) ⟨a4, by rw [a5, e17]; rfl, fun z => absurd (show 12 = 1 ∨ 12 = 7 ∨ 12 = 10 ∨ 12 = 30 ∨ 12 = 31 from z) (by decide), fun z => absurd (show 12 = 7 ∨ 12 = 30 ∨ 12 = 31 from z) (by decide), fun z => absurd (show 12 = 30 from z) (by decide)⟩⟩) (fun W a1 a2 a3 => ⟨fun _ => fin0 _ (stF_17 y17) _ rfl W _ (zz17.trans a1) a2 (by rw [← a3, e17]), fun z => absurd rfl z⟩)⟩⟩
  rw [hp] at m17 y17
  have z17' := z11'.ty g17
  refine ⟨fun _ => ?_, fun z => absurd rfl z⟩
  unfold P_X11_statement_B114
  refine ⟨fun _ => k0 V17 p z17' m17 ?_, fun z => absurd rfl z⟩
  rw [show stF f n p = ((32, 0, 0, 0, 0), .inl p) from by unfold stF; rw [kwF_n y0, kwF_n y4, kwF_n y6, kwF_n y7, kwF_n y8, kwF_n y9, kwF_n y10, kwF_n y11, kwF_n y12, kwF_n y15, kwF_n y17]]
end M4
