/-! ===== level 2: a statement of the rules, as the reference reads it ===== -/
theorem tok_k : ∀ i, i < 18 → ∀ j, j < 18 → wl i = wl j → (∀ t, t < 7 → t < wl i → wb i t = wb j t) → i = j := by decide +kernel
theorem pkw_z : ∀ i, i < 18 → ¬ Int64.ofNat (pkw i) = 0 := by decide +kernel
theorem w_turn : (1953854062 : Int64) = Int64.ofNat (pkw 0) := by decide +kernel
theorem w_at : (24948 : Int64) = Int64.ofNat (pkw 1) := by decide +kernel
theorem w_every : (435778056825 : Int64) = Int64.ofNat (pkw 2) := by decide +kernel
theorem w_from : (1718775661 : Int64) = Int64.ofNat (pkw 3) := by decide +kernel
theorem w_look : (1819242347 : Int64) = Int64.ofNat (pkw 4) := by decide +kernel
theorem w_to : (29807 : Int64) = Int64.ofNat (pkw 5) := by decide +kernel
theorem w_clog : (1668050791 : Int64) = Int64.ofNat (pkw 6) := by decide +kernel
theorem w_leaves : (119182682645875 : Int64) = Int64.ofNat (pkw 7) := by decide +kernel
theorem w_owe : (7305061 : Int64) = Int64.ofNat (pkw 8) := by decide +kernel
theorem w_parking : (31632341447831143 : Int64) = Int64.ofNat (pkw 9) := by decide +kernel
theorem w_salt : (1935764596 : Int64) = Int64.ofNat (pkw 10) := by decide +kernel
theorem w_stand : (495873781348 : Int64) = Int64.ofNat (pkw 11) := by decide +kernel
theorem w_fee : (6710629 : Int64) = Int64.ofNat (pkw 12) := by decide +kernel
theorem w_credit : (109342978500980 : Int64) = Int64.ofNat (pkw 13) := by decide +kernel
theorem w_bed : (6448484 : Int64) = Int64.ofNat (pkw 14) := by decide +kernel
theorem w_cost : (1668248436 : Int64) = Int64.ofNat (pkw 15) := by decide +kernel
theorem w_bowl : (1651472236 : Int64) = Int64.ofNat (pkw 16) := by decide +kernel
theorem w_doubt : (431366693492 : Int64) = Int64.ofNat (pkw 17) := by decide +kernel
/-- what a statement's reading leaves as it was -/
def TZ (R : Nat) (T U : Sg) : Prop := (∀ x, ¬ x = 1000 → ¬ (1170 ≤ x ∧ x ≤ 1174) → vw U x = vw T x) ∧ MW U ∧ (∀ x j, 1170 ≤ x → x ≤ 1174 → ¬ j = R → sI U x j = sI T x j) ∧ (∀ k, ¬ k = 79 → ¬ k = 81 → sI U 1000 k = sI T 1000 k) ∧ sL U 1000 = sL T 1000
theorem TZ.refl {R : Nat} {T : Sg} (h : MW T) : TZ R T T := ⟨fun _ _ _ => rfl, h, fun _ _ _ _ _ => rfl, fun _ _ _ => rfl, rfl⟩
theorem TZ.trans {R : Nat} {T U V : Sg} (h : TZ R T U) (g : TZ R U V) : TZ R T V := ⟨fun x h1 h2 => (g.1 x h1 h2).trans (h.1 x h1 h2), g.2.1, fun x j h1 h2 h3 => (g.2.2.1 x j h1 h2 h3).trans (h.2.2.1 x j h1 h2 h3), fun k h1 h2 => (g.2.2.2.1 k h1 h2).trans (h.2.2.2.1 k h1 h2), g.2.2.2.2.trans h.2.2.2.2⟩
theorem TZ.ty {R : Nat} {T U V : Sg} (h : TZ R T U) (g : TY U V) : TZ R T V := h.trans ⟨fun x h1 _ => g.1 x h1, g.2.1, fun x j h1 h2 _ => by rw [vwI (g.1 x (by omega))], g.2.2.1, g.2.2.2⟩
theorem TZ.row {R : Nat} {T U : Sg} {a : Nat} {v : Int32} (h : TZ R T U) (h1 : 1170 ≤ a) (h2 : a ≤ 1174) : TZ R T (pI U a R v) := h.trans ⟨fun x hx hx2 => vw_pI (by omega), mw_pI h.2.1 (by omega), fun x j _ _ hj => sI_pI_ne (by omega), fun k _ _ => sI_pI_ne (by omega), rfl⟩
/-- where the reference stands -/
def MT (T : Sg) (f : Nat → Nat) (n q : Nat) : Prop := TM T f n ∧ sI T 1000 79 = Int32.ofNat q ∧ q ≤ n
def rowE (T : Sg) (R : Nat) (st : Nat × Nat × Nat × Nat × Nat) : Prop := sI T 1170 R = Int32.ofNat st.1 ∧ sI T 1171 R = Int32.ofNat st.2.1 ∧ ((st.1 = 1 ∨ st.1 = 7 ∨ st.1 = 10 ∨ st.1 = 30 ∨ st.1 = 31) → sI T 1172 R = Int32.ofNat st.2.2.1) ∧ ((st.1 = 7 ∨ st.1 = 30 ∨ st.1 = 31) → sI T 1173 R = Int32.ofNat st.2.2.2.1) ∧ (st.1 = 30 → sI T 1174 R = Int32.ofNat st.2.2.2.2)
section MS
variable {T U : Sg} {f : Nat → Nat} {n q R : Nat}
theorem rowE_ty {V : Sg} (g : TY U V) (x j : Nat) (hx : ¬ x = 1000) : sI V x j = sI U x j := by rw [vwI (g.1 x hx)]
theorem MT.ty {V : Sg} {p : Nat} (h : MT T f n q) (g : TY T V) (e : sI V 1000 79 = Int32.ofNat p) (hp : p ≤ n) : MT V f n p := ⟨h.1.ty g, e, hp⟩
theorem MT.row {a : Nat} {v : Int32} (h : MT T f n q) (h1 : 1170 ≤ a) (h2 : a ≤ 1174) : MT (pI T a R v) f n q := ⟨⟨mw_pI h.1.1 (by omega), h.1.2.1, by rw [sI_pI_ne (by omega)]; exact h.1.2.2.1, fun j hj => by rw [sI_pI_ne (by omega)]; exact h.1.2.2.2 j hj⟩, by rw [sI_pI_ne (by omega)]; exact h.2.1, h.2.2⟩
theorem m_tk {i : Nat} {Q : Int32 → Sg → Prop} (h : MT T f n q) (hi : i < 18) (k1 : ∀ V q', TY T V → MT V f n q' → tokW f n i (sk f n q) → stepW f n i (.inr (sk f n q)) = .inr (sk f n q') → q' = te f n (sk f n q) → Q 1 V) (k0 : ∀ V, TY T V → MT V f n (sk f n q) → ¬ tokW f n i (sk f n q) → stepW f n i (.inr (sk f n q)) = .inl (sk f n q) → Q 0 V) : P_X11_takes 1000 (Int64.ofNat (pkw i)) T Q :=
  m_takes h.1 h.2.1 h.2.2 hi (fun t V g e => k1 V _ g (h.ty g e (te_le (enn_le h.2.2))) t (stepW_y t) rfl) (fun t V g e => k0 V g (h.ty g e (enn_le h.2.2)) t (stepW_n t))
theorem m_nb {lo hi : Nat} {Q : Int32 → Sg → Prop} (h : MT T f n q) (hlo : lo ≤ 9999) (hhi : hi ≤ 9999) (k1 : ∀ V q', TY T V → MT V f n q' → sI V 1000 81 = Int32.ofNat (stepN f n lo hi (.inr (sk f n q))).1 → (stepN f n lo hi (.inr (sk f n q))).2 = .inr (sk f n q') → Q 1 V) (k0 : ∀ V, TY T V → MT V f n (sk f n q) → (stepN f n lo hi (.inr (sk f n q))).2 = .inl (sk f n q) → Q 0 V) : P_X11_takesNumber 1000 (Int32.ofNat lo) (Int32.ofNat hi) T Q :=
  m_num h.1 h.2.1 h.2.2 hlo hhi (fun t V g e e2 => k1 V _ g (h.ty g e (te_le (enn_le h.2.2))) (by rw [stepN_y t]; exact e2) (by rw [stepN_y t])) (fun t V g e => k0 V g (h.ty g e (enn_le h.2.2)) (by rw [stepN_n t]))
theorem m_plain {Q : Int32 → Sg → Prop} (h : MT T f n q) (k1 : ∀ V q', TY T V → MT V f n q' → sI V 1000 81 = Int32.ofNat (stepN f n 0 9999 (.inr (sk f n q))).1 → (stepN f n 0 9999 (.inr (sk f n q))).2 = .inr (sk f n q') → Q 1 V) (k0 : ∀ V, TY T V → MT V f n (sk f n q) → (stepN f n 0 9999 (.inr (sk f n q))).2 = .inl (sk f n q) → Q 0 V) : P_X11_takesPlain 1000 T Q := by
  unfold P_X11_takesPlain
  exact ⟨h.1.1.o, m_nb (lo := 0) (hi := 9999) h (by omega) (by omega) (fun V q' g1 g2 g3 g4 => ⟨Or.inr rfl, k1 V q' g1 g2 g3 g4⟩) (fun V g1 g2 g3 => ⟨Or.inl rfl, k0 V g1 g2 g3⟩)⟩
theorem m_row1 {so : Nat} {Q : Int32 → Sg → Prop} (h : MT T f n q) (hR : R < 264) (k1 : ∀ V q', TZ R T V → MT V f n q' → (stepN f n 0 9999 (.inr (sk f n q))).2 = .inr (sk f n q') → sI V 1170 R = Int32.ofNat so → sI V 1171 R = Int32.ofNat (stepN f n 0 9999 (.inr (sk f n q))).1 → Q 1 V) (k0 : ∀ V, TZ R T V → MT V f n (sk f n q) → (stepN f n 0 9999 (.inr (sk f n q))).2 = .inl (sk f n q) → Q 0 V) : P_X11_row 1000 (Int32.ofNat R) (Int32.ofNat so) 0 0 T Q := by
  unfold P_X11_row P_X11_row_B59
  have hM := h.1.1
  refine ⟨hM.o, 1170, hM.a70.1, hM.a70.2.1, by simp (disch := first | omega | decide) only [Option.some.injEq, exists_eq_left', exists_eq_left, forall_eq, forall_eq', true_and, and_true, true_implies, implies_true, false_implies, not_true_eq_false, not_false_eq_true, reduceCtorEq, and_self, forall_const, i10, i01, if_true, if_false, and_false, false_and, Nat.not_lt_zero, sK_pI, sN_pI, sR_pI, sL_pI, sK_pL, sN_pL, sR_pL, sI_pL, sK_pR, sN_pR, sI_pR, sL_pR, sI_pI_eq, sI_pI_ne, sL_pL_eq, sL_pL_ne, sR_pR_eq, sR_pR_ne, nn_le, nat32_lt, nn_eq, ln_le, nl_le, ln_lt, nl_lt, ln_eq, nl_eq, n_m1, n_lt0, vp_n, vp_l, lc_n, nat32c, n_s, nI_n, hM.a70, hR], fun s6 w6 => ?_⟩
  rw [nat32c (by omega)] at w6
  have h6 : MT s6 f n q := by rw [w6]; exact h.row (by omega) (by omega)
  have z6 : TZ R T s6 := by rw [w6]; exact (TZ.refl hM).row (by omega) (by omega)
  refine m_plain h6 (fun V q' g1 g2 g3 g4 => ⟨fun z => absurd z (by decide), fun _ => ?_⟩) (fun V g1 g2 g3 => ⟨fun _ => k0 V (z6.ty g1) g2 g3, fun z => absurd rfl z⟩)
  have mV := g2.1.1
  refine ⟨1171, mV.a71.1, mV.a71.2.1, by simp (disch := first | omega | decide) only [Option.some.injEq, exists_eq_left', exists_eq_left, forall_eq, forall_eq', true_and, and_true, true_implies, implies_true, false_implies, not_true_eq_false, not_false_eq_true, reduceCtorEq, and_self, forall_const, i10, i01, if_true, if_false, and_false, false_and, Nat.not_lt_zero, sK_pI, sN_pI, sR_pI, sL_pI, sK_pL, sN_pL, sR_pL, sI_pL, sK_pR, sN_pR, sI_pR, sL_pR, sI_pI_eq, sI_pI_ne, sL_pL_eq, sL_pL_ne, sR_pR_eq, sR_pR_ne, nn_le, nat32_lt, nn_eq, ln_le, nl_le, ln_lt, nl_lt, ln_eq, nl_eq, n_m1, n_lt0, vp_n, vp_l, lc_n, nat32c, n_s, nI_n, mV.a71, hR], fun s18 w18 => ⟨fun _ => ⟨fun _ => ?_, fun z => absurd rfl z⟩, fun z => absurd rfl z⟩⟩
  rw [nat32c (by omega), g3] at w18
  refine k1 s18 q' (by rw [w18]; exact (z6.ty g1).row (by omega) (by omega)) (by rw [w18]; exact g2.row (by omega) (by omega)) g4 ?_ ?_
  · rw [w18, sI_pI_ne (by omega), rowE_ty g1 1170 R (by omega), w6, sI_pI_eq]
  · rw [w18, sI_pI_eq]
theorem m_row2 {so i : Nat} {Q : Int32 → Sg → Prop} (h : MT T f n q) (hR : R < 264) (hi : i < 18) (k1 : ∀ V q', TZ R T V → MT V f n q' → (stepN f n 0 9999 (stepW f n i (stepN f n 0 9999 (.inr (sk f n q))).2)).2 = .inr (sk f n q') → sI V 1170 R = Int32.ofNat so → sI V 1171 R = Int32.ofNat (stepN f n 0 9999 (.inr (sk f n q))).1 → sI V 1172 R = Int32.ofNat (stepN f n 0 9999 (stepW f n i (stepN f n 0 9999 (.inr (sk f n q))).2)).1 → Q 1 V) (k0 : ∀ V p, TZ R T V → MT V f n p → (stepN f n 0 9999 (stepW f n i (stepN f n 0 9999 (.inr (sk f n q))).2)).2 = .inl p → Q 0 V) : P_X11_row 1000 (Int32.ofNat R) (Int32.ofNat so) (Int64.ofNat (pkw i)) 0 T Q := by
  unfold P_X11_row P_X11_row_B59
  have hM := h.1.1
  refine ⟨hM.o, 1170, hM.a70.1, hM.a70.2.1, by simp (disch := first | omega | decide) only [Option.some.injEq, exists_eq_left', exists_eq_left, forall_eq, forall_eq', true_and, and_true, true_implies, implies_true, false_implies, not_true_eq_false, not_false_eq_true, reduceCtorEq, and_self, forall_const, i10, i01, if_true, if_false, and_false, false_and, Nat.not_lt_zero, sK_pI, sN_pI, sR_pI, sL_pI, sK_pL, sN_pL, sR_pL, sI_pL, sK_pR, sN_pR, sI_pR, sL_pR, sI_pI_eq, sI_pI_ne, sL_pL_eq, sL_pL_ne, sR_pR_eq, sR_pR_ne, nn_le, nat32_lt, nn_eq, ln_le, nl_le, ln_lt, nl_lt, ln_eq, nl_eq, n_m1, n_lt0, vp_n, vp_l, lc_n, nat32c, n_s, nI_n, hM.a70, hR], fun s6 w6 => ?_⟩
  rw [nat32c (by omega)] at w6
  have h6 : MT s6 f n q := by rw [w6]; exact h.row (by omega) (by omega)
  have z6 : TZ R T s6 := by rw [w6]; exact (TZ.refl hM).row (by omega) (by omega)
  refine m_plain h6 (fun V q' g1 g2 g3 g4 => ⟨fun z => absurd z (by decide), fun _ => ?_⟩) (fun V g1 g2 g3 => ⟨fun _ => k0 V _ (z6.ty g1) g2 (by rw [g3]; rfl), fun z => absurd rfl z⟩)
  have mV := g2.1.1
  refine ⟨1171, mV.a71.1, mV.a71.2.1, by simp (disch := first | omega | decide) only [Option.some.injEq, exists_eq_left', exists_eq_left, forall_eq, forall_eq', true_and, and_true, true_implies, implies_true, false_implies, not_true_eq_false, not_false_eq_true, reduceCtorEq, and_self, forall_const, i10, i01, if_true, if_false, and_false, false_and, Nat.not_lt_zero, sK_pI, sN_pI, sR_pI, sL_pI, sK_pL, sN_pL, sR_pL, sI_pL, sK_pR, sN_pR, sI_pR, sL_pR, sI_pI_eq, sI_pI_ne, sL_pL_eq, sL_pL_ne, sR_pR_eq, sR_pR_ne, nn_le, nat32_lt, nn_eq, ln_le, nl_le, ln_lt, nl_lt, ln_eq, nl_eq, n_m1, n_lt0, vp_n, vp_l, lc_n, nat32c, n_s, nI_n, mV.a71, hR], fun s18 w18 => ⟨fun z => absurd z (pkw_z i hi), fun _ => ?_⟩⟩
  rw [nat32c (by omega), g3] at w18
  have h18 : MT s18 f n q' := by rw [w18]; exact g2.row (by omega) (by omega)
  have z18 : TZ R T s18 := by rw [w18]; exact (z6.ty g1).row (by omega) (by omega)
  rw [g4] at k1 k0
  refine m_tk h18 hi (fun V2 q2 a1 a2 a3 a4 _ => ⟨fun z => absurd z (by decide), fun _ => ?_⟩) (fun V2 a1 a2 a3 a4 => ⟨fun _ => k0 V2 _ (z18.ty a1) a2 (by rw [a4]; rfl), fun z => absurd rfl z⟩)
  rw [a4] at k1 k0
  refine m_plain a2 (fun V3 q3 b1 b2 b3 b4 => ⟨fun z => absurd z (by decide), fun _ => ?_⟩) (fun V3 b1 b2 b3 => ⟨fun _ => k0 V3 _ ((z18.ty a1).ty b1) b2 b3, fun z => absurd rfl z⟩)
  have mV3 := b2.1.1
  refine ⟨1172, mV3.a72.1, mV3.a72.2.1, by simp (disch := first | omega | decide) only [Option.some.injEq, exists_eq_left', exists_eq_left, forall_eq, forall_eq', true_and, and_true, true_implies, implies_true, false_implies, not_true_eq_false, not_false_eq_true, reduceCtorEq, and_self, forall_const, i10, i01, if_true, if_false, and_false, false_and, Nat.not_lt_zero, sK_pI, sN_pI, sR_pI, sL_pI, sK_pL, sN_pL, sR_pL, sI_pL, sK_pR, sN_pR, sI_pR, sL_pR, sI_pI_eq, sI_pI_ne, sL_pL_eq, sL_pL_ne, sR_pR_eq, sR_pR_ne, nn_le, nat32_lt, nn_eq, ln_le, nl_le, ln_lt, nl_lt, ln_eq, nl_eq, n_m1, n_lt0, vp_n, vp_l, lc_n, nat32c, n_s, nI_n, mV3.a72, hR], fun s36 w36 => ⟨fun _ => ?_, fun z => absurd rfl z⟩⟩
  rw [nat32c (by omega), b3] at w36
  refine k1 s36 q3 (by rw [w36]; exact ((z18.ty a1).ty b1).row (by omega) (by omega)) (by rw [w36]; exact b2.row (by omega) (by omega)) b4 ?_ ?_ ?_
  · rw [w36, sI_pI_ne (by omega), rowE_ty b1 1170 R (by omega), rowE_ty a1 1170 R (by omega), w18, sI_pI_ne (by omega), rowE_ty g1 1170 R (by omega), w6, sI_pI_eq]
  · rw [w36, sI_pI_ne (by omega), rowE_ty b1 1171 R (by omega), rowE_ty a1 1171 R (by omega), w18, sI_pI_eq]
  · rw [w36, sI_pI_eq]
theorem m_row3 {so i u : Nat} {Q : Int32 → Sg → Prop} (h : MT T f n q) (hR : R < 264) (hi : i < 18) (hu : u < 18) (k1 : ∀ V q', TZ R T V → MT V f n q' → (stepN f n 0 9999 (stepW f n u (stepN f n 0 9999 (stepW f n i (stepN f n 0 9999 (.inr (sk f n q))).2)).2)).2 = .inr (sk f n q') → sI V 1170 R = Int32.ofNat so → sI V 1171 R = Int32.ofNat (stepN f n 0 9999 (.inr (sk f n q))).1 → sI V 1172 R = Int32.ofNat (stepN f n 0 9999 (stepW f n i (stepN f n 0 9999 (.inr (sk f n q))).2)).1 → sI V 1173 R = Int32.ofNat (stepN f n 0 9999 (stepW f n u (stepN f n 0 9999 (stepW f n i (stepN f n 0 9999 (.inr (sk f n q))).2)).2)).1 → Q 1 V) (k0 : ∀ V p, TZ R T V → MT V f n p → (stepN f n 0 9999 (stepW f n u (stepN f n 0 9999 (stepW f n i (stepN f n 0 9999 (.inr (sk f n q))).2)).2)).2 = .inl p → Q 0 V) : P_X11_row 1000 (Int32.ofNat R) (Int32.ofNat so) (Int64.ofNat (pkw i)) (Int64.ofNat (pkw u)) T Q := by
  unfold P_X11_row P_X11_row_B59
  have hM := h.1.1
  refine ⟨hM.o, 1170, hM.a70.1, hM.a70.2.1, by simp (disch := first | omega | decide) only [Option.some.injEq, exists_eq_left', exists_eq_left, forall_eq, forall_eq', true_and, and_true, true_implies, implies_true, false_implies, not_true_eq_false, not_false_eq_true, reduceCtorEq, and_self, forall_const, i10, i01, if_true, if_false, and_false, false_and, Nat.not_lt_zero, sK_pI, sN_pI, sR_pI, sL_pI, sK_pL, sN_pL, sR_pL, sI_pL, sK_pR, sN_pR, sI_pR, sL_pR, sI_pI_eq, sI_pI_ne, sL_pL_eq, sL_pL_ne, sR_pR_eq, sR_pR_ne, nn_le, nat32_lt, nn_eq, ln_le, nl_le, ln_lt, nl_lt, ln_eq, nl_eq, n_m1, n_lt0, vp_n, vp_l, lc_n, nat32c, n_s, nI_n, hM.a70, hR], fun s6 w6 => ?_⟩
  rw [nat32c (by omega)] at w6
  have h6 : MT s6 f n q := by rw [w6]; exact h.row (by omega) (by omega)
  have z6 : TZ R T s6 := by rw [w6]; exact (TZ.refl hM).row (by omega) (by omega)
  refine m_plain h6 (fun V q' g1 g2 g3 g4 => ⟨fun z => absurd z (by decide), fun _ => ?_⟩) (fun V g1 g2 g3 => ⟨fun _ => k0 V _ (z6.ty g1) g2 (by rw [g3]; rfl), fun z => absurd rfl z⟩)
  have mV := g2.1.1
  refine ⟨1171, mV.a71.1, mV.a71.2.1, by simp (disch := first | omega | decide) only [Option.some.injEq, exists_eq_left', exists_eq_left, forall_eq, forall_eq', true_and, and_true, true_implies, implies_true, false_implies, not_true_eq_false, not_false_eq_true, reduceCtorEq, and_self, forall_const, i10, i01, if_true, if_false, and_false, false_and, Nat.not_lt_zero, sK_pI, sN_pI, sR_pI, sL_pI, sK_pL, sN_pL, sR_pL, sI_pL, sK_pR, sN_pR, sI_pR, sL_pR, sI_pI_eq, sI_pI_ne, sL_pL_eq, sL_pL_ne, sR_pR_eq, sR_pR_ne, nn_le, nat32_lt, nn_eq, ln_le, nl_le, ln_lt, nl_lt, ln_eq, nl_eq, n_m1, n_lt0, vp_n, vp_l, lc_n, nat32c, n_s, nI_n, mV.a71, hR], fun s18 w18 => ⟨fun z => absurd z (pkw_z i hi), fun _ => ?_⟩⟩
  rw [nat32c (by omega), g3] at w18
  have h18 : MT s18 f n q' := by rw [w18]; exact g2.row (by omega) (by omega)
  have z18 : TZ R T s18 := by rw [w18]; exact (z6.ty g1).row (by omega) (by omega)
  rw [g4] at k1 k0
  refine m_tk h18 hi (fun V2 q2 a1 a2 a3 a4 _ => ⟨fun z => absurd z (by decide), fun _ => ?_⟩) (fun V2 a1 a2 a3 a4 => ⟨fun _ => k0 V2 _ (z18.ty a1) a2 (by rw [a4]; rfl), fun z => absurd rfl z⟩)
  rw [a4] at k1 k0
  refine m_plain a2 (fun V3 q3 b1 b2 b3 b4 => ⟨fun z => absurd z (by decide), fun _ => ?_⟩) (fun V3 b1 b2 b3 => ⟨fun _ => k0 V3 _ ((z18.ty a1).ty b1) b2 (by rw [b3]; rfl), fun z => absurd rfl z⟩)
  have mV3 := b2.1.1
  refine ⟨1172, mV3.a72.1, mV3.a72.2.1, by simp (disch := first | omega | decide) only [Option.some.injEq, exists_eq_left', exists_eq_left, forall_eq, forall_eq', true_and, and_true, true_implies, implies_true, false_implies, not_true_eq_false, not_false_eq_true, reduceCtorEq, and_self, forall_const, i10, i01, if_true, if_false, and_false, false_and, Nat.not_lt_zero, sK_pI, sN_pI, sR_pI, sL_pI, sK_pL, sN_pL, sR_pL, sI_pL, sK_pR, sN_pR, sI_pR, sL_pR, sI_pI_eq, sI_pI_ne, sL_pL_eq, sL_pL_ne, sR_pR_eq, sR_pR_ne, nn_le, nat32_lt, nn_eq, ln_le, nl_le, ln_lt, nl_lt, ln_eq, nl_eq, n_m1, n_lt0, vp_n, vp_l, lc_n, nat32c, n_s, nI_n, mV3.a72, hR], fun s36 w36 => ⟨fun z => absurd z (pkw_z u hu), fun _ => ?_⟩⟩
  rw [nat32c (by omega), b3] at w36
  have h36 : MT s36 f n q3 := by rw [w36]; exact b2.row (by omega) (by omega)
  have z36 : TZ R T s36 := by rw [w36]; exact ((z18.ty a1).ty b1).row (by omega) (by omega)
  rw [b4] at k1 k0
  refine ⟨h36.1.1.o, m_tk h36 hu (fun V4 q4 c1 c2 c3 c4 _ => ⟨fun z => absurd z (by decide), fun _ => ?_⟩) (fun V4 c1 c2 c3 c4 => ⟨fun _ => k0 V4 _ (z36.ty c1) c2 (by rw [c4]; rfl), fun z => absurd rfl z⟩)⟩
  rw [c4] at k1 k0
  refine m_plain c2 (fun V5 q5 d1 d2 d3 d4 => ⟨fun z => absurd z (by decide), fun _ => ?_⟩) (fun V5 d1 d2 d3 => ⟨fun _ => k0 V5 _ ((z36.ty c1).ty d1) d2 d3, fun z => absurd rfl z⟩)
  have mV5 := d2.1.1
  refine ⟨1173, mV5.a73.1, mV5.a73.2.1, by simp (disch := first | omega | decide) only [Option.some.injEq, exists_eq_left', exists_eq_left, forall_eq, forall_eq', true_and, and_true, true_implies, implies_true, false_implies, not_true_eq_false, not_false_eq_true, reduceCtorEq, and_self, forall_const, i10, i01, if_true, if_false, and_false, false_and, Nat.not_lt_zero, sK_pI, sN_pI, sR_pI, sL_pI, sK_pL, sN_pL, sR_pL, sI_pL, sK_pR, sN_pR, sI_pR, sL_pR, sI_pI_eq, sI_pI_ne, sL_pL_eq, sL_pL_ne, sR_pR_eq, sR_pR_ne, nn_le, nat32_lt, nn_eq, ln_le, nl_le, ln_lt, nl_lt, ln_eq, nl_eq, n_m1, n_lt0, vp_n, vp_l, lc_n, nat32c, n_s, nI_n, mV5.a73, hR], fun s55 w55 => ?_⟩
  rw [nat32c (by omega), d3] at w55
  refine k1 s55 q5 (by rw [w55]; exact ((z36.ty c1).ty d1).row (by omega) (by omega)) (by rw [w55]; exact d2.row (by omega) (by omega)) d4 ?_ ?_ ?_ ?_
  · rw [w55, sI_pI_ne (by omega), rowE_ty d1 1170 R (by omega), rowE_ty c1 1170 R (by omega), w36, sI_pI_ne (by omega), rowE_ty b1 1170 R (by omega), rowE_ty a1 1170 R (by omega), w18, sI_pI_ne (by omega), rowE_ty g1 1170 R (by omega), w6, sI_pI_eq]
  · rw [w55, sI_pI_ne (by omega), rowE_ty d1 1171 R (by omega), rowE_ty c1 1171 R (by omega), w36, sI_pI_ne (by omega), rowE_ty b1 1171 R (by omega), rowE_ty a1 1171 R (by omega), w18, sI_pI_eq]
  · rw [w55, sI_pI_ne (by omega), rowE_ty d1 1172 R (by omega), rowE_ty c1 1172 R (by omega), w36, sI_pI_eq]
  · rw [w55, sI_pI_eq]
theorem m_grades {Q : Int32 → Sg → Prop} (h : MT T f n q) (hR : R < 264) (k1 : ∀ V q', TZ R T V → MT V f n q' → (stepN f n 0 9999 (stepW f n 5 (stepN f n 0 9999 (stepW f n 3 (stepN f n 0 3 (.inr (sk f n q))).2)).2)).2 = .inr (sk f n q') → sI V 1170 R = 31 → sI V 1171 R = Int32.ofNat (stepN f n 0 3 (.inr (sk f n q))).1 → sI V 1172 R = Int32.ofNat (stepN f n 0 9999 (stepW f n 3 (stepN f n 0 3 (.inr (sk f n q))).2)).1 → sI V 1173 R = Int32.ofNat (stepN f n 0 9999 (stepW f n 5 (stepN f n 0 9999 (stepW f n 3 (stepN f n 0 3 (.inr (sk f n q))).2)).2)).1 → Q 1 V) (k0 : ∀ V p, TZ R T V → MT V f n p → (stepN f n 0 9999 (stepW f n 5 (stepN f n 0 9999 (stepW f n 3 (stepN f n 0 3 (.inr (sk f n q))).2)).2)).2 = .inl p → Q 0 V) : P_X11_grades 1000 (Int32.ofNat R) T Q := by
  unfold P_X11_grades
  have hM := h.1.1
  refine ⟨hM.o, 1170, hM.a70.1, hM.a70.2.1, by simp (disch := first | omega | decide) only [Option.some.injEq, exists_eq_left', exists_eq_left, forall_eq, forall_eq', true_and, and_true, true_implies, implies_true, false_implies, not_true_eq_false, not_false_eq_true, reduceCtorEq, and_self, forall_const, i10, i01, if_true, if_false, and_false, false_and, Nat.not_lt_zero, sK_pI, sN_pI, sR_pI, sL_pI, sK_pL, sN_pL, sR_pL, sI_pL, sK_pR, sN_pR, sI_pR, sL_pR, sI_pI_eq, sI_pI_ne, sL_pL_eq, sL_pL_ne, sR_pR_eq, sR_pR_ne, nn_le, nat32_lt, nn_eq, ln_le, nl_le, ln_lt, nl_lt, ln_eq, nl_eq, n_m1, n_lt0, vp_n, vp_l, lc_n, nat32c, n_s, nI_n, hM.a70, hR], fun s6 w6 => ?_⟩
  rw [nat32c (by omega)] at w6
  have h6 : MT s6 f n q := by rw [w6]; exact h.row (by omega) (by omega)
  have z6 : TZ R T s6 := by rw [w6]; exact (TZ.refl hM).row (by omega) (by omega)
  refine m_nb (lo := 0) (hi := 3) h6 (by omega) (by omega) (fun V q' g1 g2 g3 g4 => ⟨fun z => absurd z (by decide), fun _ => ?_⟩) (fun V g1 g2 g3 => ⟨fun _ => k0 V _ (z6.ty g1) g2 (by rw [g3]; rfl), fun z => absurd rfl z⟩)
  have mV := g2.1.1
  refine ⟨1171, mV.a71.1, mV.a71.2.1, by simp (disch := first | omega | decide) only [Option.some.injEq, exists_eq_left', exists_eq_left, forall_eq, forall_eq', true_and, and_true, true_implies, implies_true, false_implies, not_true_eq_false, not_false_eq_true, reduceCtorEq, and_self, forall_const, i10, i01, if_true, if_false, and_false, false_and, Nat.not_lt_zero, sK_pI, sN_pI, sR_pI, sL_pI, sK_pL, sN_pL, sR_pL, sI_pL, sK_pR, sN_pR, sI_pR, sL_pR, sI_pI_eq, sI_pI_ne, sL_pL_eq, sL_pL_ne, sR_pR_eq, sR_pR_ne, nn_le, nat32_lt, nn_eq, ln_le, nl_le, ln_lt, nl_lt, ln_eq, nl_eq, n_m1, n_lt0, vp_n, vp_l, lc_n, nat32c, n_s, nI_n, mV.a71, hR], fun s18 w18 => ?_⟩
  rw [nat32c (by omega), g3] at w18
  have h18 : MT s18 f n q' := by rw [w18]; exact g2.row (by omega) (by omega)
  have z18 : TZ R T s18 := by rw [w18]; exact (z6.ty g1).row (by omega) (by omega)
  rw [g4] at k1 k0
  rw [w_from]
  refine m_tk h18 (by omega) (fun V2 q2 a1 a2 a3 a4 _ => ⟨fun z => absurd z (by decide), fun _ => ?_⟩) (fun V2 a1 a2 a3 a4 => ⟨fun _ => k0 V2 _ (z18.ty a1) a2 (by rw [a4]; rfl), fun z => absurd rfl z⟩)
  rw [a4] at k1 k0
  refine m_plain a2 (fun V3 q3 b1 b2 b3 b4 => ⟨fun z => absurd z (by decide), fun _ => ?_⟩) (fun V3 b1 b2 b3 => ⟨fun _ => k0 V3 _ ((z18.ty a1).ty b1) b2 (by rw [b3]; rfl), fun z => absurd rfl z⟩)
  have mV3 := b2.1.1
  refine ⟨1172, mV3.a72.1, mV3.a72.2.1, by simp (disch := first | omega | decide) only [Option.some.injEq, exists_eq_left', exists_eq_left, forall_eq, forall_eq', true_and, and_true, true_implies, implies_true, false_implies, not_true_eq_false, not_false_eq_true, reduceCtorEq, and_self, forall_const, i10, i01, if_true, if_false, and_false, false_and, Nat.not_lt_zero, sK_pI, sN_pI, sR_pI, sL_pI, sK_pL, sN_pL, sR_pL, sI_pL, sK_pR, sN_pR, sI_pR, sL_pR, sI_pI_eq, sI_pI_ne, sL_pL_eq, sL_pL_ne, sR_pR_eq, sR_pR_ne, nn_le, nat32_lt, nn_eq, ln_le, nl_le, ln_lt, nl_lt, ln_eq, nl_eq, n_m1, n_lt0, vp_n, vp_l, lc_n, nat32c, n_s, nI_n, mV3.a72, hR], fun s36 w36 => ?_⟩
  rw [nat32c (by omega), b3] at w36
  have h36 : MT s36 f n q3 := by rw [w36]; exact b2.row (by omega) (by omega)
  have z36 : TZ R T s36 := by rw [w36]; exact ((z18.ty a1).ty b1).row (by omega) (by omega)
  rw [b4] at k1 k0
  rw [w_to]
  refine m_tk h36 (by omega) (fun V4 q4 c1 c2 c3 c4 _ => ⟨fun z => absurd z (by decide), fun _ => ?_⟩) (fun V4 c1 c2 c3 c4 => ⟨fun _ => k0 V4 _ (z36.ty c1) c2 (by rw [c4]; rfl), fun z => absurd rfl z⟩)
  rw [c4] at k1 k0
  refine m_plain c2 (fun V5 q5 d1 d2 d3 d4 => ⟨fun z => absurd z (by decide), fun _ => ?_⟩) (fun V5 d1 d2 d3 => ⟨fun _ => k0 V5 _ ((z36.ty c1).ty d1) d2 d3, fun z => absurd rfl z⟩)
  have mV5 := d2.1.1
  refine ⟨1173, mV5.a73.1, mV5.a73.2.1, by simp (disch := first | omega | decide) only [Option.some.injEq, exists_eq_left', exists_eq_left, forall_eq, forall_eq', true_and, and_true, true_implies, implies_true, false_implies, not_true_eq_false, not_false_eq_true, reduceCtorEq, and_self, forall_const, i10, i01, if_true, if_false, and_false, false_and, Nat.not_lt_zero, sK_pI, sN_pI, sR_pI, sL_pI, sK_pL, sN_pL, sR_pL, sI_pL, sK_pR, sN_pR, sI_pR, sL_pR, sI_pI_eq, sI_pI_ne, sL_pL_eq, sL_pL_ne, sR_pR_eq, sR_pR_ne, nn_le, nat32_lt, nn_eq, ln_le, nl_le, ln_lt, nl_lt, ln_eq, nl_eq, n_m1, n_lt0, vp_n, vp_l, lc_n, nat32c, n_s, nI_n, mV5.a73, hR], fun s55 w55 => ?_⟩
  rw [nat32c (by omega), d3] at w55
  refine k1 s55 q5 (by rw [w55]; exact ((z36.ty c1).ty d1).row (by omega) (by omega)) (by rw [w55]; exact d2.row (by omega) (by omega)) d4 ?_ ?_ ?_ ?_
  · rw [w55, sI_pI_ne (by omega), rowE_ty d1 1170 R (by omega), rowE_ty c1 1170 R (by omega), w36, sI_pI_ne (by omega), rowE_ty b1 1170 R (by omega), rowE_ty a1 1170 R (by omega), w18, sI_pI_ne (by omega), rowE_ty g1 1170 R (by omega), w6, sI_pI_eq]
  · rw [w55, sI_pI_ne (by omega), rowE_ty d1 1171 R (by omega), rowE_ty c1 1171 R (by omega), w36, sI_pI_ne (by omega), rowE_ty b1 1171 R (by omega), rowE_ty a1 1171 R (by omega), w18, sI_pI_eq]
  · rw [w55, sI_pI_ne (by omega), rowE_ty d1 1172 R (by omega), rowE_ty c1 1172 R (by omega), w36, sI_pI_eq]
  · rw [w55, sI_pI_eq]
theorem m_turnsIn {Q : Int32 → Sg → Prop} (h : MT T f n q) (hR : R < 264) (k1 : ∀ V q', TZ R T V → MT V f n q' → (stepN f n 0 9999 (stepW f n 3 (stepN f n 1 9999 (stepW f n 2 (stepN f n 0 9999 (stepW f n 1 (stepN f n 0 9999 (.inr (sk f n q))).2)).2)).2)).2 = .inr (sk f n q') → sI V 1170 R = 30 → sI V 1171 R = Int32.ofNat (stepN f n 0 9999 (.inr (sk f n q))).1 → sI V 1172 R = Int32.ofNat (stepN f n 0 9999 (stepW f n 1 (stepN f n 0 9999 (.inr (sk f n q))).2)).1 → sI V 1173 R = Int32.ofNat (stepN f n 1 9999 (stepW f n 2 (stepN f n 0 9999 (stepW f n 1 (stepN f n 0 9999 (.inr (sk f n q))).2)).2)).1 → sI V 1174 R = Int32.ofNat (stepN f n 0 9999 (stepW f n 3 (stepN f n 1 9999 (stepW f n 2 (stepN f n 0 9999 (stepW f n 1 (stepN f n 0 9999 (.inr (sk f n q))).2)).2)).2)).1 → Q 1 V) (k0 : ∀ V p, TZ R T V → MT V f n p → (stepN f n 0 9999 (stepW f n 3 (stepN f n 1 9999 (stepW f n 2 (stepN f n 0 9999 (stepW f n 1 (stepN f n 0 9999 (.inr (sk f n q))).2)).2)).2)).2 = .inl p → Q 0 V) : P_X11_turnsIn 1000 (Int32.ofNat R) T Q := by
  unfold P_X11_turnsIn
  have hM := h.1.1
  refine ⟨hM.o, 1170, hM.a70.1, hM.a70.2.1, by simp (disch := first | omega | decide) only [Option.some.injEq, exists_eq_left', exists_eq_left, forall_eq, forall_eq', true_and, and_true, true_implies, implies_true, false_implies, not_true_eq_false, not_false_eq_true, reduceCtorEq, and_self, forall_const, i10, i01, if_true, if_false, and_false, false_and, Nat.not_lt_zero, sK_pI, sN_pI, sR_pI, sL_pI, sK_pL, sN_pL, sR_pL, sI_pL, sK_pR, sN_pR, sI_pR, sL_pR, sI_pI_eq, sI_pI_ne, sL_pL_eq, sL_pL_ne, sR_pR_eq, sR_pR_ne, nn_le, nat32_lt, nn_eq, ln_le, nl_le, ln_lt, nl_lt, ln_eq, nl_eq, n_m1, n_lt0, vp_n, vp_l, lc_n, nat32c, n_s, nI_n, hM.a70, hR], fun s6 w6 => ?_⟩
  rw [nat32c (by omega)] at w6
  have h6 : MT s6 f n q := by rw [w6]; exact h.row (by omega) (by omega)
  have z6 : TZ R T s6 := by rw [w6]; exact (TZ.refl hM).row (by omega) (by omega)
  refine m_plain h6 (fun V q' g1 g2 g3 g4 => ⟨fun z => absurd z (by decide), fun _ => ?_⟩) (fun V g1 g2 g3 => ⟨fun _ => k0 V _ (z6.ty g1) g2 (by rw [g3]; rfl), fun z => absurd rfl z⟩)
  have mV := g2.1.1
  refine ⟨1171, mV.a71.1, mV.a71.2.1, by simp (disch := first | omega | decide) only [Option.some.injEq, exists_eq_left', exists_eq_left, forall_eq, forall_eq', true_and, and_true, true_implies, implies_true, false_implies, not_true_eq_false, not_false_eq_true, reduceCtorEq, and_self, forall_const, i10, i01, if_true, if_false, and_false, false_and, Nat.not_lt_zero, sK_pI, sN_pI, sR_pI, sL_pI, sK_pL, sN_pL, sR_pL, sI_pL, sK_pR, sN_pR, sI_pR, sL_pR, sI_pI_eq, sI_pI_ne, sL_pL_eq, sL_pL_ne, sR_pR_eq, sR_pR_ne, nn_le, nat32_lt, nn_eq, ln_le, nl_le, ln_lt, nl_lt, ln_eq, nl_eq, n_m1, n_lt0, vp_n, vp_l, lc_n, nat32c, n_s, nI_n, mV.a71, hR], fun s18 w18 => ?_⟩
  rw [nat32c (by omega), g3] at w18
  have h18 : MT s18 f n q' := by rw [w18]; exact g2.row (by omega) (by omega)
  have z18 : TZ R T s18 := by rw [w18]; exact (z6.ty g1).row (by omega) (by omega)
  rw [g4] at k1 k0
  rw [w_at]
  refine m_tk h18 (by omega) (fun V2 q2 a1 a2 a3 a4 _ => ⟨fun z => absurd z (by decide), fun _ => ?_⟩) (fun V2 a1 a2 a3 a4 => ⟨fun _ => k0 V2 _ (z18.ty a1) a2 (by rw [a4]; rfl), fun z => absurd rfl z⟩)
  rw [a4] at k1 k0
  refine m_plain a2 (fun V3 q3 b1 b2 b3 b4 => ⟨fun z => absurd z (by decide), fun _ => ?_⟩) (fun V3 b1 b2 b3 => ⟨fun _ => k0 V3 _ ((z18.ty a1).ty b1) b2 (by rw [b3]; rfl), fun z => absurd rfl z⟩)
  have mV3 := b2.1.1
  refine ⟨1172, mV3.a72.1, mV3.a72.2.1, by simp (disch := first | omega | decide) only [Option.some.injEq, exists_eq_left', exists_eq_left, forall_eq, forall_eq', true_and, and_true, true_implies, implies_true, false_implies, not_true_eq_false, not_false_eq_true, reduceCtorEq, and_self, forall_const, i10, i01, if_true, if_false, and_false, false_and, Nat.not_lt_zero, sK_pI, sN_pI, sR_pI, sL_pI, sK_pL, sN_pL, sR_pL, sI_pL, sK_pR, sN_pR, sI_pR, sL_pR, sI_pI_eq, sI_pI_ne, sL_pL_eq, sL_pL_ne, sR_pR_eq, sR_pR_ne, nn_le, nat32_lt, nn_eq, ln_le, nl_le, ln_lt, nl_lt, ln_eq, nl_eq, n_m1, n_lt0, vp_n, vp_l, lc_n, nat32c, n_s, nI_n, mV3.a72, hR], fun s36 w36 => ?_⟩
  rw [nat32c (by omega), b3] at w36
  have h36 : MT s36 f n q3 := by rw [w36]; exact b2.row (by omega) (by omega)
  have z36 : TZ R T s36 := by rw [w36]; exact ((z18.ty a1).ty b1).row (by omega) (by omega)
  rw [b4] at k1 k0
  rw [w_every]
  refine m_tk h36 (by omega) (fun V4 q4 c1 c2 c3 c4 _ => ⟨fun z => absurd z (by decide), fun _ => ?_⟩) (fun V4 c1 c2 c3 c4 => ⟨fun _ => k0 V4 _ (z36.ty c1) c2 (by rw [c4]; rfl), fun z => absurd rfl z⟩)
  rw [c4] at k1 k0
  refine m_nb (lo := 1) (hi := 9999) c2 (by omega) (by omega) (fun V5 q5 d1 d2 d3 d4 => ⟨fun z => absurd z (by decide), fun _ => ?_⟩) (fun V5 d1 d2 d3 => ⟨fun _ => k0 V5 _ ((z36.ty c1).ty d1) d2 (by rw [d3]; rfl), fun z => absurd rfl z⟩)
  have mV5 := d2.1.1
  refine ⟨1173, mV5.a73.1, mV5.a73.2.1, by simp (disch := first | omega | decide) only [Option.some.injEq, exists_eq_left', exists_eq_left, forall_eq, forall_eq', true_and, and_true, true_implies, implies_true, false_implies, not_true_eq_false, not_false_eq_true, reduceCtorEq, and_self, forall_const, i10, i01, if_true, if_false, and_false, false_and, Nat.not_lt_zero, sK_pI, sN_pI, sR_pI, sL_pI, sK_pL, sN_pL, sR_pL, sI_pL, sK_pR, sN_pR, sI_pR, sL_pR, sI_pI_eq, sI_pI_ne, sL_pL_eq, sL_pL_ne, sR_pR_eq, sR_pR_ne, nn_le, nat32_lt, nn_eq, ln_le, nl_le, ln_lt, nl_lt, ln_eq, nl_eq, n_m1, n_lt0, vp_n, vp_l, lc_n, nat32c, n_s, nI_n, mV5.a73, hR], fun s52 w52 => ?_⟩
  rw [nat32c (by omega), d3] at w52
  have h52 : MT s52 f n q5 := by rw [w52]; exact d2.row (by omega) (by omega)
  have z52 : TZ R T s52 := by rw [w52]; exact ((z36.ty c1).ty d1).row (by omega) (by omega)
  rw [d4] at k1 k0
  rw [w_from]
  refine m_tk h52 (by omega) (fun V6 q6 e1 e2 e3 e4 _ => ⟨fun z => absurd z (by decide), fun _ => ?_⟩) (fun V6 e1 e2 e3 e4 => ⟨fun _ => k0 V6 _ (z52.ty e1) e2 (by rw [e4]; rfl), fun z => absurd rfl z⟩)
  rw [e4] at k1 k0
  refine m_plain e2 (fun V7 q7 x1 x2 x3 x4 => ⟨fun z => absurd z (by decide), fun _ => ?_⟩) (fun V7 x1 x2 x3 => ⟨fun _ => k0 V7 _ ((z52.ty e1).ty x1) x2 x3, fun z => absurd rfl z⟩)
  have mV7 := x2.1.1
  refine ⟨1174, mV7.a74.1, mV7.a74.2.1, by simp (disch := first | omega | decide) only [Option.some.injEq, exists_eq_left', exists_eq_left, forall_eq, forall_eq', true_and, and_true, true_implies, implies_true, false_implies, not_true_eq_false, not_false_eq_true, reduceCtorEq, and_self, forall_const, i10, i01, if_true, if_false, and_false, false_and, Nat.not_lt_zero, sK_pI, sN_pI, sR_pI, sL_pI, sK_pL, sN_pL, sR_pL, sI_pL, sK_pR, sN_pR, sI_pR, sL_pR, sI_pI_eq, sI_pI_ne, sL_pL_eq, sL_pL_ne, sR_pR_eq, sR_pR_ne, nn_le, nat32_lt, nn_eq, ln_le, nl_le, ln_lt, nl_lt, ln_eq, nl_eq, n_m1, n_lt0, vp_n, vp_l, lc_n, nat32c, n_s, nI_n, mV7.a74, hR], fun s69 w69 => ?_⟩
  rw [nat32c (by omega), x3] at w69
  refine k1 s69 q7 (by rw [w69]; exact ((z52.ty e1).ty x1).row (by omega) (by omega)) (by rw [w69]; exact x2.row (by omega) (by omega)) x4 ?_ ?_ ?_ ?_ ?_
  · rw [w69, sI_pI_ne (by omega), rowE_ty x1 1170 R (by omega), rowE_ty e1 1170 R (by omega), w52, sI_pI_ne (by omega), rowE_ty d1 1170 R (by omega), rowE_ty c1 1170 R (by omega), w36, sI_pI_ne (by omega), rowE_ty b1 1170 R (by omega), rowE_ty a1 1170 R (by omega), w18, sI_pI_ne (by omega), rowE_ty g1 1170 R (by omega), w6, sI_pI_eq]
  · rw [w69, sI_pI_ne (by omega), rowE_ty x1 1171 R (by omega), rowE_ty e1 1171 R (by omega), w52, sI_pI_ne (by omega), rowE_ty d1 1171 R (by omega), rowE_ty c1 1171 R (by omega), w36, sI_pI_ne (by omega), rowE_ty b1 1171 R (by omega), rowE_ty a1 1171 R (by omega), w18, sI_pI_eq]
  · rw [w69, sI_pI_ne (by omega), rowE_ty x1 1172 R (by omega), rowE_ty e1 1172 R (by omega), w52, sI_pI_ne (by omega), rowE_ty d1 1172 R (by omega), rowE_ty c1 1172 R (by omega), w36, sI_pI_eq]
  · rw [w69, sI_pI_ne (by omega), rowE_ty x1 1173 R (by omega), rowE_ty e1 1173 R (by omega), w52, sI_pI_eq]
  · rw [w69, sI_pI_eq]
theorem semi_t {p : Nat} : tokW f n 18 p ↔ p < n ∧ f p = 59 := by
  have w1 : wl 18 = 1 := by decide +kernel
  have w2 : wb 18 0 = 59 := by decide +kernel
  constructor
  · intro t
    have t2 := t.2 0 (by omega)
    rw [w2, Nat.add_zero] at t2
    refine ⟨?_, t2⟩
    have t1 := t.1
    rw [w1] at t1
    unfold te at t1
    by_cases c : p < n
    · exact c
    · rw [if_neg c] at t1; omega
  · rintro ⟨h1, h2⟩
    have k0 : kd (f p) = 0 := by rw [h2]; decide
    refine ⟨?_, fun j hj => ?_⟩
    · unfold te; rw [if_pos h1, if_pos k0, w1]
    · have : j = 0 := by omega
      subst this
      rw [Nat.add_zero, w2]; exact h2
theorem m_114 {Q : Int32 → Sg → Prop} (h : MT T f n q) (k1 : ∀ V q', TY T V → MT V f n q' → stepW f n 18 (.inr (sk f n q)) = .inr (sk f n q') → Q 1 V) (k0 : ∀ V, TY T V → MT V f n (sk f n q) → stepW f n 18 (.inr (sk f n q)) = .inl (sk f n q) → Q 0 V) : P_X11_statement_B114 1000 1 T Q := by
  have hn := h.1.2.1
  unfold P_X11_statement_B114
  refine ⟨fun z => absurd z (by decide), fun _ => ⟨h.1.1.o, m_blanks h.1 h.2.1 h.2.2 (fun V g1 g2 g3 => ?_)⟩⟩
  have hV := h.1.ty g1
  have pn : sk f n q ≤ n := enn_le h.2.2
  have mV : MT V f n (sk f n q) := ⟨hV, g2, pn⟩
  generalize sk f n q = p at *
  rw [g2, hV.2.2.1, nn_eq (by omega) (by omega)]
  refine ⟨fun z => k0 V g1 mV (stepW_n (fun t => by have := (semi_t.mp t).1; omega)), fun z => ?_⟩
  have pl : p < n := by omega
  have p7 : p < 700 := by omega
  obtain ⟨fb, fe⟩ := hV.2.2.2 p pl
  refine ⟨1176, hV.1.a76.1, hV.1.a76.2.1, by simp (disch := first | omega | decide) only [Option.some.injEq, exists_eq_left', exists_eq_left, forall_eq, forall_eq', true_and, and_true, true_implies, implies_true, false_implies, not_true_eq_false, not_false_eq_true, reduceCtorEq, and_self, forall_const, i10, i01, if_true, if_false, and_false, false_and, Nat.not_lt_zero, sK_pI, sN_pI, sR_pI, sL_pI, sK_pL, sN_pL, sR_pL, sI_pL, sK_pR, sN_pR, sI_pR, sL_pR, sI_pI_eq, sI_pI_ne, sL_pL_eq, sL_pL_ne, sR_pR_eq, sR_pR_ne, nn_le, nat32_lt, nn_eq, ln_le, nl_le, ln_lt, nl_lt, ln_eq, nl_eq, n_m1, n_lt0, vp_n, vp_l, lc_n, nat32c, n_s, nI_n, hV.1.a76, p7], ?_⟩
  rw [nat32c (by omega), fe, show byt (f p) = (59 : Int32) ↔ f p = 59 from byt_eq (k := 59) fb (by omega)]
  refine ⟨fun y s ws => ?_, fun y => k0 V g1 mV (stepW_n (fun t => y (semi_t.mp t).2))⟩
  have t : tokW f n 18 p := semi_t.mpr ⟨pl, y⟩
  have e1 : te f n p = p + 1 := by have := t.1; rw [show wl 18 = 1 from by decide +kernel] at this; exact this
  have gs : TY T s := by rw [ws]; exact g1.pI (Or.inl rfl)
  refine k1 s (te f n p) gs ⟨h.1.ty gs, ?_, te_le pn⟩ (stepW_y t)
  rw [ws, sI_pI_eq, n_s, e1]
end MS
