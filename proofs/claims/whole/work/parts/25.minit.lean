/-! ===== level 2: the reference's constructor ===== -/
/-- the reference's arrays that are made, all zero: field, kind, length -/
def MB (l : List (Nat × Nat × Nat)) (S : Sg) : Prop :=
  vw S 1 = vBare ∧ vw S 2 = vEmpty ∧ sK S 1000 = 13 ∧ (∀ k, sI S 1000 k = 0) ∧ (∀ k, sL S 1000 k = 0) ∧ (∀ q ∈ l, sR S 1000 q.1 = some (1100 + q.1) ∧ vw S (1100 + q.1) = (q.2.1, q.2.2, fun _ => 0, fun _ => 0, fun _ => none)) ∧ ∀ h, ¬ sK S h = 0 → h = 1 ∨ h = 2 ∨ h = 1000 ∨ ∃ q ∈ l, h = 1100 + q.1
theorem MB.fresh {l : List (Nat × Nat × Nat)} {S : Sg} (h : MB l S) {k : Nat} (hk : ∀ q ∈ l, ¬ q.1 = k) : sK S (1100 + k) = 0 := by
  rcases Nat.eq_zero_or_pos (sK S (1100 + k)) with z | z
  · exact z
  · rcases h.2.2.2.2.2.2 (1100 + k) (by omega) with e | e | e | ⟨q, hq, e⟩
    · omega
    · omega
    · omega
    · exact absurd (show q.1 = k by omega) (hk q hq)
theorem MB.step {l : List (Nat × Nat × Nat)} {S : Sg} (h : MB l S) {k c n : Nat} (hk : ∀ q ∈ l, ¬ q.1 = k) : MB ((k, c, n) :: l) (pR (nw S (1100 + k) c n) 1000 k (some (1100 + k))) := by
  obtain ⟨a1, a2, a3, a4, a5, a6, a7⟩ := h
  have v1 : ∀ x, ¬ x = 1000 → ¬ x = 1100 + k → vw (pR (nw S (1100 + k) c n) 1000 k (some (1100 + k))) x = vw S x := fun x h1 h2 => by rw [vw_pR h1, vw_nw h2]
  have e0 : ¬ (1000 : Nat) = 1100 + k := by omega
  refine ⟨(v1 1 (by omega) (by omega)).trans a1, (v1 2 (by omega) (by omega)).trans a2, ?_, fun j => ?_, fun j => ?_, fun q hq => ?_, fun x hx => ?_⟩
  · rw [sK_pR, sK_nw, if_neg e0]; exact a3
  · rw [sI_pR, sI_nw, if_neg e0]; exact a4 j
  · rw [sL_pR, sL_nw, if_neg e0]; exact a5 j
  · rcases List.mem_cons.mp hq with e | e
    · subst e
      refine ⟨by rw [sR_pR, if_pos ⟨rfl, rfl⟩], ?_⟩
      rw [vw_pR (by omega)]
      exact vw_nwq
    · have hne : ¬ q.1 = k := hk q e
      refine ⟨by rw [sR_pR, if_neg (fun z => hne z.2), sR_nw, if_neg e0]; exact (a6 q e).1, ?_⟩
      rw [v1 (1100 + q.1) (by omega) (by omega)]
      exact (a6 q e).2
  · rw [sK_pR, sK_nw] at hx
    by_cases e : x = 1100 + k
    · exact Or.inr (Or.inr (Or.inr ⟨(k, c, n), List.mem_cons_self, e⟩))
    · rw [if_neg e] at hx
      rcases a7 x hx with z | z | z | ⟨q, hq, z⟩
      · exact Or.inl z
      · exact Or.inr (Or.inl z)
      · exact Or.inr (Or.inr (Or.inl z))
      · exact Or.inr (Or.inr (Or.inr ⟨q, List.mem_cons_of_mem _ hq, z⟩))
theorem MB0 : MB [] (nw S00 1000 13 0) := by
  refine ⟨(vw_nw (by omega)).trans rfl, (vw_nw (by omega)).trans rfl, by rw [sK_nw, if_pos rfl], fun k => by rw [sI_nw, if_pos rfl], fun k => by rw [sL_nw, if_pos rfl], fun q h => (by cases h), fun h hh => ?_⟩
  rw [sK_nw] at hh
  by_cases e : h = 1000
  · exact Or.inr (Or.inr (Or.inl e))
  · rw [if_neg e] at hh
    by_cases e1 : h = 1
    · exact Or.inl e1
    · by_cases e2 : h = 2
      · exact Or.inr (Or.inl e2)
      · exact absurd (congrArg (fun z => z.1) (show vw S00 h = vw0 from (if_neg e1).trans (if_neg e2))) hh
def mArr : List (Nat × Nat × Nat) := [(76, 19, 700), (75, 19, 700), (74, 16, 264), (73, 16, 264), (72, 16, 264), (71, 16, 264), (70, 16, 264), (69, 16, 11), (68, 16, 11), (66, 18, 60), (65, 16, 60), (64, 16, 60), (63, 16, 60), (62, 16, 60), (61, 16, 60), (60, 16, 12), (59, 16, 40), (58, 16, 40), (57, 17, 12), (56, 17, 12), (55, 17, 40), (54, 17, 40), (53, 17, 40), (46, 16, 12), (45, 17, 12), (44, 17, 12), (43, 17, 12), (42, 17, 12), (41, 16, 12), (40, 16, 30), (34, 16, 100), (33, 16, 10), (32, 16, 30), (31, 16, 10), (30, 16, 30), (29, 16, 30), (28, 16, 30), (27, 16, 30), (26, 16, 30), (25, 16, 30), (24, 16, 132), (23, 16, 12), (22, 16, 12), (21, 16, 12), (20, 16, 12), (19, 16, 12), (18, 16, 12), (17, 16, 12), (16, 16, 12), (15, 16, 12), (14, 18, 12), (13, 18, 12), (12, 18, 12), (11, 16, 12), (10, 16, 12), (9, 16, 12), (8, 16, 12), (7, 16, 12)]
set_option maxHeartbeats 4000000 in
set_option maxRecDepth 100000 in
theorem m_init0 {Q : Unit → Sg → Prop} (k : ∀ (S : Sg) (b : Nat × Nat), MB mArr S → P_X11_init_L483 1000 0 (pI S 1000 80 (-1)) b Q) : P_X11_init 1000 (nw S00 1000 13 0) (40000, 60000) Q := by
  unfold P_X11_init
  have H : MB [] (nw S00 1000 13 0) := MB0
  generalize nw S00 1000 13 0 = s0 at H ⊢
  refine ⟨16, 1100 + 7, rfl, by decide, by decide +kernel, by decide +kernel, by decide +kernel, H.fresh (k := 7) (by decide), by decide, fun z hz => (by cases hz; rw [H.2.2.1]; decide), fun s1 e => ⟨by rw [e, sK_nw, if_neg (by decide), H.2.2.1], fun t1 e2 => ?_⟩⟩
  replace H : MB [(7, 16, 12)] t1 := by
    rw [e2, e, show (12 : Int32).toNatClampNeg = 12 by decide +kernel]
    exact H.step (k := 7) (by decide)
  clear e e2
  refine ⟨16, 1100 + 8, rfl, by decide, by decide +kernel, by decide +kernel, by decide +kernel, H.fresh (k := 8) (by decide), by decide, fun s2 e => fun t2 e2 => ?_⟩
  replace H : MB [(8, 16, 12), (7, 16, 12)] t2 := by
    rw [e2, e, show (12 : Int32).toNatClampNeg = 12 by decide +kernel]
    exact H.step (k := 8) (by decide)
  clear e e2
  refine ⟨16, 1100 + 9, rfl, by decide, by decide +kernel, by decide +kernel, by decide +kernel, H.fresh (k := 9) (by decide), by decide, fun s3 e => fun t3 e2 => ?_⟩
  replace H : MB [(9, 16, 12), (8, 16, 12), (7, 16, 12)] t3 := by
    rw [e2, e, show (12 : Int32).toNatClampNeg = 12 by decide +kernel]
    exact H.step (k := 9) (by decide)
  clear e e2
  refine ⟨16, 1100 + 10, rfl, by decide, by decide +kernel, by decide +kernel, by decide +kernel, H.fresh (k := 10) (by decide), by decide, fun s4 e => fun t4 e2 => ?_⟩
  replace H : MB [(10, 16, 12), (9, 16, 12), (8, 16, 12), (7, 16, 12)] t4 := by
    rw [e2, e, show (12 : Int32).toNatClampNeg = 12 by decide +kernel]
    exact H.step (k := 10) (by decide)
  clear e e2
  refine ⟨16, 1100 + 11, rfl, by decide, by decide +kernel, by decide +kernel, by decide +kernel, H.fresh (k := 11) (by decide), by decide, fun s5 e => fun t5 e2 => ?_⟩
  replace H : MB [(11, 16, 12), (10, 16, 12), (9, 16, 12), (8, 16, 12), (7, 16, 12)] t5 := by
    rw [e2, e, show (12 : Int32).toNatClampNeg = 12 by decide +kernel]
    exact H.step (k := 11) (by decide)
  clear e e2
  refine ⟨18, 1100 + 12, rfl, by decide, by decide +kernel, by decide +kernel, by decide +kernel, H.fresh (k := 12) (by decide), by decide, fun s6 e => fun t6 e2 => ?_⟩
  replace H : MB [(12, 18, 12), (11, 16, 12), (10, 16, 12), (9, 16, 12), (8, 16, 12), (7, 16, 12)] t6 := by
    rw [e2, e, show (12 : Int32).toNatClampNeg = 12 by decide +kernel]
    exact H.step (k := 12) (by decide)
  clear e e2
  refine ⟨18, 1100 + 13, rfl, by decide, by decide +kernel, by decide +kernel, by decide +kernel, H.fresh (k := 13) (by decide), by decide, fun s7 e => fun t7 e2 => ?_⟩
  replace H : MB [(13, 18, 12), (12, 18, 12), (11, 16, 12), (10, 16, 12), (9, 16, 12), (8, 16, 12), (7, 16, 12)] t7 := by
    rw [e2, e, show (12 : Int32).toNatClampNeg = 12 by decide +kernel]
    exact H.step (k := 13) (by decide)
  clear e e2
  refine ⟨18, 1100 + 14, rfl, by decide, by decide +kernel, by decide +kernel, by decide +kernel, H.fresh (k := 14) (by decide), by decide, fun s8 e => fun t8 e2 => ?_⟩
  replace H : MB [(14, 18, 12), (13, 18, 12), (12, 18, 12), (11, 16, 12), (10, 16, 12), (9, 16, 12), (8, 16, 12), (7, 16, 12)] t8 := by
    rw [e2, e, show (12 : Int32).toNatClampNeg = 12 by decide +kernel]
    exact H.step (k := 14) (by decide)
  clear e e2
  refine ⟨16, 1100 + 15, rfl, by decide, by decide +kernel, by decide +kernel, by decide +kernel, H.fresh (k := 15) (by decide), by decide, fun s9 e => fun t9 e2 => ?_⟩
  replace H : MB [(15, 16, 12), (14, 18, 12), (13, 18, 12), (12, 18, 12), (11, 16, 12), (10, 16, 12), (9, 16, 12), (8, 16, 12), (7, 16, 12)] t9 := by
    rw [e2, e, show (12 : Int32).toNatClampNeg = 12 by decide +kernel]
    exact H.step (k := 15) (by decide)
  clear e e2
  refine ⟨16, 1100 + 16, rfl, by decide, by decide +kernel, by decide +kernel, by decide +kernel, H.fresh (k := 16) (by decide), by decide, fun s10 e => fun t10 e2 => ?_⟩
  replace H : MB [(16, 16, 12), (15, 16, 12), (14, 18, 12), (13, 18, 12), (12, 18, 12), (11, 16, 12), (10, 16, 12), (9, 16, 12), (8, 16, 12), (7, 16, 12)] t10 := by
    rw [e2, e, show (12 : Int32).toNatClampNeg = 12 by decide +kernel]
    exact H.step (k := 16) (by decide)
  clear e e2
  refine ⟨16, 1100 + 17, rfl, by decide, by decide +kernel, by decide +kernel, by decide +kernel, H.fresh (k := 17) (by decide), by decide, fun s11 e => fun t11 e2 => ?_⟩
  replace H : MB [(17, 16, 12), (16, 16, 12), (15, 16, 12), (14, 18, 12), (13, 18, 12), (12, 18, 12), (11, 16, 12), (10, 16, 12), (9, 16, 12), (8, 16, 12), (7, 16, 12)] t11 := by
    rw [e2, e, show (12 : Int32).toNatClampNeg = 12 by decide +kernel]
    exact H.step (k := 17) (by decide)
  clear e e2
  refine ⟨16, 1100 + 18, rfl, by decide, by decide +kernel, by decide +kernel, by decide +kernel, H.fresh (k := 18) (by decide), by decide, fun s12 e => fun t12 e2 => ?_⟩
  replace H : MB [(18, 16, 12), (17, 16, 12), (16, 16, 12), (15, 16, 12), (14, 18, 12), (13, 18, 12), (12, 18, 12), (11, 16, 12), (10, 16, 12), (9, 16, 12), (8, 16, 12), (7, 16, 12)] t12 := by
    rw [e2, e, show (12 : Int32).toNatClampNeg = 12 by decide +kernel]
    exact H.step (k := 18) (by decide)
  clear e e2
  refine ⟨16, 1100 + 19, rfl, by decide, by decide +kernel, by decide +kernel, by decide +kernel, H.fresh (k := 19) (by decide), by decide, fun s13 e => fun t13 e2 => ?_⟩
  replace H : MB [(19, 16, 12), (18, 16, 12), (17, 16, 12), (16, 16, 12), (15, 16, 12), (14, 18, 12), (13, 18, 12), (12, 18, 12), (11, 16, 12), (10, 16, 12), (9, 16, 12), (8, 16, 12), (7, 16, 12)] t13 := by
    rw [e2, e, show (12 : Int32).toNatClampNeg = 12 by decide +kernel]
    exact H.step (k := 19) (by decide)
  clear e e2
  refine ⟨16, 1100 + 20, rfl, by decide, by decide +kernel, by decide +kernel, by decide +kernel, H.fresh (k := 20) (by decide), by decide, fun s14 e => fun t14 e2 => ?_⟩
  replace H : MB [(20, 16, 12), (19, 16, 12), (18, 16, 12), (17, 16, 12), (16, 16, 12), (15, 16, 12), (14, 18, 12), (13, 18, 12), (12, 18, 12), (11, 16, 12), (10, 16, 12), (9, 16, 12), (8, 16, 12), (7, 16, 12)] t14 := by
    rw [e2, e, show (12 : Int32).toNatClampNeg = 12 by decide +kernel]
    exact H.step (k := 20) (by decide)
  clear e e2
  refine ⟨16, 1100 + 21, rfl, by decide, by decide +kernel, by decide +kernel, by decide +kernel, H.fresh (k := 21) (by decide), by decide, fun s15 e => fun t15 e2 => ?_⟩
  replace H : MB [(21, 16, 12), (20, 16, 12), (19, 16, 12), (18, 16, 12), (17, 16, 12), (16, 16, 12), (15, 16, 12), (14, 18, 12), (13, 18, 12), (12, 18, 12), (11, 16, 12), (10, 16, 12), (9, 16, 12), (8, 16, 12), (7, 16, 12)] t15 := by
    rw [e2, e, show (12 : Int32).toNatClampNeg = 12 by decide +kernel]
    exact H.step (k := 21) (by decide)
  clear e e2
  refine ⟨16, 1100 + 22, rfl, by decide, by decide +kernel, by decide +kernel, by decide +kernel, H.fresh (k := 22) (by decide), by decide, fun s16 e => fun t16 e2 => ?_⟩
  replace H : MB [(22, 16, 12), (21, 16, 12), (20, 16, 12), (19, 16, 12), (18, 16, 12), (17, 16, 12), (16, 16, 12), (15, 16, 12), (14, 18, 12), (13, 18, 12), (12, 18, 12), (11, 16, 12), (10, 16, 12), (9, 16, 12), (8, 16, 12), (7, 16, 12)] t16 := by
    rw [e2, e, show (12 : Int32).toNatClampNeg = 12 by decide +kernel]
    exact H.step (k := 22) (by decide)
  clear e e2
  refine ⟨16, 1100 + 23, rfl, by decide, by decide +kernel, by decide +kernel, by decide +kernel, H.fresh (k := 23) (by decide), by decide, fun s17 e => fun t17 e2 => ?_⟩
  replace H : MB [(23, 16, 12), (22, 16, 12), (21, 16, 12), (20, 16, 12), (19, 16, 12), (18, 16, 12), (17, 16, 12), (16, 16, 12), (15, 16, 12), (14, 18, 12), (13, 18, 12), (12, 18, 12), (11, 16, 12), (10, 16, 12), (9, 16, 12), (8, 16, 12), (7, 16, 12)] t17 := by
    rw [e2, e, show (12 : Int32).toNatClampNeg = 12 by decide +kernel]
    exact H.step (k := 23) (by decide)
  clear e e2
  refine ⟨16, 1100 + 24, rfl, by decide, by decide +kernel, by decide +kernel, by decide +kernel, H.fresh (k := 24) (by decide), by decide, fun s18 e => fun t18 e2 => ?_⟩
  replace H : MB [(24, 16, 132), (23, 16, 12), (22, 16, 12), (21, 16, 12), (20, 16, 12), (19, 16, 12), (18, 16, 12), (17, 16, 12), (16, 16, 12), (15, 16, 12), (14, 18, 12), (13, 18, 12), (12, 18, 12), (11, 16, 12), (10, 16, 12), (9, 16, 12), (8, 16, 12), (7, 16, 12)] t18 := by
    rw [e2, e, show (132 : Int32).toNatClampNeg = 132 by decide +kernel]
    exact H.step (k := 24) (by decide)
  clear e e2
  refine ⟨16, 1100 + 25, rfl, by decide, by decide +kernel, by decide +kernel, by decide +kernel, H.fresh (k := 25) (by decide), by decide, fun s19 e => fun t19 e2 => ?_⟩
  replace H : MB [(25, 16, 30), (24, 16, 132), (23, 16, 12), (22, 16, 12), (21, 16, 12), (20, 16, 12), (19, 16, 12), (18, 16, 12), (17, 16, 12), (16, 16, 12), (15, 16, 12), (14, 18, 12), (13, 18, 12), (12, 18, 12), (11, 16, 12), (10, 16, 12), (9, 16, 12), (8, 16, 12), (7, 16, 12)] t19 := by
    rw [e2, e, show (30 : Int32).toNatClampNeg = 30 by decide +kernel]
    exact H.step (k := 25) (by decide)
  clear e e2
  refine ⟨16, 1100 + 26, rfl, by decide, by decide +kernel, by decide +kernel, by decide +kernel, H.fresh (k := 26) (by decide), by decide, fun s20 e => fun t20 e2 => ?_⟩
  replace H : MB [(26, 16, 30), (25, 16, 30), (24, 16, 132), (23, 16, 12), (22, 16, 12), (21, 16, 12), (20, 16, 12), (19, 16, 12), (18, 16, 12), (17, 16, 12), (16, 16, 12), (15, 16, 12), (14, 18, 12), (13, 18, 12), (12, 18, 12), (11, 16, 12), (10, 16, 12), (9, 16, 12), (8, 16, 12), (7, 16, 12)] t20 := by
    rw [e2, e, show (30 : Int32).toNatClampNeg = 30 by decide +kernel]
    exact H.step (k := 26) (by decide)
  clear e e2
  refine ⟨16, 1100 + 27, rfl, by decide, by decide +kernel, by decide +kernel, by decide +kernel, H.fresh (k := 27) (by decide), by decide, fun s21 e => fun t21 e2 => ?_⟩
  replace H : MB [(27, 16, 30), (26, 16, 30), (25, 16, 30), (24, 16, 132), (23, 16, 12), (22, 16, 12), (21, 16, 12), (20, 16, 12), (19, 16, 12), (18, 16, 12), (17, 16, 12), (16, 16, 12), (15, 16, 12), (14, 18, 12), (13, 18, 12), (12, 18, 12), (11, 16, 12), (10, 16, 12), (9, 16, 12), (8, 16, 12), (7, 16, 12)] t21 := by
    rw [e2, e, show (30 : Int32).toNatClampNeg = 30 by decide +kernel]
    exact H.step (k := 27) (by decide)
  clear e e2
  refine ⟨16, 1100 + 28, rfl, by decide, by decide +kernel, by decide +kernel, by decide +kernel, H.fresh (k := 28) (by decide), by decide, fun s22 e => fun t22 e2 => ?_⟩
  replace H : MB [(28, 16, 30), (27, 16, 30), (26, 16, 30), (25, 16, 30), (24, 16, 132), (23, 16, 12), (22, 16, 12), (21, 16, 12), (20, 16, 12), (19, 16, 12), (18, 16, 12), (17, 16, 12), (16, 16, 12), (15, 16, 12), (14, 18, 12), (13, 18, 12), (12, 18, 12), (11, 16, 12), (10, 16, 12), (9, 16, 12), (8, 16, 12), (7, 16, 12)] t22 := by
    rw [e2, e, show (30 : Int32).toNatClampNeg = 30 by decide +kernel]
    exact H.step (k := 28) (by decide)
  clear e e2
  refine ⟨16, 1100 + 29, rfl, by decide, by decide +kernel, by decide +kernel, by decide +kernel, H.fresh (k := 29) (by decide), by decide, fun s23 e => fun t23 e2 => ?_⟩
  replace H : MB [(29, 16, 30), (28, 16, 30), (27, 16, 30), (26, 16, 30), (25, 16, 30), (24, 16, 132), (23, 16, 12), (22, 16, 12), (21, 16, 12), (20, 16, 12), (19, 16, 12), (18, 16, 12), (17, 16, 12), (16, 16, 12), (15, 16, 12), (14, 18, 12), (13, 18, 12), (12, 18, 12), (11, 16, 12), (10, 16, 12), (9, 16, 12), (8, 16, 12), (7, 16, 12)] t23 := by
    rw [e2, e, show (30 : Int32).toNatClampNeg = 30 by decide +kernel]
    exact H.step (k := 29) (by decide)
  clear e e2
  refine ⟨16, 1100 + 30, rfl, by decide, by decide +kernel, by decide +kernel, by decide +kernel, H.fresh (k := 30) (by decide), by decide, fun s24 e => fun t24 e2 => ?_⟩
  replace H : MB [(30, 16, 30), (29, 16, 30), (28, 16, 30), (27, 16, 30), (26, 16, 30), (25, 16, 30), (24, 16, 132), (23, 16, 12), (22, 16, 12), (21, 16, 12), (20, 16, 12), (19, 16, 12), (18, 16, 12), (17, 16, 12), (16, 16, 12), (15, 16, 12), (14, 18, 12), (13, 18, 12), (12, 18, 12), (11, 16, 12), (10, 16, 12), (9, 16, 12), (8, 16, 12), (7, 16, 12)] t24 := by
    rw [e2, e, show (30 : Int32).toNatClampNeg = 30 by decide +kernel]
    exact H.step (k := 30) (by decide)
  clear e e2
  refine ⟨16, 1100 + 31, rfl, by decide, by decide +kernel, by decide +kernel, by decide +kernel, H.fresh (k := 31) (by decide), by decide, fun s25 e => fun t25 e2 => ?_⟩
  replace H : MB [(31, 16, 10), (30, 16, 30), (29, 16, 30), (28, 16, 30), (27, 16, 30), (26, 16, 30), (25, 16, 30), (24, 16, 132), (23, 16, 12), (22, 16, 12), (21, 16, 12), (20, 16, 12), (19, 16, 12), (18, 16, 12), (17, 16, 12), (16, 16, 12), (15, 16, 12), (14, 18, 12), (13, 18, 12), (12, 18, 12), (11, 16, 12), (10, 16, 12), (9, 16, 12), (8, 16, 12), (7, 16, 12)] t25 := by
    rw [e2, e, show (10 : Int32).toNatClampNeg = 10 by decide +kernel]
    exact H.step (k := 31) (by decide)
  clear e e2
  refine ⟨16, 1100 + 32, rfl, by decide, by decide +kernel, by decide +kernel, by decide +kernel, H.fresh (k := 32) (by decide), by decide, fun s26 e => fun t26 e2 => ?_⟩
  replace H : MB [(32, 16, 30), (31, 16, 10), (30, 16, 30), (29, 16, 30), (28, 16, 30), (27, 16, 30), (26, 16, 30), (25, 16, 30), (24, 16, 132), (23, 16, 12), (22, 16, 12), (21, 16, 12), (20, 16, 12), (19, 16, 12), (18, 16, 12), (17, 16, 12), (16, 16, 12), (15, 16, 12), (14, 18, 12), (13, 18, 12), (12, 18, 12), (11, 16, 12), (10, 16, 12), (9, 16, 12), (8, 16, 12), (7, 16, 12)] t26 := by
    rw [e2, e, show (30 : Int32).toNatClampNeg = 30 by decide +kernel]
    exact H.step (k := 32) (by decide)
  clear e e2
  refine ⟨16, 1100 + 33, rfl, by decide, by decide +kernel, by decide +kernel, by decide +kernel, H.fresh (k := 33) (by decide), by decide, fun s27 e => fun t27 e2 => ?_⟩
  replace H : MB [(33, 16, 10), (32, 16, 30), (31, 16, 10), (30, 16, 30), (29, 16, 30), (28, 16, 30), (27, 16, 30), (26, 16, 30), (25, 16, 30), (24, 16, 132), (23, 16, 12), (22, 16, 12), (21, 16, 12), (20, 16, 12), (19, 16, 12), (18, 16, 12), (17, 16, 12), (16, 16, 12), (15, 16, 12), (14, 18, 12), (13, 18, 12), (12, 18, 12), (11, 16, 12), (10, 16, 12), (9, 16, 12), (8, 16, 12), (7, 16, 12)] t27 := by
    rw [e2, e, show (10 : Int32).toNatClampNeg = 10 by decide +kernel]
    exact H.step (k := 33) (by decide)
  clear e e2
  refine ⟨16, 1100 + 34, rfl, by decide, by decide +kernel, by decide +kernel, by decide +kernel, H.fresh (k := 34) (by decide), by decide, fun s28 e => fun t28 e2 => ?_⟩
  replace H : MB [(34, 16, 100), (33, 16, 10), (32, 16, 30), (31, 16, 10), (30, 16, 30), (29, 16, 30), (28, 16, 30), (27, 16, 30), (26, 16, 30), (25, 16, 30), (24, 16, 132), (23, 16, 12), (22, 16, 12), (21, 16, 12), (20, 16, 12), (19, 16, 12), (18, 16, 12), (17, 16, 12), (16, 16, 12), (15, 16, 12), (14, 18, 12), (13, 18, 12), (12, 18, 12), (11, 16, 12), (10, 16, 12), (9, 16, 12), (8, 16, 12), (7, 16, 12)] t28 := by
    rw [e2, e, show (100 : Int32).toNatClampNeg = 100 by decide +kernel]
    exact H.step (k := 34) (by decide)
  clear e e2
  refine ⟨16, 1100 + 40, rfl, by decide, by decide +kernel, by decide +kernel, by decide +kernel, H.fresh (k := 40) (by decide), by decide, fun s29 e => fun t29 e2 => ?_⟩
  replace H : MB [(40, 16, 30), (34, 16, 100), (33, 16, 10), (32, 16, 30), (31, 16, 10), (30, 16, 30), (29, 16, 30), (28, 16, 30), (27, 16, 30), (26, 16, 30), (25, 16, 30), (24, 16, 132), (23, 16, 12), (22, 16, 12), (21, 16, 12), (20, 16, 12), (19, 16, 12), (18, 16, 12), (17, 16, 12), (16, 16, 12), (15, 16, 12), (14, 18, 12), (13, 18, 12), (12, 18, 12), (11, 16, 12), (10, 16, 12), (9, 16, 12), (8, 16, 12), (7, 16, 12)] t29 := by
    rw [e2, e, show (30 : Int32).toNatClampNeg = 30 by decide +kernel]
    exact H.step (k := 40) (by decide)
  clear e e2
  refine ⟨16, 1100 + 41, rfl, by decide, by decide +kernel, by decide +kernel, by decide +kernel, H.fresh (k := 41) (by decide), by decide, fun s30 e => fun t30 e2 => ?_⟩
  replace H : MB [(41, 16, 12), (40, 16, 30), (34, 16, 100), (33, 16, 10), (32, 16, 30), (31, 16, 10), (30, 16, 30), (29, 16, 30), (28, 16, 30), (27, 16, 30), (26, 16, 30), (25, 16, 30), (24, 16, 132), (23, 16, 12), (22, 16, 12), (21, 16, 12), (20, 16, 12), (19, 16, 12), (18, 16, 12), (17, 16, 12), (16, 16, 12), (15, 16, 12), (14, 18, 12), (13, 18, 12), (12, 18, 12), (11, 16, 12), (10, 16, 12), (9, 16, 12), (8, 16, 12), (7, 16, 12)] t30 := by
    rw [e2, e, show (12 : Int32).toNatClampNeg = 12 by decide +kernel]
    exact H.step (k := 41) (by decide)
  clear e e2
  refine ⟨17, 1100 + 42, rfl, by decide, by decide +kernel, by decide +kernel, by decide +kernel, H.fresh (k := 42) (by decide), by decide, fun s31 e => fun t31 e2 => ?_⟩
  replace H : MB [(42, 17, 12), (41, 16, 12), (40, 16, 30), (34, 16, 100), (33, 16, 10), (32, 16, 30), (31, 16, 10), (30, 16, 30), (29, 16, 30), (28, 16, 30), (27, 16, 30), (26, 16, 30), (25, 16, 30), (24, 16, 132), (23, 16, 12), (22, 16, 12), (21, 16, 12), (20, 16, 12), (19, 16, 12), (18, 16, 12), (17, 16, 12), (16, 16, 12), (15, 16, 12), (14, 18, 12), (13, 18, 12), (12, 18, 12), (11, 16, 12), (10, 16, 12), (9, 16, 12), (8, 16, 12), (7, 16, 12)] t31 := by
    rw [e2, e, show (12 : Int32).toNatClampNeg = 12 by decide +kernel]
    exact H.step (k := 42) (by decide)
  clear e e2
  refine ⟨17, 1100 + 43, rfl, by decide, by decide +kernel, by decide +kernel, by decide +kernel, H.fresh (k := 43) (by decide), by decide, fun s32 e => fun t32 e2 => ?_⟩
  replace H : MB [(43, 17, 12), (42, 17, 12), (41, 16, 12), (40, 16, 30), (34, 16, 100), (33, 16, 10), (32, 16, 30), (31, 16, 10), (30, 16, 30), (29, 16, 30), (28, 16, 30), (27, 16, 30), (26, 16, 30), (25, 16, 30), (24, 16, 132), (23, 16, 12), (22, 16, 12), (21, 16, 12), (20, 16, 12), (19, 16, 12), (18, 16, 12), (17, 16, 12), (16, 16, 12), (15, 16, 12), (14, 18, 12), (13, 18, 12), (12, 18, 12), (11, 16, 12), (10, 16, 12), (9, 16, 12), (8, 16, 12), (7, 16, 12)] t32 := by
    rw [e2, e, show (12 : Int32).toNatClampNeg = 12 by decide +kernel]
    exact H.step (k := 43) (by decide)
  clear e e2
  refine ⟨17, 1100 + 44, rfl, by decide, by decide +kernel, by decide +kernel, by decide +kernel, H.fresh (k := 44) (by decide), by decide, fun s33 e => fun t33 e2 => ?_⟩
  replace H : MB [(44, 17, 12), (43, 17, 12), (42, 17, 12), (41, 16, 12), (40, 16, 30), (34, 16, 100), (33, 16, 10), (32, 16, 30), (31, 16, 10), (30, 16, 30), (29, 16, 30), (28, 16, 30), (27, 16, 30), (26, 16, 30), (25, 16, 30), (24, 16, 132), (23, 16, 12), (22, 16, 12), (21, 16, 12), (20, 16, 12), (19, 16, 12), (18, 16, 12), (17, 16, 12), (16, 16, 12), (15, 16, 12), (14, 18, 12), (13, 18, 12), (12, 18, 12), (11, 16, 12), (10, 16, 12), (9, 16, 12), (8, 16, 12), (7, 16, 12)] t33 := by
    rw [e2, e, show (12 : Int32).toNatClampNeg = 12 by decide +kernel]
    exact H.step (k := 44) (by decide)
  clear e e2
  refine ⟨17, 1100 + 45, rfl, by decide, by decide +kernel, by decide +kernel, by decide +kernel, H.fresh (k := 45) (by decide), by decide, fun s34 e => fun t34 e2 => ?_⟩
  replace H : MB [(45, 17, 12), (44, 17, 12), (43, 17, 12), (42, 17, 12), (41, 16, 12), (40, 16, 30), (34, 16, 100), (33, 16, 10), (32, 16, 30), (31, 16, 10), (30, 16, 30), (29, 16, 30), (28, 16, 30), (27, 16, 30), (26, 16, 30), (25, 16, 30), (24, 16, 132), (23, 16, 12), (22, 16, 12), (21, 16, 12), (20, 16, 12), (19, 16, 12), (18, 16, 12), (17, 16, 12), (16, 16, 12), (15, 16, 12), (14, 18, 12), (13, 18, 12), (12, 18, 12), (11, 16, 12), (10, 16, 12), (9, 16, 12), (8, 16, 12), (7, 16, 12)] t34 := by
    rw [e2, e, show (12 : Int32).toNatClampNeg = 12 by decide +kernel]
    exact H.step (k := 45) (by decide)
  clear e e2
  refine ⟨16, 1100 + 46, rfl, by decide, by decide +kernel, by decide +kernel, by decide +kernel, H.fresh (k := 46) (by decide), by decide, fun s35 e => fun t35 e2 => ?_⟩
  replace H : MB [(46, 16, 12), (45, 17, 12), (44, 17, 12), (43, 17, 12), (42, 17, 12), (41, 16, 12), (40, 16, 30), (34, 16, 100), (33, 16, 10), (32, 16, 30), (31, 16, 10), (30, 16, 30), (29, 16, 30), (28, 16, 30), (27, 16, 30), (26, 16, 30), (25, 16, 30), (24, 16, 132), (23, 16, 12), (22, 16, 12), (21, 16, 12), (20, 16, 12), (19, 16, 12), (18, 16, 12), (17, 16, 12), (16, 16, 12), (15, 16, 12), (14, 18, 12), (13, 18, 12), (12, 18, 12), (11, 16, 12), (10, 16, 12), (9, 16, 12), (8, 16, 12), (7, 16, 12)] t35 := by
    rw [e2, e, show (12 : Int32).toNatClampNeg = 12 by decide +kernel]
    exact H.step (k := 46) (by decide)
  clear e e2
  refine ⟨17, 1100 + 53, rfl, by decide, by decide +kernel, by decide +kernel, by decide +kernel, H.fresh (k := 53) (by decide), by decide, fun s36 e => fun t36 e2 => ?_⟩
  replace H : MB [(53, 17, 40), (46, 16, 12), (45, 17, 12), (44, 17, 12), (43, 17, 12), (42, 17, 12), (41, 16, 12), (40, 16, 30), (34, 16, 100), (33, 16, 10), (32, 16, 30), (31, 16, 10), (30, 16, 30), (29, 16, 30), (28, 16, 30), (27, 16, 30), (26, 16, 30), (25, 16, 30), (24, 16, 132), (23, 16, 12), (22, 16, 12), (21, 16, 12), (20, 16, 12), (19, 16, 12), (18, 16, 12), (17, 16, 12), (16, 16, 12), (15, 16, 12), (14, 18, 12), (13, 18, 12), (12, 18, 12), (11, 16, 12), (10, 16, 12), (9, 16, 12), (8, 16, 12), (7, 16, 12)] t36 := by
    rw [e2, e, show (40 : Int32).toNatClampNeg = 40 by decide +kernel]
    exact H.step (k := 53) (by decide)
  clear e e2
  refine ⟨17, 1100 + 54, rfl, by decide, by decide +kernel, by decide +kernel, by decide +kernel, H.fresh (k := 54) (by decide), by decide, fun s37 e => fun t37 e2 => ?_⟩
  replace H : MB [(54, 17, 40), (53, 17, 40), (46, 16, 12), (45, 17, 12), (44, 17, 12), (43, 17, 12), (42, 17, 12), (41, 16, 12), (40, 16, 30), (34, 16, 100), (33, 16, 10), (32, 16, 30), (31, 16, 10), (30, 16, 30), (29, 16, 30), (28, 16, 30), (27, 16, 30), (26, 16, 30), (25, 16, 30), (24, 16, 132), (23, 16, 12), (22, 16, 12), (21, 16, 12), (20, 16, 12), (19, 16, 12), (18, 16, 12), (17, 16, 12), (16, 16, 12), (15, 16, 12), (14, 18, 12), (13, 18, 12), (12, 18, 12), (11, 16, 12), (10, 16, 12), (9, 16, 12), (8, 16, 12), (7, 16, 12)] t37 := by
    rw [e2, e, show (40 : Int32).toNatClampNeg = 40 by decide +kernel]
    exact H.step (k := 54) (by decide)
  clear e e2
  refine ⟨17, 1100 + 55, rfl, by decide, by decide +kernel, by decide +kernel, by decide +kernel, H.fresh (k := 55) (by decide), by decide, fun s38 e => fun t38 e2 => ?_⟩
  replace H : MB [(55, 17, 40), (54, 17, 40), (53, 17, 40), (46, 16, 12), (45, 17, 12), (44, 17, 12), (43, 17, 12), (42, 17, 12), (41, 16, 12), (40, 16, 30), (34, 16, 100), (33, 16, 10), (32, 16, 30), (31, 16, 10), (30, 16, 30), (29, 16, 30), (28, 16, 30), (27, 16, 30), (26, 16, 30), (25, 16, 30), (24, 16, 132), (23, 16, 12), (22, 16, 12), (21, 16, 12), (20, 16, 12), (19, 16, 12), (18, 16, 12), (17, 16, 12), (16, 16, 12), (15, 16, 12), (14, 18, 12), (13, 18, 12), (12, 18, 12), (11, 16, 12), (10, 16, 12), (9, 16, 12), (8, 16, 12), (7, 16, 12)] t38 := by
    rw [e2, e, show (40 : Int32).toNatClampNeg = 40 by decide +kernel]
    exact H.step (k := 55) (by decide)
  clear e e2
  refine ⟨17, 1100 + 56, rfl, by decide, by decide +kernel, by decide +kernel, by decide +kernel, H.fresh (k := 56) (by decide), by decide, fun s39 e => fun t39 e2 => ?_⟩
  replace H : MB [(56, 17, 12), (55, 17, 40), (54, 17, 40), (53, 17, 40), (46, 16, 12), (45, 17, 12), (44, 17, 12), (43, 17, 12), (42, 17, 12), (41, 16, 12), (40, 16, 30), (34, 16, 100), (33, 16, 10), (32, 16, 30), (31, 16, 10), (30, 16, 30), (29, 16, 30), (28, 16, 30), (27, 16, 30), (26, 16, 30), (25, 16, 30), (24, 16, 132), (23, 16, 12), (22, 16, 12), (21, 16, 12), (20, 16, 12), (19, 16, 12), (18, 16, 12), (17, 16, 12), (16, 16, 12), (15, 16, 12), (14, 18, 12), (13, 18, 12), (12, 18, 12), (11, 16, 12), (10, 16, 12), (9, 16, 12), (8, 16, 12), (7, 16, 12)] t39 := by
    rw [e2, e, show (12 : Int32).toNatClampNeg = 12 by decide +kernel]
    exact H.step (k := 56) (by decide)
  clear e e2
  refine ⟨17, 1100 + 57, rfl, by decide, by decide +kernel, by decide +kernel, by decide +kernel, H.fresh (k := 57) (by decide), by decide, fun s40 e => fun t40 e2 => ?_⟩
  replace H : MB [(57, 17, 12), (56, 17, 12), (55, 17, 40), (54, 17, 40), (53, 17, 40), (46, 16, 12), (45, 17, 12), (44, 17, 12), (43, 17, 12), (42, 17, 12), (41, 16, 12), (40, 16, 30), (34, 16, 100), (33, 16, 10), (32, 16, 30), (31, 16, 10), (30, 16, 30), (29, 16, 30), (28, 16, 30), (27, 16, 30), (26, 16, 30), (25, 16, 30), (24, 16, 132), (23, 16, 12), (22, 16, 12), (21, 16, 12), (20, 16, 12), (19, 16, 12), (18, 16, 12), (17, 16, 12), (16, 16, 12), (15, 16, 12), (14, 18, 12), (13, 18, 12), (12, 18, 12), (11, 16, 12), (10, 16, 12), (9, 16, 12), (8, 16, 12), (7, 16, 12)] t40 := by
    rw [e2, e, show (12 : Int32).toNatClampNeg = 12 by decide +kernel]
    exact H.step (k := 57) (by decide)
  clear e e2
  refine ⟨16, 1100 + 58, rfl, by decide, by decide +kernel, by decide +kernel, by decide +kernel, H.fresh (k := 58) (by decide), by decide, fun s41 e => fun t41 e2 => ?_⟩
  replace H : MB [(58, 16, 40), (57, 17, 12), (56, 17, 12), (55, 17, 40), (54, 17, 40), (53, 17, 40), (46, 16, 12), (45, 17, 12), (44, 17, 12), (43, 17, 12), (42, 17, 12), (41, 16, 12), (40, 16, 30), (34, 16, 100), (33, 16, 10), (32, 16, 30), (31, 16, 10), (30, 16, 30), (29, 16, 30), (28, 16, 30), (27, 16, 30), (26, 16, 30), (25, 16, 30), (24, 16, 132), (23, 16, 12), (22, 16, 12), (21, 16, 12), (20, 16, 12), (19, 16, 12), (18, 16, 12), (17, 16, 12), (16, 16, 12), (15, 16, 12), (14, 18, 12), (13, 18, 12), (12, 18, 12), (11, 16, 12), (10, 16, 12), (9, 16, 12), (8, 16, 12), (7, 16, 12)] t41 := by
    rw [e2, e, show (40 : Int32).toNatClampNeg = 40 by decide +kernel]
    exact H.step (k := 58) (by decide)
  clear e e2
  refine ⟨16, 1100 + 59, rfl, by decide, by decide +kernel, by decide +kernel, by decide +kernel, H.fresh (k := 59) (by decide), by decide, fun s42 e => fun t42 e2 => ?_⟩
  replace H : MB [(59, 16, 40), (58, 16, 40), (57, 17, 12), (56, 17, 12), (55, 17, 40), (54, 17, 40), (53, 17, 40), (46, 16, 12), (45, 17, 12), (44, 17, 12), (43, 17, 12), (42, 17, 12), (41, 16, 12), (40, 16, 30), (34, 16, 100), (33, 16, 10), (32, 16, 30), (31, 16, 10), (30, 16, 30), (29, 16, 30), (28, 16, 30), (27, 16, 30), (26, 16, 30), (25, 16, 30), (24, 16, 132), (23, 16, 12), (22, 16, 12), (21, 16, 12), (20, 16, 12), (19, 16, 12), (18, 16, 12), (17, 16, 12), (16, 16, 12), (15, 16, 12), (14, 18, 12), (13, 18, 12), (12, 18, 12), (11, 16, 12), (10, 16, 12), (9, 16, 12), (8, 16, 12), (7, 16, 12)] t42 := by
    rw [e2, e, show (40 : Int32).toNatClampNeg = 40 by decide +kernel]
    exact H.step (k := 59) (by decide)
  clear e e2
  refine ⟨16, 1100 + 60, rfl, by decide, by decide +kernel, by decide +kernel, by decide +kernel, H.fresh (k := 60) (by decide), by decide, fun s43 e => fun t43 e2 => ?_⟩
  replace H : MB [(60, 16, 12), (59, 16, 40), (58, 16, 40), (57, 17, 12), (56, 17, 12), (55, 17, 40), (54, 17, 40), (53, 17, 40), (46, 16, 12), (45, 17, 12), (44, 17, 12), (43, 17, 12), (42, 17, 12), (41, 16, 12), (40, 16, 30), (34, 16, 100), (33, 16, 10), (32, 16, 30), (31, 16, 10), (30, 16, 30), (29, 16, 30), (28, 16, 30), (27, 16, 30), (26, 16, 30), (25, 16, 30), (24, 16, 132), (23, 16, 12), (22, 16, 12), (21, 16, 12), (20, 16, 12), (19, 16, 12), (18, 16, 12), (17, 16, 12), (16, 16, 12), (15, 16, 12), (14, 18, 12), (13, 18, 12), (12, 18, 12), (11, 16, 12), (10, 16, 12), (9, 16, 12), (8, 16, 12), (7, 16, 12)] t43 := by
    rw [e2, e, show (12 : Int32).toNatClampNeg = 12 by decide +kernel]
    exact H.step (k := 60) (by decide)
  clear e e2
  refine ⟨16, 1100 + 61, rfl, by decide, by decide +kernel, by decide +kernel, by decide +kernel, H.fresh (k := 61) (by decide), by decide, fun s44 e => fun t44 e2 => ?_⟩
  replace H : MB [(61, 16, 60), (60, 16, 12), (59, 16, 40), (58, 16, 40), (57, 17, 12), (56, 17, 12), (55, 17, 40), (54, 17, 40), (53, 17, 40), (46, 16, 12), (45, 17, 12), (44, 17, 12), (43, 17, 12), (42, 17, 12), (41, 16, 12), (40, 16, 30), (34, 16, 100), (33, 16, 10), (32, 16, 30), (31, 16, 10), (30, 16, 30), (29, 16, 30), (28, 16, 30), (27, 16, 30), (26, 16, 30), (25, 16, 30), (24, 16, 132), (23, 16, 12), (22, 16, 12), (21, 16, 12), (20, 16, 12), (19, 16, 12), (18, 16, 12), (17, 16, 12), (16, 16, 12), (15, 16, 12), (14, 18, 12), (13, 18, 12), (12, 18, 12), (11, 16, 12), (10, 16, 12), (9, 16, 12), (8, 16, 12), (7, 16, 12)] t44 := by
    rw [e2, e, show (60 : Int32).toNatClampNeg = 60 by decide +kernel]
    exact H.step (k := 61) (by decide)
  clear e e2
  refine ⟨16, 1100 + 62, rfl, by decide, by decide +kernel, by decide +kernel, by decide +kernel, H.fresh (k := 62) (by decide), by decide, fun s45 e => fun t45 e2 => ?_⟩
  replace H : MB [(62, 16, 60), (61, 16, 60), (60, 16, 12), (59, 16, 40), (58, 16, 40), (57, 17, 12), (56, 17, 12), (55, 17, 40), (54, 17, 40), (53, 17, 40), (46, 16, 12), (45, 17, 12), (44, 17, 12), (43, 17, 12), (42, 17, 12), (41, 16, 12), (40, 16, 30), (34, 16, 100), (33, 16, 10), (32, 16, 30), (31, 16, 10), (30, 16, 30), (29, 16, 30), (28, 16, 30), (27, 16, 30), (26, 16, 30), (25, 16, 30), (24, 16, 132), (23, 16, 12), (22, 16, 12), (21, 16, 12), (20, 16, 12), (19, 16, 12), (18, 16, 12), (17, 16, 12), (16, 16, 12), (15, 16, 12), (14, 18, 12), (13, 18, 12), (12, 18, 12), (11, 16, 12), (10, 16, 12), (9, 16, 12), (8, 16, 12), (7, 16, 12)] t45 := by
    rw [e2, e, show (60 : Int32).toNatClampNeg = 60 by decide +kernel]
    exact H.step (k := 62) (by decide)
  clear e e2
  refine ⟨16, 1100 + 63, rfl, by decide, by decide +kernel, by decide +kernel, by decide +kernel, H.fresh (k := 63) (by decide), by decide, fun s46 e => fun t46 e2 => ?_⟩
  replace H : MB [(63, 16, 60), (62, 16, 60), (61, 16, 60), (60, 16, 12), (59, 16, 40), (58, 16, 40), (57, 17, 12), (56, 17, 12), (55, 17, 40), (54, 17, 40), (53, 17, 40), (46, 16, 12), (45, 17, 12), (44, 17, 12), (43, 17, 12), (42, 17, 12), (41, 16, 12), (40, 16, 30), (34, 16, 100), (33, 16, 10), (32, 16, 30), (31, 16, 10), (30, 16, 30), (29, 16, 30), (28, 16, 30), (27, 16, 30), (26, 16, 30), (25, 16, 30), (24, 16, 132), (23, 16, 12), (22, 16, 12), (21, 16, 12), (20, 16, 12), (19, 16, 12), (18, 16, 12), (17, 16, 12), (16, 16, 12), (15, 16, 12), (14, 18, 12), (13, 18, 12), (12, 18, 12), (11, 16, 12), (10, 16, 12), (9, 16, 12), (8, 16, 12), (7, 16, 12)] t46 := by
    rw [e2, e, show (60 : Int32).toNatClampNeg = 60 by decide +kernel]
    exact H.step (k := 63) (by decide)
  clear e e2
  refine ⟨16, 1100 + 64, rfl, by decide, by decide +kernel, by decide +kernel, by decide +kernel, H.fresh (k := 64) (by decide), by decide, fun s47 e => fun t47 e2 => ?_⟩
  replace H : MB [(64, 16, 60), (63, 16, 60), (62, 16, 60), (61, 16, 60), (60, 16, 12), (59, 16, 40), (58, 16, 40), (57, 17, 12), (56, 17, 12), (55, 17, 40), (54, 17, 40), (53, 17, 40), (46, 16, 12), (45, 17, 12), (44, 17, 12), (43, 17, 12), (42, 17, 12), (41, 16, 12), (40, 16, 30), (34, 16, 100), (33, 16, 10), (32, 16, 30), (31, 16, 10), (30, 16, 30), (29, 16, 30), (28, 16, 30), (27, 16, 30), (26, 16, 30), (25, 16, 30), (24, 16, 132), (23, 16, 12), (22, 16, 12), (21, 16, 12), (20, 16, 12), (19, 16, 12), (18, 16, 12), (17, 16, 12), (16, 16, 12), (15, 16, 12), (14, 18, 12), (13, 18, 12), (12, 18, 12), (11, 16, 12), (10, 16, 12), (9, 16, 12), (8, 16, 12), (7, 16, 12)] t47 := by
    rw [e2, e, show (60 : Int32).toNatClampNeg = 60 by decide +kernel]
    exact H.step (k := 64) (by decide)
  clear e e2
  refine ⟨16, 1100 + 65, rfl, by decide, by decide +kernel, by decide +kernel, by decide +kernel, H.fresh (k := 65) (by decide), by decide, fun s48 e => fun t48 e2 => ?_⟩
  replace H : MB [(65, 16, 60), (64, 16, 60), (63, 16, 60), (62, 16, 60), (61, 16, 60), (60, 16, 12), (59, 16, 40), (58, 16, 40), (57, 17, 12), (56, 17, 12), (55, 17, 40), (54, 17, 40), (53, 17, 40), (46, 16, 12), (45, 17, 12), (44, 17, 12), (43, 17, 12), (42, 17, 12), (41, 16, 12), (40, 16, 30), (34, 16, 100), (33, 16, 10), (32, 16, 30), (31, 16, 10), (30, 16, 30), (29, 16, 30), (28, 16, 30), (27, 16, 30), (26, 16, 30), (25, 16, 30), (24, 16, 132), (23, 16, 12), (22, 16, 12), (21, 16, 12), (20, 16, 12), (19, 16, 12), (18, 16, 12), (17, 16, 12), (16, 16, 12), (15, 16, 12), (14, 18, 12), (13, 18, 12), (12, 18, 12), (11, 16, 12), (10, 16, 12), (9, 16, 12), (8, 16, 12), (7, 16, 12)] t48 := by
    rw [e2, e, show (60 : Int32).toNatClampNeg = 60 by decide +kernel]
    exact H.step (k := 65) (by decide)
  clear e e2
  refine ⟨18, 1100 + 66, rfl, by decide, by decide +kernel, by decide +kernel, by decide +kernel, H.fresh (k := 66) (by decide), by decide, fun s49 e => fun t49 e2 => ?_⟩
  replace H : MB [(66, 18, 60), (65, 16, 60), (64, 16, 60), (63, 16, 60), (62, 16, 60), (61, 16, 60), (60, 16, 12), (59, 16, 40), (58, 16, 40), (57, 17, 12), (56, 17, 12), (55, 17, 40), (54, 17, 40), (53, 17, 40), (46, 16, 12), (45, 17, 12), (44, 17, 12), (43, 17, 12), (42, 17, 12), (41, 16, 12), (40, 16, 30), (34, 16, 100), (33, 16, 10), (32, 16, 30), (31, 16, 10), (30, 16, 30), (29, 16, 30), (28, 16, 30), (27, 16, 30), (26, 16, 30), (25, 16, 30), (24, 16, 132), (23, 16, 12), (22, 16, 12), (21, 16, 12), (20, 16, 12), (19, 16, 12), (18, 16, 12), (17, 16, 12), (16, 16, 12), (15, 16, 12), (14, 18, 12), (13, 18, 12), (12, 18, 12), (11, 16, 12), (10, 16, 12), (9, 16, 12), (8, 16, 12), (7, 16, 12)] t49 := by
    rw [e2, e, show (60 : Int32).toNatClampNeg = 60 by decide +kernel]
    exact H.step (k := 66) (by decide)
  clear e e2
  refine ⟨16, 1100 + 68, rfl, by decide, by decide +kernel, by decide +kernel, by decide +kernel, H.fresh (k := 68) (by decide), by decide, fun s50 e => fun t50 e2 => ?_⟩
  replace H : MB [(68, 16, 11), (66, 18, 60), (65, 16, 60), (64, 16, 60), (63, 16, 60), (62, 16, 60), (61, 16, 60), (60, 16, 12), (59, 16, 40), (58, 16, 40), (57, 17, 12), (56, 17, 12), (55, 17, 40), (54, 17, 40), (53, 17, 40), (46, 16, 12), (45, 17, 12), (44, 17, 12), (43, 17, 12), (42, 17, 12), (41, 16, 12), (40, 16, 30), (34, 16, 100), (33, 16, 10), (32, 16, 30), (31, 16, 10), (30, 16, 30), (29, 16, 30), (28, 16, 30), (27, 16, 30), (26, 16, 30), (25, 16, 30), (24, 16, 132), (23, 16, 12), (22, 16, 12), (21, 16, 12), (20, 16, 12), (19, 16, 12), (18, 16, 12), (17, 16, 12), (16, 16, 12), (15, 16, 12), (14, 18, 12), (13, 18, 12), (12, 18, 12), (11, 16, 12), (10, 16, 12), (9, 16, 12), (8, 16, 12), (7, 16, 12)] t50 := by
    rw [e2, e, show (11 : Int32).toNatClampNeg = 11 by decide +kernel]
    exact H.step (k := 68) (by decide)
  clear e e2
  refine ⟨16, 1100 + 69, rfl, by decide, by decide +kernel, by decide +kernel, by decide +kernel, H.fresh (k := 69) (by decide), by decide, fun s51 e => fun t51 e2 => ?_⟩
  replace H : MB [(69, 16, 11), (68, 16, 11), (66, 18, 60), (65, 16, 60), (64, 16, 60), (63, 16, 60), (62, 16, 60), (61, 16, 60), (60, 16, 12), (59, 16, 40), (58, 16, 40), (57, 17, 12), (56, 17, 12), (55, 17, 40), (54, 17, 40), (53, 17, 40), (46, 16, 12), (45, 17, 12), (44, 17, 12), (43, 17, 12), (42, 17, 12), (41, 16, 12), (40, 16, 30), (34, 16, 100), (33, 16, 10), (32, 16, 30), (31, 16, 10), (30, 16, 30), (29, 16, 30), (28, 16, 30), (27, 16, 30), (26, 16, 30), (25, 16, 30), (24, 16, 132), (23, 16, 12), (22, 16, 12), (21, 16, 12), (20, 16, 12), (19, 16, 12), (18, 16, 12), (17, 16, 12), (16, 16, 12), (15, 16, 12), (14, 18, 12), (13, 18, 12), (12, 18, 12), (11, 16, 12), (10, 16, 12), (9, 16, 12), (8, 16, 12), (7, 16, 12)] t51 := by
    rw [e2, e, show (11 : Int32).toNatClampNeg = 11 by decide +kernel]
    exact H.step (k := 69) (by decide)
  clear e e2
  refine ⟨16, 1100 + 70, rfl, by decide, by decide +kernel, by decide +kernel, by decide +kernel, H.fresh (k := 70) (by decide), by decide, fun s52 e => fun t52 e2 => ?_⟩
  replace H : MB [(70, 16, 264), (69, 16, 11), (68, 16, 11), (66, 18, 60), (65, 16, 60), (64, 16, 60), (63, 16, 60), (62, 16, 60), (61, 16, 60), (60, 16, 12), (59, 16, 40), (58, 16, 40), (57, 17, 12), (56, 17, 12), (55, 17, 40), (54, 17, 40), (53, 17, 40), (46, 16, 12), (45, 17, 12), (44, 17, 12), (43, 17, 12), (42, 17, 12), (41, 16, 12), (40, 16, 30), (34, 16, 100), (33, 16, 10), (32, 16, 30), (31, 16, 10), (30, 16, 30), (29, 16, 30), (28, 16, 30), (27, 16, 30), (26, 16, 30), (25, 16, 30), (24, 16, 132), (23, 16, 12), (22, 16, 12), (21, 16, 12), (20, 16, 12), (19, 16, 12), (18, 16, 12), (17, 16, 12), (16, 16, 12), (15, 16, 12), (14, 18, 12), (13, 18, 12), (12, 18, 12), (11, 16, 12), (10, 16, 12), (9, 16, 12), (8, 16, 12), (7, 16, 12)] t52 := by
    rw [e2, e, show (264 : Int32).toNatClampNeg = 264 by decide +kernel]
    exact H.step (k := 70) (by decide)
  clear e e2
  refine ⟨16, 1100 + 71, rfl, by decide, by decide +kernel, by decide +kernel, by decide +kernel, H.fresh (k := 71) (by decide), by decide, fun s53 e => fun t53 e2 => ?_⟩
  replace H : MB [(71, 16, 264), (70, 16, 264), (69, 16, 11), (68, 16, 11), (66, 18, 60), (65, 16, 60), (64, 16, 60), (63, 16, 60), (62, 16, 60), (61, 16, 60), (60, 16, 12), (59, 16, 40), (58, 16, 40), (57, 17, 12), (56, 17, 12), (55, 17, 40), (54, 17, 40), (53, 17, 40), (46, 16, 12), (45, 17, 12), (44, 17, 12), (43, 17, 12), (42, 17, 12), (41, 16, 12), (40, 16, 30), (34, 16, 100), (33, 16, 10), (32, 16, 30), (31, 16, 10), (30, 16, 30), (29, 16, 30), (28, 16, 30), (27, 16, 30), (26, 16, 30), (25, 16, 30), (24, 16, 132), (23, 16, 12), (22, 16, 12), (21, 16, 12), (20, 16, 12), (19, 16, 12), (18, 16, 12), (17, 16, 12), (16, 16, 12), (15, 16, 12), (14, 18, 12), (13, 18, 12), (12, 18, 12), (11, 16, 12), (10, 16, 12), (9, 16, 12), (8, 16, 12), (7, 16, 12)] t53 := by
    rw [e2, e, show (264 : Int32).toNatClampNeg = 264 by decide +kernel]
    exact H.step (k := 71) (by decide)
  clear e e2
  refine ⟨16, 1100 + 72, rfl, by decide, by decide +kernel, by decide +kernel, by decide +kernel, H.fresh (k := 72) (by decide), by decide, fun s54 e => fun t54 e2 => ?_⟩
  replace H : MB [(72, 16, 264), (71, 16, 264), (70, 16, 264), (69, 16, 11), (68, 16, 11), (66, 18, 60), (65, 16, 60), (64, 16, 60), (63, 16, 60), (62, 16, 60), (61, 16, 60), (60, 16, 12), (59, 16, 40), (58, 16, 40), (57, 17, 12), (56, 17, 12), (55, 17, 40), (54, 17, 40), (53, 17, 40), (46, 16, 12), (45, 17, 12), (44, 17, 12), (43, 17, 12), (42, 17, 12), (41, 16, 12), (40, 16, 30), (34, 16, 100), (33, 16, 10), (32, 16, 30), (31, 16, 10), (30, 16, 30), (29, 16, 30), (28, 16, 30), (27, 16, 30), (26, 16, 30), (25, 16, 30), (24, 16, 132), (23, 16, 12), (22, 16, 12), (21, 16, 12), (20, 16, 12), (19, 16, 12), (18, 16, 12), (17, 16, 12), (16, 16, 12), (15, 16, 12), (14, 18, 12), (13, 18, 12), (12, 18, 12), (11, 16, 12), (10, 16, 12), (9, 16, 12), (8, 16, 12), (7, 16, 12)] t54 := by
    rw [e2, e, show (264 : Int32).toNatClampNeg = 264 by decide +kernel]
    exact H.step (k := 72) (by decide)
  clear e e2
  refine ⟨16, 1100 + 73, rfl, by decide, by decide +kernel, by decide +kernel, by decide +kernel, H.fresh (k := 73) (by decide), by decide, fun s55 e => fun t55 e2 => ?_⟩
  replace H : MB [(73, 16, 264), (72, 16, 264), (71, 16, 264), (70, 16, 264), (69, 16, 11), (68, 16, 11), (66, 18, 60), (65, 16, 60), (64, 16, 60), (63, 16, 60), (62, 16, 60), (61, 16, 60), (60, 16, 12), (59, 16, 40), (58, 16, 40), (57, 17, 12), (56, 17, 12), (55, 17, 40), (54, 17, 40), (53, 17, 40), (46, 16, 12), (45, 17, 12), (44, 17, 12), (43, 17, 12), (42, 17, 12), (41, 16, 12), (40, 16, 30), (34, 16, 100), (33, 16, 10), (32, 16, 30), (31, 16, 10), (30, 16, 30), (29, 16, 30), (28, 16, 30), (27, 16, 30), (26, 16, 30), (25, 16, 30), (24, 16, 132), (23, 16, 12), (22, 16, 12), (21, 16, 12), (20, 16, 12), (19, 16, 12), (18, 16, 12), (17, 16, 12), (16, 16, 12), (15, 16, 12), (14, 18, 12), (13, 18, 12), (12, 18, 12), (11, 16, 12), (10, 16, 12), (9, 16, 12), (8, 16, 12), (7, 16, 12)] t55 := by
    rw [e2, e, show (264 : Int32).toNatClampNeg = 264 by decide +kernel]
    exact H.step (k := 73) (by decide)
  clear e e2
  refine ⟨16, 1100 + 74, rfl, by decide, by decide +kernel, by decide +kernel, by decide +kernel, H.fresh (k := 74) (by decide), by decide, fun s56 e => fun t56 e2 => ?_⟩
  replace H : MB [(74, 16, 264), (73, 16, 264), (72, 16, 264), (71, 16, 264), (70, 16, 264), (69, 16, 11), (68, 16, 11), (66, 18, 60), (65, 16, 60), (64, 16, 60), (63, 16, 60), (62, 16, 60), (61, 16, 60), (60, 16, 12), (59, 16, 40), (58, 16, 40), (57, 17, 12), (56, 17, 12), (55, 17, 40), (54, 17, 40), (53, 17, 40), (46, 16, 12), (45, 17, 12), (44, 17, 12), (43, 17, 12), (42, 17, 12), (41, 16, 12), (40, 16, 30), (34, 16, 100), (33, 16, 10), (32, 16, 30), (31, 16, 10), (30, 16, 30), (29, 16, 30), (28, 16, 30), (27, 16, 30), (26, 16, 30), (25, 16, 30), (24, 16, 132), (23, 16, 12), (22, 16, 12), (21, 16, 12), (20, 16, 12), (19, 16, 12), (18, 16, 12), (17, 16, 12), (16, 16, 12), (15, 16, 12), (14, 18, 12), (13, 18, 12), (12, 18, 12), (11, 16, 12), (10, 16, 12), (9, 16, 12), (8, 16, 12), (7, 16, 12)] t56 := by
    rw [e2, e, show (264 : Int32).toNatClampNeg = 264 by decide +kernel]
    exact H.step (k := 74) (by decide)
  clear e e2
  refine ⟨19, 1100 + 75, rfl, by decide, by decide +kernel, by decide +kernel, by decide +kernel, H.fresh (k := 75) (by decide), by decide, fun s57 e => fun t57 e2 => ?_⟩
  replace H : MB [(75, 19, 700), (74, 16, 264), (73, 16, 264), (72, 16, 264), (71, 16, 264), (70, 16, 264), (69, 16, 11), (68, 16, 11), (66, 18, 60), (65, 16, 60), (64, 16, 60), (63, 16, 60), (62, 16, 60), (61, 16, 60), (60, 16, 12), (59, 16, 40), (58, 16, 40), (57, 17, 12), (56, 17, 12), (55, 17, 40), (54, 17, 40), (53, 17, 40), (46, 16, 12), (45, 17, 12), (44, 17, 12), (43, 17, 12), (42, 17, 12), (41, 16, 12), (40, 16, 30), (34, 16, 100), (33, 16, 10), (32, 16, 30), (31, 16, 10), (30, 16, 30), (29, 16, 30), (28, 16, 30), (27, 16, 30), (26, 16, 30), (25, 16, 30), (24, 16, 132), (23, 16, 12), (22, 16, 12), (21, 16, 12), (20, 16, 12), (19, 16, 12), (18, 16, 12), (17, 16, 12), (16, 16, 12), (15, 16, 12), (14, 18, 12), (13, 18, 12), (12, 18, 12), (11, 16, 12), (10, 16, 12), (9, 16, 12), (8, 16, 12), (7, 16, 12)] t57 := by
    rw [e2, e, show (700 : Int32).toNatClampNeg = 700 by decide +kernel]
    exact H.step (k := 75) (by decide)
  clear e e2
  refine ⟨19, 1100 + 76, rfl, by decide, by decide +kernel, by decide +kernel, by decide +kernel, H.fresh (k := 76) (by decide), by decide, fun s58 e => fun t58 e2 => ?_⟩
  replace H : MB [(76, 19, 700), (75, 19, 700), (74, 16, 264), (73, 16, 264), (72, 16, 264), (71, 16, 264), (70, 16, 264), (69, 16, 11), (68, 16, 11), (66, 18, 60), (65, 16, 60), (64, 16, 60), (63, 16, 60), (62, 16, 60), (61, 16, 60), (60, 16, 12), (59, 16, 40), (58, 16, 40), (57, 17, 12), (56, 17, 12), (55, 17, 40), (54, 17, 40), (53, 17, 40), (46, 16, 12), (45, 17, 12), (44, 17, 12), (43, 17, 12), (42, 17, 12), (41, 16, 12), (40, 16, 30), (34, 16, 100), (33, 16, 10), (32, 16, 30), (31, 16, 10), (30, 16, 30), (29, 16, 30), (28, 16, 30), (27, 16, 30), (26, 16, 30), (25, 16, 30), (24, 16, 132), (23, 16, 12), (22, 16, 12), (21, 16, 12), (20, 16, 12), (19, 16, 12), (18, 16, 12), (17, 16, 12), (16, 16, 12), (15, 16, 12), (14, 18, 12), (13, 18, 12), (12, 18, 12), (11, 16, 12), (10, 16, 12), (9, 16, 12), (8, 16, 12), (7, 16, 12)] t58 := by
    rw [e2, e, show (700 : Int32).toNatClampNeg = 700 by decide +kernel]
    exact H.step (k := 76) (by decide)
  clear e e2
  intro u e
  rw [e]
  exact k _ _ H
