/-! ===== level 2: the class's constructor ===== -/
def vM : Vw := (21, 10, fun _ => 0, fun _ => 0, fun i => if i < 10 then some (1060 + 1 + i) else none)
theorem vw_mnw_q {S : Sg} : vw (mnw S 1060 21 16) 1060 = vM := by
  unfold vw vM
  refine Prod.ext (by show sK (mnw S 1060 21 16) 1060 = 21; exact (mnw_q S 1060 21 16).1) (Prod.ext (by show sN (mnw S 1060 21 16) 1060 = 10; exact (mnw_q S 1060 21 16).2.1) (Prod.ext ?_ (Prod.ext ?_ ?_)))
  · show sI (mnw S 1060 21 16) 1060 = fun _ => 0
    simp [sI, mnw]
  · show sL (mnw S 1060 21 16) 1060 = fun _ => 0
    simp [sL, mnw]
  · show sR (mnw S 1060 21 16) 1060 = fun i => if i < 10 then some (1060 + 1 + i) else none
    simp [sR, mnw]
theorem vw_mnw_r {S : Sg} {i : Nat} (hi : i < 10) : vw (mnw S 1060 21 16) (1061 + i) = vO 16 10 := by
  have h1 : ¬ (1061 + i = 1060) := by omega
  have h2 : 1060 < 1061 + i ∧ 1061 + i ≤ 1060 + 10 := by omega
  have h3 : 1060 ≤ 1061 + i ∧ 1061 + i ≤ 1060 + 10 := by omega
  unfold vw vO
  refine Prod.ext ?_ (Prod.ext ?_ (Prod.ext ?_ (Prod.ext ?_ ?_)))
  · show sK (mnw S 1060 21 16) (1061 + i) = 16
    simp only [sK, mnw]; rw [if_neg h1, if_pos h2]
  · show sN (mnw S 1060 21 16) (1061 + i) = 10
    simp only [sN, mnw]; rw [if_pos h3]
  · show sI (mnw S 1060 21 16) (1061 + i) = fun _ => 0
    simp only [sI, mnw]; rw [if_pos h3]
  · show sL (mnw S 1060 21 16) (1061 + i) = fun _ => 0
    simp only [sL, mnw]; rw [if_pos h3]
  · show sR (mnw S 1060 21 16) (1061 + i) = fun _ => none
    simp only [sR, mnw]; rw [if_neg h1, if_pos h2]
theorem vw_mnw_o {S : Sg} {x : Nat} (h : ¬ (1060 ≤ x ∧ x ≤ 1070)) : vw (mnw S 1060 21 16) x = vw S x := by
  obtain ⟨a, b, c, d, e⟩ := mnw_o S 1060 21 16 (a := x) (fun z => h ⟨z.1, by omega⟩)
  unfold vw
  rw [a, b, c, d, e]
def mRows : List (Nat × Vw) := [(1060, vM), (1061, vO 16 10), (1062, vO 16 10), (1063, vO 16 10), (1064, vO 16 10), (1065, vO 16 10), (1066, vO 16 10), (1067, vO 16 10), (1068, vO 16 10), (1069, vO 16 10), (1070, vO 16 10)]
theorem mRows_in {i : Nat} (hi : i < 10) : (1061 + i, vO 16 10) ∈ mRows := by
  have : i = 0 ∨ i = 1 ∨ i = 2 ∨ i = 3 ∨ i = 4 ∨ i = 5 ∨ i = 6 ∨ i = 7 ∨ i = 8 ∨ i = 9 := by omega
  rcases this with rfl | rfl | rfl | rfl | rfl | rfl | rfl | rfl | rfl | rfl <;> simp [mRows]
theorem mRows_v {S : Sg} : ∀ p ∈ mRows, vw (mnw S 1060 21 16) p.1 = p.2 := by
  intro p hp
  simp only [mRows, List.mem_cons, List.not_mem_nil, or_false] at hp
  rcases hp with rfl | rfl | rfl | rfl | rfl | rfl | rfl | rfl | rfl | rfl | rfl
  · exact vw_mnw_q
  · exact vw_mnw_r (i := 0) (by omega)
  · exact vw_mnw_r (i := 1) (by omega)
  · exact vw_mnw_r (i := 2) (by omega)
  · exact vw_mnw_r (i := 3) (by omega)
  · exact vw_mnw_r (i := 4) (by omega)
  · exact vw_mnw_r (i := 5) (by omega)
  · exact vw_mnw_r (i := 6) (by omega)
  · exact vw_mnw_r (i := 7) (by omega)
  · exact vw_mnw_r (i := 8) (by omega)
  · exact vw_mnw_r (i := 9) (by omega)
theorem mRows_o {x : Nat} (h : ∀ p ∈ mRows, ¬ p.1 = x) : ¬ (1060 ≤ x ∧ x ≤ 1070) := fun z => by
  by_cases c : x = 1060
  · exact h (1060, vM) (by simp [mRows]) c.symm
  · exact h _ (mRows_in (i := x - 1061) (by omega)) (by show 1061 + (x - 1061) = x; omega)
/-- what the constructor makes, the flow and the lots aside -/
def LF : List (Nat × Vw) := (1054, vO 17 7) :: (1053, vO 16 12) :: (mRows ++ ((1052, vO 16 10) :: (1051, vO 16 30) :: ([(1020, vTp), (1021, vO 16 700)] ++ ([(1010, vLw), (1011, vLi), (1012, vNu)] ++ [(1005, vLi), (1004, vLi), (1003, vLi), (1002, vLi), (1001, vLi)]))))
def RF : List (Nat × Nat) := [(13, 1054), (12, 1053), (11, 1060), (10, 1052), (9, 1051), (8, 1050), (7, 1043), (6, 1020), (5, 1010), (4, 1005), (3, 1004), (2, 1003), (1, 1002), (0, 1001)]
def INI (T : Sg) : Prop := okS T ∧ sK T 1000 = 12 ∧ (∀ k, sI T 1000 k = if k = 17 then -1 else 0) ∧ (∀ q ∈ RF, sR T 1000 q.1 = some q.2) ∧ (∀ q ∈ LF, vw T q.1 = q.2) ∧ (sK T 1050 = 16 ∧ sN T 1050 = 10 ∧ ∀ j, j < 10 → sI T 1050 j = 20) ∧ (sK T 1043 % 32 = 5 ∧ sR T 1043 0 = some 1044 ∧ sR T 1043 3 = some 1045 ∧ sR T 1043 4 = some 1046 ∧ sR T 1043 5 = some 1047 ∧ vw T 1045 = vO 16 360 ∧ vw T 1046 = vO 16 30 ∧ vw T 1047 = vO 16 12 ∧ Lst T 1044 6 (fun j => 7000 + j) 12 ∧ ∀ j, j < 12 → sK T (7000 + j) % 32 = 7) ∧ (∀ x, 1100 ≤ x → x < 7000 → sK T x = 0) ∧ ∀ x, 10012 ≤ x → sK T x = 0
set_option maxRecDepth 20000 in
set_option maxHeartbeats 4000000 in
theorem x_init {B : Sg} {Q : Unit → Sg → Prop} (hk : okS B) (k0 : sK B 1000 = 12) (i0 : sI B 1000 = fun _ => 0) (hz : ∀ x, ¬ x = 1 → ¬ x = 2 → ¬ x = 1000 → sK B x = 0) (k : ∀ T, INI T → Q () T) : P_X10_init 1000 B (40000, 60000) Q := by
  unfold P_X10_init
  have H : XB B 1000 [] [] B := XB.refl hk
  refine ⟨1, 1001, rfl, by decide, by decide +kernel, H.fresh (by decide) (by decide) (hz 1001 (by decide) (by decide) (by decide)), by decide, fun z e => by cases e; rw [k0]; decide, fun s e1 => p_listInit (by rw [e1, sK_nw, if_pos rfl]) ⟨by rw [e1, sK_pR, sK_pI, sK_nw, if_neg (by decide), k0], fun t0 e2 => ?_⟩⟩
  have A0 := H.list (k := 0) (q := 1001) (by decide) (by decide) (by decide) (by decide) (by decide)
  rw [← e1, ← e2] at A0
  clear e1 e2 H
  refine ⟨1, 1002, rfl, by decide, by decide +kernel, A0.fresh (by decide) (by decide) (hz 1002 (by decide) (by decide) (by decide)), by decide, fun s e1 => p_listInit (by rw [e1, sK_nw, if_pos rfl]) (fun t1 e2 => ?_)⟩
  have A1 := A0.list (k := 1) (q := 1002) (by decide) (by decide) (by decide) (by decide) (by decide)
  rw [← e1, ← e2] at A1
  clear e1 e2 A0
  refine ⟨1, 1003, rfl, by decide, by decide +kernel, A1.fresh (by decide) (by decide) (hz 1003 (by decide) (by decide) (by decide)), by decide, fun s e1 => p_listInit (by rw [e1, sK_nw, if_pos rfl]) (fun t2 e2 => ?_)⟩
  have A2 := A1.list (k := 2) (q := 1003) (by decide) (by decide) (by decide) (by decide) (by decide)
  rw [← e1, ← e2] at A2
  clear e1 e2 A1
  refine ⟨1, 1004, rfl, by decide, by decide +kernel, A2.fresh (by decide) (by decide) (hz 1004 (by decide) (by decide) (by decide)), by decide, fun s e1 => p_listInit (by rw [e1, sK_nw, if_pos rfl]) (fun t3 e2 => ?_)⟩
  have A3 := A2.list (k := 3) (q := 1004) (by decide) (by decide) (by decide) (by decide) (by decide)
  rw [← e1, ← e2] at A3
  clear e1 e2 A2
  refine ⟨1, 1005, rfl, by decide, by decide +kernel, A3.fresh (by decide) (by decide) (hz 1005 (by decide) (by decide) (by decide)), by decide, fun s e1 => p_listInit (by rw [e1, sK_nw, if_pos rfl]) (fun t4 e2 => ?_)⟩
  have A4 := A3.list (k := 4) (q := 1005) (by decide) (by decide) (by decide) (by decide) (by decide)
  rw [← e1, ← e2] at A4
  clear e1 e2 A3
  refine ⟨6, 1010, rfl, by decide, by decide +kernel, A4.fresh (by decide) (by decide) (hz 1010 (by decide) (by decide) (by decide)), by decide, fun s e1 => ⟨(2, 24), by decide, by decide +kernel, ?_⟩⟩
  have q10 : vw s 1010 = vO 6 0 := by rw [e1]; exact vw_nwq
  have vs : ∀ x, ¬ x = 1010 → vw s x = vw t4 x := fun x hx => by rw [e1]; exact vw_nw hx
  have k10 : sK s 1010 = 6 := congrArg (fun z => z.1) q10
  refine p_lawInit (q1 := 1011) (q2 := 1012) (κ1 := 1) (κ2 := 16) (by rw [k10]) (congrArg (fun z => z.2.2.1) q10) (congrArg (fun z => z.2.2.2.1) q10) (congrArg (fun z => z.2.2.2.2) q10) (by rw [vwK (vs 1011 (by decide))]; exact A4.fresh (by decide) (by decide) (hz 1011 (by decide) (by decide) (by decide))) (by rw [vwK (vs 1012 (by decide))]; exact A4.fresh (by decide) (by decide) (hz 1012 (by decide) (by decide) (by decide))) (by decide) (by decide) (by decide) rfl rfl ((vs 1 (by decide)).trans A4.1.1) (by decide) (by decide) (by decide) (fun U iU t5 e2 => ?_)
  obtain ⟨i1, i2, i3, i4⟩ := iU
  rw [k10, show sN s 1010 = 0 from congrArg (fun z => z.2.1) q10] at i1
  have A5 := A4.steps (U := U) (k := 5) (q := 1010) [(1010, vLw), (1011, vLi), (1012, vNu)] (fun x hx => ?_) (fun p hp => ?_) (by unfold wr; decide) (by decide) (by decide) (by decide) (by decide) (by decide)
  rotate_left
  · have h0 : ¬ x = 1010 := fun e => hx (1010, vLw) (by simp) e.symm
    have h1 : ¬ x = 1011 := fun e => hx (1011, vLi) (by simp) e.symm
    have h2 : ¬ x = 1012 := fun e => hx (1012, vNu) (by simp) e.symm
    exact (i4 x h0 h1 h2).trans (vs x h0)
  · simp only [List.mem_cons, List.not_mem_nil, or_false] at hp
    rcases hp with rfl | rfl | rfl
    · exact i1
    · exact i2
    · exact i3
  rw [← e2] at A5
  clear e1 e2 A4 i1 i2 i3 i4 vs q10 k10
  refine ⟨9, 1020, rfl, by decide, by decide +kernel, A5.fresh (by decide) (by decide) (hz 1020 (by decide) (by decide) (by decide)), by decide, fun s e1 => ⟨(1, 700), by decide, by decide +kernel, ?_⟩⟩
  have q20 : vw s 1020 = vO 9 0 := by rw [e1]; exact vw_nwq
  have vs : ∀ x, ¬ x = 1020 → vw s x = vw t5 x := fun x hx => by rw [e1]; exact vw_nw hx
  have k20 : sK s 1020 = 9 := congrArg (fun z => z.1) q20
  refine p_tapeInit (q := 1021) (κ := 16) (by rw [k20]) (by rw [vwK (vs 1021 (by decide))]; exact A5.fresh (by decide) (by decide) (hz 1021 (by decide) (by decide) (by decide))) (by decide) rfl (by decide) (by decide) (fun t6 e2 => ?_)
  have A6 := A5.steps (U := pR (nw s 1021 16 700) 1020 1 (some 1021)) (k := 6) (q := 1020) [(1020, vTp), (1021, vO 16 700)] (fun x hx => ?_) (fun p hp => ?_) (by unfold wr; decide) (by decide) (by decide) (by decide) (by decide) (by decide)
  rotate_left
  · have h0 : ¬ x = 1020 := fun e => hx (1020, vTp) (by simp) e.symm
    have h1 : ¬ x = 1021 := fun e => hx (1021, vO 16 700) (by simp) e.symm
    rw [vw_pR h0, vw_nw h1]; exact vs x h0
  · simp only [List.mem_cons, List.not_mem_nil, or_false] at hp
    rcases hp with rfl | rfl
    · unfold vw vTp
      refine Prod.ext ?_ (Prod.ext ?_ (Prod.ext ?_ (Prod.ext ?_ ?_)))
      · show sK (pR (nw s 1021 16 700) 1020 1 (some 1021)) 1020 = 9
        rw [sK_pR, sK_nw, if_neg (by decide)]; exact k20
      · show sN (pR (nw s 1021 16 700) 1020 1 (some 1021)) 1020 = 0
        rw [sN_pR, sN_nw, if_neg (by decide)]; exact congrArg (fun z => z.2.1) q20
      · show sI (pR (nw s 1021 16 700) 1020 1 (some 1021)) 1020 = fun _ => 0
        funext j
        rw [sI_pR, sI_nw, if_neg (by decide)]; exact congrFun (show sI s 1020 = _ from congrArg (fun z => z.2.2.1) q20) j
      · show sL (pR (nw s 1021 16 700) 1020 1 (some 1021)) 1020 = fun _ => 0
        funext j
        rw [sL_pR, sL_nw, if_neg (by decide)]; exact congrFun (show sL s 1020 = _ from congrArg (fun z => z.2.2.2.1) q20) j
      · show sR (pR (nw s 1021 16 700) 1020 1 (some 1021)) 1020 = fun k => if k = 1 then some 1021 else none
        funext j
        rw [sR_pR, sR_nw, show (if (1020 : Nat) = 1021 then none else sR s 1020 j) = sR s 1020 j from if_neg (by decide), show sR s 1020 j = none from congrFun (show sR s 1020 = _ from congrArg (fun z => z.2.2.2.2) q20) j]
        by_cases c : j = 1
        · rw [if_pos ⟨rfl, c⟩, if_pos c]
        · rw [if_neg (fun z => c z.2), if_neg c]
    · show vw (pR (nw s 1021 16 700) 1020 1 (some 1021)) 1021 = vO 16 700
      rw [vw_pR (by decide)]; exact vw_nwq
  rw [← e2] at A6
  clear e1 e2 A5 vs q20 k20
  refine ⟨5, 1043, rfl, by decide, by decide +kernel, A6.fresh (by decide) (by decide) (hz 1043 (by decide) (by decide) (by decide)), by decide, fun s e1 => ⟨(28, 2405), by decide, by decide +kernel, ?_⟩⟩
  have q43 : vw s 1043 = vO 5 0 := by rw [e1]; exact vw_nwq
  have vs : ∀ x, ¬ x = 1043 → vw s x = vw t6 x := fun x hx => by rw [e1]; exact vw_nw hx
  have oks : okS s := by rw [e1]; exact okS_nw A6.1 (by decide) (Or.inl (by decide))
  clear e1
  have z6 : ∀ x, 1021 < x → sK t6 x = 0 := fun x hx => A6.fresh (by omega) (fun p hp e => by
    have := (show ∀ p ∈ [(1020, vTp), (1021, vO 16 700)] ++ ([(1010, vLw), (1011, vLi), (1012, vNu)] ++ [(1005, vLi), (1004, vLi), (1003, vLi), (1002, vLi), (1001, vLi)]), p.1 ≤ 1021 from by decide) p hp
    omega) (hz x (by omega) (by omega) (by omega))
  have z7 : ∀ x, 1043 < x → sK s x = 0 := fun x hx => by rw [vwK (vs x (by omega))]; exact z6 x (by omega)
  refine x_flowInit oks (fun x hx => z7 x (by omega)) (fun j hj => z7 _ (by omega)) (fun x h1 h2 => z7 x (by omega)) q43 (fun x e => ?_) (fun F hF t7 e2 => ?_)
  · by_cases c : x = 1043
    · subst c; rw [show sK s 1043 = 5 from congrArg (fun z => z.1) q43] at e; omega
    · rw [vwK (vs x c)] at e
      by_cases c2 : ∃ p ∈ [(1020, vTp), (1021, vO 16 700)] ++ ([(1010, vLw), (1011, vLi), (1012, vNu)] ++ [(1005, vLi), (1004, vLi), (1003, vLi), (1002, vLi), (1001, vLi)]), p.1 = x
      · obtain ⟨p, hp, rfl⟩ := c2
        rw [show sK t6 p.1 = p.2.1 from congrArg (fun z => z.1) (A6.2.2.2.1 p hp)] at e
        have := (show ∀ p ∈ [(1020, vTp), (1021, vO 16 700)] ++ ([(1010, vLw), (1011, vLi), (1012, vNu)] ++ [(1005, vLi), (1004, vLi), (1003, vLi), (1002, vLi), (1001, vLi)]), p.2.1 ≤ 16 from by decide) p hp
        omega
      · by_cases c3 : x = 1000
        · subst c3; rw [A6.2.2.2.2.1, k0] at e; omega
        · rw [vwK (A6.2.2.1 x c3 (fun q hq e => c2 ⟨q, hq, e⟩))] at e
          by_cases c4 : x = 1
          · subst c4; rw [show sK B 1 = 24 from congrArg (fun z => z.1) hk.1] at e; omega
          · by_cases c5 : x = 2
            · subst c5; rw [show sK B 2 = 25 from congrArg (fun z => z.1) hk.2.1] at e; omega
            · rw [hz x c4 c5 c3] at e; omega
  obtain ⟨f1, f2, f3⟩ := hF
  have o7 : vw F 1000 = vw t6 1000 := (f2 1000 (by decide) (by decide) (by decide)).trans (vs 1000 (by decide))
  have C7 : XB t7 1000 ([(1020, vTp), (1021, vO 16 700)] ++ ([(1010, vLw), (1011, vLi), (1012, vNu)] ++ [(1005, vLi), (1004, vLi), (1003, vLi), (1002, vLi), (1001, vLi)])) [(7, 1043), (6, 1020), (5, 1010), (4, 1005), (3, 1004), (2, 1003), (1, 1002), (0, 1001)] t7 := by
    refine ⟨by rw [e2]; exact okS_pR f1 (by decide), by decide, fun _ _ _ => rfl, fun p hp => ?_, rfl, rfl, fun p hp => ?_⟩
    · have l := (show ∀ p ∈ [(1020, vTp), (1021, vO 16 700)] ++ ([(1010, vLw), (1011, vLi), (1012, vNu)] ++ [(1005, vLi), (1004, vLi), (1003, vLi), (1002, vLi), (1001, vLi)]), 1000 < p.1 ∧ p.1 ≤ 1021 from by decide) p hp
      rw [e2, vw_pR (by omega), f2 p.1 (by omega) (by omega) (by omega), vs p.1 (by omega)]
      exact A6.2.2.2.1 p hp
    · rcases List.mem_cons.mp hp with e | e
      · subst e; rw [e2]; exact sR_pR_eq
      · have := (show ∀ p ∈ [(6, 1020), (5, 1010), (4, 1005), (3, 1004), (2, 1003), (1, 1002), (0, 1001)], ¬ p.1 = 7 from by decide) p e
        rw [e2, sR_pR_ne (by omega), vwR o7]
        exact A6.2.2.2.2.2.2 p e
  have vt7 : ∀ x, ¬ x = 1000 → vw t7 x = vw F x := fun x hx => by rw [e2]; exact vw_pR hx
  have k7 : sK t7 1000 = 12 := by rw [e2, sK_pR, vwK o7, A6.2.2.2.2.1]; exact k0
  have i7 : sI t7 1000 = fun _ => 0 := by rw [e2]; show sI F 1000 = _; rw [vwI o7, A6.2.2.2.2.2.1]; exact i0
  have z8 : ∀ x, 1047 < x → x < 7000 → sK t7 x = 0 := fun x h1 h2 => by
    rw [vwK (vt7 x (by omega)), vwK (f2 x (by omega) (by omega) (by omega))]
    exact z7 x (by omega)
  clear e2 A6 o7
  refine ⟨16, 1050, rfl, by decide, by decide +kernel, by decide +kernel, by decide +kernel, C7.fresh (by decide) (by decide) (z8 1050 (by decide) (by decide)), by decide, fun s e1 t8 e2 => ?_⟩
  have C8 := C7.arr (k := 8) (q := 1050) (κ := 16) (n := 10) (by decide) (by decide) (Or.inr (by decide)) (by decide) (by decide) (by decide)
  rw [show (10 : Int32).toNatClampNeg = 10 from by decide +kernel] at e1
  rw [← e1, ← e2] at C8
  clear e1 e2 C7
  refine ⟨16, 1051, rfl, by decide, by decide +kernel, by decide +kernel, by decide +kernel, C8.fresh (by decide) (by decide) (z8 1051 (by decide) (by decide)), by decide, fun s e1 t9 e2 => ?_⟩
  have C9 := C8.arr (k := 9) (q := 1051) (κ := 16) (n := 30) (by decide) (by decide) (Or.inr (by decide)) (by decide) (by decide) (by decide)
  rw [show (30 : Int32).toNatClampNeg = 30 from by decide +kernel] at e1
  rw [← e1, ← e2] at C9
  clear e1 e2 C8
  refine ⟨16, 1052, rfl, by decide, by decide +kernel, by decide +kernel, by decide +kernel, C9.fresh (by decide) (by decide) (z8 1052 (by decide) (by decide)), by decide, fun s e1 t10 e2 => ?_⟩
  have C10 := C9.arr (k := 10) (q := 1052) (κ := 16) (n := 10) (by decide) (by decide) (Or.inr (by decide)) (by decide) (by decide) (by decide)
  rw [show (10 : Int32).toNatClampNeg = 10 from by decide +kernel] at e1
  rw [← e1, ← e2] at C10
  clear e1 e2 C9
  refine ⟨21, 16, 1060, rfl, rfl, by decide +kernel, by decide +kernel, fun i hi => C10.fresh (by omega) (fun p hp e => ?_) (z8 _ (by omega) (by omega)), by decide, fun s e1 => ⟨fun z e => by cases e; rw [e1]; rw [(mnw_q t10 1060 21 16).1]; decide, fun t11 e2 => ?_⟩⟩
  · have := (show ∀ p ∈ (1052, vO 16 10) :: (1051, vO 16 30) :: (1050, vO 16 10) :: ([(1020, vTp), (1021, vO 16 700)] ++ ([(1010, vLw), (1011, vLi), (1012, vNu)] ++ [(1005, vLi), (1004, vLi), (1003, vLi), (1002, vLi), (1001, vLi)])), p.1 < 1060 from by decide) p hp
    omega
  have C11 := C10.steps (U := mnw t10 1060 21 16) (k := 11) (q := 1060) mRows (fun x hx => vw_mnw_o (mRows_o hx)) mRows_v (by unfold wr; decide) (by decide) (by decide) (by decide) (by decide) (by decide)
  rw [← e1, ← e2] at C11
  clear e1 e2 C10
  refine ⟨16, 1053, rfl, by decide, by decide +kernel, by decide +kernel, by decide +kernel, C11.fresh (by decide) (by decide) (z8 1053 (by decide) (by decide)), by decide, fun s e1 t12 e2 => ?_⟩
  have C12 := C11.arr (k := 12) (q := 1053) (κ := 16) (n := 12) (by decide) (by decide) (Or.inr (by decide)) (by decide) (by decide) (by decide)
  rw [show (12 : Int32).toNatClampNeg = 12 from by decide +kernel] at e1
  rw [← e1, ← e2] at C12
  clear e1 e2 C11
  refine ⟨17, 1054, rfl, by decide, by decide +kernel, by decide +kernel, by decide +kernel, C12.fresh (by decide) (by decide) (z8 1054 (by decide) (by decide)), by decide, fun s e1 t13 e2 => ?_⟩
  have C13 := C12.arr (k := 13) (q := 1054) (κ := 17) (n := 7) (by decide) (by decide) (Or.inr (by decide)) (by decide) (by decide) (by decide)
  rw [show (7 : Int32).toNatClampNeg = 7 from by decide +kernel] at e1
  rw [← e1, ← e2] at C13
  clear e1 e2 C12
  intro t14 e3
  have R8 : sR t14 1000 8 = some 1050 := by rw [e3]; exact C13.2.2.2.2.2.2 (8, 1050) (by decide)
  rw [R8]
  have v14 : ∀ x, ¬ x = 1000 → vw t14 x = vw t13 x := fun x hx => by rw [e3]; exact vw_pI hx
  have v50 : vw t14 1050 = vO 16 10 := (v14 1050 (by decide)).trans (C13.2.2.2.1 (1050, vO 16 10) (by simp))
  have k50 : sK t14 1050 = 16 := congrArg (fun z => z.1) v50
  have n50 : sN t14 1050 = 10 := congrArg (fun z => z.2.1) v50
  refine p_fill (by rw [k50]) (by rw [n50]; decide) (fun T hT => k T ?_)
  rw [n50] at hT
  obtain ⟨g1, g2, g3, g4, g5, g6⟩ := hT
  obtain ⟨c1, c0, c2, c3, c4, c5, c6⟩ := C13
  have ok14 : okS t14 := by rw [e3]; exact okS_pI c1 (by decide)
  have g0 := g1 1000 (by decide)
  have far : ∀ x, 1021 < x → ¬ (1050 ≤ x ∧ x ≤ 1070) → vw T x = vw F x := fun x h1 h2 => by
    rw [g1 x (by omega), v14 x (by omega), c2 x (by omega) (fun p hp e => ?_)]
    · exact vt7 x (by omega)
    · have := (show ∀ p ∈ (1054, vO 17 7) :: (1053, vO 16 12) :: (mRows ++ ((1052, vO 16 10) :: (1051, vO 16 30) :: (1050, vO 16 10) :: ([(1020, vTp), (1021, vO 16 700)] ++ ([(1010, vLw), (1011, vLi), (1012, vNu)] ++ [(1005, vLi), (1004, vLi), (1003, vLi), (1002, vLi), (1001, vLi)])))), p.1 ≤ 1021 ∨ (1050 ≤ p.1 ∧ p.1 ≤ 1070) from by decide) p hp
      omega
  obtain ⟨p3, p4, p5, p6, p7, p8, p9, p10, p11, p12, p13, p14⟩ := f3
  have v43 := far 1043 (by decide) (by decide)
  refine ⟨⟨(g1 1 (by decide)).trans ok14.1, (g1 2 (by decide)).trans ok14.2.1, fun x hx => ?_⟩, by rw [vwK g0, e3, sK_pI, c4]; exact k7, fun j => ?_, fun p hp => ?_, fun p hp => ?_, ⟨g2.trans k50, g3.trans n50, fun j hj => ?_⟩, ⟨by rw [vwK v43]; exact p3, by rw [vwR v43]; exact p4, by rw [vwR v43]; exact p5, by rw [vwR v43]; exact p6, by rw [vwR v43]; exact p7, (far 1045 (by decide) (by decide)).trans p8, (far 1046 (by decide) (by decide)).trans p9, (far 1047 (by decide) (by decide)).trans p10, p11.keep (far 1044 (by decide) (by decide)) (fun a a1 a2 => far a (by omega) (by omega)) ?_, fun j hj => by rw [vwK (far _ (by omega) (by omega))]; exact p12 j hj⟩, fun x h1 h2 => ?_, fun x hx => by rw [vwK (far x (by omega) (by omega))]; exact p13 x hx⟩
  · by_cases c : x = 1050
    · subst c; rw [g2] at hx ⊢; exact ok14.2.2 1050 hx
    · rw [vwK (g1 x c)] at hx ⊢; exact ok14.2.2 x hx
  · rw [vwI g0, e3, sI_pI, c5, i7]
    by_cases c : j = 17
    · rw [if_pos ⟨rfl, c⟩, if_pos c]
    · rw [if_neg (fun z => c z.2), if_neg c]
  · rw [vwR g0, e3, sR_pI]; exact c6 p hp
  · have lp := (show ∀ p ∈ LF, ¬ p.1 = 1050 ∧ ¬ p.1 = 1000 from by decide) p hp
    rw [g1 p.1 lp.1, v14 p.1 lp.2]
    refine c3 p ?_
    unfold LF at hp
    rcases List.mem_cons.mp hp with e | hp
    · rw [e]; exact List.mem_cons_self
    refine List.mem_cons_of_mem _ ?_
    rcases List.mem_cons.mp hp with e | hp
    · rw [e]; exact List.mem_cons_self
    refine List.mem_cons_of_mem _ (List.mem_append.mpr ?_)
    rcases List.mem_append.mp hp with e | hp
    · exact Or.inl e
    refine Or.inr ?_
    rcases List.mem_cons.mp hp with e | hp
    · rw [e]; exact List.mem_cons_self
    refine List.mem_cons_of_mem _ ?_
    rcases List.mem_cons.mp hp with e | hp
    · rw [e]; exact List.mem_cons_self
    exact List.mem_cons_of_mem _ (List.mem_cons_of_mem _ hp)
  · rw [g6, if_pos hj]
  · rw [g1 2 (by decide)]
    exact (ok14.2.1).trans f1.2.1.symm
  · rw [vwK (far x (by omega) (by omega)), vwK (f2 x (by omega) (by omega) (by omega))]
    exact z7 x (by omega)
