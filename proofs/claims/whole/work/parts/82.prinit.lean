/-! ===== level 2: what both constructors leave ===== -/
theorem li_lst {T : Sg} {h ro : Nat} {el : Nat → Nat} (hk : okS T) (v : vw T h = vLi) : Lst T h ro el 0 := by
  refine ⟨by rw [show sK T h = 1 from congrArg (fun z => z.1) v], ?_, by omega, Or.inl ⟨rfl, ?_, congrArg (fun z => z.1) hk.2.1⟩⟩
  · exact congrFun (show sI T h = _ from congrArg (fun z => z.2.2.1) v) 2
  · exact congrFun (show sR T h = _ from congrArg (fun z => z.2.2.2.2) v) 1
theorem vo_K {T : Sg} {h κ n : Nat} (v : vw T h = vO κ n) : sK T h = κ := congrArg (fun z => z.1) v
theorem vo_N {T : Sg} {h κ n : Nat} (v : vw T h = vO κ n) : sN T h = n := congrArg (fun z => z.2.1) v
theorem vo_I {T : Sg} {h κ n : Nat} (v : vw T h = vO κ n) (j : Nat) : sI T h j = 0 := congrFun (show sI T h = _ from congrArg (fun z => z.2.2.1) v) j
theorem vo_L {T : Sg} {h κ n : Nat} (v : vw T h = vO κ n) (j : Nat) : sL T h j = 0 := congrFun (show sL T h = _ from congrArg (fun z => z.2.2.2.1) v) j
theorem rg0 {lo hi : Nat} (h : lo = 0) : rg 0 lo hi := ⟨0, by omega, Nat.zero_le _, rfl⟩
set_option maxRecDepth 20000 in
set_option maxHeartbeats 4000000 in
theorem inv_start {T V : Sg} (h : INI T) (m : MI 10 V) : Inv T V := by
  obtain ⟨h1, h2, h3, h4, h5, ⟨d1, d2, d3⟩, ⟨f1, f2, f3, f4, f5, f6, f7, f8, f9, f10⟩, z1, z2⟩ := h
  obtain ⟨m1, m2, m3, m4⟩ := m
  have r : ∀ k q, (k, q) ∈ RF → sR T 1000 k = some q := fun k q hp => h4 (k, q) hp
  have v54 : vw T 1054 = vO 17 7 := h5 (1054, vO 17 7) (by simp [LF])
  have v53 : vw T 1053 = vO 16 12 := h5 (1053, vO 16 12) (by simp [LF])
  have v52 : vw T 1052 = vO 16 10 := h5 (1052, vO 16 10) (by simp [LF])
  have v51 : vw T 1051 = vO 16 30 := h5 (1051, vO 16 30) (by simp [LF])
  have v20 : vw T 1020 = vTp := h5 (1020, vTp) (by simp [LF])
  have v21 : vw T 1021 = vO 16 700 := h5 (1021, vO 16 700) (by simp [LF])
  have v10 : vw T 1010 = vLw := h5 (1010, vLw) (by simp [LF])
  have v11 : vw T 1011 = vLi := h5 (1011, vLi) (by simp [LF])
  have v12 : vw T 1012 = vNu := h5 (1012, vNu) (by simp [LF])
  have v05 : vw T 1005 = vLi := h5 (1005, vLi) (by simp [LF])
  have v04 : vw T 1004 = vLi := h5 (1004, vLi) (by simp [LF])
  have v03 : vw T 1003 = vLi := h5 (1003, vLi) (by simp [LF])
  have v02 : vw T 1002 = vLi := h5 (1002, vLi) (by simp [LF])
  have v01 : vw T 1001 = vLi := h5 (1001, vLi) (by simp [LF])
  have v60 : vw T 1060 = vM := h5 (1060, vM) (by simp [LF, mRows])
  have vrow : ∀ i, i < 10 → vw T (1061 + i) = vO 16 10 := fun i hi => h5 (1061 + i, vO 16 10) (by
    unfold LF
    exact List.mem_cons_of_mem _ (List.mem_cons_of_mem _ (List.mem_append.mpr (Or.inl (mRows_in hi)))))
  have kTp : sK T 1020 = 9 := congrArg (fun z => z.1) v20
  have rTp : sR T 1020 1 = some 1021 := congrFun (show sR T 1020 = _ from congrArg (fun z => z.2.2.2.2) v20) 1
  have iTp : sI T 1020 0 = 0 := congrFun (show sI T 1020 = _ from congrArg (fun z => z.2.2.1) v20) 0
  have kM : sK T 1060 = 21 := congrArg (fun z => z.1) v60
  have nM : sN T 1060 = 10 := congrArg (fun z => z.2.1) v60
  have rM : ∀ i, i < 10 → sR T 1060 i = some (1061 + i) := fun i hi => (congrFun (show sR T 1060 = _ from congrArg (fun z => z.2.2.2.2) v60) i).trans (if_pos hi)
  have kL : sK T 1010 = 6 := congrArg (fun z => z.1) v10
  have iL : sI T 1010 1 = -1 := congrFun (show sI T 1010 = _ from congrArg (fun z => z.2.2.1) v10) 1
  have rL2 : sR T 1010 2 = some 1011 := congrFun (show sR T 1010 = _ from congrArg (fun z => z.2.2.2.2) v10) 2
  have rL3 : sR T 1010 3 = some 1012 := congrFun (show sR T 1010 = _ from congrArg (fun z => z.2.2.2.2) v10) 3
  have kN : sK T 1012 = 16 := congrArg (fun z => z.1) v12
  have nN : sN T 1012 = 21 := congrArg (fun z => z.2.1) v12
  have iN : ∀ w, w < 21 → sI T 1012 w = bareV w := fun w hw => (congrFun (show sI T 1012 = _ from congrArg (fun z => z.2.2.1) v12) w).trans (if_pos hw)
  have c0 : ∀ k, ¬ k = 80 → sI V 1000 k = 0 := fun k hk => (m2 k).trans (if_neg hk)
  have c80 : sI V 1000 80 = -1 := m2 80
  have a : ∀ x n κ, (x, κ, n) ∈ mArr → ¬ x = 31 → ∀ j, sI V (1100 + x) j = 0 := fun x n κ hx hne j => by
    have := (m4 (x, κ, n) hx).1
    rw [show ((x, κ, n) : Nat × Nat × Nat).1 = x from rfl, if_neg hne] at this
    exact congrFun this j
  have al : ∀ x n κ, (x, κ, n) ∈ mArr → ∀ j, sL V (1100 + x) j = 0 := fun x n κ hx j => congrFun (m4 (x, κ, n) hx).2 j
  have e12 : ∀ j, sI V 1112 j = 0 := a 12 12 18 (by decide) (by decide)
  refine ⟨h1, m1, ⟨⟨by rw [h2], r 0 1001 (by decide), r 1 1002 (by decide), r 2 1003 (by decide), r 3 1004 (by decide), r 4 1005 (by decide), r 5 1010 (by decide), r 6 1020 (by decide), r 7 1043 (by decide), r 8 1050 (by decide), r 9 1051 (by decide), r 10 1052 (by decide), r 11 1060 (by decide), r 12 1053 (by decide), r 13 1054 (by decide)⟩, ⟨by rw [kTp], rTp, by rw [vo_K v21], vo_N v21, f1, f2, f3, f4, f5, by rw [vo_K f6], vo_N f6, by rw [vo_K f7], vo_N f7, by rw [vo_K f8], vo_N f8, by rw [d1], d2, by rw [vo_K v51], vo_N v51, by rw [vo_K v52], vo_N v52, by rw [vo_K v53], vo_N v53, by rw [vo_K v54], vo_N v54, by rw [kM], nM⟩, fun n hn => ⟨rM n hn, by rw [vo_K (vrow n hn)], vo_N (vrow n hn)⟩, ⟨by rw [kL], iL, rL2, rL3, li_lst h1 v11, by rw [kN], nN, iN⟩, f9, f10⟩, ⟨?_, ?_, ?_, ?_, ?_⟩, ⟨fun i hi => ⟨?_, ?_⟩, fun i hi => ⟨?_, ?_⟩⟩, ⟨fun i hi => ?_, fun i y hi hy => ?_⟩, fun i hi => ?_, 0, 0, 0, 0, 0, 0, 0, 0, 10012, fun _ => 0, ⟨li_lst h1 v01, by omega, c0 1 (by decide), fun i hi => absurd hi (Nat.not_lt_zero _), fun i _ hi => ⟨z1 _ (by omega) (by omega), e12 i, al 56 12 17 (by decide) i, al 57 12 17 (by decide) i, a 60 12 16 (by decide) (by decide) i⟩, fun i hi => absurd hi (Nat.not_lt_zero _)⟩, ⟨li_lst h1 v02, by omega, c0 2 (by decide), fun i hi => absurd hi (Nat.not_lt_zero _), fun i _ hi => ⟨z1 _ (by omega) (by omega), a 29 30 16 (by decide) (by decide) i, a 30 30 16 (by decide) (by decide) i⟩, fun i hi => absurd hi (Nat.not_lt_zero _)⟩, ⟨li_lst h1 v03, by omega, c0 4 (by decide), fun i hi => absurd hi (Nat.not_lt_zero _), fun i _ hi => z1 _ (by omega) (by omega)⟩, ⟨li_lst h1 v04, by omega, c0 6 (by decide), fun i hi => absurd hi (Nat.not_lt_zero _), fun i _ hi => z1 _ (by omega) (by omega), fun _ _ i _ hi => absurd hi (Nat.not_lt_zero _)⟩, ⟨li_lst h1 v05, by omega, c0 67 (by decide), fun i hi => absurd hi (Nat.not_lt_zero _)⟩, ⟨(h3 14).trans (if_neg (by decide)), c0 3 (by decide), by omega, (h3 15).trans (if_neg (by decide)), c0 0 (by decide), by omega, ((h3 16).trans (if_neg (by decide))).trans (c0 5 (by decide)).symm, ((h3 17).trans (if_pos rfl)).trans c80.symm⟩, ⟨by omega, iTp, c0 77 (by decide), fun i hi => absurd hi (Nat.not_lt_zero _)⟩, ⟨by omega, z2⟩⟩
  · rw [vo_L v54, m3]
  · rw [vo_L v54, m3]
  · rw [vo_L v54, m3]
  · rw [vo_L v54, m3]
  · rw [vo_L v54, m3]
  · rw [d3 i hi, show sI V 1131 i = dr 10 i from congrFun (m4 (31, 16, 10) (by decide)).1 i]
    unfold dr; rw [if_pos hi]
  · rw [show sI V 1131 i = dr 10 i from congrFun (m4 (31, 16, 10) (by decide)).1 i]
    unfold dr; rw [if_pos hi]; exact ⟨20, by omega, by omega, rfl⟩
  · rw [vo_I v51, show sI V 1132 i = 0 from a 32 30 16 (by decide) (by decide) i]
  · rw [show sI V 1132 i = 0 from a 32 30 16 (by decide) (by decide) i]; exact rg0 rfl
  · rw [vo_I v52, show sI V 1133 i = 0 from a 33 10 16 (by decide) (by decide) i]
  · rw [vo_I (vrow i hi), show sI V 1134 (10 * y + i) = 0 from a 34 100 16 (by decide) (by decide) _]
  · have b18 : sI V 1118 i = 0 := a 18 12 16 (by decide) (by decide) i
    have b19 : sI V 1119 i = 0 := a 19 12 16 (by decide) (by decide) i
    have b20 : sI V 1120 i = 0 := a 20 12 16 (by decide) (by decide) i
    have b21 : sI V 1121 i = 0 := a 21 12 16 (by decide) (by decide) i
    have b22 : sI V 1122 i = 0 := a 22 12 16 (by decide) (by decide) i
    refine ⟨Or.inl (e12 i), ⟨by rw [b18]; exact rg0 rfl, by rw [b19]; exact rg0 rfl, by rw [b21]; exact rg0 rfl⟩, fun _ => ⟨z1 _ (by omega) (by omega), z1 _ (by omega) (by omega), b18, b19, b20, b21, b22⟩, fun z => absurd (e12 i) z⟩
theorem pr_init : PrInit Inv := by
  refine x_init (okS_nw okS00 (by decide) (Or.inl (by decide))) (by rw [sK_nw, if_pos rfl]) (congrArg (fun z => z.2.2.1) (vw_nwq (S := S00) (q := 1000) (κ := 12) (n := 0))) (fun x h1 h2 h3 => ?_) (fun T hT => ⟨hT.1, ?_⟩)
  · rw [sK_nw, if_neg h3]
    show (if x = 1 then vBare else if x = 2 then vEmpty else vw0).1 = 0
    rw [if_neg h1, if_neg h2]
    rfl
  · exact m_init (fun V hV => ⟨hV.1.1, inv_start hT hV⟩)
theorem prs_inv : Prs Inv := ⟨pr_corner, pr_below, pr_roof, pr_lot, pr_bed, pr_care, pr_treat, pr_pass, pr_rain, pr_clear, pr_storm, pr_tried, pr_best, pr_helps, pr_told, pr_bedOf, pr_roofOf, pr_prove, pr_stormOf, pr_compare, pr_crew, pr_neighbour, pr_turn, pr_fee, pr_look, pr_worst, pr_complain, pr_close, pr_complaint, pr_feed, pr_rules, pr_fault, pr_law, pr_sum, pr_count⟩
