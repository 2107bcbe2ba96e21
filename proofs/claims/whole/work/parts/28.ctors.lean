/-! ===== level 2: constructors of the class's parts ===== -/
theorem bareV_all : (fun j => if j < 21 then bareV j else 0) = bareV := by
  funext j
  by_cases h : j < 21
  · rw [if_pos h]
  · rw [if_neg h]
    unfold bareV
    rw [List.getD_eq_getElem?_getD, List.getElem?_eq_none (by show 21 ≤ j; omega)]
    rfl
theorem p_listInit {S : Sg} {q : Nat} {Q : Unit → Sg → Prop} (hq : sK S q % 32 = 1) (k : Q () (pR (pI S q 0 0) q 1 (some 2))) : P_Jx4a65c_init_da8c8 q S Q := by
  unfold P_Jx4a65c_init_da8c8 P_Jxc12de_init_da8c8 P_Jxa1e45_init_da8c8
  exact ⟨hq, fun s e => ⟨by rw [e]; exact hq, fun s2 e2 => by rw [e2, e]; exact k⟩⟩
theorem p_lawInit {S : Sg} {h q1 q2 κ1 κ2 : Nat} {v1 v2 : Int32} {b : Nat × Nat} {Q : Unit → Sg → Prop} (hh : sK S h % 32 = 6) (zI : sI S h = fun _ => 0) (zL : sL S h = fun _ => 0) (zR : sR S h = fun _ => none) (hq1 : sK S q1 = 0) (hq2 : sK S q2 = 0) (h12 : ¬ q1 = q2) (l1 : 1000 ≤ q1) (l2 : 1000 ≤ q2) (k1 : κ1 % 32 = 1) (k2 : κ2 % 32 = 16) (hB : vw S 1 = vBare) (h1 : ¬ 1 = h) (hb1 : 2 ≤ b.1) (hb2 : 24 ≤ b.2)
    (k : ∀ S', LwI S h q1 q2 κ1 κ2 v1 v2 21 S' → Q () S') : P_X4_init h v1 v2 S b Q := by
  have hh1 : ¬ h = q1 := fun e => by rw [e, hq1] at hh; omega
  have hh2 : ¬ h = q2 := fun e => by rw [e, hq2] at hh; omega
  unfold P_X4_init
  refine ⟨κ1, q1, k1, by omega, by omega, hq1, l1, fun z hz => ?_, fun s1 e1 => ?_⟩
  · cases hz
    omega
  · refine p_listInit (by rw [e1, sK_nw, if_pos rfl]; exact k1) ⟨?_, fun s2 e2 => ?_⟩
    · rw [sK_pR, sK_pI, e1, sK_nw, if_neg hh1]; exact hh
    · have e21 : (21 : Int32).toNatClampNeg = 21 := by decide
      rw [e21]
      have f2 : sK s2 q2 = 0 := by rw [e2, sK_pR, sK_pR, sK_pI, e1, sK_nw, if_neg (fun e => h12 e.symm)]; exact hq2
      refine ⟨κ2, q2, k2, by decide, by decide, by omega, by omega, f2, l2, fun s3 e3 s4 e4 s5 e5 s6 e6 => ?_⟩
      refine p_lawLoop hh k2 hB h1 (fun e => by omega) (fun e => by omega) hh2 h12 ?_ k
      have base : ∀ x, ¬ x = h → ¬ x = q1 → ¬ x = q2 → vw s6 x = vw S x := fun x x1 x2 x3 => by
        rw [e6, vw_pI x1, e5, vw_pI x1, e4, vw_pR x1, e3, vw_nw x3, e2, vw_pR x1, vw_pR x2, vw_pI x2, e1, vw_nw x2]
      refine ⟨?_, ?_, ?_, base⟩
      · unfold vw
        refine Prod.ext ?_ (Prod.ext ?_ (Prod.ext ?_ (Prod.ext ?_ ?_)))
        · show sK s6 h = sK S h
          rw [e6, sK_pI, e5, sK_pI, e4, sK_pR, e3, sK_nw, if_neg hh2, e2, sK_pR, sK_pR, sK_pI, e1, sK_nw, if_neg hh1]
        · show sN s6 h = sN S h
          rw [e6, sN_pI, e5, sN_pI, e4, sN_pR, e3, sN_nw, if_neg hh2, e2, sN_pR, sN_pR, sN_pI, e1, sN_nw, if_neg hh1]
        · show sI s6 h = fun k => if k = 0 then v1 else if k = 1 then v2 else 0
          funext j
          have g4 : sI s4 h j = 0 := by
            rw [e4, sI_pR, e3, sI_nw, if_neg hh2, e2, sI_pR, sI_pR, sI_pI, if_neg (fun z => hh1 z.1), e1, sI_nw, if_neg hh1, zI]
          rw [e6, sI_pI, e5, sI_pI, g4]
          by_cases c0 : j = 0
          · subst c0; simp
          · by_cases c1 : j = 1
            · subst c1; simp
            · simp [c0, c1]
        · show sL s6 h = fun _ => 0
          funext j
          rw [e6, sL_pI, e5, sL_pI, e4, sL_pR, e3, sL_nw, if_neg hh2, e2, sL_pR, sL_pR, sL_pI, e1, sL_nw, if_neg hh1, zL]
        · show sR s6 h = fun k => if k = 2 then some q1 else if k = 3 then some q2 else none
          funext j
          have gb : sR (pR (pI s1 q1 0 0) q1 1 (some 2)) h j = none := by
            rw [sR_pR, if_neg (fun z => hh1 z.1), sR_pI, e1, sR_nw, if_neg hh1, zR]
          have g3 : sR s3 h j = if h = h ∧ j = 2 then some q1 else none := by
            rw [e3, sR_nw, if_neg hh2, e2, sR_pR, gb]
          rw [e6, sR_pI, e5, sR_pI, e4, sR_pR, g3]
          by_cases c0 : j = 3
          · subst c0; simp
          · by_cases c1 : j = 2
            · subst c1; simp
            · simp [c0, c1]
      · have hq1h : ¬ q1 = h := fun e => hh1 e.symm
        rw [e6, vw_pI hq1h, e5, vw_pI hq1h, e4, vw_pR hq1h, e3, vw_nw h12, e2, vw_pR hq1h]
        unfold vw
        refine Prod.ext ?_ (Prod.ext ?_ (Prod.ext ?_ (Prod.ext ?_ ?_)))
        · show sK s1 q1 = κ1
          rw [e1, sK_nw, if_pos rfl]
        · show sN s1 q1 = 0
          rw [e1, sN_nw, if_pos rfl]
        · show sI (pI s1 q1 0 0) q1 = fun _ => 0
          funext j
          rw [sI_pI, e1, sI_nw, if_pos rfl]
          split <;> rfl
        · show sL s1 q1 = fun _ => 0
          funext j
          rw [e1, sL_nw, if_pos rfl]
        · show sR (pR (pI s1 q1 0 0) q1 1 (some 2)) q1 = fun k => if k = 1 then some 2 else none
          funext j
          rw [sR_pR, sR_pI, e1, sR_nw, if_pos rfl]
          by_cases c : j = 1
          · rw [if_pos ⟨rfl, c⟩, if_pos c]
          · rw [if_neg (fun z => c z.2), if_neg c]
      · have hq2h : ¬ q2 = h := fun e => hh2 e.symm
        rw [e6, vw_pI hq2h, e5, vw_pI hq2h, e4, vw_pR hq2h, e3, vw_nwq]
        refine Prod.ext rfl (Prod.ext rfl (Prod.ext ?_ rfl))
        funext j
        show (0 : Int32) = if j < 0 then bareV j else 0
        rw [if_neg (by omega)]
