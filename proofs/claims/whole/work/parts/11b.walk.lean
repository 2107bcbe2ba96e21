def P_X3_letIn_L79b (a0 : Nat) (v1 : Option Nat) (v2 : Option Nat) (v4 : Int32) (σ : Sg) (Q : Unit → Sg → Prop) (K79 : Int32 → Sg → Prop) : Prop :=
  ∃ c39 : Nat, v1 = some c39 ∧ sK σ c39 % 32 = 1 ∧ P_Jx4a65c_size_8abf5 c39 σ (fun x42 => (x42 ≤ v4 → Q () σ) ∧ (¬ (x42 ≤ v4) → (30 ≤ v4 → Q () σ) ∧ (¬ (30 ≤ v4) → sK σ a0 % 32 = 5 ∧ P_Jx4a65c_get_915e3 c39 v4 σ (fun r46 => ∃ c47 : Nat, r46 = some c47 ∧ sK σ c47 % 32 = 8 ∧ P_X3_letInFrom a0 r46 v2 σ (fun x50 σ51 => ∃ c55 : Nat, sR σ a0 4 = some c55 ∧ sK σ51 c55 % 32 = 16 ∧ vp_in v4 (sN σ51 c55) ∧ ∀ σ59 : Sg, σ59 = pI σ51 c55 v4.toNatClampNeg x50 → ∀ x62 : Int32, x62 = v4 + 1 → K79 x62 σ59)))))
def P_X3_letIn_L79 (a0 : Nat) (v1 : Option Nat) (v2 : Option Nat) (v4 : Int32) (σ : Sg) (Q : Unit → Sg → Prop) : Prop :=
  ∃ I : Nat → Int32 → Sg → Prop, (∃ n, I n v4 σ) ∧ ∀ (n : Nat) (v4 : Int32) (σ : Sg), I n v4 σ → P_X3_letIn_L79b a0 v1 v2 v4 σ Q (fun v4 σ => ∃ n', n' < n ∧ I n' v4 σ)
def P_X3_letIn_L30b (a0 : Nat) (v1 : Option Nat) (v2 : Option Nat) (v4 : Int32) (v5 : Int32) (σ : Sg) (Q : Unit → Sg → Prop) (K18 : Int32 → Sg → Prop) (K30 : Int32 → Sg → Prop) : Prop :=
  sK σ a0 % 32 = 5 ∧ ((sI σ a0 6) ≤ v5 → ∀ x16 : Int32, x16 = v4 + 1 → K18 x16 σ) ∧ (¬ ((sI σ a0 6) ≤ v5) → ∃ c20 : Nat, v2 = some c20 ∧ sK σ c20 % 32 = 16 ∧ vp_in v4 (sN σ c20) ∧ ∃ c24 : Nat, sR σ a0 5 = some c24 ∧ sK σ c24 % 32 = 16 ∧ vp_in v5 (sN σ c24) ∧ ∃ c28 : Nat, sR σ a0 3 = some c28 ∧ sK σ c28 % 32 = 16 ∧ vp_in ((v4 * 12) + v5) (sN σ c28) ∧ ∀ σ32 : Sg, σ32 = pI σ c28 ((v4 * 12) + v5).toNatClampNeg ((sI σ c20 v4.toNatClampNeg) * (sI σ c24 v5.toNatClampNeg)) → ∀ x35 : Int32, x35 = v5 + 1 → K30 x35 σ32)
def P_X3_letIn_L30 (a0 : Nat) (v1 : Option Nat) (v2 : Option Nat) (v4 : Int32) (v5 : Int32) (σ : Sg) (Q : Unit → Sg → Prop) (K18 : Int32 → Sg → Prop) : Prop :=
  ∃ I : Nat → Int32 → Sg → Prop, (∃ n, I n v5 σ) ∧ ∀ (n : Nat) (v5 : Int32) (σ : Sg), I n v5 σ → P_X3_letIn_L30b a0 v1 v2 v4 v5 σ Q K18 (fun v5 σ => ∃ n', n' < n ∧ I n' v5 σ)
def P_X3_letIn_L18b (a0 : Nat) (v1 : Option Nat) (v2 : Option Nat) (v4 : Int32) (σ : Sg) (Q : Unit → Sg → Prop) (K18 : Int32 → Sg → Prop) : Prop :=
  sK σ a0 % 32 = 5 ∧ ((sI σ a0 7) ≤ v4 → P_X3_letIn_L79 a0 v1 v2 0 σ Q) ∧ (¬ ((sI σ a0 7) ≤ v4) → P_X3_letIn_L30 a0 v1 v2 v4 0 σ Q K18)
def P_X3_letIn_L18 (a0 : Nat) (v1 : Option Nat) (v2 : Option Nat) (v4 : Int32) (σ : Sg) (Q : Unit → Sg → Prop) : Prop :=
  ∃ I : Nat → Int32 → Sg → Prop, (∃ n, I n v4 σ) ∧ ∀ (n : Nat) (v4 : Int32) (σ : Sg), I n v4 σ → P_X3_letIn_L18b a0 v1 v2 v4 σ Q (fun v4 σ => ∃ n', n' < n ∧ I n' v4 σ)
def P_X3_letIn (a0 : Nat) (v1 : Option Nat) (v2 : Option Nat) (v3 : Int32) (σ : Sg) (Q : Unit → Sg → Prop) : Prop :=
  ∃ c1 : Nat, v2 = some c1 ∧ sK σ c1 % 32 = 16 ∧ ∀ x4 : Int32, x4 = (if (30 : Int32) < (nI (sN σ c1)) then (30 : Int32) else (nI (sN σ c1))) → ∀ x6 : Int32, x6 = (if x4 < v3 then x4 else v3) → sK σ a0 % 32 = 5 ∧ ∀ σ9 : Sg, σ9 = pI σ a0 7 x6 → P_X3_letIn_L18 a0 v1 v2 0 σ9 Q
set_option maxHeartbeats 4000000 in
set_option maxRecDepth 100000 in
theorem k_X3_letIn (l : Launch) (D : Dg) (a0 : Nat) (v1 : Option Nat) (v2 : Option Nat) (v3 : Int32) (σ : Sg) (Q : Unit → Sg → Prop) (h : P_X3_letIn a0 v1 v2 v3 σ Q) : CtrY RN l D yX3_letIn cX3_letIn 6 (none) 3 64 mkV [.ref a0, va_rf v1, va_rf v2, .int v3] σ (0, 0) Q := by
  refine y_ctrN (lv := [(0, va_rf (some a0)), (1, va_rf v1), (2, va_rf v2), (3, .int v3)]) (by decide) (by cases v1 <;> cases v2 <;> (exact Nat.le_of_ble_eq_true rfl)) (by cases v1 <;> cases v2 <;> (exact rfl)) (fun g hg hgL hgD hrm hgN hgI hend => ?_)
  subst hgD
  clear hgL
  unfold P_X3_letIn at h
  have J79 : ∀ (v1 : Option Nat) (v2 : Option Nat) (v4 : Int32) (σ : Sg), P_X3_letIn_L79 a0 v1 v2 v4 σ Q → XA g 79 [(0, va_rf (some a0)), (1, va_rf v1), (2, va_rf v2), (4, .int v4)] [] σ (0, 0) := by
    intro v1 v2 v4 σ h
    unfold P_X3_letIn_L79 at h
    obtain ⟨I79, ⟨n79, hI79⟩, hs79⟩ := h
    have key79 : ∀ (n : Nat), ∀ (v4 : Int32) (σ : Sg), I79 n v4 σ → XA g 79 [(0, va_rf (some a0)), (1, va_rf v1), (2, va_rf v2), (4, .int v4)] [] σ (0, 0) := by
      intro n
      induction n using Nat.strongRecOn with
      | _ n ih79 =>
      intro v4 σ hI
      have h := hs79 n v4 σ hI
      clear hI hI79 hs79
      obtain ⟨K79, hK79⟩ : ∃ K : Int32 → Sg → Prop, K = (fun v4 σ => ∃ n', n' < n ∧ I79 n' v4 σ) := ⟨_, rfl⟩
      rw [← hK79] at h
      unfold P_X3_letIn_L79b at h
      refine y_iload hg 3 dX3_letIn_79 rfl ?_
      refine y_aload_n hg 1 dX3_letIn_81 rfl rfl ?_
      obtain ⟨c39, h40, h⟩ := h
      obtain ⟨h41, h⟩ := h
      refine yVIP (Qp := _) (rest := [.int v4]) (As := []) hg (k_Jx4a65c_size_8abf5 (gL g.1) (gD g.1) c39 σ _ h) lv_X3_35 h40 h41 rfl rfl dX3_letIn_82 (cat8 (Nat.le_of_ble_eq_true rfl)) hrm ⟨Nat.le_of_ble_eq_true rfl, Nat.le_of_ble_eq_true rfl⟩ (fun x42 h => ?_)
      refine y_icmp_ge (tgt := 122) hg dX3_letIn_85 (by decide) (fun q43 => ?_) (fun q43 => ?_)
      · replace h := h.1 q43
        exact yEndV hend dX3_letIn_122 h
      · replace h := h.2 q43
        refine y_iload hg 3 dX3_letIn_88 rfl ?_
        refine y_bipush (v := 30) hg dX3_letIn_90 (by decide) ?_
        refine y_icmp_ge (tgt := 122) hg dX3_letIn_92 (by decide) (fun q44 => ?_) (fun q44 => ?_)
        · replace h := h.1 q44
          exact yEndV hend dX3_letIn_122 h
        · replace h := h.2 q44
          refine y_aload_n hg 0 dX3_letIn_95 rfl rfl ?_
          obtain ⟨h45, h⟩ := h
          refine y_getR hg fl_X3_22 rfl rfl h45 dX3_letIn_96 ?_
          refine y_iload hg 3 dX3_letIn_99 rfl ?_
          refine y_aload_n hg 0 dX3_letIn_101 rfl rfl ?_
          refine y_aload_n hg 1 dX3_letIn_102 rfl rfl ?_
          refine y_iload hg 3 dX3_letIn_103 rfl ?_
          refine yVRP (Qp := _) (rest := [va_rf (some a0), .int v4, va_rf (sR σ a0 4)]) (As := [.int v4]) hg (k_Jx4a65c_get_915e3 (gL g.1) (gD g.1) c39 v4 σ _ h) lv_X3_52 h40 h41 rfl rfl dX3_letIn_105 (cat8 (Nat.le_of_ble_eq_true rfl)) hrm ⟨Nat.le_of_ble_eq_true rfl, Nat.le_of_ble_eq_true rfl⟩ (fun r46 h => ?_)
          obtain ⟨c47, h48, h⟩ := h
          obtain ⟨h49, h⟩ := h
          refine y_cast (c := 8) hg (C := RX6) rfl (by decide) cl_X3_75 h48 h49 dX3_letIn_108 ?_
          refine y_aload_n hg 2 dX3_letIn_111 rfl rfl ?_
          refine yVIW (Qm := _) (rest := [.int v4, va_rf (sR σ a0 4)]) (As := [va_rf r46, va_rf v2]) hg (k_X3_letInFrom (gL g.1) (gD g.1) a0 r46 v2 σ _ h) lv_X3_77 rfl h45 rfl rfl dX3_letIn_112 (cat8 (Nat.le_of_ble_eq_true rfl)) hrm ⟨Nat.le_of_ble_eq_true rfl, Nat.le_of_ble_eq_true rfl⟩ (fun x50 σ51 h h52 => ?_)
          have h53 := kp h52 (show ¬ 1 = 0 by decide) h41
          have h54 := kp h52 (show ¬ 5 = 0 by decide) h45
          obtain ⟨c55, h56, h⟩ := h
          obtain ⟨h57, h⟩ := h
          obtain ⟨h58, h⟩ := h
          refine y_iast hg h56 h57 h58 dX3_letIn_115 ?_
          refine y_nmS (fun σ59 e60 => ?_)
          replace h := h σ59 e60
          have E61 : sK σ59 = sK σ51 := by rw [e60]; rfl
          obtain ⟨x62, e63⟩ : ∃ y : Int32, y = v4 + 1 := ⟨_, rfl⟩
          replace h := h x62 e63
          refine y_iinc (v := x62) (lv' := [(4, .int x62), (0, va_rf (some a0)), (1, va_rf v1), (2, va_rf v2)]) hg 3 dX3_letIn_116 rfl (by rw [e63]; rfl) (by rw [hgN]; decide) rfl ?_
          refine y_goto (tgt := 79) hg dX3_letIn_119 (by decide) ?_
          refine y_sub [1, 2, 3, 0] rfl ?_
          subst hK79
          obtain ⟨n64, h65, h⟩ := h
          exact ih79 n64 h65 _ _ h
    exact key79 n79 v4 σ hI79
  have J18 : ∀ (v1 : Option Nat) (v2 : Option Nat) (v4 : Int32) (σ : Sg), P_X3_letIn_L18 a0 v1 v2 v4 σ Q → XA g 18 [(0, va_rf (some a0)), (1, va_rf v1), (2, va_rf v2), (4, .int v4)] [] σ (0, 0) := by
    intro v1 v2 v4 σ h
    unfold P_X3_letIn_L18 at h
    obtain ⟨I18, ⟨n18, hI18⟩, hs18⟩ := h
    have key18 : ∀ (n : Nat), ∀ (v4 : Int32) (σ : Sg), I18 n v4 σ → XA g 18 [(0, va_rf (some a0)), (1, va_rf v1), (2, va_rf v2), (4, .int v4)] [] σ (0, 0) := by
      intro n
      induction n using Nat.strongRecOn with
      | _ n ih18 =>
      intro v4 σ hI
      have h := hs18 n v4 σ hI
      clear hI hI18 hs18
      obtain ⟨K18, hK18⟩ : ∃ K : Int32 → Sg → Prop, K = (fun v4 σ => ∃ n', n' < n ∧ I18 n' v4 σ) := ⟨_, rfl⟩
      rw [← hK18] at h
      unfold P_X3_letIn_L18b at h
      have J30 : ∀ (v4 : Int32) (v5 : Int32) (σ : Sg), P_X3_letIn_L30 a0 v1 v2 v4 v5 σ Q K18 → XA g 30 [(0, va_rf (some a0)), (1, va_rf v1), (2, va_rf v2), (4, .int v4), (5, .int v5)] [] σ (0, 0) := by
        intro v4 v5 σ h
        unfold P_X3_letIn_L30 at h
        obtain ⟨I30, ⟨n30, hI30⟩, hs30⟩ := h
        have key30 : ∀ (n : Nat), ∀ (v5 : Int32) (σ : Sg), I30 n v5 σ → XA g 30 [(0, va_rf (some a0)), (1, va_rf v1), (2, va_rf v2), (4, .int v4), (5, .int v5)] [] σ (0, 0) := by
          intro n
          induction n using Nat.strongRecOn with
          | _ n ih30 =>
          intro v5 σ hI
          have h := hs30 n v5 σ hI
          clear hI hI30 hs30
          obtain ⟨K30, hK30⟩ : ∃ K : Int32 → Sg → Prop, K = (fun v5 σ => ∃ n', n' < n ∧ I30 n' v5 σ) := ⟨_, rfl⟩
          rw [← hK30] at h
          unfold P_X3_letIn_L30b at h
          refine y_iload hg 4 dX3_letIn_30 rfl ?_
          refine y_aload_n hg 0 dX3_letIn_32 rfl rfl ?_
          obtain ⟨h14, h⟩ := h
          refine y_getI hg fl_X3_45 rfl rfl h14 dX3_letIn_33 ?_
          refine y_icmp_ge (tgt := 70) hg dX3_letIn_36 (by decide) (fun q15 => ?_) (fun q15 => ?_)
          · replace h := h.1 q15
            obtain ⟨x16, e17⟩ : ∃ y : Int32, y = v4 + 1 := ⟨_, rfl⟩
            replace h := h x16 e17
            refine y_iinc (v := x16) (lv' := [(4, .int x16), (0, va_rf (some a0)), (1, va_rf v1), (2, va_rf v2), (5, .int v5)]) hg 3 dX3_letIn_70 rfl (by rw [e17]; rfl) (by rw [hgN]; decide) rfl ?_
            refine y_goto (tgt := 18) hg dX3_letIn_73 (by decide) ?_
            refine y_sub [1, 2, 3, 0] rfl ?_
            subst hK18
            obtain ⟨n18, h19, h⟩ := h
            exact ih18 n18 h19 _ _ h
          · replace h := h.2 q15
            refine y_aload_n hg 0 dX3_letIn_39 rfl rfl ?_
            refine y_getR hg fl_X3_18 rfl rfl h14 dX3_letIn_40 ?_
            refine y_iload hg 3 dX3_letIn_43 rfl ?_
            refine y_bipush (v := 12) hg dX3_letIn_45 (by decide) ?_
            refine y_imul hg dX3_letIn_47 ?_
            refine y_iload hg 4 dX3_letIn_48 rfl ?_
            refine y_iadd hg dX3_letIn_50 ?_
            refine y_aload_n hg 2 dX3_letIn_51 rfl rfl ?_
            refine y_iload hg 3 dX3_letIn_52 rfl ?_
            obtain ⟨c20, h21, h⟩ := h
            obtain ⟨h22, h⟩ := h
            obtain ⟨h23, h⟩ := h
            refine y_iald hg h21 h22 h23 dX3_letIn_54 ?_
            refine y_aload_n hg 0 dX3_letIn_55 rfl rfl ?_
            refine y_getR hg fl_X3_25 rfl rfl h14 dX3_letIn_56 ?_
            refine y_iload hg 4 dX3_letIn_59 rfl ?_
            obtain ⟨c24, h25, h⟩ := h
            obtain ⟨h26, h⟩ := h
            obtain ⟨h27, h⟩ := h
            refine y_iald hg h25 h26 h27 dX3_letIn_61 ?_
            refine y_imul hg dX3_letIn_62 ?_
            obtain ⟨c28, h29, h⟩ := h
            obtain ⟨h30, h⟩ := h
            obtain ⟨h31, h⟩ := h
            refine y_iast hg h29 h30 h31 dX3_letIn_63 ?_
            refine y_nmS (fun σ32 e33 => ?_)
            replace h := h σ32 e33
            have E34 : sK σ32 = sK σ := by rw [e33]; rfl
            obtain ⟨x35, e36⟩ : ∃ y : Int32, y = v5 + 1 := ⟨_, rfl⟩
            replace h := h x35 e36
            refine y_iinc (v := x35) (lv' := [(5, .int x35), (0, va_rf (some a0)), (1, va_rf v1), (2, va_rf v2), (4, .int v4)]) hg 4 dX3_letIn_64 rfl (by rw [e36]; rfl) (by rw [hgN]; decide) rfl ?_
            refine y_goto (tgt := 30) hg dX3_letIn_67 (by decide) ?_
            refine y_sub [1, 2, 3, 4, 0] rfl ?_
            subst hK30
            obtain ⟨n37, h38, h⟩ := h
            exact ih30 n37 h38 _ _ h
        exact key30 n30 v5 σ hI30
      refine y_iload hg 3 dX3_letIn_18 rfl ?_
      refine y_aload_n hg 0 dX3_letIn_20 rfl rfl ?_
      obtain ⟨h12, h⟩ := h
      refine y_getI hg fl_X3_72 rfl rfl h12 dX3_letIn_21 ?_
      refine y_icmp_ge (tgt := 76) hg dX3_letIn_24 (by decide) (fun q13 => ?_) (fun q13 => ?_)
      · replace h := h.1 q13
        refine y_iconst (v := 0) hg dX3_letIn_76 (by decide) ?_
        refine y_istore (lv' := [(4, .int 0), (0, va_rf (some a0)), (1, va_rf v1), (2, va_rf v2)]) hg dX3_letIn_77 (by rw [hgN]; decide) rfl ?_
        refine y_sub [1, 2, 3, 0] rfl ?_
        exact J79 _ _ _ _ h
      · replace h := h.2 q13
        refine y_iconst (v := 0) hg dX3_letIn_27 (by decide) ?_
        refine y_istore (lv' := [(5, .int 0), (0, va_rf (some a0)), (1, va_rf v1), (2, va_rf v2), (4, .int v4)]) hg dX3_letIn_28 (by rw [hgN]; decide) rfl ?_
        refine y_sub [1, 2, 3, 4, 0] rfl ?_
        exact J30 _ _ _ h
    exact key18 n18 v4 σ hI18
  refine y_aload_n hg 0 dX3_letIn_0 rfl rfl ?_
  refine y_iload_n hg 3 dX3_letIn_1 rfl rfl ?_
  refine y_aload_n hg 2 dX3_letIn_2 rfl rfl ?_
  obtain ⟨c1, h2, h⟩ := h
  obtain ⟨h3, h⟩ := h
  refine y_alen hg h2 h3 (by decide) (by decide) dX3_letIn_3 ?_
  refine y_bipush (v := 30) hg dX3_letIn_4 (by decide) ?_
  refine y_mmin hg mm_X3_39 (cat8 (Nat.le_of_ble_eq_true rfl)) hrm ⟨Nat.le_of_ble_eq_true rfl, Nat.le_of_ble_eq_true rfl⟩ dX3_letIn_6 ?_
  refine y_nmI (fun x4 e5 => ?_)
  replace h := h x4 e5
  refine y_mmin hg mm_X3_39 (cat8 (Nat.le_of_ble_eq_true rfl)) hrm ⟨Nat.le_of_ble_eq_true rfl, Nat.le_of_ble_eq_true rfl⟩ dX3_letIn_9 ?_
  refine y_nmI (fun x6 e7 => ?_)
  replace h := h x6 e7
  obtain ⟨h8, h⟩ := h
  refine y_putI hg fw_X3_72 (fun z => nomatch z) rfl h8 dX3_letIn_12 ?_
  refine y_nmS (fun σ9 e10 => ?_)
  replace h := h σ9 e10
  have E11 : sK σ9 = sK σ := by rw [e10]; rfl
  refine y_iconst (v := 0) hg dX3_letIn_15 (by decide) ?_
  refine y_istore (lv' := [(4, .int 0), (0, va_rf (some a0)), (1, va_rf v1), (2, va_rf v2), (3, .int v3)]) hg dX3_letIn_16 (by rw [hgN]; decide) rfl ?_
  refine y_sub [1, 2, 3, 0] rfl ?_
  exact J18 _ _ _ _ h
def P_X5_start (a0 : Nat) (v1 : Int32) (σ : Sg) (Q : Unit → Sg → Prop) : Prop :=
  sK σ a0 % 32 = 7 ∧ bz v1 ∧ ∀ σ3 : Sg, σ3 = pI σ a0 6 v1 → ∀ σ6 : Sg, σ6 = pI σ3 a0 7 0 → ∀ σ9 : Sg, σ9 = pI σ6 a0 8 0 → ∀ σ12 : Sg, σ12 = pI σ9 a0 9 0 → ∀ σ15 : Sg, σ15 = pI σ12 a0 11 0 → ∀ σ18 : Sg, σ18 = pI σ15 a0 12 0 → ∀ σ21 : Sg, σ21 = pI σ18 a0 13 0 → ∀ σ24 : Sg, σ24 = pI σ21 a0 14 0 → Q () σ24
set_option maxHeartbeats 4000000 in
set_option maxRecDepth 100000 in
theorem k_X5_start (l : Launch) (D : Dg) (a0 : Nat) (v1 : Int32) (σ : Sg) (Q : Unit → Sg → Prop) (h : P_X5_start a0 v1 σ Q) : CtrY RN l D yX5_start cX5_start 2 (none) 0 0 mkV [.ref a0, .int v1] σ (0, 0) Q := by
  refine y_ctrN (lv := [(0, va_rf (some a0)), (1, .int v1)]) (by decide) (by (exact Nat.le_of_ble_eq_true rfl)) (by (exact rfl)) (fun g hg hgL hgD hrm hgN hgI hend => ?_)
  subst hgD
  clear hgL
  unfold P_X5_start at h
  refine y_aload_n hg 0 dX5_start_0 rfl rfl ?_
  refine y_iload_n hg 1 dX5_start_1 rfl rfl ?_
  obtain ⟨h1, h⟩ := h
  obtain ⟨h2, h⟩ := h
  refine y_putZ hg fw_X5_48 (fun z => nomatch z) rfl h1 h2 dX5_start_2 ?_
  refine y_nmS (fun σ3 e4 => ?_)
  replace h := h σ3 e4
  have E5 : sK σ3 = sK σ := by rw [e4]; rfl
  refine y_aload_n hg 0 dX5_start_5 rfl rfl ?_
  refine y_iconst (v := 0) hg dX5_start_6 (by decide) ?_
  refine y_putI hg fw_X5_52 (fun z => nomatch z) rfl (kq E5 h1) dX5_start_7 ?_
  refine y_nmS (fun σ6 e7 => ?_)
  replace h := h σ6 e7
  have E8 : sK σ6 = sK σ3 := by rw [e7]; rfl
  refine y_aload_n hg 0 dX5_start_10 rfl rfl ?_
  refine y_iconst (v := 0) hg dX5_start_11 (by decide) ?_
  refine y_putI hg fw_X5_55 (fun z => nomatch z) rfl (kq E8 (kq E5 h1)) dX5_start_12 ?_
  refine y_nmS (fun σ9 e10 => ?_)
  replace h := h σ9 e10
  have E11 : sK σ9 = sK σ6 := by rw [e10]; rfl
  refine y_aload_n hg 0 dX5_start_15 rfl rfl ?_
  refine y_iconst (v := 0) hg dX5_start_16 (by decide) ?_
  refine y_putI hg fw_X5_58 (fun z => nomatch z) rfl (kq E11 (kq E8 (kq E5 h1))) dX5_start_17 ?_
  refine y_nmS (fun σ12 e13 => ?_)
  replace h := h σ12 e13
  have E14 : sK σ12 = sK σ9 := by rw [e13]; rfl
  refine y_aload_n hg 0 dX5_start_20 rfl rfl ?_
  refine y_iconst (v := 0) hg dX5_start_21 (by decide) ?_
  refine y_putI hg fw_X5_61 (fun z => nomatch z) rfl (kq E14 (kq E11 (kq E8 (kq E5 h1)))) dX5_start_22 ?_
  refine y_nmS (fun σ15 e16 => ?_)
  replace h := h σ15 e16
  have E17 : sK σ15 = sK σ12 := by rw [e16]; rfl
  refine y_aload_n hg 0 dX5_start_25 rfl rfl ?_
  refine y_iconst (v := 0) hg dX5_start_26 (by decide) ?_
  refine y_putI hg fw_X5_64 (fun z => nomatch z) rfl (kq E17 (kq E14 (kq E11 (kq E8 (kq E5 h1))))) dX5_start_27 ?_
  refine y_nmS (fun σ18 e19 => ?_)
  replace h := h σ18 e19
  have E20 : sK σ18 = sK σ15 := by rw [e19]; rfl
  refine y_aload_n hg 0 dX5_start_30 rfl rfl ?_
  refine y_iconst (v := 0) hg dX5_start_31 (by decide) ?_
  refine y_putI hg fw_X5_67 (fun z => nomatch z) rfl (kq E20 (kq E17 (kq E14 (kq E11 (kq E8 (kq E5 h1)))))) dX5_start_32 ?_
  refine y_nmS (fun σ21 e22 => ?_)
  replace h := h σ21 e22
  have E23 : sK σ21 = sK σ18 := by rw [e22]; rfl
  refine y_aload_n hg 0 dX5_start_35 rfl rfl ?_
  refine y_iconst (v := 0) hg dX5_start_36 (by decide) ?_
  refine y_putI hg fw_X5_70 (fun z => nomatch z) rfl (kq E23 (kq E20 (kq E17 (kq E14 (kq E11 (kq E8 (kq E5 h1))))))) dX5_start_37 ?_
  refine y_nmS (fun σ24 e25 => ?_)
  replace h := h σ24 e25
  have E26 : sK σ24 = sK σ21 := by rw [e25]; rfl
  exact yEndV hend dX5_start_40 h
def P_X5_soak_B70 (a0 : Nat) (v4 : Int32) (w0 : Int32) (w1 : Int32) (σ : Sg) (Q : Int32 → Sg → Prop) : Prop :=
  ∀ x9 : Int32, x9 = (if w1 < w0 then w1 else w0) → sK σ a0 % 32 = 7 ∧ ∀ σ12 : Sg, σ12 = pI σ a0 7 ((sI σ a0 7) + (v4 - x9)) → ∀ σ15 : Sg, σ15 = pI σ12 a0 11 ((sI σ12 a0 11) + x9) → Q v4 σ15
def P_X5_soak_B38 (a0 : Nat) (v2 : Int32) (w0 : Int32) (w1 : Int32) (σ : Sg) (Q : Int32 → Sg → Prop) : Prop :=
  sK σ a0 % 32 = 7 ∧ ∀ x6 : Int32, x6 = (if (w1 - (sI σ a0 7)) < w0 then (w1 - (sI σ a0 7)) else w0) → ((sI σ a0 6) = 0 → P_X5_soak_B70 a0 x6 ((sI σ a0 7) + x6) (sI σ a0 4) σ Q) ∧ (¬ ((sI σ a0 6) = 0) → P_X5_soak_B70 a0 x6 ((sI σ a0 7) + x6) v2 σ Q)
def P_X5_soak_B20 (a0 : Nat) (v2 : Int32) (w0 : Int32) (σ : Sg) (Q : Int32 → Sg → Prop) : Prop :=
  sK σ a0 % 32 = 7 ∧ ((sI σ a0 6) = 0 → P_X5_soak_B38 a0 v2 w0 (sI σ a0 3) σ Q) ∧ (¬ ((sI σ a0 6) = 0) → P_X5_soak_B38 a0 v2 w0 100 σ Q)
def P_X5_soak (a0 : Nat) (v1 : Int32) (v2 : Int32) (σ : Sg) (Q : Int32 → Sg → Prop) : Prop :=
  sK σ a0 % 32 = 7 ∧ ((sI σ a0 6) = 0 → P_X5_soak_B20 a0 v2 ((v1 * (sI σ a0 5)) / 10) σ Q) ∧ (¬ ((sI σ a0 6) = 0) → P_X5_soak_B20 a0 v2 v1 σ Q)
set_option maxHeartbeats 4000000 in
set_option maxRecDepth 100000 in
theorem k_X5_soak (l : Launch) (D : Dg) (a0 : Nat) (v1 : Int32) (v2 : Int32) (σ : Sg) (Q : Int32 → Sg → Prop) (h : P_X5_soak a0 v1 v2 σ Q) : CtrY RN l D yX5_soak cX5_soak 6 (some FieldType.int) 1 30 mkI [.ref a0, .int v1, .int v2] σ (0, 0) Q := by
  refine y_ctrN (lv := [(0, va_rf (some a0)), (1, .int v1), (2, .int v2)]) (by decide) (by (exact Nat.le_of_ble_eq_true rfl)) (by (exact rfl)) (fun g hg hgL hgD hrm hgN hgI hend => ?_)
  subst hgD
  clear hgL
  unfold P_X5_soak at h
  have J70 : ∀ (v4 : Int32) (w0 : Int32) (w1 : Int32) (σ : Sg), P_X5_soak_B70 a0 v4 w0 w1 σ Q → XA g 70 [(0, va_rf (some a0)), (4, .int v4)] [.int w1, .int w0] σ (0, 0) := by
    intro v4 w0 w1 σ h
    unfold P_X5_soak_B70 at h
    refine y_mmin hg mm_X5_73 (cat8 (Nat.le_of_ble_eq_true rfl)) hrm ⟨Nat.le_of_ble_eq_true rfl, Nat.le_of_ble_eq_true rfl⟩ dX5_soak_70 ?_
    refine y_nmI (fun x9 e10 => ?_)
    replace h := h x9 e10
    refine y_istore (lv' := [(5, .int x9), (0, va_rf (some a0)), (4, .int v4)]) hg dX5_soak_73 (by rw [hgN]; decide) rfl ?_
    refine y_aload_n hg 1 dX5_soak_75 rfl rfl ?_
    refine y_dup hg dX5_soak_76 rfl ?_
    obtain ⟨h11, h⟩ := h
    refine y_getI hg fl_X5_52 rfl rfl h11 dX5_soak_77 ?_
    refine y_iload hg 2 dX5_soak_80 rfl ?_
    refine y_iload hg 0 dX5_soak_82 rfl ?_
    refine y_isub hg dX5_soak_84 ?_
    refine y_iadd hg dX5_soak_85 ?_
    refine y_putI hg fw_X5_52 (fun z => nomatch z) rfl h11 dX5_soak_86 ?_
    refine y_nmS (fun σ12 e13 => ?_)
    replace h := h σ12 e13
    have E14 : sK σ12 = sK σ := by rw [e13]; rfl
    refine y_aload_n hg 1 dX5_soak_89 rfl rfl ?_
    refine y_dup hg dX5_soak_90 rfl ?_
    refine y_getI hg fl_X5_61 rfl rfl (kq E14 h11) dX5_soak_91 ?_
    refine y_iload hg 0 dX5_soak_94 rfl ?_
    refine y_iadd hg dX5_soak_96 ?_
    refine y_putI hg fw_X5_61 (fun z => nomatch z) rfl (kq E14 h11) dX5_soak_97 ?_
    refine y_nmS (fun σ15 e16 => ?_)
    replace h := h σ15 e16
    have E17 : sK σ15 = sK σ12 := by rw [e16]; rfl
    refine y_iload hg 2 dX5_soak_100 rfl ?_
    exact yEndI hend rfl dX5_soak_102 h
  have J38 : ∀ (v2 : Int32) (w0 : Int32) (w1 : Int32) (σ : Sg), P_X5_soak_B38 a0 v2 w0 w1 σ Q → XA g 38 [(0, va_rf (some a0)), (2, .int v2)] [.int w1, .int w0] σ (0, 0) := by
    intro v2 w0 w1 σ h
    unfold P_X5_soak_B38 at h
    refine y_aload_n hg 0 dX5_soak_38 rfl rfl ?_
    obtain ⟨h5, h⟩ := h
    refine y_getI hg fl_X5_52 rfl rfl h5 dX5_soak_39 ?_
    refine y_isub hg dX5_soak_42 ?_
    refine y_mmin hg mm_X5_73 (cat8 (Nat.le_of_ble_eq_true rfl)) hrm ⟨Nat.le_of_ble_eq_true rfl, Nat.le_of_ble_eq_true rfl⟩ dX5_soak_43 ?_
    refine y_nmI (fun x6 e7 => ?_)
    replace h := h x6 e7
    refine y_istore (lv' := [(4, .int x6), (0, va_rf (some a0)), (2, .int v2)]) hg dX5_soak_46 (by rw [hgN]; decide) rfl ?_
    refine y_aload_n hg 1 dX5_soak_48 rfl rfl ?_
    refine y_getI hg fl_X5_52 rfl rfl h5 dX5_soak_49 ?_
    refine y_iload hg 0 dX5_soak_52 rfl ?_
    refine y_iadd hg dX5_soak_54 ?_
    refine y_aload_n hg 1 dX5_soak_55 rfl rfl ?_
    refine y_getI hg fl_X5_48 rfl rfl h5 dX5_soak_56 ?_
    refine y_if_eq (tgt := 66) hg dX5_soak_59 (by decide) (fun q8 => ?_) (fun q8 => ?_)
    · replace h := h.1 q8
      refine y_aload_n hg 1 dX5_soak_66 rfl rfl ?_
      refine y_getI hg fl_X5_40 rfl rfl h5 dX5_soak_67 ?_
      refine y_sub [1, 0] rfl ?_
      exact J70 _ _ _ _ h
    · replace h := h.2 q8
      refine y_iload_n hg 2 dX5_soak_62 rfl rfl ?_
      refine y_goto (tgt := 70) hg dX5_soak_63 (by decide) ?_
      refine y_sub [1, 0] rfl ?_
      exact J70 _ _ _ _ h
  have J20 : ∀ (v2 : Int32) (w0 : Int32) (σ : Sg), P_X5_soak_B20 a0 v2 w0 σ Q → XA g 20 [(0, va_rf (some a0)), (2, .int v2)] [.int w0] σ (0, 0) := by
    intro v2 w0 σ h
    unfold P_X5_soak_B20 at h
    refine y_istore_n (lv' := [(3, .int w0), (0, va_rf (some a0)), (2, .int v2)]) hg dX5_soak_20 rfl (by rw [hgN]; decide) rfl ?_
    refine y_iload_n hg 0 dX5_soak_21 rfl rfl ?_
    refine y_aload_n hg 1 dX5_soak_22 rfl rfl ?_
    obtain ⟨h3, h⟩ := h
    refine y_getI hg fl_X5_48 rfl rfl h3 dX5_soak_23 ?_
    refine y_if_eq (tgt := 34) hg dX5_soak_26 (by decide) (fun q4 => ?_) (fun q4 => ?_)
    · replace h := h.1 q4
      refine y_aload_n hg 1 dX5_soak_34 rfl rfl ?_
      refine y_getI hg fl_X5_35 rfl rfl h3 dX5_soak_35 ?_
      refine y_sub [1, 2] rfl ?_
      exact J38 _ _ _ _ h
    · replace h := h.2 q4
      refine y_bipush (v := 100) hg dX5_soak_29 (by decide) ?_
      refine y_goto (tgt := 38) hg dX5_soak_31 (by decide) ?_
      refine y_sub [1, 2] rfl ?_
      exact J38 _ _ _ _ h
  refine y_aload_n hg 0 dX5_soak_0 rfl rfl ?_
  obtain ⟨h1, h⟩ := h
  refine y_getI hg fl_X5_48 rfl rfl h1 dX5_soak_1 ?_
  refine y_if_eq (tgt := 11) hg dX5_soak_4 (by decide) (fun q2 => ?_) (fun q2 => ?_)
  · replace h := h.1 q2
    refine y_iload_n hg 1 dX5_soak_11 rfl rfl ?_
    refine y_aload_n hg 0 dX5_soak_12 rfl rfl ?_
    refine y_getI hg fl_X5_45 rfl rfl h1 dX5_soak_13 ?_
    refine y_imul hg dX5_soak_16 ?_
    refine y_bipush (v := 10) hg dX5_soak_17 (by decide) ?_
    refine y_idiv hg dX5_soak_19 (by decide) ?_
    refine y_sub [0, 2] rfl ?_
    exact J20 _ _ _ h
  · replace h := h.2 q2
    refine y_iload_n hg 1 dX5_soak_7 rfl rfl ?_
    refine y_goto (tgt := 20) hg dX5_soak_8 (by decide) ?_
    refine y_sub [0, 2] rfl ?_
    exact J20 _ _ _ h
def P_X5_minute_B162 (a0 : Nat) (w0 : Option Nat) (w1 : Int32) (w2 : Int32) (σ : Sg) (Q : Unit → Sg → Prop) : Prop :=
  ∃ c54 : Nat, w0 = some c54 ∧ sK σ c54 % 32 = 7 ∧ ∀ σ57 : Sg, σ57 = pI σ c54 14 (w1 + w2) → sK σ57 a0 % 32 = 7 ∧ ∀ σ61 : Sg, σ61 = pI σ57 a0 8 0 → ∀ σ64 : Sg, σ64 = pI σ61 a0 9 0 → Q () σ64
def P_X5_minute_B161 (a0 : Nat) (w0 : Option Nat) (w1 : Int32) (σ : Sg) (Q : Unit → Sg → Prop) : Prop :=
  P_X5_minute_B162 a0 w0 w1 0 σ Q
def P_X5_minute_B106 (a0 : Nat) (v5 : Int32) (v6 : Int32) (v7 : Int32) (w0 : Option Nat) (w1 : Int32) (σ : Sg) (Q : Unit → Sg → Prop) : Prop :=
  ∃ c37 : Nat, w0 = some c37 ∧ sK σ c37 % 32 = 7 ∧ ∀ σ40 : Sg, σ40 = pI σ c37 10 w1 → sK σ40 a0 % 32 = 7 ∧ ∀ σ44 : Sg, σ44 = pI σ40 a0 12 ((sI σ40 a0 12) + (v6 - v7)) → ∀ x47 : Int32, x47 = (if (sI σ44 a0 13) < v5 then v5 else (sI σ44 a0 13)) → ∀ σ49 : Sg, σ49 = pI σ44 a0 13 x47 → ((sI σ49 a0 1) ≤ 0 → P_X5_minute_B161 a0 (some a0) (sI σ49 a0 14) σ49 Q) ∧ (¬ ((sI σ49 a0 1) ≤ 0) → (v6 ≤ (sI σ49 a0 1) → P_X5_minute_B161 a0 (some a0) (sI σ49 a0 14) σ49 Q) ∧ (¬ (v6 ≤ (sI σ49 a0 1)) → P_X5_minute_B162 a0 (some a0) (sI σ49 a0 14) 1 σ49 Q))
def P_X5_minute_B92 (a0 : Nat) (v5 : Int32) (v6 : Int32) (v7 : Int32) (σ : Sg) (Q : Unit → Sg → Prop) : Prop :=
  sK σ a0 % 32 = 7 ∧ (sR σ a0 2 = none → P_X5_minute_B106 a0 v5 v6 v7 (some a0) v5 σ Q) ∧ (∀ c34 : Nat, sR σ a0 2 = some c34 → P_X5_minute_B106 a0 v5 v6 v7 (some a0) 0 σ Q)
def P_X5_minute_B55 (a0 : Nat) (v5 : Int32) (v6 : Int32) (w0 : Int32) (σ : Sg) (Q : Unit → Sg → Prop) : Prop :=
  sK σ a0 % 32 = 7 ∧ (sR σ a0 2 = none → P_X5_minute_B92 a0 v5 v6 w0 σ Q) ∧ (∀ c18 : Nat, sR σ a0 2 = some c18 → ∃ c21 : Nat, sR σ a0 2 = some c21 ∧ sK σ c21 % 32 = 7 ∧ ∀ σ24 : Sg, σ24 = pI σ c21 9 ((sI σ c21 9) + v5) → ∃ c27 : Nat, sR σ24 a0 2 = some c27 ∧ sK σ24 c27 % 32 = 7 ∧ ∀ σ30 : Sg, σ30 = pI σ24 c27 8 ((sI σ24 c27 8) + w0) → P_X5_minute_B92 a0 v5 v6 w0 σ30 Q)
def P_X5_minute (a0 : Nat) (v1 : Int32) (v2 : Int32) (σ : Sg) (Q : Unit → Sg → Prop) : Prop :=
  sK σ a0 % 32 = 7 ∧ ∀ x2 : Int32, x2 = v1 + (sI σ a0 8) → P_X5_soak a0 x2 v2 σ (fun x4 σ5 => ∀ x8 : Int32, x8 = (x2 - x4) + (sI σ5 a0 9) → ∀ x10 : Int32, x10 = (if (sI σ5 a0 0) < x8 then (sI σ5 a0 0) else x8) → ∀ x12 : Int32, x12 = x8 - x10 → (sR σ5 a0 2 = none → P_X5_minute_B55 a0 x10 x12 0 σ5 Q) ∧ (∀ c14 : Nat, sR σ5 a0 2 = some c14 → P_X5_minute_B55 a0 x10 x12 (x12 / 2) σ5 Q))
set_option maxHeartbeats 4000000 in
set_option maxRecDepth 100000 in
theorem k_X5_minute (l : Launch) (D : Dg) (a0 : Nat) (v1 : Int32) (v2 : Int32) (σ : Sg) (Q : Unit → Sg → Prop) (h : P_X5_minute a0 v1 v2 σ Q) : CtrY RN l D yX5_minute cX5_minute 8 (none) 2 55 mkV [.ref a0, .int v1, .int v2] σ (0, 0) Q := by
  refine y_ctrN (lv := [(0, va_rf (some a0)), (1, .int v1), (2, .int v2)]) (by decide) (by (exact Nat.le_of_ble_eq_true rfl)) (by (exact rfl)) (fun g hg hgL hgD hrm hgN hgI hend => ?_)
  subst hgD
  clear hgL
  unfold P_X5_minute at h
  have J162 : ∀ (w0 : Option Nat) (w1 : Int32) (w2 : Int32) (σ : Sg), P_X5_minute_B162 a0 w0 w1 w2 σ Q → XA g 162 [(0, va_rf (some a0))] [.int w2, .int w1, va_rf w0] σ (0, 0) := by
    intro w0 w1 w2 σ h
    unfold P_X5_minute_B162 at h
    refine y_iadd hg dX5_minute_162 ?_
    obtain ⟨c54, h55, h⟩ := h
    obtain ⟨h56, h⟩ := h
    refine y_putI hg fw_X5_70 (fun z => nomatch z) h55 h56 dX5_minute_163 ?_
    refine y_nmS (fun σ57 e58 => ?_)
    replace h := h σ57 e58
    have E59 : sK σ57 = sK σ := by rw [e58]; rfl
    refine y_aload_n hg 0 dX5_minute_166 rfl rfl ?_
    refine y_iconst (v := 0) hg dX5_minute_167 (by decide) ?_
    obtain ⟨h60, h⟩ := h
    refine y_putI hg fw_X5_55 (fun z => nomatch z) rfl h60 dX5_minute_168 ?_
    refine y_nmS (fun σ61 e62 => ?_)
    replace h := h σ61 e62
    have E63 : sK σ61 = sK σ57 := by rw [e62]; rfl
    refine y_aload_n hg 0 dX5_minute_171 rfl rfl ?_
    refine y_iconst (v := 0) hg dX5_minute_172 (by decide) ?_
    refine y_putI hg fw_X5_58 (fun z => nomatch z) rfl (kq E63 h60) dX5_minute_173 ?_
    refine y_nmS (fun σ64 e65 => ?_)
    replace h := h σ64 e65
    have E66 : sK σ64 = sK σ61 := by rw [e65]; rfl
    exact yEndV hend dX5_minute_176 h
  have J161 : ∀ (w0 : Option Nat) (w1 : Int32) (σ : Sg), P_X5_minute_B161 a0 w0 w1 σ Q → XA g 161 [(0, va_rf (some a0))] [.int w1, va_rf w0] σ (0, 0) := by
    intro w0 w1 σ h
    unfold P_X5_minute_B161 at h
    refine y_iconst (v := 0) hg dX5_minute_161 (by decide) ?_
    refine y_sub [0] rfl ?_
    exact J162 _ _ _ _ h
  have J106 : ∀ (v5 : Int32) (v6 : Int32) (v7 : Int32) (w0 : Option Nat) (w1 : Int32) (σ : Sg), P_X5_minute_B106 a0 v5 v6 v7 w0 w1 σ Q → XA g 106 [(0, va_rf (some a0)), (5, .int v5), (6, .int v6), (7, .int v7)] [.int w1, va_rf w0] σ (0, 0) := by
    intro v5 v6 v7 w0 w1 σ h
    unfold P_X5_minute_B106 at h
    obtain ⟨c37, h38, h⟩ := h
    obtain ⟨h39, h⟩ := h
    refine y_putI hg fw_X5_82 (fun z => nomatch z) h38 h39 dX5_minute_106 ?_
    refine y_nmS (fun σ40 e41 => ?_)
    replace h := h σ40 e41
    have E42 : sK σ40 = sK σ := by rw [e41]; rfl
    refine y_aload_n hg 0 dX5_minute_109 rfl rfl ?_
    refine y_dup hg dX5_minute_110 rfl ?_
    obtain ⟨h43, h⟩ := h
    refine y_getI hg fl_X5_64 rfl rfl h43 dX5_minute_111 ?_
    refine y_iload hg 2 dX5_minute_114 rfl ?_
    refine y_iload hg 3 dX5_minute_116 rfl ?_
    refine y_isub hg dX5_minute_118 ?_
    refine y_iadd hg dX5_minute_119 ?_
    refine y_putI hg fw_X5_64 (fun z => nomatch z) rfl h43 dX5_minute_120 ?_
    refine y_nmS (fun σ44 e45 => ?_)
    replace h := h σ44 e45
    have E46 : sK σ44 = sK σ40 := by rw [e45]; rfl
    refine y_aload_n hg 0 dX5_minute_123 rfl rfl ?_
    refine y_aload_n hg 0 dX5_minute_124 rfl rfl ?_
    refine y_getI hg fl_X5_67 rfl rfl (kq E46 h43) dX5_minute_125 ?_
    refine y_iload hg 1 dX5_minute_128 rfl ?_
    refine y_mmax hg mm_X5_85 (cat8 (Nat.le_of_ble_eq_true rfl)) hrm ⟨Nat.le_of_ble_eq_true rfl, Nat.le_of_ble_eq_true rfl⟩ dX5_minute_130 ?_
    refine y_nmI (fun x47 e48 => ?_)
    replace h := h x47 e48
    refine y_putI hg fw_X5_67 (fun z => nomatch z) rfl (kq E46 h43) dX5_minute_133 ?_
    refine y_nmS (fun σ49 e50 => ?_)
    replace h := h σ49 e50
    have E51 : sK σ49 = sK σ44 := by rw [e50]; rfl
    refine y_aload_n hg 0 dX5_minute_136 rfl rfl ?_
    refine y_dup hg dX5_minute_137 rfl ?_
    refine y_getI hg fl_X5_70 rfl rfl (kq E51 (kq E46 h43)) dX5_minute_138 ?_
    refine y_aload_n hg 0 dX5_minute_141 rfl rfl ?_
    refine y_getI hg fl_X5_21 rfl rfl (kq E51 (kq E46 h43)) dX5_minute_142 ?_
    refine y_if_le (tgt := 161) hg dX5_minute_145 (by decide) (fun q52 => ?_) (fun q52 => ?_)
    · replace h := h.1 q52
      refine y_sub [0] rfl ?_
      exact J161 _ _ _ h
    · replace h := h.2 q52
      refine y_iload hg 2 dX5_minute_148 rfl ?_
      refine y_aload_n hg 0 dX5_minute_150 rfl rfl ?_
      refine y_getI hg fl_X5_21 rfl rfl (kq E51 (kq E46 h43)) dX5_minute_151 ?_
      refine y_icmp_le (tgt := 161) hg dX5_minute_154 (by decide) (fun q53 => ?_) (fun q53 => ?_)
      · replace h := h.1 q53
        refine y_sub [0] rfl ?_
        exact J161 _ _ _ h
      · replace h := h.2 q53
        refine y_iconst (v := 1) hg dX5_minute_157 (by decide) ?_
        refine y_goto (tgt := 162) hg dX5_minute_158 (by decide) ?_
        refine y_sub [0] rfl ?_
        exact J162 _ _ _ _ h
  have J92 : ∀ (v5 : Int32) (v6 : Int32) (v7 : Int32) (σ : Sg), P_X5_minute_B92 a0 v5 v6 v7 σ Q → XA g 92 [(0, va_rf (some a0)), (5, .int v5), (6, .int v6), (7, .int v7)] [] σ (0, 0) := by
    intro v5 v6 v7 σ h
    unfold P_X5_minute_B92 at h
    refine y_aload_n hg 0 dX5_minute_92 rfl rfl ?_
    refine y_aload_n hg 0 dX5_minute_93 rfl rfl ?_
    obtain ⟨h33, h⟩ := h
    refine y_getR hg fl_X5_22 rfl rfl h33 dX5_minute_94 ?_
    refine y_ifnonnull (tgt := 105) hg dX5_minute_97 (by decide) (fun c34 h36 => ?_) (fun h35 => ?_)
    · replace h := h.2 c34 h36
      refine y_iconst (v := 0) hg dX5_minute_105 (by decide) ?_
      refine y_sub [0, 1, 2, 3] rfl ?_
      exact J106 _ _ _ _ _ _ h
    · replace h := h.1 h35
      refine y_iload hg 1 dX5_minute_100 rfl ?_
      refine y_goto (tgt := 106) hg dX5_minute_102 (by decide) ?_
      refine y_sub [0, 1, 2, 3] rfl ?_
      exact J106 _ _ _ _ _ _ h
  have J55 : ∀ (v5 : Int32) (v6 : Int32) (w0 : Int32) (σ : Sg), P_X5_minute_B55 a0 v5 v6 w0 σ Q → XA g 55 [(0, va_rf (some a0)), (5, .int v5), (6, .int v6)] [.int w0] σ (0, 0) := by
    intro v5 v6 w0 σ h
    unfold P_X5_minute_B55 at h
    refine y_istore (lv' := [(7, .int w0), (0, va_rf (some a0)), (5, .int v5), (6, .int v6)]) hg dX5_minute_55 (by rw [hgN]; decide) rfl ?_
    refine y_aload_n hg 1 dX5_minute_57 rfl rfl ?_
    obtain ⟨h17, h⟩ := h
    refine y_getR hg fl_X5_22 rfl rfl h17 dX5_minute_58 ?_
    refine y_ifnull (tgt := 92) hg dX5_minute_61 (by decide) (fun h19 => ?_) (fun c18 h20 => ?_)
    · replace h := h.1 h19
      refine y_sub [1, 2, 3, 0] rfl ?_
      exact J92 _ _ _ _ h
    · replace h := h.2 c18 h20
      refine y_aload_n hg 1 dX5_minute_64 rfl rfl ?_
      refine y_getR hg fl_X5_22 rfl rfl h17 dX5_minute_65 ?_
      refine y_dup hg dX5_minute_68 (rf_cat _) ?_
      obtain ⟨c21, h22, h⟩ := h
      obtain ⟨h23, h⟩ := h
      refine y_getI hg fl_X5_58 rfl h22 h23 dX5_minute_69 ?_
      refine y_iload hg 2 dX5_minute_72 rfl ?_
      refine y_iadd hg dX5_minute_74 ?_
      refine y_putI hg fw_X5_58 (fun z => nomatch z) h22 h23 dX5_minute_75 ?_
      refine y_nmS (fun σ24 e25 => ?_)
      replace h := h σ24 e25
      have E26 : sK σ24 = sK σ := by rw [e25]; rfl
      refine y_aload_n hg 1 dX5_minute_78 rfl rfl ?_
      refine y_getR hg fl_X5_22 rfl rfl (kq E26 h17) dX5_minute_79 ?_
      refine y_dup hg dX5_minute_82 (rf_cat _) ?_
      obtain ⟨c27, h28, h⟩ := h
      obtain ⟨h29, h⟩ := h
      refine y_getI hg fl_X5_55 rfl h28 h29 dX5_minute_83 ?_
      refine y_iload hg 0 dX5_minute_86 rfl ?_
      refine y_iadd hg dX5_minute_88 ?_
      refine y_putI hg fw_X5_55 (fun z => nomatch z) h28 h29 dX5_minute_89 ?_
      refine y_nmS (fun σ30 e31 => ?_)
      replace h := h σ30 e31
      have E32 : sK σ30 = sK σ24 := by rw [e31]; rfl
      refine y_sub [1, 2, 3, 0] rfl ?_
      exact J92 _ _ _ _ h
  refine y_iload_n hg 1 dX5_minute_0 rfl rfl ?_
  refine y_aload_n hg 0 dX5_minute_1 rfl rfl ?_
  obtain ⟨h1, h⟩ := h
  refine y_getI hg fl_X5_55 rfl rfl h1 dX5_minute_2 ?_
  refine y_iadd hg dX5_minute_5 ?_
  refine y_nmI (fun x2 e3 => ?_)
  replace h := h x2 e3
  refine y_istore_n (lv' := [(3, .int x2), (0, va_rf (some a0)), (1, .int v1), (2, .int v2)]) hg dX5_minute_6 rfl (by rw [hgN]; decide) rfl ?_
  refine y_iload_n hg 0 dX5_minute_7 rfl rfl ?_
  refine y_aload_n hg 1 dX5_minute_8 rfl rfl ?_
  refine y_iload_n hg 0 dX5_minute_9 rfl rfl ?_
  refine y_iload_n hg 3 dX5_minute_10 rfl rfl ?_
  refine yVIW (Qm := _) (rest := [.int x2]) (As := [.int x2, .int v2]) hg (k_X5_soak (gL g.1) (gD g.1) a0 x2 v2 σ _ h) lv_X5_79 rfl h1 rfl rfl dX5_minute_11 (cat8 (Nat.le_of_ble_eq_true rfl)) hrm ⟨Nat.le_of_ble_eq_true rfl, Nat.le_of_ble_eq_true rfl⟩ (fun x4 σ5 h h6 => ?_)
  have h7 := kp h6 (show ¬ 7 = 0 by decide) h1
  refine y_isub hg dX5_minute_14 ?_
  refine y_aload_n hg 1 dX5_minute_15 rfl rfl ?_
  refine y_getI hg fl_X5_58 rfl rfl h7 dX5_minute_16 ?_
  refine y_iadd hg dX5_minute_19 ?_
  refine y_nmI (fun x8 e9 => ?_)
  replace h := h x8 e9
  refine y_istore (lv' := [(4, .int x8), (3, .int x2), (0, va_rf (some a0)), (1, .int v1), (2, .int v2)]) hg dX5_minute_20 (by rw [hgN]; decide) rfl ?_
  refine y_iload hg 0 dX5_minute_22 rfl ?_
  refine y_aload_n hg 2 dX5_minute_24 rfl rfl ?_
  refine y_getI hg fl_X5_15 rfl rfl h7 dX5_minute_25 ?_
  refine y_mmin hg mm_X5_73 (cat8 (Nat.le_of_ble_eq_true rfl)) hrm ⟨Nat.le_of_ble_eq_true rfl, Nat.le_of_ble_eq_true rfl⟩ dX5_minute_28 ?_
  refine y_nmI (fun x10 e11 => ?_)
  replace h := h x10 e11
  refine y_istore (lv' := [(5, .int x10), (4, .int x8), (3, .int x2), (0, va_rf (some a0)), (1, .int v1), (2, .int v2)]) hg dX5_minute_31 (by rw [hgN]; decide) rfl ?_
  refine y_iload hg 1 dX5_minute_33 rfl ?_
  refine y_iload hg 0 dX5_minute_35 rfl ?_
  refine y_isub hg dX5_minute_37 ?_
  refine y_nmI (fun x12 e13 => ?_)
  replace h := h x12 e13
  refine y_istore (lv' := [(6, .int x12), (5, .int x10), (4, .int x8), (3, .int x2), (0, va_rf (some a0)), (1, .int v1), (2, .int v2)]) hg dX5_minute_38 (by rw [hgN]; decide) rfl ?_
  refine y_aload_n hg 4 dX5_minute_40 rfl rfl ?_
  refine y_getR hg fl_X5_22 rfl rfl h7 dX5_minute_41 ?_
  refine y_ifnonnull (tgt := 51) hg dX5_minute_44 (by decide) (fun c14 h16 => ?_) (fun h15 => ?_)
  · replace h := h.2 c14 h16
    refine y_iload hg 0 dX5_minute_51 rfl ?_
    refine y_iconst (v := 2) hg dX5_minute_53 (by decide) ?_
    refine y_idiv hg dX5_minute_54 (by decide) ?_
    refine y_sub [4, 1, 0] rfl ?_
    exact J55 _ _ _ _ h
  · replace h := h.1 h15
    refine y_iconst (v := 0) hg dX5_minute_47 (by decide) ?_
    refine y_goto (tgt := 55) hg dX5_minute_48 (by decide) ?_
    refine y_sub [4, 1, 0] rfl ?_
    exact J55 _ _ _ _ h
def P_X3_run_L60b (a0 : Nat) (v2 : Int32) (v3 : Int32) (v4 : Int32) (σ : Sg) (Q : Unit → Sg → Prop) (K47 : Int32 → Sg → Prop) (K60 : Int32 → Int32 → Sg → Prop) : Prop :=
  sK σ a0 % 32 = 5 ∧ ((sI σ a0 6) ≤ v4 → ∀ σ30 : Sg, σ30 = pI σ a0 1 ((sI σ a0 1) + v3) → ∀ x33 : Int32, x33 = (if (sI σ30 a0 2) < v3 then v3 else (sI σ30 a0 2)) → ∀ σ35 : Sg, σ35 = pI σ30 a0 2 x33 → ∀ x38 : Int32, x38 = v2 + 1 → K47 x38 σ35) ∧ (¬ ((sI σ a0 6) ≤ v4) → ∃ c42 : Nat, sR σ a0 0 = some c42 ∧ sK σ c42 % 32 = 1 ∧ P_Jx4a65c_get_915e3 c42 v4 σ (fun r45 => ∃ c46 : Nat, r45 = some c46 ∧ sK σ c46 % 32 = 7 ∧ ∃ c49 : Nat, sR σ a0 3 = some c49 ∧ sK σ c49 % 32 = 16 ∧ vp_in ((v2 * 12) + v4) (sN σ c49) ∧ P_X5_minute c46 (sI σ c49 ((v2 * 12) + v4).toNatClampNeg) (sI σ a0 8) σ (fun _ σ54 => ∀ x58 : Int32, x58 = v3 + (sI σ54 c46 10) → ∀ x60 : Int32, x60 = v4 + 1 → K60 x58 x60 σ54)))
def P_X3_run_L60 (a0 : Nat) (v2 : Int32) (v3 : Int32) (v4 : Int32) (σ : Sg) (Q : Unit → Sg → Prop) (K47 : Int32 → Sg → Prop) : Prop :=
  ∃ I : Nat → Int32 → Int32 → Sg → Prop, (∃ n, I n v3 v4 σ) ∧ ∀ (n : Nat) (v3 : Int32) (v4 : Int32) (σ : Sg), I n v3 v4 σ → P_X3_run_L60b a0 v2 v3 v4 σ Q K47 (fun v3 v4 σ => ∃ n', n' < n ∧ I n' v3 v4 σ)
def P_X3_run_L47b (a0 : Nat) (v2 : Int32) (σ : Sg) (Q : Unit → Sg → Prop) (K47 : Int32 → Sg → Prop) : Prop :=
  sK σ a0 % 32 = 5 ∧ ((sI σ a0 7) ≤ v2 → Q () σ) ∧ (¬ ((sI σ a0 7) ≤ v2) → P_X3_run_L60 a0 v2 0 0 σ Q K47)
def P_X3_run_L47 (a0 : Nat) (v2 : Int32) (σ : Sg) (Q : Unit → Sg → Prop) : Prop :=
  ∃ I : Nat → Int32 → Sg → Prop, (∃ n, I n v2 σ) ∧ ∀ (n : Nat) (v2 : Int32) (σ : Sg), I n v2 σ → P_X3_run_L47b a0 v2 σ Q (fun v2 σ => ∃ n', n' < n ∧ I n' v2 σ)
def P_X3_run_L12b (a0 : Nat) (v1 : Int32) (v2 : Int32) (σ : Sg) (Q : Unit → Sg → Prop) (K12 : Int32 → Sg → Prop) : Prop :=
  sK σ a0 % 32 = 5 ∧ ((sI σ a0 6) ≤ v2 → P_X3_run_L47 a0 0 σ Q) ∧ (¬ ((sI σ a0 6) ≤ v2) → ∃ c10 : Nat, sR σ a0 0 = some c10 ∧ sK σ c10 % 32 = 1 ∧ P_Jx4a65c_get_915e3 c10 v2 σ (fun r13 => ∃ c14 : Nat, r13 = some c14 ∧ sK σ c14 % 32 = 7 ∧ P_X10_holds v1 v2 σ (fun x17 => P_X5_start c14 x17 σ (fun _ σ19 => ∀ x22 : Int32, x22 = v2 + 1 → K12 x22 σ19))))
def P_X3_run_L12 (a0 : Nat) (v1 : Int32) (v2 : Int32) (σ : Sg) (Q : Unit → Sg → Prop) : Prop :=
  ∃ I : Nat → Int32 → Sg → Prop, (∃ n, I n v2 σ) ∧ ∀ (n : Nat) (v2 : Int32) (σ : Sg), I n v2 σ → P_X3_run_L12b a0 v1 v2 σ Q (fun v2 σ => ∃ n', n' < n ∧ I n' v2 σ)
def P_X3_run (a0 : Nat) (v1 : Int32) (σ : Sg) (Q : Unit → Sg → Prop) : Prop :=
  sK σ a0 % 32 = 5 ∧ ∀ σ2 : Sg, σ2 = pI σ a0 1 0 → ∀ σ5 : Sg, σ5 = pI σ2 a0 2 0 → P_X3_run_L12 a0 v1 0 σ5 Q
set_option maxHeartbeats 4000000 in
set_option maxRecDepth 100000 in
theorem k_X3_run (l : Launch) (D : Dg) (a0 : Nat) (v1 : Int32) (σ : Sg) (Q : Unit → Sg → Prop) (h : P_X3_run a0 v1 σ Q) : CtrY RN l D yX3_run cX3_run 6 (none) 3 82 mkV [.ref a0, .int v1] σ (0, 0) Q := by
  refine y_ctrN (lv := [(0, va_rf (some a0)), (1, .int v1)]) (by decide) (by (exact Nat.le_of_ble_eq_true rfl)) (by (exact rfl)) (fun g hg hgL hgD hrm hgN hgI hend => ?_)
  subst hgD
  clear hgL
  unfold P_X3_run at h
  have J47 : ∀ (v2 : Int32) (σ : Sg), P_X3_run_L47 a0 v2 σ Q → XA g 47 [(0, va_rf (some a0)), (2, .int v2)] [] σ (0, 0) := by
    intro v2 σ h
    unfold P_X3_run_L47 at h
    obtain ⟨I47, ⟨n47, hI47⟩, hs47⟩ := h
    have key47 : ∀ (n : Nat), ∀ (v2 : Int32) (σ : Sg), I47 n v2 σ → XA g 47 [(0, va_rf (some a0)), (2, .int v2)] [] σ (0, 0) := by
      intro n
      induction n using Nat.strongRecOn with
      | _ n ih47 =>
      intro v2 σ hI
      have h := hs47 n v2 σ hI
      clear hI hI47 hs47
      obtain ⟨K47, hK47⟩ : ∃ K : Int32 → Sg → Prop, K = (fun v2 σ => ∃ n', n' < n ∧ I47 n' v2 σ) := ⟨_, rfl⟩
      rw [← hK47] at h
      unfold P_X3_run_L47b at h
      have J60 : ∀ (v2 : Int32) (v3 : Int32) (v4 : Int32) (σ : Sg), P_X3_run_L60 a0 v2 v3 v4 σ Q K47 → XA g 60 [(0, va_rf (some a0)), (2, .int v2), (3, .int v3), (4, .int v4)] [] σ (0, 0) := by
        intro v2 v3 v4 σ h
        unfold P_X3_run_L60 at h
        obtain ⟨I60, ⟨n60, hI60⟩, hs60⟩ := h
        have key60 : ∀ (n : Nat), ∀ (v3 : Int32) (v4 : Int32) (σ : Sg), I60 n v3 v4 σ → XA g 60 [(0, va_rf (some a0)), (2, .int v2), (3, .int v3), (4, .int v4)] [] σ (0, 0) := by
          intro n
          induction n using Nat.strongRecOn with
          | _ n ih60 =>
          intro v3 v4 σ hI
          have h := hs60 n v3 v4 σ hI
          clear hI hI60 hs60
          obtain ⟨K60, hK60⟩ : ∃ K : Int32 → Int32 → Sg → Prop, K = (fun v3 v4 σ => ∃ n', n' < n ∧ I60 n' v3 v4 σ) := ⟨_, rfl⟩
          rw [← hK60] at h
          unfold P_X3_run_L60b at h
          refine y_iload hg 3 dX3_run_60 rfl ?_
          refine y_aload_n hg 0 dX3_run_62 rfl rfl ?_
          obtain ⟨h28, h⟩ := h
          refine y_getI hg fl_X3_45 rfl rfl h28 dX3_run_63 ?_
          refine y_icmp_ge (tgt := 118) hg dX3_run_66 (by decide) (fun q29 => ?_) (fun q29 => ?_)
          · replace h := h.1 q29
            refine y_aload_n hg 0 dX3_run_118 rfl rfl ?_
            refine y_dup hg dX3_run_119 rfl ?_
            refine y_getI hg fl_X3_91 rfl rfl h28 dX3_run_120 ?_
            refine y_iload_n hg 2 dX3_run_123 rfl rfl ?_
            refine y_iadd hg dX3_run_124 ?_
            refine y_putI hg fw_X3_91 (fun z => nomatch z) rfl h28 dX3_run_125 ?_
            refine y_nmS (fun σ30 e31 => ?_)
            replace h := h σ30 e31
            have E32 : sK σ30 = sK σ := by rw [e31]; rfl
            refine y_aload_n hg 0 dX3_run_128 rfl rfl ?_
            refine y_aload_n hg 0 dX3_run_129 rfl rfl ?_
            refine y_getI hg fl_X3_94 rfl rfl (kq E32 h28) dX3_run_130 ?_
            refine y_iload_n hg 2 dX3_run_133 rfl rfl ?_
            refine y_mmax hg mm_X3_112 (cat8 (Nat.le_of_ble_eq_true rfl)) hrm ⟨Nat.le_of_ble_eq_true rfl, Nat.le_of_ble_eq_true rfl⟩ dX3_run_134 ?_
            refine y_nmI (fun x33 e34 => ?_)
            replace h := h x33 e34
            refine y_putI hg fw_X3_94 (fun z => nomatch z) rfl (kq E32 h28) dX3_run_137 ?_
            refine y_nmS (fun σ35 e36 => ?_)
            replace h := h σ35 e36
            have E37 : sK σ35 = sK σ30 := by rw [e36]; rfl
            obtain ⟨x38, e39⟩ : ∃ y : Int32, y = v2 + 1 := ⟨_, rfl⟩
            replace h := h x38 e39
            refine y_iinc (v := x38) (lv' := [(2, .int x38), (0, va_rf (some a0)), (3, .int v3), (4, .int v4)]) hg 1 dX3_run_140 rfl (by rw [e39]; rfl) (by rw [hgN]; decide) rfl ?_
            refine y_goto (tgt := 47) hg dX3_run_143 (by decide) ?_
            refine y_sub [1, 0] rfl ?_
            subst hK47
            obtain ⟨n40, h41, h⟩ := h
            exact ih47 n40 h41 _ _ h
          · replace h := h.2 q29
            refine y_aload_n hg 0 dX3_run_69 rfl rfl ?_
            refine y_getR hg fl_X3_12 rfl rfl h28 dX3_run_70 ?_
            refine y_iload hg 3 dX3_run_73 rfl ?_
            obtain ⟨c42, h43, h⟩ := h
            obtain ⟨h44, h⟩ := h
            refine yVRP (Qp := _) (rest := []) (As := [.int v4]) hg (k_Jx4a65c_get_915e3 (gL g.1) (gD g.1) c42 v4 σ _ h) lv_X3_52 h43 h44 rfl rfl dX3_run_75 (cat8 (Nat.le_of_ble_eq_true rfl)) hrm ⟨Nat.le_of_ble_eq_true rfl, Nat.le_of_ble_eq_true rfl⟩ (fun r45 h => ?_)
            obtain ⟨c46, h47, h⟩ := h
            obtain ⟨h48, h⟩ := h
            refine y_cast (c := 7) hg (C := RX5) rfl (by decide) cl_X3_28 h47 h48 dX3_run_78 ?_
            refine y_astore (lv' := [(5, va_rf r45), (0, va_rf (some a0)), (2, .int v2), (3, .int v3), (4, .int v4)]) hg dX3_run_81 (by rw [hgN]; decide) rfl ?_
            refine y_aload hg 0 dX3_run_83 rfl ?_
            refine y_aload_n hg 1 dX3_run_85 rfl rfl ?_
            refine y_getR hg fl_X3_18 rfl rfl h28 dX3_run_86 ?_
            refine y_iload_n hg 2 dX3_run_89 rfl rfl ?_
            refine y_bipush (v := 12) hg dX3_run_90 (by decide) ?_
            refine y_imul hg dX3_run_92 ?_
            refine y_iload hg 4 dX3_run_93 rfl ?_
            refine y_iadd hg dX3_run_95 ?_
            obtain ⟨c49, h50, h⟩ := h
            obtain ⟨h51, h⟩ := h
            obtain ⟨h52, h⟩ := h
            refine y_iald hg h50 h51 h52 dX3_run_96 ?_
            refine y_aload_n hg 1 dX3_run_97 rfl rfl ?_
            refine y_getI hg fl_X3_49 rfl rfl h28 dX3_run_98 ?_
            refine yVVW (Qm := _) (rest := []) (As := [.int (sI σ c49 ((v2 * 12) + v4).toNatClampNeg), .int (sI σ a0 8)]) hg (k_X5_minute (gL g.1) (gD g.1) c46 (sI σ c49 ((v2 * 12) + v4).toNatClampNeg) (sI σ a0 8) σ _ h) lv_X3_105 h47 h48 rfl rfl dX3_run_101 (cat8 (Nat.le_of_ble_eq_true rfl)) hrm ⟨Nat.le_of_ble_eq_true rfl, Nat.le_of_ble_eq_true rfl⟩ (fun u53 σ54 h h55 => ?_)
            have h56 := kp h55 (show ¬ 5 = 0 by decide) h28
            have h57 := kp h55 (show ¬ 7 = 0 by decide) h48
            refine y_iload_n hg 3 dX3_run_104 rfl rfl ?_
            refine y_aload hg 0 dX3_run_105 rfl ?_
            refine y_getI hg fl_X3_109 rfl h47 h57 dX3_run_107 ?_
            refine y_iadd hg dX3_run_110 ?_
            refine y_nmI (fun x58 e59 => ?_)
            replace h := h x58 e59
            refine y_istore_n (lv' := [(3, .int x58), (5, va_rf r45), (0, va_rf (some a0)), (2, .int v2), (4, .int v4)]) hg dX3_run_111 rfl (by rw [hgN]; decide) rfl ?_
            obtain ⟨x60, e61⟩ : ∃ y : Int32, y = v4 + 1 := ⟨_, rfl⟩
            replace h := h x60 e61
            refine y_iinc (v := x60) (lv' := [(4, .int x60), (3, .int x58), (5, va_rf r45), (0, va_rf (some a0)), (2, .int v2)]) hg 4 dX3_run_112 rfl (by rw [e61]; rfl) (by rw [hgN]; decide) rfl ?_
            refine y_goto (tgt := 60) hg dX3_run_115 (by decide) ?_
            refine y_sub [3, 4, 1, 0] rfl ?_
            subst hK60
            obtain ⟨n62, h63, h⟩ := h
            exact ih60 n62 h63 _ _ _ h
        exact key60 n60 v3 v4 σ hI60
      refine y_iload_n hg 1 dX3_run_47 rfl rfl ?_
      refine y_aload_n hg 0 dX3_run_48 rfl rfl ?_
      obtain ⟨h26, h⟩ := h
      refine y_getI hg fl_X3_72 rfl rfl h26 dX3_run_49 ?_
      refine y_icmp_ge (tgt := 146) hg dX3_run_52 (by decide) (fun q27 => ?_) (fun q27 => ?_)
      · replace h := h.1 q27
        exact yEndV hend dX3_run_146 h
      · replace h := h.2 q27
        refine y_iconst (v := 0) hg dX3_run_55 (by decide) ?_
        refine y_istore_n (lv' := [(3, .int 0), (0, va_rf (some a0)), (2, .int v2)]) hg dX3_run_56 rfl (by rw [hgN]; decide) rfl ?_
        refine y_iconst (v := 0) hg dX3_run_57 (by decide) ?_
        refine y_istore (lv' := [(4, .int 0), (3, .int 0), (0, va_rf (some a0)), (2, .int v2)]) hg dX3_run_58 (by rw [hgN]; decide) rfl ?_
        refine y_sub [2, 3, 1, 0] rfl ?_
        exact J60 _ _ _ _ h
    exact key47 n47 v2 σ hI47
  have J12 : ∀ (v1 : Int32) (v2 : Int32) (σ : Sg), P_X3_run_L12 a0 v1 v2 σ Q → XA g 12 [(0, va_rf (some a0)), (1, .int v1), (2, .int v2)] [] σ (0, 0) := by
    intro v1 v2 σ h
    unfold P_X3_run_L12 at h
    obtain ⟨I12, ⟨n12, hI12⟩, hs12⟩ := h
    have key12 : ∀ (n : Nat), ∀ (v2 : Int32) (σ : Sg), I12 n v2 σ → XA g 12 [(0, va_rf (some a0)), (1, .int v1), (2, .int v2)] [] σ (0, 0) := by
      intro n
      induction n using Nat.strongRecOn with
      | _ n ih12 =>
      intro v2 σ hI
      have h := hs12 n v2 σ hI
      clear hI hI12 hs12
      obtain ⟨K12, hK12⟩ : ∃ K : Int32 → Sg → Prop, K = (fun v2 σ => ∃ n', n' < n ∧ I12 n' v2 σ) := ⟨_, rfl⟩
      rw [← hK12] at h
      unfold P_X3_run_L12b at h
      refine y_iload_n hg 2 dX3_run_12 rfl rfl ?_
      refine y_aload_n hg 0 dX3_run_13 rfl rfl ?_
      obtain ⟨h8, h⟩ := h
      refine y_getI hg fl_X3_45 rfl rfl h8 dX3_run_14 ?_
      refine y_icmp_ge (tgt := 45) hg dX3_run_17 (by decide) (fun q9 => ?_) (fun q9 => ?_)
      · replace h := h.1 q9
        refine y_iconst (v := 0) hg dX3_run_45 (by decide) ?_
        refine y_istore_n (lv' := [(2, .int 0), (0, va_rf (some a0)), (1, .int v1)]) hg dX3_run_46 rfl (by rw [hgN]; decide) rfl ?_
        refine y_sub [1, 0] rfl ?_
        exact J47 _ _ h
      · replace h := h.2 q9
        refine y_aload_n hg 0 dX3_run_20 rfl rfl ?_
        refine y_getR hg fl_X3_12 rfl rfl h8 dX3_run_21 ?_
        refine y_iload_n hg 2 dX3_run_24 rfl rfl ?_
        obtain ⟨c10, h11, h⟩ := h
        obtain ⟨h12, h⟩ := h
        refine yVRP (Qp := _) (rest := []) (As := [.int v2]) hg (k_Jx4a65c_get_915e3 (gL g.1) (gD g.1) c10 v2 σ _ h) lv_X3_52 h11 h12 rfl rfl dX3_run_25 (cat8 (Nat.le_of_ble_eq_true rfl)) hrm ⟨Nat.le_of_ble_eq_true rfl, Nat.le_of_ble_eq_true rfl⟩ (fun r13 h => ?_)
        obtain ⟨c14, h15, h⟩ := h
        obtain ⟨h16, h⟩ := h
        refine y_cast (c := 7) hg (C := RX5) rfl (by decide) cl_X3_28 h15 h16 dX3_run_28 ?_
        refine y_iload_n hg 1 dX3_run_31 rfl rfl ?_
        refine y_iload_n hg 2 dX3_run_32 rfl rfl ?_
        refine ySNIP (Qp := _) (rest := [va_rf r13]) (As := [.int v1, .int v2]) hg (k_X10_holds (gL g.1) (gD g.1) v1 v2 σ _ h) lsn_X3_97 rfl rfl dX3_run_33 (cat8 (Nat.le_of_ble_eq_true rfl)) hrm ⟨Nat.le_of_ble_eq_true rfl, Nat.le_of_ble_eq_true rfl⟩ (fun x17 h => ?_)
        refine yVVW (Qm := _) (rest := []) (As := [.int x17]) hg (k_X5_start (gL g.1) (gD g.1) c14 x17 σ _ h) lv_X3_101 h15 h16 rfl rfl dX3_run_36 (cat8 (Nat.le_of_ble_eq_true rfl)) hrm ⟨Nat.le_of_ble_eq_true rfl, Nat.le_of_ble_eq_true rfl⟩ (fun u18 σ19 h h20 => ?_)
        have h21 := kp h20 (show ¬ 5 = 0 by decide) h8
        obtain ⟨x22, e23⟩ : ∃ y : Int32, y = v2 + 1 := ⟨_, rfl⟩
        replace h := h x22 e23
        refine y_iinc (v := x22) (lv' := [(2, .int x22), (0, va_rf (some a0)), (1, .int v1)]) hg 2 dX3_run_39 rfl (by rw [e23]; rfl) (by rw [hgN]; decide) rfl ?_
        refine y_goto (tgt := 12) hg dX3_run_42 (by decide) ?_
        refine y_sub [1, 2, 0] rfl ?_
        subst hK12
        obtain ⟨n24, h25, h⟩ := h
        exact ih12 n24 h25 _ _ h
    exact key12 n12 v2 σ hI12
  refine y_aload_n hg 0 dX3_run_0 rfl rfl ?_
  refine y_iconst (v := 0) hg dX3_run_1 (by decide) ?_
  obtain ⟨h1, h⟩ := h
  refine y_putI hg fw_X3_91 (fun z => nomatch z) rfl h1 dX3_run_2 ?_
  refine y_nmS (fun σ2 e3 => ?_)
  replace h := h σ2 e3
  have E4 : sK σ2 = sK σ := by rw [e3]; rfl
  refine y_aload_n hg 0 dX3_run_5 rfl rfl ?_
  refine y_iconst (v := 0) hg dX3_run_6 (by decide) ?_
  refine y_putI hg fw_X3_94 (fun z => nomatch z) rfl (kq E4 h1) dX3_run_7 ?_
  refine y_nmS (fun σ5 e6 => ?_)
  replace h := h σ5 e6
  have E7 : sK σ5 = sK σ2 := by rw [e6]; rfl
  refine y_iconst (v := 0) hg dX3_run_10 (by decide) ?_
  refine y_istore_n (lv' := [(2, .int 0), (0, va_rf (some a0)), (1, .int v1)]) hg dX3_run_11 rfl (by rw [hgN]; decide) rfl ?_
  refine y_sub [1, 2, 0] rfl ?_
  exact J12 _ _ _ h
def P_X2_takeOver (a0 : Nat) (v1 : Option Nat) (σ : Sg) (Q : Int32 → Sg → Prop) : Prop :=
  ∃ c1 : Nat, v1 = some c1 ∧ sK σ c1 % 32 = 7 ∧ sK σ a0 % 32 = 4 ∧ ∀ σ5 : Sg, σ5 = pI σ a0 6 (sI σ c1 12) → ∀ σ8 : Sg, σ8 = pI σ5 a0 7 (sI σ5 c1 13) → ∀ σ11 : Sg, σ11 = pI σ8 a0 8 (sI σ8 c1 14) → (sR σ11 a0 5 = none → Q 0 σ11) ∧ (∀ c14 : Nat, sR σ11 a0 5 = some c14 → ∃ c17 : Nat, sR σ11 a0 5 = some c17 ∧ sK σ11 c17 % 32 = 2 ∧ ∀ x20 : Int32, x20 = (sI σ11 c17 8) + (sI σ11 c1 11) → ∃ c22 : Nat, sR σ11 a0 5 = some c22 ∧ sK σ11 c22 % 32 = 2 ∧ ∀ σ25 : Sg, σ25 = pI σ11 c22 8 (sI σ11 c1 7) → Q x20 σ25)
set_option maxHeartbeats 4000000 in
set_option maxRecDepth 100000 in
theorem k_X2_takeOver (l : Launch) (D : Dg) (a0 : Nat) (v1 : Option Nat) (σ : Sg) (Q : Int32 → Sg → Prop) (h : P_X2_takeOver a0 v1 σ Q) : CtrY RN l D yX2_takeOver cX2_takeOver 3 (some FieldType.int) 0 0 mkI [.ref a0, va_rf v1] σ (0, 0) Q := by
  refine y_ctrN (lv := [(0, va_rf (some a0)), (1, va_rf v1)]) (by decide) (by cases v1 <;> (exact Nat.le_of_ble_eq_true rfl)) (by cases v1 <;> (exact rfl)) (fun g hg hgL hgD hrm hgN hgI hend => ?_)
  subst hgD
  clear hgL
  unfold P_X2_takeOver at h
  refine y_aload_n hg 0 dX2_takeOver_0 rfl rfl ?_
  refine y_aload_n hg 1 dX2_takeOver_1 rfl rfl ?_
  obtain ⟨c1, h2, h⟩ := h
  obtain ⟨h3, h⟩ := h
  refine y_getI hg fl_X2_27 rfl h2 h3 dX2_takeOver_2 ?_
  obtain ⟨h4, h⟩ := h
  refine y_putI hg fw_X2_32 (fun z => nomatch z) rfl h4 dX2_takeOver_5 ?_
  refine y_nmS (fun σ5 e6 => ?_)
  replace h := h σ5 e6
  have E7 : sK σ5 = sK σ := by rw [e6]; rfl
  refine y_aload_n hg 0 dX2_takeOver_8 rfl rfl ?_
  refine y_aload_n hg 1 dX2_takeOver_9 rfl rfl ?_
  refine y_getI hg fl_X2_33 rfl h2 (kq E7 h3) dX2_takeOver_10 ?_
  refine y_putI hg fw_X2_36 (fun z => nomatch z) rfl (kq E7 h4) dX2_takeOver_13 ?_
  refine y_nmS (fun σ8 e9 => ?_)
  replace h := h σ8 e9
  have E10 : sK σ8 = sK σ5 := by rw [e9]; rfl
  refine y_aload_n hg 0 dX2_takeOver_16 rfl rfl ?_
  refine y_aload_n hg 1 dX2_takeOver_17 rfl rfl ?_
  refine y_getI hg fl_X2_37 rfl h2 (kq E10 (kq E7 h3)) dX2_takeOver_18 ?_
  refine y_putI hg fw_X2_40 (fun z => nomatch z) rfl (kq E10 (kq E7 h4)) dX2_takeOver_21 ?_
  refine y_nmS (fun σ11 e12 => ?_)
  replace h := h σ11 e12
  have E13 : sK σ11 = sK σ8 := by rw [e12]; rfl
  refine y_aload_n hg 0 dX2_takeOver_24 rfl rfl ?_
  refine y_getR hg fl_X2_41 rfl rfl (kq E13 (kq E10 (kq E7 h4))) dX2_takeOver_25 ?_
  refine y_ifnonnull (tgt := 33) hg dX2_takeOver_28 (by decide) (fun c14 h16 => ?_) (fun h15 => ?_)
  · replace h := h.2 c14 h16
    refine y_aload_n hg 0 dX2_takeOver_33 rfl rfl ?_
    refine y_getR hg fl_X2_41 rfl rfl (kq E13 (kq E10 (kq E7 h4))) dX2_takeOver_34 ?_
    obtain ⟨c17, h18, h⟩ := h
    obtain ⟨h19, h⟩ := h
    refine y_getI hg fl_X2_45 rfl h18 h19 dX2_takeOver_37 ?_
    refine y_aload_n hg 1 dX2_takeOver_40 rfl rfl ?_
    refine y_getI hg fl_X2_50 rfl h2 (kq E13 (kq E10 (kq E7 h3))) dX2_takeOver_41 ?_
    refine y_iadd hg dX2_takeOver_44 ?_
    refine y_nmI (fun x20 e21 => ?_)
    replace h := h x20 e21
    refine y_istore_n (lv' := [(2, .int x20), (0, va_rf (some a0)), (1, va_rf v1)]) hg dX2_takeOver_45 rfl (by rw [hgN]; decide) (by cases v1 <;> rfl) ?_
    refine y_aload_n hg 1 dX2_takeOver_46 rfl rfl ?_
    refine y_getR hg fl_X2_41 rfl rfl (kq E13 (kq E10 (kq E7 h4))) dX2_takeOver_47 ?_
    refine y_aload_n hg 2 dX2_takeOver_50 rfl rfl ?_
    refine y_getI hg fl_X2_53 rfl h2 (kq E13 (kq E10 (kq E7 h3))) dX2_takeOver_51 ?_
    obtain ⟨c22, h23, h⟩ := h
    obtain ⟨h24, h⟩ := h
    refine y_putI hg fw_X2_45 (fun z => nomatch z) h23 h24 dX2_takeOver_54 ?_
    refine y_nmS (fun σ25 e26 => ?_)
    replace h := h σ25 e26
    have E27 : sK σ25 = sK σ11 := by rw [e26]; rfl
    refine y_iload_n hg 0 dX2_takeOver_57 rfl rfl ?_
    exact yEndI hend rfl dX2_takeOver_58 h
  · replace h := h.1 h15
    refine y_iconst (v := 0) hg dX2_takeOver_31 (by decide) ?_
    exact yEndI hend rfl dX2_takeOver_32 h
def P_X3_barrelAfter_B22 (a0 : Nat) (σ : Sg) (Q : Int32 → Prop) : Prop :=
  Q 0
def P_X3_barrelAfter (a0 : Nat) (v1 : Int32) (σ : Sg) (Q : Int32 → Prop) : Prop :=
  (v1 < 0 → P_X3_barrelAfter_B22 a0 σ Q) ∧ (¬ (v1 < 0) → sK σ a0 % 32 = 5 ∧ ∃ c3 : Nat, sR σ a0 4 = some c3 ∧ sK σ c3 % 32 = 16 ∧ ((nI (sN σ c3)) ≤ v1 → P_X3_barrelAfter_B22 a0 σ Q) ∧ (¬ ((nI (sN σ c3)) ≤ v1) → ∃ c7 : Nat, sR σ a0 4 = some c7 ∧ sK σ c7 % 32 = 16 ∧ vp_in v1 (sN σ c7) ∧ Q (sI σ c7 v1.toNatClampNeg)))
set_option maxHeartbeats 4000000 in
set_option maxRecDepth 100000 in
theorem k_X3_barrelAfter (l : Launch) (D : Dg) (a0 : Nat) (v1 : Int32) (σ : Sg) (Q : Int32 → Prop) (h : P_X3_barrelAfter a0 v1 σ Q) : CtrY RN l D yX3_barrelAfter cX3_barrelAfter 2 (some FieldType.int) 0 0 mkI [.ref a0, .int v1] σ (0, 0) (fun r σ2 => Q r ∧ σ2 = σ) := by
  refine y_ctrN (lv := [(0, va_rf (some a0)), (1, .int v1)]) (by decide) (by (exact Nat.le_of_ble_eq_true rfl)) (by (exact rfl)) (fun g hg hgL hgD hrm hgN hgI hend => ?_)
  subst hgD
  clear hgL
  unfold P_X3_barrelAfter at h
  have J22 : P_X3_barrelAfter_B22 a0 σ Q → XA g 22 [(0, va_rf (some a0))] [] σ (0, 0) := by
    intro  h
    unfold P_X3_barrelAfter_B22 at h
    refine y_iconst (v := 0) hg dX3_barrelAfter_22 (by decide) ?_
    exact yEndI hend rfl dX3_barrelAfter_23 ⟨h, rfl⟩
  refine y_iload_n hg 1 dX3_barrelAfter_0 rfl rfl ?_
  refine y_if_lt (tgt := 22) hg dX3_barrelAfter_1 (by decide) (fun q1 => ?_) (fun q1 => ?_)
  · replace h := h.1 q1
    refine y_sub [0] rfl ?_
    exact J22  h
  · replace h := h.2 q1
    refine y_iload_n hg 1 dX3_barrelAfter_4 rfl rfl ?_
    refine y_aload_n hg 0 dX3_barrelAfter_5 rfl rfl ?_
    obtain ⟨h2, h⟩ := h
    refine y_getR hg fl_X3_22 rfl rfl h2 dX3_barrelAfter_6 ?_
    obtain ⟨c3, h4, h⟩ := h
    obtain ⟨h5, h⟩ := h
    refine y_alen hg h4 h5 (by decide) (by decide) dX3_barrelAfter_9 ?_
    refine y_icmp_ge (tgt := 22) hg dX3_barrelAfter_10 (by decide) (fun q6 => ?_) (fun q6 => ?_)
    · replace h := h.1 q6
      refine y_sub [0] rfl ?_
      exact J22  h
    · replace h := h.2 q6
      refine y_aload_n hg 0 dX3_barrelAfter_13 rfl rfl ?_
      refine y_getR hg fl_X3_22 rfl rfl h2 dX3_barrelAfter_14 ?_
      refine y_iload_n hg 1 dX3_barrelAfter_17 rfl rfl ?_
      obtain ⟨c7, h8, h⟩ := h
      obtain ⟨h9, h⟩ := h
      obtain ⟨h10, h⟩ := h
      refine y_iald hg h8 h9 h10 dX3_barrelAfter_18 ?_
      refine y_goto (tgt := 23) hg dX3_barrelAfter_19 (by decide) ?_
      exact yEndI hend rfl dX3_barrelAfter_23 ⟨h, rfl⟩
def P_X3_spilt_L4b (a0 : Nat) (v1 : Int32) (v2 : Int32) (σ : Sg) (Q : Int32 → Prop) (K4 : Int32 → Int32 → Prop) : Prop :=
  sK σ a0 % 32 = 5 ∧ ((sI σ a0 6) ≤ v2 → Q v1) ∧ (¬ ((sI σ a0 6) ≤ v2) → ∃ c3 : Nat, sR σ a0 0 = some c3 ∧ sK σ c3 % 32 = 1 ∧ P_Jx4a65c_get_915e3 c3 v2 σ (fun r6 => ∃ c7 : Nat, r6 = some c7 ∧ sK σ c7 % 32 = 7 ∧ ∀ x10 : Int32, x10 = v1 + (sI σ c7 12) → ∀ x12 : Int32, x12 = v2 + 1 → K4 x10 x12))
def P_X3_spilt_L4 (a0 : Nat) (v1 : Int32) (v2 : Int32) (σ : Sg) (Q : Int32 → Prop) : Prop :=
  ∃ I : Nat → Int32 → Int32 → Prop, (∃ n, I n v1 v2) ∧ ∀ (n : Nat) (v1 : Int32) (v2 : Int32), I n v1 v2 → P_X3_spilt_L4b a0 v1 v2 σ Q (fun v1 v2 => ∃ n', n' < n ∧ I n' v1 v2)
def P_X3_spilt (a0 : Nat) (σ : Sg) (Q : Int32 → Prop) : Prop :=
  P_X3_spilt_L4 a0 0 0 σ Q
set_option maxHeartbeats 4000000 in
set_option maxRecDepth 100000 in
theorem k_X3_spilt (l : Launch) (D : Dg) (a0 : Nat) (σ : Sg) (Q : Int32 → Prop) (h : P_X3_spilt a0 σ Q) : CtrY RN l D yX3_spilt cX3_spilt 3 (some FieldType.int) 3 64 mkI [.ref a0] σ (0, 0) (fun r σ2 => Q r ∧ σ2 = σ) := by
  refine y_ctrN (lv := [(0, va_rf (some a0))]) (by decide) (by (exact Nat.le_of_ble_eq_true rfl)) (by (exact rfl)) (fun g hg hgL hgD hrm hgN hgI hend => ?_)
  subst hgD
  clear hgL
  unfold P_X3_spilt at h
  have J4 : ∀ (v1 : Int32) (v2 : Int32), P_X3_spilt_L4 a0 v1 v2 σ Q → XA g 4 [(0, va_rf (some a0)), (1, .int v1), (2, .int v2)] [] σ (0, 0) := by
    intro v1 v2 h
    unfold P_X3_spilt_L4 at h
    obtain ⟨I4, ⟨n4, hI4⟩, hs4⟩ := h
    have key4 : ∀ (n : Nat), ∀ (v1 : Int32) (v2 : Int32), I4 n v1 v2 → XA g 4 [(0, va_rf (some a0)), (1, .int v1), (2, .int v2)] [] σ (0, 0) := by
      intro n
      induction n using Nat.strongRecOn with
      | _ n ih4 =>
      intro v1 v2 hI
      have h := hs4 n v1 v2 hI
      clear hI hI4 hs4
      obtain ⟨K4, hK4⟩ : ∃ K : Int32 → Int32 → Prop, K = (fun v1 v2 => ∃ n', n' < n ∧ I4 n' v1 v2) := ⟨_, rfl⟩
      rw [← hK4] at h
      unfold P_X3_spilt_L4b at h
      refine y_iload_n hg 2 dX3_spilt_4 rfl rfl ?_
      refine y_aload_n hg 0 dX3_spilt_5 rfl rfl ?_
      obtain ⟨h1, h⟩ := h
      refine y_getI hg fl_X3_45 rfl rfl h1 dX3_spilt_6 ?_
      refine y_icmp_ge (tgt := 35) hg dX3_spilt_9 (by decide) (fun q2 => ?_) (fun q2 => ?_)
      · replace h := h.1 q2
        refine y_iload_n hg 1 dX3_spilt_35 rfl rfl ?_
        exact yEndI hend rfl dX3_spilt_36 ⟨h, rfl⟩
      · replace h := h.2 q2
        refine y_iload_n hg 1 dX3_spilt_12 rfl rfl ?_
        refine y_aload_n hg 0 dX3_spilt_13 rfl rfl ?_
        refine y_getR hg fl_X3_12 rfl rfl h1 dX3_spilt_14 ?_
        refine y_iload_n hg 2 dX3_spilt_17 rfl rfl ?_
        obtain ⟨c3, h4, h⟩ := h
        obtain ⟨h5, h⟩ := h
        refine yVRP (Qp := _) (rest := [.int v1]) (As := [.int v2]) hg (k_Jx4a65c_get_915e3 (gL g.1) (gD g.1) c3 v2 σ _ h) lv_X3_52 h4 h5 rfl rfl dX3_spilt_18 (cat8 (Nat.le_of_ble_eq_true rfl)) hrm ⟨Nat.le_of_ble_eq_true rfl, Nat.le_of_ble_eq_true rfl⟩ (fun r6 h => ?_)
        obtain ⟨c7, h8, h⟩ := h
        obtain ⟨h9, h⟩ := h
        refine y_cast (c := 7) hg (C := RX5) rfl (by decide) cl_X3_28 h8 h9 dX3_spilt_21 ?_
        refine y_getI hg fl_X3_115 rfl h8 h9 dX3_spilt_24 ?_
        refine y_iadd hg dX3_spilt_27 ?_
        refine y_nmI (fun x10 e11 => ?_)
        replace h := h x10 e11
        refine y_istore_n (lv' := [(1, .int x10), (0, va_rf (some a0)), (2, .int v2)]) hg dX3_spilt_28 rfl (by rw [hgN]; decide) rfl ?_
        obtain ⟨x12, e13⟩ : ∃ y : Int32, y = v2 + 1 := ⟨_, rfl⟩
        replace h := h x12 e13
        refine y_iinc (v := x12) (lv' := [(2, .int x12), (1, .int x10), (0, va_rf (some a0))]) hg 2 dX3_spilt_29 rfl (by rw [e13]; rfl) (by rw [hgN]; decide) rfl ?_
        refine y_goto (tgt := 4) hg dX3_spilt_32 (by decide) ?_
        refine y_sub [2, 1, 0] rfl ?_
        subst hK4
        obtain ⟨n14, h15, h⟩ := h
        exact ih4 n14 h15 _ _ h
    exact key4 n4 v1 v2 hI4
  refine y_iconst (v := 0) hg dX3_spilt_0 (by decide) ?_
  refine y_istore_n (lv' := [(1, .int 0), (0, va_rf (some a0))]) hg dX3_spilt_1 rfl (by rw [hgN]; decide) rfl ?_
  refine y_iconst (v := 0) hg dX3_spilt_2 (by decide) ?_
  refine y_istore_n (lv' := [(2, .int 0), (1, .int 0), (0, va_rf (some a0))]) hg dX3_spilt_3 rfl (by rw [hgN]; decide) rfl ?_
  refine y_sub [2, 1, 0] rfl ?_
  exact J4 _ _ h
def P_X3_wet_L4b (a0 : Nat) (v1 : Int32) (v2 : Int32) (σ : Sg) (Q : Int32 → Prop) (K4 : Int32 → Int32 → Prop) : Prop :=
  sK σ a0 % 32 = 5 ∧ ((sI σ a0 6) ≤ v2 → Q v1) ∧ (¬ ((sI σ a0 6) ≤ v2) → ∃ c3 : Nat, sR σ a0 0 = some c3 ∧ sK σ c3 % 32 = 1 ∧ P_Jx4a65c_get_915e3 c3 v2 σ (fun r6 => ∃ c7 : Nat, r6 = some c7 ∧ sK σ c7 % 32 = 7 ∧ ∀ x10 : Int32, x10 = v1 + (sI σ c7 14) → ∀ x12 : Int32, x12 = v2 + 1 → K4 x10 x12))
def P_X3_wet_L4 (a0 : Nat) (v1 : Int32) (v2 : Int32) (σ : Sg) (Q : Int32 → Prop) : Prop :=
  ∃ I : Nat → Int32 → Int32 → Prop, (∃ n, I n v1 v2) ∧ ∀ (n : Nat) (v1 : Int32) (v2 : Int32), I n v1 v2 → P_X3_wet_L4b a0 v1 v2 σ Q (fun v1 v2 => ∃ n', n' < n ∧ I n' v1 v2)
def P_X3_wet (a0 : Nat) (σ : Sg) (Q : Int32 → Prop) : Prop :=
  P_X3_wet_L4 a0 0 0 σ Q
set_option maxHeartbeats 4000000 in
set_option maxRecDepth 100000 in
theorem k_X3_wet (l : Launch) (D : Dg) (a0 : Nat) (σ : Sg) (Q : Int32 → Prop) (h : P_X3_wet a0 σ Q) : CtrY RN l D yX3_wet cX3_wet 3 (some FieldType.int) 3 64 mkI [.ref a0] σ (0, 0) (fun r σ2 => Q r ∧ σ2 = σ) := by
  refine y_ctrN (lv := [(0, va_rf (some a0))]) (by decide) (by (exact Nat.le_of_ble_eq_true rfl)) (by (exact rfl)) (fun g hg hgL hgD hrm hgN hgI hend => ?_)
  subst hgD
  clear hgL
  unfold P_X3_wet at h
  have J4 : ∀ (v1 : Int32) (v2 : Int32), P_X3_wet_L4 a0 v1 v2 σ Q → XA g 4 [(0, va_rf (some a0)), (1, .int v1), (2, .int v2)] [] σ (0, 0) := by
    intro v1 v2 h
    unfold P_X3_wet_L4 at h
    obtain ⟨I4, ⟨n4, hI4⟩, hs4⟩ := h
    have key4 : ∀ (n : Nat), ∀ (v1 : Int32) (v2 : Int32), I4 n v1 v2 → XA g 4 [(0, va_rf (some a0)), (1, .int v1), (2, .int v2)] [] σ (0, 0) := by
      intro n
      induction n using Nat.strongRecOn with
      | _ n ih4 =>
      intro v1 v2 hI
      have h := hs4 n v1 v2 hI
      clear hI hI4 hs4
      obtain ⟨K4, hK4⟩ : ∃ K : Int32 → Int32 → Prop, K = (fun v1 v2 => ∃ n', n' < n ∧ I4 n' v1 v2) := ⟨_, rfl⟩
      rw [← hK4] at h
      unfold P_X3_wet_L4b at h
      refine y_iload_n hg 2 dX3_wet_4 rfl rfl ?_
      refine y_aload_n hg 0 dX3_wet_5 rfl rfl ?_
      obtain ⟨h1, h⟩ := h
      refine y_getI hg fl_X3_45 rfl rfl h1 dX3_wet_6 ?_
      refine y_icmp_ge (tgt := 35) hg dX3_wet_9 (by decide) (fun q2 => ?_) (fun q2 => ?_)
      · replace h := h.1 q2
        refine y_iload_n hg 1 dX3_wet_35 rfl rfl ?_
        exact yEndI hend rfl dX3_wet_36 ⟨h, rfl⟩
      · replace h := h.2 q2
        refine y_iload_n hg 1 dX3_wet_12 rfl rfl ?_
        refine y_aload_n hg 0 dX3_wet_13 rfl rfl ?_
        refine y_getR hg fl_X3_12 rfl rfl h1 dX3_wet_14 ?_
        refine y_iload_n hg 2 dX3_wet_17 rfl rfl ?_
        obtain ⟨c3, h4, h⟩ := h
        obtain ⟨h5, h⟩ := h
        refine yVRP (Qp := _) (rest := [.int v1]) (As := [.int v2]) hg (k_Jx4a65c_get_915e3 (gL g.1) (gD g.1) c3 v2 σ _ h) lv_X3_52 h4 h5 rfl rfl dX3_wet_18 (cat8 (Nat.le_of_ble_eq_true rfl)) hrm ⟨Nat.le_of_ble_eq_true rfl, Nat.le_of_ble_eq_true rfl⟩ (fun r6 h => ?_)
        obtain ⟨c7, h8, h⟩ := h
        obtain ⟨h9, h⟩ := h
        refine y_cast (c := 7) hg (C := RX5) rfl (by decide) cl_X3_28 h8 h9 dX3_wet_21 ?_
        refine y_getI hg fl_X3_118 rfl h8 h9 dX3_wet_24 ?_
        refine y_iadd hg dX3_wet_27 ?_
        refine y_nmI (fun x10 e11 => ?_)
        replace h := h x10 e11
        refine y_istore_n (lv' := [(1, .int x10), (0, va_rf (some a0)), (2, .int v2)]) hg dX3_wet_28 rfl (by rw [hgN]; decide) rfl ?_
        obtain ⟨x12, e13⟩ : ∃ y : Int32, y = v2 + 1 := ⟨_, rfl⟩
        replace h := h x12 e13
        refine y_iinc (v := x12) (lv' := [(2, .int x12), (1, .int x10), (0, va_rf (some a0))]) hg 2 dX3_wet_29 rfl (by rw [e13]; rfl) (by rw [hgN]; decide) rfl ?_
        refine y_goto (tgt := 4) hg dX3_wet_32 (by decide) ?_
        refine y_sub [2, 1, 0] rfl ?_
        subst hK4
        obtain ⟨n14, h15, h⟩ := h
        exact ih4 n14 h15 _ _ h
    exact key4 n4 v1 v2 hI4
  refine y_iconst (v := 0) hg dX3_wet_0 (by decide) ?_
  refine y_istore_n (lv' := [(1, .int 0), (0, va_rf (some a0))]) hg dX3_wet_1 rfl (by rw [hgN]; decide) rfl ?_
  refine y_iconst (v := 0) hg dX3_wet_2 (by decide) ?_
  refine y_istore_n (lv' := [(2, .int 0), (1, .int 0), (0, va_rf (some a0))]) hg dX3_wet_3 rfl (by rw [hgN]; decide) rfl ?_
  refine y_sub [2, 1, 0] rfl ?_
  exact J4 _ _ h
def P_X8_init (a0 : Nat) (v1 : Int32) (v2 : Int32) (v3 : Option Nat) (σ : Sg) (Q : Unit → Sg → Prop) : Prop :=
  sK σ a0 % 32 = 10 ∧ ∀ σ2 : Sg, σ2 = pI σ a0 0 v1 → ∀ σ5 : Sg, σ5 = pI σ2 a0 1 v2 → ∃ c8 : Nat, v3 = some c8 ∧ sK σ5 c8 % 32 = 5 ∧ P_X3_spilt c8 σ5 (fun x11 => ∀ σ12 : Sg, σ12 = pI σ5 a0 2 x11 → P_X3_wet c8 σ12 (fun x15 => ∀ σ16 : Sg, σ16 = pI σ12 a0 3 x15 → ∀ σ19 : Sg, σ19 = pI σ16 a0 4 (sI σ16 c8 2) → Q () σ19))
set_option maxHeartbeats 4000000 in
set_option maxRecDepth 100000 in
theorem k_X8_init (l : Launch) (D : Dg) (a0 : Nat) (v1 : Int32) (v2 : Int32) (v3 : Option Nat) (σ : Sg) (Q : Unit → Sg → Prop) (h : P_X8_init a0 v1 v2 v3 σ Q) : CtrY RN l D yX8_init cX8_init 4 (none) 4 86 mkV [.ref a0, .int v1, .int v2, va_rf v3] σ (0, 0) Q := by
  refine y_ctrN (lv := [(0, va_rf (some a0)), (1, .int v1), (2, .int v2), (3, va_rf v3)]) (by decide) (by cases v3 <;> (exact Nat.le_of_ble_eq_true rfl)) (by cases v3 <;> (exact rfl)) (fun g hg hgL hgD hrm hgN hgI hend => ?_)
  subst hgD
  clear hgL
  unfold P_X8_init at h
  refine y_aload_n hg 0 dX8_init_0 rfl rfl ?_
  refine y_objInit hg oi_X8_1 aw_oi1 aw_oi2 rfl dX8_init_1 (cat8 (Nat.le_of_ble_eq_true rfl)) hrm ⟨Nat.le_of_ble_eq_true rfl, Nat.le_of_ble_eq_true rfl⟩ ?_
  refine y_aload_n hg 0 dX8_init_4 rfl rfl ?_
  refine y_iload_n hg 1 dX8_init_5 rfl rfl ?_
  obtain ⟨h1, h⟩ := h
  refine y_putI hg fw_X8_7 (fun _ => hgI) rfl h1 dX8_init_6 ?_
  refine y_nmS (fun σ2 e3 => ?_)
  replace h := h σ2 e3
  have E4 : sK σ2 = sK σ := by rw [e3]; rfl
  refine y_aload_n hg 0 dX8_init_9 rfl rfl ?_
  refine y_iload_n hg 2 dX8_init_10 rfl rfl ?_
  refine y_putI hg fw_X8_13 (fun _ => hgI) rfl (kq E4 h1) dX8_init_11 ?_
  refine y_nmS (fun σ5 e6 => ?_)
  replace h := h σ5 e6
  have E7 : sK σ5 = sK σ2 := by rw [e6]; rfl
  refine y_aload_n hg 0 dX8_init_14 rfl rfl ?_
  refine y_aload_n hg 3 dX8_init_15 rfl rfl ?_
  obtain ⟨c8, h9, h⟩ := h
  obtain ⟨h10, h⟩ := h
  refine yVIP (Qp := _) (rest := [va_rf (some a0)]) (As := []) hg (k_X3_spilt (gL g.1) (gD g.1) c8 σ5 _ h) lv_X8_16 h9 h10 rfl rfl dX8_init_16 (cat8 (Nat.le_of_ble_eq_true rfl)) hrm ⟨Nat.le_of_ble_eq_true rfl, Nat.le_of_ble_eq_true rfl⟩ (fun x11 h => ?_)
  refine y_putI hg fw_X8_22 (fun _ => hgI) rfl (kq E7 (kq E4 h1)) dX8_init_19 ?_
  refine y_nmS (fun σ12 e13 => ?_)
  replace h := h σ12 e13
  have E14 : sK σ12 = sK σ5 := by rw [e13]; rfl
  refine y_aload_n hg 0 dX8_init_22 rfl rfl ?_
  refine y_aload_n hg 3 dX8_init_23 rfl rfl ?_
  refine yVIP (Qp := _) (rest := [va_rf (some a0)]) (As := []) hg (k_X3_wet (gL g.1) (gD g.1) c8 σ12 _ h) lv_X8_24 h9 (kq E14 h10) rfl rfl dX8_init_24 (cat8 (Nat.le_of_ble_eq_true rfl)) hrm ⟨Nat.le_of_ble_eq_true rfl, Nat.le_of_ble_eq_true rfl⟩ (fun x15 h => ?_)
  refine y_putI hg fw_X8_27 (fun _ => hgI) rfl (kq E14 (kq E7 (kq E4 h1))) dX8_init_27 ?_
  refine y_nmS (fun σ16 e17 => ?_)
  replace h := h σ16 e17
  have E18 : sK σ16 = sK σ12 := by rw [e17]; rfl
  refine y_aload_n hg 0 dX8_init_30 rfl rfl ?_
  refine y_aload_n hg 3 dX8_init_31 rfl rfl ?_
  refine y_getI hg fl_X8_29 rfl h9 (kq E18 (kq E14 h10)) dX8_init_32 ?_
  refine y_putI hg fw_X8_32 (fun _ => hgI) rfl (kq E18 (kq E14 (kq E7 (kq E4 h1)))) dX8_init_35 ?_
  refine y_nmS (fun σ19 e20 => ?_)
  replace h := h σ19 e20
  have E21 : sK σ19 = sK σ16 := by rw [e20]; rfl
  exact yEndV hend dX8_init_38 h
def P_X3_weight (a0 : Nat) (v1 : Int32) (σ : Sg) (Q : Int64 → Prop) : Prop :=
  sK σ a0 % 32 = 5 ∧ P_X3_wet a0 σ (fun x2 => P_X3_spilt a0 σ (fun x3 => Q ((v1.toInt64 * x2.toInt64) + x3.toInt64)))
set_option maxHeartbeats 4000000 in
set_option maxRecDepth 100000 in
theorem k_X3_weight (l : Launch) (D : Dg) (a0 : Nat) (v1 : Int32) (σ : Sg) (Q : Int64 → Prop) (h : P_X3_weight a0 v1 σ Q) : CtrY RN l D yX3_weight cX3_weight 2 (some FieldType.long) 4 86 mkL [.ref a0, .int v1] σ (0, 0) (fun r σ2 => Q r ∧ σ2 = σ) := by
  refine y_ctrN (lv := [(0, va_rf (some a0)), (1, .int v1)]) (by decide) (by (exact Nat.le_of_ble_eq_true rfl)) (by (exact rfl)) (fun g hg hgL hgD hrm hgN hgI hend => ?_)
  subst hgD
  clear hgL
  unfold P_X3_weight at h
  refine y_iload_n hg 1 dX3_weight_0 rfl rfl ?_
  refine y_i2l hg dX3_weight_1 ?_
  refine y_aload_n hg 0 dX3_weight_2 rfl rfl ?_
  obtain ⟨h1, h⟩ := h
  refine yVIP (Qp := _) (rest := [.long v1.toInt64]) (As := []) hg (k_X3_wet (gL g.1) (gD g.1) a0 σ _ h) lv_X3_121 rfl h1 rfl rfl dX3_weight_3 (cat8 (Nat.le_of_ble_eq_true rfl)) hrm ⟨Nat.le_of_ble_eq_true rfl, Nat.le_of_ble_eq_true rfl⟩ (fun x2 h => ?_)
  refine y_i2l hg dX3_weight_6 ?_
  refine y_lmul hg dX3_weight_7 ?_
  refine y_aload_n hg 0 dX3_weight_8 rfl rfl ?_
  refine yVIP (Qp := _) (rest := [.long (v1.toInt64 * x2.toInt64)]) (As := []) hg (k_X3_spilt (gL g.1) (gD g.1) a0 σ _ h) lv_X3_123 rfl h1 rfl rfl dX3_weight_9 (cat8 (Nat.le_of_ble_eq_true rfl)) hrm ⟨Nat.le_of_ble_eq_true rfl, Nat.le_of_ble_eq_true rfl⟩ (fun x3 h => ?_)
  refine y_i2l hg dX3_weight_12 ?_
  refine y_ladd hg dX3_weight_13 ?_
  exact yEndL hend dX3_weight_14 ⟨h, rfl⟩
def P_X3_spiltAt (a0 : Nat) (v1 : Int32) (σ : Sg) (Q : Int32 → Prop) : Prop :=
  sK σ a0 % 32 = 5 ∧ P_X10_within v1 0 ((sI σ a0 6) - 1) σ (fun x2 => (x2 = 0 → Q 0) ∧ (¬ (x2 = 0) → ∃ c4 : Nat, sR σ a0 0 = some c4 ∧ sK σ c4 % 32 = 1 ∧ P_Jx4a65c_get_915e3 c4 v1 σ (fun r7 => ∃ c8 : Nat, r7 = some c8 ∧ sK σ c8 % 32 = 7 ∧ Q (sI σ c8 12))))
set_option maxHeartbeats 4000000 in
set_option maxRecDepth 100000 in
theorem k_X3_spiltAt (l : Launch) (D : Dg) (a0 : Nat) (v1 : Int32) (σ : Sg) (Q : Int32 → Prop) (h : P_X3_spiltAt a0 v1 σ Q) : CtrY RN l D yX3_spiltAt cX3_spiltAt 2 (some FieldType.int) 3 64 mkI [.ref a0, .int v1] σ (0, 0) (fun r σ2 => Q r ∧ σ2 = σ) := by
  refine y_ctrN (lv := [(0, va_rf (some a0)), (1, .int v1)]) (by decide) (by (exact Nat.le_of_ble_eq_true rfl)) (by (exact rfl)) (fun g hg hgL hgD hrm hgN hgI hend => ?_)
  subst hgD
  clear hgL
  unfold P_X3_spiltAt at h
  refine y_iload_n hg 1 dX3_spiltAt_0 rfl rfl ?_
  refine y_iconst (v := 0) hg dX3_spiltAt_1 (by decide) ?_
  refine y_aload_n hg 0 dX3_spiltAt_2 rfl rfl ?_
  obtain ⟨h1, h⟩ := h
  refine y_getI hg fl_X3_45 rfl rfl h1 dX3_spiltAt_3 ?_
  refine y_iconst (v := 1) hg dX3_spiltAt_6 (by decide) ?_
  refine y_isub hg dX3_spiltAt_7 ?_
  refine ySNIP (Qp := _) (rest := []) (As := [.int v1, .int 0, .int ((sI σ a0 6) - 1)]) hg (k_X10_within (gL g.1) (gD g.1) v1 0 ((sI σ a0 6) - 1) σ _ h) lsn_X3_61 rfl rfl dX3_spiltAt_8 (cat8 (Nat.le_of_ble_eq_true rfl)) hrm ⟨Nat.le_of_ble_eq_true rfl, Nat.le_of_ble_eq_true rfl⟩ (fun x2 h => ?_)
  refine y_if_eq (tgt := 31) hg dX3_spiltAt_11 (by decide) (fun q3 => ?_) (fun q3 => ?_)
  · replace h := h.1 q3
    refine y_iconst (v := 0) hg dX3_spiltAt_31 (by decide) ?_
    exact yEndI hend rfl dX3_spiltAt_32 ⟨h, rfl⟩
  · replace h := h.2 q3
    refine y_aload_n hg 0 dX3_spiltAt_14 rfl rfl ?_
    refine y_getR hg fl_X3_12 rfl rfl h1 dX3_spiltAt_15 ?_
    refine y_iload_n hg 1 dX3_spiltAt_18 rfl rfl ?_
    obtain ⟨c4, h5, h⟩ := h
    obtain ⟨h6, h⟩ := h
    refine yVRP (Qp := _) (rest := []) (As := [.int v1]) hg (k_Jx4a65c_get_915e3 (gL g.1) (gD g.1) c4 v1 σ _ h) lv_X3_52 h5 h6 rfl rfl dX3_spiltAt_19 (cat8 (Nat.le_of_ble_eq_true rfl)) hrm ⟨Nat.le_of_ble_eq_true rfl, Nat.le_of_ble_eq_true rfl⟩ (fun r7 h => ?_)
    obtain ⟨c8, h9, h⟩ := h
    obtain ⟨h10, h⟩ := h
    refine y_cast (c := 7) hg (C := RX5) rfl (by decide) cl_X3_28 h9 h10 dX3_spiltAt_22 ?_
    refine y_getI hg fl_X3_115 rfl h9 h10 dX3_spiltAt_25 ?_
    refine y_goto (tgt := 32) hg dX3_spiltAt_28 (by decide) ?_
    exact yEndI hend rfl dX3_spiltAt_32 ⟨h, rfl⟩
def P_X7_add_B45 (a0 : Nat) (v1 : Int32) (v2 : Int32) (σ : Sg) (Q : Unit → Sg → Prop) (K3 : Int32 → Sg → Prop) : Prop :=
  ∀ x17 : Int32, x17 = v2 + (-8) → K3 x17 σ
def P_X7_add_L3b (a0 : Nat) (v1 : Int32) (v2 : Int32) (σ : Sg) (Q : Unit → Sg → Prop) (K3 : Int32 → Sg → Prop) : Prop :=
  (v2 < 0 → Q () σ) ∧ (¬ (v2 < 0) → sK σ a0 % 32 = 9 ∧ ∃ c3 : Nat, sR σ a0 1 = some c3 ∧ sK σ c3 % 32 = 16 ∧ ((nI (sN σ c3)) ≤ (sI σ a0 0) → P_X7_add_B45 a0 v1 v2 σ Q K3) ∧ (¬ ((nI (sN σ c3)) ≤ (sI σ a0 0)) → ∃ c7 : Nat, sR σ a0 1 = some c7 ∧ sK σ c7 % 32 = 16 ∧ vp_in (sI σ a0 0) (sN σ c7) ∧ ∀ σ11 : Sg, σ11 = pI σ c7 (sI σ a0 0).toNatClampNeg ((v1 >>> (v2 &&& 31)) &&& 255) → ∀ σ14 : Sg, σ14 = pI σ11 a0 0 ((sI σ11 a0 0) + 1) → P_X7_add_B45 a0 v1 v2 σ14 Q K3))
def P_X7_add_L3 (a0 : Nat) (v1 : Int32) (v2 : Int32) (σ : Sg) (Q : Unit → Sg → Prop) : Prop :=
  ∃ I : Nat → Int32 → Sg → Prop, (∃ n, I n v2 σ) ∧ ∀ (n : Nat) (v2 : Int32) (σ : Sg), I n v2 σ → P_X7_add_L3b a0 v1 v2 σ Q (fun v2 σ => ∃ n', n' < n ∧ I n' v2 σ)
def P_X7_add (a0 : Nat) (v1 : Int32) (σ : Sg) (Q : Unit → Sg → Prop) : Prop :=
  P_X7_add_L3 a0 v1 24 σ Q
set_option maxHeartbeats 4000000 in
set_option maxRecDepth 100000 in
theorem k_X7_add (l : Launch) (D : Dg) (a0 : Nat) (v1 : Int32) (σ : Sg) (Q : Unit → Sg → Prop) (h : P_X7_add a0 v1 σ Q) : CtrY RN l D yX7_add cX7_add 3 (none) 0 0 mkV [.ref a0, .int v1] σ (0, 0) Q := by
  refine y_ctrN (lv := [(0, va_rf (some a0)), (1, .int v1)]) (by decide) (by (exact Nat.le_of_ble_eq_true rfl)) (by (exact rfl)) (fun g hg hgL hgD hrm hgN hgI hend => ?_)
  subst hgD
  clear hgL
  unfold P_X7_add at h
  have J3 : ∀ (v1 : Int32) (v2 : Int32) (σ : Sg), P_X7_add_L3 a0 v1 v2 σ Q → XA g 3 [(0, va_rf (some a0)), (1, .int v1), (2, .int v2)] [] σ (0, 0) := by
    intro v1 v2 σ h
    unfold P_X7_add_L3 at h
    obtain ⟨I3, ⟨n3, hI3⟩, hs3⟩ := h
    have key3 : ∀ (n : Nat), ∀ (v2 : Int32) (σ : Sg), I3 n v2 σ → XA g 3 [(0, va_rf (some a0)), (1, .int v1), (2, .int v2)] [] σ (0, 0) := by
      intro n
      induction n using Nat.strongRecOn with
      | _ n ih3 =>
      intro v2 σ hI
      have h := hs3 n v2 σ hI
      clear hI hI3 hs3
      obtain ⟨K3, hK3⟩ : ∃ K : Int32 → Sg → Prop, K = (fun v2 σ => ∃ n', n' < n ∧ I3 n' v2 σ) := ⟨_, rfl⟩
      rw [← hK3] at h
      unfold P_X7_add_L3b at h
      have J45 : ∀ (v2 : Int32) (σ : Sg), P_X7_add_B45 a0 v1 v2 σ Q K3 → XA g 45 [(0, va_rf (some a0)), (1, .int v1), (2, .int v2)] [] σ (0, 0) := by
        intro v2 σ h
        unfold P_X7_add_B45 at h
        obtain ⟨x17, e18⟩ : ∃ y : Int32, y = v2 + (-8) := ⟨_, rfl⟩
        replace h := h x17 e18
        refine y_iinc (v := x17) (lv' := [(2, .int x17), (0, va_rf (some a0)), (1, .int v1)]) hg 2 dX7_add_45 rfl (by rw [e18]; rfl) (by rw [hgN]; decide) rfl ?_
        refine y_goto (tgt := 3) hg dX7_add_48 (by decide) ?_
        refine y_sub [1, 2, 0] rfl ?_
        subst hK3
        obtain ⟨n19, h20, h⟩ := h
        exact ih3 n19 h20 _ _ h
      refine y_iload_n hg 2 dX7_add_3 rfl rfl ?_
      refine y_if_lt (tgt := 51) hg dX7_add_4 (by decide) (fun q1 => ?_) (fun q1 => ?_)
      · replace h := h.1 q1
        exact yEndV hend dX7_add_51 h
      · replace h := h.2 q1
        refine y_aload_n hg 0 dX7_add_7 rfl rfl ?_
        obtain ⟨h2, h⟩ := h
        refine y_getI hg fl_X7_15 rfl rfl h2 dX7_add_8 ?_
        refine y_aload_n hg 0 dX7_add_11 rfl rfl ?_
        refine y_getR hg fl_X7_9 rfl rfl h2 dX7_add_12 ?_
        obtain ⟨c3, h4, h⟩ := h
        obtain ⟨h5, h⟩ := h
        refine y_alen hg h4 h5 (by decide) (by decide) dX7_add_15 ?_
        refine y_icmp_ge (tgt := 45) hg dX7_add_16 (by decide) (fun q6 => ?_) (fun q6 => ?_)
        · replace h := h.1 q6
          refine y_sub [0, 1, 2] rfl ?_
          exact J45 _ _ h
        · replace h := h.2 q6
          refine y_aload_n hg 0 dX7_add_19 rfl rfl ?_
          refine y_getR hg fl_X7_9 rfl rfl h2 dX7_add_20 ?_
          refine y_aload_n hg 0 dX7_add_23 rfl rfl ?_
          refine y_getI hg fl_X7_15 rfl rfl h2 dX7_add_24 ?_
          refine y_iload_n hg 1 dX7_add_27 rfl rfl ?_
          refine y_iload_n hg 2 dX7_add_28 rfl rfl ?_
          refine y_ishr hg dX7_add_29 ?_
          refine y_sipush (v := 255) hg dX7_add_30 (by decide) ?_
          refine y_iand hg dX7_add_33 ?_
          obtain ⟨c7, h8, h⟩ := h
          obtain ⟨h9, h⟩ := h
          obtain ⟨h10, h⟩ := h
          refine y_iast hg h8 h9 h10 dX7_add_34 ?_
          refine y_nmS (fun σ11 e12 => ?_)
          replace h := h σ11 e12
          have E13 : sK σ11 = sK σ := by rw [e12]; rfl
          refine y_aload_n hg 0 dX7_add_35 rfl rfl ?_
          refine y_dup hg dX7_add_36 rfl ?_
          refine y_getI hg fl_X7_15 rfl rfl (kq E13 h2) dX7_add_37 ?_
          refine y_iconst (v := 1) hg dX7_add_40 (by decide) ?_
          refine y_iadd hg dX7_add_41 ?_
          refine y_putI hg fw_X7_15 (fun z => nomatch z) rfl (kq E13 h2) dX7_add_42 ?_
          refine y_nmS (fun σ14 e15 => ?_)
          replace h := h σ14 e15
          have E16 : sK σ14 = sK σ11 := by rw [e15]; rfl
          refine y_sub [0, 1, 2] rfl ?_
          exact J45 _ _ h
    exact key3 n3 v2 σ hI3
  refine y_bipush (v := 24) hg dX7_add_0 (by decide) ?_
  refine y_istore_n (lv' := [(2, .int 24), (0, va_rf (some a0)), (1, .int v1)]) hg dX7_add_2 rfl (by rw [hgN]; decide) rfl ?_
  refine y_sub [1, 2, 0] rfl ?_
  exact J3 _ _ _ h
def P_X7_byteAt_B30 (a0 : Nat) (σ : Sg) (Q : Int32 → Prop) : Prop :=
  Q (-1)
def P_X7_byteAt (a0 : Nat) (v1 : Int32) (σ : Sg) (Q : Int32 → Prop) : Prop :=
  (v1 < 0 → P_X7_byteAt_B30 a0 σ Q) ∧ (¬ (v1 < 0) → sK σ a0 % 32 = 9 ∧ ((sI σ a0 2) ≤ v1 → P_X7_byteAt_B30 a0 σ Q) ∧ (¬ ((sI σ a0 2) ≤ v1) → ∃ c4 : Nat, sR σ a0 1 = some c4 ∧ sK σ c4 % 32 = 16 ∧ ((nI (sN σ c4)) ≤ v1 → P_X7_byteAt_B30 a0 σ Q) ∧ (¬ ((nI (sN σ c4)) ≤ v1) → ∃ c8 : Nat, sR σ a0 1 = some c8 ∧ sK σ c8 % 32 = 16 ∧ vp_in v1 (sN σ c8) ∧ Q (sI σ c8 v1.toNatClampNeg))))
set_option maxHeartbeats 4000000 in
set_option maxRecDepth 100000 in
theorem k_X7_byteAt (l : Launch) (D : Dg) (a0 : Nat) (v1 : Int32) (σ : Sg) (Q : Int32 → Prop) (h : P_X7_byteAt a0 v1 σ Q) : CtrY RN l D yX7_byteAt cX7_byteAt 2 (some FieldType.int) 0 0 mkI [.ref a0, .int v1] σ (0, 0) (fun r σ2 => Q r ∧ σ2 = σ) := by
  refine y_ctrN (lv := [(0, va_rf (some a0)), (1, .int v1)]) (by decide) (by (exact Nat.le_of_ble_eq_true rfl)) (by (exact rfl)) (fun g hg hgL hgD hrm hgN hgI hend => ?_)
  subst hgD
  clear hgL
  unfold P_X7_byteAt at h
  have J30 : P_X7_byteAt_B30 a0 σ Q → XA g 30 [(0, va_rf (some a0))] [] σ (0, 0) := by
    intro  h
    unfold P_X7_byteAt_B30 at h
    refine y_iconst (v := (-1)) hg dX7_byteAt_30 (by decide) ?_
    exact yEndI hend rfl dX7_byteAt_31 ⟨h, rfl⟩
  refine y_iload_n hg 1 dX7_byteAt_0 rfl rfl ?_
  refine y_if_lt (tgt := 30) hg dX7_byteAt_1 (by decide) (fun q1 => ?_) (fun q1 => ?_)
  · replace h := h.1 q1
    refine y_sub [0] rfl ?_
    exact J30  h
  · replace h := h.2 q1
    refine y_iload_n hg 1 dX7_byteAt_4 rfl rfl ?_
    refine y_aload_n hg 0 dX7_byteAt_5 rfl rfl ?_
    obtain ⟨h2, h⟩ := h
    refine y_getI hg fl_X7_19 rfl rfl h2 dX7_byteAt_6 ?_
    refine y_icmp_ge (tgt := 30) hg dX7_byteAt_9 (by decide) (fun q3 => ?_) (fun q3 => ?_)
    · replace h := h.1 q3
      refine y_sub [0] rfl ?_
      exact J30  h
    · replace h := h.2 q3
      refine y_iload_n hg 1 dX7_byteAt_12 rfl rfl ?_
      refine y_aload_n hg 0 dX7_byteAt_13 rfl rfl ?_
      refine y_getR hg fl_X7_9 rfl rfl h2 dX7_byteAt_14 ?_
      obtain ⟨c4, h5, h⟩ := h
      obtain ⟨h6, h⟩ := h
      refine y_alen hg h5 h6 (by decide) (by decide) dX7_byteAt_17 ?_
      refine y_icmp_ge (tgt := 30) hg dX7_byteAt_18 (by decide) (fun q7 => ?_) (fun q7 => ?_)
      · replace h := h.1 q7
        refine y_sub [0] rfl ?_
        exact J30  h
      · replace h := h.2 q7
        refine y_aload_n hg 0 dX7_byteAt_21 rfl rfl ?_
        refine y_getR hg fl_X7_9 rfl rfl h2 dX7_byteAt_22 ?_
        refine y_iload_n hg 1 dX7_byteAt_25 rfl rfl ?_
        obtain ⟨c8, h9, h⟩ := h
        obtain ⟨h10, h⟩ := h
        obtain ⟨h11, h⟩ := h
        refine y_iald hg h9 h10 h11 dX7_byteAt_26 ?_
        refine y_goto (tgt := 31) hg dX7_byteAt_27 (by decide) ?_
        exact yEndI hend rfl dX7_byteAt_31 ⟨h, rfl⟩
def P_X7_kindOf_B40 (σ : Sg) (Q : Int32 → Prop) : Prop :=
  Q 1
def P_X7_kindOf_B28 (v0 : Int32) (σ : Sg) (Q : Int32 → Prop) : Prop :=
  (v0 = 32 → P_X7_kindOf_B40 σ Q) ∧ (¬ (v0 = 32) → (v0 = 10 → P_X7_kindOf_B40 σ Q) ∧ (¬ (v0 = 10) → Q 0))
def P_X7_kindOf_B14 (v0 : Int32) (σ : Sg) (Q : Int32 → Prop) : Prop :=
  (v0 < 48 → P_X7_kindOf_B28 v0 σ Q) ∧ (¬ (v0 < 48) → (57 < v0 → P_X7_kindOf_B28 v0 σ Q) ∧ (¬ (57 < v0) → Q 3))
def P_X7_kindOf (v0 : Int32) (σ : Sg) (Q : Int32 → Prop) : Prop :=
  (v0 < 97 → P_X7_kindOf_B14 v0 σ Q) ∧ (¬ (v0 < 97) → (122 < v0 → P_X7_kindOf_B14 v0 σ Q) ∧ (¬ (122 < v0) → Q 2))
set_option maxHeartbeats 4000000 in
set_option maxRecDepth 100000 in
theorem k_X7_kindOf (l : Launch) (D : Dg) (v0 : Int32) (σ : Sg) (Q : Int32 → Prop) (h : P_X7_kindOf v0 σ Q) : CtrY RN l D yX7_kindOf cX7_kindOf 1 (some FieldType.int) 0 0 mkI [.int v0] σ (0, 0) (fun r σ2 => Q r ∧ σ2 = σ) := by
  refine y_ctrN (lv := [(0, .int v0)]) (by decide) (by (exact Nat.le_of_ble_eq_true rfl)) (by (exact rfl)) (fun g hg hgL hgD hrm hgN hgI hend => ?_)
  subst hgD
  clear hgL
  unfold P_X7_kindOf at h
  have J40 : P_X7_kindOf_B40 σ Q → XA g 40 [] [] σ (0, 0) := by
    intro  h
    unfold P_X7_kindOf_B40 at h
    refine y_iconst (v := 1) hg dX7_kindOf_40 (by decide) ?_
    refine y_goto (tgt := 45) hg dX7_kindOf_41 (by decide) ?_
    exact yEndI hend rfl dX7_kindOf_45 ⟨h, rfl⟩
  have J28 : ∀ (v0 : Int32), P_X7_kindOf_B28 v0 σ Q → XA g 28 [(0, .int v0)] [] σ (0, 0) := by
    intro v0 h
    unfold P_X7_kindOf_B28 at h
    refine y_iload_n hg 0 dX7_kindOf_28 rfl rfl ?_
    refine y_bipush (v := 32) hg dX7_kindOf_29 (by decide) ?_
    refine y_icmp_eq (tgt := 40) hg dX7_kindOf_31 (by decide) (fun q5 => ?_) (fun q5 => ?_)
    · replace h := h.1 q5
      refine y_sub [] rfl ?_
      exact J40  h
    · replace h := h.2 q5
      refine y_iload_n hg 0 dX7_kindOf_34 rfl rfl ?_
      refine y_bipush (v := 10) hg dX7_kindOf_35 (by decide) ?_
      refine y_icmp_ne (tgt := 44) hg dX7_kindOf_37 (by decide) (fun q6 => ?_) (fun q6 => ?_)
      · replace h := h.2 q6
        refine y_iconst (v := 0) hg dX7_kindOf_44 (by decide) ?_
        exact yEndI hend rfl dX7_kindOf_45 ⟨h, rfl⟩
      · replace h := h.1 q6
        refine y_sub [] rfl ?_
        exact J40  h
  have J14 : ∀ (v0 : Int32), P_X7_kindOf_B14 v0 σ Q → XA g 14 [(0, .int v0)] [] σ (0, 0) := by
    intro v0 h
    unfold P_X7_kindOf_B14 at h
    refine y_iload_n hg 0 dX7_kindOf_14 rfl rfl ?_
    refine y_bipush (v := 48) hg dX7_kindOf_15 (by decide) ?_
    refine y_icmp_lt (tgt := 28) hg dX7_kindOf_17 (by decide) (fun q3 => ?_) (fun q3 => ?_)
    · replace h := h.1 q3
      refine y_sub [0] rfl ?_
      exact J28 _ h
    · replace h := h.2 q3
      refine y_iload_n hg 0 dX7_kindOf_20 rfl rfl ?_
      refine y_bipush (v := 57) hg dX7_kindOf_21 (by decide) ?_
      refine y_icmp_gt (tgt := 28) hg dX7_kindOf_23 (by decide) (fun q4 => ?_) (fun q4 => ?_)
      · replace h := h.1 q4
        refine y_sub [0] rfl ?_
        exact J28 _ h
      · replace h := h.2 q4
        refine y_iconst (v := 3) hg dX7_kindOf_26 (by decide) ?_
        exact yEndI hend rfl dX7_kindOf_27 ⟨h, rfl⟩
  refine y_iload_n hg 0 dX7_kindOf_0 rfl rfl ?_
  refine y_bipush (v := 97) hg dX7_kindOf_1 (by decide) ?_
  refine y_icmp_lt (tgt := 14) hg dX7_kindOf_3 (by decide) (fun q1 => ?_) (fun q1 => ?_)
  · replace h := h.1 q1
    refine y_sub [0] rfl ?_
    exact J14 _ h
  · replace h := h.2 q1
    refine y_iload_n hg 0 dX7_kindOf_6 rfl rfl ?_
    refine y_bipush (v := 122) hg dX7_kindOf_7 (by decide) ?_
    refine y_icmp_gt (tgt := 14) hg dX7_kindOf_9 (by decide) (fun q2 => ?_) (fun q2 => ?_)
    · replace h := h.1 q2
      refine y_sub [0] rfl ?_
      exact J14 _ h
    · replace h := h.2 q2
      refine y_iconst (v := 2) hg dX7_kindOf_12 (by decide) ?_
      exact yEndI hend rfl dX7_kindOf_13 ⟨h, rfl⟩
def P_X7_step_L76b (a0 : Nat) (v1 : Int32) (σ : Sg) (Q : Unit → Sg → Prop) (K76 : Sg → Prop) : Prop :=
  sK σ a0 % 32 = 9 ∧ ((sI σ a0 2) ≤ (sI σ a0 4) → Q () σ) ∧ (¬ ((sI σ a0 2) ≤ (sI σ a0 4)) → (v1 = 0 → Q () σ) ∧ (¬ (v1 = 0) → P_X7_byteAt a0 (sI σ a0 4) σ (fun x26 => P_X7_kindOf x26 σ (fun x27 => (x27 = v1 → ∀ σ29 : Sg, σ29 = pI σ a0 4 ((sI σ a0 4) + 1) → K76 σ29) ∧ (¬ (x27 = v1) → Q () σ)))))
def P_X7_step_L76 (a0 : Nat) (v1 : Int32) (σ : Sg) (Q : Unit → Sg → Prop) : Prop :=
  ∃ I : Nat → Sg → Prop, (∃ n, I n σ) ∧ ∀ (n : Nat) (σ : Sg), I n σ → P_X7_step_L76b a0 v1 σ Q (fun σ => ∃ n', n' < n ∧ I n' σ)
def P_X7_step_B47 (a0 : Nat) (σ : Sg) (Q : Unit → Sg → Prop) : Prop :=
  sK σ a0 % 32 = 9 ∧ P_X7_byteAt a0 (sI σ a0 3) σ (fun x16 => P_X7_kindOf x16 σ (fun x17 => ∀ x18 : Int32, x18 = (if (sI σ a0 2) < ((sI σ a0 3) + 1) then (sI σ a0 2) else ((sI σ a0 3) + 1)) → ∀ σ20 : Sg, σ20 = pI σ a0 4 x18 → P_X7_step_L76 a0 x17 σ20 Q))
def P_X7_step_L8b (a0 : Nat) (σ : Sg) (Q : Unit → Sg → Prop) (K8 : Sg → Prop) : Prop :=
  sK σ a0 % 32 = 9 ∧ ((sI σ a0 2) ≤ (sI σ a0 3) → P_X7_step_B47 a0 σ Q) ∧ (¬ ((sI σ a0 2) ≤ (sI σ a0 3)) → P_X7_byteAt a0 (sI σ a0 3) σ (fun x7 => P_X7_kindOf x7 σ (fun x8 => (x8 = 1 → ∀ σ10 : Sg, σ10 = pI σ a0 3 ((sI σ a0 3) + 1) → K8 σ10) ∧ (¬ (x8 = 1) → P_X7_step_B47 a0 σ Q))))
def P_X7_step_L8 (a0 : Nat) (σ : Sg) (Q : Unit → Sg → Prop) : Prop :=
  ∃ I : Nat → Sg → Prop, (∃ n, I n σ) ∧ ∀ (n : Nat) (σ : Sg), I n σ → P_X7_step_L8b a0 σ Q (fun σ => ∃ n', n' < n ∧ I n' σ)
def P_X7_step (a0 : Nat) (σ : Sg) (Q : Unit → Sg → Prop) : Prop :=
  sK σ a0 % 32 = 9 ∧ ∀ σ2 : Sg, σ2 = pI σ a0 3 (sI σ a0 4) → P_X7_step_L8 a0 σ2 Q
set_option maxHeartbeats 4000000 in
set_option maxRecDepth 100000 in
theorem k_X7_step (l : Launch) (D : Dg) (a0 : Nat) (σ : Sg) (Q : Unit → Sg → Prop) (h : P_X7_step a0 σ Q) : CtrY RN l D yX7_step cX7_step 2 (none) 1 30 mkV [.ref a0] σ (0, 0) Q := by
  refine y_ctrN (lv := [(0, va_rf (some a0))]) (by decide) (by (exact Nat.le_of_ble_eq_true rfl)) (by (exact rfl)) (fun g hg hgL hgD hrm hgN hgI hend => ?_)
  subst hgD
  clear hgL
  unfold P_X7_step at h
  have J76 : ∀ (v1 : Int32) (σ : Sg), P_X7_step_L76 a0 v1 σ Q → XA g 76 [(0, va_rf (some a0)), (1, .int v1)] [] σ (0, 0) := by
    intro v1 σ h
    unfold P_X7_step_L76 at h
    obtain ⟨I76, ⟨n76, hI76⟩, hs76⟩ := h
    have key76 : ∀ (n : Nat), ∀ (σ : Sg), I76 n σ → XA g 76 [(0, va_rf (some a0)), (1, .int v1)] [] σ (0, 0) := by
      intro n
      induction n using Nat.strongRecOn with
      | _ n ih76 =>
      intro σ hI
      have h := hs76 n σ hI
      clear hI hI76 hs76
      obtain ⟨K76, hK76⟩ : ∃ K : Sg → Prop, K = (fun σ => ∃ n', n' < n ∧ I76 n' σ) := ⟨_, rfl⟩
      rw [← hK76] at h
      unfold P_X7_step_L76b at h
      refine y_aload_n hg 0 dX7_step_76 rfl rfl ?_
      obtain ⟨h23, h⟩ := h
      refine y_getI hg fl_X7_25 rfl rfl h23 dX7_step_77 ?_
      refine y_aload_n hg 0 dX7_step_80 rfl rfl ?_
      refine y_getI hg fl_X7_19 rfl rfl h23 dX7_step_81 ?_
      refine y_icmp_ge (tgt := 119) hg dX7_step_84 (by decide) (fun q24 => ?_) (fun q24 => ?_)
      · replace h := h.1 q24
        exact yEndV hend dX7_step_119 h
      · replace h := h.2 q24
        refine y_iload_n hg 1 dX7_step_87 rfl rfl ?_
        refine y_if_eq (tgt := 119) hg dX7_step_88 (by decide) (fun q25 => ?_) (fun q25 => ?_)
        · replace h := h.1 q25
          exact yEndV hend dX7_step_119 h
        · replace h := h.2 q25
          refine y_aload_n hg 0 dX7_step_91 rfl rfl ?_
          refine y_aload_n hg 0 dX7_step_92 rfl rfl ?_
          refine y_getI hg fl_X7_25 rfl rfl h23 dX7_step_93 ?_
          refine yVIP (Qp := _) (rest := []) (As := [.int (sI σ a0 4)]) hg (k_X7_byteAt (gL g.1) (gD g.1) a0 (sI σ a0 4) σ _ h) lv_X7_119 rfl h23 rfl rfl dX7_step_96 (cat8 (Nat.le_of_ble_eq_true rfl)) hrm ⟨Nat.le_of_ble_eq_true rfl, Nat.le_of_ble_eq_true rfl⟩ (fun x26 h => ?_)
          refine ySIP (Qp := _) (rest := []) (As := [.int x26]) hg (k_X7_kindOf (gL g.1) (gD g.1) x26 σ _ h) ls_X7_123 rfl rfl dX7_step_99 (cat8 (Nat.le_of_ble_eq_true rfl)) hrm ⟨Nat.le_of_ble_eq_true rfl, Nat.le_of_ble_eq_true rfl⟩ (fun x27 h => ?_)
          refine y_iload_n hg 1 dX7_step_102 rfl rfl ?_
          refine y_icmp_ne (tgt := 119) hg dX7_step_103 (by decide) (fun q28 => ?_) (fun q28 => ?_)
          · replace h := h.2 q28
            exact yEndV hend dX7_step_119 h
          · replace h := h.1 q28
            refine y_aload_n hg 0 dX7_step_106 rfl rfl ?_
            refine y_dup hg dX7_step_107 rfl ?_
            refine y_getI hg fl_X7_25 rfl rfl h23 dX7_step_108 ?_
            refine y_iconst (v := 1) hg dX7_step_111 (by decide) ?_
            refine y_iadd hg dX7_step_112 ?_
            refine y_putI hg fw_X7_25 (fun z => nomatch z) rfl h23 dX7_step_113 ?_
            refine y_nmS (fun σ29 e30 => ?_)
            replace h := h σ29 e30
            have E31 : sK σ29 = sK σ := by rw [e30]; rfl
            refine y_goto (tgt := 76) hg dX7_step_116 (by decide) ?_
            refine y_sub [0, 1] rfl ?_
            subst hK76
            obtain ⟨n32, h33, h⟩ := h
            exact ih76 n32 h33 _ h
    exact key76 n76 σ hI76
  have J47 : ∀ (σ : Sg), P_X7_step_B47 a0 σ Q → XA g 47 [(0, va_rf (some a0))] [] σ (0, 0) := by
    intro σ h
    unfold P_X7_step_B47 at h
    refine y_aload_n hg 0 dX7_step_47 rfl rfl ?_
    refine y_aload_n hg 0 dX7_step_48 rfl rfl ?_
    obtain ⟨h15, h⟩ := h
    refine y_getI hg fl_X7_31 rfl rfl h15 dX7_step_49 ?_
    refine yVIP (Qp := _) (rest := []) (As := [.int (sI σ a0 3)]) hg (k_X7_byteAt (gL g.1) (gD g.1) a0 (sI σ a0 3) σ _ h) lv_X7_119 rfl h15 rfl rfl dX7_step_52 (cat8 (Nat.le_of_ble_eq_true rfl)) hrm ⟨Nat.le_of_ble_eq_true rfl, Nat.le_of_ble_eq_true rfl⟩ (fun x16 h => ?_)
    refine ySIP (Qp := _) (rest := []) (As := [.int x16]) hg (k_X7_kindOf (gL g.1) (gD g.1) x16 σ _ h) ls_X7_123 rfl rfl dX7_step_55 (cat8 (Nat.le_of_ble_eq_true rfl)) hrm ⟨Nat.le_of_ble_eq_true rfl, Nat.le_of_ble_eq_true rfl⟩ (fun x17 h => ?_)
    refine y_istore_n (lv' := [(1, .int x17), (0, va_rf (some a0))]) hg dX7_step_58 rfl (by rw [hgN]; decide) rfl ?_
    refine y_aload_n hg 1 dX7_step_59 rfl rfl ?_
    refine y_aload_n hg 1 dX7_step_60 rfl rfl ?_
    refine y_getI hg fl_X7_31 rfl rfl h15 dX7_step_61 ?_
    refine y_iconst (v := 1) hg dX7_step_64 (by decide) ?_
    refine y_iadd hg dX7_step_65 ?_
    refine y_aload_n hg 1 dX7_step_66 rfl rfl ?_
    refine y_getI hg fl_X7_19 rfl rfl h15 dX7_step_67 ?_
    refine y_mmin hg mm_X7_145 (cat8 (Nat.le_of_ble_eq_true rfl)) hrm ⟨Nat.le_of_ble_eq_true rfl, Nat.le_of_ble_eq_true rfl⟩ dX7_step_70 ?_
    refine y_nmI (fun x18 e19 => ?_)
    replace h := h x18 e19
    refine y_putI hg fw_X7_25 (fun z => nomatch z) rfl h15 dX7_step_73 ?_
    refine y_nmS (fun σ20 e21 => ?_)
    replace h := h σ20 e21
    have E22 : sK σ20 = sK σ := by rw [e21]; rfl
    refine y_sub [1, 0] rfl ?_
    exact J76 _ _ h
  have J8 : ∀ (σ : Sg), P_X7_step_L8 a0 σ Q → XA g 8 [(0, va_rf (some a0))] [] σ (0, 0) := by
    intro σ h
    unfold P_X7_step_L8 at h
    obtain ⟨I8, ⟨n8, hI8⟩, hs8⟩ := h
    have key8 : ∀ (n : Nat), ∀ (σ : Sg), I8 n σ → XA g 8 [(0, va_rf (some a0))] [] σ (0, 0) := by
      intro n
      induction n using Nat.strongRecOn with
      | _ n ih8 =>
      intro σ hI
      have h := hs8 n σ hI
      clear hI hI8 hs8
      obtain ⟨K8, hK8⟩ : ∃ K : Sg → Prop, K = (fun σ => ∃ n', n' < n ∧ I8 n' σ) := ⟨_, rfl⟩
      rw [← hK8] at h
      unfold P_X7_step_L8b at h
      refine y_aload_n hg 0 dX7_step_8 rfl rfl ?_
      obtain ⟨h5, h⟩ := h
      refine y_getI hg fl_X7_31 rfl rfl h5 dX7_step_9 ?_
      refine y_aload_n hg 0 dX7_step_12 rfl rfl ?_
      refine y_getI hg fl_X7_19 rfl rfl h5 dX7_step_13 ?_
      refine y_icmp_ge (tgt := 47) hg dX7_step_16 (by decide) (fun q6 => ?_) (fun q6 => ?_)
      · replace h := h.1 q6
        refine y_sub [0] rfl ?_
        exact J47 _ h
      · replace h := h.2 q6
        refine y_aload_n hg 0 dX7_step_19 rfl rfl ?_
        refine y_aload_n hg 0 dX7_step_20 rfl rfl ?_
        refine y_getI hg fl_X7_31 rfl rfl h5 dX7_step_21 ?_
        refine yVIP (Qp := _) (rest := []) (As := [.int (sI σ a0 3)]) hg (k_X7_byteAt (gL g.1) (gD g.1) a0 (sI σ a0 3) σ _ h) lv_X7_119 rfl h5 rfl rfl dX7_step_24 (cat8 (Nat.le_of_ble_eq_true rfl)) hrm ⟨Nat.le_of_ble_eq_true rfl, Nat.le_of_ble_eq_true rfl⟩ (fun x7 h => ?_)
        refine ySIP (Qp := _) (rest := []) (As := [.int x7]) hg (k_X7_kindOf (gL g.1) (gD g.1) x7 σ _ h) ls_X7_123 rfl rfl dX7_step_27 (cat8 (Nat.le_of_ble_eq_true rfl)) hrm ⟨Nat.le_of_ble_eq_true rfl, Nat.le_of_ble_eq_true rfl⟩ (fun x8 h => ?_)
        refine y_iconst (v := 1) hg dX7_step_30 (by decide) ?_
        refine y_icmp_ne (tgt := 47) hg dX7_step_31 (by decide) (fun q9 => ?_) (fun q9 => ?_)
        · replace h := h.2 q9
          refine y_sub [0] rfl ?_
          exact J47 _ h
        · replace h := h.1 q9
          refine y_aload_n hg 0 dX7_step_34 rfl rfl ?_
          refine y_dup hg dX7_step_35 rfl ?_
          refine y_getI hg fl_X7_31 rfl rfl h5 dX7_step_36 ?_
          refine y_iconst (v := 1) hg dX7_step_39 (by decide) ?_
          refine y_iadd hg dX7_step_40 ?_
          refine y_putI hg fw_X7_31 (fun z => nomatch z) rfl h5 dX7_step_41 ?_
          refine y_nmS (fun σ10 e11 => ?_)
          replace h := h σ10 e11
          have E12 : sK σ10 = sK σ := by rw [e11]; rfl
          refine y_goto (tgt := 8) hg dX7_step_44 (by decide) ?_
          refine y_sub [0] rfl ?_
          subst hK8
          obtain ⟨n13, h14, h⟩ := h
          exact ih8 n13 h14 _ h
    exact key8 n8 σ hI8
  refine y_aload_n hg 0 dX7_step_0 rfl rfl ?_
  refine y_aload_n hg 0 dX7_step_1 rfl rfl ?_
  obtain ⟨h1, h⟩ := h
  refine y_getI hg fl_X7_25 rfl rfl h1 dX7_step_2 ?_
  refine y_putI hg fw_X7_31 (fun z => nomatch z) rfl h1 dX7_step_5 ?_
  refine y_nmS (fun σ2 e3 => ?_)
  replace h := h σ2 e3
  have E4 : sK σ2 = sK σ := by rw [e3]; rfl
  refine y_sub [0] rfl ?_
  exact J8 _ h
def P_X7_isToken_L20b (a0 : Nat) (v1 : Nat) (v2 : Int32) (σ : Sg) (Q : Int32 → Prop) (K20 : Int32 → Prop) : Prop :=
  v1 < nJS ∧ ∀ s0 : Sg, P_sJ0_length_8abf5 v1 s0 (fun x6 => (x6 ≤ v2 → Q 1) ∧ (¬ (x6 ≤ v2) → sK σ a0 % 32 = 9 ∧ P_X7_byteAt a0 ((sI σ a0 3) + v2) σ (fun x9 => v1 < nJS ∧ ∀ s0 : Sg, P_sJ0_charAt_5068e v1 v2 s0 (fun x11 => (x9 = x11 → ∀ x13 : Int32, x13 = v2 + 1 → K20 x13) ∧ (¬ (x9 = x11) → Q 0)))))
def P_X7_isToken_L20 (a0 : Nat) (v1 : Nat) (v2 : Int32) (σ : Sg) (Q : Int32 → Prop) : Prop :=
  ∃ I : Nat → Int32 → Prop, (∃ n, I n v2) ∧ ∀ (n : Nat) (v2 : Int32), I n v2 → P_X7_isToken_L20b a0 v1 v2 σ Q (fun v2 => ∃ n', n' < n ∧ I n' v2)
def P_X7_isToken (a0 : Nat) (v1 : Nat) (σ : Sg) (Q : Int32 → Prop) : Prop :=
  sK σ a0 % 32 = 9 ∧ v1 < nJS ∧ ∀ s0 : Sg, P_sJ0_length_8abf5 v1 s0 (fun x3 => (((sI σ a0 4) - (sI σ a0 3)) = x3 → P_X7_isToken_L20 a0 v1 0 σ Q) ∧ (¬ (((sI σ a0 4) - (sI σ a0 3)) = x3) → Q 0))
set_option maxHeartbeats 4000000 in
set_option maxRecDepth 100000 in
theorem k_X7_isToken (l : Launch) (D : Dg) (a0 : Nat) (v1 : Nat) (σ : Sg) (Q : Int32 → Prop) (h : P_X7_isToken a0 v1 σ Q) : CtrY RN l D yX7_isToken cX7_isToken 3 (some FieldType.boolean) 4 85 mkI [.ref a0, .ref (100 + v1)] σ (0, 0) (fun r σ2 => Q r ∧ σ2 = σ) := by
  refine y_ctrN (lv := [(0, va_rf (some a0)), (1, .ref (100 + v1))]) (by decide) (by (exact Nat.le_of_ble_eq_true rfl)) (by (exact rfl)) (fun g hg hgL hgD hrm hgN hgI hend => ?_)
  subst hgD
  clear hgL
  unfold P_X7_isToken at h
  have J20 : ∀ (v1 : Nat) (v2 : Int32), P_X7_isToken_L20 a0 v1 v2 σ Q → XA g 20 [(0, va_rf (some a0)), (1, .ref (100 + v1)), (2, .int v2)] [] σ (0, 0) := by
    intro v1 v2 h
    unfold P_X7_isToken_L20 at h
    obtain ⟨I20, ⟨n20, hI20⟩, hs20⟩ := h
    have key20 : ∀ (n : Nat), ∀ (v2 : Int32), I20 n v2 → XA g 20 [(0, va_rf (some a0)), (1, .ref (100 + v1)), (2, .int v2)] [] σ (0, 0) := by
      intro n
      induction n using Nat.strongRecOn with
      | _ n ih20 =>
      intro v2 hI
      have h := hs20 n v2 hI
      clear hI hI20 hs20
      obtain ⟨K20, hK20⟩ : ∃ K : Int32 → Prop, K = (fun v2 => ∃ n', n' < n ∧ I20 n' v2) := ⟨_, rfl⟩
      rw [← hK20] at h
      unfold P_X7_isToken_L20b at h
      refine y_iload_n hg 2 dX7_isToken_20 rfl rfl ?_
      refine y_sload_n 1 hg dX7_isToken_21 rfl rfl ?_
      obtain ⟨h5, h⟩ := h
      refine yTIP (Qp := _) (rest := [.int v2]) (As := []) hg (fun s0 => k_sJ0_length_8abf5 (gL g.1) (gD g.1) v1 s0 _ (h s0)) lt_X7_137 h5 rfl (fun _ => rfl) rfl dX7_isToken_22 (cat8 (Nat.le_of_ble_eq_true rfl)) hrm ⟨Nat.le_of_ble_eq_true rfl, Nat.le_of_ble_eq_true rfl⟩ (fun x6 h => ?_)
      refine y_icmp_ge (tgt := 54) hg dX7_isToken_25 (by decide) (fun q7 => ?_) (fun q7 => ?_)
      · replace h := h.1 q7
        refine y_iconst (v := 1) hg dX7_isToken_54 (by decide) ?_
        exact yEndI hend (bz_nar (Or.inr rfl)).1 dX7_isToken_55 ⟨h, rfl⟩
      · replace h := h.2 q7
        refine y_aload_n hg 0 dX7_isToken_28 rfl rfl ?_
        refine y_aload_n hg 0 dX7_isToken_29 rfl rfl ?_
        obtain ⟨h8, h⟩ := h
        refine y_getI hg fl_X7_31 rfl rfl h8 dX7_isToken_30 ?_
        refine y_iload_n hg 2 dX7_isToken_33 rfl rfl ?_
        refine y_iadd hg dX7_isToken_34 ?_
        refine yVIP (Qp := _) (rest := []) (As := [.int ((sI σ a0 3) + v2)]) hg (k_X7_byteAt (gL g.1) (gD g.1) a0 ((sI σ a0 3) + v2) σ _ h) lv_X7_119 rfl h8 rfl rfl dX7_isToken_35 (cat8 (Nat.le_of_ble_eq_true rfl)) hrm ⟨Nat.le_of_ble_eq_true rfl, Nat.le_of_ble_eq_true rfl⟩ (fun x9 h => ?_)
        refine y_sload_n 1 hg dX7_isToken_38 rfl rfl ?_
        refine y_iload_n hg 2 dX7_isToken_39 rfl rfl ?_
        obtain ⟨h10, h⟩ := h
        refine yTIP (Qp := _) (rest := [.int x9]) (As := [.int v2]) hg (fun s0 => k_sJ0_charAt_5068e (gL g.1) (gD g.1) v1 v2 s0 _ (h s0)) lt_X7_141 h10 rfl (fun _ => rfl) rfl dX7_isToken_40 (cat8 (Nat.le_of_ble_eq_true rfl)) hrm ⟨Nat.le_of_ble_eq_true rfl, Nat.le_of_ble_eq_true rfl⟩ (fun x11 h => ?_)
        refine y_icmp_eq (tgt := 48) hg dX7_isToken_43 (by decide) (fun q12 => ?_) (fun q12 => ?_)
        · replace h := h.1 q12
          obtain ⟨x13, e14⟩ : ∃ y : Int32, y = v2 + 1 := ⟨_, rfl⟩
          replace h := h x13 e14
          refine y_iinc (v := x13) (lv' := [(2, .int x13), (0, va_rf (some a0)), (1, .ref (100 + v1))]) hg 2 dX7_isToken_48 rfl (by rw [e14]; rfl) (by rw [hgN]; decide) rfl ?_
          refine y_goto (tgt := 20) hg dX7_isToken_51 (by decide) ?_
          refine y_sub [1, 2, 0] rfl ?_
          subst hK20
          obtain ⟨n15, h16, h⟩ := h
          exact ih20 n15 h16 _ h
        · replace h := h.2 q12
          refine y_iconst (v := 0) hg dX7_isToken_46 (by decide) ?_
          exact yEndI hend (bz_nar (Or.inl rfl)).1 dX7_isToken_47 ⟨h, rfl⟩
    exact key20 n20 v2 hI20
  refine y_aload_n hg 0 dX7_isToken_0 rfl rfl ?_
  obtain ⟨h1, h⟩ := h
  refine y_getI hg fl_X7_25 rfl rfl h1 dX7_isToken_1 ?_
  refine y_aload_n hg 0 dX7_isToken_4 rfl rfl ?_
  refine y_getI hg fl_X7_31 rfl rfl h1 dX7_isToken_5 ?_
  refine y_isub hg dX7_isToken_8 ?_
  refine y_sload_n 1 hg dX7_isToken_9 rfl rfl ?_
  obtain ⟨h2, h⟩ := h
  refine yTIP (Qp := _) (rest := [.int ((sI σ a0 4) - (sI σ a0 3))]) (As := []) hg (fun s0 => k_sJ0_length_8abf5 (gL g.1) (gD g.1) v1 s0 _ (h s0)) lt_X7_137 h2 rfl (fun _ => rfl) rfl dX7_isToken_10 (cat8 (Nat.le_of_ble_eq_true rfl)) hrm ⟨Nat.le_of_ble_eq_true rfl, Nat.le_of_ble_eq_true rfl⟩ (fun x3 h => ?_)
  refine y_icmp_eq (tgt := 18) hg dX7_isToken_13 (by decide) (fun q4 => ?_) (fun q4 => ?_)
  · replace h := h.1 q4
    refine y_iconst (v := 0) hg dX7_isToken_18 (by decide) ?_
    refine y_istore_n (lv' := [(2, .int 0), (0, va_rf (some a0)), (1, .ref (100 + v1))]) hg dX7_isToken_19 rfl (by rw [hgN]; decide) rfl ?_
    refine y_sub [1, 2, 0] rfl ?_
    exact J20 _ _ h
  · replace h := h.2 q4
    refine y_iconst (v := 0) hg dX7_isToken_16 (by decide) ?_
    exact yEndI hend (bz_nar (Or.inl rfl)).1 dX7_isToken_17 ⟨h, rfl⟩
def P_X7_skips (a0 : Nat) (v1 : Nat) (σ : Sg) (Q : Int32 → Sg → Prop) : Prop :=
  sK σ a0 % 32 = 9 ∧ P_X7_isToken a0 v1 σ (fun x2 => (x2 = 0 → bz x2 ∧ Q x2 σ) ∧ (¬ (x2 = 0) → P_X7_step a0 σ (fun _ σ6 => bz x2 ∧ Q x2 σ6)))
set_option maxHeartbeats 4000000 in
set_option maxRecDepth 100000 in
theorem k_X7_skips (l : Launch) (D : Dg) (a0 : Nat) (v1 : Nat) (σ : Sg) (Q : Int32 → Sg → Prop) (h : P_X7_skips a0 v1 σ Q) : CtrY RN l D yX7_skips cX7_skips 3 (some FieldType.boolean) 5 107 mkI [.ref a0, .ref (100 + v1)] σ (0, 0) Q := by
  refine y_ctrN (lv := [(0, va_rf (some a0)), (1, .ref (100 + v1))]) (by decide) (by (exact Nat.le_of_ble_eq_true rfl)) (by (exact rfl)) (fun g hg hgL hgD hrm hgN hgI hend => ?_)
  subst hgD
  clear hgL
  unfold P_X7_skips at h
  refine y_aload_n hg 0 dX7_skips_0 rfl rfl ?_
  refine y_sload_n 1 hg dX7_skips_1 rfl rfl ?_
  obtain ⟨h1, h⟩ := h
  refine yVIP (Qp := _) (rest := []) (As := [.ref (100 + v1)]) hg (k_X7_isToken (gL g.1) (gD g.1) a0 v1 σ _ h) lv_X7_134 rfl h1 rfl rfl dX7_skips_2 (cat8 (Nat.le_of_ble_eq_true rfl)) hrm ⟨Nat.le_of_ble_eq_true rfl, Nat.le_of_ble_eq_true rfl⟩ (fun x2 h => ?_)
  refine y_istore_n (lv' := [(2, .int x2), (0, va_rf (some a0)), (1, .ref (100 + v1))]) hg dX7_skips_5 rfl (by rw [hgN]; decide) rfl ?_
  refine y_iload_n hg 0 dX7_skips_6 rfl rfl ?_
  refine y_if_eq (tgt := 14) hg dX7_skips_7 (by decide) (fun q3 => ?_) (fun q3 => ?_)
  · replace h := h.1 q3
    refine y_iload_n hg 0 dX7_skips_14 rfl rfl ?_
    obtain ⟨h4, h⟩ := h
    exact yEndI hend (bz_nar h4).1 dX7_skips_15 h
  · replace h := h.2 q3
    refine y_aload_n hg 1 dX7_skips_10 rfl rfl ?_
    refine yVVW (Qm := _) (rest := []) (As := []) hg (k_X7_step (gL g.1) (gD g.1) a0 σ _ h) lv_X7_28 rfl h1 rfl rfl dX7_skips_11 (cat8 (Nat.le_of_ble_eq_true rfl)) hrm ⟨Nat.le_of_ble_eq_true rfl, Nat.le_of_ble_eq_true rfl⟩ (fun u5 σ6 h h7 => ?_)
    have h8 := kp h7 (show ¬ 9 = 0 by decide) h1
    refine y_iload_n hg 0 dX7_skips_14 rfl rfl ?_
    obtain ⟨h9, h⟩ := h
    exact yEndI hend (bz_nar h9).1 dX7_skips_15 h
def P_X7_valueOfToken_L7b (a0 : Nat) (v1 : Int32) (v2 : Int32) (σ : Sg) (Q : Int32 → Prop) (K7 : Int32 → Int32 → Prop) : Prop :=
  sK σ a0 % 32 = 9 ∧ ((sI σ a0 4) ≤ v2 → Q v1) ∧ (¬ ((sI σ a0 4) ≤ v2) → P_X7_byteAt a0 v2 σ (fun x6 => ∀ x7 : Int32, x7 = ((10 * v1) + x6) - 48 → ∀ x9 : Int32, x9 = v2 + 1 → K7 x7 x9))
def P_X7_valueOfToken_L7 (a0 : Nat) (v1 : Int32) (v2 : Int32) (σ : Sg) (Q : Int32 → Prop) : Prop :=
  ∃ I : Nat → Int32 → Int32 → Prop, (∃ n, I n v1 v2) ∧ ∀ (n : Nat) (v1 : Int32) (v2 : Int32), I n v1 v2 → P_X7_valueOfToken_L7b a0 v1 v2 σ Q (fun v1 v2 => ∃ n', n' < n ∧ I n' v1 v2)
def P_X7_valueOfToken (a0 : Nat) (σ : Sg) (Q : Int32 → Prop) : Prop :=
  sK σ a0 % 32 = 9 ∧ ∀ x2 : Int32, x2 = sI σ a0 3 → P_X7_valueOfToken_L7 a0 0 x2 σ Q
set_option maxHeartbeats 4000000 in
set_option maxRecDepth 100000 in
theorem k_X7_valueOfToken (l : Launch) (D : Dg) (a0 : Nat) (σ : Sg) (Q : Int32 → Prop) (h : P_X7_valueOfToken a0 σ Q) : CtrY RN l D yX7_valueOfToken cX7_valueOfToken 3 (some FieldType.int) 1 21 mkI [.ref a0] σ (0, 0) (fun r σ2 => Q r ∧ σ2 = σ) := by
  refine y_ctrN (lv := [(0, va_rf (some a0))]) (by decide) (by (exact Nat.le_of_ble_eq_true rfl)) (by (exact rfl)) (fun g hg hgL hgD hrm hgN hgI hend => ?_)
  subst hgD
  clear hgL
  unfold P_X7_valueOfToken at h
  have J7 : ∀ (v1 : Int32) (v2 : Int32), P_X7_valueOfToken_L7 a0 v1 v2 σ Q → XA g 7 [(0, va_rf (some a0)), (1, .int v1), (2, .int v2)] [] σ (0, 0) := by
    intro v1 v2 h
    unfold P_X7_valueOfToken_L7 at h
    obtain ⟨I7, ⟨n7, hI7⟩, hs7⟩ := h
    have key7 : ∀ (n : Nat), ∀ (v1 : Int32) (v2 : Int32), I7 n v1 v2 → XA g 7 [(0, va_rf (some a0)), (1, .int v1), (2, .int v2)] [] σ (0, 0) := by
      intro n
      induction n using Nat.strongRecOn with
      | _ n ih7 =>
      intro v1 v2 hI
      have h := hs7 n v1 v2 hI
      clear hI hI7 hs7
      obtain ⟨K7, hK7⟩ : ∃ K : Int32 → Int32 → Prop, K = (fun v1 v2 => ∃ n', n' < n ∧ I7 n' v1 v2) := ⟨_, rfl⟩
      rw [← hK7] at h
      unfold P_X7_valueOfToken_L7b at h
      refine y_iload_n hg 2 dX7_valueOfToken_7 rfl rfl ?_
      refine y_aload_n hg 0 dX7_valueOfToken_8 rfl rfl ?_
      obtain ⟨h4, h⟩ := h
      refine y_getI hg fl_X7_25 rfl rfl h4 dX7_valueOfToken_9 ?_
      refine y_icmp_ge (tgt := 35) hg dX7_valueOfToken_12 (by decide) (fun q5 => ?_) (fun q5 => ?_)
      · replace h := h.1 q5
        refine y_iload_n hg 1 dX7_valueOfToken_35 rfl rfl ?_
        exact yEndI hend rfl dX7_valueOfToken_36 ⟨h, rfl⟩
      · replace h := h.2 q5
        refine y_bipush (v := 10) hg dX7_valueOfToken_15 (by decide) ?_
        refine y_iload_n hg 1 dX7_valueOfToken_17 rfl rfl ?_
        refine y_imul hg dX7_valueOfToken_18 ?_
        refine y_aload_n hg 0 dX7_valueOfToken_19 rfl rfl ?_
        refine y_iload_n hg 2 dX7_valueOfToken_20 rfl rfl ?_
        refine yVIP (Qp := _) (rest := [.int (10 * v1)]) (As := [.int v2]) hg (k_X7_byteAt (gL g.1) (gD g.1) a0 v2 σ _ h) lv_X7_119 rfl h4 rfl rfl dX7_valueOfToken_21 (cat8 (Nat.le_of_ble_eq_true rfl)) hrm ⟨Nat.le_of_ble_eq_true rfl, Nat.le_of_ble_eq_true rfl⟩ (fun x6 h => ?_)
        refine y_iadd hg dX7_valueOfToken_24 ?_
        refine y_bipush (v := 48) hg dX7_valueOfToken_25 (by decide) ?_
        refine y_isub hg dX7_valueOfToken_27 ?_
        refine y_nmI (fun x7 e8 => ?_)
        replace h := h x7 e8
        refine y_istore_n (lv' := [(1, .int x7), (0, va_rf (some a0)), (2, .int v2)]) hg dX7_valueOfToken_28 rfl (by rw [hgN]; decide) rfl ?_
        obtain ⟨x9, e10⟩ : ∃ y : Int32, y = v2 + 1 := ⟨_, rfl⟩
        replace h := h x9 e10
        refine y_iinc (v := x9) (lv' := [(2, .int x9), (1, .int x7), (0, va_rf (some a0))]) hg 2 dX7_valueOfToken_29 rfl (by rw [e10]; rfl) (by rw [hgN]; decide) rfl ?_
        refine y_goto (tgt := 7) hg dX7_valueOfToken_32 (by decide) ?_
        refine y_sub [2, 1, 0] rfl ?_
        subst hK7
        obtain ⟨n11, h12, h⟩ := h
        exact ih7 n11 h12 _ _ h
    exact key7 n7 v1 v2 hI7
  refine y_iconst (v := 0) hg dX7_valueOfToken_0 (by decide) ?_
  refine y_istore_n (lv' := [(1, .int 0), (0, va_rf (some a0))]) hg dX7_valueOfToken_1 rfl (by rw [hgN]; decide) rfl ?_
  refine y_aload_n hg 1 dX7_valueOfToken_2 rfl rfl ?_
  obtain ⟨h1, h⟩ := h
  refine y_getI hg fl_X7_31 rfl rfl h1 dX7_valueOfToken_3 ?_
  refine y_nmI (fun x2 e3 => ?_)
  replace h := h x2 e3
  refine y_istore_n (lv' := [(2, .int x2), (1, .int 0), (0, va_rf (some a0))]) hg dX7_valueOfToken_6 rfl (by rw [hgN]; decide) rfl ?_
  refine y_sub [2, 1, 0] rfl ?_
  exact J7 _ _ h
def P_X7_number_B56 (a0 : Nat) (v1 : Int32) (v2 : Int32) (w0 : Int32) (σ : Sg) (Q : Int32 → Sg → Prop) : Prop :=
  P_X10_within w0 v1 v2 σ (fun x10 => (x10 = 0 → sK σ a0 % 32 = 9 ∧ ∀ σ18 : Sg, σ18 = pI σ a0 5 (sI σ a0 3) → Q v1 σ18) ∧ (¬ (x10 = 0) → sK σ a0 % 32 = 9 ∧ P_X7_step a0 σ (fun _ σ14 => Q w0 σ14)))
def P_X7_number_B43 (a0 : Nat) (v1 : Int32) (v2 : Int32) (w0 : Int32) (σ : Sg) (Q : Int32 → Sg → Prop) : Prop :=
  (w0 = 0 → P_X7_number_B56 a0 v1 v2 (-1) σ Q) ∧ (¬ (w0 = 0) → sK σ a0 % 32 = 9 ∧ P_X7_valueOfToken a0 σ (fun x9 => P_X7_number_B56 a0 v1 v2 x9 σ Q))
def P_X7_number_B42 (a0 : Nat) (v1 : Int32) (v2 : Int32) (σ : Sg) (Q : Int32 → Sg → Prop) : Prop :=
  P_X7_number_B43 a0 v1 v2 0 σ Q
def P_X7_number (a0 : Nat) (v1 : Int32) (v2 : Int32) (σ : Sg) (Q : Int32 → Sg → Prop) : Prop :=
  sK σ a0 % 32 = 9 ∧ ((sI σ a0 5) = (-1) → P_X7_byteAt a0 (sI σ a0 3) σ (fun x3 => P_X7_kindOf x3 σ (fun x4 => (x4 = 3 → (4 < ((sI σ a0 4) - (sI σ a0 3)) → P_X7_number_B42 a0 v1 v2 σ Q) ∧ (¬ (4 < ((sI σ a0 4) - (sI σ a0 3))) → P_X7_number_B43 a0 v1 v2 1 σ Q)) ∧ (¬ (x4 = 3) → P_X7_number_B42 a0 v1 v2 σ Q)))) ∧ (¬ ((sI σ a0 5) = (-1)) → Q v1 σ)
set_option maxHeartbeats 4000000 in
set_option maxRecDepth 100000 in
theorem k_X7_number (l : Launch) (D : Dg) (a0 : Nat) (v1 : Int32) (v2 : Int32) (σ : Sg) (Q : Int32 → Sg → Prop) (h : P_X7_number a0 v1 v2 σ Q) : CtrY RN l D yX7_number cX7_number 5 (some FieldType.int) 2 51 mkI [.ref a0, .int v1, .int v2] σ (0, 0) Q := by
  refine y_ctrN (lv := [(0, va_rf (some a0)), (1, .int v1), (2, .int v2)]) (by decide) (by (exact Nat.le_of_ble_eq_true rfl)) (by (exact rfl)) (fun g hg hgL hgD hrm hgN hgI hend => ?_)
  subst hgD
  clear hgL
  unfold P_X7_number at h
  have J56 : ∀ (v1 : Int32) (v2 : Int32) (w0 : Int32) (σ : Sg), P_X7_number_B56 a0 v1 v2 w0 σ Q → XA g 56 [(0, va_rf (some a0)), (1, .int v1), (2, .int v2)] [.int w0] σ (0, 0) := by
    intro v1 v2 w0 σ h
    unfold P_X7_number_B56 at h
    refine y_istore (lv' := [(4, .int w0), (0, va_rf (some a0)), (1, .int v1), (2, .int v2)]) hg dX7_number_56 (by rw [hgN]; decide) rfl ?_
    refine y_iload hg 0 dX7_number_58 rfl ?_
    refine y_iload_n hg 2 dX7_number_60 rfl rfl ?_
    refine y_iload_n hg 3 dX7_number_61 rfl rfl ?_
    refine ySNIP (Qp := _) (rest := []) (As := [.int w0, .int v1, .int v2]) hg (k_X10_within (gL g.1) (gD g.1) w0 v1 v2 σ _ h) lsn_X7_130 rfl rfl dX7_number_62 (cat8 (Nat.le_of_ble_eq_true rfl)) hrm ⟨Nat.le_of_ble_eq_true rfl, Nat.le_of_ble_eq_true rfl⟩ (fun x10 h => ?_)
    refine y_if_ne (tgt := 78) hg dX7_number_65 (by decide) (fun q11 => ?_) (fun q11 => ?_)
    · replace h := h.2 q11
      refine y_aload_n hg 1 dX7_number_78 rfl rfl ?_
      obtain ⟨h12, h⟩ := h
      refine yVVW (Qm := _) (rest := []) (As := []) hg (k_X7_step (gL g.1) (gD g.1) a0 σ _ h) lv_X7_28 rfl h12 rfl rfl dX7_number_79 (cat8 (Nat.le_of_ble_eq_true rfl)) hrm ⟨Nat.le_of_ble_eq_true rfl, Nat.le_of_ble_eq_true rfl⟩ (fun u13 σ14 h h15 => ?_)
      have h16 := kp h15 (show ¬ 9 = 0 by decide) h12
      refine y_iload hg 0 dX7_number_82 rfl ?_
      exact yEndI hend rfl dX7_number_84 h
    · replace h := h.1 q11
      refine y_aload_n hg 1 dX7_number_68 rfl rfl ?_
      refine y_aload_n hg 1 dX7_number_69 rfl rfl ?_
      obtain ⟨h17, h⟩ := h
      refine y_getI hg fl_X7_31 rfl rfl h17 dX7_number_70 ?_
      refine y_putI hg fw_X7_22 (fun z => nomatch z) rfl h17 dX7_number_73 ?_
      refine y_nmS (fun σ18 e19 => ?_)
      replace h := h σ18 e19
      have E20 : sK σ18 = sK σ := by rw [e19]; rfl
      refine y_iload_n hg 2 dX7_number_76 rfl rfl ?_
      exact yEndI hend rfl dX7_number_77 h
  have J43 : ∀ (v1 : Int32) (v2 : Int32) (w0 : Int32) (σ : Sg), P_X7_number_B43 a0 v1 v2 w0 σ Q → XA g 43 [(0, va_rf (some a0)), (1, .int v1), (2, .int v2)] [.int w0] σ (0, 0) := by
    intro v1 v2 w0 σ h
    unfold P_X7_number_B43 at h
    refine y_istore_n (lv' := [(3, .int w0), (0, va_rf (some a0)), (1, .int v1), (2, .int v2)]) hg dX7_number_43 rfl (by rw [hgN]; decide) rfl ?_
    refine y_iload_n hg 0 dX7_number_44 rfl rfl ?_
    refine y_if_eq (tgt := 55) hg dX7_number_45 (by decide) (fun q7 => ?_) (fun q7 => ?_)
    · replace h := h.1 q7
      refine y_iconst (v := (-1)) hg dX7_number_55 (by decide) ?_
      refine y_sub [1, 2, 3] rfl ?_
      exact J56 _ _ _ _ h
    · replace h := h.2 q7
      refine y_aload_n hg 1 dX7_number_48 rfl rfl ?_
      obtain ⟨h8, h⟩ := h
      refine yVIP (Qp := _) (rest := []) (As := []) hg (k_X7_valueOfToken (gL g.1) (gD g.1) a0 σ _ h) lv_X7_126 rfl h8 rfl rfl dX7_number_49 (cat8 (Nat.le_of_ble_eq_true rfl)) hrm ⟨Nat.le_of_ble_eq_true rfl, Nat.le_of_ble_eq_true rfl⟩ (fun x9 h => ?_)
      refine y_goto (tgt := 56) hg dX7_number_52 (by decide) ?_
      refine y_sub [1, 2, 3] rfl ?_
      exact J56 _ _ _ _ h
  have J42 : ∀ (v1 : Int32) (v2 : Int32) (σ : Sg), P_X7_number_B42 a0 v1 v2 σ Q → XA g 42 [(0, va_rf (some a0)), (1, .int v1), (2, .int v2)] [] σ (0, 0) := by
    intro v1 v2 σ h
    unfold P_X7_number_B42 at h
    refine y_iconst (v := 0) hg dX7_number_42 (by decide) ?_
    refine y_sub [0, 1, 2] rfl ?_
    exact J43 _ _ _ _ h
  refine y_aload_n hg 0 dX7_number_0 rfl rfl ?_
  obtain ⟨h1, h⟩ := h
  refine y_getI hg fl_X7_22 rfl rfl h1 dX7_number_1 ?_
  refine y_iconst (v := (-1)) hg dX7_number_4 (by decide) ?_
  refine y_icmp_eq (tgt := 10) hg dX7_number_5 (by decide) (fun q2 => ?_) (fun q2 => ?_)
  · replace h := h.1 q2
    refine y_aload_n hg 0 dX7_number_10 rfl rfl ?_
    refine y_aload_n hg 0 dX7_number_11 rfl rfl ?_
    refine y_getI hg fl_X7_31 rfl rfl h1 dX7_number_12 ?_
    refine yVIP (Qp := _) (rest := []) (As := [.int (sI σ a0 3)]) hg (k_X7_byteAt (gL g.1) (gD g.1) a0 (sI σ a0 3) σ _ h) lv_X7_119 rfl h1 rfl rfl dX7_number_15 (cat8 (Nat.le_of_ble_eq_true rfl)) hrm ⟨Nat.le_of_ble_eq_true rfl, Nat.le_of_ble_eq_true rfl⟩ (fun x3 h => ?_)
    refine ySIP (Qp := _) (rest := []) (As := [.int x3]) hg (k_X7_kindOf (gL g.1) (gD g.1) x3 σ _ h) ls_X7_123 rfl rfl dX7_number_18 (cat8 (Nat.le_of_ble_eq_true rfl)) hrm ⟨Nat.le_of_ble_eq_true rfl, Nat.le_of_ble_eq_true rfl⟩ (fun x4 h => ?_)
    refine y_iconst (v := 3) hg dX7_number_21 (by decide) ?_
    refine y_icmp_ne (tgt := 42) hg dX7_number_22 (by decide) (fun q5 => ?_) (fun q5 => ?_)
    · replace h := h.2 q5
      refine y_sub [0, 1, 2] rfl ?_
      exact J42 _ _ _ h
    · replace h := h.1 q5
      refine y_aload_n hg 0 dX7_number_25 rfl rfl ?_
      refine y_getI hg fl_X7_25 rfl rfl h1 dX7_number_26 ?_
      refine y_aload_n hg 0 dX7_number_29 rfl rfl ?_
      refine y_getI hg fl_X7_31 rfl rfl h1 dX7_number_30 ?_
      refine y_isub hg dX7_number_33 ?_
      refine y_iconst (v := 4) hg dX7_number_34 (by decide) ?_
      refine y_icmp_gt (tgt := 42) hg dX7_number_35 (by decide) (fun q6 => ?_) (fun q6 => ?_)
      · replace h := h.1 q6
        refine y_sub [0, 1, 2] rfl ?_
        exact J42 _ _ _ h
      · replace h := h.2 q6
        refine y_iconst (v := 1) hg dX7_number_38 (by decide) ?_
        refine y_goto (tgt := 43) hg dX7_number_39 (by decide) ?_
        refine y_sub [0, 1, 2] rfl ?_
        exact J43 _ _ _ _ h
  · replace h := h.2 q2
    refine y_iload_n hg 1 dX7_number_8 rfl rfl ?_
    exact yEndI hend rfl dX7_number_9 h
def P_X7_need (a0 : Nat) (v1 : Nat) (σ : Sg) (Q : Unit → Sg → Prop) : Prop :=
  sK σ a0 % 32 = 9 ∧ ((sI σ a0 5) = (-1) → P_X7_isToken a0 v1 σ (fun x3 => (x3 = 0 → ∀ σ5 : Sg, σ5 = pI σ a0 5 (sI σ a0 3) → Q () σ5) ∧ (¬ (x3 = 0) → P_X7_step a0 σ (fun _ σ9 => Q () σ9)))) ∧ (¬ ((sI σ a0 5) = (-1)) → Q () σ)
set_option maxHeartbeats 4000000 in
set_option maxRecDepth 100000 in
theorem k_X7_need (l : Launch) (D : Dg) (a0 : Nat) (v1 : Nat) (σ : Sg) (Q : Unit → Sg → Prop) (h : P_X7_need a0 v1 σ Q) : CtrY RN l D yX7_need cX7_need 2 (none) 5 107 mkV [.ref a0, .ref (100 + v1)] σ (0, 0) Q := by
  refine y_ctrN (lv := [(0, va_rf (some a0)), (1, .ref (100 + v1))]) (by decide) (by (exact Nat.le_of_ble_eq_true rfl)) (by (exact rfl)) (fun g hg hgL hgD hrm hgN hgI hend => ?_)
  subst hgD
  clear hgL
  unfold P_X7_need at h
  refine y_aload_n hg 0 dX7_need_0 rfl rfl ?_
  obtain ⟨h1, h⟩ := h
  refine y_getI hg fl_X7_22 rfl rfl h1 dX7_need_1 ?_
  refine y_iconst (v := (-1)) hg dX7_need_4 (by decide) ?_
  refine y_icmp_eq (tgt := 9) hg dX7_need_5 (by decide) (fun q2 => ?_) (fun q2 => ?_)
  · replace h := h.1 q2
    refine y_aload_n hg 0 dX7_need_9 rfl rfl ?_
    refine y_sload_n 1 hg dX7_need_10 rfl rfl ?_
    refine yVIP (Qp := _) (rest := []) (As := [.ref (100 + v1)]) hg (k_X7_isToken (gL g.1) (gD g.1) a0 v1 σ _ h) lv_X7_134 rfl h1 rfl rfl dX7_need_11 (cat8 (Nat.le_of_ble_eq_true rfl)) hrm ⟨Nat.le_of_ble_eq_true rfl, Nat.le_of_ble_eq_true rfl⟩ (fun x3 h => ?_)
    refine y_if_eq (tgt := 24) hg dX7_need_14 (by decide) (fun q4 => ?_) (fun q4 => ?_)
    · replace h := h.1 q4
      refine y_aload_n hg 0 dX7_need_24 rfl rfl ?_
      refine y_aload_n hg 0 dX7_need_25 rfl rfl ?_
      refine y_getI hg fl_X7_31 rfl rfl h1 dX7_need_26 ?_
      refine y_putI hg fw_X7_22 (fun z => nomatch z) rfl h1 dX7_need_29 ?_
      refine y_nmS (fun σ5 e6 => ?_)
      replace h := h σ5 e6
      have E7 : sK σ5 = sK σ := by rw [e6]; rfl
      exact yEndV hend dX7_need_32 h
    · replace h := h.2 q4
      refine y_aload_n hg 0 dX7_need_17 rfl rfl ?_
      refine yVVW (Qm := _) (rest := []) (As := []) hg (k_X7_step (gL g.1) (gD g.1) a0 σ _ h) lv_X7_28 rfl h1 rfl rfl dX7_need_18 (cat8 (Nat.le_of_ble_eq_true rfl)) hrm ⟨Nat.le_of_ble_eq_true rfl, Nat.le_of_ble_eq_true rfl⟩ (fun u8 σ9 h h10 => ?_)
      have h11 := kp h10 (show ¬ 9 = 0 by decide) h1
      refine y_goto (tgt := 32) hg dX7_need_21 (by decide) ?_
      exact yEndV hend dX7_need_32 h
  · replace h := h.2 q2
    exact yEndV hend dX7_need_8 h
def P_X9_init (a0 : Nat) (v1 : Int32) (v2 : Int32) (v3 : Int32) (v4 : Int32) (σ : Sg) (Q : Unit → Sg → Prop) : Prop :=
  sK σ a0 % 32 = 11 ∧ ∀ σ2 : Sg, σ2 = pI σ a0 0 v1 → ∀ σ5 : Sg, σ5 = pI σ2 a0 1 v2 → ∀ σ8 : Sg, σ8 = pI σ5 a0 2 v3 → ∀ σ11 : Sg, σ11 = pI σ8 a0 3 v4 → Q () σ11
set_option maxHeartbeats 4000000 in
set_option maxRecDepth 100000 in
theorem k_X9_init (l : Launch) (D : Dg) (a0 : Nat) (v1 : Int32) (v2 : Int32) (v3 : Int32) (v4 : Int32) (σ : Sg) (Q : Unit → Sg → Prop) (h : P_X9_init a0 v1 v2 v3 v4 σ Q) : CtrY RN l D yX9_init cX9_init 5 (none) 1 20 mkV [.ref a0, .int v1, .int v2, .int v3, .int v4] σ (0, 0) Q := by
  refine y_ctrN (lv := [(0, va_rf (some a0)), (1, .int v1), (2, .int v2), (3, .int v3), (4, .int v4)]) (by decide) (by (exact Nat.le_of_ble_eq_true rfl)) (by (exact rfl)) (fun g hg hgL hgD hrm hgN hgI hend => ?_)
  subst hgD
  clear hgL
  unfold P_X9_init at h
  refine y_aload_n hg 0 dX9_init_0 rfl rfl ?_
  refine y_objInit hg oi_X9_1 aw_oi1 aw_oi2 rfl dX9_init_1 (cat8 (Nat.le_of_ble_eq_true rfl)) hrm ⟨Nat.le_of_ble_eq_true rfl, Nat.le_of_ble_eq_true rfl⟩ ?_
  refine y_aload_n hg 0 dX9_init_4 rfl rfl ?_
  refine y_iload_n hg 1 dX9_init_5 rfl rfl ?_
  obtain ⟨h1, h⟩ := h
  refine y_putI hg fw_X9_7 (fun _ => hgI) rfl h1 dX9_init_6 ?_
  refine y_nmS (fun σ2 e3 => ?_)
  replace h := h σ2 e3
  have E4 : sK σ2 = sK σ := by rw [e3]; rfl
  refine y_aload_n hg 0 dX9_init_9 rfl rfl ?_
  refine y_iload_n hg 2 dX9_init_10 rfl rfl ?_
  refine y_putI hg fw_X9_13 (fun _ => hgI) rfl (kq E4 h1) dX9_init_11 ?_
  refine y_nmS (fun σ5 e6 => ?_)
  replace h := h σ5 e6
  have E7 : sK σ5 = sK σ2 := by rw [e6]; rfl
  refine y_aload_n hg 0 dX9_init_14 rfl rfl ?_
  refine y_iload_n hg 3 dX9_init_15 rfl rfl ?_
  refine y_putI hg fw_X9_16 (fun _ => hgI) rfl (kq E7 (kq E4 h1)) dX9_init_16 ?_
  refine y_nmS (fun σ8 e9 => ?_)
  replace h := h σ8 e9
  have E10 : sK σ8 = sK σ5 := by rw [e9]; rfl
  refine y_aload_n hg 0 dX9_init_19 rfl rfl ?_
  refine y_iload hg 4 dX9_init_20 rfl ?_
  refine y_putI hg fw_X9_19 (fun _ => hgI) rfl (kq E10 (kq E7 (kq E4 h1))) dX9_init_22 ?_
  refine y_nmS (fun σ11 e12 => ?_)
  replace h := h σ11 e12
  have E13 : sK σ11 = sK σ8 := by rw [e12]; rfl
  exact yEndV hend dX9_init_25 h
def P_X7_readTurn (a0 : Nat) (v1 : Option Nat) (σ : Sg) (b : Nat × Nat) (Q : Unit → Sg → Prop) : Prop :=
  sK σ a0 % 32 = 9 ∧ P_X7_number a0 0 9999 σ (fun x2 σ3 => P_X7_need a0 1 σ3 (fun _ σ7 => P_X7_number a0 0 9999 σ7 (fun x10 σ11 => P_X7_need a0 2 σ11 (fun _ σ15 => P_X7_number a0 1 9999 σ15 (fun x18 σ19 => P_X7_need a0 3 σ19 (fun _ σ23 => P_X7_number a0 0 9999 σ23 (fun x26 σ27 => ∃ c30 : Nat, v1 = some c30 ∧ sK σ27 c30 % 32 = 6 ∧ ∃ κ33 q37 : Nat, κ33 % 32 = 11 ∧ 1 ≤ b.1 ∧ 4 ≤ b.2 ∧ sK σ27 q37 = 0 ∧ 1000 ≤ q37 ∧ (∀ z, sR σ27 c30 2 = some z → ¬ sK σ27 z = 0) ∧ ∀ σ41 : Sg, σ41 = nw σ27 q37 κ33 0 → P_X9_init q37 x2 x10 x18 x26 σ41 (fun _ σ45 => ∃ c49 : Nat, sR σ27 c30 2 = some c49 ∧ sK σ45 c49 % 32 = 1 ∧ ∃ bc54 : Nat × Nat, bc54.1 ≤ b.1 - 1 ∧ bc54.2 ≤ b.2 - 4 ∧ P_Jx4a65c_add_9ea2d c49 (some q37) σ45 bc54 (fun x52 σ53 => Q () σ53)))))))))
set_option maxHeartbeats 4000000 in
set_option maxRecDepth 100000 in
theorem k_X7_readTurn (l : Launch) (D : Dg) (a0 : Nat) (v1 : Option Nat) (σ : Sg) (b : Nat × Nat) (Q : Unit → Sg → Prop) (h : P_X7_readTurn a0 v1 σ b Q) : CtrY RA l D yX7_readTurn cX7_readTurn 6 (none) 7 171 mkV [.ref a0, va_rf v1] σ b Q := by
  refine y_ctrA (lv := [(0, va_rf (some a0)), (1, va_rf v1)]) (by decide) (by cases v1 <;> (exact Nat.le_of_ble_eq_true rfl)) (by cases v1 <;> (exact rfl)) (fun g hg hgL hgD hrm hgN hgI hend hal => ?_)
  subst hgD
  clear hgL
  unfold P_X7_readTurn at h
  refine y_aload_n hg 0 dX7_readTurn_0 rfl rfl ?_
  refine y_iconst (v := 0) hg dX7_readTurn_1 (by decide) ?_
  refine y_sipush (v := 9999) hg dX7_readTurn_2 (by decide) ?_
  obtain ⟨h1, h⟩ := h
  refine yVIW (Qm := _) (rest := []) (As := [.int 0, .int 9999]) hg (k_X7_number (gL g.1) (gD g.1) a0 0 9999 σ _ h) lv_X7_88 rfl h1 rfl rfl dX7_readTurn_5 (cat8 (Nat.le_of_ble_eq_true rfl)) hrm ⟨Nat.le_of_ble_eq_true rfl, Nat.le_of_ble_eq_true rfl⟩ (fun x2 σ3 h h4 => ?_)
  have h5 := kp h4 (show ¬ 9 = 0 by decide) h1
  refine y_istore_n (lv' := [(2, .int x2), (0, va_rf (some a0)), (1, va_rf v1)]) hg dX7_readTurn_8 rfl (by rw [hgN]; decide) (by cases v1 <;> rfl) ?_
  refine y_aload_n hg 1 dX7_readTurn_9 rfl rfl ?_
  refine y_ldcS (i := 1) hg (by decide) rfl dX7_readTurn_10 ?_
  refine yVVW (Qm := _) (rest := []) (As := [.ref (100 + 1)]) hg (k_X7_need (gL g.1) (gD g.1) a0 1 σ3 _ h) lv_X7_62 rfl h5 rfl rfl dX7_readTurn_12 (cat8 (Nat.le_of_ble_eq_true rfl)) hrm ⟨Nat.le_of_ble_eq_true rfl, Nat.le_of_ble_eq_true rfl⟩ (fun u6 σ7 h h8 => ?_)
  have h9 := kp h8 (show ¬ 9 = 0 by decide) h5
  refine y_aload_n hg 1 dX7_readTurn_15 rfl rfl ?_
  refine y_iconst (v := 0) hg dX7_readTurn_16 (by decide) ?_
  refine y_sipush (v := 9999) hg dX7_readTurn_17 (by decide) ?_
  refine yVIW (Qm := _) (rest := []) (As := [.int 0, .int 9999]) hg (k_X7_number (gL g.1) (gD g.1) a0 0 9999 σ7 _ h) lv_X7_88 rfl h9 rfl rfl dX7_readTurn_20 (cat8 (Nat.le_of_ble_eq_true rfl)) hrm ⟨Nat.le_of_ble_eq_true rfl, Nat.le_of_ble_eq_true rfl⟩ (fun x10 σ11 h h12 => ?_)
  have h13 := kp h12 (show ¬ 9 = 0 by decide) h9
  refine y_istore_n (lv' := [(3, .int x10), (2, .int x2), (0, va_rf (some a0)), (1, va_rf v1)]) hg dX7_readTurn_23 rfl (by rw [hgN]; decide) rfl ?_
  refine y_aload_n hg 2 dX7_readTurn_24 rfl rfl ?_
  refine y_ldcS (i := 2) hg (by decide) rfl dX7_readTurn_25 ?_
  refine yVVW (Qm := _) (rest := []) (As := [.ref (100 + 2)]) hg (k_X7_need (gL g.1) (gD g.1) a0 2 σ11 _ h) lv_X7_62 rfl h13 rfl rfl dX7_readTurn_27 (cat8 (Nat.le_of_ble_eq_true rfl)) hrm ⟨Nat.le_of_ble_eq_true rfl, Nat.le_of_ble_eq_true rfl⟩ (fun u14 σ15 h h16 => ?_)
  have h17 := kp h16 (show ¬ 9 = 0 by decide) h13
  refine y_aload_n hg 2 dX7_readTurn_30 rfl rfl ?_
  refine y_iconst (v := 1) hg dX7_readTurn_31 (by decide) ?_
  refine y_sipush (v := 9999) hg dX7_readTurn_32 (by decide) ?_
  refine yVIW (Qm := _) (rest := []) (As := [.int 1, .int 9999]) hg (k_X7_number (gL g.1) (gD g.1) a0 1 9999 σ15 _ h) lv_X7_88 rfl h17 rfl rfl dX7_readTurn_35 (cat8 (Nat.le_of_ble_eq_true rfl)) hrm ⟨Nat.le_of_ble_eq_true rfl, Nat.le_of_ble_eq_true rfl⟩ (fun x18 σ19 h h20 => ?_)
  have h21 := kp h20 (show ¬ 9 = 0 by decide) h17
  refine y_istore (lv' := [(4, .int x18), (3, .int x10), (2, .int x2), (0, va_rf (some a0)), (1, va_rf v1)]) hg dX7_readTurn_38 (by rw [hgN]; decide) rfl ?_
  refine y_aload_n hg 3 dX7_readTurn_40 rfl rfl ?_
  refine y_ldcS (i := 3) hg (by decide) rfl dX7_readTurn_41 ?_
  refine yVVW (Qm := _) (rest := []) (As := [.ref (100 + 3)]) hg (k_X7_need (gL g.1) (gD g.1) a0 3 σ19 _ h) lv_X7_62 rfl h21 rfl rfl dX7_readTurn_43 (cat8 (Nat.le_of_ble_eq_true rfl)) hrm ⟨Nat.le_of_ble_eq_true rfl, Nat.le_of_ble_eq_true rfl⟩ (fun u22 σ23 h h24 => ?_)
  have h25 := kp h24 (show ¬ 9 = 0 by decide) h21
  refine y_aload_n hg 3 dX7_readTurn_46 rfl rfl ?_
  refine y_iconst (v := 0) hg dX7_readTurn_47 (by decide) ?_
  refine y_sipush (v := 9999) hg dX7_readTurn_48 (by decide) ?_
  refine yVIW (Qm := _) (rest := []) (As := [.int 0, .int 9999]) hg (k_X7_number (gL g.1) (gD g.1) a0 0 9999 σ23 _ h) lv_X7_88 rfl h25 rfl rfl dX7_readTurn_51 (cat8 (Nat.le_of_ble_eq_true rfl)) hrm ⟨Nat.le_of_ble_eq_true rfl, Nat.le_of_ble_eq_true rfl⟩ (fun x26 σ27 h h28 => ?_)
  have h29 := kp h28 (show ¬ 9 = 0 by decide) h25
  refine y_istore (lv' := [(5, .int x26), (4, .int x18), (3, .int x10), (2, .int x2), (0, va_rf (some a0)), (1, va_rf v1)]) hg dX7_readTurn_54 (by rw [hgN]; decide) rfl ?_
  refine y_aload_n hg 5 dX7_readTurn_56 rfl rfl ?_
  obtain ⟨c30, h31, h⟩ := h
  obtain ⟨h32, h⟩ := h
  refine y_getR hg fl_X7_98 rfl h31 h32 dX7_readTurn_57 ?_
  obtain ⟨κ33, q37, h34, h35, h36, h38, h39, h⟩ := h
  refine y_sub [0, 1, 2, 3, 4] rfl ?_
  obtain ⟨h40, h⟩ := h
  refine y_new hg hal nl_X7_104 h34 h35 h36 h38 h39 (rll_c (lk_i _) (rll_c (lk_i _) (rll_c (lk_i _) (rll_c (lk_i _) (rll_c (lk_k rfl h29 (by decide)) rll_nil))))) (rl_c (lk_r h40) rl_nil) dX7_readTurn_60 ?_
  refine y_nmS (fun σ41 e42 => ?_)
  replace h := h σ41 e42
  refine y_dup hg dX7_readTurn_63 rfl ?_
  refine y_iload_n hg 3 dX7_readTurn_64 rfl rfl ?_
  refine y_iload_n hg 2 dX7_readTurn_65 rfl rfl ?_
  refine y_iload hg 1 dX7_readTurn_66 rfl ?_
  refine y_iload hg 0 dX7_readTurn_68 rfl ?_
  refine yIVW (Qm := _) (rest := [va_rf (some q37), va_rf (sR σ27 c30 2)]) (As := [.int x2, .int x10, .int x18, .int x26]) hg (k_X9_init (gL g.1) (gD g.1) q37 x2 x10 x18 x26 σ41 _ h) li_X7_106 rfl rfl rfl dX7_readTurn_70 (cat8 (Nat.le_of_ble_eq_true rfl)) hrm ⟨Nat.le_of_ble_eq_true rfl, Nat.le_of_ble_eq_true rfl⟩ (fun u44 σ45 h h46 => ?_)
  have h47 := kp h46 (show ¬ 9 = 0 by decide) (kw e42 h38 (by decide) h29)
  have h48 := kp h46 (show ¬ 11 = 0 by decide) (kn e42 h34)
  obtain ⟨c49, h50, h⟩ := h
  obtain ⟨h51, h⟩ := h
  obtain ⟨bc54, h55, h56, h⟩ := h
  refine y_sub [4] rfl ?_
  refine yVIA (Qm := _) (rest := []) (As := [va_rf (some q37)]) hg hal (k_Jx4a65c_add_9ea2d (gL g.1) (gD g.1) c49 (some q37) σ45 bc54 _ h) lv_X7_109 h50 h51 rfl rfl dX7_readTurn_73 (cat8 (Nat.le_of_ble_eq_true rfl)) hrm ⟨Nat.le_of_ble_eq_true rfl, Nat.le_of_ble_eq_true rfl⟩ h55 h56 (rll_c (lk_k rfl h47 (by decide)) rll_nil) rl_nil (fun x52 σ53 h h57 => ?_)
  have h58 := kp h57 (show ¬ 9 = 0 by decide) h47
  refine y_pop hg dX7_readTurn_76 rfl ?_
  exact yEndV hend dX7_readTurn_77 h
def P_X4_put (a0 : Nat) (v1 : Int32) (v2 : Int32) (σ : Sg) (Q : Unit → Sg → Prop) : Prop :=
  (v1 < 0 → Q () σ) ∧ (¬ (v1 < 0) → sK σ a0 % 32 = 6 ∧ ∃ c3 : Nat, sR σ a0 3 = some c3 ∧ sK σ c3 % 32 = 16 ∧ ((nI (sN σ c3)) ≤ v1 → Q () σ) ∧ (¬ ((nI (sN σ c3)) ≤ v1) → ∃ c7 : Nat, sR σ a0 3 = some c7 ∧ sK σ c7 % 32 = 16 ∧ vp_in v1 (sN σ c7) ∧ ∀ σ11 : Sg, σ11 = pI σ c7 v1.toNatClampNeg v2 → Q () σ11))
set_option maxHeartbeats 4000000 in
set_option maxRecDepth 100000 in
theorem k_X4_put (l : Launch) (D : Dg) (a0 : Nat) (v1 : Int32) (v2 : Int32) (σ : Sg) (Q : Unit → Sg → Prop) (h : P_X4_put a0 v1 v2 σ Q) : CtrY RN l D yX4_put cX4_put 3 (none) 0 0 mkV [.ref a0, .int v1, .int v2] σ (0, 0) Q := by
  refine y_ctrN (lv := [(0, va_rf (some a0)), (1, .int v1), (2, .int v2)]) (by decide) (by (exact Nat.le_of_ble_eq_true rfl)) (by (exact rfl)) (fun g hg hgL hgD hrm hgN hgI hend => ?_)
  subst hgD
  clear hgL
  unfold P_X4_put at h
  refine y_iload_n hg 1 dX4_put_0 rfl rfl ?_
  refine y_if_lt (tgt := 20) hg dX4_put_1 (by decide) (fun q1 => ?_) (fun q1 => ?_)
  · replace h := h.1 q1
    exact yEndV hend dX4_put_20 h
  · replace h := h.2 q1
    refine y_iload_n hg 1 dX4_put_4 rfl rfl ?_
    refine y_aload_n hg 0 dX4_put_5 rfl rfl ?_
    obtain ⟨h2, h⟩ := h
    refine y_getR hg fl_X4_18 rfl rfl h2 dX4_put_6 ?_
    obtain ⟨c3, h4, h⟩ := h
    obtain ⟨h5, h⟩ := h
    refine y_alen hg h4 h5 (by decide) (by decide) dX4_put_9 ?_
    refine y_icmp_ge (tgt := 20) hg dX4_put_10 (by decide) (fun q6 => ?_) (fun q6 => ?_)
    · replace h := h.1 q6
      exact yEndV hend dX4_put_20 h
    · replace h := h.2 q6
      refine y_aload_n hg 0 dX4_put_13 rfl rfl ?_
      refine y_getR hg fl_X4_18 rfl rfl h2 dX4_put_14 ?_
      refine y_iload_n hg 1 dX4_put_17 rfl rfl ?_
      refine y_iload_n hg 2 dX4_put_18 rfl rfl ?_
      obtain ⟨c7, h8, h⟩ := h
      obtain ⟨h9, h⟩ := h
      obtain ⟨h10, h⟩ := h
      refine y_iast hg h8 h9 h10 dX4_put_19 ?_
      refine y_nmS (fun σ11 e12 => ?_)
      replace h := h σ11 e12
      have E13 : sK σ11 = sK σ := by rw [e12]; rfl
      exact yEndV hend dX4_put_20 h
