def P_X10_worstLot_B51 (a0 : Nat) (v1 : Int32) (v2 : Int32) (σ : Sg) (Q : Int32 → Prop) (K4 : Int32 → Int32 → Prop) : Prop :=
  ∀ x11 : Int32, x11 = v2 + 1 → K4 v1 x11
def P_X10_worstLot_B49 (a0 : Nat) (v2 : Int32) (σ : Sg) (Q : Int32 → Prop) (K4 : Int32 → Int32 → Prop) : Prop :=
  P_X10_worstLot_B51 a0 v2 v2 σ Q K4
def P_X10_worstLot_L4b (a0 : Nat) (v1 : Int32) (v2 : Int32) (σ : Sg) (Q : Int32 → Prop) (K4 : Int32 → Int32 → Prop) : Prop :=
  (10 ≤ v2 → Q v1) ∧ (¬ (10 ≤ v2) → sK σ a0 % 32 = 12 ∧ P_X10_looksOf a0 v2 σ (fun x3 => (x3 < 2 → P_X10_worstLot_B51 a0 v1 v2 σ Q K4) ∧ (¬ (x3 < 2) → (v1 = (-1) → P_X10_worstLot_B49 a0 v2 σ Q K4) ∧ (¬ (v1 = (-1)) → P_X10_gradesOf a0 v2 σ (fun x6 => P_X10_looksOf a0 v1 σ (fun x7 => P_X10_gradesOf a0 v1 σ (fun x8 => P_X10_looksOf a0 v2 σ (fun x9 => ((x6 * x7) ≤ (x8 * x9) → P_X10_worstLot_B51 a0 v1 v2 σ Q K4) ∧ (¬ ((x6 * x7) ≤ (x8 * x9)) → P_X10_worstLot_B49 a0 v2 σ Q K4)))))))))
def P_X10_worstLot_L4 (a0 : Nat) (v1 : Int32) (v2 : Int32) (σ : Sg) (Q : Int32 → Prop) : Prop :=
  ∃ I : Nat → Int32 → Int32 → Prop, (∃ n, I n v1 v2) ∧ ∀ (n : Nat) (v1 : Int32) (v2 : Int32), I n v1 v2 → P_X10_worstLot_L4b a0 v1 v2 σ Q (fun v1 v2 => ∃ n', n' < n ∧ I n' v1 v2)
def P_X10_worstLot (a0 : Nat) (σ : Sg) (Q : Int32 → Prop) : Prop :=
  P_X10_worstLot_L4 a0 (-1) 0 σ Q
set_option maxHeartbeats 4000000 in
set_option maxRecDepth 100000 in
theorem k_X10_worstLot (l : Launch) (D : Dg) (a0 : Nat) (σ : Sg) (Q : Int32 → Prop) (h : P_X10_worstLot a0 σ Q) : CtrY RN l D yX10_worstLot cX10_worstLot 3 (some FieldType.int) 4 88 mkI [.ref a0] σ (0, 0) (fun r σ2 => Q r ∧ σ2 = σ) := by
  refine y_ctrN (lv := [(0, va_rf (some a0))]) (by decide) (by (exact Nat.le_of_ble_eq_true rfl)) (by (exact rfl)) (fun g hg hgL hgD hrm hgN hgI hend => ?_)
  subst hgD
  clear hgL
  unfold P_X10_worstLot at h
  have J4 : ∀ (v1 : Int32) (v2 : Int32), P_X10_worstLot_L4 a0 v1 v2 σ Q → XA g 4 [(0, va_rf (some a0)), (1, .int v1), (2, .int v2)] [] σ (0, 0) := by
    intro v1 v2 h
    unfold P_X10_worstLot_L4 at h
    obtain ⟨I4, ⟨n4, hI4⟩, hs4⟩ := h
    have key4 : ∀ (n : Nat), ∀ (v1 : Int32) (v2 : Int32), I4 n v1 v2 → XA g 4 [(0, va_rf (some a0)), (1, .int v1), (2, .int v2)] [] σ (0, 0) := by
      intro n
      induction n using Nat.strongRecOn with
      | _ n ih4 =>
      intro v1 v2 hI
      have h := hs4 n v1 v2 hI
      clear hI hI4 hs4
      obtain ⟨K4, hK4⟩ : ∃ K : Int32 → Int32 → Prop, K = (fun v1 v2 => ∃ n', n' < n ∧ I4 n' v1 v2) := ⟨_, rfl⟩
      rw [← hK4] at h
      unfold P_X10_worstLot_L4b at h
      have J51 : ∀ (v1 : Int32) (v2 : Int32), P_X10_worstLot_B51 a0 v1 v2 σ Q K4 → XA g 51 [(0, va_rf (some a0)), (1, .int v1), (2, .int v2)] [] σ (0, 0) := by
        intro v1 v2 h
        unfold P_X10_worstLot_B51 at h
        obtain ⟨x11, e12⟩ : ∃ y : Int32, y = v2 + 1 := ⟨_, rfl⟩
        replace h := h x11 e12
        refine y_iinc (v := x11) (lv' := [(2, .int x11), (0, va_rf (some a0)), (1, .int v1)]) hg 2 dX10_worstLot_51 rfl (by rw [e12]; rfl) (by rw [hgN]; decide) rfl ?_
        refine y_goto (tgt := 4) hg dX10_worstLot_54 (by decide) ?_
        refine y_sub [1, 2, 0] rfl ?_
        subst hK4
        obtain ⟨n13, h14, h⟩ := h
        exact ih4 n13 h14 _ _ h
      have J49 : ∀ (v2 : Int32), P_X10_worstLot_B49 a0 v2 σ Q K4 → XA g 49 [(0, va_rf (some a0)), (2, .int v2)] [] σ (0, 0) := by
        intro v2 h
        unfold P_X10_worstLot_B49 at h
        refine y_iload_n hg 1 dX10_worstLot_49 rfl rfl ?_
        refine y_istore_n (lv' := [(1, .int v2), (0, va_rf (some a0)), (2, .int v2)]) hg dX10_worstLot_50 rfl (by rw [hgN]; decide) rfl ?_
        refine y_sub [1, 0, 2] rfl ?_
        exact J51 _ _ h
      refine y_iload_n hg 2 dX10_worstLot_4 rfl rfl ?_
      refine y_bipush (v := 10) hg dX10_worstLot_5 (by decide) ?_
      refine y_icmp_ge (tgt := 57) hg dX10_worstLot_7 (by decide) (fun q1 => ?_) (fun q1 => ?_)
      · replace h := h.1 q1
        refine y_iload_n hg 1 dX10_worstLot_57 rfl rfl ?_
        exact yEndI hend rfl dX10_worstLot_58 ⟨h, rfl⟩
      · replace h := h.2 q1
        refine y_aload_n hg 0 dX10_worstLot_10 rfl rfl ?_
        refine y_iload_n hg 2 dX10_worstLot_11 rfl rfl ?_
        obtain ⟨h2, h⟩ := h
        refine yVIP (Qp := _) (rest := []) (As := [.int v2]) hg (k_X10_looksOf (gL g.1) (gD g.1) a0 v2 σ _ h) lv_X10_407 rfl h2 rfl rfl dX10_worstLot_12 (cat8 (Nat.le_of_ble_eq_true rfl)) hrm ⟨Nat.le_of_ble_eq_true rfl, Nat.le_of_ble_eq_true rfl⟩ (fun x3 h => ?_)
        refine y_iconst (v := 2) hg dX10_worstLot_15 (by decide) ?_
        refine y_icmp_lt (tgt := 51) hg dX10_worstLot_16 (by decide) (fun q4 => ?_) (fun q4 => ?_)
        · replace h := h.1 q4
          refine y_sub [0, 1, 2] rfl ?_
          exact J51 _ _ h
        · replace h := h.2 q4
          refine y_iload_n hg 1 dX10_worstLot_19 rfl rfl ?_
          refine y_iconst (v := (-1)) hg dX10_worstLot_20 (by decide) ?_
          refine y_icmp_eq (tgt := 49) hg dX10_worstLot_21 (by decide) (fun q5 => ?_) (fun q5 => ?_)
          · replace h := h.1 q5
            refine y_sub [0, 2] rfl ?_
            exact J49 _ h
          · replace h := h.2 q5
            refine y_aload_n hg 0 dX10_worstLot_24 rfl rfl ?_
            refine y_iload_n hg 2 dX10_worstLot_25 rfl rfl ?_
            refine yVIP (Qp := _) (rest := []) (As := [.int v2]) hg (k_X10_gradesOf (gL g.1) (gD g.1) a0 v2 σ _ h) lv_X10_404 rfl h2 rfl rfl dX10_worstLot_26 (cat8 (Nat.le_of_ble_eq_true rfl)) hrm ⟨Nat.le_of_ble_eq_true rfl, Nat.le_of_ble_eq_true rfl⟩ (fun x6 h => ?_)
            refine y_aload_n hg 0 dX10_worstLot_29 rfl rfl ?_
            refine y_iload_n hg 1 dX10_worstLot_30 rfl rfl ?_
            refine yVIP (Qp := _) (rest := [.int x6]) (As := [.int v1]) hg (k_X10_looksOf (gL g.1) (gD g.1) a0 v1 σ _ h) lv_X10_407 rfl h2 rfl rfl dX10_worstLot_31 (cat8 (Nat.le_of_ble_eq_true rfl)) hrm ⟨Nat.le_of_ble_eq_true rfl, Nat.le_of_ble_eq_true rfl⟩ (fun x7 h => ?_)
            refine y_imul hg dX10_worstLot_34 ?_
            refine y_aload_n hg 0 dX10_worstLot_35 rfl rfl ?_
            refine y_iload_n hg 1 dX10_worstLot_36 rfl rfl ?_
            refine yVIP (Qp := _) (rest := [.int (x6 * x7)]) (As := [.int v1]) hg (k_X10_gradesOf (gL g.1) (gD g.1) a0 v1 σ _ h) lv_X10_404 rfl h2 rfl rfl dX10_worstLot_37 (cat8 (Nat.le_of_ble_eq_true rfl)) hrm ⟨Nat.le_of_ble_eq_true rfl, Nat.le_of_ble_eq_true rfl⟩ (fun x8 h => ?_)
            refine y_aload_n hg 0 dX10_worstLot_40 rfl rfl ?_
            refine y_iload_n hg 2 dX10_worstLot_41 rfl rfl ?_
            refine yVIP (Qp := _) (rest := [.int x8, .int (x6 * x7)]) (As := [.int v2]) hg (k_X10_looksOf (gL g.1) (gD g.1) a0 v2 σ _ h) lv_X10_407 rfl h2 rfl rfl dX10_worstLot_42 (cat8 (Nat.le_of_ble_eq_true rfl)) hrm ⟨Nat.le_of_ble_eq_true rfl, Nat.le_of_ble_eq_true rfl⟩ (fun x9 h => ?_)
            refine y_imul hg dX10_worstLot_45 ?_
            refine y_icmp_le (tgt := 51) hg dX10_worstLot_46 (by decide) (fun q10 => ?_) (fun q10 => ?_)
            · replace h := h.1 q10
              refine y_sub [0, 1, 2] rfl ?_
              exact J51 _ _ h
            · replace h := h.2 q10
              refine y_sub [0, 2] rfl ?_
              exact J49 _ h
    exact key4 n4 v1 v2 hI4
  refine y_iconst (v := (-1)) hg dX10_worstLot_0 (by decide) ?_
  refine y_istore_n (lv' := [(1, .int (-1)), (0, va_rf (some a0))]) hg dX10_worstLot_1 rfl (by rw [hgN]; decide) rfl ?_
  refine y_iconst (v := 0) hg dX10_worstLot_2 (by decide) ?_
  refine y_istore_n (lv' := [(2, .int 0), (1, .int (-1)), (0, va_rf (some a0))]) hg dX10_worstLot_3 rfl (by rw [hgN]; decide) rfl ?_
  refine y_sub [2, 1, 0] rfl ?_
  exact J4 _ _ h
def P_X10_worst (a0 : Nat) (v1 : Int32) (σ : Sg) (Q : Int32 → Prop) : Prop :=
  sK σ a0 % 32 = 12 ∧ P_X10_worstLot a0 σ (fun x2 => (x2 = (-1) → Q (-1)) ∧ (¬ (x2 = (-1)) → ∀ y4 : Int32, y4 = v1 → (y4 = 0 → Q x2) ∧ (¬ (y4 = 0) → (y4 = 1 → P_X10_gradesOf a0 x2 σ (fun x6 => Q x6)) ∧ (¬ (y4 = 1) → (y4 = 2 → P_X10_looksOf a0 x2 σ (fun x7 => Q x7)) ∧ (¬ (y4 = 2) → Q (-1))))))
set_option maxHeartbeats 4000000 in
set_option maxRecDepth 100000 in
theorem k_X10_worst (l : Launch) (D : Dg) (a0 : Nat) (v1 : Int32) (σ : Sg) (Q : Int32 → Prop) (h : P_X10_worst a0 v1 σ Q) : CtrY RN l D yX10_worst cX10_worst 3 (some FieldType.int) 5 110 mkI [.ref a0, .int v1] σ (0, 0) (fun r σ2 => Q r ∧ σ2 = σ) := by
  refine y_ctrN (lv := [(0, va_rf (some a0)), (1, .int v1)]) (by decide) (by (exact Nat.le_of_ble_eq_true rfl)) (by (exact rfl)) (fun g hg hgL hgD hrm hgN hgI hend => ?_)
  subst hgD
  clear hgL
  unfold P_X10_worst at h
  refine y_aload_n hg 0 dX10_worst_0 rfl rfl ?_
  obtain ⟨h1, h⟩ := h
  refine yVIP (Qp := _) (rest := []) (As := []) hg (k_X10_worstLot (gL g.1) (gD g.1) a0 σ _ h) lv_X10_401 rfl h1 rfl rfl dX10_worst_1 (cat8 (Nat.le_of_ble_eq_true rfl)) hrm ⟨Nat.le_of_ble_eq_true rfl, Nat.le_of_ble_eq_true rfl⟩ (fun x2 h => ?_)
  refine y_istore_n (lv' := [(2, .int x2), (0, va_rf (some a0)), (1, .int v1)]) hg dX10_worst_4 rfl (by rw [hgN]; decide) rfl ?_
  refine y_iload_n hg 0 dX10_worst_5 rfl rfl ?_
  refine y_iconst (v := (-1)) hg dX10_worst_6 (by decide) ?_
  refine y_icmp_ne (tgt := 12) hg dX10_worst_7 (by decide) (fun q3 => ?_) (fun q3 => ?_)
  · replace h := h.2 q3
    refine y_iload_n hg 2 dX10_worst_12 rfl rfl ?_
    refine y_nmI (fun y4 e5 => ?_)
    replace h := h y4 e5
    by_cases q13_0 : y4 = 0
    · replace h := h.1 q13_0
      refine y_tableIn (tgt := 40) hg dX10_worst_13 (by rw [q13_0]; decide) (by rw [q13_0]; decide) (by rw [q13_0]; rfl) (by decide) ?_
      refine y_iload_n hg 0 dX10_worst_40 rfl rfl ?_
      exact yEndI hend rfl dX10_worst_41 ⟨h, rfl⟩
    · replace h := h.2 q13_0
      by_cases q13_1 : y4 = 1
      · replace h := h.1 q13_1
        refine y_tableIn (tgt := 42) hg dX10_worst_13 (by rw [q13_1]; decide) (by rw [q13_1]; decide) (by rw [q13_1]; rfl) (by decide) ?_
        refine y_aload_n hg 1 dX10_worst_42 rfl rfl ?_
        refine y_iload_n hg 0 dX10_worst_43 rfl rfl ?_
        refine yVIP (Qp := _) (rest := []) (As := [.int x2]) hg (k_X10_gradesOf (gL g.1) (gD g.1) a0 x2 σ _ h) lv_X10_404 rfl h1 rfl rfl dX10_worst_44 (cat8 (Nat.le_of_ble_eq_true rfl)) hrm ⟨Nat.le_of_ble_eq_true rfl, Nat.le_of_ble_eq_true rfl⟩ (fun x6 h => ?_)
        exact yEndI hend rfl dX10_worst_47 ⟨h, rfl⟩
      · replace h := h.2 q13_1
        by_cases q13_2 : y4 = 2
        · replace h := h.1 q13_2
          refine y_tableIn (tgt := 48) hg dX10_worst_13 (by rw [q13_2]; decide) (by rw [q13_2]; decide) (by rw [q13_2]; rfl) (by decide) ?_
          refine y_aload_n hg 1 dX10_worst_48 rfl rfl ?_
          refine y_iload_n hg 0 dX10_worst_49 rfl rfl ?_
          refine yVIP (Qp := _) (rest := []) (As := [.int x2]) hg (k_X10_looksOf (gL g.1) (gD g.1) a0 x2 σ _ h) lv_X10_407 rfl h1 rfl rfl dX10_worst_50 (cat8 (Nat.le_of_ble_eq_true rfl)) hrm ⟨Nat.le_of_ble_eq_true rfl, Nat.le_of_ble_eq_true rfl⟩ (fun x7 h => ?_)
          exact yEndI hend rfl dX10_worst_53 ⟨h, rfl⟩
        · replace h := h.2 q13_2
          refine y_tableOut (tgt := 54) hg dX10_worst_13 (sw2_out q13_0 q13_1 q13_2) (by decide) ?_
          refine y_iconst (v := (-1)) hg dX10_worst_54 (by decide) ?_
          exact yEndI hend rfl dX10_worst_55 ⟨h, rfl⟩
  · replace h := h.1 q3
    refine y_iconst (v := (-1)) hg dX10_worst_10 (by decide) ?_
    exact yEndI hend rfl dX10_worst_11 ⟨h, rfl⟩
def P_X10_complain (a0 : Nat) (v1 : Int32) (v2 : Int32) (σ : Sg) (b : Nat × Nat) (Q : Int32 → Sg → Prop) : Prop :=
  sK σ a0 % 32 = 12 ∧ P_X10_cornerAt a0 v1 σ (fun r2 => (r2 = none → Q (-1) σ) ∧ (∀ c3 : Nat, r2 = some c3 → P_X10_within v2 0 3 σ (fun x6 => (x6 = 0 → Q (-1) σ) ∧ (¬ (x6 = 0) → ∃ bc10 : Nat × Nat, bc10.1 ≤ b.1 ∧ bc10.2 ≤ b.2 ∧ P_X10_tellComplaint a0 v1 v2 σ bc10 (fun x8 σ9 => Q x8 σ9)))))
set_option maxHeartbeats 4000000 in
set_option maxRecDepth 100000 in
theorem k_X10_complain (l : Launch) (D : Dg) (a0 : Nat) (v1 : Int32) (v2 : Int32) (σ : Sg) (b : Nat × Nat) (Q : Int32 → Sg → Prop) (h : P_X10_complain a0 v1 v2 σ b Q) : CtrY RA l D yX10_complain cX10_complain 3 (some FieldType.int) 8 194 mkI [.ref a0, .int v1, .int v2] σ b Q := by
  refine y_ctrA (lv := [(0, va_rf (some a0)), (1, .int v1), (2, .int v2)]) (by decide) (by (exact Nat.le_of_ble_eq_true rfl)) (by (exact rfl)) (fun g hg hgL hgD hrm hgN hgI hend hal => ?_)
  subst hgD
  clear hgL
  unfold P_X10_complain at h
  refine y_aload_n hg 0 dX10_complain_0 rfl rfl ?_
  refine y_iload_n hg 1 dX10_complain_1 rfl rfl ?_
  obtain ⟨h1, h⟩ := h
  refine yVRP (Qp := _) (rest := []) (As := [.int v1]) hg (k_X10_cornerAt (gL g.1) (gD g.1) a0 v1 σ _ h) lv_X10_100 rfl h1 rfl rfl dX10_complain_2 (cat8 (Nat.le_of_ble_eq_true rfl)) hrm ⟨Nat.le_of_ble_eq_true rfl, Nat.le_of_ble_eq_true rfl⟩ (fun r2 h => ?_)
  refine y_ifnull (tgt := 17) hg dX10_complain_5 (by decide) (fun h4 => ?_) (fun c3 h5 => ?_)
  · replace h := h.1 h4
    refine y_iconst (v := (-1)) hg dX10_complain_17 (by decide) ?_
    exact yEndI hend rfl dX10_complain_18 h
  · replace h := h.2 c3 h5
    refine y_iload_n hg 2 dX10_complain_8 rfl rfl ?_
    refine y_iconst (v := 0) hg dX10_complain_9 (by decide) ?_
    refine y_iconst (v := 3) hg dX10_complain_10 (by decide) ?_
    refine ySIP (Qp := _) (rest := []) (As := [.int v2, .int 0, .int 3]) hg (k_X10_within (gL g.1) (gD g.1) v2 0 3 σ _ h) ls_X10_83 rfl rfl dX10_complain_11 (cat8 (Nat.le_of_ble_eq_true rfl)) hrm ⟨Nat.le_of_ble_eq_true rfl, Nat.le_of_ble_eq_true rfl⟩ (fun x6 h => ?_)
    refine y_if_ne (tgt := 19) hg dX10_complain_14 (by decide) (fun q7 => ?_) (fun q7 => ?_)
    · replace h := h.2 q7
      refine y_aload_n hg 0 dX10_complain_19 rfl rfl ?_
      refine y_iload_n hg 1 dX10_complain_20 rfl rfl ?_
      refine y_iload_n hg 2 dX10_complain_21 rfl rfl ?_
      obtain ⟨bc10, h11, h12, h⟩ := h
      refine y_sub [0] rfl ?_
      refine yVIA (Qm := _) (rest := []) (As := [.int v1, .int v2]) hg hal (k_X10_tellComplaint (gL g.1) (gD g.1) a0 v1 v2 σ bc10 _ h) lv_X10_263 rfl h1 rfl rfl dX10_complain_22 (cat8 (Nat.le_of_ble_eq_true rfl)) hrm ⟨Nat.le_of_ble_eq_true rfl, Nat.le_of_ble_eq_true rfl⟩ h11 h12 (rll_c (lk_k rfl h1 (by decide)) rll_nil) rl_nil (fun x8 σ9 h h13 => ?_)
      have h14 := kp h13 (show ¬ 12 = 0 by decide) h1
      exact yEndI hend rfl dX10_complain_25 h
    · replace h := h.1 q7
      refine y_iconst (v := (-1)) hg dX10_complain_17 (by decide) ?_
      exact yEndI hend rfl dX10_complain_18 h
def P_X10_close (a0 : Nat) (v1 : Int32) (σ : Sg) (Q : Int32 → Sg → Prop) : Prop :=
  sK σ a0 % 32 = 12 ∧ ∃ c2 : Nat, sR σ a0 3 = some c2 ∧ sK σ c2 % 32 = 1 ∧ P_Jx4a65c_size_8abf5 c2 σ (fun x5 => P_X10_within v1 0 (x5 - 1) σ (fun x6 => (x6 = 0 → Q 0 σ) ∧ (¬ (x6 = 0) → ∃ c8 : Nat, sR σ a0 3 = some c8 ∧ sK σ c8 % 32 = 1 ∧ P_Jx4a65c_get_915e3 c8 v1 σ (fun r11 => ∃ c12 : Nat, r11 = some c12 ∧ sK σ c12 % 32 = 3 ∧ ((sI σ c12 5) = 0 → Q 0 σ) ∧ (¬ ((sI σ c12 5) = 0) → ∃ c16 : Nat, sR σ a0 3 = some c16 ∧ sK σ c16 % 32 = 1 ∧ P_Jx4a65c_get_915e3 c16 v1 σ (fun r19 => ∃ c20 : Nat, r19 = some c20 ∧ sK σ c20 % 32 = 3 ∧ ∀ σ23 : Sg, σ23 = pI σ c20 5 0 → Q 1 σ23))))))
set_option maxHeartbeats 4000000 in
set_option maxRecDepth 100000 in
theorem k_X10_close (l : Launch) (D : Dg) (a0 : Nat) (v1 : Int32) (σ : Sg) (Q : Int32 → Sg → Prop) (h : P_X10_close a0 v1 σ Q) : CtrY RN l D yX10_close cX10_close 2 (some FieldType.boolean) 3 64 mkI [.ref a0, .int v1] σ (0, 0) Q := by
  refine y_ctrN (lv := [(0, va_rf (some a0)), (1, .int v1)]) (by decide) (by (exact Nat.le_of_ble_eq_true rfl)) (by (exact rfl)) (fun g hg hgL hgD hrm hgN hgI hend => ?_)
  subst hgD
  clear hgL
  unfold P_X10_close at h
  refine y_iload_n hg 1 dX10_close_0 rfl rfl ?_
  refine y_iconst (v := 0) hg dX10_close_1 (by decide) ?_
  refine y_aload_n hg 0 dX10_close_2 rfl rfl ?_
  obtain ⟨h1, h⟩ := h
  refine y_getR hg fl_X10_22 rfl rfl h1 dX10_close_3 ?_
  obtain ⟨c2, h3, h⟩ := h
  obtain ⟨h4, h⟩ := h
  refine yVIP (Qp := _) (rest := [.int 0, .int v1]) (As := []) hg (k_Jx4a65c_size_8abf5 (gL g.1) (gD g.1) c2 σ _ h) lv_X10_87 h3 h4 rfl rfl dX10_close_6 (cat8 (Nat.le_of_ble_eq_true rfl)) hrm ⟨Nat.le_of_ble_eq_true rfl, Nat.le_of_ble_eq_true rfl⟩ (fun x5 h => ?_)
  refine y_iconst (v := 1) hg dX10_close_9 (by decide) ?_
  refine y_isub hg dX10_close_10 ?_
  refine ySIP (Qp := _) (rest := []) (As := [.int v1, .int 0, .int (x5 - 1)]) hg (k_X10_within (gL g.1) (gD g.1) v1 0 (x5 - 1) σ _ h) ls_X10_83 rfl rfl dX10_close_11 (cat8 (Nat.le_of_ble_eq_true rfl)) hrm ⟨Nat.le_of_ble_eq_true rfl, Nat.le_of_ble_eq_true rfl⟩ (fun x6 h => ?_)
  refine y_if_eq (tgt := 34) hg dX10_close_14 (by decide) (fun q7 => ?_) (fun q7 => ?_)
  · replace h := h.1 q7
    refine y_iconst (v := 0) hg dX10_close_34 (by decide) ?_
    exact yEndI hend (bz_nar (Or.inl rfl)).1 dX10_close_35 h
  · replace h := h.2 q7
    refine y_aload_n hg 0 dX10_close_17 rfl rfl ?_
    refine y_getR hg fl_X10_22 rfl rfl h1 dX10_close_18 ?_
    refine y_iload_n hg 1 dX10_close_21 rfl rfl ?_
    obtain ⟨c8, h9, h⟩ := h
    obtain ⟨h10, h⟩ := h
    refine yVRP (Qp := _) (rest := []) (As := [.int v1]) hg (k_Jx4a65c_get_915e3 (gL g.1) (gD g.1) c8 v1 σ _ h) lv_X10_232 h9 h10 rfl rfl dX10_close_22 (cat8 (Nat.le_of_ble_eq_true rfl)) hrm ⟨Nat.le_of_ble_eq_true rfl, Nat.le_of_ble_eq_true rfl⟩ (fun r11 h => ?_)
    obtain ⟨c12, h13, h⟩ := h
    obtain ⟨h14, h⟩ := h
    refine y_cast (c := 3) hg (C := RX1) rfl (by decide) cl_X10_410 h13 h14 dX10_close_25 ?_
    refine y_getI hg fl_X10_418 rfl h13 h14 dX10_close_28 ?_
    refine y_if_ne (tgt := 36) hg dX10_close_31 (by decide) (fun q15 => ?_) (fun q15 => ?_)
    · replace h := h.2 q15
      refine y_aload_n hg 0 dX10_close_36 rfl rfl ?_
      refine y_getR hg fl_X10_22 rfl rfl h1 dX10_close_37 ?_
      refine y_iload_n hg 1 dX10_close_40 rfl rfl ?_
      obtain ⟨c16, h17, h⟩ := h
      obtain ⟨h18, h⟩ := h
      refine yVRP (Qp := _) (rest := []) (As := [.int v1]) hg (k_Jx4a65c_get_915e3 (gL g.1) (gD g.1) c16 v1 σ _ h) lv_X10_232 h17 h18 rfl rfl dX10_close_41 (cat8 (Nat.le_of_ble_eq_true rfl)) hrm ⟨Nat.le_of_ble_eq_true rfl, Nat.le_of_ble_eq_true rfl⟩ (fun r19 h => ?_)
      obtain ⟨c20, h21, h⟩ := h
      obtain ⟨h22, h⟩ := h
      refine y_cast (c := 3) hg (C := RX1) rfl (by decide) cl_X10_410 h21 h22 dX10_close_44 ?_
      refine y_iconst (v := 0) hg dX10_close_47 (by decide) ?_
      refine y_putZ hg fw_X10_418 (fun z => nomatch z) h21 h22 (Or.inl rfl) dX10_close_48 ?_
      refine y_nmS (fun σ23 e24 => ?_)
      replace h := h σ23 e24
      have E25 : sK σ23 = sK σ := by rw [e24]; rfl
      refine y_iconst (v := 1) hg dX10_close_51 (by decide) ?_
      exact yEndI hend (bz_nar (Or.inr rfl)).1 dX10_close_52 h
    · replace h := h.1 q15
      refine y_iconst (v := 0) hg dX10_close_34 (by decide) ?_
      exact yEndI hend (bz_nar (Or.inl rfl)).1 dX10_close_35 h
def P_X10_complaint (a0 : Nat) (v1 : Int32) (v2 : Int32) (σ : Sg) (Q : Int32 → Prop) : Prop :=
  sK σ a0 % 32 = 12 ∧ ∃ c2 : Nat, sR σ a0 3 = some c2 ∧ sK σ c2 % 32 = 1 ∧ P_Jx4a65c_size_8abf5 c2 σ (fun x5 => P_X10_within v1 0 (x5 - 1) σ (fun x6 => (x6 = 0 → Q (-1)) ∧ (¬ (x6 = 0) → ∃ c8 : Nat, sR σ a0 3 = some c8 ∧ sK σ c8 % 32 = 1 ∧ P_Jx4a65c_get_915e3 c8 v1 σ (fun r11 => ∃ c12 : Nat, r11 = some c12 ∧ sK σ c12 % 32 = 3 ∧ ∀ y15 : Int32, y15 = v2 → (y15 = 0 → Q (sI σ c12 0)) ∧ (¬ (y15 = 0) → (y15 = 1 → Q (sI σ c12 1)) ∧ (¬ (y15 = 1) → (y15 = 2 → Q (sI σ c12 2)) ∧ (¬ (y15 = 2) → (y15 = 3 → Q (sI σ c12 3)) ∧ (¬ (y15 = 3) → (y15 = 4 → Q (sI σ c12 4)) ∧ (¬ (y15 = 4) → (y15 = 5 → ((sI σ c12 5) = 0 → Q 0) ∧ (¬ ((sI σ c12 5) = 0) → Q 1)) ∧ (¬ (y15 = 5) → Q (-1)))))))))))
set_option maxHeartbeats 4000000 in
set_option maxRecDepth 100000 in
theorem k_X10_complaint (l : Launch) (D : Dg) (a0 : Nat) (v1 : Int32) (v2 : Int32) (σ : Sg) (Q : Int32 → Prop) (h : P_X10_complaint a0 v1 v2 σ Q) : CtrY RN l D yX10_complaint cX10_complaint 4 (some FieldType.int) 3 64 mkI [.ref a0, .int v1, .int v2] σ (0, 0) (fun r σ2 => Q r ∧ σ2 = σ) := by
  refine y_ctrN (lv := [(0, va_rf (some a0)), (1, .int v1), (2, .int v2)]) (by decide) (by (exact Nat.le_of_ble_eq_true rfl)) (by (exact rfl)) (fun g hg hgL hgD hrm hgN hgI hend => ?_)
  subst hgD
  clear hgL
  unfold P_X10_complaint at h
  refine y_iload_n hg 1 dX10_complaint_0 rfl rfl ?_
  refine y_iconst (v := 0) hg dX10_complaint_1 (by decide) ?_
  refine y_aload_n hg 0 dX10_complaint_2 rfl rfl ?_
  obtain ⟨h1, h⟩ := h
  refine y_getR hg fl_X10_22 rfl rfl h1 dX10_complaint_3 ?_
  obtain ⟨c2, h3, h⟩ := h
  obtain ⟨h4, h⟩ := h
  refine yVIP (Qp := _) (rest := [.int 0, .int v1]) (As := []) hg (k_Jx4a65c_size_8abf5 (gL g.1) (gD g.1) c2 σ _ h) lv_X10_87 h3 h4 rfl rfl dX10_complaint_6 (cat8 (Nat.le_of_ble_eq_true rfl)) hrm ⟨Nat.le_of_ble_eq_true rfl, Nat.le_of_ble_eq_true rfl⟩ (fun x5 h => ?_)
  refine y_iconst (v := 1) hg dX10_complaint_9 (by decide) ?_
  refine y_isub hg dX10_complaint_10 ?_
  refine ySIP (Qp := _) (rest := []) (As := [.int v1, .int 0, .int (x5 - 1)]) hg (k_X10_within (gL g.1) (gD g.1) v1 0 (x5 - 1) σ _ h) ls_X10_83 rfl rfl dX10_complaint_11 (cat8 (Nat.le_of_ble_eq_true rfl)) hrm ⟨Nat.le_of_ble_eq_true rfl, Nat.le_of_ble_eq_true rfl⟩ (fun x6 h => ?_)
  refine y_if_ne (tgt := 19) hg dX10_complaint_14 (by decide) (fun q7 => ?_) (fun q7 => ?_)
  · replace h := h.2 q7
    refine y_aload_n hg 0 dX10_complaint_19 rfl rfl ?_
    refine y_getR hg fl_X10_22 rfl rfl h1 dX10_complaint_20 ?_
    refine y_iload_n hg 1 dX10_complaint_23 rfl rfl ?_
    obtain ⟨c8, h9, h⟩ := h
    obtain ⟨h10, h⟩ := h
    refine yVRP (Qp := _) (rest := []) (As := [.int v1]) hg (k_Jx4a65c_get_915e3 (gL g.1) (gD g.1) c8 v1 σ _ h) lv_X10_232 h9 h10 rfl rfl dX10_complaint_24 (cat8 (Nat.le_of_ble_eq_true rfl)) hrm ⟨Nat.le_of_ble_eq_true rfl, Nat.le_of_ble_eq_true rfl⟩ (fun r11 h => ?_)
    obtain ⟨c12, h13, h⟩ := h
    obtain ⟨h14, h⟩ := h
    refine y_cast (c := 3) hg (C := RX1) rfl (by decide) cl_X10_410 h13 h14 dX10_complaint_27 ?_
    refine y_astore_n (lv' := [(3, va_rf r11), (0, va_rf (some a0)), (1, .int v1), (2, .int v2)]) hg dX10_complaint_30 rfl (by rw [hgN]; decide) rfl ?_
    refine y_iload_n hg 3 dX10_complaint_31 rfl rfl ?_
    refine y_nmI (fun y15 e16 => ?_)
    replace h := h y15 e16
    by_cases q32_0 : y15 = 0
    · replace h := h.1 q32_0
      refine y_tableIn (tgt := 72) hg dX10_complaint_32 (by rw [q32_0]; decide) (by rw [q32_0]; decide) (by rw [q32_0]; rfl) (by decide) ?_
      refine y_aload_n hg 0 dX10_complaint_72 rfl rfl ?_
      refine y_getI hg fl_X10_421 rfl h13 h14 dX10_complaint_73 ?_
      exact yEndI hend rfl dX10_complaint_76 ⟨h, rfl⟩
    · replace h := h.2 q32_0
      by_cases q32_1 : y15 = 1
      · replace h := h.1 q32_1
        refine y_tableIn (tgt := 77) hg dX10_complaint_32 (by rw [q32_1]; decide) (by rw [q32_1]; decide) (by rw [q32_1]; rfl) (by decide) ?_
        refine y_aload_n hg 0 dX10_complaint_77 rfl rfl ?_
        refine y_getI hg fl_X10_422 rfl h13 h14 dX10_complaint_78 ?_
        exact yEndI hend rfl dX10_complaint_81 ⟨h, rfl⟩
      · replace h := h.2 q32_1
        by_cases q32_2 : y15 = 2
        · replace h := h.1 q32_2
          refine y_tableIn (tgt := 82) hg dX10_complaint_32 (by rw [q32_2]; decide) (by rw [q32_2]; decide) (by rw [q32_2]; rfl) (by decide) ?_
          refine y_aload_n hg 0 dX10_complaint_82 rfl rfl ?_
          refine y_getI hg fl_X10_425 rfl h13 h14 dX10_complaint_83 ?_
          exact yEndI hend rfl dX10_complaint_86 ⟨h, rfl⟩
        · replace h := h.2 q32_2
          by_cases q32_3 : y15 = 3
          · replace h := h.1 q32_3
            refine y_tableIn (tgt := 87) hg dX10_complaint_32 (by rw [q32_3]; decide) (by rw [q32_3]; decide) (by rw [q32_3]; rfl) (by decide) ?_
            refine y_aload_n hg 0 dX10_complaint_87 rfl rfl ?_
            refine y_getI hg fl_X10_426 rfl h13 h14 dX10_complaint_88 ?_
            exact yEndI hend rfl dX10_complaint_91 ⟨h, rfl⟩
          · replace h := h.2 q32_3
            by_cases q32_4 : y15 = 4
            · replace h := h.1 q32_4
              refine y_tableIn (tgt := 92) hg dX10_complaint_32 (by rw [q32_4]; decide) (by rw [q32_4]; decide) (by rw [q32_4]; rfl) (by decide) ?_
              refine y_aload_n hg 0 dX10_complaint_92 rfl rfl ?_
              refine y_getI hg fl_X10_429 rfl h13 h14 dX10_complaint_93 ?_
              exact yEndI hend rfl dX10_complaint_96 ⟨h, rfl⟩
            · replace h := h.2 q32_4
              by_cases q32_5 : y15 = 5
              · replace h := h.1 q32_5
                refine y_tableIn (tgt := 97) hg dX10_complaint_32 (by rw [q32_5]; decide) (by rw [q32_5]; decide) (by rw [q32_5]; rfl) (by decide) ?_
                refine y_aload_n hg 0 dX10_complaint_97 rfl rfl ?_
                refine y_getI hg fl_X10_418 rfl h13 h14 dX10_complaint_98 ?_
                refine y_if_eq (tgt := 108) hg dX10_complaint_101 (by decide) (fun q17 => ?_) (fun q17 => ?_)
                · replace h := h.1 q17
                  refine y_iconst (v := 0) hg dX10_complaint_108 (by decide) ?_
                  exact yEndI hend rfl dX10_complaint_109 ⟨h, rfl⟩
                · replace h := h.2 q17
                  refine y_iconst (v := 1) hg dX10_complaint_104 (by decide) ?_
                  refine y_goto (tgt := 109) hg dX10_complaint_105 (by decide) ?_
                  exact yEndI hend rfl dX10_complaint_109 ⟨h, rfl⟩
              · replace h := h.2 q32_5
                refine y_tableOut (tgt := 110) hg dX10_complaint_32 (sw5_out q32_0 q32_1 q32_2 q32_3 q32_4 q32_5) (by decide) ?_
                refine y_iconst (v := (-1)) hg dX10_complaint_110 (by decide) ?_
                exact yEndI hend rfl dX10_complaint_111 ⟨h, rfl⟩
  · replace h := h.1 q7
    refine y_iconst (v := (-1)) hg dX10_complaint_17 (by decide) ?_
    exact yEndI hend rfl dX10_complaint_18 ⟨h, rfl⟩
def P_X10_feed (a0 : Nat) (v1 : Int32) (v2 : Int32) (v3 : Int32) (v4 : Int32) (v5 : Int32) (σ : Sg) (Q : Int32 → Sg → Prop) : Prop :=
  sK σ a0 % 32 = 12 ∧ ∃ c2 : Nat, sR σ a0 6 = some c2 ∧ sK σ c2 % 32 = 9 ∧ (((sI σ c2 0) + 20) ≤ 700 → ∃ c6 : Nat, sR σ a0 6 = some c6 ∧ sK σ c6 % 32 = 9 ∧ P_X7_add c6 v1 σ (fun _ σ10 => ∃ c13 : Nat, sR σ10 a0 6 = some c13 ∧ sK σ10 c13 % 32 = 9 ∧ P_X7_add c13 v2 σ10 (fun _ σ17 => ∃ c20 : Nat, sR σ17 a0 6 = some c20 ∧ sK σ17 c20 % 32 = 9 ∧ P_X7_add c20 v3 σ17 (fun _ σ24 => ∃ c27 : Nat, sR σ24 a0 6 = some c27 ∧ sK σ24 c27 % 32 = 9 ∧ P_X7_add c27 v4 σ24 (fun _ σ31 => ∃ c34 : Nat, sR σ31 a0 6 = some c34 ∧ sK σ31 c34 % 32 = 9 ∧ P_X7_add c34 v5 σ31 (fun _ σ38 => ∃ c41 : Nat, sR σ38 a0 6 = some c41 ∧ sK σ38 c41 % 32 = 9 ∧ Q (sI σ38 c41 0) σ38)))))) ∧ (¬ (((sI σ c2 0) + 20) ≤ 700) → Q (-1) σ)
set_option maxHeartbeats 4000000 in
set_option maxRecDepth 100000 in
theorem k_X10_feed (l : Launch) (D : Dg) (a0 : Nat) (v1 : Int32) (v2 : Int32) (v3 : Int32) (v4 : Int32) (v5 : Int32) (σ : Sg) (Q : Int32 → Sg → Prop) (h : P_X10_feed a0 v1 v2 v3 v4 v5 σ Q) : CtrY RN l D yX10_feed cX10_feed 6 (some FieldType.int) 1 22 mkI [.ref a0, .int v1, .int v2, .int v3, .int v4, .int v5] σ (0, 0) Q := by
  refine y_ctrN (lv := [(0, va_rf (some a0)), (1, .int v1), (2, .int v2), (3, .int v3), (4, .int v4), (5, .int v5)]) (by decide) (by (exact Nat.le_of_ble_eq_true rfl)) (by (exact rfl)) (fun g hg hgL hgD hrm hgN hgI hend => ?_)
  subst hgD
  clear hgL
  unfold P_X10_feed at h
  refine y_aload_n hg 0 dX10_feed_0 rfl rfl ?_
  obtain ⟨h1, h⟩ := h
  refine y_getR hg fl_X10_40 rfl rfl h1 dX10_feed_1 ?_
  obtain ⟨c2, h3, h⟩ := h
  obtain ⟨h4, h⟩ := h
  refine y_getI hg fl_X10_432 rfl h3 h4 dX10_feed_4 ?_
  refine y_bipush (v := 20) hg dX10_feed_7 (by decide) ?_
  refine y_iadd hg dX10_feed_9 ?_
  refine y_sipush (v := 700) hg dX10_feed_10 (by decide) ?_
  refine y_icmp_le (tgt := 18) hg dX10_feed_13 (by decide) (fun q5 => ?_) (fun q5 => ?_)
  · replace h := h.1 q5
    refine y_aload_n hg 0 dX10_feed_18 rfl rfl ?_
    refine y_getR hg fl_X10_40 rfl rfl h1 dX10_feed_19 ?_
    refine y_iload_n hg 1 dX10_feed_22 rfl rfl ?_
    obtain ⟨c6, h7, h⟩ := h
    obtain ⟨h8, h⟩ := h
    refine yVVW (Qm := _) (rest := []) (As := [.int v1]) hg (k_X7_add (gL g.1) (gD g.1) c6 v1 σ _ h) lv_X10_435 h7 h8 rfl rfl dX10_feed_23 (cat8 (Nat.le_of_ble_eq_true rfl)) hrm ⟨Nat.le_of_ble_eq_true rfl, Nat.le_of_ble_eq_true rfl⟩ (fun u9 σ10 h h11 => ?_)
    have h12 := kp h11 (show ¬ 12 = 0 by decide) h1
    refine y_aload_n hg 0 dX10_feed_26 rfl rfl ?_
    refine y_getR hg fl_X10_40 rfl rfl h12 dX10_feed_27 ?_
    refine y_iload_n hg 2 dX10_feed_30 rfl rfl ?_
    obtain ⟨c13, h14, h⟩ := h
    obtain ⟨h15, h⟩ := h
    refine yVVW (Qm := _) (rest := []) (As := [.int v2]) hg (k_X7_add (gL g.1) (gD g.1) c13 v2 σ10 _ h) lv_X10_435 h14 h15 rfl rfl dX10_feed_31 (cat8 (Nat.le_of_ble_eq_true rfl)) hrm ⟨Nat.le_of_ble_eq_true rfl, Nat.le_of_ble_eq_true rfl⟩ (fun u16 σ17 h h18 => ?_)
    have h19 := kp h18 (show ¬ 12 = 0 by decide) h12
    refine y_aload_n hg 0 dX10_feed_34 rfl rfl ?_
    refine y_getR hg fl_X10_40 rfl rfl h19 dX10_feed_35 ?_
    refine y_iload_n hg 3 dX10_feed_38 rfl rfl ?_
    obtain ⟨c20, h21, h⟩ := h
    obtain ⟨h22, h⟩ := h
    refine yVVW (Qm := _) (rest := []) (As := [.int v3]) hg (k_X7_add (gL g.1) (gD g.1) c20 v3 σ17 _ h) lv_X10_435 h21 h22 rfl rfl dX10_feed_39 (cat8 (Nat.le_of_ble_eq_true rfl)) hrm ⟨Nat.le_of_ble_eq_true rfl, Nat.le_of_ble_eq_true rfl⟩ (fun u23 σ24 h h25 => ?_)
    have h26 := kp h25 (show ¬ 12 = 0 by decide) h19
    refine y_aload_n hg 0 dX10_feed_42 rfl rfl ?_
    refine y_getR hg fl_X10_40 rfl rfl h26 dX10_feed_43 ?_
    refine y_iload hg 4 dX10_feed_46 rfl ?_
    obtain ⟨c27, h28, h⟩ := h
    obtain ⟨h29, h⟩ := h
    refine yVVW (Qm := _) (rest := []) (As := [.int v4]) hg (k_X7_add (gL g.1) (gD g.1) c27 v4 σ24 _ h) lv_X10_435 h28 h29 rfl rfl dX10_feed_48 (cat8 (Nat.le_of_ble_eq_true rfl)) hrm ⟨Nat.le_of_ble_eq_true rfl, Nat.le_of_ble_eq_true rfl⟩ (fun u30 σ31 h h32 => ?_)
    have h33 := kp h32 (show ¬ 12 = 0 by decide) h26
    refine y_aload_n hg 0 dX10_feed_51 rfl rfl ?_
    refine y_getR hg fl_X10_40 rfl rfl h33 dX10_feed_52 ?_
    refine y_iload hg 5 dX10_feed_55 rfl ?_
    obtain ⟨c34, h35, h⟩ := h
    obtain ⟨h36, h⟩ := h
    refine yVVW (Qm := _) (rest := []) (As := [.int v5]) hg (k_X7_add (gL g.1) (gD g.1) c34 v5 σ31 _ h) lv_X10_435 h35 h36 rfl rfl dX10_feed_57 (cat8 (Nat.le_of_ble_eq_true rfl)) hrm ⟨Nat.le_of_ble_eq_true rfl, Nat.le_of_ble_eq_true rfl⟩ (fun u37 σ38 h h39 => ?_)
    have h40 := kp h39 (show ¬ 12 = 0 by decide) h33
    refine y_aload_n hg 0 dX10_feed_60 rfl rfl ?_
    refine y_getR hg fl_X10_40 rfl rfl h40 dX10_feed_61 ?_
    obtain ⟨c41, h42, h⟩ := h
    obtain ⟨h43, h⟩ := h
    refine y_getI hg fl_X10_432 rfl h42 h43 dX10_feed_64 ?_
    exact yEndI hend rfl dX10_feed_67 h
  · replace h := h.2 q5
    refine y_iconst (v := (-1)) hg dX10_feed_16 (by decide) ?_
    exact yEndI hend rfl dX10_feed_17 h
def P_X10_rules (a0 : Nat) (v1 : Int32) (σ : Sg) (b : Nat × Nat) (Q : Int32 → Sg → Prop) : Prop :=
  sK σ a0 % 32 = 12 ∧ ∃ c2 : Nat, sR σ a0 6 = some c2 ∧ sK σ c2 % 32 = 9 ∧ P_X10_within v1 0 (sI σ c2 0) σ (fun x5 => (x5 = 0 → Q (-2) σ) ∧ (¬ (x5 = 0) → ∃ c7 : Nat, sR σ a0 4 = some c7 ∧ sK σ c7 % 32 = 1 ∧ P_Jx4a65c_size_8abf5 c7 σ (fun x10 => (x10 < 10 → ∃ κ12 q16 : Nat, κ12 % 32 = 6 ∧ 1 ≤ b.1 ∧ 4 ≤ b.2 ∧ sK σ q16 = 0 ∧ 1000 ≤ q16 ∧ ∀ σ19 : Sg, σ19 = nw σ q16 κ12 0 → ∃ c22 : Nat, sR σ19 a0 4 = some c22 ∧ sK σ19 c22 % 32 = 1 ∧ P_Jx4a65c_size_8abf5 c22 σ19 (fun x25 => ∃ bc28 : Nat × Nat, bc28.1 ≤ b.1 - 1 ∧ bc28.2 ≤ b.2 - 4 ∧ P_X4_init q16 (sI σ19 a0 15) x25 σ19 bc28 (fun _ σ27 => ∃ c34 : Nat, sR σ27 a0 6 = some c34 ∧ sK σ27 c34 % 32 = 9 ∧ ∃ bc39 : Nat × Nat, bc39.1 ≤ b.1 - 1 - bc28.1 ∧ bc39.2 ≤ b.2 - 4 - bc28.2 ∧ P_X7_read c34 v1 (some q16) σ27 bc39 (fun x37 σ38 => ∀ σ45 : Sg, σ45 = pI σ38 a0 17 x37 → ((sI σ45 a0 17) = (-1) → ∃ c49 : Nat, sR σ45 a0 4 = some c49 ∧ sK σ45 c49 % 32 = 1 ∧ ∃ bc54 : Nat × Nat, bc54.1 ≤ b.1 - 1 - bc28.1 - bc39.1 ∧ bc54.2 ≤ b.2 - 4 - bc28.2 - bc39.2 ∧ P_Jx4a65c_add_9ea2d c49 (some q16) σ45 bc54 (fun x52 σ53 => Q (sI σ53 q16 1) σ53)) ∧ (¬ ((sI σ45 a0 17) = (-1)) → Q (-1) σ45))))) ∧ (¬ (x10 < 10) → Q (-3) σ))))
set_option maxHeartbeats 4000000 in
set_option maxRecDepth 100000 in
theorem k_X10_rules (l : Launch) (D : Dg) (a0 : Nat) (v1 : Int32) (σ : Sg) (b : Nat × Nat) (Q : Int32 → Sg → Prop) (h : P_X10_rules a0 v1 σ b Q) : CtrY RA l D yX10_rules cX10_rules 3 (some FieldType.int) 10 240 mkI [.ref a0, .int v1] σ b Q := by
  refine y_ctrA (lv := [(0, va_rf (some a0)), (1, .int v1)]) (by decide) (by (exact Nat.le_of_ble_eq_true rfl)) (by (exact rfl)) (fun g hg hgL hgD hrm hgN hgI hend hal => ?_)
  subst hgD
  clear hgL
  unfold P_X10_rules at h
  refine y_iload_n hg 1 dX10_rules_0 rfl rfl ?_
  refine y_iconst (v := 0) hg dX10_rules_1 (by decide) ?_
  refine y_aload_n hg 0 dX10_rules_2 rfl rfl ?_
  obtain ⟨h1, h⟩ := h
  refine y_getR hg fl_X10_40 rfl rfl h1 dX10_rules_3 ?_
  obtain ⟨c2, h3, h⟩ := h
  obtain ⟨h4, h⟩ := h
  refine y_getI hg fl_X10_432 rfl h3 h4 dX10_rules_6 ?_
  refine ySIP (Qp := _) (rest := []) (As := [.int v1, .int 0, .int (sI σ c2 0)]) hg (k_X10_within (gL g.1) (gD g.1) v1 0 (sI σ c2 0) σ _ h) ls_X10_83 rfl rfl dX10_rules_9 (cat8 (Nat.le_of_ble_eq_true rfl)) hrm ⟨Nat.le_of_ble_eq_true rfl, Nat.le_of_ble_eq_true rfl⟩ (fun x5 h => ?_)
  refine y_if_ne (tgt := 18) hg dX10_rules_12 (by decide) (fun q6 => ?_) (fun q6 => ?_)
  · replace h := h.2 q6
    refine y_aload_n hg 0 dX10_rules_18 rfl rfl ?_
    refine y_getR hg fl_X10_25 rfl rfl h1 dX10_rules_19 ?_
    obtain ⟨c7, h8, h⟩ := h
    obtain ⟨h9, h⟩ := h
    refine yVIP (Qp := _) (rest := []) (As := []) hg (k_Jx4a65c_size_8abf5 (gL g.1) (gD g.1) c7 σ _ h) lv_X10_87 h8 h9 rfl rfl dX10_rules_22 (cat8 (Nat.le_of_ble_eq_true rfl)) hrm ⟨Nat.le_of_ble_eq_true rfl, Nat.le_of_ble_eq_true rfl⟩ (fun x10 h => ?_)
    refine y_bipush (v := 10) hg dX10_rules_25 (by decide) ?_
    refine y_icmp_lt (tgt := 33) hg dX10_rules_27 (by decide) (fun q11 => ?_) (fun q11 => ?_)
    · replace h := h.1 q11
      obtain ⟨κ12, q16, h13, h14, h15, h17, h18, h⟩ := h
      refine y_new hg hal nl_X10_28 h13 h14 h15 h17 h18 (rll_c (lk_k rfl h1 (by decide)) (rll_c (lk_i _) rll_nil)) rl_nil dX10_rules_33 ?_
      refine y_nmS (fun σ19 e20 => ?_)
      replace h := h σ19 e20
      refine y_dup hg dX10_rules_36 rfl ?_
      refine y_aload_n hg 0 dX10_rules_37 rfl rfl ?_
      refine y_getI hg fl_X10_120 rfl rfl (kw e20 h17 (by decide) h1) dX10_rules_38 ?_
      refine y_aload_n hg 0 dX10_rules_41 rfl rfl ?_
      refine y_getR hg fl_X10_25 rfl rfl (kw e20 h17 (by decide) h1) dX10_rules_42 ?_
      obtain ⟨c22, h23, h⟩ := h
      obtain ⟨h24, h⟩ := h
      refine yVIP (Qp := _) (rest := [.int (sI σ19 a0 15), va_rf (some q16), va_rf (some q16)]) (As := []) hg (k_Jx4a65c_size_8abf5 (gL g.1) (gD g.1) c22 σ19 _ h) lv_X10_87 h23 h24 rfl rfl dX10_rules_45 (cat8 (Nat.le_of_ble_eq_true rfl)) hrm ⟨Nat.le_of_ble_eq_true rfl, Nat.le_of_ble_eq_true rfl⟩ (fun x25 h => ?_)
      obtain ⟨bc28, h29, h30, h⟩ := h
      refine yIVA (Qm := _) (rest := [va_rf (some q16)]) (As := [.int (sI σ19 a0 15), .int x25]) hg hal (k_X4_init (gL g.1) (gD g.1) q16 (sI σ19 a0 15) x25 σ19 bc28 _ h) li_X10_30 rfl rfl rfl dX10_rules_48 (cat8 (Nat.le_of_ble_eq_true rfl)) hrm ⟨Nat.le_of_ble_eq_true rfl, Nat.le_of_ble_eq_true rfl⟩ h29 h30 (rll_c (lk_k rfl (kw e20 h17 (by decide) h1) (by decide)) (rll_c (lk_i _) rll_nil)) (rl_c (lk_k rfl (kn e20 h13) (by decide)) rl_nil) (fun u26 σ27 h h31 => ?_)
      have h32 := kp h31 (show ¬ 12 = 0 by decide) (kw e20 h17 (by decide) h1)
      have h33 := kp h31 (show ¬ 6 = 0 by decide) (kn e20 h13)
      refine y_astore_n (lv' := [(2, va_rf (some q16)), (0, va_rf (some a0)), (1, .int v1)]) hg dX10_rules_51 rfl (by rw [hgN]; decide) rfl ?_
      refine y_aload_n hg 1 dX10_rules_52 rfl rfl ?_
      refine y_aload_n hg 1 dX10_rules_53 rfl rfl ?_
      refine y_getR hg fl_X10_40 rfl rfl h32 dX10_rules_54 ?_
      refine y_iload_n hg 2 dX10_rules_57 rfl rfl ?_
      refine y_aload_n hg 0 dX10_rules_58 rfl rfl ?_
      obtain ⟨c34, h35, h⟩ := h
      obtain ⟨h36, h⟩ := h
      obtain ⟨bc39, h40, h41, h⟩ := h
      refine y_sub [0, 1] rfl ?_
      refine yVIA (Qm := _) (rest := [va_rf (some a0)]) (As := [.int v1, va_rf (some q16)]) hg hal (k_X7_read (gL g.1) (gD g.1) c34 v1 (some q16) σ27 bc39 _ h) lv_X10_437 h35 h36 rfl rfl dX10_rules_59 (cat8 (Nat.le_of_ble_eq_true rfl)) hrm ⟨Nat.le_of_ble_eq_true rfl, Nat.le_of_ble_eq_true rfl⟩ h40 h41 (rll_c (lk_k rfl h33 (by decide)) (rll_c (lk_k rfl h32 (by decide)) rll_nil)) (rl_c (lk_k rfl h32 (by decide)) rl_nil) (fun x37 σ38 h h42 => ?_)
      have h43 := kp h42 (show ¬ 12 = 0 by decide) h32
      have h44 := kp h42 (show ¬ 6 = 0 by decide) h33
      refine y_putI hg fw_X10_73 (fun z => nomatch z) rfl h43 dX10_rules_62 ?_
      refine y_nmS (fun σ45 e46 => ?_)
      replace h := h σ45 e46
      have E47 : sK σ45 = sK σ38 := by rw [e46]; rfl
      refine y_aload_n hg 1 dX10_rules_65 rfl rfl ?_
      refine y_getI hg fl_X10_73 rfl rfl (kq E47 h43) dX10_rules_66 ?_
      refine y_iconst (v := (-1)) hg dX10_rules_69 (by decide) ?_
      refine y_icmp_eq (tgt := 75) hg dX10_rules_70 (by decide) (fun q48 => ?_) (fun q48 => ?_)
      · replace h := h.1 q48
        refine y_aload_n hg 1 dX10_rules_75 rfl rfl ?_
        refine y_getR hg fl_X10_25 rfl rfl (kq E47 h43) dX10_rules_76 ?_
        refine y_aload_n hg 0 dX10_rules_79 rfl rfl ?_
        obtain ⟨c49, h50, h⟩ := h
        obtain ⟨h51, h⟩ := h
        obtain ⟨bc54, h55, h56, h⟩ := h
        refine yVIA (Qm := _) (rest := []) (As := [va_rf (some q16)]) hg hal (k_Jx4a65c_add_9ea2d (gL g.1) (gD g.1) c49 (some q16) σ45 bc54 _ h) lv_X10_96 h50 h51 rfl rfl dX10_rules_80 (cat8 (Nat.le_of_ble_eq_true rfl)) hrm ⟨Nat.le_of_ble_eq_true rfl, Nat.le_of_ble_eq_true rfl⟩ h55 h56 (rll_c (lk_k rfl (kq E47 h44) (by decide)) (rll_c (lk_k rfl (kq E47 h43) (by decide)) rll_nil)) rl_nil (fun x52 σ53 h h57 => ?_)
        have h58 := kp h57 (show ¬ 12 = 0 by decide) (kq E47 h43)
        have h59 := kp h57 (show ¬ 6 = 0 by decide) (kq E47 h44)
        refine y_pop hg dX10_rules_83 rfl ?_
        refine y_aload_n hg 0 dX10_rules_84 rfl rfl ?_
        refine y_getI hg fl_X10_441 rfl rfl h59 dX10_rules_85 ?_
        exact yEndI hend rfl dX10_rules_88 h
      · replace h := h.2 q48
        refine y_iconst (v := (-1)) hg dX10_rules_73 (by decide) ?_
        exact yEndI hend rfl dX10_rules_74 h
    · replace h := h.2 q11
      refine y_bipush (v := (-3)) hg dX10_rules_30 (by decide) ?_
      exact yEndI hend rfl dX10_rules_32 h
  · replace h := h.1 q6
    refine y_bipush (v := (-2)) hg dX10_rules_15 (by decide) ?_
    exact yEndI hend rfl dX10_rules_17 h
def P_X10_fault (a0 : Nat) (σ : Sg) (Q : Int32 → Prop) : Prop :=
  sK σ a0 % 32 = 12 ∧ Q (sI σ a0 17)
set_option maxHeartbeats 4000000 in
set_option maxRecDepth 100000 in
theorem k_X10_fault (l : Launch) (D : Dg) (a0 : Nat) (σ : Sg) (Q : Int32 → Prop) (h : P_X10_fault a0 σ Q) : CtrY RN l D yX10_fault cX10_fault 1 (some FieldType.int) 0 0 mkI [.ref a0] σ (0, 0) (fun r σ2 => Q r ∧ σ2 = σ) := by
  refine y_ctrN (lv := [(0, va_rf (some a0))]) (by decide) (by (exact Nat.le_of_ble_eq_true rfl)) (by (exact rfl)) (fun g hg hgL hgD hrm hgN hgI hend => ?_)
  subst hgD
  clear hgL
  unfold P_X10_fault at h
  refine y_aload_n hg 0 dX10_fault_0 rfl rfl ?_
  obtain ⟨h1, h⟩ := h
  refine y_getI hg fl_X10_73 rfl rfl h1 dX10_fault_1 ?_
  exact yEndI hend rfl dX10_fault_4 ⟨h, rfl⟩
def P_X10_law (a0 : Nat) (v1 : Int32) (v2 : Int32) (σ : Sg) (Q : Int32 → Prop) : Prop :=
  P_X10_within v1 0 3649 σ (fun x1 => (x1 = 0 → Q (-1)) ∧ (¬ (x1 = 0) → P_X10_within v2 0 22 σ (fun x3 => (x3 = 0 → Q (-1)) ∧ (¬ (x3 = 0) → sK σ a0 % 32 = 12 ∧ P_X10_lawOn a0 v1 σ (fun r6 => (21 ≤ v2 → (v2 = 21 → ∃ c12 : Nat, r6 = some c12 ∧ sK σ c12 % 32 = 6 ∧ ∃ c15 : Nat, sR σ c12 2 = some c15 ∧ sK σ c15 % 32 = 1 ∧ P_Jx4a65c_size_8abf5 c15 σ (fun x18 => Q x18)) ∧ (¬ (v2 = 21) → ∃ c9 : Nat, r6 = some c9 ∧ sK σ c9 % 32 = 6 ∧ Q (sI σ c9 1))) ∧ (¬ (21 ≤ v2) → ∃ c19 : Nat, r6 = some c19 ∧ sK σ c19 % 32 = 6 ∧ P_X4_value c19 v2 σ (fun x22 => Q x22)))))))
set_option maxHeartbeats 4000000 in
set_option maxRecDepth 100000 in
theorem k_X10_law (l : Launch) (D : Dg) (a0 : Nat) (v1 : Int32) (v2 : Int32) (σ : Sg) (Q : Int32 → Prop) (h : P_X10_law a0 v1 v2 σ Q) : CtrY RN l D yX10_law cX10_law 4 (some FieldType.int) 4 86 mkI [.ref a0, .int v1, .int v2] σ (0, 0) (fun r σ2 => Q r ∧ σ2 = σ) := by
  refine y_ctrN (lv := [(0, va_rf (some a0)), (1, .int v1), (2, .int v2)]) (by decide) (by (exact Nat.le_of_ble_eq_true rfl)) (by (exact rfl)) (fun g hg hgL hgD hrm hgN hgI hend => ?_)
  subst hgD
  clear hgL
  unfold P_X10_law at h
  refine y_iload_n hg 1 dX10_law_0 rfl rfl ?_
  refine y_iconst (v := 0) hg dX10_law_1 (by decide) ?_
  refine y_sipush (v := 3649) hg dX10_law_2 (by decide) ?_
  refine ySIP (Qp := _) (rest := []) (As := [.int v1, .int 0, .int 3649]) hg (k_X10_within (gL g.1) (gD g.1) v1 0 3649 σ _ h) ls_X10_83 rfl rfl dX10_law_5 (cat8 (Nat.le_of_ble_eq_true rfl)) hrm ⟨Nat.le_of_ble_eq_true rfl, Nat.le_of_ble_eq_true rfl⟩ (fun x1 h => ?_)
  refine y_if_eq (tgt := 21) hg dX10_law_8 (by decide) (fun q2 => ?_) (fun q2 => ?_)
  · replace h := h.1 q2
    refine y_iconst (v := (-1)) hg dX10_law_21 (by decide) ?_
    exact yEndI hend rfl dX10_law_22 ⟨h, rfl⟩
  · replace h := h.2 q2
    refine y_iload_n hg 2 dX10_law_11 rfl rfl ?_
    refine y_iconst (v := 0) hg dX10_law_12 (by decide) ?_
    refine y_bipush (v := 22) hg dX10_law_13 (by decide) ?_
    refine ySIP (Qp := _) (rest := []) (As := [.int v2, .int 0, .int 22]) hg (k_X10_within (gL g.1) (gD g.1) v2 0 22 σ _ h) ls_X10_83 rfl rfl dX10_law_15 (cat8 (Nat.le_of_ble_eq_true rfl)) hrm ⟨Nat.le_of_ble_eq_true rfl, Nat.le_of_ble_eq_true rfl⟩ (fun x3 h => ?_)
    refine y_if_ne (tgt := 23) hg dX10_law_18 (by decide) (fun q4 => ?_) (fun q4 => ?_)
    · replace h := h.2 q4
      refine y_aload_n hg 0 dX10_law_23 rfl rfl ?_
      refine y_iload_n hg 1 dX10_law_24 rfl rfl ?_
      obtain ⟨h5, h⟩ := h
      refine yVRP (Qp := _) (rest := []) (As := [.int v1]) hg (k_X10_lawOn (gL g.1) (gD g.1) a0 v1 σ _ h) lv_X10_123 rfl h5 rfl rfl dX10_law_25 (cat8 (Nat.le_of_ble_eq_true rfl)) hrm ⟨Nat.le_of_ble_eq_true rfl, Nat.le_of_ble_eq_true rfl⟩ (fun r6 h => ?_)
      refine y_astore_n (lv' := [(3, va_rf r6), (0, va_rf (some a0)), (1, .int v1), (2, .int v2)]) hg dX10_law_28 rfl (by rw [hgN]; decide) rfl ?_
      refine y_iload_n hg 3 dX10_law_29 rfl rfl ?_
      refine y_bipush (v := 21) hg dX10_law_30 (by decide) ?_
      refine y_icmp_ge (tgt := 41) hg dX10_law_32 (by decide) (fun q7 => ?_) (fun q7 => ?_)
      · replace h := h.1 q7
        refine y_iload_n hg 3 dX10_law_41 rfl rfl ?_
        refine y_bipush (v := 21) hg dX10_law_42 (by decide) ?_
        refine y_icmp_ne (tgt := 57) hg dX10_law_44 (by decide) (fun q8 => ?_) (fun q8 => ?_)
        · replace h := h.2 q8
          refine y_aload_n hg 0 dX10_law_57 rfl rfl ?_
          obtain ⟨c9, h10, h⟩ := h
          obtain ⟨h11, h⟩ := h
          refine y_getI hg fl_X10_441 rfl h10 h11 dX10_law_58 ?_
          exact yEndI hend rfl dX10_law_61 ⟨h, rfl⟩
        · replace h := h.1 q8
          refine y_aload_n hg 0 dX10_law_47 rfl rfl ?_
          obtain ⟨c12, h13, h⟩ := h
          obtain ⟨h14, h⟩ := h
          refine y_getR hg fl_X10_272 rfl h13 h14 dX10_law_48 ?_
          obtain ⟨c15, h16, h⟩ := h
          obtain ⟨h17, h⟩ := h
          refine yVIP (Qp := _) (rest := []) (As := []) hg (k_Jx4a65c_size_8abf5 (gL g.1) (gD g.1) c15 σ _ h) lv_X10_87 h16 h17 rfl rfl dX10_law_51 (cat8 (Nat.le_of_ble_eq_true rfl)) hrm ⟨Nat.le_of_ble_eq_true rfl, Nat.le_of_ble_eq_true rfl⟩ (fun x18 h => ?_)
          refine y_goto (tgt := 61) hg dX10_law_54 (by decide) ?_
          exact yEndI hend rfl dX10_law_61 ⟨h, rfl⟩
      · replace h := h.2 q7
        refine y_aload_n hg 0 dX10_law_35 rfl rfl ?_
        refine y_iload_n hg 3 dX10_law_36 rfl rfl ?_
        obtain ⟨c19, h20, h⟩ := h
        obtain ⟨h21, h⟩ := h
        refine yVIP (Qp := _) (rest := []) (As := [.int v2]) hg (k_X4_value (gL g.1) (gD g.1) c19 v2 σ _ h) lv_X10_127 h20 h21 rfl rfl dX10_law_37 (cat8 (Nat.le_of_ble_eq_true rfl)) hrm ⟨Nat.le_of_ble_eq_true rfl, Nat.le_of_ble_eq_true rfl⟩ (fun x22 h => ?_)
        exact yEndI hend rfl dX10_law_40 ⟨h, rfl⟩
    · replace h := h.1 q4
      refine y_iconst (v := (-1)) hg dX10_law_21 (by decide) ?_
      exact yEndI hend rfl dX10_law_22 ⟨h, rfl⟩
def P_X10_inBowls_B47 (a0 : Nat) (v3 : Int32) (w0 : Int64) (w1 : Int64) (σ : Sg) (Q : Int64 → Prop) (K4 : Int64 → Int32 → Prop) : Prop :=
  ∀ x20 : Int64, x20 = w0 + w1 → ∀ x22 : Int32, x22 = v3 + 1 → K4 x20 x22
def P_X10_inBowls_L4b (a0 : Nat) (v1 : Int64) (v3 : Int32) (σ : Sg) (Q : Int64 → Prop) (K4 : Int64 → Int32 → Prop) : Prop :=
  sK σ a0 % 32 = 12 ∧ ∃ c2 : Nat, sR σ a0 0 = some c2 ∧ sK σ c2 % 32 = 1 ∧ P_Jx4a65c_size_8abf5 c2 σ (fun x5 => (x5 ≤ v3 → Q v1) ∧ (¬ (x5 ≤ v3) → ∃ c7 : Nat, sR σ a0 0 = some c7 ∧ sK σ c7 % 32 = 1 ∧ P_Jx4a65c_get_915e3 c7 v3 σ (fun r10 => ∃ c11 : Nat, r10 = some c11 ∧ sK σ c11 % 32 = 4 ∧ ∀ r14 : Option Nat, r14 = sR σ c11 5 → (r14 = none → P_X10_inBowls_B47 a0 v3 v1 0 σ Q K4) ∧ (∀ c16 : Nat, r14 = some c16 → sK σ c16 % 32 = 2 ∧ P_X10_inBowls_B47 a0 v3 v1 ((sI σ c16 8).toInt64) σ Q K4))))
def P_X10_inBowls_L4 (a0 : Nat) (v1 : Int64) (v3 : Int32) (σ : Sg) (Q : Int64 → Prop) : Prop :=
  ∃ I : Nat → Int64 → Int32 → Prop, (∃ n, I n v1 v3) ∧ ∀ (n : Nat) (v1 : Int64) (v3 : Int32), I n v1 v3 → P_X10_inBowls_L4b a0 v1 v3 σ Q (fun v1 v3 => ∃ n', n' < n ∧ I n' v1 v3)
def P_X10_inBowls (a0 : Nat) (σ : Sg) (Q : Int64 → Prop) : Prop :=
  P_X10_inBowls_L4 a0 0 0 σ Q
set_option maxHeartbeats 4000000 in
set_option maxRecDepth 100000 in
theorem k_X10_inBowls (l : Launch) (D : Dg) (a0 : Nat) (σ : Sg) (Q : Int64 → Prop) (h : P_X10_inBowls a0 σ Q) : CtrY RN l D yX10_inBowls cX10_inBowls 5 (some FieldType.long) 3 64 mkL [.ref a0] σ (0, 0) (fun r σ2 => Q r ∧ σ2 = σ) := by
  refine y_ctrN (lv := [(0, va_rf (some a0))]) (by decide) (by (exact Nat.le_of_ble_eq_true rfl)) (by (exact rfl)) (fun g hg hgL hgD hrm hgN hgI hend => ?_)
  subst hgD
  clear hgL
  unfold P_X10_inBowls at h
  have J4 : ∀ (v1 : Int64) (v3 : Int32), P_X10_inBowls_L4 a0 v1 v3 σ Q → XA g 4 [(0, va_rf (some a0)), (1, .long v1), (3, .int v3)] [] σ (0, 0) := by
    intro v1 v3 h
    unfold P_X10_inBowls_L4 at h
    obtain ⟨I4, ⟨n4, hI4⟩, hs4⟩ := h
    have key4 : ∀ (n : Nat), ∀ (v1 : Int64) (v3 : Int32), I4 n v1 v3 → XA g 4 [(0, va_rf (some a0)), (1, .long v1), (3, .int v3)] [] σ (0, 0) := by
      intro n
      induction n using Nat.strongRecOn with
      | _ n ih4 =>
      intro v1 v3 hI
      have h := hs4 n v1 v3 hI
      clear hI hI4 hs4
      obtain ⟨K4, hK4⟩ : ∃ K : Int64 → Int32 → Prop, K = (fun v1 v3 => ∃ n', n' < n ∧ I4 n' v1 v3) := ⟨_, rfl⟩
      rw [← hK4] at h
      unfold P_X10_inBowls_L4b at h
      have J47 : ∀ (v3 : Int32) (w0 : Int64) (w1 : Int64), P_X10_inBowls_B47 a0 v3 w0 w1 σ Q K4 → XA g 47 [(0, va_rf (some a0)), (3, .int v3)] [.long w1, .long w0] σ (0, 0) := by
        intro v3 w0 w1 h
        unfold P_X10_inBowls_B47 at h
        refine y_ladd hg dX10_inBowls_47 ?_
        refine y_nmJ (fun x20 e21 => ?_)
        replace h := h x20 e21
        refine y_lstore_n (lv' := [(1, .long x20), (0, va_rf (some a0)), (3, .int v3)]) hg dX10_inBowls_48 rfl (by rw [hgN]; decide) rfl ?_
        obtain ⟨x22, e23⟩ : ∃ y : Int32, y = v3 + 1 := ⟨_, rfl⟩
        replace h := h x22 e23
        refine y_iinc (v := x22) (lv' := [(3, .int x22), (1, .long x20), (0, va_rf (some a0))]) hg 2 dX10_inBowls_49 rfl (by rw [e23]; rfl) (by rw [hgN]; decide) rfl ?_
        refine y_goto (tgt := 4) hg dX10_inBowls_52 (by decide) ?_
        refine y_sub [2, 1, 0] rfl ?_
        subst hK4
        obtain ⟨n24, h25, h⟩ := h
        exact ih4 n24 h25 _ _ h
      refine y_iload_n hg 2 dX10_inBowls_4 rfl rfl ?_
      refine y_aload_n hg 0 dX10_inBowls_5 rfl rfl ?_
      obtain ⟨h1, h⟩ := h
      refine y_getR hg fl_X10_10 rfl rfl h1 dX10_inBowls_6 ?_
      obtain ⟨c2, h3, h⟩ := h
      obtain ⟨h4, h⟩ := h
      refine yVIP (Qp := _) (rest := [.int v3]) (As := []) hg (k_Jx4a65c_size_8abf5 (gL g.1) (gD g.1) c2 σ _ h) lv_X10_87 h3 h4 rfl rfl dX10_inBowls_9 (cat8 (Nat.le_of_ble_eq_true rfl)) hrm ⟨Nat.le_of_ble_eq_true rfl, Nat.le_of_ble_eq_true rfl⟩ (fun x5 h => ?_)
      refine y_icmp_ge (tgt := 55) hg dX10_inBowls_12 (by decide) (fun q6 => ?_) (fun q6 => ?_)
      · replace h := h.1 q6
        refine y_lload_n hg 1 dX10_inBowls_55 rfl rfl ?_
        exact yEndL hend dX10_inBowls_56 ⟨h, rfl⟩
      · replace h := h.2 q6
        refine y_aload_n hg 0 dX10_inBowls_15 rfl rfl ?_
        refine y_getR hg fl_X10_10 rfl rfl h1 dX10_inBowls_16 ?_
        refine y_iload_n hg 2 dX10_inBowls_19 rfl rfl ?_
        obtain ⟨c7, h8, h⟩ := h
        obtain ⟨h9, h⟩ := h
        refine yVRP (Qp := _) (rest := []) (As := [.int v3]) hg (k_Jx4a65c_get_915e3 (gL g.1) (gD g.1) c7 v3 σ _ h) lv_X10_232 h8 h9 rfl rfl dX10_inBowls_20 (cat8 (Nat.le_of_ble_eq_true rfl)) hrm ⟨Nat.le_of_ble_eq_true rfl, Nat.le_of_ble_eq_true rfl⟩ (fun r10 h => ?_)
        obtain ⟨c11, h12, h⟩ := h
        obtain ⟨h13, h⟩ := h
        refine y_cast (c := 4) hg (C := RX2) rfl (by decide) cl_X10_91 h12 h13 dX10_inBowls_23 ?_
        refine y_getR hg fl_X10_110 rfl h12 h13 dX10_inBowls_26 ?_
        refine y_nmR (fun r14 e15 => ?_)
        replace h := h r14 e15
        refine y_astore (lv' := [(4, va_rf r14), (0, va_rf (some a0)), (1, .long v1), (3, .int v3)]) hg dX10_inBowls_29 (by rw [hgN]; decide) rfl ?_
        refine y_lload_n hg 2 dX10_inBowls_31 rfl rfl ?_
        refine y_aload hg 0 dX10_inBowls_32 rfl ?_
        refine y_ifnonnull (tgt := 41) hg dX10_inBowls_34 (by decide) (fun c16 h18 => ?_) (fun h17 => ?_)
        · replace h := h.2 c16 h18
          refine y_aload hg 0 dX10_inBowls_41 rfl ?_
          obtain ⟨h19, h⟩ := h
          refine y_getI hg fl_X10_204 rfl h18 h19 dX10_inBowls_43 ?_
          refine y_i2l hg dX10_inBowls_46 ?_
          refine y_sub [1, 3] rfl ?_
          exact J47 _ _ _ h
        · replace h := h.1 h17
          refine y_lconst (v := 0) hg dX10_inBowls_37 (by decide) ?_
          refine y_goto (tgt := 47) hg dX10_inBowls_38 (by decide) ?_
          refine y_sub [1, 3] rfl ?_
          exact J47 _ _ _ h
    exact key4 n4 v1 v3 hI4
  refine y_lconst (v := 0) hg dX10_inBowls_0 (by decide) ?_
  refine y_lstore_n (lv' := [(1, .long 0), (0, va_rf (some a0))]) hg dX10_inBowls_1 rfl (by rw [hgN]; decide) rfl ?_
  refine y_iconst (v := 0) hg dX10_inBowls_2 (by decide) ?_
  refine y_istore_n (lv' := [(3, .int 0), (1, .long 0), (0, va_rf (some a0))]) hg dX10_inBowls_3 rfl (by rw [hgN]; decide) rfl ?_
  refine y_sub [2, 1, 0] rfl ?_
  exact J4 _ _ h
def P_X10_inBarrels_L4b (a0 : Nat) (v1 : Int64) (v3 : Int32) (σ : Sg) (Q : Int64 → Prop) (K4 : Int64 → Int32 → Prop) : Prop :=
  sK σ a0 % 32 = 12 ∧ ∃ c2 : Nat, sR σ a0 1 = some c2 ∧ sK σ c2 % 32 = 1 ∧ P_Jx4a65c_size_8abf5 c2 σ (fun x5 => (x5 ≤ v3 → Q v1) ∧ (¬ (x5 ≤ v3) → ∃ c7 : Nat, sR σ a0 1 = some c7 ∧ sK σ c7 % 32 = 1 ∧ P_Jx4a65c_get_915e3 c7 v3 σ (fun r10 => ∃ c11 : Nat, r10 = some c11 ∧ sK σ c11 % 32 = 8 ∧ ∀ x14 : Int64, x14 = v1 + ((sI σ c11 4).toInt64) → ∀ x16 : Int32, x16 = v3 + 1 → K4 x14 x16)))
def P_X10_inBarrels_L4 (a0 : Nat) (v1 : Int64) (v3 : Int32) (σ : Sg) (Q : Int64 → Prop) : Prop :=
  ∃ I : Nat → Int64 → Int32 → Prop, (∃ n, I n v1 v3) ∧ ∀ (n : Nat) (v1 : Int64) (v3 : Int32), I n v1 v3 → P_X10_inBarrels_L4b a0 v1 v3 σ Q (fun v1 v3 => ∃ n', n' < n ∧ I n' v1 v3)
def P_X10_inBarrels (a0 : Nat) (σ : Sg) (Q : Int64 → Prop) : Prop :=
  P_X10_inBarrels_L4 a0 0 0 σ Q
set_option maxHeartbeats 4000000 in
set_option maxRecDepth 100000 in
theorem k_X10_inBarrels (l : Launch) (D : Dg) (a0 : Nat) (σ : Sg) (Q : Int64 → Prop) (h : P_X10_inBarrels a0 σ Q) : CtrY RN l D yX10_inBarrels cX10_inBarrels 4 (some FieldType.long) 3 64 mkL [.ref a0] σ (0, 0) (fun r σ2 => Q r ∧ σ2 = σ) := by
  refine y_ctrN (lv := [(0, va_rf (some a0))]) (by decide) (by (exact Nat.le_of_ble_eq_true rfl)) (by (exact rfl)) (fun g hg hgL hgD hrm hgN hgI hend => ?_)
  subst hgD
  clear hgL
  unfold P_X10_inBarrels at h
  have J4 : ∀ (v1 : Int64) (v3 : Int32), P_X10_inBarrels_L4 a0 v1 v3 σ Q → XA g 4 [(0, va_rf (some a0)), (1, .long v1), (3, .int v3)] [] σ (0, 0) := by
    intro v1 v3 h
    unfold P_X10_inBarrels_L4 at h
    obtain ⟨I4, ⟨n4, hI4⟩, hs4⟩ := h
    have key4 : ∀ (n : Nat), ∀ (v1 : Int64) (v3 : Int32), I4 n v1 v3 → XA g 4 [(0, va_rf (some a0)), (1, .long v1), (3, .int v3)] [] σ (0, 0) := by
      intro n
      induction n using Nat.strongRecOn with
      | _ n ih4 =>
      intro v1 v3 hI
      have h := hs4 n v1 v3 hI
      clear hI hI4 hs4
      obtain ⟨K4, hK4⟩ : ∃ K : Int64 → Int32 → Prop, K = (fun v1 v3 => ∃ n', n' < n ∧ I4 n' v1 v3) := ⟨_, rfl⟩
      rw [← hK4] at h
      unfold P_X10_inBarrels_L4b at h
      refine y_iload_n hg 2 dX10_inBarrels_4 rfl rfl ?_
      refine y_aload_n hg 0 dX10_inBarrels_5 rfl rfl ?_
      obtain ⟨h1, h⟩ := h
      refine y_getR hg fl_X10_16 rfl rfl h1 dX10_inBarrels_6 ?_
      obtain ⟨c2, h3, h⟩ := h
      obtain ⟨h4, h⟩ := h
      refine yVIP (Qp := _) (rest := [.int v3]) (As := []) hg (k_Jx4a65c_size_8abf5 (gL g.1) (gD g.1) c2 σ _ h) lv_X10_87 h3 h4 rfl rfl dX10_inBarrels_9 (cat8 (Nat.le_of_ble_eq_true rfl)) hrm ⟨Nat.le_of_ble_eq_true rfl, Nat.le_of_ble_eq_true rfl⟩ (fun x5 h => ?_)
      refine y_icmp_ge (tgt := 39) hg dX10_inBarrels_12 (by decide) (fun q6 => ?_) (fun q6 => ?_)
      · replace h := h.1 q6
        refine y_lload_n hg 1 dX10_inBarrels_39 rfl rfl ?_
        exact yEndL hend dX10_inBarrels_40 ⟨h, rfl⟩
      · replace h := h.2 q6
        refine y_lload_n hg 1 dX10_inBarrels_15 rfl rfl ?_
        refine y_aload_n hg 0 dX10_inBarrels_16 rfl rfl ?_
        refine y_getR hg fl_X10_16 rfl rfl h1 dX10_inBarrels_17 ?_
        refine y_iload_n hg 2 dX10_inBarrels_20 rfl rfl ?_
        obtain ⟨c7, h8, h⟩ := h
        obtain ⟨h9, h⟩ := h
        refine yVRP (Qp := _) (rest := [.long v1]) (As := [.int v3]) hg (k_Jx4a65c_get_915e3 (gL g.1) (gD g.1) c7 v3 σ _ h) lv_X10_232 h8 h9 rfl rfl dX10_inBarrels_21 (cat8 (Nat.le_of_ble_eq_true rfl)) hrm ⟨Nat.le_of_ble_eq_true rfl, Nat.le_of_ble_eq_true rfl⟩ (fun r10 h => ?_)
        obtain ⟨c11, h12, h⟩ := h
        obtain ⟨h13, h⟩ := h
        refine y_cast (c := 8) hg (C := RX6) rfl (by decide) cl_X10_107 h12 h13 dX10_inBarrels_24 ?_
        refine y_getI hg fl_X10_228 rfl h12 h13 dX10_inBarrels_27 ?_
        refine y_i2l hg dX10_inBarrels_30 ?_
        refine y_ladd hg dX10_inBarrels_31 ?_
        refine y_nmJ (fun x14 e15 => ?_)
        replace h := h x14 e15
        refine y_lstore_n (lv' := [(1, .long x14), (0, va_rf (some a0)), (3, .int v3)]) hg dX10_inBarrels_32 rfl (by rw [hgN]; decide) rfl ?_
        obtain ⟨x16, e17⟩ : ∃ y : Int32, y = v3 + 1 := ⟨_, rfl⟩
        replace h := h x16 e17
        refine y_iinc (v := x16) (lv' := [(3, .int x16), (1, .long x14), (0, va_rf (some a0))]) hg 2 dX10_inBarrels_33 rfl (by rw [e17]; rfl) (by rw [hgN]; decide) rfl ?_
        refine y_goto (tgt := 4) hg dX10_inBarrels_36 (by decide) ?_
        refine y_sub [2, 1, 0] rfl ?_
        subst hK4
        obtain ⟨n18, h19, h⟩ := h
        exact ih4 n18 h19 _ _ h
    exact key4 n4 v1 v3 hI4
  refine y_lconst (v := 0) hg dX10_inBarrels_0 (by decide) ?_
  refine y_lstore_n (lv' := [(1, .long 0), (0, va_rf (some a0))]) hg dX10_inBarrels_1 rfl (by rw [hgN]; decide) rfl ?_
  refine y_iconst (v := 0) hg dX10_inBarrels_2 (by decide) ?_
  refine y_istore_n (lv' := [(3, .int 0), (1, .long 0), (0, va_rf (some a0))]) hg dX10_inBarrels_3 rfl (by rw [hgN]; decide) rfl ?_
  refine y_sub [2, 1, 0] rfl ?_
  exact J4 _ _ h
def P_X10_sum (a0 : Nat) (v1 : Int32) (σ : Sg) (Q : Int64 → Prop) : Prop :=
  P_X10_within v1 0 6 σ (fun x1 => (x1 = 0 → Q (-1)) ∧ (¬ (x1 = 0) → (v1 = 4 → sK σ a0 % 32 = 12 ∧ P_X10_inBowls a0 σ (fun x13 => Q x13)) ∧ (¬ (v1 = 4) → (v1 = 6 → sK σ a0 % 32 = 12 ∧ P_X10_inBarrels a0 σ (fun x11 => Q x11)) ∧ (¬ (v1 = 6) → sK σ a0 % 32 = 12 ∧ ∃ c6 : Nat, sR σ a0 13 = some c6 ∧ sK σ c6 % 32 = 17 ∧ vp_in v1 (sN σ c6) ∧ Q (sL σ c6 v1.toNatClampNeg)))))
set_option maxHeartbeats 4000000 in
set_option maxRecDepth 100000 in
theorem k_X10_sum (l : Launch) (D : Dg) (a0 : Nat) (v1 : Int32) (σ : Sg) (Q : Int64 → Prop) (h : P_X10_sum a0 v1 σ Q) : CtrY RN l D yX10_sum cX10_sum 2 (some FieldType.long) 4 88 mkL [.ref a0, .int v1] σ (0, 0) (fun r σ2 => Q r ∧ σ2 = σ) := by
  refine y_ctrN (lv := [(0, va_rf (some a0)), (1, .int v1)]) (by decide) (by (exact Nat.le_of_ble_eq_true rfl)) (by (exact rfl)) (fun g hg hgL hgD hrm hgN hgI hend => ?_)
  subst hgD
  clear hgL
  unfold P_X10_sum at h
  refine y_iload_n hg 1 dX10_sum_0 rfl rfl ?_
  refine y_iconst (v := 0) hg dX10_sum_1 (by decide) ?_
  refine y_bipush (v := 6) hg dX10_sum_2 (by decide) ?_
  refine ySIP (Qp := _) (rest := []) (As := [.int v1, .int 0, .int 6]) hg (k_X10_within (gL g.1) (gD g.1) v1 0 6 σ _ h) ls_X10_83 rfl rfl dX10_sum_4 (cat8 (Nat.le_of_ble_eq_true rfl)) hrm ⟨Nat.le_of_ble_eq_true rfl, Nat.le_of_ble_eq_true rfl⟩ (fun x1 h => ?_)
  refine y_if_ne (tgt := 14) hg dX10_sum_7 (by decide) (fun q2 => ?_) (fun q2 => ?_)
  · replace h := h.2 q2
    refine y_iload_n hg 1 dX10_sum_14 rfl rfl ?_
    refine y_iconst (v := 4) hg dX10_sum_15 (by decide) ?_
    refine y_icmp_ne (tgt := 24) hg dX10_sum_16 (by decide) (fun q3 => ?_) (fun q3 => ?_)
    · replace h := h.2 q3
      refine y_iload_n hg 1 dX10_sum_24 rfl rfl ?_
      refine y_bipush (v := 6) hg dX10_sum_25 (by decide) ?_
      refine y_icmp_ne (tgt := 37) hg dX10_sum_27 (by decide) (fun q4 => ?_) (fun q4 => ?_)
      · replace h := h.2 q4
        refine y_aload_n hg 0 dX10_sum_37 rfl rfl ?_
        obtain ⟨h5, h⟩ := h
        refine y_getR hg fl_X10_69 rfl rfl h5 dX10_sum_38 ?_
        refine y_iload_n hg 1 dX10_sum_41 rfl rfl ?_
        obtain ⟨c6, h7, h⟩ := h
        obtain ⟨h8, h⟩ := h
        obtain ⟨h9, h⟩ := h
        refine y_lald hg h7 h8 h9 dX10_sum_42 ?_
        exact yEndL hend dX10_sum_43 ⟨h, rfl⟩
      · replace h := h.1 q4
        refine y_aload_n hg 0 dX10_sum_30 rfl rfl ?_
        obtain ⟨h10, h⟩ := h
        refine yVLP (Qp := _) (rest := []) (As := []) hg (k_X10_inBarrels (gL g.1) (gD g.1) a0 σ _ h) lv_X10_451 rfl h10 rfl rfl dX10_sum_31 (cat8 (Nat.le_of_ble_eq_true rfl)) hrm ⟨Nat.le_of_ble_eq_true rfl, Nat.le_of_ble_eq_true rfl⟩ (fun x11 h => ?_)
        refine y_goto (tgt := 43) hg dX10_sum_34 (by decide) ?_
        exact yEndL hend dX10_sum_43 ⟨h, rfl⟩
    · replace h := h.1 q3
      refine y_aload_n hg 0 dX10_sum_19 rfl rfl ?_
      obtain ⟨h12, h⟩ := h
      refine yVLP (Qp := _) (rest := []) (As := []) hg (k_X10_inBowls (gL g.1) (gD g.1) a0 σ _ h) lv_X10_447 rfl h12 rfl rfl dX10_sum_20 (cat8 (Nat.le_of_ble_eq_true rfl)) hrm ⟨Nat.le_of_ble_eq_true rfl, Nat.le_of_ble_eq_true rfl⟩ (fun x13 h => ?_)
      exact yEndL hend dX10_sum_23 ⟨h, rfl⟩
  · replace h := h.1 q2
    refine y_ldc2 hg cw_X10_362 dX10_sum_10 ?_
    exact yEndL hend dX10_sum_13 ⟨h, rfl⟩
def P_X10_countBeds_B54 (a0 : Nat) (v1 : Int32) (v3 : Int32) (w0 : Int32) (w1 : Int32) (σ : Sg) (Q : Int32 → Prop) (K4 : Int32 → Int32 → Prop) : Prop :=
  ∀ x22 : Int32, x22 = w0 + w1 → ∀ x24 : Int32, x24 = v3 + 1 → K4 x22 x24
def P_X10_countBeds_B53 (a0 : Nat) (v1 : Int32) (v3 : Int32) (w0 : Int32) (σ : Sg) (Q : Int32 → Prop) (K4 : Int32 → Int32 → Prop) : Prop :=
  P_X10_countBeds_B54 a0 v1 v3 w0 0 σ Q K4
def P_X10_countBeds_B49 (a0 : Nat) (v1 : Int32) (v3 : Int32) (w0 : Int32) (σ : Sg) (Q : Int32 → Prop) (K4 : Int32 → Int32 → Prop) : Prop :=
  P_X10_countBeds_B54 a0 v1 v3 w0 1 σ Q K4
def P_X10_countBeds_L4b (a0 : Nat) (v1 : Int32) (v2 : Int32) (v3 : Int32) (σ : Sg) (Q : Int32 → Prop) (K4 : Int32 → Int32 → Prop) : Prop :=
  sK σ a0 % 32 = 12 ∧ ∃ c2 : Nat, sR σ a0 0 = some c2 ∧ sK σ c2 % 32 = 1 ∧ P_Jx4a65c_size_8abf5 c2 σ (fun x5 => (x5 ≤ v3 → Q v2) ∧ (¬ (x5 ≤ v3) → ∃ c7 : Nat, sR σ a0 0 = some c7 ∧ sK σ c7 % 32 = 1 ∧ P_Jx4a65c_get_915e3 c7 v3 σ (fun r10 => ∃ c11 : Nat, r10 = some c11 ∧ sK σ c11 % 32 = 4 ∧ ∀ r14 : Option Nat, r14 = sR σ c11 5 → (r14 = none → P_X10_countBeds_B53 a0 v1 v3 v2 σ Q K4) ∧ (∀ c16 : Nat, r14 = some c16 → (v1 = 0 → P_X10_countBeds_B49 a0 v1 v3 v2 σ Q K4) ∧ (¬ (v1 = 0) → sK σ c16 % 32 = 2 ∧ ((sI σ c16 7) = 0 → P_X10_countBeds_B49 a0 v1 v3 v2 σ Q K4) ∧ (¬ ((sI σ c16 7) = 0) → P_X10_countBeds_B53 a0 v1 v3 v2 σ Q K4))))))
def P_X10_countBeds_L4 (a0 : Nat) (v1 : Int32) (v2 : Int32) (v3 : Int32) (σ : Sg) (Q : Int32 → Prop) : Prop :=
  ∃ I : Nat → Int32 → Int32 → Prop, (∃ n, I n v2 v3) ∧ ∀ (n : Nat) (v2 : Int32) (v3 : Int32), I n v2 v3 → P_X10_countBeds_L4b a0 v1 v2 v3 σ Q (fun v2 v3 => ∃ n', n' < n ∧ I n' v2 v3)
def P_X10_countBeds (a0 : Nat) (v1 : Int32) (σ : Sg) (Q : Int32 → Prop) : Prop :=
  P_X10_countBeds_L4 a0 v1 0 0 σ Q
set_option maxHeartbeats 4000000 in
set_option maxRecDepth 100000 in
theorem k_X10_countBeds (l : Launch) (D : Dg) (a0 : Nat) (v1 : Int32) (σ : Sg) (Q : Int32 → Prop) (h : P_X10_countBeds a0 v1 σ Q) : CtrY RN l D yX10_countBeds cX10_countBeds 5 (some FieldType.int) 3 64 mkI [.ref a0, .int v1] σ (0, 0) (fun r σ2 => Q r ∧ σ2 = σ) := by
  refine y_ctrN (lv := [(0, va_rf (some a0)), (1, .int v1)]) (by decide) (by (exact Nat.le_of_ble_eq_true rfl)) (by (exact rfl)) (fun g hg hgL hgD hrm hgN hgI hend => ?_)
  subst hgD
  clear hgL
  unfold P_X10_countBeds at h
  have J4 : ∀ (v1 : Int32) (v2 : Int32) (v3 : Int32), P_X10_countBeds_L4 a0 v1 v2 v3 σ Q → XA g 4 [(0, va_rf (some a0)), (1, .int v1), (2, .int v2), (3, .int v3)] [] σ (0, 0) := by
    intro v1 v2 v3 h
    unfold P_X10_countBeds_L4 at h
    obtain ⟨I4, ⟨n4, hI4⟩, hs4⟩ := h
    have key4 : ∀ (n : Nat), ∀ (v2 : Int32) (v3 : Int32), I4 n v2 v3 → XA g 4 [(0, va_rf (some a0)), (1, .int v1), (2, .int v2), (3, .int v3)] [] σ (0, 0) := by
      intro n
      induction n using Nat.strongRecOn with
      | _ n ih4 =>
      intro v2 v3 hI
      have h := hs4 n v2 v3 hI
      clear hI hI4 hs4
      obtain ⟨K4, hK4⟩ : ∃ K : Int32 → Int32 → Prop, K = (fun v2 v3 => ∃ n', n' < n ∧ I4 n' v2 v3) := ⟨_, rfl⟩
      rw [← hK4] at h
      unfold P_X10_countBeds_L4b at h
      have J54 : ∀ (v3 : Int32) (w0 : Int32) (w1 : Int32), P_X10_countBeds_B54 a0 v1 v3 w0 w1 σ Q K4 → XA g 54 [(0, va_rf (some a0)), (1, .int v1), (3, .int v3)] [.int w1, .int w0] σ (0, 0) := by
        intro v3 w0 w1 h
        unfold P_X10_countBeds_B54 at h
        refine y_iadd hg dX10_countBeds_54 ?_
        refine y_nmI (fun x22 e23 => ?_)
        replace h := h x22 e23
        refine y_istore_n (lv' := [(2, .int x22), (0, va_rf (some a0)), (1, .int v1), (3, .int v3)]) hg dX10_countBeds_55 rfl (by rw [hgN]; decide) rfl ?_
        obtain ⟨x24, e25⟩ : ∃ y : Int32, y = v3 + 1 := ⟨_, rfl⟩
        replace h := h x24 e25
        refine y_iinc (v := x24) (lv' := [(3, .int x24), (2, .int x22), (0, va_rf (some a0)), (1, .int v1)]) hg 3 dX10_countBeds_56 rfl (by rw [e25]; rfl) (by rw [hgN]; decide) rfl ?_
        refine y_goto (tgt := 4) hg dX10_countBeds_59 (by decide) ?_
        refine y_sub [2, 3, 1, 0] rfl ?_
        subst hK4
        obtain ⟨n26, h27, h⟩ := h
        exact ih4 n26 h27 _ _ h
      have J53 : ∀ (v3 : Int32) (w0 : Int32), P_X10_countBeds_B53 a0 v1 v3 w0 σ Q K4 → XA g 53 [(0, va_rf (some a0)), (1, .int v1), (3, .int v3)] [.int w0] σ (0, 0) := by
        intro v3 w0 h
        unfold P_X10_countBeds_B53 at h
        refine y_iconst (v := 0) hg dX10_countBeds_53 (by decide) ?_
        refine y_sub [0, 1, 2] rfl ?_
        exact J54 _ _ _ h
      have J49 : ∀ (v3 : Int32) (w0 : Int32), P_X10_countBeds_B49 a0 v1 v3 w0 σ Q K4 → XA g 49 [(0, va_rf (some a0)), (1, .int v1), (3, .int v3)] [.int w0] σ (0, 0) := by
        intro v3 w0 h
        unfold P_X10_countBeds_B49 at h
        refine y_iconst (v := 1) hg dX10_countBeds_49 (by decide) ?_
        refine y_goto (tgt := 54) hg dX10_countBeds_50 (by decide) ?_
        refine y_sub [0, 1, 2] rfl ?_
        exact J54 _ _ _ h
      refine y_iload_n hg 3 dX10_countBeds_4 rfl rfl ?_
      refine y_aload_n hg 0 dX10_countBeds_5 rfl rfl ?_
      obtain ⟨h1, h⟩ := h
      refine y_getR hg fl_X10_10 rfl rfl h1 dX10_countBeds_6 ?_
      obtain ⟨c2, h3, h⟩ := h
      obtain ⟨h4, h⟩ := h
      refine yVIP (Qp := _) (rest := [.int v3]) (As := []) hg (k_Jx4a65c_size_8abf5 (gL g.1) (gD g.1) c2 σ _ h) lv_X10_87 h3 h4 rfl rfl dX10_countBeds_9 (cat8 (Nat.le_of_ble_eq_true rfl)) hrm ⟨Nat.le_of_ble_eq_true rfl, Nat.le_of_ble_eq_true rfl⟩ (fun x5 h => ?_)
      refine y_icmp_ge (tgt := 62) hg dX10_countBeds_12 (by decide) (fun q6 => ?_) (fun q6 => ?_)
      · replace h := h.1 q6
        refine y_iload_n hg 2 dX10_countBeds_62 rfl rfl ?_
        exact yEndI hend rfl dX10_countBeds_63 ⟨h, rfl⟩
      · replace h := h.2 q6
        refine y_aload_n hg 0 dX10_countBeds_15 rfl rfl ?_
        refine y_getR hg fl_X10_10 rfl rfl h1 dX10_countBeds_16 ?_
        refine y_iload_n hg 3 dX10_countBeds_19 rfl rfl ?_
        obtain ⟨c7, h8, h⟩ := h
        obtain ⟨h9, h⟩ := h
        refine yVRP (Qp := _) (rest := []) (As := [.int v3]) hg (k_Jx4a65c_get_915e3 (gL g.1) (gD g.1) c7 v3 σ _ h) lv_X10_232 h8 h9 rfl rfl dX10_countBeds_20 (cat8 (Nat.le_of_ble_eq_true rfl)) hrm ⟨Nat.le_of_ble_eq_true rfl, Nat.le_of_ble_eq_true rfl⟩ (fun r10 h => ?_)
        obtain ⟨c11, h12, h⟩ := h
        obtain ⟨h13, h⟩ := h
        refine y_cast (c := 4) hg (C := RX2) rfl (by decide) cl_X10_91 h12 h13 dX10_countBeds_23 ?_
        refine y_getR hg fl_X10_110 rfl h12 h13 dX10_countBeds_26 ?_
        refine y_nmR (fun r14 e15 => ?_)
        replace h := h r14 e15
        refine y_astore (lv' := [(4, va_rf r14), (0, va_rf (some a0)), (1, .int v1), (2, .int v2), (3, .int v3)]) hg dX10_countBeds_29 (by rw [hgN]; decide) rfl ?_
        refine y_iload_n hg 3 dX10_countBeds_31 rfl rfl ?_
        refine y_aload hg 0 dX10_countBeds_32 rfl ?_
        refine y_ifnull (tgt := 53) hg dX10_countBeds_34 (by decide) (fun h17 => ?_) (fun c16 h18 => ?_)
        · replace h := h.1 h17
          refine y_sub [1, 2, 4] rfl ?_
          exact J53 _ _ h
        · replace h := h.2 c16 h18
          refine y_iload_n hg 2 dX10_countBeds_37 rfl rfl ?_
          refine y_if_eq (tgt := 49) hg dX10_countBeds_38 (by decide) (fun q19 => ?_) (fun q19 => ?_)
          · replace h := h.1 q19
            refine y_sub [1, 2, 4] rfl ?_
            exact J49 _ _ h
          · replace h := h.2 q19
            refine y_aload hg 0 dX10_countBeds_41 rfl ?_
            obtain ⟨h20, h⟩ := h
            refine y_getI hg fl_X10_153 rfl h18 h20 dX10_countBeds_43 ?_
            refine y_if_ne (tgt := 53) hg dX10_countBeds_46 (by decide) (fun q21 => ?_) (fun q21 => ?_)
            · replace h := h.2 q21
              refine y_sub [1, 2, 4] rfl ?_
              exact J53 _ _ h
            · replace h := h.1 q21
              refine y_sub [1, 2, 4] rfl ?_
              exact J49 _ _ h
    exact key4 n4 v2 v3 hI4
  refine y_iconst (v := 0) hg dX10_countBeds_0 (by decide) ?_
  refine y_istore_n (lv' := [(2, .int 0), (0, va_rf (some a0)), (1, .int v1)]) hg dX10_countBeds_1 rfl (by rw [hgN]; decide) rfl ?_
  refine y_iconst (v := 0) hg dX10_countBeds_2 (by decide) ?_
  refine y_istore_n (lv' := [(3, .int 0), (2, .int 0), (0, va_rf (some a0)), (1, .int v1)]) hg dX10_countBeds_3 rfl (by rw [hgN]; decide) rfl ?_
  refine y_sub [2, 3, 1, 0] rfl ?_
  exact J4 _ _ _ h
def P_X10_countOpen_B38 (a0 : Nat) (v2 : Int32) (w0 : Int32) (w1 : Int32) (σ : Sg) (Q : Int32 → Prop) (K4 : Int32 → Int32 → Prop) : Prop :=
  ∀ x15 : Int32, x15 = w0 + w1 → ∀ x17 : Int32, x17 = v2 + 1 → K4 x15 x17
def P_X10_countOpen_L4b (a0 : Nat) (v1 : Int32) (v2 : Int32) (σ : Sg) (Q : Int32 → Prop) (K4 : Int32 → Int32 → Prop) : Prop :=
  sK σ a0 % 32 = 12 ∧ ∃ c2 : Nat, sR σ a0 3 = some c2 ∧ sK σ c2 % 32 = 1 ∧ P_Jx4a65c_size_8abf5 c2 σ (fun x5 => (x5 ≤ v2 → Q v1) ∧ (¬ (x5 ≤ v2) → ∃ c7 : Nat, sR σ a0 3 = some c7 ∧ sK σ c7 % 32 = 1 ∧ P_Jx4a65c_get_915e3 c7 v2 σ (fun r10 => ∃ c11 : Nat, r10 = some c11 ∧ sK σ c11 % 32 = 3 ∧ ((sI σ c11 5) = 0 → P_X10_countOpen_B38 a0 v2 v1 0 σ Q K4) ∧ (¬ ((sI σ c11 5) = 0) → P_X10_countOpen_B38 a0 v2 v1 1 σ Q K4))))
def P_X10_countOpen_L4 (a0 : Nat) (v1 : Int32) (v2 : Int32) (σ : Sg) (Q : Int32 → Prop) : Prop :=
  ∃ I : Nat → Int32 → Int32 → Prop, (∃ n, I n v1 v2) ∧ ∀ (n : Nat) (v1 : Int32) (v2 : Int32), I n v1 v2 → P_X10_countOpen_L4b a0 v1 v2 σ Q (fun v1 v2 => ∃ n', n' < n ∧ I n' v1 v2)
def P_X10_countOpen (a0 : Nat) (σ : Sg) (Q : Int32 → Prop) : Prop :=
  P_X10_countOpen_L4 a0 0 0 σ Q
set_option maxHeartbeats 4000000 in
set_option maxRecDepth 100000 in
theorem k_X10_countOpen (l : Launch) (D : Dg) (a0 : Nat) (σ : Sg) (Q : Int32 → Prop) (h : P_X10_countOpen a0 σ Q) : CtrY RN l D yX10_countOpen cX10_countOpen 3 (some FieldType.int) 3 64 mkI [.ref a0] σ (0, 0) (fun r σ2 => Q r ∧ σ2 = σ) := by
  refine y_ctrN (lv := [(0, va_rf (some a0))]) (by decide) (by (exact Nat.le_of_ble_eq_true rfl)) (by (exact rfl)) (fun g hg hgL hgD hrm hgN hgI hend => ?_)
  subst hgD
  clear hgL
  unfold P_X10_countOpen at h
  have J4 : ∀ (v1 : Int32) (v2 : Int32), P_X10_countOpen_L4 a0 v1 v2 σ Q → XA g 4 [(0, va_rf (some a0)), (1, .int v1), (2, .int v2)] [] σ (0, 0) := by
    intro v1 v2 h
    unfold P_X10_countOpen_L4 at h
    obtain ⟨I4, ⟨n4, hI4⟩, hs4⟩ := h
    have key4 : ∀ (n : Nat), ∀ (v1 : Int32) (v2 : Int32), I4 n v1 v2 → XA g 4 [(0, va_rf (some a0)), (1, .int v1), (2, .int v2)] [] σ (0, 0) := by
      intro n
      induction n using Nat.strongRecOn with
      | _ n ih4 =>
      intro v1 v2 hI
      have h := hs4 n v1 v2 hI
      clear hI hI4 hs4
      obtain ⟨K4, hK4⟩ : ∃ K : Int32 → Int32 → Prop, K = (fun v1 v2 => ∃ n', n' < n ∧ I4 n' v1 v2) := ⟨_, rfl⟩
      rw [← hK4] at h
      unfold P_X10_countOpen_L4b at h
      have J38 : ∀ (v2 : Int32) (w0 : Int32) (w1 : Int32), P_X10_countOpen_B38 a0 v2 w0 w1 σ Q K4 → XA g 38 [(0, va_rf (some a0)), (2, .int v2)] [.int w1, .int w0] σ (0, 0) := by
        intro v2 w0 w1 h
        unfold P_X10_countOpen_B38 at h
        refine y_iadd hg dX10_countOpen_38 ?_
        refine y_nmI (fun x15 e16 => ?_)
        replace h := h x15 e16
        refine y_istore_n (lv' := [(1, .int x15), (0, va_rf (some a0)), (2, .int v2)]) hg dX10_countOpen_39 rfl (by rw [hgN]; decide) rfl ?_
        obtain ⟨x17, e18⟩ : ∃ y : Int32, y = v2 + 1 := ⟨_, rfl⟩
        replace h := h x17 e18
        refine y_iinc (v := x17) (lv' := [(2, .int x17), (1, .int x15), (0, va_rf (some a0))]) hg 2 dX10_countOpen_40 rfl (by rw [e18]; rfl) (by rw [hgN]; decide) rfl ?_
        refine y_goto (tgt := 4) hg dX10_countOpen_43 (by decide) ?_
        refine y_sub [2, 1, 0] rfl ?_
        subst hK4
        obtain ⟨n19, h20, h⟩ := h
        exact ih4 n19 h20 _ _ h
      refine y_iload_n hg 2 dX10_countOpen_4 rfl rfl ?_
      refine y_aload_n hg 0 dX10_countOpen_5 rfl rfl ?_
      obtain ⟨h1, h⟩ := h
      refine y_getR hg fl_X10_22 rfl rfl h1 dX10_countOpen_6 ?_
      obtain ⟨c2, h3, h⟩ := h
      obtain ⟨h4, h⟩ := h
      refine yVIP (Qp := _) (rest := [.int v2]) (As := []) hg (k_Jx4a65c_size_8abf5 (gL g.1) (gD g.1) c2 σ _ h) lv_X10_87 h3 h4 rfl rfl dX10_countOpen_9 (cat8 (Nat.le_of_ble_eq_true rfl)) hrm ⟨Nat.le_of_ble_eq_true rfl, Nat.le_of_ble_eq_true rfl⟩ (fun x5 h => ?_)
      refine y_icmp_ge (tgt := 46) hg dX10_countOpen_12 (by decide) (fun q6 => ?_) (fun q6 => ?_)
      · replace h := h.1 q6
        refine y_iload_n hg 1 dX10_countOpen_46 rfl rfl ?_
        exact yEndI hend rfl dX10_countOpen_47 ⟨h, rfl⟩
      · replace h := h.2 q6
        refine y_iload_n hg 1 dX10_countOpen_15 rfl rfl ?_
        refine y_aload_n hg 0 dX10_countOpen_16 rfl rfl ?_
        refine y_getR hg fl_X10_22 rfl rfl h1 dX10_countOpen_17 ?_
        refine y_iload_n hg 2 dX10_countOpen_20 rfl rfl ?_
        obtain ⟨c7, h8, h⟩ := h
        obtain ⟨h9, h⟩ := h
        refine yVRP (Qp := _) (rest := [.int v1]) (As := [.int v2]) hg (k_Jx4a65c_get_915e3 (gL g.1) (gD g.1) c7 v2 σ _ h) lv_X10_232 h8 h9 rfl rfl dX10_countOpen_21 (cat8 (Nat.le_of_ble_eq_true rfl)) hrm ⟨Nat.le_of_ble_eq_true rfl, Nat.le_of_ble_eq_true rfl⟩ (fun r10 h => ?_)
        obtain ⟨c11, h12, h⟩ := h
        obtain ⟨h13, h⟩ := h
        refine y_cast (c := 3) hg (C := RX1) rfl (by decide) cl_X10_410 h12 h13 dX10_countOpen_24 ?_
        refine y_getI hg fl_X10_418 rfl h12 h13 dX10_countOpen_27 ?_
        refine y_if_eq (tgt := 37) hg dX10_countOpen_30 (by decide) (fun q14 => ?_) (fun q14 => ?_)
        · replace h := h.1 q14
          refine y_iconst (v := 0) hg dX10_countOpen_37 (by decide) ?_
          refine y_sub [0, 2] rfl ?_
          exact J38 _ _ _ h
        · replace h := h.2 q14
          refine y_iconst (v := 1) hg dX10_countOpen_33 (by decide) ?_
          refine y_goto (tgt := 38) hg dX10_countOpen_34 (by decide) ?_
          refine y_sub [0, 2] rfl ?_
          exact J38 _ _ _ h
    exact key4 n4 v1 v2 hI4
  refine y_iconst (v := 0) hg dX10_countOpen_0 (by decide) ?_
  refine y_istore_n (lv' := [(1, .int 0), (0, va_rf (some a0))]) hg dX10_countOpen_1 rfl (by rw [hgN]; decide) rfl ?_
  refine y_iconst (v := 0) hg dX10_countOpen_2 (by decide) ?_
  refine y_istore_n (lv' := [(2, .int 0), (1, .int 0), (0, va_rf (some a0))]) hg dX10_countOpen_3 rfl (by rw [hgN]; decide) rfl ?_
  refine y_sub [2, 1, 0] rfl ?_
  exact J4 _ _ h
def P_X10_count (a0 : Nat) (v1 : Int32) (σ : Sg) (Q : Int32 → Prop) : Prop :=
  ∀ y1 : Int32, y1 = v1 → (y1 = 0 → sK σ a0 % 32 = 12 ∧ Q (sI σ a0 15)) ∧ (¬ (y1 = 0) → (y1 = 1 → sK σ a0 % 32 = 12 ∧ ∃ c5 : Nat, sR σ a0 0 = some c5 ∧ sK σ c5 % 32 = 1 ∧ P_Jx4a65c_size_8abf5 c5 σ (fun x8 => Q x8)) ∧ (¬ (y1 = 1) → (y1 = 2 → sK σ a0 % 32 = 12 ∧ ∃ c10 : Nat, sR σ a0 1 = some c10 ∧ sK σ c10 % 32 = 1 ∧ P_Jx4a65c_size_8abf5 c10 σ (fun x13 => Q x13)) ∧ (¬ (y1 = 2) → (y1 = 3 → sK σ a0 % 32 = 12 ∧ P_X10_countBeds a0 0 σ (fun x15 => Q x15)) ∧ (¬ (y1 = 3) → (y1 = 4 → sK σ a0 % 32 = 12 ∧ P_X10_parkingOfBeds a0 σ (fun x17 => Q x17)) ∧ (¬ (y1 = 4) → (y1 = 5 → sK σ a0 % 32 = 12 ∧ Q (sI σ a0 14)) ∧ (¬ (y1 = 5) → (y1 = 6 → sK σ a0 % 32 = 12 ∧ ∃ c20 : Nat, sR σ a0 2 = some c20 ∧ sK σ c20 % 32 = 1 ∧ P_Jx4a65c_size_8abf5 c20 σ (fun x23 => Q x23)) ∧ (¬ (y1 = 6) → (y1 = 7 → sK σ a0 % 32 = 12 ∧ ∃ c25 : Nat, sR σ a0 4 = some c25 ∧ sK σ c25 % 32 = 1 ∧ P_Jx4a65c_size_8abf5 c25 σ (fun x28 => Q x28)) ∧ (¬ (y1 = 7) → (y1 = 8 → sK σ a0 % 32 = 12 ∧ Q (sI σ a0 16)) ∧ (¬ (y1 = 8) → (y1 = 9 → sK σ a0 % 32 = 12 ∧ ∃ c31 : Nat, sR σ a0 3 = some c31 ∧ sK σ c31 % 32 = 1 ∧ P_Jx4a65c_size_8abf5 c31 σ (fun x34 => Q x34)) ∧ (¬ (y1 = 9) → (y1 = 10 → sK σ a0 % 32 = 12 ∧ P_X10_countOpen a0 σ (fun x36 => Q x36)) ∧ (¬ (y1 = 10) → (y1 = 11 → sK σ a0 % 32 = 12 ∧ P_X10_countBeds a0 1 σ (fun x38 => Q x38)) ∧ (¬ (y1 = 11) → (y1 = 12 → sK σ a0 % 32 = 12 ∧ ∃ c40 : Nat, sR σ a0 6 = some c40 ∧ sK σ c40 % 32 = 9 ∧ Q (sI σ c40 0)) ∧ (¬ (y1 = 12) → Q (-1))))))))))))))
set_option maxHeartbeats 4000000 in
set_option maxRecDepth 100000 in
theorem k_X10_count (l : Launch) (D : Dg) (a0 : Nat) (v1 : Int32) (σ : Sg) (Q : Int32 → Prop) (h : P_X10_count a0 v1 σ Q) : CtrY RN l D yX10_count cX10_count 2 (some FieldType.int) 5 108 mkI [.ref a0, .int v1] σ (0, 0) (fun r σ2 => Q r ∧ σ2 = σ) := by
  refine y_ctrN (lv := [(0, va_rf (some a0)), (1, .int v1)]) (by decide) (by (exact Nat.le_of_ble_eq_true rfl)) (by (exact rfl)) (fun g hg hgL hgD hrm hgN hgI hend => ?_)
  subst hgD
  clear hgL
  unfold P_X10_count at h
  refine y_iload_n hg 1 dX10_count_0 rfl rfl ?_
  refine y_nmI (fun y1 e2 => ?_)
  replace h := h y1 e2
  by_cases q1_0 : y1 = 0
  · replace h := h.1 q1_0
    refine y_tableIn (tgt := 68) hg dX10_count_1 (by rw [q1_0]; decide) (by rw [q1_0]; decide) (by rw [q1_0]; rfl) (by decide) ?_
    refine y_aload_n hg 0 dX10_count_68 rfl rfl ?_
    obtain ⟨h3, h⟩ := h
    refine y_getI hg fl_X10_120 rfl rfl h3 dX10_count_69 ?_
    exact yEndI hend rfl dX10_count_72 ⟨h, rfl⟩
  · replace h := h.2 q1_0
    by_cases q1_1 : y1 = 1
    · replace h := h.1 q1_1
      refine y_tableIn (tgt := 73) hg dX10_count_1 (by rw [q1_1]; decide) (by rw [q1_1]; decide) (by rw [q1_1]; rfl) (by decide) ?_
      refine y_aload_n hg 0 dX10_count_73 rfl rfl ?_
      obtain ⟨h4, h⟩ := h
      refine y_getR hg fl_X10_10 rfl rfl h4 dX10_count_74 ?_
      obtain ⟨c5, h6, h⟩ := h
      obtain ⟨h7, h⟩ := h
      refine yVIP (Qp := _) (rest := []) (As := []) hg (k_Jx4a65c_size_8abf5 (gL g.1) (gD g.1) c5 σ _ h) lv_X10_87 h6 h7 rfl rfl dX10_count_77 (cat8 (Nat.le_of_ble_eq_true rfl)) hrm ⟨Nat.le_of_ble_eq_true rfl, Nat.le_of_ble_eq_true rfl⟩ (fun x8 h => ?_)
      exact yEndI hend rfl dX10_count_80 ⟨h, rfl⟩
    · replace h := h.2 q1_1
      by_cases q1_2 : y1 = 2
      · replace h := h.1 q1_2
        refine y_tableIn (tgt := 81) hg dX10_count_1 (by rw [q1_2]; decide) (by rw [q1_2]; decide) (by rw [q1_2]; rfl) (by decide) ?_
        refine y_aload_n hg 0 dX10_count_81 rfl rfl ?_
        obtain ⟨h9, h⟩ := h
        refine y_getR hg fl_X10_16 rfl rfl h9 dX10_count_82 ?_
        obtain ⟨c10, h11, h⟩ := h
        obtain ⟨h12, h⟩ := h
        refine yVIP (Qp := _) (rest := []) (As := []) hg (k_Jx4a65c_size_8abf5 (gL g.1) (gD g.1) c10 σ _ h) lv_X10_87 h11 h12 rfl rfl dX10_count_85 (cat8 (Nat.le_of_ble_eq_true rfl)) hrm ⟨Nat.le_of_ble_eq_true rfl, Nat.le_of_ble_eq_true rfl⟩ (fun x13 h => ?_)
        exact yEndI hend rfl dX10_count_88 ⟨h, rfl⟩
      · replace h := h.2 q1_2
        by_cases q1_3 : y1 = 3
        · replace h := h.1 q1_3
          refine y_tableIn (tgt := 89) hg dX10_count_1 (by rw [q1_3]; decide) (by rw [q1_3]; decide) (by rw [q1_3]; rfl) (by decide) ?_
          refine y_aload_n hg 0 dX10_count_89 rfl rfl ?_
          refine y_iconst (v := 0) hg dX10_count_90 (by decide) ?_
          obtain ⟨h14, h⟩ := h
          refine yVIP (Qp := _) (rest := []) (As := [.int 0]) hg (k_X10_countBeds (gL g.1) (gD g.1) a0 0 σ _ h) lv_X10_454 rfl h14 rfl rfl dX10_count_91 (cat8 (Nat.le_of_ble_eq_true rfl)) hrm ⟨Nat.le_of_ble_eq_true rfl, Nat.le_of_ble_eq_true rfl⟩ (fun x15 h => ?_)
          exact yEndI hend rfl dX10_count_94 ⟨h, rfl⟩
        · replace h := h.2 q1_3
          by_cases q1_4 : y1 = 4
          · replace h := h.1 q1_4
            refine y_tableIn (tgt := 95) hg dX10_count_1 (by rw [q1_4]; decide) (by rw [q1_4]; decide) (by rw [q1_4]; rfl) (by decide) ?_
            refine y_aload_n hg 0 dX10_count_95 rfl rfl ?_
            obtain ⟨h16, h⟩ := h
            refine yVIP (Qp := _) (rest := []) (As := []) hg (k_X10_parkingOfBeds (gL g.1) (gD g.1) a0 σ _ h) lv_X10_114 rfl h16 rfl rfl dX10_count_96 (cat8 (Nat.le_of_ble_eq_true rfl)) hrm ⟨Nat.le_of_ble_eq_true rfl, Nat.le_of_ble_eq_true rfl⟩ (fun x17 h => ?_)
            exact yEndI hend rfl dX10_count_99 ⟨h, rfl⟩
          · replace h := h.2 q1_4
            by_cases q1_5 : y1 = 5
            · replace h := h.1 q1_5
              refine y_tableIn (tgt := 100) hg dX10_count_1 (by rw [q1_5]; decide) (by rw [q1_5]; decide) (by rw [q1_5]; rfl) (by decide) ?_
              refine y_aload_n hg 0 dX10_count_100 rfl rfl ?_
              obtain ⟨h18, h⟩ := h
              refine y_getI hg fl_X10_315 rfl rfl h18 dX10_count_101 ?_
              exact yEndI hend rfl dX10_count_104 ⟨h, rfl⟩
            · replace h := h.2 q1_5
              by_cases q1_6 : y1 = 6
              · replace h := h.1 q1_6
                refine y_tableIn (tgt := 105) hg dX10_count_1 (by rw [q1_6]; decide) (by rw [q1_6]; decide) (by rw [q1_6]; rfl) (by decide) ?_
                refine y_aload_n hg 0 dX10_count_105 rfl rfl ?_
                obtain ⟨h19, h⟩ := h
                refine y_getR hg fl_X10_19 rfl rfl h19 dX10_count_106 ?_
                obtain ⟨c20, h21, h⟩ := h
                obtain ⟨h22, h⟩ := h
                refine yVIP (Qp := _) (rest := []) (As := []) hg (k_Jx4a65c_size_8abf5 (gL g.1) (gD g.1) c20 σ _ h) lv_X10_87 h21 h22 rfl rfl dX10_count_109 (cat8 (Nat.le_of_ble_eq_true rfl)) hrm ⟨Nat.le_of_ble_eq_true rfl, Nat.le_of_ble_eq_true rfl⟩ (fun x23 h => ?_)
                exact yEndI hend rfl dX10_count_112 ⟨h, rfl⟩
              · replace h := h.2 q1_6
                by_cases q1_7 : y1 = 7
                · replace h := h.1 q1_7
                  refine y_tableIn (tgt := 113) hg dX10_count_1 (by rw [q1_7]; decide) (by rw [q1_7]; decide) (by rw [q1_7]; rfl) (by decide) ?_
                  refine y_aload_n hg 0 dX10_count_113 rfl rfl ?_
                  obtain ⟨h24, h⟩ := h
                  refine y_getR hg fl_X10_25 rfl rfl h24 dX10_count_114 ?_
                  obtain ⟨c25, h26, h⟩ := h
                  obtain ⟨h27, h⟩ := h
                  refine yVIP (Qp := _) (rest := []) (As := []) hg (k_Jx4a65c_size_8abf5 (gL g.1) (gD g.1) c25 σ _ h) lv_X10_87 h26 h27 rfl rfl dX10_count_117 (cat8 (Nat.le_of_ble_eq_true rfl)) hrm ⟨Nat.le_of_ble_eq_true rfl, Nat.le_of_ble_eq_true rfl⟩ (fun x28 h => ?_)
                  exact yEndI hend rfl dX10_count_120 ⟨h, rfl⟩
                · replace h := h.2 q1_7
                  by_cases q1_8 : y1 = 8
                  · replace h := h.1 q1_8
                    refine y_tableIn (tgt := 121) hg dX10_count_1 (by rw [q1_8]; decide) (by rw [q1_8]; decide) (by rw [q1_8]; rfl) (by decide) ?_
                    refine y_aload_n hg 0 dX10_count_121 rfl rfl ?_
                    obtain ⟨h29, h⟩ := h
                    refine y_getI hg fl_X10_398 rfl rfl h29 dX10_count_122 ?_
                    exact yEndI hend rfl dX10_count_125 ⟨h, rfl⟩
                  · replace h := h.2 q1_8
                    by_cases q1_9 : y1 = 9
                    · replace h := h.1 q1_9
                      refine y_tableIn (tgt := 126) hg dX10_count_1 (by rw [q1_9]; decide) (by rw [q1_9]; decide) (by rw [q1_9]; rfl) (by decide) ?_
                      refine y_aload_n hg 0 dX10_count_126 rfl rfl ?_
                      obtain ⟨h30, h⟩ := h
                      refine y_getR hg fl_X10_22 rfl rfl h30 dX10_count_127 ?_
                      obtain ⟨c31, h32, h⟩ := h
                      obtain ⟨h33, h⟩ := h
                      refine yVIP (Qp := _) (rest := []) (As := []) hg (k_Jx4a65c_size_8abf5 (gL g.1) (gD g.1) c31 σ _ h) lv_X10_87 h32 h33 rfl rfl dX10_count_130 (cat8 (Nat.le_of_ble_eq_true rfl)) hrm ⟨Nat.le_of_ble_eq_true rfl, Nat.le_of_ble_eq_true rfl⟩ (fun x34 h => ?_)
                      exact yEndI hend rfl dX10_count_133 ⟨h, rfl⟩
                    · replace h := h.2 q1_9
                      by_cases q1_10 : y1 = 10
                      · replace h := h.1 q1_10
                        refine y_tableIn (tgt := 134) hg dX10_count_1 (by rw [q1_10]; decide) (by rw [q1_10]; decide) (by rw [q1_10]; rfl) (by decide) ?_
                        refine y_aload_n hg 0 dX10_count_134 rfl rfl ?_
                        obtain ⟨h35, h⟩ := h
                        refine yVIP (Qp := _) (rest := []) (As := []) hg (k_X10_countOpen (gL g.1) (gD g.1) a0 σ _ h) lv_X10_458 rfl h35 rfl rfl dX10_count_135 (cat8 (Nat.le_of_ble_eq_true rfl)) hrm ⟨Nat.le_of_ble_eq_true rfl, Nat.le_of_ble_eq_true rfl⟩ (fun x36 h => ?_)
                        exact yEndI hend rfl dX10_count_138 ⟨h, rfl⟩
                      · replace h := h.2 q1_10
                        by_cases q1_11 : y1 = 11
                        · replace h := h.1 q1_11
                          refine y_tableIn (tgt := 139) hg dX10_count_1 (by rw [q1_11]; decide) (by rw [q1_11]; decide) (by rw [q1_11]; rfl) (by decide) ?_
                          refine y_aload_n hg 0 dX10_count_139 rfl rfl ?_
                          refine y_iconst (v := 1) hg dX10_count_140 (by decide) ?_
                          obtain ⟨h37, h⟩ := h
                          refine yVIP (Qp := _) (rest := []) (As := [.int 1]) hg (k_X10_countBeds (gL g.1) (gD g.1) a0 1 σ _ h) lv_X10_454 rfl h37 rfl rfl dX10_count_141 (cat8 (Nat.le_of_ble_eq_true rfl)) hrm ⟨Nat.le_of_ble_eq_true rfl, Nat.le_of_ble_eq_true rfl⟩ (fun x38 h => ?_)
                          exact yEndI hend rfl dX10_count_144 ⟨h, rfl⟩
                        · replace h := h.2 q1_11
                          by_cases q1_12 : y1 = 12
                          · replace h := h.1 q1_12
                            refine y_tableIn (tgt := 145) hg dX10_count_1 (by rw [q1_12]; decide) (by rw [q1_12]; decide) (by rw [q1_12]; rfl) (by decide) ?_
                            refine y_aload_n hg 0 dX10_count_145 rfl rfl ?_
                            obtain ⟨h39, h⟩ := h
                            refine y_getR hg fl_X10_40 rfl rfl h39 dX10_count_146 ?_
                            obtain ⟨c40, h41, h⟩ := h
                            obtain ⟨h42, h⟩ := h
                            refine y_getI hg fl_X10_432 rfl h41 h42 dX10_count_149 ?_
                            exact yEndI hend rfl dX10_count_152 ⟨h, rfl⟩
                          · replace h := h.2 q1_12
                            refine y_tableOut (tgt := 153) hg dX10_count_1 (sw12_out q1_0 q1_1 q1_2 q1_3 q1_4 q1_5 q1_6 q1_7 q1_8 q1_9 q1_10 q1_11 q1_12) (by decide) ?_
                            refine y_iconst (v := (-1)) hg dX10_count_153 (by decide) ?_
                            exact yEndI hend rfl dX10_count_154 ⟨h, rfl⟩
