def P_X10_isFree_B61 (a0 : Nat) (v1 : Int32) (v2 : Int32) (σ : Sg) (Q : Int32 → Prop) (K23 : Int32 → Prop) : Prop :=
  ∀ x26 : Int32, x26 = v2 + 1 → K23 x26
def P_X10_isFree_L23b (a0 : Nat) (v1 : Int32) (v2 : Int32) (σ : Sg) (Q : Int32 → Prop) (K23 : Int32 → Prop) : Prop :=
  sK σ a0 % 32 = 12 ∧ ∃ c9 : Nat, sR σ a0 0 = some c9 ∧ sK σ c9 % 32 = 1 ∧ P_Jx4a65c_size_8abf5 c9 σ (fun x12 => (x12 ≤ v2 → Q 1) ∧ (¬ (x12 ≤ v2) → P_X10_holds v1 v2 σ (fun x14 => (x14 = 0 → P_X10_isFree_B61 a0 v1 v2 σ Q K23) ∧ (¬ (x14 = 0) → ∃ c16 : Nat, sR σ a0 0 = some c16 ∧ sK σ c16 % 32 = 1 ∧ P_Jx4a65c_get_915e3 c16 v2 σ (fun r19 => ∃ c20 : Nat, r19 = some c20 ∧ sK σ c20 % 32 = 4 ∧ (sR σ c20 5 = none → P_X10_isFree_B61 a0 v1 v2 σ Q K23) ∧ (∀ c23 : Nat, sR σ c20 5 = some c23 → Q 0))))))
def P_X10_isFree_L23 (a0 : Nat) (v1 : Int32) (v2 : Int32) (σ : Sg) (Q : Int32 → Prop) : Prop :=
  ∃ I : Nat → Int32 → Prop, (∃ n, I n v2) ∧ ∀ (n : Nat) (v2 : Int32), I n v2 → P_X10_isFree_L23b a0 v1 v2 σ Q (fun v2 => ∃ n', n' < n ∧ I n' v2)
def P_X10_isFree (a0 : Nat) (v1 : Int32) (σ : Sg) (Q : Int32 → Prop) : Prop :=
  sK σ a0 % 32 = 12 ∧ ∃ c2 : Nat, sR σ a0 0 = some c2 ∧ sK σ c2 % 32 = 1 ∧ P_Jx4a65c_size_8abf5 c2 σ (fun x5 => P_X10_within v1 0 ((1 <<< (x5 &&& 31)) - 1) σ (fun x6 => (x6 = 0 → Q 0) ∧ (¬ (x6 = 0) → P_X10_isFree_L23 a0 v1 0 σ Q)))
set_option maxHeartbeats 4000000 in
set_option maxRecDepth 100000 in
theorem k_X10_isFree (l : Launch) (D : Dg) (a0 : Nat) (v1 : Int32) (σ : Sg) (Q : Int32 → Prop) (h : P_X10_isFree a0 v1 σ Q) : Ctr l D yX10_isFree cX10_isFree 3 (some FieldType.boolean) 3 64 mkI [.ref a0, .int v1] σ (0, 0) (fun r σ2 => Q r ∧ σ2 = σ) := by
  refine ctr_of (lv := [(0, va_rf (some a0)), (1, .int v1)]) (by decide) (by (exact Nat.le_of_ble_eq_true rfl)) (by (exact rfl)) (fun g hg hgL hgD hrm hgN hgI hend => ?_)
  subst hgD
  clear hgL
  unfold P_X10_isFree at h
  have J23 : ∀ (v1 : Int32) (v2 : Int32), P_X10_isFree_L23 a0 v1 v2 σ Q → XJ g 23 [(0, va_rf (some a0)), (1, .int v1), (2, .int v2)] [] σ (0, 0) := by
    intro v1 v2 h
    unfold P_X10_isFree_L23 at h
    obtain ⟨I23, ⟨n23, hI23⟩, hs23⟩ := h
    have key23 : ∀ (n : Nat), ∀ (v2 : Int32), I23 n v2 → XJ g 23 [(0, va_rf (some a0)), (1, .int v1), (2, .int v2)] [] σ (0, 0) := by
      intro n
      induction n using Nat.strongRecOn with
      | _ n ih23 =>
      intro v2 hI
      have h := hs23 n v2 hI
      clear hI hI23 hs23
      obtain ⟨K23, hK23⟩ : ∃ K : Int32 → Prop, K = (fun v2 => ∃ n', n' < n ∧ I23 n' v2) := ⟨_, rfl⟩
      rw [← hK23] at h
      unfold P_X10_isFree_L23b at h
      have J61 : ∀ (v2 : Int32), P_X10_isFree_B61 a0 v1 v2 σ Q K23 → XJ g 61 [(0, va_rf (some a0)), (1, .int v1), (2, .int v2)] [] σ (0, 0) := by
        intro v2 h
        unfold P_X10_isFree_B61 at h
        obtain ⟨x26, e27⟩ : ∃ y : Int32, y = v2 + 1 := ⟨_, rfl⟩
        replace h := h x26 e27
        refine x_iinc (v := x26) (lv' := [(2, .int x26), (0, va_rf (some a0)), (1, .int v1)]) hg 2 dX10_isFree_61 rfl (by rw [e27]; rfl) (by rw [hgN]; decide) rfl ?_
        refine x_goto (tgt := 23) hg dX10_isFree_64 (by decide) ?_
        refine x_sub [1, 2, 0] rfl ?_
        subst hK23
        obtain ⟨n28, h29, h⟩ := h
        exact ih23 n28 h29 _ h
      refine x_iload_n hg 2 dX10_isFree_23 rfl rfl ?_
      refine x_aload_n hg 0 dX10_isFree_24 rfl rfl ?_
      obtain ⟨h8, h⟩ := h
      refine x_getR hg fl_X10_10 rfl rfl h8 dX10_isFree_25 ?_
      obtain ⟨c9, h10, h⟩ := h
      obtain ⟨h11, h⟩ := h
      refine xVIP (Qp := _) (rest := [.int v2]) (As := []) hg (k_Jx4a65c_size_8abf5 (gL g) (gD g) c9 σ _ h) lv_X10_87 h10 h11 rfl rfl dX10_isFree_28 (cat8 (Nat.le_of_ble_eq_true rfl)) hrm ⟨Nat.le_of_ble_eq_true rfl, Nat.le_of_ble_eq_true rfl⟩ (fun x12 h => ?_)
      refine x_icmp_ge (tgt := 67) hg dX10_isFree_31 (by decide) (fun q13 => ?_) (fun q13 => ?_)
      · replace h := h.1 q13
        refine x_iconst (v := 1) hg dX10_isFree_67 (by decide) ?_
        exact endI hend (bz_nar (Or.inr rfl)).1 dX10_isFree_68 ⟨h, rfl⟩
      · replace h := h.2 q13
        refine x_iload_n hg 1 dX10_isFree_34 rfl rfl ?_
        refine x_iload_n hg 2 dX10_isFree_35 rfl rfl ?_
        refine xSIP (Qp := _) (rest := []) (As := [.int v1, .int v2]) hg (k_X10_holds (gL g) (gD g) v1 v2 σ _ h) ls_X10_239 rfl rfl dX10_isFree_36 (cat8 (Nat.le_of_ble_eq_true rfl)) hrm ⟨Nat.le_of_ble_eq_true rfl, Nat.le_of_ble_eq_true rfl⟩ (fun x14 h => ?_)
        refine x_if_eq (tgt := 61) hg dX10_isFree_39 (by decide) (fun q15 => ?_) (fun q15 => ?_)
        · replace h := h.1 q15
          refine x_sub [0, 1, 2] rfl ?_
          exact J61 _ h
        · replace h := h.2 q15
          refine x_aload_n hg 0 dX10_isFree_42 rfl rfl ?_
          refine x_getR hg fl_X10_10 rfl rfl h8 dX10_isFree_43 ?_
          refine x_iload_n hg 2 dX10_isFree_46 rfl rfl ?_
          obtain ⟨c16, h17, h⟩ := h
          obtain ⟨h18, h⟩ := h
          refine xVRP (Qp := _) (rest := []) (As := [.int v2]) hg (k_Jx4a65c_get_915e3 (gL g) (gD g) c16 v2 σ _ h) lv_X10_232 h17 h18 rfl rfl dX10_isFree_47 (cat8 (Nat.le_of_ble_eq_true rfl)) hrm ⟨Nat.le_of_ble_eq_true rfl, Nat.le_of_ble_eq_true rfl⟩ (fun r19 h => ?_)
          obtain ⟨c20, h21, h⟩ := h
          obtain ⟨h22, h⟩ := h
          refine x_cast (c := 4) hg (C := RX2) rfl (by decide) cl_X10_91 h21 h22 dX10_isFree_50 ?_
          refine x_getR hg fl_X10_110 rfl h21 h22 dX10_isFree_53 ?_
          refine x_ifnull (tgt := 61) hg dX10_isFree_56 (by decide) (fun h24 => ?_) (fun c23 h25 => ?_)
          · replace h := h.1 h24
            refine x_sub [0, 1, 2] rfl ?_
            exact J61 _ h
          · replace h := h.2 c23 h25
            refine x_iconst (v := 0) hg dX10_isFree_59 (by decide) ?_
            exact endI hend (bz_nar (Or.inl rfl)).1 dX10_isFree_60 ⟨h, rfl⟩
    exact key23 n23 v2 hI23
  refine x_iload_n hg 1 dX10_isFree_0 rfl rfl ?_
  refine x_iconst (v := 0) hg dX10_isFree_1 (by decide) ?_
  refine x_iconst (v := 1) hg dX10_isFree_2 (by decide) ?_
  refine x_aload_n hg 0 dX10_isFree_3 rfl rfl ?_
  obtain ⟨h1, h⟩ := h
  refine x_getR hg fl_X10_10 rfl rfl h1 dX10_isFree_4 ?_
  obtain ⟨c2, h3, h⟩ := h
  obtain ⟨h4, h⟩ := h
  refine xVIP (Qp := _) (rest := [.int 1, .int 0, .int v1]) (As := []) hg (k_Jx4a65c_size_8abf5 (gL g) (gD g) c2 σ _ h) lv_X10_87 h3 h4 rfl rfl dX10_isFree_7 (cat8 (Nat.le_of_ble_eq_true rfl)) hrm ⟨Nat.le_of_ble_eq_true rfl, Nat.le_of_ble_eq_true rfl⟩ (fun x5 h => ?_)
  refine x_ishl hg dX10_isFree_10 ?_
  refine x_iconst (v := 1) hg dX10_isFree_11 (by decide) ?_
  refine x_isub hg dX10_isFree_12 ?_
  refine xSIP (Qp := _) (rest := []) (As := [.int v1, .int 0, .int ((1 <<< (x5 &&& 31)) - 1)]) hg (k_X10_within (gL g) (gD g) v1 0 ((1 <<< (x5 &&& 31)) - 1) σ _ h) ls_X10_83 rfl rfl dX10_isFree_13 (cat8 (Nat.le_of_ble_eq_true rfl)) hrm ⟨Nat.le_of_ble_eq_true rfl, Nat.le_of_ble_eq_true rfl⟩ (fun x6 h => ?_)
  refine x_if_ne (tgt := 21) hg dX10_isFree_16 (by decide) (fun q7 => ?_) (fun q7 => ?_)
  · replace h := h.2 q7
    refine x_iconst (v := 0) hg dX10_isFree_21 (by decide) ?_
    refine x_istore_n (lv' := [(2, .int 0), (0, va_rf (some a0)), (1, .int v1)]) hg dX10_isFree_22 rfl (by rw [hgN]; decide) rfl ?_
    refine x_sub [1, 2, 0] rfl ?_
    exact J23 _ _ h
  · replace h := h.1 q7
    refine x_iconst (v := 0) hg dX10_isFree_19 (by decide) ?_
    exact endI hend (bz_nar (Or.inl rfl)).1 dX10_isFree_20 ⟨h, rfl⟩
def P_X10_tried (a0 : Nat) (v1 : Int32) (v2 : Int32) (σ : Sg) (Q : Int64 → Sg → Prop) : Prop :=
  P_X10_within v2 0 1 σ (fun x1 => (x1 = 0 → Q (-1) σ) ∧ (¬ (x1 = 0) → sK σ a0 % 32 = 12 ∧ P_X10_isFree a0 v1 σ (fun x4 => (x4 = 0 → Q (-1) σ) ∧ (¬ (x4 = 0) → P_X10_prepareFlow a0 σ (fun _ σ7 => sK σ7 a0 % 32 = 12 ∧ ∃ c9 : Nat, sR σ7 a0 7 = some c9 ∧ sK σ7 c9 % 32 = 5 ∧ P_X3_run c9 v1 σ7 (fun _ σ13 => (v2 = 0 → sK σ13 a0 % 32 = 12 ∧ ∃ c21 : Nat, sR σ13 a0 7 = some c21 ∧ sK σ13 c21 % 32 = 5 ∧ P_X3_spilt c21 σ13 (fun x24 => Q x24.toInt64 σ13)) ∧ (¬ (v2 = 0) → sK σ13 a0 % 32 = 12 ∧ ∃ c16 : Nat, sR σ13 a0 7 = some c16 ∧ sK σ13 c16 % 32 = 5 ∧ P_X3_wet c16 σ13 (fun x19 => Q x19.toInt64 σ13))))))))
set_option maxHeartbeats 4000000 in
set_option maxRecDepth 100000 in
theorem k_X10_tried (l : Launch) (D : Dg) (a0 : Nat) (v1 : Int32) (v2 : Int32) (σ : Sg) (Q : Int64 → Sg → Prop) (h : P_X10_tried a0 v1 v2 σ Q) : Ctr l D yX10_tried cX10_tried 3 (some FieldType.long) 5 110 mkL [.ref a0, .int v1, .int v2] σ (0, 0) Q := by
  refine ctr_of (lv := [(0, va_rf (some a0)), (1, .int v1), (2, .int v2)]) (by decide) (by (exact Nat.le_of_ble_eq_true rfl)) (by (exact rfl)) (fun g hg hgL hgD hrm hgN hgI hend => ?_)
  subst hgD
  clear hgL
  unfold P_X10_tried at h
  refine x_iload_n hg 2 dX10_tried_0 rfl rfl ?_
  refine x_iconst (v := 0) hg dX10_tried_1 (by decide) ?_
  refine x_iconst (v := 1) hg dX10_tried_2 (by decide) ?_
  refine xSIP (Qp := _) (rest := []) (As := [.int v2, .int 0, .int 1]) hg (k_X10_within (gL g) (gD g) v2 0 1 σ _ h) ls_X10_83 rfl rfl dX10_tried_3 (cat8 (Nat.le_of_ble_eq_true rfl)) hrm ⟨Nat.le_of_ble_eq_true rfl, Nat.le_of_ble_eq_true rfl⟩ (fun x1 h => ?_)
  refine x_if_eq (tgt := 17) hg dX10_tried_6 (by decide) (fun q2 => ?_) (fun q2 => ?_)
  · replace h := h.1 q2
    refine x_ldc2 hg cw_X10_362 dX10_tried_17 ?_
    exact endL hend dX10_tried_20 h
  · replace h := h.2 q2
    refine x_aload_n hg 0 dX10_tried_9 rfl rfl ?_
    refine x_iload_n hg 1 dX10_tried_10 rfl rfl ?_
    obtain ⟨h3, h⟩ := h
    refine xVIP (Qp := _) (rest := []) (As := [.int v1]) hg (k_X10_isFree (gL g) (gD g) a0 v1 σ _ h) lv_X10_359 rfl h3 rfl rfl dX10_tried_11 (cat8 (Nat.le_of_ble_eq_true rfl)) hrm ⟨Nat.le_of_ble_eq_true rfl, Nat.le_of_ble_eq_true rfl⟩ (fun x4 h => ?_)
    refine x_if_ne (tgt := 21) hg dX10_tried_14 (by decide) (fun q5 => ?_) (fun q5 => ?_)
    · replace h := h.2 q5
      refine x_aload_n hg 0 dX10_tried_21 rfl rfl ?_
      refine xVVW (Qm := _) (rest := []) (As := []) hg (k_X10_prepareFlow (gL g) (gD g) a0 σ _ h) lv_X10_318 rfl h3 rfl rfl dX10_tried_22 (cat8 (Nat.le_of_ble_eq_true rfl)) hrm ⟨Nat.le_of_ble_eq_true rfl, Nat.le_of_ble_eq_true rfl⟩ (fun u6 σ7 h => ?_)
      refine x_aload_n hg 0 dX10_tried_25 rfl rfl ?_
      obtain ⟨h8, h⟩ := h
      refine x_getR hg fl_X10_47 rfl rfl h8 dX10_tried_26 ?_
      refine x_iload_n hg 1 dX10_tried_29 rfl rfl ?_
      obtain ⟨c9, h10, h⟩ := h
      obtain ⟨h11, h⟩ := h
      refine xVVW (Qm := _) (rest := []) (As := [.int v1]) hg (k_X3_run (gL g) (gD g) c9 v1 σ7 _ h) lv_X10_321 h10 h11 rfl rfl dX10_tried_30 (cat8 (Nat.le_of_ble_eq_true rfl)) hrm ⟨Nat.le_of_ble_eq_true rfl, Nat.le_of_ble_eq_true rfl⟩ (fun u12 σ13 h => ?_)
      refine x_iload_n hg 2 dX10_tried_33 rfl rfl ?_
      refine x_if_ne (tgt := 48) hg dX10_tried_34 (by decide) (fun q14 => ?_) (fun q14 => ?_)
      · replace h := h.2 q14
        refine x_aload_n hg 0 dX10_tried_48 rfl rfl ?_
        obtain ⟨h15, h⟩ := h
        refine x_getR hg fl_X10_47 rfl rfl h15 dX10_tried_49 ?_
        obtain ⟨c16, h17, h⟩ := h
        obtain ⟨h18, h⟩ := h
        refine xVIP (Qp := _) (rest := []) (As := []) hg (k_X3_wet (gL g) (gD g) c16 σ13 _ h) lv_X10_366 h17 h18 rfl rfl dX10_tried_52 (cat8 (Nat.le_of_ble_eq_true rfl)) hrm ⟨Nat.le_of_ble_eq_true rfl, Nat.le_of_ble_eq_true rfl⟩ (fun x19 h => ?_)
        refine x_i2l hg dX10_tried_55 ?_
        exact endL hend dX10_tried_56 h
      · replace h := h.1 q14
        refine x_aload_n hg 0 dX10_tried_37 rfl rfl ?_
        obtain ⟨h20, h⟩ := h
        refine x_getR hg fl_X10_47 rfl rfl h20 dX10_tried_38 ?_
        obtain ⟨c21, h22, h⟩ := h
        obtain ⟨h23, h⟩ := h
        refine xVIP (Qp := _) (rest := []) (As := []) hg (k_X3_spilt (gL g) (gD g) c21 σ13 _ h) lv_X10_364 h22 h23 rfl rfl dX10_tried_41 (cat8 (Nat.le_of_ble_eq_true rfl)) hrm ⟨Nat.le_of_ble_eq_true rfl, Nat.le_of_ble_eq_true rfl⟩ (fun x24 h => ?_)
        refine x_i2l hg dX10_tried_44 ?_
        refine x_goto (tgt := 56) hg dX10_tried_45 (by decide) ?_
        exact endL hend dX10_tried_56 h
    · replace h := h.1 q5
      refine x_ldc2 hg cw_X10_362 dX10_tried_17 ?_
      exact endL hend dX10_tried_20 h
def P_X10_costOf (a0 : Nat) (v1 : Int32) (σ : Sg) (Q : Int32 → Prop) : Prop :=
  sK σ a0 % 32 = 12 ∧ P_X10_lawOn a0 (sI σ a0 15) σ (fun r2 => P_J6_bitCount_0f7a4 v1 σ (fun x3 => ∃ c4 : Nat, r2 = some c4 ∧ sK σ c4 % 32 = 6 ∧ P_X4_value c4 10 σ (fun x7 => P_X4_value c4 11 σ (fun x8 => Q (x3 * (x7 + (x8 * 100)))))))
set_option maxHeartbeats 4000000 in
set_option maxRecDepth 100000 in
theorem k_X10_costOf (l : Launch) (D : Dg) (a0 : Nat) (v1 : Int32) (σ : Sg) (Q : Int32 → Prop) (h : P_X10_costOf a0 v1 σ Q) : Ctr l D yX10_costOf cX10_costOf 3 (some FieldType.int) 4 86 mkI [.ref a0, .int v1] σ (0, 0) (fun r σ2 => Q r ∧ σ2 = σ) := by
  refine ctr_of (lv := [(0, va_rf (some a0)), (1, .int v1)]) (by decide) (by (exact Nat.le_of_ble_eq_true rfl)) (by (exact rfl)) (fun g hg hgL hgD hrm hgN hgI hend => ?_)
  subst hgD
  clear hgL
  unfold P_X10_costOf at h
  refine x_aload_n hg 0 dX10_costOf_0 rfl rfl ?_
  refine x_aload_n hg 0 dX10_costOf_1 rfl rfl ?_
  obtain ⟨h1, h⟩ := h
  refine x_getI hg fl_X10_120 rfl rfl h1 dX10_costOf_2 ?_
  refine xVRP (Qp := _) (rest := []) (As := [.int (sI σ a0 15)]) hg (k_X10_lawOn (gL g) (gD g) a0 (sI σ a0 15) σ _ h) lv_X10_123 rfl h1 rfl rfl dX10_costOf_5 (cat8 (Nat.le_of_ble_eq_true rfl)) hrm ⟨Nat.le_of_ble_eq_true rfl, Nat.le_of_ble_eq_true rfl⟩ (fun r2 h => ?_)
  refine x_astore_n (lv' := [(2, va_rf r2), (0, va_rf (some a0)), (1, .int v1)]) hg dX10_costOf_8 rfl (by rw [hgN]; decide) rfl ?_
  refine x_iload_n hg 2 dX10_costOf_9 rfl rfl ?_
  refine xSIP (Qp := _) (rest := []) (As := [.int v1]) hg (k_J6_bitCount_0f7a4 (gL g) (gD g) v1 σ _ h) ls_X10_310 rfl rfl dX10_costOf_10 (cat8 (Nat.le_of_ble_eq_true rfl)) hrm ⟨Nat.le_of_ble_eq_true rfl, Nat.le_of_ble_eq_true rfl⟩ (fun x3 h => ?_)
  refine x_aload_n hg 0 dX10_costOf_13 rfl rfl ?_
  refine x_bipush (v := 10) hg dX10_costOf_14 (by decide) ?_
  obtain ⟨c4, h5, h⟩ := h
  obtain ⟨h6, h⟩ := h
  refine xVIP (Qp := _) (rest := [.int x3]) (As := [.int 10]) hg (k_X4_value (gL g) (gD g) c4 10 σ _ h) lv_X10_127 h5 h6 rfl rfl dX10_costOf_16 (cat8 (Nat.le_of_ble_eq_true rfl)) hrm ⟨Nat.le_of_ble_eq_true rfl, Nat.le_of_ble_eq_true rfl⟩ (fun x7 h => ?_)
  refine x_aload_n hg 0 dX10_costOf_19 rfl rfl ?_
  refine x_bipush (v := 11) hg dX10_costOf_20 (by decide) ?_
  refine xVIP (Qp := _) (rest := [.int x7, .int x3]) (As := [.int 11]) hg (k_X4_value (gL g) (gD g) c4 11 σ _ h) lv_X10_127 h5 h6 rfl rfl dX10_costOf_22 (cat8 (Nat.le_of_ble_eq_true rfl)) hrm ⟨Nat.le_of_ble_eq_true rfl, Nat.le_of_ble_eq_true rfl⟩ (fun x8 h => ?_)
  refine x_bipush (v := 100) hg dX10_costOf_25 (by decide) ?_
  refine x_imul hg dX10_costOf_27 ?_
  refine x_iadd hg dX10_costOf_28 ?_
  refine x_imul hg dX10_costOf_29 ?_
  exact endI hend rfl dX10_costOf_30 ⟨h, rfl⟩
def P_X10_bestSet_B157 (a0 : Nat) (v1 : Int32) (v2 : Int32) (v3 : Int32) (v4 : Int32) (v5 : Int32) (v6 : Int64) (v8 : Int32) (σ : Sg) (Q : Int32 → Sg → Prop) (K27 : Int32 → Int64 → Int32 → Sg → Prop) : Prop :=
  ∀ x41 : Int32, x41 = v8 + 1 → K27 v5 v6 x41 σ
def P_X10_bestSet_B149 (a0 : Nat) (v1 : Int32) (v2 : Int32) (v3 : Int32) (v4 : Int32) (v8 : Int32) (v9 : Int64) (σ : Sg) (Q : Int32 → Sg → Prop) (K27 : Int32 → Int64 → Int32 → Sg → Prop) : Prop :=
  P_X10_bestSet_B157 a0 v1 v2 v3 v4 v8 v9 v8 σ Q K27
def P_X10_bestSet_B120 (a0 : Nat) (v1 : Int32) (v2 : Int32) (v3 : Int32) (v4 : Int32) (v5 : Int32) (v6 : Int64) (v8 : Int32) (v9 : Int64) (w0 : Int32) (σ : Sg) (Q : Int32 → Sg → Prop) (K27 : Int32 → Int64 → Int32 → Sg → Prop) : Prop :=
  (v5 = (-1) → P_X10_bestSet_B149 a0 v1 v2 v3 v4 v8 v9 σ Q K27) ∧ (¬ (v5 = (-1)) → (v9 < v6 → P_X10_bestSet_B149 a0 v1 v2 v3 v4 v8 v9 σ Q K27) ∧ (¬ (v9 < v6) → (v9 = v6 → (w0 = 0 → P_X10_bestSet_B157 a0 v1 v2 v3 v4 v5 v6 v8 σ Q K27) ∧ (¬ (w0 = 0) → P_X10_bestSet_B149 a0 v1 v2 v3 v4 v8 v9 σ Q K27)) ∧ (¬ (v9 = v6) → P_X10_bestSet_B157 a0 v1 v2 v3 v4 v5 v6 v8 σ Q K27)))
def P_X10_bestSet_L27b (a0 : Nat) (v1 : Int32) (v2 : Int32) (v3 : Int32) (v4 : Int32) (v5 : Int32) (v6 : Int64) (v8 : Int32) (σ : Sg) (Q : Int32 → Sg → Prop) (K27 : Int32 → Int64 → Int32 → Sg → Prop) : Prop :=
  sK σ a0 % 32 = 12 ∧ ∃ c11 : Nat, sR σ a0 0 = some c11 ∧ sK σ c11 % 32 = 1 ∧ P_Jx4a65c_size_8abf5 c11 σ (fun x14 => ((1 <<< (x14 &&& 31)) ≤ v8 → Q v5 σ) ∧ (¬ ((1 <<< (x14 &&& 31)) ≤ v8) → P_J6_bitCount_0f7a4 v8 σ (fun x16 => (v1 < x16 → P_X10_bestSet_B157 a0 v1 v2 v3 v4 v5 v6 v8 σ Q K27) ∧ (¬ (v1 < x16) → P_X10_costOf a0 v8 σ (fun x18 => (v2 < x18 → P_X10_bestSet_B157 a0 v1 v2 v3 v4 v5 v6 v8 σ Q K27) ∧ (¬ (v2 < x18) → P_X10_isFree a0 v8 σ (fun x20 => (x20 = 0 → P_X10_bestSet_B157 a0 v1 v2 v3 v4 v5 v6 v8 σ Q K27) ∧ (¬ (x20 = 0) → P_X10_parkingWith a0 v8 σ (fun x22 => (x22 ≤ v4 → ∃ c24 : Nat, sR σ a0 7 = some c24 ∧ sK σ c24 % 32 = 5 ∧ P_X3_run c24 v8 σ (fun _ σ28 => sK σ28 a0 % 32 = 12 ∧ ∃ c30 : Nat, sR σ28 a0 7 = some c30 ∧ sK σ28 c30 % 32 = 5 ∧ P_X3_weight c30 v3 σ28 (fun x33 => P_J6_bitCount_0f7a4 v8 σ28 (fun x34 => P_J6_bitCount_0f7a4 v5 σ28 (fun x35 => (x35 ≤ x34 → P_X10_bestSet_B120 a0 v1 v2 v3 v4 v5 v6 v8 x33 0 σ28 Q K27) ∧ (¬ (x35 ≤ x34) → P_X10_bestSet_B120 a0 v1 v2 v3 v4 v5 v6 v8 x33 1 σ28 Q K27)))))) ∧ (¬ (x22 ≤ v4) → P_X10_bestSet_B157 a0 v1 v2 v3 v4 v5 v6 v8 σ Q K27))))))))))
def P_X10_bestSet_L27 (a0 : Nat) (v1 : Int32) (v2 : Int32) (v3 : Int32) (v4 : Int32) (v5 : Int32) (v6 : Int64) (v8 : Int32) (σ : Sg) (Q : Int32 → Sg → Prop) : Prop :=
  ∃ I : Nat → Int32 → Int64 → Int32 → Sg → Prop, (∃ n, I n v5 v6 v8 σ) ∧ ∀ (n : Nat) (v5 : Int32) (v6 : Int64) (v8 : Int32) (σ : Sg), I n v5 v6 v8 σ → P_X10_bestSet_L27b a0 v1 v2 v3 v4 v5 v6 v8 σ Q (fun v5 v6 v8 σ => ∃ n', n' < n ∧ I n' v5 v6 v8 σ)
def P_X10_bestSet (a0 : Nat) (v1 : Int32) (v2 : Int32) (v3 : Int32) (σ : Sg) (Q : Int32 → Sg → Prop) : Prop :=
  sK σ a0 % 32 = 12 ∧ P_X10_prepareFlow a0 σ (fun _ σ3 => sK σ3 a0 % 32 = 12 ∧ P_X10_lawOn a0 (sI σ3 a0 15) σ3 (fun r5 => ∃ c6 : Nat, r5 = some c6 ∧ sK σ3 c6 % 32 = 6 ∧ P_X4_value c6 4 σ3 (fun x9 => P_X10_bestSet_L27 a0 v1 v2 v3 x9 (-1) 0 0 σ3 Q)))
set_option maxHeartbeats 4000000 in
set_option maxRecDepth 100000 in
theorem k_X10_bestSet (l : Launch) (D : Dg) (a0 : Nat) (v1 : Int32) (v2 : Int32) (v3 : Int32) (σ : Sg) (Q : Int32 → Sg → Prop) (h : P_X10_bestSet a0 v1 v2 v3 σ Q) : Ctr l D yX10_bestSet cX10_bestSet 12 (some FieldType.int) 5 110 mkI [.ref a0, .int v1, .int v2, .int v3] σ (0, 0) Q := by
  refine ctr_of (lv := [(0, va_rf (some a0)), (1, .int v1), (2, .int v2), (3, .int v3)]) (by decide) (by (exact Nat.le_of_ble_eq_true rfl)) (by (exact rfl)) (fun g hg hgL hgD hrm hgN hgI hend => ?_)
  subst hgD
  clear hgL
  unfold P_X10_bestSet at h
  have J27 : ∀ (v1 : Int32) (v2 : Int32) (v3 : Int32) (v4 : Int32) (v5 : Int32) (v6 : Int64) (v8 : Int32) (σ : Sg), P_X10_bestSet_L27 a0 v1 v2 v3 v4 v5 v6 v8 σ Q → XJ g 27 [(0, va_rf (some a0)), (1, .int v1), (2, .int v2), (3, .int v3), (4, .int v4), (5, .int v5), (6, .long v6), (8, .int v8)] [] σ (0, 0) := by
    intro v1 v2 v3 v4 v5 v6 v8 σ h
    unfold P_X10_bestSet_L27 at h
    obtain ⟨I27, ⟨n27, hI27⟩, hs27⟩ := h
    have key27 : ∀ (n : Nat), ∀ (v5 : Int32) (v6 : Int64) (v8 : Int32) (σ : Sg), I27 n v5 v6 v8 σ → XJ g 27 [(0, va_rf (some a0)), (1, .int v1), (2, .int v2), (3, .int v3), (4, .int v4), (5, .int v5), (6, .long v6), (8, .int v8)] [] σ (0, 0) := by
      intro n
      induction n using Nat.strongRecOn with
      | _ n ih27 =>
      intro v5 v6 v8 σ hI
      have h := hs27 n v5 v6 v8 σ hI
      clear hI hI27 hs27
      obtain ⟨K27, hK27⟩ : ∃ K : Int32 → Int64 → Int32 → Sg → Prop, K = (fun v5 v6 v8 σ => ∃ n', n' < n ∧ I27 n' v5 v6 v8 σ) := ⟨_, rfl⟩
      rw [← hK27] at h
      unfold P_X10_bestSet_L27b at h
      have J157 : ∀ (v5 : Int32) (v6 : Int64) (v8 : Int32) (σ : Sg), P_X10_bestSet_B157 a0 v1 v2 v3 v4 v5 v6 v8 σ Q K27 → XJ g 157 [(0, va_rf (some a0)), (1, .int v1), (2, .int v2), (3, .int v3), (4, .int v4), (5, .int v5), (6, .long v6), (8, .int v8)] [] σ (0, 0) := by
        intro v5 v6 v8 σ h
        unfold P_X10_bestSet_B157 at h
        obtain ⟨x41, e42⟩ : ∃ y : Int32, y = v8 + 1 := ⟨_, rfl⟩
        replace h := h x41 e42
        refine x_iinc (v := x41) (lv' := [(8, .int x41), (0, va_rf (some a0)), (1, .int v1), (2, .int v2), (3, .int v3), (4, .int v4), (5, .int v5), (6, .long v6)]) hg 7 dX10_bestSet_157 rfl (by rw [e42]; rfl) (by rw [hgN]; decide) rfl ?_
        refine x_goto (tgt := 27) hg dX10_bestSet_160 (by decide) ?_
        refine x_sub [1, 2, 3, 4, 5, 6, 7, 0] rfl ?_
        subst hK27
        obtain ⟨n43, h44, h⟩ := h
        exact ih27 n43 h44 _ _ _ _ h
      have J149 : ∀ (v8 : Int32) (v9 : Int64) (σ : Sg), P_X10_bestSet_B149 a0 v1 v2 v3 v4 v8 v9 σ Q K27 → XJ g 149 [(0, va_rf (some a0)), (1, .int v1), (2, .int v2), (3, .int v3), (4, .int v4), (8, .int v8), (9, .long v9)] [] σ (0, 0) := by
        intro v8 v9 σ h
        unfold P_X10_bestSet_B149 at h
        refine x_iload hg 5 dX10_bestSet_149 rfl ?_
        refine x_istore (lv' := [(5, .int v8), (0, va_rf (some a0)), (1, .int v1), (2, .int v2), (3, .int v3), (4, .int v4), (8, .int v8), (9, .long v9)]) hg dX10_bestSet_151 (by rw [hgN]; decide) rfl ?_
        refine x_lload hg 7 dX10_bestSet_153 rfl ?_
        refine x_lstore (lv' := [(6, .long v9), (5, .int v8), (0, va_rf (some a0)), (1, .int v1), (2, .int v2), (3, .int v3), (4, .int v4), (8, .int v8), (9, .long v9)]) hg dX10_bestSet_155 (by rw [hgN]; decide) rfl ?_
        refine x_sub [2, 3, 4, 5, 6, 1, 0, 7] rfl ?_
        exact J157 _ _ _ _ h
      have J120 : ∀ (v5 : Int32) (v6 : Int64) (v8 : Int32) (v9 : Int64) (w0 : Int32) (σ : Sg), P_X10_bestSet_B120 a0 v1 v2 v3 v4 v5 v6 v8 v9 w0 σ Q K27 → XJ g 120 [(0, va_rf (some a0)), (1, .int v1), (2, .int v2), (3, .int v3), (4, .int v4), (5, .int v5), (6, .long v6), (8, .int v8), (9, .long v9)] [.int w0] σ (0, 0) := by
        intro v5 v6 v8 v9 w0 σ h
        unfold P_X10_bestSet_B120 at h
        refine x_istore (lv' := [(11, .int w0), (0, va_rf (some a0)), (1, .int v1), (2, .int v2), (3, .int v3), (4, .int v4), (5, .int v5), (6, .long v6), (8, .int v8), (9, .long v9)]) hg dX10_bestSet_120 (by rw [hgN]; decide) rfl ?_
        refine x_iload hg 6 dX10_bestSet_122 rfl ?_
        refine x_iconst (v := (-1)) hg dX10_bestSet_124 (by decide) ?_
        refine x_icmp_eq (tgt := 149) hg dX10_bestSet_125 (by decide) (fun q37 => ?_) (fun q37 => ?_)
        · replace h := h.1 q37
          refine x_sub [1, 2, 3, 4, 5, 8, 9] rfl ?_
          exact J149 _ _ _ h
        · replace h := h.2 q37
          refine x_lload hg 9 dX10_bestSet_128 rfl ?_
          refine x_lload hg 7 dX10_bestSet_130 rfl ?_
          refine x_lcmp hg dX10_bestSet_132 ?_
          refine x_if_lt (tgt := 149) hg dX10_bestSet_133 (by decide) (fun q38 => ?_) (fun q38 => ?_)
          · replace h := h.1 ((lg_cmp_lt _ _).mp q38)
            refine x_sub [1, 2, 3, 4, 5, 8, 9] rfl ?_
            exact J149 _ _ _ h
          · replace h := h.2 (fun z => q38 ((lg_cmp_lt _ _).mpr z))
            refine x_lload hg 9 dX10_bestSet_136 rfl ?_
            refine x_lload hg 7 dX10_bestSet_138 rfl ?_
            refine x_lcmp hg dX10_bestSet_140 ?_
            refine x_if_ne (tgt := 157) hg dX10_bestSet_141 (by decide) (fun q39 => ?_) (fun q39 => ?_)
            · replace h := h.2 (fun z => q39 ((lg_cmp_eq _ _).mpr z))
              refine x_sub [1, 2, 3, 4, 5, 6, 7, 8] rfl ?_
              exact J157 _ _ _ _ h
            · replace h := h.1 ((lg_cmp_eq _ _).mp q39)
              refine x_iload hg 0 dX10_bestSet_144 rfl ?_
              refine x_if_eq (tgt := 157) hg dX10_bestSet_146 (by decide) (fun q40 => ?_) (fun q40 => ?_)
              · replace h := h.1 q40
                refine x_sub [1, 2, 3, 4, 5, 6, 7, 8] rfl ?_
                exact J157 _ _ _ _ h
              · replace h := h.2 q40
                refine x_sub [1, 2, 3, 4, 5, 8, 9] rfl ?_
                exact J149 _ _ _ h
      refine x_iload hg 7 dX10_bestSet_27 rfl ?_
      refine x_iconst (v := 1) hg dX10_bestSet_29 (by decide) ?_
      refine x_aload_n hg 0 dX10_bestSet_30 rfl rfl ?_
      obtain ⟨h10, h⟩ := h
      refine x_getR hg fl_X10_10 rfl rfl h10 dX10_bestSet_31 ?_
      obtain ⟨c11, h12, h⟩ := h
      obtain ⟨h13, h⟩ := h
      refine xVIP (Qp := _) (rest := [.int 1, .int v8]) (As := []) hg (k_Jx4a65c_size_8abf5 (gL g) (gD g) c11 σ _ h) lv_X10_87 h12 h13 rfl rfl dX10_bestSet_34 (cat8 (Nat.le_of_ble_eq_true rfl)) hrm ⟨Nat.le_of_ble_eq_true rfl, Nat.le_of_ble_eq_true rfl⟩ (fun x14 h => ?_)
      refine x_ishl hg dX10_bestSet_37 ?_
      refine x_icmp_ge (tgt := 163) hg dX10_bestSet_38 (by decide) (fun q15 => ?_) (fun q15 => ?_)
      · replace h := h.1 q15
        refine x_iload hg 5 dX10_bestSet_163 rfl ?_
        exact endI hend rfl dX10_bestSet_165 h
      · replace h := h.2 q15
        refine x_iload hg 7 dX10_bestSet_41 rfl ?_
        refine xSIP (Qp := _) (rest := []) (As := [.int v8]) hg (k_J6_bitCount_0f7a4 (gL g) (gD g) v8 σ _ h) ls_X10_310 rfl rfl dX10_bestSet_43 (cat8 (Nat.le_of_ble_eq_true rfl)) hrm ⟨Nat.le_of_ble_eq_true rfl, Nat.le_of_ble_eq_true rfl⟩ (fun x16 h => ?_)
        refine x_iload_n hg 1 dX10_bestSet_46 rfl rfl ?_
        refine x_icmp_gt (tgt := 157) hg dX10_bestSet_47 (by decide) (fun q17 => ?_) (fun q17 => ?_)
        · replace h := h.1 q17
          refine x_sub [0, 1, 2, 3, 4, 5, 6, 7] rfl ?_
          exact J157 _ _ _ _ h
        · replace h := h.2 q17
          refine x_aload_n hg 0 dX10_bestSet_50 rfl rfl ?_
          refine x_iload hg 7 dX10_bestSet_51 rfl ?_
          refine xVIP (Qp := _) (rest := []) (As := [.int v8]) hg (k_X10_costOf (gL g) (gD g) a0 v8 σ _ h) lv_X10_377 rfl h10 rfl rfl dX10_bestSet_53 (cat8 (Nat.le_of_ble_eq_true rfl)) hrm ⟨Nat.le_of_ble_eq_true rfl, Nat.le_of_ble_eq_true rfl⟩ (fun x18 h => ?_)
          refine x_iload_n hg 2 dX10_bestSet_56 rfl rfl ?_
          refine x_icmp_gt (tgt := 157) hg dX10_bestSet_57 (by decide) (fun q19 => ?_) (fun q19 => ?_)
          · replace h := h.1 q19
            refine x_sub [0, 1, 2, 3, 4, 5, 6, 7] rfl ?_
            exact J157 _ _ _ _ h
          · replace h := h.2 q19
            refine x_aload_n hg 0 dX10_bestSet_60 rfl rfl ?_
            refine x_iload hg 7 dX10_bestSet_61 rfl ?_
            refine xVIP (Qp := _) (rest := []) (As := [.int v8]) hg (k_X10_isFree (gL g) (gD g) a0 v8 σ _ h) lv_X10_359 rfl h10 rfl rfl dX10_bestSet_63 (cat8 (Nat.le_of_ble_eq_true rfl)) hrm ⟨Nat.le_of_ble_eq_true rfl, Nat.le_of_ble_eq_true rfl⟩ (fun x20 h => ?_)
            refine x_if_eq (tgt := 157) hg dX10_bestSet_66 (by decide) (fun q21 => ?_) (fun q21 => ?_)
            · replace h := h.1 q21
              refine x_sub [0, 1, 2, 3, 4, 5, 6, 7] rfl ?_
              exact J157 _ _ _ _ h
            · replace h := h.2 q21
              refine x_aload_n hg 0 dX10_bestSet_69 rfl rfl ?_
              refine x_iload hg 7 dX10_bestSet_70 rfl ?_
              refine xVIP (Qp := _) (rest := []) (As := [.int v8]) hg (k_X10_parkingWith (gL g) (gD g) a0 v8 σ _ h) lv_X10_236 rfl h10 rfl rfl dX10_bestSet_72 (cat8 (Nat.le_of_ble_eq_true rfl)) hrm ⟨Nat.le_of_ble_eq_true rfl, Nat.le_of_ble_eq_true rfl⟩ (fun x22 h => ?_)
              refine x_iload hg 4 dX10_bestSet_75 rfl ?_
              refine x_icmp_le (tgt := 83) hg dX10_bestSet_77 (by decide) (fun q23 => ?_) (fun q23 => ?_)
              · replace h := h.1 q23
                refine x_aload_n hg 0 dX10_bestSet_83 rfl rfl ?_
                refine x_getR hg fl_X10_47 rfl rfl h10 dX10_bestSet_84 ?_
                refine x_iload hg 7 dX10_bestSet_87 rfl ?_
                obtain ⟨c24, h25, h⟩ := h
                obtain ⟨h26, h⟩ := h
                refine xVVW (Qm := _) (rest := []) (As := [.int v8]) hg (k_X3_run (gL g) (gD g) c24 v8 σ _ h) lv_X10_321 h25 h26 rfl rfl dX10_bestSet_89 (cat8 (Nat.le_of_ble_eq_true rfl)) hrm ⟨Nat.le_of_ble_eq_true rfl, Nat.le_of_ble_eq_true rfl⟩ (fun u27 σ28 h => ?_)
                refine x_aload_n hg 0 dX10_bestSet_92 rfl rfl ?_
                obtain ⟨h29, h⟩ := h
                refine x_getR hg fl_X10_47 rfl rfl h29 dX10_bestSet_93 ?_
                refine x_iload_n hg 3 dX10_bestSet_96 rfl rfl ?_
                obtain ⟨c30, h31, h⟩ := h
                obtain ⟨h32, h⟩ := h
                refine xVLP (Qp := _) (rest := []) (As := [.int v3]) hg (k_X3_weight (gL g) (gD g) c30 v3 σ28 _ h) lv_X10_373 h31 h32 rfl rfl dX10_bestSet_97 (cat8 (Nat.le_of_ble_eq_true rfl)) hrm ⟨Nat.le_of_ble_eq_true rfl, Nat.le_of_ble_eq_true rfl⟩ (fun x33 h => ?_)
                refine x_lstore (lv' := [(9, .long x33), (0, va_rf (some a0)), (1, .int v1), (2, .int v2), (3, .int v3), (4, .int v4), (5, .int v5), (6, .long v6), (8, .int v8)]) hg dX10_bestSet_100 (by rw [hgN]; decide) rfl ?_
                refine x_iload hg 8 dX10_bestSet_102 rfl ?_
                refine xSIP (Qp := _) (rest := []) (As := [.int v8]) hg (k_J6_bitCount_0f7a4 (gL g) (gD g) v8 σ28 _ h) ls_X10_310 rfl rfl dX10_bestSet_104 (cat8 (Nat.le_of_ble_eq_true rfl)) hrm ⟨Nat.le_of_ble_eq_true rfl, Nat.le_of_ble_eq_true rfl⟩ (fun x34 h => ?_)
                refine x_iload hg 6 dX10_bestSet_107 rfl ?_
                refine xSIP (Qp := _) (rest := [.int x34]) (As := [.int v5]) hg (k_J6_bitCount_0f7a4 (gL g) (gD g) v5 σ28 _ h) ls_X10_310 rfl rfl dX10_bestSet_109 (cat8 (Nat.le_of_ble_eq_true rfl)) hrm ⟨Nat.le_of_ble_eq_true rfl, Nat.le_of_ble_eq_true rfl⟩ (fun x35 h => ?_)
                refine x_icmp_ge (tgt := 119) hg dX10_bestSet_112 (by decide) (fun q36 => ?_) (fun q36 => ?_)
                · replace h := h.1 q36
                  refine x_iconst (v := 0) hg dX10_bestSet_119 (by decide) ?_
                  refine x_sub [1, 2, 3, 4, 5, 6, 7, 8, 0] rfl ?_
                  exact J120 _ _ _ _ _ _ h
                · replace h := h.2 q36
                  refine x_iconst (v := 1) hg dX10_bestSet_115 (by decide) ?_
                  refine x_goto (tgt := 120) hg dX10_bestSet_116 (by decide) ?_
                  refine x_sub [1, 2, 3, 4, 5, 6, 7, 8, 0] rfl ?_
                  exact J120 _ _ _ _ _ _ h
              · replace h := h.2 q23
                refine x_goto (tgt := 157) hg dX10_bestSet_80 (by decide) ?_
                refine x_sub [0, 1, 2, 3, 4, 5, 6, 7] rfl ?_
                exact J157 _ _ _ _ h
    exact key27 n27 v5 v6 v8 σ hI27
  refine x_aload_n hg 0 dX10_bestSet_0 rfl rfl ?_
  obtain ⟨h1, h⟩ := h
  refine xVVW (Qm := _) (rest := []) (As := []) hg (k_X10_prepareFlow (gL g) (gD g) a0 σ _ h) lv_X10_318 rfl h1 rfl rfl dX10_bestSet_1 (cat8 (Nat.le_of_ble_eq_true rfl)) hrm ⟨Nat.le_of_ble_eq_true rfl, Nat.le_of_ble_eq_true rfl⟩ (fun u2 σ3 h => ?_)
  refine x_aload_n hg 0 dX10_bestSet_4 rfl rfl ?_
  refine x_aload_n hg 0 dX10_bestSet_5 rfl rfl ?_
  obtain ⟨h4, h⟩ := h
  refine x_getI hg fl_X10_120 rfl rfl h4 dX10_bestSet_6 ?_
  refine xVRP (Qp := _) (rest := []) (As := [.int (sI σ3 a0 15)]) hg (k_X10_lawOn (gL g) (gD g) a0 (sI σ3 a0 15) σ3 _ h) lv_X10_123 rfl h4 rfl rfl dX10_bestSet_9 (cat8 (Nat.le_of_ble_eq_true rfl)) hrm ⟨Nat.le_of_ble_eq_true rfl, Nat.le_of_ble_eq_true rfl⟩ (fun r5 h => ?_)
  refine x_iconst (v := 4) hg dX10_bestSet_12 (by decide) ?_
  obtain ⟨c6, h7, h⟩ := h
  obtain ⟨h8, h⟩ := h
  refine xVIP (Qp := _) (rest := []) (As := [.int 4]) hg (k_X4_value (gL g) (gD g) c6 4 σ3 _ h) lv_X10_127 h7 h8 rfl rfl dX10_bestSet_13 (cat8 (Nat.le_of_ble_eq_true rfl)) hrm ⟨Nat.le_of_ble_eq_true rfl, Nat.le_of_ble_eq_true rfl⟩ (fun x9 h => ?_)
  refine x_istore (lv' := [(4, .int x9), (0, va_rf (some a0)), (1, .int v1), (2, .int v2), (3, .int v3)]) hg dX10_bestSet_16 (by rw [hgN]; decide) rfl ?_
  refine x_iconst (v := (-1)) hg dX10_bestSet_18 (by decide) ?_
  refine x_istore (lv' := [(5, .int (-1)), (4, .int x9), (0, va_rf (some a0)), (1, .int v1), (2, .int v2), (3, .int v3)]) hg dX10_bestSet_19 (by rw [hgN]; decide) rfl ?_
  refine x_lconst (v := 0) hg dX10_bestSet_21 (by decide) ?_
  refine x_lstore (lv' := [(6, .long 0), (5, .int (-1)), (4, .int x9), (0, va_rf (some a0)), (1, .int v1), (2, .int v2), (3, .int v3)]) hg dX10_bestSet_22 (by rw [hgN]; decide) rfl ?_
  refine x_iconst (v := 0) hg dX10_bestSet_24 (by decide) ?_
  refine x_istore (lv' := [(8, .int 0), (6, .long 0), (5, .int (-1)), (4, .int x9), (0, va_rf (some a0)), (1, .int v1), (2, .int v2), (3, .int v3)]) hg dX10_bestSet_25 (by rw [hgN]; decide) rfl ?_
  refine x_sub [4, 5, 6, 7, 3, 2, 1, 0] rfl ?_
  exact J27 _ _ _ _ _ _ _ _ h
def P_X10_best_B46 (a0 : Nat) (v1 : Int32) (v2 : Int32) (v3 : Int32) (v4 : Int32) (w0 : Int32) (σ : Sg) (Q : Int64 → Sg → Prop) : Prop :=
  (w0 = 0 → Q (-1) σ) ∧ (¬ (w0 = 0) → sK σ a0 % 32 = 12 ∧ P_X10_bestSet a0 v1 v2 v3 σ (fun x11 σ12 => (x11 = (-1) → Q (-1) σ12) ∧ (¬ (x11 = (-1)) → sK σ12 a0 % 32 = 12 ∧ ∃ c15 : Nat, sR σ12 a0 7 = some c15 ∧ sK σ12 c15 % 32 = 5 ∧ P_X3_run c15 x11 σ12 (fun _ σ19 => ∀ y20 : Int32, y20 = v4 → (y20 = 0 → sK σ19 a0 % 32 = 12 ∧ ∃ c23 : Nat, sR σ19 a0 7 = some c23 ∧ sK σ19 c23 % 32 = 5 ∧ P_X3_weight c23 v3 σ19 (fun x26 => Q x26 σ19)) ∧ (¬ (y20 = 0) → (y20 = 1 → Q x11.toInt64 σ19) ∧ (¬ (y20 = 1) → (y20 = 2 → sK σ19 a0 % 32 = 12 ∧ P_X10_costOf a0 x11 σ19 (fun x28 => Q x28.toInt64 σ19)) ∧ (¬ (y20 = 2) → (y20 = 3 → sK σ19 a0 % 32 = 12 ∧ ∃ c30 : Nat, sR σ19 a0 7 = some c30 ∧ sK σ19 c30 % 32 = 5 ∧ P_X3_spilt c30 σ19 (fun x33 => Q x33.toInt64 σ19)) ∧ (¬ (y20 = 3) → sK σ19 a0 % 32 = 12 ∧ ∃ c35 : Nat, sR σ19 a0 7 = some c35 ∧ sK σ19 c35 % 32 = 5 ∧ P_X3_wet c35 σ19 (fun x38 => Q x38.toInt64 σ19)))))))))
def P_X10_best_B45 (a0 : Nat) (v1 : Int32) (v2 : Int32) (v3 : Int32) (v4 : Int32) (σ : Sg) (Q : Int64 → Sg → Prop) : Prop :=
  P_X10_best_B46 a0 v1 v2 v3 v4 0 σ Q
def P_X10_best (a0 : Nat) (v1 : Int32) (v2 : Int32) (v3 : Int32) (v4 : Int32) (σ : Sg) (Q : Int64 → Sg → Prop) : Prop :=
  P_X10_within v1 0 4 σ (fun x1 => (x1 = 0 → P_X10_best_B45 a0 v1 v2 v3 v4 σ Q) ∧ (¬ (x1 = 0) → P_X10_within v2 0 99999 σ (fun x3 => (x3 = 0 → P_X10_best_B45 a0 v1 v2 v3 v4 σ Q) ∧ (¬ (x3 = 0) → P_X10_within v3 0 10000 σ (fun x5 => (x5 = 0 → P_X10_best_B45 a0 v1 v2 v3 v4 σ Q) ∧ (¬ (x5 = 0) → P_X10_within v4 0 4 σ (fun x7 => (x7 = 0 → P_X10_best_B45 a0 v1 v2 v3 v4 σ Q) ∧ (¬ (x7 = 0) → P_X10_best_B46 a0 v1 v2 v3 v4 1 σ Q))))))))
set_option maxHeartbeats 4000000 in
set_option maxRecDepth 100000 in
theorem k_X10_best (l : Launch) (D : Dg) (a0 : Nat) (v1 : Int32) (v2 : Int32) (v3 : Int32) (v4 : Int32) (σ : Sg) (Q : Int64 → Sg → Prop) (h : P_X10_best a0 v1 v2 v3 v4 σ Q) : Ctr l D yX10_best cX10_best 7 (some FieldType.long) 6 141 mkL [.ref a0, .int v1, .int v2, .int v3, .int v4] σ (0, 0) Q := by
  refine ctr_of (lv := [(0, va_rf (some a0)), (1, .int v1), (2, .int v2), (3, .int v3), (4, .int v4)]) (by decide) (by (exact Nat.le_of_ble_eq_true rfl)) (by (exact rfl)) (fun g hg hgL hgD hrm hgN hgI hend => ?_)
  subst hgD
  clear hgL
  unfold P_X10_best at h
  have J46 : ∀ (v1 : Int32) (v2 : Int32) (v3 : Int32) (v4 : Int32) (w0 : Int32) (σ : Sg), P_X10_best_B46 a0 v1 v2 v3 v4 w0 σ Q → XJ g 46 [(0, va_rf (some a0)), (1, .int v1), (2, .int v2), (3, .int v3), (4, .int v4)] [.int w0] σ (0, 0) := by
    intro v1 v2 v3 v4 w0 σ h
    unfold P_X10_best_B46 at h
    refine x_istore (lv' := [(5, .int w0), (0, va_rf (some a0)), (1, .int v1), (2, .int v2), (3, .int v3), (4, .int v4)]) hg dX10_best_46 (by rw [hgN]; decide) rfl ?_
    refine x_iload hg 0 dX10_best_48 rfl ?_
    refine x_if_ne (tgt := 57) hg dX10_best_50 (by decide) (fun q9 => ?_) (fun q9 => ?_)
    · replace h := h.2 q9
      refine x_aload_n hg 1 dX10_best_57 rfl rfl ?_
      refine x_iload_n hg 2 dX10_best_58 rfl rfl ?_
      refine x_iload_n hg 3 dX10_best_59 rfl rfl ?_
      refine x_iload_n hg 4 dX10_best_60 rfl rfl ?_
      obtain ⟨h10, h⟩ := h
      refine xVIW (Qm := _) (rest := []) (As := [.int v1, .int v2, .int v3]) hg (k_X10_bestSet (gL g) (gD g) a0 v1 v2 v3 σ _ h) lv_X10_369 rfl h10 rfl rfl dX10_best_61 (cat8 (Nat.le_of_ble_eq_true rfl)) hrm ⟨Nat.le_of_ble_eq_true rfl, Nat.le_of_ble_eq_true rfl⟩ (fun x11 σ12 h => ?_)
      refine x_istore (lv' := [(6, .int x11), (5, .int w0), (0, va_rf (some a0)), (1, .int v1), (2, .int v2), (3, .int v3), (4, .int v4)]) hg dX10_best_64 (by rw [hgN]; decide) rfl ?_
      refine x_iload hg 0 dX10_best_66 rfl ?_
      refine x_iconst (v := (-1)) hg dX10_best_68 (by decide) ?_
      refine x_icmp_ne (tgt := 76) hg dX10_best_69 (by decide) (fun q13 => ?_) (fun q13 => ?_)
      · replace h := h.2 q13
        refine x_aload_n hg 2 dX10_best_76 rfl rfl ?_
        obtain ⟨h14, h⟩ := h
        refine x_getR hg fl_X10_47 rfl rfl h14 dX10_best_77 ?_
        refine x_iload hg 0 dX10_best_80 rfl ?_
        obtain ⟨c15, h16, h⟩ := h
        obtain ⟨h17, h⟩ := h
        refine xVVW (Qm := _) (rest := []) (As := [.int x11]) hg (k_X3_run (gL g) (gD g) c15 x11 σ12 _ h) lv_X10_321 h16 h17 rfl rfl dX10_best_82 (cat8 (Nat.le_of_ble_eq_true rfl)) hrm ⟨Nat.le_of_ble_eq_true rfl, Nat.le_of_ble_eq_true rfl⟩ (fun u18 σ19 h => ?_)
        refine x_iload hg 6 dX10_best_85 rfl ?_
        refine x_nmI (fun y20 e21 => ?_)
        replace h := h y20 e21
        by_cases q87_0 : y20 = 0
        · replace h := h.1 q87_0
          refine x_tableIn (tgt := 116) hg dX10_best_87 (by rw [q87_0]; decide) (by rw [q87_0]; decide) (by rw [q87_0]; rfl) (by decide) ?_
          refine x_aload_n hg 2 dX10_best_116 rfl rfl ?_
          obtain ⟨h22, h⟩ := h
          refine x_getR hg fl_X10_47 rfl rfl h22 dX10_best_117 ?_
          refine x_iload_n hg 5 dX10_best_120 rfl rfl ?_
          obtain ⟨c23, h24, h⟩ := h
          obtain ⟨h25, h⟩ := h
          refine xVLP (Qp := _) (rest := []) (As := [.int v3]) hg (k_X3_weight (gL g) (gD g) c23 v3 σ19 _ h) lv_X10_373 h24 h25 rfl rfl dX10_best_121 (cat8 (Nat.le_of_ble_eq_true rfl)) hrm ⟨Nat.le_of_ble_eq_true rfl, Nat.le_of_ble_eq_true rfl⟩ (fun x26 h => ?_)
          exact endL hend dX10_best_124 h
        · replace h := h.2 q87_0
          by_cases q87_1 : y20 = 1
          · replace h := h.1 q87_1
            refine x_tableIn (tgt := 125) hg dX10_best_87 (by rw [q87_1]; decide) (by rw [q87_1]; decide) (by rw [q87_1]; rfl) (by decide) ?_
            refine x_iload hg 0 dX10_best_125 rfl ?_
            refine x_i2l hg dX10_best_127 ?_
            exact endL hend dX10_best_128 h
          · replace h := h.2 q87_1
            by_cases q87_2 : y20 = 2
            · replace h := h.1 q87_2
              refine x_tableIn (tgt := 129) hg dX10_best_87 (by rw [q87_2]; decide) (by rw [q87_2]; decide) (by rw [q87_2]; rfl) (by decide) ?_
              refine x_aload_n hg 2 dX10_best_129 rfl rfl ?_
              refine x_iload hg 0 dX10_best_130 rfl ?_
              obtain ⟨h27, h⟩ := h
              refine xVIP (Qp := _) (rest := []) (As := [.int x11]) hg (k_X10_costOf (gL g) (gD g) a0 x11 σ19 _ h) lv_X10_377 rfl h27 rfl rfl dX10_best_132 (cat8 (Nat.le_of_ble_eq_true rfl)) hrm ⟨Nat.le_of_ble_eq_true rfl, Nat.le_of_ble_eq_true rfl⟩ (fun x28 h => ?_)
              refine x_i2l hg dX10_best_135 ?_
              exact endL hend dX10_best_136 h
            · replace h := h.2 q87_2
              by_cases q87_3 : y20 = 3
              · replace h := h.1 q87_3
                refine x_tableIn (tgt := 137) hg dX10_best_87 (by rw [q87_3]; decide) (by rw [q87_3]; decide) (by rw [q87_3]; rfl) (by decide) ?_
                refine x_aload_n hg 2 dX10_best_137 rfl rfl ?_
                obtain ⟨h29, h⟩ := h
                refine x_getR hg fl_X10_47 rfl rfl h29 dX10_best_138 ?_
                obtain ⟨c30, h31, h⟩ := h
                obtain ⟨h32, h⟩ := h
                refine xVIP (Qp := _) (rest := []) (As := []) hg (k_X3_spilt (gL g) (gD g) c30 σ19 _ h) lv_X10_364 h31 h32 rfl rfl dX10_best_141 (cat8 (Nat.le_of_ble_eq_true rfl)) hrm ⟨Nat.le_of_ble_eq_true rfl, Nat.le_of_ble_eq_true rfl⟩ (fun x33 h => ?_)
                refine x_i2l hg dX10_best_144 ?_
                exact endL hend dX10_best_145 h
              · replace h := h.2 q87_3
                refine x_tableOut (tgt := 146) hg dX10_best_87 (sw3_out q87_0 q87_1 q87_2 q87_3) (by decide) ?_
                refine x_aload_n hg 2 dX10_best_146 rfl rfl ?_
                obtain ⟨h34, h⟩ := h
                refine x_getR hg fl_X10_47 rfl rfl h34 dX10_best_147 ?_
                obtain ⟨c35, h36, h⟩ := h
                obtain ⟨h37, h⟩ := h
                refine xVIP (Qp := _) (rest := []) (As := []) hg (k_X3_wet (gL g) (gD g) c35 σ19 _ h) lv_X10_366 h36 h37 rfl rfl dX10_best_150 (cat8 (Nat.le_of_ble_eq_true rfl)) hrm ⟨Nat.le_of_ble_eq_true rfl, Nat.le_of_ble_eq_true rfl⟩ (fun x38 h => ?_)
                refine x_i2l hg dX10_best_153 ?_
                exact endL hend dX10_best_154 h
      · replace h := h.1 q13
        refine x_ldc2 hg cw_X10_362 dX10_best_72 ?_
        exact endL hend dX10_best_75 h
    · replace h := h.1 q9
      refine x_ldc2 hg cw_X10_362 dX10_best_53 ?_
      exact endL hend dX10_best_56 h
  have J45 : ∀ (v1 : Int32) (v2 : Int32) (v3 : Int32) (v4 : Int32) (σ : Sg), P_X10_best_B45 a0 v1 v2 v3 v4 σ Q → XJ g 45 [(0, va_rf (some a0)), (1, .int v1), (2, .int v2), (3, .int v3), (4, .int v4)] [] σ (0, 0) := by
    intro v1 v2 v3 v4 σ h
    unfold P_X10_best_B45 at h
    refine x_iconst (v := 0) hg dX10_best_45 (by decide) ?_
    refine x_sub [0, 1, 2, 3, 4] rfl ?_
    exact J46 _ _ _ _ _ _ h
  refine x_iload_n hg 1 dX10_best_0 rfl rfl ?_
  refine x_iconst (v := 0) hg dX10_best_1 (by decide) ?_
  refine x_iconst (v := 4) hg dX10_best_2 (by decide) ?_
  refine xSIP (Qp := _) (rest := []) (As := [.int v1, .int 0, .int 4]) hg (k_X10_within (gL g) (gD g) v1 0 4 σ _ h) ls_X10_83 rfl rfl dX10_best_3 (cat8 (Nat.le_of_ble_eq_true rfl)) hrm ⟨Nat.le_of_ble_eq_true rfl, Nat.le_of_ble_eq_true rfl⟩ (fun x1 h => ?_)
  refine x_if_eq (tgt := 45) hg dX10_best_6 (by decide) (fun q2 => ?_) (fun q2 => ?_)
  · replace h := h.1 q2
    refine x_sub [0, 1, 2, 3, 4] rfl ?_
    exact J45 _ _ _ _ _ h
  · replace h := h.2 q2
    refine x_iload_n hg 2 dX10_best_9 rfl rfl ?_
    refine x_iconst (v := 0) hg dX10_best_10 (by decide) ?_
    refine x_ldcw hg cw_X10_368 dX10_best_11 ?_
    refine xSIP (Qp := _) (rest := []) (As := [.int v2, .int 0, .int 99999]) hg (k_X10_within (gL g) (gD g) v2 0 99999 σ _ h) ls_X10_83 rfl rfl dX10_best_14 (cat8 (Nat.le_of_ble_eq_true rfl)) hrm ⟨Nat.le_of_ble_eq_true rfl, Nat.le_of_ble_eq_true rfl⟩ (fun x3 h => ?_)
    refine x_if_eq (tgt := 45) hg dX10_best_17 (by decide) (fun q4 => ?_) (fun q4 => ?_)
    · replace h := h.1 q4
      refine x_sub [0, 1, 2, 3, 4] rfl ?_
      exact J45 _ _ _ _ _ h
    · replace h := h.2 q4
      refine x_iload_n hg 3 dX10_best_20 rfl rfl ?_
      refine x_iconst (v := 0) hg dX10_best_21 (by decide) ?_
      refine x_sipush (v := 10000) hg dX10_best_22 (by decide) ?_
      refine xSIP (Qp := _) (rest := []) (As := [.int v3, .int 0, .int 10000]) hg (k_X10_within (gL g) (gD g) v3 0 10000 σ _ h) ls_X10_83 rfl rfl dX10_best_25 (cat8 (Nat.le_of_ble_eq_true rfl)) hrm ⟨Nat.le_of_ble_eq_true rfl, Nat.le_of_ble_eq_true rfl⟩ (fun x5 h => ?_)
      refine x_if_eq (tgt := 45) hg dX10_best_28 (by decide) (fun q6 => ?_) (fun q6 => ?_)
      · replace h := h.1 q6
        refine x_sub [0, 1, 2, 3, 4] rfl ?_
        exact J45 _ _ _ _ _ h
      · replace h := h.2 q6
        refine x_iload hg 4 dX10_best_31 rfl ?_
        refine x_iconst (v := 0) hg dX10_best_33 (by decide) ?_
        refine x_iconst (v := 4) hg dX10_best_34 (by decide) ?_
        refine xSIP (Qp := _) (rest := []) (As := [.int v4, .int 0, .int 4]) hg (k_X10_within (gL g) (gD g) v4 0 4 σ _ h) ls_X10_83 rfl rfl dX10_best_35 (cat8 (Nat.le_of_ble_eq_true rfl)) hrm ⟨Nat.le_of_ble_eq_true rfl, Nat.le_of_ble_eq_true rfl⟩ (fun x7 h => ?_)
        refine x_if_eq (tgt := 45) hg dX10_best_38 (by decide) (fun q8 => ?_) (fun q8 => ?_)
        · replace h := h.1 q8
          refine x_sub [0, 1, 2, 3, 4] rfl ?_
          exact J45 _ _ _ _ _ h
        · replace h := h.2 q8
          refine x_iconst (v := 1) hg dX10_best_41 (by decide) ?_
          refine x_goto (tgt := 46) hg dX10_best_42 (by decide) ?_
          refine x_sub [0, 1, 2, 3, 4] rfl ?_
          exact J46 _ _ _ _ _ _ h
def P_X10_helps (a0 : Nat) (v1 : Int32) (v2 : Int32) (σ : Sg) (Q : Int64 → Sg → Prop) : Prop :=
  sK σ a0 % 32 = 12 ∧ P_X10_cornerAt a0 v1 σ (fun r2 => (r2 = none → Q (-1) σ) ∧ (∀ c3 : Nat, r2 = some c3 → sK σ c3 % 32 = 4 ∧ (sR σ c3 5 = none → P_X10_cornerAt a0 v2 σ (fun r10 => (r10 = none → Q (-1) σ) ∧ (∀ c11 : Nat, r10 = some c11 → P_X10_prepareFlow a0 σ (fun _ σ15 => sK σ15 a0 % 32 = 12 ∧ ∃ c17 : Nat, sR σ15 a0 7 = some c17 ∧ sK σ15 c17 % 32 = 5 ∧ P_X3_run c17 0 σ15 (fun _ σ21 => sK σ21 a0 % 32 = 12 ∧ ∃ c23 : Nat, sR σ21 a0 7 = some c23 ∧ sK σ21 c23 % 32 = 5 ∧ P_X3_spiltAt c23 v2 σ21 (fun x26 => ∃ c27 : Nat, sR σ21 a0 7 = some c27 ∧ sK σ21 c27 % 32 = 5 ∧ P_X3_run c27 (1 <<< (v1 &&& 31)) σ21 (fun _ σ31 => sK σ31 a0 % 32 = 12 ∧ ∃ c33 : Nat, sR σ31 a0 7 = some c33 ∧ sK σ31 c33 % 32 = 5 ∧ P_X3_spiltAt c33 v2 σ31 (fun x36 => Q ((x26 - x36).toInt64) σ31)))))))) ∧ (∀ c7 : Nat, sR σ c3 5 = some c7 → Q (-1) σ)))
set_option maxHeartbeats 4000000 in
set_option maxRecDepth 100000 in
theorem k_X10_helps (l : Launch) (D : Dg) (a0 : Nat) (v1 : Int32) (v2 : Int32) (σ : Sg) (Q : Int64 → Sg → Prop) (h : P_X10_helps a0 v1 v2 σ Q) : Ctr l D yX10_helps cX10_helps 5 (some FieldType.long) 5 110 mkL [.ref a0, .int v1, .int v2] σ (0, 0) Q := by
  refine ctr_of (lv := [(0, va_rf (some a0)), (1, .int v1), (2, .int v2)]) (by decide) (by (exact Nat.le_of_ble_eq_true rfl)) (by (exact rfl)) (fun g hg hgL hgD hrm hgN hgI hend => ?_)
  subst hgD
  clear hgL
  unfold P_X10_helps at h
  refine x_aload_n hg 0 dX10_helps_0 rfl rfl ?_
  refine x_iload_n hg 1 dX10_helps_1 rfl rfl ?_
  obtain ⟨h1, h⟩ := h
  refine xVRP (Qp := _) (rest := []) (As := [.int v1]) hg (k_X10_cornerAt (gL g) (gD g) a0 v1 σ _ h) lv_X10_100 rfl h1 rfl rfl dX10_helps_2 (cat8 (Nat.le_of_ble_eq_true rfl)) hrm ⟨Nat.le_of_ble_eq_true rfl, Nat.le_of_ble_eq_true rfl⟩ (fun r2 h => ?_)
  refine x_astore_n (lv' := [(3, va_rf r2), (0, va_rf (some a0)), (1, .int v1), (2, .int v2)]) hg dX10_helps_5 rfl (by rw [hgN]; decide) rfl ?_
  refine x_aload_n hg 0 dX10_helps_6 rfl rfl ?_
  refine x_ifnull (tgt := 25) hg dX10_helps_7 (by decide) (fun h4 => ?_) (fun c3 h5 => ?_)
  · replace h := h.1 h4
    refine x_ldc2 hg cw_X10_362 dX10_helps_25 ?_
    exact endL hend dX10_helps_28 h
  · replace h := h.2 c3 h5
    refine x_aload_n hg 0 dX10_helps_10 rfl rfl ?_
    obtain ⟨h6, h⟩ := h
    refine x_getR hg fl_X10_110 rfl h5 h6 dX10_helps_11 ?_
    refine x_ifnonnull (tgt := 25) hg dX10_helps_14 (by decide) (fun c7 h9 => ?_) (fun h8 => ?_)
    · replace h := h.2 c7 h9
      refine x_ldc2 hg cw_X10_362 dX10_helps_25 ?_
      exact endL hend dX10_helps_28 h
    · replace h := h.1 h8
      refine x_aload_n hg 1 dX10_helps_17 rfl rfl ?_
      refine x_iload_n hg 3 dX10_helps_18 rfl rfl ?_
      refine xVRP (Qp := _) (rest := []) (As := [.int v2]) hg (k_X10_cornerAt (gL g) (gD g) a0 v2 σ _ h) lv_X10_100 rfl h1 rfl rfl dX10_helps_19 (cat8 (Nat.le_of_ble_eq_true rfl)) hrm ⟨Nat.le_of_ble_eq_true rfl, Nat.le_of_ble_eq_true rfl⟩ (fun r10 h => ?_)
      refine x_ifnonnull (tgt := 29) hg dX10_helps_22 (by decide) (fun c11 h13 => ?_) (fun h12 => ?_)
      · replace h := h.2 c11 h13
        refine x_aload_n hg 1 dX10_helps_29 rfl rfl ?_
        refine xVVW (Qm := _) (rest := []) (As := []) hg (k_X10_prepareFlow (gL g) (gD g) a0 σ _ h) lv_X10_318 rfl h1 rfl rfl dX10_helps_30 (cat8 (Nat.le_of_ble_eq_true rfl)) hrm ⟨Nat.le_of_ble_eq_true rfl, Nat.le_of_ble_eq_true rfl⟩ (fun u14 σ15 h => ?_)
        refine x_aload_n hg 1 dX10_helps_33 rfl rfl ?_
        obtain ⟨h16, h⟩ := h
        refine x_getR hg fl_X10_47 rfl rfl h16 dX10_helps_34 ?_
        refine x_iconst (v := 0) hg dX10_helps_37 (by decide) ?_
        obtain ⟨c17, h18, h⟩ := h
        obtain ⟨h19, h⟩ := h
        refine xVVW (Qm := _) (rest := []) (As := [.int 0]) hg (k_X3_run (gL g) (gD g) c17 0 σ15 _ h) lv_X10_321 h18 h19 rfl rfl dX10_helps_38 (cat8 (Nat.le_of_ble_eq_true rfl)) hrm ⟨Nat.le_of_ble_eq_true rfl, Nat.le_of_ble_eq_true rfl⟩ (fun u20 σ21 h => ?_)
        refine x_aload_n hg 1 dX10_helps_41 rfl rfl ?_
        obtain ⟨h22, h⟩ := h
        refine x_getR hg fl_X10_47 rfl rfl h22 dX10_helps_42 ?_
        refine x_iload_n hg 3 dX10_helps_45 rfl rfl ?_
        obtain ⟨c23, h24, h⟩ := h
        obtain ⟨h25, h⟩ := h
        refine xVIP (Qp := _) (rest := []) (As := [.int v2]) hg (k_X3_spiltAt (gL g) (gD g) c23 v2 σ21 _ h) lv_X10_380 h24 h25 rfl rfl dX10_helps_46 (cat8 (Nat.le_of_ble_eq_true rfl)) hrm ⟨Nat.le_of_ble_eq_true rfl, Nat.le_of_ble_eq_true rfl⟩ (fun x26 h => ?_)
        refine x_istore (lv' := [(4, .int x26), (3, va_rf r2), (0, va_rf (some a0)), (1, .int v1), (2, .int v2)]) hg dX10_helps_49 (by rw [hgN]; decide) (by cases r2 <;> rfl) ?_
        refine x_aload_n hg 2 dX10_helps_51 rfl rfl ?_
        refine x_getR hg fl_X10_47 rfl rfl h22 dX10_helps_52 ?_
        refine x_iconst (v := 1) hg dX10_helps_55 (by decide) ?_
        refine x_iload_n hg 3 dX10_helps_56 rfl rfl ?_
        refine x_ishl hg dX10_helps_57 ?_
        obtain ⟨c27, h28, h⟩ := h
        obtain ⟨h29, h⟩ := h
        refine xVVW (Qm := _) (rest := []) (As := [.int (1 <<< (v1 &&& 31))]) hg (k_X3_run (gL g) (gD g) c27 (1 <<< (v1 &&& 31)) σ21 _ h) lv_X10_321 h28 h29 rfl rfl dX10_helps_58 (cat8 (Nat.le_of_ble_eq_true rfl)) hrm ⟨Nat.le_of_ble_eq_true rfl, Nat.le_of_ble_eq_true rfl⟩ (fun u30 σ31 h => ?_)
        refine x_iload hg 0 dX10_helps_61 rfl ?_
        refine x_aload_n hg 2 dX10_helps_63 rfl rfl ?_
        obtain ⟨h32, h⟩ := h
        refine x_getR hg fl_X10_47 rfl rfl h32 dX10_helps_64 ?_
        refine x_iload_n hg 4 dX10_helps_67 rfl rfl ?_
        obtain ⟨c33, h34, h⟩ := h
        obtain ⟨h35, h⟩ := h
        refine xVIP (Qp := _) (rest := [.int x26]) (As := [.int v2]) hg (k_X3_spiltAt (gL g) (gD g) c33 v2 σ31 _ h) lv_X10_380 h34 h35 rfl rfl dX10_helps_68 (cat8 (Nat.le_of_ble_eq_true rfl)) hrm ⟨Nat.le_of_ble_eq_true rfl, Nat.le_of_ble_eq_true rfl⟩ (fun x36 h => ?_)
        refine x_isub hg dX10_helps_71 ?_
        refine x_i2l hg dX10_helps_72 ?_
        exact endL hend dX10_helps_73 h
      · replace h := h.1 h12
        refine x_ldc2 hg cw_X10_362 dX10_helps_25 ?_
        exact endL hend dX10_helps_28 h
def P_X10_stormOf (a0 : Nat) (v1 : Int32) (v2 : Int32) (σ : Sg) (Q : Int64 → Prop) : Prop :=
  sK σ a0 % 32 = 12 ∧ ∃ c2 : Nat, sR σ a0 2 = some c2 ∧ sK σ c2 % 32 = 1 ∧ P_Jx4a65c_size_8abf5 c2 σ (fun x5 => P_X10_within v1 0 (x5 - 1) σ (fun x6 => (x6 = 0 → Q (-1)) ∧ (¬ (x6 = 0) → ∃ c8 : Nat, sR σ a0 2 = some c8 ∧ sK σ c8 % 32 = 1 ∧ P_Jx4a65c_get_915e3 c8 v1 σ (fun r11 => ∃ c12 : Nat, r11 = some c12 ∧ sK σ c12 % 32 = 10 ∧ ∀ y15 : Int32, y15 = v2 → (y15 = 0 → Q ((sI σ c12 0).toInt64)) ∧ (¬ (y15 = 0) → (y15 = 1 → Q ((sI σ c12 1).toInt64)) ∧ (¬ (y15 = 1) → (y15 = 2 → Q ((sI σ c12 2).toInt64)) ∧ (¬ (y15 = 2) → (y15 = 3 → Q ((sI σ c12 3).toInt64)) ∧ (¬ (y15 = 3) → (y15 = 4 → Q ((sI σ c12 4).toInt64)) ∧ (¬ (y15 = 4) → Q (-1))))))))))
set_option maxHeartbeats 4000000 in
set_option maxRecDepth 100000 in
theorem k_X10_stormOf (l : Launch) (D : Dg) (a0 : Nat) (v1 : Int32) (v2 : Int32) (σ : Sg) (Q : Int64 → Prop) (h : P_X10_stormOf a0 v1 v2 σ Q) : Ctr l D yX10_stormOf cX10_stormOf 4 (some FieldType.long) 3 64 mkL [.ref a0, .int v1, .int v2] σ (0, 0) (fun r σ2 => Q r ∧ σ2 = σ) := by
  refine ctr_of (lv := [(0, va_rf (some a0)), (1, .int v1), (2, .int v2)]) (by decide) (by (exact Nat.le_of_ble_eq_true rfl)) (by (exact rfl)) (fun g hg hgL hgD hrm hgN hgI hend => ?_)
  subst hgD
  clear hgL
  unfold P_X10_stormOf at h
  refine x_iload_n hg 1 dX10_stormOf_0 rfl rfl ?_
  refine x_iconst (v := 0) hg dX10_stormOf_1 (by decide) ?_
  refine x_aload_n hg 0 dX10_stormOf_2 rfl rfl ?_
  obtain ⟨h1, h⟩ := h
  refine x_getR hg fl_X10_19 rfl rfl h1 dX10_stormOf_3 ?_
  obtain ⟨c2, h3, h⟩ := h
  obtain ⟨h4, h⟩ := h
  refine xVIP (Qp := _) (rest := [.int 0, .int v1]) (As := []) hg (k_Jx4a65c_size_8abf5 (gL g) (gD g) c2 σ _ h) lv_X10_87 h3 h4 rfl rfl dX10_stormOf_6 (cat8 (Nat.le_of_ble_eq_true rfl)) hrm ⟨Nat.le_of_ble_eq_true rfl, Nat.le_of_ble_eq_true rfl⟩ (fun x5 h => ?_)
  refine x_iconst (v := 1) hg dX10_stormOf_9 (by decide) ?_
  refine x_isub hg dX10_stormOf_10 ?_
  refine xSIP (Qp := _) (rest := []) (As := [.int v1, .int 0, .int (x5 - 1)]) hg (k_X10_within (gL g) (gD g) v1 0 (x5 - 1) σ _ h) ls_X10_83 rfl rfl dX10_stormOf_11 (cat8 (Nat.le_of_ble_eq_true rfl)) hrm ⟨Nat.le_of_ble_eq_true rfl, Nat.le_of_ble_eq_true rfl⟩ (fun x6 h => ?_)
  refine x_if_ne (tgt := 21) hg dX10_stormOf_14 (by decide) (fun q7 => ?_) (fun q7 => ?_)
  · replace h := h.2 q7
    refine x_aload_n hg 0 dX10_stormOf_21 rfl rfl ?_
    refine x_getR hg fl_X10_19 rfl rfl h1 dX10_stormOf_22 ?_
    refine x_iload_n hg 1 dX10_stormOf_25 rfl rfl ?_
    obtain ⟨c8, h9, h⟩ := h
    obtain ⟨h10, h⟩ := h
    refine xVRP (Qp := _) (rest := []) (As := [.int v1]) hg (k_Jx4a65c_get_915e3 (gL g) (gD g) c8 v1 σ _ h) lv_X10_232 h9 h10 rfl rfl dX10_stormOf_26 (cat8 (Nat.le_of_ble_eq_true rfl)) hrm ⟨Nat.le_of_ble_eq_true rfl, Nat.le_of_ble_eq_true rfl⟩ (fun r11 h => ?_)
    obtain ⟨c12, h13, h⟩ := h
    obtain ⟨h14, h⟩ := h
    refine x_cast (c := 10) hg (C := RX8) rfl (by decide) cl_X10_336 h13 h14 dX10_stormOf_29 ?_
    refine x_astore_n (lv' := [(3, va_rf r11), (0, va_rf (some a0)), (1, .int v1), (2, .int v2)]) hg dX10_stormOf_32 rfl (by rw [hgN]; decide) rfl ?_
    refine x_iload_n hg 3 dX10_stormOf_33 rfl rfl ?_
    refine x_nmI (fun y15 e16 => ?_)
    replace h := h y15 e16
    by_cases q34_0 : y15 = 0
    · replace h := h.1 q34_0
      refine x_tableIn (tgt := 68) hg dX10_stormOf_34 (by rw [q34_0]; decide) (by rw [q34_0]; decide) (by rw [q34_0]; rfl) (by decide) ?_
      refine x_aload_n hg 0 dX10_stormOf_68 rfl rfl ?_
      refine x_getI hg fl_X10_383 rfl h13 h14 dX10_stormOf_69 ?_
      refine x_i2l hg dX10_stormOf_72 ?_
      exact endL hend dX10_stormOf_73 ⟨h, rfl⟩
    · replace h := h.2 q34_0
      by_cases q34_1 : y15 = 1
      · replace h := h.1 q34_1
        refine x_tableIn (tgt := 74) hg dX10_stormOf_34 (by rw [q34_1]; decide) (by rw [q34_1]; decide) (by rw [q34_1]; rfl) (by decide) ?_
        refine x_aload_n hg 0 dX10_stormOf_74 rfl rfl ?_
        refine x_getI hg fl_X10_344 rfl h13 h14 dX10_stormOf_75 ?_
        refine x_i2l hg dX10_stormOf_78 ?_
        exact endL hend dX10_stormOf_79 ⟨h, rfl⟩
      · replace h := h.2 q34_1
        by_cases q34_2 : y15 = 2
        · replace h := h.1 q34_2
          refine x_tableIn (tgt := 80) hg dX10_stormOf_34 (by rw [q34_2]; decide) (by rw [q34_2]; decide) (by rw [q34_2]; rfl) (by decide) ?_
          refine x_aload_n hg 0 dX10_stormOf_80 rfl rfl ?_
          refine x_getI hg fl_X10_347 rfl h13 h14 dX10_stormOf_81 ?_
          refine x_i2l hg dX10_stormOf_84 ?_
          exact endL hend dX10_stormOf_85 ⟨h, rfl⟩
        · replace h := h.2 q34_2
          by_cases q34_3 : y15 = 3
          · replace h := h.1 q34_3
            refine x_tableIn (tgt := 86) hg dX10_stormOf_34 (by rw [q34_3]; decide) (by rw [q34_3]; decide) (by rw [q34_3]; rfl) (by decide) ?_
            refine x_aload_n hg 0 dX10_stormOf_86 rfl rfl ?_
            refine x_getI hg fl_X10_386 rfl h13 h14 dX10_stormOf_87 ?_
            refine x_i2l hg dX10_stormOf_90 ?_
            exact endL hend dX10_stormOf_91 ⟨h, rfl⟩
          · replace h := h.2 q34_3
            by_cases q34_4 : y15 = 4
            · replace h := h.1 q34_4
              refine x_tableIn (tgt := 92) hg dX10_stormOf_34 (by rw [q34_4]; decide) (by rw [q34_4]; decide) (by rw [q34_4]; rfl) (by decide) ?_
              refine x_aload_n hg 0 dX10_stormOf_92 rfl rfl ?_
              refine x_getI hg fl_X10_387 rfl h13 h14 dX10_stormOf_93 ?_
              refine x_i2l hg dX10_stormOf_96 ?_
              exact endL hend dX10_stormOf_97 ⟨h, rfl⟩
            · replace h := h.2 q34_4
              refine x_tableOut (tgt := 98) hg dX10_stormOf_34 (sw4_out q34_0 q34_1 q34_2 q34_3 q34_4) (by decide) ?_
              refine x_ldc2 hg cw_X10_362 dX10_stormOf_98 ?_
              exact endL hend dX10_stormOf_101 ⟨h, rfl⟩
  · replace h := h.1 q7
    refine x_ldc2 hg cw_X10_362 dX10_stormOf_17 ?_
    exact endL hend dX10_stormOf_20 ⟨h, rfl⟩
def P_X10_likeAhead_B111 (a0 : Nat) (v1 : Option Nat) (v2 : Int32) (v3 : Int64) (v5 : Option Nat) (v6 : Int64) (v8 : Int32) (σ : Sg) (Q : Option Nat → Prop) (K9 : (Option Nat) → Int64 → Int32 → Prop) : Prop :=
  ∀ x26 : Int32, x26 = v8 + 1 → K9 v5 v6 x26
def P_X10_likeAhead_B103 (a0 : Nat) (v1 : Option Nat) (v2 : Int32) (v3 : Int64) (v8 : Int32) (v9 : Option Nat) (v10 : Int64) (σ : Sg) (Q : Option Nat → Prop) (K9 : (Option Nat) → Int64 → Int32 → Prop) : Prop :=
  P_X10_likeAhead_B111 a0 v1 v2 v3 v9 v10 v8 σ Q K9
def P_X10_likeAhead_B83 (a0 : Nat) (v1 : Option Nat) (v2 : Int32) (v3 : Int64) (v5 : Option Nat) (v6 : Int64) (v8 : Int32) (v9 : Option Nat) (v10 : Int64) (w0 : Int32) (σ : Sg) (Q : Option Nat → Prop) (K9 : (Option Nat) → Int64 → Int32 → Prop) : Prop :=
  (w0 = 0 → P_X10_likeAhead_B111 a0 v1 v2 v3 v5 v6 v8 σ Q K9) ∧ (¬ (w0 = 0) → (v5 = none → P_X10_likeAhead_B103 a0 v1 v2 v3 v8 v9 v10 σ Q K9) ∧ (∀ c22 : Nat, v5 = some c22 → (v6 < v10 → P_X10_likeAhead_B111 a0 v1 v2 v3 v5 v6 v8 σ Q K9) ∧ (¬ (v6 < v10) → P_X10_likeAhead_B103 a0 v1 v2 v3 v8 v9 v10 σ Q K9)))
def P_X10_likeAhead_B82 (a0 : Nat) (v1 : Option Nat) (v2 : Int32) (v3 : Int64) (v5 : Option Nat) (v6 : Int64) (v8 : Int32) (v9 : Option Nat) (v10 : Int64) (σ : Sg) (Q : Option Nat → Prop) (K9 : (Option Nat) → Int64 → Int32 → Prop) : Prop :=
  P_X10_likeAhead_B83 a0 v1 v2 v3 v5 v6 v8 v9 v10 0 σ Q K9
def P_X10_likeAhead_L9b (a0 : Nat) (v1 : Option Nat) (v2 : Int32) (v3 : Int64) (v5 : Option Nat) (v6 : Int64) (v8 : Int32) (σ : Sg) (Q : Option Nat → Prop) (K9 : (Option Nat) → Int64 → Int32 → Prop) : Prop :=
  sK σ a0 % 32 = 12 ∧ ∃ c2 : Nat, sR σ a0 2 = some c2 ∧ sK σ c2 % 32 = 1 ∧ P_Jx4a65c_size_8abf5 c2 σ (fun x5 => (x5 ≤ v8 → Q v5) ∧ (¬ (x5 ≤ v8) → ∃ c7 : Nat, sR σ a0 2 = some c7 ∧ sK σ c7 % 32 = 1 ∧ P_Jx4a65c_get_915e3 c7 v8 σ (fun r10 => ∃ c11 : Nat, r10 = some c11 ∧ sK σ c11 % 32 = 10 ∧ ∃ c14 : Nat, v1 = some c14 ∧ sK σ c14 % 32 = 10 ∧ ∀ x17 : Int64, x17 = (if 0 < (((sI σ c11 1).toInt64) - ((sI σ c14 1).toInt64)) then (((sI σ c11 1).toInt64) - ((sI σ c14 1).toInt64)) else -(((sI σ c11 1).toInt64) - ((sI σ c14 1).toInt64))) → (v2 ≤ (sI σ c11 0) → P_X10_likeAhead_B82 a0 v1 v2 v3 v5 v6 v8 r10 x17 σ Q K9) ∧ (¬ (v2 ≤ (sI σ c11 0)) → ((v3 * ((sI σ c14 1).toInt64)) < (x17 * 100) → P_X10_likeAhead_B82 a0 v1 v2 v3 v5 v6 v8 r10 x17 σ Q K9) ∧ (¬ ((v3 * ((sI σ c14 1).toInt64)) < (x17 * 100)) → P_X10_likeAhead_B83 a0 v1 v2 v3 v5 v6 v8 r10 x17 1 σ Q K9)))))
def P_X10_likeAhead_L9 (a0 : Nat) (v1 : Option Nat) (v2 : Int32) (v3 : Int64) (v5 : Option Nat) (v6 : Int64) (v8 : Int32) (σ : Sg) (Q : Option Nat → Prop) : Prop :=
  ∃ I : Nat → (Option Nat) → Int64 → Int32 → Prop, (∃ n, I n v5 v6 v8) ∧ ∀ (n : Nat) (v5 : Option Nat) (v6 : Int64) (v8 : Int32), I n v5 v6 v8 → P_X10_likeAhead_L9b a0 v1 v2 v3 v5 v6 v8 σ Q (fun v5 v6 v8 => ∃ n', n' < n ∧ I n' v5 v6 v8)
def P_X10_likeAhead (a0 : Nat) (v1 : Option Nat) (v2 : Int32) (v3 : Int64) (σ : Sg) (Q : Option Nat → Prop) : Prop :=
  P_X10_likeAhead_L9 a0 v1 v2 v3 none 0 0 σ Q
set_option maxHeartbeats 4000000 in
set_option maxRecDepth 100000 in
theorem k_X10_likeAhead (l : Launch) (D : Dg) (a0 : Nat) (v1 : Option Nat) (v2 : Int32) (v3 : Int64) (σ : Sg) (Q : Option Nat → Prop) (h : P_X10_likeAhead a0 v1 v2 v3 σ Q) : Ctr l D yX10_likeAhead cX10_likeAhead 13 (some (FieldType.object "RainStreets$ToldStorm")) 3 64 mkR [.ref a0, va_rf v1, .int v2, .long v3] σ (0, 0) (fun r σ2 => Q r ∧ σ2 = σ) := by
  refine ctr_of (lv := [(0, va_rf (some a0)), (1, va_rf v1), (2, .int v2), (3, .long v3)]) (by decide) (by cases v1 <;> (exact Nat.le_of_ble_eq_true rfl)) (by cases v1 <;> (exact rfl)) (fun g hg hgL hgD hrm hgN hgI hend => ?_)
  subst hgD
  clear hgL
  unfold P_X10_likeAhead at h
  have J9 : ∀ (v1 : Option Nat) (v2 : Int32) (v3 : Int64) (v5 : Option Nat) (v6 : Int64) (v8 : Int32), P_X10_likeAhead_L9 a0 v1 v2 v3 v5 v6 v8 σ Q → XJ g 9 [(0, va_rf (some a0)), (1, va_rf v1), (2, .int v2), (3, .long v3), (5, va_rf v5), (6, .long v6), (8, .int v8)] [] σ (0, 0) := by
    intro v1 v2 v3 v5 v6 v8 h
    unfold P_X10_likeAhead_L9 at h
    obtain ⟨I9, ⟨n9, hI9⟩, hs9⟩ := h
    have key9 : ∀ (n : Nat), ∀ (v5 : Option Nat) (v6 : Int64) (v8 : Int32), I9 n v5 v6 v8 → XJ g 9 [(0, va_rf (some a0)), (1, va_rf v1), (2, .int v2), (3, .long v3), (5, va_rf v5), (6, .long v6), (8, .int v8)] [] σ (0, 0) := by
      intro n
      induction n using Nat.strongRecOn with
      | _ n ih9 =>
      intro v5 v6 v8 hI
      have h := hs9 n v5 v6 v8 hI
      clear hI hI9 hs9
      obtain ⟨K9, hK9⟩ : ∃ K : (Option Nat) → Int64 → Int32 → Prop, K = (fun v5 v6 v8 => ∃ n', n' < n ∧ I9 n' v5 v6 v8) := ⟨_, rfl⟩
      rw [← hK9] at h
      unfold P_X10_likeAhead_L9b at h
      have J111 : ∀ (v5 : Option Nat) (v6 : Int64) (v8 : Int32), P_X10_likeAhead_B111 a0 v1 v2 v3 v5 v6 v8 σ Q K9 → XJ g 111 [(0, va_rf (some a0)), (1, va_rf v1), (2, .int v2), (3, .long v3), (5, va_rf v5), (6, .long v6), (8, .int v8)] [] σ (0, 0) := by
        intro v5 v6 v8 h
        unfold P_X10_likeAhead_B111 at h
        obtain ⟨x26, e27⟩ : ∃ y : Int32, y = v8 + 1 := ⟨_, rfl⟩
        replace h := h x26 e27
        refine x_iinc (v := x26) (lv' := [(8, .int x26), (0, va_rf (some a0)), (1, va_rf v1), (2, .int v2), (3, .long v3), (5, va_rf v5), (6, .long v6)]) hg 6 dX10_likeAhead_111 rfl (by rw [e27]; rfl) (by rw [hgN]; decide) rfl ?_
        refine x_goto (tgt := 9) hg dX10_likeAhead_114 (by decide) ?_
        refine x_sub [1, 2, 3, 4, 5, 6, 0] rfl ?_
        subst hK9
        obtain ⟨n28, h29, h⟩ := h
        exact ih9 n28 h29 _ _ _ h
      have J103 : ∀ (v8 : Int32) (v9 : Option Nat) (v10 : Int64), P_X10_likeAhead_B103 a0 v1 v2 v3 v8 v9 v10 σ Q K9 → XJ g 103 [(0, va_rf (some a0)), (1, va_rf v1), (2, .int v2), (3, .long v3), (8, .int v8), (9, va_rf v9), (10, .long v10)] [] σ (0, 0) := by
        intro v8 v9 v10 h
        unfold P_X10_likeAhead_B103 at h
        refine x_aload hg 5 dX10_likeAhead_103 rfl ?_
        refine x_astore (lv' := [(5, va_rf v9), (0, va_rf (some a0)), (1, va_rf v1), (2, .int v2), (3, .long v3), (8, .int v8), (9, va_rf v9), (10, .long v10)]) hg dX10_likeAhead_105 (by rw [hgN]; decide) rfl ?_
        refine x_lload hg 7 dX10_likeAhead_107 rfl ?_
        refine x_lstore (lv' := [(6, .long v10), (5, va_rf v9), (0, va_rf (some a0)), (1, va_rf v1), (2, .int v2), (3, .long v3), (8, .int v8), (9, va_rf v9), (10, .long v10)]) hg dX10_likeAhead_109 (by rw [hgN]; decide) (by cases v9 <;> rfl) ?_
        refine x_sub [2, 3, 4, 5, 1, 0, 6] rfl ?_
        exact J111 _ _ _ h
      have J83 : ∀ (v5 : Option Nat) (v6 : Int64) (v8 : Int32) (v9 : Option Nat) (v10 : Int64) (w0 : Int32), P_X10_likeAhead_B83 a0 v1 v2 v3 v5 v6 v8 v9 v10 w0 σ Q K9 → XJ g 83 [(0, va_rf (some a0)), (1, va_rf v1), (2, .int v2), (3, .long v3), (5, va_rf v5), (6, .long v6), (8, .int v8), (9, va_rf v9), (10, .long v10)] [.int w0] σ (0, 0) := by
        intro v5 v6 v8 v9 v10 w0 h
        unfold P_X10_likeAhead_B83 at h
        refine x_istore (lv' := [(12, .int w0), (0, va_rf (some a0)), (1, va_rf v1), (2, .int v2), (3, .long v3), (5, va_rf v5), (6, .long v6), (8, .int v8), (9, va_rf v9), (10, .long v10)]) hg dX10_likeAhead_83 (by rw [hgN]; decide) rfl ?_
        refine x_iload hg 0 dX10_likeAhead_85 rfl ?_
        refine x_if_eq (tgt := 111) hg dX10_likeAhead_87 (by decide) (fun q21 => ?_) (fun q21 => ?_)
        · replace h := h.1 q21
          refine x_sub [1, 2, 3, 4, 5, 6, 7] rfl ?_
          exact J111 _ _ _ h
        · replace h := h.2 q21
          refine x_aload hg 5 dX10_likeAhead_90 rfl ?_
          refine x_ifnull (tgt := 103) hg dX10_likeAhead_92 (by decide) (fun h23 => ?_) (fun c22 h24 => ?_)
          · replace h := h.1 h23
            refine x_sub [1, 2, 3, 4, 7, 8, 9] rfl ?_
            exact J103 _ _ _ h
          · replace h := h.2 c22 h24
            refine x_lload hg 9 dX10_likeAhead_95 rfl ?_
            refine x_lload hg 6 dX10_likeAhead_97 rfl ?_
            refine x_lcmp hg dX10_likeAhead_99 ?_
            refine x_if_gt (tgt := 111) hg dX10_likeAhead_100 (by decide) (fun q25 => ?_) (fun q25 => ?_)
            · replace h := h.1 ((lg_cmp_gt _ _).mp q25)
              refine x_sub [1, 2, 3, 4, 5, 6, 7] rfl ?_
              exact J111 _ _ _ h
            · replace h := h.2 (fun z => q25 ((lg_cmp_gt _ _).mpr z))
              refine x_sub [1, 2, 3, 4, 7, 8, 9] rfl ?_
              exact J103 _ _ _ h
      have J82 : ∀ (v5 : Option Nat) (v6 : Int64) (v8 : Int32) (v9 : Option Nat) (v10 : Int64), P_X10_likeAhead_B82 a0 v1 v2 v3 v5 v6 v8 v9 v10 σ Q K9 → XJ g 82 [(0, va_rf (some a0)), (1, va_rf v1), (2, .int v2), (3, .long v3), (5, va_rf v5), (6, .long v6), (8, .int v8), (9, va_rf v9), (10, .long v10)] [] σ (0, 0) := by
        intro v5 v6 v8 v9 v10 h
        unfold P_X10_likeAhead_B82 at h
        refine x_iconst (v := 0) hg dX10_likeAhead_82 (by decide) ?_
        refine x_sub [0, 1, 2, 3, 4, 5, 6, 7, 8] rfl ?_
        exact J83 _ _ _ _ _ _ h
      refine x_iload hg 6 dX10_likeAhead_9 rfl ?_
      refine x_aload_n hg 0 dX10_likeAhead_11 rfl rfl ?_
      obtain ⟨h1, h⟩ := h
      refine x_getR hg fl_X10_19 rfl rfl h1 dX10_likeAhead_12 ?_
      obtain ⟨c2, h3, h⟩ := h
      obtain ⟨h4, h⟩ := h
      refine xVIP (Qp := _) (rest := [.int v8]) (As := []) hg (k_Jx4a65c_size_8abf5 (gL g) (gD g) c2 σ _ h) lv_X10_87 h3 h4 rfl rfl dX10_likeAhead_15 (cat8 (Nat.le_of_ble_eq_true rfl)) hrm ⟨Nat.le_of_ble_eq_true rfl, Nat.le_of_ble_eq_true rfl⟩ (fun x5 h => ?_)
      refine x_icmp_ge (tgt := 117) hg dX10_likeAhead_18 (by decide) (fun q6 => ?_) (fun q6 => ?_)
      · replace h := h.1 q6
        refine x_aload hg 4 dX10_likeAhead_117 rfl ?_
        exact endR hend rfl dX10_likeAhead_119 ⟨h, rfl⟩
      · replace h := h.2 q6
        refine x_aload_n hg 0 dX10_likeAhead_21 rfl rfl ?_
        refine x_getR hg fl_X10_19 rfl rfl h1 dX10_likeAhead_22 ?_
        refine x_iload hg 6 dX10_likeAhead_25 rfl ?_
        obtain ⟨c7, h8, h⟩ := h
        obtain ⟨h9, h⟩ := h
        refine xVRP (Qp := _) (rest := []) (As := [.int v8]) hg (k_Jx4a65c_get_915e3 (gL g) (gD g) c7 v8 σ _ h) lv_X10_232 h8 h9 rfl rfl dX10_likeAhead_27 (cat8 (Nat.le_of_ble_eq_true rfl)) hrm ⟨Nat.le_of_ble_eq_true rfl, Nat.le_of_ble_eq_true rfl⟩ (fun r10 h => ?_)
        obtain ⟨c11, h12, h⟩ := h
        obtain ⟨h13, h⟩ := h
        refine x_cast (c := 10) hg (C := RX8) rfl (by decide) cl_X10_336 h12 h13 dX10_likeAhead_30 ?_
        refine x_astore (lv' := [(9, va_rf r10), (0, va_rf (some a0)), (1, va_rf v1), (2, .int v2), (3, .long v3), (5, va_rf v5), (6, .long v6), (8, .int v8)]) hg dX10_likeAhead_33 (by rw [hgN]; decide) rfl ?_
        refine x_aload hg 0 dX10_likeAhead_35 rfl ?_
        refine x_getI hg fl_X10_344 rfl h12 h13 dX10_likeAhead_37 ?_
        refine x_i2l hg dX10_likeAhead_40 ?_
        refine x_aload_n hg 2 dX10_likeAhead_41 rfl rfl ?_
        obtain ⟨c14, h15, h⟩ := h
        obtain ⟨h16, h⟩ := h
        refine x_getI hg fl_X10_344 rfl h15 h16 dX10_likeAhead_42 ?_
        refine x_i2l hg dX10_likeAhead_45 ?_
        refine x_lsub hg dX10_likeAhead_46 ?_
        refine x_mabsL hg mm_X10_394 (cat8 (Nat.le_of_ble_eq_true rfl)) hrm ⟨Nat.le_of_ble_eq_true rfl, Nat.le_of_ble_eq_true rfl⟩ dX10_likeAhead_47 ?_
        refine x_nmJ (fun x17 e18 => ?_)
        replace h := h x17 e18
        refine x_lstore (lv' := [(10, .long x17), (9, va_rf r10), (0, va_rf (some a0)), (1, va_rf v1), (2, .int v2), (3, .long v3), (5, va_rf v5), (6, .long v6), (8, .int v8)]) hg dX10_likeAhead_50 (by rw [hgN]; decide) (by cases r10 <;> rfl) ?_
        refine x_aload hg 1 dX10_likeAhead_52 rfl ?_
        refine x_getI hg fl_X10_383 rfl h12 h13 dX10_likeAhead_54 ?_
        refine x_iload_n hg 4 dX10_likeAhead_57 rfl rfl ?_
        refine x_icmp_ge (tgt := 82) hg dX10_likeAhead_58 (by decide) (fun q19 => ?_) (fun q19 => ?_)
        · replace h := h.1 q19
          refine x_sub [2, 3, 4, 5, 6, 7, 8, 1, 0] rfl ?_
          exact J82 _ _ _ _ _ h
        · replace h := h.2 q19
          refine x_lload hg 0 dX10_likeAhead_61 rfl ?_
          refine x_ldc2 hg cw_X10_392 dX10_likeAhead_63 ?_
          refine x_lmul hg dX10_likeAhead_66 ?_
          refine x_lload_n hg 5 dX10_likeAhead_67 rfl rfl ?_
          refine x_aload_n hg 3 dX10_likeAhead_68 rfl rfl ?_
          refine x_getI hg fl_X10_344 rfl h15 h16 dX10_likeAhead_69 ?_
          refine x_i2l hg dX10_likeAhead_72 ?_
          refine x_lmul hg dX10_likeAhead_73 ?_
          refine x_lcmp hg dX10_likeAhead_74 ?_
          refine x_if_gt (tgt := 82) hg dX10_likeAhead_75 (by decide) (fun q20 => ?_) (fun q20 => ?_)
          · replace h := h.1 ((lg_cmp_gt _ _).mp q20)
            refine x_sub [2, 3, 4, 5, 6, 7, 8, 1, 0] rfl ?_
            exact J82 _ _ _ _ _ h
          · replace h := h.2 (fun z => q20 ((lg_cmp_gt _ _).mpr z))
            refine x_iconst (v := 1) hg dX10_likeAhead_78 (by decide) ?_
            refine x_goto (tgt := 83) hg dX10_likeAhead_79 (by decide) ?_
            refine x_sub [2, 3, 4, 5, 6, 7, 8, 1, 0] rfl ?_
            exact J83 _ _ _ _ _ _ h
    exact key9 n9 v5 v6 v8 hI9
  refine x_null hg dX10_likeAhead_0 ?_
  refine x_astore (lv' := [(5, va_rf none), (0, va_rf (some a0)), (1, va_rf v1), (2, .int v2), (3, .long v3)]) hg dX10_likeAhead_1 (by rw [hgN]; decide) rfl ?_
  refine x_lconst (v := 0) hg dX10_likeAhead_3 (by decide) ?_
  refine x_lstore (lv' := [(6, .long 0), (5, va_rf none), (0, va_rf (some a0)), (1, va_rf v1), (2, .int v2), (3, .long v3)]) hg dX10_likeAhead_4 (by rw [hgN]; decide) rfl ?_
  refine x_iconst (v := 0) hg dX10_likeAhead_6 (by decide) ?_
  refine x_istore (lv' := [(8, .int 0), (6, .long 0), (5, va_rf none), (0, va_rf (some a0)), (1, va_rf v1), (2, .int v2), (3, .long v3)]) hg dX10_likeAhead_7 (by rw [hgN]; decide) rfl ?_
  refine x_sub [3, 4, 5, 6, 2, 1, 0] rfl ?_
  exact J9 _ _ _ _ _ _ h
def P_X10_compare_B130 (a0 : Nat) (v1 : Int32) (v2 : Int32) (v3 : Int64) (v5 : Int32) (v6 : Int64) (v8 : Int64) (v10 : Int32) (σ : Sg) (Q : Int64 → Prop) (K51 : Int32 → Int64 → Int64 → Int32 → Prop) : Prop :=
  ∀ x42 : Int32, x42 = v10 + 1 → K51 v5 v6 v8 x42
def P_X10_compare_B98 (a0 : Nat) (v1 : Int32) (v2 : Int32) (v3 : Int64) (v5 : Int32) (v6 : Int64) (v8 : Int64) (v10 : Int32) (v11 : Option Nat) (w0 : Option Nat) (σ : Sg) (Q : Int64 → Prop) (K51 : Int32 → Int64 → Int64 → Int32 → Prop) : Prop :=
  (w0 = none → P_X10_compare_B130 a0 v1 v2 v3 v5 v6 v8 v10 σ Q K51) ∧ (∀ c29 : Nat, w0 = some c29 → ∀ x32 : Int32, x32 = v5 + 1 → sK σ c29 % 32 = 10 ∧ ∀ x35 : Int64, x35 = v6 + ((sI σ c29 2).toInt64) → ∃ c37 : Nat, v11 = some c37 ∧ sK σ c37 % 32 = 10 ∧ ∀ x40 : Int64, x40 = v8 + ((sI σ c37 2).toInt64) → P_X10_compare_B130 a0 v1 v2 v3 x32 x35 x40 v10 σ Q K51)
def P_X10_compare_L51b (a0 : Nat) (v1 : Int32) (v2 : Int32) (v3 : Int64) (v5 : Int32) (v6 : Int64) (v8 : Int64) (v10 : Int32) (σ : Sg) (Q : Int64 → Prop) (K51 : Int32 → Int64 → Int64 → Int32 → Prop) : Prop :=
  sK σ a0 % 32 = 12 ∧ ∃ c12 : Nat, sR σ a0 2 = some c12 ∧ sK σ c12 % 32 = 1 ∧ P_Jx4a65c_size_8abf5 c12 σ (fun x15 => (x15 ≤ v10 → ∀ y17 : Int32, y17 = v2 → (y17 = 0 → Q v5.toInt64) ∧ (¬ (y17 = 0) → (y17 = 1 → Q v6) ∧ (¬ (y17 = 1) → (y17 = 2 → Q v8) ∧ (¬ (y17 = 2) → (((v6 - v8) * 100) ≤ (v3 * v6) → Q 0) ∧ (¬ (((v6 - v8) * 100) ≤ (v3 * v6)) → Q 1))))) ∧ (¬ (x15 ≤ v10) → ∃ c20 : Nat, sR σ a0 2 = some c20 ∧ sK σ c20 % 32 = 1 ∧ P_Jx4a65c_get_915e3 c20 v10 σ (fun r23 => ∃ c24 : Nat, r23 = some c24 ∧ sK σ c24 % 32 = 10 ∧ (v1 ≤ (sI σ c24 0) → P_X10_likeAhead a0 r23 v1 v3 σ (fun r28 => P_X10_compare_B98 a0 v1 v2 v3 v5 v6 v8 v10 r23 r28 σ Q K51)) ∧ (¬ (v1 ≤ (sI σ c24 0)) → P_X10_compare_B98 a0 v1 v2 v3 v5 v6 v8 v10 r23 none σ Q K51))))
def P_X10_compare_L51 (a0 : Nat) (v1 : Int32) (v2 : Int32) (v3 : Int64) (v5 : Int32) (v6 : Int64) (v8 : Int64) (v10 : Int32) (σ : Sg) (Q : Int64 → Prop) : Prop :=
  ∃ I : Nat → Int32 → Int64 → Int64 → Int32 → Prop, (∃ n, I n v5 v6 v8 v10) ∧ ∀ (n : Nat) (v5 : Int32) (v6 : Int64) (v8 : Int64) (v10 : Int32), I n v5 v6 v8 v10 → P_X10_compare_L51b a0 v1 v2 v3 v5 v6 v8 v10 σ Q (fun v5 v6 v8 v10 => ∃ n', n' < n ∧ I n' v5 v6 v8 v10)
def P_X10_compare (a0 : Nat) (v1 : Int32) (v2 : Int32) (σ : Sg) (Q : Int64 → Prop) : Prop :=
  P_X10_within v1 0 3649 σ (fun x1 => (x1 = 0 → Q (-1)) ∧ (¬ (x1 = 0) → P_X10_within v2 0 3 σ (fun x3 => (x3 = 0 → Q (-1)) ∧ (¬ (x3 = 0) → sK σ a0 % 32 = 12 ∧ P_X10_lawOn a0 (sI σ a0 15) σ (fun r6 => ∃ c7 : Nat, r6 = some c7 ∧ sK σ c7 % 32 = 6 ∧ P_X4_value c7 12 σ (fun x10 => P_X10_compare_L51 a0 v1 v2 x10.toInt64 0 0 0 0 σ Q))))))
set_option maxHeartbeats 4000000 in
set_option maxRecDepth 100000 in
theorem k_X10_compare (l : Launch) (D : Dg) (a0 : Nat) (v1 : Int32) (v2 : Int32) (σ : Sg) (Q : Int64 → Prop) (h : P_X10_compare a0 v1 v2 σ Q) : Ctr l D yX10_compare cX10_compare 13 (some FieldType.long) 4 96 mkL [.ref a0, .int v1, .int v2] σ (0, 0) (fun r σ2 => Q r ∧ σ2 = σ) := by
  refine ctr_of (lv := [(0, va_rf (some a0)), (1, .int v1), (2, .int v2)]) (by decide) (by (exact Nat.le_of_ble_eq_true rfl)) (by (exact rfl)) (fun g hg hgL hgD hrm hgN hgI hend => ?_)
  subst hgD
  clear hgL
  unfold P_X10_compare at h
  have J51 : ∀ (v1 : Int32) (v2 : Int32) (v3 : Int64) (v5 : Int32) (v6 : Int64) (v8 : Int64) (v10 : Int32), P_X10_compare_L51 a0 v1 v2 v3 v5 v6 v8 v10 σ Q → XJ g 51 [(0, va_rf (some a0)), (1, .int v1), (2, .int v2), (3, .long v3), (5, .int v5), (6, .long v6), (8, .long v8), (10, .int v10)] [] σ (0, 0) := by
    intro v1 v2 v3 v5 v6 v8 v10 h
    unfold P_X10_compare_L51 at h
    obtain ⟨I51, ⟨n51, hI51⟩, hs51⟩ := h
    have key51 : ∀ (n : Nat), ∀ (v5 : Int32) (v6 : Int64) (v8 : Int64) (v10 : Int32), I51 n v5 v6 v8 v10 → XJ g 51 [(0, va_rf (some a0)), (1, .int v1), (2, .int v2), (3, .long v3), (5, .int v5), (6, .long v6), (8, .long v8), (10, .int v10)] [] σ (0, 0) := by
      intro n
      induction n using Nat.strongRecOn with
      | _ n ih51 =>
      intro v5 v6 v8 v10 hI
      have h := hs51 n v5 v6 v8 v10 hI
      clear hI hI51 hs51
      obtain ⟨K51, hK51⟩ : ∃ K : Int32 → Int64 → Int64 → Int32 → Prop, K = (fun v5 v6 v8 v10 => ∃ n', n' < n ∧ I51 n' v5 v6 v8 v10) := ⟨_, rfl⟩
      rw [← hK51] at h
      unfold P_X10_compare_L51b at h
      have J130 : ∀ (v5 : Int32) (v6 : Int64) (v8 : Int64) (v10 : Int32), P_X10_compare_B130 a0 v1 v2 v3 v5 v6 v8 v10 σ Q K51 → XJ g 130 [(0, va_rf (some a0)), (1, .int v1), (2, .int v2), (3, .long v3), (5, .int v5), (6, .long v6), (8, .long v8), (10, .int v10)] [] σ (0, 0) := by
        intro v5 v6 v8 v10 h
        unfold P_X10_compare_B130 at h
        obtain ⟨x42, e43⟩ : ∃ y : Int32, y = v10 + 1 := ⟨_, rfl⟩
        replace h := h x42 e43
        refine x_iinc (v := x42) (lv' := [(10, .int x42), (0, va_rf (some a0)), (1, .int v1), (2, .int v2), (3, .long v3), (5, .int v5), (6, .long v6), (8, .long v8)]) hg 7 dX10_compare_130 rfl (by rw [e43]; rfl) (by rw [hgN]; decide) rfl ?_
        refine x_goto (tgt := 51) hg dX10_compare_133 (by decide) ?_
        refine x_sub [1, 2, 3, 4, 5, 6, 7, 0] rfl ?_
        subst hK51
        obtain ⟨n44, h45, h⟩ := h
        exact ih51 n44 h45 _ _ _ _ h
      have J98 : ∀ (v5 : Int32) (v6 : Int64) (v8 : Int64) (v10 : Int32) (v11 : Option Nat) (w0 : Option Nat), P_X10_compare_B98 a0 v1 v2 v3 v5 v6 v8 v10 v11 w0 σ Q K51 → XJ g 98 [(0, va_rf (some a0)), (1, .int v1), (2, .int v2), (3, .long v3), (5, .int v5), (6, .long v6), (8, .long v8), (10, .int v10), (11, va_rf v11)] [va_rf w0] σ (0, 0) := by
        intro v5 v6 v8 v10 v11 w0 h
        unfold P_X10_compare_B98 at h
        refine x_astore (lv' := [(12, va_rf w0), (0, va_rf (some a0)), (1, .int v1), (2, .int v2), (3, .long v3), (5, .int v5), (6, .long v6), (8, .long v8), (10, .int v10), (11, va_rf v11)]) hg dX10_compare_98 (by rw [hgN]; decide) (by cases v11 <;> rfl) ?_
        refine x_aload hg 0 dX10_compare_100 rfl ?_
        refine x_ifnull (tgt := 130) hg dX10_compare_102 (by decide) (fun h30 => ?_) (fun c29 h31 => ?_)
        · replace h := h.1 h30
          refine x_sub [1, 2, 3, 4, 5, 6, 7, 8] rfl ?_
          exact J130 _ _ _ _ h
        · replace h := h.2 c29 h31
          obtain ⟨x32, e33⟩ : ∃ y : Int32, y = v5 + 1 := ⟨_, rfl⟩
          replace h := h x32 e33
          refine x_iinc (v := x32) (lv' := [(5, .int x32), (12, va_rf w0), (0, va_rf (some a0)), (1, .int v1), (2, .int v2), (3, .long v3), (6, .long v6), (8, .long v8), (10, .int v10), (11, va_rf v11)]) hg 5 dX10_compare_105 rfl (by rw [e33]; rfl) (by rw [hgN]; decide) rfl ?_
          refine x_lload hg 6 dX10_compare_108 rfl ?_
          refine x_aload hg 1 dX10_compare_110 rfl ?_
          obtain ⟨h34, h⟩ := h
          refine x_getI hg fl_X10_347 rfl h31 h34 dX10_compare_112 ?_
          refine x_i2l hg dX10_compare_115 ?_
          refine x_ladd hg dX10_compare_116 ?_
          refine x_nmJ (fun x35 e36 => ?_)
          replace h := h x35 e36
          refine x_lstore (lv' := [(6, .long x35), (5, .int x32), (12, va_rf w0), (0, va_rf (some a0)), (1, .int v1), (2, .int v2), (3, .long v3), (8, .long v8), (10, .int v10), (11, va_rf v11)]) hg dX10_compare_117 (by rw [hgN]; decide) rfl ?_
          refine x_lload hg 7 dX10_compare_119 rfl ?_
          refine x_aload hg 9 dX10_compare_121 rfl ?_
          obtain ⟨c37, h38, h⟩ := h
          obtain ⟨h39, h⟩ := h
          refine x_getI hg fl_X10_347 rfl h38 h39 dX10_compare_123 ?_
          refine x_i2l hg dX10_compare_126 ?_
          refine x_ladd hg dX10_compare_127 ?_
          refine x_nmJ (fun x40 e41 => ?_)
          replace h := h x40 e41
          refine x_lstore (lv' := [(8, .long x40), (6, .long x35), (5, .int x32), (12, va_rf w0), (0, va_rf (some a0)), (1, .int v1), (2, .int v2), (3, .long v3), (10, .int v10), (11, va_rf v11)]) hg dX10_compare_128 (by rw [hgN]; decide) rfl ?_
          refine x_sub [4, 5, 6, 7, 2, 1, 0, 8] rfl ?_
          exact J130 _ _ _ _ h
      refine x_iload hg 7 dX10_compare_51 rfl ?_
      refine x_aload_n hg 0 dX10_compare_53 rfl rfl ?_
      obtain ⟨h11, h⟩ := h
      refine x_getR hg fl_X10_19 rfl rfl h11 dX10_compare_54 ?_
      obtain ⟨c12, h13, h⟩ := h
      obtain ⟨h14, h⟩ := h
      refine xVIP (Qp := _) (rest := [.int v10]) (As := []) hg (k_Jx4a65c_size_8abf5 (gL g) (gD g) c12 σ _ h) lv_X10_87 h13 h14 rfl rfl dX10_compare_57 (cat8 (Nat.le_of_ble_eq_true rfl)) hrm ⟨Nat.le_of_ble_eq_true rfl, Nat.le_of_ble_eq_true rfl⟩ (fun x15 h => ?_)
      refine x_icmp_ge (tgt := 136) hg dX10_compare_60 (by decide) (fun q16 => ?_) (fun q16 => ?_)
      · replace h := h.1 q16
        refine x_iload_n hg 2 dX10_compare_136 rfl rfl ?_
        refine x_nmI (fun y17 e18 => ?_)
        replace h := h y17 e18
        by_cases q137_0 : y17 = 0
        · replace h := h.1 q137_0
          refine x_tableIn (tgt := 164) hg dX10_compare_137 (by rw [q137_0]; decide) (by rw [q137_0]; decide) (by rw [q137_0]; rfl) (by decide) ?_
          refine x_iload hg 4 dX10_compare_164 rfl ?_
          refine x_i2l hg dX10_compare_166 ?_
          exact endL hend dX10_compare_167 ⟨h, rfl⟩
        · replace h := h.2 q137_0
          by_cases q137_1 : y17 = 1
          · replace h := h.1 q137_1
            refine x_tableIn (tgt := 168) hg dX10_compare_137 (by rw [q137_1]; decide) (by rw [q137_1]; decide) (by rw [q137_1]; rfl) (by decide) ?_
            refine x_lload hg 5 dX10_compare_168 rfl ?_
            exact endL hend dX10_compare_170 ⟨h, rfl⟩
          · replace h := h.2 q137_1
            by_cases q137_2 : y17 = 2
            · replace h := h.1 q137_2
              refine x_tableIn (tgt := 171) hg dX10_compare_137 (by rw [q137_2]; decide) (by rw [q137_2]; decide) (by rw [q137_2]; rfl) (by decide) ?_
              refine x_lload hg 6 dX10_compare_171 rfl ?_
              exact endL hend dX10_compare_173 ⟨h, rfl⟩
            · replace h := h.2 q137_2
              refine x_tableOut (tgt := 174) hg dX10_compare_137 (sw2_out q137_0 q137_1 q137_2) (by decide) ?_
              refine x_lload hg 5 dX10_compare_174 rfl ?_
              refine x_lload hg 6 dX10_compare_176 rfl ?_
              refine x_lsub hg dX10_compare_178 ?_
              refine x_ldc2 hg cw_X10_392 dX10_compare_179 ?_
              refine x_lmul hg dX10_compare_182 ?_
              refine x_lload_n hg 3 dX10_compare_183 rfl rfl ?_
              refine x_lload hg 5 dX10_compare_184 rfl ?_
              refine x_lmul hg dX10_compare_186 ?_
              refine x_lcmp hg dX10_compare_187 ?_
              refine x_if_le (tgt := 195) hg dX10_compare_188 (by decide) (fun q19 => ?_) (fun q19 => ?_)
              · replace h := h.1 ((lg_cmp_le _ _).mp q19)
                refine x_lconst (v := 0) hg dX10_compare_195 (by decide) ?_
                exact endL hend dX10_compare_196 ⟨h, rfl⟩
              · replace h := h.2 (fun z => q19 ((lg_cmp_le _ _).mpr z))
                refine x_lconst (v := 1) hg dX10_compare_191 (by decide) ?_
                refine x_goto (tgt := 196) hg dX10_compare_192 (by decide) ?_
                exact endL hend dX10_compare_196 ⟨h, rfl⟩
      · replace h := h.2 q16
        refine x_aload_n hg 0 dX10_compare_63 rfl rfl ?_
        refine x_getR hg fl_X10_19 rfl rfl h11 dX10_compare_64 ?_
        refine x_iload hg 7 dX10_compare_67 rfl ?_
        obtain ⟨c20, h21, h⟩ := h
        obtain ⟨h22, h⟩ := h
        refine xVRP (Qp := _) (rest := []) (As := [.int v10]) hg (k_Jx4a65c_get_915e3 (gL g) (gD g) c20 v10 σ _ h) lv_X10_232 h21 h22 rfl rfl dX10_compare_69 (cat8 (Nat.le_of_ble_eq_true rfl)) hrm ⟨Nat.le_of_ble_eq_true rfl, Nat.le_of_ble_eq_true rfl⟩ (fun r23 h => ?_)
        obtain ⟨c24, h25, h⟩ := h
        obtain ⟨h26, h⟩ := h
        refine x_cast (c := 10) hg (C := RX8) rfl (by decide) cl_X10_336 h25 h26 dX10_compare_72 ?_
        refine x_astore (lv' := [(11, va_rf r23), (0, va_rf (some a0)), (1, .int v1), (2, .int v2), (3, .long v3), (5, .int v5), (6, .long v6), (8, .long v8), (10, .int v10)]) hg dX10_compare_75 (by rw [hgN]; decide) rfl ?_
        refine x_aload hg 0 dX10_compare_77 rfl ?_
        refine x_getI hg fl_X10_383 rfl h25 h26 dX10_compare_79 ?_
        refine x_iload_n hg 2 dX10_compare_82 rfl rfl ?_
        refine x_icmp_ge (tgt := 90) hg dX10_compare_83 (by decide) (fun q27 => ?_) (fun q27 => ?_)
        · replace h := h.1 q27
          refine x_aload_n hg 1 dX10_compare_90 rfl rfl ?_
          refine x_aload hg 0 dX10_compare_91 rfl ?_
          refine x_iload_n hg 2 dX10_compare_93 rfl rfl ?_
          refine x_lload_n hg 4 dX10_compare_94 rfl rfl ?_
          refine xVRP (Qp := _) (rest := []) (As := [va_rf r23, .int v1, .long v3]) hg (k_X10_likeAhead (gL g) (gD g) a0 r23 v1 v3 σ _ h) lv_X10_388 rfl h11 rfl rfl dX10_compare_95 (cat8 (Nat.le_of_ble_eq_true rfl)) hrm ⟨Nat.le_of_ble_eq_true rfl, Nat.le_of_ble_eq_true rfl⟩ (fun r28 h => ?_)
          refine x_sub [1, 2, 3, 4, 5, 6, 7, 8, 0] rfl ?_
          exact J98 _ _ _ _ _ _ h
        · replace h := h.2 q27
          refine x_null hg dX10_compare_86 ?_
          refine x_goto (tgt := 98) hg dX10_compare_87 (by decide) ?_
          refine x_sub [1, 2, 3, 4, 5, 6, 7, 8, 0] rfl ?_
          exact J98 _ _ _ _ _ _ h
    exact key51 n51 v5 v6 v8 v10 hI51
  refine x_iload_n hg 1 dX10_compare_0 rfl rfl ?_
  refine x_iconst (v := 0) hg dX10_compare_1 (by decide) ?_
  refine x_sipush (v := 3649) hg dX10_compare_2 (by decide) ?_
  refine xSIP (Qp := _) (rest := []) (As := [.int v1, .int 0, .int 3649]) hg (k_X10_within (gL g) (gD g) v1 0 3649 σ _ h) ls_X10_83 rfl rfl dX10_compare_5 (cat8 (Nat.le_of_ble_eq_true rfl)) hrm ⟨Nat.le_of_ble_eq_true rfl, Nat.le_of_ble_eq_true rfl⟩ (fun x1 h => ?_)
  refine x_if_eq (tgt := 20) hg dX10_compare_8 (by decide) (fun q2 => ?_) (fun q2 => ?_)
  · replace h := h.1 q2
    refine x_ldc2 hg cw_X10_362 dX10_compare_20 ?_
    exact endL hend dX10_compare_23 ⟨h, rfl⟩
  · replace h := h.2 q2
    refine x_iload_n hg 2 dX10_compare_11 rfl rfl ?_
    refine x_iconst (v := 0) hg dX10_compare_12 (by decide) ?_
    refine x_iconst (v := 3) hg dX10_compare_13 (by decide) ?_
    refine xSIP (Qp := _) (rest := []) (As := [.int v2, .int 0, .int 3]) hg (k_X10_within (gL g) (gD g) v2 0 3 σ _ h) ls_X10_83 rfl rfl dX10_compare_14 (cat8 (Nat.le_of_ble_eq_true rfl)) hrm ⟨Nat.le_of_ble_eq_true rfl, Nat.le_of_ble_eq_true rfl⟩ (fun x3 h => ?_)
    refine x_if_ne (tgt := 24) hg dX10_compare_17 (by decide) (fun q4 => ?_) (fun q4 => ?_)
    · replace h := h.2 q4
      refine x_aload_n hg 0 dX10_compare_24 rfl rfl ?_
      refine x_aload_n hg 0 dX10_compare_25 rfl rfl ?_
      obtain ⟨h5, h⟩ := h
      refine x_getI hg fl_X10_120 rfl rfl h5 dX10_compare_26 ?_
      refine xVRP (Qp := _) (rest := []) (As := [.int (sI σ a0 15)]) hg (k_X10_lawOn (gL g) (gD g) a0 (sI σ a0 15) σ _ h) lv_X10_123 rfl h5 rfl rfl dX10_compare_29 (cat8 (Nat.le_of_ble_eq_true rfl)) hrm ⟨Nat.le_of_ble_eq_true rfl, Nat.le_of_ble_eq_true rfl⟩ (fun r6 h => ?_)
      refine x_bipush (v := 12) hg dX10_compare_32 (by decide) ?_
      obtain ⟨c7, h8, h⟩ := h
      obtain ⟨h9, h⟩ := h
      refine xVIP (Qp := _) (rest := []) (As := [.int 12]) hg (k_X4_value (gL g) (gD g) c7 12 σ _ h) lv_X10_127 h8 h9 rfl rfl dX10_compare_34 (cat8 (Nat.le_of_ble_eq_true rfl)) hrm ⟨Nat.le_of_ble_eq_true rfl, Nat.le_of_ble_eq_true rfl⟩ (fun x10 h => ?_)
      refine x_i2l hg dX10_compare_37 ?_
      refine x_lstore_n (lv' := [(3, .long x10.toInt64), (0, va_rf (some a0)), (1, .int v1), (2, .int v2)]) hg dX10_compare_38 rfl (by rw [hgN]; decide) rfl ?_
      refine x_iconst (v := 0) hg dX10_compare_39 (by decide) ?_
      refine x_istore (lv' := [(5, .int 0), (3, .long x10.toInt64), (0, va_rf (some a0)), (1, .int v1), (2, .int v2)]) hg dX10_compare_40 (by rw [hgN]; decide) rfl ?_
      refine x_lconst (v := 0) hg dX10_compare_42 (by decide) ?_
      refine x_lstore (lv' := [(6, .long 0), (5, .int 0), (3, .long x10.toInt64), (0, va_rf (some a0)), (1, .int v1), (2, .int v2)]) hg dX10_compare_43 (by rw [hgN]; decide) rfl ?_
      refine x_lconst (v := 0) hg dX10_compare_45 (by decide) ?_
      refine x_lstore (lv' := [(8, .long 0), (6, .long 0), (5, .int 0), (3, .long x10.toInt64), (0, va_rf (some a0)), (1, .int v1), (2, .int v2)]) hg dX10_compare_46 (by rw [hgN]; decide) rfl ?_
      refine x_iconst (v := 0) hg dX10_compare_48 (by decide) ?_
      refine x_istore (lv' := [(10, .int 0), (8, .long 0), (6, .long 0), (5, .int 0), (3, .long x10.toInt64), (0, va_rf (some a0)), (1, .int v1), (2, .int v2)]) hg dX10_compare_49 (by rw [hgN]; decide) rfl ?_
      refine x_sub [5, 6, 7, 4, 3, 2, 1, 0] rfl ?_
      exact J51 _ _ _ _ _ _ _ h
    · replace h := h.1 q4
      refine x_ldc2 hg cw_X10_362 dX10_compare_20 ?_
      exact endL hend dX10_compare_23 ⟨h, rfl⟩
def P_X10_look (a0 : Nat) (v1 : Int32) (v2 : Int32) (σ : Sg) (Q : Int32 → Sg → Prop) : Prop :=
  sK σ a0 % 32 = 12 ∧ P_X10_bedAt a0 v1 σ (fun r2 => (r2 = none → Q (-1) σ) ∧ (∀ c3 : Nat, r2 = some c3 → P_X10_within v2 0 3 σ (fun x6 => (x6 = 0 → Q (-1) σ) ∧ (¬ (x6 = 0) → sK σ c3 % 32 = 2 ∧ ∀ σ9 : Sg, σ9 = pI σ c3 10 v2 → ∀ σ12 : Sg, σ12 = pI σ9 a0 16 ((sI σ9 a0 16) + 1) → Q (sI σ12 a0 16) σ12))))
set_option maxHeartbeats 4000000 in
set_option maxRecDepth 100000 in
theorem k_X10_look (l : Launch) (D : Dg) (a0 : Nat) (v1 : Int32) (v2 : Int32) (σ : Sg) (Q : Int32 → Sg → Prop) (h : P_X10_look a0 v1 v2 σ Q) : Ctr l D yX10_look cX10_look 4 (some FieldType.int) 5 107 mkI [.ref a0, .int v1, .int v2] σ (0, 0) Q := by
  refine ctr_of (lv := [(0, va_rf (some a0)), (1, .int v1), (2, .int v2)]) (by decide) (by (exact Nat.le_of_ble_eq_true rfl)) (by (exact rfl)) (fun g hg hgL hgD hrm hgN hgI hend => ?_)
  subst hgD
  clear hgL
  unfold P_X10_look at h
  refine x_aload_n hg 0 dX10_look_0 rfl rfl ?_
  refine x_iload_n hg 1 dX10_look_1 rfl rfl ?_
  obtain ⟨h1, h⟩ := h
  refine xVRP (Qp := _) (rest := []) (As := [.int v1]) hg (k_X10_bedAt (gL g) (gD g) a0 v1 σ _ h) lv_X10_136 rfl h1 rfl rfl dX10_look_2 (cat8 (Nat.le_of_ble_eq_true rfl)) hrm ⟨Nat.le_of_ble_eq_true rfl, Nat.le_of_ble_eq_true rfl⟩ (fun r2 h => ?_)
  refine x_astore_n (lv' := [(3, va_rf r2), (0, va_rf (some a0)), (1, .int v1), (2, .int v2)]) hg dX10_look_5 rfl (by rw [hgN]; decide) rfl ?_
  refine x_aload_n hg 0 dX10_look_6 rfl rfl ?_
  refine x_ifnull (tgt := 19) hg dX10_look_7 (by decide) (fun h4 => ?_) (fun c3 h5 => ?_)
  · replace h := h.1 h4
    refine x_iconst (v := (-1)) hg dX10_look_19 (by decide) ?_
    exact endI hend rfl dX10_look_20 h
  · replace h := h.2 c3 h5
    refine x_iload_n hg 3 dX10_look_10 rfl rfl ?_
    refine x_iconst (v := 0) hg dX10_look_11 (by decide) ?_
    refine x_iconst (v := 3) hg dX10_look_12 (by decide) ?_
    refine xSIP (Qp := _) (rest := []) (As := [.int v2, .int 0, .int 3]) hg (k_X10_within (gL g) (gD g) v2 0 3 σ _ h) ls_X10_83 rfl rfl dX10_look_13 (cat8 (Nat.le_of_ble_eq_true rfl)) hrm ⟨Nat.le_of_ble_eq_true rfl, Nat.le_of_ble_eq_true rfl⟩ (fun x6 h => ?_)
    refine x_if_ne (tgt := 21) hg dX10_look_16 (by decide) (fun q7 => ?_) (fun q7 => ?_)
    · replace h := h.2 q7
      refine x_aload_n hg 0 dX10_look_21 rfl rfl ?_
      refine x_iload_n hg 3 dX10_look_22 rfl rfl ?_
      obtain ⟨h8, h⟩ := h
      refine x_putI hg fw_X10_214 (fun z => nomatch z) h5 h8 dX10_look_23 ?_
      refine x_nmS (fun σ9 e10 => ?_)
      replace h := h σ9 e10
      have E11 : sK σ9 = sK σ := by rw [e10]; rfl
      refine x_aload_n hg 1 dX10_look_26 rfl rfl ?_
      refine x_dup hg dX10_look_27 rfl ?_
      refine x_getI hg fl_X10_398 rfl rfl (kq E11 h1) dX10_look_28 ?_
      refine x_iconst (v := 1) hg dX10_look_31 (by decide) ?_
      refine x_iadd hg dX10_look_32 ?_
      refine x_putI hg fw_X10_398 (fun z => nomatch z) rfl (kq E11 h1) dX10_look_33 ?_
      refine x_nmS (fun σ12 e13 => ?_)
      replace h := h σ12 e13
      have E14 : sK σ12 = sK σ9 := by rw [e13]; rfl
      refine x_aload_n hg 1 dX10_look_36 rfl rfl ?_
      refine x_getI hg fl_X10_398 rfl rfl (kq E14 (kq E11 h1)) dX10_look_37 ?_
      exact endI hend rfl dX10_look_40 h
    · replace h := h.1 q7
      refine x_iconst (v := (-1)) hg dX10_look_19 (by decide) ?_
      exact endI hend rfl dX10_look_20 h
def P_X10_looksOf_B60 (a0 : Nat) (v1 : Int32) (v3 : Int32) (w0 : Int32) (w1 : Int32) (σ : Sg) (Q : Int32 → Prop) (K4 : Int32 → Int32 → Prop) : Prop :=
  ∀ x22 : Int32, x22 = w0 + w1 → ∀ x24 : Int32, x24 = v3 + 1 → K4 x22 x24
def P_X10_looksOf_B59 (a0 : Nat) (v1 : Int32) (v3 : Int32) (w0 : Int32) (σ : Sg) (Q : Int32 → Prop) (K4 : Int32 → Int32 → Prop) : Prop :=
  P_X10_looksOf_B60 a0 v1 v3 w0 0 σ Q K4
def P_X10_looksOf_L4b (a0 : Nat) (v1 : Int32) (v2 : Int32) (v3 : Int32) (σ : Sg) (Q : Int32 → Prop) (K4 : Int32 → Int32 → Prop) : Prop :=
  sK σ a0 % 32 = 12 ∧ ∃ c2 : Nat, sR σ a0 0 = some c2 ∧ sK σ c2 % 32 = 1 ∧ P_Jx4a65c_size_8abf5 c2 σ (fun x5 => (x5 ≤ v3 → Q v2) ∧ (¬ (x5 ≤ v3) → ∃ c7 : Nat, sR σ a0 0 = some c7 ∧ sK σ c7 % 32 = 1 ∧ P_Jx4a65c_get_915e3 c7 v3 σ (fun r10 => ∃ c11 : Nat, r10 = some c11 ∧ sK σ c11 % 32 = 4 ∧ ∀ r14 : Option Nat, r14 = sR σ c11 5 → (r14 = none → P_X10_looksOf_B59 a0 v1 v3 v2 σ Q K4) ∧ (∀ c16 : Nat, r14 = some c16 → sK σ c16 % 32 = 2 ∧ ((sI σ c16 0) = v1 → ((sI σ c16 10) = (-1) → P_X10_looksOf_B59 a0 v1 v3 v2 σ Q K4) ∧ (¬ ((sI σ c16 10) = (-1)) → P_X10_looksOf_B60 a0 v1 v3 v2 1 σ Q K4)) ∧ (¬ ((sI σ c16 0) = v1) → P_X10_looksOf_B59 a0 v1 v3 v2 σ Q K4)))))
def P_X10_looksOf_L4 (a0 : Nat) (v1 : Int32) (v2 : Int32) (v3 : Int32) (σ : Sg) (Q : Int32 → Prop) : Prop :=
  ∃ I : Nat → Int32 → Int32 → Prop, (∃ n, I n v2 v3) ∧ ∀ (n : Nat) (v2 : Int32) (v3 : Int32), I n v2 v3 → P_X10_looksOf_L4b a0 v1 v2 v3 σ Q (fun v2 v3 => ∃ n', n' < n ∧ I n' v2 v3)
def P_X10_looksOf (a0 : Nat) (v1 : Int32) (σ : Sg) (Q : Int32 → Prop) : Prop :=
  P_X10_looksOf_L4 a0 v1 0 0 σ Q
set_option maxHeartbeats 4000000 in
set_option maxRecDepth 100000 in
theorem k_X10_looksOf (l : Launch) (D : Dg) (a0 : Nat) (v1 : Int32) (σ : Sg) (Q : Int32 → Prop) (h : P_X10_looksOf a0 v1 σ Q) : Ctr l D yX10_looksOf cX10_looksOf 5 (some FieldType.int) 3 64 mkI [.ref a0, .int v1] σ (0, 0) (fun r σ2 => Q r ∧ σ2 = σ) := by
  refine ctr_of (lv := [(0, va_rf (some a0)), (1, .int v1)]) (by decide) (by (exact Nat.le_of_ble_eq_true rfl)) (by (exact rfl)) (fun g hg hgL hgD hrm hgN hgI hend => ?_)
  subst hgD
  clear hgL
  unfold P_X10_looksOf at h
  have J4 : ∀ (v1 : Int32) (v2 : Int32) (v3 : Int32), P_X10_looksOf_L4 a0 v1 v2 v3 σ Q → XJ g 4 [(0, va_rf (some a0)), (1, .int v1), (2, .int v2), (3, .int v3)] [] σ (0, 0) := by
    intro v1 v2 v3 h
    unfold P_X10_looksOf_L4 at h
    obtain ⟨I4, ⟨n4, hI4⟩, hs4⟩ := h
    have key4 : ∀ (n : Nat), ∀ (v2 : Int32) (v3 : Int32), I4 n v2 v3 → XJ g 4 [(0, va_rf (some a0)), (1, .int v1), (2, .int v2), (3, .int v3)] [] σ (0, 0) := by
      intro n
      induction n using Nat.strongRecOn with
      | _ n ih4 =>
      intro v2 v3 hI
      have h := hs4 n v2 v3 hI
      clear hI hI4 hs4
      obtain ⟨K4, hK4⟩ : ∃ K : Int32 → Int32 → Prop, K = (fun v2 v3 => ∃ n', n' < n ∧ I4 n' v2 v3) := ⟨_, rfl⟩
      rw [← hK4] at h
      unfold P_X10_looksOf_L4b at h
      have J60 : ∀ (v3 : Int32) (w0 : Int32) (w1 : Int32), P_X10_looksOf_B60 a0 v1 v3 w0 w1 σ Q K4 → XJ g 60 [(0, va_rf (some a0)), (1, .int v1), (3, .int v3)] [.int w1, .int w0] σ (0, 0) := by
        intro v3 w0 w1 h
        unfold P_X10_looksOf_B60 at h
        refine x_iadd hg dX10_looksOf_60 ?_
        refine x_nmI (fun x22 e23 => ?_)
        replace h := h x22 e23
        refine x_istore_n (lv' := [(2, .int x22), (0, va_rf (some a0)), (1, .int v1), (3, .int v3)]) hg dX10_looksOf_61 rfl (by rw [hgN]; decide) rfl ?_
        obtain ⟨x24, e25⟩ : ∃ y : Int32, y = v3 + 1 := ⟨_, rfl⟩
        replace h := h x24 e25
        refine x_iinc (v := x24) (lv' := [(3, .int x24), (2, .int x22), (0, va_rf (some a0)), (1, .int v1)]) hg 3 dX10_looksOf_62 rfl (by rw [e25]; rfl) (by rw [hgN]; decide) rfl ?_
        refine x_goto (tgt := 4) hg dX10_looksOf_65 (by decide) ?_
        refine x_sub [2, 3, 1, 0] rfl ?_
        subst hK4
        obtain ⟨n26, h27, h⟩ := h
        exact ih4 n26 h27 _ _ h
      have J59 : ∀ (v3 : Int32) (w0 : Int32), P_X10_looksOf_B59 a0 v1 v3 w0 σ Q K4 → XJ g 59 [(0, va_rf (some a0)), (1, .int v1), (3, .int v3)] [.int w0] σ (0, 0) := by
        intro v3 w0 h
        unfold P_X10_looksOf_B59 at h
        refine x_iconst (v := 0) hg dX10_looksOf_59 (by decide) ?_
        refine x_sub [0, 1, 2] rfl ?_
        exact J60 _ _ _ h
      refine x_iload_n hg 3 dX10_looksOf_4 rfl rfl ?_
      refine x_aload_n hg 0 dX10_looksOf_5 rfl rfl ?_
      obtain ⟨h1, h⟩ := h
      refine x_getR hg fl_X10_10 rfl rfl h1 dX10_looksOf_6 ?_
      obtain ⟨c2, h3, h⟩ := h
      obtain ⟨h4, h⟩ := h
      refine xVIP (Qp := _) (rest := [.int v3]) (As := []) hg (k_Jx4a65c_size_8abf5 (gL g) (gD g) c2 σ _ h) lv_X10_87 h3 h4 rfl rfl dX10_looksOf_9 (cat8 (Nat.le_of_ble_eq_true rfl)) hrm ⟨Nat.le_of_ble_eq_true rfl, Nat.le_of_ble_eq_true rfl⟩ (fun x5 h => ?_)
      refine x_icmp_ge (tgt := 68) hg dX10_looksOf_12 (by decide) (fun q6 => ?_) (fun q6 => ?_)
      · replace h := h.1 q6
        refine x_iload_n hg 2 dX10_looksOf_68 rfl rfl ?_
        exact endI hend rfl dX10_looksOf_69 ⟨h, rfl⟩
      · replace h := h.2 q6
        refine x_aload_n hg 0 dX10_looksOf_15 rfl rfl ?_
        refine x_getR hg fl_X10_10 rfl rfl h1 dX10_looksOf_16 ?_
        refine x_iload_n hg 3 dX10_looksOf_19 rfl rfl ?_
        obtain ⟨c7, h8, h⟩ := h
        obtain ⟨h9, h⟩ := h
        refine xVRP (Qp := _) (rest := []) (As := [.int v3]) hg (k_Jx4a65c_get_915e3 (gL g) (gD g) c7 v3 σ _ h) lv_X10_232 h8 h9 rfl rfl dX10_looksOf_20 (cat8 (Nat.le_of_ble_eq_true rfl)) hrm ⟨Nat.le_of_ble_eq_true rfl, Nat.le_of_ble_eq_true rfl⟩ (fun r10 h => ?_)
        obtain ⟨c11, h12, h⟩ := h
        obtain ⟨h13, h⟩ := h
        refine x_cast (c := 4) hg (C := RX2) rfl (by decide) cl_X10_91 h12 h13 dX10_looksOf_23 ?_
        refine x_getR hg fl_X10_110 rfl h12 h13 dX10_looksOf_26 ?_
        refine x_nmR (fun r14 e15 => ?_)
        replace h := h r14 e15
        refine x_astore (lv' := [(4, va_rf r14), (0, va_rf (some a0)), (1, .int v1), (2, .int v2), (3, .int v3)]) hg dX10_looksOf_29 (by rw [hgN]; decide) rfl ?_
        refine x_iload_n hg 3 dX10_looksOf_31 rfl rfl ?_
        refine x_aload hg 0 dX10_looksOf_32 rfl ?_
        refine x_ifnull (tgt := 59) hg dX10_looksOf_34 (by decide) (fun h17 => ?_) (fun c16 h18 => ?_)
        · replace h := h.1 h17
          refine x_sub [1, 2, 4] rfl ?_
          exact J59 _ _ h
        · replace h := h.2 c16 h18
          refine x_aload hg 0 dX10_looksOf_37 rfl ?_
          obtain ⟨h19, h⟩ := h
          refine x_getI hg fl_X10_186 rfl h18 h19 dX10_looksOf_39 ?_
          refine x_iload_n hg 2 dX10_looksOf_42 rfl rfl ?_
          refine x_icmp_ne (tgt := 59) hg dX10_looksOf_43 (by decide) (fun q20 => ?_) (fun q20 => ?_)
          · replace h := h.2 q20
            refine x_sub [1, 2, 4] rfl ?_
            exact J59 _ _ h
          · replace h := h.1 q20
            refine x_aload hg 0 dX10_looksOf_46 rfl ?_
            refine x_getI hg fl_X10_214 rfl h18 h19 dX10_looksOf_48 ?_
            refine x_iconst (v := (-1)) hg dX10_looksOf_51 (by decide) ?_
            refine x_icmp_eq (tgt := 59) hg dX10_looksOf_52 (by decide) (fun q21 => ?_) (fun q21 => ?_)
            · replace h := h.1 q21
              refine x_sub [1, 2, 4] rfl ?_
              exact J59 _ _ h
            · replace h := h.2 q21
              refine x_iconst (v := 1) hg dX10_looksOf_55 (by decide) ?_
              refine x_goto (tgt := 60) hg dX10_looksOf_56 (by decide) ?_
              refine x_sub [1, 2, 4] rfl ?_
              exact J60 _ _ _ h
    exact key4 n4 v2 v3 hI4
  refine x_iconst (v := 0) hg dX10_looksOf_0 (by decide) ?_
  refine x_istore_n (lv' := [(2, .int 0), (0, va_rf (some a0)), (1, .int v1)]) hg dX10_looksOf_1 rfl (by rw [hgN]; decide) rfl ?_
  refine x_iconst (v := 0) hg dX10_looksOf_2 (by decide) ?_
  refine x_istore_n (lv' := [(3, .int 0), (2, .int 0), (0, va_rf (some a0)), (1, .int v1)]) hg dX10_looksOf_3 rfl (by rw [hgN]; decide) rfl ?_
  refine x_sub [2, 3, 1, 0] rfl ?_
  exact J4 _ _ _ h
def P_X10_gradesOf_B64 (a0 : Nat) (v1 : Int32) (v3 : Int32) (w0 : Int32) (w1 : Int32) (σ : Sg) (Q : Int32 → Prop) (K4 : Int32 → Int32 → Prop) : Prop :=
  ∀ x22 : Int32, x22 = w0 + w1 → ∀ x24 : Int32, x24 = v3 + 1 → K4 x22 x24
def P_X10_gradesOf_B63 (a0 : Nat) (v1 : Int32) (v3 : Int32) (w0 : Int32) (σ : Sg) (Q : Int32 → Prop) (K4 : Int32 → Int32 → Prop) : Prop :=
  P_X10_gradesOf_B64 a0 v1 v3 w0 0 σ Q K4
def P_X10_gradesOf_L4b (a0 : Nat) (v1 : Int32) (v2 : Int32) (v3 : Int32) (σ : Sg) (Q : Int32 → Prop) (K4 : Int32 → Int32 → Prop) : Prop :=
  sK σ a0 % 32 = 12 ∧ ∃ c2 : Nat, sR σ a0 0 = some c2 ∧ sK σ c2 % 32 = 1 ∧ P_Jx4a65c_size_8abf5 c2 σ (fun x5 => (x5 ≤ v3 → Q v2) ∧ (¬ (x5 ≤ v3) → ∃ c7 : Nat, sR σ a0 0 = some c7 ∧ sK σ c7 % 32 = 1 ∧ P_Jx4a65c_get_915e3 c7 v3 σ (fun r10 => ∃ c11 : Nat, r10 = some c11 ∧ sK σ c11 % 32 = 4 ∧ ∀ r14 : Option Nat, r14 = sR σ c11 5 → (r14 = none → P_X10_gradesOf_B63 a0 v1 v3 v2 σ Q K4) ∧ (∀ c16 : Nat, r14 = some c16 → sK σ c16 % 32 = 2 ∧ ((sI σ c16 0) = v1 → ((sI σ c16 10) = (-1) → P_X10_gradesOf_B63 a0 v1 v3 v2 σ Q K4) ∧ (¬ ((sI σ c16 10) = (-1)) → P_X10_gradesOf_B64 a0 v1 v3 v2 (sI σ c16 10) σ Q K4)) ∧ (¬ ((sI σ c16 0) = v1) → P_X10_gradesOf_B63 a0 v1 v3 v2 σ Q K4)))))
def P_X10_gradesOf_L4 (a0 : Nat) (v1 : Int32) (v2 : Int32) (v3 : Int32) (σ : Sg) (Q : Int32 → Prop) : Prop :=
  ∃ I : Nat → Int32 → Int32 → Prop, (∃ n, I n v2 v3) ∧ ∀ (n : Nat) (v2 : Int32) (v3 : Int32), I n v2 v3 → P_X10_gradesOf_L4b a0 v1 v2 v3 σ Q (fun v2 v3 => ∃ n', n' < n ∧ I n' v2 v3)
def P_X10_gradesOf (a0 : Nat) (v1 : Int32) (σ : Sg) (Q : Int32 → Prop) : Prop :=
  P_X10_gradesOf_L4 a0 v1 0 0 σ Q
set_option maxHeartbeats 4000000 in
set_option maxRecDepth 100000 in
theorem k_X10_gradesOf (l : Launch) (D : Dg) (a0 : Nat) (v1 : Int32) (σ : Sg) (Q : Int32 → Prop) (h : P_X10_gradesOf a0 v1 σ Q) : Ctr l D yX10_gradesOf cX10_gradesOf 5 (some FieldType.int) 3 64 mkI [.ref a0, .int v1] σ (0, 0) (fun r σ2 => Q r ∧ σ2 = σ) := by
  refine ctr_of (lv := [(0, va_rf (some a0)), (1, .int v1)]) (by decide) (by (exact Nat.le_of_ble_eq_true rfl)) (by (exact rfl)) (fun g hg hgL hgD hrm hgN hgI hend => ?_)
  subst hgD
  clear hgL
  unfold P_X10_gradesOf at h
  have J4 : ∀ (v1 : Int32) (v2 : Int32) (v3 : Int32), P_X10_gradesOf_L4 a0 v1 v2 v3 σ Q → XJ g 4 [(0, va_rf (some a0)), (1, .int v1), (2, .int v2), (3, .int v3)] [] σ (0, 0) := by
    intro v1 v2 v3 h
    unfold P_X10_gradesOf_L4 at h
    obtain ⟨I4, ⟨n4, hI4⟩, hs4⟩ := h
    have key4 : ∀ (n : Nat), ∀ (v2 : Int32) (v3 : Int32), I4 n v2 v3 → XJ g 4 [(0, va_rf (some a0)), (1, .int v1), (2, .int v2), (3, .int v3)] [] σ (0, 0) := by
      intro n
      induction n using Nat.strongRecOn with
      | _ n ih4 =>
      intro v2 v3 hI
      have h := hs4 n v2 v3 hI
      clear hI hI4 hs4
      obtain ⟨K4, hK4⟩ : ∃ K : Int32 → Int32 → Prop, K = (fun v2 v3 => ∃ n', n' < n ∧ I4 n' v2 v3) := ⟨_, rfl⟩
      rw [← hK4] at h
      unfold P_X10_gradesOf_L4b at h
      have J64 : ∀ (v3 : Int32) (w0 : Int32) (w1 : Int32), P_X10_gradesOf_B64 a0 v1 v3 w0 w1 σ Q K4 → XJ g 64 [(0, va_rf (some a0)), (1, .int v1), (3, .int v3)] [.int w1, .int w0] σ (0, 0) := by
        intro v3 w0 w1 h
        unfold P_X10_gradesOf_B64 at h
        refine x_iadd hg dX10_gradesOf_64 ?_
        refine x_nmI (fun x22 e23 => ?_)
        replace h := h x22 e23
        refine x_istore_n (lv' := [(2, .int x22), (0, va_rf (some a0)), (1, .int v1), (3, .int v3)]) hg dX10_gradesOf_65 rfl (by rw [hgN]; decide) rfl ?_
        obtain ⟨x24, e25⟩ : ∃ y : Int32, y = v3 + 1 := ⟨_, rfl⟩
        replace h := h x24 e25
        refine x_iinc (v := x24) (lv' := [(3, .int x24), (2, .int x22), (0, va_rf (some a0)), (1, .int v1)]) hg 3 dX10_gradesOf_66 rfl (by rw [e25]; rfl) (by rw [hgN]; decide) rfl ?_
        refine x_goto (tgt := 4) hg dX10_gradesOf_69 (by decide) ?_
        refine x_sub [2, 3, 1, 0] rfl ?_
        subst hK4
        obtain ⟨n26, h27, h⟩ := h
        exact ih4 n26 h27 _ _ h
      have J63 : ∀ (v3 : Int32) (w0 : Int32), P_X10_gradesOf_B63 a0 v1 v3 w0 σ Q K4 → XJ g 63 [(0, va_rf (some a0)), (1, .int v1), (3, .int v3)] [.int w0] σ (0, 0) := by
        intro v3 w0 h
        unfold P_X10_gradesOf_B63 at h
        refine x_iconst (v := 0) hg dX10_gradesOf_63 (by decide) ?_
        refine x_sub [0, 1, 2] rfl ?_
        exact J64 _ _ _ h
      refine x_iload_n hg 3 dX10_gradesOf_4 rfl rfl ?_
      refine x_aload_n hg 0 dX10_gradesOf_5 rfl rfl ?_
      obtain ⟨h1, h⟩ := h
      refine x_getR hg fl_X10_10 rfl rfl h1 dX10_gradesOf_6 ?_
      obtain ⟨c2, h3, h⟩ := h
      obtain ⟨h4, h⟩ := h
      refine xVIP (Qp := _) (rest := [.int v3]) (As := []) hg (k_Jx4a65c_size_8abf5 (gL g) (gD g) c2 σ _ h) lv_X10_87 h3 h4 rfl rfl dX10_gradesOf_9 (cat8 (Nat.le_of_ble_eq_true rfl)) hrm ⟨Nat.le_of_ble_eq_true rfl, Nat.le_of_ble_eq_true rfl⟩ (fun x5 h => ?_)
      refine x_icmp_ge (tgt := 72) hg dX10_gradesOf_12 (by decide) (fun q6 => ?_) (fun q6 => ?_)
      · replace h := h.1 q6
        refine x_iload_n hg 2 dX10_gradesOf_72 rfl rfl ?_
        exact endI hend rfl dX10_gradesOf_73 ⟨h, rfl⟩
      · replace h := h.2 q6
        refine x_aload_n hg 0 dX10_gradesOf_15 rfl rfl ?_
        refine x_getR hg fl_X10_10 rfl rfl h1 dX10_gradesOf_16 ?_
        refine x_iload_n hg 3 dX10_gradesOf_19 rfl rfl ?_
        obtain ⟨c7, h8, h⟩ := h
        obtain ⟨h9, h⟩ := h
        refine xVRP (Qp := _) (rest := []) (As := [.int v3]) hg (k_Jx4a65c_get_915e3 (gL g) (gD g) c7 v3 σ _ h) lv_X10_232 h8 h9 rfl rfl dX10_gradesOf_20 (cat8 (Nat.le_of_ble_eq_true rfl)) hrm ⟨Nat.le_of_ble_eq_true rfl, Nat.le_of_ble_eq_true rfl⟩ (fun r10 h => ?_)
        obtain ⟨c11, h12, h⟩ := h
        obtain ⟨h13, h⟩ := h
        refine x_cast (c := 4) hg (C := RX2) rfl (by decide) cl_X10_91 h12 h13 dX10_gradesOf_23 ?_
        refine x_getR hg fl_X10_110 rfl h12 h13 dX10_gradesOf_26 ?_
        refine x_nmR (fun r14 e15 => ?_)
        replace h := h r14 e15
        refine x_astore (lv' := [(4, va_rf r14), (0, va_rf (some a0)), (1, .int v1), (2, .int v2), (3, .int v3)]) hg dX10_gradesOf_29 (by rw [hgN]; decide) rfl ?_
        refine x_iload_n hg 3 dX10_gradesOf_31 rfl rfl ?_
        refine x_aload hg 0 dX10_gradesOf_32 rfl ?_
        refine x_ifnull (tgt := 63) hg dX10_gradesOf_34 (by decide) (fun h17 => ?_) (fun c16 h18 => ?_)
        · replace h := h.1 h17
          refine x_sub [1, 2, 4] rfl ?_
          exact J63 _ _ h
        · replace h := h.2 c16 h18
          refine x_aload hg 0 dX10_gradesOf_37 rfl ?_
          obtain ⟨h19, h⟩ := h
          refine x_getI hg fl_X10_186 rfl h18 h19 dX10_gradesOf_39 ?_
          refine x_iload_n hg 2 dX10_gradesOf_42 rfl rfl ?_
          refine x_icmp_ne (tgt := 63) hg dX10_gradesOf_43 (by decide) (fun q20 => ?_) (fun q20 => ?_)
          · replace h := h.2 q20
            refine x_sub [1, 2, 4] rfl ?_
            exact J63 _ _ h
          · replace h := h.1 q20
            refine x_aload hg 0 dX10_gradesOf_46 rfl ?_
            refine x_getI hg fl_X10_214 rfl h18 h19 dX10_gradesOf_48 ?_
            refine x_iconst (v := (-1)) hg dX10_gradesOf_51 (by decide) ?_
            refine x_icmp_eq (tgt := 63) hg dX10_gradesOf_52 (by decide) (fun q21 => ?_) (fun q21 => ?_)
            · replace h := h.1 q21
              refine x_sub [1, 2, 4] rfl ?_
              exact J63 _ _ h
            · replace h := h.2 q21
              refine x_aload hg 0 dX10_gradesOf_55 rfl ?_
              refine x_getI hg fl_X10_214 rfl h18 h19 dX10_gradesOf_57 ?_
              refine x_goto (tgt := 64) hg dX10_gradesOf_60 (by decide) ?_
              refine x_sub [1, 2, 4] rfl ?_
              exact J64 _ _ _ h
    exact key4 n4 v2 v3 hI4
  refine x_iconst (v := 0) hg dX10_gradesOf_0 (by decide) ?_
  refine x_istore_n (lv' := [(2, .int 0), (0, va_rf (some a0)), (1, .int v1)]) hg dX10_gradesOf_1 rfl (by rw [hgN]; decide) rfl ?_
  refine x_iconst (v := 0) hg dX10_gradesOf_2 (by decide) ?_
  refine x_istore_n (lv' := [(3, .int 0), (2, .int 0), (0, va_rf (some a0)), (1, .int v1)]) hg dX10_gradesOf_3 rfl (by rw [hgN]; decide) rfl ?_
  refine x_sub [2, 3, 1, 0] rfl ?_
  exact J4 _ _ _ h
def P_X10_worstLot_B51 (a0 : Nat) (v1 : Int32) (v2 : Int32) (σ : Sg) (Q : Int32 → Prop) (K4 : Int32 → Int32 → Prop) : Prop :=
  ∀ x11 : Int32, x11 = v2 + 1 → K4 v1 x11
def P_X10_worstLot_B49 (a0 : Nat) (v2 : Int32) (σ : Sg) (Q : Int32 → Prop) (K4 : Int32 → Int32 → Prop) : Prop :=
  P_X10_worstLot_B51 a0 v2 v2 σ Q K4
def P_X10_worstLot_L4b (a0 : Nat) (v1 : Int32) (v2 : Int32) (σ : Sg) (Q : Int32 → Prop) (K4 : Int32 → Int32 → Prop) : Prop :=
  (10 ≤ v2 → Q v1) ∧ (¬ (10 ≤ v2) → sK σ a0 % 32 = 12 ∧ P_X10_looksOf a0 v2 σ (fun x3 => (x3 < 2 → P_X10_worstLot_B51 a0 v1 v2 σ Q K4) ∧ (¬ (x3 < 2) → (v1 = (-1) → P_X10_worstLot_B49 a0 v2 σ Q K4) ∧ (¬ (v1 = (-1)) → P_X10_gradesOf a0 v2 σ (fun x6 => P_X10_looksOf a0 v1 σ (fun x7 => P_X10_gradesOf a0 v1 σ (fun x8 => P_X10_looksOf a0 v2 σ (fun x9 => ((x6 * x7) ≤ (x8 * x9) → P_X10_worstLot_B51 a0 v1 v2 σ Q K4) ∧ (¬ ((x6 * x7) ≤ (x8 * x9)) → P_X10_worstLot_B49 a0 v2 σ Q K4)))))))))
def P_X10_worstLot_L4 (a0 : Nat) (v1 : Int32) (v2 : Int32) (σ : Sg) (Q : Int32 → Prop) : Prop :=
  ∃ I : Nat → Int32 → Int32 → Prop, (∃ n, I n v1 v2) ∧ ∀ (n : Nat) (v1 : Int32) (v2 : Int32), I n v1 v2 → P_X10_worstLot_L4b a0 v1 v2 σ Q (fun v1 v2 => ∃ n', n' < n ∧ I n' v1 v2)
def P_X10_worstLot (a0 : Nat) (σ : Sg) (Q : Int32 → Prop) : Prop :=
  P_X10_worstLot_L4 a0 (-1) 0 σ Q
set_option maxHeartbeats 4000000 in
set_option maxRecDepth 100000 in
theorem k_X10_worstLot (l : Launch) (D : Dg) (a0 : Nat) (σ : Sg) (Q : Int32 → Prop) (h : P_X10_worstLot a0 σ Q) : Ctr l D yX10_worstLot cX10_worstLot 3 (some FieldType.int) 4 88 mkI [.ref a0] σ (0, 0) (fun r σ2 => Q r ∧ σ2 = σ) := by
  refine ctr_of (lv := [(0, va_rf (some a0))]) (by decide) (by (exact Nat.le_of_ble_eq_true rfl)) (by (exact rfl)) (fun g hg hgL hgD hrm hgN hgI hend => ?_)
  subst hgD
  clear hgL
  unfold P_X10_worstLot at h
  have J4 : ∀ (v1 : Int32) (v2 : Int32), P_X10_worstLot_L4 a0 v1 v2 σ Q → XJ g 4 [(0, va_rf (some a0)), (1, .int v1), (2, .int v2)] [] σ (0, 0) := by
    intro v1 v2 h
    unfold P_X10_worstLot_L4 at h
    obtain ⟨I4, ⟨n4, hI4⟩, hs4⟩ := h
    have key4 : ∀ (n : Nat), ∀ (v1 : Int32) (v2 : Int32), I4 n v1 v2 → XJ g 4 [(0, va_rf (some a0)), (1, .int v1), (2, .int v2)] [] σ (0, 0) := by
      intro n
      induction n using Nat.strongRecOn with
      | _ n ih4 =>
      intro v1 v2 hI
      have h := hs4 n v1 v2 hI
      clear hI hI4 hs4
      obtain ⟨K4, hK4⟩ : ∃ K : Int32 → Int32 → Prop, K = (fun v1 v2 => ∃ n', n' < n ∧ I4 n' v1 v2) := ⟨_, rfl⟩
      rw [← hK4] at h
      unfold P_X10_worstLot_L4b at h
      have J51 : ∀ (v1 : Int32) (v2 : Int32), P_X10_worstLot_B51 a0 v1 v2 σ Q K4 → XJ g 51 [(0, va_rf (some a0)), (1, .int v1), (2, .int v2)] [] σ (0, 0) := by
        intro v1 v2 h
        unfold P_X10_worstLot_B51 at h
        obtain ⟨x11, e12⟩ : ∃ y : Int32, y = v2 + 1 := ⟨_, rfl⟩
        replace h := h x11 e12
        refine x_iinc (v := x11) (lv' := [(2, .int x11), (0, va_rf (some a0)), (1, .int v1)]) hg 2 dX10_worstLot_51 rfl (by rw [e12]; rfl) (by rw [hgN]; decide) rfl ?_
        refine x_goto (tgt := 4) hg dX10_worstLot_54 (by decide) ?_
        refine x_sub [1, 2, 0] rfl ?_
        subst hK4
        obtain ⟨n13, h14, h⟩ := h
        exact ih4 n13 h14 _ _ h
      have J49 : ∀ (v2 : Int32), P_X10_worstLot_B49 a0 v2 σ Q K4 → XJ g 49 [(0, va_rf (some a0)), (2, .int v2)] [] σ (0, 0) := by
        intro v2 h
        unfold P_X10_worstLot_B49 at h
        refine x_iload_n hg 1 dX10_worstLot_49 rfl rfl ?_
        refine x_istore_n (lv' := [(1, .int v2), (0, va_rf (some a0)), (2, .int v2)]) hg dX10_worstLot_50 rfl (by rw [hgN]; decide) rfl ?_
        refine x_sub [1, 0, 2] rfl ?_
        exact J51 _ _ h
      refine x_iload_n hg 2 dX10_worstLot_4 rfl rfl ?_
      refine x_bipush (v := 10) hg dX10_worstLot_5 (by decide) ?_
      refine x_icmp_ge (tgt := 57) hg dX10_worstLot_7 (by decide) (fun q1 => ?_) (fun q1 => ?_)
      · replace h := h.1 q1
        refine x_iload_n hg 1 dX10_worstLot_57 rfl rfl ?_
        exact endI hend rfl dX10_worstLot_58 ⟨h, rfl⟩
      · replace h := h.2 q1
        refine x_aload_n hg 0 dX10_worstLot_10 rfl rfl ?_
        refine x_iload_n hg 2 dX10_worstLot_11 rfl rfl ?_
        obtain ⟨h2, h⟩ := h
        refine xVIP (Qp := _) (rest := []) (As := [.int v2]) hg (k_X10_looksOf (gL g) (gD g) a0 v2 σ _ h) lv_X10_407 rfl h2 rfl rfl dX10_worstLot_12 (cat8 (Nat.le_of_ble_eq_true rfl)) hrm ⟨Nat.le_of_ble_eq_true rfl, Nat.le_of_ble_eq_true rfl⟩ (fun x3 h => ?_)
        refine x_iconst (v := 2) hg dX10_worstLot_15 (by decide) ?_
        refine x_icmp_lt (tgt := 51) hg dX10_worstLot_16 (by decide) (fun q4 => ?_) (fun q4 => ?_)
        · replace h := h.1 q4
          refine x_sub [0, 1, 2] rfl ?_
          exact J51 _ _ h
        · replace h := h.2 q4
          refine x_iload_n hg 1 dX10_worstLot_19 rfl rfl ?_
          refine x_iconst (v := (-1)) hg dX10_worstLot_20 (by decide) ?_
          refine x_icmp_eq (tgt := 49) hg dX10_worstLot_21 (by decide) (fun q5 => ?_) (fun q5 => ?_)
          · replace h := h.1 q5
            refine x_sub [0, 2] rfl ?_
            exact J49 _ h
          · replace h := h.2 q5
            refine x_aload_n hg 0 dX10_worstLot_24 rfl rfl ?_
            refine x_iload_n hg 2 dX10_worstLot_25 rfl rfl ?_
            refine xVIP (Qp := _) (rest := []) (As := [.int v2]) hg (k_X10_gradesOf (gL g) (gD g) a0 v2 σ _ h) lv_X10_404 rfl h2 rfl rfl dX10_worstLot_26 (cat8 (Nat.le_of_ble_eq_true rfl)) hrm ⟨Nat.le_of_ble_eq_true rfl, Nat.le_of_ble_eq_true rfl⟩ (fun x6 h => ?_)
            refine x_aload_n hg 0 dX10_worstLot_29 rfl rfl ?_
            refine x_iload_n hg 1 dX10_worstLot_30 rfl rfl ?_
            refine xVIP (Qp := _) (rest := [.int x6]) (As := [.int v1]) hg (k_X10_looksOf (gL g) (gD g) a0 v1 σ _ h) lv_X10_407 rfl h2 rfl rfl dX10_worstLot_31 (cat8 (Nat.le_of_ble_eq_true rfl)) hrm ⟨Nat.le_of_ble_eq_true rfl, Nat.le_of_ble_eq_true rfl⟩ (fun x7 h => ?_)
            refine x_imul hg dX10_worstLot_34 ?_
            refine x_aload_n hg 0 dX10_worstLot_35 rfl rfl ?_
            refine x_iload_n hg 1 dX10_worstLot_36 rfl rfl ?_
            refine xVIP (Qp := _) (rest := [.int (x6 * x7)]) (As := [.int v1]) hg (k_X10_gradesOf (gL g) (gD g) a0 v1 σ _ h) lv_X10_404 rfl h2 rfl rfl dX10_worstLot_37 (cat8 (Nat.le_of_ble_eq_true rfl)) hrm ⟨Nat.le_of_ble_eq_true rfl, Nat.le_of_ble_eq_true rfl⟩ (fun x8 h => ?_)
            refine x_aload_n hg 0 dX10_worstLot_40 rfl rfl ?_
            refine x_iload_n hg 2 dX10_worstLot_41 rfl rfl ?_
            refine xVIP (Qp := _) (rest := [.int x8, .int (x6 * x7)]) (As := [.int v2]) hg (k_X10_looksOf (gL g) (gD g) a0 v2 σ _ h) lv_X10_407 rfl h2 rfl rfl dX10_worstLot_42 (cat8 (Nat.le_of_ble_eq_true rfl)) hrm ⟨Nat.le_of_ble_eq_true rfl, Nat.le_of_ble_eq_true rfl⟩ (fun x9 h => ?_)
            refine x_imul hg dX10_worstLot_45 ?_
            refine x_icmp_le (tgt := 51) hg dX10_worstLot_46 (by decide) (fun q10 => ?_) (fun q10 => ?_)
            · replace h := h.1 q10
              refine x_sub [0, 1, 2] rfl ?_
              exact J51 _ _ h
            · replace h := h.2 q10
              refine x_sub [0, 2] rfl ?_
              exact J49 _ h
    exact key4 n4 v1 v2 hI4
  refine x_iconst (v := (-1)) hg dX10_worstLot_0 (by decide) ?_
  refine x_istore_n (lv' := [(1, .int (-1)), (0, va_rf (some a0))]) hg dX10_worstLot_1 rfl (by rw [hgN]; decide) rfl ?_
  refine x_iconst (v := 0) hg dX10_worstLot_2 (by decide) ?_
  refine x_istore_n (lv' := [(2, .int 0), (1, .int (-1)), (0, va_rf (some a0))]) hg dX10_worstLot_3 rfl (by rw [hgN]; decide) rfl ?_
  refine x_sub [2, 1, 0] rfl ?_
  exact J4 _ _ h
def P_X10_worst (a0 : Nat) (v1 : Int32) (σ : Sg) (Q : Int32 → Prop) : Prop :=
  sK σ a0 % 32 = 12 ∧ P_X10_worstLot a0 σ (fun x2 => (x2 = (-1) → Q (-1)) ∧ (¬ (x2 = (-1)) → ∀ y4 : Int32, y4 = v1 → (y4 = 0 → Q x2) ∧ (¬ (y4 = 0) → (y4 = 1 → P_X10_gradesOf a0 x2 σ (fun x6 => Q x6)) ∧ (¬ (y4 = 1) → (y4 = 2 → P_X10_looksOf a0 x2 σ (fun x7 => Q x7)) ∧ (¬ (y4 = 2) → Q (-1))))))
set_option maxHeartbeats 4000000 in
set_option maxRecDepth 100000 in
theorem k_X10_worst (l : Launch) (D : Dg) (a0 : Nat) (v1 : Int32) (σ : Sg) (Q : Int32 → Prop) (h : P_X10_worst a0 v1 σ Q) : Ctr l D yX10_worst cX10_worst 3 (some FieldType.int) 5 110 mkI [.ref a0, .int v1] σ (0, 0) (fun r σ2 => Q r ∧ σ2 = σ) := by
  refine ctr_of (lv := [(0, va_rf (some a0)), (1, .int v1)]) (by decide) (by (exact Nat.le_of_ble_eq_true rfl)) (by (exact rfl)) (fun g hg hgL hgD hrm hgN hgI hend => ?_)
  subst hgD
  clear hgL
  unfold P_X10_worst at h
  refine x_aload_n hg 0 dX10_worst_0 rfl rfl ?_
  obtain ⟨h1, h⟩ := h
  refine xVIP (Qp := _) (rest := []) (As := []) hg (k_X10_worstLot (gL g) (gD g) a0 σ _ h) lv_X10_401 rfl h1 rfl rfl dX10_worst_1 (cat8 (Nat.le_of_ble_eq_true rfl)) hrm ⟨Nat.le_of_ble_eq_true rfl, Nat.le_of_ble_eq_true rfl⟩ (fun x2 h => ?_)
  refine x_istore_n (lv' := [(2, .int x2), (0, va_rf (some a0)), (1, .int v1)]) hg dX10_worst_4 rfl (by rw [hgN]; decide) rfl ?_
  refine x_iload_n hg 0 dX10_worst_5 rfl rfl ?_
  refine x_iconst (v := (-1)) hg dX10_worst_6 (by decide) ?_
  refine x_icmp_ne (tgt := 12) hg dX10_worst_7 (by decide) (fun q3 => ?_) (fun q3 => ?_)
  · replace h := h.2 q3
    refine x_iload_n hg 2 dX10_worst_12 rfl rfl ?_
    refine x_nmI (fun y4 e5 => ?_)
    replace h := h y4 e5
    by_cases q13_0 : y4 = 0
    · replace h := h.1 q13_0
      refine x_tableIn (tgt := 40) hg dX10_worst_13 (by rw [q13_0]; decide) (by rw [q13_0]; decide) (by rw [q13_0]; rfl) (by decide) ?_
      refine x_iload_n hg 0 dX10_worst_40 rfl rfl ?_
      exact endI hend rfl dX10_worst_41 ⟨h, rfl⟩
    · replace h := h.2 q13_0
      by_cases q13_1 : y4 = 1
      · replace h := h.1 q13_1
        refine x_tableIn (tgt := 42) hg dX10_worst_13 (by rw [q13_1]; decide) (by rw [q13_1]; decide) (by rw [q13_1]; rfl) (by decide) ?_
        refine x_aload_n hg 1 dX10_worst_42 rfl rfl ?_
        refine x_iload_n hg 0 dX10_worst_43 rfl rfl ?_
        refine xVIP (Qp := _) (rest := []) (As := [.int x2]) hg (k_X10_gradesOf (gL g) (gD g) a0 x2 σ _ h) lv_X10_404 rfl h1 rfl rfl dX10_worst_44 (cat8 (Nat.le_of_ble_eq_true rfl)) hrm ⟨Nat.le_of_ble_eq_true rfl, Nat.le_of_ble_eq_true rfl⟩ (fun x6 h => ?_)
        exact endI hend rfl dX10_worst_47 ⟨h, rfl⟩
      · replace h := h.2 q13_1
        by_cases q13_2 : y4 = 2
        · replace h := h.1 q13_2
          refine x_tableIn (tgt := 48) hg dX10_worst_13 (by rw [q13_2]; decide) (by rw [q13_2]; decide) (by rw [q13_2]; rfl) (by decide) ?_
          refine x_aload_n hg 1 dX10_worst_48 rfl rfl ?_
          refine x_iload_n hg 0 dX10_worst_49 rfl rfl ?_
          refine xVIP (Qp := _) (rest := []) (As := [.int x2]) hg (k_X10_looksOf (gL g) (gD g) a0 x2 σ _ h) lv_X10_407 rfl h1 rfl rfl dX10_worst_50 (cat8 (Nat.le_of_ble_eq_true rfl)) hrm ⟨Nat.le_of_ble_eq_true rfl, Nat.le_of_ble_eq_true rfl⟩ (fun x7 h => ?_)
          exact endI hend rfl dX10_worst_53 ⟨h, rfl⟩
        · replace h := h.2 q13_2
          refine x_tableOut (tgt := 54) hg dX10_worst_13 (sw2_out q13_0 q13_1 q13_2) (by decide) ?_
          refine x_iconst (v := (-1)) hg dX10_worst_54 (by decide) ?_
          exact endI hend rfl dX10_worst_55 ⟨h, rfl⟩
  · replace h := h.1 q3
    refine x_iconst (v := (-1)) hg dX10_worst_10 (by decide) ?_
    exact endI hend rfl dX10_worst_11 ⟨h, rfl⟩
def P_X10_complain (a0 : Nat) (v1 : Int32) (v2 : Int32) (σ : Sg) (b : Nat × Nat) (Q : Int32 → Sg → Prop) : Prop :=
  sK σ a0 % 32 = 12 ∧ P_X10_cornerAt a0 v1 σ (fun r2 => (r2 = none → Q (-1) σ) ∧ (∀ c3 : Nat, r2 = some c3 → P_X10_within v2 0 3 σ (fun x6 => (x6 = 0 → Q (-1) σ) ∧ (¬ (x6 = 0) → ∃ bc10 : Nat × Nat, bc10.1 ≤ b.1 ∧ bc10.2 ≤ b.2 ∧ P_X10_tellComplaint a0 v1 v2 σ bc10 (fun x8 σ9 => Q x8 σ9)))))
set_option maxHeartbeats 4000000 in
set_option maxRecDepth 100000 in
theorem k_X10_complain (l : Launch) (D : Dg) (a0 : Nat) (v1 : Int32) (v2 : Int32) (σ : Sg) (b : Nat × Nat) (Q : Int32 → Sg → Prop) (h : P_X10_complain a0 v1 v2 σ b Q) : Ctr l D yX10_complain cX10_complain 3 (some FieldType.int) 8 194 mkI [.ref a0, .int v1, .int v2] σ b Q := by
  refine ctr_of (lv := [(0, va_rf (some a0)), (1, .int v1), (2, .int v2)]) (by decide) (by (exact Nat.le_of_ble_eq_true rfl)) (by (exact rfl)) (fun g hg hgL hgD hrm hgN hgI hend => ?_)
  subst hgD
  clear hgL
  unfold P_X10_complain at h
  refine x_aload_n hg 0 dX10_complain_0 rfl rfl ?_
  refine x_iload_n hg 1 dX10_complain_1 rfl rfl ?_
  obtain ⟨h1, h⟩ := h
  refine xVRP (Qp := _) (rest := []) (As := [.int v1]) hg (k_X10_cornerAt (gL g) (gD g) a0 v1 σ _ h) lv_X10_100 rfl h1 rfl rfl dX10_complain_2 (cat8 (Nat.le_of_ble_eq_true rfl)) hrm ⟨Nat.le_of_ble_eq_true rfl, Nat.le_of_ble_eq_true rfl⟩ (fun r2 h => ?_)
  refine x_ifnull (tgt := 17) hg dX10_complain_5 (by decide) (fun h4 => ?_) (fun c3 h5 => ?_)
  · replace h := h.1 h4
    refine x_iconst (v := (-1)) hg dX10_complain_17 (by decide) ?_
    exact endI hend rfl dX10_complain_18 h
  · replace h := h.2 c3 h5
    refine x_iload_n hg 2 dX10_complain_8 rfl rfl ?_
    refine x_iconst (v := 0) hg dX10_complain_9 (by decide) ?_
    refine x_iconst (v := 3) hg dX10_complain_10 (by decide) ?_
    refine xSIP (Qp := _) (rest := []) (As := [.int v2, .int 0, .int 3]) hg (k_X10_within (gL g) (gD g) v2 0 3 σ _ h) ls_X10_83 rfl rfl dX10_complain_11 (cat8 (Nat.le_of_ble_eq_true rfl)) hrm ⟨Nat.le_of_ble_eq_true rfl, Nat.le_of_ble_eq_true rfl⟩ (fun x6 h => ?_)
    refine x_if_ne (tgt := 19) hg dX10_complain_14 (by decide) (fun q7 => ?_) (fun q7 => ?_)
    · replace h := h.2 q7
      refine x_aload_n hg 0 dX10_complain_19 rfl rfl ?_
      refine x_iload_n hg 1 dX10_complain_20 rfl rfl ?_
      refine x_iload_n hg 2 dX10_complain_21 rfl rfl ?_
      obtain ⟨bc10, h11, h12, h⟩ := h
      refine xVIA (Qm := _) (rest := []) (As := [.int v1, .int v2]) hg (k_X10_tellComplaint (gL g) (gD g) a0 v1 v2 σ bc10 _ h) lv_X10_263 rfl h1 rfl rfl dX10_complain_22 (cat8 (Nat.le_of_ble_eq_true rfl)) hrm ⟨Nat.le_of_ble_eq_true rfl, Nat.le_of_ble_eq_true rfl⟩ h11 h12 (fun x8 σ9 h => ?_)
      exact endI hend rfl dX10_complain_25 h
    · replace h := h.1 q7
      refine x_iconst (v := (-1)) hg dX10_complain_17 (by decide) ?_
      exact endI hend rfl dX10_complain_18 h
def P_X10_close (a0 : Nat) (v1 : Int32) (σ : Sg) (Q : Int32 → Sg → Prop) : Prop :=
  sK σ a0 % 32 = 12 ∧ ∃ c2 : Nat, sR σ a0 3 = some c2 ∧ sK σ c2 % 32 = 1 ∧ P_Jx4a65c_size_8abf5 c2 σ (fun x5 => P_X10_within v1 0 (x5 - 1) σ (fun x6 => (x6 = 0 → Q 0 σ) ∧ (¬ (x6 = 0) → ∃ c8 : Nat, sR σ a0 3 = some c8 ∧ sK σ c8 % 32 = 1 ∧ P_Jx4a65c_get_915e3 c8 v1 σ (fun r11 => ∃ c12 : Nat, r11 = some c12 ∧ sK σ c12 % 32 = 3 ∧ ((sI σ c12 5) = 0 → Q 0 σ) ∧ (¬ ((sI σ c12 5) = 0) → ∃ c16 : Nat, sR σ a0 3 = some c16 ∧ sK σ c16 % 32 = 1 ∧ P_Jx4a65c_get_915e3 c16 v1 σ (fun r19 => ∃ c20 : Nat, r19 = some c20 ∧ sK σ c20 % 32 = 3 ∧ ∀ σ23 : Sg, σ23 = pI σ c20 5 0 → Q 1 σ23))))))
set_option maxHeartbeats 4000000 in
set_option maxRecDepth 100000 in
theorem k_X10_close (l : Launch) (D : Dg) (a0 : Nat) (v1 : Int32) (σ : Sg) (Q : Int32 → Sg → Prop) (h : P_X10_close a0 v1 σ Q) : Ctr l D yX10_close cX10_close 2 (some FieldType.boolean) 3 64 mkI [.ref a0, .int v1] σ (0, 0) Q := by
  refine ctr_of (lv := [(0, va_rf (some a0)), (1, .int v1)]) (by decide) (by (exact Nat.le_of_ble_eq_true rfl)) (by (exact rfl)) (fun g hg hgL hgD hrm hgN hgI hend => ?_)
  subst hgD
  clear hgL
  unfold P_X10_close at h
  refine x_iload_n hg 1 dX10_close_0 rfl rfl ?_
  refine x_iconst (v := 0) hg dX10_close_1 (by decide) ?_
  refine x_aload_n hg 0 dX10_close_2 rfl rfl ?_
  obtain ⟨h1, h⟩ := h
  refine x_getR hg fl_X10_22 rfl rfl h1 dX10_close_3 ?_
  obtain ⟨c2, h3, h⟩ := h
  obtain ⟨h4, h⟩ := h
  refine xVIP (Qp := _) (rest := [.int 0, .int v1]) (As := []) hg (k_Jx4a65c_size_8abf5 (gL g) (gD g) c2 σ _ h) lv_X10_87 h3 h4 rfl rfl dX10_close_6 (cat8 (Nat.le_of_ble_eq_true rfl)) hrm ⟨Nat.le_of_ble_eq_true rfl, Nat.le_of_ble_eq_true rfl⟩ (fun x5 h => ?_)
  refine x_iconst (v := 1) hg dX10_close_9 (by decide) ?_
  refine x_isub hg dX10_close_10 ?_
  refine xSIP (Qp := _) (rest := []) (As := [.int v1, .int 0, .int (x5 - 1)]) hg (k_X10_within (gL g) (gD g) v1 0 (x5 - 1) σ _ h) ls_X10_83 rfl rfl dX10_close_11 (cat8 (Nat.le_of_ble_eq_true rfl)) hrm ⟨Nat.le_of_ble_eq_true rfl, Nat.le_of_ble_eq_true rfl⟩ (fun x6 h => ?_)
  refine x_if_eq (tgt := 34) hg dX10_close_14 (by decide) (fun q7 => ?_) (fun q7 => ?_)
  · replace h := h.1 q7
    refine x_iconst (v := 0) hg dX10_close_34 (by decide) ?_
    exact endI hend (bz_nar (Or.inl rfl)).1 dX10_close_35 h
  · replace h := h.2 q7
    refine x_aload_n hg 0 dX10_close_17 rfl rfl ?_
    refine x_getR hg fl_X10_22 rfl rfl h1 dX10_close_18 ?_
    refine x_iload_n hg 1 dX10_close_21 rfl rfl ?_
    obtain ⟨c8, h9, h⟩ := h
    obtain ⟨h10, h⟩ := h
    refine xVRP (Qp := _) (rest := []) (As := [.int v1]) hg (k_Jx4a65c_get_915e3 (gL g) (gD g) c8 v1 σ _ h) lv_X10_232 h9 h10 rfl rfl dX10_close_22 (cat8 (Nat.le_of_ble_eq_true rfl)) hrm ⟨Nat.le_of_ble_eq_true rfl, Nat.le_of_ble_eq_true rfl⟩ (fun r11 h => ?_)
    obtain ⟨c12, h13, h⟩ := h
    obtain ⟨h14, h⟩ := h
    refine x_cast (c := 3) hg (C := RX1) rfl (by decide) cl_X10_410 h13 h14 dX10_close_25 ?_
    refine x_getI hg fl_X10_418 rfl h13 h14 dX10_close_28 ?_
    refine x_if_ne (tgt := 36) hg dX10_close_31 (by decide) (fun q15 => ?_) (fun q15 => ?_)
    · replace h := h.2 q15
      refine x_aload_n hg 0 dX10_close_36 rfl rfl ?_
      refine x_getR hg fl_X10_22 rfl rfl h1 dX10_close_37 ?_
      refine x_iload_n hg 1 dX10_close_40 rfl rfl ?_
      obtain ⟨c16, h17, h⟩ := h
      obtain ⟨h18, h⟩ := h
      refine xVRP (Qp := _) (rest := []) (As := [.int v1]) hg (k_Jx4a65c_get_915e3 (gL g) (gD g) c16 v1 σ _ h) lv_X10_232 h17 h18 rfl rfl dX10_close_41 (cat8 (Nat.le_of_ble_eq_true rfl)) hrm ⟨Nat.le_of_ble_eq_true rfl, Nat.le_of_ble_eq_true rfl⟩ (fun r19 h => ?_)
      obtain ⟨c20, h21, h⟩ := h
      obtain ⟨h22, h⟩ := h
      refine x_cast (c := 3) hg (C := RX1) rfl (by decide) cl_X10_410 h21 h22 dX10_close_44 ?_
      refine x_iconst (v := 0) hg dX10_close_47 (by decide) ?_
      refine x_putZ hg fw_X10_418 (fun z => nomatch z) h21 h22 (Or.inl rfl) dX10_close_48 ?_
      refine x_nmS (fun σ23 e24 => ?_)
      replace h := h σ23 e24
      have E25 : sK σ23 = sK σ := by rw [e24]; rfl
      refine x_iconst (v := 1) hg dX10_close_51 (by decide) ?_
      exact endI hend (bz_nar (Or.inr rfl)).1 dX10_close_52 h
    · replace h := h.1 q15
      refine x_iconst (v := 0) hg dX10_close_34 (by decide) ?_
      exact endI hend (bz_nar (Or.inl rfl)).1 dX10_close_35 h
