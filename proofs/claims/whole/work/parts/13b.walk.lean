def P_X11_isIn_B14 (σ : Sg) (Q : Int32 → Prop) : Prop :=
  Q 0
def P_X11_isIn (v0 : Int32) (v1 : Int32) (v2 : Int32) (σ : Sg) (Q : Int32 → Prop) : Prop :=
  (v0 < v1 → P_X11_isIn_B14 σ Q) ∧ (¬ (v0 < v1) → (v2 < v0 → P_X11_isIn_B14 σ Q) ∧ (¬ (v2 < v0) → Q 1))
set_option maxHeartbeats 4000000 in
set_option maxRecDepth 100000 in
theorem k_X11_isIn (l : Launch) (D : Dg) (v0 : Int32) (v1 : Int32) (v2 : Int32) (σ : Sg) (Q : Int32 → Prop) (h : P_X11_isIn v0 v1 v2 σ Q) : CtrY RN l D yX11_isIn cX11_isIn 3 (some FieldType.boolean) 0 0 mkI [.int v0, .int v1, .int v2] σ (0, 0) (fun r σ2 => Q r ∧ σ2 = σ) := by
  refine y_ctrN (lv := [(0, .int v0), (1, .int v1), (2, .int v2)]) (by decide) (by (exact Nat.le_of_ble_eq_true rfl)) (by (exact rfl)) (fun g hg hgL hgD hrm hgN hgI hend => ?_)
  subst hgD
  clear hgL
  unfold P_X11_isIn at h
  have J14 : P_X11_isIn_B14 σ Q → XA g 14 [] [] σ (0, 0) := by
    intro  h
    unfold P_X11_isIn_B14 at h
    refine y_iconst (v := 0) hg dX11_isIn_14 (by decide) ?_
    exact yEndI hend (bz_nar (Or.inl rfl)).1 dX11_isIn_15 ⟨h, rfl⟩
  refine y_iload_n hg 0 dX11_isIn_0 rfl rfl ?_
  refine y_iload_n hg 1 dX11_isIn_1 rfl rfl ?_
  refine y_icmp_lt (tgt := 14) hg dX11_isIn_2 (by decide) (fun q1 => ?_) (fun q1 => ?_)
  · replace h := h.1 q1
    refine y_sub [] rfl ?_
    exact J14  h
  · replace h := h.2 q1
    refine y_iload_n hg 0 dX11_isIn_5 rfl rfl ?_
    refine y_iload_n hg 2 dX11_isIn_6 rfl rfl ?_
    refine y_icmp_gt (tgt := 14) hg dX11_isIn_7 (by decide) (fun q2 => ?_) (fun q2 => ?_)
    · replace h := h.1 q2
      refine y_sub [] rfl ?_
      exact J14  h
    · replace h := h.2 q2
      refine y_iconst (v := 1) hg dX11_isIn_10 (by decide) ?_
      refine y_goto (tgt := 15) hg dX11_isIn_11 (by decide) ?_
      exact yEndI hend (bz_nar (Or.inr rfl)).1 dX11_isIn_15 ⟨h, rfl⟩
def P_X11_one (v0 : Int32) (σ : Sg) (Q : Int32 → Prop) : Prop :=
  (v0 = 0 → Q 0) ∧ (¬ (v0 = 0) → Q 1)
set_option maxHeartbeats 4000000 in
set_option maxRecDepth 100000 in
theorem k_X11_one (l : Launch) (D : Dg) (v0 : Int32) (σ : Sg) (Q : Int32 → Prop) (h : P_X11_one v0 σ Q) : CtrY RN l D yX11_one cX11_one 1 (some FieldType.int) 0 0 mkI [.int v0] σ (0, 0) (fun r σ2 => Q r ∧ σ2 = σ) := by
  refine y_ctrN (lv := [(0, .int v0)]) (by decide) (by (exact Nat.le_of_ble_eq_true rfl)) (by (exact rfl)) (fun g hg hgL hgD hrm hgN hgI hend => ?_)
  subst hgD
  clear hgL
  unfold P_X11_one at h
  refine y_iload_n hg 0 dX11_one_0 rfl rfl ?_
  refine y_if_eq (tgt := 8) hg dX11_one_1 (by decide) (fun q1 => ?_) (fun q1 => ?_)
  · replace h := h.1 q1
    refine y_iconst (v := 0) hg dX11_one_8 (by decide) ?_
    exact yEndI hend rfl dX11_one_9 ⟨h, rfl⟩
  · replace h := h.2 q1
    refine y_iconst (v := 1) hg dX11_one_4 (by decide) ?_
    refine y_goto (tgt := 9) hg dX11_one_5 (by decide) ?_
    exact yEndI hend rfl dX11_one_9 ⟨h, rfl⟩
def P_X11_isCorner (a0 : Nat) (v1 : Int32) (σ : Sg) (Q : Int32 → Prop) : Prop :=
  sK σ a0 % 32 = 13 ∧ P_X11_isIn v1 0 ((sI σ a0 1) - 1) σ (fun x2 => bz x2 ∧ Q x2)
set_option maxHeartbeats 4000000 in
set_option maxRecDepth 100000 in
theorem k_X11_isCorner (l : Launch) (D : Dg) (a0 : Nat) (v1 : Int32) (σ : Sg) (Q : Int32 → Prop) (h : P_X11_isCorner a0 v1 σ Q) : CtrY RN l D yX11_isCorner cX11_isCorner 2 (some FieldType.boolean) 1 22 mkI [.ref a0, .int v1] σ (0, 0) (fun r σ2 => Q r ∧ σ2 = σ) := by
  refine y_ctrN (lv := [(0, va_rf (some a0)), (1, .int v1)]) (by decide) (by (exact Nat.le_of_ble_eq_true rfl)) (by (exact rfl)) (fun g hg hgL hgD hrm hgN hgI hend => ?_)
  subst hgD
  clear hgL
  unfold P_X11_isCorner at h
  refine y_iload_n hg 1 dX11_isCorner_0 rfl rfl ?_
  refine y_iconst (v := 0) hg dX11_isCorner_1 (by decide) ?_
  refine y_aload_n hg 0 dX11_isCorner_2 rfl rfl ?_
  obtain ⟨h1, h⟩ := h
  refine y_getI hg fl_X11_191 rfl rfl h1 dX11_isCorner_3 ?_
  refine y_iconst (v := 1) hg dX11_isCorner_6 (by decide) ?_
  refine y_isub hg dX11_isCorner_7 ?_
  refine ySIP (Qp := _) (rest := []) (As := [.int v1, .int 0, .int ((sI σ a0 1) - 1)]) hg (k_X11_isIn (gL g.1) (gD g.1) v1 0 ((sI σ a0 1) - 1) σ _ h) ls_X11_194 rfl rfl dX11_isCorner_8 (cat8 (Nat.le_of_ble_eq_true rfl)) hrm ⟨Nat.le_of_ble_eq_true rfl, Nat.le_of_ble_eq_true rfl⟩ (fun x2 h => ?_)
  obtain ⟨h3, h⟩ := h
  exact yEndI hend (bz_nar h3).1 dX11_isCorner_11 ⟨h, rfl⟩
def P_X11_isBed_B21 (a0 : Nat) (σ : Sg) (Q : Int32 → Prop) : Prop :=
  Q 0
def P_X11_isBed (a0 : Nat) (v1 : Int32) (σ : Sg) (Q : Int32 → Prop) : Prop :=
  sK σ a0 % 32 = 13 ∧ P_X11_isCorner a0 v1 σ (fun x2 => (x2 = 0 → P_X11_isBed_B21 a0 σ Q) ∧ (¬ (x2 = 0) → ∃ c4 : Nat, sR σ a0 12 = some c4 ∧ sK σ c4 % 32 = 18 ∧ vp_in v1 (sN σ c4) ∧ ((sI σ c4 v1.toNatClampNeg) = 0 → P_X11_isBed_B21 a0 σ Q) ∧ (¬ ((sI σ c4 v1.toNatClampNeg) = 0) → Q 1)))
set_option maxHeartbeats 4000000 in
set_option maxRecDepth 100000 in
theorem k_X11_isBed (l : Launch) (D : Dg) (a0 : Nat) (v1 : Int32) (σ : Sg) (Q : Int32 → Prop) (h : P_X11_isBed a0 v1 σ Q) : CtrY RN l D yX11_isBed cX11_isBed 2 (some FieldType.boolean) 2 43 mkI [.ref a0, .int v1] σ (0, 0) (fun r σ2 => Q r ∧ σ2 = σ) := by
  refine y_ctrN (lv := [(0, va_rf (some a0)), (1, .int v1)]) (by decide) (by (exact Nat.le_of_ble_eq_true rfl)) (by (exact rfl)) (fun g hg hgL hgD hrm hgN hgI hend => ?_)
  subst hgD
  clear hgL
  unfold P_X11_isBed at h
  have J21 : P_X11_isBed_B21 a0 σ Q → XA g 21 [(0, va_rf (some a0))] [] σ (0, 0) := by
    intro  h
    unfold P_X11_isBed_B21 at h
    refine y_iconst (v := 0) hg dX11_isBed_21 (by decide) ?_
    exact yEndI hend (bz_nar (Or.inl rfl)).1 dX11_isBed_22 ⟨h, rfl⟩
  refine y_aload_n hg 0 dX11_isBed_0 rfl rfl ?_
  refine y_iload_n hg 1 dX11_isBed_1 rfl rfl ?_
  obtain ⟨h1, h⟩ := h
  refine yVIP (Qp := _) (rest := []) (As := [.int v1]) hg (k_X11_isCorner (gL g.1) (gD g.1) a0 v1 σ _ h) lv_X11_198 rfl h1 rfl rfl dX11_isBed_2 (cat8 (Nat.le_of_ble_eq_true rfl)) hrm ⟨Nat.le_of_ble_eq_true rfl, Nat.le_of_ble_eq_true rfl⟩ (fun x2 h => ?_)
  refine y_if_eq (tgt := 21) hg dX11_isBed_5 (by decide) (fun q3 => ?_) (fun q3 => ?_)
  · replace h := h.1 q3
    refine y_sub [0] rfl ?_
    exact J21  h
  · replace h := h.2 q3
    refine y_aload_n hg 0 dX11_isBed_8 rfl rfl ?_
    refine y_getR hg fl_X11_25 rfl rfl h1 dX11_isBed_9 ?_
    refine y_iload_n hg 1 dX11_isBed_12 rfl rfl ?_
    obtain ⟨c4, h5, h⟩ := h
    obtain ⟨h6, h⟩ := h
    obtain ⟨h7, h⟩ := h
    refine y_zald hg h5 h6 h7 dX11_isBed_13 ?_
    refine y_if_eq (tgt := 21) hg dX11_isBed_14 (by decide) (fun q8 => ?_) (fun q8 => ?_)
    · replace h := h.1 q8
      refine y_sub [0] rfl ?_
      exact J21  h
    · replace h := h.2 q8
      refine y_iconst (v := 1) hg dX11_isBed_17 (by decide) ?_
      refine y_goto (tgt := 22) hg dX11_isBed_18 (by decide) ?_
      exact yEndI hend (bz_nar (Or.inr rfl)).1 dX11_isBed_22 ⟨h, rfl⟩
def P_X11_corner (a0 : Nat) (v1 : Int32) (v2 : Int32) (v3 : Int32) (v4 : Int32) (σ : Sg) (Q : Int32 → Sg → Prop) : Prop :=
  P_X11_isIn v1 1 100 σ (fun x1 => (x1 = 0 → Q (-1) σ) ∧ (¬ (x1 = 0) → P_X11_isIn v2 1 500 σ (fun x3 => (x3 = 0 → Q (-1) σ) ∧ (¬ (x3 = 0) → P_X11_isIn v3 0 9 σ (fun x5 => (x5 = 0 → Q (-1) σ) ∧ (¬ (x5 = 0) → P_X11_isIn v4 0 500 σ (fun x7 => (x7 = 0 → Q (-1) σ) ∧ (¬ (x7 = 0) → sK σ a0 % 32 = 13 ∧ ((sI σ a0 1) = 12 → Q (-1) σ) ∧ (¬ ((sI σ a0 1) = 12) → ∃ c11 : Nat, sR σ a0 7 = some c11 ∧ sK σ c11 % 32 = 16 ∧ vp_in (sI σ a0 1) (sN σ c11) ∧ ∀ σ15 : Sg, σ15 = pI σ c11 (sI σ a0 1).toNatClampNeg v1 → ∃ c18 : Nat, sR σ15 a0 8 = some c18 ∧ sK σ15 c18 % 32 = 16 ∧ vp_in (sI σ15 a0 1) (sN σ15 c18) ∧ ∀ σ22 : Sg, σ22 = pI σ15 c18 (sI σ15 a0 1).toNatClampNeg v2 → ∃ c25 : Nat, sR σ22 a0 9 = some c25 ∧ sK σ22 c25 % 32 = 16 ∧ vp_in (sI σ22 a0 1) (sN σ22 c25) ∧ ∀ σ29 : Sg, σ29 = pI σ22 c25 (sI σ22 a0 1).toNatClampNeg v3 → ∃ c32 : Nat, sR σ29 a0 10 = some c32 ∧ sK σ29 c32 % 32 = 16 ∧ vp_in (sI σ29 a0 1) (sN σ29 c32) ∧ ∀ σ36 : Sg, σ36 = pI σ29 c32 (sI σ29 a0 1).toNatClampNeg v4 → ∃ c39 : Nat, sR σ36 a0 11 = some c39 ∧ sK σ36 c39 % 32 = 16 ∧ vp_in (sI σ36 a0 1) (sN σ36 c39) ∧ ∀ σ43 : Sg, σ43 = pI σ36 c39 (sI σ36 a0 1).toNatClampNeg (-1) → ∀ σ46 : Sg, σ46 = pI σ43 a0 1 ((sI σ43 a0 1) + 1) → Q ((sI σ46 a0 1) - 1) σ46)))))))))
set_option maxHeartbeats 4000000 in
set_option maxRecDepth 100000 in
theorem k_X11_corner (l : Launch) (D : Dg) (a0 : Nat) (v1 : Int32) (v2 : Int32) (v3 : Int32) (v4 : Int32) (σ : Sg) (Q : Int32 → Sg → Prop) (h : P_X11_corner a0 v1 v2 v3 v4 σ Q) : CtrY RN l D yX11_corner cX11_corner 5 (some FieldType.int) 1 22 mkI [.ref a0, .int v1, .int v2, .int v3, .int v4] σ (0, 0) Q := by
  refine y_ctrN (lv := [(0, va_rf (some a0)), (1, .int v1), (2, .int v2), (3, .int v3), (4, .int v4)]) (by decide) (by (exact Nat.le_of_ble_eq_true rfl)) (by (exact rfl)) (fun g hg hgL hgD hrm hgN hgI hend => ?_)
  subst hgD
  clear hgL
  unfold P_X11_corner at h
  refine y_iload_n hg 1 dX11_corner_0 rfl rfl ?_
  refine y_iconst (v := 1) hg dX11_corner_1 (by decide) ?_
  refine y_bipush (v := 100) hg dX11_corner_2 (by decide) ?_
  refine ySIP (Qp := _) (rest := []) (As := [.int v1, .int 1, .int 100]) hg (k_X11_isIn (gL g.1) (gD g.1) v1 1 100 σ _ h) ls_X11_194 rfl rfl dX11_corner_4 (cat8 (Nat.le_of_ble_eq_true rfl)) hrm ⟨Nat.le_of_ble_eq_true rfl, Nat.le_of_ble_eq_true rfl⟩ (fun x1 h => ?_)
  refine y_if_eq (tgt := 52) hg dX11_corner_7 (by decide) (fun q2 => ?_) (fun q2 => ?_)
  · replace h := h.1 q2
    refine y_iconst (v := (-1)) hg dX11_corner_52 (by decide) ?_
    exact yEndI hend rfl dX11_corner_53 h
  · replace h := h.2 q2
    refine y_iload_n hg 2 dX11_corner_10 rfl rfl ?_
    refine y_iconst (v := 1) hg dX11_corner_11 (by decide) ?_
    refine y_sipush (v := 500) hg dX11_corner_12 (by decide) ?_
    refine ySIP (Qp := _) (rest := []) (As := [.int v2, .int 1, .int 500]) hg (k_X11_isIn (gL g.1) (gD g.1) v2 1 500 σ _ h) ls_X11_194 rfl rfl dX11_corner_15 (cat8 (Nat.le_of_ble_eq_true rfl)) hrm ⟨Nat.le_of_ble_eq_true rfl, Nat.le_of_ble_eq_true rfl⟩ (fun x3 h => ?_)
    refine y_if_eq (tgt := 52) hg dX11_corner_18 (by decide) (fun q4 => ?_) (fun q4 => ?_)
    · replace h := h.1 q4
      refine y_iconst (v := (-1)) hg dX11_corner_52 (by decide) ?_
      exact yEndI hend rfl dX11_corner_53 h
    · replace h := h.2 q4
      refine y_iload_n hg 3 dX11_corner_21 rfl rfl ?_
      refine y_iconst (v := 0) hg dX11_corner_22 (by decide) ?_
      refine y_bipush (v := 9) hg dX11_corner_23 (by decide) ?_
      refine ySIP (Qp := _) (rest := []) (As := [.int v3, .int 0, .int 9]) hg (k_X11_isIn (gL g.1) (gD g.1) v3 0 9 σ _ h) ls_X11_194 rfl rfl dX11_corner_25 (cat8 (Nat.le_of_ble_eq_true rfl)) hrm ⟨Nat.le_of_ble_eq_true rfl, Nat.le_of_ble_eq_true rfl⟩ (fun x5 h => ?_)
      refine y_if_eq (tgt := 52) hg dX11_corner_28 (by decide) (fun q6 => ?_) (fun q6 => ?_)
      · replace h := h.1 q6
        refine y_iconst (v := (-1)) hg dX11_corner_52 (by decide) ?_
        exact yEndI hend rfl dX11_corner_53 h
      · replace h := h.2 q6
        refine y_iload hg 4 dX11_corner_31 rfl ?_
        refine y_iconst (v := 0) hg dX11_corner_33 (by decide) ?_
        refine y_sipush (v := 500) hg dX11_corner_34 (by decide) ?_
        refine ySIP (Qp := _) (rest := []) (As := [.int v4, .int 0, .int 500]) hg (k_X11_isIn (gL g.1) (gD g.1) v4 0 500 σ _ h) ls_X11_194 rfl rfl dX11_corner_37 (cat8 (Nat.le_of_ble_eq_true rfl)) hrm ⟨Nat.le_of_ble_eq_true rfl, Nat.le_of_ble_eq_true rfl⟩ (fun x7 h => ?_)
        refine y_if_eq (tgt := 52) hg dX11_corner_40 (by decide) (fun q8 => ?_) (fun q8 => ?_)
        · replace h := h.1 q8
          refine y_iconst (v := (-1)) hg dX11_corner_52 (by decide) ?_
          exact yEndI hend rfl dX11_corner_53 h
        · replace h := h.2 q8
          refine y_aload_n hg 0 dX11_corner_43 rfl rfl ?_
          obtain ⟨h9, h⟩ := h
          refine y_getI hg fl_X11_191 rfl rfl h9 dX11_corner_44 ?_
          refine y_bipush (v := 12) hg dX11_corner_47 (by decide) ?_
          refine y_icmp_ne (tgt := 54) hg dX11_corner_49 (by decide) (fun q10 => ?_) (fun q10 => ?_)
          · replace h := h.2 q10
            refine y_aload_n hg 0 dX11_corner_54 rfl rfl ?_
            refine y_getR hg fl_X11_7 rfl rfl h9 dX11_corner_55 ?_
            refine y_aload_n hg 0 dX11_corner_58 rfl rfl ?_
            refine y_getI hg fl_X11_191 rfl rfl h9 dX11_corner_59 ?_
            refine y_iload_n hg 1 dX11_corner_62 rfl rfl ?_
            obtain ⟨c11, h12, h⟩ := h
            obtain ⟨h13, h⟩ := h
            obtain ⟨h14, h⟩ := h
            refine y_iast hg h12 h13 h14 dX11_corner_63 ?_
            refine y_nmS (fun σ15 e16 => ?_)
            replace h := h σ15 e16
            have E17 : sK σ15 = sK σ := by rw [e16]; rfl
            refine y_aload_n hg 0 dX11_corner_64 rfl rfl ?_
            refine y_getR hg fl_X11_13 rfl rfl (kq E17 h9) dX11_corner_65 ?_
            refine y_aload_n hg 0 dX11_corner_68 rfl rfl ?_
            refine y_getI hg fl_X11_191 rfl rfl (kq E17 h9) dX11_corner_69 ?_
            refine y_iload_n hg 2 dX11_corner_72 rfl rfl ?_
            obtain ⟨c18, h19, h⟩ := h
            obtain ⟨h20, h⟩ := h
            obtain ⟨h21, h⟩ := h
            refine y_iast hg h19 h20 h21 dX11_corner_73 ?_
            refine y_nmS (fun σ22 e23 => ?_)
            replace h := h σ22 e23
            have E24 : sK σ22 = sK σ15 := by rw [e23]; rfl
            refine y_aload_n hg 0 dX11_corner_74 rfl rfl ?_
            refine y_getR hg fl_X11_16 rfl rfl (kq E24 (kq E17 h9)) dX11_corner_75 ?_
            refine y_aload_n hg 0 dX11_corner_78 rfl rfl ?_
            refine y_getI hg fl_X11_191 rfl rfl (kq E24 (kq E17 h9)) dX11_corner_79 ?_
            refine y_iload_n hg 3 dX11_corner_82 rfl rfl ?_
            obtain ⟨c25, h26, h⟩ := h
            obtain ⟨h27, h⟩ := h
            obtain ⟨h28, h⟩ := h
            refine y_iast hg h26 h27 h28 dX11_corner_83 ?_
            refine y_nmS (fun σ29 e30 => ?_)
            replace h := h σ29 e30
            have E31 : sK σ29 = sK σ22 := by rw [e30]; rfl
            refine y_aload_n hg 0 dX11_corner_84 rfl rfl ?_
            refine y_getR hg fl_X11_19 rfl rfl (kq E31 (kq E24 (kq E17 h9))) dX11_corner_85 ?_
            refine y_aload_n hg 0 dX11_corner_88 rfl rfl ?_
            refine y_getI hg fl_X11_191 rfl rfl (kq E31 (kq E24 (kq E17 h9))) dX11_corner_89 ?_
            refine y_iload hg 4 dX11_corner_92 rfl ?_
            obtain ⟨c32, h33, h⟩ := h
            obtain ⟨h34, h⟩ := h
            obtain ⟨h35, h⟩ := h
            refine y_iast hg h33 h34 h35 dX11_corner_94 ?_
            refine y_nmS (fun σ36 e37 => ?_)
            replace h := h σ36 e37
            have E38 : sK σ36 = sK σ29 := by rw [e37]; rfl
            refine y_aload_n hg 0 dX11_corner_95 rfl rfl ?_
            refine y_getR hg fl_X11_22 rfl rfl (kq E38 (kq E31 (kq E24 (kq E17 h9)))) dX11_corner_96 ?_
            refine y_aload_n hg 0 dX11_corner_99 rfl rfl ?_
            refine y_getI hg fl_X11_191 rfl rfl (kq E38 (kq E31 (kq E24 (kq E17 h9)))) dX11_corner_100 ?_
            refine y_iconst (v := (-1)) hg dX11_corner_103 (by decide) ?_
            obtain ⟨c39, h40, h⟩ := h
            obtain ⟨h41, h⟩ := h
            obtain ⟨h42, h⟩ := h
            refine y_iast hg h40 h41 h42 dX11_corner_104 ?_
            refine y_nmS (fun σ43 e44 => ?_)
            replace h := h σ43 e44
            have E45 : sK σ43 = sK σ36 := by rw [e44]; rfl
            refine y_aload_n hg 0 dX11_corner_105 rfl rfl ?_
            refine y_dup hg dX11_corner_106 rfl ?_
            refine y_getI hg fl_X11_191 rfl rfl (kq E45 (kq E38 (kq E31 (kq E24 (kq E17 h9))))) dX11_corner_107 ?_
            refine y_iconst (v := 1) hg dX11_corner_110 (by decide) ?_
            refine y_iadd hg dX11_corner_111 ?_
            refine y_putI hg fw_X11_191 (fun z => nomatch z) rfl (kq E45 (kq E38 (kq E31 (kq E24 (kq E17 h9))))) dX11_corner_112 ?_
            refine y_nmS (fun σ46 e47 => ?_)
            replace h := h σ46 e47
            have E48 : sK σ46 = sK σ43 := by rw [e47]; rfl
            refine y_aload_n hg 0 dX11_corner_115 rfl rfl ?_
            refine y_getI hg fl_X11_191 rfl rfl (kq E48 (kq E45 (kq E38 (kq E31 (kq E24 (kq E17 h9)))))) dX11_corner_116 ?_
            refine y_iconst (v := 1) hg dX11_corner_119 (by decide) ?_
            refine y_isub hg dX11_corner_120 ?_
            exact yEndI hend rfl dX11_corner_121 h
          · replace h := h.1 q10
            refine y_iconst (v := (-1)) hg dX11_corner_52 (by decide) ?_
            exact yEndI hend rfl dX11_corner_53 h
def P_X11_below_B28 (a0 : Nat) (v1 : Int32) (v2 : Int32) (σ : Sg) (Q : Int32 → Sg → Prop) : Prop :=
  sK σ a0 % 32 = 13 ∧ ∃ c9 : Nat, sR σ a0 11 = some c9 ∧ sK σ c9 % 32 = 16 ∧ vp_in v1 (sN σ c9) ∧ ∀ σ13 : Sg, σ13 = pI σ c9 v1.toNatClampNeg v2 → Q 1 σ13
def P_X11_below (a0 : Nat) (v1 : Int32) (v2 : Int32) (σ : Sg) (Q : Int32 → Sg → Prop) : Prop :=
  sK σ a0 % 32 = 13 ∧ P_X11_isCorner a0 v1 σ (fun x2 => (x2 = 0 → Q 0 σ) ∧ (¬ (x2 = 0) → (v2 = (-1) → P_X11_below_B28 a0 v1 v2 σ Q) ∧ (¬ (v2 = (-1)) → P_X11_isCorner a0 v2 σ (fun x5 => (x5 = 0 → Q 0 σ) ∧ (¬ (x5 = 0) → (v1 < v2 → P_X11_below_B28 a0 v1 v2 σ Q) ∧ (¬ (v1 < v2) → Q 0 σ))))))
set_option maxHeartbeats 4000000 in
set_option maxRecDepth 100000 in
theorem k_X11_below (l : Launch) (D : Dg) (a0 : Nat) (v1 : Int32) (v2 : Int32) (σ : Sg) (Q : Int32 → Sg → Prop) (h : P_X11_below a0 v1 v2 σ Q) : CtrY RN l D yX11_below cX11_below 3 (some FieldType.boolean) 2 43 mkI [.ref a0, .int v1, .int v2] σ (0, 0) Q := by
  refine y_ctrN (lv := [(0, va_rf (some a0)), (1, .int v1), (2, .int v2)]) (by decide) (by (exact Nat.le_of_ble_eq_true rfl)) (by (exact rfl)) (fun g hg hgL hgD hrm hgN hgI hend => ?_)
  subst hgD
  clear hgL
  unfold P_X11_below at h
  have J28 : ∀ (v1 : Int32) (v2 : Int32) (σ : Sg), P_X11_below_B28 a0 v1 v2 σ Q → XA g 28 [(0, va_rf (some a0)), (1, .int v1), (2, .int v2)] [] σ (0, 0) := by
    intro v1 v2 σ h
    unfold P_X11_below_B28 at h
    refine y_aload_n hg 0 dX11_below_28 rfl rfl ?_
    obtain ⟨h8, h⟩ := h
    refine y_getR hg fl_X11_22 rfl rfl h8 dX11_below_29 ?_
    refine y_iload_n hg 1 dX11_below_32 rfl rfl ?_
    refine y_iload_n hg 2 dX11_below_33 rfl rfl ?_
    obtain ⟨c9, h10, h⟩ := h
    obtain ⟨h11, h⟩ := h
    obtain ⟨h12, h⟩ := h
    refine y_iast hg h10 h11 h12 dX11_below_34 ?_
    refine y_nmS (fun σ13 e14 => ?_)
    replace h := h σ13 e14
    have E15 : sK σ13 = sK σ := by rw [e14]; rfl
    refine y_iconst (v := 1) hg dX11_below_35 (by decide) ?_
    exact yEndI hend (bz_nar (Or.inr rfl)).1 dX11_below_36 h
  refine y_aload_n hg 0 dX11_below_0 rfl rfl ?_
  refine y_iload_n hg 1 dX11_below_1 rfl rfl ?_
  obtain ⟨h1, h⟩ := h
  refine yVIP (Qp := _) (rest := []) (As := [.int v1]) hg (k_X11_isCorner (gL g.1) (gD g.1) a0 v1 σ _ h) lv_X11_198 rfl h1 rfl rfl dX11_below_2 (cat8 (Nat.le_of_ble_eq_true rfl)) hrm ⟨Nat.le_of_ble_eq_true rfl, Nat.le_of_ble_eq_true rfl⟩ (fun x2 h => ?_)
  refine y_if_eq (tgt := 26) hg dX11_below_5 (by decide) (fun q3 => ?_) (fun q3 => ?_)
  · replace h := h.1 q3
    refine y_iconst (v := 0) hg dX11_below_26 (by decide) ?_
    exact yEndI hend (bz_nar (Or.inl rfl)).1 dX11_below_27 h
  · replace h := h.2 q3
    refine y_iload_n hg 2 dX11_below_8 rfl rfl ?_
    refine y_iconst (v := (-1)) hg dX11_below_9 (by decide) ?_
    refine y_icmp_eq (tgt := 28) hg dX11_below_10 (by decide) (fun q4 => ?_) (fun q4 => ?_)
    · replace h := h.1 q4
      refine y_sub [0, 1, 2] rfl ?_
      exact J28 _ _ _ h
    · replace h := h.2 q4
      refine y_aload_n hg 0 dX11_below_13 rfl rfl ?_
      refine y_iload_n hg 2 dX11_below_14 rfl rfl ?_
      refine yVIP (Qp := _) (rest := []) (As := [.int v2]) hg (k_X11_isCorner (gL g.1) (gD g.1) a0 v2 σ _ h) lv_X11_198 rfl h1 rfl rfl dX11_below_15 (cat8 (Nat.le_of_ble_eq_true rfl)) hrm ⟨Nat.le_of_ble_eq_true rfl, Nat.le_of_ble_eq_true rfl⟩ (fun x5 h => ?_)
      refine y_if_eq (tgt := 26) hg dX11_below_18 (by decide) (fun q6 => ?_) (fun q6 => ?_)
      · replace h := h.1 q6
        refine y_iconst (v := 0) hg dX11_below_26 (by decide) ?_
        exact yEndI hend (bz_nar (Or.inl rfl)).1 dX11_below_27 h
      · replace h := h.2 q6
        refine y_iload_n hg 2 dX11_below_21 rfl rfl ?_
        refine y_iload_n hg 1 dX11_below_22 rfl rfl ?_
        refine y_icmp_gt (tgt := 28) hg dX11_below_23 (by decide) (fun q7 => ?_) (fun q7 => ?_)
        · replace h := h.1 q7
          refine y_sub [0, 1, 2] rfl ?_
          exact J28 _ _ _ h
        · replace h := h.2 q7
          refine y_iconst (v := 0) hg dX11_below_26 (by decide) ?_
          exact yEndI hend (bz_nar (Or.inl rfl)).1 dX11_below_27 h
def P_X11_roof (a0 : Nat) (v1 : Int32) (v2 : Int32) (v3 : Int32) (v4 : Int32) (σ : Sg) (Q : Int32 → Sg → Prop) : Prop :=
  sK σ a0 % 32 = 13 ∧ P_X11_isCorner a0 v1 σ (fun x2 => (x2 = 0 → Q (-1) σ) ∧ (¬ (x2 = 0) → P_X11_isIn v2 0 19 σ (fun x4 => (x4 = 0 → Q (-1) σ) ∧ (¬ (x4 = 0) → P_X11_isIn v3 1 50 σ (fun x6 => (x6 = 0 → Q (-1) σ) ∧ (¬ (x6 = 0) → P_X11_isIn v4 0 200 σ (fun x8 => (x8 = 0 → Q (-1) σ) ∧ (¬ (x8 = 0) → ((sI σ a0 2) = 30 → Q (-1) σ) ∧ (¬ ((sI σ a0 2) = 30) → ∃ c11 : Nat, sR σ a0 25 = some c11 ∧ sK σ c11 % 32 = 16 ∧ vp_in (sI σ a0 2) (sN σ c11) ∧ ∀ σ15 : Sg, σ15 = pI σ c11 (sI σ a0 2).toNatClampNeg v1 → ∃ c18 : Nat, sR σ15 a0 26 = some c18 ∧ sK σ15 c18 % 32 = 16 ∧ vp_in (sI σ15 a0 2) (sN σ15 c18) ∧ ∀ σ22 : Sg, σ22 = pI σ15 c18 (sI σ15 a0 2).toNatClampNeg v2 → ∃ c25 : Nat, sR σ22 a0 27 = some c25 ∧ sK σ22 c25 % 32 = 16 ∧ vp_in (sI σ22 a0 2) (sN σ22 c25) ∧ ∀ σ29 : Sg, σ29 = pI σ22 c25 (sI σ22 a0 2).toNatClampNeg v3 → ∃ c32 : Nat, sR σ29 a0 28 = some c32 ∧ sK σ29 c32 % 32 = 16 ∧ vp_in (sI σ29 a0 2) (sN σ29 c32) ∧ ∀ σ36 : Sg, σ36 = pI σ29 c32 (sI σ29 a0 2).toNatClampNeg v4 → ∀ σ39 : Sg, σ39 = pI σ36 a0 2 ((sI σ36 a0 2) + 1) → Q ((sI σ39 a0 2) - 1) σ39)))))))))
set_option maxHeartbeats 4000000 in
set_option maxRecDepth 100000 in
theorem k_X11_roof (l : Launch) (D : Dg) (a0 : Nat) (v1 : Int32) (v2 : Int32) (v3 : Int32) (v4 : Int32) (σ : Sg) (Q : Int32 → Sg → Prop) (h : P_X11_roof a0 v1 v2 v3 v4 σ Q) : CtrY RN l D yX11_roof cX11_roof 5 (some FieldType.int) 2 43 mkI [.ref a0, .int v1, .int v2, .int v3, .int v4] σ (0, 0) Q := by
  refine y_ctrN (lv := [(0, va_rf (some a0)), (1, .int v1), (2, .int v2), (3, .int v3), (4, .int v4)]) (by decide) (by (exact Nat.le_of_ble_eq_true rfl)) (by (exact rfl)) (fun g hg hgL hgD hrm hgN hgI hend => ?_)
  subst hgD
  clear hgL
  unfold P_X11_roof at h
  refine y_aload_n hg 0 dX11_roof_0 rfl rfl ?_
  refine y_iload_n hg 1 dX11_roof_1 rfl rfl ?_
  obtain ⟨h1, h⟩ := h
  refine yVIP (Qp := _) (rest := []) (As := [.int v1]) hg (k_X11_isCorner (gL g.1) (gD g.1) a0 v1 σ _ h) lv_X11_198 rfl h1 rfl rfl dX11_roof_2 (cat8 (Nat.le_of_ble_eq_true rfl)) hrm ⟨Nat.le_of_ble_eq_true rfl, Nat.le_of_ble_eq_true rfl⟩ (fun x2 h => ?_)
  refine y_if_eq (tgt := 49) hg dX11_roof_5 (by decide) (fun q3 => ?_) (fun q3 => ?_)
  · replace h := h.1 q3
    refine y_iconst (v := (-1)) hg dX11_roof_49 (by decide) ?_
    exact yEndI hend rfl dX11_roof_50 h
  · replace h := h.2 q3
    refine y_iload_n hg 2 dX11_roof_8 rfl rfl ?_
    refine y_iconst (v := 0) hg dX11_roof_9 (by decide) ?_
    refine y_bipush (v := 19) hg dX11_roof_10 (by decide) ?_
    refine ySIP (Qp := _) (rest := []) (As := [.int v2, .int 0, .int 19]) hg (k_X11_isIn (gL g.1) (gD g.1) v2 0 19 σ _ h) ls_X11_194 rfl rfl dX11_roof_12 (cat8 (Nat.le_of_ble_eq_true rfl)) hrm ⟨Nat.le_of_ble_eq_true rfl, Nat.le_of_ble_eq_true rfl⟩ (fun x4 h => ?_)
    refine y_if_eq (tgt := 49) hg dX11_roof_15 (by decide) (fun q5 => ?_) (fun q5 => ?_)
    · replace h := h.1 q5
      refine y_iconst (v := (-1)) hg dX11_roof_49 (by decide) ?_
      exact yEndI hend rfl dX11_roof_50 h
    · replace h := h.2 q5
      refine y_iload_n hg 3 dX11_roof_18 rfl rfl ?_
      refine y_iconst (v := 1) hg dX11_roof_19 (by decide) ?_
      refine y_bipush (v := 50) hg dX11_roof_20 (by decide) ?_
      refine ySIP (Qp := _) (rest := []) (As := [.int v3, .int 1, .int 50]) hg (k_X11_isIn (gL g.1) (gD g.1) v3 1 50 σ _ h) ls_X11_194 rfl rfl dX11_roof_22 (cat8 (Nat.le_of_ble_eq_true rfl)) hrm ⟨Nat.le_of_ble_eq_true rfl, Nat.le_of_ble_eq_true rfl⟩ (fun x6 h => ?_)
      refine y_if_eq (tgt := 49) hg dX11_roof_25 (by decide) (fun q7 => ?_) (fun q7 => ?_)
      · replace h := h.1 q7
        refine y_iconst (v := (-1)) hg dX11_roof_49 (by decide) ?_
        exact yEndI hend rfl dX11_roof_50 h
      · replace h := h.2 q7
        refine y_iload hg 4 dX11_roof_28 rfl ?_
        refine y_iconst (v := 0) hg dX11_roof_30 (by decide) ?_
        refine y_sipush (v := 200) hg dX11_roof_31 (by decide) ?_
        refine ySIP (Qp := _) (rest := []) (As := [.int v4, .int 0, .int 200]) hg (k_X11_isIn (gL g.1) (gD g.1) v4 0 200 σ _ h) ls_X11_194 rfl rfl dX11_roof_34 (cat8 (Nat.le_of_ble_eq_true rfl)) hrm ⟨Nat.le_of_ble_eq_true rfl, Nat.le_of_ble_eq_true rfl⟩ (fun x8 h => ?_)
        refine y_if_eq (tgt := 49) hg dX11_roof_37 (by decide) (fun q9 => ?_) (fun q9 => ?_)
        · replace h := h.1 q9
          refine y_iconst (v := (-1)) hg dX11_roof_49 (by decide) ?_
          exact yEndI hend rfl dX11_roof_50 h
        · replace h := h.2 q9
          refine y_aload_n hg 0 dX11_roof_40 rfl rfl ?_
          refine y_getI hg fl_X11_202 rfl rfl h1 dX11_roof_41 ?_
          refine y_bipush (v := 30) hg dX11_roof_44 (by decide) ?_
          refine y_icmp_ne (tgt := 51) hg dX11_roof_46 (by decide) (fun q10 => ?_) (fun q10 => ?_)
          · replace h := h.2 q10
            refine y_aload_n hg 0 dX11_roof_51 rfl rfl ?_
            refine y_getR hg fl_X11_65 rfl rfl h1 dX11_roof_52 ?_
            refine y_aload_n hg 0 dX11_roof_55 rfl rfl ?_
            refine y_getI hg fl_X11_202 rfl rfl h1 dX11_roof_56 ?_
            refine y_iload_n hg 1 dX11_roof_59 rfl rfl ?_
            obtain ⟨c11, h12, h⟩ := h
            obtain ⟨h13, h⟩ := h
            obtain ⟨h14, h⟩ := h
            refine y_iast hg h12 h13 h14 dX11_roof_60 ?_
            refine y_nmS (fun σ15 e16 => ?_)
            replace h := h σ15 e16
            have E17 : sK σ15 = sK σ := by rw [e16]; rfl
            refine y_aload_n hg 0 dX11_roof_61 rfl rfl ?_
            refine y_getR hg fl_X11_68 rfl rfl (kq E17 h1) dX11_roof_62 ?_
            refine y_aload_n hg 0 dX11_roof_65 rfl rfl ?_
            refine y_getI hg fl_X11_202 rfl rfl (kq E17 h1) dX11_roof_66 ?_
            refine y_iload_n hg 2 dX11_roof_69 rfl rfl ?_
            obtain ⟨c18, h19, h⟩ := h
            obtain ⟨h20, h⟩ := h
            obtain ⟨h21, h⟩ := h
            refine y_iast hg h19 h20 h21 dX11_roof_70 ?_
            refine y_nmS (fun σ22 e23 => ?_)
            replace h := h σ22 e23
            have E24 : sK σ22 = sK σ15 := by rw [e23]; rfl
            refine y_aload_n hg 0 dX11_roof_71 rfl rfl ?_
            refine y_getR hg fl_X11_71 rfl rfl (kq E24 (kq E17 h1)) dX11_roof_72 ?_
            refine y_aload_n hg 0 dX11_roof_75 rfl rfl ?_
            refine y_getI hg fl_X11_202 rfl rfl (kq E24 (kq E17 h1)) dX11_roof_76 ?_
            refine y_iload_n hg 3 dX11_roof_79 rfl rfl ?_
            obtain ⟨c25, h26, h⟩ := h
            obtain ⟨h27, h⟩ := h
            obtain ⟨h28, h⟩ := h
            refine y_iast hg h26 h27 h28 dX11_roof_80 ?_
            refine y_nmS (fun σ29 e30 => ?_)
            replace h := h σ29 e30
            have E31 : sK σ29 = sK σ22 := by rw [e30]; rfl
            refine y_aload_n hg 0 dX11_roof_81 rfl rfl ?_
            refine y_getR hg fl_X11_74 rfl rfl (kq E31 (kq E24 (kq E17 h1))) dX11_roof_82 ?_
            refine y_aload_n hg 0 dX11_roof_85 rfl rfl ?_
            refine y_getI hg fl_X11_202 rfl rfl (kq E31 (kq E24 (kq E17 h1))) dX11_roof_86 ?_
            refine y_iload hg 4 dX11_roof_89 rfl ?_
            obtain ⟨c32, h33, h⟩ := h
            obtain ⟨h34, h⟩ := h
            obtain ⟨h35, h⟩ := h
            refine y_iast hg h33 h34 h35 dX11_roof_91 ?_
            refine y_nmS (fun σ36 e37 => ?_)
            replace h := h σ36 e37
            have E38 : sK σ36 = sK σ29 := by rw [e37]; rfl
            refine y_aload_n hg 0 dX11_roof_92 rfl rfl ?_
            refine y_dup hg dX11_roof_93 rfl ?_
            refine y_getI hg fl_X11_202 rfl rfl (kq E38 (kq E31 (kq E24 (kq E17 h1)))) dX11_roof_94 ?_
            refine y_iconst (v := 1) hg dX11_roof_97 (by decide) ?_
            refine y_iadd hg dX11_roof_98 ?_
            refine y_putI hg fw_X11_202 (fun z => nomatch z) rfl (kq E38 (kq E31 (kq E24 (kq E17 h1)))) dX11_roof_99 ?_
            refine y_nmS (fun σ39 e40 => ?_)
            replace h := h σ39 e40
            have E41 : sK σ39 = sK σ36 := by rw [e40]; rfl
            refine y_aload_n hg 0 dX11_roof_102 rfl rfl ?_
            refine y_getI hg fl_X11_202 rfl rfl (kq E41 (kq E38 (kq E31 (kq E24 (kq E17 h1))))) dX11_roof_103 ?_
            refine y_iconst (v := 1) hg dX11_roof_106 (by decide) ?_
            refine y_isub hg dX11_roof_107 ?_
            exact yEndI hend rfl dX11_roof_108 h
          · replace h := h.1 q10
            refine y_iconst (v := (-1)) hg dX11_roof_49 (by decide) ?_
            exact yEndI hend rfl dX11_roof_50 h
def P_X11_lot (a0 : Nat) (v1 : Int32) (v2 : Int32) (σ : Sg) (Q : Int32 → Sg → Prop) : Prop :=
  P_X11_isIn v1 0 9 σ (fun x1 => (x1 = 0 → Q 0 σ) ∧ (¬ (x1 = 0) → P_X11_isIn v2 1 100 σ (fun x3 => (x3 = 0 → Q 0 σ) ∧ (¬ (x3 = 0) → sK σ a0 % 32 = 13 ∧ ∃ c6 : Nat, sR σ a0 31 = some c6 ∧ sK σ c6 % 32 = 16 ∧ vp_in v1 (sN σ c6) ∧ ∀ σ10 : Sg, σ10 = pI σ c6 v1.toNatClampNeg v2 → Q 1 σ10))))
set_option maxHeartbeats 4000000 in
set_option maxRecDepth 100000 in
theorem k_X11_lot (l : Launch) (D : Dg) (a0 : Nat) (v1 : Int32) (v2 : Int32) (σ : Sg) (Q : Int32 → Sg → Prop) (h : P_X11_lot a0 v1 v2 σ Q) : CtrY RN l D yX11_lot cX11_lot 3 (some FieldType.boolean) 1 22 mkI [.ref a0, .int v1, .int v2] σ (0, 0) Q := by
  refine y_ctrN (lv := [(0, va_rf (some a0)), (1, .int v1), (2, .int v2)]) (by decide) (by (exact Nat.le_of_ble_eq_true rfl)) (by (exact rfl)) (fun g hg hgL hgD hrm hgN hgI hend => ?_)
  subst hgD
  clear hgL
  unfold P_X11_lot at h
  refine y_iload_n hg 1 dX11_lot_0 rfl rfl ?_
  refine y_iconst (v := 0) hg dX11_lot_1 (by decide) ?_
  refine y_bipush (v := 9) hg dX11_lot_2 (by decide) ?_
  refine ySIP (Qp := _) (rest := []) (As := [.int v1, .int 0, .int 9]) hg (k_X11_isIn (gL g.1) (gD g.1) v1 0 9 σ _ h) ls_X11_194 rfl rfl dX11_lot_4 (cat8 (Nat.le_of_ble_eq_true rfl)) hrm ⟨Nat.le_of_ble_eq_true rfl, Nat.le_of_ble_eq_true rfl⟩ (fun x1 h => ?_)
  refine y_if_eq (tgt := 20) hg dX11_lot_7 (by decide) (fun q2 => ?_) (fun q2 => ?_)
  · replace h := h.1 q2
    refine y_iconst (v := 0) hg dX11_lot_20 (by decide) ?_
    exact yEndI hend (bz_nar (Or.inl rfl)).1 dX11_lot_21 h
  · replace h := h.2 q2
    refine y_iload_n hg 2 dX11_lot_10 rfl rfl ?_
    refine y_iconst (v := 1) hg dX11_lot_11 (by decide) ?_
    refine y_bipush (v := 100) hg dX11_lot_12 (by decide) ?_
    refine ySIP (Qp := _) (rest := []) (As := [.int v2, .int 1, .int 100]) hg (k_X11_isIn (gL g.1) (gD g.1) v2 1 100 σ _ h) ls_X11_194 rfl rfl dX11_lot_14 (cat8 (Nat.le_of_ble_eq_true rfl)) hrm ⟨Nat.le_of_ble_eq_true rfl, Nat.le_of_ble_eq_true rfl⟩ (fun x3 h => ?_)
    refine y_if_ne (tgt := 22) hg dX11_lot_17 (by decide) (fun q4 => ?_) (fun q4 => ?_)
    · replace h := h.2 q4
      refine y_aload_n hg 0 dX11_lot_22 rfl rfl ?_
      obtain ⟨h5, h⟩ := h
      refine y_getR hg fl_X11_83 rfl rfl h5 dX11_lot_23 ?_
      refine y_iload_n hg 1 dX11_lot_26 rfl rfl ?_
      refine y_iload_n hg 2 dX11_lot_27 rfl rfl ?_
      obtain ⟨c6, h7, h⟩ := h
      obtain ⟨h8, h⟩ := h
      obtain ⟨h9, h⟩ := h
      refine y_iast hg h7 h8 h9 dX11_lot_28 ?_
      refine y_nmS (fun σ10 e11 => ?_)
      replace h := h σ10 e11
      have E12 : sK σ10 = sK σ := by rw [e11]; rfl
      refine y_iconst (v := 1) hg dX11_lot_29 (by decide) ?_
      exact yEndI hend (bz_nar (Or.inr rfl)).1 dX11_lot_30 h
    · replace h := h.1 q4
      refine y_iconst (v := 0) hg dX11_lot_20 (by decide) ?_
      exact yEndI hend (bz_nar (Or.inl rfl)).1 dX11_lot_21 h
def P_X11_parked_B41 (a0 : Nat) (v1 : Int32) (v3 : Int32) (w0 : Int32) (w1 : Int32) (σ : Sg) (Q : Int32 → Prop) (K4 : Int32 → Int32 → Prop) : Prop :=
  ∀ x14 : Int32, x14 = w0 + w1 → ∀ x16 : Int32, x16 = v3 + 1 → K4 x14 x16
def P_X11_parked_B31 (a0 : Nat) (v1 : Int32) (v3 : Int32) (w0 : Int32) (σ : Sg) (Q : Int32 → Prop) (K4 : Int32 → Int32 → Prop) : Prop :=
  sK σ a0 % 32 = 13 ∧ ∃ c10 : Nat, sR σ a0 9 = some c10 ∧ sK σ c10 % 32 = 16 ∧ vp_in v3 (sN σ c10) ∧ P_X11_parked_B41 a0 v1 v3 w0 (sI σ c10 v3.toNatClampNeg) σ Q K4
def P_X11_parked_L4b (a0 : Nat) (v1 : Int32) (v2 : Int32) (v3 : Int32) (σ : Sg) (Q : Int32 → Prop) (K4 : Int32 → Int32 → Prop) : Prop :=
  sK σ a0 % 32 = 13 ∧ ((sI σ a0 1) ≤ v3 → Q v2) ∧ (¬ ((sI σ a0 1) ≤ v3) → ∃ c3 : Nat, sR σ a0 12 = some c3 ∧ sK σ c3 % 32 = 18 ∧ vp_in v3 (sN σ c3) ∧ ((sI σ c3 v3.toNatClampNeg) = 0 → (((v1 >>> (v3 &&& 31)) &&& 1) = 1 → P_X11_parked_B31 a0 v1 v3 v2 σ Q K4) ∧ (¬ (((v1 >>> (v3 &&& 31)) &&& 1) = 1) → P_X11_parked_B41 a0 v1 v3 v2 0 σ Q K4)) ∧ (¬ ((sI σ c3 v3.toNatClampNeg) = 0) → P_X11_parked_B31 a0 v1 v3 v2 σ Q K4))
def P_X11_parked_L4 (a0 : Nat) (v1 : Int32) (v2 : Int32) (v3 : Int32) (σ : Sg) (Q : Int32 → Prop) : Prop :=
  ∃ I : Nat → Int32 → Int32 → Prop, (∃ n, I n v2 v3) ∧ ∀ (n : Nat) (v2 : Int32) (v3 : Int32), I n v2 v3 → P_X11_parked_L4b a0 v1 v2 v3 σ Q (fun v2 v3 => ∃ n', n' < n ∧ I n' v2 v3)
def P_X11_parked (a0 : Nat) (v1 : Int32) (σ : Sg) (Q : Int32 → Prop) : Prop :=
  P_X11_parked_L4 a0 v1 0 0 σ Q
set_option maxHeartbeats 4000000 in
set_option maxRecDepth 100000 in
theorem k_X11_parked (l : Launch) (D : Dg) (a0 : Nat) (v1 : Int32) (σ : Sg) (Q : Int32 → Prop) (h : P_X11_parked a0 v1 σ Q) : CtrY RN l D yX11_parked cX11_parked 4 (some FieldType.int) 0 0 mkI [.ref a0, .int v1] σ (0, 0) (fun r σ2 => Q r ∧ σ2 = σ) := by
  refine y_ctrN (lv := [(0, va_rf (some a0)), (1, .int v1)]) (by decide) (by (exact Nat.le_of_ble_eq_true rfl)) (by (exact rfl)) (fun g hg hgL hgD hrm hgN hgI hend => ?_)
  subst hgD
  clear hgL
  unfold P_X11_parked at h
  have J4 : ∀ (v1 : Int32) (v2 : Int32) (v3 : Int32), P_X11_parked_L4 a0 v1 v2 v3 σ Q → XA g 4 [(0, va_rf (some a0)), (1, .int v1), (2, .int v2), (3, .int v3)] [] σ (0, 0) := by
    intro v1 v2 v3 h
    unfold P_X11_parked_L4 at h
    obtain ⟨I4, ⟨n4, hI4⟩, hs4⟩ := h
    have key4 : ∀ (n : Nat), ∀ (v2 : Int32) (v3 : Int32), I4 n v2 v3 → XA g 4 [(0, va_rf (some a0)), (1, .int v1), (2, .int v2), (3, .int v3)] [] σ (0, 0) := by
      intro n
      induction n using Nat.strongRecOn with
      | _ n ih4 =>
      intro v2 v3 hI
      have h := hs4 n v2 v3 hI
      clear hI hI4 hs4
      obtain ⟨K4, hK4⟩ : ∃ K : Int32 → Int32 → Prop, K = (fun v2 v3 => ∃ n', n' < n ∧ I4 n' v2 v3) := ⟨_, rfl⟩
      rw [← hK4] at h
      unfold P_X11_parked_L4b at h
      have J41 : ∀ (v3 : Int32) (w0 : Int32) (w1 : Int32), P_X11_parked_B41 a0 v1 v3 w0 w1 σ Q K4 → XA g 41 [(0, va_rf (some a0)), (1, .int v1), (3, .int v3)] [.int w1, .int w0] σ (0, 0) := by
        intro v3 w0 w1 h
        unfold P_X11_parked_B41 at h
        refine y_iadd hg dX11_parked_41 ?_
        refine y_nmI (fun x14 e15 => ?_)
        replace h := h x14 e15
        refine y_istore_n (lv' := [(2, .int x14), (0, va_rf (some a0)), (1, .int v1), (3, .int v3)]) hg dX11_parked_42 rfl (by rw [hgN]; decide) rfl ?_
        obtain ⟨x16, e17⟩ : ∃ y : Int32, y = v3 + 1 := ⟨_, rfl⟩
        replace h := h x16 e17
        refine y_iinc (v := x16) (lv' := [(3, .int x16), (2, .int x14), (0, va_rf (some a0)), (1, .int v1)]) hg 3 dX11_parked_43 rfl (by rw [e17]; rfl) (by rw [hgN]; decide) rfl ?_
        refine y_goto (tgt := 4) hg dX11_parked_46 (by decide) ?_
        refine y_sub [2, 3, 1, 0] rfl ?_
        subst hK4
        obtain ⟨n18, h19, h⟩ := h
        exact ih4 n18 h19 _ _ h
      have J31 : ∀ (v3 : Int32) (w0 : Int32), P_X11_parked_B31 a0 v1 v3 w0 σ Q K4 → XA g 31 [(0, va_rf (some a0)), (1, .int v1), (3, .int v3)] [.int w0] σ (0, 0) := by
        intro v3 w0 h
        unfold P_X11_parked_B31 at h
        refine y_aload_n hg 0 dX11_parked_31 rfl rfl ?_
        obtain ⟨h9, h⟩ := h
        refine y_getR hg fl_X11_16 rfl rfl h9 dX11_parked_32 ?_
        refine y_iload_n hg 2 dX11_parked_35 rfl rfl ?_
        obtain ⟨c10, h11, h⟩ := h
        obtain ⟨h12, h⟩ := h
        obtain ⟨h13, h⟩ := h
        refine y_iald hg h11 h12 h13 dX11_parked_36 ?_
        refine y_goto (tgt := 41) hg dX11_parked_37 (by decide) ?_
        refine y_sub [0, 1, 2] rfl ?_
        exact J41 _ _ _ h
      refine y_iload_n hg 3 dX11_parked_4 rfl rfl ?_
      refine y_aload_n hg 0 dX11_parked_5 rfl rfl ?_
      obtain ⟨h1, h⟩ := h
      refine y_getI hg fl_X11_191 rfl rfl h1 dX11_parked_6 ?_
      refine y_icmp_ge (tgt := 49) hg dX11_parked_9 (by decide) (fun q2 => ?_) (fun q2 => ?_)
      · replace h := h.1 q2
        refine y_iload_n hg 2 dX11_parked_49 rfl rfl ?_
        exact yEndI hend rfl dX11_parked_50 ⟨h, rfl⟩
      · replace h := h.2 q2
        refine y_iload_n hg 2 dX11_parked_12 rfl rfl ?_
        refine y_aload_n hg 0 dX11_parked_13 rfl rfl ?_
        refine y_getR hg fl_X11_25 rfl rfl h1 dX11_parked_14 ?_
        refine y_iload_n hg 3 dX11_parked_17 rfl rfl ?_
        obtain ⟨c3, h4, h⟩ := h
        obtain ⟨h5, h⟩ := h
        obtain ⟨h6, h⟩ := h
        refine y_zald hg h4 h5 h6 dX11_parked_18 ?_
        refine y_if_ne (tgt := 31) hg dX11_parked_19 (by decide) (fun q7 => ?_) (fun q7 => ?_)
        · replace h := h.2 q7
          refine y_sub [0, 1, 3] rfl ?_
          exact J31 _ _ h
        · replace h := h.1 q7
          refine y_iload_n hg 1 dX11_parked_22 rfl rfl ?_
          refine y_iload_n hg 3 dX11_parked_23 rfl rfl ?_
          refine y_ishr hg dX11_parked_24 ?_
          refine y_iconst (v := 1) hg dX11_parked_25 (by decide) ?_
          refine y_iand hg dX11_parked_26 ?_
          refine y_iconst (v := 1) hg dX11_parked_27 (by decide) ?_
          refine y_icmp_ne (tgt := 40) hg dX11_parked_28 (by decide) (fun q8 => ?_) (fun q8 => ?_)
          · replace h := h.2 q8
            refine y_iconst (v := 0) hg dX11_parked_40 (by decide) ?_
            refine y_sub [0, 1, 3] rfl ?_
            exact J41 _ _ _ h
          · replace h := h.1 q8
            refine y_sub [0, 1, 3] rfl ?_
            exact J31 _ _ h
    exact key4 n4 v2 v3 hI4
  refine y_iconst (v := 0) hg dX11_parked_0 (by decide) ?_
  refine y_istore_n (lv' := [(2, .int 0), (0, va_rf (some a0)), (1, .int v1)]) hg dX11_parked_1 rfl (by rw [hgN]; decide) rfl ?_
  refine y_iconst (v := 0) hg dX11_parked_2 (by decide) ?_
  refine y_istore_n (lv' := [(3, .int 0), (2, .int 0), (0, va_rf (some a0)), (1, .int v1)]) hg dX11_parked_3 rfl (by rw [hgN]; decide) rfl ?_
  refine y_sub [2, 3, 1, 0] rfl ?_
  exact J4 _ _ _ h
def P_X11_plain (v0 : Int32) (σ : Sg) (Q : Int32 → Prop) : Prop :=
  ∀ y1 : Int32, y1 = v0 → (y1 = 0 → Q 2) ∧ (¬ (y1 = 0) → (y1 = 1 → Q 250) ∧ (¬ (y1 = 1) → (y1 = 2 → Q 320) ∧ (¬ (y1 = 2) → (y1 = 3 → Q 3) ∧ (¬ (y1 = 3) → (y1 = 4 → Q 20) ∧ (¬ (y1 = 4) → (y1 = 5 → Q 30) ∧ (¬ (y1 = 5) → (y1 = 6 → Q 3) ∧ (¬ (y1 = 6) → (y1 = 7 → Q 5) ∧ (¬ (y1 = 7) → (y1 = 8 → Q 2) ∧ (¬ (y1 = 8) → (y1 = 9 → Q 10) ∧ (¬ (y1 = 9) → (y1 = 10 → Q 50) ∧ (¬ (y1 = 10) → (y1 = 11 → Q 1) ∧ (¬ (y1 = 11) → (y1 = 12 → Q 10) ∧ (¬ (y1 = 12) → (y1 = 13 → Q 80) ∧ (¬ (y1 = 13) → (y1 = 14 → Q 100) ∧ (¬ (y1 = 14) → (y1 = 15 → Q 50) ∧ (¬ (y1 = 15) → (y1 = 16 → Q 80) ∧ (¬ (y1 = 16) → (y1 = 17 → Q 20) ∧ (¬ (y1 = 17) → (y1 = 18 → Q 50) ∧ (¬ (y1 = 18) → (y1 = 19 → Q 0) ∧ (¬ (y1 = 19) → Q 20))))))))))))))))))))
set_option maxHeartbeats 4000000 in
set_option maxRecDepth 100000 in
theorem k_X11_plain (l : Launch) (D : Dg) (v0 : Int32) (σ : Sg) (Q : Int32 → Prop) (h : P_X11_plain v0 σ Q) : CtrY RN l D yX11_plain cX11_plain 1 (some FieldType.int) 0 0 mkI [.int v0] σ (0, 0) (fun r σ2 => Q r ∧ σ2 = σ) := by
  refine y_ctrN (lv := [(0, .int v0)]) (by decide) (by (exact Nat.le_of_ble_eq_true rfl)) (by (exact rfl)) (fun g hg hgL hgD hrm hgN hgI hend => ?_)
  subst hgD
  clear hgL
  unfold P_X11_plain at h
  refine y_iload_n hg 0 dX11_plain_0 rfl rfl ?_
  refine y_nmI (fun y1 e2 => ?_)
  replace h := h y1 e2
  by_cases q1_0 : y1 = 0
  · replace h := h.1 q1_0
    refine y_tableIn (tgt := 96) hg dX11_plain_1 (by rw [q1_0]; decide) (by rw [q1_0]; decide) (by rw [q1_0]; rfl) (by decide) ?_
    refine y_iconst (v := 2) hg dX11_plain_96 (by decide) ?_
    exact yEndI hend rfl dX11_plain_97 ⟨h, rfl⟩
  · replace h := h.2 q1_0
    by_cases q1_1 : y1 = 1
    · replace h := h.1 q1_1
      refine y_tableIn (tgt := 98) hg dX11_plain_1 (by rw [q1_1]; decide) (by rw [q1_1]; decide) (by rw [q1_1]; rfl) (by decide) ?_
      refine y_sipush (v := 250) hg dX11_plain_98 (by decide) ?_
      exact yEndI hend rfl dX11_plain_101 ⟨h, rfl⟩
    · replace h := h.2 q1_1
      by_cases q1_2 : y1 = 2
      · replace h := h.1 q1_2
        refine y_tableIn (tgt := 102) hg dX11_plain_1 (by rw [q1_2]; decide) (by rw [q1_2]; decide) (by rw [q1_2]; rfl) (by decide) ?_
        refine y_sipush (v := 320) hg dX11_plain_102 (by decide) ?_
        exact yEndI hend rfl dX11_plain_105 ⟨h, rfl⟩
      · replace h := h.2 q1_2
        by_cases q1_3 : y1 = 3
        · replace h := h.1 q1_3
          refine y_tableIn (tgt := 106) hg dX11_plain_1 (by rw [q1_3]; decide) (by rw [q1_3]; decide) (by rw [q1_3]; rfl) (by decide) ?_
          refine y_iconst (v := 3) hg dX11_plain_106 (by decide) ?_
          exact yEndI hend rfl dX11_plain_107 ⟨h, rfl⟩
        · replace h := h.2 q1_3
          by_cases q1_4 : y1 = 4
          · replace h := h.1 q1_4
            refine y_tableIn (tgt := 108) hg dX11_plain_1 (by rw [q1_4]; decide) (by rw [q1_4]; decide) (by rw [q1_4]; rfl) (by decide) ?_
            refine y_bipush (v := 20) hg dX11_plain_108 (by decide) ?_
            exact yEndI hend rfl dX11_plain_110 ⟨h, rfl⟩
          · replace h := h.2 q1_4
            by_cases q1_5 : y1 = 5
            · replace h := h.1 q1_5
              refine y_tableIn (tgt := 111) hg dX11_plain_1 (by rw [q1_5]; decide) (by rw [q1_5]; decide) (by rw [q1_5]; rfl) (by decide) ?_
              refine y_bipush (v := 30) hg dX11_plain_111 (by decide) ?_
              exact yEndI hend rfl dX11_plain_113 ⟨h, rfl⟩
            · replace h := h.2 q1_5
              by_cases q1_6 : y1 = 6
              · replace h := h.1 q1_6
                refine y_tableIn (tgt := 114) hg dX11_plain_1 (by rw [q1_6]; decide) (by rw [q1_6]; decide) (by rw [q1_6]; rfl) (by decide) ?_
                refine y_iconst (v := 3) hg dX11_plain_114 (by decide) ?_
                exact yEndI hend rfl dX11_plain_115 ⟨h, rfl⟩
              · replace h := h.2 q1_6
                by_cases q1_7 : y1 = 7
                · replace h := h.1 q1_7
                  refine y_tableIn (tgt := 116) hg dX11_plain_1 (by rw [q1_7]; decide) (by rw [q1_7]; decide) (by rw [q1_7]; rfl) (by decide) ?_
                  refine y_iconst (v := 5) hg dX11_plain_116 (by decide) ?_
                  exact yEndI hend rfl dX11_plain_117 ⟨h, rfl⟩
                · replace h := h.2 q1_7
                  by_cases q1_8 : y1 = 8
                  · replace h := h.1 q1_8
                    refine y_tableIn (tgt := 118) hg dX11_plain_1 (by rw [q1_8]; decide) (by rw [q1_8]; decide) (by rw [q1_8]; rfl) (by decide) ?_
                    refine y_iconst (v := 2) hg dX11_plain_118 (by decide) ?_
                    exact yEndI hend rfl dX11_plain_119 ⟨h, rfl⟩
                  · replace h := h.2 q1_8
                    by_cases q1_9 : y1 = 9
                    · replace h := h.1 q1_9
                      refine y_tableIn (tgt := 120) hg dX11_plain_1 (by rw [q1_9]; decide) (by rw [q1_9]; decide) (by rw [q1_9]; rfl) (by decide) ?_
                      refine y_bipush (v := 10) hg dX11_plain_120 (by decide) ?_
                      exact yEndI hend rfl dX11_plain_122 ⟨h, rfl⟩
                    · replace h := h.2 q1_9
                      by_cases q1_10 : y1 = 10
                      · replace h := h.1 q1_10
                        refine y_tableIn (tgt := 123) hg dX11_plain_1 (by rw [q1_10]; decide) (by rw [q1_10]; decide) (by rw [q1_10]; rfl) (by decide) ?_
                        refine y_bipush (v := 50) hg dX11_plain_123 (by decide) ?_
                        exact yEndI hend rfl dX11_plain_125 ⟨h, rfl⟩
                      · replace h := h.2 q1_10
                        by_cases q1_11 : y1 = 11
                        · replace h := h.1 q1_11
                          refine y_tableIn (tgt := 126) hg dX11_plain_1 (by rw [q1_11]; decide) (by rw [q1_11]; decide) (by rw [q1_11]; rfl) (by decide) ?_
                          refine y_iconst (v := 1) hg dX11_plain_126 (by decide) ?_
                          exact yEndI hend rfl dX11_plain_127 ⟨h, rfl⟩
                        · replace h := h.2 q1_11
                          by_cases q1_12 : y1 = 12
                          · replace h := h.1 q1_12
                            refine y_tableIn (tgt := 128) hg dX11_plain_1 (by rw [q1_12]; decide) (by rw [q1_12]; decide) (by rw [q1_12]; rfl) (by decide) ?_
                            refine y_bipush (v := 10) hg dX11_plain_128 (by decide) ?_
                            exact yEndI hend rfl dX11_plain_130 ⟨h, rfl⟩
                          · replace h := h.2 q1_12
                            by_cases q1_13 : y1 = 13
                            · replace h := h.1 q1_13
                              refine y_tableIn (tgt := 131) hg dX11_plain_1 (by rw [q1_13]; decide) (by rw [q1_13]; decide) (by rw [q1_13]; rfl) (by decide) ?_
                              refine y_bipush (v := 80) hg dX11_plain_131 (by decide) ?_
                              exact yEndI hend rfl dX11_plain_133 ⟨h, rfl⟩
                            · replace h := h.2 q1_13
                              by_cases q1_14 : y1 = 14
                              · replace h := h.1 q1_14
                                refine y_tableIn (tgt := 134) hg dX11_plain_1 (by rw [q1_14]; decide) (by rw [q1_14]; decide) (by rw [q1_14]; rfl) (by decide) ?_
                                refine y_bipush (v := 100) hg dX11_plain_134 (by decide) ?_
                                exact yEndI hend rfl dX11_plain_136 ⟨h, rfl⟩
                              · replace h := h.2 q1_14
                                by_cases q1_15 : y1 = 15
                                · replace h := h.1 q1_15
                                  refine y_tableIn (tgt := 137) hg dX11_plain_1 (by rw [q1_15]; decide) (by rw [q1_15]; decide) (by rw [q1_15]; rfl) (by decide) ?_
                                  refine y_bipush (v := 50) hg dX11_plain_137 (by decide) ?_
                                  exact yEndI hend rfl dX11_plain_139 ⟨h, rfl⟩
                                · replace h := h.2 q1_15
                                  by_cases q1_16 : y1 = 16
                                  · replace h := h.1 q1_16
                                    refine y_tableIn (tgt := 140) hg dX11_plain_1 (by rw [q1_16]; decide) (by rw [q1_16]; decide) (by rw [q1_16]; rfl) (by decide) ?_
                                    refine y_bipush (v := 80) hg dX11_plain_140 (by decide) ?_
                                    exact yEndI hend rfl dX11_plain_142 ⟨h, rfl⟩
                                  · replace h := h.2 q1_16
                                    by_cases q1_17 : y1 = 17
                                    · replace h := h.1 q1_17
                                      refine y_tableIn (tgt := 143) hg dX11_plain_1 (by rw [q1_17]; decide) (by rw [q1_17]; decide) (by rw [q1_17]; rfl) (by decide) ?_
                                      refine y_bipush (v := 20) hg dX11_plain_143 (by decide) ?_
                                      exact yEndI hend rfl dX11_plain_145 ⟨h, rfl⟩
                                    · replace h := h.2 q1_17
                                      by_cases q1_18 : y1 = 18
                                      · replace h := h.1 q1_18
                                        refine y_tableIn (tgt := 146) hg dX11_plain_1 (by rw [q1_18]; decide) (by rw [q1_18]; decide) (by rw [q1_18]; rfl) (by decide) ?_
                                        refine y_bipush (v := 50) hg dX11_plain_146 (by decide) ?_
                                        exact yEndI hend rfl dX11_plain_148 ⟨h, rfl⟩
                                      · replace h := h.2 q1_18
                                        by_cases q1_19 : y1 = 19
                                        · replace h := h.1 q1_19
                                          refine y_tableIn (tgt := 149) hg dX11_plain_1 (by rw [q1_19]; decide) (by rw [q1_19]; decide) (by rw [q1_19]; rfl) (by decide) ?_
                                          refine y_iconst (v := 0) hg dX11_plain_149 (by decide) ?_
                                          exact yEndI hend rfl dX11_plain_150 ⟨h, rfl⟩
                                        · replace h := h.2 q1_19
                                          refine y_tableOut (tgt := 151) hg dX11_plain_1 (sw19_out q1_0 q1_1 q1_2 q1_3 q1_4 q1_5 q1_6 q1_7 q1_8 q1_9 q1_10 q1_11 q1_12 q1_13 q1_14 q1_15 q1_16 q1_17 q1_18 q1_19) (by decide) ?_
                                          refine y_bipush (v := 20) hg dX11_plain_151 (by decide) ?_
                                          exact yEndI hend rfl dX11_plain_153 ⟨h, rfl⟩
def P_X11_inForce_B24 (a0 : Nat) (v1 : Int32) (v2 : Int32) (v3 : Int32) (σ : Sg) (Q : Int32 → Prop) (K4 : Int32 → Int32 → Prop) : Prop :=
  ∀ x8 : Int32, x8 = v3 + 1 → K4 v2 x8
def P_X11_inForce_L4b (a0 : Nat) (v1 : Int32) (v2 : Int32) (v3 : Int32) (σ : Sg) (Q : Int32 → Prop) (K4 : Int32 → Int32 → Prop) : Prop :=
  sK σ a0 % 32 = 13 ∧ ((sI σ a0 67) ≤ v3 → Q v2) ∧ (¬ ((sI σ a0 67) ≤ v3) → ∃ c3 : Nat, sR σ a0 69 = some c3 ∧ sK σ c3 % 32 = 16 ∧ vp_in v3 (sN σ c3) ∧ (v1 < (sI σ c3 v3.toNatClampNeg) → P_X11_inForce_B24 a0 v1 v2 v3 σ Q K4) ∧ (¬ (v1 < (sI σ c3 v3.toNatClampNeg)) → P_X11_inForce_B24 a0 v1 v3 v3 σ Q K4))
def P_X11_inForce_L4 (a0 : Nat) (v1 : Int32) (v2 : Int32) (v3 : Int32) (σ : Sg) (Q : Int32 → Prop) : Prop :=
  ∃ I : Nat → Int32 → Int32 → Prop, (∃ n, I n v2 v3) ∧ ∀ (n : Nat) (v2 : Int32) (v3 : Int32), I n v2 v3 → P_X11_inForce_L4b a0 v1 v2 v3 σ Q (fun v2 v3 => ∃ n', n' < n ∧ I n' v2 v3)
def P_X11_inForce (a0 : Nat) (v1 : Int32) (σ : Sg) (Q : Int32 → Prop) : Prop :=
  P_X11_inForce_L4 a0 v1 (-1) 0 σ Q
set_option maxHeartbeats 4000000 in
set_option maxRecDepth 100000 in
theorem k_X11_inForce (l : Launch) (D : Dg) (a0 : Nat) (v1 : Int32) (σ : Sg) (Q : Int32 → Prop) (h : P_X11_inForce a0 v1 σ Q) : CtrY RN l D yX11_inForce cX11_inForce 4 (some FieldType.int) 0 0 mkI [.ref a0, .int v1] σ (0, 0) (fun r σ2 => Q r ∧ σ2 = σ) := by
  refine y_ctrN (lv := [(0, va_rf (some a0)), (1, .int v1)]) (by decide) (by (exact Nat.le_of_ble_eq_true rfl)) (by (exact rfl)) (fun g hg hgL hgD hrm hgN hgI hend => ?_)
  subst hgD
  clear hgL
  unfold P_X11_inForce at h
  have J4 : ∀ (v1 : Int32) (v2 : Int32) (v3 : Int32), P_X11_inForce_L4 a0 v1 v2 v3 σ Q → XA g 4 [(0, va_rf (some a0)), (1, .int v1), (2, .int v2), (3, .int v3)] [] σ (0, 0) := by
    intro v1 v2 v3 h
    unfold P_X11_inForce_L4 at h
    obtain ⟨I4, ⟨n4, hI4⟩, hs4⟩ := h
    have key4 : ∀ (n : Nat), ∀ (v2 : Int32) (v3 : Int32), I4 n v2 v3 → XA g 4 [(0, va_rf (some a0)), (1, .int v1), (2, .int v2), (3, .int v3)] [] σ (0, 0) := by
      intro n
      induction n using Nat.strongRecOn with
      | _ n ih4 =>
      intro v2 v3 hI
      have h := hs4 n v2 v3 hI
      clear hI hI4 hs4
      obtain ⟨K4, hK4⟩ : ∃ K : Int32 → Int32 → Prop, K = (fun v2 v3 => ∃ n', n' < n ∧ I4 n' v2 v3) := ⟨_, rfl⟩
      rw [← hK4] at h
      unfold P_X11_inForce_L4b at h
      have J24 : ∀ (v2 : Int32) (v3 : Int32), P_X11_inForce_B24 a0 v1 v2 v3 σ Q K4 → XA g 24 [(0, va_rf (some a0)), (1, .int v1), (2, .int v2), (3, .int v3)] [] σ (0, 0) := by
        intro v2 v3 h
        unfold P_X11_inForce_B24 at h
        obtain ⟨x8, e9⟩ : ∃ y : Int32, y = v3 + 1 := ⟨_, rfl⟩
        replace h := h x8 e9
        refine y_iinc (v := x8) (lv' := [(3, .int x8), (0, va_rf (some a0)), (1, .int v1), (2, .int v2)]) hg 3 dX11_inForce_24 rfl (by rw [e9]; rfl) (by rw [hgN]; decide) rfl ?_
        refine y_goto (tgt := 4) hg dX11_inForce_27 (by decide) ?_
        refine y_sub [1, 2, 3, 0] rfl ?_
        subst hK4
        obtain ⟨n10, h11, h⟩ := h
        exact ih4 n10 h11 _ _ h
      refine y_iload_n hg 3 dX11_inForce_4 rfl rfl ?_
      refine y_aload_n hg 0 dX11_inForce_5 rfl rfl ?_
      obtain ⟨h1, h⟩ := h
      refine y_getI hg fl_X11_419 rfl rfl h1 dX11_inForce_6 ?_
      refine y_icmp_ge (tgt := 30) hg dX11_inForce_9 (by decide) (fun q2 => ?_) (fun q2 => ?_)
      · replace h := h.1 q2
        refine y_iload_n hg 2 dX11_inForce_30 rfl rfl ?_
        exact yEndI hend rfl dX11_inForce_31 ⟨h, rfl⟩
      · replace h := h.2 q2
        refine y_aload_n hg 0 dX11_inForce_12 rfl rfl ?_
        refine y_getR hg fl_X11_162 rfl rfl h1 dX11_inForce_13 ?_
        refine y_iload_n hg 3 dX11_inForce_16 rfl rfl ?_
        obtain ⟨c3, h4, h⟩ := h
        obtain ⟨h5, h⟩ := h
        obtain ⟨h6, h⟩ := h
        refine y_iald hg h4 h5 h6 dX11_inForce_17 ?_
        refine y_iload_n hg 1 dX11_inForce_18 rfl rfl ?_
        refine y_icmp_gt (tgt := 24) hg dX11_inForce_19 (by decide) (fun q7 => ?_) (fun q7 => ?_)
        · replace h := h.1 q7
          refine y_sub [0, 1, 2, 3] rfl ?_
          exact J24 _ _ h
        · replace h := h.2 q7
          refine y_iload_n hg 3 dX11_inForce_22 rfl rfl ?_
          refine y_istore_n (lv' := [(2, .int v3), (0, va_rf (some a0)), (1, .int v1), (3, .int v3)]) hg dX11_inForce_23 rfl (by rw [hgN]; decide) rfl ?_
          refine y_sub [1, 2, 0, 3] rfl ?_
          exact J24 _ _ h
    exact key4 n4 v2 v3 hI4
  refine y_iconst (v := (-1)) hg dX11_inForce_0 (by decide) ?_
  refine y_istore_n (lv' := [(2, .int (-1)), (0, va_rf (some a0)), (1, .int v1)]) hg dX11_inForce_1 rfl (by rw [hgN]; decide) rfl ?_
  refine y_iconst (v := 0) hg dX11_inForce_2 (by decide) ?_
  refine y_istore_n (lv' := [(3, .int 0), (2, .int (-1)), (0, va_rf (some a0)), (1, .int v1)]) hg dX11_inForce_3 rfl (by rw [hgN]; decide) rfl ?_
  refine y_sub [2, 3, 1, 0] rfl ?_
  exact J4 _ _ _ h
def P_X11_lawOn_B220 (a0 : Nat) (v2 : Int32) (v3 : Int32) (v4 : Int32) (v5 : Int32) (σ : Sg) (Q : Int32 → Prop) (K19 : Int32 → Int32 → Prop) : Prop :=
  ∀ x99 : Int32, x99 = v5 + 1 → K19 v3 x99
def P_X11_lawOn_B184 (a0 : Nat) (v2 : Int32) (v3 : Int32) (v4 : Int32) (v5 : Int32) (σ : Sg) (Q : Int32 → Prop) (K19 : Int32 → Int32 → Prop) : Prop :=
  sK σ a0 % 32 = 13 ∧ ∃ c83 : Nat, sR σ a0 70 = some c83 ∧ sK σ c83 % 32 = 16 ∧ vp_in v5 (sN σ c83) ∧ ((sI σ c83 v5.toNatClampNeg) = 31 → ∃ c88 : Nat, sR σ a0 71 = some c88 ∧ sK σ c88 % 32 = 16 ∧ vp_in v5 (sN σ c88) ∧ (v2 = (14 + (2 * (sI σ c88 v5.toNatClampNeg))) → ∃ c93 : Nat, sR σ a0 73 = some c93 ∧ sK σ c93 % 32 = 16 ∧ vp_in v5 (sN σ c93) ∧ ∀ x97 : Int32, x97 = sI σ c93 v5.toNatClampNeg → P_X11_lawOn_B220 a0 v2 x97 v4 v5 σ Q K19) ∧ (¬ (v2 = (14 + (2 * (sI σ c88 v5.toNatClampNeg)))) → P_X11_lawOn_B220 a0 v2 v3 v4 v5 σ Q K19)) ∧ (¬ ((sI σ c83 v5.toNatClampNeg) = 31) → P_X11_lawOn_B220 a0 v2 v3 v4 v5 σ Q K19)
def P_X11_lawOn_B148 (a0 : Nat) (v2 : Int32) (v3 : Int32) (v4 : Int32) (v5 : Int32) (σ : Sg) (Q : Int32 → Prop) (K19 : Int32 → Int32 → Prop) : Prop :=
  sK σ a0 % 32 = 13 ∧ ∃ c66 : Nat, sR σ a0 70 = some c66 ∧ sK σ c66 % 32 = 16 ∧ vp_in v5 (sN σ c66) ∧ ((sI σ c66 v5.toNatClampNeg) = 31 → ∃ c71 : Nat, sR σ a0 71 = some c71 ∧ sK σ c71 % 32 = 16 ∧ vp_in v5 (sN σ c71) ∧ (v2 = (13 + (2 * (sI σ c71 v5.toNatClampNeg))) → ∃ c76 : Nat, sR σ a0 72 = some c76 ∧ sK σ c76 % 32 = 16 ∧ vp_in v5 (sN σ c76) ∧ ∀ x80 : Int32, x80 = sI σ c76 v5.toNatClampNeg → P_X11_lawOn_B184 a0 v2 x80 v4 v5 σ Q K19) ∧ (¬ (v2 = (13 + (2 * (sI σ c71 v5.toNatClampNeg)))) → P_X11_lawOn_B184 a0 v2 v3 v4 v5 σ Q K19)) ∧ (¬ ((sI σ c66 v5.toNatClampNeg) = 31) → P_X11_lawOn_B184 a0 v2 v3 v4 v5 σ Q K19)
def P_X11_lawOn_B122 (a0 : Nat) (v2 : Int32) (v3 : Int32) (v4 : Int32) (v5 : Int32) (σ : Sg) (Q : Int32 → Prop) (K19 : Int32 → Int32 → Prop) : Prop :=
  sK σ a0 % 32 = 13 ∧ ∃ c53 : Nat, sR σ a0 70 = some c53 ∧ sK σ c53 % 32 = 16 ∧ vp_in v5 (sN σ c53) ∧ ((sI σ c53 v5.toNatClampNeg) = 7 → (v2 = 9 → ∃ c59 : Nat, sR σ a0 73 = some c59 ∧ sK σ c59 % 32 = 16 ∧ vp_in v5 (sN σ c59) ∧ ∀ x63 : Int32, x63 = sI σ c59 v5.toNatClampNeg → P_X11_lawOn_B148 a0 v2 x63 v4 v5 σ Q K19) ∧ (¬ (v2 = 9) → P_X11_lawOn_B148 a0 v2 v3 v4 v5 σ Q K19)) ∧ (¬ ((sI σ c53 v5.toNatClampNeg) = 7) → P_X11_lawOn_B148 a0 v2 v3 v4 v5 σ Q K19)
def P_X11_lawOn_B114 (a0 : Nat) (v2 : Int32) (v4 : Int32) (v5 : Int32) (σ : Sg) (Q : Int32 → Prop) (K19 : Int32 → Int32 → Prop) : Prop :=
  sK σ a0 % 32 = 13 ∧ ∃ c39 : Nat, sR σ a0 72 = some c39 ∧ sK σ c39 % 32 = 16 ∧ vp_in v5 (sN σ c39) ∧ ∀ x43 : Int32, x43 = sI σ c39 v5.toNatClampNeg → P_X11_lawOn_B122 a0 v2 x43 v4 v5 σ Q K19
def P_X11_lawOn_B96 (a0 : Nat) (v2 : Int32) (v3 : Int32) (v4 : Int32) (v5 : Int32) (σ : Sg) (Q : Int32 → Prop) (K19 : Int32 → Int32 → Prop) : Prop :=
  sK σ a0 % 32 = 13 ∧ ∃ c46 : Nat, sR σ a0 70 = some c46 ∧ sK σ c46 % 32 = 16 ∧ vp_in v5 (sN σ c46) ∧ ((sI σ c46 v5.toNatClampNeg) = 10 → (v2 = 11 → P_X11_lawOn_B114 a0 v2 v4 v5 σ Q K19) ∧ (¬ (v2 = 11) → P_X11_lawOn_B122 a0 v2 v3 v4 v5 σ Q K19)) ∧ (¬ ((sI σ c46 v5.toNatClampNeg) = 10) → P_X11_lawOn_B122 a0 v2 v3 v4 v5 σ Q K19)
def P_X11_lawOn_B78 (a0 : Nat) (v2 : Int32) (v3 : Int32) (v4 : Int32) (v5 : Int32) (σ : Sg) (Q : Int32 → Prop) (K19 : Int32 → Int32 → Prop) : Prop :=
  sK σ a0 % 32 = 13 ∧ ∃ c32 : Nat, sR σ a0 70 = some c32 ∧ sK σ c32 % 32 = 16 ∧ vp_in v5 (sN σ c32) ∧ ((sI σ c32 v5.toNatClampNeg) = 7 → (v2 = 8 → P_X11_lawOn_B114 a0 v2 v4 v5 σ Q K19) ∧ (¬ (v2 = 8) → P_X11_lawOn_B96 a0 v2 v3 v4 v5 σ Q K19)) ∧ (¬ ((sI σ c32 v5.toNatClampNeg) = 7) → P_X11_lawOn_B96 a0 v2 v3 v4 v5 σ Q K19)
def P_X11_lawOn_B62 (a0 : Nat) (v2 : Int32) (v3 : Int32) (v4 : Int32) (v5 : Int32) (σ : Sg) (Q : Int32 → Prop) (K19 : Int32 → Int32 → Prop) : Prop :=
  sK σ a0 % 32 = 13 ∧ ∃ c25 : Nat, sR σ a0 70 = some c25 ∧ sK σ c25 % 32 = 16 ∧ vp_in v5 (sN σ c25) ∧ ((sI σ c25 v5.toNatClampNeg) = 1 → (v2 = 2 → P_X11_lawOn_B114 a0 v2 v4 v5 σ Q K19) ∧ (¬ (v2 = 2) → P_X11_lawOn_B78 a0 v2 v3 v4 v5 σ Q K19)) ∧ (¬ ((sI σ c25 v5.toNatClampNeg) = 1) → P_X11_lawOn_B78 a0 v2 v3 v4 v5 σ Q K19)
def P_X11_lawOn_L19b (a0 : Nat) (v2 : Int32) (v3 : Int32) (v4 : Int32) (v5 : Int32) (σ : Sg) (Q : Int32 → Prop) (K19 : Int32 → Int32 → Prop) : Prop :=
  (v4 = (-1) → Q v3) ∧ (¬ (v4 = (-1)) → sK σ a0 % 32 = 13 ∧ ∃ c8 : Nat, sR σ a0 68 = some c8 ∧ sK σ c8 % 32 = 16 ∧ vp_in v4 (sN σ c8) ∧ (((24 * v4) + (sI σ c8 v4.toNatClampNeg)) ≤ v5 → Q v3) ∧ (¬ (((24 * v4) + (sI σ c8 v4.toNatClampNeg)) ≤ v5) → ∃ c13 : Nat, sR σ a0 70 = some c13 ∧ sK σ c13 % 32 = 16 ∧ vp_in v5 (sN σ c13) ∧ ((sI σ c13 v5.toNatClampNeg) = v2 → ∃ c18 : Nat, sR σ a0 71 = some c18 ∧ sK σ c18 % 32 = 16 ∧ vp_in v5 (sN σ c18) ∧ ∀ x22 : Int32, x22 = sI σ c18 v5.toNatClampNeg → P_X11_lawOn_B62 a0 v2 x22 v4 v5 σ Q K19) ∧ (¬ ((sI σ c13 v5.toNatClampNeg) = v2) → P_X11_lawOn_B62 a0 v2 v3 v4 v5 σ Q K19)))
def P_X11_lawOn_L19 (a0 : Nat) (v2 : Int32) (v3 : Int32) (v4 : Int32) (v5 : Int32) (σ : Sg) (Q : Int32 → Prop) : Prop :=
  ∃ I : Nat → Int32 → Int32 → Prop, (∃ n, I n v3 v5) ∧ ∀ (n : Nat) (v3 : Int32) (v5 : Int32), I n v3 v5 → P_X11_lawOn_L19b a0 v2 v3 v4 v5 σ Q (fun v3 v5 => ∃ n', n' < n ∧ I n' v3 v5)
def P_X11_lawOn (a0 : Nat) (v1 : Int32) (v2 : Int32) (σ : Sg) (Q : Int32 → Prop) : Prop :=
  P_X11_plain v2 σ (fun x1 => sK σ a0 % 32 = 13 ∧ P_X11_inForce a0 v1 σ (fun x3 => ∀ x4 : Int32, x4 = 24 * x3 → P_X11_lawOn_L19 a0 v2 x1 x3 x4 σ Q))
set_option maxHeartbeats 4000000 in
set_option maxRecDepth 100000 in
theorem k_X11_lawOn (l : Launch) (D : Dg) (a0 : Nat) (v1 : Int32) (v2 : Int32) (σ : Sg) (Q : Int32 → Prop) (h : P_X11_lawOn a0 v1 v2 σ Q) : CtrY RN l D yX11_lawOn cX11_lawOn 6 (some FieldType.int) 1 23 mkI [.ref a0, .int v1, .int v2] σ (0, 0) (fun r σ2 => Q r ∧ σ2 = σ) := by
  refine y_ctrN (lv := [(0, va_rf (some a0)), (1, .int v1), (2, .int v2)]) (by decide) (by (exact Nat.le_of_ble_eq_true rfl)) (by (exact rfl)) (fun g hg hgL hgD hrm hgN hgI hend => ?_)
  subst hgD
  clear hgL
  unfold P_X11_lawOn at h
  have J19 : ∀ (v2 : Int32) (v3 : Int32) (v4 : Int32) (v5 : Int32), P_X11_lawOn_L19 a0 v2 v3 v4 v5 σ Q → XA g 19 [(0, va_rf (some a0)), (2, .int v2), (3, .int v3), (4, .int v4), (5, .int v5)] [] σ (0, 0) := by
    intro v2 v3 v4 v5 h
    unfold P_X11_lawOn_L19 at h
    obtain ⟨I19, ⟨n19, hI19⟩, hs19⟩ := h
    have key19 : ∀ (n : Nat), ∀ (v3 : Int32) (v5 : Int32), I19 n v3 v5 → XA g 19 [(0, va_rf (some a0)), (2, .int v2), (3, .int v3), (4, .int v4), (5, .int v5)] [] σ (0, 0) := by
      intro n
      induction n using Nat.strongRecOn with
      | _ n ih19 =>
      intro v3 v5 hI
      have h := hs19 n v3 v5 hI
      clear hI hI19 hs19
      obtain ⟨K19, hK19⟩ : ∃ K : Int32 → Int32 → Prop, K = (fun v3 v5 => ∃ n', n' < n ∧ I19 n' v3 v5) := ⟨_, rfl⟩
      rw [← hK19] at h
      unfold P_X11_lawOn_L19b at h
      have J220 : ∀ (v3 : Int32) (v5 : Int32), P_X11_lawOn_B220 a0 v2 v3 v4 v5 σ Q K19 → XA g 220 [(0, va_rf (some a0)), (2, .int v2), (3, .int v3), (4, .int v4), (5, .int v5)] [] σ (0, 0) := by
        intro v3 v5 h
        unfold P_X11_lawOn_B220 at h
        obtain ⟨x99, e100⟩ : ∃ y : Int32, y = v5 + 1 := ⟨_, rfl⟩
        replace h := h x99 e100
        refine y_iinc (v := x99) (lv' := [(5, .int x99), (0, va_rf (some a0)), (2, .int v2), (3, .int v3), (4, .int v4)]) hg 4 dX11_lawOn_220 rfl (by rw [e100]; rfl) (by rw [hgN]; decide) rfl ?_
        refine y_goto (tgt := 19) hg dX11_lawOn_223 (by decide) ?_
        refine y_sub [1, 2, 3, 4, 0] rfl ?_
        subst hK19
        obtain ⟨n101, h102, h⟩ := h
        exact ih19 n101 h102 _ _ h
      have J184 : ∀ (v3 : Int32) (v5 : Int32), P_X11_lawOn_B184 a0 v2 v3 v4 v5 σ Q K19 → XA g 184 [(0, va_rf (some a0)), (2, .int v2), (3, .int v3), (4, .int v4), (5, .int v5)] [] σ (0, 0) := by
        intro v3 v5 h
        unfold P_X11_lawOn_B184 at h
        refine y_aload_n hg 0 dX11_lawOn_184 rfl rfl ?_
        obtain ⟨h82, h⟩ := h
        refine y_getR hg fl_X11_165 rfl rfl h82 dX11_lawOn_185 ?_
        refine y_iload hg 4 dX11_lawOn_188 rfl ?_
        obtain ⟨c83, h84, h⟩ := h
        obtain ⟨h85, h⟩ := h
        obtain ⟨h86, h⟩ := h
        refine y_iald hg h84 h85 h86 dX11_lawOn_190 ?_
        refine y_bipush (v := 31) hg dX11_lawOn_191 (by decide) ?_
        refine y_icmp_ne (tgt := 220) hg dX11_lawOn_193 (by decide) (fun q87 => ?_) (fun q87 => ?_)
        · replace h := h.2 q87
          refine y_sub [0, 1, 2, 3, 4] rfl ?_
          exact J220 _ _ h
        · replace h := h.1 q87
          refine y_iload_n hg 1 dX11_lawOn_196 rfl rfl ?_
          refine y_bipush (v := 14) hg dX11_lawOn_197 (by decide) ?_
          refine y_iconst (v := 2) hg dX11_lawOn_199 (by decide) ?_
          refine y_aload_n hg 0 dX11_lawOn_200 rfl rfl ?_
          refine y_getR hg fl_X11_168 rfl rfl h82 dX11_lawOn_201 ?_
          refine y_iload hg 4 dX11_lawOn_204 rfl ?_
          obtain ⟨c88, h89, h⟩ := h
          obtain ⟨h90, h⟩ := h
          obtain ⟨h91, h⟩ := h
          refine y_iald hg h89 h90 h91 dX11_lawOn_206 ?_
          refine y_imul hg dX11_lawOn_207 ?_
          refine y_iadd hg dX11_lawOn_208 ?_
          refine y_icmp_ne (tgt := 220) hg dX11_lawOn_209 (by decide) (fun q92 => ?_) (fun q92 => ?_)
          · replace h := h.2 q92
            refine y_sub [0, 1, 2, 3, 4] rfl ?_
            exact J220 _ _ h
          · replace h := h.1 q92
            refine y_aload_n hg 0 dX11_lawOn_212 rfl rfl ?_
            refine y_getR hg fl_X11_174 rfl rfl h82 dX11_lawOn_213 ?_
            refine y_iload hg 4 dX11_lawOn_216 rfl ?_
            obtain ⟨c93, h94, h⟩ := h
            obtain ⟨h95, h⟩ := h
            obtain ⟨h96, h⟩ := h
            refine y_iald hg h94 h95 h96 dX11_lawOn_218 ?_
            refine y_nmI (fun x97 e98 => ?_)
            replace h := h x97 e98
            refine y_istore_n (lv' := [(3, .int x97), (0, va_rf (some a0)), (2, .int v2), (4, .int v4), (5, .int v5)]) hg dX11_lawOn_219 rfl (by rw [hgN]; decide) rfl ?_
            refine y_sub [1, 2, 0, 3, 4] rfl ?_
            exact J220 _ _ h
      have J148 : ∀ (v3 : Int32) (v5 : Int32), P_X11_lawOn_B148 a0 v2 v3 v4 v5 σ Q K19 → XA g 148 [(0, va_rf (some a0)), (2, .int v2), (3, .int v3), (4, .int v4), (5, .int v5)] [] σ (0, 0) := by
        intro v3 v5 h
        unfold P_X11_lawOn_B148 at h
        refine y_aload_n hg 0 dX11_lawOn_148 rfl rfl ?_
        obtain ⟨h65, h⟩ := h
        refine y_getR hg fl_X11_165 rfl rfl h65 dX11_lawOn_149 ?_
        refine y_iload hg 4 dX11_lawOn_152 rfl ?_
        obtain ⟨c66, h67, h⟩ := h
        obtain ⟨h68, h⟩ := h
        obtain ⟨h69, h⟩ := h
        refine y_iald hg h67 h68 h69 dX11_lawOn_154 ?_
        refine y_bipush (v := 31) hg dX11_lawOn_155 (by decide) ?_
        refine y_icmp_ne (tgt := 184) hg dX11_lawOn_157 (by decide) (fun q70 => ?_) (fun q70 => ?_)
        · replace h := h.2 q70
          refine y_sub [0, 1, 2, 3, 4] rfl ?_
          exact J184 _ _ h
        · replace h := h.1 q70
          refine y_iload_n hg 1 dX11_lawOn_160 rfl rfl ?_
          refine y_bipush (v := 13) hg dX11_lawOn_161 (by decide) ?_
          refine y_iconst (v := 2) hg dX11_lawOn_163 (by decide) ?_
          refine y_aload_n hg 0 dX11_lawOn_164 rfl rfl ?_
          refine y_getR hg fl_X11_168 rfl rfl h65 dX11_lawOn_165 ?_
          refine y_iload hg 4 dX11_lawOn_168 rfl ?_
          obtain ⟨c71, h72, h⟩ := h
          obtain ⟨h73, h⟩ := h
          obtain ⟨h74, h⟩ := h
          refine y_iald hg h72 h73 h74 dX11_lawOn_170 ?_
          refine y_imul hg dX11_lawOn_171 ?_
          refine y_iadd hg dX11_lawOn_172 ?_
          refine y_icmp_ne (tgt := 184) hg dX11_lawOn_173 (by decide) (fun q75 => ?_) (fun q75 => ?_)
          · replace h := h.2 q75
            refine y_sub [0, 1, 2, 3, 4] rfl ?_
            exact J184 _ _ h
          · replace h := h.1 q75
            refine y_aload_n hg 0 dX11_lawOn_176 rfl rfl ?_
            refine y_getR hg fl_X11_171 rfl rfl h65 dX11_lawOn_177 ?_
            refine y_iload hg 4 dX11_lawOn_180 rfl ?_
            obtain ⟨c76, h77, h⟩ := h
            obtain ⟨h78, h⟩ := h
            obtain ⟨h79, h⟩ := h
            refine y_iald hg h77 h78 h79 dX11_lawOn_182 ?_
            refine y_nmI (fun x80 e81 => ?_)
            replace h := h x80 e81
            refine y_istore_n (lv' := [(3, .int x80), (0, va_rf (some a0)), (2, .int v2), (4, .int v4), (5, .int v5)]) hg dX11_lawOn_183 rfl (by rw [hgN]; decide) rfl ?_
            refine y_sub [1, 2, 0, 3, 4] rfl ?_
            exact J184 _ _ h
      have J122 : ∀ (v3 : Int32) (v5 : Int32), P_X11_lawOn_B122 a0 v2 v3 v4 v5 σ Q K19 → XA g 122 [(0, va_rf (some a0)), (2, .int v2), (3, .int v3), (4, .int v4), (5, .int v5)] [] σ (0, 0) := by
        intro v3 v5 h
        unfold P_X11_lawOn_B122 at h
        refine y_aload_n hg 0 dX11_lawOn_122 rfl rfl ?_
        obtain ⟨h52, h⟩ := h
        refine y_getR hg fl_X11_165 rfl rfl h52 dX11_lawOn_123 ?_
        refine y_iload hg 4 dX11_lawOn_126 rfl ?_
        obtain ⟨c53, h54, h⟩ := h
        obtain ⟨h55, h⟩ := h
        obtain ⟨h56, h⟩ := h
        refine y_iald hg h54 h55 h56 dX11_lawOn_128 ?_
        refine y_bipush (v := 7) hg dX11_lawOn_129 (by decide) ?_
        refine y_icmp_ne (tgt := 148) hg dX11_lawOn_131 (by decide) (fun q57 => ?_) (fun q57 => ?_)
        · replace h := h.2 q57
          refine y_sub [0, 1, 2, 3, 4] rfl ?_
          exact J148 _ _ h
        · replace h := h.1 q57
          refine y_iload_n hg 1 dX11_lawOn_134 rfl rfl ?_
          refine y_bipush (v := 9) hg dX11_lawOn_135 (by decide) ?_
          refine y_icmp_ne (tgt := 148) hg dX11_lawOn_137 (by decide) (fun q58 => ?_) (fun q58 => ?_)
          · replace h := h.2 q58
            refine y_sub [0, 1, 2, 3, 4] rfl ?_
            exact J148 _ _ h
          · replace h := h.1 q58
            refine y_aload_n hg 0 dX11_lawOn_140 rfl rfl ?_
            refine y_getR hg fl_X11_174 rfl rfl h52 dX11_lawOn_141 ?_
            refine y_iload hg 4 dX11_lawOn_144 rfl ?_
            obtain ⟨c59, h60, h⟩ := h
            obtain ⟨h61, h⟩ := h
            obtain ⟨h62, h⟩ := h
            refine y_iald hg h60 h61 h62 dX11_lawOn_146 ?_
            refine y_nmI (fun x63 e64 => ?_)
            replace h := h x63 e64
            refine y_istore_n (lv' := [(3, .int x63), (0, va_rf (some a0)), (2, .int v2), (4, .int v4), (5, .int v5)]) hg dX11_lawOn_147 rfl (by rw [hgN]; decide) rfl ?_
            refine y_sub [1, 2, 0, 3, 4] rfl ?_
            exact J148 _ _ h
      have J114 : ∀ (v5 : Int32), P_X11_lawOn_B114 a0 v2 v4 v5 σ Q K19 → XA g 114 [(0, va_rf (some a0)), (2, .int v2), (4, .int v4), (5, .int v5)] [] σ (0, 0) := by
        intro v5 h
        unfold P_X11_lawOn_B114 at h
        refine y_aload_n hg 0 dX11_lawOn_114 rfl rfl ?_
        obtain ⟨h38, h⟩ := h
        refine y_getR hg fl_X11_171 rfl rfl h38 dX11_lawOn_115 ?_
        refine y_iload hg 3 dX11_lawOn_118 rfl ?_
        obtain ⟨c39, h40, h⟩ := h
        obtain ⟨h41, h⟩ := h
        obtain ⟨h42, h⟩ := h
        refine y_iald hg h40 h41 h42 dX11_lawOn_120 ?_
        refine y_nmI (fun x43 e44 => ?_)
        replace h := h x43 e44
        refine y_istore_n (lv' := [(3, .int x43), (0, va_rf (some a0)), (2, .int v2), (4, .int v4), (5, .int v5)]) hg dX11_lawOn_121 rfl (by rw [hgN]; decide) rfl ?_
        refine y_sub [1, 2, 0, 3, 4] rfl ?_
        exact J122 _ _ h
      have J96 : ∀ (v3 : Int32) (v5 : Int32), P_X11_lawOn_B96 a0 v2 v3 v4 v5 σ Q K19 → XA g 96 [(0, va_rf (some a0)), (2, .int v2), (3, .int v3), (4, .int v4), (5, .int v5)] [] σ (0, 0) := by
        intro v3 v5 h
        unfold P_X11_lawOn_B96 at h
        refine y_aload_n hg 0 dX11_lawOn_96 rfl rfl ?_
        obtain ⟨h45, h⟩ := h
        refine y_getR hg fl_X11_165 rfl rfl h45 dX11_lawOn_97 ?_
        refine y_iload hg 4 dX11_lawOn_100 rfl ?_
        obtain ⟨c46, h47, h⟩ := h
        obtain ⟨h48, h⟩ := h
        obtain ⟨h49, h⟩ := h
        refine y_iald hg h47 h48 h49 dX11_lawOn_102 ?_
        refine y_bipush (v := 10) hg dX11_lawOn_103 (by decide) ?_
        refine y_icmp_ne (tgt := 122) hg dX11_lawOn_105 (by decide) (fun q50 => ?_) (fun q50 => ?_)
        · replace h := h.2 q50
          refine y_sub [0, 1, 2, 3, 4] rfl ?_
          exact J122 _ _ h
        · replace h := h.1 q50
          refine y_iload_n hg 1 dX11_lawOn_108 rfl rfl ?_
          refine y_bipush (v := 11) hg dX11_lawOn_109 (by decide) ?_
          refine y_icmp_ne (tgt := 122) hg dX11_lawOn_111 (by decide) (fun q51 => ?_) (fun q51 => ?_)
          · replace h := h.2 q51
            refine y_sub [0, 1, 2, 3, 4] rfl ?_
            exact J122 _ _ h
          · replace h := h.1 q51
            refine y_sub [0, 1, 3, 4] rfl ?_
            exact J114 _ h
      have J78 : ∀ (v3 : Int32) (v5 : Int32), P_X11_lawOn_B78 a0 v2 v3 v4 v5 σ Q K19 → XA g 78 [(0, va_rf (some a0)), (2, .int v2), (3, .int v3), (4, .int v4), (5, .int v5)] [] σ (0, 0) := by
        intro v3 v5 h
        unfold P_X11_lawOn_B78 at h
        refine y_aload_n hg 0 dX11_lawOn_78 rfl rfl ?_
        obtain ⟨h31, h⟩ := h
        refine y_getR hg fl_X11_165 rfl rfl h31 dX11_lawOn_79 ?_
        refine y_iload hg 4 dX11_lawOn_82 rfl ?_
        obtain ⟨c32, h33, h⟩ := h
        obtain ⟨h34, h⟩ := h
        obtain ⟨h35, h⟩ := h
        refine y_iald hg h33 h34 h35 dX11_lawOn_84 ?_
        refine y_bipush (v := 7) hg dX11_lawOn_85 (by decide) ?_
        refine y_icmp_ne (tgt := 96) hg dX11_lawOn_87 (by decide) (fun q36 => ?_) (fun q36 => ?_)
        · replace h := h.2 q36
          refine y_sub [0, 1, 2, 3, 4] rfl ?_
          exact J96 _ _ h
        · replace h := h.1 q36
          refine y_iload_n hg 1 dX11_lawOn_90 rfl rfl ?_
          refine y_bipush (v := 8) hg dX11_lawOn_91 (by decide) ?_
          refine y_icmp_eq (tgt := 114) hg dX11_lawOn_93 (by decide) (fun q37 => ?_) (fun q37 => ?_)
          · replace h := h.1 q37
            refine y_sub [0, 1, 3, 4] rfl ?_
            exact J114 _ h
          · replace h := h.2 q37
            refine y_sub [0, 1, 2, 3, 4] rfl ?_
            exact J96 _ _ h
      have J62 : ∀ (v3 : Int32) (v5 : Int32), P_X11_lawOn_B62 a0 v2 v3 v4 v5 σ Q K19 → XA g 62 [(0, va_rf (some a0)), (2, .int v2), (3, .int v3), (4, .int v4), (5, .int v5)] [] σ (0, 0) := by
        intro v3 v5 h
        unfold P_X11_lawOn_B62 at h
        refine y_aload_n hg 0 dX11_lawOn_62 rfl rfl ?_
        obtain ⟨h24, h⟩ := h
        refine y_getR hg fl_X11_165 rfl rfl h24 dX11_lawOn_63 ?_
        refine y_iload hg 4 dX11_lawOn_66 rfl ?_
        obtain ⟨c25, h26, h⟩ := h
        obtain ⟨h27, h⟩ := h
        obtain ⟨h28, h⟩ := h
        refine y_iald hg h26 h27 h28 dX11_lawOn_68 ?_
        refine y_iconst (v := 1) hg dX11_lawOn_69 (by decide) ?_
        refine y_icmp_ne (tgt := 78) hg dX11_lawOn_70 (by decide) (fun q29 => ?_) (fun q29 => ?_)
        · replace h := h.2 q29
          refine y_sub [0, 1, 2, 3, 4] rfl ?_
          exact J78 _ _ h
        · replace h := h.1 q29
          refine y_iload_n hg 1 dX11_lawOn_73 rfl rfl ?_
          refine y_iconst (v := 2) hg dX11_lawOn_74 (by decide) ?_
          refine y_icmp_eq (tgt := 114) hg dX11_lawOn_75 (by decide) (fun q30 => ?_) (fun q30 => ?_)
          · replace h := h.1 q30
            refine y_sub [0, 1, 3, 4] rfl ?_
            exact J114 _ h
          · replace h := h.2 q30
            refine y_sub [0, 1, 2, 3, 4] rfl ?_
            exact J78 _ _ h
      refine y_iload hg 3 dX11_lawOn_19 rfl ?_
      refine y_iconst (v := (-1)) hg dX11_lawOn_21 (by decide) ?_
      refine y_icmp_eq (tgt := 226) hg dX11_lawOn_22 (by decide) (fun q6 => ?_) (fun q6 => ?_)
      · replace h := h.1 q6
        refine y_iload_n hg 2 dX11_lawOn_226 rfl rfl ?_
        exact yEndI hend rfl dX11_lawOn_227 ⟨h, rfl⟩
      · replace h := h.2 q6
        refine y_iload hg 4 dX11_lawOn_25 rfl ?_
        refine y_bipush (v := 24) hg dX11_lawOn_27 (by decide) ?_
        refine y_iload hg 3 dX11_lawOn_29 rfl ?_
        refine y_imul hg dX11_lawOn_31 ?_
        refine y_aload_n hg 0 dX11_lawOn_32 rfl rfl ?_
        obtain ⟨h7, h⟩ := h
        refine y_getR hg fl_X11_159 rfl rfl h7 dX11_lawOn_33 ?_
        refine y_iload hg 3 dX11_lawOn_36 rfl ?_
        obtain ⟨c8, h9, h⟩ := h
        obtain ⟨h10, h⟩ := h
        obtain ⟨h11, h⟩ := h
        refine y_iald hg h9 h10 h11 dX11_lawOn_38 ?_
        refine y_iadd hg dX11_lawOn_39 ?_
        refine y_icmp_ge (tgt := 226) hg dX11_lawOn_40 (by decide) (fun q12 => ?_) (fun q12 => ?_)
        · replace h := h.1 q12
          refine y_iload_n hg 2 dX11_lawOn_226 rfl rfl ?_
          exact yEndI hend rfl dX11_lawOn_227 ⟨h, rfl⟩
        · replace h := h.2 q12
          refine y_aload_n hg 0 dX11_lawOn_43 rfl rfl ?_
          refine y_getR hg fl_X11_165 rfl rfl h7 dX11_lawOn_44 ?_
          refine y_iload hg 4 dX11_lawOn_47 rfl ?_
          obtain ⟨c13, h14, h⟩ := h
          obtain ⟨h15, h⟩ := h
          obtain ⟨h16, h⟩ := h
          refine y_iald hg h14 h15 h16 dX11_lawOn_49 ?_
          refine y_iload_n hg 1 dX11_lawOn_50 rfl rfl ?_
          refine y_icmp_ne (tgt := 62) hg dX11_lawOn_51 (by decide) (fun q17 => ?_) (fun q17 => ?_)
          · replace h := h.2 q17
            refine y_sub [0, 1, 2, 3, 4] rfl ?_
            exact J62 _ _ h
          · replace h := h.1 q17
            refine y_aload_n hg 0 dX11_lawOn_54 rfl rfl ?_
            refine y_getR hg fl_X11_168 rfl rfl h7 dX11_lawOn_55 ?_
            refine y_iload hg 4 dX11_lawOn_58 rfl ?_
            obtain ⟨c18, h19, h⟩ := h
            obtain ⟨h20, h⟩ := h
            obtain ⟨h21, h⟩ := h
            refine y_iald hg h19 h20 h21 dX11_lawOn_60 ?_
            refine y_nmI (fun x22 e23 => ?_)
            replace h := h x22 e23
            refine y_istore_n (lv' := [(3, .int x22), (0, va_rf (some a0)), (2, .int v2), (4, .int v4), (5, .int v5)]) hg dX11_lawOn_61 rfl (by rw [hgN]; decide) rfl ?_
            refine y_sub [1, 2, 0, 3, 4] rfl ?_
            exact J62 _ _ h
    exact key19 n19 v3 v5 hI19
  refine y_iload_n hg 2 dX11_lawOn_0 rfl rfl ?_
  refine ySIP (Qp := _) (rest := []) (As := [.int v2]) hg (k_X11_plain (gL g.1) (gD g.1) v2 σ _ h) ls_X11_425 rfl rfl dX11_lawOn_1 (cat8 (Nat.le_of_ble_eq_true rfl)) hrm ⟨Nat.le_of_ble_eq_true rfl, Nat.le_of_ble_eq_true rfl⟩ (fun x1 h => ?_)
  refine y_istore_n (lv' := [(3, .int x1), (0, va_rf (some a0)), (1, .int v1), (2, .int v2)]) hg dX11_lawOn_4 rfl (by rw [hgN]; decide) rfl ?_
  refine y_aload_n hg 1 dX11_lawOn_5 rfl rfl ?_
  refine y_iload_n hg 2 dX11_lawOn_6 rfl rfl ?_
  obtain ⟨h2, h⟩ := h
  refine yVIP (Qp := _) (rest := []) (As := [.int v1]) hg (k_X11_inForce (gL g.1) (gD g.1) a0 v1 σ _ h) lv_X11_240 rfl h2 rfl rfl dX11_lawOn_7 (cat8 (Nat.le_of_ble_eq_true rfl)) hrm ⟨Nat.le_of_ble_eq_true rfl, Nat.le_of_ble_eq_true rfl⟩ (fun x3 h => ?_)
  refine y_istore (lv' := [(4, .int x3), (3, .int x1), (0, va_rf (some a0)), (1, .int v1), (2, .int v2)]) hg dX11_lawOn_10 (by rw [hgN]; decide) rfl ?_
  refine y_bipush (v := 24) hg dX11_lawOn_12 (by decide) ?_
  refine y_iload hg 0 dX11_lawOn_14 rfl ?_
  refine y_imul hg dX11_lawOn_16 ?_
  refine y_nmI (fun x4 e5 => ?_)
  replace h := h x4 e5
  refine y_istore (lv' := [(5, .int x4), (4, .int x3), (3, .int x1), (0, va_rf (some a0)), (1, .int v1), (2, .int v2)]) hg dX11_lawOn_17 (by rw [hgN]; decide) rfl ?_
  refine y_sub [3, 5, 2, 1, 0] rfl ?_
  exact J19 _ _ _ _ h
def P_X11_now (a0 : Nat) (v1 : Int32) (σ : Sg) (Q : Int32 → Prop) : Prop :=
  sK σ a0 % 32 = 13 ∧ P_X11_lawOn a0 (sI σ a0 0) v1 σ (fun x2 => Q x2)
set_option maxHeartbeats 4000000 in
set_option maxRecDepth 100000 in
theorem k_X11_now (l : Launch) (D : Dg) (a0 : Nat) (v1 : Int32) (σ : Sg) (Q : Int32 → Prop) (h : P_X11_now a0 v1 σ Q) : CtrY RN l D yX11_now cX11_now 2 (some FieldType.int) 2 48 mkI [.ref a0, .int v1] σ (0, 0) (fun r σ2 => Q r ∧ σ2 = σ) := by
  refine y_ctrN (lv := [(0, va_rf (some a0)), (1, .int v1)]) (by decide) (by (exact Nat.le_of_ble_eq_true rfl)) (by (exact rfl)) (fun g hg hgL hgD hrm hgN hgI hend => ?_)
  subst hgD
  clear hgL
  unfold P_X11_now at h
  refine y_aload_n hg 0 dX11_now_0 rfl rfl ?_
  refine y_aload_n hg 0 dX11_now_1 rfl rfl ?_
  obtain ⟨h1, h⟩ := h
  refine y_getI hg fl_X11_212 rfl rfl h1 dX11_now_2 ?_
  refine y_iload_n hg 1 dX11_now_5 rfl rfl ?_
  refine yVIP (Qp := _) (rest := []) (As := [.int (sI σ a0 0), .int v1]) hg (k_X11_lawOn (gL g.1) (gD g.1) a0 (sI σ a0 0) v1 σ _ h) lv_X11_332 rfl h1 rfl rfl dX11_now_6 (cat8 (Nat.le_of_ble_eq_true rfl)) hrm ⟨Nat.le_of_ble_eq_true rfl, Nat.le_of_ble_eq_true rfl⟩ (fun x2 h => ?_)
  exact yEndI hend rfl dX11_now_9 ⟨h, rfl⟩
def P_X11_bed_L111b (a0 : Nat) (v1 : Int32) (v5 : Int32) (σ : Sg) (Q : Int32 → Sg → Prop) (K111 : Int32 → Sg → Prop) : Prop :=
  (10 < v5 → Q 1 σ) ∧ (¬ (10 < v5) → sK σ a0 % 32 = 13 ∧ ∃ c68 : Nat, sR σ a0 24 = some c68 ∧ sK σ c68 % 32 = 16 ∧ vp_in ((11 * v1) + v5) (sN σ c68) ∧ ∀ σ72 : Sg, σ72 = pI σ c68 ((11 * v1) + v5).toNatClampNeg (-1) → ∀ x75 : Int32, x75 = v5 + 1 → K111 x75 σ72)
def P_X11_bed_L111 (a0 : Nat) (v1 : Int32) (v5 : Int32) (σ : Sg) (Q : Int32 → Sg → Prop) : Prop :=
  ∃ I : Nat → Int32 → Sg → Prop, (∃ n, I n v5 σ) ∧ ∀ (n : Nat) (v5 : Int32) (σ : Sg), I n v5 σ → P_X11_bed_L111b a0 v1 v5 σ Q (fun v5 σ => ∃ n', n' < n ∧ I n' v5 σ)
def P_X11_bed (a0 : Nat) (v1 : Int32) (v2 : Int32) (v3 : Int32) (v4 : Int32) (σ : Sg) (Q : Int32 → Sg → Prop) : Prop :=
  sK σ a0 % 32 = 13 ∧ P_X11_isCorner a0 v1 σ (fun x2 => (x2 = 0 → Q 0 σ) ∧ (¬ (x2 = 0) → ∃ c4 : Nat, sR σ a0 12 = some c4 ∧ sK σ c4 % 32 = 18 ∧ vp_in v1 (sN σ c4) ∧ ((sI σ c4 v1.toNatClampNeg) = 0 → P_X11_isIn v2 0 9 σ (fun x9 => (x9 = 0 → Q 0 σ) ∧ (¬ (x9 = 0) → P_X11_isIn v3 1 500 σ (fun x11 => (x11 = 0 → Q 0 σ) ∧ (¬ (x11 = 0) → P_X11_parked a0 (1 <<< (v1 &&& 31)) σ (fun x13 => P_X11_now a0 4 σ (fun x14 => (x13 ≤ x14 → ∃ c16 : Nat, sR σ a0 12 = some c16 ∧ sK σ c16 % 32 = 18 ∧ vp_in v1 (sN σ c16) ∧ ∀ σ20 : Sg, σ20 = pI σ c16 v1.toNatClampNeg 1 → ∃ c23 : Nat, sR σ20 a0 13 = some c23 ∧ sK σ20 c23 % 32 = 18 ∧ vp_in v1 (sN σ20 c23) ∧ bz v4 ∧ ∀ σ28 : Sg, σ28 = pI σ20 c23 v1.toNatClampNeg v4 → ∃ c31 : Nat, sR σ28 a0 14 = some c31 ∧ sK σ28 c31 % 32 = 18 ∧ vp_in v1 (sN σ28 c31) ∧ ∀ σ35 : Sg, σ35 = pI σ28 c31 v1.toNatClampNeg 1 → ∃ c38 : Nat, sR σ35 a0 15 = some c38 ∧ sK σ35 c38 % 32 = 16 ∧ vp_in v1 (sN σ35 c38) ∧ ∀ σ42 : Sg, σ42 = pI σ35 c38 v1.toNatClampNeg v2 → ∃ c45 : Nat, sR σ42 a0 16 = some c45 ∧ sK σ42 c45 % 32 = 16 ∧ vp_in v1 (sN σ42 c45) ∧ ∀ σ49 : Sg, σ49 = pI σ42 c45 v1.toNatClampNeg v3 → ∃ c52 : Nat, sR σ49 a0 17 = some c52 ∧ sK σ49 c52 % 32 = 16 ∧ vp_in v1 (sN σ49 c52) ∧ ∀ σ56 : Sg, σ56 = pI σ49 c52 v1.toNatClampNeg (sI σ49 a0 0) → ∃ c59 : Nat, sR σ56 a0 23 = some c59 ∧ sK σ56 c59 % 32 = 16 ∧ vp_in v1 (sN σ56 c59) ∧ ∀ σ63 : Sg, σ63 = pI σ56 c59 v1.toNatClampNeg (-1) → P_X11_bed_L111 a0 v1 0 σ63 Q) ∧ (¬ (x13 ≤ x14) → Q 0 σ)))))))) ∧ (¬ ((sI σ c4 v1.toNatClampNeg) = 0) → Q 0 σ)))
set_option maxHeartbeats 4000000 in
set_option maxRecDepth 100000 in
theorem k_X11_bed (l : Launch) (D : Dg) (a0 : Nat) (v1 : Int32) (v2 : Int32) (v3 : Int32) (v4 : Int32) (σ : Sg) (Q : Int32 → Sg → Prop) (h : P_X11_bed a0 v1 v2 v3 v4 σ Q) : CtrY RN l D yX11_bed cX11_bed 6 (some FieldType.boolean) 3 69 mkI [.ref a0, .int v1, .int v2, .int v3, .int v4] σ (0, 0) Q := by
  refine y_ctrN (lv := [(0, va_rf (some a0)), (1, .int v1), (2, .int v2), (3, .int v3), (4, .int v4)]) (by decide) (by (exact Nat.le_of_ble_eq_true rfl)) (by (exact rfl)) (fun g hg hgL hgD hrm hgN hgI hend => ?_)
  subst hgD
  clear hgL
  unfold P_X11_bed at h
  have J111 : ∀ (v1 : Int32) (v5 : Int32) (σ : Sg), P_X11_bed_L111 a0 v1 v5 σ Q → XA g 111 [(0, va_rf (some a0)), (1, .int v1), (5, .int v5)] [] σ (0, 0) := by
    intro v1 v5 σ h
    unfold P_X11_bed_L111 at h
    obtain ⟨I111, ⟨n111, hI111⟩, hs111⟩ := h
    have key111 : ∀ (n : Nat), ∀ (v5 : Int32) (σ : Sg), I111 n v5 σ → XA g 111 [(0, va_rf (some a0)), (1, .int v1), (5, .int v5)] [] σ (0, 0) := by
      intro n
      induction n using Nat.strongRecOn with
      | _ n ih111 =>
      intro v5 σ hI
      have h := hs111 n v5 σ hI
      clear hI hI111 hs111
      obtain ⟨K111, hK111⟩ : ∃ K : Int32 → Sg → Prop, K = (fun v5 σ => ∃ n', n' < n ∧ I111 n' v5 σ) := ⟨_, rfl⟩
      rw [← hK111] at h
      unfold P_X11_bed_L111b at h
      refine y_iload hg 2 dX11_bed_111 rfl ?_
      refine y_bipush (v := 10) hg dX11_bed_113 (by decide) ?_
      refine y_icmp_gt (tgt := 137) hg dX11_bed_115 (by decide) (fun q66 => ?_) (fun q66 => ?_)
      · replace h := h.1 q66
        refine y_iconst (v := 1) hg dX11_bed_137 (by decide) ?_
        exact yEndI hend (bz_nar (Or.inr rfl)).1 dX11_bed_138 h
      · replace h := h.2 q66
        refine y_aload_n hg 0 dX11_bed_118 rfl rfl ?_
        obtain ⟨h67, h⟩ := h
        refine y_getR hg fl_X11_62 rfl rfl h67 dX11_bed_119 ?_
        refine y_bipush (v := 11) hg dX11_bed_122 (by decide) ?_
        refine y_iload_n hg 1 dX11_bed_124 rfl rfl ?_
        refine y_imul hg dX11_bed_125 ?_
        refine y_iload hg 2 dX11_bed_126 rfl ?_
        refine y_iadd hg dX11_bed_128 ?_
        refine y_iconst (v := (-1)) hg dX11_bed_129 (by decide) ?_
        obtain ⟨c68, h69, h⟩ := h
        obtain ⟨h70, h⟩ := h
        obtain ⟨h71, h⟩ := h
        refine y_iast hg h69 h70 h71 dX11_bed_130 ?_
        refine y_nmS (fun σ72 e73 => ?_)
        replace h := h σ72 e73
        have E74 : sK σ72 = sK σ := by rw [e73]; rfl
        obtain ⟨x75, e76⟩ : ∃ y : Int32, y = v5 + 1 := ⟨_, rfl⟩
        replace h := h x75 e76
        refine y_iinc (v := x75) (lv' := [(5, .int x75), (0, va_rf (some a0)), (1, .int v1)]) hg 2 dX11_bed_131 rfl (by rw [e76]; rfl) (by rw [hgN]; decide) rfl ?_
        refine y_goto (tgt := 111) hg dX11_bed_134 (by decide) ?_
        refine y_sub [1, 2, 0] rfl ?_
        subst hK111
        obtain ⟨n77, h78, h⟩ := h
        exact ih111 n77 h78 _ _ h
    exact key111 n111 v5 σ hI111
  refine y_aload_n hg 0 dX11_bed_0 rfl rfl ?_
  refine y_iload_n hg 1 dX11_bed_1 rfl rfl ?_
  obtain ⟨h1, h⟩ := h
  refine yVIP (Qp := _) (rest := []) (As := [.int v1]) hg (k_X11_isCorner (gL g.1) (gD g.1) a0 v1 σ _ h) lv_X11_198 rfl h1 rfl rfl dX11_bed_2 (cat8 (Nat.le_of_ble_eq_true rfl)) hrm ⟨Nat.le_of_ble_eq_true rfl, Nat.le_of_ble_eq_true rfl⟩ (fun x2 h => ?_)
  refine y_if_eq (tgt := 53) hg dX11_bed_5 (by decide) (fun q3 => ?_) (fun q3 => ?_)
  · replace h := h.1 q3
    refine y_iconst (v := 0) hg dX11_bed_53 (by decide) ?_
    exact yEndI hend (bz_nar (Or.inl rfl)).1 dX11_bed_54 h
  · replace h := h.2 q3
    refine y_aload_n hg 0 dX11_bed_8 rfl rfl ?_
    refine y_getR hg fl_X11_25 rfl rfl h1 dX11_bed_9 ?_
    refine y_iload_n hg 1 dX11_bed_12 rfl rfl ?_
    obtain ⟨c4, h5, h⟩ := h
    obtain ⟨h6, h⟩ := h
    obtain ⟨h7, h⟩ := h
    refine y_zald hg h5 h6 h7 dX11_bed_13 ?_
    refine y_if_ne (tgt := 53) hg dX11_bed_14 (by decide) (fun q8 => ?_) (fun q8 => ?_)
    · replace h := h.2 q8
      refine y_iconst (v := 0) hg dX11_bed_53 (by decide) ?_
      exact yEndI hend (bz_nar (Or.inl rfl)).1 dX11_bed_54 h
    · replace h := h.1 q8
      refine y_iload_n hg 2 dX11_bed_17 rfl rfl ?_
      refine y_iconst (v := 0) hg dX11_bed_18 (by decide) ?_
      refine y_bipush (v := 9) hg dX11_bed_19 (by decide) ?_
      refine ySIP (Qp := _) (rest := []) (As := [.int v2, .int 0, .int 9]) hg (k_X11_isIn (gL g.1) (gD g.1) v2 0 9 σ _ h) ls_X11_194 rfl rfl dX11_bed_21 (cat8 (Nat.le_of_ble_eq_true rfl)) hrm ⟨Nat.le_of_ble_eq_true rfl, Nat.le_of_ble_eq_true rfl⟩ (fun x9 h => ?_)
      refine y_if_eq (tgt := 53) hg dX11_bed_24 (by decide) (fun q10 => ?_) (fun q10 => ?_)
      · replace h := h.1 q10
        refine y_iconst (v := 0) hg dX11_bed_53 (by decide) ?_
        exact yEndI hend (bz_nar (Or.inl rfl)).1 dX11_bed_54 h
      · replace h := h.2 q10
        refine y_iload_n hg 3 dX11_bed_27 rfl rfl ?_
        refine y_iconst (v := 1) hg dX11_bed_28 (by decide) ?_
        refine y_sipush (v := 500) hg dX11_bed_29 (by decide) ?_
        refine ySIP (Qp := _) (rest := []) (As := [.int v3, .int 1, .int 500]) hg (k_X11_isIn (gL g.1) (gD g.1) v3 1 500 σ _ h) ls_X11_194 rfl rfl dX11_bed_32 (cat8 (Nat.le_of_ble_eq_true rfl)) hrm ⟨Nat.le_of_ble_eq_true rfl, Nat.le_of_ble_eq_true rfl⟩ (fun x11 h => ?_)
        refine y_if_eq (tgt := 53) hg dX11_bed_35 (by decide) (fun q12 => ?_) (fun q12 => ?_)
        · replace h := h.1 q12
          refine y_iconst (v := 0) hg dX11_bed_53 (by decide) ?_
          exact yEndI hend (bz_nar (Or.inl rfl)).1 dX11_bed_54 h
        · replace h := h.2 q12
          refine y_aload_n hg 0 dX11_bed_38 rfl rfl ?_
          refine y_iconst (v := 1) hg dX11_bed_39 (by decide) ?_
          refine y_iload_n hg 1 dX11_bed_40 rfl rfl ?_
          refine y_ishl hg dX11_bed_41 ?_
          refine yVIP (Qp := _) (rest := []) (As := [.int (1 <<< (v1 &&& 31))]) hg (k_X11_parked (gL g.1) (gD g.1) a0 (1 <<< (v1 &&& 31)) σ _ h) lv_X11_205 rfl h1 rfl rfl dX11_bed_42 (cat8 (Nat.le_of_ble_eq_true rfl)) hrm ⟨Nat.le_of_ble_eq_true rfl, Nat.le_of_ble_eq_true rfl⟩ (fun x13 h => ?_)
          refine y_aload_n hg 0 dX11_bed_45 rfl rfl ?_
          refine y_iconst (v := 4) hg dX11_bed_46 (by decide) ?_
          refine yVIP (Qp := _) (rest := [.int x13]) (As := [.int 4]) hg (k_X11_now (gL g.1) (gD g.1) a0 4 σ _ h) lv_X11_209 rfl h1 rfl rfl dX11_bed_47 (cat8 (Nat.le_of_ble_eq_true rfl)) hrm ⟨Nat.le_of_ble_eq_true rfl, Nat.le_of_ble_eq_true rfl⟩ (fun x14 h => ?_)
          refine y_icmp_le (tgt := 55) hg dX11_bed_50 (by decide) (fun q15 => ?_) (fun q15 => ?_)
          · replace h := h.1 q15
            refine y_aload_n hg 0 dX11_bed_55 rfl rfl ?_
            refine y_getR hg fl_X11_25 rfl rfl h1 dX11_bed_56 ?_
            refine y_iload_n hg 1 dX11_bed_59 rfl rfl ?_
            refine y_iconst (v := 1) hg dX11_bed_60 (by decide) ?_
            obtain ⟨c16, h17, h⟩ := h
            obtain ⟨h18, h⟩ := h
            obtain ⟨h19, h⟩ := h
            refine y_zast hg h17 h18 h19 (Or.inr rfl) dX11_bed_61 ?_
            refine y_nmS (fun σ20 e21 => ?_)
            replace h := h σ20 e21
            have E22 : sK σ20 = sK σ := by rw [e21]; rfl
            refine y_aload_n hg 0 dX11_bed_62 rfl rfl ?_
            refine y_getR hg fl_X11_29 rfl rfl (kq E22 h1) dX11_bed_63 ?_
            refine y_iload_n hg 1 dX11_bed_66 rfl rfl ?_
            refine y_iload hg 4 dX11_bed_67 rfl ?_
            obtain ⟨c23, h24, h⟩ := h
            obtain ⟨h25, h⟩ := h
            obtain ⟨h26, h⟩ := h
            obtain ⟨h27, h⟩ := h
            refine y_zast hg h24 h25 h26 h27 dX11_bed_69 ?_
            refine y_nmS (fun σ28 e29 => ?_)
            replace h := h σ28 e29
            have E30 : sK σ28 = sK σ20 := by rw [e29]; rfl
            refine y_aload_n hg 0 dX11_bed_70 rfl rfl ?_
            refine y_getR hg fl_X11_32 rfl rfl (kq E30 (kq E22 h1)) dX11_bed_71 ?_
            refine y_iload_n hg 1 dX11_bed_74 rfl rfl ?_
            refine y_iconst (v := 1) hg dX11_bed_75 (by decide) ?_
            obtain ⟨c31, h32, h⟩ := h
            obtain ⟨h33, h⟩ := h
            obtain ⟨h34, h⟩ := h
            refine y_zast hg h32 h33 h34 (Or.inr rfl) dX11_bed_76 ?_
            refine y_nmS (fun σ35 e36 => ?_)
            replace h := h σ35 e36
            have E37 : sK σ35 = sK σ28 := by rw [e36]; rfl
            refine y_aload_n hg 0 dX11_bed_77 rfl rfl ?_
            refine y_getR hg fl_X11_35 rfl rfl (kq E37 (kq E30 (kq E22 h1))) dX11_bed_78 ?_
            refine y_iload_n hg 1 dX11_bed_81 rfl rfl ?_
            refine y_iload_n hg 2 dX11_bed_82 rfl rfl ?_
            obtain ⟨c38, h39, h⟩ := h
            obtain ⟨h40, h⟩ := h
            obtain ⟨h41, h⟩ := h
            refine y_iast hg h39 h40 h41 dX11_bed_83 ?_
            refine y_nmS (fun σ42 e43 => ?_)
            replace h := h σ42 e43
            have E44 : sK σ42 = sK σ35 := by rw [e43]; rfl
            refine y_aload_n hg 0 dX11_bed_84 rfl rfl ?_
            refine y_getR hg fl_X11_38 rfl rfl (kq E44 (kq E37 (kq E30 (kq E22 h1)))) dX11_bed_85 ?_
            refine y_iload_n hg 1 dX11_bed_88 rfl rfl ?_
            refine y_iload_n hg 3 dX11_bed_89 rfl rfl ?_
            obtain ⟨c45, h46, h⟩ := h
            obtain ⟨h47, h⟩ := h
            obtain ⟨h48, h⟩ := h
            refine y_iast hg h46 h47 h48 dX11_bed_90 ?_
            refine y_nmS (fun σ49 e50 => ?_)
            replace h := h σ49 e50
            have E51 : sK σ49 = sK σ42 := by rw [e50]; rfl
            refine y_aload_n hg 0 dX11_bed_91 rfl rfl ?_
            refine y_getR hg fl_X11_41 rfl rfl (kq E51 (kq E44 (kq E37 (kq E30 (kq E22 h1))))) dX11_bed_92 ?_
            refine y_iload_n hg 1 dX11_bed_95 rfl rfl ?_
            refine y_aload_n hg 0 dX11_bed_96 rfl rfl ?_
            refine y_getI hg fl_X11_212 rfl rfl (kq E51 (kq E44 (kq E37 (kq E30 (kq E22 h1))))) dX11_bed_97 ?_
            obtain ⟨c52, h53, h⟩ := h
            obtain ⟨h54, h⟩ := h
            obtain ⟨h55, h⟩ := h
            refine y_iast hg h53 h54 h55 dX11_bed_100 ?_
            refine y_nmS (fun σ56 e57 => ?_)
            replace h := h σ56 e57
            have E58 : sK σ56 = sK σ49 := by rw [e57]; rfl
            refine y_aload_n hg 0 dX11_bed_101 rfl rfl ?_
            refine y_getR hg fl_X11_59 rfl rfl (kq E58 (kq E51 (kq E44 (kq E37 (kq E30 (kq E22 h1)))))) dX11_bed_102 ?_
            refine y_iload_n hg 1 dX11_bed_105 rfl rfl ?_
            refine y_iconst (v := (-1)) hg dX11_bed_106 (by decide) ?_
            obtain ⟨c59, h60, h⟩ := h
            obtain ⟨h61, h⟩ := h
            obtain ⟨h62, h⟩ := h
            refine y_iast hg h60 h61 h62 dX11_bed_107 ?_
            refine y_nmS (fun σ63 e64 => ?_)
            replace h := h σ63 e64
            have E65 : sK σ63 = sK σ56 := by rw [e64]; rfl
            refine y_iconst (v := 0) hg dX11_bed_108 (by decide) ?_
            refine y_istore (lv' := [(5, .int 0), (0, va_rf (some a0)), (1, .int v1), (2, .int v2), (3, .int v3), (4, .int v4)]) hg dX11_bed_109 (by rw [hgN]; decide) rfl ?_
            refine y_sub [1, 2, 0] rfl ?_
            exact J111 _ _ _ h
          · replace h := h.2 q15
            refine y_iconst (v := 0) hg dX11_bed_53 (by decide) ?_
            exact yEndI hend (bz_nar (Or.inl rfl)).1 dX11_bed_54 h
def P_X11_drinkBy (a0 : Nat) (v1 : Int32) (v2 : Int32) (σ : Sg) (Q : Int32 → Prop) : Prop :=
  sK σ a0 % 32 = 13 ∧ ∃ c2 : Nat, sR σ a0 15 = some c2 ∧ sK σ c2 % 32 = 16 ∧ vp_in v1 (sN σ c2) ∧ ∃ c6 : Nat, sR σ a0 31 = some c6 ∧ sK σ c6 % 32 = 16 ∧ vp_in (sI σ c2 v1.toNatClampNeg) (sN σ c6) ∧ Q (((sI σ c6 (sI σ c2 v1.toNatClampNeg).toNatClampNeg) * (100 - v2)) / 100)
set_option maxHeartbeats 4000000 in
set_option maxRecDepth 100000 in
theorem k_X11_drinkBy (l : Launch) (D : Dg) (a0 : Nat) (v1 : Int32) (v2 : Int32) (σ : Sg) (Q : Int32 → Prop) (h : P_X11_drinkBy a0 v1 v2 σ Q) : CtrY RN l D yX11_drinkBy cX11_drinkBy 3 (some FieldType.int) 0 0 mkI [.ref a0, .int v1, .int v2] σ (0, 0) (fun r σ2 => Q r ∧ σ2 = σ) := by
  refine y_ctrN (lv := [(0, va_rf (some a0)), (1, .int v1), (2, .int v2)]) (by decide) (by (exact Nat.le_of_ble_eq_true rfl)) (by (exact rfl)) (fun g hg hgL hgD hrm hgN hgI hend => ?_)
  subst hgD
  clear hgL
  unfold P_X11_drinkBy at h
  refine y_aload_n hg 0 dX11_drinkBy_0 rfl rfl ?_
  obtain ⟨h1, h⟩ := h
  refine y_getR hg fl_X11_83 rfl rfl h1 dX11_drinkBy_1 ?_
  refine y_aload_n hg 0 dX11_drinkBy_4 rfl rfl ?_
  refine y_getR hg fl_X11_35 rfl rfl h1 dX11_drinkBy_5 ?_
  refine y_iload_n hg 1 dX11_drinkBy_8 rfl rfl ?_
  obtain ⟨c2, h3, h⟩ := h
  obtain ⟨h4, h⟩ := h
  obtain ⟨h5, h⟩ := h
  refine y_iald hg h3 h4 h5 dX11_drinkBy_9 ?_
  obtain ⟨c6, h7, h⟩ := h
  obtain ⟨h8, h⟩ := h
  obtain ⟨h9, h⟩ := h
  refine y_iald hg h7 h8 h9 dX11_drinkBy_10 ?_
  refine y_bipush (v := 100) hg dX11_drinkBy_11 (by decide) ?_
  refine y_iload_n hg 2 dX11_drinkBy_13 rfl rfl ?_
  refine y_isub hg dX11_drinkBy_14 ?_
  refine y_imul hg dX11_drinkBy_15 ?_
  refine y_bipush (v := 100) hg dX11_drinkBy_16 (by decide) ?_
  refine y_idiv hg dX11_drinkBy_18 (by decide) ?_
  exact yEndI hend rfl dX11_drinkBy_19 ⟨h, rfl⟩
def P_X11_drink (a0 : Nat) (v1 : Int32) (σ : Sg) (Q : Int32 → Prop) : Prop :=
  sK σ a0 % 32 = 13 ∧ ∃ c2 : Nat, sR σ a0 18 = some c2 ∧ sK σ c2 % 32 = 16 ∧ vp_in v1 (sN σ c2) ∧ P_X11_drinkBy a0 v1 (sI σ c2 v1.toNatClampNeg) σ (fun x6 => Q x6)
set_option maxHeartbeats 4000000 in
set_option maxRecDepth 100000 in
theorem k_X11_drink (l : Launch) (D : Dg) (a0 : Nat) (v1 : Int32) (σ : Sg) (Q : Int32 → Prop) (h : P_X11_drink a0 v1 σ Q) : CtrY RN l D yX11_drink cX11_drink 2 (some FieldType.int) 1 22 mkI [.ref a0, .int v1] σ (0, 0) (fun r σ2 => Q r ∧ σ2 = σ) := by
  refine y_ctrN (lv := [(0, va_rf (some a0)), (1, .int v1)]) (by decide) (by (exact Nat.le_of_ble_eq_true rfl)) (by (exact rfl)) (fun g hg hgL hgD hrm hgN hgI hend => ?_)
  subst hgD
  clear hgL
  unfold P_X11_drink at h
  refine y_aload_n hg 0 dX11_drink_0 rfl rfl ?_
  refine y_iload_n hg 1 dX11_drink_1 rfl rfl ?_
  refine y_aload_n hg 0 dX11_drink_2 rfl rfl ?_
  obtain ⟨h1, h⟩ := h
  refine y_getR hg fl_X11_44 rfl rfl h1 dX11_drink_3 ?_
  refine y_iload_n hg 1 dX11_drink_6 rfl rfl ?_
  obtain ⟨c2, h3, h⟩ := h
  obtain ⟨h4, h⟩ := h
  obtain ⟨h5, h⟩ := h
  refine y_iald hg h3 h4 h5 dX11_drink_7 ?_
  refine yVIP (Qp := _) (rest := []) (As := [.int v1, .int (sI σ c2 v1.toNatClampNeg)]) hg (k_X11_drinkBy (gL g.1) (gD g.1) a0 v1 (sI σ c2 v1.toNatClampNeg) σ _ h) lv_X11_215 rfl h1 rfl rfl dX11_drink_8 (cat8 (Nat.le_of_ble_eq_true rfl)) hrm ⟨Nat.le_of_ble_eq_true rfl, Nat.le_of_ble_eq_true rfl⟩ (fun x6 h => ?_)
  exact yEndI hend rfl dX11_drink_11 ⟨h, rfl⟩
def P_X11_care (a0 : Nat) (v1 : Int32) (v2 : Int32) (σ : Sg) (Q : Int32 → Sg → Prop) : Prop :=
  sK σ a0 % 32 = 13 ∧ P_X11_isBed a0 v1 σ (fun x2 => (x2 = 0 → Q 0 σ) ∧ (¬ (x2 = 0) → P_X11_isIn v2 0 10 σ (fun x4 => (x4 = 0 → Q 0 σ) ∧ (¬ (x4 = 0) → ∃ c6 : Nat, sR σ a0 24 = some c6 ∧ sK σ c6 % 32 = 16 ∧ vp_in ((11 * v1) + v2) (sN σ c6) ∧ ((sI σ c6 ((11 * v1) + v2).toNatClampNeg) = (sI σ a0 0) → Q 0 σ) ∧ (¬ ((sI σ c6 ((11 * v1) + v2).toNatClampNeg) = (sI σ a0 0)) → ∃ c11 : Nat, sR σ a0 24 = some c11 ∧ sK σ c11 % 32 = 16 ∧ vp_in ((11 * v1) + v2) (sN σ c11) ∧ ∀ σ15 : Sg, σ15 = pI σ c11 ((11 * v1) + v2).toNatClampNeg (sI σ a0 0) → ∃ c18 : Nat, sR σ15 a0 18 = some c18 ∧ sK σ15 c18 % 32 = 16 ∧ vp_in v1 (sN σ15 c18) ∧ ∀ x22 : Int32, x22 = (if (0 : Int32) < ((sI σ15 c18 v1.toNatClampNeg) - 30) then ((sI σ15 c18 v1.toNatClampNeg) - 30) else (0 : Int32)) → ∃ c24 : Nat, sR σ15 a0 18 = some c24 ∧ sK σ15 c24 % 32 = 16 ∧ vp_in v1 (sN σ15 c24) ∧ ∀ σ28 : Sg, σ28 = pI σ15 c24 v1.toNatClampNeg x22 → ∃ c31 : Nat, sR σ28 a0 19 = some c31 ∧ sK σ28 c31 % 32 = 16 ∧ vp_in v1 (sN σ28 c31) ∧ ∀ σ35 : Sg, σ35 = pI σ28 c31 v1.toNatClampNeg 0 → Q 1 σ35)))))
set_option maxHeartbeats 4000000 in
set_option maxRecDepth 100000 in
theorem k_X11_care (l : Launch) (D : Dg) (a0 : Nat) (v1 : Int32) (v2 : Int32) (σ : Sg) (Q : Int32 → Sg → Prop) (h : P_X11_care a0 v1 v2 σ Q) : CtrY RN l D yX11_care cX11_care 3 (some FieldType.boolean) 3 64 mkI [.ref a0, .int v1, .int v2] σ (0, 0) Q := by
  refine y_ctrN (lv := [(0, va_rf (some a0)), (1, .int v1), (2, .int v2)]) (by decide) (by (exact Nat.le_of_ble_eq_true rfl)) (by (exact rfl)) (fun g hg hgL hgD hrm hgN hgI hend => ?_)
  subst hgD
  clear hgL
  unfold P_X11_care at h
  refine y_aload_n hg 0 dX11_care_0 rfl rfl ?_
  refine y_iload_n hg 1 dX11_care_1 rfl rfl ?_
  obtain ⟨h1, h⟩ := h
  refine yVIP (Qp := _) (rest := []) (As := [.int v1]) hg (k_X11_isBed (gL g.1) (gD g.1) a0 v1 σ _ h) lv_X11_219 rfl h1 rfl rfl dX11_care_2 (cat8 (Nat.le_of_ble_eq_true rfl)) hrm ⟨Nat.le_of_ble_eq_true rfl, Nat.le_of_ble_eq_true rfl⟩ (fun x2 h => ?_)
  refine y_if_eq (tgt := 36) hg dX11_care_5 (by decide) (fun q3 => ?_) (fun q3 => ?_)
  · replace h := h.1 q3
    refine y_iconst (v := 0) hg dX11_care_36 (by decide) ?_
    exact yEndI hend (bz_nar (Or.inl rfl)).1 dX11_care_37 h
  · replace h := h.2 q3
    refine y_iload_n hg 2 dX11_care_8 rfl rfl ?_
    refine y_iconst (v := 0) hg dX11_care_9 (by decide) ?_
    refine y_bipush (v := 10) hg dX11_care_10 (by decide) ?_
    refine ySIP (Qp := _) (rest := []) (As := [.int v2, .int 0, .int 10]) hg (k_X11_isIn (gL g.1) (gD g.1) v2 0 10 σ _ h) ls_X11_194 rfl rfl dX11_care_12 (cat8 (Nat.le_of_ble_eq_true rfl)) hrm ⟨Nat.le_of_ble_eq_true rfl, Nat.le_of_ble_eq_true rfl⟩ (fun x4 h => ?_)
    refine y_if_eq (tgt := 36) hg dX11_care_15 (by decide) (fun q5 => ?_) (fun q5 => ?_)
    · replace h := h.1 q5
      refine y_iconst (v := 0) hg dX11_care_36 (by decide) ?_
      exact yEndI hend (bz_nar (Or.inl rfl)).1 dX11_care_37 h
    · replace h := h.2 q5
      refine y_aload_n hg 0 dX11_care_18 rfl rfl ?_
      refine y_getR hg fl_X11_62 rfl rfl h1 dX11_care_19 ?_
      refine y_bipush (v := 11) hg dX11_care_22 (by decide) ?_
      refine y_iload_n hg 1 dX11_care_24 rfl rfl ?_
      refine y_imul hg dX11_care_25 ?_
      refine y_iload_n hg 2 dX11_care_26 rfl rfl ?_
      refine y_iadd hg dX11_care_27 ?_
      obtain ⟨c6, h7, h⟩ := h
      obtain ⟨h8, h⟩ := h
      obtain ⟨h9, h⟩ := h
      refine y_iald hg h7 h8 h9 dX11_care_28 ?_
      refine y_aload_n hg 0 dX11_care_29 rfl rfl ?_
      refine y_getI hg fl_X11_212 rfl rfl h1 dX11_care_30 ?_
      refine y_icmp_ne (tgt := 38) hg dX11_care_33 (by decide) (fun q10 => ?_) (fun q10 => ?_)
      · replace h := h.2 q10
        refine y_aload_n hg 0 dX11_care_38 rfl rfl ?_
        refine y_getR hg fl_X11_62 rfl rfl h1 dX11_care_39 ?_
        refine y_bipush (v := 11) hg dX11_care_42 (by decide) ?_
        refine y_iload_n hg 1 dX11_care_44 rfl rfl ?_
        refine y_imul hg dX11_care_45 ?_
        refine y_iload_n hg 2 dX11_care_46 rfl rfl ?_
        refine y_iadd hg dX11_care_47 ?_
        refine y_aload_n hg 0 dX11_care_48 rfl rfl ?_
        refine y_getI hg fl_X11_212 rfl rfl h1 dX11_care_49 ?_
        obtain ⟨c11, h12, h⟩ := h
        obtain ⟨h13, h⟩ := h
        obtain ⟨h14, h⟩ := h
        refine y_iast hg h12 h13 h14 dX11_care_52 ?_
        refine y_nmS (fun σ15 e16 => ?_)
        replace h := h σ15 e16
        have E17 : sK σ15 = sK σ := by rw [e16]; rfl
        refine y_aload_n hg 0 dX11_care_53 rfl rfl ?_
        refine y_getR hg fl_X11_44 rfl rfl (kq E17 h1) dX11_care_54 ?_
        refine y_iload_n hg 1 dX11_care_57 rfl rfl ?_
        refine y_iconst (v := 0) hg dX11_care_58 (by decide) ?_
        refine y_aload_n hg 0 dX11_care_59 rfl rfl ?_
        refine y_getR hg fl_X11_44 rfl rfl (kq E17 h1) dX11_care_60 ?_
        refine y_iload_n hg 1 dX11_care_63 rfl rfl ?_
        obtain ⟨c18, h19, h⟩ := h
        obtain ⟨h20, h⟩ := h
        obtain ⟨h21, h⟩ := h
        refine y_iald hg h19 h20 h21 dX11_care_64 ?_
        refine y_bipush (v := 30) hg dX11_care_65 (by decide) ?_
        refine y_isub hg dX11_care_67 ?_
        refine y_mmax hg mm_X11_222 (cat8 (Nat.le_of_ble_eq_true rfl)) hrm ⟨Nat.le_of_ble_eq_true rfl, Nat.le_of_ble_eq_true rfl⟩ dX11_care_68 ?_
        refine y_nmI (fun x22 e23 => ?_)
        replace h := h x22 e23
        obtain ⟨c24, h25, h⟩ := h
        obtain ⟨h26, h⟩ := h
        obtain ⟨h27, h⟩ := h
        refine y_iast hg h25 h26 h27 dX11_care_71 ?_
        refine y_nmS (fun σ28 e29 => ?_)
        replace h := h σ28 e29
        have E30 : sK σ28 = sK σ15 := by rw [e29]; rfl
        refine y_aload_n hg 0 dX11_care_72 rfl rfl ?_
        refine y_getR hg fl_X11_47 rfl rfl (kq E30 (kq E17 h1)) dX11_care_73 ?_
        refine y_iload_n hg 1 dX11_care_76 rfl rfl ?_
        refine y_iconst (v := 0) hg dX11_care_77 (by decide) ?_
        obtain ⟨c31, h32, h⟩ := h
        obtain ⟨h33, h⟩ := h
        obtain ⟨h34, h⟩ := h
        refine y_iast hg h32 h33 h34 dX11_care_78 ?_
        refine y_nmS (fun σ35 e36 => ?_)
        replace h := h σ35 e36
        have E37 : sK σ35 = sK σ28 := by rw [e36]; rfl
        refine y_iconst (v := 1) hg dX11_care_79 (by decide) ?_
        exact yEndI hend (bz_nar (Or.inr rfl)).1 dX11_care_80 h
      · replace h := h.1 q10
        refine y_iconst (v := 0) hg dX11_care_36 (by decide) ?_
        exact yEndI hend (bz_nar (Or.inl rfl)).1 dX11_care_37 h
def P_X11_treat_B33 (a0 : Nat) (v1 : Int32) (v2 : Int32) (σ : Sg) (Q : Int32 → Sg → Prop) : Prop :=
  (v2 = 0 → sK σ a0 % 32 = 13 ∧ ∃ c22 : Nat, sR σ a0 20 = some c22 ∧ sK σ c22 % 32 = 16 ∧ vp_in v1 (sN σ c22) ∧ ∀ x26 : Int32, x26 = (if ((sI σ c22 v1.toNatClampNeg) + 10) < (100 : Int32) then ((sI σ c22 v1.toNatClampNeg) + 10) else (100 : Int32)) → ∃ c28 : Nat, sR σ a0 20 = some c28 ∧ sK σ c28 % 32 = 16 ∧ vp_in v1 (sN σ c28) ∧ ∀ σ32 : Sg, σ32 = pI σ c28 v1.toNatClampNeg x26 → Q 1 σ32) ∧ (¬ (v2 = 0) → sK σ a0 % 32 = 13 ∧ ∃ c14 : Nat, sR σ a0 14 = some c14 ∧ sK σ c14 % 32 = 18 ∧ vp_in v1 (sN σ c14) ∧ ∀ σ18 : Sg, σ18 = pI σ c14 v1.toNatClampNeg 1 → Q 1 σ18)
def P_X11_treat (a0 : Nat) (v1 : Int32) (v2 : Int32) (σ : Sg) (Q : Int32 → Sg → Prop) : Prop :=
  sK σ a0 % 32 = 13 ∧ P_X11_isBed a0 v1 σ (fun x2 => (x2 = 0 → Q 0 σ) ∧ (¬ (x2 = 0) → P_X11_isIn v2 0 1 σ (fun x4 => (x4 = 0 → Q 0 σ) ∧ (¬ (x4 = 0) → (v2 = 1 → ∃ c7 : Nat, sR σ a0 14 = some c7 ∧ sK σ c7 % 32 = 18 ∧ vp_in v1 (sN σ c7) ∧ ((sI σ c7 v1.toNatClampNeg) = 0 → P_X11_treat_B33 a0 v1 v2 σ Q) ∧ (¬ ((sI σ c7 v1.toNatClampNeg) = 0) → Q 0 σ)) ∧ (¬ (v2 = 1) → P_X11_treat_B33 a0 v1 v2 σ Q)))))
set_option maxHeartbeats 4000000 in
set_option maxRecDepth 100000 in
theorem k_X11_treat (l : Launch) (D : Dg) (a0 : Nat) (v1 : Int32) (v2 : Int32) (σ : Sg) (Q : Int32 → Sg → Prop) (h : P_X11_treat a0 v1 v2 σ Q) : CtrY RN l D yX11_treat cX11_treat 3 (some FieldType.boolean) 3 64 mkI [.ref a0, .int v1, .int v2] σ (0, 0) Q := by
  refine y_ctrN (lv := [(0, va_rf (some a0)), (1, .int v1), (2, .int v2)]) (by decide) (by (exact Nat.le_of_ble_eq_true rfl)) (by (exact rfl)) (fun g hg hgL hgD hrm hgN hgI hend => ?_)
  subst hgD
  clear hgL
  unfold P_X11_treat at h
  have J33 : ∀ (v1 : Int32) (v2 : Int32) (σ : Sg), P_X11_treat_B33 a0 v1 v2 σ Q → XA g 33 [(0, va_rf (some a0)), (1, .int v1), (2, .int v2)] [] σ (0, 0) := by
    intro v1 v2 σ h
    unfold P_X11_treat_B33 at h
    refine y_iload_n hg 2 dX11_treat_33 rfl rfl ?_
    refine y_if_ne (tgt := 60) hg dX11_treat_34 (by decide) (fun q12 => ?_) (fun q12 => ?_)
    · replace h := h.2 q12
      refine y_aload_n hg 0 dX11_treat_60 rfl rfl ?_
      obtain ⟨h13, h⟩ := h
      refine y_getR hg fl_X11_32 rfl rfl h13 dX11_treat_61 ?_
      refine y_iload_n hg 1 dX11_treat_64 rfl rfl ?_
      refine y_iconst (v := 1) hg dX11_treat_65 (by decide) ?_
      obtain ⟨c14, h15, h⟩ := h
      obtain ⟨h16, h⟩ := h
      obtain ⟨h17, h⟩ := h
      refine y_zast hg h15 h16 h17 (Or.inr rfl) dX11_treat_66 ?_
      refine y_nmS (fun σ18 e19 => ?_)
      replace h := h σ18 e19
      have E20 : sK σ18 = sK σ := by rw [e19]; rfl
      refine y_iconst (v := 1) hg dX11_treat_67 (by decide) ?_
      exact yEndI hend (bz_nar (Or.inr rfl)).1 dX11_treat_68 h
    · replace h := h.1 q12
      refine y_aload_n hg 0 dX11_treat_37 rfl rfl ?_
      obtain ⟨h21, h⟩ := h
      refine y_getR hg fl_X11_50 rfl rfl h21 dX11_treat_38 ?_
      refine y_iload_n hg 1 dX11_treat_41 rfl rfl ?_
      refine y_bipush (v := 100) hg dX11_treat_42 (by decide) ?_
      refine y_aload_n hg 0 dX11_treat_44 rfl rfl ?_
      refine y_getR hg fl_X11_50 rfl rfl h21 dX11_treat_45 ?_
      refine y_iload_n hg 1 dX11_treat_48 rfl rfl ?_
      obtain ⟨c22, h23, h⟩ := h
      obtain ⟨h24, h⟩ := h
      obtain ⟨h25, h⟩ := h
      refine y_iald hg h23 h24 h25 dX11_treat_49 ?_
      refine y_bipush (v := 10) hg dX11_treat_50 (by decide) ?_
      refine y_iadd hg dX11_treat_52 ?_
      refine y_mmin hg mm_X11_227 (cat8 (Nat.le_of_ble_eq_true rfl)) hrm ⟨Nat.le_of_ble_eq_true rfl, Nat.le_of_ble_eq_true rfl⟩ dX11_treat_53 ?_
      refine y_nmI (fun x26 e27 => ?_)
      replace h := h x26 e27
      obtain ⟨c28, h29, h⟩ := h
      obtain ⟨h30, h⟩ := h
      obtain ⟨h31, h⟩ := h
      refine y_iast hg h29 h30 h31 dX11_treat_56 ?_
      refine y_nmS (fun σ32 e33 => ?_)
      replace h := h σ32 e33
      have E34 : sK σ32 = sK σ := by rw [e33]; rfl
      refine y_goto (tgt := 67) hg dX11_treat_57 (by decide) ?_
      refine y_iconst (v := 1) hg dX11_treat_67 (by decide) ?_
      exact yEndI hend (bz_nar (Or.inr rfl)).1 dX11_treat_68 h
  refine y_aload_n hg 0 dX11_treat_0 rfl rfl ?_
  refine y_iload_n hg 1 dX11_treat_1 rfl rfl ?_
  obtain ⟨h1, h⟩ := h
  refine yVIP (Qp := _) (rest := []) (As := [.int v1]) hg (k_X11_isBed (gL g.1) (gD g.1) a0 v1 σ _ h) lv_X11_219 rfl h1 rfl rfl dX11_treat_2 (cat8 (Nat.le_of_ble_eq_true rfl)) hrm ⟨Nat.le_of_ble_eq_true rfl, Nat.le_of_ble_eq_true rfl⟩ (fun x2 h => ?_)
  refine y_if_eq (tgt := 31) hg dX11_treat_5 (by decide) (fun q3 => ?_) (fun q3 => ?_)
  · replace h := h.1 q3
    refine y_iconst (v := 0) hg dX11_treat_31 (by decide) ?_
    exact yEndI hend (bz_nar (Or.inl rfl)).1 dX11_treat_32 h
  · replace h := h.2 q3
    refine y_iload_n hg 2 dX11_treat_8 rfl rfl ?_
    refine y_iconst (v := 0) hg dX11_treat_9 (by decide) ?_
    refine y_iconst (v := 1) hg dX11_treat_10 (by decide) ?_
    refine ySIP (Qp := _) (rest := []) (As := [.int v2, .int 0, .int 1]) hg (k_X11_isIn (gL g.1) (gD g.1) v2 0 1 σ _ h) ls_X11_194 rfl rfl dX11_treat_11 (cat8 (Nat.le_of_ble_eq_true rfl)) hrm ⟨Nat.le_of_ble_eq_true rfl, Nat.le_of_ble_eq_true rfl⟩ (fun x4 h => ?_)
    refine y_if_eq (tgt := 31) hg dX11_treat_14 (by decide) (fun q5 => ?_) (fun q5 => ?_)
    · replace h := h.1 q5
      refine y_iconst (v := 0) hg dX11_treat_31 (by decide) ?_
      exact yEndI hend (bz_nar (Or.inl rfl)).1 dX11_treat_32 h
    · replace h := h.2 q5
      refine y_iload_n hg 2 dX11_treat_17 rfl rfl ?_
      refine y_iconst (v := 1) hg dX11_treat_18 (by decide) ?_
      refine y_icmp_ne (tgt := 33) hg dX11_treat_19 (by decide) (fun q6 => ?_) (fun q6 => ?_)
      · replace h := h.2 q6
        refine y_sub [0, 1, 2] rfl ?_
        exact J33 _ _ _ h
      · replace h := h.1 q6
        refine y_aload_n hg 0 dX11_treat_22 rfl rfl ?_
        refine y_getR hg fl_X11_32 rfl rfl h1 dX11_treat_23 ?_
        refine y_iload_n hg 1 dX11_treat_26 rfl rfl ?_
        obtain ⟨c7, h8, h⟩ := h
        obtain ⟨h9, h⟩ := h
        obtain ⟨h10, h⟩ := h
        refine y_zald hg h8 h9 h10 dX11_treat_27 ?_
        refine y_if_eq (tgt := 33) hg dX11_treat_28 (by decide) (fun q11 => ?_) (fun q11 => ?_)
        · replace h := h.1 q11
          refine y_sub [0, 1, 2] rfl ?_
          exact J33 _ _ _ h
        · replace h := h.2 q11
          refine y_iconst (v := 0) hg dX11_treat_31 (by decide) ?_
          exact yEndI hend (bz_nar (Or.inl rfl)).1 dX11_treat_32 h
def P_X11_complain_B100 (a0 : Nat) (v1 : Int32) (v2 : Int32) (v3 : Int32) (σ : Sg) (Q : Int32 → Sg → Prop) (K26 : Int32 → Prop) : Prop :=
  ∀ x92 : Int32, x92 = v3 + (-1) → K26 x92
def P_X11_complain_L26b (a0 : Nat) (v1 : Int32) (v2 : Int32) (v3 : Int32) (σ : Sg) (Q : Int32 → Sg → Prop) (K26 : Int32 → Prop) : Prop :=
  (v3 < 0 → sK σ a0 % 32 = 13 ∧ ((sI σ a0 6) = 60 → Q (-1) σ) ∧ (¬ ((sI σ a0 6) = 60) → ∃ c11 : Nat, sR σ a0 61 = some c11 ∧ sK σ c11 % 32 = 16 ∧ vp_in (sI σ a0 6) (sN σ c11) ∧ ∀ σ15 : Sg, σ15 = pI σ c11 (sI σ a0 6).toNatClampNeg v1 → ∃ c18 : Nat, sR σ15 a0 62 = some c18 ∧ sK σ15 c18 % 32 = 16 ∧ vp_in (sI σ15 a0 6) (sN σ15 c18) ∧ ∀ σ22 : Sg, σ22 = pI σ15 c18 (sI σ15 a0 6).toNatClampNeg v2 → ∃ c25 : Nat, sR σ22 a0 63 = some c25 ∧ sK σ22 c25 % 32 = 16 ∧ vp_in (sI σ22 a0 6) (sN σ22 c25) ∧ ∀ σ29 : Sg, σ29 = pI σ22 c25 (sI σ22 a0 6).toNatClampNeg (sI σ22 a0 0) → ∃ c32 : Nat, sR σ29 a0 64 = some c32 ∧ sK σ29 c32 % 32 = 16 ∧ vp_in (sI σ29 a0 6) (sN σ29 c32) ∧ ∀ σ36 : Sg, σ36 = pI σ29 c32 (sI σ29 a0 6).toNatClampNeg (sI σ29 a0 0) → ∃ c39 : Nat, sR σ36 a0 65 = some c39 ∧ sK σ36 c39 % 32 = 16 ∧ vp_in (sI σ36 a0 6) (sN σ36 c39) ∧ ∀ σ43 : Sg, σ43 = pI σ36 c39 (sI σ36 a0 6).toNatClampNeg 1 → ∃ c46 : Nat, sR σ43 a0 66 = some c46 ∧ sK σ43 c46 % 32 = 18 ∧ vp_in (sI σ43 a0 6) (sN σ43 c46) ∧ ∀ σ50 : Sg, σ50 = pI σ43 c46 (sI σ43 a0 6).toNatClampNeg 1 → ∀ σ53 : Sg, σ53 = pI σ50 a0 6 ((sI σ50 a0 6) + 1) → Q ((sI σ53 a0 6) - 1) σ53)) ∧ (¬ (v3 < 0) → sK σ a0 % 32 = 13 ∧ ∃ c57 : Nat, sR σ a0 66 = some c57 ∧ sK σ c57 % 32 = 18 ∧ vp_in v3 (sN σ c57) ∧ ((sI σ c57 v3.toNatClampNeg) = 0 → P_X11_complain_B100 a0 v1 v2 v3 σ Q K26) ∧ (¬ ((sI σ c57 v3.toNatClampNeg) = 0) → ∃ c62 : Nat, sR σ a0 61 = some c62 ∧ sK σ c62 % 32 = 16 ∧ vp_in v3 (sN σ c62) ∧ ((sI σ c62 v3.toNatClampNeg) = v1 → ∃ c67 : Nat, sR σ a0 62 = some c67 ∧ sK σ c67 % 32 = 16 ∧ vp_in v3 (sN σ c67) ∧ ((sI σ c67 v3.toNatClampNeg) = v2 → ∃ c72 : Nat, sR σ a0 64 = some c72 ∧ sK σ c72 % 32 = 16 ∧ vp_in v3 (sN σ c72) ∧ (((sI σ a0 0) - (sI σ c72 v3.toNatClampNeg)) ≤ 7 → ∃ c77 : Nat, sR σ a0 64 = some c77 ∧ sK σ c77 % 32 = 16 ∧ vp_in v3 (sN σ c77) ∧ ∀ σ81 : Sg, σ81 = pI σ c77 v3.toNatClampNeg (sI σ a0 0) → ∃ c84 : Nat, sR σ81 a0 65 = some c84 ∧ sK σ81 c84 % 32 = 16 ∧ vp_in v3 (sN σ81 c84) ∧ vp_in v3 (sN σ81 c84) ∧ ∀ σ89 : Sg, σ89 = pI σ81 c84 v3.toNatClampNeg ((sI σ81 c84 v3.toNatClampNeg) + 1) → Q v3 σ89) ∧ (¬ (((sI σ a0 0) - (sI σ c72 v3.toNatClampNeg)) ≤ 7) → P_X11_complain_B100 a0 v1 v2 v3 σ Q K26)) ∧ (¬ ((sI σ c67 v3.toNatClampNeg) = v2) → P_X11_complain_B100 a0 v1 v2 v3 σ Q K26)) ∧ (¬ ((sI σ c62 v3.toNatClampNeg) = v1) → P_X11_complain_B100 a0 v1 v2 v3 σ Q K26)))
def P_X11_complain_L26 (a0 : Nat) (v1 : Int32) (v2 : Int32) (v3 : Int32) (σ : Sg) (Q : Int32 → Sg → Prop) : Prop :=
  ∃ I : Nat → Int32 → Prop, (∃ n, I n v3) ∧ ∀ (n : Nat) (v3 : Int32), I n v3 → P_X11_complain_L26b a0 v1 v2 v3 σ Q (fun v3 => ∃ n', n' < n ∧ I n' v3)
def P_X11_complain (a0 : Nat) (v1 : Int32) (v2 : Int32) (σ : Sg) (Q : Int32 → Sg → Prop) : Prop :=
  sK σ a0 % 32 = 13 ∧ P_X11_isCorner a0 v1 σ (fun x2 => (x2 = 0 → Q (-1) σ) ∧ (¬ (x2 = 0) → P_X11_isIn v2 0 3 σ (fun x4 => (x4 = 0 → Q (-1) σ) ∧ (¬ (x4 = 0) → ∀ x6 : Int32, x6 = (sI σ a0 6) - 1 → P_X11_complain_L26 a0 v1 v2 x6 σ Q))))
set_option maxHeartbeats 4000000 in
set_option maxRecDepth 100000 in
theorem k_X11_complain (l : Launch) (D : Dg) (a0 : Nat) (v1 : Int32) (v2 : Int32) (σ : Sg) (Q : Int32 → Sg → Prop) (h : P_X11_complain a0 v1 v2 σ Q) : CtrY RN l D yX11_complain cX11_complain 4 (some FieldType.int) 2 43 mkI [.ref a0, .int v1, .int v2] σ (0, 0) Q := by
  refine y_ctrN (lv := [(0, va_rf (some a0)), (1, .int v1), (2, .int v2)]) (by decide) (by (exact Nat.le_of_ble_eq_true rfl)) (by (exact rfl)) (fun g hg hgL hgD hrm hgN hgI hend => ?_)
  subst hgD
  clear hgL
  unfold P_X11_complain at h
  have J26 : ∀ (v1 : Int32) (v2 : Int32) (v3 : Int32) (σ : Sg), P_X11_complain_L26 a0 v1 v2 v3 σ Q → XA g 26 [(0, va_rf (some a0)), (1, .int v1), (2, .int v2), (3, .int v3)] [] σ (0, 0) := by
    intro v1 v2 v3 σ h
    unfold P_X11_complain_L26 at h
    obtain ⟨I26, ⟨n26, hI26⟩, hs26⟩ := h
    have key26 : ∀ (n : Nat), ∀ (v3 : Int32), I26 n v3 → XA g 26 [(0, va_rf (some a0)), (1, .int v1), (2, .int v2), (3, .int v3)] [] σ (0, 0) := by
      intro n
      induction n using Nat.strongRecOn with
      | _ n ih26 =>
      intro v3 hI
      have h := hs26 n v3 hI
      clear hI hI26 hs26
      obtain ⟨K26, hK26⟩ : ∃ K : Int32 → Prop, K = (fun v3 => ∃ n', n' < n ∧ I26 n' v3) := ⟨_, rfl⟩
      rw [← hK26] at h
      unfold P_X11_complain_L26b at h
      have J100 : ∀ (v3 : Int32), P_X11_complain_B100 a0 v1 v2 v3 σ Q K26 → XA g 100 [(0, va_rf (some a0)), (1, .int v1), (2, .int v2), (3, .int v3)] [] σ (0, 0) := by
        intro v3 h
        unfold P_X11_complain_B100 at h
        obtain ⟨x92, e93⟩ : ∃ y : Int32, y = v3 + (-1) := ⟨_, rfl⟩
        replace h := h x92 e93
        refine y_iinc (v := x92) (lv' := [(3, .int x92), (0, va_rf (some a0)), (1, .int v1), (2, .int v2)]) hg 3 dX11_complain_100 rfl (by rw [e93]; rfl) (by rw [hgN]; decide) rfl ?_
        refine y_goto (tgt := 26) hg dX11_complain_103 (by decide) ?_
        refine y_sub [1, 2, 3, 0] rfl ?_
        subst hK26
        obtain ⟨n94, h95, h⟩ := h
        exact ih26 n94 h95 _ h
      refine y_iload_n hg 3 dX11_complain_26 rfl rfl ?_
      refine y_if_lt (tgt := 106) hg dX11_complain_27 (by decide) (fun q8 => ?_) (fun q8 => ?_)
      · replace h := h.1 q8
        refine y_aload_n hg 0 dX11_complain_106 rfl rfl ?_
        obtain ⟨h9, h⟩ := h
        refine y_getI hg fl_X11_338 rfl rfl h9 dX11_complain_107 ?_
        refine y_bipush (v := 60) hg dX11_complain_110 (by decide) ?_
        refine y_icmp_ne (tgt := 117) hg dX11_complain_112 (by decide) (fun q10 => ?_) (fun q10 => ?_)
        · replace h := h.2 q10
          refine y_aload_n hg 0 dX11_complain_117 rfl rfl ?_
          refine y_getR hg fl_X11_141 rfl rfl h9 dX11_complain_118 ?_
          refine y_aload_n hg 0 dX11_complain_121 rfl rfl ?_
          refine y_getI hg fl_X11_338 rfl rfl h9 dX11_complain_122 ?_
          refine y_iload_n hg 1 dX11_complain_125 rfl rfl ?_
          obtain ⟨c11, h12, h⟩ := h
          obtain ⟨h13, h⟩ := h
          obtain ⟨h14, h⟩ := h
          refine y_iast hg h12 h13 h14 dX11_complain_126 ?_
          refine y_nmS (fun σ15 e16 => ?_)
          replace h := h σ15 e16
          have E17 : sK σ15 = sK σ := by rw [e16]; rfl
          refine y_aload_n hg 0 dX11_complain_127 rfl rfl ?_
          refine y_getR hg fl_X11_144 rfl rfl (kq E17 h9) dX11_complain_128 ?_
          refine y_aload_n hg 0 dX11_complain_131 rfl rfl ?_
          refine y_getI hg fl_X11_338 rfl rfl (kq E17 h9) dX11_complain_132 ?_
          refine y_iload_n hg 2 dX11_complain_135 rfl rfl ?_
          obtain ⟨c18, h19, h⟩ := h
          obtain ⟨h20, h⟩ := h
          obtain ⟨h21, h⟩ := h
          refine y_iast hg h19 h20 h21 dX11_complain_136 ?_
          refine y_nmS (fun σ22 e23 => ?_)
          replace h := h σ22 e23
          have E24 : sK σ22 = sK σ15 := by rw [e23]; rfl
          refine y_aload_n hg 0 dX11_complain_137 rfl rfl ?_
          refine y_getR hg fl_X11_147 rfl rfl (kq E24 (kq E17 h9)) dX11_complain_138 ?_
          refine y_aload_n hg 0 dX11_complain_141 rfl rfl ?_
          refine y_getI hg fl_X11_338 rfl rfl (kq E24 (kq E17 h9)) dX11_complain_142 ?_
          refine y_aload_n hg 0 dX11_complain_145 rfl rfl ?_
          refine y_getI hg fl_X11_212 rfl rfl (kq E24 (kq E17 h9)) dX11_complain_146 ?_
          obtain ⟨c25, h26, h⟩ := h
          obtain ⟨h27, h⟩ := h
          obtain ⟨h28, h⟩ := h
          refine y_iast hg h26 h27 h28 dX11_complain_149 ?_
          refine y_nmS (fun σ29 e30 => ?_)
          replace h := h σ29 e30
          have E31 : sK σ29 = sK σ22 := by rw [e30]; rfl
          refine y_aload_n hg 0 dX11_complain_150 rfl rfl ?_
          refine y_getR hg fl_X11_150 rfl rfl (kq E31 (kq E24 (kq E17 h9))) dX11_complain_151 ?_
          refine y_aload_n hg 0 dX11_complain_154 rfl rfl ?_
          refine y_getI hg fl_X11_338 rfl rfl (kq E31 (kq E24 (kq E17 h9))) dX11_complain_155 ?_
          refine y_aload_n hg 0 dX11_complain_158 rfl rfl ?_
          refine y_getI hg fl_X11_212 rfl rfl (kq E31 (kq E24 (kq E17 h9))) dX11_complain_159 ?_
          obtain ⟨c32, h33, h⟩ := h
          obtain ⟨h34, h⟩ := h
          obtain ⟨h35, h⟩ := h
          refine y_iast hg h33 h34 h35 dX11_complain_162 ?_
          refine y_nmS (fun σ36 e37 => ?_)
          replace h := h σ36 e37
          have E38 : sK σ36 = sK σ29 := by rw [e37]; rfl
          refine y_aload_n hg 0 dX11_complain_163 rfl rfl ?_
          refine y_getR hg fl_X11_153 rfl rfl (kq E38 (kq E31 (kq E24 (kq E17 h9)))) dX11_complain_164 ?_
          refine y_aload_n hg 0 dX11_complain_167 rfl rfl ?_
          refine y_getI hg fl_X11_338 rfl rfl (kq E38 (kq E31 (kq E24 (kq E17 h9)))) dX11_complain_168 ?_
          refine y_iconst (v := 1) hg dX11_complain_171 (by decide) ?_
          obtain ⟨c39, h40, h⟩ := h
          obtain ⟨h41, h⟩ := h
          obtain ⟨h42, h⟩ := h
          refine y_iast hg h40 h41 h42 dX11_complain_172 ?_
          refine y_nmS (fun σ43 e44 => ?_)
          replace h := h σ43 e44
          have E45 : sK σ43 = sK σ36 := by rw [e44]; rfl
          refine y_aload_n hg 0 dX11_complain_173 rfl rfl ?_
          refine y_getR hg fl_X11_156 rfl rfl (kq E45 (kq E38 (kq E31 (kq E24 (kq E17 h9))))) dX11_complain_174 ?_
          refine y_aload_n hg 0 dX11_complain_177 rfl rfl ?_
          refine y_getI hg fl_X11_338 rfl rfl (kq E45 (kq E38 (kq E31 (kq E24 (kq E17 h9))))) dX11_complain_178 ?_
          refine y_iconst (v := 1) hg dX11_complain_181 (by decide) ?_
          obtain ⟨c46, h47, h⟩ := h
          obtain ⟨h48, h⟩ := h
          obtain ⟨h49, h⟩ := h
          refine y_zast hg h47 h48 h49 (Or.inr rfl) dX11_complain_182 ?_
          refine y_nmS (fun σ50 e51 => ?_)
          replace h := h σ50 e51
          have E52 : sK σ50 = sK σ43 := by rw [e51]; rfl
          refine y_aload_n hg 0 dX11_complain_183 rfl rfl ?_
          refine y_dup hg dX11_complain_184 rfl ?_
          refine y_getI hg fl_X11_338 rfl rfl (kq E52 (kq E45 (kq E38 (kq E31 (kq E24 (kq E17 h9)))))) dX11_complain_185 ?_
          refine y_iconst (v := 1) hg dX11_complain_188 (by decide) ?_
          refine y_iadd hg dX11_complain_189 ?_
          refine y_putI hg fw_X11_338 (fun z => nomatch z) rfl (kq E52 (kq E45 (kq E38 (kq E31 (kq E24 (kq E17 h9)))))) dX11_complain_190 ?_
          refine y_nmS (fun σ53 e54 => ?_)
          replace h := h σ53 e54
          have E55 : sK σ53 = sK σ50 := by rw [e54]; rfl
          refine y_aload_n hg 0 dX11_complain_193 rfl rfl ?_
          refine y_getI hg fl_X11_338 rfl rfl (kq E55 (kq E52 (kq E45 (kq E38 (kq E31 (kq E24 (kq E17 h9))))))) dX11_complain_194 ?_
          refine y_iconst (v := 1) hg dX11_complain_197 (by decide) ?_
          refine y_isub hg dX11_complain_198 ?_
          exact yEndI hend rfl dX11_complain_199 h
        · replace h := h.1 q10
          refine y_iconst (v := (-1)) hg dX11_complain_115 (by decide) ?_
          exact yEndI hend rfl dX11_complain_116 h
      · replace h := h.2 q8
        refine y_aload_n hg 0 dX11_complain_30 rfl rfl ?_
        obtain ⟨h56, h⟩ := h
        refine y_getR hg fl_X11_156 rfl rfl h56 dX11_complain_31 ?_
        refine y_iload_n hg 3 dX11_complain_34 rfl rfl ?_
        obtain ⟨c57, h58, h⟩ := h
        obtain ⟨h59, h⟩ := h
        obtain ⟨h60, h⟩ := h
        refine y_zald hg h58 h59 h60 dX11_complain_35 ?_
        refine y_if_eq (tgt := 100) hg dX11_complain_36 (by decide) (fun q61 => ?_) (fun q61 => ?_)
        · replace h := h.1 q61
          refine y_sub [0, 1, 2, 3] rfl ?_
          exact J100 _ h
        · replace h := h.2 q61
          refine y_aload_n hg 0 dX11_complain_39 rfl rfl ?_
          refine y_getR hg fl_X11_141 rfl rfl h56 dX11_complain_40 ?_
          refine y_iload_n hg 3 dX11_complain_43 rfl rfl ?_
          obtain ⟨c62, h63, h⟩ := h
          obtain ⟨h64, h⟩ := h
          obtain ⟨h65, h⟩ := h
          refine y_iald hg h63 h64 h65 dX11_complain_44 ?_
          refine y_iload_n hg 1 dX11_complain_45 rfl rfl ?_
          refine y_icmp_ne (tgt := 100) hg dX11_complain_46 (by decide) (fun q66 => ?_) (fun q66 => ?_)
          · replace h := h.2 q66
            refine y_sub [0, 1, 2, 3] rfl ?_
            exact J100 _ h
          · replace h := h.1 q66
            refine y_aload_n hg 0 dX11_complain_49 rfl rfl ?_
            refine y_getR hg fl_X11_144 rfl rfl h56 dX11_complain_50 ?_
            refine y_iload_n hg 3 dX11_complain_53 rfl rfl ?_
            obtain ⟨c67, h68, h⟩ := h
            obtain ⟨h69, h⟩ := h
            obtain ⟨h70, h⟩ := h
            refine y_iald hg h68 h69 h70 dX11_complain_54 ?_
            refine y_iload_n hg 2 dX11_complain_55 rfl rfl ?_
            refine y_icmp_ne (tgt := 100) hg dX11_complain_56 (by decide) (fun q71 => ?_) (fun q71 => ?_)
            · replace h := h.2 q71
              refine y_sub [0, 1, 2, 3] rfl ?_
              exact J100 _ h
            · replace h := h.1 q71
              refine y_aload_n hg 0 dX11_complain_59 rfl rfl ?_
              refine y_getI hg fl_X11_212 rfl rfl h56 dX11_complain_60 ?_
              refine y_aload_n hg 0 dX11_complain_63 rfl rfl ?_
              refine y_getR hg fl_X11_150 rfl rfl h56 dX11_complain_64 ?_
              refine y_iload_n hg 3 dX11_complain_67 rfl rfl ?_
              obtain ⟨c72, h73, h⟩ := h
              obtain ⟨h74, h⟩ := h
              obtain ⟨h75, h⟩ := h
              refine y_iald hg h73 h74 h75 dX11_complain_68 ?_
              refine y_isub hg dX11_complain_69 ?_
              refine y_bipush (v := 7) hg dX11_complain_70 (by decide) ?_
              refine y_icmp_le (tgt := 78) hg dX11_complain_72 (by decide) (fun q76 => ?_) (fun q76 => ?_)
              · replace h := h.1 q76
                refine y_aload_n hg 0 dX11_complain_78 rfl rfl ?_
                refine y_getR hg fl_X11_150 rfl rfl h56 dX11_complain_79 ?_
                refine y_iload_n hg 3 dX11_complain_82 rfl rfl ?_
                refine y_aload_n hg 0 dX11_complain_83 rfl rfl ?_
                refine y_getI hg fl_X11_212 rfl rfl h56 dX11_complain_84 ?_
                obtain ⟨c77, h78, h⟩ := h
                obtain ⟨h79, h⟩ := h
                obtain ⟨h80, h⟩ := h
                refine y_iast hg h78 h79 h80 dX11_complain_87 ?_
                refine y_nmS (fun σ81 e82 => ?_)
                replace h := h σ81 e82
                have E83 : sK σ81 = sK σ := by rw [e82]; rfl
                refine y_aload_n hg 0 dX11_complain_88 rfl rfl ?_
                refine y_getR hg fl_X11_153 rfl rfl (kq E83 h56) dX11_complain_89 ?_
                refine y_iload_n hg 3 dX11_complain_92 rfl rfl ?_
                refine y_dup2 hg dX11_complain_93 rfl (rf_cat _) ?_
                obtain ⟨c84, h85, h⟩ := h
                obtain ⟨h86, h⟩ := h
                obtain ⟨h87, h⟩ := h
                refine y_iald hg h85 h86 h87 dX11_complain_94 ?_
                refine y_iconst (v := 1) hg dX11_complain_95 (by decide) ?_
                refine y_iadd hg dX11_complain_96 ?_
                obtain ⟨h88, h⟩ := h
                refine y_iast hg h85 h86 h88 dX11_complain_97 ?_
                refine y_nmS (fun σ89 e90 => ?_)
                replace h := h σ89 e90
                have E91 : sK σ89 = sK σ81 := by rw [e90]; rfl
                refine y_iload_n hg 3 dX11_complain_98 rfl rfl ?_
                exact yEndI hend rfl dX11_complain_99 h
              · replace h := h.2 q76
                refine y_goto (tgt := 100) hg dX11_complain_75 (by decide) ?_
                refine y_sub [0, 1, 2, 3] rfl ?_
                exact J100 _ h
    exact key26 n26 v3 hI26
  refine y_aload_n hg 0 dX11_complain_0 rfl rfl ?_
  refine y_iload_n hg 1 dX11_complain_1 rfl rfl ?_
  obtain ⟨h1, h⟩ := h
  refine yVIP (Qp := _) (rest := []) (As := [.int v1]) hg (k_X11_isCorner (gL g.1) (gD g.1) a0 v1 σ _ h) lv_X11_198 rfl h1 rfl rfl dX11_complain_2 (cat8 (Nat.le_of_ble_eq_true rfl)) hrm ⟨Nat.le_of_ble_eq_true rfl, Nat.le_of_ble_eq_true rfl⟩ (fun x2 h => ?_)
  refine y_if_eq (tgt := 17) hg dX11_complain_5 (by decide) (fun q3 => ?_) (fun q3 => ?_)
  · replace h := h.1 q3
    refine y_iconst (v := (-1)) hg dX11_complain_17 (by decide) ?_
    exact yEndI hend rfl dX11_complain_18 h
  · replace h := h.2 q3
    refine y_iload_n hg 2 dX11_complain_8 rfl rfl ?_
    refine y_iconst (v := 0) hg dX11_complain_9 (by decide) ?_
    refine y_iconst (v := 3) hg dX11_complain_10 (by decide) ?_
    refine ySIP (Qp := _) (rest := []) (As := [.int v2, .int 0, .int 3]) hg (k_X11_isIn (gL g.1) (gD g.1) v2 0 3 σ _ h) ls_X11_194 rfl rfl dX11_complain_11 (cat8 (Nat.le_of_ble_eq_true rfl)) hrm ⟨Nat.le_of_ble_eq_true rfl, Nat.le_of_ble_eq_true rfl⟩ (fun x4 h => ?_)
    refine y_if_ne (tgt := 19) hg dX11_complain_14 (by decide) (fun q5 => ?_) (fun q5 => ?_)
    · replace h := h.2 q5
      refine y_aload_n hg 0 dX11_complain_19 rfl rfl ?_
      refine y_getI hg fl_X11_338 rfl rfl h1 dX11_complain_20 ?_
      refine y_iconst (v := 1) hg dX11_complain_23 (by decide) ?_
      refine y_isub hg dX11_complain_24 ?_
      refine y_nmI (fun x6 e7 => ?_)
      replace h := h x6 e7
      refine y_istore_n (lv' := [(3, .int x6), (0, va_rf (some a0)), (1, .int v1), (2, .int v2)]) hg dX11_complain_25 rfl (by rw [hgN]; decide) rfl ?_
      refine y_sub [1, 2, 3, 0] rfl ?_
      exact J26 _ _ _ _ h
    · replace h := h.1 q5
      refine y_iconst (v := (-1)) hg dX11_complain_17 (by decide) ?_
      exact yEndI hend rfl dX11_complain_18 h
