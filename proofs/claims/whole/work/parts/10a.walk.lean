def P_sJ0_coder_7d493 (a0 : Nat) (σ : Sg) (Q : Int32 → Prop) : Prop :=
  ((1 : Int32) = 0 → Q 1) ∧ (¬ ((1 : Int32) = 0) → a0 < nJS ∧ Q 0)
set_option maxHeartbeats 4000000 in
set_option maxRecDepth 100000 in
theorem k_sJ0_coder_7d493 (l : Launch) (D : Dg) (a0 : Nat) (σ : Sg) (Q : Int32 → Prop) (h : P_sJ0_coder_7d493 a0 σ Q) : Ctr l D yJ0_coder_7d493 cJ0_coder_7d493 1 (some FieldType.byte) 0 0 mkI [.ref (adS D a0)] σ (0, 0) (fun r σ2 => Q r ∧ σ2 = σ) := by
  refine ctr_of (lv := [(0, .ref (adS D a0))]) (by decide) (by (exact Nat.le_of_ble_eq_true rfl)) (by (exact rfl)) (fun g hg hgL hgD hrm hgN hgI hend => ?_)
  subst hgD
  clear hgL
  unfold P_sJ0_coder_7d493 at h
  refine x_getsCS hg fs_J0_38 dJ0_coder_7d493_0 ?_
  refine x_if_eq (tgt := 13) hg dJ0_coder_7d493_3 (by decide) (fun q2 => ?_) (fun q2 => ?_)
  · replace h := h.1 q2
    refine x_iconst (v := 1) hg dJ0_coder_7d493_13 (by decide) ?_
    exact endI hend rfl dJ0_coder_7d493_14 ⟨h, rfl⟩
  · replace h := h.2 q2
    refine x_sload_n 0 hg dJ0_coder_7d493_6 rfl rfl ?_
    obtain ⟨h3, h⟩ := h
    refine x_sget_coder hg fs_J0_15 h3 dJ0_coder_7d493_7 ?_
    refine x_goto (tgt := 14) hg dJ0_coder_7d493_10 (by decide) ?_
    exact endI hend rfl dJ0_coder_7d493_14 ⟨h, rfl⟩
def P_sJ0_length_8abf5 (a0 : Nat) (σ : Sg) (Q : Int32 → Prop) : Prop :=
  a0 < nJS ∧ a0 < nJS ∧ a0 < nJS ∧ P_sJ0_coder_7d493 a0 σ (fun x4 => Q ((nI (strL.getD a0 0)) >>> (x4 &&& 31)))
set_option maxHeartbeats 4000000 in
set_option maxRecDepth 100000 in
theorem k_sJ0_length_8abf5 (l : Launch) (D : Dg) (a0 : Nat) (σ : Sg) (Q : Int32 → Prop) (h : P_sJ0_length_8abf5 a0 σ Q) : Ctr l D yJ0_length_8abf5 cJ0_length_8abf5 1 (some FieldType.int) 1 20 mkI [.ref (adS D a0)] σ (0, 0) (fun r σ2 => Q r ∧ σ2 = σ) := by
  refine ctr_of (lv := [(0, .ref (adS D a0))]) (by decide) (by (exact Nat.le_of_ble_eq_true rfl)) (by (exact rfl)) (fun g hg hgL hgD hrm hgN hgI hend => ?_)
  subst hgD
  clear hgL
  unfold P_sJ0_length_8abf5 at h
  refine x_sload_n 0 hg dJ0_length_8abf5_0 rfl rfl ?_
  obtain ⟨h1, h⟩ := h
  refine x_sget_value hg fs_J0_9 h1 dJ0_length_8abf5_1 ?_
  obtain ⟨h2, h⟩ := h
  refine x_salen hg h2 dJ0_length_8abf5_4 ?_
  refine x_sload_n 0 hg dJ0_length_8abf5_5 rfl rfl ?_
  obtain ⟨h3, h⟩ := h
  refine xTIP (Qp := _) (rest := [.int (nI (strL.getD a0 0))]) (As := []) hg (k_sJ0_coder_7d493 (gL g) (gD g) a0 σ _ h) lt_J0_335 h3 rfl rfl dJ0_length_8abf5_6 (cat8 (Nat.le_of_ble_eq_true rfl)) hrm ⟨Nat.le_of_ble_eq_true rfl, Nat.le_of_ble_eq_true rfl⟩ (fun x4 h => ?_)
  refine x_ishr hg dJ0_length_8abf5_9 ?_
  exact endI hend rfl dJ0_length_8abf5_10 ⟨h, rfl⟩
def P_sJ0_isLatin1_aae02_B17 (a0 : Nat) (σ : Sg) (Q : Int32 → Prop) : Prop :=
  Q 0
def P_sJ0_isLatin1_aae02 (a0 : Nat) (σ : Sg) (Q : Int32 → Prop) : Prop :=
  ((1 : Int32) = 0 → P_sJ0_isLatin1_aae02_B17 a0 σ Q) ∧ (¬ ((1 : Int32) = 0) → a0 < nJS ∧ ((0 : Int32) = 0 → Q 1) ∧ (¬ ((0 : Int32) = 0) → P_sJ0_isLatin1_aae02_B17 a0 σ Q))
set_option maxHeartbeats 4000000 in
set_option maxRecDepth 100000 in
theorem k_sJ0_isLatin1_aae02 (l : Launch) (D : Dg) (a0 : Nat) (σ : Sg) (Q : Int32 → Prop) (h : P_sJ0_isLatin1_aae02 a0 σ Q) : Ctr l D yJ0_isLatin1_aae02 cJ0_isLatin1_aae02 1 (some FieldType.boolean) 0 0 mkI [.ref (adS D a0)] σ (0, 0) (fun r σ2 => Q r ∧ σ2 = σ) := by
  refine ctr_of (lv := [(0, .ref (adS D a0))]) (by decide) (by (exact Nat.le_of_ble_eq_true rfl)) (by (exact rfl)) (fun g hg hgL hgD hrm hgN hgI hend => ?_)
  subst hgD
  clear hgL
  unfold P_sJ0_isLatin1_aae02 at h
  have J17 : P_sJ0_isLatin1_aae02_B17 a0 σ Q → XJ g 17 [(0, .ref (adS (gD g) a0))] [] σ (0, 0) := by
    intro  h
    unfold P_sJ0_isLatin1_aae02_B17 at h
    refine x_iconst (v := 0) hg dJ0_isLatin1_aae02_17 (by decide) ?_
    exact endI hend (bz_nar (Or.inl rfl)).1 dJ0_isLatin1_aae02_18 ⟨h, rfl⟩
  refine x_getsCS hg fs_J0_38 dJ0_isLatin1_aae02_0 ?_
  refine x_if_eq (tgt := 17) hg dJ0_isLatin1_aae02_3 (by decide) (fun q2 => ?_) (fun q2 => ?_)
  · replace h := h.1 q2
    refine x_sub [0] rfl ?_
    exact J17  h
  · replace h := h.2 q2
    refine x_sload_n 0 hg dJ0_isLatin1_aae02_6 rfl rfl ?_
    obtain ⟨h3, h⟩ := h
    refine x_sget_coder hg fs_J0_15 h3 dJ0_isLatin1_aae02_7 ?_
    refine x_if_ne (tgt := 17) hg dJ0_isLatin1_aae02_10 (by decide) (fun q4 => ?_) (fun q4 => ?_)
    · replace h := h.2 q4
      refine x_sub [0] rfl ?_
      exact J17  h
    · replace h := h.1 q4
      refine x_iconst (v := 1) hg dJ0_isLatin1_aae02_13 (by decide) ?_
      refine x_goto (tgt := 18) hg dJ0_isLatin1_aae02_14 (by decide) ?_
      exact endI hend (bz_nar (Or.inr rfl)).1 dJ0_isLatin1_aae02_18 ⟨h, rfl⟩
def P_sJ3_checkIndex_8e157_B9 (v0 : Int32) (v1 : Int32) (v2 : Option Nat) (σ : Sg) (Q : Int32 → Prop) : Prop :=
  False
def P_sJ3_checkIndex_8e157 (v0 : Int32) (v1 : Int32) (v2 : Option Nat) (σ : Sg) (Q : Int32 → Prop) : Prop :=
  (v0 < 0 → P_sJ3_checkIndex_8e157_B9 v0 v1 v2 σ Q) ∧ (¬ (v0 < 0) → (v0 < v1 → Q v0) ∧ (¬ (v0 < v1) → P_sJ3_checkIndex_8e157_B9 v0 v1 v2 σ Q))
set_option maxHeartbeats 4000000 in
set_option maxRecDepth 100000 in
theorem k_sJ3_checkIndex_8e157 (l : Launch) (D : Dg) (v0 : Int32) (v1 : Int32) (v2 : Option Nat) (σ : Sg) (Q : Int32 → Prop) (h : P_sJ3_checkIndex_8e157 v0 v1 v2 σ Q) : Ctr l D yJ3_checkIndex_8e157 cJ3_checkIndex_8e157 3 (some FieldType.int) 0 0 mkI [.int v0, .int v1, va_rf v2] σ (0, 0) (fun r σ2 => Q r ∧ σ2 = σ) := by
  refine ctr_of (lv := [(0, .int v0), (1, .int v1), (2, va_rf v2)]) (by decide) (by cases v2 <;> (exact Nat.le_of_ble_eq_true rfl)) (by cases v2 <;> (exact rfl)) (fun g hg hgL hgD hrm hgN hgI hend => ?_)
  subst hgD
  clear hgL
  unfold P_sJ3_checkIndex_8e157 at h
  have J9 : ∀ (v0 : Int32) (v1 : Int32) (v2 : Option Nat), P_sJ3_checkIndex_8e157_B9 v0 v1 v2 σ Q → XJ g 9 [(0, .int v0), (1, .int v1), (2, va_rf v2)] [] σ (0, 0) := by
    intro v0 v1 v2 h
    unfold P_sJ3_checkIndex_8e157_B9 at h
    refine x_aload_n hg 2 dJ3_checkIndex_8e157_9 rfl rfl ?_
    refine x_iload_n hg 0 dJ3_checkIndex_8e157_10 rfl rfl ?_
    refine x_iload_n hg 1 dJ3_checkIndex_8e157_11 rfl rfl ?_
    exact h.elim
  refine x_iload_n hg 0 dJ3_checkIndex_8e157_0 rfl rfl ?_
  refine x_if_lt (tgt := 9) hg dJ3_checkIndex_8e157_1 (by decide) (fun q1 => ?_) (fun q1 => ?_)
  · replace h := h.1 q1
    refine x_sub [0, 1, 2] rfl ?_
    exact J9 _ _ _ h
  · replace h := h.2 q1
    refine x_iload_n hg 0 dJ3_checkIndex_8e157_4 rfl rfl ?_
    refine x_iload_n hg 1 dJ3_checkIndex_8e157_5 rfl rfl ?_
    refine x_icmp_lt (tgt := 16) hg dJ3_checkIndex_8e157_6 (by decide) (fun q2 => ?_) (fun q2 => ?_)
    · replace h := h.1 q2
      refine x_iload_n hg 0 dJ3_checkIndex_8e157_16 rfl rfl ?_
      exact endI hend rfl dJ3_checkIndex_8e157_17 ⟨h, rfl⟩
    · replace h := h.2 q2
      refine x_sub [0, 1, 2] rfl ?_
      exact J9 _ _ _ h
def P_sJ0_checkIndex_df160 (v0 : Int32) (v1 : Int32) (σ : Sg) (Q : Unit → Prop) : Prop :=
  ∀ r2 : Option Nat, P_sJ3_checkIndex_8e157 v0 v1 r2 σ (fun x3 => Q ())
set_option maxHeartbeats 4000000 in
set_option maxRecDepth 100000 in
theorem k_sJ0_checkIndex_df160 (l : Launch) (D : Dg) (v0 : Int32) (v1 : Int32) (σ : Sg) (Q : Unit → Prop) (h : P_sJ0_checkIndex_df160 v0 v1 σ Q) : Ctr l D yJ0_checkIndex_df160 cJ0_checkIndex_df160 2 (none) 1 22 mkV [.int v0, .int v1] σ (0, 0) (fun r σ2 => Q r ∧ σ2 = σ) := by
  refine ctr_of (lv := [(0, .int v0), (1, .int v1)]) (by decide) (by (exact Nat.le_of_ble_eq_true rfl)) (by (exact rfl)) (fun g hg hgL hgD hrm hgN hgI hend => ?_)
  subst hgD
  clear hgL
  unfold P_sJ0_checkIndex_df160 at h
  refine x_iload_n hg 0 dJ0_checkIndex_df160_0 rfl rfl ?_
  refine x_iload_n hg 1 dJ0_checkIndex_df160_1 rfl rfl ?_
  refine x_getsQ hg fs_J0_1053 dJ0_checkIndex_df160_2 (fun r2 => ?_)
  replace h := h r2
  refine xSIP (Qp := _) (rest := []) (As := [.int v0, .int v1, va_rf r2]) hg (k_sJ3_checkIndex_8e157 (gL g) (gD g) v0 v1 r2 σ _ h) ls_J0_1059 rfl rfl dJ0_checkIndex_df160_5 (cat8 (Nat.le_of_ble_eq_true rfl)) hrm ⟨Nat.le_of_ble_eq_true rfl, Nat.le_of_ble_eq_true rfl⟩ (fun x3 h => ?_)
  refine x_pop hg dJ0_checkIndex_df160_8 rfl ?_
  exact endV hend dJ0_checkIndex_df160_9 ⟨h, rfl⟩
def P_sJ1_charAt_3b067 (v0 : Nat) (v1 : Int32) (σ : Sg) (Q : Int32 → Prop) : Prop :=
  v0 < nJS ∧ P_sJ0_checkIndex_df160 v1 (nI (strL.getD v0 0)) σ (fun u2 => v0 < nJS ∧ vp_in v1 (strL.getD v0 0) ∧ ∀ x5 : Int32, x5 = ((((strB.getD v0 []).getD v1.toNatClampNeg 0) &&& 255).toUInt32 % 65536).toInt32 → narrow .char (.int x5) = .int x5 ∧ Q x5)
set_option maxHeartbeats 4000000 in
set_option maxRecDepth 100000 in
theorem k_sJ1_charAt_3b067 (l : Launch) (D : Dg) (v0 : Nat) (v1 : Int32) (σ : Sg) (Q : Int32 → Prop) (h : P_sJ1_charAt_3b067 v0 v1 σ Q) : Ctr l D yJ1_charAt_3b067 cJ1_charAt_3b067 2 (some FieldType.char) 2 43 mkI [.ref (adV D v0), .int v1] σ (0, 0) (fun r σ2 => Q r ∧ σ2 = σ) := by
  refine ctr_of (lv := [(0, .ref (adV D v0)), (1, .int v1)]) (by decide) (by (exact Nat.le_of_ble_eq_true rfl)) (by (exact rfl)) (fun g hg hgL hgD hrm hgN hgI hend => ?_)
  subst hgD
  clear hgL
  unfold P_sJ1_charAt_3b067 at h
  refine x_iload_n hg 1 dJ1_charAt_3b067_0 rfl rfl ?_
  refine x_sload_n 0 hg dJ1_charAt_3b067_1 rfl rfl ?_
  obtain ⟨h1, h⟩ := h
  refine x_salen hg h1 dJ1_charAt_3b067_2 ?_
  refine xSVP (Qp := _) (rest := []) (As := [.int v1, .int (nI (strL.getD v0 0))]) hg (k_sJ0_checkIndex_df160 (gL g) (gD g) v1 (nI (strL.getD v0 0)) σ _ h) ls_J1_9 rfl rfl dJ1_charAt_3b067_3 (cat8 (Nat.le_of_ble_eq_true rfl)) hrm ⟨Nat.le_of_ble_eq_true rfl, Nat.le_of_ble_eq_true rfl⟩ (fun u2 h => ?_)
  refine x_sload_n 0 hg dJ1_charAt_3b067_6 rfl rfl ?_
  refine x_iload_n hg 1 dJ1_charAt_3b067_7 rfl rfl ?_
  obtain ⟨h3, h4, h⟩ := h
  refine x_sbald hg h3 h4 dJ1_charAt_3b067_8 ?_
  refine x_sipush (v := 255) hg dJ1_charAt_3b067_9 (by decide) ?_
  refine x_iand hg dJ1_charAt_3b067_12 ?_
  obtain ⟨x5, e6⟩ : ∃ y : Int32, y = ((((strB.getD v0 []).getD v1.toNatClampNeg 0) &&& 255).toUInt32 % 65536).toInt32 := ⟨_, rfl⟩
  replace h := h x5 e6
  refine x_i2c hg dJ1_charAt_3b067_13 e6.symm ?_
  obtain ⟨h7, h⟩ := h
  exact endI hend h7 dJ1_charAt_3b067_14 ⟨h, rfl⟩
def P_sJ0_charAt_5068e (a0 : Nat) (v1 : Int32) (σ : Sg) (Q : Int32 → Prop) : Prop :=
  a0 < nJS ∧ P_sJ0_isLatin1_aae02 a0 σ (fun x2 => (x2 = 0 → a0 < nJS ∧ False) ∧ (¬ (x2 = 0) → a0 < nJS ∧ P_sJ1_charAt_3b067 a0 v1 σ (fun x6 => narrow .char (.int x6) = .int x6 ∧ Q x6)))
set_option maxHeartbeats 4000000 in
set_option maxRecDepth 100000 in
theorem k_sJ0_charAt_5068e (l : Launch) (D : Dg) (a0 : Nat) (v1 : Int32) (σ : Sg) (Q : Int32 → Prop) (h : P_sJ0_charAt_5068e a0 v1 σ Q) : Ctr l D yJ0_charAt_5068e cJ0_charAt_5068e 2 (some FieldType.char) 3 64 mkI [.ref (adS D a0), .int v1] σ (0, 0) (fun r σ2 => Q r ∧ σ2 = σ) := by
  refine ctr_of (lv := [(0, .ref (adS D a0)), (1, .int v1)]) (by decide) (by (exact Nat.le_of_ble_eq_true rfl)) (by (exact rfl)) (fun g hg hgL hgD hrm hgN hgI hend => ?_)
  subst hgD
  clear hgL
  unfold P_sJ0_charAt_5068e at h
  refine x_sload_n 0 hg dJ0_charAt_5068e_0 rfl rfl ?_
  obtain ⟨h1, h⟩ := h
  refine xTIP (Qp := _) (rest := []) (As := []) hg (k_sJ0_isLatin1_aae02 (gL g) (gD g) a0 σ _ h) lt_J0_492 h1 rfl rfl dJ0_charAt_5068e_1 (cat8 (Nat.le_of_ble_eq_true rfl)) hrm ⟨Nat.le_of_ble_eq_true rfl, Nat.le_of_ble_eq_true rfl⟩ (fun x2 h => ?_)
  refine x_if_eq (tgt := 16) hg dJ0_charAt_5068e_4 (by decide) (fun q3 => ?_) (fun q3 => ?_)
  · replace h := h.1 q3
    refine x_sload_n 0 hg dJ0_charAt_5068e_16 rfl rfl ?_
    obtain ⟨h4, h⟩ := h
    refine x_sget_value hg fs_J0_9 h4 dJ0_charAt_5068e_17 ?_
    refine x_iload_n hg 1 dJ0_charAt_5068e_20 rfl rfl ?_
    exact h.elim
  · replace h := h.2 q3
    refine x_sload_n 0 hg dJ0_charAt_5068e_7 rfl rfl ?_
    obtain ⟨h5, h⟩ := h
    refine x_sget_value hg fs_J0_9 h5 dJ0_charAt_5068e_8 ?_
    refine x_iload_n hg 1 dJ0_charAt_5068e_11 rfl rfl ?_
    refine xSIP (Qp := _) (rest := []) (As := [.ref (adV (gD g) a0), .int v1]) hg (k_sJ1_charAt_3b067 (gL g) (gD g) a0 v1 σ _ h) ls_J0_495 rfl rfl dJ0_charAt_5068e_12 (cat8 (Nat.le_of_ble_eq_true rfl)) hrm ⟨Nat.le_of_ble_eq_true rfl, Nat.le_of_ble_eq_true rfl⟩ (fun x6 h => ?_)
    obtain ⟨h7, h⟩ := h
    exact endI hend h7 dJ0_charAt_5068e_15 ⟨h, rfl⟩
def P_Jxa1e45_init_da8c8 (a0 : Nat) (σ : Sg) (Q : Unit → Prop) : Prop :=
  Q ()
set_option maxHeartbeats 4000000 in
set_option maxRecDepth 100000 in
theorem k_Jxa1e45_init_da8c8 (l : Launch) (D : Dg) (a0 : Nat) (σ : Sg) (Q : Unit → Prop) (h : P_Jxa1e45_init_da8c8 a0 σ Q) : CtrY RN l D yJxa1e45_init_da8c8 cJxa1e45_init_da8c8 1 (none) 1 20 mkV [.ref a0] σ (0, 0) (fun r σ2 => Q r ∧ σ2 = σ) := by
  refine y_ctrN (lv := [(0, va_rf (some a0))]) (by decide) (by (exact Nat.le_of_ble_eq_true rfl)) (by (exact rfl)) (fun g hg hgL hgD hrm hgN hgI hend => ?_)
  subst hgD
  clear hgL
  unfold P_Jxa1e45_init_da8c8 at h
  refine y_aload_n hg 0 dJxa1e45_init_da8c8_0 rfl rfl ?_
  refine y_objInit hg oi_Jxa1e45_1 aw_oi1 aw_oi2 rfl dJxa1e45_init_da8c8_1 (cat8 (Nat.le_of_ble_eq_true rfl)) hrm ⟨Nat.le_of_ble_eq_true rfl, Nat.le_of_ble_eq_true rfl⟩ ?_
  exact yEndV hend dJxa1e45_init_da8c8_4 ⟨h, rfl⟩
def P_Jxc12de_init_da8c8 (a0 : Nat) (σ : Sg) (Q : Unit → Sg → Prop) : Prop :=
  P_Jxa1e45_init_da8c8 a0 σ (fun u1 => sK σ a0 % 32 = 1 ∧ ∀ σ3 : Sg, σ3 = pI σ a0 0 0 → Q () σ3)
set_option maxHeartbeats 4000000 in
set_option maxRecDepth 100000 in
theorem k_Jxc12de_init_da8c8 (l : Launch) (D : Dg) (a0 : Nat) (σ : Sg) (Q : Unit → Sg → Prop) (h : P_Jxc12de_init_da8c8 a0 σ Q) : CtrY RN l D yJxc12de_init_da8c8 cJxc12de_init_da8c8 1 (none) 2 40 mkV [.ref a0] σ (0, 0) Q := by
  refine y_ctrN (lv := [(0, va_rf (some a0))]) (by decide) (by (exact Nat.le_of_ble_eq_true rfl)) (by (exact rfl)) (fun g hg hgL hgD hrm hgN hgI hend => ?_)
  subst hgD
  clear hgL
  unfold P_Jxc12de_init_da8c8 at h
  refine y_aload_n hg 0 dJxc12de_init_da8c8_0 rfl rfl ?_
  refine yIVP (Qp := _) (rest := []) (As := []) hg (k_Jxa1e45_init_da8c8 (gL g.1) (gD g.1) a0 σ _ h) li_Jxc12de_1 rfl rfl rfl dJxc12de_init_da8c8_1 (cat8 (Nat.le_of_ble_eq_true rfl)) hrm ⟨Nat.le_of_ble_eq_true rfl, Nat.le_of_ble_eq_true rfl⟩ (fun u1 h => ?_)
  refine y_aload_n hg 0 dJxc12de_init_da8c8_4 rfl rfl ?_
  refine y_iconst (v := 0) hg dJxc12de_init_da8c8_5 (by decide) ?_
  obtain ⟨h2, h⟩ := h
  refine y_putI hg fw_Jxc12de_7 (fun z => nomatch z) rfl h2 dJxc12de_init_da8c8_6 ?_
  refine y_nmS (fun σ3 e4 => ?_)
  replace h := h σ3 e4
  have E5 : sK σ3 = sK σ := by rw [e4]; rfl
  exact yEndV hend dJxc12de_init_da8c8_9 h
def P_Jx4a65c_init_da8c8 (a0 : Nat) (σ : Sg) (Q : Unit → Sg → Prop) : Prop :=
  P_Jxc12de_init_da8c8 a0 σ (fun _ σ2 => sK σ2 a0 % 32 = 1 ∧ ∀ σ6 : Sg, σ6 = pR σ2 a0 1 (some 2) → Q () σ6)
set_option maxHeartbeats 4000000 in
set_option maxRecDepth 100000 in
theorem k_Jx4a65c_init_da8c8 (l : Launch) (D : Dg) (a0 : Nat) (σ : Sg) (Q : Unit → Sg → Prop) (h : P_Jx4a65c_init_da8c8 a0 σ Q) : CtrY RN l D yJx4a65c_init_da8c8 cJx4a65c_init_da8c8 1 (none) 3 60 mkV [.ref a0] σ (0, 0) Q := by
  refine y_ctrN (lv := [(0, va_rf (some a0))]) (by decide) (by (exact Nat.le_of_ble_eq_true rfl)) (by (exact rfl)) (fun g hg hgL hgD hrm hgN hgI hend => ?_)
  subst hgD
  clear hgL
  unfold P_Jx4a65c_init_da8c8 at h
  refine y_aload_n hg 0 dJx4a65c_init_da8c8_0 rfl rfl ?_
  refine yIVW (Qm := _) (rest := []) (As := []) hg (k_Jxc12de_init_da8c8 (gL g.1) (gD g.1) a0 σ _ h) li_Jx4a65c_1 rfl rfl rfl dJx4a65c_init_da8c8_1 (cat8 (Nat.le_of_ble_eq_true rfl)) hrm ⟨Nat.le_of_ble_eq_true rfl, Nat.le_of_ble_eq_true rfl⟩ (fun u1 σ2 h h3 => ?_)
  refine y_aload_n hg 0 dJx4a65c_init_da8c8_4 rfl rfl ?_
  refine y_getsE hg dJx4a65c_init_da8c8_5 ?_
  obtain ⟨h5, h⟩ := h
  refine y_putR hg fw_Jx4a65c_9 rfl (fun z => nomatch z) rfl h5 (lv_s (by decide)) dJx4a65c_init_da8c8_8 ?_
  refine y_nmS (fun σ6 e7 => ?_)
  replace h := h σ6 e7
  have E8 : sK σ6 = sK σ2 := by rw [e7]; rfl
  exact yEndV hend dJx4a65c_init_da8c8_11 h
def P_J8_newLength_cabcc_B21 (v0 : Int32) (v1 : Int32) (σ : Sg) (Q : Int32 → Prop) : Prop :=
  False
def P_J8_newLength_cabcc (v0 : Int32) (v1 : Int32) (v2 : Int32) (σ : Sg) (Q : Int32 → Prop) : Prop :=
  ∀ x1 : Int32, x1 = (if v1 < v2 then v2 else v1) → ∀ x3 : Int32, x3 = v0 + x1 → (x3 ≤ 0 → P_J8_newLength_cabcc_B21 v0 v1 σ Q) ∧ (¬ (x3 ≤ 0) → (2147483639 < x3 → P_J8_newLength_cabcc_B21 v0 v1 σ Q) ∧ (¬ (2147483639 < x3) → Q x3))
set_option maxHeartbeats 4000000 in
set_option maxRecDepth 100000 in
theorem k_J8_newLength_cabcc (l : Launch) (D : Dg) (v0 : Int32) (v1 : Int32) (v2 : Int32) (σ : Sg) (Q : Int32 → Prop) (h : P_J8_newLength_cabcc v0 v1 v2 σ Q) : CtrY RN l D yJ8_newLength_cabcc cJ8_newLength_cabcc 4 (some FieldType.int) 1 30 mkI [.int v0, .int v1, .int v2] σ (0, 0) (fun r σ2 => Q r ∧ σ2 = σ) := by
  refine y_ctrN (lv := [(0, .int v0), (1, .int v1), (2, .int v2)]) (by decide) (by (exact Nat.le_of_ble_eq_true rfl)) (by (exact rfl)) (fun g hg hgL hgD hrm hgN hgI hend => ?_)
  subst hgD
  clear hgL
  unfold P_J8_newLength_cabcc at h
  have J21 : ∀ (v0 : Int32) (v1 : Int32), P_J8_newLength_cabcc_B21 v0 v1 σ Q → XA g 21 [(0, .int v0), (1, .int v1)] [] σ (0, 0) := by
    intro v0 v1 h
    unfold P_J8_newLength_cabcc_B21 at h
    refine y_iload_n hg 0 dJ8_newLength_cabcc_21 rfl rfl ?_
    refine y_iload_n hg 1 dJ8_newLength_cabcc_22 rfl rfl ?_
    exact h.elim
  refine y_iload_n hg 0 dJ8_newLength_cabcc_0 rfl rfl ?_
  refine y_iload_n hg 1 dJ8_newLength_cabcc_1 rfl rfl ?_
  refine y_iload_n hg 2 dJ8_newLength_cabcc_2 rfl rfl ?_
  refine y_mmax hg mm_J8_194 (cat8 (Nat.le_of_ble_eq_true rfl)) hrm ⟨Nat.le_of_ble_eq_true rfl, Nat.le_of_ble_eq_true rfl⟩ dJ8_newLength_cabcc_3 ?_
  refine y_nmI (fun x1 e2 => ?_)
  replace h := h x1 e2
  refine y_iadd hg dJ8_newLength_cabcc_6 ?_
  refine y_nmI (fun x3 e4 => ?_)
  replace h := h x3 e4
  refine y_istore_n (lv' := [(3, .int x3), (0, .int v0), (1, .int v1), (2, .int v2)]) hg dJ8_newLength_cabcc_7 rfl (by rw [hgN]; decide) rfl ?_
  refine y_iconst (v := 0) hg dJ8_newLength_cabcc_8 (by decide) ?_
  refine y_iload_n hg 0 dJ8_newLength_cabcc_9 rfl rfl ?_
  refine y_icmp_ge (tgt := 21) hg dJ8_newLength_cabcc_10 (by decide) (fun q5 => ?_) (fun q5 => ?_)
  · replace h := h.1 q5
    refine y_sub [1, 2] rfl ?_
    exact J21 _ _ h
  · replace h := h.2 q5
    refine y_iload_n hg 0 dJ8_newLength_cabcc_13 rfl rfl ?_
    refine y_ldc hg cw_J8_200 dJ8_newLength_cabcc_14 ?_
    refine y_icmp_gt (tgt := 21) hg dJ8_newLength_cabcc_16 (by decide) (fun q6 => ?_) (fun q6 => ?_)
    · replace h := h.1 q6
      refine y_sub [1, 2] rfl ?_
      exact J21 _ _ h
    · replace h := h.2 q6
      refine y_iload_n hg 0 dJ8_newLength_cabcc_19 rfl rfl ?_
      exact yEndI hend rfl dJ8_newLength_cabcc_20 ⟨h, rfl⟩
def P_J7_copyOf_6403c_B24 (v0 : Option Nat) (v1 : Int32) (w0 : Option Nat) (σ : Sg) (b : Nat × Nat) (Q : Option Nat → Sg → Prop) : Prop :=
  ∃ c15 : Nat, v0 = some c15 ∧ ∃ z17 : Int32, ((sK σ c15 % 32 = 20 ∧ z17 = nI (sN σ c15)) ∨ (sK σ c15 % 32 = 25 ∧ z17 = 0)) ∧ ∀ x19 : Int32, x19 = (if v1 < z17 then v1 else z17) → sK σ c15 % 32 = 20 ∧ ∃ c22 : Nat, w0 = some c22 ∧ sK σ c22 % 32 = 20 ∧ ¬ x19 < 0 ∧ x19.toNatClampNeg ≤ sN σ c15 ∧ x19.toNatClampNeg ≤ sN σ c22 ∧ (∀ i, i < x19.toNatClampNeg → ∀ y, sR σ c15 i = some y → 1 ≤ sK σ y % 32 ∧ sK σ y % 32 ≤ 13) ∧ ∀ σ29 : Sg, σ29 = cpR σ c15 c22 x19.toNatClampNeg → Q w0 σ29
def P_J7_copyOf_6403c (v0 : Option Nat) (v1 : Int32) (σ : Sg) (b : Nat × Nat) (Q : Option Nat → Sg → Prop) : Prop :=
  ∃ κ2 q8 : Nat, κ2 % 32 = 20 ∧ ¬ v1 < 0 ∧ v1.toNatClampNeg ≤ 65536 ∧ 1 ≤ b.1 ∧ v1.toNatClampNeg ≤ b.2 ∧ sK σ q8 = 0 ∧ 1000 ≤ q8 ∧ (∀ z, v0 = some z → ¬ sK σ z = 0) ∧ ∀ σ12 : Sg, σ12 = nw σ q8 κ2 v1.toNatClampNeg → P_J7_copyOf_6403c_B24 v0 v1 (some q8) σ12 (b.1 - 1, b.2 - v1.toNatClampNeg) Q
set_option maxHeartbeats 4000000 in
set_option maxRecDepth 100000 in
theorem k_J7_copyOf_6403c (l : Launch) (D : Dg) (v0 : Option Nat) (v1 : Int32) (σ : Sg) (b : Nat × Nat) (Q : Option Nat → Sg → Prop) (h : P_J7_copyOf_6403c v0 v1 σ b Q) : CtrY RA l D yJ7_copyOf_6403c cJ7_copyOf_6403c 4 (some (FieldType.array (FieldType.object "java/lang/Object"))) 1 40 mkR [va_rf v0, .int v1, va_rf (some 3)] σ b Q := by
  refine y_ctrA (lv := [(0, va_rf v0), (1, .int v1), (2, va_rf (some 3))]) (by decide) (by cases v0 <;> (exact Nat.le_of_ble_eq_true rfl)) (by cases v0 <;> (exact rfl)) (fun g hg hgL hgD hrm hgN hgI hend hal => ?_)
  subst hgD
  clear hgL
  unfold P_J7_copyOf_6403c at h
  have J24 : ∀ (v0 : Option Nat) (v1 : Int32) (w0 : Option Nat) (σ : Sg) (b : Nat × Nat), P_J7_copyOf_6403c_B24 v0 v1 w0 σ b Q → XA g 24 [(0, va_rf v0), (1, .int v1)] [va_rf w0] σ b := by
    intro v0 v1 w0 σ b h
    unfold P_J7_copyOf_6403c_B24 at h
    refine y_astore_n (lv' := [(3, va_rf w0), (0, va_rf v0), (1, .int v1)]) hg dJ7_copyOf_6403c_24 rfl (by rw [hgN]; decide) rfl ?_
    refine y_aload_n hg 1 dJ7_copyOf_6403c_25 rfl rfl ?_
    refine y_iconst (v := 0) hg dJ7_copyOf_6403c_26 (by decide) ?_
    refine y_aload_n hg 0 dJ7_copyOf_6403c_27 rfl rfl ?_
    refine y_iconst (v := 0) hg dJ7_copyOf_6403c_28 (by decide) ?_
    refine y_aload_n hg 1 dJ7_copyOf_6403c_29 rfl rfl ?_
    obtain ⟨c15, h16, h⟩ := h
    obtain ⟨z17, h18, h⟩ := h
    refine y_alenO hg h16 h18 dJ7_copyOf_6403c_30 ?_
    refine y_iload_n hg 2 dJ7_copyOf_6403c_31 rfl rfl ?_
    refine y_mmin hg mm_J7_304 (cat8 (Nat.le_of_ble_eq_true rfl)) hrm ⟨Nat.le_of_ble_eq_true rfl, Nat.le_of_ble_eq_true rfl⟩ dJ7_copyOf_6403c_32 ?_
    refine y_nmI (fun x19 e20 => ?_)
    replace h := h x19 e20
    obtain ⟨h21, h⟩ := h
    obtain ⟨c22, h23, h⟩ := h
    obtain ⟨h24, h⟩ := h
    subst h16
    subst h23
    obtain ⟨h25, h26, h27, h28, h⟩ := h
    refine y_copyq hg (aw_of (List.mem_of_getElem? (i := 306) (by decide +kernel)) (by decide +kernel)) (aw_of (List.mem_of_getElem? (i := 308) (by decide +kernel)) (by decide +kernel)) (aw_of (List.mem_of_getElem? (i := 307) (by decide +kernel)) (by decide +kernel)) (aw_of (List.mem_of_getElem? (i := 81) (by decide +kernel)) (by decide +kernel)) h21 h24 h25 h26 h27 h28 (cat8 (Nat.le_of_ble_eq_true rfl)) hrm ⟨Nat.le_of_ble_eq_true rfl, Nat.le_of_ble_eq_true rfl⟩ dJ7_copyOf_6403c_35 ?_
    refine y_nmS (fun σ29 e30 => ?_)
    replace h := h σ29 e30
    have E31 : sK σ29 = sK σ := by rw [e30]; rfl
    refine y_aload_n hg 0 dJ7_copyOf_6403c_38 rfl rfl ?_
    exact yEndR hend rfl dJ7_copyOf_6403c_39 h
  refine y_aload_n hg 2 dJ7_copyOf_6403c_0 rfl rfl ?_
  refine y_ldcM hg cm_J7_110 dJ7_copyOf_6403c_1 ?_
  refine y_acmpM (tgt := 13) hg dJ7_copyOf_6403c_3 (by decide) ?_
  refine y_iload_n hg 1 dJ7_copyOf_6403c_6 rfl rfl ?_
  obtain ⟨κ2, q8, h3, h4, h5, h6, h7, h9, h10, h⟩ := h
  refine y_sub [0, 1] rfl ?_
  obtain ⟨h11, h⟩ := h
  refine y_newq hg hal cq_J7_2 h3 h4 h5 h6 h7 h9 h10 (rll_c (lk_r h11) (rll_c (lk_i _) rll_nil)) rl_nil dJ7_copyOf_6403c_7 ?_
  refine y_nmS (fun σ12 e13 => ?_)
  replace h := h σ12 e13
  refine y_goto (tgt := 24) hg dJ7_copyOf_6403c_10 (by decide) ?_
  refine y_sub [0, 1] rfl ?_
  exact J24 _ _ _ _ _ h
def P_J7_copyOf_1904c (v0 : Option Nat) (v1 : Int32) (σ : Sg) (b : Nat × Nat) (Q : Option Nat → Sg → Prop) : Prop :=
  ∃ c1 : Nat, v0 = some c1 ∧ sK σ c1 % 32 = 20 ∧ ∃ bc6 : Nat × Nat, bc6.1 ≤ b.1 ∧ bc6.2 ≤ b.2 ∧ P_J7_copyOf_6403c v0 v1 σ bc6 (fun r4 σ5 => Q r4 σ5)
set_option maxHeartbeats 4000000 in
set_option maxRecDepth 100000 in
theorem k_J7_copyOf_1904c (l : Launch) (D : Dg) (v0 : Option Nat) (v1 : Int32) (σ : Sg) (b : Nat × Nat) (Q : Option Nat → Sg → Prop) (h : P_J7_copyOf_1904c v0 v1 σ b Q) : CtrY RA l D yJ7_copyOf_1904c cJ7_copyOf_1904c 2 (some (FieldType.array (FieldType.object "java/lang/Object"))) 2 63 mkR [va_rf v0, .int v1] σ b Q := by
  refine y_ctrA (lv := [(0, va_rf v0), (1, .int v1)]) (by decide) (by cases v0 <;> (exact Nat.le_of_ble_eq_true rfl)) (by cases v0 <;> (exact rfl)) (fun g hg hgL hgD hrm hgN hgI hend hal => ?_)
  subst hgD
  clear hgL
  unfold P_J7_copyOf_1904c at h
  refine y_aload_n hg 0 dJ7_copyOf_1904c_0 rfl rfl ?_
  refine y_iload_n hg 1 dJ7_copyOf_1904c_1 rfl rfl ?_
  refine y_aload_n hg 0 dJ7_copyOf_1904c_2 rfl rfl ?_
  obtain ⟨c1, h2, h⟩ := h
  obtain ⟨h3, h⟩ := h
  refine y_getC hg (aw_of (List.mem_of_getElem? (i := 280) (by decide +kernel)) (by decide +kernel)) (aw_of (List.mem_of_getElem? (i := 1750) (by decide +kernel)) (by decide +kernel)) (aw_of (List.mem_of_getElem? (i := 281) (by decide +kernel)) (by decide +kernel)) (aw_of (List.mem_of_getElem? (i := 296) (by decide +kernel)) (by decide +kernel)) h2 h3 (cat8 (Nat.le_of_ble_eq_true rfl)) hrm ⟨Nat.le_of_ble_eq_true rfl, Nat.le_of_ble_eq_true rfl⟩ dJ7_copyOf_1904c_3 ?_
  obtain ⟨bc6, h7, h8, h⟩ := h
  refine y_sub [] rfl ?_
  refine ySRA (Qm := _) (rest := []) (As := [va_rf v0, .int v1, va_rf (some 3)]) hg hal (k_J7_copyOf_6403c (gL g.1) (gD g.1) v0 v1 σ bc6 _ h) ls_J7_300 rfl rfl dJ7_copyOf_1904c_6 (cat8 (Nat.le_of_ble_eq_true rfl)) hrm ⟨Nat.le_of_ble_eq_true rfl, Nat.le_of_ble_eq_true rfl⟩ h7 h8 rll_nil rl_nil (fun r4 σ5 h h9 => ?_)
  exact yEndR hend rfl dJ7_copyOf_1904c_9 h
def P_Jx4a65c_grow_92f84_B20 (a0 : Nat) (v1 : Int32) (v2 : Int32) (σ : Sg) (b : Nat × Nat) (Q : Option Nat → Sg → Prop) : Prop :=
  P_J8_newLength_cabcc v2 (v1 - v2) (v2 >>> (1 &&& 31)) σ (fun x29 => sK σ a0 % 32 = 1 ∧ ∃ bc33 : Nat × Nat, bc33.1 ≤ b.1 ∧ bc33.2 ≤ b.2 ∧ P_J7_copyOf_1904c (sR σ a0 1) x29 σ bc33 (fun r31 σ32 => (∀ z, r31 = some z → ¬ sK σ32 z = 0) ∧ ∀ σ39 : Sg, σ39 = pR σ32 a0 1 r31 → Q r31 σ39))
def P_Jx4a65c_grow_92f84 (a0 : Nat) (v1 : Int32) (σ : Sg) (b : Nat × Nat) (Q : Option Nat → Sg → Prop) : Prop :=
  sK σ a0 % 32 = 1 ∧ ∃ c2 : Nat, sR σ a0 1 = some c2 ∧ ∃ z4 : Int32, ((sK σ c2 % 32 = 20 ∧ z4 = nI (sN σ c2)) ∨ (sK σ c2 % 32 = 25 ∧ z4 = 0)) ∧ (0 < z4 → P_Jx4a65c_grow_92f84_B20 a0 v1 z4 σ (b.1, b.2) Q) ∧ (¬ (0 < z4) → ∃ c9 : Nat, sR σ a0 1 = some c9 ∧ ¬ sK σ c9 = 0 ∧ (c9 = 2 → ∀ x12 : Int32, x12 = (if (10 : Int32) < v1 then v1 else (10 : Int32)) → ∃ κ14 q20 : Nat, κ14 % 32 = 20 ∧ ¬ x12 < 0 ∧ x12.toNatClampNeg ≤ 65536 ∧ 1 ≤ b.1 ∧ x12.toNatClampNeg ≤ b.2 ∧ sK σ q20 = 0 ∧ 1000 ≤ q20 ∧ ∀ σ23 : Sg, σ23 = nw σ q20 κ14 x12.toNatClampNeg → ∀ σ26 : Sg, σ26 = pR σ23 a0 1 (some q20) → Q (some q20) σ26) ∧ (¬ (c9 = 2) → P_Jx4a65c_grow_92f84_B20 a0 v1 z4 σ (b.1, b.2) Q))
set_option maxHeartbeats 4000000 in
set_option maxRecDepth 100000 in
theorem k_Jx4a65c_grow_92f84 (l : Launch) (D : Dg) (a0 : Nat) (v1 : Int32) (σ : Sg) (b : Nat × Nat) (Q : Option Nat → Sg → Prop) (h : P_Jx4a65c_grow_92f84 a0 v1 σ b Q) : CtrY RA l D yJx4a65c_grow_92f84 cJx4a65c_grow_92f84 4 (some (FieldType.array (FieldType.object "java/lang/Object"))) 3 84 mkR [.ref a0, .int v1] σ b Q := by
  refine y_ctrA (lv := [(0, va_rf (some a0)), (1, .int v1)]) (by decide) (by (exact Nat.le_of_ble_eq_true rfl)) (by (exact rfl)) (fun g hg hgL hgD hrm hgN hgI hend hal => ?_)
  subst hgD
  clear hgL
  unfold P_Jx4a65c_grow_92f84 at h
  have J20 : ∀ (v1 : Int32) (v2 : Int32) (σ : Sg) (b : Nat × Nat), P_Jx4a65c_grow_92f84_B20 a0 v1 v2 σ b Q → XA g 20 [(0, va_rf (some a0)), (1, .int v1), (2, .int v2)] [] σ b := by
    intro v1 v2 σ b h
    unfold P_Jx4a65c_grow_92f84_B20 at h
    refine y_iload_n hg 2 dJx4a65c_grow_92f84_20 rfl rfl ?_
    refine y_iload_n hg 1 dJx4a65c_grow_92f84_21 rfl rfl ?_
    refine y_iload_n hg 2 dJx4a65c_grow_92f84_22 rfl rfl ?_
    refine y_isub hg dJx4a65c_grow_92f84_23 ?_
    refine y_iload_n hg 2 dJx4a65c_grow_92f84_24 rfl rfl ?_
    refine y_iconst (v := 1) hg dJx4a65c_grow_92f84_25 (by decide) ?_
    refine y_ishr hg dJx4a65c_grow_92f84_26 ?_
    refine ySIP (Qp := _) (rest := []) (As := [.int v2, .int (v1 - v2), .int (v2 >>> (1 &&& 31))]) hg (k_J8_newLength_cabcc (gL g.1) (gD g.1) v2 (v1 - v2) (v2 >>> (1 &&& 31)) σ _ h) ls_Jx4a65c_73 rfl rfl dJx4a65c_grow_92f84_27 (cat8 (Nat.le_of_ble_eq_true rfl)) hrm ⟨Nat.le_of_ble_eq_true rfl, Nat.le_of_ble_eq_true rfl⟩ (fun x29 h => ?_)
    refine y_istore_n (lv' := [(3, .int x29), (0, va_rf (some a0)), (1, .int v1), (2, .int v2)]) hg dJx4a65c_grow_92f84_30 rfl (by rw [hgN]; decide) rfl ?_
    refine y_aload_n hg 1 dJx4a65c_grow_92f84_31 rfl rfl ?_
    refine y_aload_n hg 1 dJx4a65c_grow_92f84_32 rfl rfl ?_
    obtain ⟨h30, h⟩ := h
    refine y_getR hg fl_Jx4a65c_9 rfl rfl h30 dJx4a65c_grow_92f84_33 ?_
    refine y_iload_n hg 0 dJx4a65c_grow_92f84_36 rfl rfl ?_
    obtain ⟨bc33, h34, h35, h⟩ := h
    refine y_sub [1] rfl ?_
    refine ySRA (Qm := _) (rest := [va_rf (some a0)]) (As := [va_rf (sR σ a0 1), .int x29]) hg hal (k_J7_copyOf_1904c (gL g.1) (gD g.1) (sR σ a0 1) x29 σ bc33 _ h) ls_Jx4a65c_66 rfl rfl dJx4a65c_grow_92f84_37 (cat8 (Nat.le_of_ble_eq_true rfl)) hrm ⟨Nat.le_of_ble_eq_true rfl, Nat.le_of_ble_eq_true rfl⟩ h34 h35 (rll_c (lk_k rfl h30 (by decide)) rll_nil) (rl_c (lk_k rfl h30 (by decide)) rl_nil) (fun r31 σ32 h h36 => ?_)
    have h37 := kp h36 (show ¬ 1 = 0 by decide) h30
    refine y_dup_x1 hg dJx4a65c_grow_92f84_40 (rf_cat _) rfl ?_
    obtain ⟨h38, h⟩ := h
    refine y_putR hg fw_Jx4a65c_9 rfl (fun z => nomatch z) rfl h37 (lv_p h38) dJx4a65c_grow_92f84_41 ?_
    refine y_nmS (fun σ39 e40 => ?_)
    replace h := h σ39 e40
    have E41 : sK σ39 = sK σ32 := by rw [e40]; rfl
    exact yEndR hend rfl dJx4a65c_grow_92f84_44 h
  refine y_aload_n hg 0 dJx4a65c_grow_92f84_0 rfl rfl ?_
  obtain ⟨h1, h⟩ := h
  refine y_getR hg fl_Jx4a65c_9 rfl rfl h1 dJx4a65c_grow_92f84_1 ?_
  obtain ⟨c2, h3, h⟩ := h
  obtain ⟨z4, h5, h⟩ := h
  refine y_alenO hg h3 h5 dJx4a65c_grow_92f84_4 ?_
  refine y_istore_n (lv' := [(2, .int z4), (0, va_rf (some a0)), (1, .int v1)]) hg dJx4a65c_grow_92f84_5 rfl (by rw [hgN]; decide) rfl ?_
  refine y_iload_n hg 0 dJx4a65c_grow_92f84_6 rfl rfl ?_
  refine y_if_gt (tgt := 20) hg dJx4a65c_grow_92f84_7 (by decide) (fun q6 => ?_) (fun q6 => ?_)
  · replace h := h.1 q6
    refine y_sub [1, 2, 0] rfl ?_
    exact J20 _ _ _ _ h
  · replace h := h.2 q6
    refine y_aload_n hg 1 dJx4a65c_grow_92f84_10 rfl rfl ?_
    refine y_getR hg fl_Jx4a65c_9 rfl rfl h1 dJx4a65c_grow_92f84_11 ?_
    refine y_getsE hg dJx4a65c_grow_92f84_14 ?_
    obtain ⟨c9, h10, h⟩ := h
    obtain ⟨h11, h⟩ := h
    refine y_acmpE (tgt := 45) hg dJx4a65c_grow_92f84_17 (by decide) h10 h11 (fun q8 => ?_) (fun q8 => ?_)
    · replace h := h.1 q8
      refine y_aload_n hg 1 dJx4a65c_grow_92f84_45 rfl rfl ?_
      refine y_bipush (v := 10) hg dJx4a65c_grow_92f84_46 (by decide) ?_
      refine y_iload_n hg 2 dJx4a65c_grow_92f84_48 rfl rfl ?_
      refine y_mmax hg mm_Jx4a65c_79 (cat8 (Nat.le_of_ble_eq_true rfl)) hrm ⟨Nat.le_of_ble_eq_true rfl, Nat.le_of_ble_eq_true rfl⟩ dJx4a65c_grow_92f84_49 ?_
      refine y_nmI (fun x12 e13 => ?_)
      replace h := h x12 e13
      obtain ⟨κ14, q20, h15, h16, h17, h18, h19, h21, h22, h⟩ := h
      refine y_sub [1] rfl ?_
      refine y_newq hg hal cq_Jx4a65c_7 h15 h16 h17 h18 h19 h21 h22 (rll_c (lk_k rfl h1 (by decide)) rll_nil) (rl_c (lk_k rfl h1 (by decide)) rl_nil) dJx4a65c_grow_92f84_52 ?_
      refine y_nmS (fun σ23 e24 => ?_)
      replace h := h σ23 e24
      refine y_dup_x1 hg dJx4a65c_grow_92f84_55 rfl rfl ?_
      refine y_putR hg fw_Jx4a65c_9 rfl (fun z => nomatch z) rfl (kw e24 h21 (by decide) h1) (lv_k rfl (kn e24 h15) (by decide)) dJx4a65c_grow_92f84_56 ?_
      refine y_nmS (fun σ26 e27 => ?_)
      replace h := h σ26 e27
      have E28 : sK σ26 = sK σ23 := by rw [e27]; rfl
      exact yEndR hend rfl dJx4a65c_grow_92f84_59 h
    · replace h := h.2 q8
      refine y_sub [1, 2, 0] rfl ?_
      exact J20 _ _ _ _ h
def P_Jx4a65c_grow_d5877 (a0 : Nat) (σ : Sg) (b : Nat × Nat) (Q : Option Nat → Sg → Prop) : Prop :=
  sK σ a0 % 32 = 1 ∧ ∃ bc4 : Nat × Nat, bc4.1 ≤ b.1 ∧ bc4.2 ≤ b.2 ∧ P_Jx4a65c_grow_92f84 a0 ((sI σ a0 2) + 1) σ bc4 (fun r2 σ3 => Q r2 σ3)
set_option maxHeartbeats 4000000 in
set_option maxRecDepth 100000 in
theorem k_Jx4a65c_grow_d5877 (l : Launch) (D : Dg) (a0 : Nat) (σ : Sg) (b : Nat × Nat) (Q : Option Nat → Sg → Prop) (h : P_Jx4a65c_grow_d5877 a0 σ b Q) : CtrY RA l D yJx4a65c_grow_d5877 cJx4a65c_grow_d5877 1 (some (FieldType.array (FieldType.object "java/lang/Object"))) 4 107 mkR [.ref a0] σ b Q := by
  refine y_ctrA (lv := [(0, va_rf (some a0))]) (by decide) (by (exact Nat.le_of_ble_eq_true rfl)) (by (exact rfl)) (fun g hg hgL hgD hrm hgN hgI hend hal => ?_)
  subst hgD
  clear hgL
  unfold P_Jx4a65c_grow_d5877 at h
  refine y_aload_n hg 0 dJx4a65c_grow_d5877_0 rfl rfl ?_
  refine y_aload_n hg 0 dJx4a65c_grow_d5877_1 rfl rfl ?_
  obtain ⟨h1, h⟩ := h
  refine y_getI hg fl_Jx4a65c_48 rfl rfl h1 dJx4a65c_grow_d5877_2 ?_
  refine y_iconst (v := 1) hg dJx4a65c_grow_d5877_5 (by decide) ?_
  refine y_iadd hg dJx4a65c_grow_d5877_6 ?_
  obtain ⟨bc4, h5, h6, h⟩ := h
  refine yVRA (Qm := _) (rest := []) (As := [.int ((sI σ a0 2) + 1)]) hg hal (k_Jx4a65c_grow_92f84 (gL g.1) (gD g.1) a0 ((sI σ a0 2) + 1) σ bc4 _ h) lv_Jx4a65c_69 rfl h1 rfl rfl dJx4a65c_grow_d5877_7 (cat8 (Nat.le_of_ble_eq_true rfl)) hrm ⟨Nat.le_of_ble_eq_true rfl, Nat.le_of_ble_eq_true rfl⟩ h5 h6 (rll_c (lk_k rfl h1 (by decide)) rll_nil) rl_nil (fun r2 σ3 h h7 => ?_)
  have h8 := kp h7 (show ¬ 1 = 0 by decide) h1
  exact yEndR hend rfl dJx4a65c_grow_d5877_10 h
def P_Jx4a65c_add_72be8_B11 (a0 : Nat) (v1 : Option Nat) (v2 : Option Nat) (v3 : Int32) (σ : Sg) (b : Nat × Nat) (Q : Unit → Sg → Prop) : Prop :=
  ∃ c15 : Nat, v2 = some c15 ∧ sK σ c15 % 32 = 20 ∧ vp_in v3 (sN σ c15) ∧ ∃ c19 : Nat, v1 = some c19 ∧ 1 ≤ sK σ c19 % 32 ∧ sK σ c19 % 32 ≤ 13 ∧ ∀ σ23 : Sg, σ23 = pR σ c15 v3.toNatClampNeg v1 → sK σ23 a0 % 32 = 1 ∧ ∀ σ27 : Sg, σ27 = pI σ23 a0 2 (v3 + 1) → Q () σ27
def P_Jx4a65c_add_72be8 (a0 : Nat) (v1 : Option Nat) (v2 : Option Nat) (v3 : Int32) (σ : Sg) (b : Nat × Nat) (Q : Unit → Sg → Prop) : Prop :=
  ∃ c1 : Nat, v2 = some c1 ∧ ∃ z3 : Int32, ((sK σ c1 % 32 = 20 ∧ z3 = nI (sN σ c1)) ∨ (sK σ c1 % 32 = 25 ∧ z3 = 0)) ∧ (v3 = z3 → sK σ a0 % 32 = 1 ∧ ∃ bc9 : Nat × Nat, bc9.1 ≤ b.1 ∧ bc9.2 ≤ b.2 ∧ (∀ z, v1 = some z → ¬ sK σ z = 0) ∧ P_Jx4a65c_grow_d5877 a0 σ bc9 (fun r7 σ8 => P_Jx4a65c_add_72be8_B11 a0 v1 r7 v3 σ8 (b.1 - bc9.1, b.2 - bc9.2) Q)) ∧ (¬ (v3 = z3) → P_Jx4a65c_add_72be8_B11 a0 v1 v2 v3 σ (b.1, b.2) Q)
set_option maxHeartbeats 4000000 in
set_option maxRecDepth 100000 in
theorem k_Jx4a65c_add_72be8 (l : Launch) (D : Dg) (a0 : Nat) (v1 : Option Nat) (v2 : Option Nat) (v3 : Int32) (σ : Sg) (b : Nat × Nat) (Q : Unit → Sg → Prop) (h : P_Jx4a65c_add_72be8 a0 v1 v2 v3 σ b Q) : CtrY RA l D yJx4a65c_add_72be8 cJx4a65c_add_72be8 4 (none) 5 127 mkV [.ref a0, va_rf v1, va_rf v2, .int v3] σ b Q := by
  refine y_ctrA (lv := [(0, va_rf (some a0)), (1, va_rf v1), (2, va_rf v2), (3, .int v3)]) (by decide) (by cases v1 <;> cases v2 <;> (exact Nat.le_of_ble_eq_true rfl)) (by cases v1 <;> cases v2 <;> (exact rfl)) (fun g hg hgL hgD hrm hgN hgI hend hal => ?_)
  subst hgD
  clear hgL
  unfold P_Jx4a65c_add_72be8 at h
  have J11 : ∀ (v1 : Option Nat) (v2 : Option Nat) (v3 : Int32) (σ : Sg) (b : Nat × Nat), P_Jx4a65c_add_72be8_B11 a0 v1 v2 v3 σ b Q → XA g 11 [(0, va_rf (some a0)), (1, va_rf v1), (2, va_rf v2), (3, .int v3)] [] σ b := by
    intro v1 v2 v3 σ b h
    unfold P_Jx4a65c_add_72be8_B11 at h
    refine y_aload_n hg 2 dJx4a65c_add_72be8_11 rfl rfl ?_
    refine y_iload_n hg 3 dJx4a65c_add_72be8_12 rfl rfl ?_
    refine y_aload_n hg 1 dJx4a65c_add_72be8_13 rfl rfl ?_
    obtain ⟨c15, h16, h⟩ := h
    obtain ⟨h17, h⟩ := h
    obtain ⟨h18, h⟩ := h
    obtain ⟨c19, h20, h⟩ := h
    obtain ⟨h21, h22, h⟩ := h
    refine y_aast hg h16 h20 h17 h18 h21 h22 dJx4a65c_add_72be8_14 ?_
    refine y_nmS (fun σ23 e24 => ?_)
    replace h := h σ23 e24
    have E25 : sK σ23 = sK σ := by rw [e24]; rfl
    refine y_aload_n hg 0 dJx4a65c_add_72be8_15 rfl rfl ?_
    refine y_iload_n hg 3 dJx4a65c_add_72be8_16 rfl rfl ?_
    refine y_iconst (v := 1) hg dJx4a65c_add_72be8_17 (by decide) ?_
    refine y_iadd hg dJx4a65c_add_72be8_18 ?_
    obtain ⟨h26, h⟩ := h
    refine y_putI hg fw_Jx4a65c_48 (fun z => nomatch z) rfl h26 dJx4a65c_add_72be8_19 ?_
    refine y_nmS (fun σ27 e28 => ?_)
    replace h := h σ27 e28
    have E29 : sK σ27 = sK σ23 := by rw [e28]; rfl
    exact yEndV hend dJx4a65c_add_72be8_22 h
  refine y_iload_n hg 3 dJx4a65c_add_72be8_0 rfl rfl ?_
  refine y_aload_n hg 2 dJx4a65c_add_72be8_1 rfl rfl ?_
  obtain ⟨c1, h2, h⟩ := h
  obtain ⟨z3, h4, h⟩ := h
  refine y_alenO hg h2 h4 dJx4a65c_add_72be8_2 ?_
  refine y_icmp_ne (tgt := 11) hg dJx4a65c_add_72be8_3 (by decide) (fun q5 => ?_) (fun q5 => ?_)
  · replace h := h.2 q5
    refine y_sub [0, 1, 2, 3] rfl ?_
    exact J11 _ _ _ _ _ h
  · replace h := h.1 q5
    refine y_aload_n hg 0 dJx4a65c_add_72be8_6 rfl rfl ?_
    obtain ⟨h6, h⟩ := h
    obtain ⟨bc9, h10, h11, h⟩ := h
    refine y_sub [0, 1, 3] rfl ?_
    obtain ⟨h12, h⟩ := h
    refine yVRA (Qm := _) (rest := []) (As := []) hg hal (k_Jx4a65c_grow_d5877 (gL g.1) (gD g.1) a0 σ bc9 _ h) lv_Jx4a65c_129 rfl h6 rfl rfl dJx4a65c_add_72be8_7 (cat8 (Nat.le_of_ble_eq_true rfl)) hrm ⟨Nat.le_of_ble_eq_true rfl, Nat.le_of_ble_eq_true rfl⟩ h10 h11 (rll_c (lk_k rfl h6 (by decide)) (rll_c (lk_r h12) (rll_c (lk_i _) rll_nil))) rl_nil (fun r7 σ8 h h13 => ?_)
    have h14 := kp h13 (show ¬ 1 = 0 by decide) h6
    refine y_astore_n (lv' := [(2, va_rf r7), (0, va_rf (some a0)), (1, va_rf v1), (3, .int v3)]) hg dJx4a65c_add_72be8_10 rfl (by rw [hgN]; decide) (by cases v1 <;> rfl) ?_
    refine y_sub [1, 2, 0, 3] rfl ?_
    exact J11 _ _ _ _ _ h
def P_Jx4a65c_add_9ea2d (a0 : Nat) (v1 : Option Nat) (σ : Sg) (b : Nat × Nat) (Q : Int32 → Sg → Prop) : Prop :=
  sK σ a0 % 32 = 1 ∧ ∀ σ2 : Sg, σ2 = pI σ a0 0 ((sI σ a0 0) + 1) → ∃ bc7 : Nat × Nat, bc7.1 ≤ b.1 ∧ bc7.2 ≤ b.2 ∧ P_Jx4a65c_add_72be8 a0 v1 (sR σ2 a0 1) (sI σ2 a0 2) σ2 bc7 (fun _ σ6 => Q 1 σ6)
set_option maxHeartbeats 4000000 in
set_option maxRecDepth 100000 in
theorem k_Jx4a65c_add_9ea2d (l : Launch) (D : Dg) (a0 : Nat) (v1 : Option Nat) (σ : Sg) (b : Nat × Nat) (Q : Int32 → Sg → Prop) (h : P_Jx4a65c_add_9ea2d a0 v1 σ b Q) : CtrY RA l D yJx4a65c_add_9ea2d cJx4a65c_add_9ea2d 2 (some FieldType.boolean) 6 150 mkI [.ref a0, va_rf v1] σ b Q := by
  refine y_ctrA (lv := [(0, va_rf (some a0)), (1, va_rf v1)]) (by decide) (by cases v1 <;> (exact Nat.le_of_ble_eq_true rfl)) (by cases v1 <;> (exact rfl)) (fun g hg hgL hgD hrm hgN hgI hend hal => ?_)
  subst hgD
  clear hgL
  unfold P_Jx4a65c_add_9ea2d at h
  refine y_aload_n hg 0 dJx4a65c_add_9ea2d_0 rfl rfl ?_
  refine y_dup hg dJx4a65c_add_9ea2d_1 rfl ?_
  obtain ⟨h1, h⟩ := h
  refine y_getI hg fl_Jx4a65c_63 rfl rfl h1 dJx4a65c_add_9ea2d_2 ?_
  refine y_iconst (v := 1) hg dJx4a65c_add_9ea2d_5 (by decide) ?_
  refine y_iadd hg dJx4a65c_add_9ea2d_6 ?_
  refine y_putI hg fw_Jx4a65c_63 (fun z => nomatch z) rfl h1 dJx4a65c_add_9ea2d_7 ?_
  refine y_nmS (fun σ2 e3 => ?_)
  replace h := h σ2 e3
  have E4 : sK σ2 = sK σ := by rw [e3]; rfl
  refine y_aload_n hg 0 dJx4a65c_add_9ea2d_10 rfl rfl ?_
  refine y_aload_n hg 1 dJx4a65c_add_9ea2d_11 rfl rfl ?_
  refine y_aload_n hg 0 dJx4a65c_add_9ea2d_12 rfl rfl ?_
  refine y_getR hg fl_Jx4a65c_9 rfl rfl (kq E4 h1) dJx4a65c_add_9ea2d_13 ?_
  refine y_aload_n hg 0 dJx4a65c_add_9ea2d_16 rfl rfl ?_
  refine y_getI hg fl_Jx4a65c_48 rfl rfl (kq E4 h1) dJx4a65c_add_9ea2d_17 ?_
  obtain ⟨bc7, h8, h9, h⟩ := h
  refine y_sub [0] rfl ?_
  refine yVVA (Qm := _) (rest := []) (As := [va_rf v1, va_rf (sR σ2 a0 1), .int (sI σ2 a0 2)]) hg hal (k_Jx4a65c_add_72be8 (gL g.1) (gD g.1) a0 v1 (sR σ2 a0 1) (sI σ2 a0 2) σ2 bc7 _ h) lv_Jx4a65c_131 rfl (kq E4 h1) rfl rfl dJx4a65c_add_9ea2d_20 (cat8 (Nat.le_of_ble_eq_true rfl)) hrm ⟨Nat.le_of_ble_eq_true rfl, Nat.le_of_ble_eq_true rfl⟩ h8 h9 (rll_c (lk_k rfl (kq E4 h1) (by decide)) rll_nil) rl_nil (fun u5 σ6 h h10 => ?_)
  have h11 := kp h10 (show ¬ 1 = 0 by decide) (kq E4 h1)
  refine y_iconst (v := 1) hg dJx4a65c_add_9ea2d_23 (by decide) ?_
  exact yEndI hend (bz_nar (Or.inr rfl)).1 dJx4a65c_add_9ea2d_24 h
def P_J7_fill_53178_L5b (v0 : Option Nat) (v1 : Int32) (v2 : Int32) (v3 : Int32) (σ : Sg) (Q : Unit → Sg → Prop) (K5 : Int32 → Sg → Prop) : Prop :=
  (v3 ≤ v2 → Q () σ) ∧ (¬ (v3 ≤ v2) → ∃ c7 : Nat, v0 = some c7 ∧ sK σ c7 % 32 = 16 ∧ vp_in v2 (sN σ c7) ∧ ∀ σ11 : Sg, σ11 = pI σ c7 v2.toNatClampNeg v1 → ∀ x14 : Int32, x14 = v2 + 1 → K5 x14 σ11)
def P_J7_fill_53178_L5 (v0 : Option Nat) (v1 : Int32) (v2 : Int32) (v3 : Int32) (σ : Sg) (Q : Unit → Sg → Prop) : Prop :=
  ∃ I : Nat → Int32 → Sg → Prop, (∃ n, I n v2 σ) ∧ ∀ (n : Nat) (v2 : Int32) (σ : Sg), I n v2 σ → P_J7_fill_53178_L5b v0 v1 v2 v3 σ Q (fun v2 σ => ∃ n', n' < n ∧ I n' v2 σ)
def P_J7_fill_53178 (v0 : Option Nat) (v1 : Int32) (σ : Sg) (Q : Unit → Sg → Prop) : Prop :=
  ∃ c1 : Nat, v0 = some c1 ∧ sK σ c1 % 32 = 16 ∧ ∀ x4 : Int32, x4 = nI (sN σ c1) → P_J7_fill_53178_L5 v0 v1 0 x4 σ Q
set_option maxHeartbeats 4000000 in
set_option maxRecDepth 100000 in
theorem k_J7_fill_53178 (l : Launch) (D : Dg) (v0 : Option Nat) (v1 : Int32) (σ : Sg) (Q : Unit → Sg → Prop) (h : P_J7_fill_53178 v0 v1 σ Q) : CtrY RN l D yJ7_fill_53178 cJ7_fill_53178 4 (none) 0 0 mkV [va_rf v0, .int v1] σ (0, 0) Q := by
  refine y_ctrN (lv := [(0, va_rf v0), (1, .int v1)]) (by decide) (by cases v0 <;> (exact Nat.le_of_ble_eq_true rfl)) (by cases v0 <;> (exact rfl)) (fun g hg hgL hgD hrm hgN hgI hend => ?_)
  subst hgD
  clear hgL
  unfold P_J7_fill_53178 at h
  have J5 : ∀ (v0 : Option Nat) (v1 : Int32) (v2 : Int32) (v3 : Int32) (σ : Sg), P_J7_fill_53178_L5 v0 v1 v2 v3 σ Q → XA g 5 [(0, va_rf v0), (1, .int v1), (2, .int v2), (3, .int v3)] [] σ (0, 0) := by
    intro v0 v1 v2 v3 σ h
    unfold P_J7_fill_53178_L5 at h
    obtain ⟨I5, ⟨n5, hI5⟩, hs5⟩ := h
    have key5 : ∀ (n : Nat), ∀ (v2 : Int32) (σ : Sg), I5 n v2 σ → XA g 5 [(0, va_rf v0), (1, .int v1), (2, .int v2), (3, .int v3)] [] σ (0, 0) := by
      intro n
      induction n using Nat.strongRecOn with
      | _ n ih5 =>
      intro v2 σ hI
      have h := hs5 n v2 σ hI
      clear hI hI5 hs5
      obtain ⟨K5, hK5⟩ : ∃ K : Int32 → Sg → Prop, K = (fun v2 σ => ∃ n', n' < n ∧ I5 n' v2 σ) := ⟨_, rfl⟩
      rw [← hK5] at h
      unfold P_J7_fill_53178_L5b at h
      refine y_iload_n hg 2 dJ7_fill_53178_5 rfl rfl ?_
      refine y_iload_n hg 3 dJ7_fill_53178_6 rfl rfl ?_
      refine y_icmp_ge (tgt := 20) hg dJ7_fill_53178_7 (by decide) (fun q6 => ?_) (fun q6 => ?_)
      · replace h := h.1 q6
        exact yEndV hend dJ7_fill_53178_20 h
      · replace h := h.2 q6
        refine y_aload_n hg 0 dJ7_fill_53178_10 rfl rfl ?_
        refine y_iload_n hg 2 dJ7_fill_53178_11 rfl rfl ?_
        refine y_iload_n hg 1 dJ7_fill_53178_12 rfl rfl ?_
        obtain ⟨c7, h8, h⟩ := h
        obtain ⟨h9, h⟩ := h
        obtain ⟨h10, h⟩ := h
        refine y_iast hg h8 h9 h10 dJ7_fill_53178_13 ?_
        refine y_nmS (fun σ11 e12 => ?_)
        replace h := h σ11 e12
        have E13 : sK σ11 = sK σ := by rw [e12]; rfl
        obtain ⟨x14, e15⟩ : ∃ y : Int32, y = v2 + 1 := ⟨_, rfl⟩
        replace h := h x14 e15
        refine y_iinc (v := x14) (lv' := [(2, .int x14), (0, va_rf v0), (1, .int v1), (3, .int v3)]) hg 2 dJ7_fill_53178_14 rfl (by rw [e15]; rfl) (by rw [hgN]; decide) rfl ?_
        refine y_goto (tgt := 5) hg dJ7_fill_53178_17 (by decide) ?_
        refine y_sub [1, 2, 0, 3] rfl ?_
        subst hK5
        obtain ⟨n16, h17, h⟩ := h
        exact ih5 n16 h17 _ _ h
    exact key5 n5 v2 σ hI5
  refine y_iconst (v := 0) hg dJ7_fill_53178_0 (by decide) ?_
  refine y_istore_n (lv' := [(2, .int 0), (0, va_rf v0), (1, .int v1)]) hg dJ7_fill_53178_1 rfl (by rw [hgN]; decide) rfl ?_
  refine y_aload_n hg 1 dJ7_fill_53178_2 rfl rfl ?_
  obtain ⟨c1, h2, h⟩ := h
  obtain ⟨h3, h⟩ := h
  refine y_alen hg h2 h3 (by decide) (by decide) dJ7_fill_53178_3 ?_
  refine y_nmI (fun x4 e5 => ?_)
  replace h := h x4 e5
  refine y_istore_n (lv' := [(3, .int x4), (2, .int 0), (0, va_rf v0), (1, .int v1)]) hg dJ7_fill_53178_4 rfl (by rw [hgN]; decide) rfl ?_
  refine y_sub [2, 3, 1, 0] rfl ?_
  exact J5 _ _ _ _ _ h
def P_Jx4a65c_size_8abf5 (a0 : Nat) (σ : Sg) (Q : Int32 → Prop) : Prop :=
  sK σ a0 % 32 = 1 ∧ Q (sI σ a0 2)
set_option maxHeartbeats 4000000 in
set_option maxRecDepth 100000 in
theorem k_Jx4a65c_size_8abf5 (l : Launch) (D : Dg) (a0 : Nat) (σ : Sg) (Q : Int32 → Prop) (h : P_Jx4a65c_size_8abf5 a0 σ Q) : CtrY RN l D yJx4a65c_size_8abf5 cJx4a65c_size_8abf5 1 (some FieldType.int) 0 0 mkI [.ref a0] σ (0, 0) (fun r σ2 => Q r ∧ σ2 = σ) := by
  refine y_ctrN (lv := [(0, va_rf (some a0))]) (by decide) (by (exact Nat.le_of_ble_eq_true rfl)) (by (exact rfl)) (fun g hg hgL hgD hrm hgN hgI hend => ?_)
  subst hgD
  clear hgL
  unfold P_Jx4a65c_size_8abf5 at h
  refine y_aload_n hg 0 dJx4a65c_size_8abf5_0 rfl rfl ?_
  obtain ⟨h1, h⟩ := h
  refine y_getI hg fl_Jx4a65c_48 rfl rfl h1 dJx4a65c_size_8abf5_1 ?_
  exact yEndI hend rfl dJx4a65c_size_8abf5_4 ⟨h, rfl⟩
def P_J3_checkIndex_8e157_B9 (v0 : Int32) (v1 : Int32) (v2 : Option Nat) (σ : Sg) (Q : Int32 → Prop) : Prop :=
  False
def P_J3_checkIndex_8e157 (v0 : Int32) (v1 : Int32) (v2 : Option Nat) (σ : Sg) (Q : Int32 → Prop) : Prop :=
  (v0 < 0 → P_J3_checkIndex_8e157_B9 v0 v1 v2 σ Q) ∧ (¬ (v0 < 0) → (v0 < v1 → Q v0) ∧ (¬ (v0 < v1) → P_J3_checkIndex_8e157_B9 v0 v1 v2 σ Q))
set_option maxHeartbeats 4000000 in
set_option maxRecDepth 100000 in
theorem k_J3_checkIndex_8e157 (l : Launch) (D : Dg) (v0 : Int32) (v1 : Int32) (v2 : Option Nat) (σ : Sg) (Q : Int32 → Prop) (h : P_J3_checkIndex_8e157 v0 v1 v2 σ Q) : CtrY RN l D yJ3_checkIndex_8e157 cJ3_checkIndex_8e157 3 (some FieldType.int) 0 0 mkI [.int v0, .int v1, va_rf v2] σ (0, 0) (fun r σ2 => Q r ∧ σ2 = σ) := by
  refine y_ctrN (lv := [(0, .int v0), (1, .int v1), (2, va_rf v2)]) (by decide) (by cases v2 <;> (exact Nat.le_of_ble_eq_true rfl)) (by cases v2 <;> (exact rfl)) (fun g hg hgL hgD hrm hgN hgI hend => ?_)
  subst hgD
  clear hgL
  unfold P_J3_checkIndex_8e157 at h
  have J9 : ∀ (v0 : Int32) (v1 : Int32) (v2 : Option Nat), P_J3_checkIndex_8e157_B9 v0 v1 v2 σ Q → XA g 9 [(0, .int v0), (1, .int v1), (2, va_rf v2)] [] σ (0, 0) := by
    intro v0 v1 v2 h
    unfold P_J3_checkIndex_8e157_B9 at h
    refine y_aload_n hg 2 dJ3_checkIndex_8e157_9 rfl rfl ?_
    refine y_iload_n hg 0 dJ3_checkIndex_8e157_10 rfl rfl ?_
    refine y_iload_n hg 1 dJ3_checkIndex_8e157_11 rfl rfl ?_
    exact h.elim
  refine y_iload_n hg 0 dJ3_checkIndex_8e157_0 rfl rfl ?_
  refine y_if_lt (tgt := 9) hg dJ3_checkIndex_8e157_1 (by decide) (fun q1 => ?_) (fun q1 => ?_)
  · replace h := h.1 q1
    refine y_sub [0, 1, 2] rfl ?_
    exact J9 _ _ _ h
  · replace h := h.2 q1
    refine y_iload_n hg 0 dJ3_checkIndex_8e157_4 rfl rfl ?_
    refine y_iload_n hg 1 dJ3_checkIndex_8e157_5 rfl rfl ?_
    refine y_icmp_lt (tgt := 16) hg dJ3_checkIndex_8e157_6 (by decide) (fun q2 => ?_) (fun q2 => ?_)
    · replace h := h.1 q2
      refine y_iload_n hg 0 dJ3_checkIndex_8e157_16 rfl rfl ?_
      exact yEndI hend rfl dJ3_checkIndex_8e157_17 ⟨h, rfl⟩
    · replace h := h.2 q2
      refine y_sub [0, 1, 2] rfl ?_
      exact J9 _ _ _ h
def P_J15_checkIndex_7cf53 (v0 : Int32) (v1 : Int32) (σ : Sg) (Q : Int32 → Prop) : Prop :=
  P_J3_checkIndex_8e157 v0 v1 none σ (fun x1 => Q x1)
set_option maxHeartbeats 4000000 in
set_option maxRecDepth 100000 in
theorem k_J15_checkIndex_7cf53 (l : Launch) (D : Dg) (v0 : Int32) (v1 : Int32) (σ : Sg) (Q : Int32 → Prop) (h : P_J15_checkIndex_7cf53 v0 v1 σ Q) : CtrY RN l D yJ15_checkIndex_7cf53 cJ15_checkIndex_7cf53 2 (some FieldType.int) 1 22 mkI [.int v0, .int v1] σ (0, 0) (fun r σ2 => Q r ∧ σ2 = σ) := by
  refine y_ctrN (lv := [(0, .int v0), (1, .int v1)]) (by decide) (by (exact Nat.le_of_ble_eq_true rfl)) (by (exact rfl)) (fun g hg hgL hgD hrm hgN hgI hend => ?_)
  subst hgD
  clear hgL
  unfold P_J15_checkIndex_7cf53 at h
  refine y_iload_n hg 0 dJ15_checkIndex_7cf53_0 rfl rfl ?_
  refine y_iload_n hg 1 dJ15_checkIndex_7cf53_1 rfl rfl ?_
  refine y_null hg dJ15_checkIndex_7cf53_2 ?_
  refine ySIP (Qp := _) (rest := []) (As := [.int v0, .int v1, va_rf none]) hg (k_J3_checkIndex_8e157 (gL g.1) (gD g.1) v0 v1 none σ _ h) ls_J15_105 rfl rfl dJ15_checkIndex_7cf53_3 (cat8 (Nat.le_of_ble_eq_true rfl)) hrm ⟨Nat.le_of_ble_eq_true rfl, Nat.le_of_ble_eq_true rfl⟩ (fun x1 h => ?_)
  exact yEndI hend rfl dJ15_checkIndex_7cf53_6 ⟨h, rfl⟩
def P_Jx4a65c_elementData_915e3 (a0 : Nat) (v1 : Int32) (σ : Sg) (Q : Option Nat → Prop) : Prop :=
  sK σ a0 % 32 = 1 ∧ ∃ c2 : Nat, sR σ a0 1 = some c2 ∧ sK σ c2 % 32 = 20 ∧ vp_in v1 (sN σ c2) ∧ Q (sR σ c2 v1.toNatClampNeg)
set_option maxHeartbeats 4000000 in
set_option maxRecDepth 100000 in
theorem k_Jx4a65c_elementData_915e3 (l : Launch) (D : Dg) (a0 : Nat) (v1 : Int32) (σ : Sg) (Q : Option Nat → Prop) (h : P_Jx4a65c_elementData_915e3 a0 v1 σ Q) : CtrY RN l D yJx4a65c_elementData_915e3 cJx4a65c_elementData_915e3 2 (some (FieldType.object "java/lang/Object")) 0 0 mkR [.ref a0, .int v1] σ (0, 0) (fun r σ2 => Q r ∧ σ2 = σ) := by
  refine y_ctrN (lv := [(0, va_rf (some a0)), (1, .int v1)]) (by decide) (by (exact Nat.le_of_ble_eq_true rfl)) (by (exact rfl)) (fun g hg hgL hgD hrm hgN hgI hend => ?_)
  subst hgD
  clear hgL
  unfold P_Jx4a65c_elementData_915e3 at h
  refine y_aload_n hg 0 dJx4a65c_elementData_915e3_0 rfl rfl ?_
  obtain ⟨h1, h⟩ := h
  refine y_getR hg fl_Jx4a65c_9 rfl rfl h1 dJx4a65c_elementData_915e3_1 ?_
  refine y_iload_n hg 1 dJx4a65c_elementData_915e3_4 rfl rfl ?_
  obtain ⟨c2, h3, h⟩ := h
  obtain ⟨h4, h⟩ := h
  obtain ⟨h5, h⟩ := h
  refine y_aald hg h3 h4 (by decide) h5 dJx4a65c_elementData_915e3_5 ?_
  exact yEndR hend rfl dJx4a65c_elementData_915e3_6 ⟨h, rfl⟩
def P_Jx4a65c_get_915e3 (a0 : Nat) (v1 : Int32) (σ : Sg) (Q : Option Nat → Prop) : Prop :=
  sK σ a0 % 32 = 1 ∧ P_J15_checkIndex_7cf53 v1 (sI σ a0 2) σ (fun x2 => P_Jx4a65c_elementData_915e3 a0 v1 σ (fun r3 => Q r3))
set_option maxHeartbeats 4000000 in
set_option maxRecDepth 100000 in
theorem k_Jx4a65c_get_915e3 (l : Launch) (D : Dg) (a0 : Nat) (v1 : Int32) (σ : Sg) (Q : Option Nat → Prop) (h : P_Jx4a65c_get_915e3 a0 v1 σ Q) : CtrY RN l D yJx4a65c_get_915e3 cJx4a65c_get_915e3 2 (some (FieldType.object "java/lang/Object")) 2 43 mkR [.ref a0, .int v1] σ (0, 0) (fun r σ2 => Q r ∧ σ2 = σ) := by
  refine y_ctrN (lv := [(0, va_rf (some a0)), (1, .int v1)]) (by decide) (by (exact Nat.le_of_ble_eq_true rfl)) (by (exact rfl)) (fun g hg hgL hgD hrm hgN hgI hend => ?_)
  subst hgD
  clear hgL
  unfold P_Jx4a65c_get_915e3 at h
  refine y_iload_n hg 1 dJx4a65c_get_915e3_0 rfl rfl ?_
  refine y_aload_n hg 0 dJx4a65c_get_915e3_1 rfl rfl ?_
  obtain ⟨h1, h⟩ := h
  refine y_getI hg fl_Jx4a65c_48 rfl rfl h1 dJx4a65c_get_915e3_2 ?_
  refine ySIP (Qp := _) (rest := []) (As := [.int v1, .int (sI σ a0 2)]) hg (k_J15_checkIndex_7cf53 (gL g.1) (gD g.1) v1 (sI σ a0 2) σ _ h) ls_Jx4a65c_118 rfl rfl dJx4a65c_get_915e3_5 (cat8 (Nat.le_of_ble_eq_true rfl)) hrm ⟨Nat.le_of_ble_eq_true rfl, Nat.le_of_ble_eq_true rfl⟩ (fun x2 h => ?_)
  refine y_pop hg dJx4a65c_get_915e3_8 rfl ?_
  refine y_aload_n hg 0 dJx4a65c_get_915e3_9 rfl rfl ?_
  refine y_iload_n hg 1 dJx4a65c_get_915e3_10 rfl rfl ?_
  refine yVRP (Qp := _) (rest := []) (As := [.int v1]) hg (k_Jx4a65c_elementData_915e3 (gL g.1) (gD g.1) a0 v1 σ _ h) lv_Jx4a65c_123 rfl h1 rfl rfl dJx4a65c_get_915e3_11 (cat8 (Nat.le_of_ble_eq_true rfl)) hrm ⟨Nat.le_of_ble_eq_true rfl, Nat.le_of_ble_eq_true rfl⟩ (fun r3 h => ?_)
  exact yEndR hend rfl dJx4a65c_get_915e3_14 ⟨h, rfl⟩
def P_J6_bitCount_0f7a4 (v0 : Int32) (σ : Sg) (Q : Int32 → Prop) : Prop :=
  ∀ x1 : Int32, x1 = v0 - (((v0.toUInt32 >>> ((1 : Int32).toUInt32 &&& Int32.toUInt32 31)).toInt32) &&& 1431655765) → ∀ x3 : Int32, x3 = (x1 &&& 858993459) + (((x1.toUInt32 >>> ((2 : Int32).toUInt32 &&& Int32.toUInt32 31)).toInt32) &&& 858993459) → ∀ x5 : Int32, x5 = (x3 + ((x3.toUInt32 >>> ((4 : Int32).toUInt32 &&& Int32.toUInt32 31)).toInt32)) &&& 252645135 → ∀ x7 : Int32, x7 = x5 + ((x5.toUInt32 >>> ((8 : Int32).toUInt32 &&& Int32.toUInt32 31)).toInt32) → ∀ x9 : Int32, x9 = x7 + ((x7.toUInt32 >>> ((16 : Int32).toUInt32 &&& Int32.toUInt32 31)).toInt32) → Q (x9 &&& 63)
set_option maxHeartbeats 4000000 in
set_option maxRecDepth 100000 in
theorem k_J6_bitCount_0f7a4 (l : Launch) (D : Dg) (v0 : Int32) (σ : Sg) (Q : Int32 → Prop) (h : P_J6_bitCount_0f7a4 v0 σ Q) : CtrY RN l D yJ6_bitCount_0f7a4 cJ6_bitCount_0f7a4 1 (some FieldType.int) 0 0 mkI [.int v0] σ (0, 0) (fun r σ2 => Q r ∧ σ2 = σ) := by
  refine y_ctrN (lv := [(0, .int v0)]) (by decide) (by (exact Nat.le_of_ble_eq_true rfl)) (by (exact rfl)) (fun g hg hgL hgD hrm hgN hgI hend => ?_)
  subst hgD
  clear hgL
  unfold P_J6_bitCount_0f7a4 at h
  refine y_iload_n hg 0 dJ6_bitCount_0f7a4_0 rfl rfl ?_
  refine y_iload_n hg 0 dJ6_bitCount_0f7a4_1 rfl rfl ?_
  refine y_iconst (v := 1) hg dJ6_bitCount_0f7a4_2 (by decide) ?_
  refine y_iushr hg dJ6_bitCount_0f7a4_3 ?_
  refine y_ldcw hg cw_J6_265 dJ6_bitCount_0f7a4_4 ?_
  refine y_iand hg dJ6_bitCount_0f7a4_7 ?_
  refine y_isub hg dJ6_bitCount_0f7a4_8 ?_
  refine y_nmI (fun x1 e2 => ?_)
  replace h := h x1 e2
  refine y_istore_n (lv' := [(0, .int x1)]) hg dJ6_bitCount_0f7a4_9 rfl (by rw [hgN]; decide) rfl ?_
  refine y_iload_n hg 0 dJ6_bitCount_0f7a4_10 rfl rfl ?_
  refine y_ldcw hg cw_J6_266 dJ6_bitCount_0f7a4_11 ?_
  refine y_iand hg dJ6_bitCount_0f7a4_14 ?_
  refine y_iload_n hg 0 dJ6_bitCount_0f7a4_15 rfl rfl ?_
  refine y_iconst (v := 2) hg dJ6_bitCount_0f7a4_16 (by decide) ?_
  refine y_iushr hg dJ6_bitCount_0f7a4_17 ?_
  refine y_ldcw hg cw_J6_266 dJ6_bitCount_0f7a4_18 ?_
  refine y_iand hg dJ6_bitCount_0f7a4_21 ?_
  refine y_iadd hg dJ6_bitCount_0f7a4_22 ?_
  refine y_nmI (fun x3 e4 => ?_)
  replace h := h x3 e4
  refine y_istore_n (lv' := [(0, .int x3)]) hg dJ6_bitCount_0f7a4_23 rfl (by rw [hgN]; decide) rfl ?_
  refine y_iload_n hg 0 dJ6_bitCount_0f7a4_24 rfl rfl ?_
  refine y_iload_n hg 0 dJ6_bitCount_0f7a4_25 rfl rfl ?_
  refine y_iconst (v := 4) hg dJ6_bitCount_0f7a4_26 (by decide) ?_
  refine y_iushr hg dJ6_bitCount_0f7a4_27 ?_
  refine y_iadd hg dJ6_bitCount_0f7a4_28 ?_
  refine y_ldcw hg cw_J6_267 dJ6_bitCount_0f7a4_29 ?_
  refine y_iand hg dJ6_bitCount_0f7a4_32 ?_
  refine y_nmI (fun x5 e6 => ?_)
  replace h := h x5 e6
  refine y_istore_n (lv' := [(0, .int x5)]) hg dJ6_bitCount_0f7a4_33 rfl (by rw [hgN]; decide) rfl ?_
  refine y_iload_n hg 0 dJ6_bitCount_0f7a4_34 rfl rfl ?_
  refine y_iload_n hg 0 dJ6_bitCount_0f7a4_35 rfl rfl ?_
  refine y_bipush (v := 8) hg dJ6_bitCount_0f7a4_36 (by decide) ?_
  refine y_iushr hg dJ6_bitCount_0f7a4_38 ?_
  refine y_iadd hg dJ6_bitCount_0f7a4_39 ?_
  refine y_nmI (fun x7 e8 => ?_)
  replace h := h x7 e8
  refine y_istore_n (lv' := [(0, .int x7)]) hg dJ6_bitCount_0f7a4_40 rfl (by rw [hgN]; decide) rfl ?_
  refine y_iload_n hg 0 dJ6_bitCount_0f7a4_41 rfl rfl ?_
  refine y_iload_n hg 0 dJ6_bitCount_0f7a4_42 rfl rfl ?_
  refine y_bipush (v := 16) hg dJ6_bitCount_0f7a4_43 (by decide) ?_
  refine y_iushr hg dJ6_bitCount_0f7a4_45 ?_
  refine y_iadd hg dJ6_bitCount_0f7a4_46 ?_
  refine y_nmI (fun x9 e10 => ?_)
  replace h := h x9 e10
  refine y_istore_n (lv' := [(0, .int x9)]) hg dJ6_bitCount_0f7a4_47 rfl (by rw [hgN]; decide) rfl ?_
  refine y_iload_n hg 0 dJ6_bitCount_0f7a4_48 rfl rfl ?_
  refine y_bipush (v := 63) hg dJ6_bitCount_0f7a4_49 (by decide) ?_
  refine y_iand hg dJ6_bitCount_0f7a4_51 ?_
  exact yEndI hend rfl dJ6_bitCount_0f7a4_52 ⟨h, rfl⟩
