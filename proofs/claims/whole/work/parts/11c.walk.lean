def P_X7_readLook (a0 : Nat) (v1 : Option Nat) (σ : Sg) (Q : Unit → Sg → Prop) : Prop :=
  sK σ a0 % 32 = 9 ∧ P_X7_number a0 0 3 σ (fun x2 σ3 => sK σ3 a0 % 32 = 9 ∧ P_X7_need a0 3 σ3 (fun _ σ6 => sK σ6 a0 % 32 = 9 ∧ P_X7_number a0 0 9999 σ6 (fun x8 σ9 => ∃ c10 : Nat, v1 = some c10 ∧ sK σ9 c10 % 32 = 6 ∧ P_X4_put c10 (13 + (2 * x2)) x8 σ9 (fun _ σ14 => sK σ14 a0 % 32 = 9 ∧ P_X7_need a0 5 σ14 (fun _ σ17 => sK σ17 a0 % 32 = 9 ∧ P_X7_number a0 0 9999 σ17 (fun x19 σ20 => sK σ20 c10 % 32 = 6 ∧ P_X4_put c10 (14 + (2 * x2)) x19 σ20 (fun _ σ23 => Q () σ23)))))))
set_option maxHeartbeats 4000000 in
set_option maxRecDepth 100000 in
theorem k_X7_readLook (l : Launch) (D : Dg) (a0 : Nat) (v1 : Option Nat) (σ : Sg) (Q : Unit → Sg → Prop) (h : P_X7_readLook a0 v1 σ Q) : Ctr l D yX7_readLook cX7_readLook 3 (none) 6 128 mkV [.ref a0, va_rf v1] σ (0, 0) Q := by
  refine ctr_of (lv := [(0, va_rf (some a0)), (1, va_rf v1)]) (by decide) (by cases v1 <;> (exact Nat.le_of_ble_eq_true rfl)) (by cases v1 <;> (exact rfl)) (fun g hg hgL hgD hrm hgN hgI hend => ?_)
  subst hgD
  clear hgL
  unfold P_X7_readLook at h
  refine x_aload_n hg 0 dX7_readLook_0 rfl rfl ?_
  refine x_iconst (v := 0) hg dX7_readLook_1 (by decide) ?_
  refine x_iconst (v := 3) hg dX7_readLook_2 (by decide) ?_
  obtain ⟨h1, h⟩ := h
  refine xVIW (Qm := _) (rest := []) (As := [.int 0, .int 3]) hg (k_X7_number (gL g) (gD g) a0 0 3 σ _ h) lv_X7_88 rfl h1 rfl rfl dX7_readLook_3 (cat8 (Nat.le_of_ble_eq_true rfl)) hrm ⟨Nat.le_of_ble_eq_true rfl, Nat.le_of_ble_eq_true rfl⟩ (fun x2 σ3 h => ?_)
  refine x_istore_n (lv' := [(2, .int x2), (0, va_rf (some a0)), (1, va_rf v1)]) hg dX7_readLook_6 rfl (by rw [hgN]; decide) (by cases v1 <;> rfl) ?_
  refine x_aload_n hg 1 dX7_readLook_7 rfl rfl ?_
  refine x_ldcS (i := 3) hg (by decide) rfl dX7_readLook_8 ?_
  obtain ⟨h4, h⟩ := h
  refine xVVW (Qm := _) (rest := []) (As := [.ref (adS (gD g) 3)]) hg (k_X7_need (gL g) (gD g) a0 3 σ3 _ h) lv_X7_62 rfl h4 rfl rfl dX7_readLook_10 (cat8 (Nat.le_of_ble_eq_true rfl)) hrm ⟨Nat.le_of_ble_eq_true rfl, Nat.le_of_ble_eq_true rfl⟩ (fun u5 σ6 h => ?_)
  refine x_aload_n hg 2 dX7_readLook_13 rfl rfl ?_
  refine x_bipush (v := 13) hg dX7_readLook_14 (by decide) ?_
  refine x_iconst (v := 2) hg dX7_readLook_16 (by decide) ?_
  refine x_iload_n hg 0 dX7_readLook_17 rfl rfl ?_
  refine x_imul hg dX7_readLook_18 ?_
  refine x_iadd hg dX7_readLook_19 ?_
  refine x_aload_n hg 1 dX7_readLook_20 rfl rfl ?_
  refine x_iconst (v := 0) hg dX7_readLook_21 (by decide) ?_
  refine x_sipush (v := 9999) hg dX7_readLook_22 (by decide) ?_
  obtain ⟨h7, h⟩ := h
  refine xVIW (Qm := _) (rest := [.int (13 + (2 * x2)), va_rf v1]) (As := [.int 0, .int 9999]) hg (k_X7_number (gL g) (gD g) a0 0 9999 σ6 _ h) lv_X7_88 rfl h7 rfl rfl dX7_readLook_25 (cat8 (Nat.le_of_ble_eq_true rfl)) hrm ⟨Nat.le_of_ble_eq_true rfl, Nat.le_of_ble_eq_true rfl⟩ (fun x8 σ9 h => ?_)
  obtain ⟨c10, h11, h⟩ := h
  obtain ⟨h12, h⟩ := h
  refine xVVW (Qm := _) (rest := []) (As := [.int (13 + (2 * x2)), .int x8]) hg (k_X4_put (gL g) (gD g) c10 (13 + (2 * x2)) x8 σ9 _ h) lv_X7_115 h11 h12 rfl rfl dX7_readLook_28 (cat8 (Nat.le_of_ble_eq_true rfl)) hrm ⟨Nat.le_of_ble_eq_true rfl, Nat.le_of_ble_eq_true rfl⟩ (fun u13 σ14 h => ?_)
  refine x_aload_n hg 1 dX7_readLook_31 rfl rfl ?_
  refine x_ldcS (i := 5) hg (by decide) rfl dX7_readLook_32 ?_
  obtain ⟨h15, h⟩ := h
  refine xVVW (Qm := _) (rest := []) (As := [.ref (adS (gD g) 5)]) hg (k_X7_need (gL g) (gD g) a0 5 σ14 _ h) lv_X7_62 rfl h15 rfl rfl dX7_readLook_34 (cat8 (Nat.le_of_ble_eq_true rfl)) hrm ⟨Nat.le_of_ble_eq_true rfl, Nat.le_of_ble_eq_true rfl⟩ (fun u16 σ17 h => ?_)
  refine x_aload_n hg 2 dX7_readLook_37 rfl rfl ?_
  refine x_bipush (v := 14) hg dX7_readLook_38 (by decide) ?_
  refine x_iconst (v := 2) hg dX7_readLook_40 (by decide) ?_
  refine x_iload_n hg 0 dX7_readLook_41 rfl rfl ?_
  refine x_imul hg dX7_readLook_42 ?_
  refine x_iadd hg dX7_readLook_43 ?_
  refine x_aload_n hg 1 dX7_readLook_44 rfl rfl ?_
  refine x_iconst (v := 0) hg dX7_readLook_45 (by decide) ?_
  refine x_sipush (v := 9999) hg dX7_readLook_46 (by decide) ?_
  obtain ⟨h18, h⟩ := h
  refine xVIW (Qm := _) (rest := [.int (14 + (2 * x2)), va_rf v1]) (As := [.int 0, .int 9999]) hg (k_X7_number (gL g) (gD g) a0 0 9999 σ17 _ h) lv_X7_88 rfl h18 rfl rfl dX7_readLook_49 (cat8 (Nat.le_of_ble_eq_true rfl)) hrm ⟨Nat.le_of_ble_eq_true rfl, Nat.le_of_ble_eq_true rfl⟩ (fun x19 σ20 h => ?_)
  obtain ⟨h21, h⟩ := h
  refine xVVW (Qm := _) (rest := []) (As := [.int (14 + (2 * x2)), .int x19]) hg (k_X4_put (gL g) (gD g) c10 (14 + (2 * x2)) x19 σ20 _ h) lv_X7_115 h11 h21 rfl rfl dX7_readLook_52 (cat8 (Nat.le_of_ble_eq_true rfl)) hrm ⟨Nat.le_of_ble_eq_true rfl, Nat.le_of_ble_eq_true rfl⟩ (fun u22 σ23 h => ?_)
  exact endV hend dX7_readLook_55 h
def P_X7_readNumber (a0 : Nat) (v1 : Option Nat) (v2 : Int32) (σ : Sg) (Q : Unit → Sg → Prop) : Prop :=
  sK σ a0 % 32 = 9 ∧ P_X7_number a0 0 9999 σ (fun x2 σ3 => ∃ c4 : Nat, v1 = some c4 ∧ sK σ3 c4 % 32 = 6 ∧ P_X4_put c4 v2 x2 σ3 (fun _ σ8 => Q () σ8))
set_option maxHeartbeats 4000000 in
set_option maxRecDepth 100000 in
theorem k_X7_readNumber (l : Launch) (D : Dg) (a0 : Nat) (v1 : Option Nat) (v2 : Int32) (σ : Sg) (Q : Unit → Sg → Prop) (h : P_X7_readNumber a0 v1 v2 σ Q) : Ctr l D yX7_readNumber cX7_readNumber 3 (none) 3 75 mkV [.ref a0, va_rf v1, .int v2] σ (0, 0) Q := by
  refine ctr_of (lv := [(0, va_rf (some a0)), (1, va_rf v1), (2, .int v2)]) (by decide) (by cases v1 <;> (exact Nat.le_of_ble_eq_true rfl)) (by cases v1 <;> (exact rfl)) (fun g hg hgL hgD hrm hgN hgI hend => ?_)
  subst hgD
  clear hgL
  unfold P_X7_readNumber at h
  refine x_aload_n hg 1 dX7_readNumber_0 rfl rfl ?_
  refine x_iload_n hg 2 dX7_readNumber_1 rfl rfl ?_
  refine x_aload_n hg 0 dX7_readNumber_2 rfl rfl ?_
  refine x_iconst (v := 0) hg dX7_readNumber_3 (by decide) ?_
  refine x_sipush (v := 9999) hg dX7_readNumber_4 (by decide) ?_
  obtain ⟨h1, h⟩ := h
  refine xVIW (Qm := _) (rest := [.int v2, va_rf v1]) (As := [.int 0, .int 9999]) hg (k_X7_number (gL g) (gD g) a0 0 9999 σ _ h) lv_X7_88 rfl h1 rfl rfl dX7_readNumber_7 (cat8 (Nat.le_of_ble_eq_true rfl)) hrm ⟨Nat.le_of_ble_eq_true rfl, Nat.le_of_ble_eq_true rfl⟩ (fun x2 σ3 h => ?_)
  obtain ⟨c4, h5, h⟩ := h
  obtain ⟨h6, h⟩ := h
  refine xVVW (Qm := _) (rest := []) (As := [.int v2, .int x2]) hg (k_X4_put (gL g) (gD g) c4 v2 x2 σ3 _ h) lv_X7_115 h5 h6 rfl rfl dX7_readNumber_10 (cat8 (Nat.le_of_ble_eq_true rfl)) hrm ⟨Nat.le_of_ble_eq_true rfl, Nat.le_of_ble_eq_true rfl⟩ (fun u7 σ8 h => ?_)
  exact endV hend dX7_readNumber_13 h
def P_X7_readStatement_B259 (a0 : Nat) (σ : Sg) (b : Nat × Nat) (Q : Unit → Sg → Prop) : Prop :=
  sK σ a0 % 32 = 9 ∧ P_X7_need a0 18 σ (fun _ σ111 => Q () σ111)
def P_X7_readStatement (a0 : Nat) (v1 : Option Nat) (σ : Sg) (b : Nat × Nat) (Q : Unit → Sg → Prop) : Prop :=
  sK σ a0 % 32 = 9 ∧ P_X7_skips a0 0 σ (fun x2 σ3 => (x2 = 0 → sK σ3 a0 % 32 = 9 ∧ P_X7_skips a0 4 σ3 (fun x6 σ7 => (x6 = 0 → sK σ7 a0 % 32 = 9 ∧ P_X7_skips a0 6 σ7 (fun x10 σ11 => (x10 = 0 → sK σ11 a0 % 32 = 9 ∧ P_X7_skips a0 7 σ11 (fun x14 σ15 => (x14 = 0 → sK σ15 a0 % 32 = 9 ∧ P_X7_skips a0 8 σ15 (fun x18 σ19 => (x18 = 0 → sK σ19 a0 % 32 = 9 ∧ P_X7_skips a0 9 σ19 (fun x22 σ23 => (x22 = 0 → sK σ23 a0 % 32 = 9 ∧ P_X7_skips a0 10 σ23 (fun x26 σ27 => (x26 = 0 → sK σ27 a0 % 32 = 9 ∧ P_X7_skips a0 11 σ27 (fun x30 σ31 => (x30 = 0 → sK σ31 a0 % 32 = 9 ∧ P_X7_skips a0 12 σ31 (fun x34 σ35 => (x34 = 0 → sK σ35 a0 % 32 = 9 ∧ P_X7_skips a0 15 σ35 (fun x38 σ39 => (x38 = 0 → sK σ39 a0 % 32 = 9 ∧ P_X7_skips a0 17 σ39 (fun x42 σ43 => (x42 = 0 → sK σ43 a0 % 32 = 9 ∧ ∀ σ46 : Sg, σ46 = pI σ43 a0 5 (sI σ43 a0 3) → P_X7_readStatement_B259 a0 σ46 (b.1, b.2) Q) ∧ (¬ (x42 = 0) → sK σ43 a0 % 32 = 9 ∧ P_X7_readNumber a0 v1 12 σ43 (fun _ σ51 => P_X7_readStatement_B259 a0 σ51 (b.1, b.2) Q)))) ∧ (¬ (x38 = 0) → sK σ39 a0 % 32 = 9 ∧ P_X7_readNumber a0 v1 10 σ39 (fun _ σ54 => sK σ54 a0 % 32 = 9 ∧ P_X7_need a0 16 σ54 (fun _ σ57 => sK σ57 a0 % 32 = 9 ∧ P_X7_readNumber a0 v1 11 σ57 (fun _ σ60 => P_X7_readStatement_B259 a0 σ60 (b.1, b.2) Q)))))) ∧ (¬ (x34 = 0) → sK σ35 a0 % 32 = 9 ∧ P_X7_readNumber a0 v1 7 σ35 (fun _ σ63 => sK σ63 a0 % 32 = 9 ∧ P_X7_need a0 13 σ63 (fun _ σ66 => sK σ66 a0 % 32 = 9 ∧ P_X7_readNumber a0 v1 8 σ66 (fun _ σ69 => sK σ69 a0 % 32 = 9 ∧ P_X7_need a0 14 σ69 (fun _ σ72 => sK σ72 a0 % 32 = 9 ∧ P_X7_readNumber a0 v1 9 σ72 (fun _ σ75 => P_X7_readStatement_B259 a0 σ75 (b.1, b.2) Q)))))))) ∧ (¬ (x30 = 0) → sK σ31 a0 % 32 = 9 ∧ P_X7_readNumber a0 v1 6 σ31 (fun _ σ78 => P_X7_readStatement_B259 a0 σ78 (b.1, b.2) Q)))) ∧ (¬ (x26 = 0) → sK σ27 a0 % 32 = 9 ∧ P_X7_readNumber a0 v1 5 σ27 (fun _ σ81 => P_X7_readStatement_B259 a0 σ81 (b.1, b.2) Q)))) ∧ (¬ (x22 = 0) → sK σ23 a0 % 32 = 9 ∧ P_X7_readNumber a0 v1 4 σ23 (fun _ σ84 => P_X7_readStatement_B259 a0 σ84 (b.1, b.2) Q)))) ∧ (¬ (x18 = 0) → sK σ19 a0 % 32 = 9 ∧ P_X7_readNumber a0 v1 3 σ19 (fun _ σ87 => P_X7_readStatement_B259 a0 σ87 (b.1, b.2) Q)))) ∧ (¬ (x14 = 0) → sK σ15 a0 % 32 = 9 ∧ P_X7_readNumber a0 v1 1 σ15 (fun _ σ90 => sK σ90 a0 % 32 = 9 ∧ P_X7_need a0 5 σ90 (fun _ σ93 => sK σ93 a0 % 32 = 9 ∧ P_X7_readNumber a0 v1 2 σ93 (fun _ σ96 => P_X7_readStatement_B259 a0 σ96 (b.1, b.2) Q)))))) ∧ (¬ (x10 = 0) → sK σ11 a0 % 32 = 9 ∧ P_X7_readNumber a0 v1 0 σ11 (fun _ σ99 => P_X7_readStatement_B259 a0 σ99 (b.1, b.2) Q)))) ∧ (¬ (x6 = 0) → sK σ7 a0 % 32 = 9 ∧ P_X7_readLook a0 v1 σ7 (fun _ σ102 => P_X7_readStatement_B259 a0 σ102 (b.1, b.2) Q)))) ∧ (¬ (x2 = 0) → sK σ3 a0 % 32 = 9 ∧ ∃ bc106 : Nat × Nat, bc106.1 ≤ b.1 ∧ bc106.2 ≤ b.2 ∧ P_X7_readTurn a0 v1 σ3 bc106 (fun _ σ105 => P_X7_readStatement_B259 a0 σ105 (b.1 - bc106.1, b.2 - bc106.2) Q)))
set_option maxHeartbeats 4000000 in
set_option maxRecDepth 100000 in
theorem k_X7_readStatement (l : Launch) (D : Dg) (a0 : Nat) (v1 : Option Nat) (σ : Sg) (b : Nat × Nat) (Q : Unit → Sg → Prop) (h : P_X7_readStatement a0 v1 σ b Q) : Ctr l D yX7_readStatement cX7_readStatement 2 (none) 8 196 mkV [.ref a0, va_rf v1] σ b Q := by
  refine ctr_of (lv := [(0, va_rf (some a0)), (1, va_rf v1)]) (by decide) (by cases v1 <;> (exact Nat.le_of_ble_eq_true rfl)) (by cases v1 <;> (exact rfl)) (fun g hg hgL hgD hrm hgN hgI hend => ?_)
  subst hgD
  clear hgL
  unfold P_X7_readStatement at h
  have J259 : ∀ (σ : Sg) (b : Nat × Nat), P_X7_readStatement_B259 a0 σ b Q → XJ g 259 [(0, va_rf (some a0))] [] σ b := by
    intro σ b h
    unfold P_X7_readStatement_B259 at h
    refine x_aload_n hg 0 dX7_readStatement_259 rfl rfl ?_
    refine x_ldcS (i := 18) hg (by decide) rfl dX7_readStatement_260 ?_
    obtain ⟨h109, h⟩ := h
    refine xVVW (Qm := _) (rest := []) (As := [.ref (adS (gD g) 18)]) hg (k_X7_need (gL g) (gD g) a0 18 σ _ h) lv_X7_62 rfl h109 rfl rfl dX7_readStatement_262 (cat8 (Nat.le_of_ble_eq_true rfl)) hrm ⟨Nat.le_of_ble_eq_true rfl, Nat.le_of_ble_eq_true rfl⟩ (fun u110 σ111 h => ?_)
    exact endV hend dX7_readStatement_265 h
  refine x_aload_n hg 0 dX7_readStatement_0 rfl rfl ?_
  refine x_ldcS (i := 0) hg (by decide) rfl dX7_readStatement_1 ?_
  obtain ⟨h1, h⟩ := h
  refine xVIW (Qm := _) (rest := []) (As := [.ref (adS (gD g) 0)]) hg (k_X7_skips (gL g) (gD g) a0 0 σ _ h) lv_X7_40 rfl h1 rfl rfl dX7_readStatement_3 (cat8 (Nat.le_of_ble_eq_true rfl)) hrm ⟨Nat.le_of_ble_eq_true rfl, Nat.le_of_ble_eq_true rfl⟩ (fun x2 σ3 h => ?_)
  refine x_if_eq (tgt := 17) hg dX7_readStatement_6 (by decide) (fun q4 => ?_) (fun q4 => ?_)
  · replace h := h.1 q4
    refine x_aload_n hg 0 dX7_readStatement_17 rfl rfl ?_
    refine x_ldcS (i := 4) hg (by decide) rfl dX7_readStatement_18 ?_
    obtain ⟨h5, h⟩ := h
    refine xVIW (Qm := _) (rest := []) (As := [.ref (adS (gD g) 4)]) hg (k_X7_skips (gL g) (gD g) a0 4 σ3 _ h) lv_X7_40 rfl h5 rfl rfl dX7_readStatement_20 (cat8 (Nat.le_of_ble_eq_true rfl)) hrm ⟨Nat.le_of_ble_eq_true rfl, Nat.le_of_ble_eq_true rfl⟩ (fun x6 σ7 h => ?_)
    refine x_if_eq (tgt := 34) hg dX7_readStatement_23 (by decide) (fun q8 => ?_) (fun q8 => ?_)
    · replace h := h.1 q8
      refine x_aload_n hg 0 dX7_readStatement_34 rfl rfl ?_
      refine x_ldcS (i := 6) hg (by decide) rfl dX7_readStatement_35 ?_
      obtain ⟨h9, h⟩ := h
      refine xVIW (Qm := _) (rest := []) (As := [.ref (adS (gD g) 6)]) hg (k_X7_skips (gL g) (gD g) a0 6 σ7 _ h) lv_X7_40 rfl h9 rfl rfl dX7_readStatement_37 (cat8 (Nat.le_of_ble_eq_true rfl)) hrm ⟨Nat.le_of_ble_eq_true rfl, Nat.le_of_ble_eq_true rfl⟩ (fun x10 σ11 h => ?_)
      refine x_if_eq (tgt := 52) hg dX7_readStatement_40 (by decide) (fun q12 => ?_) (fun q12 => ?_)
      · replace h := h.1 q12
        refine x_aload_n hg 0 dX7_readStatement_52 rfl rfl ?_
        refine x_ldcS (i := 7) hg (by decide) rfl dX7_readStatement_53 ?_
        obtain ⟨h13, h⟩ := h
        refine xVIW (Qm := _) (rest := []) (As := [.ref (adS (gD g) 7)]) hg (k_X7_skips (gL g) (gD g) a0 7 σ11 _ h) lv_X7_40 rfl h13 rfl rfl dX7_readStatement_55 (cat8 (Nat.le_of_ble_eq_true rfl)) hrm ⟨Nat.le_of_ble_eq_true rfl, Nat.le_of_ble_eq_true rfl⟩ (fun x14 σ15 h => ?_)
        refine x_if_eq (tgt := 82) hg dX7_readStatement_58 (by decide) (fun q16 => ?_) (fun q16 => ?_)
        · replace h := h.1 q16
          refine x_aload_n hg 0 dX7_readStatement_82 rfl rfl ?_
          refine x_ldcS (i := 8) hg (by decide) rfl dX7_readStatement_83 ?_
          obtain ⟨h17, h⟩ := h
          refine xVIW (Qm := _) (rest := []) (As := [.ref (adS (gD g) 8)]) hg (k_X7_skips (gL g) (gD g) a0 8 σ15 _ h) lv_X7_40 rfl h17 rfl rfl dX7_readStatement_85 (cat8 (Nat.le_of_ble_eq_true rfl)) hrm ⟨Nat.le_of_ble_eq_true rfl, Nat.le_of_ble_eq_true rfl⟩ (fun x18 σ19 h => ?_)
          refine x_if_eq (tgt := 100) hg dX7_readStatement_88 (by decide) (fun q20 => ?_) (fun q20 => ?_)
          · replace h := h.1 q20
            refine x_aload_n hg 0 dX7_readStatement_100 rfl rfl ?_
            refine x_ldcS (i := 9) hg (by decide) rfl dX7_readStatement_101 ?_
            obtain ⟨h21, h⟩ := h
            refine xVIW (Qm := _) (rest := []) (As := [.ref (adS (gD g) 9)]) hg (k_X7_skips (gL g) (gD g) a0 9 σ19 _ h) lv_X7_40 rfl h21 rfl rfl dX7_readStatement_103 (cat8 (Nat.le_of_ble_eq_true rfl)) hrm ⟨Nat.le_of_ble_eq_true rfl, Nat.le_of_ble_eq_true rfl⟩ (fun x22 σ23 h => ?_)
            refine x_if_eq (tgt := 118) hg dX7_readStatement_106 (by decide) (fun q24 => ?_) (fun q24 => ?_)
            · replace h := h.1 q24
              refine x_aload_n hg 0 dX7_readStatement_118 rfl rfl ?_
              refine x_ldcS (i := 10) hg (by decide) rfl dX7_readStatement_119 ?_
              obtain ⟨h25, h⟩ := h
              refine xVIW (Qm := _) (rest := []) (As := [.ref (adS (gD g) 10)]) hg (k_X7_skips (gL g) (gD g) a0 10 σ23 _ h) lv_X7_40 rfl h25 rfl rfl dX7_readStatement_121 (cat8 (Nat.le_of_ble_eq_true rfl)) hrm ⟨Nat.le_of_ble_eq_true rfl, Nat.le_of_ble_eq_true rfl⟩ (fun x26 σ27 h => ?_)
              refine x_if_eq (tgt := 136) hg dX7_readStatement_124 (by decide) (fun q28 => ?_) (fun q28 => ?_)
              · replace h := h.1 q28
                refine x_aload_n hg 0 dX7_readStatement_136 rfl rfl ?_
                refine x_ldcS (i := 11) hg (by decide) rfl dX7_readStatement_137 ?_
                obtain ⟨h29, h⟩ := h
                refine xVIW (Qm := _) (rest := []) (As := [.ref (adS (gD g) 11)]) hg (k_X7_skips (gL g) (gD g) a0 11 σ27 _ h) lv_X7_40 rfl h29 rfl rfl dX7_readStatement_139 (cat8 (Nat.le_of_ble_eq_true rfl)) hrm ⟨Nat.le_of_ble_eq_true rfl, Nat.le_of_ble_eq_true rfl⟩ (fun x30 σ31 h => ?_)
                refine x_if_eq (tgt := 155) hg dX7_readStatement_142 (by decide) (fun q32 => ?_) (fun q32 => ?_)
                · replace h := h.1 q32
                  refine x_aload_n hg 0 dX7_readStatement_155 rfl rfl ?_
                  refine x_ldcS (i := 12) hg (by decide) rfl dX7_readStatement_156 ?_
                  obtain ⟨h33, h⟩ := h
                  refine xVIW (Qm := _) (rest := []) (As := [.ref (adS (gD g) 12)]) hg (k_X7_skips (gL g) (gD g) a0 12 σ31 _ h) lv_X7_40 rfl h33 rfl rfl dX7_readStatement_158 (cat8 (Nat.le_of_ble_eq_true rfl)) hrm ⟨Nat.le_of_ble_eq_true rfl, Nat.le_of_ble_eq_true rfl⟩ (fun x34 σ35 h => ?_)
                  refine x_if_eq (tgt := 200) hg dX7_readStatement_161 (by decide) (fun q36 => ?_) (fun q36 => ?_)
                  · replace h := h.1 q36
                    refine x_aload_n hg 0 dX7_readStatement_200 rfl rfl ?_
                    refine x_ldcS (i := 15) hg (by decide) rfl dX7_readStatement_201 ?_
                    obtain ⟨h37, h⟩ := h
                    refine xVIW (Qm := _) (rest := []) (As := [.ref (adS (gD g) 15)]) hg (k_X7_skips (gL g) (gD g) a0 15 σ35 _ h) lv_X7_40 rfl h37 rfl rfl dX7_readStatement_203 (cat8 (Nat.le_of_ble_eq_true rfl)) hrm ⟨Nat.le_of_ble_eq_true rfl, Nat.le_of_ble_eq_true rfl⟩ (fun x38 σ39 h => ?_)
                    refine x_if_eq (tgt := 232) hg dX7_readStatement_206 (by decide) (fun q40 => ?_) (fun q40 => ?_)
                    · replace h := h.1 q40
                      refine x_aload_n hg 0 dX7_readStatement_232 rfl rfl ?_
                      refine x_ldcS (i := 17) hg (by decide) rfl dX7_readStatement_233 ?_
                      obtain ⟨h41, h⟩ := h
                      refine xVIW (Qm := _) (rest := []) (As := [.ref (adS (gD g) 17)]) hg (k_X7_skips (gL g) (gD g) a0 17 σ39 _ h) lv_X7_40 rfl h41 rfl rfl dX7_readStatement_235 (cat8 (Nat.le_of_ble_eq_true rfl)) hrm ⟨Nat.le_of_ble_eq_true rfl, Nat.le_of_ble_eq_true rfl⟩ (fun x42 σ43 h => ?_)
                      refine x_if_eq (tgt := 251) hg dX7_readStatement_238 (by decide) (fun q44 => ?_) (fun q44 => ?_)
                      · replace h := h.1 q44
                        refine x_aload_n hg 0 dX7_readStatement_251 rfl rfl ?_
                        refine x_aload_n hg 0 dX7_readStatement_252 rfl rfl ?_
                        obtain ⟨h45, h⟩ := h
                        refine x_getI hg fl_X7_31 rfl rfl h45 dX7_readStatement_253 ?_
                        refine x_putI hg fw_X7_22 (fun z => nomatch z) rfl h45 dX7_readStatement_256 ?_
                        refine x_nmS (fun σ46 e47 => ?_)
                        replace h := h σ46 e47
                        have E48 : sK σ46 = sK σ43 := by rw [e47]; rfl
                        refine x_sub [0] rfl ?_
                        exact J259 _ _ h
                      · replace h := h.2 q44
                        refine x_aload_n hg 0 dX7_readStatement_241 rfl rfl ?_
                        refine x_aload_n hg 1 dX7_readStatement_242 rfl rfl ?_
                        refine x_bipush (v := 12) hg dX7_readStatement_243 (by decide) ?_
                        obtain ⟨h49, h⟩ := h
                        refine xVVW (Qm := _) (rest := []) (As := [va_rf v1, .int 12]) hg (k_X7_readNumber (gL g) (gD g) a0 v1 12 σ43 _ h) lv_X7_54 rfl h49 rfl rfl dX7_readStatement_245 (cat8 (Nat.le_of_ble_eq_true rfl)) hrm ⟨Nat.le_of_ble_eq_true rfl, Nat.le_of_ble_eq_true rfl⟩ (fun u50 σ51 h => ?_)
                        refine x_goto (tgt := 259) hg dX7_readStatement_248 (by decide) ?_
                        refine x_sub [0] rfl ?_
                        exact J259 _ _ h
                    · replace h := h.2 q40
                      refine x_aload_n hg 0 dX7_readStatement_209 rfl rfl ?_
                      refine x_aload_n hg 1 dX7_readStatement_210 rfl rfl ?_
                      refine x_bipush (v := 10) hg dX7_readStatement_211 (by decide) ?_
                      obtain ⟨h52, h⟩ := h
                      refine xVVW (Qm := _) (rest := []) (As := [va_rf v1, .int 10]) hg (k_X7_readNumber (gL g) (gD g) a0 v1 10 σ39 _ h) lv_X7_54 rfl h52 rfl rfl dX7_readStatement_213 (cat8 (Nat.le_of_ble_eq_true rfl)) hrm ⟨Nat.le_of_ble_eq_true rfl, Nat.le_of_ble_eq_true rfl⟩ (fun u53 σ54 h => ?_)
                      refine x_aload_n hg 0 dX7_readStatement_216 rfl rfl ?_
                      refine x_ldcS (i := 16) hg (by decide) rfl dX7_readStatement_217 ?_
                      obtain ⟨h55, h⟩ := h
                      refine xVVW (Qm := _) (rest := []) (As := [.ref (adS (gD g) 16)]) hg (k_X7_need (gL g) (gD g) a0 16 σ54 _ h) lv_X7_62 rfl h55 rfl rfl dX7_readStatement_219 (cat8 (Nat.le_of_ble_eq_true rfl)) hrm ⟨Nat.le_of_ble_eq_true rfl, Nat.le_of_ble_eq_true rfl⟩ (fun u56 σ57 h => ?_)
                      refine x_aload_n hg 0 dX7_readStatement_222 rfl rfl ?_
                      refine x_aload_n hg 1 dX7_readStatement_223 rfl rfl ?_
                      refine x_bipush (v := 11) hg dX7_readStatement_224 (by decide) ?_
                      obtain ⟨h58, h⟩ := h
                      refine xVVW (Qm := _) (rest := []) (As := [va_rf v1, .int 11]) hg (k_X7_readNumber (gL g) (gD g) a0 v1 11 σ57 _ h) lv_X7_54 rfl h58 rfl rfl dX7_readStatement_226 (cat8 (Nat.le_of_ble_eq_true rfl)) hrm ⟨Nat.le_of_ble_eq_true rfl, Nat.le_of_ble_eq_true rfl⟩ (fun u59 σ60 h => ?_)
                      refine x_goto (tgt := 259) hg dX7_readStatement_229 (by decide) ?_
                      refine x_sub [0] rfl ?_
                      exact J259 _ _ h
                  · replace h := h.2 q36
                    refine x_aload_n hg 0 dX7_readStatement_164 rfl rfl ?_
                    refine x_aload_n hg 1 dX7_readStatement_165 rfl rfl ?_
                    refine x_bipush (v := 7) hg dX7_readStatement_166 (by decide) ?_
                    obtain ⟨h61, h⟩ := h
                    refine xVVW (Qm := _) (rest := []) (As := [va_rf v1, .int 7]) hg (k_X7_readNumber (gL g) (gD g) a0 v1 7 σ35 _ h) lv_X7_54 rfl h61 rfl rfl dX7_readStatement_168 (cat8 (Nat.le_of_ble_eq_true rfl)) hrm ⟨Nat.le_of_ble_eq_true rfl, Nat.le_of_ble_eq_true rfl⟩ (fun u62 σ63 h => ?_)
                    refine x_aload_n hg 0 dX7_readStatement_171 rfl rfl ?_
                    refine x_ldcS (i := 13) hg (by decide) rfl dX7_readStatement_172 ?_
                    obtain ⟨h64, h⟩ := h
                    refine xVVW (Qm := _) (rest := []) (As := [.ref (adS (gD g) 13)]) hg (k_X7_need (gL g) (gD g) a0 13 σ63 _ h) lv_X7_62 rfl h64 rfl rfl dX7_readStatement_174 (cat8 (Nat.le_of_ble_eq_true rfl)) hrm ⟨Nat.le_of_ble_eq_true rfl, Nat.le_of_ble_eq_true rfl⟩ (fun u65 σ66 h => ?_)
                    refine x_aload_n hg 0 dX7_readStatement_177 rfl rfl ?_
                    refine x_aload_n hg 1 dX7_readStatement_178 rfl rfl ?_
                    refine x_bipush (v := 8) hg dX7_readStatement_179 (by decide) ?_
                    obtain ⟨h67, h⟩ := h
                    refine xVVW (Qm := _) (rest := []) (As := [va_rf v1, .int 8]) hg (k_X7_readNumber (gL g) (gD g) a0 v1 8 σ66 _ h) lv_X7_54 rfl h67 rfl rfl dX7_readStatement_181 (cat8 (Nat.le_of_ble_eq_true rfl)) hrm ⟨Nat.le_of_ble_eq_true rfl, Nat.le_of_ble_eq_true rfl⟩ (fun u68 σ69 h => ?_)
                    refine x_aload_n hg 0 dX7_readStatement_184 rfl rfl ?_
                    refine x_ldcS (i := 14) hg (by decide) rfl dX7_readStatement_185 ?_
                    obtain ⟨h70, h⟩ := h
                    refine xVVW (Qm := _) (rest := []) (As := [.ref (adS (gD g) 14)]) hg (k_X7_need (gL g) (gD g) a0 14 σ69 _ h) lv_X7_62 rfl h70 rfl rfl dX7_readStatement_187 (cat8 (Nat.le_of_ble_eq_true rfl)) hrm ⟨Nat.le_of_ble_eq_true rfl, Nat.le_of_ble_eq_true rfl⟩ (fun u71 σ72 h => ?_)
                    refine x_aload_n hg 0 dX7_readStatement_190 rfl rfl ?_
                    refine x_aload_n hg 1 dX7_readStatement_191 rfl rfl ?_
                    refine x_bipush (v := 9) hg dX7_readStatement_192 (by decide) ?_
                    obtain ⟨h73, h⟩ := h
                    refine xVVW (Qm := _) (rest := []) (As := [va_rf v1, .int 9]) hg (k_X7_readNumber (gL g) (gD g) a0 v1 9 σ72 _ h) lv_X7_54 rfl h73 rfl rfl dX7_readStatement_194 (cat8 (Nat.le_of_ble_eq_true rfl)) hrm ⟨Nat.le_of_ble_eq_true rfl, Nat.le_of_ble_eq_true rfl⟩ (fun u74 σ75 h => ?_)
                    refine x_goto (tgt := 259) hg dX7_readStatement_197 (by decide) ?_
                    refine x_sub [0] rfl ?_
                    exact J259 _ _ h
                · replace h := h.2 q32
                  refine x_aload_n hg 0 dX7_readStatement_145 rfl rfl ?_
                  refine x_aload_n hg 1 dX7_readStatement_146 rfl rfl ?_
                  refine x_bipush (v := 6) hg dX7_readStatement_147 (by decide) ?_
                  obtain ⟨h76, h⟩ := h
                  refine xVVW (Qm := _) (rest := []) (As := [va_rf v1, .int 6]) hg (k_X7_readNumber (gL g) (gD g) a0 v1 6 σ31 _ h) lv_X7_54 rfl h76 rfl rfl dX7_readStatement_149 (cat8 (Nat.le_of_ble_eq_true rfl)) hrm ⟨Nat.le_of_ble_eq_true rfl, Nat.le_of_ble_eq_true rfl⟩ (fun u77 σ78 h => ?_)
                  refine x_goto (tgt := 259) hg dX7_readStatement_152 (by decide) ?_
                  refine x_sub [0] rfl ?_
                  exact J259 _ _ h
              · replace h := h.2 q28
                refine x_aload_n hg 0 dX7_readStatement_127 rfl rfl ?_
                refine x_aload_n hg 1 dX7_readStatement_128 rfl rfl ?_
                refine x_iconst (v := 5) hg dX7_readStatement_129 (by decide) ?_
                obtain ⟨h79, h⟩ := h
                refine xVVW (Qm := _) (rest := []) (As := [va_rf v1, .int 5]) hg (k_X7_readNumber (gL g) (gD g) a0 v1 5 σ27 _ h) lv_X7_54 rfl h79 rfl rfl dX7_readStatement_130 (cat8 (Nat.le_of_ble_eq_true rfl)) hrm ⟨Nat.le_of_ble_eq_true rfl, Nat.le_of_ble_eq_true rfl⟩ (fun u80 σ81 h => ?_)
                refine x_goto (tgt := 259) hg dX7_readStatement_133 (by decide) ?_
                refine x_sub [0] rfl ?_
                exact J259 _ _ h
            · replace h := h.2 q24
              refine x_aload_n hg 0 dX7_readStatement_109 rfl rfl ?_
              refine x_aload_n hg 1 dX7_readStatement_110 rfl rfl ?_
              refine x_iconst (v := 4) hg dX7_readStatement_111 (by decide) ?_
              obtain ⟨h82, h⟩ := h
              refine xVVW (Qm := _) (rest := []) (As := [va_rf v1, .int 4]) hg (k_X7_readNumber (gL g) (gD g) a0 v1 4 σ23 _ h) lv_X7_54 rfl h82 rfl rfl dX7_readStatement_112 (cat8 (Nat.le_of_ble_eq_true rfl)) hrm ⟨Nat.le_of_ble_eq_true rfl, Nat.le_of_ble_eq_true rfl⟩ (fun u83 σ84 h => ?_)
              refine x_goto (tgt := 259) hg dX7_readStatement_115 (by decide) ?_
              refine x_sub [0] rfl ?_
              exact J259 _ _ h
          · replace h := h.2 q20
            refine x_aload_n hg 0 dX7_readStatement_91 rfl rfl ?_
            refine x_aload_n hg 1 dX7_readStatement_92 rfl rfl ?_
            refine x_iconst (v := 3) hg dX7_readStatement_93 (by decide) ?_
            obtain ⟨h85, h⟩ := h
            refine xVVW (Qm := _) (rest := []) (As := [va_rf v1, .int 3]) hg (k_X7_readNumber (gL g) (gD g) a0 v1 3 σ19 _ h) lv_X7_54 rfl h85 rfl rfl dX7_readStatement_94 (cat8 (Nat.le_of_ble_eq_true rfl)) hrm ⟨Nat.le_of_ble_eq_true rfl, Nat.le_of_ble_eq_true rfl⟩ (fun u86 σ87 h => ?_)
            refine x_goto (tgt := 259) hg dX7_readStatement_97 (by decide) ?_
            refine x_sub [0] rfl ?_
            exact J259 _ _ h
        · replace h := h.2 q16
          refine x_aload_n hg 0 dX7_readStatement_61 rfl rfl ?_
          refine x_aload_n hg 1 dX7_readStatement_62 rfl rfl ?_
          refine x_iconst (v := 1) hg dX7_readStatement_63 (by decide) ?_
          obtain ⟨h88, h⟩ := h
          refine xVVW (Qm := _) (rest := []) (As := [va_rf v1, .int 1]) hg (k_X7_readNumber (gL g) (gD g) a0 v1 1 σ15 _ h) lv_X7_54 rfl h88 rfl rfl dX7_readStatement_64 (cat8 (Nat.le_of_ble_eq_true rfl)) hrm ⟨Nat.le_of_ble_eq_true rfl, Nat.le_of_ble_eq_true rfl⟩ (fun u89 σ90 h => ?_)
          refine x_aload_n hg 0 dX7_readStatement_67 rfl rfl ?_
          refine x_ldcS (i := 5) hg (by decide) rfl dX7_readStatement_68 ?_
          obtain ⟨h91, h⟩ := h
          refine xVVW (Qm := _) (rest := []) (As := [.ref (adS (gD g) 5)]) hg (k_X7_need (gL g) (gD g) a0 5 σ90 _ h) lv_X7_62 rfl h91 rfl rfl dX7_readStatement_70 (cat8 (Nat.le_of_ble_eq_true rfl)) hrm ⟨Nat.le_of_ble_eq_true rfl, Nat.le_of_ble_eq_true rfl⟩ (fun u92 σ93 h => ?_)
          refine x_aload_n hg 0 dX7_readStatement_73 rfl rfl ?_
          refine x_aload_n hg 1 dX7_readStatement_74 rfl rfl ?_
          refine x_iconst (v := 2) hg dX7_readStatement_75 (by decide) ?_
          obtain ⟨h94, h⟩ := h
          refine xVVW (Qm := _) (rest := []) (As := [va_rf v1, .int 2]) hg (k_X7_readNumber (gL g) (gD g) a0 v1 2 σ93 _ h) lv_X7_54 rfl h94 rfl rfl dX7_readStatement_76 (cat8 (Nat.le_of_ble_eq_true rfl)) hrm ⟨Nat.le_of_ble_eq_true rfl, Nat.le_of_ble_eq_true rfl⟩ (fun u95 σ96 h => ?_)
          refine x_goto (tgt := 259) hg dX7_readStatement_79 (by decide) ?_
          refine x_sub [0] rfl ?_
          exact J259 _ _ h
      · replace h := h.2 q12
        refine x_aload_n hg 0 dX7_readStatement_43 rfl rfl ?_
        refine x_aload_n hg 1 dX7_readStatement_44 rfl rfl ?_
        refine x_iconst (v := 0) hg dX7_readStatement_45 (by decide) ?_
        obtain ⟨h97, h⟩ := h
        refine xVVW (Qm := _) (rest := []) (As := [va_rf v1, .int 0]) hg (k_X7_readNumber (gL g) (gD g) a0 v1 0 σ11 _ h) lv_X7_54 rfl h97 rfl rfl dX7_readStatement_46 (cat8 (Nat.le_of_ble_eq_true rfl)) hrm ⟨Nat.le_of_ble_eq_true rfl, Nat.le_of_ble_eq_true rfl⟩ (fun u98 σ99 h => ?_)
        refine x_goto (tgt := 259) hg dX7_readStatement_49 (by decide) ?_
        refine x_sub [0] rfl ?_
        exact J259 _ _ h
    · replace h := h.2 q8
      refine x_aload_n hg 0 dX7_readStatement_26 rfl rfl ?_
      refine x_aload_n hg 1 dX7_readStatement_27 rfl rfl ?_
      obtain ⟨h100, h⟩ := h
      refine xVVW (Qm := _) (rest := []) (As := [va_rf v1]) hg (k_X7_readLook (gL g) (gD g) a0 v1 σ7 _ h) lv_X7_49 rfl h100 rfl rfl dX7_readStatement_28 (cat8 (Nat.le_of_ble_eq_true rfl)) hrm ⟨Nat.le_of_ble_eq_true rfl, Nat.le_of_ble_eq_true rfl⟩ (fun u101 σ102 h => ?_)
      refine x_goto (tgt := 259) hg dX7_readStatement_31 (by decide) ?_
      refine x_sub [0] rfl ?_
      exact J259 _ _ h
  · replace h := h.2 q4
    refine x_aload_n hg 0 dX7_readStatement_9 rfl rfl ?_
    refine x_aload_n hg 1 dX7_readStatement_10 rfl rfl ?_
    obtain ⟨h103, h⟩ := h
    obtain ⟨bc106, h107, h108, h⟩ := h
    refine xVVA (Qm := _) (rest := []) (As := [va_rf v1]) hg (k_X7_readTurn (gL g) (gD g) a0 v1 σ3 bc106 _ h) lv_X7_44 rfl h103 rfl rfl dX7_readStatement_11 (cat8 (Nat.le_of_ble_eq_true rfl)) hrm ⟨Nat.le_of_ble_eq_true rfl, Nat.le_of_ble_eq_true rfl⟩ h107 h108 (fun u104 σ105 h => ?_)
    refine x_goto (tgt := 259) hg dX7_readStatement_14 (by decide) ?_
    refine x_sub [0] rfl ?_
    exact J259 _ _ h
def P_X7_read_B74 (a0 : Nat) (σ : Sg) (b : Nat × Nat) (Q : Int32 → Sg → Prop) : Prop :=
  sK σ a0 % 32 = 9 ∧ ∀ σ31 : Sg, σ31 = pI σ a0 0 0 → Q (sI σ31 a0 5) σ31
def P_X7_read_B68 (a0 : Nat) (v2 : Option Nat) (v3 : Int32) (σ : Sg) (b : Nat × Nat) (Q : Int32 → Sg → Prop) (K21 : Int32 → Sg → (Nat × Nat) → Prop) : Prop :=
  ∀ x26 : Int32, x26 = v3 + 1 → K21 x26 σ (b.1, b.2)
def P_X7_read_L21b (a0 : Nat) (v2 : Option Nat) (v3 : Int32) (σ : Sg) (b : Nat × Nat) (Q : Int32 → Sg → Prop) (K21 : Int32 → Sg → (Nat × Nat) → Prop) : Prop :=
  (24 < v3 → P_X7_read_B74 a0 σ (b.1, b.2) Q) ∧ (¬ (24 < v3) → sK σ a0 % 32 = 9 ∧ ((sI σ a0 5) = (-1) → ((sI σ a0 2) ≤ (sI σ a0 3) → P_X7_read_B74 a0 σ (b.1, b.2) Q) ∧ (¬ ((sI σ a0 2) ≤ (sI σ a0 3)) → (v3 = 24 → ∀ σ23 : Sg, σ23 = pI σ a0 5 (sI σ a0 3) → P_X7_read_B68 a0 v2 v3 σ23 (b.1, b.2) Q K21) ∧ (¬ (v3 = 24) → ∃ bc20 : Nat × Nat, bc20.1 ≤ b.1 ∧ bc20.2 ≤ b.2 ∧ P_X7_readStatement a0 v2 σ bc20 (fun _ σ19 => P_X7_read_B68 a0 v2 v3 σ19 (b.1 - bc20.1, b.2 - bc20.2) Q K21)))) ∧ (¬ ((sI σ a0 5) = (-1)) → P_X7_read_B74 a0 σ (b.1, b.2) Q))
def P_X7_read_L21 (a0 : Nat) (v2 : Option Nat) (v3 : Int32) (σ : Sg) (b : Nat × Nat) (Q : Int32 → Sg → Prop) : Prop :=
  ∃ I : Nat → Int32 → Sg → (Nat × Nat) → Prop, (∃ n, I n v3 σ b) ∧ ∀ (n : Nat) (v3 : Int32) (σ : Sg) (b : Nat × Nat), I n v3 σ b → P_X7_read_L21b a0 v2 v3 σ b Q (fun v3 σ b => ∃ n', n' < n ∧ I n' v3 σ b)
def P_X7_read (a0 : Nat) (v1 : Int32) (v2 : Option Nat) (σ : Sg) (b : Nat × Nat) (Q : Int32 → Sg → Prop) : Prop :=
  sK σ a0 % 32 = 9 ∧ ∀ σ2 : Sg, σ2 = pI σ a0 2 v1 → ∀ σ5 : Sg, σ5 = pI σ2 a0 5 (-1) → ∀ σ8 : Sg, σ8 = pI σ5 a0 4 0 → P_X7_step a0 σ8 (fun _ σ12 => P_X7_read_L21 a0 v2 0 σ12 (b.1, b.2) Q)
set_option maxHeartbeats 4000000 in
set_option maxRecDepth 100000 in
theorem k_X7_read (l : Launch) (D : Dg) (a0 : Nat) (v1 : Int32) (v2 : Option Nat) (σ : Sg) (b : Nat × Nat) (Q : Int32 → Sg → Prop) (h : P_X7_read a0 v1 v2 σ b Q) : Ctr l D yX7_read cX7_read 4 (some FieldType.int) 9 217 mkI [.ref a0, .int v1, va_rf v2] σ b Q := by
  refine ctr_of (lv := [(0, va_rf (some a0)), (1, .int v1), (2, va_rf v2)]) (by decide) (by cases v2 <;> (exact Nat.le_of_ble_eq_true rfl)) (by cases v2 <;> (exact rfl)) (fun g hg hgL hgD hrm hgN hgI hend => ?_)
  subst hgD
  clear hgL
  unfold P_X7_read at h
  have J74 : ∀ (σ : Sg) (b : Nat × Nat), P_X7_read_B74 a0 σ b Q → XJ g 74 [(0, va_rf (some a0))] [] σ b := by
    intro σ b h
    unfold P_X7_read_B74 at h
    refine x_aload_n hg 0 dX7_read_74 rfl rfl ?_
    refine x_iconst (v := 0) hg dX7_read_75 (by decide) ?_
    obtain ⟨h30, h⟩ := h
    refine x_putI hg fw_X7_15 (fun z => nomatch z) rfl h30 dX7_read_76 ?_
    refine x_nmS (fun σ31 e32 => ?_)
    replace h := h σ31 e32
    have E33 : sK σ31 = sK σ := by rw [e32]; rfl
    refine x_aload_n hg 0 dX7_read_79 rfl rfl ?_
    refine x_getI hg fl_X7_22 rfl rfl (kq E33 h30) dX7_read_80 ?_
    exact endI hend rfl dX7_read_83 h
  have J21 : ∀ (v2 : Option Nat) (v3 : Int32) (σ : Sg) (b : Nat × Nat), P_X7_read_L21 a0 v2 v3 σ b Q → XJ g 21 [(0, va_rf (some a0)), (2, va_rf v2), (3, .int v3)] [] σ b := by
    intro v2 v3 σ b h
    unfold P_X7_read_L21 at h
    obtain ⟨I21, ⟨n21, hI21⟩, hs21⟩ := h
    have key21 : ∀ (n : Nat), ∀ (v3 : Int32) (σ : Sg) (b : Nat × Nat), I21 n v3 σ b → XJ g 21 [(0, va_rf (some a0)), (2, va_rf v2), (3, .int v3)] [] σ b := by
      intro n
      induction n using Nat.strongRecOn with
      | _ n ih21 =>
      intro v3 σ b hI
      have h := hs21 n v3 σ b hI
      clear hI hI21 hs21
      obtain ⟨K21, hK21⟩ : ∃ K : Int32 → Sg → (Nat × Nat) → Prop, K = (fun v3 σ b => ∃ n', n' < n ∧ I21 n' v3 σ b) := ⟨_, rfl⟩
      rw [← hK21] at h
      unfold P_X7_read_L21b at h
      have J68 : ∀ (v3 : Int32) (σ : Sg) (b : Nat × Nat), P_X7_read_B68 a0 v2 v3 σ b Q K21 → XJ g 68 [(0, va_rf (some a0)), (2, va_rf v2), (3, .int v3)] [] σ b := by
        intro v3 σ b h
        unfold P_X7_read_B68 at h
        obtain ⟨x26, e27⟩ : ∃ y : Int32, y = v3 + 1 := ⟨_, rfl⟩
        replace h := h x26 e27
        refine x_iinc (v := x26) (lv' := [(3, .int x26), (0, va_rf (some a0)), (2, va_rf v2)]) hg 2 dX7_read_68 rfl (by rw [e27]; rfl) (by rw [hgN]; decide) (by cases v2 <;> rfl) ?_
        refine x_goto (tgt := 21) hg dX7_read_71 (by decide) ?_
        refine x_sub [1, 2, 0] rfl ?_
        subst hK21
        obtain ⟨n28, h29, h⟩ := h
        exact ih21 n28 h29 _ _ _ h
      refine x_iload_n hg 2 dX7_read_21 rfl rfl ?_
      refine x_bipush (v := 24) hg dX7_read_22 (by decide) ?_
      refine x_icmp_gt (tgt := 74) hg dX7_read_24 (by decide) (fun q13 => ?_) (fun q13 => ?_)
      · replace h := h.1 q13
        refine x_sub [0] rfl ?_
        exact J74 _ _ h
      · replace h := h.2 q13
        refine x_aload_n hg 0 dX7_read_27 rfl rfl ?_
        obtain ⟨h14, h⟩ := h
        refine x_getI hg fl_X7_22 rfl rfl h14 dX7_read_28 ?_
        refine x_iconst (v := (-1)) hg dX7_read_31 (by decide) ?_
        refine x_icmp_ne (tgt := 74) hg dX7_read_32 (by decide) (fun q15 => ?_) (fun q15 => ?_)
        · replace h := h.2 q15
          refine x_sub [0] rfl ?_
          exact J74 _ _ h
        · replace h := h.1 q15
          refine x_aload_n hg 0 dX7_read_35 rfl rfl ?_
          refine x_getI hg fl_X7_31 rfl rfl h14 dX7_read_36 ?_
          refine x_aload_n hg 0 dX7_read_39 rfl rfl ?_
          refine x_getI hg fl_X7_19 rfl rfl h14 dX7_read_40 ?_
          refine x_icmp_ge (tgt := 74) hg dX7_read_43 (by decide) (fun q16 => ?_) (fun q16 => ?_)
          · replace h := h.1 q16
            refine x_sub [0] rfl ?_
            exact J74 _ _ h
          · replace h := h.2 q16
            refine x_iload_n hg 2 dX7_read_46 rfl rfl ?_
            refine x_bipush (v := 24) hg dX7_read_47 (by decide) ?_
            refine x_icmp_ne (tgt := 63) hg dX7_read_49 (by decide) (fun q17 => ?_) (fun q17 => ?_)
            · replace h := h.2 q17
              refine x_aload_n hg 0 dX7_read_63 rfl rfl ?_
              refine x_aload_n hg 1 dX7_read_64 rfl rfl ?_
              obtain ⟨bc20, h21, h22, h⟩ := h
              refine xVVA (Qm := _) (rest := []) (As := [va_rf v2]) hg (k_X7_readStatement (gL g) (gD g) a0 v2 σ bc20 _ h) lv_X7_34 rfl h14 rfl rfl dX7_read_65 (cat8 (Nat.le_of_ble_eq_true rfl)) hrm ⟨Nat.le_of_ble_eq_true rfl, Nat.le_of_ble_eq_true rfl⟩ h21 h22 (fun u18 σ19 h => ?_)
              refine x_sub [0, 1, 2] rfl ?_
              exact J68 _ _ _ h
            · replace h := h.1 q17
              refine x_aload_n hg 0 dX7_read_52 rfl rfl ?_
              refine x_aload_n hg 0 dX7_read_53 rfl rfl ?_
              refine x_getI hg fl_X7_31 rfl rfl h14 dX7_read_54 ?_
              refine x_putI hg fw_X7_22 (fun z => nomatch z) rfl h14 dX7_read_57 ?_
              refine x_nmS (fun σ23 e24 => ?_)
              replace h := h σ23 e24
              have E25 : sK σ23 = sK σ := by rw [e24]; rfl
              refine x_goto (tgt := 68) hg dX7_read_60 (by decide) ?_
              refine x_sub [0, 1, 2] rfl ?_
              exact J68 _ _ _ h
    exact key21 n21 v3 σ b hI21
  refine x_aload_n hg 0 dX7_read_0 rfl rfl ?_
  refine x_iload_n hg 1 dX7_read_1 rfl rfl ?_
  obtain ⟨h1, h⟩ := h
  refine x_putI hg fw_X7_19 (fun z => nomatch z) rfl h1 dX7_read_2 ?_
  refine x_nmS (fun σ2 e3 => ?_)
  replace h := h σ2 e3
  have E4 : sK σ2 = sK σ := by rw [e3]; rfl
  refine x_aload_n hg 0 dX7_read_5 rfl rfl ?_
  refine x_iconst (v := (-1)) hg dX7_read_6 (by decide) ?_
  refine x_putI hg fw_X7_22 (fun z => nomatch z) rfl (kq E4 h1) dX7_read_7 ?_
  refine x_nmS (fun σ5 e6 => ?_)
  replace h := h σ5 e6
  have E7 : sK σ5 = sK σ2 := by rw [e6]; rfl
  refine x_aload_n hg 0 dX7_read_10 rfl rfl ?_
  refine x_iconst (v := 0) hg dX7_read_11 (by decide) ?_
  refine x_putI hg fw_X7_25 (fun z => nomatch z) rfl (kq E7 (kq E4 h1)) dX7_read_12 ?_
  refine x_nmS (fun σ8 e9 => ?_)
  replace h := h σ8 e9
  have E10 : sK σ8 = sK σ5 := by rw [e9]; rfl
  refine x_aload_n hg 0 dX7_read_15 rfl rfl ?_
  refine xVVW (Qm := _) (rest := []) (As := []) hg (k_X7_step (gL g) (gD g) a0 σ8 _ h) lv_X7_28 rfl (kq E10 (kq E7 (kq E4 h1))) rfl rfl dX7_read_16 (cat8 (Nat.le_of_ble_eq_true rfl)) hrm ⟨Nat.le_of_ble_eq_true rfl, Nat.le_of_ble_eq_true rfl⟩ (fun u11 σ12 h => ?_)
  refine x_iconst (v := 0) hg dX7_read_19 (by decide) ?_
  refine x_istore_n (lv' := [(3, .int 0), (0, va_rf (some a0)), (1, .int v1), (2, va_rf v2)]) hg dX7_read_20 rfl (by rw [hgN]; decide) (by cases v2 <;> rfl) ?_
  refine x_sub [1, 3, 0] rfl ?_
  exact J21 _ _ _ _ h
