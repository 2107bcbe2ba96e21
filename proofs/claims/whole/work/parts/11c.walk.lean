def P_X7_readLook (a0 : Nat) (v1 : Option Nat) (σ : Sg) (Q : Unit → Sg → Prop) : Prop :=
  sK σ a0 % 32 = 9 ∧ P_X7_number a0 0 3 σ (fun x2 σ3 => P_X7_need a0 3 σ3 (fun _ σ7 => P_X7_number a0 0 9999 σ7 (fun x10 σ11 => ∃ c14 : Nat, v1 = some c14 ∧ sK σ11 c14 % 32 = 6 ∧ P_X4_put c14 (13 + (2 * x2)) x10 σ11 (fun _ σ18 => P_X7_need a0 5 σ18 (fun _ σ23 => P_X7_number a0 0 9999 σ23 (fun x27 σ28 => P_X4_put c14 (14 + (2 * x2)) x27 σ28 (fun _ σ33 => Q () σ33)))))))
set_option maxHeartbeats 4000000 in
set_option maxRecDepth 100000 in
theorem k_X7_readLook (l : Launch) (D : Dg) (a0 : Nat) (v1 : Option Nat) (σ : Sg) (Q : Unit → Sg → Prop) (h : P_X7_readLook a0 v1 σ Q) : CtrY RN l D yX7_readLook cX7_readLook 3 (none) 6 128 mkV [.ref a0, va_rf v1] σ (0, 0) Q := by
  refine y_ctrN (lv := [(0, va_rf (some a0)), (1, va_rf v1)]) (by decide) (by cases v1 <;> (exact Nat.le_of_ble_eq_true rfl)) (by cases v1 <;> (exact rfl)) (fun g hg hgL hgD hrm hgN hgI hend => ?_)
  subst hgD
  clear hgL
  unfold P_X7_readLook at h
  refine y_aload_n hg 0 dX7_readLook_0 rfl rfl ?_
  refine y_iconst (v := 0) hg dX7_readLook_1 (by decide) ?_
  refine y_iconst (v := 3) hg dX7_readLook_2 (by decide) ?_
  obtain ⟨h1, h⟩ := h
  refine yVIW (Qm := _) (rest := []) (As := [.int 0, .int 3]) hg (k_X7_number (gL g.1) (gD g.1) a0 0 3 σ _ h) lv_X7_88 rfl h1 rfl rfl dX7_readLook_3 (cat8 (Nat.le_of_ble_eq_true rfl)) hrm ⟨Nat.le_of_ble_eq_true rfl, Nat.le_of_ble_eq_true rfl⟩ (fun x2 σ3 h h4 => ?_)
  have h5 := kp h4 (show ¬ 9 = 0 by decide) h1
  refine y_istore_n (lv' := [(2, .int x2), (0, va_rf (some a0)), (1, va_rf v1)]) hg dX7_readLook_6 rfl (by rw [hgN]; decide) (by cases v1 <;> rfl) ?_
  refine y_aload_n hg 1 dX7_readLook_7 rfl rfl ?_
  refine y_ldcS (i := 3) hg (by decide) rfl dX7_readLook_8 ?_
  refine yVVW (Qm := _) (rest := []) (As := [.ref (100 + 3)]) hg (k_X7_need (gL g.1) (gD g.1) a0 3 σ3 _ h) lv_X7_62 rfl h5 rfl rfl dX7_readLook_10 (cat8 (Nat.le_of_ble_eq_true rfl)) hrm ⟨Nat.le_of_ble_eq_true rfl, Nat.le_of_ble_eq_true rfl⟩ (fun u6 σ7 h h8 => ?_)
  have h9 := kp h8 (show ¬ 9 = 0 by decide) h5
  refine y_aload_n hg 2 dX7_readLook_13 rfl rfl ?_
  refine y_bipush (v := 13) hg dX7_readLook_14 (by decide) ?_
  refine y_iconst (v := 2) hg dX7_readLook_16 (by decide) ?_
  refine y_iload_n hg 0 dX7_readLook_17 rfl rfl ?_
  refine y_imul hg dX7_readLook_18 ?_
  refine y_iadd hg dX7_readLook_19 ?_
  refine y_aload_n hg 1 dX7_readLook_20 rfl rfl ?_
  refine y_iconst (v := 0) hg dX7_readLook_21 (by decide) ?_
  refine y_sipush (v := 9999) hg dX7_readLook_22 (by decide) ?_
  refine yVIW (Qm := _) (rest := [.int (13 + (2 * x2)), va_rf v1]) (As := [.int 0, .int 9999]) hg (k_X7_number (gL g.1) (gD g.1) a0 0 9999 σ7 _ h) lv_X7_88 rfl h9 rfl rfl dX7_readLook_25 (cat8 (Nat.le_of_ble_eq_true rfl)) hrm ⟨Nat.le_of_ble_eq_true rfl, Nat.le_of_ble_eq_true rfl⟩ (fun x10 σ11 h h12 => ?_)
  have h13 := kp h12 (show ¬ 9 = 0 by decide) h9
  obtain ⟨c14, h15, h⟩ := h
  obtain ⟨h16, h⟩ := h
  refine yVVW (Qm := _) (rest := []) (As := [.int (13 + (2 * x2)), .int x10]) hg (k_X4_put (gL g.1) (gD g.1) c14 (13 + (2 * x2)) x10 σ11 _ h) lv_X7_115 h15 h16 rfl rfl dX7_readLook_28 (cat8 (Nat.le_of_ble_eq_true rfl)) hrm ⟨Nat.le_of_ble_eq_true rfl, Nat.le_of_ble_eq_true rfl⟩ (fun u17 σ18 h h19 => ?_)
  have h20 := kp h19 (show ¬ 9 = 0 by decide) h13
  have h21 := kp h19 (show ¬ 6 = 0 by decide) h16
  refine y_aload_n hg 1 dX7_readLook_31 rfl rfl ?_
  refine y_ldcS (i := 5) hg (by decide) rfl dX7_readLook_32 ?_
  refine yVVW (Qm := _) (rest := []) (As := [.ref (100 + 5)]) hg (k_X7_need (gL g.1) (gD g.1) a0 5 σ18 _ h) lv_X7_62 rfl h20 rfl rfl dX7_readLook_34 (cat8 (Nat.le_of_ble_eq_true rfl)) hrm ⟨Nat.le_of_ble_eq_true rfl, Nat.le_of_ble_eq_true rfl⟩ (fun u22 σ23 h h24 => ?_)
  have h25 := kp h24 (show ¬ 9 = 0 by decide) h20
  have h26 := kp h24 (show ¬ 6 = 0 by decide) h21
  refine y_aload_n hg 2 dX7_readLook_37 rfl rfl ?_
  refine y_bipush (v := 14) hg dX7_readLook_38 (by decide) ?_
  refine y_iconst (v := 2) hg dX7_readLook_40 (by decide) ?_
  refine y_iload_n hg 0 dX7_readLook_41 rfl rfl ?_
  refine y_imul hg dX7_readLook_42 ?_
  refine y_iadd hg dX7_readLook_43 ?_
  refine y_aload_n hg 1 dX7_readLook_44 rfl rfl ?_
  refine y_iconst (v := 0) hg dX7_readLook_45 (by decide) ?_
  refine y_sipush (v := 9999) hg dX7_readLook_46 (by decide) ?_
  refine yVIW (Qm := _) (rest := [.int (14 + (2 * x2)), va_rf v1]) (As := [.int 0, .int 9999]) hg (k_X7_number (gL g.1) (gD g.1) a0 0 9999 σ23 _ h) lv_X7_88 rfl h25 rfl rfl dX7_readLook_49 (cat8 (Nat.le_of_ble_eq_true rfl)) hrm ⟨Nat.le_of_ble_eq_true rfl, Nat.le_of_ble_eq_true rfl⟩ (fun x27 σ28 h h29 => ?_)
  have h30 := kp h29 (show ¬ 9 = 0 by decide) h25
  have h31 := kp h29 (show ¬ 6 = 0 by decide) h26
  refine yVVW (Qm := _) (rest := []) (As := [.int (14 + (2 * x2)), .int x27]) hg (k_X4_put (gL g.1) (gD g.1) c14 (14 + (2 * x2)) x27 σ28 _ h) lv_X7_115 h15 h31 rfl rfl dX7_readLook_52 (cat8 (Nat.le_of_ble_eq_true rfl)) hrm ⟨Nat.le_of_ble_eq_true rfl, Nat.le_of_ble_eq_true rfl⟩ (fun u32 σ33 h h34 => ?_)
  have h35 := kp h34 (show ¬ 9 = 0 by decide) h30
  have h36 := kp h34 (show ¬ 6 = 0 by decide) h31
  exact yEndV hend dX7_readLook_55 h
def P_X7_readNumber (a0 : Nat) (v1 : Option Nat) (v2 : Int32) (σ : Sg) (Q : Unit → Sg → Prop) : Prop :=
  sK σ a0 % 32 = 9 ∧ P_X7_number a0 0 9999 σ (fun x2 σ3 => ∃ c6 : Nat, v1 = some c6 ∧ sK σ3 c6 % 32 = 6 ∧ P_X4_put c6 v2 x2 σ3 (fun _ σ10 => Q () σ10))
set_option maxHeartbeats 4000000 in
set_option maxRecDepth 100000 in
theorem k_X7_readNumber (l : Launch) (D : Dg) (a0 : Nat) (v1 : Option Nat) (v2 : Int32) (σ : Sg) (Q : Unit → Sg → Prop) (h : P_X7_readNumber a0 v1 v2 σ Q) : CtrY RN l D yX7_readNumber cX7_readNumber 3 (none) 3 75 mkV [.ref a0, va_rf v1, .int v2] σ (0, 0) Q := by
  refine y_ctrN (lv := [(0, va_rf (some a0)), (1, va_rf v1), (2, .int v2)]) (by decide) (by cases v1 <;> (exact Nat.le_of_ble_eq_true rfl)) (by cases v1 <;> (exact rfl)) (fun g hg hgL hgD hrm hgN hgI hend => ?_)
  subst hgD
  clear hgL
  unfold P_X7_readNumber at h
  refine y_aload_n hg 1 dX7_readNumber_0 rfl rfl ?_
  refine y_iload_n hg 2 dX7_readNumber_1 rfl rfl ?_
  refine y_aload_n hg 0 dX7_readNumber_2 rfl rfl ?_
  refine y_iconst (v := 0) hg dX7_readNumber_3 (by decide) ?_
  refine y_sipush (v := 9999) hg dX7_readNumber_4 (by decide) ?_
  obtain ⟨h1, h⟩ := h
  refine yVIW (Qm := _) (rest := [.int v2, va_rf v1]) (As := [.int 0, .int 9999]) hg (k_X7_number (gL g.1) (gD g.1) a0 0 9999 σ _ h) lv_X7_88 rfl h1 rfl rfl dX7_readNumber_7 (cat8 (Nat.le_of_ble_eq_true rfl)) hrm ⟨Nat.le_of_ble_eq_true rfl, Nat.le_of_ble_eq_true rfl⟩ (fun x2 σ3 h h4 => ?_)
  have h5 := kp h4 (show ¬ 9 = 0 by decide) h1
  obtain ⟨c6, h7, h⟩ := h
  obtain ⟨h8, h⟩ := h
  refine yVVW (Qm := _) (rest := []) (As := [.int v2, .int x2]) hg (k_X4_put (gL g.1) (gD g.1) c6 v2 x2 σ3 _ h) lv_X7_115 h7 h8 rfl rfl dX7_readNumber_10 (cat8 (Nat.le_of_ble_eq_true rfl)) hrm ⟨Nat.le_of_ble_eq_true rfl, Nat.le_of_ble_eq_true rfl⟩ (fun u9 σ10 h h11 => ?_)
  have h12 := kp h11 (show ¬ 9 = 0 by decide) h5
  have h13 := kp h11 (show ¬ 6 = 0 by decide) h8
  exact yEndV hend dX7_readNumber_13 h
def P_X7_readStatement_B259 (a0 : Nat) (σ : Sg) (b : Nat × Nat) (Q : Unit → Sg → Prop) : Prop :=
  sK σ a0 % 32 = 9 ∧ P_X7_need a0 18 σ (fun _ σ141 => Q () σ141)
def P_X7_readStatement (a0 : Nat) (v1 : Option Nat) (σ : Sg) (b : Nat × Nat) (Q : Unit → Sg → Prop) : Prop :=
  sK σ a0 % 32 = 9 ∧ P_X7_skips a0 0 σ (fun x2 σ3 => (x2 = 0 → P_X7_skips a0 4 σ3 (fun x7 σ8 => (x7 = 0 → P_X7_skips a0 6 σ8 (fun x12 σ13 => (x12 = 0 → P_X7_skips a0 7 σ13 (fun x17 σ18 => (x17 = 0 → P_X7_skips a0 8 σ18 (fun x22 σ23 => (x22 = 0 → P_X7_skips a0 9 σ23 (fun x27 σ28 => (x27 = 0 → P_X7_skips a0 10 σ28 (fun x32 σ33 => (x32 = 0 → P_X7_skips a0 11 σ33 (fun x37 σ38 => (x37 = 0 → P_X7_skips a0 12 σ38 (fun x42 σ43 => (x42 = 0 → P_X7_skips a0 15 σ43 (fun x47 σ48 => (x47 = 0 → P_X7_skips a0 17 σ48 (fun x52 σ53 => (x52 = 0 → ∀ σ57 : Sg, σ57 = pI σ53 a0 5 (sI σ53 a0 3) → P_X7_readStatement_B259 a0 σ57 (b.1, b.2) Q) ∧ (¬ (x52 = 0) → P_X7_readNumber a0 v1 12 σ53 (fun _ σ61 => P_X7_readStatement_B259 a0 σ61 (b.1, b.2) Q)))) ∧ (¬ (x47 = 0) → P_X7_readNumber a0 v1 10 σ48 (fun _ σ65 => P_X7_need a0 16 σ65 (fun _ σ69 => P_X7_readNumber a0 v1 11 σ69 (fun _ σ73 => P_X7_readStatement_B259 a0 σ73 (b.1, b.2) Q)))))) ∧ (¬ (x42 = 0) → P_X7_readNumber a0 v1 7 σ43 (fun _ σ77 => P_X7_need a0 13 σ77 (fun _ σ81 => P_X7_readNumber a0 v1 8 σ81 (fun _ σ85 => P_X7_need a0 14 σ85 (fun _ σ89 => P_X7_readNumber a0 v1 9 σ89 (fun _ σ93 => P_X7_readStatement_B259 a0 σ93 (b.1, b.2) Q)))))))) ∧ (¬ (x37 = 0) → P_X7_readNumber a0 v1 6 σ38 (fun _ σ97 => P_X7_readStatement_B259 a0 σ97 (b.1, b.2) Q)))) ∧ (¬ (x32 = 0) → P_X7_readNumber a0 v1 5 σ33 (fun _ σ101 => P_X7_readStatement_B259 a0 σ101 (b.1, b.2) Q)))) ∧ (¬ (x27 = 0) → P_X7_readNumber a0 v1 4 σ28 (fun _ σ105 => P_X7_readStatement_B259 a0 σ105 (b.1, b.2) Q)))) ∧ (¬ (x22 = 0) → P_X7_readNumber a0 v1 3 σ23 (fun _ σ109 => P_X7_readStatement_B259 a0 σ109 (b.1, b.2) Q)))) ∧ (¬ (x17 = 0) → P_X7_readNumber a0 v1 1 σ18 (fun _ σ113 => P_X7_need a0 5 σ113 (fun _ σ117 => P_X7_readNumber a0 v1 2 σ117 (fun _ σ121 => P_X7_readStatement_B259 a0 σ121 (b.1, b.2) Q)))))) ∧ (¬ (x12 = 0) → P_X7_readNumber a0 v1 0 σ13 (fun _ σ125 => P_X7_readStatement_B259 a0 σ125 (b.1, b.2) Q)))) ∧ (¬ (x7 = 0) → P_X7_readLook a0 v1 σ8 (fun _ σ129 => P_X7_readStatement_B259 a0 σ129 (b.1, b.2) Q)))) ∧ (¬ (x2 = 0) → ∃ bc134 : Nat × Nat, bc134.1 ≤ b.1 ∧ bc134.2 ≤ b.2 ∧ P_X7_readTurn a0 v1 σ3 bc134 (fun _ σ133 => P_X7_readStatement_B259 a0 σ133 (b.1 - bc134.1, b.2 - bc134.2) Q)))
set_option maxHeartbeats 4000000 in
set_option maxRecDepth 100000 in
theorem k_X7_readStatement (l : Launch) (D : Dg) (a0 : Nat) (v1 : Option Nat) (σ : Sg) (b : Nat × Nat) (Q : Unit → Sg → Prop) (h : P_X7_readStatement a0 v1 σ b Q) : CtrY RA l D yX7_readStatement cX7_readStatement 2 (none) 8 196 mkV [.ref a0, va_rf v1] σ b Q := by
  refine y_ctrA (lv := [(0, va_rf (some a0)), (1, va_rf v1)]) (by decide) (by cases v1 <;> (exact Nat.le_of_ble_eq_true rfl)) (by cases v1 <;> (exact rfl)) (fun g hg hgL hgD hrm hgN hgI hend hal => ?_)
  subst hgD
  clear hgL
  unfold P_X7_readStatement at h
  have J259 : ∀ (σ : Sg) (b : Nat × Nat), P_X7_readStatement_B259 a0 σ b Q → XA g 259 [(0, va_rf (some a0))] [] σ b := by
    intro σ b h
    unfold P_X7_readStatement_B259 at h
    refine y_aload_n hg 0 dX7_readStatement_259 rfl rfl ?_
    refine y_ldcS (i := 18) hg (by decide) rfl dX7_readStatement_260 ?_
    obtain ⟨h139, h⟩ := h
    refine yVVW (Qm := _) (rest := []) (As := [.ref (100 + 18)]) hg (k_X7_need (gL g.1) (gD g.1) a0 18 σ _ h) lv_X7_62 rfl h139 rfl rfl dX7_readStatement_262 (cat8 (Nat.le_of_ble_eq_true rfl)) hrm ⟨Nat.le_of_ble_eq_true rfl, Nat.le_of_ble_eq_true rfl⟩ (fun u140 σ141 h h142 => ?_)
    have h143 := kp h142 (show ¬ 9 = 0 by decide) h139
    exact yEndV hend dX7_readStatement_265 h
  refine y_aload_n hg 0 dX7_readStatement_0 rfl rfl ?_
  refine y_ldcS (i := 0) hg (by decide) rfl dX7_readStatement_1 ?_
  obtain ⟨h1, h⟩ := h
  refine yVIW (Qm := _) (rest := []) (As := [.ref (100 + 0)]) hg (k_X7_skips (gL g.1) (gD g.1) a0 0 σ _ h) lv_X7_40 rfl h1 rfl rfl dX7_readStatement_3 (cat8 (Nat.le_of_ble_eq_true rfl)) hrm ⟨Nat.le_of_ble_eq_true rfl, Nat.le_of_ble_eq_true rfl⟩ (fun x2 σ3 h h4 => ?_)
  have h5 := kp h4 (show ¬ 9 = 0 by decide) h1
  refine y_if_eq (tgt := 17) hg dX7_readStatement_6 (by decide) (fun q6 => ?_) (fun q6 => ?_)
  · replace h := h.1 q6
    refine y_aload_n hg 0 dX7_readStatement_17 rfl rfl ?_
    refine y_ldcS (i := 4) hg (by decide) rfl dX7_readStatement_18 ?_
    refine yVIW (Qm := _) (rest := []) (As := [.ref (100 + 4)]) hg (k_X7_skips (gL g.1) (gD g.1) a0 4 σ3 _ h) lv_X7_40 rfl h5 rfl rfl dX7_readStatement_20 (cat8 (Nat.le_of_ble_eq_true rfl)) hrm ⟨Nat.le_of_ble_eq_true rfl, Nat.le_of_ble_eq_true rfl⟩ (fun x7 σ8 h h9 => ?_)
    have h10 := kp h9 (show ¬ 9 = 0 by decide) h5
    refine y_if_eq (tgt := 34) hg dX7_readStatement_23 (by decide) (fun q11 => ?_) (fun q11 => ?_)
    · replace h := h.1 q11
      refine y_aload_n hg 0 dX7_readStatement_34 rfl rfl ?_
      refine y_ldcS (i := 6) hg (by decide) rfl dX7_readStatement_35 ?_
      refine yVIW (Qm := _) (rest := []) (As := [.ref (100 + 6)]) hg (k_X7_skips (gL g.1) (gD g.1) a0 6 σ8 _ h) lv_X7_40 rfl h10 rfl rfl dX7_readStatement_37 (cat8 (Nat.le_of_ble_eq_true rfl)) hrm ⟨Nat.le_of_ble_eq_true rfl, Nat.le_of_ble_eq_true rfl⟩ (fun x12 σ13 h h14 => ?_)
      have h15 := kp h14 (show ¬ 9 = 0 by decide) h10
      refine y_if_eq (tgt := 52) hg dX7_readStatement_40 (by decide) (fun q16 => ?_) (fun q16 => ?_)
      · replace h := h.1 q16
        refine y_aload_n hg 0 dX7_readStatement_52 rfl rfl ?_
        refine y_ldcS (i := 7) hg (by decide) rfl dX7_readStatement_53 ?_
        refine yVIW (Qm := _) (rest := []) (As := [.ref (100 + 7)]) hg (k_X7_skips (gL g.1) (gD g.1) a0 7 σ13 _ h) lv_X7_40 rfl h15 rfl rfl dX7_readStatement_55 (cat8 (Nat.le_of_ble_eq_true rfl)) hrm ⟨Nat.le_of_ble_eq_true rfl, Nat.le_of_ble_eq_true rfl⟩ (fun x17 σ18 h h19 => ?_)
        have h20 := kp h19 (show ¬ 9 = 0 by decide) h15
        refine y_if_eq (tgt := 82) hg dX7_readStatement_58 (by decide) (fun q21 => ?_) (fun q21 => ?_)
        · replace h := h.1 q21
          refine y_aload_n hg 0 dX7_readStatement_82 rfl rfl ?_
          refine y_ldcS (i := 8) hg (by decide) rfl dX7_readStatement_83 ?_
          refine yVIW (Qm := _) (rest := []) (As := [.ref (100 + 8)]) hg (k_X7_skips (gL g.1) (gD g.1) a0 8 σ18 _ h) lv_X7_40 rfl h20 rfl rfl dX7_readStatement_85 (cat8 (Nat.le_of_ble_eq_true rfl)) hrm ⟨Nat.le_of_ble_eq_true rfl, Nat.le_of_ble_eq_true rfl⟩ (fun x22 σ23 h h24 => ?_)
          have h25 := kp h24 (show ¬ 9 = 0 by decide) h20
          refine y_if_eq (tgt := 100) hg dX7_readStatement_88 (by decide) (fun q26 => ?_) (fun q26 => ?_)
          · replace h := h.1 q26
            refine y_aload_n hg 0 dX7_readStatement_100 rfl rfl ?_
            refine y_ldcS (i := 9) hg (by decide) rfl dX7_readStatement_101 ?_
            refine yVIW (Qm := _) (rest := []) (As := [.ref (100 + 9)]) hg (k_X7_skips (gL g.1) (gD g.1) a0 9 σ23 _ h) lv_X7_40 rfl h25 rfl rfl dX7_readStatement_103 (cat8 (Nat.le_of_ble_eq_true rfl)) hrm ⟨Nat.le_of_ble_eq_true rfl, Nat.le_of_ble_eq_true rfl⟩ (fun x27 σ28 h h29 => ?_)
            have h30 := kp h29 (show ¬ 9 = 0 by decide) h25
            refine y_if_eq (tgt := 118) hg dX7_readStatement_106 (by decide) (fun q31 => ?_) (fun q31 => ?_)
            · replace h := h.1 q31
              refine y_aload_n hg 0 dX7_readStatement_118 rfl rfl ?_
              refine y_ldcS (i := 10) hg (by decide) rfl dX7_readStatement_119 ?_
              refine yVIW (Qm := _) (rest := []) (As := [.ref (100 + 10)]) hg (k_X7_skips (gL g.1) (gD g.1) a0 10 σ28 _ h) lv_X7_40 rfl h30 rfl rfl dX7_readStatement_121 (cat8 (Nat.le_of_ble_eq_true rfl)) hrm ⟨Nat.le_of_ble_eq_true rfl, Nat.le_of_ble_eq_true rfl⟩ (fun x32 σ33 h h34 => ?_)
              have h35 := kp h34 (show ¬ 9 = 0 by decide) h30
              refine y_if_eq (tgt := 136) hg dX7_readStatement_124 (by decide) (fun q36 => ?_) (fun q36 => ?_)
              · replace h := h.1 q36
                refine y_aload_n hg 0 dX7_readStatement_136 rfl rfl ?_
                refine y_ldcS (i := 11) hg (by decide) rfl dX7_readStatement_137 ?_
                refine yVIW (Qm := _) (rest := []) (As := [.ref (100 + 11)]) hg (k_X7_skips (gL g.1) (gD g.1) a0 11 σ33 _ h) lv_X7_40 rfl h35 rfl rfl dX7_readStatement_139 (cat8 (Nat.le_of_ble_eq_true rfl)) hrm ⟨Nat.le_of_ble_eq_true rfl, Nat.le_of_ble_eq_true rfl⟩ (fun x37 σ38 h h39 => ?_)
                have h40 := kp h39 (show ¬ 9 = 0 by decide) h35
                refine y_if_eq (tgt := 155) hg dX7_readStatement_142 (by decide) (fun q41 => ?_) (fun q41 => ?_)
                · replace h := h.1 q41
                  refine y_aload_n hg 0 dX7_readStatement_155 rfl rfl ?_
                  refine y_ldcS (i := 12) hg (by decide) rfl dX7_readStatement_156 ?_
                  refine yVIW (Qm := _) (rest := []) (As := [.ref (100 + 12)]) hg (k_X7_skips (gL g.1) (gD g.1) a0 12 σ38 _ h) lv_X7_40 rfl h40 rfl rfl dX7_readStatement_158 (cat8 (Nat.le_of_ble_eq_true rfl)) hrm ⟨Nat.le_of_ble_eq_true rfl, Nat.le_of_ble_eq_true rfl⟩ (fun x42 σ43 h h44 => ?_)
                  have h45 := kp h44 (show ¬ 9 = 0 by decide) h40
                  refine y_if_eq (tgt := 200) hg dX7_readStatement_161 (by decide) (fun q46 => ?_) (fun q46 => ?_)
                  · replace h := h.1 q46
                    refine y_aload_n hg 0 dX7_readStatement_200 rfl rfl ?_
                    refine y_ldcS (i := 15) hg (by decide) rfl dX7_readStatement_201 ?_
                    refine yVIW (Qm := _) (rest := []) (As := [.ref (100 + 15)]) hg (k_X7_skips (gL g.1) (gD g.1) a0 15 σ43 _ h) lv_X7_40 rfl h45 rfl rfl dX7_readStatement_203 (cat8 (Nat.le_of_ble_eq_true rfl)) hrm ⟨Nat.le_of_ble_eq_true rfl, Nat.le_of_ble_eq_true rfl⟩ (fun x47 σ48 h h49 => ?_)
                    have h50 := kp h49 (show ¬ 9 = 0 by decide) h45
                    refine y_if_eq (tgt := 232) hg dX7_readStatement_206 (by decide) (fun q51 => ?_) (fun q51 => ?_)
                    · replace h := h.1 q51
                      refine y_aload_n hg 0 dX7_readStatement_232 rfl rfl ?_
                      refine y_ldcS (i := 17) hg (by decide) rfl dX7_readStatement_233 ?_
                      refine yVIW (Qm := _) (rest := []) (As := [.ref (100 + 17)]) hg (k_X7_skips (gL g.1) (gD g.1) a0 17 σ48 _ h) lv_X7_40 rfl h50 rfl rfl dX7_readStatement_235 (cat8 (Nat.le_of_ble_eq_true rfl)) hrm ⟨Nat.le_of_ble_eq_true rfl, Nat.le_of_ble_eq_true rfl⟩ (fun x52 σ53 h h54 => ?_)
                      have h55 := kp h54 (show ¬ 9 = 0 by decide) h50
                      refine y_if_eq (tgt := 251) hg dX7_readStatement_238 (by decide) (fun q56 => ?_) (fun q56 => ?_)
                      · replace h := h.1 q56
                        refine y_aload_n hg 0 dX7_readStatement_251 rfl rfl ?_
                        refine y_aload_n hg 0 dX7_readStatement_252 rfl rfl ?_
                        refine y_getI hg fl_X7_31 rfl rfl h55 dX7_readStatement_253 ?_
                        refine y_putI hg fw_X7_22 (fun z => nomatch z) rfl h55 dX7_readStatement_256 ?_
                        refine y_nmS (fun σ57 e58 => ?_)
                        replace h := h σ57 e58
                        have E59 : sK σ57 = sK σ53 := by rw [e58]; rfl
                        refine y_sub [0] rfl ?_
                        exact J259 _ _ h
                      · replace h := h.2 q56
                        refine y_aload_n hg 0 dX7_readStatement_241 rfl rfl ?_
                        refine y_aload_n hg 1 dX7_readStatement_242 rfl rfl ?_
                        refine y_bipush (v := 12) hg dX7_readStatement_243 (by decide) ?_
                        refine yVVW (Qm := _) (rest := []) (As := [va_rf v1, .int 12]) hg (k_X7_readNumber (gL g.1) (gD g.1) a0 v1 12 σ53 _ h) lv_X7_54 rfl h55 rfl rfl dX7_readStatement_245 (cat8 (Nat.le_of_ble_eq_true rfl)) hrm ⟨Nat.le_of_ble_eq_true rfl, Nat.le_of_ble_eq_true rfl⟩ (fun u60 σ61 h h62 => ?_)
                        have h63 := kp h62 (show ¬ 9 = 0 by decide) h55
                        refine y_goto (tgt := 259) hg dX7_readStatement_248 (by decide) ?_
                        refine y_sub [0] rfl ?_
                        exact J259 _ _ h
                    · replace h := h.2 q51
                      refine y_aload_n hg 0 dX7_readStatement_209 rfl rfl ?_
                      refine y_aload_n hg 1 dX7_readStatement_210 rfl rfl ?_
                      refine y_bipush (v := 10) hg dX7_readStatement_211 (by decide) ?_
                      refine yVVW (Qm := _) (rest := []) (As := [va_rf v1, .int 10]) hg (k_X7_readNumber (gL g.1) (gD g.1) a0 v1 10 σ48 _ h) lv_X7_54 rfl h50 rfl rfl dX7_readStatement_213 (cat8 (Nat.le_of_ble_eq_true rfl)) hrm ⟨Nat.le_of_ble_eq_true rfl, Nat.le_of_ble_eq_true rfl⟩ (fun u64 σ65 h h66 => ?_)
                      have h67 := kp h66 (show ¬ 9 = 0 by decide) h50
                      refine y_aload_n hg 0 dX7_readStatement_216 rfl rfl ?_
                      refine y_ldcS (i := 16) hg (by decide) rfl dX7_readStatement_217 ?_
                      refine yVVW (Qm := _) (rest := []) (As := [.ref (100 + 16)]) hg (k_X7_need (gL g.1) (gD g.1) a0 16 σ65 _ h) lv_X7_62 rfl h67 rfl rfl dX7_readStatement_219 (cat8 (Nat.le_of_ble_eq_true rfl)) hrm ⟨Nat.le_of_ble_eq_true rfl, Nat.le_of_ble_eq_true rfl⟩ (fun u68 σ69 h h70 => ?_)
                      have h71 := kp h70 (show ¬ 9 = 0 by decide) h67
                      refine y_aload_n hg 0 dX7_readStatement_222 rfl rfl ?_
                      refine y_aload_n hg 1 dX7_readStatement_223 rfl rfl ?_
                      refine y_bipush (v := 11) hg dX7_readStatement_224 (by decide) ?_
                      refine yVVW (Qm := _) (rest := []) (As := [va_rf v1, .int 11]) hg (k_X7_readNumber (gL g.1) (gD g.1) a0 v1 11 σ69 _ h) lv_X7_54 rfl h71 rfl rfl dX7_readStatement_226 (cat8 (Nat.le_of_ble_eq_true rfl)) hrm ⟨Nat.le_of_ble_eq_true rfl, Nat.le_of_ble_eq_true rfl⟩ (fun u72 σ73 h h74 => ?_)
                      have h75 := kp h74 (show ¬ 9 = 0 by decide) h71
                      refine y_goto (tgt := 259) hg dX7_readStatement_229 (by decide) ?_
                      refine y_sub [0] rfl ?_
                      exact J259 _ _ h
                  · replace h := h.2 q46
                    refine y_aload_n hg 0 dX7_readStatement_164 rfl rfl ?_
                    refine y_aload_n hg 1 dX7_readStatement_165 rfl rfl ?_
                    refine y_bipush (v := 7) hg dX7_readStatement_166 (by decide) ?_
                    refine yVVW (Qm := _) (rest := []) (As := [va_rf v1, .int 7]) hg (k_X7_readNumber (gL g.1) (gD g.1) a0 v1 7 σ43 _ h) lv_X7_54 rfl h45 rfl rfl dX7_readStatement_168 (cat8 (Nat.le_of_ble_eq_true rfl)) hrm ⟨Nat.le_of_ble_eq_true rfl, Nat.le_of_ble_eq_true rfl⟩ (fun u76 σ77 h h78 => ?_)
                    have h79 := kp h78 (show ¬ 9 = 0 by decide) h45
                    refine y_aload_n hg 0 dX7_readStatement_171 rfl rfl ?_
                    refine y_ldcS (i := 13) hg (by decide) rfl dX7_readStatement_172 ?_
                    refine yVVW (Qm := _) (rest := []) (As := [.ref (100 + 13)]) hg (k_X7_need (gL g.1) (gD g.1) a0 13 σ77 _ h) lv_X7_62 rfl h79 rfl rfl dX7_readStatement_174 (cat8 (Nat.le_of_ble_eq_true rfl)) hrm ⟨Nat.le_of_ble_eq_true rfl, Nat.le_of_ble_eq_true rfl⟩ (fun u80 σ81 h h82 => ?_)
                    have h83 := kp h82 (show ¬ 9 = 0 by decide) h79
                    refine y_aload_n hg 0 dX7_readStatement_177 rfl rfl ?_
                    refine y_aload_n hg 1 dX7_readStatement_178 rfl rfl ?_
                    refine y_bipush (v := 8) hg dX7_readStatement_179 (by decide) ?_
                    refine yVVW (Qm := _) (rest := []) (As := [va_rf v1, .int 8]) hg (k_X7_readNumber (gL g.1) (gD g.1) a0 v1 8 σ81 _ h) lv_X7_54 rfl h83 rfl rfl dX7_readStatement_181 (cat8 (Nat.le_of_ble_eq_true rfl)) hrm ⟨Nat.le_of_ble_eq_true rfl, Nat.le_of_ble_eq_true rfl⟩ (fun u84 σ85 h h86 => ?_)
                    have h87 := kp h86 (show ¬ 9 = 0 by decide) h83
                    refine y_aload_n hg 0 dX7_readStatement_184 rfl rfl ?_
                    refine y_ldcS (i := 14) hg (by decide) rfl dX7_readStatement_185 ?_
                    refine yVVW (Qm := _) (rest := []) (As := [.ref (100 + 14)]) hg (k_X7_need (gL g.1) (gD g.1) a0 14 σ85 _ h) lv_X7_62 rfl h87 rfl rfl dX7_readStatement_187 (cat8 (Nat.le_of_ble_eq_true rfl)) hrm ⟨Nat.le_of_ble_eq_true rfl, Nat.le_of_ble_eq_true rfl⟩ (fun u88 σ89 h h90 => ?_)
                    have h91 := kp h90 (show ¬ 9 = 0 by decide) h87
                    refine y_aload_n hg 0 dX7_readStatement_190 rfl rfl ?_
                    refine y_aload_n hg 1 dX7_readStatement_191 rfl rfl ?_
                    refine y_bipush (v := 9) hg dX7_readStatement_192 (by decide) ?_
                    refine yVVW (Qm := _) (rest := []) (As := [va_rf v1, .int 9]) hg (k_X7_readNumber (gL g.1) (gD g.1) a0 v1 9 σ89 _ h) lv_X7_54 rfl h91 rfl rfl dX7_readStatement_194 (cat8 (Nat.le_of_ble_eq_true rfl)) hrm ⟨Nat.le_of_ble_eq_true rfl, Nat.le_of_ble_eq_true rfl⟩ (fun u92 σ93 h h94 => ?_)
                    have h95 := kp h94 (show ¬ 9 = 0 by decide) h91
                    refine y_goto (tgt := 259) hg dX7_readStatement_197 (by decide) ?_
                    refine y_sub [0] rfl ?_
                    exact J259 _ _ h
                · replace h := h.2 q41
                  refine y_aload_n hg 0 dX7_readStatement_145 rfl rfl ?_
                  refine y_aload_n hg 1 dX7_readStatement_146 rfl rfl ?_
                  refine y_bipush (v := 6) hg dX7_readStatement_147 (by decide) ?_
                  refine yVVW (Qm := _) (rest := []) (As := [va_rf v1, .int 6]) hg (k_X7_readNumber (gL g.1) (gD g.1) a0 v1 6 σ38 _ h) lv_X7_54 rfl h40 rfl rfl dX7_readStatement_149 (cat8 (Nat.le_of_ble_eq_true rfl)) hrm ⟨Nat.le_of_ble_eq_true rfl, Nat.le_of_ble_eq_true rfl⟩ (fun u96 σ97 h h98 => ?_)
                  have h99 := kp h98 (show ¬ 9 = 0 by decide) h40
                  refine y_goto (tgt := 259) hg dX7_readStatement_152 (by decide) ?_
                  refine y_sub [0] rfl ?_
                  exact J259 _ _ h
              · replace h := h.2 q36
                refine y_aload_n hg 0 dX7_readStatement_127 rfl rfl ?_
                refine y_aload_n hg 1 dX7_readStatement_128 rfl rfl ?_
                refine y_iconst (v := 5) hg dX7_readStatement_129 (by decide) ?_
                refine yVVW (Qm := _) (rest := []) (As := [va_rf v1, .int 5]) hg (k_X7_readNumber (gL g.1) (gD g.1) a0 v1 5 σ33 _ h) lv_X7_54 rfl h35 rfl rfl dX7_readStatement_130 (cat8 (Nat.le_of_ble_eq_true rfl)) hrm ⟨Nat.le_of_ble_eq_true rfl, Nat.le_of_ble_eq_true rfl⟩ (fun u100 σ101 h h102 => ?_)
                have h103 := kp h102 (show ¬ 9 = 0 by decide) h35
                refine y_goto (tgt := 259) hg dX7_readStatement_133 (by decide) ?_
                refine y_sub [0] rfl ?_
                exact J259 _ _ h
            · replace h := h.2 q31
              refine y_aload_n hg 0 dX7_readStatement_109 rfl rfl ?_
              refine y_aload_n hg 1 dX7_readStatement_110 rfl rfl ?_
              refine y_iconst (v := 4) hg dX7_readStatement_111 (by decide) ?_
              refine yVVW (Qm := _) (rest := []) (As := [va_rf v1, .int 4]) hg (k_X7_readNumber (gL g.1) (gD g.1) a0 v1 4 σ28 _ h) lv_X7_54 rfl h30 rfl rfl dX7_readStatement_112 (cat8 (Nat.le_of_ble_eq_true rfl)) hrm ⟨Nat.le_of_ble_eq_true rfl, Nat.le_of_ble_eq_true rfl⟩ (fun u104 σ105 h h106 => ?_)
              have h107 := kp h106 (show ¬ 9 = 0 by decide) h30
              refine y_goto (tgt := 259) hg dX7_readStatement_115 (by decide) ?_
              refine y_sub [0] rfl ?_
              exact J259 _ _ h
          · replace h := h.2 q26
            refine y_aload_n hg 0 dX7_readStatement_91 rfl rfl ?_
            refine y_aload_n hg 1 dX7_readStatement_92 rfl rfl ?_
            refine y_iconst (v := 3) hg dX7_readStatement_93 (by decide) ?_
            refine yVVW (Qm := _) (rest := []) (As := [va_rf v1, .int 3]) hg (k_X7_readNumber (gL g.1) (gD g.1) a0 v1 3 σ23 _ h) lv_X7_54 rfl h25 rfl rfl dX7_readStatement_94 (cat8 (Nat.le_of_ble_eq_true rfl)) hrm ⟨Nat.le_of_ble_eq_true rfl, Nat.le_of_ble_eq_true rfl⟩ (fun u108 σ109 h h110 => ?_)
            have h111 := kp h110 (show ¬ 9 = 0 by decide) h25
            refine y_goto (tgt := 259) hg dX7_readStatement_97 (by decide) ?_
            refine y_sub [0] rfl ?_
            exact J259 _ _ h
        · replace h := h.2 q21
          refine y_aload_n hg 0 dX7_readStatement_61 rfl rfl ?_
          refine y_aload_n hg 1 dX7_readStatement_62 rfl rfl ?_
          refine y_iconst (v := 1) hg dX7_readStatement_63 (by decide) ?_
          refine yVVW (Qm := _) (rest := []) (As := [va_rf v1, .int 1]) hg (k_X7_readNumber (gL g.1) (gD g.1) a0 v1 1 σ18 _ h) lv_X7_54 rfl h20 rfl rfl dX7_readStatement_64 (cat8 (Nat.le_of_ble_eq_true rfl)) hrm ⟨Nat.le_of_ble_eq_true rfl, Nat.le_of_ble_eq_true rfl⟩ (fun u112 σ113 h h114 => ?_)
          have h115 := kp h114 (show ¬ 9 = 0 by decide) h20
          refine y_aload_n hg 0 dX7_readStatement_67 rfl rfl ?_
          refine y_ldcS (i := 5) hg (by decide) rfl dX7_readStatement_68 ?_
          refine yVVW (Qm := _) (rest := []) (As := [.ref (100 + 5)]) hg (k_X7_need (gL g.1) (gD g.1) a0 5 σ113 _ h) lv_X7_62 rfl h115 rfl rfl dX7_readStatement_70 (cat8 (Nat.le_of_ble_eq_true rfl)) hrm ⟨Nat.le_of_ble_eq_true rfl, Nat.le_of_ble_eq_true rfl⟩ (fun u116 σ117 h h118 => ?_)
          have h119 := kp h118 (show ¬ 9 = 0 by decide) h115
          refine y_aload_n hg 0 dX7_readStatement_73 rfl rfl ?_
          refine y_aload_n hg 1 dX7_readStatement_74 rfl rfl ?_
          refine y_iconst (v := 2) hg dX7_readStatement_75 (by decide) ?_
          refine yVVW (Qm := _) (rest := []) (As := [va_rf v1, .int 2]) hg (k_X7_readNumber (gL g.1) (gD g.1) a0 v1 2 σ117 _ h) lv_X7_54 rfl h119 rfl rfl dX7_readStatement_76 (cat8 (Nat.le_of_ble_eq_true rfl)) hrm ⟨Nat.le_of_ble_eq_true rfl, Nat.le_of_ble_eq_true rfl⟩ (fun u120 σ121 h h122 => ?_)
          have h123 := kp h122 (show ¬ 9 = 0 by decide) h119
          refine y_goto (tgt := 259) hg dX7_readStatement_79 (by decide) ?_
          refine y_sub [0] rfl ?_
          exact J259 _ _ h
      · replace h := h.2 q16
        refine y_aload_n hg 0 dX7_readStatement_43 rfl rfl ?_
        refine y_aload_n hg 1 dX7_readStatement_44 rfl rfl ?_
        refine y_iconst (v := 0) hg dX7_readStatement_45 (by decide) ?_
        refine yVVW (Qm := _) (rest := []) (As := [va_rf v1, .int 0]) hg (k_X7_readNumber (gL g.1) (gD g.1) a0 v1 0 σ13 _ h) lv_X7_54 rfl h15 rfl rfl dX7_readStatement_46 (cat8 (Nat.le_of_ble_eq_true rfl)) hrm ⟨Nat.le_of_ble_eq_true rfl, Nat.le_of_ble_eq_true rfl⟩ (fun u124 σ125 h h126 => ?_)
        have h127 := kp h126 (show ¬ 9 = 0 by decide) h15
        refine y_goto (tgt := 259) hg dX7_readStatement_49 (by decide) ?_
        refine y_sub [0] rfl ?_
        exact J259 _ _ h
    · replace h := h.2 q11
      refine y_aload_n hg 0 dX7_readStatement_26 rfl rfl ?_
      refine y_aload_n hg 1 dX7_readStatement_27 rfl rfl ?_
      refine yVVW (Qm := _) (rest := []) (As := [va_rf v1]) hg (k_X7_readLook (gL g.1) (gD g.1) a0 v1 σ8 _ h) lv_X7_49 rfl h10 rfl rfl dX7_readStatement_28 (cat8 (Nat.le_of_ble_eq_true rfl)) hrm ⟨Nat.le_of_ble_eq_true rfl, Nat.le_of_ble_eq_true rfl⟩ (fun u128 σ129 h h130 => ?_)
      have h131 := kp h130 (show ¬ 9 = 0 by decide) h10
      refine y_goto (tgt := 259) hg dX7_readStatement_31 (by decide) ?_
      refine y_sub [0] rfl ?_
      exact J259 _ _ h
  · replace h := h.2 q6
    refine y_aload_n hg 0 dX7_readStatement_9 rfl rfl ?_
    refine y_aload_n hg 1 dX7_readStatement_10 rfl rfl ?_
    obtain ⟨bc134, h135, h136, h⟩ := h
    refine y_sub [0] rfl ?_
    refine yVVA (Qm := _) (rest := []) (As := [va_rf v1]) hg hal (k_X7_readTurn (gL g.1) (gD g.1) a0 v1 σ3 bc134 _ h) lv_X7_44 rfl h5 rfl rfl dX7_readStatement_11 (cat8 (Nat.le_of_ble_eq_true rfl)) hrm ⟨Nat.le_of_ble_eq_true rfl, Nat.le_of_ble_eq_true rfl⟩ h135 h136 (rll_c (lk_k rfl h5 (by decide)) rll_nil) rl_nil (fun u132 σ133 h h137 => ?_)
    have h138 := kp h137 (show ¬ 9 = 0 by decide) h5
    refine y_goto (tgt := 259) hg dX7_readStatement_14 (by decide) ?_
    refine y_sub [0] rfl ?_
    exact J259 _ _ h
def P_X7_read_B74 (a0 : Nat) (σ : Sg) (b : Nat × Nat) (Q : Int32 → Sg → Prop) : Prop :=
  sK σ a0 % 32 = 9 ∧ ∀ σ36 : Sg, σ36 = pI σ a0 0 0 → Q (sI σ36 a0 5) σ36
def P_X7_read_B68 (a0 : Nat) (v2 : Option Nat) (v3 : Int32) (σ : Sg) (b : Nat × Nat) (Q : Int32 → Sg → Prop) (K21 : Int32 → Sg → (Nat × Nat) → Prop) : Prop :=
  ∀ x31 : Int32, x31 = v3 + 1 → K21 x31 σ (b.1, b.2)
def P_X7_read_L21b (a0 : Nat) (v2 : Option Nat) (v3 : Int32) (σ : Sg) (b : Nat × Nat) (Q : Int32 → Sg → Prop) (K21 : Int32 → Sg → (Nat × Nat) → Prop) : Prop :=
  (24 < v3 → P_X7_read_B74 a0 σ (b.1, b.2) Q) ∧ (¬ (24 < v3) → sK σ a0 % 32 = 9 ∧ ((sI σ a0 5) = (-1) → ((sI σ a0 2) ≤ (sI σ a0 3) → P_X7_read_B74 a0 σ (b.1, b.2) Q) ∧ (¬ ((sI σ a0 2) ≤ (sI σ a0 3)) → (v3 = 24 → ∀ σ28 : Sg, σ28 = pI σ a0 5 (sI σ a0 3) → P_X7_read_B68 a0 v2 v3 σ28 (b.1, b.2) Q K21) ∧ (¬ (v3 = 24) → ∃ bc22 : Nat × Nat, bc22.1 ≤ b.1 ∧ bc22.2 ≤ b.2 ∧ (∀ z, v2 = some z → ¬ sK σ z = 0) ∧ P_X7_readStatement a0 v2 σ bc22 (fun _ σ21 => P_X7_read_B68 a0 v2 v3 σ21 (b.1 - bc22.1, b.2 - bc22.2) Q K21)))) ∧ (¬ ((sI σ a0 5) = (-1)) → P_X7_read_B74 a0 σ (b.1, b.2) Q))
def P_X7_read_L21 (a0 : Nat) (v2 : Option Nat) (v3 : Int32) (σ : Sg) (b : Nat × Nat) (Q : Int32 → Sg → Prop) : Prop :=
  ∃ I : Nat → Int32 → Sg → (Nat × Nat) → Prop, (∃ n, I n v3 σ b) ∧ ∀ (n : Nat) (v3 : Int32) (σ : Sg) (b : Nat × Nat), I n v3 σ b → P_X7_read_L21b a0 v2 v3 σ b Q (fun v3 σ b => ∃ n', n' < n ∧ I n' v3 σ b)
def P_X7_read (a0 : Nat) (v1 : Int32) (v2 : Option Nat) (σ : Sg) (b : Nat × Nat) (Q : Int32 → Sg → Prop) : Prop :=
  sK σ a0 % 32 = 9 ∧ ∀ σ2 : Sg, σ2 = pI σ a0 2 v1 → ∀ σ5 : Sg, σ5 = pI σ2 a0 5 (-1) → ∀ σ8 : Sg, σ8 = pI σ5 a0 4 0 → P_X7_step a0 σ8 (fun _ σ12 => P_X7_read_L21 a0 v2 0 σ12 (b.1, b.2) Q)
set_option maxHeartbeats 4000000 in
set_option maxRecDepth 100000 in
theorem k_X7_read (l : Launch) (D : Dg) (a0 : Nat) (v1 : Int32) (v2 : Option Nat) (σ : Sg) (b : Nat × Nat) (Q : Int32 → Sg → Prop) (h : P_X7_read a0 v1 v2 σ b Q) : CtrY RA l D yX7_read cX7_read 4 (some FieldType.int) 9 217 mkI [.ref a0, .int v1, va_rf v2] σ b Q := by
  refine y_ctrA (lv := [(0, va_rf (some a0)), (1, .int v1), (2, va_rf v2)]) (by decide) (by cases v2 <;> (exact Nat.le_of_ble_eq_true rfl)) (by cases v2 <;> (exact rfl)) (fun g hg hgL hgD hrm hgN hgI hend hal => ?_)
  subst hgD
  clear hgL
  unfold P_X7_read at h
  have J74 : ∀ (σ : Sg) (b : Nat × Nat), P_X7_read_B74 a0 σ b Q → XA g 74 [(0, va_rf (some a0))] [] σ b := by
    intro σ b h
    unfold P_X7_read_B74 at h
    refine y_aload_n hg 0 dX7_read_74 rfl rfl ?_
    refine y_iconst (v := 0) hg dX7_read_75 (by decide) ?_
    obtain ⟨h35, h⟩ := h
    refine y_putI hg fw_X7_15 (fun z => nomatch z) rfl h35 dX7_read_76 ?_
    refine y_nmS (fun σ36 e37 => ?_)
    replace h := h σ36 e37
    have E38 : sK σ36 = sK σ := by rw [e37]; rfl
    refine y_aload_n hg 0 dX7_read_79 rfl rfl ?_
    refine y_getI hg fl_X7_22 rfl rfl (kq E38 h35) dX7_read_80 ?_
    exact yEndI hend rfl dX7_read_83 h
  have J21 : ∀ (v2 : Option Nat) (v3 : Int32) (σ : Sg) (b : Nat × Nat), P_X7_read_L21 a0 v2 v3 σ b Q → XA g 21 [(0, va_rf (some a0)), (2, va_rf v2), (3, .int v3)] [] σ b := by
    intro v2 v3 σ b h
    unfold P_X7_read_L21 at h
    obtain ⟨I21, ⟨n21, hI21⟩, hs21⟩ := h
    have key21 : ∀ (n : Nat), ∀ (v3 : Int32) (σ : Sg) (b : Nat × Nat), I21 n v3 σ b → XA g 21 [(0, va_rf (some a0)), (2, va_rf v2), (3, .int v3)] [] σ b := by
      intro n
      induction n using Nat.strongRecOn with
      | _ n ih21 =>
      intro v3 σ b hI
      have h := hs21 n v3 σ b hI
      clear hI hI21 hs21
      obtain ⟨K21, hK21⟩ : ∃ K : Int32 → Sg → (Nat × Nat) → Prop, K = (fun v3 σ b => ∃ n', n' < n ∧ I21 n' v3 σ b) := ⟨_, rfl⟩
      rw [← hK21] at h
      unfold P_X7_read_L21b at h
      have J68 : ∀ (v3 : Int32) (σ : Sg) (b : Nat × Nat), P_X7_read_B68 a0 v2 v3 σ b Q K21 → XA g 68 [(0, va_rf (some a0)), (2, va_rf v2), (3, .int v3)] [] σ b := by
        intro v3 σ b h
        unfold P_X7_read_B68 at h
        obtain ⟨x31, e32⟩ : ∃ y : Int32, y = v3 + 1 := ⟨_, rfl⟩
        replace h := h x31 e32
        refine y_iinc (v := x31) (lv' := [(3, .int x31), (0, va_rf (some a0)), (2, va_rf v2)]) hg 2 dX7_read_68 rfl (by rw [e32]; rfl) (by rw [hgN]; decide) (by cases v2 <;> rfl) ?_
        refine y_goto (tgt := 21) hg dX7_read_71 (by decide) ?_
        refine y_sub [1, 2, 0] rfl ?_
        subst hK21
        obtain ⟨n33, h34, h⟩ := h
        exact ih21 n33 h34 _ _ _ h
      refine y_iload_n hg 2 dX7_read_21 rfl rfl ?_
      refine y_bipush (v := 24) hg dX7_read_22 (by decide) ?_
      refine y_icmp_gt (tgt := 74) hg dX7_read_24 (by decide) (fun q15 => ?_) (fun q15 => ?_)
      · replace h := h.1 q15
        refine y_sub [0] rfl ?_
        exact J74 _ _ h
      · replace h := h.2 q15
        refine y_aload_n hg 0 dX7_read_27 rfl rfl ?_
        obtain ⟨h16, h⟩ := h
        refine y_getI hg fl_X7_22 rfl rfl h16 dX7_read_28 ?_
        refine y_iconst (v := (-1)) hg dX7_read_31 (by decide) ?_
        refine y_icmp_ne (tgt := 74) hg dX7_read_32 (by decide) (fun q17 => ?_) (fun q17 => ?_)
        · replace h := h.2 q17
          refine y_sub [0] rfl ?_
          exact J74 _ _ h
        · replace h := h.1 q17
          refine y_aload_n hg 0 dX7_read_35 rfl rfl ?_
          refine y_getI hg fl_X7_31 rfl rfl h16 dX7_read_36 ?_
          refine y_aload_n hg 0 dX7_read_39 rfl rfl ?_
          refine y_getI hg fl_X7_19 rfl rfl h16 dX7_read_40 ?_
          refine y_icmp_ge (tgt := 74) hg dX7_read_43 (by decide) (fun q18 => ?_) (fun q18 => ?_)
          · replace h := h.1 q18
            refine y_sub [0] rfl ?_
            exact J74 _ _ h
          · replace h := h.2 q18
            refine y_iload_n hg 2 dX7_read_46 rfl rfl ?_
            refine y_bipush (v := 24) hg dX7_read_47 (by decide) ?_
            refine y_icmp_ne (tgt := 63) hg dX7_read_49 (by decide) (fun q19 => ?_) (fun q19 => ?_)
            · replace h := h.2 q19
              refine y_aload_n hg 0 dX7_read_63 rfl rfl ?_
              refine y_aload_n hg 1 dX7_read_64 rfl rfl ?_
              obtain ⟨bc22, h23, h24, h⟩ := h
              obtain ⟨h25, h⟩ := h
              refine yVVA (Qm := _) (rest := []) (As := [va_rf v2]) hg hal (k_X7_readStatement (gL g.1) (gD g.1) a0 v2 σ bc22 _ h) lv_X7_34 rfl h16 rfl rfl dX7_read_65 (cat8 (Nat.le_of_ble_eq_true rfl)) hrm ⟨Nat.le_of_ble_eq_true rfl, Nat.le_of_ble_eq_true rfl⟩ h23 h24 (rll_c (lk_k rfl h16 (by decide)) (rll_c (lk_r h25) (rll_c (lk_i _) rll_nil))) rl_nil (fun u20 σ21 h h26 => ?_)
              have h27 := kp h26 (show ¬ 9 = 0 by decide) h16
              refine y_sub [0, 1, 2] rfl ?_
              exact J68 _ _ _ h
            · replace h := h.1 q19
              refine y_aload_n hg 0 dX7_read_52 rfl rfl ?_
              refine y_aload_n hg 0 dX7_read_53 rfl rfl ?_
              refine y_getI hg fl_X7_31 rfl rfl h16 dX7_read_54 ?_
              refine y_putI hg fw_X7_22 (fun z => nomatch z) rfl h16 dX7_read_57 ?_
              refine y_nmS (fun σ28 e29 => ?_)
              replace h := h σ28 e29
              have E30 : sK σ28 = sK σ := by rw [e29]; rfl
              refine y_goto (tgt := 68) hg dX7_read_60 (by decide) ?_
              refine y_sub [0, 1, 2] rfl ?_
              exact J68 _ _ _ h
    exact key21 n21 v3 σ b hI21
  refine y_aload_n hg 0 dX7_read_0 rfl rfl ?_
  refine y_iload_n hg 1 dX7_read_1 rfl rfl ?_
  obtain ⟨h1, h⟩ := h
  refine y_putI hg fw_X7_19 (fun z => nomatch z) rfl h1 dX7_read_2 ?_
  refine y_nmS (fun σ2 e3 => ?_)
  replace h := h σ2 e3
  have E4 : sK σ2 = sK σ := by rw [e3]; rfl
  refine y_aload_n hg 0 dX7_read_5 rfl rfl ?_
  refine y_iconst (v := (-1)) hg dX7_read_6 (by decide) ?_
  refine y_putI hg fw_X7_22 (fun z => nomatch z) rfl (kq E4 h1) dX7_read_7 ?_
  refine y_nmS (fun σ5 e6 => ?_)
  replace h := h σ5 e6
  have E7 : sK σ5 = sK σ2 := by rw [e6]; rfl
  refine y_aload_n hg 0 dX7_read_10 rfl rfl ?_
  refine y_iconst (v := 0) hg dX7_read_11 (by decide) ?_
  refine y_putI hg fw_X7_25 (fun z => nomatch z) rfl (kq E7 (kq E4 h1)) dX7_read_12 ?_
  refine y_nmS (fun σ8 e9 => ?_)
  replace h := h σ8 e9
  have E10 : sK σ8 = sK σ5 := by rw [e9]; rfl
  refine y_aload_n hg 0 dX7_read_15 rfl rfl ?_
  refine yVVW (Qm := _) (rest := []) (As := []) hg (k_X7_step (gL g.1) (gD g.1) a0 σ8 _ h) lv_X7_28 rfl (kq E10 (kq E7 (kq E4 h1))) rfl rfl dX7_read_16 (cat8 (Nat.le_of_ble_eq_true rfl)) hrm ⟨Nat.le_of_ble_eq_true rfl, Nat.le_of_ble_eq_true rfl⟩ (fun u11 σ12 h h13 => ?_)
  have h14 := kp h13 (show ¬ 9 = 0 by decide) (kq E10 (kq E7 (kq E4 h1)))
  refine y_iconst (v := 0) hg dX7_read_19 (by decide) ?_
  refine y_istore_n (lv' := [(3, .int 0), (0, va_rf (some a0)), (1, .int v1), (2, va_rf v2)]) hg dX7_read_20 rfl (by rw [hgN]; decide) (by cases v2 <;> rfl) ?_
  refine y_sub [1, 3, 0] rfl ?_
  exact J21 _ _ _ _ h
