def P_X11_takesNumber_B81 (a0 : Nat) (v1 : Int32) (v2 : Int32) (v3 : Int32) (σ : Sg) (Q : Int32 → Sg → Prop) : Prop :=
  sK σ a0 % 32 = 13 ∧ (v3 = (sI σ a0 79) → Q 0 σ) ∧ (¬ (v3 = (sI σ a0 79)) → (4 < (v3 - (sI σ a0 79)) → Q 0 σ) ∧ (¬ (4 < (v3 - (sI σ a0 79))) → P_X11_isIn (sI σ a0 81) v1 v2 σ (fun x38 => (x38 = 0 → Q 0 σ) ∧ (¬ (x38 = 0) → ∀ σ40 : Sg, σ40 = pI σ a0 79 v3 → Q 1 σ40))))
def P_X11_takesNumber_B75 (a0 : Nat) (v1 : Int32) (v2 : Int32) (v3 : Int32) (σ : Sg) (Q : Int32 → Sg → Prop) (K14 : Int32 → Sg → Prop) : Prop :=
  ∀ x31 : Int32, x31 = v3 + 1 → K14 x31 σ
def P_X11_takesNumber_L14b (a0 : Nat) (v1 : Int32) (v2 : Int32) (v3 : Int32) (σ : Sg) (Q : Int32 → Sg → Prop) (K14 : Int32 → Sg → Prop) : Prop :=
  sK σ a0 % 32 = 13 ∧ ((sI σ a0 78) ≤ v3 → P_X11_takesNumber_B81 a0 v1 v2 v3 σ Q) ∧ (¬ ((sI σ a0 78) ≤ v3) → ∃ c13 : Nat, sR σ a0 76 = some c13 ∧ sK σ c13 % 32 = 19 ∧ vp_in v3 (sN σ c13) ∧ ((sI σ c13 v3.toNatClampNeg) < 48 → P_X11_takesNumber_B81 a0 v1 v2 v3 σ Q) ∧ (¬ ((sI σ c13 v3.toNatClampNeg) < 48) → ∃ c18 : Nat, sR σ a0 76 = some c18 ∧ sK σ c18 % 32 = 19 ∧ vp_in v3 (sN σ c18) ∧ (57 < (sI σ c18 v3.toNatClampNeg) → P_X11_takesNumber_B81 a0 v1 v2 v3 σ Q) ∧ (¬ (57 < (sI σ c18 v3.toNatClampNeg)) → (4 ≤ (v3 - (sI σ a0 79)) → P_X11_takesNumber_B75 a0 v1 v2 v3 σ Q K14) ∧ (¬ (4 ≤ (v3 - (sI σ a0 79))) → ∃ c24 : Nat, sR σ a0 76 = some c24 ∧ sK σ c24 % 32 = 19 ∧ vp_in v3 (sN σ c24) ∧ ∀ σ28 : Sg, σ28 = pI σ a0 81 (((10 * (sI σ a0 81)) + (sI σ c24 v3.toNatClampNeg)) - 48) → P_X11_takesNumber_B75 a0 v1 v2 v3 σ28 Q K14))))
def P_X11_takesNumber_L14 (a0 : Nat) (v1 : Int32) (v2 : Int32) (v3 : Int32) (σ : Sg) (Q : Int32 → Sg → Prop) : Prop :=
  ∃ I : Nat → Int32 → Sg → Prop, (∃ n, I n v3 σ) ∧ ∀ (n : Nat) (v3 : Int32) (σ : Sg), I n v3 σ → P_X11_takesNumber_L14b a0 v1 v2 v3 σ Q (fun v3 σ => ∃ n', n' < n ∧ I n' v3 σ)
def P_X11_takesNumber (a0 : Nat) (v1 : Int32) (v2 : Int32) (σ : Sg) (Q : Int32 → Sg → Prop) : Prop :=
  sK σ a0 % 32 = 13 ∧ P_X11_blanks a0 σ (fun _ σ3 => ∀ x6 : Int32, x6 = sI σ3 a0 79 → ∀ σ8 : Sg, σ8 = pI σ3 a0 81 0 → P_X11_takesNumber_L14 a0 v1 v2 x6 σ8 Q)
set_option maxHeartbeats 4000000 in
set_option maxRecDepth 100000 in
theorem k_X11_takesNumber (l : Launch) (D : Dg) (a0 : Nat) (v1 : Int32) (v2 : Int32) (σ : Sg) (Q : Int32 → Sg → Prop) (h : P_X11_takesNumber a0 v1 v2 σ Q) : CtrY RN l D yX11_takesNumber cX11_takesNumber 4 (some FieldType.boolean) 1 22 mkI [.ref a0, .int v1, .int v2] σ (0, 0) Q := by
  refine y_ctrN (lv := [(0, va_rf (some a0)), (1, .int v1), (2, .int v2)]) (by decide) (by (exact Nat.le_of_ble_eq_true rfl)) (by (exact rfl)) (fun g hg hgL hgD hrm hgN hgI hend => ?_)
  subst hgD
  clear hgL
  unfold P_X11_takesNumber at h
  have J81 : ∀ (v1 : Int32) (v2 : Int32) (v3 : Int32) (σ : Sg), P_X11_takesNumber_B81 a0 v1 v2 v3 σ Q → XA g 81 [(0, va_rf (some a0)), (1, .int v1), (2, .int v2), (3, .int v3)] [] σ (0, 0) := by
    intro v1 v2 v3 σ h
    unfold P_X11_takesNumber_B81 at h
    refine y_iload_n hg 3 dX11_takesNumber_81 rfl rfl ?_
    refine y_aload_n hg 0 dX11_takesNumber_82 rfl rfl ?_
    obtain ⟨h35, h⟩ := h
    refine y_getI hg fl_X11_347 rfl rfl h35 dX11_takesNumber_83 ?_
    refine y_icmp_eq (tgt := 111) hg dX11_takesNumber_86 (by decide) (fun q36 => ?_) (fun q36 => ?_)
    · replace h := h.1 q36
      refine y_iconst (v := 0) hg dX11_takesNumber_111 (by decide) ?_
      exact yEndI hend (bz_nar (Or.inl rfl)).1 dX11_takesNumber_112 h
    · replace h := h.2 q36
      refine y_iload_n hg 3 dX11_takesNumber_89 rfl rfl ?_
      refine y_aload_n hg 0 dX11_takesNumber_90 rfl rfl ?_
      refine y_getI hg fl_X11_347 rfl rfl h35 dX11_takesNumber_91 ?_
      refine y_isub hg dX11_takesNumber_94 ?_
      refine y_iconst (v := 4) hg dX11_takesNumber_95 (by decide) ?_
      refine y_icmp_gt (tgt := 111) hg dX11_takesNumber_96 (by decide) (fun q37 => ?_) (fun q37 => ?_)
      · replace h := h.1 q37
        refine y_iconst (v := 0) hg dX11_takesNumber_111 (by decide) ?_
        exact yEndI hend (bz_nar (Or.inl rfl)).1 dX11_takesNumber_112 h
      · replace h := h.2 q37
        refine y_aload_n hg 0 dX11_takesNumber_99 rfl rfl ?_
        refine y_getI hg fl_X11_356 rfl rfl h35 dX11_takesNumber_100 ?_
        refine y_iload_n hg 1 dX11_takesNumber_103 rfl rfl ?_
        refine y_iload_n hg 2 dX11_takesNumber_104 rfl rfl ?_
        refine ySIP (Qp := _) (rest := []) (As := [.int (sI σ a0 81), .int v1, .int v2]) hg (k_X11_isIn (gL g.1) (gD g.1) (sI σ a0 81) v1 v2 σ _ h) ls_X11_194 rfl rfl dX11_takesNumber_105 (cat8 (Nat.le_of_ble_eq_true rfl)) hrm ⟨Nat.le_of_ble_eq_true rfl, Nat.le_of_ble_eq_true rfl⟩ (fun x38 h => ?_)
        refine y_if_ne (tgt := 113) hg dX11_takesNumber_108 (by decide) (fun q39 => ?_) (fun q39 => ?_)
        · replace h := h.2 q39
          refine y_aload_n hg 0 dX11_takesNumber_113 rfl rfl ?_
          refine y_iload_n hg 3 dX11_takesNumber_114 rfl rfl ?_
          refine y_putI hg fw_X11_347 (fun z => nomatch z) rfl h35 dX11_takesNumber_115 ?_
          refine y_nmS (fun σ40 e41 => ?_)
          replace h := h σ40 e41
          have E42 : sK σ40 = sK σ := by rw [e41]; rfl
          refine y_iconst (v := 1) hg dX11_takesNumber_118 (by decide) ?_
          exact yEndI hend (bz_nar (Or.inr rfl)).1 dX11_takesNumber_119 h
        · replace h := h.1 q39
          refine y_iconst (v := 0) hg dX11_takesNumber_111 (by decide) ?_
          exact yEndI hend (bz_nar (Or.inl rfl)).1 dX11_takesNumber_112 h
  have J14 : ∀ (v1 : Int32) (v2 : Int32) (v3 : Int32) (σ : Sg), P_X11_takesNumber_L14 a0 v1 v2 v3 σ Q → XA g 14 [(0, va_rf (some a0)), (1, .int v1), (2, .int v2), (3, .int v3)] [] σ (0, 0) := by
    intro v1 v2 v3 σ h
    unfold P_X11_takesNumber_L14 at h
    obtain ⟨I14, ⟨n14, hI14⟩, hs14⟩ := h
    have key14 : ∀ (n : Nat), ∀ (v3 : Int32) (σ : Sg), I14 n v3 σ → XA g 14 [(0, va_rf (some a0)), (1, .int v1), (2, .int v2), (3, .int v3)] [] σ (0, 0) := by
      intro n
      induction n using Nat.strongRecOn with
      | _ n ih14 =>
      intro v3 σ hI
      have h := hs14 n v3 σ hI
      clear hI hI14 hs14
      obtain ⟨K14, hK14⟩ : ∃ K : Int32 → Sg → Prop, K = (fun v3 σ => ∃ n', n' < n ∧ I14 n' v3 σ) := ⟨_, rfl⟩
      rw [← hK14] at h
      unfold P_X11_takesNumber_L14b at h
      have J75 : ∀ (v3 : Int32) (σ : Sg), P_X11_takesNumber_B75 a0 v1 v2 v3 σ Q K14 → XA g 75 [(0, va_rf (some a0)), (1, .int v1), (2, .int v2), (3, .int v3)] [] σ (0, 0) := by
        intro v3 σ h
        unfold P_X11_takesNumber_B75 at h
        obtain ⟨x31, e32⟩ : ∃ y : Int32, y = v3 + 1 := ⟨_, rfl⟩
        replace h := h x31 e32
        refine y_iinc (v := x31) (lv' := [(3, .int x31), (0, va_rf (some a0)), (1, .int v1), (2, .int v2)]) hg 3 dX11_takesNumber_75 rfl (by rw [e32]; rfl) (by rw [hgN]; decide) rfl ?_
        refine y_goto (tgt := 14) hg dX11_takesNumber_78 (by decide) ?_
        refine y_sub [1, 2, 3, 0] rfl ?_
        subst hK14
        obtain ⟨n33, h34, h⟩ := h
        exact ih14 n33 h34 _ _ h
      refine y_iload_n hg 3 dX11_takesNumber_14 rfl rfl ?_
      refine y_aload_n hg 0 dX11_takesNumber_15 rfl rfl ?_
      obtain ⟨h11, h⟩ := h
      refine y_getI hg fl_X11_350 rfl rfl h11 dX11_takesNumber_16 ?_
      refine y_icmp_ge (tgt := 81) hg dX11_takesNumber_19 (by decide) (fun q12 => ?_) (fun q12 => ?_)
      · replace h := h.1 q12
        refine y_sub [0, 1, 2, 3] rfl ?_
        exact J81 _ _ _ _ h
      · replace h := h.2 q12
        refine y_aload_n hg 0 dX11_takesNumber_22 rfl rfl ?_
        refine y_getR hg fl_X11_184 rfl rfl h11 dX11_takesNumber_23 ?_
        refine y_iload_n hg 3 dX11_takesNumber_26 rfl rfl ?_
        obtain ⟨c13, h14, h⟩ := h
        obtain ⟨h15, h⟩ := h
        obtain ⟨h16, h⟩ := h
        refine y_bald hg h14 h15 h16 dX11_takesNumber_27 ?_
        refine y_bipush (v := 48) hg dX11_takesNumber_28 (by decide) ?_
        refine y_icmp_lt (tgt := 81) hg dX11_takesNumber_30 (by decide) (fun q17 => ?_) (fun q17 => ?_)
        · replace h := h.1 q17
          refine y_sub [0, 1, 2, 3] rfl ?_
          exact J81 _ _ _ _ h
        · replace h := h.2 q17
          refine y_aload_n hg 0 dX11_takesNumber_33 rfl rfl ?_
          refine y_getR hg fl_X11_184 rfl rfl h11 dX11_takesNumber_34 ?_
          refine y_iload_n hg 3 dX11_takesNumber_37 rfl rfl ?_
          obtain ⟨c18, h19, h⟩ := h
          obtain ⟨h20, h⟩ := h
          obtain ⟨h21, h⟩ := h
          refine y_bald hg h19 h20 h21 dX11_takesNumber_38 ?_
          refine y_bipush (v := 57) hg dX11_takesNumber_39 (by decide) ?_
          refine y_icmp_gt (tgt := 81) hg dX11_takesNumber_41 (by decide) (fun q22 => ?_) (fun q22 => ?_)
          · replace h := h.1 q22
            refine y_sub [0, 1, 2, 3] rfl ?_
            exact J81 _ _ _ _ h
          · replace h := h.2 q22
            refine y_iload_n hg 3 dX11_takesNumber_44 rfl rfl ?_
            refine y_aload_n hg 0 dX11_takesNumber_45 rfl rfl ?_
            refine y_getI hg fl_X11_347 rfl rfl h11 dX11_takesNumber_46 ?_
            refine y_isub hg dX11_takesNumber_49 ?_
            refine y_iconst (v := 4) hg dX11_takesNumber_50 (by decide) ?_
            refine y_icmp_ge (tgt := 75) hg dX11_takesNumber_51 (by decide) (fun q23 => ?_) (fun q23 => ?_)
            · replace h := h.1 q23
              refine y_sub [0, 1, 2, 3] rfl ?_
              exact J75 _ _ h
            · replace h := h.2 q23
              refine y_aload_n hg 0 dX11_takesNumber_54 rfl rfl ?_
              refine y_bipush (v := 10) hg dX11_takesNumber_55 (by decide) ?_
              refine y_aload_n hg 0 dX11_takesNumber_57 rfl rfl ?_
              refine y_getI hg fl_X11_356 rfl rfl h11 dX11_takesNumber_58 ?_
              refine y_imul hg dX11_takesNumber_61 ?_
              refine y_aload_n hg 0 dX11_takesNumber_62 rfl rfl ?_
              refine y_getR hg fl_X11_184 rfl rfl h11 dX11_takesNumber_63 ?_
              refine y_iload_n hg 3 dX11_takesNumber_66 rfl rfl ?_
              obtain ⟨c24, h25, h⟩ := h
              obtain ⟨h26, h⟩ := h
              obtain ⟨h27, h⟩ := h
              refine y_bald hg h25 h26 h27 dX11_takesNumber_67 ?_
              refine y_iadd hg dX11_takesNumber_68 ?_
              refine y_bipush (v := 48) hg dX11_takesNumber_69 (by decide) ?_
              refine y_isub hg dX11_takesNumber_71 ?_
              refine y_putI hg fw_X11_356 (fun z => nomatch z) rfl h11 dX11_takesNumber_72 ?_
              refine y_nmS (fun σ28 e29 => ?_)
              replace h := h σ28 e29
              have E30 : sK σ28 = sK σ := by rw [e29]; rfl
              refine y_sub [0, 1, 2, 3] rfl ?_
              exact J75 _ _ h
    exact key14 n14 v3 σ hI14
  refine y_aload_n hg 0 dX11_takesNumber_0 rfl rfl ?_
  obtain ⟨h1, h⟩ := h
  refine yVVW (Qm := _) (rest := []) (As := []) hg (k_X11_blanks (gL g.1) (gD g.1) a0 σ _ h) lv_X11_353 rfl h1 rfl rfl dX11_takesNumber_1 (cat8 (Nat.le_of_ble_eq_true rfl)) hrm ⟨Nat.le_of_ble_eq_true rfl, Nat.le_of_ble_eq_true rfl⟩ (fun u2 σ3 h h4 => ?_)
  have h5 := kp h4 (show ¬ 13 = 0 by decide) h1
  refine y_aload_n hg 0 dX11_takesNumber_4 rfl rfl ?_
  refine y_getI hg fl_X11_347 rfl rfl h5 dX11_takesNumber_5 ?_
  refine y_nmI (fun x6 e7 => ?_)
  replace h := h x6 e7
  refine y_istore_n (lv' := [(3, .int x6), (0, va_rf (some a0)), (1, .int v1), (2, .int v2)]) hg dX11_takesNumber_8 rfl (by rw [hgN]; decide) rfl ?_
  refine y_aload_n hg 1 dX11_takesNumber_9 rfl rfl ?_
  refine y_iconst (v := 0) hg dX11_takesNumber_10 (by decide) ?_
  refine y_putI hg fw_X11_356 (fun z => nomatch z) rfl h5 dX11_takesNumber_11 ?_
  refine y_nmS (fun σ8 e9 => ?_)
  replace h := h σ8 e9
  have E10 : sK σ8 = sK σ3 := by rw [e9]; rfl
  refine y_sub [1, 2, 3, 0] rfl ?_
  exact J14 _ _ _ _ h
def P_X11_takesPlain (a0 : Nat) (σ : Sg) (Q : Int32 → Sg → Prop) : Prop :=
  sK σ a0 % 32 = 13 ∧ P_X11_takesNumber a0 0 9999 σ (fun x2 σ3 => bz x2 ∧ Q x2 σ3)
set_option maxHeartbeats 4000000 in
set_option maxRecDepth 100000 in
theorem k_X11_takesPlain (l : Launch) (D : Dg) (a0 : Nat) (σ : Sg) (Q : Int32 → Sg → Prop) (h : P_X11_takesPlain a0 σ Q) : CtrY RN l D yX11_takesPlain cX11_takesPlain 1 (some FieldType.boolean) 2 45 mkI [.ref a0] σ (0, 0) Q := by
  refine y_ctrN (lv := [(0, va_rf (some a0))]) (by decide) (by (exact Nat.le_of_ble_eq_true rfl)) (by (exact rfl)) (fun g hg hgL hgD hrm hgN hgI hend => ?_)
  subst hgD
  clear hgL
  unfold P_X11_takesPlain at h
  refine y_aload_n hg 0 dX11_takesPlain_0 rfl rfl ?_
  refine y_iconst (v := 0) hg dX11_takesPlain_1 (by decide) ?_
  refine y_sipush (v := 9999) hg dX11_takesPlain_2 (by decide) ?_
  obtain ⟨h1, h⟩ := h
  refine yVIW (Qm := _) (rest := []) (As := [.int 0, .int 9999]) hg (k_X11_takesNumber (gL g.1) (gD g.1) a0 0 9999 σ _ h) lv_X11_359 rfl h1 rfl rfl dX11_takesPlain_5 (cat8 (Nat.le_of_ble_eq_true rfl)) hrm ⟨Nat.le_of_ble_eq_true rfl, Nat.le_of_ble_eq_true rfl⟩ (fun x2 σ3 h h4 => ?_)
  have h5 := kp h4 (show ¬ 13 = 0 by decide) h1
  obtain ⟨h6, h⟩ := h
  exact yEndI hend (bz_nar h6).1 dX11_takesPlain_8 h
def P_X11_turnsIn (a0 : Nat) (v1 : Int32) (σ : Sg) (Q : Int32 → Sg → Prop) : Prop :=
  sK σ a0 % 32 = 13 ∧ ∃ c2 : Nat, sR σ a0 70 = some c2 ∧ sK σ c2 % 32 = 16 ∧ vp_in v1 (sN σ c2) ∧ ∀ σ6 : Sg, σ6 = pI σ c2 v1.toNatClampNeg 30 → P_X11_takesPlain a0 σ6 (fun x9 σ10 => (x9 = 0 → Q 0 σ10) ∧ (¬ (x9 = 0) → ∃ c14 : Nat, sR σ10 a0 71 = some c14 ∧ sK σ10 c14 % 32 = 16 ∧ vp_in v1 (sN σ10 c14) ∧ ∀ σ18 : Sg, σ18 = pI σ10 c14 v1.toNatClampNeg (sI σ10 a0 81) → P_X11_takes a0 24948 σ18 (fun x21 σ22 => (x21 = 0 → Q 0 σ22) ∧ (¬ (x21 = 0) → P_X11_takesPlain a0 σ22 (fun x26 σ27 => (x26 = 0 → Q 0 σ27) ∧ (¬ (x26 = 0) → ∃ c31 : Nat, sR σ27 a0 72 = some c31 ∧ sK σ27 c31 % 32 = 16 ∧ vp_in v1 (sN σ27 c31) ∧ ∀ σ35 : Sg, σ35 = pI σ27 c31 v1.toNatClampNeg (sI σ27 a0 81) → P_X11_takes a0 435778056825 σ35 (fun x38 σ39 => (x38 = 0 → Q 0 σ39) ∧ (¬ (x38 = 0) → P_X11_takesNumber a0 1 9999 σ39 (fun x43 σ44 => (x43 = 0 → Q 0 σ44) ∧ (¬ (x43 = 0) → ∃ c48 : Nat, sR σ44 a0 73 = some c48 ∧ sK σ44 c48 % 32 = 16 ∧ vp_in v1 (sN σ44 c48) ∧ ∀ σ52 : Sg, σ52 = pI σ44 c48 v1.toNatClampNeg (sI σ44 a0 81) → P_X11_takes a0 1718775661 σ52 (fun x55 σ56 => (x55 = 0 → Q 0 σ56) ∧ (¬ (x55 = 0) → P_X11_takesPlain a0 σ56 (fun x60 σ61 => (x60 = 0 → Q 0 σ61) ∧ (¬ (x60 = 0) → ∃ c65 : Nat, sR σ61 a0 74 = some c65 ∧ sK σ61 c65 % 32 = 16 ∧ vp_in v1 (sN σ61 c65) ∧ ∀ σ69 : Sg, σ69 = pI σ61 c65 v1.toNatClampNeg (sI σ61 a0 81) → Q 1 σ69))))))))))))))
set_option maxHeartbeats 4000000 in
set_option maxRecDepth 100000 in
theorem k_X11_turnsIn (l : Launch) (D : Dg) (a0 : Nat) (v1 : Int32) (σ : Sg) (Q : Int32 → Sg → Prop) (h : P_X11_turnsIn a0 v1 σ Q) : CtrY RN l D yX11_turnsIn cX11_turnsIn 2 (some FieldType.boolean) 3 65 mkI [.ref a0, .int v1] σ (0, 0) Q := by
  refine y_ctrN (lv := [(0, va_rf (some a0)), (1, .int v1)]) (by decide) (by (exact Nat.le_of_ble_eq_true rfl)) (by (exact rfl)) (fun g hg hgL hgD hrm hgN hgI hend => ?_)
  subst hgD
  clear hgL
  unfold P_X11_turnsIn at h
  refine y_aload_n hg 0 dX11_turnsIn_0 rfl rfl ?_
  obtain ⟨h1, h⟩ := h
  refine y_getR hg fl_X11_165 rfl rfl h1 dX11_turnsIn_1 ?_
  refine y_iload_n hg 1 dX11_turnsIn_4 rfl rfl ?_
  refine y_bipush (v := 30) hg dX11_turnsIn_5 (by decide) ?_
  obtain ⟨c2, h3, h⟩ := h
  obtain ⟨h4, h⟩ := h
  obtain ⟨h5, h⟩ := h
  refine y_iast hg h3 h4 h5 dX11_turnsIn_7 ?_
  refine y_nmS (fun σ6 e7 => ?_)
  replace h := h σ6 e7
  have E8 : sK σ6 = sK σ := by rw [e7]; rfl
  refine y_aload_n hg 0 dX11_turnsIn_8 rfl rfl ?_
  refine yVIW (Qm := _) (rest := []) (As := []) hg (k_X11_takesPlain (gL g.1) (gD g.1) a0 σ6 _ h) lv_X11_362 rfl (kq E8 h1) rfl rfl dX11_turnsIn_9 (cat8 (Nat.le_of_ble_eq_true rfl)) hrm ⟨Nat.le_of_ble_eq_true rfl, Nat.le_of_ble_eq_true rfl⟩ (fun x9 σ10 h h11 => ?_)
  have h12 := kp h11 (show ¬ 13 = 0 by decide) (kq E8 h1)
  refine y_if_ne (tgt := 17) hg dX11_turnsIn_12 (by decide) (fun q13 => ?_) (fun q13 => ?_)
  · replace h := h.2 q13
    refine y_aload_n hg 0 dX11_turnsIn_17 rfl rfl ?_
    refine y_getR hg fl_X11_168 rfl rfl h12 dX11_turnsIn_18 ?_
    refine y_iload_n hg 1 dX11_turnsIn_21 rfl rfl ?_
    refine y_aload_n hg 0 dX11_turnsIn_22 rfl rfl ?_
    refine y_getI hg fl_X11_356 rfl rfl h12 dX11_turnsIn_23 ?_
    obtain ⟨c14, h15, h⟩ := h
    obtain ⟨h16, h⟩ := h
    obtain ⟨h17, h⟩ := h
    refine y_iast hg h15 h16 h17 dX11_turnsIn_26 ?_
    refine y_nmS (fun σ18 e19 => ?_)
    replace h := h σ18 e19
    have E20 : sK σ18 = sK σ10 := by rw [e19]; rfl
    refine y_aload_n hg 0 dX11_turnsIn_27 rfl rfl ?_
    refine y_ldc2 hg cw_X11_366 dX11_turnsIn_28 ?_
    refine yVIW (Qm := _) (rest := []) (As := [.long 24948]) hg (k_X11_takes (gL g.1) (gD g.1) a0 24948 σ18 _ h) lv_X11_368 rfl (kq E20 h12) rfl rfl dX11_turnsIn_31 (cat8 (Nat.le_of_ble_eq_true rfl)) hrm ⟨Nat.le_of_ble_eq_true rfl, Nat.le_of_ble_eq_true rfl⟩ (fun x21 σ22 h h23 => ?_)
    have h24 := kp h23 (show ¬ 13 = 0 by decide) (kq E20 h12)
    refine y_if_eq (tgt := 44) hg dX11_turnsIn_34 (by decide) (fun q25 => ?_) (fun q25 => ?_)
    · replace h := h.1 q25
      refine y_iconst (v := 0) hg dX11_turnsIn_44 (by decide) ?_
      exact yEndI hend (bz_nar (Or.inl rfl)).1 dX11_turnsIn_45 h
    · replace h := h.2 q25
      refine y_aload_n hg 0 dX11_turnsIn_37 rfl rfl ?_
      refine yVIW (Qm := _) (rest := []) (As := []) hg (k_X11_takesPlain (gL g.1) (gD g.1) a0 σ22 _ h) lv_X11_362 rfl h24 rfl rfl dX11_turnsIn_38 (cat8 (Nat.le_of_ble_eq_true rfl)) hrm ⟨Nat.le_of_ble_eq_true rfl, Nat.le_of_ble_eq_true rfl⟩ (fun x26 σ27 h h28 => ?_)
      have h29 := kp h28 (show ¬ 13 = 0 by decide) h24
      refine y_if_ne (tgt := 46) hg dX11_turnsIn_41 (by decide) (fun q30 => ?_) (fun q30 => ?_)
      · replace h := h.2 q30
        refine y_aload_n hg 0 dX11_turnsIn_46 rfl rfl ?_
        refine y_getR hg fl_X11_171 rfl rfl h29 dX11_turnsIn_47 ?_
        refine y_iload_n hg 1 dX11_turnsIn_50 rfl rfl ?_
        refine y_aload_n hg 0 dX11_turnsIn_51 rfl rfl ?_
        refine y_getI hg fl_X11_356 rfl rfl h29 dX11_turnsIn_52 ?_
        obtain ⟨c31, h32, h⟩ := h
        obtain ⟨h33, h⟩ := h
        obtain ⟨h34, h⟩ := h
        refine y_iast hg h32 h33 h34 dX11_turnsIn_55 ?_
        refine y_nmS (fun σ35 e36 => ?_)
        replace h := h σ35 e36
        have E37 : sK σ35 = sK σ27 := by rw [e36]; rfl
        refine y_aload_n hg 0 dX11_turnsIn_56 rfl rfl ?_
        refine y_ldc2 hg cw_X11_372 dX11_turnsIn_57 ?_
        refine yVIW (Qm := _) (rest := []) (As := [.long 435778056825]) hg (k_X11_takes (gL g.1) (gD g.1) a0 435778056825 σ35 _ h) lv_X11_368 rfl (kq E37 h29) rfl rfl dX11_turnsIn_60 (cat8 (Nat.le_of_ble_eq_true rfl)) hrm ⟨Nat.le_of_ble_eq_true rfl, Nat.le_of_ble_eq_true rfl⟩ (fun x38 σ39 h h40 => ?_)
        have h41 := kp h40 (show ¬ 13 = 0 by decide) (kq E37 h29)
        refine y_if_eq (tgt := 77) hg dX11_turnsIn_63 (by decide) (fun q42 => ?_) (fun q42 => ?_)
        · replace h := h.1 q42
          refine y_iconst (v := 0) hg dX11_turnsIn_77 (by decide) ?_
          exact yEndI hend (bz_nar (Or.inl rfl)).1 dX11_turnsIn_78 h
        · replace h := h.2 q42
          refine y_aload_n hg 0 dX11_turnsIn_66 rfl rfl ?_
          refine y_iconst (v := 1) hg dX11_turnsIn_67 (by decide) ?_
          refine y_sipush (v := 9999) hg dX11_turnsIn_68 (by decide) ?_
          refine yVIW (Qm := _) (rest := []) (As := [.int 1, .int 9999]) hg (k_X11_takesNumber (gL g.1) (gD g.1) a0 1 9999 σ39 _ h) lv_X11_359 rfl h41 rfl rfl dX11_turnsIn_71 (cat8 (Nat.le_of_ble_eq_true rfl)) hrm ⟨Nat.le_of_ble_eq_true rfl, Nat.le_of_ble_eq_true rfl⟩ (fun x43 σ44 h h45 => ?_)
          have h46 := kp h45 (show ¬ 13 = 0 by decide) h41
          refine y_if_ne (tgt := 79) hg dX11_turnsIn_74 (by decide) (fun q47 => ?_) (fun q47 => ?_)
          · replace h := h.2 q47
            refine y_aload_n hg 0 dX11_turnsIn_79 rfl rfl ?_
            refine y_getR hg fl_X11_174 rfl rfl h46 dX11_turnsIn_80 ?_
            refine y_iload_n hg 1 dX11_turnsIn_83 rfl rfl ?_
            refine y_aload_n hg 0 dX11_turnsIn_84 rfl rfl ?_
            refine y_getI hg fl_X11_356 rfl rfl h46 dX11_turnsIn_85 ?_
            obtain ⟨c48, h49, h⟩ := h
            obtain ⟨h50, h⟩ := h
            obtain ⟨h51, h⟩ := h
            refine y_iast hg h49 h50 h51 dX11_turnsIn_88 ?_
            refine y_nmS (fun σ52 e53 => ?_)
            replace h := h σ52 e53
            have E54 : sK σ52 = sK σ44 := by rw [e53]; rfl
            refine y_aload_n hg 0 dX11_turnsIn_89 rfl rfl ?_
            refine y_ldc2 hg cw_X11_374 dX11_turnsIn_90 ?_
            refine yVIW (Qm := _) (rest := []) (As := [.long 1718775661]) hg (k_X11_takes (gL g.1) (gD g.1) a0 1718775661 σ52 _ h) lv_X11_368 rfl (kq E54 h46) rfl rfl dX11_turnsIn_93 (cat8 (Nat.le_of_ble_eq_true rfl)) hrm ⟨Nat.le_of_ble_eq_true rfl, Nat.le_of_ble_eq_true rfl⟩ (fun x55 σ56 h h57 => ?_)
            have h58 := kp h57 (show ¬ 13 = 0 by decide) (kq E54 h46)
            refine y_if_eq (tgt := 106) hg dX11_turnsIn_96 (by decide) (fun q59 => ?_) (fun q59 => ?_)
            · replace h := h.1 q59
              refine y_iconst (v := 0) hg dX11_turnsIn_106 (by decide) ?_
              exact yEndI hend (bz_nar (Or.inl rfl)).1 dX11_turnsIn_107 h
            · replace h := h.2 q59
              refine y_aload_n hg 0 dX11_turnsIn_99 rfl rfl ?_
              refine yVIW (Qm := _) (rest := []) (As := []) hg (k_X11_takesPlain (gL g.1) (gD g.1) a0 σ56 _ h) lv_X11_362 rfl h58 rfl rfl dX11_turnsIn_100 (cat8 (Nat.le_of_ble_eq_true rfl)) hrm ⟨Nat.le_of_ble_eq_true rfl, Nat.le_of_ble_eq_true rfl⟩ (fun x60 σ61 h h62 => ?_)
              have h63 := kp h62 (show ¬ 13 = 0 by decide) h58
              refine y_if_ne (tgt := 108) hg dX11_turnsIn_103 (by decide) (fun q64 => ?_) (fun q64 => ?_)
              · replace h := h.2 q64
                refine y_aload_n hg 0 dX11_turnsIn_108 rfl rfl ?_
                refine y_getR hg fl_X11_177 rfl rfl h63 dX11_turnsIn_109 ?_
                refine y_iload_n hg 1 dX11_turnsIn_112 rfl rfl ?_
                refine y_aload_n hg 0 dX11_turnsIn_113 rfl rfl ?_
                refine y_getI hg fl_X11_356 rfl rfl h63 dX11_turnsIn_114 ?_
                obtain ⟨c65, h66, h⟩ := h
                obtain ⟨h67, h⟩ := h
                obtain ⟨h68, h⟩ := h
                refine y_iast hg h66 h67 h68 dX11_turnsIn_117 ?_
                refine y_nmS (fun σ69 e70 => ?_)
                replace h := h σ69 e70
                have E71 : sK σ69 = sK σ61 := by rw [e70]; rfl
                refine y_iconst (v := 1) hg dX11_turnsIn_118 (by decide) ?_
                exact yEndI hend (bz_nar (Or.inr rfl)).1 dX11_turnsIn_119 h
              · replace h := h.1 q64
                refine y_iconst (v := 0) hg dX11_turnsIn_106 (by decide) ?_
                exact yEndI hend (bz_nar (Or.inl rfl)).1 dX11_turnsIn_107 h
          · replace h := h.1 q47
            refine y_iconst (v := 0) hg dX11_turnsIn_77 (by decide) ?_
            exact yEndI hend (bz_nar (Or.inl rfl)).1 dX11_turnsIn_78 h
      · replace h := h.1 q30
        refine y_iconst (v := 0) hg dX11_turnsIn_44 (by decide) ?_
        exact yEndI hend (bz_nar (Or.inl rfl)).1 dX11_turnsIn_45 h
  · replace h := h.1 q13
    refine y_iconst (v := 0) hg dX11_turnsIn_15 (by decide) ?_
    exact yEndI hend (bz_nar (Or.inl rfl)).1 dX11_turnsIn_16 h
def P_X11_grades (a0 : Nat) (v1 : Int32) (σ : Sg) (Q : Int32 → Sg → Prop) : Prop :=
  sK σ a0 % 32 = 13 ∧ ∃ c2 : Nat, sR σ a0 70 = some c2 ∧ sK σ c2 % 32 = 16 ∧ vp_in v1 (sN σ c2) ∧ ∀ σ6 : Sg, σ6 = pI σ c2 v1.toNatClampNeg 31 → P_X11_takesNumber a0 0 3 σ6 (fun x9 σ10 => (x9 = 0 → Q 0 σ10) ∧ (¬ (x9 = 0) → ∃ c14 : Nat, sR σ10 a0 71 = some c14 ∧ sK σ10 c14 % 32 = 16 ∧ vp_in v1 (sN σ10 c14) ∧ ∀ σ18 : Sg, σ18 = pI σ10 c14 v1.toNatClampNeg (sI σ10 a0 81) → P_X11_takes a0 1718775661 σ18 (fun x21 σ22 => (x21 = 0 → Q 0 σ22) ∧ (¬ (x21 = 0) → P_X11_takesPlain a0 σ22 (fun x26 σ27 => (x26 = 0 → Q 0 σ27) ∧ (¬ (x26 = 0) → ∃ c31 : Nat, sR σ27 a0 72 = some c31 ∧ sK σ27 c31 % 32 = 16 ∧ vp_in v1 (sN σ27 c31) ∧ ∀ σ35 : Sg, σ35 = pI σ27 c31 v1.toNatClampNeg (sI σ27 a0 81) → P_X11_takes a0 29807 σ35 (fun x38 σ39 => (x38 = 0 → Q 0 σ39) ∧ (¬ (x38 = 0) → P_X11_takesPlain a0 σ39 (fun x43 σ44 => (x43 = 0 → Q 0 σ44) ∧ (¬ (x43 = 0) → ∃ c48 : Nat, sR σ44 a0 73 = some c48 ∧ sK σ44 c48 % 32 = 16 ∧ vp_in v1 (sN σ44 c48) ∧ ∀ σ52 : Sg, σ52 = pI σ44 c48 v1.toNatClampNeg (sI σ44 a0 81) → Q 1 σ52))))))))))
set_option maxHeartbeats 4000000 in
set_option maxRecDepth 100000 in
theorem k_X11_grades (l : Launch) (D : Dg) (a0 : Nat) (v1 : Int32) (σ : Sg) (Q : Int32 → Sg → Prop) (h : P_X11_grades a0 v1 σ Q) : CtrY RN l D yX11_grades cX11_grades 2 (some FieldType.boolean) 3 65 mkI [.ref a0, .int v1] σ (0, 0) Q := by
  refine y_ctrN (lv := [(0, va_rf (some a0)), (1, .int v1)]) (by decide) (by (exact Nat.le_of_ble_eq_true rfl)) (by (exact rfl)) (fun g hg hgL hgD hrm hgN hgI hend => ?_)
  subst hgD
  clear hgL
  unfold P_X11_grades at h
  refine y_aload_n hg 0 dX11_grades_0 rfl rfl ?_
  obtain ⟨h1, h⟩ := h
  refine y_getR hg fl_X11_165 rfl rfl h1 dX11_grades_1 ?_
  refine y_iload_n hg 1 dX11_grades_4 rfl rfl ?_
  refine y_bipush (v := 31) hg dX11_grades_5 (by decide) ?_
  obtain ⟨c2, h3, h⟩ := h
  obtain ⟨h4, h⟩ := h
  obtain ⟨h5, h⟩ := h
  refine y_iast hg h3 h4 h5 dX11_grades_7 ?_
  refine y_nmS (fun σ6 e7 => ?_)
  replace h := h σ6 e7
  have E8 : sK σ6 = sK σ := by rw [e7]; rfl
  refine y_aload_n hg 0 dX11_grades_8 rfl rfl ?_
  refine y_iconst (v := 0) hg dX11_grades_9 (by decide) ?_
  refine y_iconst (v := 3) hg dX11_grades_10 (by decide) ?_
  refine yVIW (Qm := _) (rest := []) (As := [.int 0, .int 3]) hg (k_X11_takesNumber (gL g.1) (gD g.1) a0 0 3 σ6 _ h) lv_X11_359 rfl (kq E8 h1) rfl rfl dX11_grades_11 (cat8 (Nat.le_of_ble_eq_true rfl)) hrm ⟨Nat.le_of_ble_eq_true rfl, Nat.le_of_ble_eq_true rfl⟩ (fun x9 σ10 h h11 => ?_)
  have h12 := kp h11 (show ¬ 13 = 0 by decide) (kq E8 h1)
  refine y_if_ne (tgt := 19) hg dX11_grades_14 (by decide) (fun q13 => ?_) (fun q13 => ?_)
  · replace h := h.2 q13
    refine y_aload_n hg 0 dX11_grades_19 rfl rfl ?_
    refine y_getR hg fl_X11_168 rfl rfl h12 dX11_grades_20 ?_
    refine y_iload_n hg 1 dX11_grades_23 rfl rfl ?_
    refine y_aload_n hg 0 dX11_grades_24 rfl rfl ?_
    refine y_getI hg fl_X11_356 rfl rfl h12 dX11_grades_25 ?_
    obtain ⟨c14, h15, h⟩ := h
    obtain ⟨h16, h⟩ := h
    obtain ⟨h17, h⟩ := h
    refine y_iast hg h15 h16 h17 dX11_grades_28 ?_
    refine y_nmS (fun σ18 e19 => ?_)
    replace h := h σ18 e19
    have E20 : sK σ18 = sK σ10 := by rw [e19]; rfl
    refine y_aload_n hg 0 dX11_grades_29 rfl rfl ?_
    refine y_ldc2 hg cw_X11_374 dX11_grades_30 ?_
    refine yVIW (Qm := _) (rest := []) (As := [.long 1718775661]) hg (k_X11_takes (gL g.1) (gD g.1) a0 1718775661 σ18 _ h) lv_X11_368 rfl (kq E20 h12) rfl rfl dX11_grades_33 (cat8 (Nat.le_of_ble_eq_true rfl)) hrm ⟨Nat.le_of_ble_eq_true rfl, Nat.le_of_ble_eq_true rfl⟩ (fun x21 σ22 h h23 => ?_)
    have h24 := kp h23 (show ¬ 13 = 0 by decide) (kq E20 h12)
    refine y_if_eq (tgt := 46) hg dX11_grades_36 (by decide) (fun q25 => ?_) (fun q25 => ?_)
    · replace h := h.1 q25
      refine y_iconst (v := 0) hg dX11_grades_46 (by decide) ?_
      exact yEndI hend (bz_nar (Or.inl rfl)).1 dX11_grades_47 h
    · replace h := h.2 q25
      refine y_aload_n hg 0 dX11_grades_39 rfl rfl ?_
      refine yVIW (Qm := _) (rest := []) (As := []) hg (k_X11_takesPlain (gL g.1) (gD g.1) a0 σ22 _ h) lv_X11_362 rfl h24 rfl rfl dX11_grades_40 (cat8 (Nat.le_of_ble_eq_true rfl)) hrm ⟨Nat.le_of_ble_eq_true rfl, Nat.le_of_ble_eq_true rfl⟩ (fun x26 σ27 h h28 => ?_)
      have h29 := kp h28 (show ¬ 13 = 0 by decide) h24
      refine y_if_ne (tgt := 48) hg dX11_grades_43 (by decide) (fun q30 => ?_) (fun q30 => ?_)
      · replace h := h.2 q30
        refine y_aload_n hg 0 dX11_grades_48 rfl rfl ?_
        refine y_getR hg fl_X11_171 rfl rfl h29 dX11_grades_49 ?_
        refine y_iload_n hg 1 dX11_grades_52 rfl rfl ?_
        refine y_aload_n hg 0 dX11_grades_53 rfl rfl ?_
        refine y_getI hg fl_X11_356 rfl rfl h29 dX11_grades_54 ?_
        obtain ⟨c31, h32, h⟩ := h
        obtain ⟨h33, h⟩ := h
        obtain ⟨h34, h⟩ := h
        refine y_iast hg h32 h33 h34 dX11_grades_57 ?_
        refine y_nmS (fun σ35 e36 => ?_)
        replace h := h σ35 e36
        have E37 : sK σ35 = sK σ27 := by rw [e36]; rfl
        refine y_aload_n hg 0 dX11_grades_58 rfl rfl ?_
        refine y_ldc2 hg cw_X11_376 dX11_grades_59 ?_
        refine yVIW (Qm := _) (rest := []) (As := [.long 29807]) hg (k_X11_takes (gL g.1) (gD g.1) a0 29807 σ35 _ h) lv_X11_368 rfl (kq E37 h29) rfl rfl dX11_grades_62 (cat8 (Nat.le_of_ble_eq_true rfl)) hrm ⟨Nat.le_of_ble_eq_true rfl, Nat.le_of_ble_eq_true rfl⟩ (fun x38 σ39 h h40 => ?_)
        have h41 := kp h40 (show ¬ 13 = 0 by decide) (kq E37 h29)
        refine y_if_eq (tgt := 75) hg dX11_grades_65 (by decide) (fun q42 => ?_) (fun q42 => ?_)
        · replace h := h.1 q42
          refine y_iconst (v := 0) hg dX11_grades_75 (by decide) ?_
          exact yEndI hend (bz_nar (Or.inl rfl)).1 dX11_grades_76 h
        · replace h := h.2 q42
          refine y_aload_n hg 0 dX11_grades_68 rfl rfl ?_
          refine yVIW (Qm := _) (rest := []) (As := []) hg (k_X11_takesPlain (gL g.1) (gD g.1) a0 σ39 _ h) lv_X11_362 rfl h41 rfl rfl dX11_grades_69 (cat8 (Nat.le_of_ble_eq_true rfl)) hrm ⟨Nat.le_of_ble_eq_true rfl, Nat.le_of_ble_eq_true rfl⟩ (fun x43 σ44 h h45 => ?_)
          have h46 := kp h45 (show ¬ 13 = 0 by decide) h41
          refine y_if_ne (tgt := 77) hg dX11_grades_72 (by decide) (fun q47 => ?_) (fun q47 => ?_)
          · replace h := h.2 q47
            refine y_aload_n hg 0 dX11_grades_77 rfl rfl ?_
            refine y_getR hg fl_X11_174 rfl rfl h46 dX11_grades_78 ?_
            refine y_iload_n hg 1 dX11_grades_81 rfl rfl ?_
            refine y_aload_n hg 0 dX11_grades_82 rfl rfl ?_
            refine y_getI hg fl_X11_356 rfl rfl h46 dX11_grades_83 ?_
            obtain ⟨c48, h49, h⟩ := h
            obtain ⟨h50, h⟩ := h
            obtain ⟨h51, h⟩ := h
            refine y_iast hg h49 h50 h51 dX11_grades_86 ?_
            refine y_nmS (fun σ52 e53 => ?_)
            replace h := h σ52 e53
            have E54 : sK σ52 = sK σ44 := by rw [e53]; rfl
            refine y_iconst (v := 1) hg dX11_grades_87 (by decide) ?_
            exact yEndI hend (bz_nar (Or.inr rfl)).1 dX11_grades_88 h
          · replace h := h.1 q47
            refine y_iconst (v := 0) hg dX11_grades_75 (by decide) ?_
            exact yEndI hend (bz_nar (Or.inl rfl)).1 dX11_grades_76 h
      · replace h := h.1 q30
        refine y_iconst (v := 0) hg dX11_grades_46 (by decide) ?_
        exact yEndI hend (bz_nar (Or.inl rfl)).1 dX11_grades_47 h
  · replace h := h.1 q13
    refine y_iconst (v := 0) hg dX11_grades_17 (by decide) ?_
    exact yEndI hend (bz_nar (Or.inl rfl)).1 dX11_grades_18 h
def P_X11_row_B59 (a0 : Nat) (v1 : Int32) (v5 : Int64) (σ : Sg) (Q : Int32 → Sg → Prop) : Prop :=
  (v5 = 0 → Q 1 σ) ∧ (¬ (v5 = 0) → sK σ a0 % 32 = 13 ∧ P_X11_takes a0 v5 σ (fun x41 σ42 => (x41 = 0 → Q 0 σ42) ∧ (¬ (x41 = 0) → P_X11_takesPlain a0 σ42 (fun x46 σ47 => (x46 = 0 → Q 0 σ47) ∧ (¬ (x46 = 0) → ∃ c51 : Nat, sR σ47 a0 73 = some c51 ∧ sK σ47 c51 % 32 = 16 ∧ vp_in v1 (sN σ47 c51) ∧ ∀ σ55 : Sg, σ55 = pI σ47 c51 v1.toNatClampNeg (sI σ47 a0 81) → Q 1 σ55)))))
def P_X11_row (a0 : Nat) (v1 : Int32) (v2 : Int32) (v3 : Int64) (v5 : Int64) (σ : Sg) (Q : Int32 → Sg → Prop) : Prop :=
  sK σ a0 % 32 = 13 ∧ ∃ c2 : Nat, sR σ a0 70 = some c2 ∧ sK σ c2 % 32 = 16 ∧ vp_in v1 (sN σ c2) ∧ ∀ σ6 : Sg, σ6 = pI σ c2 v1.toNatClampNeg v2 → P_X11_takesPlain a0 σ6 (fun x9 σ10 => (x9 = 0 → Q 0 σ10) ∧ (¬ (x9 = 0) → ∃ c14 : Nat, sR σ10 a0 71 = some c14 ∧ sK σ10 c14 % 32 = 16 ∧ vp_in v1 (sN σ10 c14) ∧ ∀ σ18 : Sg, σ18 = pI σ10 c14 v1.toNatClampNeg (sI σ10 a0 81) → (v3 = 0 → P_X11_row_B59 a0 v1 v5 σ18 Q) ∧ (¬ (v3 = 0) → P_X11_takes a0 v3 σ18 (fun x22 σ23 => (x22 = 0 → Q 0 σ23) ∧ (¬ (x22 = 0) → P_X11_takesPlain a0 σ23 (fun x27 σ28 => (x27 = 0 → Q 0 σ28) ∧ (¬ (x27 = 0) → ∃ c32 : Nat, sR σ28 a0 72 = some c32 ∧ sK σ28 c32 % 32 = 16 ∧ vp_in v1 (sN σ28 c32) ∧ ∀ σ36 : Sg, σ36 = pI σ28 c32 v1.toNatClampNeg (sI σ28 a0 81) → P_X11_row_B59 a0 v1 v5 σ36 Q)))))))
set_option maxHeartbeats 4000000 in
set_option maxRecDepth 100000 in
theorem k_X11_row (l : Launch) (D : Dg) (a0 : Nat) (v1 : Int32) (v2 : Int32) (v3 : Int64) (v5 : Int64) (σ : Sg) (Q : Int32 → Sg → Prop) (h : P_X11_row a0 v1 v2 v3 v5 σ Q) : CtrY RN l D yX11_row cX11_row 7 (some FieldType.boolean) 3 65 mkI [.ref a0, .int v1, .int v2, .long v3, .long v5] σ (0, 0) Q := by
  refine y_ctrN (lv := [(0, va_rf (some a0)), (1, .int v1), (2, .int v2), (3, .long v3), (5, .long v5)]) (by decide) (by (exact Nat.le_of_ble_eq_true rfl)) (by (exact rfl)) (fun g hg hgL hgD hrm hgN hgI hend => ?_)
  subst hgD
  clear hgL
  unfold P_X11_row at h
  have J59 : ∀ (v1 : Int32) (v5 : Int64) (σ : Sg), P_X11_row_B59 a0 v1 v5 σ Q → XA g 59 [(0, va_rf (some a0)), (1, .int v1), (5, .long v5)] [] σ (0, 0) := by
    intro v1 v5 σ h
    unfold P_X11_row_B59 at h
    refine y_lload hg 2 dX11_row_59 rfl ?_
    refine y_lconst (v := 0) hg dX11_row_61 (by decide) ?_
    refine y_lcmp hg dX11_row_62 ?_
    refine y_if_eq (tgt := 94) hg dX11_row_63 (by decide) (fun q39 => ?_) (fun q39 => ?_)
    · replace h := h.1 ((lg_cmp_eq _ _).mp q39)
      refine y_iconst (v := 1) hg dX11_row_94 (by decide) ?_
      exact yEndI hend (bz_nar (Or.inr rfl)).1 dX11_row_95 h
    · replace h := h.2 (fun z => q39 ((lg_cmp_eq _ _).mpr z))
      refine y_aload_n hg 0 dX11_row_66 rfl rfl ?_
      refine y_lload hg 2 dX11_row_67 rfl ?_
      obtain ⟨h40, h⟩ := h
      refine yVIW (Qm := _) (rest := []) (As := [.long v5]) hg (k_X11_takes (gL g.1) (gD g.1) a0 v5 σ _ h) lv_X11_368 rfl h40 rfl rfl dX11_row_69 (cat8 (Nat.le_of_ble_eq_true rfl)) hrm ⟨Nat.le_of_ble_eq_true rfl, Nat.le_of_ble_eq_true rfl⟩ (fun x41 σ42 h h43 => ?_)
      have h44 := kp h43 (show ¬ 13 = 0 by decide) h40
      refine y_if_eq (tgt := 82) hg dX11_row_72 (by decide) (fun q45 => ?_) (fun q45 => ?_)
      · replace h := h.1 q45
        refine y_iconst (v := 0) hg dX11_row_82 (by decide) ?_
        exact yEndI hend (bz_nar (Or.inl rfl)).1 dX11_row_83 h
      · replace h := h.2 q45
        refine y_aload_n hg 0 dX11_row_75 rfl rfl ?_
        refine yVIW (Qm := _) (rest := []) (As := []) hg (k_X11_takesPlain (gL g.1) (gD g.1) a0 σ42 _ h) lv_X11_362 rfl h44 rfl rfl dX11_row_76 (cat8 (Nat.le_of_ble_eq_true rfl)) hrm ⟨Nat.le_of_ble_eq_true rfl, Nat.le_of_ble_eq_true rfl⟩ (fun x46 σ47 h h48 => ?_)
        have h49 := kp h48 (show ¬ 13 = 0 by decide) h44
        refine y_if_ne (tgt := 84) hg dX11_row_79 (by decide) (fun q50 => ?_) (fun q50 => ?_)
        · replace h := h.2 q50
          refine y_aload_n hg 0 dX11_row_84 rfl rfl ?_
          refine y_getR hg fl_X11_174 rfl rfl h49 dX11_row_85 ?_
          refine y_iload_n hg 1 dX11_row_88 rfl rfl ?_
          refine y_aload_n hg 0 dX11_row_89 rfl rfl ?_
          refine y_getI hg fl_X11_356 rfl rfl h49 dX11_row_90 ?_
          obtain ⟨c51, h52, h⟩ := h
          obtain ⟨h53, h⟩ := h
          obtain ⟨h54, h⟩ := h
          refine y_iast hg h52 h53 h54 dX11_row_93 ?_
          refine y_nmS (fun σ55 e56 => ?_)
          replace h := h σ55 e56
          have E57 : sK σ55 = sK σ47 := by rw [e56]; rfl
          refine y_iconst (v := 1) hg dX11_row_94 (by decide) ?_
          exact yEndI hend (bz_nar (Or.inr rfl)).1 dX11_row_95 h
        · replace h := h.1 q50
          refine y_iconst (v := 0) hg dX11_row_82 (by decide) ?_
          exact yEndI hend (bz_nar (Or.inl rfl)).1 dX11_row_83 h
  refine y_aload_n hg 0 dX11_row_0 rfl rfl ?_
  obtain ⟨h1, h⟩ := h
  refine y_getR hg fl_X11_165 rfl rfl h1 dX11_row_1 ?_
  refine y_iload_n hg 1 dX11_row_4 rfl rfl ?_
  refine y_iload_n hg 2 dX11_row_5 rfl rfl ?_
  obtain ⟨c2, h3, h⟩ := h
  obtain ⟨h4, h⟩ := h
  obtain ⟨h5, h⟩ := h
  refine y_iast hg h3 h4 h5 dX11_row_6 ?_
  refine y_nmS (fun σ6 e7 => ?_)
  replace h := h σ6 e7
  have E8 : sK σ6 = sK σ := by rw [e7]; rfl
  refine y_aload_n hg 0 dX11_row_7 rfl rfl ?_
  refine yVIW (Qm := _) (rest := []) (As := []) hg (k_X11_takesPlain (gL g.1) (gD g.1) a0 σ6 _ h) lv_X11_362 rfl (kq E8 h1) rfl rfl dX11_row_8 (cat8 (Nat.le_of_ble_eq_true rfl)) hrm ⟨Nat.le_of_ble_eq_true rfl, Nat.le_of_ble_eq_true rfl⟩ (fun x9 σ10 h h11 => ?_)
  have h12 := kp h11 (show ¬ 13 = 0 by decide) (kq E8 h1)
  refine y_if_ne (tgt := 16) hg dX11_row_11 (by decide) (fun q13 => ?_) (fun q13 => ?_)
  · replace h := h.2 q13
    refine y_aload_n hg 0 dX11_row_16 rfl rfl ?_
    refine y_getR hg fl_X11_168 rfl rfl h12 dX11_row_17 ?_
    refine y_iload_n hg 1 dX11_row_20 rfl rfl ?_
    refine y_aload_n hg 0 dX11_row_21 rfl rfl ?_
    refine y_getI hg fl_X11_356 rfl rfl h12 dX11_row_22 ?_
    obtain ⟨c14, h15, h⟩ := h
    obtain ⟨h16, h⟩ := h
    obtain ⟨h17, h⟩ := h
    refine y_iast hg h15 h16 h17 dX11_row_25 ?_
    refine y_nmS (fun σ18 e19 => ?_)
    replace h := h σ18 e19
    have E20 : sK σ18 = sK σ10 := by rw [e19]; rfl
    refine y_lload_n hg 3 dX11_row_26 rfl rfl ?_
    refine y_lconst (v := 0) hg dX11_row_27 (by decide) ?_
    refine y_lcmp hg dX11_row_28 ?_
    refine y_if_eq (tgt := 59) hg dX11_row_29 (by decide) (fun q21 => ?_) (fun q21 => ?_)
    · replace h := h.1 ((lg_cmp_eq _ _).mp q21)
      refine y_sub [0, 1, 4] rfl ?_
      exact J59 _ _ _ h
    · replace h := h.2 (fun z => q21 ((lg_cmp_eq _ _).mpr z))
      refine y_aload_n hg 0 dX11_row_32 rfl rfl ?_
      refine y_lload_n hg 3 dX11_row_33 rfl rfl ?_
      refine yVIW (Qm := _) (rest := []) (As := [.long v3]) hg (k_X11_takes (gL g.1) (gD g.1) a0 v3 σ18 _ h) lv_X11_368 rfl (kq E20 h12) rfl rfl dX11_row_34 (cat8 (Nat.le_of_ble_eq_true rfl)) hrm ⟨Nat.le_of_ble_eq_true rfl, Nat.le_of_ble_eq_true rfl⟩ (fun x22 σ23 h h24 => ?_)
      have h25 := kp h24 (show ¬ 13 = 0 by decide) (kq E20 h12)
      refine y_if_eq (tgt := 47) hg dX11_row_37 (by decide) (fun q26 => ?_) (fun q26 => ?_)
      · replace h := h.1 q26
        refine y_iconst (v := 0) hg dX11_row_47 (by decide) ?_
        exact yEndI hend (bz_nar (Or.inl rfl)).1 dX11_row_48 h
      · replace h := h.2 q26
        refine y_aload_n hg 0 dX11_row_40 rfl rfl ?_
        refine yVIW (Qm := _) (rest := []) (As := []) hg (k_X11_takesPlain (gL g.1) (gD g.1) a0 σ23 _ h) lv_X11_362 rfl h25 rfl rfl dX11_row_41 (cat8 (Nat.le_of_ble_eq_true rfl)) hrm ⟨Nat.le_of_ble_eq_true rfl, Nat.le_of_ble_eq_true rfl⟩ (fun x27 σ28 h h29 => ?_)
        have h30 := kp h29 (show ¬ 13 = 0 by decide) h25
        refine y_if_ne (tgt := 49) hg dX11_row_44 (by decide) (fun q31 => ?_) (fun q31 => ?_)
        · replace h := h.2 q31
          refine y_aload_n hg 0 dX11_row_49 rfl rfl ?_
          refine y_getR hg fl_X11_171 rfl rfl h30 dX11_row_50 ?_
          refine y_iload_n hg 1 dX11_row_53 rfl rfl ?_
          refine y_aload_n hg 0 dX11_row_54 rfl rfl ?_
          refine y_getI hg fl_X11_356 rfl rfl h30 dX11_row_55 ?_
          obtain ⟨c32, h33, h⟩ := h
          obtain ⟨h34, h⟩ := h
          obtain ⟨h35, h⟩ := h
          refine y_iast hg h33 h34 h35 dX11_row_58 ?_
          refine y_nmS (fun σ36 e37 => ?_)
          replace h := h σ36 e37
          have E38 : sK σ36 = sK σ28 := by rw [e37]; rfl
          refine y_sub [0, 1, 4] rfl ?_
          exact J59 _ _ _ h
        · replace h := h.1 q31
          refine y_iconst (v := 0) hg dX11_row_47 (by decide) ?_
          exact yEndI hend (bz_nar (Or.inl rfl)).1 dX11_row_48 h
  · replace h := h.1 q13
    refine y_iconst (v := 0) hg dX11_row_14 (by decide) ?_
    exact yEndI hend (bz_nar (Or.inl rfl)).1 dX11_row_15 h
def P_X11_others_B108 (a0 : Nat) (σ : Sg) (Q : Int32 → Sg → Prop) : Prop :=
  Q 0 σ
def P_X11_others_B87 (a0 : Nat) (v1 : Int32) (w0 : Int32) (σ : Sg) (Q : Int32 → Sg → Prop) : Prop :=
  (w0 = (-1) → P_X11_others_B108 a0 σ Q) ∧ (¬ (w0 = (-1)) → sK σ a0 % 32 = 13 ∧ P_X11_row a0 v1 w0 0 0 σ (fun x34 σ35 => (x34 = 0 → P_X11_others_B108 a0 σ35 Q) ∧ (¬ (x34 = 0) → Q 1 σ35)))
def P_X11_others (a0 : Nat) (v1 : Int32) (σ : Sg) (Q : Int32 → Sg → Prop) : Prop :=
  sK σ a0 % 32 = 13 ∧ P_X11_takes a0 1668050791 σ (fun x2 σ3 => (x2 = 0 → P_X11_takes a0 7305061 σ3 (fun x7 σ8 => (x7 = 0 → P_X11_takes a0 31632341447831143 σ8 (fun x12 σ13 => (x12 = 0 → P_X11_takes a0 1935764596 σ13 (fun x17 σ18 => (x17 = 0 → P_X11_takes a0 495873781348 σ18 (fun x22 σ23 => (x22 = 0 → P_X11_takes a0 431366693492 σ23 (fun x27 σ28 => (x27 = 0 → P_X11_others_B87 a0 v1 (-1) σ28 Q) ∧ (¬ (x27 = 0) → P_X11_others_B87 a0 v1 12 σ28 Q))) ∧ (¬ (x22 = 0) → P_X11_others_B87 a0 v1 6 σ23 Q))) ∧ (¬ (x17 = 0) → P_X11_others_B87 a0 v1 5 σ18 Q))) ∧ (¬ (x12 = 0) → P_X11_others_B87 a0 v1 4 σ13 Q))) ∧ (¬ (x7 = 0) → P_X11_others_B87 a0 v1 3 σ8 Q))) ∧ (¬ (x2 = 0) → P_X11_others_B87 a0 v1 0 σ3 Q))
set_option maxHeartbeats 4000000 in
set_option maxRecDepth 100000 in
theorem k_X11_others (l : Launch) (D : Dg) (a0 : Nat) (v1 : Int32) (σ : Sg) (Q : Int32 → Sg → Prop) (h : P_X11_others a0 v1 σ Q) : CtrY RN l D yX11_others cX11_others 3 (some FieldType.boolean) 4 91 mkI [.ref a0, .int v1] σ (0, 0) Q := by
  refine y_ctrN (lv := [(0, va_rf (some a0)), (1, .int v1)]) (by decide) (by (exact Nat.le_of_ble_eq_true rfl)) (by (exact rfl)) (fun g hg hgL hgD hrm hgN hgI hend => ?_)
  subst hgD
  clear hgL
  unfold P_X11_others at h
  have J108 : ∀ (σ : Sg), P_X11_others_B108 a0 σ Q → XA g 108 [(0, va_rf (some a0))] [] σ (0, 0) := by
    intro σ h
    unfold P_X11_others_B108 at h
    refine y_iconst (v := 0) hg dX11_others_108 (by decide) ?_
    exact yEndI hend (bz_nar (Or.inl rfl)).1 dX11_others_109 h
  have J87 : ∀ (v1 : Int32) (w0 : Int32) (σ : Sg), P_X11_others_B87 a0 v1 w0 σ Q → XA g 87 [(0, va_rf (some a0)), (1, .int v1)] [.int w0] σ (0, 0) := by
    intro v1 w0 σ h
    unfold P_X11_others_B87 at h
    refine y_istore_n (lv' := [(2, .int w0), (0, va_rf (some a0)), (1, .int v1)]) hg dX11_others_87 rfl (by rw [hgN]; decide) rfl ?_
    refine y_iload_n hg 0 dX11_others_88 rfl rfl ?_
    refine y_iconst (v := (-1)) hg dX11_others_89 (by decide) ?_
    refine y_icmp_eq (tgt := 108) hg dX11_others_90 (by decide) (fun q32 => ?_) (fun q32 => ?_)
    · replace h := h.1 q32
      refine y_sub [1] rfl ?_
      exact J108 _ h
    · replace h := h.2 q32
      refine y_aload_n hg 1 dX11_others_93 rfl rfl ?_
      refine y_iload_n hg 2 dX11_others_94 rfl rfl ?_
      refine y_iload_n hg 0 dX11_others_95 rfl rfl ?_
      refine y_lconst (v := 0) hg dX11_others_96 (by decide) ?_
      refine y_lconst (v := 0) hg dX11_others_97 (by decide) ?_
      obtain ⟨h33, h⟩ := h
      refine yVIW (Qm := _) (rest := []) (As := [.int v1, .int w0, .long 0, .long 0]) hg (k_X11_row (gL g.1) (gD g.1) a0 v1 w0 0 0 σ _ h) lv_X11_390 rfl h33 rfl rfl dX11_others_98 (cat8 (Nat.le_of_ble_eq_true rfl)) hrm ⟨Nat.le_of_ble_eq_true rfl, Nat.le_of_ble_eq_true rfl⟩ (fun x34 σ35 h h36 => ?_)
      have h37 := kp h36 (show ¬ 13 = 0 by decide) h33
      refine y_if_eq (tgt := 108) hg dX11_others_101 (by decide) (fun q38 => ?_) (fun q38 => ?_)
      · replace h := h.1 q38
        refine y_sub [1] rfl ?_
        exact J108 _ h
      · replace h := h.2 q38
        refine y_iconst (v := 1) hg dX11_others_104 (by decide) ?_
        refine y_goto (tgt := 109) hg dX11_others_105 (by decide) ?_
        exact yEndI hend (bz_nar (Or.inr rfl)).1 dX11_others_109 h
  refine y_aload_n hg 0 dX11_others_0 rfl rfl ?_
  refine y_ldc2 hg cw_X11_378 dX11_others_1 ?_
  obtain ⟨h1, h⟩ := h
  refine yVIW (Qm := _) (rest := []) (As := [.long 1668050791]) hg (k_X11_takes (gL g.1) (gD g.1) a0 1668050791 σ _ h) lv_X11_368 rfl h1 rfl rfl dX11_others_4 (cat8 (Nat.le_of_ble_eq_true rfl)) hrm ⟨Nat.le_of_ble_eq_true rfl, Nat.le_of_ble_eq_true rfl⟩ (fun x2 σ3 h h4 => ?_)
  have h5 := kp h4 (show ¬ 13 = 0 by decide) h1
  refine y_if_eq (tgt := 14) hg dX11_others_7 (by decide) (fun q6 => ?_) (fun q6 => ?_)
  · replace h := h.1 q6
    refine y_aload_n hg 0 dX11_others_14 rfl rfl ?_
    refine y_ldc2 hg cw_X11_380 dX11_others_15 ?_
    refine yVIW (Qm := _) (rest := []) (As := [.long 7305061]) hg (k_X11_takes (gL g.1) (gD g.1) a0 7305061 σ3 _ h) lv_X11_368 rfl h5 rfl rfl dX11_others_18 (cat8 (Nat.le_of_ble_eq_true rfl)) hrm ⟨Nat.le_of_ble_eq_true rfl, Nat.le_of_ble_eq_true rfl⟩ (fun x7 σ8 h h9 => ?_)
    have h10 := kp h9 (show ¬ 13 = 0 by decide) h5
    refine y_if_eq (tgt := 28) hg dX11_others_21 (by decide) (fun q11 => ?_) (fun q11 => ?_)
    · replace h := h.1 q11
      refine y_aload_n hg 0 dX11_others_28 rfl rfl ?_
      refine y_ldc2 hg cw_X11_382 dX11_others_29 ?_
      refine yVIW (Qm := _) (rest := []) (As := [.long 31632341447831143]) hg (k_X11_takes (gL g.1) (gD g.1) a0 31632341447831143 σ8 _ h) lv_X11_368 rfl h10 rfl rfl dX11_others_32 (cat8 (Nat.le_of_ble_eq_true rfl)) hrm ⟨Nat.le_of_ble_eq_true rfl, Nat.le_of_ble_eq_true rfl⟩ (fun x12 σ13 h h14 => ?_)
      have h15 := kp h14 (show ¬ 13 = 0 by decide) h10
      refine y_if_eq (tgt := 42) hg dX11_others_35 (by decide) (fun q16 => ?_) (fun q16 => ?_)
      · replace h := h.1 q16
        refine y_aload_n hg 0 dX11_others_42 rfl rfl ?_
        refine y_ldc2 hg cw_X11_384 dX11_others_43 ?_
        refine yVIW (Qm := _) (rest := []) (As := [.long 1935764596]) hg (k_X11_takes (gL g.1) (gD g.1) a0 1935764596 σ13 _ h) lv_X11_368 rfl h15 rfl rfl dX11_others_46 (cat8 (Nat.le_of_ble_eq_true rfl)) hrm ⟨Nat.le_of_ble_eq_true rfl, Nat.le_of_ble_eq_true rfl⟩ (fun x17 σ18 h h19 => ?_)
        have h20 := kp h19 (show ¬ 13 = 0 by decide) h15
        refine y_if_eq (tgt := 56) hg dX11_others_49 (by decide) (fun q21 => ?_) (fun q21 => ?_)
        · replace h := h.1 q21
          refine y_aload_n hg 0 dX11_others_56 rfl rfl ?_
          refine y_ldc2 hg cw_X11_386 dX11_others_57 ?_
          refine yVIW (Qm := _) (rest := []) (As := [.long 495873781348]) hg (k_X11_takes (gL g.1) (gD g.1) a0 495873781348 σ18 _ h) lv_X11_368 rfl h20 rfl rfl dX11_others_60 (cat8 (Nat.le_of_ble_eq_true rfl)) hrm ⟨Nat.le_of_ble_eq_true rfl, Nat.le_of_ble_eq_true rfl⟩ (fun x22 σ23 h h24 => ?_)
          have h25 := kp h24 (show ¬ 13 = 0 by decide) h20
          refine y_if_eq (tgt := 71) hg dX11_others_63 (by decide) (fun q26 => ?_) (fun q26 => ?_)
          · replace h := h.1 q26
            refine y_aload_n hg 0 dX11_others_71 rfl rfl ?_
            refine y_ldc2 hg cw_X11_388 dX11_others_72 ?_
            refine yVIW (Qm := _) (rest := []) (As := [.long 431366693492]) hg (k_X11_takes (gL g.1) (gD g.1) a0 431366693492 σ23 _ h) lv_X11_368 rfl h25 rfl rfl dX11_others_75 (cat8 (Nat.le_of_ble_eq_true rfl)) hrm ⟨Nat.le_of_ble_eq_true rfl, Nat.le_of_ble_eq_true rfl⟩ (fun x27 σ28 h h29 => ?_)
            have h30 := kp h29 (show ¬ 13 = 0 by decide) h25
            refine y_if_eq (tgt := 86) hg dX11_others_78 (by decide) (fun q31 => ?_) (fun q31 => ?_)
            · replace h := h.1 q31
              refine y_iconst (v := (-1)) hg dX11_others_86 (by decide) ?_
              refine y_sub [0, 1] rfl ?_
              exact J87 _ _ _ h
            · replace h := h.2 q31
              refine y_bipush (v := 12) hg dX11_others_81 (by decide) ?_
              refine y_goto (tgt := 87) hg dX11_others_83 (by decide) ?_
              refine y_sub [0, 1] rfl ?_
              exact J87 _ _ _ h
          · replace h := h.2 q26
            refine y_bipush (v := 6) hg dX11_others_66 (by decide) ?_
            refine y_goto (tgt := 87) hg dX11_others_68 (by decide) ?_
            refine y_sub [0, 1] rfl ?_
            exact J87 _ _ _ h
        · replace h := h.2 q21
          refine y_iconst (v := 5) hg dX11_others_52 (by decide) ?_
          refine y_goto (tgt := 87) hg dX11_others_53 (by decide) ?_
          refine y_sub [0, 1] rfl ?_
          exact J87 _ _ _ h
      · replace h := h.2 q16
        refine y_iconst (v := 4) hg dX11_others_38 (by decide) ?_
        refine y_goto (tgt := 87) hg dX11_others_39 (by decide) ?_
        refine y_sub [0, 1] rfl ?_
        exact J87 _ _ _ h
    · replace h := h.2 q11
      refine y_iconst (v := 3) hg dX11_others_24 (by decide) ?_
      refine y_goto (tgt := 87) hg dX11_others_25 (by decide) ?_
      refine y_sub [0, 1] rfl ?_
      exact J87 _ _ _ h
  · replace h := h.2 q6
    refine y_iconst (v := 0) hg dX11_others_10 (by decide) ?_
    refine y_goto (tgt := 87) hg dX11_others_11 (by decide) ?_
    refine y_sub [0, 1] rfl ?_
    exact J87 _ _ _ h
def P_X11_statement_B114 (a0 : Nat) (w0 : Int32) (σ : Sg) (Q : Int32 → Sg → Prop) : Prop :=
  (w0 = 0 → Q 0 σ) ∧ (¬ (w0 = 0) → sK σ a0 % 32 = 13 ∧ P_X11_blanks a0 σ (fun _ σ54 => ((sI σ54 a0 79) = (sI σ54 a0 78) → Q 0 σ54) ∧ (¬ ((sI σ54 a0 79) = (sI σ54 a0 78)) → ∃ c58 : Nat, sR σ54 a0 76 = some c58 ∧ sK σ54 c58 % 32 = 19 ∧ vp_in (sI σ54 a0 79) (sN σ54 c58) ∧ ((sI σ54 c58 (sI σ54 a0 79).toNatClampNeg) = 59 → ∀ σ63 : Sg, σ63 = pI σ54 a0 79 ((sI σ54 a0 79) + 1) → Q 1 σ63) ∧ (¬ ((sI σ54 c58 (sI σ54 a0 79).toNatClampNeg) = 59) → Q 0 σ54))))
def P_X11_statement (a0 : Nat) (v1 : Int32) (σ : Sg) (Q : Int32 → Sg → Prop) : Prop :=
  sK σ a0 % 32 = 13 ∧ P_X11_takes a0 1953854062 σ (fun x2 σ3 => (x2 = 0 → P_X11_takes a0 1819242347 σ3 (fun x7 σ8 => (x7 = 0 → P_X11_takes a0 119182682645875 σ8 (fun x12 σ13 => (x12 = 0 → P_X11_takes a0 6710629 σ13 (fun x17 σ18 => (x17 = 0 → P_X11_takes a0 1668248436 σ18 (fun x22 σ23 => (x22 = 0 → P_X11_others a0 v1 σ23 (fun x27 σ28 => P_X11_statement_B114 a0 x27 σ28 Q)) ∧ (¬ (x22 = 0) → P_X11_row a0 v1 10 1651472236 0 σ23 (fun x31 σ32 => P_X11_statement_B114 a0 x31 σ32 Q)))) ∧ (¬ (x17 = 0) → P_X11_row a0 v1 7 109342978500980 6448484 σ18 (fun x35 σ36 => P_X11_statement_B114 a0 x35 σ36 Q)))) ∧ (¬ (x12 = 0) → P_X11_row a0 v1 1 29807 0 σ13 (fun x39 σ40 => P_X11_statement_B114 a0 x39 σ40 Q)))) ∧ (¬ (x7 = 0) → P_X11_grades a0 v1 σ8 (fun x43 σ44 => P_X11_statement_B114 a0 x43 σ44 Q)))) ∧ (¬ (x2 = 0) → P_X11_turnsIn a0 v1 σ3 (fun x47 σ48 => P_X11_statement_B114 a0 x47 σ48 Q)))
set_option maxHeartbeats 4000000 in
set_option maxRecDepth 100000 in
theorem k_X11_statement (l : Launch) (D : Dg) (a0 : Nat) (v1 : Int32) (σ : Sg) (Q : Int32 → Sg → Prop) (h : P_X11_statement a0 v1 σ Q) : CtrY RN l D yX11_statement cX11_statement 3 (some FieldType.boolean) 5 113 mkI [.ref a0, .int v1] σ (0, 0) Q := by
  refine y_ctrN (lv := [(0, va_rf (some a0)), (1, .int v1)]) (by decide) (by (exact Nat.le_of_ble_eq_true rfl)) (by (exact rfl)) (fun g hg hgL hgD hrm hgN hgI hend => ?_)
  subst hgD
  clear hgL
  unfold P_X11_statement at h
  have J114 : ∀ (w0 : Int32) (σ : Sg), P_X11_statement_B114 a0 w0 σ Q → XA g 114 [(0, va_rf (some a0))] [.int w0] σ (0, 0) := by
    intro w0 σ h
    unfold P_X11_statement_B114 at h
    refine y_istore_n (lv' := [(2, .int w0), (0, va_rf (some a0))]) hg dX11_statement_114 rfl (by rw [hgN]; decide) rfl ?_
    refine y_iload_n hg 0 dX11_statement_115 rfl rfl ?_
    refine y_if_ne (tgt := 121) hg dX11_statement_116 (by decide) (fun q51 => ?_) (fun q51 => ?_)
    · replace h := h.2 q51
      refine y_aload_n hg 1 dX11_statement_121 rfl rfl ?_
      obtain ⟨h52, h⟩ := h
      refine yVVW (Qm := _) (rest := []) (As := []) hg (k_X11_blanks (gL g.1) (gD g.1) a0 σ _ h) lv_X11_353 rfl h52 rfl rfl dX11_statement_122 (cat8 (Nat.le_of_ble_eq_true rfl)) hrm ⟨Nat.le_of_ble_eq_true rfl, Nat.le_of_ble_eq_true rfl⟩ (fun u53 σ54 h h55 => ?_)
      have h56 := kp h55 (show ¬ 13 = 0 by decide) h52
      refine y_aload_n hg 1 dX11_statement_125 rfl rfl ?_
      refine y_getI hg fl_X11_347 rfl rfl h56 dX11_statement_126 ?_
      refine y_aload_n hg 1 dX11_statement_129 rfl rfl ?_
      refine y_getI hg fl_X11_350 rfl rfl h56 dX11_statement_130 ?_
      refine y_icmp_eq (tgt := 150) hg dX11_statement_133 (by decide) (fun q57 => ?_) (fun q57 => ?_)
      · replace h := h.1 q57
        refine y_iconst (v := 0) hg dX11_statement_150 (by decide) ?_
        exact yEndI hend (bz_nar (Or.inl rfl)).1 dX11_statement_151 h
      · replace h := h.2 q57
        refine y_aload_n hg 1 dX11_statement_136 rfl rfl ?_
        refine y_getR hg fl_X11_184 rfl rfl h56 dX11_statement_137 ?_
        refine y_aload_n hg 1 dX11_statement_140 rfl rfl ?_
        refine y_getI hg fl_X11_347 rfl rfl h56 dX11_statement_141 ?_
        obtain ⟨c58, h59, h⟩ := h
        obtain ⟨h60, h⟩ := h
        obtain ⟨h61, h⟩ := h
        refine y_bald hg h59 h60 h61 dX11_statement_144 ?_
        refine y_bipush (v := 59) hg dX11_statement_145 (by decide) ?_
        refine y_icmp_eq (tgt := 152) hg dX11_statement_147 (by decide) (fun q62 => ?_) (fun q62 => ?_)
        · replace h := h.1 q62
          refine y_aload_n hg 1 dX11_statement_152 rfl rfl ?_
          refine y_dup hg dX11_statement_153 rfl ?_
          refine y_getI hg fl_X11_347 rfl rfl h56 dX11_statement_154 ?_
          refine y_iconst (v := 1) hg dX11_statement_157 (by decide) ?_
          refine y_iadd hg dX11_statement_158 ?_
          refine y_putI hg fw_X11_347 (fun z => nomatch z) rfl h56 dX11_statement_159 ?_
          refine y_nmS (fun σ63 e64 => ?_)
          replace h := h σ63 e64
          have E65 : sK σ63 = sK σ54 := by rw [e64]; rfl
          refine y_iconst (v := 1) hg dX11_statement_162 (by decide) ?_
          exact yEndI hend (bz_nar (Or.inr rfl)).1 dX11_statement_163 h
        · replace h := h.2 q62
          refine y_iconst (v := 0) hg dX11_statement_150 (by decide) ?_
          exact yEndI hend (bz_nar (Or.inl rfl)).1 dX11_statement_151 h
    · replace h := h.1 q51
      refine y_iconst (v := 0) hg dX11_statement_119 (by decide) ?_
      exact yEndI hend (bz_nar (Or.inl rfl)).1 dX11_statement_120 h
  refine y_aload_n hg 0 dX11_statement_0 rfl rfl ?_
  refine y_ldc2 hg cw_X11_394 dX11_statement_1 ?_
  obtain ⟨h1, h⟩ := h
  refine yVIW (Qm := _) (rest := []) (As := [.long 1953854062]) hg (k_X11_takes (gL g.1) (gD g.1) a0 1953854062 σ _ h) lv_X11_368 rfl h1 rfl rfl dX11_statement_4 (cat8 (Nat.le_of_ble_eq_true rfl)) hrm ⟨Nat.le_of_ble_eq_true rfl, Nat.le_of_ble_eq_true rfl⟩ (fun x2 σ3 h h4 => ?_)
  have h5 := kp h4 (show ¬ 13 = 0 by decide) h1
  refine y_if_eq (tgt := 18) hg dX11_statement_7 (by decide) (fun q6 => ?_) (fun q6 => ?_)
  · replace h := h.1 q6
    refine y_aload_n hg 0 dX11_statement_18 rfl rfl ?_
    refine y_ldc2 hg cw_X11_399 dX11_statement_19 ?_
    refine yVIW (Qm := _) (rest := []) (As := [.long 1819242347]) hg (k_X11_takes (gL g.1) (gD g.1) a0 1819242347 σ3 _ h) lv_X11_368 rfl h5 rfl rfl dX11_statement_22 (cat8 (Nat.le_of_ble_eq_true rfl)) hrm ⟨Nat.le_of_ble_eq_true rfl, Nat.le_of_ble_eq_true rfl⟩ (fun x7 σ8 h h9 => ?_)
    have h10 := kp h9 (show ¬ 13 = 0 by decide) h5
    refine y_if_eq (tgt := 36) hg dX11_statement_25 (by decide) (fun q11 => ?_) (fun q11 => ?_)
    · replace h := h.1 q11
      refine y_aload_n hg 0 dX11_statement_36 rfl rfl ?_
      refine y_ldc2 hg cw_X11_404 dX11_statement_37 ?_
      refine yVIW (Qm := _) (rest := []) (As := [.long 119182682645875]) hg (k_X11_takes (gL g.1) (gD g.1) a0 119182682645875 σ8 _ h) lv_X11_368 rfl h10 rfl rfl dX11_statement_40 (cat8 (Nat.le_of_ble_eq_true rfl)) hrm ⟨Nat.le_of_ble_eq_true rfl, Nat.le_of_ble_eq_true rfl⟩ (fun x12 σ13 h h14 => ?_)
      have h15 := kp h14 (show ¬ 13 = 0 by decide) h10
      refine y_if_eq (tgt := 59) hg dX11_statement_43 (by decide) (fun q16 => ?_) (fun q16 => ?_)
      · replace h := h.1 q16
        refine y_aload_n hg 0 dX11_statement_59 rfl rfl ?_
        refine y_ldc2 hg cw_X11_406 dX11_statement_60 ?_
        refine yVIW (Qm := _) (rest := []) (As := [.long 6710629]) hg (k_X11_takes (gL g.1) (gD g.1) a0 6710629 σ13 _ h) lv_X11_368 rfl h15 rfl rfl dX11_statement_63 (cat8 (Nat.le_of_ble_eq_true rfl)) hrm ⟨Nat.le_of_ble_eq_true rfl, Nat.le_of_ble_eq_true rfl⟩ (fun x17 σ18 h h19 => ?_)
        have h20 := kp h19 (show ¬ 13 = 0 by decide) h15
        refine y_if_eq (tgt := 85) hg dX11_statement_66 (by decide) (fun q21 => ?_) (fun q21 => ?_)
        · replace h := h.1 q21
          refine y_aload_n hg 0 dX11_statement_85 rfl rfl ?_
          refine y_ldc2 hg cw_X11_412 dX11_statement_86 ?_
          refine yVIW (Qm := _) (rest := []) (As := [.long 1668248436]) hg (k_X11_takes (gL g.1) (gD g.1) a0 1668248436 σ18 _ h) lv_X11_368 rfl h20 rfl rfl dX11_statement_89 (cat8 (Nat.le_of_ble_eq_true rfl)) hrm ⟨Nat.le_of_ble_eq_true rfl, Nat.le_of_ble_eq_true rfl⟩ (fun x22 σ23 h h24 => ?_)
          have h25 := kp h24 (show ¬ 13 = 0 by decide) h20
          refine y_if_eq (tgt := 109) hg dX11_statement_92 (by decide) (fun q26 => ?_) (fun q26 => ?_)
          · replace h := h.1 q26
            refine y_aload_n hg 0 dX11_statement_109 rfl rfl ?_
            refine y_iload_n hg 1 dX11_statement_110 rfl rfl ?_
            refine yVIW (Qm := _) (rest := []) (As := [.int v1]) hg (k_X11_others (gL g.1) (gD g.1) a0 v1 σ23 _ h) lv_X11_416 rfl h25 rfl rfl dX11_statement_111 (cat8 (Nat.le_of_ble_eq_true rfl)) hrm ⟨Nat.le_of_ble_eq_true rfl, Nat.le_of_ble_eq_true rfl⟩ (fun x27 σ28 h h29 => ?_)
            have h30 := kp h29 (show ¬ 13 = 0 by decide) h25
            refine y_sub [0] rfl ?_
            exact J114 _ _ h
          · replace h := h.2 q26
            refine y_aload_n hg 0 dX11_statement_95 rfl rfl ?_
            refine y_iload_n hg 1 dX11_statement_96 rfl rfl ?_
            refine y_bipush (v := 10) hg dX11_statement_97 (by decide) ?_
            refine y_ldc2 hg cw_X11_414 dX11_statement_99 ?_
            refine y_lconst (v := 0) hg dX11_statement_102 (by decide) ?_
            refine yVIW (Qm := _) (rest := []) (As := [.int v1, .int 10, .long 1651472236, .long 0]) hg (k_X11_row (gL g.1) (gD g.1) a0 v1 10 1651472236 0 σ23 _ h) lv_X11_390 rfl h25 rfl rfl dX11_statement_103 (cat8 (Nat.le_of_ble_eq_true rfl)) hrm ⟨Nat.le_of_ble_eq_true rfl, Nat.le_of_ble_eq_true rfl⟩ (fun x31 σ32 h h33 => ?_)
            have h34 := kp h33 (show ¬ 13 = 0 by decide) h25
            refine y_goto (tgt := 114) hg dX11_statement_106 (by decide) ?_
            refine y_sub [0] rfl ?_
            exact J114 _ _ h
        · replace h := h.2 q21
          refine y_aload_n hg 0 dX11_statement_69 rfl rfl ?_
          refine y_iload_n hg 1 dX11_statement_70 rfl rfl ?_
          refine y_bipush (v := 7) hg dX11_statement_71 (by decide) ?_
          refine y_ldc2 hg cw_X11_408 dX11_statement_73 ?_
          refine y_ldc2 hg cw_X11_410 dX11_statement_76 ?_
          refine yVIW (Qm := _) (rest := []) (As := [.int v1, .int 7, .long 109342978500980, .long 6448484]) hg (k_X11_row (gL g.1) (gD g.1) a0 v1 7 109342978500980 6448484 σ18 _ h) lv_X11_390 rfl h20 rfl rfl dX11_statement_79 (cat8 (Nat.le_of_ble_eq_true rfl)) hrm ⟨Nat.le_of_ble_eq_true rfl, Nat.le_of_ble_eq_true rfl⟩ (fun x35 σ36 h h37 => ?_)
          have h38 := kp h37 (show ¬ 13 = 0 by decide) h20
          refine y_goto (tgt := 114) hg dX11_statement_82 (by decide) ?_
          refine y_sub [0] rfl ?_
          exact J114 _ _ h
      · replace h := h.2 q16
        refine y_aload_n hg 0 dX11_statement_46 rfl rfl ?_
        refine y_iload_n hg 1 dX11_statement_47 rfl rfl ?_
        refine y_iconst (v := 1) hg dX11_statement_48 (by decide) ?_
        refine y_ldc2 hg cw_X11_376 dX11_statement_49 ?_
        refine y_lconst (v := 0) hg dX11_statement_52 (by decide) ?_
        refine yVIW (Qm := _) (rest := []) (As := [.int v1, .int 1, .long 29807, .long 0]) hg (k_X11_row (gL g.1) (gD g.1) a0 v1 1 29807 0 σ13 _ h) lv_X11_390 rfl h15 rfl rfl dX11_statement_53 (cat8 (Nat.le_of_ble_eq_true rfl)) hrm ⟨Nat.le_of_ble_eq_true rfl, Nat.le_of_ble_eq_true rfl⟩ (fun x39 σ40 h h41 => ?_)
        have h42 := kp h41 (show ¬ 13 = 0 by decide) h15
        refine y_goto (tgt := 114) hg dX11_statement_56 (by decide) ?_
        refine y_sub [0] rfl ?_
        exact J114 _ _ h
    · replace h := h.2 q11
      refine y_aload_n hg 0 dX11_statement_28 rfl rfl ?_
      refine y_iload_n hg 1 dX11_statement_29 rfl rfl ?_
      refine yVIW (Qm := _) (rest := []) (As := [.int v1]) hg (k_X11_grades (gL g.1) (gD g.1) a0 v1 σ8 _ h) lv_X11_401 rfl h10 rfl rfl dX11_statement_30 (cat8 (Nat.le_of_ble_eq_true rfl)) hrm ⟨Nat.le_of_ble_eq_true rfl, Nat.le_of_ble_eq_true rfl⟩ (fun x43 σ44 h h45 => ?_)
      have h46 := kp h45 (show ¬ 13 = 0 by decide) h10
      refine y_goto (tgt := 114) hg dX11_statement_33 (by decide) ?_
      refine y_sub [0] rfl ?_
      exact J114 _ _ h
  · replace h := h.2 q6
    refine y_aload_n hg 0 dX11_statement_10 rfl rfl ?_
    refine y_iload_n hg 1 dX11_statement_11 rfl rfl ?_
    refine yVIW (Qm := _) (rest := []) (As := [.int v1]) hg (k_X11_turnsIn (gL g.1) (gD g.1) a0 v1 σ3 _ h) lv_X11_396 rfl h5 rfl rfl dX11_statement_12 (cat8 (Nat.le_of_ble_eq_true rfl)) hrm ⟨Nat.le_of_ble_eq_true rfl, Nat.le_of_ble_eq_true rfl⟩ (fun x47 σ48 h h49 => ?_)
    have h50 := kp h49 (show ¬ 13 = 0 by decide) h5
    refine y_goto (tgt := 114) hg dX11_statement_15 (by decide) ?_
    refine y_sub [0] rfl ?_
    exact J114 _ _ h
def P_X11_rules_B182 (a0 : Nat) (v2 : Int32) (w0 : Option Nat) (w1 : Int32) (σ : Sg) (Q : Int32 → Sg → Prop) : Prop :=
  ∃ c80 : Nat, w0 = some c80 ∧ sK σ c80 % 32 = 13 ∧ ∀ σ83 : Sg, σ83 = pI σ c80 80 w1 → (v2 = 0 → Q (-1) σ83) ∧ (¬ (v2 = 0) → sK σ83 a0 % 32 = 13 ∧ ∃ c88 : Nat, sR σ83 a0 69 = some c88 ∧ sK σ83 c88 % 32 = 16 ∧ vp_in (sI σ83 a0 67) (sN σ83 c88) ∧ ∀ σ92 : Sg, σ92 = pI σ83 c88 (sI σ83 a0 67).toNatClampNeg (sI σ83 a0 0) → ∀ σ95 : Sg, σ95 = pI σ92 a0 67 ((sI σ92 a0 67) + 1) → Q ((sI σ95 a0 67) - 1) σ95)
def P_X11_rules_B169 (a0 : Nat) (v2 : Int32) (σ : Sg) (Q : Int32 → Sg → Prop) : Prop :=
  (v2 = 0 → sK σ a0 % 32 = 13 ∧ P_X11_rules_B182 a0 v2 (some a0) (sI σ a0 79) σ Q) ∧ (¬ (v2 = 0) → P_X11_rules_B182 a0 v2 (some a0) (-1) σ Q)
def P_X11_rules_B141 (a0 : Nat) (w0 : Int32) (σ : Sg) (Q : Int32 → Sg → Prop) (K83 : Int32 → Sg → Prop) : Prop :=
  (w0 = 0 → K83 w0 σ) ∧ (¬ (w0 = 0) → sK σ a0 % 32 = 13 ∧ ∃ c62 : Nat, sR σ a0 68 = some c62 ∧ sK σ c62 % 32 = 16 ∧ vp_in (sI σ a0 67) (sN σ c62) ∧ vp_in (sI σ a0 67) (sN σ c62) ∧ ∀ σ67 : Sg, σ67 = pI σ c62 (sI σ a0 67).toNatClampNeg ((sI σ c62 (sI σ a0 67).toNatClampNeg) + 1) → P_X11_blanks a0 σ67 (fun _ σ71 => K83 w0 σ71))
def P_X11_rules_B140 (a0 : Nat) (σ : Sg) (Q : Int32 → Sg → Prop) (K83 : Int32 → Sg → Prop) : Prop :=
  P_X11_rules_B141 a0 0 σ Q K83
def P_X11_rules_L83b (a0 : Nat) (v2 : Int32) (σ : Sg) (Q : Int32 → Sg → Prop) (K83 : Int32 → Sg → Prop) : Prop :=
  (v2 = 0 → P_X11_rules_B169 a0 v2 σ Q) ∧ (¬ (v2 = 0) → sK σ a0 % 32 = 13 ∧ ((sI σ a0 78) ≤ (sI σ a0 79) → P_X11_rules_B169 a0 v2 σ Q) ∧ (¬ ((sI σ a0 78) ≤ (sI σ a0 79)) → ∃ c46 : Nat, sR σ a0 68 = some c46 ∧ sK σ c46 % 32 = 16 ∧ vp_in (sI σ a0 67) (sN σ c46) ∧ (24 ≤ (sI σ c46 (sI σ a0 67).toNatClampNeg) → P_X11_rules_B140 a0 σ Q K83) ∧ (¬ (24 ≤ (sI σ c46 (sI σ a0 67).toNatClampNeg)) → ∃ c51 : Nat, sR σ a0 68 = some c51 ∧ sK σ c51 % 32 = 16 ∧ vp_in (sI σ a0 67) (sN σ c51) ∧ P_X11_statement a0 ((24 * (sI σ a0 67)) + (sI σ c51 (sI σ a0 67).toNatClampNeg)) σ (fun x55 σ56 => (x55 = 0 → P_X11_rules_B140 a0 σ56 Q K83) ∧ (¬ (x55 = 0) → P_X11_rules_B141 a0 1 σ56 Q K83)))))
def P_X11_rules_L83 (a0 : Nat) (v2 : Int32) (σ : Sg) (Q : Int32 → Sg → Prop) : Prop :=
  ∃ I : Nat → Int32 → Sg → Prop, (∃ n, I n v2 σ) ∧ ∀ (n : Nat) (v2 : Int32) (σ : Sg), I n v2 σ → P_X11_rules_L83b a0 v2 σ Q (fun v2 σ => ∃ n', n' < n ∧ I n' v2 σ)
def P_X11_rules_L29b (a0 : Nat) (v1 : Int32) (v2 : Int32) (σ : Sg) (Q : Int32 → Sg → Prop) (K29 : Int32 → Sg → Prop) : Prop :=
  (v1 ≤ v2 → sK σ a0 % 32 = 13 ∧ ∀ σ7 : Sg, σ7 = pI σ a0 78 v1 → ∀ σ10 : Sg, σ10 = pI σ7 a0 77 0 → ∀ σ13 : Sg, σ13 = pI σ10 a0 79 0 → ∃ c16 : Nat, sR σ13 a0 68 = some c16 ∧ sK σ13 c16 % 32 = 16 ∧ vp_in (sI σ13 a0 67) (sN σ13 c16) ∧ ∀ σ20 : Sg, σ20 = pI σ13 c16 (sI σ13 a0 67).toNatClampNeg 0 → P_X11_blanks a0 σ20 (fun _ σ24 => P_X11_rules_L83 a0 1 σ24 Q)) ∧ (¬ (v1 ≤ v2) → sK σ a0 % 32 = 13 ∧ ∃ c28 : Nat, sR σ a0 75 = some c28 ∧ sK σ c28 % 32 = 19 ∧ vp_in v2 (sN σ c28) ∧ ∃ c32 : Nat, sR σ a0 76 = some c32 ∧ sK σ c32 % 32 = 19 ∧ vp_in v2 (sN σ c32) ∧ ∀ σ36 : Sg, σ36 = pI σ c32 v2.toNatClampNeg (sI σ c28 v2.toNatClampNeg).toInt8.toInt32 → ∀ x39 : Int32, x39 = v2 + 1 → K29 x39 σ36)
def P_X11_rules_L29 (a0 : Nat) (v1 : Int32) (v2 : Int32) (σ : Sg) (Q : Int32 → Sg → Prop) : Prop :=
  ∃ I : Nat → Int32 → Sg → Prop, (∃ n, I n v2 σ) ∧ ∀ (n : Nat) (v2 : Int32) (σ : Sg), I n v2 σ → P_X11_rules_L29b a0 v1 v2 σ Q (fun v2 σ => ∃ n', n' < n ∧ I n' v2 σ)
def P_X11_rules (a0 : Nat) (v1 : Int32) (σ : Sg) (Q : Int32 → Sg → Prop) : Prop :=
  sK σ a0 % 32 = 13 ∧ P_X11_isIn v1 0 (sI σ a0 77) σ (fun x2 => (x2 = 0 → Q (-2) σ) ∧ (¬ (x2 = 0) → ((sI σ a0 67) = 10 → Q (-3) σ) ∧ (¬ ((sI σ a0 67) = 10) → P_X11_rules_L29 a0 v1 0 σ Q)))
set_option maxHeartbeats 4000000 in
set_option maxRecDepth 100000 in
theorem k_X11_rules (l : Launch) (D : Dg) (a0 : Nat) (v1 : Int32) (σ : Sg) (Q : Int32 → Sg → Prop) (h : P_X11_rules a0 v1 σ Q) : CtrY RN l D yX11_rules cX11_rules 3 (some FieldType.int) 6 135 mkI [.ref a0, .int v1] σ (0, 0) Q := by
  refine y_ctrN (lv := [(0, va_rf (some a0)), (1, .int v1)]) (by decide) (by (exact Nat.le_of_ble_eq_true rfl)) (by (exact rfl)) (fun g hg hgL hgD hrm hgN hgI hend => ?_)
  subst hgD
  clear hgL
  unfold P_X11_rules at h
  have J182 : ∀ (v2 : Int32) (w0 : Option Nat) (w1 : Int32) (σ : Sg), P_X11_rules_B182 a0 v2 w0 w1 σ Q → XA g 182 [(0, va_rf (some a0)), (2, .int v2)] [.int w1, va_rf w0] σ (0, 0) := by
    intro v2 w0 w1 σ h
    unfold P_X11_rules_B182 at h
    obtain ⟨c80, h81, h⟩ := h
    obtain ⟨h82, h⟩ := h
    refine y_putI hg fw_X11_187 (fun z => nomatch z) h81 h82 dX11_rules_182 ?_
    refine y_nmS (fun σ83 e84 => ?_)
    replace h := h σ83 e84
    have E85 : sK σ83 = sK σ := by rw [e84]; rfl
    refine y_iload_n hg 1 dX11_rules_185 rfl rfl ?_
    refine y_if_ne (tgt := 191) hg dX11_rules_186 (by decide) (fun q86 => ?_) (fun q86 => ?_)
    · replace h := h.2 q86
      refine y_aload_n hg 0 dX11_rules_191 rfl rfl ?_
      obtain ⟨h87, h⟩ := h
      refine y_getR hg fl_X11_162 rfl rfl h87 dX11_rules_192 ?_
      refine y_aload_n hg 0 dX11_rules_195 rfl rfl ?_
      refine y_getI hg fl_X11_419 rfl rfl h87 dX11_rules_196 ?_
      refine y_aload_n hg 0 dX11_rules_199 rfl rfl ?_
      refine y_getI hg fl_X11_212 rfl rfl h87 dX11_rules_200 ?_
      obtain ⟨c88, h89, h⟩ := h
      obtain ⟨h90, h⟩ := h
      obtain ⟨h91, h⟩ := h
      refine y_iast hg h89 h90 h91 dX11_rules_203 ?_
      refine y_nmS (fun σ92 e93 => ?_)
      replace h := h σ92 e93
      have E94 : sK σ92 = sK σ83 := by rw [e93]; rfl
      refine y_aload_n hg 0 dX11_rules_204 rfl rfl ?_
      refine y_dup hg dX11_rules_205 rfl ?_
      refine y_getI hg fl_X11_419 rfl rfl (kq E94 h87) dX11_rules_206 ?_
      refine y_iconst (v := 1) hg dX11_rules_209 (by decide) ?_
      refine y_iadd hg dX11_rules_210 ?_
      refine y_putI hg fw_X11_419 (fun z => nomatch z) rfl (kq E94 h87) dX11_rules_211 ?_
      refine y_nmS (fun σ95 e96 => ?_)
      replace h := h σ95 e96
      have E97 : sK σ95 = sK σ92 := by rw [e96]; rfl
      refine y_aload_n hg 0 dX11_rules_214 rfl rfl ?_
      refine y_getI hg fl_X11_419 rfl rfl (kq E97 (kq E94 h87)) dX11_rules_215 ?_
      refine y_iconst (v := 1) hg dX11_rules_218 (by decide) ?_
      refine y_isub hg dX11_rules_219 ?_
      exact yEndI hend rfl dX11_rules_220 h
    · replace h := h.1 q86
      refine y_iconst (v := (-1)) hg dX11_rules_189 (by decide) ?_
      exact yEndI hend rfl dX11_rules_190 h
  have J169 : ∀ (v2 : Int32) (σ : Sg), P_X11_rules_B169 a0 v2 σ Q → XA g 169 [(0, va_rf (some a0)), (2, .int v2)] [] σ (0, 0) := by
    intro v2 σ h
    unfold P_X11_rules_B169 at h
    refine y_aload_n hg 0 dX11_rules_169 rfl rfl ?_
    refine y_iload_n hg 1 dX11_rules_170 rfl rfl ?_
    refine y_if_eq (tgt := 178) hg dX11_rules_171 (by decide) (fun q78 => ?_) (fun q78 => ?_)
    · replace h := h.1 q78
      refine y_aload_n hg 0 dX11_rules_178 rfl rfl ?_
      obtain ⟨h79, h⟩ := h
      refine y_getI hg fl_X11_347 rfl rfl h79 dX11_rules_179 ?_
      refine y_sub [0, 1] rfl ?_
      exact J182 _ _ _ _ h
    · replace h := h.2 q78
      refine y_iconst (v := (-1)) hg dX11_rules_174 (by decide) ?_
      refine y_goto (tgt := 182) hg dX11_rules_175 (by decide) ?_
      refine y_sub [0, 1] rfl ?_
      exact J182 _ _ _ _ h
  have J83 : ∀ (v2 : Int32) (σ : Sg), P_X11_rules_L83 a0 v2 σ Q → XA g 83 [(0, va_rf (some a0)), (2, .int v2)] [] σ (0, 0) := by
    intro v2 σ h
    unfold P_X11_rules_L83 at h
    obtain ⟨I83, ⟨n83, hI83⟩, hs83⟩ := h
    have key83 : ∀ (n : Nat), ∀ (v2 : Int32) (σ : Sg), I83 n v2 σ → XA g 83 [(0, va_rf (some a0)), (2, .int v2)] [] σ (0, 0) := by
      intro n
      induction n using Nat.strongRecOn with
      | _ n ih83 =>
      intro v2 σ hI
      have h := hs83 n v2 σ hI
      clear hI hI83 hs83
      obtain ⟨K83, hK83⟩ : ∃ K : Int32 → Sg → Prop, K = (fun v2 σ => ∃ n', n' < n ∧ I83 n' v2 σ) := ⟨_, rfl⟩
      rw [← hK83] at h
      unfold P_X11_rules_L83b at h
      have J141 : ∀ (w0 : Int32) (σ : Sg), P_X11_rules_B141 a0 w0 σ Q K83 → XA g 141 [(0, va_rf (some a0))] [.int w0] σ (0, 0) := by
        intro w0 σ h
        unfold P_X11_rules_B141 at h
        refine y_istore_n (lv' := [(2, .int w0), (0, va_rf (some a0))]) hg dX11_rules_141 rfl (by rw [hgN]; decide) rfl ?_
        refine y_iload_n hg 0 dX11_rules_142 rfl rfl ?_
        refine y_if_ne (tgt := 149) hg dX11_rules_143 (by decide) (fun q60 => ?_) (fun q60 => ?_)
        · replace h := h.2 q60
          refine y_aload_n hg 1 dX11_rules_149 rfl rfl ?_
          obtain ⟨h61, h⟩ := h
          refine y_getR hg fl_X11_159 rfl rfl h61 dX11_rules_150 ?_
          refine y_aload_n hg 1 dX11_rules_153 rfl rfl ?_
          refine y_getI hg fl_X11_419 rfl rfl h61 dX11_rules_154 ?_
          refine y_dup2 hg dX11_rules_157 rfl (rf_cat _) ?_
          obtain ⟨c62, h63, h⟩ := h
          obtain ⟨h64, h⟩ := h
          obtain ⟨h65, h⟩ := h
          refine y_iald hg h63 h64 h65 dX11_rules_158 ?_
          refine y_iconst (v := 1) hg dX11_rules_159 (by decide) ?_
          refine y_iadd hg dX11_rules_160 ?_
          obtain ⟨h66, h⟩ := h
          refine y_iast hg h63 h64 h66 dX11_rules_161 ?_
          refine y_nmS (fun σ67 e68 => ?_)
          replace h := h σ67 e68
          have E69 : sK σ67 = sK σ := by rw [e68]; rfl
          refine y_aload_n hg 1 dX11_rules_162 rfl rfl ?_
          refine yVVW (Qm := _) (rest := []) (As := []) hg (k_X11_blanks (gL g.1) (gD g.1) a0 σ67 _ h) lv_X11_353 rfl (kq E69 h61) rfl rfl dX11_rules_163 (cat8 (Nat.le_of_ble_eq_true rfl)) hrm ⟨Nat.le_of_ble_eq_true rfl, Nat.le_of_ble_eq_true rfl⟩ (fun u70 σ71 h h72 => ?_)
          have h73 := kp h72 (show ¬ 13 = 0 by decide) (kq E69 h61)
          refine y_goto (tgt := 83) hg dX11_rules_166 (by decide) ?_
          refine y_sub [1, 0] rfl ?_
          subst hK83
          obtain ⟨n74, h75, h⟩ := h
          exact ih83 n74 h75 _ _ h
        · replace h := h.1 q60
          refine y_goto (tgt := 83) hg dX11_rules_146 (by decide) ?_
          refine y_sub [1, 0] rfl ?_
          subst hK83
          obtain ⟨n76, h77, h⟩ := h
          exact ih83 n76 h77 _ _ h
      have J140 : ∀ (σ : Sg), P_X11_rules_B140 a0 σ Q K83 → XA g 140 [(0, va_rf (some a0))] [] σ (0, 0) := by
        intro σ h
        unfold P_X11_rules_B140 at h
        refine y_iconst (v := 0) hg dX11_rules_140 (by decide) ?_
        refine y_sub [0] rfl ?_
        exact J141 _ _ h
      refine y_iload_n hg 1 dX11_rules_83 rfl rfl ?_
      refine y_if_eq (tgt := 169) hg dX11_rules_84 (by decide) (fun q43 => ?_) (fun q43 => ?_)
      · replace h := h.1 q43
        refine y_sub [0, 1] rfl ?_
        exact J169 _ _ h
      · replace h := h.2 q43
        refine y_aload_n hg 0 dX11_rules_87 rfl rfl ?_
        obtain ⟨h44, h⟩ := h
        refine y_getI hg fl_X11_347 rfl rfl h44 dX11_rules_88 ?_
        refine y_aload_n hg 0 dX11_rules_91 rfl rfl ?_
        refine y_getI hg fl_X11_350 rfl rfl h44 dX11_rules_92 ?_
        refine y_icmp_ge (tgt := 169) hg dX11_rules_95 (by decide) (fun q45 => ?_) (fun q45 => ?_)
        · replace h := h.1 q45
          refine y_sub [0, 1] rfl ?_
          exact J169 _ _ h
        · replace h := h.2 q45
          refine y_aload_n hg 0 dX11_rules_98 rfl rfl ?_
          refine y_getR hg fl_X11_159 rfl rfl h44 dX11_rules_99 ?_
          refine y_aload_n hg 0 dX11_rules_102 rfl rfl ?_
          refine y_getI hg fl_X11_419 rfl rfl h44 dX11_rules_103 ?_
          obtain ⟨c46, h47, h⟩ := h
          obtain ⟨h48, h⟩ := h
          obtain ⟨h49, h⟩ := h
          refine y_iald hg h47 h48 h49 dX11_rules_106 ?_
          refine y_bipush (v := 24) hg dX11_rules_107 (by decide) ?_
          refine y_icmp_ge (tgt := 140) hg dX11_rules_109 (by decide) (fun q50 => ?_) (fun q50 => ?_)
          · replace h := h.1 q50
            refine y_sub [0] rfl ?_
            exact J140 _ h
          · replace h := h.2 q50
            refine y_aload_n hg 0 dX11_rules_112 rfl rfl ?_
            refine y_bipush (v := 24) hg dX11_rules_113 (by decide) ?_
            refine y_aload_n hg 0 dX11_rules_115 rfl rfl ?_
            refine y_getI hg fl_X11_419 rfl rfl h44 dX11_rules_116 ?_
            refine y_imul hg dX11_rules_119 ?_
            refine y_aload_n hg 0 dX11_rules_120 rfl rfl ?_
            refine y_getR hg fl_X11_159 rfl rfl h44 dX11_rules_121 ?_
            refine y_aload_n hg 0 dX11_rules_124 rfl rfl ?_
            refine y_getI hg fl_X11_419 rfl rfl h44 dX11_rules_125 ?_
            obtain ⟨c51, h52, h⟩ := h
            obtain ⟨h53, h⟩ := h
            obtain ⟨h54, h⟩ := h
            refine y_iald hg h52 h53 h54 dX11_rules_128 ?_
            refine y_iadd hg dX11_rules_129 ?_
            refine yVIW (Qm := _) (rest := []) (As := [.int ((24 * (sI σ a0 67)) + (sI σ c51 (sI σ a0 67).toNatClampNeg))]) hg (k_X11_statement (gL g.1) (gD g.1) a0 ((24 * (sI σ a0 67)) + (sI σ c51 (sI σ a0 67).toNatClampNeg)) σ _ h) lv_X11_422 rfl h44 rfl rfl dX11_rules_130 (cat8 (Nat.le_of_ble_eq_true rfl)) hrm ⟨Nat.le_of_ble_eq_true rfl, Nat.le_of_ble_eq_true rfl⟩ (fun x55 σ56 h h57 => ?_)
            have h58 := kp h57 (show ¬ 13 = 0 by decide) h44
            refine y_if_eq (tgt := 140) hg dX11_rules_133 (by decide) (fun q59 => ?_) (fun q59 => ?_)
            · replace h := h.1 q59
              refine y_sub [0] rfl ?_
              exact J140 _ h
            · replace h := h.2 q59
              refine y_iconst (v := 1) hg dX11_rules_136 (by decide) ?_
              refine y_goto (tgt := 141) hg dX11_rules_137 (by decide) ?_
              refine y_sub [0] rfl ?_
              exact J141 _ _ h
    exact key83 n83 v2 σ hI83
  have J29 : ∀ (v1 : Int32) (v2 : Int32) (σ : Sg), P_X11_rules_L29 a0 v1 v2 σ Q → XA g 29 [(0, va_rf (some a0)), (1, .int v1), (2, .int v2)] [] σ (0, 0) := by
    intro v1 v2 σ h
    unfold P_X11_rules_L29 at h
    obtain ⟨I29, ⟨n29, hI29⟩, hs29⟩ := h
    have key29 : ∀ (n : Nat), ∀ (v2 : Int32) (σ : Sg), I29 n v2 σ → XA g 29 [(0, va_rf (some a0)), (1, .int v1), (2, .int v2)] [] σ (0, 0) := by
      intro n
      induction n using Nat.strongRecOn with
      | _ n ih29 =>
      intro v2 σ hI
      have h := hs29 n v2 σ hI
      clear hI hI29 hs29
      obtain ⟨K29, hK29⟩ : ∃ K : Int32 → Sg → Prop, K = (fun v2 σ => ∃ n', n' < n ∧ I29 n' v2 σ) := ⟨_, rfl⟩
      rw [← hK29] at h
      unfold P_X11_rules_L29b at h
      refine y_iload_n hg 2 dX11_rules_29 rfl rfl ?_
      refine y_iload_n hg 1 dX11_rules_30 rfl rfl ?_
      refine y_icmp_ge (tgt := 52) hg dX11_rules_31 (by decide) (fun q5 => ?_) (fun q5 => ?_)
      · replace h := h.1 q5
        refine y_aload_n hg 0 dX11_rules_52 rfl rfl ?_
        refine y_iload_n hg 1 dX11_rules_53 rfl rfl ?_
        obtain ⟨h6, h⟩ := h
        refine y_putI hg fw_X11_350 (fun z => nomatch z) rfl h6 dX11_rules_54 ?_
        refine y_nmS (fun σ7 e8 => ?_)
        replace h := h σ7 e8
        have E9 : sK σ7 = sK σ := by rw [e8]; rfl
        refine y_aload_n hg 0 dX11_rules_57 rfl rfl ?_
        refine y_iconst (v := 0) hg dX11_rules_58 (by decide) ?_
        refine y_putI hg fw_X11_341 (fun z => nomatch z) rfl (kq E9 h6) dX11_rules_59 ?_
        refine y_nmS (fun σ10 e11 => ?_)
        replace h := h σ10 e11
        have E12 : sK σ10 = sK σ7 := by rw [e11]; rfl
        refine y_aload_n hg 0 dX11_rules_62 rfl rfl ?_
        refine y_iconst (v := 0) hg dX11_rules_63 (by decide) ?_
        refine y_putI hg fw_X11_347 (fun z => nomatch z) rfl (kq E12 (kq E9 h6)) dX11_rules_64 ?_
        refine y_nmS (fun σ13 e14 => ?_)
        replace h := h σ13 e14
        have E15 : sK σ13 = sK σ10 := by rw [e14]; rfl
        refine y_aload_n hg 0 dX11_rules_67 rfl rfl ?_
        refine y_getR hg fl_X11_159 rfl rfl (kq E15 (kq E12 (kq E9 h6))) dX11_rules_68 ?_
        refine y_aload_n hg 0 dX11_rules_71 rfl rfl ?_
        refine y_getI hg fl_X11_419 rfl rfl (kq E15 (kq E12 (kq E9 h6))) dX11_rules_72 ?_
        refine y_iconst (v := 0) hg dX11_rules_75 (by decide) ?_
        obtain ⟨c16, h17, h⟩ := h
        obtain ⟨h18, h⟩ := h
        obtain ⟨h19, h⟩ := h
        refine y_iast hg h17 h18 h19 dX11_rules_76 ?_
        refine y_nmS (fun σ20 e21 => ?_)
        replace h := h σ20 e21
        have E22 : sK σ20 = sK σ13 := by rw [e21]; rfl
        refine y_iconst (v := 1) hg dX11_rules_77 (by decide) ?_
        refine y_istore_n (lv' := [(2, .int 1), (0, va_rf (some a0)), (1, .int v1)]) hg dX11_rules_78 rfl (by rw [hgN]; decide) rfl ?_
        refine y_aload_n hg 1 dX11_rules_79 rfl rfl ?_
        refine yVVW (Qm := _) (rest := []) (As := []) hg (k_X11_blanks (gL g.1) (gD g.1) a0 σ20 _ h) lv_X11_353 rfl (kq E22 (kq E15 (kq E12 (kq E9 h6)))) rfl rfl dX11_rules_80 (cat8 (Nat.le_of_ble_eq_true rfl)) hrm ⟨Nat.le_of_ble_eq_true rfl, Nat.le_of_ble_eq_true rfl⟩ (fun u23 σ24 h h25 => ?_)
        have h26 := kp h25 (show ¬ 13 = 0 by decide) (kq E22 (kq E15 (kq E12 (kq E9 h6))))
        refine y_sub [1, 0] rfl ?_
        exact J83 _ _ h
      · replace h := h.2 q5
        refine y_aload_n hg 0 dX11_rules_34 rfl rfl ?_
        obtain ⟨h27, h⟩ := h
        refine y_getR hg fl_X11_184 rfl rfl h27 dX11_rules_35 ?_
        refine y_iload_n hg 2 dX11_rules_38 rfl rfl ?_
        refine y_aload_n hg 0 dX11_rules_39 rfl rfl ?_
        refine y_getR hg fl_X11_180 rfl rfl h27 dX11_rules_40 ?_
        refine y_iload_n hg 2 dX11_rules_43 rfl rfl ?_
        obtain ⟨c28, h29, h⟩ := h
        obtain ⟨h30, h⟩ := h
        obtain ⟨h31, h⟩ := h
        refine y_bald hg h29 h30 h31 dX11_rules_44 ?_
        obtain ⟨c32, h33, h⟩ := h
        obtain ⟨h34, h⟩ := h
        obtain ⟨h35, h⟩ := h
        refine y_bast hg h33 h34 h35 dX11_rules_45 ?_
        refine y_nmS (fun σ36 e37 => ?_)
        replace h := h σ36 e37
        have E38 : sK σ36 = sK σ := by rw [e37]; rfl
        obtain ⟨x39, e40⟩ : ∃ y : Int32, y = v2 + 1 := ⟨_, rfl⟩
        replace h := h x39 e40
        refine y_iinc (v := x39) (lv' := [(2, .int x39), (0, va_rf (some a0)), (1, .int v1)]) hg 2 dX11_rules_46 rfl (by rw [e40]; rfl) (by rw [hgN]; decide) rfl ?_
        refine y_goto (tgt := 29) hg dX11_rules_49 (by decide) ?_
        refine y_sub [1, 2, 0] rfl ?_
        subst hK29
        obtain ⟨n41, h42, h⟩ := h
        exact ih29 n41 h42 _ _ h
    exact key29 n29 v2 σ hI29
  refine y_iload_n hg 1 dX11_rules_0 rfl rfl ?_
  refine y_iconst (v := 0) hg dX11_rules_1 (by decide) ?_
  refine y_aload_n hg 0 dX11_rules_2 rfl rfl ?_
  obtain ⟨h1, h⟩ := h
  refine y_getI hg fl_X11_341 rfl rfl h1 dX11_rules_3 ?_
  refine ySIP (Qp := _) (rest := []) (As := [.int v1, .int 0, .int (sI σ a0 77)]) hg (k_X11_isIn (gL g.1) (gD g.1) v1 0 (sI σ a0 77) σ _ h) ls_X11_194 rfl rfl dX11_rules_6 (cat8 (Nat.le_of_ble_eq_true rfl)) hrm ⟨Nat.le_of_ble_eq_true rfl, Nat.le_of_ble_eq_true rfl⟩ (fun x2 h => ?_)
  refine y_if_ne (tgt := 15) hg dX11_rules_9 (by decide) (fun q3 => ?_) (fun q3 => ?_)
  · replace h := h.2 q3
    refine y_aload_n hg 0 dX11_rules_15 rfl rfl ?_
    refine y_getI hg fl_X11_419 rfl rfl h1 dX11_rules_16 ?_
    refine y_bipush (v := 10) hg dX11_rules_19 (by decide) ?_
    refine y_icmp_ne (tgt := 27) hg dX11_rules_21 (by decide) (fun q4 => ?_) (fun q4 => ?_)
    · replace h := h.2 q4
      refine y_iconst (v := 0) hg dX11_rules_27 (by decide) ?_
      refine y_istore_n (lv' := [(2, .int 0), (0, va_rf (some a0)), (1, .int v1)]) hg dX11_rules_28 rfl (by rw [hgN]; decide) rfl ?_
      refine y_sub [1, 2, 0] rfl ?_
      exact J29 _ _ _ h
    · replace h := h.1 q4
      refine y_bipush (v := (-3)) hg dX11_rules_24 (by decide) ?_
      exact yEndI hend rfl dX11_rules_26 h
  · replace h := h.1 q3
    refine y_bipush (v := (-2)) hg dX11_rules_12 (by decide) ?_
    exact yEndI hend rfl dX11_rules_14 h
def P_X11_fault (a0 : Nat) (σ : Sg) (Q : Int32 → Prop) : Prop :=
  sK σ a0 % 32 = 13 ∧ Q (sI σ a0 80)
set_option maxHeartbeats 4000000 in
set_option maxRecDepth 100000 in
theorem k_X11_fault (l : Launch) (D : Dg) (a0 : Nat) (σ : Sg) (Q : Int32 → Prop) (h : P_X11_fault a0 σ Q) : CtrY RN l D yX11_fault cX11_fault 1 (some FieldType.int) 0 0 mkI [.ref a0] σ (0, 0) (fun r σ2 => Q r ∧ σ2 = σ) := by
  refine y_ctrN (lv := [(0, va_rf (some a0))]) (by decide) (by (exact Nat.le_of_ble_eq_true rfl)) (by (exact rfl)) (fun g hg hgL hgD hrm hgN hgI hend => ?_)
  subst hgD
  clear hgL
  unfold P_X11_fault at h
  refine y_aload_n hg 0 dX11_fault_0 rfl rfl ?_
  obtain ⟨h1, h⟩ := h
  refine y_getI hg fl_X11_187 rfl rfl h1 dX11_fault_1 ?_
  exact yEndI hend rfl dX11_fault_4 ⟨h, rfl⟩
def P_X11_law_B99 (a0 : Nat) (v3 : Int32) (v5 : Int32) (w0 : Int32) (w1 : Int32) (σ : Sg) (Q : Int32 → Prop) (K59 : Int32 → Int32 → Prop) : Prop :=
  P_X11_one w1 σ (fun x24 => ∀ x25 : Int32, x25 = w0 + x24 → ∀ x27 : Int32, x27 = v5 + 1 → K59 x25 x27)
def P_X11_law_L59b (a0 : Nat) (v3 : Int32) (v4 : Int32) (v5 : Int32) (σ : Sg) (Q : Int32 → Prop) (K59 : Int32 → Int32 → Prop) : Prop :=
  (v3 = (-1) → Q v4) ∧ (¬ (v3 = (-1)) → sK σ a0 % 32 = 13 ∧ ∃ c14 : Nat, sR σ a0 68 = some c14 ∧ sK σ c14 % 32 = 16 ∧ vp_in v3 (sN σ c14) ∧ (((24 * v3) + (sI σ c14 v3.toNatClampNeg)) ≤ v5 → Q v4) ∧ (¬ (((24 * v3) + (sI σ c14 v3.toNatClampNeg)) ≤ v5) → ∃ c19 : Nat, sR σ a0 70 = some c19 ∧ sK σ c19 % 32 = 16 ∧ vp_in v5 (sN σ c19) ∧ ((sI σ c19 v5.toNatClampNeg) = 30 → P_X11_law_B99 a0 v3 v5 v4 1 σ Q K59) ∧ (¬ ((sI σ c19 v5.toNatClampNeg) = 30) → P_X11_law_B99 a0 v3 v5 v4 0 σ Q K59)))
def P_X11_law_L59 (a0 : Nat) (v3 : Int32) (v4 : Int32) (v5 : Int32) (σ : Sg) (Q : Int32 → Prop) : Prop :=
  ∃ I : Nat → Int32 → Int32 → Prop, (∃ n, I n v4 v5) ∧ ∀ (n : Nat) (v4 : Int32) (v5 : Int32), I n v4 v5 → P_X11_law_L59b a0 v3 v4 v5 σ Q (fun v4 v5 => ∃ n', n' < n ∧ I n' v4 v5)
def P_X11_law (a0 : Nat) (v1 : Int32) (v2 : Int32) (σ : Sg) (Q : Int32 → Prop) : Prop :=
  P_X11_isIn v1 0 3649 σ (fun x1 => (x1 = 0 → Q (-1)) ∧ (¬ (x1 = 0) → P_X11_isIn v2 0 22 σ (fun x3 => (x3 = 0 → Q (-1)) ∧ (¬ (x3 = 0) → sK σ a0 % 32 = 13 ∧ P_X11_inForce a0 v1 σ (fun x6 => (v2 = 22 → Q x6) ∧ (¬ (v2 = 22) → (21 ≤ v2 → ∀ x9 : Int32, x9 = 24 * x6 → P_X11_law_L59 a0 x6 0 x9 σ Q) ∧ (¬ (21 ≤ v2) → P_X11_lawOn a0 v1 v2 σ (fun x11 => Q x11))))))))
set_option maxHeartbeats 4000000 in
set_option maxRecDepth 100000 in
theorem k_X11_law (l : Launch) (D : Dg) (a0 : Nat) (v1 : Int32) (v2 : Int32) (σ : Sg) (Q : Int32 → Prop) (h : P_X11_law a0 v1 v2 σ Q) : CtrY RN l D yX11_law cX11_law 6 (some FieldType.int) 2 48 mkI [.ref a0, .int v1, .int v2] σ (0, 0) (fun r σ2 => Q r ∧ σ2 = σ) := by
  refine y_ctrN (lv := [(0, va_rf (some a0)), (1, .int v1), (2, .int v2)]) (by decide) (by (exact Nat.le_of_ble_eq_true rfl)) (by (exact rfl)) (fun g hg hgL hgD hrm hgN hgI hend => ?_)
  subst hgD
  clear hgL
  unfold P_X11_law at h
  have J59 : ∀ (v3 : Int32) (v4 : Int32) (v5 : Int32), P_X11_law_L59 a0 v3 v4 v5 σ Q → XA g 59 [(0, va_rf (some a0)), (3, .int v3), (4, .int v4), (5, .int v5)] [] σ (0, 0) := by
    intro v3 v4 v5 h
    unfold P_X11_law_L59 at h
    obtain ⟨I59, ⟨n59, hI59⟩, hs59⟩ := h
    have key59 : ∀ (n : Nat), ∀ (v4 : Int32) (v5 : Int32), I59 n v4 v5 → XA g 59 [(0, va_rf (some a0)), (3, .int v3), (4, .int v4), (5, .int v5)] [] σ (0, 0) := by
      intro n
      induction n using Nat.strongRecOn with
      | _ n ih59 =>
      intro v4 v5 hI
      have h := hs59 n v4 v5 hI
      clear hI hI59 hs59
      obtain ⟨K59, hK59⟩ : ∃ K : Int32 → Int32 → Prop, K = (fun v4 v5 => ∃ n', n' < n ∧ I59 n' v4 v5) := ⟨_, rfl⟩
      rw [← hK59] at h
      unfold P_X11_law_L59b at h
      have J99 : ∀ (v5 : Int32) (w0 : Int32) (w1 : Int32), P_X11_law_B99 a0 v3 v5 w0 w1 σ Q K59 → XA g 99 [(0, va_rf (some a0)), (3, .int v3), (5, .int v5)] [.int w1, .int w0] σ (0, 0) := by
        intro v5 w0 w1 h
        unfold P_X11_law_B99 at h
        refine ySIP (Qp := _) (rest := [.int w0]) (As := [.int w1]) hg (k_X11_one (gL g.1) (gD g.1) w1 σ _ h) ls_X11_319 rfl rfl dX11_law_99 (cat8 (Nat.le_of_ble_eq_true rfl)) hrm ⟨Nat.le_of_ble_eq_true rfl, Nat.le_of_ble_eq_true rfl⟩ (fun x24 h => ?_)
        refine y_iadd hg dX11_law_102 ?_
        refine y_nmI (fun x25 e26 => ?_)
        replace h := h x25 e26
        refine y_istore (lv' := [(4, .int x25), (0, va_rf (some a0)), (3, .int v3), (5, .int v5)]) hg dX11_law_103 (by rw [hgN]; decide) rfl ?_
        obtain ⟨x27, e28⟩ : ∃ y : Int32, y = v5 + 1 := ⟨_, rfl⟩
        replace h := h x27 e28
        refine y_iinc (v := x27) (lv' := [(5, .int x27), (4, .int x25), (0, va_rf (some a0)), (3, .int v3)]) hg 3 dX11_law_105 rfl (by rw [e28]; rfl) (by rw [hgN]; decide) rfl ?_
        refine y_goto (tgt := 59) hg dX11_law_108 (by decide) ?_
        refine y_sub [2, 3, 1, 0] rfl ?_
        subst hK59
        obtain ⟨n29, h30, h⟩ := h
        exact ih59 n29 h30 _ _ h
      refine y_iload_n hg 1 dX11_law_59 rfl rfl ?_
      refine y_iconst (v := (-1)) hg dX11_law_60 (by decide) ?_
      refine y_icmp_eq (tgt := 111) hg dX11_law_61 (by decide) (fun q12 => ?_) (fun q12 => ?_)
      · replace h := h.1 q12
        refine y_iload hg 2 dX11_law_111 rfl ?_
        exact yEndI hend rfl dX11_law_113 ⟨h, rfl⟩
      · replace h := h.2 q12
        refine y_iload hg 3 dX11_law_64 rfl ?_
        refine y_bipush (v := 24) hg dX11_law_66 (by decide) ?_
        refine y_iload_n hg 1 dX11_law_68 rfl rfl ?_
        refine y_imul hg dX11_law_69 ?_
        refine y_aload_n hg 0 dX11_law_70 rfl rfl ?_
        obtain ⟨h13, h⟩ := h
        refine y_getR hg fl_X11_159 rfl rfl h13 dX11_law_71 ?_
        refine y_iload_n hg 1 dX11_law_74 rfl rfl ?_
        obtain ⟨c14, h15, h⟩ := h
        obtain ⟨h16, h⟩ := h
        obtain ⟨h17, h⟩ := h
        refine y_iald hg h15 h16 h17 dX11_law_75 ?_
        refine y_iadd hg dX11_law_76 ?_
        refine y_icmp_ge (tgt := 111) hg dX11_law_77 (by decide) (fun q18 => ?_) (fun q18 => ?_)
        · replace h := h.1 q18
          refine y_iload hg 2 dX11_law_111 rfl ?_
          exact yEndI hend rfl dX11_law_113 ⟨h, rfl⟩
        · replace h := h.2 q18
          refine y_iload hg 2 dX11_law_80 rfl ?_
          refine y_aload_n hg 0 dX11_law_82 rfl rfl ?_
          refine y_getR hg fl_X11_165 rfl rfl h13 dX11_law_83 ?_
          refine y_iload hg 3 dX11_law_86 rfl ?_
          obtain ⟨c19, h20, h⟩ := h
          obtain ⟨h21, h⟩ := h
          obtain ⟨h22, h⟩ := h
          refine y_iald hg h20 h21 h22 dX11_law_88 ?_
          refine y_bipush (v := 30) hg dX11_law_89 (by decide) ?_
          refine y_icmp_ne (tgt := 98) hg dX11_law_91 (by decide) (fun q23 => ?_) (fun q23 => ?_)
          · replace h := h.2 q23
            refine y_iconst (v := 0) hg dX11_law_98 (by decide) ?_
            refine y_sub [0, 1, 3] rfl ?_
            exact J99 _ _ _ h
          · replace h := h.1 q23
            refine y_iconst (v := 1) hg dX11_law_94 (by decide) ?_
            refine y_goto (tgt := 99) hg dX11_law_95 (by decide) ?_
            refine y_sub [0, 1, 3] rfl ?_
            exact J99 _ _ _ h
    exact key59 n59 v4 v5 hI59
  refine y_iload_n hg 1 dX11_law_0 rfl rfl ?_
  refine y_iconst (v := 0) hg dX11_law_1 (by decide) ?_
  refine y_sipush (v := 3649) hg dX11_law_2 (by decide) ?_
  refine ySIP (Qp := _) (rest := []) (As := [.int v1, .int 0, .int 3649]) hg (k_X11_isIn (gL g.1) (gD g.1) v1 0 3649 σ _ h) ls_X11_194 rfl rfl dX11_law_5 (cat8 (Nat.le_of_ble_eq_true rfl)) hrm ⟨Nat.le_of_ble_eq_true rfl, Nat.le_of_ble_eq_true rfl⟩ (fun x1 h => ?_)
  refine y_if_eq (tgt := 21) hg dX11_law_8 (by decide) (fun q2 => ?_) (fun q2 => ?_)
  · replace h := h.1 q2
    refine y_iconst (v := (-1)) hg dX11_law_21 (by decide) ?_
    exact yEndI hend rfl dX11_law_22 ⟨h, rfl⟩
  · replace h := h.2 q2
    refine y_iload_n hg 2 dX11_law_11 rfl rfl ?_
    refine y_iconst (v := 0) hg dX11_law_12 (by decide) ?_
    refine y_bipush (v := 22) hg dX11_law_13 (by decide) ?_
    refine ySIP (Qp := _) (rest := []) (As := [.int v2, .int 0, .int 22]) hg (k_X11_isIn (gL g.1) (gD g.1) v2 0 22 σ _ h) ls_X11_194 rfl rfl dX11_law_15 (cat8 (Nat.le_of_ble_eq_true rfl)) hrm ⟨Nat.le_of_ble_eq_true rfl, Nat.le_of_ble_eq_true rfl⟩ (fun x3 h => ?_)
    refine y_if_ne (tgt := 23) hg dX11_law_18 (by decide) (fun q4 => ?_) (fun q4 => ?_)
    · replace h := h.2 q4
      refine y_aload_n hg 0 dX11_law_23 rfl rfl ?_
      refine y_iload_n hg 1 dX11_law_24 rfl rfl ?_
      obtain ⟨h5, h⟩ := h
      refine yVIP (Qp := _) (rest := []) (As := [.int v1]) hg (k_X11_inForce (gL g.1) (gD g.1) a0 v1 σ _ h) lv_X11_240 rfl h5 rfl rfl dX11_law_25 (cat8 (Nat.le_of_ble_eq_true rfl)) hrm ⟨Nat.le_of_ble_eq_true rfl, Nat.le_of_ble_eq_true rfl⟩ (fun x6 h => ?_)
      refine y_istore_n (lv' := [(3, .int x6), (0, va_rf (some a0)), (1, .int v1), (2, .int v2)]) hg dX11_law_28 rfl (by rw [hgN]; decide) rfl ?_
      refine y_iload_n hg 3 dX11_law_29 rfl rfl ?_
      refine y_bipush (v := 22) hg dX11_law_30 (by decide) ?_
      refine y_icmp_ne (tgt := 37) hg dX11_law_32 (by decide) (fun q7 => ?_) (fun q7 => ?_)
      · replace h := h.2 q7
        refine y_iload_n hg 3 dX11_law_37 rfl rfl ?_
        refine y_bipush (v := 21) hg dX11_law_38 (by decide) ?_
        refine y_icmp_ge (tgt := 50) hg dX11_law_40 (by decide) (fun q8 => ?_) (fun q8 => ?_)
        · replace h := h.1 q8
          refine y_iconst (v := 0) hg dX11_law_50 (by decide) ?_
          refine y_istore (lv' := [(4, .int 0), (3, .int x6), (0, va_rf (some a0)), (1, .int v1), (2, .int v2)]) hg dX11_law_51 (by rw [hgN]; decide) rfl ?_
          refine y_bipush (v := 24) hg dX11_law_53 (by decide) ?_
          refine y_iload_n hg 1 dX11_law_55 rfl rfl ?_
          refine y_imul hg dX11_law_56 ?_
          refine y_nmI (fun x9 e10 => ?_)
          replace h := h x9 e10
          refine y_istore (lv' := [(5, .int x9), (4, .int 0), (3, .int x6), (0, va_rf (some a0)), (1, .int v1), (2, .int v2)]) hg dX11_law_57 (by rw [hgN]; decide) rfl ?_
          refine y_sub [3, 2, 1, 0] rfl ?_
          exact J59 _ _ _ h
        · replace h := h.2 q8
          refine y_aload_n hg 1 dX11_law_43 rfl rfl ?_
          refine y_iload_n hg 2 dX11_law_44 rfl rfl ?_
          refine y_iload_n hg 3 dX11_law_45 rfl rfl ?_
          refine yVIP (Qp := _) (rest := []) (As := [.int v1, .int v2]) hg (k_X11_lawOn (gL g.1) (gD g.1) a0 v1 v2 σ _ h) lv_X11_332 rfl h5 rfl rfl dX11_law_46 (cat8 (Nat.le_of_ble_eq_true rfl)) hrm ⟨Nat.le_of_ble_eq_true rfl, Nat.le_of_ble_eq_true rfl⟩ (fun x11 h => ?_)
          exact yEndI hend rfl dX11_law_49 ⟨h, rfl⟩
      · replace h := h.1 q7
        refine y_iload_n hg 0 dX11_law_35 rfl rfl ?_
        exact yEndI hend rfl dX11_law_36 ⟨h, rfl⟩
    · replace h := h.1 q4
      refine y_iconst (v := (-1)) hg dX11_law_21 (by decide) ?_
      exact yEndI hend rfl dX11_law_22 ⟨h, rfl⟩
def P_X11_turn_B122 (a0 : Nat) (v5 : Int32) (σ : Sg) (Q : Int32 → Prop) : Prop :=
  P_X11_one v5 σ (fun x31 => Q x31)
def P_X11_turn_B114 (a0 : Nat) (v1 : Int32) (v2 : Int32) (v3 : Int32) (v4 : Int32) (v6 : Int32) (w0 : Int32) (σ : Sg) (Q : Int32 → Prop) (K48 : Int32 → Int32 → Prop) : Prop :=
  ∀ x32 : Int32, x32 = v6 + 1 → K48 w0 x32
def P_X11_turn_B113 (a0 : Nat) (v1 : Int32) (v2 : Int32) (v3 : Int32) (v4 : Int32) (v6 : Int32) (σ : Sg) (Q : Int32 → Prop) (K48 : Int32 → Int32 → Prop) : Prop :=
  P_X11_turn_B114 a0 v1 v2 v3 v4 v6 0 σ Q K48
def P_X11_turn_B109 (a0 : Nat) (v1 : Int32) (v2 : Int32) (v3 : Int32) (v4 : Int32) (v6 : Int32) (σ : Sg) (Q : Int32 → Prop) (K48 : Int32 → Int32 → Prop) : Prop :=
  P_X11_turn_B114 a0 v1 v2 v3 v4 v6 1 σ Q K48
def P_X11_turn_L48b (a0 : Nat) (v1 : Int32) (v2 : Int32) (v3 : Int32) (v4 : Int32) (v5 : Int32) (v6 : Int32) (σ : Sg) (Q : Int32 → Prop) (K48 : Int32 → Int32 → Prop) : Prop :=
  (v4 = (-1) → P_X11_turn_B122 a0 v5 σ Q) ∧ (¬ (v4 = (-1)) → sK σ a0 % 32 = 13 ∧ ∃ c13 : Nat, sR σ a0 68 = some c13 ∧ sK σ c13 % 32 = 16 ∧ vp_in v4 (sN σ c13) ∧ (((24 * v4) + (sI σ c13 v4.toNatClampNeg)) ≤ v6 → P_X11_turn_B122 a0 v5 σ Q) ∧ (¬ (((24 * v4) + (sI σ c13 v4.toNatClampNeg)) ≤ v6) → (v5 = 0 → P_X11_isTurn a0 v6 v3 σ (fun x19 => (x19 = 0 → P_X11_turn_B113 a0 v1 v2 v3 v4 v6 σ Q K48) ∧ (¬ (x19 = 0) → ∃ c21 : Nat, sR σ a0 71 = some c21 ∧ sK σ c21 % 32 = 16 ∧ vp_in v6 (sN σ c21) ∧ ((sI σ c21 v6.toNatClampNeg) = v1 → ∃ c26 : Nat, sR σ a0 72 = some c26 ∧ sK σ c26 % 32 = 16 ∧ vp_in v6 (sN σ c26) ∧ ((sI σ c26 v6.toNatClampNeg) = v2 → P_X11_turn_B109 a0 v1 v2 v3 v4 v6 σ Q K48) ∧ (¬ ((sI σ c26 v6.toNatClampNeg) = v2) → P_X11_turn_B113 a0 v1 v2 v3 v4 v6 σ Q K48)) ∧ (¬ ((sI σ c21 v6.toNatClampNeg) = v1) → P_X11_turn_B113 a0 v1 v2 v3 v4 v6 σ Q K48)))) ∧ (¬ (v5 = 0) → P_X11_turn_B109 a0 v1 v2 v3 v4 v6 σ Q K48)))
def P_X11_turn_L48 (a0 : Nat) (v1 : Int32) (v2 : Int32) (v3 : Int32) (v4 : Int32) (v5 : Int32) (v6 : Int32) (σ : Sg) (Q : Int32 → Prop) : Prop :=
  ∃ I : Nat → Int32 → Int32 → Prop, (∃ n, I n v5 v6) ∧ ∀ (n : Nat) (v5 : Int32) (v6 : Int32), I n v5 v6 → P_X11_turn_L48b a0 v1 v2 v3 v4 v5 v6 σ Q (fun v5 v6 => ∃ n', n' < n ∧ I n' v5 v6)
def P_X11_turn (a0 : Nat) (v1 : Int32) (v2 : Int32) (v3 : Int32) (σ : Sg) (Q : Int32 → Prop) : Prop :=
  P_X11_isIn v1 0 9 σ (fun x1 => (x1 = 0 → Q (-1)) ∧ (¬ (x1 = 0) → sK σ a0 % 32 = 13 ∧ P_X11_isCorner a0 v2 σ (fun x4 => (x4 = 0 → Q (-1)) ∧ (¬ (x4 = 0) → P_X11_isIn v3 0 3649 σ (fun x6 => (x6 = 0 → Q (-1)) ∧ (¬ (x6 = 0) → P_X11_inForce a0 v3 σ (fun x8 => ∀ x9 : Int32, x9 = 24 * x8 → P_X11_turn_L48 a0 v1 v2 v3 x8 0 x9 σ Q)))))))
set_option maxHeartbeats 4000000 in
set_option maxRecDepth 100000 in
theorem k_X11_turn (l : Launch) (D : Dg) (a0 : Nat) (v1 : Int32) (v2 : Int32) (v3 : Int32) (σ : Sg) (Q : Int32 → Prop) (h : P_X11_turn a0 v1 v2 v3 σ Q) : CtrY RN l D yX11_turn cX11_turn 7 (some FieldType.int) 2 43 mkI [.ref a0, .int v1, .int v2, .int v3] σ (0, 0) (fun r σ2 => Q r ∧ σ2 = σ) := by
  refine y_ctrN (lv := [(0, va_rf (some a0)), (1, .int v1), (2, .int v2), (3, .int v3)]) (by decide) (by (exact Nat.le_of_ble_eq_true rfl)) (by (exact rfl)) (fun g hg hgL hgD hrm hgN hgI hend => ?_)
  subst hgD
  clear hgL
  unfold P_X11_turn at h
  have J122 : ∀ (v5 : Int32), P_X11_turn_B122 a0 v5 σ Q → XA g 122 [(0, va_rf (some a0)), (5, .int v5)] [] σ (0, 0) := by
    intro v5 h
    unfold P_X11_turn_B122 at h
    refine y_iload hg 1 dX11_turn_122 rfl ?_
    refine ySIP (Qp := _) (rest := []) (As := [.int v5]) hg (k_X11_one (gL g.1) (gD g.1) v5 σ _ h) ls_X11_319 rfl rfl dX11_turn_124 (cat8 (Nat.le_of_ble_eq_true rfl)) hrm ⟨Nat.le_of_ble_eq_true rfl, Nat.le_of_ble_eq_true rfl⟩ (fun x31 h => ?_)
    exact yEndI hend rfl dX11_turn_127 ⟨h, rfl⟩
  have J48 : ∀ (v1 : Int32) (v2 : Int32) (v3 : Int32) (v4 : Int32) (v5 : Int32) (v6 : Int32), P_X11_turn_L48 a0 v1 v2 v3 v4 v5 v6 σ Q → XA g 48 [(0, va_rf (some a0)), (1, .int v1), (2, .int v2), (3, .int v3), (4, .int v4), (5, .int v5), (6, .int v6)] [] σ (0, 0) := by
    intro v1 v2 v3 v4 v5 v6 h
    unfold P_X11_turn_L48 at h
    obtain ⟨I48, ⟨n48, hI48⟩, hs48⟩ := h
    have key48 : ∀ (n : Nat), ∀ (v5 : Int32) (v6 : Int32), I48 n v5 v6 → XA g 48 [(0, va_rf (some a0)), (1, .int v1), (2, .int v2), (3, .int v3), (4, .int v4), (5, .int v5), (6, .int v6)] [] σ (0, 0) := by
      intro n
      induction n using Nat.strongRecOn with
      | _ n ih48 =>
      intro v5 v6 hI
      have h := hs48 n v5 v6 hI
      clear hI hI48 hs48
      obtain ⟨K48, hK48⟩ : ∃ K : Int32 → Int32 → Prop, K = (fun v5 v6 => ∃ n', n' < n ∧ I48 n' v5 v6) := ⟨_, rfl⟩
      rw [← hK48] at h
      unfold P_X11_turn_L48b at h
      have J114 : ∀ (v6 : Int32) (w0 : Int32), P_X11_turn_B114 a0 v1 v2 v3 v4 v6 w0 σ Q K48 → XA g 114 [(0, va_rf (some a0)), (1, .int v1), (2, .int v2), (3, .int v3), (4, .int v4), (6, .int v6)] [.int w0] σ (0, 0) := by
        intro v6 w0 h
        unfold P_X11_turn_B114 at h
        refine y_istore (lv' := [(5, .int w0), (0, va_rf (some a0)), (1, .int v1), (2, .int v2), (3, .int v3), (4, .int v4), (6, .int v6)]) hg dX11_turn_114 (by rw [hgN]; decide) rfl ?_
        obtain ⟨x32, e33⟩ : ∃ y : Int32, y = v6 + 1 := ⟨_, rfl⟩
        replace h := h x32 e33
        refine y_iinc (v := x32) (lv' := [(6, .int x32), (5, .int w0), (0, va_rf (some a0)), (1, .int v1), (2, .int v2), (3, .int v3), (4, .int v4)]) hg 6 dX11_turn_116 rfl (by rw [e33]; rfl) (by rw [hgN]; decide) rfl ?_
        refine y_goto (tgt := 48) hg dX11_turn_119 (by decide) ?_
        refine y_sub [2, 3, 4, 5, 6, 1, 0] rfl ?_
        subst hK48
        obtain ⟨n34, h35, h⟩ := h
        exact ih48 n34 h35 _ _ h
      have J113 : ∀ (v6 : Int32), P_X11_turn_B113 a0 v1 v2 v3 v4 v6 σ Q K48 → XA g 113 [(0, va_rf (some a0)), (1, .int v1), (2, .int v2), (3, .int v3), (4, .int v4), (6, .int v6)] [] σ (0, 0) := by
        intro v6 h
        unfold P_X11_turn_B113 at h
        refine y_iconst (v := 0) hg dX11_turn_113 (by decide) ?_
        refine y_sub [0, 1, 2, 3, 4, 5] rfl ?_
        exact J114 _ _ h
      have J109 : ∀ (v6 : Int32), P_X11_turn_B109 a0 v1 v2 v3 v4 v6 σ Q K48 → XA g 109 [(0, va_rf (some a0)), (1, .int v1), (2, .int v2), (3, .int v3), (4, .int v4), (6, .int v6)] [] σ (0, 0) := by
        intro v6 h
        unfold P_X11_turn_B109 at h
        refine y_iconst (v := 1) hg dX11_turn_109 (by decide) ?_
        refine y_goto (tgt := 114) hg dX11_turn_110 (by decide) ?_
        refine y_sub [0, 1, 2, 3, 4, 5] rfl ?_
        exact J114 _ _ h
      refine y_iload hg 4 dX11_turn_48 rfl ?_
      refine y_iconst (v := (-1)) hg dX11_turn_50 (by decide) ?_
      refine y_icmp_eq (tgt := 122) hg dX11_turn_51 (by decide) (fun q11 => ?_) (fun q11 => ?_)
      · replace h := h.1 q11
        refine y_sub [0, 5] rfl ?_
        exact J122 _ h
      · replace h := h.2 q11
        refine y_iload hg 6 dX11_turn_54 rfl ?_
        refine y_bipush (v := 24) hg dX11_turn_56 (by decide) ?_
        refine y_iload hg 4 dX11_turn_58 rfl ?_
        refine y_imul hg dX11_turn_60 ?_
        refine y_aload_n hg 0 dX11_turn_61 rfl rfl ?_
        obtain ⟨h12, h⟩ := h
        refine y_getR hg fl_X11_159 rfl rfl h12 dX11_turn_62 ?_
        refine y_iload hg 4 dX11_turn_65 rfl ?_
        obtain ⟨c13, h14, h⟩ := h
        obtain ⟨h15, h⟩ := h
        obtain ⟨h16, h⟩ := h
        refine y_iald hg h14 h15 h16 dX11_turn_67 ?_
        refine y_iadd hg dX11_turn_68 ?_
        refine y_icmp_ge (tgt := 122) hg dX11_turn_69 (by decide) (fun q17 => ?_) (fun q17 => ?_)
        · replace h := h.1 q17
          refine y_sub [0, 5] rfl ?_
          exact J122 _ h
        · replace h := h.2 q17
          refine y_iload hg 5 dX11_turn_72 rfl ?_
          refine y_if_ne (tgt := 109) hg dX11_turn_74 (by decide) (fun q18 => ?_) (fun q18 => ?_)
          · replace h := h.2 q18
            refine y_sub [0, 1, 2, 3, 4, 6] rfl ?_
            exact J109 _ h
          · replace h := h.1 q18
            refine y_aload_n hg 0 dX11_turn_77 rfl rfl ?_
            refine y_iload hg 6 dX11_turn_78 rfl ?_
            refine y_iload_n hg 3 dX11_turn_80 rfl rfl ?_
            refine yVIP (Qp := _) (rest := []) (As := [.int v6, .int v3]) hg (k_X11_isTurn (gL g.1) (gD g.1) a0 v6 v3 σ _ h) lv_X11_243 rfl h12 rfl rfl dX11_turn_81 (cat8 (Nat.le_of_ble_eq_true rfl)) hrm ⟨Nat.le_of_ble_eq_true rfl, Nat.le_of_ble_eq_true rfl⟩ (fun x19 h => ?_)
            refine y_if_eq (tgt := 113) hg dX11_turn_84 (by decide) (fun q20 => ?_) (fun q20 => ?_)
            · replace h := h.1 q20
              refine y_sub [0, 1, 2, 3, 4, 6] rfl ?_
              exact J113 _ h
            · replace h := h.2 q20
              refine y_aload_n hg 0 dX11_turn_87 rfl rfl ?_
              refine y_getR hg fl_X11_168 rfl rfl h12 dX11_turn_88 ?_
              refine y_iload hg 6 dX11_turn_91 rfl ?_
              obtain ⟨c21, h22, h⟩ := h
              obtain ⟨h23, h⟩ := h
              obtain ⟨h24, h⟩ := h
              refine y_iald hg h22 h23 h24 dX11_turn_93 ?_
              refine y_iload_n hg 1 dX11_turn_94 rfl rfl ?_
              refine y_icmp_ne (tgt := 113) hg dX11_turn_95 (by decide) (fun q25 => ?_) (fun q25 => ?_)
              · replace h := h.2 q25
                refine y_sub [0, 1, 2, 3, 4, 6] rfl ?_
                exact J113 _ h
              · replace h := h.1 q25
                refine y_aload_n hg 0 dX11_turn_98 rfl rfl ?_
                refine y_getR hg fl_X11_171 rfl rfl h12 dX11_turn_99 ?_
                refine y_iload hg 6 dX11_turn_102 rfl ?_
                obtain ⟨c26, h27, h⟩ := h
                obtain ⟨h28, h⟩ := h
                obtain ⟨h29, h⟩ := h
                refine y_iald hg h27 h28 h29 dX11_turn_104 ?_
                refine y_iload_n hg 2 dX11_turn_105 rfl rfl ?_
                refine y_icmp_ne (tgt := 113) hg dX11_turn_106 (by decide) (fun q30 => ?_) (fun q30 => ?_)
                · replace h := h.2 q30
                  refine y_sub [0, 1, 2, 3, 4, 6] rfl ?_
                  exact J113 _ h
                · replace h := h.1 q30
                  refine y_sub [0, 1, 2, 3, 4, 6] rfl ?_
                  exact J109 _ h
    exact key48 n48 v5 v6 hI48
  refine y_iload_n hg 1 dX11_turn_0 rfl rfl ?_
  refine y_iconst (v := 0) hg dX11_turn_1 (by decide) ?_
  refine y_bipush (v := 9) hg dX11_turn_2 (by decide) ?_
  refine ySIP (Qp := _) (rest := []) (As := [.int v1, .int 0, .int 9]) hg (k_X11_isIn (gL g.1) (gD g.1) v1 0 9 σ _ h) ls_X11_194 rfl rfl dX11_turn_4 (cat8 (Nat.le_of_ble_eq_true rfl)) hrm ⟨Nat.le_of_ble_eq_true rfl, Nat.le_of_ble_eq_true rfl⟩ (fun x1 h => ?_)
  refine y_if_eq (tgt := 29) hg dX11_turn_7 (by decide) (fun q2 => ?_) (fun q2 => ?_)
  · replace h := h.1 q2
    refine y_iconst (v := (-1)) hg dX11_turn_29 (by decide) ?_
    exact yEndI hend rfl dX11_turn_30 ⟨h, rfl⟩
  · replace h := h.2 q2
    refine y_aload_n hg 0 dX11_turn_10 rfl rfl ?_
    refine y_iload_n hg 2 dX11_turn_11 rfl rfl ?_
    obtain ⟨h3, h⟩ := h
    refine yVIP (Qp := _) (rest := []) (As := [.int v2]) hg (k_X11_isCorner (gL g.1) (gD g.1) a0 v2 σ _ h) lv_X11_198 rfl h3 rfl rfl dX11_turn_12 (cat8 (Nat.le_of_ble_eq_true rfl)) hrm ⟨Nat.le_of_ble_eq_true rfl, Nat.le_of_ble_eq_true rfl⟩ (fun x4 h => ?_)
    refine y_if_eq (tgt := 29) hg dX11_turn_15 (by decide) (fun q5 => ?_) (fun q5 => ?_)
    · replace h := h.1 q5
      refine y_iconst (v := (-1)) hg dX11_turn_29 (by decide) ?_
      exact yEndI hend rfl dX11_turn_30 ⟨h, rfl⟩
    · replace h := h.2 q5
      refine y_iload_n hg 3 dX11_turn_18 rfl rfl ?_
      refine y_iconst (v := 0) hg dX11_turn_19 (by decide) ?_
      refine y_sipush (v := 3649) hg dX11_turn_20 (by decide) ?_
      refine ySIP (Qp := _) (rest := []) (As := [.int v3, .int 0, .int 3649]) hg (k_X11_isIn (gL g.1) (gD g.1) v3 0 3649 σ _ h) ls_X11_194 rfl rfl dX11_turn_23 (cat8 (Nat.le_of_ble_eq_true rfl)) hrm ⟨Nat.le_of_ble_eq_true rfl, Nat.le_of_ble_eq_true rfl⟩ (fun x6 h => ?_)
      refine y_if_ne (tgt := 31) hg dX11_turn_26 (by decide) (fun q7 => ?_) (fun q7 => ?_)
      · replace h := h.2 q7
        refine y_aload_n hg 0 dX11_turn_31 rfl rfl ?_
        refine y_iload_n hg 3 dX11_turn_32 rfl rfl ?_
        refine yVIP (Qp := _) (rest := []) (As := [.int v3]) hg (k_X11_inForce (gL g.1) (gD g.1) a0 v3 σ _ h) lv_X11_240 rfl h3 rfl rfl dX11_turn_33 (cat8 (Nat.le_of_ble_eq_true rfl)) hrm ⟨Nat.le_of_ble_eq_true rfl, Nat.le_of_ble_eq_true rfl⟩ (fun x8 h => ?_)
        refine y_istore (lv' := [(4, .int x8), (0, va_rf (some a0)), (1, .int v1), (2, .int v2), (3, .int v3)]) hg dX11_turn_36 (by rw [hgN]; decide) rfl ?_
        refine y_iconst (v := 0) hg dX11_turn_38 (by decide) ?_
        refine y_istore (lv' := [(5, .int 0), (4, .int x8), (0, va_rf (some a0)), (1, .int v1), (2, .int v2), (3, .int v3)]) hg dX11_turn_39 (by rw [hgN]; decide) rfl ?_
        refine y_bipush (v := 24) hg dX11_turn_41 (by decide) ?_
        refine y_iload hg 1 dX11_turn_43 rfl ?_
        refine y_imul hg dX11_turn_45 ?_
        refine y_nmI (fun x9 e10 => ?_)
        replace h := h x9 e10
        refine y_istore (lv' := [(6, .int x9), (5, .int 0), (4, .int x8), (0, va_rf (some a0)), (1, .int v1), (2, .int v2), (3, .int v3)]) hg dX11_turn_46 (by rw [hgN]; decide) rfl ?_
        refine y_sub [3, 4, 5, 6, 2, 1, 0] rfl ?_
        exact J48 _ _ _ _ _ _ h
      · replace h := h.1 q7
        refine y_iconst (v := (-1)) hg dX11_turn_29 (by decide) ?_
        exact yEndI hend rfl dX11_turn_30 ⟨h, rfl⟩
def P_X11_sum_L103b (a0 : Nat) (v2 : Int64) (v4 : Int32) (σ : Sg) (Q : Int64 → Prop) (K103 : Int64 → Int32 → Prop) : Prop :=
  sK σ a0 % 32 = 13 ∧ ((sI σ a0 2) ≤ v4 → Q v2) ∧ (¬ ((sI σ a0 2) ≤ v4) → ∃ c22 : Nat, sR σ a0 29 = some c22 ∧ sK σ c22 % 32 = 16 ∧ vp_in v4 (sN σ c22) ∧ ∀ x26 : Int64, x26 = v2 + ((sI σ c22 v4.toNatClampNeg).toInt64) → ∀ x28 : Int32, x28 = v4 + 1 → K103 x26 x28)
def P_X11_sum_L103 (a0 : Nat) (v2 : Int64) (v4 : Int32) (σ : Sg) (Q : Int64 → Prop) : Prop :=
  ∃ I : Nat → Int64 → Int32 → Prop, (∃ n, I n v2 v4) ∧ ∀ (n : Nat) (v2 : Int64) (v4 : Int32), I n v2 v4 → P_X11_sum_L103b a0 v2 v4 σ Q (fun v2 v4 => ∃ n', n' < n ∧ I n' v2 v4)
def P_X11_sum_L67b (a0 : Nat) (v2 : Int64) (v4 : Int32) (σ : Sg) (Q : Int64 → Prop) (K67 : Int64 → Int32 → Prop) : Prop :=
  sK σ a0 % 32 = 13 ∧ ((sI σ a0 1) ≤ v4 → Q v2) ∧ (¬ ((sI σ a0 1) ≤ v4) → ∃ c10 : Nat, sR σ a0 21 = some c10 ∧ sK σ c10 % 32 = 16 ∧ vp_in v4 (sN σ c10) ∧ ∀ x14 : Int64, x14 = v2 + ((sI σ c10 v4.toNatClampNeg).toInt64) → ∀ x16 : Int32, x16 = v4 + 1 → K67 x14 x16)
def P_X11_sum_L67 (a0 : Nat) (v2 : Int64) (v4 : Int32) (σ : Sg) (Q : Int64 → Prop) : Prop :=
  ∃ I : Nat → Int64 → Int32 → Prop, (∃ n, I n v2 v4) ∧ ∀ (n : Nat) (v2 : Int64) (v4 : Int32), I n v2 v4 → P_X11_sum_L67b a0 v2 v4 σ Q (fun v2 v4 => ∃ n', n' < n ∧ I n' v2 v4)
def P_X11_sum (a0 : Nat) (v1 : Int32) (σ : Sg) (Q : Int64 → Prop) : Prop :=
  ∀ y1 : Int32, y1 = v1 → (y1 = 0 → sK σ a0 % 32 = 13 ∧ Q (sL σ a0 35)) ∧ (¬ (y1 = 0) → (y1 = 1 → sK σ a0 % 32 = 13 ∧ Q (sL σ a0 36)) ∧ (¬ (y1 = 1) → (y1 = 2 → sK σ a0 % 32 = 13 ∧ Q (sL σ a0 37)) ∧ (¬ (y1 = 2) → (y1 = 3 → sK σ a0 % 32 = 13 ∧ Q (sL σ a0 38)) ∧ (¬ (y1 = 3) → (y1 = 4 → P_X11_sum_L67 a0 0 0 σ Q) ∧ (¬ (y1 = 4) → (y1 = 5 → sK σ a0 % 32 = 13 ∧ Q (sL σ a0 39)) ∧ (¬ (y1 = 5) → (y1 = 6 → P_X11_sum_L103 a0 0 0 σ Q) ∧ (¬ (y1 = 6) → Q (-1))))))))
set_option maxHeartbeats 4000000 in
set_option maxRecDepth 100000 in
theorem k_X11_sum (l : Launch) (D : Dg) (a0 : Nat) (v1 : Int32) (σ : Sg) (Q : Int64 → Prop) (h : P_X11_sum a0 v1 σ Q) : CtrY RN l D yX11_sum cX11_sum 5 (some FieldType.long) 0 0 mkL [.ref a0, .int v1] σ (0, 0) (fun r σ2 => Q r ∧ σ2 = σ) := by
  refine y_ctrN (lv := [(0, va_rf (some a0)), (1, .int v1)]) (by decide) (by (exact Nat.le_of_ble_eq_true rfl)) (by (exact rfl)) (fun g hg hgL hgD hrm hgN hgI hend => ?_)
  subst hgD
  clear hgL
  unfold P_X11_sum at h
  have J103 : ∀ (v2 : Int64) (v4 : Int32), P_X11_sum_L103 a0 v2 v4 σ Q → XA g 103 [(0, va_rf (some a0)), (2, .long v2), (4, .int v4)] [] σ (0, 0) := by
    intro v2 v4 h
    unfold P_X11_sum_L103 at h
    obtain ⟨I103, ⟨n103, hI103⟩, hs103⟩ := h
    have key103 : ∀ (n : Nat), ∀ (v2 : Int64) (v4 : Int32), I103 n v2 v4 → XA g 103 [(0, va_rf (some a0)), (2, .long v2), (4, .int v4)] [] σ (0, 0) := by
      intro n
      induction n using Nat.strongRecOn with
      | _ n ih103 =>
      intro v2 v4 hI
      have h := hs103 n v2 v4 hI
      clear hI hI103 hs103
      obtain ⟨K103, hK103⟩ : ∃ K : Int64 → Int32 → Prop, K = (fun v2 v4 => ∃ n', n' < n ∧ I103 n' v2 v4) := ⟨_, rfl⟩
      rw [← hK103] at h
      unfold P_X11_sum_L103b at h
      refine y_iload hg 2 dX11_sum_103 rfl ?_
      refine y_aload_n hg 0 dX11_sum_105 rfl rfl ?_
      obtain ⟨h20, h⟩ := h
      refine y_getI hg fl_X11_202 rfl rfl h20 dX11_sum_106 ?_
      refine y_icmp_ge (tgt := 129) hg dX11_sum_109 (by decide) (fun q21 => ?_) (fun q21 => ?_)
      · replace h := h.1 q21
        refine y_lload_n hg 1 dX11_sum_129 rfl rfl ?_
        exact yEndL hend dX11_sum_130 ⟨h, rfl⟩
      · replace h := h.2 q21
        refine y_lload_n hg 1 dX11_sum_112 rfl rfl ?_
        refine y_aload_n hg 0 dX11_sum_113 rfl rfl ?_
        refine y_getR hg fl_X11_77 rfl rfl h20 dX11_sum_114 ?_
        refine y_iload hg 2 dX11_sum_117 rfl ?_
        obtain ⟨c22, h23, h⟩ := h
        obtain ⟨h24, h⟩ := h
        obtain ⟨h25, h⟩ := h
        refine y_iald hg h23 h24 h25 dX11_sum_119 ?_
        refine y_i2l hg dX11_sum_120 ?_
        refine y_ladd hg dX11_sum_121 ?_
        refine y_nmJ (fun x26 e27 => ?_)
        replace h := h x26 e27
        refine y_lstore_n (lv' := [(2, .long x26), (0, va_rf (some a0)), (4, .int v4)]) hg dX11_sum_122 rfl (by rw [hgN]; decide) rfl ?_
        obtain ⟨x28, e29⟩ : ∃ y : Int32, y = v4 + 1 := ⟨_, rfl⟩
        replace h := h x28 e29
        refine y_iinc (v := x28) (lv' := [(4, .int x28), (2, .long x26), (0, va_rf (some a0))]) hg 2 dX11_sum_123 rfl (by rw [e29]; rfl) (by rw [hgN]; decide) rfl ?_
        refine y_goto (tgt := 103) hg dX11_sum_126 (by decide) ?_
        refine y_sub [2, 1, 0] rfl ?_
        subst hK103
        obtain ⟨n30, h31, h⟩ := h
        exact ih103 n30 h31 _ _ h
    exact key103 n103 v2 v4 hI103
  have J67 : ∀ (v2 : Int64) (v4 : Int32), P_X11_sum_L67 a0 v2 v4 σ Q → XA g 67 [(0, va_rf (some a0)), (2, .long v2), (4, .int v4)] [] σ (0, 0) := by
    intro v2 v4 h
    unfold P_X11_sum_L67 at h
    obtain ⟨I67, ⟨n67, hI67⟩, hs67⟩ := h
    have key67 : ∀ (n : Nat), ∀ (v2 : Int64) (v4 : Int32), I67 n v2 v4 → XA g 67 [(0, va_rf (some a0)), (2, .long v2), (4, .int v4)] [] σ (0, 0) := by
      intro n
      induction n using Nat.strongRecOn with
      | _ n ih67 =>
      intro v2 v4 hI
      have h := hs67 n v2 v4 hI
      clear hI hI67 hs67
      obtain ⟨K67, hK67⟩ : ∃ K : Int64 → Int32 → Prop, K = (fun v2 v4 => ∃ n', n' < n ∧ I67 n' v2 v4) := ⟨_, rfl⟩
      rw [← hK67] at h
      unfold P_X11_sum_L67b at h
      refine y_iload hg 2 dX11_sum_67 rfl ?_
      refine y_aload_n hg 0 dX11_sum_69 rfl rfl ?_
      obtain ⟨h8, h⟩ := h
      refine y_getI hg fl_X11_191 rfl rfl h8 dX11_sum_70 ?_
      refine y_icmp_ge (tgt := 93) hg dX11_sum_73 (by decide) (fun q9 => ?_) (fun q9 => ?_)
      · replace h := h.1 q9
        refine y_lload_n hg 1 dX11_sum_93 rfl rfl ?_
        exact yEndL hend dX11_sum_94 ⟨h, rfl⟩
      · replace h := h.2 q9
        refine y_lload_n hg 1 dX11_sum_76 rfl rfl ?_
        refine y_aload_n hg 0 dX11_sum_77 rfl rfl ?_
        refine y_getR hg fl_X11_53 rfl rfl h8 dX11_sum_78 ?_
        refine y_iload hg 2 dX11_sum_81 rfl ?_
        obtain ⟨c10, h11, h⟩ := h
        obtain ⟨h12, h⟩ := h
        obtain ⟨h13, h⟩ := h
        refine y_iald hg h11 h12 h13 dX11_sum_83 ?_
        refine y_i2l hg dX11_sum_84 ?_
        refine y_ladd hg dX11_sum_85 ?_
        refine y_nmJ (fun x14 e15 => ?_)
        replace h := h x14 e15
        refine y_lstore_n (lv' := [(2, .long x14), (0, va_rf (some a0)), (4, .int v4)]) hg dX11_sum_86 rfl (by rw [hgN]; decide) rfl ?_
        obtain ⟨x16, e17⟩ : ∃ y : Int32, y = v4 + 1 := ⟨_, rfl⟩
        replace h := h x16 e17
        refine y_iinc (v := x16) (lv' := [(4, .int x16), (2, .long x14), (0, va_rf (some a0))]) hg 2 dX11_sum_87 rfl (by rw [e17]; rfl) (by rw [hgN]; decide) rfl ?_
        refine y_goto (tgt := 67) hg dX11_sum_90 (by decide) ?_
        refine y_sub [2, 1, 0] rfl ?_
        subst hK67
        obtain ⟨n18, h19, h⟩ := h
        exact ih67 n18 h19 _ _ h
    exact key67 n67 v2 v4 hI67
  refine y_lconst (v := 0) hg dX11_sum_0 (by decide) ?_
  refine y_lstore_n (lv' := [(2, .long 0), (0, va_rf (some a0)), (1, .int v1)]) hg dX11_sum_1 rfl (by rw [hgN]; decide) rfl ?_
  refine y_iload_n hg 2 dX11_sum_2 rfl rfl ?_
  refine y_nmI (fun y1 e2 => ?_)
  replace h := h y1 e2
  by_cases q3_0 : y1 = 0
  · replace h := h.1 q3_0
    refine y_tableIn (tgt := 44) hg dX11_sum_3 (by rw [q3_0]; decide) (by rw [q3_0]; decide) (by rw [q3_0]; rfl) (by decide) ?_
    refine y_aload_n hg 1 dX11_sum_44 rfl rfl ?_
    obtain ⟨h3, h⟩ := h
    refine y_getL hg fl_X11_301 rfl rfl h3 dX11_sum_45 ?_
    exact yEndL hend dX11_sum_48 ⟨h, rfl⟩
  · replace h := h.2 q3_0
    by_cases q3_1 : y1 = 1
    · replace h := h.1 q3_1
      refine y_tableIn (tgt := 49) hg dX11_sum_3 (by rw [q3_1]; decide) (by rw [q3_1]; decide) (by rw [q3_1]; rfl) (by decide) ?_
      refine y_aload_n hg 1 dX11_sum_49 rfl rfl ?_
      obtain ⟨h4, h⟩ := h
      refine y_getL hg fl_X11_233 rfl rfl h4 dX11_sum_50 ?_
      exact yEndL hend dX11_sum_53 ⟨h, rfl⟩
    · replace h := h.2 q3_1
      by_cases q3_2 : y1 = 2
      · replace h := h.1 q3_2
        refine y_tableIn (tgt := 54) hg dX11_sum_3 (by rw [q3_2]; decide) (by rw [q3_2]; decide) (by rw [q3_2]; rfl) (by decide) ?_
        refine y_aload_n hg 1 dX11_sum_54 rfl rfl ?_
        obtain ⟨h5, h⟩ := h
        refine y_getL hg fl_X11_304 rfl rfl h5 dX11_sum_55 ?_
        exact yEndL hend dX11_sum_58 ⟨h, rfl⟩
      · replace h := h.2 q3_2
        by_cases q3_3 : y1 = 3
        · replace h := h.1 q3_3
          refine y_tableIn (tgt := 59) hg dX11_sum_3 (by rw [q3_3]; decide) (by rw [q3_3]; decide) (by rw [q3_3]; rfl) (by decide) ?_
          refine y_aload_n hg 1 dX11_sum_59 rfl rfl ?_
          obtain ⟨h6, h⟩ := h
          refine y_getL hg fl_X11_307 rfl rfl h6 dX11_sum_60 ?_
          exact yEndL hend dX11_sum_63 ⟨h, rfl⟩
        · replace h := h.2 q3_3
          by_cases q3_4 : y1 = 4
          · replace h := h.1 q3_4
            refine y_tableIn (tgt := 64) hg dX11_sum_3 (by rw [q3_4]; decide) (by rw [q3_4]; decide) (by rw [q3_4]; rfl) (by decide) ?_
            refine y_iconst (v := 0) hg dX11_sum_64 (by decide) ?_
            refine y_istore (lv' := [(4, .int 0), (2, .long 0), (0, va_rf (some a0)), (1, .int v1)]) hg dX11_sum_65 (by rw [hgN]; decide) rfl ?_
            refine y_sub [2, 1, 0] rfl ?_
            exact J67 _ _ h
          · replace h := h.2 q3_4
            by_cases q3_5 : y1 = 5
            · replace h := h.1 q3_5
              refine y_tableIn (tgt := 95) hg dX11_sum_3 (by rw [q3_5]; decide) (by rw [q3_5]; decide) (by rw [q3_5]; rfl) (by decide) ?_
              refine y_aload_n hg 1 dX11_sum_95 rfl rfl ?_
              obtain ⟨h7, h⟩ := h
              refine y_getL hg fl_X11_251 rfl rfl h7 dX11_sum_96 ?_
              exact yEndL hend dX11_sum_99 ⟨h, rfl⟩
            · replace h := h.2 q3_5
              by_cases q3_6 : y1 = 6
              · replace h := h.1 q3_6
                refine y_tableIn (tgt := 100) hg dX11_sum_3 (by rw [q3_6]; decide) (by rw [q3_6]; decide) (by rw [q3_6]; rfl) (by decide) ?_
                refine y_iconst (v := 0) hg dX11_sum_100 (by decide) ?_
                refine y_istore (lv' := [(4, .int 0), (2, .long 0), (0, va_rf (some a0)), (1, .int v1)]) hg dX11_sum_101 (by rw [hgN]; decide) rfl ?_
                refine y_sub [2, 1, 0] rfl ?_
                exact J103 _ _ h
              · replace h := h.2 q3_6
                refine y_tableOut (tgt := 131) hg dX11_sum_3 (sw6_out q3_0 q3_1 q3_2 q3_3 q3_4 q3_5 q3_6) (by decide) ?_
                refine y_ldc2 hg cw_X11_313 dX11_sum_131 ?_
                exact yEndL hend dX11_sum_134 ⟨h, rfl⟩
