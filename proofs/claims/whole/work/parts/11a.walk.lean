def P_X10_within_B14 (σ : Sg) (Q : Int32 → Prop) : Prop :=
  Q 0
def P_X10_within (v0 : Int32) (v1 : Int32) (v2 : Int32) (σ : Sg) (Q : Int32 → Prop) : Prop :=
  (v0 < v1 → P_X10_within_B14 σ Q) ∧ (¬ (v0 < v1) → (v2 < v0 → P_X10_within_B14 σ Q) ∧ (¬ (v2 < v0) → Q 1))
set_option maxHeartbeats 4000000 in
set_option maxRecDepth 100000 in
theorem k_X10_within (l : Launch) (D : Dg) (v0 : Int32) (v1 : Int32) (v2 : Int32) (σ : Sg) (Q : Int32 → Prop) (h : P_X10_within v0 v1 v2 σ Q) : CtrY RN l D yX10_within cX10_within 3 (some FieldType.boolean) 0 0 mkI [.int v0, .int v1, .int v2] σ (0, 0) (fun r σ2 => Q r ∧ σ2 = σ) := by
  refine y_ctrN (lv := [(0, .int v0), (1, .int v1), (2, .int v2)]) (by decide) (by (exact Nat.le_of_ble_eq_true rfl)) (by (exact rfl)) (fun g hg hgL hgD hrm hgN hgI hend => ?_)
  subst hgD
  clear hgL
  unfold P_X10_within at h
  have J14 : P_X10_within_B14 σ Q → XA g 14 [] [] σ (0, 0) := by
    intro  h
    unfold P_X10_within_B14 at h
    refine y_iconst (v := 0) hg dX10_within_14 (by decide) ?_
    exact yEndI hend (bz_nar (Or.inl rfl)).1 dX10_within_15 ⟨h, rfl⟩
  refine y_iload_n hg 0 dX10_within_0 rfl rfl ?_
  refine y_iload_n hg 1 dX10_within_1 rfl rfl ?_
  refine y_icmp_lt (tgt := 14) hg dX10_within_2 (by decide) (fun q1 => ?_) (fun q1 => ?_)
  · replace h := h.1 q1
    refine y_sub [] rfl ?_
    exact J14  h
  · replace h := h.2 q1
    refine y_iload_n hg 0 dX10_within_5 rfl rfl ?_
    refine y_iload_n hg 2 dX10_within_6 rfl rfl ?_
    refine y_icmp_gt (tgt := 14) hg dX10_within_7 (by decide) (fun q2 => ?_) (fun q2 => ?_)
    · replace h := h.1 q2
      refine y_sub [] rfl ?_
      exact J14  h
    · replace h := h.2 q2
      refine y_iconst (v := 1) hg dX10_within_10 (by decide) ?_
      refine y_goto (tgt := 15) hg dX10_within_11 (by decide) ?_
      exact yEndI hend (bz_nar (Or.inr rfl)).1 dX10_within_15 ⟨h, rfl⟩
def P_X10_holds (v0 : Int32) (v1 : Int32) (σ : Sg) (Q : Int32 → Prop) : Prop :=
  (((v0 >>> (v1 &&& 31)) &&& 1) = 1 → Q 1) ∧ (¬ (((v0 >>> (v1 &&& 31)) &&& 1) = 1) → Q 0)
set_option maxHeartbeats 4000000 in
set_option maxRecDepth 100000 in
theorem k_X10_holds (l : Launch) (D : Dg) (v0 : Int32) (v1 : Int32) (σ : Sg) (Q : Int32 → Prop) (h : P_X10_holds v0 v1 σ Q) : CtrY RN l D yX10_holds cX10_holds 2 (some FieldType.boolean) 0 0 mkI [.int v0, .int v1] σ (0, 0) (fun r σ2 => Q r ∧ σ2 = σ) := by
  refine y_ctrN (lv := [(0, .int v0), (1, .int v1)]) (by decide) (by (exact Nat.le_of_ble_eq_true rfl)) (by (exact rfl)) (fun g hg hgL hgD hrm hgN hgI hend => ?_)
  subst hgD
  clear hgL
  unfold P_X10_holds at h
  refine y_iload_n hg 0 dX10_holds_0 rfl rfl ?_
  refine y_iload_n hg 1 dX10_holds_1 rfl rfl ?_
  refine y_ishr hg dX10_holds_2 ?_
  refine y_iconst (v := 1) hg dX10_holds_3 (by decide) ?_
  refine y_iand hg dX10_holds_4 ?_
  refine y_iconst (v := 1) hg dX10_holds_5 (by decide) ?_
  refine y_icmp_ne (tgt := 13) hg dX10_holds_6 (by decide) (fun q1 => ?_) (fun q1 => ?_)
  · replace h := h.2 q1
    refine y_iconst (v := 0) hg dX10_holds_13 (by decide) ?_
    exact yEndI hend (bz_nar (Or.inl rfl)).1 dX10_holds_14 ⟨h, rfl⟩
  · replace h := h.1 q1
    refine y_iconst (v := 1) hg dX10_holds_9 (by decide) ?_
    refine y_goto (tgt := 14) hg dX10_holds_10 (by decide) ?_
    exact yEndI hend (bz_nar (Or.inr rfl)).1 dX10_holds_14 ⟨h, rfl⟩
def P_X4_init_L35b (a0 : Nat) (v3 : Int32) (σ : Sg) (b : Nat × Nat) (Q : Unit → Sg → Prop) (K35 : Int32 → Sg → Prop) : Prop :=
  sK σ a0 % 32 = 6 ∧ ∃ c42 : Nat, sR σ a0 3 = some c42 ∧ sK σ c42 % 32 = 16 ∧ ((nI (sN σ c42)) ≤ v3 → Q () σ) ∧ (¬ ((nI (sN σ c42)) ≤ v3) → sK σ 1 % 32 = 24 ∧ ((nI (sN σ 1)) ≤ v3 → Q () σ) ∧ (¬ ((nI (sN σ 1)) ≤ v3) → vp_in v3 (sN σ 1) ∧ ∃ c51 : Nat, sR σ a0 3 = some c51 ∧ sK σ c51 % 32 = 16 ∧ vp_in v3 (sN σ c51) ∧ ∀ σ55 : Sg, σ55 = pI σ c51 v3.toNatClampNeg (sI σ 1 v3.toNatClampNeg) → ∀ x58 : Int32, x58 = v3 + 1 → K35 x58 σ55))
def P_X4_init_L35 (a0 : Nat) (v3 : Int32) (σ : Sg) (b : Nat × Nat) (Q : Unit → Sg → Prop) : Prop :=
  ∃ I : Nat → Int32 → Sg → Prop, (∃ n, I n v3 σ) ∧ ∀ (n : Nat) (v3 : Int32) (σ : Sg), I n v3 σ → P_X4_init_L35b a0 v3 σ b Q (fun v3 σ => ∃ n', n' < n ∧ I n' v3 σ)
def P_X4_init (a0 : Nat) (v1 : Int32) (v2 : Int32) (σ : Sg) (b : Nat × Nat) (Q : Unit → Sg → Prop) : Prop :=
  ∃ κ1 q5 : Nat, κ1 % 32 = 1 ∧ 1 ≤ b.1 ∧ 3 ≤ b.2 ∧ sK σ q5 = 0 ∧ 1000 ≤ q5 ∧ (∀ z, (some a0) = some z → ¬ sK σ z = 0) ∧ ∀ σ9 : Sg, σ9 = nw σ q5 κ1 0 → P_Jx4a65c_init_da8c8 q5 σ9 (fun _ σ13 => sK σ13 a0 % 32 = 6 ∧ ∀ σ17 : Sg, σ17 = pR σ13 a0 2 (some q5) → ∃ κ20 q26 : Nat, κ20 % 32 = 16 ∧ ¬ (21 : Int32) < 0 ∧ (21 : Int32).toNatClampNeg ≤ 65536 ∧ 1 ≤ b.1 - 1 ∧ (21 : Int32).toNatClampNeg ≤ b.2 - 3 ∧ sK σ17 q26 = 0 ∧ 1000 ≤ q26 ∧ ∀ σ29 : Sg, σ29 = nw σ17 q26 κ20 (21 : Int32).toNatClampNeg → ∀ σ32 : Sg, σ32 = pR σ29 a0 3 (some q26) → ∀ σ35 : Sg, σ35 = pI σ32 a0 0 v1 → ∀ σ38 : Sg, σ38 = pI σ35 a0 1 v2 → P_X4_init_L35 a0 0 σ38 (b.1 - 1 - 1, b.2 - 3 - (21 : Int32).toNatClampNeg) Q)
set_option maxHeartbeats 4000000 in
set_option maxRecDepth 100000 in
theorem k_X4_init (l : Launch) (D : Dg) (a0 : Nat) (v1 : Int32) (v2 : Int32) (σ : Sg) (b : Nat × Nat) (Q : Unit → Sg → Prop) (h : P_X4_init a0 v1 v2 σ b Q) : CtrY RA l D yX4_init cX4_init 4 (none) 4 80 mkV [.ref a0, .int v1, .int v2] σ b Q := by
  refine y_ctrA (lv := [(0, va_rf (some a0)), (1, .int v1), (2, .int v2)]) (by decide) (by (exact Nat.le_of_ble_eq_true rfl)) (by (exact rfl)) (fun g hg hgL hgD hrm hgN hgI hend hal => ?_)
  subst hgD
  clear hgL
  unfold P_X4_init at h
  have J35 : ∀ (v3 : Int32) (σ : Sg) (b : Nat × Nat), P_X4_init_L35 a0 v3 σ b Q → XA g 35 [(0, va_rf (some a0)), (3, .int v3)] [] σ b := by
    intro v3 σ b h
    unfold P_X4_init_L35 at h
    obtain ⟨I35, ⟨n35, hI35⟩, hs35⟩ := h
    have key35 : ∀ (n : Nat), ∀ (v3 : Int32) (σ : Sg), I35 n v3 σ → XA g 35 [(0, va_rf (some a0)), (3, .int v3)] [] σ b := by
      intro n
      induction n using Nat.strongRecOn with
      | _ n ih35 =>
      intro v3 σ hI
      have h := hs35 n v3 σ hI
      clear hI hI35 hs35
      obtain ⟨K35, hK35⟩ : ∃ K : Int32 → Sg → Prop, K = (fun v3 σ => ∃ n', n' < n ∧ I35 n' v3 σ) := ⟨_, rfl⟩
      rw [← hK35] at h
      unfold P_X4_init_L35b at h
      refine y_iload_n hg 1 dX4_init_35 rfl rfl ?_
      refine y_aload_n hg 0 dX4_init_36 rfl rfl ?_
      obtain ⟨h41, h⟩ := h
      refine y_getR hg fl_X4_18 rfl rfl h41 dX4_init_37 ?_
      obtain ⟨c42, h43, h⟩ := h
      obtain ⟨h44, h⟩ := h
      refine y_alen hg h43 h44 (by decide) (by decide) dX4_init_40 ?_
      refine y_icmp_ge (tgt := 69) hg dX4_init_41 (by decide) (fun q45 => ?_) (fun q45 => ?_)
      · replace h := h.1 q45
        exact yEndV hend dX4_init_69 h
      · replace h := h.2 q45
        refine y_iload_n hg 1 dX4_init_44 rfl rfl ?_
        obtain ⟨h47, h⟩ := h
        refine y_getsB hg dX4_init_45 ?_
        refine y_alenR hg rfl h47 dX4_init_48 ?_
        refine y_icmp_ge (tgt := 69) hg dX4_init_49 (by decide) (fun q48 => ?_) (fun q48 => ?_)
        · replace h := h.1 q48
          exact yEndV hend dX4_init_69 h
        · replace h := h.2 q48
          refine y_aload_n hg 0 dX4_init_52 rfl rfl ?_
          refine y_getR hg fl_X4_18 rfl rfl h41 dX4_init_53 ?_
          refine y_iload_n hg 1 dX4_init_56 rfl rfl ?_
          refine y_getsB hg dX4_init_57 ?_
          refine y_iload_n hg 1 dX4_init_60 rfl rfl ?_
          obtain ⟨h50, h⟩ := h
          refine y_ialdR hg rfl h47 h50 dX4_init_61 ?_
          obtain ⟨c51, h52, h⟩ := h
          obtain ⟨h53, h⟩ := h
          obtain ⟨h54, h⟩ := h
          refine y_iast hg h52 h53 h54 dX4_init_62 ?_
          refine y_nmS (fun σ55 e56 => ?_)
          replace h := h σ55 e56
          have E57 : sK σ55 = sK σ := by rw [e56]; rfl
          obtain ⟨x58, e59⟩ : ∃ y : Int32, y = v3 + 1 := ⟨_, rfl⟩
          replace h := h x58 e59
          refine y_iinc (v := x58) (lv' := [(3, .int x58), (0, va_rf (some a0))]) hg 1 dX4_init_63 rfl (by rw [e59]; rfl) (by rw [hgN]; decide) rfl ?_
          refine y_goto (tgt := 35) hg dX4_init_66 (by decide) ?_
          refine y_sub [1, 0] rfl ?_
          subst hK35
          obtain ⟨n60, h61, h⟩ := h
          exact ih35 n60 h61 _ _ h
    exact key35 n35 v3 σ hI35
  refine y_aload_n hg 0 dX4_init_0 rfl rfl ?_
  refine y_objInit hg oi_X4_3 aw_oi1 aw_oi2 rfl dX4_init_1 (cat8 (Nat.le_of_ble_eq_true rfl)) hrm ⟨Nat.le_of_ble_eq_true rfl, Nat.le_of_ble_eq_true rfl⟩ ?_
  refine y_aload_n hg 0 dX4_init_4 rfl rfl ?_
  obtain ⟨κ1, q5, h2, h3, h4, h6, h7, h⟩ := h
  obtain ⟨h8, h⟩ := h
  refine y_new hg hal nl_X4_9 h2 h3 h4 h6 h7 (rll_c (lk_r h8) (rll_c (lk_i _) (rll_c (lk_i _) rll_nil))) (rl_c (lk_r h8) rl_nil) dX4_init_5 ?_
  refine y_nmS (fun σ9 e10 => ?_)
  replace h := h σ9 e10
  refine y_dup hg dX4_init_8 rfl ?_
  refine yIVW (Qm := _) (rest := [va_rf (some q5), va_rf (some a0)]) (As := []) hg (k_Jx4a65c_init_da8c8 (gL g.1) (gD g.1) q5 σ9 _ h) li_X4_11 rfl rfl rfl dX4_init_9 (cat8 (Nat.le_of_ble_eq_true rfl)) hrm ⟨Nat.le_of_ble_eq_true rfl, Nat.le_of_ble_eq_true rfl⟩ (fun u12 σ13 h h14 => ?_)
  have h15 := kp h14 (show ¬ 1 = 0 by decide) (kn e10 h2)
  obtain ⟨h16, h⟩ := h
  refine y_putR hg fw_X4_12 rfl (fun _ => hgI) rfl h16 (lv_k rfl h15 (by decide)) dX4_init_12 ?_
  refine y_nmS (fun σ17 e18 => ?_)
  replace h := h σ17 e18
  have E19 : sK σ17 = sK σ13 := by rw [e18]; rfl
  refine y_aload_n hg 0 dX4_init_15 rfl rfl ?_
  refine y_bipush (v := 21) hg dX4_init_16 (by decide) ?_
  obtain ⟨κ20, q26, h21, h22, h23, h24, h25, h27, h28, h⟩ := h
  refine y_newa (at0 := .int) (c := 16) hg hal rfl (by decide) (by decide) aw_arrI h21 h22 h23 h24 h25 cA_arrI h27 h28 (rll_c (lk_k rfl (kq E19 h16) (by decide)) (rll_c (lk_i _) (rll_c (lk_i _) rll_nil))) (rl_c (lk_k rfl (kq E19 h16) (by decide)) rl_nil) dX4_init_18 ?_
  refine y_nmS (fun σ29 e30 => ?_)
  replace h := h σ29 e30
  refine y_putR hg fw_X4_18 rfl (fun _ => hgI) rfl (kw e30 h27 (by decide) (kq E19 h16)) (lv_k rfl (kn e30 h21) (by decide)) dX4_init_20 ?_
  refine y_nmS (fun σ32 e33 => ?_)
  replace h := h σ32 e33
  have E34 : sK σ32 = sK σ29 := by rw [e33]; rfl
  refine y_aload_n hg 0 dX4_init_23 rfl rfl ?_
  refine y_iload_n hg 1 dX4_init_24 rfl rfl ?_
  refine y_putI hg fw_X4_22 (fun _ => hgI) rfl (kq E34 (kw e30 h27 (by decide) (kq E19 h16))) dX4_init_25 ?_
  refine y_nmS (fun σ35 e36 => ?_)
  replace h := h σ35 e36
  have E37 : sK σ35 = sK σ32 := by rw [e36]; rfl
  refine y_aload_n hg 0 dX4_init_28 rfl rfl ?_
  refine y_iload_n hg 2 dX4_init_29 rfl rfl ?_
  refine y_putI hg fw_X4_26 (fun _ => hgI) rfl (kq E37 (kq E34 (kw e30 h27 (by decide) (kq E19 h16)))) dX4_init_30 ?_
  refine y_nmS (fun σ38 e39 => ?_)
  replace h := h σ38 e39
  have E40 : sK σ38 = sK σ35 := by rw [e39]; rfl
  refine y_iconst (v := 0) hg dX4_init_33 (by decide) ?_
  refine y_istore_n (lv' := [(3, .int 0), (0, va_rf (some a0)), (1, .int v1), (2, .int v2)]) hg dX4_init_34 rfl (by rw [hgN]; decide) rfl ?_
  refine y_sub [1, 0] rfl ?_
  exact J35 _ _ _ h
def P_X7_init (a0 : Nat) (σ : Sg) (b : Nat × Nat) (Q : Unit → Sg → Prop) : Prop :=
  ∃ κ1 q7 : Nat, κ1 % 32 = 16 ∧ ¬ (700 : Int32) < 0 ∧ (700 : Int32).toNatClampNeg ≤ 65536 ∧ 1 ≤ b.1 ∧ (700 : Int32).toNatClampNeg ≤ b.2 ∧ sK σ q7 = 0 ∧ 1000 ≤ q7 ∧ (∀ z, (some a0) = some z → ¬ sK σ z = 0) ∧ ∀ σ11 : Sg, σ11 = nw σ q7 κ1 (700 : Int32).toNatClampNeg → sK σ11 a0 % 32 = 9 ∧ ∀ σ15 : Sg, σ15 = pR σ11 a0 1 (some q7) → Q () σ15
set_option maxHeartbeats 4000000 in
set_option maxRecDepth 100000 in
theorem k_X7_init (l : Launch) (D : Dg) (a0 : Nat) (σ : Sg) (b : Nat × Nat) (Q : Unit → Sg → Prop) (h : P_X7_init a0 σ b Q) : CtrY RA l D yX7_init cX7_init 1 (none) 1 20 mkV [.ref a0] σ b Q := by
  refine y_ctrA (lv := [(0, va_rf (some a0))]) (by decide) (by (exact Nat.le_of_ble_eq_true rfl)) (by (exact rfl)) (fun g hg hgL hgD hrm hgN hgI hend hal => ?_)
  subst hgD
  clear hgL
  unfold P_X7_init at h
  refine y_aload_n hg 0 dX7_init_0 rfl rfl ?_
  refine y_objInit hg oi_X7_3 aw_oi1 aw_oi2 rfl dX7_init_1 (cat8 (Nat.le_of_ble_eq_true rfl)) hrm ⟨Nat.le_of_ble_eq_true rfl, Nat.le_of_ble_eq_true rfl⟩ ?_
  refine y_aload_n hg 0 dX7_init_4 rfl rfl ?_
  refine y_sipush (v := 700) hg dX7_init_5 (by decide) ?_
  obtain ⟨κ1, q7, h2, h3, h4, h5, h6, h8, h9, h⟩ := h
  obtain ⟨h10, h⟩ := h
  refine y_newa (at0 := .int) (c := 16) hg hal rfl (by decide) (by decide) aw_arrI h2 h3 h4 h5 h6 cA_arrI h8 h9 (rll_c (lk_r h10) rll_nil) (rl_c (lk_r h10) rl_nil) dX7_init_8 ?_
  refine y_nmS (fun σ11 e12 => ?_)
  replace h := h σ11 e12
  obtain ⟨h14, h⟩ := h
  refine y_putR hg fw_X7_9 rfl (fun _ => hgI) rfl h14 (lv_k rfl (kn e12 h2) (by decide)) dX7_init_10 ?_
  refine y_nmS (fun σ15 e16 => ?_)
  replace h := h σ15 e16
  have E17 : sK σ15 = sK σ11 := by rw [e16]; rfl
  exact yEndV hend dX7_init_13 h
def P_X5_init (a0 : Nat) (σ : Sg) (Q : Unit → Prop) : Prop :=
  Q ()
set_option maxHeartbeats 4000000 in
set_option maxRecDepth 100000 in
theorem k_X5_init (l : Launch) (D : Dg) (a0 : Nat) (σ : Sg) (Q : Unit → Prop) (h : P_X5_init a0 σ Q) : CtrY RN l D yX5_init cX5_init 1 (none) 1 20 mkV [.ref a0] σ (0, 0) (fun r σ2 => Q r ∧ σ2 = σ) := by
  refine y_ctrN (lv := [(0, va_rf (some a0))]) (by decide) (by (exact Nat.le_of_ble_eq_true rfl)) (by (exact rfl)) (fun g hg hgL hgD hrm hgN hgI hend => ?_)
  subst hgD
  clear hgL
  unfold P_X5_init at h
  refine y_aload_n hg 0 dX5_init_0 rfl rfl ?_
  refine y_objInit hg oi_X5_3 aw_oi1 aw_oi2 rfl dX5_init_1 (cat8 (Nat.le_of_ble_eq_true rfl)) hrm ⟨Nat.le_of_ble_eq_true rfl, Nat.le_of_ble_eq_true rfl⟩ ?_
  exact yEndV hend dX5_init_4 ⟨h, rfl⟩
def P_X3_init_L42b (a0 : Nat) (v1 : Int32) (σ : Sg) (b : Nat × Nat) (Q : Unit → Sg → Prop) (K42 : Int32 → Sg → (Nat × Nat) → Prop) : Prop :=
  (12 ≤ v1 → Q () σ) ∧ (¬ (12 ≤ v1) → sK σ a0 % 32 = 5 ∧ ∃ κ67 q71 : Nat, κ67 % 32 = 7 ∧ 1 ≤ b.1 ∧ 15 ≤ b.2 ∧ sK σ q71 = 0 ∧ 1000 ≤ q71 ∧ (∀ z, sR σ a0 0 = some z → ¬ sK σ z = 0) ∧ ∀ σ75 : Sg, σ75 = nw σ q71 κ67 0 → P_X5_init q71 σ75 (fun u78 => ∃ c79 : Nat, sR σ a0 0 = some c79 ∧ sK σ75 c79 % 32 = 1 ∧ ∃ bc84 : Nat × Nat, bc84.1 ≤ b.1 - 1 ∧ bc84.2 ≤ b.2 - 15 ∧ P_Jx4a65c_add_9ea2d c79 (some q71) σ75 bc84 (fun x82 σ83 => ∀ x89 : Int32, x89 = v1 + 1 → K42 x89 σ83 (b.1 - 1 - bc84.1, b.2 - 15 - bc84.2))))
def P_X3_init_L42 (a0 : Nat) (v1 : Int32) (σ : Sg) (b : Nat × Nat) (Q : Unit → Sg → Prop) : Prop :=
  ∃ I : Nat → Int32 → Sg → (Nat × Nat) → Prop, (∃ n, I n v1 σ b) ∧ ∀ (n : Nat) (v1 : Int32) (σ : Sg) (b : Nat × Nat), I n v1 σ b → P_X3_init_L42b a0 v1 σ b Q (fun v1 σ b => ∃ n', n' < n ∧ I n' v1 σ b)
def P_X3_init (a0 : Nat) (σ : Sg) (b : Nat × Nat) (Q : Unit → Sg → Prop) : Prop :=
  ∃ κ1 q5 : Nat, κ1 % 32 = 1 ∧ 1 ≤ b.1 ∧ 3 ≤ b.2 ∧ sK σ q5 = 0 ∧ 1000 ≤ q5 ∧ (∀ z, (some a0) = some z → ¬ sK σ z = 0) ∧ ∀ σ9 : Sg, σ9 = nw σ q5 κ1 0 → P_Jx4a65c_init_da8c8 q5 σ9 (fun _ σ13 => sK σ13 a0 % 32 = 5 ∧ ∀ σ17 : Sg, σ17 = pR σ13 a0 0 (some q5) → ∃ κ20 q26 : Nat, κ20 % 32 = 16 ∧ ¬ (360 : Int32) < 0 ∧ (360 : Int32).toNatClampNeg ≤ 65536 ∧ 1 ≤ b.1 - 1 ∧ (360 : Int32).toNatClampNeg ≤ b.2 - 3 ∧ sK σ17 q26 = 0 ∧ 1000 ≤ q26 ∧ ∀ σ29 : Sg, σ29 = nw σ17 q26 κ20 (360 : Int32).toNatClampNeg → ∀ σ32 : Sg, σ32 = pR σ29 a0 3 (some q26) → ∃ κ35 q41 : Nat, κ35 % 32 = 16 ∧ ¬ (30 : Int32) < 0 ∧ (30 : Int32).toNatClampNeg ≤ 65536 ∧ 1 ≤ b.1 - 1 - 1 ∧ (30 : Int32).toNatClampNeg ≤ b.2 - 3 - (360 : Int32).toNatClampNeg ∧ sK σ32 q41 = 0 ∧ 1000 ≤ q41 ∧ ∀ σ44 : Sg, σ44 = nw σ32 q41 κ35 (30 : Int32).toNatClampNeg → ∀ σ47 : Sg, σ47 = pR σ44 a0 4 (some q41) → ∃ κ50 q56 : Nat, κ50 % 32 = 16 ∧ ¬ (12 : Int32) < 0 ∧ (12 : Int32).toNatClampNeg ≤ 65536 ∧ 1 ≤ b.1 - 1 - 1 - 1 ∧ (12 : Int32).toNatClampNeg ≤ b.2 - 3 - (360 : Int32).toNatClampNeg - (30 : Int32).toNatClampNeg ∧ sK σ47 q56 = 0 ∧ 1000 ≤ q56 ∧ ∀ σ59 : Sg, σ59 = nw σ47 q56 κ50 (12 : Int32).toNatClampNeg → ∀ σ62 : Sg, σ62 = pR σ59 a0 5 (some q56) → P_X3_init_L42 a0 0 σ62 (b.1 - 1 - 1 - 1 - 1, b.2 - 3 - (360 : Int32).toNatClampNeg - (30 : Int32).toNatClampNeg - (12 : Int32).toNatClampNeg) Q)
set_option maxHeartbeats 4000000 in
set_option maxRecDepth 100000 in
theorem k_X3_init (l : Launch) (D : Dg) (a0 : Nat) (σ : Sg) (b : Nat × Nat) (Q : Unit → Sg → Prop) (h : P_X3_init a0 σ b Q) : CtrY RA l D yX3_init cX3_init 2 (none) 7 171 mkV [.ref a0] σ b Q := by
  refine y_ctrA (lv := [(0, va_rf (some a0))]) (by decide) (by (exact Nat.le_of_ble_eq_true rfl)) (by (exact rfl)) (fun g hg hgL hgD hrm hgN hgI hend hal => ?_)
  subst hgD
  clear hgL
  unfold P_X3_init at h
  have J42 : ∀ (v1 : Int32) (σ : Sg) (b : Nat × Nat), P_X3_init_L42 a0 v1 σ b Q → XA g 42 [(0, va_rf (some a0)), (1, .int v1)] [] σ b := by
    intro v1 σ b h
    unfold P_X3_init_L42 at h
    obtain ⟨I42, ⟨n42, hI42⟩, hs42⟩ := h
    have key42 : ∀ (n : Nat), ∀ (v1 : Int32) (σ : Sg) (b : Nat × Nat), I42 n v1 σ b → XA g 42 [(0, va_rf (some a0)), (1, .int v1)] [] σ b := by
      intro n
      induction n using Nat.strongRecOn with
      | _ n ih42 =>
      intro v1 σ b hI
      have h := hs42 n v1 σ b hI
      clear hI hI42 hs42
      obtain ⟨K42, hK42⟩ : ∃ K : Int32 → Sg → (Nat × Nat) → Prop, K = (fun v1 σ b => ∃ n', n' < n ∧ I42 n' v1 σ b) := ⟨_, rfl⟩
      rw [← hK42] at h
      unfold P_X3_init_L42b at h
      refine y_iload_n hg 1 dX3_init_42 rfl rfl ?_
      refine y_bipush (v := 12) hg dX3_init_43 (by decide) ?_
      refine y_icmp_ge (tgt := 69) hg dX3_init_45 (by decide) (fun q65 => ?_) (fun q65 => ?_)
      · replace h := h.1 q65
        exact yEndV hend dX3_init_69 h
      · replace h := h.2 q65
        refine y_aload_n hg 0 dX3_init_48 rfl rfl ?_
        obtain ⟨h66, h⟩ := h
        refine y_getR hg fl_X3_12 rfl rfl h66 dX3_init_49 ?_
        obtain ⟨κ67, q71, h68, h69, h70, h72, h73, h⟩ := h
        obtain ⟨h74, h⟩ := h
        refine y_new hg hal nl_X3_28 h68 h69 h70 h72 h73 (rll_c (lk_k rfl h66 (by decide)) (rll_c (lk_i _) rll_nil)) (rl_c (lk_r h74) rl_nil) dX3_init_52 ?_
        refine y_nmS (fun σ75 e76 => ?_)
        replace h := h σ75 e76
        refine y_dup hg dX3_init_55 rfl ?_
        refine yINVP (Qp := _) (rest := [va_rf (some q71), va_rf (sR σ a0 0)]) (As := []) hg (k_X5_init (gL g.1) (gD g.1) q71 σ75 _ h) lin_X3_30 rfl rfl rfl dX3_init_56 (cat8 (Nat.le_of_ble_eq_true rfl)) hrm ⟨Nat.le_of_ble_eq_true rfl, Nat.le_of_ble_eq_true rfl⟩ (fun u78 h => ?_)
        obtain ⟨c79, h80, h⟩ := h
        obtain ⟨h81, h⟩ := h
        obtain ⟨bc84, h85, h86, h⟩ := h
        refine yVIA (Qm := _) (rest := []) (As := [va_rf (some q71)]) hg hal (k_Jx4a65c_add_9ea2d (gL g.1) (gD g.1) c79 (some q71) σ75 bc84 _ h) lv_X3_31 h80 h81 rfl rfl dX3_init_59 (cat8 (Nat.le_of_ble_eq_true rfl)) hrm ⟨Nat.le_of_ble_eq_true rfl, Nat.le_of_ble_eq_true rfl⟩ h85 h86 (rll_c (lk_k rfl (kw e76 h72 (by decide) h66) (by decide)) (rll_c (lk_i _) rll_nil)) rl_nil (fun x82 σ83 h h87 => ?_)
        have h88 := kp h87 (show ¬ 5 = 0 by decide) (kw e76 h72 (by decide) h66)
        refine y_pop hg dX3_init_62 rfl ?_
        obtain ⟨x89, e90⟩ : ∃ y : Int32, y = v1 + 1 := ⟨_, rfl⟩
        replace h := h x89 e90
        refine y_iinc (v := x89) (lv' := [(1, .int x89), (0, va_rf (some a0))]) hg 1 dX3_init_63 rfl (by rw [e90]; rfl) (by rw [hgN]; decide) rfl ?_
        refine y_goto (tgt := 42) hg dX3_init_66 (by decide) ?_
        refine y_sub [1, 0] rfl ?_
        subst hK42
        obtain ⟨n91, h92, h⟩ := h
        exact ih42 n91 h92 _ _ _ h
    exact key42 n42 v1 σ b hI42
  refine y_aload_n hg 0 dX3_init_0 rfl rfl ?_
  refine y_objInit hg oi_X3_3 aw_oi1 aw_oi2 rfl dX3_init_1 (cat8 (Nat.le_of_ble_eq_true rfl)) hrm ⟨Nat.le_of_ble_eq_true rfl, Nat.le_of_ble_eq_true rfl⟩ ?_
  refine y_aload_n hg 0 dX3_init_4 rfl rfl ?_
  obtain ⟨κ1, q5, h2, h3, h4, h6, h7, h⟩ := h
  obtain ⟨h8, h⟩ := h
  refine y_new hg hal nl_X3_9 h2 h3 h4 h6 h7 (rll_c (lk_r h8) rll_nil) (rl_c (lk_r h8) rl_nil) dX3_init_5 ?_
  refine y_nmS (fun σ9 e10 => ?_)
  replace h := h σ9 e10
  refine y_dup hg dX3_init_8 rfl ?_
  refine yIVW (Qm := _) (rest := [va_rf (some q5), va_rf (some a0)]) (As := []) hg (k_Jx4a65c_init_da8c8 (gL g.1) (gD g.1) q5 σ9 _ h) li_X3_11 rfl rfl rfl dX3_init_9 (cat8 (Nat.le_of_ble_eq_true rfl)) hrm ⟨Nat.le_of_ble_eq_true rfl, Nat.le_of_ble_eq_true rfl⟩ (fun u12 σ13 h h14 => ?_)
  have h15 := kp h14 (show ¬ 1 = 0 by decide) (kn e10 h2)
  obtain ⟨h16, h⟩ := h
  refine y_putR hg fw_X3_12 rfl (fun _ => hgI) rfl h16 (lv_k rfl h15 (by decide)) dX3_init_12 ?_
  refine y_nmS (fun σ17 e18 => ?_)
  replace h := h σ17 e18
  have E19 : sK σ17 = sK σ13 := by rw [e18]; rfl
  refine y_aload_n hg 0 dX3_init_15 rfl rfl ?_
  refine y_sipush (v := 360) hg dX3_init_16 (by decide) ?_
  obtain ⟨κ20, q26, h21, h22, h23, h24, h25, h27, h28, h⟩ := h
  refine y_newa (at0 := .int) (c := 16) hg hal rfl (by decide) (by decide) aw_arrI h21 h22 h23 h24 h25 cA_arrI h27 h28 (rll_c (lk_k rfl (kq E19 h16) (by decide)) rll_nil) (rl_c (lk_k rfl (kq E19 h16) (by decide)) rl_nil) dX3_init_19 ?_
  refine y_nmS (fun σ29 e30 => ?_)
  replace h := h σ29 e30
  refine y_putR hg fw_X3_18 rfl (fun _ => hgI) rfl (kw e30 h27 (by decide) (kq E19 h16)) (lv_k rfl (kn e30 h21) (by decide)) dX3_init_21 ?_
  refine y_nmS (fun σ32 e33 => ?_)
  replace h := h σ32 e33
  have E34 : sK σ32 = sK σ29 := by rw [e33]; rfl
  refine y_aload_n hg 0 dX3_init_24 rfl rfl ?_
  refine y_bipush (v := 30) hg dX3_init_25 (by decide) ?_
  obtain ⟨κ35, q41, h36, h37, h38, h39, h40, h42, h43, h⟩ := h
  refine y_newa (at0 := .int) (c := 16) hg hal rfl (by decide) (by decide) aw_arrI h36 h37 h38 h39 h40 cA_arrI h42 h43 (rll_c (lk_k rfl (kq E34 (kw e30 h27 (by decide) (kq E19 h16))) (by decide)) rll_nil) (rl_c (lk_k rfl (kq E34 (kw e30 h27 (by decide) (kq E19 h16))) (by decide)) rl_nil) dX3_init_27 ?_
  refine y_nmS (fun σ44 e45 => ?_)
  replace h := h σ44 e45
  refine y_putR hg fw_X3_22 rfl (fun _ => hgI) rfl (kw e45 h42 (by decide) (kq E34 (kw e30 h27 (by decide) (kq E19 h16)))) (lv_k rfl (kn e45 h36) (by decide)) dX3_init_29 ?_
  refine y_nmS (fun σ47 e48 => ?_)
  replace h := h σ47 e48
  have E49 : sK σ47 = sK σ44 := by rw [e48]; rfl
  refine y_aload_n hg 0 dX3_init_32 rfl rfl ?_
  refine y_bipush (v := 12) hg dX3_init_33 (by decide) ?_
  obtain ⟨κ50, q56, h51, h52, h53, h54, h55, h57, h58, h⟩ := h
  refine y_newa (at0 := .int) (c := 16) hg hal rfl (by decide) (by decide) aw_arrI h51 h52 h53 h54 h55 cA_arrI h57 h58 (rll_c (lk_k rfl (kq E49 (kw e45 h42 (by decide) (kq E34 (kw e30 h27 (by decide) (kq E19 h16))))) (by decide)) rll_nil) (rl_c (lk_k rfl (kq E49 (kw e45 h42 (by decide) (kq E34 (kw e30 h27 (by decide) (kq E19 h16))))) (by decide)) rl_nil) dX3_init_35 ?_
  refine y_nmS (fun σ59 e60 => ?_)
  replace h := h σ59 e60
  refine y_putR hg fw_X3_25 rfl (fun _ => hgI) rfl (kw e60 h57 (by decide) (kq E49 (kw e45 h42 (by decide) (kq E34 (kw e30 h27 (by decide) (kq E19 h16)))))) (lv_k rfl (kn e60 h51) (by decide)) dX3_init_37 ?_
  refine y_nmS (fun σ62 e63 => ?_)
  replace h := h σ62 e63
  have E64 : sK σ62 = sK σ59 := by rw [e63]; rfl
  refine y_iconst (v := 0) hg dX3_init_40 (by decide) ?_
  refine y_istore_n (lv' := [(1, .int 0), (0, va_rf (some a0))]) hg dX3_init_41 rfl (by rw [hgN]; decide) rfl ?_
  refine y_sub [1, 0] rfl ?_
  exact J42 _ _ _ h
def P_X2_init (a0 : Nat) (v1 : Int32) (v2 : Int32) (v3 : Int32) (v4 : Int32) (σ : Sg) (Q : Unit → Sg → Prop) : Prop :=
  sK σ a0 % 32 = 4 ∧ ∀ σ2 : Sg, σ2 = pI σ a0 4 (-1) → ∀ σ5 : Sg, σ5 = pI σ2 a0 0 v1 → ∀ σ8 : Sg, σ8 = pI σ5 a0 1 v2 → ∀ σ11 : Sg, σ11 = pI σ8 a0 2 v3 → ∀ σ14 : Sg, σ14 = pI σ11 a0 3 v4 → Q () σ14
set_option maxHeartbeats 4000000 in
set_option maxRecDepth 100000 in
theorem k_X2_init (l : Launch) (D : Dg) (a0 : Nat) (v1 : Int32) (v2 : Int32) (v3 : Int32) (v4 : Int32) (σ : Sg) (Q : Unit → Sg → Prop) (h : P_X2_init a0 v1 v2 v3 v4 σ Q) : CtrY RN l D yX2_init cX2_init 5 (none) 1 20 mkV [.ref a0, .int v1, .int v2, .int v3, .int v4] σ (0, 0) Q := by
  refine y_ctrN (lv := [(0, va_rf (some a0)), (1, .int v1), (2, .int v2), (3, .int v3), (4, .int v4)]) (by decide) (by (exact Nat.le_of_ble_eq_true rfl)) (by (exact rfl)) (fun g hg hgL hgD hrm hgN hgI hend => ?_)
  subst hgD
  clear hgL
  unfold P_X2_init at h
  refine y_aload_n hg 0 dX2_init_0 rfl rfl ?_
  refine y_objInit hg oi_X2_3 aw_oi1 aw_oi2 rfl dX2_init_1 (cat8 (Nat.le_of_ble_eq_true rfl)) hrm ⟨Nat.le_of_ble_eq_true rfl, Nat.le_of_ble_eq_true rfl⟩ ?_
  refine y_aload_n hg 0 dX2_init_4 rfl rfl ?_
  refine y_iconst (v := (-1)) hg dX2_init_5 (by decide) ?_
  obtain ⟨h1, h⟩ := h
  refine y_putI hg fw_X2_9 (fun z => nomatch z) rfl h1 dX2_init_6 ?_
  refine y_nmS (fun σ2 e3 => ?_)
  replace h := h σ2 e3
  have E4 : sK σ2 = sK σ := by rw [e3]; rfl
  refine y_aload_n hg 0 dX2_init_9 rfl rfl ?_
  refine y_iload_n hg 1 dX2_init_10 rfl rfl ?_
  refine y_putI hg fw_X2_15 (fun _ => hgI) rfl (kq E4 h1) dX2_init_11 ?_
  refine y_nmS (fun σ5 e6 => ?_)
  replace h := h σ5 e6
  have E7 : sK σ5 = sK σ2 := by rw [e6]; rfl
  refine y_aload_n hg 0 dX2_init_14 rfl rfl ?_
  refine y_iload_n hg 2 dX2_init_15 rfl rfl ?_
  refine y_putI hg fw_X2_18 (fun _ => hgI) rfl (kq E7 (kq E4 h1)) dX2_init_16 ?_
  refine y_nmS (fun σ8 e9 => ?_)
  replace h := h σ8 e9
  have E10 : sK σ8 = sK σ5 := by rw [e9]; rfl
  refine y_aload_n hg 0 dX2_init_19 rfl rfl ?_
  refine y_iload_n hg 3 dX2_init_20 rfl rfl ?_
  refine y_putI hg fw_X2_21 (fun _ => hgI) rfl (kq E10 (kq E7 (kq E4 h1))) dX2_init_21 ?_
  refine y_nmS (fun σ11 e12 => ?_)
  replace h := h σ11 e12
  have E13 : sK σ11 = sK σ8 := by rw [e12]; rfl
  refine y_aload_n hg 0 dX2_init_24 rfl rfl ?_
  refine y_iload hg 4 dX2_init_25 rfl ?_
  refine y_putI hg fw_X2_24 (fun _ => hgI) rfl (kq E13 (kq E10 (kq E7 (kq E4 h1)))) dX2_init_27 ?_
  refine y_nmS (fun σ14 e15 => ?_)
  replace h := h σ14 e15
  have E16 : sK σ14 = sK σ11 := by rw [e15]; rfl
  exact yEndV hend dX2_init_30 h
def P_X6_init (a0 : Nat) (v1 : Int32) (v2 : Int32) (v3 : Int32) (v4 : Int32) (σ : Sg) (Q : Unit → Sg → Prop) : Prop :=
  sK σ a0 % 32 = 8 ∧ ∀ σ2 : Sg, σ2 = pI σ a0 5 (-1) → ∀ σ5 : Sg, σ5 = pI σ2 a0 0 v1 → ∀ σ8 : Sg, σ8 = pI σ5 a0 1 v2 → ∀ σ11 : Sg, σ11 = pI σ8 a0 2 v3 → ∀ σ14 : Sg, σ14 = pI σ11 a0 3 v4 → Q () σ14
set_option maxHeartbeats 4000000 in
set_option maxRecDepth 100000 in
theorem k_X6_init (l : Launch) (D : Dg) (a0 : Nat) (v1 : Int32) (v2 : Int32) (v3 : Int32) (v4 : Int32) (σ : Sg) (Q : Unit → Sg → Prop) (h : P_X6_init a0 v1 v2 v3 v4 σ Q) : CtrY RN l D yX6_init cX6_init 5 (none) 1 20 mkV [.ref a0, .int v1, .int v2, .int v3, .int v4] σ (0, 0) Q := by
  refine y_ctrN (lv := [(0, va_rf (some a0)), (1, .int v1), (2, .int v2), (3, .int v3), (4, .int v4)]) (by decide) (by (exact Nat.le_of_ble_eq_true rfl)) (by (exact rfl)) (fun g hg hgL hgD hrm hgN hgI hend => ?_)
  subst hgD
  clear hgL
  unfold P_X6_init at h
  refine y_aload_n hg 0 dX6_init_0 rfl rfl ?_
  refine y_objInit hg oi_X6_3 aw_oi1 aw_oi2 rfl dX6_init_1 (cat8 (Nat.le_of_ble_eq_true rfl)) hrm ⟨Nat.le_of_ble_eq_true rfl, Nat.le_of_ble_eq_true rfl⟩ ?_
  refine y_aload_n hg 0 dX6_init_4 rfl rfl ?_
  refine y_iconst (v := (-1)) hg dX6_init_5 (by decide) ?_
  obtain ⟨h1, h⟩ := h
  refine y_putI hg fw_X6_9 (fun z => nomatch z) rfl h1 dX6_init_6 ?_
  refine y_nmS (fun σ2 e3 => ?_)
  replace h := h σ2 e3
  have E4 : sK σ2 = sK σ := by rw [e3]; rfl
  refine y_aload_n hg 0 dX6_init_9 rfl rfl ?_
  refine y_iload_n hg 1 dX6_init_10 rfl rfl ?_
  refine y_putI hg fw_X6_15 (fun _ => hgI) rfl (kq E4 h1) dX6_init_11 ?_
  refine y_nmS (fun σ5 e6 => ?_)
  replace h := h σ5 e6
  have E7 : sK σ5 = sK σ2 := by rw [e6]; rfl
  refine y_aload_n hg 0 dX6_init_14 rfl rfl ?_
  refine y_iload_n hg 2 dX6_init_15 rfl rfl ?_
  refine y_putI hg fw_X6_18 (fun _ => hgI) rfl (kq E7 (kq E4 h1)) dX6_init_16 ?_
  refine y_nmS (fun σ8 e9 => ?_)
  replace h := h σ8 e9
  have E10 : sK σ8 = sK σ5 := by rw [e9]; rfl
  refine y_aload_n hg 0 dX6_init_19 rfl rfl ?_
  refine y_iload_n hg 3 dX6_init_20 rfl rfl ?_
  refine y_putI hg fw_X6_21 (fun _ => hgI) rfl (kq E10 (kq E7 (kq E4 h1))) dX6_init_21 ?_
  refine y_nmS (fun σ11 e12 => ?_)
  replace h := h σ11 e12
  have E13 : sK σ11 = sK σ8 := by rw [e12]; rfl
  refine y_aload_n hg 0 dX6_init_24 rfl rfl ?_
  refine y_iload hg 4 dX6_init_25 rfl ?_
  refine y_putI hg fw_X6_24 (fun _ => hgI) rfl (kq E13 (kq E10 (kq E7 (kq E4 h1)))) dX6_init_27 ?_
  refine y_nmS (fun σ14 e15 => ?_)
  replace h := h σ14 e15
  have E16 : sK σ14 = sK σ11 := by rw [e15]; rfl
  exact yEndV hend dX6_init_30 h
def P_X4_value_B22 (a0 : Nat) (σ : Sg) (Q : Int32 → Prop) : Prop :=
  Q 0
def P_X4_value (a0 : Nat) (v1 : Int32) (σ : Sg) (Q : Int32 → Prop) : Prop :=
  (v1 < 0 → P_X4_value_B22 a0 σ Q) ∧ (¬ (v1 < 0) → sK σ a0 % 32 = 6 ∧ ∃ c3 : Nat, sR σ a0 3 = some c3 ∧ sK σ c3 % 32 = 16 ∧ ((nI (sN σ c3)) ≤ v1 → P_X4_value_B22 a0 σ Q) ∧ (¬ ((nI (sN σ c3)) ≤ v1) → ∃ c7 : Nat, sR σ a0 3 = some c7 ∧ sK σ c7 % 32 = 16 ∧ vp_in v1 (sN σ c7) ∧ Q (sI σ c7 v1.toNatClampNeg)))
set_option maxHeartbeats 4000000 in
set_option maxRecDepth 100000 in
theorem k_X4_value (l : Launch) (D : Dg) (a0 : Nat) (v1 : Int32) (σ : Sg) (Q : Int32 → Prop) (h : P_X4_value a0 v1 σ Q) : CtrY RN l D yX4_value cX4_value 2 (some FieldType.int) 0 0 mkI [.ref a0, .int v1] σ (0, 0) (fun r σ2 => Q r ∧ σ2 = σ) := by
  refine y_ctrN (lv := [(0, va_rf (some a0)), (1, .int v1)]) (by decide) (by (exact Nat.le_of_ble_eq_true rfl)) (by (exact rfl)) (fun g hg hgL hgD hrm hgN hgI hend => ?_)
  subst hgD
  clear hgL
  unfold P_X4_value at h
  have J22 : P_X4_value_B22 a0 σ Q → XA g 22 [(0, va_rf (some a0))] [] σ (0, 0) := by
    intro  h
    unfold P_X4_value_B22 at h
    refine y_iconst (v := 0) hg dX4_value_22 (by decide) ?_
    exact yEndI hend rfl dX4_value_23 ⟨h, rfl⟩
  refine y_iload_n hg 1 dX4_value_0 rfl rfl ?_
  refine y_if_lt (tgt := 22) hg dX4_value_1 (by decide) (fun q1 => ?_) (fun q1 => ?_)
  · replace h := h.1 q1
    refine y_sub [0] rfl ?_
    exact J22  h
  · replace h := h.2 q1
    refine y_iload_n hg 1 dX4_value_4 rfl rfl ?_
    refine y_aload_n hg 0 dX4_value_5 rfl rfl ?_
    obtain ⟨h2, h⟩ := h
    refine y_getR hg fl_X4_18 rfl rfl h2 dX4_value_6 ?_
    obtain ⟨c3, h4, h⟩ := h
    obtain ⟨h5, h⟩ := h
    refine y_alen hg h4 h5 (by decide) (by decide) dX4_value_9 ?_
    refine y_icmp_ge (tgt := 22) hg dX4_value_10 (by decide) (fun q6 => ?_) (fun q6 => ?_)
    · replace h := h.1 q6
      refine y_sub [0] rfl ?_
      exact J22  h
    · replace h := h.2 q6
      refine y_aload_n hg 0 dX4_value_13 rfl rfl ?_
      refine y_getR hg fl_X4_18 rfl rfl h2 dX4_value_14 ?_
      refine y_iload_n hg 1 dX4_value_17 rfl rfl ?_
      obtain ⟨c7, h8, h⟩ := h
      obtain ⟨h9, h⟩ := h
      obtain ⟨h10, h⟩ := h
      refine y_iald hg h8 h9 h10 dX4_value_18 ?_
      refine y_goto (tgt := 23) hg dX4_value_19 (by decide) ?_
      exact yEndI hend rfl dX4_value_23 ⟨h, rfl⟩
def P_X0_init (a0 : Nat) (v1 : Int32) (v2 : Int32) (v3 : Int32) (v4 : Int32) (σ : Sg) (b : Nat × Nat) (Q : Unit → Sg → Prop) : Prop :=
  sK σ a0 % 32 = 2 ∧ ∀ σ2 : Sg, σ2 = pI σ a0 7 1 → ∀ σ5 : Sg, σ5 = pI σ2 a0 10 (-1) → ∃ κ8 q14 : Nat, κ8 % 32 = 16 ∧ ¬ (11 : Int32) < 0 ∧ (11 : Int32).toNatClampNeg ≤ 65536 ∧ 1 ≤ b.1 ∧ (11 : Int32).toNatClampNeg ≤ b.2 ∧ sK σ5 q14 = 0 ∧ 1000 ≤ q14 ∧ ∀ σ17 : Sg, σ17 = nw σ5 q14 κ8 (11 : Int32).toNatClampNeg → ∀ σ20 : Sg, σ20 = pR σ17 a0 11 (some q14) → ∀ σ23 : Sg, σ23 = pI σ20 a0 0 v1 → ∀ σ26 : Sg, σ26 = pI σ23 a0 1 v2 → bz v3 ∧ ∀ σ30 : Sg, σ30 = pI σ26 a0 2 v3 → ∀ σ33 : Sg, σ33 = pI σ30 a0 3 v4 → P_J7_fill_53178 (sR σ33 a0 11) (-1) σ33 (fun _ σ37 => Q () σ37)
set_option maxHeartbeats 4000000 in
set_option maxRecDepth 100000 in
theorem k_X0_init (l : Launch) (D : Dg) (a0 : Nat) (v1 : Int32) (v2 : Int32) (v3 : Int32) (v4 : Int32) (σ : Sg) (b : Nat × Nat) (Q : Unit → Sg → Prop) (h : P_X0_init a0 v1 v2 v3 v4 σ b Q) : CtrY RA l D yX0_init cX0_init 5 (none) 1 23 mkV [.ref a0, .int v1, .int v2, .int v3, .int v4] σ b Q := by
  refine y_ctrA (lv := [(0, va_rf (some a0)), (1, .int v1), (2, .int v2), (3, .int v3), (4, .int v4)]) (by decide) (by (exact Nat.le_of_ble_eq_true rfl)) (by (exact rfl)) (fun g hg hgL hgD hrm hgN hgI hend hal => ?_)
  subst hgD
  clear hgL
  unfold P_X0_init at h
  refine y_aload_n hg 0 dX0_init_0 rfl rfl ?_
  refine y_objInit hg oi_X0_3 aw_oi1 aw_oi2 rfl dX0_init_1 (cat8 (Nat.le_of_ble_eq_true rfl)) hrm ⟨Nat.le_of_ble_eq_true rfl, Nat.le_of_ble_eq_true rfl⟩ ?_
  refine y_aload_n hg 0 dX0_init_4 rfl rfl ?_
  refine y_iconst (v := 1) hg dX0_init_5 (by decide) ?_
  obtain ⟨h1, h⟩ := h
  refine y_putZ hg fw_X0_9 (fun z => nomatch z) rfl h1 (Or.inr rfl) dX0_init_6 ?_
  refine y_nmS (fun σ2 e3 => ?_)
  replace h := h σ2 e3
  have E4 : sK σ2 = sK σ := by rw [e3]; rfl
  refine y_aload_n hg 0 dX0_init_9 rfl rfl ?_
  refine y_iconst (v := (-1)) hg dX0_init_10 (by decide) ?_
  refine y_putI hg fw_X0_15 (fun z => nomatch z) rfl (kq E4 h1) dX0_init_11 ?_
  refine y_nmS (fun σ5 e6 => ?_)
  replace h := h σ5 e6
  have E7 : sK σ5 = sK σ2 := by rw [e6]; rfl
  refine y_aload_n hg 0 dX0_init_14 rfl rfl ?_
  refine y_bipush (v := 11) hg dX0_init_15 (by decide) ?_
  obtain ⟨κ8, q14, h9, h10, h11, h12, h13, h15, h16, h⟩ := h
  refine y_newa (at0 := .int) (c := 16) hg hal rfl (by decide) (by decide) aw_arrI h9 h10 h11 h12 h13 cA_arrI h15 h16 (rll_c (lk_k rfl (kq E7 (kq E4 h1)) (by decide)) (rll_c (lk_i _) (rll_c (lk_i _) (rll_c (lk_i _) (rll_c (lk_i _) rll_nil))))) (rl_c (lk_k rfl (kq E7 (kq E4 h1)) (by decide)) rl_nil) dX0_init_17 ?_
  refine y_nmS (fun σ17 e18 => ?_)
  replace h := h σ17 e18
  refine y_putR hg fw_X0_19 rfl (fun _ => hgI) rfl (kw e18 h15 (by decide) (kq E7 (kq E4 h1))) (lv_k rfl (kn e18 h9) (by decide)) dX0_init_19 ?_
  refine y_nmS (fun σ20 e21 => ?_)
  replace h := h σ20 e21
  have E22 : sK σ20 = sK σ17 := by rw [e21]; rfl
  refine y_aload_n hg 0 dX0_init_22 rfl rfl ?_
  refine y_iload_n hg 1 dX0_init_23 rfl rfl ?_
  refine y_putI hg fw_X0_23 (fun _ => hgI) rfl (kq E22 (kw e18 h15 (by decide) (kq E7 (kq E4 h1)))) dX0_init_24 ?_
  refine y_nmS (fun σ23 e24 => ?_)
  replace h := h σ23 e24
  have E25 : sK σ23 = sK σ20 := by rw [e24]; rfl
  refine y_aload_n hg 0 dX0_init_27 rfl rfl ?_
  refine y_iload_n hg 2 dX0_init_28 rfl rfl ?_
  refine y_putI hg fw_X0_26 (fun _ => hgI) rfl (kq E25 (kq E22 (kw e18 h15 (by decide) (kq E7 (kq E4 h1))))) dX0_init_29 ?_
  refine y_nmS (fun σ26 e27 => ?_)
  replace h := h σ26 e27
  have E28 : sK σ26 = sK σ23 := by rw [e27]; rfl
  refine y_aload_n hg 0 dX0_init_32 rfl rfl ?_
  refine y_iload_n hg 3 dX0_init_33 rfl rfl ?_
  obtain ⟨h29, h⟩ := h
  refine y_putZ hg fw_X0_29 (fun _ => hgI) rfl (kq E28 (kq E25 (kq E22 (kw e18 h15 (by decide) (kq E7 (kq E4 h1)))))) h29 dX0_init_34 ?_
  refine y_nmS (fun σ30 e31 => ?_)
  replace h := h σ30 e31
  have E32 : sK σ30 = sK σ26 := by rw [e31]; rfl
  refine y_aload_n hg 0 dX0_init_37 rfl rfl ?_
  refine y_iload hg 4 dX0_init_38 rfl ?_
  refine y_putI hg fw_X0_32 (fun _ => hgI) rfl (kq E32 (kq E28 (kq E25 (kq E22 (kw e18 h15 (by decide) (kq E7 (kq E4 h1))))))) dX0_init_40 ?_
  refine y_nmS (fun σ33 e34 => ?_)
  replace h := h σ33 e34
  have E35 : sK σ33 = sK σ30 := by rw [e34]; rfl
  refine y_aload_n hg 0 dX0_init_43 rfl rfl ?_
  refine y_getR hg fl_X0_19 rfl rfl (kq E35 (kq E32 (kq E28 (kq E25 (kq E22 (kw e18 h15 (by decide) (kq E7 (kq E4 h1)))))))) dX0_init_44 ?_
  refine y_iconst (v := (-1)) hg dX0_init_47 (by decide) ?_
  refine ySVW (Qm := _) (rest := []) (As := [va_rf (sR σ33 a0 11), .int (-1)]) hg (k_J7_fill_53178 (gL g.1) (gD g.1) (sR σ33 a0 11) (-1) σ33 _ h) ls_X0_35 rfl rfl dX0_init_48 (cat8 (Nat.le_of_ble_eq_true rfl)) hrm ⟨Nat.le_of_ble_eq_true rfl, Nat.le_of_ble_eq_true rfl⟩ (fun u36 σ37 h h38 => ?_)
  have h39 := kp h38 (show ¬ 2 = 0 by decide) (kq E35 (kq E32 (kq E28 (kq E25 (kq E22 (kw e18 h15 (by decide) (kq E7 (kq E4 h1))))))))
  exact yEndV hend dX0_init_51 h
def P_X0_wasCaredBy_B24 (a0 : Nat) (σ : Sg) (Q : Int32 → Prop) : Prop :=
  Q 0
def P_X0_wasCaredBy (a0 : Nat) (v1 : Int32) (v2 : Int32) (σ : Sg) (Q : Int32 → Prop) : Prop :=
  P_X10_within v1 0 10 σ (fun x1 => (x1 = 0 → P_X0_wasCaredBy_B24 a0 σ Q) ∧ (¬ (x1 = 0) → sK σ a0 % 32 = 2 ∧ ∃ c4 : Nat, sR σ a0 11 = some c4 ∧ sK σ c4 % 32 = 16 ∧ vp_in v1 (sN σ c4) ∧ ((sI σ c4 v1.toNatClampNeg) = v2 → Q 1) ∧ (¬ ((sI σ c4 v1.toNatClampNeg) = v2) → P_X0_wasCaredBy_B24 a0 σ Q)))
set_option maxHeartbeats 4000000 in
set_option maxRecDepth 100000 in
theorem k_X0_wasCaredBy (l : Launch) (D : Dg) (a0 : Nat) (v1 : Int32) (v2 : Int32) (σ : Sg) (Q : Int32 → Prop) (h : P_X0_wasCaredBy a0 v1 v2 σ Q) : CtrY RN l D yX0_wasCaredBy cX0_wasCaredBy 3 (some FieldType.boolean) 1 22 mkI [.ref a0, .int v1, .int v2] σ (0, 0) (fun r σ2 => Q r ∧ σ2 = σ) := by
  refine y_ctrN (lv := [(0, va_rf (some a0)), (1, .int v1), (2, .int v2)]) (by decide) (by (exact Nat.le_of_ble_eq_true rfl)) (by (exact rfl)) (fun g hg hgL hgD hrm hgN hgI hend => ?_)
  subst hgD
  clear hgL
  unfold P_X0_wasCaredBy at h
  have J24 : P_X0_wasCaredBy_B24 a0 σ Q → XA g 24 [(0, va_rf (some a0))] [] σ (0, 0) := by
    intro  h
    unfold P_X0_wasCaredBy_B24 at h
    refine y_iconst (v := 0) hg dX0_wasCaredBy_24 (by decide) ?_
    exact yEndI hend (bz_nar (Or.inl rfl)).1 dX0_wasCaredBy_25 ⟨h, rfl⟩
  refine y_iload_n hg 1 dX0_wasCaredBy_0 rfl rfl ?_
  refine y_iconst (v := 0) hg dX0_wasCaredBy_1 (by decide) ?_
  refine y_bipush (v := 10) hg dX0_wasCaredBy_2 (by decide) ?_
  refine ySNIP (Qp := _) (rest := []) (As := [.int v1, .int 0, .int 10]) hg (k_X10_within (gL g.1) (gD g.1) v1 0 10 σ _ h) lsn_X0_61 rfl rfl dX0_wasCaredBy_4 (cat8 (Nat.le_of_ble_eq_true rfl)) hrm ⟨Nat.le_of_ble_eq_true rfl, Nat.le_of_ble_eq_true rfl⟩ (fun x1 h => ?_)
  refine y_if_eq (tgt := 24) hg dX0_wasCaredBy_7 (by decide) (fun q2 => ?_) (fun q2 => ?_)
  · replace h := h.1 q2
    refine y_sub [0] rfl ?_
    exact J24  h
  · replace h := h.2 q2
    refine y_aload_n hg 0 dX0_wasCaredBy_10 rfl rfl ?_
    obtain ⟨h3, h⟩ := h
    refine y_getR hg fl_X0_19 rfl rfl h3 dX0_wasCaredBy_11 ?_
    refine y_iload_n hg 1 dX0_wasCaredBy_14 rfl rfl ?_
    obtain ⟨c4, h5, h⟩ := h
    obtain ⟨h6, h⟩ := h
    obtain ⟨h7, h⟩ := h
    refine y_iald hg h5 h6 h7 dX0_wasCaredBy_15 ?_
    refine y_iload_n hg 2 dX0_wasCaredBy_16 rfl rfl ?_
    refine y_icmp_ne (tgt := 24) hg dX0_wasCaredBy_17 (by decide) (fun q8 => ?_) (fun q8 => ?_)
    · replace h := h.2 q8
      refine y_sub [0] rfl ?_
      exact J24  h
    · replace h := h.1 q8
      refine y_iconst (v := 1) hg dX0_wasCaredBy_20 (by decide) ?_
      refine y_goto (tgt := 25) hg dX0_wasCaredBy_21 (by decide) ?_
      exact yEndI hend (bz_nar (Or.inr rfl)).1 dX0_wasCaredBy_25 ⟨h, rfl⟩
def P_X0_clogCaredFor (a0 : Nat) (σ : Sg) (Q : Int32 → Prop) : Prop :=
  sK σ a0 % 32 = 2 ∧ ∀ x2 : Int32, x2 = (if (0 : Int32) < ((sI σ a0 4) - 30) then ((sI σ a0 4) - 30) else (0 : Int32)) → Q x2
set_option maxHeartbeats 4000000 in
set_option maxRecDepth 100000 in
theorem k_X0_clogCaredFor (l : Launch) (D : Dg) (a0 : Nat) (σ : Sg) (Q : Int32 → Prop) (h : P_X0_clogCaredFor a0 σ Q) : CtrY RN l D yX0_clogCaredFor cX0_clogCaredFor 1 (some FieldType.int) 1 30 mkI [.ref a0] σ (0, 0) (fun r σ2 => Q r ∧ σ2 = σ) := by
  refine y_ctrN (lv := [(0, va_rf (some a0))]) (by decide) (by (exact Nat.le_of_ble_eq_true rfl)) (by (exact rfl)) (fun g hg hgL hgD hrm hgN hgI hend => ?_)
  subst hgD
  clear hgL
  unfold P_X0_clogCaredFor at h
  refine y_iconst (v := 0) hg dX0_clogCaredFor_0 (by decide) ?_
  refine y_aload_n hg 0 dX0_clogCaredFor_1 rfl rfl ?_
  obtain ⟨h1, h⟩ := h
  refine y_getI hg fl_X0_45 rfl rfl h1 dX0_clogCaredFor_2 ?_
  refine y_bipush (v := 30) hg dX0_clogCaredFor_5 (by decide) ?_
  refine y_isub hg dX0_clogCaredFor_7 ?_
  refine y_mmax hg mm_X0_55 (cat8 (Nat.le_of_ble_eq_true rfl)) hrm ⟨Nat.le_of_ble_eq_true rfl, Nat.le_of_ble_eq_true rfl⟩ dX0_clogCaredFor_8 ?_
  refine y_nmI (fun x2 e3 => ?_)
  replace h := h x2 e3
  exact yEndI hend rfl dX0_clogCaredFor_11 ⟨h, rfl⟩
def P_X0_caredBy (a0 : Nat) (v1 : Int32) (v2 : Int32) (σ : Sg) (Q : Int32 → Sg → Prop) : Prop :=
  P_X10_within v1 0 10 σ (fun x1 => (x1 = 0 → Q 0 σ) ∧ (¬ (x1 = 0) → sK σ a0 % 32 = 2 ∧ P_X0_wasCaredBy a0 v1 v2 σ (fun x4 => (x4 = 0 → ∃ c6 : Nat, sR σ a0 11 = some c6 ∧ sK σ c6 % 32 = 16 ∧ vp_in v1 (sN σ c6) ∧ ∀ σ10 : Sg, σ10 = pI σ c6 v1.toNatClampNeg v2 → P_X0_clogCaredFor a0 σ10 (fun x13 => ∀ σ14 : Sg, σ14 = pI σ10 a0 4 x13 → ∀ σ17 : Sg, σ17 = pI σ14 a0 5 0 → Q 1 σ17)) ∧ (¬ (x4 = 0) → Q 0 σ))))
set_option maxHeartbeats 4000000 in
set_option maxRecDepth 100000 in
theorem k_X0_caredBy (l : Launch) (D : Dg) (a0 : Nat) (v1 : Int32) (v2 : Int32) (σ : Sg) (Q : Int32 → Sg → Prop) (h : P_X0_caredBy a0 v1 v2 σ Q) : CtrY RN l D yX0_caredBy cX0_caredBy 3 (some FieldType.boolean) 2 50 mkI [.ref a0, .int v1, .int v2] σ (0, 0) Q := by
  refine y_ctrN (lv := [(0, va_rf (some a0)), (1, .int v1), (2, .int v2)]) (by decide) (by (exact Nat.le_of_ble_eq_true rfl)) (by (exact rfl)) (fun g hg hgL hgD hrm hgN hgI hend => ?_)
  subst hgD
  clear hgL
  unfold P_X0_caredBy at h
  refine y_iload_n hg 1 dX0_caredBy_0 rfl rfl ?_
  refine y_iconst (v := 0) hg dX0_caredBy_1 (by decide) ?_
  refine y_bipush (v := 10) hg dX0_caredBy_2 (by decide) ?_
  refine ySNIP (Qp := _) (rest := []) (As := [.int v1, .int 0, .int 10]) hg (k_X10_within (gL g.1) (gD g.1) v1 0 10 σ _ h) lsn_X0_61 rfl rfl dX0_caredBy_4 (cat8 (Nat.le_of_ble_eq_true rfl)) hrm ⟨Nat.le_of_ble_eq_true rfl, Nat.le_of_ble_eq_true rfl⟩ (fun x1 h => ?_)
  refine y_if_eq (tgt := 19) hg dX0_caredBy_7 (by decide) (fun q2 => ?_) (fun q2 => ?_)
  · replace h := h.1 q2
    refine y_iconst (v := 0) hg dX0_caredBy_19 (by decide) ?_
    exact yEndI hend (bz_nar (Or.inl rfl)).1 dX0_caredBy_20 h
  · replace h := h.2 q2
    refine y_aload_n hg 0 dX0_caredBy_10 rfl rfl ?_
    refine y_iload_n hg 1 dX0_caredBy_11 rfl rfl ?_
    refine y_iload_n hg 2 dX0_caredBy_12 rfl rfl ?_
    obtain ⟨h3, h⟩ := h
    refine yVIP (Qp := _) (rest := []) (As := [.int v1, .int v2]) hg (k_X0_wasCaredBy (gL g.1) (gD g.1) a0 v1 v2 σ _ h) lv_X0_65 rfl h3 rfl rfl dX0_caredBy_13 (cat8 (Nat.le_of_ble_eq_true rfl)) hrm ⟨Nat.le_of_ble_eq_true rfl, Nat.le_of_ble_eq_true rfl⟩ (fun x4 h => ?_)
    refine y_if_eq (tgt := 21) hg dX0_caredBy_16 (by decide) (fun q5 => ?_) (fun q5 => ?_)
    · replace h := h.1 q5
      refine y_aload_n hg 0 dX0_caredBy_21 rfl rfl ?_
      refine y_getR hg fl_X0_19 rfl rfl h3 dX0_caredBy_22 ?_
      refine y_iload_n hg 1 dX0_caredBy_25 rfl rfl ?_
      refine y_iload_n hg 2 dX0_caredBy_26 rfl rfl ?_
      obtain ⟨c6, h7, h⟩ := h
      obtain ⟨h8, h⟩ := h
      obtain ⟨h9, h⟩ := h
      refine y_iast hg h7 h8 h9 dX0_caredBy_27 ?_
      refine y_nmS (fun σ10 e11 => ?_)
      replace h := h σ10 e11
      have E12 : sK σ10 = sK σ := by rw [e11]; rfl
      refine y_aload_n hg 0 dX0_caredBy_28 rfl rfl ?_
      refine y_aload_n hg 0 dX0_caredBy_29 rfl rfl ?_
      refine yVIP (Qp := _) (rest := [va_rf (some a0)]) (As := []) hg (k_X0_clogCaredFor (gL g.1) (gD g.1) a0 σ10 _ h) lv_X0_48 rfl (kq E12 h3) rfl rfl dX0_caredBy_30 (cat8 (Nat.le_of_ble_eq_true rfl)) hrm ⟨Nat.le_of_ble_eq_true rfl, Nat.le_of_ble_eq_true rfl⟩ (fun x13 h => ?_)
      refine y_putI hg fw_X0_45 (fun z => nomatch z) rfl (kq E12 h3) dX0_caredBy_33 ?_
      refine y_nmS (fun σ14 e15 => ?_)
      replace h := h σ14 e15
      have E16 : sK σ14 = sK σ10 := by rw [e15]; rfl
      refine y_aload_n hg 0 dX0_caredBy_36 rfl rfl ?_
      refine y_iconst (v := 0) hg dX0_caredBy_37 (by decide) ?_
      refine y_putI hg fw_X0_69 (fun z => nomatch z) rfl (kq E16 (kq E12 h3)) dX0_caredBy_38 ?_
      refine y_nmS (fun σ17 e18 => ?_)
      replace h := h σ17 e18
      have E19 : sK σ17 = sK σ14 := by rw [e18]; rfl
      refine y_iconst (v := 1) hg dX0_caredBy_41 (by decide) ?_
      exact yEndI hend (bz_nar (Or.inr rfl)).1 dX0_caredBy_42 h
    · replace h := h.2 q5
      refine y_iconst (v := 0) hg dX0_caredBy_19 (by decide) ?_
      exact yEndI hend (bz_nar (Or.inl rfl)).1 dX0_caredBy_20 h
def P_X6_proveIn (a0 : Nat) (v1 : Int32) (σ : Sg) (Q : Unit → Sg → Prop) : Prop :=
  sK σ a0 % 32 = 8 ∧ ∀ σ2 : Sg, σ2 = pI σ a0 5 v1 → ∀ σ5 : Sg, σ5 = pI σ2 a0 6 ((sI σ2 a0 6) ||| (1 <<< (v1 &&& 31))) → Q () σ5
set_option maxHeartbeats 4000000 in
set_option maxRecDepth 100000 in
theorem k_X6_proveIn (l : Launch) (D : Dg) (a0 : Nat) (v1 : Int32) (σ : Sg) (Q : Unit → Sg → Prop) (h : P_X6_proveIn a0 v1 σ Q) : CtrY RN l D yX6_proveIn cX6_proveIn 2 (none) 0 0 mkV [.ref a0, .int v1] σ (0, 0) Q := by
  refine y_ctrN (lv := [(0, va_rf (some a0)), (1, .int v1)]) (by decide) (by (exact Nat.le_of_ble_eq_true rfl)) (by (exact rfl)) (fun g hg hgL hgD hrm hgN hgI hend => ?_)
  subst hgD
  clear hgL
  unfold P_X6_proveIn at h
  refine y_aload_n hg 0 dX6_proveIn_0 rfl rfl ?_
  refine y_iload_n hg 1 dX6_proveIn_1 rfl rfl ?_
  obtain ⟨h1, h⟩ := h
  refine y_putI hg fw_X6_9 (fun z => nomatch z) rfl h1 dX6_proveIn_2 ?_
  refine y_nmS (fun σ2 e3 => ?_)
  replace h := h σ2 e3
  have E4 : sK σ2 = sK σ := by rw [e3]; rfl
  refine y_aload_n hg 0 dX6_proveIn_5 rfl rfl ?_
  refine y_dup hg dX6_proveIn_6 rfl ?_
  refine y_getI hg fl_X6_27 rfl rfl (kq E4 h1) dX6_proveIn_7 ?_
  refine y_iconst (v := 1) hg dX6_proveIn_10 (by decide) ?_
  refine y_iload_n hg 1 dX6_proveIn_11 rfl rfl ?_
  refine y_ishl hg dX6_proveIn_12 ?_
  refine y_ior hg dX6_proveIn_13 ?_
  refine y_putI hg fw_X6_27 (fun z => nomatch z) rfl (kq E4 h1) dX6_proveIn_14 ?_
  refine y_nmS (fun σ5 e6 => ?_)
  replace h := h σ5 e6
  have E7 : sK σ5 = sK σ2 := by rw [e6]; rfl
  exact yEndV hend dX6_proveIn_17 h
def P_X0_fullDrink_B25 (a0 : Nat) (σ : Sg) (Q : Int32 → Prop) : Prop :=
  Q 0
def P_X0_fullDrink (a0 : Nat) (v1 : Option Nat) (σ : Sg) (Q : Int32 → Prop) : Prop :=
  sK σ a0 % 32 = 2 ∧ ((sI σ a0 0) < 0 → P_X0_fullDrink_B25 a0 σ Q) ∧ (¬ ((sI σ a0 0) < 0) → ∃ c3 : Nat, v1 = some c3 ∧ sK σ c3 % 32 = 16 ∧ ((nI (sN σ c3)) ≤ (sI σ a0 0) → P_X0_fullDrink_B25 a0 σ Q) ∧ (¬ ((nI (sN σ c3)) ≤ (sI σ a0 0)) → vp_in (sI σ a0 0) (sN σ c3) ∧ Q (sI σ c3 (sI σ a0 0).toNatClampNeg)))
set_option maxHeartbeats 4000000 in
set_option maxRecDepth 100000 in
theorem k_X0_fullDrink (l : Launch) (D : Dg) (a0 : Nat) (v1 : Option Nat) (σ : Sg) (Q : Int32 → Prop) (h : P_X0_fullDrink a0 v1 σ Q) : CtrY RN l D yX0_fullDrink cX0_fullDrink 2 (some FieldType.int) 0 0 mkI [.ref a0, va_rf v1] σ (0, 0) (fun r σ2 => Q r ∧ σ2 = σ) := by
  refine y_ctrN (lv := [(0, va_rf (some a0)), (1, va_rf v1)]) (by decide) (by cases v1 <;> (exact Nat.le_of_ble_eq_true rfl)) (by cases v1 <;> (exact rfl)) (fun g hg hgL hgD hrm hgN hgI hend => ?_)
  subst hgD
  clear hgL
  unfold P_X0_fullDrink at h
  have J25 : P_X0_fullDrink_B25 a0 σ Q → XA g 25 [(0, va_rf (some a0))] [] σ (0, 0) := by
    intro  h
    unfold P_X0_fullDrink_B25 at h
    refine y_iconst (v := 0) hg dX0_fullDrink_25 (by decide) ?_
    exact yEndI hend rfl dX0_fullDrink_26 ⟨h, rfl⟩
  refine y_aload_n hg 0 dX0_fullDrink_0 rfl rfl ?_
  obtain ⟨h1, h⟩ := h
  refine y_getI hg fl_X0_23 rfl rfl h1 dX0_fullDrink_1 ?_
  refine y_if_lt (tgt := 25) hg dX0_fullDrink_4 (by decide) (fun q2 => ?_) (fun q2 => ?_)
  · replace h := h.1 q2
    refine y_sub [0] rfl ?_
    exact J25  h
  · replace h := h.2 q2
    refine y_aload_n hg 0 dX0_fullDrink_7 rfl rfl ?_
    refine y_getI hg fl_X0_23 rfl rfl h1 dX0_fullDrink_8 ?_
    refine y_aload_n hg 1 dX0_fullDrink_11 rfl rfl ?_
    obtain ⟨c3, h4, h⟩ := h
    obtain ⟨h5, h⟩ := h
    refine y_alen hg h4 h5 (by decide) (by decide) dX0_fullDrink_12 ?_
    refine y_icmp_ge (tgt := 25) hg dX0_fullDrink_13 (by decide) (fun q6 => ?_) (fun q6 => ?_)
    · replace h := h.1 q6
      refine y_sub [0] rfl ?_
      exact J25  h
    · replace h := h.2 q6
      refine y_aload_n hg 1 dX0_fullDrink_16 rfl rfl ?_
      refine y_aload_n hg 0 dX0_fullDrink_17 rfl rfl ?_
      refine y_getI hg fl_X0_23 rfl rfl h1 dX0_fullDrink_18 ?_
      obtain ⟨h7, h⟩ := h
      refine y_iald hg h4 h5 h7 dX0_fullDrink_21 ?_
      refine y_goto (tgt := 26) hg dX0_fullDrink_22 (by decide) ?_
      exact yEndI hend rfl dX0_fullDrink_26 ⟨h, rfl⟩
def P_X0_drink (a0 : Nat) (v1 : Option Nat) (σ : Sg) (Q : Int32 → Prop) : Prop :=
  sK σ a0 % 32 = 2 ∧ P_X0_fullDrink a0 v1 σ (fun x2 => Q ((x2 * (100 - (sI σ a0 4))) / 100))
set_option maxHeartbeats 4000000 in
set_option maxRecDepth 100000 in
theorem k_X0_drink (l : Launch) (D : Dg) (a0 : Nat) (v1 : Option Nat) (σ : Sg) (Q : Int32 → Prop) (h : P_X0_drink a0 v1 σ Q) : CtrY RN l D yX0_drink cX0_drink 2 (some FieldType.int) 1 21 mkI [.ref a0, va_rf v1] σ (0, 0) (fun r σ2 => Q r ∧ σ2 = σ) := by
  refine y_ctrN (lv := [(0, va_rf (some a0)), (1, va_rf v1)]) (by decide) (by cases v1 <;> (exact Nat.le_of_ble_eq_true rfl)) (by cases v1 <;> (exact rfl)) (fun g hg hgL hgD hrm hgN hgI hend => ?_)
  subst hgD
  clear hgL
  unfold P_X0_drink at h
  refine y_aload_n hg 0 dX0_drink_0 rfl rfl ?_
  refine y_aload_n hg 1 dX0_drink_1 rfl rfl ?_
  obtain ⟨h1, h⟩ := h
  refine yVIP (Qp := _) (rest := []) (As := [va_rf v1]) hg (k_X0_fullDrink (gL g.1) (gD g.1) a0 v1 σ _ h) lv_X0_41 rfl h1 rfl rfl dX0_drink_2 (cat8 (Nat.le_of_ble_eq_true rfl)) hrm ⟨Nat.le_of_ble_eq_true rfl, Nat.le_of_ble_eq_true rfl⟩ (fun x2 h => ?_)
  refine y_bipush (v := 100) hg dX0_drink_5 (by decide) ?_
  refine y_aload_n hg 0 dX0_drink_7 rfl rfl ?_
  refine y_getI hg fl_X0_45 rfl rfl h1 dX0_drink_8 ?_
  refine y_isub hg dX0_drink_11 ?_
  refine y_imul hg dX0_drink_12 ?_
  refine y_bipush (v := 100) hg dX0_drink_13 (by decide) ?_
  refine y_idiv hg dX0_drink_15 (by decide) ?_
  exact yEndI hend rfl dX0_drink_16 ⟨h, rfl⟩
def P_X0_clogUp_B44 (a0 : Nat) (w0 : Option Nat) (w1 : Int32) (w2 : Int32) (w3 : Int32) (σ : Sg) (Q : Unit → Sg → Prop) : Prop :=
  ∀ x13 : Int32, x13 = (if (w2 + w3) < w1 then (w2 + w3) else w1) → ∃ c15 : Nat, w0 = some c15 ∧ sK σ c15 % 32 = 2 ∧ ∀ σ18 : Sg, σ18 = pI σ c15 4 x13 → Q () σ18
def P_X0_clogUp_B22 (a0 : Nat) (w0 : Int32) (σ : Sg) (Q : Unit → Sg → Prop) : Prop :=
  sK σ a0 % 32 = 2 ∧ ((sI σ a0 7) = 0 → P_X0_clogUp_B44 a0 (some a0) 100 (sI σ a0 4) (2 * w0) σ Q) ∧ (¬ ((sI σ a0 7) = 0) → P_X0_clogUp_B44 a0 (some a0) 100 (sI σ a0 4) w0 σ Q)
def P_X0_clogUp (a0 : Nat) (v1 : Option Nat) (σ : Sg) (Q : Unit → Sg → Prop) : Prop :=
  sK σ a0 % 32 = 2 ∧ ((sI σ a0 2) = 0 → ∃ c3 : Nat, v1 = some c3 ∧ sK σ c3 % 32 = 6 ∧ P_X4_value c3 0 σ (fun x6 => P_X0_clogUp_B22 a0 x6 σ Q)) ∧ (¬ ((sI σ a0 2) = 0) → ∃ c7 : Nat, v1 = some c7 ∧ sK σ c7 % 32 = 6 ∧ P_X4_value c7 0 σ (fun x10 => P_X0_clogUp_B22 a0 (x10 / 2) σ Q))
set_option maxHeartbeats 4000000 in
set_option maxRecDepth 100000 in
theorem k_X0_clogUp (l : Launch) (D : Dg) (a0 : Nat) (v1 : Option Nat) (σ : Sg) (Q : Unit → Sg → Prop) (h : P_X0_clogUp a0 v1 σ Q) : CtrY RN l D yX0_clogUp cX0_clogUp 3 (none) 1 30 mkV [.ref a0, va_rf v1] σ (0, 0) Q := by
  refine y_ctrN (lv := [(0, va_rf (some a0)), (1, va_rf v1)]) (by decide) (by cases v1 <;> (exact Nat.le_of_ble_eq_true rfl)) (by cases v1 <;> (exact rfl)) (fun g hg hgL hgD hrm hgN hgI hend => ?_)
  subst hgD
  clear hgL
  unfold P_X0_clogUp at h
  have J44 : ∀ (w0 : Option Nat) (w1 : Int32) (w2 : Int32) (w3 : Int32) (σ : Sg), P_X0_clogUp_B44 a0 w0 w1 w2 w3 σ Q → XA g 44 [(0, va_rf (some a0))] [.int w3, .int w2, .int w1, va_rf w0] σ (0, 0) := by
    intro w0 w1 w2 w3 σ h
    unfold P_X0_clogUp_B44 at h
    refine y_iadd hg dX0_clogUp_44 ?_
    refine y_mmin hg mm_X0_78 (cat8 (Nat.le_of_ble_eq_true rfl)) hrm ⟨Nat.le_of_ble_eq_true rfl, Nat.le_of_ble_eq_true rfl⟩ dX0_clogUp_45 ?_
    refine y_nmI (fun x13 e14 => ?_)
    replace h := h x13 e14
    obtain ⟨c15, h16, h⟩ := h
    obtain ⟨h17, h⟩ := h
    refine y_putI hg fw_X0_45 (fun z => nomatch z) h16 h17 dX0_clogUp_48 ?_
    refine y_nmS (fun σ18 e19 => ?_)
    replace h := h σ18 e19
    have E20 : sK σ18 = sK σ := by rw [e19]; rfl
    exact yEndV hend dX0_clogUp_51 h
  have J22 : ∀ (w0 : Int32) (σ : Sg), P_X0_clogUp_B22 a0 w0 σ Q → XA g 22 [(0, va_rf (some a0))] [.int w0] σ (0, 0) := by
    intro w0 σ h
    unfold P_X0_clogUp_B22 at h
    refine y_istore_n (lv' := [(2, .int w0), (0, va_rf (some a0))]) hg dX0_clogUp_22 rfl (by rw [hgN]; decide) rfl ?_
    refine y_aload_n hg 1 dX0_clogUp_23 rfl rfl ?_
    refine y_bipush (v := 100) hg dX0_clogUp_24 (by decide) ?_
    refine y_aload_n hg 1 dX0_clogUp_26 rfl rfl ?_
    obtain ⟨h11, h⟩ := h
    refine y_getI hg fl_X0_45 rfl rfl h11 dX0_clogUp_27 ?_
    refine y_aload_n hg 1 dX0_clogUp_30 rfl rfl ?_
    refine y_getI hg fl_X0_9 rfl rfl h11 dX0_clogUp_31 ?_
    refine y_if_eq (tgt := 41) hg dX0_clogUp_34 (by decide) (fun q12 => ?_) (fun q12 => ?_)
    · replace h := h.1 q12
      refine y_iconst (v := 2) hg dX0_clogUp_41 (by decide) ?_
      refine y_iload_n hg 0 dX0_clogUp_42 rfl rfl ?_
      refine y_imul hg dX0_clogUp_43 ?_
      refine y_sub [1] rfl ?_
      exact J44 _ _ _ _ _ h
    · replace h := h.2 q12
      refine y_iload_n hg 0 dX0_clogUp_37 rfl rfl ?_
      refine y_goto (tgt := 44) hg dX0_clogUp_38 (by decide) ?_
      refine y_sub [1] rfl ?_
      exact J44 _ _ _ _ _ h
  refine y_aload_n hg 0 dX0_clogUp_0 rfl rfl ?_
  obtain ⟨h1, h⟩ := h
  refine y_getI hg fl_X0_29 rfl rfl h1 dX0_clogUp_1 ?_
  refine y_if_eq (tgt := 17) hg dX0_clogUp_4 (by decide) (fun q2 => ?_) (fun q2 => ?_)
  · replace h := h.1 q2
    refine y_aload_n hg 1 dX0_clogUp_17 rfl rfl ?_
    refine y_iconst (v := 0) hg dX0_clogUp_18 (by decide) ?_
    obtain ⟨c3, h4, h⟩ := h
    obtain ⟨h5, h⟩ := h
    refine yVIP (Qp := _) (rest := []) (As := [.int 0]) hg (k_X4_value (gL g.1) (gD g.1) c3 0 σ _ h) lv_X0_72 h4 h5 rfl rfl dX0_clogUp_19 (cat8 (Nat.le_of_ble_eq_true rfl)) hrm ⟨Nat.le_of_ble_eq_true rfl, Nat.le_of_ble_eq_true rfl⟩ (fun x6 h => ?_)
    refine y_sub [0] rfl ?_
    exact J22 _ _ h
  · replace h := h.2 q2
    refine y_aload_n hg 1 dX0_clogUp_7 rfl rfl ?_
    refine y_iconst (v := 0) hg dX0_clogUp_8 (by decide) ?_
    obtain ⟨c7, h8, h⟩ := h
    obtain ⟨h9, h⟩ := h
    refine yVIP (Qp := _) (rest := []) (As := [.int 0]) hg (k_X4_value (gL g.1) (gD g.1) c7 0 σ _ h) lv_X0_72 h8 h9 rfl rfl dX0_clogUp_9 (cat8 (Nat.le_of_ble_eq_true rfl)) hrm ⟨Nat.le_of_ble_eq_true rfl, Nat.le_of_ble_eq_true rfl⟩ (fun x10 h => ?_)
    refine y_iconst (v := 2) hg dX0_clogUp_12 (by decide) ?_
    refine y_idiv hg dX0_clogUp_13 (by decide) ?_
    refine y_goto (tgt := 22) hg dX0_clogUp_14 (by decide) ?_
    refine y_sub [0] rfl ?_
    exact J22 _ _ h
def P_X4_leavesFallOn_B67 (a0 : Nat) (σ : Sg) (Q : Int32 → Prop) : Prop :=
  Q 1
def P_X4_leavesFallOn_B55 (a0 : Nat) (σ : Sg) (Q : Int32 → Prop) : Prop :=
  Q 0
def P_X4_leavesFallOn_B29 (a0 : Nat) (v2 : Int32) (w0 : Int32) (σ : Sg) (Q : Int32 → Prop) : Prop :=
  sK σ a0 % 32 = 6 ∧ P_X4_value a0 1 σ (fun x8 => P_X4_value a0 2 σ (fun x9 => (x9 < x8 → (v2 = 0 → (w0 = 0 → Q 0) ∧ (¬ (w0 = 0) → P_X4_leavesFallOn_B67 a0 σ Q)) ∧ (¬ (v2 = 0) → P_X4_leavesFallOn_B67 a0 σ Q)) ∧ (¬ (x9 < x8) → (v2 = 0 → P_X4_leavesFallOn_B55 a0 σ Q) ∧ (¬ (v2 = 0) → (w0 = 0 → P_X4_leavesFallOn_B55 a0 σ Q) ∧ (¬ (w0 = 0) → Q 1)))))
def P_X4_leavesFallOn_B14 (a0 : Nat) (v1 : Int32) (w0 : Int32) (σ : Sg) (Q : Int32 → Prop) : Prop :=
  sK σ a0 % 32 = 6 ∧ P_X4_value a0 2 σ (fun x5 => (x5 < v1 → P_X4_leavesFallOn_B29 a0 w0 0 σ Q) ∧ (¬ (x5 < v1) → P_X4_leavesFallOn_B29 a0 w0 1 σ Q))
def P_X4_leavesFallOn (a0 : Nat) (v1 : Int32) (σ : Sg) (Q : Int32 → Prop) : Prop :=
  sK σ a0 % 32 = 6 ∧ P_X4_value a0 1 σ (fun x2 => (v1 < x2 → P_X4_leavesFallOn_B14 a0 v1 0 σ Q) ∧ (¬ (v1 < x2) → P_X4_leavesFallOn_B14 a0 v1 1 σ Q))
set_option maxHeartbeats 4000000 in
set_option maxRecDepth 100000 in
theorem k_X4_leavesFallOn (l : Launch) (D : Dg) (a0 : Nat) (v1 : Int32) (σ : Sg) (Q : Int32 → Prop) (h : P_X4_leavesFallOn a0 v1 σ Q) : CtrY RN l D yX4_leavesFallOn cX4_leavesFallOn 4 (some FieldType.boolean) 1 21 mkI [.ref a0, .int v1] σ (0, 0) (fun r σ2 => Q r ∧ σ2 = σ) := by
  refine y_ctrN (lv := [(0, va_rf (some a0)), (1, .int v1)]) (by decide) (by (exact Nat.le_of_ble_eq_true rfl)) (by (exact rfl)) (fun g hg hgL hgD hrm hgN hgI hend => ?_)
  subst hgD
  clear hgL
  unfold P_X4_leavesFallOn at h
  have J67 : P_X4_leavesFallOn_B67 a0 σ Q → XA g 67 [(0, va_rf (some a0))] [] σ (0, 0) := by
    intro  h
    unfold P_X4_leavesFallOn_B67 at h
    refine y_iconst (v := 1) hg dX4_leavesFallOn_67 (by decide) ?_
    refine y_goto (tgt := 72) hg dX4_leavesFallOn_68 (by decide) ?_
    exact yEndI hend (bz_nar (Or.inr rfl)).1 dX4_leavesFallOn_72 ⟨h, rfl⟩
  have J55 : P_X4_leavesFallOn_B55 a0 σ Q → XA g 55 [(0, va_rf (some a0))] [] σ (0, 0) := by
    intro  h
    unfold P_X4_leavesFallOn_B55 at h
    refine y_iconst (v := 0) hg dX4_leavesFallOn_55 (by decide) ?_
    refine y_goto (tgt := 72) hg dX4_leavesFallOn_56 (by decide) ?_
    exact yEndI hend (bz_nar (Or.inl rfl)).1 dX4_leavesFallOn_72 ⟨h, rfl⟩
  have J29 : ∀ (v2 : Int32) (w0 : Int32), P_X4_leavesFallOn_B29 a0 v2 w0 σ Q → XA g 29 [(0, va_rf (some a0)), (2, .int v2)] [.int w0] σ (0, 0) := by
    intro v2 w0 h
    unfold P_X4_leavesFallOn_B29 at h
    refine y_istore_n (lv' := [(3, .int w0), (0, va_rf (some a0)), (2, .int v2)]) hg dX4_leavesFallOn_29 rfl (by rw [hgN]; decide) rfl ?_
    refine y_aload_n hg 1 dX4_leavesFallOn_30 rfl rfl ?_
    refine y_iconst (v := 1) hg dX4_leavesFallOn_31 (by decide) ?_
    obtain ⟨h7, h⟩ := h
    refine yVIP (Qp := _) (rest := []) (As := [.int 1]) hg (k_X4_value (gL g.1) (gD g.1) a0 1 σ _ h) lv_X4_32 rfl h7 rfl rfl dX4_leavesFallOn_32 (cat8 (Nat.le_of_ble_eq_true rfl)) hrm ⟨Nat.le_of_ble_eq_true rfl, Nat.le_of_ble_eq_true rfl⟩ (fun x8 h => ?_)
    refine y_aload_n hg 1 dX4_leavesFallOn_35 rfl rfl ?_
    refine y_iconst (v := 2) hg dX4_leavesFallOn_36 (by decide) ?_
    refine yVIP (Qp := _) (rest := [.int x8]) (As := [.int 2]) hg (k_X4_value (gL g.1) (gD g.1) a0 2 σ _ h) lv_X4_32 rfl h7 rfl rfl dX4_leavesFallOn_37 (cat8 (Nat.le_of_ble_eq_true rfl)) hrm ⟨Nat.le_of_ble_eq_true rfl, Nat.le_of_ble_eq_true rfl⟩ (fun x9 h => ?_)
    refine y_icmp_gt (tgt := 59) hg dX4_leavesFallOn_40 (by decide) (fun q10 => ?_) (fun q10 => ?_)
    · replace h := h.1 q10
      refine y_iload_n hg 2 dX4_leavesFallOn_59 rfl rfl ?_
      refine y_if_ne (tgt := 67) hg dX4_leavesFallOn_60 (by decide) (fun q11 => ?_) (fun q11 => ?_)
      · replace h := h.2 q11
        refine y_sub [1] rfl ?_
        exact J67  h
      · replace h := h.1 q11
        refine y_iload_n hg 0 dX4_leavesFallOn_63 rfl rfl ?_
        refine y_if_eq (tgt := 71) hg dX4_leavesFallOn_64 (by decide) (fun q12 => ?_) (fun q12 => ?_)
        · replace h := h.1 q12
          refine y_iconst (v := 0) hg dX4_leavesFallOn_71 (by decide) ?_
          exact yEndI hend (bz_nar (Or.inl rfl)).1 dX4_leavesFallOn_72 ⟨h, rfl⟩
        · replace h := h.2 q12
          refine y_sub [1] rfl ?_
          exact J67  h
    · replace h := h.2 q10
      refine y_iload_n hg 2 dX4_leavesFallOn_43 rfl rfl ?_
      refine y_if_eq (tgt := 55) hg dX4_leavesFallOn_44 (by decide) (fun q13 => ?_) (fun q13 => ?_)
      · replace h := h.1 q13
        refine y_sub [1] rfl ?_
        exact J55  h
      · replace h := h.2 q13
        refine y_iload_n hg 0 dX4_leavesFallOn_47 rfl rfl ?_
        refine y_if_eq (tgt := 55) hg dX4_leavesFallOn_48 (by decide) (fun q14 => ?_) (fun q14 => ?_)
        · replace h := h.1 q14
          refine y_sub [1] rfl ?_
          exact J55  h
        · replace h := h.2 q14
          refine y_iconst (v := 1) hg dX4_leavesFallOn_51 (by decide) ?_
          refine y_goto (tgt := 72) hg dX4_leavesFallOn_52 (by decide) ?_
          exact yEndI hend (bz_nar (Or.inr rfl)).1 dX4_leavesFallOn_72 ⟨h, rfl⟩
  have J14 : ∀ (v1 : Int32) (w0 : Int32), P_X4_leavesFallOn_B14 a0 v1 w0 σ Q → XA g 14 [(0, va_rf (some a0)), (1, .int v1)] [.int w0] σ (0, 0) := by
    intro v1 w0 h
    unfold P_X4_leavesFallOn_B14 at h
    refine y_istore_n (lv' := [(2, .int w0), (0, va_rf (some a0)), (1, .int v1)]) hg dX4_leavesFallOn_14 rfl (by rw [hgN]; decide) rfl ?_
    refine y_iload_n hg 2 dX4_leavesFallOn_15 rfl rfl ?_
    refine y_aload_n hg 1 dX4_leavesFallOn_16 rfl rfl ?_
    refine y_iconst (v := 2) hg dX4_leavesFallOn_17 (by decide) ?_
    obtain ⟨h4, h⟩ := h
    refine yVIP (Qp := _) (rest := [.int v1]) (As := [.int 2]) hg (k_X4_value (gL g.1) (gD g.1) a0 2 σ _ h) lv_X4_32 rfl h4 rfl rfl dX4_leavesFallOn_18 (cat8 (Nat.le_of_ble_eq_true rfl)) hrm ⟨Nat.le_of_ble_eq_true rfl, Nat.le_of_ble_eq_true rfl⟩ (fun x5 h => ?_)
    refine y_icmp_gt (tgt := 28) hg dX4_leavesFallOn_21 (by decide) (fun q6 => ?_) (fun q6 => ?_)
    · replace h := h.1 q6
      refine y_iconst (v := 0) hg dX4_leavesFallOn_28 (by decide) ?_
      refine y_sub [1, 0] rfl ?_
      exact J29 _ _ h
    · replace h := h.2 q6
      refine y_iconst (v := 1) hg dX4_leavesFallOn_24 (by decide) ?_
      refine y_goto (tgt := 29) hg dX4_leavesFallOn_25 (by decide) ?_
      refine y_sub [1, 0] rfl ?_
      exact J29 _ _ h
  refine y_iload_n hg 1 dX4_leavesFallOn_0 rfl rfl ?_
  refine y_aload_n hg 0 dX4_leavesFallOn_1 rfl rfl ?_
  refine y_iconst (v := 1) hg dX4_leavesFallOn_2 (by decide) ?_
  obtain ⟨h1, h⟩ := h
  refine yVIP (Qp := _) (rest := [.int v1]) (As := [.int 1]) hg (k_X4_value (gL g.1) (gD g.1) a0 1 σ _ h) lv_X4_32 rfl h1 rfl rfl dX4_leavesFallOn_3 (cat8 (Nat.le_of_ble_eq_true rfl)) hrm ⟨Nat.le_of_ble_eq_true rfl, Nat.le_of_ble_eq_true rfl⟩ (fun x2 h => ?_)
  refine y_icmp_lt (tgt := 13) hg dX4_leavesFallOn_6 (by decide) (fun q3 => ?_) (fun q3 => ?_)
  · replace h := h.1 q3
    refine y_iconst (v := 0) hg dX4_leavesFallOn_13 (by decide) ?_
    refine y_sub [0, 1] rfl ?_
    exact J14 _ _ h
  · replace h := h.2 q3
    refine y_iconst (v := 1) hg dX4_leavesFallOn_9 (by decide) ?_
    refine y_goto (tgt := 14) hg dX4_leavesFallOn_10 (by decide) ?_
    refine y_sub [0, 1] rfl ?_
    exact J14 _ _ h
def P_X0_shedLeaves_B27 (a0 : Nat) (w0 : Option Nat) (w1 : Int32) (w2 : Int32) (w3 : Int32) (σ : Sg) (Q : Unit → Sg → Prop) : Prop :=
  ∀ x8 : Int32, x8 = (if (w2 + w3) < w1 then (w2 + w3) else w1) → ∃ c10 : Nat, w0 = some c10 ∧ sK σ c10 % 32 = 2 ∧ ∀ σ13 : Sg, σ13 = pI σ c10 5 x8 → Q () σ13
def P_X0_shedLeaves (a0 : Nat) (v1 : Option Nat) (v2 : Int32) (σ : Sg) (Q : Unit → Sg → Prop) : Prop :=
  ∃ c1 : Nat, v1 = some c1 ∧ sK σ c1 % 32 = 6 ∧ P_X4_leavesFallOn c1 v2 σ (fun x4 => (x4 = 0 → Q () σ) ∧ (¬ (x4 = 0) → sK σ a0 % 32 = 2 ∧ ((sI σ a0 2) = 0 → P_X0_shedLeaves_B27 a0 (some a0) 10 (sI σ a0 5) 1 σ Q) ∧ (¬ ((sI σ a0 2) = 0) → P_X0_shedLeaves_B27 a0 (some a0) 10 (sI σ a0 5) 2 σ Q)))
set_option maxHeartbeats 4000000 in
set_option maxRecDepth 100000 in
theorem k_X0_shedLeaves (l : Launch) (D : Dg) (a0 : Nat) (v1 : Option Nat) (v2 : Int32) (σ : Sg) (Q : Unit → Sg → Prop) (h : P_X0_shedLeaves a0 v1 v2 σ Q) : CtrY RN l D yX0_shedLeaves cX0_shedLeaves 3 (none) 2 44 mkV [.ref a0, va_rf v1, .int v2] σ (0, 0) Q := by
  refine y_ctrN (lv := [(0, va_rf (some a0)), (1, va_rf v1), (2, .int v2)]) (by decide) (by cases v1 <;> (exact Nat.le_of_ble_eq_true rfl)) (by cases v1 <;> (exact rfl)) (fun g hg hgL hgD hrm hgN hgI hend => ?_)
  subst hgD
  clear hgL
  unfold P_X0_shedLeaves at h
  have J27 : ∀ (w0 : Option Nat) (w1 : Int32) (w2 : Int32) (w3 : Int32) (σ : Sg), P_X0_shedLeaves_B27 a0 w0 w1 w2 w3 σ Q → XA g 27 [(0, va_rf (some a0))] [.int w3, .int w2, .int w1, va_rf w0] σ (0, 0) := by
    intro w0 w1 w2 w3 σ h
    unfold P_X0_shedLeaves_B27 at h
    refine y_iadd hg dX0_shedLeaves_27 ?_
    refine y_mmin hg mm_X0_78 (cat8 (Nat.le_of_ble_eq_true rfl)) hrm ⟨Nat.le_of_ble_eq_true rfl, Nat.le_of_ble_eq_true rfl⟩ dX0_shedLeaves_28 ?_
    refine y_nmI (fun x8 e9 => ?_)
    replace h := h x8 e9
    obtain ⟨c10, h11, h⟩ := h
    obtain ⟨h12, h⟩ := h
    refine y_putI hg fw_X0_69 (fun z => nomatch z) h11 h12 dX0_shedLeaves_31 ?_
    refine y_nmS (fun σ13 e14 => ?_)
    replace h := h σ13 e14
    have E15 : sK σ13 = sK σ := by rw [e14]; rfl
    exact yEndV hend dX0_shedLeaves_34 h
  refine y_aload_n hg 1 dX0_shedLeaves_0 rfl rfl ?_
  refine y_iload_n hg 2 dX0_shedLeaves_1 rfl rfl ?_
  obtain ⟨c1, h2, h⟩ := h
  obtain ⟨h3, h⟩ := h
  refine yVIP (Qp := _) (rest := []) (As := [.int v2]) hg (k_X4_leavesFallOn (gL g.1) (gD g.1) c1 v2 σ _ h) lv_X0_81 h2 h3 rfl rfl dX0_shedLeaves_2 (cat8 (Nat.le_of_ble_eq_true rfl)) hrm ⟨Nat.le_of_ble_eq_true rfl, Nat.le_of_ble_eq_true rfl⟩ (fun x4 h => ?_)
  refine y_if_eq (tgt := 34) hg dX0_shedLeaves_5 (by decide) (fun q5 => ?_) (fun q5 => ?_)
  · replace h := h.1 q5
    exact yEndV hend dX0_shedLeaves_34 h
  · replace h := h.2 q5
    refine y_aload_n hg 0 dX0_shedLeaves_8 rfl rfl ?_
    refine y_bipush (v := 10) hg dX0_shedLeaves_9 (by decide) ?_
    refine y_aload_n hg 0 dX0_shedLeaves_11 rfl rfl ?_
    obtain ⟨h6, h⟩ := h
    refine y_getI hg fl_X0_69 rfl rfl h6 dX0_shedLeaves_12 ?_
    refine y_aload_n hg 0 dX0_shedLeaves_15 rfl rfl ?_
    refine y_getI hg fl_X0_29 rfl rfl h6 dX0_shedLeaves_16 ?_
    refine y_if_eq (tgt := 26) hg dX0_shedLeaves_19 (by decide) (fun q7 => ?_) (fun q7 => ?_)
    · replace h := h.1 q7
      refine y_iconst (v := 1) hg dX0_shedLeaves_26 (by decide) ?_
      refine y_sub [0] rfl ?_
      exact J27 _ _ _ _ _ h
    · replace h := h.2 q7
      refine y_iconst (v := 2) hg dX0_shedLeaves_22 (by decide) ?_
      refine y_goto (tgt := 27) hg dX0_shedLeaves_23 (by decide) ?_
      refine y_sub [0] rfl ?_
      exact J27 _ _ _ _ _ h
def P_X0_drinkForADay_B44 (a0 : Nat) (v2 : Int32) (w0 : Option Nat) (w1 : Int32) (σ : Sg) (Q : Int32 → Sg → Prop) : Prop :=
  ∃ c9 : Nat, w0 = some c9 ∧ sK σ c9 % 32 = 2 ∧ ∀ σ12 : Sg, σ12 = pI σ c9 9 w1 → Q v2 σ12
def P_X0_drinkForADay (a0 : Nat) (v1 : Option Nat) (σ : Sg) (Q : Int32 → Sg → Prop) : Prop :=
  sK σ a0 % 32 = 2 ∧ P_X0_drink a0 v1 σ (fun x2 => ∀ x3 : Int32, x3 = (if (20 * x2) < (sI σ a0 8) then (20 * x2) else (sI σ a0 8)) → ∀ σ5 : Sg, σ5 = pI σ a0 8 ((sI σ a0 8) - x3) → ((sI σ5 a0 8) ≤ 0 → P_X0_drinkForADay_B44 a0 x3 (some a0) 0 σ5 Q) ∧ (¬ ((sI σ5 a0 8) ≤ 0) → P_X0_drinkForADay_B44 a0 x3 (some a0) ((sI σ5 a0 9) + 1) σ5 Q))
set_option maxHeartbeats 4000000 in
set_option maxRecDepth 100000 in
theorem k_X0_drinkForADay (l : Launch) (D : Dg) (a0 : Nat) (v1 : Option Nat) (σ : Sg) (Q : Int32 → Sg → Prop) (h : P_X0_drinkForADay a0 v1 σ Q) : CtrY RN l D yX0_drinkForADay cX0_drinkForADay 3 (some FieldType.int) 2 42 mkI [.ref a0, va_rf v1] σ (0, 0) Q := by
  refine y_ctrN (lv := [(0, va_rf (some a0)), (1, va_rf v1)]) (by decide) (by cases v1 <;> (exact Nat.le_of_ble_eq_true rfl)) (by cases v1 <;> (exact rfl)) (fun g hg hgL hgD hrm hgN hgI hend => ?_)
  subst hgD
  clear hgL
  unfold P_X0_drinkForADay at h
  have J44 : ∀ (v2 : Int32) (w0 : Option Nat) (w1 : Int32) (σ : Sg), P_X0_drinkForADay_B44 a0 v2 w0 w1 σ Q → XA g 44 [(0, va_rf (some a0)), (2, .int v2)] [.int w1, va_rf w0] σ (0, 0) := by
    intro v2 w0 w1 σ h
    unfold P_X0_drinkForADay_B44 at h
    obtain ⟨c9, h10, h⟩ := h
    obtain ⟨h11, h⟩ := h
    refine y_putI hg fw_X0_88 (fun z => nomatch z) h10 h11 dX0_drinkForADay_44 ?_
    refine y_nmS (fun σ12 e13 => ?_)
    replace h := h σ12 e13
    have E14 : sK σ12 = sK σ := by rw [e13]; rfl
    refine y_iload_n hg 1 dX0_drinkForADay_47 rfl rfl ?_
    exact yEndI hend rfl dX0_drinkForADay_48 h
  refine y_aload_n hg 0 dX0_drinkForADay_0 rfl rfl ?_
  obtain ⟨h1, h⟩ := h
  refine y_getI hg fl_X0_85 rfl rfl h1 dX0_drinkForADay_1 ?_
  refine y_bipush (v := 20) hg dX0_drinkForADay_4 (by decide) ?_
  refine y_aload_n hg 0 dX0_drinkForADay_6 rfl rfl ?_
  refine y_aload_n hg 1 dX0_drinkForADay_7 rfl rfl ?_
  refine yVIP (Qp := _) (rest := [.int 20, .int (sI σ a0 8)]) (As := [va_rf v1]) hg (k_X0_drink (gL g.1) (gD g.1) a0 v1 σ _ h) lv_X0_52 rfl h1 rfl rfl dX0_drinkForADay_8 (cat8 (Nat.le_of_ble_eq_true rfl)) hrm ⟨Nat.le_of_ble_eq_true rfl, Nat.le_of_ble_eq_true rfl⟩ (fun x2 h => ?_)
  refine y_imul hg dX0_drinkForADay_11 ?_
  refine y_mmin hg mm_X0_78 (cat8 (Nat.le_of_ble_eq_true rfl)) hrm ⟨Nat.le_of_ble_eq_true rfl, Nat.le_of_ble_eq_true rfl⟩ dX0_drinkForADay_12 ?_
  refine y_nmI (fun x3 e4 => ?_)
  replace h := h x3 e4
  refine y_istore_n (lv' := [(2, .int x3), (0, va_rf (some a0)), (1, va_rf v1)]) hg dX0_drinkForADay_15 rfl (by rw [hgN]; decide) (by cases v1 <;> rfl) ?_
  refine y_aload_n hg 1 dX0_drinkForADay_16 rfl rfl ?_
  refine y_dup hg dX0_drinkForADay_17 rfl ?_
  refine y_getI hg fl_X0_85 rfl rfl h1 dX0_drinkForADay_18 ?_
  refine y_iload_n hg 0 dX0_drinkForADay_21 rfl rfl ?_
  refine y_isub hg dX0_drinkForADay_22 ?_
  refine y_putI hg fw_X0_85 (fun z => nomatch z) rfl h1 dX0_drinkForADay_23 ?_
  refine y_nmS (fun σ5 e6 => ?_)
  replace h := h σ5 e6
  have E7 : sK σ5 = sK σ := by rw [e6]; rfl
  refine y_aload_n hg 1 dX0_drinkForADay_26 rfl rfl ?_
  refine y_aload_n hg 1 dX0_drinkForADay_27 rfl rfl ?_
  refine y_getI hg fl_X0_85 rfl rfl (kq E7 h1) dX0_drinkForADay_28 ?_
  refine y_if_le (tgt := 43) hg dX0_drinkForADay_31 (by decide) (fun q8 => ?_) (fun q8 => ?_)
  · replace h := h.1 q8
    refine y_iconst (v := 0) hg dX0_drinkForADay_43 (by decide) ?_
    refine y_sub [1, 0] rfl ?_
    exact J44 _ _ _ _ h
  · replace h := h.2 q8
    refine y_aload_n hg 1 dX0_drinkForADay_34 rfl rfl ?_
    refine y_getI hg fl_X0_88 rfl rfl (kq E7 h1) dX0_drinkForADay_35 ?_
    refine y_iconst (v := 1) hg dX0_drinkForADay_38 (by decide) ?_
    refine y_iadd hg dX0_drinkForADay_39 ?_
    refine y_goto (tgt := 44) hg dX0_drinkForADay_40 (by decide) ?_
    refine y_sub [1, 0] rfl ?_
    exact J44 _ _ _ _ h
def P_X0_standsTooLong (a0 : Nat) (v1 : Option Nat) (σ : Sg) (Q : Int32 → Prop) : Prop :=
  sK σ a0 % 32 = 2 ∧ ∃ c2 : Nat, v1 = some c2 ∧ sK σ c2 % 32 = 6 ∧ P_X4_value c2 6 σ (fun x5 => ((sI σ a0 9) = (x5 + 1) → Q 1) ∧ (¬ ((sI σ a0 9) = (x5 + 1)) → Q 0))
set_option maxHeartbeats 4000000 in
set_option maxRecDepth 100000 in
theorem k_X0_standsTooLong (l : Launch) (D : Dg) (a0 : Nat) (v1 : Option Nat) (σ : Sg) (Q : Int32 → Prop) (h : P_X0_standsTooLong a0 v1 σ Q) : CtrY RN l D yX0_standsTooLong cX0_standsTooLong 2 (some FieldType.boolean) 1 21 mkI [.ref a0, va_rf v1] σ (0, 0) (fun r σ2 => Q r ∧ σ2 = σ) := by
  refine y_ctrN (lv := [(0, va_rf (some a0)), (1, va_rf v1)]) (by decide) (by cases v1 <;> (exact Nat.le_of_ble_eq_true rfl)) (by cases v1 <;> (exact rfl)) (fun g hg hgL hgD hrm hgN hgI hend => ?_)
  subst hgD
  clear hgL
  unfold P_X0_standsTooLong at h
  refine y_aload_n hg 0 dX0_standsTooLong_0 rfl rfl ?_
  obtain ⟨h1, h⟩ := h
  refine y_getI hg fl_X0_88 rfl rfl h1 dX0_standsTooLong_1 ?_
  refine y_aload_n hg 1 dX0_standsTooLong_4 rfl rfl ?_
  refine y_bipush (v := 6) hg dX0_standsTooLong_5 (by decide) ?_
  obtain ⟨c2, h3, h⟩ := h
  obtain ⟨h4, h⟩ := h
  refine yVIP (Qp := _) (rest := [.int (sI σ a0 9)]) (As := [.int 6]) hg (k_X4_value (gL g.1) (gD g.1) c2 6 σ _ h) lv_X0_72 h3 h4 rfl rfl dX0_standsTooLong_7 (cat8 (Nat.le_of_ble_eq_true rfl)) hrm ⟨Nat.le_of_ble_eq_true rfl, Nat.le_of_ble_eq_true rfl⟩ (fun x5 h => ?_)
  refine y_iconst (v := 1) hg dX0_standsTooLong_10 (by decide) ?_
  refine y_iadd hg dX0_standsTooLong_11 ?_
  refine y_icmp_ne (tgt := 19) hg dX0_standsTooLong_12 (by decide) (fun q6 => ?_) (fun q6 => ?_)
  · replace h := h.2 q6
    refine y_iconst (v := 0) hg dX0_standsTooLong_19 (by decide) ?_
    exact yEndI hend (bz_nar (Or.inl rfl)).1 dX0_standsTooLong_20 ⟨h, rfl⟩
  · replace h := h.1 q6
    refine y_iconst (v := 1) hg dX0_standsTooLong_15 (by decide) ?_
    refine y_goto (tgt := 20) hg dX0_standsTooLong_16 (by decide) ?_
    exact yEndI hend (bz_nar (Or.inr rfl)).1 dX0_standsTooLong_20 ⟨h, rfl⟩
def P_X1_joins (a0 : Nat) (v1 : Int32) (v2 : Int32) (v3 : Int32) (σ : Sg) (Q : Int32 → Sg → Prop) : Prop :=
  sK σ a0 % 32 = 3 ∧ ((sI σ a0 5) = 0 → Q 0 σ) ∧ (¬ ((sI σ a0 5) = 0) → ((sI σ a0 0) = v1 → ((sI σ a0 1) = v2 → ((v3 - (sI σ a0 3)) ≤ 7 → ∀ σ6 : Sg, σ6 = pI σ a0 3 v3 → ∀ σ9 : Sg, σ9 = pI σ6 a0 4 ((sI σ6 a0 4) + 1) → Q 1 σ9) ∧ (¬ ((v3 - (sI σ a0 3)) ≤ 7) → Q 0 σ)) ∧ (¬ ((sI σ a0 1) = v2) → Q 0 σ)) ∧ (¬ ((sI σ a0 0) = v1) → Q 0 σ))
set_option maxHeartbeats 4000000 in
set_option maxRecDepth 100000 in
theorem k_X1_joins (l : Launch) (D : Dg) (a0 : Nat) (v1 : Int32) (v2 : Int32) (v3 : Int32) (σ : Sg) (Q : Int32 → Sg → Prop) (h : P_X1_joins a0 v1 v2 v3 σ Q) : CtrY RN l D yX1_joins cX1_joins 4 (some FieldType.boolean) 0 0 mkI [.ref a0, .int v1, .int v2, .int v3] σ (0, 0) Q := by
  refine y_ctrN (lv := [(0, va_rf (some a0)), (1, .int v1), (2, .int v2), (3, .int v3)]) (by decide) (by (exact Nat.le_of_ble_eq_true rfl)) (by (exact rfl)) (fun g hg hgL hgD hrm hgN hgI hend => ?_)
  subst hgD
  clear hgL
  unfold P_X1_joins at h
  refine y_aload_n hg 0 dX1_joins_0 rfl rfl ?_
  obtain ⟨h1, h⟩ := h
  refine y_getI hg fl_X1_13 rfl rfl h1 dX1_joins_1 ?_
  refine y_if_eq (tgt := 34) hg dX1_joins_4 (by decide) (fun q2 => ?_) (fun q2 => ?_)
  · replace h := h.1 q2
    refine y_iconst (v := 0) hg dX1_joins_34 (by decide) ?_
    exact yEndI hend (bz_nar (Or.inl rfl)).1 dX1_joins_35 h
  · replace h := h.2 q2
    refine y_aload_n hg 0 dX1_joins_7 rfl rfl ?_
    refine y_getI hg fl_X1_17 rfl rfl h1 dX1_joins_8 ?_
    refine y_iload_n hg 1 dX1_joins_11 rfl rfl ?_
    refine y_icmp_ne (tgt := 34) hg dX1_joins_12 (by decide) (fun q3 => ?_) (fun q3 => ?_)
    · replace h := h.2 q3
      refine y_iconst (v := 0) hg dX1_joins_34 (by decide) ?_
      exact yEndI hend (bz_nar (Or.inl rfl)).1 dX1_joins_35 h
    · replace h := h.1 q3
      refine y_aload_n hg 0 dX1_joins_15 rfl rfl ?_
      refine y_getI hg fl_X1_20 rfl rfl h1 dX1_joins_16 ?_
      refine y_iload_n hg 2 dX1_joins_19 rfl rfl ?_
      refine y_icmp_ne (tgt := 34) hg dX1_joins_20 (by decide) (fun q4 => ?_) (fun q4 => ?_)
      · replace h := h.2 q4
        refine y_iconst (v := 0) hg dX1_joins_34 (by decide) ?_
        exact yEndI hend (bz_nar (Or.inl rfl)).1 dX1_joins_35 h
      · replace h := h.1 q4
        refine y_iload_n hg 3 dX1_joins_23 rfl rfl ?_
        refine y_aload_n hg 0 dX1_joins_24 rfl rfl ?_
        refine y_getI hg fl_X1_26 rfl rfl h1 dX1_joins_25 ?_
        refine y_isub hg dX1_joins_28 ?_
        refine y_bipush (v := 7) hg dX1_joins_29 (by decide) ?_
        refine y_icmp_le (tgt := 36) hg dX1_joins_31 (by decide) (fun q5 => ?_) (fun q5 => ?_)
        · replace h := h.1 q5
          refine y_aload_n hg 0 dX1_joins_36 rfl rfl ?_
          refine y_iload_n hg 3 dX1_joins_37 rfl rfl ?_
          refine y_putI hg fw_X1_26 (fun z => nomatch z) rfl h1 dX1_joins_38 ?_
          refine y_nmS (fun σ6 e7 => ?_)
          replace h := h σ6 e7
          have E8 : sK σ6 = sK σ := by rw [e7]; rfl
          refine y_aload_n hg 0 dX1_joins_41 rfl rfl ?_
          refine y_dup hg dX1_joins_42 rfl ?_
          refine y_getI hg fl_X1_7 rfl rfl (kq E8 h1) dX1_joins_43 ?_
          refine y_iconst (v := 1) hg dX1_joins_46 (by decide) ?_
          refine y_iadd hg dX1_joins_47 ?_
          refine y_putI hg fw_X1_7 (fun z => nomatch z) rfl (kq E8 h1) dX1_joins_48 ?_
          refine y_nmS (fun σ9 e10 => ?_)
          replace h := h σ9 e10
          have E11 : sK σ9 = sK σ6 := by rw [e10]; rfl
          refine y_iconst (v := 1) hg dX1_joins_51 (by decide) ?_
          exact yEndI hend (bz_nar (Or.inr rfl)).1 dX1_joins_52 h
        · replace h := h.2 q5
          refine y_iconst (v := 0) hg dX1_joins_34 (by decide) ?_
          exact yEndI hend (bz_nar (Or.inl rfl)).1 dX1_joins_35 h
def P_X1_init (a0 : Nat) (v1 : Int32) (v2 : Int32) (v3 : Int32) (σ : Sg) (Q : Unit → Sg → Prop) : Prop :=
  sK σ a0 % 32 = 3 ∧ ∀ σ2 : Sg, σ2 = pI σ a0 4 1 → ∀ σ5 : Sg, σ5 = pI σ2 a0 5 1 → ∀ σ8 : Sg, σ8 = pI σ5 a0 0 v1 → ∀ σ11 : Sg, σ11 = pI σ8 a0 1 v2 → ∀ σ14 : Sg, σ14 = pI σ11 a0 2 v3 → ∀ σ17 : Sg, σ17 = pI σ14 a0 3 v3 → Q () σ17
set_option maxHeartbeats 4000000 in
set_option maxRecDepth 100000 in
theorem k_X1_init (l : Launch) (D : Dg) (a0 : Nat) (v1 : Int32) (v2 : Int32) (v3 : Int32) (σ : Sg) (Q : Unit → Sg → Prop) (h : P_X1_init a0 v1 v2 v3 σ Q) : CtrY RN l D yX1_init cX1_init 4 (none) 1 20 mkV [.ref a0, .int v1, .int v2, .int v3] σ (0, 0) Q := by
  refine y_ctrN (lv := [(0, va_rf (some a0)), (1, .int v1), (2, .int v2), (3, .int v3)]) (by decide) (by (exact Nat.le_of_ble_eq_true rfl)) (by (exact rfl)) (fun g hg hgL hgD hrm hgN hgI hend => ?_)
  subst hgD
  clear hgL
  unfold P_X1_init at h
  refine y_aload_n hg 0 dX1_init_0 rfl rfl ?_
  refine y_objInit hg oi_X1_1 aw_oi1 aw_oi2 rfl dX1_init_1 (cat8 (Nat.le_of_ble_eq_true rfl)) hrm ⟨Nat.le_of_ble_eq_true rfl, Nat.le_of_ble_eq_true rfl⟩ ?_
  refine y_aload_n hg 0 dX1_init_4 rfl rfl ?_
  refine y_iconst (v := 1) hg dX1_init_5 (by decide) ?_
  obtain ⟨h1, h⟩ := h
  refine y_putI hg fw_X1_7 (fun z => nomatch z) rfl h1 dX1_init_6 ?_
  refine y_nmS (fun σ2 e3 => ?_)
  replace h := h σ2 e3
  have E4 : sK σ2 = sK σ := by rw [e3]; rfl
  refine y_aload_n hg 0 dX1_init_9 rfl rfl ?_
  refine y_iconst (v := 1) hg dX1_init_10 (by decide) ?_
  refine y_putZ hg fw_X1_13 (fun z => nomatch z) rfl (kq E4 h1) (Or.inr rfl) dX1_init_11 ?_
  refine y_nmS (fun σ5 e6 => ?_)
  replace h := h σ5 e6
  have E7 : sK σ5 = sK σ2 := by rw [e6]; rfl
  refine y_aload_n hg 0 dX1_init_14 rfl rfl ?_
  refine y_iload_n hg 1 dX1_init_15 rfl rfl ?_
  refine y_putI hg fw_X1_17 (fun _ => hgI) rfl (kq E7 (kq E4 h1)) dX1_init_16 ?_
  refine y_nmS (fun σ8 e9 => ?_)
  replace h := h σ8 e9
  have E10 : sK σ8 = sK σ5 := by rw [e9]; rfl
  refine y_aload_n hg 0 dX1_init_19 rfl rfl ?_
  refine y_iload_n hg 2 dX1_init_20 rfl rfl ?_
  refine y_putI hg fw_X1_20 (fun _ => hgI) rfl (kq E10 (kq E7 (kq E4 h1))) dX1_init_21 ?_
  refine y_nmS (fun σ11 e12 => ?_)
  replace h := h σ11 e12
  have E13 : sK σ11 = sK σ8 := by rw [e12]; rfl
  refine y_aload_n hg 0 dX1_init_24 rfl rfl ?_
  refine y_iload_n hg 3 dX1_init_25 rfl rfl ?_
  refine y_putI hg fw_X1_23 (fun _ => hgI) rfl (kq E13 (kq E10 (kq E7 (kq E4 h1)))) dX1_init_26 ?_
  refine y_nmS (fun σ14 e15 => ?_)
  replace h := h σ14 e15
  have E16 : sK σ14 = sK σ11 := by rw [e15]; rfl
  refine y_aload_n hg 0 dX1_init_29 rfl rfl ?_
  refine y_iload_n hg 3 dX1_init_30 rfl rfl ?_
  refine y_putI hg fw_X1_26 (fun z => nomatch z) rfl (kq E16 (kq E13 (kq E10 (kq E7 (kq E4 h1))))) dX1_init_31 ?_
  refine y_nmS (fun σ17 e18 => ?_)
  replace h := h σ17 e18
  have E19 : sK σ17 = sK σ14 := by rw [e18]; rfl
  exact yEndV hend dX1_init_34 h
def P_X0_meetThaw_B31 (a0 : Nat) (w0 : Option Nat) (w1 : Int32) (σ : Sg) (Q : Unit → Sg → Prop) : Prop :=
  ∃ c9 : Nat, w0 = some c9 ∧ sK σ c9 % 32 = 2 ∧ bz w1 ∧ ∀ σ13 : Sg, σ13 = pI σ c9 7 w1 → sK σ13 a0 % 32 = 2 ∧ ∀ σ17 : Sg, σ17 = pI σ13 a0 6 0 → Q () σ17
def P_X0_meetThaw_B30 (a0 : Nat) (w0 : Option Nat) (σ : Sg) (Q : Unit → Sg → Prop) : Prop :=
  P_X0_meetThaw_B31 a0 w0 0 σ Q
def P_X0_meetThaw (a0 : Nat) (v1 : Option Nat) (v2 : Int32) (σ : Sg) (Q : Unit → Sg → Prop) : Prop :=
  (v2 = 60 → sK σ a0 % 32 = 2 ∧ ((sI σ a0 7) = 0 → P_X0_meetThaw_B30 a0 (some a0) σ Q) ∧ (¬ ((sI σ a0 7) = 0) → ∃ c4 : Nat, v1 = some c4 ∧ sK σ c4 % 32 = 6 ∧ P_X4_value c4 5 σ (fun x7 => (x7 < (sI σ a0 6) → P_X0_meetThaw_B30 a0 (some a0) σ Q) ∧ (¬ (x7 < (sI σ a0 6)) → P_X0_meetThaw_B31 a0 (some a0) 1 σ Q)))) ∧ (¬ (v2 = 60) → Q () σ)
set_option maxHeartbeats 4000000 in
set_option maxRecDepth 100000 in
theorem k_X0_meetThaw (l : Launch) (D : Dg) (a0 : Nat) (v1 : Option Nat) (v2 : Int32) (σ : Sg) (Q : Unit → Sg → Prop) (h : P_X0_meetThaw a0 v1 v2 σ Q) : CtrY RN l D yX0_meetThaw cX0_meetThaw 3 (none) 1 21 mkV [.ref a0, va_rf v1, .int v2] σ (0, 0) Q := by
  refine y_ctrN (lv := [(0, va_rf (some a0)), (1, va_rf v1), (2, .int v2)]) (by decide) (by cases v1 <;> (exact Nat.le_of_ble_eq_true rfl)) (by cases v1 <;> (exact rfl)) (fun g hg hgL hgD hrm hgN hgI hend => ?_)
  subst hgD
  clear hgL
  unfold P_X0_meetThaw at h
  have J31 : ∀ (w0 : Option Nat) (w1 : Int32) (σ : Sg), P_X0_meetThaw_B31 a0 w0 w1 σ Q → XA g 31 [(0, va_rf (some a0))] [.int w1, va_rf w0] σ (0, 0) := by
    intro w0 w1 σ h
    unfold P_X0_meetThaw_B31 at h
    obtain ⟨c9, h10, h⟩ := h
    obtain ⟨h11, h⟩ := h
    obtain ⟨h12, h⟩ := h
    refine y_putZ hg fw_X0_9 (fun z => nomatch z) h10 h11 h12 dX0_meetThaw_31 ?_
    refine y_nmS (fun σ13 e14 => ?_)
    replace h := h σ13 e14
    have E15 : sK σ13 = sK σ := by rw [e14]; rfl
    refine y_aload_n hg 0 dX0_meetThaw_34 rfl rfl ?_
    refine y_iconst (v := 0) hg dX0_meetThaw_35 (by decide) ?_
    obtain ⟨h16, h⟩ := h
    refine y_putI hg fw_X0_91 (fun z => nomatch z) rfl h16 dX0_meetThaw_36 ?_
    refine y_nmS (fun σ17 e18 => ?_)
    replace h := h σ17 e18
    have E19 : sK σ17 = sK σ13 := by rw [e18]; rfl
    exact yEndV hend dX0_meetThaw_39 h
  have J30 : ∀ (w0 : Option Nat) (σ : Sg), P_X0_meetThaw_B30 a0 w0 σ Q → XA g 30 [(0, va_rf (some a0))] [va_rf w0] σ (0, 0) := by
    intro w0 σ h
    unfold P_X0_meetThaw_B30 at h
    refine y_iconst (v := 0) hg dX0_meetThaw_30 (by decide) ?_
    refine y_sub [0] rfl ?_
    exact J31 _ _ _ h
  refine y_iload_n hg 2 dX0_meetThaw_0 rfl rfl ?_
  refine y_bipush (v := 60) hg dX0_meetThaw_1 (by decide) ?_
  refine y_icmp_ne (tgt := 39) hg dX0_meetThaw_3 (by decide) (fun q1 => ?_) (fun q1 => ?_)
  · replace h := h.2 q1
    exact yEndV hend dX0_meetThaw_39 h
  · replace h := h.1 q1
    refine y_aload_n hg 0 dX0_meetThaw_6 rfl rfl ?_
    refine y_aload_n hg 0 dX0_meetThaw_7 rfl rfl ?_
    obtain ⟨h2, h⟩ := h
    refine y_getI hg fl_X0_9 rfl rfl h2 dX0_meetThaw_8 ?_
    refine y_if_eq (tgt := 30) hg dX0_meetThaw_11 (by decide) (fun q3 => ?_) (fun q3 => ?_)
    · replace h := h.1 q3
      refine y_sub [0] rfl ?_
      exact J30 _ _ h
    · replace h := h.2 q3
      refine y_aload_n hg 0 dX0_meetThaw_14 rfl rfl ?_
      refine y_getI hg fl_X0_91 rfl rfl h2 dX0_meetThaw_15 ?_
      refine y_aload_n hg 1 dX0_meetThaw_18 rfl rfl ?_
      refine y_iconst (v := 5) hg dX0_meetThaw_19 (by decide) ?_
      obtain ⟨c4, h5, h⟩ := h
      obtain ⟨h6, h⟩ := h
      refine yVIP (Qp := _) (rest := [.int (sI σ a0 6), va_rf (some a0)]) (As := [.int 5]) hg (k_X4_value (gL g.1) (gD g.1) c4 5 σ _ h) lv_X0_72 h5 h6 rfl rfl dX0_meetThaw_20 (cat8 (Nat.le_of_ble_eq_true rfl)) hrm ⟨Nat.le_of_ble_eq_true rfl, Nat.le_of_ble_eq_true rfl⟩ (fun x7 h => ?_)
      refine y_icmp_gt (tgt := 30) hg dX0_meetThaw_23 (by decide) (fun q8 => ?_) (fun q8 => ?_)
      · replace h := h.1 q8
        refine y_sub [0] rfl ?_
        exact J30 _ _ h
      · replace h := h.2 q8
        refine y_iconst (v := 1) hg dX0_meetThaw_26 (by decide) ?_
        refine y_goto (tgt := 31) hg dX0_meetThaw_27 (by decide) ?_
        refine y_sub [0] rfl ?_
        exact J31 _ _ _ h
def P_X6_give (a0 : Nat) (σ : Sg) (Q : Int32 → Sg → Prop) : Prop :=
  sK σ a0 % 32 = 8 ∧ ∀ x2 : Int32, x2 = (if (sI σ a0 4) < (5 : Int32) then (sI σ a0 4) else (5 : Int32)) → ∀ σ4 : Sg, σ4 = pI σ a0 4 ((sI σ a0 4) - x2) → Q x2 σ4
set_option maxHeartbeats 4000000 in
set_option maxRecDepth 100000 in
theorem k_X6_give (l : Launch) (D : Dg) (a0 : Nat) (σ : Sg) (Q : Int32 → Sg → Prop) (h : P_X6_give a0 σ Q) : CtrY RN l D yX6_give cX6_give 2 (some FieldType.int) 1 30 mkI [.ref a0] σ (0, 0) Q := by
  refine y_ctrN (lv := [(0, va_rf (some a0))]) (by decide) (by (exact Nat.le_of_ble_eq_true rfl)) (by (exact rfl)) (fun g hg hgL hgD hrm hgN hgI hend => ?_)
  subst hgD
  clear hgL
  unfold P_X6_give at h
  refine y_iconst (v := 5) hg dX6_give_0 (by decide) ?_
  refine y_aload_n hg 0 dX6_give_1 rfl rfl ?_
  obtain ⟨h1, h⟩ := h
  refine y_getI hg fl_X6_34 rfl rfl h1 dX6_give_2 ?_
  refine y_mmin hg mm_X6_37 (cat8 (Nat.le_of_ble_eq_true rfl)) hrm ⟨Nat.le_of_ble_eq_true rfl, Nat.le_of_ble_eq_true rfl⟩ dX6_give_5 ?_
  refine y_nmI (fun x2 e3 => ?_)
  replace h := h x2 e3
  refine y_istore_n (lv' := [(1, .int x2), (0, va_rf (some a0))]) hg dX6_give_8 rfl (by rw [hgN]; decide) rfl ?_
  refine y_aload_n hg 1 dX6_give_9 rfl rfl ?_
  refine y_dup hg dX6_give_10 rfl ?_
  refine y_getI hg fl_X6_34 rfl rfl h1 dX6_give_11 ?_
  refine y_iload_n hg 0 dX6_give_14 rfl rfl ?_
  refine y_isub hg dX6_give_15 ?_
  refine y_putI hg fw_X6_34 (fun z => nomatch z) rfl h1 dX6_give_16 ?_
  refine y_nmS (fun σ4 e5 => ?_)
  replace h := h σ4 e5
  have E6 : sK σ4 = sK σ := by rw [e5]; rfl
  refine y_iload_n hg 0 dX6_give_19 rfl rfl ?_
  exact yEndI hend rfl dX6_give_20 h
def P_X9_fallsOn_B33 (a0 : Nat) (σ : Sg) (Q : Int32 → Prop) : Prop :=
  Q 0
def P_X9_fallsOn (a0 : Nat) (v1 : Int32) (σ : Sg) (Q : Int32 → Prop) : Prop :=
  sK σ a0 % 32 = 11 ∧ (v1 < (sI σ a0 3) → P_X9_fallsOn_B33 a0 σ Q) ∧ (¬ (v1 < (sI σ a0 3)) → ((sI σ a0 2) ≤ 0 → P_X9_fallsOn_B33 a0 σ Q) ∧ (¬ ((sI σ a0 2) ≤ 0) → ¬ sI σ a0 2 = 0 ∧ (((v1 - (sI σ a0 3)) - (v1 - (sI σ a0 3)) / (sI σ a0 2) * (sI σ a0 2)) = 0 → Q 1) ∧ (¬ (((v1 - (sI σ a0 3)) - (v1 - (sI σ a0 3)) / (sI σ a0 2) * (sI σ a0 2)) = 0) → P_X9_fallsOn_B33 a0 σ Q)))
set_option maxHeartbeats 4000000 in
set_option maxRecDepth 100000 in
theorem k_X9_fallsOn (l : Launch) (D : Dg) (a0 : Nat) (v1 : Int32) (σ : Sg) (Q : Int32 → Prop) (h : P_X9_fallsOn a0 v1 σ Q) : CtrY RN l D yX9_fallsOn cX9_fallsOn 2 (some FieldType.boolean) 0 0 mkI [.ref a0, .int v1] σ (0, 0) (fun r σ2 => Q r ∧ σ2 = σ) := by
  refine y_ctrN (lv := [(0, va_rf (some a0)), (1, .int v1)]) (by decide) (by (exact Nat.le_of_ble_eq_true rfl)) (by (exact rfl)) (fun g hg hgL hgD hrm hgN hgI hend => ?_)
  subst hgD
  clear hgL
  unfold P_X9_fallsOn at h
  have J33 : P_X9_fallsOn_B33 a0 σ Q → XA g 33 [(0, va_rf (some a0))] [] σ (0, 0) := by
    intro  h
    unfold P_X9_fallsOn_B33 at h
    refine y_iconst (v := 0) hg dX9_fallsOn_33 (by decide) ?_
    exact yEndI hend (bz_nar (Or.inl rfl)).1 dX9_fallsOn_34 ⟨h, rfl⟩
  refine y_iload_n hg 1 dX9_fallsOn_0 rfl rfl ?_
  refine y_aload_n hg 0 dX9_fallsOn_1 rfl rfl ?_
  obtain ⟨h1, h⟩ := h
  refine y_getI hg fl_X9_19 rfl rfl h1 dX9_fallsOn_2 ?_
  refine y_icmp_lt (tgt := 33) hg dX9_fallsOn_5 (by decide) (fun q2 => ?_) (fun q2 => ?_)
  · replace h := h.1 q2
    refine y_sub [0] rfl ?_
    exact J33  h
  · replace h := h.2 q2
    refine y_aload_n hg 0 dX9_fallsOn_8 rfl rfl ?_
    refine y_getI hg fl_X9_16 rfl rfl h1 dX9_fallsOn_9 ?_
    refine y_if_le (tgt := 33) hg dX9_fallsOn_12 (by decide) (fun q3 => ?_) (fun q3 => ?_)
    · replace h := h.1 q3
      refine y_sub [0] rfl ?_
      exact J33  h
    · replace h := h.2 q3
      refine y_iload_n hg 1 dX9_fallsOn_15 rfl rfl ?_
      refine y_aload_n hg 0 dX9_fallsOn_16 rfl rfl ?_
      refine y_getI hg fl_X9_19 rfl rfl h1 dX9_fallsOn_17 ?_
      refine y_isub hg dX9_fallsOn_20 ?_
      refine y_aload_n hg 0 dX9_fallsOn_21 rfl rfl ?_
      refine y_getI hg fl_X9_16 rfl rfl h1 dX9_fallsOn_22 ?_
      obtain ⟨h4, h⟩ := h
      refine y_irem hg dX9_fallsOn_25 h4 ?_
      refine y_if_ne (tgt := 33) hg dX9_fallsOn_26 (by decide) (fun q5 => ?_) (fun q5 => ?_)
      · replace h := h.2 q5
        refine y_sub [0] rfl ?_
        exact J33  h
      · replace h := h.1 q5
        refine y_iconst (v := 1) hg dX9_fallsOn_29 (by decide) ?_
        refine y_goto (tgt := 34) hg dX9_fallsOn_30 (by decide) ?_
        exact yEndI hend (bz_nar (Or.inr rfl)).1 dX9_fallsOn_34 ⟨h, rfl⟩
def P_X6_wasProvedIn (a0 : Nat) (v1 : Int32) (σ : Sg) (Q : Int32 → Prop) : Prop :=
  sK σ a0 % 32 = 8 ∧ P_X10_holds (sI σ a0 6) v1 σ (fun x2 => bz x2 ∧ Q x2)
set_option maxHeartbeats 4000000 in
set_option maxRecDepth 100000 in
theorem k_X6_wasProvedIn (l : Launch) (D : Dg) (a0 : Nat) (v1 : Int32) (σ : Sg) (Q : Int32 → Prop) (h : P_X6_wasProvedIn a0 v1 σ Q) : CtrY RN l D yX6_wasProvedIn cX6_wasProvedIn 2 (some FieldType.boolean) 1 21 mkI [.ref a0, .int v1] σ (0, 0) (fun r σ2 => Q r ∧ σ2 = σ) := by
  refine y_ctrN (lv := [(0, va_rf (some a0)), (1, .int v1)]) (by decide) (by (exact Nat.le_of_ble_eq_true rfl)) (by (exact rfl)) (fun g hg hgL hgD hrm hgN hgI hend => ?_)
  subst hgD
  clear hgL
  unfold P_X6_wasProvedIn at h
  refine y_aload_n hg 0 dX6_wasProvedIn_0 rfl rfl ?_
  obtain ⟨h1, h⟩ := h
  refine y_getI hg fl_X6_27 rfl rfl h1 dX6_wasProvedIn_1 ?_
  refine y_iload_n hg 1 dX6_wasProvedIn_4 rfl rfl ?_
  refine ySNIP (Qp := _) (rest := []) (As := [.int (sI σ a0 6), .int v1]) hg (k_X10_holds (gL g.1) (gD g.1) (sI σ a0 6) v1 σ _ h) lsn_X6_30 rfl rfl dX6_wasProvedIn_5 (cat8 (Nat.le_of_ble_eq_true rfl)) hrm ⟨Nat.le_of_ble_eq_true rfl, Nat.le_of_ble_eq_true rfl⟩ (fun x2 h => ?_)
  obtain ⟨h3, h⟩ := h
  exact yEndI hend (bz_nar h3).1 dX6_wasProvedIn_8 ⟨h, rfl⟩
def P_X0_gainByCare (a0 : Nat) (v1 : Option Nat) (σ : Sg) (Q : Int32 → Prop) : Prop :=
  sK σ a0 % 32 = 2 ∧ P_X0_fullDrink a0 v1 σ (fun x2 => P_X0_clogCaredFor a0 σ (fun x3 => P_X0_drink a0 v1 σ (fun x4 => Q (((x2 * (100 - x3)) / 100) - x4))))
set_option maxHeartbeats 4000000 in
set_option maxRecDepth 100000 in
theorem k_X0_gainByCare (l : Launch) (D : Dg) (a0 : Nat) (v1 : Option Nat) (σ : Sg) (Q : Int32 → Prop) (h : P_X0_gainByCare a0 v1 σ Q) : CtrY RN l D yX0_gainByCare cX0_gainByCare 2 (some FieldType.int) 2 50 mkI [.ref a0, va_rf v1] σ (0, 0) (fun r σ2 => Q r ∧ σ2 = σ) := by
  refine y_ctrN (lv := [(0, va_rf (some a0)), (1, va_rf v1)]) (by decide) (by cases v1 <;> (exact Nat.le_of_ble_eq_true rfl)) (by cases v1 <;> (exact rfl)) (fun g hg hgL hgD hrm hgN hgI hend => ?_)
  subst hgD
  clear hgL
  unfold P_X0_gainByCare at h
  refine y_aload_n hg 0 dX0_gainByCare_0 rfl rfl ?_
  refine y_aload_n hg 1 dX0_gainByCare_1 rfl rfl ?_
  obtain ⟨h1, h⟩ := h
  refine yVIP (Qp := _) (rest := []) (As := [va_rf v1]) hg (k_X0_fullDrink (gL g.1) (gD g.1) a0 v1 σ _ h) lv_X0_41 rfl h1 rfl rfl dX0_gainByCare_2 (cat8 (Nat.le_of_ble_eq_true rfl)) hrm ⟨Nat.le_of_ble_eq_true rfl, Nat.le_of_ble_eq_true rfl⟩ (fun x2 h => ?_)
  refine y_bipush (v := 100) hg dX0_gainByCare_5 (by decide) ?_
  refine y_aload_n hg 0 dX0_gainByCare_7 rfl rfl ?_
  refine yVIP (Qp := _) (rest := [.int 100, .int x2]) (As := []) hg (k_X0_clogCaredFor (gL g.1) (gD g.1) a0 σ _ h) lv_X0_48 rfl h1 rfl rfl dX0_gainByCare_8 (cat8 (Nat.le_of_ble_eq_true rfl)) hrm ⟨Nat.le_of_ble_eq_true rfl, Nat.le_of_ble_eq_true rfl⟩ (fun x3 h => ?_)
  refine y_isub hg dX0_gainByCare_11 ?_
  refine y_imul hg dX0_gainByCare_12 ?_
  refine y_bipush (v := 100) hg dX0_gainByCare_13 (by decide) ?_
  refine y_idiv hg dX0_gainByCare_15 (by decide) ?_
  refine y_aload_n hg 0 dX0_gainByCare_16 rfl rfl ?_
  refine y_aload_n hg 1 dX0_gainByCare_17 rfl rfl ?_
  refine yVIP (Qp := _) (rest := [.int ((x2 * (100 - x3)) / 100)]) (As := [va_rf v1]) hg (k_X0_drink (gL g.1) (gD g.1) a0 v1 σ _ h) lv_X0_52 rfl h1 rfl rfl dX0_gainByCare_18 (cat8 (Nat.le_of_ble_eq_true rfl)) hrm ⟨Nat.le_of_ble_eq_true rfl, Nat.le_of_ble_eq_true rfl⟩ (fun x4 h => ?_)
  refine y_isub hg dX0_gainByCare_21 ?_
  exact yEndI hend rfl dX0_gainByCare_22 ⟨h, rfl⟩
def P_X5_lieAt_B88 (a0 : Nat) (w0 : Option Nat) (w1 : Int32) (σ : Sg) (Q : Unit → Sg → Prop) : Prop :=
  ∃ c52 : Nat, w0 = some c52 ∧ sK σ c52 % 32 = 7 ∧ ∀ σ55 : Sg, σ55 = pI σ c52 5 w1 → Q () σ55
def P_X5_lieAt_B63 (a0 : Nat) (v1 : Option Nat) (w0 : Option Nat) (w1 : Int32) (σ : Sg) (Q : Unit → Sg → Prop) : Prop :=
  ∃ c37 : Nat, w0 = some c37 ∧ sK σ c37 % 32 = 7 ∧ ∀ σ40 : Sg, σ40 = pI σ c37 4 w1 → ∃ c43 : Nat, v1 = some c43 ∧ sK σ40 c43 % 32 = 4 ∧ (sR σ40 c43 5 = none → P_X5_lieAt_B88 a0 (some a0) 0 σ40 Q) ∧ (∀ c46 : Nat, sR σ40 c43 5 = some c46 → ∃ c49 : Nat, sR σ40 c43 5 = some c49 ∧ sK σ40 c49 % 32 = 2 ∧ P_X5_lieAt_B88 a0 (some a0) (10 - (sI σ40 c49 5)) σ40 Q)
def P_X5_lieAt_B40 (a0 : Nat) (v1 : Option Nat) (v3 : Option Nat) (w0 : Option Nat) (w1 : Int32) (σ : Sg) (Q : Unit → Sg → Prop) : Prop :=
  ∃ c21 : Nat, w0 = some c21 ∧ sK σ c21 % 32 = 7 ∧ ∀ σ24 : Sg, σ24 = pI σ c21 3 w1 → ∃ c27 : Nat, v1 = some c27 ∧ sK σ24 c27 % 32 = 4 ∧ (sR σ24 c27 5 = none → P_X5_lieAt_B63 a0 v1 (some a0) 0 σ24 Q) ∧ (∀ c30 : Nat, sR σ24 c27 5 = some c30 → ∃ c33 : Nat, sR σ24 c27 5 = some c33 ∧ sK σ24 c33 % 32 = 2 ∧ P_X0_drink c33 v3 σ24 (fun x36 => P_X5_lieAt_B63 a0 v1 (some a0) x36 σ24 Q))
def P_X5_lieAt (a0 : Nat) (v1 : Option Nat) (v2 : Option Nat) (v3 : Option Nat) (σ : Sg) (Q : Unit → Sg → Prop) : Prop :=
  ∃ c1 : Nat, v1 = some c1 ∧ sK σ c1 % 32 = 4 ∧ sK σ a0 % 32 = 7 ∧ ∀ σ5 : Sg, σ5 = pI σ a0 0 (sI σ c1 1) → ∀ σ8 : Sg, σ8 = pI σ5 a0 1 (sI σ5 c1 3) → (∀ z, v2 = some z → ¬ sK σ8 z = 0) ∧ ∀ σ12 : Sg, σ12 = pR σ8 a0 2 v2 → (sR σ12 c1 5 = none → P_X5_lieAt_B40 a0 v1 v3 (some a0) 0 σ12 Q) ∧ (∀ c15 : Nat, sR σ12 c1 5 = some c15 → ∃ c18 : Nat, sR σ12 c1 5 = some c18 ∧ sK σ12 c18 % 32 = 2 ∧ P_X5_lieAt_B40 a0 v1 v3 (some a0) (sI σ12 c18 1) σ12 Q)
set_option maxHeartbeats 4000000 in
set_option maxRecDepth 100000 in
theorem k_X5_lieAt (l : Launch) (D : Dg) (a0 : Nat) (v1 : Option Nat) (v2 : Option Nat) (v3 : Option Nat) (σ : Sg) (Q : Unit → Sg → Prop) (h : P_X5_lieAt a0 v1 v2 v3 σ Q) : CtrY RN l D yX5_lieAt cX5_lieAt 4 (none) 2 42 mkV [.ref a0, va_rf v1, va_rf v2, va_rf v3] σ (0, 0) Q := by
  refine y_ctrN (lv := [(0, va_rf (some a0)), (1, va_rf v1), (2, va_rf v2), (3, va_rf v3)]) (by decide) (by cases v1 <;> cases v2 <;> cases v3 <;> (exact Nat.le_of_ble_eq_true rfl)) (by cases v1 <;> cases v2 <;> cases v3 <;> (exact rfl)) (fun g hg hgL hgD hrm hgN hgI hend => ?_)
  subst hgD
  clear hgL
  unfold P_X5_lieAt at h
  have J88 : ∀ (w0 : Option Nat) (w1 : Int32) (σ : Sg), P_X5_lieAt_B88 a0 w0 w1 σ Q → XA g 88 [(0, va_rf (some a0))] [.int w1, va_rf w0] σ (0, 0) := by
    intro w0 w1 σ h
    unfold P_X5_lieAt_B88 at h
    obtain ⟨c52, h53, h⟩ := h
    obtain ⟨h54, h⟩ := h
    refine y_putI hg fw_X5_45 (fun z => nomatch z) h53 h54 dX5_lieAt_88 ?_
    refine y_nmS (fun σ55 e56 => ?_)
    replace h := h σ55 e56
    have E57 : sK σ55 = sK σ := by rw [e56]; rfl
    exact yEndV hend dX5_lieAt_91 h
  have J63 : ∀ (v1 : Option Nat) (w0 : Option Nat) (w1 : Int32) (σ : Sg), P_X5_lieAt_B63 a0 v1 w0 w1 σ Q → XA g 63 [(0, va_rf (some a0)), (1, va_rf v1)] [.int w1, va_rf w0] σ (0, 0) := by
    intro v1 w0 w1 σ h
    unfold P_X5_lieAt_B63 at h
    obtain ⟨c37, h38, h⟩ := h
    obtain ⟨h39, h⟩ := h
    refine y_putI hg fw_X5_40 (fun z => nomatch z) h38 h39 dX5_lieAt_63 ?_
    refine y_nmS (fun σ40 e41 => ?_)
    replace h := h σ40 e41
    have E42 : sK σ40 = sK σ := by rw [e41]; rfl
    refine y_aload_n hg 0 dX5_lieAt_66 rfl rfl ?_
    refine y_aload_n hg 1 dX5_lieAt_67 rfl rfl ?_
    obtain ⟨c43, h44, h⟩ := h
    obtain ⟨h45, h⟩ := h
    refine y_getR hg fl_X5_26 rfl h44 h45 dX5_lieAt_68 ?_
    refine y_ifnonnull (tgt := 78) hg dX5_lieAt_71 (by decide) (fun c46 h48 => ?_) (fun h47 => ?_)
    · replace h := h.2 c46 h48
      refine y_bipush (v := 10) hg dX5_lieAt_78 (by decide) ?_
      refine y_aload_n hg 1 dX5_lieAt_80 rfl rfl ?_
      refine y_getR hg fl_X5_26 rfl h44 h45 dX5_lieAt_81 ?_
      obtain ⟨c49, h50, h⟩ := h
      obtain ⟨h51, h⟩ := h
      refine y_getI hg fl_X5_42 rfl h50 h51 dX5_lieAt_84 ?_
      refine y_isub hg dX5_lieAt_87 ?_
      refine y_sub [0] rfl ?_
      exact J88 _ _ _ h
    · replace h := h.1 h47
      refine y_iconst (v := 0) hg dX5_lieAt_74 (by decide) ?_
      refine y_goto (tgt := 88) hg dX5_lieAt_75 (by decide) ?_
      refine y_sub [0] rfl ?_
      exact J88 _ _ _ h
  have J40 : ∀ (v1 : Option Nat) (v3 : Option Nat) (w0 : Option Nat) (w1 : Int32) (σ : Sg), P_X5_lieAt_B40 a0 v1 v3 w0 w1 σ Q → XA g 40 [(0, va_rf (some a0)), (1, va_rf v1), (3, va_rf v3)] [.int w1, va_rf w0] σ (0, 0) := by
    intro v1 v3 w0 w1 σ h
    unfold P_X5_lieAt_B40 at h
    obtain ⟨c21, h22, h⟩ := h
    obtain ⟨h23, h⟩ := h
    refine y_putI hg fw_X5_35 (fun z => nomatch z) h22 h23 dX5_lieAt_40 ?_
    refine y_nmS (fun σ24 e25 => ?_)
    replace h := h σ24 e25
    have E26 : sK σ24 = sK σ := by rw [e25]; rfl
    refine y_aload_n hg 0 dX5_lieAt_43 rfl rfl ?_
    refine y_aload_n hg 1 dX5_lieAt_44 rfl rfl ?_
    obtain ⟨c27, h28, h⟩ := h
    obtain ⟨h29, h⟩ := h
    refine y_getR hg fl_X5_26 rfl h28 h29 dX5_lieAt_45 ?_
    refine y_ifnonnull (tgt := 55) hg dX5_lieAt_48 (by decide) (fun c30 h32 => ?_) (fun h31 => ?_)
    · replace h := h.2 c30 h32
      refine y_aload_n hg 1 dX5_lieAt_55 rfl rfl ?_
      refine y_getR hg fl_X5_26 rfl h28 h29 dX5_lieAt_56 ?_
      refine y_aload_n hg 2 dX5_lieAt_59 rfl rfl ?_
      obtain ⟨c33, h34, h⟩ := h
      obtain ⟨h35, h⟩ := h
      refine yVIP (Qp := _) (rest := [va_rf (some a0)]) (As := [va_rf v3]) hg (k_X0_drink (gL g.1) (gD g.1) c33 v3 σ24 _ h) lv_X5_36 h34 h35 rfl rfl dX5_lieAt_60 (cat8 (Nat.le_of_ble_eq_true rfl)) hrm ⟨Nat.le_of_ble_eq_true rfl, Nat.le_of_ble_eq_true rfl⟩ (fun x36 h => ?_)
      refine y_sub [0, 1] rfl ?_
      exact J63 _ _ _ _ h
    · replace h := h.1 h31
      refine y_iconst (v := 0) hg dX5_lieAt_51 (by decide) ?_
      refine y_goto (tgt := 63) hg dX5_lieAt_52 (by decide) ?_
      refine y_sub [0, 1] rfl ?_
      exact J63 _ _ _ _ h
  refine y_aload_n hg 0 dX5_lieAt_0 rfl rfl ?_
  refine y_aload_n hg 1 dX5_lieAt_1 rfl rfl ?_
  obtain ⟨c1, h2, h⟩ := h
  obtain ⟨h3, h⟩ := h
  refine y_getI hg fl_X5_9 rfl h2 h3 dX5_lieAt_2 ?_
  obtain ⟨h4, h⟩ := h
  refine y_putI hg fw_X5_15 (fun z => nomatch z) rfl h4 dX5_lieAt_5 ?_
  refine y_nmS (fun σ5 e6 => ?_)
  replace h := h σ5 e6
  have E7 : sK σ5 = sK σ := by rw [e6]; rfl
  refine y_aload_n hg 0 dX5_lieAt_8 rfl rfl ?_
  refine y_aload_n hg 1 dX5_lieAt_9 rfl rfl ?_
  refine y_getI hg fl_X5_18 rfl h2 (kq E7 h3) dX5_lieAt_10 ?_
  refine y_putI hg fw_X5_21 (fun z => nomatch z) rfl (kq E7 h4) dX5_lieAt_13 ?_
  refine y_nmS (fun σ8 e9 => ?_)
  replace h := h σ8 e9
  have E10 : sK σ8 = sK σ5 := by rw [e9]; rfl
  refine y_aload_n hg 0 dX5_lieAt_16 rfl rfl ?_
  refine y_aload_n hg 2 dX5_lieAt_17 rfl rfl ?_
  obtain ⟨h11, h⟩ := h
  refine y_putR hg fw_X5_22 rfl (fun z => nomatch z) rfl (kq E10 (kq E7 h4)) (lv_p h11) dX5_lieAt_18 ?_
  refine y_nmS (fun σ12 e13 => ?_)
  replace h := h σ12 e13
  have E14 : sK σ12 = sK σ8 := by rw [e13]; rfl
  refine y_aload_n hg 0 dX5_lieAt_21 rfl rfl ?_
  refine y_aload_n hg 1 dX5_lieAt_22 rfl rfl ?_
  refine y_getR hg fl_X5_26 rfl h2 (kq E14 (kq E10 (kq E7 h3))) dX5_lieAt_23 ?_
  refine y_ifnonnull (tgt := 33) hg dX5_lieAt_26 (by decide) (fun c15 h17 => ?_) (fun h16 => ?_)
  · replace h := h.2 c15 h17
    refine y_aload_n hg 1 dX5_lieAt_33 rfl rfl ?_
    refine y_getR hg fl_X5_26 rfl h2 (kq E14 (kq E10 (kq E7 h3))) dX5_lieAt_34 ?_
    obtain ⟨c18, h19, h⟩ := h
    obtain ⟨h20, h⟩ := h
    refine y_getI hg fl_X5_30 rfl h19 h20 dX5_lieAt_37 ?_
    refine y_sub [0, 1, 3] rfl ?_
    exact J40 _ _ _ _ _ h
  · replace h := h.1 h16
    refine y_iconst (v := 0) hg dX5_lieAt_29 (by decide) ?_
    refine y_goto (tgt := 40) hg dX5_lieAt_30 (by decide) ?_
    refine y_sub [0, 1, 3] rfl ?_
    exact J40 _ _ _ _ _ h
def P_X3_lieOver_B88 (a0 : Nat) (v1 : Option Nat) (v2 : Option Nat) (v3 : Int32) (v4 : Option Nat) (w0 : Option Nat) (σ : Sg) (Q : Unit → Sg → Prop) (K31 : Int32 → Sg → Prop) : Prop :=
  sK σ a0 % 32 = 5 ∧ ∃ c41 : Nat, sR σ a0 0 = some c41 ∧ sK σ c41 % 32 = 1 ∧ P_Jx4a65c_get_915e3 c41 v3 σ (fun r44 => ∃ c45 : Nat, r44 = some c45 ∧ sK σ c45 % 32 = 7 ∧ P_X5_lieAt c45 v4 w0 v2 σ (fun _ σ49 => ∃ c52 : Nat, v4 = some c52 ∧ sK σ49 c52 % 32 = 4 ∧ ∃ c55 : Nat, sR σ49 a0 5 = some c55 ∧ sK σ49 c55 % 32 = 16 ∧ vp_in v3 (sN σ49 c55) ∧ ∀ σ59 : Sg, σ59 = pI σ49 c55 v3.toNatClampNeg (sI σ49 c52 0) → ∀ x62 : Int32, x62 = v3 + 1 → K31 x62 σ59))
def P_X3_lieOver_L31b (a0 : Nat) (v1 : Option Nat) (v2 : Option Nat) (v3 : Int32) (σ : Sg) (Q : Unit → Sg → Prop) (K31 : Int32 → Sg → Prop) : Prop :=
  sK σ a0 % 32 = 5 ∧ ((sI σ a0 6) ≤ v3 → Q () σ) ∧ (¬ ((sI σ a0 6) ≤ v3) → ∃ c24 : Nat, v1 = some c24 ∧ sK σ c24 % 32 = 1 ∧ P_Jx4a65c_get_915e3 c24 v3 σ (fun r27 => ∃ c28 : Nat, r27 = some c28 ∧ sK σ c28 % 32 = 4 ∧ P_X10_within (sI σ c28 4) (v3 + 1) ((sI σ a0 6) - 1) σ (fun x31 => (x31 = 0 → P_X3_lieOver_B88 a0 v1 v2 v3 r27 none σ Q K31) ∧ (¬ (x31 = 0) → ∃ c33 : Nat, sR σ a0 0 = some c33 ∧ sK σ c33 % 32 = 1 ∧ P_Jx4a65c_get_915e3 c33 (sI σ c28 4) σ (fun r36 => ∃ c37 : Nat, r36 = some c37 ∧ sK σ c37 % 32 = 7 ∧ P_X3_lieOver_B88 a0 v1 v2 v3 r27 r36 σ Q K31)))))
def P_X3_lieOver_L31 (a0 : Nat) (v1 : Option Nat) (v2 : Option Nat) (v3 : Int32) (σ : Sg) (Q : Unit → Sg → Prop) : Prop :=
  ∃ I : Nat → Int32 → Sg → Prop, (∃ n, I n v3 σ) ∧ ∀ (n : Nat) (v3 : Int32) (σ : Sg), I n v3 σ → P_X3_lieOver_L31b a0 v1 v2 v3 σ Q (fun v3 σ => ∃ n', n' < n ∧ I n' v3 σ)
def P_X3_lieOver_B26 (a0 : Nat) (v1 : Option Nat) (v2 : Option Nat) (w0 : Option Nat) (w1 : Int32) (σ : Sg) (Q : Unit → Sg → Prop) : Prop :=
  ∃ c16 : Nat, w0 = some c16 ∧ sK σ c16 % 32 = 5 ∧ ∀ σ19 : Sg, σ19 = pI σ c16 8 w1 → P_X3_lieOver_L31 a0 v1 v2 0 σ19 Q
def P_X3_lieOver (a0 : Nat) (v1 : Option Nat) (v2 : Option Nat) (σ : Sg) (Q : Unit → Sg → Prop) : Prop :=
  ∃ c1 : Nat, v1 = some c1 ∧ sK σ c1 % 32 = 1 ∧ P_Jx4a65c_size_8abf5 c1 σ (fun x4 => ∀ x5 : Int32, x5 = (if (12 : Int32) < x4 then (12 : Int32) else x4) → sK σ a0 % 32 = 5 ∧ ∀ σ8 : Sg, σ8 = pI σ a0 6 x5 → ∃ c11 : Nat, v2 = some c11 ∧ sK σ8 c11 % 32 = 16 ∧ ((nI (sN σ8 c11)) = 0 → P_X3_lieOver_B26 a0 v1 v2 (some a0) 0 σ8 Q) ∧ (¬ ((nI (sN σ8 c11)) = 0) → vp_in 0 (sN σ8 c11) ∧ P_X3_lieOver_B26 a0 v1 v2 (some a0) (sI σ8 c11 (0 : Int32).toNatClampNeg) σ8 Q))
set_option maxHeartbeats 4000000 in
set_option maxRecDepth 100000 in
theorem k_X3_lieOver (l : Launch) (D : Dg) (a0 : Nat) (v1 : Option Nat) (v2 : Option Nat) (σ : Sg) (Q : Unit → Sg → Prop) (h : P_X3_lieOver a0 v1 v2 σ Q) : CtrY RN l D yX3_lieOver cX3_lieOver 6 (none) 3 65 mkV [.ref a0, va_rf v1, va_rf v2] σ (0, 0) Q := by
  refine y_ctrN (lv := [(0, va_rf (some a0)), (1, va_rf v1), (2, va_rf v2)]) (by decide) (by cases v1 <;> cases v2 <;> (exact Nat.le_of_ble_eq_true rfl)) (by cases v1 <;> cases v2 <;> (exact rfl)) (fun g hg hgL hgD hrm hgN hgI hend => ?_)
  subst hgD
  clear hgL
  unfold P_X3_lieOver at h
  have J31 : ∀ (v1 : Option Nat) (v2 : Option Nat) (v3 : Int32) (σ : Sg), P_X3_lieOver_L31 a0 v1 v2 v3 σ Q → XA g 31 [(0, va_rf (some a0)), (1, va_rf v1), (2, va_rf v2), (3, .int v3)] [] σ (0, 0) := by
    intro v1 v2 v3 σ h
    unfold P_X3_lieOver_L31 at h
    obtain ⟨I31, ⟨n31, hI31⟩, hs31⟩ := h
    have key31 : ∀ (n : Nat), ∀ (v3 : Int32) (σ : Sg), I31 n v3 σ → XA g 31 [(0, va_rf (some a0)), (1, va_rf v1), (2, va_rf v2), (3, .int v3)] [] σ (0, 0) := by
      intro n
      induction n using Nat.strongRecOn with
      | _ n ih31 =>
      intro v3 σ hI
      have h := hs31 n v3 σ hI
      clear hI hI31 hs31
      obtain ⟨K31, hK31⟩ : ∃ K : Int32 → Sg → Prop, K = (fun v3 σ => ∃ n', n' < n ∧ I31 n' v3 σ) := ⟨_, rfl⟩
      rw [← hK31] at h
      unfold P_X3_lieOver_L31b at h
      have J88 : ∀ (v3 : Int32) (v4 : Option Nat) (w0 : Option Nat) (σ : Sg), P_X3_lieOver_B88 a0 v1 v2 v3 v4 w0 σ Q K31 → XA g 88 [(0, va_rf (some a0)), (1, va_rf v1), (2, va_rf v2), (3, .int v3), (4, va_rf v4)] [va_rf w0] σ (0, 0) := by
        intro v3 v4 w0 σ h
        unfold P_X3_lieOver_B88 at h
        refine y_astore (lv' := [(5, va_rf w0), (0, va_rf (some a0)), (1, va_rf v1), (2, va_rf v2), (3, .int v3), (4, va_rf v4)]) hg dX3_lieOver_88 (by rw [hgN]; decide) (by cases v4 <;> rfl) ?_
        refine y_aload_n hg 1 dX3_lieOver_90 rfl rfl ?_
        obtain ⟨h40, h⟩ := h
        refine y_getR hg fl_X3_12 rfl rfl h40 dX3_lieOver_91 ?_
        refine y_iload_n hg 4 dX3_lieOver_94 rfl rfl ?_
        obtain ⟨c41, h42, h⟩ := h
        obtain ⟨h43, h⟩ := h
        refine yVRP (Qp := _) (rest := []) (As := [.int v3]) hg (k_Jx4a65c_get_915e3 (gL g.1) (gD g.1) c41 v3 σ _ h) lv_X3_52 h42 h43 rfl rfl dX3_lieOver_95 (cat8 (Nat.le_of_ble_eq_true rfl)) hrm ⟨Nat.le_of_ble_eq_true rfl, Nat.le_of_ble_eq_true rfl⟩ (fun r44 h => ?_)
        obtain ⟨c45, h46, h⟩ := h
        obtain ⟨h47, h⟩ := h
        refine y_cast (c := 7) hg (C := RX5) rfl (by decide) cl_X3_28 h46 h47 dX3_lieOver_98 ?_
        refine y_aload hg 5 dX3_lieOver_101 rfl ?_
        refine y_aload hg 0 dX3_lieOver_103 rfl ?_
        refine y_aload_n hg 3 dX3_lieOver_105 rfl rfl ?_
        refine yVVW (Qm := _) (rest := []) (As := [va_rf v4, va_rf w0, va_rf v2]) hg (k_X5_lieAt (gL g.1) (gD g.1) c45 v4 w0 v2 σ _ h) lv_X3_65 h46 h47 rfl rfl dX3_lieOver_106 (cat8 (Nat.le_of_ble_eq_true rfl)) hrm ⟨Nat.le_of_ble_eq_true rfl, Nat.le_of_ble_eq_true rfl⟩ (fun u48 σ49 h h50 => ?_)
        have h51 := kp h50 (show ¬ 5 = 0 by decide) h40
        refine y_aload_n hg 1 dX3_lieOver_109 rfl rfl ?_
        refine y_getR hg fl_X3_25 rfl rfl h51 dX3_lieOver_110 ?_
        refine y_iload_n hg 4 dX3_lieOver_113 rfl rfl ?_
        refine y_aload hg 5 dX3_lieOver_114 rfl ?_
        obtain ⟨c52, h53, h⟩ := h
        obtain ⟨h54, h⟩ := h
        refine y_getI hg fl_X3_69 rfl h53 h54 dX3_lieOver_116 ?_
        obtain ⟨c55, h56, h⟩ := h
        obtain ⟨h57, h⟩ := h
        obtain ⟨h58, h⟩ := h
        refine y_iast hg h56 h57 h58 dX3_lieOver_119 ?_
        refine y_nmS (fun σ59 e60 => ?_)
        replace h := h σ59 e60
        have E61 : sK σ59 = sK σ49 := by rw [e60]; rfl
        obtain ⟨x62, e63⟩ : ∃ y : Int32, y = v3 + 1 := ⟨_, rfl⟩
        replace h := h x62 e63
        refine y_iinc (v := x62) (lv' := [(3, .int x62), (5, va_rf w0), (0, va_rf (some a0)), (1, va_rf v1), (2, va_rf v2), (4, va_rf v4)]) hg 4 dX3_lieOver_120 rfl (by rw [e63]; rfl) (by rw [hgN]; decide) (by cases v2 <;> rfl) ?_
        refine y_goto (tgt := 31) hg dX3_lieOver_123 (by decide) ?_
        refine y_sub [2, 3, 4, 0] rfl ?_
        subst hK31
        obtain ⟨n64, h65, h⟩ := h
        exact ih31 n64 h65 _ _ h
      refine y_iload_n hg 3 dX3_lieOver_31 rfl rfl ?_
      refine y_aload_n hg 0 dX3_lieOver_32 rfl rfl ?_
      obtain ⟨h22, h⟩ := h
      refine y_getI hg fl_X3_45 rfl rfl h22 dX3_lieOver_33 ?_
      refine y_icmp_ge (tgt := 126) hg dX3_lieOver_36 (by decide) (fun q23 => ?_) (fun q23 => ?_)
      · replace h := h.1 q23
        exact yEndV hend dX3_lieOver_126 h
      · replace h := h.2 q23
        refine y_aload_n hg 1 dX3_lieOver_39 rfl rfl ?_
        refine y_iload_n hg 3 dX3_lieOver_40 rfl rfl ?_
        obtain ⟨c24, h25, h⟩ := h
        obtain ⟨h26, h⟩ := h
        refine yVRP (Qp := _) (rest := []) (As := [.int v3]) hg (k_Jx4a65c_get_915e3 (gL g.1) (gD g.1) c24 v3 σ _ h) lv_X3_52 h25 h26 rfl rfl dX3_lieOver_41 (cat8 (Nat.le_of_ble_eq_true rfl)) hrm ⟨Nat.le_of_ble_eq_true rfl, Nat.le_of_ble_eq_true rfl⟩ (fun r27 h => ?_)
        obtain ⟨c28, h29, h⟩ := h
        obtain ⟨h30, h⟩ := h
        refine y_cast (c := 4) hg (C := RX2) rfl (by decide) cl_X3_56 h29 h30 dX3_lieOver_44 ?_
        refine y_astore (lv' := [(4, va_rf r27), (0, va_rf (some a0)), (1, va_rf v1), (2, va_rf v2), (3, .int v3)]) hg dX3_lieOver_47 (by rw [hgN]; decide) rfl ?_
        refine y_aload hg 0 dX3_lieOver_49 rfl ?_
        refine y_getI hg fl_X3_58 rfl h29 h30 dX3_lieOver_51 ?_
        refine y_iload_n hg 4 dX3_lieOver_54 rfl rfl ?_
        refine y_iconst (v := 1) hg dX3_lieOver_55 (by decide) ?_
        refine y_iadd hg dX3_lieOver_56 ?_
        refine y_aload_n hg 1 dX3_lieOver_57 rfl rfl ?_
        refine y_getI hg fl_X3_45 rfl rfl h22 dX3_lieOver_58 ?_
        refine y_iconst (v := 1) hg dX3_lieOver_61 (by decide) ?_
        refine y_isub hg dX3_lieOver_62 ?_
        refine ySNIP (Qp := _) (rest := []) (As := [.int (sI σ c28 4), .int (v3 + 1), .int ((sI σ a0 6) - 1)]) hg (k_X10_within (gL g.1) (gD g.1) (sI σ c28 4) (v3 + 1) ((sI σ a0 6) - 1) σ _ h) lsn_X3_61 rfl rfl dX3_lieOver_63 (cat8 (Nat.le_of_ble_eq_true rfl)) hrm ⟨Nat.le_of_ble_eq_true rfl, Nat.le_of_ble_eq_true rfl⟩ (fun x31 h => ?_)
        refine y_if_eq (tgt := 87) hg dX3_lieOver_66 (by decide) (fun q32 => ?_) (fun q32 => ?_)
        · replace h := h.1 q32
          refine y_null hg dX3_lieOver_87 ?_
          refine y_sub [1, 2, 3, 4, 0] rfl ?_
          exact J88 _ _ _ _ h
        · replace h := h.2 q32
          refine y_aload_n hg 1 dX3_lieOver_69 rfl rfl ?_
          refine y_getR hg fl_X3_12 rfl rfl h22 dX3_lieOver_70 ?_
          refine y_aload hg 0 dX3_lieOver_73 rfl ?_
          refine y_getI hg fl_X3_58 rfl h29 h30 dX3_lieOver_75 ?_
          obtain ⟨c33, h34, h⟩ := h
          obtain ⟨h35, h⟩ := h
          refine yVRP (Qp := _) (rest := []) (As := [.int (sI σ c28 4)]) hg (k_Jx4a65c_get_915e3 (gL g.1) (gD g.1) c33 (sI σ c28 4) σ _ h) lv_X3_52 h34 h35 rfl rfl dX3_lieOver_78 (cat8 (Nat.le_of_ble_eq_true rfl)) hrm ⟨Nat.le_of_ble_eq_true rfl, Nat.le_of_ble_eq_true rfl⟩ (fun r36 h => ?_)
          obtain ⟨c37, h38, h⟩ := h
          obtain ⟨h39, h⟩ := h
          refine y_cast (c := 7) hg (C := RX5) rfl (by decide) cl_X3_28 h38 h39 dX3_lieOver_81 ?_
          refine y_goto (tgt := 88) hg dX3_lieOver_84 (by decide) ?_
          refine y_sub [1, 2, 3, 4, 0] rfl ?_
          exact J88 _ _ _ _ h
    exact key31 n31 v3 σ hI31
  have J26 : ∀ (v1 : Option Nat) (v2 : Option Nat) (w0 : Option Nat) (w1 : Int32) (σ : Sg), P_X3_lieOver_B26 a0 v1 v2 w0 w1 σ Q → XA g 26 [(0, va_rf (some a0)), (1, va_rf v1), (2, va_rf v2)] [.int w1, va_rf w0] σ (0, 0) := by
    intro v1 v2 w0 w1 σ h
    unfold P_X3_lieOver_B26 at h
    obtain ⟨c16, h17, h⟩ := h
    obtain ⟨h18, h⟩ := h
    refine y_putI hg fw_X3_49 (fun z => nomatch z) h17 h18 dX3_lieOver_26 ?_
    refine y_nmS (fun σ19 e20 => ?_)
    replace h := h σ19 e20
    have E21 : sK σ19 = sK σ := by rw [e20]; rfl
    refine y_iconst (v := 0) hg dX3_lieOver_29 (by decide) ?_
    refine y_istore_n (lv' := [(3, .int 0), (0, va_rf (some a0)), (1, va_rf v1), (2, va_rf v2)]) hg dX3_lieOver_30 rfl (by rw [hgN]; decide) (by cases v2 <;> rfl) ?_
    refine y_sub [1, 2, 3, 0] rfl ?_
    exact J31 _ _ _ _ h
  refine y_aload_n hg 0 dX3_lieOver_0 rfl rfl ?_
  refine y_aload_n hg 1 dX3_lieOver_1 rfl rfl ?_
  obtain ⟨c1, h2, h⟩ := h
  obtain ⟨h3, h⟩ := h
  refine yVIP (Qp := _) (rest := [va_rf (some a0)]) (As := []) hg (k_Jx4a65c_size_8abf5 (gL g.1) (gD g.1) c1 σ _ h) lv_X3_35 h2 h3 rfl rfl dX3_lieOver_2 (cat8 (Nat.le_of_ble_eq_true rfl)) hrm ⟨Nat.le_of_ble_eq_true rfl, Nat.le_of_ble_eq_true rfl⟩ (fun x4 h => ?_)
  refine y_bipush (v := 12) hg dX3_lieOver_5 (by decide) ?_
  refine y_mmin hg mm_X3_39 (cat8 (Nat.le_of_ble_eq_true rfl)) hrm ⟨Nat.le_of_ble_eq_true rfl, Nat.le_of_ble_eq_true rfl⟩ dX3_lieOver_7 ?_
  refine y_nmI (fun x5 e6 => ?_)
  replace h := h x5 e6
  obtain ⟨h7, h⟩ := h
  refine y_putI hg fw_X3_45 (fun z => nomatch z) rfl h7 dX3_lieOver_10 ?_
  refine y_nmS (fun σ8 e9 => ?_)
  replace h := h σ8 e9
  have E10 : sK σ8 = sK σ := by rw [e9]; rfl
  refine y_aload_n hg 0 dX3_lieOver_13 rfl rfl ?_
  refine y_aload_n hg 2 dX3_lieOver_14 rfl rfl ?_
  obtain ⟨c11, h12, h⟩ := h
  obtain ⟨h13, h⟩ := h
  refine y_alen hg h12 h13 (by decide) (by decide) dX3_lieOver_15 ?_
  refine y_if_ne (tgt := 23) hg dX3_lieOver_16 (by decide) (fun q14 => ?_) (fun q14 => ?_)
  · replace h := h.2 q14
    refine y_aload_n hg 2 dX3_lieOver_23 rfl rfl ?_
    refine y_iconst (v := 0) hg dX3_lieOver_24 (by decide) ?_
    obtain ⟨h15, h⟩ := h
    refine y_iald hg h12 h13 h15 dX3_lieOver_25 ?_
    refine y_sub [0, 1, 2] rfl ?_
    exact J26 _ _ _ _ _ h
  · replace h := h.1 q14
    refine y_iconst (v := 0) hg dX3_lieOver_19 (by decide) ?_
    refine y_goto (tgt := 26) hg dX3_lieOver_20 (by decide) ?_
    refine y_sub [0, 1, 2] rfl ?_
    exact J26 _ _ _ _ _ h
def P_X3_letInFrom_L27b (a0 : Nat) (v1 : Option Nat) (v2 : Option Nat) (v3 : Int32) (v4 : Int32) (σ : Sg) (Q : Int32 → Sg → Prop) (K27 : Int32 → Int32 → Sg → Prop) : Prop :=
  sK σ a0 % 32 = 5 ∧ ((sI σ a0 7) ≤ v4 → Q v3 σ) ∧ (¬ ((sI σ a0 7) ≤ v4) → ∃ c11 : Nat, v2 = some c11 ∧ sK σ c11 % 32 = 16 ∧ ((nI (sN σ c11)) ≤ v4 → Q v3 σ) ∧ (¬ ((nI (sN σ c11)) ≤ v4) → vp_in v4 (sN σ c11) ∧ ∃ c16 : Nat, v1 = some c16 ∧ sK σ c16 % 32 = 8 ∧ ∀ x19 : Int32, x19 = (sI σ c11 v4.toNatClampNeg) * (sI σ c16 2) → ∀ x21 : Int32, x21 = (if ((sI σ c16 3) - v3) < x19 then ((sI σ c16 3) - v3) else x19) → ∀ x23 : Int32, x23 = v3 + x21 → ∃ c25 : Nat, sR σ a0 3 = some c25 ∧ sK σ c25 % 32 = 16 ∧ vp_in ((v4 * 12) + (sI σ c16 0)) (sN σ c25) ∧ vp_in ((v4 * 12) + (sI σ c16 0)) (sN σ c25) ∧ ∀ σ30 : Sg, σ30 = pI σ c25 ((v4 * 12) + (sI σ c16 0)).toNatClampNeg ((sI σ c25 ((v4 * 12) + (sI σ c16 0)).toNatClampNeg) + (x19 - x21)) → ∀ x33 : Int32, x33 = v4 + 1 → K27 x23 x33 σ30))
def P_X3_letInFrom_L27 (a0 : Nat) (v1 : Option Nat) (v2 : Option Nat) (v3 : Int32) (v4 : Int32) (σ : Sg) (Q : Int32 → Sg → Prop) : Prop :=
  ∃ I : Nat → Int32 → Int32 → Sg → Prop, (∃ n, I n v3 v4 σ) ∧ ∀ (n : Nat) (v3 : Int32) (v4 : Int32) (σ : Sg), I n v3 v4 σ → P_X3_letInFrom_L27b a0 v1 v2 v3 v4 σ Q (fun v3 v4 σ => ∃ n', n' < n ∧ I n' v3 v4 σ)
def P_X3_letInFrom (a0 : Nat) (v1 : Option Nat) (v2 : Option Nat) (σ : Sg) (Q : Int32 → Sg → Prop) : Prop :=
  ∃ c1 : Nat, v1 = some c1 ∧ sK σ c1 % 32 = 8 ∧ ∀ x4 : Int32, x4 = sI σ c1 4 → sK σ a0 % 32 = 5 ∧ P_X10_within (sI σ c1 0) 0 ((sI σ a0 6) - 1) σ (fun x7 => (x7 = 0 → Q x4 σ) ∧ (¬ (x7 = 0) → P_X3_letInFrom_L27 a0 v1 v2 x4 0 σ Q))
set_option maxHeartbeats 4000000 in
set_option maxRecDepth 100000 in
theorem k_X3_letInFrom (l : Launch) (D : Dg) (a0 : Nat) (v1 : Option Nat) (v2 : Option Nat) (σ : Sg) (Q : Int32 → Sg → Prop) (h : P_X3_letInFrom a0 v1 v2 σ Q) : CtrY RN l D yX3_letInFrom cX3_letInFrom 7 (some FieldType.int) 1 30 mkI [.ref a0, va_rf v1, va_rf v2] σ (0, 0) Q := by
  refine y_ctrN (lv := [(0, va_rf (some a0)), (1, va_rf v1), (2, va_rf v2)]) (by decide) (by cases v1 <;> cases v2 <;> (exact Nat.le_of_ble_eq_true rfl)) (by cases v1 <;> cases v2 <;> (exact rfl)) (fun g hg hgL hgD hrm hgN hgI hend => ?_)
  subst hgD
  clear hgL
  unfold P_X3_letInFrom at h
  have J27 : ∀ (v1 : Option Nat) (v2 : Option Nat) (v3 : Int32) (v4 : Int32) (σ : Sg), P_X3_letInFrom_L27 a0 v1 v2 v3 v4 σ Q → XA g 27 [(0, va_rf (some a0)), (1, va_rf v1), (2, va_rf v2), (3, .int v3), (4, .int v4)] [] σ (0, 0) := by
    intro v1 v2 v3 v4 σ h
    unfold P_X3_letInFrom_L27 at h
    obtain ⟨I27, ⟨n27, hI27⟩, hs27⟩ := h
    have key27 : ∀ (n : Nat), ∀ (v3 : Int32) (v4 : Int32) (σ : Sg), I27 n v3 v4 σ → XA g 27 [(0, va_rf (some a0)), (1, va_rf v1), (2, va_rf v2), (3, .int v3), (4, .int v4)] [] σ (0, 0) := by
      intro n
      induction n using Nat.strongRecOn with
      | _ n ih27 =>
      intro v3 v4 σ hI
      have h := hs27 n v3 v4 σ hI
      clear hI hI27 hs27
      obtain ⟨K27, hK27⟩ : ∃ K : Int32 → Int32 → Sg → Prop, K = (fun v3 v4 σ => ∃ n', n' < n ∧ I27 n' v3 v4 σ) := ⟨_, rfl⟩
      rw [← hK27] at h
      unfold P_X3_letInFrom_L27b at h
      refine y_iload hg 4 dX3_letInFrom_27 rfl ?_
      refine y_aload_n hg 0 dX3_letInFrom_29 rfl rfl ?_
      obtain ⟨h9, h⟩ := h
      refine y_getI hg fl_X3_72 rfl rfl h9 dX3_letInFrom_30 ?_
      refine y_icmp_ge (tgt := 101) hg dX3_letInFrom_33 (by decide) (fun q10 => ?_) (fun q10 => ?_)
      · replace h := h.1 q10
        refine y_iload_n hg 3 dX3_letInFrom_101 rfl rfl ?_
        exact yEndI hend rfl dX3_letInFrom_102 h
      · replace h := h.2 q10
        refine y_iload hg 4 dX3_letInFrom_36 rfl ?_
        refine y_aload_n hg 2 dX3_letInFrom_38 rfl rfl ?_
        obtain ⟨c11, h12, h⟩ := h
        obtain ⟨h13, h⟩ := h
        refine y_alen hg h12 h13 (by decide) (by decide) dX3_letInFrom_39 ?_
        refine y_icmp_ge (tgt := 101) hg dX3_letInFrom_40 (by decide) (fun q14 => ?_) (fun q14 => ?_)
        · replace h := h.1 q14
          refine y_iload_n hg 3 dX3_letInFrom_101 rfl rfl ?_
          exact yEndI hend rfl dX3_letInFrom_102 h
        · replace h := h.2 q14
          refine y_aload_n hg 2 dX3_letInFrom_43 rfl rfl ?_
          refine y_iload hg 4 dX3_letInFrom_44 rfl ?_
          obtain ⟨h15, h⟩ := h
          refine y_iald hg h12 h13 h15 dX3_letInFrom_46 ?_
          refine y_aload_n hg 1 dX3_letInFrom_47 rfl rfl ?_
          obtain ⟨c16, h17, h⟩ := h
          obtain ⟨h18, h⟩ := h
          refine y_getI hg fl_X3_87 rfl h17 h18 dX3_letInFrom_48 ?_
          refine y_imul hg dX3_letInFrom_51 ?_
          refine y_nmI (fun x19 e20 => ?_)
          replace h := h x19 e20
          refine y_istore (lv' := [(5, .int x19), (0, va_rf (some a0)), (1, va_rf v1), (2, va_rf v2), (3, .int v3), (4, .int v4)]) hg dX3_letInFrom_52 (by rw [hgN]; decide) rfl ?_
          refine y_iload hg 0 dX3_letInFrom_54 rfl ?_
          refine y_aload_n hg 2 dX3_letInFrom_56 rfl rfl ?_
          refine y_getI hg fl_X3_88 rfl h17 h18 dX3_letInFrom_57 ?_
          refine y_iload_n hg 4 dX3_letInFrom_60 rfl rfl ?_
          refine y_isub hg dX3_letInFrom_61 ?_
          refine y_mmin hg mm_X3_39 (cat8 (Nat.le_of_ble_eq_true rfl)) hrm ⟨Nat.le_of_ble_eq_true rfl, Nat.le_of_ble_eq_true rfl⟩ dX3_letInFrom_62 ?_
          refine y_nmI (fun x21 e22 => ?_)
          replace h := h x21 e22
          refine y_istore (lv' := [(6, .int x21), (5, .int x19), (0, va_rf (some a0)), (1, va_rf v1), (2, va_rf v2), (3, .int v3), (4, .int v4)]) hg dX3_letInFrom_65 (by rw [hgN]; decide) rfl ?_
          refine y_iload_n hg 5 dX3_letInFrom_67 rfl rfl ?_
          refine y_iload hg 0 dX3_letInFrom_68 rfl ?_
          refine y_iadd hg dX3_letInFrom_70 ?_
          refine y_nmI (fun x23 e24 => ?_)
          replace h := h x23 e24
          refine y_istore_n (lv' := [(3, .int x23), (6, .int x21), (5, .int x19), (0, va_rf (some a0)), (1, va_rf v1), (2, va_rf v2), (4, .int v4)]) hg dX3_letInFrom_71 rfl (by rw [hgN]; decide) (by cases v2 <;> rfl) ?_
          refine y_aload_n hg 3 dX3_letInFrom_72 rfl rfl ?_
          refine y_getR hg fl_X3_18 rfl rfl h9 dX3_letInFrom_73 ?_
          refine y_iload hg 6 dX3_letInFrom_76 rfl ?_
          refine y_bipush (v := 12) hg dX3_letInFrom_78 (by decide) ?_
          refine y_imul hg dX3_letInFrom_80 ?_
          refine y_aload_n hg 4 dX3_letInFrom_81 rfl rfl ?_
          refine y_getI hg fl_X3_84 rfl h17 h18 dX3_letInFrom_82 ?_
          refine y_iadd hg dX3_letInFrom_85 ?_
          refine y_dup2 hg dX3_letInFrom_86 rfl (rf_cat _) ?_
          obtain ⟨c25, h26, h⟩ := h
          obtain ⟨h27, h⟩ := h
          obtain ⟨h28, h⟩ := h
          refine y_iald hg h26 h27 h28 dX3_letInFrom_87 ?_
          refine y_iload hg 2 dX3_letInFrom_88 rfl ?_
          refine y_iload hg 1 dX3_letInFrom_90 rfl ?_
          refine y_isub hg dX3_letInFrom_92 ?_
          refine y_iadd hg dX3_letInFrom_93 ?_
          obtain ⟨h29, h⟩ := h
          refine y_iast hg h26 h27 h29 dX3_letInFrom_94 ?_
          refine y_nmS (fun σ30 e31 => ?_)
          replace h := h σ30 e31
          have E32 : sK σ30 = sK σ := by rw [e31]; rfl
          obtain ⟨x33, e34⟩ : ∃ y : Int32, y = v4 + 1 := ⟨_, rfl⟩
          replace h := h x33 e34
          refine y_iinc (v := x33) (lv' := [(4, .int x33), (3, .int x23), (6, .int x21), (5, .int x19), (0, va_rf (some a0)), (1, va_rf v1), (2, va_rf v2)]) hg 6 dX3_letInFrom_95 rfl (by rw [e34]; rfl) (by rw [hgN]; decide) rfl ?_
          refine y_goto (tgt := 27) hg dX3_letInFrom_98 (by decide) ?_
          refine y_sub [4, 5, 6, 1, 0] rfl ?_
          subst hK27
          obtain ⟨n35, h36, h⟩ := h
          exact ih27 n35 h36 _ _ _ h
    exact key27 n27 v3 v4 σ hI27
  refine y_aload_n hg 1 dX3_letInFrom_0 rfl rfl ?_
  obtain ⟨c1, h2, h⟩ := h
  obtain ⟨h3, h⟩ := h
  refine y_getI hg fl_X3_81 rfl h2 h3 dX3_letInFrom_1 ?_
  refine y_nmI (fun x4 e5 => ?_)
  replace h := h x4 e5
  refine y_istore_n (lv' := [(3, .int x4), (0, va_rf (some a0)), (1, va_rf v1), (2, va_rf v2)]) hg dX3_letInFrom_4 rfl (by rw [hgN]; decide) (by cases v2 <;> rfl) ?_
  refine y_aload_n hg 2 dX3_letInFrom_5 rfl rfl ?_
  refine y_getI hg fl_X3_84 rfl h2 h3 dX3_letInFrom_6 ?_
  refine y_iconst (v := 0) hg dX3_letInFrom_9 (by decide) ?_
  refine y_aload_n hg 1 dX3_letInFrom_10 rfl rfl ?_
  obtain ⟨h6, h⟩ := h
  refine y_getI hg fl_X3_45 rfl rfl h6 dX3_letInFrom_11 ?_
  refine y_iconst (v := 1) hg dX3_letInFrom_14 (by decide) ?_
  refine y_isub hg dX3_letInFrom_15 ?_
  refine ySNIP (Qp := _) (rest := []) (As := [.int (sI σ c1 0), .int 0, .int ((sI σ a0 6) - 1)]) hg (k_X10_within (gL g.1) (gD g.1) (sI σ c1 0) 0 ((sI σ a0 6) - 1) σ _ h) lsn_X3_61 rfl rfl dX3_letInFrom_16 (cat8 (Nat.le_of_ble_eq_true rfl)) hrm ⟨Nat.le_of_ble_eq_true rfl, Nat.le_of_ble_eq_true rfl⟩ (fun x7 h => ?_)
  refine y_if_ne (tgt := 24) hg dX3_letInFrom_19 (by decide) (fun q8 => ?_) (fun q8 => ?_)
  · replace h := h.2 q8
    refine y_iconst (v := 0) hg dX3_letInFrom_24 (by decide) ?_
    refine y_istore (lv' := [(4, .int 0), (3, .int x4), (0, va_rf (some a0)), (1, va_rf v1), (2, va_rf v2)]) hg dX3_letInFrom_25 (by rw [hgN]; decide) rfl ?_
    refine y_sub [2, 3, 4, 1, 0] rfl ?_
    exact J27 _ _ _ _ _ h
  · replace h := h.1 q8
    refine y_iload_n hg 0 dX3_letInFrom_22 rfl rfl ?_
    exact yEndI hend rfl dX3_letInFrom_23 h
