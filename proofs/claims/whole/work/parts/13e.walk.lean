def P_X11_like_B94 (a0 : Nat) (v1 : Int32) (v2 : Int32) (v3 : Int32) (v4 : Int64) (v6 : Int32) (σ : Sg) (Q : Int32 → Prop) (K8 : Int32 → Int64 → Int32 → Prop) : Prop :=
  ∀ x26 : Int32, x26 = v6 + 1 → K8 v3 v4 x26
def P_X11_like_B87 (a0 : Nat) (v1 : Int32) (v2 : Int32) (v6 : Int32) (v7 : Int64) (σ : Sg) (Q : Int32 → Prop) (K8 : Int32 → Int64 → Int32 → Prop) : Prop :=
  P_X11_like_B94 a0 v1 v2 v6 v7 v6 σ Q K8
def P_X11_like_L8b (a0 : Nat) (v1 : Int32) (v2 : Int32) (v3 : Int32) (v4 : Int64) (v6 : Int32) (σ : Sg) (Q : Int32 → Prop) (K8 : Int32 → Int64 → Int32 → Prop) : Prop :=
  sK σ a0 % 32 = 13 ∧ ((sI σ a0 4) ≤ v6 → Q v3) ∧ (¬ ((sI σ a0 4) ≤ v6) → ∃ c3 : Nat, sR σ a0 53 = some c3 ∧ sK σ c3 % 32 = 17 ∧ vp_in v6 (sN σ c3) ∧ ∃ c7 : Nat, sR σ a0 53 = some c7 ∧ sK σ c7 % 32 = 17 ∧ vp_in v1 (sN σ c7) ∧ ∀ x11 : Int64, x11 = (if 0 < ((sL σ c3 v6.toNatClampNeg) - (sL σ c7 v1.toNatClampNeg)) then ((sL σ c3 v6.toNatClampNeg) - (sL σ c7 v1.toNatClampNeg)) else -((sL σ c3 v6.toNatClampNeg) - (sL σ c7 v1.toNatClampNeg))) → ∃ c13 : Nat, sR σ a0 58 = some c13 ∧ sK σ c13 % 32 = 16 ∧ vp_in v6 (sN σ c13) ∧ (v2 ≤ (sI σ c13 v6.toNatClampNeg) → P_X11_like_B94 a0 v1 v2 v3 v4 v6 σ Q K8) ∧ (¬ (v2 ≤ (sI σ c13 v6.toNatClampNeg)) → P_X11_now a0 12 σ (fun x18 => ∃ c19 : Nat, sR σ a0 53 = some c19 ∧ sK σ c19 % 32 = 17 ∧ vp_in v1 (sN σ c19) ∧ ((x18.toInt64 * (sL σ c19 v1.toNatClampNeg)) < (x11 * 100) → P_X11_like_B94 a0 v1 v2 v3 v4 v6 σ Q K8) ∧ (¬ ((x18.toInt64 * (sL σ c19 v1.toNatClampNeg)) < (x11 * 100)) → (v3 = (-1) → P_X11_like_B87 a0 v1 v2 v6 x11 σ Q K8) ∧ (¬ (v3 = (-1)) → (x11 ≤ v4 → P_X11_like_B87 a0 v1 v2 v6 x11 σ Q K8) ∧ (¬ (x11 ≤ v4) → P_X11_like_B94 a0 v1 v2 v3 v4 v6 σ Q K8))))))
def P_X11_like_L8 (a0 : Nat) (v1 : Int32) (v2 : Int32) (v3 : Int32) (v4 : Int64) (v6 : Int32) (σ : Sg) (Q : Int32 → Prop) : Prop :=
  ∃ I : Nat → Int32 → Int64 → Int32 → Prop, (∃ n, I n v3 v4 v6) ∧ ∀ (n : Nat) (v3 : Int32) (v4 : Int64) (v6 : Int32), I n v3 v4 v6 → P_X11_like_L8b a0 v1 v2 v3 v4 v6 σ Q (fun v3 v4 v6 => ∃ n', n' < n ∧ I n' v3 v4 v6)
def P_X11_like (a0 : Nat) (v1 : Int32) (v2 : Int32) (σ : Sg) (Q : Int32 → Prop) : Prop :=
  P_X11_like_L8 a0 v1 v2 (-1) 0 0 σ Q
set_option maxHeartbeats 4000000 in
set_option maxRecDepth 100000 in
theorem k_X11_like (l : Launch) (D : Dg) (a0 : Nat) (v1 : Int32) (v2 : Int32) (σ : Sg) (Q : Int32 → Prop) (h : P_X11_like a0 v1 v2 σ Q) : CtrY RN l D yX11_like cX11_like 9 (some FieldType.int) 3 69 mkI [.ref a0, .int v1, .int v2] σ (0, 0) (fun r σ2 => Q r ∧ σ2 = σ) := by
  refine y_ctrN (lv := [(0, va_rf (some a0)), (1, .int v1), (2, .int v2)]) (by decide) (by (exact Nat.le_of_ble_eq_true rfl)) (by (exact rfl)) (fun g hg hgL hgD hrm hgN hgI hend => ?_)
  subst hgD
  clear hgL
  unfold P_X11_like at h
  have J8 : ∀ (v1 : Int32) (v2 : Int32) (v3 : Int32) (v4 : Int64) (v6 : Int32), P_X11_like_L8 a0 v1 v2 v3 v4 v6 σ Q → XA g 8 [(0, va_rf (some a0)), (1, .int v1), (2, .int v2), (3, .int v3), (4, .long v4), (6, .int v6)] [] σ (0, 0) := by
    intro v1 v2 v3 v4 v6 h
    unfold P_X11_like_L8 at h
    obtain ⟨I8, ⟨n8, hI8⟩, hs8⟩ := h
    have key8 : ∀ (n : Nat), ∀ (v3 : Int32) (v4 : Int64) (v6 : Int32), I8 n v3 v4 v6 → XA g 8 [(0, va_rf (some a0)), (1, .int v1), (2, .int v2), (3, .int v3), (4, .long v4), (6, .int v6)] [] σ (0, 0) := by
      intro n
      induction n using Nat.strongRecOn with
      | _ n ih8 =>
      intro v3 v4 v6 hI
      have h := hs8 n v3 v4 v6 hI
      clear hI hI8 hs8
      obtain ⟨K8, hK8⟩ : ∃ K : Int32 → Int64 → Int32 → Prop, K = (fun v3 v4 v6 => ∃ n', n' < n ∧ I8 n' v3 v4 v6) := ⟨_, rfl⟩
      rw [← hK8] at h
      unfold P_X11_like_L8b at h
      have J94 : ∀ (v3 : Int32) (v4 : Int64) (v6 : Int32), P_X11_like_B94 a0 v1 v2 v3 v4 v6 σ Q K8 → XA g 94 [(0, va_rf (some a0)), (1, .int v1), (2, .int v2), (3, .int v3), (4, .long v4), (6, .int v6)] [] σ (0, 0) := by
        intro v3 v4 v6 h
        unfold P_X11_like_B94 at h
        obtain ⟨x26, e27⟩ : ∃ y : Int32, y = v6 + 1 := ⟨_, rfl⟩
        replace h := h x26 e27
        refine y_iinc (v := x26) (lv' := [(6, .int x26), (0, va_rf (some a0)), (1, .int v1), (2, .int v2), (3, .int v3), (4, .long v4)]) hg 5 dX11_like_94 rfl (by rw [e27]; rfl) (by rw [hgN]; decide) rfl ?_
        refine y_goto (tgt := 8) hg dX11_like_97 (by decide) ?_
        refine y_sub [1, 2, 3, 4, 5, 0] rfl ?_
        subst hK8
        obtain ⟨n28, h29, h⟩ := h
        exact ih8 n28 h29 _ _ _ h
      have J87 : ∀ (v6 : Int32) (v7 : Int64), P_X11_like_B87 a0 v1 v2 v6 v7 σ Q K8 → XA g 87 [(0, va_rf (some a0)), (1, .int v1), (2, .int v2), (6, .int v6), (7, .long v7)] [] σ (0, 0) := by
        intro v6 v7 h
        unfold P_X11_like_B87 at h
        refine y_iload hg 3 dX11_like_87 rfl ?_
        refine y_istore_n (lv' := [(3, .int v6), (0, va_rf (some a0)), (1, .int v1), (2, .int v2), (6, .int v6), (7, .long v7)]) hg dX11_like_89 rfl (by rw [hgN]; decide) rfl ?_
        refine y_lload hg 5 dX11_like_90 rfl ?_
        refine y_lstore (lv' := [(4, .long v7), (3, .int v6), (0, va_rf (some a0)), (1, .int v1), (2, .int v2), (6, .int v6), (7, .long v7)]) hg dX11_like_92 (by rw [hgN]; decide) rfl ?_
        refine y_sub [2, 3, 4, 1, 0, 5] rfl ?_
        exact J94 _ _ _ h
      refine y_iload hg 5 dX11_like_8 rfl ?_
      refine y_aload_n hg 0 dX11_like_10 rfl rfl ?_
      obtain ⟨h1, h⟩ := h
      refine y_getI hg fl_X11_295 rfl rfl h1 dX11_like_11 ?_
      refine y_icmp_ge (tgt := 100) hg dX11_like_14 (by decide) (fun q2 => ?_) (fun q2 => ?_)
      · replace h := h.1 q2
        refine y_iload_n hg 3 dX11_like_100 rfl rfl ?_
        exact yEndI hend rfl dX11_like_101 ⟨h, rfl⟩
      · replace h := h.2 q2
        refine y_aload_n hg 0 dX11_like_17 rfl rfl ?_
        refine y_getR hg fl_X11_117 rfl rfl h1 dX11_like_18 ?_
        refine y_iload hg 5 dX11_like_21 rfl ?_
        obtain ⟨c3, h4, h⟩ := h
        obtain ⟨h5, h⟩ := h
        obtain ⟨h6, h⟩ := h
        refine y_lald hg h4 h5 h6 dX11_like_23 ?_
        refine y_aload_n hg 0 dX11_like_24 rfl rfl ?_
        refine y_getR hg fl_X11_117 rfl rfl h1 dX11_like_25 ?_
        refine y_iload_n hg 1 dX11_like_28 rfl rfl ?_
        obtain ⟨c7, h8, h⟩ := h
        obtain ⟨h9, h⟩ := h
        obtain ⟨h10, h⟩ := h
        refine y_lald hg h8 h9 h10 dX11_like_29 ?_
        refine y_lsub hg dX11_like_30 ?_
        refine y_mabsL hg mm_X11_323 (cat8 (Nat.le_of_ble_eq_true rfl)) hrm ⟨Nat.le_of_ble_eq_true rfl, Nat.le_of_ble_eq_true rfl⟩ dX11_like_31 ?_
        refine y_nmJ (fun x11 e12 => ?_)
        replace h := h x11 e12
        refine y_lstore (lv' := [(7, .long x11), (0, va_rf (some a0)), (1, .int v1), (2, .int v2), (3, .int v3), (4, .long v4), (6, .int v6)]) hg dX11_like_34 (by rw [hgN]; decide) rfl ?_
        refine y_aload_n hg 1 dX11_like_36 rfl rfl ?_
        refine y_getR hg fl_X11_132 rfl rfl h1 dX11_like_37 ?_
        refine y_iload hg 6 dX11_like_40 rfl ?_
        obtain ⟨c13, h14, h⟩ := h
        obtain ⟨h15, h⟩ := h
        obtain ⟨h16, h⟩ := h
        refine y_iald hg h14 h15 h16 dX11_like_42 ?_
        refine y_iload_n hg 3 dX11_like_43 rfl rfl ?_
        refine y_icmp_ge (tgt := 94) hg dX11_like_44 (by decide) (fun q17 => ?_) (fun q17 => ?_)
        · replace h := h.1 q17
          refine y_sub [1, 2, 3, 4, 5, 6] rfl ?_
          exact J94 _ _ _ h
        · replace h := h.2 q17
          refine y_lload hg 0 dX11_like_47 rfl ?_
          refine y_ldc2 hg cw_X11_327 dX11_like_49 ?_
          refine y_lmul hg dX11_like_52 ?_
          refine y_aload_n hg 1 dX11_like_53 rfl rfl ?_
          refine y_bipush (v := 12) hg dX11_like_54 (by decide) ?_
          refine yVIP (Qp := _) (rest := [.long (x11 * 100)]) (As := [.int 12]) hg (k_X11_now (gL g.1) (gD g.1) a0 12 σ _ h) lv_X11_209 rfl h1 rfl rfl dX11_like_56 (cat8 (Nat.le_of_ble_eq_true rfl)) hrm ⟨Nat.le_of_ble_eq_true rfl, Nat.le_of_ble_eq_true rfl⟩ (fun x18 h => ?_)
          refine y_i2l hg dX11_like_59 ?_
          refine y_aload_n hg 1 dX11_like_60 rfl rfl ?_
          refine y_getR hg fl_X11_117 rfl rfl h1 dX11_like_61 ?_
          refine y_iload_n hg 2 dX11_like_64 rfl rfl ?_
          obtain ⟨c19, h20, h⟩ := h
          obtain ⟨h21, h⟩ := h
          obtain ⟨h22, h⟩ := h
          refine y_lald hg h20 h21 h22 dX11_like_65 ?_
          refine y_lmul hg dX11_like_66 ?_
          refine y_lcmp hg dX11_like_67 ?_
          refine y_if_gt (tgt := 94) hg dX11_like_68 (by decide) (fun q23 => ?_) (fun q23 => ?_)
          · replace h := h.1 ((lg_cmp_gt _ _).mp q23)
            refine y_sub [1, 2, 3, 4, 5, 6] rfl ?_
            exact J94 _ _ _ h
          · replace h := h.2 (fun z => q23 ((lg_cmp_gt _ _).mpr z))
            refine y_iload_n hg 4 dX11_like_71 rfl rfl ?_
            refine y_iconst (v := (-1)) hg dX11_like_72 (by decide) ?_
            refine y_icmp_eq (tgt := 87) hg dX11_like_73 (by decide) (fun q24 => ?_) (fun q24 => ?_)
            · replace h := h.1 q24
              refine y_sub [1, 2, 3, 6, 0] rfl ?_
              exact J87 _ _ h
            · replace h := h.2 q24
              refine y_lload hg 0 dX11_like_76 rfl ?_
              refine y_lload hg 5 dX11_like_78 rfl ?_
              refine y_lcmp hg dX11_like_80 ?_
              refine y_if_le (tgt := 87) hg dX11_like_81 (by decide) (fun q25 => ?_) (fun q25 => ?_)
              · replace h := h.1 ((lg_cmp_le _ _).mp q25)
                refine y_sub [1, 2, 3, 6, 0] rfl ?_
                exact J87 _ _ h
              · replace h := h.2 (fun z => q25 ((lg_cmp_le _ _).mpr z))
                refine y_goto (tgt := 94) hg dX11_like_84 (by decide) ?_
                refine y_sub [1, 2, 3, 4, 5, 6] rfl ?_
                exact J94 _ _ _ h
    exact key8 n8 v3 v4 v6 hI8
  refine y_iconst (v := (-1)) hg dX11_like_0 (by decide) ?_
  refine y_istore_n (lv' := [(3, .int (-1)), (0, va_rf (some a0)), (1, .int v1), (2, .int v2)]) hg dX11_like_1 rfl (by rw [hgN]; decide) rfl ?_
  refine y_lconst (v := 0) hg dX11_like_2 (by decide) ?_
  refine y_lstore (lv' := [(4, .long 0), (3, .int (-1)), (0, va_rf (some a0)), (1, .int v1), (2, .int v2)]) hg dX11_like_3 (by rw [hgN]; decide) rfl ?_
  refine y_iconst (v := 0) hg dX11_like_5 (by decide) ?_
  refine y_istore (lv' := [(6, .int 0), (4, .long 0), (3, .int (-1)), (0, va_rf (some a0)), (1, .int v1), (2, .int v2)]) hg dX11_like_6 (by rw [hgN]; decide) rfl ?_
  refine y_sub [3, 4, 5, 2, 1, 0] rfl ?_
  exact J8 _ _ _ _ _ h
def P_X11_compare_B167 (a0 : Nat) (w0 : Int32) (σ : Sg) (Q : Int64 → Prop) : Prop :=
  P_X11_one w0 σ (fun x34 => Q x34.toInt64)
def P_X11_compare_B104 (a0 : Nat) (v1 : Int32) (v2 : Int32) (v3 : Int32) (v4 : Int64) (v6 : Int64) (v8 : Int32) (σ : Sg) (Q : Int64 → Prop) (K35 : Int32 → Int64 → Int64 → Int32 → Prop) : Prop :=
  ∀ x35 : Int32, x35 = v8 + 1 → K35 v3 v4 v6 x35
def P_X11_compare_B66 (a0 : Nat) (v1 : Int32) (v2 : Int32) (v3 : Int32) (v4 : Int64) (v6 : Int64) (v8 : Int32) (w0 : Int32) (σ : Sg) (Q : Int64 → Prop) (K35 : Int32 → Int64 → Int64 → Int32 → Prop) : Prop :=
  (w0 = (-1) → P_X11_compare_B104 a0 v1 v2 v3 v4 v6 v8 σ Q K35) ∧ (¬ (w0 = (-1)) → ∀ x19 : Int32, x19 = v3 + 1 → sK σ a0 % 32 = 13 ∧ ∃ c22 : Nat, sR σ a0 54 = some c22 ∧ sK σ c22 % 32 = 17 ∧ vp_in w0 (sN σ c22) ∧ ∀ x26 : Int64, x26 = v4 + (sL σ c22 w0.toNatClampNeg) → ∃ c28 : Nat, sR σ a0 54 = some c28 ∧ sK σ c28 % 32 = 17 ∧ vp_in v8 (sN σ c28) ∧ ∀ x32 : Int64, x32 = v6 + (sL σ c28 v8.toNatClampNeg) → P_X11_compare_B104 a0 v1 v2 x19 x26 x32 v8 σ Q K35)
def P_X11_compare_L35b (a0 : Nat) (v1 : Int32) (v2 : Int32) (v3 : Int32) (v4 : Int64) (v6 : Int64) (v8 : Int32) (σ : Sg) (Q : Int64 → Prop) (K35 : Int32 → Int64 → Int64 → Int32 → Prop) : Prop :=
  sK σ a0 % 32 = 13 ∧ ((sI σ a0 4) ≤ v8 → (v2 = 0 → Q v3.toInt64) ∧ (¬ (v2 = 0) → (v2 = 1 → Q v4) ∧ (¬ (v2 = 1) → (v2 = 2 → Q v6) ∧ (¬ (v2 = 2) → P_X11_now a0 12 σ (fun x10 => (((v4 - v6) * 100) ≤ (x10.toInt64 * v4) → P_X11_compare_B167 a0 0 σ Q) ∧ (¬ (((v4 - v6) * 100) ≤ (x10.toInt64 * v4)) → P_X11_compare_B167 a0 1 σ Q)))))) ∧ (¬ ((sI σ a0 4) ≤ v8) → ∃ c12 : Nat, sR σ a0 58 = some c12 ∧ sK σ c12 % 32 = 16 ∧ vp_in v8 (sN σ c12) ∧ (v1 ≤ (sI σ c12 v8.toNatClampNeg) → P_X11_like a0 v8 v1 σ (fun x17 => P_X11_compare_B66 a0 v1 v2 v3 v4 v6 v8 x17 σ Q K35)) ∧ (¬ (v1 ≤ (sI σ c12 v8.toNatClampNeg)) → P_X11_compare_B66 a0 v1 v2 v3 v4 v6 v8 (-1) σ Q K35))
def P_X11_compare_L35 (a0 : Nat) (v1 : Int32) (v2 : Int32) (v3 : Int32) (v4 : Int64) (v6 : Int64) (v8 : Int32) (σ : Sg) (Q : Int64 → Prop) : Prop :=
  ∃ I : Nat → Int32 → Int64 → Int64 → Int32 → Prop, (∃ n, I n v3 v4 v6 v8) ∧ ∀ (n : Nat) (v3 : Int32) (v4 : Int64) (v6 : Int64) (v8 : Int32), I n v3 v4 v6 v8 → P_X11_compare_L35b a0 v1 v2 v3 v4 v6 v8 σ Q (fun v3 v4 v6 v8 => ∃ n', n' < n ∧ I n' v3 v4 v6 v8)
def P_X11_compare (a0 : Nat) (v1 : Int32) (v2 : Int32) (σ : Sg) (Q : Int64 → Prop) : Prop :=
  P_X11_isIn v1 0 3649 σ (fun x1 => (x1 = 0 → Q (-1)) ∧ (¬ (x1 = 0) → P_X11_isIn v2 0 3 σ (fun x3 => (x3 = 0 → Q (-1)) ∧ (¬ (x3 = 0) → P_X11_compare_L35 a0 v1 v2 0 0 0 0 σ Q))))
set_option maxHeartbeats 4000000 in
set_option maxRecDepth 100000 in
theorem k_X11_compare (l : Launch) (D : Dg) (a0 : Nat) (v1 : Int32) (v2 : Int32) (σ : Sg) (Q : Int64 → Prop) (h : P_X11_compare a0 v1 v2 σ Q) : CtrY RN l D yX11_compare cX11_compare 10 (some FieldType.long) 4 97 mkL [.ref a0, .int v1, .int v2] σ (0, 0) (fun r σ2 => Q r ∧ σ2 = σ) := by
  refine y_ctrN (lv := [(0, va_rf (some a0)), (1, .int v1), (2, .int v2)]) (by decide) (by (exact Nat.le_of_ble_eq_true rfl)) (by (exact rfl)) (fun g hg hgL hgD hrm hgN hgI hend => ?_)
  subst hgD
  clear hgL
  unfold P_X11_compare at h
  have J167 : ∀ (w0 : Int32), P_X11_compare_B167 a0 w0 σ Q → XA g 167 [(0, va_rf (some a0))] [.int w0] σ (0, 0) := by
    intro w0 h
    unfold P_X11_compare_B167 at h
    refine ySIP (Qp := _) (rest := []) (As := [.int w0]) hg (k_X11_one (gL g.1) (gD g.1) w0 σ _ h) ls_X11_319 rfl rfl dX11_compare_167 (cat8 (Nat.le_of_ble_eq_true rfl)) hrm ⟨Nat.le_of_ble_eq_true rfl, Nat.le_of_ble_eq_true rfl⟩ (fun x34 h => ?_)
    refine y_i2l hg dX11_compare_170 ?_
    exact yEndL hend dX11_compare_171 ⟨h, rfl⟩
  have J35 : ∀ (v1 : Int32) (v2 : Int32) (v3 : Int32) (v4 : Int64) (v6 : Int64) (v8 : Int32), P_X11_compare_L35 a0 v1 v2 v3 v4 v6 v8 σ Q → XA g 35 [(0, va_rf (some a0)), (1, .int v1), (2, .int v2), (3, .int v3), (4, .long v4), (6, .long v6), (8, .int v8)] [] σ (0, 0) := by
    intro v1 v2 v3 v4 v6 v8 h
    unfold P_X11_compare_L35 at h
    obtain ⟨I35, ⟨n35, hI35⟩, hs35⟩ := h
    have key35 : ∀ (n : Nat), ∀ (v3 : Int32) (v4 : Int64) (v6 : Int64) (v8 : Int32), I35 n v3 v4 v6 v8 → XA g 35 [(0, va_rf (some a0)), (1, .int v1), (2, .int v2), (3, .int v3), (4, .long v4), (6, .long v6), (8, .int v8)] [] σ (0, 0) := by
      intro n
      induction n using Nat.strongRecOn with
      | _ n ih35 =>
      intro v3 v4 v6 v8 hI
      have h := hs35 n v3 v4 v6 v8 hI
      clear hI hI35 hs35
      obtain ⟨K35, hK35⟩ : ∃ K : Int32 → Int64 → Int64 → Int32 → Prop, K = (fun v3 v4 v6 v8 => ∃ n', n' < n ∧ I35 n' v3 v4 v6 v8) := ⟨_, rfl⟩
      rw [← hK35] at h
      unfold P_X11_compare_L35b at h
      have J104 : ∀ (v3 : Int32) (v4 : Int64) (v6 : Int64) (v8 : Int32), P_X11_compare_B104 a0 v1 v2 v3 v4 v6 v8 σ Q K35 → XA g 104 [(0, va_rf (some a0)), (1, .int v1), (2, .int v2), (3, .int v3), (4, .long v4), (6, .long v6), (8, .int v8)] [] σ (0, 0) := by
        intro v3 v4 v6 v8 h
        unfold P_X11_compare_B104 at h
        obtain ⟨x35, e36⟩ : ∃ y : Int32, y = v8 + 1 := ⟨_, rfl⟩
        replace h := h x35 e36
        refine y_iinc (v := x35) (lv' := [(8, .int x35), (0, va_rf (some a0)), (1, .int v1), (2, .int v2), (3, .int v3), (4, .long v4), (6, .long v6)]) hg 6 dX11_compare_104 rfl (by rw [e36]; rfl) (by rw [hgN]; decide) rfl ?_
        refine y_goto (tgt := 35) hg dX11_compare_107 (by decide) ?_
        refine y_sub [1, 2, 3, 4, 5, 6, 0] rfl ?_
        subst hK35
        obtain ⟨n37, h38, h⟩ := h
        exact ih35 n37 h38 _ _ _ _ h
      have J66 : ∀ (v3 : Int32) (v4 : Int64) (v6 : Int64) (v8 : Int32) (w0 : Int32), P_X11_compare_B66 a0 v1 v2 v3 v4 v6 v8 w0 σ Q K35 → XA g 66 [(0, va_rf (some a0)), (1, .int v1), (2, .int v2), (3, .int v3), (4, .long v4), (6, .long v6), (8, .int v8)] [.int w0] σ (0, 0) := by
        intro v3 v4 v6 v8 w0 h
        unfold P_X11_compare_B66 at h
        refine y_istore (lv' := [(9, .int w0), (0, va_rf (some a0)), (1, .int v1), (2, .int v2), (3, .int v3), (4, .long v4), (6, .long v6), (8, .int v8)]) hg dX11_compare_66 (by rw [hgN]; decide) rfl ?_
        refine y_iload hg 0 dX11_compare_68 rfl ?_
        refine y_iconst (v := (-1)) hg dX11_compare_70 (by decide) ?_
        refine y_icmp_ne (tgt := 77) hg dX11_compare_71 (by decide) (fun q18 => ?_) (fun q18 => ?_)
        · replace h := h.2 q18
          obtain ⟨x19, e20⟩ : ∃ y : Int32, y = v3 + 1 := ⟨_, rfl⟩
          replace h := h x19 e20
          refine y_iinc (v := x19) (lv' := [(3, .int x19), (9, .int w0), (0, va_rf (some a0)), (1, .int v1), (2, .int v2), (4, .long v4), (6, .long v6), (8, .int v8)]) hg 4 dX11_compare_77 rfl (by rw [e20]; rfl) (by rw [hgN]; decide) rfl ?_
          refine y_lload hg 5 dX11_compare_80 rfl ?_
          refine y_aload_n hg 2 dX11_compare_82 rfl rfl ?_
          obtain ⟨h21, h⟩ := h
          refine y_getR hg fl_X11_120 rfl rfl h21 dX11_compare_83 ?_
          refine y_iload hg 1 dX11_compare_86 rfl ?_
          obtain ⟨c22, h23, h⟩ := h
          obtain ⟨h24, h⟩ := h
          obtain ⟨h25, h⟩ := h
          refine y_lald hg h23 h24 h25 dX11_compare_88 ?_
          refine y_ladd hg dX11_compare_89 ?_
          refine y_nmJ (fun x26 e27 => ?_)
          replace h := h x26 e27
          refine y_lstore (lv' := [(4, .long x26), (3, .int x19), (9, .int w0), (0, va_rf (some a0)), (1, .int v1), (2, .int v2), (6, .long v6), (8, .int v8)]) hg dX11_compare_90 (by rw [hgN]; decide) rfl ?_
          refine y_lload hg 6 dX11_compare_92 rfl ?_
          refine y_aload_n hg 3 dX11_compare_94 rfl rfl ?_
          refine y_getR hg fl_X11_120 rfl rfl h21 dX11_compare_95 ?_
          refine y_iload hg 7 dX11_compare_98 rfl ?_
          obtain ⟨c28, h29, h⟩ := h
          obtain ⟨h30, h⟩ := h
          obtain ⟨h31, h⟩ := h
          refine y_lald hg h29 h30 h31 dX11_compare_100 ?_
          refine y_ladd hg dX11_compare_101 ?_
          refine y_nmJ (fun x32 e33 => ?_)
          replace h := h x32 e33
          refine y_lstore (lv' := [(6, .long x32), (4, .long x26), (3, .int x19), (9, .int w0), (0, va_rf (some a0)), (1, .int v1), (2, .int v2), (8, .int v8)]) hg dX11_compare_102 (by rw [hgN]; decide) rfl ?_
          refine y_sub [4, 5, 6, 2, 1, 0, 7] rfl ?_
          exact J104 _ _ _ _ h
        · replace h := h.1 q18
          refine y_goto (tgt := 104) hg dX11_compare_74 (by decide) ?_
          refine y_sub [1, 2, 3, 4, 5, 6, 7] rfl ?_
          exact J104 _ _ _ _ h
      refine y_iload hg 6 dX11_compare_35 rfl ?_
      refine y_aload_n hg 0 dX11_compare_37 rfl rfl ?_
      obtain ⟨h5, h⟩ := h
      refine y_getI hg fl_X11_295 rfl rfl h5 dX11_compare_38 ?_
      refine y_icmp_ge (tgt := 110) hg dX11_compare_41 (by decide) (fun q6 => ?_) (fun q6 => ?_)
      · replace h := h.1 q6
        refine y_iload_n hg 2 dX11_compare_110 rfl rfl ?_
        refine y_if_ne (tgt := 119) hg dX11_compare_111 (by decide) (fun q7 => ?_) (fun q7 => ?_)
        · replace h := h.2 q7
          refine y_iload_n hg 2 dX11_compare_119 rfl rfl ?_
          refine y_iconst (v := 1) hg dX11_compare_120 (by decide) ?_
          refine y_icmp_ne (tgt := 129) hg dX11_compare_121 (by decide) (fun q8 => ?_) (fun q8 => ?_)
          · replace h := h.2 q8
            refine y_iload_n hg 2 dX11_compare_129 rfl rfl ?_
            refine y_iconst (v := 2) hg dX11_compare_130 (by decide) ?_
            refine y_icmp_ne (tgt := 139) hg dX11_compare_131 (by decide) (fun q9 => ?_) (fun q9 => ?_)
            · replace h := h.2 q9
              refine y_lload hg 4 dX11_compare_139 rfl ?_
              refine y_lload hg 5 dX11_compare_141 rfl ?_
              refine y_lsub hg dX11_compare_143 ?_
              refine y_ldc2 hg cw_X11_327 dX11_compare_144 ?_
              refine y_lmul hg dX11_compare_147 ?_
              refine y_aload_n hg 0 dX11_compare_148 rfl rfl ?_
              refine y_bipush (v := 12) hg dX11_compare_149 (by decide) ?_
              refine yVIP (Qp := _) (rest := [.long ((v4 - v6) * 100)]) (As := [.int 12]) hg (k_X11_now (gL g.1) (gD g.1) a0 12 σ _ h) lv_X11_209 rfl h5 rfl rfl dX11_compare_151 (cat8 (Nat.le_of_ble_eq_true rfl)) hrm ⟨Nat.le_of_ble_eq_true rfl, Nat.le_of_ble_eq_true rfl⟩ (fun x10 h => ?_)
              refine y_i2l hg dX11_compare_154 ?_
              refine y_lload hg 4 dX11_compare_155 rfl ?_
              refine y_lmul hg dX11_compare_157 ?_
              refine y_lcmp hg dX11_compare_158 ?_
              refine y_if_le (tgt := 166) hg dX11_compare_159 (by decide) (fun q11 => ?_) (fun q11 => ?_)
              · replace h := h.1 ((lg_cmp_le _ _).mp q11)
                refine y_iconst (v := 0) hg dX11_compare_166 (by decide) ?_
                refine y_sub [0] rfl ?_
                exact J167 _ h
              · replace h := h.2 (fun z => q11 ((lg_cmp_le _ _).mpr z))
                refine y_iconst (v := 1) hg dX11_compare_162 (by decide) ?_
                refine y_goto (tgt := 167) hg dX11_compare_163 (by decide) ?_
                refine y_sub [0] rfl ?_
                exact J167 _ h
            · replace h := h.1 q9
              refine y_lload hg 5 dX11_compare_134 rfl ?_
              refine y_goto (tgt := 171) hg dX11_compare_136 (by decide) ?_
              exact yEndL hend dX11_compare_171 ⟨h, rfl⟩
          · replace h := h.1 q8
            refine y_lload hg 4 dX11_compare_124 rfl ?_
            refine y_goto (tgt := 171) hg dX11_compare_126 (by decide) ?_
            exact yEndL hend dX11_compare_171 ⟨h, rfl⟩
        · replace h := h.1 q7
          refine y_iload_n hg 3 dX11_compare_114 rfl rfl ?_
          refine y_i2l hg dX11_compare_115 ?_
          refine y_goto (tgt := 171) hg dX11_compare_116 (by decide) ?_
          exact yEndL hend dX11_compare_171 ⟨h, rfl⟩
      · replace h := h.2 q6
        refine y_aload_n hg 0 dX11_compare_44 rfl rfl ?_
        refine y_getR hg fl_X11_132 rfl rfl h5 dX11_compare_45 ?_
        refine y_iload hg 6 dX11_compare_48 rfl ?_
        obtain ⟨c12, h13, h⟩ := h
        obtain ⟨h14, h⟩ := h
        obtain ⟨h15, h⟩ := h
        refine y_iald hg h13 h14 h15 dX11_compare_50 ?_
        refine y_iload_n hg 1 dX11_compare_51 rfl rfl ?_
        refine y_icmp_ge (tgt := 59) hg dX11_compare_52 (by decide) (fun q16 => ?_) (fun q16 => ?_)
        · replace h := h.1 q16
          refine y_aload_n hg 0 dX11_compare_59 rfl rfl ?_
          refine y_iload hg 6 dX11_compare_60 rfl ?_
          refine y_iload_n hg 1 dX11_compare_62 rfl rfl ?_
          refine yVIP (Qp := _) (rest := []) (As := [.int v8, .int v1]) hg (k_X11_like (gL g.1) (gD g.1) a0 v8 v1 σ _ h) lv_X11_329 rfl h5 rfl rfl dX11_compare_63 (cat8 (Nat.le_of_ble_eq_true rfl)) hrm ⟨Nat.le_of_ble_eq_true rfl, Nat.le_of_ble_eq_true rfl⟩ (fun x17 h => ?_)
          refine y_sub [0, 1, 2, 3, 4, 5, 6] rfl ?_
          exact J66 _ _ _ _ _ h
        · replace h := h.2 q16
          refine y_iconst (v := (-1)) hg dX11_compare_55 (by decide) ?_
          refine y_goto (tgt := 66) hg dX11_compare_56 (by decide) ?_
          refine y_sub [0, 1, 2, 3, 4, 5, 6] rfl ?_
          exact J66 _ _ _ _ _ h
    exact key35 n35 v3 v4 v6 v8 hI35
  refine y_iload_n hg 1 dX11_compare_0 rfl rfl ?_
  refine y_iconst (v := 0) hg dX11_compare_1 (by decide) ?_
  refine y_sipush (v := 3649) hg dX11_compare_2 (by decide) ?_
  refine ySIP (Qp := _) (rest := []) (As := [.int v1, .int 0, .int 3649]) hg (k_X11_isIn (gL g.1) (gD g.1) v1 0 3649 σ _ h) ls_X11_194 rfl rfl dX11_compare_5 (cat8 (Nat.le_of_ble_eq_true rfl)) hrm ⟨Nat.le_of_ble_eq_true rfl, Nat.le_of_ble_eq_true rfl⟩ (fun x1 h => ?_)
  refine y_if_eq (tgt := 20) hg dX11_compare_8 (by decide) (fun q2 => ?_) (fun q2 => ?_)
  · replace h := h.1 q2
    refine y_ldc2 hg cw_X11_313 dX11_compare_20 ?_
    exact yEndL hend dX11_compare_23 ⟨h, rfl⟩
  · replace h := h.2 q2
    refine y_iload_n hg 2 dX11_compare_11 rfl rfl ?_
    refine y_iconst (v := 0) hg dX11_compare_12 (by decide) ?_
    refine y_iconst (v := 3) hg dX11_compare_13 (by decide) ?_
    refine ySIP (Qp := _) (rest := []) (As := [.int v2, .int 0, .int 3]) hg (k_X11_isIn (gL g.1) (gD g.1) v2 0 3 σ _ h) ls_X11_194 rfl rfl dX11_compare_14 (cat8 (Nat.le_of_ble_eq_true rfl)) hrm ⟨Nat.le_of_ble_eq_true rfl, Nat.le_of_ble_eq_true rfl⟩ (fun x3 h => ?_)
    refine y_if_ne (tgt := 24) hg dX11_compare_17 (by decide) (fun q4 => ?_) (fun q4 => ?_)
    · replace h := h.2 q4
      refine y_iconst (v := 0) hg dX11_compare_24 (by decide) ?_
      refine y_istore_n (lv' := [(3, .int 0), (0, va_rf (some a0)), (1, .int v1), (2, .int v2)]) hg dX11_compare_25 rfl (by rw [hgN]; decide) rfl ?_
      refine y_lconst (v := 0) hg dX11_compare_26 (by decide) ?_
      refine y_lstore (lv' := [(4, .long 0), (3, .int 0), (0, va_rf (some a0)), (1, .int v1), (2, .int v2)]) hg dX11_compare_27 (by rw [hgN]; decide) rfl ?_
      refine y_lconst (v := 0) hg dX11_compare_29 (by decide) ?_
      refine y_lstore (lv' := [(6, .long 0), (4, .long 0), (3, .int 0), (0, va_rf (some a0)), (1, .int v1), (2, .int v2)]) hg dX11_compare_30 (by rw [hgN]; decide) rfl ?_
      refine y_iconst (v := 0) hg dX11_compare_32 (by decide) ?_
      refine y_istore (lv' := [(8, .int 0), (6, .long 0), (4, .long 0), (3, .int 0), (0, va_rf (some a0)), (1, .int v1), (2, .int v2)]) hg dX11_compare_33 (by rw [hgN]; decide) rfl ?_
      refine y_sub [4, 5, 6, 3, 2, 1, 0] rfl ?_
      exact J35 _ _ _ _ _ _ h
    · replace h := h.1 q4
      refine y_ldc2 hg cw_X11_313 dX11_compare_20 ?_
      exact yEndL hend dX11_compare_23 ⟨h, rfl⟩
def P_X11_crew_B202 (a0 : Nat) (v1 : Int32) (v2 : Int32) (v3 : Int32) (v4 : Int32) (v5 : Int32) (v6 : Int32) (σ : Sg) (Q : Int32 → Prop) (K32 : Int32 → Int32 → Int32 → Int32 → Prop) : Prop :=
  ∀ x45 : Int32, x45 = v6 + 1 → K32 v3 v4 v5 x45
def P_X11_crew_B148 (a0 : Nat) (v1 : Int32) (v2 : Int32) (v3 : Int32) (v4 : Int32) (v5 : Int32) (v6 : Int32) (v7 : Int32) (v8 : Int32) (v9 : Int32) (v10 : Int32) (σ : Sg) (Q : Int32 → Prop) (K32 : Int32 → Int32 → Int32 → Int32 → Prop) (K55 : Int32 → Int32 → Int32 → Int32 → Prop) : Prop :=
  ∀ x41 : Int32, x41 = v10 + 1 → K55 v7 v8 v9 x41
def P_X11_crew_B97 (a0 : Nat) (v1 : Int32) (v2 : Int32) (v3 : Int32) (v4 : Int32) (v5 : Int32) (v6 : Int32) (v7 : Int32) (v8 : Int32) (v10 : Int32) (w0 : Int32) (σ : Sg) (Q : Int32 → Prop) (K32 : Int32 → Int32 → Int32 → Int32 → Prop) (K55 : Int32 → Int32 → Int32 → Int32 → Prop) : Prop :=
  sK σ a0 % 32 = 13 ∧ ∃ c26 : Nat, sR σ a0 12 = some c26 ∧ sK σ c26 % 32 = 18 ∧ vp_in v10 (sN σ c26) ∧ ((sI σ c26 v10.toNatClampNeg) = 0 → P_X11_crew_B148 a0 v1 v2 v3 v4 v5 v6 v7 v8 w0 v10 σ Q K32 K55) ∧ (¬ ((sI σ c26 v10.toNatClampNeg) = 0) → ∃ c31 : Nat, sR σ a0 18 = some c31 ∧ sK σ c31 % 32 = 16 ∧ vp_in v10 (sN σ c31) ∧ ∀ x35 : Int32, x35 = (if (0 : Int32) < ((sI σ c31 v10.toNatClampNeg) - 30) then ((sI σ c31 v10.toNatClampNeg) - 30) else (0 : Int32)) → P_X11_drinkBy a0 v10 x35 σ (fun x37 => P_X11_drink a0 v10 σ (fun x38 => ∀ x39 : Int32, x39 = v7 + (x37 - x38) → P_X11_crew_B148 a0 v1 v2 v3 v4 v5 v6 x39 v10 w0 v10 σ Q K32 K55)))
def P_X11_crew_B96 (a0 : Nat) (v1 : Int32) (v2 : Int32) (v3 : Int32) (v4 : Int32) (v5 : Int32) (v6 : Int32) (v7 : Int32) (v8 : Int32) (v10 : Int32) (σ : Sg) (Q : Int32 → Prop) (K32 : Int32 → Int32 → Int32 → Int32 → Prop) (K55 : Int32 → Int32 → Int32 → Int32 → Prop) : Prop :=
  P_X11_crew_B97 a0 v1 v2 v3 v4 v5 v6 v7 v8 v10 0 σ Q K32 K55
def P_X11_crew_L55b (a0 : Nat) (v1 : Int32) (v2 : Int32) (v3 : Int32) (v4 : Int32) (v5 : Int32) (v6 : Int32) (v7 : Int32) (v8 : Int32) (v9 : Int32) (v10 : Int32) (σ : Sg) (Q : Int32 → Prop) (K32 : Int32 → Int32 → Int32 → Int32 → Prop) (K55 : Int32 → Int32 → Int32 → Int32 → Prop) : Prop :=
  sK σ a0 % 32 = 13 ∧ ((sI σ a0 1) ≤ v10 → (v9 = 0 → P_X11_crew_B202 a0 v1 v2 v3 v4 v5 v6 σ Q K32) ∧ (¬ (v9 = 0) → P_X11_bits v6 σ (fun x12 => (v1 < (v8 + (2 * x12)) → P_X11_crew_B202 a0 v1 v2 v3 v4 v5 v6 σ Q K32) ∧ (¬ (v1 < (v8 + (2 * x12))) → (v4 < v7 → P_X11_bits v6 σ (fun x15 => ∀ x16 : Int32, x16 = v8 + (2 * x15) → P_X11_crew_B202 a0 v1 v2 v6 v7 x16 v6 σ Q K32)) ∧ (¬ (v4 < v7) → P_X11_crew_B202 a0 v1 v2 v3 v4 v5 v6 σ Q K32))))) ∧ (¬ ((sI σ a0 1) ≤ v10) → (((v6 >>> (v10 &&& 31)) &&& 1) = 0 → P_X11_crew_B148 a0 v1 v2 v3 v4 v5 v6 v7 v8 v9 v10 σ Q K32 K55) ∧ (¬ (((v6 >>> (v10 &&& 31)) &&& 1) = 0) → (v9 = 0 → P_X11_crew_B96 a0 v1 v2 v3 v4 v5 v6 v7 v8 v10 σ Q K32 K55) ∧ (¬ (v9 = 0) → ∃ c20 : Nat, sR σ a0 12 = some c20 ∧ sK σ c20 % 32 = 18 ∧ vp_in v10 (sN σ c20) ∧ ((sI σ c20 v10.toNatClampNeg) = 0 → P_X11_crew_B96 a0 v1 v2 v3 v4 v5 v6 v7 v8 v10 σ Q K32 K55) ∧ (¬ ((sI σ c20 v10.toNatClampNeg) = 0) → P_X11_crew_B97 a0 v1 v2 v3 v4 v5 v6 v7 v8 v10 1 σ Q K32 K55))))
def P_X11_crew_L55 (a0 : Nat) (v1 : Int32) (v2 : Int32) (v3 : Int32) (v4 : Int32) (v5 : Int32) (v6 : Int32) (v7 : Int32) (v8 : Int32) (v9 : Int32) (v10 : Int32) (σ : Sg) (Q : Int32 → Prop) (K32 : Int32 → Int32 → Int32 → Int32 → Prop) : Prop :=
  ∃ I : Nat → Int32 → Int32 → Int32 → Int32 → Prop, (∃ n, I n v7 v8 v9 v10) ∧ ∀ (n : Nat) (v7 : Int32) (v8 : Int32) (v9 : Int32) (v10 : Int32), I n v7 v8 v9 v10 → P_X11_crew_L55b a0 v1 v2 v3 v4 v5 v6 v7 v8 v9 v10 σ Q K32 (fun v7 v8 v9 v10 => ∃ n', n' < n ∧ I n' v7 v8 v9 v10)
def P_X11_crew_L32b (a0 : Nat) (v1 : Int32) (v2 : Int32) (v3 : Int32) (v4 : Int32) (v5 : Int32) (v6 : Int32) (σ : Sg) (Q : Int32 → Prop) (K32 : Int32 → Int32 → Int32 → Int32 → Prop) : Prop :=
  sK σ a0 % 32 = 13 ∧ ((1 <<< ((sI σ a0 1) &&& 31)) ≤ v6 → (v2 = 0 → Q v4) ∧ (¬ (v2 = 0) → (v2 = 1 → Q v3) ∧ (¬ (v2 = 1) → Q v5))) ∧ (¬ ((1 <<< ((sI σ a0 1) &&& 31)) ≤ v6) → P_X11_crew_L55 a0 v1 v2 v3 v4 v5 v6 0 0 1 0 σ Q K32)
def P_X11_crew_L32 (a0 : Nat) (v1 : Int32) (v2 : Int32) (v3 : Int32) (v4 : Int32) (v5 : Int32) (v6 : Int32) (σ : Sg) (Q : Int32 → Prop) : Prop :=
  ∃ I : Nat → Int32 → Int32 → Int32 → Int32 → Prop, (∃ n, I n v3 v4 v5 v6) ∧ ∀ (n : Nat) (v3 : Int32) (v4 : Int32) (v5 : Int32) (v6 : Int32), I n v3 v4 v5 v6 → P_X11_crew_L32b a0 v1 v2 v3 v4 v5 v6 σ Q (fun v3 v4 v5 v6 => ∃ n', n' < n ∧ I n' v3 v4 v5 v6)
def P_X11_crew (a0 : Nat) (v1 : Int32) (v2 : Int32) (σ : Sg) (Q : Int32 → Prop) : Prop :=
  P_X11_isIn v1 0 60 σ (fun x1 => (x1 = 0 → Q (-1)) ∧ (¬ (x1 = 0) → P_X11_isIn v2 0 2 σ (fun x3 => (x3 = 0 → Q (-1)) ∧ (¬ (x3 = 0) → P_X11_crew_L32 a0 v1 v2 0 0 0 1 σ Q))))
set_option maxHeartbeats 4000000 in
set_option maxRecDepth 100000 in
theorem k_X11_crew (l : Launch) (D : Dg) (a0 : Nat) (v1 : Int32) (v2 : Int32) (σ : Sg) (Q : Int32 → Prop) (h : P_X11_crew a0 v1 v2 σ Q) : CtrY RN l D yX11_crew cX11_crew 11 (some FieldType.int) 2 43 mkI [.ref a0, .int v1, .int v2] σ (0, 0) (fun r σ2 => Q r ∧ σ2 = σ) := by
  refine y_ctrN (lv := [(0, va_rf (some a0)), (1, .int v1), (2, .int v2)]) (by decide) (by (exact Nat.le_of_ble_eq_true rfl)) (by (exact rfl)) (fun g hg hgL hgD hrm hgN hgI hend => ?_)
  subst hgD
  clear hgL
  unfold P_X11_crew at h
  have J32 : ∀ (v1 : Int32) (v2 : Int32) (v3 : Int32) (v4 : Int32) (v5 : Int32) (v6 : Int32), P_X11_crew_L32 a0 v1 v2 v3 v4 v5 v6 σ Q → XA g 32 [(0, va_rf (some a0)), (1, .int v1), (2, .int v2), (3, .int v3), (4, .int v4), (5, .int v5), (6, .int v6)] [] σ (0, 0) := by
    intro v1 v2 v3 v4 v5 v6 h
    unfold P_X11_crew_L32 at h
    obtain ⟨I32, ⟨n32, hI32⟩, hs32⟩ := h
    have key32 : ∀ (n : Nat), ∀ (v3 : Int32) (v4 : Int32) (v5 : Int32) (v6 : Int32), I32 n v3 v4 v5 v6 → XA g 32 [(0, va_rf (some a0)), (1, .int v1), (2, .int v2), (3, .int v3), (4, .int v4), (5, .int v5), (6, .int v6)] [] σ (0, 0) := by
      intro n
      induction n using Nat.strongRecOn with
      | _ n ih32 =>
      intro v3 v4 v5 v6 hI
      have h := hs32 n v3 v4 v5 v6 hI
      clear hI hI32 hs32
      obtain ⟨K32, hK32⟩ : ∃ K : Int32 → Int32 → Int32 → Int32 → Prop, K = (fun v3 v4 v5 v6 => ∃ n', n' < n ∧ I32 n' v3 v4 v5 v6) := ⟨_, rfl⟩
      rw [← hK32] at h
      unfold P_X11_crew_L32b at h
      have J202 : ∀ (v3 : Int32) (v4 : Int32) (v5 : Int32) (v6 : Int32), P_X11_crew_B202 a0 v1 v2 v3 v4 v5 v6 σ Q K32 → XA g 202 [(0, va_rf (some a0)), (1, .int v1), (2, .int v2), (3, .int v3), (4, .int v4), (5, .int v5), (6, .int v6)] [] σ (0, 0) := by
        intro v3 v4 v5 v6 h
        unfold P_X11_crew_B202 at h
        obtain ⟨x45, e46⟩ : ∃ y : Int32, y = v6 + 1 := ⟨_, rfl⟩
        replace h := h x45 e46
        refine y_iinc (v := x45) (lv' := [(6, .int x45), (0, va_rf (some a0)), (1, .int v1), (2, .int v2), (3, .int v3), (4, .int v4), (5, .int v5)]) hg 6 dX11_crew_202 rfl (by rw [e46]; rfl) (by rw [hgN]; decide) rfl ?_
        refine y_goto (tgt := 32) hg dX11_crew_205 (by decide) ?_
        refine y_sub [1, 2, 3, 4, 5, 6, 0] rfl ?_
        subst hK32
        obtain ⟨n47, h48, h⟩ := h
        exact ih32 n47 h48 _ _ _ _ h
      have J55 : ∀ (v3 : Int32) (v4 : Int32) (v5 : Int32) (v6 : Int32) (v7 : Int32) (v8 : Int32) (v9 : Int32) (v10 : Int32), P_X11_crew_L55 a0 v1 v2 v3 v4 v5 v6 v7 v8 v9 v10 σ Q K32 → XA g 55 [(0, va_rf (some a0)), (1, .int v1), (2, .int v2), (3, .int v3), (4, .int v4), (5, .int v5), (6, .int v6), (7, .int v7), (8, .int v8), (9, .int v9), (10, .int v10)] [] σ (0, 0) := by
        intro v3 v4 v5 v6 v7 v8 v9 v10 h
        unfold P_X11_crew_L55 at h
        obtain ⟨I55, ⟨n55, hI55⟩, hs55⟩ := h
        have key55 : ∀ (n : Nat), ∀ (v7 : Int32) (v8 : Int32) (v9 : Int32) (v10 : Int32), I55 n v7 v8 v9 v10 → XA g 55 [(0, va_rf (some a0)), (1, .int v1), (2, .int v2), (3, .int v3), (4, .int v4), (5, .int v5), (6, .int v6), (7, .int v7), (8, .int v8), (9, .int v9), (10, .int v10)] [] σ (0, 0) := by
          intro n
          induction n using Nat.strongRecOn with
          | _ n ih55 =>
          intro v7 v8 v9 v10 hI
          have h := hs55 n v7 v8 v9 v10 hI
          clear hI hI55 hs55
          obtain ⟨K55, hK55⟩ : ∃ K : Int32 → Int32 → Int32 → Int32 → Prop, K = (fun v7 v8 v9 v10 => ∃ n', n' < n ∧ I55 n' v7 v8 v9 v10) := ⟨_, rfl⟩
          rw [← hK55] at h
          unfold P_X11_crew_L55b at h
          have J148 : ∀ (v7 : Int32) (v8 : Int32) (v9 : Int32) (v10 : Int32), P_X11_crew_B148 a0 v1 v2 v3 v4 v5 v6 v7 v8 v9 v10 σ Q K32 K55 → XA g 148 [(0, va_rf (some a0)), (1, .int v1), (2, .int v2), (3, .int v3), (4, .int v4), (5, .int v5), (6, .int v6), (7, .int v7), (8, .int v8), (9, .int v9), (10, .int v10)] [] σ (0, 0) := by
            intro v7 v8 v9 v10 h
            unfold P_X11_crew_B148 at h
            obtain ⟨x41, e42⟩ : ∃ y : Int32, y = v10 + 1 := ⟨_, rfl⟩
            replace h := h x41 e42
            refine y_iinc (v := x41) (lv' := [(10, .int x41), (0, va_rf (some a0)), (1, .int v1), (2, .int v2), (3, .int v3), (4, .int v4), (5, .int v5), (6, .int v6), (7, .int v7), (8, .int v8), (9, .int v9)]) hg 10 dX11_crew_148 rfl (by rw [e42]; rfl) (by rw [hgN]; decide) rfl ?_
            refine y_goto (tgt := 55) hg dX11_crew_151 (by decide) ?_
            refine y_sub [1, 2, 3, 4, 5, 6, 7, 8, 9, 10, 0] rfl ?_
            subst hK55
            obtain ⟨n43, h44, h⟩ := h
            exact ih55 n43 h44 _ _ _ _ h
          have J97 : ∀ (v7 : Int32) (v8 : Int32) (v10 : Int32) (w0 : Int32), P_X11_crew_B97 a0 v1 v2 v3 v4 v5 v6 v7 v8 v10 w0 σ Q K32 K55 → XA g 97 [(0, va_rf (some a0)), (1, .int v1), (2, .int v2), (3, .int v3), (4, .int v4), (5, .int v5), (6, .int v6), (7, .int v7), (8, .int v8), (10, .int v10)] [.int w0] σ (0, 0) := by
            intro v7 v8 v10 w0 h
            unfold P_X11_crew_B97 at h
            refine y_istore (lv' := [(9, .int w0), (0, va_rf (some a0)), (1, .int v1), (2, .int v2), (3, .int v3), (4, .int v4), (5, .int v5), (6, .int v6), (7, .int v7), (8, .int v8), (10, .int v10)]) hg dX11_crew_97 (by rw [hgN]; decide) rfl ?_
            refine y_aload_n hg 1 dX11_crew_99 rfl rfl ?_
            obtain ⟨h25, h⟩ := h
            refine y_getR hg fl_X11_25 rfl rfl h25 dX11_crew_100 ?_
            refine y_iload hg 10 dX11_crew_103 rfl ?_
            obtain ⟨c26, h27, h⟩ := h
            obtain ⟨h28, h⟩ := h
            obtain ⟨h29, h⟩ := h
            refine y_zald hg h27 h28 h29 dX11_crew_105 ?_
            refine y_if_ne (tgt := 112) hg dX11_crew_106 (by decide) (fun q30 => ?_) (fun q30 => ?_)
            · replace h := h.2 q30
              refine y_iload hg 10 dX11_crew_112 rfl ?_
              refine y_istore (lv' := [(8, .int v10), (9, .int w0), (0, va_rf (some a0)), (1, .int v1), (2, .int v2), (3, .int v3), (4, .int v4), (5, .int v5), (6, .int v6), (7, .int v7), (10, .int v10)]) hg dX11_crew_114 (by rw [hgN]; decide) rfl ?_
              refine y_iload hg 9 dX11_crew_116 rfl ?_
              refine y_aload_n hg 2 dX11_crew_118 rfl rfl ?_
              refine y_iload hg 10 dX11_crew_119 rfl ?_
              refine y_iconst (v := 0) hg dX11_crew_121 (by decide) ?_
              refine y_aload_n hg 2 dX11_crew_122 rfl rfl ?_
              refine y_getR hg fl_X11_44 rfl rfl h25 dX11_crew_123 ?_
              refine y_iload hg 10 dX11_crew_126 rfl ?_
              obtain ⟨c31, h32, h⟩ := h
              obtain ⟨h33, h⟩ := h
              obtain ⟨h34, h⟩ := h
              refine y_iald hg h32 h33 h34 dX11_crew_128 ?_
              refine y_bipush (v := 30) hg dX11_crew_129 (by decide) ?_
              refine y_isub hg dX11_crew_131 ?_
              refine y_mmax hg mm_X11_222 (cat8 (Nat.le_of_ble_eq_true rfl)) hrm ⟨Nat.le_of_ble_eq_true rfl, Nat.le_of_ble_eq_true rfl⟩ dX11_crew_132 ?_
              refine y_nmI (fun x35 e36 => ?_)
              replace h := h x35 e36
              refine yVIP (Qp := _) (rest := [.int v7]) (As := [.int v10, .int x35]) hg (k_X11_drinkBy (gL g.1) (gD g.1) a0 v10 x35 σ _ h) lv_X11_215 rfl h25 rfl rfl dX11_crew_135 (cat8 (Nat.le_of_ble_eq_true rfl)) hrm ⟨Nat.le_of_ble_eq_true rfl, Nat.le_of_ble_eq_true rfl⟩ (fun x37 h => ?_)
              refine y_aload_n hg 2 dX11_crew_138 rfl rfl ?_
              refine y_iload hg 10 dX11_crew_139 rfl ?_
              refine yVIP (Qp := _) (rest := [.int x37, .int v7]) (As := [.int v10]) hg (k_X11_drink (gL g.1) (gD g.1) a0 v10 σ _ h) lv_X11_230 rfl h25 rfl rfl dX11_crew_141 (cat8 (Nat.le_of_ble_eq_true rfl)) hrm ⟨Nat.le_of_ble_eq_true rfl, Nat.le_of_ble_eq_true rfl⟩ (fun x38 h => ?_)
              refine y_isub hg dX11_crew_144 ?_
              refine y_iadd hg dX11_crew_145 ?_
              refine y_nmI (fun x39 e40 => ?_)
              replace h := h x39 e40
              refine y_istore (lv' := [(7, .int x39), (8, .int v10), (9, .int w0), (0, va_rf (some a0)), (1, .int v1), (2, .int v2), (3, .int v3), (4, .int v4), (5, .int v5), (6, .int v6), (10, .int v10)]) hg dX11_crew_146 (by rw [hgN]; decide) rfl ?_
              refine y_sub [3, 4, 5, 6, 7, 8, 9, 0, 1, 2, 10] rfl ?_
              exact J148 _ _ _ _ h
            · replace h := h.1 q30
              refine y_goto (tgt := 148) hg dX11_crew_109 (by decide) ?_
              refine y_sub [1, 2, 3, 4, 5, 6, 7, 8, 9, 0, 10] rfl ?_
              exact J148 _ _ _ _ h
          have J96 : ∀ (v7 : Int32) (v8 : Int32) (v10 : Int32), P_X11_crew_B96 a0 v1 v2 v3 v4 v5 v6 v7 v8 v10 σ Q K32 K55 → XA g 96 [(0, va_rf (some a0)), (1, .int v1), (2, .int v2), (3, .int v3), (4, .int v4), (5, .int v5), (6, .int v6), (7, .int v7), (8, .int v8), (10, .int v10)] [] σ (0, 0) := by
            intro v7 v8 v10 h
            unfold P_X11_crew_B96 at h
            refine y_iconst (v := 0) hg dX11_crew_96 (by decide) ?_
            refine y_sub [0, 1, 2, 3, 4, 5, 6, 7, 8, 9] rfl ?_
            exact J97 _ _ _ _ h
          refine y_iload hg 10 dX11_crew_55 rfl ?_
          refine y_aload_n hg 0 dX11_crew_57 rfl rfl ?_
          obtain ⟨h9, h⟩ := h
          refine y_getI hg fl_X11_191 rfl rfl h9 dX11_crew_58 ?_
          refine y_icmp_ge (tgt := 154) hg dX11_crew_61 (by decide) (fun q10 => ?_) (fun q10 => ?_)
          · replace h := h.1 q10
            refine y_iload hg 9 dX11_crew_154 rfl ?_
            refine y_if_eq (tgt := 202) hg dX11_crew_156 (by decide) (fun q11 => ?_) (fun q11 => ?_)
            · replace h := h.1 q11
              refine y_sub [0, 1, 2, 3, 4, 5, 6] rfl ?_
              exact J202 _ _ _ _ h
            · replace h := h.2 q11
              refine y_iload hg 8 dX11_crew_159 rfl ?_
              refine y_iconst (v := 2) hg dX11_crew_161 (by decide) ?_
              refine y_iload hg 6 dX11_crew_162 rfl ?_
              refine ySIP (Qp := _) (rest := [.int 2, .int v8]) (As := [.int v6]) hg (k_X11_bits (gL g.1) (gD g.1) v6 σ _ h) ls_X11_316 rfl rfl dX11_crew_164 (cat8 (Nat.le_of_ble_eq_true rfl)) hrm ⟨Nat.le_of_ble_eq_true rfl, Nat.le_of_ble_eq_true rfl⟩ (fun x12 h => ?_)
              refine y_imul hg dX11_crew_167 ?_
              refine y_iadd hg dX11_crew_168 ?_
              refine y_iload_n hg 1 dX11_crew_169 rfl rfl ?_
              refine y_icmp_gt (tgt := 202) hg dX11_crew_170 (by decide) (fun q13 => ?_) (fun q13 => ?_)
              · replace h := h.1 q13
                refine y_sub [0, 1, 2, 3, 4, 5, 6] rfl ?_
                exact J202 _ _ _ _ h
              · replace h := h.2 q13
                refine y_iload hg 7 dX11_crew_173 rfl ?_
                refine y_iload hg 4 dX11_crew_175 rfl ?_
                refine y_icmp_gt (tgt := 183) hg dX11_crew_177 (by decide) (fun q14 => ?_) (fun q14 => ?_)
                · replace h := h.1 q14
                  refine y_iload hg 6 dX11_crew_183 rfl ?_
                  refine y_istore_n (lv' := [(3, .int v6), (0, va_rf (some a0)), (1, .int v1), (2, .int v2), (4, .int v4), (5, .int v5), (6, .int v6), (7, .int v7), (8, .int v8), (9, .int v9), (10, .int v10)]) hg dX11_crew_185 rfl (by rw [hgN]; decide) rfl ?_
                  refine y_iload hg 7 dX11_crew_186 rfl ?_
                  refine y_istore (lv' := [(4, .int v7), (3, .int v6), (0, va_rf (some a0)), (1, .int v1), (2, .int v2), (5, .int v5), (6, .int v6), (7, .int v7), (8, .int v8), (9, .int v9), (10, .int v10)]) hg dX11_crew_188 (by rw [hgN]; decide) rfl ?_
                  refine y_iload hg 8 dX11_crew_190 rfl ?_
                  refine y_iconst (v := 2) hg dX11_crew_192 (by decide) ?_
                  refine y_iload hg 6 dX11_crew_193 rfl ?_
                  refine ySIP (Qp := _) (rest := [.int 2, .int v8]) (As := [.int v6]) hg (k_X11_bits (gL g.1) (gD g.1) v6 σ _ h) ls_X11_316 rfl rfl dX11_crew_195 (cat8 (Nat.le_of_ble_eq_true rfl)) hrm ⟨Nat.le_of_ble_eq_true rfl, Nat.le_of_ble_eq_true rfl⟩ (fun x15 h => ?_)
                  refine y_imul hg dX11_crew_198 ?_
                  refine y_iadd hg dX11_crew_199 ?_
                  refine y_nmI (fun x16 e17 => ?_)
                  replace h := h x16 e17
                  refine y_istore (lv' := [(5, .int x16), (4, .int v7), (3, .int v6), (0, va_rf (some a0)), (1, .int v1), (2, .int v2), (6, .int v6), (7, .int v7), (8, .int v8), (9, .int v9), (10, .int v10)]) hg dX11_crew_200 (by rw [hgN]; decide) rfl ?_
                  refine y_sub [3, 4, 5, 2, 1, 0, 6] rfl ?_
                  exact J202 _ _ _ _ h
                · replace h := h.2 q14
                  refine y_goto (tgt := 202) hg dX11_crew_180 (by decide) ?_
                  refine y_sub [0, 1, 2, 3, 4, 5, 6] rfl ?_
                  exact J202 _ _ _ _ h
          · replace h := h.2 q10
            refine y_iload hg 6 dX11_crew_64 rfl ?_
            refine y_iload hg 10 dX11_crew_66 rfl ?_
            refine y_ishr hg dX11_crew_68 ?_
            refine y_iconst (v := 1) hg dX11_crew_69 (by decide) ?_
            refine y_iand hg dX11_crew_70 ?_
            refine y_if_ne (tgt := 77) hg dX11_crew_71 (by decide) (fun q18 => ?_) (fun q18 => ?_)
            · replace h := h.2 q18
              refine y_iload hg 9 dX11_crew_77 rfl ?_
              refine y_if_eq (tgt := 96) hg dX11_crew_79 (by decide) (fun q19 => ?_) (fun q19 => ?_)
              · replace h := h.1 q19
                refine y_sub [0, 1, 2, 3, 4, 5, 6, 7, 8, 10] rfl ?_
                exact J96 _ _ _ h
              · replace h := h.2 q19
                refine y_aload_n hg 0 dX11_crew_82 rfl rfl ?_
                refine y_getR hg fl_X11_25 rfl rfl h9 dX11_crew_83 ?_
                refine y_iload hg 10 dX11_crew_86 rfl ?_
                obtain ⟨c20, h21, h⟩ := h
                obtain ⟨h22, h⟩ := h
                obtain ⟨h23, h⟩ := h
                refine y_zald hg h21 h22 h23 dX11_crew_88 ?_
                refine y_if_eq (tgt := 96) hg dX11_crew_89 (by decide) (fun q24 => ?_) (fun q24 => ?_)
                · replace h := h.1 q24
                  refine y_sub [0, 1, 2, 3, 4, 5, 6, 7, 8, 10] rfl ?_
                  exact J96 _ _ _ h
                · replace h := h.2 q24
                  refine y_iconst (v := 1) hg dX11_crew_92 (by decide) ?_
                  refine y_goto (tgt := 97) hg dX11_crew_93 (by decide) ?_
                  refine y_sub [0, 1, 2, 3, 4, 5, 6, 7, 8, 10] rfl ?_
                  exact J97 _ _ _ _ h
            · replace h := h.1 q18
              refine y_goto (tgt := 148) hg dX11_crew_74 (by decide) ?_
              refine y_sub [0, 1, 2, 3, 4, 5, 6, 7, 8, 9, 10] rfl ?_
              exact J148 _ _ _ _ h
        exact key55 n55 v7 v8 v9 v10 hI55
      refine y_iload hg 6 dX11_crew_32 rfl ?_
      refine y_iconst (v := 1) hg dX11_crew_34 (by decide) ?_
      refine y_aload_n hg 0 dX11_crew_35 rfl rfl ?_
      obtain ⟨h5, h⟩ := h
      refine y_getI hg fl_X11_191 rfl rfl h5 dX11_crew_36 ?_
      refine y_ishl hg dX11_crew_39 ?_
      refine y_icmp_ge (tgt := 208) hg dX11_crew_40 (by decide) (fun q6 => ?_) (fun q6 => ?_)
      · replace h := h.1 q6
        refine y_iload_n hg 2 dX11_crew_208 rfl rfl ?_
        refine y_if_ne (tgt := 217) hg dX11_crew_209 (by decide) (fun q7 => ?_) (fun q7 => ?_)
        · replace h := h.2 q7
          refine y_iload_n hg 2 dX11_crew_217 rfl rfl ?_
          refine y_iconst (v := 1) hg dX11_crew_218 (by decide) ?_
          refine y_icmp_ne (tgt := 226) hg dX11_crew_219 (by decide) (fun q8 => ?_) (fun q8 => ?_)
          · replace h := h.2 q8
            refine y_iload hg 5 dX11_crew_226 rfl ?_
            exact yEndI hend rfl dX11_crew_228 ⟨h, rfl⟩
          · replace h := h.1 q8
            refine y_iload_n hg 3 dX11_crew_222 rfl rfl ?_
            refine y_goto (tgt := 228) hg dX11_crew_223 (by decide) ?_
            exact yEndI hend rfl dX11_crew_228 ⟨h, rfl⟩
        · replace h := h.1 q7
          refine y_iload hg 4 dX11_crew_212 rfl ?_
          refine y_goto (tgt := 228) hg dX11_crew_214 (by decide) ?_
          exact yEndI hend rfl dX11_crew_228 ⟨h, rfl⟩
      · replace h := h.2 q6
        refine y_iconst (v := 0) hg dX11_crew_43 (by decide) ?_
        refine y_istore (lv' := [(7, .int 0), (0, va_rf (some a0)), (1, .int v1), (2, .int v2), (3, .int v3), (4, .int v4), (5, .int v5), (6, .int v6)]) hg dX11_crew_44 (by rw [hgN]; decide) rfl ?_
        refine y_iconst (v := 0) hg dX11_crew_46 (by decide) ?_
        refine y_istore (lv' := [(8, .int 0), (7, .int 0), (0, va_rf (some a0)), (1, .int v1), (2, .int v2), (3, .int v3), (4, .int v4), (5, .int v5), (6, .int v6)]) hg dX11_crew_47 (by rw [hgN]; decide) rfl ?_
        refine y_iconst (v := 1) hg dX11_crew_49 (by decide) ?_
        refine y_istore (lv' := [(9, .int 1), (8, .int 0), (7, .int 0), (0, va_rf (some a0)), (1, .int v1), (2, .int v2), (3, .int v3), (4, .int v4), (5, .int v5), (6, .int v6)]) hg dX11_crew_50 (by rw [hgN]; decide) rfl ?_
        refine y_iconst (v := 0) hg dX11_crew_52 (by decide) ?_
        refine y_istore (lv' := [(10, .int 0), (9, .int 1), (8, .int 0), (7, .int 0), (0, va_rf (some a0)), (1, .int v1), (2, .int v2), (3, .int v3), (4, .int v4), (5, .int v5), (6, .int v6)]) hg dX11_crew_53 (by rw [hgN]; decide) rfl ?_
        refine y_sub [4, 5, 6, 7, 8, 9, 10, 3, 2, 1, 0] rfl ?_
        exact J55 _ _ _ _ _ _ _ _ h
    exact key32 n32 v3 v4 v5 v6 hI32
  refine y_iload_n hg 1 dX11_crew_0 rfl rfl ?_
  refine y_iconst (v := 0) hg dX11_crew_1 (by decide) ?_
  refine y_bipush (v := 60) hg dX11_crew_2 (by decide) ?_
  refine ySIP (Qp := _) (rest := []) (As := [.int v1, .int 0, .int 60]) hg (k_X11_isIn (gL g.1) (gD g.1) v1 0 60 σ _ h) ls_X11_194 rfl rfl dX11_crew_4 (cat8 (Nat.le_of_ble_eq_true rfl)) hrm ⟨Nat.le_of_ble_eq_true rfl, Nat.le_of_ble_eq_true rfl⟩ (fun x1 h => ?_)
  refine y_if_eq (tgt := 19) hg dX11_crew_7 (by decide) (fun q2 => ?_) (fun q2 => ?_)
  · replace h := h.1 q2
    refine y_iconst (v := (-1)) hg dX11_crew_19 (by decide) ?_
    exact yEndI hend rfl dX11_crew_20 ⟨h, rfl⟩
  · replace h := h.2 q2
    refine y_iload_n hg 2 dX11_crew_10 rfl rfl ?_
    refine y_iconst (v := 0) hg dX11_crew_11 (by decide) ?_
    refine y_iconst (v := 2) hg dX11_crew_12 (by decide) ?_
    refine ySIP (Qp := _) (rest := []) (As := [.int v2, .int 0, .int 2]) hg (k_X11_isIn (gL g.1) (gD g.1) v2 0 2 σ _ h) ls_X11_194 rfl rfl dX11_crew_13 (cat8 (Nat.le_of_ble_eq_true rfl)) hrm ⟨Nat.le_of_ble_eq_true rfl, Nat.le_of_ble_eq_true rfl⟩ (fun x3 h => ?_)
    refine y_if_ne (tgt := 21) hg dX11_crew_16 (by decide) (fun q4 => ?_) (fun q4 => ?_)
    · replace h := h.2 q4
      refine y_iconst (v := 0) hg dX11_crew_21 (by decide) ?_
      refine y_istore_n (lv' := [(3, .int 0), (0, va_rf (some a0)), (1, .int v1), (2, .int v2)]) hg dX11_crew_22 rfl (by rw [hgN]; decide) rfl ?_
      refine y_iconst (v := 0) hg dX11_crew_23 (by decide) ?_
      refine y_istore (lv' := [(4, .int 0), (3, .int 0), (0, va_rf (some a0)), (1, .int v1), (2, .int v2)]) hg dX11_crew_24 (by rw [hgN]; decide) rfl ?_
      refine y_iconst (v := 0) hg dX11_crew_26 (by decide) ?_
      refine y_istore (lv' := [(5, .int 0), (4, .int 0), (3, .int 0), (0, va_rf (some a0)), (1, .int v1), (2, .int v2)]) hg dX11_crew_27 (by rw [hgN]; decide) rfl ?_
      refine y_iconst (v := 1) hg dX11_crew_29 (by decide) ?_
      refine y_istore (lv' := [(6, .int 1), (5, .int 0), (4, .int 0), (3, .int 0), (0, va_rf (some a0)), (1, .int v1), (2, .int v2)]) hg dX11_crew_30 (by rw [hgN]; decide) rfl ?_
      refine y_sub [4, 5, 6, 3, 2, 1, 0] rfl ?_
      exact J32 _ _ _ _ _ _ h
    · replace h := h.1 q4
      refine y_iconst (v := (-1)) hg dX11_crew_19 (by decide) ?_
      exact yEndI hend rfl dX11_crew_20 ⟨h, rfl⟩
def P_X11_neighbour_L26b (a0 : Nat) (v1 : Int32) (v2 : Int32) (v3 : Int32) (v4 : Int32) (σ : Sg) (Q : Int32 → Prop) (K26 : Int32 → Int32 → Prop) : Prop :=
  (10 ≤ v4 → (v2 = 0 → sK σ a0 % 32 = 13 ∧ ∃ c8 : Nat, sR σ a0 33 = some c8 ∧ sK σ c8 % 32 = 16 ∧ vp_in v1 (sN σ c8) ∧ Q (sI σ c8 v1.toNatClampNeg)) ∧ (¬ (v2 = 0) → Q v3)) ∧ (¬ (10 ≤ v4) → sK σ a0 % 32 = 13 ∧ ∃ c13 : Nat, sR σ a0 34 = some c13 ∧ sK σ c13 % 32 = 16 ∧ vp_in ((10 * v4) + v1) (sN σ c13) ∧ ∀ x17 : Int32, x17 = v3 + (sI σ c13 ((10 * v4) + v1).toNatClampNeg) → ∀ x19 : Int32, x19 = v4 + 1 → K26 x17 x19)
def P_X11_neighbour_L26 (a0 : Nat) (v1 : Int32) (v2 : Int32) (v3 : Int32) (v4 : Int32) (σ : Sg) (Q : Int32 → Prop) : Prop :=
  ∃ I : Nat → Int32 → Int32 → Prop, (∃ n, I n v3 v4) ∧ ∀ (n : Nat) (v3 : Int32) (v4 : Int32), I n v3 v4 → P_X11_neighbour_L26b a0 v1 v2 v3 v4 σ Q (fun v3 v4 => ∃ n', n' < n ∧ I n' v3 v4)
def P_X11_neighbour (a0 : Nat) (v1 : Int32) (v2 : Int32) (σ : Sg) (Q : Int32 → Prop) : Prop :=
  P_X11_isIn v1 0 9 σ (fun x1 => (x1 = 0 → Q (-1)) ∧ (¬ (x1 = 0) → P_X11_isIn v2 0 1 σ (fun x3 => (x3 = 0 → Q (-1)) ∧ (¬ (x3 = 0) → P_X11_neighbour_L26 a0 v1 v2 0 0 σ Q))))
set_option maxHeartbeats 4000000 in
set_option maxRecDepth 100000 in
theorem k_X11_neighbour (l : Launch) (D : Dg) (a0 : Nat) (v1 : Int32) (v2 : Int32) (σ : Sg) (Q : Int32 → Prop) (h : P_X11_neighbour a0 v1 v2 σ Q) : CtrY RN l D yX11_neighbour cX11_neighbour 5 (some FieldType.int) 1 22 mkI [.ref a0, .int v1, .int v2] σ (0, 0) (fun r σ2 => Q r ∧ σ2 = σ) := by
  refine y_ctrN (lv := [(0, va_rf (some a0)), (1, .int v1), (2, .int v2)]) (by decide) (by (exact Nat.le_of_ble_eq_true rfl)) (by (exact rfl)) (fun g hg hgL hgD hrm hgN hgI hend => ?_)
  subst hgD
  clear hgL
  unfold P_X11_neighbour at h
  have J26 : ∀ (v1 : Int32) (v2 : Int32) (v3 : Int32) (v4 : Int32), P_X11_neighbour_L26 a0 v1 v2 v3 v4 σ Q → XA g 26 [(0, va_rf (some a0)), (1, .int v1), (2, .int v2), (3, .int v3), (4, .int v4)] [] σ (0, 0) := by
    intro v1 v2 v3 v4 h
    unfold P_X11_neighbour_L26 at h
    obtain ⟨I26, ⟨n26, hI26⟩, hs26⟩ := h
    have key26 : ∀ (n : Nat), ∀ (v3 : Int32) (v4 : Int32), I26 n v3 v4 → XA g 26 [(0, va_rf (some a0)), (1, .int v1), (2, .int v2), (3, .int v3), (4, .int v4)] [] σ (0, 0) := by
      intro n
      induction n using Nat.strongRecOn with
      | _ n ih26 =>
      intro v3 v4 hI
      have h := hs26 n v3 v4 hI
      clear hI hI26 hs26
      obtain ⟨K26, hK26⟩ : ∃ K : Int32 → Int32 → Prop, K = (fun v3 v4 => ∃ n', n' < n ∧ I26 n' v3 v4) := ⟨_, rfl⟩
      rw [← hK26] at h
      unfold P_X11_neighbour_L26b at h
      refine y_iload hg 4 dX11_neighbour_26 rfl ?_
      refine y_bipush (v := 10) hg dX11_neighbour_28 (by decide) ?_
      refine y_icmp_ge (tgt := 54) hg dX11_neighbour_30 (by decide) (fun q5 => ?_) (fun q5 => ?_)
      · replace h := h.1 q5
        refine y_iload_n hg 2 dX11_neighbour_54 rfl rfl ?_
        refine y_if_ne (tgt := 67) hg dX11_neighbour_55 (by decide) (fun q6 => ?_) (fun q6 => ?_)
        · replace h := h.2 q6
          refine y_iload_n hg 3 dX11_neighbour_67 rfl rfl ?_
          exact yEndI hend rfl dX11_neighbour_68 ⟨h, rfl⟩
        · replace h := h.1 q6
          refine y_aload_n hg 0 dX11_neighbour_58 rfl rfl ?_
          obtain ⟨h7, h⟩ := h
          refine y_getR hg fl_X11_89 rfl rfl h7 dX11_neighbour_59 ?_
          refine y_iload_n hg 1 dX11_neighbour_62 rfl rfl ?_
          obtain ⟨c8, h9, h⟩ := h
          obtain ⟨h10, h⟩ := h
          obtain ⟨h11, h⟩ := h
          refine y_iald hg h9 h10 h11 dX11_neighbour_63 ?_
          refine y_goto (tgt := 68) hg dX11_neighbour_64 (by decide) ?_
          exact yEndI hend rfl dX11_neighbour_68 ⟨h, rfl⟩
      · replace h := h.2 q5
        refine y_iload_n hg 3 dX11_neighbour_33 rfl rfl ?_
        refine y_aload_n hg 0 dX11_neighbour_34 rfl rfl ?_
        obtain ⟨h12, h⟩ := h
        refine y_getR hg fl_X11_92 rfl rfl h12 dX11_neighbour_35 ?_
        refine y_bipush (v := 10) hg dX11_neighbour_38 (by decide) ?_
        refine y_iload hg 4 dX11_neighbour_40 rfl ?_
        refine y_imul hg dX11_neighbour_42 ?_
        refine y_iload_n hg 1 dX11_neighbour_43 rfl rfl ?_
        refine y_iadd hg dX11_neighbour_44 ?_
        obtain ⟨c13, h14, h⟩ := h
        obtain ⟨h15, h⟩ := h
        obtain ⟨h16, h⟩ := h
        refine y_iald hg h14 h15 h16 dX11_neighbour_45 ?_
        refine y_iadd hg dX11_neighbour_46 ?_
        refine y_nmI (fun x17 e18 => ?_)
        replace h := h x17 e18
        refine y_istore_n (lv' := [(3, .int x17), (0, va_rf (some a0)), (1, .int v1), (2, .int v2), (4, .int v4)]) hg dX11_neighbour_47 rfl (by rw [hgN]; decide) rfl ?_
        obtain ⟨x19, e20⟩ : ∃ y : Int32, y = v4 + 1 := ⟨_, rfl⟩
        replace h := h x19 e20
        refine y_iinc (v := x19) (lv' := [(4, .int x19), (3, .int x17), (0, va_rf (some a0)), (1, .int v1), (2, .int v2)]) hg 4 dX11_neighbour_48 rfl (by rw [e20]; rfl) (by rw [hgN]; decide) rfl ?_
        refine y_goto (tgt := 26) hg dX11_neighbour_51 (by decide) ?_
        refine y_sub [2, 3, 4, 1, 0] rfl ?_
        subst hK26
        obtain ⟨n21, h22, h⟩ := h
        exact ih26 n21 h22 _ _ h
    exact key26 n26 v3 v4 hI26
  refine y_iload_n hg 1 dX11_neighbour_0 rfl rfl ?_
  refine y_iconst (v := 0) hg dX11_neighbour_1 (by decide) ?_
  refine y_bipush (v := 9) hg dX11_neighbour_2 (by decide) ?_
  refine ySIP (Qp := _) (rest := []) (As := [.int v1, .int 0, .int 9]) hg (k_X11_isIn (gL g.1) (gD g.1) v1 0 9 σ _ h) ls_X11_194 rfl rfl dX11_neighbour_4 (cat8 (Nat.le_of_ble_eq_true rfl)) hrm ⟨Nat.le_of_ble_eq_true rfl, Nat.le_of_ble_eq_true rfl⟩ (fun x1 h => ?_)
  refine y_if_eq (tgt := 19) hg dX11_neighbour_7 (by decide) (fun q2 => ?_) (fun q2 => ?_)
  · replace h := h.1 q2
    refine y_iconst (v := (-1)) hg dX11_neighbour_19 (by decide) ?_
    exact yEndI hend rfl dX11_neighbour_20 ⟨h, rfl⟩
  · replace h := h.2 q2
    refine y_iload_n hg 2 dX11_neighbour_10 rfl rfl ?_
    refine y_iconst (v := 0) hg dX11_neighbour_11 (by decide) ?_
    refine y_iconst (v := 1) hg dX11_neighbour_12 (by decide) ?_
    refine ySIP (Qp := _) (rest := []) (As := [.int v2, .int 0, .int 1]) hg (k_X11_isIn (gL g.1) (gD g.1) v2 0 1 σ _ h) ls_X11_194 rfl rfl dX11_neighbour_13 (cat8 (Nat.le_of_ble_eq_true rfl)) hrm ⟨Nat.le_of_ble_eq_true rfl, Nat.le_of_ble_eq_true rfl⟩ (fun x3 h => ?_)
    refine y_if_ne (tgt := 21) hg dX11_neighbour_16 (by decide) (fun q4 => ?_) (fun q4 => ?_)
    · replace h := h.2 q4
      refine y_iconst (v := 0) hg dX11_neighbour_21 (by decide) ?_
      refine y_istore_n (lv' := [(3, .int 0), (0, va_rf (some a0)), (1, .int v1), (2, .int v2)]) hg dX11_neighbour_22 rfl (by rw [hgN]; decide) rfl ?_
      refine y_iconst (v := 0) hg dX11_neighbour_23 (by decide) ?_
      refine y_istore (lv' := [(4, .int 0), (3, .int 0), (0, va_rf (some a0)), (1, .int v1), (2, .int v2)]) hg dX11_neighbour_24 (by rw [hgN]; decide) rfl ?_
      refine y_sub [2, 3, 4, 1, 0] rfl ?_
      exact J26 _ _ _ _ h
    · replace h := h.1 q4
      refine y_iconst (v := (-1)) hg dX11_neighbour_19 (by decide) ?_
      exact yEndI hend rfl dX11_neighbour_20 ⟨h, rfl⟩
def P_X11_fee_B154 (a0 : Nat) (v4 : Int32) (σ : Sg) (Q : Int32 → Prop) : Prop :=
  ∀ x43 : Int32, x43 = (if (0 : Int32) < v4 then v4 else (0 : Int32)) → Q x43
def P_X11_fee_B118 (a0 : Nat) (v1 : Int32) (v2 : Int32) (v3 : Int32) (v4 : Int32) (v5 : Int32) (σ : Sg) (Q : Int32 → Prop) (K40 : Int32 → Int32 → Prop) : Prop :=
  ∀ x39 : Int32, x39 = v5 + 1 → K40 v4 x39
def P_X11_fee_B114 (a0 : Nat) (v1 : Int32) (v2 : Int32) (v3 : Int32) (v5 : Int32) (w0 : Int32) (w1 : Int32) (w2 : Int32) (σ : Sg) (Q : Int32 → Prop) (K40 : Int32 → Int32 → Prop) : Prop :=
  ∀ x37 : Int32, x37 = w0 + (w1 - w2) → P_X11_fee_B118 a0 v1 v2 v3 x37 v5 σ Q K40
def P_X11_fee_L40b (a0 : Nat) (v1 : Int32) (v2 : Int32) (v3 : Int32) (v4 : Int32) (v5 : Int32) (σ : Sg) (Q : Int32 → Prop) (K40 : Int32 → Int32 → Prop) : Prop :=
  sK σ a0 % 32 = 13 ∧ ((sI σ a0 2) ≤ v5 → (10 ≤ v1 → P_X11_fee_B154 a0 v4 σ Q) ∧ (¬ (10 ≤ v1) → P_X11_lawOn a0 v3 9 σ (fun x10 => ∃ c11 : Nat, sR σ a0 34 = some c11 ∧ sK σ c11 % 32 = 16 ∧ vp_in ((10 * v2) + v1) (sN σ c11) ∧ ∀ x15 : Int32, x15 = v4 - (x10 * (sI σ c11 ((10 * v2) + v1).toNatClampNeg)) → P_X11_fee_B154 a0 x15 σ Q))) ∧ (¬ ((sI σ a0 2) ≤ v5) → ∃ c17 : Nat, sR σ a0 26 = some c17 ∧ sK σ c17 % 32 = 16 ∧ vp_in v5 (sN σ c17) ∧ ((sI σ c17 v5.toNatClampNeg) = v1 → P_X11_lawOn a0 v3 7 σ (fun x22 => ∃ c23 : Nat, sR σ a0 27 = some c23 ∧ sK σ c23 % 32 = 16 ∧ vp_in v5 (sN σ c23) ∧ ∃ c27 : Nat, sR σ a0 30 = some c27 ∧ sK σ c27 % 32 = 16 ∧ vp_in v5 (sN σ c27) ∧ ((((sI σ c27 v5.toNatClampNeg) >>> (v2 &&& 31)) &&& 1) = 1 → P_X11_lawOn a0 v3 8 σ (fun x32 => ∃ c33 : Nat, sR σ a0 28 = some c33 ∧ sK σ c33 % 32 = 16 ∧ vp_in v5 (sN σ c33) ∧ P_X11_fee_B114 a0 v1 v2 v3 v5 v4 (x22 * (sI σ c23 v5.toNatClampNeg)) (x32 * (sI σ c33 v5.toNatClampNeg)) σ Q K40)) ∧ (¬ ((((sI σ c27 v5.toNatClampNeg) >>> (v2 &&& 31)) &&& 1) = 1) → P_X11_fee_B114 a0 v1 v2 v3 v5 v4 (x22 * (sI σ c23 v5.toNatClampNeg)) 0 σ Q K40))) ∧ (¬ ((sI σ c17 v5.toNatClampNeg) = v1) → P_X11_fee_B118 a0 v1 v2 v3 v4 v5 σ Q K40))
def P_X11_fee_L40 (a0 : Nat) (v1 : Int32) (v2 : Int32) (v3 : Int32) (v4 : Int32) (v5 : Int32) (σ : Sg) (Q : Int32 → Prop) : Prop :=
  ∃ I : Nat → Int32 → Int32 → Prop, (∃ n, I n v4 v5) ∧ ∀ (n : Nat) (v4 : Int32) (v5 : Int32), I n v4 v5 → P_X11_fee_L40b a0 v1 v2 v3 v4 v5 σ Q (fun v4 v5 => ∃ n', n' < n ∧ I n' v4 v5)
def P_X11_fee (a0 : Nat) (v1 : Int32) (v2 : Int32) (σ : Sg) (Q : Int32 → Prop) : Prop :=
  P_X11_isIn v1 0 19 σ (fun x1 => (x1 = 0 → Q (-1)) ∧ (¬ (x1 = 0) → P_X11_isIn v2 0 9 σ (fun x3 => (x3 = 0 → Q (-1)) ∧ (¬ (x3 = 0) → ∀ x5 : Int32, x5 = ((365 * v2) + 365) - 1 → P_X11_fee_L40 a0 v1 v2 x5 0 0 σ Q))))
set_option maxHeartbeats 4000000 in
set_option maxRecDepth 100000 in
theorem k_X11_fee (l : Launch) (D : Dg) (a0 : Nat) (v1 : Int32) (v2 : Int32) (σ : Sg) (Q : Int32 → Prop) (h : P_X11_fee a0 v1 v2 σ Q) : CtrY RN l D yX11_fee cX11_fee 6 (some FieldType.int) 2 48 mkI [.ref a0, .int v1, .int v2] σ (0, 0) (fun r σ2 => Q r ∧ σ2 = σ) := by
  refine y_ctrN (lv := [(0, va_rf (some a0)), (1, .int v1), (2, .int v2)]) (by decide) (by (exact Nat.le_of_ble_eq_true rfl)) (by (exact rfl)) (fun g hg hgL hgD hrm hgN hgI hend => ?_)
  subst hgD
  clear hgL
  unfold P_X11_fee at h
  have J154 : ∀ (v4 : Int32), P_X11_fee_B154 a0 v4 σ Q → XA g 154 [(0, va_rf (some a0)), (4, .int v4)] [] σ (0, 0) := by
    intro v4 h
    unfold P_X11_fee_B154 at h
    refine y_iconst (v := 0) hg dX11_fee_154 (by decide) ?_
    refine y_iload hg 1 dX11_fee_155 rfl ?_
    refine y_mmax hg mm_X11_222 (cat8 (Nat.le_of_ble_eq_true rfl)) hrm ⟨Nat.le_of_ble_eq_true rfl, Nat.le_of_ble_eq_true rfl⟩ dX11_fee_157 ?_
    refine y_nmI (fun x43 e44 => ?_)
    replace h := h x43 e44
    exact yEndI hend rfl dX11_fee_160 ⟨h, rfl⟩
  have J40 : ∀ (v1 : Int32) (v2 : Int32) (v3 : Int32) (v4 : Int32) (v5 : Int32), P_X11_fee_L40 a0 v1 v2 v3 v4 v5 σ Q → XA g 40 [(0, va_rf (some a0)), (1, .int v1), (2, .int v2), (3, .int v3), (4, .int v4), (5, .int v5)] [] σ (0, 0) := by
    intro v1 v2 v3 v4 v5 h
    unfold P_X11_fee_L40 at h
    obtain ⟨I40, ⟨n40, hI40⟩, hs40⟩ := h
    have key40 : ∀ (n : Nat), ∀ (v4 : Int32) (v5 : Int32), I40 n v4 v5 → XA g 40 [(0, va_rf (some a0)), (1, .int v1), (2, .int v2), (3, .int v3), (4, .int v4), (5, .int v5)] [] σ (0, 0) := by
      intro n
      induction n using Nat.strongRecOn with
      | _ n ih40 =>
      intro v4 v5 hI
      have h := hs40 n v4 v5 hI
      clear hI hI40 hs40
      obtain ⟨K40, hK40⟩ : ∃ K : Int32 → Int32 → Prop, K = (fun v4 v5 => ∃ n', n' < n ∧ I40 n' v4 v5) := ⟨_, rfl⟩
      rw [← hK40] at h
      unfold P_X11_fee_L40b at h
      have J118 : ∀ (v4 : Int32) (v5 : Int32), P_X11_fee_B118 a0 v1 v2 v3 v4 v5 σ Q K40 → XA g 118 [(0, va_rf (some a0)), (1, .int v1), (2, .int v2), (3, .int v3), (4, .int v4), (5, .int v5)] [] σ (0, 0) := by
        intro v4 v5 h
        unfold P_X11_fee_B118 at h
        obtain ⟨x39, e40⟩ : ∃ y : Int32, y = v5 + 1 := ⟨_, rfl⟩
        replace h := h x39 e40
        refine y_iinc (v := x39) (lv' := [(5, .int x39), (0, va_rf (some a0)), (1, .int v1), (2, .int v2), (3, .int v3), (4, .int v4)]) hg 5 dX11_fee_118 rfl (by rw [e40]; rfl) (by rw [hgN]; decide) rfl ?_
        refine y_goto (tgt := 40) hg dX11_fee_121 (by decide) ?_
        refine y_sub [1, 2, 3, 4, 5, 0] rfl ?_
        subst hK40
        obtain ⟨n41, h42, h⟩ := h
        exact ih40 n41 h42 _ _ h
      have J114 : ∀ (v5 : Int32) (w0 : Int32) (w1 : Int32) (w2 : Int32), P_X11_fee_B114 a0 v1 v2 v3 v5 w0 w1 w2 σ Q K40 → XA g 114 [(0, va_rf (some a0)), (1, .int v1), (2, .int v2), (3, .int v3), (5, .int v5)] [.int w2, .int w1, .int w0] σ (0, 0) := by
        intro v5 w0 w1 w2 h
        unfold P_X11_fee_B114 at h
        refine y_isub hg dX11_fee_114 ?_
        refine y_iadd hg dX11_fee_115 ?_
        refine y_nmI (fun x37 e38 => ?_)
        replace h := h x37 e38
        refine y_istore (lv' := [(4, .int x37), (0, va_rf (some a0)), (1, .int v1), (2, .int v2), (3, .int v3), (5, .int v5)]) hg dX11_fee_116 (by rw [hgN]; decide) rfl ?_
        refine y_sub [1, 2, 3, 4, 0, 5] rfl ?_
        exact J118 _ _ h
      refine y_iload hg 5 dX11_fee_40 rfl ?_
      refine y_aload_n hg 0 dX11_fee_42 rfl rfl ?_
      obtain ⟨h7, h⟩ := h
      refine y_getI hg fl_X11_202 rfl rfl h7 dX11_fee_43 ?_
      refine y_icmp_ge (tgt := 124) hg dX11_fee_46 (by decide) (fun q8 => ?_) (fun q8 => ?_)
      · replace h := h.1 q8
        refine y_iload_n hg 1 dX11_fee_124 rfl rfl ?_
        refine y_bipush (v := 10) hg dX11_fee_125 (by decide) ?_
        refine y_icmp_ge (tgt := 154) hg dX11_fee_127 (by decide) (fun q9 => ?_) (fun q9 => ?_)
        · replace h := h.1 q9
          refine y_sub [0, 4] rfl ?_
          exact J154 _ h
        · replace h := h.2 q9
          refine y_iload hg 4 dX11_fee_130 rfl ?_
          refine y_aload_n hg 0 dX11_fee_132 rfl rfl ?_
          refine y_iload_n hg 3 dX11_fee_133 rfl rfl ?_
          refine y_bipush (v := 9) hg dX11_fee_134 (by decide) ?_
          refine yVIP (Qp := _) (rest := [.int v4]) (As := [.int v3, .int 9]) hg (k_X11_lawOn (gL g.1) (gD g.1) a0 v3 9 σ _ h) lv_X11_332 rfl h7 rfl rfl dX11_fee_136 (cat8 (Nat.le_of_ble_eq_true rfl)) hrm ⟨Nat.le_of_ble_eq_true rfl, Nat.le_of_ble_eq_true rfl⟩ (fun x10 h => ?_)
          refine y_aload_n hg 0 dX11_fee_139 rfl rfl ?_
          refine y_getR hg fl_X11_92 rfl rfl h7 dX11_fee_140 ?_
          refine y_bipush (v := 10) hg dX11_fee_143 (by decide) ?_
          refine y_iload_n hg 2 dX11_fee_145 rfl rfl ?_
          refine y_imul hg dX11_fee_146 ?_
          refine y_iload_n hg 1 dX11_fee_147 rfl rfl ?_
          refine y_iadd hg dX11_fee_148 ?_
          obtain ⟨c11, h12, h⟩ := h
          obtain ⟨h13, h⟩ := h
          obtain ⟨h14, h⟩ := h
          refine y_iald hg h12 h13 h14 dX11_fee_149 ?_
          refine y_imul hg dX11_fee_150 ?_
          refine y_isub hg dX11_fee_151 ?_
          refine y_nmI (fun x15 e16 => ?_)
          replace h := h x15 e16
          refine y_istore (lv' := [(4, .int x15), (0, va_rf (some a0)), (1, .int v1), (2, .int v2), (3, .int v3), (5, .int v5)]) hg dX11_fee_152 (by rw [hgN]; decide) rfl ?_
          refine y_sub [1, 0] rfl ?_
          exact J154 _ h
      · replace h := h.2 q8
        refine y_aload_n hg 0 dX11_fee_49 rfl rfl ?_
        refine y_getR hg fl_X11_68 rfl rfl h7 dX11_fee_50 ?_
        refine y_iload hg 5 dX11_fee_53 rfl ?_
        obtain ⟨c17, h18, h⟩ := h
        obtain ⟨h19, h⟩ := h
        obtain ⟨h20, h⟩ := h
        refine y_iald hg h18 h19 h20 dX11_fee_55 ?_
        refine y_iload_n hg 1 dX11_fee_56 rfl rfl ?_
        refine y_icmp_eq (tgt := 63) hg dX11_fee_57 (by decide) (fun q21 => ?_) (fun q21 => ?_)
        · replace h := h.1 q21
          refine y_iload hg 4 dX11_fee_63 rfl ?_
          refine y_aload_n hg 0 dX11_fee_65 rfl rfl ?_
          refine y_iload_n hg 3 dX11_fee_66 rfl rfl ?_
          refine y_bipush (v := 7) hg dX11_fee_67 (by decide) ?_
          refine yVIP (Qp := _) (rest := [.int v4]) (As := [.int v3, .int 7]) hg (k_X11_lawOn (gL g.1) (gD g.1) a0 v3 7 σ _ h) lv_X11_332 rfl h7 rfl rfl dX11_fee_69 (cat8 (Nat.le_of_ble_eq_true rfl)) hrm ⟨Nat.le_of_ble_eq_true rfl, Nat.le_of_ble_eq_true rfl⟩ (fun x22 h => ?_)
          refine y_aload_n hg 0 dX11_fee_72 rfl rfl ?_
          refine y_getR hg fl_X11_71 rfl rfl h7 dX11_fee_73 ?_
          refine y_iload hg 5 dX11_fee_76 rfl ?_
          obtain ⟨c23, h24, h⟩ := h
          obtain ⟨h25, h⟩ := h
          obtain ⟨h26, h⟩ := h
          refine y_iald hg h24 h25 h26 dX11_fee_78 ?_
          refine y_imul hg dX11_fee_79 ?_
          refine y_aload_n hg 0 dX11_fee_80 rfl rfl ?_
          refine y_getR hg fl_X11_80 rfl rfl h7 dX11_fee_81 ?_
          refine y_iload hg 5 dX11_fee_84 rfl ?_
          obtain ⟨c27, h28, h⟩ := h
          obtain ⟨h29, h⟩ := h
          obtain ⟨h30, h⟩ := h
          refine y_iald hg h28 h29 h30 dX11_fee_86 ?_
          refine y_iload_n hg 2 dX11_fee_87 rfl rfl ?_
          refine y_ishr hg dX11_fee_88 ?_
          refine y_iconst (v := 1) hg dX11_fee_89 (by decide) ?_
          refine y_iand hg dX11_fee_90 ?_
          refine y_iconst (v := 1) hg dX11_fee_91 (by decide) ?_
          refine y_icmp_ne (tgt := 113) hg dX11_fee_92 (by decide) (fun q31 => ?_) (fun q31 => ?_)
          · replace h := h.2 q31
            refine y_iconst (v := 0) hg dX11_fee_113 (by decide) ?_
            refine y_sub [0, 1, 2, 3, 5] rfl ?_
            exact J114 _ _ _ _ h
          · replace h := h.1 q31
            refine y_aload_n hg 0 dX11_fee_95 rfl rfl ?_
            refine y_iload_n hg 3 dX11_fee_96 rfl rfl ?_
            refine y_bipush (v := 8) hg dX11_fee_97 (by decide) ?_
            refine yVIP (Qp := _) (rest := [.int (x22 * (sI σ c23 v5.toNatClampNeg)), .int v4]) (As := [.int v3, .int 8]) hg (k_X11_lawOn (gL g.1) (gD g.1) a0 v3 8 σ _ h) lv_X11_332 rfl h7 rfl rfl dX11_fee_99 (cat8 (Nat.le_of_ble_eq_true rfl)) hrm ⟨Nat.le_of_ble_eq_true rfl, Nat.le_of_ble_eq_true rfl⟩ (fun x32 h => ?_)
            refine y_aload_n hg 0 dX11_fee_102 rfl rfl ?_
            refine y_getR hg fl_X11_74 rfl rfl h7 dX11_fee_103 ?_
            refine y_iload hg 5 dX11_fee_106 rfl ?_
            obtain ⟨c33, h34, h⟩ := h
            obtain ⟨h35, h⟩ := h
            obtain ⟨h36, h⟩ := h
            refine y_iald hg h34 h35 h36 dX11_fee_108 ?_
            refine y_imul hg dX11_fee_109 ?_
            refine y_goto (tgt := 114) hg dX11_fee_110 (by decide) ?_
            refine y_sub [0, 1, 2, 3, 5] rfl ?_
            exact J114 _ _ _ _ h
        · replace h := h.2 q21
          refine y_goto (tgt := 118) hg dX11_fee_60 (by decide) ?_
          refine y_sub [0, 1, 2, 3, 4, 5] rfl ?_
          exact J118 _ _ h
    exact key40 n40 v4 v5 hI40
  refine y_iload_n hg 1 dX11_fee_0 rfl rfl ?_
  refine y_iconst (v := 0) hg dX11_fee_1 (by decide) ?_
  refine y_bipush (v := 19) hg dX11_fee_2 (by decide) ?_
  refine ySIP (Qp := _) (rest := []) (As := [.int v1, .int 0, .int 19]) hg (k_X11_isIn (gL g.1) (gD g.1) v1 0 19 σ _ h) ls_X11_194 rfl rfl dX11_fee_4 (cat8 (Nat.le_of_ble_eq_true rfl)) hrm ⟨Nat.le_of_ble_eq_true rfl, Nat.le_of_ble_eq_true rfl⟩ (fun x1 h => ?_)
  refine y_if_eq (tgt := 20) hg dX11_fee_7 (by decide) (fun q2 => ?_) (fun q2 => ?_)
  · replace h := h.1 q2
    refine y_iconst (v := (-1)) hg dX11_fee_20 (by decide) ?_
    exact yEndI hend rfl dX11_fee_21 ⟨h, rfl⟩
  · replace h := h.2 q2
    refine y_iload_n hg 2 dX11_fee_10 rfl rfl ?_
    refine y_iconst (v := 0) hg dX11_fee_11 (by decide) ?_
    refine y_bipush (v := 9) hg dX11_fee_12 (by decide) ?_
    refine ySIP (Qp := _) (rest := []) (As := [.int v2, .int 0, .int 9]) hg (k_X11_isIn (gL g.1) (gD g.1) v2 0 9 σ _ h) ls_X11_194 rfl rfl dX11_fee_14 (cat8 (Nat.le_of_ble_eq_true rfl)) hrm ⟨Nat.le_of_ble_eq_true rfl, Nat.le_of_ble_eq_true rfl⟩ (fun x3 h => ?_)
    refine y_if_ne (tgt := 22) hg dX11_fee_17 (by decide) (fun q4 => ?_) (fun q4 => ?_)
    · replace h := h.2 q4
      refine y_sipush (v := 365) hg dX11_fee_22 (by decide) ?_
      refine y_iload_n hg 2 dX11_fee_25 rfl rfl ?_
      refine y_imul hg dX11_fee_26 ?_
      refine y_sipush (v := 365) hg dX11_fee_27 (by decide) ?_
      refine y_iadd hg dX11_fee_30 ?_
      refine y_iconst (v := 1) hg dX11_fee_31 (by decide) ?_
      refine y_isub hg dX11_fee_32 ?_
      refine y_nmI (fun x5 e6 => ?_)
      replace h := h x5 e6
      refine y_istore_n (lv' := [(3, .int x5), (0, va_rf (some a0)), (1, .int v1), (2, .int v2)]) hg dX11_fee_33 rfl (by rw [hgN]; decide) rfl ?_
      refine y_iconst (v := 0) hg dX11_fee_34 (by decide) ?_
      refine y_istore (lv' := [(4, .int 0), (3, .int x5), (0, va_rf (some a0)), (1, .int v1), (2, .int v2)]) hg dX11_fee_35 (by rw [hgN]; decide) rfl ?_
      refine y_iconst (v := 0) hg dX11_fee_37 (by decide) ?_
      refine y_istore (lv' := [(5, .int 0), (4, .int 0), (3, .int x5), (0, va_rf (some a0)), (1, .int v1), (2, .int v2)]) hg dX11_fee_38 (by rw [hgN]; decide) rfl ?_
      refine y_sub [3, 4, 5, 2, 1, 0] rfl ?_
      exact J40 _ _ _ _ _ h
    · replace h := h.1 q4
      refine y_iconst (v := (-1)) hg dX11_fee_20 (by decide) ?_
      exact yEndI hend rfl dX11_fee_21 ⟨h, rfl⟩
def P_X11_look (a0 : Nat) (v1 : Int32) (v2 : Int32) (σ : Sg) (Q : Int32 → Sg → Prop) : Prop :=
  sK σ a0 % 32 = 13 ∧ P_X11_isBed a0 v1 σ (fun x2 => (x2 = 0 → Q (-1) σ) ∧ (¬ (x2 = 0) → P_X11_isIn v2 0 3 σ (fun x4 => (x4 = 0 → Q (-1) σ) ∧ (¬ (x4 = 0) → ∃ c6 : Nat, sR σ a0 23 = some c6 ∧ sK σ c6 % 32 = 16 ∧ vp_in v1 (sN σ c6) ∧ ∀ σ10 : Sg, σ10 = pI σ c6 v1.toNatClampNeg v2 → ∀ σ13 : Sg, σ13 = pI σ10 a0 5 ((sI σ10 a0 5) + 1) → Q (sI σ13 a0 5) σ13))))
set_option maxHeartbeats 4000000 in
set_option maxRecDepth 100000 in
theorem k_X11_look (l : Launch) (D : Dg) (a0 : Nat) (v1 : Int32) (v2 : Int32) (σ : Sg) (Q : Int32 → Sg → Prop) (h : P_X11_look a0 v1 v2 σ Q) : CtrY RN l D yX11_look cX11_look 3 (some FieldType.int) 3 64 mkI [.ref a0, .int v1, .int v2] σ (0, 0) Q := by
  refine y_ctrN (lv := [(0, va_rf (some a0)), (1, .int v1), (2, .int v2)]) (by decide) (by (exact Nat.le_of_ble_eq_true rfl)) (by (exact rfl)) (fun g hg hgL hgD hrm hgN hgI hend => ?_)
  subst hgD
  clear hgL
  unfold P_X11_look at h
  refine y_aload_n hg 0 dX11_look_0 rfl rfl ?_
  refine y_iload_n hg 1 dX11_look_1 rfl rfl ?_
  obtain ⟨h1, h⟩ := h
  refine yVIP (Qp := _) (rest := []) (As := [.int v1]) hg (k_X11_isBed (gL g.1) (gD g.1) a0 v1 σ _ h) lv_X11_219 rfl h1 rfl rfl dX11_look_2 (cat8 (Nat.le_of_ble_eq_true rfl)) hrm ⟨Nat.le_of_ble_eq_true rfl, Nat.le_of_ble_eq_true rfl⟩ (fun x2 h => ?_)
  refine y_if_eq (tgt := 17) hg dX11_look_5 (by decide) (fun q3 => ?_) (fun q3 => ?_)
  · replace h := h.1 q3
    refine y_iconst (v := (-1)) hg dX11_look_17 (by decide) ?_
    exact yEndI hend rfl dX11_look_18 h
  · replace h := h.2 q3
    refine y_iload_n hg 2 dX11_look_8 rfl rfl ?_
    refine y_iconst (v := 0) hg dX11_look_9 (by decide) ?_
    refine y_iconst (v := 3) hg dX11_look_10 (by decide) ?_
    refine ySIP (Qp := _) (rest := []) (As := [.int v2, .int 0, .int 3]) hg (k_X11_isIn (gL g.1) (gD g.1) v2 0 3 σ _ h) ls_X11_194 rfl rfl dX11_look_11 (cat8 (Nat.le_of_ble_eq_true rfl)) hrm ⟨Nat.le_of_ble_eq_true rfl, Nat.le_of_ble_eq_true rfl⟩ (fun x4 h => ?_)
    refine y_if_ne (tgt := 19) hg dX11_look_14 (by decide) (fun q5 => ?_) (fun q5 => ?_)
    · replace h := h.2 q5
      refine y_aload_n hg 0 dX11_look_19 rfl rfl ?_
      refine y_getR hg fl_X11_59 rfl rfl h1 dX11_look_20 ?_
      refine y_iload_n hg 1 dX11_look_23 rfl rfl ?_
      refine y_iload_n hg 2 dX11_look_24 rfl rfl ?_
      obtain ⟨c6, h7, h⟩ := h
      obtain ⟨h8, h⟩ := h
      obtain ⟨h9, h⟩ := h
      refine y_iast hg h7 h8 h9 dX11_look_25 ?_
      refine y_nmS (fun σ10 e11 => ?_)
      replace h := h σ10 e11
      have E12 : sK σ10 = sK σ := by rw [e11]; rfl
      refine y_aload_n hg 0 dX11_look_26 rfl rfl ?_
      refine y_dup hg dX11_look_27 rfl ?_
      refine y_getI hg fl_X11_335 rfl rfl (kq E12 h1) dX11_look_28 ?_
      refine y_iconst (v := 1) hg dX11_look_31 (by decide) ?_
      refine y_iadd hg dX11_look_32 ?_
      refine y_putI hg fw_X11_335 (fun z => nomatch z) rfl (kq E12 h1) dX11_look_33 ?_
      refine y_nmS (fun σ13 e14 => ?_)
      replace h := h σ13 e14
      have E15 : sK σ13 = sK σ10 := by rw [e14]; rfl
      refine y_aload_n hg 0 dX11_look_36 rfl rfl ?_
      refine y_getI hg fl_X11_335 rfl rfl (kq E15 (kq E12 h1)) dX11_look_37 ?_
      exact yEndI hend rfl dX11_look_40 h
    · replace h := h.1 q5
      refine y_iconst (v := (-1)) hg dX11_look_17 (by decide) ?_
      exact yEndI hend rfl dX11_look_18 h
def P_X11_worst_B128 (a0 : Nat) (v1 : Int32) (v2 : Int32) (v3 : Int32) (v4 : Int32) (v5 : Int32) (σ : Sg) (Q : Int32 → Prop) (K10 : Int32 → Int32 → Int32 → Int32 → Prop) : Prop :=
  ∀ x38 : Int32, x38 = v5 + 1 → K10 v2 v3 v4 x38
def P_X11_worst_B118 (a0 : Nat) (v1 : Int32) (v5 : Int32) (v6 : Int32) (v7 : Int32) (σ : Sg) (Q : Int32 → Prop) (K10 : Int32 → Int32 → Int32 → Int32 → Prop) : Prop :=
  P_X11_worst_B128 a0 v1 v5 v6 v7 v5 σ Q K10
def P_X11_worst_B86 (a0 : Nat) (v1 : Int32) (v2 : Int32) (v3 : Int32) (v4 : Int32) (v5 : Int32) (v6 : Int32) (v7 : Int32) (v8 : Int32) (σ : Sg) (Q : Int32 → Prop) (K10 : Int32 → Int32 → Int32 → Int32 → Prop) (K26 : Int32 → Int32 → Int32 → Prop) : Prop :=
  ∀ x34 : Int32, x34 = v8 + 1 → K26 v6 v7 x34
def P_X11_worst_L26b (a0 : Nat) (v1 : Int32) (v2 : Int32) (v3 : Int32) (v4 : Int32) (v5 : Int32) (v6 : Int32) (v7 : Int32) (v8 : Int32) (σ : Sg) (Q : Int32 → Prop) (K10 : Int32 → Int32 → Int32 → Int32 → Prop) (K26 : Int32 → Int32 → Int32 → Prop) : Prop :=
  sK σ a0 % 32 = 13 ∧ ((sI σ a0 1) ≤ v8 → (v7 < 2 → P_X11_worst_B128 a0 v1 v2 v3 v4 v5 σ Q K10) ∧ (¬ (v7 < 2) → (v2 = (-1) → P_X11_worst_B118 a0 v1 v5 v6 v7 σ Q K10) ∧ (¬ (v2 = (-1)) → ((v3 * v7) < (v6 * v4) → P_X11_worst_B118 a0 v1 v5 v6 v7 σ Q K10) ∧ (¬ ((v3 * v7) < (v6 * v4)) → P_X11_worst_B128 a0 v1 v2 v3 v4 v5 σ Q K10)))) ∧ (¬ ((sI σ a0 1) ≤ v8) → ∃ c11 : Nat, sR σ a0 12 = some c11 ∧ sK σ c11 % 32 = 18 ∧ vp_in v8 (sN σ c11) ∧ ((sI σ c11 v8.toNatClampNeg) = 0 → P_X11_worst_B86 a0 v1 v2 v3 v4 v5 v6 v7 v8 σ Q K10 K26) ∧ (¬ ((sI σ c11 v8.toNatClampNeg) = 0) → ∃ c16 : Nat, sR σ a0 15 = some c16 ∧ sK σ c16 % 32 = 16 ∧ vp_in v8 (sN σ c16) ∧ ((sI σ c16 v8.toNatClampNeg) = v5 → ∃ c21 : Nat, sR σ a0 23 = some c21 ∧ sK σ c21 % 32 = 16 ∧ vp_in v8 (sN σ c21) ∧ ((sI σ c21 v8.toNatClampNeg) = (-1) → P_X11_worst_B86 a0 v1 v2 v3 v4 v5 v6 v7 v8 σ Q K10 K26) ∧ (¬ ((sI σ c21 v8.toNatClampNeg) = (-1)) → ∃ c26 : Nat, sR σ a0 23 = some c26 ∧ sK σ c26 % 32 = 16 ∧ vp_in v8 (sN σ c26) ∧ ∀ x30 : Int32, x30 = v6 + (sI σ c26 v8.toNatClampNeg) → ∀ x32 : Int32, x32 = v7 + 1 → P_X11_worst_B86 a0 v1 v2 v3 v4 v5 x30 x32 v8 σ Q K10 K26)) ∧ (¬ ((sI σ c16 v8.toNatClampNeg) = v5) → P_X11_worst_B86 a0 v1 v2 v3 v4 v5 v6 v7 v8 σ Q K10 K26)))
def P_X11_worst_L26 (a0 : Nat) (v1 : Int32) (v2 : Int32) (v3 : Int32) (v4 : Int32) (v5 : Int32) (v6 : Int32) (v7 : Int32) (v8 : Int32) (σ : Sg) (Q : Int32 → Prop) (K10 : Int32 → Int32 → Int32 → Int32 → Prop) : Prop :=
  ∃ I : Nat → Int32 → Int32 → Int32 → Prop, (∃ n, I n v6 v7 v8) ∧ ∀ (n : Nat) (v6 : Int32) (v7 : Int32) (v8 : Int32), I n v6 v7 v8 → P_X11_worst_L26b a0 v1 v2 v3 v4 v5 v6 v7 v8 σ Q K10 (fun v6 v7 v8 => ∃ n', n' < n ∧ I n' v6 v7 v8)
def P_X11_worst_L10b (a0 : Nat) (v1 : Int32) (v2 : Int32) (v3 : Int32) (v4 : Int32) (v5 : Int32) (σ : Sg) (Q : Int32 → Prop) (K10 : Int32 → Int32 → Int32 → Int32 → Prop) : Prop :=
  (10 ≤ v5 → (v2 = (-1) → Q (-1)) ∧ (¬ (v2 = (-1)) → (v1 = 0 → Q v2) ∧ (¬ (v1 = 0) → (v1 = 1 → Q v3) ∧ (¬ (v1 = 1) → (v1 = 2 → Q v4) ∧ (¬ (v1 = 2) → Q (-1)))))) ∧ (¬ (10 ≤ v5) → P_X11_worst_L26 a0 v1 v2 v3 v4 v5 0 0 0 σ Q K10)
def P_X11_worst_L10 (a0 : Nat) (v1 : Int32) (v2 : Int32) (v3 : Int32) (v4 : Int32) (v5 : Int32) (σ : Sg) (Q : Int32 → Prop) : Prop :=
  ∃ I : Nat → Int32 → Int32 → Int32 → Int32 → Prop, (∃ n, I n v2 v3 v4 v5) ∧ ∀ (n : Nat) (v2 : Int32) (v3 : Int32) (v4 : Int32) (v5 : Int32), I n v2 v3 v4 v5 → P_X11_worst_L10b a0 v1 v2 v3 v4 v5 σ Q (fun v2 v3 v4 v5 => ∃ n', n' < n ∧ I n' v2 v3 v4 v5)
def P_X11_worst (a0 : Nat) (v1 : Int32) (σ : Sg) (Q : Int32 → Prop) : Prop :=
  P_X11_worst_L10 a0 v1 (-1) 0 0 0 σ Q
set_option maxHeartbeats 4000000 in
set_option maxRecDepth 100000 in
theorem k_X11_worst (l : Launch) (D : Dg) (a0 : Nat) (v1 : Int32) (σ : Sg) (Q : Int32 → Prop) (h : P_X11_worst a0 v1 σ Q) : CtrY RN l D yX11_worst cX11_worst 9 (some FieldType.int) 0 0 mkI [.ref a0, .int v1] σ (0, 0) (fun r σ2 => Q r ∧ σ2 = σ) := by
  refine y_ctrN (lv := [(0, va_rf (some a0)), (1, .int v1)]) (by decide) (by (exact Nat.le_of_ble_eq_true rfl)) (by (exact rfl)) (fun g hg hgL hgD hrm hgN hgI hend => ?_)
  subst hgD
  clear hgL
  unfold P_X11_worst at h
  have J10 : ∀ (v1 : Int32) (v2 : Int32) (v3 : Int32) (v4 : Int32) (v5 : Int32), P_X11_worst_L10 a0 v1 v2 v3 v4 v5 σ Q → XA g 10 [(0, va_rf (some a0)), (1, .int v1), (2, .int v2), (3, .int v3), (4, .int v4), (5, .int v5)] [] σ (0, 0) := by
    intro v1 v2 v3 v4 v5 h
    unfold P_X11_worst_L10 at h
    obtain ⟨I10, ⟨n10, hI10⟩, hs10⟩ := h
    have key10 : ∀ (n : Nat), ∀ (v2 : Int32) (v3 : Int32) (v4 : Int32) (v5 : Int32), I10 n v2 v3 v4 v5 → XA g 10 [(0, va_rf (some a0)), (1, .int v1), (2, .int v2), (3, .int v3), (4, .int v4), (5, .int v5)] [] σ (0, 0) := by
      intro n
      induction n using Nat.strongRecOn with
      | _ n ih10 =>
      intro v2 v3 v4 v5 hI
      have h := hs10 n v2 v3 v4 v5 hI
      clear hI hI10 hs10
      obtain ⟨K10, hK10⟩ : ∃ K : Int32 → Int32 → Int32 → Int32 → Prop, K = (fun v2 v3 v4 v5 => ∃ n', n' < n ∧ I10 n' v2 v3 v4 v5) := ⟨_, rfl⟩
      rw [← hK10] at h
      unfold P_X11_worst_L10b at h
      have J128 : ∀ (v2 : Int32) (v3 : Int32) (v4 : Int32) (v5 : Int32), P_X11_worst_B128 a0 v1 v2 v3 v4 v5 σ Q K10 → XA g 128 [(0, va_rf (some a0)), (1, .int v1), (2, .int v2), (3, .int v3), (4, .int v4), (5, .int v5)] [] σ (0, 0) := by
        intro v2 v3 v4 v5 h
        unfold P_X11_worst_B128 at h
        obtain ⟨x38, e39⟩ : ∃ y : Int32, y = v5 + 1 := ⟨_, rfl⟩
        replace h := h x38 e39
        refine y_iinc (v := x38) (lv' := [(5, .int x38), (0, va_rf (some a0)), (1, .int v1), (2, .int v2), (3, .int v3), (4, .int v4)]) hg 5 dX11_worst_128 rfl (by rw [e39]; rfl) (by rw [hgN]; decide) rfl ?_
        refine y_goto (tgt := 10) hg dX11_worst_131 (by decide) ?_
        refine y_sub [1, 2, 3, 4, 5, 0] rfl ?_
        subst hK10
        obtain ⟨n40, h41, h⟩ := h
        exact ih10 n40 h41 _ _ _ _ h
      have J118 : ∀ (v5 : Int32) (v6 : Int32) (v7 : Int32), P_X11_worst_B118 a0 v1 v5 v6 v7 σ Q K10 → XA g 118 [(0, va_rf (some a0)), (1, .int v1), (5, .int v5), (6, .int v6), (7, .int v7)] [] σ (0, 0) := by
        intro v5 v6 v7 h
        unfold P_X11_worst_B118 at h
        refine y_iload hg 2 dX11_worst_118 rfl ?_
        refine y_istore_n (lv' := [(2, .int v5), (0, va_rf (some a0)), (1, .int v1), (5, .int v5), (6, .int v6), (7, .int v7)]) hg dX11_worst_120 rfl (by rw [hgN]; decide) rfl ?_
        refine y_iload hg 4 dX11_worst_121 rfl ?_
        refine y_istore_n (lv' := [(3, .int v6), (2, .int v5), (0, va_rf (some a0)), (1, .int v1), (5, .int v5), (6, .int v6), (7, .int v7)]) hg dX11_worst_123 rfl (by rw [hgN]; decide) rfl ?_
        refine y_iload hg 6 dX11_worst_124 rfl ?_
        refine y_istore (lv' := [(4, .int v7), (3, .int v6), (2, .int v5), (0, va_rf (some a0)), (1, .int v1), (5, .int v5), (6, .int v6), (7, .int v7)]) hg dX11_worst_126 (by rw [hgN]; decide) rfl ?_
        refine y_sub [3, 4, 2, 1, 0, 5] rfl ?_
        exact J128 _ _ _ _ h
      have J26 : ∀ (v2 : Int32) (v3 : Int32) (v4 : Int32) (v5 : Int32) (v6 : Int32) (v7 : Int32) (v8 : Int32), P_X11_worst_L26 a0 v1 v2 v3 v4 v5 v6 v7 v8 σ Q K10 → XA g 26 [(0, va_rf (some a0)), (1, .int v1), (2, .int v2), (3, .int v3), (4, .int v4), (5, .int v5), (6, .int v6), (7, .int v7), (8, .int v8)] [] σ (0, 0) := by
        intro v2 v3 v4 v5 v6 v7 v8 h
        unfold P_X11_worst_L26 at h
        obtain ⟨I26, ⟨n26, hI26⟩, hs26⟩ := h
        have key26 : ∀ (n : Nat), ∀ (v6 : Int32) (v7 : Int32) (v8 : Int32), I26 n v6 v7 v8 → XA g 26 [(0, va_rf (some a0)), (1, .int v1), (2, .int v2), (3, .int v3), (4, .int v4), (5, .int v5), (6, .int v6), (7, .int v7), (8, .int v8)] [] σ (0, 0) := by
          intro n
          induction n using Nat.strongRecOn with
          | _ n ih26 =>
          intro v6 v7 v8 hI
          have h := hs26 n v6 v7 v8 hI
          clear hI hI26 hs26
          obtain ⟨K26, hK26⟩ : ∃ K : Int32 → Int32 → Int32 → Prop, K = (fun v6 v7 v8 => ∃ n', n' < n ∧ I26 n' v6 v7 v8) := ⟨_, rfl⟩
          rw [← hK26] at h
          unfold P_X11_worst_L26b at h
          have J86 : ∀ (v6 : Int32) (v7 : Int32) (v8 : Int32), P_X11_worst_B86 a0 v1 v2 v3 v4 v5 v6 v7 v8 σ Q K10 K26 → XA g 86 [(0, va_rf (some a0)), (1, .int v1), (2, .int v2), (3, .int v3), (4, .int v4), (5, .int v5), (6, .int v6), (7, .int v7), (8, .int v8)] [] σ (0, 0) := by
            intro v6 v7 v8 h
            unfold P_X11_worst_B86 at h
            obtain ⟨x34, e35⟩ : ∃ y : Int32, y = v8 + 1 := ⟨_, rfl⟩
            replace h := h x34 e35
            refine y_iinc (v := x34) (lv' := [(8, .int x34), (0, va_rf (some a0)), (1, .int v1), (2, .int v2), (3, .int v3), (4, .int v4), (5, .int v5), (6, .int v6), (7, .int v7)]) hg 8 dX11_worst_86 rfl (by rw [e35]; rfl) (by rw [hgN]; decide) rfl ?_
            refine y_goto (tgt := 26) hg dX11_worst_89 (by decide) ?_
            refine y_sub [1, 2, 3, 4, 5, 6, 7, 8, 0] rfl ?_
            subst hK26
            obtain ⟨n36, h37, h⟩ := h
            exact ih26 n36 h37 _ _ _ h
          refine y_iload hg 8 dX11_worst_26 rfl ?_
          refine y_aload_n hg 0 dX11_worst_28 rfl rfl ?_
          obtain ⟨h6, h⟩ := h
          refine y_getI hg fl_X11_191 rfl rfl h6 dX11_worst_29 ?_
          refine y_icmp_ge (tgt := 92) hg dX11_worst_32 (by decide) (fun q7 => ?_) (fun q7 => ?_)
          · replace h := h.1 q7
            refine y_iload hg 7 dX11_worst_92 rfl ?_
            refine y_iconst (v := 2) hg dX11_worst_94 (by decide) ?_
            refine y_icmp_lt (tgt := 128) hg dX11_worst_95 (by decide) (fun q8 => ?_) (fun q8 => ?_)
            · replace h := h.1 q8
              refine y_sub [0, 1, 2, 3, 4, 5] rfl ?_
              exact J128 _ _ _ _ h
            · replace h := h.2 q8
              refine y_iload_n hg 2 dX11_worst_98 rfl rfl ?_
              refine y_iconst (v := (-1)) hg dX11_worst_99 (by decide) ?_
              refine y_icmp_eq (tgt := 118) hg dX11_worst_100 (by decide) (fun q9 => ?_) (fun q9 => ?_)
              · replace h := h.1 q9
                refine y_sub [0, 1, 5, 6, 7] rfl ?_
                exact J118 _ _ _ h
              · replace h := h.2 q9
                refine y_iload hg 6 dX11_worst_103 rfl ?_
                refine y_iload hg 4 dX11_worst_105 rfl ?_
                refine y_imul hg dX11_worst_107 ?_
                refine y_iload_n hg 3 dX11_worst_108 rfl rfl ?_
                refine y_iload hg 7 dX11_worst_109 rfl ?_
                refine y_imul hg dX11_worst_111 ?_
                refine y_icmp_gt (tgt := 118) hg dX11_worst_112 (by decide) (fun q10 => ?_) (fun q10 => ?_)
                · replace h := h.1 q10
                  refine y_sub [0, 1, 5, 6, 7] rfl ?_
                  exact J118 _ _ _ h
                · replace h := h.2 q10
                  refine y_goto (tgt := 128) hg dX11_worst_115 (by decide) ?_
                  refine y_sub [0, 1, 2, 3, 4, 5] rfl ?_
                  exact J128 _ _ _ _ h
          · replace h := h.2 q7
            refine y_aload_n hg 0 dX11_worst_35 rfl rfl ?_
            refine y_getR hg fl_X11_25 rfl rfl h6 dX11_worst_36 ?_
            refine y_iload hg 8 dX11_worst_39 rfl ?_
            obtain ⟨c11, h12, h⟩ := h
            obtain ⟨h13, h⟩ := h
            obtain ⟨h14, h⟩ := h
            refine y_zald hg h12 h13 h14 dX11_worst_41 ?_
            refine y_if_eq (tgt := 86) hg dX11_worst_42 (by decide) (fun q15 => ?_) (fun q15 => ?_)
            · replace h := h.1 q15
              refine y_sub [0, 1, 2, 3, 4, 5, 6, 7, 8] rfl ?_
              exact J86 _ _ _ h
            · replace h := h.2 q15
              refine y_aload_n hg 0 dX11_worst_45 rfl rfl ?_
              refine y_getR hg fl_X11_35 rfl rfl h6 dX11_worst_46 ?_
              refine y_iload hg 8 dX11_worst_49 rfl ?_
              obtain ⟨c16, h17, h⟩ := h
              obtain ⟨h18, h⟩ := h
              obtain ⟨h19, h⟩ := h
              refine y_iald hg h17 h18 h19 dX11_worst_51 ?_
              refine y_iload hg 5 dX11_worst_52 rfl ?_
              refine y_icmp_ne (tgt := 86) hg dX11_worst_54 (by decide) (fun q20 => ?_) (fun q20 => ?_)
              · replace h := h.2 q20
                refine y_sub [0, 1, 2, 3, 4, 5, 6, 7, 8] rfl ?_
                exact J86 _ _ _ h
              · replace h := h.1 q20
                refine y_aload_n hg 0 dX11_worst_57 rfl rfl ?_
                refine y_getR hg fl_X11_59 rfl rfl h6 dX11_worst_58 ?_
                refine y_iload hg 8 dX11_worst_61 rfl ?_
                obtain ⟨c21, h22, h⟩ := h
                obtain ⟨h23, h⟩ := h
                obtain ⟨h24, h⟩ := h
                refine y_iald hg h22 h23 h24 dX11_worst_63 ?_
                refine y_iconst (v := (-1)) hg dX11_worst_64 (by decide) ?_
                refine y_icmp_ne (tgt := 71) hg dX11_worst_65 (by decide) (fun q25 => ?_) (fun q25 => ?_)
                · replace h := h.2 q25
                  refine y_iload hg 6 dX11_worst_71 rfl ?_
                  refine y_aload_n hg 0 dX11_worst_73 rfl rfl ?_
                  refine y_getR hg fl_X11_59 rfl rfl h6 dX11_worst_74 ?_
                  refine y_iload hg 8 dX11_worst_77 rfl ?_
                  obtain ⟨c26, h27, h⟩ := h
                  obtain ⟨h28, h⟩ := h
                  obtain ⟨h29, h⟩ := h
                  refine y_iald hg h27 h28 h29 dX11_worst_79 ?_
                  refine y_iadd hg dX11_worst_80 ?_
                  refine y_nmI (fun x30 e31 => ?_)
                  replace h := h x30 e31
                  refine y_istore (lv' := [(6, .int x30), (0, va_rf (some a0)), (1, .int v1), (2, .int v2), (3, .int v3), (4, .int v4), (5, .int v5), (7, .int v7), (8, .int v8)]) hg dX11_worst_81 (by rw [hgN]; decide) rfl ?_
                  obtain ⟨x32, e33⟩ : ∃ y : Int32, y = v7 + 1 := ⟨_, rfl⟩
                  replace h := h x32 e33
                  refine y_iinc (v := x32) (lv' := [(7, .int x32), (6, .int x30), (0, va_rf (some a0)), (1, .int v1), (2, .int v2), (3, .int v3), (4, .int v4), (5, .int v5), (8, .int v8)]) hg 7 dX11_worst_83 rfl (by rw [e33]; rfl) (by rw [hgN]; decide) rfl ?_
                  refine y_sub [2, 3, 4, 5, 6, 7, 1, 0, 8] rfl ?_
                  exact J86 _ _ _ h
                · replace h := h.1 q25
                  refine y_goto (tgt := 86) hg dX11_worst_68 (by decide) ?_
                  refine y_sub [0, 1, 2, 3, 4, 5, 6, 7, 8] rfl ?_
                  exact J86 _ _ _ h
        exact key26 n26 v6 v7 v8 hI26
      refine y_iload hg 5 dX11_worst_10 rfl ?_
      refine y_bipush (v := 10) hg dX11_worst_12 (by decide) ?_
      refine y_icmp_ge (tgt := 134) hg dX11_worst_14 (by decide) (fun q1 => ?_) (fun q1 => ?_)
      · replace h := h.1 q1
        refine y_iload_n hg 2 dX11_worst_134 rfl rfl ?_
        refine y_iconst (v := (-1)) hg dX11_worst_135 (by decide) ?_
        refine y_icmp_ne (tgt := 143) hg dX11_worst_136 (by decide) (fun q2 => ?_) (fun q2 => ?_)
        · replace h := h.2 q2
          refine y_iload_n hg 1 dX11_worst_143 rfl rfl ?_
          refine y_if_ne (tgt := 151) hg dX11_worst_144 (by decide) (fun q3 => ?_) (fun q3 => ?_)
          · replace h := h.2 q3
            refine y_iload_n hg 1 dX11_worst_151 rfl rfl ?_
            refine y_iconst (v := 1) hg dX11_worst_152 (by decide) ?_
            refine y_icmp_ne (tgt := 160) hg dX11_worst_153 (by decide) (fun q4 => ?_) (fun q4 => ?_)
            · replace h := h.2 q4
              refine y_iload_n hg 1 dX11_worst_160 rfl rfl ?_
              refine y_iconst (v := 2) hg dX11_worst_161 (by decide) ?_
              refine y_icmp_ne (tgt := 170) hg dX11_worst_162 (by decide) (fun q5 => ?_) (fun q5 => ?_)
              · replace h := h.2 q5
                refine y_iconst (v := (-1)) hg dX11_worst_170 (by decide) ?_
                exact yEndI hend rfl dX11_worst_171 ⟨h, rfl⟩
              · replace h := h.1 q5
                refine y_iload hg 4 dX11_worst_165 rfl ?_
                refine y_goto (tgt := 171) hg dX11_worst_167 (by decide) ?_
                exact yEndI hend rfl dX11_worst_171 ⟨h, rfl⟩
            · replace h := h.1 q4
              refine y_iload_n hg 3 dX11_worst_156 rfl rfl ?_
              refine y_goto (tgt := 171) hg dX11_worst_157 (by decide) ?_
              exact yEndI hend rfl dX11_worst_171 ⟨h, rfl⟩
          · replace h := h.1 q3
            refine y_iload_n hg 2 dX11_worst_147 rfl rfl ?_
            refine y_goto (tgt := 171) hg dX11_worst_148 (by decide) ?_
            exact yEndI hend rfl dX11_worst_171 ⟨h, rfl⟩
        · replace h := h.1 q2
          refine y_iconst (v := (-1)) hg dX11_worst_139 (by decide) ?_
          refine y_goto (tgt := 171) hg dX11_worst_140 (by decide) ?_
          exact yEndI hend rfl dX11_worst_171 ⟨h, rfl⟩
      · replace h := h.2 q1
        refine y_iconst (v := 0) hg dX11_worst_17 (by decide) ?_
        refine y_istore (lv' := [(6, .int 0), (0, va_rf (some a0)), (1, .int v1), (2, .int v2), (3, .int v3), (4, .int v4), (5, .int v5)]) hg dX11_worst_18 (by rw [hgN]; decide) rfl ?_
        refine y_iconst (v := 0) hg dX11_worst_20 (by decide) ?_
        refine y_istore (lv' := [(7, .int 0), (6, .int 0), (0, va_rf (some a0)), (1, .int v1), (2, .int v2), (3, .int v3), (4, .int v4), (5, .int v5)]) hg dX11_worst_21 (by rw [hgN]; decide) rfl ?_
        refine y_iconst (v := 0) hg dX11_worst_23 (by decide) ?_
        refine y_istore (lv' := [(8, .int 0), (7, .int 0), (6, .int 0), (0, va_rf (some a0)), (1, .int v1), (2, .int v2), (3, .int v3), (4, .int v4), (5, .int v5)]) hg dX11_worst_24 (by rw [hgN]; decide) rfl ?_
        refine y_sub [3, 4, 5, 6, 7, 8, 2, 1, 0] rfl ?_
        exact J26 _ _ _ _ _ _ _ h
    exact key10 n10 v2 v3 v4 v5 hI10
  refine y_iconst (v := (-1)) hg dX11_worst_0 (by decide) ?_
  refine y_istore_n (lv' := [(2, .int (-1)), (0, va_rf (some a0)), (1, .int v1)]) hg dX11_worst_1 rfl (by rw [hgN]; decide) rfl ?_
  refine y_iconst (v := 0) hg dX11_worst_2 (by decide) ?_
  refine y_istore_n (lv' := [(3, .int 0), (2, .int (-1)), (0, va_rf (some a0)), (1, .int v1)]) hg dX11_worst_3 rfl (by rw [hgN]; decide) rfl ?_
  refine y_iconst (v := 0) hg dX11_worst_4 (by decide) ?_
  refine y_istore (lv' := [(4, .int 0), (3, .int 0), (2, .int (-1)), (0, va_rf (some a0)), (1, .int v1)]) hg dX11_worst_5 (by rw [hgN]; decide) rfl ?_
  refine y_iconst (v := 0) hg dX11_worst_7 (by decide) ?_
  refine y_istore (lv' := [(5, .int 0), (4, .int 0), (3, .int 0), (2, .int (-1)), (0, va_rf (some a0)), (1, .int v1)]) hg dX11_worst_8 (by rw [hgN]; decide) rfl ?_
  refine y_sub [4, 5, 3, 2, 1, 0] rfl ?_
  exact J10 _ _ _ _ _ h
def P_X11_close (a0 : Nat) (v1 : Int32) (σ : Sg) (Q : Int32 → Sg → Prop) : Prop :=
  sK σ a0 % 32 = 13 ∧ P_X11_isIn v1 0 ((sI σ a0 6) - 1) σ (fun x2 => (x2 = 0 → Q 0 σ) ∧ (¬ (x2 = 0) → ∃ c4 : Nat, sR σ a0 66 = some c4 ∧ sK σ c4 % 32 = 18 ∧ vp_in v1 (sN σ c4) ∧ ((sI σ c4 v1.toNatClampNeg) = 0 → Q 0 σ) ∧ (¬ ((sI σ c4 v1.toNatClampNeg) = 0) → ∃ c9 : Nat, sR σ a0 66 = some c9 ∧ sK σ c9 % 32 = 18 ∧ vp_in v1 (sN σ c9) ∧ ∀ σ13 : Sg, σ13 = pI σ c9 v1.toNatClampNeg 0 → Q 1 σ13)))
set_option maxHeartbeats 4000000 in
set_option maxRecDepth 100000 in
theorem k_X11_close (l : Launch) (D : Dg) (a0 : Nat) (v1 : Int32) (σ : Sg) (Q : Int32 → Sg → Prop) (h : P_X11_close a0 v1 σ Q) : CtrY RN l D yX11_close cX11_close 2 (some FieldType.boolean) 1 22 mkI [.ref a0, .int v1] σ (0, 0) Q := by
  refine y_ctrN (lv := [(0, va_rf (some a0)), (1, .int v1)]) (by decide) (by (exact Nat.le_of_ble_eq_true rfl)) (by (exact rfl)) (fun g hg hgL hgD hrm hgN hgI hend => ?_)
  subst hgD
  clear hgL
  unfold P_X11_close at h
  refine y_iload_n hg 1 dX11_close_0 rfl rfl ?_
  refine y_iconst (v := 0) hg dX11_close_1 (by decide) ?_
  refine y_aload_n hg 0 dX11_close_2 rfl rfl ?_
  obtain ⟨h1, h⟩ := h
  refine y_getI hg fl_X11_338 rfl rfl h1 dX11_close_3 ?_
  refine y_iconst (v := 1) hg dX11_close_6 (by decide) ?_
  refine y_isub hg dX11_close_7 ?_
  refine ySIP (Qp := _) (rest := []) (As := [.int v1, .int 0, .int ((sI σ a0 6) - 1)]) hg (k_X11_isIn (gL g.1) (gD g.1) v1 0 ((sI σ a0 6) - 1) σ _ h) ls_X11_194 rfl rfl dX11_close_8 (cat8 (Nat.le_of_ble_eq_true rfl)) hrm ⟨Nat.le_of_ble_eq_true rfl, Nat.le_of_ble_eq_true rfl⟩ (fun x2 h => ?_)
  refine y_if_eq (tgt := 23) hg dX11_close_11 (by decide) (fun q3 => ?_) (fun q3 => ?_)
  · replace h := h.1 q3
    refine y_iconst (v := 0) hg dX11_close_23 (by decide) ?_
    exact yEndI hend (bz_nar (Or.inl rfl)).1 dX11_close_24 h
  · replace h := h.2 q3
    refine y_aload_n hg 0 dX11_close_14 rfl rfl ?_
    refine y_getR hg fl_X11_156 rfl rfl h1 dX11_close_15 ?_
    refine y_iload_n hg 1 dX11_close_18 rfl rfl ?_
    obtain ⟨c4, h5, h⟩ := h
    obtain ⟨h6, h⟩ := h
    obtain ⟨h7, h⟩ := h
    refine y_zald hg h5 h6 h7 dX11_close_19 ?_
    refine y_if_ne (tgt := 25) hg dX11_close_20 (by decide) (fun q8 => ?_) (fun q8 => ?_)
    · replace h := h.2 q8
      refine y_aload_n hg 0 dX11_close_25 rfl rfl ?_
      refine y_getR hg fl_X11_156 rfl rfl h1 dX11_close_26 ?_
      refine y_iload_n hg 1 dX11_close_29 rfl rfl ?_
      refine y_iconst (v := 0) hg dX11_close_30 (by decide) ?_
      obtain ⟨c9, h10, h⟩ := h
      obtain ⟨h11, h⟩ := h
      obtain ⟨h12, h⟩ := h
      refine y_zast hg h10 h11 h12 (Or.inl rfl) dX11_close_31 ?_
      refine y_nmS (fun σ13 e14 => ?_)
      replace h := h σ13 e14
      have E15 : sK σ13 = sK σ := by rw [e14]; rfl
      refine y_iconst (v := 1) hg dX11_close_32 (by decide) ?_
      exact yEndI hend (bz_nar (Or.inr rfl)).1 dX11_close_33 h
    · replace h := h.1 q8
      refine y_iconst (v := 0) hg dX11_close_23 (by decide) ?_
      exact yEndI hend (bz_nar (Or.inl rfl)).1 dX11_close_24 h
def P_X11_complaint (a0 : Nat) (v1 : Int32) (v2 : Int32) (σ : Sg) (Q : Int32 → Prop) : Prop :=
  sK σ a0 % 32 = 13 ∧ P_X11_isIn v1 0 ((sI σ a0 6) - 1) σ (fun x2 => (x2 = 0 → Q (-1)) ∧ (¬ (x2 = 0) → ∀ y4 : Int32, y4 = v2 → (y4 = 0 → ∃ c6 : Nat, sR σ a0 61 = some c6 ∧ sK σ c6 % 32 = 16 ∧ vp_in v1 (sN σ c6) ∧ Q (sI σ c6 v1.toNatClampNeg)) ∧ (¬ (y4 = 0) → (y4 = 1 → ∃ c10 : Nat, sR σ a0 62 = some c10 ∧ sK σ c10 % 32 = 16 ∧ vp_in v1 (sN σ c10) ∧ Q (sI σ c10 v1.toNatClampNeg)) ∧ (¬ (y4 = 1) → (y4 = 2 → ∃ c14 : Nat, sR σ a0 63 = some c14 ∧ sK σ c14 % 32 = 16 ∧ vp_in v1 (sN σ c14) ∧ Q (sI σ c14 v1.toNatClampNeg)) ∧ (¬ (y4 = 2) → (y4 = 3 → ∃ c18 : Nat, sR σ a0 64 = some c18 ∧ sK σ c18 % 32 = 16 ∧ vp_in v1 (sN σ c18) ∧ Q (sI σ c18 v1.toNatClampNeg)) ∧ (¬ (y4 = 3) → (y4 = 4 → ∃ c22 : Nat, sR σ a0 65 = some c22 ∧ sK σ c22 % 32 = 16 ∧ vp_in v1 (sN σ c22) ∧ Q (sI σ c22 v1.toNatClampNeg)) ∧ (¬ (y4 = 4) → (y4 = 5 → ∃ c26 : Nat, sR σ a0 66 = some c26 ∧ sK σ c26 % 32 = 18 ∧ vp_in v1 (sN σ c26) ∧ P_X11_one (sI σ c26 v1.toNatClampNeg) σ (fun x30 => Q x30)) ∧ (¬ (y4 = 5) → Q (-1)))))))))
set_option maxHeartbeats 4000000 in
set_option maxRecDepth 100000 in
theorem k_X11_complaint (l : Launch) (D : Dg) (a0 : Nat) (v1 : Int32) (v2 : Int32) (σ : Sg) (Q : Int32 → Prop) (h : P_X11_complaint a0 v1 v2 σ Q) : CtrY RN l D yX11_complaint cX11_complaint 3 (some FieldType.int) 1 22 mkI [.ref a0, .int v1, .int v2] σ (0, 0) (fun r σ2 => Q r ∧ σ2 = σ) := by
  refine y_ctrN (lv := [(0, va_rf (some a0)), (1, .int v1), (2, .int v2)]) (by decide) (by (exact Nat.le_of_ble_eq_true rfl)) (by (exact rfl)) (fun g hg hgL hgD hrm hgN hgI hend => ?_)
  subst hgD
  clear hgL
  unfold P_X11_complaint at h
  refine y_iload_n hg 1 dX11_complaint_0 rfl rfl ?_
  refine y_iconst (v := 0) hg dX11_complaint_1 (by decide) ?_
  refine y_aload_n hg 0 dX11_complaint_2 rfl rfl ?_
  obtain ⟨h1, h⟩ := h
  refine y_getI hg fl_X11_338 rfl rfl h1 dX11_complaint_3 ?_
  refine y_iconst (v := 1) hg dX11_complaint_6 (by decide) ?_
  refine y_isub hg dX11_complaint_7 ?_
  refine ySIP (Qp := _) (rest := []) (As := [.int v1, .int 0, .int ((sI σ a0 6) - 1)]) hg (k_X11_isIn (gL g.1) (gD g.1) v1 0 ((sI σ a0 6) - 1) σ _ h) ls_X11_194 rfl rfl dX11_complaint_8 (cat8 (Nat.le_of_ble_eq_true rfl)) hrm ⟨Nat.le_of_ble_eq_true rfl, Nat.le_of_ble_eq_true rfl⟩ (fun x2 h => ?_)
  refine y_if_ne (tgt := 16) hg dX11_complaint_11 (by decide) (fun q3 => ?_) (fun q3 => ?_)
  · replace h := h.2 q3
    refine y_iload_n hg 2 dX11_complaint_16 rfl rfl ?_
    refine y_nmI (fun y4 e5 => ?_)
    replace h := h y4 e5
    by_cases q17_0 : y4 = 0
    · replace h := h.1 q17_0
      refine y_tableIn (tgt := 56) hg dX11_complaint_17 (by rw [q17_0]; decide) (by rw [q17_0]; decide) (by rw [q17_0]; rfl) (by decide) ?_
      refine y_aload_n hg 0 dX11_complaint_56 rfl rfl ?_
      refine y_getR hg fl_X11_141 rfl rfl h1 dX11_complaint_57 ?_
      refine y_iload_n hg 1 dX11_complaint_60 rfl rfl ?_
      obtain ⟨c6, h7, h⟩ := h
      obtain ⟨h8, h⟩ := h
      obtain ⟨h9, h⟩ := h
      refine y_iald hg h7 h8 h9 dX11_complaint_61 ?_
      exact yEndI hend rfl dX11_complaint_62 ⟨h, rfl⟩
    · replace h := h.2 q17_0
      by_cases q17_1 : y4 = 1
      · replace h := h.1 q17_1
        refine y_tableIn (tgt := 63) hg dX11_complaint_17 (by rw [q17_1]; decide) (by rw [q17_1]; decide) (by rw [q17_1]; rfl) (by decide) ?_
        refine y_aload_n hg 0 dX11_complaint_63 rfl rfl ?_
        refine y_getR hg fl_X11_144 rfl rfl h1 dX11_complaint_64 ?_
        refine y_iload_n hg 1 dX11_complaint_67 rfl rfl ?_
        obtain ⟨c10, h11, h⟩ := h
        obtain ⟨h12, h⟩ := h
        obtain ⟨h13, h⟩ := h
        refine y_iald hg h11 h12 h13 dX11_complaint_68 ?_
        exact yEndI hend rfl dX11_complaint_69 ⟨h, rfl⟩
      · replace h := h.2 q17_1
        by_cases q17_2 : y4 = 2
        · replace h := h.1 q17_2
          refine y_tableIn (tgt := 70) hg dX11_complaint_17 (by rw [q17_2]; decide) (by rw [q17_2]; decide) (by rw [q17_2]; rfl) (by decide) ?_
          refine y_aload_n hg 0 dX11_complaint_70 rfl rfl ?_
          refine y_getR hg fl_X11_147 rfl rfl h1 dX11_complaint_71 ?_
          refine y_iload_n hg 1 dX11_complaint_74 rfl rfl ?_
          obtain ⟨c14, h15, h⟩ := h
          obtain ⟨h16, h⟩ := h
          obtain ⟨h17, h⟩ := h
          refine y_iald hg h15 h16 h17 dX11_complaint_75 ?_
          exact yEndI hend rfl dX11_complaint_76 ⟨h, rfl⟩
        · replace h := h.2 q17_2
          by_cases q17_3 : y4 = 3
          · replace h := h.1 q17_3
            refine y_tableIn (tgt := 77) hg dX11_complaint_17 (by rw [q17_3]; decide) (by rw [q17_3]; decide) (by rw [q17_3]; rfl) (by decide) ?_
            refine y_aload_n hg 0 dX11_complaint_77 rfl rfl ?_
            refine y_getR hg fl_X11_150 rfl rfl h1 dX11_complaint_78 ?_
            refine y_iload_n hg 1 dX11_complaint_81 rfl rfl ?_
            obtain ⟨c18, h19, h⟩ := h
            obtain ⟨h20, h⟩ := h
            obtain ⟨h21, h⟩ := h
            refine y_iald hg h19 h20 h21 dX11_complaint_82 ?_
            exact yEndI hend rfl dX11_complaint_83 ⟨h, rfl⟩
          · replace h := h.2 q17_3
            by_cases q17_4 : y4 = 4
            · replace h := h.1 q17_4
              refine y_tableIn (tgt := 84) hg dX11_complaint_17 (by rw [q17_4]; decide) (by rw [q17_4]; decide) (by rw [q17_4]; rfl) (by decide) ?_
              refine y_aload_n hg 0 dX11_complaint_84 rfl rfl ?_
              refine y_getR hg fl_X11_153 rfl rfl h1 dX11_complaint_85 ?_
              refine y_iload_n hg 1 dX11_complaint_88 rfl rfl ?_
              obtain ⟨c22, h23, h⟩ := h
              obtain ⟨h24, h⟩ := h
              obtain ⟨h25, h⟩ := h
              refine y_iald hg h23 h24 h25 dX11_complaint_89 ?_
              exact yEndI hend rfl dX11_complaint_90 ⟨h, rfl⟩
            · replace h := h.2 q17_4
              by_cases q17_5 : y4 = 5
              · replace h := h.1 q17_5
                refine y_tableIn (tgt := 91) hg dX11_complaint_17 (by rw [q17_5]; decide) (by rw [q17_5]; decide) (by rw [q17_5]; rfl) (by decide) ?_
                refine y_aload_n hg 0 dX11_complaint_91 rfl rfl ?_
                refine y_getR hg fl_X11_156 rfl rfl h1 dX11_complaint_92 ?_
                refine y_iload_n hg 1 dX11_complaint_95 rfl rfl ?_
                obtain ⟨c26, h27, h⟩ := h
                obtain ⟨h28, h⟩ := h
                obtain ⟨h29, h⟩ := h
                refine y_zald hg h27 h28 h29 dX11_complaint_96 ?_
                refine ySIP (Qp := _) (rest := []) (As := [.int (sI σ c26 v1.toNatClampNeg)]) hg (k_X11_one (gL g.1) (gD g.1) (sI σ c26 v1.toNatClampNeg) σ _ h) ls_X11_319 rfl rfl dX11_complaint_97 (cat8 (Nat.le_of_ble_eq_true rfl)) hrm ⟨Nat.le_of_ble_eq_true rfl, Nat.le_of_ble_eq_true rfl⟩ (fun x30 h => ?_)
                exact yEndI hend rfl dX11_complaint_100 ⟨h, rfl⟩
              · replace h := h.2 q17_5
                refine y_tableOut (tgt := 101) hg dX11_complaint_17 (sw5_out q17_0 q17_1 q17_2 q17_3 q17_4 q17_5) (by decide) ?_
                refine y_iconst (v := (-1)) hg dX11_complaint_101 (by decide) ?_
                exact yEndI hend rfl dX11_complaint_102 ⟨h, rfl⟩
  · replace h := h.1 q3
    refine y_iconst (v := (-1)) hg dX11_complaint_14 (by decide) ?_
    exact yEndI hend rfl dX11_complaint_15 ⟨h, rfl⟩
def P_X11_four_L3b (a0 : Nat) (v1 : Int32) (v2 : Int32) (σ : Sg) (Q : Unit → Sg → Prop) (K3 : Int32 → Sg → Prop) : Prop :=
  (v2 < 0 → Q () σ) ∧ (¬ (v2 < 0) → sK σ a0 % 32 = 13 ∧ ∃ c3 : Nat, sR σ a0 75 = some c3 ∧ sK σ c3 % 32 = 19 ∧ vp_in (sI σ a0 77) (sN σ c3) ∧ ∀ σ7 : Sg, σ7 = pI σ c3 (sI σ a0 77).toNatClampNeg ((v1 >>> (v2 &&& 31)).toInt8.toInt32).toInt8.toInt32 → ∀ σ10 : Sg, σ10 = pI σ7 a0 77 ((sI σ7 a0 77) + 1) → ∀ x13 : Int32, x13 = v2 + (-8) → K3 x13 σ10)
def P_X11_four_L3 (a0 : Nat) (v1 : Int32) (v2 : Int32) (σ : Sg) (Q : Unit → Sg → Prop) : Prop :=
  ∃ I : Nat → Int32 → Sg → Prop, (∃ n, I n v2 σ) ∧ ∀ (n : Nat) (v2 : Int32) (σ : Sg), I n v2 σ → P_X11_four_L3b a0 v1 v2 σ Q (fun v2 σ => ∃ n', n' < n ∧ I n' v2 σ)
def P_X11_four (a0 : Nat) (v1 : Int32) (σ : Sg) (Q : Unit → Sg → Prop) : Prop :=
  P_X11_four_L3 a0 v1 24 σ Q
set_option maxHeartbeats 4000000 in
set_option maxRecDepth 100000 in
theorem k_X11_four (l : Launch) (D : Dg) (a0 : Nat) (v1 : Int32) (σ : Sg) (Q : Unit → Sg → Prop) (h : P_X11_four a0 v1 σ Q) : CtrY RN l D yX11_four cX11_four 3 (none) 0 0 mkV [.ref a0, .int v1] σ (0, 0) Q := by
  refine y_ctrN (lv := [(0, va_rf (some a0)), (1, .int v1)]) (by decide) (by (exact Nat.le_of_ble_eq_true rfl)) (by (exact rfl)) (fun g hg hgL hgD hrm hgN hgI hend => ?_)
  subst hgD
  clear hgL
  unfold P_X11_four at h
  have J3 : ∀ (v1 : Int32) (v2 : Int32) (σ : Sg), P_X11_four_L3 a0 v1 v2 σ Q → XA g 3 [(0, va_rf (some a0)), (1, .int v1), (2, .int v2)] [] σ (0, 0) := by
    intro v1 v2 σ h
    unfold P_X11_four_L3 at h
    obtain ⟨I3, ⟨n3, hI3⟩, hs3⟩ := h
    have key3 : ∀ (n : Nat), ∀ (v2 : Int32) (σ : Sg), I3 n v2 σ → XA g 3 [(0, va_rf (some a0)), (1, .int v1), (2, .int v2)] [] σ (0, 0) := by
      intro n
      induction n using Nat.strongRecOn with
      | _ n ih3 =>
      intro v2 σ hI
      have h := hs3 n v2 σ hI
      clear hI hI3 hs3
      obtain ⟨K3, hK3⟩ : ∃ K : Int32 → Sg → Prop, K = (fun v2 σ => ∃ n', n' < n ∧ I3 n' v2 σ) := ⟨_, rfl⟩
      rw [← hK3] at h
      unfold P_X11_four_L3b at h
      refine y_iload_n hg 2 dX11_four_3 rfl rfl ?_
      refine y_if_lt (tgt := 36) hg dX11_four_4 (by decide) (fun q1 => ?_) (fun q1 => ?_)
      · replace h := h.1 q1
        exact yEndV hend dX11_four_36 h
      · replace h := h.2 q1
        refine y_aload_n hg 0 dX11_four_7 rfl rfl ?_
        obtain ⟨h2, h⟩ := h
        refine y_getR hg fl_X11_180 rfl rfl h2 dX11_four_8 ?_
        refine y_aload_n hg 0 dX11_four_11 rfl rfl ?_
        refine y_getI hg fl_X11_341 rfl rfl h2 dX11_four_12 ?_
        refine y_iload_n hg 1 dX11_four_15 rfl rfl ?_
        refine y_iload_n hg 2 dX11_four_16 rfl rfl ?_
        refine y_ishr hg dX11_four_17 ?_
        refine y_i2b hg dX11_four_18 ?_
        obtain ⟨c3, h4, h⟩ := h
        obtain ⟨h5, h⟩ := h
        obtain ⟨h6, h⟩ := h
        refine y_bast hg h4 h5 h6 dX11_four_19 ?_
        refine y_nmS (fun σ7 e8 => ?_)
        replace h := h σ7 e8
        have E9 : sK σ7 = sK σ := by rw [e8]; rfl
        refine y_aload_n hg 0 dX11_four_20 rfl rfl ?_
        refine y_dup hg dX11_four_21 rfl ?_
        refine y_getI hg fl_X11_341 rfl rfl (kq E9 h2) dX11_four_22 ?_
        refine y_iconst (v := 1) hg dX11_four_25 (by decide) ?_
        refine y_iadd hg dX11_four_26 ?_
        refine y_putI hg fw_X11_341 (fun z => nomatch z) rfl (kq E9 h2) dX11_four_27 ?_
        refine y_nmS (fun σ10 e11 => ?_)
        replace h := h σ10 e11
        have E12 : sK σ10 = sK σ7 := by rw [e11]; rfl
        obtain ⟨x13, e14⟩ : ∃ y : Int32, y = v2 + (-8) := ⟨_, rfl⟩
        replace h := h x13 e14
        refine y_iinc (v := x13) (lv' := [(2, .int x13), (0, va_rf (some a0)), (1, .int v1)]) hg 2 dX11_four_30 rfl (by rw [e14]; rfl) (by rw [hgN]; decide) rfl ?_
        refine y_goto (tgt := 3) hg dX11_four_33 (by decide) ?_
        refine y_sub [1, 2, 0] rfl ?_
        subst hK3
        obtain ⟨n15, h16, h⟩ := h
        exact ih3 n15 h16 _ _ h
    exact key3 n3 v2 σ hI3
  refine y_bipush (v := 24) hg dX11_four_0 (by decide) ?_
  refine y_istore_n (lv' := [(2, .int 24), (0, va_rf (some a0)), (1, .int v1)]) hg dX11_four_2 rfl (by rw [hgN]; decide) rfl ?_
  refine y_sub [1, 2, 0] rfl ?_
  exact J3 _ _ _ h
def P_X11_feed (a0 : Nat) (v1 : Int32) (v2 : Int32) (v3 : Int32) (v4 : Int32) (v5 : Int32) (σ : Sg) (Q : Int32 → Sg → Prop) : Prop :=
  sK σ a0 % 32 = 13 ∧ (((sI σ a0 77) + 20) ≤ 700 → P_X11_four a0 v1 σ (fun _ σ4 => P_X11_four a0 v2 σ4 (fun _ σ8 => P_X11_four a0 v3 σ8 (fun _ σ12 => P_X11_four a0 v4 σ12 (fun _ σ16 => P_X11_four a0 v5 σ16 (fun _ σ20 => Q (sI σ20 a0 77) σ20)))))) ∧ (¬ (((sI σ a0 77) + 20) ≤ 700) → Q (-1) σ)
set_option maxHeartbeats 4000000 in
set_option maxRecDepth 100000 in
theorem k_X11_feed (l : Launch) (D : Dg) (a0 : Nat) (v1 : Int32) (v2 : Int32) (v3 : Int32) (v4 : Int32) (v5 : Int32) (σ : Sg) (Q : Int32 → Sg → Prop) (h : P_X11_feed a0 v1 v2 v3 v4 v5 σ Q) : CtrY RN l D yX11_feed cX11_feed 6 (some FieldType.int) 1 22 mkI [.ref a0, .int v1, .int v2, .int v3, .int v4, .int v5] σ (0, 0) Q := by
  refine y_ctrN (lv := [(0, va_rf (some a0)), (1, .int v1), (2, .int v2), (3, .int v3), (4, .int v4), (5, .int v5)]) (by decide) (by (exact Nat.le_of_ble_eq_true rfl)) (by (exact rfl)) (fun g hg hgL hgD hrm hgN hgI hend => ?_)
  subst hgD
  clear hgL
  unfold P_X11_feed at h
  refine y_aload_n hg 0 dX11_feed_0 rfl rfl ?_
  obtain ⟨h1, h⟩ := h
  refine y_getI hg fl_X11_341 rfl rfl h1 dX11_feed_1 ?_
  refine y_bipush (v := 20) hg dX11_feed_4 (by decide) ?_
  refine y_iadd hg dX11_feed_6 ?_
  refine y_sipush (v := 700) hg dX11_feed_7 (by decide) ?_
  refine y_icmp_le (tgt := 15) hg dX11_feed_10 (by decide) (fun q2 => ?_) (fun q2 => ?_)
  · replace h := h.1 q2
    refine y_aload_n hg 0 dX11_feed_15 rfl rfl ?_
    refine y_iload_n hg 1 dX11_feed_16 rfl rfl ?_
    refine yVVW (Qm := _) (rest := []) (As := [.int v1]) hg (k_X11_four (gL g.1) (gD g.1) a0 v1 σ _ h) lv_X11_344 rfl h1 rfl rfl dX11_feed_17 (cat8 (Nat.le_of_ble_eq_true rfl)) hrm ⟨Nat.le_of_ble_eq_true rfl, Nat.le_of_ble_eq_true rfl⟩ (fun u3 σ4 h h5 => ?_)
    have h6 := kp h5 (show ¬ 13 = 0 by decide) h1
    refine y_aload_n hg 0 dX11_feed_20 rfl rfl ?_
    refine y_iload_n hg 2 dX11_feed_21 rfl rfl ?_
    refine yVVW (Qm := _) (rest := []) (As := [.int v2]) hg (k_X11_four (gL g.1) (gD g.1) a0 v2 σ4 _ h) lv_X11_344 rfl h6 rfl rfl dX11_feed_22 (cat8 (Nat.le_of_ble_eq_true rfl)) hrm ⟨Nat.le_of_ble_eq_true rfl, Nat.le_of_ble_eq_true rfl⟩ (fun u7 σ8 h h9 => ?_)
    have h10 := kp h9 (show ¬ 13 = 0 by decide) h6
    refine y_aload_n hg 0 dX11_feed_25 rfl rfl ?_
    refine y_iload_n hg 3 dX11_feed_26 rfl rfl ?_
    refine yVVW (Qm := _) (rest := []) (As := [.int v3]) hg (k_X11_four (gL g.1) (gD g.1) a0 v3 σ8 _ h) lv_X11_344 rfl h10 rfl rfl dX11_feed_27 (cat8 (Nat.le_of_ble_eq_true rfl)) hrm ⟨Nat.le_of_ble_eq_true rfl, Nat.le_of_ble_eq_true rfl⟩ (fun u11 σ12 h h13 => ?_)
    have h14 := kp h13 (show ¬ 13 = 0 by decide) h10
    refine y_aload_n hg 0 dX11_feed_30 rfl rfl ?_
    refine y_iload hg 4 dX11_feed_31 rfl ?_
    refine yVVW (Qm := _) (rest := []) (As := [.int v4]) hg (k_X11_four (gL g.1) (gD g.1) a0 v4 σ12 _ h) lv_X11_344 rfl h14 rfl rfl dX11_feed_33 (cat8 (Nat.le_of_ble_eq_true rfl)) hrm ⟨Nat.le_of_ble_eq_true rfl, Nat.le_of_ble_eq_true rfl⟩ (fun u15 σ16 h h17 => ?_)
    have h18 := kp h17 (show ¬ 13 = 0 by decide) h14
    refine y_aload_n hg 0 dX11_feed_36 rfl rfl ?_
    refine y_iload hg 5 dX11_feed_37 rfl ?_
    refine yVVW (Qm := _) (rest := []) (As := [.int v5]) hg (k_X11_four (gL g.1) (gD g.1) a0 v5 σ16 _ h) lv_X11_344 rfl h18 rfl rfl dX11_feed_39 (cat8 (Nat.le_of_ble_eq_true rfl)) hrm ⟨Nat.le_of_ble_eq_true rfl, Nat.le_of_ble_eq_true rfl⟩ (fun u19 σ20 h h21 => ?_)
    have h22 := kp h21 (show ¬ 13 = 0 by decide) h18
    refine y_aload_n hg 0 dX11_feed_42 rfl rfl ?_
    refine y_getI hg fl_X11_341 rfl rfl h22 dX11_feed_43 ?_
    exact yEndI hend rfl dX11_feed_46 h
  · replace h := h.2 q2
    refine y_iconst (v := (-1)) hg dX11_feed_13 (by decide) ?_
    exact yEndI hend rfl dX11_feed_14 h
def P_X11_blanks_B39 (a0 : Nat) (σ : Sg) (Q : Unit → Sg → Prop) (K0 : Sg → Prop) : Prop :=
  sK σ a0 % 32 = 13 ∧ ∀ σ14 : Sg, σ14 = pI σ a0 79 ((sI σ a0 79) + 1) → K0 σ14
def P_X11_blanks_L0b (a0 : Nat) (σ : Sg) (Q : Unit → Sg → Prop) (K0 : Sg → Prop) : Prop :=
  sK σ a0 % 32 = 13 ∧ ((sI σ a0 78) ≤ (sI σ a0 79) → Q () σ) ∧ (¬ ((sI σ a0 78) ≤ (sI σ a0 79)) → ∃ c3 : Nat, sR σ a0 76 = some c3 ∧ sK σ c3 % 32 = 19 ∧ vp_in (sI σ a0 79) (sN σ c3) ∧ ((sI σ c3 (sI σ a0 79).toNatClampNeg) = 32 → P_X11_blanks_B39 a0 σ Q K0) ∧ (¬ ((sI σ c3 (sI σ a0 79).toNatClampNeg) = 32) → ∃ c8 : Nat, sR σ a0 76 = some c8 ∧ sK σ c8 % 32 = 19 ∧ vp_in (sI σ a0 79) (sN σ c8) ∧ ((sI σ c8 (sI σ a0 79).toNatClampNeg) = 10 → P_X11_blanks_B39 a0 σ Q K0) ∧ (¬ ((sI σ c8 (sI σ a0 79).toNatClampNeg) = 10) → Q () σ)))
def P_X11_blanks_L0 (a0 : Nat) (σ : Sg) (Q : Unit → Sg → Prop) : Prop :=
  ∃ I : Nat → Sg → Prop, (∃ n, I n σ) ∧ ∀ (n : Nat) (σ : Sg), I n σ → P_X11_blanks_L0b a0 σ Q (fun σ => ∃ n', n' < n ∧ I n' σ)
def P_X11_blanks (a0 : Nat) (σ : Sg) (Q : Unit → Sg → Prop) : Prop :=
  P_X11_blanks_L0 a0 σ Q
set_option maxHeartbeats 4000000 in
set_option maxRecDepth 100000 in
theorem k_X11_blanks (l : Launch) (D : Dg) (a0 : Nat) (σ : Sg) (Q : Unit → Sg → Prop) (h : P_X11_blanks a0 σ Q) : CtrY RN l D yX11_blanks cX11_blanks 1 (none) 0 0 mkV [.ref a0] σ (0, 0) Q := by
  refine y_ctrN (lv := [(0, va_rf (some a0))]) (by decide) (by (exact Nat.le_of_ble_eq_true rfl)) (by (exact rfl)) (fun g hg hgL hgD hrm hgN hgI hend => ?_)
  subst hgD
  clear hgL
  unfold P_X11_blanks at h
  have J0 : ∀ (σ : Sg), P_X11_blanks_L0 a0 σ Q → XA g 0 [(0, va_rf (some a0))] [] σ (0, 0) := by
    intro σ h
    unfold P_X11_blanks_L0 at h
    obtain ⟨I0, ⟨n0, hI0⟩, hs0⟩ := h
    have key0 : ∀ (n : Nat), ∀ (σ : Sg), I0 n σ → XA g 0 [(0, va_rf (some a0))] [] σ (0, 0) := by
      intro n
      induction n using Nat.strongRecOn with
      | _ n ih0 =>
      intro σ hI
      have h := hs0 n σ hI
      clear hI hI0 hs0
      obtain ⟨K0, hK0⟩ : ∃ K : Sg → Prop, K = (fun σ => ∃ n', n' < n ∧ I0 n' σ) := ⟨_, rfl⟩
      rw [← hK0] at h
      unfold P_X11_blanks_L0b at h
      have J39 : ∀ (σ : Sg), P_X11_blanks_B39 a0 σ Q K0 → XA g 39 [(0, va_rf (some a0))] [] σ (0, 0) := by
        intro σ h
        unfold P_X11_blanks_B39 at h
        refine y_aload_n hg 0 dX11_blanks_39 rfl rfl ?_
        refine y_dup hg dX11_blanks_40 rfl ?_
        obtain ⟨h13, h⟩ := h
        refine y_getI hg fl_X11_347 rfl rfl h13 dX11_blanks_41 ?_
        refine y_iconst (v := 1) hg dX11_blanks_44 (by decide) ?_
        refine y_iadd hg dX11_blanks_45 ?_
        refine y_putI hg fw_X11_347 (fun z => nomatch z) rfl h13 dX11_blanks_46 ?_
        refine y_nmS (fun σ14 e15 => ?_)
        replace h := h σ14 e15
        have E16 : sK σ14 = sK σ := by rw [e15]; rfl
        refine y_goto (tgt := 0) hg dX11_blanks_49 (by decide) ?_
        refine y_sub [0] rfl ?_
        subst hK0
        obtain ⟨n17, h18, h⟩ := h
        exact ih0 n17 h18 _ h
      refine y_aload_n hg 0 dX11_blanks_0 rfl rfl ?_
      obtain ⟨h1, h⟩ := h
      refine y_getI hg fl_X11_347 rfl rfl h1 dX11_blanks_1 ?_
      refine y_aload_n hg 0 dX11_blanks_4 rfl rfl ?_
      refine y_getI hg fl_X11_350 rfl rfl h1 dX11_blanks_5 ?_
      refine y_icmp_ge (tgt := 52) hg dX11_blanks_8 (by decide) (fun q2 => ?_) (fun q2 => ?_)
      · replace h := h.1 q2
        exact yEndV hend dX11_blanks_52 h
      · replace h := h.2 q2
        refine y_aload_n hg 0 dX11_blanks_11 rfl rfl ?_
        refine y_getR hg fl_X11_184 rfl rfl h1 dX11_blanks_12 ?_
        refine y_aload_n hg 0 dX11_blanks_15 rfl rfl ?_
        refine y_getI hg fl_X11_347 rfl rfl h1 dX11_blanks_16 ?_
        obtain ⟨c3, h4, h⟩ := h
        obtain ⟨h5, h⟩ := h
        obtain ⟨h6, h⟩ := h
        refine y_bald hg h4 h5 h6 dX11_blanks_19 ?_
        refine y_bipush (v := 32) hg dX11_blanks_20 (by decide) ?_
        refine y_icmp_eq (tgt := 39) hg dX11_blanks_22 (by decide) (fun q7 => ?_) (fun q7 => ?_)
        · replace h := h.1 q7
          refine y_sub [0] rfl ?_
          exact J39 _ h
        · replace h := h.2 q7
          refine y_aload_n hg 0 dX11_blanks_25 rfl rfl ?_
          refine y_getR hg fl_X11_184 rfl rfl h1 dX11_blanks_26 ?_
          refine y_aload_n hg 0 dX11_blanks_29 rfl rfl ?_
          refine y_getI hg fl_X11_347 rfl rfl h1 dX11_blanks_30 ?_
          obtain ⟨c8, h9, h⟩ := h
          obtain ⟨h10, h⟩ := h
          obtain ⟨h11, h⟩ := h
          refine y_bald hg h9 h10 h11 dX11_blanks_33 ?_
          refine y_bipush (v := 10) hg dX11_blanks_34 (by decide) ?_
          refine y_icmp_ne (tgt := 52) hg dX11_blanks_36 (by decide) (fun q12 => ?_) (fun q12 => ?_)
          · replace h := h.2 q12
            exact yEndV hend dX11_blanks_52 h
          · replace h := h.1 q12
            refine y_sub [0] rfl ?_
            exact J39 _ h
    exact key0 n0 σ hI0
  refine y_sub [0] rfl ?_
  exact J0 _ h
def P_X11_takes_B78 (a0 : Nat) (v1 : Int64) (v3 : Int32) (v4 : Int64) (σ : Sg) (Q : Int32 → Sg → Prop) : Prop :=
  sK σ a0 % 32 = 13 ∧ (7 < (v3 - (sI σ a0 79)) → Q 0 σ) ∧ (¬ (7 < (v3 - (sI σ a0 79))) → (v4 = v1 → ∀ σ32 : Sg, σ32 = pI σ a0 79 v3 → Q 1 σ32) ∧ (¬ (v4 = v1) → Q 0 σ))
def P_X11_takes_B70 (a0 : Nat) (v1 : Int64) (v3 : Int32) (w0 : Int64) (σ : Sg) (Q : Int32 → Sg → Prop) (K12 : Int32 → Int64 → Prop) : Prop :=
  ∀ x25 : Int32, x25 = v3 + 1 → K12 x25 w0
def P_X11_takes_L12b (a0 : Nat) (v1 : Int64) (v3 : Int32) (v4 : Int64) (σ : Sg) (Q : Int32 → Sg → Prop) (K12 : Int32 → Int64 → Prop) : Prop :=
  sK σ a0 % 32 = 13 ∧ ((sI σ a0 78) ≤ v3 → P_X11_takes_B78 a0 v1 v3 v4 σ Q) ∧ (¬ ((sI σ a0 78) ≤ v3) → ∃ c10 : Nat, sR σ a0 76 = some c10 ∧ sK σ c10 % 32 = 19 ∧ vp_in v3 (sN σ c10) ∧ ((sI σ c10 v3.toNatClampNeg) < 97 → P_X11_takes_B78 a0 v1 v3 v4 σ Q) ∧ (¬ ((sI σ c10 v3.toNatClampNeg) < 97) → ∃ c15 : Nat, sR σ a0 76 = some c15 ∧ sK σ c15 % 32 = 19 ∧ vp_in v3 (sN σ c15) ∧ (122 < (sI σ c15 v3.toNatClampNeg) → P_X11_takes_B78 a0 v1 v3 v4 σ Q) ∧ (¬ (122 < (sI σ c15 v3.toNatClampNeg)) → (7 ≤ (v3 - (sI σ a0 79)) → P_X11_takes_B70 a0 v1 v3 0 σ Q K12) ∧ (¬ (7 ≤ (v3 - (sI σ a0 79))) → ∃ c21 : Nat, sR σ a0 76 = some c21 ∧ sK σ c21 % 32 = 19 ∧ vp_in v3 (sN σ c21) ∧ P_X11_takes_B70 a0 v1 v3 ((v4 <<< ((8 : Int32).toInt64 &&& 63)) ||| ((sI σ c21 v3.toNatClampNeg).toInt64)) σ Q K12))))
def P_X11_takes_L12 (a0 : Nat) (v1 : Int64) (v3 : Int32) (v4 : Int64) (σ : Sg) (Q : Int32 → Sg → Prop) : Prop :=
  ∃ I : Nat → Int32 → Int64 → Prop, (∃ n, I n v3 v4) ∧ ∀ (n : Nat) (v3 : Int32) (v4 : Int64), I n v3 v4 → P_X11_takes_L12b a0 v1 v3 v4 σ Q (fun v3 v4 => ∃ n', n' < n ∧ I n' v3 v4)
def P_X11_takes (a0 : Nat) (v1 : Int64) (σ : Sg) (Q : Int32 → Sg → Prop) : Prop :=
  sK σ a0 % 32 = 13 ∧ P_X11_blanks a0 σ (fun _ σ3 => ∀ x6 : Int32, x6 = sI σ3 a0 79 → P_X11_takes_L12 a0 v1 x6 0 σ3 Q)
set_option maxHeartbeats 4000000 in
set_option maxRecDepth 100000 in
theorem k_X11_takes (l : Launch) (D : Dg) (a0 : Nat) (v1 : Int64) (σ : Sg) (Q : Int32 → Sg → Prop) (h : P_X11_takes a0 v1 σ Q) : CtrY RN l D yX11_takes cX11_takes 6 (some FieldType.boolean) 1 20 mkI [.ref a0, .long v1] σ (0, 0) Q := by
  refine y_ctrN (lv := [(0, va_rf (some a0)), (1, .long v1)]) (by decide) (by (exact Nat.le_of_ble_eq_true rfl)) (by (exact rfl)) (fun g hg hgL hgD hrm hgN hgI hend => ?_)
  subst hgD
  clear hgL
  unfold P_X11_takes at h
  have J78 : ∀ (v1 : Int64) (v3 : Int32) (v4 : Int64) (σ : Sg), P_X11_takes_B78 a0 v1 v3 v4 σ Q → XA g 78 [(0, va_rf (some a0)), (1, .long v1), (3, .int v3), (4, .long v4)] [] σ (0, 0) := by
    intro v1 v3 v4 σ h
    unfold P_X11_takes_B78 at h
    refine y_iload_n hg 2 dX11_takes_78 rfl rfl ?_
    refine y_aload_n hg 0 dX11_takes_79 rfl rfl ?_
    obtain ⟨h29, h⟩ := h
    refine y_getI hg fl_X11_347 rfl rfl h29 dX11_takes_80 ?_
    refine y_isub hg dX11_takes_83 ?_
    refine y_bipush (v := 7) hg dX11_takes_84 (by decide) ?_
    refine y_icmp_gt (tgt := 96) hg dX11_takes_86 (by decide) (fun q30 => ?_) (fun q30 => ?_)
    · replace h := h.1 q30
      refine y_iconst (v := 0) hg dX11_takes_96 (by decide) ?_
      exact yEndI hend (bz_nar (Or.inl rfl)).1 dX11_takes_97 h
    · replace h := h.2 q30
      refine y_lload hg 3 dX11_takes_89 rfl ?_
      refine y_lload_n hg 1 dX11_takes_91 rfl rfl ?_
      refine y_lcmp hg dX11_takes_92 ?_
      refine y_if_eq (tgt := 98) hg dX11_takes_93 (by decide) (fun q31 => ?_) (fun q31 => ?_)
      · replace h := h.1 ((lg_cmp_eq _ _).mp q31)
        refine y_aload_n hg 0 dX11_takes_98 rfl rfl ?_
        refine y_iload_n hg 2 dX11_takes_99 rfl rfl ?_
        refine y_putI hg fw_X11_347 (fun z => nomatch z) rfl h29 dX11_takes_100 ?_
        refine y_nmS (fun σ32 e33 => ?_)
        replace h := h σ32 e33
        have E34 : sK σ32 = sK σ := by rw [e33]; rfl
        refine y_iconst (v := 1) hg dX11_takes_103 (by decide) ?_
        exact yEndI hend (bz_nar (Or.inr rfl)).1 dX11_takes_104 h
      · replace h := h.2 (fun z => q31 ((lg_cmp_eq _ _).mpr z))
        refine y_iconst (v := 0) hg dX11_takes_96 (by decide) ?_
        exact yEndI hend (bz_nar (Or.inl rfl)).1 dX11_takes_97 h
  have J12 : ∀ (v1 : Int64) (v3 : Int32) (v4 : Int64) (σ : Sg), P_X11_takes_L12 a0 v1 v3 v4 σ Q → XA g 12 [(0, va_rf (some a0)), (1, .long v1), (3, .int v3), (4, .long v4)] [] σ (0, 0) := by
    intro v1 v3 v4 σ h
    unfold P_X11_takes_L12 at h
    obtain ⟨I12, ⟨n12, hI12⟩, hs12⟩ := h
    have key12 : ∀ (n : Nat), ∀ (v3 : Int32) (v4 : Int64), I12 n v3 v4 → XA g 12 [(0, va_rf (some a0)), (1, .long v1), (3, .int v3), (4, .long v4)] [] σ (0, 0) := by
      intro n
      induction n using Nat.strongRecOn with
      | _ n ih12 =>
      intro v3 v4 hI
      have h := hs12 n v3 v4 hI
      clear hI hI12 hs12
      obtain ⟨K12, hK12⟩ : ∃ K : Int32 → Int64 → Prop, K = (fun v3 v4 => ∃ n', n' < n ∧ I12 n' v3 v4) := ⟨_, rfl⟩
      rw [← hK12] at h
      unfold P_X11_takes_L12b at h
      have J70 : ∀ (v3 : Int32) (w0 : Int64), P_X11_takes_B70 a0 v1 v3 w0 σ Q K12 → XA g 70 [(0, va_rf (some a0)), (1, .long v1), (3, .int v3)] [.long w0] σ (0, 0) := by
        intro v3 w0 h
        unfold P_X11_takes_B70 at h
        refine y_lstore (lv' := [(4, .long w0), (0, va_rf (some a0)), (1, .long v1), (3, .int v3)]) hg dX11_takes_70 (by rw [hgN]; decide) rfl ?_
        obtain ⟨x25, e26⟩ : ∃ y : Int32, y = v3 + 1 := ⟨_, rfl⟩
        replace h := h x25 e26
        refine y_iinc (v := x25) (lv' := [(3, .int x25), (4, .long w0), (0, va_rf (some a0)), (1, .long v1)]) hg 3 dX11_takes_72 rfl (by rw [e26]; rfl) (by rw [hgN]; decide) rfl ?_
        refine y_goto (tgt := 12) hg dX11_takes_75 (by decide) ?_
        refine y_sub [2, 3, 0, 1] rfl ?_
        subst hK12
        obtain ⟨n27, h28, h⟩ := h
        exact ih12 n27 h28 _ _ h
      refine y_iload_n hg 2 dX11_takes_12 rfl rfl ?_
      refine y_aload_n hg 0 dX11_takes_13 rfl rfl ?_
      obtain ⟨h8, h⟩ := h
      refine y_getI hg fl_X11_350 rfl rfl h8 dX11_takes_14 ?_
      refine y_icmp_ge (tgt := 78) hg dX11_takes_17 (by decide) (fun q9 => ?_) (fun q9 => ?_)
      · replace h := h.1 q9
        refine y_sub [0, 1, 2, 3] rfl ?_
        exact J78 _ _ _ _ h
      · replace h := h.2 q9
        refine y_aload_n hg 0 dX11_takes_20 rfl rfl ?_
        refine y_getR hg fl_X11_184 rfl rfl h8 dX11_takes_21 ?_
        refine y_iload_n hg 2 dX11_takes_24 rfl rfl ?_
        obtain ⟨c10, h11, h⟩ := h
        obtain ⟨h12, h⟩ := h
        obtain ⟨h13, h⟩ := h
        refine y_bald hg h11 h12 h13 dX11_takes_25 ?_
        refine y_bipush (v := 97) hg dX11_takes_26 (by decide) ?_
        refine y_icmp_lt (tgt := 78) hg dX11_takes_28 (by decide) (fun q14 => ?_) (fun q14 => ?_)
        · replace h := h.1 q14
          refine y_sub [0, 1, 2, 3] rfl ?_
          exact J78 _ _ _ _ h
        · replace h := h.2 q14
          refine y_aload_n hg 0 dX11_takes_31 rfl rfl ?_
          refine y_getR hg fl_X11_184 rfl rfl h8 dX11_takes_32 ?_
          refine y_iload_n hg 2 dX11_takes_35 rfl rfl ?_
          obtain ⟨c15, h16, h⟩ := h
          obtain ⟨h17, h⟩ := h
          obtain ⟨h18, h⟩ := h
          refine y_bald hg h16 h17 h18 dX11_takes_36 ?_
          refine y_bipush (v := 122) hg dX11_takes_37 (by decide) ?_
          refine y_icmp_gt (tgt := 78) hg dX11_takes_39 (by decide) (fun q19 => ?_) (fun q19 => ?_)
          · replace h := h.1 q19
            refine y_sub [0, 1, 2, 3] rfl ?_
            exact J78 _ _ _ _ h
          · replace h := h.2 q19
            refine y_iload_n hg 2 dX11_takes_42 rfl rfl ?_
            refine y_aload_n hg 0 dX11_takes_43 rfl rfl ?_
            refine y_getI hg fl_X11_347 rfl rfl h8 dX11_takes_44 ?_
            refine y_isub hg dX11_takes_47 ?_
            refine y_bipush (v := 7) hg dX11_takes_48 (by decide) ?_
            refine y_icmp_ge (tgt := 69) hg dX11_takes_50 (by decide) (fun q20 => ?_) (fun q20 => ?_)
            · replace h := h.1 q20
              refine y_lconst (v := 0) hg dX11_takes_69 (by decide) ?_
              refine y_sub [0, 1, 2] rfl ?_
              exact J70 _ _ h
            · replace h := h.2 q20
              refine y_lload hg 3 dX11_takes_53 rfl ?_
              refine y_bipush (v := 8) hg dX11_takes_55 (by decide) ?_
              refine y_lshl hg dX11_takes_57 ?_
              refine y_aload_n hg 0 dX11_takes_58 rfl rfl ?_
              refine y_getR hg fl_X11_184 rfl rfl h8 dX11_takes_59 ?_
              refine y_iload_n hg 2 dX11_takes_62 rfl rfl ?_
              obtain ⟨c21, h22, h⟩ := h
              obtain ⟨h23, h⟩ := h
              obtain ⟨h24, h⟩ := h
              refine y_bald hg h22 h23 h24 dX11_takes_63 ?_
              refine y_i2l hg dX11_takes_64 ?_
              refine y_lor hg dX11_takes_65 ?_
              refine y_goto (tgt := 70) hg dX11_takes_66 (by decide) ?_
              refine y_sub [0, 1, 2] rfl ?_
              exact J70 _ _ h
    exact key12 n12 v3 v4 hI12
  refine y_aload_n hg 0 dX11_takes_0 rfl rfl ?_
  obtain ⟨h1, h⟩ := h
  refine yVVW (Qm := _) (rest := []) (As := []) hg (k_X11_blanks (gL g.1) (gD g.1) a0 σ _ h) lv_X11_353 rfl h1 rfl rfl dX11_takes_1 (cat8 (Nat.le_of_ble_eq_true rfl)) hrm ⟨Nat.le_of_ble_eq_true rfl, Nat.le_of_ble_eq_true rfl⟩ (fun u2 σ3 h h4 => ?_)
  have h5 := kp h4 (show ¬ 13 = 0 by decide) h1
  refine y_aload_n hg 0 dX11_takes_4 rfl rfl ?_
  refine y_getI hg fl_X11_347 rfl rfl h5 dX11_takes_5 ?_
  refine y_nmI (fun x6 e7 => ?_)
  replace h := h x6 e7
  refine y_istore_n (lv' := [(3, .int x6), (0, va_rf (some a0)), (1, .long v1)]) hg dX11_takes_8 rfl (by rw [hgN]; decide) rfl ?_
  refine y_lconst (v := 0) hg dX11_takes_9 (by decide) ?_
  refine y_lstore (lv' := [(4, .long 0), (3, .int x6), (0, va_rf (some a0)), (1, .long v1)]) hg dX11_takes_10 (by rw [hgN]; decide) rfl ?_
  refine y_sub [2, 3, 1, 0] rfl ?_
  exact J12 _ _ _ _ h
