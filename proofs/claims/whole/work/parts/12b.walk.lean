def P_X10_settle (a0 : Nat) (v1 : Option Nat) (v2 : Int32) (σ : Sg) (Q : Unit → Sg → Prop) : Prop :=
  ∃ c1 : Nat, v1 = some c1 ∧ sK σ c1 % 32 = 11 ∧ sK σ a0 % 32 = 12 ∧ P_X10_bedAt a0 (sI σ c1 1) σ (fun r5 => ∀ x6 : Int32, x6 = (sI σ a0 15) / 365 → (r5 = none → Q () σ) ∧ (∀ c8 : Nat, r5 = some c8 → P_X9_fallsOn c1 (sI σ a0 15) σ (fun x11 => (x11 = 0 → Q () σ) ∧ (¬ (x11 = 0) → P_X10_within (sI σ c1 0) 0 9 σ (fun x13 => (x13 = 0 → Q () σ) ∧ (¬ (x13 = 0) → P_X10_within x6 0 9 σ (fun x15 => (x15 = 0 → Q () σ) ∧ (¬ (x15 = 0) → sK σ c8 % 32 = 2 ∧ P_X0_wasCaredBy c8 (sI σ c1 0) (sI σ a0 15) σ (fun x18 => (x18 = 0 → ∃ c20 : Nat, sR σ a0 10 = some c20 ∧ sK σ c20 % 32 = 16 ∧ vp_in (sI σ c1 0) (sN σ c20) ∧ vp_in (sI σ c1 0) (sN σ c20) ∧ ∀ σ25 : Sg, σ25 = pI σ c20 (sI σ c1 0).toNatClampNeg ((sI σ c20 (sI σ c1 0).toNatClampNeg) + v2) → Q () σ25) ∧ (¬ (x18 = 0) → ∃ c28 : Nat, sR σ a0 11 = some c28 ∧ sK σ c28 % 32 = 21 ∧ vp_in (sI σ c1 0) (sN σ c28) ∧ ∃ c32 : Nat, sR σ c28 (sI σ c1 0).toNatClampNeg = some c32 ∧ sK σ c32 % 32 = 16 ∧ vp_in x6 (sN σ c32) ∧ vp_in x6 (sN σ c32) ∧ ∀ σ37 : Sg, σ37 = pI σ c32 x6.toNatClampNeg ((sI σ c32 x6.toNatClampNeg) + 1) → Q () σ37))))))))))
set_option maxHeartbeats 4000000 in
set_option maxRecDepth 100000 in
theorem k_X10_settle (l : Launch) (D : Dg) (a0 : Nat) (v1 : Option Nat) (v2 : Int32) (σ : Sg) (Q : Unit → Sg → Prop) (h : P_X10_settle a0 v1 v2 σ Q) : CtrY RN l D yX10_settle cX10_settle 5 (none) 5 107 mkV [.ref a0, va_rf v1, .int v2] σ (0, 0) Q := by
  refine y_ctrN (lv := [(0, va_rf (some a0)), (1, va_rf v1), (2, .int v2)]) (by decide) (by cases v1 <;> (exact Nat.le_of_ble_eq_true rfl)) (by cases v1 <;> (exact rfl)) (fun g hg hgL hgD hrm hgN hgI hend => ?_)
  subst hgD
  clear hgL
  unfold P_X10_settle at h
  refine y_aload_n hg 0 dX10_settle_0 rfl rfl ?_
  refine y_aload_n hg 1 dX10_settle_1 rfl rfl ?_
  obtain ⟨c1, h2, h⟩ := h
  obtain ⟨h3, h⟩ := h
  refine y_getI hg fl_X10_281 rfl h2 h3 dX10_settle_2 ?_
  obtain ⟨h4, h⟩ := h
  refine yVRP (Qp := _) (rest := []) (As := [.int (sI σ c1 1)]) hg (k_X10_bedAt (gL g.1) (gD g.1) a0 (sI σ c1 1) σ _ h) lv_X10_136 rfl h4 rfl rfl dX10_settle_5 (cat8 (Nat.le_of_ble_eq_true rfl)) hrm ⟨Nat.le_of_ble_eq_true rfl, Nat.le_of_ble_eq_true rfl⟩ (fun r5 h => ?_)
  refine y_astore_n (lv' := [(3, va_rf r5), (0, va_rf (some a0)), (1, va_rf v1), (2, .int v2)]) hg dX10_settle_8 rfl (by rw [hgN]; decide) rfl ?_
  refine y_aload_n hg 1 dX10_settle_9 rfl rfl ?_
  refine y_getI hg fl_X10_120 rfl rfl h4 dX10_settle_10 ?_
  refine y_sipush (v := 365) hg dX10_settle_13 (by decide) ?_
  refine y_idiv hg dX10_settle_16 (by decide) ?_
  refine y_nmI (fun x6 e7 => ?_)
  replace h := h x6 e7
  refine y_istore (lv' := [(4, .int x6), (3, va_rf r5), (0, va_rf (some a0)), (1, va_rf v1), (2, .int v2)]) hg dX10_settle_17 (by rw [hgN]; decide) (by cases r5 <;> rfl) ?_
  refine y_aload_n hg 1 dX10_settle_19 rfl rfl ?_
  refine y_ifnull (tgt := 34) hg dX10_settle_20 (by decide) (fun h9 => ?_) (fun c8 h10 => ?_)
  · replace h := h.1 h9
    exact yEndV hend dX10_settle_34 h
  · replace h := h.2 c8 h10
    refine y_aload_n hg 3 dX10_settle_23 rfl rfl ?_
    refine y_aload_n hg 2 dX10_settle_24 rfl rfl ?_
    refine y_getI hg fl_X10_120 rfl rfl h4 dX10_settle_25 ?_
    refine yVIP (Qp := _) (rest := []) (As := [.int (sI σ a0 15)]) hg (k_X9_fallsOn (gL g.1) (gD g.1) c1 (sI σ a0 15) σ _ h) lv_X10_282 h2 h3 rfl rfl dX10_settle_28 (cat8 (Nat.le_of_ble_eq_true rfl)) hrm ⟨Nat.le_of_ble_eq_true rfl, Nat.le_of_ble_eq_true rfl⟩ (fun x11 h => ?_)
    refine y_if_ne (tgt := 35) hg dX10_settle_31 (by decide) (fun q12 => ?_) (fun q12 => ?_)
    · replace h := h.2 q12
      refine y_aload_n hg 3 dX10_settle_35 rfl rfl ?_
      refine y_getI hg fl_X10_286 rfl h2 h3 dX10_settle_36 ?_
      refine y_iconst (v := 0) hg dX10_settle_39 (by decide) ?_
      refine y_bipush (v := 9) hg dX10_settle_40 (by decide) ?_
      refine ySIP (Qp := _) (rest := []) (As := [.int (sI σ c1 0), .int 0, .int 9]) hg (k_X10_within (gL g.1) (gD g.1) (sI σ c1 0) 0 9 σ _ h) ls_X10_83 rfl rfl dX10_settle_42 (cat8 (Nat.le_of_ble_eq_true rfl)) hrm ⟨Nat.le_of_ble_eq_true rfl, Nat.le_of_ble_eq_true rfl⟩ (fun x13 h => ?_)
      refine y_if_eq (tgt := 59) hg dX10_settle_45 (by decide) (fun q14 => ?_) (fun q14 => ?_)
      · replace h := h.1 q14
        exact yEndV hend dX10_settle_59 h
      · replace h := h.2 q14
        refine y_iload hg 0 dX10_settle_48 rfl ?_
        refine y_iconst (v := 0) hg dX10_settle_50 (by decide) ?_
        refine y_bipush (v := 9) hg dX10_settle_51 (by decide) ?_
        refine ySIP (Qp := _) (rest := []) (As := [.int x6, .int 0, .int 9]) hg (k_X10_within (gL g.1) (gD g.1) x6 0 9 σ _ h) ls_X10_83 rfl rfl dX10_settle_53 (cat8 (Nat.le_of_ble_eq_true rfl)) hrm ⟨Nat.le_of_ble_eq_true rfl, Nat.le_of_ble_eq_true rfl⟩ (fun x15 h => ?_)
        refine y_if_ne (tgt := 60) hg dX10_settle_56 (by decide) (fun q16 => ?_) (fun q16 => ?_)
        · replace h := h.2 q16
          refine y_aload_n hg 1 dX10_settle_60 rfl rfl ?_
          refine y_aload_n hg 3 dX10_settle_61 rfl rfl ?_
          refine y_getI hg fl_X10_286 rfl h2 h3 dX10_settle_62 ?_
          refine y_aload_n hg 2 dX10_settle_65 rfl rfl ?_
          refine y_getI hg fl_X10_120 rfl rfl h4 dX10_settle_66 ?_
          obtain ⟨h17, h⟩ := h
          refine yVIP (Qp := _) (rest := []) (As := [.int (sI σ c1 0), .int (sI σ a0 15)]) hg (k_X0_wasCaredBy (gL g.1) (gD g.1) c8 (sI σ c1 0) (sI σ a0 15) σ _ h) lv_X10_289 h10 h17 rfl rfl dX10_settle_69 (cat8 (Nat.le_of_ble_eq_true rfl)) hrm ⟨Nat.le_of_ble_eq_true rfl, Nat.le_of_ble_eq_true rfl⟩ (fun x18 h => ?_)
          refine y_if_eq (tgt := 94) hg dX10_settle_72 (by decide) (fun q19 => ?_) (fun q19 => ?_)
          · replace h := h.1 q19
            refine y_aload_n hg 2 dX10_settle_94 rfl rfl ?_
            refine y_getR hg fl_X10_58 rfl rfl h4 dX10_settle_95 ?_
            refine y_aload_n hg 3 dX10_settle_98 rfl rfl ?_
            refine y_getI hg fl_X10_286 rfl h2 h3 dX10_settle_99 ?_
            refine y_dup2 hg dX10_settle_102 rfl (rf_cat _) ?_
            obtain ⟨c20, h21, h⟩ := h
            obtain ⟨h22, h⟩ := h
            obtain ⟨h23, h⟩ := h
            refine y_iald hg h21 h22 h23 dX10_settle_103 ?_
            refine y_iload_n hg 4 dX10_settle_104 rfl rfl ?_
            refine y_iadd hg dX10_settle_105 ?_
            obtain ⟨h24, h⟩ := h
            refine y_iast hg h21 h22 h24 dX10_settle_106 ?_
            refine y_nmS (fun σ25 e26 => ?_)
            replace h := h σ25 e26
            have E27 : sK σ25 = sK σ := by rw [e26]; rfl
            exact yEndV hend dX10_settle_107 h
          · replace h := h.2 q19
            refine y_aload_n hg 2 dX10_settle_75 rfl rfl ?_
            refine y_getR hg fl_X10_63 rfl rfl h4 dX10_settle_76 ?_
            refine y_aload_n hg 3 dX10_settle_79 rfl rfl ?_
            refine y_getI hg fl_X10_286 rfl h2 h3 dX10_settle_80 ?_
            obtain ⟨c28, h29, h⟩ := h
            obtain ⟨h30, h⟩ := h
            obtain ⟨h31, h⟩ := h
            refine y_aald hg h29 h30 (by decide) h31 dX10_settle_83 ?_
            refine y_iload hg 0 dX10_settle_84 rfl ?_
            refine y_dup2 hg dX10_settle_86 rfl (rf_cat _) ?_
            obtain ⟨c32, h33, h⟩ := h
            obtain ⟨h34, h⟩ := h
            obtain ⟨h35, h⟩ := h
            refine y_iald hg h33 h34 h35 dX10_settle_87 ?_
            refine y_iconst (v := 1) hg dX10_settle_88 (by decide) ?_
            refine y_iadd hg dX10_settle_89 ?_
            obtain ⟨h36, h⟩ := h
            refine y_iast hg h33 h34 h36 dX10_settle_90 ?_
            refine y_nmS (fun σ37 e38 => ?_)
            replace h := h σ37 e38
            have E39 : sK σ37 = sK σ := by rw [e38]; rfl
            refine y_goto (tgt := 107) hg dX10_settle_91 (by decide) ?_
            exact yEndV hend dX10_settle_107 h
        · replace h := h.1 q16
          exact yEndV hend dX10_settle_59 h
    · replace h := h.1 q12
      exact yEndV hend dX10_settle_34 h
def P_X10_goBy_L149b (a0 : Nat) (v1 : Option Nat) (v3 : Int32) (σ : Sg) (b : Nat × Nat) (Q : Unit → Sg → Prop) (K149 : Int32 → Sg → Prop) : Prop :=
  ∃ c99 : Nat, v1 = some c99 ∧ sK σ c99 % 32 = 6 ∧ ∃ c102 : Nat, sR σ c99 2 = some c102 ∧ sK σ c102 % 32 = 1 ∧ P_Jx4a65c_size_8abf5 c102 σ (fun x105 => (x105 ≤ v3 → Q () σ) ∧ (¬ (x105 ≤ v3) → ∃ c107 : Nat, sR σ c99 2 = some c107 ∧ sK σ c107 % 32 = 1 ∧ P_Jx4a65c_get_915e3 c107 v3 σ (fun r110 => ∃ c111 : Nat, r110 = some c111 ∧ sK σ c111 % 32 = 11 ∧ P_X4_value c99 3 σ (fun x114 => sK σ a0 % 32 = 12 ∧ P_X10_settle a0 r110 x114 σ (fun _ σ117 => ∀ x121 : Int32, x121 = v3 + 1 → K149 x121 σ117)))))
def P_X10_goBy_L149 (a0 : Nat) (v1 : Option Nat) (v3 : Int32) (σ : Sg) (b : Nat × Nat) (Q : Unit → Sg → Prop) : Prop :=
  ∃ I : Nat → Int32 → Sg → Prop, (∃ n, I n v3 σ) ∧ ∀ (n : Nat) (v3 : Int32) (σ : Sg), I n v3 σ → P_X10_goBy_L149b a0 v1 v3 σ b Q (fun v3 σ => ∃ n', n' < n ∧ I n' v3 σ)
def P_X10_goBy_L106b (a0 : Nat) (v1 : Option Nat) (v3 : Int32) (σ : Sg) (b : Nat × Nat) (Q : Unit → Sg → Prop) (K106 : Int32 → Sg → Prop) : Prop :=
  sK σ a0 % 32 = 12 ∧ ∃ c70 : Nat, sR σ a0 1 = some c70 ∧ sK σ c70 % 32 = 1 ∧ P_Jx4a65c_size_8abf5 c70 σ (fun x73 => (x73 ≤ v3 → P_X10_goBy_L149 a0 v1 0 σ (b.1, b.2) Q) ∧ (¬ (x73 ≤ v3) → ∃ c75 : Nat, sR σ a0 13 = some c75 ∧ sK σ c75 % 32 = 17 ∧ vp_in 5 (sN σ c75) ∧ ∃ c79 : Nat, sR σ a0 1 = some c79 ∧ sK σ c79 % 32 = 1 ∧ P_Jx4a65c_get_915e3 c79 v3 σ (fun r82 => ∃ c83 : Nat, r82 = some c83 ∧ sK σ c83 % 32 = 8 ∧ P_X6_give c83 σ (fun x86 σ87 => vp_in 5 (sN σ87 c75) ∧ ∀ σ92 : Sg, σ92 = pL σ87 c75 (5 : Int32).toNatClampNeg ((sL σ c75 (5 : Int32).toNatClampNeg) + x86.toInt64) → ∀ x95 : Int32, x95 = v3 + 1 → K106 x95 σ92))))
def P_X10_goBy_L106 (a0 : Nat) (v1 : Option Nat) (v3 : Int32) (σ : Sg) (b : Nat × Nat) (Q : Unit → Sg → Prop) : Prop :=
  ∃ I : Nat → Int32 → Sg → Prop, (∃ n, I n v3 σ) ∧ ∀ (n : Nat) (v3 : Int32) (σ : Sg), I n v3 σ → P_X10_goBy_L106b a0 v1 v3 σ b Q (fun v3 σ => ∃ n', n' < n ∧ I n' v3 σ)
def P_X10_goBy_B98 (a0 : Nat) (v1 : Option Nat) (v2 : Int32) (v3 : Int32) (σ : Sg) (b : Nat × Nat) (Q : Unit → Sg → Prop) (K11 : Int32 → Sg → (Nat × Nat) → Prop) : Prop :=
  ∀ x65 : Int32, x65 = v3 + 1 → K11 x65 σ (b.1, b.2)
def P_X10_goBy_B91 (a0 : Nat) (v1 : Option Nat) (v2 : Int32) (v3 : Int32) (v4 : Option Nat) (σ : Sg) (b : Nat × Nat) (Q : Unit → Sg → Prop) (K11 : Int32 → Sg → (Nat × Nat) → Prop) : Prop :=
  ∃ c58 : Nat, v4 = some c58 ∧ sK σ c58 % 32 = 2 ∧ P_X0_meetThaw c58 v1 v2 σ (fun _ σ62 => P_X10_goBy_B98 a0 v1 v2 v3 σ62 (b.1, b.2) Q K11)
def P_X10_goBy_L11b (a0 : Nat) (v1 : Option Nat) (v2 : Int32) (v3 : Int32) (σ : Sg) (b : Nat × Nat) (Q : Unit → Sg → Prop) (K11 : Int32 → Sg → (Nat × Nat) → Prop) : Prop :=
  sK σ a0 % 32 = 12 ∧ ∃ c5 : Nat, sR σ a0 0 = some c5 ∧ sK σ c5 % 32 = 1 ∧ P_Jx4a65c_size_8abf5 c5 σ (fun x8 => (x8 ≤ v3 → P_X10_goBy_L106 a0 v1 0 σ (b.1, b.2) Q) ∧ (¬ (x8 ≤ v3) → ∃ c10 : Nat, sR σ a0 0 = some c10 ∧ sK σ c10 % 32 = 1 ∧ P_Jx4a65c_get_915e3 c10 v3 σ (fun r13 => ∃ c14 : Nat, r13 = some c14 ∧ sK σ c14 % 32 = 4 ∧ ∀ r17 : Option Nat, r17 = sR σ c14 5 → (r17 = none → P_X10_goBy_B98 a0 v1 v2 v3 σ (b.1, b.2) Q K11) ∧ (∀ c19 : Nat, r17 = some c19 → sK σ c19 % 32 = 2 ∧ P_X0_clogUp c19 v1 σ (fun _ σ24 => P_X0_shedLeaves c19 v1 v2 σ24 (fun _ σ29 => ∃ c33 : Nat, sR σ29 a0 13 = some c33 ∧ sK σ29 c33 % 32 = 17 ∧ vp_in 1 (sN σ29 c33) ∧ P_X0_drinkForADay c19 (sR σ29 a0 8) σ29 (fun x37 σ38 => vp_in 1 (sN σ38 c33) ∧ ∀ σ44 : Sg, σ44 = pL σ38 c33 (1 : Int32).toNatClampNeg ((sL σ29 c33 (1 : Int32).toNatClampNeg) + x37.toInt64) → P_X0_standsTooLong c19 v1 σ44 (fun x47 => (x47 = 0 → P_X10_goBy_B91 a0 v1 v2 v3 r17 σ44 (b.1, b.2) Q K11) ∧ (¬ (x47 = 0) → ∃ bc51 : Nat × Nat, bc51.1 ≤ b.1 ∧ bc51.2 ≤ b.2 ∧ (∀ z, v1 = some z → ¬ sK σ44 z = 0) ∧ P_X10_tellComplaint a0 v3 2 σ44 bc51 (fun x49 σ50 => P_X10_goBy_B91 a0 v1 v2 v3 r17 σ50 (b.1 - bc51.1, b.2 - bc51.2) Q K11))))))))))
def P_X10_goBy_L11 (a0 : Nat) (v1 : Option Nat) (v2 : Int32) (v3 : Int32) (σ : Sg) (b : Nat × Nat) (Q : Unit → Sg → Prop) : Prop :=
  ∃ I : Nat → Int32 → Sg → (Nat × Nat) → Prop, (∃ n, I n v3 σ b) ∧ ∀ (n : Nat) (v3 : Int32) (σ : Sg) (b : Nat × Nat), I n v3 σ b → P_X10_goBy_L11b a0 v1 v2 v3 σ b Q (fun v3 σ b => ∃ n', n' < n ∧ I n' v3 σ b)
def P_X10_goBy (a0 : Nat) (v1 : Option Nat) (σ : Sg) (b : Nat × Nat) (Q : Unit → Sg → Prop) : Prop :=
  sK σ a0 % 32 = 12 ∧ ∀ x2 : Int32, x2 = (sI σ a0 15) - (sI σ a0 15) / 365 * 365 → P_X10_goBy_L11 a0 v1 x2 0 σ (b.1, b.2) Q
set_option maxHeartbeats 4000000 in
set_option maxRecDepth 100000 in
theorem k_X10_goBy (l : Launch) (D : Dg) (a0 : Nat) (v1 : Option Nat) (σ : Sg) (b : Nat × Nat) (Q : Unit → Sg → Prop) (h : P_X10_goBy a0 v1 σ b Q) : CtrY RA l D yX10_goBy cX10_goBy 5 (none) 8 194 mkV [.ref a0, va_rf v1] σ b Q := by
  refine y_ctrA (lv := [(0, va_rf (some a0)), (1, va_rf v1)]) (by decide) (by cases v1 <;> (exact Nat.le_of_ble_eq_true rfl)) (by cases v1 <;> (exact rfl)) (fun g hg hgL hgD hrm hgN hgI hend hal => ?_)
  subst hgD
  clear hgL
  unfold P_X10_goBy at h
  have J149 : ∀ (v1 : Option Nat) (v3 : Int32) (σ : Sg) (b : Nat × Nat), P_X10_goBy_L149 a0 v1 v3 σ b Q → XA g 149 [(0, va_rf (some a0)), (1, va_rf v1), (3, .int v3)] [] σ b := by
    intro v1 v3 σ b h
    unfold P_X10_goBy_L149 at h
    obtain ⟨I149, ⟨n149, hI149⟩, hs149⟩ := h
    have key149 : ∀ (n : Nat), ∀ (v3 : Int32) (σ : Sg), I149 n v3 σ → XA g 149 [(0, va_rf (some a0)), (1, va_rf v1), (3, .int v3)] [] σ b := by
      intro n
      induction n using Nat.strongRecOn with
      | _ n ih149 =>
      intro v3 σ hI
      have h := hs149 n v3 σ hI
      clear hI hI149 hs149
      obtain ⟨K149, hK149⟩ : ∃ K : Int32 → Sg → Prop, K = (fun v3 σ => ∃ n', n' < n ∧ I149 n' v3 σ) := ⟨_, rfl⟩
      rw [← hK149] at h
      unfold P_X10_goBy_L149b at h
      refine y_iload_n hg 2 dX10_goBy_149 rfl rfl ?_
      refine y_aload_n hg 1 dX10_goBy_150 rfl rfl ?_
      obtain ⟨c99, h100, h⟩ := h
      obtain ⟨h101, h⟩ := h
      refine y_getR hg fl_X10_272 rfl h100 h101 dX10_goBy_151 ?_
      obtain ⟨c102, h103, h⟩ := h
      obtain ⟨h104, h⟩ := h
      refine yVIP (Qp := _) (rest := [.int v3]) (As := []) hg (k_Jx4a65c_size_8abf5 (gL g.1) (gD g.1) c102 σ _ h) lv_X10_87 h103 h104 rfl rfl dX10_goBy_154 (cat8 (Nat.le_of_ble_eq_true rfl)) hrm ⟨Nat.le_of_ble_eq_true rfl, Nat.le_of_ble_eq_true rfl⟩ (fun x105 h => ?_)
      refine y_icmp_ge (tgt := 186) hg dX10_goBy_157 (by decide) (fun q106 => ?_) (fun q106 => ?_)
      · replace h := h.1 q106
        exact yEndV hend dX10_goBy_186 h
      · replace h := h.2 q106
        refine y_aload_n hg 0 dX10_goBy_160 rfl rfl ?_
        refine y_aload_n hg 1 dX10_goBy_161 rfl rfl ?_
        refine y_getR hg fl_X10_272 rfl h100 h101 dX10_goBy_162 ?_
        refine y_iload_n hg 2 dX10_goBy_165 rfl rfl ?_
        obtain ⟨c107, h108, h⟩ := h
        obtain ⟨h109, h⟩ := h
        refine yVRP (Qp := _) (rest := [va_rf (some a0)]) (As := [.int v3]) hg (k_Jx4a65c_get_915e3 (gL g.1) (gD g.1) c107 v3 σ _ h) lv_X10_232 h108 h109 rfl rfl dX10_goBy_166 (cat8 (Nat.le_of_ble_eq_true rfl)) hrm ⟨Nat.le_of_ble_eq_true rfl, Nat.le_of_ble_eq_true rfl⟩ (fun r110 h => ?_)
        obtain ⟨c111, h112, h⟩ := h
        obtain ⟨h113, h⟩ := h
        refine y_cast (c := 11) hg (C := RX9) rfl (by decide) cl_X10_275 h112 h113 dX10_goBy_169 ?_
        refine y_aload_n hg 1 dX10_goBy_172 rfl rfl ?_
        refine y_iconst (v := 3) hg dX10_goBy_173 (by decide) ?_
        refine yVIP (Qp := _) (rest := [va_rf r110, va_rf (some a0)]) (As := [.int 3]) hg (k_X4_value (gL g.1) (gD g.1) c99 3 σ _ h) lv_X10_127 h100 h101 rfl rfl dX10_goBy_174 (cat8 (Nat.le_of_ble_eq_true rfl)) hrm ⟨Nat.le_of_ble_eq_true rfl, Nat.le_of_ble_eq_true rfl⟩ (fun x114 h => ?_)
        obtain ⟨h115, h⟩ := h
        refine yVVW (Qm := _) (rest := []) (As := [va_rf r110, .int x114]) hg (k_X10_settle (gL g.1) (gD g.1) a0 r110 x114 σ _ h) lv_X10_277 rfl h115 rfl rfl dX10_goBy_177 (cat8 (Nat.le_of_ble_eq_true rfl)) hrm ⟨Nat.le_of_ble_eq_true rfl, Nat.le_of_ble_eq_true rfl⟩ (fun u116 σ117 h h118 => ?_)
        have h119 := kp h118 (show ¬ 6 = 0 by decide) h101
        have h120 := kp h118 (show ¬ 12 = 0 by decide) h115
        obtain ⟨x121, e122⟩ : ∃ y : Int32, y = v3 + 1 := ⟨_, rfl⟩
        replace h := h x121 e122
        refine y_iinc (v := x121) (lv' := [(3, .int x121), (0, va_rf (some a0)), (1, va_rf v1)]) hg 2 dX10_goBy_180 rfl (by rw [e122]; rfl) (by rw [hgN]; decide) rfl ?_
        refine y_goto (tgt := 149) hg dX10_goBy_183 (by decide) ?_
        refine y_sub [1, 2, 0] rfl ?_
        subst hK149
        obtain ⟨n123, h124, h⟩ := h
        exact ih149 n123 h124 _ _ h
    exact key149 n149 v3 σ hI149
  have J106 : ∀ (v1 : Option Nat) (v3 : Int32) (σ : Sg) (b : Nat × Nat), P_X10_goBy_L106 a0 v1 v3 σ b Q → XA g 106 [(0, va_rf (some a0)), (1, va_rf v1), (3, .int v3)] [] σ b := by
    intro v1 v3 σ b h
    unfold P_X10_goBy_L106 at h
    obtain ⟨I106, ⟨n106, hI106⟩, hs106⟩ := h
    have key106 : ∀ (n : Nat), ∀ (v3 : Int32) (σ : Sg), I106 n v3 σ → XA g 106 [(0, va_rf (some a0)), (1, va_rf v1), (3, .int v3)] [] σ b := by
      intro n
      induction n using Nat.strongRecOn with
      | _ n ih106 =>
      intro v3 σ hI
      have h := hs106 n v3 σ hI
      clear hI hI106 hs106
      obtain ⟨K106, hK106⟩ : ∃ K : Int32 → Sg → Prop, K = (fun v3 σ => ∃ n', n' < n ∧ I106 n' v3 σ) := ⟨_, rfl⟩
      rw [← hK106] at h
      unfold P_X10_goBy_L106b at h
      refine y_iload_n hg 2 dX10_goBy_106 rfl rfl ?_
      refine y_aload_n hg 0 dX10_goBy_107 rfl rfl ?_
      obtain ⟨h69, h⟩ := h
      refine y_getR hg fl_X10_16 rfl rfl h69 dX10_goBy_108 ?_
      obtain ⟨c70, h71, h⟩ := h
      obtain ⟨h72, h⟩ := h
      refine yVIP (Qp := _) (rest := [.int v3]) (As := []) hg (k_Jx4a65c_size_8abf5 (gL g.1) (gD g.1) c70 σ _ h) lv_X10_87 h71 h72 rfl rfl dX10_goBy_111 (cat8 (Nat.le_of_ble_eq_true rfl)) hrm ⟨Nat.le_of_ble_eq_true rfl, Nat.le_of_ble_eq_true rfl⟩ (fun x73 h => ?_)
      refine y_icmp_ge (tgt := 147) hg dX10_goBy_114 (by decide) (fun q74 => ?_) (fun q74 => ?_)
      · replace h := h.1 q74
        refine y_iconst (v := 0) hg dX10_goBy_147 (by decide) ?_
        refine y_istore_n (lv' := [(3, .int 0), (0, va_rf (some a0)), (1, va_rf v1)]) hg dX10_goBy_148 rfl (by rw [hgN]; decide) rfl ?_
        refine y_sub [1, 2, 0] rfl ?_
        exact J149 _ _ _ _ h
      · replace h := h.2 q74
        refine y_aload_n hg 0 dX10_goBy_117 rfl rfl ?_
        refine y_getR hg fl_X10_69 rfl rfl h69 dX10_goBy_118 ?_
        refine y_iconst (v := 5) hg dX10_goBy_121 (by decide) ?_
        refine y_dup2 hg dX10_goBy_122 rfl (rf_cat _) ?_
        obtain ⟨c75, h76, h⟩ := h
        obtain ⟨h77, h⟩ := h
        obtain ⟨h78, h⟩ := h
        refine y_lald hg h76 h77 h78 dX10_goBy_123 ?_
        refine y_aload_n hg 0 dX10_goBy_124 rfl rfl ?_
        refine y_getR hg fl_X10_16 rfl rfl h69 dX10_goBy_125 ?_
        refine y_iload_n hg 2 dX10_goBy_128 rfl rfl ?_
        obtain ⟨c79, h80, h⟩ := h
        obtain ⟨h81, h⟩ := h
        refine yVRP (Qp := _) (rest := [.long (sL σ c75 (5 : Int32).toNatClampNeg), .int 5, va_rf (sR σ a0 13)]) (As := [.int v3]) hg (k_Jx4a65c_get_915e3 (gL g.1) (gD g.1) c79 v3 σ _ h) lv_X10_232 h80 h81 rfl rfl dX10_goBy_129 (cat8 (Nat.le_of_ble_eq_true rfl)) hrm ⟨Nat.le_of_ble_eq_true rfl, Nat.le_of_ble_eq_true rfl⟩ (fun r82 h => ?_)
        obtain ⟨c83, h84, h⟩ := h
        obtain ⟨h85, h⟩ := h
        refine y_cast (c := 8) hg (C := RX6) rfl (by decide) cl_X10_107 h84 h85 dX10_goBy_132 ?_
        refine yVIW (Qm := _) (rest := [.long (sL σ c75 (5 : Int32).toNatClampNeg), .int 5, va_rf (sR σ a0 13)]) (As := []) hg (k_X6_give (gL g.1) (gD g.1) c83 σ _ h) lv_X10_269 h84 h85 rfl rfl dX10_goBy_135 (cat8 (Nat.le_of_ble_eq_true rfl)) hrm ⟨Nat.le_of_ble_eq_true rfl, Nat.le_of_ble_eq_true rfl⟩ (fun x86 σ87 h h88 => ?_)
        have h89 := kp h88 (show ¬ 12 = 0 by decide) h69
        have h90 := kp h88 (show ¬ 17 = 0 by decide) h77
        refine y_i2l hg dX10_goBy_138 ?_
        refine y_ladd hg dX10_goBy_139 ?_
        obtain ⟨h91, h⟩ := h
        refine y_last hg h76 h90 h91 dX10_goBy_140 ?_
        refine y_nmS (fun σ92 e93 => ?_)
        replace h := h σ92 e93
        have E94 : sK σ92 = sK σ87 := by rw [e93]; rfl
        obtain ⟨x95, e96⟩ : ∃ y : Int32, y = v3 + 1 := ⟨_, rfl⟩
        replace h := h x95 e96
        refine y_iinc (v := x95) (lv' := [(3, .int x95), (0, va_rf (some a0)), (1, va_rf v1)]) hg 2 dX10_goBy_141 rfl (by rw [e96]; rfl) (by rw [hgN]; decide) rfl ?_
        refine y_goto (tgt := 106) hg dX10_goBy_144 (by decide) ?_
        refine y_sub [1, 2, 0] rfl ?_
        subst hK106
        obtain ⟨n97, h98, h⟩ := h
        exact ih106 n97 h98 _ _ h
    exact key106 n106 v3 σ hI106
  have J11 : ∀ (v1 : Option Nat) (v2 : Int32) (v3 : Int32) (σ : Sg) (b : Nat × Nat), P_X10_goBy_L11 a0 v1 v2 v3 σ b Q → XA g 11 [(0, va_rf (some a0)), (1, va_rf v1), (2, .int v2), (3, .int v3)] [] σ b := by
    intro v1 v2 v3 σ b h
    unfold P_X10_goBy_L11 at h
    obtain ⟨I11, ⟨n11, hI11⟩, hs11⟩ := h
    have key11 : ∀ (n : Nat), ∀ (v3 : Int32) (σ : Sg) (b : Nat × Nat), I11 n v3 σ b → XA g 11 [(0, va_rf (some a0)), (1, va_rf v1), (2, .int v2), (3, .int v3)] [] σ b := by
      intro n
      induction n using Nat.strongRecOn with
      | _ n ih11 =>
      intro v3 σ b hI
      have h := hs11 n v3 σ b hI
      clear hI hI11 hs11
      obtain ⟨K11, hK11⟩ : ∃ K : Int32 → Sg → (Nat × Nat) → Prop, K = (fun v3 σ b => ∃ n', n' < n ∧ I11 n' v3 σ b) := ⟨_, rfl⟩
      rw [← hK11] at h
      unfold P_X10_goBy_L11b at h
      have J98 : ∀ (v3 : Int32) (σ : Sg) (b : Nat × Nat), P_X10_goBy_B98 a0 v1 v2 v3 σ b Q K11 → XA g 98 [(0, va_rf (some a0)), (1, va_rf v1), (2, .int v2), (3, .int v3)] [] σ b := by
        intro v3 σ b h
        unfold P_X10_goBy_B98 at h
        obtain ⟨x65, e66⟩ : ∃ y : Int32, y = v3 + 1 := ⟨_, rfl⟩
        replace h := h x65 e66
        refine y_iinc (v := x65) (lv' := [(3, .int x65), (0, va_rf (some a0)), (1, va_rf v1), (2, .int v2)]) hg 3 dX10_goBy_98 rfl (by rw [e66]; rfl) (by rw [hgN]; decide) rfl ?_
        refine y_goto (tgt := 11) hg dX10_goBy_101 (by decide) ?_
        refine y_sub [1, 2, 3, 0] rfl ?_
        subst hK11
        obtain ⟨n67, h68, h⟩ := h
        exact ih11 n67 h68 _ _ _ h
      have J91 : ∀ (v3 : Int32) (v4 : Option Nat) (σ : Sg) (b : Nat × Nat), P_X10_goBy_B91 a0 v1 v2 v3 v4 σ b Q K11 → XA g 91 [(0, va_rf (some a0)), (1, va_rf v1), (2, .int v2), (3, .int v3), (4, va_rf v4)] [] σ b := by
        intro v3 v4 σ b h
        unfold P_X10_goBy_B91 at h
        refine y_aload hg 4 dX10_goBy_91 rfl ?_
        refine y_aload_n hg 1 dX10_goBy_93 rfl rfl ?_
        refine y_iload_n hg 2 dX10_goBy_94 rfl rfl ?_
        obtain ⟨c58, h59, h⟩ := h
        obtain ⟨h60, h⟩ := h
        refine yVVW (Qm := _) (rest := []) (As := [va_rf v1, .int v2]) hg (k_X0_meetThaw (gL g.1) (gD g.1) c58 v1 v2 σ _ h) lv_X10_266 h59 h60 rfl rfl dX10_goBy_95 (cat8 (Nat.le_of_ble_eq_true rfl)) hrm ⟨Nat.le_of_ble_eq_true rfl, Nat.le_of_ble_eq_true rfl⟩ (fun u61 σ62 h h63 => ?_)
        have h64 := kp h63 (show ¬ 2 = 0 by decide) h60
        refine y_sub [0, 1, 2, 3] rfl ?_
        exact J98 _ _ _ h
      refine y_iload_n hg 3 dX10_goBy_11 rfl rfl ?_
      refine y_aload_n hg 0 dX10_goBy_12 rfl rfl ?_
      obtain ⟨h4, h⟩ := h
      refine y_getR hg fl_X10_10 rfl rfl h4 dX10_goBy_13 ?_
      obtain ⟨c5, h6, h⟩ := h
      obtain ⟨h7, h⟩ := h
      refine yVIP (Qp := _) (rest := [.int v3]) (As := []) hg (k_Jx4a65c_size_8abf5 (gL g.1) (gD g.1) c5 σ _ h) lv_X10_87 h6 h7 rfl rfl dX10_goBy_16 (cat8 (Nat.le_of_ble_eq_true rfl)) hrm ⟨Nat.le_of_ble_eq_true rfl, Nat.le_of_ble_eq_true rfl⟩ (fun x8 h => ?_)
      refine y_icmp_ge (tgt := 104) hg dX10_goBy_19 (by decide) (fun q9 => ?_) (fun q9 => ?_)
      · replace h := h.1 q9
        refine y_iconst (v := 0) hg dX10_goBy_104 (by decide) ?_
        refine y_istore_n (lv' := [(3, .int 0), (0, va_rf (some a0)), (1, va_rf v1), (2, .int v2)]) hg dX10_goBy_105 rfl (by rw [hgN]; decide) rfl ?_
        refine y_sub [1, 2, 0] rfl ?_
        exact J106 _ _ _ _ h
      · replace h := h.2 q9
        refine y_aload_n hg 0 dX10_goBy_22 rfl rfl ?_
        refine y_getR hg fl_X10_10 rfl rfl h4 dX10_goBy_23 ?_
        refine y_iload_n hg 3 dX10_goBy_26 rfl rfl ?_
        obtain ⟨c10, h11, h⟩ := h
        obtain ⟨h12, h⟩ := h
        refine yVRP (Qp := _) (rest := []) (As := [.int v3]) hg (k_Jx4a65c_get_915e3 (gL g.1) (gD g.1) c10 v3 σ _ h) lv_X10_232 h11 h12 rfl rfl dX10_goBy_27 (cat8 (Nat.le_of_ble_eq_true rfl)) hrm ⟨Nat.le_of_ble_eq_true rfl, Nat.le_of_ble_eq_true rfl⟩ (fun r13 h => ?_)
        obtain ⟨c14, h15, h⟩ := h
        obtain ⟨h16, h⟩ := h
        refine y_cast (c := 4) hg (C := RX2) rfl (by decide) cl_X10_91 h15 h16 dX10_goBy_30 ?_
        refine y_getR hg fl_X10_110 rfl h15 h16 dX10_goBy_33 ?_
        refine y_nmR (fun r17 e18 => ?_)
        replace h := h r17 e18
        refine y_astore (lv' := [(4, va_rf r17), (0, va_rf (some a0)), (1, va_rf v1), (2, .int v2), (3, .int v3)]) hg dX10_goBy_36 (by rw [hgN]; decide) rfl ?_
        refine y_aload hg 0 dX10_goBy_38 rfl ?_
        refine y_ifnull (tgt := 98) hg dX10_goBy_40 (by decide) (fun h20 => ?_) (fun c19 h21 => ?_)
        · replace h := h.1 h20
          refine y_sub [1, 2, 3, 4] rfl ?_
          exact J98 _ _ _ h
        · replace h := h.2 c19 h21
          refine y_aload hg 0 dX10_goBy_43 rfl ?_
          refine y_aload_n hg 2 dX10_goBy_45 rfl rfl ?_
          obtain ⟨h22, h⟩ := h
          refine yVVW (Qm := _) (rest := []) (As := [va_rf v1]) hg (k_X0_clogUp (gL g.1) (gD g.1) c19 v1 σ _ h) lv_X10_249 h21 h22 rfl rfl dX10_goBy_46 (cat8 (Nat.le_of_ble_eq_true rfl)) hrm ⟨Nat.le_of_ble_eq_true rfl, Nat.le_of_ble_eq_true rfl⟩ (fun u23 σ24 h h25 => ?_)
          have h26 := kp h25 (show ¬ 12 = 0 by decide) h4
          have h27 := kp h25 (show ¬ 2 = 0 by decide) h22
          refine y_aload hg 0 dX10_goBy_49 rfl ?_
          refine y_aload_n hg 2 dX10_goBy_51 rfl rfl ?_
          refine y_iload_n hg 3 dX10_goBy_52 rfl rfl ?_
          refine yVVW (Qm := _) (rest := []) (As := [va_rf v1, .int v2]) hg (k_X0_shedLeaves (gL g.1) (gD g.1) c19 v1 v2 σ24 _ h) lv_X10_252 h21 h27 rfl rfl dX10_goBy_53 (cat8 (Nat.le_of_ble_eq_true rfl)) hrm ⟨Nat.le_of_ble_eq_true rfl, Nat.le_of_ble_eq_true rfl⟩ (fun u28 σ29 h h30 => ?_)
          have h31 := kp h30 (show ¬ 12 = 0 by decide) h26
          have h32 := kp h30 (show ¬ 2 = 0 by decide) h27
          refine y_aload_n hg 1 dX10_goBy_56 rfl rfl ?_
          refine y_getR hg fl_X10_69 rfl rfl h31 dX10_goBy_57 ?_
          refine y_iconst (v := 1) hg dX10_goBy_60 (by decide) ?_
          refine y_dup2 hg dX10_goBy_61 rfl (rf_cat _) ?_
          obtain ⟨c33, h34, h⟩ := h
          obtain ⟨h35, h⟩ := h
          obtain ⟨h36, h⟩ := h
          refine y_lald hg h34 h35 h36 dX10_goBy_62 ?_
          refine y_aload hg 0 dX10_goBy_63 rfl ?_
          refine y_aload_n hg 1 dX10_goBy_65 rfl rfl ?_
          refine y_getR hg fl_X10_51 rfl rfl h31 dX10_goBy_66 ?_
          refine yVIW (Qm := _) (rest := [.long (sL σ29 c33 (1 : Int32).toNatClampNeg), .int 1, va_rf (sR σ29 a0 13)]) (As := [va_rf (sR σ29 a0 8)]) hg (k_X0_drinkForADay (gL g.1) (gD g.1) c19 (sR σ29 a0 8) σ29 _ h) lv_X10_256 h21 h32 rfl rfl dX10_goBy_69 (cat8 (Nat.le_of_ble_eq_true rfl)) hrm ⟨Nat.le_of_ble_eq_true rfl, Nat.le_of_ble_eq_true rfl⟩ (fun x37 σ38 h h39 => ?_)
          have h40 := kp h39 (show ¬ 12 = 0 by decide) h31
          have h41 := kp h39 (show ¬ 2 = 0 by decide) h32
          have h42 := kp h39 (show ¬ 17 = 0 by decide) h35
          refine y_i2l hg dX10_goBy_72 ?_
          refine y_ladd hg dX10_goBy_73 ?_
          obtain ⟨h43, h⟩ := h
          refine y_last hg h34 h42 h43 dX10_goBy_74 ?_
          refine y_nmS (fun σ44 e45 => ?_)
          replace h := h σ44 e45
          have E46 : sK σ44 = sK σ38 := by rw [e45]; rfl
          refine y_aload hg 0 dX10_goBy_75 rfl ?_
          refine y_aload_n hg 2 dX10_goBy_77 rfl rfl ?_
          refine yVIP (Qp := _) (rest := []) (As := [va_rf v1]) hg (k_X0_standsTooLong (gL g.1) (gD g.1) c19 v1 σ44 _ h) lv_X10_259 h21 (kq E46 h41) rfl rfl dX10_goBy_78 (cat8 (Nat.le_of_ble_eq_true rfl)) hrm ⟨Nat.le_of_ble_eq_true rfl, Nat.le_of_ble_eq_true rfl⟩ (fun x47 h => ?_)
          refine y_if_eq (tgt := 91) hg dX10_goBy_81 (by decide) (fun q48 => ?_) (fun q48 => ?_)
          · replace h := h.1 q48
            refine y_sub [1, 2, 3, 4, 0] rfl ?_
            exact J91 _ _ _ _ h
          · replace h := h.2 q48
            refine y_aload_n hg 1 dX10_goBy_84 rfl rfl ?_
            refine y_iload_n hg 4 dX10_goBy_85 rfl rfl ?_
            refine y_iconst (v := 2) hg dX10_goBy_86 (by decide) ?_
            obtain ⟨bc51, h52, h53, h⟩ := h
            obtain ⟨h54, h⟩ := h
            refine yVIA (Qm := _) (rest := []) (As := [.int v3, .int 2]) hg hal (k_X10_tellComplaint (gL g.1) (gD g.1) a0 v3 2 σ44 bc51 _ h) lv_X10_263 rfl (kq E46 h40) rfl rfl dX10_goBy_87 (cat8 (Nat.le_of_ble_eq_true rfl)) hrm ⟨Nat.le_of_ble_eq_true rfl, Nat.le_of_ble_eq_true rfl⟩ h52 h53 (rll_c (lk_k h21 (kq E46 h41) (by decide)) (rll_c (lk_k rfl (kq E46 h40) (by decide)) (rll_c (lk_r h54) (rll_c (lk_i _) (rll_c (lk_i _) rll_nil))))) rl_nil (fun x49 σ50 h h55 => ?_)
            have h56 := kp h55 (show ¬ 12 = 0 by decide) (kq E46 h40)
            have h57 := kp h55 (show ¬ 2 = 0 by decide) (kq E46 h41)
            refine y_pop hg dX10_goBy_90 rfl ?_
            refine y_sub [1, 2, 3, 4, 0] rfl ?_
            exact J91 _ _ _ _ h
    exact key11 n11 v3 σ b hI11
  refine y_aload_n hg 0 dX10_goBy_0 rfl rfl ?_
  obtain ⟨h1, h⟩ := h
  refine y_getI hg fl_X10_120 rfl rfl h1 dX10_goBy_1 ?_
  refine y_sipush (v := 365) hg dX10_goBy_4 (by decide) ?_
  refine y_irem hg dX10_goBy_7 (by decide) ?_
  refine y_nmI (fun x2 e3 => ?_)
  replace h := h x2 e3
  refine y_istore_n (lv' := [(2, .int x2), (0, va_rf (some a0)), (1, va_rf v1)]) hg dX10_goBy_8 rfl (by rw [hgN]; decide) (by cases v1 <;> rfl) ?_
  refine y_iconst (v := 0) hg dX10_goBy_9 (by decide) ?_
  refine y_istore_n (lv' := [(3, .int 0), (2, .int x2), (0, va_rf (some a0)), (1, va_rf v1)]) hg dX10_goBy_10 rfl (by rw [hgN]; decide) rfl ?_
  refine y_sub [2, 3, 1, 0] rfl ?_
  exact J11 _ _ _ _ _ h
def P_X10_pass_L26b (a0 : Nat) (v1 : Int32) (v2 : Int32) (σ : Sg) (b : Nat × Nat) (Q : Int32 → Sg → Prop) (K26 : Int32 → Sg → (Nat × Nat) → Prop) : Prop :=
  (v1 ≤ v2 → sK σ a0 % 32 = 12 ∧ Q (sI σ a0 15) σ) ∧ (¬ (v1 ≤ v2) → sK σ a0 % 32 = 12 ∧ P_X10_lawOn a0 (sI σ a0 15) σ (fun r8 => ∃ bc11 : Nat × Nat, bc11.1 ≤ b.1 ∧ bc11.2 ≤ b.2 ∧ P_X10_goBy a0 r8 σ bc11 (fun _ σ10 => ∀ σ16 : Sg, σ16 = pI σ10 a0 15 ((sI σ10 a0 15) + 1) → ∀ x19 : Int32, x19 = v2 + 1 → K26 x19 σ16 (b.1 - bc11.1, b.2 - bc11.2))))
def P_X10_pass_L26 (a0 : Nat) (v1 : Int32) (v2 : Int32) (σ : Sg) (b : Nat × Nat) (Q : Int32 → Sg → Prop) : Prop :=
  ∃ I : Nat → Int32 → Sg → (Nat × Nat) → Prop, (∃ n, I n v2 σ b) ∧ ∀ (n : Nat) (v2 : Int32) (σ : Sg) (b : Nat × Nat), I n v2 σ b → P_X10_pass_L26b a0 v1 v2 σ b Q (fun v2 σ b => ∃ n', n' < n ∧ I n' v2 σ b)
def P_X10_pass (a0 : Nat) (v1 : Int32) (σ : Sg) (b : Nat × Nat) (Q : Int32 → Sg → Prop) : Prop :=
  P_X10_within v1 1 100 σ (fun x1 => (x1 = 0 → Q (-1) σ) ∧ (¬ (x1 = 0) → sK σ a0 % 32 = 12 ∧ (((sI σ a0 15) + v1) ≤ 3649 → P_X10_pass_L26 a0 v1 0 σ (b.1, b.2) Q) ∧ (¬ (((sI σ a0 15) + v1) ≤ 3649) → Q (-1) σ)))
set_option maxHeartbeats 4000000 in
set_option maxRecDepth 100000 in
theorem k_X10_pass (l : Launch) (D : Dg) (a0 : Nat) (v1 : Int32) (σ : Sg) (b : Nat × Nat) (Q : Int32 → Sg → Prop) (h : P_X10_pass a0 v1 σ b Q) : CtrY RA l D yX10_pass cX10_pass 3 (some FieldType.int) 9 218 mkI [.ref a0, .int v1] σ b Q := by
  refine y_ctrA (lv := [(0, va_rf (some a0)), (1, .int v1)]) (by decide) (by (exact Nat.le_of_ble_eq_true rfl)) (by (exact rfl)) (fun g hg hgL hgD hrm hgN hgI hend hal => ?_)
  subst hgD
  clear hgL
  unfold P_X10_pass at h
  have J26 : ∀ (v1 : Int32) (v2 : Int32) (σ : Sg) (b : Nat × Nat), P_X10_pass_L26 a0 v1 v2 σ b Q → XA g 26 [(0, va_rf (some a0)), (1, .int v1), (2, .int v2)] [] σ b := by
    intro v1 v2 σ b h
    unfold P_X10_pass_L26 at h
    obtain ⟨I26, ⟨n26, hI26⟩, hs26⟩ := h
    have key26 : ∀ (n : Nat), ∀ (v2 : Int32) (σ : Sg) (b : Nat × Nat), I26 n v2 σ b → XA g 26 [(0, va_rf (some a0)), (1, .int v1), (2, .int v2)] [] σ b := by
      intro n
      induction n using Nat.strongRecOn with
      | _ n ih26 =>
      intro v2 σ b hI
      have h := hs26 n v2 σ b hI
      clear hI hI26 hs26
      obtain ⟨K26, hK26⟩ : ∃ K : Int32 → Sg → (Nat × Nat) → Prop, K = (fun v2 σ b => ∃ n', n' < n ∧ I26 n' v2 σ b) := ⟨_, rfl⟩
      rw [← hK26] at h
      unfold P_X10_pass_L26b at h
      refine y_iload_n hg 2 dX10_pass_26 rfl rfl ?_
      refine y_iload_n hg 1 dX10_pass_27 rfl rfl ?_
      refine y_icmp_ge (tgt := 59) hg dX10_pass_28 (by decide) (fun q5 => ?_) (fun q5 => ?_)
      · replace h := h.1 q5
        refine y_aload_n hg 0 dX10_pass_59 rfl rfl ?_
        obtain ⟨h6, h⟩ := h
        refine y_getI hg fl_X10_120 rfl rfl h6 dX10_pass_60 ?_
        exact yEndI hend rfl dX10_pass_63 h
      · replace h := h.2 q5
        refine y_aload_n hg 0 dX10_pass_31 rfl rfl ?_
        refine y_aload_n hg 0 dX10_pass_32 rfl rfl ?_
        refine y_aload_n hg 0 dX10_pass_33 rfl rfl ?_
        obtain ⟨h7, h⟩ := h
        refine y_getI hg fl_X10_120 rfl rfl h7 dX10_pass_34 ?_
        refine yVRP (Qp := _) (rest := [va_rf (some a0)]) (As := [.int (sI σ a0 15)]) hg (k_X10_lawOn (gL g.1) (gD g.1) a0 (sI σ a0 15) σ _ h) lv_X10_123 rfl h7 rfl rfl dX10_pass_37 (cat8 (Nat.le_of_ble_eq_true rfl)) hrm ⟨Nat.le_of_ble_eq_true rfl, Nat.le_of_ble_eq_true rfl⟩ (fun r8 h => ?_)
        obtain ⟨bc11, h12, h13, h⟩ := h
        refine yVVA (Qm := _) (rest := []) (As := [va_rf r8]) hg hal (k_X10_goBy (gL g.1) (gD g.1) a0 r8 σ bc11 _ h) lv_X10_245 rfl h7 rfl rfl dX10_pass_40 (cat8 (Nat.le_of_ble_eq_true rfl)) hrm ⟨Nat.le_of_ble_eq_true rfl, Nat.le_of_ble_eq_true rfl⟩ h12 h13 (rll_c (lk_k rfl h7 (by decide)) (rll_c (lk_i _) (rll_c (lk_i _) rll_nil))) rl_nil (fun u9 σ10 h h14 => ?_)
        have h15 := kp h14 (show ¬ 12 = 0 by decide) h7
        refine y_aload_n hg 0 dX10_pass_43 rfl rfl ?_
        refine y_dup hg dX10_pass_44 rfl ?_
        refine y_getI hg fl_X10_120 rfl rfl h15 dX10_pass_45 ?_
        refine y_iconst (v := 1) hg dX10_pass_48 (by decide) ?_
        refine y_iadd hg dX10_pass_49 ?_
        refine y_putI hg fw_X10_120 (fun z => nomatch z) rfl h15 dX10_pass_50 ?_
        refine y_nmS (fun σ16 e17 => ?_)
        replace h := h σ16 e17
        have E18 : sK σ16 = sK σ10 := by rw [e17]; rfl
        obtain ⟨x19, e20⟩ : ∃ y : Int32, y = v2 + 1 := ⟨_, rfl⟩
        replace h := h x19 e20
        refine y_iinc (v := x19) (lv' := [(2, .int x19), (0, va_rf (some a0)), (1, .int v1)]) hg 2 dX10_pass_53 rfl (by rw [e20]; rfl) (by rw [hgN]; decide) rfl ?_
        refine y_goto (tgt := 26) hg dX10_pass_56 (by decide) ?_
        refine y_sub [1, 2, 0] rfl ?_
        subst hK26
        obtain ⟨n21, h22, h⟩ := h
        exact ih26 n21 h22 _ _ _ h
    exact key26 n26 v2 σ b hI26
  refine y_iload_n hg 1 dX10_pass_0 rfl rfl ?_
  refine y_iconst (v := 1) hg dX10_pass_1 (by decide) ?_
  refine y_bipush (v := 100) hg dX10_pass_2 (by decide) ?_
  refine ySIP (Qp := _) (rest := []) (As := [.int v1, .int 1, .int 100]) hg (k_X10_within (gL g.1) (gD g.1) v1 1 100 σ _ h) ls_X10_83 rfl rfl dX10_pass_4 (cat8 (Nat.le_of_ble_eq_true rfl)) hrm ⟨Nat.le_of_ble_eq_true rfl, Nat.le_of_ble_eq_true rfl⟩ (fun x1 h => ?_)
  refine y_if_eq (tgt := 22) hg dX10_pass_7 (by decide) (fun q2 => ?_) (fun q2 => ?_)
  · replace h := h.1 q2
    refine y_iconst (v := (-1)) hg dX10_pass_22 (by decide) ?_
    exact yEndI hend rfl dX10_pass_23 h
  · replace h := h.2 q2
    refine y_aload_n hg 0 dX10_pass_10 rfl rfl ?_
    obtain ⟨h3, h⟩ := h
    refine y_getI hg fl_X10_120 rfl rfl h3 dX10_pass_11 ?_
    refine y_iload_n hg 1 dX10_pass_14 rfl rfl ?_
    refine y_iadd hg dX10_pass_15 ?_
    refine y_sipush (v := 3649) hg dX10_pass_16 (by decide) ?_
    refine y_icmp_le (tgt := 24) hg dX10_pass_19 (by decide) (fun q4 => ?_) (fun q4 => ?_)
    · replace h := h.1 q4
      refine y_iconst (v := 0) hg dX10_pass_24 (by decide) ?_
      refine y_istore_n (lv' := [(2, .int 0), (0, va_rf (some a0)), (1, .int v1)]) hg dX10_pass_25 rfl (by rw [hgN]; decide) rfl ?_
      refine y_sub [1, 2, 0] rfl ?_
      exact J26 _ _ _ _ h
    · replace h := h.2 q4
      refine y_iconst (v := (-1)) hg dX10_pass_22 (by decide) ?_
      exact yEndI hend rfl dX10_pass_23 h
def P_X10_neighbour_L37b (a0 : Nat) (v1 : Int32) (v3 : Int32) (v4 : Int32) (σ : Sg) (Q : Int32 → Prop) (K37 : Int32 → Int32 → Prop) : Prop :=
  (10 ≤ v4 → Q v3) ∧ (¬ (10 ≤ v4) → sK σ a0 % 32 = 12 ∧ ∃ c13 : Nat, sR σ a0 11 = some c13 ∧ sK σ c13 % 32 = 21 ∧ vp_in v1 (sN σ c13) ∧ ∃ c17 : Nat, sR σ c13 v1.toNatClampNeg = some c17 ∧ sK σ c17 % 32 = 16 ∧ vp_in v4 (sN σ c17) ∧ ∀ x21 : Int32, x21 = v3 + (sI σ c17 v4.toNatClampNeg) → ∀ x23 : Int32, x23 = v4 + 1 → K37 x21 x23)
def P_X10_neighbour_L37 (a0 : Nat) (v1 : Int32) (v3 : Int32) (v4 : Int32) (σ : Sg) (Q : Int32 → Prop) : Prop :=
  ∃ I : Nat → Int32 → Int32 → Prop, (∃ n, I n v3 v4) ∧ ∀ (n : Nat) (v3 : Int32) (v4 : Int32), I n v3 v4 → P_X10_neighbour_L37b a0 v1 v3 v4 σ Q (fun v3 v4 => ∃ n', n' < n ∧ I n' v3 v4)
def P_X10_neighbour (a0 : Nat) (v1 : Int32) (v2 : Int32) (σ : Sg) (Q : Int32 → Prop) : Prop :=
  P_X10_within v1 0 9 σ (fun x1 => (x1 = 0 → Q (-1)) ∧ (¬ (x1 = 0) → P_X10_within v2 0 1 σ (fun x3 => (x3 = 0 → Q (-1)) ∧ (¬ (x3 = 0) → (v2 = 0 → sK σ a0 % 32 = 12 ∧ ∃ c7 : Nat, sR σ a0 10 = some c7 ∧ sK σ c7 % 32 = 16 ∧ vp_in v1 (sN σ c7) ∧ Q (sI σ c7 v1.toNatClampNeg)) ∧ (¬ (v2 = 0) → P_X10_neighbour_L37 a0 v1 0 0 σ Q)))))
set_option maxHeartbeats 4000000 in
set_option maxRecDepth 100000 in
theorem k_X10_neighbour (l : Launch) (D : Dg) (a0 : Nat) (v1 : Int32) (v2 : Int32) (σ : Sg) (Q : Int32 → Prop) (h : P_X10_neighbour a0 v1 v2 σ Q) : CtrY RN l D yX10_neighbour cX10_neighbour 5 (some FieldType.int) 1 22 mkI [.ref a0, .int v1, .int v2] σ (0, 0) (fun r σ2 => Q r ∧ σ2 = σ) := by
  refine y_ctrN (lv := [(0, va_rf (some a0)), (1, .int v1), (2, .int v2)]) (by decide) (by (exact Nat.le_of_ble_eq_true rfl)) (by (exact rfl)) (fun g hg hgL hgD hrm hgN hgI hend => ?_)
  subst hgD
  clear hgL
  unfold P_X10_neighbour at h
  have J37 : ∀ (v1 : Int32) (v3 : Int32) (v4 : Int32), P_X10_neighbour_L37 a0 v1 v3 v4 σ Q → XA g 37 [(0, va_rf (some a0)), (1, .int v1), (3, .int v3), (4, .int v4)] [] σ (0, 0) := by
    intro v1 v3 v4 h
    unfold P_X10_neighbour_L37 at h
    obtain ⟨I37, ⟨n37, hI37⟩, hs37⟩ := h
    have key37 : ∀ (n : Nat), ∀ (v3 : Int32) (v4 : Int32), I37 n v3 v4 → XA g 37 [(0, va_rf (some a0)), (1, .int v1), (3, .int v3), (4, .int v4)] [] σ (0, 0) := by
      intro n
      induction n using Nat.strongRecOn with
      | _ n ih37 =>
      intro v3 v4 hI
      have h := hs37 n v3 v4 hI
      clear hI hI37 hs37
      obtain ⟨K37, hK37⟩ : ∃ K : Int32 → Int32 → Prop, K = (fun v3 v4 => ∃ n', n' < n ∧ I37 n' v3 v4) := ⟨_, rfl⟩
      rw [← hK37] at h
      unfold P_X10_neighbour_L37b at h
      refine y_iload hg 3 dX10_neighbour_37 rfl ?_
      refine y_bipush (v := 10) hg dX10_neighbour_39 (by decide) ?_
      refine y_icmp_ge (tgt := 62) hg dX10_neighbour_41 (by decide) (fun q11 => ?_) (fun q11 => ?_)
      · replace h := h.1 q11
        refine y_iload_n hg 2 dX10_neighbour_62 rfl rfl ?_
        exact yEndI hend rfl dX10_neighbour_63 ⟨h, rfl⟩
      · replace h := h.2 q11
        refine y_iload_n hg 2 dX10_neighbour_44 rfl rfl ?_
        refine y_aload_n hg 0 dX10_neighbour_45 rfl rfl ?_
        obtain ⟨h12, h⟩ := h
        refine y_getR hg fl_X10_63 rfl rfl h12 dX10_neighbour_46 ?_
        refine y_iload_n hg 1 dX10_neighbour_49 rfl rfl ?_
        obtain ⟨c13, h14, h⟩ := h
        obtain ⟨h15, h⟩ := h
        obtain ⟨h16, h⟩ := h
        refine y_aald hg h14 h15 (by decide) h16 dX10_neighbour_50 ?_
        refine y_iload hg 3 dX10_neighbour_51 rfl ?_
        obtain ⟨c17, h18, h⟩ := h
        obtain ⟨h19, h⟩ := h
        obtain ⟨h20, h⟩ := h
        refine y_iald hg h18 h19 h20 dX10_neighbour_53 ?_
        refine y_iadd hg dX10_neighbour_54 ?_
        refine y_nmI (fun x21 e22 => ?_)
        replace h := h x21 e22
        refine y_istore_n (lv' := [(3, .int x21), (0, va_rf (some a0)), (1, .int v1), (4, .int v4)]) hg dX10_neighbour_55 rfl (by rw [hgN]; decide) rfl ?_
        obtain ⟨x23, e24⟩ : ∃ y : Int32, y = v4 + 1 := ⟨_, rfl⟩
        replace h := h x23 e24
        refine y_iinc (v := x23) (lv' := [(4, .int x23), (3, .int x21), (0, va_rf (some a0)), (1, .int v1)]) hg 3 dX10_neighbour_56 rfl (by rw [e24]; rfl) (by rw [hgN]; decide) rfl ?_
        refine y_goto (tgt := 37) hg dX10_neighbour_59 (by decide) ?_
        refine y_sub [2, 3, 1, 0] rfl ?_
        subst hK37
        obtain ⟨n25, h26, h⟩ := h
        exact ih37 n25 h26 _ _ h
    exact key37 n37 v3 v4 hI37
  refine y_iload_n hg 1 dX10_neighbour_0 rfl rfl ?_
  refine y_iconst (v := 0) hg dX10_neighbour_1 (by decide) ?_
  refine y_bipush (v := 9) hg dX10_neighbour_2 (by decide) ?_
  refine ySIP (Qp := _) (rest := []) (As := [.int v1, .int 0, .int 9]) hg (k_X10_within (gL g.1) (gD g.1) v1 0 9 σ _ h) ls_X10_83 rfl rfl dX10_neighbour_4 (cat8 (Nat.le_of_ble_eq_true rfl)) hrm ⟨Nat.le_of_ble_eq_true rfl, Nat.le_of_ble_eq_true rfl⟩ (fun x1 h => ?_)
  refine y_if_eq (tgt := 19) hg dX10_neighbour_7 (by decide) (fun q2 => ?_) (fun q2 => ?_)
  · replace h := h.1 q2
    refine y_iconst (v := (-1)) hg dX10_neighbour_19 (by decide) ?_
    exact yEndI hend rfl dX10_neighbour_20 ⟨h, rfl⟩
  · replace h := h.2 q2
    refine y_iload_n hg 2 dX10_neighbour_10 rfl rfl ?_
    refine y_iconst (v := 0) hg dX10_neighbour_11 (by decide) ?_
    refine y_iconst (v := 1) hg dX10_neighbour_12 (by decide) ?_
    refine ySIP (Qp := _) (rest := []) (As := [.int v2, .int 0, .int 1]) hg (k_X10_within (gL g.1) (gD g.1) v2 0 1 σ _ h) ls_X10_83 rfl rfl dX10_neighbour_13 (cat8 (Nat.le_of_ble_eq_true rfl)) hrm ⟨Nat.le_of_ble_eq_true rfl, Nat.le_of_ble_eq_true rfl⟩ (fun x3 h => ?_)
    refine y_if_ne (tgt := 21) hg dX10_neighbour_16 (by decide) (fun q4 => ?_) (fun q4 => ?_)
    · replace h := h.2 q4
      refine y_iload_n hg 2 dX10_neighbour_21 rfl rfl ?_
      refine y_if_ne (tgt := 32) hg dX10_neighbour_22 (by decide) (fun q5 => ?_) (fun q5 => ?_)
      · replace h := h.2 q5
        refine y_iconst (v := 0) hg dX10_neighbour_32 (by decide) ?_
        refine y_istore_n (lv' := [(3, .int 0), (0, va_rf (some a0)), (1, .int v1), (2, .int v2)]) hg dX10_neighbour_33 rfl (by rw [hgN]; decide) rfl ?_
        refine y_iconst (v := 0) hg dX10_neighbour_34 (by decide) ?_
        refine y_istore (lv' := [(4, .int 0), (3, .int 0), (0, va_rf (some a0)), (1, .int v1), (2, .int v2)]) hg dX10_neighbour_35 (by rw [hgN]; decide) rfl ?_
        refine y_sub [2, 3, 1, 0] rfl ?_
        exact J37 _ _ _ h
      · replace h := h.1 q5
        refine y_aload_n hg 0 dX10_neighbour_25 rfl rfl ?_
        obtain ⟨h6, h⟩ := h
        refine y_getR hg fl_X10_58 rfl rfl h6 dX10_neighbour_26 ?_
        refine y_iload_n hg 1 dX10_neighbour_29 rfl rfl ?_
        obtain ⟨c7, h8, h⟩ := h
        obtain ⟨h9, h⟩ := h
        obtain ⟨h10, h⟩ := h
        refine y_iald hg h8 h9 h10 dX10_neighbour_30 ?_
        exact yEndI hend rfl dX10_neighbour_31 ⟨h, rfl⟩
    · replace h := h.1 q4
      refine y_iconst (v := (-1)) hg dX10_neighbour_19 (by decide) ?_
      exact yEndI hend rfl dX10_neighbour_20 ⟨h, rfl⟩
def P_X10_turn_B98 (a0 : Nat) (v1 : Int32) (v2 : Int32) (v3 : Int32) (v4 : Option Nat) (v5 : Int32) (σ : Sg) (Q : Int32 → Prop) (K41 : Int32 → Prop) : Prop :=
  ∀ x30 : Int32, x30 = v5 + 1 → K41 x30
def P_X10_turn_L41b (a0 : Nat) (v1 : Int32) (v2 : Int32) (v3 : Int32) (v4 : Option Nat) (v5 : Int32) (σ : Sg) (Q : Int32 → Prop) (K41 : Int32 → Prop) : Prop :=
  ∃ c11 : Nat, v4 = some c11 ∧ sK σ c11 % 32 = 6 ∧ ∃ c14 : Nat, sR σ c11 2 = some c14 ∧ sK σ c14 % 32 = 1 ∧ P_Jx4a65c_size_8abf5 c14 σ (fun x17 => (x17 ≤ v5 → Q 0) ∧ (¬ (x17 ≤ v5) → ∃ c19 : Nat, sR σ c11 2 = some c19 ∧ sK σ c19 % 32 = 1 ∧ P_Jx4a65c_get_915e3 c19 v5 σ (fun r22 => ∃ c23 : Nat, r22 = some c23 ∧ sK σ c23 % 32 = 11 ∧ ((sI σ c23 0) = v1 → ((sI σ c23 1) = v2 → P_X9_fallsOn c23 v3 σ (fun x28 => (x28 = 0 → P_X10_turn_B98 a0 v1 v2 v3 v4 v5 σ Q K41) ∧ (¬ (x28 = 0) → Q 1))) ∧ (¬ ((sI σ c23 1) = v2) → P_X10_turn_B98 a0 v1 v2 v3 v4 v5 σ Q K41)) ∧ (¬ ((sI σ c23 0) = v1) → P_X10_turn_B98 a0 v1 v2 v3 v4 v5 σ Q K41))))
def P_X10_turn_L41 (a0 : Nat) (v1 : Int32) (v2 : Int32) (v3 : Int32) (v4 : Option Nat) (v5 : Int32) (σ : Sg) (Q : Int32 → Prop) : Prop :=
  ∃ I : Nat → Int32 → Prop, (∃ n, I n v5) ∧ ∀ (n : Nat) (v5 : Int32), I n v5 → P_X10_turn_L41b a0 v1 v2 v3 v4 v5 σ Q (fun v5 => ∃ n', n' < n ∧ I n' v5)
def P_X10_turn (a0 : Nat) (v1 : Int32) (v2 : Int32) (v3 : Int32) (σ : Sg) (Q : Int32 → Prop) : Prop :=
  P_X10_within v1 0 9 σ (fun x1 => (x1 = 0 → Q (-1)) ∧ (¬ (x1 = 0) → sK σ a0 % 32 = 12 ∧ P_X10_cornerAt a0 v2 σ (fun r4 => (r4 = none → Q (-1)) ∧ (∀ c5 : Nat, r4 = some c5 → P_X10_within v3 0 3649 σ (fun x8 => (x8 = 0 → Q (-1)) ∧ (¬ (x8 = 0) → P_X10_lawOn a0 v3 σ (fun r10 => P_X10_turn_L41 a0 v1 v2 v3 r10 0 σ Q)))))))
set_option maxHeartbeats 4000000 in
set_option maxRecDepth 100000 in
theorem k_X10_turn (l : Launch) (D : Dg) (a0 : Nat) (v1 : Int32) (v2 : Int32) (v3 : Int32) (σ : Sg) (Q : Int32 → Prop) (h : P_X10_turn a0 v1 v2 v3 σ Q) : CtrY RN l D yX10_turn cX10_turn 7 (some FieldType.int) 4 86 mkI [.ref a0, .int v1, .int v2, .int v3] σ (0, 0) (fun r σ2 => Q r ∧ σ2 = σ) := by
  refine y_ctrN (lv := [(0, va_rf (some a0)), (1, .int v1), (2, .int v2), (3, .int v3)]) (by decide) (by (exact Nat.le_of_ble_eq_true rfl)) (by (exact rfl)) (fun g hg hgL hgD hrm hgN hgI hend => ?_)
  subst hgD
  clear hgL
  unfold P_X10_turn at h
  have J41 : ∀ (v1 : Int32) (v2 : Int32) (v3 : Int32) (v4 : Option Nat) (v5 : Int32), P_X10_turn_L41 a0 v1 v2 v3 v4 v5 σ Q → XA g 41 [(0, va_rf (some a0)), (1, .int v1), (2, .int v2), (3, .int v3), (4, va_rf v4), (5, .int v5)] [] σ (0, 0) := by
    intro v1 v2 v3 v4 v5 h
    unfold P_X10_turn_L41 at h
    obtain ⟨I41, ⟨n41, hI41⟩, hs41⟩ := h
    have key41 : ∀ (n : Nat), ∀ (v5 : Int32), I41 n v5 → XA g 41 [(0, va_rf (some a0)), (1, .int v1), (2, .int v2), (3, .int v3), (4, va_rf v4), (5, .int v5)] [] σ (0, 0) := by
      intro n
      induction n using Nat.strongRecOn with
      | _ n ih41 =>
      intro v5 hI
      have h := hs41 n v5 hI
      clear hI hI41 hs41
      obtain ⟨K41, hK41⟩ : ∃ K : Int32 → Prop, K = (fun v5 => ∃ n', n' < n ∧ I41 n' v5) := ⟨_, rfl⟩
      rw [← hK41] at h
      unfold P_X10_turn_L41b at h
      have J98 : ∀ (v5 : Int32), P_X10_turn_B98 a0 v1 v2 v3 v4 v5 σ Q K41 → XA g 98 [(0, va_rf (some a0)), (1, .int v1), (2, .int v2), (3, .int v3), (4, va_rf v4), (5, .int v5)] [] σ (0, 0) := by
        intro v5 h
        unfold P_X10_turn_B98 at h
        obtain ⟨x30, e31⟩ : ∃ y : Int32, y = v5 + 1 := ⟨_, rfl⟩
        replace h := h x30 e31
        refine y_iinc (v := x30) (lv' := [(5, .int x30), (0, va_rf (some a0)), (1, .int v1), (2, .int v2), (3, .int v3), (4, va_rf v4)]) hg 5 dX10_turn_98 rfl (by rw [e31]; rfl) (by rw [hgN]; decide) (by cases v4 <;> rfl) ?_
        refine y_goto (tgt := 41) hg dX10_turn_101 (by decide) ?_
        refine y_sub [1, 2, 3, 4, 5, 0] rfl ?_
        subst hK41
        obtain ⟨n32, h33, h⟩ := h
        exact ih41 n32 h33 _ h
      refine y_iload hg 5 dX10_turn_41 rfl ?_
      refine y_aload hg 4 dX10_turn_43 rfl ?_
      obtain ⟨c11, h12, h⟩ := h
      obtain ⟨h13, h⟩ := h
      refine y_getR hg fl_X10_272 rfl h12 h13 dX10_turn_45 ?_
      obtain ⟨c14, h15, h⟩ := h
      obtain ⟨h16, h⟩ := h
      refine yVIP (Qp := _) (rest := [.int v5]) (As := []) hg (k_Jx4a65c_size_8abf5 (gL g.1) (gD g.1) c14 σ _ h) lv_X10_87 h15 h16 rfl rfl dX10_turn_48 (cat8 (Nat.le_of_ble_eq_true rfl)) hrm ⟨Nat.le_of_ble_eq_true rfl, Nat.le_of_ble_eq_true rfl⟩ (fun x17 h => ?_)
      refine y_icmp_ge (tgt := 104) hg dX10_turn_51 (by decide) (fun q18 => ?_) (fun q18 => ?_)
      · replace h := h.1 q18
        refine y_iconst (v := 0) hg dX10_turn_104 (by decide) ?_
        exact yEndI hend rfl dX10_turn_105 ⟨h, rfl⟩
      · replace h := h.2 q18
        refine y_aload hg 4 dX10_turn_54 rfl ?_
        refine y_getR hg fl_X10_272 rfl h12 h13 dX10_turn_56 ?_
        refine y_iload hg 5 dX10_turn_59 rfl ?_
        obtain ⟨c19, h20, h⟩ := h
        obtain ⟨h21, h⟩ := h
        refine yVRP (Qp := _) (rest := []) (As := [.int v5]) hg (k_Jx4a65c_get_915e3 (gL g.1) (gD g.1) c19 v5 σ _ h) lv_X10_232 h20 h21 rfl rfl dX10_turn_61 (cat8 (Nat.le_of_ble_eq_true rfl)) hrm ⟨Nat.le_of_ble_eq_true rfl, Nat.le_of_ble_eq_true rfl⟩ (fun r22 h => ?_)
        obtain ⟨c23, h24, h⟩ := h
        obtain ⟨h25, h⟩ := h
        refine y_cast (c := 11) hg (C := RX9) rfl (by decide) cl_X10_275 h24 h25 dX10_turn_64 ?_
        refine y_astore (lv' := [(6, va_rf r22), (0, va_rf (some a0)), (1, .int v1), (2, .int v2), (3, .int v3), (4, va_rf v4), (5, .int v5)]) hg dX10_turn_67 (by rw [hgN]; decide) rfl ?_
        refine y_aload hg 0 dX10_turn_69 rfl ?_
        refine y_getI hg fl_X10_286 rfl h24 h25 dX10_turn_71 ?_
        refine y_iload_n hg 2 dX10_turn_74 rfl rfl ?_
        refine y_icmp_ne (tgt := 98) hg dX10_turn_75 (by decide) (fun q26 => ?_) (fun q26 => ?_)
        · replace h := h.2 q26
          refine y_sub [1, 2, 3, 4, 5, 6] rfl ?_
          exact J98 _ h
        · replace h := h.1 q26
          refine y_aload hg 0 dX10_turn_78 rfl ?_
          refine y_getI hg fl_X10_281 rfl h24 h25 dX10_turn_80 ?_
          refine y_iload_n hg 3 dX10_turn_83 rfl rfl ?_
          refine y_icmp_ne (tgt := 98) hg dX10_turn_84 (by decide) (fun q27 => ?_) (fun q27 => ?_)
          · replace h := h.2 q27
            refine y_sub [1, 2, 3, 4, 5, 6] rfl ?_
            exact J98 _ h
          · replace h := h.1 q27
            refine y_aload hg 0 dX10_turn_87 rfl ?_
            refine y_iload_n hg 4 dX10_turn_89 rfl rfl ?_
            refine yVIP (Qp := _) (rest := []) (As := [.int v3]) hg (k_X9_fallsOn (gL g.1) (gD g.1) c23 v3 σ _ h) lv_X10_282 h24 h25 rfl rfl dX10_turn_90 (cat8 (Nat.le_of_ble_eq_true rfl)) hrm ⟨Nat.le_of_ble_eq_true rfl, Nat.le_of_ble_eq_true rfl⟩ (fun x28 h => ?_)
            refine y_if_eq (tgt := 98) hg dX10_turn_93 (by decide) (fun q29 => ?_) (fun q29 => ?_)
            · replace h := h.1 q29
              refine y_sub [1, 2, 3, 4, 5, 6] rfl ?_
              exact J98 _ h
            · replace h := h.2 q29
              refine y_iconst (v := 1) hg dX10_turn_96 (by decide) ?_
              exact yEndI hend rfl dX10_turn_97 ⟨h, rfl⟩
    exact key41 n41 v5 hI41
  refine y_iload_n hg 1 dX10_turn_0 rfl rfl ?_
  refine y_iconst (v := 0) hg dX10_turn_1 (by decide) ?_
  refine y_bipush (v := 9) hg dX10_turn_2 (by decide) ?_
  refine ySIP (Qp := _) (rest := []) (As := [.int v1, .int 0, .int 9]) hg (k_X10_within (gL g.1) (gD g.1) v1 0 9 σ _ h) ls_X10_83 rfl rfl dX10_turn_4 (cat8 (Nat.le_of_ble_eq_true rfl)) hrm ⟨Nat.le_of_ble_eq_true rfl, Nat.le_of_ble_eq_true rfl⟩ (fun x1 h => ?_)
  refine y_if_eq (tgt := 29) hg dX10_turn_7 (by decide) (fun q2 => ?_) (fun q2 => ?_)
  · replace h := h.1 q2
    refine y_iconst (v := (-1)) hg dX10_turn_29 (by decide) ?_
    exact yEndI hend rfl dX10_turn_30 ⟨h, rfl⟩
  · replace h := h.2 q2
    refine y_aload_n hg 0 dX10_turn_10 rfl rfl ?_
    refine y_iload_n hg 2 dX10_turn_11 rfl rfl ?_
    obtain ⟨h3, h⟩ := h
    refine yVRP (Qp := _) (rest := []) (As := [.int v2]) hg (k_X10_cornerAt (gL g.1) (gD g.1) a0 v2 σ _ h) lv_X10_100 rfl h3 rfl rfl dX10_turn_12 (cat8 (Nat.le_of_ble_eq_true rfl)) hrm ⟨Nat.le_of_ble_eq_true rfl, Nat.le_of_ble_eq_true rfl⟩ (fun r4 h => ?_)
    refine y_ifnull (tgt := 29) hg dX10_turn_15 (by decide) (fun h6 => ?_) (fun c5 h7 => ?_)
    · replace h := h.1 h6
      refine y_iconst (v := (-1)) hg dX10_turn_29 (by decide) ?_
      exact yEndI hend rfl dX10_turn_30 ⟨h, rfl⟩
    · replace h := h.2 c5 h7
      refine y_iload_n hg 3 dX10_turn_18 rfl rfl ?_
      refine y_iconst (v := 0) hg dX10_turn_19 (by decide) ?_
      refine y_sipush (v := 3649) hg dX10_turn_20 (by decide) ?_
      refine ySIP (Qp := _) (rest := []) (As := [.int v3, .int 0, .int 3649]) hg (k_X10_within (gL g.1) (gD g.1) v3 0 3649 σ _ h) ls_X10_83 rfl rfl dX10_turn_23 (cat8 (Nat.le_of_ble_eq_true rfl)) hrm ⟨Nat.le_of_ble_eq_true rfl, Nat.le_of_ble_eq_true rfl⟩ (fun x8 h => ?_)
      refine y_if_ne (tgt := 31) hg dX10_turn_26 (by decide) (fun q9 => ?_) (fun q9 => ?_)
      · replace h := h.2 q9
        refine y_aload_n hg 0 dX10_turn_31 rfl rfl ?_
        refine y_iload_n hg 3 dX10_turn_32 rfl rfl ?_
        refine yVRP (Qp := _) (rest := []) (As := [.int v3]) hg (k_X10_lawOn (gL g.1) (gD g.1) a0 v3 σ _ h) lv_X10_123 rfl h3 rfl rfl dX10_turn_33 (cat8 (Nat.le_of_ble_eq_true rfl)) hrm ⟨Nat.le_of_ble_eq_true rfl, Nat.le_of_ble_eq_true rfl⟩ (fun r10 h => ?_)
        refine y_astore (lv' := [(4, va_rf r10), (0, va_rf (some a0)), (1, .int v1), (2, .int v2), (3, .int v3)]) hg dX10_turn_36 (by rw [hgN]; decide) rfl ?_
        refine y_iconst (v := 0) hg dX10_turn_38 (by decide) ?_
        refine y_istore (lv' := [(5, .int 0), (4, va_rf r10), (0, va_rf (some a0)), (1, .int v1), (2, .int v2), (3, .int v3)]) hg dX10_turn_39 (by rw [hgN]; decide) (by cases r10 <;> rfl) ?_
        refine y_sub [2, 3, 4, 5, 1, 0] rfl ?_
        exact J41 _ _ _ _ _ h
      · replace h := h.1 q9
        refine y_iconst (v := (-1)) hg dX10_turn_29 (by decide) ?_
        exact yEndI hend rfl dX10_turn_30 ⟨h, rfl⟩
def P_X10_fee_B158 (a0 : Nat) (v4 : Int32) (σ : Sg) (Q : Int32 → Prop) : Prop :=
  ∀ x51 : Int32, x51 = (if (0 : Int32) < v4 then v4 else (0 : Int32)) → Q x51
def P_X10_fee_B126 (a0 : Nat) (v1 : Int32) (v2 : Int32) (v3 : Option Nat) (v4 : Int32) (v5 : Int32) (σ : Sg) (Q : Int32 → Prop) (K44 : Int32 → Int32 → Prop) : Prop :=
  ∀ x47 : Int32, x47 = v5 + 1 → K44 v4 x47
def P_X10_fee_B123 (a0 : Nat) (v1 : Int32) (v2 : Int32) (v3 : Option Nat) (v5 : Int32) (w0 : Int32) (w1 : Int32) (σ : Sg) (Q : Int32 → Prop) (K44 : Int32 → Int32 → Prop) : Prop :=
  ∀ x45 : Int32, x45 = w0 - w1 → P_X10_fee_B126 a0 v1 v2 v3 x45 v5 σ Q K44
def P_X10_fee_L44b (a0 : Nat) (v1 : Int32) (v2 : Int32) (v3 : Option Nat) (v4 : Int32) (v5 : Int32) (σ : Sg) (Q : Int32 → Prop) (K44 : Int32 → Int32 → Prop) : Prop :=
  sK σ a0 % 32 = 12 ∧ ∃ c8 : Nat, sR σ a0 1 = some c8 ∧ sK σ c8 % 32 = 1 ∧ P_Jx4a65c_size_8abf5 c8 σ (fun x11 => (x11 ≤ v5 → (10 ≤ v1 → P_X10_fee_B158 a0 v4 σ Q) ∧ (¬ (10 ≤ v1) → ∃ c14 : Nat, v3 = some c14 ∧ sK σ c14 % 32 = 6 ∧ P_X4_value c14 9 σ (fun x17 => ∃ c18 : Nat, sR σ a0 11 = some c18 ∧ sK σ c18 % 32 = 21 ∧ vp_in v1 (sN σ c18) ∧ ∃ c22 : Nat, sR σ c18 v1.toNatClampNeg = some c22 ∧ sK σ c22 % 32 = 16 ∧ vp_in v2 (sN σ c22) ∧ ∀ x26 : Int32, x26 = v4 - (x17 * (sI σ c22 v2.toNatClampNeg)) → P_X10_fee_B158 a0 x26 σ Q))) ∧ (¬ (x11 ≤ v5) → ∃ c28 : Nat, sR σ a0 1 = some c28 ∧ sK σ c28 % 32 = 1 ∧ P_Jx4a65c_get_915e3 c28 v5 σ (fun r31 => ∃ c32 : Nat, r31 = some c32 ∧ sK σ c32 % 32 = 8 ∧ ((sI σ c32 1) = v1 → ∃ c36 : Nat, v3 = some c36 ∧ sK σ c36 % 32 = 6 ∧ P_X4_value c36 7 σ (fun x39 => ∀ x40 : Int32, x40 = v4 + (x39 * (sI σ c32 2)) → P_X6_wasProvedIn c32 v2 σ (fun x42 => (x42 = 0 → P_X10_fee_B123 a0 v1 v2 v3 v5 x40 0 σ Q K44) ∧ (¬ (x42 = 0) → P_X4_value c36 8 σ (fun x44 => P_X10_fee_B123 a0 v1 v2 v3 v5 x40 (x44 * (sI σ c32 3)) σ Q K44))))) ∧ (¬ ((sI σ c32 1) = v1) → P_X10_fee_B126 a0 v1 v2 v3 v4 v5 σ Q K44))))
def P_X10_fee_L44 (a0 : Nat) (v1 : Int32) (v2 : Int32) (v3 : Option Nat) (v4 : Int32) (v5 : Int32) (σ : Sg) (Q : Int32 → Prop) : Prop :=
  ∃ I : Nat → Int32 → Int32 → Prop, (∃ n, I n v4 v5) ∧ ∀ (n : Nat) (v4 : Int32) (v5 : Int32), I n v4 v5 → P_X10_fee_L44b a0 v1 v2 v3 v4 v5 σ Q (fun v4 v5 => ∃ n', n' < n ∧ I n' v4 v5)
def P_X10_fee (a0 : Nat) (v1 : Int32) (v2 : Int32) (σ : Sg) (Q : Int32 → Prop) : Prop :=
  P_X10_within v1 0 19 σ (fun x1 => (x1 = 0 → Q (-1)) ∧ (¬ (x1 = 0) → P_X10_within v2 0 9 σ (fun x3 => (x3 = 0 → Q (-1)) ∧ (¬ (x3 = 0) → sK σ a0 % 32 = 12 ∧ P_X10_lawOn a0 (((v2 * 365) + 365) - 1) σ (fun r6 => P_X10_fee_L44 a0 v1 v2 r6 0 0 σ Q)))))
set_option maxHeartbeats 4000000 in
set_option maxRecDepth 100000 in
theorem k_X10_fee (l : Launch) (D : Dg) (a0 : Nat) (v1 : Int32) (v2 : Int32) (σ : Sg) (Q : Int32 → Prop) (h : P_X10_fee a0 v1 v2 σ Q) : CtrY RN l D yX10_fee cX10_fee 7 (some FieldType.int) 4 86 mkI [.ref a0, .int v1, .int v2] σ (0, 0) (fun r σ2 => Q r ∧ σ2 = σ) := by
  refine y_ctrN (lv := [(0, va_rf (some a0)), (1, .int v1), (2, .int v2)]) (by decide) (by (exact Nat.le_of_ble_eq_true rfl)) (by (exact rfl)) (fun g hg hgL hgD hrm hgN hgI hend => ?_)
  subst hgD
  clear hgL
  unfold P_X10_fee at h
  have J158 : ∀ (v4 : Int32), P_X10_fee_B158 a0 v4 σ Q → XA g 158 [(0, va_rf (some a0)), (4, .int v4)] [] σ (0, 0) := by
    intro v4 h
    unfold P_X10_fee_B158 at h
    refine y_iconst (v := 0) hg dX10_fee_158 (by decide) ?_
    refine y_iload hg 1 dX10_fee_159 rfl ?_
    refine y_mmax hg mm_X10_295 (cat8 (Nat.le_of_ble_eq_true rfl)) hrm ⟨Nat.le_of_ble_eq_true rfl, Nat.le_of_ble_eq_true rfl⟩ dX10_fee_161 ?_
    refine y_nmI (fun x51 e52 => ?_)
    replace h := h x51 e52
    exact yEndI hend rfl dX10_fee_164 ⟨h, rfl⟩
  have J44 : ∀ (v1 : Int32) (v2 : Int32) (v3 : Option Nat) (v4 : Int32) (v5 : Int32), P_X10_fee_L44 a0 v1 v2 v3 v4 v5 σ Q → XA g 44 [(0, va_rf (some a0)), (1, .int v1), (2, .int v2), (3, va_rf v3), (4, .int v4), (5, .int v5)] [] σ (0, 0) := by
    intro v1 v2 v3 v4 v5 h
    unfold P_X10_fee_L44 at h
    obtain ⟨I44, ⟨n44, hI44⟩, hs44⟩ := h
    have key44 : ∀ (n : Nat), ∀ (v4 : Int32) (v5 : Int32), I44 n v4 v5 → XA g 44 [(0, va_rf (some a0)), (1, .int v1), (2, .int v2), (3, va_rf v3), (4, .int v4), (5, .int v5)] [] σ (0, 0) := by
      intro n
      induction n using Nat.strongRecOn with
      | _ n ih44 =>
      intro v4 v5 hI
      have h := hs44 n v4 v5 hI
      clear hI hI44 hs44
      obtain ⟨K44, hK44⟩ : ∃ K : Int32 → Int32 → Prop, K = (fun v4 v5 => ∃ n', n' < n ∧ I44 n' v4 v5) := ⟨_, rfl⟩
      rw [← hK44] at h
      unfold P_X10_fee_L44b at h
      have J126 : ∀ (v4 : Int32) (v5 : Int32), P_X10_fee_B126 a0 v1 v2 v3 v4 v5 σ Q K44 → XA g 126 [(0, va_rf (some a0)), (1, .int v1), (2, .int v2), (3, va_rf v3), (4, .int v4), (5, .int v5)] [] σ (0, 0) := by
        intro v4 v5 h
        unfold P_X10_fee_B126 at h
        obtain ⟨x47, e48⟩ : ∃ y : Int32, y = v5 + 1 := ⟨_, rfl⟩
        replace h := h x47 e48
        refine y_iinc (v := x47) (lv' := [(5, .int x47), (0, va_rf (some a0)), (1, .int v1), (2, .int v2), (3, va_rf v3), (4, .int v4)]) hg 5 dX10_fee_126 rfl (by rw [e48]; rfl) (by rw [hgN]; decide) rfl ?_
        refine y_goto (tgt := 44) hg dX10_fee_129 (by decide) ?_
        refine y_sub [1, 2, 3, 4, 5, 0] rfl ?_
        subst hK44
        obtain ⟨n49, h50, h⟩ := h
        exact ih44 n49 h50 _ _ h
      have J123 : ∀ (v5 : Int32) (w0 : Int32) (w1 : Int32), P_X10_fee_B123 a0 v1 v2 v3 v5 w0 w1 σ Q K44 → XA g 123 [(0, va_rf (some a0)), (1, .int v1), (2, .int v2), (3, va_rf v3), (5, .int v5)] [.int w1, .int w0] σ (0, 0) := by
        intro v5 w0 w1 h
        unfold P_X10_fee_B123 at h
        refine y_isub hg dX10_fee_123 ?_
        refine y_nmI (fun x45 e46 => ?_)
        replace h := h x45 e46
        refine y_istore (lv' := [(4, .int x45), (0, va_rf (some a0)), (1, .int v1), (2, .int v2), (3, va_rf v3), (5, .int v5)]) hg dX10_fee_124 (by rw [hgN]; decide) (by cases v3 <;> rfl) ?_
        refine y_sub [1, 2, 3, 4, 0, 5] rfl ?_
        exact J126 _ _ h
      refine y_iload hg 5 dX10_fee_44 rfl ?_
      refine y_aload_n hg 0 dX10_fee_46 rfl rfl ?_
      obtain ⟨h7, h⟩ := h
      refine y_getR hg fl_X10_16 rfl rfl h7 dX10_fee_47 ?_
      obtain ⟨c8, h9, h⟩ := h
      obtain ⟨h10, h⟩ := h
      refine yVIP (Qp := _) (rest := [.int v5]) (As := []) hg (k_Jx4a65c_size_8abf5 (gL g.1) (gD g.1) c8 σ _ h) lv_X10_87 h9 h10 rfl rfl dX10_fee_50 (cat8 (Nat.le_of_ble_eq_true rfl)) hrm ⟨Nat.le_of_ble_eq_true rfl, Nat.le_of_ble_eq_true rfl⟩ (fun x11 h => ?_)
      refine y_icmp_ge (tgt := 132) hg dX10_fee_53 (by decide) (fun q12 => ?_) (fun q12 => ?_)
      · replace h := h.1 q12
        refine y_iload_n hg 1 dX10_fee_132 rfl rfl ?_
        refine y_bipush (v := 10) hg dX10_fee_133 (by decide) ?_
        refine y_icmp_ge (tgt := 158) hg dX10_fee_135 (by decide) (fun q13 => ?_) (fun q13 => ?_)
        · replace h := h.1 q13
          refine y_sub [0, 4] rfl ?_
          exact J158 _ h
        · replace h := h.2 q13
          refine y_iload hg 4 dX10_fee_138 rfl ?_
          refine y_aload_n hg 3 dX10_fee_140 rfl rfl ?_
          refine y_bipush (v := 9) hg dX10_fee_141 (by decide) ?_
          obtain ⟨c14, h15, h⟩ := h
          obtain ⟨h16, h⟩ := h
          refine yVIP (Qp := _) (rest := [.int v4]) (As := [.int 9]) hg (k_X4_value (gL g.1) (gD g.1) c14 9 σ _ h) lv_X10_127 h15 h16 rfl rfl dX10_fee_143 (cat8 (Nat.le_of_ble_eq_true rfl)) hrm ⟨Nat.le_of_ble_eq_true rfl, Nat.le_of_ble_eq_true rfl⟩ (fun x17 h => ?_)
          refine y_aload_n hg 0 dX10_fee_146 rfl rfl ?_
          refine y_getR hg fl_X10_63 rfl rfl h7 dX10_fee_147 ?_
          refine y_iload_n hg 1 dX10_fee_150 rfl rfl ?_
          obtain ⟨c18, h19, h⟩ := h
          obtain ⟨h20, h⟩ := h
          obtain ⟨h21, h⟩ := h
          refine y_aald hg h19 h20 (by decide) h21 dX10_fee_151 ?_
          refine y_iload_n hg 2 dX10_fee_152 rfl rfl ?_
          obtain ⟨c22, h23, h⟩ := h
          obtain ⟨h24, h⟩ := h
          obtain ⟨h25, h⟩ := h
          refine y_iald hg h23 h24 h25 dX10_fee_153 ?_
          refine y_imul hg dX10_fee_154 ?_
          refine y_isub hg dX10_fee_155 ?_
          refine y_nmI (fun x26 e27 => ?_)
          replace h := h x26 e27
          refine y_istore (lv' := [(4, .int x26), (0, va_rf (some a0)), (1, .int v1), (2, .int v2), (3, va_rf v3), (5, .int v5)]) hg dX10_fee_156 (by rw [hgN]; decide) (by cases v3 <;> rfl) ?_
          refine y_sub [1, 0] rfl ?_
          exact J158 _ h
      · replace h := h.2 q12
        refine y_aload_n hg 0 dX10_fee_56 rfl rfl ?_
        refine y_getR hg fl_X10_16 rfl rfl h7 dX10_fee_57 ?_
        refine y_iload hg 5 dX10_fee_60 rfl ?_
        obtain ⟨c28, h29, h⟩ := h
        obtain ⟨h30, h⟩ := h
        refine yVRP (Qp := _) (rest := []) (As := [.int v5]) hg (k_Jx4a65c_get_915e3 (gL g.1) (gD g.1) c28 v5 σ _ h) lv_X10_232 h29 h30 rfl rfl dX10_fee_62 (cat8 (Nat.le_of_ble_eq_true rfl)) hrm ⟨Nat.le_of_ble_eq_true rfl, Nat.le_of_ble_eq_true rfl⟩ (fun r31 h => ?_)
        obtain ⟨c32, h33, h⟩ := h
        obtain ⟨h34, h⟩ := h
        refine y_cast (c := 8) hg (C := RX6) rfl (by decide) cl_X10_107 h33 h34 dX10_fee_65 ?_
        refine y_astore (lv' := [(6, va_rf r31), (0, va_rf (some a0)), (1, .int v1), (2, .int v2), (3, va_rf v3), (4, .int v4), (5, .int v5)]) hg dX10_fee_68 (by rw [hgN]; decide) rfl ?_
        refine y_aload hg 0 dX10_fee_70 rfl ?_
        refine y_getI hg fl_X10_224 rfl h33 h34 dX10_fee_72 ?_
        refine y_iload_n hg 2 dX10_fee_75 rfl rfl ?_
        refine y_icmp_ne (tgt := 126) hg dX10_fee_76 (by decide) (fun q35 => ?_) (fun q35 => ?_)
        · replace h := h.2 q35
          refine y_sub [1, 2, 3, 4, 5, 6] rfl ?_
          exact J126 _ _ h
        · replace h := h.1 q35
          refine y_iload hg 5 dX10_fee_79 rfl ?_
          refine y_aload_n hg 4 dX10_fee_81 rfl rfl ?_
          refine y_bipush (v := 7) hg dX10_fee_82 (by decide) ?_
          obtain ⟨c36, h37, h⟩ := h
          obtain ⟨h38, h⟩ := h
          refine yVIP (Qp := _) (rest := [.int v4]) (As := [.int 7]) hg (k_X4_value (gL g.1) (gD g.1) c36 7 σ _ h) lv_X10_127 h37 h38 rfl rfl dX10_fee_84 (cat8 (Nat.le_of_ble_eq_true rfl)) hrm ⟨Nat.le_of_ble_eq_true rfl, Nat.le_of_ble_eq_true rfl⟩ (fun x39 h => ?_)
          refine y_aload hg 0 dX10_fee_87 rfl ?_
          refine y_getI hg fl_X10_227 rfl h33 h34 dX10_fee_89 ?_
          refine y_imul hg dX10_fee_92 ?_
          refine y_iadd hg dX10_fee_93 ?_
          refine y_nmI (fun x40 e41 => ?_)
          replace h := h x40 e41
          refine y_istore (lv' := [(4, .int x40), (6, va_rf r31), (0, va_rf (some a0)), (1, .int v1), (2, .int v2), (3, va_rf v3), (5, .int v5)]) hg dX10_fee_94 (by rw [hgN]; decide) (by cases v3 <;> rfl) ?_
          refine y_iload hg 0 dX10_fee_96 rfl ?_
          refine y_aload hg 1 dX10_fee_98 rfl ?_
          refine y_iload_n hg 4 dX10_fee_100 rfl rfl ?_
          refine yVIP (Qp := _) (rest := [.int x40]) (As := [.int v2]) hg (k_X6_wasProvedIn (gL g.1) (gD g.1) c32 v2 σ _ h) lv_X10_292 h33 h34 rfl rfl dX10_fee_101 (cat8 (Nat.le_of_ble_eq_true rfl)) hrm ⟨Nat.le_of_ble_eq_true rfl, Nat.le_of_ble_eq_true rfl⟩ (fun x42 h => ?_)
          refine y_if_eq (tgt := 122) hg dX10_fee_104 (by decide) (fun q43 => ?_) (fun q43 => ?_)
          · replace h := h.1 q43
            refine y_iconst (v := 0) hg dX10_fee_122 (by decide) ?_
            refine y_sub [2, 3, 4, 5, 6] rfl ?_
            exact J123 _ _ _ h
          · replace h := h.2 q43
            refine y_aload_n hg 5 dX10_fee_107 rfl rfl ?_
            refine y_bipush (v := 8) hg dX10_fee_108 (by decide) ?_
            refine yVIP (Qp := _) (rest := [.int x40]) (As := [.int 8]) hg (k_X4_value (gL g.1) (gD g.1) c36 8 σ _ h) lv_X10_127 h37 h38 rfl rfl dX10_fee_110 (cat8 (Nat.le_of_ble_eq_true rfl)) hrm ⟨Nat.le_of_ble_eq_true rfl, Nat.le_of_ble_eq_true rfl⟩ (fun x44 h => ?_)
            refine y_aload hg 1 dX10_fee_113 rfl ?_
            refine y_getI hg fl_X10_161 rfl h33 h34 dX10_fee_115 ?_
            refine y_imul hg dX10_fee_118 ?_
            refine y_goto (tgt := 123) hg dX10_fee_119 (by decide) ?_
            refine y_sub [2, 3, 4, 5, 6] rfl ?_
            exact J123 _ _ _ h
    exact key44 n44 v4 v5 hI44
  refine y_iload_n hg 1 dX10_fee_0 rfl rfl ?_
  refine y_iconst (v := 0) hg dX10_fee_1 (by decide) ?_
  refine y_bipush (v := 19) hg dX10_fee_2 (by decide) ?_
  refine ySIP (Qp := _) (rest := []) (As := [.int v1, .int 0, .int 19]) hg (k_X10_within (gL g.1) (gD g.1) v1 0 19 σ _ h) ls_X10_83 rfl rfl dX10_fee_4 (cat8 (Nat.le_of_ble_eq_true rfl)) hrm ⟨Nat.le_of_ble_eq_true rfl, Nat.le_of_ble_eq_true rfl⟩ (fun x1 h => ?_)
  refine y_if_eq (tgt := 20) hg dX10_fee_7 (by decide) (fun q2 => ?_) (fun q2 => ?_)
  · replace h := h.1 q2
    refine y_iconst (v := (-1)) hg dX10_fee_20 (by decide) ?_
    exact yEndI hend rfl dX10_fee_21 ⟨h, rfl⟩
  · replace h := h.2 q2
    refine y_iload_n hg 2 dX10_fee_10 rfl rfl ?_
    refine y_iconst (v := 0) hg dX10_fee_11 (by decide) ?_
    refine y_bipush (v := 9) hg dX10_fee_12 (by decide) ?_
    refine ySIP (Qp := _) (rest := []) (As := [.int v2, .int 0, .int 9]) hg (k_X10_within (gL g.1) (gD g.1) v2 0 9 σ _ h) ls_X10_83 rfl rfl dX10_fee_14 (cat8 (Nat.le_of_ble_eq_true rfl)) hrm ⟨Nat.le_of_ble_eq_true rfl, Nat.le_of_ble_eq_true rfl⟩ (fun x3 h => ?_)
    refine y_if_ne (tgt := 22) hg dX10_fee_17 (by decide) (fun q4 => ?_) (fun q4 => ?_)
    · replace h := h.2 q4
      refine y_aload_n hg 0 dX10_fee_22 rfl rfl ?_
      refine y_iload_n hg 2 dX10_fee_23 rfl rfl ?_
      refine y_sipush (v := 365) hg dX10_fee_24 (by decide) ?_
      refine y_imul hg dX10_fee_27 ?_
      refine y_sipush (v := 365) hg dX10_fee_28 (by decide) ?_
      refine y_iadd hg dX10_fee_31 ?_
      refine y_iconst (v := 1) hg dX10_fee_32 (by decide) ?_
      refine y_isub hg dX10_fee_33 ?_
      obtain ⟨h5, h⟩ := h
      refine yVRP (Qp := _) (rest := []) (As := [.int (((v2 * 365) + 365) - 1)]) hg (k_X10_lawOn (gL g.1) (gD g.1) a0 (((v2 * 365) + 365) - 1) σ _ h) lv_X10_123 rfl h5 rfl rfl dX10_fee_34 (cat8 (Nat.le_of_ble_eq_true rfl)) hrm ⟨Nat.le_of_ble_eq_true rfl, Nat.le_of_ble_eq_true rfl⟩ (fun r6 h => ?_)
      refine y_astore_n (lv' := [(3, va_rf r6), (0, va_rf (some a0)), (1, .int v1), (2, .int v2)]) hg dX10_fee_37 rfl (by rw [hgN]; decide) rfl ?_
      refine y_iconst (v := 0) hg dX10_fee_38 (by decide) ?_
      refine y_istore (lv' := [(4, .int 0), (3, va_rf r6), (0, va_rf (some a0)), (1, .int v1), (2, .int v2)]) hg dX10_fee_39 (by rw [hgN]; decide) (by cases r6 <;> rfl) ?_
      refine y_iconst (v := 0) hg dX10_fee_41 (by decide) ?_
      refine y_istore (lv' := [(5, .int 0), (4, .int 0), (3, va_rf r6), (0, va_rf (some a0)), (1, .int v1), (2, .int v2)]) hg dX10_fee_42 (by rw [hgN]; decide) rfl ?_
      refine y_sub [3, 4, 5, 2, 1, 0] rfl ?_
      exact J44 _ _ _ _ _ h
    · replace h := h.1 q4
      refine y_iconst (v := (-1)) hg dX10_fee_20 (by decide) ?_
      exact yEndI hend rfl dX10_fee_21 ⟨h, rfl⟩
def P_X10_weighGains_B58 (a0 : Nat) (v1 : Int32) (w0 : Option Nat) (w1 : Int32) (w2 : Int32) (σ : Sg) (Q : Unit → Sg → Prop) (K2 : Int32 → Sg → Prop) : Prop :=
  ∃ c25 : Nat, w0 = some c25 ∧ sK σ c25 % 32 = 16 ∧ vp_in w1 (sN σ c25) ∧ ∀ σ29 : Sg, σ29 = pI σ c25 w1.toNatClampNeg w2 → ∀ x32 : Int32, x32 = v1 + 1 → K2 x32 σ29
def P_X10_weighGains_L2b (a0 : Nat) (v1 : Int32) (σ : Sg) (Q : Unit → Sg → Prop) (K2 : Int32 → Sg → Prop) : Prop :=
  sK σ a0 % 32 = 12 ∧ ∃ c2 : Nat, sR σ a0 0 = some c2 ∧ sK σ c2 % 32 = 1 ∧ P_Jx4a65c_size_8abf5 c2 σ (fun x5 => (x5 ≤ v1 → Q () σ) ∧ (¬ (x5 ≤ v1) → ∃ c7 : Nat, sR σ a0 12 = some c7 ∧ sK σ c7 % 32 = 16 ∧ ((nI (sN σ c7)) ≤ v1 → Q () σ) ∧ (¬ ((nI (sN σ c7)) ≤ v1) → ∃ c11 : Nat, sR σ a0 0 = some c11 ∧ sK σ c11 % 32 = 1 ∧ P_Jx4a65c_get_915e3 c11 v1 σ (fun r14 => ∃ c15 : Nat, r14 = some c15 ∧ sK σ c15 % 32 = 4 ∧ ∀ r18 : Option Nat, r18 = sR σ c15 5 → (r18 = none → P_X10_weighGains_B58 a0 v1 (sR σ a0 12) v1 0 σ Q K2) ∧ (∀ c20 : Nat, r18 = some c20 → sK σ c20 % 32 = 2 ∧ P_X0_gainByCare c20 (sR σ a0 8) σ (fun x24 => P_X10_weighGains_B58 a0 v1 (sR σ a0 12) v1 x24 σ Q K2))))))
def P_X10_weighGains_L2 (a0 : Nat) (v1 : Int32) (σ : Sg) (Q : Unit → Sg → Prop) : Prop :=
  ∃ I : Nat → Int32 → Sg → Prop, (∃ n, I n v1 σ) ∧ ∀ (n : Nat) (v1 : Int32) (σ : Sg), I n v1 σ → P_X10_weighGains_L2b a0 v1 σ Q (fun v1 σ => ∃ n', n' < n ∧ I n' v1 σ)
def P_X10_weighGains (a0 : Nat) (σ : Sg) (Q : Unit → Sg → Prop) : Prop :=
  P_X10_weighGains_L2 a0 0 σ Q
set_option maxHeartbeats 4000000 in
set_option maxRecDepth 100000 in
theorem k_X10_weighGains (l : Launch) (D : Dg) (a0 : Nat) (σ : Sg) (Q : Unit → Sg → Prop) (h : P_X10_weighGains a0 σ Q) : CtrY RN l D yX10_weighGains cX10_weighGains 3 (none) 3 71 mkV [.ref a0] σ (0, 0) Q := by
  refine y_ctrN (lv := [(0, va_rf (some a0))]) (by decide) (by (exact Nat.le_of_ble_eq_true rfl)) (by (exact rfl)) (fun g hg hgL hgD hrm hgN hgI hend => ?_)
  subst hgD
  clear hgL
  unfold P_X10_weighGains at h
  have J2 : ∀ (v1 : Int32) (σ : Sg), P_X10_weighGains_L2 a0 v1 σ Q → XA g 2 [(0, va_rf (some a0)), (1, .int v1)] [] σ (0, 0) := by
    intro v1 σ h
    unfold P_X10_weighGains_L2 at h
    obtain ⟨I2, ⟨n2, hI2⟩, hs2⟩ := h
    have key2 : ∀ (n : Nat), ∀ (v1 : Int32) (σ : Sg), I2 n v1 σ → XA g 2 [(0, va_rf (some a0)), (1, .int v1)] [] σ (0, 0) := by
      intro n
      induction n using Nat.strongRecOn with
      | _ n ih2 =>
      intro v1 σ hI
      have h := hs2 n v1 σ hI
      clear hI hI2 hs2
      obtain ⟨K2, hK2⟩ : ∃ K : Int32 → Sg → Prop, K = (fun v1 σ => ∃ n', n' < n ∧ I2 n' v1 σ) := ⟨_, rfl⟩
      rw [← hK2] at h
      unfold P_X10_weighGains_L2b at h
      have J58 : ∀ (v1 : Int32) (w0 : Option Nat) (w1 : Int32) (w2 : Int32) (σ : Sg), P_X10_weighGains_B58 a0 v1 w0 w1 w2 σ Q K2 → XA g 58 [(0, va_rf (some a0)), (1, .int v1)] [.int w2, .int w1, va_rf w0] σ (0, 0) := by
        intro v1 w0 w1 w2 σ h
        unfold P_X10_weighGains_B58 at h
        obtain ⟨c25, h26, h⟩ := h
        obtain ⟨h27, h⟩ := h
        obtain ⟨h28, h⟩ := h
        refine y_iast hg h26 h27 h28 dX10_weighGains_58 ?_
        refine y_nmS (fun σ29 e30 => ?_)
        replace h := h σ29 e30
        have E31 : sK σ29 = sK σ := by rw [e30]; rfl
        obtain ⟨x32, e33⟩ : ∃ y : Int32, y = v1 + 1 := ⟨_, rfl⟩
        replace h := h x32 e33
        refine y_iinc (v := x32) (lv' := [(1, .int x32), (0, va_rf (some a0))]) hg 1 dX10_weighGains_59 rfl (by rw [e33]; rfl) (by rw [hgN]; decide) rfl ?_
        refine y_goto (tgt := 2) hg dX10_weighGains_62 (by decide) ?_
        refine y_sub [1, 0] rfl ?_
        subst hK2
        obtain ⟨n34, h35, h⟩ := h
        exact ih2 n34 h35 _ _ h
      refine y_iload_n hg 1 dX10_weighGains_2 rfl rfl ?_
      refine y_aload_n hg 0 dX10_weighGains_3 rfl rfl ?_
      obtain ⟨h1, h⟩ := h
      refine y_getR hg fl_X10_10 rfl rfl h1 dX10_weighGains_4 ?_
      obtain ⟨c2, h3, h⟩ := h
      obtain ⟨h4, h⟩ := h
      refine yVIP (Qp := _) (rest := [.int v1]) (As := []) hg (k_Jx4a65c_size_8abf5 (gL g.1) (gD g.1) c2 σ _ h) lv_X10_87 h3 h4 rfl rfl dX10_weighGains_7 (cat8 (Nat.le_of_ble_eq_true rfl)) hrm ⟨Nat.le_of_ble_eq_true rfl, Nat.le_of_ble_eq_true rfl⟩ (fun x5 h => ?_)
      refine y_icmp_ge (tgt := 65) hg dX10_weighGains_10 (by decide) (fun q6 => ?_) (fun q6 => ?_)
      · replace h := h.1 q6
        exact yEndV hend dX10_weighGains_65 h
      · replace h := h.2 q6
        refine y_iload_n hg 1 dX10_weighGains_13 rfl rfl ?_
        refine y_aload_n hg 0 dX10_weighGains_14 rfl rfl ?_
        refine y_getR hg fl_X10_66 rfl rfl h1 dX10_weighGains_15 ?_
        obtain ⟨c7, h8, h⟩ := h
        obtain ⟨h9, h⟩ := h
        refine y_alen hg h8 h9 (by decide) (by decide) dX10_weighGains_18 ?_
        refine y_icmp_ge (tgt := 65) hg dX10_weighGains_19 (by decide) (fun q10 => ?_) (fun q10 => ?_)
        · replace h := h.1 q10
          exact yEndV hend dX10_weighGains_65 h
        · replace h := h.2 q10
          refine y_aload_n hg 0 dX10_weighGains_22 rfl rfl ?_
          refine y_getR hg fl_X10_10 rfl rfl h1 dX10_weighGains_23 ?_
          refine y_iload_n hg 1 dX10_weighGains_26 rfl rfl ?_
          obtain ⟨c11, h12, h⟩ := h
          obtain ⟨h13, h⟩ := h
          refine yVRP (Qp := _) (rest := []) (As := [.int v1]) hg (k_Jx4a65c_get_915e3 (gL g.1) (gD g.1) c11 v1 σ _ h) lv_X10_232 h12 h13 rfl rfl dX10_weighGains_27 (cat8 (Nat.le_of_ble_eq_true rfl)) hrm ⟨Nat.le_of_ble_eq_true rfl, Nat.le_of_ble_eq_true rfl⟩ (fun r14 h => ?_)
          obtain ⟨c15, h16, h⟩ := h
          obtain ⟨h17, h⟩ := h
          refine y_cast (c := 4) hg (C := RX2) rfl (by decide) cl_X10_91 h16 h17 dX10_weighGains_30 ?_
          refine y_getR hg fl_X10_110 rfl h16 h17 dX10_weighGains_33 ?_
          refine y_nmR (fun r18 e19 => ?_)
          replace h := h r18 e19
          refine y_astore_n (lv' := [(2, va_rf r18), (0, va_rf (some a0)), (1, .int v1)]) hg dX10_weighGains_36 rfl (by rw [hgN]; decide) rfl ?_
          refine y_aload_n hg 1 dX10_weighGains_37 rfl rfl ?_
          refine y_getR hg fl_X10_66 rfl rfl h1 dX10_weighGains_38 ?_
          refine y_iload_n hg 2 dX10_weighGains_41 rfl rfl ?_
          refine y_aload_n hg 0 dX10_weighGains_42 rfl rfl ?_
          refine y_ifnonnull (tgt := 50) hg dX10_weighGains_43 (by decide) (fun c20 h22 => ?_) (fun h21 => ?_)
          · replace h := h.2 c20 h22
            refine y_aload_n hg 0 dX10_weighGains_50 rfl rfl ?_
            refine y_aload_n hg 1 dX10_weighGains_51 rfl rfl ?_
            refine y_getR hg fl_X10_51 rfl rfl h1 dX10_weighGains_52 ?_
            obtain ⟨h23, h⟩ := h
            refine yVIP (Qp := _) (rest := [.int v1, va_rf (sR σ a0 12)]) (As := [va_rf (sR σ a0 8)]) hg (k_X0_gainByCare (gL g.1) (gD g.1) c20 (sR σ a0 8) σ _ h) lv_X10_307 h22 h23 rfl rfl dX10_weighGains_55 (cat8 (Nat.le_of_ble_eq_true rfl)) hrm ⟨Nat.le_of_ble_eq_true rfl, Nat.le_of_ble_eq_true rfl⟩ (fun x24 h => ?_)
            refine y_sub [1, 2] rfl ?_
            exact J58 _ _ _ _ _ h
          · replace h := h.1 h21
            refine y_iconst (v := 0) hg dX10_weighGains_46 (by decide) ?_
            refine y_goto (tgt := 58) hg dX10_weighGains_47 (by decide) ?_
            refine y_sub [1, 2] rfl ?_
            exact J58 _ _ _ _ _ h
    exact key2 n2 v1 σ hI2
  refine y_iconst (v := 0) hg dX10_weighGains_0 (by decide) ?_
  refine y_istore_n (lv' := [(1, .int 0), (0, va_rf (some a0))]) hg dX10_weighGains_1 rfl (by rw [hgN]; decide) rfl ?_
  refine y_sub [1, 0] rfl ?_
  exact J2 _ _ h
def P_X10_gainOf_B43 (a0 : Nat) (v1 : Int32) (v3 : Int32) (w0 : Int32) (w1 : Int32) (σ : Sg) (Q : Int32 → Prop) (K4 : Int32 → Int32 → Prop) : Prop :=
  ∀ x17 : Int32, x17 = w0 + w1 → ∀ x19 : Int32, x19 = v3 + 1 → K4 x17 x19
def P_X10_gainOf_L4b (a0 : Nat) (v1 : Int32) (v2 : Int32) (v3 : Int32) (σ : Sg) (Q : Int32 → Prop) (K4 : Int32 → Int32 → Prop) : Prop :=
  sK σ a0 % 32 = 12 ∧ ∃ c2 : Nat, sR σ a0 0 = some c2 ∧ sK σ c2 % 32 = 1 ∧ P_Jx4a65c_size_8abf5 c2 σ (fun x5 => (x5 ≤ v3 → Q v2) ∧ (¬ (x5 ≤ v3) → ∃ c7 : Nat, sR σ a0 12 = some c7 ∧ sK σ c7 % 32 = 16 ∧ ((nI (sN σ c7)) ≤ v3 → Q v2) ∧ (¬ ((nI (sN σ c7)) ≤ v3) → P_X10_holds v1 v3 σ (fun x11 => (x11 = 0 → P_X10_gainOf_B43 a0 v1 v3 v2 0 σ Q K4) ∧ (¬ (x11 = 0) → ∃ c13 : Nat, sR σ a0 12 = some c13 ∧ sK σ c13 % 32 = 16 ∧ vp_in v3 (sN σ c13) ∧ P_X10_gainOf_B43 a0 v1 v3 v2 (sI σ c13 v3.toNatClampNeg) σ Q K4)))))
def P_X10_gainOf_L4 (a0 : Nat) (v1 : Int32) (v2 : Int32) (v3 : Int32) (σ : Sg) (Q : Int32 → Prop) : Prop :=
  ∃ I : Nat → Int32 → Int32 → Prop, (∃ n, I n v2 v3) ∧ ∀ (n : Nat) (v2 : Int32) (v3 : Int32), I n v2 v3 → P_X10_gainOf_L4b a0 v1 v2 v3 σ Q (fun v2 v3 => ∃ n', n' < n ∧ I n' v2 v3)
def P_X10_gainOf (a0 : Nat) (v1 : Int32) (σ : Sg) (Q : Int32 → Prop) : Prop :=
  P_X10_gainOf_L4 a0 v1 0 0 σ Q
set_option maxHeartbeats 4000000 in
set_option maxRecDepth 100000 in
theorem k_X10_gainOf (l : Launch) (D : Dg) (a0 : Nat) (v1 : Int32) (σ : Sg) (Q : Int32 → Prop) (h : P_X10_gainOf a0 v1 σ Q) : CtrY RN l D yX10_gainOf cX10_gainOf 4 (some FieldType.int) 1 21 mkI [.ref a0, .int v1] σ (0, 0) (fun r σ2 => Q r ∧ σ2 = σ) := by
  refine y_ctrN (lv := [(0, va_rf (some a0)), (1, .int v1)]) (by decide) (by (exact Nat.le_of_ble_eq_true rfl)) (by (exact rfl)) (fun g hg hgL hgD hrm hgN hgI hend => ?_)
  subst hgD
  clear hgL
  unfold P_X10_gainOf at h
  have J4 : ∀ (v1 : Int32) (v2 : Int32) (v3 : Int32), P_X10_gainOf_L4 a0 v1 v2 v3 σ Q → XA g 4 [(0, va_rf (some a0)), (1, .int v1), (2, .int v2), (3, .int v3)] [] σ (0, 0) := by
    intro v1 v2 v3 h
    unfold P_X10_gainOf_L4 at h
    obtain ⟨I4, ⟨n4, hI4⟩, hs4⟩ := h
    have key4 : ∀ (n : Nat), ∀ (v2 : Int32) (v3 : Int32), I4 n v2 v3 → XA g 4 [(0, va_rf (some a0)), (1, .int v1), (2, .int v2), (3, .int v3)] [] σ (0, 0) := by
      intro n
      induction n using Nat.strongRecOn with
      | _ n ih4 =>
      intro v2 v3 hI
      have h := hs4 n v2 v3 hI
      clear hI hI4 hs4
      obtain ⟨K4, hK4⟩ : ∃ K : Int32 → Int32 → Prop, K = (fun v2 v3 => ∃ n', n' < n ∧ I4 n' v2 v3) := ⟨_, rfl⟩
      rw [← hK4] at h
      unfold P_X10_gainOf_L4b at h
      have J43 : ∀ (v3 : Int32) (w0 : Int32) (w1 : Int32), P_X10_gainOf_B43 a0 v1 v3 w0 w1 σ Q K4 → XA g 43 [(0, va_rf (some a0)), (1, .int v1), (3, .int v3)] [.int w1, .int w0] σ (0, 0) := by
        intro v3 w0 w1 h
        unfold P_X10_gainOf_B43 at h
        refine y_iadd hg dX10_gainOf_43 ?_
        refine y_nmI (fun x17 e18 => ?_)
        replace h := h x17 e18
        refine y_istore_n (lv' := [(2, .int x17), (0, va_rf (some a0)), (1, .int v1), (3, .int v3)]) hg dX10_gainOf_44 rfl (by rw [hgN]; decide) rfl ?_
        obtain ⟨x19, e20⟩ : ∃ y : Int32, y = v3 + 1 := ⟨_, rfl⟩
        replace h := h x19 e20
        refine y_iinc (v := x19) (lv' := [(3, .int x19), (2, .int x17), (0, va_rf (some a0)), (1, .int v1)]) hg 3 dX10_gainOf_45 rfl (by rw [e20]; rfl) (by rw [hgN]; decide) rfl ?_
        refine y_goto (tgt := 4) hg dX10_gainOf_48 (by decide) ?_
        refine y_sub [2, 3, 1, 0] rfl ?_
        subst hK4
        obtain ⟨n21, h22, h⟩ := h
        exact ih4 n21 h22 _ _ h
      refine y_iload_n hg 3 dX10_gainOf_4 rfl rfl ?_
      refine y_aload_n hg 0 dX10_gainOf_5 rfl rfl ?_
      obtain ⟨h1, h⟩ := h
      refine y_getR hg fl_X10_10 rfl rfl h1 dX10_gainOf_6 ?_
      obtain ⟨c2, h3, h⟩ := h
      obtain ⟨h4, h⟩ := h
      refine yVIP (Qp := _) (rest := [.int v3]) (As := []) hg (k_Jx4a65c_size_8abf5 (gL g.1) (gD g.1) c2 σ _ h) lv_X10_87 h3 h4 rfl rfl dX10_gainOf_9 (cat8 (Nat.le_of_ble_eq_true rfl)) hrm ⟨Nat.le_of_ble_eq_true rfl, Nat.le_of_ble_eq_true rfl⟩ (fun x5 h => ?_)
      refine y_icmp_ge (tgt := 51) hg dX10_gainOf_12 (by decide) (fun q6 => ?_) (fun q6 => ?_)
      · replace h := h.1 q6
        refine y_iload_n hg 2 dX10_gainOf_51 rfl rfl ?_
        exact yEndI hend rfl dX10_gainOf_52 ⟨h, rfl⟩
      · replace h := h.2 q6
        refine y_iload_n hg 3 dX10_gainOf_15 rfl rfl ?_
        refine y_aload_n hg 0 dX10_gainOf_16 rfl rfl ?_
        refine y_getR hg fl_X10_66 rfl rfl h1 dX10_gainOf_17 ?_
        obtain ⟨c7, h8, h⟩ := h
        obtain ⟨h9, h⟩ := h
        refine y_alen hg h8 h9 (by decide) (by decide) dX10_gainOf_20 ?_
        refine y_icmp_ge (tgt := 51) hg dX10_gainOf_21 (by decide) (fun q10 => ?_) (fun q10 => ?_)
        · replace h := h.1 q10
          refine y_iload_n hg 2 dX10_gainOf_51 rfl rfl ?_
          exact yEndI hend rfl dX10_gainOf_52 ⟨h, rfl⟩
        · replace h := h.2 q10
          refine y_iload_n hg 2 dX10_gainOf_24 rfl rfl ?_
          refine y_iload_n hg 1 dX10_gainOf_25 rfl rfl ?_
          refine y_iload_n hg 3 dX10_gainOf_26 rfl rfl ?_
          refine ySIP (Qp := _) (rest := [.int v2]) (As := [.int v1, .int v3]) hg (k_X10_holds (gL g.1) (gD g.1) v1 v3 σ _ h) ls_X10_239 rfl rfl dX10_gainOf_27 (cat8 (Nat.le_of_ble_eq_true rfl)) hrm ⟨Nat.le_of_ble_eq_true rfl, Nat.le_of_ble_eq_true rfl⟩ (fun x11 h => ?_)
          refine y_if_eq (tgt := 42) hg dX10_gainOf_30 (by decide) (fun q12 => ?_) (fun q12 => ?_)
          · replace h := h.1 q12
            refine y_iconst (v := 0) hg dX10_gainOf_42 (by decide) ?_
            refine y_sub [0, 1, 3] rfl ?_
            exact J43 _ _ _ h
          · replace h := h.2 q12
            refine y_aload_n hg 0 dX10_gainOf_33 rfl rfl ?_
            refine y_getR hg fl_X10_66 rfl rfl h1 dX10_gainOf_34 ?_
            refine y_iload_n hg 3 dX10_gainOf_37 rfl rfl ?_
            obtain ⟨c13, h14, h⟩ := h
            obtain ⟨h15, h⟩ := h
            obtain ⟨h16, h⟩ := h
            refine y_iald hg h14 h15 h16 dX10_gainOf_38 ?_
            refine y_goto (tgt := 43) hg dX10_gainOf_39 (by decide) ?_
            refine y_sub [0, 1, 3] rfl ?_
            exact J43 _ _ _ h
    exact key4 n4 v2 v3 hI4
  refine y_iconst (v := 0) hg dX10_gainOf_0 (by decide) ?_
  refine y_istore_n (lv' := [(2, .int 0), (0, va_rf (some a0)), (1, .int v1)]) hg dX10_gainOf_1 rfl (by rw [hgN]; decide) rfl ?_
  refine y_iconst (v := 0) hg dX10_gainOf_2 (by decide) ?_
  refine y_istore_n (lv' := [(3, .int 0), (2, .int 0), (0, va_rf (some a0)), (1, .int v1)]) hg dX10_gainOf_3 rfl (by rw [hgN]; decide) rfl ?_
  refine y_sub [2, 3, 1, 0] rfl ?_
  exact J4 _ _ _ h
def P_X10_hoursFor_B28 (a0 : Nat) (v1 : Int32) (v3 : Int32) (w0 : Int32) (σ : Sg) (Q : Int32 → Prop) (K4 : Int32 → Int32 → Prop) : Prop :=
  ∀ x10 : Int32, x10 = v3 + 1 → K4 w0 x10
def P_X10_hoursFor_L4b (a0 : Nat) (v1 : Int32) (v2 : Int32) (v3 : Int32) (σ : Sg) (Q : Int32 → Prop) (K4 : Int32 → Int32 → Prop) : Prop :=
  sK σ a0 % 32 = 12 ∧ ∃ c2 : Nat, sR σ a0 0 = some c2 ∧ sK σ c2 % 32 = 1 ∧ P_Jx4a65c_size_8abf5 c2 σ (fun x5 => (x5 ≤ v3 → P_J6_bitCount_0f7a4 v1 σ (fun x7 => Q (v2 + (2 * x7)))) ∧ (¬ (x5 ≤ v3) → P_X10_holds v1 v3 σ (fun x8 => (x8 = 0 → P_X10_hoursFor_B28 a0 v1 v3 v2 σ Q K4) ∧ (¬ (x8 = 0) → P_X10_hoursFor_B28 a0 v1 v3 v3 σ Q K4))))
def P_X10_hoursFor_L4 (a0 : Nat) (v1 : Int32) (v2 : Int32) (v3 : Int32) (σ : Sg) (Q : Int32 → Prop) : Prop :=
  ∃ I : Nat → Int32 → Int32 → Prop, (∃ n, I n v2 v3) ∧ ∀ (n : Nat) (v2 : Int32) (v3 : Int32), I n v2 v3 → P_X10_hoursFor_L4b a0 v1 v2 v3 σ Q (fun v2 v3 => ∃ n', n' < n ∧ I n' v2 v3)
def P_X10_hoursFor (a0 : Nat) (v1 : Int32) (σ : Sg) (Q : Int32 → Prop) : Prop :=
  P_X10_hoursFor_L4 a0 v1 0 0 σ Q
set_option maxHeartbeats 4000000 in
set_option maxRecDepth 100000 in
theorem k_X10_hoursFor (l : Launch) (D : Dg) (a0 : Nat) (v1 : Int32) (σ : Sg) (Q : Int32 → Prop) (h : P_X10_hoursFor a0 v1 σ Q) : CtrY RN l D yX10_hoursFor cX10_hoursFor 4 (some FieldType.int) 1 21 mkI [.ref a0, .int v1] σ (0, 0) (fun r σ2 => Q r ∧ σ2 = σ) := by
  refine y_ctrN (lv := [(0, va_rf (some a0)), (1, .int v1)]) (by decide) (by (exact Nat.le_of_ble_eq_true rfl)) (by (exact rfl)) (fun g hg hgL hgD hrm hgN hgI hend => ?_)
  subst hgD
  clear hgL
  unfold P_X10_hoursFor at h
  have J4 : ∀ (v1 : Int32) (v2 : Int32) (v3 : Int32), P_X10_hoursFor_L4 a0 v1 v2 v3 σ Q → XA g 4 [(0, va_rf (some a0)), (1, .int v1), (2, .int v2), (3, .int v3)] [] σ (0, 0) := by
    intro v1 v2 v3 h
    unfold P_X10_hoursFor_L4 at h
    obtain ⟨I4, ⟨n4, hI4⟩, hs4⟩ := h
    have key4 : ∀ (n : Nat), ∀ (v2 : Int32) (v3 : Int32), I4 n v2 v3 → XA g 4 [(0, va_rf (some a0)), (1, .int v1), (2, .int v2), (3, .int v3)] [] σ (0, 0) := by
      intro n
      induction n using Nat.strongRecOn with
      | _ n ih4 =>
      intro v2 v3 hI
      have h := hs4 n v2 v3 hI
      clear hI hI4 hs4
      obtain ⟨K4, hK4⟩ : ∃ K : Int32 → Int32 → Prop, K = (fun v2 v3 => ∃ n', n' < n ∧ I4 n' v2 v3) := ⟨_, rfl⟩
      rw [← hK4] at h
      unfold P_X10_hoursFor_L4b at h
      have J28 : ∀ (v3 : Int32) (w0 : Int32), P_X10_hoursFor_B28 a0 v1 v3 w0 σ Q K4 → XA g 28 [(0, va_rf (some a0)), (1, .int v1), (3, .int v3)] [.int w0] σ (0, 0) := by
        intro v3 w0 h
        unfold P_X10_hoursFor_B28 at h
        refine y_istore_n (lv' := [(2, .int w0), (0, va_rf (some a0)), (1, .int v1), (3, .int v3)]) hg dX10_hoursFor_28 rfl (by rw [hgN]; decide) rfl ?_
        obtain ⟨x10, e11⟩ : ∃ y : Int32, y = v3 + 1 := ⟨_, rfl⟩
        replace h := h x10 e11
        refine y_iinc (v := x10) (lv' := [(3, .int x10), (2, .int w0), (0, va_rf (some a0)), (1, .int v1)]) hg 3 dX10_hoursFor_29 rfl (by rw [e11]; rfl) (by rw [hgN]; decide) rfl ?_
        refine y_goto (tgt := 4) hg dX10_hoursFor_32 (by decide) ?_
        refine y_sub [2, 3, 1, 0] rfl ?_
        subst hK4
        obtain ⟨n12, h13, h⟩ := h
        exact ih4 n12 h13 _ _ h
      refine y_iload_n hg 3 dX10_hoursFor_4 rfl rfl ?_
      refine y_aload_n hg 0 dX10_hoursFor_5 rfl rfl ?_
      obtain ⟨h1, h⟩ := h
      refine y_getR hg fl_X10_10 rfl rfl h1 dX10_hoursFor_6 ?_
      obtain ⟨c2, h3, h⟩ := h
      obtain ⟨h4, h⟩ := h
      refine yVIP (Qp := _) (rest := [.int v3]) (As := []) hg (k_Jx4a65c_size_8abf5 (gL g.1) (gD g.1) c2 σ _ h) lv_X10_87 h3 h4 rfl rfl dX10_hoursFor_9 (cat8 (Nat.le_of_ble_eq_true rfl)) hrm ⟨Nat.le_of_ble_eq_true rfl, Nat.le_of_ble_eq_true rfl⟩ (fun x5 h => ?_)
      refine y_icmp_ge (tgt := 35) hg dX10_hoursFor_12 (by decide) (fun q6 => ?_) (fun q6 => ?_)
      · replace h := h.1 q6
        refine y_iload_n hg 2 dX10_hoursFor_35 rfl rfl ?_
        refine y_iconst (v := 2) hg dX10_hoursFor_36 (by decide) ?_
        refine y_iload_n hg 1 dX10_hoursFor_37 rfl rfl ?_
        refine ySIP (Qp := _) (rest := [.int 2, .int v2]) (As := [.int v1]) hg (k_J6_bitCount_0f7a4 (gL g.1) (gD g.1) v1 σ _ h) ls_X10_310 rfl rfl dX10_hoursFor_38 (cat8 (Nat.le_of_ble_eq_true rfl)) hrm ⟨Nat.le_of_ble_eq_true rfl, Nat.le_of_ble_eq_true rfl⟩ (fun x7 h => ?_)
        refine y_imul hg dX10_hoursFor_41 ?_
        refine y_iadd hg dX10_hoursFor_42 ?_
        exact yEndI hend rfl dX10_hoursFor_43 ⟨h, rfl⟩
      · replace h := h.2 q6
        refine y_iload_n hg 1 dX10_hoursFor_15 rfl rfl ?_
        refine y_iload_n hg 3 dX10_hoursFor_16 rfl rfl ?_
        refine ySIP (Qp := _) (rest := []) (As := [.int v1, .int v3]) hg (k_X10_holds (gL g.1) (gD g.1) v1 v3 σ _ h) ls_X10_239 rfl rfl dX10_hoursFor_17 (cat8 (Nat.le_of_ble_eq_true rfl)) hrm ⟨Nat.le_of_ble_eq_true rfl, Nat.le_of_ble_eq_true rfl⟩ (fun x8 h => ?_)
        refine y_if_eq (tgt := 27) hg dX10_hoursFor_20 (by decide) (fun q9 => ?_) (fun q9 => ?_)
        · replace h := h.1 q9
          refine y_iload_n hg 2 dX10_hoursFor_27 rfl rfl ?_
          refine y_sub [0, 1, 3] rfl ?_
          exact J28 _ _ h
        · replace h := h.2 q9
          refine y_iload_n hg 3 dX10_hoursFor_23 rfl rfl ?_
          refine y_goto (tgt := 28) hg dX10_hoursFor_24 (by decide) ?_
          refine y_sub [0, 1, 3] rfl ?_
          exact J28 _ _ h
    exact key4 n4 v2 v3 hI4
  refine y_iconst (v := 0) hg dX10_hoursFor_0 (by decide) ?_
  refine y_istore_n (lv' := [(2, .int 0), (0, va_rf (some a0)), (1, .int v1)]) hg dX10_hoursFor_1 rfl (by rw [hgN]; decide) rfl ?_
  refine y_iconst (v := 0) hg dX10_hoursFor_2 (by decide) ?_
  refine y_istore_n (lv' := [(3, .int 0), (2, .int 0), (0, va_rf (some a0)), (1, .int v1)]) hg dX10_hoursFor_3 rfl (by rw [hgN]; decide) rfl ?_
  refine y_sub [2, 3, 1, 0] rfl ?_
  exact J4 _ _ _ h
def P_X10_crew_B79 (a0 : Nat) (v1 : Int32) (v2 : Int32) (v3 : Int32) (v4 : Int32) (v5 : Int32) (σ : Sg) (Q : Int32 → Sg → Prop) (K33 : Int32 → Int32 → Int32 → Prop) : Prop :=
  ∀ x23 : Int32, x23 = v5 + 1 → K33 v3 v4 x23
def P_X10_crew_L33b (a0 : Nat) (v1 : Int32) (v2 : Int32) (v3 : Int32) (v4 : Int32) (v5 : Int32) (σ : Sg) (Q : Int32 → Sg → Prop) (K33 : Int32 → Int32 → Int32 → Prop) : Prop :=
  sK σ a0 % 32 = 12 ∧ ∃ c11 : Nat, sR σ a0 0 = some c11 ∧ sK σ c11 % 32 = 1 ∧ P_Jx4a65c_size_8abf5 c11 σ (fun x14 => ((1 <<< (x14 &&& 31)) ≤ v5 → (v2 = 0 → Q v4 σ) ∧ (¬ (v2 = 0) → (v2 = 1 → Q v3 σ) ∧ (¬ (v2 = 1) → P_X10_hoursFor a0 v3 σ (fun x18 => Q x18 σ)))) ∧ (¬ ((1 <<< (x14 &&& 31)) ≤ v5) → P_X10_gainOf a0 v5 σ (fun x19 => (x19 ≤ v4 → P_X10_crew_B79 a0 v1 v2 v3 v4 v5 σ Q K33) ∧ (¬ (x19 ≤ v4) → P_X10_hoursFor a0 v5 σ (fun x21 => (v1 < x21 → P_X10_crew_B79 a0 v1 v2 v3 v4 v5 σ Q K33) ∧ (¬ (v1 < x21) → P_X10_crew_B79 a0 v1 v2 v5 x19 v5 σ Q K33))))))
def P_X10_crew_L33 (a0 : Nat) (v1 : Int32) (v2 : Int32) (v3 : Int32) (v4 : Int32) (v5 : Int32) (σ : Sg) (Q : Int32 → Sg → Prop) : Prop :=
  ∃ I : Nat → Int32 → Int32 → Int32 → Prop, (∃ n, I n v3 v4 v5) ∧ ∀ (n : Nat) (v3 : Int32) (v4 : Int32) (v5 : Int32), I n v3 v4 v5 → P_X10_crew_L33b a0 v1 v2 v3 v4 v5 σ Q (fun v3 v4 v5 => ∃ n', n' < n ∧ I n' v3 v4 v5)
def P_X10_crew (a0 : Nat) (v1 : Int32) (v2 : Int32) (σ : Sg) (Q : Int32 → Sg → Prop) : Prop :=
  P_X10_within v1 0 60 σ (fun x1 => (x1 = 0 → Q (-1) σ) ∧ (¬ (x1 = 0) → P_X10_within v2 0 2 σ (fun x3 => (x3 = 0 → Q (-1) σ) ∧ (¬ (x3 = 0) → sK σ a0 % 32 = 12 ∧ P_X10_weighGains a0 σ (fun _ σ7 => P_X10_crew_L33 a0 v1 v2 0 0 1 σ7 Q)))))
set_option maxHeartbeats 4000000 in
set_option maxRecDepth 100000 in
theorem k_X10_crew (l : Launch) (D : Dg) (a0 : Nat) (v1 : Int32) (v2 : Int32) (σ : Sg) (Q : Int32 → Sg → Prop) (h : P_X10_crew a0 v1 v2 σ Q) : CtrY RN l D yX10_crew cX10_crew 7 (some FieldType.int) 4 93 mkI [.ref a0, .int v1, .int v2] σ (0, 0) Q := by
  refine y_ctrN (lv := [(0, va_rf (some a0)), (1, .int v1), (2, .int v2)]) (by decide) (by (exact Nat.le_of_ble_eq_true rfl)) (by (exact rfl)) (fun g hg hgL hgD hrm hgN hgI hend => ?_)
  subst hgD
  clear hgL
  unfold P_X10_crew at h
  have J33 : ∀ (v1 : Int32) (v2 : Int32) (v3 : Int32) (v4 : Int32) (v5 : Int32) (σ : Sg), P_X10_crew_L33 a0 v1 v2 v3 v4 v5 σ Q → XA g 33 [(0, va_rf (some a0)), (1, .int v1), (2, .int v2), (3, .int v3), (4, .int v4), (5, .int v5)] [] σ (0, 0) := by
    intro v1 v2 v3 v4 v5 σ h
    unfold P_X10_crew_L33 at h
    obtain ⟨I33, ⟨n33, hI33⟩, hs33⟩ := h
    have key33 : ∀ (n : Nat), ∀ (v3 : Int32) (v4 : Int32) (v5 : Int32), I33 n v3 v4 v5 → XA g 33 [(0, va_rf (some a0)), (1, .int v1), (2, .int v2), (3, .int v3), (4, .int v4), (5, .int v5)] [] σ (0, 0) := by
      intro n
      induction n using Nat.strongRecOn with
      | _ n ih33 =>
      intro v3 v4 v5 hI
      have h := hs33 n v3 v4 v5 hI
      clear hI hI33 hs33
      obtain ⟨K33, hK33⟩ : ∃ K : Int32 → Int32 → Int32 → Prop, K = (fun v3 v4 v5 => ∃ n', n' < n ∧ I33 n' v3 v4 v5) := ⟨_, rfl⟩
      rw [← hK33] at h
      unfold P_X10_crew_L33b at h
      have J79 : ∀ (v3 : Int32) (v4 : Int32) (v5 : Int32), P_X10_crew_B79 a0 v1 v2 v3 v4 v5 σ Q K33 → XA g 79 [(0, va_rf (some a0)), (1, .int v1), (2, .int v2), (3, .int v3), (4, .int v4), (5, .int v5)] [] σ (0, 0) := by
        intro v3 v4 v5 h
        unfold P_X10_crew_B79 at h
        obtain ⟨x23, e24⟩ : ∃ y : Int32, y = v5 + 1 := ⟨_, rfl⟩
        replace h := h x23 e24
        refine y_iinc (v := x23) (lv' := [(5, .int x23), (0, va_rf (some a0)), (1, .int v1), (2, .int v2), (3, .int v3), (4, .int v4)]) hg 5 dX10_crew_79 rfl (by rw [e24]; rfl) (by rw [hgN]; decide) rfl ?_
        refine y_goto (tgt := 33) hg dX10_crew_82 (by decide) ?_
        refine y_sub [1, 2, 3, 4, 5, 0] rfl ?_
        subst hK33
        obtain ⟨n25, h26, h⟩ := h
        exact ih33 n25 h26 _ _ _ h
      refine y_iload hg 5 dX10_crew_33 rfl ?_
      refine y_iconst (v := 1) hg dX10_crew_35 (by decide) ?_
      refine y_aload_n hg 0 dX10_crew_36 rfl rfl ?_
      obtain ⟨h10, h⟩ := h
      refine y_getR hg fl_X10_10 rfl rfl h10 dX10_crew_37 ?_
      obtain ⟨c11, h12, h⟩ := h
      obtain ⟨h13, h⟩ := h
      refine yVIP (Qp := _) (rest := [.int 1, .int v5]) (As := []) hg (k_Jx4a65c_size_8abf5 (gL g.1) (gD g.1) c11 σ _ h) lv_X10_87 h12 h13 rfl rfl dX10_crew_40 (cat8 (Nat.le_of_ble_eq_true rfl)) hrm ⟨Nat.le_of_ble_eq_true rfl, Nat.le_of_ble_eq_true rfl⟩ (fun x14 h => ?_)
      refine y_ishl hg dX10_crew_43 ?_
      refine y_icmp_ge (tgt := 85) hg dX10_crew_44 (by decide) (fun q15 => ?_) (fun q15 => ?_)
      · replace h := h.1 q15
        refine y_iload_n hg 2 dX10_crew_85 rfl rfl ?_
        refine y_if_ne (tgt := 92) hg dX10_crew_86 (by decide) (fun q16 => ?_) (fun q16 => ?_)
        · replace h := h.2 q16
          refine y_iload_n hg 2 dX10_crew_92 rfl rfl ?_
          refine y_iconst (v := 1) hg dX10_crew_93 (by decide) ?_
          refine y_icmp_ne (tgt := 101) hg dX10_crew_94 (by decide) (fun q17 => ?_) (fun q17 => ?_)
          · replace h := h.2 q17
            refine y_aload_n hg 0 dX10_crew_101 rfl rfl ?_
            refine y_iload_n hg 3 dX10_crew_102 rfl rfl ?_
            refine yVIP (Qp := _) (rest := []) (As := [.int v3]) hg (k_X10_hoursFor (gL g.1) (gD g.1) a0 v3 σ _ h) lv_X10_304 rfl h10 rfl rfl dX10_crew_103 (cat8 (Nat.le_of_ble_eq_true rfl)) hrm ⟨Nat.le_of_ble_eq_true rfl, Nat.le_of_ble_eq_true rfl⟩ (fun x18 h => ?_)
            exact yEndI hend rfl dX10_crew_106 h
          · replace h := h.1 q17
            refine y_iload_n hg 3 dX10_crew_97 rfl rfl ?_
            refine y_goto (tgt := 106) hg dX10_crew_98 (by decide) ?_
            exact yEndI hend rfl dX10_crew_106 h
        · replace h := h.1 q16
          refine y_iload hg 4 dX10_crew_89 rfl ?_
          exact yEndI hend rfl dX10_crew_91 h
      · replace h := h.2 q15
        refine y_aload_n hg 0 dX10_crew_47 rfl rfl ?_
        refine y_iload hg 5 dX10_crew_48 rfl ?_
        refine yVIP (Qp := _) (rest := []) (As := [.int v5]) hg (k_X10_gainOf (gL g.1) (gD g.1) a0 v5 σ _ h) lv_X10_301 rfl h10 rfl rfl dX10_crew_50 (cat8 (Nat.le_of_ble_eq_true rfl)) hrm ⟨Nat.le_of_ble_eq_true rfl, Nat.le_of_ble_eq_true rfl⟩ (fun x19 h => ?_)
        refine y_istore (lv' := [(6, .int x19), (0, va_rf (some a0)), (1, .int v1), (2, .int v2), (3, .int v3), (4, .int v4), (5, .int v5)]) hg dX10_crew_53 (by rw [hgN]; decide) rfl ?_
        refine y_iload hg 0 dX10_crew_55 rfl ?_
        refine y_iload hg 5 dX10_crew_57 rfl ?_
        refine y_icmp_le (tgt := 79) hg dX10_crew_59 (by decide) (fun q20 => ?_) (fun q20 => ?_)
        · replace h := h.1 q20
          refine y_sub [1, 2, 3, 4, 5, 6] rfl ?_
          exact J79 _ _ _ h
        · replace h := h.2 q20
          refine y_aload_n hg 1 dX10_crew_62 rfl rfl ?_
          refine y_iload hg 6 dX10_crew_63 rfl ?_
          refine yVIP (Qp := _) (rest := []) (As := [.int v5]) hg (k_X10_hoursFor (gL g.1) (gD g.1) a0 v5 σ _ h) lv_X10_304 rfl h10 rfl rfl dX10_crew_65 (cat8 (Nat.le_of_ble_eq_true rfl)) hrm ⟨Nat.le_of_ble_eq_true rfl, Nat.le_of_ble_eq_true rfl⟩ (fun x21 h => ?_)
          refine y_iload_n hg 2 dX10_crew_68 rfl rfl ?_
          refine y_icmp_gt (tgt := 79) hg dX10_crew_69 (by decide) (fun q22 => ?_) (fun q22 => ?_)
          · replace h := h.1 q22
            refine y_sub [1, 2, 3, 4, 5, 6] rfl ?_
            exact J79 _ _ _ h
          · replace h := h.2 q22
            refine y_iload hg 0 dX10_crew_72 rfl ?_
            refine y_istore (lv' := [(4, .int x19), (6, .int x19), (0, va_rf (some a0)), (1, .int v1), (2, .int v2), (3, .int v3), (5, .int v5)]) hg dX10_crew_74 (by rw [hgN]; decide) rfl ?_
            refine y_iload hg 6 dX10_crew_76 rfl ?_
            refine y_istore_n (lv' := [(3, .int v5), (4, .int x19), (6, .int x19), (0, va_rf (some a0)), (1, .int v1), (2, .int v2), (5, .int v5)]) hg dX10_crew_78 rfl (by rw [hgN]; decide) rfl ?_
            refine y_sub [3, 4, 5, 0, 1, 6] rfl ?_
            exact J79 _ _ _ h
    exact key33 n33 v3 v4 v5 hI33
  refine y_iload_n hg 1 dX10_crew_0 rfl rfl ?_
  refine y_iconst (v := 0) hg dX10_crew_1 (by decide) ?_
  refine y_bipush (v := 60) hg dX10_crew_2 (by decide) ?_
  refine ySIP (Qp := _) (rest := []) (As := [.int v1, .int 0, .int 60]) hg (k_X10_within (gL g.1) (gD g.1) v1 0 60 σ _ h) ls_X10_83 rfl rfl dX10_crew_4 (cat8 (Nat.le_of_ble_eq_true rfl)) hrm ⟨Nat.le_of_ble_eq_true rfl, Nat.le_of_ble_eq_true rfl⟩ (fun x1 h => ?_)
  refine y_if_eq (tgt := 19) hg dX10_crew_7 (by decide) (fun q2 => ?_) (fun q2 => ?_)
  · replace h := h.1 q2
    refine y_iconst (v := (-1)) hg dX10_crew_19 (by decide) ?_
    exact yEndI hend rfl dX10_crew_20 h
  · replace h := h.2 q2
    refine y_iload_n hg 2 dX10_crew_10 rfl rfl ?_
    refine y_iconst (v := 0) hg dX10_crew_11 (by decide) ?_
    refine y_iconst (v := 2) hg dX10_crew_12 (by decide) ?_
    refine ySIP (Qp := _) (rest := []) (As := [.int v2, .int 0, .int 2]) hg (k_X10_within (gL g.1) (gD g.1) v2 0 2 σ _ h) ls_X10_83 rfl rfl dX10_crew_13 (cat8 (Nat.le_of_ble_eq_true rfl)) hrm ⟨Nat.le_of_ble_eq_true rfl, Nat.le_of_ble_eq_true rfl⟩ (fun x3 h => ?_)
    refine y_if_ne (tgt := 21) hg dX10_crew_16 (by decide) (fun q4 => ?_) (fun q4 => ?_)
    · replace h := h.2 q4
      refine y_aload_n hg 0 dX10_crew_21 rfl rfl ?_
      obtain ⟨h5, h⟩ := h
      refine yVVW (Qm := _) (rest := []) (As := []) hg (k_X10_weighGains (gL g.1) (gD g.1) a0 σ _ h) lv_X10_298 rfl h5 rfl rfl dX10_crew_22 (cat8 (Nat.le_of_ble_eq_true rfl)) hrm ⟨Nat.le_of_ble_eq_true rfl, Nat.le_of_ble_eq_true rfl⟩ (fun u6 σ7 h h8 => ?_)
      have h9 := kp h8 (show ¬ 12 = 0 by decide) h5
      refine y_iconst (v := 0) hg dX10_crew_25 (by decide) ?_
      refine y_istore_n (lv' := [(3, .int 0), (0, va_rf (some a0)), (1, .int v1), (2, .int v2)]) hg dX10_crew_26 rfl (by rw [hgN]; decide) rfl ?_
      refine y_iconst (v := 0) hg dX10_crew_27 (by decide) ?_
      refine y_istore (lv' := [(4, .int 0), (3, .int 0), (0, va_rf (some a0)), (1, .int v1), (2, .int v2)]) hg dX10_crew_28 (by rw [hgN]; decide) rfl ?_
      refine y_iconst (v := 1) hg dX10_crew_30 (by decide) ?_
      refine y_istore (lv' := [(5, .int 1), (4, .int 0), (3, .int 0), (0, va_rf (some a0)), (1, .int v1), (2, .int v2)]) hg dX10_crew_31 (by rw [hgN]; decide) rfl ?_
      refine y_sub [3, 4, 5, 2, 1, 0] rfl ?_
      exact J33 _ _ _ _ _ _ h
    · replace h := h.1 q4
      refine y_iconst (v := (-1)) hg dX10_crew_19 (by decide) ?_
      exact yEndI hend rfl dX10_crew_20 h
def P_X10_rain (a0 : Nat) (v1 : Int32) (σ : Sg) (Q : Int32 → Sg → Prop) : Prop :=
  P_X10_within v1 0 50 σ (fun x1 => (x1 = 0 → Q (-1) σ) ∧ (¬ (x1 = 0) → sK σ a0 % 32 = 12 ∧ ((sI σ a0 14) < 30 → ∃ c5 : Nat, sR σ a0 9 = some c5 ∧ sK σ c5 % 32 = 16 ∧ vp_in (sI σ a0 14) (sN σ c5) ∧ ∀ σ9 : Sg, σ9 = pI σ c5 (sI σ a0 14).toNatClampNeg v1 → ∀ σ12 : Sg, σ12 = pI σ9 a0 14 ((sI σ9 a0 14) + 1) → Q (sI σ12 a0 14) σ12) ∧ (¬ ((sI σ a0 14) < 30) → Q (-1) σ)))
set_option maxHeartbeats 4000000 in
set_option maxRecDepth 100000 in
theorem k_X10_rain (l : Launch) (D : Dg) (a0 : Nat) (v1 : Int32) (σ : Sg) (Q : Int32 → Sg → Prop) (h : P_X10_rain a0 v1 σ Q) : CtrY RN l D yX10_rain cX10_rain 2 (some FieldType.int) 1 22 mkI [.ref a0, .int v1] σ (0, 0) Q := by
  refine y_ctrN (lv := [(0, va_rf (some a0)), (1, .int v1)]) (by decide) (by (exact Nat.le_of_ble_eq_true rfl)) (by (exact rfl)) (fun g hg hgL hgD hrm hgN hgI hend => ?_)
  subst hgD
  clear hgL
  unfold P_X10_rain at h
  refine y_iload_n hg 1 dX10_rain_0 rfl rfl ?_
  refine y_iconst (v := 0) hg dX10_rain_1 (by decide) ?_
  refine y_bipush (v := 50) hg dX10_rain_2 (by decide) ?_
  refine ySIP (Qp := _) (rest := []) (As := [.int v1, .int 0, .int 50]) hg (k_X10_within (gL g.1) (gD g.1) v1 0 50 σ _ h) ls_X10_83 rfl rfl dX10_rain_4 (cat8 (Nat.le_of_ble_eq_true rfl)) hrm ⟨Nat.le_of_ble_eq_true rfl, Nat.le_of_ble_eq_true rfl⟩ (fun x1 h => ?_)
  refine y_if_eq (tgt := 19) hg dX10_rain_7 (by decide) (fun q2 => ?_) (fun q2 => ?_)
  · replace h := h.1 q2
    refine y_iconst (v := (-1)) hg dX10_rain_19 (by decide) ?_
    exact yEndI hend rfl dX10_rain_20 h
  · replace h := h.2 q2
    refine y_aload_n hg 0 dX10_rain_10 rfl rfl ?_
    obtain ⟨h3, h⟩ := h
    refine y_getI hg fl_X10_315 rfl rfl h3 dX10_rain_11 ?_
    refine y_bipush (v := 30) hg dX10_rain_14 (by decide) ?_
    refine y_icmp_lt (tgt := 21) hg dX10_rain_16 (by decide) (fun q4 => ?_) (fun q4 => ?_)
    · replace h := h.1 q4
      refine y_aload_n hg 0 dX10_rain_21 rfl rfl ?_
      refine y_getR hg fl_X10_55 rfl rfl h3 dX10_rain_22 ?_
      refine y_aload_n hg 0 dX10_rain_25 rfl rfl ?_
      refine y_getI hg fl_X10_315 rfl rfl h3 dX10_rain_26 ?_
      refine y_iload_n hg 1 dX10_rain_29 rfl rfl ?_
      obtain ⟨c5, h6, h⟩ := h
      obtain ⟨h7, h⟩ := h
      obtain ⟨h8, h⟩ := h
      refine y_iast hg h6 h7 h8 dX10_rain_30 ?_
      refine y_nmS (fun σ9 e10 => ?_)
      replace h := h σ9 e10
      have E11 : sK σ9 = sK σ := by rw [e10]; rfl
      refine y_aload_n hg 0 dX10_rain_31 rfl rfl ?_
      refine y_dup hg dX10_rain_32 rfl ?_
      refine y_getI hg fl_X10_315 rfl rfl (kq E11 h3) dX10_rain_33 ?_
      refine y_iconst (v := 1) hg dX10_rain_36 (by decide) ?_
      refine y_iadd hg dX10_rain_37 ?_
      refine y_putI hg fw_X10_315 (fun z => nomatch z) rfl (kq E11 h3) dX10_rain_38 ?_
      refine y_nmS (fun σ12 e13 => ?_)
      replace h := h σ12 e13
      have E14 : sK σ12 = sK σ9 := by rw [e13]; rfl
      refine y_aload_n hg 0 dX10_rain_41 rfl rfl ?_
      refine y_getI hg fl_X10_315 rfl rfl (kq E14 (kq E11 h3)) dX10_rain_42 ?_
      exact yEndI hend rfl dX10_rain_45 h
    · replace h := h.2 q4
      refine y_iconst (v := (-1)) hg dX10_rain_19 (by decide) ?_
      exact yEndI hend rfl dX10_rain_20 h
def P_X10_clear (a0 : Nat) (σ : Sg) (Q : Int32 → Sg → Prop) : Prop :=
  sK σ a0 % 32 = 12 ∧ ∀ x2 : Int32, x2 = sI σ a0 14 → ∀ σ4 : Sg, σ4 = pI σ a0 14 0 → Q x2 σ4
set_option maxHeartbeats 4000000 in
set_option maxRecDepth 100000 in
theorem k_X10_clear (l : Launch) (D : Dg) (a0 : Nat) (σ : Sg) (Q : Int32 → Sg → Prop) (h : P_X10_clear a0 σ Q) : CtrY RN l D yX10_clear cX10_clear 2 (some FieldType.int) 0 0 mkI [.ref a0] σ (0, 0) Q := by
  refine y_ctrN (lv := [(0, va_rf (some a0))]) (by decide) (by (exact Nat.le_of_ble_eq_true rfl)) (by (exact rfl)) (fun g hg hgL hgD hrm hgN hgI hend => ?_)
  subst hgD
  clear hgL
  unfold P_X10_clear at h
  refine y_aload_n hg 0 dX10_clear_0 rfl rfl ?_
  obtain ⟨h1, h⟩ := h
  refine y_getI hg fl_X10_315 rfl rfl h1 dX10_clear_1 ?_
  refine y_nmI (fun x2 e3 => ?_)
  replace h := h x2 e3
  refine y_istore_n (lv' := [(1, .int x2), (0, va_rf (some a0))]) hg dX10_clear_4 rfl (by rw [hgN]; decide) rfl ?_
  refine y_aload_n hg 1 dX10_clear_5 rfl rfl ?_
  refine y_iconst (v := 0) hg dX10_clear_6 (by decide) ?_
  refine y_putI hg fw_X10_315 (fun z => nomatch z) rfl h1 dX10_clear_7 ?_
  refine y_nmS (fun σ4 e5 => ?_)
  replace h := h σ4 e5
  have E6 : sK σ4 = sK σ := by rw [e5]; rfl
  refine y_iload_n hg 0 dX10_clear_10 rfl rfl ?_
  exact yEndI hend rfl dX10_clear_11 h
def P_X10_prepareFlow (a0 : Nat) (σ : Sg) (Q : Unit → Sg → Prop) : Prop :=
  sK σ a0 % 32 = 12 ∧ ∃ c2 : Nat, sR σ a0 7 = some c2 ∧ sK σ c2 % 32 = 5 ∧ P_X3_lieOver c2 (sR σ a0 0) (sR σ a0 8) σ (fun _ σ6 => ∃ c9 : Nat, sR σ6 a0 7 = some c9 ∧ sK σ6 c9 % 32 = 5 ∧ P_X3_letIn c9 (sR σ6 a0 1) (sR σ6 a0 9) (sI σ6 a0 14) σ6 (fun _ σ13 => Q () σ13))
set_option maxHeartbeats 4000000 in
set_option maxRecDepth 100000 in
theorem k_X10_prepareFlow (l : Launch) (D : Dg) (a0 : Nat) (σ : Sg) (Q : Unit → Sg → Prop) (h : P_X10_prepareFlow a0 σ Q) : CtrY RN l D yX10_prepareFlow cX10_prepareFlow 1 (none) 4 90 mkV [.ref a0] σ (0, 0) Q := by
  refine y_ctrN (lv := [(0, va_rf (some a0))]) (by decide) (by (exact Nat.le_of_ble_eq_true rfl)) (by (exact rfl)) (fun g hg hgL hgD hrm hgN hgI hend => ?_)
  subst hgD
  clear hgL
  unfold P_X10_prepareFlow at h
  refine y_aload_n hg 0 dX10_prepareFlow_0 rfl rfl ?_
  obtain ⟨h1, h⟩ := h
  refine y_getR hg fl_X10_47 rfl rfl h1 dX10_prepareFlow_1 ?_
  refine y_aload_n hg 0 dX10_prepareFlow_4 rfl rfl ?_
  refine y_getR hg fl_X10_10 rfl rfl h1 dX10_prepareFlow_5 ?_
  refine y_aload_n hg 0 dX10_prepareFlow_8 rfl rfl ?_
  refine y_getR hg fl_X10_51 rfl rfl h1 dX10_prepareFlow_9 ?_
  obtain ⟨c2, h3, h⟩ := h
  obtain ⟨h4, h⟩ := h
  refine yVVW (Qm := _) (rest := []) (As := [va_rf (sR σ a0 0), va_rf (sR σ a0 8)]) hg (k_X3_lieOver (gL g.1) (gD g.1) c2 (sR σ a0 0) (sR σ a0 8) σ _ h) lv_X10_351 h3 h4 rfl rfl dX10_prepareFlow_12 (cat8 (Nat.le_of_ble_eq_true rfl)) hrm ⟨Nat.le_of_ble_eq_true rfl, Nat.le_of_ble_eq_true rfl⟩ (fun u5 σ6 h h7 => ?_)
  have h8 := kp h7 (show ¬ 12 = 0 by decide) h1
  refine y_aload_n hg 0 dX10_prepareFlow_15 rfl rfl ?_
  refine y_getR hg fl_X10_47 rfl rfl h8 dX10_prepareFlow_16 ?_
  refine y_aload_n hg 0 dX10_prepareFlow_19 rfl rfl ?_
  refine y_getR hg fl_X10_16 rfl rfl h8 dX10_prepareFlow_20 ?_
  refine y_aload_n hg 0 dX10_prepareFlow_23 rfl rfl ?_
  refine y_getR hg fl_X10_55 rfl rfl h8 dX10_prepareFlow_24 ?_
  refine y_aload_n hg 0 dX10_prepareFlow_27 rfl rfl ?_
  refine y_getI hg fl_X10_315 rfl rfl h8 dX10_prepareFlow_28 ?_
  obtain ⟨c9, h10, h⟩ := h
  obtain ⟨h11, h⟩ := h
  refine yVVW (Qm := _) (rest := []) (As := [va_rf (sR σ6 a0 1), va_rf (sR σ6 a0 9), .int (sI σ6 a0 14)]) hg (k_X3_letIn (gL g.1) (gD g.1) c9 (sR σ6 a0 1) (sR σ6 a0 9) (sI σ6 a0 14) σ6 _ h) lv_X10_355 h10 h11 rfl rfl dX10_prepareFlow_31 (cat8 (Nat.le_of_ble_eq_true rfl)) hrm ⟨Nat.le_of_ble_eq_true rfl, Nat.le_of_ble_eq_true rfl⟩ (fun u12 σ13 h h14 => ?_)
  have h15 := kp h14 (show ¬ 12 = 0 by decide) h8
  exact yEndV hend dX10_prepareFlow_34 h
def P_X10_whatRains_L78b (a0 : Nat) (v1 : Int32) (v2 : Int32) (v3 : Int32) (σ : Sg) (Q : Int32 → Prop) (K78 : Int32 → Int32 → Prop) : Prop :=
  sK σ a0 % 32 = 12 ∧ ((sI σ a0 14) ≤ v3 → Q (v2 * v1)) ∧ (¬ ((sI σ a0 14) ≤ v3) → ∃ c41 : Nat, sR σ a0 9 = some c41 ∧ sK σ c41 % 32 = 16 ∧ vp_in v3 (sN σ c41) ∧ ∀ x45 : Int32, x45 = v2 + (sI σ c41 v3.toNatClampNeg) → ∀ x47 : Int32, x47 = v3 + 1 → K78 x45 x47)
def P_X10_whatRains_L78 (a0 : Nat) (v1 : Int32) (v2 : Int32) (v3 : Int32) (σ : Sg) (Q : Int32 → Prop) : Prop :=
  ∃ I : Nat → Int32 → Int32 → Prop, (∃ n, I n v2 v3) ∧ ∀ (n : Nat) (v2 : Int32) (v3 : Int32), I n v2 v3 → P_X10_whatRains_L78b a0 v1 v2 v3 σ Q (fun v2 v3 => ∃ n', n' < n ∧ I n' v2 v3)
def P_X10_whatRains_L40b (a0 : Nat) (v1 : Int32) (v2 : Int32) (σ : Sg) (Q : Int32 → Prop) (K40 : Int32 → Int32 → Prop) : Prop :=
  sK σ a0 % 32 = 12 ∧ ∃ c21 : Nat, sR σ a0 1 = some c21 ∧ sK σ c21 % 32 = 1 ∧ P_Jx4a65c_size_8abf5 c21 σ (fun x24 => (x24 ≤ v2 → P_X10_whatRains_L78 a0 v1 0 0 σ Q) ∧ (¬ (x24 ≤ v2) → ∃ c26 : Nat, sR σ a0 1 = some c26 ∧ sK σ c26 % 32 = 1 ∧ P_Jx4a65c_get_915e3 c26 v2 σ (fun r29 => ∃ c30 : Nat, r29 = some c30 ∧ sK σ c30 % 32 = 8 ∧ ∀ x33 : Int32, x33 = v1 + (sI σ c30 2) → ∀ x35 : Int32, x35 = v2 + 1 → K40 x33 x35)))
def P_X10_whatRains_L40 (a0 : Nat) (v1 : Int32) (v2 : Int32) (σ : Sg) (Q : Int32 → Prop) : Prop :=
  ∃ I : Nat → Int32 → Int32 → Prop, (∃ n, I n v1 v2) ∧ ∀ (n : Nat) (v1 : Int32) (v2 : Int32), I n v1 v2 → P_X10_whatRains_L40b a0 v1 v2 σ Q (fun v1 v2 => ∃ n', n' < n ∧ I n' v1 v2)
def P_X10_whatRains_L4b (a0 : Nat) (v1 : Int32) (v2 : Int32) (σ : Sg) (Q : Int32 → Prop) (K4 : Int32 → Int32 → Prop) : Prop :=
  sK σ a0 % 32 = 12 ∧ ∃ c2 : Nat, sR σ a0 0 = some c2 ∧ sK σ c2 % 32 = 1 ∧ P_Jx4a65c_size_8abf5 c2 σ (fun x5 => (x5 ≤ v2 → P_X10_whatRains_L40 a0 v1 0 σ Q) ∧ (¬ (x5 ≤ v2) → ∃ c7 : Nat, sR σ a0 0 = some c7 ∧ sK σ c7 % 32 = 1 ∧ P_Jx4a65c_get_915e3 c7 v2 σ (fun r10 => ∃ c11 : Nat, r10 = some c11 ∧ sK σ c11 % 32 = 4 ∧ ∀ x14 : Int32, x14 = v1 + (sI σ c11 0) → ∀ x16 : Int32, x16 = v2 + 1 → K4 x14 x16)))
def P_X10_whatRains_L4 (a0 : Nat) (v1 : Int32) (v2 : Int32) (σ : Sg) (Q : Int32 → Prop) : Prop :=
  ∃ I : Nat → Int32 → Int32 → Prop, (∃ n, I n v1 v2) ∧ ∀ (n : Nat) (v1 : Int32) (v2 : Int32), I n v1 v2 → P_X10_whatRains_L4b a0 v1 v2 σ Q (fun v1 v2 => ∃ n', n' < n ∧ I n' v1 v2)
def P_X10_whatRains (a0 : Nat) (σ : Sg) (Q : Int32 → Prop) : Prop :=
  P_X10_whatRains_L4 a0 0 0 σ Q
set_option maxHeartbeats 4000000 in
set_option maxRecDepth 100000 in
theorem k_X10_whatRains (l : Launch) (D : Dg) (a0 : Nat) (σ : Sg) (Q : Int32 → Prop) (h : P_X10_whatRains a0 σ Q) : CtrY RN l D yX10_whatRains cX10_whatRains 4 (some FieldType.int) 3 64 mkI [.ref a0] σ (0, 0) (fun r σ2 => Q r ∧ σ2 = σ) := by
  refine y_ctrN (lv := [(0, va_rf (some a0))]) (by decide) (by (exact Nat.le_of_ble_eq_true rfl)) (by (exact rfl)) (fun g hg hgL hgD hrm hgN hgI hend => ?_)
  subst hgD
  clear hgL
  unfold P_X10_whatRains at h
  have J78 : ∀ (v1 : Int32) (v2 : Int32) (v3 : Int32), P_X10_whatRains_L78 a0 v1 v2 v3 σ Q → XA g 78 [(0, va_rf (some a0)), (1, .int v1), (2, .int v2), (3, .int v3)] [] σ (0, 0) := by
    intro v1 v2 v3 h
    unfold P_X10_whatRains_L78 at h
    obtain ⟨I78, ⟨n78, hI78⟩, hs78⟩ := h
    have key78 : ∀ (n : Nat), ∀ (v2 : Int32) (v3 : Int32), I78 n v2 v3 → XA g 78 [(0, va_rf (some a0)), (1, .int v1), (2, .int v2), (3, .int v3)] [] σ (0, 0) := by
      intro n
      induction n using Nat.strongRecOn with
      | _ n ih78 =>
      intro v2 v3 hI
      have h := hs78 n v2 v3 hI
      clear hI hI78 hs78
      obtain ⟨K78, hK78⟩ : ∃ K : Int32 → Int32 → Prop, K = (fun v2 v3 => ∃ n', n' < n ∧ I78 n' v2 v3) := ⟨_, rfl⟩
      rw [← hK78] at h
      unfold P_X10_whatRains_L78b at h
      refine y_iload_n hg 3 dX10_whatRains_78 rfl rfl ?_
      refine y_aload_n hg 0 dX10_whatRains_79 rfl rfl ?_
      obtain ⟨h39, h⟩ := h
      refine y_getI hg fl_X10_315 rfl rfl h39 dX10_whatRains_80 ?_
      refine y_icmp_ge (tgt := 101) hg dX10_whatRains_83 (by decide) (fun q40 => ?_) (fun q40 => ?_)
      · replace h := h.1 q40
        refine y_iload_n hg 2 dX10_whatRains_101 rfl rfl ?_
        refine y_iload_n hg 1 dX10_whatRains_102 rfl rfl ?_
        refine y_imul hg dX10_whatRains_103 ?_
        exact yEndI hend rfl dX10_whatRains_104 ⟨h, rfl⟩
      · replace h := h.2 q40
        refine y_iload_n hg 2 dX10_whatRains_86 rfl rfl ?_
        refine y_aload_n hg 0 dX10_whatRains_87 rfl rfl ?_
        refine y_getR hg fl_X10_55 rfl rfl h39 dX10_whatRains_88 ?_
        refine y_iload_n hg 3 dX10_whatRains_91 rfl rfl ?_
        obtain ⟨c41, h42, h⟩ := h
        obtain ⟨h43, h⟩ := h
        obtain ⟨h44, h⟩ := h
        refine y_iald hg h42 h43 h44 dX10_whatRains_92 ?_
        refine y_iadd hg dX10_whatRains_93 ?_
        refine y_nmI (fun x45 e46 => ?_)
        replace h := h x45 e46
        refine y_istore_n (lv' := [(2, .int x45), (0, va_rf (some a0)), (1, .int v1), (3, .int v3)]) hg dX10_whatRains_94 rfl (by rw [hgN]; decide) rfl ?_
        obtain ⟨x47, e48⟩ : ∃ y : Int32, y = v3 + 1 := ⟨_, rfl⟩
        replace h := h x47 e48
        refine y_iinc (v := x47) (lv' := [(3, .int x47), (2, .int x45), (0, va_rf (some a0)), (1, .int v1)]) hg 3 dX10_whatRains_95 rfl (by rw [e48]; rfl) (by rw [hgN]; decide) rfl ?_
        refine y_goto (tgt := 78) hg dX10_whatRains_98 (by decide) ?_
        refine y_sub [2, 3, 1, 0] rfl ?_
        subst hK78
        obtain ⟨n49, h50, h⟩ := h
        exact ih78 n49 h50 _ _ h
    exact key78 n78 v2 v3 hI78
  have J40 : ∀ (v1 : Int32) (v2 : Int32), P_X10_whatRains_L40 a0 v1 v2 σ Q → XA g 40 [(0, va_rf (some a0)), (1, .int v1), (2, .int v2)] [] σ (0, 0) := by
    intro v1 v2 h
    unfold P_X10_whatRains_L40 at h
    obtain ⟨I40, ⟨n40, hI40⟩, hs40⟩ := h
    have key40 : ∀ (n : Nat), ∀ (v1 : Int32) (v2 : Int32), I40 n v1 v2 → XA g 40 [(0, va_rf (some a0)), (1, .int v1), (2, .int v2)] [] σ (0, 0) := by
      intro n
      induction n using Nat.strongRecOn with
      | _ n ih40 =>
      intro v1 v2 hI
      have h := hs40 n v1 v2 hI
      clear hI hI40 hs40
      obtain ⟨K40, hK40⟩ : ∃ K : Int32 → Int32 → Prop, K = (fun v1 v2 => ∃ n', n' < n ∧ I40 n' v1 v2) := ⟨_, rfl⟩
      rw [← hK40] at h
      unfold P_X10_whatRains_L40b at h
      refine y_iload_n hg 2 dX10_whatRains_40 rfl rfl ?_
      refine y_aload_n hg 0 dX10_whatRains_41 rfl rfl ?_
      obtain ⟨h20, h⟩ := h
      refine y_getR hg fl_X10_16 rfl rfl h20 dX10_whatRains_42 ?_
      obtain ⟨c21, h22, h⟩ := h
      obtain ⟨h23, h⟩ := h
      refine yVIP (Qp := _) (rest := [.int v2]) (As := []) hg (k_Jx4a65c_size_8abf5 (gL g.1) (gD g.1) c21 σ _ h) lv_X10_87 h22 h23 rfl rfl dX10_whatRains_45 (cat8 (Nat.le_of_ble_eq_true rfl)) hrm ⟨Nat.le_of_ble_eq_true rfl, Nat.le_of_ble_eq_true rfl⟩ (fun x24 h => ?_)
      refine y_icmp_ge (tgt := 74) hg dX10_whatRains_48 (by decide) (fun q25 => ?_) (fun q25 => ?_)
      · replace h := h.1 q25
        refine y_iconst (v := 0) hg dX10_whatRains_74 (by decide) ?_
        refine y_istore_n (lv' := [(2, .int 0), (0, va_rf (some a0)), (1, .int v1)]) hg dX10_whatRains_75 rfl (by rw [hgN]; decide) rfl ?_
        refine y_iconst (v := 0) hg dX10_whatRains_76 (by decide) ?_
        refine y_istore_n (lv' := [(3, .int 0), (2, .int 0), (0, va_rf (some a0)), (1, .int v1)]) hg dX10_whatRains_77 rfl (by rw [hgN]; decide) rfl ?_
        refine y_sub [2, 3, 1, 0] rfl ?_
        exact J78 _ _ _ h
      · replace h := h.2 q25
        refine y_iload_n hg 1 dX10_whatRains_51 rfl rfl ?_
        refine y_aload_n hg 0 dX10_whatRains_52 rfl rfl ?_
        refine y_getR hg fl_X10_16 rfl rfl h20 dX10_whatRains_53 ?_
        refine y_iload_n hg 2 dX10_whatRains_56 rfl rfl ?_
        obtain ⟨c26, h27, h⟩ := h
        obtain ⟨h28, h⟩ := h
        refine yVRP (Qp := _) (rest := [.int v1]) (As := [.int v2]) hg (k_Jx4a65c_get_915e3 (gL g.1) (gD g.1) c26 v2 σ _ h) lv_X10_232 h27 h28 rfl rfl dX10_whatRains_57 (cat8 (Nat.le_of_ble_eq_true rfl)) hrm ⟨Nat.le_of_ble_eq_true rfl, Nat.le_of_ble_eq_true rfl⟩ (fun r29 h => ?_)
        obtain ⟨c30, h31, h⟩ := h
        obtain ⟨h32, h⟩ := h
        refine y_cast (c := 8) hg (C := RX6) rfl (by decide) cl_X10_107 h31 h32 dX10_whatRains_60 ?_
        refine y_getI hg fl_X10_227 rfl h31 h32 dX10_whatRains_63 ?_
        refine y_iadd hg dX10_whatRains_66 ?_
        refine y_nmI (fun x33 e34 => ?_)
        replace h := h x33 e34
        refine y_istore_n (lv' := [(1, .int x33), (0, va_rf (some a0)), (2, .int v2)]) hg dX10_whatRains_67 rfl (by rw [hgN]; decide) rfl ?_
        obtain ⟨x35, e36⟩ : ∃ y : Int32, y = v2 + 1 := ⟨_, rfl⟩
        replace h := h x35 e36
        refine y_iinc (v := x35) (lv' := [(2, .int x35), (1, .int x33), (0, va_rf (some a0))]) hg 2 dX10_whatRains_68 rfl (by rw [e36]; rfl) (by rw [hgN]; decide) rfl ?_
        refine y_goto (tgt := 40) hg dX10_whatRains_71 (by decide) ?_
        refine y_sub [2, 1, 0] rfl ?_
        subst hK40
        obtain ⟨n37, h38, h⟩ := h
        exact ih40 n37 h38 _ _ h
    exact key40 n40 v1 v2 hI40
  have J4 : ∀ (v1 : Int32) (v2 : Int32), P_X10_whatRains_L4 a0 v1 v2 σ Q → XA g 4 [(0, va_rf (some a0)), (1, .int v1), (2, .int v2)] [] σ (0, 0) := by
    intro v1 v2 h
    unfold P_X10_whatRains_L4 at h
    obtain ⟨I4, ⟨n4, hI4⟩, hs4⟩ := h
    have key4 : ∀ (n : Nat), ∀ (v1 : Int32) (v2 : Int32), I4 n v1 v2 → XA g 4 [(0, va_rf (some a0)), (1, .int v1), (2, .int v2)] [] σ (0, 0) := by
      intro n
      induction n using Nat.strongRecOn with
      | _ n ih4 =>
      intro v1 v2 hI
      have h := hs4 n v1 v2 hI
      clear hI hI4 hs4
      obtain ⟨K4, hK4⟩ : ∃ K : Int32 → Int32 → Prop, K = (fun v1 v2 => ∃ n', n' < n ∧ I4 n' v1 v2) := ⟨_, rfl⟩
      rw [← hK4] at h
      unfold P_X10_whatRains_L4b at h
      refine y_iload_n hg 2 dX10_whatRains_4 rfl rfl ?_
      refine y_aload_n hg 0 dX10_whatRains_5 rfl rfl ?_
      obtain ⟨h1, h⟩ := h
      refine y_getR hg fl_X10_10 rfl rfl h1 dX10_whatRains_6 ?_
      obtain ⟨c2, h3, h⟩ := h
      obtain ⟨h4, h⟩ := h
      refine yVIP (Qp := _) (rest := [.int v2]) (As := []) hg (k_Jx4a65c_size_8abf5 (gL g.1) (gD g.1) c2 σ _ h) lv_X10_87 h3 h4 rfl rfl dX10_whatRains_9 (cat8 (Nat.le_of_ble_eq_true rfl)) hrm ⟨Nat.le_of_ble_eq_true rfl, Nat.le_of_ble_eq_true rfl⟩ (fun x5 h => ?_)
      refine y_icmp_ge (tgt := 38) hg dX10_whatRains_12 (by decide) (fun q6 => ?_) (fun q6 => ?_)
      · replace h := h.1 q6
        refine y_iconst (v := 0) hg dX10_whatRains_38 (by decide) ?_
        refine y_istore_n (lv' := [(2, .int 0), (0, va_rf (some a0)), (1, .int v1)]) hg dX10_whatRains_39 rfl (by rw [hgN]; decide) rfl ?_
        refine y_sub [1, 2, 0] rfl ?_
        exact J40 _ _ h
      · replace h := h.2 q6
        refine y_iload_n hg 1 dX10_whatRains_15 rfl rfl ?_
        refine y_aload_n hg 0 dX10_whatRains_16 rfl rfl ?_
        refine y_getR hg fl_X10_10 rfl rfl h1 dX10_whatRains_17 ?_
        refine y_iload_n hg 2 dX10_whatRains_20 rfl rfl ?_
        obtain ⟨c7, h8, h⟩ := h
        obtain ⟨h9, h⟩ := h
        refine yVRP (Qp := _) (rest := [.int v1]) (As := [.int v2]) hg (k_Jx4a65c_get_915e3 (gL g.1) (gD g.1) c7 v2 σ _ h) lv_X10_232 h8 h9 rfl rfl dX10_whatRains_21 (cat8 (Nat.le_of_ble_eq_true rfl)) hrm ⟨Nat.le_of_ble_eq_true rfl, Nat.le_of_ble_eq_true rfl⟩ (fun r10 h => ?_)
        obtain ⟨c11, h12, h⟩ := h
        obtain ⟨h13, h⟩ := h
        refine y_cast (c := 4) hg (C := RX2) rfl (by decide) cl_X10_91 h12 h13 dX10_whatRains_24 ?_
        refine y_getI hg fl_X10_168 rfl h12 h13 dX10_whatRains_27 ?_
        refine y_iadd hg dX10_whatRains_30 ?_
        refine y_nmI (fun x14 e15 => ?_)
        replace h := h x14 e15
        refine y_istore_n (lv' := [(1, .int x14), (0, va_rf (some a0)), (2, .int v2)]) hg dX10_whatRains_31 rfl (by rw [hgN]; decide) rfl ?_
        obtain ⟨x16, e17⟩ : ∃ y : Int32, y = v2 + 1 := ⟨_, rfl⟩
        replace h := h x16 e17
        refine y_iinc (v := x16) (lv' := [(2, .int x16), (1, .int x14), (0, va_rf (some a0))]) hg 2 dX10_whatRains_32 rfl (by rw [e17]; rfl) (by rw [hgN]; decide) rfl ?_
        refine y_goto (tgt := 4) hg dX10_whatRains_35 (by decide) ?_
        refine y_sub [2, 1, 0] rfl ?_
        subst hK4
        obtain ⟨n18, h19, h⟩ := h
        exact ih4 n18 h19 _ _ h
    exact key4 n4 v1 v2 hI4
  refine y_iconst (v := 0) hg dX10_whatRains_0 (by decide) ?_
  refine y_istore_n (lv' := [(1, .int 0), (0, va_rf (some a0))]) hg dX10_whatRains_1 rfl (by rw [hgN]; decide) rfl ?_
  refine y_iconst (v := 0) hg dX10_whatRains_2 (by decide) ?_
  refine y_istore_n (lv' := [(2, .int 0), (1, .int 0), (0, va_rf (some a0))]) hg dX10_whatRains_3 rfl (by rw [hgN]; decide) rfl ?_
  refine y_sub [2, 1, 0] rfl ?_
  exact J4 _ _ h
