def P_X11_ages_B260 (a0 : Nat) (v1 : Int32) (σ : Sg) (Q : Unit → Sg → Prop) : Prop :=
  sK σ a0 % 32 = 13 ∧ ∃ c122 : Nat, sR σ a0 20 = some c122 ∧ sK σ c122 % 32 = 16 ∧ vp_in v1 (sN σ c122) ∧ ∀ σ126 : Sg, σ126 = pI σ c122 v1.toNatClampNeg 0 → Q () σ126
def P_X11_ages_B232 (a0 : Nat) (v1 : Int32) (v3 : Int32) (σ : Sg) (Q : Unit → Sg → Prop) : Prop :=
  (v3 = 60 → sK σ a0 % 32 = 13 ∧ ∃ c108 : Nat, sR σ a0 20 = some c108 ∧ sK σ c108 % 32 = 16 ∧ vp_in v1 (sN σ c108) ∧ P_X11_now a0 5 σ (fun x112 => ((sI σ c108 v1.toNatClampNeg) ≤ x112 → P_X11_ages_B260 a0 v1 σ Q) ∧ (¬ ((sI σ c108 v1.toNatClampNeg) ≤ x112) → ∃ c114 : Nat, sR σ a0 14 = some c114 ∧ sK σ c114 % 32 = 18 ∧ vp_in v1 (sN σ c114) ∧ ∀ σ118 : Sg, σ118 = pI σ c114 v1.toNatClampNeg 0 → P_X11_ages_B260 a0 v1 σ118 Q))) ∧ (¬ (v3 = 60) → Q () σ)
def P_X11_ages_B207 (a0 : Nat) (v1 : Int32) (v3 : Int32) (w0 : Option Nat) (w1 : Int32) (w2 : Int32) (σ : Sg) (Q : Unit → Sg → Prop) : Prop :=
  ∃ c88 : Nat, w0 = some c88 ∧ sK σ c88 % 32 = 16 ∧ vp_in w1 (sN σ c88) ∧ ∀ σ92 : Sg, σ92 = pI σ c88 w1.toNatClampNeg w2 → sK σ92 a0 % 32 = 13 ∧ ∃ c96 : Nat, sR σ92 a0 22 = some c96 ∧ sK σ92 c96 % 32 = 16 ∧ vp_in v1 (sN σ92 c96) ∧ P_X11_now a0 6 σ92 (fun x100 => ((sI σ92 c96 v1.toNatClampNeg) = (x100 + 1) → P_X11_complain a0 v1 2 σ92 (fun x102 σ103 => P_X11_ages_B232 a0 v1 v3 σ103 Q)) ∧ (¬ ((sI σ92 c96 v1.toNatClampNeg) = (x100 + 1)) → P_X11_ages_B232 a0 v1 v3 σ92 Q))
def P_X11_ages_B139 (a0 : Nat) (v1 : Int32) (v3 : Int32) (σ : Sg) (Q : Unit → Sg → Prop) : Prop :=
  sK σ a0 % 32 = 13 ∧ ∃ c52 : Nat, sR σ a0 21 = some c52 ∧ sK σ c52 % 32 = 16 ∧ vp_in v1 (sN σ c52) ∧ P_X11_drink a0 v1 σ (fun x56 => ∀ x57 : Int32, x57 = (if (20 * x56) < (sI σ c52 v1.toNatClampNeg) then (20 * x56) else (sI σ c52 v1.toNatClampNeg)) → ∃ c59 : Nat, sR σ a0 21 = some c59 ∧ sK σ c59 % 32 = 16 ∧ vp_in v1 (sN σ c59) ∧ vp_in v1 (sN σ c59) ∧ ∀ σ64 : Sg, σ64 = pI σ c59 v1.toNatClampNeg ((sI σ c59 v1.toNatClampNeg) - x57) → ∀ σ67 : Sg, σ67 = pL σ64 a0 36 ((sL σ64 a0 36) + x57.toInt64) → ∃ c70 : Nat, sR σ67 a0 21 = some c70 ∧ sK σ67 c70 % 32 = 16 ∧ vp_in v1 (sN σ67 c70) ∧ ((sI σ67 c70 v1.toNatClampNeg) ≤ 0 → P_X11_ages_B207 a0 v1 v3 (sR σ67 a0 22) v1 0 σ67 Q) ∧ (¬ ((sI σ67 c70 v1.toNatClampNeg) ≤ 0) → ∃ c75 : Nat, sR σ67 a0 22 = some c75 ∧ sK σ67 c75 % 32 = 16 ∧ vp_in v1 (sN σ67 c75) ∧ P_X11_ages_B207 a0 v1 v3 (sR σ67 a0 22) v1 ((sI σ67 c75 v1.toNatClampNeg) + 1) σ67 Q))
def P_X11_ages_B134 (a0 : Nat) (v1 : Int32) (v3 : Int32) (w0 : Option Nat) (w1 : Int32) (w2 : Int32) (w3 : Int32) (w4 : Int32) (σ : Sg) (Q : Unit → Sg → Prop) : Prop :=
  ∀ x79 : Int32, x79 = (if (w3 + w4) < w2 then (w3 + w4) else w2) → ∃ c81 : Nat, w0 = some c81 ∧ sK σ c81 % 32 = 16 ∧ vp_in w1 (sN σ c81) ∧ ∀ σ85 : Sg, σ85 = pI σ c81 w1.toNatClampNeg x79 → P_X11_ages_B139 a0 v1 v3 σ85 Q
def P_X11_ages_B107 (a0 : Nat) (v1 : Int32) (v3 : Int32) (σ : Sg) (Q : Unit → Sg → Prop) : Prop :=
  sK σ a0 % 32 = 13 ∧ ∃ c42 : Nat, sR σ a0 19 = some c42 ∧ sK σ c42 % 32 = 16 ∧ vp_in v1 (sN σ c42) ∧ ∃ c46 : Nat, sR σ a0 13 = some c46 ∧ sK σ c46 % 32 = 18 ∧ vp_in v1 (sN σ c46) ∧ ((sI σ c46 v1.toNatClampNeg) = 0 → P_X11_ages_B134 a0 v1 v3 (sR σ a0 19) v1 10 (sI σ c42 v1.toNatClampNeg) 1 σ Q) ∧ (¬ ((sI σ c46 v1.toNatClampNeg) = 0) → P_X11_ages_B134 a0 v1 v3 (sR σ a0 19) v1 10 (sI σ c42 v1.toNatClampNeg) 2 σ Q)
def P_X11_ages_B32 (a0 : Nat) (v1 : Int32) (v2 : Int32) (σ : Sg) (Q : Unit → Sg → Prop) : Prop :=
  sK σ a0 % 32 = 13 ∧ ∃ c19 : Nat, sR σ a0 18 = some c19 ∧ sK σ c19 % 32 = 16 ∧ vp_in v1 (sN σ c19) ∧ ∀ x23 : Int32, x23 = (if ((sI σ c19 v1.toNatClampNeg) + v2) < (100 : Int32) then ((sI σ c19 v1.toNatClampNeg) + v2) else (100 : Int32)) → ∃ c25 : Nat, sR σ a0 18 = some c25 ∧ sK σ c25 % 32 = 16 ∧ vp_in v1 (sN σ c25) ∧ ∀ σ29 : Sg, σ29 = pI σ c25 v1.toNatClampNeg x23 → ∀ x32 : Int32, x32 = (sI σ29 a0 0) - (sI σ29 a0 0) / 365 * 365 → P_X11_now a0 1 σ29 (fun x34 => P_X11_now a0 2 σ29 (fun x35 => (x35 < x34 → (x34 ≤ x32 → P_X11_ages_B107 a0 v1 x32 σ29 Q) ∧ (¬ (x34 ≤ x32) → (x35 < x32 → P_X11_ages_B139 a0 v1 x32 σ29 Q) ∧ (¬ (x35 < x32) → P_X11_ages_B107 a0 v1 x32 σ29 Q))) ∧ (¬ (x35 < x34) → P_X11_isIn x32 x34 x35 σ29 (fun x39 => (x39 = 0 → P_X11_ages_B139 a0 v1 x32 σ29 Q) ∧ (¬ (x39 = 0) → P_X11_ages_B107 a0 v1 x32 σ29 Q)))))
def P_X11_ages_B19 (a0 : Nat) (v1 : Int32) (v2 : Int32) (σ : Sg) (Q : Unit → Sg → Prop) : Prop :=
  sK σ a0 % 32 = 13 ∧ ∃ c11 : Nat, sR σ a0 14 = some c11 ∧ sK σ c11 % 32 = 18 ∧ vp_in v1 (sN σ c11) ∧ ((sI σ c11 v1.toNatClampNeg) = 0 → ∀ x16 : Int32, x16 = v2 * 2 → P_X11_ages_B32 a0 v1 x16 σ Q) ∧ (¬ ((sI σ c11 v1.toNatClampNeg) = 0) → P_X11_ages_B32 a0 v1 v2 σ Q)
def P_X11_ages (a0 : Nat) (v1 : Int32) (σ : Sg) (Q : Unit → Sg → Prop) : Prop :=
  sK σ a0 % 32 = 13 ∧ P_X11_now a0 0 σ (fun x2 => ∃ c3 : Nat, sR σ a0 13 = some c3 ∧ sK σ c3 % 32 = 18 ∧ vp_in v1 (sN σ c3) ∧ ((sI σ c3 v1.toNatClampNeg) = 0 → P_X11_ages_B19 a0 v1 x2 σ Q) ∧ (¬ ((sI σ c3 v1.toNatClampNeg) = 0) → ∀ x8 : Int32, x8 = x2 / 2 → P_X11_ages_B19 a0 v1 x8 σ Q))
set_option maxHeartbeats 4000000 in
set_option maxRecDepth 100000 in
theorem k_X11_ages (l : Launch) (D : Dg) (a0 : Nat) (v1 : Int32) (σ : Sg) (Q : Unit → Sg → Prop) (h : P_X11_ages a0 v1 σ Q) : CtrY RN l D yX11_ages cX11_ages 7 (none) 3 69 mkV [.ref a0, .int v1] σ (0, 0) Q := by
  refine y_ctrN (lv := [(0, va_rf (some a0)), (1, .int v1)]) (by decide) (by (exact Nat.le_of_ble_eq_true rfl)) (by (exact rfl)) (fun g hg hgL hgD hrm hgN hgI hend => ?_)
  subst hgD
  clear hgL
  unfold P_X11_ages at h
  have J260 : ∀ (v1 : Int32) (σ : Sg), P_X11_ages_B260 a0 v1 σ Q → XA g 260 [(0, va_rf (some a0)), (1, .int v1)] [] σ (0, 0) := by
    intro v1 σ h
    unfold P_X11_ages_B260 at h
    refine y_aload_n hg 0 dX11_ages_260 rfl rfl ?_
    obtain ⟨h121, h⟩ := h
    refine y_getR hg fl_X11_50 rfl rfl h121 dX11_ages_261 ?_
    refine y_iload_n hg 1 dX11_ages_264 rfl rfl ?_
    refine y_iconst (v := 0) hg dX11_ages_265 (by decide) ?_
    obtain ⟨c122, h123, h⟩ := h
    obtain ⟨h124, h⟩ := h
    obtain ⟨h125, h⟩ := h
    refine y_iast hg h123 h124 h125 dX11_ages_266 ?_
    refine y_nmS (fun σ126 e127 => ?_)
    replace h := h σ126 e127
    have E128 : sK σ126 = sK σ := by rw [e127]; rfl
    exact yEndV hend dX11_ages_267 h
  have J232 : ∀ (v1 : Int32) (v3 : Int32) (σ : Sg), P_X11_ages_B232 a0 v1 v3 σ Q → XA g 232 [(0, va_rf (some a0)), (1, .int v1), (3, .int v3)] [] σ (0, 0) := by
    intro v1 v3 σ h
    unfold P_X11_ages_B232 at h
    refine y_iload_n hg 2 dX11_ages_232 rfl rfl ?_
    refine y_bipush (v := 60) hg dX11_ages_233 (by decide) ?_
    refine y_icmp_eq (tgt := 239) hg dX11_ages_235 (by decide) (fun q106 => ?_) (fun q106 => ?_)
    · replace h := h.1 q106
      refine y_aload_n hg 0 dX11_ages_239 rfl rfl ?_
      obtain ⟨h107, h⟩ := h
      refine y_getR hg fl_X11_50 rfl rfl h107 dX11_ages_240 ?_
      refine y_iload_n hg 1 dX11_ages_243 rfl rfl ?_
      obtain ⟨c108, h109, h⟩ := h
      obtain ⟨h110, h⟩ := h
      obtain ⟨h111, h⟩ := h
      refine y_iald hg h109 h110 h111 dX11_ages_244 ?_
      refine y_aload_n hg 0 dX11_ages_245 rfl rfl ?_
      refine y_iconst (v := 5) hg dX11_ages_246 (by decide) ?_
      refine yVIP (Qp := _) (rest := [.int (sI σ c108 v1.toNatClampNeg)]) (As := [.int 5]) hg (k_X11_now (gL g.1) (gD g.1) a0 5 σ _ h) lv_X11_209 rfl h107 rfl rfl dX11_ages_247 (cat8 (Nat.le_of_ble_eq_true rfl)) hrm ⟨Nat.le_of_ble_eq_true rfl, Nat.le_of_ble_eq_true rfl⟩ (fun x112 h => ?_)
      refine y_icmp_le (tgt := 260) hg dX11_ages_250 (by decide) (fun q113 => ?_) (fun q113 => ?_)
      · replace h := h.1 q113
        refine y_sub [0, 1] rfl ?_
        exact J260 _ _ h
      · replace h := h.2 q113
        refine y_aload_n hg 0 dX11_ages_253 rfl rfl ?_
        refine y_getR hg fl_X11_32 rfl rfl h107 dX11_ages_254 ?_
        refine y_iload_n hg 1 dX11_ages_257 rfl rfl ?_
        refine y_iconst (v := 0) hg dX11_ages_258 (by decide) ?_
        obtain ⟨c114, h115, h⟩ := h
        obtain ⟨h116, h⟩ := h
        obtain ⟨h117, h⟩ := h
        refine y_zast hg h115 h116 h117 (Or.inl rfl) dX11_ages_259 ?_
        refine y_nmS (fun σ118 e119 => ?_)
        replace h := h σ118 e119
        have E120 : sK σ118 = sK σ := by rw [e119]; rfl
        refine y_sub [0, 1] rfl ?_
        exact J260 _ _ h
    · replace h := h.2 q106
      exact yEndV hend dX11_ages_238 h
  have J207 : ∀ (v1 : Int32) (v3 : Int32) (w0 : Option Nat) (w1 : Int32) (w2 : Int32) (σ : Sg), P_X11_ages_B207 a0 v1 v3 w0 w1 w2 σ Q → XA g 207 [(0, va_rf (some a0)), (1, .int v1), (3, .int v3)] [.int w2, .int w1, va_rf w0] σ (0, 0) := by
    intro v1 v3 w0 w1 w2 σ h
    unfold P_X11_ages_B207 at h
    obtain ⟨c88, h89, h⟩ := h
    obtain ⟨h90, h⟩ := h
    obtain ⟨h91, h⟩ := h
    refine y_iast hg h89 h90 h91 dX11_ages_207 ?_
    refine y_nmS (fun σ92 e93 => ?_)
    replace h := h σ92 e93
    have E94 : sK σ92 = sK σ := by rw [e93]; rfl
    refine y_aload_n hg 0 dX11_ages_208 rfl rfl ?_
    obtain ⟨h95, h⟩ := h
    refine y_getR hg fl_X11_56 rfl rfl h95 dX11_ages_209 ?_
    refine y_iload_n hg 1 dX11_ages_212 rfl rfl ?_
    obtain ⟨c96, h97, h⟩ := h
    obtain ⟨h98, h⟩ := h
    obtain ⟨h99, h⟩ := h
    refine y_iald hg h97 h98 h99 dX11_ages_213 ?_
    refine y_aload_n hg 0 dX11_ages_214 rfl rfl ?_
    refine y_bipush (v := 6) hg dX11_ages_215 (by decide) ?_
    refine yVIP (Qp := _) (rest := [.int (sI σ92 c96 v1.toNatClampNeg)]) (As := [.int 6]) hg (k_X11_now (gL g.1) (gD g.1) a0 6 σ92 _ h) lv_X11_209 rfl h95 rfl rfl dX11_ages_217 (cat8 (Nat.le_of_ble_eq_true rfl)) hrm ⟨Nat.le_of_ble_eq_true rfl, Nat.le_of_ble_eq_true rfl⟩ (fun x100 h => ?_)
    refine y_iconst (v := 1) hg dX11_ages_220 (by decide) ?_
    refine y_iadd hg dX11_ages_221 ?_
    refine y_icmp_ne (tgt := 232) hg dX11_ages_222 (by decide) (fun q101 => ?_) (fun q101 => ?_)
    · replace h := h.2 q101
      refine y_sub [0, 1, 2] rfl ?_
      exact J232 _ _ _ h
    · replace h := h.1 q101
      refine y_aload_n hg 0 dX11_ages_225 rfl rfl ?_
      refine y_iload_n hg 1 dX11_ages_226 rfl rfl ?_
      refine y_iconst (v := 2) hg dX11_ages_227 (by decide) ?_
      refine yVIW (Qm := _) (rest := []) (As := [.int v1, .int 2]) hg (k_X11_complain (gL g.1) (gD g.1) a0 v1 2 σ92 _ h) lv_X11_237 rfl h95 rfl rfl dX11_ages_228 (cat8 (Nat.le_of_ble_eq_true rfl)) hrm ⟨Nat.le_of_ble_eq_true rfl, Nat.le_of_ble_eq_true rfl⟩ (fun x102 σ103 h h104 => ?_)
      have h105 := kp h104 (show ¬ 13 = 0 by decide) h95
      refine y_pop hg dX11_ages_231 rfl ?_
      refine y_sub [0, 1, 2] rfl ?_
      exact J232 _ _ _ h
  have J139 : ∀ (v1 : Int32) (v3 : Int32) (σ : Sg), P_X11_ages_B139 a0 v1 v3 σ Q → XA g 139 [(0, va_rf (some a0)), (1, .int v1), (3, .int v3)] [] σ (0, 0) := by
    intro v1 v3 σ h
    unfold P_X11_ages_B139 at h
    refine y_aload_n hg 0 dX11_ages_139 rfl rfl ?_
    obtain ⟨h51, h⟩ := h
    refine y_getR hg fl_X11_53 rfl rfl h51 dX11_ages_140 ?_
    refine y_iload_n hg 1 dX11_ages_143 rfl rfl ?_
    obtain ⟨c52, h53, h⟩ := h
    obtain ⟨h54, h⟩ := h
    obtain ⟨h55, h⟩ := h
    refine y_iald hg h53 h54 h55 dX11_ages_144 ?_
    refine y_bipush (v := 20) hg dX11_ages_145 (by decide) ?_
    refine y_aload_n hg 0 dX11_ages_147 rfl rfl ?_
    refine y_iload_n hg 1 dX11_ages_148 rfl rfl ?_
    refine yVIP (Qp := _) (rest := [.int 20, .int (sI σ c52 v1.toNatClampNeg)]) (As := [.int v1]) hg (k_X11_drink (gL g.1) (gD g.1) a0 v1 σ _ h) lv_X11_230 rfl h51 rfl rfl dX11_ages_149 (cat8 (Nat.le_of_ble_eq_true rfl)) hrm ⟨Nat.le_of_ble_eq_true rfl, Nat.le_of_ble_eq_true rfl⟩ (fun x56 h => ?_)
    refine y_imul hg dX11_ages_152 ?_
    refine y_mmin hg mm_X11_227 (cat8 (Nat.le_of_ble_eq_true rfl)) hrm ⟨Nat.le_of_ble_eq_true rfl, Nat.le_of_ble_eq_true rfl⟩ dX11_ages_153 ?_
    refine y_nmI (fun x57 e58 => ?_)
    replace h := h x57 e58
    refine y_istore (lv' := [(6, .int x57), (0, va_rf (some a0)), (1, .int v1), (3, .int v3)]) hg dX11_ages_156 (by rw [hgN]; decide) rfl ?_
    refine y_aload_n hg 1 dX11_ages_158 rfl rfl ?_
    refine y_getR hg fl_X11_53 rfl rfl h51 dX11_ages_159 ?_
    refine y_iload_n hg 2 dX11_ages_162 rfl rfl ?_
    refine y_dup2 hg dX11_ages_163 rfl (rf_cat _) ?_
    obtain ⟨c59, h60, h⟩ := h
    obtain ⟨h61, h⟩ := h
    obtain ⟨h62, h⟩ := h
    refine y_iald hg h60 h61 h62 dX11_ages_164 ?_
    refine y_iload hg 0 dX11_ages_165 rfl ?_
    refine y_isub hg dX11_ages_167 ?_
    obtain ⟨h63, h⟩ := h
    refine y_iast hg h60 h61 h63 dX11_ages_168 ?_
    refine y_nmS (fun σ64 e65 => ?_)
    replace h := h σ64 e65
    have E66 : sK σ64 = sK σ := by rw [e65]; rfl
    refine y_aload_n hg 1 dX11_ages_169 rfl rfl ?_
    refine y_dup hg dX11_ages_170 rfl ?_
    refine y_getL hg fl_X11_233 rfl rfl (kq E66 h51) dX11_ages_171 ?_
    refine y_iload hg 0 dX11_ages_174 rfl ?_
    refine y_i2l hg dX11_ages_176 ?_
    refine y_ladd hg dX11_ages_177 ?_
    refine y_putL hg fw_X11_233 (fun z => nomatch z) rfl (kq E66 h51) dX11_ages_178 ?_
    refine y_nmS (fun σ67 e68 => ?_)
    replace h := h σ67 e68
    have E69 : sK σ67 = sK σ64 := by rw [e68]; rfl
    refine y_aload_n hg 1 dX11_ages_181 rfl rfl ?_
    refine y_getR hg fl_X11_56 rfl rfl (kq E69 (kq E66 h51)) dX11_ages_182 ?_
    refine y_iload_n hg 2 dX11_ages_185 rfl rfl ?_
    refine y_aload_n hg 1 dX11_ages_186 rfl rfl ?_
    refine y_getR hg fl_X11_53 rfl rfl (kq E69 (kq E66 h51)) dX11_ages_187 ?_
    refine y_iload_n hg 2 dX11_ages_190 rfl rfl ?_
    obtain ⟨c70, h71, h⟩ := h
    obtain ⟨h72, h⟩ := h
    obtain ⟨h73, h⟩ := h
    refine y_iald hg h71 h72 h73 dX11_ages_191 ?_
    refine y_if_le (tgt := 206) hg dX11_ages_192 (by decide) (fun q74 => ?_) (fun q74 => ?_)
    · replace h := h.1 q74
      refine y_iconst (v := 0) hg dX11_ages_206 (by decide) ?_
      refine y_sub [1, 2, 3] rfl ?_
      exact J207 _ _ _ _ _ _ h
    · replace h := h.2 q74
      refine y_aload_n hg 1 dX11_ages_195 rfl rfl ?_
      refine y_getR hg fl_X11_56 rfl rfl (kq E69 (kq E66 h51)) dX11_ages_196 ?_
      refine y_iload_n hg 2 dX11_ages_199 rfl rfl ?_
      obtain ⟨c75, h76, h⟩ := h
      obtain ⟨h77, h⟩ := h
      obtain ⟨h78, h⟩ := h
      refine y_iald hg h76 h77 h78 dX11_ages_200 ?_
      refine y_iconst (v := 1) hg dX11_ages_201 (by decide) ?_
      refine y_iadd hg dX11_ages_202 ?_
      refine y_goto (tgt := 207) hg dX11_ages_203 (by decide) ?_
      refine y_sub [1, 2, 3] rfl ?_
      exact J207 _ _ _ _ _ _ h
  have J134 : ∀ (v1 : Int32) (v3 : Int32) (w0 : Option Nat) (w1 : Int32) (w2 : Int32) (w3 : Int32) (w4 : Int32) (σ : Sg), P_X11_ages_B134 a0 v1 v3 w0 w1 w2 w3 w4 σ Q → XA g 134 [(0, va_rf (some a0)), (1, .int v1), (3, .int v3)] [.int w4, .int w3, .int w2, .int w1, va_rf w0] σ (0, 0) := by
    intro v1 v3 w0 w1 w2 w3 w4 σ h
    unfold P_X11_ages_B134 at h
    refine y_iadd hg dX11_ages_134 ?_
    refine y_mmin hg mm_X11_227 (cat8 (Nat.le_of_ble_eq_true rfl)) hrm ⟨Nat.le_of_ble_eq_true rfl, Nat.le_of_ble_eq_true rfl⟩ dX11_ages_135 ?_
    refine y_nmI (fun x79 e80 => ?_)
    replace h := h x79 e80
    obtain ⟨c81, h82, h⟩ := h
    obtain ⟨h83, h⟩ := h
    obtain ⟨h84, h⟩ := h
    refine y_iast hg h82 h83 h84 dX11_ages_138 ?_
    refine y_nmS (fun σ85 e86 => ?_)
    replace h := h σ85 e86
    have E87 : sK σ85 = sK σ := by rw [e86]; rfl
    refine y_sub [0, 1, 2] rfl ?_
    exact J139 _ _ _ h
  have J107 : ∀ (v1 : Int32) (v3 : Int32) (σ : Sg), P_X11_ages_B107 a0 v1 v3 σ Q → XA g 107 [(0, va_rf (some a0)), (1, .int v1), (3, .int v3)] [] σ (0, 0) := by
    intro v1 v3 σ h
    unfold P_X11_ages_B107 at h
    refine y_aload_n hg 0 dX11_ages_107 rfl rfl ?_
    obtain ⟨h41, h⟩ := h
    refine y_getR hg fl_X11_47 rfl rfl h41 dX11_ages_108 ?_
    refine y_iload_n hg 1 dX11_ages_111 rfl rfl ?_
    refine y_bipush (v := 10) hg dX11_ages_112 (by decide) ?_
    refine y_aload_n hg 0 dX11_ages_114 rfl rfl ?_
    refine y_getR hg fl_X11_47 rfl rfl h41 dX11_ages_115 ?_
    refine y_iload_n hg 1 dX11_ages_118 rfl rfl ?_
    obtain ⟨c42, h43, h⟩ := h
    obtain ⟨h44, h⟩ := h
    obtain ⟨h45, h⟩ := h
    refine y_iald hg h43 h44 h45 dX11_ages_119 ?_
    refine y_aload_n hg 0 dX11_ages_120 rfl rfl ?_
    refine y_getR hg fl_X11_29 rfl rfl h41 dX11_ages_121 ?_
    refine y_iload_n hg 1 dX11_ages_124 rfl rfl ?_
    obtain ⟨c46, h47, h⟩ := h
    obtain ⟨h48, h⟩ := h
    obtain ⟨h49, h⟩ := h
    refine y_zald hg h47 h48 h49 dX11_ages_125 ?_
    refine y_if_eq (tgt := 133) hg dX11_ages_126 (by decide) (fun q50 => ?_) (fun q50 => ?_)
    · replace h := h.1 q50
      refine y_iconst (v := 1) hg dX11_ages_133 (by decide) ?_
      refine y_sub [0, 1, 2] rfl ?_
      exact J134 _ _ _ _ _ _ _ _ h
    · replace h := h.2 q50
      refine y_iconst (v := 2) hg dX11_ages_129 (by decide) ?_
      refine y_goto (tgt := 134) hg dX11_ages_130 (by decide) ?_
      refine y_sub [0, 1, 2] rfl ?_
      exact J134 _ _ _ _ _ _ _ _ h
  have J32 : ∀ (v1 : Int32) (v2 : Int32) (σ : Sg), P_X11_ages_B32 a0 v1 v2 σ Q → XA g 32 [(0, va_rf (some a0)), (1, .int v1), (2, .int v2)] [] σ (0, 0) := by
    intro v1 v2 σ h
    unfold P_X11_ages_B32 at h
    refine y_aload_n hg 0 dX11_ages_32 rfl rfl ?_
    obtain ⟨h18, h⟩ := h
    refine y_getR hg fl_X11_44 rfl rfl h18 dX11_ages_33 ?_
    refine y_iload_n hg 1 dX11_ages_36 rfl rfl ?_
    refine y_bipush (v := 100) hg dX11_ages_37 (by decide) ?_
    refine y_aload_n hg 0 dX11_ages_39 rfl rfl ?_
    refine y_getR hg fl_X11_44 rfl rfl h18 dX11_ages_40 ?_
    refine y_iload_n hg 1 dX11_ages_43 rfl rfl ?_
    obtain ⟨c19, h20, h⟩ := h
    obtain ⟨h21, h⟩ := h
    obtain ⟨h22, h⟩ := h
    refine y_iald hg h20 h21 h22 dX11_ages_44 ?_
    refine y_iload_n hg 2 dX11_ages_45 rfl rfl ?_
    refine y_iadd hg dX11_ages_46 ?_
    refine y_mmin hg mm_X11_227 (cat8 (Nat.le_of_ble_eq_true rfl)) hrm ⟨Nat.le_of_ble_eq_true rfl, Nat.le_of_ble_eq_true rfl⟩ dX11_ages_47 ?_
    refine y_nmI (fun x23 e24 => ?_)
    replace h := h x23 e24
    obtain ⟨c25, h26, h⟩ := h
    obtain ⟨h27, h⟩ := h
    obtain ⟨h28, h⟩ := h
    refine y_iast hg h26 h27 h28 dX11_ages_50 ?_
    refine y_nmS (fun σ29 e30 => ?_)
    replace h := h σ29 e30
    have E31 : sK σ29 = sK σ := by rw [e30]; rfl
    refine y_aload_n hg 0 dX11_ages_51 rfl rfl ?_
    refine y_getI hg fl_X11_212 rfl rfl (kq E31 h18) dX11_ages_52 ?_
    refine y_sipush (v := 365) hg dX11_ages_55 (by decide) ?_
    refine y_irem hg dX11_ages_58 (by decide) ?_
    refine y_nmI (fun x32 e33 => ?_)
    replace h := h x32 e33
    refine y_istore_n (lv' := [(3, .int x32), (0, va_rf (some a0)), (1, .int v1), (2, .int v2)]) hg dX11_ages_59 rfl (by rw [hgN]; decide) rfl ?_
    refine y_aload_n hg 1 dX11_ages_60 rfl rfl ?_
    refine y_iconst (v := 1) hg dX11_ages_61 (by decide) ?_
    refine yVIP (Qp := _) (rest := []) (As := [.int 1]) hg (k_X11_now (gL g.1) (gD g.1) a0 1 σ29 _ h) lv_X11_209 rfl (kq E31 h18) rfl rfl dX11_ages_62 (cat8 (Nat.le_of_ble_eq_true rfl)) hrm ⟨Nat.le_of_ble_eq_true rfl, Nat.le_of_ble_eq_true rfl⟩ (fun x34 h => ?_)
    refine y_istore (lv' := [(4, .int x34), (3, .int x32), (0, va_rf (some a0)), (1, .int v1), (2, .int v2)]) hg dX11_ages_65 (by rw [hgN]; decide) rfl ?_
    refine y_aload_n hg 2 dX11_ages_67 rfl rfl ?_
    refine y_iconst (v := 2) hg dX11_ages_68 (by decide) ?_
    refine yVIP (Qp := _) (rest := []) (As := [.int 2]) hg (k_X11_now (gL g.1) (gD g.1) a0 2 σ29 _ h) lv_X11_209 rfl (kq E31 h18) rfl rfl dX11_ages_69 (cat8 (Nat.le_of_ble_eq_true rfl)) hrm ⟨Nat.le_of_ble_eq_true rfl, Nat.le_of_ble_eq_true rfl⟩ (fun x35 h => ?_)
    refine y_istore (lv' := [(5, .int x35), (4, .int x34), (3, .int x32), (0, va_rf (some a0)), (1, .int v1), (2, .int v2)]) hg dX11_ages_72 (by rw [hgN]; decide) rfl ?_
    refine y_iload hg 1 dX11_ages_74 rfl ?_
    refine y_iload hg 0 dX11_ages_76 rfl ?_
    refine y_icmp_gt (tgt := 95) hg dX11_ages_78 (by decide) (fun q36 => ?_) (fun q36 => ?_)
    · replace h := h.1 q36
      refine y_iload_n hg 2 dX11_ages_95 rfl rfl ?_
      refine y_iload hg 1 dX11_ages_96 rfl ?_
      refine y_icmp_ge (tgt := 107) hg dX11_ages_98 (by decide) (fun q37 => ?_) (fun q37 => ?_)
      · replace h := h.1 q37
        refine y_sub [3, 4, 2] rfl ?_
        exact J107 _ _ _ h
      · replace h := h.2 q37
        refine y_iload_n hg 2 dX11_ages_101 rfl rfl ?_
        refine y_iload hg 0 dX11_ages_102 rfl ?_
        refine y_icmp_gt (tgt := 139) hg dX11_ages_104 (by decide) (fun q38 => ?_) (fun q38 => ?_)
        · replace h := h.1 q38
          refine y_sub [3, 4, 2] rfl ?_
          exact J139 _ _ _ h
        · replace h := h.2 q38
          refine y_sub [3, 4, 2] rfl ?_
          exact J107 _ _ _ h
    · replace h := h.2 q36
      refine y_iload_n hg 2 dX11_ages_81 rfl rfl ?_
      refine y_iload hg 1 dX11_ages_82 rfl ?_
      refine y_iload hg 0 dX11_ages_84 rfl ?_
      refine ySIP (Qp := _) (rest := []) (As := [.int x32, .int x34, .int x35]) hg (k_X11_isIn (gL g.1) (gD g.1) x32 x34 x35 σ29 _ h) ls_X11_194 rfl rfl dX11_ages_86 (cat8 (Nat.le_of_ble_eq_true rfl)) hrm ⟨Nat.le_of_ble_eq_true rfl, Nat.le_of_ble_eq_true rfl⟩ (fun x39 h => ?_)
      refine y_if_eq (tgt := 139) hg dX11_ages_89 (by decide) (fun q40 => ?_) (fun q40 => ?_)
      · replace h := h.1 q40
        refine y_sub [3, 4, 2] rfl ?_
        exact J139 _ _ _ h
      · replace h := h.2 q40
        refine y_goto (tgt := 107) hg dX11_ages_92 (by decide) ?_
        refine y_sub [3, 4, 2] rfl ?_
        exact J107 _ _ _ h
  have J19 : ∀ (v1 : Int32) (v2 : Int32) (σ : Sg), P_X11_ages_B19 a0 v1 v2 σ Q → XA g 19 [(0, va_rf (some a0)), (1, .int v1), (2, .int v2)] [] σ (0, 0) := by
    intro v1 v2 σ h
    unfold P_X11_ages_B19 at h
    refine y_aload_n hg 0 dX11_ages_19 rfl rfl ?_
    obtain ⟨h10, h⟩ := h
    refine y_getR hg fl_X11_32 rfl rfl h10 dX11_ages_20 ?_
    refine y_iload_n hg 1 dX11_ages_23 rfl rfl ?_
    obtain ⟨c11, h12, h⟩ := h
    obtain ⟨h13, h⟩ := h
    obtain ⟨h14, h⟩ := h
    refine y_zald hg h12 h13 h14 dX11_ages_24 ?_
    refine y_if_ne (tgt := 32) hg dX11_ages_25 (by decide) (fun q15 => ?_) (fun q15 => ?_)
    · replace h := h.2 q15
      refine y_sub [0, 1, 2] rfl ?_
      exact J32 _ _ _ h
    · replace h := h.1 q15
      refine y_iload_n hg 2 dX11_ages_28 rfl rfl ?_
      refine y_iconst (v := 2) hg dX11_ages_29 (by decide) ?_
      refine y_imul hg dX11_ages_30 ?_
      refine y_nmI (fun x16 e17 => ?_)
      replace h := h x16 e17
      refine y_istore_n (lv' := [(2, .int x16), (0, va_rf (some a0)), (1, .int v1)]) hg dX11_ages_31 rfl (by rw [hgN]; decide) rfl ?_
      refine y_sub [1, 2, 0] rfl ?_
      exact J32 _ _ _ h
  refine y_aload_n hg 0 dX11_ages_0 rfl rfl ?_
  refine y_iconst (v := 0) hg dX11_ages_1 (by decide) ?_
  obtain ⟨h1, h⟩ := h
  refine yVIP (Qp := _) (rest := []) (As := [.int 0]) hg (k_X11_now (gL g.1) (gD g.1) a0 0 σ _ h) lv_X11_209 rfl h1 rfl rfl dX11_ages_2 (cat8 (Nat.le_of_ble_eq_true rfl)) hrm ⟨Nat.le_of_ble_eq_true rfl, Nat.le_of_ble_eq_true rfl⟩ (fun x2 h => ?_)
  refine y_istore_n (lv' := [(2, .int x2), (0, va_rf (some a0)), (1, .int v1)]) hg dX11_ages_5 rfl (by rw [hgN]; decide) rfl ?_
  refine y_aload_n hg 1 dX11_ages_6 rfl rfl ?_
  refine y_getR hg fl_X11_29 rfl rfl h1 dX11_ages_7 ?_
  refine y_iload_n hg 2 dX11_ages_10 rfl rfl ?_
  obtain ⟨c3, h4, h⟩ := h
  obtain ⟨h5, h⟩ := h
  obtain ⟨h6, h⟩ := h
  refine y_zald hg h4 h5 h6 dX11_ages_11 ?_
  refine y_if_eq (tgt := 19) hg dX11_ages_12 (by decide) (fun q7 => ?_) (fun q7 => ?_)
  · replace h := h.1 q7
    refine y_sub [1, 2, 0] rfl ?_
    exact J19 _ _ _ h
  · replace h := h.2 q7
    refine y_iload_n hg 0 dX11_ages_15 rfl rfl ?_
    refine y_iconst (v := 2) hg dX11_ages_16 (by decide) ?_
    refine y_idiv hg dX11_ages_17 (by decide) ?_
    refine y_nmI (fun x8 e9 => ?_)
    replace h := h x8 e9
    refine y_istore_n (lv' := [(2, .int x8), (0, va_rf (some a0)), (1, .int v1)]) hg dX11_ages_18 rfl (by rw [hgN]; decide) rfl ?_
    refine y_sub [1, 2, 0] rfl ?_
    exact J19 _ _ _ h
def P_X11_isTurn_B67 (a0 : Nat) (σ : Sg) (Q : Int32 → Prop) : Prop :=
  Q 0
def P_X11_isTurn (a0 : Nat) (v1 : Int32) (v2 : Int32) (σ : Sg) (Q : Int32 → Prop) : Prop :=
  sK σ a0 % 32 = 13 ∧ ∃ c2 : Nat, sR σ a0 70 = some c2 ∧ sK σ c2 % 32 = 16 ∧ vp_in v1 (sN σ c2) ∧ ((sI σ c2 v1.toNatClampNeg) = 30 → ∃ c7 : Nat, sR σ a0 71 = some c7 ∧ sK σ c7 % 32 = 16 ∧ vp_in v1 (sN σ c7) ∧ (10 ≤ (sI σ c7 v1.toNatClampNeg) → P_X11_isTurn_B67 a0 σ Q) ∧ (¬ (10 ≤ (sI σ c7 v1.toNatClampNeg)) → ∃ c12 : Nat, sR σ a0 72 = some c12 ∧ sK σ c12 % 32 = 16 ∧ vp_in v1 (sN σ c12) ∧ ((sI σ a0 1) ≤ (sI σ c12 v1.toNatClampNeg) → P_X11_isTurn_B67 a0 σ Q) ∧ (¬ ((sI σ a0 1) ≤ (sI σ c12 v1.toNatClampNeg)) → ∃ c17 : Nat, sR σ a0 74 = some c17 ∧ sK σ c17 % 32 = 16 ∧ vp_in v1 (sN σ c17) ∧ (v2 < (sI σ c17 v1.toNatClampNeg) → P_X11_isTurn_B67 a0 σ Q) ∧ (¬ (v2 < (sI σ c17 v1.toNatClampNeg)) → ∃ c22 : Nat, sR σ a0 74 = some c22 ∧ sK σ c22 % 32 = 16 ∧ vp_in v1 (sN σ c22) ∧ ∃ c26 : Nat, sR σ a0 73 = some c26 ∧ sK σ c26 % 32 = 16 ∧ vp_in v1 (sN σ c26) ∧ ¬ sI σ c26 v1.toNatClampNeg = 0 ∧ (((v2 - (sI σ c22 v1.toNatClampNeg)) - (v2 - (sI σ c22 v1.toNatClampNeg)) / (sI σ c26 v1.toNatClampNeg) * (sI σ c26 v1.toNatClampNeg)) = 0 → Q 1) ∧ (¬ (((v2 - (sI σ c22 v1.toNatClampNeg)) - (v2 - (sI σ c22 v1.toNatClampNeg)) / (sI σ c26 v1.toNatClampNeg) * (sI σ c26 v1.toNatClampNeg)) = 0) → P_X11_isTurn_B67 a0 σ Q))))) ∧ (¬ ((sI σ c2 v1.toNatClampNeg) = 30) → P_X11_isTurn_B67 a0 σ Q)
set_option maxHeartbeats 4000000 in
set_option maxRecDepth 100000 in
theorem k_X11_isTurn (l : Launch) (D : Dg) (a0 : Nat) (v1 : Int32) (v2 : Int32) (σ : Sg) (Q : Int32 → Prop) (h : P_X11_isTurn a0 v1 v2 σ Q) : CtrY RN l D yX11_isTurn cX11_isTurn 3 (some FieldType.boolean) 0 0 mkI [.ref a0, .int v1, .int v2] σ (0, 0) (fun r σ2 => Q r ∧ σ2 = σ) := by
  refine y_ctrN (lv := [(0, va_rf (some a0)), (1, .int v1), (2, .int v2)]) (by decide) (by (exact Nat.le_of_ble_eq_true rfl)) (by (exact rfl)) (fun g hg hgL hgD hrm hgN hgI hend => ?_)
  subst hgD
  clear hgL
  unfold P_X11_isTurn at h
  have J67 : P_X11_isTurn_B67 a0 σ Q → XA g 67 [(0, va_rf (some a0))] [] σ (0, 0) := by
    intro  h
    unfold P_X11_isTurn_B67 at h
    refine y_iconst (v := 0) hg dX11_isTurn_67 (by decide) ?_
    exact yEndI hend (bz_nar (Or.inl rfl)).1 dX11_isTurn_68 ⟨h, rfl⟩
  refine y_aload_n hg 0 dX11_isTurn_0 rfl rfl ?_
  obtain ⟨h1, h⟩ := h
  refine y_getR hg fl_X11_165 rfl rfl h1 dX11_isTurn_1 ?_
  refine y_iload_n hg 1 dX11_isTurn_4 rfl rfl ?_
  obtain ⟨c2, h3, h⟩ := h
  obtain ⟨h4, h⟩ := h
  obtain ⟨h5, h⟩ := h
  refine y_iald hg h3 h4 h5 dX11_isTurn_5 ?_
  refine y_bipush (v := 30) hg dX11_isTurn_6 (by decide) ?_
  refine y_icmp_ne (tgt := 67) hg dX11_isTurn_8 (by decide) (fun q6 => ?_) (fun q6 => ?_)
  · replace h := h.2 q6
    refine y_sub [0] rfl ?_
    exact J67  h
  · replace h := h.1 q6
    refine y_aload_n hg 0 dX11_isTurn_11 rfl rfl ?_
    refine y_getR hg fl_X11_168 rfl rfl h1 dX11_isTurn_12 ?_
    refine y_iload_n hg 1 dX11_isTurn_15 rfl rfl ?_
    obtain ⟨c7, h8, h⟩ := h
    obtain ⟨h9, h⟩ := h
    obtain ⟨h10, h⟩ := h
    refine y_iald hg h8 h9 h10 dX11_isTurn_16 ?_
    refine y_bipush (v := 10) hg dX11_isTurn_17 (by decide) ?_
    refine y_icmp_ge (tgt := 67) hg dX11_isTurn_19 (by decide) (fun q11 => ?_) (fun q11 => ?_)
    · replace h := h.1 q11
      refine y_sub [0] rfl ?_
      exact J67  h
    · replace h := h.2 q11
      refine y_aload_n hg 0 dX11_isTurn_22 rfl rfl ?_
      refine y_getR hg fl_X11_171 rfl rfl h1 dX11_isTurn_23 ?_
      refine y_iload_n hg 1 dX11_isTurn_26 rfl rfl ?_
      obtain ⟨c12, h13, h⟩ := h
      obtain ⟨h14, h⟩ := h
      obtain ⟨h15, h⟩ := h
      refine y_iald hg h13 h14 h15 dX11_isTurn_27 ?_
      refine y_aload_n hg 0 dX11_isTurn_28 rfl rfl ?_
      refine y_getI hg fl_X11_191 rfl rfl h1 dX11_isTurn_29 ?_
      refine y_icmp_ge (tgt := 67) hg dX11_isTurn_32 (by decide) (fun q16 => ?_) (fun q16 => ?_)
      · replace h := h.1 q16
        refine y_sub [0] rfl ?_
        exact J67  h
      · replace h := h.2 q16
        refine y_iload_n hg 2 dX11_isTurn_35 rfl rfl ?_
        refine y_aload_n hg 0 dX11_isTurn_36 rfl rfl ?_
        refine y_getR hg fl_X11_177 rfl rfl h1 dX11_isTurn_37 ?_
        refine y_iload_n hg 1 dX11_isTurn_40 rfl rfl ?_
        obtain ⟨c17, h18, h⟩ := h
        obtain ⟨h19, h⟩ := h
        obtain ⟨h20, h⟩ := h
        refine y_iald hg h18 h19 h20 dX11_isTurn_41 ?_
        refine y_icmp_lt (tgt := 67) hg dX11_isTurn_42 (by decide) (fun q21 => ?_) (fun q21 => ?_)
        · replace h := h.1 q21
          refine y_sub [0] rfl ?_
          exact J67  h
        · replace h := h.2 q21
          refine y_iload_n hg 2 dX11_isTurn_45 rfl rfl ?_
          refine y_aload_n hg 0 dX11_isTurn_46 rfl rfl ?_
          refine y_getR hg fl_X11_177 rfl rfl h1 dX11_isTurn_47 ?_
          refine y_iload_n hg 1 dX11_isTurn_50 rfl rfl ?_
          obtain ⟨c22, h23, h⟩ := h
          obtain ⟨h24, h⟩ := h
          obtain ⟨h25, h⟩ := h
          refine y_iald hg h23 h24 h25 dX11_isTurn_51 ?_
          refine y_isub hg dX11_isTurn_52 ?_
          refine y_aload_n hg 0 dX11_isTurn_53 rfl rfl ?_
          refine y_getR hg fl_X11_174 rfl rfl h1 dX11_isTurn_54 ?_
          refine y_iload_n hg 1 dX11_isTurn_57 rfl rfl ?_
          obtain ⟨c26, h27, h⟩ := h
          obtain ⟨h28, h⟩ := h
          obtain ⟨h29, h⟩ := h
          refine y_iald hg h27 h28 h29 dX11_isTurn_58 ?_
          obtain ⟨h30, h⟩ := h
          refine y_irem hg dX11_isTurn_59 h30 ?_
          refine y_if_ne (tgt := 67) hg dX11_isTurn_60 (by decide) (fun q31 => ?_) (fun q31 => ?_)
          · replace h := h.2 q31
            refine y_sub [0] rfl ?_
            exact J67  h
          · replace h := h.1 q31
            refine y_iconst (v := 1) hg dX11_isTurn_63 (by decide) ?_
            refine y_goto (tgt := 68) hg dX11_isTurn_64 (by decide) ?_
            exact yEndI hend (bz_nar (Or.inr rfl)).1 dX11_isTurn_68 ⟨h, rfl⟩
def P_X11_turns_B139 (a0 : Nat) (v1 : Int32) (v2 : Int32) (σ : Sg) (Q : Unit → Sg → Prop) (K14 : Int32 → Sg → Prop) : Prop :=
  ∀ x58 : Int32, x58 = v2 + 1 → K14 x58 σ
def P_X11_turns_L14b (a0 : Nat) (v1 : Int32) (v2 : Int32) (σ : Sg) (Q : Unit → Sg → Prop) (K14 : Int32 → Sg → Prop) : Prop :=
  (v1 = (-1) → Q () σ) ∧ (¬ (v1 = (-1)) → sK σ a0 % 32 = 13 ∧ ∃ c7 : Nat, sR σ a0 68 = some c7 ∧ sK σ c7 % 32 = 16 ∧ vp_in v1 (sN σ c7) ∧ (((24 * v1) + (sI σ c7 v1.toNatClampNeg)) ≤ v2 → Q () σ) ∧ (¬ (((24 * v1) + (sI σ c7 v1.toNatClampNeg)) ≤ v2) → P_X11_isTurn a0 v2 (sI σ a0 0) σ (fun x12 => (x12 = 0 → P_X11_turns_B139 a0 v1 v2 σ Q K14) ∧ (¬ (x12 = 0) → ∃ c14 : Nat, sR σ a0 72 = some c14 ∧ sK σ c14 % 32 = 16 ∧ vp_in v2 (sN σ c14) ∧ P_X11_isBed a0 (sI σ c14 v2.toNatClampNeg) σ (fun x18 => (x18 = 0 → P_X11_turns_B139 a0 v1 v2 σ Q K14) ∧ (¬ (x18 = 0) → ∃ c20 : Nat, sR σ a0 72 = some c20 ∧ sK σ c20 % 32 = 16 ∧ vp_in v2 (sN σ c20) ∧ ∃ c24 : Nat, sR σ a0 71 = some c24 ∧ sK σ c24 % 32 = 16 ∧ vp_in v2 (sN σ c24) ∧ ∃ c28 : Nat, sR σ a0 24 = some c28 ∧ sK σ c28 % 32 = 16 ∧ vp_in ((11 * (sI σ c20 v2.toNatClampNeg)) + (sI σ c24 v2.toNatClampNeg)) (sN σ c28) ∧ ((sI σ c28 ((11 * (sI σ c20 v2.toNatClampNeg)) + (sI σ c24 v2.toNatClampNeg)).toNatClampNeg) = (sI σ a0 0) → ∃ c46 : Nat, sR σ a0 71 = some c46 ∧ sK σ c46 % 32 = 16 ∧ vp_in v2 (sN σ c46) ∧ ∃ c50 : Nat, sR σ a0 34 = some c50 ∧ sK σ c50 % 32 = 16 ∧ vp_in ((10 * ((sI σ a0 0) / 365)) + (sI σ c46 v2.toNatClampNeg)) (sN σ c50) ∧ vp_in ((10 * ((sI σ a0 0) / 365)) + (sI σ c46 v2.toNatClampNeg)) (sN σ c50) ∧ ∀ σ55 : Sg, σ55 = pI σ c50 ((10 * ((sI σ a0 0) / 365)) + (sI σ c46 v2.toNatClampNeg)).toNatClampNeg ((sI σ c50 ((10 * ((sI σ a0 0) / 365)) + (sI σ c46 v2.toNatClampNeg)).toNatClampNeg) + 1) → P_X11_turns_B139 a0 v1 v2 σ55 Q K14) ∧ (¬ ((sI σ c28 ((11 * (sI σ c20 v2.toNatClampNeg)) + (sI σ c24 v2.toNatClampNeg)).toNatClampNeg) = (sI σ a0 0)) → ∃ c33 : Nat, sR σ a0 71 = some c33 ∧ sK σ c33 % 32 = 16 ∧ vp_in v2 (sN σ c33) ∧ ∃ c37 : Nat, sR σ a0 33 = some c37 ∧ sK σ c37 % 32 = 16 ∧ vp_in (sI σ c33 v2.toNatClampNeg) (sN σ c37) ∧ P_X11_now a0 3 σ (fun x41 => vp_in (sI σ c33 v2.toNatClampNeg) (sN σ c37) ∧ ∀ σ43 : Sg, σ43 = pI σ c37 (sI σ c33 v2.toNatClampNeg).toNatClampNeg ((sI σ c37 (sI σ c33 v2.toNatClampNeg).toNatClampNeg) + x41) → P_X11_turns_B139 a0 v1 v2 σ43 Q K14))))))))
def P_X11_turns_L14 (a0 : Nat) (v1 : Int32) (v2 : Int32) (σ : Sg) (Q : Unit → Sg → Prop) : Prop :=
  ∃ I : Nat → Int32 → Sg → Prop, (∃ n, I n v2 σ) ∧ ∀ (n : Nat) (v2 : Int32) (σ : Sg), I n v2 σ → P_X11_turns_L14b a0 v1 v2 σ Q (fun v2 σ => ∃ n', n' < n ∧ I n' v2 σ)
def P_X11_turns (a0 : Nat) (σ : Sg) (Q : Unit → Sg → Prop) : Prop :=
  sK σ a0 % 32 = 13 ∧ P_X11_inForce a0 (sI σ a0 0) σ (fun x2 => ∀ x3 : Int32, x3 = 24 * x2 → P_X11_turns_L14 a0 x2 x3 σ Q)
set_option maxHeartbeats 4000000 in
set_option maxRecDepth 100000 in
theorem k_X11_turns (l : Launch) (D : Dg) (a0 : Nat) (σ : Sg) (Q : Unit → Sg → Prop) (h : P_X11_turns a0 σ Q) : CtrY RN l D yX11_turns cX11_turns 3 (none) 3 69 mkV [.ref a0] σ (0, 0) Q := by
  refine y_ctrN (lv := [(0, va_rf (some a0))]) (by decide) (by (exact Nat.le_of_ble_eq_true rfl)) (by (exact rfl)) (fun g hg hgL hgD hrm hgN hgI hend => ?_)
  subst hgD
  clear hgL
  unfold P_X11_turns at h
  have J14 : ∀ (v1 : Int32) (v2 : Int32) (σ : Sg), P_X11_turns_L14 a0 v1 v2 σ Q → XA g 14 [(0, va_rf (some a0)), (1, .int v1), (2, .int v2)] [] σ (0, 0) := by
    intro v1 v2 σ h
    unfold P_X11_turns_L14 at h
    obtain ⟨I14, ⟨n14, hI14⟩, hs14⟩ := h
    have key14 : ∀ (n : Nat), ∀ (v2 : Int32) (σ : Sg), I14 n v2 σ → XA g 14 [(0, va_rf (some a0)), (1, .int v1), (2, .int v2)] [] σ (0, 0) := by
      intro n
      induction n using Nat.strongRecOn with
      | _ n ih14 =>
      intro v2 σ hI
      have h := hs14 n v2 σ hI
      clear hI hI14 hs14
      obtain ⟨K14, hK14⟩ : ∃ K : Int32 → Sg → Prop, K = (fun v2 σ => ∃ n', n' < n ∧ I14 n' v2 σ) := ⟨_, rfl⟩
      rw [← hK14] at h
      unfold P_X11_turns_L14b at h
      have J139 : ∀ (v2 : Int32) (σ : Sg), P_X11_turns_B139 a0 v1 v2 σ Q K14 → XA g 139 [(0, va_rf (some a0)), (1, .int v1), (2, .int v2)] [] σ (0, 0) := by
        intro v2 σ h
        unfold P_X11_turns_B139 at h
        obtain ⟨x58, e59⟩ : ∃ y : Int32, y = v2 + 1 := ⟨_, rfl⟩
        replace h := h x58 e59
        refine y_iinc (v := x58) (lv' := [(2, .int x58), (0, va_rf (some a0)), (1, .int v1)]) hg 2 dX11_turns_139 rfl (by rw [e59]; rfl) (by rw [hgN]; decide) rfl ?_
        refine y_goto (tgt := 14) hg dX11_turns_142 (by decide) ?_
        refine y_sub [1, 2, 0] rfl ?_
        subst hK14
        obtain ⟨n60, h61, h⟩ := h
        exact ih14 n60 h61 _ _ h
      refine y_iload_n hg 1 dX11_turns_14 rfl rfl ?_
      refine y_iconst (v := (-1)) hg dX11_turns_15 (by decide) ?_
      refine y_icmp_eq (tgt := 145) hg dX11_turns_16 (by decide) (fun q5 => ?_) (fun q5 => ?_)
      · replace h := h.1 q5
        exact yEndV hend dX11_turns_145 h
      · replace h := h.2 q5
        refine y_iload_n hg 2 dX11_turns_19 rfl rfl ?_
        refine y_bipush (v := 24) hg dX11_turns_20 (by decide) ?_
        refine y_iload_n hg 1 dX11_turns_22 rfl rfl ?_
        refine y_imul hg dX11_turns_23 ?_
        refine y_aload_n hg 0 dX11_turns_24 rfl rfl ?_
        obtain ⟨h6, h⟩ := h
        refine y_getR hg fl_X11_159 rfl rfl h6 dX11_turns_25 ?_
        refine y_iload_n hg 1 dX11_turns_28 rfl rfl ?_
        obtain ⟨c7, h8, h⟩ := h
        obtain ⟨h9, h⟩ := h
        obtain ⟨h10, h⟩ := h
        refine y_iald hg h8 h9 h10 dX11_turns_29 ?_
        refine y_iadd hg dX11_turns_30 ?_
        refine y_icmp_ge (tgt := 145) hg dX11_turns_31 (by decide) (fun q11 => ?_) (fun q11 => ?_)
        · replace h := h.1 q11
          exact yEndV hend dX11_turns_145 h
        · replace h := h.2 q11
          refine y_aload_n hg 0 dX11_turns_34 rfl rfl ?_
          refine y_iload_n hg 2 dX11_turns_35 rfl rfl ?_
          refine y_aload_n hg 0 dX11_turns_36 rfl rfl ?_
          refine y_getI hg fl_X11_212 rfl rfl h6 dX11_turns_37 ?_
          refine yVIP (Qp := _) (rest := []) (As := [.int v2, .int (sI σ a0 0)]) hg (k_X11_isTurn (gL g.1) (gD g.1) a0 v2 (sI σ a0 0) σ _ h) lv_X11_243 rfl h6 rfl rfl dX11_turns_40 (cat8 (Nat.le_of_ble_eq_true rfl)) hrm ⟨Nat.le_of_ble_eq_true rfl, Nat.le_of_ble_eq_true rfl⟩ (fun x12 h => ?_)
          refine y_if_eq (tgt := 139) hg dX11_turns_43 (by decide) (fun q13 => ?_) (fun q13 => ?_)
          · replace h := h.1 q13
            refine y_sub [0, 1, 2] rfl ?_
            exact J139 _ _ h
          · replace h := h.2 q13
            refine y_aload_n hg 0 dX11_turns_46 rfl rfl ?_
            refine y_aload_n hg 0 dX11_turns_47 rfl rfl ?_
            refine y_getR hg fl_X11_171 rfl rfl h6 dX11_turns_48 ?_
            refine y_iload_n hg 2 dX11_turns_51 rfl rfl ?_
            obtain ⟨c14, h15, h⟩ := h
            obtain ⟨h16, h⟩ := h
            obtain ⟨h17, h⟩ := h
            refine y_iald hg h15 h16 h17 dX11_turns_52 ?_
            refine yVIP (Qp := _) (rest := []) (As := [.int (sI σ c14 v2.toNatClampNeg)]) hg (k_X11_isBed (gL g.1) (gD g.1) a0 (sI σ c14 v2.toNatClampNeg) σ _ h) lv_X11_219 rfl h6 rfl rfl dX11_turns_53 (cat8 (Nat.le_of_ble_eq_true rfl)) hrm ⟨Nat.le_of_ble_eq_true rfl, Nat.le_of_ble_eq_true rfl⟩ (fun x18 h => ?_)
            refine y_if_ne (tgt := 62) hg dX11_turns_56 (by decide) (fun q19 => ?_) (fun q19 => ?_)
            · replace h := h.2 q19
              refine y_aload_n hg 0 dX11_turns_62 rfl rfl ?_
              refine y_getR hg fl_X11_62 rfl rfl h6 dX11_turns_63 ?_
              refine y_bipush (v := 11) hg dX11_turns_66 (by decide) ?_
              refine y_aload_n hg 0 dX11_turns_68 rfl rfl ?_
              refine y_getR hg fl_X11_171 rfl rfl h6 dX11_turns_69 ?_
              refine y_iload_n hg 2 dX11_turns_72 rfl rfl ?_
              obtain ⟨c20, h21, h⟩ := h
              obtain ⟨h22, h⟩ := h
              obtain ⟨h23, h⟩ := h
              refine y_iald hg h21 h22 h23 dX11_turns_73 ?_
              refine y_imul hg dX11_turns_74 ?_
              refine y_aload_n hg 0 dX11_turns_75 rfl rfl ?_
              refine y_getR hg fl_X11_168 rfl rfl h6 dX11_turns_76 ?_
              refine y_iload_n hg 2 dX11_turns_79 rfl rfl ?_
              obtain ⟨c24, h25, h⟩ := h
              obtain ⟨h26, h⟩ := h
              obtain ⟨h27, h⟩ := h
              refine y_iald hg h25 h26 h27 dX11_turns_80 ?_
              refine y_iadd hg dX11_turns_81 ?_
              obtain ⟨c28, h29, h⟩ := h
              obtain ⟨h30, h⟩ := h
              obtain ⟨h31, h⟩ := h
              refine y_iald hg h29 h30 h31 dX11_turns_82 ?_
              refine y_aload_n hg 0 dX11_turns_83 rfl rfl ?_
              refine y_getI hg fl_X11_212 rfl rfl h6 dX11_turns_84 ?_
              refine y_icmp_ne (tgt := 120) hg dX11_turns_87 (by decide) (fun q32 => ?_) (fun q32 => ?_)
              · replace h := h.2 q32
                refine y_aload_n hg 0 dX11_turns_120 rfl rfl ?_
                refine y_getR hg fl_X11_89 rfl rfl h6 dX11_turns_121 ?_
                refine y_aload_n hg 0 dX11_turns_124 rfl rfl ?_
                refine y_getR hg fl_X11_168 rfl rfl h6 dX11_turns_125 ?_
                refine y_iload_n hg 2 dX11_turns_128 rfl rfl ?_
                obtain ⟨c33, h34, h⟩ := h
                obtain ⟨h35, h⟩ := h
                obtain ⟨h36, h⟩ := h
                refine y_iald hg h34 h35 h36 dX11_turns_129 ?_
                refine y_dup2 hg dX11_turns_130 rfl (rf_cat _) ?_
                obtain ⟨c37, h38, h⟩ := h
                obtain ⟨h39, h⟩ := h
                obtain ⟨h40, h⟩ := h
                refine y_iald hg h38 h39 h40 dX11_turns_131 ?_
                refine y_aload_n hg 0 dX11_turns_132 rfl rfl ?_
                refine y_iconst (v := 3) hg dX11_turns_133 (by decide) ?_
                refine yVIP (Qp := _) (rest := [.int (sI σ c37 (sI σ c33 v2.toNatClampNeg).toNatClampNeg), .int (sI σ c33 v2.toNatClampNeg), va_rf (sR σ a0 33)]) (As := [.int 3]) hg (k_X11_now (gL g.1) (gD g.1) a0 3 σ _ h) lv_X11_209 rfl h6 rfl rfl dX11_turns_134 (cat8 (Nat.le_of_ble_eq_true rfl)) hrm ⟨Nat.le_of_ble_eq_true rfl, Nat.le_of_ble_eq_true rfl⟩ (fun x41 h => ?_)
                refine y_iadd hg dX11_turns_137 ?_
                obtain ⟨h42, h⟩ := h
                refine y_iast hg h38 h39 h42 dX11_turns_138 ?_
                refine y_nmS (fun σ43 e44 => ?_)
                replace h := h σ43 e44
                have E45 : sK σ43 = sK σ := by rw [e44]; rfl
                refine y_sub [0, 1, 2] rfl ?_
                exact J139 _ _ h
              · replace h := h.1 q32
                refine y_aload_n hg 0 dX11_turns_90 rfl rfl ?_
                refine y_getR hg fl_X11_92 rfl rfl h6 dX11_turns_91 ?_
                refine y_bipush (v := 10) hg dX11_turns_94 (by decide) ?_
                refine y_aload_n hg 0 dX11_turns_96 rfl rfl ?_
                refine y_getI hg fl_X11_212 rfl rfl h6 dX11_turns_97 ?_
                refine y_sipush (v := 365) hg dX11_turns_100 (by decide) ?_
                refine y_idiv hg dX11_turns_103 (by decide) ?_
                refine y_imul hg dX11_turns_104 ?_
                refine y_aload_n hg 0 dX11_turns_105 rfl rfl ?_
                refine y_getR hg fl_X11_168 rfl rfl h6 dX11_turns_106 ?_
                refine y_iload_n hg 2 dX11_turns_109 rfl rfl ?_
                obtain ⟨c46, h47, h⟩ := h
                obtain ⟨h48, h⟩ := h
                obtain ⟨h49, h⟩ := h
                refine y_iald hg h47 h48 h49 dX11_turns_110 ?_
                refine y_iadd hg dX11_turns_111 ?_
                refine y_dup2 hg dX11_turns_112 rfl (rf_cat _) ?_
                obtain ⟨c50, h51, h⟩ := h
                obtain ⟨h52, h⟩ := h
                obtain ⟨h53, h⟩ := h
                refine y_iald hg h51 h52 h53 dX11_turns_113 ?_
                refine y_iconst (v := 1) hg dX11_turns_114 (by decide) ?_
                refine y_iadd hg dX11_turns_115 ?_
                obtain ⟨h54, h⟩ := h
                refine y_iast hg h51 h52 h54 dX11_turns_116 ?_
                refine y_nmS (fun σ55 e56 => ?_)
                replace h := h σ55 e56
                have E57 : sK σ55 = sK σ := by rw [e56]; rfl
                refine y_goto (tgt := 139) hg dX11_turns_117 (by decide) ?_
                refine y_sub [0, 1, 2] rfl ?_
                exact J139 _ _ h
            · replace h := h.1 q19
              refine y_goto (tgt := 139) hg dX11_turns_59 (by decide) ?_
              refine y_sub [0, 1, 2] rfl ?_
              exact J139 _ _ h
    exact key14 n14 v2 σ hI14
  refine y_aload_n hg 0 dX11_turns_0 rfl rfl ?_
  refine y_aload_n hg 0 dX11_turns_1 rfl rfl ?_
  obtain ⟨h1, h⟩ := h
  refine y_getI hg fl_X11_212 rfl rfl h1 dX11_turns_2 ?_
  refine yVIP (Qp := _) (rest := []) (As := [.int (sI σ a0 0)]) hg (k_X11_inForce (gL g.1) (gD g.1) a0 (sI σ a0 0) σ _ h) lv_X11_240 rfl h1 rfl rfl dX11_turns_5 (cat8 (Nat.le_of_ble_eq_true rfl)) hrm ⟨Nat.le_of_ble_eq_true rfl, Nat.le_of_ble_eq_true rfl⟩ (fun x2 h => ?_)
  refine y_istore_n (lv' := [(1, .int x2), (0, va_rf (some a0))]) hg dX11_turns_8 rfl (by rw [hgN]; decide) rfl ?_
  refine y_bipush (v := 24) hg dX11_turns_9 (by decide) ?_
  refine y_iload_n hg 0 dX11_turns_11 rfl rfl ?_
  refine y_imul hg dX11_turns_12 ?_
  refine y_nmI (fun x3 e4 => ?_)
  replace h := h x3 e4
  refine y_istore_n (lv' := [(2, .int x3), (1, .int x2), (0, va_rf (some a0))]) hg dX11_turns_13 rfl (by rw [hgN]; decide) rfl ?_
  refine y_sub [2, 1, 0] rfl ?_
  exact J14 _ _ _ h
def P_X11_pass_L63b (a0 : Nat) (v1 : Int32) (v2 : Int32) (v3 : Int32) (σ : Sg) (Q : Int32 → Sg → Prop) (K26 : Int32 → Sg → Prop) (K63 : Int32 → Sg → Prop) : Prop :=
  sK σ a0 % 32 = 13 ∧ ((sI σ a0 2) ≤ v3 → P_X11_turns a0 σ (fun _ σ25 => ∀ σ28 : Sg, σ28 = pI σ25 a0 0 ((sI σ25 a0 0) + 1) → ∀ x31 : Int32, x31 = v2 + 1 → K26 x31 σ28)) ∧ (¬ ((sI σ a0 2) ≤ v3) → ∃ c35 : Nat, sR σ a0 29 = some c35 ∧ sK σ c35 % 32 = 16 ∧ vp_in v3 (sN σ c35) ∧ ∀ x39 : Int32, x39 = (if (sI σ c35 v3.toNatClampNeg) < (5 : Int32) then (sI σ c35 v3.toNatClampNeg) else (5 : Int32)) → ∃ c41 : Nat, sR σ a0 29 = some c41 ∧ sK σ c41 % 32 = 16 ∧ vp_in v3 (sN σ c41) ∧ vp_in v3 (sN σ c41) ∧ ∀ σ46 : Sg, σ46 = pI σ c41 v3.toNatClampNeg ((sI σ c41 v3.toNatClampNeg) - x39) → ∀ σ49 : Sg, σ49 = pL σ46 a0 39 ((sL σ46 a0 39) + x39.toInt64) → ∀ x52 : Int32, x52 = v3 + 1 → K63 x52 σ49)
def P_X11_pass_L63 (a0 : Nat) (v1 : Int32) (v2 : Int32) (v3 : Int32) (σ : Sg) (Q : Int32 → Sg → Prop) (K26 : Int32 → Sg → Prop) : Prop :=
  ∃ I : Nat → Int32 → Sg → Prop, (∃ n, I n v3 σ) ∧ ∀ (n : Nat) (v3 : Int32) (σ : Sg), I n v3 σ → P_X11_pass_L63b a0 v1 v2 v3 σ Q K26 (fun v3 σ => ∃ n', n' < n ∧ I n' v3 σ)
def P_X11_pass_B55 (a0 : Nat) (v1 : Int32) (v2 : Int32) (v3 : Int32) (σ : Sg) (Q : Int32 → Sg → Prop) (K26 : Int32 → Sg → Prop) (K33 : Int32 → Sg → Prop) : Prop :=
  ∀ x18 : Int32, x18 = v3 + 1 → K33 x18 σ
def P_X11_pass_L33b (a0 : Nat) (v1 : Int32) (v2 : Int32) (v3 : Int32) (σ : Sg) (Q : Int32 → Sg → Prop) (K26 : Int32 → Sg → Prop) (K33 : Int32 → Sg → Prop) : Prop :=
  sK σ a0 % 32 = 13 ∧ ((sI σ a0 1) ≤ v3 → P_X11_pass_L63 a0 v1 v2 0 σ Q K26) ∧ (¬ ((sI σ a0 1) ≤ v3) → ∃ c9 : Nat, sR σ a0 12 = some c9 ∧ sK σ c9 % 32 = 18 ∧ vp_in v3 (sN σ c9) ∧ ((sI σ c9 v3.toNatClampNeg) = 0 → P_X11_pass_B55 a0 v1 v2 v3 σ Q K26 K33) ∧ (¬ ((sI σ c9 v3.toNatClampNeg) = 0) → P_X11_ages a0 v3 σ (fun _ σ15 => P_X11_pass_B55 a0 v1 v2 v3 σ15 Q K26 K33)))
def P_X11_pass_L33 (a0 : Nat) (v1 : Int32) (v2 : Int32) (v3 : Int32) (σ : Sg) (Q : Int32 → Sg → Prop) (K26 : Int32 → Sg → Prop) : Prop :=
  ∃ I : Nat → Int32 → Sg → Prop, (∃ n, I n v3 σ) ∧ ∀ (n : Nat) (v3 : Int32) (σ : Sg), I n v3 σ → P_X11_pass_L33b a0 v1 v2 v3 σ Q K26 (fun v3 σ => ∃ n', n' < n ∧ I n' v3 σ)
def P_X11_pass_L26b (a0 : Nat) (v1 : Int32) (v2 : Int32) (σ : Sg) (Q : Int32 → Sg → Prop) (K26 : Int32 → Sg → Prop) : Prop :=
  (v1 ≤ v2 → sK σ a0 % 32 = 13 ∧ Q (sI σ a0 0) σ) ∧ (¬ (v1 ≤ v2) → P_X11_pass_L33 a0 v1 v2 0 σ Q K26)
def P_X11_pass_L26 (a0 : Nat) (v1 : Int32) (v2 : Int32) (σ : Sg) (Q : Int32 → Sg → Prop) : Prop :=
  ∃ I : Nat → Int32 → Sg → Prop, (∃ n, I n v2 σ) ∧ ∀ (n : Nat) (v2 : Int32) (σ : Sg), I n v2 σ → P_X11_pass_L26b a0 v1 v2 σ Q (fun v2 σ => ∃ n', n' < n ∧ I n' v2 σ)
def P_X11_pass (a0 : Nat) (v1 : Int32) (σ : Sg) (Q : Int32 → Sg → Prop) : Prop :=
  P_X11_isIn v1 1 100 σ (fun x1 => (x1 = 0 → Q (-1) σ) ∧ (¬ (x1 = 0) → sK σ a0 % 32 = 13 ∧ ((sI σ a0 0) ≤ (3649 - v1) → P_X11_pass_L26 a0 v1 0 σ Q) ∧ (¬ ((sI σ a0 0) ≤ (3649 - v1)) → Q (-1) σ)))
set_option maxHeartbeats 4000000 in
set_option maxRecDepth 100000 in
theorem k_X11_pass (l : Launch) (D : Dg) (a0 : Nat) (v1 : Int32) (σ : Sg) (Q : Int32 → Sg → Prop) (h : P_X11_pass a0 v1 σ Q) : CtrY RN l D yX11_pass cX11_pass 5 (some FieldType.int) 4 95 mkI [.ref a0, .int v1] σ (0, 0) Q := by
  refine y_ctrN (lv := [(0, va_rf (some a0)), (1, .int v1)]) (by decide) (by (exact Nat.le_of_ble_eq_true rfl)) (by (exact rfl)) (fun g hg hgL hgD hrm hgN hgI hend => ?_)
  subst hgD
  clear hgL
  unfold P_X11_pass at h
  have J26 : ∀ (v1 : Int32) (v2 : Int32) (σ : Sg), P_X11_pass_L26 a0 v1 v2 σ Q → XA g 26 [(0, va_rf (some a0)), (1, .int v1), (2, .int v2)] [] σ (0, 0) := by
    intro v1 v2 σ h
    unfold P_X11_pass_L26 at h
    obtain ⟨I26, ⟨n26, hI26⟩, hs26⟩ := h
    have key26 : ∀ (n : Nat), ∀ (v2 : Int32) (σ : Sg), I26 n v2 σ → XA g 26 [(0, va_rf (some a0)), (1, .int v1), (2, .int v2)] [] σ (0, 0) := by
      intro n
      induction n using Nat.strongRecOn with
      | _ n ih26 =>
      intro v2 σ hI
      have h := hs26 n v2 σ hI
      clear hI hI26 hs26
      obtain ⟨K26, hK26⟩ : ∃ K : Int32 → Sg → Prop, K = (fun v2 σ => ∃ n', n' < n ∧ I26 n' v2 σ) := ⟨_, rfl⟩
      rw [← hK26] at h
      unfold P_X11_pass_L26b at h
      have J63 : ∀ (v2 : Int32) (v3 : Int32) (σ : Sg), P_X11_pass_L63 a0 v1 v2 v3 σ Q K26 → XA g 63 [(0, va_rf (some a0)), (1, .int v1), (2, .int v2), (3, .int v3)] [] σ (0, 0) := by
        intro v2 v3 σ h
        unfold P_X11_pass_L63 at h
        obtain ⟨I63, ⟨n63, hI63⟩, hs63⟩ := h
        have key63 : ∀ (n : Nat), ∀ (v3 : Int32) (σ : Sg), I63 n v3 σ → XA g 63 [(0, va_rf (some a0)), (1, .int v1), (2, .int v2), (3, .int v3)] [] σ (0, 0) := by
          intro n
          induction n using Nat.strongRecOn with
          | _ n ih63 =>
          intro v3 σ hI
          have h := hs63 n v3 σ hI
          clear hI hI63 hs63
          obtain ⟨K63, hK63⟩ : ∃ K : Int32 → Sg → Prop, K = (fun v3 σ => ∃ n', n' < n ∧ I63 n' v3 σ) := ⟨_, rfl⟩
          rw [← hK63] at h
          unfold P_X11_pass_L63b at h
          refine y_iload_n hg 3 dX11_pass_63 rfl rfl ?_
          refine y_aload_n hg 0 dX11_pass_64 rfl rfl ?_
          obtain ⟨h22, h⟩ := h
          refine y_getI hg fl_X11_202 rfl rfl h22 dX11_pass_65 ?_
          refine y_icmp_ge (tgt := 112) hg dX11_pass_68 (by decide) (fun q23 => ?_) (fun q23 => ?_)
          · replace h := h.1 q23
            refine y_aload_n hg 0 dX11_pass_112 rfl rfl ?_
            refine yVVW (Qm := _) (rest := []) (As := []) hg (k_X11_turns (gL g.1) (gD g.1) a0 σ _ h) lv_X11_254 rfl h22 rfl rfl dX11_pass_113 (cat8 (Nat.le_of_ble_eq_true rfl)) hrm ⟨Nat.le_of_ble_eq_true rfl, Nat.le_of_ble_eq_true rfl⟩ (fun u24 σ25 h h26 => ?_)
            have h27 := kp h26 (show ¬ 13 = 0 by decide) h22
            refine y_aload_n hg 0 dX11_pass_116 rfl rfl ?_
            refine y_dup hg dX11_pass_117 rfl ?_
            refine y_getI hg fl_X11_212 rfl rfl h27 dX11_pass_118 ?_
            refine y_iconst (v := 1) hg dX11_pass_121 (by decide) ?_
            refine y_iadd hg dX11_pass_122 ?_
            refine y_putI hg fw_X11_212 (fun z => nomatch z) rfl h27 dX11_pass_123 ?_
            refine y_nmS (fun σ28 e29 => ?_)
            replace h := h σ28 e29
            have E30 : sK σ28 = sK σ25 := by rw [e29]; rfl
            obtain ⟨x31, e32⟩ : ∃ y : Int32, y = v2 + 1 := ⟨_, rfl⟩
            replace h := h x31 e32
            refine y_iinc (v := x31) (lv' := [(2, .int x31), (0, va_rf (some a0)), (1, .int v1), (3, .int v3)]) hg 2 dX11_pass_126 rfl (by rw [e32]; rfl) (by rw [hgN]; decide) rfl ?_
            refine y_goto (tgt := 26) hg dX11_pass_129 (by decide) ?_
            refine y_sub [1, 2, 0] rfl ?_
            subst hK26
            obtain ⟨n33, h34, h⟩ := h
            exact ih26 n33 h34 _ _ h
          · replace h := h.2 q23
            refine y_iconst (v := 5) hg dX11_pass_71 (by decide) ?_
            refine y_aload_n hg 0 dX11_pass_72 rfl rfl ?_
            refine y_getR hg fl_X11_77 rfl rfl h22 dX11_pass_73 ?_
            refine y_iload_n hg 3 dX11_pass_76 rfl rfl ?_
            obtain ⟨c35, h36, h⟩ := h
            obtain ⟨h37, h⟩ := h
            obtain ⟨h38, h⟩ := h
            refine y_iald hg h36 h37 h38 dX11_pass_77 ?_
            refine y_mmin hg mm_X11_227 (cat8 (Nat.le_of_ble_eq_true rfl)) hrm ⟨Nat.le_of_ble_eq_true rfl, Nat.le_of_ble_eq_true rfl⟩ dX11_pass_78 ?_
            refine y_nmI (fun x39 e40 => ?_)
            replace h := h x39 e40
            refine y_istore (lv' := [(4, .int x39), (0, va_rf (some a0)), (1, .int v1), (2, .int v2), (3, .int v3)]) hg dX11_pass_81 (by rw [hgN]; decide) rfl ?_
            refine y_aload_n hg 1 dX11_pass_83 rfl rfl ?_
            refine y_getR hg fl_X11_77 rfl rfl h22 dX11_pass_84 ?_
            refine y_iload_n hg 4 dX11_pass_87 rfl rfl ?_
            refine y_dup2 hg dX11_pass_88 rfl (rf_cat _) ?_
            obtain ⟨c41, h42, h⟩ := h
            obtain ⟨h43, h⟩ := h
            obtain ⟨h44, h⟩ := h
            refine y_iald hg h42 h43 h44 dX11_pass_89 ?_
            refine y_iload hg 0 dX11_pass_90 rfl ?_
            refine y_isub hg dX11_pass_92 ?_
            obtain ⟨h45, h⟩ := h
            refine y_iast hg h42 h43 h45 dX11_pass_93 ?_
            refine y_nmS (fun σ46 e47 => ?_)
            replace h := h σ46 e47
            have E48 : sK σ46 = sK σ := by rw [e47]; rfl
            refine y_aload_n hg 1 dX11_pass_94 rfl rfl ?_
            refine y_dup hg dX11_pass_95 rfl ?_
            refine y_getL hg fl_X11_251 rfl rfl (kq E48 h22) dX11_pass_96 ?_
            refine y_iload hg 0 dX11_pass_99 rfl ?_
            refine y_i2l hg dX11_pass_101 ?_
            refine y_ladd hg dX11_pass_102 ?_
            refine y_putL hg fw_X11_251 (fun z => nomatch z) rfl (kq E48 h22) dX11_pass_103 ?_
            refine y_nmS (fun σ49 e50 => ?_)
            replace h := h σ49 e50
            have E51 : sK σ49 = sK σ46 := by rw [e50]; rfl
            obtain ⟨x52, e53⟩ : ∃ y : Int32, y = v3 + 1 := ⟨_, rfl⟩
            replace h := h x52 e53
            refine y_iinc (v := x52) (lv' := [(3, .int x52), (4, .int x39), (0, va_rf (some a0)), (1, .int v1), (2, .int v2)]) hg 4 dX11_pass_106 rfl (by rw [e53]; rfl) (by rw [hgN]; decide) rfl ?_
            refine y_goto (tgt := 63) hg dX11_pass_109 (by decide) ?_
            refine y_sub [2, 3, 4, 0] rfl ?_
            subst hK63
            obtain ⟨n54, h55, h⟩ := h
            exact ih63 n54 h55 _ _ h
        exact key63 n63 v3 σ hI63
      have J33 : ∀ (v2 : Int32) (v3 : Int32) (σ : Sg), P_X11_pass_L33 a0 v1 v2 v3 σ Q K26 → XA g 33 [(0, va_rf (some a0)), (1, .int v1), (2, .int v2), (3, .int v3)] [] σ (0, 0) := by
        intro v2 v3 σ h
        unfold P_X11_pass_L33 at h
        obtain ⟨I33, ⟨n33, hI33⟩, hs33⟩ := h
        have key33 : ∀ (n : Nat), ∀ (v3 : Int32) (σ : Sg), I33 n v3 σ → XA g 33 [(0, va_rf (some a0)), (1, .int v1), (2, .int v2), (3, .int v3)] [] σ (0, 0) := by
          intro n
          induction n using Nat.strongRecOn with
          | _ n ih33 =>
          intro v3 σ hI
          have h := hs33 n v3 σ hI
          clear hI hI33 hs33
          obtain ⟨K33, hK33⟩ : ∃ K : Int32 → Sg → Prop, K = (fun v3 σ => ∃ n', n' < n ∧ I33 n' v3 σ) := ⟨_, rfl⟩
          rw [← hK33] at h
          unfold P_X11_pass_L33b at h
          have J55 : ∀ (v3 : Int32) (σ : Sg), P_X11_pass_B55 a0 v1 v2 v3 σ Q K26 K33 → XA g 55 [(0, va_rf (some a0)), (1, .int v1), (2, .int v2), (3, .int v3)] [] σ (0, 0) := by
            intro v3 σ h
            unfold P_X11_pass_B55 at h
            obtain ⟨x18, e19⟩ : ∃ y : Int32, y = v3 + 1 := ⟨_, rfl⟩
            replace h := h x18 e19
            refine y_iinc (v := x18) (lv' := [(3, .int x18), (0, va_rf (some a0)), (1, .int v1), (2, .int v2)]) hg 3 dX11_pass_55 rfl (by rw [e19]; rfl) (by rw [hgN]; decide) rfl ?_
            refine y_goto (tgt := 33) hg dX11_pass_58 (by decide) ?_
            refine y_sub [1, 2, 3, 0] rfl ?_
            subst hK33
            obtain ⟨n20, h21, h⟩ := h
            exact ih33 n20 h21 _ _ h
          refine y_iload_n hg 3 dX11_pass_33 rfl rfl ?_
          refine y_aload_n hg 0 dX11_pass_34 rfl rfl ?_
          obtain ⟨h7, h⟩ := h
          refine y_getI hg fl_X11_191 rfl rfl h7 dX11_pass_35 ?_
          refine y_icmp_ge (tgt := 61) hg dX11_pass_38 (by decide) (fun q8 => ?_) (fun q8 => ?_)
          · replace h := h.1 q8
            refine y_iconst (v := 0) hg dX11_pass_61 (by decide) ?_
            refine y_istore_n (lv' := [(3, .int 0), (0, va_rf (some a0)), (1, .int v1), (2, .int v2)]) hg dX11_pass_62 rfl (by rw [hgN]; decide) rfl ?_
            refine y_sub [1, 2, 3, 0] rfl ?_
            exact J63 _ _ _ h
          · replace h := h.2 q8
            refine y_aload_n hg 0 dX11_pass_41 rfl rfl ?_
            refine y_getR hg fl_X11_25 rfl rfl h7 dX11_pass_42 ?_
            refine y_iload_n hg 3 dX11_pass_45 rfl rfl ?_
            obtain ⟨c9, h10, h⟩ := h
            obtain ⟨h11, h⟩ := h
            obtain ⟨h12, h⟩ := h
            refine y_zald hg h10 h11 h12 dX11_pass_46 ?_
            refine y_if_eq (tgt := 55) hg dX11_pass_47 (by decide) (fun q13 => ?_) (fun q13 => ?_)
            · replace h := h.1 q13
              refine y_sub [0, 1, 2, 3] rfl ?_
              exact J55 _ _ h
            · replace h := h.2 q13
              refine y_aload_n hg 0 dX11_pass_50 rfl rfl ?_
              refine y_iload_n hg 3 dX11_pass_51 rfl rfl ?_
              refine yVVW (Qm := _) (rest := []) (As := [.int v3]) hg (k_X11_ages (gL g.1) (gD g.1) a0 v3 σ _ h) lv_X11_247 rfl h7 rfl rfl dX11_pass_52 (cat8 (Nat.le_of_ble_eq_true rfl)) hrm ⟨Nat.le_of_ble_eq_true rfl, Nat.le_of_ble_eq_true rfl⟩ (fun u14 σ15 h h16 => ?_)
              have h17 := kp h16 (show ¬ 13 = 0 by decide) h7
              refine y_sub [0, 1, 2, 3] rfl ?_
              exact J55 _ _ h
        exact key33 n33 v3 σ hI33
      refine y_iload_n hg 2 dX11_pass_26 rfl rfl ?_
      refine y_iload_n hg 1 dX11_pass_27 rfl rfl ?_
      refine y_icmp_ge (tgt := 132) hg dX11_pass_28 (by decide) (fun q5 => ?_) (fun q5 => ?_)
      · replace h := h.1 q5
        refine y_aload_n hg 0 dX11_pass_132 rfl rfl ?_
        obtain ⟨h6, h⟩ := h
        refine y_getI hg fl_X11_212 rfl rfl h6 dX11_pass_133 ?_
        exact yEndI hend rfl dX11_pass_136 h
      · replace h := h.2 q5
        refine y_iconst (v := 0) hg dX11_pass_31 (by decide) ?_
        refine y_istore_n (lv' := [(3, .int 0), (0, va_rf (some a0)), (1, .int v1), (2, .int v2)]) hg dX11_pass_32 rfl (by rw [hgN]; decide) rfl ?_
        refine y_sub [1, 2, 3, 0] rfl ?_
        exact J33 _ _ _ h
    exact key26 n26 v2 σ hI26
  refine y_iload_n hg 1 dX11_pass_0 rfl rfl ?_
  refine y_iconst (v := 1) hg dX11_pass_1 (by decide) ?_
  refine y_bipush (v := 100) hg dX11_pass_2 (by decide) ?_
  refine ySIP (Qp := _) (rest := []) (As := [.int v1, .int 1, .int 100]) hg (k_X11_isIn (gL g.1) (gD g.1) v1 1 100 σ _ h) ls_X11_194 rfl rfl dX11_pass_4 (cat8 (Nat.le_of_ble_eq_true rfl)) hrm ⟨Nat.le_of_ble_eq_true rfl, Nat.le_of_ble_eq_true rfl⟩ (fun x1 h => ?_)
  refine y_if_eq (tgt := 22) hg dX11_pass_7 (by decide) (fun q2 => ?_) (fun q2 => ?_)
  · replace h := h.1 q2
    refine y_iconst (v := (-1)) hg dX11_pass_22 (by decide) ?_
    exact yEndI hend rfl dX11_pass_23 h
  · replace h := h.2 q2
    refine y_aload_n hg 0 dX11_pass_10 rfl rfl ?_
    obtain ⟨h3, h⟩ := h
    refine y_getI hg fl_X11_212 rfl rfl h3 dX11_pass_11 ?_
    refine y_sipush (v := 3649) hg dX11_pass_14 (by decide) ?_
    refine y_iload_n hg 1 dX11_pass_17 rfl rfl ?_
    refine y_isub hg dX11_pass_18 ?_
    refine y_icmp_le (tgt := 24) hg dX11_pass_19 (by decide) (fun q4 => ?_) (fun q4 => ?_)
    · replace h := h.1 q4
      refine y_iconst (v := 0) hg dX11_pass_24 (by decide) ?_
      refine y_istore_n (lv' := [(2, .int 0), (0, va_rf (some a0)), (1, .int v1)]) hg dX11_pass_25 rfl (by rw [hgN]; decide) rfl ?_
      refine y_sub [1, 2, 0] rfl ?_
      exact J26 _ _ _ h
    · replace h := h.2 q4
      refine y_iconst (v := (-1)) hg dX11_pass_22 (by decide) ?_
      exact yEndI hend rfl dX11_pass_23 h
def P_X11_rain (a0 : Nat) (v1 : Int32) (σ : Sg) (Q : Int32 → Sg → Prop) : Prop :=
  P_X11_isIn v1 0 50 σ (fun x1 => (x1 = 0 → Q (-1) σ) ∧ (¬ (x1 = 0) → sK σ a0 % 32 = 13 ∧ ((sI σ a0 3) = 30 → Q (-1) σ) ∧ (¬ ((sI σ a0 3) = 30) → ∃ c5 : Nat, sR σ a0 32 = some c5 ∧ sK σ c5 % 32 = 16 ∧ vp_in (sI σ a0 3) (sN σ c5) ∧ ∀ σ9 : Sg, σ9 = pI σ c5 (sI σ a0 3).toNatClampNeg v1 → ∀ σ12 : Sg, σ12 = pI σ9 a0 3 ((sI σ9 a0 3) + 1) → Q (sI σ12 a0 3) σ12)))
set_option maxHeartbeats 4000000 in
set_option maxRecDepth 100000 in
theorem k_X11_rain (l : Launch) (D : Dg) (a0 : Nat) (v1 : Int32) (σ : Sg) (Q : Int32 → Sg → Prop) (h : P_X11_rain a0 v1 σ Q) : CtrY RN l D yX11_rain cX11_rain 2 (some FieldType.int) 1 22 mkI [.ref a0, .int v1] σ (0, 0) Q := by
  refine y_ctrN (lv := [(0, va_rf (some a0)), (1, .int v1)]) (by decide) (by (exact Nat.le_of_ble_eq_true rfl)) (by (exact rfl)) (fun g hg hgL hgD hrm hgN hgI hend => ?_)
  subst hgD
  clear hgL
  unfold P_X11_rain at h
  refine y_iload_n hg 1 dX11_rain_0 rfl rfl ?_
  refine y_iconst (v := 0) hg dX11_rain_1 (by decide) ?_
  refine y_bipush (v := 50) hg dX11_rain_2 (by decide) ?_
  refine ySIP (Qp := _) (rest := []) (As := [.int v1, .int 0, .int 50]) hg (k_X11_isIn (gL g.1) (gD g.1) v1 0 50 σ _ h) ls_X11_194 rfl rfl dX11_rain_4 (cat8 (Nat.le_of_ble_eq_true rfl)) hrm ⟨Nat.le_of_ble_eq_true rfl, Nat.le_of_ble_eq_true rfl⟩ (fun x1 h => ?_)
  refine y_if_eq (tgt := 19) hg dX11_rain_7 (by decide) (fun q2 => ?_) (fun q2 => ?_)
  · replace h := h.1 q2
    refine y_iconst (v := (-1)) hg dX11_rain_19 (by decide) ?_
    exact yEndI hend rfl dX11_rain_20 h
  · replace h := h.2 q2
    refine y_aload_n hg 0 dX11_rain_10 rfl rfl ?_
    obtain ⟨h3, h⟩ := h
    refine y_getI hg fl_X11_257 rfl rfl h3 dX11_rain_11 ?_
    refine y_bipush (v := 30) hg dX11_rain_14 (by decide) ?_
    refine y_icmp_ne (tgt := 21) hg dX11_rain_16 (by decide) (fun q4 => ?_) (fun q4 => ?_)
    · replace h := h.2 q4
      refine y_aload_n hg 0 dX11_rain_21 rfl rfl ?_
      refine y_getR hg fl_X11_86 rfl rfl h3 dX11_rain_22 ?_
      refine y_aload_n hg 0 dX11_rain_25 rfl rfl ?_
      refine y_getI hg fl_X11_257 rfl rfl h3 dX11_rain_26 ?_
      refine y_iload_n hg 1 dX11_rain_29 rfl rfl ?_
      obtain ⟨c5, h6, h⟩ := h
      obtain ⟨h7, h⟩ := h
      obtain ⟨h8, h⟩ := h
      refine y_iast hg h6 h7 h8 dX11_rain_30 ?_
      refine y_nmS (fun σ9 e10 => ?_)
      replace h := h σ9 e10
      have E11 : sK σ9 = sK σ := by rw [e10]; rfl
      refine y_aload_n hg 0 dX11_rain_31 rfl rfl ?_
      refine y_dup hg dX11_rain_32 rfl ?_
      refine y_getI hg fl_X11_257 rfl rfl (kq E11 h3) dX11_rain_33 ?_
      refine y_iconst (v := 1) hg dX11_rain_36 (by decide) ?_
      refine y_iadd hg dX11_rain_37 ?_
      refine y_putI hg fw_X11_257 (fun z => nomatch z) rfl (kq E11 h3) dX11_rain_38 ?_
      refine y_nmS (fun σ12 e13 => ?_)
      replace h := h σ12 e13
      have E14 : sK σ12 = sK σ9 := by rw [e13]; rfl
      refine y_aload_n hg 0 dX11_rain_41 rfl rfl ?_
      refine y_getI hg fl_X11_257 rfl rfl (kq E14 (kq E11 h3)) dX11_rain_42 ?_
      exact yEndI hend rfl dX11_rain_45 h
    · replace h := h.1 q4
      refine y_iconst (v := (-1)) hg dX11_rain_19 (by decide) ?_
      exact yEndI hend rfl dX11_rain_20 h
def P_X11_clear (a0 : Nat) (σ : Sg) (Q : Int32 → Sg → Prop) : Prop :=
  sK σ a0 % 32 = 13 ∧ ∀ x2 : Int32, x2 = sI σ a0 3 → ∀ σ4 : Sg, σ4 = pI σ a0 3 0 → Q x2 σ4
set_option maxHeartbeats 4000000 in
set_option maxRecDepth 100000 in
theorem k_X11_clear (l : Launch) (D : Dg) (a0 : Nat) (σ : Sg) (Q : Int32 → Sg → Prop) (h : P_X11_clear a0 σ Q) : CtrY RN l D yX11_clear cX11_clear 2 (some FieldType.int) 0 0 mkI [.ref a0] σ (0, 0) Q := by
  refine y_ctrN (lv := [(0, va_rf (some a0))]) (by decide) (by (exact Nat.le_of_ble_eq_true rfl)) (by (exact rfl)) (fun g hg hgL hgD hrm hgN hgI hend => ?_)
  subst hgD
  clear hgL
  unfold P_X11_clear at h
  refine y_aload_n hg 0 dX11_clear_0 rfl rfl ?_
  obtain ⟨h1, h⟩ := h
  refine y_getI hg fl_X11_257 rfl rfl h1 dX11_clear_1 ?_
  refine y_nmI (fun x2 e3 => ?_)
  replace h := h x2 e3
  refine y_istore_n (lv' := [(1, .int x2), (0, va_rf (some a0))]) hg dX11_clear_4 rfl (by rw [hgN]; decide) rfl ?_
  refine y_aload_n hg 1 dX11_clear_5 rfl rfl ?_
  refine y_iconst (v := 0) hg dX11_clear_6 (by decide) ?_
  refine y_putI hg fw_X11_257 (fun z => nomatch z) rfl h1 dX11_clear_7 ?_
  refine y_nmS (fun σ4 e5 => ?_)
  replace h := h σ4 e5
  have E6 : sK σ4 = sK σ := by rw [e5]; rfl
  refine y_iload_n hg 0 dX11_clear_10 rfl rfl ?_
  exact yEndI hend rfl dX11_clear_11 h
def P_X11_roofsGive_B94 (a0 : Nat) (v1 : Int32) (v2 : Int32) (v3 : Int64) (v5 : Int32) (σ : Sg) (Q : Int64 → Sg → Prop) (K5 : Int64 → Int32 → Sg → Prop) : Prop :=
  ∀ x37 : Int32, x37 = v5 + 1 → K5 v3 x37 σ
def P_X11_roofsGive_L5b (a0 : Nat) (v1 : Int32) (v2 : Int32) (v3 : Int64) (v5 : Int32) (σ : Sg) (Q : Int64 → Sg → Prop) (K5 : Int64 → Int32 → Sg → Prop) : Prop :=
  sK σ a0 % 32 = 13 ∧ ((sI σ a0 2) ≤ v5 → Q v3 σ) ∧ (¬ ((sI σ a0 2) ≤ v5) → ∃ c3 : Nat, sR σ a0 25 = some c3 ∧ sK σ c3 % 32 = 16 ∧ vp_in v5 (sN σ c3) ∧ ((sI σ c3 v5.toNatClampNeg) = v1 → ∃ c8 : Nat, sR σ a0 27 = some c8 ∧ sK σ c8 % 32 = 16 ∧ vp_in v5 (sN σ c8) ∧ ∀ x12 : Int32, x12 = v2 * (sI σ c8 v5.toNatClampNeg) → ∃ c14 : Nat, sR σ a0 28 = some c14 ∧ sK σ c14 % 32 = 16 ∧ vp_in v5 (sN σ c14) ∧ ∃ c18 : Nat, sR σ a0 40 = some c18 ∧ sK σ c18 % 32 = 16 ∧ vp_in v5 (sN σ c18) ∧ ∀ x22 : Int32, x22 = (if ((sI σ c14 v5.toNatClampNeg) - (sI σ c18 v5.toNatClampNeg)) < x12 then ((sI σ c14 v5.toNatClampNeg) - (sI σ c18 v5.toNatClampNeg)) else x12) → ∃ c24 : Nat, sR σ a0 40 = some c24 ∧ sK σ c24 % 32 = 16 ∧ vp_in v5 (sN σ c24) ∧ vp_in v5 (sN σ c24) ∧ ∀ σ29 : Sg, σ29 = pI σ c24 v5.toNatClampNeg ((sI σ c24 v5.toNatClampNeg) + x22) → ∀ σ32 : Sg, σ32 = pL σ29 a0 47 ((sL σ29 a0 47) + x12.toInt64) → ∀ x35 : Int64, x35 = v3 + ((x12 - x22).toInt64) → P_X11_roofsGive_B94 a0 v1 v2 x35 v5 σ32 Q K5) ∧ (¬ ((sI σ c3 v5.toNatClampNeg) = v1) → P_X11_roofsGive_B94 a0 v1 v2 v3 v5 σ Q K5))
def P_X11_roofsGive_L5 (a0 : Nat) (v1 : Int32) (v2 : Int32) (v3 : Int64) (v5 : Int32) (σ : Sg) (Q : Int64 → Sg → Prop) : Prop :=
  ∃ I : Nat → Int64 → Int32 → Sg → Prop, (∃ n, I n v3 v5 σ) ∧ ∀ (n : Nat) (v3 : Int64) (v5 : Int32) (σ : Sg), I n v3 v5 σ → P_X11_roofsGive_L5b a0 v1 v2 v3 v5 σ Q (fun v3 v5 σ => ∃ n', n' < n ∧ I n' v3 v5 σ)
def P_X11_roofsGive (a0 : Nat) (v1 : Int32) (v2 : Int32) (σ : Sg) (Q : Int64 → Sg → Prop) : Prop :=
  P_X11_roofsGive_L5 a0 v1 v2 0 0 σ Q
set_option maxHeartbeats 4000000 in
set_option maxRecDepth 100000 in
theorem k_X11_roofsGive (l : Launch) (D : Dg) (a0 : Nat) (v1 : Int32) (v2 : Int32) (σ : Sg) (Q : Int64 → Sg → Prop) (h : P_X11_roofsGive a0 v1 v2 σ Q) : CtrY RN l D yX11_roofsGive cX11_roofsGive 8 (some FieldType.long) 1 30 mkL [.ref a0, .int v1, .int v2] σ (0, 0) Q := by
  refine y_ctrN (lv := [(0, va_rf (some a0)), (1, .int v1), (2, .int v2)]) (by decide) (by (exact Nat.le_of_ble_eq_true rfl)) (by (exact rfl)) (fun g hg hgL hgD hrm hgN hgI hend => ?_)
  subst hgD
  clear hgL
  unfold P_X11_roofsGive at h
  have J5 : ∀ (v1 : Int32) (v2 : Int32) (v3 : Int64) (v5 : Int32) (σ : Sg), P_X11_roofsGive_L5 a0 v1 v2 v3 v5 σ Q → XA g 5 [(0, va_rf (some a0)), (1, .int v1), (2, .int v2), (3, .long v3), (5, .int v5)] [] σ (0, 0) := by
    intro v1 v2 v3 v5 σ h
    unfold P_X11_roofsGive_L5 at h
    obtain ⟨I5, ⟨n5, hI5⟩, hs5⟩ := h
    have key5 : ∀ (n : Nat), ∀ (v3 : Int64) (v5 : Int32) (σ : Sg), I5 n v3 v5 σ → XA g 5 [(0, va_rf (some a0)), (1, .int v1), (2, .int v2), (3, .long v3), (5, .int v5)] [] σ (0, 0) := by
      intro n
      induction n using Nat.strongRecOn with
      | _ n ih5 =>
      intro v3 v5 σ hI
      have h := hs5 n v3 v5 σ hI
      clear hI hI5 hs5
      obtain ⟨K5, hK5⟩ : ∃ K : Int64 → Int32 → Sg → Prop, K = (fun v3 v5 σ => ∃ n', n' < n ∧ I5 n' v3 v5 σ) := ⟨_, rfl⟩
      rw [← hK5] at h
      unfold P_X11_roofsGive_L5b at h
      have J94 : ∀ (v3 : Int64) (v5 : Int32) (σ : Sg), P_X11_roofsGive_B94 a0 v1 v2 v3 v5 σ Q K5 → XA g 94 [(0, va_rf (some a0)), (1, .int v1), (2, .int v2), (3, .long v3), (5, .int v5)] [] σ (0, 0) := by
        intro v3 v5 σ h
        unfold P_X11_roofsGive_B94 at h
        obtain ⟨x37, e38⟩ : ∃ y : Int32, y = v5 + 1 := ⟨_, rfl⟩
        replace h := h x37 e38
        refine y_iinc (v := x37) (lv' := [(5, .int x37), (0, va_rf (some a0)), (1, .int v1), (2, .int v2), (3, .long v3)]) hg 4 dX11_roofsGive_94 rfl (by rw [e38]; rfl) (by rw [hgN]; decide) rfl ?_
        refine y_goto (tgt := 5) hg dX11_roofsGive_97 (by decide) ?_
        refine y_sub [1, 2, 3, 4, 0] rfl ?_
        subst hK5
        obtain ⟨n39, h40, h⟩ := h
        exact ih5 n39 h40 _ _ _ h
      refine y_iload hg 4 dX11_roofsGive_5 rfl ?_
      refine y_aload_n hg 0 dX11_roofsGive_7 rfl rfl ?_
      obtain ⟨h1, h⟩ := h
      refine y_getI hg fl_X11_202 rfl rfl h1 dX11_roofsGive_8 ?_
      refine y_icmp_ge (tgt := 100) hg dX11_roofsGive_11 (by decide) (fun q2 => ?_) (fun q2 => ?_)
      · replace h := h.1 q2
        refine y_lload_n hg 3 dX11_roofsGive_100 rfl rfl ?_
        exact yEndL hend dX11_roofsGive_101 h
      · replace h := h.2 q2
        refine y_aload_n hg 0 dX11_roofsGive_14 rfl rfl ?_
        refine y_getR hg fl_X11_65 rfl rfl h1 dX11_roofsGive_15 ?_
        refine y_iload hg 4 dX11_roofsGive_18 rfl ?_
        obtain ⟨c3, h4, h⟩ := h
        obtain ⟨h5, h⟩ := h
        obtain ⟨h6, h⟩ := h
        refine y_iald hg h4 h5 h6 dX11_roofsGive_20 ?_
        refine y_iload_n hg 1 dX11_roofsGive_21 rfl rfl ?_
        refine y_icmp_eq (tgt := 28) hg dX11_roofsGive_22 (by decide) (fun q7 => ?_) (fun q7 => ?_)
        · replace h := h.1 q7
          refine y_iload_n hg 2 dX11_roofsGive_28 rfl rfl ?_
          refine y_aload_n hg 0 dX11_roofsGive_29 rfl rfl ?_
          refine y_getR hg fl_X11_71 rfl rfl h1 dX11_roofsGive_30 ?_
          refine y_iload hg 4 dX11_roofsGive_33 rfl ?_
          obtain ⟨c8, h9, h⟩ := h
          obtain ⟨h10, h⟩ := h
          obtain ⟨h11, h⟩ := h
          refine y_iald hg h9 h10 h11 dX11_roofsGive_35 ?_
          refine y_imul hg dX11_roofsGive_36 ?_
          refine y_nmI (fun x12 e13 => ?_)
          replace h := h x12 e13
          refine y_istore (lv' := [(6, .int x12), (0, va_rf (some a0)), (1, .int v1), (2, .int v2), (3, .long v3), (5, .int v5)]) hg dX11_roofsGive_37 (by rw [hgN]; decide) rfl ?_
          refine y_iload hg 0 dX11_roofsGive_39 rfl ?_
          refine y_aload_n hg 1 dX11_roofsGive_41 rfl rfl ?_
          refine y_getR hg fl_X11_74 rfl rfl h1 dX11_roofsGive_42 ?_
          refine y_iload hg 5 dX11_roofsGive_45 rfl ?_
          obtain ⟨c14, h15, h⟩ := h
          obtain ⟨h16, h⟩ := h
          obtain ⟨h17, h⟩ := h
          refine y_iald hg h15 h16 h17 dX11_roofsGive_47 ?_
          refine y_aload_n hg 1 dX11_roofsGive_48 rfl rfl ?_
          refine y_getR hg fl_X11_95 rfl rfl h1 dX11_roofsGive_49 ?_
          refine y_iload hg 5 dX11_roofsGive_52 rfl ?_
          obtain ⟨c18, h19, h⟩ := h
          obtain ⟨h20, h⟩ := h
          obtain ⟨h21, h⟩ := h
          refine y_iald hg h19 h20 h21 dX11_roofsGive_54 ?_
          refine y_isub hg dX11_roofsGive_55 ?_
          refine y_mmin hg mm_X11_227 (cat8 (Nat.le_of_ble_eq_true rfl)) hrm ⟨Nat.le_of_ble_eq_true rfl, Nat.le_of_ble_eq_true rfl⟩ dX11_roofsGive_56 ?_
          refine y_nmI (fun x22 e23 => ?_)
          replace h := h x22 e23
          refine y_istore (lv' := [(7, .int x22), (6, .int x12), (0, va_rf (some a0)), (1, .int v1), (2, .int v2), (3, .long v3), (5, .int v5)]) hg dX11_roofsGive_59 (by rw [hgN]; decide) rfl ?_
          refine y_aload_n hg 2 dX11_roofsGive_61 rfl rfl ?_
          refine y_getR hg fl_X11_95 rfl rfl h1 dX11_roofsGive_62 ?_
          refine y_iload hg 6 dX11_roofsGive_65 rfl ?_
          refine y_dup2 hg dX11_roofsGive_67 rfl (rf_cat _) ?_
          obtain ⟨c24, h25, h⟩ := h
          obtain ⟨h26, h⟩ := h
          obtain ⟨h27, h⟩ := h
          refine y_iald hg h25 h26 h27 dX11_roofsGive_68 ?_
          refine y_iload hg 0 dX11_roofsGive_69 rfl ?_
          refine y_iadd hg dX11_roofsGive_71 ?_
          obtain ⟨h28, h⟩ := h
          refine y_iast hg h25 h26 h28 dX11_roofsGive_72 ?_
          refine y_nmS (fun σ29 e30 => ?_)
          replace h := h σ29 e30
          have E31 : sK σ29 = sK σ := by rw [e30]; rfl
          refine y_aload_n hg 2 dX11_roofsGive_73 rfl rfl ?_
          refine y_dup hg dX11_roofsGive_74 rfl ?_
          refine y_getL hg fl_X11_260 rfl rfl (kq E31 h1) dX11_roofsGive_75 ?_
          refine y_iload hg 1 dX11_roofsGive_78 rfl ?_
          refine y_i2l hg dX11_roofsGive_80 ?_
          refine y_ladd hg dX11_roofsGive_81 ?_
          refine y_putL hg fw_X11_260 (fun z => nomatch z) rfl (kq E31 h1) dX11_roofsGive_82 ?_
          refine y_nmS (fun σ32 e33 => ?_)
          replace h := h σ32 e33
          have E34 : sK σ32 = sK σ29 := by rw [e33]; rfl
          refine y_lload_n hg 5 dX11_roofsGive_85 rfl rfl ?_
          refine y_iload hg 1 dX11_roofsGive_86 rfl ?_
          refine y_iload hg 0 dX11_roofsGive_88 rfl ?_
          refine y_isub hg dX11_roofsGive_90 ?_
          refine y_i2l hg dX11_roofsGive_91 ?_
          refine y_ladd hg dX11_roofsGive_92 ?_
          refine y_nmJ (fun x35 e36 => ?_)
          replace h := h x35 e36
          refine y_lstore_n (lv' := [(3, .long x35), (7, .int x22), (6, .int x12), (0, va_rf (some a0)), (1, .int v1), (2, .int v2), (5, .int v5)]) hg dX11_roofsGive_93 rfl (by rw [hgN]; decide) rfl ?_
          refine y_sub [3, 4, 5, 0, 6] rfl ?_
          exact J94 _ _ _ h
        · replace h := h.2 q7
          refine y_goto (tgt := 94) hg dX11_roofsGive_25 (by decide) ?_
          refine y_sub [0, 1, 2, 3, 4] rfl ?_
          exact J94 _ _ _ h
    exact key5 n5 v3 v5 σ hI5
  refine y_lconst (v := 0) hg dX11_roofsGive_0 (by decide) ?_
  refine y_lstore_n (lv' := [(3, .long 0), (0, va_rf (some a0)), (1, .int v1), (2, .int v2)]) hg dX11_roofsGive_1 rfl (by rw [hgN]; decide) rfl ?_
  refine y_iconst (v := 0) hg dX11_roofsGive_2 (by decide) ?_
  refine y_istore (lv' := [(5, .int 0), (3, .long 0), (0, va_rf (some a0)), (1, .int v1), (2, .int v2)]) hg dX11_roofsGive_3 (by rw [hgN]; decide) rfl ?_
  refine y_sub [2, 3, 4, 1, 0] rfl ?_
  exact J5 _ _ _ _ _ h
def P_X11_minute_B466 (a0 : Nat) (v1 : Int32) (v2 : Int32) (v3 : Int64) (v5 : Int32) (σ : Sg) (Q : Unit → Sg → Prop) (K39 : Int64 → Int32 → Sg → Prop) : Prop :=
  ∀ x203 : Int32, x203 = v5 + 1 → K39 v3 x203 σ
def P_X11_minute_B413 (a0 : Nat) (v1 : Int32) (v2 : Int32) (v3 : Int64) (v5 : Int32) (v9 : Int64) (v13 : Int64) (σ : Sg) (Q : Unit → Sg → Prop) (K39 : Int64 → Int32 → Sg → Prop) : Prop :=
  sK σ a0 % 32 = 13 ∧ ∃ c156 : Nat, sR σ a0 11 = some c156 ∧ sK σ c156 % 32 = 16 ∧ vp_in v5 (sN σ c156) ∧ ((sI σ c156 v5.toNatClampNeg) = (-1) → ∀ x185 : Int64, x185 = v3 + v9 → P_X11_minute_B466 a0 v1 v2 x185 v5 σ Q K39) ∧ (¬ ((sI σ c156 v5.toNatClampNeg) = (-1)) → ∃ c161 : Nat, sR σ a0 11 = some c161 ∧ sK σ c161 % 32 = 16 ∧ vp_in v5 (sN σ c161) ∧ ∃ c165 : Nat, sR σ a0 43 = some c165 ∧ sK σ c165 % 32 = 17 ∧ vp_in (sI σ c161 v5.toNatClampNeg) (sN σ c165) ∧ vp_in (sI σ c161 v5.toNatClampNeg) (sN σ c165) ∧ ∀ σ170 : Sg, σ170 = pL σ c165 (sI σ c161 v5.toNatClampNeg).toNatClampNeg ((sL σ c165 (sI σ c161 v5.toNatClampNeg).toNatClampNeg) + v9) → ∃ c173 : Nat, sR σ170 a0 11 = some c173 ∧ sK σ170 c173 % 32 = 16 ∧ vp_in v5 (sN σ170 c173) ∧ ∃ c177 : Nat, sR σ170 a0 42 = some c177 ∧ sK σ170 c177 % 32 = 17 ∧ vp_in (sI σ170 c173 v5.toNatClampNeg) (sN σ170 c177) ∧ vp_in (sI σ170 c173 v5.toNatClampNeg) (sN σ170 c177) ∧ ∀ σ182 : Sg, σ182 = pL σ170 c177 (sI σ170 c173 v5.toNatClampNeg).toNatClampNeg ((sL σ170 c177 (sI σ170 c173 v5.toNatClampNeg).toNatClampNeg) + v13) → P_X11_minute_B466 a0 v1 v2 v3 v5 σ182 Q K39)
def P_X11_minute_B318 (a0 : Nat) (v1 : Int32) (v2 : Int32) (v3 : Int64) (v5 : Int32) (v9 : Int64) (v11 : Int64) (w0 : Int64) (σ : Sg) (Q : Unit → Sg → Prop) (K39 : Int64 → Int32 → Sg → Prop) : Prop :=
  sK σ a0 % 32 = 13 ∧ ∃ c93 : Nat, sR σ a0 45 = some c93 ∧ sK σ c93 % 32 = 17 ∧ vp_in v5 (sN σ c93) ∧ ∀ x97 : Int64, x97 = (if v9 < (sL σ c93 v5.toNatClampNeg) then (sL σ c93 v5.toNatClampNeg) else v9) → ∃ c99 : Nat, sR σ a0 45 = some c99 ∧ sK σ c99 % 32 = 17 ∧ vp_in v5 (sN σ c99) ∧ ∀ σ103 : Sg, σ103 = pL σ c99 v5.toNatClampNeg x97 → ∃ c106 : Nat, sR σ103 a0 44 = some c106 ∧ sK σ103 c106 % 32 = 17 ∧ vp_in v5 (sN σ103 c106) ∧ vp_in v5 (sN σ103 c106) ∧ ∀ σ111 : Sg, σ111 = pL σ103 c106 v5.toNatClampNeg ((sL σ103 c106 v5.toNatClampNeg) + (v11 - w0)) → ∀ σ114 : Sg, σ114 = pL σ111 a0 49 ((sL σ111 a0 49) + (v11 - w0)) → ∃ c117 : Nat, sR σ114 a0 10 = some c117 ∧ sK σ114 c117 % 32 = 16 ∧ vp_in v5 (sN σ114 c117) ∧ ((sI σ114 c117 v5.toNatClampNeg) ≤ 0 → P_X11_minute_B413 a0 v1 v2 v3 v5 v9 w0 σ114 Q K39) ∧ (¬ ((sI σ114 c117 v5.toNatClampNeg) ≤ 0) → ∃ c122 : Nat, sR σ114 a0 10 = some c122 ∧ sK σ114 c122 % 32 = 16 ∧ vp_in v5 (sN σ114 c122) ∧ (v11 ≤ ((sI σ114 c122 v5.toNatClampNeg).toInt64) → P_X11_minute_B413 a0 v1 v2 v3 v5 v9 w0 σ114 Q K39) ∧ (¬ (v11 ≤ ((sI σ114 c122 v5.toNatClampNeg).toInt64)) → ∃ c127 : Nat, sR σ114 a0 46 = some c127 ∧ sK σ114 c127 % 32 = 16 ∧ vp_in v5 (sN σ114 c127) ∧ vp_in v5 (sN σ114 c127) ∧ ∀ σ132 : Sg, σ132 = pI σ114 c127 v5.toNatClampNeg ((sI σ114 c127 v5.toNatClampNeg) + 1) → ∀ σ135 : Sg, σ135 = pI σ132 a0 52 ((sI σ132 a0 52) + 1) → P_X11_minute_B413 a0 v1 v2 v3 v5 v9 w0 σ135 Q K39))
def P_X11_minute_B263 (a0 : Nat) (v1 : Int32) (v2 : Int32) (v3 : Int64) (v5 : Int32) (v6 : Int64) (σ : Sg) (Q : Unit → Sg → Prop) (K39 : Int64 → Int32 → Sg → Prop) : Prop :=
  sK σ a0 % 32 = 13 ∧ ∃ c67 : Nat, sR σ a0 43 = some c67 ∧ sK σ c67 % 32 = 17 ∧ vp_in v5 (sN σ c67) ∧ ∀ x71 : Int64, x71 = v6 + (sL σ c67 v5.toNatClampNeg) → ∃ c73 : Nat, sR σ a0 8 = some c73 ∧ sK σ c73 % 32 = 16 ∧ vp_in v5 (sN σ c73) ∧ ∀ x77 : Int64, x77 = (if ((sI σ c73 v5.toNatClampNeg).toInt64) < x71 then ((sI σ c73 v5.toNatClampNeg).toInt64) else x71) → ∀ x79 : Int64, x79 = x71 - x77 → ∃ c81 : Nat, sR σ a0 11 = some c81 ∧ sK σ c81 % 32 = 16 ∧ vp_in v5 (sN σ c81) ∧ ((sI σ c81 v5.toNatClampNeg) = (-1) → P_X11_minute_B318 a0 v1 v2 v3 v5 x77 x79 0 σ Q K39) ∧ (¬ ((sI σ c81 v5.toNatClampNeg) = (-1)) → P_X11_minute_B318 a0 v1 v2 v3 v5 x77 x79 (x79 / 2) σ Q K39)
def P_X11_minute_B223 (a0 : Nat) (v1 : Int32) (v2 : Int32) (v3 : Int64) (v5 : Int32) (v6 : Int64) (v11 : Int32) (w0 : Int32) (w1 : Int32) (σ : Sg) (Q : Unit → Sg → Prop) (K39 : Int64 → Int32 → Sg → Prop) : Prop :=
  ∀ x187 : Int32, x187 = (if w1 < w0 then w1 else w0) → sK σ a0 % 32 = 13 ∧ ∃ c190 : Nat, sR σ a0 41 = some c190 ∧ sK σ c190 % 32 = 16 ∧ vp_in v5 (sN σ c190) ∧ vp_in v5 (sN σ c190) ∧ ∀ σ195 : Sg, σ195 = pI σ c190 v5.toNatClampNeg ((sI σ c190 v5.toNatClampNeg) + (v11 - x187)) → ∀ σ198 : Sg, σ198 = pL σ195 a0 48 ((sL σ195 a0 48) + x187.toInt64) → ∀ x201 : Int64, x201 = v6 - v11.toInt64 → P_X11_minute_B263 a0 v1 v2 v3 v5 x201 σ198 Q K39
def P_X11_minute_B178 (a0 : Nat) (v1 : Int32) (v2 : Int32) (v3 : Int64) (v5 : Int32) (v6 : Int64) (v8 : Int32) (w0 : Int64) (w1 : Int32) (σ : Sg) (Q : Unit → Sg → Prop) (K39 : Int64 → Int32 → Sg → Prop) : Prop :=
  sK σ a0 % 32 = 13 ∧ ∃ c139 : Nat, sR σ a0 41 = some c139 ∧ sK σ c139 % 32 = 16 ∧ vp_in v5 (sN σ c139) ∧ ∀ x143 : Int64, x143 = (if ((w1 - (sI σ c139 v5.toNatClampNeg)).toInt64) < w0 then ((w1 - (sI σ c139 v5.toNatClampNeg)).toInt64) else w0) → ∃ c145 : Nat, sR σ a0 41 = some c145 ∧ sK σ c145 % 32 = 16 ∧ vp_in v5 (sN σ c145) ∧ (v8 = 0 → P_X11_drink a0 v5 σ (fun x150 => P_X11_minute_B223 a0 v1 v2 v3 v5 v6 x143.toInt32 ((sI σ c145 v5.toNatClampNeg) + x143.toInt32) x150 σ Q K39)) ∧ (¬ (v8 = 0) → ∃ c151 : Nat, sR σ a0 31 = some c151 ∧ sK σ c151 % 32 = 16 ∧ vp_in 0 (sN σ c151) ∧ P_X11_minute_B223 a0 v1 v2 v3 v5 v6 x143.toInt32 ((sI σ c145 v5.toNatClampNeg) + x143.toInt32) (sI σ c151 (0 : Int32).toNatClampNeg) σ Q K39)
def P_X11_minute_B157 (a0 : Nat) (v1 : Int32) (v2 : Int32) (v3 : Int64) (v5 : Int32) (v6 : Int64) (v8 : Int32) (w0 : Int64) (σ : Sg) (Q : Unit → Sg → Prop) (K39 : Int64 → Int32 → Sg → Prop) : Prop :=
  (v8 = 0 → sK σ a0 % 32 = 13 ∧ ∃ c88 : Nat, sR σ a0 16 = some c88 ∧ sK σ c88 % 32 = 16 ∧ vp_in v5 (sN σ c88) ∧ P_X11_minute_B178 a0 v1 v2 v3 v5 v6 v8 w0 (sI σ c88 v5.toNatClampNeg) σ Q K39) ∧ (¬ (v8 = 0) → P_X11_minute_B178 a0 v1 v2 v3 v5 v6 v8 w0 100 σ Q K39)
def P_X11_minute_B129 (a0 : Nat) (v1 : Int32) (v2 : Int32) (v3 : Int64) (v5 : Int32) (v6 : Int64) (v8 : Int32) (σ : Sg) (Q : Unit → Sg → Prop) (K39 : Int64 → Int32 → Sg → Prop) : Prop :=
  (v8 = 0 → sK σ a0 % 32 = 13 ∧ ∃ c62 : Nat, sR σ a0 19 = some c62 ∧ sK σ c62 % 32 = 16 ∧ vp_in v5 (sN σ c62) ∧ P_X11_minute_B157 a0 v1 v2 v3 v5 v6 v8 ((v6 * ((10 - (sI σ c62 v5.toNatClampNeg)).toInt64)) / 10) σ Q K39) ∧ (¬ (v8 = 0) → P_X11_minute_B157 a0 v1 v2 v3 v5 v6 v8 v6 σ Q K39)
def P_X11_minute_B112 (a0 : Nat) (v1 : Int32) (v2 : Int32) (v3 : Int64) (v5 : Int32) (v6 : Int64) (w0 : Int32) (σ : Sg) (Q : Unit → Sg → Prop) (K39 : Int64 → Int32 → Sg → Prop) : Prop :=
  sK σ a0 % 32 = 13 ∧ ∃ c54 : Nat, sR σ a0 12 = some c54 ∧ sK σ c54 % 32 = 18 ∧ vp_in v5 (sN σ c54) ∧ ((sI σ c54 v5.toNatClampNeg) = 0 → (w0 = 0 → P_X11_minute_B263 a0 v1 v2 v3 v5 v6 σ Q K39) ∧ (¬ (w0 = 0) → P_X11_minute_B129 a0 v1 v2 v3 v5 v6 w0 σ Q K39)) ∧ (¬ ((sI σ c54 v5.toNatClampNeg) = 0) → P_X11_minute_B129 a0 v1 v2 v3 v5 v6 w0 σ Q K39)
def P_X11_minute_L39b (a0 : Nat) (v1 : Int32) (v2 : Int32) (v3 : Int64) (v5 : Int32) (σ : Sg) (Q : Unit → Sg → Prop) (K39 : Int64 → Int32 → Sg → Prop) : Prop :=
  sK σ a0 % 32 = 13 ∧ ((sI σ a0 1) ≤ v5 → ∀ σ23 : Sg, σ23 = pL σ a0 50 ((sL σ a0 50) + v3) → ∀ x26 : Int64, x26 = (if v3 < (sL σ23 a0 51) then (sL σ23 a0 51) else v3) → ∀ σ28 : Sg, σ28 = pL σ23 a0 51 x26 → Q () σ28) ∧ (¬ ((sI σ a0 1) ≤ v5) → ∃ c31 : Nat, sR σ a0 42 = some c31 ∧ sK σ c31 % 32 = 17 ∧ vp_in v5 (sN σ c31) ∧ ∃ c35 : Nat, sR σ a0 7 = some c35 ∧ sK σ c35 % 32 = 16 ∧ vp_in v5 (sN σ c35) ∧ P_X11_roofsGive a0 v5 v1 σ (fun x39 σ40 => ∀ x43 : Int64, x43 = ((sL σ c31 v5.toNatClampNeg) + (v1.toInt64 * ((sI σ c35 v5.toNatClampNeg).toInt64))) + x39 → ∃ c45 : Nat, sR σ40 a0 7 = some c45 ∧ sK σ40 c45 % 32 = 16 ∧ vp_in v5 (sN σ40 c45) ∧ ∀ σ49 : Sg, σ49 = pL σ40 a0 47 ((sL σ40 a0 47) + (v1.toInt64 * ((sI σ40 c45 v5.toNatClampNeg).toInt64))) → (((v2 >>> (v5 &&& 31)) &&& 1) = 1 → P_X11_minute_B112 a0 v1 v2 v3 v5 x43 1 σ49 Q K39) ∧ (¬ (((v2 >>> (v5 &&& 31)) &&& 1) = 1) → P_X11_minute_B112 a0 v1 v2 v3 v5 x43 0 σ49 Q K39)))
def P_X11_minute_L39 (a0 : Nat) (v1 : Int32) (v2 : Int32) (v3 : Int64) (v5 : Int32) (σ : Sg) (Q : Unit → Sg → Prop) : Prop :=
  ∃ I : Nat → Int64 → Int32 → Sg → Prop, (∃ n, I n v3 v5 σ) ∧ ∀ (n : Nat) (v3 : Int64) (v5 : Int32) (σ : Sg), I n v3 v5 σ → P_X11_minute_L39b a0 v1 v2 v3 v5 σ Q (fun v3 v5 σ => ∃ n', n' < n ∧ I n' v3 v5 σ)
def P_X11_minute_L5b (a0 : Nat) (v1 : Int32) (v2 : Int32) (v3 : Int64) (v5 : Int32) (σ : Sg) (Q : Unit → Sg → Prop) (K5 : Int32 → Sg → Prop) : Prop :=
  sK σ a0 % 32 = 13 ∧ ((sI σ a0 1) ≤ v5 → P_X11_minute_L39 a0 v1 v2 v3 0 σ Q) ∧ (¬ ((sI σ a0 1) ≤ v5) → ∃ c3 : Nat, sR σ a0 42 = some c3 ∧ sK σ c3 % 32 = 17 ∧ vp_in v5 (sN σ c3) ∧ ∀ σ7 : Sg, σ7 = pL σ c3 v5.toNatClampNeg 0 → ∃ c10 : Nat, sR σ7 a0 43 = some c10 ∧ sK σ7 c10 % 32 = 17 ∧ vp_in v5 (sN σ7 c10) ∧ ∀ σ14 : Sg, σ14 = pL σ7 c10 v5.toNatClampNeg 0 → ∀ x17 : Int32, x17 = v5 + 1 → K5 x17 σ14)
def P_X11_minute_L5 (a0 : Nat) (v1 : Int32) (v2 : Int32) (v3 : Int64) (v5 : Int32) (σ : Sg) (Q : Unit → Sg → Prop) : Prop :=
  ∃ I : Nat → Int32 → Sg → Prop, (∃ n, I n v5 σ) ∧ ∀ (n : Nat) (v5 : Int32) (σ : Sg), I n v5 σ → P_X11_minute_L5b a0 v1 v2 v3 v5 σ Q (fun v5 σ => ∃ n', n' < n ∧ I n' v5 σ)
def P_X11_minute (a0 : Nat) (v1 : Int32) (v2 : Int32) (σ : Sg) (Q : Unit → Sg → Prop) : Prop :=
  P_X11_minute_L5 a0 v1 v2 0 0 σ Q
set_option maxHeartbeats 4000000 in
set_option maxRecDepth 100000 in
theorem k_X11_minute (l : Launch) (D : Dg) (a0 : Nat) (v1 : Int32) (v2 : Int32) (σ : Sg) (Q : Unit → Sg → Prop) (h : P_X11_minute a0 v1 v2 σ Q) : CtrY RN l D yX11_minute cX11_minute 15 (none) 2 57 mkV [.ref a0, .int v1, .int v2] σ (0, 0) Q := by
  refine y_ctrN (lv := [(0, va_rf (some a0)), (1, .int v1), (2, .int v2)]) (by decide) (by (exact Nat.le_of_ble_eq_true rfl)) (by (exact rfl)) (fun g hg hgL hgD hrm hgN hgI hend => ?_)
  subst hgD
  clear hgL
  unfold P_X11_minute at h
  have J39 : ∀ (v1 : Int32) (v2 : Int32) (v3 : Int64) (v5 : Int32) (σ : Sg), P_X11_minute_L39 a0 v1 v2 v3 v5 σ Q → XA g 39 [(0, va_rf (some a0)), (1, .int v1), (2, .int v2), (3, .long v3), (5, .int v5)] [] σ (0, 0) := by
    intro v1 v2 v3 v5 σ h
    unfold P_X11_minute_L39 at h
    obtain ⟨I39, ⟨n39, hI39⟩, hs39⟩ := h
    have key39 : ∀ (n : Nat), ∀ (v3 : Int64) (v5 : Int32) (σ : Sg), I39 n v3 v5 σ → XA g 39 [(0, va_rf (some a0)), (1, .int v1), (2, .int v2), (3, .long v3), (5, .int v5)] [] σ (0, 0) := by
      intro n
      induction n using Nat.strongRecOn with
      | _ n ih39 =>
      intro v3 v5 σ hI
      have h := hs39 n v3 v5 σ hI
      clear hI hI39 hs39
      obtain ⟨K39, hK39⟩ : ∃ K : Int64 → Int32 → Sg → Prop, K = (fun v3 v5 σ => ∃ n', n' < n ∧ I39 n' v3 v5 σ) := ⟨_, rfl⟩
      rw [← hK39] at h
      unfold P_X11_minute_L39b at h
      have J466 : ∀ (v3 : Int64) (v5 : Int32) (σ : Sg), P_X11_minute_B466 a0 v1 v2 v3 v5 σ Q K39 → XA g 466 [(0, va_rf (some a0)), (1, .int v1), (2, .int v2), (3, .long v3), (5, .int v5)] [] σ (0, 0) := by
        intro v3 v5 σ h
        unfold P_X11_minute_B466 at h
        obtain ⟨x203, e204⟩ : ∃ y : Int32, y = v5 + 1 := ⟨_, rfl⟩
        replace h := h x203 e204
        refine y_iinc (v := x203) (lv' := [(5, .int x203), (0, va_rf (some a0)), (1, .int v1), (2, .int v2), (3, .long v3)]) hg 4 dX11_minute_466 rfl (by rw [e204]; rfl) (by rw [hgN]; decide) rfl ?_
        refine y_goto (tgt := 39) hg dX11_minute_469 (by decide) ?_
        refine y_sub [1, 2, 3, 4, 0] rfl ?_
        subst hK39
        obtain ⟨n205, h206, h⟩ := h
        exact ih39 n205 h206 _ _ _ h
      have J413 : ∀ (v3 : Int64) (v5 : Int32) (v9 : Int64) (v13 : Int64) (σ : Sg), P_X11_minute_B413 a0 v1 v2 v3 v5 v9 v13 σ Q K39 → XA g 413 [(0, va_rf (some a0)), (1, .int v1), (2, .int v2), (3, .long v3), (5, .int v5), (9, .long v9), (13, .long v13)] [] σ (0, 0) := by
        intro v3 v5 v9 v13 σ h
        unfold P_X11_minute_B413 at h
        refine y_aload_n hg 0 dX11_minute_413 rfl rfl ?_
        obtain ⟨h155, h⟩ := h
        refine y_getR hg fl_X11_22 rfl rfl h155 dX11_minute_414 ?_
        refine y_iload hg 4 dX11_minute_417 rfl ?_
        obtain ⟨c156, h157, h⟩ := h
        obtain ⟨h158, h⟩ := h
        obtain ⟨h159, h⟩ := h
        refine y_iald hg h157 h158 h159 dX11_minute_419 ?_
        refine y_iconst (v := (-1)) hg dX11_minute_420 (by decide) ?_
        refine y_icmp_ne (tgt := 432) hg dX11_minute_421 (by decide) (fun q160 => ?_) (fun q160 => ?_)
        · replace h := h.2 q160
          refine y_aload_n hg 0 dX11_minute_432 rfl rfl ?_
          refine y_getR hg fl_X11_105 rfl rfl h155 dX11_minute_433 ?_
          refine y_aload_n hg 0 dX11_minute_436 rfl rfl ?_
          refine y_getR hg fl_X11_22 rfl rfl h155 dX11_minute_437 ?_
          refine y_iload hg 4 dX11_minute_440 rfl ?_
          obtain ⟨c161, h162, h⟩ := h
          obtain ⟨h163, h⟩ := h
          obtain ⟨h164, h⟩ := h
          refine y_iald hg h162 h163 h164 dX11_minute_442 ?_
          refine y_dup2 hg dX11_minute_443 rfl (rf_cat _) ?_
          obtain ⟨c165, h166, h⟩ := h
          obtain ⟨h167, h⟩ := h
          obtain ⟨h168, h⟩ := h
          refine y_lald hg h166 h167 h168 dX11_minute_444 ?_
          refine y_lload hg 5 dX11_minute_445 rfl ?_
          refine y_ladd hg dX11_minute_447 ?_
          obtain ⟨h169, h⟩ := h
          refine y_last hg h166 h167 h169 dX11_minute_448 ?_
          refine y_nmS (fun σ170 e171 => ?_)
          replace h := h σ170 e171
          have E172 : sK σ170 = sK σ := by rw [e171]; rfl
          refine y_aload_n hg 0 dX11_minute_449 rfl rfl ?_
          refine y_getR hg fl_X11_101 rfl rfl (kq E172 h155) dX11_minute_450 ?_
          refine y_aload_n hg 0 dX11_minute_453 rfl rfl ?_
          refine y_getR hg fl_X11_22 rfl rfl (kq E172 h155) dX11_minute_454 ?_
          refine y_iload hg 4 dX11_minute_457 rfl ?_
          obtain ⟨c173, h174, h⟩ := h
          obtain ⟨h175, h⟩ := h
          obtain ⟨h176, h⟩ := h
          refine y_iald hg h174 h175 h176 dX11_minute_459 ?_
          refine y_dup2 hg dX11_minute_460 rfl (rf_cat _) ?_
          obtain ⟨c177, h178, h⟩ := h
          obtain ⟨h179, h⟩ := h
          obtain ⟨h180, h⟩ := h
          refine y_lald hg h178 h179 h180 dX11_minute_461 ?_
          refine y_lload hg 6 dX11_minute_462 rfl ?_
          refine y_ladd hg dX11_minute_464 ?_
          obtain ⟨h181, h⟩ := h
          refine y_last hg h178 h179 h181 dX11_minute_465 ?_
          refine y_nmS (fun σ182 e183 => ?_)
          replace h := h σ182 e183
          have E184 : sK σ182 = sK σ170 := by rw [e183]; rfl
          refine y_sub [0, 1, 2, 3, 4] rfl ?_
          exact J466 _ _ _ h
        · replace h := h.1 q160
          refine y_lload_n hg 3 dX11_minute_424 rfl rfl ?_
          refine y_lload hg 5 dX11_minute_425 rfl ?_
          refine y_ladd hg dX11_minute_427 ?_
          refine y_nmJ (fun x185 e186 => ?_)
          replace h := h x185 e186
          refine y_lstore_n (lv' := [(3, .long x185), (0, va_rf (some a0)), (1, .int v1), (2, .int v2), (5, .int v5), (9, .long v9), (13, .long v13)]) hg dX11_minute_428 rfl (by rw [hgN]; decide) rfl ?_
          refine y_goto (tgt := 466) hg dX11_minute_429 (by decide) ?_
          refine y_sub [1, 2, 3, 0, 4] rfl ?_
          exact J466 _ _ _ h
      have J318 : ∀ (v3 : Int64) (v5 : Int32) (v9 : Int64) (v11 : Int64) (w0 : Int64) (σ : Sg), P_X11_minute_B318 a0 v1 v2 v3 v5 v9 v11 w0 σ Q K39 → XA g 318 [(0, va_rf (some a0)), (1, .int v1), (2, .int v2), (3, .long v3), (5, .int v5), (9, .long v9), (11, .long v11)] [.long w0] σ (0, 0) := by
        intro v3 v5 v9 v11 w0 σ h
        unfold P_X11_minute_B318 at h
        refine y_lstore (lv' := [(13, .long w0), (0, va_rf (some a0)), (1, .int v1), (2, .int v2), (3, .long v3), (5, .int v5), (9, .long v9), (11, .long v11)]) hg dX11_minute_318 (by rw [hgN]; decide) rfl ?_
        refine y_aload_n hg 1 dX11_minute_320 rfl rfl ?_
        obtain ⟨h92, h⟩ := h
        refine y_getR hg fl_X11_111 rfl rfl h92 dX11_minute_321 ?_
        refine y_iload hg 5 dX11_minute_324 rfl ?_
        refine y_aload_n hg 1 dX11_minute_326 rfl rfl ?_
        refine y_getR hg fl_X11_111 rfl rfl h92 dX11_minute_327 ?_
        refine y_iload hg 5 dX11_minute_330 rfl ?_
        obtain ⟨c93, h94, h⟩ := h
        obtain ⟨h95, h⟩ := h
        obtain ⟨h96, h⟩ := h
        refine y_lald hg h94 h95 h96 dX11_minute_332 ?_
        refine y_lload hg 6 dX11_minute_333 rfl ?_
        refine y_mmaxL hg mm_X11_293 (cat8 (Nat.le_of_ble_eq_true rfl)) hrm ⟨Nat.le_of_ble_eq_true rfl, Nat.le_of_ble_eq_true rfl⟩ dX11_minute_335 ?_
        refine y_nmJ (fun x97 e98 => ?_)
        replace h := h x97 e98
        obtain ⟨c99, h100, h⟩ := h
        obtain ⟨h101, h⟩ := h
        obtain ⟨h102, h⟩ := h
        refine y_last hg h100 h101 h102 dX11_minute_338 ?_
        refine y_nmS (fun σ103 e104 => ?_)
        replace h := h σ103 e104
        have E105 : sK σ103 = sK σ := by rw [e104]; rfl
        refine y_aload_n hg 1 dX11_minute_339 rfl rfl ?_
        refine y_getR hg fl_X11_108 rfl rfl (kq E105 h92) dX11_minute_340 ?_
        refine y_iload hg 5 dX11_minute_343 rfl ?_
        refine y_dup2 hg dX11_minute_345 rfl (rf_cat _) ?_
        obtain ⟨c106, h107, h⟩ := h
        obtain ⟨h108, h⟩ := h
        obtain ⟨h109, h⟩ := h
        refine y_lald hg h107 h108 h109 dX11_minute_346 ?_
        refine y_lload hg 7 dX11_minute_347 rfl ?_
        refine y_lload hg 0 dX11_minute_349 rfl ?_
        refine y_lsub hg dX11_minute_351 ?_
        refine y_ladd hg dX11_minute_352 ?_
        obtain ⟨h110, h⟩ := h
        refine y_last hg h107 h108 h110 dX11_minute_353 ?_
        refine y_nmS (fun σ111 e112 => ?_)
        replace h := h σ111 e112
        have E113 : sK σ111 = sK σ103 := by rw [e112]; rfl
        refine y_aload_n hg 1 dX11_minute_354 rfl rfl ?_
        refine y_dup hg dX11_minute_355 rfl ?_
        refine y_getL hg fl_X11_266 rfl rfl (kq E113 (kq E105 h92)) dX11_minute_356 ?_
        refine y_lload hg 7 dX11_minute_359 rfl ?_
        refine y_lload hg 0 dX11_minute_361 rfl ?_
        refine y_lsub hg dX11_minute_363 ?_
        refine y_ladd hg dX11_minute_364 ?_
        refine y_putL hg fw_X11_266 (fun z => nomatch z) rfl (kq E113 (kq E105 h92)) dX11_minute_365 ?_
        refine y_nmS (fun σ114 e115 => ?_)
        replace h := h σ114 e115
        have E116 : sK σ114 = sK σ111 := by rw [e115]; rfl
        refine y_aload_n hg 1 dX11_minute_368 rfl rfl ?_
        refine y_getR hg fl_X11_19 rfl rfl (kq E116 (kq E113 (kq E105 h92))) dX11_minute_369 ?_
        refine y_iload hg 5 dX11_minute_372 rfl ?_
        obtain ⟨c117, h118, h⟩ := h
        obtain ⟨h119, h⟩ := h
        obtain ⟨h120, h⟩ := h
        refine y_iald hg h118 h119 h120 dX11_minute_374 ?_
        refine y_if_le (tgt := 413) hg dX11_minute_375 (by decide) (fun q121 => ?_) (fun q121 => ?_)
        · replace h := h.1 q121
          refine y_sub [1, 2, 3, 4, 5, 6, 0] rfl ?_
          exact J413 _ _ _ _ _ h
        · replace h := h.2 q121
          refine y_lload hg 7 dX11_minute_378 rfl ?_
          refine y_aload_n hg 1 dX11_minute_380 rfl rfl ?_
          refine y_getR hg fl_X11_19 rfl rfl (kq E116 (kq E113 (kq E105 h92))) dX11_minute_381 ?_
          refine y_iload hg 5 dX11_minute_384 rfl ?_
          obtain ⟨c122, h123, h⟩ := h
          obtain ⟨h124, h⟩ := h
          obtain ⟨h125, h⟩ := h
          refine y_iald hg h123 h124 h125 dX11_minute_386 ?_
          refine y_i2l hg dX11_minute_387 ?_
          refine y_lcmp hg dX11_minute_388 ?_
          refine y_if_le (tgt := 413) hg dX11_minute_389 (by decide) (fun q126 => ?_) (fun q126 => ?_)
          · replace h := h.1 ((lg_cmp_le _ _).mp q126)
            refine y_sub [1, 2, 3, 4, 5, 6, 0] rfl ?_
            exact J413 _ _ _ _ _ h
          · replace h := h.2 (fun z => q126 ((lg_cmp_le _ _).mpr z))
            refine y_aload_n hg 1 dX11_minute_392 rfl rfl ?_
            refine y_getR hg fl_X11_114 rfl rfl (kq E116 (kq E113 (kq E105 h92))) dX11_minute_393 ?_
            refine y_iload hg 5 dX11_minute_396 rfl ?_
            refine y_dup2 hg dX11_minute_398 rfl (rf_cat _) ?_
            obtain ⟨c127, h128, h⟩ := h
            obtain ⟨h129, h⟩ := h
            obtain ⟨h130, h⟩ := h
            refine y_iald hg h128 h129 h130 dX11_minute_399 ?_
            refine y_iconst (v := 1) hg dX11_minute_400 (by decide) ?_
            refine y_iadd hg dX11_minute_401 ?_
            obtain ⟨h131, h⟩ := h
            refine y_iast hg h128 h129 h131 dX11_minute_402 ?_
            refine y_nmS (fun σ132 e133 => ?_)
            replace h := h σ132 e133
            have E134 : sK σ132 = sK σ114 := by rw [e133]; rfl
            refine y_aload_n hg 1 dX11_minute_403 rfl rfl ?_
            refine y_dup hg dX11_minute_404 rfl ?_
            refine y_getI hg fl_X11_275 rfl rfl (kq E134 (kq E116 (kq E113 (kq E105 h92)))) dX11_minute_405 ?_
            refine y_iconst (v := 1) hg dX11_minute_408 (by decide) ?_
            refine y_iadd hg dX11_minute_409 ?_
            refine y_putI hg fw_X11_275 (fun z => nomatch z) rfl (kq E134 (kq E116 (kq E113 (kq E105 h92)))) dX11_minute_410 ?_
            refine y_nmS (fun σ135 e136 => ?_)
            replace h := h σ135 e136
            have E137 : sK σ135 = sK σ132 := by rw [e136]; rfl
            refine y_sub [1, 2, 3, 4, 5, 6, 0] rfl ?_
            exact J413 _ _ _ _ _ h
      have J263 : ∀ (v3 : Int64) (v5 : Int32) (v6 : Int64) (σ : Sg), P_X11_minute_B263 a0 v1 v2 v3 v5 v6 σ Q K39 → XA g 263 [(0, va_rf (some a0)), (1, .int v1), (2, .int v2), (3, .long v3), (5, .int v5), (6, .long v6)] [] σ (0, 0) := by
        intro v3 v5 v6 σ h
        unfold P_X11_minute_B263 at h
        refine y_lload hg 5 dX11_minute_263 rfl ?_
        refine y_aload_n hg 0 dX11_minute_265 rfl rfl ?_
        obtain ⟨h66, h⟩ := h
        refine y_getR hg fl_X11_105 rfl rfl h66 dX11_minute_266 ?_
        refine y_iload hg 4 dX11_minute_269 rfl ?_
        obtain ⟨c67, h68, h⟩ := h
        obtain ⟨h69, h⟩ := h
        obtain ⟨h70, h⟩ := h
        refine y_lald hg h68 h69 h70 dX11_minute_271 ?_
        refine y_ladd hg dX11_minute_272 ?_
        refine y_nmJ (fun x71 e72 => ?_)
        replace h := h x71 e72
        refine y_lstore (lv' := [(6, .long x71), (0, va_rf (some a0)), (1, .int v1), (2, .int v2), (3, .long v3), (5, .int v5)]) hg dX11_minute_273 (by rw [hgN]; decide) rfl ?_
        refine y_lload hg 0 dX11_minute_275 rfl ?_
        refine y_aload_n hg 1 dX11_minute_277 rfl rfl ?_
        refine y_getR hg fl_X11_13 rfl rfl h66 dX11_minute_278 ?_
        refine y_iload hg 5 dX11_minute_281 rfl ?_
        obtain ⟨c73, h74, h⟩ := h
        obtain ⟨h75, h⟩ := h
        obtain ⟨h76, h⟩ := h
        refine y_iald hg h74 h75 h76 dX11_minute_283 ?_
        refine y_i2l hg dX11_minute_284 ?_
        refine y_mminL hg mm_X11_288 (cat8 (Nat.le_of_ble_eq_true rfl)) hrm ⟨Nat.le_of_ble_eq_true rfl, Nat.le_of_ble_eq_true rfl⟩ dX11_minute_285 ?_
        refine y_nmJ (fun x77 e78 => ?_)
        replace h := h x77 e78
        refine y_lstore (lv' := [(9, .long x77), (6, .long x71), (0, va_rf (some a0)), (1, .int v1), (2, .int v2), (3, .long v3), (5, .int v5)]) hg dX11_minute_288 (by rw [hgN]; decide) rfl ?_
        refine y_lload hg 1 dX11_minute_290 rfl ?_
        refine y_lload hg 0 dX11_minute_292 rfl ?_
        refine y_lsub hg dX11_minute_294 ?_
        refine y_nmJ (fun x79 e80 => ?_)
        replace h := h x79 e80
        refine y_lstore (lv' := [(11, .long x79), (9, .long x77), (6, .long x71), (0, va_rf (some a0)), (1, .int v1), (2, .int v2), (3, .long v3), (5, .int v5)]) hg dX11_minute_295 (by rw [hgN]; decide) rfl ?_
        refine y_aload_n hg 3 dX11_minute_297 rfl rfl ?_
        refine y_getR hg fl_X11_22 rfl rfl h66 dX11_minute_298 ?_
        refine y_iload hg 7 dX11_minute_301 rfl ?_
        obtain ⟨c81, h82, h⟩ := h
        obtain ⟨h83, h⟩ := h
        obtain ⟨h84, h⟩ := h
        refine y_iald hg h82 h83 h84 dX11_minute_303 ?_
        refine y_iconst (v := (-1)) hg dX11_minute_304 (by decide) ?_
        refine y_icmp_ne (tgt := 312) hg dX11_minute_305 (by decide) (fun q85 => ?_) (fun q85 => ?_)
        · replace h := h.2 q85
          refine y_lload hg 0 dX11_minute_312 rfl ?_
          refine y_ldc2 hg cw_X11_291 dX11_minute_314 ?_
          refine y_ldiv hg dX11_minute_317 (by decide) ?_
          refine y_sub [3, 4, 5, 6, 7, 1, 0] rfl ?_
          exact J318 _ _ _ _ _ _ h
        · replace h := h.1 q85
          refine y_lconst (v := 0) hg dX11_minute_308 (by decide) ?_
          refine y_goto (tgt := 318) hg dX11_minute_309 (by decide) ?_
          refine y_sub [3, 4, 5, 6, 7, 1, 0] rfl ?_
          exact J318 _ _ _ _ _ _ h
      have J223 : ∀ (v3 : Int64) (v5 : Int32) (v6 : Int64) (v11 : Int32) (w0 : Int32) (w1 : Int32) (σ : Sg), P_X11_minute_B223 a0 v1 v2 v3 v5 v6 v11 w0 w1 σ Q K39 → XA g 223 [(0, va_rf (some a0)), (1, .int v1), (2, .int v2), (3, .long v3), (5, .int v5), (6, .long v6), (11, .int v11)] [.int w1, .int w0] σ (0, 0) := by
        intro v3 v5 v6 v11 w0 w1 σ h
        unfold P_X11_minute_B223 at h
        refine y_mmin hg mm_X11_227 (cat8 (Nat.le_of_ble_eq_true rfl)) hrm ⟨Nat.le_of_ble_eq_true rfl, Nat.le_of_ble_eq_true rfl⟩ dX11_minute_223 ?_
        refine y_nmI (fun x187 e188 => ?_)
        replace h := h x187 e188
        refine y_istore (lv' := [(12, .int x187), (0, va_rf (some a0)), (1, .int v1), (2, .int v2), (3, .long v3), (5, .int v5), (6, .long v6), (11, .int v11)]) hg dX11_minute_226 (by rw [hgN]; decide) rfl ?_
        refine y_aload_n hg 1 dX11_minute_228 rfl rfl ?_
        obtain ⟨h189, h⟩ := h
        refine y_getR hg fl_X11_98 rfl rfl h189 dX11_minute_229 ?_
        refine y_iload hg 5 dX11_minute_232 rfl ?_
        refine y_dup2 hg dX11_minute_234 rfl (rf_cat _) ?_
        obtain ⟨c190, h191, h⟩ := h
        obtain ⟨h192, h⟩ := h
        obtain ⟨h193, h⟩ := h
        refine y_iald hg h191 h192 h193 dX11_minute_235 ?_
        refine y_iload hg 7 dX11_minute_236 rfl ?_
        refine y_iload hg 0 dX11_minute_238 rfl ?_
        refine y_isub hg dX11_minute_240 ?_
        refine y_iadd hg dX11_minute_241 ?_
        obtain ⟨h194, h⟩ := h
        refine y_iast hg h191 h192 h194 dX11_minute_242 ?_
        refine y_nmS (fun σ195 e196 => ?_)
        replace h := h σ195 e196
        have E197 : sK σ195 = sK σ := by rw [e196]; rfl
        refine y_aload_n hg 1 dX11_minute_243 rfl rfl ?_
        refine y_dup hg dX11_minute_244 rfl ?_
        refine y_getL hg fl_X11_263 rfl rfl (kq E197 h189) dX11_minute_245 ?_
        refine y_iload hg 0 dX11_minute_248 rfl ?_
        refine y_i2l hg dX11_minute_250 ?_
        refine y_ladd hg dX11_minute_251 ?_
        refine y_putL hg fw_X11_263 (fun z => nomatch z) rfl (kq E197 h189) dX11_minute_252 ?_
        refine y_nmS (fun σ198 e199 => ?_)
        replace h := h σ198 e199
        have E200 : sK σ198 = sK σ195 := by rw [e199]; rfl
        refine y_lload hg 6 dX11_minute_255 rfl ?_
        refine y_iload hg 7 dX11_minute_257 rfl ?_
        refine y_i2l hg dX11_minute_259 ?_
        refine y_lsub hg dX11_minute_260 ?_
        refine y_nmJ (fun x201 e202 => ?_)
        replace h := h x201 e202
        refine y_lstore (lv' := [(6, .long x201), (12, .int x187), (0, va_rf (some a0)), (1, .int v1), (2, .int v2), (3, .long v3), (5, .int v5), (11, .int v11)]) hg dX11_minute_261 (by rw [hgN]; decide) rfl ?_
        refine y_sub [2, 3, 4, 5, 6, 0] rfl ?_
        exact J263 _ _ _ _ h
      have J178 : ∀ (v3 : Int64) (v5 : Int32) (v6 : Int64) (v8 : Int32) (w0 : Int64) (w1 : Int32) (σ : Sg), P_X11_minute_B178 a0 v1 v2 v3 v5 v6 v8 w0 w1 σ Q K39 → XA g 178 [(0, va_rf (some a0)), (1, .int v1), (2, .int v2), (3, .long v3), (5, .int v5), (6, .long v6), (8, .int v8)] [.int w1, .long w0] σ (0, 0) := by
        intro v3 v5 v6 v8 w0 w1 σ h
        unfold P_X11_minute_B178 at h
        refine y_aload_n hg 0 dX11_minute_178 rfl rfl ?_
        obtain ⟨h138, h⟩ := h
        refine y_getR hg fl_X11_98 rfl rfl h138 dX11_minute_179 ?_
        refine y_iload hg 4 dX11_minute_182 rfl ?_
        obtain ⟨c139, h140, h⟩ := h
        obtain ⟨h141, h⟩ := h
        obtain ⟨h142, h⟩ := h
        refine y_iald hg h140 h141 h142 dX11_minute_184 ?_
        refine y_isub hg dX11_minute_185 ?_
        refine y_i2l hg dX11_minute_186 ?_
        refine y_mminL hg mm_X11_288 (cat8 (Nat.le_of_ble_eq_true rfl)) hrm ⟨Nat.le_of_ble_eq_true rfl, Nat.le_of_ble_eq_true rfl⟩ dX11_minute_187 ?_
        refine y_nmJ (fun x143 e144 => ?_)
        replace h := h x143 e144
        refine y_l2i hg dX11_minute_190 ?_
        refine y_istore (lv' := [(11, .int x143.toInt32), (0, va_rf (some a0)), (1, .int v1), (2, .int v2), (3, .long v3), (5, .int v5), (6, .long v6), (8, .int v8)]) hg dX11_minute_191 (by rw [hgN]; decide) rfl ?_
        refine y_aload_n hg 1 dX11_minute_193 rfl rfl ?_
        refine y_getR hg fl_X11_98 rfl rfl h138 dX11_minute_194 ?_
        refine y_iload hg 5 dX11_minute_197 rfl ?_
        obtain ⟨c145, h146, h⟩ := h
        obtain ⟨h147, h⟩ := h
        obtain ⟨h148, h⟩ := h
        refine y_iald hg h146 h147 h148 dX11_minute_199 ?_
        refine y_iload hg 0 dX11_minute_200 rfl ?_
        refine y_iadd hg dX11_minute_202 ?_
        refine y_iload hg 7 dX11_minute_203 rfl ?_
        refine y_if_eq (tgt := 217) hg dX11_minute_205 (by decide) (fun q149 => ?_) (fun q149 => ?_)
        · replace h := h.1 q149
          refine y_aload_n hg 1 dX11_minute_217 rfl rfl ?_
          refine y_iload hg 5 dX11_minute_218 rfl ?_
          refine yVIP (Qp := _) (rest := [.int ((sI σ c145 v5.toNatClampNeg) + x143.toInt32)]) (As := [.int v5]) hg (k_X11_drink (gL g.1) (gD g.1) a0 v5 σ _ h) lv_X11_230 rfl h138 rfl rfl dX11_minute_220 (cat8 (Nat.le_of_ble_eq_true rfl)) hrm ⟨Nat.le_of_ble_eq_true rfl, Nat.le_of_ble_eq_true rfl⟩ (fun x150 h => ?_)
          refine y_sub [1, 2, 3, 4, 5, 6, 0] rfl ?_
          exact J223 _ _ _ _ _ _ _ h
        · replace h := h.2 q149
          refine y_aload_n hg 1 dX11_minute_208 rfl rfl ?_
          refine y_getR hg fl_X11_83 rfl rfl h138 dX11_minute_209 ?_
          refine y_iconst (v := 0) hg dX11_minute_212 (by decide) ?_
          obtain ⟨c151, h152, h⟩ := h
          obtain ⟨h153, h⟩ := h
          obtain ⟨h154, h⟩ := h
          refine y_iald hg h152 h153 h154 dX11_minute_213 ?_
          refine y_goto (tgt := 223) hg dX11_minute_214 (by decide) ?_
          refine y_sub [1, 2, 3, 4, 5, 6, 0] rfl ?_
          exact J223 _ _ _ _ _ _ _ h
      have J157 : ∀ (v3 : Int64) (v5 : Int32) (v6 : Int64) (v8 : Int32) (w0 : Int64) (σ : Sg), P_X11_minute_B157 a0 v1 v2 v3 v5 v6 v8 w0 σ Q K39 → XA g 157 [(0, va_rf (some a0)), (1, .int v1), (2, .int v2), (3, .long v3), (5, .int v5), (6, .long v6), (8, .int v8)] [.long w0] σ (0, 0) := by
        intro v3 v5 v6 v8 w0 σ h
        unfold P_X11_minute_B157 at h
        refine y_lstore (lv' := [(9, .long w0), (0, va_rf (some a0)), (1, .int v1), (2, .int v2), (3, .long v3), (5, .int v5), (6, .long v6), (8, .int v8)]) hg dX11_minute_157 (by rw [hgN]; decide) rfl ?_
        refine y_lload hg 0 dX11_minute_159 rfl ?_
        refine y_iload hg 7 dX11_minute_161 rfl ?_
        refine y_if_eq (tgt := 171) hg dX11_minute_163 (by decide) (fun q86 => ?_) (fun q86 => ?_)
        · replace h := h.1 q86
          refine y_aload_n hg 1 dX11_minute_171 rfl rfl ?_
          obtain ⟨h87, h⟩ := h
          refine y_getR hg fl_X11_38 rfl rfl h87 dX11_minute_172 ?_
          refine y_iload hg 5 dX11_minute_175 rfl ?_
          obtain ⟨c88, h89, h⟩ := h
          obtain ⟨h90, h⟩ := h
          obtain ⟨h91, h⟩ := h
          refine y_iald hg h89 h90 h91 dX11_minute_177 ?_
          refine y_sub [1, 2, 3, 4, 5, 6, 7] rfl ?_
          exact J178 _ _ _ _ _ _ _ h
        · replace h := h.2 q86
          refine y_bipush (v := 100) hg dX11_minute_166 (by decide) ?_
          refine y_goto (tgt := 178) hg dX11_minute_168 (by decide) ?_
          refine y_sub [1, 2, 3, 4, 5, 6, 7] rfl ?_
          exact J178 _ _ _ _ _ _ _ h
      have J129 : ∀ (v3 : Int64) (v5 : Int32) (v6 : Int64) (v8 : Int32) (σ : Sg), P_X11_minute_B129 a0 v1 v2 v3 v5 v6 v8 σ Q K39 → XA g 129 [(0, va_rf (some a0)), (1, .int v1), (2, .int v2), (3, .long v3), (5, .int v5), (6, .long v6), (8, .int v8)] [] σ (0, 0) := by
        intro v3 v5 v6 v8 σ h
        unfold P_X11_minute_B129 at h
        refine y_iload hg 6 dX11_minute_129 rfl ?_
        refine y_if_eq (tgt := 139) hg dX11_minute_131 (by decide) (fun q60 => ?_) (fun q60 => ?_)
        · replace h := h.1 q60
          refine y_lload hg 5 dX11_minute_139 rfl ?_
          refine y_bipush (v := 10) hg dX11_minute_141 (by decide) ?_
          refine y_aload_n hg 0 dX11_minute_143 rfl rfl ?_
          obtain ⟨h61, h⟩ := h
          refine y_getR hg fl_X11_47 rfl rfl h61 dX11_minute_144 ?_
          refine y_iload hg 4 dX11_minute_147 rfl ?_
          obtain ⟨c62, h63, h⟩ := h
          obtain ⟨h64, h⟩ := h
          obtain ⟨h65, h⟩ := h
          refine y_iald hg h63 h64 h65 dX11_minute_149 ?_
          refine y_isub hg dX11_minute_150 ?_
          refine y_i2l hg dX11_minute_151 ?_
          refine y_lmul hg dX11_minute_152 ?_
          refine y_ldc2 hg cw_X11_286 dX11_minute_153 ?_
          refine y_ldiv hg dX11_minute_156 (by decide) ?_
          refine y_sub [0, 1, 2, 3, 4, 5, 6] rfl ?_
          exact J157 _ _ _ _ _ _ h
        · replace h := h.2 q60
          refine y_lload hg 5 dX11_minute_134 rfl ?_
          refine y_goto (tgt := 157) hg dX11_minute_136 (by decide) ?_
          refine y_sub [0, 1, 2, 3, 4, 5, 6] rfl ?_
          exact J157 _ _ _ _ _ _ h
      have J112 : ∀ (v3 : Int64) (v5 : Int32) (v6 : Int64) (w0 : Int32) (σ : Sg), P_X11_minute_B112 a0 v1 v2 v3 v5 v6 w0 σ Q K39 → XA g 112 [(0, va_rf (some a0)), (1, .int v1), (2, .int v2), (3, .long v3), (5, .int v5), (6, .long v6)] [.int w0] σ (0, 0) := by
        intro v3 v5 v6 w0 σ h
        unfold P_X11_minute_B112 at h
        refine y_istore (lv' := [(8, .int w0), (0, va_rf (some a0)), (1, .int v1), (2, .int v2), (3, .long v3), (5, .int v5), (6, .long v6)]) hg dX11_minute_112 (by rw [hgN]; decide) rfl ?_
        refine y_aload_n hg 1 dX11_minute_114 rfl rfl ?_
        obtain ⟨h53, h⟩ := h
        refine y_getR hg fl_X11_25 rfl rfl h53 dX11_minute_115 ?_
        refine y_iload hg 5 dX11_minute_118 rfl ?_
        obtain ⟨c54, h55, h⟩ := h
        obtain ⟨h56, h⟩ := h
        obtain ⟨h57, h⟩ := h
        refine y_zald hg h55 h56 h57 dX11_minute_120 ?_
        refine y_if_ne (tgt := 129) hg dX11_minute_121 (by decide) (fun q58 => ?_) (fun q58 => ?_)
        · replace h := h.2 q58
          refine y_sub [1, 2, 3, 4, 5, 6, 0] rfl ?_
          exact J129 _ _ _ _ _ h
        · replace h := h.1 q58
          refine y_iload hg 0 dX11_minute_124 rfl ?_
          refine y_if_eq (tgt := 263) hg dX11_minute_126 (by decide) (fun q59 => ?_) (fun q59 => ?_)
          · replace h := h.1 q59
            refine y_sub [1, 2, 3, 4, 5, 6] rfl ?_
            exact J263 _ _ _ _ h
          · replace h := h.2 q59
            refine y_sub [1, 2, 3, 4, 5, 6, 0] rfl ?_
            exact J129 _ _ _ _ _ h
      refine y_iload hg 4 dX11_minute_39 rfl ?_
      refine y_aload_n hg 0 dX11_minute_41 rfl rfl ?_
      obtain ⟨h21, h⟩ := h
      refine y_getI hg fl_X11_191 rfl rfl h21 dX11_minute_42 ?_
      refine y_icmp_ge (tgt := 472) hg dX11_minute_45 (by decide) (fun q22 => ?_) (fun q22 => ?_)
      · replace h := h.1 q22
        refine y_aload_n hg 0 dX11_minute_472 rfl rfl ?_
        refine y_dup hg dX11_minute_473 rfl ?_
        refine y_getL hg fl_X11_269 rfl rfl h21 dX11_minute_474 ?_
        refine y_lload_n hg 3 dX11_minute_477 rfl rfl ?_
        refine y_ladd hg dX11_minute_478 ?_
        refine y_putL hg fw_X11_269 (fun z => nomatch z) rfl h21 dX11_minute_479 ?_
        refine y_nmS (fun σ23 e24 => ?_)
        replace h := h σ23 e24
        have E25 : sK σ23 = sK σ := by rw [e24]; rfl
        refine y_aload_n hg 0 dX11_minute_482 rfl rfl ?_
        refine y_aload_n hg 0 dX11_minute_483 rfl rfl ?_
        refine y_getL hg fl_X11_272 rfl rfl (kq E25 h21) dX11_minute_484 ?_
        refine y_lload_n hg 3 dX11_minute_487 rfl rfl ?_
        refine y_mmaxL hg mm_X11_293 (cat8 (Nat.le_of_ble_eq_true rfl)) hrm ⟨Nat.le_of_ble_eq_true rfl, Nat.le_of_ble_eq_true rfl⟩ dX11_minute_488 ?_
        refine y_nmJ (fun x26 e27 => ?_)
        replace h := h x26 e27
        refine y_putL hg fw_X11_272 (fun z => nomatch z) rfl (kq E25 h21) dX11_minute_491 ?_
        refine y_nmS (fun σ28 e29 => ?_)
        replace h := h σ28 e29
        have E30 : sK σ28 = sK σ23 := by rw [e29]; rfl
        exact yEndV hend dX11_minute_494 h
      · replace h := h.2 q22
        refine y_aload_n hg 0 dX11_minute_48 rfl rfl ?_
        refine y_getR hg fl_X11_101 rfl rfl h21 dX11_minute_49 ?_
        refine y_iload hg 4 dX11_minute_52 rfl ?_
        obtain ⟨c31, h32, h⟩ := h
        obtain ⟨h33, h⟩ := h
        obtain ⟨h34, h⟩ := h
        refine y_lald hg h32 h33 h34 dX11_minute_54 ?_
        refine y_iload_n hg 1 dX11_minute_55 rfl rfl ?_
        refine y_i2l hg dX11_minute_56 ?_
        refine y_aload_n hg 0 dX11_minute_57 rfl rfl ?_
        refine y_getR hg fl_X11_7 rfl rfl h21 dX11_minute_58 ?_
        refine y_iload hg 4 dX11_minute_61 rfl ?_
        obtain ⟨c35, h36, h⟩ := h
        obtain ⟨h37, h⟩ := h
        obtain ⟨h38, h⟩ := h
        refine y_iald hg h36 h37 h38 dX11_minute_63 ?_
        refine y_i2l hg dX11_minute_64 ?_
        refine y_lmul hg dX11_minute_65 ?_
        refine y_ladd hg dX11_minute_66 ?_
        refine y_aload_n hg 0 dX11_minute_67 rfl rfl ?_
        refine y_iload hg 4 dX11_minute_68 rfl ?_
        refine y_iload_n hg 1 dX11_minute_70 rfl rfl ?_
        refine yVLW (Qm := _) (rest := [.long ((sL σ c31 v5.toNatClampNeg) + (v1.toInt64 * ((sI σ c35 v5.toNatClampNeg).toInt64)))]) (As := [.int v5, .int v1]) hg (k_X11_roofsGive (gL g.1) (gD g.1) a0 v5 v1 σ _ h) lv_X11_282 rfl h21 rfl rfl dX11_minute_71 (cat8 (Nat.le_of_ble_eq_true rfl)) hrm ⟨Nat.le_of_ble_eq_true rfl, Nat.le_of_ble_eq_true rfl⟩ (fun x39 σ40 h h41 => ?_)
        have h42 := kp h41 (show ¬ 13 = 0 by decide) h21
        refine y_ladd hg dX11_minute_74 ?_
        refine y_nmJ (fun x43 e44 => ?_)
        replace h := h x43 e44
        refine y_lstore (lv' := [(6, .long x43), (0, va_rf (some a0)), (1, .int v1), (2, .int v2), (3, .long v3), (5, .int v5)]) hg dX11_minute_75 (by rw [hgN]; decide) rfl ?_
        refine y_aload_n hg 1 dX11_minute_77 rfl rfl ?_
        refine y_dup hg dX11_minute_78 rfl ?_
        refine y_getL hg fl_X11_260 rfl rfl h42 dX11_minute_79 ?_
        refine y_iload_n hg 2 dX11_minute_82 rfl rfl ?_
        refine y_i2l hg dX11_minute_83 ?_
        refine y_aload_n hg 1 dX11_minute_84 rfl rfl ?_
        refine y_getR hg fl_X11_7 rfl rfl h42 dX11_minute_85 ?_
        refine y_iload hg 5 dX11_minute_88 rfl ?_
        obtain ⟨c45, h46, h⟩ := h
        obtain ⟨h47, h⟩ := h
        obtain ⟨h48, h⟩ := h
        refine y_iald hg h46 h47 h48 dX11_minute_90 ?_
        refine y_i2l hg dX11_minute_91 ?_
        refine y_lmul hg dX11_minute_92 ?_
        refine y_ladd hg dX11_minute_93 ?_
        refine y_putL hg fw_X11_260 (fun z => nomatch z) rfl h42 dX11_minute_94 ?_
        refine y_nmS (fun σ49 e50 => ?_)
        replace h := h σ49 e50
        have E51 : sK σ49 = sK σ40 := by rw [e50]; rfl
        refine y_iload_n hg 3 dX11_minute_97 rfl rfl ?_
        refine y_iload hg 5 dX11_minute_98 rfl ?_
        refine y_ishr hg dX11_minute_100 ?_
        refine y_iconst (v := 1) hg dX11_minute_101 (by decide) ?_
        refine y_iand hg dX11_minute_102 ?_
        refine y_iconst (v := 1) hg dX11_minute_103 (by decide) ?_
        refine y_icmp_ne (tgt := 111) hg dX11_minute_104 (by decide) (fun q52 => ?_) (fun q52 => ?_)
        · replace h := h.2 q52
          refine y_iconst (v := 0) hg dX11_minute_111 (by decide) ?_
          refine y_sub [1, 2, 3, 4, 5, 0] rfl ?_
          exact J112 _ _ _ _ _ h
        · replace h := h.1 q52
          refine y_iconst (v := 1) hg dX11_minute_107 (by decide) ?_
          refine y_goto (tgt := 112) hg dX11_minute_108 (by decide) ?_
          refine y_sub [1, 2, 3, 4, 5, 0] rfl ?_
          exact J112 _ _ _ _ _ h
    exact key39 n39 v3 v5 σ hI39
  have J5 : ∀ (v1 : Int32) (v2 : Int32) (v3 : Int64) (v5 : Int32) (σ : Sg), P_X11_minute_L5 a0 v1 v2 v3 v5 σ Q → XA g 5 [(0, va_rf (some a0)), (1, .int v1), (2, .int v2), (3, .long v3), (5, .int v5)] [] σ (0, 0) := by
    intro v1 v2 v3 v5 σ h
    unfold P_X11_minute_L5 at h
    obtain ⟨I5, ⟨n5, hI5⟩, hs5⟩ := h
    have key5 : ∀ (n : Nat), ∀ (v5 : Int32) (σ : Sg), I5 n v5 σ → XA g 5 [(0, va_rf (some a0)), (1, .int v1), (2, .int v2), (3, .long v3), (5, .int v5)] [] σ (0, 0) := by
      intro n
      induction n using Nat.strongRecOn with
      | _ n ih5 =>
      intro v5 σ hI
      have h := hs5 n v5 σ hI
      clear hI hI5 hs5
      obtain ⟨K5, hK5⟩ : ∃ K : Int32 → Sg → Prop, K = (fun v5 σ => ∃ n', n' < n ∧ I5 n' v5 σ) := ⟨_, rfl⟩
      rw [← hK5] at h
      unfold P_X11_minute_L5b at h
      refine y_iload hg 4 dX11_minute_5 rfl ?_
      refine y_aload_n hg 0 dX11_minute_7 rfl rfl ?_
      obtain ⟨h1, h⟩ := h
      refine y_getI hg fl_X11_191 rfl rfl h1 dX11_minute_8 ?_
      refine y_icmp_ge (tgt := 36) hg dX11_minute_11 (by decide) (fun q2 => ?_) (fun q2 => ?_)
      · replace h := h.1 q2
        refine y_iconst (v := 0) hg dX11_minute_36 (by decide) ?_
        refine y_istore (lv' := [(5, .int 0), (0, va_rf (some a0)), (1, .int v1), (2, .int v2), (3, .long v3)]) hg dX11_minute_37 (by rw [hgN]; decide) rfl ?_
        refine y_sub [1, 2, 3, 4, 0] rfl ?_
        exact J39 _ _ _ _ _ h
      · replace h := h.2 q2
        refine y_aload_n hg 0 dX11_minute_14 rfl rfl ?_
        refine y_getR hg fl_X11_101 rfl rfl h1 dX11_minute_15 ?_
        refine y_iload hg 4 dX11_minute_18 rfl ?_
        refine y_lconst (v := 0) hg dX11_minute_20 (by decide) ?_
        obtain ⟨c3, h4, h⟩ := h
        obtain ⟨h5, h⟩ := h
        obtain ⟨h6, h⟩ := h
        refine y_last hg h4 h5 h6 dX11_minute_21 ?_
        refine y_nmS (fun σ7 e8 => ?_)
        replace h := h σ7 e8
        have E9 : sK σ7 = sK σ := by rw [e8]; rfl
        refine y_aload_n hg 0 dX11_minute_22 rfl rfl ?_
        refine y_getR hg fl_X11_105 rfl rfl (kq E9 h1) dX11_minute_23 ?_
        refine y_iload hg 4 dX11_minute_26 rfl ?_
        refine y_lconst (v := 0) hg dX11_minute_28 (by decide) ?_
        obtain ⟨c10, h11, h⟩ := h
        obtain ⟨h12, h⟩ := h
        obtain ⟨h13, h⟩ := h
        refine y_last hg h11 h12 h13 dX11_minute_29 ?_
        refine y_nmS (fun σ14 e15 => ?_)
        replace h := h σ14 e15
        have E16 : sK σ14 = sK σ7 := by rw [e15]; rfl
        obtain ⟨x17, e18⟩ : ∃ y : Int32, y = v5 + 1 := ⟨_, rfl⟩
        replace h := h x17 e18
        refine y_iinc (v := x17) (lv' := [(5, .int x17), (0, va_rf (some a0)), (1, .int v1), (2, .int v2), (3, .long v3)]) hg 4 dX11_minute_30 rfl (by rw [e18]; rfl) (by rw [hgN]; decide) rfl ?_
        refine y_goto (tgt := 5) hg dX11_minute_33 (by decide) ?_
        refine y_sub [1, 2, 3, 4, 0] rfl ?_
        subst hK5
        obtain ⟨n19, h20, h⟩ := h
        exact ih5 n19 h20 _ _ h
    exact key5 n5 v5 σ hI5
  refine y_lconst (v := 0) hg dX11_minute_0 (by decide) ?_
  refine y_lstore_n (lv' := [(3, .long 0), (0, va_rf (some a0)), (1, .int v1), (2, .int v2)]) hg dX11_minute_1 rfl (by rw [hgN]; decide) rfl ?_
  refine y_iconst (v := 0) hg dX11_minute_2 (by decide) ?_
  refine y_istore (lv' := [(5, .int 0), (3, .long 0), (0, va_rf (some a0)), (1, .int v1), (2, .int v2)]) hg dX11_minute_3 (by rw [hgN]; decide) rfl ?_
  refine y_sub [2, 3, 4, 1, 0] rfl ?_
  exact J5 _ _ _ _ _ h
