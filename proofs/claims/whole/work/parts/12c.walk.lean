def P_X10_storm_L99b (a0 : Nat) (v1 : Int32) (σ : Sg) (b : Nat × Nat) (Q : Int32 → Sg → Prop) (K99 : Int32 → Sg → Prop) : Prop :=
  sK σ a0 % 32 = 12 ∧ ∃ c67 : Nat, sR σ a0 1 = some c67 ∧ sK σ c67 % 32 = 1 ∧ P_Jx4a65c_size_8abf5 c67 σ (fun x70 => (x70 ≤ v1 → ∃ κ72 q76 : Nat, κ72 % 32 = 10 ∧ 1 ≤ b.1 ∧ 5 ≤ b.2 ∧ sK σ q76 = 0 ∧ 1000 ≤ q76 ∧ ∀ σ79 : Sg, σ79 = nw σ q76 κ72 0 → P_X10_whatRains a0 σ79 (fun x82 => P_X8_init q76 (sI σ79 a0 15) x82 (sR σ79 a0 7) σ79 (fun _ σ84 => ∃ c88 : Nat, sR σ84 a0 13 = some c88 ∧ sK σ84 c88 % 32 = 17 ∧ vp_in 0 (sN σ84 c88) ∧ vp_in 0 (sN σ84 c88) ∧ ∀ σ93 : Sg, σ93 = pL σ84 c88 (0 : Int32).toNatClampNeg ((sL σ84 c88 (0 : Int32).toNatClampNeg) + ((sI σ84 q76 1).toInt64)) → ∃ c96 : Nat, sR σ93 a0 13 = some c96 ∧ sK σ93 c96 % 32 = 17 ∧ vp_in 2 (sN σ93 c96) ∧ vp_in 2 (sN σ93 c96) ∧ ∀ σ101 : Sg, σ101 = pL σ93 c96 (2 : Int32).toNatClampNeg ((sL σ93 c96 (2 : Int32).toNatClampNeg) + ((sI σ93 q76 2).toInt64)) → ∃ c104 : Nat, sR σ101 a0 13 = some c104 ∧ sK σ101 c104 % 32 = 17 ∧ vp_in 3 (sN σ101 c104) ∧ ∃ c108 : Nat, sR σ101 a0 7 = some c108 ∧ sK σ101 c108 % 32 = 5 ∧ vp_in 3 (sN σ101 c104) ∧ ∀ σ112 : Sg, σ112 = pL σ101 c104 (3 : Int32).toNatClampNeg ((sL σ101 c104 (3 : Int32).toNatClampNeg) + ((sI σ101 c108 1).toInt64)) → ∃ c115 : Nat, sR σ112 a0 2 = some c115 ∧ sK σ112 c115 % 32 = 1 ∧ ∃ bc120 : Nat × Nat, bc120.1 ≤ b.1 - 1 ∧ bc120.2 ≤ b.2 - 5 ∧ P_Jx4a65c_add_9ea2d c115 (some q76) σ112 bc120 (fun x118 σ119 => ∃ c125 : Nat, sR σ119 a0 2 = some c125 ∧ sK σ119 c125 % 32 = 1 ∧ P_Jx4a65c_size_8abf5 c125 σ119 (fun x128 => Q (x128 - 1) σ119))))) ∧ (¬ (x70 ≤ v1) → ∃ c129 : Nat, sR σ a0 1 = some c129 ∧ sK σ c129 % 32 = 1 ∧ P_Jx4a65c_get_915e3 c129 v1 σ (fun r132 => ∃ c133 : Nat, r132 = some c133 ∧ sK σ c133 % 32 = 8 ∧ ∃ c136 : Nat, sR σ a0 7 = some c136 ∧ sK σ c136 % 32 = 5 ∧ P_X3_barrelAfter c136 v1 σ (fun x139 => ∀ σ140 : Sg, σ140 = pI σ c133 4 x139 → ∀ x143 : Int32, x143 = v1 + 1 → K99 x143 σ140))))
def P_X10_storm_L99 (a0 : Nat) (v1 : Int32) (σ : Sg) (b : Nat × Nat) (Q : Int32 → Sg → Prop) : Prop :=
  ∃ I : Nat → Int32 → Sg → Prop, (∃ n, I n v1 σ) ∧ ∀ (n : Nat) (v1 : Int32) (σ : Sg), I n v1 σ → P_X10_storm_L99b a0 v1 σ b Q (fun v1 σ => ∃ n', n' < n ∧ I n' v1 σ)
def P_X10_storm_B97 (a0 : Nat) (σ : Sg) (b : Nat × Nat) (Q : Int32 → Sg → Prop) : Prop :=
  P_X10_storm_L99 a0 0 σ (b.1, b.2) Q
def P_X10_storm_L28b (a0 : Nat) (v1 : Int32) (σ : Sg) (b : Nat × Nat) (Q : Int32 → Sg → Prop) (K28 : Int32 → Sg → Prop) : Prop :=
  sK σ a0 % 32 = 12 ∧ ∃ c19 : Nat, sR σ a0 0 = some c19 ∧ sK σ c19 % 32 = 1 ∧ P_Jx4a65c_size_8abf5 c19 σ (fun x22 => (x22 ≤ v1 → P_X10_storm_B97 a0 σ (b.1, b.2) Q) ∧ (¬ (x22 ≤ v1) → ∃ c24 : Nat, sR σ a0 7 = some c24 ∧ sK σ c24 % 32 = 5 ∧ ∃ c27 : Nat, sR σ c24 0 = some c27 ∧ sK σ c27 % 32 = 1 ∧ P_Jx4a65c_size_8abf5 c27 σ (fun x30 => (x30 ≤ v1 → P_X10_storm_B97 a0 σ (b.1, b.2) Q) ∧ (¬ (x30 ≤ v1) → ∃ c32 : Nat, sR σ a0 13 = some c32 ∧ sK σ c32 % 32 = 17 ∧ vp_in 1 (sN σ c32) ∧ ∃ c36 : Nat, sR σ a0 0 = some c36 ∧ sK σ c36 % 32 = 1 ∧ P_Jx4a65c_get_915e3 c36 v1 σ (fun r39 => ∃ c40 : Nat, r39 = some c40 ∧ sK σ c40 % 32 = 4 ∧ ∃ c43 : Nat, sR σ a0 7 = some c43 ∧ sK σ c43 % 32 = 5 ∧ ∃ c46 : Nat, sR σ c43 0 = some c46 ∧ sK σ c46 % 32 = 1 ∧ P_Jx4a65c_get_915e3 c46 v1 σ (fun r49 => ∃ c50 : Nat, r49 = some c50 ∧ sK σ c50 % 32 = 7 ∧ P_X2_takeOver c40 r49 σ (fun x53 σ54 => vp_in 1 (sN σ54 c32) ∧ ∀ σ59 : Sg, σ59 = pL σ54 c32 (1 : Int32).toNatClampNeg ((sL σ c32 (1 : Int32).toNatClampNeg) + x53.toInt64) → ∀ x62 : Int32, x62 = v1 + 1 → K28 x62 σ59)))))))
def P_X10_storm_L28 (a0 : Nat) (v1 : Int32) (σ : Sg) (b : Nat × Nat) (Q : Int32 → Sg → Prop) : Prop :=
  ∃ I : Nat → Int32 → Sg → Prop, (∃ n, I n v1 σ) ∧ ∀ (n : Nat) (v1 : Int32) (σ : Sg), I n v1 σ → P_X10_storm_L28b a0 v1 σ b Q (fun v1 σ => ∃ n', n' < n ∧ I n' v1 σ)
def P_X10_storm (a0 : Nat) (σ : Sg) (b : Nat × Nat) (Q : Int32 → Sg → Prop) : Prop :=
  sK σ a0 % 32 = 12 ∧ ∃ c2 : Nat, sR σ a0 2 = some c2 ∧ sK σ c2 % 32 = 1 ∧ P_Jx4a65c_size_8abf5 c2 σ (fun x5 => (x5 < 40 → P_X10_prepareFlow a0 σ (fun _ σ8 => ∃ c11 : Nat, sR σ8 a0 7 = some c11 ∧ sK σ8 c11 % 32 = 5 ∧ P_X3_run c11 0 σ8 (fun _ σ15 => P_X10_storm_L28 a0 0 σ15 (b.1, b.2) Q))) ∧ (¬ (x5 < 40) → Q (-1) σ))
set_option maxHeartbeats 4000000 in
set_option maxRecDepth 100000 in
theorem k_X10_storm (l : Launch) (D : Dg) (a0 : Nat) (σ : Sg) (b : Nat × Nat) (Q : Int32 → Sg → Prop) (h : P_X10_storm a0 σ b Q) : CtrY RA l D yX10_storm cX10_storm 2 (some FieldType.int) 7 171 mkI [.ref a0] σ b Q := by
  refine y_ctrA (lv := [(0, va_rf (some a0))]) (by decide) (by (exact Nat.le_of_ble_eq_true rfl)) (by (exact rfl)) (fun g hg hgL hgD hrm hgN hgI hend hal => ?_)
  subst hgD
  clear hgL
  unfold P_X10_storm at h
  have J99 : ∀ (v1 : Int32) (σ : Sg) (b : Nat × Nat), P_X10_storm_L99 a0 v1 σ b Q → XA g 99 [(0, va_rf (some a0)), (1, .int v1)] [] σ b := by
    intro v1 σ b h
    unfold P_X10_storm_L99 at h
    obtain ⟨I99, ⟨n99, hI99⟩, hs99⟩ := h
    have key99 : ∀ (n : Nat), ∀ (v1 : Int32) (σ : Sg), I99 n v1 σ → XA g 99 [(0, va_rf (some a0)), (1, .int v1)] [] σ b := by
      intro n
      induction n using Nat.strongRecOn with
      | _ n ih99 =>
      intro v1 σ hI
      have h := hs99 n v1 σ hI
      clear hI hI99 hs99
      obtain ⟨K99, hK99⟩ : ∃ K : Int32 → Sg → Prop, K = (fun v1 σ => ∃ n', n' < n ∧ I99 n' v1 σ) := ⟨_, rfl⟩
      rw [← hK99] at h
      unfold P_X10_storm_L99b at h
      refine y_iload_n hg 1 dX10_storm_99 rfl rfl ?_
      refine y_aload_n hg 0 dX10_storm_100 rfl rfl ?_
      obtain ⟨h66, h⟩ := h
      refine y_getR hg fl_X10_16 rfl rfl h66 dX10_storm_101 ?_
      obtain ⟨c67, h68, h⟩ := h
      obtain ⟨h69, h⟩ := h
      refine yVIP (Qp := _) (rest := [.int v1]) (As := []) hg (k_Jx4a65c_size_8abf5 (gL g.1) (gD g.1) c67 σ _ h) lv_X10_87 h68 h69 rfl rfl dX10_storm_104 (cat8 (Nat.le_of_ble_eq_true rfl)) hrm ⟨Nat.le_of_ble_eq_true rfl, Nat.le_of_ble_eq_true rfl⟩ (fun x70 h => ?_)
      refine y_icmp_ge (tgt := 138) hg dX10_storm_107 (by decide) (fun q71 => ?_) (fun q71 => ?_)
      · replace h := h.1 q71
        obtain ⟨κ72, q76, h73, h74, h75, h77, h78, h⟩ := h
        refine y_sub [0] rfl ?_
        refine y_new hg hal nl_X10_336 h73 h74 h75 h77 h78 (rll_c (lk_k rfl h66 (by decide)) rll_nil) rl_nil dX10_storm_138 ?_
        refine y_nmS (fun σ79 e80 => ?_)
        replace h := h σ79 e80
        refine y_dup hg dX10_storm_141 rfl ?_
        refine y_aload_n hg 0 dX10_storm_142 rfl rfl ?_
        refine y_getI hg fl_X10_120 rfl rfl (kw e80 h77 (by decide) h66) dX10_storm_143 ?_
        refine y_aload_n hg 0 dX10_storm_146 rfl rfl ?_
        refine yVIP (Qp := _) (rest := [.int (sI σ79 a0 15), va_rf (some q76), va_rf (some q76)]) (As := []) hg (k_X10_whatRains (gL g.1) (gD g.1) a0 σ79 _ h) lv_X10_338 rfl (kw e80 h77 (by decide) h66) rfl rfl dX10_storm_147 (cat8 (Nat.le_of_ble_eq_true rfl)) hrm ⟨Nat.le_of_ble_eq_true rfl, Nat.le_of_ble_eq_true rfl⟩ (fun x82 h => ?_)
        refine y_aload_n hg 0 dX10_storm_150 rfl rfl ?_
        refine y_getR hg fl_X10_47 rfl rfl (kw e80 h77 (by decide) h66) dX10_storm_151 ?_
        refine yIVW (Qm := _) (rest := [va_rf (some q76)]) (As := [.int (sI σ79 a0 15), .int x82, va_rf (sR σ79 a0 7)]) hg (k_X8_init (gL g.1) (gD g.1) q76 (sI σ79 a0 15) x82 (sR σ79 a0 7) σ79 _ h) li_X10_341 rfl rfl rfl dX10_storm_154 (cat8 (Nat.le_of_ble_eq_true rfl)) hrm ⟨Nat.le_of_ble_eq_true rfl, Nat.le_of_ble_eq_true rfl⟩ (fun u83 σ84 h h85 => ?_)
        have h86 := kp h85 (show ¬ 12 = 0 by decide) (kw e80 h77 (by decide) h66)
        have h87 := kp h85 (show ¬ 10 = 0 by decide) (kn e80 h73)
        refine y_astore_n (lv' := [(1, va_rf (some q76)), (0, va_rf (some a0))]) hg dX10_storm_157 rfl (by rw [hgN]; decide) rfl ?_
        refine y_aload_n hg 1 dX10_storm_158 rfl rfl ?_
        refine y_getR hg fl_X10_69 rfl rfl h86 dX10_storm_159 ?_
        refine y_iconst (v := 0) hg dX10_storm_162 (by decide) ?_
        refine y_dup2 hg dX10_storm_163 rfl (rf_cat _) ?_
        obtain ⟨c88, h89, h⟩ := h
        obtain ⟨h90, h⟩ := h
        obtain ⟨h91, h⟩ := h
        refine y_lald hg h89 h90 h91 dX10_storm_164 ?_
        refine y_aload_n hg 0 dX10_storm_165 rfl rfl ?_
        refine y_getI hg fl_X10_344 rfl rfl h87 dX10_storm_166 ?_
        refine y_i2l hg dX10_storm_169 ?_
        refine y_ladd hg dX10_storm_170 ?_
        obtain ⟨h92, h⟩ := h
        refine y_last hg h89 h90 h92 dX10_storm_171 ?_
        refine y_nmS (fun σ93 e94 => ?_)
        replace h := h σ93 e94
        have E95 : sK σ93 = sK σ84 := by rw [e94]; rfl
        refine y_aload_n hg 1 dX10_storm_172 rfl rfl ?_
        refine y_getR hg fl_X10_69 rfl rfl (kq E95 h86) dX10_storm_173 ?_
        refine y_iconst (v := 2) hg dX10_storm_176 (by decide) ?_
        refine y_dup2 hg dX10_storm_177 rfl (rf_cat _) ?_
        obtain ⟨c96, h97, h⟩ := h
        obtain ⟨h98, h⟩ := h
        obtain ⟨h99, h⟩ := h
        refine y_lald hg h97 h98 h99 dX10_storm_178 ?_
        refine y_aload_n hg 0 dX10_storm_179 rfl rfl ?_
        refine y_getI hg fl_X10_347 rfl rfl (kq E95 h87) dX10_storm_180 ?_
        refine y_i2l hg dX10_storm_183 ?_
        refine y_ladd hg dX10_storm_184 ?_
        obtain ⟨h100, h⟩ := h
        refine y_last hg h97 h98 h100 dX10_storm_185 ?_
        refine y_nmS (fun σ101 e102 => ?_)
        replace h := h σ101 e102
        have E103 : sK σ101 = sK σ93 := by rw [e102]; rfl
        refine y_aload_n hg 1 dX10_storm_186 rfl rfl ?_
        refine y_getR hg fl_X10_69 rfl rfl (kq E103 (kq E95 h86)) dX10_storm_187 ?_
        refine y_iconst (v := 3) hg dX10_storm_190 (by decide) ?_
        refine y_dup2 hg dX10_storm_191 rfl (rf_cat _) ?_
        obtain ⟨c104, h105, h⟩ := h
        obtain ⟨h106, h⟩ := h
        obtain ⟨h107, h⟩ := h
        refine y_lald hg h105 h106 h107 dX10_storm_192 ?_
        refine y_aload_n hg 1 dX10_storm_193 rfl rfl ?_
        refine y_getR hg fl_X10_47 rfl rfl (kq E103 (kq E95 h86)) dX10_storm_194 ?_
        obtain ⟨c108, h109, h⟩ := h
        obtain ⟨h110, h⟩ := h
        refine y_getI hg fl_X10_348 rfl h109 h110 dX10_storm_197 ?_
        refine y_i2l hg dX10_storm_200 ?_
        refine y_ladd hg dX10_storm_201 ?_
        obtain ⟨h111, h⟩ := h
        refine y_last hg h105 h106 h111 dX10_storm_202 ?_
        refine y_nmS (fun σ112 e113 => ?_)
        replace h := h σ112 e113
        have E114 : sK σ112 = sK σ101 := by rw [e113]; rfl
        refine y_aload_n hg 1 dX10_storm_203 rfl rfl ?_
        refine y_getR hg fl_X10_19 rfl rfl (kq E114 (kq E103 (kq E95 h86))) dX10_storm_204 ?_
        refine y_aload_n hg 0 dX10_storm_207 rfl rfl ?_
        obtain ⟨c115, h116, h⟩ := h
        obtain ⟨h117, h⟩ := h
        obtain ⟨bc120, h121, h122, h⟩ := h
        refine y_sub [1] rfl ?_
        refine yVIA (Qm := _) (rest := []) (As := [va_rf (some q76)]) hg hal (k_Jx4a65c_add_9ea2d (gL g.1) (gD g.1) c115 (some q76) σ112 bc120 _ h) lv_X10_96 h116 h117 rfl rfl dX10_storm_208 (cat8 (Nat.le_of_ble_eq_true rfl)) hrm ⟨Nat.le_of_ble_eq_true rfl, Nat.le_of_ble_eq_true rfl⟩ h121 h122 (rll_c (lk_k rfl (kq E114 (kq E103 (kq E95 h86))) (by decide)) rll_nil) rl_nil (fun x118 σ119 h h123 => ?_)
        have h124 := kp h123 (show ¬ 12 = 0 by decide) (kq E114 (kq E103 (kq E95 h86)))
        refine y_pop hg dX10_storm_211 rfl ?_
        refine y_aload_n hg 0 dX10_storm_212 rfl rfl ?_
        refine y_getR hg fl_X10_19 rfl rfl h124 dX10_storm_213 ?_
        obtain ⟨c125, h126, h⟩ := h
        obtain ⟨h127, h⟩ := h
        refine yVIP (Qp := _) (rest := []) (As := []) hg (k_Jx4a65c_size_8abf5 (gL g.1) (gD g.1) c125 σ119 _ h) lv_X10_87 h126 h127 rfl rfl dX10_storm_216 (cat8 (Nat.le_of_ble_eq_true rfl)) hrm ⟨Nat.le_of_ble_eq_true rfl, Nat.le_of_ble_eq_true rfl⟩ (fun x128 h => ?_)
        refine y_iconst (v := 1) hg dX10_storm_219 (by decide) ?_
        refine y_isub hg dX10_storm_220 ?_
        exact yEndI hend rfl dX10_storm_221 h
      · replace h := h.2 q71
        refine y_aload_n hg 0 dX10_storm_110 rfl rfl ?_
        refine y_getR hg fl_X10_16 rfl rfl h66 dX10_storm_111 ?_
        refine y_iload_n hg 1 dX10_storm_114 rfl rfl ?_
        obtain ⟨c129, h130, h⟩ := h
        obtain ⟨h131, h⟩ := h
        refine yVRP (Qp := _) (rest := []) (As := [.int v1]) hg (k_Jx4a65c_get_915e3 (gL g.1) (gD g.1) c129 v1 σ _ h) lv_X10_232 h130 h131 rfl rfl dX10_storm_115 (cat8 (Nat.le_of_ble_eq_true rfl)) hrm ⟨Nat.le_of_ble_eq_true rfl, Nat.le_of_ble_eq_true rfl⟩ (fun r132 h => ?_)
        obtain ⟨c133, h134, h⟩ := h
        obtain ⟨h135, h⟩ := h
        refine y_cast (c := 8) hg (C := RX6) rfl (by decide) cl_X10_107 h134 h135 dX10_storm_118 ?_
        refine y_aload_n hg 0 dX10_storm_121 rfl rfl ?_
        refine y_getR hg fl_X10_47 rfl rfl h66 dX10_storm_122 ?_
        refine y_iload_n hg 1 dX10_storm_125 rfl rfl ?_
        obtain ⟨c136, h137, h⟩ := h
        obtain ⟨h138, h⟩ := h
        refine yVIP (Qp := _) (rest := [va_rf r132]) (As := [.int v1]) hg (k_X3_barrelAfter (gL g.1) (gD g.1) c136 v1 σ _ h) lv_X10_333 h137 h138 rfl rfl dX10_storm_126 (cat8 (Nat.le_of_ble_eq_true rfl)) hrm ⟨Nat.le_of_ble_eq_true rfl, Nat.le_of_ble_eq_true rfl⟩ (fun x139 h => ?_)
        refine y_putI hg fw_X10_228 (fun z => nomatch z) h134 h135 dX10_storm_129 ?_
        refine y_nmS (fun σ140 e141 => ?_)
        replace h := h σ140 e141
        have E142 : sK σ140 = sK σ := by rw [e141]; rfl
        obtain ⟨x143, e144⟩ : ∃ y : Int32, y = v1 + 1 := ⟨_, rfl⟩
        replace h := h x143 e144
        refine y_iinc (v := x143) (lv' := [(1, .int x143), (0, va_rf (some a0))]) hg 1 dX10_storm_132 rfl (by rw [e144]; rfl) (by rw [hgN]; decide) rfl ?_
        refine y_goto (tgt := 99) hg dX10_storm_135 (by decide) ?_
        refine y_sub [1, 0] rfl ?_
        subst hK99
        obtain ⟨n145, h146, h⟩ := h
        exact ih99 n145 h146 _ _ h
    exact key99 n99 v1 σ hI99
  have J97 : ∀ (σ : Sg) (b : Nat × Nat), P_X10_storm_B97 a0 σ b Q → XA g 97 [(0, va_rf (some a0))] [] σ b := by
    intro σ b h
    unfold P_X10_storm_B97 at h
    refine y_iconst (v := 0) hg dX10_storm_97 (by decide) ?_
    refine y_istore_n (lv' := [(1, .int 0), (0, va_rf (some a0))]) hg dX10_storm_98 rfl (by rw [hgN]; decide) rfl ?_
    refine y_sub [1, 0] rfl ?_
    exact J99 _ _ _ h
  have J28 : ∀ (v1 : Int32) (σ : Sg) (b : Nat × Nat), P_X10_storm_L28 a0 v1 σ b Q → XA g 28 [(0, va_rf (some a0)), (1, .int v1)] [] σ b := by
    intro v1 σ b h
    unfold P_X10_storm_L28 at h
    obtain ⟨I28, ⟨n28, hI28⟩, hs28⟩ := h
    have key28 : ∀ (n : Nat), ∀ (v1 : Int32) (σ : Sg), I28 n v1 σ → XA g 28 [(0, va_rf (some a0)), (1, .int v1)] [] σ b := by
      intro n
      induction n using Nat.strongRecOn with
      | _ n ih28 =>
      intro v1 σ hI
      have h := hs28 n v1 σ hI
      clear hI hI28 hs28
      obtain ⟨K28, hK28⟩ : ∃ K : Int32 → Sg → Prop, K = (fun v1 σ => ∃ n', n' < n ∧ I28 n' v1 σ) := ⟨_, rfl⟩
      rw [← hK28] at h
      unfold P_X10_storm_L28b at h
      refine y_iload_n hg 1 dX10_storm_28 rfl rfl ?_
      refine y_aload_n hg 0 dX10_storm_29 rfl rfl ?_
      obtain ⟨h18, h⟩ := h
      refine y_getR hg fl_X10_10 rfl rfl h18 dX10_storm_30 ?_
      obtain ⟨c19, h20, h⟩ := h
      obtain ⟨h21, h⟩ := h
      refine yVIP (Qp := _) (rest := [.int v1]) (As := []) hg (k_Jx4a65c_size_8abf5 (gL g.1) (gD g.1) c19 σ _ h) lv_X10_87 h20 h21 rfl rfl dX10_storm_33 (cat8 (Nat.le_of_ble_eq_true rfl)) hrm ⟨Nat.le_of_ble_eq_true rfl, Nat.le_of_ble_eq_true rfl⟩ (fun x22 h => ?_)
      refine y_icmp_ge (tgt := 97) hg dX10_storm_36 (by decide) (fun q23 => ?_) (fun q23 => ?_)
      · replace h := h.1 q23
        refine y_sub [0] rfl ?_
        exact J97 _ _ h
      · replace h := h.2 q23
        refine y_iload_n hg 1 dX10_storm_39 rfl rfl ?_
        refine y_aload_n hg 0 dX10_storm_40 rfl rfl ?_
        refine y_getR hg fl_X10_47 rfl rfl h18 dX10_storm_41 ?_
        obtain ⟨c24, h25, h⟩ := h
        obtain ⟨h26, h⟩ := h
        refine y_getR hg fl_X10_324 rfl h25 h26 dX10_storm_44 ?_
        obtain ⟨c27, h28, h⟩ := h
        obtain ⟨h29, h⟩ := h
        refine yVIP (Qp := _) (rest := [.int v1]) (As := []) hg (k_Jx4a65c_size_8abf5 (gL g.1) (gD g.1) c27 σ _ h) lv_X10_87 h28 h29 rfl rfl dX10_storm_47 (cat8 (Nat.le_of_ble_eq_true rfl)) hrm ⟨Nat.le_of_ble_eq_true rfl, Nat.le_of_ble_eq_true rfl⟩ (fun x30 h => ?_)
        refine y_icmp_ge (tgt := 97) hg dX10_storm_50 (by decide) (fun q31 => ?_) (fun q31 => ?_)
        · replace h := h.1 q31
          refine y_sub [0] rfl ?_
          exact J97 _ _ h
        · replace h := h.2 q31
          refine y_aload_n hg 0 dX10_storm_53 rfl rfl ?_
          refine y_getR hg fl_X10_69 rfl rfl h18 dX10_storm_54 ?_
          refine y_iconst (v := 1) hg dX10_storm_57 (by decide) ?_
          refine y_dup2 hg dX10_storm_58 rfl (rf_cat _) ?_
          obtain ⟨c32, h33, h⟩ := h
          obtain ⟨h34, h⟩ := h
          obtain ⟨h35, h⟩ := h
          refine y_lald hg h33 h34 h35 dX10_storm_59 ?_
          refine y_aload_n hg 0 dX10_storm_60 rfl rfl ?_
          refine y_getR hg fl_X10_10 rfl rfl h18 dX10_storm_61 ?_
          refine y_iload_n hg 1 dX10_storm_64 rfl rfl ?_
          obtain ⟨c36, h37, h⟩ := h
          obtain ⟨h38, h⟩ := h
          refine yVRP (Qp := _) (rest := [.long (sL σ c32 (1 : Int32).toNatClampNeg), .int 1, va_rf (sR σ a0 13)]) (As := [.int v1]) hg (k_Jx4a65c_get_915e3 (gL g.1) (gD g.1) c36 v1 σ _ h) lv_X10_232 h37 h38 rfl rfl dX10_storm_65 (cat8 (Nat.le_of_ble_eq_true rfl)) hrm ⟨Nat.le_of_ble_eq_true rfl, Nat.le_of_ble_eq_true rfl⟩ (fun r39 h => ?_)
          obtain ⟨c40, h41, h⟩ := h
          obtain ⟨h42, h⟩ := h
          refine y_cast (c := 4) hg (C := RX2) rfl (by decide) cl_X10_91 h41 h42 dX10_storm_68 ?_
          refine y_aload_n hg 0 dX10_storm_71 rfl rfl ?_
          refine y_getR hg fl_X10_47 rfl rfl h18 dX10_storm_72 ?_
          obtain ⟨c43, h44, h⟩ := h
          obtain ⟨h45, h⟩ := h
          refine y_getR hg fl_X10_324 rfl h44 h45 dX10_storm_75 ?_
          refine y_iload_n hg 1 dX10_storm_78 rfl rfl ?_
          obtain ⟨c46, h47, h⟩ := h
          obtain ⟨h48, h⟩ := h
          refine yVRP (Qp := _) (rest := [va_rf r39, .long (sL σ c32 (1 : Int32).toNatClampNeg), .int 1, va_rf (sR σ a0 13)]) (As := [.int v1]) hg (k_Jx4a65c_get_915e3 (gL g.1) (gD g.1) c46 v1 σ _ h) lv_X10_232 h47 h48 rfl rfl dX10_storm_79 (cat8 (Nat.le_of_ble_eq_true rfl)) hrm ⟨Nat.le_of_ble_eq_true rfl, Nat.le_of_ble_eq_true rfl⟩ (fun r49 h => ?_)
          obtain ⟨c50, h51, h⟩ := h
          obtain ⟨h52, h⟩ := h
          refine y_cast (c := 7) hg (C := RX5) rfl (by decide) cl_X10_327 h51 h52 dX10_storm_82 ?_
          refine yVIW (Qm := _) (rest := [.long (sL σ c32 (1 : Int32).toNatClampNeg), .int 1, va_rf (sR σ a0 13)]) (As := [va_rf r49]) hg (k_X2_takeOver (gL g.1) (gD g.1) c40 r49 σ _ h) lv_X10_329 h41 h42 rfl rfl dX10_storm_85 (cat8 (Nat.le_of_ble_eq_true rfl)) hrm ⟨Nat.le_of_ble_eq_true rfl, Nat.le_of_ble_eq_true rfl⟩ (fun x53 σ54 h h55 => ?_)
          have h56 := kp h55 (show ¬ 12 = 0 by decide) h18
          have h57 := kp h55 (show ¬ 17 = 0 by decide) h34
          refine y_i2l hg dX10_storm_88 ?_
          refine y_ladd hg dX10_storm_89 ?_
          obtain ⟨h58, h⟩ := h
          refine y_last hg h33 h57 h58 dX10_storm_90 ?_
          refine y_nmS (fun σ59 e60 => ?_)
          replace h := h σ59 e60
          have E61 : sK σ59 = sK σ54 := by rw [e60]; rfl
          obtain ⟨x62, e63⟩ : ∃ y : Int32, y = v1 + 1 := ⟨_, rfl⟩
          replace h := h x62 e63
          refine y_iinc (v := x62) (lv' := [(1, .int x62), (0, va_rf (some a0))]) hg 1 dX10_storm_91 rfl (by rw [e63]; rfl) (by rw [hgN]; decide) rfl ?_
          refine y_goto (tgt := 28) hg dX10_storm_94 (by decide) ?_
          refine y_sub [1, 0] rfl ?_
          subst hK28
          obtain ⟨n64, h65, h⟩ := h
          exact ih28 n64 h65 _ _ h
    exact key28 n28 v1 σ hI28
  refine y_aload_n hg 0 dX10_storm_0 rfl rfl ?_
  obtain ⟨h1, h⟩ := h
  refine y_getR hg fl_X10_19 rfl rfl h1 dX10_storm_1 ?_
  obtain ⟨c2, h3, h⟩ := h
  obtain ⟨h4, h⟩ := h
  refine yVIP (Qp := _) (rest := []) (As := []) hg (k_Jx4a65c_size_8abf5 (gL g.1) (gD g.1) c2 σ _ h) lv_X10_87 h3 h4 rfl rfl dX10_storm_4 (cat8 (Nat.le_of_ble_eq_true rfl)) hrm ⟨Nat.le_of_ble_eq_true rfl, Nat.le_of_ble_eq_true rfl⟩ (fun x5 h => ?_)
  refine y_bipush (v := 40) hg dX10_storm_7 (by decide) ?_
  refine y_icmp_lt (tgt := 14) hg dX10_storm_9 (by decide) (fun q6 => ?_) (fun q6 => ?_)
  · replace h := h.1 q6
    refine y_aload_n hg 0 dX10_storm_14 rfl rfl ?_
    refine yVVW (Qm := _) (rest := []) (As := []) hg (k_X10_prepareFlow (gL g.1) (gD g.1) a0 σ _ h) lv_X10_318 rfl h1 rfl rfl dX10_storm_15 (cat8 (Nat.le_of_ble_eq_true rfl)) hrm ⟨Nat.le_of_ble_eq_true rfl, Nat.le_of_ble_eq_true rfl⟩ (fun u7 σ8 h h9 => ?_)
    have h10 := kp h9 (show ¬ 12 = 0 by decide) h1
    refine y_aload_n hg 0 dX10_storm_18 rfl rfl ?_
    refine y_getR hg fl_X10_47 rfl rfl h10 dX10_storm_19 ?_
    refine y_iconst (v := 0) hg dX10_storm_22 (by decide) ?_
    obtain ⟨c11, h12, h⟩ := h
    obtain ⟨h13, h⟩ := h
    refine yVVW (Qm := _) (rest := []) (As := [.int 0]) hg (k_X3_run (gL g.1) (gD g.1) c11 0 σ8 _ h) lv_X10_321 h12 h13 rfl rfl dX10_storm_23 (cat8 (Nat.le_of_ble_eq_true rfl)) hrm ⟨Nat.le_of_ble_eq_true rfl, Nat.le_of_ble_eq_true rfl⟩ (fun u14 σ15 h h16 => ?_)
    have h17 := kp h16 (show ¬ 12 = 0 by decide) h10
    refine y_iconst (v := 0) hg dX10_storm_26 (by decide) ?_
    refine y_istore_n (lv' := [(1, .int 0), (0, va_rf (some a0))]) hg dX10_storm_27 rfl (by rw [hgN]; decide) rfl ?_
    refine y_sub [1, 0] rfl ?_
    exact J28 _ _ _ h
  · replace h := h.2 q6
    refine y_iconst (v := (-1)) hg dX10_storm_12 (by decide) ?_
    exact yEndI hend rfl dX10_storm_13 h
def P_X10_isFree_B61 (a0 : Nat) (v1 : Int32) (v2 : Int32) (σ : Sg) (Q : Int32 → Prop) (K23 : Int32 → Prop) : Prop :=
  ∀ x26 : Int32, x26 = v2 + 1 → K23 x26
def P_X10_isFree_L23b (a0 : Nat) (v1 : Int32) (v2 : Int32) (σ : Sg) (Q : Int32 → Prop) (K23 : Int32 → Prop) : Prop :=
  sK σ a0 % 32 = 12 ∧ ∃ c9 : Nat, sR σ a0 0 = some c9 ∧ sK σ c9 % 32 = 1 ∧ P_Jx4a65c_size_8abf5 c9 σ (fun x12 => (x12 ≤ v2 → Q 1) ∧ (¬ (x12 ≤ v2) → P_X10_holds v1 v2 σ (fun x14 => (x14 = 0 → P_X10_isFree_B61 a0 v1 v2 σ Q K23) ∧ (¬ (x14 = 0) → ∃ c16 : Nat, sR σ a0 0 = some c16 ∧ sK σ c16 % 32 = 1 ∧ P_Jx4a65c_get_915e3 c16 v2 σ (fun r19 => ∃ c20 : Nat, r19 = some c20 ∧ sK σ c20 % 32 = 4 ∧ (sR σ c20 5 = none → P_X10_isFree_B61 a0 v1 v2 σ Q K23) ∧ (∀ c23 : Nat, sR σ c20 5 = some c23 → Q 0))))))
def P_X10_isFree_L23 (a0 : Nat) (v1 : Int32) (v2 : Int32) (σ : Sg) (Q : Int32 → Prop) : Prop :=
  ∃ I : Nat → Int32 → Prop, (∃ n, I n v2) ∧ ∀ (n : Nat) (v2 : Int32), I n v2 → P_X10_isFree_L23b a0 v1 v2 σ Q (fun v2 => ∃ n', n' < n ∧ I n' v2)
def P_X10_isFree (a0 : Nat) (v1 : Int32) (σ : Sg) (Q : Int32 → Prop) : Prop :=
  sK σ a0 % 32 = 12 ∧ ∃ c2 : Nat, sR σ a0 0 = some c2 ∧ sK σ c2 % 32 = 1 ∧ P_Jx4a65c_size_8abf5 c2 σ (fun x5 => P_X10_within v1 0 ((1 <<< (x5 &&& 31)) - 1) σ (fun x6 => (x6 = 0 → Q 0) ∧ (¬ (x6 = 0) → P_X10_isFree_L23 a0 v1 0 σ Q)))
set_option maxHeartbeats 4000000 in
set_option maxRecDepth 100000 in
theorem k_X10_isFree (l : Launch) (D : Dg) (a0 : Nat) (v1 : Int32) (σ : Sg) (Q : Int32 → Prop) (h : P_X10_isFree a0 v1 σ Q) : CtrY RN l D yX10_isFree cX10_isFree 3 (some FieldType.boolean) 3 64 mkI [.ref a0, .int v1] σ (0, 0) (fun r σ2 => Q r ∧ σ2 = σ) := by
  refine y_ctrN (lv := [(0, va_rf (some a0)), (1, .int v1)]) (by decide) (by (exact Nat.le_of_ble_eq_true rfl)) (by (exact rfl)) (fun g hg hgL hgD hrm hgN hgI hend => ?_)
  subst hgD
  clear hgL
  unfold P_X10_isFree at h
  have J23 : ∀ (v1 : Int32) (v2 : Int32), P_X10_isFree_L23 a0 v1 v2 σ Q → XA g 23 [(0, va_rf (some a0)), (1, .int v1), (2, .int v2)] [] σ (0, 0) := by
    intro v1 v2 h
    unfold P_X10_isFree_L23 at h
    obtain ⟨I23, ⟨n23, hI23⟩, hs23⟩ := h
    have key23 : ∀ (n : Nat), ∀ (v2 : Int32), I23 n v2 → XA g 23 [(0, va_rf (some a0)), (1, .int v1), (2, .int v2)] [] σ (0, 0) := by
      intro n
      induction n using Nat.strongRecOn with
      | _ n ih23 =>
      intro v2 hI
      have h := hs23 n v2 hI
      clear hI hI23 hs23
      obtain ⟨K23, hK23⟩ : ∃ K : Int32 → Prop, K = (fun v2 => ∃ n', n' < n ∧ I23 n' v2) := ⟨_, rfl⟩
      rw [← hK23] at h
      unfold P_X10_isFree_L23b at h
      have J61 : ∀ (v2 : Int32), P_X10_isFree_B61 a0 v1 v2 σ Q K23 → XA g 61 [(0, va_rf (some a0)), (1, .int v1), (2, .int v2)] [] σ (0, 0) := by
        intro v2 h
        unfold P_X10_isFree_B61 at h
        obtain ⟨x26, e27⟩ : ∃ y : Int32, y = v2 + 1 := ⟨_, rfl⟩
        replace h := h x26 e27
        refine y_iinc (v := x26) (lv' := [(2, .int x26), (0, va_rf (some a0)), (1, .int v1)]) hg 2 dX10_isFree_61 rfl (by rw [e27]; rfl) (by rw [hgN]; decide) rfl ?_
        refine y_goto (tgt := 23) hg dX10_isFree_64 (by decide) ?_
        refine y_sub [1, 2, 0] rfl ?_
        subst hK23
        obtain ⟨n28, h29, h⟩ := h
        exact ih23 n28 h29 _ h
      refine y_iload_n hg 2 dX10_isFree_23 rfl rfl ?_
      refine y_aload_n hg 0 dX10_isFree_24 rfl rfl ?_
      obtain ⟨h8, h⟩ := h
      refine y_getR hg fl_X10_10 rfl rfl h8 dX10_isFree_25 ?_
      obtain ⟨c9, h10, h⟩ := h
      obtain ⟨h11, h⟩ := h
      refine yVIP (Qp := _) (rest := [.int v2]) (As := []) hg (k_Jx4a65c_size_8abf5 (gL g.1) (gD g.1) c9 σ _ h) lv_X10_87 h10 h11 rfl rfl dX10_isFree_28 (cat8 (Nat.le_of_ble_eq_true rfl)) hrm ⟨Nat.le_of_ble_eq_true rfl, Nat.le_of_ble_eq_true rfl⟩ (fun x12 h => ?_)
      refine y_icmp_ge (tgt := 67) hg dX10_isFree_31 (by decide) (fun q13 => ?_) (fun q13 => ?_)
      · replace h := h.1 q13
        refine y_iconst (v := 1) hg dX10_isFree_67 (by decide) ?_
        exact yEndI hend (bz_nar (Or.inr rfl)).1 dX10_isFree_68 ⟨h, rfl⟩
      · replace h := h.2 q13
        refine y_iload_n hg 1 dX10_isFree_34 rfl rfl ?_
        refine y_iload_n hg 2 dX10_isFree_35 rfl rfl ?_
        refine ySIP (Qp := _) (rest := []) (As := [.int v1, .int v2]) hg (k_X10_holds (gL g.1) (gD g.1) v1 v2 σ _ h) ls_X10_239 rfl rfl dX10_isFree_36 (cat8 (Nat.le_of_ble_eq_true rfl)) hrm ⟨Nat.le_of_ble_eq_true rfl, Nat.le_of_ble_eq_true rfl⟩ (fun x14 h => ?_)
        refine y_if_eq (tgt := 61) hg dX10_isFree_39 (by decide) (fun q15 => ?_) (fun q15 => ?_)
        · replace h := h.1 q15
          refine y_sub [0, 1, 2] rfl ?_
          exact J61 _ h
        · replace h := h.2 q15
          refine y_aload_n hg 0 dX10_isFree_42 rfl rfl ?_
          refine y_getR hg fl_X10_10 rfl rfl h8 dX10_isFree_43 ?_
          refine y_iload_n hg 2 dX10_isFree_46 rfl rfl ?_
          obtain ⟨c16, h17, h⟩ := h
          obtain ⟨h18, h⟩ := h
          refine yVRP (Qp := _) (rest := []) (As := [.int v2]) hg (k_Jx4a65c_get_915e3 (gL g.1) (gD g.1) c16 v2 σ _ h) lv_X10_232 h17 h18 rfl rfl dX10_isFree_47 (cat8 (Nat.le_of_ble_eq_true rfl)) hrm ⟨Nat.le_of_ble_eq_true rfl, Nat.le_of_ble_eq_true rfl⟩ (fun r19 h => ?_)
          obtain ⟨c20, h21, h⟩ := h
          obtain ⟨h22, h⟩ := h
          refine y_cast (c := 4) hg (C := RX2) rfl (by decide) cl_X10_91 h21 h22 dX10_isFree_50 ?_
          refine y_getR hg fl_X10_110 rfl h21 h22 dX10_isFree_53 ?_
          refine y_ifnull (tgt := 61) hg dX10_isFree_56 (by decide) (fun h24 => ?_) (fun c23 h25 => ?_)
          · replace h := h.1 h24
            refine y_sub [0, 1, 2] rfl ?_
            exact J61 _ h
          · replace h := h.2 c23 h25
            refine y_iconst (v := 0) hg dX10_isFree_59 (by decide) ?_
            exact yEndI hend (bz_nar (Or.inl rfl)).1 dX10_isFree_60 ⟨h, rfl⟩
    exact key23 n23 v2 hI23
  refine y_iload_n hg 1 dX10_isFree_0 rfl rfl ?_
  refine y_iconst (v := 0) hg dX10_isFree_1 (by decide) ?_
  refine y_iconst (v := 1) hg dX10_isFree_2 (by decide) ?_
  refine y_aload_n hg 0 dX10_isFree_3 rfl rfl ?_
  obtain ⟨h1, h⟩ := h
  refine y_getR hg fl_X10_10 rfl rfl h1 dX10_isFree_4 ?_
  obtain ⟨c2, h3, h⟩ := h
  obtain ⟨h4, h⟩ := h
  refine yVIP (Qp := _) (rest := [.int 1, .int 0, .int v1]) (As := []) hg (k_Jx4a65c_size_8abf5 (gL g.1) (gD g.1) c2 σ _ h) lv_X10_87 h3 h4 rfl rfl dX10_isFree_7 (cat8 (Nat.le_of_ble_eq_true rfl)) hrm ⟨Nat.le_of_ble_eq_true rfl, Nat.le_of_ble_eq_true rfl⟩ (fun x5 h => ?_)
  refine y_ishl hg dX10_isFree_10 ?_
  refine y_iconst (v := 1) hg dX10_isFree_11 (by decide) ?_
  refine y_isub hg dX10_isFree_12 ?_
  refine ySIP (Qp := _) (rest := []) (As := [.int v1, .int 0, .int ((1 <<< (x5 &&& 31)) - 1)]) hg (k_X10_within (gL g.1) (gD g.1) v1 0 ((1 <<< (x5 &&& 31)) - 1) σ _ h) ls_X10_83 rfl rfl dX10_isFree_13 (cat8 (Nat.le_of_ble_eq_true rfl)) hrm ⟨Nat.le_of_ble_eq_true rfl, Nat.le_of_ble_eq_true rfl⟩ (fun x6 h => ?_)
  refine y_if_ne (tgt := 21) hg dX10_isFree_16 (by decide) (fun q7 => ?_) (fun q7 => ?_)
  · replace h := h.2 q7
    refine y_iconst (v := 0) hg dX10_isFree_21 (by decide) ?_
    refine y_istore_n (lv' := [(2, .int 0), (0, va_rf (some a0)), (1, .int v1)]) hg dX10_isFree_22 rfl (by rw [hgN]; decide) rfl ?_
    refine y_sub [1, 2, 0] rfl ?_
    exact J23 _ _ h
  · replace h := h.1 q7
    refine y_iconst (v := 0) hg dX10_isFree_19 (by decide) ?_
    exact yEndI hend (bz_nar (Or.inl rfl)).1 dX10_isFree_20 ⟨h, rfl⟩
def P_X10_tried (a0 : Nat) (v1 : Int32) (v2 : Int32) (σ : Sg) (Q : Int64 → Sg → Prop) : Prop :=
  P_X10_within v2 0 1 σ (fun x1 => (x1 = 0 → Q (-1) σ) ∧ (¬ (x1 = 0) → sK σ a0 % 32 = 12 ∧ P_X10_isFree a0 v1 σ (fun x4 => (x4 = 0 → Q (-1) σ) ∧ (¬ (x4 = 0) → P_X10_prepareFlow a0 σ (fun _ σ7 => ∃ c10 : Nat, sR σ7 a0 7 = some c10 ∧ sK σ7 c10 % 32 = 5 ∧ P_X3_run c10 v1 σ7 (fun _ σ14 => (v2 = 0 → ∃ c22 : Nat, sR σ14 a0 7 = some c22 ∧ sK σ14 c22 % 32 = 5 ∧ P_X3_spilt c22 σ14 (fun x25 => Q x25.toInt64 σ14)) ∧ (¬ (v2 = 0) → ∃ c18 : Nat, sR σ14 a0 7 = some c18 ∧ sK σ14 c18 % 32 = 5 ∧ P_X3_wet c18 σ14 (fun x21 => Q x21.toInt64 σ14))))))))
set_option maxHeartbeats 4000000 in
set_option maxRecDepth 100000 in
theorem k_X10_tried (l : Launch) (D : Dg) (a0 : Nat) (v1 : Int32) (v2 : Int32) (σ : Sg) (Q : Int64 → Sg → Prop) (h : P_X10_tried a0 v1 v2 σ Q) : CtrY RN l D yX10_tried cX10_tried 3 (some FieldType.long) 5 110 mkL [.ref a0, .int v1, .int v2] σ (0, 0) Q := by
  refine y_ctrN (lv := [(0, va_rf (some a0)), (1, .int v1), (2, .int v2)]) (by decide) (by (exact Nat.le_of_ble_eq_true rfl)) (by (exact rfl)) (fun g hg hgL hgD hrm hgN hgI hend => ?_)
  subst hgD
  clear hgL
  unfold P_X10_tried at h
  refine y_iload_n hg 2 dX10_tried_0 rfl rfl ?_
  refine y_iconst (v := 0) hg dX10_tried_1 (by decide) ?_
  refine y_iconst (v := 1) hg dX10_tried_2 (by decide) ?_
  refine ySIP (Qp := _) (rest := []) (As := [.int v2, .int 0, .int 1]) hg (k_X10_within (gL g.1) (gD g.1) v2 0 1 σ _ h) ls_X10_83 rfl rfl dX10_tried_3 (cat8 (Nat.le_of_ble_eq_true rfl)) hrm ⟨Nat.le_of_ble_eq_true rfl, Nat.le_of_ble_eq_true rfl⟩ (fun x1 h => ?_)
  refine y_if_eq (tgt := 17) hg dX10_tried_6 (by decide) (fun q2 => ?_) (fun q2 => ?_)
  · replace h := h.1 q2
    refine y_ldc2 hg cw_X10_362 dX10_tried_17 ?_
    exact yEndL hend dX10_tried_20 h
  · replace h := h.2 q2
    refine y_aload_n hg 0 dX10_tried_9 rfl rfl ?_
    refine y_iload_n hg 1 dX10_tried_10 rfl rfl ?_
    obtain ⟨h3, h⟩ := h
    refine yVIP (Qp := _) (rest := []) (As := [.int v1]) hg (k_X10_isFree (gL g.1) (gD g.1) a0 v1 σ _ h) lv_X10_359 rfl h3 rfl rfl dX10_tried_11 (cat8 (Nat.le_of_ble_eq_true rfl)) hrm ⟨Nat.le_of_ble_eq_true rfl, Nat.le_of_ble_eq_true rfl⟩ (fun x4 h => ?_)
    refine y_if_ne (tgt := 21) hg dX10_tried_14 (by decide) (fun q5 => ?_) (fun q5 => ?_)
    · replace h := h.2 q5
      refine y_aload_n hg 0 dX10_tried_21 rfl rfl ?_
      refine yVVW (Qm := _) (rest := []) (As := []) hg (k_X10_prepareFlow (gL g.1) (gD g.1) a0 σ _ h) lv_X10_318 rfl h3 rfl rfl dX10_tried_22 (cat8 (Nat.le_of_ble_eq_true rfl)) hrm ⟨Nat.le_of_ble_eq_true rfl, Nat.le_of_ble_eq_true rfl⟩ (fun u6 σ7 h h8 => ?_)
      have h9 := kp h8 (show ¬ 12 = 0 by decide) h3
      refine y_aload_n hg 0 dX10_tried_25 rfl rfl ?_
      refine y_getR hg fl_X10_47 rfl rfl h9 dX10_tried_26 ?_
      refine y_iload_n hg 1 dX10_tried_29 rfl rfl ?_
      obtain ⟨c10, h11, h⟩ := h
      obtain ⟨h12, h⟩ := h
      refine yVVW (Qm := _) (rest := []) (As := [.int v1]) hg (k_X3_run (gL g.1) (gD g.1) c10 v1 σ7 _ h) lv_X10_321 h11 h12 rfl rfl dX10_tried_30 (cat8 (Nat.le_of_ble_eq_true rfl)) hrm ⟨Nat.le_of_ble_eq_true rfl, Nat.le_of_ble_eq_true rfl⟩ (fun u13 σ14 h h15 => ?_)
      have h16 := kp h15 (show ¬ 12 = 0 by decide) h9
      refine y_iload_n hg 2 dX10_tried_33 rfl rfl ?_
      refine y_if_ne (tgt := 48) hg dX10_tried_34 (by decide) (fun q17 => ?_) (fun q17 => ?_)
      · replace h := h.2 q17
        refine y_aload_n hg 0 dX10_tried_48 rfl rfl ?_
        refine y_getR hg fl_X10_47 rfl rfl h16 dX10_tried_49 ?_
        obtain ⟨c18, h19, h⟩ := h
        obtain ⟨h20, h⟩ := h
        refine yVIP (Qp := _) (rest := []) (As := []) hg (k_X3_wet (gL g.1) (gD g.1) c18 σ14 _ h) lv_X10_366 h19 h20 rfl rfl dX10_tried_52 (cat8 (Nat.le_of_ble_eq_true rfl)) hrm ⟨Nat.le_of_ble_eq_true rfl, Nat.le_of_ble_eq_true rfl⟩ (fun x21 h => ?_)
        refine y_i2l hg dX10_tried_55 ?_
        exact yEndL hend dX10_tried_56 h
      · replace h := h.1 q17
        refine y_aload_n hg 0 dX10_tried_37 rfl rfl ?_
        refine y_getR hg fl_X10_47 rfl rfl h16 dX10_tried_38 ?_
        obtain ⟨c22, h23, h⟩ := h
        obtain ⟨h24, h⟩ := h
        refine yVIP (Qp := _) (rest := []) (As := []) hg (k_X3_spilt (gL g.1) (gD g.1) c22 σ14 _ h) lv_X10_364 h23 h24 rfl rfl dX10_tried_41 (cat8 (Nat.le_of_ble_eq_true rfl)) hrm ⟨Nat.le_of_ble_eq_true rfl, Nat.le_of_ble_eq_true rfl⟩ (fun x25 h => ?_)
        refine y_i2l hg dX10_tried_44 ?_
        refine y_goto (tgt := 56) hg dX10_tried_45 (by decide) ?_
        exact yEndL hend dX10_tried_56 h
    · replace h := h.1 q5
      refine y_ldc2 hg cw_X10_362 dX10_tried_17 ?_
      exact yEndL hend dX10_tried_20 h
def P_X10_costOf (a0 : Nat) (v1 : Int32) (σ : Sg) (Q : Int32 → Prop) : Prop :=
  sK σ a0 % 32 = 12 ∧ P_X10_lawOn a0 (sI σ a0 15) σ (fun r2 => P_J6_bitCount_0f7a4 v1 σ (fun x3 => ∃ c4 : Nat, r2 = some c4 ∧ sK σ c4 % 32 = 6 ∧ P_X4_value c4 10 σ (fun x7 => P_X4_value c4 11 σ (fun x8 => Q (x3 * (x7 + (x8 * 100)))))))
set_option maxHeartbeats 4000000 in
set_option maxRecDepth 100000 in
theorem k_X10_costOf (l : Launch) (D : Dg) (a0 : Nat) (v1 : Int32) (σ : Sg) (Q : Int32 → Prop) (h : P_X10_costOf a0 v1 σ Q) : CtrY RN l D yX10_costOf cX10_costOf 3 (some FieldType.int) 4 86 mkI [.ref a0, .int v1] σ (0, 0) (fun r σ2 => Q r ∧ σ2 = σ) := by
  refine y_ctrN (lv := [(0, va_rf (some a0)), (1, .int v1)]) (by decide) (by (exact Nat.le_of_ble_eq_true rfl)) (by (exact rfl)) (fun g hg hgL hgD hrm hgN hgI hend => ?_)
  subst hgD
  clear hgL
  unfold P_X10_costOf at h
  refine y_aload_n hg 0 dX10_costOf_0 rfl rfl ?_
  refine y_aload_n hg 0 dX10_costOf_1 rfl rfl ?_
  obtain ⟨h1, h⟩ := h
  refine y_getI hg fl_X10_120 rfl rfl h1 dX10_costOf_2 ?_
  refine yVRP (Qp := _) (rest := []) (As := [.int (sI σ a0 15)]) hg (k_X10_lawOn (gL g.1) (gD g.1) a0 (sI σ a0 15) σ _ h) lv_X10_123 rfl h1 rfl rfl dX10_costOf_5 (cat8 (Nat.le_of_ble_eq_true rfl)) hrm ⟨Nat.le_of_ble_eq_true rfl, Nat.le_of_ble_eq_true rfl⟩ (fun r2 h => ?_)
  refine y_astore_n (lv' := [(2, va_rf r2), (0, va_rf (some a0)), (1, .int v1)]) hg dX10_costOf_8 rfl (by rw [hgN]; decide) rfl ?_
  refine y_iload_n hg 2 dX10_costOf_9 rfl rfl ?_
  refine ySIP (Qp := _) (rest := []) (As := [.int v1]) hg (k_J6_bitCount_0f7a4 (gL g.1) (gD g.1) v1 σ _ h) ls_X10_310 rfl rfl dX10_costOf_10 (cat8 (Nat.le_of_ble_eq_true rfl)) hrm ⟨Nat.le_of_ble_eq_true rfl, Nat.le_of_ble_eq_true rfl⟩ (fun x3 h => ?_)
  refine y_aload_n hg 0 dX10_costOf_13 rfl rfl ?_
  refine y_bipush (v := 10) hg dX10_costOf_14 (by decide) ?_
  obtain ⟨c4, h5, h⟩ := h
  obtain ⟨h6, h⟩ := h
  refine yVIP (Qp := _) (rest := [.int x3]) (As := [.int 10]) hg (k_X4_value (gL g.1) (gD g.1) c4 10 σ _ h) lv_X10_127 h5 h6 rfl rfl dX10_costOf_16 (cat8 (Nat.le_of_ble_eq_true rfl)) hrm ⟨Nat.le_of_ble_eq_true rfl, Nat.le_of_ble_eq_true rfl⟩ (fun x7 h => ?_)
  refine y_aload_n hg 0 dX10_costOf_19 rfl rfl ?_
  refine y_bipush (v := 11) hg dX10_costOf_20 (by decide) ?_
  refine yVIP (Qp := _) (rest := [.int x7, .int x3]) (As := [.int 11]) hg (k_X4_value (gL g.1) (gD g.1) c4 11 σ _ h) lv_X10_127 h5 h6 rfl rfl dX10_costOf_22 (cat8 (Nat.le_of_ble_eq_true rfl)) hrm ⟨Nat.le_of_ble_eq_true rfl, Nat.le_of_ble_eq_true rfl⟩ (fun x8 h => ?_)
  refine y_bipush (v := 100) hg dX10_costOf_25 (by decide) ?_
  refine y_imul hg dX10_costOf_27 ?_
  refine y_iadd hg dX10_costOf_28 ?_
  refine y_imul hg dX10_costOf_29 ?_
  exact yEndI hend rfl dX10_costOf_30 ⟨h, rfl⟩
def P_X10_bestSet_B157 (a0 : Nat) (v1 : Int32) (v2 : Int32) (v3 : Int32) (v4 : Int32) (v5 : Int32) (v6 : Int64) (v8 : Int32) (σ : Sg) (Q : Int32 → Sg → Prop) (K27 : Int32 → Int64 → Int32 → Sg → Prop) : Prop :=
  ∀ x43 : Int32, x43 = v8 + 1 → K27 v5 v6 x43 σ
def P_X10_bestSet_B149 (a0 : Nat) (v1 : Int32) (v2 : Int32) (v3 : Int32) (v4 : Int32) (v8 : Int32) (v9 : Int64) (σ : Sg) (Q : Int32 → Sg → Prop) (K27 : Int32 → Int64 → Int32 → Sg → Prop) : Prop :=
  P_X10_bestSet_B157 a0 v1 v2 v3 v4 v8 v9 v8 σ Q K27
def P_X10_bestSet_B120 (a0 : Nat) (v1 : Int32) (v2 : Int32) (v3 : Int32) (v4 : Int32) (v5 : Int32) (v6 : Int64) (v8 : Int32) (v9 : Int64) (w0 : Int32) (σ : Sg) (Q : Int32 → Sg → Prop) (K27 : Int32 → Int64 → Int32 → Sg → Prop) : Prop :=
  (v5 = (-1) → P_X10_bestSet_B149 a0 v1 v2 v3 v4 v8 v9 σ Q K27) ∧ (¬ (v5 = (-1)) → (v9 < v6 → P_X10_bestSet_B149 a0 v1 v2 v3 v4 v8 v9 σ Q K27) ∧ (¬ (v9 < v6) → (v9 = v6 → (w0 = 0 → P_X10_bestSet_B157 a0 v1 v2 v3 v4 v5 v6 v8 σ Q K27) ∧ (¬ (w0 = 0) → P_X10_bestSet_B149 a0 v1 v2 v3 v4 v8 v9 σ Q K27)) ∧ (¬ (v9 = v6) → P_X10_bestSet_B157 a0 v1 v2 v3 v4 v5 v6 v8 σ Q K27)))
def P_X10_bestSet_L27b (a0 : Nat) (v1 : Int32) (v2 : Int32) (v3 : Int32) (v4 : Int32) (v5 : Int32) (v6 : Int64) (v8 : Int32) (σ : Sg) (Q : Int32 → Sg → Prop) (K27 : Int32 → Int64 → Int32 → Sg → Prop) : Prop :=
  sK σ a0 % 32 = 12 ∧ ∃ c12 : Nat, sR σ a0 0 = some c12 ∧ sK σ c12 % 32 = 1 ∧ P_Jx4a65c_size_8abf5 c12 σ (fun x15 => ((1 <<< (x15 &&& 31)) ≤ v8 → Q v5 σ) ∧ (¬ ((1 <<< (x15 &&& 31)) ≤ v8) → P_J6_bitCount_0f7a4 v8 σ (fun x17 => (v1 < x17 → P_X10_bestSet_B157 a0 v1 v2 v3 v4 v5 v6 v8 σ Q K27) ∧ (¬ (v1 < x17) → P_X10_costOf a0 v8 σ (fun x19 => (v2 < x19 → P_X10_bestSet_B157 a0 v1 v2 v3 v4 v5 v6 v8 σ Q K27) ∧ (¬ (v2 < x19) → P_X10_isFree a0 v8 σ (fun x21 => (x21 = 0 → P_X10_bestSet_B157 a0 v1 v2 v3 v4 v5 v6 v8 σ Q K27) ∧ (¬ (x21 = 0) → P_X10_parkingWith a0 v8 σ (fun x23 => (x23 ≤ v4 → ∃ c25 : Nat, sR σ a0 7 = some c25 ∧ sK σ c25 % 32 = 5 ∧ P_X3_run c25 v8 σ (fun _ σ29 => ∃ c32 : Nat, sR σ29 a0 7 = some c32 ∧ sK σ29 c32 % 32 = 5 ∧ P_X3_weight c32 v3 σ29 (fun x35 => P_J6_bitCount_0f7a4 v8 σ29 (fun x36 => P_J6_bitCount_0f7a4 v5 σ29 (fun x37 => (x37 ≤ x36 → P_X10_bestSet_B120 a0 v1 v2 v3 v4 v5 v6 v8 x35 0 σ29 Q K27) ∧ (¬ (x37 ≤ x36) → P_X10_bestSet_B120 a0 v1 v2 v3 v4 v5 v6 v8 x35 1 σ29 Q K27)))))) ∧ (¬ (x23 ≤ v4) → P_X10_bestSet_B157 a0 v1 v2 v3 v4 v5 v6 v8 σ Q K27))))))))))
def P_X10_bestSet_L27 (a0 : Nat) (v1 : Int32) (v2 : Int32) (v3 : Int32) (v4 : Int32) (v5 : Int32) (v6 : Int64) (v8 : Int32) (σ : Sg) (Q : Int32 → Sg → Prop) : Prop :=
  ∃ I : Nat → Int32 → Int64 → Int32 → Sg → Prop, (∃ n, I n v5 v6 v8 σ) ∧ ∀ (n : Nat) (v5 : Int32) (v6 : Int64) (v8 : Int32) (σ : Sg), I n v5 v6 v8 σ → P_X10_bestSet_L27b a0 v1 v2 v3 v4 v5 v6 v8 σ Q (fun v5 v6 v8 σ => ∃ n', n' < n ∧ I n' v5 v6 v8 σ)
def P_X10_bestSet (a0 : Nat) (v1 : Int32) (v2 : Int32) (v3 : Int32) (σ : Sg) (Q : Int32 → Sg → Prop) : Prop :=
  sK σ a0 % 32 = 12 ∧ P_X10_prepareFlow a0 σ (fun _ σ3 => P_X10_lawOn a0 (sI σ3 a0 15) σ3 (fun r6 => ∃ c7 : Nat, r6 = some c7 ∧ sK σ3 c7 % 32 = 6 ∧ P_X4_value c7 4 σ3 (fun x10 => P_X10_bestSet_L27 a0 v1 v2 v3 x10 (-1) 0 0 σ3 Q)))
set_option maxHeartbeats 4000000 in
set_option maxRecDepth 100000 in
theorem k_X10_bestSet (l : Launch) (D : Dg) (a0 : Nat) (v1 : Int32) (v2 : Int32) (v3 : Int32) (σ : Sg) (Q : Int32 → Sg → Prop) (h : P_X10_bestSet a0 v1 v2 v3 σ Q) : CtrY RN l D yX10_bestSet cX10_bestSet 12 (some FieldType.int) 5 110 mkI [.ref a0, .int v1, .int v2, .int v3] σ (0, 0) Q := by
  refine y_ctrN (lv := [(0, va_rf (some a0)), (1, .int v1), (2, .int v2), (3, .int v3)]) (by decide) (by (exact Nat.le_of_ble_eq_true rfl)) (by (exact rfl)) (fun g hg hgL hgD hrm hgN hgI hend => ?_)
  subst hgD
  clear hgL
  unfold P_X10_bestSet at h
  have J27 : ∀ (v1 : Int32) (v2 : Int32) (v3 : Int32) (v4 : Int32) (v5 : Int32) (v6 : Int64) (v8 : Int32) (σ : Sg), P_X10_bestSet_L27 a0 v1 v2 v3 v4 v5 v6 v8 σ Q → XA g 27 [(0, va_rf (some a0)), (1, .int v1), (2, .int v2), (3, .int v3), (4, .int v4), (5, .int v5), (6, .long v6), (8, .int v8)] [] σ (0, 0) := by
    intro v1 v2 v3 v4 v5 v6 v8 σ h
    unfold P_X10_bestSet_L27 at h
    obtain ⟨I27, ⟨n27, hI27⟩, hs27⟩ := h
    have key27 : ∀ (n : Nat), ∀ (v5 : Int32) (v6 : Int64) (v8 : Int32) (σ : Sg), I27 n v5 v6 v8 σ → XA g 27 [(0, va_rf (some a0)), (1, .int v1), (2, .int v2), (3, .int v3), (4, .int v4), (5, .int v5), (6, .long v6), (8, .int v8)] [] σ (0, 0) := by
      intro n
      induction n using Nat.strongRecOn with
      | _ n ih27 =>
      intro v5 v6 v8 σ hI
      have h := hs27 n v5 v6 v8 σ hI
      clear hI hI27 hs27
      obtain ⟨K27, hK27⟩ : ∃ K : Int32 → Int64 → Int32 → Sg → Prop, K = (fun v5 v6 v8 σ => ∃ n', n' < n ∧ I27 n' v5 v6 v8 σ) := ⟨_, rfl⟩
      rw [← hK27] at h
      unfold P_X10_bestSet_L27b at h
      have J157 : ∀ (v5 : Int32) (v6 : Int64) (v8 : Int32) (σ : Sg), P_X10_bestSet_B157 a0 v1 v2 v3 v4 v5 v6 v8 σ Q K27 → XA g 157 [(0, va_rf (some a0)), (1, .int v1), (2, .int v2), (3, .int v3), (4, .int v4), (5, .int v5), (6, .long v6), (8, .int v8)] [] σ (0, 0) := by
        intro v5 v6 v8 σ h
        unfold P_X10_bestSet_B157 at h
        obtain ⟨x43, e44⟩ : ∃ y : Int32, y = v8 + 1 := ⟨_, rfl⟩
        replace h := h x43 e44
        refine y_iinc (v := x43) (lv' := [(8, .int x43), (0, va_rf (some a0)), (1, .int v1), (2, .int v2), (3, .int v3), (4, .int v4), (5, .int v5), (6, .long v6)]) hg 7 dX10_bestSet_157 rfl (by rw [e44]; rfl) (by rw [hgN]; decide) rfl ?_
        refine y_goto (tgt := 27) hg dX10_bestSet_160 (by decide) ?_
        refine y_sub [1, 2, 3, 4, 5, 6, 7, 0] rfl ?_
        subst hK27
        obtain ⟨n45, h46, h⟩ := h
        exact ih27 n45 h46 _ _ _ _ h
      have J149 : ∀ (v8 : Int32) (v9 : Int64) (σ : Sg), P_X10_bestSet_B149 a0 v1 v2 v3 v4 v8 v9 σ Q K27 → XA g 149 [(0, va_rf (some a0)), (1, .int v1), (2, .int v2), (3, .int v3), (4, .int v4), (8, .int v8), (9, .long v9)] [] σ (0, 0) := by
        intro v8 v9 σ h
        unfold P_X10_bestSet_B149 at h
        refine y_iload hg 5 dX10_bestSet_149 rfl ?_
        refine y_istore (lv' := [(5, .int v8), (0, va_rf (some a0)), (1, .int v1), (2, .int v2), (3, .int v3), (4, .int v4), (8, .int v8), (9, .long v9)]) hg dX10_bestSet_151 (by rw [hgN]; decide) rfl ?_
        refine y_lload hg 7 dX10_bestSet_153 rfl ?_
        refine y_lstore (lv' := [(6, .long v9), (5, .int v8), (0, va_rf (some a0)), (1, .int v1), (2, .int v2), (3, .int v3), (4, .int v4), (8, .int v8), (9, .long v9)]) hg dX10_bestSet_155 (by rw [hgN]; decide) rfl ?_
        refine y_sub [2, 3, 4, 5, 6, 1, 0, 7] rfl ?_
        exact J157 _ _ _ _ h
      have J120 : ∀ (v5 : Int32) (v6 : Int64) (v8 : Int32) (v9 : Int64) (w0 : Int32) (σ : Sg), P_X10_bestSet_B120 a0 v1 v2 v3 v4 v5 v6 v8 v9 w0 σ Q K27 → XA g 120 [(0, va_rf (some a0)), (1, .int v1), (2, .int v2), (3, .int v3), (4, .int v4), (5, .int v5), (6, .long v6), (8, .int v8), (9, .long v9)] [.int w0] σ (0, 0) := by
        intro v5 v6 v8 v9 w0 σ h
        unfold P_X10_bestSet_B120 at h
        refine y_istore (lv' := [(11, .int w0), (0, va_rf (some a0)), (1, .int v1), (2, .int v2), (3, .int v3), (4, .int v4), (5, .int v5), (6, .long v6), (8, .int v8), (9, .long v9)]) hg dX10_bestSet_120 (by rw [hgN]; decide) rfl ?_
        refine y_iload hg 6 dX10_bestSet_122 rfl ?_
        refine y_iconst (v := (-1)) hg dX10_bestSet_124 (by decide) ?_
        refine y_icmp_eq (tgt := 149) hg dX10_bestSet_125 (by decide) (fun q39 => ?_) (fun q39 => ?_)
        · replace h := h.1 q39
          refine y_sub [1, 2, 3, 4, 5, 8, 9] rfl ?_
          exact J149 _ _ _ h
        · replace h := h.2 q39
          refine y_lload hg 9 dX10_bestSet_128 rfl ?_
          refine y_lload hg 7 dX10_bestSet_130 rfl ?_
          refine y_lcmp hg dX10_bestSet_132 ?_
          refine y_if_lt (tgt := 149) hg dX10_bestSet_133 (by decide) (fun q40 => ?_) (fun q40 => ?_)
          · replace h := h.1 ((lg_cmp_lt _ _).mp q40)
            refine y_sub [1, 2, 3, 4, 5, 8, 9] rfl ?_
            exact J149 _ _ _ h
          · replace h := h.2 (fun z => q40 ((lg_cmp_lt _ _).mpr z))
            refine y_lload hg 9 dX10_bestSet_136 rfl ?_
            refine y_lload hg 7 dX10_bestSet_138 rfl ?_
            refine y_lcmp hg dX10_bestSet_140 ?_
            refine y_if_ne (tgt := 157) hg dX10_bestSet_141 (by decide) (fun q41 => ?_) (fun q41 => ?_)
            · replace h := h.2 (fun z => q41 ((lg_cmp_eq _ _).mpr z))
              refine y_sub [1, 2, 3, 4, 5, 6, 7, 8] rfl ?_
              exact J157 _ _ _ _ h
            · replace h := h.1 ((lg_cmp_eq _ _).mp q41)
              refine y_iload hg 0 dX10_bestSet_144 rfl ?_
              refine y_if_eq (tgt := 157) hg dX10_bestSet_146 (by decide) (fun q42 => ?_) (fun q42 => ?_)
              · replace h := h.1 q42
                refine y_sub [1, 2, 3, 4, 5, 6, 7, 8] rfl ?_
                exact J157 _ _ _ _ h
              · replace h := h.2 q42
                refine y_sub [1, 2, 3, 4, 5, 8, 9] rfl ?_
                exact J149 _ _ _ h
      refine y_iload hg 7 dX10_bestSet_27 rfl ?_
      refine y_iconst (v := 1) hg dX10_bestSet_29 (by decide) ?_
      refine y_aload_n hg 0 dX10_bestSet_30 rfl rfl ?_
      obtain ⟨h11, h⟩ := h
      refine y_getR hg fl_X10_10 rfl rfl h11 dX10_bestSet_31 ?_
      obtain ⟨c12, h13, h⟩ := h
      obtain ⟨h14, h⟩ := h
      refine yVIP (Qp := _) (rest := [.int 1, .int v8]) (As := []) hg (k_Jx4a65c_size_8abf5 (gL g.1) (gD g.1) c12 σ _ h) lv_X10_87 h13 h14 rfl rfl dX10_bestSet_34 (cat8 (Nat.le_of_ble_eq_true rfl)) hrm ⟨Nat.le_of_ble_eq_true rfl, Nat.le_of_ble_eq_true rfl⟩ (fun x15 h => ?_)
      refine y_ishl hg dX10_bestSet_37 ?_
      refine y_icmp_ge (tgt := 163) hg dX10_bestSet_38 (by decide) (fun q16 => ?_) (fun q16 => ?_)
      · replace h := h.1 q16
        refine y_iload hg 5 dX10_bestSet_163 rfl ?_
        exact yEndI hend rfl dX10_bestSet_165 h
      · replace h := h.2 q16
        refine y_iload hg 7 dX10_bestSet_41 rfl ?_
        refine ySIP (Qp := _) (rest := []) (As := [.int v8]) hg (k_J6_bitCount_0f7a4 (gL g.1) (gD g.1) v8 σ _ h) ls_X10_310 rfl rfl dX10_bestSet_43 (cat8 (Nat.le_of_ble_eq_true rfl)) hrm ⟨Nat.le_of_ble_eq_true rfl, Nat.le_of_ble_eq_true rfl⟩ (fun x17 h => ?_)
        refine y_iload_n hg 1 dX10_bestSet_46 rfl rfl ?_
        refine y_icmp_gt (tgt := 157) hg dX10_bestSet_47 (by decide) (fun q18 => ?_) (fun q18 => ?_)
        · replace h := h.1 q18
          refine y_sub [0, 1, 2, 3, 4, 5, 6, 7] rfl ?_
          exact J157 _ _ _ _ h
        · replace h := h.2 q18
          refine y_aload_n hg 0 dX10_bestSet_50 rfl rfl ?_
          refine y_iload hg 7 dX10_bestSet_51 rfl ?_
          refine yVIP (Qp := _) (rest := []) (As := [.int v8]) hg (k_X10_costOf (gL g.1) (gD g.1) a0 v8 σ _ h) lv_X10_377 rfl h11 rfl rfl dX10_bestSet_53 (cat8 (Nat.le_of_ble_eq_true rfl)) hrm ⟨Nat.le_of_ble_eq_true rfl, Nat.le_of_ble_eq_true rfl⟩ (fun x19 h => ?_)
          refine y_iload_n hg 2 dX10_bestSet_56 rfl rfl ?_
          refine y_icmp_gt (tgt := 157) hg dX10_bestSet_57 (by decide) (fun q20 => ?_) (fun q20 => ?_)
          · replace h := h.1 q20
            refine y_sub [0, 1, 2, 3, 4, 5, 6, 7] rfl ?_
            exact J157 _ _ _ _ h
          · replace h := h.2 q20
            refine y_aload_n hg 0 dX10_bestSet_60 rfl rfl ?_
            refine y_iload hg 7 dX10_bestSet_61 rfl ?_
            refine yVIP (Qp := _) (rest := []) (As := [.int v8]) hg (k_X10_isFree (gL g.1) (gD g.1) a0 v8 σ _ h) lv_X10_359 rfl h11 rfl rfl dX10_bestSet_63 (cat8 (Nat.le_of_ble_eq_true rfl)) hrm ⟨Nat.le_of_ble_eq_true rfl, Nat.le_of_ble_eq_true rfl⟩ (fun x21 h => ?_)
            refine y_if_eq (tgt := 157) hg dX10_bestSet_66 (by decide) (fun q22 => ?_) (fun q22 => ?_)
            · replace h := h.1 q22
              refine y_sub [0, 1, 2, 3, 4, 5, 6, 7] rfl ?_
              exact J157 _ _ _ _ h
            · replace h := h.2 q22
              refine y_aload_n hg 0 dX10_bestSet_69 rfl rfl ?_
              refine y_iload hg 7 dX10_bestSet_70 rfl ?_
              refine yVIP (Qp := _) (rest := []) (As := [.int v8]) hg (k_X10_parkingWith (gL g.1) (gD g.1) a0 v8 σ _ h) lv_X10_236 rfl h11 rfl rfl dX10_bestSet_72 (cat8 (Nat.le_of_ble_eq_true rfl)) hrm ⟨Nat.le_of_ble_eq_true rfl, Nat.le_of_ble_eq_true rfl⟩ (fun x23 h => ?_)
              refine y_iload hg 4 dX10_bestSet_75 rfl ?_
              refine y_icmp_le (tgt := 83) hg dX10_bestSet_77 (by decide) (fun q24 => ?_) (fun q24 => ?_)
              · replace h := h.1 q24
                refine y_aload_n hg 0 dX10_bestSet_83 rfl rfl ?_
                refine y_getR hg fl_X10_47 rfl rfl h11 dX10_bestSet_84 ?_
                refine y_iload hg 7 dX10_bestSet_87 rfl ?_
                obtain ⟨c25, h26, h⟩ := h
                obtain ⟨h27, h⟩ := h
                refine yVVW (Qm := _) (rest := []) (As := [.int v8]) hg (k_X3_run (gL g.1) (gD g.1) c25 v8 σ _ h) lv_X10_321 h26 h27 rfl rfl dX10_bestSet_89 (cat8 (Nat.le_of_ble_eq_true rfl)) hrm ⟨Nat.le_of_ble_eq_true rfl, Nat.le_of_ble_eq_true rfl⟩ (fun u28 σ29 h h30 => ?_)
                have h31 := kp h30 (show ¬ 12 = 0 by decide) h11
                refine y_aload_n hg 0 dX10_bestSet_92 rfl rfl ?_
                refine y_getR hg fl_X10_47 rfl rfl h31 dX10_bestSet_93 ?_
                refine y_iload_n hg 3 dX10_bestSet_96 rfl rfl ?_
                obtain ⟨c32, h33, h⟩ := h
                obtain ⟨h34, h⟩ := h
                refine yVLP (Qp := _) (rest := []) (As := [.int v3]) hg (k_X3_weight (gL g.1) (gD g.1) c32 v3 σ29 _ h) lv_X10_373 h33 h34 rfl rfl dX10_bestSet_97 (cat8 (Nat.le_of_ble_eq_true rfl)) hrm ⟨Nat.le_of_ble_eq_true rfl, Nat.le_of_ble_eq_true rfl⟩ (fun x35 h => ?_)
                refine y_lstore (lv' := [(9, .long x35), (0, va_rf (some a0)), (1, .int v1), (2, .int v2), (3, .int v3), (4, .int v4), (5, .int v5), (6, .long v6), (8, .int v8)]) hg dX10_bestSet_100 (by rw [hgN]; decide) rfl ?_
                refine y_iload hg 8 dX10_bestSet_102 rfl ?_
                refine ySIP (Qp := _) (rest := []) (As := [.int v8]) hg (k_J6_bitCount_0f7a4 (gL g.1) (gD g.1) v8 σ29 _ h) ls_X10_310 rfl rfl dX10_bestSet_104 (cat8 (Nat.le_of_ble_eq_true rfl)) hrm ⟨Nat.le_of_ble_eq_true rfl, Nat.le_of_ble_eq_true rfl⟩ (fun x36 h => ?_)
                refine y_iload hg 6 dX10_bestSet_107 rfl ?_
                refine ySIP (Qp := _) (rest := [.int x36]) (As := [.int v5]) hg (k_J6_bitCount_0f7a4 (gL g.1) (gD g.1) v5 σ29 _ h) ls_X10_310 rfl rfl dX10_bestSet_109 (cat8 (Nat.le_of_ble_eq_true rfl)) hrm ⟨Nat.le_of_ble_eq_true rfl, Nat.le_of_ble_eq_true rfl⟩ (fun x37 h => ?_)
                refine y_icmp_ge (tgt := 119) hg dX10_bestSet_112 (by decide) (fun q38 => ?_) (fun q38 => ?_)
                · replace h := h.1 q38
                  refine y_iconst (v := 0) hg dX10_bestSet_119 (by decide) ?_
                  refine y_sub [1, 2, 3, 4, 5, 6, 7, 8, 0] rfl ?_
                  exact J120 _ _ _ _ _ _ h
                · replace h := h.2 q38
                  refine y_iconst (v := 1) hg dX10_bestSet_115 (by decide) ?_
                  refine y_goto (tgt := 120) hg dX10_bestSet_116 (by decide) ?_
                  refine y_sub [1, 2, 3, 4, 5, 6, 7, 8, 0] rfl ?_
                  exact J120 _ _ _ _ _ _ h
              · replace h := h.2 q24
                refine y_goto (tgt := 157) hg dX10_bestSet_80 (by decide) ?_
                refine y_sub [0, 1, 2, 3, 4, 5, 6, 7] rfl ?_
                exact J157 _ _ _ _ h
    exact key27 n27 v5 v6 v8 σ hI27
  refine y_aload_n hg 0 dX10_bestSet_0 rfl rfl ?_
  obtain ⟨h1, h⟩ := h
  refine yVVW (Qm := _) (rest := []) (As := []) hg (k_X10_prepareFlow (gL g.1) (gD g.1) a0 σ _ h) lv_X10_318 rfl h1 rfl rfl dX10_bestSet_1 (cat8 (Nat.le_of_ble_eq_true rfl)) hrm ⟨Nat.le_of_ble_eq_true rfl, Nat.le_of_ble_eq_true rfl⟩ (fun u2 σ3 h h4 => ?_)
  have h5 := kp h4 (show ¬ 12 = 0 by decide) h1
  refine y_aload_n hg 0 dX10_bestSet_4 rfl rfl ?_
  refine y_aload_n hg 0 dX10_bestSet_5 rfl rfl ?_
  refine y_getI hg fl_X10_120 rfl rfl h5 dX10_bestSet_6 ?_
  refine yVRP (Qp := _) (rest := []) (As := [.int (sI σ3 a0 15)]) hg (k_X10_lawOn (gL g.1) (gD g.1) a0 (sI σ3 a0 15) σ3 _ h) lv_X10_123 rfl h5 rfl rfl dX10_bestSet_9 (cat8 (Nat.le_of_ble_eq_true rfl)) hrm ⟨Nat.le_of_ble_eq_true rfl, Nat.le_of_ble_eq_true rfl⟩ (fun r6 h => ?_)
  refine y_iconst (v := 4) hg dX10_bestSet_12 (by decide) ?_
  obtain ⟨c7, h8, h⟩ := h
  obtain ⟨h9, h⟩ := h
  refine yVIP (Qp := _) (rest := []) (As := [.int 4]) hg (k_X4_value (gL g.1) (gD g.1) c7 4 σ3 _ h) lv_X10_127 h8 h9 rfl rfl dX10_bestSet_13 (cat8 (Nat.le_of_ble_eq_true rfl)) hrm ⟨Nat.le_of_ble_eq_true rfl, Nat.le_of_ble_eq_true rfl⟩ (fun x10 h => ?_)
  refine y_istore (lv' := [(4, .int x10), (0, va_rf (some a0)), (1, .int v1), (2, .int v2), (3, .int v3)]) hg dX10_bestSet_16 (by rw [hgN]; decide) rfl ?_
  refine y_iconst (v := (-1)) hg dX10_bestSet_18 (by decide) ?_
  refine y_istore (lv' := [(5, .int (-1)), (4, .int x10), (0, va_rf (some a0)), (1, .int v1), (2, .int v2), (3, .int v3)]) hg dX10_bestSet_19 (by rw [hgN]; decide) rfl ?_
  refine y_lconst (v := 0) hg dX10_bestSet_21 (by decide) ?_
  refine y_lstore (lv' := [(6, .long 0), (5, .int (-1)), (4, .int x10), (0, va_rf (some a0)), (1, .int v1), (2, .int v2), (3, .int v3)]) hg dX10_bestSet_22 (by rw [hgN]; decide) rfl ?_
  refine y_iconst (v := 0) hg dX10_bestSet_24 (by decide) ?_
  refine y_istore (lv' := [(8, .int 0), (6, .long 0), (5, .int (-1)), (4, .int x10), (0, va_rf (some a0)), (1, .int v1), (2, .int v2), (3, .int v3)]) hg dX10_bestSet_25 (by rw [hgN]; decide) rfl ?_
  refine y_sub [4, 5, 6, 7, 3, 2, 1, 0] rfl ?_
  exact J27 _ _ _ _ _ _ _ _ h
def P_X10_best_B46 (a0 : Nat) (v1 : Int32) (v2 : Int32) (v3 : Int32) (v4 : Int32) (w0 : Int32) (σ : Sg) (Q : Int64 → Sg → Prop) : Prop :=
  (w0 = 0 → Q (-1) σ) ∧ (¬ (w0 = 0) → sK σ a0 % 32 = 12 ∧ P_X10_bestSet a0 v1 v2 v3 σ (fun x11 σ12 => (x11 = (-1) → Q (-1) σ12) ∧ (¬ (x11 = (-1)) → ∃ c16 : Nat, sR σ12 a0 7 = some c16 ∧ sK σ12 c16 % 32 = 5 ∧ P_X3_run c16 x11 σ12 (fun _ σ20 => ∀ y23 : Int32, y23 = v4 → (y23 = 0 → ∃ c25 : Nat, sR σ20 a0 7 = some c25 ∧ sK σ20 c25 % 32 = 5 ∧ P_X3_weight c25 v3 σ20 (fun x28 => Q x28 σ20)) ∧ (¬ (y23 = 0) → (y23 = 1 → Q x11.toInt64 σ20) ∧ (¬ (y23 = 1) → (y23 = 2 → P_X10_costOf a0 x11 σ20 (fun x29 => Q x29.toInt64 σ20)) ∧ (¬ (y23 = 2) → (y23 = 3 → ∃ c30 : Nat, sR σ20 a0 7 = some c30 ∧ sK σ20 c30 % 32 = 5 ∧ P_X3_spilt c30 σ20 (fun x33 => Q x33.toInt64 σ20)) ∧ (¬ (y23 = 3) → ∃ c34 : Nat, sR σ20 a0 7 = some c34 ∧ sK σ20 c34 % 32 = 5 ∧ P_X3_wet c34 σ20 (fun x37 => Q x37.toInt64 σ20)))))))))
def P_X10_best_B45 (a0 : Nat) (v1 : Int32) (v2 : Int32) (v3 : Int32) (v4 : Int32) (σ : Sg) (Q : Int64 → Sg → Prop) : Prop :=
  P_X10_best_B46 a0 v1 v2 v3 v4 0 σ Q
def P_X10_best (a0 : Nat) (v1 : Int32) (v2 : Int32) (v3 : Int32) (v4 : Int32) (σ : Sg) (Q : Int64 → Sg → Prop) : Prop :=
  P_X10_within v1 0 4 σ (fun x1 => (x1 = 0 → P_X10_best_B45 a0 v1 v2 v3 v4 σ Q) ∧ (¬ (x1 = 0) → P_X10_within v2 0 99999 σ (fun x3 => (x3 = 0 → P_X10_best_B45 a0 v1 v2 v3 v4 σ Q) ∧ (¬ (x3 = 0) → P_X10_within v3 0 10000 σ (fun x5 => (x5 = 0 → P_X10_best_B45 a0 v1 v2 v3 v4 σ Q) ∧ (¬ (x5 = 0) → P_X10_within v4 0 4 σ (fun x7 => (x7 = 0 → P_X10_best_B45 a0 v1 v2 v3 v4 σ Q) ∧ (¬ (x7 = 0) → P_X10_best_B46 a0 v1 v2 v3 v4 1 σ Q))))))))
set_option maxHeartbeats 4000000 in
set_option maxRecDepth 100000 in
theorem k_X10_best (l : Launch) (D : Dg) (a0 : Nat) (v1 : Int32) (v2 : Int32) (v3 : Int32) (v4 : Int32) (σ : Sg) (Q : Int64 → Sg → Prop) (h : P_X10_best a0 v1 v2 v3 v4 σ Q) : CtrY RN l D yX10_best cX10_best 7 (some FieldType.long) 6 141 mkL [.ref a0, .int v1, .int v2, .int v3, .int v4] σ (0, 0) Q := by
  refine y_ctrN (lv := [(0, va_rf (some a0)), (1, .int v1), (2, .int v2), (3, .int v3), (4, .int v4)]) (by decide) (by (exact Nat.le_of_ble_eq_true rfl)) (by (exact rfl)) (fun g hg hgL hgD hrm hgN hgI hend => ?_)
  subst hgD
  clear hgL
  unfold P_X10_best at h
  have J46 : ∀ (v1 : Int32) (v2 : Int32) (v3 : Int32) (v4 : Int32) (w0 : Int32) (σ : Sg), P_X10_best_B46 a0 v1 v2 v3 v4 w0 σ Q → XA g 46 [(0, va_rf (some a0)), (1, .int v1), (2, .int v2), (3, .int v3), (4, .int v4)] [.int w0] σ (0, 0) := by
    intro v1 v2 v3 v4 w0 σ h
    unfold P_X10_best_B46 at h
    refine y_istore (lv' := [(5, .int w0), (0, va_rf (some a0)), (1, .int v1), (2, .int v2), (3, .int v3), (4, .int v4)]) hg dX10_best_46 (by rw [hgN]; decide) rfl ?_
    refine y_iload hg 0 dX10_best_48 rfl ?_
    refine y_if_ne (tgt := 57) hg dX10_best_50 (by decide) (fun q9 => ?_) (fun q9 => ?_)
    · replace h := h.2 q9
      refine y_aload_n hg 1 dX10_best_57 rfl rfl ?_
      refine y_iload_n hg 2 dX10_best_58 rfl rfl ?_
      refine y_iload_n hg 3 dX10_best_59 rfl rfl ?_
      refine y_iload_n hg 4 dX10_best_60 rfl rfl ?_
      obtain ⟨h10, h⟩ := h
      refine yVIW (Qm := _) (rest := []) (As := [.int v1, .int v2, .int v3]) hg (k_X10_bestSet (gL g.1) (gD g.1) a0 v1 v2 v3 σ _ h) lv_X10_369 rfl h10 rfl rfl dX10_best_61 (cat8 (Nat.le_of_ble_eq_true rfl)) hrm ⟨Nat.le_of_ble_eq_true rfl, Nat.le_of_ble_eq_true rfl⟩ (fun x11 σ12 h h13 => ?_)
      have h14 := kp h13 (show ¬ 12 = 0 by decide) h10
      refine y_istore (lv' := [(6, .int x11), (5, .int w0), (0, va_rf (some a0)), (1, .int v1), (2, .int v2), (3, .int v3), (4, .int v4)]) hg dX10_best_64 (by rw [hgN]; decide) rfl ?_
      refine y_iload hg 0 dX10_best_66 rfl ?_
      refine y_iconst (v := (-1)) hg dX10_best_68 (by decide) ?_
      refine y_icmp_ne (tgt := 76) hg dX10_best_69 (by decide) (fun q15 => ?_) (fun q15 => ?_)
      · replace h := h.2 q15
        refine y_aload_n hg 2 dX10_best_76 rfl rfl ?_
        refine y_getR hg fl_X10_47 rfl rfl h14 dX10_best_77 ?_
        refine y_iload hg 0 dX10_best_80 rfl ?_
        obtain ⟨c16, h17, h⟩ := h
        obtain ⟨h18, h⟩ := h
        refine yVVW (Qm := _) (rest := []) (As := [.int x11]) hg (k_X3_run (gL g.1) (gD g.1) c16 x11 σ12 _ h) lv_X10_321 h17 h18 rfl rfl dX10_best_82 (cat8 (Nat.le_of_ble_eq_true rfl)) hrm ⟨Nat.le_of_ble_eq_true rfl, Nat.le_of_ble_eq_true rfl⟩ (fun u19 σ20 h h21 => ?_)
        have h22 := kp h21 (show ¬ 12 = 0 by decide) h14
        refine y_iload hg 6 dX10_best_85 rfl ?_
        refine y_nmI (fun y23 e24 => ?_)
        replace h := h y23 e24
        by_cases q87_0 : y23 = 0
        · replace h := h.1 q87_0
          refine y_tableIn (tgt := 116) hg dX10_best_87 (by rw [q87_0]; decide) (by rw [q87_0]; decide) (by rw [q87_0]; rfl) (by decide) ?_
          refine y_aload_n hg 2 dX10_best_116 rfl rfl ?_
          refine y_getR hg fl_X10_47 rfl rfl h22 dX10_best_117 ?_
          refine y_iload_n hg 5 dX10_best_120 rfl rfl ?_
          obtain ⟨c25, h26, h⟩ := h
          obtain ⟨h27, h⟩ := h
          refine yVLP (Qp := _) (rest := []) (As := [.int v3]) hg (k_X3_weight (gL g.1) (gD g.1) c25 v3 σ20 _ h) lv_X10_373 h26 h27 rfl rfl dX10_best_121 (cat8 (Nat.le_of_ble_eq_true rfl)) hrm ⟨Nat.le_of_ble_eq_true rfl, Nat.le_of_ble_eq_true rfl⟩ (fun x28 h => ?_)
          exact yEndL hend dX10_best_124 h
        · replace h := h.2 q87_0
          by_cases q87_1 : y23 = 1
          · replace h := h.1 q87_1
            refine y_tableIn (tgt := 125) hg dX10_best_87 (by rw [q87_1]; decide) (by rw [q87_1]; decide) (by rw [q87_1]; rfl) (by decide) ?_
            refine y_iload hg 0 dX10_best_125 rfl ?_
            refine y_i2l hg dX10_best_127 ?_
            exact yEndL hend dX10_best_128 h
          · replace h := h.2 q87_1
            by_cases q87_2 : y23 = 2
            · replace h := h.1 q87_2
              refine y_tableIn (tgt := 129) hg dX10_best_87 (by rw [q87_2]; decide) (by rw [q87_2]; decide) (by rw [q87_2]; rfl) (by decide) ?_
              refine y_aload_n hg 2 dX10_best_129 rfl rfl ?_
              refine y_iload hg 0 dX10_best_130 rfl ?_
              refine yVIP (Qp := _) (rest := []) (As := [.int x11]) hg (k_X10_costOf (gL g.1) (gD g.1) a0 x11 σ20 _ h) lv_X10_377 rfl h22 rfl rfl dX10_best_132 (cat8 (Nat.le_of_ble_eq_true rfl)) hrm ⟨Nat.le_of_ble_eq_true rfl, Nat.le_of_ble_eq_true rfl⟩ (fun x29 h => ?_)
              refine y_i2l hg dX10_best_135 ?_
              exact yEndL hend dX10_best_136 h
            · replace h := h.2 q87_2
              by_cases q87_3 : y23 = 3
              · replace h := h.1 q87_3
                refine y_tableIn (tgt := 137) hg dX10_best_87 (by rw [q87_3]; decide) (by rw [q87_3]; decide) (by rw [q87_3]; rfl) (by decide) ?_
                refine y_aload_n hg 2 dX10_best_137 rfl rfl ?_
                refine y_getR hg fl_X10_47 rfl rfl h22 dX10_best_138 ?_
                obtain ⟨c30, h31, h⟩ := h
                obtain ⟨h32, h⟩ := h
                refine yVIP (Qp := _) (rest := []) (As := []) hg (k_X3_spilt (gL g.1) (gD g.1) c30 σ20 _ h) lv_X10_364 h31 h32 rfl rfl dX10_best_141 (cat8 (Nat.le_of_ble_eq_true rfl)) hrm ⟨Nat.le_of_ble_eq_true rfl, Nat.le_of_ble_eq_true rfl⟩ (fun x33 h => ?_)
                refine y_i2l hg dX10_best_144 ?_
                exact yEndL hend dX10_best_145 h
              · replace h := h.2 q87_3
                refine y_tableOut (tgt := 146) hg dX10_best_87 (sw3_out q87_0 q87_1 q87_2 q87_3) (by decide) ?_
                refine y_aload_n hg 2 dX10_best_146 rfl rfl ?_
                refine y_getR hg fl_X10_47 rfl rfl h22 dX10_best_147 ?_
                obtain ⟨c34, h35, h⟩ := h
                obtain ⟨h36, h⟩ := h
                refine yVIP (Qp := _) (rest := []) (As := []) hg (k_X3_wet (gL g.1) (gD g.1) c34 σ20 _ h) lv_X10_366 h35 h36 rfl rfl dX10_best_150 (cat8 (Nat.le_of_ble_eq_true rfl)) hrm ⟨Nat.le_of_ble_eq_true rfl, Nat.le_of_ble_eq_true rfl⟩ (fun x37 h => ?_)
                refine y_i2l hg dX10_best_153 ?_
                exact yEndL hend dX10_best_154 h
      · replace h := h.1 q15
        refine y_ldc2 hg cw_X10_362 dX10_best_72 ?_
        exact yEndL hend dX10_best_75 h
    · replace h := h.1 q9
      refine y_ldc2 hg cw_X10_362 dX10_best_53 ?_
      exact yEndL hend dX10_best_56 h
  have J45 : ∀ (v1 : Int32) (v2 : Int32) (v3 : Int32) (v4 : Int32) (σ : Sg), P_X10_best_B45 a0 v1 v2 v3 v4 σ Q → XA g 45 [(0, va_rf (some a0)), (1, .int v1), (2, .int v2), (3, .int v3), (4, .int v4)] [] σ (0, 0) := by
    intro v1 v2 v3 v4 σ h
    unfold P_X10_best_B45 at h
    refine y_iconst (v := 0) hg dX10_best_45 (by decide) ?_
    refine y_sub [0, 1, 2, 3, 4] rfl ?_
    exact J46 _ _ _ _ _ _ h
  refine y_iload_n hg 1 dX10_best_0 rfl rfl ?_
  refine y_iconst (v := 0) hg dX10_best_1 (by decide) ?_
  refine y_iconst (v := 4) hg dX10_best_2 (by decide) ?_
  refine ySIP (Qp := _) (rest := []) (As := [.int v1, .int 0, .int 4]) hg (k_X10_within (gL g.1) (gD g.1) v1 0 4 σ _ h) ls_X10_83 rfl rfl dX10_best_3 (cat8 (Nat.le_of_ble_eq_true rfl)) hrm ⟨Nat.le_of_ble_eq_true rfl, Nat.le_of_ble_eq_true rfl⟩ (fun x1 h => ?_)
  refine y_if_eq (tgt := 45) hg dX10_best_6 (by decide) (fun q2 => ?_) (fun q2 => ?_)
  · replace h := h.1 q2
    refine y_sub [0, 1, 2, 3, 4] rfl ?_
    exact J45 _ _ _ _ _ h
  · replace h := h.2 q2
    refine y_iload_n hg 2 dX10_best_9 rfl rfl ?_
    refine y_iconst (v := 0) hg dX10_best_10 (by decide) ?_
    refine y_ldcw hg cw_X10_368 dX10_best_11 ?_
    refine ySIP (Qp := _) (rest := []) (As := [.int v2, .int 0, .int 99999]) hg (k_X10_within (gL g.1) (gD g.1) v2 0 99999 σ _ h) ls_X10_83 rfl rfl dX10_best_14 (cat8 (Nat.le_of_ble_eq_true rfl)) hrm ⟨Nat.le_of_ble_eq_true rfl, Nat.le_of_ble_eq_true rfl⟩ (fun x3 h => ?_)
    refine y_if_eq (tgt := 45) hg dX10_best_17 (by decide) (fun q4 => ?_) (fun q4 => ?_)
    · replace h := h.1 q4
      refine y_sub [0, 1, 2, 3, 4] rfl ?_
      exact J45 _ _ _ _ _ h
    · replace h := h.2 q4
      refine y_iload_n hg 3 dX10_best_20 rfl rfl ?_
      refine y_iconst (v := 0) hg dX10_best_21 (by decide) ?_
      refine y_sipush (v := 10000) hg dX10_best_22 (by decide) ?_
      refine ySIP (Qp := _) (rest := []) (As := [.int v3, .int 0, .int 10000]) hg (k_X10_within (gL g.1) (gD g.1) v3 0 10000 σ _ h) ls_X10_83 rfl rfl dX10_best_25 (cat8 (Nat.le_of_ble_eq_true rfl)) hrm ⟨Nat.le_of_ble_eq_true rfl, Nat.le_of_ble_eq_true rfl⟩ (fun x5 h => ?_)
      refine y_if_eq (tgt := 45) hg dX10_best_28 (by decide) (fun q6 => ?_) (fun q6 => ?_)
      · replace h := h.1 q6
        refine y_sub [0, 1, 2, 3, 4] rfl ?_
        exact J45 _ _ _ _ _ h
      · replace h := h.2 q6
        refine y_iload hg 4 dX10_best_31 rfl ?_
        refine y_iconst (v := 0) hg dX10_best_33 (by decide) ?_
        refine y_iconst (v := 4) hg dX10_best_34 (by decide) ?_
        refine ySIP (Qp := _) (rest := []) (As := [.int v4, .int 0, .int 4]) hg (k_X10_within (gL g.1) (gD g.1) v4 0 4 σ _ h) ls_X10_83 rfl rfl dX10_best_35 (cat8 (Nat.le_of_ble_eq_true rfl)) hrm ⟨Nat.le_of_ble_eq_true rfl, Nat.le_of_ble_eq_true rfl⟩ (fun x7 h => ?_)
        refine y_if_eq (tgt := 45) hg dX10_best_38 (by decide) (fun q8 => ?_) (fun q8 => ?_)
        · replace h := h.1 q8
          refine y_sub [0, 1, 2, 3, 4] rfl ?_
          exact J45 _ _ _ _ _ h
        · replace h := h.2 q8
          refine y_iconst (v := 1) hg dX10_best_41 (by decide) ?_
          refine y_goto (tgt := 46) hg dX10_best_42 (by decide) ?_
          refine y_sub [0, 1, 2, 3, 4] rfl ?_
          exact J46 _ _ _ _ _ _ h
def P_X10_helps (a0 : Nat) (v1 : Int32) (v2 : Int32) (σ : Sg) (Q : Int64 → Sg → Prop) : Prop :=
  sK σ a0 % 32 = 12 ∧ P_X10_cornerAt a0 v1 σ (fun r2 => (r2 = none → Q (-1) σ) ∧ (∀ c3 : Nat, r2 = some c3 → sK σ c3 % 32 = 4 ∧ (sR σ c3 5 = none → P_X10_cornerAt a0 v2 σ (fun r10 => (r10 = none → Q (-1) σ) ∧ (∀ c11 : Nat, r10 = some c11 → P_X10_prepareFlow a0 σ (fun _ σ15 => ∃ c19 : Nat, sR σ15 a0 7 = some c19 ∧ sK σ15 c19 % 32 = 5 ∧ P_X3_run c19 0 σ15 (fun _ σ23 => ∃ c27 : Nat, sR σ23 a0 7 = some c27 ∧ sK σ23 c27 % 32 = 5 ∧ P_X3_spiltAt c27 v2 σ23 (fun x30 => ∃ c31 : Nat, sR σ23 a0 7 = some c31 ∧ sK σ23 c31 % 32 = 5 ∧ P_X3_run c31 (1 <<< (v1 &&& 31)) σ23 (fun _ σ35 => ∃ c39 : Nat, sR σ35 a0 7 = some c39 ∧ sK σ35 c39 % 32 = 5 ∧ P_X3_spiltAt c39 v2 σ35 (fun x42 => Q ((x30 - x42).toInt64) σ35)))))))) ∧ (∀ c7 : Nat, sR σ c3 5 = some c7 → Q (-1) σ)))
set_option maxHeartbeats 4000000 in
set_option maxRecDepth 100000 in
theorem k_X10_helps (l : Launch) (D : Dg) (a0 : Nat) (v1 : Int32) (v2 : Int32) (σ : Sg) (Q : Int64 → Sg → Prop) (h : P_X10_helps a0 v1 v2 σ Q) : CtrY RN l D yX10_helps cX10_helps 5 (some FieldType.long) 5 110 mkL [.ref a0, .int v1, .int v2] σ (0, 0) Q := by
  refine y_ctrN (lv := [(0, va_rf (some a0)), (1, .int v1), (2, .int v2)]) (by decide) (by (exact Nat.le_of_ble_eq_true rfl)) (by (exact rfl)) (fun g hg hgL hgD hrm hgN hgI hend => ?_)
  subst hgD
  clear hgL
  unfold P_X10_helps at h
  refine y_aload_n hg 0 dX10_helps_0 rfl rfl ?_
  refine y_iload_n hg 1 dX10_helps_1 rfl rfl ?_
  obtain ⟨h1, h⟩ := h
  refine yVRP (Qp := _) (rest := []) (As := [.int v1]) hg (k_X10_cornerAt (gL g.1) (gD g.1) a0 v1 σ _ h) lv_X10_100 rfl h1 rfl rfl dX10_helps_2 (cat8 (Nat.le_of_ble_eq_true rfl)) hrm ⟨Nat.le_of_ble_eq_true rfl, Nat.le_of_ble_eq_true rfl⟩ (fun r2 h => ?_)
  refine y_astore_n (lv' := [(3, va_rf r2), (0, va_rf (some a0)), (1, .int v1), (2, .int v2)]) hg dX10_helps_5 rfl (by rw [hgN]; decide) rfl ?_
  refine y_aload_n hg 0 dX10_helps_6 rfl rfl ?_
  refine y_ifnull (tgt := 25) hg dX10_helps_7 (by decide) (fun h4 => ?_) (fun c3 h5 => ?_)
  · replace h := h.1 h4
    refine y_ldc2 hg cw_X10_362 dX10_helps_25 ?_
    exact yEndL hend dX10_helps_28 h
  · replace h := h.2 c3 h5
    refine y_aload_n hg 0 dX10_helps_10 rfl rfl ?_
    obtain ⟨h6, h⟩ := h
    refine y_getR hg fl_X10_110 rfl h5 h6 dX10_helps_11 ?_
    refine y_ifnonnull (tgt := 25) hg dX10_helps_14 (by decide) (fun c7 h9 => ?_) (fun h8 => ?_)
    · replace h := h.2 c7 h9
      refine y_ldc2 hg cw_X10_362 dX10_helps_25 ?_
      exact yEndL hend dX10_helps_28 h
    · replace h := h.1 h8
      refine y_aload_n hg 1 dX10_helps_17 rfl rfl ?_
      refine y_iload_n hg 3 dX10_helps_18 rfl rfl ?_
      refine yVRP (Qp := _) (rest := []) (As := [.int v2]) hg (k_X10_cornerAt (gL g.1) (gD g.1) a0 v2 σ _ h) lv_X10_100 rfl h1 rfl rfl dX10_helps_19 (cat8 (Nat.le_of_ble_eq_true rfl)) hrm ⟨Nat.le_of_ble_eq_true rfl, Nat.le_of_ble_eq_true rfl⟩ (fun r10 h => ?_)
      refine y_ifnonnull (tgt := 29) hg dX10_helps_22 (by decide) (fun c11 h13 => ?_) (fun h12 => ?_)
      · replace h := h.2 c11 h13
        refine y_aload_n hg 1 dX10_helps_29 rfl rfl ?_
        refine yVVW (Qm := _) (rest := []) (As := []) hg (k_X10_prepareFlow (gL g.1) (gD g.1) a0 σ _ h) lv_X10_318 rfl h1 rfl rfl dX10_helps_30 (cat8 (Nat.le_of_ble_eq_true rfl)) hrm ⟨Nat.le_of_ble_eq_true rfl, Nat.le_of_ble_eq_true rfl⟩ (fun u14 σ15 h h16 => ?_)
        have h17 := kp h16 (show ¬ 12 = 0 by decide) h1
        have h18 := kp h16 (show ¬ 4 = 0 by decide) h6
        refine y_aload_n hg 1 dX10_helps_33 rfl rfl ?_
        refine y_getR hg fl_X10_47 rfl rfl h17 dX10_helps_34 ?_
        refine y_iconst (v := 0) hg dX10_helps_37 (by decide) ?_
        obtain ⟨c19, h20, h⟩ := h
        obtain ⟨h21, h⟩ := h
        refine yVVW (Qm := _) (rest := []) (As := [.int 0]) hg (k_X3_run (gL g.1) (gD g.1) c19 0 σ15 _ h) lv_X10_321 h20 h21 rfl rfl dX10_helps_38 (cat8 (Nat.le_of_ble_eq_true rfl)) hrm ⟨Nat.le_of_ble_eq_true rfl, Nat.le_of_ble_eq_true rfl⟩ (fun u22 σ23 h h24 => ?_)
        have h25 := kp h24 (show ¬ 12 = 0 by decide) h17
        have h26 := kp h24 (show ¬ 4 = 0 by decide) h18
        refine y_aload_n hg 1 dX10_helps_41 rfl rfl ?_
        refine y_getR hg fl_X10_47 rfl rfl h25 dX10_helps_42 ?_
        refine y_iload_n hg 3 dX10_helps_45 rfl rfl ?_
        obtain ⟨c27, h28, h⟩ := h
        obtain ⟨h29, h⟩ := h
        refine yVIP (Qp := _) (rest := []) (As := [.int v2]) hg (k_X3_spiltAt (gL g.1) (gD g.1) c27 v2 σ23 _ h) lv_X10_380 h28 h29 rfl rfl dX10_helps_46 (cat8 (Nat.le_of_ble_eq_true rfl)) hrm ⟨Nat.le_of_ble_eq_true rfl, Nat.le_of_ble_eq_true rfl⟩ (fun x30 h => ?_)
        refine y_istore (lv' := [(4, .int x30), (3, va_rf r2), (0, va_rf (some a0)), (1, .int v1), (2, .int v2)]) hg dX10_helps_49 (by rw [hgN]; decide) (by cases r2 <;> rfl) ?_
        refine y_aload_n hg 2 dX10_helps_51 rfl rfl ?_
        refine y_getR hg fl_X10_47 rfl rfl h25 dX10_helps_52 ?_
        refine y_iconst (v := 1) hg dX10_helps_55 (by decide) ?_
        refine y_iload_n hg 3 dX10_helps_56 rfl rfl ?_
        refine y_ishl hg dX10_helps_57 ?_
        obtain ⟨c31, h32, h⟩ := h
        obtain ⟨h33, h⟩ := h
        refine yVVW (Qm := _) (rest := []) (As := [.int (1 <<< (v1 &&& 31))]) hg (k_X3_run (gL g.1) (gD g.1) c31 (1 <<< (v1 &&& 31)) σ23 _ h) lv_X10_321 h32 h33 rfl rfl dX10_helps_58 (cat8 (Nat.le_of_ble_eq_true rfl)) hrm ⟨Nat.le_of_ble_eq_true rfl, Nat.le_of_ble_eq_true rfl⟩ (fun u34 σ35 h h36 => ?_)
        have h37 := kp h36 (show ¬ 12 = 0 by decide) h25
        have h38 := kp h36 (show ¬ 4 = 0 by decide) h26
        refine y_iload hg 0 dX10_helps_61 rfl ?_
        refine y_aload_n hg 2 dX10_helps_63 rfl rfl ?_
        refine y_getR hg fl_X10_47 rfl rfl h37 dX10_helps_64 ?_
        refine y_iload_n hg 4 dX10_helps_67 rfl rfl ?_
        obtain ⟨c39, h40, h⟩ := h
        obtain ⟨h41, h⟩ := h
        refine yVIP (Qp := _) (rest := [.int x30]) (As := [.int v2]) hg (k_X3_spiltAt (gL g.1) (gD g.1) c39 v2 σ35 _ h) lv_X10_380 h40 h41 rfl rfl dX10_helps_68 (cat8 (Nat.le_of_ble_eq_true rfl)) hrm ⟨Nat.le_of_ble_eq_true rfl, Nat.le_of_ble_eq_true rfl⟩ (fun x42 h => ?_)
        refine y_isub hg dX10_helps_71 ?_
        refine y_i2l hg dX10_helps_72 ?_
        exact yEndL hend dX10_helps_73 h
      · replace h := h.1 h12
        refine y_ldc2 hg cw_X10_362 dX10_helps_25 ?_
        exact yEndL hend dX10_helps_28 h
def P_X10_stormOf (a0 : Nat) (v1 : Int32) (v2 : Int32) (σ : Sg) (Q : Int64 → Prop) : Prop :=
  sK σ a0 % 32 = 12 ∧ ∃ c2 : Nat, sR σ a0 2 = some c2 ∧ sK σ c2 % 32 = 1 ∧ P_Jx4a65c_size_8abf5 c2 σ (fun x5 => P_X10_within v1 0 (x5 - 1) σ (fun x6 => (x6 = 0 → Q (-1)) ∧ (¬ (x6 = 0) → ∃ c8 : Nat, sR σ a0 2 = some c8 ∧ sK σ c8 % 32 = 1 ∧ P_Jx4a65c_get_915e3 c8 v1 σ (fun r11 => ∃ c12 : Nat, r11 = some c12 ∧ sK σ c12 % 32 = 10 ∧ ∀ y15 : Int32, y15 = v2 → (y15 = 0 → Q ((sI σ c12 0).toInt64)) ∧ (¬ (y15 = 0) → (y15 = 1 → Q ((sI σ c12 1).toInt64)) ∧ (¬ (y15 = 1) → (y15 = 2 → Q ((sI σ c12 2).toInt64)) ∧ (¬ (y15 = 2) → (y15 = 3 → Q ((sI σ c12 3).toInt64)) ∧ (¬ (y15 = 3) → (y15 = 4 → Q ((sI σ c12 4).toInt64)) ∧ (¬ (y15 = 4) → Q (-1))))))))))
set_option maxHeartbeats 4000000 in
set_option maxRecDepth 100000 in
theorem k_X10_stormOf (l : Launch) (D : Dg) (a0 : Nat) (v1 : Int32) (v2 : Int32) (σ : Sg) (Q : Int64 → Prop) (h : P_X10_stormOf a0 v1 v2 σ Q) : CtrY RN l D yX10_stormOf cX10_stormOf 4 (some FieldType.long) 3 64 mkL [.ref a0, .int v1, .int v2] σ (0, 0) (fun r σ2 => Q r ∧ σ2 = σ) := by
  refine y_ctrN (lv := [(0, va_rf (some a0)), (1, .int v1), (2, .int v2)]) (by decide) (by (exact Nat.le_of_ble_eq_true rfl)) (by (exact rfl)) (fun g hg hgL hgD hrm hgN hgI hend => ?_)
  subst hgD
  clear hgL
  unfold P_X10_stormOf at h
  refine y_iload_n hg 1 dX10_stormOf_0 rfl rfl ?_
  refine y_iconst (v := 0) hg dX10_stormOf_1 (by decide) ?_
  refine y_aload_n hg 0 dX10_stormOf_2 rfl rfl ?_
  obtain ⟨h1, h⟩ := h
  refine y_getR hg fl_X10_19 rfl rfl h1 dX10_stormOf_3 ?_
  obtain ⟨c2, h3, h⟩ := h
  obtain ⟨h4, h⟩ := h
  refine yVIP (Qp := _) (rest := [.int 0, .int v1]) (As := []) hg (k_Jx4a65c_size_8abf5 (gL g.1) (gD g.1) c2 σ _ h) lv_X10_87 h3 h4 rfl rfl dX10_stormOf_6 (cat8 (Nat.le_of_ble_eq_true rfl)) hrm ⟨Nat.le_of_ble_eq_true rfl, Nat.le_of_ble_eq_true rfl⟩ (fun x5 h => ?_)
  refine y_iconst (v := 1) hg dX10_stormOf_9 (by decide) ?_
  refine y_isub hg dX10_stormOf_10 ?_
  refine ySIP (Qp := _) (rest := []) (As := [.int v1, .int 0, .int (x5 - 1)]) hg (k_X10_within (gL g.1) (gD g.1) v1 0 (x5 - 1) σ _ h) ls_X10_83 rfl rfl dX10_stormOf_11 (cat8 (Nat.le_of_ble_eq_true rfl)) hrm ⟨Nat.le_of_ble_eq_true rfl, Nat.le_of_ble_eq_true rfl⟩ (fun x6 h => ?_)
  refine y_if_ne (tgt := 21) hg dX10_stormOf_14 (by decide) (fun q7 => ?_) (fun q7 => ?_)
  · replace h := h.2 q7
    refine y_aload_n hg 0 dX10_stormOf_21 rfl rfl ?_
    refine y_getR hg fl_X10_19 rfl rfl h1 dX10_stormOf_22 ?_
    refine y_iload_n hg 1 dX10_stormOf_25 rfl rfl ?_
    obtain ⟨c8, h9, h⟩ := h
    obtain ⟨h10, h⟩ := h
    refine yVRP (Qp := _) (rest := []) (As := [.int v1]) hg (k_Jx4a65c_get_915e3 (gL g.1) (gD g.1) c8 v1 σ _ h) lv_X10_232 h9 h10 rfl rfl dX10_stormOf_26 (cat8 (Nat.le_of_ble_eq_true rfl)) hrm ⟨Nat.le_of_ble_eq_true rfl, Nat.le_of_ble_eq_true rfl⟩ (fun r11 h => ?_)
    obtain ⟨c12, h13, h⟩ := h
    obtain ⟨h14, h⟩ := h
    refine y_cast (c := 10) hg (C := RX8) rfl (by decide) cl_X10_336 h13 h14 dX10_stormOf_29 ?_
    refine y_astore_n (lv' := [(3, va_rf r11), (0, va_rf (some a0)), (1, .int v1), (2, .int v2)]) hg dX10_stormOf_32 rfl (by rw [hgN]; decide) rfl ?_
    refine y_iload_n hg 3 dX10_stormOf_33 rfl rfl ?_
    refine y_nmI (fun y15 e16 => ?_)
    replace h := h y15 e16
    by_cases q34_0 : y15 = 0
    · replace h := h.1 q34_0
      refine y_tableIn (tgt := 68) hg dX10_stormOf_34 (by rw [q34_0]; decide) (by rw [q34_0]; decide) (by rw [q34_0]; rfl) (by decide) ?_
      refine y_aload_n hg 0 dX10_stormOf_68 rfl rfl ?_
      refine y_getI hg fl_X10_383 rfl h13 h14 dX10_stormOf_69 ?_
      refine y_i2l hg dX10_stormOf_72 ?_
      exact yEndL hend dX10_stormOf_73 ⟨h, rfl⟩
    · replace h := h.2 q34_0
      by_cases q34_1 : y15 = 1
      · replace h := h.1 q34_1
        refine y_tableIn (tgt := 74) hg dX10_stormOf_34 (by rw [q34_1]; decide) (by rw [q34_1]; decide) (by rw [q34_1]; rfl) (by decide) ?_
        refine y_aload_n hg 0 dX10_stormOf_74 rfl rfl ?_
        refine y_getI hg fl_X10_344 rfl h13 h14 dX10_stormOf_75 ?_
        refine y_i2l hg dX10_stormOf_78 ?_
        exact yEndL hend dX10_stormOf_79 ⟨h, rfl⟩
      · replace h := h.2 q34_1
        by_cases q34_2 : y15 = 2
        · replace h := h.1 q34_2
          refine y_tableIn (tgt := 80) hg dX10_stormOf_34 (by rw [q34_2]; decide) (by rw [q34_2]; decide) (by rw [q34_2]; rfl) (by decide) ?_
          refine y_aload_n hg 0 dX10_stormOf_80 rfl rfl ?_
          refine y_getI hg fl_X10_347 rfl h13 h14 dX10_stormOf_81 ?_
          refine y_i2l hg dX10_stormOf_84 ?_
          exact yEndL hend dX10_stormOf_85 ⟨h, rfl⟩
        · replace h := h.2 q34_2
          by_cases q34_3 : y15 = 3
          · replace h := h.1 q34_3
            refine y_tableIn (tgt := 86) hg dX10_stormOf_34 (by rw [q34_3]; decide) (by rw [q34_3]; decide) (by rw [q34_3]; rfl) (by decide) ?_
            refine y_aload_n hg 0 dX10_stormOf_86 rfl rfl ?_
            refine y_getI hg fl_X10_386 rfl h13 h14 dX10_stormOf_87 ?_
            refine y_i2l hg dX10_stormOf_90 ?_
            exact yEndL hend dX10_stormOf_91 ⟨h, rfl⟩
          · replace h := h.2 q34_3
            by_cases q34_4 : y15 = 4
            · replace h := h.1 q34_4
              refine y_tableIn (tgt := 92) hg dX10_stormOf_34 (by rw [q34_4]; decide) (by rw [q34_4]; decide) (by rw [q34_4]; rfl) (by decide) ?_
              refine y_aload_n hg 0 dX10_stormOf_92 rfl rfl ?_
              refine y_getI hg fl_X10_387 rfl h13 h14 dX10_stormOf_93 ?_
              refine y_i2l hg dX10_stormOf_96 ?_
              exact yEndL hend dX10_stormOf_97 ⟨h, rfl⟩
            · replace h := h.2 q34_4
              refine y_tableOut (tgt := 98) hg dX10_stormOf_34 (sw4_out q34_0 q34_1 q34_2 q34_3 q34_4) (by decide) ?_
              refine y_ldc2 hg cw_X10_362 dX10_stormOf_98 ?_
              exact yEndL hend dX10_stormOf_101 ⟨h, rfl⟩
  · replace h := h.1 q7
    refine y_ldc2 hg cw_X10_362 dX10_stormOf_17 ?_
    exact yEndL hend dX10_stormOf_20 ⟨h, rfl⟩
def P_X10_likeAhead_B111 (a0 : Nat) (v1 : Option Nat) (v2 : Int32) (v3 : Int64) (v5 : Option Nat) (v6 : Int64) (v8 : Int32) (σ : Sg) (Q : Option Nat → Prop) (K9 : (Option Nat) → Int64 → Int32 → Prop) : Prop :=
  ∀ x26 : Int32, x26 = v8 + 1 → K9 v5 v6 x26
def P_X10_likeAhead_B103 (a0 : Nat) (v1 : Option Nat) (v2 : Int32) (v3 : Int64) (v8 : Int32) (v9 : Option Nat) (v10 : Int64) (σ : Sg) (Q : Option Nat → Prop) (K9 : (Option Nat) → Int64 → Int32 → Prop) : Prop :=
  P_X10_likeAhead_B111 a0 v1 v2 v3 v9 v10 v8 σ Q K9
def P_X10_likeAhead_B83 (a0 : Nat) (v1 : Option Nat) (v2 : Int32) (v3 : Int64) (v5 : Option Nat) (v6 : Int64) (v8 : Int32) (v9 : Option Nat) (v10 : Int64) (w0 : Int32) (σ : Sg) (Q : Option Nat → Prop) (K9 : (Option Nat) → Int64 → Int32 → Prop) : Prop :=
  (w0 = 0 → P_X10_likeAhead_B111 a0 v1 v2 v3 v5 v6 v8 σ Q K9) ∧ (¬ (w0 = 0) → (v5 = none → P_X10_likeAhead_B103 a0 v1 v2 v3 v8 v9 v10 σ Q K9) ∧ (∀ c22 : Nat, v5 = some c22 → (v6 < v10 → P_X10_likeAhead_B111 a0 v1 v2 v3 v5 v6 v8 σ Q K9) ∧ (¬ (v6 < v10) → P_X10_likeAhead_B103 a0 v1 v2 v3 v8 v9 v10 σ Q K9)))
def P_X10_likeAhead_B82 (a0 : Nat) (v1 : Option Nat) (v2 : Int32) (v3 : Int64) (v5 : Option Nat) (v6 : Int64) (v8 : Int32) (v9 : Option Nat) (v10 : Int64) (σ : Sg) (Q : Option Nat → Prop) (K9 : (Option Nat) → Int64 → Int32 → Prop) : Prop :=
  P_X10_likeAhead_B83 a0 v1 v2 v3 v5 v6 v8 v9 v10 0 σ Q K9
def P_X10_likeAhead_L9b (a0 : Nat) (v1 : Option Nat) (v2 : Int32) (v3 : Int64) (v5 : Option Nat) (v6 : Int64) (v8 : Int32) (σ : Sg) (Q : Option Nat → Prop) (K9 : (Option Nat) → Int64 → Int32 → Prop) : Prop :=
  sK σ a0 % 32 = 12 ∧ ∃ c2 : Nat, sR σ a0 2 = some c2 ∧ sK σ c2 % 32 = 1 ∧ P_Jx4a65c_size_8abf5 c2 σ (fun x5 => (x5 ≤ v8 → Q v5) ∧ (¬ (x5 ≤ v8) → ∃ c7 : Nat, sR σ a0 2 = some c7 ∧ sK σ c7 % 32 = 1 ∧ P_Jx4a65c_get_915e3 c7 v8 σ (fun r10 => ∃ c11 : Nat, r10 = some c11 ∧ sK σ c11 % 32 = 10 ∧ ∃ c14 : Nat, v1 = some c14 ∧ sK σ c14 % 32 = 10 ∧ ∀ x17 : Int64, x17 = (if 0 < (((sI σ c11 1).toInt64) - ((sI σ c14 1).toInt64)) then (((sI σ c11 1).toInt64) - ((sI σ c14 1).toInt64)) else -(((sI σ c11 1).toInt64) - ((sI σ c14 1).toInt64))) → (v2 ≤ (sI σ c11 0) → P_X10_likeAhead_B82 a0 v1 v2 v3 v5 v6 v8 r10 x17 σ Q K9) ∧ (¬ (v2 ≤ (sI σ c11 0)) → ((v3 * ((sI σ c14 1).toInt64)) < (x17 * 100) → P_X10_likeAhead_B82 a0 v1 v2 v3 v5 v6 v8 r10 x17 σ Q K9) ∧ (¬ ((v3 * ((sI σ c14 1).toInt64)) < (x17 * 100)) → P_X10_likeAhead_B83 a0 v1 v2 v3 v5 v6 v8 r10 x17 1 σ Q K9)))))
def P_X10_likeAhead_L9 (a0 : Nat) (v1 : Option Nat) (v2 : Int32) (v3 : Int64) (v5 : Option Nat) (v6 : Int64) (v8 : Int32) (σ : Sg) (Q : Option Nat → Prop) : Prop :=
  ∃ I : Nat → (Option Nat) → Int64 → Int32 → Prop, (∃ n, I n v5 v6 v8) ∧ ∀ (n : Nat) (v5 : Option Nat) (v6 : Int64) (v8 : Int32), I n v5 v6 v8 → P_X10_likeAhead_L9b a0 v1 v2 v3 v5 v6 v8 σ Q (fun v5 v6 v8 => ∃ n', n' < n ∧ I n' v5 v6 v8)
def P_X10_likeAhead (a0 : Nat) (v1 : Option Nat) (v2 : Int32) (v3 : Int64) (σ : Sg) (Q : Option Nat → Prop) : Prop :=
  P_X10_likeAhead_L9 a0 v1 v2 v3 none 0 0 σ Q
set_option maxHeartbeats 4000000 in
set_option maxRecDepth 100000 in
theorem k_X10_likeAhead (l : Launch) (D : Dg) (a0 : Nat) (v1 : Option Nat) (v2 : Int32) (v3 : Int64) (σ : Sg) (Q : Option Nat → Prop) (h : P_X10_likeAhead a0 v1 v2 v3 σ Q) : CtrY RN l D yX10_likeAhead cX10_likeAhead 13 (some (FieldType.object "RainStreets$ToldStorm")) 3 64 mkR [.ref a0, va_rf v1, .int v2, .long v3] σ (0, 0) (fun r σ2 => Q r ∧ σ2 = σ) := by
  refine y_ctrN (lv := [(0, va_rf (some a0)), (1, va_rf v1), (2, .int v2), (3, .long v3)]) (by decide) (by cases v1 <;> (exact Nat.le_of_ble_eq_true rfl)) (by cases v1 <;> (exact rfl)) (fun g hg hgL hgD hrm hgN hgI hend => ?_)
  subst hgD
  clear hgL
  unfold P_X10_likeAhead at h
  have J9 : ∀ (v1 : Option Nat) (v2 : Int32) (v3 : Int64) (v5 : Option Nat) (v6 : Int64) (v8 : Int32), P_X10_likeAhead_L9 a0 v1 v2 v3 v5 v6 v8 σ Q → XA g 9 [(0, va_rf (some a0)), (1, va_rf v1), (2, .int v2), (3, .long v3), (5, va_rf v5), (6, .long v6), (8, .int v8)] [] σ (0, 0) := by
    intro v1 v2 v3 v5 v6 v8 h
    unfold P_X10_likeAhead_L9 at h
    obtain ⟨I9, ⟨n9, hI9⟩, hs9⟩ := h
    have key9 : ∀ (n : Nat), ∀ (v5 : Option Nat) (v6 : Int64) (v8 : Int32), I9 n v5 v6 v8 → XA g 9 [(0, va_rf (some a0)), (1, va_rf v1), (2, .int v2), (3, .long v3), (5, va_rf v5), (6, .long v6), (8, .int v8)] [] σ (0, 0) := by
      intro n
      induction n using Nat.strongRecOn with
      | _ n ih9 =>
      intro v5 v6 v8 hI
      have h := hs9 n v5 v6 v8 hI
      clear hI hI9 hs9
      obtain ⟨K9, hK9⟩ : ∃ K : (Option Nat) → Int64 → Int32 → Prop, K = (fun v5 v6 v8 => ∃ n', n' < n ∧ I9 n' v5 v6 v8) := ⟨_, rfl⟩
      rw [← hK9] at h
      unfold P_X10_likeAhead_L9b at h
      have J111 : ∀ (v5 : Option Nat) (v6 : Int64) (v8 : Int32), P_X10_likeAhead_B111 a0 v1 v2 v3 v5 v6 v8 σ Q K9 → XA g 111 [(0, va_rf (some a0)), (1, va_rf v1), (2, .int v2), (3, .long v3), (5, va_rf v5), (6, .long v6), (8, .int v8)] [] σ (0, 0) := by
        intro v5 v6 v8 h
        unfold P_X10_likeAhead_B111 at h
        obtain ⟨x26, e27⟩ : ∃ y : Int32, y = v8 + 1 := ⟨_, rfl⟩
        replace h := h x26 e27
        refine y_iinc (v := x26) (lv' := [(8, .int x26), (0, va_rf (some a0)), (1, va_rf v1), (2, .int v2), (3, .long v3), (5, va_rf v5), (6, .long v6)]) hg 6 dX10_likeAhead_111 rfl (by rw [e27]; rfl) (by rw [hgN]; decide) rfl ?_
        refine y_goto (tgt := 9) hg dX10_likeAhead_114 (by decide) ?_
        refine y_sub [1, 2, 3, 4, 5, 6, 0] rfl ?_
        subst hK9
        obtain ⟨n28, h29, h⟩ := h
        exact ih9 n28 h29 _ _ _ h
      have J103 : ∀ (v8 : Int32) (v9 : Option Nat) (v10 : Int64), P_X10_likeAhead_B103 a0 v1 v2 v3 v8 v9 v10 σ Q K9 → XA g 103 [(0, va_rf (some a0)), (1, va_rf v1), (2, .int v2), (3, .long v3), (8, .int v8), (9, va_rf v9), (10, .long v10)] [] σ (0, 0) := by
        intro v8 v9 v10 h
        unfold P_X10_likeAhead_B103 at h
        refine y_aload hg 5 dX10_likeAhead_103 rfl ?_
        refine y_astore (lv' := [(5, va_rf v9), (0, va_rf (some a0)), (1, va_rf v1), (2, .int v2), (3, .long v3), (8, .int v8), (9, va_rf v9), (10, .long v10)]) hg dX10_likeAhead_105 (by rw [hgN]; decide) rfl ?_
        refine y_lload hg 7 dX10_likeAhead_107 rfl ?_
        refine y_lstore (lv' := [(6, .long v10), (5, va_rf v9), (0, va_rf (some a0)), (1, va_rf v1), (2, .int v2), (3, .long v3), (8, .int v8), (9, va_rf v9), (10, .long v10)]) hg dX10_likeAhead_109 (by rw [hgN]; decide) (by cases v9 <;> rfl) ?_
        refine y_sub [2, 3, 4, 5, 1, 0, 6] rfl ?_
        exact J111 _ _ _ h
      have J83 : ∀ (v5 : Option Nat) (v6 : Int64) (v8 : Int32) (v9 : Option Nat) (v10 : Int64) (w0 : Int32), P_X10_likeAhead_B83 a0 v1 v2 v3 v5 v6 v8 v9 v10 w0 σ Q K9 → XA g 83 [(0, va_rf (some a0)), (1, va_rf v1), (2, .int v2), (3, .long v3), (5, va_rf v5), (6, .long v6), (8, .int v8), (9, va_rf v9), (10, .long v10)] [.int w0] σ (0, 0) := by
        intro v5 v6 v8 v9 v10 w0 h
        unfold P_X10_likeAhead_B83 at h
        refine y_istore (lv' := [(12, .int w0), (0, va_rf (some a0)), (1, va_rf v1), (2, .int v2), (3, .long v3), (5, va_rf v5), (6, .long v6), (8, .int v8), (9, va_rf v9), (10, .long v10)]) hg dX10_likeAhead_83 (by rw [hgN]; decide) rfl ?_
        refine y_iload hg 0 dX10_likeAhead_85 rfl ?_
        refine y_if_eq (tgt := 111) hg dX10_likeAhead_87 (by decide) (fun q21 => ?_) (fun q21 => ?_)
        · replace h := h.1 q21
          refine y_sub [1, 2, 3, 4, 5, 6, 7] rfl ?_
          exact J111 _ _ _ h
        · replace h := h.2 q21
          refine y_aload hg 5 dX10_likeAhead_90 rfl ?_
          refine y_ifnull (tgt := 103) hg dX10_likeAhead_92 (by decide) (fun h23 => ?_) (fun c22 h24 => ?_)
          · replace h := h.1 h23
            refine y_sub [1, 2, 3, 4, 7, 8, 9] rfl ?_
            exact J103 _ _ _ h
          · replace h := h.2 c22 h24
            refine y_lload hg 9 dX10_likeAhead_95 rfl ?_
            refine y_lload hg 6 dX10_likeAhead_97 rfl ?_
            refine y_lcmp hg dX10_likeAhead_99 ?_
            refine y_if_gt (tgt := 111) hg dX10_likeAhead_100 (by decide) (fun q25 => ?_) (fun q25 => ?_)
            · replace h := h.1 ((lg_cmp_gt _ _).mp q25)
              refine y_sub [1, 2, 3, 4, 5, 6, 7] rfl ?_
              exact J111 _ _ _ h
            · replace h := h.2 (fun z => q25 ((lg_cmp_gt _ _).mpr z))
              refine y_sub [1, 2, 3, 4, 7, 8, 9] rfl ?_
              exact J103 _ _ _ h
      have J82 : ∀ (v5 : Option Nat) (v6 : Int64) (v8 : Int32) (v9 : Option Nat) (v10 : Int64), P_X10_likeAhead_B82 a0 v1 v2 v3 v5 v6 v8 v9 v10 σ Q K9 → XA g 82 [(0, va_rf (some a0)), (1, va_rf v1), (2, .int v2), (3, .long v3), (5, va_rf v5), (6, .long v6), (8, .int v8), (9, va_rf v9), (10, .long v10)] [] σ (0, 0) := by
        intro v5 v6 v8 v9 v10 h
        unfold P_X10_likeAhead_B82 at h
        refine y_iconst (v := 0) hg dX10_likeAhead_82 (by decide) ?_
        refine y_sub [0, 1, 2, 3, 4, 5, 6, 7, 8] rfl ?_
        exact J83 _ _ _ _ _ _ h
      refine y_iload hg 6 dX10_likeAhead_9 rfl ?_
      refine y_aload_n hg 0 dX10_likeAhead_11 rfl rfl ?_
      obtain ⟨h1, h⟩ := h
      refine y_getR hg fl_X10_19 rfl rfl h1 dX10_likeAhead_12 ?_
      obtain ⟨c2, h3, h⟩ := h
      obtain ⟨h4, h⟩ := h
      refine yVIP (Qp := _) (rest := [.int v8]) (As := []) hg (k_Jx4a65c_size_8abf5 (gL g.1) (gD g.1) c2 σ _ h) lv_X10_87 h3 h4 rfl rfl dX10_likeAhead_15 (cat8 (Nat.le_of_ble_eq_true rfl)) hrm ⟨Nat.le_of_ble_eq_true rfl, Nat.le_of_ble_eq_true rfl⟩ (fun x5 h => ?_)
      refine y_icmp_ge (tgt := 117) hg dX10_likeAhead_18 (by decide) (fun q6 => ?_) (fun q6 => ?_)
      · replace h := h.1 q6
        refine y_aload hg 4 dX10_likeAhead_117 rfl ?_
        exact yEndR hend rfl dX10_likeAhead_119 ⟨h, rfl⟩
      · replace h := h.2 q6
        refine y_aload_n hg 0 dX10_likeAhead_21 rfl rfl ?_
        refine y_getR hg fl_X10_19 rfl rfl h1 dX10_likeAhead_22 ?_
        refine y_iload hg 6 dX10_likeAhead_25 rfl ?_
        obtain ⟨c7, h8, h⟩ := h
        obtain ⟨h9, h⟩ := h
        refine yVRP (Qp := _) (rest := []) (As := [.int v8]) hg (k_Jx4a65c_get_915e3 (gL g.1) (gD g.1) c7 v8 σ _ h) lv_X10_232 h8 h9 rfl rfl dX10_likeAhead_27 (cat8 (Nat.le_of_ble_eq_true rfl)) hrm ⟨Nat.le_of_ble_eq_true rfl, Nat.le_of_ble_eq_true rfl⟩ (fun r10 h => ?_)
        obtain ⟨c11, h12, h⟩ := h
        obtain ⟨h13, h⟩ := h
        refine y_cast (c := 10) hg (C := RX8) rfl (by decide) cl_X10_336 h12 h13 dX10_likeAhead_30 ?_
        refine y_astore (lv' := [(9, va_rf r10), (0, va_rf (some a0)), (1, va_rf v1), (2, .int v2), (3, .long v3), (5, va_rf v5), (6, .long v6), (8, .int v8)]) hg dX10_likeAhead_33 (by rw [hgN]; decide) rfl ?_
        refine y_aload hg 0 dX10_likeAhead_35 rfl ?_
        refine y_getI hg fl_X10_344 rfl h12 h13 dX10_likeAhead_37 ?_
        refine y_i2l hg dX10_likeAhead_40 ?_
        refine y_aload_n hg 2 dX10_likeAhead_41 rfl rfl ?_
        obtain ⟨c14, h15, h⟩ := h
        obtain ⟨h16, h⟩ := h
        refine y_getI hg fl_X10_344 rfl h15 h16 dX10_likeAhead_42 ?_
        refine y_i2l hg dX10_likeAhead_45 ?_
        refine y_lsub hg dX10_likeAhead_46 ?_
        refine y_mabsL hg mm_X10_394 (cat8 (Nat.le_of_ble_eq_true rfl)) hrm ⟨Nat.le_of_ble_eq_true rfl, Nat.le_of_ble_eq_true rfl⟩ dX10_likeAhead_47 ?_
        refine y_nmJ (fun x17 e18 => ?_)
        replace h := h x17 e18
        refine y_lstore (lv' := [(10, .long x17), (9, va_rf r10), (0, va_rf (some a0)), (1, va_rf v1), (2, .int v2), (3, .long v3), (5, va_rf v5), (6, .long v6), (8, .int v8)]) hg dX10_likeAhead_50 (by rw [hgN]; decide) (by cases r10 <;> rfl) ?_
        refine y_aload hg 1 dX10_likeAhead_52 rfl ?_
        refine y_getI hg fl_X10_383 rfl h12 h13 dX10_likeAhead_54 ?_
        refine y_iload_n hg 4 dX10_likeAhead_57 rfl rfl ?_
        refine y_icmp_ge (tgt := 82) hg dX10_likeAhead_58 (by decide) (fun q19 => ?_) (fun q19 => ?_)
        · replace h := h.1 q19
          refine y_sub [2, 3, 4, 5, 6, 7, 8, 1, 0] rfl ?_
          exact J82 _ _ _ _ _ h
        · replace h := h.2 q19
          refine y_lload hg 0 dX10_likeAhead_61 rfl ?_
          refine y_ldc2 hg cw_X10_392 dX10_likeAhead_63 ?_
          refine y_lmul hg dX10_likeAhead_66 ?_
          refine y_lload_n hg 5 dX10_likeAhead_67 rfl rfl ?_
          refine y_aload_n hg 3 dX10_likeAhead_68 rfl rfl ?_
          refine y_getI hg fl_X10_344 rfl h15 h16 dX10_likeAhead_69 ?_
          refine y_i2l hg dX10_likeAhead_72 ?_
          refine y_lmul hg dX10_likeAhead_73 ?_
          refine y_lcmp hg dX10_likeAhead_74 ?_
          refine y_if_gt (tgt := 82) hg dX10_likeAhead_75 (by decide) (fun q20 => ?_) (fun q20 => ?_)
          · replace h := h.1 ((lg_cmp_gt _ _).mp q20)
            refine y_sub [2, 3, 4, 5, 6, 7, 8, 1, 0] rfl ?_
            exact J82 _ _ _ _ _ h
          · replace h := h.2 (fun z => q20 ((lg_cmp_gt _ _).mpr z))
            refine y_iconst (v := 1) hg dX10_likeAhead_78 (by decide) ?_
            refine y_goto (tgt := 83) hg dX10_likeAhead_79 (by decide) ?_
            refine y_sub [2, 3, 4, 5, 6, 7, 8, 1, 0] rfl ?_
            exact J83 _ _ _ _ _ _ h
    exact key9 n9 v5 v6 v8 hI9
  refine y_null hg dX10_likeAhead_0 ?_
  refine y_astore (lv' := [(5, va_rf none), (0, va_rf (some a0)), (1, va_rf v1), (2, .int v2), (3, .long v3)]) hg dX10_likeAhead_1 (by rw [hgN]; decide) rfl ?_
  refine y_lconst (v := 0) hg dX10_likeAhead_3 (by decide) ?_
  refine y_lstore (lv' := [(6, .long 0), (5, va_rf none), (0, va_rf (some a0)), (1, va_rf v1), (2, .int v2), (3, .long v3)]) hg dX10_likeAhead_4 (by rw [hgN]; decide) rfl ?_
  refine y_iconst (v := 0) hg dX10_likeAhead_6 (by decide) ?_
  refine y_istore (lv' := [(8, .int 0), (6, .long 0), (5, va_rf none), (0, va_rf (some a0)), (1, va_rf v1), (2, .int v2), (3, .long v3)]) hg dX10_likeAhead_7 (by rw [hgN]; decide) rfl ?_
  refine y_sub [3, 4, 5, 6, 2, 1, 0] rfl ?_
  exact J9 _ _ _ _ _ _ h
def P_X10_compare_B130 (a0 : Nat) (v1 : Int32) (v2 : Int32) (v3 : Int64) (v5 : Int32) (v6 : Int64) (v8 : Int64) (v10 : Int32) (σ : Sg) (Q : Int64 → Prop) (K51 : Int32 → Int64 → Int64 → Int32 → Prop) : Prop :=
  ∀ x42 : Int32, x42 = v10 + 1 → K51 v5 v6 v8 x42
def P_X10_compare_B98 (a0 : Nat) (v1 : Int32) (v2 : Int32) (v3 : Int64) (v5 : Int32) (v6 : Int64) (v8 : Int64) (v10 : Int32) (v11 : Option Nat) (w0 : Option Nat) (σ : Sg) (Q : Int64 → Prop) (K51 : Int32 → Int64 → Int64 → Int32 → Prop) : Prop :=
  (w0 = none → P_X10_compare_B130 a0 v1 v2 v3 v5 v6 v8 v10 σ Q K51) ∧ (∀ c29 : Nat, w0 = some c29 → ∀ x32 : Int32, x32 = v5 + 1 → sK σ c29 % 32 = 10 ∧ ∀ x35 : Int64, x35 = v6 + ((sI σ c29 2).toInt64) → ∃ c37 : Nat, v11 = some c37 ∧ sK σ c37 % 32 = 10 ∧ ∀ x40 : Int64, x40 = v8 + ((sI σ c37 2).toInt64) → P_X10_compare_B130 a0 v1 v2 v3 x32 x35 x40 v10 σ Q K51)
def P_X10_compare_L51b (a0 : Nat) (v1 : Int32) (v2 : Int32) (v3 : Int64) (v5 : Int32) (v6 : Int64) (v8 : Int64) (v10 : Int32) (σ : Sg) (Q : Int64 → Prop) (K51 : Int32 → Int64 → Int64 → Int32 → Prop) : Prop :=
  sK σ a0 % 32 = 12 ∧ ∃ c12 : Nat, sR σ a0 2 = some c12 ∧ sK σ c12 % 32 = 1 ∧ P_Jx4a65c_size_8abf5 c12 σ (fun x15 => (x15 ≤ v10 → ∀ y17 : Int32, y17 = v2 → (y17 = 0 → Q v5.toInt64) ∧ (¬ (y17 = 0) → (y17 = 1 → Q v6) ∧ (¬ (y17 = 1) → (y17 = 2 → Q v8) ∧ (¬ (y17 = 2) → (((v6 - v8) * 100) ≤ (v3 * v6) → Q 0) ∧ (¬ (((v6 - v8) * 100) ≤ (v3 * v6)) → Q 1))))) ∧ (¬ (x15 ≤ v10) → ∃ c20 : Nat, sR σ a0 2 = some c20 ∧ sK σ c20 % 32 = 1 ∧ P_Jx4a65c_get_915e3 c20 v10 σ (fun r23 => ∃ c24 : Nat, r23 = some c24 ∧ sK σ c24 % 32 = 10 ∧ (v1 ≤ (sI σ c24 0) → P_X10_likeAhead a0 r23 v1 v3 σ (fun r28 => P_X10_compare_B98 a0 v1 v2 v3 v5 v6 v8 v10 r23 r28 σ Q K51)) ∧ (¬ (v1 ≤ (sI σ c24 0)) → P_X10_compare_B98 a0 v1 v2 v3 v5 v6 v8 v10 r23 none σ Q K51))))
def P_X10_compare_L51 (a0 : Nat) (v1 : Int32) (v2 : Int32) (v3 : Int64) (v5 : Int32) (v6 : Int64) (v8 : Int64) (v10 : Int32) (σ : Sg) (Q : Int64 → Prop) : Prop :=
  ∃ I : Nat → Int32 → Int64 → Int64 → Int32 → Prop, (∃ n, I n v5 v6 v8 v10) ∧ ∀ (n : Nat) (v5 : Int32) (v6 : Int64) (v8 : Int64) (v10 : Int32), I n v5 v6 v8 v10 → P_X10_compare_L51b a0 v1 v2 v3 v5 v6 v8 v10 σ Q (fun v5 v6 v8 v10 => ∃ n', n' < n ∧ I n' v5 v6 v8 v10)
def P_X10_compare (a0 : Nat) (v1 : Int32) (v2 : Int32) (σ : Sg) (Q : Int64 → Prop) : Prop :=
  P_X10_within v1 0 3649 σ (fun x1 => (x1 = 0 → Q (-1)) ∧ (¬ (x1 = 0) → P_X10_within v2 0 3 σ (fun x3 => (x3 = 0 → Q (-1)) ∧ (¬ (x3 = 0) → sK σ a0 % 32 = 12 ∧ P_X10_lawOn a0 (sI σ a0 15) σ (fun r6 => ∃ c7 : Nat, r6 = some c7 ∧ sK σ c7 % 32 = 6 ∧ P_X4_value c7 12 σ (fun x10 => P_X10_compare_L51 a0 v1 v2 x10.toInt64 0 0 0 0 σ Q))))))
set_option maxHeartbeats 4000000 in
set_option maxRecDepth 100000 in
theorem k_X10_compare (l : Launch) (D : Dg) (a0 : Nat) (v1 : Int32) (v2 : Int32) (σ : Sg) (Q : Int64 → Prop) (h : P_X10_compare a0 v1 v2 σ Q) : CtrY RN l D yX10_compare cX10_compare 13 (some FieldType.long) 4 96 mkL [.ref a0, .int v1, .int v2] σ (0, 0) (fun r σ2 => Q r ∧ σ2 = σ) := by
  refine y_ctrN (lv := [(0, va_rf (some a0)), (1, .int v1), (2, .int v2)]) (by decide) (by (exact Nat.le_of_ble_eq_true rfl)) (by (exact rfl)) (fun g hg hgL hgD hrm hgN hgI hend => ?_)
  subst hgD
  clear hgL
  unfold P_X10_compare at h
  have J51 : ∀ (v1 : Int32) (v2 : Int32) (v3 : Int64) (v5 : Int32) (v6 : Int64) (v8 : Int64) (v10 : Int32), P_X10_compare_L51 a0 v1 v2 v3 v5 v6 v8 v10 σ Q → XA g 51 [(0, va_rf (some a0)), (1, .int v1), (2, .int v2), (3, .long v3), (5, .int v5), (6, .long v6), (8, .long v8), (10, .int v10)] [] σ (0, 0) := by
    intro v1 v2 v3 v5 v6 v8 v10 h
    unfold P_X10_compare_L51 at h
    obtain ⟨I51, ⟨n51, hI51⟩, hs51⟩ := h
    have key51 : ∀ (n : Nat), ∀ (v5 : Int32) (v6 : Int64) (v8 : Int64) (v10 : Int32), I51 n v5 v6 v8 v10 → XA g 51 [(0, va_rf (some a0)), (1, .int v1), (2, .int v2), (3, .long v3), (5, .int v5), (6, .long v6), (8, .long v8), (10, .int v10)] [] σ (0, 0) := by
      intro n
      induction n using Nat.strongRecOn with
      | _ n ih51 =>
      intro v5 v6 v8 v10 hI
      have h := hs51 n v5 v6 v8 v10 hI
      clear hI hI51 hs51
      obtain ⟨K51, hK51⟩ : ∃ K : Int32 → Int64 → Int64 → Int32 → Prop, K = (fun v5 v6 v8 v10 => ∃ n', n' < n ∧ I51 n' v5 v6 v8 v10) := ⟨_, rfl⟩
      rw [← hK51] at h
      unfold P_X10_compare_L51b at h
      have J130 : ∀ (v5 : Int32) (v6 : Int64) (v8 : Int64) (v10 : Int32), P_X10_compare_B130 a0 v1 v2 v3 v5 v6 v8 v10 σ Q K51 → XA g 130 [(0, va_rf (some a0)), (1, .int v1), (2, .int v2), (3, .long v3), (5, .int v5), (6, .long v6), (8, .long v8), (10, .int v10)] [] σ (0, 0) := by
        intro v5 v6 v8 v10 h
        unfold P_X10_compare_B130 at h
        obtain ⟨x42, e43⟩ : ∃ y : Int32, y = v10 + 1 := ⟨_, rfl⟩
        replace h := h x42 e43
        refine y_iinc (v := x42) (lv' := [(10, .int x42), (0, va_rf (some a0)), (1, .int v1), (2, .int v2), (3, .long v3), (5, .int v5), (6, .long v6), (8, .long v8)]) hg 7 dX10_compare_130 rfl (by rw [e43]; rfl) (by rw [hgN]; decide) rfl ?_
        refine y_goto (tgt := 51) hg dX10_compare_133 (by decide) ?_
        refine y_sub [1, 2, 3, 4, 5, 6, 7, 0] rfl ?_
        subst hK51
        obtain ⟨n44, h45, h⟩ := h
        exact ih51 n44 h45 _ _ _ _ h
      have J98 : ∀ (v5 : Int32) (v6 : Int64) (v8 : Int64) (v10 : Int32) (v11 : Option Nat) (w0 : Option Nat), P_X10_compare_B98 a0 v1 v2 v3 v5 v6 v8 v10 v11 w0 σ Q K51 → XA g 98 [(0, va_rf (some a0)), (1, .int v1), (2, .int v2), (3, .long v3), (5, .int v5), (6, .long v6), (8, .long v8), (10, .int v10), (11, va_rf v11)] [va_rf w0] σ (0, 0) := by
        intro v5 v6 v8 v10 v11 w0 h
        unfold P_X10_compare_B98 at h
        refine y_astore (lv' := [(12, va_rf w0), (0, va_rf (some a0)), (1, .int v1), (2, .int v2), (3, .long v3), (5, .int v5), (6, .long v6), (8, .long v8), (10, .int v10), (11, va_rf v11)]) hg dX10_compare_98 (by rw [hgN]; decide) (by cases v11 <;> rfl) ?_
        refine y_aload hg 0 dX10_compare_100 rfl ?_
        refine y_ifnull (tgt := 130) hg dX10_compare_102 (by decide) (fun h30 => ?_) (fun c29 h31 => ?_)
        · replace h := h.1 h30
          refine y_sub [1, 2, 3, 4, 5, 6, 7, 8] rfl ?_
          exact J130 _ _ _ _ h
        · replace h := h.2 c29 h31
          obtain ⟨x32, e33⟩ : ∃ y : Int32, y = v5 + 1 := ⟨_, rfl⟩
          replace h := h x32 e33
          refine y_iinc (v := x32) (lv' := [(5, .int x32), (12, va_rf w0), (0, va_rf (some a0)), (1, .int v1), (2, .int v2), (3, .long v3), (6, .long v6), (8, .long v8), (10, .int v10), (11, va_rf v11)]) hg 5 dX10_compare_105 rfl (by rw [e33]; rfl) (by rw [hgN]; decide) rfl ?_
          refine y_lload hg 6 dX10_compare_108 rfl ?_
          refine y_aload hg 1 dX10_compare_110 rfl ?_
          obtain ⟨h34, h⟩ := h
          refine y_getI hg fl_X10_347 rfl h31 h34 dX10_compare_112 ?_
          refine y_i2l hg dX10_compare_115 ?_
          refine y_ladd hg dX10_compare_116 ?_
          refine y_nmJ (fun x35 e36 => ?_)
          replace h := h x35 e36
          refine y_lstore (lv' := [(6, .long x35), (5, .int x32), (12, va_rf w0), (0, va_rf (some a0)), (1, .int v1), (2, .int v2), (3, .long v3), (8, .long v8), (10, .int v10), (11, va_rf v11)]) hg dX10_compare_117 (by rw [hgN]; decide) rfl ?_
          refine y_lload hg 7 dX10_compare_119 rfl ?_
          refine y_aload hg 9 dX10_compare_121 rfl ?_
          obtain ⟨c37, h38, h⟩ := h
          obtain ⟨h39, h⟩ := h
          refine y_getI hg fl_X10_347 rfl h38 h39 dX10_compare_123 ?_
          refine y_i2l hg dX10_compare_126 ?_
          refine y_ladd hg dX10_compare_127 ?_
          refine y_nmJ (fun x40 e41 => ?_)
          replace h := h x40 e41
          refine y_lstore (lv' := [(8, .long x40), (6, .long x35), (5, .int x32), (12, va_rf w0), (0, va_rf (some a0)), (1, .int v1), (2, .int v2), (3, .long v3), (10, .int v10), (11, va_rf v11)]) hg dX10_compare_128 (by rw [hgN]; decide) rfl ?_
          refine y_sub [4, 5, 6, 7, 2, 1, 0, 8] rfl ?_
          exact J130 _ _ _ _ h
      refine y_iload hg 7 dX10_compare_51 rfl ?_
      refine y_aload_n hg 0 dX10_compare_53 rfl rfl ?_
      obtain ⟨h11, h⟩ := h
      refine y_getR hg fl_X10_19 rfl rfl h11 dX10_compare_54 ?_
      obtain ⟨c12, h13, h⟩ := h
      obtain ⟨h14, h⟩ := h
      refine yVIP (Qp := _) (rest := [.int v10]) (As := []) hg (k_Jx4a65c_size_8abf5 (gL g.1) (gD g.1) c12 σ _ h) lv_X10_87 h13 h14 rfl rfl dX10_compare_57 (cat8 (Nat.le_of_ble_eq_true rfl)) hrm ⟨Nat.le_of_ble_eq_true rfl, Nat.le_of_ble_eq_true rfl⟩ (fun x15 h => ?_)
      refine y_icmp_ge (tgt := 136) hg dX10_compare_60 (by decide) (fun q16 => ?_) (fun q16 => ?_)
      · replace h := h.1 q16
        refine y_iload_n hg 2 dX10_compare_136 rfl rfl ?_
        refine y_nmI (fun y17 e18 => ?_)
        replace h := h y17 e18
        by_cases q137_0 : y17 = 0
        · replace h := h.1 q137_0
          refine y_tableIn (tgt := 164) hg dX10_compare_137 (by rw [q137_0]; decide) (by rw [q137_0]; decide) (by rw [q137_0]; rfl) (by decide) ?_
          refine y_iload hg 4 dX10_compare_164 rfl ?_
          refine y_i2l hg dX10_compare_166 ?_
          exact yEndL hend dX10_compare_167 ⟨h, rfl⟩
        · replace h := h.2 q137_0
          by_cases q137_1 : y17 = 1
          · replace h := h.1 q137_1
            refine y_tableIn (tgt := 168) hg dX10_compare_137 (by rw [q137_1]; decide) (by rw [q137_1]; decide) (by rw [q137_1]; rfl) (by decide) ?_
            refine y_lload hg 5 dX10_compare_168 rfl ?_
            exact yEndL hend dX10_compare_170 ⟨h, rfl⟩
          · replace h := h.2 q137_1
            by_cases q137_2 : y17 = 2
            · replace h := h.1 q137_2
              refine y_tableIn (tgt := 171) hg dX10_compare_137 (by rw [q137_2]; decide) (by rw [q137_2]; decide) (by rw [q137_2]; rfl) (by decide) ?_
              refine y_lload hg 6 dX10_compare_171 rfl ?_
              exact yEndL hend dX10_compare_173 ⟨h, rfl⟩
            · replace h := h.2 q137_2
              refine y_tableOut (tgt := 174) hg dX10_compare_137 (sw2_out q137_0 q137_1 q137_2) (by decide) ?_
              refine y_lload hg 5 dX10_compare_174 rfl ?_
              refine y_lload hg 6 dX10_compare_176 rfl ?_
              refine y_lsub hg dX10_compare_178 ?_
              refine y_ldc2 hg cw_X10_392 dX10_compare_179 ?_
              refine y_lmul hg dX10_compare_182 ?_
              refine y_lload_n hg 3 dX10_compare_183 rfl rfl ?_
              refine y_lload hg 5 dX10_compare_184 rfl ?_
              refine y_lmul hg dX10_compare_186 ?_
              refine y_lcmp hg dX10_compare_187 ?_
              refine y_if_le (tgt := 195) hg dX10_compare_188 (by decide) (fun q19 => ?_) (fun q19 => ?_)
              · replace h := h.1 ((lg_cmp_le _ _).mp q19)
                refine y_lconst (v := 0) hg dX10_compare_195 (by decide) ?_
                exact yEndL hend dX10_compare_196 ⟨h, rfl⟩
              · replace h := h.2 (fun z => q19 ((lg_cmp_le _ _).mpr z))
                refine y_lconst (v := 1) hg dX10_compare_191 (by decide) ?_
                refine y_goto (tgt := 196) hg dX10_compare_192 (by decide) ?_
                exact yEndL hend dX10_compare_196 ⟨h, rfl⟩
      · replace h := h.2 q16
        refine y_aload_n hg 0 dX10_compare_63 rfl rfl ?_
        refine y_getR hg fl_X10_19 rfl rfl h11 dX10_compare_64 ?_
        refine y_iload hg 7 dX10_compare_67 rfl ?_
        obtain ⟨c20, h21, h⟩ := h
        obtain ⟨h22, h⟩ := h
        refine yVRP (Qp := _) (rest := []) (As := [.int v10]) hg (k_Jx4a65c_get_915e3 (gL g.1) (gD g.1) c20 v10 σ _ h) lv_X10_232 h21 h22 rfl rfl dX10_compare_69 (cat8 (Nat.le_of_ble_eq_true rfl)) hrm ⟨Nat.le_of_ble_eq_true rfl, Nat.le_of_ble_eq_true rfl⟩ (fun r23 h => ?_)
        obtain ⟨c24, h25, h⟩ := h
        obtain ⟨h26, h⟩ := h
        refine y_cast (c := 10) hg (C := RX8) rfl (by decide) cl_X10_336 h25 h26 dX10_compare_72 ?_
        refine y_astore (lv' := [(11, va_rf r23), (0, va_rf (some a0)), (1, .int v1), (2, .int v2), (3, .long v3), (5, .int v5), (6, .long v6), (8, .long v8), (10, .int v10)]) hg dX10_compare_75 (by rw [hgN]; decide) rfl ?_
        refine y_aload hg 0 dX10_compare_77 rfl ?_
        refine y_getI hg fl_X10_383 rfl h25 h26 dX10_compare_79 ?_
        refine y_iload_n hg 2 dX10_compare_82 rfl rfl ?_
        refine y_icmp_ge (tgt := 90) hg dX10_compare_83 (by decide) (fun q27 => ?_) (fun q27 => ?_)
        · replace h := h.1 q27
          refine y_aload_n hg 1 dX10_compare_90 rfl rfl ?_
          refine y_aload hg 0 dX10_compare_91 rfl ?_
          refine y_iload_n hg 2 dX10_compare_93 rfl rfl ?_
          refine y_lload_n hg 4 dX10_compare_94 rfl rfl ?_
          refine yVRP (Qp := _) (rest := []) (As := [va_rf r23, .int v1, .long v3]) hg (k_X10_likeAhead (gL g.1) (gD g.1) a0 r23 v1 v3 σ _ h) lv_X10_388 rfl h11 rfl rfl dX10_compare_95 (cat8 (Nat.le_of_ble_eq_true rfl)) hrm ⟨Nat.le_of_ble_eq_true rfl, Nat.le_of_ble_eq_true rfl⟩ (fun r28 h => ?_)
          refine y_sub [1, 2, 3, 4, 5, 6, 7, 8, 0] rfl ?_
          exact J98 _ _ _ _ _ _ h
        · replace h := h.2 q27
          refine y_null hg dX10_compare_86 ?_
          refine y_goto (tgt := 98) hg dX10_compare_87 (by decide) ?_
          refine y_sub [1, 2, 3, 4, 5, 6, 7, 8, 0] rfl ?_
          exact J98 _ _ _ _ _ _ h
    exact key51 n51 v5 v6 v8 v10 hI51
  refine y_iload_n hg 1 dX10_compare_0 rfl rfl ?_
  refine y_iconst (v := 0) hg dX10_compare_1 (by decide) ?_
  refine y_sipush (v := 3649) hg dX10_compare_2 (by decide) ?_
  refine ySIP (Qp := _) (rest := []) (As := [.int v1, .int 0, .int 3649]) hg (k_X10_within (gL g.1) (gD g.1) v1 0 3649 σ _ h) ls_X10_83 rfl rfl dX10_compare_5 (cat8 (Nat.le_of_ble_eq_true rfl)) hrm ⟨Nat.le_of_ble_eq_true rfl, Nat.le_of_ble_eq_true rfl⟩ (fun x1 h => ?_)
  refine y_if_eq (tgt := 20) hg dX10_compare_8 (by decide) (fun q2 => ?_) (fun q2 => ?_)
  · replace h := h.1 q2
    refine y_ldc2 hg cw_X10_362 dX10_compare_20 ?_
    exact yEndL hend dX10_compare_23 ⟨h, rfl⟩
  · replace h := h.2 q2
    refine y_iload_n hg 2 dX10_compare_11 rfl rfl ?_
    refine y_iconst (v := 0) hg dX10_compare_12 (by decide) ?_
    refine y_iconst (v := 3) hg dX10_compare_13 (by decide) ?_
    refine ySIP (Qp := _) (rest := []) (As := [.int v2, .int 0, .int 3]) hg (k_X10_within (gL g.1) (gD g.1) v2 0 3 σ _ h) ls_X10_83 rfl rfl dX10_compare_14 (cat8 (Nat.le_of_ble_eq_true rfl)) hrm ⟨Nat.le_of_ble_eq_true rfl, Nat.le_of_ble_eq_true rfl⟩ (fun x3 h => ?_)
    refine y_if_ne (tgt := 24) hg dX10_compare_17 (by decide) (fun q4 => ?_) (fun q4 => ?_)
    · replace h := h.2 q4
      refine y_aload_n hg 0 dX10_compare_24 rfl rfl ?_
      refine y_aload_n hg 0 dX10_compare_25 rfl rfl ?_
      obtain ⟨h5, h⟩ := h
      refine y_getI hg fl_X10_120 rfl rfl h5 dX10_compare_26 ?_
      refine yVRP (Qp := _) (rest := []) (As := [.int (sI σ a0 15)]) hg (k_X10_lawOn (gL g.1) (gD g.1) a0 (sI σ a0 15) σ _ h) lv_X10_123 rfl h5 rfl rfl dX10_compare_29 (cat8 (Nat.le_of_ble_eq_true rfl)) hrm ⟨Nat.le_of_ble_eq_true rfl, Nat.le_of_ble_eq_true rfl⟩ (fun r6 h => ?_)
      refine y_bipush (v := 12) hg dX10_compare_32 (by decide) ?_
      obtain ⟨c7, h8, h⟩ := h
      obtain ⟨h9, h⟩ := h
      refine yVIP (Qp := _) (rest := []) (As := [.int 12]) hg (k_X4_value (gL g.1) (gD g.1) c7 12 σ _ h) lv_X10_127 h8 h9 rfl rfl dX10_compare_34 (cat8 (Nat.le_of_ble_eq_true rfl)) hrm ⟨Nat.le_of_ble_eq_true rfl, Nat.le_of_ble_eq_true rfl⟩ (fun x10 h => ?_)
      refine y_i2l hg dX10_compare_37 ?_
      refine y_lstore_n (lv' := [(3, .long x10.toInt64), (0, va_rf (some a0)), (1, .int v1), (2, .int v2)]) hg dX10_compare_38 rfl (by rw [hgN]; decide) rfl ?_
      refine y_iconst (v := 0) hg dX10_compare_39 (by decide) ?_
      refine y_istore (lv' := [(5, .int 0), (3, .long x10.toInt64), (0, va_rf (some a0)), (1, .int v1), (2, .int v2)]) hg dX10_compare_40 (by rw [hgN]; decide) rfl ?_
      refine y_lconst (v := 0) hg dX10_compare_42 (by decide) ?_
      refine y_lstore (lv' := [(6, .long 0), (5, .int 0), (3, .long x10.toInt64), (0, va_rf (some a0)), (1, .int v1), (2, .int v2)]) hg dX10_compare_43 (by rw [hgN]; decide) rfl ?_
      refine y_lconst (v := 0) hg dX10_compare_45 (by decide) ?_
      refine y_lstore (lv' := [(8, .long 0), (6, .long 0), (5, .int 0), (3, .long x10.toInt64), (0, va_rf (some a0)), (1, .int v1), (2, .int v2)]) hg dX10_compare_46 (by rw [hgN]; decide) rfl ?_
      refine y_iconst (v := 0) hg dX10_compare_48 (by decide) ?_
      refine y_istore (lv' := [(10, .int 0), (8, .long 0), (6, .long 0), (5, .int 0), (3, .long x10.toInt64), (0, va_rf (some a0)), (1, .int v1), (2, .int v2)]) hg dX10_compare_49 (by rw [hgN]; decide) rfl ?_
      refine y_sub [5, 6, 7, 4, 3, 2, 1, 0] rfl ?_
      exact J51 _ _ _ _ _ _ _ h
    · replace h := h.1 q4
      refine y_ldc2 hg cw_X10_362 dX10_compare_20 ?_
      exact yEndL hend dX10_compare_23 ⟨h, rfl⟩
def P_X10_look (a0 : Nat) (v1 : Int32) (v2 : Int32) (σ : Sg) (Q : Int32 → Sg → Prop) : Prop :=
  sK σ a0 % 32 = 12 ∧ P_X10_bedAt a0 v1 σ (fun r2 => (r2 = none → Q (-1) σ) ∧ (∀ c3 : Nat, r2 = some c3 → P_X10_within v2 0 3 σ (fun x6 => (x6 = 0 → Q (-1) σ) ∧ (¬ (x6 = 0) → sK σ c3 % 32 = 2 ∧ ∀ σ9 : Sg, σ9 = pI σ c3 10 v2 → ∀ σ12 : Sg, σ12 = pI σ9 a0 16 ((sI σ9 a0 16) + 1) → Q (sI σ12 a0 16) σ12))))
set_option maxHeartbeats 4000000 in
set_option maxRecDepth 100000 in
theorem k_X10_look (l : Launch) (D : Dg) (a0 : Nat) (v1 : Int32) (v2 : Int32) (σ : Sg) (Q : Int32 → Sg → Prop) (h : P_X10_look a0 v1 v2 σ Q) : CtrY RN l D yX10_look cX10_look 4 (some FieldType.int) 5 107 mkI [.ref a0, .int v1, .int v2] σ (0, 0) Q := by
  refine y_ctrN (lv := [(0, va_rf (some a0)), (1, .int v1), (2, .int v2)]) (by decide) (by (exact Nat.le_of_ble_eq_true rfl)) (by (exact rfl)) (fun g hg hgL hgD hrm hgN hgI hend => ?_)
  subst hgD
  clear hgL
  unfold P_X10_look at h
  refine y_aload_n hg 0 dX10_look_0 rfl rfl ?_
  refine y_iload_n hg 1 dX10_look_1 rfl rfl ?_
  obtain ⟨h1, h⟩ := h
  refine yVRP (Qp := _) (rest := []) (As := [.int v1]) hg (k_X10_bedAt (gL g.1) (gD g.1) a0 v1 σ _ h) lv_X10_136 rfl h1 rfl rfl dX10_look_2 (cat8 (Nat.le_of_ble_eq_true rfl)) hrm ⟨Nat.le_of_ble_eq_true rfl, Nat.le_of_ble_eq_true rfl⟩ (fun r2 h => ?_)
  refine y_astore_n (lv' := [(3, va_rf r2), (0, va_rf (some a0)), (1, .int v1), (2, .int v2)]) hg dX10_look_5 rfl (by rw [hgN]; decide) rfl ?_
  refine y_aload_n hg 0 dX10_look_6 rfl rfl ?_
  refine y_ifnull (tgt := 19) hg dX10_look_7 (by decide) (fun h4 => ?_) (fun c3 h5 => ?_)
  · replace h := h.1 h4
    refine y_iconst (v := (-1)) hg dX10_look_19 (by decide) ?_
    exact yEndI hend rfl dX10_look_20 h
  · replace h := h.2 c3 h5
    refine y_iload_n hg 3 dX10_look_10 rfl rfl ?_
    refine y_iconst (v := 0) hg dX10_look_11 (by decide) ?_
    refine y_iconst (v := 3) hg dX10_look_12 (by decide) ?_
    refine ySIP (Qp := _) (rest := []) (As := [.int v2, .int 0, .int 3]) hg (k_X10_within (gL g.1) (gD g.1) v2 0 3 σ _ h) ls_X10_83 rfl rfl dX10_look_13 (cat8 (Nat.le_of_ble_eq_true rfl)) hrm ⟨Nat.le_of_ble_eq_true rfl, Nat.le_of_ble_eq_true rfl⟩ (fun x6 h => ?_)
    refine y_if_ne (tgt := 21) hg dX10_look_16 (by decide) (fun q7 => ?_) (fun q7 => ?_)
    · replace h := h.2 q7
      refine y_aload_n hg 0 dX10_look_21 rfl rfl ?_
      refine y_iload_n hg 3 dX10_look_22 rfl rfl ?_
      obtain ⟨h8, h⟩ := h
      refine y_putI hg fw_X10_214 (fun z => nomatch z) h5 h8 dX10_look_23 ?_
      refine y_nmS (fun σ9 e10 => ?_)
      replace h := h σ9 e10
      have E11 : sK σ9 = sK σ := by rw [e10]; rfl
      refine y_aload_n hg 1 dX10_look_26 rfl rfl ?_
      refine y_dup hg dX10_look_27 rfl ?_
      refine y_getI hg fl_X10_398 rfl rfl (kq E11 h1) dX10_look_28 ?_
      refine y_iconst (v := 1) hg dX10_look_31 (by decide) ?_
      refine y_iadd hg dX10_look_32 ?_
      refine y_putI hg fw_X10_398 (fun z => nomatch z) rfl (kq E11 h1) dX10_look_33 ?_
      refine y_nmS (fun σ12 e13 => ?_)
      replace h := h σ12 e13
      have E14 : sK σ12 = sK σ9 := by rw [e13]; rfl
      refine y_aload_n hg 1 dX10_look_36 rfl rfl ?_
      refine y_getI hg fl_X10_398 rfl rfl (kq E14 (kq E11 h1)) dX10_look_37 ?_
      exact yEndI hend rfl dX10_look_40 h
    · replace h := h.1 q7
      refine y_iconst (v := (-1)) hg dX10_look_19 (by decide) ?_
      exact yEndI hend rfl dX10_look_20 h
def P_X10_looksOf_B60 (a0 : Nat) (v1 : Int32) (v3 : Int32) (w0 : Int32) (w1 : Int32) (σ : Sg) (Q : Int32 → Prop) (K4 : Int32 → Int32 → Prop) : Prop :=
  ∀ x22 : Int32, x22 = w0 + w1 → ∀ x24 : Int32, x24 = v3 + 1 → K4 x22 x24
def P_X10_looksOf_B59 (a0 : Nat) (v1 : Int32) (v3 : Int32) (w0 : Int32) (σ : Sg) (Q : Int32 → Prop) (K4 : Int32 → Int32 → Prop) : Prop :=
  P_X10_looksOf_B60 a0 v1 v3 w0 0 σ Q K4
def P_X10_looksOf_L4b (a0 : Nat) (v1 : Int32) (v2 : Int32) (v3 : Int32) (σ : Sg) (Q : Int32 → Prop) (K4 : Int32 → Int32 → Prop) : Prop :=
  sK σ a0 % 32 = 12 ∧ ∃ c2 : Nat, sR σ a0 0 = some c2 ∧ sK σ c2 % 32 = 1 ∧ P_Jx4a65c_size_8abf5 c2 σ (fun x5 => (x5 ≤ v3 → Q v2) ∧ (¬ (x5 ≤ v3) → ∃ c7 : Nat, sR σ a0 0 = some c7 ∧ sK σ c7 % 32 = 1 ∧ P_Jx4a65c_get_915e3 c7 v3 σ (fun r10 => ∃ c11 : Nat, r10 = some c11 ∧ sK σ c11 % 32 = 4 ∧ ∀ r14 : Option Nat, r14 = sR σ c11 5 → (r14 = none → P_X10_looksOf_B59 a0 v1 v3 v2 σ Q K4) ∧ (∀ c16 : Nat, r14 = some c16 → sK σ c16 % 32 = 2 ∧ ((sI σ c16 0) = v1 → ((sI σ c16 10) = (-1) → P_X10_looksOf_B59 a0 v1 v3 v2 σ Q K4) ∧ (¬ ((sI σ c16 10) = (-1)) → P_X10_looksOf_B60 a0 v1 v3 v2 1 σ Q K4)) ∧ (¬ ((sI σ c16 0) = v1) → P_X10_looksOf_B59 a0 v1 v3 v2 σ Q K4)))))
def P_X10_looksOf_L4 (a0 : Nat) (v1 : Int32) (v2 : Int32) (v3 : Int32) (σ : Sg) (Q : Int32 → Prop) : Prop :=
  ∃ I : Nat → Int32 → Int32 → Prop, (∃ n, I n v2 v3) ∧ ∀ (n : Nat) (v2 : Int32) (v3 : Int32), I n v2 v3 → P_X10_looksOf_L4b a0 v1 v2 v3 σ Q (fun v2 v3 => ∃ n', n' < n ∧ I n' v2 v3)
def P_X10_looksOf (a0 : Nat) (v1 : Int32) (σ : Sg) (Q : Int32 → Prop) : Prop :=
  P_X10_looksOf_L4 a0 v1 0 0 σ Q
set_option maxHeartbeats 4000000 in
set_option maxRecDepth 100000 in
theorem k_X10_looksOf (l : Launch) (D : Dg) (a0 : Nat) (v1 : Int32) (σ : Sg) (Q : Int32 → Prop) (h : P_X10_looksOf a0 v1 σ Q) : CtrY RN l D yX10_looksOf cX10_looksOf 5 (some FieldType.int) 3 64 mkI [.ref a0, .int v1] σ (0, 0) (fun r σ2 => Q r ∧ σ2 = σ) := by
  refine y_ctrN (lv := [(0, va_rf (some a0)), (1, .int v1)]) (by decide) (by (exact Nat.le_of_ble_eq_true rfl)) (by (exact rfl)) (fun g hg hgL hgD hrm hgN hgI hend => ?_)
  subst hgD
  clear hgL
  unfold P_X10_looksOf at h
  have J4 : ∀ (v1 : Int32) (v2 : Int32) (v3 : Int32), P_X10_looksOf_L4 a0 v1 v2 v3 σ Q → XA g 4 [(0, va_rf (some a0)), (1, .int v1), (2, .int v2), (3, .int v3)] [] σ (0, 0) := by
    intro v1 v2 v3 h
    unfold P_X10_looksOf_L4 at h
    obtain ⟨I4, ⟨n4, hI4⟩, hs4⟩ := h
    have key4 : ∀ (n : Nat), ∀ (v2 : Int32) (v3 : Int32), I4 n v2 v3 → XA g 4 [(0, va_rf (some a0)), (1, .int v1), (2, .int v2), (3, .int v3)] [] σ (0, 0) := by
      intro n
      induction n using Nat.strongRecOn with
      | _ n ih4 =>
      intro v2 v3 hI
      have h := hs4 n v2 v3 hI
      clear hI hI4 hs4
      obtain ⟨K4, hK4⟩ : ∃ K : Int32 → Int32 → Prop, K = (fun v2 v3 => ∃ n', n' < n ∧ I4 n' v2 v3) := ⟨_, rfl⟩
      rw [← hK4] at h
      unfold P_X10_looksOf_L4b at h
      have J60 : ∀ (v3 : Int32) (w0 : Int32) (w1 : Int32), P_X10_looksOf_B60 a0 v1 v3 w0 w1 σ Q K4 → XA g 60 [(0, va_rf (some a0)), (1, .int v1), (3, .int v3)] [.int w1, .int w0] σ (0, 0) := by
        intro v3 w0 w1 h
        unfold P_X10_looksOf_B60 at h
        refine y_iadd hg dX10_looksOf_60 ?_
        refine y_nmI (fun x22 e23 => ?_)
        replace h := h x22 e23
        refine y_istore_n (lv' := [(2, .int x22), (0, va_rf (some a0)), (1, .int v1), (3, .int v3)]) hg dX10_looksOf_61 rfl (by rw [hgN]; decide) rfl ?_
        obtain ⟨x24, e25⟩ : ∃ y : Int32, y = v3 + 1 := ⟨_, rfl⟩
        replace h := h x24 e25
        refine y_iinc (v := x24) (lv' := [(3, .int x24), (2, .int x22), (0, va_rf (some a0)), (1, .int v1)]) hg 3 dX10_looksOf_62 rfl (by rw [e25]; rfl) (by rw [hgN]; decide) rfl ?_
        refine y_goto (tgt := 4) hg dX10_looksOf_65 (by decide) ?_
        refine y_sub [2, 3, 1, 0] rfl ?_
        subst hK4
        obtain ⟨n26, h27, h⟩ := h
        exact ih4 n26 h27 _ _ h
      have J59 : ∀ (v3 : Int32) (w0 : Int32), P_X10_looksOf_B59 a0 v1 v3 w0 σ Q K4 → XA g 59 [(0, va_rf (some a0)), (1, .int v1), (3, .int v3)] [.int w0] σ (0, 0) := by
        intro v3 w0 h
        unfold P_X10_looksOf_B59 at h
        refine y_iconst (v := 0) hg dX10_looksOf_59 (by decide) ?_
        refine y_sub [0, 1, 2] rfl ?_
        exact J60 _ _ _ h
      refine y_iload_n hg 3 dX10_looksOf_4 rfl rfl ?_
      refine y_aload_n hg 0 dX10_looksOf_5 rfl rfl ?_
      obtain ⟨h1, h⟩ := h
      refine y_getR hg fl_X10_10 rfl rfl h1 dX10_looksOf_6 ?_
      obtain ⟨c2, h3, h⟩ := h
      obtain ⟨h4, h⟩ := h
      refine yVIP (Qp := _) (rest := [.int v3]) (As := []) hg (k_Jx4a65c_size_8abf5 (gL g.1) (gD g.1) c2 σ _ h) lv_X10_87 h3 h4 rfl rfl dX10_looksOf_9 (cat8 (Nat.le_of_ble_eq_true rfl)) hrm ⟨Nat.le_of_ble_eq_true rfl, Nat.le_of_ble_eq_true rfl⟩ (fun x5 h => ?_)
      refine y_icmp_ge (tgt := 68) hg dX10_looksOf_12 (by decide) (fun q6 => ?_) (fun q6 => ?_)
      · replace h := h.1 q6
        refine y_iload_n hg 2 dX10_looksOf_68 rfl rfl ?_
        exact yEndI hend rfl dX10_looksOf_69 ⟨h, rfl⟩
      · replace h := h.2 q6
        refine y_aload_n hg 0 dX10_looksOf_15 rfl rfl ?_
        refine y_getR hg fl_X10_10 rfl rfl h1 dX10_looksOf_16 ?_
        refine y_iload_n hg 3 dX10_looksOf_19 rfl rfl ?_
        obtain ⟨c7, h8, h⟩ := h
        obtain ⟨h9, h⟩ := h
        refine yVRP (Qp := _) (rest := []) (As := [.int v3]) hg (k_Jx4a65c_get_915e3 (gL g.1) (gD g.1) c7 v3 σ _ h) lv_X10_232 h8 h9 rfl rfl dX10_looksOf_20 (cat8 (Nat.le_of_ble_eq_true rfl)) hrm ⟨Nat.le_of_ble_eq_true rfl, Nat.le_of_ble_eq_true rfl⟩ (fun r10 h => ?_)
        obtain ⟨c11, h12, h⟩ := h
        obtain ⟨h13, h⟩ := h
        refine y_cast (c := 4) hg (C := RX2) rfl (by decide) cl_X10_91 h12 h13 dX10_looksOf_23 ?_
        refine y_getR hg fl_X10_110 rfl h12 h13 dX10_looksOf_26 ?_
        refine y_nmR (fun r14 e15 => ?_)
        replace h := h r14 e15
        refine y_astore (lv' := [(4, va_rf r14), (0, va_rf (some a0)), (1, .int v1), (2, .int v2), (3, .int v3)]) hg dX10_looksOf_29 (by rw [hgN]; decide) rfl ?_
        refine y_iload_n hg 3 dX10_looksOf_31 rfl rfl ?_
        refine y_aload hg 0 dX10_looksOf_32 rfl ?_
        refine y_ifnull (tgt := 59) hg dX10_looksOf_34 (by decide) (fun h17 => ?_) (fun c16 h18 => ?_)
        · replace h := h.1 h17
          refine y_sub [1, 2, 4] rfl ?_
          exact J59 _ _ h
        · replace h := h.2 c16 h18
          refine y_aload hg 0 dX10_looksOf_37 rfl ?_
          obtain ⟨h19, h⟩ := h
          refine y_getI hg fl_X10_186 rfl h18 h19 dX10_looksOf_39 ?_
          refine y_iload_n hg 2 dX10_looksOf_42 rfl rfl ?_
          refine y_icmp_ne (tgt := 59) hg dX10_looksOf_43 (by decide) (fun q20 => ?_) (fun q20 => ?_)
          · replace h := h.2 q20
            refine y_sub [1, 2, 4] rfl ?_
            exact J59 _ _ h
          · replace h := h.1 q20
            refine y_aload hg 0 dX10_looksOf_46 rfl ?_
            refine y_getI hg fl_X10_214 rfl h18 h19 dX10_looksOf_48 ?_
            refine y_iconst (v := (-1)) hg dX10_looksOf_51 (by decide) ?_
            refine y_icmp_eq (tgt := 59) hg dX10_looksOf_52 (by decide) (fun q21 => ?_) (fun q21 => ?_)
            · replace h := h.1 q21
              refine y_sub [1, 2, 4] rfl ?_
              exact J59 _ _ h
            · replace h := h.2 q21
              refine y_iconst (v := 1) hg dX10_looksOf_55 (by decide) ?_
              refine y_goto (tgt := 60) hg dX10_looksOf_56 (by decide) ?_
              refine y_sub [1, 2, 4] rfl ?_
              exact J60 _ _ _ h
    exact key4 n4 v2 v3 hI4
  refine y_iconst (v := 0) hg dX10_looksOf_0 (by decide) ?_
  refine y_istore_n (lv' := [(2, .int 0), (0, va_rf (some a0)), (1, .int v1)]) hg dX10_looksOf_1 rfl (by rw [hgN]; decide) rfl ?_
  refine y_iconst (v := 0) hg dX10_looksOf_2 (by decide) ?_
  refine y_istore_n (lv' := [(3, .int 0), (2, .int 0), (0, va_rf (some a0)), (1, .int v1)]) hg dX10_looksOf_3 rfl (by rw [hgN]; decide) rfl ?_
  refine y_sub [2, 3, 1, 0] rfl ?_
  exact J4 _ _ _ h
def P_X10_gradesOf_B64 (a0 : Nat) (v1 : Int32) (v3 : Int32) (w0 : Int32) (w1 : Int32) (σ : Sg) (Q : Int32 → Prop) (K4 : Int32 → Int32 → Prop) : Prop :=
  ∀ x22 : Int32, x22 = w0 + w1 → ∀ x24 : Int32, x24 = v3 + 1 → K4 x22 x24
def P_X10_gradesOf_B63 (a0 : Nat) (v1 : Int32) (v3 : Int32) (w0 : Int32) (σ : Sg) (Q : Int32 → Prop) (K4 : Int32 → Int32 → Prop) : Prop :=
  P_X10_gradesOf_B64 a0 v1 v3 w0 0 σ Q K4
def P_X10_gradesOf_L4b (a0 : Nat) (v1 : Int32) (v2 : Int32) (v3 : Int32) (σ : Sg) (Q : Int32 → Prop) (K4 : Int32 → Int32 → Prop) : Prop :=
  sK σ a0 % 32 = 12 ∧ ∃ c2 : Nat, sR σ a0 0 = some c2 ∧ sK σ c2 % 32 = 1 ∧ P_Jx4a65c_size_8abf5 c2 σ (fun x5 => (x5 ≤ v3 → Q v2) ∧ (¬ (x5 ≤ v3) → ∃ c7 : Nat, sR σ a0 0 = some c7 ∧ sK σ c7 % 32 = 1 ∧ P_Jx4a65c_get_915e3 c7 v3 σ (fun r10 => ∃ c11 : Nat, r10 = some c11 ∧ sK σ c11 % 32 = 4 ∧ ∀ r14 : Option Nat, r14 = sR σ c11 5 → (r14 = none → P_X10_gradesOf_B63 a0 v1 v3 v2 σ Q K4) ∧ (∀ c16 : Nat, r14 = some c16 → sK σ c16 % 32 = 2 ∧ ((sI σ c16 0) = v1 → ((sI σ c16 10) = (-1) → P_X10_gradesOf_B63 a0 v1 v3 v2 σ Q K4) ∧ (¬ ((sI σ c16 10) = (-1)) → P_X10_gradesOf_B64 a0 v1 v3 v2 (sI σ c16 10) σ Q K4)) ∧ (¬ ((sI σ c16 0) = v1) → P_X10_gradesOf_B63 a0 v1 v3 v2 σ Q K4)))))
def P_X10_gradesOf_L4 (a0 : Nat) (v1 : Int32) (v2 : Int32) (v3 : Int32) (σ : Sg) (Q : Int32 → Prop) : Prop :=
  ∃ I : Nat → Int32 → Int32 → Prop, (∃ n, I n v2 v3) ∧ ∀ (n : Nat) (v2 : Int32) (v3 : Int32), I n v2 v3 → P_X10_gradesOf_L4b a0 v1 v2 v3 σ Q (fun v2 v3 => ∃ n', n' < n ∧ I n' v2 v3)
def P_X10_gradesOf (a0 : Nat) (v1 : Int32) (σ : Sg) (Q : Int32 → Prop) : Prop :=
  P_X10_gradesOf_L4 a0 v1 0 0 σ Q
set_option maxHeartbeats 4000000 in
set_option maxRecDepth 100000 in
theorem k_X10_gradesOf (l : Launch) (D : Dg) (a0 : Nat) (v1 : Int32) (σ : Sg) (Q : Int32 → Prop) (h : P_X10_gradesOf a0 v1 σ Q) : CtrY RN l D yX10_gradesOf cX10_gradesOf 5 (some FieldType.int) 3 64 mkI [.ref a0, .int v1] σ (0, 0) (fun r σ2 => Q r ∧ σ2 = σ) := by
  refine y_ctrN (lv := [(0, va_rf (some a0)), (1, .int v1)]) (by decide) (by (exact Nat.le_of_ble_eq_true rfl)) (by (exact rfl)) (fun g hg hgL hgD hrm hgN hgI hend => ?_)
  subst hgD
  clear hgL
  unfold P_X10_gradesOf at h
  have J4 : ∀ (v1 : Int32) (v2 : Int32) (v3 : Int32), P_X10_gradesOf_L4 a0 v1 v2 v3 σ Q → XA g 4 [(0, va_rf (some a0)), (1, .int v1), (2, .int v2), (3, .int v3)] [] σ (0, 0) := by
    intro v1 v2 v3 h
    unfold P_X10_gradesOf_L4 at h
    obtain ⟨I4, ⟨n4, hI4⟩, hs4⟩ := h
    have key4 : ∀ (n : Nat), ∀ (v2 : Int32) (v3 : Int32), I4 n v2 v3 → XA g 4 [(0, va_rf (some a0)), (1, .int v1), (2, .int v2), (3, .int v3)] [] σ (0, 0) := by
      intro n
      induction n using Nat.strongRecOn with
      | _ n ih4 =>
      intro v2 v3 hI
      have h := hs4 n v2 v3 hI
      clear hI hI4 hs4
      obtain ⟨K4, hK4⟩ : ∃ K : Int32 → Int32 → Prop, K = (fun v2 v3 => ∃ n', n' < n ∧ I4 n' v2 v3) := ⟨_, rfl⟩
      rw [← hK4] at h
      unfold P_X10_gradesOf_L4b at h
      have J64 : ∀ (v3 : Int32) (w0 : Int32) (w1 : Int32), P_X10_gradesOf_B64 a0 v1 v3 w0 w1 σ Q K4 → XA g 64 [(0, va_rf (some a0)), (1, .int v1), (3, .int v3)] [.int w1, .int w0] σ (0, 0) := by
        intro v3 w0 w1 h
        unfold P_X10_gradesOf_B64 at h
        refine y_iadd hg dX10_gradesOf_64 ?_
        refine y_nmI (fun x22 e23 => ?_)
        replace h := h x22 e23
        refine y_istore_n (lv' := [(2, .int x22), (0, va_rf (some a0)), (1, .int v1), (3, .int v3)]) hg dX10_gradesOf_65 rfl (by rw [hgN]; decide) rfl ?_
        obtain ⟨x24, e25⟩ : ∃ y : Int32, y = v3 + 1 := ⟨_, rfl⟩
        replace h := h x24 e25
        refine y_iinc (v := x24) (lv' := [(3, .int x24), (2, .int x22), (0, va_rf (some a0)), (1, .int v1)]) hg 3 dX10_gradesOf_66 rfl (by rw [e25]; rfl) (by rw [hgN]; decide) rfl ?_
        refine y_goto (tgt := 4) hg dX10_gradesOf_69 (by decide) ?_
        refine y_sub [2, 3, 1, 0] rfl ?_
        subst hK4
        obtain ⟨n26, h27, h⟩ := h
        exact ih4 n26 h27 _ _ h
      have J63 : ∀ (v3 : Int32) (w0 : Int32), P_X10_gradesOf_B63 a0 v1 v3 w0 σ Q K4 → XA g 63 [(0, va_rf (some a0)), (1, .int v1), (3, .int v3)] [.int w0] σ (0, 0) := by
        intro v3 w0 h
        unfold P_X10_gradesOf_B63 at h
        refine y_iconst (v := 0) hg dX10_gradesOf_63 (by decide) ?_
        refine y_sub [0, 1, 2] rfl ?_
        exact J64 _ _ _ h
      refine y_iload_n hg 3 dX10_gradesOf_4 rfl rfl ?_
      refine y_aload_n hg 0 dX10_gradesOf_5 rfl rfl ?_
      obtain ⟨h1, h⟩ := h
      refine y_getR hg fl_X10_10 rfl rfl h1 dX10_gradesOf_6 ?_
      obtain ⟨c2, h3, h⟩ := h
      obtain ⟨h4, h⟩ := h
      refine yVIP (Qp := _) (rest := [.int v3]) (As := []) hg (k_Jx4a65c_size_8abf5 (gL g.1) (gD g.1) c2 σ _ h) lv_X10_87 h3 h4 rfl rfl dX10_gradesOf_9 (cat8 (Nat.le_of_ble_eq_true rfl)) hrm ⟨Nat.le_of_ble_eq_true rfl, Nat.le_of_ble_eq_true rfl⟩ (fun x5 h => ?_)
      refine y_icmp_ge (tgt := 72) hg dX10_gradesOf_12 (by decide) (fun q6 => ?_) (fun q6 => ?_)
      · replace h := h.1 q6
        refine y_iload_n hg 2 dX10_gradesOf_72 rfl rfl ?_
        exact yEndI hend rfl dX10_gradesOf_73 ⟨h, rfl⟩
      · replace h := h.2 q6
        refine y_aload_n hg 0 dX10_gradesOf_15 rfl rfl ?_
        refine y_getR hg fl_X10_10 rfl rfl h1 dX10_gradesOf_16 ?_
        refine y_iload_n hg 3 dX10_gradesOf_19 rfl rfl ?_
        obtain ⟨c7, h8, h⟩ := h
        obtain ⟨h9, h⟩ := h
        refine yVRP (Qp := _) (rest := []) (As := [.int v3]) hg (k_Jx4a65c_get_915e3 (gL g.1) (gD g.1) c7 v3 σ _ h) lv_X10_232 h8 h9 rfl rfl dX10_gradesOf_20 (cat8 (Nat.le_of_ble_eq_true rfl)) hrm ⟨Nat.le_of_ble_eq_true rfl, Nat.le_of_ble_eq_true rfl⟩ (fun r10 h => ?_)
        obtain ⟨c11, h12, h⟩ := h
        obtain ⟨h13, h⟩ := h
        refine y_cast (c := 4) hg (C := RX2) rfl (by decide) cl_X10_91 h12 h13 dX10_gradesOf_23 ?_
        refine y_getR hg fl_X10_110 rfl h12 h13 dX10_gradesOf_26 ?_
        refine y_nmR (fun r14 e15 => ?_)
        replace h := h r14 e15
        refine y_astore (lv' := [(4, va_rf r14), (0, va_rf (some a0)), (1, .int v1), (2, .int v2), (3, .int v3)]) hg dX10_gradesOf_29 (by rw [hgN]; decide) rfl ?_
        refine y_iload_n hg 3 dX10_gradesOf_31 rfl rfl ?_
        refine y_aload hg 0 dX10_gradesOf_32 rfl ?_
        refine y_ifnull (tgt := 63) hg dX10_gradesOf_34 (by decide) (fun h17 => ?_) (fun c16 h18 => ?_)
        · replace h := h.1 h17
          refine y_sub [1, 2, 4] rfl ?_
          exact J63 _ _ h
        · replace h := h.2 c16 h18
          refine y_aload hg 0 dX10_gradesOf_37 rfl ?_
          obtain ⟨h19, h⟩ := h
          refine y_getI hg fl_X10_186 rfl h18 h19 dX10_gradesOf_39 ?_
          refine y_iload_n hg 2 dX10_gradesOf_42 rfl rfl ?_
          refine y_icmp_ne (tgt := 63) hg dX10_gradesOf_43 (by decide) (fun q20 => ?_) (fun q20 => ?_)
          · replace h := h.2 q20
            refine y_sub [1, 2, 4] rfl ?_
            exact J63 _ _ h
          · replace h := h.1 q20
            refine y_aload hg 0 dX10_gradesOf_46 rfl ?_
            refine y_getI hg fl_X10_214 rfl h18 h19 dX10_gradesOf_48 ?_
            refine y_iconst (v := (-1)) hg dX10_gradesOf_51 (by decide) ?_
            refine y_icmp_eq (tgt := 63) hg dX10_gradesOf_52 (by decide) (fun q21 => ?_) (fun q21 => ?_)
            · replace h := h.1 q21
              refine y_sub [1, 2, 4] rfl ?_
              exact J63 _ _ h
            · replace h := h.2 q21
              refine y_aload hg 0 dX10_gradesOf_55 rfl ?_
              refine y_getI hg fl_X10_214 rfl h18 h19 dX10_gradesOf_57 ?_
              refine y_goto (tgt := 64) hg dX10_gradesOf_60 (by decide) ?_
              refine y_sub [1, 2, 4] rfl ?_
              exact J64 _ _ _ h
    exact key4 n4 v2 v3 hI4
  refine y_iconst (v := 0) hg dX10_gradesOf_0 (by decide) ?_
  refine y_istore_n (lv' := [(2, .int 0), (0, va_rf (some a0)), (1, .int v1)]) hg dX10_gradesOf_1 rfl (by rw [hgN]; decide) rfl ?_
  refine y_iconst (v := 0) hg dX10_gradesOf_2 (by decide) ?_
  refine y_istore_n (lv' := [(3, .int 0), (2, .int 0), (0, va_rf (some a0)), (1, .int v1)]) hg dX10_gradesOf_3 rfl (by rw [hgN]; decide) rfl ?_
  refine y_sub [2, 3, 1, 0] rfl ?_
  exact J4 _ _ _ h
