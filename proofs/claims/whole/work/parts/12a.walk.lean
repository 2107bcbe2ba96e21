def P_X10_init (a0 : Nat) (σ : Sg) (b : Nat × Nat) (Q : Unit → Sg → Prop) : Prop :=
  ∃ κ1 q5 : Nat, κ1 % 32 = 1 ∧ 1 ≤ b.1 ∧ 3 ≤ b.2 ∧ sK σ q5 = 0 ∧ 1000 ≤ q5 ∧ (∀ z, (some a0) = some z → ¬ sK σ z = 0) ∧ ∀ σ9 : Sg, σ9 = nw σ q5 κ1 0 → P_Jx4a65c_init_da8c8 q5 σ9 (fun _ σ13 => sK σ13 a0 % 32 = 12 ∧ ∀ σ17 : Sg, σ17 = pR σ13 a0 0 (some q5) → ∃ κ20 q24 : Nat, κ20 % 32 = 1 ∧ 1 ≤ b.1 - 1 ∧ 3 ≤ b.2 - 3 ∧ sK σ17 q24 = 0 ∧ 1000 ≤ q24 ∧ ∀ σ27 : Sg, σ27 = nw σ17 q24 κ20 0 → P_Jx4a65c_init_da8c8 q24 σ27 (fun _ σ31 => ∀ σ35 : Sg, σ35 = pR σ31 a0 1 (some q24) → ∃ κ38 q42 : Nat, κ38 % 32 = 1 ∧ 1 ≤ b.1 - 1 - 1 ∧ 3 ≤ b.2 - 3 - 3 ∧ sK σ35 q42 = 0 ∧ 1000 ≤ q42 ∧ ∀ σ45 : Sg, σ45 = nw σ35 q42 κ38 0 → P_Jx4a65c_init_da8c8 q42 σ45 (fun _ σ49 => ∀ σ53 : Sg, σ53 = pR σ49 a0 2 (some q42) → ∃ κ56 q60 : Nat, κ56 % 32 = 1 ∧ 1 ≤ b.1 - 1 - 1 - 1 ∧ 3 ≤ b.2 - 3 - 3 - 3 ∧ sK σ53 q60 = 0 ∧ 1000 ≤ q60 ∧ ∀ σ63 : Sg, σ63 = nw σ53 q60 κ56 0 → P_Jx4a65c_init_da8c8 q60 σ63 (fun _ σ67 => ∀ σ71 : Sg, σ71 = pR σ67 a0 3 (some q60) → ∃ κ74 q78 : Nat, κ74 % 32 = 1 ∧ 1 ≤ b.1 - 1 - 1 - 1 - 1 ∧ 3 ≤ b.2 - 3 - 3 - 3 - 3 ∧ sK σ71 q78 = 0 ∧ 1000 ≤ q78 ∧ ∀ σ81 : Sg, σ81 = nw σ71 q78 κ74 0 → P_Jx4a65c_init_da8c8 q78 σ81 (fun _ σ85 => ∀ σ89 : Sg, σ89 = pR σ85 a0 4 (some q78) → ∃ κ92 q96 : Nat, κ92 % 32 = 6 ∧ 1 ≤ b.1 - 1 - 1 - 1 - 1 - 1 ∧ 4 ≤ b.2 - 3 - 3 - 3 - 3 - 3 ∧ sK σ89 q96 = 0 ∧ 1000 ≤ q96 ∧ ∀ σ99 : Sg, σ99 = nw σ89 q96 κ92 0 → ∃ bc104 : Nat × Nat, bc104.1 ≤ b.1 - 1 - 1 - 1 - 1 - 1 - 1 ∧ bc104.2 ≤ b.2 - 3 - 3 - 3 - 3 - 3 - 4 ∧ P_X4_init q96 0 (-1) σ99 bc104 (fun _ σ103 => ∀ σ110 : Sg, σ110 = pR σ103 a0 5 (some q96) → ∃ κ113 q117 : Nat, κ113 % 32 = 9 ∧ 1 ≤ b.1 - 1 - 1 - 1 - 1 - 1 - 1 - bc104.1 ∧ 6 ≤ b.2 - 3 - 3 - 3 - 3 - 3 - 4 - bc104.2 ∧ sK σ110 q117 = 0 ∧ 1000 ≤ q117 ∧ ∀ σ120 : Sg, σ120 = nw σ110 q117 κ113 0 → ∃ bc125 : Nat × Nat, bc125.1 ≤ b.1 - 1 - 1 - 1 - 1 - 1 - 1 - bc104.1 - 1 ∧ bc125.2 ≤ b.2 - 3 - 3 - 3 - 3 - 3 - 4 - bc104.2 - 6 ∧ P_X7_init q117 σ120 bc125 (fun _ σ124 => ∀ σ131 : Sg, σ131 = pR σ124 a0 6 (some q117) → ∃ κ134 q138 : Nat, κ134 % 32 = 5 ∧ 1 ≤ b.1 - 1 - 1 - 1 - 1 - 1 - 1 - bc104.1 - 1 - bc125.1 ∧ 9 ≤ b.2 - 3 - 3 - 3 - 3 - 3 - 4 - bc104.2 - 6 - bc125.2 ∧ sK σ131 q138 = 0 ∧ 1000 ≤ q138 ∧ ∀ σ141 : Sg, σ141 = nw σ131 q138 κ134 0 → ∃ bc146 : Nat × Nat, bc146.1 ≤ b.1 - 1 - 1 - 1 - 1 - 1 - 1 - bc104.1 - 1 - bc125.1 - 1 ∧ bc146.2 ≤ b.2 - 3 - 3 - 3 - 3 - 3 - 4 - bc104.2 - 6 - bc125.2 - 9 ∧ P_X3_init q138 σ141 bc146 (fun _ σ145 => ∀ σ152 : Sg, σ152 = pR σ145 a0 7 (some q138) → ∃ κ155 q161 : Nat, κ155 % 32 = 16 ∧ ¬ (10 : Int32) < 0 ∧ (10 : Int32).toNatClampNeg ≤ 65536 ∧ 1 ≤ b.1 - 1 - 1 - 1 - 1 - 1 - 1 - bc104.1 - 1 - bc125.1 - 1 - bc146.1 ∧ (10 : Int32).toNatClampNeg ≤ b.2 - 3 - 3 - 3 - 3 - 3 - 4 - bc104.2 - 6 - bc125.2 - 9 - bc146.2 ∧ sK σ152 q161 = 0 ∧ 1000 ≤ q161 ∧ ∀ σ164 : Sg, σ164 = nw σ152 q161 κ155 (10 : Int32).toNatClampNeg → ∀ σ167 : Sg, σ167 = pR σ164 a0 8 (some q161) → ∃ κ170 q176 : Nat, κ170 % 32 = 16 ∧ ¬ (30 : Int32) < 0 ∧ (30 : Int32).toNatClampNeg ≤ 65536 ∧ 1 ≤ b.1 - 1 - 1 - 1 - 1 - 1 - 1 - bc104.1 - 1 - bc125.1 - 1 - bc146.1 - 1 ∧ (30 : Int32).toNatClampNeg ≤ b.2 - 3 - 3 - 3 - 3 - 3 - 4 - bc104.2 - 6 - bc125.2 - 9 - bc146.2 - (10 : Int32).toNatClampNeg ∧ sK σ167 q176 = 0 ∧ 1000 ≤ q176 ∧ ∀ σ179 : Sg, σ179 = nw σ167 q176 κ170 (30 : Int32).toNatClampNeg → ∀ σ182 : Sg, σ182 = pR σ179 a0 9 (some q176) → ∃ κ185 q191 : Nat, κ185 % 32 = 16 ∧ ¬ (10 : Int32) < 0 ∧ (10 : Int32).toNatClampNeg ≤ 65536 ∧ 1 ≤ b.1 - 1 - 1 - 1 - 1 - 1 - 1 - bc104.1 - 1 - bc125.1 - 1 - bc146.1 - 1 - 1 ∧ (10 : Int32).toNatClampNeg ≤ b.2 - 3 - 3 - 3 - 3 - 3 - 4 - bc104.2 - 6 - bc125.2 - 9 - bc146.2 - (10 : Int32).toNatClampNeg - (30 : Int32).toNatClampNeg ∧ sK σ182 q191 = 0 ∧ 1000 ≤ q191 ∧ ∀ σ194 : Sg, σ194 = nw σ182 q191 κ185 (10 : Int32).toNatClampNeg → ∀ σ197 : Sg, σ197 = pR σ194 a0 10 (some q191) → ∃ κ200 κ201 q206 : Nat, κ200 % 32 = 21 ∧ κ201 % 32 = 16 ∧ 11 ≤ b.1 - 1 - 1 - 1 - 1 - 1 - 1 - bc104.1 - 1 - bc125.1 - 1 - bc146.1 - 1 - 1 - 1 ∧ 110 ≤ b.2 - 3 - 3 - 3 - 3 - 3 - 4 - bc104.2 - 6 - bc125.2 - 9 - bc146.2 - (10 : Int32).toNatClampNeg - (30 : Int32).toNatClampNeg - (10 : Int32).toNatClampNeg ∧ (∀ i, i ≤ 10 → sK σ197 (q206 + i) = 0) ∧ 1000 ≤ q206 ∧ ∀ σ208 : Sg, σ208 = mnw σ197 q206 κ200 κ201 → (∀ z, (some q206) = some z → ¬ sK σ208 z = 0) ∧ ∀ σ212 : Sg, σ212 = pR σ208 a0 11 (some q206) → ∃ κ217 q223 : Nat, κ217 % 32 = 16 ∧ ¬ (12 : Int32) < 0 ∧ (12 : Int32).toNatClampNeg ≤ 65536 ∧ 1 ≤ b.1 - 1 - 1 - 1 - 1 - 1 - 1 - bc104.1 - 1 - bc125.1 - 1 - bc146.1 - 1 - 1 - 1 - 11 ∧ (12 : Int32).toNatClampNeg ≤ b.2 - 3 - 3 - 3 - 3 - 3 - 4 - bc104.2 - 6 - bc125.2 - 9 - bc146.2 - (10 : Int32).toNatClampNeg - (30 : Int32).toNatClampNeg - (10 : Int32).toNatClampNeg - 110 ∧ sK σ212 q223 = 0 ∧ 1000 ≤ q223 ∧ ∀ σ226 : Sg, σ226 = nw σ212 q223 κ217 (12 : Int32).toNatClampNeg → ∀ σ230 : Sg, σ230 = pR σ226 a0 12 (some q223) → ∃ κ233 q239 : Nat, κ233 % 32 = 17 ∧ ¬ (7 : Int32) < 0 ∧ (7 : Int32).toNatClampNeg ≤ 65536 ∧ 1 ≤ b.1 - 1 - 1 - 1 - 1 - 1 - 1 - bc104.1 - 1 - bc125.1 - 1 - bc146.1 - 1 - 1 - 1 - 11 - 1 ∧ (7 : Int32).toNatClampNeg ≤ b.2 - 3 - 3 - 3 - 3 - 3 - 4 - bc104.2 - 6 - bc125.2 - 9 - bc146.2 - (10 : Int32).toNatClampNeg - (30 : Int32).toNatClampNeg - (10 : Int32).toNatClampNeg - 110 - (12 : Int32).toNatClampNeg ∧ sK σ230 q239 = 0 ∧ 1000 ≤ q239 ∧ ∀ σ242 : Sg, σ242 = nw σ230 q239 κ233 (7 : Int32).toNatClampNeg → ∀ σ246 : Sg, σ246 = pR σ242 a0 13 (some q239) → ∀ σ249 : Sg, σ249 = pI σ246 a0 17 (-1) → P_J7_fill_53178 (sR σ249 a0 8) 20 σ249 (fun _ σ253 => Q () σ253)))))))))
set_option maxHeartbeats 4000000 in
set_option maxRecDepth 100000 in
theorem k_X10_init (l : Launch) (D : Dg) (a0 : Nat) (σ : Sg) (b : Nat × Nat) (Q : Unit → Sg → Prop) (h : P_X10_init a0 σ b Q) : CtrY RA l D yX10_init cX10_init 1 (none) 8 192 mkV [.ref a0] σ b Q := by
  refine y_ctrA (lv := [(0, va_rf (some a0))]) (by decide) (by (exact Nat.le_of_ble_eq_true rfl)) (by (exact rfl)) (fun g hg hgL hgD hrm hgN hgI hend hal => ?_)
  subst hgD
  clear hgL
  unfold P_X10_init at h
  refine y_aload_n hg 0 dX10_init_0 rfl rfl ?_
  refine y_objInit hg oi_X10_1 aw_oi1 aw_oi2 rfl dX10_init_1 (cat8 (Nat.le_of_ble_eq_true rfl)) hrm ⟨Nat.le_of_ble_eq_true rfl, Nat.le_of_ble_eq_true rfl⟩ ?_
  refine y_aload_n hg 0 dX10_init_4 rfl rfl ?_
  obtain ⟨κ1, q5, h2, h3, h4, h6, h7, h⟩ := h
  obtain ⟨h8, h⟩ := h
  refine y_new hg hal nl_X10_7 h2 h3 h4 h6 h7 (rll_c (lk_r h8) rll_nil) (rl_c (lk_r h8) rl_nil) dX10_init_5 ?_
  refine y_nmS (fun σ9 e10 => ?_)
  replace h := h σ9 e10
  refine y_dup hg dX10_init_8 rfl ?_
  refine yIVW (Qm := _) (rest := [va_rf (some q5), va_rf (some a0)]) (As := []) hg (k_Jx4a65c_init_da8c8 (gL g.1) (gD g.1) q5 σ9 _ h) li_X10_9 rfl rfl rfl dX10_init_9 (cat8 (Nat.le_of_ble_eq_true rfl)) hrm ⟨Nat.le_of_ble_eq_true rfl, Nat.le_of_ble_eq_true rfl⟩ (fun u12 σ13 h h14 => ?_)
  have h15 := kp h14 (show ¬ 1 = 0 by decide) (kn e10 h2)
  obtain ⟨h16, h⟩ := h
  refine y_putR hg fw_X10_10 rfl (fun _ => hgI) rfl h16 (lv_k rfl h15 (by decide)) dX10_init_12 ?_
  refine y_nmS (fun σ17 e18 => ?_)
  replace h := h σ17 e18
  have E19 : sK σ17 = sK σ13 := by rw [e18]; rfl
  refine y_aload_n hg 0 dX10_init_15 rfl rfl ?_
  obtain ⟨κ20, q24, h21, h22, h23, h25, h26, h⟩ := h
  refine y_new hg hal nl_X10_7 h21 h22 h23 h25 h26 (rll_c (lk_k rfl (kq E19 h16) (by decide)) rll_nil) (rl_c (lk_k rfl (kq E19 h16) (by decide)) rl_nil) dX10_init_16 ?_
  refine y_nmS (fun σ27 e28 => ?_)
  replace h := h σ27 e28
  refine y_dup hg dX10_init_19 rfl ?_
  refine yIVW (Qm := _) (rest := [va_rf (some q24), va_rf (some a0)]) (As := []) hg (k_Jx4a65c_init_da8c8 (gL g.1) (gD g.1) q24 σ27 _ h) li_X10_9 rfl rfl rfl dX10_init_20 (cat8 (Nat.le_of_ble_eq_true rfl)) hrm ⟨Nat.le_of_ble_eq_true rfl, Nat.le_of_ble_eq_true rfl⟩ (fun u30 σ31 h h32 => ?_)
  have h33 := kp h32 (show ¬ 12 = 0 by decide) (kw e28 h25 (by decide) (kq E19 h16))
  have h34 := kp h32 (show ¬ 1 = 0 by decide) (kn e28 h21)
  refine y_putR hg fw_X10_16 rfl (fun _ => hgI) rfl h33 (lv_k rfl h34 (by decide)) dX10_init_23 ?_
  refine y_nmS (fun σ35 e36 => ?_)
  replace h := h σ35 e36
  have E37 : sK σ35 = sK σ31 := by rw [e36]; rfl
  refine y_aload_n hg 0 dX10_init_26 rfl rfl ?_
  obtain ⟨κ38, q42, h39, h40, h41, h43, h44, h⟩ := h
  refine y_new hg hal nl_X10_7 h39 h40 h41 h43 h44 (rll_c (lk_k rfl (kq E37 h33) (by decide)) rll_nil) (rl_c (lk_k rfl (kq E37 h33) (by decide)) rl_nil) dX10_init_27 ?_
  refine y_nmS (fun σ45 e46 => ?_)
  replace h := h σ45 e46
  refine y_dup hg dX10_init_30 rfl ?_
  refine yIVW (Qm := _) (rest := [va_rf (some q42), va_rf (some a0)]) (As := []) hg (k_Jx4a65c_init_da8c8 (gL g.1) (gD g.1) q42 σ45 _ h) li_X10_9 rfl rfl rfl dX10_init_31 (cat8 (Nat.le_of_ble_eq_true rfl)) hrm ⟨Nat.le_of_ble_eq_true rfl, Nat.le_of_ble_eq_true rfl⟩ (fun u48 σ49 h h50 => ?_)
  have h51 := kp h50 (show ¬ 12 = 0 by decide) (kw e46 h43 (by decide) (kq E37 h33))
  have h52 := kp h50 (show ¬ 1 = 0 by decide) (kn e46 h39)
  refine y_putR hg fw_X10_19 rfl (fun _ => hgI) rfl h51 (lv_k rfl h52 (by decide)) dX10_init_34 ?_
  refine y_nmS (fun σ53 e54 => ?_)
  replace h := h σ53 e54
  have E55 : sK σ53 = sK σ49 := by rw [e54]; rfl
  refine y_aload_n hg 0 dX10_init_37 rfl rfl ?_
  obtain ⟨κ56, q60, h57, h58, h59, h61, h62, h⟩ := h
  refine y_new hg hal nl_X10_7 h57 h58 h59 h61 h62 (rll_c (lk_k rfl (kq E55 h51) (by decide)) rll_nil) (rl_c (lk_k rfl (kq E55 h51) (by decide)) rl_nil) dX10_init_38 ?_
  refine y_nmS (fun σ63 e64 => ?_)
  replace h := h σ63 e64
  refine y_dup hg dX10_init_41 rfl ?_
  refine yIVW (Qm := _) (rest := [va_rf (some q60), va_rf (some a0)]) (As := []) hg (k_Jx4a65c_init_da8c8 (gL g.1) (gD g.1) q60 σ63 _ h) li_X10_9 rfl rfl rfl dX10_init_42 (cat8 (Nat.le_of_ble_eq_true rfl)) hrm ⟨Nat.le_of_ble_eq_true rfl, Nat.le_of_ble_eq_true rfl⟩ (fun u66 σ67 h h68 => ?_)
  have h69 := kp h68 (show ¬ 12 = 0 by decide) (kw e64 h61 (by decide) (kq E55 h51))
  have h70 := kp h68 (show ¬ 1 = 0 by decide) (kn e64 h57)
  refine y_putR hg fw_X10_22 rfl (fun _ => hgI) rfl h69 (lv_k rfl h70 (by decide)) dX10_init_45 ?_
  refine y_nmS (fun σ71 e72 => ?_)
  replace h := h σ71 e72
  have E73 : sK σ71 = sK σ67 := by rw [e72]; rfl
  refine y_aload_n hg 0 dX10_init_48 rfl rfl ?_
  obtain ⟨κ74, q78, h75, h76, h77, h79, h80, h⟩ := h
  refine y_new hg hal nl_X10_7 h75 h76 h77 h79 h80 (rll_c (lk_k rfl (kq E73 h69) (by decide)) rll_nil) (rl_c (lk_k rfl (kq E73 h69) (by decide)) rl_nil) dX10_init_49 ?_
  refine y_nmS (fun σ81 e82 => ?_)
  replace h := h σ81 e82
  refine y_dup hg dX10_init_52 rfl ?_
  refine yIVW (Qm := _) (rest := [va_rf (some q78), va_rf (some a0)]) (As := []) hg (k_Jx4a65c_init_da8c8 (gL g.1) (gD g.1) q78 σ81 _ h) li_X10_9 rfl rfl rfl dX10_init_53 (cat8 (Nat.le_of_ble_eq_true rfl)) hrm ⟨Nat.le_of_ble_eq_true rfl, Nat.le_of_ble_eq_true rfl⟩ (fun u84 σ85 h h86 => ?_)
  have h87 := kp h86 (show ¬ 12 = 0 by decide) (kw e82 h79 (by decide) (kq E73 h69))
  have h88 := kp h86 (show ¬ 1 = 0 by decide) (kn e82 h75)
  refine y_putR hg fw_X10_25 rfl (fun _ => hgI) rfl h87 (lv_k rfl h88 (by decide)) dX10_init_56 ?_
  refine y_nmS (fun σ89 e90 => ?_)
  replace h := h σ89 e90
  have E91 : sK σ89 = sK σ85 := by rw [e90]; rfl
  refine y_aload_n hg 0 dX10_init_59 rfl rfl ?_
  obtain ⟨κ92, q96, h93, h94, h95, h97, h98, h⟩ := h
  refine y_new hg hal nl_X10_28 h93 h94 h95 h97 h98 (rll_c (lk_k rfl (kq E91 h87) (by decide)) rll_nil) (rl_c (lk_k rfl (kq E91 h87) (by decide)) rl_nil) dX10_init_60 ?_
  refine y_nmS (fun σ99 e100 => ?_)
  replace h := h σ99 e100
  refine y_dup hg dX10_init_63 rfl ?_
  refine y_iconst (v := 0) hg dX10_init_64 (by decide) ?_
  refine y_iconst (v := (-1)) hg dX10_init_65 (by decide) ?_
  obtain ⟨bc104, h105, h106, h⟩ := h
  refine yIVA (Qm := _) (rest := [va_rf (some q96), va_rf (some a0)]) (As := [.int 0, .int (-1)]) hg hal (k_X4_init (gL g.1) (gD g.1) q96 0 (-1) σ99 bc104 _ h) li_X10_30 rfl rfl rfl dX10_init_66 (cat8 (Nat.le_of_ble_eq_true rfl)) hrm ⟨Nat.le_of_ble_eq_true rfl, Nat.le_of_ble_eq_true rfl⟩ h105 h106 (rll_c (lk_k rfl (kw e100 h97 (by decide) (kq E91 h87)) (by decide)) rll_nil) (rl_c (lk_k rfl (kn e100 h93) (by decide)) (rl_c (lk_k rfl (kw e100 h97 (by decide) (kq E91 h87)) (by decide)) rl_nil)) (fun u102 σ103 h h107 => ?_)
  have h108 := kp h107 (show ¬ 12 = 0 by decide) (kw e100 h97 (by decide) (kq E91 h87))
  have h109 := kp h107 (show ¬ 6 = 0 by decide) (kn e100 h93)
  refine y_putR hg fw_X10_33 rfl (fun _ => hgI) rfl h108 (lv_k rfl h109 (by decide)) dX10_init_69 ?_
  refine y_nmS (fun σ110 e111 => ?_)
  replace h := h σ110 e111
  have E112 : sK σ110 = sK σ103 := by rw [e111]; rfl
  refine y_aload_n hg 0 dX10_init_72 rfl rfl ?_
  obtain ⟨κ113, q117, h114, h115, h116, h118, h119, h⟩ := h
  refine y_new hg hal nl_X10_37 h114 h115 h116 h118 h119 (rll_c (lk_k rfl (kq E112 h108) (by decide)) rll_nil) (rl_c (lk_k rfl (kq E112 h108) (by decide)) rl_nil) dX10_init_73 ?_
  refine y_nmS (fun σ120 e121 => ?_)
  replace h := h σ120 e121
  refine y_dup hg dX10_init_76 rfl ?_
  obtain ⟨bc125, h126, h127, h⟩ := h
  refine yINVA (Qm := _) (rest := [va_rf (some q117), va_rf (some a0)]) (As := []) hg hal (k_X7_init (gL g.1) (gD g.1) q117 σ120 bc125 _ h) lin_X10_39 rfl rfl rfl dX10_init_77 (cat8 (Nat.le_of_ble_eq_true rfl)) hrm ⟨Nat.le_of_ble_eq_true rfl, Nat.le_of_ble_eq_true rfl⟩ h126 h127 (rll_c (lk_k rfl (kw e121 h118 (by decide) (kq E112 h108)) (by decide)) rll_nil) (rl_c (lk_k rfl (kn e121 h114) (by decide)) (rl_c (lk_k rfl (kw e121 h118 (by decide) (kq E112 h108)) (by decide)) rl_nil)) (fun u123 σ124 h h128 => ?_)
  have h129 := kp h128 (show ¬ 12 = 0 by decide) (kw e121 h118 (by decide) (kq E112 h108))
  have h130 := kp h128 (show ¬ 9 = 0 by decide) (kn e121 h114)
  refine y_putR hg fw_X10_40 rfl (fun _ => hgI) rfl h129 (lv_k rfl h130 (by decide)) dX10_init_80 ?_
  refine y_nmS (fun σ131 e132 => ?_)
  replace h := h σ131 e132
  have E133 : sK σ131 = sK σ124 := by rw [e132]; rfl
  refine y_aload_n hg 0 dX10_init_83 rfl rfl ?_
  obtain ⟨κ134, q138, h135, h136, h137, h139, h140, h⟩ := h
  refine y_new hg hal nl_X10_44 h135 h136 h137 h139 h140 (rll_c (lk_k rfl (kq E133 h129) (by decide)) rll_nil) (rl_c (lk_k rfl (kq E133 h129) (by decide)) rl_nil) dX10_init_84 ?_
  refine y_nmS (fun σ141 e142 => ?_)
  replace h := h σ141 e142
  refine y_dup hg dX10_init_87 rfl ?_
  obtain ⟨bc146, h147, h148, h⟩ := h
  refine yIVA (Qm := _) (rest := [va_rf (some q138), va_rf (some a0)]) (As := []) hg hal (k_X3_init (gL g.1) (gD g.1) q138 σ141 bc146 _ h) li_X10_46 rfl rfl rfl dX10_init_88 (cat8 (Nat.le_of_ble_eq_true rfl)) hrm ⟨Nat.le_of_ble_eq_true rfl, Nat.le_of_ble_eq_true rfl⟩ h147 h148 (rll_c (lk_k rfl (kw e142 h139 (by decide) (kq E133 h129)) (by decide)) rll_nil) (rl_c (lk_k rfl (kn e142 h135) (by decide)) (rl_c (lk_k rfl (kw e142 h139 (by decide) (kq E133 h129)) (by decide)) rl_nil)) (fun u144 σ145 h h149 => ?_)
  have h150 := kp h149 (show ¬ 12 = 0 by decide) (kw e142 h139 (by decide) (kq E133 h129))
  have h151 := kp h149 (show ¬ 5 = 0 by decide) (kn e142 h135)
  refine y_putR hg fw_X10_47 rfl (fun _ => hgI) rfl h150 (lv_k rfl h151 (by decide)) dX10_init_91 ?_
  refine y_nmS (fun σ152 e153 => ?_)
  replace h := h σ152 e153
  have E154 : sK σ152 = sK σ145 := by rw [e153]; rfl
  refine y_aload_n hg 0 dX10_init_94 rfl rfl ?_
  refine y_bipush (v := 10) hg dX10_init_95 (by decide) ?_
  obtain ⟨κ155, q161, h156, h157, h158, h159, h160, h162, h163, h⟩ := h
  refine y_newa (at0 := .int) (c := 16) hg hal rfl (by decide) (by decide) aw_arrI h156 h157 h158 h159 h160 cA_arrI h162 h163 (rll_c (lk_k rfl (kq E154 h150) (by decide)) rll_nil) (rl_c (lk_k rfl (kq E154 h150) (by decide)) rl_nil) dX10_init_97 ?_
  refine y_nmS (fun σ164 e165 => ?_)
  replace h := h σ164 e165
  refine y_putR hg fw_X10_51 rfl (fun _ => hgI) rfl (kw e165 h162 (by decide) (kq E154 h150)) (lv_k rfl (kn e165 h156) (by decide)) dX10_init_99 ?_
  refine y_nmS (fun σ167 e168 => ?_)
  replace h := h σ167 e168
  have E169 : sK σ167 = sK σ164 := by rw [e168]; rfl
  refine y_aload_n hg 0 dX10_init_102 rfl rfl ?_
  refine y_bipush (v := 30) hg dX10_init_103 (by decide) ?_
  obtain ⟨κ170, q176, h171, h172, h173, h174, h175, h177, h178, h⟩ := h
  refine y_newa (at0 := .int) (c := 16) hg hal rfl (by decide) (by decide) aw_arrI h171 h172 h173 h174 h175 cA_arrI h177 h178 (rll_c (lk_k rfl (kq E169 (kw e165 h162 (by decide) (kq E154 h150))) (by decide)) rll_nil) (rl_c (lk_k rfl (kq E169 (kw e165 h162 (by decide) (kq E154 h150))) (by decide)) rl_nil) dX10_init_105 ?_
  refine y_nmS (fun σ179 e180 => ?_)
  replace h := h σ179 e180
  refine y_putR hg fw_X10_55 rfl (fun _ => hgI) rfl (kw e180 h177 (by decide) (kq E169 (kw e165 h162 (by decide) (kq E154 h150)))) (lv_k rfl (kn e180 h171) (by decide)) dX10_init_107 ?_
  refine y_nmS (fun σ182 e183 => ?_)
  replace h := h σ182 e183
  have E184 : sK σ182 = sK σ179 := by rw [e183]; rfl
  refine y_aload_n hg 0 dX10_init_110 rfl rfl ?_
  refine y_bipush (v := 10) hg dX10_init_111 (by decide) ?_
  obtain ⟨κ185, q191, h186, h187, h188, h189, h190, h192, h193, h⟩ := h
  refine y_newa (at0 := .int) (c := 16) hg hal rfl (by decide) (by decide) aw_arrI h186 h187 h188 h189 h190 cA_arrI h192 h193 (rll_c (lk_k rfl (kq E184 (kw e180 h177 (by decide) (kq E169 (kw e165 h162 (by decide) (kq E154 h150))))) (by decide)) rll_nil) (rl_c (lk_k rfl (kq E184 (kw e180 h177 (by decide) (kq E169 (kw e165 h162 (by decide) (kq E154 h150))))) (by decide)) rl_nil) dX10_init_113 ?_
  refine y_nmS (fun σ194 e195 => ?_)
  replace h := h σ194 e195
  refine y_putR hg fw_X10_58 rfl (fun _ => hgI) rfl (kw e195 h192 (by decide) (kq E184 (kw e180 h177 (by decide) (kq E169 (kw e165 h162 (by decide) (kq E154 h150)))))) (lv_k rfl (kn e195 h186) (by decide)) dX10_init_115 ?_
  refine y_nmS (fun σ197 e198 => ?_)
  replace h := h σ197 e198
  have E199 : sK σ197 = sK σ194 := by rw [e198]; rfl
  refine y_aload_n hg 0 dX10_init_118 rfl rfl ?_
  refine y_bipush (v := 10) hg dX10_init_119 (by decide) ?_
  refine y_bipush (v := 10) hg dX10_init_121 (by decide) ?_
  obtain ⟨κ200, κ201, q206, h202, h203, h204, h205, h207, h210, h⟩ := h
  refine y_mna hg hal h202 h203 h204 h205 h207 h210 (rll_c (lk_k rfl (kq E199 (kw e195 h192 (by decide) (kq E184 (kw e180 h177 (by decide) (kq E169 (kw e165 h162 (by decide) (kq E154 h150))))))) (by decide)) rll_nil) (rl_c (lk_k rfl (kq E199 (kw e195 h192 (by decide) (kq E184 (kw e180 h177 (by decide) (kq E169 (kw e165 h162 (by decide) (kq E154 h150))))))) (by decide)) rl_nil) dX10_init_123 ?_
  refine y_nmS (fun σ208 e209 => ?_)
  replace h := h σ208 e209
  obtain ⟨h211, h⟩ := h
  refine y_putR hg fw_X10_63 rfl (fun _ => hgI) rfl (kmw e209 h207 (by decide) (kq E199 (kw e195 h192 (by decide) (kq E184 (kw e180 h177 (by decide) (kq E169 (kw e165 h162 (by decide) (kq E154 h150)))))))) (lv_p h211) dX10_init_127 ?_
  refine y_nmS (fun σ212 e213 => ?_)
  replace h := h σ212 e213
  have E214 : sK σ212 = sK σ208 := by rw [e213]; rfl
  have h215 : sK σ212 a0 % 32 = 12 := (kq E214 (kmw e209 h207 (by decide) (kq E199 (kw e195 h192 (by decide) (kq E184 (kw e180 h177 (by decide) (kq E169 (kw e165 h162 (by decide) (kq E154 h150)))))))))
  have h216 : sK σ212 q138 % 32 = 5 := (kq E214 (kmw e209 h207 (by decide) (kq E199 (kw e195 h192 (by decide) (kq E184 (kw e180 h177 (by decide) (kq E169 (kw e165 h162 (by decide) (kq E154 h151)))))))))
  refine y_aload_n hg 0 dX10_init_130 rfl rfl ?_
  refine y_bipush (v := 12) hg dX10_init_131 (by decide) ?_
  obtain ⟨κ217, q223, h218, h219, h220, h221, h222, h224, h225, h⟩ := h
  refine y_newa (at0 := .int) (c := 16) hg hal rfl (by decide) (by decide) aw_arrI h218 h219 h220 h221 h222 cA_arrI h224 h225 (rll_c (lk_k rfl h215 (by decide)) rll_nil) (rl_c (lk_k rfl h215 (by decide)) rl_nil) dX10_init_133 ?_
  refine y_nmS (fun σ226 e227 => ?_)
  replace h := h σ226 e227
  have h229 : sK σ226 q161 % 32 = 16 := (kw e227 h224 (by decide) (kq E214 (kmw e209 h207 (by decide) (kq E199 (kw e195 h192 (by decide) (kq E184 (kw e180 h177 (by decide) (kq E169 (kn e165 h156)))))))))
  refine y_putR hg fw_X10_66 rfl (fun _ => hgI) rfl (kw e227 h224 (by decide) h215) (lv_k rfl (kn e227 h218) (by decide)) dX10_init_135 ?_
  refine y_nmS (fun σ230 e231 => ?_)
  replace h := h σ230 e231
  have E232 : sK σ230 = sK σ226 := by rw [e231]; rfl
  refine y_aload_n hg 0 dX10_init_138 rfl rfl ?_
  refine y_bipush (v := 7) hg dX10_init_139 (by decide) ?_
  obtain ⟨κ233, q239, h234, h235, h236, h237, h238, h240, h241, h⟩ := h
  refine y_newa (at0 := .long) (c := 17) hg hal rfl (by decide) (by decide) aw_arrJ h234 h235 h236 h237 h238 cA_arrJ h240 h241 (rll_c (lk_k rfl (kq E232 (kw e227 h224 (by decide) h215)) (by decide)) rll_nil) (rl_c (lk_k rfl (kq E232 (kw e227 h224 (by decide) h215)) (by decide)) rl_nil) dX10_init_141 ?_
  refine y_nmS (fun σ242 e243 => ?_)
  replace h := h σ242 e243
  have h245 : sK σ242 q176 % 32 = 16 := (kw e243 h240 (by decide) (kq E232 (kw e227 h224 (by decide) (kq E214 (kmw e209 h207 (by decide) (kq E199 (kw e195 h192 (by decide) (kq E184 (kn e180 h171)))))))))
  refine y_putR hg fw_X10_69 rfl (fun _ => hgI) rfl (kw e243 h240 (by decide) (kq E232 (kw e227 h224 (by decide) h215))) (lv_k rfl (kn e243 h234) (by decide)) dX10_init_143 ?_
  refine y_nmS (fun σ246 e247 => ?_)
  replace h := h σ246 e247
  have E248 : sK σ246 = sK σ242 := by rw [e247]; rfl
  refine y_aload_n hg 0 dX10_init_146 rfl rfl ?_
  refine y_iconst (v := (-1)) hg dX10_init_147 (by decide) ?_
  refine y_putI hg fw_X10_73 (fun z => nomatch z) rfl (kq E248 (kw e243 h240 (by decide) (kq E232 (kw e227 h224 (by decide) h215)))) dX10_init_148 ?_
  refine y_nmS (fun σ249 e250 => ?_)
  replace h := h σ249 e250
  have E251 : sK σ249 = sK σ246 := by rw [e250]; rfl
  refine y_aload_n hg 0 dX10_init_151 rfl rfl ?_
  refine y_getR hg fl_X10_51 rfl rfl (kq E251 (kq E248 (kw e243 h240 (by decide) (kq E232 (kw e227 h224 (by decide) h215))))) dX10_init_152 ?_
  refine y_bipush (v := 20) hg dX10_init_155 (by decide) ?_
  refine ySVW (Qm := _) (rest := []) (As := [va_rf (sR σ249 a0 8), .int 20]) hg (k_J7_fill_53178 (gL g.1) (gD g.1) (sR σ249 a0 8) 20 σ249 _ h) ls_X10_77 rfl rfl dX10_init_157 (cat8 (Nat.le_of_ble_eq_true rfl)) hrm ⟨Nat.le_of_ble_eq_true rfl, Nat.le_of_ble_eq_true rfl⟩ (fun u252 σ253 h h254 => ?_)
  have h255 := kp h254 (show ¬ 12 = 0 by decide) (kq E251 (kq E248 (kw e243 h240 (by decide) (kq E232 (kw e227 h224 (by decide) h215)))))
  exact yEndV hend dX10_init_160 h
def P_X10_corner_B48 (a0 : Nat) (v1 : Int32) (v2 : Int32) (v3 : Int32) (v4 : Int32) (w0 : Int32) (σ : Sg) (b : Nat × Nat) (Q : Int32 → Sg → Prop) : Prop :=
  (w0 = 0 → Q (-1) σ) ∧ (¬ (w0 = 0) → sK σ a0 % 32 = 12 ∧ ∃ c11 : Nat, sR σ a0 0 = some c11 ∧ sK σ c11 % 32 = 1 ∧ P_Jx4a65c_size_8abf5 c11 σ (fun x14 => (x14 < 12 → ∃ κ16 q20 : Nat, κ16 % 32 = 4 ∧ 1 ≤ b.1 ∧ 9 ≤ b.2 ∧ sK σ q20 = 0 ∧ 1000 ≤ q20 ∧ (∀ z, sR σ a0 0 = some z → ¬ sK σ z = 0) ∧ ∀ σ24 : Sg, σ24 = nw σ q20 κ16 0 → P_X2_init q20 v1 v2 v3 v4 σ24 (fun _ σ28 => ∃ c32 : Nat, sR σ a0 0 = some c32 ∧ sK σ28 c32 % 32 = 1 ∧ ∃ bc37 : Nat × Nat, bc37.1 ≤ b.1 - 1 ∧ bc37.2 ≤ b.2 - 9 ∧ P_Jx4a65c_add_9ea2d c32 (some q20) σ28 bc37 (fun x35 σ36 => ∃ c42 : Nat, sR σ36 a0 0 = some c42 ∧ sK σ36 c42 % 32 = 1 ∧ P_Jx4a65c_size_8abf5 c42 σ36 (fun x45 => Q (x45 - 1) σ36)))) ∧ (¬ (x14 < 12) → Q (-1) σ)))
def P_X10_corner_B47 (a0 : Nat) (v1 : Int32) (v2 : Int32) (v3 : Int32) (v4 : Int32) (σ : Sg) (b : Nat × Nat) (Q : Int32 → Sg → Prop) : Prop :=
  P_X10_corner_B48 a0 v1 v2 v3 v4 0 σ (b.1, b.2) Q
def P_X10_corner (a0 : Nat) (v1 : Int32) (v2 : Int32) (v3 : Int32) (v4 : Int32) (σ : Sg) (b : Nat × Nat) (Q : Int32 → Sg → Prop) : Prop :=
  P_X10_within v1 1 100 σ (fun x1 => (x1 = 0 → P_X10_corner_B47 a0 v1 v2 v3 v4 σ (b.1, b.2) Q) ∧ (¬ (x1 = 0) → P_X10_within v2 1 500 σ (fun x3 => (x3 = 0 → P_X10_corner_B47 a0 v1 v2 v3 v4 σ (b.1, b.2) Q) ∧ (¬ (x3 = 0) → P_X10_within v3 0 9 σ (fun x5 => (x5 = 0 → P_X10_corner_B47 a0 v1 v2 v3 v4 σ (b.1, b.2) Q) ∧ (¬ (x5 = 0) → P_X10_within v4 0 500 σ (fun x7 => (x7 = 0 → P_X10_corner_B47 a0 v1 v2 v3 v4 σ (b.1, b.2) Q) ∧ (¬ (x7 = 0) → P_X10_corner_B48 a0 v1 v2 v3 v4 1 σ (b.1, b.2) Q))))))))
set_option maxHeartbeats 4000000 in
set_option maxRecDepth 100000 in
theorem k_X10_corner (l : Launch) (D : Dg) (a0 : Nat) (v1 : Int32) (v2 : Int32) (v3 : Int32) (v4 : Int32) (σ : Sg) (b : Nat × Nat) (Q : Int32 → Sg → Prop) (h : P_X10_corner a0 v1 v2 v3 v4 σ b Q) : CtrY RA l D yX10_corner cX10_corner 6 (some FieldType.int) 7 171 mkI [.ref a0, .int v1, .int v2, .int v3, .int v4] σ b Q := by
  refine y_ctrA (lv := [(0, va_rf (some a0)), (1, .int v1), (2, .int v2), (3, .int v3), (4, .int v4)]) (by decide) (by (exact Nat.le_of_ble_eq_true rfl)) (by (exact rfl)) (fun g hg hgL hgD hrm hgN hgI hend hal => ?_)
  subst hgD
  clear hgL
  unfold P_X10_corner at h
  have J48 : ∀ (v1 : Int32) (v2 : Int32) (v3 : Int32) (v4 : Int32) (w0 : Int32) (σ : Sg) (b : Nat × Nat), P_X10_corner_B48 a0 v1 v2 v3 v4 w0 σ b Q → XA g 48 [(0, va_rf (some a0)), (1, .int v1), (2, .int v2), (3, .int v3), (4, .int v4)] [.int w0] σ b := by
    intro v1 v2 v3 v4 w0 σ b h
    unfold P_X10_corner_B48 at h
    refine y_istore (lv' := [(5, .int w0), (0, va_rf (some a0)), (1, .int v1), (2, .int v2), (3, .int v3), (4, .int v4)]) hg dX10_corner_48 (by rw [hgN]; decide) rfl ?_
    refine y_iload hg 0 dX10_corner_50 rfl ?_
    refine y_if_eq (tgt := 67) hg dX10_corner_52 (by decide) (fun q9 => ?_) (fun q9 => ?_)
    · replace h := h.1 q9
      refine y_iconst (v := (-1)) hg dX10_corner_67 (by decide) ?_
      exact yEndI hend rfl dX10_corner_68 h
    · replace h := h.2 q9
      refine y_aload_n hg 1 dX10_corner_55 rfl rfl ?_
      obtain ⟨h10, h⟩ := h
      refine y_getR hg fl_X10_10 rfl rfl h10 dX10_corner_56 ?_
      obtain ⟨c11, h12, h⟩ := h
      obtain ⟨h13, h⟩ := h
      refine yVIP (Qp := _) (rest := []) (As := []) hg (k_Jx4a65c_size_8abf5 (gL g.1) (gD g.1) c11 σ _ h) lv_X10_87 h12 h13 rfl rfl dX10_corner_59 (cat8 (Nat.le_of_ble_eq_true rfl)) hrm ⟨Nat.le_of_ble_eq_true rfl, Nat.le_of_ble_eq_true rfl⟩ (fun x14 h => ?_)
      refine y_bipush (v := 12) hg dX10_corner_62 (by decide) ?_
      refine y_icmp_lt (tgt := 69) hg dX10_corner_64 (by decide) (fun q15 => ?_) (fun q15 => ?_)
      · replace h := h.1 q15
        refine y_aload_n hg 1 dX10_corner_69 rfl rfl ?_
        refine y_getR hg fl_X10_10 rfl rfl h10 dX10_corner_70 ?_
        obtain ⟨κ16, q20, h17, h18, h19, h21, h22, h⟩ := h
        refine y_sub [1, 2, 3, 4, 5] rfl ?_
        obtain ⟨h23, h⟩ := h
        refine y_new hg hal nl_X10_91 h17 h18 h19 h21 h22 (rll_c (lk_k rfl h10 (by decide)) (rll_c (lk_i _) (rll_c (lk_i _) (rll_c (lk_i _) (rll_c (lk_i _) rll_nil))))) (rl_c (lk_r h23) rl_nil) dX10_corner_73 ?_
        refine y_nmS (fun σ24 e25 => ?_)
        replace h := h σ24 e25
        refine y_dup hg dX10_corner_76 rfl ?_
        refine y_iload_n hg 1 dX10_corner_77 rfl rfl ?_
        refine y_iload_n hg 2 dX10_corner_78 rfl rfl ?_
        refine y_iload_n hg 3 dX10_corner_79 rfl rfl ?_
        refine y_iload hg 4 dX10_corner_80 rfl ?_
        refine yIVW (Qm := _) (rest := [va_rf (some q20), va_rf (sR σ a0 0)]) (As := [.int v1, .int v2, .int v3, .int v4]) hg (k_X2_init (gL g.1) (gD g.1) q20 v1 v2 v3 v4 σ24 _ h) li_X10_93 rfl rfl rfl dX10_corner_82 (cat8 (Nat.le_of_ble_eq_true rfl)) hrm ⟨Nat.le_of_ble_eq_true rfl, Nat.le_of_ble_eq_true rfl⟩ (fun u27 σ28 h h29 => ?_)
        have h30 := kp h29 (show ¬ 12 = 0 by decide) (kw e25 h21 (by decide) h10)
        have h31 := kp h29 (show ¬ 4 = 0 by decide) (kn e25 h17)
        obtain ⟨c32, h33, h⟩ := h
        obtain ⟨h34, h⟩ := h
        obtain ⟨bc37, h38, h39, h⟩ := h
        refine y_sub [0] rfl ?_
        refine yVIA (Qm := _) (rest := []) (As := [va_rf (some q20)]) hg hal (k_Jx4a65c_add_9ea2d (gL g.1) (gD g.1) c32 (some q20) σ28 bc37 _ h) lv_X10_96 h33 h34 rfl rfl dX10_corner_85 (cat8 (Nat.le_of_ble_eq_true rfl)) hrm ⟨Nat.le_of_ble_eq_true rfl, Nat.le_of_ble_eq_true rfl⟩ h38 h39 (rll_c (lk_k rfl h30 (by decide)) rll_nil) rl_nil (fun x35 σ36 h h40 => ?_)
        have h41 := kp h40 (show ¬ 12 = 0 by decide) h30
        refine y_pop hg dX10_corner_88 rfl ?_
        refine y_aload_n hg 0 dX10_corner_89 rfl rfl ?_
        refine y_getR hg fl_X10_10 rfl rfl h41 dX10_corner_90 ?_
        obtain ⟨c42, h43, h⟩ := h
        obtain ⟨h44, h⟩ := h
        refine yVIP (Qp := _) (rest := []) (As := []) hg (k_Jx4a65c_size_8abf5 (gL g.1) (gD g.1) c42 σ36 _ h) lv_X10_87 h43 h44 rfl rfl dX10_corner_93 (cat8 (Nat.le_of_ble_eq_true rfl)) hrm ⟨Nat.le_of_ble_eq_true rfl, Nat.le_of_ble_eq_true rfl⟩ (fun x45 h => ?_)
        refine y_iconst (v := 1) hg dX10_corner_96 (by decide) ?_
        refine y_isub hg dX10_corner_97 ?_
        exact yEndI hend rfl dX10_corner_98 h
      · replace h := h.2 q15
        refine y_iconst (v := (-1)) hg dX10_corner_67 (by decide) ?_
        exact yEndI hend rfl dX10_corner_68 h
  have J47 : ∀ (v1 : Int32) (v2 : Int32) (v3 : Int32) (v4 : Int32) (σ : Sg) (b : Nat × Nat), P_X10_corner_B47 a0 v1 v2 v3 v4 σ b Q → XA g 47 [(0, va_rf (some a0)), (1, .int v1), (2, .int v2), (3, .int v3), (4, .int v4)] [] σ b := by
    intro v1 v2 v3 v4 σ b h
    unfold P_X10_corner_B47 at h
    refine y_iconst (v := 0) hg dX10_corner_47 (by decide) ?_
    refine y_sub [0, 1, 2, 3, 4] rfl ?_
    exact J48 _ _ _ _ _ _ _ h
  refine y_iload_n hg 1 dX10_corner_0 rfl rfl ?_
  refine y_iconst (v := 1) hg dX10_corner_1 (by decide) ?_
  refine y_bipush (v := 100) hg dX10_corner_2 (by decide) ?_
  refine ySIP (Qp := _) (rest := []) (As := [.int v1, .int 1, .int 100]) hg (k_X10_within (gL g.1) (gD g.1) v1 1 100 σ _ h) ls_X10_83 rfl rfl dX10_corner_4 (cat8 (Nat.le_of_ble_eq_true rfl)) hrm ⟨Nat.le_of_ble_eq_true rfl, Nat.le_of_ble_eq_true rfl⟩ (fun x1 h => ?_)
  refine y_if_eq (tgt := 47) hg dX10_corner_7 (by decide) (fun q2 => ?_) (fun q2 => ?_)
  · replace h := h.1 q2
    refine y_sub [0, 1, 2, 3, 4] rfl ?_
    exact J47 _ _ _ _ _ _ h
  · replace h := h.2 q2
    refine y_iload_n hg 2 dX10_corner_10 rfl rfl ?_
    refine y_iconst (v := 1) hg dX10_corner_11 (by decide) ?_
    refine y_sipush (v := 500) hg dX10_corner_12 (by decide) ?_
    refine ySIP (Qp := _) (rest := []) (As := [.int v2, .int 1, .int 500]) hg (k_X10_within (gL g.1) (gD g.1) v2 1 500 σ _ h) ls_X10_83 rfl rfl dX10_corner_15 (cat8 (Nat.le_of_ble_eq_true rfl)) hrm ⟨Nat.le_of_ble_eq_true rfl, Nat.le_of_ble_eq_true rfl⟩ (fun x3 h => ?_)
    refine y_if_eq (tgt := 47) hg dX10_corner_18 (by decide) (fun q4 => ?_) (fun q4 => ?_)
    · replace h := h.1 q4
      refine y_sub [0, 1, 2, 3, 4] rfl ?_
      exact J47 _ _ _ _ _ _ h
    · replace h := h.2 q4
      refine y_iload_n hg 3 dX10_corner_21 rfl rfl ?_
      refine y_iconst (v := 0) hg dX10_corner_22 (by decide) ?_
      refine y_bipush (v := 9) hg dX10_corner_23 (by decide) ?_
      refine ySIP (Qp := _) (rest := []) (As := [.int v3, .int 0, .int 9]) hg (k_X10_within (gL g.1) (gD g.1) v3 0 9 σ _ h) ls_X10_83 rfl rfl dX10_corner_25 (cat8 (Nat.le_of_ble_eq_true rfl)) hrm ⟨Nat.le_of_ble_eq_true rfl, Nat.le_of_ble_eq_true rfl⟩ (fun x5 h => ?_)
      refine y_if_eq (tgt := 47) hg dX10_corner_28 (by decide) (fun q6 => ?_) (fun q6 => ?_)
      · replace h := h.1 q6
        refine y_sub [0, 1, 2, 3, 4] rfl ?_
        exact J47 _ _ _ _ _ _ h
      · replace h := h.2 q6
        refine y_iload hg 4 dX10_corner_31 rfl ?_
        refine y_iconst (v := 0) hg dX10_corner_33 (by decide) ?_
        refine y_sipush (v := 500) hg dX10_corner_34 (by decide) ?_
        refine ySIP (Qp := _) (rest := []) (As := [.int v4, .int 0, .int 500]) hg (k_X10_within (gL g.1) (gD g.1) v4 0 500 σ _ h) ls_X10_83 rfl rfl dX10_corner_37 (cat8 (Nat.le_of_ble_eq_true rfl)) hrm ⟨Nat.le_of_ble_eq_true rfl, Nat.le_of_ble_eq_true rfl⟩ (fun x7 h => ?_)
        refine y_if_eq (tgt := 47) hg dX10_corner_40 (by decide) (fun q8 => ?_) (fun q8 => ?_)
        · replace h := h.1 q8
          refine y_sub [0, 1, 2, 3, 4] rfl ?_
          exact J47 _ _ _ _ _ _ h
        · replace h := h.2 q8
          refine y_iconst (v := 1) hg dX10_corner_43 (by decide) ?_
          refine y_goto (tgt := 48) hg dX10_corner_44 (by decide) ?_
          refine y_sub [0, 1, 2, 3, 4] rfl ?_
          exact J48 _ _ _ _ _ _ _ h
def P_X10_cornerAt (a0 : Nat) (v1 : Int32) (σ : Sg) (Q : Option Nat → Prop) : Prop :=
  sK σ a0 % 32 = 12 ∧ ∃ c2 : Nat, sR σ a0 0 = some c2 ∧ sK σ c2 % 32 = 1 ∧ P_Jx4a65c_size_8abf5 c2 σ (fun x5 => P_X10_within v1 0 (x5 - 1) σ (fun x6 => (x6 = 0 → Q none) ∧ (¬ (x6 = 0) → ∃ c8 : Nat, sR σ a0 0 = some c8 ∧ sK σ c8 % 32 = 1 ∧ P_Jx4a65c_get_915e3 c8 v1 σ (fun r11 => ∃ c12 : Nat, r11 = some c12 ∧ sK σ c12 % 32 = 4 ∧ Q r11))))
set_option maxHeartbeats 4000000 in
set_option maxRecDepth 100000 in
theorem k_X10_cornerAt (l : Launch) (D : Dg) (a0 : Nat) (v1 : Int32) (σ : Sg) (Q : Option Nat → Prop) (h : P_X10_cornerAt a0 v1 σ Q) : CtrY RN l D yX10_cornerAt cX10_cornerAt 2 (some (FieldType.object "RainStreets$Corner")) 3 64 mkR [.ref a0, .int v1] σ (0, 0) (fun r σ2 => Q r ∧ σ2 = σ) := by
  refine y_ctrN (lv := [(0, va_rf (some a0)), (1, .int v1)]) (by decide) (by (exact Nat.le_of_ble_eq_true rfl)) (by (exact rfl)) (fun g hg hgL hgD hrm hgN hgI hend => ?_)
  subst hgD
  clear hgL
  unfold P_X10_cornerAt at h
  refine y_iload_n hg 1 dX10_cornerAt_0 rfl rfl ?_
  refine y_iconst (v := 0) hg dX10_cornerAt_1 (by decide) ?_
  refine y_aload_n hg 0 dX10_cornerAt_2 rfl rfl ?_
  obtain ⟨h1, h⟩ := h
  refine y_getR hg fl_X10_10 rfl rfl h1 dX10_cornerAt_3 ?_
  obtain ⟨c2, h3, h⟩ := h
  obtain ⟨h4, h⟩ := h
  refine yVIP (Qp := _) (rest := [.int 0, .int v1]) (As := []) hg (k_Jx4a65c_size_8abf5 (gL g.1) (gD g.1) c2 σ _ h) lv_X10_87 h3 h4 rfl rfl dX10_cornerAt_6 (cat8 (Nat.le_of_ble_eq_true rfl)) hrm ⟨Nat.le_of_ble_eq_true rfl, Nat.le_of_ble_eq_true rfl⟩ (fun x5 h => ?_)
  refine y_iconst (v := 1) hg dX10_cornerAt_9 (by decide) ?_
  refine y_isub hg dX10_cornerAt_10 ?_
  refine ySIP (Qp := _) (rest := []) (As := [.int v1, .int 0, .int (x5 - 1)]) hg (k_X10_within (gL g.1) (gD g.1) v1 0 (x5 - 1) σ _ h) ls_X10_83 rfl rfl dX10_cornerAt_11 (cat8 (Nat.le_of_ble_eq_true rfl)) hrm ⟨Nat.le_of_ble_eq_true rfl, Nat.le_of_ble_eq_true rfl⟩ (fun x6 h => ?_)
  refine y_if_eq (tgt := 31) hg dX10_cornerAt_14 (by decide) (fun q7 => ?_) (fun q7 => ?_)
  · replace h := h.1 q7
    refine y_null hg dX10_cornerAt_31 ?_
    exact yEndR hend rfl dX10_cornerAt_32 ⟨h, rfl⟩
  · replace h := h.2 q7
    refine y_aload_n hg 0 dX10_cornerAt_17 rfl rfl ?_
    refine y_getR hg fl_X10_10 rfl rfl h1 dX10_cornerAt_18 ?_
    refine y_iload_n hg 1 dX10_cornerAt_21 rfl rfl ?_
    obtain ⟨c8, h9, h⟩ := h
    obtain ⟨h10, h⟩ := h
    refine yVRP (Qp := _) (rest := []) (As := [.int v1]) hg (k_Jx4a65c_get_915e3 (gL g.1) (gD g.1) c8 v1 σ _ h) lv_X10_232 h9 h10 rfl rfl dX10_cornerAt_22 (cat8 (Nat.le_of_ble_eq_true rfl)) hrm ⟨Nat.le_of_ble_eq_true rfl, Nat.le_of_ble_eq_true rfl⟩ (fun r11 h => ?_)
    obtain ⟨c12, h13, h⟩ := h
    obtain ⟨h14, h⟩ := h
    refine y_cast (c := 4) hg (C := RX2) rfl (by decide) cl_X10_91 h13 h14 dX10_cornerAt_25 ?_
    refine y_goto (tgt := 32) hg dX10_cornerAt_28 (by decide) ?_
    exact yEndR hend rfl dX10_cornerAt_32 ⟨h, rfl⟩
def P_X10_below_B36 (a0 : Nat) (v2 : Int32) (v3 : Option Nat) (σ : Sg) (Q : Int32 → Sg → Prop) : Prop :=
  ∃ c13 : Nat, v3 = some c13 ∧ sK σ c13 % 32 = 4 ∧ ∀ σ16 : Sg, σ16 = pI σ c13 4 v2 → Q 1 σ16
def P_X10_below (a0 : Nat) (v1 : Int32) (v2 : Int32) (σ : Sg) (Q : Int32 → Sg → Prop) : Prop :=
  sK σ a0 % 32 = 12 ∧ P_X10_cornerAt a0 v1 σ (fun r2 => (r2 = none → Q 0 σ) ∧ (∀ c3 : Nat, r2 = some c3 → (v2 = (-1) → P_X10_below_B36 a0 v2 r2 σ Q) ∧ (¬ (v2 = (-1)) → ∃ c7 : Nat, sR σ a0 0 = some c7 ∧ sK σ c7 % 32 = 1 ∧ P_Jx4a65c_size_8abf5 c7 σ (fun x10 => P_X10_within v2 (v1 + 1) (x10 - 1) σ (fun x11 => (x11 = 0 → Q 0 σ) ∧ (¬ (x11 = 0) → P_X10_below_B36 a0 v2 r2 σ Q))))))
set_option maxHeartbeats 4000000 in
set_option maxRecDepth 100000 in
theorem k_X10_below (l : Launch) (D : Dg) (a0 : Nat) (v1 : Int32) (v2 : Int32) (σ : Sg) (Q : Int32 → Sg → Prop) (h : P_X10_below a0 v1 v2 σ Q) : CtrY RN l D yX10_below cX10_below 4 (some FieldType.boolean) 4 85 mkI [.ref a0, .int v1, .int v2] σ (0, 0) Q := by
  refine y_ctrN (lv := [(0, va_rf (some a0)), (1, .int v1), (2, .int v2)]) (by decide) (by (exact Nat.le_of_ble_eq_true rfl)) (by (exact rfl)) (fun g hg hgL hgD hrm hgN hgI hend => ?_)
  subst hgD
  clear hgL
  unfold P_X10_below at h
  have J36 : ∀ (v2 : Int32) (v3 : Option Nat) (σ : Sg), P_X10_below_B36 a0 v2 v3 σ Q → XA g 36 [(0, va_rf (some a0)), (2, .int v2), (3, va_rf v3)] [] σ (0, 0) := by
    intro v2 v3 σ h
    unfold P_X10_below_B36 at h
    refine y_aload_n hg 2 dX10_below_36 rfl rfl ?_
    refine y_iload_n hg 1 dX10_below_37 rfl rfl ?_
    obtain ⟨c13, h14, h⟩ := h
    obtain ⟨h15, h⟩ := h
    refine y_putI hg fw_X10_104 (fun z => nomatch z) h14 h15 dX10_below_38 ?_
    refine y_nmS (fun σ16 e17 => ?_)
    replace h := h σ16 e17
    have E18 : sK σ16 = sK σ := by rw [e17]; rfl
    refine y_iconst (v := 1) hg dX10_below_41 (by decide) ?_
    exact yEndI hend (bz_nar (Or.inr rfl)).1 dX10_below_42 h
  refine y_aload_n hg 0 dX10_below_0 rfl rfl ?_
  refine y_iload_n hg 1 dX10_below_1 rfl rfl ?_
  obtain ⟨h1, h⟩ := h
  refine yVRP (Qp := _) (rest := []) (As := [.int v1]) hg (k_X10_cornerAt (gL g.1) (gD g.1) a0 v1 σ _ h) lv_X10_100 rfl h1 rfl rfl dX10_below_2 (cat8 (Nat.le_of_ble_eq_true rfl)) hrm ⟨Nat.le_of_ble_eq_true rfl, Nat.le_of_ble_eq_true rfl⟩ (fun r2 h => ?_)
  refine y_astore_n (lv' := [(3, va_rf r2), (0, va_rf (some a0)), (1, .int v1), (2, .int v2)]) hg dX10_below_5 rfl (by rw [hgN]; decide) rfl ?_
  refine y_aload_n hg 0 dX10_below_6 rfl rfl ?_
  refine y_ifnull (tgt := 34) hg dX10_below_7 (by decide) (fun h4 => ?_) (fun c3 h5 => ?_)
  · replace h := h.1 h4
    refine y_iconst (v := 0) hg dX10_below_34 (by decide) ?_
    exact yEndI hend (bz_nar (Or.inl rfl)).1 dX10_below_35 h
  · replace h := h.2 c3 h5
    refine y_iload_n hg 3 dX10_below_10 rfl rfl ?_
    refine y_iconst (v := (-1)) hg dX10_below_11 (by decide) ?_
    refine y_icmp_eq (tgt := 36) hg dX10_below_12 (by decide) (fun q6 => ?_) (fun q6 => ?_)
    · replace h := h.1 q6
      refine y_sub [1, 3, 0] rfl ?_
      exact J36 _ _ _ h
    · replace h := h.2 q6
      refine y_iload_n hg 3 dX10_below_15 rfl rfl ?_
      refine y_iload_n hg 2 dX10_below_16 rfl rfl ?_
      refine y_iconst (v := 1) hg dX10_below_17 (by decide) ?_
      refine y_iadd hg dX10_below_18 ?_
      refine y_aload_n hg 1 dX10_below_19 rfl rfl ?_
      refine y_getR hg fl_X10_10 rfl rfl h1 dX10_below_20 ?_
      obtain ⟨c7, h8, h⟩ := h
      obtain ⟨h9, h⟩ := h
      refine yVIP (Qp := _) (rest := [.int (v1 + 1), .int v2]) (As := []) hg (k_Jx4a65c_size_8abf5 (gL g.1) (gD g.1) c7 σ _ h) lv_X10_87 h8 h9 rfl rfl dX10_below_23 (cat8 (Nat.le_of_ble_eq_true rfl)) hrm ⟨Nat.le_of_ble_eq_true rfl, Nat.le_of_ble_eq_true rfl⟩ (fun x10 h => ?_)
      refine y_iconst (v := 1) hg dX10_below_26 (by decide) ?_
      refine y_isub hg dX10_below_27 ?_
      refine ySIP (Qp := _) (rest := []) (As := [.int v2, .int (v1 + 1), .int (x10 - 1)]) hg (k_X10_within (gL g.1) (gD g.1) v2 (v1 + 1) (x10 - 1) σ _ h) ls_X10_83 rfl rfl dX10_below_28 (cat8 (Nat.le_of_ble_eq_true rfl)) hrm ⟨Nat.le_of_ble_eq_true rfl, Nat.le_of_ble_eq_true rfl⟩ (fun x11 h => ?_)
      refine y_if_ne (tgt := 36) hg dX10_below_31 (by decide) (fun q12 => ?_) (fun q12 => ?_)
      · replace h := h.2 q12
        refine y_sub [1, 3, 0] rfl ?_
        exact J36 _ _ _ h
      · replace h := h.1 q12
        refine y_iconst (v := 0) hg dX10_below_34 (by decide) ?_
        exact yEndI hend (bz_nar (Or.inl rfl)).1 dX10_below_35 h
def P_X10_roof_B45 (a0 : Nat) (v1 : Int32) (v2 : Int32) (v3 : Int32) (v4 : Int32) (w0 : Int32) (σ : Sg) (b : Nat × Nat) (Q : Int32 → Sg → Prop) : Prop :=
  (w0 = 0 → Q (-1) σ) ∧ (¬ (w0 = 0) → sK σ a0 % 32 = 12 ∧ ∃ c14 : Nat, sR σ a0 1 = some c14 ∧ sK σ c14 % 32 = 1 ∧ P_Jx4a65c_size_8abf5 c14 σ (fun x17 => (x17 < 30 → ∃ κ19 q23 : Nat, κ19 % 32 = 8 ∧ 1 ≤ b.1 ∧ 7 ≤ b.2 ∧ sK σ q23 = 0 ∧ 1000 ≤ q23 ∧ (∀ z, sR σ a0 1 = some z → ¬ sK σ z = 0) ∧ ∀ σ27 : Sg, σ27 = nw σ q23 κ19 0 → P_X6_init q23 v1 v2 v3 v4 σ27 (fun _ σ31 => ∃ c35 : Nat, sR σ a0 1 = some c35 ∧ sK σ31 c35 % 32 = 1 ∧ ∃ bc40 : Nat × Nat, bc40.1 ≤ b.1 - 1 ∧ bc40.2 ≤ b.2 - 7 ∧ P_Jx4a65c_add_9ea2d c35 (some q23) σ31 bc40 (fun x38 σ39 => ∃ c45 : Nat, sR σ39 a0 1 = some c45 ∧ sK σ39 c45 % 32 = 1 ∧ P_Jx4a65c_size_8abf5 c45 σ39 (fun x48 => Q (x48 - 1) σ39)))) ∧ (¬ (x17 < 30) → Q (-1) σ)))
def P_X10_roof_B44 (a0 : Nat) (v1 : Int32) (v2 : Int32) (v3 : Int32) (v4 : Int32) (σ : Sg) (b : Nat × Nat) (Q : Int32 → Sg → Prop) : Prop :=
  P_X10_roof_B45 a0 v1 v2 v3 v4 0 σ (b.1, b.2) Q
def P_X10_roof (a0 : Nat) (v1 : Int32) (v2 : Int32) (v3 : Int32) (v4 : Int32) (σ : Sg) (b : Nat × Nat) (Q : Int32 → Sg → Prop) : Prop :=
  sK σ a0 % 32 = 12 ∧ P_X10_cornerAt a0 v1 σ (fun r2 => (r2 = none → P_X10_roof_B44 a0 v1 v2 v3 v4 σ (b.1, b.2) Q) ∧ (∀ c3 : Nat, r2 = some c3 → P_X10_within v2 0 19 σ (fun x6 => (x6 = 0 → P_X10_roof_B44 a0 v1 v2 v3 v4 σ (b.1, b.2) Q) ∧ (¬ (x6 = 0) → P_X10_within v3 1 50 σ (fun x8 => (x8 = 0 → P_X10_roof_B44 a0 v1 v2 v3 v4 σ (b.1, b.2) Q) ∧ (¬ (x8 = 0) → P_X10_within v4 0 200 σ (fun x10 => (x10 = 0 → P_X10_roof_B44 a0 v1 v2 v3 v4 σ (b.1, b.2) Q) ∧ (¬ (x10 = 0) → P_X10_roof_B45 a0 v1 v2 v3 v4 1 σ (b.1, b.2) Q))))))))
set_option maxHeartbeats 4000000 in
set_option maxRecDepth 100000 in
theorem k_X10_roof (l : Launch) (D : Dg) (a0 : Nat) (v1 : Int32) (v2 : Int32) (v3 : Int32) (v4 : Int32) (σ : Sg) (b : Nat × Nat) (Q : Int32 → Sg → Prop) (h : P_X10_roof a0 v1 v2 v3 v4 σ b Q) : CtrY RA l D yX10_roof cX10_roof 6 (some FieldType.int) 7 171 mkI [.ref a0, .int v1, .int v2, .int v3, .int v4] σ b Q := by
  refine y_ctrA (lv := [(0, va_rf (some a0)), (1, .int v1), (2, .int v2), (3, .int v3), (4, .int v4)]) (by decide) (by (exact Nat.le_of_ble_eq_true rfl)) (by (exact rfl)) (fun g hg hgL hgD hrm hgN hgI hend hal => ?_)
  subst hgD
  clear hgL
  unfold P_X10_roof at h
  have J45 : ∀ (v1 : Int32) (v2 : Int32) (v3 : Int32) (v4 : Int32) (w0 : Int32) (σ : Sg) (b : Nat × Nat), P_X10_roof_B45 a0 v1 v2 v3 v4 w0 σ b Q → XA g 45 [(0, va_rf (some a0)), (1, .int v1), (2, .int v2), (3, .int v3), (4, .int v4)] [.int w0] σ b := by
    intro v1 v2 v3 v4 w0 σ b h
    unfold P_X10_roof_B45 at h
    refine y_istore (lv' := [(5, .int w0), (0, va_rf (some a0)), (1, .int v1), (2, .int v2), (3, .int v3), (4, .int v4)]) hg dX10_roof_45 (by rw [hgN]; decide) rfl ?_
    refine y_iload hg 0 dX10_roof_47 rfl ?_
    refine y_if_eq (tgt := 64) hg dX10_roof_49 (by decide) (fun q12 => ?_) (fun q12 => ?_)
    · replace h := h.1 q12
      refine y_iconst (v := (-1)) hg dX10_roof_64 (by decide) ?_
      exact yEndI hend rfl dX10_roof_65 h
    · replace h := h.2 q12
      refine y_aload_n hg 1 dX10_roof_52 rfl rfl ?_
      obtain ⟨h13, h⟩ := h
      refine y_getR hg fl_X10_16 rfl rfl h13 dX10_roof_53 ?_
      obtain ⟨c14, h15, h⟩ := h
      obtain ⟨h16, h⟩ := h
      refine yVIP (Qp := _) (rest := []) (As := []) hg (k_Jx4a65c_size_8abf5 (gL g.1) (gD g.1) c14 σ _ h) lv_X10_87 h15 h16 rfl rfl dX10_roof_56 (cat8 (Nat.le_of_ble_eq_true rfl)) hrm ⟨Nat.le_of_ble_eq_true rfl, Nat.le_of_ble_eq_true rfl⟩ (fun x17 h => ?_)
      refine y_bipush (v := 30) hg dX10_roof_59 (by decide) ?_
      refine y_icmp_lt (tgt := 66) hg dX10_roof_61 (by decide) (fun q18 => ?_) (fun q18 => ?_)
      · replace h := h.1 q18
        refine y_aload_n hg 1 dX10_roof_66 rfl rfl ?_
        refine y_getR hg fl_X10_16 rfl rfl h13 dX10_roof_67 ?_
        obtain ⟨κ19, q23, h20, h21, h22, h24, h25, h⟩ := h
        refine y_sub [1, 2, 3, 4, 5] rfl ?_
        obtain ⟨h26, h⟩ := h
        refine y_new hg hal nl_X10_107 h20 h21 h22 h24 h25 (rll_c (lk_k rfl h13 (by decide)) (rll_c (lk_i _) (rll_c (lk_i _) (rll_c (lk_i _) (rll_c (lk_i _) rll_nil))))) (rl_c (lk_r h26) rl_nil) dX10_roof_70 ?_
        refine y_nmS (fun σ27 e28 => ?_)
        replace h := h σ27 e28
        refine y_dup hg dX10_roof_73 rfl ?_
        refine y_iload_n hg 1 dX10_roof_74 rfl rfl ?_
        refine y_iload_n hg 2 dX10_roof_75 rfl rfl ?_
        refine y_iload_n hg 3 dX10_roof_76 rfl rfl ?_
        refine y_iload hg 4 dX10_roof_77 rfl ?_
        refine yIVW (Qm := _) (rest := [va_rf (some q23), va_rf (sR σ a0 1)]) (As := [.int v1, .int v2, .int v3, .int v4]) hg (k_X6_init (gL g.1) (gD g.1) q23 v1 v2 v3 v4 σ27 _ h) li_X10_109 rfl rfl rfl dX10_roof_79 (cat8 (Nat.le_of_ble_eq_true rfl)) hrm ⟨Nat.le_of_ble_eq_true rfl, Nat.le_of_ble_eq_true rfl⟩ (fun u30 σ31 h h32 => ?_)
        have h33 := kp h32 (show ¬ 12 = 0 by decide) (kw e28 h24 (by decide) h13)
        have h34 := kp h32 (show ¬ 8 = 0 by decide) (kn e28 h20)
        obtain ⟨c35, h36, h⟩ := h
        obtain ⟨h37, h⟩ := h
        obtain ⟨bc40, h41, h42, h⟩ := h
        refine y_sub [0] rfl ?_
        refine yVIA (Qm := _) (rest := []) (As := [va_rf (some q23)]) hg hal (k_Jx4a65c_add_9ea2d (gL g.1) (gD g.1) c35 (some q23) σ31 bc40 _ h) lv_X10_96 h36 h37 rfl rfl dX10_roof_82 (cat8 (Nat.le_of_ble_eq_true rfl)) hrm ⟨Nat.le_of_ble_eq_true rfl, Nat.le_of_ble_eq_true rfl⟩ h41 h42 (rll_c (lk_k rfl h33 (by decide)) rll_nil) rl_nil (fun x38 σ39 h h43 => ?_)
        have h44 := kp h43 (show ¬ 12 = 0 by decide) h33
        refine y_pop hg dX10_roof_85 rfl ?_
        refine y_aload_n hg 0 dX10_roof_86 rfl rfl ?_
        refine y_getR hg fl_X10_16 rfl rfl h44 dX10_roof_87 ?_
        obtain ⟨c45, h46, h⟩ := h
        obtain ⟨h47, h⟩ := h
        refine yVIP (Qp := _) (rest := []) (As := []) hg (k_Jx4a65c_size_8abf5 (gL g.1) (gD g.1) c45 σ39 _ h) lv_X10_87 h46 h47 rfl rfl dX10_roof_90 (cat8 (Nat.le_of_ble_eq_true rfl)) hrm ⟨Nat.le_of_ble_eq_true rfl, Nat.le_of_ble_eq_true rfl⟩ (fun x48 h => ?_)
        refine y_iconst (v := 1) hg dX10_roof_93 (by decide) ?_
        refine y_isub hg dX10_roof_94 ?_
        exact yEndI hend rfl dX10_roof_95 h
      · replace h := h.2 q18
        refine y_iconst (v := (-1)) hg dX10_roof_64 (by decide) ?_
        exact yEndI hend rfl dX10_roof_65 h
  have J44 : ∀ (v1 : Int32) (v2 : Int32) (v3 : Int32) (v4 : Int32) (σ : Sg) (b : Nat × Nat), P_X10_roof_B44 a0 v1 v2 v3 v4 σ b Q → XA g 44 [(0, va_rf (some a0)), (1, .int v1), (2, .int v2), (3, .int v3), (4, .int v4)] [] σ b := by
    intro v1 v2 v3 v4 σ b h
    unfold P_X10_roof_B44 at h
    refine y_iconst (v := 0) hg dX10_roof_44 (by decide) ?_
    refine y_sub [0, 1, 2, 3, 4] rfl ?_
    exact J45 _ _ _ _ _ _ _ h
  refine y_aload_n hg 0 dX10_roof_0 rfl rfl ?_
  refine y_iload_n hg 1 dX10_roof_1 rfl rfl ?_
  obtain ⟨h1, h⟩ := h
  refine yVRP (Qp := _) (rest := []) (As := [.int v1]) hg (k_X10_cornerAt (gL g.1) (gD g.1) a0 v1 σ _ h) lv_X10_100 rfl h1 rfl rfl dX10_roof_2 (cat8 (Nat.le_of_ble_eq_true rfl)) hrm ⟨Nat.le_of_ble_eq_true rfl, Nat.le_of_ble_eq_true rfl⟩ (fun r2 h => ?_)
  refine y_ifnull (tgt := 44) hg dX10_roof_5 (by decide) (fun h4 => ?_) (fun c3 h5 => ?_)
  · replace h := h.1 h4
    refine y_sub [0, 1, 2, 3, 4] rfl ?_
    exact J44 _ _ _ _ _ _ h
  · replace h := h.2 c3 h5
    refine y_iload_n hg 2 dX10_roof_8 rfl rfl ?_
    refine y_iconst (v := 0) hg dX10_roof_9 (by decide) ?_
    refine y_bipush (v := 19) hg dX10_roof_10 (by decide) ?_
    refine ySIP (Qp := _) (rest := []) (As := [.int v2, .int 0, .int 19]) hg (k_X10_within (gL g.1) (gD g.1) v2 0 19 σ _ h) ls_X10_83 rfl rfl dX10_roof_12 (cat8 (Nat.le_of_ble_eq_true rfl)) hrm ⟨Nat.le_of_ble_eq_true rfl, Nat.le_of_ble_eq_true rfl⟩ (fun x6 h => ?_)
    refine y_if_eq (tgt := 44) hg dX10_roof_15 (by decide) (fun q7 => ?_) (fun q7 => ?_)
    · replace h := h.1 q7
      refine y_sub [0, 1, 2, 3, 4] rfl ?_
      exact J44 _ _ _ _ _ _ h
    · replace h := h.2 q7
      refine y_iload_n hg 3 dX10_roof_18 rfl rfl ?_
      refine y_iconst (v := 1) hg dX10_roof_19 (by decide) ?_
      refine y_bipush (v := 50) hg dX10_roof_20 (by decide) ?_
      refine ySIP (Qp := _) (rest := []) (As := [.int v3, .int 1, .int 50]) hg (k_X10_within (gL g.1) (gD g.1) v3 1 50 σ _ h) ls_X10_83 rfl rfl dX10_roof_22 (cat8 (Nat.le_of_ble_eq_true rfl)) hrm ⟨Nat.le_of_ble_eq_true rfl, Nat.le_of_ble_eq_true rfl⟩ (fun x8 h => ?_)
      refine y_if_eq (tgt := 44) hg dX10_roof_25 (by decide) (fun q9 => ?_) (fun q9 => ?_)
      · replace h := h.1 q9
        refine y_sub [0, 1, 2, 3, 4] rfl ?_
        exact J44 _ _ _ _ _ _ h
      · replace h := h.2 q9
        refine y_iload hg 4 dX10_roof_28 rfl ?_
        refine y_iconst (v := 0) hg dX10_roof_30 (by decide) ?_
        refine y_sipush (v := 200) hg dX10_roof_31 (by decide) ?_
        refine ySIP (Qp := _) (rest := []) (As := [.int v4, .int 0, .int 200]) hg (k_X10_within (gL g.1) (gD g.1) v4 0 200 σ _ h) ls_X10_83 rfl rfl dX10_roof_34 (cat8 (Nat.le_of_ble_eq_true rfl)) hrm ⟨Nat.le_of_ble_eq_true rfl, Nat.le_of_ble_eq_true rfl⟩ (fun x10 h => ?_)
        refine y_if_eq (tgt := 44) hg dX10_roof_37 (by decide) (fun q11 => ?_) (fun q11 => ?_)
        · replace h := h.1 q11
          refine y_sub [0, 1, 2, 3, 4] rfl ?_
          exact J44 _ _ _ _ _ _ h
        · replace h := h.2 q11
          refine y_iconst (v := 1) hg dX10_roof_40 (by decide) ?_
          refine y_goto (tgt := 45) hg dX10_roof_41 (by decide) ?_
          refine y_sub [0, 1, 2, 3, 4] rfl ?_
          exact J45 _ _ _ _ _ _ _ h
def P_X10_lot (a0 : Nat) (v1 : Int32) (v2 : Int32) (σ : Sg) (Q : Int32 → Sg → Prop) : Prop :=
  P_X10_within v1 0 9 σ (fun x1 => (x1 = 0 → Q 0 σ) ∧ (¬ (x1 = 0) → P_X10_within v2 1 100 σ (fun x3 => (x3 = 0 → Q 0 σ) ∧ (¬ (x3 = 0) → sK σ a0 % 32 = 12 ∧ ∃ c6 : Nat, sR σ a0 8 = some c6 ∧ sK σ c6 % 32 = 16 ∧ vp_in v1 (sN σ c6) ∧ ∀ σ10 : Sg, σ10 = pI σ c6 v1.toNatClampNeg v2 → Q 1 σ10))))
set_option maxHeartbeats 4000000 in
set_option maxRecDepth 100000 in
theorem k_X10_lot (l : Launch) (D : Dg) (a0 : Nat) (v1 : Int32) (v2 : Int32) (σ : Sg) (Q : Int32 → Sg → Prop) (h : P_X10_lot a0 v1 v2 σ Q) : CtrY RN l D yX10_lot cX10_lot 3 (some FieldType.boolean) 1 22 mkI [.ref a0, .int v1, .int v2] σ (0, 0) Q := by
  refine y_ctrN (lv := [(0, va_rf (some a0)), (1, .int v1), (2, .int v2)]) (by decide) (by (exact Nat.le_of_ble_eq_true rfl)) (by (exact rfl)) (fun g hg hgL hgD hrm hgN hgI hend => ?_)
  subst hgD
  clear hgL
  unfold P_X10_lot at h
  refine y_iload_n hg 1 dX10_lot_0 rfl rfl ?_
  refine y_iconst (v := 0) hg dX10_lot_1 (by decide) ?_
  refine y_bipush (v := 9) hg dX10_lot_2 (by decide) ?_
  refine ySIP (Qp := _) (rest := []) (As := [.int v1, .int 0, .int 9]) hg (k_X10_within (gL g.1) (gD g.1) v1 0 9 σ _ h) ls_X10_83 rfl rfl dX10_lot_4 (cat8 (Nat.le_of_ble_eq_true rfl)) hrm ⟨Nat.le_of_ble_eq_true rfl, Nat.le_of_ble_eq_true rfl⟩ (fun x1 h => ?_)
  refine y_if_eq (tgt := 20) hg dX10_lot_7 (by decide) (fun q2 => ?_) (fun q2 => ?_)
  · replace h := h.1 q2
    refine y_iconst (v := 0) hg dX10_lot_20 (by decide) ?_
    exact yEndI hend (bz_nar (Or.inl rfl)).1 dX10_lot_21 h
  · replace h := h.2 q2
    refine y_iload_n hg 2 dX10_lot_10 rfl rfl ?_
    refine y_iconst (v := 1) hg dX10_lot_11 (by decide) ?_
    refine y_bipush (v := 100) hg dX10_lot_12 (by decide) ?_
    refine ySIP (Qp := _) (rest := []) (As := [.int v2, .int 1, .int 100]) hg (k_X10_within (gL g.1) (gD g.1) v2 1 100 σ _ h) ls_X10_83 rfl rfl dX10_lot_14 (cat8 (Nat.le_of_ble_eq_true rfl)) hrm ⟨Nat.le_of_ble_eq_true rfl, Nat.le_of_ble_eq_true rfl⟩ (fun x3 h => ?_)
    refine y_if_ne (tgt := 22) hg dX10_lot_17 (by decide) (fun q4 => ?_) (fun q4 => ?_)
    · replace h := h.2 q4
      refine y_aload_n hg 0 dX10_lot_22 rfl rfl ?_
      obtain ⟨h5, h⟩ := h
      refine y_getR hg fl_X10_51 rfl rfl h5 dX10_lot_23 ?_
      refine y_iload_n hg 1 dX10_lot_26 rfl rfl ?_
      refine y_iload_n hg 2 dX10_lot_27 rfl rfl ?_
      obtain ⟨c6, h7, h⟩ := h
      obtain ⟨h8, h⟩ := h
      obtain ⟨h9, h⟩ := h
      refine y_iast hg h7 h8 h9 dX10_lot_28 ?_
      refine y_nmS (fun σ10 e11 => ?_)
      replace h := h σ10 e11
      have E12 : sK σ10 = sK σ := by rw [e11]; rfl
      refine y_iconst (v := 1) hg dX10_lot_29 (by decide) ?_
      exact yEndI hend (bz_nar (Or.inr rfl)).1 dX10_lot_30 h
    · replace h := h.1 q4
      refine y_iconst (v := 0) hg dX10_lot_20 (by decide) ?_
      exact yEndI hend (bz_nar (Or.inl rfl)).1 dX10_lot_21 h
def P_X10_parkingWith_B52 (a0 : Nat) (v1 : Int32) (v2 : Int32) (v3 : Int32) (σ : Sg) (Q : Int32 → Prop) (K4 : Int32 → Int32 → Prop) : Prop :=
  ∀ x24 : Int32, x24 = v3 + 1 → K4 v2 x24
def P_X10_parkingWith_B44 (a0 : Nat) (v1 : Int32) (v2 : Int32) (v3 : Int32) (v4 : Option Nat) (σ : Sg) (Q : Int32 → Prop) (K4 : Int32 → Int32 → Prop) : Prop :=
  ∃ c19 : Nat, v4 = some c19 ∧ sK σ c19 % 32 = 4 ∧ ∀ x22 : Int32, x22 = v2 + (sI σ c19 2) → P_X10_parkingWith_B52 a0 v1 x22 v3 σ Q K4
def P_X10_parkingWith_L4b (a0 : Nat) (v1 : Int32) (v2 : Int32) (v3 : Int32) (σ : Sg) (Q : Int32 → Prop) (K4 : Int32 → Int32 → Prop) : Prop :=
  sK σ a0 % 32 = 12 ∧ ∃ c2 : Nat, sR σ a0 0 = some c2 ∧ sK σ c2 % 32 = 1 ∧ P_Jx4a65c_size_8abf5 c2 σ (fun x5 => (x5 ≤ v3 → Q v2) ∧ (¬ (x5 ≤ v3) → ∃ c7 : Nat, sR σ a0 0 = some c7 ∧ sK σ c7 % 32 = 1 ∧ P_Jx4a65c_get_915e3 c7 v3 σ (fun r10 => ∃ c11 : Nat, r10 = some c11 ∧ sK σ c11 % 32 = 4 ∧ (sR σ c11 5 = none → P_X10_holds v1 v3 σ (fun x17 => (x17 = 0 → P_X10_parkingWith_B52 a0 v1 v2 v3 σ Q K4) ∧ (¬ (x17 = 0) → P_X10_parkingWith_B44 a0 v1 v2 v3 r10 σ Q K4))) ∧ (∀ c14 : Nat, sR σ c11 5 = some c14 → P_X10_parkingWith_B44 a0 v1 v2 v3 r10 σ Q K4))))
def P_X10_parkingWith_L4 (a0 : Nat) (v1 : Int32) (v2 : Int32) (v3 : Int32) (σ : Sg) (Q : Int32 → Prop) : Prop :=
  ∃ I : Nat → Int32 → Int32 → Prop, (∃ n, I n v2 v3) ∧ ∀ (n : Nat) (v2 : Int32) (v3 : Int32), I n v2 v3 → P_X10_parkingWith_L4b a0 v1 v2 v3 σ Q (fun v2 v3 => ∃ n', n' < n ∧ I n' v2 v3)
def P_X10_parkingWith (a0 : Nat) (v1 : Int32) (σ : Sg) (Q : Int32 → Prop) : Prop :=
  P_X10_parkingWith_L4 a0 v1 0 0 σ Q
set_option maxHeartbeats 4000000 in
set_option maxRecDepth 100000 in
theorem k_X10_parkingWith (l : Launch) (D : Dg) (a0 : Nat) (v1 : Int32) (σ : Sg) (Q : Int32 → Prop) (h : P_X10_parkingWith a0 v1 σ Q) : CtrY RN l D yX10_parkingWith cX10_parkingWith 5 (some FieldType.int) 3 64 mkI [.ref a0, .int v1] σ (0, 0) (fun r σ2 => Q r ∧ σ2 = σ) := by
  refine y_ctrN (lv := [(0, va_rf (some a0)), (1, .int v1)]) (by decide) (by (exact Nat.le_of_ble_eq_true rfl)) (by (exact rfl)) (fun g hg hgL hgD hrm hgN hgI hend => ?_)
  subst hgD
  clear hgL
  unfold P_X10_parkingWith at h
  have J4 : ∀ (v1 : Int32) (v2 : Int32) (v3 : Int32), P_X10_parkingWith_L4 a0 v1 v2 v3 σ Q → XA g 4 [(0, va_rf (some a0)), (1, .int v1), (2, .int v2), (3, .int v3)] [] σ (0, 0) := by
    intro v1 v2 v3 h
    unfold P_X10_parkingWith_L4 at h
    obtain ⟨I4, ⟨n4, hI4⟩, hs4⟩ := h
    have key4 : ∀ (n : Nat), ∀ (v2 : Int32) (v3 : Int32), I4 n v2 v3 → XA g 4 [(0, va_rf (some a0)), (1, .int v1), (2, .int v2), (3, .int v3)] [] σ (0, 0) := by
      intro n
      induction n using Nat.strongRecOn with
      | _ n ih4 =>
      intro v2 v3 hI
      have h := hs4 n v2 v3 hI
      clear hI hI4 hs4
      obtain ⟨K4, hK4⟩ : ∃ K : Int32 → Int32 → Prop, K = (fun v2 v3 => ∃ n', n' < n ∧ I4 n' v2 v3) := ⟨_, rfl⟩
      rw [← hK4] at h
      unfold P_X10_parkingWith_L4b at h
      have J52 : ∀ (v2 : Int32) (v3 : Int32), P_X10_parkingWith_B52 a0 v1 v2 v3 σ Q K4 → XA g 52 [(0, va_rf (some a0)), (1, .int v1), (2, .int v2), (3, .int v3)] [] σ (0, 0) := by
        intro v2 v3 h
        unfold P_X10_parkingWith_B52 at h
        obtain ⟨x24, e25⟩ : ∃ y : Int32, y = v3 + 1 := ⟨_, rfl⟩
        replace h := h x24 e25
        refine y_iinc (v := x24) (lv' := [(3, .int x24), (0, va_rf (some a0)), (1, .int v1), (2, .int v2)]) hg 3 dX10_parkingWith_52 rfl (by rw [e25]; rfl) (by rw [hgN]; decide) rfl ?_
        refine y_goto (tgt := 4) hg dX10_parkingWith_55 (by decide) ?_
        refine y_sub [1, 2, 3, 0] rfl ?_
        subst hK4
        obtain ⟨n26, h27, h⟩ := h
        exact ih4 n26 h27 _ _ h
      have J44 : ∀ (v2 : Int32) (v3 : Int32) (v4 : Option Nat), P_X10_parkingWith_B44 a0 v1 v2 v3 v4 σ Q K4 → XA g 44 [(0, va_rf (some a0)), (1, .int v1), (2, .int v2), (3, .int v3), (4, va_rf v4)] [] σ (0, 0) := by
        intro v2 v3 v4 h
        unfold P_X10_parkingWith_B44 at h
        refine y_iload_n hg 2 dX10_parkingWith_44 rfl rfl ?_
        refine y_aload hg 4 dX10_parkingWith_45 rfl ?_
        obtain ⟨c19, h20, h⟩ := h
        obtain ⟨h21, h⟩ := h
        refine y_getI hg fl_X10_117 rfl h20 h21 dX10_parkingWith_47 ?_
        refine y_iadd hg dX10_parkingWith_50 ?_
        refine y_nmI (fun x22 e23 => ?_)
        replace h := h x22 e23
        refine y_istore_n (lv' := [(2, .int x22), (0, va_rf (some a0)), (1, .int v1), (3, .int v3), (4, va_rf v4)]) hg dX10_parkingWith_51 rfl (by rw [hgN]; decide) rfl ?_
        refine y_sub [1, 2, 0, 3] rfl ?_
        exact J52 _ _ h
      refine y_iload_n hg 3 dX10_parkingWith_4 rfl rfl ?_
      refine y_aload_n hg 0 dX10_parkingWith_5 rfl rfl ?_
      obtain ⟨h1, h⟩ := h
      refine y_getR hg fl_X10_10 rfl rfl h1 dX10_parkingWith_6 ?_
      obtain ⟨c2, h3, h⟩ := h
      obtain ⟨h4, h⟩ := h
      refine yVIP (Qp := _) (rest := [.int v3]) (As := []) hg (k_Jx4a65c_size_8abf5 (gL g.1) (gD g.1) c2 σ _ h) lv_X10_87 h3 h4 rfl rfl dX10_parkingWith_9 (cat8 (Nat.le_of_ble_eq_true rfl)) hrm ⟨Nat.le_of_ble_eq_true rfl, Nat.le_of_ble_eq_true rfl⟩ (fun x5 h => ?_)
      refine y_icmp_ge (tgt := 58) hg dX10_parkingWith_12 (by decide) (fun q6 => ?_) (fun q6 => ?_)
      · replace h := h.1 q6
        refine y_iload_n hg 2 dX10_parkingWith_58 rfl rfl ?_
        exact yEndI hend rfl dX10_parkingWith_59 ⟨h, rfl⟩
      · replace h := h.2 q6
        refine y_aload_n hg 0 dX10_parkingWith_15 rfl rfl ?_
        refine y_getR hg fl_X10_10 rfl rfl h1 dX10_parkingWith_16 ?_
        refine y_iload_n hg 3 dX10_parkingWith_19 rfl rfl ?_
        obtain ⟨c7, h8, h⟩ := h
        obtain ⟨h9, h⟩ := h
        refine yVRP (Qp := _) (rest := []) (As := [.int v3]) hg (k_Jx4a65c_get_915e3 (gL g.1) (gD g.1) c7 v3 σ _ h) lv_X10_232 h8 h9 rfl rfl dX10_parkingWith_20 (cat8 (Nat.le_of_ble_eq_true rfl)) hrm ⟨Nat.le_of_ble_eq_true rfl, Nat.le_of_ble_eq_true rfl⟩ (fun r10 h => ?_)
        obtain ⟨c11, h12, h⟩ := h
        obtain ⟨h13, h⟩ := h
        refine y_cast (c := 4) hg (C := RX2) rfl (by decide) cl_X10_91 h12 h13 dX10_parkingWith_23 ?_
        refine y_astore (lv' := [(4, va_rf r10), (0, va_rf (some a0)), (1, .int v1), (2, .int v2), (3, .int v3)]) hg dX10_parkingWith_26 (by rw [hgN]; decide) rfl ?_
        refine y_aload hg 0 dX10_parkingWith_28 rfl ?_
        refine y_getR hg fl_X10_110 rfl h12 h13 dX10_parkingWith_30 ?_
        refine y_ifnonnull (tgt := 44) hg dX10_parkingWith_33 (by decide) (fun c14 h16 => ?_) (fun h15 => ?_)
        · replace h := h.2 c14 h16
          refine y_sub [1, 2, 3, 4, 0] rfl ?_
          exact J44 _ _ _ h
        · replace h := h.1 h15
          refine y_iload_n hg 2 dX10_parkingWith_36 rfl rfl ?_
          refine y_iload_n hg 4 dX10_parkingWith_37 rfl rfl ?_
          refine ySIP (Qp := _) (rest := []) (As := [.int v1, .int v3]) hg (k_X10_holds (gL g.1) (gD g.1) v1 v3 σ _ h) ls_X10_239 rfl rfl dX10_parkingWith_38 (cat8 (Nat.le_of_ble_eq_true rfl)) hrm ⟨Nat.le_of_ble_eq_true rfl, Nat.le_of_ble_eq_true rfl⟩ (fun x17 h => ?_)
          refine y_if_eq (tgt := 52) hg dX10_parkingWith_41 (by decide) (fun q18 => ?_) (fun q18 => ?_)
          · replace h := h.1 q18
            refine y_sub [1, 2, 3, 4] rfl ?_
            exact J52 _ _ h
          · replace h := h.2 q18
            refine y_sub [1, 2, 3, 4, 0] rfl ?_
            exact J44 _ _ _ h
    exact key4 n4 v2 v3 hI4
  refine y_iconst (v := 0) hg dX10_parkingWith_0 (by decide) ?_
  refine y_istore_n (lv' := [(2, .int 0), (0, va_rf (some a0)), (1, .int v1)]) hg dX10_parkingWith_1 rfl (by rw [hgN]; decide) rfl ?_
  refine y_iconst (v := 0) hg dX10_parkingWith_2 (by decide) ?_
  refine y_istore_n (lv' := [(3, .int 0), (2, .int 0), (0, va_rf (some a0)), (1, .int v1)]) hg dX10_parkingWith_3 rfl (by rw [hgN]; decide) rfl ?_
  refine y_sub [2, 3, 1, 0] rfl ?_
  exact J4 _ _ _ h
def P_X10_parkingOfBeds (a0 : Nat) (σ : Sg) (Q : Int32 → Prop) : Prop :=
  sK σ a0 % 32 = 12 ∧ P_X10_parkingWith a0 0 σ (fun x2 => Q x2)
set_option maxHeartbeats 4000000 in
set_option maxRecDepth 100000 in
theorem k_X10_parkingOfBeds (l : Launch) (D : Dg) (a0 : Nat) (σ : Sg) (Q : Int32 → Prop) (h : P_X10_parkingOfBeds a0 σ Q) : CtrY RN l D yX10_parkingOfBeds cX10_parkingOfBeds 1 (some FieldType.int) 4 88 mkI [.ref a0] σ (0, 0) (fun r σ2 => Q r ∧ σ2 = σ) := by
  refine y_ctrN (lv := [(0, va_rf (some a0))]) (by decide) (by (exact Nat.le_of_ble_eq_true rfl)) (by (exact rfl)) (fun g hg hgL hgD hrm hgN hgI hend => ?_)
  subst hgD
  clear hgL
  unfold P_X10_parkingOfBeds at h
  refine y_aload_n hg 0 dX10_parkingOfBeds_0 rfl rfl ?_
  refine y_iconst (v := 0) hg dX10_parkingOfBeds_1 (by decide) ?_
  obtain ⟨h1, h⟩ := h
  refine yVIP (Qp := _) (rest := []) (As := [.int 0]) hg (k_X10_parkingWith (gL g.1) (gD g.1) a0 0 σ _ h) lv_X10_236 rfl h1 rfl rfl dX10_parkingOfBeds_2 (cat8 (Nat.le_of_ble_eq_true rfl)) hrm ⟨Nat.le_of_ble_eq_true rfl, Nat.le_of_ble_eq_true rfl⟩ (fun x2 h => ?_)
  exact yEndI hend rfl dX10_parkingOfBeds_5 ⟨h, rfl⟩
def P_X10_lawOn_L10b (a0 : Nat) (v1 : Int32) (v2 : Int32) (σ : Sg) (Q : Option Nat → Prop) (K10 : Int32 → Prop) : Prop :=
  (v2 < 0 → sK σ a0 % 32 = 12 ∧ Q (sR σ a0 5)) ∧ (¬ (v2 < 0) → sK σ a0 % 32 = 12 ∧ ∃ c11 : Nat, sR σ a0 4 = some c11 ∧ sK σ c11 % 32 = 1 ∧ P_Jx4a65c_get_915e3 c11 v2 σ (fun r14 => ∃ c15 : Nat, r14 = some c15 ∧ sK σ c15 % 32 = 6 ∧ (v1 < (sI σ c15 0) → ∀ x19 : Int32, x19 = v2 + (-1) → K10 x19) ∧ (¬ (v1 < (sI σ c15 0)) → ∃ c23 : Nat, sR σ a0 4 = some c23 ∧ sK σ c23 % 32 = 1 ∧ P_Jx4a65c_get_915e3 c23 v2 σ (fun r26 => ∃ c27 : Nat, r26 = some c27 ∧ sK σ c27 % 32 = 6 ∧ Q r26))))
def P_X10_lawOn_L10 (a0 : Nat) (v1 : Int32) (v2 : Int32) (σ : Sg) (Q : Option Nat → Prop) : Prop :=
  ∃ I : Nat → Int32 → Prop, (∃ n, I n v2) ∧ ∀ (n : Nat) (v2 : Int32), I n v2 → P_X10_lawOn_L10b a0 v1 v2 σ Q (fun v2 => ∃ n', n' < n ∧ I n' v2)
def P_X10_lawOn (a0 : Nat) (v1 : Int32) (σ : Sg) (Q : Option Nat → Prop) : Prop :=
  sK σ a0 % 32 = 12 ∧ ∃ c2 : Nat, sR σ a0 4 = some c2 ∧ sK σ c2 % 32 = 1 ∧ P_Jx4a65c_size_8abf5 c2 σ (fun x5 => ∀ x6 : Int32, x6 = x5 - 1 → P_X10_lawOn_L10 a0 v1 x6 σ Q)
set_option maxHeartbeats 4000000 in
set_option maxRecDepth 100000 in
theorem k_X10_lawOn (l : Launch) (D : Dg) (a0 : Nat) (v1 : Int32) (σ : Sg) (Q : Option Nat → Prop) (h : P_X10_lawOn a0 v1 σ Q) : CtrY RN l D yX10_lawOn cX10_lawOn 3 (some (FieldType.object "RainStreets$Law")) 3 64 mkR [.ref a0, .int v1] σ (0, 0) (fun r σ2 => Q r ∧ σ2 = σ) := by
  refine y_ctrN (lv := [(0, va_rf (some a0)), (1, .int v1)]) (by decide) (by (exact Nat.le_of_ble_eq_true rfl)) (by (exact rfl)) (fun g hg hgL hgD hrm hgN hgI hend => ?_)
  subst hgD
  clear hgL
  unfold P_X10_lawOn at h
  have J10 : ∀ (v1 : Int32) (v2 : Int32), P_X10_lawOn_L10 a0 v1 v2 σ Q → XA g 10 [(0, va_rf (some a0)), (1, .int v1), (2, .int v2)] [] σ (0, 0) := by
    intro v1 v2 h
    unfold P_X10_lawOn_L10 at h
    obtain ⟨I10, ⟨n10, hI10⟩, hs10⟩ := h
    have key10 : ∀ (n : Nat), ∀ (v2 : Int32), I10 n v2 → XA g 10 [(0, va_rf (some a0)), (1, .int v1), (2, .int v2)] [] σ (0, 0) := by
      intro n
      induction n using Nat.strongRecOn with
      | _ n ih10 =>
      intro v2 hI
      have h := hs10 n v2 hI
      clear hI hI10 hs10
      obtain ⟨K10, hK10⟩ : ∃ K : Int32 → Prop, K = (fun v2 => ∃ n', n' < n ∧ I10 n' v2) := ⟨_, rfl⟩
      rw [← hK10] at h
      unfold P_X10_lawOn_L10b at h
      refine y_iload_n hg 2 dX10_lawOn_10 rfl rfl ?_
      refine y_if_lt (tgt := 50) hg dX10_lawOn_11 (by decide) (fun q8 => ?_) (fun q8 => ?_)
      · replace h := h.1 q8
        refine y_aload_n hg 0 dX10_lawOn_50 rfl rfl ?_
        obtain ⟨h9, h⟩ := h
        refine y_getR hg fl_X10_33 rfl rfl h9 dX10_lawOn_51 ?_
        exact yEndR hend rfl dX10_lawOn_54 ⟨h, rfl⟩
      · replace h := h.2 q8
        refine y_aload_n hg 0 dX10_lawOn_14 rfl rfl ?_
        obtain ⟨h10, h⟩ := h
        refine y_getR hg fl_X10_25 rfl rfl h10 dX10_lawOn_15 ?_
        refine y_iload_n hg 2 dX10_lawOn_18 rfl rfl ?_
        obtain ⟨c11, h12, h⟩ := h
        obtain ⟨h13, h⟩ := h
        refine yVRP (Qp := _) (rest := []) (As := [.int v2]) hg (k_Jx4a65c_get_915e3 (gL g.1) (gD g.1) c11 v2 σ _ h) lv_X10_232 h12 h13 rfl rfl dX10_lawOn_19 (cat8 (Nat.le_of_ble_eq_true rfl)) hrm ⟨Nat.le_of_ble_eq_true rfl, Nat.le_of_ble_eq_true rfl⟩ (fun r14 h => ?_)
        obtain ⟨c15, h16, h⟩ := h
        obtain ⟨h17, h⟩ := h
        refine y_cast (c := 6) hg (C := RX4) rfl (by decide) cl_X10_28 h16 h17 dX10_lawOn_22 ?_
        refine y_getI hg fl_X10_444 rfl h16 h17 dX10_lawOn_25 ?_
        refine y_iload_n hg 1 dX10_lawOn_28 rfl rfl ?_
        refine y_icmp_gt (tgt := 44) hg dX10_lawOn_29 (by decide) (fun q18 => ?_) (fun q18 => ?_)
        · replace h := h.1 q18
          obtain ⟨x19, e20⟩ : ∃ y : Int32, y = v2 + (-1) := ⟨_, rfl⟩
          replace h := h x19 e20
          refine y_iinc (v := x19) (lv' := [(2, .int x19), (0, va_rf (some a0)), (1, .int v1)]) hg 2 dX10_lawOn_44 rfl (by rw [e20]; rfl) (by rw [hgN]; decide) rfl ?_
          refine y_goto (tgt := 10) hg dX10_lawOn_47 (by decide) ?_
          refine y_sub [1, 2, 0] rfl ?_
          subst hK10
          obtain ⟨n21, h22, h⟩ := h
          exact ih10 n21 h22 _ h
        · replace h := h.2 q18
          refine y_aload_n hg 0 dX10_lawOn_32 rfl rfl ?_
          refine y_getR hg fl_X10_25 rfl rfl h10 dX10_lawOn_33 ?_
          refine y_iload_n hg 2 dX10_lawOn_36 rfl rfl ?_
          obtain ⟨c23, h24, h⟩ := h
          obtain ⟨h25, h⟩ := h
          refine yVRP (Qp := _) (rest := []) (As := [.int v2]) hg (k_Jx4a65c_get_915e3 (gL g.1) (gD g.1) c23 v2 σ _ h) lv_X10_232 h24 h25 rfl rfl dX10_lawOn_37 (cat8 (Nat.le_of_ble_eq_true rfl)) hrm ⟨Nat.le_of_ble_eq_true rfl, Nat.le_of_ble_eq_true rfl⟩ (fun r26 h => ?_)
          obtain ⟨c27, h28, h⟩ := h
          obtain ⟨h29, h⟩ := h
          refine y_cast (c := 6) hg (C := RX4) rfl (by decide) cl_X10_28 h28 h29 dX10_lawOn_40 ?_
          exact yEndR hend rfl dX10_lawOn_43 ⟨h, rfl⟩
    exact key10 n10 v2 hI10
  refine y_aload_n hg 0 dX10_lawOn_0 rfl rfl ?_
  obtain ⟨h1, h⟩ := h
  refine y_getR hg fl_X10_25 rfl rfl h1 dX10_lawOn_1 ?_
  obtain ⟨c2, h3, h⟩ := h
  obtain ⟨h4, h⟩ := h
  refine yVIP (Qp := _) (rest := []) (As := []) hg (k_Jx4a65c_size_8abf5 (gL g.1) (gD g.1) c2 σ _ h) lv_X10_87 h3 h4 rfl rfl dX10_lawOn_4 (cat8 (Nat.le_of_ble_eq_true rfl)) hrm ⟨Nat.le_of_ble_eq_true rfl, Nat.le_of_ble_eq_true rfl⟩ (fun x5 h => ?_)
  refine y_iconst (v := 1) hg dX10_lawOn_7 (by decide) ?_
  refine y_isub hg dX10_lawOn_8 ?_
  refine y_nmI (fun x6 e7 => ?_)
  replace h := h x6 e7
  refine y_istore_n (lv' := [(2, .int x6), (0, va_rf (some a0)), (1, .int v1)]) hg dX10_lawOn_9 rfl (by rw [hgN]; decide) rfl ?_
  refine y_sub [1, 2, 0] rfl ?_
  exact J10 _ _ h
def P_X10_bed (a0 : Nat) (v1 : Int32) (v2 : Int32) (v3 : Int32) (v4 : Int32) (σ : Sg) (b : Nat × Nat) (Q : Int32 → Sg → Prop) : Prop :=
  sK σ a0 % 32 = 12 ∧ P_X10_cornerAt a0 v1 σ (fun r2 => (r2 = none → Q 0 σ) ∧ (∀ c3 : Nat, r2 = some c3 → sK σ c3 % 32 = 4 ∧ (sR σ c3 5 = none → P_X10_within v2 0 9 σ (fun x10 => (x10 = 0 → Q 0 σ) ∧ (¬ (x10 = 0) → P_X10_within v3 1 500 σ (fun x12 => (x12 = 0 → Q 0 σ) ∧ (¬ (x12 = 0) → P_X10_parkingOfBeds a0 σ (fun x14 => P_X10_lawOn a0 (sI σ a0 15) σ (fun r15 => ∃ c16 : Nat, r15 = some c16 ∧ sK σ c16 % 32 = 6 ∧ P_X4_value c16 4 σ (fun x19 => ((x14 + (sI σ c3 2)) ≤ x19 → ∃ κ21 q25 : Nat, κ21 % 32 = 2 ∧ 1 ≤ b.1 ∧ 12 ≤ b.2 ∧ sK σ q25 = 0 ∧ 1000 ≤ q25 ∧ ∀ σ28 : Sg, σ28 = nw σ q25 κ21 0 → ∃ bc33 : Nat × Nat, bc33.1 ≤ b.1 - 1 ∧ bc33.2 ≤ b.2 - 12 ∧ P_X0_init q25 v2 v3 v4 (sI σ28 a0 15) σ28 bc33 (fun _ σ32 => ∀ σ40 : Sg, σ40 = pR σ32 c3 5 (some q25) → Q 1 σ40)) ∧ (¬ ((x14 + (sI σ c3 2)) ≤ x19) → Q 0 σ))))))))) ∧ (∀ c7 : Nat, sR σ c3 5 = some c7 → Q 0 σ)))
set_option maxHeartbeats 4000000 in
set_option maxRecDepth 100000 in
theorem k_X10_bed (l : Launch) (D : Dg) (a0 : Nat) (v1 : Int32) (v2 : Int32) (v3 : Int32) (v4 : Int32) (σ : Sg) (b : Nat × Nat) (Q : Int32 → Sg → Prop) (h : P_X10_bed a0 v1 v2 v3 v4 σ b Q) : CtrY RA l D yX10_bed cX10_bed 6 (some FieldType.boolean) 5 108 mkI [.ref a0, .int v1, .int v2, .int v3, .int v4] σ b Q := by
  refine y_ctrA (lv := [(0, va_rf (some a0)), (1, .int v1), (2, .int v2), (3, .int v3), (4, .int v4)]) (by decide) (by (exact Nat.le_of_ble_eq_true rfl)) (by (exact rfl)) (fun g hg hgL hgD hrm hgN hgI hend hal => ?_)
  subst hgD
  clear hgL
  unfold P_X10_bed at h
  refine y_aload_n hg 0 dX10_bed_0 rfl rfl ?_
  refine y_iload_n hg 1 dX10_bed_1 rfl rfl ?_
  obtain ⟨h1, h⟩ := h
  refine yVRP (Qp := _) (rest := []) (As := [.int v1]) hg (k_X10_cornerAt (gL g.1) (gD g.1) a0 v1 σ _ h) lv_X10_100 rfl h1 rfl rfl dX10_bed_2 (cat8 (Nat.le_of_ble_eq_true rfl)) hrm ⟨Nat.le_of_ble_eq_true rfl, Nat.le_of_ble_eq_true rfl⟩ (fun r2 h => ?_)
  refine y_astore (lv' := [(5, va_rf r2), (0, va_rf (some a0)), (1, .int v1), (2, .int v2), (3, .int v3), (4, .int v4)]) hg dX10_bed_5 (by rw [hgN]; decide) rfl ?_
  refine y_aload hg 0 dX10_bed_7 rfl ?_
  refine y_ifnull (tgt := 41) hg dX10_bed_9 (by decide) (fun h4 => ?_) (fun c3 h5 => ?_)
  · replace h := h.1 h4
    refine y_iconst (v := 0) hg dX10_bed_41 (by decide) ?_
    exact yEndI hend (bz_nar (Or.inl rfl)).1 dX10_bed_42 h
  · replace h := h.2 c3 h5
    refine y_aload hg 0 dX10_bed_12 rfl ?_
    obtain ⟨h6, h⟩ := h
    refine y_getR hg fl_X10_110 rfl h5 h6 dX10_bed_14 ?_
    refine y_ifnonnull (tgt := 41) hg dX10_bed_17 (by decide) (fun c7 h9 => ?_) (fun h8 => ?_)
    · replace h := h.2 c7 h9
      refine y_iconst (v := 0) hg dX10_bed_41 (by decide) ?_
      exact yEndI hend (bz_nar (Or.inl rfl)).1 dX10_bed_42 h
    · replace h := h.1 h8
      refine y_iload_n hg 3 dX10_bed_20 rfl rfl ?_
      refine y_iconst (v := 0) hg dX10_bed_21 (by decide) ?_
      refine y_bipush (v := 9) hg dX10_bed_22 (by decide) ?_
      refine ySIP (Qp := _) (rest := []) (As := [.int v2, .int 0, .int 9]) hg (k_X10_within (gL g.1) (gD g.1) v2 0 9 σ _ h) ls_X10_83 rfl rfl dX10_bed_24 (cat8 (Nat.le_of_ble_eq_true rfl)) hrm ⟨Nat.le_of_ble_eq_true rfl, Nat.le_of_ble_eq_true rfl⟩ (fun x10 h => ?_)
      refine y_if_eq (tgt := 41) hg dX10_bed_27 (by decide) (fun q11 => ?_) (fun q11 => ?_)
      · replace h := h.1 q11
        refine y_iconst (v := 0) hg dX10_bed_41 (by decide) ?_
        exact yEndI hend (bz_nar (Or.inl rfl)).1 dX10_bed_42 h
      · replace h := h.2 q11
        refine y_iload_n hg 4 dX10_bed_30 rfl rfl ?_
        refine y_iconst (v := 1) hg dX10_bed_31 (by decide) ?_
        refine y_sipush (v := 500) hg dX10_bed_32 (by decide) ?_
        refine ySIP (Qp := _) (rest := []) (As := [.int v3, .int 1, .int 500]) hg (k_X10_within (gL g.1) (gD g.1) v3 1 500 σ _ h) ls_X10_83 rfl rfl dX10_bed_35 (cat8 (Nat.le_of_ble_eq_true rfl)) hrm ⟨Nat.le_of_ble_eq_true rfl, Nat.le_of_ble_eq_true rfl⟩ (fun x12 h => ?_)
        refine y_if_ne (tgt := 43) hg dX10_bed_38 (by decide) (fun q13 => ?_) (fun q13 => ?_)
        · replace h := h.2 q13
          refine y_aload_n hg 1 dX10_bed_43 rfl rfl ?_
          refine yVIP (Qp := _) (rest := []) (As := []) hg (k_X10_parkingOfBeds (gL g.1) (gD g.1) a0 σ _ h) lv_X10_114 rfl h1 rfl rfl dX10_bed_44 (cat8 (Nat.le_of_ble_eq_true rfl)) hrm ⟨Nat.le_of_ble_eq_true rfl, Nat.le_of_ble_eq_true rfl⟩ (fun x14 h => ?_)
          refine y_aload hg 0 dX10_bed_47 rfl ?_
          refine y_getI hg fl_X10_117 rfl h5 h6 dX10_bed_49 ?_
          refine y_iadd hg dX10_bed_52 ?_
          refine y_aload_n hg 1 dX10_bed_53 rfl rfl ?_
          refine y_aload_n hg 1 dX10_bed_54 rfl rfl ?_
          refine y_getI hg fl_X10_120 rfl rfl h1 dX10_bed_55 ?_
          refine yVRP (Qp := _) (rest := [.int (x14 + (sI σ c3 2))]) (As := [.int (sI σ a0 15)]) hg (k_X10_lawOn (gL g.1) (gD g.1) a0 (sI σ a0 15) σ _ h) lv_X10_123 rfl h1 rfl rfl dX10_bed_58 (cat8 (Nat.le_of_ble_eq_true rfl)) hrm ⟨Nat.le_of_ble_eq_true rfl, Nat.le_of_ble_eq_true rfl⟩ (fun r15 h => ?_)
          refine y_iconst (v := 4) hg dX10_bed_61 (by decide) ?_
          obtain ⟨c16, h17, h⟩ := h
          obtain ⟨h18, h⟩ := h
          refine yVIP (Qp := _) (rest := [.int (x14 + (sI σ c3 2))]) (As := [.int 4]) hg (k_X4_value (gL g.1) (gD g.1) c16 4 σ _ h) lv_X10_127 h17 h18 rfl rfl dX10_bed_62 (cat8 (Nat.le_of_ble_eq_true rfl)) hrm ⟨Nat.le_of_ble_eq_true rfl, Nat.le_of_ble_eq_true rfl⟩ (fun x19 h => ?_)
          refine y_icmp_le (tgt := 70) hg dX10_bed_65 (by decide) (fun q20 => ?_) (fun q20 => ?_)
          · replace h := h.1 q20
            refine y_aload hg 0 dX10_bed_70 rfl ?_
            obtain ⟨κ21, q25, h22, h23, h24, h26, h27, h⟩ := h
            refine y_sub [1, 3, 4, 5] rfl ?_
            refine y_new hg hal nl_X10_131 h22 h23 h24 h26 h27 (rll_c (lk_k rfl h1 (by decide)) (rll_c (lk_i _) (rll_c (lk_i _) (rll_c (lk_i _) rll_nil)))) (rl_c (lk_k h5 h6 (by decide)) rl_nil) dX10_bed_72 ?_
            refine y_nmS (fun σ28 e29 => ?_)
            replace h := h σ28 e29
            refine y_dup hg dX10_bed_75 rfl ?_
            refine y_iload_n hg 1 dX10_bed_76 rfl rfl ?_
            refine y_iload_n hg 2 dX10_bed_77 rfl rfl ?_
            refine y_iload hg 3 dX10_bed_78 rfl ?_
            refine y_aload_n hg 0 dX10_bed_80 rfl rfl ?_
            refine y_getI hg fl_X10_120 rfl rfl (kw e29 h26 (by decide) h1) dX10_bed_81 ?_
            obtain ⟨bc33, h34, h35, h⟩ := h
            refine y_sub [0] rfl ?_
            refine yIVA (Qm := _) (rest := [va_rf (some q25), va_rf r2]) (As := [.int v2, .int v3, .int v4, .int (sI σ28 a0 15)]) hg hal (k_X0_init (gL g.1) (gD g.1) q25 v2 v3 v4 (sI σ28 a0 15) σ28 bc33 _ h) li_X10_133 rfl rfl rfl dX10_bed_84 (cat8 (Nat.le_of_ble_eq_true rfl)) hrm ⟨Nat.le_of_ble_eq_true rfl, Nat.le_of_ble_eq_true rfl⟩ h34 h35 (rll_c (lk_k rfl (kw e29 h26 (by decide) h1) (by decide)) rll_nil) (rl_c (lk_k rfl (kn e29 h22) (by decide)) (rl_c (lk_k h5 (kw e29 h26 (by decide) h6) (by decide)) rl_nil)) (fun u31 σ32 h h36 => ?_)
            have h37 := kp h36 (show ¬ 12 = 0 by decide) (kw e29 h26 (by decide) h1)
            have h38 := kp h36 (show ¬ 4 = 0 by decide) (kw e29 h26 (by decide) h6)
            have h39 := kp h36 (show ¬ 2 = 0 by decide) (kn e29 h22)
            refine y_putR hg fw_X10_110 rfl (fun z => nomatch z) h5 h38 (lv_k rfl h39 (by decide)) dX10_bed_87 ?_
            refine y_nmS (fun σ40 e41 => ?_)
            replace h := h σ40 e41
            have E42 : sK σ40 = sK σ32 := by rw [e41]; rfl
            refine y_iconst (v := 1) hg dX10_bed_90 (by decide) ?_
            exact yEndI hend (bz_nar (Or.inr rfl)).1 dX10_bed_91 h
          · replace h := h.2 q20
            refine y_iconst (v := 0) hg dX10_bed_68 (by decide) ?_
            exact yEndI hend (bz_nar (Or.inl rfl)).1 dX10_bed_69 h
        · replace h := h.1 q13
          refine y_iconst (v := 0) hg dX10_bed_41 (by decide) ?_
          exact yEndI hend (bz_nar (Or.inl rfl)).1 dX10_bed_42 h
def P_X10_bedAt (a0 : Nat) (v1 : Int32) (σ : Sg) (Q : Option Nat → Prop) : Prop :=
  sK σ a0 % 32 = 12 ∧ P_X10_cornerAt a0 v1 σ (fun r2 => (r2 = none → Q none) ∧ (∀ c3 : Nat, r2 = some c3 → sK σ c3 % 32 = 4 ∧ Q (sR σ c3 5)))
set_option maxHeartbeats 4000000 in
set_option maxRecDepth 100000 in
theorem k_X10_bedAt (l : Launch) (D : Dg) (a0 : Nat) (v1 : Int32) (σ : Sg) (Q : Option Nat → Prop) (h : P_X10_bedAt a0 v1 σ Q) : CtrY RN l D yX10_bedAt cX10_bedAt 3 (some (FieldType.object "RainStreets$Bed")) 4 85 mkR [.ref a0, .int v1] σ (0, 0) (fun r σ2 => Q r ∧ σ2 = σ) := by
  refine y_ctrN (lv := [(0, va_rf (some a0)), (1, .int v1)]) (by decide) (by (exact Nat.le_of_ble_eq_true rfl)) (by (exact rfl)) (fun g hg hgL hgD hrm hgN hgI hend => ?_)
  subst hgD
  clear hgL
  unfold P_X10_bedAt at h
  refine y_aload_n hg 0 dX10_bedAt_0 rfl rfl ?_
  refine y_iload_n hg 1 dX10_bedAt_1 rfl rfl ?_
  obtain ⟨h1, h⟩ := h
  refine yVRP (Qp := _) (rest := []) (As := [.int v1]) hg (k_X10_cornerAt (gL g.1) (gD g.1) a0 v1 σ _ h) lv_X10_100 rfl h1 rfl rfl dX10_bedAt_2 (cat8 (Nat.le_of_ble_eq_true rfl)) hrm ⟨Nat.le_of_ble_eq_true rfl, Nat.le_of_ble_eq_true rfl⟩ (fun r2 h => ?_)
  refine y_astore_n (lv' := [(2, va_rf r2), (0, va_rf (some a0)), (1, .int v1)]) hg dX10_bedAt_5 rfl (by rw [hgN]; decide) rfl ?_
  refine y_aload_n hg 0 dX10_bedAt_6 rfl rfl ?_
  refine y_ifnonnull (tgt := 14) hg dX10_bedAt_7 (by decide) (fun c3 h5 => ?_) (fun h4 => ?_)
  · replace h := h.2 c3 h5
    refine y_aload_n hg 0 dX10_bedAt_14 rfl rfl ?_
    obtain ⟨h6, h⟩ := h
    refine y_getR hg fl_X10_110 rfl h5 h6 dX10_bedAt_15 ?_
    exact yEndR hend rfl dX10_bedAt_18 ⟨h, rfl⟩
  · replace h := h.1 h4
    refine y_null hg dX10_bedAt_10 ?_
    refine y_goto (tgt := 18) hg dX10_bedAt_11 (by decide) ?_
    exact yEndR hend rfl dX10_bedAt_18 ⟨h, rfl⟩
def P_X10_care_B26 (a0 : Nat) (σ : Sg) (Q : Int32 → Sg → Prop) : Prop :=
  Q 0 σ
def P_X10_care (a0 : Nat) (v1 : Int32) (v2 : Int32) (σ : Sg) (Q : Int32 → Sg → Prop) : Prop :=
  sK σ a0 % 32 = 12 ∧ P_X10_bedAt a0 v1 σ (fun r2 => (r2 = none → P_X10_care_B26 a0 σ Q) ∧ (∀ c3 : Nat, r2 = some c3 → sK σ c3 % 32 = 2 ∧ P_X0_caredBy c3 v2 (sI σ a0 15) σ (fun x7 σ8 => (x7 = 0 → P_X10_care_B26 a0 σ8 Q) ∧ (¬ (x7 = 0) → Q 1 σ8))))
set_option maxHeartbeats 4000000 in
set_option maxRecDepth 100000 in
theorem k_X10_care (l : Launch) (D : Dg) (a0 : Nat) (v1 : Int32) (v2 : Int32) (σ : Sg) (Q : Int32 → Sg → Prop) (h : P_X10_care a0 v1 v2 σ Q) : CtrY RN l D yX10_care cX10_care 4 (some FieldType.boolean) 5 107 mkI [.ref a0, .int v1, .int v2] σ (0, 0) Q := by
  refine y_ctrN (lv := [(0, va_rf (some a0)), (1, .int v1), (2, .int v2)]) (by decide) (by (exact Nat.le_of_ble_eq_true rfl)) (by (exact rfl)) (fun g hg hgL hgD hrm hgN hgI hend => ?_)
  subst hgD
  clear hgL
  unfold P_X10_care at h
  have J26 : ∀ (σ : Sg), P_X10_care_B26 a0 σ Q → XA g 26 [(0, va_rf (some a0))] [] σ (0, 0) := by
    intro σ h
    unfold P_X10_care_B26 at h
    refine y_iconst (v := 0) hg dX10_care_26 (by decide) ?_
    exact yEndI hend (bz_nar (Or.inl rfl)).1 dX10_care_27 h
  refine y_aload_n hg 0 dX10_care_0 rfl rfl ?_
  refine y_iload_n hg 1 dX10_care_1 rfl rfl ?_
  obtain ⟨h1, h⟩ := h
  refine yVRP (Qp := _) (rest := []) (As := [.int v1]) hg (k_X10_bedAt (gL g.1) (gD g.1) a0 v1 σ _ h) lv_X10_136 rfl h1 rfl rfl dX10_care_2 (cat8 (Nat.le_of_ble_eq_true rfl)) hrm ⟨Nat.le_of_ble_eq_true rfl, Nat.le_of_ble_eq_true rfl⟩ (fun r2 h => ?_)
  refine y_astore_n (lv' := [(3, va_rf r2), (0, va_rf (some a0)), (1, .int v1), (2, .int v2)]) hg dX10_care_5 rfl (by rw [hgN]; decide) rfl ?_
  refine y_aload_n hg 0 dX10_care_6 rfl rfl ?_
  refine y_ifnull (tgt := 26) hg dX10_care_7 (by decide) (fun h4 => ?_) (fun c3 h5 => ?_)
  · replace h := h.1 h4
    refine y_sub [1] rfl ?_
    exact J26 _ h
  · replace h := h.2 c3 h5
    refine y_aload_n hg 0 dX10_care_10 rfl rfl ?_
    refine y_iload_n hg 3 dX10_care_11 rfl rfl ?_
    refine y_aload_n hg 1 dX10_care_12 rfl rfl ?_
    refine y_getI hg fl_X10_120 rfl rfl h1 dX10_care_13 ?_
    obtain ⟨h6, h⟩ := h
    refine yVIW (Qm := _) (rest := []) (As := [.int v2, .int (sI σ a0 15)]) hg (k_X0_caredBy (gL g.1) (gD g.1) c3 v2 (sI σ a0 15) σ _ h) lv_X10_140 h5 h6 rfl rfl dX10_care_16 (cat8 (Nat.le_of_ble_eq_true rfl)) hrm ⟨Nat.le_of_ble_eq_true rfl, Nat.le_of_ble_eq_true rfl⟩ (fun x7 σ8 h h9 => ?_)
    have h10 := kp h9 (show ¬ 12 = 0 by decide) h1
    have h11 := kp h9 (show ¬ 2 = 0 by decide) h6
    refine y_if_eq (tgt := 26) hg dX10_care_19 (by decide) (fun q12 => ?_) (fun q12 => ?_)
    · replace h := h.1 q12
      refine y_sub [1] rfl ?_
      exact J26 _ h
    · replace h := h.2 q12
      refine y_iconst (v := 1) hg dX10_care_22 (by decide) ?_
      refine y_goto (tgt := 27) hg dX10_care_23 (by decide) ?_
      exact yEndI hend (bz_nar (Or.inr rfl)).1 dX10_care_27 h
def P_X10_treat (a0 : Nat) (v1 : Int32) (v2 : Int32) (σ : Sg) (Q : Int32 → Sg → Prop) : Prop :=
  sK σ a0 % 32 = 12 ∧ P_X10_bedAt a0 v1 σ (fun r2 => (r2 = none → Q 0 σ) ∧ (∀ c3 : Nat, r2 = some c3 → P_X10_within v2 0 1 σ (fun x6 => (x6 = 0 → Q 0 σ) ∧ (¬ (x6 = 0) → (v2 = 0 → sK σ c3 % 32 = 2 ∧ ∀ x15 : Int32, x15 = (if ((sI σ c3 6) + 10) < (100 : Int32) then ((sI σ c3 6) + 10) else (100 : Int32)) → ∀ σ17 : Sg, σ17 = pI σ c3 6 x15 → Q 1 σ17) ∧ (¬ (v2 = 0) → sK σ c3 % 32 = 2 ∧ ((sI σ c3 7) = 0 → ∀ σ11 : Sg, σ11 = pI σ c3 7 1 → Q 1 σ11) ∧ (¬ ((sI σ c3 7) = 0) → Q 0 σ))))))
set_option maxHeartbeats 4000000 in
set_option maxRecDepth 100000 in
theorem k_X10_treat (l : Launch) (D : Dg) (a0 : Nat) (v1 : Int32) (v2 : Int32) (σ : Sg) (Q : Int32 → Sg → Prop) (h : P_X10_treat a0 v1 v2 σ Q) : CtrY RN l D yX10_treat cX10_treat 4 (some FieldType.boolean) 5 107 mkI [.ref a0, .int v1, .int v2] σ (0, 0) Q := by
  refine y_ctrN (lv := [(0, va_rf (some a0)), (1, .int v1), (2, .int v2)]) (by decide) (by (exact Nat.le_of_ble_eq_true rfl)) (by (exact rfl)) (fun g hg hgL hgD hrm hgN hgI hend => ?_)
  subst hgD
  clear hgL
  unfold P_X10_treat at h
  refine y_aload_n hg 0 dX10_treat_0 rfl rfl ?_
  refine y_iload_n hg 1 dX10_treat_1 rfl rfl ?_
  obtain ⟨h1, h⟩ := h
  refine yVRP (Qp := _) (rest := []) (As := [.int v1]) hg (k_X10_bedAt (gL g.1) (gD g.1) a0 v1 σ _ h) lv_X10_136 rfl h1 rfl rfl dX10_treat_2 (cat8 (Nat.le_of_ble_eq_true rfl)) hrm ⟨Nat.le_of_ble_eq_true rfl, Nat.le_of_ble_eq_true rfl⟩ (fun r2 h => ?_)
  refine y_astore_n (lv' := [(3, va_rf r2), (0, va_rf (some a0)), (1, .int v1), (2, .int v2)]) hg dX10_treat_5 rfl (by rw [hgN]; decide) rfl ?_
  refine y_aload_n hg 0 dX10_treat_6 rfl rfl ?_
  refine y_ifnull (tgt := 19) hg dX10_treat_7 (by decide) (fun h4 => ?_) (fun c3 h5 => ?_)
  · replace h := h.1 h4
    refine y_iconst (v := 0) hg dX10_treat_19 (by decide) ?_
    exact yEndI hend (bz_nar (Or.inl rfl)).1 dX10_treat_20 h
  · replace h := h.2 c3 h5
    refine y_iload_n hg 3 dX10_treat_10 rfl rfl ?_
    refine y_iconst (v := 0) hg dX10_treat_11 (by decide) ?_
    refine y_iconst (v := 1) hg dX10_treat_12 (by decide) ?_
    refine ySIP (Qp := _) (rest := []) (As := [.int v2, .int 0, .int 1]) hg (k_X10_within (gL g.1) (gD g.1) v2 0 1 σ _ h) ls_X10_83 rfl rfl dX10_treat_13 (cat8 (Nat.le_of_ble_eq_true rfl)) hrm ⟨Nat.le_of_ble_eq_true rfl, Nat.le_of_ble_eq_true rfl⟩ (fun x6 h => ?_)
    refine y_if_ne (tgt := 21) hg dX10_treat_16 (by decide) (fun q7 => ?_) (fun q7 => ?_)
    · replace h := h.2 q7
      refine y_iload_n hg 3 dX10_treat_21 rfl rfl ?_
      refine y_if_ne (tgt := 43) hg dX10_treat_22 (by decide) (fun q8 => ?_) (fun q8 => ?_)
      · replace h := h.2 q8
        refine y_aload_n hg 0 dX10_treat_43 rfl rfl ?_
        obtain ⟨h9, h⟩ := h
        refine y_getI hg fl_X10_153 rfl h5 h9 dX10_treat_44 ?_
        refine y_if_eq (tgt := 52) hg dX10_treat_47 (by decide) (fun q10 => ?_) (fun q10 => ?_)
        · replace h := h.1 q10
          refine y_aload_n hg 0 dX10_treat_52 rfl rfl ?_
          refine y_iconst (v := 1) hg dX10_treat_53 (by decide) ?_
          refine y_putZ hg fw_X10_153 (fun z => nomatch z) h5 h9 (Or.inr rfl) dX10_treat_54 ?_
          refine y_nmS (fun σ11 e12 => ?_)
          replace h := h σ11 e12
          have E13 : sK σ11 = sK σ := by rw [e12]; rfl
          refine y_iconst (v := 1) hg dX10_treat_57 (by decide) ?_
          exact yEndI hend (bz_nar (Or.inr rfl)).1 dX10_treat_58 h
        · replace h := h.2 q10
          refine y_iconst (v := 0) hg dX10_treat_50 (by decide) ?_
          exact yEndI hend (bz_nar (Or.inl rfl)).1 dX10_treat_51 h
      · replace h := h.1 q8
        refine y_aload_n hg 0 dX10_treat_25 rfl rfl ?_
        refine y_bipush (v := 100) hg dX10_treat_26 (by decide) ?_
        refine y_aload_n hg 0 dX10_treat_28 rfl rfl ?_
        obtain ⟨h14, h⟩ := h
        refine y_getI hg fl_X10_144 rfl h5 h14 dX10_treat_29 ?_
        refine y_bipush (v := 10) hg dX10_treat_32 (by decide) ?_
        refine y_iadd hg dX10_treat_34 ?_
        refine y_mmin hg mm_X10_147 (cat8 (Nat.le_of_ble_eq_true rfl)) hrm ⟨Nat.le_of_ble_eq_true rfl, Nat.le_of_ble_eq_true rfl⟩ dX10_treat_35 ?_
        refine y_nmI (fun x15 e16 => ?_)
        replace h := h x15 e16
        refine y_putI hg fw_X10_144 (fun z => nomatch z) h5 h14 dX10_treat_38 ?_
        refine y_nmS (fun σ17 e18 => ?_)
        replace h := h σ17 e18
        have E19 : sK σ17 = sK σ := by rw [e18]; rfl
        refine y_iconst (v := 1) hg dX10_treat_41 (by decide) ?_
        exact yEndI hend (bz_nar (Or.inr rfl)).1 dX10_treat_42 h
    · replace h := h.1 q7
      refine y_iconst (v := 0) hg dX10_treat_19 (by decide) ?_
      exact yEndI hend (bz_nar (Or.inl rfl)).1 dX10_treat_20 h
def P_X10_roofAt (a0 : Nat) (v1 : Int32) (σ : Sg) (Q : Option Nat → Prop) : Prop :=
  sK σ a0 % 32 = 12 ∧ ∃ c2 : Nat, sR σ a0 1 = some c2 ∧ sK σ c2 % 32 = 1 ∧ P_Jx4a65c_size_8abf5 c2 σ (fun x5 => P_X10_within v1 0 (x5 - 1) σ (fun x6 => (x6 = 0 → Q none) ∧ (¬ (x6 = 0) → ∃ c8 : Nat, sR σ a0 1 = some c8 ∧ sK σ c8 % 32 = 1 ∧ P_Jx4a65c_get_915e3 c8 v1 σ (fun r11 => ∃ c12 : Nat, r11 = some c12 ∧ sK σ c12 % 32 = 8 ∧ Q r11))))
set_option maxHeartbeats 4000000 in
set_option maxRecDepth 100000 in
theorem k_X10_roofAt (l : Launch) (D : Dg) (a0 : Nat) (v1 : Int32) (σ : Sg) (Q : Option Nat → Prop) (h : P_X10_roofAt a0 v1 σ Q) : CtrY RN l D yX10_roofAt cX10_roofAt 2 (some (FieldType.object "RainStreets$Roof")) 3 64 mkR [.ref a0, .int v1] σ (0, 0) (fun r σ2 => Q r ∧ σ2 = σ) := by
  refine y_ctrN (lv := [(0, va_rf (some a0)), (1, .int v1)]) (by decide) (by (exact Nat.le_of_ble_eq_true rfl)) (by (exact rfl)) (fun g hg hgL hgD hrm hgN hgI hend => ?_)
  subst hgD
  clear hgL
  unfold P_X10_roofAt at h
  refine y_iload_n hg 1 dX10_roofAt_0 rfl rfl ?_
  refine y_iconst (v := 0) hg dX10_roofAt_1 (by decide) ?_
  refine y_aload_n hg 0 dX10_roofAt_2 rfl rfl ?_
  obtain ⟨h1, h⟩ := h
  refine y_getR hg fl_X10_16 rfl rfl h1 dX10_roofAt_3 ?_
  obtain ⟨c2, h3, h⟩ := h
  obtain ⟨h4, h⟩ := h
  refine yVIP (Qp := _) (rest := [.int 0, .int v1]) (As := []) hg (k_Jx4a65c_size_8abf5 (gL g.1) (gD g.1) c2 σ _ h) lv_X10_87 h3 h4 rfl rfl dX10_roofAt_6 (cat8 (Nat.le_of_ble_eq_true rfl)) hrm ⟨Nat.le_of_ble_eq_true rfl, Nat.le_of_ble_eq_true rfl⟩ (fun x5 h => ?_)
  refine y_iconst (v := 1) hg dX10_roofAt_9 (by decide) ?_
  refine y_isub hg dX10_roofAt_10 ?_
  refine ySIP (Qp := _) (rest := []) (As := [.int v1, .int 0, .int (x5 - 1)]) hg (k_X10_within (gL g.1) (gD g.1) v1 0 (x5 - 1) σ _ h) ls_X10_83 rfl rfl dX10_roofAt_11 (cat8 (Nat.le_of_ble_eq_true rfl)) hrm ⟨Nat.le_of_ble_eq_true rfl, Nat.le_of_ble_eq_true rfl⟩ (fun x6 h => ?_)
  refine y_if_eq (tgt := 31) hg dX10_roofAt_14 (by decide) (fun q7 => ?_) (fun q7 => ?_)
  · replace h := h.1 q7
    refine y_null hg dX10_roofAt_31 ?_
    exact yEndR hend rfl dX10_roofAt_32 ⟨h, rfl⟩
  · replace h := h.2 q7
    refine y_aload_n hg 0 dX10_roofAt_17 rfl rfl ?_
    refine y_getR hg fl_X10_16 rfl rfl h1 dX10_roofAt_18 ?_
    refine y_iload_n hg 1 dX10_roofAt_21 rfl rfl ?_
    obtain ⟨c8, h9, h⟩ := h
    obtain ⟨h10, h⟩ := h
    refine yVRP (Qp := _) (rest := []) (As := [.int v1]) hg (k_Jx4a65c_get_915e3 (gL g.1) (gD g.1) c8 v1 σ _ h) lv_X10_232 h9 h10 rfl rfl dX10_roofAt_22 (cat8 (Nat.le_of_ble_eq_true rfl)) hrm ⟨Nat.le_of_ble_eq_true rfl, Nat.le_of_ble_eq_true rfl⟩ (fun r11 h => ?_)
    obtain ⟨c12, h13, h⟩ := h
    obtain ⟨h14, h⟩ := h
    refine y_cast (c := 8) hg (C := RX6) rfl (by decide) cl_X10_107 h13 h14 dX10_roofAt_25 ?_
    refine y_goto (tgt := 32) hg dX10_roofAt_28 (by decide) ?_
    exact yEndR hend rfl dX10_roofAt_32 ⟨h, rfl⟩
def P_X10_prove (a0 : Nat) (v1 : Int32) (σ : Sg) (Q : Int32 → Sg → Prop) : Prop :=
  sK σ a0 % 32 = 12 ∧ P_X10_roofAt a0 v1 σ (fun r2 => (r2 = none → Q 0 σ) ∧ (∀ c3 : Nat, r2 = some c3 → sK σ c3 % 32 = 8 ∧ ((sI σ c3 3) = 0 → Q 0 σ) ∧ (¬ ((sI σ c3 3) = 0) → P_X6_proveIn c3 ((sI σ a0 15) / 365) σ (fun _ σ9 => Q 1 σ9))))
set_option maxHeartbeats 4000000 in
set_option maxRecDepth 100000 in
theorem k_X10_prove (l : Launch) (D : Dg) (a0 : Nat) (v1 : Int32) (σ : Sg) (Q : Int32 → Sg → Prop) (h : P_X10_prove a0 v1 σ Q) : CtrY RN l D yX10_prove cX10_prove 3 (some FieldType.boolean) 4 85 mkI [.ref a0, .int v1] σ (0, 0) Q := by
  refine y_ctrN (lv := [(0, va_rf (some a0)), (1, .int v1)]) (by decide) (by (exact Nat.le_of_ble_eq_true rfl)) (by (exact rfl)) (fun g hg hgL hgD hrm hgN hgI hend => ?_)
  subst hgD
  clear hgL
  unfold P_X10_prove at h
  refine y_aload_n hg 0 dX10_prove_0 rfl rfl ?_
  refine y_iload_n hg 1 dX10_prove_1 rfl rfl ?_
  obtain ⟨h1, h⟩ := h
  refine yVRP (Qp := _) (rest := []) (As := [.int v1]) hg (k_X10_roofAt (gL g.1) (gD g.1) a0 v1 σ _ h) lv_X10_157 rfl h1 rfl rfl dX10_prove_2 (cat8 (Nat.le_of_ble_eq_true rfl)) hrm ⟨Nat.le_of_ble_eq_true rfl, Nat.le_of_ble_eq_true rfl⟩ (fun r2 h => ?_)
  refine y_astore_n (lv' := [(2, va_rf r2), (0, va_rf (some a0)), (1, .int v1)]) hg dX10_prove_5 rfl (by rw [hgN]; decide) rfl ?_
  refine y_aload_n hg 0 dX10_prove_6 rfl rfl ?_
  refine y_ifnull (tgt := 17) hg dX10_prove_7 (by decide) (fun h4 => ?_) (fun c3 h5 => ?_)
  · replace h := h.1 h4
    refine y_iconst (v := 0) hg dX10_prove_17 (by decide) ?_
    exact yEndI hend (bz_nar (Or.inl rfl)).1 dX10_prove_18 h
  · replace h := h.2 c3 h5
    refine y_aload_n hg 0 dX10_prove_10 rfl rfl ?_
    obtain ⟨h6, h⟩ := h
    refine y_getI hg fl_X10_161 rfl h5 h6 dX10_prove_11 ?_
    refine y_if_ne (tgt := 19) hg dX10_prove_14 (by decide) (fun q7 => ?_) (fun q7 => ?_)
    · replace h := h.2 q7
      refine y_aload_n hg 0 dX10_prove_19 rfl rfl ?_
      refine y_aload_n hg 1 dX10_prove_20 rfl rfl ?_
      refine y_getI hg fl_X10_120 rfl rfl h1 dX10_prove_21 ?_
      refine y_sipush (v := 365) hg dX10_prove_24 (by decide) ?_
      refine y_idiv hg dX10_prove_27 (by decide) ?_
      refine yVVW (Qm := _) (rest := []) (As := [.int ((sI σ a0 15) / 365)]) hg (k_X6_proveIn (gL g.1) (gD g.1) c3 ((sI σ a0 15) / 365) σ _ h) lv_X10_164 h5 h6 rfl rfl dX10_prove_28 (cat8 (Nat.le_of_ble_eq_true rfl)) hrm ⟨Nat.le_of_ble_eq_true rfl, Nat.le_of_ble_eq_true rfl⟩ (fun u8 σ9 h h10 => ?_)
      have h11 := kp h10 (show ¬ 12 = 0 by decide) h1
      have h12 := kp h10 (show ¬ 8 = 0 by decide) h6
      refine y_iconst (v := 1) hg dX10_prove_31 (by decide) ?_
      exact yEndI hend (bz_nar (Or.inr rfl)).1 dX10_prove_32 h
    · replace h := h.1 q7
      refine y_iconst (v := 0) hg dX10_prove_17 (by decide) ?_
      exact yEndI hend (bz_nar (Or.inl rfl)).1 dX10_prove_18 h
def P_X10_told (a0 : Nat) (v1 : Int32) (v2 : Int32) (σ : Sg) (Q : Int32 → Prop) : Prop :=
  sK σ a0 % 32 = 12 ∧ P_X10_cornerAt a0 v1 σ (fun r2 => (r2 = none → Q (-1)) ∧ (∀ c3 : Nat, r2 = some c3 → ∀ y6 : Int32, y6 = v2 → (y6 = 0 → sK σ c3 % 32 = 4 ∧ Q (sI σ c3 0)) ∧ (¬ (y6 = 0) → (y6 = 1 → sK σ c3 % 32 = 4 ∧ Q (sI σ c3 1)) ∧ (¬ (y6 = 1) → (y6 = 2 → sK σ c3 % 32 = 4 ∧ Q (sI σ c3 2)) ∧ (¬ (y6 = 2) → (y6 = 3 → sK σ c3 % 32 = 4 ∧ Q (sI σ c3 3)) ∧ (¬ (y6 = 3) → (y6 = 4 → sK σ c3 % 32 = 4 ∧ Q (sI σ c3 4)) ∧ (¬ (y6 = 4) → (y6 = 5 → sK σ c3 % 32 = 4 ∧ (sR σ c3 5 = none → Q 0) ∧ (∀ c14 : Nat, sR σ c3 5 = some c14 → Q 1)) ∧ (¬ (y6 = 5) → (y6 = 6 → sK σ c3 % 32 = 4 ∧ Q (sI σ c3 6)) ∧ (¬ (y6 = 6) → (y6 = 7 → sK σ c3 % 32 = 4 ∧ Q (sI σ c3 7)) ∧ (¬ (y6 = 7) → (y6 = 8 → sK σ c3 % 32 = 4 ∧ Q (sI σ c3 8)) ∧ (¬ (y6 = 8) → Q (-1))))))))))))
set_option maxHeartbeats 4000000 in
set_option maxRecDepth 100000 in
theorem k_X10_told (l : Launch) (D : Dg) (a0 : Nat) (v1 : Int32) (v2 : Int32) (σ : Sg) (Q : Int32 → Prop) (h : P_X10_told a0 v1 v2 σ Q) : CtrY RN l D yX10_told cX10_told 4 (some FieldType.int) 4 85 mkI [.ref a0, .int v1, .int v2] σ (0, 0) (fun r σ2 => Q r ∧ σ2 = σ) := by
  refine y_ctrN (lv := [(0, va_rf (some a0)), (1, .int v1), (2, .int v2)]) (by decide) (by (exact Nat.le_of_ble_eq_true rfl)) (by (exact rfl)) (fun g hg hgL hgD hrm hgN hgI hend => ?_)
  subst hgD
  clear hgL
  unfold P_X10_told at h
  refine y_aload_n hg 0 dX10_told_0 rfl rfl ?_
  refine y_iload_n hg 1 dX10_told_1 rfl rfl ?_
  obtain ⟨h1, h⟩ := h
  refine yVRP (Qp := _) (rest := []) (As := [.int v1]) hg (k_X10_cornerAt (gL g.1) (gD g.1) a0 v1 σ _ h) lv_X10_100 rfl h1 rfl rfl dX10_told_2 (cat8 (Nat.le_of_ble_eq_true rfl)) hrm ⟨Nat.le_of_ble_eq_true rfl, Nat.le_of_ble_eq_true rfl⟩ (fun r2 h => ?_)
  refine y_astore_n (lv' := [(3, va_rf r2), (0, va_rf (some a0)), (1, .int v1), (2, .int v2)]) hg dX10_told_5 rfl (by rw [hgN]; decide) rfl ?_
  refine y_aload_n hg 0 dX10_told_6 rfl rfl ?_
  refine y_ifnonnull (tgt := 12) hg dX10_told_7 (by decide) (fun c3 h5 => ?_) (fun h4 => ?_)
  · replace h := h.2 c3 h5
    refine y_iload_n hg 3 dX10_told_12 rfl rfl ?_
    refine y_nmI (fun y6 e7 => ?_)
    replace h := h y6 e7
    by_cases q13_0 : y6 = 0
    · replace h := h.1 q13_0
      refine y_tableIn (tgt := 64) hg dX10_told_13 (by rw [q13_0]; decide) (by rw [q13_0]; decide) (by rw [q13_0]; rfl) (by decide) ?_
      refine y_aload_n hg 0 dX10_told_64 rfl rfl ?_
      obtain ⟨h8, h⟩ := h
      refine y_getI hg fl_X10_168 rfl h5 h8 dX10_told_65 ?_
      exact yEndI hend rfl dX10_told_68 ⟨h, rfl⟩
    · replace h := h.2 q13_0
      by_cases q13_1 : y6 = 1
      · replace h := h.1 q13_1
        refine y_tableIn (tgt := 69) hg dX10_told_13 (by rw [q13_1]; decide) (by rw [q13_1]; decide) (by rw [q13_1]; rfl) (by decide) ?_
        refine y_aload_n hg 0 dX10_told_69 rfl rfl ?_
        obtain ⟨h9, h⟩ := h
        refine y_getI hg fl_X10_171 rfl h5 h9 dX10_told_70 ?_
        exact yEndI hend rfl dX10_told_73 ⟨h, rfl⟩
      · replace h := h.2 q13_1
        by_cases q13_2 : y6 = 2
        · replace h := h.1 q13_2
          refine y_tableIn (tgt := 74) hg dX10_told_13 (by rw [q13_2]; decide) (by rw [q13_2]; decide) (by rw [q13_2]; rfl) (by decide) ?_
          refine y_aload_n hg 0 dX10_told_74 rfl rfl ?_
          obtain ⟨h10, h⟩ := h
          refine y_getI hg fl_X10_117 rfl h5 h10 dX10_told_75 ?_
          exact yEndI hend rfl dX10_told_78 ⟨h, rfl⟩
        · replace h := h.2 q13_2
          by_cases q13_3 : y6 = 3
          · replace h := h.1 q13_3
            refine y_tableIn (tgt := 79) hg dX10_told_13 (by rw [q13_3]; decide) (by rw [q13_3]; decide) (by rw [q13_3]; rfl) (by decide) ?_
            refine y_aload_n hg 0 dX10_told_79 rfl rfl ?_
            obtain ⟨h11, h⟩ := h
            refine y_getI hg fl_X10_174 rfl h5 h11 dX10_told_80 ?_
            exact yEndI hend rfl dX10_told_83 ⟨h, rfl⟩
          · replace h := h.2 q13_3
            by_cases q13_4 : y6 = 4
            · replace h := h.1 q13_4
              refine y_tableIn (tgt := 84) hg dX10_told_13 (by rw [q13_4]; decide) (by rw [q13_4]; decide) (by rw [q13_4]; rfl) (by decide) ?_
              refine y_aload_n hg 0 dX10_told_84 rfl rfl ?_
              obtain ⟨h12, h⟩ := h
              refine y_getI hg fl_X10_104 rfl h5 h12 dX10_told_85 ?_
              exact yEndI hend rfl dX10_told_88 ⟨h, rfl⟩
            · replace h := h.2 q13_4
              by_cases q13_5 : y6 = 5
              · replace h := h.1 q13_5
                refine y_tableIn (tgt := 89) hg dX10_told_13 (by rw [q13_5]; decide) (by rw [q13_5]; decide) (by rw [q13_5]; rfl) (by decide) ?_
                refine y_aload_n hg 0 dX10_told_89 rfl rfl ?_
                obtain ⟨h13, h⟩ := h
                refine y_getR hg fl_X10_110 rfl h5 h13 dX10_told_90 ?_
                refine y_ifnonnull (tgt := 100) hg dX10_told_93 (by decide) (fun c14 h16 => ?_) (fun h15 => ?_)
                · replace h := h.2 c14 h16
                  refine y_iconst (v := 1) hg dX10_told_100 (by decide) ?_
                  exact yEndI hend rfl dX10_told_101 ⟨h, rfl⟩
                · replace h := h.1 h15
                  refine y_iconst (v := 0) hg dX10_told_96 (by decide) ?_
                  refine y_goto (tgt := 101) hg dX10_told_97 (by decide) ?_
                  exact yEndI hend rfl dX10_told_101 ⟨h, rfl⟩
              · replace h := h.2 q13_5
                by_cases q13_6 : y6 = 6
                · replace h := h.1 q13_6
                  refine y_tableIn (tgt := 102) hg dX10_told_13 (by rw [q13_6]; decide) (by rw [q13_6]; decide) (by rw [q13_6]; rfl) (by decide) ?_
                  refine y_aload_n hg 0 dX10_told_102 rfl rfl ?_
                  obtain ⟨h17, h⟩ := h
                  refine y_getI hg fl_X10_177 rfl h5 h17 dX10_told_103 ?_
                  exact yEndI hend rfl dX10_told_106 ⟨h, rfl⟩
                · replace h := h.2 q13_6
                  by_cases q13_7 : y6 = 7
                  · replace h := h.1 q13_7
                    refine y_tableIn (tgt := 107) hg dX10_told_13 (by rw [q13_7]; decide) (by rw [q13_7]; decide) (by rw [q13_7]; rfl) (by decide) ?_
                    refine y_aload_n hg 0 dX10_told_107 rfl rfl ?_
                    obtain ⟨h18, h⟩ := h
                    refine y_getI hg fl_X10_180 rfl h5 h18 dX10_told_108 ?_
                    exact yEndI hend rfl dX10_told_111 ⟨h, rfl⟩
                  · replace h := h.2 q13_7
                    by_cases q13_8 : y6 = 8
                    · replace h := h.1 q13_8
                      refine y_tableIn (tgt := 112) hg dX10_told_13 (by rw [q13_8]; decide) (by rw [q13_8]; decide) (by rw [q13_8]; rfl) (by decide) ?_
                      refine y_aload_n hg 0 dX10_told_112 rfl rfl ?_
                      obtain ⟨h19, h⟩ := h
                      refine y_getI hg fl_X10_183 rfl h5 h19 dX10_told_113 ?_
                      exact yEndI hend rfl dX10_told_116 ⟨h, rfl⟩
                    · replace h := h.2 q13_8
                      refine y_tableOut (tgt := 117) hg dX10_told_13 (sw8_out q13_0 q13_1 q13_2 q13_3 q13_4 q13_5 q13_6 q13_7 q13_8) (by decide) ?_
                      refine y_iconst (v := (-1)) hg dX10_told_117 (by decide) ?_
                      exact yEndI hend rfl dX10_told_118 ⟨h, rfl⟩
  · replace h := h.1 h4
    refine y_iconst (v := (-1)) hg dX10_told_10 (by decide) ?_
    exact yEndI hend rfl dX10_told_11 ⟨h, rfl⟩
def P_X10_drinkByLook (a0 : Nat) (v1 : Option Nat) (v2 : Int32) (σ : Sg) (Q : Int32 → Prop) : Prop :=
  ∃ c1 : Nat, v1 = some c1 ∧ sK σ c1 % 32 = 2 ∧ ((sI σ c1 10) = (-1) → Q (-1)) ∧ (¬ ((sI σ c1 10) = (-1)) → sK σ a0 % 32 = 12 ∧ P_X0_fullDrink c1 (sR σ a0 8) σ (fun x6 => P_X10_lawOn a0 (sI σ a0 15) σ (fun r7 => ∃ c8 : Nat, r7 = some c8 ∧ sK σ c8 % 32 = 6 ∧ P_X4_value c8 (v2 + (2 * (sI σ c1 10))) σ (fun x11 => Q ((x6 * x11) / 100)))))
set_option maxHeartbeats 4000000 in
set_option maxRecDepth 100000 in
theorem k_X10_drinkByLook (l : Launch) (D : Dg) (a0 : Nat) (v1 : Option Nat) (v2 : Int32) (σ : Sg) (Q : Int32 → Prop) (h : P_X10_drinkByLook a0 v1 v2 σ Q) : CtrY RN l D yX10_drinkByLook cX10_drinkByLook 3 (some FieldType.int) 4 86 mkI [.ref a0, va_rf v1, .int v2] σ (0, 0) (fun r σ2 => Q r ∧ σ2 = σ) := by
  refine y_ctrN (lv := [(0, va_rf (some a0)), (1, va_rf v1), (2, .int v2)]) (by decide) (by cases v1 <;> (exact Nat.le_of_ble_eq_true rfl)) (by cases v1 <;> (exact rfl)) (fun g hg hgL hgD hrm hgN hgI hend => ?_)
  subst hgD
  clear hgL
  unfold P_X10_drinkByLook at h
  refine y_aload_n hg 1 dX10_drinkByLook_0 rfl rfl ?_
  obtain ⟨c1, h2, h⟩ := h
  obtain ⟨h3, h⟩ := h
  refine y_getI hg fl_X10_214 rfl h2 h3 dX10_drinkByLook_1 ?_
  refine y_iconst (v := (-1)) hg dX10_drinkByLook_4 (by decide) ?_
  refine y_icmp_ne (tgt := 10) hg dX10_drinkByLook_5 (by decide) (fun q4 => ?_) (fun q4 => ?_)
  · replace h := h.2 q4
    refine y_aload_n hg 1 dX10_drinkByLook_10 rfl rfl ?_
    refine y_aload_n hg 0 dX10_drinkByLook_11 rfl rfl ?_
    obtain ⟨h5, h⟩ := h
    refine y_getR hg fl_X10_51 rfl rfl h5 dX10_drinkByLook_12 ?_
    refine yVIP (Qp := _) (rest := []) (As := [va_rf (sR σ a0 8)]) hg (k_X0_fullDrink (gL g.1) (gD g.1) c1 (sR σ a0 8) σ _ h) lv_X10_242 h2 h3 rfl rfl dX10_drinkByLook_15 (cat8 (Nat.le_of_ble_eq_true rfl)) hrm ⟨Nat.le_of_ble_eq_true rfl, Nat.le_of_ble_eq_true rfl⟩ (fun x6 h => ?_)
    refine y_aload_n hg 0 dX10_drinkByLook_18 rfl rfl ?_
    refine y_aload_n hg 0 dX10_drinkByLook_19 rfl rfl ?_
    refine y_getI hg fl_X10_120 rfl rfl h5 dX10_drinkByLook_20 ?_
    refine yVRP (Qp := _) (rest := [.int x6]) (As := [.int (sI σ a0 15)]) hg (k_X10_lawOn (gL g.1) (gD g.1) a0 (sI σ a0 15) σ _ h) lv_X10_123 rfl h5 rfl rfl dX10_drinkByLook_23 (cat8 (Nat.le_of_ble_eq_true rfl)) hrm ⟨Nat.le_of_ble_eq_true rfl, Nat.le_of_ble_eq_true rfl⟩ (fun r7 h => ?_)
    refine y_iload_n hg 2 dX10_drinkByLook_26 rfl rfl ?_
    refine y_iconst (v := 2) hg dX10_drinkByLook_27 (by decide) ?_
    refine y_aload_n hg 1 dX10_drinkByLook_28 rfl rfl ?_
    refine y_getI hg fl_X10_214 rfl h2 h3 dX10_drinkByLook_29 ?_
    refine y_imul hg dX10_drinkByLook_32 ?_
    refine y_iadd hg dX10_drinkByLook_33 ?_
    obtain ⟨c8, h9, h⟩ := h
    obtain ⟨h10, h⟩ := h
    refine yVIP (Qp := _) (rest := [.int x6]) (As := [.int (v2 + (2 * (sI σ c1 10)))]) hg (k_X4_value (gL g.1) (gD g.1) c8 (v2 + (2 * (sI σ c1 10))) σ _ h) lv_X10_127 h9 h10 rfl rfl dX10_drinkByLook_34 (cat8 (Nat.le_of_ble_eq_true rfl)) hrm ⟨Nat.le_of_ble_eq_true rfl, Nat.le_of_ble_eq_true rfl⟩ (fun x11 h => ?_)
    refine y_imul hg dX10_drinkByLook_37 ?_
    refine y_bipush (v := 100) hg dX10_drinkByLook_38 (by decide) ?_
    refine y_idiv hg dX10_drinkByLook_40 (by decide) ?_
    exact yEndI hend rfl dX10_drinkByLook_41 ⟨h, rfl⟩
  · replace h := h.1 q4
    refine y_iconst (v := (-1)) hg dX10_drinkByLook_8 (by decide) ?_
    exact yEndI hend rfl dX10_drinkByLook_9 ⟨h, rfl⟩
def P_X10_bedOf (a0 : Nat) (v1 : Int32) (v2 : Int32) (σ : Sg) (Q : Int32 → Prop) : Prop :=
  sK σ a0 % 32 = 12 ∧ P_X10_bedAt a0 v1 σ (fun r2 => (r2 = none → Q (-1)) ∧ (∀ c3 : Nat, r2 = some c3 → ∀ y6 : Int32, y6 = v2 → (y6 = 0 → sK σ c3 % 32 = 2 ∧ Q (sI σ c3 0)) ∧ (¬ (y6 = 0) → (y6 = 1 → sK σ c3 % 32 = 2 ∧ Q (sI σ c3 1)) ∧ (¬ (y6 = 1) → (y6 = 2 → sK σ c3 % 32 = 2 ∧ ((sI σ c3 2) = 0 → Q 0) ∧ (¬ ((sI σ c3 2) = 0) → Q 1)) ∧ (¬ (y6 = 2) → (y6 = 3 → sK σ c3 % 32 = 2 ∧ Q (sI σ c3 3)) ∧ (¬ (y6 = 3) → (y6 = 4 → sK σ c3 % 32 = 2 ∧ Q (sI σ c3 4)) ∧ (¬ (y6 = 4) → (y6 = 5 → sK σ c3 % 32 = 2 ∧ Q (sI σ c3 5)) ∧ (¬ (y6 = 5) → (y6 = 6 → sK σ c3 % 32 = 2 ∧ Q (sI σ c3 6)) ∧ (¬ (y6 = 6) → (y6 = 7 → sK σ c3 % 32 = 2 ∧ ((sI σ c3 7) = 0 → Q 0) ∧ (¬ ((sI σ c3 7) = 0) → Q 1)) ∧ (¬ (y6 = 7) → (y6 = 8 → sK σ c3 % 32 = 2 ∧ Q (sI σ c3 8)) ∧ (¬ (y6 = 8) → (y6 = 9 → sK σ c3 % 32 = 2 ∧ Q (sI σ c3 9)) ∧ (¬ (y6 = 9) → (y6 = 10 → sK σ c3 % 32 = 2 ∧ P_X0_drink c3 (sR σ a0 8) σ (fun x21 => Q x21)) ∧ (¬ (y6 = 10) → (y6 = 11 → sK σ c3 % 32 = 2 ∧ Q (sI σ c3 10)) ∧ (¬ (y6 = 11) → (y6 = 12 → P_X10_drinkByLook a0 r2 13 σ (fun x23 => Q x23)) ∧ (¬ (y6 = 12) → (y6 = 13 → P_X10_drinkByLook a0 r2 14 σ (fun x24 => Q x24)) ∧ (¬ (y6 = 13) → Q (-1)))))))))))))))))
set_option maxHeartbeats 4000000 in
set_option maxRecDepth 100000 in
theorem k_X10_bedOf (l : Launch) (D : Dg) (a0 : Nat) (v1 : Int32) (v2 : Int32) (σ : Sg) (Q : Int32 → Prop) (h : P_X10_bedOf a0 v1 v2 σ Q) : CtrY RN l D yX10_bedOf cX10_bedOf 4 (some FieldType.int) 5 108 mkI [.ref a0, .int v1, .int v2] σ (0, 0) (fun r σ2 => Q r ∧ σ2 = σ) := by
  refine y_ctrN (lv := [(0, va_rf (some a0)), (1, .int v1), (2, .int v2)]) (by decide) (by (exact Nat.le_of_ble_eq_true rfl)) (by (exact rfl)) (fun g hg hgL hgD hrm hgN hgI hend => ?_)
  subst hgD
  clear hgL
  unfold P_X10_bedOf at h
  refine y_aload_n hg 0 dX10_bedOf_0 rfl rfl ?_
  refine y_iload_n hg 1 dX10_bedOf_1 rfl rfl ?_
  obtain ⟨h1, h⟩ := h
  refine yVRP (Qp := _) (rest := []) (As := [.int v1]) hg (k_X10_bedAt (gL g.1) (gD g.1) a0 v1 σ _ h) lv_X10_136 rfl h1 rfl rfl dX10_bedOf_2 (cat8 (Nat.le_of_ble_eq_true rfl)) hrm ⟨Nat.le_of_ble_eq_true rfl, Nat.le_of_ble_eq_true rfl⟩ (fun r2 h => ?_)
  refine y_astore_n (lv' := [(3, va_rf r2), (0, va_rf (some a0)), (1, .int v1), (2, .int v2)]) hg dX10_bedOf_5 rfl (by rw [hgN]; decide) rfl ?_
  refine y_aload_n hg 0 dX10_bedOf_6 rfl rfl ?_
  refine y_ifnonnull (tgt := 12) hg dX10_bedOf_7 (by decide) (fun c3 h5 => ?_) (fun h4 => ?_)
  · replace h := h.2 c3 h5
    refine y_iload_n hg 3 dX10_bedOf_12 rfl rfl ?_
    refine y_nmI (fun y6 e7 => ?_)
    replace h := h y6 e7
    by_cases q13_0 : y6 = 0
    · replace h := h.1 q13_0
      refine y_tableIn (tgt := 84) hg dX10_bedOf_13 (by rw [q13_0]; decide) (by rw [q13_0]; decide) (by rw [q13_0]; rfl) (by decide) ?_
      refine y_aload_n hg 0 dX10_bedOf_84 rfl rfl ?_
      obtain ⟨h8, h⟩ := h
      refine y_getI hg fl_X10_186 rfl h5 h8 dX10_bedOf_85 ?_
      exact yEndI hend rfl dX10_bedOf_88 ⟨h, rfl⟩
    · replace h := h.2 q13_0
      by_cases q13_1 : y6 = 1
      · replace h := h.1 q13_1
        refine y_tableIn (tgt := 89) hg dX10_bedOf_13 (by rw [q13_1]; decide) (by rw [q13_1]; decide) (by rw [q13_1]; rfl) (by decide) ?_
        refine y_aload_n hg 0 dX10_bedOf_89 rfl rfl ?_
        obtain ⟨h9, h⟩ := h
        refine y_getI hg fl_X10_189 rfl h5 h9 dX10_bedOf_90 ?_
        exact yEndI hend rfl dX10_bedOf_93 ⟨h, rfl⟩
      · replace h := h.2 q13_1
        by_cases q13_2 : y6 = 2
        · replace h := h.1 q13_2
          refine y_tableIn (tgt := 94) hg dX10_bedOf_13 (by rw [q13_2]; decide) (by rw [q13_2]; decide) (by rw [q13_2]; rfl) (by decide) ?_
          refine y_aload_n hg 0 dX10_bedOf_94 rfl rfl ?_
          obtain ⟨h10, h⟩ := h
          refine y_getI hg fl_X10_192 rfl h5 h10 dX10_bedOf_95 ?_
          refine y_if_eq (tgt := 105) hg dX10_bedOf_98 (by decide) (fun q11 => ?_) (fun q11 => ?_)
          · replace h := h.1 q11
            refine y_iconst (v := 0) hg dX10_bedOf_105 (by decide) ?_
            exact yEndI hend rfl dX10_bedOf_106 ⟨h, rfl⟩
          · replace h := h.2 q11
            refine y_iconst (v := 1) hg dX10_bedOf_101 (by decide) ?_
            refine y_goto (tgt := 106) hg dX10_bedOf_102 (by decide) ?_
            exact yEndI hend rfl dX10_bedOf_106 ⟨h, rfl⟩
        · replace h := h.2 q13_2
          by_cases q13_3 : y6 = 3
          · replace h := h.1 q13_3
            refine y_tableIn (tgt := 107) hg dX10_bedOf_13 (by rw [q13_3]; decide) (by rw [q13_3]; decide) (by rw [q13_3]; rfl) (by decide) ?_
            refine y_aload_n hg 0 dX10_bedOf_107 rfl rfl ?_
            obtain ⟨h12, h⟩ := h
            refine y_getI hg fl_X10_195 rfl h5 h12 dX10_bedOf_108 ?_
            exact yEndI hend rfl dX10_bedOf_111 ⟨h, rfl⟩
          · replace h := h.2 q13_3
            by_cases q13_4 : y6 = 4
            · replace h := h.1 q13_4
              refine y_tableIn (tgt := 112) hg dX10_bedOf_13 (by rw [q13_4]; decide) (by rw [q13_4]; decide) (by rw [q13_4]; rfl) (by decide) ?_
              refine y_aload_n hg 0 dX10_bedOf_112 rfl rfl ?_
              obtain ⟨h13, h⟩ := h
              refine y_getI hg fl_X10_198 rfl h5 h13 dX10_bedOf_113 ?_
              exact yEndI hend rfl dX10_bedOf_116 ⟨h, rfl⟩
            · replace h := h.2 q13_4
              by_cases q13_5 : y6 = 5
              · replace h := h.1 q13_5
                refine y_tableIn (tgt := 117) hg dX10_bedOf_13 (by rw [q13_5]; decide) (by rw [q13_5]; decide) (by rw [q13_5]; rfl) (by decide) ?_
                refine y_aload_n hg 0 dX10_bedOf_117 rfl rfl ?_
                obtain ⟨h14, h⟩ := h
                refine y_getI hg fl_X10_201 rfl h5 h14 dX10_bedOf_118 ?_
                exact yEndI hend rfl dX10_bedOf_121 ⟨h, rfl⟩
              · replace h := h.2 q13_5
                by_cases q13_6 : y6 = 6
                · replace h := h.1 q13_6
                  refine y_tableIn (tgt := 122) hg dX10_bedOf_13 (by rw [q13_6]; decide) (by rw [q13_6]; decide) (by rw [q13_6]; rfl) (by decide) ?_
                  refine y_aload_n hg 0 dX10_bedOf_122 rfl rfl ?_
                  obtain ⟨h15, h⟩ := h
                  refine y_getI hg fl_X10_144 rfl h5 h15 dX10_bedOf_123 ?_
                  exact yEndI hend rfl dX10_bedOf_126 ⟨h, rfl⟩
                · replace h := h.2 q13_6
                  by_cases q13_7 : y6 = 7
                  · replace h := h.1 q13_7
                    refine y_tableIn (tgt := 127) hg dX10_bedOf_13 (by rw [q13_7]; decide) (by rw [q13_7]; decide) (by rw [q13_7]; rfl) (by decide) ?_
                    refine y_aload_n hg 0 dX10_bedOf_127 rfl rfl ?_
                    obtain ⟨h16, h⟩ := h
                    refine y_getI hg fl_X10_153 rfl h5 h16 dX10_bedOf_128 ?_
                    refine y_if_eq (tgt := 138) hg dX10_bedOf_131 (by decide) (fun q17 => ?_) (fun q17 => ?_)
                    · replace h := h.1 q17
                      refine y_iconst (v := 0) hg dX10_bedOf_138 (by decide) ?_
                      exact yEndI hend rfl dX10_bedOf_139 ⟨h, rfl⟩
                    · replace h := h.2 q17
                      refine y_iconst (v := 1) hg dX10_bedOf_134 (by decide) ?_
                      refine y_goto (tgt := 139) hg dX10_bedOf_135 (by decide) ?_
                      exact yEndI hend rfl dX10_bedOf_139 ⟨h, rfl⟩
                  · replace h := h.2 q13_7
                    by_cases q13_8 : y6 = 8
                    · replace h := h.1 q13_8
                      refine y_tableIn (tgt := 140) hg dX10_bedOf_13 (by rw [q13_8]; decide) (by rw [q13_8]; decide) (by rw [q13_8]; rfl) (by decide) ?_
                      refine y_aload_n hg 0 dX10_bedOf_140 rfl rfl ?_
                      obtain ⟨h18, h⟩ := h
                      refine y_getI hg fl_X10_204 rfl h5 h18 dX10_bedOf_141 ?_
                      exact yEndI hend rfl dX10_bedOf_144 ⟨h, rfl⟩
                    · replace h := h.2 q13_8
                      by_cases q13_9 : y6 = 9
                      · replace h := h.1 q13_9
                        refine y_tableIn (tgt := 145) hg dX10_bedOf_13 (by rw [q13_9]; decide) (by rw [q13_9]; decide) (by rw [q13_9]; rfl) (by decide) ?_
                        refine y_aload_n hg 0 dX10_bedOf_145 rfl rfl ?_
                        obtain ⟨h19, h⟩ := h
                        refine y_getI hg fl_X10_207 rfl h5 h19 dX10_bedOf_146 ?_
                        exact yEndI hend rfl dX10_bedOf_149 ⟨h, rfl⟩
                      · replace h := h.2 q13_9
                        by_cases q13_10 : y6 = 10
                        · replace h := h.1 q13_10
                          refine y_tableIn (tgt := 150) hg dX10_bedOf_13 (by rw [q13_10]; decide) (by rw [q13_10]; decide) (by rw [q13_10]; rfl) (by decide) ?_
                          refine y_aload_n hg 0 dX10_bedOf_150 rfl rfl ?_
                          refine y_aload_n hg 1 dX10_bedOf_151 rfl rfl ?_
                          refine y_getR hg fl_X10_51 rfl rfl h1 dX10_bedOf_152 ?_
                          obtain ⟨h20, h⟩ := h
                          refine yVIP (Qp := _) (rest := []) (As := [va_rf (sR σ a0 8)]) hg (k_X0_drink (gL g.1) (gD g.1) c3 (sR σ a0 8) σ _ h) lv_X10_210 h5 h20 rfl rfl dX10_bedOf_155 (cat8 (Nat.le_of_ble_eq_true rfl)) hrm ⟨Nat.le_of_ble_eq_true rfl, Nat.le_of_ble_eq_true rfl⟩ (fun x21 h => ?_)
                          exact yEndI hend rfl dX10_bedOf_158 ⟨h, rfl⟩
                        · replace h := h.2 q13_10
                          by_cases q13_11 : y6 = 11
                          · replace h := h.1 q13_11
                            refine y_tableIn (tgt := 159) hg dX10_bedOf_13 (by rw [q13_11]; decide) (by rw [q13_11]; decide) (by rw [q13_11]; rfl) (by decide) ?_
                            refine y_aload_n hg 0 dX10_bedOf_159 rfl rfl ?_
                            obtain ⟨h22, h⟩ := h
                            refine y_getI hg fl_X10_214 rfl h5 h22 dX10_bedOf_160 ?_
                            exact yEndI hend rfl dX10_bedOf_163 ⟨h, rfl⟩
                          · replace h := h.2 q13_11
                            by_cases q13_12 : y6 = 12
                            · replace h := h.1 q13_12
                              refine y_tableIn (tgt := 164) hg dX10_bedOf_13 (by rw [q13_12]; decide) (by rw [q13_12]; decide) (by rw [q13_12]; rfl) (by decide) ?_
                              refine y_aload_n hg 1 dX10_bedOf_164 rfl rfl ?_
                              refine y_aload_n hg 0 dX10_bedOf_165 rfl rfl ?_
                              refine y_bipush (v := 13) hg dX10_bedOf_166 (by decide) ?_
                              refine yVIP (Qp := _) (rest := []) (As := [va_rf r2, .int 13]) hg (k_X10_drinkByLook (gL g.1) (gD g.1) a0 r2 13 σ _ h) lv_X10_217 rfl h1 rfl rfl dX10_bedOf_168 (cat8 (Nat.le_of_ble_eq_true rfl)) hrm ⟨Nat.le_of_ble_eq_true rfl, Nat.le_of_ble_eq_true rfl⟩ (fun x23 h => ?_)
                              exact yEndI hend rfl dX10_bedOf_171 ⟨h, rfl⟩
                            · replace h := h.2 q13_12
                              by_cases q13_13 : y6 = 13
                              · replace h := h.1 q13_13
                                refine y_tableIn (tgt := 172) hg dX10_bedOf_13 (by rw [q13_13]; decide) (by rw [q13_13]; decide) (by rw [q13_13]; rfl) (by decide) ?_
                                refine y_aload_n hg 1 dX10_bedOf_172 rfl rfl ?_
                                refine y_aload_n hg 0 dX10_bedOf_173 rfl rfl ?_
                                refine y_bipush (v := 14) hg dX10_bedOf_174 (by decide) ?_
                                refine yVIP (Qp := _) (rest := []) (As := [va_rf r2, .int 14]) hg (k_X10_drinkByLook (gL g.1) (gD g.1) a0 r2 14 σ _ h) lv_X10_217 rfl h1 rfl rfl dX10_bedOf_176 (cat8 (Nat.le_of_ble_eq_true rfl)) hrm ⟨Nat.le_of_ble_eq_true rfl, Nat.le_of_ble_eq_true rfl⟩ (fun x24 h => ?_)
                                exact yEndI hend rfl dX10_bedOf_179 ⟨h, rfl⟩
                              · replace h := h.2 q13_13
                                refine y_tableOut (tgt := 180) hg dX10_bedOf_13 (sw13_out q13_0 q13_1 q13_2 q13_3 q13_4 q13_5 q13_6 q13_7 q13_8 q13_9 q13_10 q13_11 q13_12 q13_13) (by decide) ?_
                                refine y_iconst (v := (-1)) hg dX10_bedOf_180 (by decide) ?_
                                exact yEndI hend rfl dX10_bedOf_181 ⟨h, rfl⟩
  · replace h := h.1 h4
    refine y_iconst (v := (-1)) hg dX10_bedOf_10 (by decide) ?_
    exact yEndI hend rfl dX10_bedOf_11 ⟨h, rfl⟩
def P_X10_roofOf (a0 : Nat) (v1 : Int32) (v2 : Int32) (σ : Sg) (Q : Int32 → Prop) : Prop :=
  sK σ a0 % 32 = 12 ∧ P_X10_roofAt a0 v1 σ (fun r2 => (r2 = none → Q (-1)) ∧ (∀ c3 : Nat, r2 = some c3 → ∀ y6 : Int32, y6 = v2 → (y6 = 0 → sK σ c3 % 32 = 8 ∧ Q (sI σ c3 0)) ∧ (¬ (y6 = 0) → (y6 = 1 → sK σ c3 % 32 = 8 ∧ Q (sI σ c3 1)) ∧ (¬ (y6 = 1) → (y6 = 2 → sK σ c3 % 32 = 8 ∧ Q (sI σ c3 2)) ∧ (¬ (y6 = 2) → (y6 = 3 → sK σ c3 % 32 = 8 ∧ Q (sI σ c3 3)) ∧ (¬ (y6 = 3) → (y6 = 4 → sK σ c3 % 32 = 8 ∧ Q (sI σ c3 4)) ∧ (¬ (y6 = 4) → (y6 = 5 → sK σ c3 % 32 = 8 ∧ Q (sI σ c3 5)) ∧ (¬ (y6 = 5) → Q (-1)))))))))
set_option maxHeartbeats 4000000 in
set_option maxRecDepth 100000 in
theorem k_X10_roofOf (l : Launch) (D : Dg) (a0 : Nat) (v1 : Int32) (v2 : Int32) (σ : Sg) (Q : Int32 → Prop) (h : P_X10_roofOf a0 v1 v2 σ Q) : CtrY RN l D yX10_roofOf cX10_roofOf 4 (some FieldType.int) 4 85 mkI [.ref a0, .int v1, .int v2] σ (0, 0) (fun r σ2 => Q r ∧ σ2 = σ) := by
  refine y_ctrN (lv := [(0, va_rf (some a0)), (1, .int v1), (2, .int v2)]) (by decide) (by (exact Nat.le_of_ble_eq_true rfl)) (by (exact rfl)) (fun g hg hgL hgD hrm hgN hgI hend => ?_)
  subst hgD
  clear hgL
  unfold P_X10_roofOf at h
  refine y_aload_n hg 0 dX10_roofOf_0 rfl rfl ?_
  refine y_iload_n hg 1 dX10_roofOf_1 rfl rfl ?_
  obtain ⟨h1, h⟩ := h
  refine yVRP (Qp := _) (rest := []) (As := [.int v1]) hg (k_X10_roofAt (gL g.1) (gD g.1) a0 v1 σ _ h) lv_X10_157 rfl h1 rfl rfl dX10_roofOf_2 (cat8 (Nat.le_of_ble_eq_true rfl)) hrm ⟨Nat.le_of_ble_eq_true rfl, Nat.le_of_ble_eq_true rfl⟩ (fun r2 h => ?_)
  refine y_astore_n (lv' := [(3, va_rf r2), (0, va_rf (some a0)), (1, .int v1), (2, .int v2)]) hg dX10_roofOf_5 rfl (by rw [hgN]; decide) rfl ?_
  refine y_aload_n hg 0 dX10_roofOf_6 rfl rfl ?_
  refine y_ifnonnull (tgt := 12) hg dX10_roofOf_7 (by decide) (fun c3 h5 => ?_) (fun h4 => ?_)
  · replace h := h.2 c3 h5
    refine y_iload_n hg 3 dX10_roofOf_12 rfl rfl ?_
    refine y_nmI (fun y6 e7 => ?_)
    replace h := h y6 e7
    by_cases q13_0 : y6 = 0
    · replace h := h.1 q13_0
      refine y_tableIn (tgt := 52) hg dX10_roofOf_13 (by rw [q13_0]; decide) (by rw [q13_0]; decide) (by rw [q13_0]; rfl) (by decide) ?_
      refine y_aload_n hg 0 dX10_roofOf_52 rfl rfl ?_
      obtain ⟨h8, h⟩ := h
      refine y_getI hg fl_X10_221 rfl h5 h8 dX10_roofOf_53 ?_
      exact yEndI hend rfl dX10_roofOf_56 ⟨h, rfl⟩
    · replace h := h.2 q13_0
      by_cases q13_1 : y6 = 1
      · replace h := h.1 q13_1
        refine y_tableIn (tgt := 57) hg dX10_roofOf_13 (by rw [q13_1]; decide) (by rw [q13_1]; decide) (by rw [q13_1]; rfl) (by decide) ?_
        refine y_aload_n hg 0 dX10_roofOf_57 rfl rfl ?_
        obtain ⟨h9, h⟩ := h
        refine y_getI hg fl_X10_224 rfl h5 h9 dX10_roofOf_58 ?_
        exact yEndI hend rfl dX10_roofOf_61 ⟨h, rfl⟩
      · replace h := h.2 q13_1
        by_cases q13_2 : y6 = 2
        · replace h := h.1 q13_2
          refine y_tableIn (tgt := 62) hg dX10_roofOf_13 (by rw [q13_2]; decide) (by rw [q13_2]; decide) (by rw [q13_2]; rfl) (by decide) ?_
          refine y_aload_n hg 0 dX10_roofOf_62 rfl rfl ?_
          obtain ⟨h10, h⟩ := h
          refine y_getI hg fl_X10_227 rfl h5 h10 dX10_roofOf_63 ?_
          exact yEndI hend rfl dX10_roofOf_66 ⟨h, rfl⟩
        · replace h := h.2 q13_2
          by_cases q13_3 : y6 = 3
          · replace h := h.1 q13_3
            refine y_tableIn (tgt := 67) hg dX10_roofOf_13 (by rw [q13_3]; decide) (by rw [q13_3]; decide) (by rw [q13_3]; rfl) (by decide) ?_
            refine y_aload_n hg 0 dX10_roofOf_67 rfl rfl ?_
            obtain ⟨h11, h⟩ := h
            refine y_getI hg fl_X10_161 rfl h5 h11 dX10_roofOf_68 ?_
            exact yEndI hend rfl dX10_roofOf_71 ⟨h, rfl⟩
          · replace h := h.2 q13_3
            by_cases q13_4 : y6 = 4
            · replace h := h.1 q13_4
              refine y_tableIn (tgt := 72) hg dX10_roofOf_13 (by rw [q13_4]; decide) (by rw [q13_4]; decide) (by rw [q13_4]; rfl) (by decide) ?_
              refine y_aload_n hg 0 dX10_roofOf_72 rfl rfl ?_
              obtain ⟨h12, h⟩ := h
              refine y_getI hg fl_X10_228 rfl h5 h12 dX10_roofOf_73 ?_
              exact yEndI hend rfl dX10_roofOf_76 ⟨h, rfl⟩
            · replace h := h.2 q13_4
              by_cases q13_5 : y6 = 5
              · replace h := h.1 q13_5
                refine y_tableIn (tgt := 77) hg dX10_roofOf_13 (by rw [q13_5]; decide) (by rw [q13_5]; decide) (by rw [q13_5]; rfl) (by decide) ?_
                refine y_aload_n hg 0 dX10_roofOf_77 rfl rfl ?_
                obtain ⟨h13, h⟩ := h
                refine y_getI hg fl_X10_229 rfl h5 h13 dX10_roofOf_78 ?_
                exact yEndI hend rfl dX10_roofOf_81 ⟨h, rfl⟩
              · replace h := h.2 q13_5
                refine y_tableOut (tgt := 82) hg dX10_roofOf_13 (sw5_out q13_0 q13_1 q13_2 q13_3 q13_4 q13_5) (by decide) ?_
                refine y_iconst (v := (-1)) hg dX10_roofOf_82 (by decide) ?_
                exact yEndI hend rfl dX10_roofOf_83 ⟨h, rfl⟩
  · replace h := h.1 h4
    refine y_iconst (v := (-1)) hg dX10_roofOf_10 (by decide) ?_
    exact yEndI hend rfl dX10_roofOf_11 ⟨h, rfl⟩
def P_X10_tellComplaint_L2b (a0 : Nat) (v1 : Int32) (v2 : Int32) (v3 : Int32) (σ : Sg) (b : Nat × Nat) (Q : Int32 → Sg → Prop) (K2 : Int32 → Sg → Prop) : Prop :=
  sK σ a0 % 32 = 12 ∧ ∃ c2 : Nat, sR σ a0 3 = some c2 ∧ sK σ c2 % 32 = 1 ∧ P_Jx4a65c_size_8abf5 c2 σ (fun x5 => (x5 ≤ v3 → ∃ c7 : Nat, sR σ a0 3 = some c7 ∧ sK σ c7 % 32 = 1 ∧ P_Jx4a65c_size_8abf5 c7 σ (fun x10 => (x10 < 60 → ∃ κ12 q16 : Nat, κ12 % 32 = 3 ∧ 1 ≤ b.1 ∧ 6 ≤ b.2 ∧ sK σ q16 = 0 ∧ 1000 ≤ q16 ∧ (∀ z, sR σ a0 3 = some z → ¬ sK σ z = 0) ∧ ∀ σ20 : Sg, σ20 = nw σ q16 κ12 0 → P_X1_init q16 v1 v2 (sI σ20 a0 15) σ20 (fun _ σ24 => ∃ c28 : Nat, sR σ a0 3 = some c28 ∧ sK σ24 c28 % 32 = 1 ∧ ∃ bc33 : Nat × Nat, bc33.1 ≤ b.1 - 1 ∧ bc33.2 ≤ b.2 - 6 ∧ P_Jx4a65c_add_9ea2d c28 (some q16) σ24 bc33 (fun x31 σ32 => ∃ c38 : Nat, sR σ32 a0 3 = some c38 ∧ sK σ32 c38 % 32 = 1 ∧ P_Jx4a65c_size_8abf5 c38 σ32 (fun x41 => Q (x41 - 1) σ32)))) ∧ (¬ (x10 < 60) → Q (-1) σ))) ∧ (¬ (x5 ≤ v3) → ∃ c42 : Nat, sR σ a0 3 = some c42 ∧ sK σ c42 % 32 = 1 ∧ P_Jx4a65c_get_915e3 c42 v3 σ (fun r45 => ∃ c46 : Nat, r45 = some c46 ∧ sK σ c46 % 32 = 3 ∧ P_X1_joins c46 v1 v2 (sI σ a0 15) σ (fun x49 σ50 => (x49 = 0 → ∀ x54 : Int32, x54 = v3 + 1 → K2 x54 σ50) ∧ (¬ (x49 = 0) → Q v3 σ50)))))
def P_X10_tellComplaint_L2 (a0 : Nat) (v1 : Int32) (v2 : Int32) (v3 : Int32) (σ : Sg) (b : Nat × Nat) (Q : Int32 → Sg → Prop) : Prop :=
  ∃ I : Nat → Int32 → Sg → Prop, (∃ n, I n v3 σ) ∧ ∀ (n : Nat) (v3 : Int32) (σ : Sg), I n v3 σ → P_X10_tellComplaint_L2b a0 v1 v2 v3 σ b Q (fun v3 σ => ∃ n', n' < n ∧ I n' v3 σ)
def P_X10_tellComplaint (a0 : Nat) (v1 : Int32) (v2 : Int32) (σ : Sg) (b : Nat × Nat) (Q : Int32 → Sg → Prop) : Prop :=
  P_X10_tellComplaint_L2 a0 v1 v2 0 σ (b.1, b.2) Q
set_option maxHeartbeats 4000000 in
set_option maxRecDepth 100000 in
theorem k_X10_tellComplaint (l : Launch) (D : Dg) (a0 : Nat) (v1 : Int32) (v2 : Int32) (σ : Sg) (b : Nat × Nat) (Q : Int32 → Sg → Prop) (h : P_X10_tellComplaint a0 v1 v2 σ b Q) : CtrY RA l D yX10_tellComplaint cX10_tellComplaint 4 (some FieldType.int) 7 171 mkI [.ref a0, .int v1, .int v2] σ b Q := by
  refine y_ctrA (lv := [(0, va_rf (some a0)), (1, .int v1), (2, .int v2)]) (by decide) (by (exact Nat.le_of_ble_eq_true rfl)) (by (exact rfl)) (fun g hg hgL hgD hrm hgN hgI hend hal => ?_)
  subst hgD
  clear hgL
  unfold P_X10_tellComplaint at h
  have J2 : ∀ (v1 : Int32) (v2 : Int32) (v3 : Int32) (σ : Sg) (b : Nat × Nat), P_X10_tellComplaint_L2 a0 v1 v2 v3 σ b Q → XA g 2 [(0, va_rf (some a0)), (1, .int v1), (2, .int v2), (3, .int v3)] [] σ b := by
    intro v1 v2 v3 σ b h
    unfold P_X10_tellComplaint_L2 at h
    obtain ⟨I2, ⟨n2, hI2⟩, hs2⟩ := h
    have key2 : ∀ (n : Nat), ∀ (v3 : Int32) (σ : Sg), I2 n v3 σ → XA g 2 [(0, va_rf (some a0)), (1, .int v1), (2, .int v2), (3, .int v3)] [] σ b := by
      intro n
      induction n using Nat.strongRecOn with
      | _ n ih2 =>
      intro v3 σ hI
      have h := hs2 n v3 σ hI
      clear hI hI2 hs2
      obtain ⟨K2, hK2⟩ : ∃ K : Int32 → Sg → Prop, K = (fun v3 σ => ∃ n', n' < n ∧ I2 n' v3 σ) := ⟨_, rfl⟩
      rw [← hK2] at h
      unfold P_X10_tellComplaint_L2b at h
      refine y_iload_n hg 3 dX10_tellComplaint_2 rfl rfl ?_
      refine y_aload_n hg 0 dX10_tellComplaint_3 rfl rfl ?_
      obtain ⟨h1, h⟩ := h
      refine y_getR hg fl_X10_22 rfl rfl h1 dX10_tellComplaint_4 ?_
      obtain ⟨c2, h3, h⟩ := h
      obtain ⟨h4, h⟩ := h
      refine yVIP (Qp := _) (rest := [.int v3]) (As := []) hg (k_Jx4a65c_size_8abf5 (gL g.1) (gD g.1) c2 σ _ h) lv_X10_87 h3 h4 rfl rfl dX10_tellComplaint_7 (cat8 (Nat.le_of_ble_eq_true rfl)) hrm ⟨Nat.le_of_ble_eq_true rfl, Nat.le_of_ble_eq_true rfl⟩ (fun x5 h => ?_)
      refine y_icmp_ge (tgt := 44) hg dX10_tellComplaint_10 (by decide) (fun q6 => ?_) (fun q6 => ?_)
      · replace h := h.1 q6
        refine y_aload_n hg 0 dX10_tellComplaint_44 rfl rfl ?_
        refine y_getR hg fl_X10_22 rfl rfl h1 dX10_tellComplaint_45 ?_
        obtain ⟨c7, h8, h⟩ := h
        obtain ⟨h9, h⟩ := h
        refine yVIP (Qp := _) (rest := []) (As := []) hg (k_Jx4a65c_size_8abf5 (gL g.1) (gD g.1) c7 σ _ h) lv_X10_87 h8 h9 rfl rfl dX10_tellComplaint_48 (cat8 (Nat.le_of_ble_eq_true rfl)) hrm ⟨Nat.le_of_ble_eq_true rfl, Nat.le_of_ble_eq_true rfl⟩ (fun x10 h => ?_)
        refine y_bipush (v := 60) hg dX10_tellComplaint_51 (by decide) ?_
        refine y_icmp_lt (tgt := 58) hg dX10_tellComplaint_53 (by decide) (fun q11 => ?_) (fun q11 => ?_)
        · replace h := h.1 q11
          refine y_aload_n hg 0 dX10_tellComplaint_58 rfl rfl ?_
          refine y_getR hg fl_X10_22 rfl rfl h1 dX10_tellComplaint_59 ?_
          obtain ⟨κ12, q16, h13, h14, h15, h17, h18, h⟩ := h
          refine y_sub [0, 1, 2] rfl ?_
          obtain ⟨h19, h⟩ := h
          refine y_new hg hal nl_X10_410 h13 h14 h15 h17 h18 (rll_c (lk_k rfl h1 (by decide)) (rll_c (lk_i _) (rll_c (lk_i _) rll_nil))) (rl_c (lk_r h19) rl_nil) dX10_tellComplaint_62 ?_
          refine y_nmS (fun σ20 e21 => ?_)
          replace h := h σ20 e21
          refine y_dup hg dX10_tellComplaint_65 rfl ?_
          refine y_iload_n hg 1 dX10_tellComplaint_66 rfl rfl ?_
          refine y_iload_n hg 2 dX10_tellComplaint_67 rfl rfl ?_
          refine y_aload_n hg 0 dX10_tellComplaint_68 rfl rfl ?_
          refine y_getI hg fl_X10_120 rfl rfl (kw e21 h17 (by decide) h1) dX10_tellComplaint_69 ?_
          refine yIVW (Qm := _) (rest := [va_rf (some q16), va_rf (sR σ a0 3)]) (As := [.int v1, .int v2, .int (sI σ20 a0 15)]) hg (k_X1_init (gL g.1) (gD g.1) q16 v1 v2 (sI σ20 a0 15) σ20 _ h) li_X10_415 rfl rfl rfl dX10_tellComplaint_72 (cat8 (Nat.le_of_ble_eq_true rfl)) hrm ⟨Nat.le_of_ble_eq_true rfl, Nat.le_of_ble_eq_true rfl⟩ (fun u23 σ24 h h25 => ?_)
          have h26 := kp h25 (show ¬ 12 = 0 by decide) (kw e21 h17 (by decide) h1)
          have h27 := kp h25 (show ¬ 3 = 0 by decide) (kn e21 h13)
          obtain ⟨c28, h29, h⟩ := h
          obtain ⟨h30, h⟩ := h
          obtain ⟨bc33, h34, h35, h⟩ := h
          refine y_sub [0] rfl ?_
          refine yVIA (Qm := _) (rest := []) (As := [va_rf (some q16)]) hg hal (k_Jx4a65c_add_9ea2d (gL g.1) (gD g.1) c28 (some q16) σ24 bc33 _ h) lv_X10_96 h29 h30 rfl rfl dX10_tellComplaint_75 (cat8 (Nat.le_of_ble_eq_true rfl)) hrm ⟨Nat.le_of_ble_eq_true rfl, Nat.le_of_ble_eq_true rfl⟩ h34 h35 (rll_c (lk_k rfl h26 (by decide)) rll_nil) rl_nil (fun x31 σ32 h h36 => ?_)
          have h37 := kp h36 (show ¬ 12 = 0 by decide) h26
          refine y_pop hg dX10_tellComplaint_78 rfl ?_
          refine y_aload_n hg 0 dX10_tellComplaint_79 rfl rfl ?_
          refine y_getR hg fl_X10_22 rfl rfl h37 dX10_tellComplaint_80 ?_
          obtain ⟨c38, h39, h⟩ := h
          obtain ⟨h40, h⟩ := h
          refine yVIP (Qp := _) (rest := []) (As := []) hg (k_Jx4a65c_size_8abf5 (gL g.1) (gD g.1) c38 σ32 _ h) lv_X10_87 h39 h40 rfl rfl dX10_tellComplaint_83 (cat8 (Nat.le_of_ble_eq_true rfl)) hrm ⟨Nat.le_of_ble_eq_true rfl, Nat.le_of_ble_eq_true rfl⟩ (fun x41 h => ?_)
          refine y_iconst (v := 1) hg dX10_tellComplaint_86 (by decide) ?_
          refine y_isub hg dX10_tellComplaint_87 ?_
          exact yEndI hend rfl dX10_tellComplaint_88 h
        · replace h := h.2 q11
          refine y_iconst (v := (-1)) hg dX10_tellComplaint_56 (by decide) ?_
          exact yEndI hend rfl dX10_tellComplaint_57 h
      · replace h := h.2 q6
        refine y_aload_n hg 0 dX10_tellComplaint_13 rfl rfl ?_
        refine y_getR hg fl_X10_22 rfl rfl h1 dX10_tellComplaint_14 ?_
        refine y_iload_n hg 3 dX10_tellComplaint_17 rfl rfl ?_
        obtain ⟨c42, h43, h⟩ := h
        obtain ⟨h44, h⟩ := h
        refine yVRP (Qp := _) (rest := []) (As := [.int v3]) hg (k_Jx4a65c_get_915e3 (gL g.1) (gD g.1) c42 v3 σ _ h) lv_X10_232 h43 h44 rfl rfl dX10_tellComplaint_18 (cat8 (Nat.le_of_ble_eq_true rfl)) hrm ⟨Nat.le_of_ble_eq_true rfl, Nat.le_of_ble_eq_true rfl⟩ (fun r45 h => ?_)
        obtain ⟨c46, h47, h⟩ := h
        obtain ⟨h48, h⟩ := h
        refine y_cast (c := 3) hg (C := RX1) rfl (by decide) cl_X10_410 h47 h48 dX10_tellComplaint_21 ?_
        refine y_iload_n hg 1 dX10_tellComplaint_24 rfl rfl ?_
        refine y_iload_n hg 2 dX10_tellComplaint_25 rfl rfl ?_
        refine y_aload_n hg 0 dX10_tellComplaint_26 rfl rfl ?_
        refine y_getI hg fl_X10_120 rfl rfl h1 dX10_tellComplaint_27 ?_
        refine yVIW (Qm := _) (rest := []) (As := [.int v1, .int v2, .int (sI σ a0 15)]) hg (k_X1_joins (gL g.1) (gD g.1) c46 v1 v2 (sI σ a0 15) σ _ h) lv_X10_412 h47 h48 rfl rfl dX10_tellComplaint_30 (cat8 (Nat.le_of_ble_eq_true rfl)) hrm ⟨Nat.le_of_ble_eq_true rfl, Nat.le_of_ble_eq_true rfl⟩ (fun x49 σ50 h h51 => ?_)
        have h52 := kp h51 (show ¬ 12 = 0 by decide) h1
        refine y_if_eq (tgt := 38) hg dX10_tellComplaint_33 (by decide) (fun q53 => ?_) (fun q53 => ?_)
        · replace h := h.1 q53
          obtain ⟨x54, e55⟩ : ∃ y : Int32, y = v3 + 1 := ⟨_, rfl⟩
          replace h := h x54 e55
          refine y_iinc (v := x54) (lv' := [(3, .int x54), (0, va_rf (some a0)), (1, .int v1), (2, .int v2)]) hg 3 dX10_tellComplaint_38 rfl (by rw [e55]; rfl) (by rw [hgN]; decide) rfl ?_
          refine y_goto (tgt := 2) hg dX10_tellComplaint_41 (by decide) ?_
          refine y_sub [1, 2, 3, 0] rfl ?_
          subst hK2
          obtain ⟨n56, h57, h⟩ := h
          exact ih2 n56 h57 _ _ h
        · replace h := h.2 q53
          refine y_iload_n hg 3 dX10_tellComplaint_36 rfl rfl ?_
          exact yEndI hend rfl dX10_tellComplaint_37 h
    exact key2 n2 v3 σ hI2
  refine y_iconst (v := 0) hg dX10_tellComplaint_0 (by decide) ?_
  refine y_istore_n (lv' := [(3, .int 0), (0, va_rf (some a0)), (1, .int v1), (2, .int v2)]) hg dX10_tellComplaint_1 rfl (by rw [hgN]; decide) rfl ?_
  refine y_sub [1, 2, 3, 0] rfl ?_
  exact J2 _ _ _ _ _ h
