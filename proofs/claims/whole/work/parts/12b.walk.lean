def P_X10_goBy_L149b (a0 : Nat) (v1 : Option Nat) (v3 : Int32) (σ : Sg) (b : Nat × Nat) (Q : Unit → Sg → Prop) (K149 : Int32 → Sg → Prop) : Prop :=
  ∃ c87 : Nat, v1 = some c87 ∧ sK σ c87 % 32 = 6 ∧ ∃ c90 : Nat, sR σ c87 2 = some c90 ∧ sK σ c90 % 32 = 1 ∧ P_Jx4a65c_size_8abf5 c90 σ (fun x93 => (x93 ≤ v3 → Q () σ) ∧ (¬ (x93 ≤ v3) → ∃ c95 : Nat, sR σ c87 2 = some c95 ∧ sK σ c95 % 32 = 1 ∧ P_Jx4a65c_get_915e3 c95 v3 σ (fun r98 => ∃ c99 : Nat, r98 = some c99 ∧ sK σ c99 % 32 = 11 ∧ P_X4_value c87 3 σ (fun x102 => sK σ a0 % 32 = 12 ∧ P_X10_settle a0 r98 x102 σ (fun _ σ105 => ∀ x106 : Int32, x106 = v3 + 1 → K149 x106 σ105)))))
def P_X10_goBy_L149 (a0 : Nat) (v1 : Option Nat) (v3 : Int32) (σ : Sg) (b : Nat × Nat) (Q : Unit → Sg → Prop) : Prop :=
  ∃ I : Nat → Int32 → Sg → Prop, (∃ n, I n v3 σ) ∧ ∀ (n : Nat) (v3 : Int32) (σ : Sg), I n v3 σ → P_X10_goBy_L149b a0 v1 v3 σ b Q (fun v3 σ => ∃ n', n' < n ∧ I n' v3 σ)
def P_X10_goBy_L106b (a0 : Nat) (v1 : Option Nat) (v3 : Int32) (σ : Sg) (b : Nat × Nat) (Q : Unit → Sg → Prop) (K106 : Int32 → Sg → Prop) : Prop :=
  sK σ a0 % 32 = 12 ∧ ∃ c60 : Nat, sR σ a0 1 = some c60 ∧ sK σ c60 % 32 = 1 ∧ P_Jx4a65c_size_8abf5 c60 σ (fun x63 => (x63 ≤ v3 → P_X10_goBy_L149 a0 v1 0 σ (b.1, b.2) Q) ∧ (¬ (x63 ≤ v3) → ∃ c65 : Nat, sR σ a0 13 = some c65 ∧ sK σ c65 % 32 = 17 ∧ vp_in 5 (sN σ c65) ∧ ∃ c69 : Nat, sR σ a0 1 = some c69 ∧ sK σ c69 % 32 = 1 ∧ P_Jx4a65c_get_915e3 c69 v3 σ (fun r72 => ∃ c73 : Nat, r72 = some c73 ∧ sK σ c73 % 32 = 8 ∧ P_X6_give c73 σ (fun x76 σ77 => sK σ77 c65 % 32 = 17 ∧ vp_in 5 (sN σ77 c65) ∧ ∀ σ80 : Sg, σ80 = pL σ77 c65 (5 : Int32).toNatClampNeg ((sL σ c65 (5 : Int32).toNatClampNeg) + x76.toInt64) → ∀ x83 : Int32, x83 = v3 + 1 → K106 x83 σ80))))
def P_X10_goBy_L106 (a0 : Nat) (v1 : Option Nat) (v3 : Int32) (σ : Sg) (b : Nat × Nat) (Q : Unit → Sg → Prop) : Prop :=
  ∃ I : Nat → Int32 → Sg → Prop, (∃ n, I n v3 σ) ∧ ∀ (n : Nat) (v3 : Int32) (σ : Sg), I n v3 σ → P_X10_goBy_L106b a0 v1 v3 σ b Q (fun v3 σ => ∃ n', n' < n ∧ I n' v3 σ)
def P_X10_goBy_B98 (a0 : Nat) (v1 : Option Nat) (v2 : Int32) (v3 : Int32) (σ : Sg) (b : Nat × Nat) (Q : Unit → Sg → Prop) (K11 : Int32 → Sg → (Nat × Nat) → Prop) : Prop :=
  ∀ x55 : Int32, x55 = v3 + 1 → K11 x55 σ (b.1, b.2)
def P_X10_goBy_B91 (a0 : Nat) (v1 : Option Nat) (v2 : Int32) (v3 : Int32) (v4 : Option Nat) (σ : Sg) (b : Nat × Nat) (Q : Unit → Sg → Prop) (K11 : Int32 → Sg → (Nat × Nat) → Prop) : Prop :=
  ∃ c50 : Nat, v4 = some c50 ∧ sK σ c50 % 32 = 2 ∧ P_X0_meetThaw c50 v1 v2 σ (fun _ σ54 => P_X10_goBy_B98 a0 v1 v2 v3 σ54 (b.1, b.2) Q K11)
def P_X10_goBy_L11b (a0 : Nat) (v1 : Option Nat) (v2 : Int32) (v3 : Int32) (σ : Sg) (b : Nat × Nat) (Q : Unit → Sg → Prop) (K11 : Int32 → Sg → (Nat × Nat) → Prop) : Prop :=
  sK σ a0 % 32 = 12 ∧ ∃ c5 : Nat, sR σ a0 0 = some c5 ∧ sK σ c5 % 32 = 1 ∧ P_Jx4a65c_size_8abf5 c5 σ (fun x8 => (x8 ≤ v3 → P_X10_goBy_L106 a0 v1 0 σ (b.1, b.2) Q) ∧ (¬ (x8 ≤ v3) → ∃ c10 : Nat, sR σ a0 0 = some c10 ∧ sK σ c10 % 32 = 1 ∧ P_Jx4a65c_get_915e3 c10 v3 σ (fun r13 => ∃ c14 : Nat, r13 = some c14 ∧ sK σ c14 % 32 = 4 ∧ ∀ r17 : Option Nat, r17 = sR σ c14 5 → (r17 = none → P_X10_goBy_B98 a0 v1 v2 v3 σ (b.1, b.2) Q K11) ∧ (∀ c19 : Nat, r17 = some c19 → sK σ c19 % 32 = 2 ∧ P_X0_clogUp c19 v1 σ (fun _ σ24 => sK σ24 c19 % 32 = 2 ∧ P_X0_shedLeaves c19 v1 v2 σ24 (fun _ σ27 => sK σ27 a0 % 32 = 12 ∧ ∃ c29 : Nat, sR σ27 a0 13 = some c29 ∧ sK σ27 c29 % 32 = 17 ∧ vp_in 1 (sN σ27 c29) ∧ sK σ27 c19 % 32 = 2 ∧ P_X0_drinkForADay c19 (sR σ27 a0 8) σ27 (fun x34 σ35 => sK σ35 c29 % 32 = 17 ∧ vp_in 1 (sN σ35 c29) ∧ ∀ σ38 : Sg, σ38 = pL σ35 c29 (1 : Int32).toNatClampNeg ((sL σ27 c29 (1 : Int32).toNatClampNeg) + x34.toInt64) → sK σ38 c19 % 32 = 2 ∧ P_X0_standsTooLong c19 v1 σ38 (fun x42 => (x42 = 0 → P_X10_goBy_B91 a0 v1 v2 v3 r17 σ38 (b.1, b.2) Q K11) ∧ (¬ (x42 = 0) → sK σ38 a0 % 32 = 12 ∧ ∃ bc47 : Nat × Nat, bc47.1 ≤ b.1 ∧ bc47.2 ≤ b.2 ∧ P_X10_tellComplaint a0 v3 2 σ38 bc47 (fun x45 σ46 => P_X10_goBy_B91 a0 v1 v2 v3 r17 σ46 (b.1 - bc47.1, b.2 - bc47.2) Q K11))))))))))
def P_X10_goBy_L11 (a0 : Nat) (v1 : Option Nat) (v2 : Int32) (v3 : Int32) (σ : Sg) (b : Nat × Nat) (Q : Unit → Sg → Prop) : Prop :=
  ∃ I : Nat → Int32 → Sg → (Nat × Nat) → Prop, (∃ n, I n v3 σ b) ∧ ∀ (n : Nat) (v3 : Int32) (σ : Sg) (b : Nat × Nat), I n v3 σ b → P_X10_goBy_L11b a0 v1 v2 v3 σ b Q (fun v3 σ b => ∃ n', n' < n ∧ I n' v3 σ b)
def P_X10_goBy (a0 : Nat) (v1 : Option Nat) (σ : Sg) (b : Nat × Nat) (Q : Unit → Sg → Prop) : Prop :=
  sK σ a0 % 32 = 12 ∧ ∀ x2 : Int32, x2 = (sI σ a0 15) - (sI σ a0 15) / 365 * 365 → P_X10_goBy_L11 a0 v1 x2 0 σ (b.1, b.2) Q
set_option maxHeartbeats 4000000 in
set_option maxRecDepth 100000 in
theorem k_X10_goBy (l : Launch) (D : Dg) (a0 : Nat) (v1 : Option Nat) (σ : Sg) (b : Nat × Nat) (Q : Unit → Sg → Prop) (h : P_X10_goBy a0 v1 σ b Q) : Ctr l D yX10_goBy cX10_goBy 5 (none) 8 194 mkV [.ref a0, va_rf v1] σ b Q := by
  refine ctr_of (lv := [(0, va_rf (some a0)), (1, va_rf v1)]) (by decide) (by cases v1 <;> (exact Nat.le_of_ble_eq_true rfl)) (by cases v1 <;> (exact rfl)) (fun g hg hgL hgD hrm hgN hgI hend => ?_)
  subst hgD
  clear hgL
  unfold P_X10_goBy at h
  have J149 : ∀ (v1 : Option Nat) (v3 : Int32) (σ : Sg) (b : Nat × Nat), P_X10_goBy_L149 a0 v1 v3 σ b Q → XJ g 149 [(0, va_rf (some a0)), (1, va_rf v1), (3, .int v3)] [] σ b := by
    intro v1 v3 σ b h
    unfold P_X10_goBy_L149 at h
    obtain ⟨I149, ⟨n149, hI149⟩, hs149⟩ := h
    have key149 : ∀ (n : Nat), ∀ (v3 : Int32) (σ : Sg), I149 n v3 σ → XJ g 149 [(0, va_rf (some a0)), (1, va_rf v1), (3, .int v3)] [] σ b := by
      intro n
      induction n using Nat.strongRecOn with
      | _ n ih149 =>
      intro v3 σ hI
      have h := hs149 n v3 σ hI
      clear hI hI149 hs149
      obtain ⟨K149, hK149⟩ : ∃ K : Int32 → Sg → Prop, K = (fun v3 σ => ∃ n', n' < n ∧ I149 n' v3 σ) := ⟨_, rfl⟩
      rw [← hK149] at h
      unfold P_X10_goBy_L149b at h
      refine x_iload_n hg 2 dX10_goBy_149 rfl rfl ?_
      refine x_aload_n hg 1 dX10_goBy_150 rfl rfl ?_
      obtain ⟨c87, h88, h⟩ := h
      obtain ⟨h89, h⟩ := h
      refine x_getR hg fl_X10_272 rfl h88 h89 dX10_goBy_151 ?_
      obtain ⟨c90, h91, h⟩ := h
      obtain ⟨h92, h⟩ := h
      refine xVIP (Qp := _) (rest := [.int v3]) (As := []) hg (k_Jx4a65c_size_8abf5 (gL g) (gD g) c90 σ _ h) lv_X10_87 h91 h92 rfl rfl dX10_goBy_154 (cat8 (Nat.le_of_ble_eq_true rfl)) hrm ⟨Nat.le_of_ble_eq_true rfl, Nat.le_of_ble_eq_true rfl⟩ (fun x93 h => ?_)
      refine x_icmp_ge (tgt := 186) hg dX10_goBy_157 (by decide) (fun q94 => ?_) (fun q94 => ?_)
      · replace h := h.1 q94
        exact endV hend dX10_goBy_186 h
      · replace h := h.2 q94
        refine x_aload_n hg 0 dX10_goBy_160 rfl rfl ?_
        refine x_aload_n hg 1 dX10_goBy_161 rfl rfl ?_
        refine x_getR hg fl_X10_272 rfl h88 h89 dX10_goBy_162 ?_
        refine x_iload_n hg 2 dX10_goBy_165 rfl rfl ?_
        obtain ⟨c95, h96, h⟩ := h
        obtain ⟨h97, h⟩ := h
        refine xVRP (Qp := _) (rest := [va_rf (some a0)]) (As := [.int v3]) hg (k_Jx4a65c_get_915e3 (gL g) (gD g) c95 v3 σ _ h) lv_X10_232 h96 h97 rfl rfl dX10_goBy_166 (cat8 (Nat.le_of_ble_eq_true rfl)) hrm ⟨Nat.le_of_ble_eq_true rfl, Nat.le_of_ble_eq_true rfl⟩ (fun r98 h => ?_)
        obtain ⟨c99, h100, h⟩ := h
        obtain ⟨h101, h⟩ := h
        refine x_cast (c := 11) hg (C := RX9) rfl (by decide) cl_X10_275 h100 h101 dX10_goBy_169 ?_
        refine x_aload_n hg 1 dX10_goBy_172 rfl rfl ?_
        refine x_iconst (v := 3) hg dX10_goBy_173 (by decide) ?_
        refine xVIP (Qp := _) (rest := [va_rf r98, va_rf (some a0)]) (As := [.int 3]) hg (k_X4_value (gL g) (gD g) c87 3 σ _ h) lv_X10_127 h88 h89 rfl rfl dX10_goBy_174 (cat8 (Nat.le_of_ble_eq_true rfl)) hrm ⟨Nat.le_of_ble_eq_true rfl, Nat.le_of_ble_eq_true rfl⟩ (fun x102 h => ?_)
        obtain ⟨h103, h⟩ := h
        refine xVVW (Qm := _) (rest := []) (As := [va_rf r98, .int x102]) hg (k_X10_settle (gL g) (gD g) a0 r98 x102 σ _ h) lv_X10_277 rfl h103 rfl rfl dX10_goBy_177 (cat8 (Nat.le_of_ble_eq_true rfl)) hrm ⟨Nat.le_of_ble_eq_true rfl, Nat.le_of_ble_eq_true rfl⟩ (fun u104 σ105 h => ?_)
        obtain ⟨x106, e107⟩ : ∃ y : Int32, y = v3 + 1 := ⟨_, rfl⟩
        replace h := h x106 e107
        refine x_iinc (v := x106) (lv' := [(3, .int x106), (0, va_rf (some a0)), (1, va_rf v1)]) hg 2 dX10_goBy_180 rfl (by rw [e107]; rfl) (by rw [hgN]; decide) rfl ?_
        refine x_goto (tgt := 149) hg dX10_goBy_183 (by decide) ?_
        refine x_sub [1, 2, 0] rfl ?_
        subst hK149
        obtain ⟨n108, h109, h⟩ := h
        exact ih149 n108 h109 _ _ h
    exact key149 n149 v3 σ hI149
  have J106 : ∀ (v1 : Option Nat) (v3 : Int32) (σ : Sg) (b : Nat × Nat), P_X10_goBy_L106 a0 v1 v3 σ b Q → XJ g 106 [(0, va_rf (some a0)), (1, va_rf v1), (3, .int v3)] [] σ b := by
    intro v1 v3 σ b h
    unfold P_X10_goBy_L106 at h
    obtain ⟨I106, ⟨n106, hI106⟩, hs106⟩ := h
    have key106 : ∀ (n : Nat), ∀ (v3 : Int32) (σ : Sg), I106 n v3 σ → XJ g 106 [(0, va_rf (some a0)), (1, va_rf v1), (3, .int v3)] [] σ b := by
      intro n
      induction n using Nat.strongRecOn with
      | _ n ih106 =>
      intro v3 σ hI
      have h := hs106 n v3 σ hI
      clear hI hI106 hs106
      obtain ⟨K106, hK106⟩ : ∃ K : Int32 → Sg → Prop, K = (fun v3 σ => ∃ n', n' < n ∧ I106 n' v3 σ) := ⟨_, rfl⟩
      rw [← hK106] at h
      unfold P_X10_goBy_L106b at h
      refine x_iload_n hg 2 dX10_goBy_106 rfl rfl ?_
      refine x_aload_n hg 0 dX10_goBy_107 rfl rfl ?_
      obtain ⟨h59, h⟩ := h
      refine x_getR hg fl_X10_16 rfl rfl h59 dX10_goBy_108 ?_
      obtain ⟨c60, h61, h⟩ := h
      obtain ⟨h62, h⟩ := h
      refine xVIP (Qp := _) (rest := [.int v3]) (As := []) hg (k_Jx4a65c_size_8abf5 (gL g) (gD g) c60 σ _ h) lv_X10_87 h61 h62 rfl rfl dX10_goBy_111 (cat8 (Nat.le_of_ble_eq_true rfl)) hrm ⟨Nat.le_of_ble_eq_true rfl, Nat.le_of_ble_eq_true rfl⟩ (fun x63 h => ?_)
      refine x_icmp_ge (tgt := 147) hg dX10_goBy_114 (by decide) (fun q64 => ?_) (fun q64 => ?_)
      · replace h := h.1 q64
        refine x_iconst (v := 0) hg dX10_goBy_147 (by decide) ?_
        refine x_istore_n (lv' := [(3, .int 0), (0, va_rf (some a0)), (1, va_rf v1)]) hg dX10_goBy_148 rfl (by rw [hgN]; decide) rfl ?_
        refine x_sub [1, 2, 0] rfl ?_
        exact J149 _ _ _ _ h
      · replace h := h.2 q64
        refine x_aload_n hg 0 dX10_goBy_117 rfl rfl ?_
        refine x_getR hg fl_X10_69 rfl rfl h59 dX10_goBy_118 ?_
        refine x_iconst (v := 5) hg dX10_goBy_121 (by decide) ?_
        refine x_dup2 hg dX10_goBy_122 rfl (rf_cat _) ?_
        obtain ⟨c65, h66, h⟩ := h
        obtain ⟨h67, h⟩ := h
        obtain ⟨h68, h⟩ := h
        refine x_lald hg h66 h67 h68 dX10_goBy_123 ?_
        refine x_aload_n hg 0 dX10_goBy_124 rfl rfl ?_
        refine x_getR hg fl_X10_16 rfl rfl h59 dX10_goBy_125 ?_
        refine x_iload_n hg 2 dX10_goBy_128 rfl rfl ?_
        obtain ⟨c69, h70, h⟩ := h
        obtain ⟨h71, h⟩ := h
        refine xVRP (Qp := _) (rest := [.long (sL σ c65 (5 : Int32).toNatClampNeg), .int 5, va_rf (sR σ a0 13)]) (As := [.int v3]) hg (k_Jx4a65c_get_915e3 (gL g) (gD g) c69 v3 σ _ h) lv_X10_232 h70 h71 rfl rfl dX10_goBy_129 (cat8 (Nat.le_of_ble_eq_true rfl)) hrm ⟨Nat.le_of_ble_eq_true rfl, Nat.le_of_ble_eq_true rfl⟩ (fun r72 h => ?_)
        obtain ⟨c73, h74, h⟩ := h
        obtain ⟨h75, h⟩ := h
        refine x_cast (c := 8) hg (C := RX6) rfl (by decide) cl_X10_107 h74 h75 dX10_goBy_132 ?_
        refine xVIW (Qm := _) (rest := [.long (sL σ c65 (5 : Int32).toNatClampNeg), .int 5, va_rf (sR σ a0 13)]) (As := []) hg (k_X6_give (gL g) (gD g) c73 σ _ h) lv_X10_269 h74 h75 rfl rfl dX10_goBy_135 (cat8 (Nat.le_of_ble_eq_true rfl)) hrm ⟨Nat.le_of_ble_eq_true rfl, Nat.le_of_ble_eq_true rfl⟩ (fun x76 σ77 h => ?_)
        refine x_i2l hg dX10_goBy_138 ?_
        refine x_ladd hg dX10_goBy_139 ?_
        obtain ⟨h78, h⟩ := h
        obtain ⟨h79, h⟩ := h
        refine x_last hg h66 h78 h79 dX10_goBy_140 ?_
        refine x_nmS (fun σ80 e81 => ?_)
        replace h := h σ80 e81
        have E82 : sK σ80 = sK σ77 := by rw [e81]; rfl
        obtain ⟨x83, e84⟩ : ∃ y : Int32, y = v3 + 1 := ⟨_, rfl⟩
        replace h := h x83 e84
        refine x_iinc (v := x83) (lv' := [(3, .int x83), (0, va_rf (some a0)), (1, va_rf v1)]) hg 2 dX10_goBy_141 rfl (by rw [e84]; rfl) (by rw [hgN]; decide) rfl ?_
        refine x_goto (tgt := 106) hg dX10_goBy_144 (by decide) ?_
        refine x_sub [1, 2, 0] rfl ?_
        subst hK106
        obtain ⟨n85, h86, h⟩ := h
        exact ih106 n85 h86 _ _ h
    exact key106 n106 v3 σ hI106
  have J11 : ∀ (v1 : Option Nat) (v2 : Int32) (v3 : Int32) (σ : Sg) (b : Nat × Nat), P_X10_goBy_L11 a0 v1 v2 v3 σ b Q → XJ g 11 [(0, va_rf (some a0)), (1, va_rf v1), (2, .int v2), (3, .int v3)] [] σ b := by
    intro v1 v2 v3 σ b h
    unfold P_X10_goBy_L11 at h
    obtain ⟨I11, ⟨n11, hI11⟩, hs11⟩ := h
    have key11 : ∀ (n : Nat), ∀ (v3 : Int32) (σ : Sg) (b : Nat × Nat), I11 n v3 σ b → XJ g 11 [(0, va_rf (some a0)), (1, va_rf v1), (2, .int v2), (3, .int v3)] [] σ b := by
      intro n
      induction n using Nat.strongRecOn with
      | _ n ih11 =>
      intro v3 σ b hI
      have h := hs11 n v3 σ b hI
      clear hI hI11 hs11
      obtain ⟨K11, hK11⟩ : ∃ K : Int32 → Sg → (Nat × Nat) → Prop, K = (fun v3 σ b => ∃ n', n' < n ∧ I11 n' v3 σ b) := ⟨_, rfl⟩
      rw [← hK11] at h
      unfold P_X10_goBy_L11b at h
      have J98 : ∀ (v3 : Int32) (σ : Sg) (b : Nat × Nat), P_X10_goBy_B98 a0 v1 v2 v3 σ b Q K11 → XJ g 98 [(0, va_rf (some a0)), (1, va_rf v1), (2, .int v2), (3, .int v3)] [] σ b := by
        intro v3 σ b h
        unfold P_X10_goBy_B98 at h
        obtain ⟨x55, e56⟩ : ∃ y : Int32, y = v3 + 1 := ⟨_, rfl⟩
        replace h := h x55 e56
        refine x_iinc (v := x55) (lv' := [(3, .int x55), (0, va_rf (some a0)), (1, va_rf v1), (2, .int v2)]) hg 3 dX10_goBy_98 rfl (by rw [e56]; rfl) (by rw [hgN]; decide) rfl ?_
        refine x_goto (tgt := 11) hg dX10_goBy_101 (by decide) ?_
        refine x_sub [1, 2, 3, 0] rfl ?_
        subst hK11
        obtain ⟨n57, h58, h⟩ := h
        exact ih11 n57 h58 _ _ _ h
      have J91 : ∀ (v3 : Int32) (v4 : Option Nat) (σ : Sg) (b : Nat × Nat), P_X10_goBy_B91 a0 v1 v2 v3 v4 σ b Q K11 → XJ g 91 [(0, va_rf (some a0)), (1, va_rf v1), (2, .int v2), (3, .int v3), (4, va_rf v4)] [] σ b := by
        intro v3 v4 σ b h
        unfold P_X10_goBy_B91 at h
        refine x_aload hg 4 dX10_goBy_91 rfl ?_
        refine x_aload_n hg 1 dX10_goBy_93 rfl rfl ?_
        refine x_iload_n hg 2 dX10_goBy_94 rfl rfl ?_
        obtain ⟨c50, h51, h⟩ := h
        obtain ⟨h52, h⟩ := h
        refine xVVW (Qm := _) (rest := []) (As := [va_rf v1, .int v2]) hg (k_X0_meetThaw (gL g) (gD g) c50 v1 v2 σ _ h) lv_X10_266 h51 h52 rfl rfl dX10_goBy_95 (cat8 (Nat.le_of_ble_eq_true rfl)) hrm ⟨Nat.le_of_ble_eq_true rfl, Nat.le_of_ble_eq_true rfl⟩ (fun u53 σ54 h => ?_)
        refine x_sub [0, 1, 2, 3] rfl ?_
        exact J98 _ _ _ h
      refine x_iload_n hg 3 dX10_goBy_11 rfl rfl ?_
      refine x_aload_n hg 0 dX10_goBy_12 rfl rfl ?_
      obtain ⟨h4, h⟩ := h
      refine x_getR hg fl_X10_10 rfl rfl h4 dX10_goBy_13 ?_
      obtain ⟨c5, h6, h⟩ := h
      obtain ⟨h7, h⟩ := h
      refine xVIP (Qp := _) (rest := [.int v3]) (As := []) hg (k_Jx4a65c_size_8abf5 (gL g) (gD g) c5 σ _ h) lv_X10_87 h6 h7 rfl rfl dX10_goBy_16 (cat8 (Nat.le_of_ble_eq_true rfl)) hrm ⟨Nat.le_of_ble_eq_true rfl, Nat.le_of_ble_eq_true rfl⟩ (fun x8 h => ?_)
      refine x_icmp_ge (tgt := 104) hg dX10_goBy_19 (by decide) (fun q9 => ?_) (fun q9 => ?_)
      · replace h := h.1 q9
        refine x_iconst (v := 0) hg dX10_goBy_104 (by decide) ?_
        refine x_istore_n (lv' := [(3, .int 0), (0, va_rf (some a0)), (1, va_rf v1), (2, .int v2)]) hg dX10_goBy_105 rfl (by rw [hgN]; decide) rfl ?_
        refine x_sub [1, 2, 0] rfl ?_
        exact J106 _ _ _ _ h
      · replace h := h.2 q9
        refine x_aload_n hg 0 dX10_goBy_22 rfl rfl ?_
        refine x_getR hg fl_X10_10 rfl rfl h4 dX10_goBy_23 ?_
        refine x_iload_n hg 3 dX10_goBy_26 rfl rfl ?_
        obtain ⟨c10, h11, h⟩ := h
        obtain ⟨h12, h⟩ := h
        refine xVRP (Qp := _) (rest := []) (As := [.int v3]) hg (k_Jx4a65c_get_915e3 (gL g) (gD g) c10 v3 σ _ h) lv_X10_232 h11 h12 rfl rfl dX10_goBy_27 (cat8 (Nat.le_of_ble_eq_true rfl)) hrm ⟨Nat.le_of_ble_eq_true rfl, Nat.le_of_ble_eq_true rfl⟩ (fun r13 h => ?_)
        obtain ⟨c14, h15, h⟩ := h
        obtain ⟨h16, h⟩ := h
        refine x_cast (c := 4) hg (C := RX2) rfl (by decide) cl_X10_91 h15 h16 dX10_goBy_30 ?_
        refine x_getR hg fl_X10_110 rfl h15 h16 dX10_goBy_33 ?_
        refine x_nmR (fun r17 e18 => ?_)
        replace h := h r17 e18
        refine x_astore (lv' := [(4, va_rf r17), (0, va_rf (some a0)), (1, va_rf v1), (2, .int v2), (3, .int v3)]) hg dX10_goBy_36 (by rw [hgN]; decide) rfl ?_
        refine x_aload hg 0 dX10_goBy_38 rfl ?_
        refine x_ifnull (tgt := 98) hg dX10_goBy_40 (by decide) (fun h20 => ?_) (fun c19 h21 => ?_)
        · replace h := h.1 h20
          refine x_sub [1, 2, 3, 4] rfl ?_
          exact J98 _ _ _ h
        · replace h := h.2 c19 h21
          refine x_aload hg 0 dX10_goBy_43 rfl ?_
          refine x_aload_n hg 2 dX10_goBy_45 rfl rfl ?_
          obtain ⟨h22, h⟩ := h
          refine xVVW (Qm := _) (rest := []) (As := [va_rf v1]) hg (k_X0_clogUp (gL g) (gD g) c19 v1 σ _ h) lv_X10_249 h21 h22 rfl rfl dX10_goBy_46 (cat8 (Nat.le_of_ble_eq_true rfl)) hrm ⟨Nat.le_of_ble_eq_true rfl, Nat.le_of_ble_eq_true rfl⟩ (fun u23 σ24 h => ?_)
          refine x_aload hg 0 dX10_goBy_49 rfl ?_
          refine x_aload_n hg 2 dX10_goBy_51 rfl rfl ?_
          refine x_iload_n hg 3 dX10_goBy_52 rfl rfl ?_
          obtain ⟨h25, h⟩ := h
          refine xVVW (Qm := _) (rest := []) (As := [va_rf v1, .int v2]) hg (k_X0_shedLeaves (gL g) (gD g) c19 v1 v2 σ24 _ h) lv_X10_252 h21 h25 rfl rfl dX10_goBy_53 (cat8 (Nat.le_of_ble_eq_true rfl)) hrm ⟨Nat.le_of_ble_eq_true rfl, Nat.le_of_ble_eq_true rfl⟩ (fun u26 σ27 h => ?_)
          refine x_aload_n hg 1 dX10_goBy_56 rfl rfl ?_
          obtain ⟨h28, h⟩ := h
          refine x_getR hg fl_X10_69 rfl rfl h28 dX10_goBy_57 ?_
          refine x_iconst (v := 1) hg dX10_goBy_60 (by decide) ?_
          refine x_dup2 hg dX10_goBy_61 rfl (rf_cat _) ?_
          obtain ⟨c29, h30, h⟩ := h
          obtain ⟨h31, h⟩ := h
          obtain ⟨h32, h⟩ := h
          refine x_lald hg h30 h31 h32 dX10_goBy_62 ?_
          refine x_aload hg 0 dX10_goBy_63 rfl ?_
          refine x_aload_n hg 1 dX10_goBy_65 rfl rfl ?_
          refine x_getR hg fl_X10_51 rfl rfl h28 dX10_goBy_66 ?_
          obtain ⟨h33, h⟩ := h
          refine xVIW (Qm := _) (rest := [.long (sL σ27 c29 (1 : Int32).toNatClampNeg), .int 1, va_rf (sR σ27 a0 13)]) (As := [va_rf (sR σ27 a0 8)]) hg (k_X0_drinkForADay (gL g) (gD g) c19 (sR σ27 a0 8) σ27 _ h) lv_X10_256 h21 h33 rfl rfl dX10_goBy_69 (cat8 (Nat.le_of_ble_eq_true rfl)) hrm ⟨Nat.le_of_ble_eq_true rfl, Nat.le_of_ble_eq_true rfl⟩ (fun x34 σ35 h => ?_)
          refine x_i2l hg dX10_goBy_72 ?_
          refine x_ladd hg dX10_goBy_73 ?_
          obtain ⟨h36, h⟩ := h
          obtain ⟨h37, h⟩ := h
          refine x_last hg h30 h36 h37 dX10_goBy_74 ?_
          refine x_nmS (fun σ38 e39 => ?_)
          replace h := h σ38 e39
          have E40 : sK σ38 = sK σ35 := by rw [e39]; rfl
          refine x_aload hg 0 dX10_goBy_75 rfl ?_
          refine x_aload_n hg 2 dX10_goBy_77 rfl rfl ?_
          obtain ⟨h41, h⟩ := h
          refine xVIP (Qp := _) (rest := []) (As := [va_rf v1]) hg (k_X0_standsTooLong (gL g) (gD g) c19 v1 σ38 _ h) lv_X10_259 h21 h41 rfl rfl dX10_goBy_78 (cat8 (Nat.le_of_ble_eq_true rfl)) hrm ⟨Nat.le_of_ble_eq_true rfl, Nat.le_of_ble_eq_true rfl⟩ (fun x42 h => ?_)
          refine x_if_eq (tgt := 91) hg dX10_goBy_81 (by decide) (fun q43 => ?_) (fun q43 => ?_)
          · replace h := h.1 q43
            refine x_sub [1, 2, 3, 4, 0] rfl ?_
            exact J91 _ _ _ _ h
          · replace h := h.2 q43
            refine x_aload_n hg 1 dX10_goBy_84 rfl rfl ?_
            refine x_iload_n hg 4 dX10_goBy_85 rfl rfl ?_
            refine x_iconst (v := 2) hg dX10_goBy_86 (by decide) ?_
            obtain ⟨h44, h⟩ := h
            obtain ⟨bc47, h48, h49, h⟩ := h
            refine xVIA (Qm := _) (rest := []) (As := [.int v3, .int 2]) hg (k_X10_tellComplaint (gL g) (gD g) a0 v3 2 σ38 bc47 _ h) lv_X10_263 rfl h44 rfl rfl dX10_goBy_87 (cat8 (Nat.le_of_ble_eq_true rfl)) hrm ⟨Nat.le_of_ble_eq_true rfl, Nat.le_of_ble_eq_true rfl⟩ h48 h49 (fun x45 σ46 h => ?_)
            refine x_pop hg dX10_goBy_90 rfl ?_
            refine x_sub [1, 2, 3, 4, 0] rfl ?_
            exact J91 _ _ _ _ h
    exact key11 n11 v3 σ b hI11
  refine x_aload_n hg 0 dX10_goBy_0 rfl rfl ?_
  obtain ⟨h1, h⟩ := h
  refine x_getI hg fl_X10_120 rfl rfl h1 dX10_goBy_1 ?_
  refine x_sipush (v := 365) hg dX10_goBy_4 (by decide) ?_
  refine x_irem hg dX10_goBy_7 (by decide) ?_
  refine x_nmI (fun x2 e3 => ?_)
  replace h := h x2 e3
  refine x_istore_n (lv' := [(2, .int x2), (0, va_rf (some a0)), (1, va_rf v1)]) hg dX10_goBy_8 rfl (by rw [hgN]; decide) (by cases v1 <;> rfl) ?_
  refine x_iconst (v := 0) hg dX10_goBy_9 (by decide) ?_
  refine x_istore_n (lv' := [(3, .int 0), (2, .int x2), (0, va_rf (some a0)), (1, va_rf v1)]) hg dX10_goBy_10 rfl (by rw [hgN]; decide) rfl ?_
  refine x_sub [2, 3, 1, 0] rfl ?_
  exact J11 _ _ _ _ _ h
def P_X10_pass_L26b (a0 : Nat) (v1 : Int32) (v2 : Int32) (σ : Sg) (b : Nat × Nat) (Q : Int32 → Sg → Prop) (K26 : Int32 → Sg → (Nat × Nat) → Prop) : Prop :=
  (v1 ≤ v2 → sK σ a0 % 32 = 12 ∧ Q (sI σ a0 15) σ) ∧ (¬ (v1 ≤ v2) → sK σ a0 % 32 = 12 ∧ P_X10_lawOn a0 (sI σ a0 15) σ (fun r8 => ∃ bc11 : Nat × Nat, bc11.1 ≤ b.1 ∧ bc11.2 ≤ b.2 ∧ P_X10_goBy a0 r8 σ bc11 (fun _ σ10 => sK σ10 a0 % 32 = 12 ∧ ∀ σ15 : Sg, σ15 = pI σ10 a0 15 ((sI σ10 a0 15) + 1) → ∀ x18 : Int32, x18 = v2 + 1 → K26 x18 σ15 (b.1 - bc11.1, b.2 - bc11.2))))
def P_X10_pass_L26 (a0 : Nat) (v1 : Int32) (v2 : Int32) (σ : Sg) (b : Nat × Nat) (Q : Int32 → Sg → Prop) : Prop :=
  ∃ I : Nat → Int32 → Sg → (Nat × Nat) → Prop, (∃ n, I n v2 σ b) ∧ ∀ (n : Nat) (v2 : Int32) (σ : Sg) (b : Nat × Nat), I n v2 σ b → P_X10_pass_L26b a0 v1 v2 σ b Q (fun v2 σ b => ∃ n', n' < n ∧ I n' v2 σ b)
def P_X10_pass (a0 : Nat) (v1 : Int32) (σ : Sg) (b : Nat × Nat) (Q : Int32 → Sg → Prop) : Prop :=
  P_X10_within v1 1 100 σ (fun x1 => (x1 = 0 → Q (-1) σ) ∧ (¬ (x1 = 0) → sK σ a0 % 32 = 12 ∧ (((sI σ a0 15) + v1) ≤ 3649 → P_X10_pass_L26 a0 v1 0 σ (b.1, b.2) Q) ∧ (¬ (((sI σ a0 15) + v1) ≤ 3649) → Q (-1) σ)))
set_option maxHeartbeats 4000000 in
set_option maxRecDepth 100000 in
theorem k_X10_pass (l : Launch) (D : Dg) (a0 : Nat) (v1 : Int32) (σ : Sg) (b : Nat × Nat) (Q : Int32 → Sg → Prop) (h : P_X10_pass a0 v1 σ b Q) : Ctr l D yX10_pass cX10_pass 3 (some FieldType.int) 9 218 mkI [.ref a0, .int v1] σ b Q := by
  refine ctr_of (lv := [(0, va_rf (some a0)), (1, .int v1)]) (by decide) (by (exact Nat.le_of_ble_eq_true rfl)) (by (exact rfl)) (fun g hg hgL hgD hrm hgN hgI hend => ?_)
  subst hgD
  clear hgL
  unfold P_X10_pass at h
  have J26 : ∀ (v1 : Int32) (v2 : Int32) (σ : Sg) (b : Nat × Nat), P_X10_pass_L26 a0 v1 v2 σ b Q → XJ g 26 [(0, va_rf (some a0)), (1, .int v1), (2, .int v2)] [] σ b := by
    intro v1 v2 σ b h
    unfold P_X10_pass_L26 at h
    obtain ⟨I26, ⟨n26, hI26⟩, hs26⟩ := h
    have key26 : ∀ (n : Nat), ∀ (v2 : Int32) (σ : Sg) (b : Nat × Nat), I26 n v2 σ b → XJ g 26 [(0, va_rf (some a0)), (1, .int v1), (2, .int v2)] [] σ b := by
      intro n
      induction n using Nat.strongRecOn with
      | _ n ih26 =>
      intro v2 σ b hI
      have h := hs26 n v2 σ b hI
      clear hI hI26 hs26
      obtain ⟨K26, hK26⟩ : ∃ K : Int32 → Sg → (Nat × Nat) → Prop, K = (fun v2 σ b => ∃ n', n' < n ∧ I26 n' v2 σ b) := ⟨_, rfl⟩
      rw [← hK26] at h
      unfold P_X10_pass_L26b at h
      refine x_iload_n hg 2 dX10_pass_26 rfl rfl ?_
      refine x_iload_n hg 1 dX10_pass_27 rfl rfl ?_
      refine x_icmp_ge (tgt := 59) hg dX10_pass_28 (by decide) (fun q5 => ?_) (fun q5 => ?_)
      · replace h := h.1 q5
        refine x_aload_n hg 0 dX10_pass_59 rfl rfl ?_
        obtain ⟨h6, h⟩ := h
        refine x_getI hg fl_X10_120 rfl rfl h6 dX10_pass_60 ?_
        exact endI hend rfl dX10_pass_63 h
      · replace h := h.2 q5
        refine x_aload_n hg 0 dX10_pass_31 rfl rfl ?_
        refine x_aload_n hg 0 dX10_pass_32 rfl rfl ?_
        refine x_aload_n hg 0 dX10_pass_33 rfl rfl ?_
        obtain ⟨h7, h⟩ := h
        refine x_getI hg fl_X10_120 rfl rfl h7 dX10_pass_34 ?_
        refine xVRP (Qp := _) (rest := [va_rf (some a0)]) (As := [.int (sI σ a0 15)]) hg (k_X10_lawOn (gL g) (gD g) a0 (sI σ a0 15) σ _ h) lv_X10_123 rfl h7 rfl rfl dX10_pass_37 (cat8 (Nat.le_of_ble_eq_true rfl)) hrm ⟨Nat.le_of_ble_eq_true rfl, Nat.le_of_ble_eq_true rfl⟩ (fun r8 h => ?_)
        obtain ⟨bc11, h12, h13, h⟩ := h
        refine xVVA (Qm := _) (rest := []) (As := [va_rf r8]) hg (k_X10_goBy (gL g) (gD g) a0 r8 σ bc11 _ h) lv_X10_245 rfl h7 rfl rfl dX10_pass_40 (cat8 (Nat.le_of_ble_eq_true rfl)) hrm ⟨Nat.le_of_ble_eq_true rfl, Nat.le_of_ble_eq_true rfl⟩ h12 h13 (fun u9 σ10 h => ?_)
        refine x_aload_n hg 0 dX10_pass_43 rfl rfl ?_
        refine x_dup hg dX10_pass_44 rfl ?_
        obtain ⟨h14, h⟩ := h
        refine x_getI hg fl_X10_120 rfl rfl h14 dX10_pass_45 ?_
        refine x_iconst (v := 1) hg dX10_pass_48 (by decide) ?_
        refine x_iadd hg dX10_pass_49 ?_
        refine x_putI hg fw_X10_120 (fun z => nomatch z) rfl h14 dX10_pass_50 ?_
        refine x_nmS (fun σ15 e16 => ?_)
        replace h := h σ15 e16
        have E17 : sK σ15 = sK σ10 := by rw [e16]; rfl
        obtain ⟨x18, e19⟩ : ∃ y : Int32, y = v2 + 1 := ⟨_, rfl⟩
        replace h := h x18 e19
        refine x_iinc (v := x18) (lv' := [(2, .int x18), (0, va_rf (some a0)), (1, .int v1)]) hg 2 dX10_pass_53 rfl (by rw [e19]; rfl) (by rw [hgN]; decide) rfl ?_
        refine x_goto (tgt := 26) hg dX10_pass_56 (by decide) ?_
        refine x_sub [1, 2, 0] rfl ?_
        subst hK26
        obtain ⟨n20, h21, h⟩ := h
        exact ih26 n20 h21 _ _ _ h
    exact key26 n26 v2 σ b hI26
  refine x_iload_n hg 1 dX10_pass_0 rfl rfl ?_
  refine x_iconst (v := 1) hg dX10_pass_1 (by decide) ?_
  refine x_bipush (v := 100) hg dX10_pass_2 (by decide) ?_
  refine xSIP (Qp := _) (rest := []) (As := [.int v1, .int 1, .int 100]) hg (k_X10_within (gL g) (gD g) v1 1 100 σ _ h) ls_X10_83 rfl rfl dX10_pass_4 (cat8 (Nat.le_of_ble_eq_true rfl)) hrm ⟨Nat.le_of_ble_eq_true rfl, Nat.le_of_ble_eq_true rfl⟩ (fun x1 h => ?_)
  refine x_if_eq (tgt := 22) hg dX10_pass_7 (by decide) (fun q2 => ?_) (fun q2 => ?_)
  · replace h := h.1 q2
    refine x_iconst (v := (-1)) hg dX10_pass_22 (by decide) ?_
    exact endI hend rfl dX10_pass_23 h
  · replace h := h.2 q2
    refine x_aload_n hg 0 dX10_pass_10 rfl rfl ?_
    obtain ⟨h3, h⟩ := h
    refine x_getI hg fl_X10_120 rfl rfl h3 dX10_pass_11 ?_
    refine x_iload_n hg 1 dX10_pass_14 rfl rfl ?_
    refine x_iadd hg dX10_pass_15 ?_
    refine x_sipush (v := 3649) hg dX10_pass_16 (by decide) ?_
    refine x_icmp_le (tgt := 24) hg dX10_pass_19 (by decide) (fun q4 => ?_) (fun q4 => ?_)
    · replace h := h.1 q4
      refine x_iconst (v := 0) hg dX10_pass_24 (by decide) ?_
      refine x_istore_n (lv' := [(2, .int 0), (0, va_rf (some a0)), (1, .int v1)]) hg dX10_pass_25 rfl (by rw [hgN]; decide) rfl ?_
      refine x_sub [1, 2, 0] rfl ?_
      exact J26 _ _ _ _ h
    · replace h := h.2 q4
      refine x_iconst (v := (-1)) hg dX10_pass_22 (by decide) ?_
      exact endI hend rfl dX10_pass_23 h
def P_X10_neighbour_L37b (a0 : Nat) (v1 : Int32) (v3 : Int32) (v4 : Int32) (σ : Sg) (Q : Int32 → Prop) (K37 : Int32 → Int32 → Prop) : Prop :=
  (10 ≤ v4 → Q v3) ∧ (¬ (10 ≤ v4) → sK σ a0 % 32 = 12 ∧ ∃ c13 : Nat, sR σ a0 11 = some c13 ∧ sK σ c13 % 32 = 21 ∧ vp_in v1 (sN σ c13) ∧ ∃ c17 : Nat, sR σ c13 v1.toNatClampNeg = some c17 ∧ sK σ c17 % 32 = 16 ∧ vp_in v4 (sN σ c17) ∧ ∀ x21 : Int32, x21 = v3 + (sI σ c17 v4.toNatClampNeg) → ∀ x23 : Int32, x23 = v4 + 1 → K37 x21 x23)
def P_X10_neighbour_L37 (a0 : Nat) (v1 : Int32) (v3 : Int32) (v4 : Int32) (σ : Sg) (Q : Int32 → Prop) : Prop :=
  ∃ I : Nat → Int32 → Int32 → Prop, (∃ n, I n v3 v4) ∧ ∀ (n : Nat) (v3 : Int32) (v4 : Int32), I n v3 v4 → P_X10_neighbour_L37b a0 v1 v3 v4 σ Q (fun v3 v4 => ∃ n', n' < n ∧ I n' v3 v4)
def P_X10_neighbour (a0 : Nat) (v1 : Int32) (v2 : Int32) (σ : Sg) (Q : Int32 → Prop) : Prop :=
  P_X10_within v1 0 9 σ (fun x1 => (x1 = 0 → Q (-1)) ∧ (¬ (x1 = 0) → P_X10_within v2 0 1 σ (fun x3 => (x3 = 0 → Q (-1)) ∧ (¬ (x3 = 0) → (v2 = 0 → sK σ a0 % 32 = 12 ∧ ∃ c7 : Nat, sR σ a0 10 = some c7 ∧ sK σ c7 % 32 = 16 ∧ vp_in v1 (sN σ c7) ∧ Q (sI σ c7 v1.toNatClampNeg)) ∧ (¬ (v2 = 0) → P_X10_neighbour_L37 a0 v1 0 0 σ Q)))))
set_option maxHeartbeats 4000000 in
set_option maxRecDepth 100000 in
theorem k_X10_neighbour (l : Launch) (D : Dg) (a0 : Nat) (v1 : Int32) (v2 : Int32) (σ : Sg) (Q : Int32 → Prop) (h : P_X10_neighbour a0 v1 v2 σ Q) : Ctr l D yX10_neighbour cX10_neighbour 5 (some FieldType.int) 1 22 mkI [.ref a0, .int v1, .int v2] σ (0, 0) (fun r σ2 => Q r ∧ σ2 = σ) := by
  refine ctr_of (lv := [(0, va_rf (some a0)), (1, .int v1), (2, .int v2)]) (by decide) (by (exact Nat.le_of_ble_eq_true rfl)) (by (exact rfl)) (fun g hg hgL hgD hrm hgN hgI hend => ?_)
  subst hgD
  clear hgL
  unfold P_X10_neighbour at h
  have J37 : ∀ (v1 : Int32) (v3 : Int32) (v4 : Int32), P_X10_neighbour_L37 a0 v1 v3 v4 σ Q → XJ g 37 [(0, va_rf (some a0)), (1, .int v1), (3, .int v3), (4, .int v4)] [] σ (0, 0) := by
    intro v1 v3 v4 h
    unfold P_X10_neighbour_L37 at h
    obtain ⟨I37, ⟨n37, hI37⟩, hs37⟩ := h
    have key37 : ∀ (n : Nat), ∀ (v3 : Int32) (v4 : Int32), I37 n v3 v4 → XJ g 37 [(0, va_rf (some a0)), (1, .int v1), (3, .int v3), (4, .int v4)] [] σ (0, 0) := by
      intro n
      induction n using Nat.strongRecOn with
      | _ n ih37 =>
      intro v3 v4 hI
      have h := hs37 n v3 v4 hI
      clear hI hI37 hs37
      obtain ⟨K37, hK37⟩ : ∃ K : Int32 → Int32 → Prop, K = (fun v3 v4 => ∃ n', n' < n ∧ I37 n' v3 v4) := ⟨_, rfl⟩
      rw [← hK37] at h
      unfold P_X10_neighbour_L37b at h
      refine x_iload hg 3 dX10_neighbour_37 rfl ?_
      refine x_bipush (v := 10) hg dX10_neighbour_39 (by decide) ?_
      refine x_icmp_ge (tgt := 62) hg dX10_neighbour_41 (by decide) (fun q11 => ?_) (fun q11 => ?_)
      · replace h := h.1 q11
        refine x_iload_n hg 2 dX10_neighbour_62 rfl rfl ?_
        exact endI hend rfl dX10_neighbour_63 ⟨h, rfl⟩
      · replace h := h.2 q11
        refine x_iload_n hg 2 dX10_neighbour_44 rfl rfl ?_
        refine x_aload_n hg 0 dX10_neighbour_45 rfl rfl ?_
        obtain ⟨h12, h⟩ := h
        refine x_getR hg fl_X10_63 rfl rfl h12 dX10_neighbour_46 ?_
        refine x_iload_n hg 1 dX10_neighbour_49 rfl rfl ?_
        obtain ⟨c13, h14, h⟩ := h
        obtain ⟨h15, h⟩ := h
        obtain ⟨h16, h⟩ := h
        refine x_aald hg h14 h15 (by decide) h16 dX10_neighbour_50 ?_
        refine x_iload hg 3 dX10_neighbour_51 rfl ?_
        obtain ⟨c17, h18, h⟩ := h
        obtain ⟨h19, h⟩ := h
        obtain ⟨h20, h⟩ := h
        refine x_iald hg h18 h19 h20 dX10_neighbour_53 ?_
        refine x_iadd hg dX10_neighbour_54 ?_
        refine x_nmI (fun x21 e22 => ?_)
        replace h := h x21 e22
        refine x_istore_n (lv' := [(3, .int x21), (0, va_rf (some a0)), (1, .int v1), (4, .int v4)]) hg dX10_neighbour_55 rfl (by rw [hgN]; decide) rfl ?_
        obtain ⟨x23, e24⟩ : ∃ y : Int32, y = v4 + 1 := ⟨_, rfl⟩
        replace h := h x23 e24
        refine x_iinc (v := x23) (lv' := [(4, .int x23), (3, .int x21), (0, va_rf (some a0)), (1, .int v1)]) hg 3 dX10_neighbour_56 rfl (by rw [e24]; rfl) (by rw [hgN]; decide) rfl ?_
        refine x_goto (tgt := 37) hg dX10_neighbour_59 (by decide) ?_
        refine x_sub [2, 3, 1, 0] rfl ?_
        subst hK37
        obtain ⟨n25, h26, h⟩ := h
        exact ih37 n25 h26 _ _ h
    exact key37 n37 v3 v4 hI37
  refine x_iload_n hg 1 dX10_neighbour_0 rfl rfl ?_
  refine x_iconst (v := 0) hg dX10_neighbour_1 (by decide) ?_
  refine x_bipush (v := 9) hg dX10_neighbour_2 (by decide) ?_
  refine xSIP (Qp := _) (rest := []) (As := [.int v1, .int 0, .int 9]) hg (k_X10_within (gL g) (gD g) v1 0 9 σ _ h) ls_X10_83 rfl rfl dX10_neighbour_4 (cat8 (Nat.le_of_ble_eq_true rfl)) hrm ⟨Nat.le_of_ble_eq_true rfl, Nat.le_of_ble_eq_true rfl⟩ (fun x1 h => ?_)
  refine x_if_eq (tgt := 19) hg dX10_neighbour_7 (by decide) (fun q2 => ?_) (fun q2 => ?_)
  · replace h := h.1 q2
    refine x_iconst (v := (-1)) hg dX10_neighbour_19 (by decide) ?_
    exact endI hend rfl dX10_neighbour_20 ⟨h, rfl⟩
  · replace h := h.2 q2
    refine x_iload_n hg 2 dX10_neighbour_10 rfl rfl ?_
    refine x_iconst (v := 0) hg dX10_neighbour_11 (by decide) ?_
    refine x_iconst (v := 1) hg dX10_neighbour_12 (by decide) ?_
    refine xSIP (Qp := _) (rest := []) (As := [.int v2, .int 0, .int 1]) hg (k_X10_within (gL g) (gD g) v2 0 1 σ _ h) ls_X10_83 rfl rfl dX10_neighbour_13 (cat8 (Nat.le_of_ble_eq_true rfl)) hrm ⟨Nat.le_of_ble_eq_true rfl, Nat.le_of_ble_eq_true rfl⟩ (fun x3 h => ?_)
    refine x_if_ne (tgt := 21) hg dX10_neighbour_16 (by decide) (fun q4 => ?_) (fun q4 => ?_)
    · replace h := h.2 q4
      refine x_iload_n hg 2 dX10_neighbour_21 rfl rfl ?_
      refine x_if_ne (tgt := 32) hg dX10_neighbour_22 (by decide) (fun q5 => ?_) (fun q5 => ?_)
      · replace h := h.2 q5
        refine x_iconst (v := 0) hg dX10_neighbour_32 (by decide) ?_
        refine x_istore_n (lv' := [(3, .int 0), (0, va_rf (some a0)), (1, .int v1), (2, .int v2)]) hg dX10_neighbour_33 rfl (by rw [hgN]; decide) rfl ?_
        refine x_iconst (v := 0) hg dX10_neighbour_34 (by decide) ?_
        refine x_istore (lv' := [(4, .int 0), (3, .int 0), (0, va_rf (some a0)), (1, .int v1), (2, .int v2)]) hg dX10_neighbour_35 (by rw [hgN]; decide) rfl ?_
        refine x_sub [2, 3, 1, 0] rfl ?_
        exact J37 _ _ _ h
      · replace h := h.1 q5
        refine x_aload_n hg 0 dX10_neighbour_25 rfl rfl ?_
        obtain ⟨h6, h⟩ := h
        refine x_getR hg fl_X10_58 rfl rfl h6 dX10_neighbour_26 ?_
        refine x_iload_n hg 1 dX10_neighbour_29 rfl rfl ?_
        obtain ⟨c7, h8, h⟩ := h
        obtain ⟨h9, h⟩ := h
        obtain ⟨h10, h⟩ := h
        refine x_iald hg h8 h9 h10 dX10_neighbour_30 ?_
        exact endI hend rfl dX10_neighbour_31 ⟨h, rfl⟩
    · replace h := h.1 q4
      refine x_iconst (v := (-1)) hg dX10_neighbour_19 (by decide) ?_
      exact endI hend rfl dX10_neighbour_20 ⟨h, rfl⟩
def P_X10_turn_B98 (a0 : Nat) (v1 : Int32) (v2 : Int32) (v3 : Int32) (v4 : Option Nat) (v5 : Int32) (σ : Sg) (Q : Int32 → Prop) (K41 : Int32 → Prop) : Prop :=
  ∀ x30 : Int32, x30 = v5 + 1 → K41 x30
def P_X10_turn_L41b (a0 : Nat) (v1 : Int32) (v2 : Int32) (v3 : Int32) (v4 : Option Nat) (v5 : Int32) (σ : Sg) (Q : Int32 → Prop) (K41 : Int32 → Prop) : Prop :=
  ∃ c11 : Nat, v4 = some c11 ∧ sK σ c11 % 32 = 6 ∧ ∃ c14 : Nat, sR σ c11 2 = some c14 ∧ sK σ c14 % 32 = 1 ∧ P_Jx4a65c_size_8abf5 c14 σ (fun x17 => (x17 ≤ v5 → Q 0) ∧ (¬ (x17 ≤ v5) → ∃ c19 : Nat, sR σ c11 2 = some c19 ∧ sK σ c19 % 32 = 1 ∧ P_Jx4a65c_get_915e3 c19 v5 σ (fun r22 => ∃ c23 : Nat, r22 = some c23 ∧ sK σ c23 % 32 = 11 ∧ ((sI σ c23 0) = v1 → ((sI σ c23 1) = v2 → P_X9_fallsOn c23 v3 σ (fun x28 => (x28 = 0 → P_X10_turn_B98 a0 v1 v2 v3 v4 v5 σ Q K41) ∧ (¬ (x28 = 0) → Q 1))) ∧ (¬ ((sI σ c23 1) = v2) → P_X10_turn_B98 a0 v1 v2 v3 v4 v5 σ Q K41)) ∧ (¬ ((sI σ c23 0) = v1) → P_X10_turn_B98 a0 v1 v2 v3 v4 v5 σ Q K41))))
def P_X10_turn_L41 (a0 : Nat) (v1 : Int32) (v2 : Int32) (v3 : Int32) (v4 : Option Nat) (v5 : Int32) (σ : Sg) (Q : Int32 → Prop) : Prop :=
  ∃ I : Nat → Int32 → Prop, (∃ n, I n v5) ∧ ∀ (n : Nat) (v5 : Int32), I n v5 → P_X10_turn_L41b a0 v1 v2 v3 v4 v5 σ Q (fun v5 => ∃ n', n' < n ∧ I n' v5)
def P_X10_turn (a0 : Nat) (v1 : Int32) (v2 : Int32) (v3 : Int32) (σ : Sg) (Q : Int32 → Prop) : Prop :=
  P_X10_within v1 0 9 σ (fun x1 => (x1 = 0 → Q (-1)) ∧ (¬ (x1 = 0) → sK σ a0 % 32 = 12 ∧ P_X10_cornerAt a0 v2 σ (fun r4 => (r4 = none → Q (-1)) ∧ (∀ c5 : Nat, r4 = some c5 → P_X10_within v3 0 3649 σ (fun x8 => (x8 = 0 → Q (-1)) ∧ (¬ (x8 = 0) → P_X10_lawOn a0 v3 σ (fun r10 => P_X10_turn_L41 a0 v1 v2 v3 r10 0 σ Q)))))))
set_option maxHeartbeats 4000000 in
set_option maxRecDepth 100000 in
theorem k_X10_turn (l : Launch) (D : Dg) (a0 : Nat) (v1 : Int32) (v2 : Int32) (v3 : Int32) (σ : Sg) (Q : Int32 → Prop) (h : P_X10_turn a0 v1 v2 v3 σ Q) : Ctr l D yX10_turn cX10_turn 7 (some FieldType.int) 4 86 mkI [.ref a0, .int v1, .int v2, .int v3] σ (0, 0) (fun r σ2 => Q r ∧ σ2 = σ) := by
  refine ctr_of (lv := [(0, va_rf (some a0)), (1, .int v1), (2, .int v2), (3, .int v3)]) (by decide) (by (exact Nat.le_of_ble_eq_true rfl)) (by (exact rfl)) (fun g hg hgL hgD hrm hgN hgI hend => ?_)
  subst hgD
  clear hgL
  unfold P_X10_turn at h
  have J41 : ∀ (v1 : Int32) (v2 : Int32) (v3 : Int32) (v4 : Option Nat) (v5 : Int32), P_X10_turn_L41 a0 v1 v2 v3 v4 v5 σ Q → XJ g 41 [(0, va_rf (some a0)), (1, .int v1), (2, .int v2), (3, .int v3), (4, va_rf v4), (5, .int v5)] [] σ (0, 0) := by
    intro v1 v2 v3 v4 v5 h
    unfold P_X10_turn_L41 at h
    obtain ⟨I41, ⟨n41, hI41⟩, hs41⟩ := h
    have key41 : ∀ (n : Nat), ∀ (v5 : Int32), I41 n v5 → XJ g 41 [(0, va_rf (some a0)), (1, .int v1), (2, .int v2), (3, .int v3), (4, va_rf v4), (5, .int v5)] [] σ (0, 0) := by
      intro n
      induction n using Nat.strongRecOn with
      | _ n ih41 =>
      intro v5 hI
      have h := hs41 n v5 hI
      clear hI hI41 hs41
      obtain ⟨K41, hK41⟩ : ∃ K : Int32 → Prop, K = (fun v5 => ∃ n', n' < n ∧ I41 n' v5) := ⟨_, rfl⟩
      rw [← hK41] at h
      unfold P_X10_turn_L41b at h
      have J98 : ∀ (v5 : Int32), P_X10_turn_B98 a0 v1 v2 v3 v4 v5 σ Q K41 → XJ g 98 [(0, va_rf (some a0)), (1, .int v1), (2, .int v2), (3, .int v3), (4, va_rf v4), (5, .int v5)] [] σ (0, 0) := by
        intro v5 h
        unfold P_X10_turn_B98 at h
        obtain ⟨x30, e31⟩ : ∃ y : Int32, y = v5 + 1 := ⟨_, rfl⟩
        replace h := h x30 e31
        refine x_iinc (v := x30) (lv' := [(5, .int x30), (0, va_rf (some a0)), (1, .int v1), (2, .int v2), (3, .int v3), (4, va_rf v4)]) hg 5 dX10_turn_98 rfl (by rw [e31]; rfl) (by rw [hgN]; decide) (by cases v4 <;> rfl) ?_
        refine x_goto (tgt := 41) hg dX10_turn_101 (by decide) ?_
        refine x_sub [1, 2, 3, 4, 5, 0] rfl ?_
        subst hK41
        obtain ⟨n32, h33, h⟩ := h
        exact ih41 n32 h33 _ h
      refine x_iload hg 5 dX10_turn_41 rfl ?_
      refine x_aload hg 4 dX10_turn_43 rfl ?_
      obtain ⟨c11, h12, h⟩ := h
      obtain ⟨h13, h⟩ := h
      refine x_getR hg fl_X10_272 rfl h12 h13 dX10_turn_45 ?_
      obtain ⟨c14, h15, h⟩ := h
      obtain ⟨h16, h⟩ := h
      refine xVIP (Qp := _) (rest := [.int v5]) (As := []) hg (k_Jx4a65c_size_8abf5 (gL g) (gD g) c14 σ _ h) lv_X10_87 h15 h16 rfl rfl dX10_turn_48 (cat8 (Nat.le_of_ble_eq_true rfl)) hrm ⟨Nat.le_of_ble_eq_true rfl, Nat.le_of_ble_eq_true rfl⟩ (fun x17 h => ?_)
      refine x_icmp_ge (tgt := 104) hg dX10_turn_51 (by decide) (fun q18 => ?_) (fun q18 => ?_)
      · replace h := h.1 q18
        refine x_iconst (v := 0) hg dX10_turn_104 (by decide) ?_
        exact endI hend rfl dX10_turn_105 ⟨h, rfl⟩
      · replace h := h.2 q18
        refine x_aload hg 4 dX10_turn_54 rfl ?_
        refine x_getR hg fl_X10_272 rfl h12 h13 dX10_turn_56 ?_
        refine x_iload hg 5 dX10_turn_59 rfl ?_
        obtain ⟨c19, h20, h⟩ := h
        obtain ⟨h21, h⟩ := h
        refine xVRP (Qp := _) (rest := []) (As := [.int v5]) hg (k_Jx4a65c_get_915e3 (gL g) (gD g) c19 v5 σ _ h) lv_X10_232 h20 h21 rfl rfl dX10_turn_61 (cat8 (Nat.le_of_ble_eq_true rfl)) hrm ⟨Nat.le_of_ble_eq_true rfl, Nat.le_of_ble_eq_true rfl⟩ (fun r22 h => ?_)
        obtain ⟨c23, h24, h⟩ := h
        obtain ⟨h25, h⟩ := h
        refine x_cast (c := 11) hg (C := RX9) rfl (by decide) cl_X10_275 h24 h25 dX10_turn_64 ?_
        refine x_astore (lv' := [(6, va_rf r22), (0, va_rf (some a0)), (1, .int v1), (2, .int v2), (3, .int v3), (4, va_rf v4), (5, .int v5)]) hg dX10_turn_67 (by rw [hgN]; decide) rfl ?_
        refine x_aload hg 0 dX10_turn_69 rfl ?_
        refine x_getI hg fl_X10_286 rfl h24 h25 dX10_turn_71 ?_
        refine x_iload_n hg 2 dX10_turn_74 rfl rfl ?_
        refine x_icmp_ne (tgt := 98) hg dX10_turn_75 (by decide) (fun q26 => ?_) (fun q26 => ?_)
        · replace h := h.2 q26
          refine x_sub [1, 2, 3, 4, 5, 6] rfl ?_
          exact J98 _ h
        · replace h := h.1 q26
          refine x_aload hg 0 dX10_turn_78 rfl ?_
          refine x_getI hg fl_X10_281 rfl h24 h25 dX10_turn_80 ?_
          refine x_iload_n hg 3 dX10_turn_83 rfl rfl ?_
          refine x_icmp_ne (tgt := 98) hg dX10_turn_84 (by decide) (fun q27 => ?_) (fun q27 => ?_)
          · replace h := h.2 q27
            refine x_sub [1, 2, 3, 4, 5, 6] rfl ?_
            exact J98 _ h
          · replace h := h.1 q27
            refine x_aload hg 0 dX10_turn_87 rfl ?_
            refine x_iload_n hg 4 dX10_turn_89 rfl rfl ?_
            refine xVIP (Qp := _) (rest := []) (As := [.int v3]) hg (k_X9_fallsOn (gL g) (gD g) c23 v3 σ _ h) lv_X10_282 h24 h25 rfl rfl dX10_turn_90 (cat8 (Nat.le_of_ble_eq_true rfl)) hrm ⟨Nat.le_of_ble_eq_true rfl, Nat.le_of_ble_eq_true rfl⟩ (fun x28 h => ?_)
            refine x_if_eq (tgt := 98) hg dX10_turn_93 (by decide) (fun q29 => ?_) (fun q29 => ?_)
            · replace h := h.1 q29
              refine x_sub [1, 2, 3, 4, 5, 6] rfl ?_
              exact J98 _ h
            · replace h := h.2 q29
              refine x_iconst (v := 1) hg dX10_turn_96 (by decide) ?_
              exact endI hend rfl dX10_turn_97 ⟨h, rfl⟩
    exact key41 n41 v5 hI41
  refine x_iload_n hg 1 dX10_turn_0 rfl rfl ?_
  refine x_iconst (v := 0) hg dX10_turn_1 (by decide) ?_
  refine x_bipush (v := 9) hg dX10_turn_2 (by decide) ?_
  refine xSIP (Qp := _) (rest := []) (As := [.int v1, .int 0, .int 9]) hg (k_X10_within (gL g) (gD g) v1 0 9 σ _ h) ls_X10_83 rfl rfl dX10_turn_4 (cat8 (Nat.le_of_ble_eq_true rfl)) hrm ⟨Nat.le_of_ble_eq_true rfl, Nat.le_of_ble_eq_true rfl⟩ (fun x1 h => ?_)
  refine x_if_eq (tgt := 29) hg dX10_turn_7 (by decide) (fun q2 => ?_) (fun q2 => ?_)
  · replace h := h.1 q2
    refine x_iconst (v := (-1)) hg dX10_turn_29 (by decide) ?_
    exact endI hend rfl dX10_turn_30 ⟨h, rfl⟩
  · replace h := h.2 q2
    refine x_aload_n hg 0 dX10_turn_10 rfl rfl ?_
    refine x_iload_n hg 2 dX10_turn_11 rfl rfl ?_
    obtain ⟨h3, h⟩ := h
    refine xVRP (Qp := _) (rest := []) (As := [.int v2]) hg (k_X10_cornerAt (gL g) (gD g) a0 v2 σ _ h) lv_X10_100 rfl h3 rfl rfl dX10_turn_12 (cat8 (Nat.le_of_ble_eq_true rfl)) hrm ⟨Nat.le_of_ble_eq_true rfl, Nat.le_of_ble_eq_true rfl⟩ (fun r4 h => ?_)
    refine x_ifnull (tgt := 29) hg dX10_turn_15 (by decide) (fun h6 => ?_) (fun c5 h7 => ?_)
    · replace h := h.1 h6
      refine x_iconst (v := (-1)) hg dX10_turn_29 (by decide) ?_
      exact endI hend rfl dX10_turn_30 ⟨h, rfl⟩
    · replace h := h.2 c5 h7
      refine x_iload_n hg 3 dX10_turn_18 rfl rfl ?_
      refine x_iconst (v := 0) hg dX10_turn_19 (by decide) ?_
      refine x_sipush (v := 3649) hg dX10_turn_20 (by decide) ?_
      refine xSIP (Qp := _) (rest := []) (As := [.int v3, .int 0, .int 3649]) hg (k_X10_within (gL g) (gD g) v3 0 3649 σ _ h) ls_X10_83 rfl rfl dX10_turn_23 (cat8 (Nat.le_of_ble_eq_true rfl)) hrm ⟨Nat.le_of_ble_eq_true rfl, Nat.le_of_ble_eq_true rfl⟩ (fun x8 h => ?_)
      refine x_if_ne (tgt := 31) hg dX10_turn_26 (by decide) (fun q9 => ?_) (fun q9 => ?_)
      · replace h := h.2 q9
        refine x_aload_n hg 0 dX10_turn_31 rfl rfl ?_
        refine x_iload_n hg 3 dX10_turn_32 rfl rfl ?_
        refine xVRP (Qp := _) (rest := []) (As := [.int v3]) hg (k_X10_lawOn (gL g) (gD g) a0 v3 σ _ h) lv_X10_123 rfl h3 rfl rfl dX10_turn_33 (cat8 (Nat.le_of_ble_eq_true rfl)) hrm ⟨Nat.le_of_ble_eq_true rfl, Nat.le_of_ble_eq_true rfl⟩ (fun r10 h => ?_)
        refine x_astore (lv' := [(4, va_rf r10), (0, va_rf (some a0)), (1, .int v1), (2, .int v2), (3, .int v3)]) hg dX10_turn_36 (by rw [hgN]; decide) rfl ?_
        refine x_iconst (v := 0) hg dX10_turn_38 (by decide) ?_
        refine x_istore (lv' := [(5, .int 0), (4, va_rf r10), (0, va_rf (some a0)), (1, .int v1), (2, .int v2), (3, .int v3)]) hg dX10_turn_39 (by rw [hgN]; decide) (by cases r10 <;> rfl) ?_
        refine x_sub [2, 3, 4, 5, 1, 0] rfl ?_
        exact J41 _ _ _ _ _ h
      · replace h := h.1 q9
        refine x_iconst (v := (-1)) hg dX10_turn_29 (by decide) ?_
        exact endI hend rfl dX10_turn_30 ⟨h, rfl⟩
def P_X10_fee_B158 (a0 : Nat) (v4 : Int32) (σ : Sg) (Q : Int32 → Prop) : Prop :=
  ∀ x51 : Int32, x51 = (if (0 : Int32) < v4 then v4 else (0 : Int32)) → Q x51
def P_X10_fee_B126 (a0 : Nat) (v1 : Int32) (v2 : Int32) (v3 : Option Nat) (v4 : Int32) (v5 : Int32) (σ : Sg) (Q : Int32 → Prop) (K44 : Int32 → Int32 → Prop) : Prop :=
  ∀ x47 : Int32, x47 = v5 + 1 → K44 v4 x47
def P_X10_fee_B123 (a0 : Nat) (v1 : Int32) (v2 : Int32) (v3 : Option Nat) (v5 : Int32) (w0 : Int32) (w1 : Int32) (σ : Sg) (Q : Int32 → Prop) (K44 : Int32 → Int32 → Prop) : Prop :=
  ∀ x45 : Int32, x45 = w0 - w1 → P_X10_fee_B126 a0 v1 v2 v3 x45 v5 σ Q K44
def P_X10_fee_L44b (a0 : Nat) (v1 : Int32) (v2 : Int32) (v3 : Option Nat) (v4 : Int32) (v5 : Int32) (σ : Sg) (Q : Int32 → Prop) (K44 : Int32 → Int32 → Prop) : Prop :=
  sK σ a0 % 32 = 12 ∧ ∃ c8 : Nat, sR σ a0 1 = some c8 ∧ sK σ c8 % 32 = 1 ∧ P_Jx4a65c_size_8abf5 c8 σ (fun x11 => (x11 ≤ v5 → (10 ≤ v1 → P_X10_fee_B158 a0 v4 σ Q) ∧ (¬ (10 ≤ v1) → ∃ c14 : Nat, v3 = some c14 ∧ sK σ c14 % 32 = 6 ∧ P_X4_value c14 9 σ (fun x17 => ∃ c18 : Nat, sR σ a0 11 = some c18 ∧ sK σ c18 % 32 = 21 ∧ vp_in v1 (sN σ c18) ∧ ∃ c22 : Nat, sR σ c18 v1.toNatClampNeg = some c22 ∧ sK σ c22 % 32 = 16 ∧ vp_in v2 (sN σ c22) ∧ ∀ x26 : Int32, x26 = v4 - (x17 * (sI σ c22 v2.toNatClampNeg)) → P_X10_fee_B158 a0 x26 σ Q))) ∧ (¬ (x11 ≤ v5) → ∃ c28 : Nat, sR σ a0 1 = some c28 ∧ sK σ c28 % 32 = 1 ∧ P_Jx4a65c_get_915e3 c28 v5 σ (fun r31 => ∃ c32 : Nat, r31 = some c32 ∧ sK σ c32 % 32 = 8 ∧ ((sI σ c32 1) = v1 → ∃ c36 : Nat, v3 = some c36 ∧ sK σ c36 % 32 = 6 ∧ P_X4_value c36 7 σ (fun x39 => ∀ x40 : Int32, x40 = v4 + (x39 * (sI σ c32 2)) → P_X6_wasProvedIn c32 v2 σ (fun x42 => (x42 = 0 → P_X10_fee_B123 a0 v1 v2 v3 v5 x40 0 σ Q K44) ∧ (¬ (x42 = 0) → P_X4_value c36 8 σ (fun x44 => P_X10_fee_B123 a0 v1 v2 v3 v5 x40 (x44 * (sI σ c32 3)) σ Q K44))))) ∧ (¬ ((sI σ c32 1) = v1) → P_X10_fee_B126 a0 v1 v2 v3 v4 v5 σ Q K44))))
def P_X10_fee_L44 (a0 : Nat) (v1 : Int32) (v2 : Int32) (v3 : Option Nat) (v4 : Int32) (v5 : Int32) (σ : Sg) (Q : Int32 → Prop) : Prop :=
  ∃ I : Nat → Int32 → Int32 → Prop, (∃ n, I n v4 v5) ∧ ∀ (n : Nat) (v4 : Int32) (v5 : Int32), I n v4 v5 → P_X10_fee_L44b a0 v1 v2 v3 v4 v5 σ Q (fun v4 v5 => ∃ n', n' < n ∧ I n' v4 v5)
def P_X10_fee (a0 : Nat) (v1 : Int32) (v2 : Int32) (σ : Sg) (Q : Int32 → Prop) : Prop :=
  P_X10_within v1 0 19 σ (fun x1 => (x1 = 0 → Q (-1)) ∧ (¬ (x1 = 0) → P_X10_within v2 0 9 σ (fun x3 => (x3 = 0 → Q (-1)) ∧ (¬ (x3 = 0) → sK σ a0 % 32 = 12 ∧ P_X10_lawOn a0 (((v2 * 365) + 365) - 1) σ (fun r6 => P_X10_fee_L44 a0 v1 v2 r6 0 0 σ Q)))))
set_option maxHeartbeats 4000000 in
set_option maxRecDepth 100000 in
theorem k_X10_fee (l : Launch) (D : Dg) (a0 : Nat) (v1 : Int32) (v2 : Int32) (σ : Sg) (Q : Int32 → Prop) (h : P_X10_fee a0 v1 v2 σ Q) : Ctr l D yX10_fee cX10_fee 7 (some FieldType.int) 4 86 mkI [.ref a0, .int v1, .int v2] σ (0, 0) (fun r σ2 => Q r ∧ σ2 = σ) := by
  refine ctr_of (lv := [(0, va_rf (some a0)), (1, .int v1), (2, .int v2)]) (by decide) (by (exact Nat.le_of_ble_eq_true rfl)) (by (exact rfl)) (fun g hg hgL hgD hrm hgN hgI hend => ?_)
  subst hgD
  clear hgL
  unfold P_X10_fee at h
  have J158 : ∀ (v4 : Int32), P_X10_fee_B158 a0 v4 σ Q → XJ g 158 [(0, va_rf (some a0)), (4, .int v4)] [] σ (0, 0) := by
    intro v4 h
    unfold P_X10_fee_B158 at h
    refine x_iconst (v := 0) hg dX10_fee_158 (by decide) ?_
    refine x_iload hg 1 dX10_fee_159 rfl ?_
    refine x_mmax hg mm_X10_295 (cat8 (Nat.le_of_ble_eq_true rfl)) hrm ⟨Nat.le_of_ble_eq_true rfl, Nat.le_of_ble_eq_true rfl⟩ dX10_fee_161 ?_
    refine x_nmI (fun x51 e52 => ?_)
    replace h := h x51 e52
    exact endI hend rfl dX10_fee_164 ⟨h, rfl⟩
  have J44 : ∀ (v1 : Int32) (v2 : Int32) (v3 : Option Nat) (v4 : Int32) (v5 : Int32), P_X10_fee_L44 a0 v1 v2 v3 v4 v5 σ Q → XJ g 44 [(0, va_rf (some a0)), (1, .int v1), (2, .int v2), (3, va_rf v3), (4, .int v4), (5, .int v5)] [] σ (0, 0) := by
    intro v1 v2 v3 v4 v5 h
    unfold P_X10_fee_L44 at h
    obtain ⟨I44, ⟨n44, hI44⟩, hs44⟩ := h
    have key44 : ∀ (n : Nat), ∀ (v4 : Int32) (v5 : Int32), I44 n v4 v5 → XJ g 44 [(0, va_rf (some a0)), (1, .int v1), (2, .int v2), (3, va_rf v3), (4, .int v4), (5, .int v5)] [] σ (0, 0) := by
      intro n
      induction n using Nat.strongRecOn with
      | _ n ih44 =>
      intro v4 v5 hI
      have h := hs44 n v4 v5 hI
      clear hI hI44 hs44
      obtain ⟨K44, hK44⟩ : ∃ K : Int32 → Int32 → Prop, K = (fun v4 v5 => ∃ n', n' < n ∧ I44 n' v4 v5) := ⟨_, rfl⟩
      rw [← hK44] at h
      unfold P_X10_fee_L44b at h
      have J126 : ∀ (v4 : Int32) (v5 : Int32), P_X10_fee_B126 a0 v1 v2 v3 v4 v5 σ Q K44 → XJ g 126 [(0, va_rf (some a0)), (1, .int v1), (2, .int v2), (3, va_rf v3), (4, .int v4), (5, .int v5)] [] σ (0, 0) := by
        intro v4 v5 h
        unfold P_X10_fee_B126 at h
        obtain ⟨x47, e48⟩ : ∃ y : Int32, y = v5 + 1 := ⟨_, rfl⟩
        replace h := h x47 e48
        refine x_iinc (v := x47) (lv' := [(5, .int x47), (0, va_rf (some a0)), (1, .int v1), (2, .int v2), (3, va_rf v3), (4, .int v4)]) hg 5 dX10_fee_126 rfl (by rw [e48]; rfl) (by rw [hgN]; decide) rfl ?_
        refine x_goto (tgt := 44) hg dX10_fee_129 (by decide) ?_
        refine x_sub [1, 2, 3, 4, 5, 0] rfl ?_
        subst hK44
        obtain ⟨n49, h50, h⟩ := h
        exact ih44 n49 h50 _ _ h
      have J123 : ∀ (v5 : Int32) (w0 : Int32) (w1 : Int32), P_X10_fee_B123 a0 v1 v2 v3 v5 w0 w1 σ Q K44 → XJ g 123 [(0, va_rf (some a0)), (1, .int v1), (2, .int v2), (3, va_rf v3), (5, .int v5)] [.int w1, .int w0] σ (0, 0) := by
        intro v5 w0 w1 h
        unfold P_X10_fee_B123 at h
        refine x_isub hg dX10_fee_123 ?_
        refine x_nmI (fun x45 e46 => ?_)
        replace h := h x45 e46
        refine x_istore (lv' := [(4, .int x45), (0, va_rf (some a0)), (1, .int v1), (2, .int v2), (3, va_rf v3), (5, .int v5)]) hg dX10_fee_124 (by rw [hgN]; decide) (by cases v3 <;> rfl) ?_
        refine x_sub [1, 2, 3, 4, 0, 5] rfl ?_
        exact J126 _ _ h
      refine x_iload hg 5 dX10_fee_44 rfl ?_
      refine x_aload_n hg 0 dX10_fee_46 rfl rfl ?_
      obtain ⟨h7, h⟩ := h
      refine x_getR hg fl_X10_16 rfl rfl h7 dX10_fee_47 ?_
      obtain ⟨c8, h9, h⟩ := h
      obtain ⟨h10, h⟩ := h
      refine xVIP (Qp := _) (rest := [.int v5]) (As := []) hg (k_Jx4a65c_size_8abf5 (gL g) (gD g) c8 σ _ h) lv_X10_87 h9 h10 rfl rfl dX10_fee_50 (cat8 (Nat.le_of_ble_eq_true rfl)) hrm ⟨Nat.le_of_ble_eq_true rfl, Nat.le_of_ble_eq_true rfl⟩ (fun x11 h => ?_)
      refine x_icmp_ge (tgt := 132) hg dX10_fee_53 (by decide) (fun q12 => ?_) (fun q12 => ?_)
      · replace h := h.1 q12
        refine x_iload_n hg 1 dX10_fee_132 rfl rfl ?_
        refine x_bipush (v := 10) hg dX10_fee_133 (by decide) ?_
        refine x_icmp_ge (tgt := 158) hg dX10_fee_135 (by decide) (fun q13 => ?_) (fun q13 => ?_)
        · replace h := h.1 q13
          refine x_sub [0, 4] rfl ?_
          exact J158 _ h
        · replace h := h.2 q13
          refine x_iload hg 4 dX10_fee_138 rfl ?_
          refine x_aload_n hg 3 dX10_fee_140 rfl rfl ?_
          refine x_bipush (v := 9) hg dX10_fee_141 (by decide) ?_
          obtain ⟨c14, h15, h⟩ := h
          obtain ⟨h16, h⟩ := h
          refine xVIP (Qp := _) (rest := [.int v4]) (As := [.int 9]) hg (k_X4_value (gL g) (gD g) c14 9 σ _ h) lv_X10_127 h15 h16 rfl rfl dX10_fee_143 (cat8 (Nat.le_of_ble_eq_true rfl)) hrm ⟨Nat.le_of_ble_eq_true rfl, Nat.le_of_ble_eq_true rfl⟩ (fun x17 h => ?_)
          refine x_aload_n hg 0 dX10_fee_146 rfl rfl ?_
          refine x_getR hg fl_X10_63 rfl rfl h7 dX10_fee_147 ?_
          refine x_iload_n hg 1 dX10_fee_150 rfl rfl ?_
          obtain ⟨c18, h19, h⟩ := h
          obtain ⟨h20, h⟩ := h
          obtain ⟨h21, h⟩ := h
          refine x_aald hg h19 h20 (by decide) h21 dX10_fee_151 ?_
          refine x_iload_n hg 2 dX10_fee_152 rfl rfl ?_
          obtain ⟨c22, h23, h⟩ := h
          obtain ⟨h24, h⟩ := h
          obtain ⟨h25, h⟩ := h
          refine x_iald hg h23 h24 h25 dX10_fee_153 ?_
          refine x_imul hg dX10_fee_154 ?_
          refine x_isub hg dX10_fee_155 ?_
          refine x_nmI (fun x26 e27 => ?_)
          replace h := h x26 e27
          refine x_istore (lv' := [(4, .int x26), (0, va_rf (some a0)), (1, .int v1), (2, .int v2), (3, va_rf v3), (5, .int v5)]) hg dX10_fee_156 (by rw [hgN]; decide) (by cases v3 <;> rfl) ?_
          refine x_sub [1, 0] rfl ?_
          exact J158 _ h
      · replace h := h.2 q12
        refine x_aload_n hg 0 dX10_fee_56 rfl rfl ?_
        refine x_getR hg fl_X10_16 rfl rfl h7 dX10_fee_57 ?_
        refine x_iload hg 5 dX10_fee_60 rfl ?_
        obtain ⟨c28, h29, h⟩ := h
        obtain ⟨h30, h⟩ := h
        refine xVRP (Qp := _) (rest := []) (As := [.int v5]) hg (k_Jx4a65c_get_915e3 (gL g) (gD g) c28 v5 σ _ h) lv_X10_232 h29 h30 rfl rfl dX10_fee_62 (cat8 (Nat.le_of_ble_eq_true rfl)) hrm ⟨Nat.le_of_ble_eq_true rfl, Nat.le_of_ble_eq_true rfl⟩ (fun r31 h => ?_)
        obtain ⟨c32, h33, h⟩ := h
        obtain ⟨h34, h⟩ := h
        refine x_cast (c := 8) hg (C := RX6) rfl (by decide) cl_X10_107 h33 h34 dX10_fee_65 ?_
        refine x_astore (lv' := [(6, va_rf r31), (0, va_rf (some a0)), (1, .int v1), (2, .int v2), (3, va_rf v3), (4, .int v4), (5, .int v5)]) hg dX10_fee_68 (by rw [hgN]; decide) rfl ?_
        refine x_aload hg 0 dX10_fee_70 rfl ?_
        refine x_getI hg fl_X10_224 rfl h33 h34 dX10_fee_72 ?_
        refine x_iload_n hg 2 dX10_fee_75 rfl rfl ?_
        refine x_icmp_ne (tgt := 126) hg dX10_fee_76 (by decide) (fun q35 => ?_) (fun q35 => ?_)
        · replace h := h.2 q35
          refine x_sub [1, 2, 3, 4, 5, 6] rfl ?_
          exact J126 _ _ h
        · replace h := h.1 q35
          refine x_iload hg 5 dX10_fee_79 rfl ?_
          refine x_aload_n hg 4 dX10_fee_81 rfl rfl ?_
          refine x_bipush (v := 7) hg dX10_fee_82 (by decide) ?_
          obtain ⟨c36, h37, h⟩ := h
          obtain ⟨h38, h⟩ := h
          refine xVIP (Qp := _) (rest := [.int v4]) (As := [.int 7]) hg (k_X4_value (gL g) (gD g) c36 7 σ _ h) lv_X10_127 h37 h38 rfl rfl dX10_fee_84 (cat8 (Nat.le_of_ble_eq_true rfl)) hrm ⟨Nat.le_of_ble_eq_true rfl, Nat.le_of_ble_eq_true rfl⟩ (fun x39 h => ?_)
          refine x_aload hg 0 dX10_fee_87 rfl ?_
          refine x_getI hg fl_X10_227 rfl h33 h34 dX10_fee_89 ?_
          refine x_imul hg dX10_fee_92 ?_
          refine x_iadd hg dX10_fee_93 ?_
          refine x_nmI (fun x40 e41 => ?_)
          replace h := h x40 e41
          refine x_istore (lv' := [(4, .int x40), (6, va_rf r31), (0, va_rf (some a0)), (1, .int v1), (2, .int v2), (3, va_rf v3), (5, .int v5)]) hg dX10_fee_94 (by rw [hgN]; decide) (by cases v3 <;> rfl) ?_
          refine x_iload hg 0 dX10_fee_96 rfl ?_
          refine x_aload hg 1 dX10_fee_98 rfl ?_
          refine x_iload_n hg 4 dX10_fee_100 rfl rfl ?_
          refine xVIP (Qp := _) (rest := [.int x40]) (As := [.int v2]) hg (k_X6_wasProvedIn (gL g) (gD g) c32 v2 σ _ h) lv_X10_292 h33 h34 rfl rfl dX10_fee_101 (cat8 (Nat.le_of_ble_eq_true rfl)) hrm ⟨Nat.le_of_ble_eq_true rfl, Nat.le_of_ble_eq_true rfl⟩ (fun x42 h => ?_)
          refine x_if_eq (tgt := 122) hg dX10_fee_104 (by decide) (fun q43 => ?_) (fun q43 => ?_)
          · replace h := h.1 q43
            refine x_iconst (v := 0) hg dX10_fee_122 (by decide) ?_
            refine x_sub [2, 3, 4, 5, 6] rfl ?_
            exact J123 _ _ _ h
          · replace h := h.2 q43
            refine x_aload_n hg 5 dX10_fee_107 rfl rfl ?_
            refine x_bipush (v := 8) hg dX10_fee_108 (by decide) ?_
            refine xVIP (Qp := _) (rest := [.int x40]) (As := [.int 8]) hg (k_X4_value (gL g) (gD g) c36 8 σ _ h) lv_X10_127 h37 h38 rfl rfl dX10_fee_110 (cat8 (Nat.le_of_ble_eq_true rfl)) hrm ⟨Nat.le_of_ble_eq_true rfl, Nat.le_of_ble_eq_true rfl⟩ (fun x44 h => ?_)
            refine x_aload hg 1 dX10_fee_113 rfl ?_
            refine x_getI hg fl_X10_161 rfl h33 h34 dX10_fee_115 ?_
            refine x_imul hg dX10_fee_118 ?_
            refine x_goto (tgt := 123) hg dX10_fee_119 (by decide) ?_
            refine x_sub [2, 3, 4, 5, 6] rfl ?_
            exact J123 _ _ _ h
    exact key44 n44 v4 v5 hI44
  refine x_iload_n hg 1 dX10_fee_0 rfl rfl ?_
  refine x_iconst (v := 0) hg dX10_fee_1 (by decide) ?_
  refine x_bipush (v := 19) hg dX10_fee_2 (by decide) ?_
  refine xSIP (Qp := _) (rest := []) (As := [.int v1, .int 0, .int 19]) hg (k_X10_within (gL g) (gD g) v1 0 19 σ _ h) ls_X10_83 rfl rfl dX10_fee_4 (cat8 (Nat.le_of_ble_eq_true rfl)) hrm ⟨Nat.le_of_ble_eq_true rfl, Nat.le_of_ble_eq_true rfl⟩ (fun x1 h => ?_)
  refine x_if_eq (tgt := 20) hg dX10_fee_7 (by decide) (fun q2 => ?_) (fun q2 => ?_)
  · replace h := h.1 q2
    refine x_iconst (v := (-1)) hg dX10_fee_20 (by decide) ?_
    exact endI hend rfl dX10_fee_21 ⟨h, rfl⟩
  · replace h := h.2 q2
    refine x_iload_n hg 2 dX10_fee_10 rfl rfl ?_
    refine x_iconst (v := 0) hg dX10_fee_11 (by decide) ?_
    refine x_bipush (v := 9) hg dX10_fee_12 (by decide) ?_
    refine xSIP (Qp := _) (rest := []) (As := [.int v2, .int 0, .int 9]) hg (k_X10_within (gL g) (gD g) v2 0 9 σ _ h) ls_X10_83 rfl rfl dX10_fee_14 (cat8 (Nat.le_of_ble_eq_true rfl)) hrm ⟨Nat.le_of_ble_eq_true rfl, Nat.le_of_ble_eq_true rfl⟩ (fun x3 h => ?_)
    refine x_if_ne (tgt := 22) hg dX10_fee_17 (by decide) (fun q4 => ?_) (fun q4 => ?_)
    · replace h := h.2 q4
      refine x_aload_n hg 0 dX10_fee_22 rfl rfl ?_
      refine x_iload_n hg 2 dX10_fee_23 rfl rfl ?_
      refine x_sipush (v := 365) hg dX10_fee_24 (by decide) ?_
      refine x_imul hg dX10_fee_27 ?_
      refine x_sipush (v := 365) hg dX10_fee_28 (by decide) ?_
      refine x_iadd hg dX10_fee_31 ?_
      refine x_iconst (v := 1) hg dX10_fee_32 (by decide) ?_
      refine x_isub hg dX10_fee_33 ?_
      obtain ⟨h5, h⟩ := h
      refine xVRP (Qp := _) (rest := []) (As := [.int (((v2 * 365) + 365) - 1)]) hg (k_X10_lawOn (gL g) (gD g) a0 (((v2 * 365) + 365) - 1) σ _ h) lv_X10_123 rfl h5 rfl rfl dX10_fee_34 (cat8 (Nat.le_of_ble_eq_true rfl)) hrm ⟨Nat.le_of_ble_eq_true rfl, Nat.le_of_ble_eq_true rfl⟩ (fun r6 h => ?_)
      refine x_astore_n (lv' := [(3, va_rf r6), (0, va_rf (some a0)), (1, .int v1), (2, .int v2)]) hg dX10_fee_37 rfl (by rw [hgN]; decide) rfl ?_
      refine x_iconst (v := 0) hg dX10_fee_38 (by decide) ?_
      refine x_istore (lv' := [(4, .int 0), (3, va_rf r6), (0, va_rf (some a0)), (1, .int v1), (2, .int v2)]) hg dX10_fee_39 (by rw [hgN]; decide) (by cases r6 <;> rfl) ?_
      refine x_iconst (v := 0) hg dX10_fee_41 (by decide) ?_
      refine x_istore (lv' := [(5, .int 0), (4, .int 0), (3, va_rf r6), (0, va_rf (some a0)), (1, .int v1), (2, .int v2)]) hg dX10_fee_42 (by rw [hgN]; decide) rfl ?_
      refine x_sub [3, 4, 5, 2, 1, 0] rfl ?_
      exact J44 _ _ _ _ _ h
    · replace h := h.1 q4
      refine x_iconst (v := (-1)) hg dX10_fee_20 (by decide) ?_
      exact endI hend rfl dX10_fee_21 ⟨h, rfl⟩
def P_X10_weighGains_B58 (a0 : Nat) (v1 : Int32) (w0 : Option Nat) (w1 : Int32) (w2 : Int32) (σ : Sg) (Q : Unit → Sg → Prop) (K2 : Int32 → Sg → Prop) : Prop :=
  ∃ c25 : Nat, w0 = some c25 ∧ sK σ c25 % 32 = 16 ∧ vp_in w1 (sN σ c25) ∧ ∀ σ29 : Sg, σ29 = pI σ c25 w1.toNatClampNeg w2 → ∀ x32 : Int32, x32 = v1 + 1 → K2 x32 σ29
def P_X10_weighGains_L2b (a0 : Nat) (v1 : Int32) (σ : Sg) (Q : Unit → Sg → Prop) (K2 : Int32 → Sg → Prop) : Prop :=
  sK σ a0 % 32 = 12 ∧ ∃ c2 : Nat, sR σ a0 0 = some c2 ∧ sK σ c2 % 32 = 1 ∧ P_Jx4a65c_size_8abf5 c2 σ (fun x5 => (x5 ≤ v1 → Q () σ) ∧ (¬ (x5 ≤ v1) → ∃ c7 : Nat, sR σ a0 12 = some c7 ∧ sK σ c7 % 32 = 16 ∧ ((nI (sN σ c7)) ≤ v1 → Q () σ) ∧ (¬ ((nI (sN σ c7)) ≤ v1) → ∃ c11 : Nat, sR σ a0 0 = some c11 ∧ sK σ c11 % 32 = 1 ∧ P_Jx4a65c_get_915e3 c11 v1 σ (fun r14 => ∃ c15 : Nat, r14 = some c15 ∧ sK σ c15 % 32 = 4 ∧ ∀ r18 : Option Nat, r18 = sR σ c15 5 → (r18 = none → P_X10_weighGains_B58 a0 v1 (sR σ a0 12) v1 0 σ Q K2) ∧ (∀ c20 : Nat, r18 = some c20 → sK σ c20 % 32 = 2 ∧ P_X0_gainByCare c20 (sR σ a0 8) σ (fun x24 => P_X10_weighGains_B58 a0 v1 (sR σ a0 12) v1 x24 σ Q K2))))))
def P_X10_weighGains_L2 (a0 : Nat) (v1 : Int32) (σ : Sg) (Q : Unit → Sg → Prop) : Prop :=
  ∃ I : Nat → Int32 → Sg → Prop, (∃ n, I n v1 σ) ∧ ∀ (n : Nat) (v1 : Int32) (σ : Sg), I n v1 σ → P_X10_weighGains_L2b a0 v1 σ Q (fun v1 σ => ∃ n', n' < n ∧ I n' v1 σ)
def P_X10_weighGains (a0 : Nat) (σ : Sg) (Q : Unit → Sg → Prop) : Prop :=
  P_X10_weighGains_L2 a0 0 σ Q
set_option maxHeartbeats 4000000 in
set_option maxRecDepth 100000 in
theorem k_X10_weighGains (l : Launch) (D : Dg) (a0 : Nat) (σ : Sg) (Q : Unit → Sg → Prop) (h : P_X10_weighGains a0 σ Q) : Ctr l D yX10_weighGains cX10_weighGains 3 (none) 3 71 mkV [.ref a0] σ (0, 0) Q := by
  refine ctr_of (lv := [(0, va_rf (some a0))]) (by decide) (by (exact Nat.le_of_ble_eq_true rfl)) (by (exact rfl)) (fun g hg hgL hgD hrm hgN hgI hend => ?_)
  subst hgD
  clear hgL
  unfold P_X10_weighGains at h
  have J2 : ∀ (v1 : Int32) (σ : Sg), P_X10_weighGains_L2 a0 v1 σ Q → XJ g 2 [(0, va_rf (some a0)), (1, .int v1)] [] σ (0, 0) := by
    intro v1 σ h
    unfold P_X10_weighGains_L2 at h
    obtain ⟨I2, ⟨n2, hI2⟩, hs2⟩ := h
    have key2 : ∀ (n : Nat), ∀ (v1 : Int32) (σ : Sg), I2 n v1 σ → XJ g 2 [(0, va_rf (some a0)), (1, .int v1)] [] σ (0, 0) := by
      intro n
      induction n using Nat.strongRecOn with
      | _ n ih2 =>
      intro v1 σ hI
      have h := hs2 n v1 σ hI
      clear hI hI2 hs2
      obtain ⟨K2, hK2⟩ : ∃ K : Int32 → Sg → Prop, K = (fun v1 σ => ∃ n', n' < n ∧ I2 n' v1 σ) := ⟨_, rfl⟩
      rw [← hK2] at h
      unfold P_X10_weighGains_L2b at h
      have J58 : ∀ (v1 : Int32) (w0 : Option Nat) (w1 : Int32) (w2 : Int32) (σ : Sg), P_X10_weighGains_B58 a0 v1 w0 w1 w2 σ Q K2 → XJ g 58 [(0, va_rf (some a0)), (1, .int v1)] [.int w2, .int w1, va_rf w0] σ (0, 0) := by
        intro v1 w0 w1 w2 σ h
        unfold P_X10_weighGains_B58 at h
        obtain ⟨c25, h26, h⟩ := h
        obtain ⟨h27, h⟩ := h
        obtain ⟨h28, h⟩ := h
        refine x_iast hg h26 h27 h28 dX10_weighGains_58 ?_
        refine x_nmS (fun σ29 e30 => ?_)
        replace h := h σ29 e30
        have E31 : sK σ29 = sK σ := by rw [e30]; rfl
        obtain ⟨x32, e33⟩ : ∃ y : Int32, y = v1 + 1 := ⟨_, rfl⟩
        replace h := h x32 e33
        refine x_iinc (v := x32) (lv' := [(1, .int x32), (0, va_rf (some a0))]) hg 1 dX10_weighGains_59 rfl (by rw [e33]; rfl) (by rw [hgN]; decide) rfl ?_
        refine x_goto (tgt := 2) hg dX10_weighGains_62 (by decide) ?_
        refine x_sub [1, 0] rfl ?_
        subst hK2
        obtain ⟨n34, h35, h⟩ := h
        exact ih2 n34 h35 _ _ h
      refine x_iload_n hg 1 dX10_weighGains_2 rfl rfl ?_
      refine x_aload_n hg 0 dX10_weighGains_3 rfl rfl ?_
      obtain ⟨h1, h⟩ := h
      refine x_getR hg fl_X10_10 rfl rfl h1 dX10_weighGains_4 ?_
      obtain ⟨c2, h3, h⟩ := h
      obtain ⟨h4, h⟩ := h
      refine xVIP (Qp := _) (rest := [.int v1]) (As := []) hg (k_Jx4a65c_size_8abf5 (gL g) (gD g) c2 σ _ h) lv_X10_87 h3 h4 rfl rfl dX10_weighGains_7 (cat8 (Nat.le_of_ble_eq_true rfl)) hrm ⟨Nat.le_of_ble_eq_true rfl, Nat.le_of_ble_eq_true rfl⟩ (fun x5 h => ?_)
      refine x_icmp_ge (tgt := 65) hg dX10_weighGains_10 (by decide) (fun q6 => ?_) (fun q6 => ?_)
      · replace h := h.1 q6
        exact endV hend dX10_weighGains_65 h
      · replace h := h.2 q6
        refine x_iload_n hg 1 dX10_weighGains_13 rfl rfl ?_
        refine x_aload_n hg 0 dX10_weighGains_14 rfl rfl ?_
        refine x_getR hg fl_X10_66 rfl rfl h1 dX10_weighGains_15 ?_
        obtain ⟨c7, h8, h⟩ := h
        obtain ⟨h9, h⟩ := h
        refine x_alen hg h8 h9 (by decide) (by decide) dX10_weighGains_18 ?_
        refine x_icmp_ge (tgt := 65) hg dX10_weighGains_19 (by decide) (fun q10 => ?_) (fun q10 => ?_)
        · replace h := h.1 q10
          exact endV hend dX10_weighGains_65 h
        · replace h := h.2 q10
          refine x_aload_n hg 0 dX10_weighGains_22 rfl rfl ?_
          refine x_getR hg fl_X10_10 rfl rfl h1 dX10_weighGains_23 ?_
          refine x_iload_n hg 1 dX10_weighGains_26 rfl rfl ?_
          obtain ⟨c11, h12, h⟩ := h
          obtain ⟨h13, h⟩ := h
          refine xVRP (Qp := _) (rest := []) (As := [.int v1]) hg (k_Jx4a65c_get_915e3 (gL g) (gD g) c11 v1 σ _ h) lv_X10_232 h12 h13 rfl rfl dX10_weighGains_27 (cat8 (Nat.le_of_ble_eq_true rfl)) hrm ⟨Nat.le_of_ble_eq_true rfl, Nat.le_of_ble_eq_true rfl⟩ (fun r14 h => ?_)
          obtain ⟨c15, h16, h⟩ := h
          obtain ⟨h17, h⟩ := h
          refine x_cast (c := 4) hg (C := RX2) rfl (by decide) cl_X10_91 h16 h17 dX10_weighGains_30 ?_
          refine x_getR hg fl_X10_110 rfl h16 h17 dX10_weighGains_33 ?_
          refine x_nmR (fun r18 e19 => ?_)
          replace h := h r18 e19
          refine x_astore_n (lv' := [(2, va_rf r18), (0, va_rf (some a0)), (1, .int v1)]) hg dX10_weighGains_36 rfl (by rw [hgN]; decide) rfl ?_
          refine x_aload_n hg 1 dX10_weighGains_37 rfl rfl ?_
          refine x_getR hg fl_X10_66 rfl rfl h1 dX10_weighGains_38 ?_
          refine x_iload_n hg 2 dX10_weighGains_41 rfl rfl ?_
          refine x_aload_n hg 0 dX10_weighGains_42 rfl rfl ?_
          refine x_ifnonnull (tgt := 50) hg dX10_weighGains_43 (by decide) (fun c20 h22 => ?_) (fun h21 => ?_)
          · replace h := h.2 c20 h22
            refine x_aload_n hg 0 dX10_weighGains_50 rfl rfl ?_
            refine x_aload_n hg 1 dX10_weighGains_51 rfl rfl ?_
            refine x_getR hg fl_X10_51 rfl rfl h1 dX10_weighGains_52 ?_
            obtain ⟨h23, h⟩ := h
            refine xVIP (Qp := _) (rest := [.int v1, va_rf (sR σ a0 12)]) (As := [va_rf (sR σ a0 8)]) hg (k_X0_gainByCare (gL g) (gD g) c20 (sR σ a0 8) σ _ h) lv_X10_307 h22 h23 rfl rfl dX10_weighGains_55 (cat8 (Nat.le_of_ble_eq_true rfl)) hrm ⟨Nat.le_of_ble_eq_true rfl, Nat.le_of_ble_eq_true rfl⟩ (fun x24 h => ?_)
            refine x_sub [1, 2] rfl ?_
            exact J58 _ _ _ _ _ h
          · replace h := h.1 h21
            refine x_iconst (v := 0) hg dX10_weighGains_46 (by decide) ?_
            refine x_goto (tgt := 58) hg dX10_weighGains_47 (by decide) ?_
            refine x_sub [1, 2] rfl ?_
            exact J58 _ _ _ _ _ h
    exact key2 n2 v1 σ hI2
  refine x_iconst (v := 0) hg dX10_weighGains_0 (by decide) ?_
  refine x_istore_n (lv' := [(1, .int 0), (0, va_rf (some a0))]) hg dX10_weighGains_1 rfl (by rw [hgN]; decide) rfl ?_
  refine x_sub [1, 0] rfl ?_
  exact J2 _ _ h
def P_X10_gainOf_B43 (a0 : Nat) (v1 : Int32) (v3 : Int32) (w0 : Int32) (w1 : Int32) (σ : Sg) (Q : Int32 → Prop) (K4 : Int32 → Int32 → Prop) : Prop :=
  ∀ x17 : Int32, x17 = w0 + w1 → ∀ x19 : Int32, x19 = v3 + 1 → K4 x17 x19
def P_X10_gainOf_L4b (a0 : Nat) (v1 : Int32) (v2 : Int32) (v3 : Int32) (σ : Sg) (Q : Int32 → Prop) (K4 : Int32 → Int32 → Prop) : Prop :=
  sK σ a0 % 32 = 12 ∧ ∃ c2 : Nat, sR σ a0 0 = some c2 ∧ sK σ c2 % 32 = 1 ∧ P_Jx4a65c_size_8abf5 c2 σ (fun x5 => (x5 ≤ v3 → Q v2) ∧ (¬ (x5 ≤ v3) → ∃ c7 : Nat, sR σ a0 12 = some c7 ∧ sK σ c7 % 32 = 16 ∧ ((nI (sN σ c7)) ≤ v3 → Q v2) ∧ (¬ ((nI (sN σ c7)) ≤ v3) → P_X10_holds v1 v3 σ (fun x11 => (x11 = 0 → P_X10_gainOf_B43 a0 v1 v3 v2 0 σ Q K4) ∧ (¬ (x11 = 0) → ∃ c13 : Nat, sR σ a0 12 = some c13 ∧ sK σ c13 % 32 = 16 ∧ vp_in v3 (sN σ c13) ∧ P_X10_gainOf_B43 a0 v1 v3 v2 (sI σ c13 v3.toNatClampNeg) σ Q K4)))))
def P_X10_gainOf_L4 (a0 : Nat) (v1 : Int32) (v2 : Int32) (v3 : Int32) (σ : Sg) (Q : Int32 → Prop) : Prop :=
  ∃ I : Nat → Int32 → Int32 → Prop, (∃ n, I n v2 v3) ∧ ∀ (n : Nat) (v2 : Int32) (v3 : Int32), I n v2 v3 → P_X10_gainOf_L4b a0 v1 v2 v3 σ Q (fun v2 v3 => ∃ n', n' < n ∧ I n' v2 v3)
def P_X10_gainOf (a0 : Nat) (v1 : Int32) (σ : Sg) (Q : Int32 → Prop) : Prop :=
  P_X10_gainOf_L4 a0 v1 0 0 σ Q
set_option maxHeartbeats 4000000 in
set_option maxRecDepth 100000 in
theorem k_X10_gainOf (l : Launch) (D : Dg) (a0 : Nat) (v1 : Int32) (σ : Sg) (Q : Int32 → Prop) (h : P_X10_gainOf a0 v1 σ Q) : Ctr l D yX10_gainOf cX10_gainOf 4 (some FieldType.int) 1 21 mkI [.ref a0, .int v1] σ (0, 0) (fun r σ2 => Q r ∧ σ2 = σ) := by
  refine ctr_of (lv := [(0, va_rf (some a0)), (1, .int v1)]) (by decide) (by (exact Nat.le_of_ble_eq_true rfl)) (by (exact rfl)) (fun g hg hgL hgD hrm hgN hgI hend => ?_)
  subst hgD
  clear hgL
  unfold P_X10_gainOf at h
  have J4 : ∀ (v1 : Int32) (v2 : Int32) (v3 : Int32), P_X10_gainOf_L4 a0 v1 v2 v3 σ Q → XJ g 4 [(0, va_rf (some a0)), (1, .int v1), (2, .int v2), (3, .int v3)] [] σ (0, 0) := by
    intro v1 v2 v3 h
    unfold P_X10_gainOf_L4 at h
    obtain ⟨I4, ⟨n4, hI4⟩, hs4⟩ := h
    have key4 : ∀ (n : Nat), ∀ (v2 : Int32) (v3 : Int32), I4 n v2 v3 → XJ g 4 [(0, va_rf (some a0)), (1, .int v1), (2, .int v2), (3, .int v3)] [] σ (0, 0) := by
      intro n
      induction n using Nat.strongRecOn with
      | _ n ih4 =>
      intro v2 v3 hI
      have h := hs4 n v2 v3 hI
      clear hI hI4 hs4
      obtain ⟨K4, hK4⟩ : ∃ K : Int32 → Int32 → Prop, K = (fun v2 v3 => ∃ n', n' < n ∧ I4 n' v2 v3) := ⟨_, rfl⟩
      rw [← hK4] at h
      unfold P_X10_gainOf_L4b at h
      have J43 : ∀ (v3 : Int32) (w0 : Int32) (w1 : Int32), P_X10_gainOf_B43 a0 v1 v3 w0 w1 σ Q K4 → XJ g 43 [(0, va_rf (some a0)), (1, .int v1), (3, .int v3)] [.int w1, .int w0] σ (0, 0) := by
        intro v3 w0 w1 h
        unfold P_X10_gainOf_B43 at h
        refine x_iadd hg dX10_gainOf_43 ?_
        refine x_nmI (fun x17 e18 => ?_)
        replace h := h x17 e18
        refine x_istore_n (lv' := [(2, .int x17), (0, va_rf (some a0)), (1, .int v1), (3, .int v3)]) hg dX10_gainOf_44 rfl (by rw [hgN]; decide) rfl ?_
        obtain ⟨x19, e20⟩ : ∃ y : Int32, y = v3 + 1 := ⟨_, rfl⟩
        replace h := h x19 e20
        refine x_iinc (v := x19) (lv' := [(3, .int x19), (2, .int x17), (0, va_rf (some a0)), (1, .int v1)]) hg 3 dX10_gainOf_45 rfl (by rw [e20]; rfl) (by rw [hgN]; decide) rfl ?_
        refine x_goto (tgt := 4) hg dX10_gainOf_48 (by decide) ?_
        refine x_sub [2, 3, 1, 0] rfl ?_
        subst hK4
        obtain ⟨n21, h22, h⟩ := h
        exact ih4 n21 h22 _ _ h
      refine x_iload_n hg 3 dX10_gainOf_4 rfl rfl ?_
      refine x_aload_n hg 0 dX10_gainOf_5 rfl rfl ?_
      obtain ⟨h1, h⟩ := h
      refine x_getR hg fl_X10_10 rfl rfl h1 dX10_gainOf_6 ?_
      obtain ⟨c2, h3, h⟩ := h
      obtain ⟨h4, h⟩ := h
      refine xVIP (Qp := _) (rest := [.int v3]) (As := []) hg (k_Jx4a65c_size_8abf5 (gL g) (gD g) c2 σ _ h) lv_X10_87 h3 h4 rfl rfl dX10_gainOf_9 (cat8 (Nat.le_of_ble_eq_true rfl)) hrm ⟨Nat.le_of_ble_eq_true rfl, Nat.le_of_ble_eq_true rfl⟩ (fun x5 h => ?_)
      refine x_icmp_ge (tgt := 51) hg dX10_gainOf_12 (by decide) (fun q6 => ?_) (fun q6 => ?_)
      · replace h := h.1 q6
        refine x_iload_n hg 2 dX10_gainOf_51 rfl rfl ?_
        exact endI hend rfl dX10_gainOf_52 ⟨h, rfl⟩
      · replace h := h.2 q6
        refine x_iload_n hg 3 dX10_gainOf_15 rfl rfl ?_
        refine x_aload_n hg 0 dX10_gainOf_16 rfl rfl ?_
        refine x_getR hg fl_X10_66 rfl rfl h1 dX10_gainOf_17 ?_
        obtain ⟨c7, h8, h⟩ := h
        obtain ⟨h9, h⟩ := h
        refine x_alen hg h8 h9 (by decide) (by decide) dX10_gainOf_20 ?_
        refine x_icmp_ge (tgt := 51) hg dX10_gainOf_21 (by decide) (fun q10 => ?_) (fun q10 => ?_)
        · replace h := h.1 q10
          refine x_iload_n hg 2 dX10_gainOf_51 rfl rfl ?_
          exact endI hend rfl dX10_gainOf_52 ⟨h, rfl⟩
        · replace h := h.2 q10
          refine x_iload_n hg 2 dX10_gainOf_24 rfl rfl ?_
          refine x_iload_n hg 1 dX10_gainOf_25 rfl rfl ?_
          refine x_iload_n hg 3 dX10_gainOf_26 rfl rfl ?_
          refine xSIP (Qp := _) (rest := [.int v2]) (As := [.int v1, .int v3]) hg (k_X10_holds (gL g) (gD g) v1 v3 σ _ h) ls_X10_239 rfl rfl dX10_gainOf_27 (cat8 (Nat.le_of_ble_eq_true rfl)) hrm ⟨Nat.le_of_ble_eq_true rfl, Nat.le_of_ble_eq_true rfl⟩ (fun x11 h => ?_)
          refine x_if_eq (tgt := 42) hg dX10_gainOf_30 (by decide) (fun q12 => ?_) (fun q12 => ?_)
          · replace h := h.1 q12
            refine x_iconst (v := 0) hg dX10_gainOf_42 (by decide) ?_
            refine x_sub [0, 1, 3] rfl ?_
            exact J43 _ _ _ h
          · replace h := h.2 q12
            refine x_aload_n hg 0 dX10_gainOf_33 rfl rfl ?_
            refine x_getR hg fl_X10_66 rfl rfl h1 dX10_gainOf_34 ?_
            refine x_iload_n hg 3 dX10_gainOf_37 rfl rfl ?_
            obtain ⟨c13, h14, h⟩ := h
            obtain ⟨h15, h⟩ := h
            obtain ⟨h16, h⟩ := h
            refine x_iald hg h14 h15 h16 dX10_gainOf_38 ?_
            refine x_goto (tgt := 43) hg dX10_gainOf_39 (by decide) ?_
            refine x_sub [0, 1, 3] rfl ?_
            exact J43 _ _ _ h
    exact key4 n4 v2 v3 hI4
  refine x_iconst (v := 0) hg dX10_gainOf_0 (by decide) ?_
  refine x_istore_n (lv' := [(2, .int 0), (0, va_rf (some a0)), (1, .int v1)]) hg dX10_gainOf_1 rfl (by rw [hgN]; decide) rfl ?_
  refine x_iconst (v := 0) hg dX10_gainOf_2 (by decide) ?_
  refine x_istore_n (lv' := [(3, .int 0), (2, .int 0), (0, va_rf (some a0)), (1, .int v1)]) hg dX10_gainOf_3 rfl (by rw [hgN]; decide) rfl ?_
  refine x_sub [2, 3, 1, 0] rfl ?_
  exact J4 _ _ _ h
def P_X10_hoursFor_B28 (a0 : Nat) (v1 : Int32) (v3 : Int32) (w0 : Int32) (σ : Sg) (Q : Int32 → Prop) (K4 : Int32 → Int32 → Prop) : Prop :=
  ∀ x10 : Int32, x10 = v3 + 1 → K4 w0 x10
def P_X10_hoursFor_L4b (a0 : Nat) (v1 : Int32) (v2 : Int32) (v3 : Int32) (σ : Sg) (Q : Int32 → Prop) (K4 : Int32 → Int32 → Prop) : Prop :=
  sK σ a0 % 32 = 12 ∧ ∃ c2 : Nat, sR σ a0 0 = some c2 ∧ sK σ c2 % 32 = 1 ∧ P_Jx4a65c_size_8abf5 c2 σ (fun x5 => (x5 ≤ v3 → P_J6_bitCount_0f7a4 v1 σ (fun x7 => Q (v2 + (2 * x7)))) ∧ (¬ (x5 ≤ v3) → P_X10_holds v1 v3 σ (fun x8 => (x8 = 0 → P_X10_hoursFor_B28 a0 v1 v3 v2 σ Q K4) ∧ (¬ (x8 = 0) → P_X10_hoursFor_B28 a0 v1 v3 v3 σ Q K4))))
def P_X10_hoursFor_L4 (a0 : Nat) (v1 : Int32) (v2 : Int32) (v3 : Int32) (σ : Sg) (Q : Int32 → Prop) : Prop :=
  ∃ I : Nat → Int32 → Int32 → Prop, (∃ n, I n v2 v3) ∧ ∀ (n : Nat) (v2 : Int32) (v3 : Int32), I n v2 v3 → P_X10_hoursFor_L4b a0 v1 v2 v3 σ Q (fun v2 v3 => ∃ n', n' < n ∧ I n' v2 v3)
def P_X10_hoursFor (a0 : Nat) (v1 : Int32) (σ : Sg) (Q : Int32 → Prop) : Prop :=
  P_X10_hoursFor_L4 a0 v1 0 0 σ Q
set_option maxHeartbeats 4000000 in
set_option maxRecDepth 100000 in
theorem k_X10_hoursFor (l : Launch) (D : Dg) (a0 : Nat) (v1 : Int32) (σ : Sg) (Q : Int32 → Prop) (h : P_X10_hoursFor a0 v1 σ Q) : Ctr l D yX10_hoursFor cX10_hoursFor 4 (some FieldType.int) 1 21 mkI [.ref a0, .int v1] σ (0, 0) (fun r σ2 => Q r ∧ σ2 = σ) := by
  refine ctr_of (lv := [(0, va_rf (some a0)), (1, .int v1)]) (by decide) (by (exact Nat.le_of_ble_eq_true rfl)) (by (exact rfl)) (fun g hg hgL hgD hrm hgN hgI hend => ?_)
  subst hgD
  clear hgL
  unfold P_X10_hoursFor at h
  have J4 : ∀ (v1 : Int32) (v2 : Int32) (v3 : Int32), P_X10_hoursFor_L4 a0 v1 v2 v3 σ Q → XJ g 4 [(0, va_rf (some a0)), (1, .int v1), (2, .int v2), (3, .int v3)] [] σ (0, 0) := by
    intro v1 v2 v3 h
    unfold P_X10_hoursFor_L4 at h
    obtain ⟨I4, ⟨n4, hI4⟩, hs4⟩ := h
    have key4 : ∀ (n : Nat), ∀ (v2 : Int32) (v3 : Int32), I4 n v2 v3 → XJ g 4 [(0, va_rf (some a0)), (1, .int v1), (2, .int v2), (3, .int v3)] [] σ (0, 0) := by
      intro n
      induction n using Nat.strongRecOn with
      | _ n ih4 =>
      intro v2 v3 hI
      have h := hs4 n v2 v3 hI
      clear hI hI4 hs4
      obtain ⟨K4, hK4⟩ : ∃ K : Int32 → Int32 → Prop, K = (fun v2 v3 => ∃ n', n' < n ∧ I4 n' v2 v3) := ⟨_, rfl⟩
      rw [← hK4] at h
      unfold P_X10_hoursFor_L4b at h
      have J28 : ∀ (v3 : Int32) (w0 : Int32), P_X10_hoursFor_B28 a0 v1 v3 w0 σ Q K4 → XJ g 28 [(0, va_rf (some a0)), (1, .int v1), (3, .int v3)] [.int w0] σ (0, 0) := by
        intro v3 w0 h
        unfold P_X10_hoursFor_B28 at h
        refine x_istore_n (lv' := [(2, .int w0), (0, va_rf (some a0)), (1, .int v1), (3, .int v3)]) hg dX10_hoursFor_28 rfl (by rw [hgN]; decide) rfl ?_
        obtain ⟨x10, e11⟩ : ∃ y : Int32, y = v3 + 1 := ⟨_, rfl⟩
        replace h := h x10 e11
        refine x_iinc (v := x10) (lv' := [(3, .int x10), (2, .int w0), (0, va_rf (some a0)), (1, .int v1)]) hg 3 dX10_hoursFor_29 rfl (by rw [e11]; rfl) (by rw [hgN]; decide) rfl ?_
        refine x_goto (tgt := 4) hg dX10_hoursFor_32 (by decide) ?_
        refine x_sub [2, 3, 1, 0] rfl ?_
        subst hK4
        obtain ⟨n12, h13, h⟩ := h
        exact ih4 n12 h13 _ _ h
      refine x_iload_n hg 3 dX10_hoursFor_4 rfl rfl ?_
      refine x_aload_n hg 0 dX10_hoursFor_5 rfl rfl ?_
      obtain ⟨h1, h⟩ := h
      refine x_getR hg fl_X10_10 rfl rfl h1 dX10_hoursFor_6 ?_
      obtain ⟨c2, h3, h⟩ := h
      obtain ⟨h4, h⟩ := h
      refine xVIP (Qp := _) (rest := [.int v3]) (As := []) hg (k_Jx4a65c_size_8abf5 (gL g) (gD g) c2 σ _ h) lv_X10_87 h3 h4 rfl rfl dX10_hoursFor_9 (cat8 (Nat.le_of_ble_eq_true rfl)) hrm ⟨Nat.le_of_ble_eq_true rfl, Nat.le_of_ble_eq_true rfl⟩ (fun x5 h => ?_)
      refine x_icmp_ge (tgt := 35) hg dX10_hoursFor_12 (by decide) (fun q6 => ?_) (fun q6 => ?_)
      · replace h := h.1 q6
        refine x_iload_n hg 2 dX10_hoursFor_35 rfl rfl ?_
        refine x_iconst (v := 2) hg dX10_hoursFor_36 (by decide) ?_
        refine x_iload_n hg 1 dX10_hoursFor_37 rfl rfl ?_
        refine xSIP (Qp := _) (rest := [.int 2, .int v2]) (As := [.int v1]) hg (k_J6_bitCount_0f7a4 (gL g) (gD g) v1 σ _ h) ls_X10_310 rfl rfl dX10_hoursFor_38 (cat8 (Nat.le_of_ble_eq_true rfl)) hrm ⟨Nat.le_of_ble_eq_true rfl, Nat.le_of_ble_eq_true rfl⟩ (fun x7 h => ?_)
        refine x_imul hg dX10_hoursFor_41 ?_
        refine x_iadd hg dX10_hoursFor_42 ?_
        exact endI hend rfl dX10_hoursFor_43 ⟨h, rfl⟩
      · replace h := h.2 q6
        refine x_iload_n hg 1 dX10_hoursFor_15 rfl rfl ?_
        refine x_iload_n hg 3 dX10_hoursFor_16 rfl rfl ?_
        refine xSIP (Qp := _) (rest := []) (As := [.int v1, .int v3]) hg (k_X10_holds (gL g) (gD g) v1 v3 σ _ h) ls_X10_239 rfl rfl dX10_hoursFor_17 (cat8 (Nat.le_of_ble_eq_true rfl)) hrm ⟨Nat.le_of_ble_eq_true rfl, Nat.le_of_ble_eq_true rfl⟩ (fun x8 h => ?_)
        refine x_if_eq (tgt := 27) hg dX10_hoursFor_20 (by decide) (fun q9 => ?_) (fun q9 => ?_)
        · replace h := h.1 q9
          refine x_iload_n hg 2 dX10_hoursFor_27 rfl rfl ?_
          refine x_sub [0, 1, 3] rfl ?_
          exact J28 _ _ h
        · replace h := h.2 q9
          refine x_iload_n hg 3 dX10_hoursFor_23 rfl rfl ?_
          refine x_goto (tgt := 28) hg dX10_hoursFor_24 (by decide) ?_
          refine x_sub [0, 1, 3] rfl ?_
          exact J28 _ _ h
    exact key4 n4 v2 v3 hI4
  refine x_iconst (v := 0) hg dX10_hoursFor_0 (by decide) ?_
  refine x_istore_n (lv' := [(2, .int 0), (0, va_rf (some a0)), (1, .int v1)]) hg dX10_hoursFor_1 rfl (by rw [hgN]; decide) rfl ?_
  refine x_iconst (v := 0) hg dX10_hoursFor_2 (by decide) ?_
  refine x_istore_n (lv' := [(3, .int 0), (2, .int 0), (0, va_rf (some a0)), (1, .int v1)]) hg dX10_hoursFor_3 rfl (by rw [hgN]; decide) rfl ?_
  refine x_sub [2, 3, 1, 0] rfl ?_
  exact J4 _ _ _ h
def P_X10_crew_B79 (a0 : Nat) (v1 : Int32) (v2 : Int32) (v3 : Int32) (v4 : Int32) (v5 : Int32) (σ : Sg) (Q : Int32 → Sg → Prop) (K33 : Int32 → Int32 → Int32 → Prop) : Prop :=
  ∀ x21 : Int32, x21 = v5 + 1 → K33 v3 v4 x21
def P_X10_crew_L33b (a0 : Nat) (v1 : Int32) (v2 : Int32) (v3 : Int32) (v4 : Int32) (v5 : Int32) (σ : Sg) (Q : Int32 → Sg → Prop) (K33 : Int32 → Int32 → Int32 → Prop) : Prop :=
  sK σ a0 % 32 = 12 ∧ ∃ c9 : Nat, sR σ a0 0 = some c9 ∧ sK σ c9 % 32 = 1 ∧ P_Jx4a65c_size_8abf5 c9 σ (fun x12 => ((1 <<< (x12 &&& 31)) ≤ v5 → (v2 = 0 → Q v4 σ) ∧ (¬ (v2 = 0) → (v2 = 1 → Q v3 σ) ∧ (¬ (v2 = 1) → P_X10_hoursFor a0 v3 σ (fun x16 => Q x16 σ)))) ∧ (¬ ((1 <<< (x12 &&& 31)) ≤ v5) → P_X10_gainOf a0 v5 σ (fun x17 => (x17 ≤ v4 → P_X10_crew_B79 a0 v1 v2 v3 v4 v5 σ Q K33) ∧ (¬ (x17 ≤ v4) → P_X10_hoursFor a0 v5 σ (fun x19 => (v1 < x19 → P_X10_crew_B79 a0 v1 v2 v3 v4 v5 σ Q K33) ∧ (¬ (v1 < x19) → P_X10_crew_B79 a0 v1 v2 v5 x17 v5 σ Q K33))))))
def P_X10_crew_L33 (a0 : Nat) (v1 : Int32) (v2 : Int32) (v3 : Int32) (v4 : Int32) (v5 : Int32) (σ : Sg) (Q : Int32 → Sg → Prop) : Prop :=
  ∃ I : Nat → Int32 → Int32 → Int32 → Prop, (∃ n, I n v3 v4 v5) ∧ ∀ (n : Nat) (v3 : Int32) (v4 : Int32) (v5 : Int32), I n v3 v4 v5 → P_X10_crew_L33b a0 v1 v2 v3 v4 v5 σ Q (fun v3 v4 v5 => ∃ n', n' < n ∧ I n' v3 v4 v5)
def P_X10_crew (a0 : Nat) (v1 : Int32) (v2 : Int32) (σ : Sg) (Q : Int32 → Sg → Prop) : Prop :=
  P_X10_within v1 0 60 σ (fun x1 => (x1 = 0 → Q (-1) σ) ∧ (¬ (x1 = 0) → P_X10_within v2 0 2 σ (fun x3 => (x3 = 0 → Q (-1) σ) ∧ (¬ (x3 = 0) → sK σ a0 % 32 = 12 ∧ P_X10_weighGains a0 σ (fun _ σ7 => P_X10_crew_L33 a0 v1 v2 0 0 1 σ7 Q)))))
set_option maxHeartbeats 4000000 in
set_option maxRecDepth 100000 in
theorem k_X10_crew (l : Launch) (D : Dg) (a0 : Nat) (v1 : Int32) (v2 : Int32) (σ : Sg) (Q : Int32 → Sg → Prop) (h : P_X10_crew a0 v1 v2 σ Q) : Ctr l D yX10_crew cX10_crew 7 (some FieldType.int) 4 93 mkI [.ref a0, .int v1, .int v2] σ (0, 0) Q := by
  refine ctr_of (lv := [(0, va_rf (some a0)), (1, .int v1), (2, .int v2)]) (by decide) (by (exact Nat.le_of_ble_eq_true rfl)) (by (exact rfl)) (fun g hg hgL hgD hrm hgN hgI hend => ?_)
  subst hgD
  clear hgL
  unfold P_X10_crew at h
  have J33 : ∀ (v1 : Int32) (v2 : Int32) (v3 : Int32) (v4 : Int32) (v5 : Int32) (σ : Sg), P_X10_crew_L33 a0 v1 v2 v3 v4 v5 σ Q → XJ g 33 [(0, va_rf (some a0)), (1, .int v1), (2, .int v2), (3, .int v3), (4, .int v4), (5, .int v5)] [] σ (0, 0) := by
    intro v1 v2 v3 v4 v5 σ h
    unfold P_X10_crew_L33 at h
    obtain ⟨I33, ⟨n33, hI33⟩, hs33⟩ := h
    have key33 : ∀ (n : Nat), ∀ (v3 : Int32) (v4 : Int32) (v5 : Int32), I33 n v3 v4 v5 → XJ g 33 [(0, va_rf (some a0)), (1, .int v1), (2, .int v2), (3, .int v3), (4, .int v4), (5, .int v5)] [] σ (0, 0) := by
      intro n
      induction n using Nat.strongRecOn with
      | _ n ih33 =>
      intro v3 v4 v5 hI
      have h := hs33 n v3 v4 v5 hI
      clear hI hI33 hs33
      obtain ⟨K33, hK33⟩ : ∃ K : Int32 → Int32 → Int32 → Prop, K = (fun v3 v4 v5 => ∃ n', n' < n ∧ I33 n' v3 v4 v5) := ⟨_, rfl⟩
      rw [← hK33] at h
      unfold P_X10_crew_L33b at h
      have J79 : ∀ (v3 : Int32) (v4 : Int32) (v5 : Int32), P_X10_crew_B79 a0 v1 v2 v3 v4 v5 σ Q K33 → XJ g 79 [(0, va_rf (some a0)), (1, .int v1), (2, .int v2), (3, .int v3), (4, .int v4), (5, .int v5)] [] σ (0, 0) := by
        intro v3 v4 v5 h
        unfold P_X10_crew_B79 at h
        obtain ⟨x21, e22⟩ : ∃ y : Int32, y = v5 + 1 := ⟨_, rfl⟩
        replace h := h x21 e22
        refine x_iinc (v := x21) (lv' := [(5, .int x21), (0, va_rf (some a0)), (1, .int v1), (2, .int v2), (3, .int v3), (4, .int v4)]) hg 5 dX10_crew_79 rfl (by rw [e22]; rfl) (by rw [hgN]; decide) rfl ?_
        refine x_goto (tgt := 33) hg dX10_crew_82 (by decide) ?_
        refine x_sub [1, 2, 3, 4, 5, 0] rfl ?_
        subst hK33
        obtain ⟨n23, h24, h⟩ := h
        exact ih33 n23 h24 _ _ _ h
      refine x_iload hg 5 dX10_crew_33 rfl ?_
      refine x_iconst (v := 1) hg dX10_crew_35 (by decide) ?_
      refine x_aload_n hg 0 dX10_crew_36 rfl rfl ?_
      obtain ⟨h8, h⟩ := h
      refine x_getR hg fl_X10_10 rfl rfl h8 dX10_crew_37 ?_
      obtain ⟨c9, h10, h⟩ := h
      obtain ⟨h11, h⟩ := h
      refine xVIP (Qp := _) (rest := [.int 1, .int v5]) (As := []) hg (k_Jx4a65c_size_8abf5 (gL g) (gD g) c9 σ _ h) lv_X10_87 h10 h11 rfl rfl dX10_crew_40 (cat8 (Nat.le_of_ble_eq_true rfl)) hrm ⟨Nat.le_of_ble_eq_true rfl, Nat.le_of_ble_eq_true rfl⟩ (fun x12 h => ?_)
      refine x_ishl hg dX10_crew_43 ?_
      refine x_icmp_ge (tgt := 85) hg dX10_crew_44 (by decide) (fun q13 => ?_) (fun q13 => ?_)
      · replace h := h.1 q13
        refine x_iload_n hg 2 dX10_crew_85 rfl rfl ?_
        refine x_if_ne (tgt := 92) hg dX10_crew_86 (by decide) (fun q14 => ?_) (fun q14 => ?_)
        · replace h := h.2 q14
          refine x_iload_n hg 2 dX10_crew_92 rfl rfl ?_
          refine x_iconst (v := 1) hg dX10_crew_93 (by decide) ?_
          refine x_icmp_ne (tgt := 101) hg dX10_crew_94 (by decide) (fun q15 => ?_) (fun q15 => ?_)
          · replace h := h.2 q15
            refine x_aload_n hg 0 dX10_crew_101 rfl rfl ?_
            refine x_iload_n hg 3 dX10_crew_102 rfl rfl ?_
            refine xVIP (Qp := _) (rest := []) (As := [.int v3]) hg (k_X10_hoursFor (gL g) (gD g) a0 v3 σ _ h) lv_X10_304 rfl h8 rfl rfl dX10_crew_103 (cat8 (Nat.le_of_ble_eq_true rfl)) hrm ⟨Nat.le_of_ble_eq_true rfl, Nat.le_of_ble_eq_true rfl⟩ (fun x16 h => ?_)
            exact endI hend rfl dX10_crew_106 h
          · replace h := h.1 q15
            refine x_iload_n hg 3 dX10_crew_97 rfl rfl ?_
            refine x_goto (tgt := 106) hg dX10_crew_98 (by decide) ?_
            exact endI hend rfl dX10_crew_106 h
        · replace h := h.1 q14
          refine x_iload hg 4 dX10_crew_89 rfl ?_
          exact endI hend rfl dX10_crew_91 h
      · replace h := h.2 q13
        refine x_aload_n hg 0 dX10_crew_47 rfl rfl ?_
        refine x_iload hg 5 dX10_crew_48 rfl ?_
        refine xVIP (Qp := _) (rest := []) (As := [.int v5]) hg (k_X10_gainOf (gL g) (gD g) a0 v5 σ _ h) lv_X10_301 rfl h8 rfl rfl dX10_crew_50 (cat8 (Nat.le_of_ble_eq_true rfl)) hrm ⟨Nat.le_of_ble_eq_true rfl, Nat.le_of_ble_eq_true rfl⟩ (fun x17 h => ?_)
        refine x_istore (lv' := [(6, .int x17), (0, va_rf (some a0)), (1, .int v1), (2, .int v2), (3, .int v3), (4, .int v4), (5, .int v5)]) hg dX10_crew_53 (by rw [hgN]; decide) rfl ?_
        refine x_iload hg 0 dX10_crew_55 rfl ?_
        refine x_iload hg 5 dX10_crew_57 rfl ?_
        refine x_icmp_le (tgt := 79) hg dX10_crew_59 (by decide) (fun q18 => ?_) (fun q18 => ?_)
        · replace h := h.1 q18
          refine x_sub [1, 2, 3, 4, 5, 6] rfl ?_
          exact J79 _ _ _ h
        · replace h := h.2 q18
          refine x_aload_n hg 1 dX10_crew_62 rfl rfl ?_
          refine x_iload hg 6 dX10_crew_63 rfl ?_
          refine xVIP (Qp := _) (rest := []) (As := [.int v5]) hg (k_X10_hoursFor (gL g) (gD g) a0 v5 σ _ h) lv_X10_304 rfl h8 rfl rfl dX10_crew_65 (cat8 (Nat.le_of_ble_eq_true rfl)) hrm ⟨Nat.le_of_ble_eq_true rfl, Nat.le_of_ble_eq_true rfl⟩ (fun x19 h => ?_)
          refine x_iload_n hg 2 dX10_crew_68 rfl rfl ?_
          refine x_icmp_gt (tgt := 79) hg dX10_crew_69 (by decide) (fun q20 => ?_) (fun q20 => ?_)
          · replace h := h.1 q20
            refine x_sub [1, 2, 3, 4, 5, 6] rfl ?_
            exact J79 _ _ _ h
          · replace h := h.2 q20
            refine x_iload hg 0 dX10_crew_72 rfl ?_
            refine x_istore (lv' := [(4, .int x17), (6, .int x17), (0, va_rf (some a0)), (1, .int v1), (2, .int v2), (3, .int v3), (5, .int v5)]) hg dX10_crew_74 (by rw [hgN]; decide) rfl ?_
            refine x_iload hg 6 dX10_crew_76 rfl ?_
            refine x_istore_n (lv' := [(3, .int v5), (4, .int x17), (6, .int x17), (0, va_rf (some a0)), (1, .int v1), (2, .int v2), (5, .int v5)]) hg dX10_crew_78 rfl (by rw [hgN]; decide) rfl ?_
            refine x_sub [3, 4, 5, 0, 1, 6] rfl ?_
            exact J79 _ _ _ h
    exact key33 n33 v3 v4 v5 hI33
  refine x_iload_n hg 1 dX10_crew_0 rfl rfl ?_
  refine x_iconst (v := 0) hg dX10_crew_1 (by decide) ?_
  refine x_bipush (v := 60) hg dX10_crew_2 (by decide) ?_
  refine xSIP (Qp := _) (rest := []) (As := [.int v1, .int 0, .int 60]) hg (k_X10_within (gL g) (gD g) v1 0 60 σ _ h) ls_X10_83 rfl rfl dX10_crew_4 (cat8 (Nat.le_of_ble_eq_true rfl)) hrm ⟨Nat.le_of_ble_eq_true rfl, Nat.le_of_ble_eq_true rfl⟩ (fun x1 h => ?_)
  refine x_if_eq (tgt := 19) hg dX10_crew_7 (by decide) (fun q2 => ?_) (fun q2 => ?_)
  · replace h := h.1 q2
    refine x_iconst (v := (-1)) hg dX10_crew_19 (by decide) ?_
    exact endI hend rfl dX10_crew_20 h
  · replace h := h.2 q2
    refine x_iload_n hg 2 dX10_crew_10 rfl rfl ?_
    refine x_iconst (v := 0) hg dX10_crew_11 (by decide) ?_
    refine x_iconst (v := 2) hg dX10_crew_12 (by decide) ?_
    refine xSIP (Qp := _) (rest := []) (As := [.int v2, .int 0, .int 2]) hg (k_X10_within (gL g) (gD g) v2 0 2 σ _ h) ls_X10_83 rfl rfl dX10_crew_13 (cat8 (Nat.le_of_ble_eq_true rfl)) hrm ⟨Nat.le_of_ble_eq_true rfl, Nat.le_of_ble_eq_true rfl⟩ (fun x3 h => ?_)
    refine x_if_ne (tgt := 21) hg dX10_crew_16 (by decide) (fun q4 => ?_) (fun q4 => ?_)
    · replace h := h.2 q4
      refine x_aload_n hg 0 dX10_crew_21 rfl rfl ?_
      obtain ⟨h5, h⟩ := h
      refine xVVW (Qm := _) (rest := []) (As := []) hg (k_X10_weighGains (gL g) (gD g) a0 σ _ h) lv_X10_298 rfl h5 rfl rfl dX10_crew_22 (cat8 (Nat.le_of_ble_eq_true rfl)) hrm ⟨Nat.le_of_ble_eq_true rfl, Nat.le_of_ble_eq_true rfl⟩ (fun u6 σ7 h => ?_)
      refine x_iconst (v := 0) hg dX10_crew_25 (by decide) ?_
      refine x_istore_n (lv' := [(3, .int 0), (0, va_rf (some a0)), (1, .int v1), (2, .int v2)]) hg dX10_crew_26 rfl (by rw [hgN]; decide) rfl ?_
      refine x_iconst (v := 0) hg dX10_crew_27 (by decide) ?_
      refine x_istore (lv' := [(4, .int 0), (3, .int 0), (0, va_rf (some a0)), (1, .int v1), (2, .int v2)]) hg dX10_crew_28 (by rw [hgN]; decide) rfl ?_
      refine x_iconst (v := 1) hg dX10_crew_30 (by decide) ?_
      refine x_istore (lv' := [(5, .int 1), (4, .int 0), (3, .int 0), (0, va_rf (some a0)), (1, .int v1), (2, .int v2)]) hg dX10_crew_31 (by rw [hgN]; decide) rfl ?_
      refine x_sub [3, 4, 5, 2, 1, 0] rfl ?_
      exact J33 _ _ _ _ _ _ h
    · replace h := h.1 q4
      refine x_iconst (v := (-1)) hg dX10_crew_19 (by decide) ?_
      exact endI hend rfl dX10_crew_20 h
def P_X10_rain (a0 : Nat) (v1 : Int32) (σ : Sg) (Q : Int32 → Sg → Prop) : Prop :=
  P_X10_within v1 0 50 σ (fun x1 => (x1 = 0 → Q (-1) σ) ∧ (¬ (x1 = 0) → sK σ a0 % 32 = 12 ∧ ((sI σ a0 14) < 30 → ∃ c5 : Nat, sR σ a0 9 = some c5 ∧ sK σ c5 % 32 = 16 ∧ vp_in (sI σ a0 14) (sN σ c5) ∧ ∀ σ9 : Sg, σ9 = pI σ c5 (sI σ a0 14).toNatClampNeg v1 → ∀ σ12 : Sg, σ12 = pI σ9 a0 14 ((sI σ9 a0 14) + 1) → Q (sI σ12 a0 14) σ12) ∧ (¬ ((sI σ a0 14) < 30) → Q (-1) σ)))
set_option maxHeartbeats 4000000 in
set_option maxRecDepth 100000 in
theorem k_X10_rain (l : Launch) (D : Dg) (a0 : Nat) (v1 : Int32) (σ : Sg) (Q : Int32 → Sg → Prop) (h : P_X10_rain a0 v1 σ Q) : Ctr l D yX10_rain cX10_rain 2 (some FieldType.int) 1 22 mkI [.ref a0, .int v1] σ (0, 0) Q := by
  refine ctr_of (lv := [(0, va_rf (some a0)), (1, .int v1)]) (by decide) (by (exact Nat.le_of_ble_eq_true rfl)) (by (exact rfl)) (fun g hg hgL hgD hrm hgN hgI hend => ?_)
  subst hgD
  clear hgL
  unfold P_X10_rain at h
  refine x_iload_n hg 1 dX10_rain_0 rfl rfl ?_
  refine x_iconst (v := 0) hg dX10_rain_1 (by decide) ?_
  refine x_bipush (v := 50) hg dX10_rain_2 (by decide) ?_
  refine xSIP (Qp := _) (rest := []) (As := [.int v1, .int 0, .int 50]) hg (k_X10_within (gL g) (gD g) v1 0 50 σ _ h) ls_X10_83 rfl rfl dX10_rain_4 (cat8 (Nat.le_of_ble_eq_true rfl)) hrm ⟨Nat.le_of_ble_eq_true rfl, Nat.le_of_ble_eq_true rfl⟩ (fun x1 h => ?_)
  refine x_if_eq (tgt := 19) hg dX10_rain_7 (by decide) (fun q2 => ?_) (fun q2 => ?_)
  · replace h := h.1 q2
    refine x_iconst (v := (-1)) hg dX10_rain_19 (by decide) ?_
    exact endI hend rfl dX10_rain_20 h
  · replace h := h.2 q2
    refine x_aload_n hg 0 dX10_rain_10 rfl rfl ?_
    obtain ⟨h3, h⟩ := h
    refine x_getI hg fl_X10_315 rfl rfl h3 dX10_rain_11 ?_
    refine x_bipush (v := 30) hg dX10_rain_14 (by decide) ?_
    refine x_icmp_lt (tgt := 21) hg dX10_rain_16 (by decide) (fun q4 => ?_) (fun q4 => ?_)
    · replace h := h.1 q4
      refine x_aload_n hg 0 dX10_rain_21 rfl rfl ?_
      refine x_getR hg fl_X10_55 rfl rfl h3 dX10_rain_22 ?_
      refine x_aload_n hg 0 dX10_rain_25 rfl rfl ?_
      refine x_getI hg fl_X10_315 rfl rfl h3 dX10_rain_26 ?_
      refine x_iload_n hg 1 dX10_rain_29 rfl rfl ?_
      obtain ⟨c5, h6, h⟩ := h
      obtain ⟨h7, h⟩ := h
      obtain ⟨h8, h⟩ := h
      refine x_iast hg h6 h7 h8 dX10_rain_30 ?_
      refine x_nmS (fun σ9 e10 => ?_)
      replace h := h σ9 e10
      have E11 : sK σ9 = sK σ := by rw [e10]; rfl
      refine x_aload_n hg 0 dX10_rain_31 rfl rfl ?_
      refine x_dup hg dX10_rain_32 rfl ?_
      refine x_getI hg fl_X10_315 rfl rfl (kq E11 h3) dX10_rain_33 ?_
      refine x_iconst (v := 1) hg dX10_rain_36 (by decide) ?_
      refine x_iadd hg dX10_rain_37 ?_
      refine x_putI hg fw_X10_315 (fun z => nomatch z) rfl (kq E11 h3) dX10_rain_38 ?_
      refine x_nmS (fun σ12 e13 => ?_)
      replace h := h σ12 e13
      have E14 : sK σ12 = sK σ9 := by rw [e13]; rfl
      refine x_aload_n hg 0 dX10_rain_41 rfl rfl ?_
      refine x_getI hg fl_X10_315 rfl rfl (kq E14 (kq E11 h3)) dX10_rain_42 ?_
      exact endI hend rfl dX10_rain_45 h
    · replace h := h.2 q4
      refine x_iconst (v := (-1)) hg dX10_rain_19 (by decide) ?_
      exact endI hend rfl dX10_rain_20 h
def P_X10_clear (a0 : Nat) (σ : Sg) (Q : Int32 → Sg → Prop) : Prop :=
  sK σ a0 % 32 = 12 ∧ ∀ x2 : Int32, x2 = sI σ a0 14 → ∀ σ4 : Sg, σ4 = pI σ a0 14 0 → Q x2 σ4
set_option maxHeartbeats 4000000 in
set_option maxRecDepth 100000 in
theorem k_X10_clear (l : Launch) (D : Dg) (a0 : Nat) (σ : Sg) (Q : Int32 → Sg → Prop) (h : P_X10_clear a0 σ Q) : Ctr l D yX10_clear cX10_clear 2 (some FieldType.int) 0 0 mkI [.ref a0] σ (0, 0) Q := by
  refine ctr_of (lv := [(0, va_rf (some a0))]) (by decide) (by (exact Nat.le_of_ble_eq_true rfl)) (by (exact rfl)) (fun g hg hgL hgD hrm hgN hgI hend => ?_)
  subst hgD
  clear hgL
  unfold P_X10_clear at h
  refine x_aload_n hg 0 dX10_clear_0 rfl rfl ?_
  obtain ⟨h1, h⟩ := h
  refine x_getI hg fl_X10_315 rfl rfl h1 dX10_clear_1 ?_
  refine x_nmI (fun x2 e3 => ?_)
  replace h := h x2 e3
  refine x_istore_n (lv' := [(1, .int x2), (0, va_rf (some a0))]) hg dX10_clear_4 rfl (by rw [hgN]; decide) rfl ?_
  refine x_aload_n hg 1 dX10_clear_5 rfl rfl ?_
  refine x_iconst (v := 0) hg dX10_clear_6 (by decide) ?_
  refine x_putI hg fw_X10_315 (fun z => nomatch z) rfl h1 dX10_clear_7 ?_
  refine x_nmS (fun σ4 e5 => ?_)
  replace h := h σ4 e5
  have E6 : sK σ4 = sK σ := by rw [e5]; rfl
  refine x_iload_n hg 0 dX10_clear_10 rfl rfl ?_
  exact endI hend rfl dX10_clear_11 h
def P_X10_prepareFlow (a0 : Nat) (σ : Sg) (Q : Unit → Sg → Prop) : Prop :=
  sK σ a0 % 32 = 12 ∧ ∃ c2 : Nat, sR σ a0 7 = some c2 ∧ sK σ c2 % 32 = 5 ∧ P_X3_lieOver c2 (sR σ a0 0) (sR σ a0 8) σ (fun _ σ6 => sK σ6 a0 % 32 = 12 ∧ ∃ c8 : Nat, sR σ6 a0 7 = some c8 ∧ sK σ6 c8 % 32 = 5 ∧ P_X3_letIn c8 (sR σ6 a0 1) (sR σ6 a0 9) (sI σ6 a0 14) σ6 (fun _ σ12 => Q () σ12))
set_option maxHeartbeats 4000000 in
set_option maxRecDepth 100000 in
theorem k_X10_prepareFlow (l : Launch) (D : Dg) (a0 : Nat) (σ : Sg) (Q : Unit → Sg → Prop) (h : P_X10_prepareFlow a0 σ Q) : Ctr l D yX10_prepareFlow cX10_prepareFlow 1 (none) 4 90 mkV [.ref a0] σ (0, 0) Q := by
  refine ctr_of (lv := [(0, va_rf (some a0))]) (by decide) (by (exact Nat.le_of_ble_eq_true rfl)) (by (exact rfl)) (fun g hg hgL hgD hrm hgN hgI hend => ?_)
  subst hgD
  clear hgL
  unfold P_X10_prepareFlow at h
  refine x_aload_n hg 0 dX10_prepareFlow_0 rfl rfl ?_
  obtain ⟨h1, h⟩ := h
  refine x_getR hg fl_X10_47 rfl rfl h1 dX10_prepareFlow_1 ?_
  refine x_aload_n hg 0 dX10_prepareFlow_4 rfl rfl ?_
  refine x_getR hg fl_X10_10 rfl rfl h1 dX10_prepareFlow_5 ?_
  refine x_aload_n hg 0 dX10_prepareFlow_8 rfl rfl ?_
  refine x_getR hg fl_X10_51 rfl rfl h1 dX10_prepareFlow_9 ?_
  obtain ⟨c2, h3, h⟩ := h
  obtain ⟨h4, h⟩ := h
  refine xVVW (Qm := _) (rest := []) (As := [va_rf (sR σ a0 0), va_rf (sR σ a0 8)]) hg (k_X3_lieOver (gL g) (gD g) c2 (sR σ a0 0) (sR σ a0 8) σ _ h) lv_X10_351 h3 h4 rfl rfl dX10_prepareFlow_12 (cat8 (Nat.le_of_ble_eq_true rfl)) hrm ⟨Nat.le_of_ble_eq_true rfl, Nat.le_of_ble_eq_true rfl⟩ (fun u5 σ6 h => ?_)
  refine x_aload_n hg 0 dX10_prepareFlow_15 rfl rfl ?_
  obtain ⟨h7, h⟩ := h
  refine x_getR hg fl_X10_47 rfl rfl h7 dX10_prepareFlow_16 ?_
  refine x_aload_n hg 0 dX10_prepareFlow_19 rfl rfl ?_
  refine x_getR hg fl_X10_16 rfl rfl h7 dX10_prepareFlow_20 ?_
  refine x_aload_n hg 0 dX10_prepareFlow_23 rfl rfl ?_
  refine x_getR hg fl_X10_55 rfl rfl h7 dX10_prepareFlow_24 ?_
  refine x_aload_n hg 0 dX10_prepareFlow_27 rfl rfl ?_
  refine x_getI hg fl_X10_315 rfl rfl h7 dX10_prepareFlow_28 ?_
  obtain ⟨c8, h9, h⟩ := h
  obtain ⟨h10, h⟩ := h
  refine xVVW (Qm := _) (rest := []) (As := [va_rf (sR σ6 a0 1), va_rf (sR σ6 a0 9), .int (sI σ6 a0 14)]) hg (k_X3_letIn (gL g) (gD g) c8 (sR σ6 a0 1) (sR σ6 a0 9) (sI σ6 a0 14) σ6 _ h) lv_X10_355 h9 h10 rfl rfl dX10_prepareFlow_31 (cat8 (Nat.le_of_ble_eq_true rfl)) hrm ⟨Nat.le_of_ble_eq_true rfl, Nat.le_of_ble_eq_true rfl⟩ (fun u11 σ12 h => ?_)
  exact endV hend dX10_prepareFlow_34 h
def P_X10_whatRains_L78b (a0 : Nat) (v1 : Int32) (v2 : Int32) (v3 : Int32) (σ : Sg) (Q : Int32 → Prop) (K78 : Int32 → Int32 → Prop) : Prop :=
  sK σ a0 % 32 = 12 ∧ ((sI σ a0 14) ≤ v3 → Q (v2 * v1)) ∧ (¬ ((sI σ a0 14) ≤ v3) → ∃ c41 : Nat, sR σ a0 9 = some c41 ∧ sK σ c41 % 32 = 16 ∧ vp_in v3 (sN σ c41) ∧ ∀ x45 : Int32, x45 = v2 + (sI σ c41 v3.toNatClampNeg) → ∀ x47 : Int32, x47 = v3 + 1 → K78 x45 x47)
def P_X10_whatRains_L78 (a0 : Nat) (v1 : Int32) (v2 : Int32) (v3 : Int32) (σ : Sg) (Q : Int32 → Prop) : Prop :=
  ∃ I : Nat → Int32 → Int32 → Prop, (∃ n, I n v2 v3) ∧ ∀ (n : Nat) (v2 : Int32) (v3 : Int32), I n v2 v3 → P_X10_whatRains_L78b a0 v1 v2 v3 σ Q (fun v2 v3 => ∃ n', n' < n ∧ I n' v2 v3)
def P_X10_whatRains_L40b (a0 : Nat) (v1 : Int32) (v2 : Int32) (σ : Sg) (Q : Int32 → Prop) (K40 : Int32 → Int32 → Prop) : Prop :=
  sK σ a0 % 32 = 12 ∧ ∃ c21 : Nat, sR σ a0 1 = some c21 ∧ sK σ c21 % 32 = 1 ∧ P_Jx4a65c_size_8abf5 c21 σ (fun x24 => (x24 ≤ v2 → P_X10_whatRains_L78 a0 v1 0 0 σ Q) ∧ (¬ (x24 ≤ v2) → ∃ c26 : Nat, sR σ a0 1 = some c26 ∧ sK σ c26 % 32 = 1 ∧ P_Jx4a65c_get_915e3 c26 v2 σ (fun r29 => ∃ c30 : Nat, r29 = some c30 ∧ sK σ c30 % 32 = 8 ∧ ∀ x33 : Int32, x33 = v1 + (sI σ c30 2) → ∀ x35 : Int32, x35 = v2 + 1 → K40 x33 x35)))
def P_X10_whatRains_L40 (a0 : Nat) (v1 : Int32) (v2 : Int32) (σ : Sg) (Q : Int32 → Prop) : Prop :=
  ∃ I : Nat → Int32 → Int32 → Prop, (∃ n, I n v1 v2) ∧ ∀ (n : Nat) (v1 : Int32) (v2 : Int32), I n v1 v2 → P_X10_whatRains_L40b a0 v1 v2 σ Q (fun v1 v2 => ∃ n', n' < n ∧ I n' v1 v2)
def P_X10_whatRains_L4b (a0 : Nat) (v1 : Int32) (v2 : Int32) (σ : Sg) (Q : Int32 → Prop) (K4 : Int32 → Int32 → Prop) : Prop :=
  sK σ a0 % 32 = 12 ∧ ∃ c2 : Nat, sR σ a0 0 = some c2 ∧ sK σ c2 % 32 = 1 ∧ P_Jx4a65c_size_8abf5 c2 σ (fun x5 => (x5 ≤ v2 → P_X10_whatRains_L40 a0 v1 0 σ Q) ∧ (¬ (x5 ≤ v2) → ∃ c7 : Nat, sR σ a0 0 = some c7 ∧ sK σ c7 % 32 = 1 ∧ P_Jx4a65c_get_915e3 c7 v2 σ (fun r10 => ∃ c11 : Nat, r10 = some c11 ∧ sK σ c11 % 32 = 4 ∧ ∀ x14 : Int32, x14 = v1 + (sI σ c11 0) → ∀ x16 : Int32, x16 = v2 + 1 → K4 x14 x16)))
def P_X10_whatRains_L4 (a0 : Nat) (v1 : Int32) (v2 : Int32) (σ : Sg) (Q : Int32 → Prop) : Prop :=
  ∃ I : Nat → Int32 → Int32 → Prop, (∃ n, I n v1 v2) ∧ ∀ (n : Nat) (v1 : Int32) (v2 : Int32), I n v1 v2 → P_X10_whatRains_L4b a0 v1 v2 σ Q (fun v1 v2 => ∃ n', n' < n ∧ I n' v1 v2)
def P_X10_whatRains (a0 : Nat) (σ : Sg) (Q : Int32 → Prop) : Prop :=
  P_X10_whatRains_L4 a0 0 0 σ Q
set_option maxHeartbeats 4000000 in
set_option maxRecDepth 100000 in
theorem k_X10_whatRains (l : Launch) (D : Dg) (a0 : Nat) (σ : Sg) (Q : Int32 → Prop) (h : P_X10_whatRains a0 σ Q) : Ctr l D yX10_whatRains cX10_whatRains 4 (some FieldType.int) 3 64 mkI [.ref a0] σ (0, 0) (fun r σ2 => Q r ∧ σ2 = σ) := by
  refine ctr_of (lv := [(0, va_rf (some a0))]) (by decide) (by (exact Nat.le_of_ble_eq_true rfl)) (by (exact rfl)) (fun g hg hgL hgD hrm hgN hgI hend => ?_)
  subst hgD
  clear hgL
  unfold P_X10_whatRains at h
  have J78 : ∀ (v1 : Int32) (v2 : Int32) (v3 : Int32), P_X10_whatRains_L78 a0 v1 v2 v3 σ Q → XJ g 78 [(0, va_rf (some a0)), (1, .int v1), (2, .int v2), (3, .int v3)] [] σ (0, 0) := by
    intro v1 v2 v3 h
    unfold P_X10_whatRains_L78 at h
    obtain ⟨I78, ⟨n78, hI78⟩, hs78⟩ := h
    have key78 : ∀ (n : Nat), ∀ (v2 : Int32) (v3 : Int32), I78 n v2 v3 → XJ g 78 [(0, va_rf (some a0)), (1, .int v1), (2, .int v2), (3, .int v3)] [] σ (0, 0) := by
      intro n
      induction n using Nat.strongRecOn with
      | _ n ih78 =>
      intro v2 v3 hI
      have h := hs78 n v2 v3 hI
      clear hI hI78 hs78
      obtain ⟨K78, hK78⟩ : ∃ K : Int32 → Int32 → Prop, K = (fun v2 v3 => ∃ n', n' < n ∧ I78 n' v2 v3) := ⟨_, rfl⟩
      rw [← hK78] at h
      unfold P_X10_whatRains_L78b at h
      refine x_iload_n hg 3 dX10_whatRains_78 rfl rfl ?_
      refine x_aload_n hg 0 dX10_whatRains_79 rfl rfl ?_
      obtain ⟨h39, h⟩ := h
      refine x_getI hg fl_X10_315 rfl rfl h39 dX10_whatRains_80 ?_
      refine x_icmp_ge (tgt := 101) hg dX10_whatRains_83 (by decide) (fun q40 => ?_) (fun q40 => ?_)
      · replace h := h.1 q40
        refine x_iload_n hg 2 dX10_whatRains_101 rfl rfl ?_
        refine x_iload_n hg 1 dX10_whatRains_102 rfl rfl ?_
        refine x_imul hg dX10_whatRains_103 ?_
        exact endI hend rfl dX10_whatRains_104 ⟨h, rfl⟩
      · replace h := h.2 q40
        refine x_iload_n hg 2 dX10_whatRains_86 rfl rfl ?_
        refine x_aload_n hg 0 dX10_whatRains_87 rfl rfl ?_
        refine x_getR hg fl_X10_55 rfl rfl h39 dX10_whatRains_88 ?_
        refine x_iload_n hg 3 dX10_whatRains_91 rfl rfl ?_
        obtain ⟨c41, h42, h⟩ := h
        obtain ⟨h43, h⟩ := h
        obtain ⟨h44, h⟩ := h
        refine x_iald hg h42 h43 h44 dX10_whatRains_92 ?_
        refine x_iadd hg dX10_whatRains_93 ?_
        refine x_nmI (fun x45 e46 => ?_)
        replace h := h x45 e46
        refine x_istore_n (lv' := [(2, .int x45), (0, va_rf (some a0)), (1, .int v1), (3, .int v3)]) hg dX10_whatRains_94 rfl (by rw [hgN]; decide) rfl ?_
        obtain ⟨x47, e48⟩ : ∃ y : Int32, y = v3 + 1 := ⟨_, rfl⟩
        replace h := h x47 e48
        refine x_iinc (v := x47) (lv' := [(3, .int x47), (2, .int x45), (0, va_rf (some a0)), (1, .int v1)]) hg 3 dX10_whatRains_95 rfl (by rw [e48]; rfl) (by rw [hgN]; decide) rfl ?_
        refine x_goto (tgt := 78) hg dX10_whatRains_98 (by decide) ?_
        refine x_sub [2, 3, 1, 0] rfl ?_
        subst hK78
        obtain ⟨n49, h50, h⟩ := h
        exact ih78 n49 h50 _ _ h
    exact key78 n78 v2 v3 hI78
  have J40 : ∀ (v1 : Int32) (v2 : Int32), P_X10_whatRains_L40 a0 v1 v2 σ Q → XJ g 40 [(0, va_rf (some a0)), (1, .int v1), (2, .int v2)] [] σ (0, 0) := by
    intro v1 v2 h
    unfold P_X10_whatRains_L40 at h
    obtain ⟨I40, ⟨n40, hI40⟩, hs40⟩ := h
    have key40 : ∀ (n : Nat), ∀ (v1 : Int32) (v2 : Int32), I40 n v1 v2 → XJ g 40 [(0, va_rf (some a0)), (1, .int v1), (2, .int v2)] [] σ (0, 0) := by
      intro n
      induction n using Nat.strongRecOn with
      | _ n ih40 =>
      intro v1 v2 hI
      have h := hs40 n v1 v2 hI
      clear hI hI40 hs40
      obtain ⟨K40, hK40⟩ : ∃ K : Int32 → Int32 → Prop, K = (fun v1 v2 => ∃ n', n' < n ∧ I40 n' v1 v2) := ⟨_, rfl⟩
      rw [← hK40] at h
      unfold P_X10_whatRains_L40b at h
      refine x_iload_n hg 2 dX10_whatRains_40 rfl rfl ?_
      refine x_aload_n hg 0 dX10_whatRains_41 rfl rfl ?_
      obtain ⟨h20, h⟩ := h
      refine x_getR hg fl_X10_16 rfl rfl h20 dX10_whatRains_42 ?_
      obtain ⟨c21, h22, h⟩ := h
      obtain ⟨h23, h⟩ := h
      refine xVIP (Qp := _) (rest := [.int v2]) (As := []) hg (k_Jx4a65c_size_8abf5 (gL g) (gD g) c21 σ _ h) lv_X10_87 h22 h23 rfl rfl dX10_whatRains_45 (cat8 (Nat.le_of_ble_eq_true rfl)) hrm ⟨Nat.le_of_ble_eq_true rfl, Nat.le_of_ble_eq_true rfl⟩ (fun x24 h => ?_)
      refine x_icmp_ge (tgt := 74) hg dX10_whatRains_48 (by decide) (fun q25 => ?_) (fun q25 => ?_)
      · replace h := h.1 q25
        refine x_iconst (v := 0) hg dX10_whatRains_74 (by decide) ?_
        refine x_istore_n (lv' := [(2, .int 0), (0, va_rf (some a0)), (1, .int v1)]) hg dX10_whatRains_75 rfl (by rw [hgN]; decide) rfl ?_
        refine x_iconst (v := 0) hg dX10_whatRains_76 (by decide) ?_
        refine x_istore_n (lv' := [(3, .int 0), (2, .int 0), (0, va_rf (some a0)), (1, .int v1)]) hg dX10_whatRains_77 rfl (by rw [hgN]; decide) rfl ?_
        refine x_sub [2, 3, 1, 0] rfl ?_
        exact J78 _ _ _ h
      · replace h := h.2 q25
        refine x_iload_n hg 1 dX10_whatRains_51 rfl rfl ?_
        refine x_aload_n hg 0 dX10_whatRains_52 rfl rfl ?_
        refine x_getR hg fl_X10_16 rfl rfl h20 dX10_whatRains_53 ?_
        refine x_iload_n hg 2 dX10_whatRains_56 rfl rfl ?_
        obtain ⟨c26, h27, h⟩ := h
        obtain ⟨h28, h⟩ := h
        refine xVRP (Qp := _) (rest := [.int v1]) (As := [.int v2]) hg (k_Jx4a65c_get_915e3 (gL g) (gD g) c26 v2 σ _ h) lv_X10_232 h27 h28 rfl rfl dX10_whatRains_57 (cat8 (Nat.le_of_ble_eq_true rfl)) hrm ⟨Nat.le_of_ble_eq_true rfl, Nat.le_of_ble_eq_true rfl⟩ (fun r29 h => ?_)
        obtain ⟨c30, h31, h⟩ := h
        obtain ⟨h32, h⟩ := h
        refine x_cast (c := 8) hg (C := RX6) rfl (by decide) cl_X10_107 h31 h32 dX10_whatRains_60 ?_
        refine x_getI hg fl_X10_227 rfl h31 h32 dX10_whatRains_63 ?_
        refine x_iadd hg dX10_whatRains_66 ?_
        refine x_nmI (fun x33 e34 => ?_)
        replace h := h x33 e34
        refine x_istore_n (lv' := [(1, .int x33), (0, va_rf (some a0)), (2, .int v2)]) hg dX10_whatRains_67 rfl (by rw [hgN]; decide) rfl ?_
        obtain ⟨x35, e36⟩ : ∃ y : Int32, y = v2 + 1 := ⟨_, rfl⟩
        replace h := h x35 e36
        refine x_iinc (v := x35) (lv' := [(2, .int x35), (1, .int x33), (0, va_rf (some a0))]) hg 2 dX10_whatRains_68 rfl (by rw [e36]; rfl) (by rw [hgN]; decide) rfl ?_
        refine x_goto (tgt := 40) hg dX10_whatRains_71 (by decide) ?_
        refine x_sub [2, 1, 0] rfl ?_
        subst hK40
        obtain ⟨n37, h38, h⟩ := h
        exact ih40 n37 h38 _ _ h
    exact key40 n40 v1 v2 hI40
  have J4 : ∀ (v1 : Int32) (v2 : Int32), P_X10_whatRains_L4 a0 v1 v2 σ Q → XJ g 4 [(0, va_rf (some a0)), (1, .int v1), (2, .int v2)] [] σ (0, 0) := by
    intro v1 v2 h
    unfold P_X10_whatRains_L4 at h
    obtain ⟨I4, ⟨n4, hI4⟩, hs4⟩ := h
    have key4 : ∀ (n : Nat), ∀ (v1 : Int32) (v2 : Int32), I4 n v1 v2 → XJ g 4 [(0, va_rf (some a0)), (1, .int v1), (2, .int v2)] [] σ (0, 0) := by
      intro n
      induction n using Nat.strongRecOn with
      | _ n ih4 =>
      intro v1 v2 hI
      have h := hs4 n v1 v2 hI
      clear hI hI4 hs4
      obtain ⟨K4, hK4⟩ : ∃ K : Int32 → Int32 → Prop, K = (fun v1 v2 => ∃ n', n' < n ∧ I4 n' v1 v2) := ⟨_, rfl⟩
      rw [← hK4] at h
      unfold P_X10_whatRains_L4b at h
      refine x_iload_n hg 2 dX10_whatRains_4 rfl rfl ?_
      refine x_aload_n hg 0 dX10_whatRains_5 rfl rfl ?_
      obtain ⟨h1, h⟩ := h
      refine x_getR hg fl_X10_10 rfl rfl h1 dX10_whatRains_6 ?_
      obtain ⟨c2, h3, h⟩ := h
      obtain ⟨h4, h⟩ := h
      refine xVIP (Qp := _) (rest := [.int v2]) (As := []) hg (k_Jx4a65c_size_8abf5 (gL g) (gD g) c2 σ _ h) lv_X10_87 h3 h4 rfl rfl dX10_whatRains_9 (cat8 (Nat.le_of_ble_eq_true rfl)) hrm ⟨Nat.le_of_ble_eq_true rfl, Nat.le_of_ble_eq_true rfl⟩ (fun x5 h => ?_)
      refine x_icmp_ge (tgt := 38) hg dX10_whatRains_12 (by decide) (fun q6 => ?_) (fun q6 => ?_)
      · replace h := h.1 q6
        refine x_iconst (v := 0) hg dX10_whatRains_38 (by decide) ?_
        refine x_istore_n (lv' := [(2, .int 0), (0, va_rf (some a0)), (1, .int v1)]) hg dX10_whatRains_39 rfl (by rw [hgN]; decide) rfl ?_
        refine x_sub [1, 2, 0] rfl ?_
        exact J40 _ _ h
      · replace h := h.2 q6
        refine x_iload_n hg 1 dX10_whatRains_15 rfl rfl ?_
        refine x_aload_n hg 0 dX10_whatRains_16 rfl rfl ?_
        refine x_getR hg fl_X10_10 rfl rfl h1 dX10_whatRains_17 ?_
        refine x_iload_n hg 2 dX10_whatRains_20 rfl rfl ?_
        obtain ⟨c7, h8, h⟩ := h
        obtain ⟨h9, h⟩ := h
        refine xVRP (Qp := _) (rest := [.int v1]) (As := [.int v2]) hg (k_Jx4a65c_get_915e3 (gL g) (gD g) c7 v2 σ _ h) lv_X10_232 h8 h9 rfl rfl dX10_whatRains_21 (cat8 (Nat.le_of_ble_eq_true rfl)) hrm ⟨Nat.le_of_ble_eq_true rfl, Nat.le_of_ble_eq_true rfl⟩ (fun r10 h => ?_)
        obtain ⟨c11, h12, h⟩ := h
        obtain ⟨h13, h⟩ := h
        refine x_cast (c := 4) hg (C := RX2) rfl (by decide) cl_X10_91 h12 h13 dX10_whatRains_24 ?_
        refine x_getI hg fl_X10_168 rfl h12 h13 dX10_whatRains_27 ?_
        refine x_iadd hg dX10_whatRains_30 ?_
        refine x_nmI (fun x14 e15 => ?_)
        replace h := h x14 e15
        refine x_istore_n (lv' := [(1, .int x14), (0, va_rf (some a0)), (2, .int v2)]) hg dX10_whatRains_31 rfl (by rw [hgN]; decide) rfl ?_
        obtain ⟨x16, e17⟩ : ∃ y : Int32, y = v2 + 1 := ⟨_, rfl⟩
        replace h := h x16 e17
        refine x_iinc (v := x16) (lv' := [(2, .int x16), (1, .int x14), (0, va_rf (some a0))]) hg 2 dX10_whatRains_32 rfl (by rw [e17]; rfl) (by rw [hgN]; decide) rfl ?_
        refine x_goto (tgt := 4) hg dX10_whatRains_35 (by decide) ?_
        refine x_sub [2, 1, 0] rfl ?_
        subst hK4
        obtain ⟨n18, h19, h⟩ := h
        exact ih4 n18 h19 _ _ h
    exact key4 n4 v1 v2 hI4
  refine x_iconst (v := 0) hg dX10_whatRains_0 (by decide) ?_
  refine x_istore_n (lv' := [(1, .int 0), (0, va_rf (some a0))]) hg dX10_whatRains_1 rfl (by rw [hgN]; decide) rfl ?_
  refine x_iconst (v := 0) hg dX10_whatRains_2 (by decide) ?_
  refine x_istore_n (lv' := [(2, .int 0), (1, .int 0), (0, va_rf (some a0))]) hg dX10_whatRains_3 rfl (by rw [hgN]; decide) rfl ?_
  refine x_sub [2, 1, 0] rfl ?_
  exact J4 _ _ h
def P_X10_storm_L85b (a0 : Nat) (v1 : Int32) (σ : Sg) (b : Nat × Nat) (Q : Int32 → Sg → Prop) (K85 : Int32 → Sg → Prop) : Prop :=
  sK σ a0 % 32 = 12 ∧ ∃ c54 : Nat, sR σ a0 1 = some c54 ∧ sK σ c54 % 32 = 1 ∧ P_Jx4a65c_size_8abf5 c54 σ (fun x57 => (x57 ≤ v1 → ∃ κ59 : Nat, κ59 % 32 = 10 ∧ 1 ≤ b.1 ∧ 5 ≤ b.2 ∧ ∀ q63 : Nat, sK σ q63 = 0 → ∀ σ65 : Sg, σ65 = nw σ q63 κ59 0 → P_X10_whatRains a0 σ65 (fun x68 => P_X8_init q63 (sI σ65 a0 15) x68 (sR σ65 a0 7) σ65 (fun _ σ70 => sK σ70 a0 % 32 = 12 ∧ ∃ c72 : Nat, sR σ70 a0 13 = some c72 ∧ sK σ70 c72 % 32 = 17 ∧ vp_in 0 (sN σ70 c72) ∧ sK σ70 q63 % 32 = 10 ∧ vp_in 0 (sN σ70 c72) ∧ ∀ σ78 : Sg, σ78 = pL σ70 c72 (0 : Int32).toNatClampNeg ((sL σ70 c72 (0 : Int32).toNatClampNeg) + ((sI σ70 q63 1).toInt64)) → ∃ c81 : Nat, sR σ78 a0 13 = some c81 ∧ sK σ78 c81 % 32 = 17 ∧ vp_in 2 (sN σ78 c81) ∧ vp_in 2 (sN σ78 c81) ∧ ∀ σ86 : Sg, σ86 = pL σ78 c81 (2 : Int32).toNatClampNeg ((sL σ78 c81 (2 : Int32).toNatClampNeg) + ((sI σ78 q63 2).toInt64)) → ∃ c89 : Nat, sR σ86 a0 13 = some c89 ∧ sK σ86 c89 % 32 = 17 ∧ vp_in 3 (sN σ86 c89) ∧ ∃ c93 : Nat, sR σ86 a0 7 = some c93 ∧ sK σ86 c93 % 32 = 5 ∧ vp_in 3 (sN σ86 c89) ∧ ∀ σ97 : Sg, σ97 = pL σ86 c89 (3 : Int32).toNatClampNeg ((sL σ86 c89 (3 : Int32).toNatClampNeg) + ((sI σ86 c93 1).toInt64)) → ∃ c100 : Nat, sR σ97 a0 2 = some c100 ∧ sK σ97 c100 % 32 = 1 ∧ ∃ bc105 : Nat × Nat, bc105.1 ≤ b.1 - 1 ∧ bc105.2 ≤ b.2 - 5 ∧ P_Jx4a65c_add_9ea2d c100 (some q63) σ97 bc105 (fun x103 σ104 => sK σ104 a0 % 32 = 12 ∧ ∃ c109 : Nat, sR σ104 a0 2 = some c109 ∧ sK σ104 c109 % 32 = 1 ∧ P_Jx4a65c_size_8abf5 c109 σ104 (fun x112 => Q (x112 - 1) σ104))))) ∧ (¬ (x57 ≤ v1) → ∃ c113 : Nat, sR σ a0 1 = some c113 ∧ sK σ c113 % 32 = 1 ∧ P_Jx4a65c_get_915e3 c113 v1 σ (fun r116 => ∃ c117 : Nat, r116 = some c117 ∧ sK σ c117 % 32 = 8 ∧ ∃ c120 : Nat, sR σ a0 7 = some c120 ∧ sK σ c120 % 32 = 5 ∧ P_X3_barrelAfter c120 v1 σ (fun x123 => ∀ σ124 : Sg, σ124 = pI σ c117 4 x123 → ∀ x127 : Int32, x127 = v1 + 1 → K85 x127 σ124))))
def P_X10_storm_L85 (a0 : Nat) (v1 : Int32) (σ : Sg) (b : Nat × Nat) (Q : Int32 → Sg → Prop) : Prop :=
  ∃ I : Nat → Int32 → Sg → Prop, (∃ n, I n v1 σ) ∧ ∀ (n : Nat) (v1 : Int32) (σ : Sg), I n v1 σ → P_X10_storm_L85b a0 v1 σ b Q (fun v1 σ => ∃ n', n' < n ∧ I n' v1 σ)
def P_X10_storm_L28b (a0 : Nat) (v1 : Int32) (σ : Sg) (b : Nat × Nat) (Q : Int32 → Sg → Prop) (K28 : Int32 → Sg → Prop) : Prop :=
  sK σ a0 % 32 = 12 ∧ ∃ c16 : Nat, sR σ a0 0 = some c16 ∧ sK σ c16 % 32 = 1 ∧ P_Jx4a65c_size_8abf5 c16 σ (fun x19 => (x19 ≤ v1 → P_X10_storm_L85 a0 0 σ (b.1, b.2) Q) ∧ (¬ (x19 ≤ v1) → ∃ c21 : Nat, sR σ a0 13 = some c21 ∧ sK σ c21 % 32 = 17 ∧ vp_in 1 (sN σ c21) ∧ ∃ c25 : Nat, sR σ a0 0 = some c25 ∧ sK σ c25 % 32 = 1 ∧ P_Jx4a65c_get_915e3 c25 v1 σ (fun r28 => ∃ c29 : Nat, r28 = some c29 ∧ sK σ c29 % 32 = 4 ∧ ∃ c32 : Nat, sR σ a0 7 = some c32 ∧ sK σ c32 % 32 = 5 ∧ ∃ c35 : Nat, sR σ c32 0 = some c35 ∧ sK σ c35 % 32 = 1 ∧ P_Jx4a65c_get_915e3 c35 v1 σ (fun r38 => ∃ c39 : Nat, r38 = some c39 ∧ sK σ c39 % 32 = 7 ∧ P_X2_takeOver c29 r38 σ (fun x42 σ43 => sK σ43 c21 % 32 = 17 ∧ vp_in 1 (sN σ43 c21) ∧ ∀ σ46 : Sg, σ46 = pL σ43 c21 (1 : Int32).toNatClampNeg ((sL σ c21 (1 : Int32).toNatClampNeg) + x42.toInt64) → ∀ x49 : Int32, x49 = v1 + 1 → K28 x49 σ46)))))
def P_X10_storm_L28 (a0 : Nat) (v1 : Int32) (σ : Sg) (b : Nat × Nat) (Q : Int32 → Sg → Prop) : Prop :=
  ∃ I : Nat → Int32 → Sg → Prop, (∃ n, I n v1 σ) ∧ ∀ (n : Nat) (v1 : Int32) (σ : Sg), I n v1 σ → P_X10_storm_L28b a0 v1 σ b Q (fun v1 σ => ∃ n', n' < n ∧ I n' v1 σ)
def P_X10_storm (a0 : Nat) (σ : Sg) (b : Nat × Nat) (Q : Int32 → Sg → Prop) : Prop :=
  sK σ a0 % 32 = 12 ∧ ∃ c2 : Nat, sR σ a0 2 = some c2 ∧ sK σ c2 % 32 = 1 ∧ P_Jx4a65c_size_8abf5 c2 σ (fun x5 => (x5 < 40 → P_X10_prepareFlow a0 σ (fun _ σ8 => sK σ8 a0 % 32 = 12 ∧ ∃ c10 : Nat, sR σ8 a0 7 = some c10 ∧ sK σ8 c10 % 32 = 5 ∧ P_X3_run c10 0 σ8 (fun _ σ14 => P_X10_storm_L28 a0 0 σ14 (b.1, b.2) Q))) ∧ (¬ (x5 < 40) → Q (-1) σ))
set_option maxHeartbeats 4000000 in
set_option maxRecDepth 100000 in
theorem k_X10_storm (l : Launch) (D : Dg) (a0 : Nat) (σ : Sg) (b : Nat × Nat) (Q : Int32 → Sg → Prop) (h : P_X10_storm a0 σ b Q) : Ctr l D yX10_storm cX10_storm 2 (some FieldType.int) 7 171 mkI [.ref a0] σ b Q := by
  refine ctr_of (lv := [(0, va_rf (some a0))]) (by decide) (by (exact Nat.le_of_ble_eq_true rfl)) (by (exact rfl)) (fun g hg hgL hgD hrm hgN hgI hend => ?_)
  subst hgD
  clear hgL
  unfold P_X10_storm at h
  have J85 : ∀ (v1 : Int32) (σ : Sg) (b : Nat × Nat), P_X10_storm_L85 a0 v1 σ b Q → XJ g 85 [(0, va_rf (some a0)), (1, .int v1)] [] σ b := by
    intro v1 σ b h
    unfold P_X10_storm_L85 at h
    obtain ⟨I85, ⟨n85, hI85⟩, hs85⟩ := h
    have key85 : ∀ (n : Nat), ∀ (v1 : Int32) (σ : Sg), I85 n v1 σ → XJ g 85 [(0, va_rf (some a0)), (1, .int v1)] [] σ b := by
      intro n
      induction n using Nat.strongRecOn with
      | _ n ih85 =>
      intro v1 σ hI
      have h := hs85 n v1 σ hI
      clear hI hI85 hs85
      obtain ⟨K85, hK85⟩ : ∃ K : Int32 → Sg → Prop, K = (fun v1 σ => ∃ n', n' < n ∧ I85 n' v1 σ) := ⟨_, rfl⟩
      rw [← hK85] at h
      unfold P_X10_storm_L85b at h
      refine x_iload_n hg 1 dX10_storm_85 rfl rfl ?_
      refine x_aload_n hg 0 dX10_storm_86 rfl rfl ?_
      obtain ⟨h53, h⟩ := h
      refine x_getR hg fl_X10_16 rfl rfl h53 dX10_storm_87 ?_
      obtain ⟨c54, h55, h⟩ := h
      obtain ⟨h56, h⟩ := h
      refine xVIP (Qp := _) (rest := [.int v1]) (As := []) hg (k_Jx4a65c_size_8abf5 (gL g) (gD g) c54 σ _ h) lv_X10_87 h55 h56 rfl rfl dX10_storm_90 (cat8 (Nat.le_of_ble_eq_true rfl)) hrm ⟨Nat.le_of_ble_eq_true rfl, Nat.le_of_ble_eq_true rfl⟩ (fun x57 h => ?_)
      refine x_icmp_ge (tgt := 124) hg dX10_storm_93 (by decide) (fun q58 => ?_) (fun q58 => ?_)
      · replace h := h.1 q58
        obtain ⟨κ59, h60, h61, h62, h⟩ := h
        refine x_new hg nl_X10_336 h60 h61 h62 dX10_storm_124 (fun q63 h64 => ?_)
        replace h := h q63 h64
        refine x_nmS (fun σ65 e66 => ?_)
        replace h := h σ65 e66
        refine x_dup hg dX10_storm_127 rfl ?_
        refine x_aload_n hg 0 dX10_storm_128 rfl rfl ?_
        refine x_getI hg fl_X10_120 rfl rfl (kw e66 h64 (by decide) h53) dX10_storm_129 ?_
        refine x_aload_n hg 0 dX10_storm_132 rfl rfl ?_
        refine xVIP (Qp := _) (rest := [.int (sI σ65 a0 15), va_rf (some q63), va_rf (some q63)]) (As := []) hg (k_X10_whatRains (gL g) (gD g) a0 σ65 _ h) lv_X10_338 rfl (kw e66 h64 (by decide) h53) rfl rfl dX10_storm_133 (cat8 (Nat.le_of_ble_eq_true rfl)) hrm ⟨Nat.le_of_ble_eq_true rfl, Nat.le_of_ble_eq_true rfl⟩ (fun x68 h => ?_)
        refine x_aload_n hg 0 dX10_storm_136 rfl rfl ?_
        refine x_getR hg fl_X10_47 rfl rfl (kw e66 h64 (by decide) h53) dX10_storm_137 ?_
        refine xIVW (Qm := _) (rest := [va_rf (some q63)]) (As := [.int (sI σ65 a0 15), .int x68, va_rf (sR σ65 a0 7)]) hg (k_X8_init (gL g) (gD g) q63 (sI σ65 a0 15) x68 (sR σ65 a0 7) σ65 _ h) li_X10_341 rfl rfl rfl dX10_storm_140 (cat8 (Nat.le_of_ble_eq_true rfl)) hrm ⟨Nat.le_of_ble_eq_true rfl, Nat.le_of_ble_eq_true rfl⟩ (fun u69 σ70 h => ?_)
        refine x_astore_n (lv' := [(1, va_rf (some q63)), (0, va_rf (some a0))]) hg dX10_storm_143 rfl (by rw [hgN]; decide) rfl ?_
        refine x_aload_n hg 1 dX10_storm_144 rfl rfl ?_
        obtain ⟨h71, h⟩ := h
        refine x_getR hg fl_X10_69 rfl rfl h71 dX10_storm_145 ?_
        refine x_iconst (v := 0) hg dX10_storm_148 (by decide) ?_
        refine x_dup2 hg dX10_storm_149 rfl (rf_cat _) ?_
        obtain ⟨c72, h73, h⟩ := h
        obtain ⟨h74, h⟩ := h
        obtain ⟨h75, h⟩ := h
        refine x_lald hg h73 h74 h75 dX10_storm_150 ?_
        refine x_aload_n hg 0 dX10_storm_151 rfl rfl ?_
        obtain ⟨h76, h⟩ := h
        refine x_getI hg fl_X10_344 rfl rfl h76 dX10_storm_152 ?_
        refine x_i2l hg dX10_storm_155 ?_
        refine x_ladd hg dX10_storm_156 ?_
        obtain ⟨h77, h⟩ := h
        refine x_last hg h73 h74 h77 dX10_storm_157 ?_
        refine x_nmS (fun σ78 e79 => ?_)
        replace h := h σ78 e79
        have E80 : sK σ78 = sK σ70 := by rw [e79]; rfl
        refine x_aload_n hg 1 dX10_storm_158 rfl rfl ?_
        refine x_getR hg fl_X10_69 rfl rfl (kq E80 h71) dX10_storm_159 ?_
        refine x_iconst (v := 2) hg dX10_storm_162 (by decide) ?_
        refine x_dup2 hg dX10_storm_163 rfl (rf_cat _) ?_
        obtain ⟨c81, h82, h⟩ := h
        obtain ⟨h83, h⟩ := h
        obtain ⟨h84, h⟩ := h
        refine x_lald hg h82 h83 h84 dX10_storm_164 ?_
        refine x_aload_n hg 0 dX10_storm_165 rfl rfl ?_
        refine x_getI hg fl_X10_347 rfl rfl (kq E80 h76) dX10_storm_166 ?_
        refine x_i2l hg dX10_storm_169 ?_
        refine x_ladd hg dX10_storm_170 ?_
        obtain ⟨h85, h⟩ := h
        refine x_last hg h82 h83 h85 dX10_storm_171 ?_
        refine x_nmS (fun σ86 e87 => ?_)
        replace h := h σ86 e87
        have E88 : sK σ86 = sK σ78 := by rw [e87]; rfl
        refine x_aload_n hg 1 dX10_storm_172 rfl rfl ?_
        refine x_getR hg fl_X10_69 rfl rfl (kq E88 (kq E80 h71)) dX10_storm_173 ?_
        refine x_iconst (v := 3) hg dX10_storm_176 (by decide) ?_
        refine x_dup2 hg dX10_storm_177 rfl (rf_cat _) ?_
        obtain ⟨c89, h90, h⟩ := h
        obtain ⟨h91, h⟩ := h
        obtain ⟨h92, h⟩ := h
        refine x_lald hg h90 h91 h92 dX10_storm_178 ?_
        refine x_aload_n hg 1 dX10_storm_179 rfl rfl ?_
        refine x_getR hg fl_X10_47 rfl rfl (kq E88 (kq E80 h71)) dX10_storm_180 ?_
        obtain ⟨c93, h94, h⟩ := h
        obtain ⟨h95, h⟩ := h
        refine x_getI hg fl_X10_348 rfl h94 h95 dX10_storm_183 ?_
        refine x_i2l hg dX10_storm_186 ?_
        refine x_ladd hg dX10_storm_187 ?_
        obtain ⟨h96, h⟩ := h
        refine x_last hg h90 h91 h96 dX10_storm_188 ?_
        refine x_nmS (fun σ97 e98 => ?_)
        replace h := h σ97 e98
        have E99 : sK σ97 = sK σ86 := by rw [e98]; rfl
        refine x_aload_n hg 1 dX10_storm_189 rfl rfl ?_
        refine x_getR hg fl_X10_19 rfl rfl (kq E99 (kq E88 (kq E80 h71))) dX10_storm_190 ?_
        refine x_aload_n hg 0 dX10_storm_193 rfl rfl ?_
        obtain ⟨c100, h101, h⟩ := h
        obtain ⟨h102, h⟩ := h
        obtain ⟨bc105, h106, h107, h⟩ := h
        refine xVIA (Qm := _) (rest := []) (As := [va_rf (some q63)]) hg (k_Jx4a65c_add_9ea2d (gL g) (gD g) c100 (some q63) σ97 bc105 _ h) lv_X10_96 h101 h102 rfl rfl dX10_storm_194 (cat8 (Nat.le_of_ble_eq_true rfl)) hrm ⟨Nat.le_of_ble_eq_true rfl, Nat.le_of_ble_eq_true rfl⟩ h106 h107 (fun x103 σ104 h => ?_)
        refine x_pop hg dX10_storm_197 rfl ?_
        refine x_aload_n hg 1 dX10_storm_198 rfl rfl ?_
        obtain ⟨h108, h⟩ := h
        refine x_getR hg fl_X10_19 rfl rfl h108 dX10_storm_199 ?_
        obtain ⟨c109, h110, h⟩ := h
        obtain ⟨h111, h⟩ := h
        refine xVIP (Qp := _) (rest := []) (As := []) hg (k_Jx4a65c_size_8abf5 (gL g) (gD g) c109 σ104 _ h) lv_X10_87 h110 h111 rfl rfl dX10_storm_202 (cat8 (Nat.le_of_ble_eq_true rfl)) hrm ⟨Nat.le_of_ble_eq_true rfl, Nat.le_of_ble_eq_true rfl⟩ (fun x112 h => ?_)
        refine x_iconst (v := 1) hg dX10_storm_205 (by decide) ?_
        refine x_isub hg dX10_storm_206 ?_
        exact endI hend rfl dX10_storm_207 h
      · replace h := h.2 q58
        refine x_aload_n hg 0 dX10_storm_96 rfl rfl ?_
        refine x_getR hg fl_X10_16 rfl rfl h53 dX10_storm_97 ?_
        refine x_iload_n hg 1 dX10_storm_100 rfl rfl ?_
        obtain ⟨c113, h114, h⟩ := h
        obtain ⟨h115, h⟩ := h
        refine xVRP (Qp := _) (rest := []) (As := [.int v1]) hg (k_Jx4a65c_get_915e3 (gL g) (gD g) c113 v1 σ _ h) lv_X10_232 h114 h115 rfl rfl dX10_storm_101 (cat8 (Nat.le_of_ble_eq_true rfl)) hrm ⟨Nat.le_of_ble_eq_true rfl, Nat.le_of_ble_eq_true rfl⟩ (fun r116 h => ?_)
        obtain ⟨c117, h118, h⟩ := h
        obtain ⟨h119, h⟩ := h
        refine x_cast (c := 8) hg (C := RX6) rfl (by decide) cl_X10_107 h118 h119 dX10_storm_104 ?_
        refine x_aload_n hg 0 dX10_storm_107 rfl rfl ?_
        refine x_getR hg fl_X10_47 rfl rfl h53 dX10_storm_108 ?_
        refine x_iload_n hg 1 dX10_storm_111 rfl rfl ?_
        obtain ⟨c120, h121, h⟩ := h
        obtain ⟨h122, h⟩ := h
        refine xVIP (Qp := _) (rest := [va_rf r116]) (As := [.int v1]) hg (k_X3_barrelAfter (gL g) (gD g) c120 v1 σ _ h) lv_X10_333 h121 h122 rfl rfl dX10_storm_112 (cat8 (Nat.le_of_ble_eq_true rfl)) hrm ⟨Nat.le_of_ble_eq_true rfl, Nat.le_of_ble_eq_true rfl⟩ (fun x123 h => ?_)
        refine x_putI hg fw_X10_228 (fun z => nomatch z) h118 h119 dX10_storm_115 ?_
        refine x_nmS (fun σ124 e125 => ?_)
        replace h := h σ124 e125
        have E126 : sK σ124 = sK σ := by rw [e125]; rfl
        obtain ⟨x127, e128⟩ : ∃ y : Int32, y = v1 + 1 := ⟨_, rfl⟩
        replace h := h x127 e128
        refine x_iinc (v := x127) (lv' := [(1, .int x127), (0, va_rf (some a0))]) hg 1 dX10_storm_118 rfl (by rw [e128]; rfl) (by rw [hgN]; decide) rfl ?_
        refine x_goto (tgt := 85) hg dX10_storm_121 (by decide) ?_
        refine x_sub [1, 0] rfl ?_
        subst hK85
        obtain ⟨n129, h130, h⟩ := h
        exact ih85 n129 h130 _ _ h
    exact key85 n85 v1 σ hI85
  have J28 : ∀ (v1 : Int32) (σ : Sg) (b : Nat × Nat), P_X10_storm_L28 a0 v1 σ b Q → XJ g 28 [(0, va_rf (some a0)), (1, .int v1)] [] σ b := by
    intro v1 σ b h
    unfold P_X10_storm_L28 at h
    obtain ⟨I28, ⟨n28, hI28⟩, hs28⟩ := h
    have key28 : ∀ (n : Nat), ∀ (v1 : Int32) (σ : Sg), I28 n v1 σ → XJ g 28 [(0, va_rf (some a0)), (1, .int v1)] [] σ b := by
      intro n
      induction n using Nat.strongRecOn with
      | _ n ih28 =>
      intro v1 σ hI
      have h := hs28 n v1 σ hI
      clear hI hI28 hs28
      obtain ⟨K28, hK28⟩ : ∃ K : Int32 → Sg → Prop, K = (fun v1 σ => ∃ n', n' < n ∧ I28 n' v1 σ) := ⟨_, rfl⟩
      rw [← hK28] at h
      unfold P_X10_storm_L28b at h
      refine x_iload_n hg 1 dX10_storm_28 rfl rfl ?_
      refine x_aload_n hg 0 dX10_storm_29 rfl rfl ?_
      obtain ⟨h15, h⟩ := h
      refine x_getR hg fl_X10_10 rfl rfl h15 dX10_storm_30 ?_
      obtain ⟨c16, h17, h⟩ := h
      obtain ⟨h18, h⟩ := h
      refine xVIP (Qp := _) (rest := [.int v1]) (As := []) hg (k_Jx4a65c_size_8abf5 (gL g) (gD g) c16 σ _ h) lv_X10_87 h17 h18 rfl rfl dX10_storm_33 (cat8 (Nat.le_of_ble_eq_true rfl)) hrm ⟨Nat.le_of_ble_eq_true rfl, Nat.le_of_ble_eq_true rfl⟩ (fun x19 h => ?_)
      refine x_icmp_ge (tgt := 83) hg dX10_storm_36 (by decide) (fun q20 => ?_) (fun q20 => ?_)
      · replace h := h.1 q20
        refine x_iconst (v := 0) hg dX10_storm_83 (by decide) ?_
        refine x_istore_n (lv' := [(1, .int 0), (0, va_rf (some a0))]) hg dX10_storm_84 rfl (by rw [hgN]; decide) rfl ?_
        refine x_sub [1, 0] rfl ?_
        exact J85 _ _ _ h
      · replace h := h.2 q20
        refine x_aload_n hg 0 dX10_storm_39 rfl rfl ?_
        refine x_getR hg fl_X10_69 rfl rfl h15 dX10_storm_40 ?_
        refine x_iconst (v := 1) hg dX10_storm_43 (by decide) ?_
        refine x_dup2 hg dX10_storm_44 rfl (rf_cat _) ?_
        obtain ⟨c21, h22, h⟩ := h
        obtain ⟨h23, h⟩ := h
        obtain ⟨h24, h⟩ := h
        refine x_lald hg h22 h23 h24 dX10_storm_45 ?_
        refine x_aload_n hg 0 dX10_storm_46 rfl rfl ?_
        refine x_getR hg fl_X10_10 rfl rfl h15 dX10_storm_47 ?_
        refine x_iload_n hg 1 dX10_storm_50 rfl rfl ?_
        obtain ⟨c25, h26, h⟩ := h
        obtain ⟨h27, h⟩ := h
        refine xVRP (Qp := _) (rest := [.long (sL σ c21 (1 : Int32).toNatClampNeg), .int 1, va_rf (sR σ a0 13)]) (As := [.int v1]) hg (k_Jx4a65c_get_915e3 (gL g) (gD g) c25 v1 σ _ h) lv_X10_232 h26 h27 rfl rfl dX10_storm_51 (cat8 (Nat.le_of_ble_eq_true rfl)) hrm ⟨Nat.le_of_ble_eq_true rfl, Nat.le_of_ble_eq_true rfl⟩ (fun r28 h => ?_)
        obtain ⟨c29, h30, h⟩ := h
        obtain ⟨h31, h⟩ := h
        refine x_cast (c := 4) hg (C := RX2) rfl (by decide) cl_X10_91 h30 h31 dX10_storm_54 ?_
        refine x_aload_n hg 0 dX10_storm_57 rfl rfl ?_
        refine x_getR hg fl_X10_47 rfl rfl h15 dX10_storm_58 ?_
        obtain ⟨c32, h33, h⟩ := h
        obtain ⟨h34, h⟩ := h
        refine x_getR hg fl_X10_324 rfl h33 h34 dX10_storm_61 ?_
        refine x_iload_n hg 1 dX10_storm_64 rfl rfl ?_
        obtain ⟨c35, h36, h⟩ := h
        obtain ⟨h37, h⟩ := h
        refine xVRP (Qp := _) (rest := [va_rf r28, .long (sL σ c21 (1 : Int32).toNatClampNeg), .int 1, va_rf (sR σ a0 13)]) (As := [.int v1]) hg (k_Jx4a65c_get_915e3 (gL g) (gD g) c35 v1 σ _ h) lv_X10_232 h36 h37 rfl rfl dX10_storm_65 (cat8 (Nat.le_of_ble_eq_true rfl)) hrm ⟨Nat.le_of_ble_eq_true rfl, Nat.le_of_ble_eq_true rfl⟩ (fun r38 h => ?_)
        obtain ⟨c39, h40, h⟩ := h
        obtain ⟨h41, h⟩ := h
        refine x_cast (c := 7) hg (C := RX5) rfl (by decide) cl_X10_327 h40 h41 dX10_storm_68 ?_
        refine xVIW (Qm := _) (rest := [.long (sL σ c21 (1 : Int32).toNatClampNeg), .int 1, va_rf (sR σ a0 13)]) (As := [va_rf r38]) hg (k_X2_takeOver (gL g) (gD g) c29 r38 σ _ h) lv_X10_329 h30 h31 rfl rfl dX10_storm_71 (cat8 (Nat.le_of_ble_eq_true rfl)) hrm ⟨Nat.le_of_ble_eq_true rfl, Nat.le_of_ble_eq_true rfl⟩ (fun x42 σ43 h => ?_)
        refine x_i2l hg dX10_storm_74 ?_
        refine x_ladd hg dX10_storm_75 ?_
        obtain ⟨h44, h⟩ := h
        obtain ⟨h45, h⟩ := h
        refine x_last hg h22 h44 h45 dX10_storm_76 ?_
        refine x_nmS (fun σ46 e47 => ?_)
        replace h := h σ46 e47
        have E48 : sK σ46 = sK σ43 := by rw [e47]; rfl
        obtain ⟨x49, e50⟩ : ∃ y : Int32, y = v1 + 1 := ⟨_, rfl⟩
        replace h := h x49 e50
        refine x_iinc (v := x49) (lv' := [(1, .int x49), (0, va_rf (some a0))]) hg 1 dX10_storm_77 rfl (by rw [e50]; rfl) (by rw [hgN]; decide) rfl ?_
        refine x_goto (tgt := 28) hg dX10_storm_80 (by decide) ?_
        refine x_sub [1, 0] rfl ?_
        subst hK28
        obtain ⟨n51, h52, h⟩ := h
        exact ih28 n51 h52 _ _ h
    exact key28 n28 v1 σ hI28
  refine x_aload_n hg 0 dX10_storm_0 rfl rfl ?_
  obtain ⟨h1, h⟩ := h
  refine x_getR hg fl_X10_19 rfl rfl h1 dX10_storm_1 ?_
  obtain ⟨c2, h3, h⟩ := h
  obtain ⟨h4, h⟩ := h
  refine xVIP (Qp := _) (rest := []) (As := []) hg (k_Jx4a65c_size_8abf5 (gL g) (gD g) c2 σ _ h) lv_X10_87 h3 h4 rfl rfl dX10_storm_4 (cat8 (Nat.le_of_ble_eq_true rfl)) hrm ⟨Nat.le_of_ble_eq_true rfl, Nat.le_of_ble_eq_true rfl⟩ (fun x5 h => ?_)
  refine x_bipush (v := 40) hg dX10_storm_7 (by decide) ?_
  refine x_icmp_lt (tgt := 14) hg dX10_storm_9 (by decide) (fun q6 => ?_) (fun q6 => ?_)
  · replace h := h.1 q6
    refine x_aload_n hg 0 dX10_storm_14 rfl rfl ?_
    refine xVVW (Qm := _) (rest := []) (As := []) hg (k_X10_prepareFlow (gL g) (gD g) a0 σ _ h) lv_X10_318 rfl h1 rfl rfl dX10_storm_15 (cat8 (Nat.le_of_ble_eq_true rfl)) hrm ⟨Nat.le_of_ble_eq_true rfl, Nat.le_of_ble_eq_true rfl⟩ (fun u7 σ8 h => ?_)
    refine x_aload_n hg 0 dX10_storm_18 rfl rfl ?_
    obtain ⟨h9, h⟩ := h
    refine x_getR hg fl_X10_47 rfl rfl h9 dX10_storm_19 ?_
    refine x_iconst (v := 0) hg dX10_storm_22 (by decide) ?_
    obtain ⟨c10, h11, h⟩ := h
    obtain ⟨h12, h⟩ := h
    refine xVVW (Qm := _) (rest := []) (As := [.int 0]) hg (k_X3_run (gL g) (gD g) c10 0 σ8 _ h) lv_X10_321 h11 h12 rfl rfl dX10_storm_23 (cat8 (Nat.le_of_ble_eq_true rfl)) hrm ⟨Nat.le_of_ble_eq_true rfl, Nat.le_of_ble_eq_true rfl⟩ (fun u13 σ14 h => ?_)
    refine x_iconst (v := 0) hg dX10_storm_26 (by decide) ?_
    refine x_istore_n (lv' := [(1, .int 0), (0, va_rf (some a0))]) hg dX10_storm_27 rfl (by rw [hgN]; decide) rfl ?_
    refine x_sub [1, 0] rfl ?_
    exact J28 _ _ _ h
  · replace h := h.2 q6
    refine x_iconst (v := (-1)) hg dX10_storm_12 (by decide) ?_
    exact endI hend rfl dX10_storm_13 h
