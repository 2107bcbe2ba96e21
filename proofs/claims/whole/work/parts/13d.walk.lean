def P_X11_falls_L133b (a0 : Nat) (v1 : Int32) (v2 : Int32) (σ : Sg) (Q : Unit → Sg → Prop) (K133 : Int32 → Sg → Prop) : Prop :=
  sK σ a0 % 32 = 13 ∧ ((sI σ a0 3) ≤ v2 → Q () σ) ∧ (¬ ((sI σ a0 3) ≤ v2) → ∃ c89 : Nat, sR σ a0 32 = some c89 ∧ sK σ c89 % 32 = 16 ∧ vp_in v2 (sN σ c89) ∧ P_X11_minute a0 (sI σ c89 v2.toNatClampNeg) v1 σ (fun _ σ94 => ∀ x97 : Int32, x97 = v2 + 1 → K133 x97 σ94))
def P_X11_falls_L133 (a0 : Nat) (v1 : Int32) (v2 : Int32) (σ : Sg) (Q : Unit → Sg → Prop) : Prop :=
  ∃ I : Nat → Int32 → Sg → Prop, (∃ n, I n v2 σ) ∧ ∀ (n : Nat) (v2 : Int32) (σ : Sg), I n v2 σ → P_X11_falls_L133b a0 v1 v2 σ Q (fun v2 σ => ∃ n', n' < n ∧ I n' v2 σ)
def P_X11_falls_B93 (a0 : Nat) (v1 : Int32) (v2 : Int32) (w0 : Option Nat) (w1 : Int64) (w2 : Int64) (σ : Sg) (Q : Unit → Sg → Prop) (K60 : Int32 → Sg → Prop) : Prop :=
  ∃ c48 : Nat, w0 = some c48 ∧ sK σ c48 % 32 = 13 ∧ ∀ σ51 : Sg, σ51 = pL σ c48 48 (w1 + w2) → sK σ51 a0 % 32 = 13 ∧ ∃ c55 : Nat, sR σ51 a0 41 = some c55 ∧ sK σ51 c55 % 32 = 16 ∧ vp_in v2 (sN σ51 c55) ∧ ∀ σ59 : Sg, σ59 = pI σ51 c55 v2.toNatClampNeg 0 → ∃ c62 : Nat, sR σ59 a0 44 = some c62 ∧ sK σ59 c62 % 32 = 17 ∧ vp_in v2 (sN σ59 c62) ∧ ∀ σ66 : Sg, σ66 = pL σ59 c62 v2.toNatClampNeg 0 → ∃ c69 : Nat, sR σ66 a0 45 = some c69 ∧ sK σ66 c69 % 32 = 17 ∧ vp_in v2 (sN σ66 c69) ∧ ∀ σ73 : Sg, σ73 = pL σ66 c69 v2.toNatClampNeg 0 → ∃ c76 : Nat, sR σ73 a0 46 = some c76 ∧ sK σ73 c76 % 32 = 16 ∧ vp_in v2 (sN σ73 c76) ∧ ∀ σ80 : Sg, σ80 = pI σ73 c76 v2.toNatClampNeg 0 → ∀ x83 : Int32, x83 = v2 + 1 → K60 x83 σ80
def P_X11_falls_L60b (a0 : Nat) (v1 : Int32) (v2 : Int32) (σ : Sg) (Q : Unit → Sg → Prop) (K60 : Int32 → Sg → Prop) : Prop :=
  sK σ a0 % 32 = 13 ∧ ((sI σ a0 1) ≤ v2 → P_X11_falls_L133 a0 v1 0 σ Q) ∧ (¬ ((sI σ a0 1) ≤ v2) → ∃ c39 : Nat, sR σ a0 12 = some c39 ∧ sK σ c39 % 32 = 18 ∧ vp_in v2 (sN σ c39) ∧ ((sI σ c39 v2.toNatClampNeg) = 0 → P_X11_falls_B93 a0 v1 v2 (some a0) (sL σ a0 48) 0 σ Q K60) ∧ (¬ ((sI σ c39 v2.toNatClampNeg) = 0) → ∃ c44 : Nat, sR σ a0 21 = some c44 ∧ sK σ c44 % 32 = 16 ∧ vp_in v2 (sN σ c44) ∧ P_X11_falls_B93 a0 v1 v2 (some a0) (sL σ a0 48) ((sI σ c44 v2.toNatClampNeg).toInt64) σ Q K60))
def P_X11_falls_L60 (a0 : Nat) (v1 : Int32) (v2 : Int32) (σ : Sg) (Q : Unit → Sg → Prop) : Prop :=
  ∃ I : Nat → Int32 → Sg → Prop, (∃ n, I n v2 σ) ∧ ∀ (n : Nat) (v2 : Int32) (σ : Sg), I n v2 σ → P_X11_falls_L60b a0 v1 v2 σ Q (fun v2 σ => ∃ n', n' < n ∧ I n' v2 σ)
def P_X11_falls_L32b (a0 : Nat) (v1 : Int32) (v2 : Int32) (σ : Sg) (Q : Unit → Sg → Prop) (K32 : Int32 → Sg → Prop) : Prop :=
  sK σ a0 % 32 = 13 ∧ ((sI σ a0 2) ≤ v2 → P_X11_falls_L60 a0 v1 0 σ Q) ∧ (¬ ((sI σ a0 2) ≤ v2) → ∃ c22 : Nat, sR σ a0 29 = some c22 ∧ sK σ c22 % 32 = 16 ∧ vp_in v2 (sN σ c22) ∧ ∃ c26 : Nat, sR σ a0 40 = some c26 ∧ sK σ c26 % 32 = 16 ∧ vp_in v2 (sN σ c26) ∧ ∀ σ30 : Sg, σ30 = pI σ c26 v2.toNatClampNeg (sI σ c22 v2.toNatClampNeg) → ∀ x33 : Int32, x33 = v2 + 1 → K32 x33 σ30)
def P_X11_falls_L32 (a0 : Nat) (v1 : Int32) (v2 : Int32) (σ : Sg) (Q : Unit → Sg → Prop) : Prop :=
  ∃ I : Nat → Int32 → Sg → Prop, (∃ n, I n v2 σ) ∧ ∀ (n : Nat) (v2 : Int32) (σ : Sg), I n v2 σ → P_X11_falls_L32b a0 v1 v2 σ Q (fun v2 σ => ∃ n', n' < n ∧ I n' v2 σ)
def P_X11_falls (a0 : Nat) (v1 : Int32) (σ : Sg) (Q : Unit → Sg → Prop) : Prop :=
  sK σ a0 % 32 = 13 ∧ ∀ σ2 : Sg, σ2 = pL σ a0 47 0 → ∀ σ5 : Sg, σ5 = pL σ2 a0 48 0 → ∀ σ8 : Sg, σ8 = pL σ5 a0 49 0 → ∀ σ11 : Sg, σ11 = pL σ8 a0 50 0 → ∀ σ14 : Sg, σ14 = pL σ11 a0 51 0 → ∀ σ17 : Sg, σ17 = pI σ14 a0 52 0 → P_X11_falls_L32 a0 v1 0 σ17 Q
set_option maxHeartbeats 4000000 in
set_option maxRecDepth 100000 in
theorem k_X11_falls (l : Launch) (D : Dg) (a0 : Nat) (v1 : Int32) (σ : Sg) (Q : Unit → Sg → Prop) (h : P_X11_falls a0 v1 σ Q) : CtrY RN l D yX11_falls cX11_falls 3 (none) 3 91 mkV [.ref a0, .int v1] σ (0, 0) Q := by
  refine y_ctrN (lv := [(0, va_rf (some a0)), (1, .int v1)]) (by decide) (by (exact Nat.le_of_ble_eq_true rfl)) (by (exact rfl)) (fun g hg hgL hgD hrm hgN hgI hend => ?_)
  subst hgD
  clear hgL
  unfold P_X11_falls at h
  have J133 : ∀ (v1 : Int32) (v2 : Int32) (σ : Sg), P_X11_falls_L133 a0 v1 v2 σ Q → XA g 133 [(0, va_rf (some a0)), (1, .int v1), (2, .int v2)] [] σ (0, 0) := by
    intro v1 v2 σ h
    unfold P_X11_falls_L133 at h
    obtain ⟨I133, ⟨n133, hI133⟩, hs133⟩ := h
    have key133 : ∀ (n : Nat), ∀ (v2 : Int32) (σ : Sg), I133 n v2 σ → XA g 133 [(0, va_rf (some a0)), (1, .int v1), (2, .int v2)] [] σ (0, 0) := by
      intro n
      induction n using Nat.strongRecOn with
      | _ n ih133 =>
      intro v2 σ hI
      have h := hs133 n v2 σ hI
      clear hI hI133 hs133
      obtain ⟨K133, hK133⟩ : ∃ K : Int32 → Sg → Prop, K = (fun v2 σ => ∃ n', n' < n ∧ I133 n' v2 σ) := ⟨_, rfl⟩
      rw [← hK133] at h
      unfold P_X11_falls_L133b at h
      refine y_iload_n hg 2 dX11_falls_133 rfl rfl ?_
      refine y_aload_n hg 0 dX11_falls_134 rfl rfl ?_
      obtain ⟨h87, h⟩ := h
      refine y_getI hg fl_X11_257 rfl rfl h87 dX11_falls_135 ?_
      refine y_icmp_ge (tgt := 158) hg dX11_falls_138 (by decide) (fun q88 => ?_) (fun q88 => ?_)
      · replace h := h.1 q88
        exact yEndV hend dX11_falls_158 h
      · replace h := h.2 q88
        refine y_aload_n hg 0 dX11_falls_141 rfl rfl ?_
        refine y_aload_n hg 0 dX11_falls_142 rfl rfl ?_
        refine y_getR hg fl_X11_86 rfl rfl h87 dX11_falls_143 ?_
        refine y_iload_n hg 2 dX11_falls_146 rfl rfl ?_
        obtain ⟨c89, h90, h⟩ := h
        obtain ⟨h91, h⟩ := h
        obtain ⟨h92, h⟩ := h
        refine y_iald hg h90 h91 h92 dX11_falls_147 ?_
        refine y_iload_n hg 1 dX11_falls_148 rfl rfl ?_
        refine yVVW (Qm := _) (rest := []) (As := [.int (sI σ c89 v2.toNatClampNeg), .int v1]) hg (k_X11_minute (gL g.1) (gD g.1) a0 (sI σ c89 v2.toNatClampNeg) v1 σ _ h) lv_X11_278 rfl h87 rfl rfl dX11_falls_149 (cat8 (Nat.le_of_ble_eq_true rfl)) hrm ⟨Nat.le_of_ble_eq_true rfl, Nat.le_of_ble_eq_true rfl⟩ (fun u93 σ94 h h95 => ?_)
        have h96 := kp h95 (show ¬ 13 = 0 by decide) h87
        obtain ⟨x97, e98⟩ : ∃ y : Int32, y = v2 + 1 := ⟨_, rfl⟩
        replace h := h x97 e98
        refine y_iinc (v := x97) (lv' := [(2, .int x97), (0, va_rf (some a0)), (1, .int v1)]) hg 2 dX11_falls_152 rfl (by rw [e98]; rfl) (by rw [hgN]; decide) rfl ?_
        refine y_goto (tgt := 133) hg dX11_falls_155 (by decide) ?_
        refine y_sub [1, 2, 0] rfl ?_
        subst hK133
        obtain ⟨n99, h100, h⟩ := h
        exact ih133 n99 h100 _ _ h
    exact key133 n133 v2 σ hI133
  have J60 : ∀ (v1 : Int32) (v2 : Int32) (σ : Sg), P_X11_falls_L60 a0 v1 v2 σ Q → XA g 60 [(0, va_rf (some a0)), (1, .int v1), (2, .int v2)] [] σ (0, 0) := by
    intro v1 v2 σ h
    unfold P_X11_falls_L60 at h
    obtain ⟨I60, ⟨n60, hI60⟩, hs60⟩ := h
    have key60 : ∀ (n : Nat), ∀ (v2 : Int32) (σ : Sg), I60 n v2 σ → XA g 60 [(0, va_rf (some a0)), (1, .int v1), (2, .int v2)] [] σ (0, 0) := by
      intro n
      induction n using Nat.strongRecOn with
      | _ n ih60 =>
      intro v2 σ hI
      have h := hs60 n v2 σ hI
      clear hI hI60 hs60
      obtain ⟨K60, hK60⟩ : ∃ K : Int32 → Sg → Prop, K = (fun v2 σ => ∃ n', n' < n ∧ I60 n' v2 σ) := ⟨_, rfl⟩
      rw [← hK60] at h
      unfold P_X11_falls_L60b at h
      have J93 : ∀ (v2 : Int32) (w0 : Option Nat) (w1 : Int64) (w2 : Int64) (σ : Sg), P_X11_falls_B93 a0 v1 v2 w0 w1 w2 σ Q K60 → XA g 93 [(0, va_rf (some a0)), (1, .int v1), (2, .int v2)] [.long w2, .long w1, va_rf w0] σ (0, 0) := by
        intro v2 w0 w1 w2 σ h
        unfold P_X11_falls_B93 at h
        refine y_ladd hg dX11_falls_93 ?_
        obtain ⟨c48, h49, h⟩ := h
        obtain ⟨h50, h⟩ := h
        refine y_putL hg fw_X11_263 (fun z => nomatch z) h49 h50 dX11_falls_94 ?_
        refine y_nmS (fun σ51 e52 => ?_)
        replace h := h σ51 e52
        have E53 : sK σ51 = sK σ := by rw [e52]; rfl
        refine y_aload_n hg 0 dX11_falls_97 rfl rfl ?_
        obtain ⟨h54, h⟩ := h
        refine y_getR hg fl_X11_98 rfl rfl h54 dX11_falls_98 ?_
        refine y_iload_n hg 2 dX11_falls_101 rfl rfl ?_
        refine y_iconst (v := 0) hg dX11_falls_102 (by decide) ?_
        obtain ⟨c55, h56, h⟩ := h
        obtain ⟨h57, h⟩ := h
        obtain ⟨h58, h⟩ := h
        refine y_iast hg h56 h57 h58 dX11_falls_103 ?_
        refine y_nmS (fun σ59 e60 => ?_)
        replace h := h σ59 e60
        have E61 : sK σ59 = sK σ51 := by rw [e60]; rfl
        refine y_aload_n hg 0 dX11_falls_104 rfl rfl ?_
        refine y_getR hg fl_X11_108 rfl rfl (kq E61 h54) dX11_falls_105 ?_
        refine y_iload_n hg 2 dX11_falls_108 rfl rfl ?_
        refine y_lconst (v := 0) hg dX11_falls_109 (by decide) ?_
        obtain ⟨c62, h63, h⟩ := h
        obtain ⟨h64, h⟩ := h
        obtain ⟨h65, h⟩ := h
        refine y_last hg h63 h64 h65 dX11_falls_110 ?_
        refine y_nmS (fun σ66 e67 => ?_)
        replace h := h σ66 e67
        have E68 : sK σ66 = sK σ59 := by rw [e67]; rfl
        refine y_aload_n hg 0 dX11_falls_111 rfl rfl ?_
        refine y_getR hg fl_X11_111 rfl rfl (kq E68 (kq E61 h54)) dX11_falls_112 ?_
        refine y_iload_n hg 2 dX11_falls_115 rfl rfl ?_
        refine y_lconst (v := 0) hg dX11_falls_116 (by decide) ?_
        obtain ⟨c69, h70, h⟩ := h
        obtain ⟨h71, h⟩ := h
        obtain ⟨h72, h⟩ := h
        refine y_last hg h70 h71 h72 dX11_falls_117 ?_
        refine y_nmS (fun σ73 e74 => ?_)
        replace h := h σ73 e74
        have E75 : sK σ73 = sK σ66 := by rw [e74]; rfl
        refine y_aload_n hg 0 dX11_falls_118 rfl rfl ?_
        refine y_getR hg fl_X11_114 rfl rfl (kq E75 (kq E68 (kq E61 h54))) dX11_falls_119 ?_
        refine y_iload_n hg 2 dX11_falls_122 rfl rfl ?_
        refine y_iconst (v := 0) hg dX11_falls_123 (by decide) ?_
        obtain ⟨c76, h77, h⟩ := h
        obtain ⟨h78, h⟩ := h
        obtain ⟨h79, h⟩ := h
        refine y_iast hg h77 h78 h79 dX11_falls_124 ?_
        refine y_nmS (fun σ80 e81 => ?_)
        replace h := h σ80 e81
        have E82 : sK σ80 = sK σ73 := by rw [e81]; rfl
        obtain ⟨x83, e84⟩ : ∃ y : Int32, y = v2 + 1 := ⟨_, rfl⟩
        replace h := h x83 e84
        refine y_iinc (v := x83) (lv' := [(2, .int x83), (0, va_rf (some a0)), (1, .int v1)]) hg 2 dX11_falls_125 rfl (by rw [e84]; rfl) (by rw [hgN]; decide) rfl ?_
        refine y_goto (tgt := 60) hg dX11_falls_128 (by decide) ?_
        refine y_sub [1, 2, 0] rfl ?_
        subst hK60
        obtain ⟨n85, h86, h⟩ := h
        exact ih60 n85 h86 _ _ h
      refine y_iload_n hg 2 dX11_falls_60 rfl rfl ?_
      refine y_aload_n hg 0 dX11_falls_61 rfl rfl ?_
      obtain ⟨h37, h⟩ := h
      refine y_getI hg fl_X11_191 rfl rfl h37 dX11_falls_62 ?_
      refine y_icmp_ge (tgt := 131) hg dX11_falls_65 (by decide) (fun q38 => ?_) (fun q38 => ?_)
      · replace h := h.1 q38
        refine y_iconst (v := 0) hg dX11_falls_131 (by decide) ?_
        refine y_istore_n (lv' := [(2, .int 0), (0, va_rf (some a0)), (1, .int v1)]) hg dX11_falls_132 rfl (by rw [hgN]; decide) rfl ?_
        refine y_sub [1, 2, 0] rfl ?_
        exact J133 _ _ _ h
      · replace h := h.2 q38
        refine y_aload_n hg 0 dX11_falls_68 rfl rfl ?_
        refine y_dup hg dX11_falls_69 rfl ?_
        refine y_getL hg fl_X11_263 rfl rfl h37 dX11_falls_70 ?_
        refine y_aload_n hg 0 dX11_falls_73 rfl rfl ?_
        refine y_getR hg fl_X11_25 rfl rfl h37 dX11_falls_74 ?_
        refine y_iload_n hg 2 dX11_falls_77 rfl rfl ?_
        obtain ⟨c39, h40, h⟩ := h
        obtain ⟨h41, h⟩ := h
        obtain ⟨h42, h⟩ := h
        refine y_zald hg h40 h41 h42 dX11_falls_78 ?_
        refine y_if_eq (tgt := 92) hg dX11_falls_79 (by decide) (fun q43 => ?_) (fun q43 => ?_)
        · replace h := h.1 q43
          refine y_lconst (v := 0) hg dX11_falls_92 (by decide) ?_
          refine y_sub [0, 1, 2] rfl ?_
          exact J93 _ _ _ _ _ h
        · replace h := h.2 q43
          refine y_aload_n hg 0 dX11_falls_82 rfl rfl ?_
          refine y_getR hg fl_X11_53 rfl rfl h37 dX11_falls_83 ?_
          refine y_iload_n hg 2 dX11_falls_86 rfl rfl ?_
          obtain ⟨c44, h45, h⟩ := h
          obtain ⟨h46, h⟩ := h
          obtain ⟨h47, h⟩ := h
          refine y_iald hg h45 h46 h47 dX11_falls_87 ?_
          refine y_i2l hg dX11_falls_88 ?_
          refine y_goto (tgt := 93) hg dX11_falls_89 (by decide) ?_
          refine y_sub [0, 1, 2] rfl ?_
          exact J93 _ _ _ _ _ h
    exact key60 n60 v2 σ hI60
  have J32 : ∀ (v1 : Int32) (v2 : Int32) (σ : Sg), P_X11_falls_L32 a0 v1 v2 σ Q → XA g 32 [(0, va_rf (some a0)), (1, .int v1), (2, .int v2)] [] σ (0, 0) := by
    intro v1 v2 σ h
    unfold P_X11_falls_L32 at h
    obtain ⟨I32, ⟨n32, hI32⟩, hs32⟩ := h
    have key32 : ∀ (n : Nat), ∀ (v2 : Int32) (σ : Sg), I32 n v2 σ → XA g 32 [(0, va_rf (some a0)), (1, .int v1), (2, .int v2)] [] σ (0, 0) := by
      intro n
      induction n using Nat.strongRecOn with
      | _ n ih32 =>
      intro v2 σ hI
      have h := hs32 n v2 σ hI
      clear hI hI32 hs32
      obtain ⟨K32, hK32⟩ : ∃ K : Int32 → Sg → Prop, K = (fun v2 σ => ∃ n', n' < n ∧ I32 n' v2 σ) := ⟨_, rfl⟩
      rw [← hK32] at h
      unfold P_X11_falls_L32b at h
      refine y_iload_n hg 2 dX11_falls_32 rfl rfl ?_
      refine y_aload_n hg 0 dX11_falls_33 rfl rfl ?_
      obtain ⟨h20, h⟩ := h
      refine y_getI hg fl_X11_202 rfl rfl h20 dX11_falls_34 ?_
      refine y_icmp_ge (tgt := 58) hg dX11_falls_37 (by decide) (fun q21 => ?_) (fun q21 => ?_)
      · replace h := h.1 q21
        refine y_iconst (v := 0) hg dX11_falls_58 (by decide) ?_
        refine y_istore_n (lv' := [(2, .int 0), (0, va_rf (some a0)), (1, .int v1)]) hg dX11_falls_59 rfl (by rw [hgN]; decide) rfl ?_
        refine y_sub [1, 2, 0] rfl ?_
        exact J60 _ _ _ h
      · replace h := h.2 q21
        refine y_aload_n hg 0 dX11_falls_40 rfl rfl ?_
        refine y_getR hg fl_X11_95 rfl rfl h20 dX11_falls_41 ?_
        refine y_iload_n hg 2 dX11_falls_44 rfl rfl ?_
        refine y_aload_n hg 0 dX11_falls_45 rfl rfl ?_
        refine y_getR hg fl_X11_77 rfl rfl h20 dX11_falls_46 ?_
        refine y_iload_n hg 2 dX11_falls_49 rfl rfl ?_
        obtain ⟨c22, h23, h⟩ := h
        obtain ⟨h24, h⟩ := h
        obtain ⟨h25, h⟩ := h
        refine y_iald hg h23 h24 h25 dX11_falls_50 ?_
        obtain ⟨c26, h27, h⟩ := h
        obtain ⟨h28, h⟩ := h
        obtain ⟨h29, h⟩ := h
        refine y_iast hg h27 h28 h29 dX11_falls_51 ?_
        refine y_nmS (fun σ30 e31 => ?_)
        replace h := h σ30 e31
        have E32 : sK σ30 = sK σ := by rw [e31]; rfl
        obtain ⟨x33, e34⟩ : ∃ y : Int32, y = v2 + 1 := ⟨_, rfl⟩
        replace h := h x33 e34
        refine y_iinc (v := x33) (lv' := [(2, .int x33), (0, va_rf (some a0)), (1, .int v1)]) hg 2 dX11_falls_52 rfl (by rw [e34]; rfl) (by rw [hgN]; decide) rfl ?_
        refine y_goto (tgt := 32) hg dX11_falls_55 (by decide) ?_
        refine y_sub [1, 2, 0] rfl ?_
        subst hK32
        obtain ⟨n35, h36, h⟩ := h
        exact ih32 n35 h36 _ _ h
    exact key32 n32 v2 σ hI32
  refine y_aload_n hg 0 dX11_falls_0 rfl rfl ?_
  refine y_lconst (v := 0) hg dX11_falls_1 (by decide) ?_
  obtain ⟨h1, h⟩ := h
  refine y_putL hg fw_X11_260 (fun z => nomatch z) rfl h1 dX11_falls_2 ?_
  refine y_nmS (fun σ2 e3 => ?_)
  replace h := h σ2 e3
  have E4 : sK σ2 = sK σ := by rw [e3]; rfl
  refine y_aload_n hg 0 dX11_falls_5 rfl rfl ?_
  refine y_lconst (v := 0) hg dX11_falls_6 (by decide) ?_
  refine y_putL hg fw_X11_263 (fun z => nomatch z) rfl (kq E4 h1) dX11_falls_7 ?_
  refine y_nmS (fun σ5 e6 => ?_)
  replace h := h σ5 e6
  have E7 : sK σ5 = sK σ2 := by rw [e6]; rfl
  refine y_aload_n hg 0 dX11_falls_10 rfl rfl ?_
  refine y_lconst (v := 0) hg dX11_falls_11 (by decide) ?_
  refine y_putL hg fw_X11_266 (fun z => nomatch z) rfl (kq E7 (kq E4 h1)) dX11_falls_12 ?_
  refine y_nmS (fun σ8 e9 => ?_)
  replace h := h σ8 e9
  have E10 : sK σ8 = sK σ5 := by rw [e9]; rfl
  refine y_aload_n hg 0 dX11_falls_15 rfl rfl ?_
  refine y_lconst (v := 0) hg dX11_falls_16 (by decide) ?_
  refine y_putL hg fw_X11_269 (fun z => nomatch z) rfl (kq E10 (kq E7 (kq E4 h1))) dX11_falls_17 ?_
  refine y_nmS (fun σ11 e12 => ?_)
  replace h := h σ11 e12
  have E13 : sK σ11 = sK σ8 := by rw [e12]; rfl
  refine y_aload_n hg 0 dX11_falls_20 rfl rfl ?_
  refine y_lconst (v := 0) hg dX11_falls_21 (by decide) ?_
  refine y_putL hg fw_X11_272 (fun z => nomatch z) rfl (kq E13 (kq E10 (kq E7 (kq E4 h1)))) dX11_falls_22 ?_
  refine y_nmS (fun σ14 e15 => ?_)
  replace h := h σ14 e15
  have E16 : sK σ14 = sK σ11 := by rw [e15]; rfl
  refine y_aload_n hg 0 dX11_falls_25 rfl rfl ?_
  refine y_iconst (v := 0) hg dX11_falls_26 (by decide) ?_
  refine y_putI hg fw_X11_275 (fun z => nomatch z) rfl (kq E16 (kq E13 (kq E10 (kq E7 (kq E4 h1))))) dX11_falls_27 ?_
  refine y_nmS (fun σ17 e18 => ?_)
  replace h := h σ17 e18
  have E19 : sK σ17 = sK σ14 := by rw [e18]; rfl
  refine y_iconst (v := 0) hg dX11_falls_30 (by decide) ?_
  refine y_istore_n (lv' := [(2, .int 0), (0, va_rf (some a0)), (1, .int v1)]) hg dX11_falls_31 rfl (by rw [hgN]; decide) rfl ?_
  refine y_sub [1, 2, 0] rfl ?_
  exact J32 _ _ _ h
def P_X11_storm_L46b (a0 : Nat) (v1 : Int32) (σ : Sg) (Q : Int32 → Sg → Prop) (K46 : Int32 → Sg → Prop) : Prop :=
  sK σ a0 % 32 = 13 ∧ ((sI σ a0 1) ≤ v1 → ∀ σ26 : Sg, σ26 = pL σ a0 35 ((sL σ a0 35) + (sL σ a0 47)) → ∀ σ29 : Sg, σ29 = pL σ26 a0 36 ((sL σ26 a0 36) + (sL σ26 a0 48)) → ∀ σ32 : Sg, σ32 = pL σ29 a0 37 ((sL σ29 a0 37) + (sL σ29 a0 49)) → ∀ σ35 : Sg, σ35 = pL σ32 a0 38 ((sL σ32 a0 38) + (sL σ32 a0 50)) → ∃ c38 : Nat, sR σ35 a0 58 = some c38 ∧ sK σ35 c38 % 32 = 16 ∧ vp_in (sI σ35 a0 4) (sN σ35 c38) ∧ ∀ σ42 : Sg, σ42 = pI σ35 c38 (sI σ35 a0 4).toNatClampNeg (sI σ35 a0 0) → ∃ c45 : Nat, sR σ42 a0 53 = some c45 ∧ sK σ42 c45 % 32 = 17 ∧ vp_in (sI σ42 a0 4) (sN σ42 c45) ∧ ∀ σ49 : Sg, σ49 = pL σ42 c45 (sI σ42 a0 4).toNatClampNeg (sL σ42 a0 47) → ∃ c52 : Nat, sR σ49 a0 54 = some c52 ∧ sK σ49 c52 % 32 = 17 ∧ vp_in (sI σ49 a0 4) (sN σ49 c52) ∧ ∀ σ56 : Sg, σ56 = pL σ49 c52 (sI σ49 a0 4).toNatClampNeg (sL σ49 a0 49) → ∃ c59 : Nat, sR σ56 a0 59 = some c59 ∧ sK σ56 c59 % 32 = 16 ∧ vp_in (sI σ56 a0 4) (sN σ56 c59) ∧ ∀ σ63 : Sg, σ63 = pI σ56 c59 (sI σ56 a0 4).toNatClampNeg (sI σ56 a0 52) → ∃ c66 : Nat, sR σ63 a0 55 = some c66 ∧ sK σ63 c66 % 32 = 17 ∧ vp_in (sI σ63 a0 4) (sN σ63 c66) ∧ ∀ σ70 : Sg, σ70 = pL σ63 c66 (sI σ63 a0 4).toNatClampNeg (sL σ63 a0 51) → ∀ σ73 : Sg, σ73 = pI σ70 a0 4 ((sI σ70 a0 4) + 1) → Q ((sI σ73 a0 4) - 1) σ73) ∧ (¬ ((sI σ a0 1) ≤ v1) → ∃ c76 : Nat, sR σ a0 41 = some c76 ∧ sK σ c76 % 32 = 16 ∧ vp_in v1 (sN σ c76) ∧ ∃ c80 : Nat, sR σ a0 21 = some c80 ∧ sK σ c80 % 32 = 16 ∧ vp_in v1 (sN σ c80) ∧ ∀ σ84 : Sg, σ84 = pI σ c80 v1.toNatClampNeg (sI σ c76 v1.toNatClampNeg) → ∃ c87 : Nat, sR σ84 a0 44 = some c87 ∧ sK σ84 c87 % 32 = 17 ∧ vp_in v1 (sN σ84 c87) ∧ ∃ c91 : Nat, sR σ84 a0 56 = some c91 ∧ sK σ84 c91 % 32 = 17 ∧ vp_in v1 (sN σ84 c91) ∧ ∀ σ95 : Sg, σ95 = pL σ84 c91 v1.toNatClampNeg (sL σ84 c87 v1.toNatClampNeg) → ∃ c98 : Nat, sR σ95 a0 45 = some c98 ∧ sK σ95 c98 % 32 = 17 ∧ vp_in v1 (sN σ95 c98) ∧ ∃ c102 : Nat, sR σ95 a0 57 = some c102 ∧ sK σ95 c102 % 32 = 17 ∧ vp_in v1 (sN σ95 c102) ∧ ∀ σ106 : Sg, σ106 = pL σ95 c102 v1.toNatClampNeg (sL σ95 c98 v1.toNatClampNeg) → ∃ c109 : Nat, sR σ106 a0 46 = some c109 ∧ sK σ106 c109 % 32 = 16 ∧ vp_in v1 (sN σ106 c109) ∧ ∃ c113 : Nat, sR σ106 a0 60 = some c113 ∧ sK σ106 c113 % 32 = 16 ∧ vp_in v1 (sN σ106 c113) ∧ ∀ σ117 : Sg, σ117 = pI σ106 c113 v1.toNatClampNeg (sI σ106 c109 v1.toNatClampNeg) → ∀ x120 : Int32, x120 = v1 + 1 → K46 x120 σ117)
def P_X11_storm_L46 (a0 : Nat) (v1 : Int32) (σ : Sg) (Q : Int32 → Sg → Prop) : Prop :=
  ∃ I : Nat → Int32 → Sg → Prop, (∃ n, I n v1 σ) ∧ ∀ (n : Nat) (v1 : Int32) (σ : Sg), I n v1 σ → P_X11_storm_L46b a0 v1 σ Q (fun v1 σ => ∃ n', n' < n ∧ I n' v1 σ)
def P_X11_storm_L18b (a0 : Nat) (v1 : Int32) (σ : Sg) (Q : Int32 → Sg → Prop) (K18 : Int32 → Sg → Prop) : Prop :=
  sK σ a0 % 32 = 13 ∧ ((sI σ a0 2) ≤ v1 → P_X11_storm_L46 a0 0 σ Q) ∧ (¬ ((sI σ a0 2) ≤ v1) → ∃ c9 : Nat, sR σ a0 40 = some c9 ∧ sK σ c9 % 32 = 16 ∧ vp_in v1 (sN σ c9) ∧ ∃ c13 : Nat, sR σ a0 29 = some c13 ∧ sK σ c13 % 32 = 16 ∧ vp_in v1 (sN σ c13) ∧ ∀ σ17 : Sg, σ17 = pI σ c13 v1.toNatClampNeg (sI σ c9 v1.toNatClampNeg) → ∀ x20 : Int32, x20 = v1 + 1 → K18 x20 σ17)
def P_X11_storm_L18 (a0 : Nat) (v1 : Int32) (σ : Sg) (Q : Int32 → Sg → Prop) : Prop :=
  ∃ I : Nat → Int32 → Sg → Prop, (∃ n, I n v1 σ) ∧ ∀ (n : Nat) (v1 : Int32) (σ : Sg), I n v1 σ → P_X11_storm_L18b a0 v1 σ Q (fun v1 σ => ∃ n', n' < n ∧ I n' v1 σ)
def P_X11_storm (a0 : Nat) (σ : Sg) (Q : Int32 → Sg → Prop) : Prop :=
  sK σ a0 % 32 = 13 ∧ ((sI σ a0 4) = 40 → Q (-1) σ) ∧ (¬ ((sI σ a0 4) = 40) → P_X11_falls a0 0 σ (fun _ σ4 => P_X11_storm_L18 a0 0 σ4 Q))
set_option maxHeartbeats 4000000 in
set_option maxRecDepth 100000 in
theorem k_X11_storm (l : Launch) (D : Dg) (a0 : Nat) (σ : Sg) (Q : Int32 → Sg → Prop) (h : P_X11_storm a0 σ Q) : CtrY RN l D yX11_storm cX11_storm 2 (some FieldType.int) 4 113 mkI [.ref a0] σ (0, 0) Q := by
  refine y_ctrN (lv := [(0, va_rf (some a0))]) (by decide) (by (exact Nat.le_of_ble_eq_true rfl)) (by (exact rfl)) (fun g hg hgL hgD hrm hgN hgI hend => ?_)
  subst hgD
  clear hgL
  unfold P_X11_storm at h
  have J46 : ∀ (v1 : Int32) (σ : Sg), P_X11_storm_L46 a0 v1 σ Q → XA g 46 [(0, va_rf (some a0)), (1, .int v1)] [] σ (0, 0) := by
    intro v1 σ h
    unfold P_X11_storm_L46 at h
    obtain ⟨I46, ⟨n46, hI46⟩, hs46⟩ := h
    have key46 : ∀ (n : Nat), ∀ (v1 : Int32) (σ : Sg), I46 n v1 σ → XA g 46 [(0, va_rf (some a0)), (1, .int v1)] [] σ (0, 0) := by
      intro n
      induction n using Nat.strongRecOn with
      | _ n ih46 =>
      intro v1 σ hI
      have h := hs46 n v1 σ hI
      clear hI hI46 hs46
      obtain ⟨K46, hK46⟩ : ∃ K : Int32 → Sg → Prop, K = (fun v1 σ => ∃ n', n' < n ∧ I46 n' v1 σ) := ⟨_, rfl⟩
      rw [← hK46] at h
      unfold P_X11_storm_L46b at h
      refine y_iload_n hg 1 dX11_storm_46 rfl rfl ?_
      refine y_aload_n hg 0 dX11_storm_47 rfl rfl ?_
      obtain ⟨h24, h⟩ := h
      refine y_getI hg fl_X11_191 rfl rfl h24 dX11_storm_48 ?_
      refine y_icmp_ge (tgt := 108) hg dX11_storm_51 (by decide) (fun q25 => ?_) (fun q25 => ?_)
      · replace h := h.1 q25
        refine y_aload_n hg 0 dX11_storm_108 rfl rfl ?_
        refine y_dup hg dX11_storm_109 rfl ?_
        refine y_getL hg fl_X11_301 rfl rfl h24 dX11_storm_110 ?_
        refine y_aload_n hg 0 dX11_storm_113 rfl rfl ?_
        refine y_getL hg fl_X11_260 rfl rfl h24 dX11_storm_114 ?_
        refine y_ladd hg dX11_storm_117 ?_
        refine y_putL hg fw_X11_301 (fun z => nomatch z) rfl h24 dX11_storm_118 ?_
        refine y_nmS (fun σ26 e27 => ?_)
        replace h := h σ26 e27
        have E28 : sK σ26 = sK σ := by rw [e27]; rfl
        refine y_aload_n hg 0 dX11_storm_121 rfl rfl ?_
        refine y_dup hg dX11_storm_122 rfl ?_
        refine y_getL hg fl_X11_233 rfl rfl (kq E28 h24) dX11_storm_123 ?_
        refine y_aload_n hg 0 dX11_storm_126 rfl rfl ?_
        refine y_getL hg fl_X11_263 rfl rfl (kq E28 h24) dX11_storm_127 ?_
        refine y_ladd hg dX11_storm_130 ?_
        refine y_putL hg fw_X11_233 (fun z => nomatch z) rfl (kq E28 h24) dX11_storm_131 ?_
        refine y_nmS (fun σ29 e30 => ?_)
        replace h := h σ29 e30
        have E31 : sK σ29 = sK σ26 := by rw [e30]; rfl
        refine y_aload_n hg 0 dX11_storm_134 rfl rfl ?_
        refine y_dup hg dX11_storm_135 rfl ?_
        refine y_getL hg fl_X11_304 rfl rfl (kq E31 (kq E28 h24)) dX11_storm_136 ?_
        refine y_aload_n hg 0 dX11_storm_139 rfl rfl ?_
        refine y_getL hg fl_X11_266 rfl rfl (kq E31 (kq E28 h24)) dX11_storm_140 ?_
        refine y_ladd hg dX11_storm_143 ?_
        refine y_putL hg fw_X11_304 (fun z => nomatch z) rfl (kq E31 (kq E28 h24)) dX11_storm_144 ?_
        refine y_nmS (fun σ32 e33 => ?_)
        replace h := h σ32 e33
        have E34 : sK σ32 = sK σ29 := by rw [e33]; rfl
        refine y_aload_n hg 0 dX11_storm_147 rfl rfl ?_
        refine y_dup hg dX11_storm_148 rfl ?_
        refine y_getL hg fl_X11_307 rfl rfl (kq E34 (kq E31 (kq E28 h24))) dX11_storm_149 ?_
        refine y_aload_n hg 0 dX11_storm_152 rfl rfl ?_
        refine y_getL hg fl_X11_269 rfl rfl (kq E34 (kq E31 (kq E28 h24))) dX11_storm_153 ?_
        refine y_ladd hg dX11_storm_156 ?_
        refine y_putL hg fw_X11_307 (fun z => nomatch z) rfl (kq E34 (kq E31 (kq E28 h24))) dX11_storm_157 ?_
        refine y_nmS (fun σ35 e36 => ?_)
        replace h := h σ35 e36
        have E37 : sK σ35 = sK σ32 := by rw [e36]; rfl
        refine y_aload_n hg 0 dX11_storm_160 rfl rfl ?_
        refine y_getR hg fl_X11_132 rfl rfl (kq E37 (kq E34 (kq E31 (kq E28 h24)))) dX11_storm_161 ?_
        refine y_aload_n hg 0 dX11_storm_164 rfl rfl ?_
        refine y_getI hg fl_X11_295 rfl rfl (kq E37 (kq E34 (kq E31 (kq E28 h24)))) dX11_storm_165 ?_
        refine y_aload_n hg 0 dX11_storm_168 rfl rfl ?_
        refine y_getI hg fl_X11_212 rfl rfl (kq E37 (kq E34 (kq E31 (kq E28 h24)))) dX11_storm_169 ?_
        obtain ⟨c38, h39, h⟩ := h
        obtain ⟨h40, h⟩ := h
        obtain ⟨h41, h⟩ := h
        refine y_iast hg h39 h40 h41 dX11_storm_172 ?_
        refine y_nmS (fun σ42 e43 => ?_)
        replace h := h σ42 e43
        have E44 : sK σ42 = sK σ35 := by rw [e43]; rfl
        refine y_aload_n hg 0 dX11_storm_173 rfl rfl ?_
        refine y_getR hg fl_X11_117 rfl rfl (kq E44 (kq E37 (kq E34 (kq E31 (kq E28 h24))))) dX11_storm_174 ?_
        refine y_aload_n hg 0 dX11_storm_177 rfl rfl ?_
        refine y_getI hg fl_X11_295 rfl rfl (kq E44 (kq E37 (kq E34 (kq E31 (kq E28 h24))))) dX11_storm_178 ?_
        refine y_aload_n hg 0 dX11_storm_181 rfl rfl ?_
        refine y_getL hg fl_X11_260 rfl rfl (kq E44 (kq E37 (kq E34 (kq E31 (kq E28 h24))))) dX11_storm_182 ?_
        obtain ⟨c45, h46, h⟩ := h
        obtain ⟨h47, h⟩ := h
        obtain ⟨h48, h⟩ := h
        refine y_last hg h46 h47 h48 dX11_storm_185 ?_
        refine y_nmS (fun σ49 e50 => ?_)
        replace h := h σ49 e50
        have E51 : sK σ49 = sK σ42 := by rw [e50]; rfl
        refine y_aload_n hg 0 dX11_storm_186 rfl rfl ?_
        refine y_getR hg fl_X11_120 rfl rfl (kq E51 (kq E44 (kq E37 (kq E34 (kq E31 (kq E28 h24)))))) dX11_storm_187 ?_
        refine y_aload_n hg 0 dX11_storm_190 rfl rfl ?_
        refine y_getI hg fl_X11_295 rfl rfl (kq E51 (kq E44 (kq E37 (kq E34 (kq E31 (kq E28 h24)))))) dX11_storm_191 ?_
        refine y_aload_n hg 0 dX11_storm_194 rfl rfl ?_
        refine y_getL hg fl_X11_266 rfl rfl (kq E51 (kq E44 (kq E37 (kq E34 (kq E31 (kq E28 h24)))))) dX11_storm_195 ?_
        obtain ⟨c52, h53, h⟩ := h
        obtain ⟨h54, h⟩ := h
        obtain ⟨h55, h⟩ := h
        refine y_last hg h53 h54 h55 dX11_storm_198 ?_
        refine y_nmS (fun σ56 e57 => ?_)
        replace h := h σ56 e57
        have E58 : sK σ56 = sK σ49 := by rw [e57]; rfl
        refine y_aload_n hg 0 dX11_storm_199 rfl rfl ?_
        refine y_getR hg fl_X11_135 rfl rfl (kq E58 (kq E51 (kq E44 (kq E37 (kq E34 (kq E31 (kq E28 h24))))))) dX11_storm_200 ?_
        refine y_aload_n hg 0 dX11_storm_203 rfl rfl ?_
        refine y_getI hg fl_X11_295 rfl rfl (kq E58 (kq E51 (kq E44 (kq E37 (kq E34 (kq E31 (kq E28 h24))))))) dX11_storm_204 ?_
        refine y_aload_n hg 0 dX11_storm_207 rfl rfl ?_
        refine y_getI hg fl_X11_275 rfl rfl (kq E58 (kq E51 (kq E44 (kq E37 (kq E34 (kq E31 (kq E28 h24))))))) dX11_storm_208 ?_
        obtain ⟨c59, h60, h⟩ := h
        obtain ⟨h61, h⟩ := h
        obtain ⟨h62, h⟩ := h
        refine y_iast hg h60 h61 h62 dX11_storm_211 ?_
        refine y_nmS (fun σ63 e64 => ?_)
        replace h := h σ63 e64
        have E65 : sK σ63 = sK σ56 := by rw [e64]; rfl
        refine y_aload_n hg 0 dX11_storm_212 rfl rfl ?_
        refine y_getR hg fl_X11_123 rfl rfl (kq E65 (kq E58 (kq E51 (kq E44 (kq E37 (kq E34 (kq E31 (kq E28 h24)))))))) dX11_storm_213 ?_
        refine y_aload_n hg 0 dX11_storm_216 rfl rfl ?_
        refine y_getI hg fl_X11_295 rfl rfl (kq E65 (kq E58 (kq E51 (kq E44 (kq E37 (kq E34 (kq E31 (kq E28 h24)))))))) dX11_storm_217 ?_
        refine y_aload_n hg 0 dX11_storm_220 rfl rfl ?_
        refine y_getL hg fl_X11_272 rfl rfl (kq E65 (kq E58 (kq E51 (kq E44 (kq E37 (kq E34 (kq E31 (kq E28 h24)))))))) dX11_storm_221 ?_
        obtain ⟨c66, h67, h⟩ := h
        obtain ⟨h68, h⟩ := h
        obtain ⟨h69, h⟩ := h
        refine y_last hg h67 h68 h69 dX11_storm_224 ?_
        refine y_nmS (fun σ70 e71 => ?_)
        replace h := h σ70 e71
        have E72 : sK σ70 = sK σ63 := by rw [e71]; rfl
        refine y_aload_n hg 0 dX11_storm_225 rfl rfl ?_
        refine y_dup hg dX11_storm_226 rfl ?_
        refine y_getI hg fl_X11_295 rfl rfl (kq E72 (kq E65 (kq E58 (kq E51 (kq E44 (kq E37 (kq E34 (kq E31 (kq E28 h24))))))))) dX11_storm_227 ?_
        refine y_iconst (v := 1) hg dX11_storm_230 (by decide) ?_
        refine y_iadd hg dX11_storm_231 ?_
        refine y_putI hg fw_X11_295 (fun z => nomatch z) rfl (kq E72 (kq E65 (kq E58 (kq E51 (kq E44 (kq E37 (kq E34 (kq E31 (kq E28 h24))))))))) dX11_storm_232 ?_
        refine y_nmS (fun σ73 e74 => ?_)
        replace h := h σ73 e74
        have E75 : sK σ73 = sK σ70 := by rw [e74]; rfl
        refine y_aload_n hg 0 dX11_storm_235 rfl rfl ?_
        refine y_getI hg fl_X11_295 rfl rfl (kq E75 (kq E72 (kq E65 (kq E58 (kq E51 (kq E44 (kq E37 (kq E34 (kq E31 (kq E28 h24)))))))))) dX11_storm_236 ?_
        refine y_iconst (v := 1) hg dX11_storm_239 (by decide) ?_
        refine y_isub hg dX11_storm_240 ?_
        exact yEndI hend rfl dX11_storm_241 h
      · replace h := h.2 q25
        refine y_aload_n hg 0 dX11_storm_54 rfl rfl ?_
        refine y_getR hg fl_X11_53 rfl rfl h24 dX11_storm_55 ?_
        refine y_iload_n hg 1 dX11_storm_58 rfl rfl ?_
        refine y_aload_n hg 0 dX11_storm_59 rfl rfl ?_
        refine y_getR hg fl_X11_98 rfl rfl h24 dX11_storm_60 ?_
        refine y_iload_n hg 1 dX11_storm_63 rfl rfl ?_
        obtain ⟨c76, h77, h⟩ := h
        obtain ⟨h78, h⟩ := h
        obtain ⟨h79, h⟩ := h
        refine y_iald hg h77 h78 h79 dX11_storm_64 ?_
        obtain ⟨c80, h81, h⟩ := h
        obtain ⟨h82, h⟩ := h
        obtain ⟨h83, h⟩ := h
        refine y_iast hg h81 h82 h83 dX11_storm_65 ?_
        refine y_nmS (fun σ84 e85 => ?_)
        replace h := h σ84 e85
        have E86 : sK σ84 = sK σ := by rw [e85]; rfl
        refine y_aload_n hg 0 dX11_storm_66 rfl rfl ?_
        refine y_getR hg fl_X11_126 rfl rfl (kq E86 h24) dX11_storm_67 ?_
        refine y_iload_n hg 1 dX11_storm_70 rfl rfl ?_
        refine y_aload_n hg 0 dX11_storm_71 rfl rfl ?_
        refine y_getR hg fl_X11_108 rfl rfl (kq E86 h24) dX11_storm_72 ?_
        refine y_iload_n hg 1 dX11_storm_75 rfl rfl ?_
        obtain ⟨c87, h88, h⟩ := h
        obtain ⟨h89, h⟩ := h
        obtain ⟨h90, h⟩ := h
        refine y_lald hg h88 h89 h90 dX11_storm_76 ?_
        obtain ⟨c91, h92, h⟩ := h
        obtain ⟨h93, h⟩ := h
        obtain ⟨h94, h⟩ := h
        refine y_last hg h92 h93 h94 dX11_storm_77 ?_
        refine y_nmS (fun σ95 e96 => ?_)
        replace h := h σ95 e96
        have E97 : sK σ95 = sK σ84 := by rw [e96]; rfl
        refine y_aload_n hg 0 dX11_storm_78 rfl rfl ?_
        refine y_getR hg fl_X11_129 rfl rfl (kq E97 (kq E86 h24)) dX11_storm_79 ?_
        refine y_iload_n hg 1 dX11_storm_82 rfl rfl ?_
        refine y_aload_n hg 0 dX11_storm_83 rfl rfl ?_
        refine y_getR hg fl_X11_111 rfl rfl (kq E97 (kq E86 h24)) dX11_storm_84 ?_
        refine y_iload_n hg 1 dX11_storm_87 rfl rfl ?_
        obtain ⟨c98, h99, h⟩ := h
        obtain ⟨h100, h⟩ := h
        obtain ⟨h101, h⟩ := h
        refine y_lald hg h99 h100 h101 dX11_storm_88 ?_
        obtain ⟨c102, h103, h⟩ := h
        obtain ⟨h104, h⟩ := h
        obtain ⟨h105, h⟩ := h
        refine y_last hg h103 h104 h105 dX11_storm_89 ?_
        refine y_nmS (fun σ106 e107 => ?_)
        replace h := h σ106 e107
        have E108 : sK σ106 = sK σ95 := by rw [e107]; rfl
        refine y_aload_n hg 0 dX11_storm_90 rfl rfl ?_
        refine y_getR hg fl_X11_138 rfl rfl (kq E108 (kq E97 (kq E86 h24))) dX11_storm_91 ?_
        refine y_iload_n hg 1 dX11_storm_94 rfl rfl ?_
        refine y_aload_n hg 0 dX11_storm_95 rfl rfl ?_
        refine y_getR hg fl_X11_114 rfl rfl (kq E108 (kq E97 (kq E86 h24))) dX11_storm_96 ?_
        refine y_iload_n hg 1 dX11_storm_99 rfl rfl ?_
        obtain ⟨c109, h110, h⟩ := h
        obtain ⟨h111, h⟩ := h
        obtain ⟨h112, h⟩ := h
        refine y_iald hg h110 h111 h112 dX11_storm_100 ?_
        obtain ⟨c113, h114, h⟩ := h
        obtain ⟨h115, h⟩ := h
        obtain ⟨h116, h⟩ := h
        refine y_iast hg h114 h115 h116 dX11_storm_101 ?_
        refine y_nmS (fun σ117 e118 => ?_)
        replace h := h σ117 e118
        have E119 : sK σ117 = sK σ106 := by rw [e118]; rfl
        obtain ⟨x120, e121⟩ : ∃ y : Int32, y = v1 + 1 := ⟨_, rfl⟩
        replace h := h x120 e121
        refine y_iinc (v := x120) (lv' := [(1, .int x120), (0, va_rf (some a0))]) hg 1 dX11_storm_102 rfl (by rw [e121]; rfl) (by rw [hgN]; decide) rfl ?_
        refine y_goto (tgt := 46) hg dX11_storm_105 (by decide) ?_
        refine y_sub [1, 0] rfl ?_
        subst hK46
        obtain ⟨n122, h123, h⟩ := h
        exact ih46 n122 h123 _ _ h
    exact key46 n46 v1 σ hI46
  have J18 : ∀ (v1 : Int32) (σ : Sg), P_X11_storm_L18 a0 v1 σ Q → XA g 18 [(0, va_rf (some a0)), (1, .int v1)] [] σ (0, 0) := by
    intro v1 σ h
    unfold P_X11_storm_L18 at h
    obtain ⟨I18, ⟨n18, hI18⟩, hs18⟩ := h
    have key18 : ∀ (n : Nat), ∀ (v1 : Int32) (σ : Sg), I18 n v1 σ → XA g 18 [(0, va_rf (some a0)), (1, .int v1)] [] σ (0, 0) := by
      intro n
      induction n using Nat.strongRecOn with
      | _ n ih18 =>
      intro v1 σ hI
      have h := hs18 n v1 σ hI
      clear hI hI18 hs18
      obtain ⟨K18, hK18⟩ : ∃ K : Int32 → Sg → Prop, K = (fun v1 σ => ∃ n', n' < n ∧ I18 n' v1 σ) := ⟨_, rfl⟩
      rw [← hK18] at h
      unfold P_X11_storm_L18b at h
      refine y_iload_n hg 1 dX11_storm_18 rfl rfl ?_
      refine y_aload_n hg 0 dX11_storm_19 rfl rfl ?_
      obtain ⟨h7, h⟩ := h
      refine y_getI hg fl_X11_202 rfl rfl h7 dX11_storm_20 ?_
      refine y_icmp_ge (tgt := 44) hg dX11_storm_23 (by decide) (fun q8 => ?_) (fun q8 => ?_)
      · replace h := h.1 q8
        refine y_iconst (v := 0) hg dX11_storm_44 (by decide) ?_
        refine y_istore_n (lv' := [(1, .int 0), (0, va_rf (some a0))]) hg dX11_storm_45 rfl (by rw [hgN]; decide) rfl ?_
        refine y_sub [1, 0] rfl ?_
        exact J46 _ _ h
      · replace h := h.2 q8
        refine y_aload_n hg 0 dX11_storm_26 rfl rfl ?_
        refine y_getR hg fl_X11_77 rfl rfl h7 dX11_storm_27 ?_
        refine y_iload_n hg 1 dX11_storm_30 rfl rfl ?_
        refine y_aload_n hg 0 dX11_storm_31 rfl rfl ?_
        refine y_getR hg fl_X11_95 rfl rfl h7 dX11_storm_32 ?_
        refine y_iload_n hg 1 dX11_storm_35 rfl rfl ?_
        obtain ⟨c9, h10, h⟩ := h
        obtain ⟨h11, h⟩ := h
        obtain ⟨h12, h⟩ := h
        refine y_iald hg h10 h11 h12 dX11_storm_36 ?_
        obtain ⟨c13, h14, h⟩ := h
        obtain ⟨h15, h⟩ := h
        obtain ⟨h16, h⟩ := h
        refine y_iast hg h14 h15 h16 dX11_storm_37 ?_
        refine y_nmS (fun σ17 e18 => ?_)
        replace h := h σ17 e18
        have E19 : sK σ17 = sK σ := by rw [e18]; rfl
        obtain ⟨x20, e21⟩ : ∃ y : Int32, y = v1 + 1 := ⟨_, rfl⟩
        replace h := h x20 e21
        refine y_iinc (v := x20) (lv' := [(1, .int x20), (0, va_rf (some a0))]) hg 1 dX11_storm_38 rfl (by rw [e21]; rfl) (by rw [hgN]; decide) rfl ?_
        refine y_goto (tgt := 18) hg dX11_storm_41 (by decide) ?_
        refine y_sub [1, 0] rfl ?_
        subst hK18
        obtain ⟨n22, h23, h⟩ := h
        exact ih18 n22 h23 _ _ h
    exact key18 n18 v1 σ hI18
  refine y_aload_n hg 0 dX11_storm_0 rfl rfl ?_
  obtain ⟨h1, h⟩ := h
  refine y_getI hg fl_X11_295 rfl rfl h1 dX11_storm_1 ?_
  refine y_bipush (v := 40) hg dX11_storm_4 (by decide) ?_
  refine y_icmp_ne (tgt := 11) hg dX11_storm_6 (by decide) (fun q2 => ?_) (fun q2 => ?_)
  · replace h := h.2 q2
    refine y_aload_n hg 0 dX11_storm_11 rfl rfl ?_
    refine y_iconst (v := 0) hg dX11_storm_12 (by decide) ?_
    refine yVVW (Qm := _) (rest := []) (As := [.int 0]) hg (k_X11_falls (gL g.1) (gD g.1) a0 0 σ _ h) lv_X11_298 rfl h1 rfl rfl dX11_storm_13 (cat8 (Nat.le_of_ble_eq_true rfl)) hrm ⟨Nat.le_of_ble_eq_true rfl, Nat.le_of_ble_eq_true rfl⟩ (fun u3 σ4 h h5 => ?_)
    have h6 := kp h5 (show ¬ 13 = 0 by decide) h1
    refine y_iconst (v := 0) hg dX11_storm_16 (by decide) ?_
    refine y_istore_n (lv' := [(1, .int 0), (0, va_rf (some a0))]) hg dX11_storm_17 rfl (by rw [hgN]; decide) rfl ?_
    refine y_sub [1, 0] rfl ?_
    exact J18 _ _ h
  · replace h := h.1 q2
    refine y_iconst (v := (-1)) hg dX11_storm_9 (by decide) ?_
    exact yEndI hend rfl dX11_storm_10 h
def P_X11_isNew_B56 (a0 : Nat) (v1 : Int32) (v3 : Int32) (w0 : Int32) (σ : Sg) (Q : Int32 → Prop) (K22 : Int32 → Int32 → Prop) : Prop :=
  ∀ x14 : Int32, x14 = v3 + 1 → K22 w0 x14
def P_X11_isNew_B55 (a0 : Nat) (v1 : Int32) (v3 : Int32) (σ : Sg) (Q : Int32 → Prop) (K22 : Int32 → Int32 → Prop) : Prop :=
  P_X11_isNew_B56 a0 v1 v3 0 σ Q K22
def P_X11_isNew_B51 (a0 : Nat) (v1 : Int32) (v3 : Int32) (σ : Sg) (Q : Int32 → Prop) (K22 : Int32 → Int32 → Prop) : Prop :=
  P_X11_isNew_B56 a0 v1 v3 1 σ Q K22
def P_X11_isNew_L22b (a0 : Nat) (v1 : Int32) (v2 : Int32) (v3 : Int32) (σ : Sg) (Q : Int32 → Prop) (K22 : Int32 → Int32 → Prop) : Prop :=
  sK σ a0 % 32 = 13 ∧ ((sI σ a0 1) ≤ v3 → bz v2 ∧ Q v2) ∧ (¬ ((sI σ a0 1) ≤ v3) → (v2 = 0 → P_X11_isNew_B55 a0 v1 v3 σ Q K22) ∧ (¬ (v2 = 0) → (((v1 >>> (v3 &&& 31)) &&& 1) = 0 → P_X11_isNew_B51 a0 v1 v3 σ Q K22) ∧ (¬ (((v1 >>> (v3 &&& 31)) &&& 1) = 0) → ∃ c9 : Nat, sR σ a0 12 = some c9 ∧ sK σ c9 % 32 = 18 ∧ vp_in v3 (sN σ c9) ∧ ((sI σ c9 v3.toNatClampNeg) = 0 → P_X11_isNew_B51 a0 v1 v3 σ Q K22) ∧ (¬ ((sI σ c9 v3.toNatClampNeg) = 0) → P_X11_isNew_B55 a0 v1 v3 σ Q K22))))
def P_X11_isNew_L22 (a0 : Nat) (v1 : Int32) (v2 : Int32) (v3 : Int32) (σ : Sg) (Q : Int32 → Prop) : Prop :=
  ∃ I : Nat → Int32 → Int32 → Prop, (∃ n, I n v2 v3) ∧ ∀ (n : Nat) (v2 : Int32) (v3 : Int32), I n v2 v3 → P_X11_isNew_L22b a0 v1 v2 v3 σ Q (fun v2 v3 => ∃ n', n' < n ∧ I n' v2 v3)
def P_X11_isNew (a0 : Nat) (v1 : Int32) (σ : Sg) (Q : Int32 → Prop) : Prop :=
  sK σ a0 % 32 = 13 ∧ P_X11_isIn v1 0 ((1 <<< ((sI σ a0 1) &&& 31)) - 1) σ (fun x2 => (x2 = 0 → Q 0) ∧ (¬ (x2 = 0) → P_X11_isNew_L22 a0 v1 1 0 σ Q))
set_option maxHeartbeats 4000000 in
set_option maxRecDepth 100000 in
theorem k_X11_isNew (l : Launch) (D : Dg) (a0 : Nat) (v1 : Int32) (σ : Sg) (Q : Int32 → Prop) (h : P_X11_isNew a0 v1 σ Q) : CtrY RN l D yX11_isNew cX11_isNew 4 (some FieldType.boolean) 1 22 mkI [.ref a0, .int v1] σ (0, 0) (fun r σ2 => Q r ∧ σ2 = σ) := by
  refine y_ctrN (lv := [(0, va_rf (some a0)), (1, .int v1)]) (by decide) (by (exact Nat.le_of_ble_eq_true rfl)) (by (exact rfl)) (fun g hg hgL hgD hrm hgN hgI hend => ?_)
  subst hgD
  clear hgL
  unfold P_X11_isNew at h
  have J22 : ∀ (v1 : Int32) (v2 : Int32) (v3 : Int32), P_X11_isNew_L22 a0 v1 v2 v3 σ Q → XA g 22 [(0, va_rf (some a0)), (1, .int v1), (2, .int v2), (3, .int v3)] [] σ (0, 0) := by
    intro v1 v2 v3 h
    unfold P_X11_isNew_L22 at h
    obtain ⟨I22, ⟨n22, hI22⟩, hs22⟩ := h
    have key22 : ∀ (n : Nat), ∀ (v2 : Int32) (v3 : Int32), I22 n v2 v3 → XA g 22 [(0, va_rf (some a0)), (1, .int v1), (2, .int v2), (3, .int v3)] [] σ (0, 0) := by
      intro n
      induction n using Nat.strongRecOn with
      | _ n ih22 =>
      intro v2 v3 hI
      have h := hs22 n v2 v3 hI
      clear hI hI22 hs22
      obtain ⟨K22, hK22⟩ : ∃ K : Int32 → Int32 → Prop, K = (fun v2 v3 => ∃ n', n' < n ∧ I22 n' v2 v3) := ⟨_, rfl⟩
      rw [← hK22] at h
      unfold P_X11_isNew_L22b at h
      have J56 : ∀ (v3 : Int32) (w0 : Int32), P_X11_isNew_B56 a0 v1 v3 w0 σ Q K22 → XA g 56 [(0, va_rf (some a0)), (1, .int v1), (3, .int v3)] [.int w0] σ (0, 0) := by
        intro v3 w0 h
        unfold P_X11_isNew_B56 at h
        refine y_istore_n (lv' := [(2, .int w0), (0, va_rf (some a0)), (1, .int v1), (3, .int v3)]) hg dX11_isNew_56 rfl (by rw [hgN]; decide) rfl ?_
        obtain ⟨x14, e15⟩ : ∃ y : Int32, y = v3 + 1 := ⟨_, rfl⟩
        replace h := h x14 e15
        refine y_iinc (v := x14) (lv' := [(3, .int x14), (2, .int w0), (0, va_rf (some a0)), (1, .int v1)]) hg 3 dX11_isNew_57 rfl (by rw [e15]; rfl) (by rw [hgN]; decide) rfl ?_
        refine y_goto (tgt := 22) hg dX11_isNew_60 (by decide) ?_
        refine y_sub [2, 3, 1, 0] rfl ?_
        subst hK22
        obtain ⟨n16, h17, h⟩ := h
        exact ih22 n16 h17 _ _ h
      have J55 : ∀ (v3 : Int32), P_X11_isNew_B55 a0 v1 v3 σ Q K22 → XA g 55 [(0, va_rf (some a0)), (1, .int v1), (3, .int v3)] [] σ (0, 0) := by
        intro v3 h
        unfold P_X11_isNew_B55 at h
        refine y_iconst (v := 0) hg dX11_isNew_55 (by decide) ?_
        refine y_sub [0, 1, 2] rfl ?_
        exact J56 _ _ h
      have J51 : ∀ (v3 : Int32), P_X11_isNew_B51 a0 v1 v3 σ Q K22 → XA g 51 [(0, va_rf (some a0)), (1, .int v1), (3, .int v3)] [] σ (0, 0) := by
        intro v3 h
        unfold P_X11_isNew_B51 at h
        refine y_iconst (v := 1) hg dX11_isNew_51 (by decide) ?_
        refine y_goto (tgt := 56) hg dX11_isNew_52 (by decide) ?_
        refine y_sub [0, 1, 2] rfl ?_
        exact J56 _ _ h
      refine y_iload_n hg 3 dX11_isNew_22 rfl rfl ?_
      refine y_aload_n hg 0 dX11_isNew_23 rfl rfl ?_
      obtain ⟨h4, h⟩ := h
      refine y_getI hg fl_X11_191 rfl rfl h4 dX11_isNew_24 ?_
      refine y_icmp_ge (tgt := 63) hg dX11_isNew_27 (by decide) (fun q5 => ?_) (fun q5 => ?_)
      · replace h := h.1 q5
        refine y_iload_n hg 2 dX11_isNew_63 rfl rfl ?_
        obtain ⟨h6, h⟩ := h
        exact yEndI hend (bz_nar h6).1 dX11_isNew_64 ⟨h, rfl⟩
      · replace h := h.2 q5
        refine y_iload_n hg 2 dX11_isNew_30 rfl rfl ?_
        refine y_if_eq (tgt := 55) hg dX11_isNew_31 (by decide) (fun q7 => ?_) (fun q7 => ?_)
        · replace h := h.1 q7
          refine y_sub [0, 1, 3] rfl ?_
          exact J55 _ h
        · replace h := h.2 q7
          refine y_iload_n hg 1 dX11_isNew_34 rfl rfl ?_
          refine y_iload_n hg 3 dX11_isNew_35 rfl rfl ?_
          refine y_ishr hg dX11_isNew_36 ?_
          refine y_iconst (v := 1) hg dX11_isNew_37 (by decide) ?_
          refine y_iand hg dX11_isNew_38 ?_
          refine y_if_eq (tgt := 51) hg dX11_isNew_39 (by decide) (fun q8 => ?_) (fun q8 => ?_)
          · replace h := h.1 q8
            refine y_sub [0, 1, 3] rfl ?_
            exact J51 _ h
          · replace h := h.2 q8
            refine y_aload_n hg 0 dX11_isNew_42 rfl rfl ?_
            refine y_getR hg fl_X11_25 rfl rfl h4 dX11_isNew_43 ?_
            refine y_iload_n hg 3 dX11_isNew_46 rfl rfl ?_
            obtain ⟨c9, h10, h⟩ := h
            obtain ⟨h11, h⟩ := h
            obtain ⟨h12, h⟩ := h
            refine y_zald hg h10 h11 h12 dX11_isNew_47 ?_
            refine y_if_ne (tgt := 55) hg dX11_isNew_48 (by decide) (fun q13 => ?_) (fun q13 => ?_)
            · replace h := h.2 q13
              refine y_sub [0, 1, 3] rfl ?_
              exact J55 _ h
            · replace h := h.1 q13
              refine y_sub [0, 1, 3] rfl ?_
              exact J51 _ h
    exact key22 n22 v2 v3 hI22
  refine y_iload_n hg 1 dX11_isNew_0 rfl rfl ?_
  refine y_iconst (v := 0) hg dX11_isNew_1 (by decide) ?_
  refine y_iconst (v := 1) hg dX11_isNew_2 (by decide) ?_
  refine y_aload_n hg 0 dX11_isNew_3 rfl rfl ?_
  obtain ⟨h1, h⟩ := h
  refine y_getI hg fl_X11_191 rfl rfl h1 dX11_isNew_4 ?_
  refine y_ishl hg dX11_isNew_7 ?_
  refine y_iconst (v := 1) hg dX11_isNew_8 (by decide) ?_
  refine y_isub hg dX11_isNew_9 ?_
  refine ySIP (Qp := _) (rest := []) (As := [.int v1, .int 0, .int ((1 <<< ((sI σ a0 1) &&& 31)) - 1)]) hg (k_X11_isIn (gL g.1) (gD g.1) v1 0 ((1 <<< ((sI σ a0 1) &&& 31)) - 1) σ _ h) ls_X11_194 rfl rfl dX11_isNew_10 (cat8 (Nat.le_of_ble_eq_true rfl)) hrm ⟨Nat.le_of_ble_eq_true rfl, Nat.le_of_ble_eq_true rfl⟩ (fun x2 h => ?_)
  refine y_if_ne (tgt := 18) hg dX11_isNew_13 (by decide) (fun q3 => ?_) (fun q3 => ?_)
  · replace h := h.2 q3
    refine y_iconst (v := 1) hg dX11_isNew_18 (by decide) ?_
    refine y_istore_n (lv' := [(2, .int 1), (0, va_rf (some a0)), (1, .int v1)]) hg dX11_isNew_19 rfl (by rw [hgN]; decide) rfl ?_
    refine y_iconst (v := 0) hg dX11_isNew_20 (by decide) ?_
    refine y_istore_n (lv' := [(3, .int 0), (2, .int 1), (0, va_rf (some a0)), (1, .int v1)]) hg dX11_isNew_21 rfl (by rw [hgN]; decide) rfl ?_
    refine y_sub [2, 3, 1, 0] rfl ?_
    exact J22 _ _ _ h
  · replace h := h.1 q3
    refine y_iconst (v := 0) hg dX11_isNew_16 (by decide) ?_
    exact yEndI hend (bz_nar (Or.inl rfl)).1 dX11_isNew_17 ⟨h, rfl⟩
def P_X11_tried (a0 : Nat) (v1 : Int32) (v2 : Int32) (σ : Sg) (Q : Int64 → Sg → Prop) : Prop :=
  sK σ a0 % 32 = 13 ∧ P_X11_isNew a0 v1 σ (fun x2 => (x2 = 0 → Q (-1) σ) ∧ (¬ (x2 = 0) → P_X11_isIn v2 0 1 σ (fun x4 => (x4 = 0 → Q (-1) σ) ∧ (¬ (x4 = 0) → P_X11_falls a0 v1 σ (fun _ σ7 => (v2 = 0 → Q (sL σ7 a0 49) σ7) ∧ (¬ (v2 = 0) → Q ((sI σ7 a0 52).toInt64) σ7))))))
set_option maxHeartbeats 4000000 in
set_option maxRecDepth 100000 in
theorem k_X11_tried (l : Launch) (D : Dg) (a0 : Nat) (v1 : Int32) (v2 : Int32) (σ : Sg) (Q : Int64 → Sg → Prop) (h : P_X11_tried a0 v1 v2 σ Q) : CtrY RN l D yX11_tried cX11_tried 3 (some FieldType.long) 4 113 mkL [.ref a0, .int v1, .int v2] σ (0, 0) Q := by
  refine y_ctrN (lv := [(0, va_rf (some a0)), (1, .int v1), (2, .int v2)]) (by decide) (by (exact Nat.le_of_ble_eq_true rfl)) (by (exact rfl)) (fun g hg hgL hgD hrm hgN hgI hend => ?_)
  subst hgD
  clear hgL
  unfold P_X11_tried at h
  refine y_aload_n hg 0 dX11_tried_0 rfl rfl ?_
  refine y_iload_n hg 1 dX11_tried_1 rfl rfl ?_
  obtain ⟨h1, h⟩ := h
  refine yVIP (Qp := _) (rest := []) (As := [.int v1]) hg (k_X11_isNew (gL g.1) (gD g.1) a0 v1 σ _ h) lv_X11_310 rfl h1 rfl rfl dX11_tried_2 (cat8 (Nat.le_of_ble_eq_true rfl)) hrm ⟨Nat.le_of_ble_eq_true rfl, Nat.le_of_ble_eq_true rfl⟩ (fun x2 h => ?_)
  refine y_if_eq (tgt := 17) hg dX11_tried_5 (by decide) (fun q3 => ?_) (fun q3 => ?_)
  · replace h := h.1 q3
    refine y_ldc2 hg cw_X11_313 dX11_tried_17 ?_
    exact yEndL hend dX11_tried_20 h
  · replace h := h.2 q3
    refine y_iload_n hg 2 dX11_tried_8 rfl rfl ?_
    refine y_iconst (v := 0) hg dX11_tried_9 (by decide) ?_
    refine y_iconst (v := 1) hg dX11_tried_10 (by decide) ?_
    refine ySIP (Qp := _) (rest := []) (As := [.int v2, .int 0, .int 1]) hg (k_X11_isIn (gL g.1) (gD g.1) v2 0 1 σ _ h) ls_X11_194 rfl rfl dX11_tried_11 (cat8 (Nat.le_of_ble_eq_true rfl)) hrm ⟨Nat.le_of_ble_eq_true rfl, Nat.le_of_ble_eq_true rfl⟩ (fun x4 h => ?_)
    refine y_if_ne (tgt := 21) hg dX11_tried_14 (by decide) (fun q5 => ?_) (fun q5 => ?_)
    · replace h := h.2 q5
      refine y_aload_n hg 0 dX11_tried_21 rfl rfl ?_
      refine y_iload_n hg 1 dX11_tried_22 rfl rfl ?_
      refine yVVW (Qm := _) (rest := []) (As := [.int v1]) hg (k_X11_falls (gL g.1) (gD g.1) a0 v1 σ _ h) lv_X11_298 rfl h1 rfl rfl dX11_tried_23 (cat8 (Nat.le_of_ble_eq_true rfl)) hrm ⟨Nat.le_of_ble_eq_true rfl, Nat.le_of_ble_eq_true rfl⟩ (fun u6 σ7 h h8 => ?_)
      have h9 := kp h8 (show ¬ 13 = 0 by decide) h1
      refine y_iload_n hg 2 dX11_tried_26 rfl rfl ?_
      refine y_if_ne (tgt := 37) hg dX11_tried_27 (by decide) (fun q10 => ?_) (fun q10 => ?_)
      · replace h := h.2 q10
        refine y_aload_n hg 0 dX11_tried_37 rfl rfl ?_
        refine y_getI hg fl_X11_275 rfl rfl h9 dX11_tried_38 ?_
        refine y_i2l hg dX11_tried_41 ?_
        exact yEndL hend dX11_tried_42 h
      · replace h := h.1 q10
        refine y_aload_n hg 0 dX11_tried_30 rfl rfl ?_
        refine y_getL hg fl_X11_266 rfl rfl h9 dX11_tried_31 ?_
        refine y_goto (tgt := 42) hg dX11_tried_34 (by decide) ?_
        exact yEndL hend dX11_tried_42 h
    · replace h := h.1 q5
      refine y_ldc2 hg cw_X11_313 dX11_tried_17 ?_
      exact yEndL hend dX11_tried_20 h
def P_X11_bits_L4b (v1 : Int32) (v2 : Int32) (σ : Sg) (Q : Int32 → Prop) (K4 : Int32 → Int32 → Prop) : Prop :=
  (v2 ≤ 0 → Q v1) ∧ (¬ (v2 ≤ 0) → ∀ x2 : Int32, x2 = v1 + (v2 &&& 1) → ∀ x4 : Int32, x4 = v2 >>> (1 &&& 31) → K4 x2 x4)
def P_X11_bits_L4 (v1 : Int32) (v2 : Int32) (σ : Sg) (Q : Int32 → Prop) : Prop :=
  ∃ I : Nat → Int32 → Int32 → Prop, (∃ n, I n v1 v2) ∧ ∀ (n : Nat) (v1 : Int32) (v2 : Int32), I n v1 v2 → P_X11_bits_L4b v1 v2 σ Q (fun v1 v2 => ∃ n', n' < n ∧ I n' v1 v2)
def P_X11_bits (v0 : Int32) (σ : Sg) (Q : Int32 → Prop) : Prop :=
  P_X11_bits_L4 0 v0 σ Q
set_option maxHeartbeats 4000000 in
set_option maxRecDepth 100000 in
theorem k_X11_bits (l : Launch) (D : Dg) (v0 : Int32) (σ : Sg) (Q : Int32 → Prop) (h : P_X11_bits v0 σ Q) : CtrY RN l D yX11_bits cX11_bits 3 (some FieldType.int) 0 0 mkI [.int v0] σ (0, 0) (fun r σ2 => Q r ∧ σ2 = σ) := by
  refine y_ctrN (lv := [(0, .int v0)]) (by decide) (by (exact Nat.le_of_ble_eq_true rfl)) (by (exact rfl)) (fun g hg hgL hgD hrm hgN hgI hend => ?_)
  subst hgD
  clear hgL
  unfold P_X11_bits at h
  have J4 : ∀ (v1 : Int32) (v2 : Int32), P_X11_bits_L4 v1 v2 σ Q → XA g 4 [(1, .int v1), (2, .int v2)] [] σ (0, 0) := by
    intro v1 v2 h
    unfold P_X11_bits_L4 at h
    obtain ⟨I4, ⟨n4, hI4⟩, hs4⟩ := h
    have key4 : ∀ (n : Nat), ∀ (v1 : Int32) (v2 : Int32), I4 n v1 v2 → XA g 4 [(1, .int v1), (2, .int v2)] [] σ (0, 0) := by
      intro n
      induction n using Nat.strongRecOn with
      | _ n ih4 =>
      intro v1 v2 hI
      have h := hs4 n v1 v2 hI
      clear hI hI4 hs4
      obtain ⟨K4, hK4⟩ : ∃ K : Int32 → Int32 → Prop, K = (fun v1 v2 => ∃ n', n' < n ∧ I4 n' v1 v2) := ⟨_, rfl⟩
      rw [← hK4] at h
      unfold P_X11_bits_L4b at h
      refine y_iload_n hg 1 dX11_bits_4 rfl rfl ?_
      refine y_if_le (tgt := 21) hg dX11_bits_5 (by decide) (fun q1 => ?_) (fun q1 => ?_)
      · replace h := h.1 q1
        refine y_iload_n hg 0 dX11_bits_21 rfl rfl ?_
        exact yEndI hend rfl dX11_bits_22 ⟨h, rfl⟩
      · replace h := h.2 q1
        refine y_iload_n hg 0 dX11_bits_8 rfl rfl ?_
        refine y_iload_n hg 1 dX11_bits_9 rfl rfl ?_
        refine y_iconst (v := 1) hg dX11_bits_10 (by decide) ?_
        refine y_iand hg dX11_bits_11 ?_
        refine y_iadd hg dX11_bits_12 ?_
        refine y_nmI (fun x2 e3 => ?_)
        replace h := h x2 e3
        refine y_istore_n (lv' := [(1, .int x2), (2, .int v2)]) hg dX11_bits_13 rfl (by rw [hgN]; decide) rfl ?_
        refine y_iload_n hg 1 dX11_bits_14 rfl rfl ?_
        refine y_iconst (v := 1) hg dX11_bits_15 (by decide) ?_
        refine y_ishr hg dX11_bits_16 ?_
        refine y_nmI (fun x4 e5 => ?_)
        replace h := h x4 e5
        refine y_istore_n (lv' := [(2, .int x4), (1, .int x2)]) hg dX11_bits_17 rfl (by rw [hgN]; decide) rfl ?_
        refine y_goto (tgt := 4) hg dX11_bits_18 (by decide) ?_
        refine y_sub [1, 0] rfl ?_
        subst hK4
        obtain ⟨n6, h7, h⟩ := h
        exact ih4 n6 h7 _ _ h
    exact key4 n4 v1 v2 hI4
  refine y_iconst (v := 0) hg dX11_bits_0 (by decide) ?_
  refine y_istore_n (lv' := [(1, .int 0), (0, .int v0)]) hg dX11_bits_1 rfl (by rw [hgN]; decide) rfl ?_
  refine y_iload_n hg 1 dX11_bits_2 rfl rfl ?_
  refine y_istore_n (lv' := [(2, .int v0), (1, .int 0), (0, .int v0)]) hg dX11_bits_3 rfl (by rw [hgN]; decide) rfl ?_
  refine y_sub [1, 0] rfl ?_
  exact J4 _ _ h
def P_X11_best_B197 (a0 : Nat) (v1 : Int32) (v2 : Int32) (v3 : Int32) (v4 : Int32) (v5 : Int32) (v6 : Int32) (v7 : Int64) (v9 : Int32) (σ : Sg) (Q : Int64 → Sg → Prop) (K72 : Int32 → Int64 → Int32 → Sg → Prop) : Prop :=
  ∀ x47 : Int32, x47 = v9 + 1 → K72 v6 v7 x47 σ
def P_X11_best_B189 (a0 : Nat) (v1 : Int32) (v2 : Int32) (v3 : Int32) (v4 : Int32) (v5 : Int32) (v9 : Int32) (v10 : Int64) (σ : Sg) (Q : Int64 → Sg → Prop) (K72 : Int32 → Int64 → Int32 → Sg → Prop) : Prop :=
  P_X11_best_B197 a0 v1 v2 v3 v4 v5 v9 v10 v9 σ Q K72
def P_X11_best_L72b (a0 : Nat) (v1 : Int32) (v2 : Int32) (v3 : Int32) (v4 : Int32) (v5 : Int32) (v6 : Int32) (v7 : Int64) (v9 : Int32) (σ : Sg) (Q : Int64 → Sg → Prop) (K72 : Int32 → Int64 → Int32 → Sg → Prop) : Prop :=
  sK σ a0 % 32 = 13 ∧ ((1 <<< ((sI σ a0 1) &&& 31)) ≤ v9 → (v6 = (-1) → Q (-1) σ) ∧ (¬ (v6 = (-1)) → P_X11_falls a0 v6 σ (fun _ σ18 => (v4 = 0 → Q v7 σ18) ∧ (¬ (v4 = 0) → (v4 = 1 → Q v6.toInt64 σ18) ∧ (¬ (v4 = 1) → (v4 = 2 → P_X11_bits v6 σ18 (fun x25 => Q ((x25 * v5).toInt64) σ18)) ∧ (¬ (v4 = 2) → (v4 = 3 → Q (sL σ18 a0 49) σ18) ∧ (¬ (v4 = 3) → Q ((sI σ18 a0 52).toInt64) σ18))))))) ∧ (¬ ((1 <<< ((sI σ a0 1) &&& 31)) ≤ v9) → P_X11_bits v9 σ (fun x26 => (v1 < x26 → P_X11_best_B197 a0 v1 v2 v3 v4 v5 v6 v7 v9 σ Q K72) ∧ (¬ (v1 < x26) → P_X11_bits v9 σ (fun x28 => (v2 < (x28 * v5) → P_X11_best_B197 a0 v1 v2 v3 v4 v5 v6 v7 v9 σ Q K72) ∧ (¬ (v2 < (x28 * v5)) → P_X11_isNew a0 v9 σ (fun x30 => (x30 = 0 → P_X11_best_B197 a0 v1 v2 v3 v4 v5 v6 v7 v9 σ Q K72) ∧ (¬ (x30 = 0) → P_X11_parked a0 v9 σ (fun x32 => P_X11_now a0 4 σ (fun x33 => (x32 ≤ x33 → P_X11_falls a0 v9 σ (fun _ σ36 => ∀ x39 : Int64, x39 = (v3.toInt64 * ((sI σ36 a0 52).toInt64)) + (sL σ36 a0 49) → (v6 = (-1) → P_X11_best_B189 a0 v1 v2 v3 v4 v5 v9 x39 σ36 Q K72) ∧ (¬ (v6 = (-1)) → (v7 < x39 → P_X11_best_B197 a0 v1 v2 v3 v4 v5 v6 v7 v9 σ36 Q K72) ∧ (¬ (v7 < x39) → (x39 = v7 → P_X11_bits v9 σ36 (fun x44 => P_X11_bits v6 σ36 (fun x45 => (x44 < x45 → P_X11_best_B189 a0 v1 v2 v3 v4 v5 v9 x39 σ36 Q K72) ∧ (¬ (x44 < x45) → P_X11_best_B197 a0 v1 v2 v3 v4 v5 v6 v7 v9 σ36 Q K72)))) ∧ (¬ (x39 = v7) → P_X11_best_B189 a0 v1 v2 v3 v4 v5 v9 x39 σ36 Q K72))))) ∧ (¬ (x32 ≤ x33) → P_X11_best_B197 a0 v1 v2 v3 v4 v5 v6 v7 v9 σ Q K72))))))))))
def P_X11_best_L72 (a0 : Nat) (v1 : Int32) (v2 : Int32) (v3 : Int32) (v4 : Int32) (v5 : Int32) (v6 : Int32) (v7 : Int64) (v9 : Int32) (σ : Sg) (Q : Int64 → Sg → Prop) : Prop :=
  ∃ I : Nat → Int32 → Int64 → Int32 → Sg → Prop, (∃ n, I n v6 v7 v9 σ) ∧ ∀ (n : Nat) (v6 : Int32) (v7 : Int64) (v9 : Int32) (σ : Sg), I n v6 v7 v9 σ → P_X11_best_L72b a0 v1 v2 v3 v4 v5 v6 v7 v9 σ Q (fun v6 v7 v9 σ => ∃ n', n' < n ∧ I n' v6 v7 v9 σ)
def P_X11_best (a0 : Nat) (v1 : Int32) (v2 : Int32) (v3 : Int32) (v4 : Int32) (σ : Sg) (Q : Int64 → Sg → Prop) : Prop :=
  P_X11_isIn v1 0 4 σ (fun x1 => (x1 = 0 → Q (-1) σ) ∧ (¬ (x1 = 0) → P_X11_isIn v2 0 99999 σ (fun x3 => (x3 = 0 → Q (-1) σ) ∧ (¬ (x3 = 0) → P_X11_isIn v3 0 10000 σ (fun x5 => (x5 = 0 → Q (-1) σ) ∧ (¬ (x5 = 0) → P_X11_isIn v4 0 4 σ (fun x7 => (x7 = 0 → Q (-1) σ) ∧ (¬ (x7 = 0) → sK σ a0 % 32 = 13 ∧ P_X11_now a0 10 σ (fun x10 => P_X11_now a0 11 σ (fun x11 => ∀ x12 : Int32, x12 = x10 + (100 * x11) → P_X11_best_L72 a0 v1 v2 v3 v4 x12 (-1) 0 0 σ Q))))))))))
set_option maxHeartbeats 4000000 in
set_option maxRecDepth 100000 in
theorem k_X11_best (l : Launch) (D : Dg) (a0 : Nat) (v1 : Int32) (v2 : Int32) (v3 : Int32) (v4 : Int32) (σ : Sg) (Q : Int64 → Sg → Prop) (h : P_X11_best a0 v1 v2 v3 v4 σ Q) : CtrY RN l D yX11_best cX11_best 12 (some FieldType.long) 4 113 mkL [.ref a0, .int v1, .int v2, .int v3, .int v4] σ (0, 0) Q := by
  refine y_ctrN (lv := [(0, va_rf (some a0)), (1, .int v1), (2, .int v2), (3, .int v3), (4, .int v4)]) (by decide) (by (exact Nat.le_of_ble_eq_true rfl)) (by (exact rfl)) (fun g hg hgL hgD hrm hgN hgI hend => ?_)
  subst hgD
  clear hgL
  unfold P_X11_best at h
  have J72 : ∀ (v1 : Int32) (v2 : Int32) (v3 : Int32) (v4 : Int32) (v5 : Int32) (v6 : Int32) (v7 : Int64) (v9 : Int32) (σ : Sg), P_X11_best_L72 a0 v1 v2 v3 v4 v5 v6 v7 v9 σ Q → XA g 72 [(0, va_rf (some a0)), (1, .int v1), (2, .int v2), (3, .int v3), (4, .int v4), (5, .int v5), (6, .int v6), (7, .long v7), (9, .int v9)] [] σ (0, 0) := by
    intro v1 v2 v3 v4 v5 v6 v7 v9 σ h
    unfold P_X11_best_L72 at h
    obtain ⟨I72, ⟨n72, hI72⟩, hs72⟩ := h
    have key72 : ∀ (n : Nat), ∀ (v6 : Int32) (v7 : Int64) (v9 : Int32) (σ : Sg), I72 n v6 v7 v9 σ → XA g 72 [(0, va_rf (some a0)), (1, .int v1), (2, .int v2), (3, .int v3), (4, .int v4), (5, .int v5), (6, .int v6), (7, .long v7), (9, .int v9)] [] σ (0, 0) := by
      intro n
      induction n using Nat.strongRecOn with
      | _ n ih72 =>
      intro v6 v7 v9 σ hI
      have h := hs72 n v6 v7 v9 σ hI
      clear hI hI72 hs72
      obtain ⟨K72, hK72⟩ : ∃ K : Int32 → Int64 → Int32 → Sg → Prop, K = (fun v6 v7 v9 σ => ∃ n', n' < n ∧ I72 n' v6 v7 v9 σ) := ⟨_, rfl⟩
      rw [← hK72] at h
      unfold P_X11_best_L72b at h
      have J197 : ∀ (v6 : Int32) (v7 : Int64) (v9 : Int32) (σ : Sg), P_X11_best_B197 a0 v1 v2 v3 v4 v5 v6 v7 v9 σ Q K72 → XA g 197 [(0, va_rf (some a0)), (1, .int v1), (2, .int v2), (3, .int v3), (4, .int v4), (5, .int v5), (6, .int v6), (7, .long v7), (9, .int v9)] [] σ (0, 0) := by
        intro v6 v7 v9 σ h
        unfold P_X11_best_B197 at h
        obtain ⟨x47, e48⟩ : ∃ y : Int32, y = v9 + 1 := ⟨_, rfl⟩
        replace h := h x47 e48
        refine y_iinc (v := x47) (lv' := [(9, .int x47), (0, va_rf (some a0)), (1, .int v1), (2, .int v2), (3, .int v3), (4, .int v4), (5, .int v5), (6, .int v6), (7, .long v7)]) hg 8 dX11_best_197 rfl (by rw [e48]; rfl) (by rw [hgN]; decide) rfl ?_
        refine y_goto (tgt := 72) hg dX11_best_200 (by decide) ?_
        refine y_sub [1, 2, 3, 4, 5, 6, 7, 8, 0] rfl ?_
        subst hK72
        obtain ⟨n49, h50, h⟩ := h
        exact ih72 n49 h50 _ _ _ _ h
      have J189 : ∀ (v9 : Int32) (v10 : Int64) (σ : Sg), P_X11_best_B189 a0 v1 v2 v3 v4 v5 v9 v10 σ Q K72 → XA g 189 [(0, va_rf (some a0)), (1, .int v1), (2, .int v2), (3, .int v3), (4, .int v4), (5, .int v5), (9, .int v9), (10, .long v10)] [] σ (0, 0) := by
        intro v9 v10 σ h
        unfold P_X11_best_B189 at h
        refine y_iload hg 6 dX11_best_189 rfl ?_
        refine y_istore (lv' := [(6, .int v9), (0, va_rf (some a0)), (1, .int v1), (2, .int v2), (3, .int v3), (4, .int v4), (5, .int v5), (9, .int v9), (10, .long v10)]) hg dX11_best_191 (by rw [hgN]; decide) rfl ?_
        refine y_lload hg 8 dX11_best_193 rfl ?_
        refine y_lstore (lv' := [(7, .long v10), (6, .int v9), (0, va_rf (some a0)), (1, .int v1), (2, .int v2), (3, .int v3), (4, .int v4), (5, .int v5), (9, .int v9), (10, .long v10)]) hg dX11_best_195 (by rw [hgN]; decide) rfl ?_
        refine y_sub [2, 3, 4, 5, 6, 7, 1, 0, 8] rfl ?_
        exact J197 _ _ _ _ h
      refine y_iload hg 8 dX11_best_72 rfl ?_
      refine y_iconst (v := 1) hg dX11_best_74 (by decide) ?_
      refine y_aload_n hg 0 dX11_best_75 rfl rfl ?_
      obtain ⟨h14, h⟩ := h
      refine y_getI hg fl_X11_191 rfl rfl h14 dX11_best_76 ?_
      refine y_ishl hg dX11_best_79 ?_
      refine y_icmp_ge (tgt := 203) hg dX11_best_80 (by decide) (fun q15 => ?_) (fun q15 => ?_)
      · replace h := h.1 q15
        refine y_iload hg 6 dX11_best_203 rfl ?_
        refine y_iconst (v := (-1)) hg dX11_best_205 (by decide) ?_
        refine y_icmp_ne (tgt := 213) hg dX11_best_206 (by decide) (fun q16 => ?_) (fun q16 => ?_)
        · replace h := h.2 q16
          refine y_aload_n hg 0 dX11_best_213 rfl rfl ?_
          refine y_iload hg 6 dX11_best_214 rfl ?_
          refine yVVW (Qm := _) (rest := []) (As := [.int v6]) hg (k_X11_falls (gL g.1) (gD g.1) a0 v6 σ _ h) lv_X11_298 rfl h14 rfl rfl dX11_best_216 (cat8 (Nat.le_of_ble_eq_true rfl)) hrm ⟨Nat.le_of_ble_eq_true rfl, Nat.le_of_ble_eq_true rfl⟩ (fun u17 σ18 h h19 => ?_)
          have h20 := kp h19 (show ¬ 13 = 0 by decide) h14
          refine y_iload hg 4 dX11_best_219 rfl ?_
          refine y_if_ne (tgt := 229) hg dX11_best_221 (by decide) (fun q21 => ?_) (fun q21 => ?_)
          · replace h := h.2 q21
            refine y_iload hg 4 dX11_best_229 rfl ?_
            refine y_iconst (v := 1) hg dX11_best_231 (by decide) ?_
            refine y_icmp_ne (tgt := 241) hg dX11_best_232 (by decide) (fun q22 => ?_) (fun q22 => ?_)
            · replace h := h.2 q22
              refine y_iload hg 4 dX11_best_241 rfl ?_
              refine y_iconst (v := 2) hg dX11_best_243 (by decide) ?_
              refine y_icmp_ne (tgt := 259) hg dX11_best_244 (by decide) (fun q23 => ?_) (fun q23 => ?_)
              · replace h := h.2 q23
                refine y_iload hg 4 dX11_best_259 rfl ?_
                refine y_iconst (v := 3) hg dX11_best_261 (by decide) ?_
                refine y_icmp_ne (tgt := 272) hg dX11_best_262 (by decide) (fun q24 => ?_) (fun q24 => ?_)
                · replace h := h.2 q24
                  refine y_aload_n hg 0 dX11_best_272 rfl rfl ?_
                  refine y_getI hg fl_X11_275 rfl rfl h20 dX11_best_273 ?_
                  refine y_i2l hg dX11_best_276 ?_
                  exact yEndL hend dX11_best_277 h
                · replace h := h.1 q24
                  refine y_aload_n hg 0 dX11_best_265 rfl rfl ?_
                  refine y_getL hg fl_X11_266 rfl rfl h20 dX11_best_266 ?_
                  refine y_goto (tgt := 277) hg dX11_best_269 (by decide) ?_
                  exact yEndL hend dX11_best_277 h
              · replace h := h.1 q23
                refine y_iload hg 6 dX11_best_247 rfl ?_
                refine ySIP (Qp := _) (rest := []) (As := [.int v6]) hg (k_X11_bits (gL g.1) (gD g.1) v6 σ18 _ h) ls_X11_316 rfl rfl dX11_best_249 (cat8 (Nat.le_of_ble_eq_true rfl)) hrm ⟨Nat.le_of_ble_eq_true rfl, Nat.le_of_ble_eq_true rfl⟩ (fun x25 h => ?_)
                refine y_iload hg 5 dX11_best_252 rfl ?_
                refine y_imul hg dX11_best_254 ?_
                refine y_i2l hg dX11_best_255 ?_
                refine y_goto (tgt := 277) hg dX11_best_256 (by decide) ?_
                exact yEndL hend dX11_best_277 h
            · replace h := h.1 q22
              refine y_iload hg 6 dX11_best_235 rfl ?_
              refine y_i2l hg dX11_best_237 ?_
              refine y_goto (tgt := 277) hg dX11_best_238 (by decide) ?_
              exact yEndL hend dX11_best_277 h
          · replace h := h.1 q21
            refine y_lload hg 7 dX11_best_224 rfl ?_
            refine y_goto (tgt := 277) hg dX11_best_226 (by decide) ?_
            exact yEndL hend dX11_best_277 h
        · replace h := h.1 q16
          refine y_ldc2 hg cw_X11_313 dX11_best_209 ?_
          exact yEndL hend dX11_best_212 h
      · replace h := h.2 q15
        refine y_iload hg 8 dX11_best_83 rfl ?_
        refine ySIP (Qp := _) (rest := []) (As := [.int v9]) hg (k_X11_bits (gL g.1) (gD g.1) v9 σ _ h) ls_X11_316 rfl rfl dX11_best_85 (cat8 (Nat.le_of_ble_eq_true rfl)) hrm ⟨Nat.le_of_ble_eq_true rfl, Nat.le_of_ble_eq_true rfl⟩ (fun x26 h => ?_)
        refine y_iload_n hg 1 dX11_best_88 rfl rfl ?_
        refine y_icmp_gt (tgt := 197) hg dX11_best_89 (by decide) (fun q27 => ?_) (fun q27 => ?_)
        · replace h := h.1 q27
          refine y_sub [0, 1, 2, 3, 4, 5, 6, 7, 8] rfl ?_
          exact J197 _ _ _ _ h
        · replace h := h.2 q27
          refine y_iload hg 8 dX11_best_92 rfl ?_
          refine ySIP (Qp := _) (rest := []) (As := [.int v9]) hg (k_X11_bits (gL g.1) (gD g.1) v9 σ _ h) ls_X11_316 rfl rfl dX11_best_94 (cat8 (Nat.le_of_ble_eq_true rfl)) hrm ⟨Nat.le_of_ble_eq_true rfl, Nat.le_of_ble_eq_true rfl⟩ (fun x28 h => ?_)
          refine y_iload hg 5 dX11_best_97 rfl ?_
          refine y_imul hg dX11_best_99 ?_
          refine y_iload_n hg 2 dX11_best_100 rfl rfl ?_
          refine y_icmp_gt (tgt := 197) hg dX11_best_101 (by decide) (fun q29 => ?_) (fun q29 => ?_)
          · replace h := h.1 q29
            refine y_sub [0, 1, 2, 3, 4, 5, 6, 7, 8] rfl ?_
            exact J197 _ _ _ _ h
          · replace h := h.2 q29
            refine y_aload_n hg 0 dX11_best_104 rfl rfl ?_
            refine y_iload hg 8 dX11_best_105 rfl ?_
            refine yVIP (Qp := _) (rest := []) (As := [.int v9]) hg (k_X11_isNew (gL g.1) (gD g.1) a0 v9 σ _ h) lv_X11_310 rfl h14 rfl rfl dX11_best_107 (cat8 (Nat.le_of_ble_eq_true rfl)) hrm ⟨Nat.le_of_ble_eq_true rfl, Nat.le_of_ble_eq_true rfl⟩ (fun x30 h => ?_)
            refine y_if_eq (tgt := 197) hg dX11_best_110 (by decide) (fun q31 => ?_) (fun q31 => ?_)
            · replace h := h.1 q31
              refine y_sub [0, 1, 2, 3, 4, 5, 6, 7, 8] rfl ?_
              exact J197 _ _ _ _ h
            · replace h := h.2 q31
              refine y_aload_n hg 0 dX11_best_113 rfl rfl ?_
              refine y_iload hg 8 dX11_best_114 rfl ?_
              refine yVIP (Qp := _) (rest := []) (As := [.int v9]) hg (k_X11_parked (gL g.1) (gD g.1) a0 v9 σ _ h) lv_X11_205 rfl h14 rfl rfl dX11_best_116 (cat8 (Nat.le_of_ble_eq_true rfl)) hrm ⟨Nat.le_of_ble_eq_true rfl, Nat.le_of_ble_eq_true rfl⟩ (fun x32 h => ?_)
              refine y_aload_n hg 0 dX11_best_119 rfl rfl ?_
              refine y_iconst (v := 4) hg dX11_best_120 (by decide) ?_
              refine yVIP (Qp := _) (rest := [.int x32]) (As := [.int 4]) hg (k_X11_now (gL g.1) (gD g.1) a0 4 σ _ h) lv_X11_209 rfl h14 rfl rfl dX11_best_121 (cat8 (Nat.le_of_ble_eq_true rfl)) hrm ⟨Nat.le_of_ble_eq_true rfl, Nat.le_of_ble_eq_true rfl⟩ (fun x33 h => ?_)
              refine y_icmp_le (tgt := 130) hg dX11_best_124 (by decide) (fun q34 => ?_) (fun q34 => ?_)
              · replace h := h.1 q34
                refine y_aload_n hg 0 dX11_best_130 rfl rfl ?_
                refine y_iload hg 8 dX11_best_131 rfl ?_
                refine yVVW (Qm := _) (rest := []) (As := [.int v9]) hg (k_X11_falls (gL g.1) (gD g.1) a0 v9 σ _ h) lv_X11_298 rfl h14 rfl rfl dX11_best_133 (cat8 (Nat.le_of_ble_eq_true rfl)) hrm ⟨Nat.le_of_ble_eq_true rfl, Nat.le_of_ble_eq_true rfl⟩ (fun u35 σ36 h h37 => ?_)
                have h38 := kp h37 (show ¬ 13 = 0 by decide) h14
                refine y_iload_n hg 3 dX11_best_136 rfl rfl ?_
                refine y_i2l hg dX11_best_137 ?_
                refine y_aload_n hg 0 dX11_best_138 rfl rfl ?_
                refine y_getI hg fl_X11_275 rfl rfl h38 dX11_best_139 ?_
                refine y_i2l hg dX11_best_142 ?_
                refine y_lmul hg dX11_best_143 ?_
                refine y_aload_n hg 0 dX11_best_144 rfl rfl ?_
                refine y_getL hg fl_X11_266 rfl rfl h38 dX11_best_145 ?_
                refine y_ladd hg dX11_best_148 ?_
                refine y_nmJ (fun x39 e40 => ?_)
                replace h := h x39 e40
                refine y_lstore (lv' := [(10, .long x39), (0, va_rf (some a0)), (1, .int v1), (2, .int v2), (3, .int v3), (4, .int v4), (5, .int v5), (6, .int v6), (7, .long v7), (9, .int v9)]) hg dX11_best_149 (by rw [hgN]; decide) rfl ?_
                refine y_iload hg 7 dX11_best_151 rfl ?_
                refine y_iconst (v := (-1)) hg dX11_best_153 (by decide) ?_
                refine y_icmp_eq (tgt := 189) hg dX11_best_154 (by decide) (fun q41 => ?_) (fun q41 => ?_)
                · replace h := h.1 q41
                  refine y_sub [1, 2, 3, 4, 5, 6, 9, 0] rfl ?_
                  exact J189 _ _ _ h
                · replace h := h.2 q41
                  refine y_lload hg 0 dX11_best_157 rfl ?_
                  refine y_lload hg 8 dX11_best_159 rfl ?_
                  refine y_lcmp hg dX11_best_161 ?_
                  refine y_if_gt (tgt := 197) hg dX11_best_162 (by decide) (fun q42 => ?_) (fun q42 => ?_)
                  · replace h := h.1 ((lg_cmp_gt _ _).mp q42)
                    refine y_sub [1, 2, 3, 4, 5, 6, 7, 8, 9] rfl ?_
                    exact J197 _ _ _ _ h
                  · replace h := h.2 (fun z => q42 ((lg_cmp_gt _ _).mpr z))
                    refine y_lload hg 0 dX11_best_165 rfl ?_
                    refine y_lload hg 8 dX11_best_167 rfl ?_
                    refine y_lcmp hg dX11_best_169 ?_
                    refine y_if_ne (tgt := 189) hg dX11_best_170 (by decide) (fun q43 => ?_) (fun q43 => ?_)
                    · replace h := h.2 (fun z => q43 ((lg_cmp_eq _ _).mpr z))
                      refine y_sub [1, 2, 3, 4, 5, 6, 9, 0] rfl ?_
                      exact J189 _ _ _ h
                    · replace h := h.1 ((lg_cmp_eq _ _).mp q43)
                      refine y_iload hg 9 dX11_best_173 rfl ?_
                      refine ySIP (Qp := _) (rest := []) (As := [.int v9]) hg (k_X11_bits (gL g.1) (gD g.1) v9 σ36 _ h) ls_X11_316 rfl rfl dX11_best_175 (cat8 (Nat.le_of_ble_eq_true rfl)) hrm ⟨Nat.le_of_ble_eq_true rfl, Nat.le_of_ble_eq_true rfl⟩ (fun x44 h => ?_)
                      refine y_iload hg 7 dX11_best_178 rfl ?_
                      refine ySIP (Qp := _) (rest := [.int x44]) (As := [.int v6]) hg (k_X11_bits (gL g.1) (gD g.1) v6 σ36 _ h) ls_X11_316 rfl rfl dX11_best_180 (cat8 (Nat.le_of_ble_eq_true rfl)) hrm ⟨Nat.le_of_ble_eq_true rfl, Nat.le_of_ble_eq_true rfl⟩ (fun x45 h => ?_)
                      refine y_icmp_lt (tgt := 189) hg dX11_best_183 (by decide) (fun q46 => ?_) (fun q46 => ?_)
                      · replace h := h.1 q46
                        refine y_sub [1, 2, 3, 4, 5, 6, 9, 0] rfl ?_
                        exact J189 _ _ _ h
                      · replace h := h.2 q46
                        refine y_goto (tgt := 197) hg dX11_best_186 (by decide) ?_
                        refine y_sub [1, 2, 3, 4, 5, 6, 7, 8, 9] rfl ?_
                        exact J197 _ _ _ _ h
              · replace h := h.2 q34
                refine y_goto (tgt := 197) hg dX11_best_127 (by decide) ?_
                refine y_sub [0, 1, 2, 3, 4, 5, 6, 7, 8] rfl ?_
                exact J197 _ _ _ _ h
    exact key72 n72 v6 v7 v9 σ hI72
  refine y_iload_n hg 1 dX11_best_0 rfl rfl ?_
  refine y_iconst (v := 0) hg dX11_best_1 (by decide) ?_
  refine y_iconst (v := 4) hg dX11_best_2 (by decide) ?_
  refine ySIP (Qp := _) (rest := []) (As := [.int v1, .int 0, .int 4]) hg (k_X11_isIn (gL g.1) (gD g.1) v1 0 4 σ _ h) ls_X11_194 rfl rfl dX11_best_3 (cat8 (Nat.le_of_ble_eq_true rfl)) hrm ⟨Nat.le_of_ble_eq_true rfl, Nat.le_of_ble_eq_true rfl⟩ (fun x1 h => ?_)
  refine y_if_eq (tgt := 41) hg dX11_best_6 (by decide) (fun q2 => ?_) (fun q2 => ?_)
  · replace h := h.1 q2
    refine y_ldc2 hg cw_X11_313 dX11_best_41 ?_
    exact yEndL hend dX11_best_44 h
  · replace h := h.2 q2
    refine y_iload_n hg 2 dX11_best_9 rfl rfl ?_
    refine y_iconst (v := 0) hg dX11_best_10 (by decide) ?_
    refine y_ldcw hg cw_X11_315 dX11_best_11 ?_
    refine ySIP (Qp := _) (rest := []) (As := [.int v2, .int 0, .int 99999]) hg (k_X11_isIn (gL g.1) (gD g.1) v2 0 99999 σ _ h) ls_X11_194 rfl rfl dX11_best_14 (cat8 (Nat.le_of_ble_eq_true rfl)) hrm ⟨Nat.le_of_ble_eq_true rfl, Nat.le_of_ble_eq_true rfl⟩ (fun x3 h => ?_)
    refine y_if_eq (tgt := 41) hg dX11_best_17 (by decide) (fun q4 => ?_) (fun q4 => ?_)
    · replace h := h.1 q4
      refine y_ldc2 hg cw_X11_313 dX11_best_41 ?_
      exact yEndL hend dX11_best_44 h
    · replace h := h.2 q4
      refine y_iload_n hg 3 dX11_best_20 rfl rfl ?_
      refine y_iconst (v := 0) hg dX11_best_21 (by decide) ?_
      refine y_sipush (v := 10000) hg dX11_best_22 (by decide) ?_
      refine ySIP (Qp := _) (rest := []) (As := [.int v3, .int 0, .int 10000]) hg (k_X11_isIn (gL g.1) (gD g.1) v3 0 10000 σ _ h) ls_X11_194 rfl rfl dX11_best_25 (cat8 (Nat.le_of_ble_eq_true rfl)) hrm ⟨Nat.le_of_ble_eq_true rfl, Nat.le_of_ble_eq_true rfl⟩ (fun x5 h => ?_)
      refine y_if_eq (tgt := 41) hg dX11_best_28 (by decide) (fun q6 => ?_) (fun q6 => ?_)
      · replace h := h.1 q6
        refine y_ldc2 hg cw_X11_313 dX11_best_41 ?_
        exact yEndL hend dX11_best_44 h
      · replace h := h.2 q6
        refine y_iload hg 4 dX11_best_31 rfl ?_
        refine y_iconst (v := 0) hg dX11_best_33 (by decide) ?_
        refine y_iconst (v := 4) hg dX11_best_34 (by decide) ?_
        refine ySIP (Qp := _) (rest := []) (As := [.int v4, .int 0, .int 4]) hg (k_X11_isIn (gL g.1) (gD g.1) v4 0 4 σ _ h) ls_X11_194 rfl rfl dX11_best_35 (cat8 (Nat.le_of_ble_eq_true rfl)) hrm ⟨Nat.le_of_ble_eq_true rfl, Nat.le_of_ble_eq_true rfl⟩ (fun x7 h => ?_)
        refine y_if_ne (tgt := 45) hg dX11_best_38 (by decide) (fun q8 => ?_) (fun q8 => ?_)
        · replace h := h.2 q8
          refine y_aload_n hg 0 dX11_best_45 rfl rfl ?_
          refine y_bipush (v := 10) hg dX11_best_46 (by decide) ?_
          obtain ⟨h9, h⟩ := h
          refine yVIP (Qp := _) (rest := []) (As := [.int 10]) hg (k_X11_now (gL g.1) (gD g.1) a0 10 σ _ h) lv_X11_209 rfl h9 rfl rfl dX11_best_48 (cat8 (Nat.le_of_ble_eq_true rfl)) hrm ⟨Nat.le_of_ble_eq_true rfl, Nat.le_of_ble_eq_true rfl⟩ (fun x10 h => ?_)
          refine y_bipush (v := 100) hg dX11_best_51 (by decide) ?_
          refine y_aload_n hg 0 dX11_best_53 rfl rfl ?_
          refine y_bipush (v := 11) hg dX11_best_54 (by decide) ?_
          refine yVIP (Qp := _) (rest := [.int 100, .int x10]) (As := [.int 11]) hg (k_X11_now (gL g.1) (gD g.1) a0 11 σ _ h) lv_X11_209 rfl h9 rfl rfl dX11_best_56 (cat8 (Nat.le_of_ble_eq_true rfl)) hrm ⟨Nat.le_of_ble_eq_true rfl, Nat.le_of_ble_eq_true rfl⟩ (fun x11 h => ?_)
          refine y_imul hg dX11_best_59 ?_
          refine y_iadd hg dX11_best_60 ?_
          refine y_nmI (fun x12 e13 => ?_)
          replace h := h x12 e13
          refine y_istore (lv' := [(5, .int x12), (0, va_rf (some a0)), (1, .int v1), (2, .int v2), (3, .int v3), (4, .int v4)]) hg dX11_best_61 (by rw [hgN]; decide) rfl ?_
          refine y_iconst (v := (-1)) hg dX11_best_63 (by decide) ?_
          refine y_istore (lv' := [(6, .int (-1)), (5, .int x12), (0, va_rf (some a0)), (1, .int v1), (2, .int v2), (3, .int v3), (4, .int v4)]) hg dX11_best_64 (by rw [hgN]; decide) rfl ?_
          refine y_lconst (v := 0) hg dX11_best_66 (by decide) ?_
          refine y_lstore (lv' := [(7, .long 0), (6, .int (-1)), (5, .int x12), (0, va_rf (some a0)), (1, .int v1), (2, .int v2), (3, .int v3), (4, .int v4)]) hg dX11_best_67 (by rw [hgN]; decide) rfl ?_
          refine y_iconst (v := 0) hg dX11_best_69 (by decide) ?_
          refine y_istore (lv' := [(9, .int 0), (7, .long 0), (6, .int (-1)), (5, .int x12), (0, va_rf (some a0)), (1, .int v1), (2, .int v2), (3, .int v3), (4, .int v4)]) hg dX11_best_70 (by rw [hgN]; decide) rfl ?_
          refine y_sub [4, 5, 6, 7, 8, 3, 2, 1, 0] rfl ?_
          exact J72 _ _ _ _ _ _ _ _ _ h
        · replace h := h.1 q8
          refine y_ldc2 hg cw_X11_313 dX11_best_41 ?_
          exact yEndL hend dX11_best_44 h
def P_X11_helps (a0 : Nat) (v1 : Int32) (v2 : Int32) (σ : Sg) (Q : Int64 → Sg → Prop) : Prop :=
  sK σ a0 % 32 = 13 ∧ P_X11_isCorner a0 v1 σ (fun x2 => (x2 = 0 → Q (-1) σ) ∧ (¬ (x2 = 0) → ∃ c4 : Nat, sR σ a0 12 = some c4 ∧ sK σ c4 % 32 = 18 ∧ vp_in v1 (sN σ c4) ∧ ((sI σ c4 v1.toNatClampNeg) = 0 → P_X11_isCorner a0 v2 σ (fun x9 => (x9 = 0 → Q (-1) σ) ∧ (¬ (x9 = 0) → P_X11_falls a0 0 σ (fun _ σ12 => ∃ c15 : Nat, sR σ12 a0 44 = some c15 ∧ sK σ12 c15 % 32 = 17 ∧ vp_in v2 (sN σ12 c15) ∧ ∀ x19 : Int64, x19 = sL σ12 c15 v2.toNatClampNeg → P_X11_falls a0 (1 <<< (v1 &&& 31)) σ12 (fun _ σ22 => ∃ c25 : Nat, sR σ22 a0 44 = some c25 ∧ sK σ22 c25 % 32 = 17 ∧ vp_in v2 (sN σ22 c25) ∧ Q (x19 - (sL σ22 c25 v2.toNatClampNeg)) σ22))))) ∧ (¬ ((sI σ c4 v1.toNatClampNeg) = 0) → Q (-1) σ)))
set_option maxHeartbeats 4000000 in
set_option maxRecDepth 100000 in
theorem k_X11_helps (l : Launch) (D : Dg) (a0 : Nat) (v1 : Int32) (v2 : Int32) (σ : Sg) (Q : Int64 → Sg → Prop) (h : P_X11_helps a0 v1 v2 σ Q) : CtrY RN l D yX11_helps cX11_helps 5 (some FieldType.long) 4 113 mkL [.ref a0, .int v1, .int v2] σ (0, 0) Q := by
  refine y_ctrN (lv := [(0, va_rf (some a0)), (1, .int v1), (2, .int v2)]) (by decide) (by (exact Nat.le_of_ble_eq_true rfl)) (by (exact rfl)) (fun g hg hgL hgD hrm hgN hgI hend => ?_)
  subst hgD
  clear hgL
  unfold P_X11_helps at h
  refine y_aload_n hg 0 dX11_helps_0 rfl rfl ?_
  refine y_iload_n hg 1 dX11_helps_1 rfl rfl ?_
  obtain ⟨h1, h⟩ := h
  refine yVIP (Qp := _) (rest := []) (As := [.int v1]) hg (k_X11_isCorner (gL g.1) (gD g.1) a0 v1 σ _ h) lv_X11_198 rfl h1 rfl rfl dX11_helps_2 (cat8 (Nat.le_of_ble_eq_true rfl)) hrm ⟨Nat.le_of_ble_eq_true rfl, Nat.le_of_ble_eq_true rfl⟩ (fun x2 h => ?_)
  refine y_if_eq (tgt := 25) hg dX11_helps_5 (by decide) (fun q3 => ?_) (fun q3 => ?_)
  · replace h := h.1 q3
    refine y_ldc2 hg cw_X11_313 dX11_helps_25 ?_
    exact yEndL hend dX11_helps_28 h
  · replace h := h.2 q3
    refine y_aload_n hg 0 dX11_helps_8 rfl rfl ?_
    refine y_getR hg fl_X11_25 rfl rfl h1 dX11_helps_9 ?_
    refine y_iload_n hg 1 dX11_helps_12 rfl rfl ?_
    obtain ⟨c4, h5, h⟩ := h
    obtain ⟨h6, h⟩ := h
    obtain ⟨h7, h⟩ := h
    refine y_zald hg h5 h6 h7 dX11_helps_13 ?_
    refine y_if_ne (tgt := 25) hg dX11_helps_14 (by decide) (fun q8 => ?_) (fun q8 => ?_)
    · replace h := h.2 q8
      refine y_ldc2 hg cw_X11_313 dX11_helps_25 ?_
      exact yEndL hend dX11_helps_28 h
    · replace h := h.1 q8
      refine y_aload_n hg 0 dX11_helps_17 rfl rfl ?_
      refine y_iload_n hg 2 dX11_helps_18 rfl rfl ?_
      refine yVIP (Qp := _) (rest := []) (As := [.int v2]) hg (k_X11_isCorner (gL g.1) (gD g.1) a0 v2 σ _ h) lv_X11_198 rfl h1 rfl rfl dX11_helps_19 (cat8 (Nat.le_of_ble_eq_true rfl)) hrm ⟨Nat.le_of_ble_eq_true rfl, Nat.le_of_ble_eq_true rfl⟩ (fun x9 h => ?_)
      refine y_if_ne (tgt := 29) hg dX11_helps_22 (by decide) (fun q10 => ?_) (fun q10 => ?_)
      · replace h := h.2 q10
        refine y_aload_n hg 0 dX11_helps_29 rfl rfl ?_
        refine y_iconst (v := 0) hg dX11_helps_30 (by decide) ?_
        refine yVVW (Qm := _) (rest := []) (As := [.int 0]) hg (k_X11_falls (gL g.1) (gD g.1) a0 0 σ _ h) lv_X11_298 rfl h1 rfl rfl dX11_helps_31 (cat8 (Nat.le_of_ble_eq_true rfl)) hrm ⟨Nat.le_of_ble_eq_true rfl, Nat.le_of_ble_eq_true rfl⟩ (fun u11 σ12 h h13 => ?_)
        have h14 := kp h13 (show ¬ 13 = 0 by decide) h1
        refine y_aload_n hg 0 dX11_helps_34 rfl rfl ?_
        refine y_getR hg fl_X11_108 rfl rfl h14 dX11_helps_35 ?_
        refine y_iload_n hg 2 dX11_helps_38 rfl rfl ?_
        obtain ⟨c15, h16, h⟩ := h
        obtain ⟨h17, h⟩ := h
        obtain ⟨h18, h⟩ := h
        refine y_lald hg h16 h17 h18 dX11_helps_39 ?_
        refine y_nmJ (fun x19 e20 => ?_)
        replace h := h x19 e20
        refine y_lstore_n (lv' := [(3, .long x19), (0, va_rf (some a0)), (1, .int v1), (2, .int v2)]) hg dX11_helps_40 rfl (by rw [hgN]; decide) rfl ?_
        refine y_aload_n hg 1 dX11_helps_41 rfl rfl ?_
        refine y_iconst (v := 1) hg dX11_helps_42 (by decide) ?_
        refine y_iload_n hg 2 dX11_helps_43 rfl rfl ?_
        refine y_ishl hg dX11_helps_44 ?_
        refine yVVW (Qm := _) (rest := []) (As := [.int (1 <<< (v1 &&& 31))]) hg (k_X11_falls (gL g.1) (gD g.1) a0 (1 <<< (v1 &&& 31)) σ12 _ h) lv_X11_298 rfl h14 rfl rfl dX11_helps_45 (cat8 (Nat.le_of_ble_eq_true rfl)) hrm ⟨Nat.le_of_ble_eq_true rfl, Nat.le_of_ble_eq_true rfl⟩ (fun u21 σ22 h h23 => ?_)
        have h24 := kp h23 (show ¬ 13 = 0 by decide) h14
        refine y_lload_n hg 0 dX11_helps_48 rfl rfl ?_
        refine y_aload_n hg 1 dX11_helps_49 rfl rfl ?_
        refine y_getR hg fl_X11_108 rfl rfl h24 dX11_helps_50 ?_
        refine y_iload_n hg 3 dX11_helps_53 rfl rfl ?_
        obtain ⟨c25, h26, h⟩ := h
        obtain ⟨h27, h⟩ := h
        obtain ⟨h28, h⟩ := h
        refine y_lald hg h26 h27 h28 dX11_helps_54 ?_
        refine y_lsub hg dX11_helps_55 ?_
        exact yEndL hend dX11_helps_56 h
      · replace h := h.1 q10
        refine y_ldc2 hg cw_X11_313 dX11_helps_25 ?_
        exact yEndL hend dX11_helps_28 h
def P_X11_told (a0 : Nat) (v1 : Int32) (v2 : Int32) (σ : Sg) (Q : Int32 → Prop) : Prop :=
  sK σ a0 % 32 = 13 ∧ P_X11_isCorner a0 v1 σ (fun x2 => (x2 = 0 → Q (-1)) ∧ (¬ (x2 = 0) → ∀ y4 : Int32, y4 = v2 → (y4 = 0 → ∃ c6 : Nat, sR σ a0 7 = some c6 ∧ sK σ c6 % 32 = 16 ∧ vp_in v1 (sN σ c6) ∧ Q (sI σ c6 v1.toNatClampNeg)) ∧ (¬ (y4 = 0) → (y4 = 1 → ∃ c10 : Nat, sR σ a0 8 = some c10 ∧ sK σ c10 % 32 = 16 ∧ vp_in v1 (sN σ c10) ∧ Q (sI σ c10 v1.toNatClampNeg)) ∧ (¬ (y4 = 1) → (y4 = 2 → ∃ c14 : Nat, sR σ a0 9 = some c14 ∧ sK σ c14 % 32 = 16 ∧ vp_in v1 (sN σ c14) ∧ Q (sI σ c14 v1.toNatClampNeg)) ∧ (¬ (y4 = 2) → (y4 = 3 → ∃ c18 : Nat, sR σ a0 10 = some c18 ∧ sK σ c18 % 32 = 16 ∧ vp_in v1 (sN σ c18) ∧ Q (sI σ c18 v1.toNatClampNeg)) ∧ (¬ (y4 = 3) → (y4 = 4 → ∃ c22 : Nat, sR σ a0 11 = some c22 ∧ sK σ c22 % 32 = 16 ∧ vp_in v1 (sN σ c22) ∧ Q (sI σ c22 v1.toNatClampNeg)) ∧ (¬ (y4 = 4) → (y4 = 5 → ∃ c26 : Nat, sR σ a0 12 = some c26 ∧ sK σ c26 % 32 = 18 ∧ vp_in v1 (sN σ c26) ∧ P_X11_one (sI σ c26 v1.toNatClampNeg) σ (fun x30 => Q x30)) ∧ (¬ (y4 = 5) → (y4 = 6 → ∃ c31 : Nat, sR σ a0 56 = some c31 ∧ sK σ c31 % 32 = 17 ∧ vp_in v1 (sN σ c31) ∧ Q ((sL σ c31 v1.toNatClampNeg).toInt32)) ∧ (¬ (y4 = 6) → (y4 = 7 → ∃ c35 : Nat, sR σ a0 57 = some c35 ∧ sK σ c35 % 32 = 17 ∧ vp_in v1 (sN σ c35) ∧ Q ((sL σ c35 v1.toNatClampNeg).toInt32)) ∧ (¬ (y4 = 7) → (y4 = 8 → ∃ c39 : Nat, sR σ a0 60 = some c39 ∧ sK σ c39 % 32 = 16 ∧ vp_in v1 (sN σ c39) ∧ Q (sI σ c39 v1.toNatClampNeg)) ∧ (¬ (y4 = 8) → Q (-1))))))))))))
set_option maxHeartbeats 4000000 in
set_option maxRecDepth 100000 in
theorem k_X11_told (l : Launch) (D : Dg) (a0 : Nat) (v1 : Int32) (v2 : Int32) (σ : Sg) (Q : Int32 → Prop) (h : P_X11_told a0 v1 v2 σ Q) : CtrY RN l D yX11_told cX11_told 3 (some FieldType.int) 2 43 mkI [.ref a0, .int v1, .int v2] σ (0, 0) (fun r σ2 => Q r ∧ σ2 = σ) := by
  refine y_ctrN (lv := [(0, va_rf (some a0)), (1, .int v1), (2, .int v2)]) (by decide) (by (exact Nat.le_of_ble_eq_true rfl)) (by (exact rfl)) (fun g hg hgL hgD hrm hgN hgI hend => ?_)
  subst hgD
  clear hgL
  unfold P_X11_told at h
  refine y_aload_n hg 0 dX11_told_0 rfl rfl ?_
  refine y_iload_n hg 1 dX11_told_1 rfl rfl ?_
  obtain ⟨h1, h⟩ := h
  refine yVIP (Qp := _) (rest := []) (As := [.int v1]) hg (k_X11_isCorner (gL g.1) (gD g.1) a0 v1 σ _ h) lv_X11_198 rfl h1 rfl rfl dX11_told_2 (cat8 (Nat.le_of_ble_eq_true rfl)) hrm ⟨Nat.le_of_ble_eq_true rfl, Nat.le_of_ble_eq_true rfl⟩ (fun x2 h => ?_)
  refine y_if_ne (tgt := 10) hg dX11_told_5 (by decide) (fun q3 => ?_) (fun q3 => ?_)
  · replace h := h.2 q3
    refine y_iload_n hg 2 dX11_told_10 rfl rfl ?_
    refine y_nmI (fun y4 e5 => ?_)
    replace h := h y4 e5
    by_cases q11_0 : y4 = 0
    · replace h := h.1 q11_0
      refine y_tableIn (tgt := 60) hg dX11_told_11 (by rw [q11_0]; decide) (by rw [q11_0]; decide) (by rw [q11_0]; rfl) (by decide) ?_
      refine y_aload_n hg 0 dX11_told_60 rfl rfl ?_
      refine y_getR hg fl_X11_7 rfl rfl h1 dX11_told_61 ?_
      refine y_iload_n hg 1 dX11_told_64 rfl rfl ?_
      obtain ⟨c6, h7, h⟩ := h
      obtain ⟨h8, h⟩ := h
      obtain ⟨h9, h⟩ := h
      refine y_iald hg h7 h8 h9 dX11_told_65 ?_
      exact yEndI hend rfl dX11_told_66 ⟨h, rfl⟩
    · replace h := h.2 q11_0
      by_cases q11_1 : y4 = 1
      · replace h := h.1 q11_1
        refine y_tableIn (tgt := 67) hg dX11_told_11 (by rw [q11_1]; decide) (by rw [q11_1]; decide) (by rw [q11_1]; rfl) (by decide) ?_
        refine y_aload_n hg 0 dX11_told_67 rfl rfl ?_
        refine y_getR hg fl_X11_13 rfl rfl h1 dX11_told_68 ?_
        refine y_iload_n hg 1 dX11_told_71 rfl rfl ?_
        obtain ⟨c10, h11, h⟩ := h
        obtain ⟨h12, h⟩ := h
        obtain ⟨h13, h⟩ := h
        refine y_iald hg h11 h12 h13 dX11_told_72 ?_
        exact yEndI hend rfl dX11_told_73 ⟨h, rfl⟩
      · replace h := h.2 q11_1
        by_cases q11_2 : y4 = 2
        · replace h := h.1 q11_2
          refine y_tableIn (tgt := 74) hg dX11_told_11 (by rw [q11_2]; decide) (by rw [q11_2]; decide) (by rw [q11_2]; rfl) (by decide) ?_
          refine y_aload_n hg 0 dX11_told_74 rfl rfl ?_
          refine y_getR hg fl_X11_16 rfl rfl h1 dX11_told_75 ?_
          refine y_iload_n hg 1 dX11_told_78 rfl rfl ?_
          obtain ⟨c14, h15, h⟩ := h
          obtain ⟨h16, h⟩ := h
          obtain ⟨h17, h⟩ := h
          refine y_iald hg h15 h16 h17 dX11_told_79 ?_
          exact yEndI hend rfl dX11_told_80 ⟨h, rfl⟩
        · replace h := h.2 q11_2
          by_cases q11_3 : y4 = 3
          · replace h := h.1 q11_3
            refine y_tableIn (tgt := 81) hg dX11_told_11 (by rw [q11_3]; decide) (by rw [q11_3]; decide) (by rw [q11_3]; rfl) (by decide) ?_
            refine y_aload_n hg 0 dX11_told_81 rfl rfl ?_
            refine y_getR hg fl_X11_19 rfl rfl h1 dX11_told_82 ?_
            refine y_iload_n hg 1 dX11_told_85 rfl rfl ?_
            obtain ⟨c18, h19, h⟩ := h
            obtain ⟨h20, h⟩ := h
            obtain ⟨h21, h⟩ := h
            refine y_iald hg h19 h20 h21 dX11_told_86 ?_
            exact yEndI hend rfl dX11_told_87 ⟨h, rfl⟩
          · replace h := h.2 q11_3
            by_cases q11_4 : y4 = 4
            · replace h := h.1 q11_4
              refine y_tableIn (tgt := 88) hg dX11_told_11 (by rw [q11_4]; decide) (by rw [q11_4]; decide) (by rw [q11_4]; rfl) (by decide) ?_
              refine y_aload_n hg 0 dX11_told_88 rfl rfl ?_
              refine y_getR hg fl_X11_22 rfl rfl h1 dX11_told_89 ?_
              refine y_iload_n hg 1 dX11_told_92 rfl rfl ?_
              obtain ⟨c22, h23, h⟩ := h
              obtain ⟨h24, h⟩ := h
              obtain ⟨h25, h⟩ := h
              refine y_iald hg h23 h24 h25 dX11_told_93 ?_
              exact yEndI hend rfl dX11_told_94 ⟨h, rfl⟩
            · replace h := h.2 q11_4
              by_cases q11_5 : y4 = 5
              · replace h := h.1 q11_5
                refine y_tableIn (tgt := 95) hg dX11_told_11 (by rw [q11_5]; decide) (by rw [q11_5]; decide) (by rw [q11_5]; rfl) (by decide) ?_
                refine y_aload_n hg 0 dX11_told_95 rfl rfl ?_
                refine y_getR hg fl_X11_25 rfl rfl h1 dX11_told_96 ?_
                refine y_iload_n hg 1 dX11_told_99 rfl rfl ?_
                obtain ⟨c26, h27, h⟩ := h
                obtain ⟨h28, h⟩ := h
                obtain ⟨h29, h⟩ := h
                refine y_zald hg h27 h28 h29 dX11_told_100 ?_
                refine ySIP (Qp := _) (rest := []) (As := [.int (sI σ c26 v1.toNatClampNeg)]) hg (k_X11_one (gL g.1) (gD g.1) (sI σ c26 v1.toNatClampNeg) σ _ h) ls_X11_319 rfl rfl dX11_told_101 (cat8 (Nat.le_of_ble_eq_true rfl)) hrm ⟨Nat.le_of_ble_eq_true rfl, Nat.le_of_ble_eq_true rfl⟩ (fun x30 h => ?_)
                exact yEndI hend rfl dX11_told_104 ⟨h, rfl⟩
              · replace h := h.2 q11_5
                by_cases q11_6 : y4 = 6
                · replace h := h.1 q11_6
                  refine y_tableIn (tgt := 105) hg dX11_told_11 (by rw [q11_6]; decide) (by rw [q11_6]; decide) (by rw [q11_6]; rfl) (by decide) ?_
                  refine y_aload_n hg 0 dX11_told_105 rfl rfl ?_
                  refine y_getR hg fl_X11_126 rfl rfl h1 dX11_told_106 ?_
                  refine y_iload_n hg 1 dX11_told_109 rfl rfl ?_
                  obtain ⟨c31, h32, h⟩ := h
                  obtain ⟨h33, h⟩ := h
                  obtain ⟨h34, h⟩ := h
                  refine y_lald hg h32 h33 h34 dX11_told_110 ?_
                  refine y_l2i hg dX11_told_111 ?_
                  exact yEndI hend rfl dX11_told_112 ⟨h, rfl⟩
                · replace h := h.2 q11_6
                  by_cases q11_7 : y4 = 7
                  · replace h := h.1 q11_7
                    refine y_tableIn (tgt := 113) hg dX11_told_11 (by rw [q11_7]; decide) (by rw [q11_7]; decide) (by rw [q11_7]; rfl) (by decide) ?_
                    refine y_aload_n hg 0 dX11_told_113 rfl rfl ?_
                    refine y_getR hg fl_X11_129 rfl rfl h1 dX11_told_114 ?_
                    refine y_iload_n hg 1 dX11_told_117 rfl rfl ?_
                    obtain ⟨c35, h36, h⟩ := h
                    obtain ⟨h37, h⟩ := h
                    obtain ⟨h38, h⟩ := h
                    refine y_lald hg h36 h37 h38 dX11_told_118 ?_
                    refine y_l2i hg dX11_told_119 ?_
                    exact yEndI hend rfl dX11_told_120 ⟨h, rfl⟩
                  · replace h := h.2 q11_7
                    by_cases q11_8 : y4 = 8
                    · replace h := h.1 q11_8
                      refine y_tableIn (tgt := 121) hg dX11_told_11 (by rw [q11_8]; decide) (by rw [q11_8]; decide) (by rw [q11_8]; rfl) (by decide) ?_
                      refine y_aload_n hg 0 dX11_told_121 rfl rfl ?_
                      refine y_getR hg fl_X11_138 rfl rfl h1 dX11_told_122 ?_
                      refine y_iload_n hg 1 dX11_told_125 rfl rfl ?_
                      obtain ⟨c39, h40, h⟩ := h
                      obtain ⟨h41, h⟩ := h
                      obtain ⟨h42, h⟩ := h
                      refine y_iald hg h40 h41 h42 dX11_told_126 ?_
                      exact yEndI hend rfl dX11_told_127 ⟨h, rfl⟩
                    · replace h := h.2 q11_8
                      refine y_tableOut (tgt := 128) hg dX11_told_11 (sw8_out q11_0 q11_1 q11_2 q11_3 q11_4 q11_5 q11_6 q11_7 q11_8) (by decide) ?_
                      refine y_iconst (v := (-1)) hg dX11_told_128 (by decide) ?_
                      exact yEndI hend rfl dX11_told_129 ⟨h, rfl⟩
  · replace h := h.1 q3
    refine y_iconst (v := (-1)) hg dX11_told_8 (by decide) ?_
    exact yEndI hend rfl dX11_told_9 ⟨h, rfl⟩
def P_X11_bedOf (a0 : Nat) (v1 : Int32) (v2 : Int32) (σ : Sg) (Q : Int32 → Prop) : Prop :=
  sK σ a0 % 32 = 13 ∧ P_X11_isBed a0 v1 σ (fun x2 => (x2 = 0 → Q (-1)) ∧ (¬ (x2 = 0) → ∃ c4 : Nat, sR σ a0 23 = some c4 ∧ sK σ c4 % 32 = 16 ∧ vp_in v1 (sN σ c4) ∧ ∀ x8 : Int32, x8 = sI σ c4 v1.toNatClampNeg → ∀ y10 : Int32, y10 = v2 → (y10 = 0 → ∃ c12 : Nat, sR σ a0 15 = some c12 ∧ sK σ c12 % 32 = 16 ∧ vp_in v1 (sN σ c12) ∧ Q (sI σ c12 v1.toNatClampNeg)) ∧ (¬ (y10 = 0) → (y10 = 1 → ∃ c16 : Nat, sR σ a0 16 = some c16 ∧ sK σ c16 % 32 = 16 ∧ vp_in v1 (sN σ c16) ∧ Q (sI σ c16 v1.toNatClampNeg)) ∧ (¬ (y10 = 1) → (y10 = 2 → ∃ c20 : Nat, sR σ a0 13 = some c20 ∧ sK σ c20 % 32 = 18 ∧ vp_in v1 (sN σ c20) ∧ P_X11_one (sI σ c20 v1.toNatClampNeg) σ (fun x24 => Q x24)) ∧ (¬ (y10 = 2) → (y10 = 3 → ∃ c25 : Nat, sR σ a0 17 = some c25 ∧ sK σ c25 % 32 = 16 ∧ vp_in v1 (sN σ c25) ∧ Q (sI σ c25 v1.toNatClampNeg)) ∧ (¬ (y10 = 3) → (y10 = 4 → ∃ c29 : Nat, sR σ a0 18 = some c29 ∧ sK σ c29 % 32 = 16 ∧ vp_in v1 (sN σ c29) ∧ Q (sI σ c29 v1.toNatClampNeg)) ∧ (¬ (y10 = 4) → (y10 = 5 → ∃ c33 : Nat, sR σ a0 19 = some c33 ∧ sK σ c33 % 32 = 16 ∧ vp_in v1 (sN σ c33) ∧ Q (sI σ c33 v1.toNatClampNeg)) ∧ (¬ (y10 = 5) → (y10 = 6 → ∃ c37 : Nat, sR σ a0 20 = some c37 ∧ sK σ c37 % 32 = 16 ∧ vp_in v1 (sN σ c37) ∧ Q (sI σ c37 v1.toNatClampNeg)) ∧ (¬ (y10 = 6) → (y10 = 7 → ∃ c41 : Nat, sR σ a0 14 = some c41 ∧ sK σ c41 % 32 = 18 ∧ vp_in v1 (sN σ c41) ∧ P_X11_one (sI σ c41 v1.toNatClampNeg) σ (fun x45 => Q x45)) ∧ (¬ (y10 = 7) → (y10 = 8 → ∃ c46 : Nat, sR σ a0 21 = some c46 ∧ sK σ c46 % 32 = 16 ∧ vp_in v1 (sN σ c46) ∧ Q (sI σ c46 v1.toNatClampNeg)) ∧ (¬ (y10 = 8) → (y10 = 9 → ∃ c50 : Nat, sR σ a0 22 = some c50 ∧ sK σ c50 % 32 = 16 ∧ vp_in v1 (sN σ c50) ∧ Q (sI σ c50 v1.toNatClampNeg)) ∧ (¬ (y10 = 9) → (y10 = 10 → P_X11_drink a0 v1 σ (fun x54 => Q x54)) ∧ (¬ (y10 = 10) → (y10 = 11 → Q x8) ∧ (¬ (y10 = 11) → (y10 = 12 → (x8 = (-1) → Q (-1)) ∧ (¬ (x8 = (-1)) → ∃ c56 : Nat, sR σ a0 15 = some c56 ∧ sK σ c56 % 32 = 16 ∧ vp_in v1 (sN σ c56) ∧ ∃ c60 : Nat, sR σ a0 31 = some c60 ∧ sK σ c60 % 32 = 16 ∧ vp_in (sI σ c56 v1.toNatClampNeg) (sN σ c60) ∧ P_X11_now a0 (13 + (2 * x8)) σ (fun x64 => Q (((sI σ c60 (sI σ c56 v1.toNatClampNeg).toNatClampNeg) * x64) / 100)))) ∧ (¬ (y10 = 12) → (y10 = 13 → (x8 = (-1) → Q (-1)) ∧ (¬ (x8 = (-1)) → ∃ c66 : Nat, sR σ a0 15 = some c66 ∧ sK σ c66 % 32 = 16 ∧ vp_in v1 (sN σ c66) ∧ ∃ c70 : Nat, sR σ a0 31 = some c70 ∧ sK σ c70 % 32 = 16 ∧ vp_in (sI σ c66 v1.toNatClampNeg) (sN σ c70) ∧ P_X11_now a0 (14 + (2 * x8)) σ (fun x74 => Q (((sI σ c70 (sI σ c66 v1.toNatClampNeg).toNatClampNeg) * x74) / 100)))) ∧ (¬ (y10 = 13) → Q (-1)))))))))))))))))
set_option maxHeartbeats 4000000 in
set_option maxRecDepth 100000 in
theorem k_X11_bedOf (l : Launch) (D : Dg) (a0 : Nat) (v1 : Int32) (v2 : Int32) (σ : Sg) (Q : Int32 → Prop) (h : P_X11_bedOf a0 v1 v2 σ Q) : CtrY RN l D yX11_bedOf cX11_bedOf 4 (some FieldType.int) 3 69 mkI [.ref a0, .int v1, .int v2] σ (0, 0) (fun r σ2 => Q r ∧ σ2 = σ) := by
  refine y_ctrN (lv := [(0, va_rf (some a0)), (1, .int v1), (2, .int v2)]) (by decide) (by (exact Nat.le_of_ble_eq_true rfl)) (by (exact rfl)) (fun g hg hgL hgD hrm hgN hgI hend => ?_)
  subst hgD
  clear hgL
  unfold P_X11_bedOf at h
  refine y_aload_n hg 0 dX11_bedOf_0 rfl rfl ?_
  refine y_iload_n hg 1 dX11_bedOf_1 rfl rfl ?_
  obtain ⟨h1, h⟩ := h
  refine yVIP (Qp := _) (rest := []) (As := [.int v1]) hg (k_X11_isBed (gL g.1) (gD g.1) a0 v1 σ _ h) lv_X11_219 rfl h1 rfl rfl dX11_bedOf_2 (cat8 (Nat.le_of_ble_eq_true rfl)) hrm ⟨Nat.le_of_ble_eq_true rfl, Nat.le_of_ble_eq_true rfl⟩ (fun x2 h => ?_)
  refine y_if_ne (tgt := 10) hg dX11_bedOf_5 (by decide) (fun q3 => ?_) (fun q3 => ?_)
  · replace h := h.2 q3
    refine y_aload_n hg 0 dX11_bedOf_10 rfl rfl ?_
    refine y_getR hg fl_X11_59 rfl rfl h1 dX11_bedOf_11 ?_
    refine y_iload_n hg 1 dX11_bedOf_14 rfl rfl ?_
    obtain ⟨c4, h5, h⟩ := h
    obtain ⟨h6, h⟩ := h
    obtain ⟨h7, h⟩ := h
    refine y_iald hg h5 h6 h7 dX11_bedOf_15 ?_
    refine y_nmI (fun x8 e9 => ?_)
    replace h := h x8 e9
    refine y_istore_n (lv' := [(3, .int x8), (0, va_rf (some a0)), (1, .int v1), (2, .int v2)]) hg dX11_bedOf_16 rfl (by rw [hgN]; decide) rfl ?_
    refine y_iload_n hg 3 dX11_bedOf_17 rfl rfl ?_
    refine y_nmI (fun y10 e11 => ?_)
    replace h := h y10 e11
    by_cases q18_0 : y10 = 0
    · replace h := h.1 q18_0
      refine y_tableIn (tgt := 88) hg dX11_bedOf_18 (by rw [q18_0]; decide) (by rw [q18_0]; decide) (by rw [q18_0]; rfl) (by decide) ?_
      refine y_aload_n hg 1 dX11_bedOf_88 rfl rfl ?_
      refine y_getR hg fl_X11_35 rfl rfl h1 dX11_bedOf_89 ?_
      refine y_iload_n hg 2 dX11_bedOf_92 rfl rfl ?_
      obtain ⟨c12, h13, h⟩ := h
      obtain ⟨h14, h⟩ := h
      obtain ⟨h15, h⟩ := h
      refine y_iald hg h13 h14 h15 dX11_bedOf_93 ?_
      exact yEndI hend rfl dX11_bedOf_94 ⟨h, rfl⟩
    · replace h := h.2 q18_0
      by_cases q18_1 : y10 = 1
      · replace h := h.1 q18_1
        refine y_tableIn (tgt := 95) hg dX11_bedOf_18 (by rw [q18_1]; decide) (by rw [q18_1]; decide) (by rw [q18_1]; rfl) (by decide) ?_
        refine y_aload_n hg 1 dX11_bedOf_95 rfl rfl ?_
        refine y_getR hg fl_X11_38 rfl rfl h1 dX11_bedOf_96 ?_
        refine y_iload_n hg 2 dX11_bedOf_99 rfl rfl ?_
        obtain ⟨c16, h17, h⟩ := h
        obtain ⟨h18, h⟩ := h
        obtain ⟨h19, h⟩ := h
        refine y_iald hg h17 h18 h19 dX11_bedOf_100 ?_
        exact yEndI hend rfl dX11_bedOf_101 ⟨h, rfl⟩
      · replace h := h.2 q18_1
        by_cases q18_2 : y10 = 2
        · replace h := h.1 q18_2
          refine y_tableIn (tgt := 102) hg dX11_bedOf_18 (by rw [q18_2]; decide) (by rw [q18_2]; decide) (by rw [q18_2]; rfl) (by decide) ?_
          refine y_aload_n hg 1 dX11_bedOf_102 rfl rfl ?_
          refine y_getR hg fl_X11_29 rfl rfl h1 dX11_bedOf_103 ?_
          refine y_iload_n hg 2 dX11_bedOf_106 rfl rfl ?_
          obtain ⟨c20, h21, h⟩ := h
          obtain ⟨h22, h⟩ := h
          obtain ⟨h23, h⟩ := h
          refine y_zald hg h21 h22 h23 dX11_bedOf_107 ?_
          refine ySIP (Qp := _) (rest := []) (As := [.int (sI σ c20 v1.toNatClampNeg)]) hg (k_X11_one (gL g.1) (gD g.1) (sI σ c20 v1.toNatClampNeg) σ _ h) ls_X11_319 rfl rfl dX11_bedOf_108 (cat8 (Nat.le_of_ble_eq_true rfl)) hrm ⟨Nat.le_of_ble_eq_true rfl, Nat.le_of_ble_eq_true rfl⟩ (fun x24 h => ?_)
          exact yEndI hend rfl dX11_bedOf_111 ⟨h, rfl⟩
        · replace h := h.2 q18_2
          by_cases q18_3 : y10 = 3
          · replace h := h.1 q18_3
            refine y_tableIn (tgt := 112) hg dX11_bedOf_18 (by rw [q18_3]; decide) (by rw [q18_3]; decide) (by rw [q18_3]; rfl) (by decide) ?_
            refine y_aload_n hg 1 dX11_bedOf_112 rfl rfl ?_
            refine y_getR hg fl_X11_41 rfl rfl h1 dX11_bedOf_113 ?_
            refine y_iload_n hg 2 dX11_bedOf_116 rfl rfl ?_
            obtain ⟨c25, h26, h⟩ := h
            obtain ⟨h27, h⟩ := h
            obtain ⟨h28, h⟩ := h
            refine y_iald hg h26 h27 h28 dX11_bedOf_117 ?_
            exact yEndI hend rfl dX11_bedOf_118 ⟨h, rfl⟩
          · replace h := h.2 q18_3
            by_cases q18_4 : y10 = 4
            · replace h := h.1 q18_4
              refine y_tableIn (tgt := 119) hg dX11_bedOf_18 (by rw [q18_4]; decide) (by rw [q18_4]; decide) (by rw [q18_4]; rfl) (by decide) ?_
              refine y_aload_n hg 1 dX11_bedOf_119 rfl rfl ?_
              refine y_getR hg fl_X11_44 rfl rfl h1 dX11_bedOf_120 ?_
              refine y_iload_n hg 2 dX11_bedOf_123 rfl rfl ?_
              obtain ⟨c29, h30, h⟩ := h
              obtain ⟨h31, h⟩ := h
              obtain ⟨h32, h⟩ := h
              refine y_iald hg h30 h31 h32 dX11_bedOf_124 ?_
              exact yEndI hend rfl dX11_bedOf_125 ⟨h, rfl⟩
            · replace h := h.2 q18_4
              by_cases q18_5 : y10 = 5
              · replace h := h.1 q18_5
                refine y_tableIn (tgt := 126) hg dX11_bedOf_18 (by rw [q18_5]; decide) (by rw [q18_5]; decide) (by rw [q18_5]; rfl) (by decide) ?_
                refine y_aload_n hg 1 dX11_bedOf_126 rfl rfl ?_
                refine y_getR hg fl_X11_47 rfl rfl h1 dX11_bedOf_127 ?_
                refine y_iload_n hg 2 dX11_bedOf_130 rfl rfl ?_
                obtain ⟨c33, h34, h⟩ := h
                obtain ⟨h35, h⟩ := h
                obtain ⟨h36, h⟩ := h
                refine y_iald hg h34 h35 h36 dX11_bedOf_131 ?_
                exact yEndI hend rfl dX11_bedOf_132 ⟨h, rfl⟩
              · replace h := h.2 q18_5
                by_cases q18_6 : y10 = 6
                · replace h := h.1 q18_6
                  refine y_tableIn (tgt := 133) hg dX11_bedOf_18 (by rw [q18_6]; decide) (by rw [q18_6]; decide) (by rw [q18_6]; rfl) (by decide) ?_
                  refine y_aload_n hg 1 dX11_bedOf_133 rfl rfl ?_
                  refine y_getR hg fl_X11_50 rfl rfl h1 dX11_bedOf_134 ?_
                  refine y_iload_n hg 2 dX11_bedOf_137 rfl rfl ?_
                  obtain ⟨c37, h38, h⟩ := h
                  obtain ⟨h39, h⟩ := h
                  obtain ⟨h40, h⟩ := h
                  refine y_iald hg h38 h39 h40 dX11_bedOf_138 ?_
                  exact yEndI hend rfl dX11_bedOf_139 ⟨h, rfl⟩
                · replace h := h.2 q18_6
                  by_cases q18_7 : y10 = 7
                  · replace h := h.1 q18_7
                    refine y_tableIn (tgt := 140) hg dX11_bedOf_18 (by rw [q18_7]; decide) (by rw [q18_7]; decide) (by rw [q18_7]; rfl) (by decide) ?_
                    refine y_aload_n hg 1 dX11_bedOf_140 rfl rfl ?_
                    refine y_getR hg fl_X11_32 rfl rfl h1 dX11_bedOf_141 ?_
                    refine y_iload_n hg 2 dX11_bedOf_144 rfl rfl ?_
                    obtain ⟨c41, h42, h⟩ := h
                    obtain ⟨h43, h⟩ := h
                    obtain ⟨h44, h⟩ := h
                    refine y_zald hg h42 h43 h44 dX11_bedOf_145 ?_
                    refine ySIP (Qp := _) (rest := []) (As := [.int (sI σ c41 v1.toNatClampNeg)]) hg (k_X11_one (gL g.1) (gD g.1) (sI σ c41 v1.toNatClampNeg) σ _ h) ls_X11_319 rfl rfl dX11_bedOf_146 (cat8 (Nat.le_of_ble_eq_true rfl)) hrm ⟨Nat.le_of_ble_eq_true rfl, Nat.le_of_ble_eq_true rfl⟩ (fun x45 h => ?_)
                    exact yEndI hend rfl dX11_bedOf_149 ⟨h, rfl⟩
                  · replace h := h.2 q18_7
                    by_cases q18_8 : y10 = 8
                    · replace h := h.1 q18_8
                      refine y_tableIn (tgt := 150) hg dX11_bedOf_18 (by rw [q18_8]; decide) (by rw [q18_8]; decide) (by rw [q18_8]; rfl) (by decide) ?_
                      refine y_aload_n hg 1 dX11_bedOf_150 rfl rfl ?_
                      refine y_getR hg fl_X11_53 rfl rfl h1 dX11_bedOf_151 ?_
                      refine y_iload_n hg 2 dX11_bedOf_154 rfl rfl ?_
                      obtain ⟨c46, h47, h⟩ := h
                      obtain ⟨h48, h⟩ := h
                      obtain ⟨h49, h⟩ := h
                      refine y_iald hg h47 h48 h49 dX11_bedOf_155 ?_
                      exact yEndI hend rfl dX11_bedOf_156 ⟨h, rfl⟩
                    · replace h := h.2 q18_8
                      by_cases q18_9 : y10 = 9
                      · replace h := h.1 q18_9
                        refine y_tableIn (tgt := 157) hg dX11_bedOf_18 (by rw [q18_9]; decide) (by rw [q18_9]; decide) (by rw [q18_9]; rfl) (by decide) ?_
                        refine y_aload_n hg 1 dX11_bedOf_157 rfl rfl ?_
                        refine y_getR hg fl_X11_56 rfl rfl h1 dX11_bedOf_158 ?_
                        refine y_iload_n hg 2 dX11_bedOf_161 rfl rfl ?_
                        obtain ⟨c50, h51, h⟩ := h
                        obtain ⟨h52, h⟩ := h
                        obtain ⟨h53, h⟩ := h
                        refine y_iald hg h51 h52 h53 dX11_bedOf_162 ?_
                        exact yEndI hend rfl dX11_bedOf_163 ⟨h, rfl⟩
                      · replace h := h.2 q18_9
                        by_cases q18_10 : y10 = 10
                        · replace h := h.1 q18_10
                          refine y_tableIn (tgt := 164) hg dX11_bedOf_18 (by rw [q18_10]; decide) (by rw [q18_10]; decide) (by rw [q18_10]; rfl) (by decide) ?_
                          refine y_aload_n hg 1 dX11_bedOf_164 rfl rfl ?_
                          refine y_iload_n hg 2 dX11_bedOf_165 rfl rfl ?_
                          refine yVIP (Qp := _) (rest := []) (As := [.int v1]) hg (k_X11_drink (gL g.1) (gD g.1) a0 v1 σ _ h) lv_X11_230 rfl h1 rfl rfl dX11_bedOf_166 (cat8 (Nat.le_of_ble_eq_true rfl)) hrm ⟨Nat.le_of_ble_eq_true rfl, Nat.le_of_ble_eq_true rfl⟩ (fun x54 h => ?_)
                          exact yEndI hend rfl dX11_bedOf_169 ⟨h, rfl⟩
                        · replace h := h.2 q18_10
                          by_cases q18_11 : y10 = 11
                          · replace h := h.1 q18_11
                            refine y_tableIn (tgt := 170) hg dX11_bedOf_18 (by rw [q18_11]; decide) (by rw [q18_11]; decide) (by rw [q18_11]; rfl) (by decide) ?_
                            refine y_iload_n hg 0 dX11_bedOf_170 rfl rfl ?_
                            exact yEndI hend rfl dX11_bedOf_171 ⟨h, rfl⟩
                          · replace h := h.2 q18_11
                            by_cases q18_12 : y10 = 12
                            · replace h := h.1 q18_12
                              refine y_tableIn (tgt := 172) hg dX11_bedOf_18 (by rw [q18_12]; decide) (by rw [q18_12]; decide) (by rw [q18_12]; rfl) (by decide) ?_
                              refine y_iload_n hg 0 dX11_bedOf_172 rfl rfl ?_
                              refine y_iconst (v := (-1)) hg dX11_bedOf_173 (by decide) ?_
                              refine y_icmp_ne (tgt := 181) hg dX11_bedOf_174 (by decide) (fun q55 => ?_) (fun q55 => ?_)
                              · replace h := h.2 q55
                                refine y_aload_n hg 1 dX11_bedOf_181 rfl rfl ?_
                                refine y_getR hg fl_X11_83 rfl rfl h1 dX11_bedOf_182 ?_
                                refine y_aload_n hg 1 dX11_bedOf_185 rfl rfl ?_
                                refine y_getR hg fl_X11_35 rfl rfl h1 dX11_bedOf_186 ?_
                                refine y_iload_n hg 2 dX11_bedOf_189 rfl rfl ?_
                                obtain ⟨c56, h57, h⟩ := h
                                obtain ⟨h58, h⟩ := h
                                obtain ⟨h59, h⟩ := h
                                refine y_iald hg h57 h58 h59 dX11_bedOf_190 ?_
                                obtain ⟨c60, h61, h⟩ := h
                                obtain ⟨h62, h⟩ := h
                                obtain ⟨h63, h⟩ := h
                                refine y_iald hg h61 h62 h63 dX11_bedOf_191 ?_
                                refine y_aload_n hg 1 dX11_bedOf_192 rfl rfl ?_
                                refine y_bipush (v := 13) hg dX11_bedOf_193 (by decide) ?_
                                refine y_iconst (v := 2) hg dX11_bedOf_195 (by decide) ?_
                                refine y_iload_n hg 0 dX11_bedOf_196 rfl rfl ?_
                                refine y_imul hg dX11_bedOf_197 ?_
                                refine y_iadd hg dX11_bedOf_198 ?_
                                refine yVIP (Qp := _) (rest := [.int (sI σ c60 (sI σ c56 v1.toNatClampNeg).toNatClampNeg)]) (As := [.int (13 + (2 * x8))]) hg (k_X11_now (gL g.1) (gD g.1) a0 (13 + (2 * x8)) σ _ h) lv_X11_209 rfl h1 rfl rfl dX11_bedOf_199 (cat8 (Nat.le_of_ble_eq_true rfl)) hrm ⟨Nat.le_of_ble_eq_true rfl, Nat.le_of_ble_eq_true rfl⟩ (fun x64 h => ?_)
                                refine y_imul hg dX11_bedOf_202 ?_
                                refine y_bipush (v := 100) hg dX11_bedOf_203 (by decide) ?_
                                refine y_idiv hg dX11_bedOf_205 (by decide) ?_
                                exact yEndI hend rfl dX11_bedOf_206 ⟨h, rfl⟩
                              · replace h := h.1 q55
                                refine y_iconst (v := (-1)) hg dX11_bedOf_177 (by decide) ?_
                                refine y_goto (tgt := 206) hg dX11_bedOf_178 (by decide) ?_
                                exact yEndI hend rfl dX11_bedOf_206 ⟨h, rfl⟩
                            · replace h := h.2 q18_12
                              by_cases q18_13 : y10 = 13
                              · replace h := h.1 q18_13
                                refine y_tableIn (tgt := 207) hg dX11_bedOf_18 (by rw [q18_13]; decide) (by rw [q18_13]; decide) (by rw [q18_13]; rfl) (by decide) ?_
                                refine y_iload_n hg 0 dX11_bedOf_207 rfl rfl ?_
                                refine y_iconst (v := (-1)) hg dX11_bedOf_208 (by decide) ?_
                                refine y_icmp_ne (tgt := 216) hg dX11_bedOf_209 (by decide) (fun q65 => ?_) (fun q65 => ?_)
                                · replace h := h.2 q65
                                  refine y_aload_n hg 1 dX11_bedOf_216 rfl rfl ?_
                                  refine y_getR hg fl_X11_83 rfl rfl h1 dX11_bedOf_217 ?_
                                  refine y_aload_n hg 1 dX11_bedOf_220 rfl rfl ?_
                                  refine y_getR hg fl_X11_35 rfl rfl h1 dX11_bedOf_221 ?_
                                  refine y_iload_n hg 2 dX11_bedOf_224 rfl rfl ?_
                                  obtain ⟨c66, h67, h⟩ := h
                                  obtain ⟨h68, h⟩ := h
                                  obtain ⟨h69, h⟩ := h
                                  refine y_iald hg h67 h68 h69 dX11_bedOf_225 ?_
                                  obtain ⟨c70, h71, h⟩ := h
                                  obtain ⟨h72, h⟩ := h
                                  obtain ⟨h73, h⟩ := h
                                  refine y_iald hg h71 h72 h73 dX11_bedOf_226 ?_
                                  refine y_aload_n hg 1 dX11_bedOf_227 rfl rfl ?_
                                  refine y_bipush (v := 14) hg dX11_bedOf_228 (by decide) ?_
                                  refine y_iconst (v := 2) hg dX11_bedOf_230 (by decide) ?_
                                  refine y_iload_n hg 0 dX11_bedOf_231 rfl rfl ?_
                                  refine y_imul hg dX11_bedOf_232 ?_
                                  refine y_iadd hg dX11_bedOf_233 ?_
                                  refine yVIP (Qp := _) (rest := [.int (sI σ c70 (sI σ c66 v1.toNatClampNeg).toNatClampNeg)]) (As := [.int (14 + (2 * x8))]) hg (k_X11_now (gL g.1) (gD g.1) a0 (14 + (2 * x8)) σ _ h) lv_X11_209 rfl h1 rfl rfl dX11_bedOf_234 (cat8 (Nat.le_of_ble_eq_true rfl)) hrm ⟨Nat.le_of_ble_eq_true rfl, Nat.le_of_ble_eq_true rfl⟩ (fun x74 h => ?_)
                                  refine y_imul hg dX11_bedOf_237 ?_
                                  refine y_bipush (v := 100) hg dX11_bedOf_238 (by decide) ?_
                                  refine y_idiv hg dX11_bedOf_240 (by decide) ?_
                                  exact yEndI hend rfl dX11_bedOf_241 ⟨h, rfl⟩
                                · replace h := h.1 q65
                                  refine y_iconst (v := (-1)) hg dX11_bedOf_212 (by decide) ?_
                                  refine y_goto (tgt := 241) hg dX11_bedOf_213 (by decide) ?_
                                  exact yEndI hend rfl dX11_bedOf_241 ⟨h, rfl⟩
                              · replace h := h.2 q18_13
                                refine y_tableOut (tgt := 242) hg dX11_bedOf_18 (sw13_out q18_0 q18_1 q18_2 q18_3 q18_4 q18_5 q18_6 q18_7 q18_8 q18_9 q18_10 q18_11 q18_12 q18_13) (by decide) ?_
                                refine y_iconst (v := (-1)) hg dX11_bedOf_242 (by decide) ?_
                                exact yEndI hend rfl dX11_bedOf_243 ⟨h, rfl⟩
  · replace h := h.1 q3
    refine y_iconst (v := (-1)) hg dX11_bedOf_8 (by decide) ?_
    exact yEndI hend rfl dX11_bedOf_9 ⟨h, rfl⟩
def P_X11_roofOf_B121 (a0 : Nat) (v1 : Int32) (v3 : Int32) (v4 : Int32) (σ : Sg) (Q : Int32 → Prop) (K96 : Int32 → Int32 → Prop) : Prop :=
  ∀ x33 : Int32, x33 = v4 + 1 → K96 v3 x33
def P_X11_roofOf_L96b (a0 : Nat) (v1 : Int32) (v3 : Int32) (v4 : Int32) (σ : Sg) (Q : Int32 → Prop) (K96 : Int32 → Int32 → Prop) : Prop :=
  (10 ≤ v4 → Q v3) ∧ (¬ (10 ≤ v4) → sK σ a0 % 32 = 13 ∧ ∃ c28 : Nat, sR σ a0 30 = some c28 ∧ sK σ c28 % 32 = 16 ∧ vp_in v1 (sN σ c28) ∧ ((((sI σ c28 v1.toNatClampNeg) >>> (v4 &&& 31)) &&& 1) = 1 → P_X11_roofOf_B121 a0 v1 v4 v4 σ Q K96) ∧ (¬ ((((sI σ c28 v1.toNatClampNeg) >>> (v4 &&& 31)) &&& 1) = 1) → P_X11_roofOf_B121 a0 v1 v3 v4 σ Q K96))
def P_X11_roofOf_L96 (a0 : Nat) (v1 : Int32) (v3 : Int32) (v4 : Int32) (σ : Sg) (Q : Int32 → Prop) : Prop :=
  ∃ I : Nat → Int32 → Int32 → Prop, (∃ n, I n v3 v4) ∧ ∀ (n : Nat) (v3 : Int32) (v4 : Int32), I n v3 v4 → P_X11_roofOf_L96b a0 v1 v3 v4 σ Q (fun v3 v4 => ∃ n', n' < n ∧ I n' v3 v4)
def P_X11_roofOf (a0 : Nat) (v1 : Int32) (v2 : Int32) (σ : Sg) (Q : Int32 → Prop) : Prop :=
  sK σ a0 % 32 = 13 ∧ P_X11_isIn v1 0 ((sI σ a0 2) - 1) σ (fun x2 => (x2 = 0 → Q (-1)) ∧ (¬ (x2 = 0) → ∀ y4 : Int32, y4 = v2 → (y4 = 0 → ∃ c6 : Nat, sR σ a0 25 = some c6 ∧ sK σ c6 % 32 = 16 ∧ vp_in v1 (sN σ c6) ∧ Q (sI σ c6 v1.toNatClampNeg)) ∧ (¬ (y4 = 0) → (y4 = 1 → ∃ c10 : Nat, sR σ a0 26 = some c10 ∧ sK σ c10 % 32 = 16 ∧ vp_in v1 (sN σ c10) ∧ Q (sI σ c10 v1.toNatClampNeg)) ∧ (¬ (y4 = 1) → (y4 = 2 → ∃ c14 : Nat, sR σ a0 27 = some c14 ∧ sK σ c14 % 32 = 16 ∧ vp_in v1 (sN σ c14) ∧ Q (sI σ c14 v1.toNatClampNeg)) ∧ (¬ (y4 = 2) → (y4 = 3 → ∃ c18 : Nat, sR σ a0 28 = some c18 ∧ sK σ c18 % 32 = 16 ∧ vp_in v1 (sN σ c18) ∧ Q (sI σ c18 v1.toNatClampNeg)) ∧ (¬ (y4 = 3) → (y4 = 4 → ∃ c22 : Nat, sR σ a0 29 = some c22 ∧ sK σ c22 % 32 = 16 ∧ vp_in v1 (sN σ c22) ∧ Q (sI σ c22 v1.toNatClampNeg)) ∧ (¬ (y4 = 4) → (y4 = 5 → P_X11_roofOf_L96 a0 v1 (-1) 0 σ Q) ∧ (¬ (y4 = 5) → Q (-1)))))))))
set_option maxHeartbeats 4000000 in
set_option maxRecDepth 100000 in
theorem k_X11_roofOf (l : Launch) (D : Dg) (a0 : Nat) (v1 : Int32) (v2 : Int32) (σ : Sg) (Q : Int32 → Prop) (h : P_X11_roofOf a0 v1 v2 σ Q) : CtrY RN l D yX11_roofOf cX11_roofOf 5 (some FieldType.int) 1 22 mkI [.ref a0, .int v1, .int v2] σ (0, 0) (fun r σ2 => Q r ∧ σ2 = σ) := by
  refine y_ctrN (lv := [(0, va_rf (some a0)), (1, .int v1), (2, .int v2)]) (by decide) (by (exact Nat.le_of_ble_eq_true rfl)) (by (exact rfl)) (fun g hg hgL hgD hrm hgN hgI hend => ?_)
  subst hgD
  clear hgL
  unfold P_X11_roofOf at h
  have J96 : ∀ (v1 : Int32) (v3 : Int32) (v4 : Int32), P_X11_roofOf_L96 a0 v1 v3 v4 σ Q → XA g 96 [(0, va_rf (some a0)), (1, .int v1), (3, .int v3), (4, .int v4)] [] σ (0, 0) := by
    intro v1 v3 v4 h
    unfold P_X11_roofOf_L96 at h
    obtain ⟨I96, ⟨n96, hI96⟩, hs96⟩ := h
    have key96 : ∀ (n : Nat), ∀ (v3 : Int32) (v4 : Int32), I96 n v3 v4 → XA g 96 [(0, va_rf (some a0)), (1, .int v1), (3, .int v3), (4, .int v4)] [] σ (0, 0) := by
      intro n
      induction n using Nat.strongRecOn with
      | _ n ih96 =>
      intro v3 v4 hI
      have h := hs96 n v3 v4 hI
      clear hI hI96 hs96
      obtain ⟨K96, hK96⟩ : ∃ K : Int32 → Int32 → Prop, K = (fun v3 v4 => ∃ n', n' < n ∧ I96 n' v3 v4) := ⟨_, rfl⟩
      rw [← hK96] at h
      unfold P_X11_roofOf_L96b at h
      have J121 : ∀ (v3 : Int32) (v4 : Int32), P_X11_roofOf_B121 a0 v1 v3 v4 σ Q K96 → XA g 121 [(0, va_rf (some a0)), (1, .int v1), (3, .int v3), (4, .int v4)] [] σ (0, 0) := by
        intro v3 v4 h
        unfold P_X11_roofOf_B121 at h
        obtain ⟨x33, e34⟩ : ∃ y : Int32, y = v4 + 1 := ⟨_, rfl⟩
        replace h := h x33 e34
        refine y_iinc (v := x33) (lv' := [(4, .int x33), (0, va_rf (some a0)), (1, .int v1), (3, .int v3)]) hg 3 dX11_roofOf_121 rfl (by rw [e34]; rfl) (by rw [hgN]; decide) rfl ?_
        refine y_goto (tgt := 96) hg dX11_roofOf_124 (by decide) ?_
        refine y_sub [1, 2, 3, 0] rfl ?_
        subst hK96
        obtain ⟨n35, h36, h⟩ := h
        exact ih96 n35 h36 _ _ h
      refine y_iload hg 3 dX11_roofOf_96 rfl ?_
      refine y_bipush (v := 10) hg dX11_roofOf_98 (by decide) ?_
      refine y_icmp_ge (tgt := 127) hg dX11_roofOf_100 (by decide) (fun q26 => ?_) (fun q26 => ?_)
      · replace h := h.1 q26
        refine y_iload_n hg 2 dX11_roofOf_127 rfl rfl ?_
        exact yEndI hend rfl dX11_roofOf_128 ⟨h, rfl⟩
      · replace h := h.2 q26
        refine y_aload_n hg 0 dX11_roofOf_103 rfl rfl ?_
        obtain ⟨h27, h⟩ := h
        refine y_getR hg fl_X11_80 rfl rfl h27 dX11_roofOf_104 ?_
        refine y_iload_n hg 1 dX11_roofOf_107 rfl rfl ?_
        obtain ⟨c28, h29, h⟩ := h
        obtain ⟨h30, h⟩ := h
        obtain ⟨h31, h⟩ := h
        refine y_iald hg h29 h30 h31 dX11_roofOf_108 ?_
        refine y_iload hg 3 dX11_roofOf_109 rfl ?_
        refine y_ishr hg dX11_roofOf_111 ?_
        refine y_iconst (v := 1) hg dX11_roofOf_112 (by decide) ?_
        refine y_iand hg dX11_roofOf_113 ?_
        refine y_iconst (v := 1) hg dX11_roofOf_114 (by decide) ?_
        refine y_icmp_ne (tgt := 121) hg dX11_roofOf_115 (by decide) (fun q32 => ?_) (fun q32 => ?_)
        · replace h := h.2 q32
          refine y_sub [0, 1, 2, 3] rfl ?_
          exact J121 _ _ h
        · replace h := h.1 q32
          refine y_iload hg 3 dX11_roofOf_118 rfl ?_
          refine y_istore_n (lv' := [(3, .int v4), (0, va_rf (some a0)), (1, .int v1), (4, .int v4)]) hg dX11_roofOf_120 rfl (by rw [hgN]; decide) rfl ?_
          refine y_sub [1, 2, 0, 3] rfl ?_
          exact J121 _ _ h
    exact key96 n96 v3 v4 hI96
  refine y_iload_n hg 1 dX11_roofOf_0 rfl rfl ?_
  refine y_iconst (v := 0) hg dX11_roofOf_1 (by decide) ?_
  refine y_aload_n hg 0 dX11_roofOf_2 rfl rfl ?_
  obtain ⟨h1, h⟩ := h
  refine y_getI hg fl_X11_202 rfl rfl h1 dX11_roofOf_3 ?_
  refine y_iconst (v := 1) hg dX11_roofOf_6 (by decide) ?_
  refine y_isub hg dX11_roofOf_7 ?_
  refine ySIP (Qp := _) (rest := []) (As := [.int v1, .int 0, .int ((sI σ a0 2) - 1)]) hg (k_X11_isIn (gL g.1) (gD g.1) v1 0 ((sI σ a0 2) - 1) σ _ h) ls_X11_194 rfl rfl dX11_roofOf_8 (cat8 (Nat.le_of_ble_eq_true rfl)) hrm ⟨Nat.le_of_ble_eq_true rfl, Nat.le_of_ble_eq_true rfl⟩ (fun x2 h => ?_)
  refine y_if_ne (tgt := 16) hg dX11_roofOf_11 (by decide) (fun q3 => ?_) (fun q3 => ?_)
  · replace h := h.2 q3
    refine y_iload_n hg 2 dX11_roofOf_16 rfl rfl ?_
    refine y_nmI (fun y4 e5 => ?_)
    replace h := h y4 e5
    by_cases q17_0 : y4 = 0
    · replace h := h.1 q17_0
      refine y_tableIn (tgt := 56) hg dX11_roofOf_17 (by rw [q17_0]; decide) (by rw [q17_0]; decide) (by rw [q17_0]; rfl) (by decide) ?_
      refine y_aload_n hg 0 dX11_roofOf_56 rfl rfl ?_
      refine y_getR hg fl_X11_65 rfl rfl h1 dX11_roofOf_57 ?_
      refine y_iload_n hg 1 dX11_roofOf_60 rfl rfl ?_
      obtain ⟨c6, h7, h⟩ := h
      obtain ⟨h8, h⟩ := h
      obtain ⟨h9, h⟩ := h
      refine y_iald hg h7 h8 h9 dX11_roofOf_61 ?_
      exact yEndI hend rfl dX11_roofOf_62 ⟨h, rfl⟩
    · replace h := h.2 q17_0
      by_cases q17_1 : y4 = 1
      · replace h := h.1 q17_1
        refine y_tableIn (tgt := 63) hg dX11_roofOf_17 (by rw [q17_1]; decide) (by rw [q17_1]; decide) (by rw [q17_1]; rfl) (by decide) ?_
        refine y_aload_n hg 0 dX11_roofOf_63 rfl rfl ?_
        refine y_getR hg fl_X11_68 rfl rfl h1 dX11_roofOf_64 ?_
        refine y_iload_n hg 1 dX11_roofOf_67 rfl rfl ?_
        obtain ⟨c10, h11, h⟩ := h
        obtain ⟨h12, h⟩ := h
        obtain ⟨h13, h⟩ := h
        refine y_iald hg h11 h12 h13 dX11_roofOf_68 ?_
        exact yEndI hend rfl dX11_roofOf_69 ⟨h, rfl⟩
      · replace h := h.2 q17_1
        by_cases q17_2 : y4 = 2
        · replace h := h.1 q17_2
          refine y_tableIn (tgt := 70) hg dX11_roofOf_17 (by rw [q17_2]; decide) (by rw [q17_2]; decide) (by rw [q17_2]; rfl) (by decide) ?_
          refine y_aload_n hg 0 dX11_roofOf_70 rfl rfl ?_
          refine y_getR hg fl_X11_71 rfl rfl h1 dX11_roofOf_71 ?_
          refine y_iload_n hg 1 dX11_roofOf_74 rfl rfl ?_
          obtain ⟨c14, h15, h⟩ := h
          obtain ⟨h16, h⟩ := h
          obtain ⟨h17, h⟩ := h
          refine y_iald hg h15 h16 h17 dX11_roofOf_75 ?_
          exact yEndI hend rfl dX11_roofOf_76 ⟨h, rfl⟩
        · replace h := h.2 q17_2
          by_cases q17_3 : y4 = 3
          · replace h := h.1 q17_3
            refine y_tableIn (tgt := 77) hg dX11_roofOf_17 (by rw [q17_3]; decide) (by rw [q17_3]; decide) (by rw [q17_3]; rfl) (by decide) ?_
            refine y_aload_n hg 0 dX11_roofOf_77 rfl rfl ?_
            refine y_getR hg fl_X11_74 rfl rfl h1 dX11_roofOf_78 ?_
            refine y_iload_n hg 1 dX11_roofOf_81 rfl rfl ?_
            obtain ⟨c18, h19, h⟩ := h
            obtain ⟨h20, h⟩ := h
            obtain ⟨h21, h⟩ := h
            refine y_iald hg h19 h20 h21 dX11_roofOf_82 ?_
            exact yEndI hend rfl dX11_roofOf_83 ⟨h, rfl⟩
          · replace h := h.2 q17_3
            by_cases q17_4 : y4 = 4
            · replace h := h.1 q17_4
              refine y_tableIn (tgt := 84) hg dX11_roofOf_17 (by rw [q17_4]; decide) (by rw [q17_4]; decide) (by rw [q17_4]; rfl) (by decide) ?_
              refine y_aload_n hg 0 dX11_roofOf_84 rfl rfl ?_
              refine y_getR hg fl_X11_77 rfl rfl h1 dX11_roofOf_85 ?_
              refine y_iload_n hg 1 dX11_roofOf_88 rfl rfl ?_
              obtain ⟨c22, h23, h⟩ := h
              obtain ⟨h24, h⟩ := h
              obtain ⟨h25, h⟩ := h
              refine y_iald hg h23 h24 h25 dX11_roofOf_89 ?_
              exact yEndI hend rfl dX11_roofOf_90 ⟨h, rfl⟩
            · replace h := h.2 q17_4
              by_cases q17_5 : y4 = 5
              · replace h := h.1 q17_5
                refine y_tableIn (tgt := 91) hg dX11_roofOf_17 (by rw [q17_5]; decide) (by rw [q17_5]; decide) (by rw [q17_5]; rfl) (by decide) ?_
                refine y_iconst (v := (-1)) hg dX11_roofOf_91 (by decide) ?_
                refine y_istore_n (lv' := [(3, .int (-1)), (0, va_rf (some a0)), (1, .int v1), (2, .int v2)]) hg dX11_roofOf_92 rfl (by rw [hgN]; decide) rfl ?_
                refine y_iconst (v := 0) hg dX11_roofOf_93 (by decide) ?_
                refine y_istore (lv' := [(4, .int 0), (3, .int (-1)), (0, va_rf (some a0)), (1, .int v1), (2, .int v2)]) hg dX11_roofOf_94 (by rw [hgN]; decide) rfl ?_
                refine y_sub [2, 3, 1, 0] rfl ?_
                exact J96 _ _ _ h
              · replace h := h.2 q17_5
                refine y_tableOut (tgt := 129) hg dX11_roofOf_17 (sw5_out q17_0 q17_1 q17_2 q17_3 q17_4 q17_5) (by decide) ?_
                refine y_iconst (v := (-1)) hg dX11_roofOf_129 (by decide) ?_
                exact yEndI hend rfl dX11_roofOf_130 ⟨h, rfl⟩
  · replace h := h.1 q3
    refine y_iconst (v := (-1)) hg dX11_roofOf_14 (by decide) ?_
    exact yEndI hend rfl dX11_roofOf_15 ⟨h, rfl⟩
def P_X11_prove (a0 : Nat) (v1 : Int32) (σ : Sg) (Q : Int32 → Sg → Prop) : Prop :=
  sK σ a0 % 32 = 13 ∧ P_X11_isIn v1 0 ((sI σ a0 2) - 1) σ (fun x2 => (x2 = 0 → Q 0 σ) ∧ (¬ (x2 = 0) → ∃ c4 : Nat, sR σ a0 28 = some c4 ∧ sK σ c4 % 32 = 16 ∧ vp_in v1 (sN σ c4) ∧ ((sI σ c4 v1.toNatClampNeg) = 0 → Q 0 σ) ∧ (¬ ((sI σ c4 v1.toNatClampNeg) = 0) → ∃ c9 : Nat, sR σ a0 30 = some c9 ∧ sK σ c9 % 32 = 16 ∧ vp_in v1 (sN σ c9) ∧ vp_in v1 (sN σ c9) ∧ ∀ σ14 : Sg, σ14 = pI σ c9 v1.toNatClampNeg ((sI σ c9 v1.toNatClampNeg) ||| (1 <<< (((sI σ a0 0) / 365) &&& 31))) → Q 1 σ14)))
set_option maxHeartbeats 4000000 in
set_option maxRecDepth 100000 in
theorem k_X11_prove (l : Launch) (D : Dg) (a0 : Nat) (v1 : Int32) (σ : Sg) (Q : Int32 → Sg → Prop) (h : P_X11_prove a0 v1 σ Q) : CtrY RN l D yX11_prove cX11_prove 2 (some FieldType.boolean) 1 22 mkI [.ref a0, .int v1] σ (0, 0) Q := by
  refine y_ctrN (lv := [(0, va_rf (some a0)), (1, .int v1)]) (by decide) (by (exact Nat.le_of_ble_eq_true rfl)) (by (exact rfl)) (fun g hg hgL hgD hrm hgN hgI hend => ?_)
  subst hgD
  clear hgL
  unfold P_X11_prove at h
  refine y_iload_n hg 1 dX11_prove_0 rfl rfl ?_
  refine y_iconst (v := 0) hg dX11_prove_1 (by decide) ?_
  refine y_aload_n hg 0 dX11_prove_2 rfl rfl ?_
  obtain ⟨h1, h⟩ := h
  refine y_getI hg fl_X11_202 rfl rfl h1 dX11_prove_3 ?_
  refine y_iconst (v := 1) hg dX11_prove_6 (by decide) ?_
  refine y_isub hg dX11_prove_7 ?_
  refine ySIP (Qp := _) (rest := []) (As := [.int v1, .int 0, .int ((sI σ a0 2) - 1)]) hg (k_X11_isIn (gL g.1) (gD g.1) v1 0 ((sI σ a0 2) - 1) σ _ h) ls_X11_194 rfl rfl dX11_prove_8 (cat8 (Nat.le_of_ble_eq_true rfl)) hrm ⟨Nat.le_of_ble_eq_true rfl, Nat.le_of_ble_eq_true rfl⟩ (fun x2 h => ?_)
  refine y_if_eq (tgt := 23) hg dX11_prove_11 (by decide) (fun q3 => ?_) (fun q3 => ?_)
  · replace h := h.1 q3
    refine y_iconst (v := 0) hg dX11_prove_23 (by decide) ?_
    exact yEndI hend (bz_nar (Or.inl rfl)).1 dX11_prove_24 h
  · replace h := h.2 q3
    refine y_aload_n hg 0 dX11_prove_14 rfl rfl ?_
    refine y_getR hg fl_X11_74 rfl rfl h1 dX11_prove_15 ?_
    refine y_iload_n hg 1 dX11_prove_18 rfl rfl ?_
    obtain ⟨c4, h5, h⟩ := h
    obtain ⟨h6, h⟩ := h
    obtain ⟨h7, h⟩ := h
    refine y_iald hg h5 h6 h7 dX11_prove_19 ?_
    refine y_if_ne (tgt := 25) hg dX11_prove_20 (by decide) (fun q8 => ?_) (fun q8 => ?_)
    · replace h := h.2 q8
      refine y_aload_n hg 0 dX11_prove_25 rfl rfl ?_
      refine y_getR hg fl_X11_80 rfl rfl h1 dX11_prove_26 ?_
      refine y_iload_n hg 1 dX11_prove_29 rfl rfl ?_
      refine y_dup2 hg dX11_prove_30 rfl (rf_cat _) ?_
      obtain ⟨c9, h10, h⟩ := h
      obtain ⟨h11, h⟩ := h
      obtain ⟨h12, h⟩ := h
      refine y_iald hg h10 h11 h12 dX11_prove_31 ?_
      refine y_iconst (v := 1) hg dX11_prove_32 (by decide) ?_
      refine y_aload_n hg 0 dX11_prove_33 rfl rfl ?_
      refine y_getI hg fl_X11_212 rfl rfl h1 dX11_prove_34 ?_
      refine y_sipush (v := 365) hg dX11_prove_37 (by decide) ?_
      refine y_idiv hg dX11_prove_40 (by decide) ?_
      refine y_ishl hg dX11_prove_41 ?_
      refine y_ior hg dX11_prove_42 ?_
      obtain ⟨h13, h⟩ := h
      refine y_iast hg h10 h11 h13 dX11_prove_43 ?_
      refine y_nmS (fun σ14 e15 => ?_)
      replace h := h σ14 e15
      have E16 : sK σ14 = sK σ := by rw [e15]; rfl
      refine y_iconst (v := 1) hg dX11_prove_44 (by decide) ?_
      exact yEndI hend (bz_nar (Or.inr rfl)).1 dX11_prove_45 h
    · replace h := h.1 q8
      refine y_iconst (v := 0) hg dX11_prove_23 (by decide) ?_
      exact yEndI hend (bz_nar (Or.inl rfl)).1 dX11_prove_24 h
def P_X11_stormOf (a0 : Nat) (v1 : Int32) (v2 : Int32) (σ : Sg) (Q : Int64 → Prop) : Prop :=
  sK σ a0 % 32 = 13 ∧ P_X11_isIn v1 0 ((sI σ a0 4) - 1) σ (fun x2 => (x2 = 0 → Q (-1)) ∧ (¬ (x2 = 0) → ∀ y4 : Int32, y4 = v2 → (y4 = 0 → ∃ c6 : Nat, sR σ a0 58 = some c6 ∧ sK σ c6 % 32 = 16 ∧ vp_in v1 (sN σ c6) ∧ Q ((sI σ c6 v1.toNatClampNeg).toInt64)) ∧ (¬ (y4 = 0) → (y4 = 1 → ∃ c10 : Nat, sR σ a0 53 = some c10 ∧ sK σ c10 % 32 = 17 ∧ vp_in v1 (sN σ c10) ∧ Q (sL σ c10 v1.toNatClampNeg)) ∧ (¬ (y4 = 1) → (y4 = 2 → ∃ c14 : Nat, sR σ a0 54 = some c14 ∧ sK σ c14 % 32 = 17 ∧ vp_in v1 (sN σ c14) ∧ Q (sL σ c14 v1.toNatClampNeg)) ∧ (¬ (y4 = 2) → (y4 = 3 → ∃ c18 : Nat, sR σ a0 59 = some c18 ∧ sK σ c18 % 32 = 16 ∧ vp_in v1 (sN σ c18) ∧ Q ((sI σ c18 v1.toNatClampNeg).toInt64)) ∧ (¬ (y4 = 3) → (y4 = 4 → ∃ c22 : Nat, sR σ a0 55 = some c22 ∧ sK σ c22 % 32 = 17 ∧ vp_in v1 (sN σ c22) ∧ Q (sL σ c22 v1.toNatClampNeg)) ∧ (¬ (y4 = 4) → Q (-1))))))))
set_option maxHeartbeats 4000000 in
set_option maxRecDepth 100000 in
theorem k_X11_stormOf (l : Launch) (D : Dg) (a0 : Nat) (v1 : Int32) (v2 : Int32) (σ : Sg) (Q : Int64 → Prop) (h : P_X11_stormOf a0 v1 v2 σ Q) : CtrY RN l D yX11_stormOf cX11_stormOf 3 (some FieldType.long) 1 22 mkL [.ref a0, .int v1, .int v2] σ (0, 0) (fun r σ2 => Q r ∧ σ2 = σ) := by
  refine y_ctrN (lv := [(0, va_rf (some a0)), (1, .int v1), (2, .int v2)]) (by decide) (by (exact Nat.le_of_ble_eq_true rfl)) (by (exact rfl)) (fun g hg hgL hgD hrm hgN hgI hend => ?_)
  subst hgD
  clear hgL
  unfold P_X11_stormOf at h
  refine y_iload_n hg 1 dX11_stormOf_0 rfl rfl ?_
  refine y_iconst (v := 0) hg dX11_stormOf_1 (by decide) ?_
  refine y_aload_n hg 0 dX11_stormOf_2 rfl rfl ?_
  obtain ⟨h1, h⟩ := h
  refine y_getI hg fl_X11_295 rfl rfl h1 dX11_stormOf_3 ?_
  refine y_iconst (v := 1) hg dX11_stormOf_6 (by decide) ?_
  refine y_isub hg dX11_stormOf_7 ?_
  refine ySIP (Qp := _) (rest := []) (As := [.int v1, .int 0, .int ((sI σ a0 4) - 1)]) hg (k_X11_isIn (gL g.1) (gD g.1) v1 0 ((sI σ a0 4) - 1) σ _ h) ls_X11_194 rfl rfl dX11_stormOf_8 (cat8 (Nat.le_of_ble_eq_true rfl)) hrm ⟨Nat.le_of_ble_eq_true rfl, Nat.le_of_ble_eq_true rfl⟩ (fun x2 h => ?_)
  refine y_if_ne (tgt := 18) hg dX11_stormOf_11 (by decide) (fun q3 => ?_) (fun q3 => ?_)
  · replace h := h.2 q3
    refine y_iload_n hg 2 dX11_stormOf_18 rfl rfl ?_
    refine y_nmI (fun y4 e5 => ?_)
    replace h := h y4 e5
    by_cases q19_0 : y4 = 0
    · replace h := h.1 q19_0
      refine y_tableIn (tgt := 52) hg dX11_stormOf_19 (by rw [q19_0]; decide) (by rw [q19_0]; decide) (by rw [q19_0]; rfl) (by decide) ?_
      refine y_aload_n hg 0 dX11_stormOf_52 rfl rfl ?_
      refine y_getR hg fl_X11_132 rfl rfl h1 dX11_stormOf_53 ?_
      refine y_iload_n hg 1 dX11_stormOf_56 rfl rfl ?_
      obtain ⟨c6, h7, h⟩ := h
      obtain ⟨h8, h⟩ := h
      obtain ⟨h9, h⟩ := h
      refine y_iald hg h7 h8 h9 dX11_stormOf_57 ?_
      refine y_i2l hg dX11_stormOf_58 ?_
      exact yEndL hend dX11_stormOf_59 ⟨h, rfl⟩
    · replace h := h.2 q19_0
      by_cases q19_1 : y4 = 1
      · replace h := h.1 q19_1
        refine y_tableIn (tgt := 60) hg dX11_stormOf_19 (by rw [q19_1]; decide) (by rw [q19_1]; decide) (by rw [q19_1]; rfl) (by decide) ?_
        refine y_aload_n hg 0 dX11_stormOf_60 rfl rfl ?_
        refine y_getR hg fl_X11_117 rfl rfl h1 dX11_stormOf_61 ?_
        refine y_iload_n hg 1 dX11_stormOf_64 rfl rfl ?_
        obtain ⟨c10, h11, h⟩ := h
        obtain ⟨h12, h⟩ := h
        obtain ⟨h13, h⟩ := h
        refine y_lald hg h11 h12 h13 dX11_stormOf_65 ?_
        exact yEndL hend dX11_stormOf_66 ⟨h, rfl⟩
      · replace h := h.2 q19_1
        by_cases q19_2 : y4 = 2
        · replace h := h.1 q19_2
          refine y_tableIn (tgt := 67) hg dX11_stormOf_19 (by rw [q19_2]; decide) (by rw [q19_2]; decide) (by rw [q19_2]; rfl) (by decide) ?_
          refine y_aload_n hg 0 dX11_stormOf_67 rfl rfl ?_
          refine y_getR hg fl_X11_120 rfl rfl h1 dX11_stormOf_68 ?_
          refine y_iload_n hg 1 dX11_stormOf_71 rfl rfl ?_
          obtain ⟨c14, h15, h⟩ := h
          obtain ⟨h16, h⟩ := h
          obtain ⟨h17, h⟩ := h
          refine y_lald hg h15 h16 h17 dX11_stormOf_72 ?_
          exact yEndL hend dX11_stormOf_73 ⟨h, rfl⟩
        · replace h := h.2 q19_2
          by_cases q19_3 : y4 = 3
          · replace h := h.1 q19_3
            refine y_tableIn (tgt := 74) hg dX11_stormOf_19 (by rw [q19_3]; decide) (by rw [q19_3]; decide) (by rw [q19_3]; rfl) (by decide) ?_
            refine y_aload_n hg 0 dX11_stormOf_74 rfl rfl ?_
            refine y_getR hg fl_X11_135 rfl rfl h1 dX11_stormOf_75 ?_
            refine y_iload_n hg 1 dX11_stormOf_78 rfl rfl ?_
            obtain ⟨c18, h19, h⟩ := h
            obtain ⟨h20, h⟩ := h
            obtain ⟨h21, h⟩ := h
            refine y_iald hg h19 h20 h21 dX11_stormOf_79 ?_
            refine y_i2l hg dX11_stormOf_80 ?_
            exact yEndL hend dX11_stormOf_81 ⟨h, rfl⟩
          · replace h := h.2 q19_3
            by_cases q19_4 : y4 = 4
            · replace h := h.1 q19_4
              refine y_tableIn (tgt := 82) hg dX11_stormOf_19 (by rw [q19_4]; decide) (by rw [q19_4]; decide) (by rw [q19_4]; rfl) (by decide) ?_
              refine y_aload_n hg 0 dX11_stormOf_82 rfl rfl ?_
              refine y_getR hg fl_X11_123 rfl rfl h1 dX11_stormOf_83 ?_
              refine y_iload_n hg 1 dX11_stormOf_86 rfl rfl ?_
              obtain ⟨c22, h23, h⟩ := h
              obtain ⟨h24, h⟩ := h
              obtain ⟨h25, h⟩ := h
              refine y_lald hg h23 h24 h25 dX11_stormOf_87 ?_
              exact yEndL hend dX11_stormOf_88 ⟨h, rfl⟩
            · replace h := h.2 q19_4
              refine y_tableOut (tgt := 89) hg dX11_stormOf_19 (sw4_out q19_0 q19_1 q19_2 q19_3 q19_4) (by decide) ?_
              refine y_ldc2 hg cw_X11_313 dX11_stormOf_89 ?_
              exact yEndL hend dX11_stormOf_92 ⟨h, rfl⟩
  · replace h := h.1 q3
    refine y_ldc2 hg cw_X11_313 dX11_stormOf_14 ?_
    exact yEndL hend dX11_stormOf_17 ⟨h, rfl⟩
