def P_X11_count_B208 (a0 : Nat) (v3 : Int32) (w0 : Int32) (w1 : Int32) (σ : Sg) (Q : Int32 → Prop) (K176 : Int32 → Int32 → Prop) : Prop :=
  P_X11_one w1 σ (fun x52 => ∀ x53 : Int32, x53 = w0 + x52 → ∀ x55 : Int32, x55 = v3 + 1 → K176 x53 x55)
def P_X11_count_B207 (a0 : Nat) (v3 : Int32) (w0 : Int32) (σ : Sg) (Q : Int32 → Prop) (K176 : Int32 → Int32 → Prop) : Prop :=
  P_X11_count_B208 a0 v3 w0 0 σ Q K176
def P_X11_count_L176b (a0 : Nat) (v2 : Int32) (v3 : Int32) (σ : Sg) (Q : Int32 → Prop) (K176 : Int32 → Int32 → Prop) : Prop :=
  sK σ a0 % 32 = 13 ∧ ((sI σ a0 1) ≤ v3 → Q v2) ∧ (¬ ((sI σ a0 1) ≤ v3) → ∃ c42 : Nat, sR σ a0 12 = some c42 ∧ sK σ c42 % 32 = 18 ∧ vp_in v3 (sN σ c42) ∧ ((sI σ c42 v3.toNatClampNeg) = 0 → P_X11_count_B207 a0 v3 v2 σ Q K176) ∧ (¬ ((sI σ c42 v3.toNatClampNeg) = 0) → ∃ c47 : Nat, sR σ a0 14 = some c47 ∧ sK σ c47 % 32 = 18 ∧ vp_in v3 (sN σ c47) ∧ ((sI σ c47 v3.toNatClampNeg) = 0 → P_X11_count_B208 a0 v3 v2 1 σ Q K176) ∧ (¬ ((sI σ c47 v3.toNatClampNeg) = 0) → P_X11_count_B207 a0 v3 v2 σ Q K176)))
def P_X11_count_L176 (a0 : Nat) (v2 : Int32) (v3 : Int32) (σ : Sg) (Q : Int32 → Prop) : Prop :=
  ∃ I : Nat → Int32 → Int32 → Prop, (∃ n, I n v2 v3) ∧ ∀ (n : Nat) (v2 : Int32) (v3 : Int32), I n v2 v3 → P_X11_count_L176b a0 v2 v3 σ Q (fun v2 v3 => ∃ n', n' < n ∧ I n' v2 v3)
def P_X11_count_L146b (a0 : Nat) (v2 : Int32) (v3 : Int32) (σ : Sg) (Q : Int32 → Prop) (K146 : Int32 → Int32 → Prop) : Prop :=
  sK σ a0 % 32 = 13 ∧ ((sI σ a0 6) ≤ v3 → Q v2) ∧ (¬ ((sI σ a0 6) ≤ v3) → ∃ c29 : Nat, sR σ a0 66 = some c29 ∧ sK σ c29 % 32 = 18 ∧ vp_in v3 (sN σ c29) ∧ P_X11_one (sI σ c29 v3.toNatClampNeg) σ (fun x33 => ∀ x34 : Int32, x34 = v2 + x33 → ∀ x36 : Int32, x36 = v3 + 1 → K146 x34 x36))
def P_X11_count_L146 (a0 : Nat) (v2 : Int32) (v3 : Int32) (σ : Sg) (Q : Int32 → Prop) : Prop :=
  ∃ I : Nat → Int32 → Int32 → Prop, (∃ n, I n v2 v3) ∧ ∀ (n : Nat) (v2 : Int32) (v3 : Int32), I n v2 v3 → P_X11_count_L146b a0 v2 v3 σ Q (fun v2 v3 => ∃ n', n' < n ∧ I n' v2 v3)
def P_X11_count_L85b (a0 : Nat) (v2 : Int32) (v3 : Int32) (σ : Sg) (Q : Int32 → Prop) (K85 : Int32 → Int32 → Prop) : Prop :=
  sK σ a0 % 32 = 13 ∧ ((sI σ a0 1) ≤ v3 → Q v2) ∧ (¬ ((sI σ a0 1) ≤ v3) → ∃ c16 : Nat, sR σ a0 12 = some c16 ∧ sK σ c16 % 32 = 18 ∧ vp_in v3 (sN σ c16) ∧ P_X11_one (sI σ c16 v3.toNatClampNeg) σ (fun x20 => ∀ x21 : Int32, x21 = v2 + x20 → ∀ x23 : Int32, x23 = v3 + 1 → K85 x21 x23))
def P_X11_count_L85 (a0 : Nat) (v2 : Int32) (v3 : Int32) (σ : Sg) (Q : Int32 → Prop) : Prop :=
  ∃ I : Nat → Int32 → Int32 → Prop, (∃ n, I n v2 v3) ∧ ∀ (n : Nat) (v2 : Int32) (v3 : Int32), I n v2 v3 → P_X11_count_L85b a0 v2 v3 σ Q (fun v2 v3 => ∃ n', n' < n ∧ I n' v2 v3)
def P_X11_count (a0 : Nat) (v1 : Int32) (σ : Sg) (Q : Int32 → Prop) : Prop :=
  ∀ y1 : Int32, y1 = v1 → (y1 = 0 → sK σ a0 % 32 = 13 ∧ Q (sI σ a0 0)) ∧ (¬ (y1 = 0) → (y1 = 1 → sK σ a0 % 32 = 13 ∧ Q (sI σ a0 1)) ∧ (¬ (y1 = 1) → (y1 = 2 → sK σ a0 % 32 = 13 ∧ Q (sI σ a0 2)) ∧ (¬ (y1 = 2) → (y1 = 3 → P_X11_count_L85 a0 0 0 σ Q) ∧ (¬ (y1 = 3) → (y1 = 4 → sK σ a0 % 32 = 13 ∧ P_X11_parked a0 0 σ (fun x7 => Q x7)) ∧ (¬ (y1 = 4) → (y1 = 5 → sK σ a0 % 32 = 13 ∧ Q (sI σ a0 3)) ∧ (¬ (y1 = 5) → (y1 = 6 → sK σ a0 % 32 = 13 ∧ Q (sI σ a0 4)) ∧ (¬ (y1 = 6) → (y1 = 7 → sK σ a0 % 32 = 13 ∧ Q (sI σ a0 67)) ∧ (¬ (y1 = 7) → (y1 = 8 → sK σ a0 % 32 = 13 ∧ Q (sI σ a0 5)) ∧ (¬ (y1 = 8) → (y1 = 9 → sK σ a0 % 32 = 13 ∧ Q (sI σ a0 6)) ∧ (¬ (y1 = 9) → (y1 = 10 → P_X11_count_L146 a0 0 0 σ Q) ∧ (¬ (y1 = 10) → (y1 = 11 → P_X11_count_L176 a0 0 0 σ Q) ∧ (¬ (y1 = 11) → (y1 = 12 → sK σ a0 % 32 = 13 ∧ Q (sI σ a0 77)) ∧ (¬ (y1 = 12) → Q (-1))))))))))))))
set_option maxHeartbeats 4000000 in
set_option maxRecDepth 100000 in
theorem k_X11_count (l : Launch) (D : Dg) (a0 : Nat) (v1 : Int32) (σ : Sg) (Q : Int32 → Prop) (h : P_X11_count a0 v1 σ Q) : CtrY RN l D yX11_count cX11_count 4 (some FieldType.int) 1 23 mkI [.ref a0, .int v1] σ (0, 0) (fun r σ2 => Q r ∧ σ2 = σ) := by
  refine y_ctrN (lv := [(0, va_rf (some a0)), (1, .int v1)]) (by decide) (by (exact Nat.le_of_ble_eq_true rfl)) (by (exact rfl)) (fun g hg hgL hgD hrm hgN hgI hend => ?_)
  subst hgD
  clear hgL
  unfold P_X11_count at h
  have J176 : ∀ (v2 : Int32) (v3 : Int32), P_X11_count_L176 a0 v2 v3 σ Q → XA g 176 [(0, va_rf (some a0)), (2, .int v2), (3, .int v3)] [] σ (0, 0) := by
    intro v2 v3 h
    unfold P_X11_count_L176 at h
    obtain ⟨I176, ⟨n176, hI176⟩, hs176⟩ := h
    have key176 : ∀ (n : Nat), ∀ (v2 : Int32) (v3 : Int32), I176 n v2 v3 → XA g 176 [(0, va_rf (some a0)), (2, .int v2), (3, .int v3)] [] σ (0, 0) := by
      intro n
      induction n using Nat.strongRecOn with
      | _ n ih176 =>
      intro v2 v3 hI
      have h := hs176 n v2 v3 hI
      clear hI hI176 hs176
      obtain ⟨K176, hK176⟩ : ∃ K : Int32 → Int32 → Prop, K = (fun v2 v3 => ∃ n', n' < n ∧ I176 n' v2 v3) := ⟨_, rfl⟩
      rw [← hK176] at h
      unfold P_X11_count_L176b at h
      have J208 : ∀ (v3 : Int32) (w0 : Int32) (w1 : Int32), P_X11_count_B208 a0 v3 w0 w1 σ Q K176 → XA g 208 [(0, va_rf (some a0)), (3, .int v3)] [.int w1, .int w0] σ (0, 0) := by
        intro v3 w0 w1 h
        unfold P_X11_count_B208 at h
        refine ySIP (Qp := _) (rest := [.int w0]) (As := [.int w1]) hg (k_X11_one (gL g.1) (gD g.1) w1 σ _ h) ls_X11_319 rfl rfl dX11_count_208 (cat8 (Nat.le_of_ble_eq_true rfl)) hrm ⟨Nat.le_of_ble_eq_true rfl, Nat.le_of_ble_eq_true rfl⟩ (fun x52 h => ?_)
        refine y_iadd hg dX11_count_211 ?_
        refine y_nmI (fun x53 e54 => ?_)
        replace h := h x53 e54
        refine y_istore_n (lv' := [(2, .int x53), (0, va_rf (some a0)), (3, .int v3)]) hg dX11_count_212 rfl (by rw [hgN]; decide) rfl ?_
        obtain ⟨x55, e56⟩ : ∃ y : Int32, y = v3 + 1 := ⟨_, rfl⟩
        replace h := h x55 e56
        refine y_iinc (v := x55) (lv' := [(3, .int x55), (2, .int x53), (0, va_rf (some a0))]) hg 2 dX11_count_213 rfl (by rw [e56]; rfl) (by rw [hgN]; decide) rfl ?_
        refine y_goto (tgt := 176) hg dX11_count_216 (by decide) ?_
        refine y_sub [2, 1, 0] rfl ?_
        subst hK176
        obtain ⟨n57, h58, h⟩ := h
        exact ih176 n57 h58 _ _ h
      have J207 : ∀ (v3 : Int32) (w0 : Int32), P_X11_count_B207 a0 v3 w0 σ Q K176 → XA g 207 [(0, va_rf (some a0)), (3, .int v3)] [.int w0] σ (0, 0) := by
        intro v3 w0 h
        unfold P_X11_count_B207 at h
        refine y_iconst (v := 0) hg dX11_count_207 (by decide) ?_
        refine y_sub [0, 1] rfl ?_
        exact J208 _ _ _ h
      refine y_iload_n hg 2 dX11_count_176 rfl rfl ?_
      refine y_aload_n hg 0 dX11_count_177 rfl rfl ?_
      obtain ⟨h40, h⟩ := h
      refine y_getI hg fl_X11_191 rfl rfl h40 dX11_count_178 ?_
      refine y_icmp_ge (tgt := 219) hg dX11_count_181 (by decide) (fun q41 => ?_) (fun q41 => ?_)
      · replace h := h.1 q41
        refine y_iload_n hg 1 dX11_count_219 rfl rfl ?_
        exact yEndI hend rfl dX11_count_220 ⟨h, rfl⟩
      · replace h := h.2 q41
        refine y_iload_n hg 1 dX11_count_184 rfl rfl ?_
        refine y_aload_n hg 0 dX11_count_185 rfl rfl ?_
        refine y_getR hg fl_X11_25 rfl rfl h40 dX11_count_186 ?_
        refine y_iload_n hg 2 dX11_count_189 rfl rfl ?_
        obtain ⟨c42, h43, h⟩ := h
        obtain ⟨h44, h⟩ := h
        obtain ⟨h45, h⟩ := h
        refine y_zald hg h43 h44 h45 dX11_count_190 ?_
        refine y_if_eq (tgt := 207) hg dX11_count_191 (by decide) (fun q46 => ?_) (fun q46 => ?_)
        · replace h := h.1 q46
          refine y_sub [0, 2] rfl ?_
          exact J207 _ _ h
        · replace h := h.2 q46
          refine y_aload_n hg 0 dX11_count_194 rfl rfl ?_
          refine y_getR hg fl_X11_32 rfl rfl h40 dX11_count_195 ?_
          refine y_iload_n hg 2 dX11_count_198 rfl rfl ?_
          obtain ⟨c47, h48, h⟩ := h
          obtain ⟨h49, h⟩ := h
          obtain ⟨h50, h⟩ := h
          refine y_zald hg h48 h49 h50 dX11_count_199 ?_
          refine y_if_ne (tgt := 207) hg dX11_count_200 (by decide) (fun q51 => ?_) (fun q51 => ?_)
          · replace h := h.2 q51
            refine y_sub [0, 2] rfl ?_
            exact J207 _ _ h
          · replace h := h.1 q51
            refine y_iconst (v := 1) hg dX11_count_203 (by decide) ?_
            refine y_goto (tgt := 208) hg dX11_count_204 (by decide) ?_
            refine y_sub [0, 2] rfl ?_
            exact J208 _ _ _ h
    exact key176 n176 v2 v3 hI176
  have J146 : ∀ (v2 : Int32) (v3 : Int32), P_X11_count_L146 a0 v2 v3 σ Q → XA g 146 [(0, va_rf (some a0)), (2, .int v2), (3, .int v3)] [] σ (0, 0) := by
    intro v2 v3 h
    unfold P_X11_count_L146 at h
    obtain ⟨I146, ⟨n146, hI146⟩, hs146⟩ := h
    have key146 : ∀ (n : Nat), ∀ (v2 : Int32) (v3 : Int32), I146 n v2 v3 → XA g 146 [(0, va_rf (some a0)), (2, .int v2), (3, .int v3)] [] σ (0, 0) := by
      intro n
      induction n using Nat.strongRecOn with
      | _ n ih146 =>
      intro v2 v3 hI
      have h := hs146 n v2 v3 hI
      clear hI hI146 hs146
      obtain ⟨K146, hK146⟩ : ∃ K : Int32 → Int32 → Prop, K = (fun v2 v3 => ∃ n', n' < n ∧ I146 n' v2 v3) := ⟨_, rfl⟩
      rw [← hK146] at h
      unfold P_X11_count_L146b at h
      refine y_iload_n hg 2 dX11_count_146 rfl rfl ?_
      refine y_aload_n hg 0 dX11_count_147 rfl rfl ?_
      obtain ⟨h27, h⟩ := h
      refine y_getI hg fl_X11_338 rfl rfl h27 dX11_count_148 ?_
      refine y_icmp_ge (tgt := 172) hg dX11_count_151 (by decide) (fun q28 => ?_) (fun q28 => ?_)
      · replace h := h.1 q28
        refine y_iload_n hg 1 dX11_count_172 rfl rfl ?_
        exact yEndI hend rfl dX11_count_173 ⟨h, rfl⟩
      · replace h := h.2 q28
        refine y_iload_n hg 1 dX11_count_154 rfl rfl ?_
        refine y_aload_n hg 0 dX11_count_155 rfl rfl ?_
        refine y_getR hg fl_X11_156 rfl rfl h27 dX11_count_156 ?_
        refine y_iload_n hg 2 dX11_count_159 rfl rfl ?_
        obtain ⟨c29, h30, h⟩ := h
        obtain ⟨h31, h⟩ := h
        obtain ⟨h32, h⟩ := h
        refine y_zald hg h30 h31 h32 dX11_count_160 ?_
        refine ySIP (Qp := _) (rest := [.int v2]) (As := [.int (sI σ c29 v3.toNatClampNeg)]) hg (k_X11_one (gL g.1) (gD g.1) (sI σ c29 v3.toNatClampNeg) σ _ h) ls_X11_319 rfl rfl dX11_count_161 (cat8 (Nat.le_of_ble_eq_true rfl)) hrm ⟨Nat.le_of_ble_eq_true rfl, Nat.le_of_ble_eq_true rfl⟩ (fun x33 h => ?_)
        refine y_iadd hg dX11_count_164 ?_
        refine y_nmI (fun x34 e35 => ?_)
        replace h := h x34 e35
        refine y_istore_n (lv' := [(2, .int x34), (0, va_rf (some a0)), (3, .int v3)]) hg dX11_count_165 rfl (by rw [hgN]; decide) rfl ?_
        obtain ⟨x36, e37⟩ : ∃ y : Int32, y = v3 + 1 := ⟨_, rfl⟩
        replace h := h x36 e37
        refine y_iinc (v := x36) (lv' := [(3, .int x36), (2, .int x34), (0, va_rf (some a0))]) hg 2 dX11_count_166 rfl (by rw [e37]; rfl) (by rw [hgN]; decide) rfl ?_
        refine y_goto (tgt := 146) hg dX11_count_169 (by decide) ?_
        refine y_sub [2, 1, 0] rfl ?_
        subst hK146
        obtain ⟨n38, h39, h⟩ := h
        exact ih146 n38 h39 _ _ h
    exact key146 n146 v2 v3 hI146
  have J85 : ∀ (v2 : Int32) (v3 : Int32), P_X11_count_L85 a0 v2 v3 σ Q → XA g 85 [(0, va_rf (some a0)), (2, .int v2), (3, .int v3)] [] σ (0, 0) := by
    intro v2 v3 h
    unfold P_X11_count_L85 at h
    obtain ⟨I85, ⟨n85, hI85⟩, hs85⟩ := h
    have key85 : ∀ (n : Nat), ∀ (v2 : Int32) (v3 : Int32), I85 n v2 v3 → XA g 85 [(0, va_rf (some a0)), (2, .int v2), (3, .int v3)] [] σ (0, 0) := by
      intro n
      induction n using Nat.strongRecOn with
      | _ n ih85 =>
      intro v2 v3 hI
      have h := hs85 n v2 v3 hI
      clear hI hI85 hs85
      obtain ⟨K85, hK85⟩ : ∃ K : Int32 → Int32 → Prop, K = (fun v2 v3 => ∃ n', n' < n ∧ I85 n' v2 v3) := ⟨_, rfl⟩
      rw [← hK85] at h
      unfold P_X11_count_L85b at h
      refine y_iload_n hg 2 dX11_count_85 rfl rfl ?_
      refine y_aload_n hg 0 dX11_count_86 rfl rfl ?_
      obtain ⟨h14, h⟩ := h
      refine y_getI hg fl_X11_191 rfl rfl h14 dX11_count_87 ?_
      refine y_icmp_ge (tgt := 111) hg dX11_count_90 (by decide) (fun q15 => ?_) (fun q15 => ?_)
      · replace h := h.1 q15
        refine y_iload_n hg 1 dX11_count_111 rfl rfl ?_
        exact yEndI hend rfl dX11_count_112 ⟨h, rfl⟩
      · replace h := h.2 q15
        refine y_iload_n hg 1 dX11_count_93 rfl rfl ?_
        refine y_aload_n hg 0 dX11_count_94 rfl rfl ?_
        refine y_getR hg fl_X11_25 rfl rfl h14 dX11_count_95 ?_
        refine y_iload_n hg 2 dX11_count_98 rfl rfl ?_
        obtain ⟨c16, h17, h⟩ := h
        obtain ⟨h18, h⟩ := h
        obtain ⟨h19, h⟩ := h
        refine y_zald hg h17 h18 h19 dX11_count_99 ?_
        refine ySIP (Qp := _) (rest := [.int v2]) (As := [.int (sI σ c16 v3.toNatClampNeg)]) hg (k_X11_one (gL g.1) (gD g.1) (sI σ c16 v3.toNatClampNeg) σ _ h) ls_X11_319 rfl rfl dX11_count_100 (cat8 (Nat.le_of_ble_eq_true rfl)) hrm ⟨Nat.le_of_ble_eq_true rfl, Nat.le_of_ble_eq_true rfl⟩ (fun x20 h => ?_)
        refine y_iadd hg dX11_count_103 ?_
        refine y_nmI (fun x21 e22 => ?_)
        replace h := h x21 e22
        refine y_istore_n (lv' := [(2, .int x21), (0, va_rf (some a0)), (3, .int v3)]) hg dX11_count_104 rfl (by rw [hgN]; decide) rfl ?_
        obtain ⟨x23, e24⟩ : ∃ y : Int32, y = v3 + 1 := ⟨_, rfl⟩
        replace h := h x23 e24
        refine y_iinc (v := x23) (lv' := [(3, .int x23), (2, .int x21), (0, va_rf (some a0))]) hg 2 dX11_count_105 rfl (by rw [e24]; rfl) (by rw [hgN]; decide) rfl ?_
        refine y_goto (tgt := 85) hg dX11_count_108 (by decide) ?_
        refine y_sub [2, 1, 0] rfl ?_
        subst hK85
        obtain ⟨n25, h26, h⟩ := h
        exact ih85 n25 h26 _ _ h
    exact key85 n85 v2 v3 hI85
  refine y_iconst (v := 0) hg dX11_count_0 (by decide) ?_
  refine y_istore_n (lv' := [(2, .int 0), (0, va_rf (some a0)), (1, .int v1)]) hg dX11_count_1 rfl (by rw [hgN]; decide) rfl ?_
  refine y_iload_n hg 2 dX11_count_2 rfl rfl ?_
  refine y_nmI (fun y1 e2 => ?_)
  replace h := h y1 e2
  by_cases q3_0 : y1 = 0
  · replace h := h.1 q3_0
    refine y_tableIn (tgt := 68) hg dX11_count_3 (by rw [q3_0]; decide) (by rw [q3_0]; decide) (by rw [q3_0]; rfl) (by decide) ?_
    refine y_aload_n hg 1 dX11_count_68 rfl rfl ?_
    obtain ⟨h3, h⟩ := h
    refine y_getI hg fl_X11_212 rfl rfl h3 dX11_count_69 ?_
    exact yEndI hend rfl dX11_count_72 ⟨h, rfl⟩
  · replace h := h.2 q3_0
    by_cases q3_1 : y1 = 1
    · replace h := h.1 q3_1
      refine y_tableIn (tgt := 73) hg dX11_count_3 (by rw [q3_1]; decide) (by rw [q3_1]; decide) (by rw [q3_1]; rfl) (by decide) ?_
      refine y_aload_n hg 1 dX11_count_73 rfl rfl ?_
      obtain ⟨h4, h⟩ := h
      refine y_getI hg fl_X11_191 rfl rfl h4 dX11_count_74 ?_
      exact yEndI hend rfl dX11_count_77 ⟨h, rfl⟩
    · replace h := h.2 q3_1
      by_cases q3_2 : y1 = 2
      · replace h := h.1 q3_2
        refine y_tableIn (tgt := 78) hg dX11_count_3 (by rw [q3_2]; decide) (by rw [q3_2]; decide) (by rw [q3_2]; rfl) (by decide) ?_
        refine y_aload_n hg 1 dX11_count_78 rfl rfl ?_
        obtain ⟨h5, h⟩ := h
        refine y_getI hg fl_X11_202 rfl rfl h5 dX11_count_79 ?_
        exact yEndI hend rfl dX11_count_82 ⟨h, rfl⟩
      · replace h := h.2 q3_2
        by_cases q3_3 : y1 = 3
        · replace h := h.1 q3_3
          refine y_tableIn (tgt := 83) hg dX11_count_3 (by rw [q3_3]; decide) (by rw [q3_3]; decide) (by rw [q3_3]; rfl) (by decide) ?_
          refine y_iconst (v := 0) hg dX11_count_83 (by decide) ?_
          refine y_istore_n (lv' := [(3, .int 0), (2, .int 0), (0, va_rf (some a0)), (1, .int v1)]) hg dX11_count_84 rfl (by rw [hgN]; decide) rfl ?_
          refine y_sub [2, 1, 0] rfl ?_
          exact J85 _ _ h
        · replace h := h.2 q3_3
          by_cases q3_4 : y1 = 4
          · replace h := h.1 q3_4
            refine y_tableIn (tgt := 113) hg dX11_count_3 (by rw [q3_4]; decide) (by rw [q3_4]; decide) (by rw [q3_4]; rfl) (by decide) ?_
            refine y_aload_n hg 1 dX11_count_113 rfl rfl ?_
            refine y_iconst (v := 0) hg dX11_count_114 (by decide) ?_
            obtain ⟨h6, h⟩ := h
            refine yVIP (Qp := _) (rest := []) (As := [.int 0]) hg (k_X11_parked (gL g.1) (gD g.1) a0 0 σ _ h) lv_X11_205 rfl h6 rfl rfl dX11_count_115 (cat8 (Nat.le_of_ble_eq_true rfl)) hrm ⟨Nat.le_of_ble_eq_true rfl, Nat.le_of_ble_eq_true rfl⟩ (fun x7 h => ?_)
            exact yEndI hend rfl dX11_count_118 ⟨h, rfl⟩
          · replace h := h.2 q3_4
            by_cases q3_5 : y1 = 5
            · replace h := h.1 q3_5
              refine y_tableIn (tgt := 119) hg dX11_count_3 (by rw [q3_5]; decide) (by rw [q3_5]; decide) (by rw [q3_5]; rfl) (by decide) ?_
              refine y_aload_n hg 1 dX11_count_119 rfl rfl ?_
              obtain ⟨h8, h⟩ := h
              refine y_getI hg fl_X11_257 rfl rfl h8 dX11_count_120 ?_
              exact yEndI hend rfl dX11_count_123 ⟨h, rfl⟩
            · replace h := h.2 q3_5
              by_cases q3_6 : y1 = 6
              · replace h := h.1 q3_6
                refine y_tableIn (tgt := 124) hg dX11_count_3 (by rw [q3_6]; decide) (by rw [q3_6]; decide) (by rw [q3_6]; rfl) (by decide) ?_
                refine y_aload_n hg 1 dX11_count_124 rfl rfl ?_
                obtain ⟨h9, h⟩ := h
                refine y_getI hg fl_X11_295 rfl rfl h9 dX11_count_125 ?_
                exact yEndI hend rfl dX11_count_128 ⟨h, rfl⟩
              · replace h := h.2 q3_6
                by_cases q3_7 : y1 = 7
                · replace h := h.1 q3_7
                  refine y_tableIn (tgt := 129) hg dX11_count_3 (by rw [q3_7]; decide) (by rw [q3_7]; decide) (by rw [q3_7]; rfl) (by decide) ?_
                  refine y_aload_n hg 1 dX11_count_129 rfl rfl ?_
                  obtain ⟨h10, h⟩ := h
                  refine y_getI hg fl_X11_419 rfl rfl h10 dX11_count_130 ?_
                  exact yEndI hend rfl dX11_count_133 ⟨h, rfl⟩
                · replace h := h.2 q3_7
                  by_cases q3_8 : y1 = 8
                  · replace h := h.1 q3_8
                    refine y_tableIn (tgt := 134) hg dX11_count_3 (by rw [q3_8]; decide) (by rw [q3_8]; decide) (by rw [q3_8]; rfl) (by decide) ?_
                    refine y_aload_n hg 1 dX11_count_134 rfl rfl ?_
                    obtain ⟨h11, h⟩ := h
                    refine y_getI hg fl_X11_335 rfl rfl h11 dX11_count_135 ?_
                    exact yEndI hend rfl dX11_count_138 ⟨h, rfl⟩
                  · replace h := h.2 q3_8
                    by_cases q3_9 : y1 = 9
                    · replace h := h.1 q3_9
                      refine y_tableIn (tgt := 139) hg dX11_count_3 (by rw [q3_9]; decide) (by rw [q3_9]; decide) (by rw [q3_9]; rfl) (by decide) ?_
                      refine y_aload_n hg 1 dX11_count_139 rfl rfl ?_
                      obtain ⟨h12, h⟩ := h
                      refine y_getI hg fl_X11_338 rfl rfl h12 dX11_count_140 ?_
                      exact yEndI hend rfl dX11_count_143 ⟨h, rfl⟩
                    · replace h := h.2 q3_9
                      by_cases q3_10 : y1 = 10
                      · replace h := h.1 q3_10
                        refine y_tableIn (tgt := 144) hg dX11_count_3 (by rw [q3_10]; decide) (by rw [q3_10]; decide) (by rw [q3_10]; rfl) (by decide) ?_
                        refine y_iconst (v := 0) hg dX11_count_144 (by decide) ?_
                        refine y_istore_n (lv' := [(3, .int 0), (2, .int 0), (0, va_rf (some a0)), (1, .int v1)]) hg dX11_count_145 rfl (by rw [hgN]; decide) rfl ?_
                        refine y_sub [2, 1, 0] rfl ?_
                        exact J146 _ _ h
                      · replace h := h.2 q3_10
                        by_cases q3_11 : y1 = 11
                        · replace h := h.1 q3_11
                          refine y_tableIn (tgt := 174) hg dX11_count_3 (by rw [q3_11]; decide) (by rw [q3_11]; decide) (by rw [q3_11]; rfl) (by decide) ?_
                          refine y_iconst (v := 0) hg dX11_count_174 (by decide) ?_
                          refine y_istore_n (lv' := [(3, .int 0), (2, .int 0), (0, va_rf (some a0)), (1, .int v1)]) hg dX11_count_175 rfl (by rw [hgN]; decide) rfl ?_
                          refine y_sub [2, 1, 0] rfl ?_
                          exact J176 _ _ h
                        · replace h := h.2 q3_11
                          by_cases q3_12 : y1 = 12
                          · replace h := h.1 q3_12
                            refine y_tableIn (tgt := 221) hg dX11_count_3 (by rw [q3_12]; decide) (by rw [q3_12]; decide) (by rw [q3_12]; rfl) (by decide) ?_
                            refine y_aload_n hg 1 dX11_count_221 rfl rfl ?_
                            obtain ⟨h13, h⟩ := h
                            refine y_getI hg fl_X11_341 rfl rfl h13 dX11_count_222 ?_
                            exact yEndI hend rfl dX11_count_225 ⟨h, rfl⟩
                          · replace h := h.2 q3_12
                            refine y_tableOut (tgt := 226) hg dX11_count_3 (sw12_out q3_0 q3_1 q3_2 q3_3 q3_4 q3_5 q3_6 q3_7 q3_8 q3_9 q3_10 q3_11 q3_12) (by decide) ?_
                            refine y_iconst (v := (-1)) hg dX11_count_226 (by decide) ?_
                            exact yEndI hend rfl dX11_count_227 ⟨h, rfl⟩
