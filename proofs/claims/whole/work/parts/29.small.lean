/-! ===== level 2: small readers ===== -/
theorem p_isIn {v lo hi : Int32} {S : Sg} {Q : Int32 → Prop} (h : Q (inn v lo hi)) : P_X11_isIn v lo hi S Q := by
  unfold P_X11_isIn P_X11_isIn_B14
  unfold inn at h
  refine ⟨fun h1 => by rw [if_pos h1] at h; exact h, fun h1 => ?_⟩
  rw [if_neg h1] at h
  exact ⟨fun h2 => by rw [if_pos h2] at h; exact h, fun h2 => by rw [if_neg h2] at h; exact h⟩
theorem p_tapeInit {S : Sg} {h q κ : Nat} {b : Nat × Nat} {Q : Unit → Sg → Prop} (hh : sK S h % 32 = 9) (hq : sK S q = 0) (l : 1000 ≤ q) (k1 : κ % 32 = 16) (hb1 : 1 ≤ b.1) (hb2 : 700 ≤ b.2) (k : Q () (pR (nw S q κ 700) h 1 (some q))) : P_X7_init h S b Q := by
  have hh1 : ¬ h = q := fun e => by rw [e, hq] at hh; omega
  have e700 : (700 : Int32).toNatClampNeg = 700 := by decide
  unfold P_X7_init
  rw [e700]
  refine ⟨κ, q, k1, by decide, by decide, hb1, hb2, hq, l, fun z hz => ?_, fun s e => ⟨by rw [e, sK_nw, if_neg hh1]; exact hh, fun s2 e2 => by rw [e2, e]; exact k⟩⟩
  cases hz
  omega
theorem p_cornerInit {S : Sg} {h : Nat} {v1 v2 v3 v4 : Int32} {Q : Unit → Sg → Prop} (hh : sK S h % 32 = 4) (k : Q () (pI (pI (pI (pI (pI S h 4 (-1)) h 0 v1) h 1 v2) h 2 v3) h 3 v4)) : P_X2_init h v1 v2 v3 v4 S Q := by
  unfold P_X2_init
  exact ⟨hh, fun _ e1 _ e2 _ e3 _ e4 _ e5 => by rw [e5, e4, e3, e2, e1]; exact k⟩
theorem p_roofInit {S : Sg} {h : Nat} {v1 v2 v3 v4 : Int32} {Q : Unit → Sg → Prop} (hh : sK S h % 32 = 8) (k : Q () (pI (pI (pI (pI (pI S h 5 (-1)) h 0 v1) h 1 v2) h 2 v3) h 3 v4)) : P_X6_init h v1 v2 v3 v4 S Q := by
  unfold P_X6_init
  exact ⟨hh, fun _ e1 _ e2 _ e3 _ e4 _ e5 => by rw [e5, e4, e3, e2, e1]; exact k⟩
theorem p_turnInit {S : Sg} {h : Nat} {v1 v2 v3 v4 : Int32} {Q : Unit → Sg → Prop} (hh : sK S h % 32 = 11) (k : Q () (pI (pI (pI (pI S h 0 v1) h 1 v2) h 2 v3) h 3 v4)) : P_X9_init h v1 v2 v3 v4 S Q := by
  unfold P_X9_init
  exact ⟨hh, fun _ e1 _ e2 _ e3 _ e4 => by rw [e4, e3, e2, e1]; exact k⟩
theorem p_complaintInit {S : Sg} {h : Nat} {v1 v2 v3 : Int32} {Q : Unit → Sg → Prop} (hh : sK S h % 32 = 3) (k : Q () (pI (pI (pI (pI (pI (pI S h 4 1) h 5 1) h 0 v1) h 1 v2) h 2 v3) h 3 v3)) : P_X1_init h v1 v2 v3 S Q := by
  unfold P_X1_init
  exact ⟨hh, fun _ e1 _ e2 _ e3 _ e4 _ e5 _ e6 => by rw [e6, e5, e4, e3, e2, e1]; exact k⟩
theorem p_lawValue {S : Sg} {h c i : Nat} {Q : Int32 → Prop} (hh : sK S h % 32 = 6) (hr : sR S h 3 = some c) (hk : sK S c % 32 = 16) (hn : sN S c = 21) (hi : i < 21) (k : Q (sI S c i)) : P_X4_value h (Int32.ofNat i) S Q := by
  unfold P_X4_value
  refine ⟨fun z => absurd z (nat32_nn (by omega)), fun _ => ⟨hh, c, hr, hk, fun z => ?_, fun _ => ⟨c, hr, hk, fun z => ?_, by rw [nat32c (by omega)]; exact k⟩⟩⟩
  · rw [hn, Int32.le_iff_toInt_le, nat32 (by omega), show (nI 21).toInt = 21 from by decide] at z
    omega
  · rcases z with z | z
    · exact nat32_nn (by omega) z
    · rw [nat32c (by omega)] at z; omega
