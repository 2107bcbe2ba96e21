/-! ===== level 2: a bed's constructor ===== -/
def bedS (S : Sg) (h q κ : Nat) (v1 v2 v3 v4 : Int32) : Sg := pI (pI (pI (pI (pR (nw (pI (pI S h 7 1) h 10 (-1)) q κ 11) h 11 (some q)) h 0 v1) h 1 v2) h 2 v3) h 3 v4
theorem p_bedInit {S : Sg} {h q κ : Nat} {v1 v2 v3 v4 : Int32} {b : Nat × Nat} {Q : Unit → Sg → Prop} (hh : sK S h % 32 = 2) (hq : sK S q = 0) (l : 1000 ≤ q) (k1 : κ % 32 = 16) (hz : bz v3) (hb1 : 1 ≤ b.1) (hb2 : 11 ≤ b.2) (k : ∀ T, FI (bedS S h q κ v1 v2 v3 v4) q (-1) 11 T → Q () T) : P_X0_init h v1 v2 v3 v4 S b Q := by
  have hne : ¬ h = q := fun e => by rw [e, hq] at hh; omega
  have e11 : (11 : Int32).toNatClampNeg = 11 := by decide
  unfold P_X0_init
  rw [e11]
  refine ⟨hh, fun s1 e1 s2 e2 => ⟨κ, q, k1, by decide, by decide, hb1, hb2, by rw [e2, sK_pI, e1, sK_pI]; exact hq, l, fun s3 e3 s4 e4 s5 e5 s6 e6 => ⟨hz, fun s7 e7 s8 e8 => ?_⟩⟩⟩
  have hS : s8 = bedS S h q κ v1 v2 v3 v4 := by rw [e8, e7, e6, e5, e4, e3, e2, e1]; rfl
  have hr : sR s8 h 11 = some q := by rw [e8, sR_pI, e7, sR_pI, e6, sR_pI, e5, sR_pI, e4, sR_pR, if_pos ⟨rfl, rfl⟩]
  have hK : sK s8 q = κ := by rw [e8, sK_pI, e7, sK_pI, e6, sK_pI, e5, sK_pI, e4, sK_pR, e3, sK_nw, if_pos rfl]
  have hN : sN s8 q = 11 := by rw [e8, sN_pI, e7, sN_pI, e6, sN_pI, e5, sN_pI, e4, sN_pR, e3, sN_nw, if_pos rfl]
  rw [hr]
  refine p_fill (by rw [hK]; exact k1) (by rw [hN]; decide) (fun T hT => ?_)
  rw [hN, hS] at hT
  exact k T hT
