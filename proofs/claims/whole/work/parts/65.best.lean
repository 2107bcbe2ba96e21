/-! ===== level 2: best ===== -/
theorem lpBB {α β γ : Type} {N s0 : Nat} {R : Nat → α → β → γ → Prop} {B : α → β → Int32 → γ → (α → β → Int32 → γ → Prop) → Prop} {a0 : α} {b0 : β} {c0 : γ} {x0 : Int32} (hx : x0 = Int32.ofNat s0) (hs : s0 ≤ N) (h0 : R s0 a0 b0 c0) (step : ∀ i, i ≤ N → ∀ a b c, R i a b c → ∀ K : α → β → Int32 → γ → Prop, (i < N → ∀ a' b' c', R (i + 1) a' b' c' → K a' b' (Int32.ofNat (i + 1)) c') → B a b (Int32.ofNat i) c K) : ∃ I : Nat → α → β → Int32 → γ → Prop, (∃ n, I n a0 b0 x0 c0) ∧ ∀ (n : Nat) (a : α) (b : β) (x : Int32) (c : γ), I n a b x c → B a b x c (fun a b x c => ∃ n', n' < n ∧ I n' a b x c) := by
  refine ⟨fun n a b x c => ∃ i, i ≤ N ∧ n = N - i ∧ x = Int32.ofNat i ∧ R i a b c, ⟨N - s0, s0, hs, rfl, hx, h0⟩, ?_⟩
  rintro n a b x c ⟨i, hi, rfl, rfl, hr⟩
  exact step i hi a b c hr _ (fun hl a' b' c' h' => ⟨N - (i + 1), by omega, i + 1, by omega, rfl, rfl, h'⟩)
/-- a set's weight -/
def wtF (S2 : Sg) (nC nR nM : Nat) (w : Int32) (v : Int32) : Int64 := w.toInt64 * (Int32.ofNat (su ((runF S2 nC nR nM v).1 6) nC)).toInt64 + (Int32.ofNat (su ((runF S2 nC nR nM v).1 4) nC)).toInt64
/-- a set that may be told -/
def okB (S2 : Sg) (nC : Nat) (k coins each pk : Int32) (s : Nat) : Prop := ¬ k < Int32.ofNat (pcn s) ∧ ¬ coins < Int32.ofNat (pcn s) * each ∧ frS S2 nC (Int32.ofNat s) ∧ sm (pkf S2 (Int32.ofNat s)) nC ≤ pk
def tkB (S2 : Sg) (nC nR nM : Nat) (w : Int32) (s : Nat) (b : Int32 × Int64) : Prop := b.1 = -1 ∨ wtF S2 nC nR nM w (Int32.ofNat s) < b.2 ∨ (wtF S2 nC nR nM w (Int32.ofNat s) = b.2 ∧ Int32.ofNat (pcn s) < bcF b.1)
noncomputable def bF (S2 : Sg) (nC nR nM : Nat) (k coins w each pk : Int32) : Nat → Int32 × Int64
  | 0 => (-1, 0)
  | s + 1 => @ite _ (okB S2 nC k coins each pk s ∧ tkB S2 nC nR nM w s (bF S2 nC nR nM k coins w each pk s)) (Classical.propDecidable _) (Int32.ofNat s, wtF S2 nC nR nM w (Int32.ofNat s)) (bF S2 nC nR nM k coins w each pk s)
section BE
variable {S S2 T U : Sg} {nC nR nT nK nL nM nP td N : Nat} {lh : Nat → Nat} {k coins w each pk : Int32}
theorem bF_y {s : Nat} (h : okB S2 nC k coins each pk s ∧ tkB S2 nC nR nM w s (bF S2 nC nR nM k coins w each pk s)) : bF S2 nC nR nM k coins w each pk (s + 1) = (Int32.ofNat s, wtF S2 nC nR nM w (Int32.ofNat s)) := by
  unfold bF; rw [if_pos h]
theorem bF_n {s : Nat} (h : ¬ (okB S2 nC k coins each pk s ∧ tkB S2 nC nR nM w s (bF S2 nC nR nM k coins w each pk s))) : bF S2 nC nR nM k coins w each pk (s + 1) = bF S2 nC nR nM k coins w each pk s := by
  show @ite _ _ (Classical.propDecidable _) _ _ = _
  rw [if_neg h]
theorem bF_i : ∀ s, (bF S2 nC nR nM k coins w each pk s).1 = -1 ∨ ∃ t, t < s ∧ (bF S2 nC nR nM k coins w each pk s).1 = Int32.ofNat t ∧ (bF S2 nC nR nM k coins w each pk s).2 = wtF S2 nC nR nM w (Int32.ofNat t)
  | 0 => Or.inl rfl
  | s + 1 => by
    by_cases h : okB S2 nC k coins each pk s ∧ tkB S2 nC nR nM w s (bF S2 nC nR nM k coins w each pk s)
    · rw [bF_y h]; exact Or.inr ⟨s, Nat.lt_succ_self _, rfl, rfl⟩
    · rw [bF_n h]
      rcases bF_i s with e | ⟨t, t1, t2, t3⟩
      · exact Or.inl e
      · exact Or.inr ⟨t, by omega, t2, t3⟩
theorem x_weight {v : Int32} {Q : Int64 → Prop} (h : IV S S2 nC nR nT nK nL nM nP td N lh) (hF : FP S S2 nC nR nM) (hD : FD S nC (runF S2 nC nR nM v)) (kk : Q (wtF S2 nC nR nM w v)) : P_X3_weight 1043 w S Q := by
  unfold P_X3_weight
  exact ⟨(flow_at h).2.1, x_wet (R := runF S2 nC nR nM v) h hF.1 hD.1 (x_spilt (R := runF S2 nC nR nM v) h hF.1 hD.1 kk)⟩
theorem x_cost {s : Nat} {Q : Int32 → Prop} (h : IV S S2 nC nR nT nK nL nM nP td N lh) (hs : s < 4096) (kk : Q (Int32.ofNat (pcn s) * (lawV S2 (inF S2 (Int32.ofNat td) nL) 10 + lawV S2 (inF S2 (Int32.ofNat td) nL) 11 * 100))) : P_X10_costOf 1000 (Int32.ofNat s) S Q := by
  obtain ⟨hk, hM, hS, hU, hA, hW, hB, hC, hR, hT, hK, hL, hZ, hP, hN⟩ := h
  have hr : ∀ j, inF S2 (Int32.ofNat td) nL = some j → j < nL := fun j h => inF_lt h
  unfold P_X10_costOf
  refine ⟨hS.1.1, ?_⟩
  rw [hZ.2.2.2.1]
  refine x_lawOn hS hL (bitCount_e ⟨_, rfl, lawH_k hS hL hr, (value_l (w := 10) hS hL hr (by omega)).mpr ((value_l (w := 11) hS hL hr (by omega)).mpr ?_)⟩)
  rw [bc_n hs]
  exact kk
theorem x_bestL {Q : Int32 → Sg → Prop} (h : IV S S2 nC nR nT nK nL nM nP td N lh) (hF : FP S S2 nC nR nM) (he : each = lawV S2 (inF S2 (Int32.ofNat td) nL) 10 + lawV S2 (inF S2 (Int32.ofNat td) nL) 11 * 100) (kk : ∀ σ, RY S σ → Q (bF S2 nC nR nM k coins w each pk (2 ^ nC)).1 σ) : P_X10_bestSet_L27 1000 k coins w pk (-1) 0 0 S Q := by
  have n12 := h.2.2.2.2.2.2.2.1.2.1
  have p2 := pow_b nC (by omega)
  unfold P_X10_bestSet_L27
  refine lpBB (N := 2 ^ nC) (s0 := 0) (R := fun s (b : Int32) (l : Int64) σ => RY S σ ∧ (b, l) = bF S2 nC nR nM k coins w each pk s) (B := fun b l x σ K => P_X10_bestSet_L27b 1000 k coins w pk b l x σ Q K) rfl (Nat.zero_le _) ⟨RY.refl S, rfl⟩ (fun s hs b l σ hR2 K hK2 => ?_)
  obtain ⟨y, hb⟩ := hR2
  have hV := iv_sx h y.sx
  have hFσ := hF.ry y
  have hV0 := hV
  obtain ⟨hk, hM, hS, hU, hA, hW, hB, hC, hR, hT, hK, hL, hZ, hP, hN⟩ := hV
  have b1 : (bF S2 nC nR nM k coins w each pk s).1 = b := by rw [← hb]
  have b2 : (bF S2 nC nR nM k coins w each pk s).2 = l := by rw [← hb]
  unfold P_X10_bestSet_L27b P_X10_bestSet_B157
  refine ⟨hS.1.1, 1001, hS.1.2.1, hC.1.1, p_size hC.1 ?_⟩
  rw [shl1 nC (by omega)]
  refine ⟨fun e => ?_, fun e => ?_⟩
  · rw [nn_le (by omega) (by omega)] at e
    have e2 : s = 2 ^ nC := by omega
    subst e2
    rw [← b1]; exact kk σ y
  · rw [nn_le (by omega) (by omega)] at e
    have hlt : s < 2 ^ nC := by omega
    have s4 : s < 4096 := by omega
    have skip : ∀ ρ, RY S ρ → ¬ (okB S2 nC k coins each pk s ∧ tkB S2 nC nR nM w s (bF S2 nC nR nM k coins w each pk s)) → ∀ x, x = Int32.ofNat s + 1 → K b l x ρ := fun ρ hρ hn x hx => by
      rw [hx, n_s]
      refine hK2 hlt _ _ _ ⟨hρ, ?_⟩
      rw [bF_n hn, hb]
    refine bitCount_e ?_
    rw [bc_n s4]
    refine ⟨fun z => skip σ y (fun q => q.1.1 z), fun z1 => x_cost hV0 s4 ?_⟩
    rw [← he]
    refine ⟨fun z => skip σ y (fun q => q.1.2.1 z), fun z2 => x_isFree hS hC (fun fr => ⟨fun z => absurd z (by decide), fun _ => x_parkingWith hS hC ⟨fun z3 => ⟨1043, (flow_at hV0).1, (flow_at hV0).2.1, x_runF hV0 hFσ (fun ρ yρ d => ?_)⟩, fun z => skip σ y (fun q => z q.1.2.2.2)⟩⟩) (fun nf => ⟨fun _ => skip σ y (fun q => nf q.1.2.2.1), fun z => absurd rfl z⟩)⟩
    have ok : okB S2 nC k coins each pk s := ⟨z1, z2, fr, z3⟩
    have hVρ := iv_sx hV0 yρ.sx
    have hFρ := hFσ.ry yρ
    have ry := y.trans yρ
    refine ⟨1043, (flow_at hVρ).1, (flow_at hVρ).2.1, x_weight hVρ hFρ d (bitCount_e (bitCount_e ?_))⟩
    rw [bc_n s4]
    have take : tkB S2 nC nR nM w s (bF S2 nC nR nM k coins w each pk s) → P_X10_bestSet_B149 1000 k coins w pk (Int32.ofNat s) (wtF S2 nC nR nM w (Int32.ofNat s)) ρ Q K := fun ht => by
      unfold P_X10_bestSet_B149 P_X10_bestSet_B157
      intro x hx
      rw [hx, n_s]
      refine hK2 hlt _ _ _ ⟨ry, ?_⟩
      rw [bF_y ⟨ok, ht⟩]
    have leave : ¬ tkB S2 nC nR nM w s (bF S2 nC nR nM k coins w each pk s) → ∀ x, x = Int32.ofNat s + 1 → K b l x ρ := fun ht => skip ρ ry (fun q => ht q.2)
    unfold tkB at take leave
    rw [b1, b2] at take leave
    unfold P_X10_bestSet_B120 P_X10_bestSet_B157
    refine ⟨fun c => ⟨fun z => take (Or.inl z), fun z => ⟨fun z4 => take (Or.inr (Or.inl z4)), fun z4 => ⟨fun z5 => ⟨fun _ => leave (fun q => ?_), fun q => absurd rfl q⟩, fun z5 => leave (fun q => ?_)⟩⟩⟩, fun c => ⟨fun z => take (Or.inl z), fun z => ⟨fun z4 => take (Or.inr (Or.inl z4)), fun z4 => ⟨fun z5 => ⟨fun q => absurd q (by decide), fun _ => take (Or.inr (Or.inr ⟨z5, Int32.not_le.mp c⟩))⟩, fun z5 => leave (fun q => ?_)⟩⟩⟩⟩
    · rcases q with q | q | q
      · exact z q
      · exact z4 q
      · exact absurd c (Int32.not_le.mpr q.2)
    · rcases q with q | q | q
      · exact z q
      · exact z4 q
      · exact z5 q.1
    · rcases q with q | q | q
      · exact z q
      · exact z4 q
      · exact z5 q.1
theorem lawV_sm (f : SM S2 T) (o : Option Nat) (j : Nat) : lawV T o j = lawV S2 o j := lawV_keep (fun x h1 h2 => f.2.1 x (by omega)) o j
theorem m_nowS {j : Nat} {Q : Int32 → Prop} (h : IV S S2 nC nR nT nK nL nM nP td N lh) (f : SM S2 T) (hj : j < 21) (kk : Q (lawV S2 (inF S2 (Int32.ofNat td) nL) j)) : P_X11_now 1000 (Int32.ofNat j) T Q := by
  have hT := iv_sm h f
  refine m_nowo (o := inF S2 (Int32.ofNat td) nL) hT (inF_keep (f.2.1 1169 (by omega)) _ _) hj ?_
  rw [lawV_sm f]
  exact kk
theorem pkf_sm (f : SM S2 T) (v : Int32) : pkf T v = pkf S2 v := by
  funext i
  unfold pkf
  rw [vwI (f.v (x := 1112) (by omega) (by omega)), vwI (f.v (x := 1109) (by omega) (by omega))]
theorem frS_sm (f : SM S2 T) (v : Int32) : frS T nC v ↔ frS S2 nC v := by
  unfold frS
  rw [vwI (f.v (x := 1112) (by omega) (by omega))]
theorem m_bestL {what : Int32} {Q : Int64 → Sg → Prop} (h : IV S S2 nC nR nT nK nL nM nP td N lh) (hpk : pk = lawV S2 (inF S2 (Int32.ofNat td) nL) 4) (k0 : ∀ T, SM S2 T → (bF S2 nC nR nM k coins w each pk (2 ^ nC)).1 = -1 → Q (-1) T) (k1 : ∀ T t, SM S2 T → t < 2 ^ nC → (bF S2 nC nR nM k coins w each pk (2 ^ nC)).1 = Int32.ofNat t → (what = 0 → Q (wtF S2 nC nR nM w (Int32.ofNat t)) T) ∧ (¬ what = 0 → (what = 1 → Q (Int32.ofNat t).toInt64 T) ∧ (¬ what = 1 → (what = 2 → Q ((Int32.ofNat (pcn t) * each).toInt64) T) ∧ (¬ what = 2 → (what = 3 → Q (Int32.ofNat (su ((runF S2 nC nR nM (Int32.ofNat t)).1 4) nC)).toInt64 T) ∧ (¬ what = 3 → Q (Int32.ofNat (su ((runF S2 nC nR nM (Int32.ofNat t)).1 6) nC)).toInt64 T))))) : P_X11_best_L72 1000 k coins w what each (-1) 0 0 S2 Q := by
  have hV := h
  obtain ⟨hk, hM, hS, hU, hA, hW, hB, hC, hR, hT, hK, hL, hZ, hP, hN⟩ := h
  have n12 := hC.2.1
  have p2 := pow_b nC (by omega)
  unfold P_X11_best_L72
  refine lpBB (N := 2 ^ nC) (s0 := 0) (R := fun s (b : Int32) (l : Int64) T => SM S2 T ∧ (b, l) = bF S2 nC nR nM k coins w each pk s) (B := fun b l x T K => P_X11_best_L72b 1000 k coins w what each b l x T Q K) rfl (Nat.zero_le _) ⟨SM.refl hM, rfl⟩ (fun s hs b l T hR2 K hK2 => ?_)
  obtain ⟨f, hb⟩ := hR2
  have i1 : sI T 1000 1 = Int32.ofNat nC := (f.2.2.1 1 (by omega)).trans hC.2.2.1
  have b1 : (bF S2 nC nR nM k coins w each pk s).1 = b := by rw [← hb]
  have b2 : (bF S2 nC nR nM k coins w each pk s).2 = l := by rw [← hb]
  unfold P_X11_best_L72b P_X11_best_B189 P_X11_best_B197
  rw [i1, shl1 nC (by omega)]
  refine ⟨f.1.o, fun e => ?_, fun e => ?_⟩
  · rw [nn_le (by omega) (by omega)] at e
    have e2 : s = 2 ^ nC := by omega
    subst e2
    refine ⟨fun z => k0 T f (b1.trans z), fun z => ?_⟩
    rcases bF_i (S2 := S2) (nC := nC) (nR := nR) (nM := nM) (k := k) (coins := coins) (w := w) (each := each) (pk := pk) (2 ^ nC) with q | ⟨t, t1, t2, t3⟩
    · exact absurd (b1.symm.trans q) z
    · rw [b1] at t2
      rw [b2] at t3
      subst t2
      refine m_fallsR (iv_sm hV f) (fun U u1 u2 u3 u4 => ?_)
      have bb := run_b hV (Int32.ofNat t)
      rw [runF_sm f] at u3 u4
      obtain ⟨a0, a1⟩ := k1 U t (f.trans u1) t1 b1
      refine ⟨fun y => by rw [t3]; exact a0 y, fun y => ⟨fun y1 => (a1 y).1 y1, fun y1 => ⟨fun y2 => bits_e (by omega) (((a1 y).2 y1).1 y2), fun y2 => ⟨fun y3 => ?_, fun y3 => ?_⟩⟩⟩⟩
      · have := (((a1 y).2 y1).2 y2).1 y3
        rw [n_64 (by omega)] at this
        rw [u3]; exact this
      · rw [u4]; exact (((a1 y).2 y1).2 y2).2 y3
  · rw [nn_le (by omega) (by omega)] at e
    have hlt : s < 2 ^ nC := by omega
    have s4 : s < 4096 := by omega
    have skip : ∀ ρ, SM S2 ρ → ¬ (okB S2 nC k coins each pk s ∧ tkB S2 nC nR nM w s (bF S2 nC nR nM k coins w each pk s)) → ∀ x, x = Int32.ofNat s + 1 → K b l x ρ := fun ρ hρ hn x hx => by
      rw [hx, n_s]
      refine hK2 hlt _ _ _ ⟨hρ, ?_⟩
      rw [bF_n hn, hb]
    refine bits_e s4 ⟨fun z => skip T f (fun q => q.1.1 z), fun z1 => bits_e s4 ⟨fun z => skip T f (fun q => q.1.2.1 z), fun z2 => m_isNew f.1 i1 n12 (fun fr => ⟨fun z => absurd z (by decide), fun _ => m_parked f.1 i1 n12 (m_nowS (j := 4) hV f (by omega) ?_)⟩) (fun nf => ⟨fun _ => skip T f (fun q => nf ((frS_sm f _).mpr q.1.2.2.1)), fun z => absurd rfl z⟩)⟩⟩
    rw [pkf_sm f, ← hpk]
    refine ⟨fun z3 => m_fallsR (iv_sm hV f) (fun U u1 u2 u3 u4 x39 hx => ?_), fun z => skip T f (fun q => z q.1.2.2.2)⟩
    have fU := f.trans u1
    have ok : okB S2 nC k coins each pk s := ⟨z1, z2, (frS_sm f _).mp fr, z3⟩
    have bb := run_b hV (Int32.ofNat s)
    rw [runF_sm f] at u3 u4
    have hx : x39 = wtF S2 nC nR nM w (Int32.ofNat s) := by
      rw [hx, u3, u4]
      unfold wtF
      rw [n_64 (a := su ((runF S2 nC nR nM (Int32.ofNat s)).1 4) nC) (by omega)]
    rw [hx]
    have take : tkB S2 nC nR nM w s (bF S2 nC nR nM k coins w each pk s) → ∀ x, x = Int32.ofNat s + 1 → K (Int32.ofNat s) (wtF S2 nC nR nM w (Int32.ofNat s)) x U := fun ht x hx => by
      rw [hx, n_s]
      refine hK2 hlt _ _ _ ⟨fU, ?_⟩
      rw [bF_y ⟨ok, ht⟩]
    have leave : ¬ tkB S2 nC nR nM w s (bF S2 nC nR nM k coins w each pk s) → ∀ x, x = Int32.ofNat s + 1 → K b l x U := fun ht => skip U fU (fun q => ht q.2)
    unfold tkB at take leave
    rw [b1, b2] at take leave
    refine ⟨fun z => take (Or.inl z), fun z => ⟨fun z4 => leave (fun q => ?_), fun z4 => ⟨fun z5 => bits_e s4 ?_, fun z5 => take (Or.inr (Or.inl ?_))⟩⟩⟩
    · rcases q with q | q | q
      · exact z q
      · exact Int64.lt_irrefl (Int64.lt_trans q z4)
      · rw [q.1] at z4; exact Int64.lt_irrefl z4
    · rcases bF_i (S2 := S2) (nC := nC) (nR := nR) (nM := nM) (k := k) (coins := coins) (w := w) (each := each) (pk := pk) s with q | ⟨t, t1, t2, t3⟩
      · exact absurd (b1.symm.trans q) z
      · rw [b1] at t2
        have t4 : t < 4096 := by omega
        rw [t2] at take leave z ⊢
        rw [bc_n t4] at take leave
        refine bits_e t4 ⟨fun y => take (Or.inr (Or.inr ⟨z5, y⟩)), fun y => leave (fun q => ?_)⟩
        rcases q with q | q | q
        · exact z q
        · rw [z5] at q; exact Int64.lt_irrefl q
        · exact y q.2
    · rw [Int64.lt_iff_toInt_lt] at z4 ⊢
      have z6 : ¬ (wtF S2 nC nR nM w (Int32.ofNat s)).toInt = l.toInt := fun q => z5 (Int64.toInt_inj.mp q)
      omega
end BE
theorem pr_best : Pr_best Inv := by
  intro S S2 hI v1 v2 v3 v4
  have hI0 := hI
  obtain ⟨hk, hM, hS, hU, hA, hW, hB, nC, nR, nT, nK, nL, nM, nP, td, N, lh, hC, hR, hT, hK, hL, hZ, hP, hN⟩ := hI
  have hV : IV S S2 nC nR nT nK nL nM nP td N lh := ⟨hk, hM, hS, hU, hA, hW, hB, hC, hR, hT, hK, hL, hZ, hP, hN⟩
  have n12 := hC.2.1
  have p2 := pow_b nC (by omega)
  unfold P_X10_best P_X10_best_B45 P_X10_best_B46
  have no : ∀ Q : Int64 → Sg → Prop, Q (-1) S2 → (inn v1 0 4 = 0 ∨ inn v2 0 99999 = 0 ∨ inn v3 0 10000 = 0 ∨ inn v4 0 4 = 0) → P_X11_best 1000 v1 v2 v3 v4 S2 Q := fun Q hQ hh => by
    unfold P_X11_best
    refine isIn_e.mpr ⟨fun _ => hQ, fun z1 => isIn_e.mpr ⟨fun _ => hQ, fun z2 => isIn_e.mpr ⟨fun _ => hQ, fun z3 => isIn_e.mpr ⟨fun _ => hQ, fun z4 => ?_⟩⟩⟩⟩
    rcases hh with q | q | q | q
    · exact absurd q z1
    · exact absurd q z2
    · exact absurd q z3
    · exact absurd q z4
  refine within_e.mpr ⟨fun w1 => ⟨fun _ => ⟨hk, no _ ⟨rfl, hI0⟩ (Or.inl w1)⟩, fun z => absurd rfl z⟩, fun w1 => within_e.mpr ⟨fun w2 => ⟨fun _ => ⟨hk, no _ ⟨rfl, hI0⟩ (Or.inr (Or.inl w2))⟩, fun z => absurd rfl z⟩, fun w2 => within_e.mpr ⟨fun w3 => ⟨fun _ => ⟨hk, no _ ⟨rfl, hI0⟩ (Or.inr (Or.inr (Or.inl w3)))⟩, fun z => absurd rfl z⟩, fun w3 => within_e.mpr ⟨fun w4 => ⟨fun _ => ⟨hk, no _ ⟨rfl, hI0⟩ (Or.inr (Or.inr (Or.inr w4)))⟩, fun z => absurd rfl z⟩, fun w4 => ⟨fun z => absurd z (by decide), fun _ => ⟨hS.1.1, ?_⟩⟩⟩⟩⟩⟩
  have go : ∀ Q : Int64 → Sg → Prop, (∀ T, SM S2 T → (bF S2 nC nR nM v1 v2 v3 (lawV S2 (inF S2 (Int32.ofNat td) nL) 10 + lawV S2 (inF S2 (Int32.ofNat td) nL) 11 * 100) (lawV S2 (inF S2 (Int32.ofNat td) nL) 4) (2 ^ nC)).1 = -1 → Q (-1) T) → (∀ T t, SM S2 T → t < 2 ^ nC → (bF S2 nC nR nM v1 v2 v3 (lawV S2 (inF S2 (Int32.ofNat td) nL) 10 + lawV S2 (inF S2 (Int32.ofNat td) nL) 11 * 100) (lawV S2 (inF S2 (Int32.ofNat td) nL) 4) (2 ^ nC)).1 = Int32.ofNat t → (v4 = 0 → Q (wtF S2 nC nR nM v3 (Int32.ofNat t)) T) ∧ (¬ v4 = 0 → (v4 = 1 → Q (Int32.ofNat t).toInt64 T) ∧ (¬ v4 = 1 → (v4 = 2 → Q ((Int32.ofNat (pcn t) * (lawV S2 (inF S2 (Int32.ofNat td) nL) 10 + lawV S2 (inF S2 (Int32.ofNat td) nL) 11 * 100)).toInt64) T) ∧ (¬ v4 = 2 → (v4 = 3 → Q (Int32.ofNat (su ((runF S2 nC nR nM (Int32.ofNat t)).1 4) nC)).toInt64 T) ∧ (¬ v4 = 3 → Q (Int32.ofNat (su ((runF S2 nC nR nM (Int32.ofNat t)).1 6) nC)).toInt64 T))))) → P_X11_best 1000 v1 v2 v3 v4 S2 Q := fun Q k0 k1 => by
    unfold P_X11_best
    refine isIn_e.mpr ⟨fun q => absurd q w1, fun _ => isIn_e.mpr ⟨fun q => absurd q w2, fun _ => isIn_e.mpr ⟨fun q => absurd q w3, fun _ => isIn_e.mpr ⟨fun q => absurd q w4, fun _ => ⟨hM.o, m_nowS (j := 10) hV (SM.refl hM) (by omega) (m_nowS (j := 11) hV (SM.refl hM) (by omega) (fun x12 hx => ?_))⟩⟩⟩⟩⟩
    rw [Int32.mul_comm] at hx
    rw [hx]
    exact m_bestL hV rfl k0 k1
  unfold P_X10_bestSet
  refine ⟨hS.1.1, x_prep hV (fun S1 g1 f1 => ?_)⟩
  have h1 := iv_sx hV g1
  have h10 := h1
  obtain ⟨ak, aM, aS, aU, aA, aW, aB, aC, aR, aT, aK, aL, aZ, aP, aN⟩ := h1
  rw [aZ.2.2.2.1]
  have hr : ∀ j, inF S2 (Int32.ofNat td) nL = some j → j < nL := fun j h => inF_lt h
  refine x_lawOn aS aL ⟨_, rfl, lawH_k aS aL hr, (value_l (w := 4) aS aL hr (by omega)).mpr (x_bestL h10 f1 rfl (fun σ y => ?_))⟩
  have h2 := iv_sx h10 y.sx
  have f2 := f1.ry y
  rcases bF_i (S2 := S2) (nC := nC) (nR := nR) (nM := nM) (k := v1) (coins := v2) (w := v3) (each := lawV S2 (inF S2 (Int32.ofNat td) nL) 10 + lawV S2 (inF S2 (Int32.ofNat td) nL) 11 * 100) (pk := lawV S2 (inF S2 (Int32.ofNat td) nL) 4) (2 ^ nC) with q | ⟨t, t1, t2, -⟩
  · rw [q]
    refine ⟨fun _ => ⟨h2.1, go _ (fun T f _ => ⟨rfl, iv_inv (iv_sm h2 f)⟩) (fun T t _ ht e => ?_)⟩, fun z => absurd rfl z⟩
    rw [q] at e
    exact absurd e.symm (fun z => (n_m1 (by omega)).mp z)
  · rw [t2]
    have t4 : t < 4096 := by omega
    have nt1 : ¬ Int32.ofNat t = -1 := fun z => (n_m1 (by omega)).mp z
    refine ⟨fun z => absurd z nt1, fun _ => ⟨1043, (flow_at h2).1, (flow_at h2).2.1, x_runF h2 f2 (fun ρ yρ d y23 hy => ?_)⟩⟩
    subst hy
    have h3 := iv_sx h2 yρ.sx
    have f3 := f2.ry yρ
    have bb := run_b hV (Int32.ofNat t)
    have same : ∀ t', Int32.ofNat t = Int32.ofNat t' → t' < 2 ^ nC → t' = t := fun t' e ht => by
      rw [nn_eq (by omega) (by omega)] at e
      exact e.symm
    have fin : ∀ (r : Int64), ((y23 = 0 → r = wtF S2 nC nR nM v3 (Int32.ofNat t)) ∧ (¬ y23 = 0 → (y23 = 1 → r = (Int32.ofNat t).toInt64) ∧ (¬ y23 = 1 → (y23 = 2 → r = ((Int32.ofNat (pcn t) * (lawV S2 (inF S2 (Int32.ofNat td) nL) 10 + lawV S2 (inF S2 (Int32.ofNat td) nL) 11 * 100)).toInt64)) ∧ (¬ y23 = 2 → (y23 = 3 → r = (Int32.ofNat (su ((runF S2 nC nR nM (Int32.ofNat t)).1 4) nC)).toInt64) ∧ (¬ y23 = 3 → r = (Int32.ofNat (su ((runF S2 nC nR nM (Int32.ofNat t)).1 6) nC)).toInt64))))) → P_X11_best 1000 v1 v2 v3 y23 S2 (fun r2 S2' => r = r2 ∧ Inv ρ S2') := fun r hr => by
      refine go _ (fun T f e => ?_) (fun T t' f ht e => ?_)
      · rw [t2] at e; exact absurd e nt1
      · rw [t2] at e
        have := same t' e ht
        subst this
        have hv := iv_inv (iv_sm h3 f)
        exact ⟨fun a => ⟨hr.1 a, hv⟩, fun a => ⟨fun b => ⟨(hr.2 a).1 b, hv⟩, fun b => ⟨fun c => ⟨((hr.2 a).2 b).1 c, hv⟩, fun c => ⟨fun d => ⟨(((hr.2 a).2 b).2 c).1 d, hv⟩, fun d => ⟨(((hr.2 a).2 b).2 c).2 d, hv⟩⟩⟩⟩⟩
    refine ⟨fun a => ⟨1043, (flow_at h3).1, (flow_at h3).2.1, x_weight h3 f3 d ⟨h3.1, fin _ ⟨fun _ => rfl, fun b => absurd a b⟩⟩⟩, fun a => ⟨fun b => ⟨h3.1, fin _ ⟨fun q => absurd q a, fun _ => ⟨fun _ => rfl, fun q => absurd b q⟩⟩⟩, fun b => ⟨fun c => x_cost h3 t4 ⟨h3.1, fin _ ⟨fun q => absurd q a, fun _ => ⟨fun q => absurd q b, fun _ => ⟨fun _ => rfl, fun q => absurd c q⟩⟩⟩⟩, fun c => ⟨fun e => ⟨1043, (flow_at h3).1, (flow_at h3).2.1, x_spilt (R := runF S2 nC nR nM (Int32.ofNat t)) h3 f3.1 d.1 ⟨h3.1, fin _ ⟨fun q => absurd q a, fun _ => ⟨fun q => absurd q b, fun _ => ⟨fun q => absurd q c, fun _ => ⟨fun _ => rfl, fun q => absurd e q⟩⟩⟩⟩⟩⟩, fun e => ⟨1043, (flow_at h3).1, (flow_at h3).2.1, x_wet (R := runF S2 nC nR nM (Int32.ofNat t)) h3 f3.1 d.1 ⟨h3.1, fin _ ⟨fun q => absurd q a, fun _ => ⟨fun q => absurd q b, fun _ => ⟨fun q => absurd q c, fun _ => ⟨fun q => absurd q e, fun _ => rfl⟩⟩⟩⟩⟩⟩⟩⟩⟩⟩
