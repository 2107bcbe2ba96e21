/-! ===== level 2: tried and helps ===== -/
theorem and01 (x : Int32) : x &&& 1 = 0 ∨ x &&& 1 = 1 := by
  have e : (x &&& 1).toBitVec.toNat = x.toBitVec.toNat % 2 := by
    show (x.toBitVec &&& 1#32).toNat = _
    rw [BitVec.toNat_and, show (1#32).toNat = 1 from rfl, Nat.and_one_is_mod]
  rcases Nat.mod_two_eq_zero_or_one x.toBitVec.toNat with h | h
  · exact Or.inl (Int32.toBitVec_inj.mp (BitVec.eq_of_toNat_eq (e.trans h)))
  · exact Or.inr (Int32.toBitVec_inj.mp (BitVec.eq_of_toNat_eq (e.trans h)))
theorem isnw_0 {v : Int32} {c : Nat} : (v >>> (Int32.ofNat c &&& 31)) &&& 1 = 0 ↔ ¬ isnw v c := by
  unfold isnw
  rcases and01 (v >>> (Int32.ofNat c &&& 31)) with h | h <;> rw [h] <;> decide
/-- the sums' bounds -/
theorem rn_b {w : Ms} {be : Nat → Option Nat} {own : Nat → Nat → Nat} {n m : Nat} (hw : Wb w be own n) (hm : m ≤ 30) : su ((q_rn w be own n m).1 4) n ≤ 345600000 ∧ su ((q_rn w be own n m).1 6) n ≤ 360 ∧ su ((q_rn w be own n m).1 3) n ≤ 36000 ∧ (q_rn w be own n m).2.1 ≤ 180000 ∧ (q_rn w be own n m).2.2 ≤ 6000 ∧ (∀ j, (q_rn w be own n m).1 4 j ≤ 28800000 ∧ (q_rn w be own n m).1 5 j ≤ 500 ∧ (q_rn w be own n m).1 6 j ≤ 30 ∧ (q_rn w be own n m).1 3 j ≤ 3000) ∧ ∀ j, j < n → (q_rn w be own n m).1 0 j ≤ w 2 j := by
  obtain ⟨z1, z2, z3, z4⟩ := q_rn_wi hw m
  have hn := hw.1
  have b : ∀ j, (q_rn w be own n m).1 4 j ≤ 28800000 ∧ (q_rn w be own n m).1 5 j ≤ 500 ∧ (q_rn w be own n m).1 6 j ≤ 30 ∧ (q_rn w be own n m).1 3 j ≤ 3000 := fun j => by
    have := z1.2.2.2.2 j
    simp only [Nat.not_lt_zero, if_false] at this
    omega
  have b4 := su_le (f := (q_rn w be own n m).1 4) (b := 28800000) (n := n) (fun j _ => (b j).1)
  have b6 := su_le (f := (q_rn w be own n m).1 6) (b := 30) (n := n) (fun j _ => (b j).2.2.1)
  have b3 := su_le (f := (q_rn w be own n m).1 3) (b := 3000) (n := n) (fun j _ => (b j).2.2.2)
  exact ⟨by omega, by omega, by omega, by omega, by omega, b, z1.1⟩
section TR
variable {S S2 T U : Sg} {nC nR nT nK nL nM nP td N : Nat} {lh : Nat → Nat}
theorem flow_at (h : IV S S2 nC nR nT nK nL nM nP td N lh) : sR S 1000 7 = some 1043 ∧ sK S 1043 % 32 = 5 ∧ sR S 1043 0 = some 1044 ∧ Lst S 1044 6 (fun j => 7000 + j) 12 ∧ ∀ j, j < 12 → sK S (7000 + j) % 32 = 7 := ⟨h.2.2.1.1.2.2.2.2.2.2.2.2.1, h.2.2.1.2.1.2.2.2.2.1, h.2.2.1.2.1.2.2.2.2.2.1, h.2.2.1.2.2.2.2.1, h.2.2.1.2.2.2.2.2⟩
theorem x_spilt {R : Ms × Nat × Nat} {Q : Int32 → Prop} (h : IV S S2 nC nR nT nK nL nM nP td N lh) (h6 : sI S 1043 6 = Int32.ofNat nC) (hD : ∀ j, j < nC → ND S R.1 j) (k : Q (Int32.ofNat (su (R.1 4) nC))) : P_X3_spilt 1043 S Q := by
  obtain ⟨f1, f2, f3, f4, f5⟩ := flow_at h
  have n12 := h.2.2.2.2.2.2.2.1.2.1
  unfold P_X3_spilt P_X3_spilt_L4
  refine lpA (N := nC) (s0 := 0) (R := fun j (a : Int32) => a = Int32.ofNat (su (R.1 4) j)) (B := fun a x K => P_X3_spilt_L4b 1043 a x S Q K) rfl (Nat.zero_le _) rfl (fun j hj a ha K hK => ?_)
  subst ha
  unfold P_X3_spilt_L4b
  refine ⟨f2, fun e => ?_, fun e => ?_⟩
  · rw [h6, nn_le (by omega) (by omega)] at e
    have e2 : j = nC := by omega
    subst e2; exact k
  · rw [h6, nn_le (by omega) (by omega)] at e
    refine ⟨1044, f3, f4.1, p_get f4 (by omega) ⟨7000 + j, rfl, f5 j (by omega), fun x hx y hy => ?_⟩⟩
    rw [(hD j (by omega)).2.2.2.2.1, n_add] at hx
    rw [hx, hy, n_s]
    exact hK (by omega) _ rfl
theorem x_wet {R : Ms × Nat × Nat} {Q : Int32 → Prop} (h : IV S S2 nC nR nT nK nL nM nP td N lh) (h6 : sI S 1043 6 = Int32.ofNat nC) (hD : ∀ j, j < nC → ND S R.1 j) (k : Q (Int32.ofNat (su (R.1 6) nC))) : P_X3_wet 1043 S Q := by
  obtain ⟨f1, f2, f3, f4, f5⟩ := flow_at h
  have n12 := h.2.2.2.2.2.2.2.1.2.1
  unfold P_X3_wet P_X3_wet_L4
  refine lpA (N := nC) (s0 := 0) (R := fun j (a : Int32) => a = Int32.ofNat (su (R.1 6) j)) (B := fun a x K => P_X3_wet_L4b 1043 a x S Q K) rfl (Nat.zero_le _) rfl (fun j hj a ha K hK => ?_)
  subst ha
  unfold P_X3_wet_L4b
  refine ⟨f2, fun e => ?_, fun e => ?_⟩
  · rw [h6, nn_le (by omega) (by omega)] at e
    have e2 : j = nC := by omega
    subst e2; exact k
  · rw [h6, nn_le (by omega) (by omega)] at e
    refine ⟨1044, f3, f4.1, p_get f4 (by omega) ⟨7000 + j, rfl, f5 j (by omega), fun x hx y hy => ?_⟩⟩
    rw [(hD j (by omega)).2.2.2.2.2.2, n_add] at hx
    rw [hx, hy, n_s]
    exact hK (by omega) _ rfl
theorem x_spiltAt {R : Ms × Nat × Nat} {c : Nat} {Q : Int32 → Prop} (h : IV S S2 nC nR nT nK nL nM nP td N lh) (h6 : sI S 1043 6 = Int32.ofNat nC) (hD : ∀ j, j < nC → ND S R.1 j) (hc : c < nC) (k : Q (Int32.ofNat (R.1 4 c))) : P_X3_spiltAt 1043 (Int32.ofNat c) S Q := by
  obtain ⟨f1, f2, f3, f4, f5⟩ := flow_at h
  have n12 := h.2.2.2.2.2.2.2.1.2.1
  unfold P_X3_spiltAt
  refine ⟨f2, within_e.mpr ?_⟩
  rw [h6, inn_cy (by omega) hc]
  refine ⟨fun z => absurd z (by decide), fun _ => ⟨1044, f3, f4.1, p_get f4 (by omega) ⟨7000 + c, rfl, f5 c (by omega), ?_⟩⟩⟩
  rw [(hD c hc).2.2.2.2.1]
  exact k
/-- a set of corners without a bed -/
def frS (S2 : Sg) (nC : Nat) (v : Int32) : Prop := ¬ inn v 0 (((1 : Int32) <<< (Int32.ofNat nC &&& 31)) - 1) = 0 ∧ ∀ c, c < nC → isnw v c → sI S2 1112 c = 0
theorem x_isFree {v : Int32} {Q : Int32 → Prop} (hS : GS S) (hC : GC S S2 nC) (k1 : frS S2 nC v → Q 1) (k0 : ¬ frS S2 nC v → Q 0) : P_X10_isFree 1000 v S Q := by
  have n12 := hC.2.1
  unfold P_X10_isFree
  refine ⟨hS.1.1, 1001, hS.1.2.1, hC.1.1, p_size hC.1 (within_e.mpr ⟨fun z => k0 (fun q => q.1 z), fun z => ?_⟩)⟩
  unfold P_X10_isFree_L23
  refine lpI (N := nC) (s0 := 0) (R := fun c => ∀ j, j < c → isnw v j → sI S2 1112 j = 0) (B := fun x K => P_X10_isFree_L23b 1000 v x S Q K) rfl (Nat.zero_le _) (fun j hj => absurd hj (Nat.not_lt_zero _)) (fun c hc hR K hK => ?_)
  unfold P_X10_isFree_L23b P_X10_isFree_B61
  refine ⟨hS.1.1, 1001, hS.1.2.1, hC.1.1, p_size hC.1 ⟨fun e => ?_, fun e => ?_⟩⟩
  · rw [nn_le (by omega) (by omega)] at e
    have e2 : c = nC := by omega
    subst e2
    exact k1 ⟨z, hR⟩
  · rw [nn_le (by omega) (by omega)] at e
    have hlt : c < nC := by omega
    have c0 := hC.2.2.2.1 c hlt
    refine holds_e.mpr ⟨fun y x hx => ?_, fun y => ⟨1001, hS.1.2.1, hC.1.1, p_get hC.1 hlt ⟨2000 + c, rfl, c0.1, fun y2 x hx => ?_, fun b y2 => ?_⟩⟩⟩
    · rw [hx, n_s]
      refine hK hlt (fun j hj hn => ?_)
      by_cases e2 : j = c
      · subst e2
        have hn : (v >>> (Int32.ofNat j &&& 31)) &&& 1 = 1 := hn
        rw [if_pos hn] at y; exact absurd y (by decide)
      · exact hR j (by omega) hn
    · rw [hx, n_s]
      refine hK hlt (fun j hj hn => ?_)
      by_cases e2 : j = c
      · subst e2
        rw [c0.2.2.2.2.2.2.2.2.2] at y2
        by_cases e3 : sI S2 1112 j = 0
        · exact e3
        · rw [if_neg e3] at y2; cases y2
      · exact hR j (by omega) hn
    · refine k0 (fun q => ?_)
      have hn : isnw v c := by
        by_cases e2 : isnw v c
        · exact e2
        · exact absurd (if_neg e2) y
      rw [c0.2.2.2.2.2.2.2.2.2, if_pos (q.2 c hlt hn)] at y2
      cases y2
theorem m_isNew {v : Int32} {Q : Int32 → Prop} (hM : MW S2) (hc : sI S2 1000 1 = Int32.ofNat nC) (n12 : nC ≤ 12) (k1 : frS S2 nC v → Q 1) (k0 : ¬ frS S2 nC v → Q 0) : P_X11_isNew 1000 v S2 Q := by
  unfold P_X11_isNew
  refine ⟨hM.o, isIn_e.mpr ?_⟩
  rw [hc]
  refine ⟨fun z => k0 (fun q => q.1 z), fun z => ?_⟩
  unfold P_X11_isNew_L22
  refine lpA (N := nC) (s0 := 0) (R := fun c (a : Int32) => (a = 1 ∧ ∀ j, j < c → isnw v j → sI S2 1112 j = 0) ∨ (a = 0 ∧ ¬ frS S2 nC v)) (B := fun a x K => P_X11_isNew_L22b 1000 v a x S2 Q K) rfl (Nat.zero_le _) (Or.inl ⟨rfl, fun j hj => absurd hj (Nat.not_lt_zero _)⟩) (fun c hcn a hR K hK => ?_)
  unfold P_X11_isNew_L22b P_X11_isNew_B55 P_X11_isNew_B51 P_X11_isNew_B56
  refine ⟨hM.o, fun e => ?_, fun e => ?_⟩
  · rw [hc, nn_le (by omega) (by omega)] at e
    have e2 : c = nC := by omega
    subst e2
    rcases hR with ⟨rfl, h⟩ | ⟨rfl, h⟩
    · exact ⟨Or.inr rfl, k1 ⟨z, h⟩⟩
    · exact ⟨Or.inl rfl, k0 h⟩
  · rw [hc, nn_le (by omega) (by omega)] at e
    have hlt : c < nC := by omega
    have h12 : c < 12 := by omega
    refine ⟨fun y x hx => ?_, fun y => ⟨fun y2 x hx => ?_, fun y2 => ⟨1112, hM.a12.1, hM.a12.2.1, by simp (disch := first | omega | decide) only [Option.some.injEq, exists_eq_left', exists_eq_left, forall_eq, forall_eq', true_and, and_true, true_implies, implies_true, false_implies, not_true_eq_false, not_false_eq_true, reduceCtorEq, and_self, forall_const, i10, i01, if_true, if_false, and_false, false_and, Nat.not_lt_zero, sK_pI, sN_pI, sR_pI, sL_pI, sK_pL, sN_pL, sR_pL, sI_pL, sK_pR, sN_pR, sI_pR, sL_pR, sI_pI_eq, sI_pI_ne, sL_pL_eq, sL_pL_ne, sR_pR_eq, sR_pR_ne, nn_le, nat32_lt, nn_eq, ln_le, nl_le, ln_lt, nl_lt, ln_eq, nl_eq, n_m1, n_lt0, vp_n, vp_l, lc_n, nat32c, n_s, nI_n, hM.a12, h12], fun y3 x hx => ?_, fun y3 x hx => ?_⟩⟩⟩
    · rw [hx, n_s]
      rcases hR with ⟨rfl, h⟩ | ⟨rfl, h⟩
      · exact absurd y (by decide)
      · exact hK hlt _ (Or.inr ⟨rfl, h⟩)
    · rw [hx, n_s]
      rcases hR with ⟨rfl, h⟩ | ⟨rfl, h⟩
      · refine hK hlt _ (Or.inl ⟨rfl, fun j hj hn => ?_⟩)
        by_cases e2 : j = c
        · subst e2; exact absurd hn (isnw_0.mp y2)
        · exact h j (by omega) hn
      · exact absurd rfl y
    · rw [nat32c (by omega)] at y3
      rw [hx, n_s]
      rcases hR with ⟨rfl, h⟩ | ⟨rfl, h⟩
      · refine hK hlt _ (Or.inl ⟨rfl, fun j hj hn => ?_⟩)
        by_cases e2 : j = c
        · subst e2; exact y3
        · exact h j (by omega) hn
      · exact absurd rfl y
    · rw [nat32c (by omega)] at y3
      rw [hx, n_s]
      refine hK hlt _ (Or.inr ⟨rfl, fun q => y3 (q.2 c hlt ?_)⟩)
      exact Classical.byContradiction (fun w => y2 (isnw_0.mpr w))
theorem wF_sm (f : SM S2 T) (v : Int32) : wF T v = wF S2 v := by
  funext k c
  unfold wF wB
  rw [drkN_sm f, vwI (f.v (x := 1131) (by omega) (by omega)), vwI (f.v (x := 1108) (by omega) (by omega)), vwI (f.v (x := 1110) (by omega) (by omega)), vwI (f.v (x := 1112) (by omega) (by omega)), vwI (f.v (x := 1116) (by omega) (by omega)), vwI (f.v (x := 1119) (by omega) (by omega))]
theorem beF_sm (f : SM S2 T) : beF T = beF S2 := by
  funext c
  unfold beF
  rw [vwI (f.v (x := 1111) (by omega) (by omega))]
theorem rnF_sm (f : SM S2 T) : rnF T = rnF S2 := by
  funext m
  unfold rnF
  rw [vwI (f.v (x := 1132) (by omega) (by omega))]
theorem brF_sm (f : SM S2 T) (r : Nat) : ∀ m, brF T r m = brF S2 r m
  | 0 => by
    unfold brF
    rw [vwI (f.v (x := 1129) (by omega) (by omega))]
  | m + 1 => by
    unfold brF
    rw [brF_sm f r m, rnF_sm f, vwI (f.v (x := 1127) (by omega) (by omega)), vwI (f.v (x := 1128) (by omega) (by omega))]
theorem owF_sm (f : SM S2 T) (nR : Nat) : owF T nR = owF S2 nR := by
  funext m c
  unfold owF
  rw [rnF_sm f, vwI (f.v (x := 1107) (by omega) (by omega))]
  congr 1
  refine su_congr (fun r _ => ?_)
  unfold ovC ovF
  rw [rnF_sm f, brF_sm f, vwI (f.v (x := 1125) (by omega) (by omega)), vwI (f.v (x := 1127) (by omega) (by omega)), vwI (f.v (x := 1128) (by omega) (by omega))]
/-- the storm with a set of new beds -/
def runF (S2 : Sg) (nC nR nM : Nat) (v : Int32) : Ms × Nat × Nat := q_rn (wF S2 v) (beF S2) (owF S2 nR) nC nM
theorem runF_sm (f : SM S2 T) (nC nR nM : Nat) (v : Int32) : runF T nC nR nM v = runF S2 nC nR nM v := by
  unfold runF
  rw [wF_sm f, beF_sm f, owF_sm f]
/-- what the reference's falls tells -/
theorem m_fallsR {v : Int32} {Q : Unit → Sg → Prop} (h : IV S S2 nC nR nT nK nL nM nP td N lh) (k : ∀ T, SM S2 T → (∀ j, j < nC → sL T 1144 j = gn ((runF S2 nC nR nM v).1 4 j)) → sL T 1000 49 = gn (su ((runF S2 nC nR nM v).1 4) nC) → sI T 1000 52 = Int32.ofNat (su ((runF S2 nC nR nM v).1 6) nC) → Q () T) : P_X11_falls 1000 v S2 Q :=
  m_falls h (fun T hX => k T hX.1 (fun j hj => (hX.2.1 j hj).2.1) hX.2.2.2.1 hX.2.2.2.2.1)
theorem run_b (h : IV S S2 nC nR nT nK nL nM nP td N lh) (v : Int32) : su ((runF S2 nC nR nM v).1 4) nC ≤ 345600000 ∧ su ((runF S2 nC nR nM v).1 6) nC ≤ 360 ∧ ∀ j, (runF S2 nC nR nM v).1 4 j ≤ 28800000 := by
  obtain ⟨hk, hM, hS, hU, gA, hW, hB, hC, hR, hT, hK, hL, hZ, hP, hN⟩ := h
  have b := rn_b (world_ok (v := v) gA hB hC hR) hZ.2.2.1
  exact ⟨b.1, b.2.1, fun j => (b.2.2.2.2.2.1 j).1⟩
end TR
theorem n_sub64 {a b : Nat} (ha : a < 2147483648) (hb : b < 2147483648) : (Int32.ofNat a - Int32.ofNat b).toInt64 = Int64.ofNat a - Int64.ofNat b := by
  apply Int64.toInt_inj.mp
  rw [Int32.toInt_toInt64, Int32.toInt_sub, Int64.toInt_sub, nat32 ha, nat32 hb, nat64 (by omega), nat64 (by omega), Int.bmod_eq_of_le (by omega) (by omega), Int.bmod_eq_of_le (by omega) (by omega)]
theorem pr_tried : Pr_tried Inv := by
  intro S S2 hI v1 v2
  have hI0 := hI
  obtain ⟨hk, hM, hS, hU, hA, hW, hB, nC, nR, nT, nK, nL, nM, nP, td, N, lh, hC, hR, hT, hK, hL, hZ, hP, hN⟩ := hI
  have hV : IV S S2 nC nR nT nK nL nM nP td N lh := ⟨hk, hM, hS, hU, hA, hW, hB, hC, hR, hT, hK, hL, hZ, hP, hN⟩
  unfold P_X10_tried
  have no : ∀ Q : Int64 → Sg → Prop, Q (-1) S2 → (inn v2 0 1 = 0 ∨ ¬ frS S2 nC v1) → P_X11_tried 1000 v1 v2 S2 Q := fun Q hQ hh => by
    unfold P_X11_tried
    refine ⟨hM.o, m_isNew hM hC.2.2.1 hC.2.1 (fun fr => ⟨fun _ => hQ, fun _ => isIn_e.mpr ⟨fun _ => hQ, fun z => ?_⟩⟩) (fun nf => ⟨fun _ => hQ, fun z => absurd rfl z⟩)⟩
    rcases hh with w | w
    · exact absurd w z
    · exact absurd fr w
  refine within_e.mpr ⟨fun w => ⟨hk, no _ ⟨rfl, hI0⟩ (Or.inl w)⟩, fun w => ⟨hS.1.1, x_isFree hS hC (fun fr => ⟨fun z => absurd z (by decide), fun _ => x_prep hV (fun S1 g1 f1 => ⟨1043, (flow_at (iv_sx hV g1)).1, (flow_at (iv_sx hV g1)).2.1, x_runF (iv_sx hV g1) f1 (fun S3 y d => ?_)⟩)⟩) (fun nf => ⟨fun _ => ⟨hk, no _ ⟨rfl, hI0⟩ (Or.inr nf)⟩, fun z => absurd rfl z⟩)⟩⟩
  have h3 := iv_sx (iv_sx hV g1) y.sx
  have f3 := f1.ry y
  have b := run_b hV v1
  have yes : ∀ Q : Int64 → Sg → Prop, (∀ T, SM S2 T → sL T 1000 49 = gn (su ((runF S2 nC nR nM v1).1 4) nC) → sI T 1000 52 = Int32.ofNat (su ((runF S2 nC nR nM v1).1 6) nC) → (v2 = 0 → Q (sL T 1000 49) T) ∧ (¬ v2 = 0 → Q ((sI T 1000 52).toInt64) T)) → P_X11_tried 1000 v1 v2 S2 Q := fun Q hQ => by
    unfold P_X11_tried
    exact ⟨hM.o, m_isNew hM hC.2.2.1 hC.2.1 (fun _ => ⟨fun z => absurd z (by decide), fun _ => isIn_e.mpr ⟨fun z => absurd z w, fun _ => m_fallsR hV (fun T t1 _ t3 t4 => hQ T t1 t3 t4)⟩⟩) (fun nf => absurd fr nf)⟩
  refine ⟨fun z => ⟨1043, (flow_at h3).1, (flow_at h3).2.1, x_spilt (R := runF S2 nC nR nM v1) h3 f3.1 d.1 ⟨h3.1, yes _ (fun T t1 t2 t3 => ⟨fun _ => ⟨?_, iv_inv (iv_sm h3 t1)⟩, fun q => absurd z q⟩)⟩⟩, fun z => ⟨1043, (flow_at h3).1, (flow_at h3).2.1, x_wet (R := runF S2 nC nR nM v1) h3 f3.1 d.1 ⟨h3.1, yes _ (fun T t1 t2 t3 => ⟨fun q => absurd q z, fun _ => ⟨?_, iv_inv (iv_sm h3 t1)⟩⟩)⟩⟩⟩
  · rw [t2, n_64 (by omega)]
  · rw [t3]
theorem pr_helps : Pr_helps Inv := by
  intro S S2 hI v1 v2
  have hI0 := hI
  obtain ⟨hk, hM, hS, hU, hA, hW, hB, nC, nR, nT, nK, nL, nM, nP, td, N, lh, hC, hR, hT, hK, hL, hZ, hP, hN⟩ := hI
  have hV : IV S S2 nC nR nT nK nL nM nP td N lh := ⟨hk, hM, hS, hU, hA, hW, hB, hC, hR, hT, hK, hL, hZ, hP, hN⟩
  have n12 := hC.2.1
  unfold P_X10_helps
  by_cases hc : isC v1 nC
  case neg =>
    refine ⟨hS.1.1, (cornerAt_n hS hC hc).mpr ⟨fun _ => ⟨hk, ?_⟩, fun c z => by cases z⟩⟩
    unfold P_X11_helps
    exact ⟨hM.o, (isCorner_n hM hC.2.2.1 n12 hc).mpr ⟨fun _ => ⟨rfl, hI0⟩, fun z => absurd rfl z⟩⟩
  obtain ⟨c, hc, rfl⟩ := hc
  have c0 := hC.2.2.2.1 c hc
  have h12 : c < 12 := by omega
  refine ⟨hS.1.1, (cornerAt_y hS hC hc).mpr ⟨fun z => absurd z (by simp), fun c' z => ?_⟩⟩
  cases z
  have m1 : ∀ Q : Int64 → Sg → Prop, (sI S2 1112 c = 0 → P_X11_isCorner 1000 v2 S2 (fun x9 => (x9 = 0 → Q (-1) S2) ∧ (¬ (x9 = 0) → P_X11_falls 1000 0 S2 (fun _ σ12 => ∃ c15 : Nat, sR σ12 1000 44 = some c15 ∧ sK σ12 c15 % 32 = 17 ∧ vp_in v2 (sN σ12 c15) ∧ ∀ x19 : Int64, x19 = sL σ12 c15 v2.toNatClampNeg → P_X11_falls 1000 (1 <<< (Int32.ofNat c &&& 31)) σ12 (fun _ σ22 => ∃ c25 : Nat, sR σ22 1000 44 = some c25 ∧ sK σ22 c25 % 32 = 17 ∧ vp_in v2 (sN σ22 c25) ∧ Q (x19 - (sL σ22 c25 v2.toNatClampNeg)) σ22))))) → (¬ sI S2 1112 c = 0 → Q (-1) S2) → P_X11_helps 1000 (Int32.ofNat c) v2 S2 Q := fun Q q1 q2 => by
    unfold P_X11_helps
    refine ⟨hM.o, (isCorner_y hM hC.2.2.1 n12 hc).mpr ⟨fun z => absurd z (by decide), fun _ => ⟨1112, hM.a12.1, hM.a12.2.1, by simp (disch := first | omega | decide) only [Option.some.injEq, exists_eq_left', exists_eq_left, forall_eq, forall_eq', true_and, and_true, true_implies, implies_true, false_implies, not_true_eq_false, not_false_eq_true, reduceCtorEq, and_self, forall_const, i10, i01, if_true, if_false, and_false, false_and, Nat.not_lt_zero, sK_pI, sN_pI, sR_pI, sL_pI, sK_pL, sN_pL, sR_pL, sI_pL, sK_pR, sN_pR, sI_pR, sL_pR, sI_pI_eq, sI_pI_ne, sL_pL_eq, sL_pL_ne, sR_pR_eq, sR_pR_ne, nn_le, nat32_lt, nn_eq, ln_le, nl_le, ln_lt, nl_lt, ln_eq, nl_eq, n_m1, n_lt0, vp_n, vp_l, lc_n, nat32c, n_s, nI_n, hM.a12, h12], ?_⟩⟩⟩
    rw [nat32c (by omega)]
    exact ⟨q1, q2⟩
  by_cases hb : sI S2 1112 c = 0
  case neg =>
    refine ⟨c0.1, fun z => ?_, fun b z => ⟨hk, m1 _ (fun z => absurd z hb) (fun _ => ⟨rfl, hI0⟩)⟩⟩
    rw [c0.2.2.2.2.2.2.2.2.2, if_neg hb] at z; cases z
  refine ⟨c0.1, fun _ => ?_, fun b z => ?_⟩
  case refine_2 => rw [c0.2.2.2.2.2.2.2.2.2, if_pos hb] at z; cases z
  by_cases hd : isC v2 nC
  case neg =>
    refine (cornerAt_n hS hC hd).mpr ⟨fun _ => ⟨hk, m1 _ (fun _ => (isCorner_n hM hC.2.2.1 n12 hd).mpr ⟨fun _ => ⟨rfl, hI0⟩, fun z => absurd rfl z⟩) (fun z => absurd hb z)⟩, fun c z => by cases z⟩
  obtain ⟨d, hd, rfl⟩ := hd
  have d12 : d < 12 := by omega
  refine (cornerAt_y hS hC hd).mpr ⟨fun z => absurd z (by simp), fun c' z => ?_⟩
  refine x_prep hV (fun S1 g1 f1 => ?_)
  have h1 := iv_sx hV g1
  refine ⟨1043, (flow_at h1).1, (flow_at h1).2.1, x_runF h1 f1 (fun S3 y3 d3 => ?_)⟩
  have h3 := iv_sx h1 y3.sx
  have f3 := f1.ry y3
  refine ⟨1043, (flow_at h3).1, (flow_at h3).2.1, x_spiltAt (R := runF S2 nC nR nM 0) h3 f3.1 d3.1 hd ⟨1043, (flow_at h3).1, (flow_at h3).2.1, x_runF h3 f3 (fun S5 y5 d5 => ?_)⟩⟩
  have h5 := iv_sx h3 y5.sx
  have f5 := f3.ry y5
  refine ⟨1043, (flow_at h5).1, (flow_at h5).2.1, x_spiltAt (R := runF S2 nC nR nM (1 <<< (Int32.ofNat c &&& 31))) h5 f5.1 d5.1 hd ⟨h5.1, m1 _ (fun _ => (isCorner_y hM hC.2.2.1 n12 hd).mpr ⟨fun z => absurd z (by decide), fun _ => m_fallsR hV (fun T t1 t2 t3 t4 => ⟨1144, t1.1.a44.1, t1.1.a44.2.1, by simp (disch := first | omega | decide) only [Option.some.injEq, exists_eq_left', exists_eq_left, forall_eq, forall_eq', true_and, and_true, true_implies, implies_true, false_implies, not_true_eq_false, not_false_eq_true, reduceCtorEq, and_self, forall_const, i10, i01, if_true, if_false, and_false, false_and, Nat.not_lt_zero, sK_pI, sN_pI, sR_pI, sL_pI, sK_pL, sN_pL, sR_pL, sI_pL, sK_pR, sN_pR, sI_pR, sL_pR, sI_pI_eq, sI_pI_ne, sL_pL_eq, sL_pL_ne, sR_pR_eq, sR_pR_ne, nn_le, nat32_lt, nn_eq, ln_le, nl_le, ln_lt, nl_lt, ln_eq, nl_eq, n_m1, n_lt0, vp_n, vp_l, lc_n, nat32c, n_s, nI_n, t1.1.a44, d12], fun x19 hx19 => m_fallsR (iv_sm hV t1) (fun U u1 u2 u3 u4 => ⟨1144, u1.1.a44.1, u1.1.a44.2.1, by simp (disch := first | omega | decide) only [Option.some.injEq, exists_eq_left', exists_eq_left, forall_eq, forall_eq', true_and, and_true, true_implies, implies_true, false_implies, not_true_eq_false, not_false_eq_true, reduceCtorEq, and_self, forall_const, i10, i01, if_true, if_false, and_false, false_and, Nat.not_lt_zero, sK_pI, sN_pI, sR_pI, sL_pI, sK_pL, sN_pL, sR_pL, sI_pL, sK_pR, sN_pR, sI_pR, sL_pR, sI_pI_eq, sI_pI_ne, sL_pL_eq, sL_pL_ne, sR_pR_eq, sR_pR_ne, nn_le, nat32_lt, nn_eq, ln_le, nl_le, ln_lt, nl_lt, ln_eq, nl_eq, n_m1, n_lt0, vp_n, vp_l, lc_n, nat32c, n_s, nI_n, u1.1.a44, d12], ?_, iv_inv (iv_sm h5 (t1.trans u1))⟩)⟩)⟩) (fun z => absurd hb z)⟩⟩
  have u2d := u2 d hd
  rw [runF_sm t1] at u2d
  have b0 := (run_b hV 0).2.2 d
  have b1 := (run_b hV (1 <<< (Int32.ofNat c &&& 31))).2.2 d
  rw [nat32c (by omega)] at hx19 ⊢
  rw [hx19, t2 d hd, u2d, n_sub64 (by omega) (by omega)]
