/-! ===== level 2: numbers; the storm's world out of the reference's store ===== -/
theorem n_sub {a b : Nat} (h : b ≤ a) : Int32.ofNat a - Int32.ofNat b = Int32.ofNat (a - b) := (Int32.ofNat_sub _ _ h).symm
theorem n_minC {a b : Nat} (ha : a < 2147483648) (hb : b < 2147483648) : (if Int32.ofNat a < Int32.ofNat b then Int32.ofNat a else Int32.ofNat b) = Int32.ofNat (min b a) := by
  by_cases l : a < b
  · rw [if_pos ((nat32_lt ha hb).mpr l), Nat.min_eq_right (by omega)]
  · rw [if_neg (fun z => l ((nat32_lt ha hb).mp z)), Nat.min_eq_left (by omega)]
theorem n_maxB {a b : Nat} (ha : a < 2147483648) (hb : b < 2147483648) : (if Int32.ofNat a < Int32.ofNat b then Int32.ofNat b else Int32.ofNat a) = Int32.ofNat (max a b) := by
  by_cases l : a < b
  · rw [if_pos ((nat32_lt ha hb).mpr l), Nat.max_eq_right (by omega)]
  · rw [if_neg (fun z => l ((nat32_lt ha hb).mp z)), Nat.max_eq_left (by omega)]
theorem nat64 {i : Nat} (h : i < 9223372036854775808) : (Int64.ofNat i).toInt = (i : Int) := Int64.toInt_ofNat_of_lt h
theorem nat64_lt {i j : Nat} (hi : i < 9223372036854775808) (hj : j < 9223372036854775808) : Int64.ofNat i < Int64.ofNat j ↔ i < j := by
  rw [Int64.lt_iff_toInt_lt, nat64 hi, nat64 hj]; omega
theorem g_le {i j : Nat} (hi : i < 9223372036854775808) (hj : j < 9223372036854775808) : Int64.ofNat i ≤ Int64.ofNat j ↔ i ≤ j := by
  rw [Int64.le_iff_toInt_le, nat64 hi, nat64 hj]; omega
theorem g_add {k i : Nat} : Int64.ofNat k + Int64.ofNat i = Int64.ofNat (k + i) := (Int64.ofNat_add k i).symm
theorem g_mul {k i : Nat} : Int64.ofNat k * Int64.ofNat i = Int64.ofNat (k * i) := (Int64.ofNat_mul k i).symm
theorem g_sub {a b : Nat} (h : b ≤ a) : Int64.ofNat a - Int64.ofNat b = Int64.ofNat (a - b) := (Int64.ofNat_sub _ _ h).symm
theorem g_divl {a k : Nat} (ha : a < 9223372036854775808) (hb : k < 9223372036854775808) : Int64.ofNat a / (no_index (OfNat.ofNat k) : Int64) = Int64.ofNat (a / k) := (Int64.ofNat_div ha hb).symm
theorem n_64 {a : Nat} (h : a < 2147483648) : (Int32.ofNat a).toInt64 = Int64.ofNat a := Int64.toInt_inj.mp (by rw [Int32.toInt_toInt64, nat32 h, nat64 (by omega)])
theorem g_32 {a : Nat} : (Int64.ofNat a).toInt32 = Int32.ofNat a := Int64.toInt32_ofNat'
theorem g_minC {a b : Nat} (ha : a < 9223372036854775808) (hb : b < 9223372036854775808) : (if Int64.ofNat a < Int64.ofNat b then Int64.ofNat a else Int64.ofNat b) = Int64.ofNat (min b a) := by
  by_cases l : a < b
  · rw [if_pos ((nat64_lt ha hb).mpr l), Nat.min_eq_right (by omega)]
  · rw [if_neg (fun z => l ((nat64_lt ha hb).mp z)), Nat.min_eq_left (by omega)]
theorem g_maxC {a b : Nat} (ha : a < 9223372036854775808) (hb : b < 9223372036854775808) : (if Int64.ofNat a < Int64.ofNat b then Int64.ofNat b else Int64.ofNat a) = Int64.ofNat (max b a) := by
  by_cases l : a < b
  · rw [if_pos ((nat64_lt ha hb).mpr l), Nat.max_eq_left (by omega)]
  · rw [if_neg (fun z => l ((nat64_lt ha hb).mp z)), Nat.max_eq_right (by omega)]
def nt (v : Int32) : Nat := v.toNatClampNeg
theorem nt_n {a : Nat} (h : a < 2147483648) : nt (Int32.ofNat a) = a := nat32c h
theorem rg_nt {v : Int32} {lo hi : Nat} (hh : hi < 2147483648) (h : rg v lo hi) : v = Int32.ofNat (nt v) ∧ nt v ≤ hi := by
  obtain ⟨k, k1, k2, rfl⟩ := h
  rw [nt_n (by omega)]
  exact ⟨rfl, k2⟩
abbrev isnw (v : Int32) (c : Nat) : Prop := (v >>> (Int32.ofNat c &&& 31)) &&& 1 = 1
def wB (S2 : Sg) : Ms := fun k c => if k = 0 then nt (sI S2 1108 c) else if k = 1 then nt (sI S2 1110 c) else if sI S2 1112 c = 0 then 0 else if k = 2 then nt (sI S2 1116 c) else if k = 3 then 10 - nt (sI S2 1119 c) else nt (drkN S2 c)
def wF (S2 : Sg) (v : Int32) : Ms := fun k c => if 2 ≤ k ∧ isnw v c then (if k = 2 then 100 else if k = 3 then 10 else nt (sI S2 1131 0)) else wB S2 k c
def beF (S2 : Sg) (c : Nat) : Option Nat := if sI S2 1111 c = -1 then none else some (nt (sI S2 1111 c))
def rnF (S2 : Sg) (m : Nat) : Nat := if m < 30 then nt (sI S2 1132 m) else 0
def brF (S2 : Sg) (r : Nat) : Nat → Nat
  | 0 => nt (sI S2 1129 r)
  | m + 1 => brF S2 r m + min (rnF S2 m * nt (sI S2 1127 r)) (nt (sI S2 1128 r) - brF S2 r m)
def ovF (S2 : Sg) (r m : Nat) : Nat := rnF S2 m * nt (sI S2 1127 r) - min (rnF S2 m * nt (sI S2 1127 r)) (nt (sI S2 1128 r) - brF S2 r m)
def ovC (S2 : Sg) (c m r : Nat) : Nat := if sI S2 1125 r = Int32.ofNat c then ovF S2 r m else 0
def owF (S2 : Sg) (nR m c : Nat) : Nat := rnF S2 m * nt (sI S2 1107 c) + su (ovC S2 c m) nR
section WO
variable {S S2 : Sg} {nC nR nT nK nL nM nP td N : Nat} {lh : Nat → Nat}
theorem rn_e (hA : GA S S2) {m : Nat} (hm : m < 30) : sI S2 1132 m = Int32.ofNat (rnF S2 m) ∧ rnF S2 m ≤ 50 := by
  unfold rnF
  rw [if_pos hm]
  exact rg_nt (by omega) (hA.2 m hm).2
theorem rn_le (hA : GA S S2) (m : Nat) : rnF S2 m ≤ 50 := by
  by_cases hm : m < 30
  · exact (rn_e hA hm).2
  · unfold rnF; rw [if_neg hm]; omega
theorem roof_e (hR : GR S S2 nC nR td) {r : Nat} (hr : r < nR) : (∃ c, c < nC ∧ sI S2 1125 r = Int32.ofNat c) ∧ sI S2 1127 r = Int32.ofNat (nt (sI S2 1127 r)) ∧ nt (sI S2 1127 r) ≤ 50 ∧ sI S2 1128 r = Int32.ofNat (nt (sI S2 1128 r)) ∧ nt (sI S2 1128 r) ≤ 200 ∧ sI S2 1129 r = Int32.ofNat (nt (sI S2 1129 r)) ∧ nt (sI S2 1129 r) ≤ nt (sI S2 1128 r) := by
  obtain ⟨h1, h2, ⟨a, b, a1, b1, e1, e2⟩, -⟩ := hR.2.2.2.2.2 r hr
  obtain ⟨h3, h4⟩ := rg_nt (by omega) h2
  rw [e1, e2, nt_n (by omega), nt_n (by omega)]
  exact ⟨h1, h3, h4, rfl, b1, rfl, a1⟩
theorem br_le {r : Nat} (h : nt (sI S2 1129 r) ≤ nt (sI S2 1128 r)) : ∀ m, brF S2 r m ≤ nt (sI S2 1128 r)
  | 0 => h
  | m + 1 => by
    have := br_le h m
    show brF S2 r m + min _ _ ≤ _
    have := Nat.min_le_right (rnF S2 m * nt (sI S2 1127 r)) (nt (sI S2 1128 r) - brF S2 r m)
    omega
theorem fall_le (hA : GA S S2) {r : Nat} (m : Nat) (h : nt (sI S2 1127 r) ≤ 50) : rnF S2 m * nt (sI S2 1127 r) ≤ 2500 := Nat.le_trans (Nat.mul_le_mul (rn_le hA m) h) (by omega)
theorem ovC_le (hA : GA S S2) (hR : GR S S2 nC nR td) {c m r : Nat} (hr : r < nR) : ovC S2 c m r ≤ 2500 := by
  have := fall_le hA (r := r) m (roof_e hR hr).2.2.1
  unfold ovC
  split
  · unfold ovF; omega
  · omega
theorem area_e (hC : GC S S2 nC) {c : Nat} (hc : c < nC) : sI S2 1107 c = Int32.ofNat (nt (sI S2 1107 c)) ∧ nt (sI S2 1107 c) ≤ 100 ∧ sI S2 1108 c = Int32.ofNat (nt (sI S2 1108 c)) ∧ nt (sI S2 1108 c) ≤ 500 ∧ sI S2 1110 c = Int32.ofNat (nt (sI S2 1110 c)) ∧ nt (sI S2 1110 c) ≤ 500 := by
  have h := hC.2.2.2.2.2 c hc
  unfold cornerB at h
  obtain ⟨h1, h2⟩ := rg_nt (by omega) h.1
  obtain ⟨h3, h4⟩ := rg_nt (by omega) h.2.1
  obtain ⟨h5, h6⟩ := rg_nt (by omega) h.2.2.2.1
  exact ⟨h1, h2, h3, h4, h5, h6⟩
theorem own_le (hA : GA S S2) (hC : GC S S2 nC) (hR : GR S S2 nC nR td) {j c m : Nat} (hc : c < nC) (hj : j ≤ nR) : rnF S2 m * nt (sI S2 1107 c) + su (ovC S2 c m) j ≤ 80000 := by
  have h1 := su_le (f := ovC S2 c m) (b := 2500) (n := j) (fun i hi => ovC_le hA hR (by omega))
  have h2 := hR.2.1
  have h3 : rnF S2 m * nt (sI S2 1107 c) ≤ 50 * 100 := Nat.mul_le_mul (rn_le hA m) (area_e hC hc).2.1
  have h4 : j * 2500 ≤ 30 * 2500 := Nat.mul_le_mul_right _ (by omega)
  omega
theorem be_n {c : Nat} (h : sI S2 1111 c = -1) : beF S2 c = none := by unfold beF; rw [if_pos h]
theorem be_s {c b : Nat} (hb : b < 12) (h : sI S2 1111 c = Int32.ofNat b) : beF S2 c = some b := by
  unfold beF
  rw [h, if_neg (fun z => (n_m1 (by omega)).mp z), nt_n (by omega)]
theorem be_e (hC : GC S S2 nC) {c : Nat} (hc : c < nC) : (sI S2 1111 c = -1 ∧ beF S2 c = none) ∨ ∃ b, c < b ∧ b < nC ∧ sI S2 1111 c = Int32.ofNat b ∧ beF S2 c = some b := by
  have h := hC.2.2.2.2.2 c hc
  have hn := hC.2.1
  unfold cornerB at h
  rcases h.2.2.2.2 with e | ⟨b, b1, b2, e⟩
  · exact Or.inl ⟨e, be_n e⟩
  · exact Or.inr ⟨b, b1, b2, e, be_s (by omega) e⟩
theorem bed_e (hA : GA S S2) (hB : GB S S2) {c : Nat} (hc : c < 12) (hb : ¬ sI S2 1112 c = 0) : sI S2 1116 c = Int32.ofNat (nt (sI S2 1116 c)) ∧ nt (sI S2 1116 c) ≤ 500 ∧ sI S2 1119 c = Int32.ofNat (nt (sI S2 1119 c)) ∧ nt (sI S2 1119 c) ≤ 10 ∧ drkN S2 c = Int32.ofNat (nt (drkN S2 c)) ∧ nt (drkN S2 c) ≤ 100 := by
  have h := (hB c hc).2.1
  have b := ((hB c hc).2.2.2 hb).2
  obtain ⟨h1, h2⟩ := rg_nt (by omega) b.2.1
  obtain ⟨h3, h4⟩ := rg_nt (by omega) h.2.1
  obtain ⟨h5, h6⟩ := rg_nt (by omega) (rg_drk (rg_full hA b.1) h.1)
  exact ⟨h1, h2, h3, h4, h5, h6⟩
theorem lot0_e (hA : GA S S2) : sI S2 1131 0 = Int32.ofNat (nt (sI S2 1131 0)) ∧ nt (sI S2 1131 0) ≤ 100 := rg_nt (by omega) (hA.1 0 (by omega)).2
theorem wF_new {v : Int32} {k c : Nat} (hk : 2 ≤ k) (h : isnw v c) : wF S2 v k c = if k = 2 then 100 else if k = 3 then 10 else nt (sI S2 1131 0) := by
  unfold wF; exact if_pos ⟨hk, h⟩
theorem wF_old {v : Int32} {k c : Nat} (h : ¬ isnw v c) : wF S2 v k c = wB S2 k c := by
  unfold wF; exact if_neg (fun z => h z.2)
theorem wF_lo {v : Int32} {k c : Nat} (h : k < 2) : wF S2 v k c = wB S2 k c := by
  unfold wF; exact if_neg (fun z => by omega)
theorem wB_le (hA : GA S S2) (hB : GB S S2) (hC : GC S S2 nC) {c : Nat} (hc : c < nC) : wB S2 0 c ≤ 500 ∧ wB S2 1 c ≤ 500 ∧ wB S2 2 c ≤ 500 ∧ wB S2 3 c ≤ 10 ∧ wB S2 4 c ≤ 100 := by
  have hn := hC.2.1
  have a := area_e hC hc
  refine ⟨a.2.2.2.1, a.2.2.2.2.2, ?_⟩
  by_cases hb : sI S2 1112 c = 0
  · simp [wB, hb]
  · have b := bed_e hA hB (c := c) (by omega) hb
    simp [wB, hb]
    omega
theorem world_ok {v : Int32} (hA : GA S S2) (hB : GB S S2) (hC : GC S S2 nC) (hR : GR S S2 nC nR td) : Wb (wF S2 v) (beF S2) (owF S2 nR) nC := by
  have hn := hC.2.1
  refine ⟨hn, fun c hc => ?_, fun m c hc => own_le hA hC hR hc (Nat.le_refl _)⟩
  obtain ⟨b0, b1, b2, b3, b4⟩ := wB_le hA hB hC hc
  have hl := (lot0_e hA).2
  refine ⟨by rw [wF_lo (by omega)]; exact b0, by rw [wF_lo (by omega)]; exact b1, ?_⟩
  have hbe : ∀ b, beF S2 c = some b → c < b ∧ b < nC := fun b hb => by
    rcases be_e hC hc with ⟨-, e⟩ | ⟨b', b1, b2, -, e⟩
    · rw [e] at hb; cases hb
    · rw [e] at hb; cases hb; exact ⟨b1, b2⟩
  by_cases h : isnw v c
  · rw [wF_new (by omega) h, wF_new (by omega) h, wF_new (by omega) h]
    simp only [Nat.reduceEqDiff, if_true, if_false]
    exact ⟨by omega, by omega, hl, hbe⟩
  · rw [wF_old h, wF_old h, wF_old h]
    exact ⟨b2, b3, b4, hbe⟩
end WO
