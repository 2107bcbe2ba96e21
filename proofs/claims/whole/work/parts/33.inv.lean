/-! ===== level 2: numbers ===== -/
theorem nn_le {i j : Nat} (hi : i < 2147483648) (hj : j < 2147483648) : Int32.ofNat i ≤ Int32.ofNat j ↔ i ≤ j := by
  rw [Int32.le_iff_toInt_le, nat32 hi, nat32 hj]; omega
theorem nn_eq {i j : Nat} (hi : i < 2147483648) (hj : j < 2147483648) : Int32.ofNat i = Int32.ofNat j ↔ i = j := by
  rw [← Int32.toInt_inj, nat32 hi, nat32 hj]; omega
theorem ln_le {k i : Nat} (hk : k < 2147483648) (hi : i < 2147483648) : (no_index (OfNat.ofNat k) : Int32) ≤ Int32.ofNat i ↔ k ≤ i := nn_le hk hi
theorem nl_le {k i : Nat} (hk : k < 2147483648) (hi : i < 2147483648) : Int32.ofNat i ≤ (no_index (OfNat.ofNat k) : Int32) ↔ i ≤ k := nn_le hi hk
theorem ln_lt {k i : Nat} (hk : k < 2147483648) (hi : i < 2147483648) : (no_index (OfNat.ofNat k) : Int32) < Int32.ofNat i ↔ k < i := nat32_lt hk hi
theorem nl_lt {k i : Nat} (hk : k < 2147483648) (hi : i < 2147483648) : Int32.ofNat i < (no_index (OfNat.ofNat k) : Int32) ↔ i < k := nat32_lt hi hk
theorem ln_eq {k i : Nat} (hk : k < 2147483648) (hi : i < 2147483648) : (no_index (OfNat.ofNat k) : Int32) = Int32.ofNat i ↔ k = i := nn_eq hk hi
theorem nl_eq {k i : Nat} (hk : k < 2147483648) (hi : i < 2147483648) : Int32.ofNat i = (no_index (OfNat.ofNat k) : Int32) ↔ i = k := nn_eq hi hk
theorem m1_int : (-1 : Int32).toInt = -1 := by decide
theorem n_m1 {i : Nat} (hi : i < 2147483648) : Int32.ofNat i = -1 ↔ False := by
  rw [← Int32.toInt_inj, nat32 hi, m1_int]; exact ⟨fun h => by omega, False.elim⟩
theorem n_lt0 {i : Nat} (hi : i < 2147483648) : Int32.ofNat i < 0 ↔ False := ⟨fun h => nat32_nn hi h, False.elim⟩
theorem n_lt_m1 {i : Nat} (hi : i < 2147483648) : Int32.ofNat i ≤ -1 ↔ False := by
  rw [Int32.le_iff_toInt_le, nat32 hi, m1_int]; exact ⟨fun h => by omega, False.elim⟩
theorem vp_n {i n : Nat} (hi : i < 2147483648) : vp_in (Int32.ofNat i) n ↔ i < n := by
  unfold vp_in
  rw [nat32c hi]
  constructor
  · intro h
    rcases Nat.lt_or_ge i n with z | z
    · exact z
    · exact absurd (Or.inr z) h
  · intro h z
    rcases z with z | z
    · exact nat32_nn hi z
    · omega
theorem vp_l {k n : Nat} (hk : k < 2147483648) : vp_in (no_index (OfNat.ofNat k)) n ↔ k < n := vp_n hk
theorem lc_n {k : Nat} (hk : k < 2147483648) : (no_index (OfNat.ofNat k) : Int32).toNatClampNeg = k := nat32c hk
theorem nI_n (n : Nat) : nI n = Int32.ofNat n := rfl
theorem n_s (n : Nat) : Int32.ofNat n + 1 = Int32.ofNat (n + 1) := nat32s n
theorem n_p {n : Nat} (h : 1 ≤ n) : Int32.ofNat n - 1 = Int32.ofNat (n - 1) := by
  rw [Int32.ofNat_sub n 1 h]; rfl
theorem n_m {n : Nat} (h : 1 ≤ n) : Int32.ofNat n + (-1) = Int32.ofNat (n - 1) := by
  rw [Int32.ofNat_sub n 1 h, Int32.sub_eq_add_neg]; rfl
theorem z_m1 : Int32.ofNat 0 - 1 = -1 := by decide
theorem z_m : Int32.ofNat 0 + (-1) = -1 := by decide
def rg (v : Int32) (lo hi : Nat) : Prop := ∃ k, lo ≤ k ∧ k ≤ hi ∧ v = Int32.ofNat k
theorem rg_of {v : Int32} {lo hi : Nat} (hl : lo < 2147483648) (hh : hi < 2147483648) (h1 : Int32.ofNat lo ≤ v) (h2 : v ≤ Int32.ofNat hi) : rg v lo hi := by
  have h0 : (0 : Int32) ≤ v := Int32.le_trans (by show Int32.ofNat 0 ≤ Int32.ofNat lo; rw [nn_le (by omega) hl]; omega) h1
  have hb := v.toInt_lt
  have hc : v.toNatClampNeg < 2147483648 := by
    show v.toInt.toNat < _
    omega
  have hv : v = Int32.ofNat v.toNatClampNeg := (Int32.ofNat_toNatClampNeg v h0).symm
  rw [hv] at h1 h2
  exact ⟨v.toNatClampNeg, (nn_le hl hc).mp h1, (nn_le hc hh).mp h2, hv⟩
theorem inn_rg {v : Int32} {lo hi : Nat} (hl : lo < 2147483648) (hh : hi < 2147483648) (e : ¬ inn v (Int32.ofNat lo) (Int32.ofNat hi) = 0) : rg v lo hi :=
  rg_of hl hh (inn_1.mp e).1 (inn_1.mp e).2
theorem inn_y {v lo hi : Int32} (h1 : lo ≤ v) (h2 : v ≤ hi) : inn v lo hi = 1 := by
  unfold inn
  rw [if_neg (Int32.not_lt.mpr h1), if_neg (Int32.not_lt.mpr h2)]
theorem inn_01 (v lo hi : Int32) : inn v lo hi = 0 ∨ inn v lo hi = 1 := by
  unfold inn
  by_cases h1 : v < lo
  · rw [if_pos h1]; exact Or.inl rfl
  · rw [if_neg h1]
    by_cases h2 : hi < v
    · rw [if_pos h2]; exact Or.inl rfl
    · rw [if_neg h2]; exact Or.inr rfl
theorem inn_bz (v lo hi : Int32) : bz (inn v lo hi) := inn_01 v lo hi
def isC (v : Int32) (n : Nat) : Prop := ∃ i, i < n ∧ v = Int32.ofNat i
theorem inn_c {v : Int32} {n : Nat} (hn : n < 2147483648) : ¬ inn v 0 (Int32.ofNat n - 1) = 0 ↔ isC v n := by
  constructor
  · intro h
    rcases Nat.eq_zero_or_pos n with z | z
    · subst z
      have h1 := inn_1.mp h
      rw [z_m1] at h1
      exact absurd (Int32.le_trans h1.1 h1.2) (by decide)
    · rw [n_p z] at h
      obtain ⟨k, -, k2, k3⟩ := inn_rg (lo := 0) (by omega) (by omega) h
      exact ⟨k, by omega, k3⟩
  · rintro ⟨i, hi, rfl⟩
    rw [n_p (by omega), inn_y]
    · decide
    · show Int32.ofNat 0 ≤ _; rw [nn_le (by omega) (by omega)]; omega
    · rw [nn_le (by omega) (by omega)]; omega
theorem inn_cy {n i : Nat} (hn : n < 2147483648) (hi : i < n) : inn (Int32.ofNat i) 0 (Int32.ofNat n - 1) = 1 := by
  rcases inn_01 (Int32.ofNat i) 0 (Int32.ofNat n - 1) with h | h
  · exact absurd h ((inn_c hn).mpr ⟨i, hi, rfl⟩)
  · exact h
theorem inn_cn {v : Int32} {n : Nat} (hn : n < 2147483648) (hi : ¬ isC v n) : inn v 0 (Int32.ofNat n - 1) = 0 :=
  Classical.byContradiction fun h => hi ((inn_c hn).mp h)
theorem inn_l {lo hi i : Nat} (hl : lo < 2147483648) (hh : hi < 2147483648) (h1 : lo ≤ i) (h2 : i ≤ hi) : inn (Int32.ofNat i) (no_index (OfNat.ofNat lo)) (no_index (OfNat.ofNat hi)) = 1 :=
  inn_y ((nn_le hl (by omega)).mpr h1) ((nn_le (by omega) hh).mpr h2)
theorem within_e {v lo hi : Int32} {S : Sg} {Q : Int32 → Prop} : P_X10_within v lo hi S Q ↔ Q (inn v lo hi) := by
  refine ⟨fun h => ?_, p_within⟩
  unfold P_X10_within P_X10_within_B14 at h
  unfold inn
  by_cases h1 : v < lo
  · rw [if_pos h1]; exact h.1 h1
  · rw [if_neg h1]
    by_cases h2 : hi < v
    · rw [if_pos h2]; exact (h.2 h1).1 h2
    · rw [if_neg h2]; exact (h.2 h1).2 h2
theorem isIn_e {v lo hi : Int32} {S : Sg} {Q : Int32 → Prop} : P_X11_isIn v lo hi S Q ↔ Q (inn v lo hi) := by
  refine ⟨fun h => ?_, p_isIn⟩
  unfold P_X11_isIn P_X11_isIn_B14 at h
  unfold inn
  by_cases h1 : v < lo
  · rw [if_pos h1]; exact h.1 h1
  · rw [if_neg h1]
    by_cases h2 : hi < v
    · rw [if_pos h2]; exact (h.2 h1).1 h2
    · rw [if_neg h2]; exact (h.2 h1).2 h2
theorem size_e {S : Sg} {h ro n : Nat} {el : Nat → Nat} {Q : Int32 → Prop} (hL : Lst S h ro el n) : P_Jx4a65c_size_8abf5 h S Q ↔ Q (Int32.ofNat n) := by
  refine ⟨fun z => ?_, p_size hL⟩
  unfold P_Jx4a65c_size_8abf5 at z
  rw [hL.2.1] at z
  exact z.2
theorem get_e {S : Sg} {h ro n i : Nat} {el : Nat → Nat} {Q : Option Nat → Prop} (hL : Lst S h ro el n) (hi : i < n) : P_Jx4a65c_get_915e3 h (Int32.ofNat i) S Q ↔ Q (some (el i)) := by
  refine ⟨fun z => ?_, p_get hL hi⟩
  obtain ⟨h1, h2, h3, h4⟩ := hL
  rcases h4 with ⟨e, -⟩ | ⟨arr, g1, g2, g3, g4, g5, g6, g7⟩
  · omega
  · unfold P_Jx4a65c_get_915e3 P_J15_checkIndex_7cf53 P_J3_checkIndex_8e157 P_Jx4a65c_elementData_915e3 at z
    obtain ⟨-, -, z2⟩ := z
    obtain ⟨z3, -⟩ := z2 (nat32_nn (by omega))
    obtain ⟨-, a, b1, b2, b3, b4⟩ := z3 (by rw [h2]; exact (nat32_lt (by omega) (by omega)).mpr hi)
    rw [g1] at b1
    cases b1
    rw [nat32c (by omega), g7 i hi] at b4
    exact b4
/-! ===== level 2: what holds between the class's object (store S) and the reference's (store S2) ===== -/
def stru (S : Sg) (x : Nat) : Nat × Nat × (Nat → Option Nat) := (sK S x, sN S x, sR S x)
theorem stru_pI {S : Sg} {a k x : Nat} {v : Int32} : stru (pI S a k v) x = stru S x := rfl
theorem stru_pL {S : Sg} {a k x : Nat} {v : Int64} : stru (pL S a k v) x = stru S x := rfl
theorem stru_vw {S S' : Sg} {x : Nat} (h : vw S' x = vw S x) : stru S' x = stru S x := by
  unfold stru; rw [vwK h, vwN h, vwR h]
theorem stK {S S' : Sg} {x : Nat} (h : stru S' x = stru S x) : sK S' x = sK S x := congrArg (fun z => z.1) h
theorem stN {S S' : Sg} {x : Nat} (h : stru S' x = stru S x) : sN S' x = sN S x := congrArg (fun z => z.2.1) h
theorem stR {S S' : Sg} {x : Nat} (h : stru S' x = stru S x) : sR S' x = sR S x := congrArg (fun z => z.2.2) h
/-- what stands fast: the object, its parts and arrays -/
abbrev GO (S : Sg) : Prop := sK S 1000 % 32 = 12 ∧ sR S 1000 0 = some 1001 ∧ sR S 1000 1 = some 1002 ∧ sR S 1000 2 = some 1003 ∧ sR S 1000 3 = some 1004 ∧ sR S 1000 4 = some 1005 ∧ sR S 1000 5 = some 1010 ∧ sR S 1000 6 = some 1020 ∧ sR S 1000 7 = some 1043 ∧ sR S 1000 8 = some 1050 ∧ sR S 1000 9 = some 1051 ∧ sR S 1000 10 = some 1052 ∧ sR S 1000 11 = some 1060 ∧ sR S 1000 12 = some 1053 ∧ sR S 1000 13 = some 1054
abbrev GO2 (S : Sg) : Prop := sK S 1020 % 32 = 9 ∧ sR S 1020 1 = some 1021 ∧ sK S 1021 % 32 = 16 ∧ sN S 1021 = 700 ∧ sK S 1043 % 32 = 5 ∧ sR S 1043 0 = some 1044 ∧ sR S 1043 3 = some 1045 ∧ sR S 1043 4 = some 1046 ∧ sR S 1043 5 = some 1047 ∧ sK S 1045 % 32 = 16 ∧ sN S 1045 = 360 ∧ sK S 1046 % 32 = 16 ∧ sN S 1046 = 30 ∧ sK S 1047 % 32 = 16 ∧ sN S 1047 = 12 ∧ sK S 1050 % 32 = 16 ∧ sN S 1050 = 10 ∧ sK S 1051 % 32 = 16 ∧ sN S 1051 = 30 ∧ sK S 1052 % 32 = 16 ∧ sN S 1052 = 10 ∧ sK S 1053 % 32 = 16 ∧ sN S 1053 = 12 ∧ sK S 1054 % 32 = 17 ∧ sN S 1054 = 7 ∧ sK S 1060 % 32 = 21 ∧ sN S 1060 = 10
def GO3 (S : Sg) : Prop := ∀ n, n < 10 → sR S 1060 n = some (1061 + n) ∧ sK S (1061 + n) % 32 = 16 ∧ sN S (1061 + n) = 10
def GO4 (S : Sg) : Prop := sK S 1010 % 32 = 6 ∧ sI S 1010 1 = -1 ∧ sR S 1010 2 = some 1011 ∧ sR S 1010 3 = some 1012 ∧ Lst S 1011 0 (fun _ => 0) 0 ∧ sK S 1012 % 32 = 16 ∧ sN S 1012 = 21 ∧ ∀ w, w < 21 → sI S 1012 w = bareV w
def GO5 (S : Sg) : Prop := Lst S 1044 6 (fun j => 7000 + j) 12 ∧ ∀ j, j < 12 → sK S (7000 + j) % 32 = 7
def GS (S : Sg) : Prop := GO S ∧ GO2 S ∧ GO3 S ∧ GO4 S ∧ GO5 S
theorem GS.keep {S S' : Sg} (h : GS S) (e : ∀ x, 1000 ≤ x → x < 1100 → ¬ (1001 ≤ x ∧ x ≤ 1005) → stru S' x = stru S x) (e2 : ∀ x, (1010 ≤ x ∧ x ≤ 1012 ∨ x = 1044 ∨ x = 2 ∨ 10000 ≤ x ∧ (sK S x = 20 + 32 * 6 ∨ sK S x = 20 + 32 * 0)) → vw S' x = vw S x) (e3 : ∀ x, 7000 ≤ x → x < 7012 → sK S' x = sK S x) : GS S' := by
  obtain ⟨h1, h2, h3, h4, h5⟩ := h
  have k : ∀ x, 1000 ≤ x → x < 1100 → ¬ (1001 ≤ x ∧ x ≤ 1005) → sK S' x = sK S x := fun x a b c => stK (e x a b c)
  have n : ∀ x, 1000 ≤ x → x < 1100 → ¬ (1001 ≤ x ∧ x ≤ 1005) → sN S' x = sN S x := fun x a b c => stN (e x a b c)
  have r : ∀ x, 1000 ≤ x → x < 1100 → ¬ (1001 ≤ x ∧ x ≤ 1005) → sR S' x = sR S x := fun x a b c => stR (e x a b c)
  refine ⟨?_, ?_, ?_, ?_, ?_⟩
  · unfold GO at h1 ⊢
    rw [k 1000 (by omega) (by omega) (by omega), r 1000 (by omega) (by omega) (by omega)]
    exact h1
  · unfold GO2 at h2 ⊢
    simp (disch := omega) only [k, n, r]
    exact h2
  · intro i hi
    have := h3 i hi
    simp (disch := omega) only [k, n, r]
    exact this
  · unfold GO4 at h4 ⊢
    rw [vwK (e2 1010 (by omega)), vwI (e2 1010 (by omega)), vwR (e2 1010 (by omega)), vwK (e2 1012 (by omega)), vwN (e2 1012 (by omega)), vwI (e2 1012 (by omega))]
    refine ⟨h4.1, h4.2.1, h4.2.2.1, h4.2.2.2.1, ?_, h4.2.2.2.2.2⟩
    exact h4.2.2.2.2.1.keep (e2 1011 (by omega)) (fun a a1 a2 => e2 a (by omega)) (e2 2 (by omega))
  · refine ⟨h5.1.keep (e2 1044 (by omega)) (fun a a1 a2 => e2 a (by omega)) (e2 2 (by omega)), fun j hj => ?_⟩
    rw [e3 _ (by omega) (by omega)]
    exact h5.2 j hj
/-- corners -/
abbrev cornerE (S S2 : Sg) (i : Nat) : Prop := sK S (2000 + i) % 32 = 4 ∧ sI S (2000 + i) 0 = sI S2 1107 i ∧ sI S (2000 + i) 1 = sI S2 1108 i ∧ sI S (2000 + i) 2 = sI S2 1109 i ∧ sI S (2000 + i) 3 = sI S2 1110 i ∧ sI S (2000 + i) 4 = sI S2 1111 i ∧ sI S (2000 + i) 6 = (sL S2 1156 i).toInt32 ∧ sI S (2000 + i) 7 = (sL S2 1157 i).toInt32 ∧ sI S (2000 + i) 8 = sI S2 1160 i ∧ sR S (2000 + i) 5 = if sI S2 1112 i = 0 then none else some (3000 + i)
def cornerB (S2 : Sg) (n i : Nat) : Prop := rg (sI S2 1107 i) 0 100 ∧ rg (sI S2 1108 i) 0 500 ∧ rg (sI S2 1109 i) 0 9 ∧ rg (sI S2 1110 i) 0 500 ∧ (sI S2 1111 i = -1 ∨ ∃ b, i < b ∧ b < n ∧ sI S2 1111 i = Int32.ofNat b)
def GC (S S2 : Sg) (n : Nat) : Prop := Lst S 1001 1 (fun i => 2000 + i) n ∧ n ≤ 12 ∧ sI S2 1000 1 = Int32.ofNat n ∧ (∀ i, i < n → cornerE S S2 i) ∧ (∀ i, n ≤ i → i < 12 → sK S (2000 + i) = 0 ∧ sI S2 1112 i = 0 ∧ sL S2 1156 i = 0 ∧ sL S2 1157 i = 0 ∧ sI S2 1160 i = 0) ∧ ∀ i, i < n → cornerB S2 n i
theorem GC.keep {S S2 S' S2' : Sg} {n : Nat} (h : GC S S2 n) (e : ∀ x, (x = 1001 ∨ x = 2 ∨ 2000 ≤ x ∧ x < 2012 ∨ 10000 ≤ x ∧ sK S x = 20 + 32 * 1) → vw S' x = vw S x) (e2 : ∀ x, (1107 ≤ x ∧ x ≤ 1112 ∨ 1156 ≤ x ∧ x ≤ 1160) → vw S2' x = vw S2 x) (e3 : sI S2' 1000 1 = sI S2 1000 1) : GC S' S2' n := by
  obtain ⟨h1, h2, h3, h4, h5, h6⟩ := h
  refine ⟨h1.keep (e _ (by omega)) (fun a a1 a2 => e a (by omega)) (e 2 (by omega)), h2, e3.trans h3, fun i hi => ?_, fun i hi hi2 => ?_, fun i hi => ?_⟩
  · have := h4 i hi
    unfold cornerE at this ⊢
    rw [vwK (e (2000 + i) (by omega)), vwI (e (2000 + i) (by omega)), vwR (e (2000 + i) (by omega)), vwI (e2 1107 (by omega)), vwI (e2 1108 (by omega)), vwI (e2 1109 (by omega)), vwI (e2 1110 (by omega)), vwI (e2 1111 (by omega)), vwI (e2 1112 (by omega)), vwI (e2 1160 (by omega)), vwL (e2 1156 (by omega)), vwL (e2 1157 (by omega))]
    exact this
  · rw [vwK (e (2000 + i) (by omega)), vwI (e2 1112 (by omega)), vwI (e2 1160 (by omega)), vwL (e2 1156 (by omega)), vwL (e2 1157 (by omega))]
    exact h5 i hi hi2
  · have := h6 i hi
    unfold cornerB at this ⊢
    rw [vwI (e2 1107 (by omega)), vwI (e2 1108 (by omega)), vwI (e2 1109 (by omega)), vwI (e2 1110 (by omega)), vwI (e2 1111 (by omega))]
    exact this
/-- beds -/
abbrev bedE (S S2 : Sg) (i : Nat) : Prop := sK S (3000 + i) % 32 = 2 ∧ sR S (3000 + i) 11 = some (3100 + i) ∧ sK S (3100 + i) % 32 = 16 ∧ sN S (3100 + i) = 11 ∧ sI S (3000 + i) 0 = sI S2 1115 i ∧ sI S (3000 + i) 1 = sI S2 1116 i ∧ sI S (3000 + i) 2 = sI S2 1113 i ∧ sI S (3000 + i) 3 = sI S2 1117 i ∧ sI S (3000 + i) 4 = sI S2 1118 i ∧ sI S (3000 + i) 5 = sI S2 1119 i ∧ sI S (3000 + i) 6 = sI S2 1120 i ∧ sI S (3000 + i) 7 = sI S2 1114 i ∧ sI S (3000 + i) 8 = sI S2 1121 i ∧ sI S (3000 + i) 9 = sI S2 1122 i ∧ sI S (3000 + i) 10 = sI S2 1123 i ∧ ∀ k, k < 11 → sI S (3100 + i) k = sI S2 1124 (11 * i + k)
def bedB (S2 : Sg) (i : Nat) : Prop := rg (sI S2 1115 i) 0 9 ∧ rg (sI S2 1116 i) 0 500 ∧ bz (sI S2 1113 i) ∧ bz (sI S2 1114 i) ∧ (sI S2 1123 i = -1 ∨ rg (sI S2 1123 i) 0 3)
def bedB0 (S2 : Sg) (i : Nat) : Prop := rg (sI S2 1118 i) 0 100 ∧ rg (sI S2 1119 i) 0 10 ∧ rg (sI S2 1121 i) 0 500
def GB (S S2 : Sg) : Prop := ∀ i, i < 12 → bz (sI S2 1112 i) ∧ bedB0 S2 i ∧ (sI S2 1112 i = 0 → sK S (3000 + i) = 0 ∧ sK S (3100 + i) = 0 ∧ sI S2 1118 i = 0 ∧ sI S2 1119 i = 0 ∧ sI S2 1120 i = 0 ∧ sI S2 1121 i = 0 ∧ sI S2 1122 i = 0) ∧ (¬ sI S2 1112 i = 0 → bedE S S2 i ∧ bedB S2 i)
theorem GB.keep1 {S S2 S' S2' : Sg} {i : Nat} (h : bz (sI S2 1112 i) ∧ bedB0 S2 i ∧ (sI S2 1112 i = 0 → sK S (3000 + i) = 0 ∧ sK S (3100 + i) = 0 ∧ sI S2 1118 i = 0 ∧ sI S2 1119 i = 0 ∧ sI S2 1120 i = 0 ∧ sI S2 1121 i = 0 ∧ sI S2 1122 i = 0) ∧ (¬ sI S2 1112 i = 0 → bedE S S2 i ∧ bedB S2 i)) (e : vw S' (3000 + i) = vw S (3000 + i)) (e1 : vw S' (3100 + i) = vw S (3100 + i)) (e2 : ∀ x, 1112 ≤ x → x ≤ 1123 → sI S2' x i = sI S2 x i) (e3 : ∀ k, k < 11 → sI S2' 1124 (11 * i + k) = sI S2 1124 (11 * i + k)) : bz (sI S2' 1112 i) ∧ bedB0 S2' i ∧ (sI S2' 1112 i = 0 → sK S' (3000 + i) = 0 ∧ sK S' (3100 + i) = 0 ∧ sI S2' 1118 i = 0 ∧ sI S2' 1119 i = 0 ∧ sI S2' 1120 i = 0 ∧ sI S2' 1121 i = 0 ∧ sI S2' 1122 i = 0) ∧ (¬ sI S2' 1112 i = 0 → bedE S' S2' i ∧ bedB S2' i) := by
  unfold bedB0 bedB bedE at *
  rw [vwK e, vwK e1, vwI e, vwI e1, vwN e1, vwR e, e2 1112 (by omega) (by omega), e2 1113 (by omega) (by omega), e2 1114 (by omega) (by omega), e2 1115 (by omega) (by omega), e2 1116 (by omega) (by omega), e2 1117 (by omega) (by omega), e2 1118 (by omega) (by omega), e2 1119 (by omega) (by omega), e2 1120 (by omega) (by omega), e2 1121 (by omega) (by omega), e2 1122 (by omega) (by omega), e2 1123 (by omega) (by omega)]
  refine ⟨h.1, h.2.1, h.2.2.1, fun z => ?_⟩
  obtain ⟨a, b⟩ := h.2.2.2 z
  refine ⟨?_, b⟩
  obtain ⟨a1, a2, a3, a4, a5, a6, a7, a8, a9, a10, a11, a12, a13, a14, a15, a16⟩ := a
  exact ⟨a1, a2, a3, a4, a5, a6, a7, a8, a9, a10, a11, a12, a13, a14, a15, fun k hk => (a16 k hk).trans (e3 k hk).symm⟩
theorem GB.keep {S S2 S' S2' : Sg} (h : GB S S2) (e : ∀ x, 3000 ≤ x → x < 3112 → vw S' x = vw S x) (e2 : ∀ x, 1112 ≤ x → x ≤ 1124 → vw S2' x = vw S2 x) : GB S' S2' := fun i hi => GB.keep1 (h i hi) (e _ (by omega) (by omega)) (e _ (by omega) (by omega)) (fun x h1 h2 => by rw [vwI (e2 x h1 (by omega))]) (fun k _ => by rw [vwI (e2 1124 (by omega) (by omega))])
/-- roofs -/
def lastY (p : Int32) : Nat → Int32
  | 0 => -1
  | y + 1 => if (p >>> (Int32.ofNat y &&& 31)) &&& 1 = 1 then Int32.ofNat y else lastY p y
abbrev roofE (S S2 : Sg) (i : Nat) : Prop := sK S (4000 + i) % 32 = 8 ∧ sI S (4000 + i) 0 = sI S2 1125 i ∧ sI S (4000 + i) 1 = sI S2 1126 i ∧ sI S (4000 + i) 2 = sI S2 1127 i ∧ sI S (4000 + i) 3 = sI S2 1128 i ∧ sI S (4000 + i) 4 = sI S2 1129 i ∧ sI S (4000 + i) 5 = lastY (sI S2 1130 i) 10 ∧ sI S (4000 + i) 6 = sI S2 1130 i
def roofB (S2 : Sg) (n td i : Nat) : Prop := (∃ c, c < n ∧ sI S2 1125 i = Int32.ofNat c) ∧ rg (sI S2 1127 i) 0 50 ∧ (∃ a b, a ≤ b ∧ b ≤ 200 ∧ sI S2 1129 i = Int32.ofNat a ∧ sI S2 1128 i = Int32.ofNat b) ∧ ∀ y, y < 10 → ((sI S2 1130 i) >>> (Int32.ofNat y &&& 31)) &&& 1 = 1 → y ≤ td / 365
def GR (S S2 : Sg) (n m td : Nat) : Prop := Lst S 1002 2 (fun i => 4000 + i) m ∧ m ≤ 30 ∧ sI S2 1000 2 = Int32.ofNat m ∧ (∀ i, i < m → roofE S S2 i) ∧ (∀ i, m ≤ i → i < 30 → sK S (4000 + i) = 0 ∧ sI S2 1129 i = 0 ∧ sI S2 1130 i = 0) ∧ ∀ i, i < m → roofB S2 n td i
theorem GR.keep {S S2 S' S2' : Sg} {n n' m td td' : Nat} (h : GR S S2 n m td) (hn : n ≤ n') (ht : td ≤ td') (e : ∀ x, (x = 1002 ∨ x = 2 ∨ 4000 ≤ x ∧ x < 4030 ∨ 10000 ≤ x ∧ sK S x = 20 + 32 * 2) → vw S' x = vw S x) (e2 : ∀ x, 1125 ≤ x → x ≤ 1130 → vw S2' x = vw S2 x) (e3 : sI S2' 1000 2 = sI S2 1000 2) : GR S' S2' n' m td' := by
  obtain ⟨h1, h2, h3, h4, h5, h6⟩ := h
  refine ⟨h1.keep (e _ (by omega)) (fun a a1 a2 => e a (by omega)) (e 2 (by omega)), h2, e3.trans h3, fun i hi => ?_, fun i hi hi2 => ?_, fun i hi => ?_⟩
  · have := h4 i hi
    unfold roofE at this ⊢
    rw [vwK (e (4000 + i) (by omega)), vwI (e (4000 + i) (by omega)), vwI (e2 1125 (by omega) (by omega)), vwI (e2 1126 (by omega) (by omega)), vwI (e2 1127 (by omega) (by omega)), vwI (e2 1128 (by omega) (by omega)), vwI (e2 1129 (by omega) (by omega)), vwI (e2 1130 (by omega) (by omega))]
    exact this
  · rw [vwK (e (4000 + i) (by omega)), vwI (e2 1129 (by omega) (by omega)), vwI (e2 1130 (by omega) (by omega))]
    exact h5 i hi hi2
  · have := h6 i hi
    unfold roofB at this ⊢
    rw [vwI (e2 1125 (by omega) (by omega)), vwI (e2 1127 (by omega) (by omega)), vwI (e2 1128 (by omega) (by omega)), vwI (e2 1129 (by omega) (by omega)), vwI (e2 1130 (by omega) (by omega))]
    obtain ⟨⟨c, hc, hc2⟩, b, d, f⟩ := this
    refine ⟨⟨c, by omega, hc2⟩, b, d, fun y hy hy2 => Nat.le_trans (f y hy hy2) (Nat.div_le_div_right ht)⟩
/-- told storms -/
abbrev stormE (S S2 : Sg) (i : Nat) : Prop := sK S (5000 + i) % 32 = 10 ∧ sI S (5000 + i) 0 = sI S2 1158 i ∧ (sI S (5000 + i) 1).toInt64 = sL S2 1153 i ∧ (sI S (5000 + i) 2).toInt64 = sL S2 1154 i ∧ sI S (5000 + i) 3 = sI S2 1159 i ∧ (sI S (5000 + i) 4).toInt64 = sL S2 1155 i
def GT (S S2 : Sg) (m : Nat) : Prop := Lst S 1003 3 (fun i => 5000 + i) m ∧ m ≤ 40 ∧ sI S2 1000 4 = Int32.ofNat m ∧ (∀ i, i < m → stormE S S2 i) ∧ ∀ i, m ≤ i → i < 40 → sK S (5000 + i) = 0
theorem GT.keep {S S2 S' S2' : Sg} {m : Nat} (h : GT S S2 m) (e : ∀ x, (x = 1003 ∨ x = 2 ∨ 5000 ≤ x ∧ x < 5040 ∨ 10000 ≤ x ∧ sK S x = 20 + 32 * 3) → vw S' x = vw S x) (e2 : ∀ x, 1153 ≤ x → x ≤ 1159 → ¬ (1156 ≤ x ∧ x ≤ 1157) → vw S2' x = vw S2 x) (e3 : sI S2' 1000 4 = sI S2 1000 4) : GT S' S2' m := by
  obtain ⟨h1, h2, h3, h4, h5⟩ := h
  refine ⟨h1.keep (e _ (by omega)) (fun a a1 a2 => e a (by omega)) (e 2 (by omega)), h2, e3.trans h3, fun i hi => ?_, fun i hi hi2 => ?_⟩
  · have := h4 i hi
    unfold stormE at this ⊢
    rw [vwK (e (5000 + i) (by omega)), vwI (e (5000 + i) (by omega)), vwL (e2 1153 (by omega) (by omega) (by omega)), vwL (e2 1154 (by omega) (by omega) (by omega)), vwL (e2 1155 (by omega) (by omega) (by omega)), vwI (e2 1158 (by omega) (by omega) (by omega)), vwI (e2 1159 (by omega) (by omega) (by omega))]
    exact this
  · rw [vwK (e (5000 + i) (by omega))]
    exact h5 i hi hi2
/-- complaints -/
abbrev complE (S S2 : Sg) (td i : Nat) : Prop := sK S (6000 + i) % 32 = 3 ∧ sI S (6000 + i) 0 = sI S2 1161 i ∧ sI S (6000 + i) 1 = sI S2 1162 i ∧ sI S (6000 + i) 2 = sI S2 1163 i ∧ sI S (6000 + i) 3 = sI S2 1164 i ∧ sI S (6000 + i) 4 = sI S2 1165 i ∧ sI S (6000 + i) 5 = sI S2 1166 i ∧ bz (sI S2 1166 i) ∧ rg (sI S2 1164 i) 0 td
/-- a complaint that one of a corner and a kind, told on a day, joins -/
def joins (S2 : Sg) (c k d : Int32) (i : Nat) : Prop := ¬ sI S2 1166 i = 0 ∧ sI S2 1161 i = c ∧ sI S2 1162 i = k ∧ d - sI S2 1164 i ≤ 7
def GK (S S2 : Sg) (m td : Nat) : Prop := Lst S 1004 4 (fun i => 6000 + i) m ∧ m ≤ 60 ∧ sI S2 1000 6 = Int32.ofNat m ∧ (∀ i, i < m → complE S S2 td i) ∧ (∀ i, m ≤ i → i < 60 → sK S (6000 + i) = 0) ∧ ∀ c k i j, i < m → j < m → joins S2 c k (Int32.ofNat td) i → joins S2 c k (Int32.ofNat td) j → i = j
theorem GK.keep {S S2 S' S2' : Sg} {m td : Nat} (h : GK S S2 m td) (e : ∀ x, (x = 1004 ∨ x = 2 ∨ 6000 ≤ x ∧ x < 6060 ∨ 10000 ≤ x ∧ sK S x = 20 + 32 * 4) → vw S' x = vw S x) (e2 : ∀ x, 1161 ≤ x → x ≤ 1166 → vw S2' x = vw S2 x) (e3 : sI S2' 1000 6 = sI S2 1000 6) : GK S' S2' m td := by
  obtain ⟨h1, h2, h3, h4, h5, h6⟩ := h
  refine ⟨h1.keep (e _ (by omega)) (fun a a1 a2 => e a (by omega)) (e 2 (by omega)), h2, e3.trans h3, fun i hi => ?_, fun i hi hi2 => ?_, ?_⟩
  · have := h4 i hi
    unfold complE at this ⊢
    rw [vwK (e (6000 + i) (by omega)), vwI (e (6000 + i) (by omega)), vwI (e2 1161 (by omega) (by omega)), vwI (e2 1162 (by omega) (by omega)), vwI (e2 1163 (by omega) (by omega)), vwI (e2 1164 (by omega) (by omega)), vwI (e2 1165 (by omega) (by omega)), vwI (e2 1166 (by omega) (by omega))]
    exact this
  · rw [vwK (e (6000 + i) (by omega))]
    exact h5 i hi hi2
  · unfold joins at h6 ⊢
    rw [vwI (e2 1161 (by omega) (by omega)), vwI (e2 1162 (by omega) (by omega)), vwI (e2 1164 (by omega) (by omega)), vwI (e2 1166 (by omega) (by omega))]
    exact h6
/-- days, minutes, counters -/
def GZ (S S2 : Sg) (nM td : Nat) : Prop := sI S 1000 14 = Int32.ofNat nM ∧ sI S2 1000 3 = Int32.ofNat nM ∧ nM ≤ 30 ∧ sI S 1000 15 = Int32.ofNat td ∧ sI S2 1000 0 = Int32.ofNat td ∧ td ≤ 3649 ∧ sI S 1000 16 = sI S2 1000 5 ∧ sI S 1000 17 = sI S2 1000 80
theorem GZ.keep {S S2 S' S2' : Sg} {nM td : Nat} (h : GZ S S2 nM td) (e : ∀ k, 14 ≤ k → k ≤ 17 → sI S' 1000 k = sI S 1000 k) (e2 : ∀ k, (k = 0 ∨ k = 3 ∨ k = 5 ∨ k = 80) → sI S2' 1000 k = sI S2 1000 k) : GZ S' S2' nM td := by
  unfold GZ at *
  rw [e 14 (by omega) (by omega), e 15 (by omega) (by omega), e 16 (by omega) (by omega), e 17 (by omega) (by omega), e2 0 (by omega), e2 3 (by omega), e2 5 (by omega), e2 80 (by omega)]
  exact h
/-- lots, minutes; what neighbours owe and kept; sums -/
def GA (S S2 : Sg) : Prop := (∀ i, i < 10 → sI S 1050 i = sI S2 1131 i ∧ rg (sI S2 1131 i) 0 100) ∧ ∀ i, i < 30 → sI S 1051 i = sI S2 1132 i ∧ rg (sI S2 1132 i) 0 50
theorem GA.keep {S S2 S' S2' : Sg} (h : GA S S2) (e : ∀ x, 1050 ≤ x → x ≤ 1051 → vw S' x = vw S x) (e2 : ∀ x, 1131 ≤ x → x ≤ 1132 → vw S2' x = vw S2 x) : GA S' S2' := by
  unfold GA at *
  rw [vwI (e 1050 (by omega) (by omega)), vwI (e 1051 (by omega) (by omega)), vwI (e2 1131 (by omega) (by omega)), vwI (e2 1132 (by omega) (by omega))]
  exact h
def GW (S S2 : Sg) : Prop := (∀ i, i < 10 → sI S 1052 i = sI S2 1133 i) ∧ ∀ i y, i < 10 → y < 10 → sI S (1061 + i) y = sI S2 1134 (10 * y + i)
theorem GW.keep {S S2 S' S2' : Sg} (h : GW S S2) (e : ∀ x, (x = 1052 ∨ 1061 ≤ x ∧ x ≤ 1070) → vw S' x = vw S x) (e2 : ∀ x, 1133 ≤ x → x ≤ 1134 → vw S2' x = vw S2 x) : GW S' S2' := by
  refine ⟨fun i hi => ?_, fun i y hi hy => ?_⟩
  · rw [vwI (e 1052 (by omega)), vwI (e2 1133 (by omega) (by omega))]; exact h.1 i hi
  · rw [vwI (e (1061 + i) (by omega)), vwI (e2 1134 (by omega) (by omega))]; exact h.2 i y hi hy
def GU (S S2 : Sg) : Prop := sL S 1054 0 = sL S2 1000 35 ∧ sL S 1054 1 = sL S2 1000 36 ∧ sL S 1054 2 = sL S2 1000 37 ∧ sL S 1054 3 = sL S2 1000 38 ∧ sL S 1054 5 = sL S2 1000 39
theorem GU.keep {S S2 S' S2' : Sg} (h : GU S S2) (e : vw S' 1054 = vw S 1054) (e2 : ∀ k, 35 ≤ k → k ≤ 39 → sL S2' 1000 k = sL S2 1000 k) : GU S' S2' := by
  unfold GU at *
  rw [vwL e, e2 35 (by omega) (by omega), e2 36 (by omega) (by omega), e2 37 (by omega) (by omega), e2 38 (by omega) (by omega), e2 39 (by omega) (by omega)]
  exact h
/-- the tape -/
def byt (b : Nat) : Int32 := if b < 128 then Int32.ofNat b else Int32.ofNat b - 256
def byteE (S S2 : Sg) (a j : Nat) : Prop := ∃ b, b < 256 ∧ sI S 1021 j = Int32.ofNat b ∧ sI S2 a j = byt b
def GP (S S2 : Sg) (n : Nat) : Prop := n ≤ 700 ∧ sI S 1020 0 = Int32.ofNat n ∧ sI S2 1000 77 = Int32.ofNat n ∧ ∀ j, j < n → byteE S S2 1175 j
theorem GP.keep {S S2 S' S2' : Sg} {n : Nat} (h : GP S S2 n) (e : ∀ x, 1020 ≤ x → x ≤ 1021 → vw S' x = vw S x) (e2 : vw S2' 1175 = vw S2 1175) (e3 : sI S2' 1000 77 = sI S2 1000 77) : GP S' S2' n := by
  unfold GP byteE at *
  rw [vwI (e 1020 (by omega) (by omega)), vwI (e 1021 (by omega) (by omega)), vwI e2, e3]
  exact h
/-- laws -/
def tcn (S2 : Sg) (r : Nat) : Nat → Nat
  | 0 => 0
  | s + 1 => tcn S2 r s + if sI S2 1170 (24 * r + s) = 30 then 1 else 0
def ls184 (S2 : Sg) (w : Int32) (p : Nat) (v : Int32) : Int32 := if sI S2 1170 p = 31 ∧ w = 14 + 2 * sI S2 1171 p then sI S2 1173 p else v
def ls148 (S2 : Sg) (w : Int32) (p : Nat) (v : Int32) : Int32 := ls184 S2 w p (if sI S2 1170 p = 31 ∧ w = 13 + 2 * sI S2 1171 p then sI S2 1172 p else v)
def ls122 (S2 : Sg) (w : Int32) (p : Nat) (v : Int32) : Int32 := ls148 S2 w p (if sI S2 1170 p = 7 ∧ w = 9 then sI S2 1173 p else v)
def ls96 (S2 : Sg) (w : Int32) (p : Nat) (v : Int32) : Int32 := ls122 S2 w p (if sI S2 1170 p = 10 ∧ w = 11 then sI S2 1172 p else v)
def ls78 (S2 : Sg) (w : Int32) (p : Nat) (v : Int32) : Int32 := if sI S2 1170 p = 7 ∧ w = 8 then ls122 S2 w p (sI S2 1172 p) else ls96 S2 w p v
def ls62 (S2 : Sg) (w : Int32) (p : Nat) (v : Int32) : Int32 := if sI S2 1170 p = 1 ∧ w = 2 then ls122 S2 w p (sI S2 1172 p) else ls78 S2 w p v
def lawStep (S2 : Sg) (w : Int32) (p : Nat) (v : Int32) : Int32 := ls62 S2 w p (if sI S2 1170 p = w then sI S2 1171 p else v)
def lawF (S2 : Sg) (r w : Nat) : Nat → Int32
  | 0 => bareV w
  | s + 1 => lawStep S2 (Int32.ofNat w) (24 * r + s) (lawF S2 r w s)
def turnE (S S2 : Sg) (q p : Nat) : Prop := sK S q % 32 = 11 ∧ 10000 ≤ q ∧ sI S q 0 = sI S2 1171 p ∧ sI S q 1 = sI S2 1172 p ∧ sI S q 2 = sI S2 1173 p ∧ sI S q 3 = sI S2 1174 p ∧ rg (sI S2 1171 p) 0 9999 ∧ rg (sI S2 1172 p) 0 9999 ∧ rg (sI S2 1173 p) 1 9999 ∧ rg (sI S2 1174 p) 0 9999
def lawE (S S2 : Sg) (h r st : Nat) : Prop := (10000 ≤ h ∧ ∀ w, w < 21 → rg (lawF S2 r w st) 0 9999) ∧ sK S h % 32 = 6 ∧ sI S h 1 = Int32.ofNat r ∧ ∃ q1 q2 th, 10000 ≤ q1 ∧ 10000 ≤ q2 ∧ sR S h 2 = some q1 ∧ Lst S q1 h th (tcn S2 r st) ∧ sR S h 3 = some q2 ∧ sK S q2 % 32 = 16 ∧ sN S q2 = 21 ∧ (∀ w, w < 21 → sI S q2 w = lawF S2 r w st) ∧ ∀ s, s < st → sI S2 1170 (24 * r + s) = 30 → turnE S S2 (th (tcn S2 r s)) (24 * r + s)
def lawR (S : Sg) (x : Nat) : Prop := x = 2 ∨ (10000 ≤ x ∧ ¬ sK S x = 0 ∧ ¬ sK S x % 32 = 20) ∨ (10000 ≤ x ∧ sK S x % 32 = 20 ∧ 10000 ≤ sK S x / 32)
theorem tcn_keep {S2 S2' : Sg} {r : Nat} : ∀ {s : Nat}, (∀ j, j < s → sI S2' 1170 (24 * r + j) = sI S2 1170 (24 * r + j)) → tcn S2' r s = tcn S2 r s
  | 0, _ => rfl
  | s + 1, h => by
    show tcn S2' r s + _ = tcn S2 r s + _
    rw [tcn_keep (fun j hj => h j (by omega)), h s (by omega)]
theorem lawF_keep {S2 S2' : Sg} {r w : Nat} : ∀ {s : Nat}, (∀ x j, 1170 ≤ x → x ≤ 1174 → j < s → sI S2' x (24 * r + j) = sI S2 x (24 * r + j)) → lawF S2' r w s = lawF S2 r w s
  | 0, _ => rfl
  | s + 1, h => by
    show lawStep S2' _ _ (lawF S2' r w s) = lawStep S2 _ _ (lawF S2 r w s)
    rw [lawF_keep (fun x j h1 h2 hj => h x j h1 h2 (by omega))]
    unfold lawStep ls62 ls78 ls96 ls122 ls148 ls184
    rw [h 1170 s (by omega) (by omega) (by omega), h 1171 s (by omega) (by omega) (by omega), h 1172 s (by omega) (by omega) (by omega), h 1173 s (by omega) (by omega) (by omega)]
theorem lawE.keep {S S2 S' S2' : Sg} {h r st : Nat} (H : lawE S S2 h r st) (e : ∀ x, lawR S x → vw S' x = vw S x) (e2 : ∀ x j, 1170 ≤ x → x ≤ 1174 → j < st → sI S2' x (24 * r + j) = sI S2 x (24 * r + j)) : lawE S' S2' h r st := by
  obtain ⟨h0, h1, h2, q1, q2, th, g1, g2, g3, g4, g5, g6, g7, g8, g9⟩ := H
  have eh := e h (Or.inr (Or.inl ⟨h0.1, by omega, by omega⟩))
  have e1 := e q1 (Or.inr (Or.inl ⟨g1, by have := g4.1; omega, by have := g4.1; omega⟩))
  have eq2 := e q2 (Or.inr (Or.inl ⟨g2, by omega, by omega⟩))
  refine ⟨⟨h0.1, fun w hw => by rw [lawF_keep e2]; exact h0.2 w hw⟩, by rw [vwK eh]; exact h1, by rw [vwI eh]; exact h2, q1, q2, th, g1, g2, by rw [vwR eh]; exact g3, ?_, by rw [vwR eh]; exact g5, by rw [vwK eq2]; exact g6, by rw [vwN eq2]; exact g7, fun w hw => ?_, fun s hs hs2 => ?_⟩
  · rw [tcn_keep (fun j hj => e2 1170 j (by omega) (by omega) hj)]
    exact g4.keep e1 (fun a a1 a2 => e a (Or.inr (Or.inr ⟨a1, by omega, by omega⟩))) (e 2 (Or.inl rfl))
  · rw [vwI eq2, lawF_keep e2]; exact g8 w hw
  · rw [e2 1170 s (by omega) (by omega) hs] at hs2
    rw [tcn_keep (fun j hj => e2 1170 j (by omega) (by omega) (by omega))]
    have t := g9 s hs hs2
    unfold turnE at t ⊢
    have et := e _ (Or.inr (Or.inl ⟨t.2.1, by omega, by omega⟩))
    rw [vwK et, vwI et, e2 1171 s (by omega) (by omega) hs, e2 1172 s (by omega) (by omega) hs, e2 1173 s (by omega) (by omega) hs, e2 1174 s (by omega) (by omega) hs]
    exact t
def GL (S S2 : Sg) (m : Nat) (lh : Nat → Nat) : Prop := Lst S 1005 5 lh m ∧ m ≤ 10 ∧ sI S2 1000 67 = Int32.ofNat m ∧ ∀ r, r < m → sI S (lh r) 0 = sI S2 1169 r ∧ ∃ st, st ≤ 24 ∧ sI S2 1168 r = Int32.ofNat st ∧ lawE S S2 (lh r) r st
theorem GL.keep {S S2 S' S2' : Sg} {m : Nat} {lh : Nat → Nat} (h : GL S S2 m lh) (e : ∀ x, (x = 1005 ∨ 10000 ≤ x ∧ sK S x = 20 + 32 * 5 ∨ lawR S x) → vw S' x = vw S x) (e2 : ∀ x, 1168 ≤ x → x ≤ 1174 → vw S2' x = vw S2 x) (e3 : sI S2' 1000 67 = sI S2 1000 67) : GL S' S2' m lh := by
  obtain ⟨h1, h2, h3, h4⟩ := h
  refine ⟨h1.keep (e _ (by omega)) (fun a a1 a2 => e a (by omega)) (e 2 (Or.inr (Or.inr (Or.inl rfl)))), h2, e3.trans h3, fun r hr => ?_⟩
  obtain ⟨a, st, b1, b2, b3⟩ := h4 r hr
  refine ⟨?_, st, b1, by rw [vwI (e2 1168 (by omega) (by omega))]; exact b2, b3.keep (fun x hx => e x (Or.inr (Or.inr hx))) (fun x j hx1 hx2 _ => by rw [vwI (e2 x (by omega) (by omega))])⟩
  rw [vwI (e (lh r) (Or.inr (Or.inr (Or.inr (Or.inl ⟨b3.1.1, by have := b3.2.1; omega, by have := b3.2.1; omega⟩))))), vwI (e2 1169 (by omega) (by omega))]
  exact a
def GN (S : Sg) (N : Nat) : Prop := 10000 ≤ N ∧ ∀ x, N ≤ x → sK S x = 0
def Inv (S S2 : Sg) : Prop := okS S ∧ MW S2 ∧ GS S ∧ GU S S2 ∧ GA S S2 ∧ GW S S2 ∧ GB S S2 ∧ ∃ (nC nR nT nK nL nM nP td N : Nat) (lh : Nat → Nat), GC S S2 nC ∧ GR S S2 nC nR td ∧ GT S S2 nT ∧ GK S S2 nK td ∧ GL S S2 nL lh ∧ GZ S S2 nM td ∧ GP S S2 nP ∧ GN S N
theorem inv_ok : InvOk Inv := fun S S2 h => ⟨h.1, h.2.1.1, h.2.2.1.1.1, by rw [h.2.1.2.1]⟩
theorem okS_pI {S : Sg} (h : okS S) {a k : Nat} {v : Int32} (ha : 1000 ≤ a) : okS (pI S a k v) := ⟨(vw_pI (by omega)).trans h.1, (vw_pI (by omega)).trans h.2.1, h.2.2⟩
theorem okS_pL {S : Sg} (h : okS S) {a k : Nat} {v : Int64} (ha : 1000 ≤ a) : okS (pL S a k v) := ⟨(vw_pL (by omega)).trans h.1, (vw_pL (by omega)).trans h.2.1, h.2.2⟩
theorem okS_pR {S : Sg} (h : okS S) {a k : Nat} {v : Option Nat} (ha : 1000 ≤ a) : okS (pR S a k v) := ⟨(vw_pR (by omega)).trans h.1, (vw_pR (by omega)).trans h.2.1, h.2.2⟩
theorem okS_nw {S : Sg} (h : okS S) {q κ n : Nat} (ha : 1000 ≤ q) (hw : wr κ) : okS (nw S q κ n) := ⟨(vw_nw (by omega)).trans h.1, (vw_nw (by omega)).trans h.2.1, fun x hx => by
  rw [sK_nw] at hx ⊢
  by_cases e : x = q
  · rw [if_pos e]; exact Or.inr (Or.inr hw)
  · rw [if_neg e] at hx ⊢; exact h.2.2 x hx⟩
