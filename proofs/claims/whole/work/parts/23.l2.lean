/-! ===== level 2: small lemmas on what methods want ===== -/
/-- is v told between two bounds -/
def inn (v lo hi : Int32) : Int32 := if v < lo then 0 else if hi < v then 0 else 1
theorem inn_1 {v lo hi : Int32} : ¬ inn v lo hi = 0 ↔ lo ≤ v ∧ v ≤ hi := by
  unfold inn
  by_cases h1 : v < lo
  · rw [if_pos h1]
    exact ⟨fun h => absurd rfl h, fun h => absurd h1 (Int32.not_lt.mpr h.1)⟩
  · rw [if_neg h1]
    by_cases h2 : hi < v
    · rw [if_pos h2]
      exact ⟨fun h => absurd rfl h, fun h => absurd h2 (Int32.not_lt.mpr h.2)⟩
    · rw [if_neg h2]
      exact ⟨fun _ => ⟨Int32.not_lt.mp h1, Int32.not_lt.mp h2⟩, fun _ => by decide⟩
theorem p_within {v lo hi : Int32} {S : Sg} {Q : Int32 → Prop} (h : Q (inn v lo hi)) : P_X10_within v lo hi S Q := by
  unfold P_X10_within P_X10_within_B14
  unfold inn at h
  refine ⟨fun h1 => by rw [if_pos h1] at h; exact h, fun h1 => ?_⟩
  rw [if_neg h1] at h
  exact ⟨fun h2 => by rw [if_pos h2] at h; exact h, fun h2 => by rw [if_neg h2] at h; exact h⟩
/-- a list of n objects at h; the array of its own has role ro -/
def Lst (S : Sg) (h ro : Nat) (el : Nat → Nat) (n : Nat) : Prop :=
  sK S h % 32 = 1 ∧ sI S h 2 = Int32.ofNat n ∧ n < 1000 ∧ ((n = 0 ∧ sR S h 1 = some 2 ∧ sK S 2 = 25) ∨ ∃ arr, sR S h 1 = some arr ∧ sK S arr = 20 + 32 * ro ∧ n ≤ sN S arr ∧ sN S arr < 1000 ∧ 1 ≤ sN S arr ∧ 10000 ≤ arr ∧ ∀ i, i < n → sR S arr i = some (el i))
theorem nat32 {i : Nat} (h : i < 2147483648) : (Int32.ofNat i).toInt = (i : Int) := Int32.toInt_ofNat_of_lt h
theorem nat32c {i : Nat} (h : i < 2147483648) : (Int32.ofNat i).toNatClampNeg = i := by
  show (Int32.ofNat i).toInt.toNat = i
  rw [nat32 h]; rfl
theorem nat32_lt {i j : Nat} (hi : i < 2147483648) (hj : j < 2147483648) : Int32.ofNat i < Int32.ofNat j ↔ i < j := by
  rw [Int32.lt_iff_toInt_lt, nat32 hi, nat32 hj]; omega
theorem nat32_nn {i : Nat} (hi : i < 2147483648) : ¬ Int32.ofNat i < 0 := fun h => by
  have := Int32.lt_iff_toInt_lt.mp h
  rw [nat32 hi] at this
  have h0 : (0 : Int32).toInt = 0 := by decide
  omega
theorem p_size {S : Sg} {h ro n : Nat} {el : Nat → Nat} {Q : Int32 → Prop} (hL : Lst S h ro el n) (k : Q (Int32.ofNat n)) : P_Jx4a65c_size_8abf5 h S Q := by
  unfold P_Jx4a65c_size_8abf5
  exact ⟨hL.1, by rw [hL.2.1]; exact k⟩
theorem p_get {S : Sg} {h ro n i : Nat} {el : Nat → Nat} {Q : Option Nat → Prop} (hL : Lst S h ro el n) (hi : i < n) (k : Q (some (el i))) : P_Jx4a65c_get_915e3 h (Int32.ofNat i) S Q := by
  obtain ⟨h1, h2, h3, h4⟩ := hL
  rcases h4 with ⟨e, -⟩ | ⟨arr, g1, g2, g3, g4, g5, g6, g7⟩
  · omega
  · unfold P_Jx4a65c_get_915e3 P_J15_checkIndex_7cf53 P_J3_checkIndex_8e157 P_Jx4a65c_elementData_915e3
    refine ⟨h1, fun z => absurd z (nat32_nn (by omega)), fun _ => ⟨fun _ => ⟨h1, arr, g1, by rw [g2]; omega, ?_, ?_⟩, fun z => ?_⟩⟩
    · intro z
      rcases z with z | z
      · exact nat32_nn (by omega) z
      · rw [nat32c (by omega)] at z; omega
    · rw [nat32c (by omega), g7 i hi]; exact k
    · rw [h2] at z
      exact absurd ((nat32_lt (by omega) (by omega)).mpr hi) z
/-- cells that a list's methods leave as they are keep the list -/
theorem Lst.keep {S S' : Sg} {h ro n : Nat} {el : Nat → Nat} (hL : Lst S h ro el n) (h1 : vw S' h = vw S h) (h2 : ∀ a, 10000 ≤ a → sK S a = 20 + 32 * ro → vw S' a = vw S a) (h3 : vw S' 2 = vw S 2) : Lst S' h ro el n := by
  obtain ⟨a1, a2, a3, a4⟩ := hL
  refine ⟨by rw [vwK h1]; exact a1, by rw [vwI h1]; exact a2, a3, ?_⟩
  rcases a4 with ⟨e, e2, e3⟩ | ⟨arr, g1, g2, g3, g4, g5, g6, g7⟩
  · exact Or.inl ⟨e, by rw [vwR h1]; exact e2, by rw [vwK h3]; exact e3⟩
  · have k := h2 arr g6 g2
    exact Or.inr ⟨arr, by rw [vwR h1]; exact g1, by rw [vwK k]; exact g2, by rw [vwN k]; exact g3, by rw [vwN k]; exact g4, by rw [vwN k]; exact g5, g6, fun i hi => by rw [vwR k]; exact g7 i hi⟩
theorem vw_pI {S : Sg} {a k x : Nat} {v : Int32} (h : ¬ x = a) : vw (pI S a k v) x = vw S x := by
  unfold vw
  rw [sK_pI, sN_pI, sL_pI, sR_pI, show sI (pI S a k v) x = sI S x by funext j; rw [sI_pI, if_neg (fun q => h q.1)]]
theorem vw_pL {S : Sg} {a k x : Nat} {v : Int64} (h : ¬ x = a) : vw (pL S a k v) x = vw S x := by
  unfold vw
  rw [sK_pL, sN_pL, sI_pL, sR_pL, show sL (pL S a k v) x = sL S x by funext j; rw [sL_pL, if_neg (fun q => h q.1)]]
theorem vw_pR {S : Sg} {a k x : Nat} {v : Option Nat} (h : ¬ x = a) : vw (pR S a k v) x = vw S x := by
  unfold vw
  rw [sK_pR, sN_pR, sI_pR, sL_pR, show sR (pR S a k v) x = sR S x by funext j; rw [sR_pR, if_neg (fun q => h q.1)]]
theorem vw_nw {S : Sg} {q κ n x : Nat} (h : ¬ x = q) : vw (nw S q κ n) x = vw S x := by
  unfold vw
  rw [sK_nw, sN_nw, if_neg h, if_neg h, show sI (nw S q κ n) x = sI S x by funext j; rw [sI_nw, if_neg h], show sL (nw S q κ n) x = sL S x by funext j; rw [sL_nw, if_neg h], show sR (nw S q κ n) x = sR S x by funext j; rw [sR_nw, if_neg h]]
theorem vw_nwq {S : Sg} {q κ n : Nat} : vw (nw S q κ n) q = (κ, n, fun _ => 0, fun _ => 0, fun _ => none) := by
  unfold vw
  rw [sK_nw, sN_nw, if_pos rfl, if_pos rfl, show sI (nw S q κ n) q = (fun _ => 0) by funext j; rw [sI_nw, if_pos rfl], show sL (nw S q κ n) q = (fun _ => 0) by funext j; rw [sL_nw, if_pos rfl], show sR (nw S q κ n) q = (fun _ => none) by funext j; rw [sR_nw, if_pos rfl]]
theorem vw_cpR {S : Sg} {src dst n x : Nat} (h : ¬ x = dst) : vw (cpR S src dst n) x = vw S x := by
  unfold vw
  rw [show sK (cpR S src dst n) = sK S from rfl, show sN (cpR S src dst n) = sN S from rfl, show sI (cpR S src dst n) = sI S from rfl, show sL (cpR S src dst n) = sL S from rfl, show sR (cpR S src dst n) x = sR S x by funext j; rw [sR_cpR, if_neg (fun q => h q.1)]]
