/-! ===== level 2: sets as numbers ===== -/
theorem isnw_t {s c : Nat} (hc : c < 32) : isnw (Int32.ofNat s) c ↔ s.testBit c = true := by
  unfold isnw
  rw [bit_e hc]
  show (BitVec.ofNat 32 s).getLsbD c = true ↔ _
  rw [BitVec.getLsbD_ofNat]
  simp [hc]
theorem shl1 : ∀ n, n < 13 → (1 : Int32) <<< (Int32.ofNat n &&& 31) = Int32.ofNat (2 ^ n) := by decide +kernel
theorem pow_b : ∀ n, n < 13 → 2 ^ n ≤ 4096 ∧ 1 ≤ 2 ^ n := by decide
def pc : Nat → Nat → Nat
  | 0, _ => 0
  | f + 1, s => s % 2 + pc f (s / 2)
def pcn (s : Nat) : Nat := pc 12 s
theorem sh_k : ∀ i, i < 64 → ∀ j, j < 64 → Int32.ofNat (64 * i + j) >>> ((1 : Int32) &&& 31) = Int32.ofNat ((64 * i + j) / 2) ∧ Int32.ofNat (64 * i + j) &&& 1 = Int32.ofNat ((64 * i + j) % 2) := by decide +kernel
theorem sh_e {s : Nat} (h : s < 4096) : Int32.ofNat s >>> ((1 : Int32) &&& 31) = Int32.ofNat (s / 2) ∧ Int32.ofNat s &&& 1 = Int32.ofNat (s % 2) := by
  have := sh_k (s / 64) (by omega) (s % 64) (by omega)
  rw [show 64 * (s / 64) + s % 64 = s from by omega] at this
  exact this
def bcF (v0 : Int32) : Int32 :=
  (fun x1 : Int32 => (fun x3 : Int32 => (fun x5 : Int32 => (fun x7 : Int32 => (fun x9 : Int32 => x9 &&& 63) (x7 + ((x7.toUInt32 >>> ((16 : Int32).toUInt32 &&& Int32.toUInt32 31)).toInt32))) (x5 + ((x5.toUInt32 >>> ((8 : Int32).toUInt32 &&& Int32.toUInt32 31)).toInt32))) ((x3 + ((x3.toUInt32 >>> ((4 : Int32).toUInt32 &&& Int32.toUInt32 31)).toInt32)) &&& 252645135)) ((x1 &&& 858993459) + (((x1.toUInt32 >>> ((2 : Int32).toUInt32 &&& Int32.toUInt32 31)).toInt32) &&& 858993459))) (v0 - (((v0.toUInt32 >>> ((1 : Int32).toUInt32 &&& Int32.toUInt32 31)).toInt32) &&& 1431655765))
theorem bc_k : ∀ i, i < 64 → ∀ j, j < 64 → bcF (Int32.ofNat (64 * i + j)) = Int32.ofNat (pcn (64 * i + j)) := by decide +kernel
theorem bc_n {s : Nat} (h : s < 4096) : bcF (Int32.ofNat s) = Int32.ofNat (pcn s) := by
  have := bc_k (s / 64) (by omega) (s % 64) (by omega)
  rw [show 64 * (s / 64) + s % 64 = s from by omega] at this
  exact this
theorem bitCount_e {v : Int32} {S : Sg} {Q : Int32 → Prop} (k : Q (bcF v)) : P_J6_bitCount_0f7a4 v S Q := by
  unfold P_J6_bitCount_0f7a4
  intro x1 h1 x3 h3 x5 h5 x7 h7 x9 h9
  subst h1; subst h3; subst h5; subst h7; subst h9
  exact k
theorem pc_le : ∀ {f s : Nat}, pc f s ≤ f
  | 0, _ => Nat.le_refl _
  | f + 1, s => by
    show s % 2 + pc f (s / 2) ≤ f + 1
    have := pc_le (f := f) (s := s / 2)
    omega
theorem pc_0 : ∀ f, pc f 0 = 0
  | 0 => rfl
  | f + 1 => by show 0 % 2 + pc f (0 / 2) = 0; rw [show 0 / 2 = 0 from rfl, pc_0 f]
theorem bits_e {s : Nat} {S : Sg} {Q : Int32 → Prop} (h : s < 4096) (k : Q (Int32.ofNat (pcn s))) : P_X11_bits (Int32.ofNat s) S Q := by
  unfold P_X11_bits P_X11_bits_L4
  refine ⟨fun f a x => ∃ s' c, s' < 2 ^ f ∧ f ≤ 12 ∧ c ≤ 12 ∧ a = Int32.ofNat c ∧ x = Int32.ofNat s' ∧ c + pc f s' = pcn s, ⟨12, s, 0, h, Nat.le_refl _, Nat.zero_le _, rfl, rfl, by unfold pcn; omega⟩, ?_⟩
  rintro f a x ⟨s', c, h1, h2, h2c, rfl, rfl, h3⟩
  have p := pow_b f (by omega)
  have e := sh_e (s := s') (by omega)
  have ple := pc_le (f := 12) (s := s)
  have ple : pcn s ≤ 12 := ple
  unfold P_X11_bits_L4b
  refine ⟨fun z => ?_, fun z y hy w hw => ?_⟩
  · rw [show Int32.ofNat s' ≤ (0 : Int32) ↔ s' ≤ 0 from nl_le (k := 0) (by omega) (by omega)] at z
    have e0 : s' = 0 := by omega
    subst e0
    rw [pc_0, Nat.add_zero] at h3
    rw [h3]; exact k
  · rw [show Int32.ofNat s' ≤ (0 : Int32) ↔ s' ≤ 0 from nl_le (k := 0) (by omega) (by omega)] at z
    rcases f with _ | f
    · simp at h1; omega
    · have h3 : c + (s' % 2 + pc f (s' / 2)) = pcn s := h3
      rw [e.2, n_add] at hy
      rw [e.1] at hw
      rw [hy, hw]
      refine ⟨f, Nat.lt_succ_self _, s' / 2, c + s' % 2, ?_, by omega, by omega, rfl, rfl, by omega⟩
      rw [Nat.pow_succ] at h1
      omega
