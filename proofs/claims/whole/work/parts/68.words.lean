/-! ===== level 2: words and numbers of the tape ===== -/
def wl (i : Nat) : Nat := strL.getD i 0
def wb (i j : Nat) : Nat := nt ((strB.getD i []).getD j 0)
theorem wl_7 : ∀ i, i < 19 → 1 ≤ wl i ∧ wl i ≤ 7 := by decide +kernel
theorem wl_s : ∀ i, i < 19 → (nI (strL.getD i 0)) >>> ((0 : Int32) &&& 31) = Int32.ofNat (wl i) := by decide +kernel
theorem wch : ∀ i, i < 19 → ∀ j, j < 7 → j < wl i → ((((strB.getD i []).getD j 0) &&& 255).toUInt32 % 65536).toInt32 = Int32.ofNat (wb i j) ∧ narrow .char (.int (Int32.ofNat (wb i j))) = .int (Int32.ofNat (wb i j)) ∧ wb i j < 128 := by decide +kernel
theorem str_len {i : Nat} {s0 : Sg} {Q : Int32 → Prop} (hi : i < 19) (k : Q (Int32.ofNat (wl i))) : P_sJ0_length_8abf5 i s0 Q := by
  unfold P_sJ0_length_8abf5 P_sJ0_coder_7d493
  refine ⟨hi, hi, hi, fun z => absurd z (by decide), fun _ => ⟨hi, ?_⟩⟩
  show Q (nI (strL.getD i 0) >>> ((0 : Int32) &&& 31))
  rw [wl_s i hi]; exact k
theorem str_char {i j : Nat} {s0 : Sg} {Q : Int32 → Prop} (hi : i < 19) (hj : j < wl i) (k : Q (Int32.ofNat (wb i j))) : P_sJ0_charAt_5068e i (Int32.ofNat j) s0 Q := by
  have w7 := wl_7 i hi
  obtain ⟨c1, c2, c3⟩ := wch i hi j (by omega) hj
  have wn : nI (strL.getD i 0) = Int32.ofNat (wl i) := rfl
  unfold P_sJ0_charAt_5068e P_sJ0_isLatin1_aae02 P_sJ0_isLatin1_aae02_B17 P_sJ1_charAt_3b067 P_sJ0_checkIndex_df160 P_sJ3_checkIndex_8e157 P_sJ3_checkIndex_8e157_B9
  refine ⟨hi, fun z => absurd z (by decide), fun _ => ⟨hi, fun _ => ⟨fun z => absurd z (by decide), fun _ => ⟨hi, hi, fun r2 => ⟨fun z => absurd z (nat32_nn (by omega)), fun _ => ⟨fun _ => ⟨hi, ?_, fun x hx => ?_⟩, fun z => ?_⟩⟩⟩⟩, fun z => absurd rfl z⟩⟩
  · show vp_in (Int32.ofNat j) (wl i)
    rw [vp_n (by omega)]; exact hj
  · rw [nat32c (by omega), c1] at hx
    subst hx
    exact ⟨c2, c2, k⟩
  · rw [wn] at z
    exact absurd ((nat32_lt (by omega) (by omega)).mpr hj) z
/-- the token at p is the word i -/
def tokW (f : Nat → Nat) (n i p : Nat) : Prop := te f n p = p + wl i ∧ ∀ j, j < wl i → f (p + j) = wb i j
def dv (f : Nat → Nat) (p : Nat) : Nat → Nat
  | 0 => 0
  | l + 1 => 10 * dv f p l + (f (p + l) - 48)
def numP (f : Nat → Nat) (n lo hi p : Nat) : Prop := kiA f n p = 3 ∧ te f n p - p ≤ 4 ∧ lo ≤ dv f p (te f n p - p) ∧ dv f p (te f n p - p) ≤ hi
noncomputable def stepW (f : Nat → Nat) (n i : Nat) : Nat ⊕ Nat → Nat ⊕ Nat
  | .inl q => .inl q
  | .inr p => @ite _ (tokW f n i p) (Classical.propDecidable _) (.inr (sk f n (te f n p))) (.inl p)
noncomputable def stepN (f : Nat → Nat) (n lo hi : Nat) : Nat ⊕ Nat → Nat × (Nat ⊕ Nat)
  | .inl q => (lo, .inl q)
  | .inr p => @ite _ (numP f n lo hi p) (Classical.propDecidable _) (dv f p (te f n p - p), .inr (sk f n (te f n p))) (lo, .inl p)
/-- where the reading stands: at a fault, or at a token -/
def LM (S : Sg) (f : Nat → Nat) (n : Nat) : Nat ⊕ Nat → Prop
  | .inl q => sI S 1020 5 = Int32.ofNat q ∧ q ≤ n
  | .inr p => sI S 1020 5 = -1 ∧ p ≤ n ∧ sk f n p = p ∧ sI S 1020 3 = Int32.ofNat p ∧ sI S 1020 4 = Int32.ofNat (te f n p)
theorem dv_lt {f : Nat → Nat} {p : Nat} : ∀ {l : Nat}, (∀ j, j < l → f (p + j) ≤ 57) → dv f p l < 10 ^ l
  | 0, _ => by show 0 < 1; omega
  | l + 1, h => by
    have h1 := dv_lt (f := f) (p := p) (l := l) (fun j hj => h j (by omega))
    have h2 := h l (by omega)
    show 10 * dv f p l + (f (p + l) - 48) < 10 ^ (l + 1)
    rw [Nat.pow_succ]
    omega
theorem inn_n {v lo hi : Nat} (h1 : v < 2147483648) (h2 : lo < 2147483648) (h3 : hi < 2147483648) : (inn (Int32.ofNat v) (Int32.ofNat lo) (Int32.ofNat hi) = 0) ↔ ¬ (lo ≤ v ∧ v ≤ hi) := by
  constructor
  · intro z q
    have := inn_1.mpr ⟨(nn_le h2 h1).mpr q.1, (nn_le h1 h3).mpr q.2⟩
    exact this z
  · intro q
    exact Classical.byContradiction (fun z => q (by
      have := inn_1.mp z
      rw [nn_le h2 h1, nn_le h1 h3] at this
      exact this))
section WX
variable {S T : Sg} {f : Nat → Nat} {n : Nat}
theorem num_run {lo hi p : Nat} (h : kiA f n p = 3) : te f n p = en f n 3 p ∧ p < n ∧ ∀ j, p ≤ j → j < te f n p → kd (f j) = 3 := by
  unfold kiA at h
  by_cases c : p < n
  · rw [if_pos c] at h
    have e : te f n p = en f n 3 p := by
      unfold te
      rw [if_pos c, if_neg (by omega), h]
    exact ⟨e, c, fun j h1 h2 => enn_run h1 (by rw [e] at h2; exact h2)⟩
  · rw [if_neg c] at h; omega
theorem kd_3 {b : Nat} : kd b = 3 ↔ 48 ≤ b ∧ b ≤ 57 := by
  unfold kd
  by_cases h1 : 97 ≤ b ∧ b ≤ 122
  · rw [if_pos h1]; omega
  · rw [if_neg h1]
    by_cases h2 : 48 ≤ b ∧ b ≤ 57
    · rw [if_pos h2]; omega
    · rw [if_neg h2]
      split <;> omega
theorem kd_2 {b : Nat} : kd b = 2 ↔ 97 ≤ b ∧ b ≤ 122 := by
  unfold kd
  by_cases h1 : 97 ≤ b ∧ b ≤ 122
  · rw [if_pos h1]; omega
  · rw [if_neg h1]
    split
    · omega
    · split <;> omega
theorem kd_1 {b : Nat} : kd b = 1 ↔ b = 32 ∨ b = 10 := by
  unfold kd
  by_cases h1 : 97 ≤ b ∧ b ≤ 122
  · rw [if_pos h1]; omega
  · rw [if_neg h1]
    by_cases h2 : 48 ≤ b ∧ b ≤ 57
    · rw [if_pos h2]; omega
    · rw [if_neg h2]
      split <;> omega
theorem x_isTok {i p : Nat} {Q : Int32 → Prop} (h : TP S f n) (hp : p ≤ n) (e3 : sI S 1020 3 = Int32.ofNat p) (e4 : sI S 1020 4 = Int32.ofNat (te f n p)) (hi : i < 19) (k1 : tokW f n i p → Q 1) (k0 : ¬ tokW f n i p → Q 0) : P_X7_isToken 1020 i S Q := by
  have hn := h.2.2.2.2.1
  have w7 := wl_7 i hi
  have tg := te_ge (f := f) (n := n) (p := p)
  have tl := te_le (f := f) hp
  unfold P_X7_isToken
  refine ⟨h.1, hi, fun s0 => str_len hi ?_⟩
  rw [e3, e4, n_sub tg, nn_eq (by omega) (by omega)]
  refine ⟨fun len => ?_, fun len => k0 (fun q => len (by have := q.1; omega))⟩
  unfold P_X7_isToken_L20
  refine lpI (N := wl i) (s0 := 0) (R := fun j => ∀ j', j' < j → f (p + j') = wb i j') (B := fun x K => P_X7_isToken_L20b 1020 i x S Q K) rfl (Nat.zero_le _) (fun j hj => absurd hj (Nat.not_lt_zero _)) (fun j hj hR K hK => ?_)
  unfold P_X7_isToken_L20b
  refine ⟨hi, fun s0 => str_len hi ⟨fun e => ?_, fun e => ⟨h.1, ?_⟩⟩⟩
  · rw [nn_le (by omega) (by omega)] at e
    have e2 : j = wl i := by omega
    subst e2
    exact k1 ⟨by omega, hR⟩
  · rw [nn_le (by omega) (by omega)] at e
    have hlt : j < wl i := by omega
    obtain ⟨-, -, c3⟩ := wch i hi j (by omega) hlt
    have hpj : p + j < n := by omega
    have fb := (h.2.2.2.2.2.2 (p + j) hpj).1
    rw [e3, n_add]
    refine byteAt_k h (by omega) ⟨hi, fun s0 => str_char hi hlt ?_⟩
    unfold byA
    rw [if_pos hpj, nn_eq (by omega) (by omega)]
    refine ⟨fun y x hx => ?_, fun y => k0 (fun q => y (q.2 j hlt))⟩
    rw [hx, n_s]
    refine hK hlt (fun j' hj' => ?_)
    by_cases e5 : j' = j
    · subst e5; exact y
    · exact hR j' (by omega)
theorem stepW_y {i p : Nat} (h : tokW f n i p) : stepW f n i (.inr p) = .inr (sk f n (te f n p)) := by
  show @ite _ (tokW f n i p) (Classical.propDecidable _) _ _ = _
  exact if_pos h
theorem stepW_n {i p : Nat} (h : ¬ tokW f n i p) : stepW f n i (.inr p) = .inl p := by
  show @ite _ (tokW f n i p) (Classical.propDecidable _) _ _ = _
  exact if_neg h
theorem stepN_y {lo hi p : Nat} (h : numP f n lo hi p) : stepN f n lo hi (.inr p) = (dv f p (te f n p - p), .inr (sk f n (te f n p))) := by
  show @ite _ (numP f n lo hi p) (Classical.propDecidable _) _ _ = _
  exact if_pos h
theorem stepN_n {lo hi p : Nat} (h : ¬ numP f n lo hi p) : stepN f n lo hi (.inr p) = (lo, .inl p) := by
  show @ite _ (numP f n lo hi p) (Classical.propDecidable _) _ _ = _
  exact if_neg h
theorem LM.ok {p : Nat} (h5 : sI S 1020 5 = -1) (hp : p ≤ n) (h3 : sI S 1020 3 = Int32.ofNat (sk f n p)) (h4 : sI S 1020 4 = Int32.ofNat (te f n (sk f n p))) : LM S f n (.inr (sk f n p)) := ⟨h5, enn_le hp, sk_sk, h3, h4⟩
theorem x_skips {i p : Nat} {Q : Int32 → Sg → Prop} (h : TP S f n) (m : LM S f n (.inr p)) (hi : i < 19) (k1 : tokW f n i p → ∀ S', TX S S' → LM S' f n (.inr (sk f n (te f n p))) → Q 1 S') (k0 : ¬ tokW f n i p → Q 0 S) : P_X7_skips 1020 i S Q := by
  obtain ⟨m1, m2, m3, m4, m5⟩ := m
  unfold P_X7_skips
  refine ⟨h.1, x_isTok h m2 m4 m5 hi (fun t => ⟨fun z => absurd z (by decide), fun _ => x_step h m5 (te_le m2) (fun S' g1 g2 g3 g4 => ⟨Or.inr rfl, k1 t S' g1 (LM.ok (g4.trans m1) (te_le m2) g2 g3)⟩)⟩) (fun t => ⟨fun _ => ⟨Or.inl rfl, k0 t⟩, fun z => absurd rfl z⟩)⟩
theorem x_need {i : Nat} {m : Nat ⊕ Nat} {Q : Unit → Sg → Prop} (h : TP S f n) (hm : LM S f n m) (hi : i < 19) (k : ∀ S', TX S S' → LM S' f n (stepW f n i m) → Q () S') : P_X7_need 1020 i S Q := by
  have hn := h.2.2.2.2.1
  unfold P_X7_need
  cases m with
  | inl q =>
    refine ⟨h.1, fun z => ?_, fun _ => k S (TX.refl S) hm⟩
    rw [hm.1] at z
    exact absurd z (fun y => (n_m1 (by have := hm.2; omega)).mp y)
  | inr p =>
    obtain ⟨m1, m2, m3, m4, m5⟩ := hm
    refine ⟨h.1, fun _ => x_isTok h m2 m4 m5 hi (fun t => ⟨fun z => absurd z (by decide), fun _ => x_step h m5 (te_le m2) (fun S' g1 g2 g3 g4 => k S' g1 ?_)⟩) (fun t => ⟨fun _ s5 w5 => k s5 ?_ ?_, fun z => absurd rfl z⟩), fun z => absurd m1 z⟩
    · rw [stepW_y t]; exact LM.ok (g4.trans m1) (te_le m2) g2 g3
    · rw [w5]; exact (TX.refl S).pI (Or.inr (Or.inr rfl))
    · rw [stepW_n t, w5]
      exact ⟨sI_pI_eq.trans m4, m2⟩
theorem x_value {p : Nat} {Q : Int32 → Prop} (h : TP S f n) (hp : p ≤ n) (e3 : sI S 1020 3 = Int32.ofNat p) (e4 : sI S 1020 4 = Int32.ofNat (te f n p)) (h3 : kiA f n p = 3) (k : Q (Int32.ofNat (dv f p (te f n p - p)))) : P_X7_valueOfToken 1020 S Q := by
  have hn := h.2.2.2.2.1
  obtain ⟨r1, r2, r3⟩ := num_run (lo := 0) (hi := 0) h3
  have tg := te_ge (f := f) (n := n) (p := p)
  have tl := te_le (f := f) hp
  unfold P_X7_valueOfToken
  refine ⟨h.1, fun x2 hx2 => ?_⟩
  rw [e3] at hx2
  subst hx2
  unfold P_X7_valueOfToken_L7
  refine lpA (N := te f n p) (s0 := p) (R := fun j (a : Int32) => p ≤ j ∧ a = Int32.ofNat (dv f p (j - p))) (B := fun a x K => P_X7_valueOfToken_L7b 1020 a x S Q K) rfl tg ⟨Nat.le_refl _, by rw [Nat.sub_self]; rfl⟩ (fun j hj a ha K hK => ?_)
  obtain ⟨hpj, rfl⟩ := ha
  unfold P_X7_valueOfToken_L7b
  rw [e4]
  refine ⟨h.1, fun e => ?_, fun e => byteAt_k h (by omega) (fun x7 hx7 x9 hx9 => ?_)⟩
  · rw [nn_le (by omega) (by omega)] at e
    have e2 : j = te f n p := by omega
    subst e2; exact k
  · rw [nn_le (by omega) (by omega)] at e
    have d := kd_3.mp (r3 j hpj (by omega))
    unfold byA at hx7
    rw [if_pos (by omega), show (10 : Int32) = Int32.ofNat 10 from rfl, n_mul, n_add, show (48 : Int32) = Int32.ofNat 48 from rfl, n_sub (by omega)] at hx7
    rw [hx7, hx9, n_s]
    refine hK (by omega) _ ⟨by omega, ?_⟩
    rw [show j + 1 - p = (j - p) + 1 from by omega]
    show _ = Int32.ofNat (10 * dv f p (j - p) + (f (p + (j - p)) - 48))
    rw [show p + (j - p) = j from by omega, Nat.add_sub_assoc (by omega)]
theorem x_number {lo hi : Nat} {m : Nat ⊕ Nat} {Q : Int32 → Sg → Prop} (h : TP S f n) (hm : LM S f n m) (hlo : lo ≤ 9999) (hhi : hi ≤ 9999) (k : ∀ S', TX S S' → LM S' f n (stepN f n lo hi m).2 → Q (Int32.ofNat (stepN f n lo hi m).1) S') : P_X7_number 1020 (Int32.ofNat lo) (Int32.ofNat hi) S Q := by
  have hn := h.2.2.2.2.1
  have hf : ∀ j, j < n → f j < 256 := fun j hj => (h.2.2.2.2.2.2 j hj).1
  unfold P_X7_number
  cases m with
  | inl q =>
    refine ⟨h.1, fun z => ?_, fun _ => k S (TX.refl S) hm⟩
    rw [hm.1] at z
    exact absurd z (fun y => (n_m1 (by have := hm.2; omega)).mp y)
  | inr p =>
    obtain ⟨m1, m2, m3, m4, m5⟩ := hm
    have tg := te_ge (f := f) (n := n) (p := p)
    have tl := te_le (f := f) m2
    refine ⟨h.1, fun _ => ?_, fun z => absurd m1 z⟩
    rw [m4, m5]
    have no : ¬ numP f n lo hi p → ∀ s, s = pI S 1020 5 (Int32.ofNat p) → Q (Int32.ofNat lo) s := fun t s ws => by
      rw [stepN_n t] at k
      refine k s ?_ ?_
      · rw [ws]; exact (TX.refl S).pI (Or.inr (Or.inr rfl))
      · rw [ws]; exact ⟨sI_pI_eq, m2⟩
    have b42 : ¬ numP f n lo hi p → P_X7_number_B42 1020 (Int32.ofNat lo) (Int32.ofNat hi) S Q := fun t => by
      unfold P_X7_number_B42 P_X7_number_B43 P_X7_number_B56
      refine ⟨fun _ => within_e.mpr ⟨fun _ => ⟨h.1, fun s ws => no t s (by rw [ws, m4])⟩, fun z => ?_⟩, fun z => absurd rfl z⟩
      have := inn_1.mp z
      exact absurd this.1 (fun y => by
        have y := Int32.le_iff_toInt_le.mp y
        rw [nat32 (by omega), show (-1 : Int32).toInt = -1 from by decide] at y
        omega)
    refine byteAt_k h (by omega) (kindOf_k hf ?_)
    have kl : kiA f n p < 4 := by unfold kiA kd; split <;> (try split) <;> (try split) <;> (try split) <;> omega
    have e33 : Int32.ofNat (kiA f n p) = 3 ↔ kiA f n p = 3 := nl_eq (k := 3) (by omega) (by omega)
    rw [e33, n_sub tg, show (4 : Int32) < Int32.ofNat (te f n p - p) ↔ 4 < te f n p - p from ln_lt (k := 4) (by omega) (by omega)]
    refine ⟨fun k3 => ⟨fun l4 => b42 (fun t => by have := t.2.1; omega), fun l4 => ?_⟩, fun k3 => b42 (fun t => k3 t.1)⟩
    unfold P_X7_number_B43
    refine ⟨fun z => absurd z (by decide), fun _ => ⟨h.1, x_value h m2 m4 m5 k3 ?_⟩⟩
    obtain ⟨r1, r2, r3⟩ := num_run (lo := 0) (hi := 0) k3
    have dl := dv_lt (f := f) (p := p) (l := te f n p - p) (fun j hj => (kd_3.mp (r3 (p + j) (by omega) (by omega))).2)
    have p4 : 10 ^ (te f n p - p) ≤ 10 ^ 4 := Nat.pow_le_pow_right (by omega) (by omega)
    unfold P_X7_number_B56
    refine within_e.mpr ?_
    rw [inn_n (by omega) (by omega) (by omega)]
    refine ⟨fun z => ⟨h.1, fun s ws => no (fun t => z t.2.2) s (by rw [ws, m4])⟩, fun z => ⟨h.1, x_step h m5 tl (fun S' g1 g2 g3 g4 => ?_)⟩⟩
    have t : numP f n lo hi p := ⟨k3, by omega, Classical.not_not.mp z⟩
    rw [stepN_y t] at k
    exact k S' g1 (LM.ok (g4.trans m1) tl g2 g3)
end WX
