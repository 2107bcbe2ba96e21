/-! ===== level 2: the reference's tokens ===== -/
theorem byt_i {b : Nat} (h : b < 256) : (byt b).toInt = if b < 128 then (b : Int) else (b : Int) - 256 := by
  unfold byt
  split
  · exact nat32 (by omega)
  · rw [Int32.toInt_sub, nat32 (by omega), show (256 : Int32).toInt = 256 from by decide]
    exact Int.bmod_eq_of_le (by omega) (by omega)
theorem byt_eq {b k : Nat} (h : b < 256) (hk : k < 128) : byt b = Int32.ofNat k ↔ b = k := by
  constructor
  · intro z
    have := congrArg Int32.toInt z
    rw [byt_i h, nat32 (by omega)] at this
    split at this <;> omega
  · intro z
    subst z
    unfold byt; rw [if_pos hk]
theorem byt_lt {b k : Nat} (h : b < 256) (hk : k < 128) : byt b < Int32.ofNat k ↔ b < k ∨ 128 ≤ b := by
  rw [Int32.lt_iff_toInt_lt, byt_i h, nat32 (by omega)]
  split <;> omega
theorem lt_byt {b k : Nat} (h : b < 256) (hk : k < 128) : Int32.ofNat k < byt b ↔ k < b ∧ b < 128 := by
  rw [Int32.lt_iff_toInt_lt, byt_i h, nat32 (by omega)]
  split <;> omega
theorem byt_l {b : Nat} (h : b < 128) : byt b = Int32.ofNat b := by unfold byt; rw [if_pos h]
/-- the text that is read -/
def TM (T : Sg) (f : Nat → Nat) (n : Nat) : Prop := MW T ∧ n ≤ 700 ∧ sI T 1000 78 = Int32.ofNat n ∧ ∀ j, j < n → f j < 256 ∧ sI T 1176 j = byt (f j)
def TY (T T' : Sg) : Prop := (∀ x, ¬ x = 1000 → vw T' x = vw T x) ∧ MW T' ∧ (∀ k, ¬ k = 79 → ¬ k = 81 → sI T' 1000 k = sI T 1000 k) ∧ sL T' 1000 = sL T 1000
theorem TY.refl {T : Sg} (h : MW T) : TY T T := ⟨fun _ _ => rfl, h, fun _ _ _ => rfl, rfl⟩
theorem TY.trans {T U V : Sg} (h : TY T U) (g : TY U V) : TY T V := ⟨fun x hx => (g.1 x hx).trans (h.1 x hx), g.2.1, fun k h1 h2 => (g.2.2.1 k h1 h2).trans (h.2.2.1 k h1 h2), g.2.2.2.trans h.2.2.2⟩
theorem TY.pI {T U : Sg} {k : Nat} {v : Int32} (h : TY T U) (hk : k = 79 ∨ k = 81) : TY T (pI U 1000 k v) := h.trans ⟨fun x hx => vw_pI hx, mw_pI h.2.1 (by omega), fun j h1 h2 => sI_pI_ne (by omega), rfl⟩
def pkk (f : Nat → Nat) (p : Nat) : Nat → Nat
  | 0 => 0
  | l + 1 => 256 * pkk f p l + f (p + l)
theorem pkk_lt {f : Nat → Nat} {p : Nat} : ∀ {l : Nat}, (∀ j, j < l → f (p + j) < 256) → pkk f p l < 256 ^ l
  | 0, _ => by show 0 < 1; omega
  | l + 1, h => by
    have h1 := pkk_lt (f := f) (p := p) (l := l) (fun j hj => h j (by omega))
    have h2 := h l (by omega)
    show 256 * pkk f p l + f (p + l) < 256 ^ (l + 1)
    rw [Nat.pow_succ]
    omega
theorem pkk_inj {f g : Nat → Nat} {p q : Nat} : ∀ {l m : Nat}, (∀ j, j < l → 1 ≤ f (p + j) ∧ f (p + j) < 256) → (∀ j, j < m → 1 ≤ g (q + j) ∧ g (q + j) < 256) → pkk f p l = pkk g q m → l = m ∧ ∀ j, j < l → f (p + j) = g (q + j)
  | 0, 0, _, _, _ => ⟨rfl, fun j hj => absurd hj (Nat.not_lt_zero _)⟩
  | 0, m + 1, _, h2, e => by
    have := h2 m (by omega)
    have e : 0 = 256 * pkk g q m + g (q + m) := e
    omega
  | l + 1, 0, h1, _, e => by
    have := h1 l (by omega)
    have e : 256 * pkk f p l + f (p + l) = 0 := e
    omega
  | l + 1, m + 1, h1, h2, e => by
    have a := h1 l (by omega)
    have b := h2 m (by omega)
    have e : 256 * pkk f p l + f (p + l) = 256 * pkk g q m + g (q + m) := e
    obtain ⟨c1, c2⟩ := pkk_inj (f := f) (g := g) (p := p) (q := q) (l := l) (m := m) (fun j hj => h1 j (by omega)) (fun j hj => h2 j (by omega)) (by omega)
    subst c1
    refine ⟨rfl, fun j hj => ?_⟩
    by_cases z : j = l
    · subst z; omega
    · exact c2 j (by omega)
theorem pkk_congr {f g : Nat → Nat} {p q : Nat} : ∀ {l : Nat}, (∀ j, j < l → f (p + j) = g (q + j)) → pkk f p l = pkk g q l
  | 0, _ => rfl
  | l + 1, h => by
    show 256 * pkk f p l + f (p + l) = 256 * pkk g q l + g (q + l)
    rw [pkk_congr (fun j hj => h j (by omega)), h l (by omega)]
def pkw (i : Nat) : Nat := pkk (wb i) 0 (wl i)
theorem wb_let : ∀ i, i < 18 → ∀ j, j < 7 → j < wl i → 97 ≤ wb i j ∧ wb i j ≤ 122 := by decide +kernel
theorem shl8 {a b : Nat} (ha : a < 281474976710656) (hb : b < 128) : (Int64.ofNat a <<< ((8 : Int32).toInt64 &&& 63)) ||| (Int32.ofNat b).toInt64 = Int64.ofNat (256 * a + b) := by
  rw [n_64 (by omega)]
  apply Int64.toBitVec_inj.mp
  apply BitVec.eq_of_toNat_eq
  show ((BitVec.ofNat 64 a <<< (((8 : Int32).toInt64 &&& 63).toBitVec.smod 64)) ||| BitVec.ofNat 64 b).toNat = (BitVec.ofNat 64 (256 * a + b)).toNat
  rw [show ((8 : Int32).toInt64 &&& 63).toBitVec.smod 64 = BitVec.ofNat 64 8 from by decide +kernel]
  rw [BitVec.toNat_or, BitVec.toNat_ofNat, BitVec.toNat_ofNat]
  show (BitVec.ofNat 64 a <<< (BitVec.ofNat 64 8).toNat).toNat ||| _ = _
  rw [BitVec.toNat_shiftLeft, BitVec.toNat_ofNat, show (BitVec.ofNat 64 8).toNat = 8 from rfl, Nat.mod_eq_of_lt (show a < 2 ^ 64 by omega), Nat.mod_eq_of_lt (show b < 2 ^ 64 by omega), Nat.shiftLeft_eq, Nat.mod_eq_of_lt (show a * 2 ^ 8 < 2 ^ 64 by omega), ← Nat.shiftLeft_eq, ← Nat.shiftLeft_add_eq_or_of_lt (show b < 2 ^ 8 by omega), Nat.shiftLeft_eq]
  omega
section TK
variable {T U : Sg} {f : Nat → Nat} {n : Nat}
theorem TM.ty (h : TM T f n) (g : TY T U) : TM U f n := ⟨g.2.1, h.2.1, (g.2.2.1 78 (by omega) (by omega)).trans h.2.2.1, fun j hj => by rw [vwI (g.1 1176 (by omega))]; exact h.2.2.2 j hj⟩
theorem m_blanks {q : Nat} {Q : Unit → Sg → Prop} (h : TM T f n) (e : sI T 1000 79 = Int32.ofNat q) (hq : q ≤ n) (k : ∀ T', TY T T' → sI T' 1000 79 = Int32.ofNat (sk f n q) → sI T' 1000 81 = sI T 1000 81 → Q () T') : P_X11_blanks 1000 T Q := by
  have hn := h.2.1
  unfold P_X11_blanks P_X11_blanks_L0
  refine ⟨fun m U => ∃ p, p ≤ n ∧ m = n - p ∧ TY T U ∧ sI U 1000 79 = Int32.ofNat p ∧ sI U 1000 81 = sI T 1000 81 ∧ sk f n p = sk f n q, ⟨n - q, q, hq, rfl, TY.refl h.1, e, rfl, rfl⟩, ?_⟩
  rintro m U ⟨p, hp, rfl, g1, g2, g3, g4⟩
  have hU := h.ty g1
  have out : sk f n p = p → Q () U := fun z => k U g1 (by rw [g2, ← g4, z]) g3
  unfold P_X11_blanks_L0b P_X11_blanks_B39
  rw [g2, hU.2.2.1]
  refine ⟨hU.1.o, fun z => ?_, fun z => ?_⟩
  · rw [nn_le (by omega) (by omega)] at z
    exact out (enn_n (by omega))
  · rw [nn_le (by omega) (by omega)] at z
    have hlt : p < n := by omega
    have h700 : p < 700 := by omega
    obtain ⟨fb, fe⟩ := hU.2.2.2 p hlt
    have e32 : byt (f p) = (32 : Int32) ↔ f p = 32 := byt_eq (k := 32) fb (by omega)
    have e10 : byt (f p) = (10 : Int32) ↔ f p = 10 := byt_eq (k := 10) fb (by omega)
    have go : kd (f p) = 1 → sK U 1000 % 32 = 13 ∧ ∀ σ14 : Sg, σ14 = pI U 1000 79 (Int32.ofNat p + 1) → ∃ n', n' < n - p ∧ ∃ p', p' ≤ n ∧ n' = n - p' ∧ TY T σ14 ∧ sI σ14 1000 79 = Int32.ofNat p' ∧ sI σ14 1000 81 = sI T 1000 81 ∧ sk f n p' = sk f n q := fun kp => by
      refine ⟨hU.1.o, fun s ws => ⟨n - (p + 1), by omega, p + 1, by omega, rfl, ?_, ?_, ?_, ?_⟩⟩
      · rw [ws]; exact g1.pI (Or.inl rfl)
      · rw [ws, sI_pI_eq, n_s]
      · rw [ws, sI_pI_ne (by omega)]; exact g3
      · rw [← g4]; exact (enn_y hlt kp).symm
    refine ⟨1176, hU.1.a76.1, hU.1.a76.2.1, by simp (disch := first | omega | decide) only [Option.some.injEq, exists_eq_left', exists_eq_left, forall_eq, forall_eq', true_and, and_true, true_implies, implies_true, false_implies, not_true_eq_false, not_false_eq_true, reduceCtorEq, and_self, forall_const, i10, i01, if_true, if_false, and_false, false_and, Nat.not_lt_zero, sK_pI, sN_pI, sR_pI, sL_pI, sK_pL, sN_pL, sR_pL, sI_pL, sK_pR, sN_pR, sI_pR, sL_pR, sI_pI_eq, sI_pI_ne, sL_pL_eq, sL_pL_ne, sR_pR_eq, sR_pR_ne, nn_le, nat32_lt, nn_eq, ln_le, nl_le, ln_lt, nl_lt, ln_eq, nl_eq, n_m1, n_lt0, vp_n, vp_l, lc_n, nat32c, n_s, nI_n, hU.1.a76, h700], ?_⟩
    rw [nat32c (by omega), fe, e32]
    refine ⟨fun y => go (kd_1.mpr (Or.inl y)), fun y => ⟨1176, hU.1.a76.1, hU.1.a76.2.1, by simp (disch := first | omega | decide) only [Option.some.injEq, exists_eq_left', exists_eq_left, forall_eq, forall_eq', true_and, and_true, true_implies, implies_true, false_implies, not_true_eq_false, not_false_eq_true, reduceCtorEq, and_self, forall_const, i10, i01, if_true, if_false, and_false, false_and, Nat.not_lt_zero, sK_pI, sN_pI, sR_pI, sL_pI, sK_pL, sN_pL, sR_pL, sI_pL, sK_pR, sN_pR, sI_pR, sL_pR, sI_pI_eq, sI_pI_ne, sL_pL_eq, sL_pL_ne, sR_pR_eq, sR_pR_ne, nn_le, nat32_lt, nn_eq, ln_le, nl_le, ln_lt, nl_lt, ln_eq, nl_eq, n_m1, n_lt0, vp_n, vp_l, lc_n, nat32c, n_s, nI_n, hU.1.a76, h700], ?_⟩⟩
    rw [fe, e10]
    refine ⟨fun w => go (kd_1.mpr (Or.inr w)), fun w => out (enn_n (fun q => ?_))⟩
    have := kd_1.mp q.2
    omega
theorem let_te {p : Nat} (h : kd (f p) = 2) (hp : p < n) : te f n p = en f n 2 p := by
  unfold te
  rw [if_pos hp, if_neg (by omega), h]
theorem m_takes {i q : Nat} {Q : Int32 → Sg → Prop} (h : TM T f n) (e : sI T 1000 79 = Int32.ofNat q) (hq : q ≤ n) (hi : i < 18) (k1 : tokW f n i (sk f n q) → ∀ T', TY T T' → sI T' 1000 79 = Int32.ofNat (te f n (sk f n q)) → Q 1 T') (k0 : ¬ tokW f n i (sk f n q) → ∀ T', TY T T' → sI T' 1000 79 = Int32.ofNat (sk f n q) → Q 0 T') : P_X11_takes 1000 (Int64.ofNat (pkw i)) T Q := by
  have hn := h.2.1
  have w7 := wl_7 i (by omega)
  unfold P_X11_takes
  refine ⟨h.1.o, m_blanks h e hq (fun U g1 g2 g3 x6 hx6 => ?_)⟩
  rw [g2] at hx6
  subst hx6
  have hU := h.ty g1
  have pn : sk f n q ≤ n := enn_le hq
  generalize sk f n q = p at *
  have el := enn_le (f := f) (k := 2) pn
  have eg := enn_ge (f := f) (n := n) (k := 2) (p := p)
  have lets : ∀ j, p ≤ j → j < en f n 2 p → 97 ≤ f j ∧ f j ≤ 122 := fun j h1 h2 => kd_2.mp (enn_run h1 h2)
  have wlet := wb_let i hi
  -- the end of the word
  have fin : ∀ (v4 : Int64), (en f n 2 p - p ≤ 7 → v4 = gn (pkk f p (en f n 2 p - p))) → P_X11_takes_B78 1000 (Int64.ofNat (pkw i)) (Int32.ofNat (en f n 2 p)) v4 U Q := fun v4 hv => by
    unfold P_X11_takes_B78
    rw [g2, n_sub eg]
    refine ⟨hU.1.o, fun z => k0 (fun t => ?_) U g1 g2, fun z => ⟨fun y s ws => k1 ?_ s ?_ ?_, fun y => k0 (fun t => y ?_) U g1 g2⟩⟩
    · rw [show (7 : Int32) < Int32.ofNat (en f n 2 p - p) ↔ 7 < en f n 2 p - p from ln_lt (k := 7) (by omega) (by omega)] at z
      have kp : kd (f p) = 2 := kd_2.mpr (lets p (Nat.le_refl _) (by omega))
      have := let_te (n := n) kp (by omega)
      have := t.1
      omega
    · rw [show (7 : Int32) < Int32.ofNat (en f n 2 p - p) ↔ 7 < en f n 2 p - p from ln_lt (k := 7) (by omega) (by omega)] at z
      rw [hv (by omega)] at y
      have b1 := pkk_lt (f := f) (p := p) (l := en f n 2 p - p) (fun j hj => by have := lets (p + j) (by omega) (by omega); omega)
      have b2 := pkk_lt (f := wb i) (p := 0) (l := wl i) (fun j hj => by have := wlet j (by omega) hj; rw [Nat.zero_add]; omega)
      have b3 : 256 ^ (en f n 2 p - p) ≤ 256 ^ 7 := Nat.pow_le_pow_right (by omega) (by omega)
      have b4 : 256 ^ wl i ≤ 256 ^ 7 := Nat.pow_le_pow_right (by omega) w7.2
      have b5 : (256 : Nat) ^ 7 = 72057594037927936 := by decide
      have y2 := congrArg Int64.toInt y
      unfold pkw at y2
      rw [nat64 (by omega), nat64 (by omega)] at y2
      obtain ⟨c1, c2⟩ := pkk_inj (f := f) (g := wb i) (p := p) (q := 0) (l := en f n 2 p - p) (m := wl i) (fun j hj => by have := lets (p + j) (by omega) (by omega); omega) (fun j hj => by have := wlet j (by omega) hj; rw [Nat.zero_add]; omega) (by omega)
      have kp : kd (f p) = 2 := kd_2.mpr (lets p (Nat.le_refl _) (by omega))
      have t1 := let_te (n := n) kp (by omega)
      refine ⟨by omega, fun j hj => ?_⟩
      have := c2 j (by omega)
      rw [Nat.zero_add] at this
      exact this
    · rw [ws]; exact g1.pI (Or.inl rfl)
    · rw [show (7 : Int32) < Int32.ofNat (en f n 2 p - p) ↔ 7 < en f n 2 p - p from ln_lt (k := 7) (by omega) (by omega)] at z
      rw [ws, sI_pI_eq]
      rw [hv (by omega)] at y
      by_cases c : en f n 2 p = p
      · exfalso
        rw [c, Nat.sub_self] at y
        have b2 : 1 ≤ pkw i ∧ pkw i < 256 ^ 7 := by
          have b2 := pkk_lt (f := wb i) (p := 0) (l := wl i) (fun j hj => by have := wlet j (by omega) hj; rw [Nat.zero_add]; omega)
          have b4 : 256 ^ wl i ≤ 256 ^ 7 := Nat.pow_le_pow_right (by omega) w7.2
          refine ⟨?_, by unfold pkw; omega⟩
          unfold pkw
          obtain ⟨l, hl⟩ : ∃ l, wl i = l + 1 := ⟨wl i - 1, by omega⟩
          rw [hl]
          show 1 ≤ 256 * pkk (wb i) 0 l + wb i (0 + l)
          have := wlet l (by omega) (by omega)
          rw [Nat.zero_add]
          omega
        have b5 : (256 : Nat) ^ 7 = 72057594037927936 := by decide
        have y2 := congrArg Int64.toInt y
        rw [show pkk f p 0 = 0 from rfl, nat64 (by omega), nat64 (by omega)] at y2
        omega
      · have kp : kd (f p) = 2 := kd_2.mpr (lets p (Nat.le_refl _) (by omega))
        rw [let_te (n := n) kp (by omega)]
    · have kp : kd (f p) = 2 := by
        rw [kd_2]
        have a := t.2 0 (by omega)
        have b := wlet 0 (by omega) (by omega)
        rw [Nat.add_zero] at a
        omega
      have pl : p < n := by
        have := te_le (f := f) pn
        have := t.1
        omega
      have t1 := let_te (n := n) kp pl
      have t2 := t.1
      have len : en f n 2 p - p = wl i := by omega
      rw [hv (by omega), len]
      unfold pkw
      rw [pkk_congr (g := wb i) (q := 0) (fun j hj => by rw [Nat.zero_add]; exact t.2 j hj)]
  unfold P_X11_takes_L12
  refine ⟨fun m z v4 => ∃ r, p ≤ r ∧ r ≤ en f n 2 p ∧ m = n - r ∧ z = Int32.ofNat r ∧ (r - p ≤ 7 → v4 = gn (pkk f p (r - p))), ⟨n - p, p, Nat.le_refl _, eg, rfl, rfl, fun _ => by rw [Nat.sub_self]; rfl⟩, ?_⟩
  rintro m z v4 ⟨r, r1, r2, rfl, rfl, r5⟩
  have done : r = en f n 2 p → P_X11_takes_B78 1000 (Int64.ofNat (pkw i)) (Int32.ofNat r) v4 U Q := fun z => by
    subst z; exact fin v4 r5
  have nd : ¬ (r < n ∧ kd (f r) = 2) → r = en f n 2 p := fun z => by
    rcases Nat.lt_or_ge r (en f n 2 p) with c | c
    · exact absurd ⟨by omega, enn_run r1 c⟩ z
    · omega
  unfold P_X11_takes_L12b P_X11_takes_B70
  rw [hU.2.2.1]
  refine ⟨hU.1.o, fun z => done (nd ?_), fun z => ?_⟩
  · rw [nn_le (by omega) (by omega)] at z; omega
  · rw [nn_le (by omega) (by omega)] at z
    have hlt : r < n := by omega
    have h700 : r < 700 := by omega
    obtain ⟨fb, fe⟩ := hU.2.2.2 r hlt
    have l97 : byt (f r) < (97 : Int32) ↔ f r < 97 ∨ 128 ≤ f r := byt_lt (k := 97) fb (by omega)
    have l122 : (122 : Int32) < byt (f r) ↔ 122 < f r ∧ f r < 128 := lt_byt (k := 122) fb (by omega)
    refine ⟨1176, hU.1.a76.1, hU.1.a76.2.1, by simp (disch := first | omega | decide) only [Option.some.injEq, exists_eq_left', exists_eq_left, forall_eq, forall_eq', true_and, and_true, true_implies, implies_true, false_implies, not_true_eq_false, not_false_eq_true, reduceCtorEq, and_self, forall_const, i10, i01, if_true, if_false, and_false, false_and, Nat.not_lt_zero, sK_pI, sN_pI, sR_pI, sL_pI, sK_pL, sN_pL, sR_pL, sI_pL, sK_pR, sN_pR, sI_pR, sL_pR, sI_pI_eq, sI_pI_ne, sL_pL_eq, sL_pL_ne, sR_pR_eq, sR_pR_ne, nn_le, nat32_lt, nn_eq, ln_le, nl_le, ln_lt, nl_lt, ln_eq, nl_eq, n_m1, n_lt0, vp_n, vp_l, lc_n, nat32c, n_s, nI_n, hU.1.a76, h700], ?_⟩
    rw [nat32c (by omega), fe, l97]
    refine ⟨fun y => done (nd (fun q => by have := kd_2.mp q.2; omega)), fun y => ⟨1176, hU.1.a76.1, hU.1.a76.2.1, by simp (disch := first | omega | decide) only [Option.some.injEq, exists_eq_left', exists_eq_left, forall_eq, forall_eq', true_and, and_true, true_implies, implies_true, false_implies, not_true_eq_false, not_false_eq_true, reduceCtorEq, and_self, forall_const, i10, i01, if_true, if_false, and_false, false_and, Nat.not_lt_zero, sK_pI, sN_pI, sR_pI, sL_pI, sK_pL, sN_pL, sR_pL, sI_pL, sK_pR, sN_pR, sI_pR, sL_pR, sI_pI_eq, sI_pI_ne, sL_pL_eq, sL_pL_ne, sR_pR_eq, sR_pR_ne, nn_le, nat32_lt, nn_eq, ln_le, nl_le, ln_lt, nl_lt, ln_eq, nl_eq, n_m1, n_lt0, vp_n, vp_l, lc_n, nat32c, n_s, nI_n, hU.1.a76, h700], ?_⟩⟩
    rw [fe, l122]
    refine ⟨fun y2 => done (nd (fun q => by have := kd_2.mp q.2; omega)), fun y2 => ?_⟩
    have kr : kd (f r) = 2 := kd_2.mpr (by omega)
    have rlt : r < en f n 2 p := by
      rcases Nat.lt_or_ge r (en f n 2 p) with c | c
      · exact c
      · have e2 : r = en f n 2 p := by omega
        exact absurd ⟨by rw [← e2]; exact hlt, by rw [← e2]; exact kr⟩ (enn_stop (f := f) (n := n) (k := 2) (p := p))
    rw [g2, n_sub r1, show (7 : Int32) ≤ Int32.ofNat (r - p) ↔ 7 ≤ r - p from ln_le (k := 7) (by omega) (by omega)]
    refine ⟨fun y3 x hx => ?_, fun y3 => ⟨1176, hU.1.a76.1, hU.1.a76.2.1, by simp (disch := first | omega | decide) only [Option.some.injEq, exists_eq_left', exists_eq_left, forall_eq, forall_eq', true_and, and_true, true_implies, implies_true, false_implies, not_true_eq_false, not_false_eq_true, reduceCtorEq, and_self, forall_const, i10, i01, if_true, if_false, and_false, false_and, Nat.not_lt_zero, sK_pI, sN_pI, sR_pI, sL_pI, sK_pL, sN_pL, sR_pL, sI_pL, sK_pR, sN_pR, sI_pR, sL_pR, sI_pI_eq, sI_pI_ne, sL_pL_eq, sL_pL_ne, sR_pR_eq, sR_pR_ne, nn_le, nat32_lt, nn_eq, ln_le, nl_le, ln_lt, nl_lt, ln_eq, nl_eq, n_m1, n_lt0, vp_n, vp_l, lc_n, nat32c, n_s, nI_n, hU.1.a76, h700], fun x hx => ?_⟩⟩
    · rw [hx, n_s]
      exact ⟨n - (r + 1), by omega, r + 1, by omega, by omega, rfl, rfl, fun w => by omega⟩
    · rw [hx, n_s]
      refine ⟨n - (r + 1), by omega, r + 1, by omega, by omega, rfl, rfl, fun w => ?_⟩
      have b1 := pkk_lt (f := f) (p := p) (l := r - p) (fun j hj => by have := lets (p + j) (by omega) (by omega); omega)
      have b3 : 256 ^ (r - p) ≤ 256 ^ 6 := Nat.pow_le_pow_right (by omega) (by omega)
      have b5 : (256 : Nat) ^ 6 = 281474976710656 := by decide
      rw [r5 (by omega), fe, byt_l (by omega), shl8 (by omega) (by omega), show r + 1 - p = (r - p) + 1 from by omega]
      show _ = gn (256 * pkk f p (r - p) + f (p + (r - p)))
      rw [show p + (r - p) = r from by omega]
theorem m_num {lo hi q : Nat} {Q : Int32 → Sg → Prop} (h : TM T f n) (e : sI T 1000 79 = Int32.ofNat q) (hq : q ≤ n) (hlo : lo ≤ 9999) (hhi : hi ≤ 9999) (k1 : numP f n lo hi (sk f n q) → ∀ T', TY T T' → sI T' 1000 79 = Int32.ofNat (te f n (sk f n q)) → sI T' 1000 81 = Int32.ofNat (dv f (sk f n q) (te f n (sk f n q) - sk f n q)) → Q 1 T') (k0 : ¬ numP f n lo hi (sk f n q) → ∀ T', TY T T' → sI T' 1000 79 = Int32.ofNat (sk f n q) → Q 0 T') : P_X11_takesNumber 1000 (Int32.ofNat lo) (Int32.ofNat hi) T Q := by
  have hn := h.2.1
  unfold P_X11_takesNumber
  refine ⟨h.1.o, m_blanks h e hq (fun U g1 g2 g3 x6 hx6 s8 w8 => ?_)⟩
  rw [g2] at hx6
  subst hx6
  have g1' : TY T s8 := by rw [w8]; exact g1.pI (Or.inr rfl)
  have g2' : sI s8 1000 79 = Int32.ofNat (sk f n q) := by rw [w8, sI_pI_ne (by omega)]; exact g2
  have g3' : sI s8 1000 81 = Int32.ofNat 0 := by rw [w8, sI_pI_eq]; rfl
  clear w8
  have pn : sk f n q ≤ n := enn_le hq
  generalize sk f n q = p at *
  have el := enn_le (f := f) (k := 3) pn
  have eg := enn_ge (f := f) (n := n) (k := 3) (p := p)
  have digs : ∀ j, p ≤ j → j < en f n 3 p → 48 ≤ f j ∧ f j ≤ 57 := fun j h1 h2 => kd_3.mp (enn_run h1 h2)
  have fin : ∀ V, TY T V → sI V 1000 79 = Int32.ofNat p → sI V 1000 81 = Int32.ofNat (dv f p (min (en f n 3 p - p) 4)) → P_X11_takesNumber_B81 1000 (Int32.ofNat lo) (Int32.ofNat hi) (Int32.ofNat (en f n 3 p)) V Q := fun V v1 v2 v3 => by
    unfold P_X11_takesNumber_B81
    rw [v2, n_sub eg, nn_eq (by omega) (by omega)]
    refine ⟨v1.2.1.o, fun z => k0 (fun t => ?_) V v1 v2, fun z => ⟨fun y => k0 (fun t => ?_) V v1 v2, fun y => isIn_e.mpr ?_⟩⟩
    · obtain ⟨r1, r2, r3⟩ := num_run (lo := 0) (hi := 0) t.1
      have : kd (f p) = 3 := by
        have := t.1
        unfold kiA at this
        rw [if_pos r2] at this; exact this
      have := enn_y r2 this
      have := enn_ge (f := f) (n := n) (k := 3) (p := p + 1)
      omega
    · rw [show (4 : Int32) < Int32.ofNat (en f n 3 p - p) ↔ 4 < en f n 3 p - p from ln_lt (k := 4) (by omega) (by omega)] at y
      obtain ⟨r1, r2, r3⟩ := num_run (lo := 0) (hi := 0) t.1
      have := t.2.1
      omega
    · rw [show (4 : Int32) < Int32.ofNat (en f n 3 p - p) ↔ 4 < en f n 3 p - p from ln_lt (k := 4) (by omega) (by omega)] at y
      rw [Nat.min_eq_left (by omega)] at v3
      have pl : p < n := by omega
      have kp : kd (f p) = 3 := kd_3.mpr (digs p (Nat.le_refl _) (by omega))
      have ki : kiA f n p = 3 := by unfold kiA; rw [if_pos pl]; exact kp
      have t1 := (num_run (lo := 0) (hi := 0) ki).1
      have dl := dv_lt (f := f) (p := p) (l := en f n 3 p - p) (fun j hj => (digs (p + j) (by omega) (by omega)).2)
      have p4 : 10 ^ (en f n 3 p - p) ≤ 10 ^ 4 := Nat.pow_le_pow_right (by omega) (by omega)
      rw [v3, inn_n (by omega) (by omega) (by omega)]
      refine ⟨fun w => k0 (fun t => w ?_) V v1 v2, fun w s ws => k1 ⟨ki, by omega, ?_⟩ s ?_ ?_ ?_⟩
      · have := t.2.2
        rw [t1] at this; exact this
      · rw [t1]; exact Classical.not_not.mp w
      · rw [ws]; exact v1.pI (Or.inl rfl)
      · rw [ws, sI_pI_eq, t1]
      · rw [ws, sI_pI_ne (by omega), v3, t1]
  unfold P_X11_takesNumber_L14
  refine ⟨fun m z V => ∃ r, p ≤ r ∧ r ≤ en f n 3 p ∧ m = n - r ∧ z = Int32.ofNat r ∧ TY T V ∧ sI V 1000 79 = Int32.ofNat p ∧ sI V 1000 81 = Int32.ofNat (dv f p (min (r - p) 4)), ⟨n - p, p, Nat.le_refl _, eg, rfl, rfl, g1', g2', by rw [Nat.sub_self]; exact g3'⟩, ?_⟩
  rintro m z V ⟨r, r1, r2, rfl, rfl, v1, v2, v3⟩
  have hV := h.ty v1
  have done : r = en f n 3 p → P_X11_takesNumber_B81 1000 (Int32.ofNat lo) (Int32.ofNat hi) (Int32.ofNat r) V Q := fun z => by
    subst z; exact fin V v1 v2 v3
  have nd : ¬ (r < n ∧ kd (f r) = 3) → r = en f n 3 p := fun z => by
    rcases Nat.lt_or_ge r (en f n 3 p) with c | c
    · exact absurd ⟨by omega, enn_run r1 c⟩ z
    · omega
  unfold P_X11_takesNumber_L14b P_X11_takesNumber_B75
  rw [hV.2.2.1]
  refine ⟨hV.1.o, fun z => done (nd ?_), fun z => ?_⟩
  · rw [nn_le (by omega) (by omega)] at z; omega
  · rw [nn_le (by omega) (by omega)] at z
    have hlt : r < n := by omega
    have h700 : r < 700 := by omega
    obtain ⟨fb, fe⟩ := hV.2.2.2 r hlt
    have l48 : byt (f r) < (48 : Int32) ↔ f r < 48 ∨ 128 ≤ f r := byt_lt (k := 48) fb (by omega)
    have l57 : (57 : Int32) < byt (f r) ↔ 57 < f r ∧ f r < 128 := lt_byt (k := 57) fb (by omega)
    refine ⟨1176, hV.1.a76.1, hV.1.a76.2.1, by simp (disch := first | omega | decide) only [Option.some.injEq, exists_eq_left', exists_eq_left, forall_eq, forall_eq', true_and, and_true, true_implies, implies_true, false_implies, not_true_eq_false, not_false_eq_true, reduceCtorEq, and_self, forall_const, i10, i01, if_true, if_false, and_false, false_and, Nat.not_lt_zero, sK_pI, sN_pI, sR_pI, sL_pI, sK_pL, sN_pL, sR_pL, sI_pL, sK_pR, sN_pR, sI_pR, sL_pR, sI_pI_eq, sI_pI_ne, sL_pL_eq, sL_pL_ne, sR_pR_eq, sR_pR_ne, nn_le, nat32_lt, nn_eq, ln_le, nl_le, ln_lt, nl_lt, ln_eq, nl_eq, n_m1, n_lt0, vp_n, vp_l, lc_n, nat32c, n_s, nI_n, hV.1.a76, h700], ?_⟩
    rw [nat32c (by omega), fe, l48]
    refine ⟨fun y => done (nd (fun q => by have := kd_3.mp q.2; omega)), fun y => ⟨1176, hV.1.a76.1, hV.1.a76.2.1, by simp (disch := first | omega | decide) only [Option.some.injEq, exists_eq_left', exists_eq_left, forall_eq, forall_eq', true_and, and_true, true_implies, implies_true, false_implies, not_true_eq_false, not_false_eq_true, reduceCtorEq, and_self, forall_const, i10, i01, if_true, if_false, and_false, false_and, Nat.not_lt_zero, sK_pI, sN_pI, sR_pI, sL_pI, sK_pL, sN_pL, sR_pL, sI_pL, sK_pR, sN_pR, sI_pR, sL_pR, sI_pI_eq, sI_pI_ne, sL_pL_eq, sL_pL_ne, sR_pR_eq, sR_pR_ne, nn_le, nat32_lt, nn_eq, ln_le, nl_le, ln_lt, nl_lt, ln_eq, nl_eq, n_m1, n_lt0, vp_n, vp_l, lc_n, nat32c, n_s, nI_n, hV.1.a76, h700], ?_⟩⟩
    rw [fe, l57]
    refine ⟨fun y2 => done (nd (fun q => by have := kd_3.mp q.2; omega)), fun y2 => ?_⟩
    have kr : kd (f r) = 3 := kd_3.mpr (by omega)
    have rlt : r < en f n 3 p := by
      rcases Nat.lt_or_ge r (en f n 3 p) with c | c
      · exact c
      · have e2 : r = en f n 3 p := by omega
        exact absurd ⟨by rw [← e2]; exact hlt, by rw [← e2]; exact kr⟩ (enn_stop (f := f) (n := n) (k := 3) (p := p))
    rw [v2, n_sub r1, show (4 : Int32) ≤ Int32.ofNat (r - p) ↔ 4 ≤ r - p from ln_le (k := 4) (by omega) (by omega)]
    refine ⟨fun y3 x hx => ?_, fun y3 => ⟨1176, hV.1.a76.1, hV.1.a76.2.1, by simp (disch := first | omega | decide) only [Option.some.injEq, exists_eq_left', exists_eq_left, forall_eq, forall_eq', true_and, and_true, true_implies, implies_true, false_implies, not_true_eq_false, not_false_eq_true, reduceCtorEq, and_self, forall_const, i10, i01, if_true, if_false, and_false, false_and, Nat.not_lt_zero, sK_pI, sN_pI, sR_pI, sL_pI, sK_pL, sN_pL, sR_pL, sI_pL, sK_pR, sN_pR, sI_pR, sL_pR, sI_pI_eq, sI_pI_ne, sL_pL_eq, sL_pL_ne, sR_pR_eq, sR_pR_ne, nn_le, nat32_lt, nn_eq, ln_le, nl_le, ln_lt, nl_lt, ln_eq, nl_eq, n_m1, n_lt0, vp_n, vp_l, lc_n, nat32c, n_s, nI_n, hV.1.a76, h700], fun s ws x hx => ?_⟩⟩
    · rw [hx, n_s]
      refine ⟨n - (r + 1), by omega, r + 1, by omega, by omega, rfl, rfl, v1, v2, ?_⟩
      rw [v3, Nat.min_eq_right (by omega), Nat.min_eq_right (by omega)]
    · rw [hx, n_s]
      refine ⟨n - (r + 1), by omega, r + 1, by omega, by omega, rfl, rfl, by rw [ws]; exact v1.pI (Or.inr rfl), by rw [ws, sI_pI_ne (by omega)]; exact v2, ?_⟩
      rw [ws, sI_pI_eq, v3, fe, byt_l (by omega), Nat.min_eq_left (by omega), Nat.min_eq_left (by omega), show (10 : Int32) = Int32.ofNat 10 from rfl, n_mul, n_add, show (48 : Int32) = Int32.ofNat 48 from rfl, n_sub (by omega), show r + 1 - p = (r - p) + 1 from by omega]
      show _ = Int32.ofNat (10 * dv f p (r - p) + (f (p + (r - p)) - 48))
      rw [show p + (r - p) = r from by omega, Nat.add_sub_assoc (by omega)]
end TK
