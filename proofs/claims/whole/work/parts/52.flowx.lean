/-! ===== level 2: the class's storm ===== -/
def RX (S S' : Sg) : Prop := (∀ x, ¬ (7000 ≤ x ∧ x < 7012) → vw S' x = vw S x) ∧ (∀ x, sK S' x = sK S x ∧ sN S' x = sN S x ∧ sR S' x = sR S x) ∧ ∀ x i, i ≤ 6 → sI S' x i = sI S x i
theorem RX.refl (S : Sg) : RX S S := ⟨fun _ _ => rfl, fun _ => ⟨rfl, rfl, rfl⟩, fun _ _ _ => rfl⟩
theorem RX.trans {S T U : Sg} (h : RX S T) (g : RX T U) : RX S U := ⟨fun x hx => (g.1 x hx).trans (h.1 x hx), fun x => ⟨(g.2.1 x).1.trans (h.2.1 x).1, (g.2.1 x).2.1.trans (h.2.1 x).2.1, (g.2.1 x).2.2.trans (h.2.1 x).2.2⟩, fun x i hi => (g.2.2 x i hi).trans (h.2.2 x i hi)⟩
theorem RX.pI {S T : Sg} {a i : Nat} {v : Int32} (h : RX S T) (h1 : 7000 ≤ a) (h2 : a < 7012) (h3 : 7 ≤ i) : RX S (pI T a i v) := h.trans ⟨fun x hx => vw_pI (by omega), fun x => ⟨rfl, rfl, rfl⟩, fun x j hj => sI_pI_ne (by omega)⟩
def ND (S : Sg) (st : Ms) (j : Nat) : Prop := sI S (7000 + j) 7 = Int32.ofNat (st 0 j) ∧ sI S (7000 + j) 8 = Int32.ofNat (st 1 j) ∧ sI S (7000 + j) 9 = Int32.ofNat (st 2 j) ∧ sI S (7000 + j) 11 = Int32.ofNat (st 3 j) ∧ sI S (7000 + j) 12 = Int32.ofNat (st 4 j) ∧ sI S (7000 + j) 13 = Int32.ofNat (st 5 j) ∧ sI S (7000 + j) 14 = Int32.ofNat (st 6 j)
def NP (S S2 : Sg) (j : Nat) : Prop := sI S (7000 + j) 0 = Int32.ofNat (wB S2 0 j) ∧ sI S (7000 + j) 1 = Int32.ofNat (wB S2 1 j) ∧ sI S (7000 + j) 3 = Int32.ofNat (wB S2 2 j) ∧ sI S (7000 + j) 5 = Int32.ofNat (wB S2 3 j) ∧ sI S (7000 + j) 4 = Int32.ofNat (wB S2 4 j) ∧ sR S (7000 + j) 2 = (beF S2 j).map (fun b => 7000 + b)
theorem q_st_c {w st : Ms} {be : Nat → Option Nat} {c own : Nat} : q_st w be st c own 0 c = st 0 c + q_tk w st c own - q_sn w st c own ∧ q_st w be st c own 1 c = 0 ∧ q_st w be st c own 2 c = 0 ∧ q_st w be st c own 3 c = st 3 c + q_sn w st c own ∧ q_st w be st c own 4 c = st 4 c + (q_be w st c own - q_ru w be st c own) ∧ q_st w be st c own 5 c = max (st 5 c) (q_ca w st c own) ∧ q_st w be st c own 6 c = st 6 c + q_we w st c own := by simp [q_st]
theorem q_st_b {w st : Ms} {be : Nat → Option Nat} {c own b : Nat} (h : be c = some b) (hb : ¬ b = c) : q_st w be st c own 0 b = st 0 b ∧ q_st w be st c own 1 b = st 1 b + q_ru w be st c own ∧ q_st w be st c own 2 b = st 2 b + q_ca w st c own ∧ q_st w be st c own 3 b = st 3 b ∧ q_st w be st c own 4 b = st 4 b ∧ q_st w be st c own 5 b = st 5 b ∧ q_st w be st c own 6 b = st 6 b := by simp [q_st, h, hb]
theorem q_st_o {w st : Ms} {be : Nat → Option Nat} {c own j k : Nat} (h : ¬ j = c) (h2 : ¬ be c = some j) : q_st w be st c own k j = st k j := by simp [q_st, h, h2]
theorem x_soak70 {S : Sg} {a s0 s3 tk dr : Nat} {Q : Int32 → Sg → Prop} (hk : sK S a % 32 = 7) (e7 : sI S a 7 = Int32.ofNat s0) (e11 : sI S a 11 = Int32.ofNat s3) (h1 : s0 + tk < 2147483648) (h2 : dr < 2147483648) (k : Q (Int32.ofNat tk) (pI (pI S a 7 (Int32.ofNat (s0 + tk - min (s0 + tk) dr))) a 11 (Int32.ofNat (s3 + min (s0 + tk) dr)))) : P_X5_soak_B70 a (Int32.ofNat tk) (Int32.ofNat (s0 + tk)) (Int32.ofNat dr) S Q := by
  unfold P_X5_soak_B70
  intro x9 hx9
  rw [n_minC h2 h1] at hx9
  subst hx9
  refine ⟨hk, fun s1 q1 s2 q2 => ?_⟩
  rw [e7, ← add_sub3, n_add, n_sub (Nat.min_le_left _ _)] at q1
  subst q1
  rw [sI_pI_ne (by omega), e11, n_add] at q2
  rw [q2]; exact k
theorem x_soak {S : Sg} {a co bo op dr nd s0 s3 tk sn : Nat} {Q : Int32 → Sg → Prop} (hk : sK S a % 32 = 7) (h0 : sI S a 6 = 0 → sI S a 3 = Int32.ofNat bo ∧ sI S a 5 = Int32.ofNat op ∧ sI S a 4 = Int32.ofNat dr) (h1 : ¬ sI S a 6 = 0 → bo = 100 ∧ op = 10 ∧ dr = nd) (e7 : sI S a 7 = Int32.ofNat s0) (e11 : sI S a 11 = Int32.ofNat s3) (b1 : co ≤ 960000) (b2 : op ≤ 10) (b3 : s0 ≤ bo) (b4 : bo ≤ 500) (b5 : dr ≤ 100) (htk : tk = min (co * op / 10) (bo - s0)) (hsn : sn = min (s0 + tk) dr) (k : Q (Int32.ofNat tk) (pI (pI S a 7 (Int32.ofNat (s0 + tk - sn))) a 11 (Int32.ofNat (s3 + sn)))) : P_X5_soak a (Int32.ofNat co) (Int32.ofNat nd) S Q := by
  have hop : co * op ≤ 960000 * 10 := Nat.mul_le_mul b1 b2
  have htk5 : tk ≤ 500 := by rw [htk]; exact Nat.le_trans (Nat.min_le_right _ _) (by omega)
  unfold P_X5_soak P_X5_soak_B20 P_X5_soak_B38
  by_cases ha : sI S a 6 = 0
  · obtain ⟨e3, e5, e4⟩ := h0 ha
    refine ⟨hk, fun _ => ⟨hk, fun _ => ⟨hk, fun x hx => ⟨fun _ => ?_, fun z => absurd ha z⟩⟩, fun z => absurd ha z⟩, fun z => absurd ha z⟩
    rw [e3, e7, e5, n_mul, n_divl (k := 10) (by omega) (by omega), n_sub b3, n_minC (by omega) (by omega), ← htk] at hx
    subst hx
    rw [e7, e4, n_add]
    exact x_soak70 hk e7 e11 (by omega) (by omega) (by rw [← hsn]; exact k)
  · obtain ⟨r1, r2, r3⟩ := h1 ha
    subst r1; subst r2; subst r3
    refine ⟨hk, fun z => absurd z ha, fun _ => ⟨hk, fun z => absurd z ha, fun _ => ⟨hk, fun x hx => ⟨fun z => absurd z ha, fun _ => ?_⟩⟩⟩⟩
    rw [e7, show (100 : Int32) = Int32.ofNat 100 from rfl, n_sub b3, n_minC (by omega) (by omega)] at hx
    rw [Nat.mul_div_cancel co (by omega)] at htk
    rw [← htk] at hx
    subst hx
    rw [e7, n_add]
    exact x_soak70 hk e7 e11 (by omega) (by omega) (by rw [← hsn]; exact k)
def finS (S : Sg) (a ou sp mo we : Nat) : Sg := pI (pI (pI (pI (pI (pI S a 10 (Int32.ofNat ou)) a 12 (Int32.ofNat sp)) a 13 (Int32.ofNat mo)) a 14 (Int32.ofNat we)) a 8 0) a 9 0
theorem x_fin {S : Sg} {a ca be ru ou sp mo we ce : Nat} {Q : Unit → Sg → Prop} (hk : sK S a % 32 = 7) (e1 : sI S a 1 = Int32.ofNat ce) (e12 : sI S a 12 = Int32.ofNat sp) (e13 : sI S a 13 = Int32.ofNat mo) (e14 : sI S a 14 = Int32.ofNat we) (b1 : ca < 2147483648) (b2 : be < 2147483648) (b3 : ce < 2147483648) (b4 : mo < 2147483648) (hru : ru ≤ be) (k : Q () (finS S a ou (sp + (be - ru)) (max mo ca) (we + if 0 < ce ∧ ce < be then 1 else 0))) : P_X5_minute_B106 a (Int32.ofNat ca) (Int32.ofNat be) (Int32.ofNat ru) (some a) (Int32.ofNat ou) S Q := by
  unfold finS at k
  unfold P_X5_minute_B106 P_X5_minute_B161 P_X5_minute_B162
  refine ⟨a, rfl, hk, fun s1 q1 => ?_⟩
  subst q1
  refine ⟨hk, fun s2 q2 x hx s3 q3 => ?_⟩
  rw [sI_pI_ne (by omega), e12, n_sub hru, n_add] at q2
  rw [q2, sI_pI_ne (by omega), sI_pI_ne (by omega), e13, n_maxB b4 b1] at hx
  rw [hx, q2] at q3
  subst q3
  have g1 : sI (pI (pI (pI S a 10 (Int32.ofNat ou)) a 12 (Int32.ofNat (sp + (be - ru)))) a 13 (Int32.ofNat (max mo ca))) a 1 = Int32.ofNat ce := by simp (disch := first | omega | decide) only [sI_pI_ne]; exact e1
  have g14 : sI (pI (pI (pI S a 10 (Int32.ofNat ou)) a 12 (Int32.ofNat (sp + (be - ru)))) a 13 (Int32.ofNat (max mo ca))) a 14 = Int32.ofNat we := by simp (disch := first | omega | decide) only [sI_pI_ne]; exact e14
  rw [g1, g14]
  have fin : ∀ z : Nat, z = (if 0 < ce ∧ ce < be then 1 else 0) → ∃ c54 : Nat, some a = some c54 ∧ sK (pI (pI (pI S a 10 (Int32.ofNat ou)) a 12 (Int32.ofNat (sp + (be - ru)))) a 13 (Int32.ofNat (max mo ca))) c54 % 32 = 7 ∧ ∀ σ57 : Sg, σ57 = pI (pI (pI (pI S a 10 (Int32.ofNat ou)) a 12 (Int32.ofNat (sp + (be - ru)))) a 13 (Int32.ofNat (max mo ca))) c54 14 (Int32.ofNat we + Int32.ofNat z) → sK σ57 a % 32 = 7 ∧ ∀ σ61 : Sg, σ61 = pI σ57 a 8 0 → ∀ σ64 : Sg, σ64 = pI σ61 a 9 0 → Q () σ64 := fun z hz => by
    refine ⟨a, rfl, hk, fun s4 q4 => ?_⟩
    rw [n_add, hz] at q4
    subst q4
    refine ⟨hk, fun s5 q5 s6 q6 => ?_⟩
    rw [q6, q5]
    exact k
  refine ⟨fun z => ?_, fun z => ⟨fun y => ?_, fun y => ?_⟩⟩
  · rw [show Int32.ofNat ce ≤ (0 : Int32) ↔ ce ≤ 0 from nl_le (k := 0) (by omega) b3] at z
    exact fin 0 (by rw [if_neg (by omega)])
  · rw [nn_le b2 b3] at y
    exact fin 0 (by rw [if_neg (by omega)])
  · rw [show Int32.ofNat ce ≤ (0 : Int32) ↔ ce ≤ 0 from nl_le (k := 0) (by omega) b3] at z
    rw [nn_le b2 b3] at y
    exact fin 1 (by rw [if_pos (by omega)])
theorem x_minute {S : Sg} {w st : Ms} {be : Nat → Option Nat} {own : Nat → Nat → Nat} {n m mm c nd : Nat} {Q : Unit → Sg → Prop} (hK : ∀ j, j < 12 → sK S (7000 + j) % 32 = 7) (hc : c < n) (hw : Wb w be own n) (hi : Wi w st n m c) (hm : m ≤ 30) (e0 : sI S (7000 + c) 0 = Int32.ofNat (w 0 c)) (e1 : sI S (7000 + c) 1 = Int32.ofNat (w 1 c)) (h0 : sI S (7000 + c) 6 = 0 → sI S (7000 + c) 3 = Int32.ofNat (w 2 c) ∧ sI S (7000 + c) 5 = Int32.ofNat (w 3 c) ∧ sI S (7000 + c) 4 = Int32.ofNat (w 4 c)) (h1 : ¬ sI S (7000 + c) 6 = 0 → w 2 c = 100 ∧ w 3 c = 10 ∧ w 4 c = nd) (eR : sR S (7000 + c) 2 = (be c).map (fun b => 7000 + b)) (hst : ∀ j, j < n → ND S st j) (k : ∀ S', RX S S' → (∀ j, j < n → ND S' (q_st w be st c (own mm c)) j) → sI S' (7000 + c) 10 = Int32.ofNat (q_ou w be st c (own mm c)) → Q () S') : P_X5_minute (7000 + c) (Int32.ofNat (own mm c)) (Int32.ofNat nd) S Q := by
  have hin := wi_in (mm := mm) hw hi hc
  obtain ⟨n12, w2, w3⟩ := hw
  obtain ⟨p0, p1, p2, p3, p4, pb⟩ := w2 c hc
  obtain ⟨a1, -, -, -, a5⟩ := hi
  have b0 := a1 c hc
  have a5c := (a5 c).2.2.1
  have hkc := hK c (by omega)
  obtain ⟨c7, c8, c9, c11, c12, c13, c14⟩ := hst c hc
  have htk := q_tk_le (st := st) (own := own mm c) p3
  have hca : q_ca w st c (own mm c) ≤ q_in w st c (own mm c) := Nat.min_le_left _ _
  have hii : q_in w st c (own mm c) = own mm c + st 1 c - q_tk w st c (own mm c) + st 2 c := rfl
  have hbb : q_be w st c (own mm c) = q_in w st c (own mm c) - q_ca w st c (own mm c) := rfl
  have htk5 : q_tk w st c (own mm c) ≤ 500 := Nat.le_trans (Nat.min_le_right _ _) (by omega)
  generalize own mm c = x at *
  unfold P_X5_minute
  refine ⟨hkc, fun x2 hx2 => ?_⟩
  rw [c8, n_add] at hx2
  subst hx2
  refine x_soak (co := x + st 1 c) (tk := q_tk w st c x) (sn := q_sn w st c x) hkc h0 h1 c7 c11 (by omega) p3 b0 p2 p4 rfl rfl ?_
  intro x8 hx8 x10 hx10 x12 hx12
  have rx : RX S (pI (pI S (7000 + c) 7 (Int32.ofNat (st 0 c + q_tk w st c x - q_sn w st c x))) (7000 + c) 11 (Int32.ofNat (st 3 c + q_sn w st c x))) := ((RX.refl S).pI (by omega) (by omega) (by omega)).pI (by omega) (by omega) (by omega)
  rw [sI_pI_ne (by omega), sI_pI_ne (by omega), c9, n_sub htk, n_add] at hx8
  rw [sI_pI_ne (by omega), sI_pI_ne (by omega), e0, hx8, n_minC (by omega) (by omega)] at hx10
  have hx8 : x8 = Int32.ofNat (q_in w st c x) := hx8
  have hx10 : x10 = Int32.ofNat (q_ca w st c x) := hx10
  rw [hx8, hx10, n_sub hca] at hx12
  have hx12 : x12 = Int32.ofNat (q_be w st c x) := hx12
  rw [hx12, hx10]
  have hsR : ∀ z, sR (pI (pI S (7000 + c) 7 (Int32.ofNat (st 0 c + q_tk w st c x - q_sn w st c x))) (7000 + c) 11 (Int32.ofNat (st 3 c + q_sn w st c x))) z = sR S z := fun z => rfl
  rw [hsR, eR]
  unfold P_X5_minute_B55 P_X5_minute_B92
  obtain ⟨s0, s1, s2, s3, s4, s5, s6⟩ := q_st_c (w := w) (be := be) (st := st) (c := c) (own := x)
  cases hb : be c with
  | none =>
    have ru : q_ru w be st c x = 0 := by unfold q_ru; rw [if_pos hb]
    have ou : q_ou w be st c x = q_ca w st c x := by unfold q_ou; rw [if_pos hb]
    refine ⟨fun _ => ⟨hkc, fun _ => ⟨hkc, fun _ => ?_, fun b z => ?_⟩, fun b z => ?_⟩, fun b z => by cases z⟩
    · refine x_fin (ru := 0) (ou := q_ca w st c x) (ce := w 1 c) (sp := st 4 c) (mo := st 5 c) (we := st 6 c) hkc ?_ ?_ ?_ ?_ (by omega) (by omega) (by omega) (by omega) (by omega) (k _ ?_ (fun j hj => ?_) ?_)
      · simp (disch := first | omega | decide) only [sI_pI_ne]; exact e1
      · simp (disch := first | omega | decide) only [sI_pI_ne]; exact c12
      · simp (disch := first | omega | decide) only [sI_pI_ne]; exact c13
      · simp (disch := first | omega | decide) only [sI_pI_ne]; exact c14
      · unfold finS
        exact (((((rx.pI (by omega) (by omega) (by omega)).pI (by omega) (by omega) (by omega)).pI (by omega) (by omega) (by omega)).pI (by omega) (by omega) (by omega)).pI (by omega) (by omega) (by omega)).pI (by omega) (by omega) (by omega)
      · unfold ND finS
        by_cases e : j = c
        · subst e
          rw [s0, s1, s2, s3, s4, s5, s6, ru]
          refine ⟨?_, ?_, ?_, ?_, ?_, ?_, ?_⟩ <;> first | (simp (disch := first | omega | decide) only [sI_pI_ne, sI_pI_eq]; done) | (simp (disch := first | omega | decide) only [sI_pI_ne, sI_pI_eq]; rfl)
        · have q := fun k => q_st_o (w := w) (be := be) (st := st) (c := c) (own := x) (j := j) (k := k) e (by rw [hb]; intro z; cases z)
          rw [q, q, q, q, q, q, q]
          simp (disch := first | omega | decide) only [sI_pI_ne]
          exact hst j hj
      · unfold finS
        simp (disch := first | omega | decide) only [sI_pI_ne, sI_pI_eq]
        rw [ou]
    · rw [hsR, eR, hb] at z; cases z
    · rw [hsR, eR, hb] at z; cases z
  | some b =>
    obtain ⟨b1, b2⟩ := pb b hb
    have ru : q_ru w be st c x = q_be w st c x / 2 := by unfold q_ru; rw [if_neg (by rw [hb]; intro z; cases z)]
    have ou : q_ou w be st c x = 0 := by unfold q_ou; rw [if_neg (by rw [hb]; intro z; cases z)]
    have eR2 : sR S (7000 + c) 2 = some (7000 + b) := by rw [eR, hb]; rfl
    obtain ⟨d7, d8, d9, d11, d12, d13, d14⟩ := hst b b2
    refine ⟨fun z => absurd z (by simp), fun b' z => ?_⟩
    rw [n_divl (k := 2) (by omega) (by omega)]
    refine ⟨hkc, fun y => ?_, fun b' y => ⟨7000 + b, by rw [hsR]; exact eR2, hK b (by omega), fun t1 q1 => ⟨7000 + b, ?_, ?_, fun t2 q2 => ⟨?_, fun y2 => ?_, fun b3 y2 => ?_⟩⟩⟩⟩
    · rw [hsR, eR2] at y; cases y
    · rw [q1]; exact eR2
    · rw [q1]; exact hK b (by omega)
    · rw [q2, q1]; exact hkc
    · rw [q2, q1] at y2
      have y2 : sR S (7000 + c) 2 = none := y2
      rw [eR2] at y2; cases y2
    · rw [sI_pI_ne (by omega), sI_pI_ne (by omega), d9, n_add] at q1
      rw [q1, sI_pI_ne (by omega), sI_pI_ne (by omega), sI_pI_ne (by omega), d8, n_add] at q2
      subst q2
      refine x_fin (ru := q_be w st c x / 2) (ou := 0) (ce := w 1 c) (sp := st 4 c) (mo := st 5 c) (we := st 6 c) hkc ?_ ?_ ?_ ?_ (by omega) (by omega) (by omega) (by omega) (by omega) (k _ ?_ (fun j hj => ?_) ?_)
      · simp (disch := first | omega | decide) only [sI_pI_ne]; exact e1
      · simp (disch := first | omega | decide) only [sI_pI_ne]; exact c12
      · simp (disch := first | omega | decide) only [sI_pI_ne]; exact c13
      · simp (disch := first | omega | decide) only [sI_pI_ne]; exact c14
      · unfold finS
        exact (((((((rx.pI (by omega) (by omega) (by omega)).pI (by omega) (by omega) (by omega)).pI (by omega) (by omega) (by omega)).pI (by omega) (by omega) (by omega)).pI (by omega) (by omega) (by omega)).pI (by omega) (by omega) (by omega)).pI (by omega) (by omega) (by omega)).pI (by omega) (by omega) (by omega)
      · unfold ND finS
        by_cases e : j = c
        · subst e
          rw [s0, s1, s2, s3, s4, s5, s6, ru]
          refine ⟨?_, ?_, ?_, ?_, ?_, ?_, ?_⟩ <;> first | (simp (disch := first | omega | decide) only [sI_pI_ne, sI_pI_eq]; done) | (simp (disch := first | omega | decide) only [sI_pI_ne, sI_pI_eq]; rfl)
        · by_cases e2 : j = b
          · subst e2
            obtain ⟨r0, r1, r2, r3, r4, r5, r6⟩ := q_st_b (w := w) (st := st) (own := x) hb e
            rw [r0, r1, r2, r3, r4, r5, r6, ru]
            simp (disch := first | omega | decide) only [sI_pI_ne, sI_pI_eq]
            simp only [d7, d11, d12, d13, d14, and_self]
          · have q := fun k => q_st_o (w := w) (be := be) (st := st) (c := c) (own := x) (j := j) (k := k) e (by rw [hb]; intro z; cases z; exact e2 rfl)
            rw [q, q, q, q, q, q, q]
            simp (disch := first | omega | decide) only [sI_pI_ne]
            exact hst j hj
      · unfold finS
        simp (disch := first | omega | decide) only [sI_pI_ne, sI_pI_eq]
        rw [ou]
