/-! ===== the storm's reckoning in natural numbers ===== -/
def su (f : Nat → Nat) : Nat → Nat
  | 0 => 0
  | n + 1 => su f n + f n
theorem su_congr {f g : Nat → Nat} : ∀ {n : Nat}, (∀ i, i < n → f i = g i) → su f n = su g n
  | 0, _ => rfl
  | n + 1, h => by show su f n + f n = su g n + g n; rw [su_congr (fun i hi => h i (by omega)), h n (by omega)]
theorem su_le {f : Nat → Nat} {b : Nat} : ∀ {n : Nat}, (∀ i, i < n → f i ≤ b) → su f n ≤ n * b
  | 0, _ => Nat.zero_le _
  | n + 1, h => by
    show su f n + f n ≤ (n + 1) * b
    have := su_le (n := n) (fun i hi => h i (by omega))
    have := h n (by omega)
    rw [Nat.succ_mul]
    omega
theorem su_mem {f : Nat → Nat} {i : Nat} : ∀ {n : Nat}, i < n → f i ≤ su f n
  | 0, h => by omega
  | n + 1, h => by
    show f i ≤ su f n + f n
    rcases Nat.lt_or_ge i n with c | c
    · have := su_mem (f := f) c; omega
    · have e : i = n := by omega
      subst e; omega
theorem su_upd {f g : Nat → Nat} {a : Nat} (h : ∀ j, ¬ j = a → g j = f j) : ∀ {n : Nat}, a < n → su g n + f a = su f n + g a
  | 0, c => by omega
  | n + 1, c => by
    show su g n + g n + f a = su f n + f n + g a
    rcases Nat.lt_or_ge a n with d | d
    · have := su_upd h d
      rw [h n (by omega)]
      omega
    · have e : a = n := by omega
      subst e
      rw [su_congr (f := g) (g := f) (fun i hi => h i (by omega))]
      omega
abbrev Ms : Type := Nat → Nat → Nat
def q_tk (w st : Ms) (c own : Nat) : Nat := min ((own + st 1 c) * w 3 c / 10) (w 2 c - st 0 c)
def q_sn (w st : Ms) (c own : Nat) : Nat := min (st 0 c + q_tk w st c own) (w 4 c)
def q_in (w st : Ms) (c own : Nat) : Nat := own + st 1 c - q_tk w st c own + st 2 c
def q_ca (w st : Ms) (c own : Nat) : Nat := min (q_in w st c own) (w 0 c)
def q_be (w st : Ms) (c own : Nat) : Nat := q_in w st c own - q_ca w st c own
def q_ru (w : Ms) (be : Nat → Option Nat) (st : Ms) (c own : Nat) : Nat := if be c = none then 0 else q_be w st c own / 2
def q_ou (w : Ms) (be : Nat → Option Nat) (st : Ms) (c own : Nat) : Nat := if be c = none then q_ca w st c own else 0
def q_we (w st : Ms) (c own : Nat) : Nat := if 0 < w 1 c ∧ w 1 c < q_be w st c own then 1 else 0
def q_st (w : Ms) (be : Nat → Option Nat) (st : Ms) (c own : Nat) : Ms := fun k j =>
  if j = c then (if k = 0 then st 0 c + q_tk w st c own - q_sn w st c own else if k = 1 then 0 else if k = 2 then 0 else if k = 3 then st 3 c + q_sn w st c own else if k = 4 then st 4 c + (q_be w st c own - q_ru w be st c own) else if k = 5 then max (st 5 c) (q_ca w st c own) else if k = 6 then st 6 c + q_we w st c own else st k c)
  else if be c = some j then (if k = 1 then st 1 j + q_ru w be st c own else if k = 2 then st 2 j + q_ca w st c own else st k j)
  else st k j
def q_mn (w : Ms) (be : Nat → Option Nat) (own : Nat → Nat) (st : Ms) : Nat → Ms × Nat
  | 0 => (st, 0)
  | c + 1 => (q_st w be (q_mn w be own st c).1 c (own c), (q_mn w be own st c).2 + q_ou w be (q_mn w be own st c).1 c (own c))
def q_rn (w : Ms) (be : Nat → Option Nat) (own : Nat → Nat → Nat) (n : Nat) : Nat → Ms × Nat × Nat
  | 0 => (fun _ _ => 0, 0, 0)
  | m + 1 => ((q_mn w be (own m) (q_rn w be own n m).1 n).1, (q_rn w be own n m).2.1 + (q_mn w be (own m) (q_rn w be own n m).1 n).2, max (q_rn w be own n m).2.2 (q_mn w be (own m) (q_rn w be own n m).1 n).2)
/-- the world's bounds -/
def Wb (w : Ms) (be : Nat → Option Nat) (own : Nat → Nat → Nat) (n : Nat) : Prop := n ≤ 12 ∧ (∀ c, c < n → w 0 c ≤ 500 ∧ w 1 c ≤ 500 ∧ w 2 c ≤ 500 ∧ w 3 c ≤ 10 ∧ w 4 c ≤ 100 ∧ ∀ b, be c = some b → c < b ∧ b < n) ∧ ∀ m c, c < n → own m c ≤ 80000
/-- where the storm stands: behind m minutes and, in the next, behind c corners -/
def Wi (w st : Ms) (n m c : Nat) : Prop := (∀ j, j < n → st 0 j ≤ w 2 j) ∧ su (fun j => st 1 j + st 2 j) 12 ≤ c * 80000 ∧ (∀ j, j < c → st 1 j = 0 ∧ st 2 j = 0) ∧ (∀ j, n ≤ j → st 1 j = 0 ∧ st 2 j = 0) ∧ ∀ j, st 3 j ≤ (m + if j < c then 1 else 0) * 100 ∧ st 4 j ≤ (m + if j < c then 1 else 0) * 960000 ∧ st 5 j ≤ 500 ∧ st 6 j ≤ m + if j < c then 1 else 0
theorem wi_in {w st : Ms} {be : Nat → Option Nat} {own : Nat → Nat → Nat} {n m c mm : Nat} (hw : Wb w be own n) (h : Wi w st n m c) (hc : c < n) : own mm c + st 1 c + st 2 c ≤ 960000 ∧ st 1 c ≤ 880000 ∧ st 2 c ≤ 880000 := by
  have h1 := hw.2.2 mm c hc
  have h2 := h.2.1
  have h3 := su_mem (f := fun j => st 1 j + st 2 j) (i := c) (n := 12) (by have := hw.1; omega)
  have h4 := hw.1
  have h5 : c * 80000 ≤ 11 * 80000 := Nat.mul_le_mul_right _ (by omega)
  have h3 : st 1 c + st 2 c ≤ su (fun j => st 1 j + st 2 j) 12 := h3
  omega
theorem q_tk_le {w st : Ms} {c own : Nat} (h3 : w 3 c ≤ 10) : q_tk w st c own ≤ own + st 1 c := by
  unfold q_tk
  refine Nat.le_trans (Nat.min_le_left _ _) ?_
  have : (own + st 1 c) * w 3 c ≤ (own + st 1 c) * 10 := Nat.mul_le_mul_left _ h3
  omega
theorem wi_step {w st : Ms} {be : Nat → Option Nat} {own : Nat → Nat → Nat} {n m c mm : Nat} (hw : Wb w be own n) (h : Wi w st n m c) (hc : c < n) : Wi w (q_st w be st c (own mm c)) n m (c + 1) ∧ q_ou w be st c (own mm c) ≤ 500 := by
  have hin := wi_in (mm := mm) hw h hc
  obtain ⟨w1, w2, w3⟩ := hw
  obtain ⟨p0, p1, p2, p3, p4, pb⟩ := w2 c hc
  have ho := w3 mm c hc
  obtain ⟨a1, a2, a3, a4, a5⟩ := h
  have htk := q_tk_le (st := st) (own := own mm c) p3
  have htk2 : q_tk w st c (own mm c) ≤ w 2 c - st 0 c := Nat.min_le_right _ _
  have hsn : q_sn w st c (own mm c) ≤ st 0 c + q_tk w st c (own mm c) := Nat.min_le_left _ _
  have hsn2 : q_sn w st c (own mm c) ≤ w 4 c := Nat.min_le_right _ _
  have hca : q_ca w st c (own mm c) ≤ q_in w st c (own mm c) := Nat.min_le_left _ _
  have hca2 : q_ca w st c (own mm c) ≤ w 0 c := Nat.min_le_right _ _
  have hbe : q_be w st c (own mm c) = q_in w st c (own mm c) - q_ca w st c (own mm c) := rfl
  have hii : q_in w st c (own mm c) = own mm c + st 1 c - q_tk w st c (own mm c) + st 2 c := rfl
  have hru : q_ru w be st c (own mm c) ≤ q_be w st c (own mm c) := by
    unfold q_ru; split <;> omega
  have hwe : q_we w st c (own mm c) ≤ 1 := by unfold q_we; split <;> omega
  generalize own mm c = x at *
  have b0 := a1 c hc
  refine ⟨⟨fun j hj => ?_, ?_, fun j hj => ?_, fun j hj => ?_, fun j => ?_⟩, ?_⟩
  · unfold q_st
    by_cases e : j = c
    · subst e; simp only [if_true]; omega
    · simp only [e, if_false]
      split
      · simp only [Nat.reduceEqDiff, if_false]; exact a1 j hj
      · exact a1 j hj
  · -- what is under way
    have key : su (fun j => q_st w be st c x 1 j + q_st w be st c x 2 j) 12 ≤ su (fun j => st 1 j + st 2 j) 12 + x := by
      have hcl : c < 12 := by omega
      cases hb : be c with
      | none =>
        have u := su_upd (f := fun j => st 1 j + st 2 j) (g := fun j => q_st w be st c x 1 j + q_st w be st c x 2 j) (a := c) (fun j hj => by
          unfold q_st; simp [hj, hb]) hcl
        have z : q_st w be st c x 1 c + q_st w be st c x 2 c = 0 := by unfold q_st; simp
        have u : su (fun j => q_st w be st c x 1 j + q_st w be st c x 2 j) 12 + (st 1 c + st 2 c) = su (fun j => st 1 j + st 2 j) 12 + (q_st w be st c x 1 c + q_st w be st c x 2 c) := u
        omega
      | some b =>
        obtain ⟨b1, b2⟩ := pb b hb
        have hne : ¬ b = c := by omega
        have u := su_upd (f := fun j => st 1 j + st 2 j) (g := fun j => if j = c then 0 else st 1 j + st 2 j) (a := c) (fun j hj => by simp [hj]) hcl
        have v := su_upd (f := fun j => if j = c then 0 else st 1 j + st 2 j) (g := fun j => q_st w be st c x 1 j + q_st w be st c x 2 j) (a := b) (fun j hj => by
          unfold q_st
          by_cases e : j = c
          · simp [e]
          · have : ¬ be c = some j := by rw [hb]; intro q; cases q; exact hj rfl
            simp [e, this]) (show b < 12 by omega)
        have z : q_st w be st c x 1 b + q_st w be st c x 2 b = st 1 b + q_ru w be st c x + (st 2 b + q_ca w st c x) := by unfold q_st; simp [hne, hb]
        have zr : q_ru w be st c x = q_be w st c x / 2 := by unfold q_ru; simp [hb]
        simp only [hne, if_true, if_false] at u v
        omega
    have hm : (c + 1) * 80000 = c * 80000 + 80000 := by omega
    omega
  · unfold q_st
    by_cases e : j = c
    · subst e; simp
    · have hb : ¬ be c = some j := fun q => by have := pb j q; omega
      simp only [e, hb, if_false]
      exact a3 j (by omega)
  · unfold q_st
    have e : ¬ j = c := by omega
    have hb : ¬ be c = some j := fun q => by have := pb j q; omega
    simp only [e, hb, if_false]
    exact a4 j hj
  · have a5j := a5 j
    unfold q_st
    by_cases e : j = c
    · subst e
      simp only [if_true, Nat.reduceEqDiff, if_false, Nat.lt_irrefl, Nat.lt_succ_self] at a5j ⊢
      refine ⟨by omega, by omega, by omega, by omega⟩
    · have hl : (j < c + 1) = (j < c) := by apply propext; omega
      simp only [e, if_false, hl]
      split
      · simp only [Nat.reduceEqDiff, if_false]; exact a5j
      · exact a5j
  · unfold q_ou
    split <;> omega
theorem wi_zero {w st : Ms} {n m : Nat} (h : Wi w st n m n) : Wi w st n (m + 1) 0 ∧ ∀ j, st 1 j = 0 ∧ st 2 j = 0 := by
  obtain ⟨a1, a2, a3, a4, a5⟩ := h
  have z : ∀ j, st 1 j = 0 ∧ st 2 j = 0 := fun j => by
    rcases Nat.lt_or_ge j n with c | c
    · exact a3 j c
    · exact a4 j c
  refine ⟨⟨a1, ?_, fun j hj => by omega, a4, fun j => ?_⟩, z⟩
  · rw [su_congr (g := fun _ => 0) (fun j _ => by rw [(z j).1, (z j).2])]
    have := su_le (f := fun _ => 0) (b := 0) (n := 12) (fun _ _ => Nat.le_refl _)
    omega
  · have := a5 j
    simp only [Nat.not_lt_zero, if_false]
    split at this <;> omega
theorem wi_start {w : Ms} {n : Nat} : Wi w (fun _ _ => 0) n 0 0 := by
  refine ⟨fun j _ => Nat.zero_le _, ?_, fun j hj => by omega, fun j _ => ⟨rfl, rfl⟩, fun j => by simp⟩
  have := su_le (f := fun _ => 0) (b := 0) (n := 12) (fun _ _ => Nat.le_refl _)
  show su (fun _ => 0 + 0) 12 ≤ _
  omega
theorem q_mn_wi {w st : Ms} {be : Nat → Option Nat} {own : Nat → Nat → Nat} {n m mm : Nat} (hw : Wb w be own n) (h : Wi w st n m 0) : ∀ {c : Nat}, c ≤ n → Wi w (q_mn w be (own mm) st c).1 n m c ∧ (q_mn w be (own mm) st c).2 ≤ c * 500
  | 0, _ => ⟨h, Nat.zero_le _⟩
  | c + 1, hc => by
    obtain ⟨i1, i2⟩ := q_mn_wi (mm := mm) hw h (c := c) (by omega)
    obtain ⟨s1, s2⟩ := wi_step (mm := mm) hw i1 (by omega)
    exact ⟨s1, by show _ + _ ≤ _; omega⟩
theorem q_rn_wi {w : Ms} {be : Nat → Option Nat} {own : Nat → Nat → Nat} {n : Nat} (hw : Wb w be own n) : ∀ m, Wi w (q_rn w be own n m).1 n m 0 ∧ (∀ j, (q_rn w be own n m).1 1 j = 0 ∧ (q_rn w be own n m).1 2 j = 0) ∧ (q_rn w be own n m).2.1 ≤ m * 6000 ∧ (q_rn w be own n m).2.2 ≤ 6000
  | 0 => ⟨wi_start, fun j => ⟨rfl, rfl⟩, Nat.zero_le _, Nat.zero_le _⟩
  | m + 1 => by
    obtain ⟨i1, i2, i3, i4⟩ := q_rn_wi hw m
    obtain ⟨s1, s2⟩ := q_mn_wi (mm := m) hw i1 (Nat.le_refl n)
    obtain ⟨t1, t2⟩ := wi_zero s1
    have hn : n * 500 ≤ 12 * 500 := Nat.mul_le_mul_right _ hw.1
    refine ⟨t1, t2, ?_, ?_⟩
    · show _ + _ ≤ _; omega
    · show max _ _ ≤ _; omega
