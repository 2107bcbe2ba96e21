/-! ===== a row of rows of ints; the copy of a row of objects ===== -/
/-- new int[10][10] at q: the rows stand behind it -/
def mnw (σ : Sg) (q κ κ2 : Nat) : Sg := (fun a => if a = q then κ else if q < a ∧ a ≤ q + 10 then κ2 else σ.1 a, fun a => if q ≤ a ∧ a ≤ q + 10 then 10 else σ.2.1 a, fun a => if q ≤ a ∧ a ≤ q + 10 then (fun _ => 0) else σ.2.2.1 a, fun a => if q ≤ a ∧ a ≤ q + 10 then (fun _ => 0) else σ.2.2.2.1 a, fun a => if a = q then (fun i => if i < 10 then some (q + 1 + i) else none) else if q < a ∧ a ≤ q + 10 then (fun _ => none) else σ.2.2.2.2 a)
theorem mnw_o (σ : Sg) (q κ κ2 : Nat) {a : Nat} (h : ¬ (q ≤ a ∧ a ≤ q + 10)) : sK (mnw σ q κ κ2) a = sK σ a ∧ sN (mnw σ q κ κ2) a = sN σ a ∧ sI (mnw σ q κ κ2) a = sI σ a ∧ sL (mnw σ q κ κ2) a = sL σ a ∧ sR (mnw σ q κ κ2) a = sR σ a := by
  have h1 : ¬ a = q := fun e => h ⟨by omega, by omega⟩
  have h2 : ¬ (q < a ∧ a ≤ q + 10) := fun e => h ⟨by omega, e.2⟩
  simp [sK, sN, sI, sL, sR, mnw, h, h1, h2]
theorem mnw_q (σ : Sg) (q κ κ2 : Nat) : sK (mnw σ q κ κ2) q = κ ∧ sN (mnw σ q κ κ2) q = 10 ∧ ∀ i, i < 10 → sR (mnw σ q κ κ2) q i = some (q + 1 + i) := by
  refine ⟨by simp [sK, mnw], by simp [sN, mnw], fun i hi => by simp [sR, mnw, hi]⟩
theorem mnw_r (σ : Sg) (q κ κ2 : Nat) {i : Nat} (hi : i < 10) : sK (mnw σ q κ κ2) (q + 1 + i) = κ2 ∧ sN (mnw σ q κ κ2) (q + 1 + i) = 10 ∧ ∀ j, sI (mnw σ q κ κ2) (q + 1 + i) j = 0 := by
  have h1 : ¬ (q + 1 + i = q) := by omega
  have h2 : q < q + 1 + i ∧ q + 1 + i ≤ q + 10 := by omega
  have h3 : q ≤ q + 1 + i ∧ q + 1 + i ≤ q + 10 := by omega
  refine ⟨by simp only [sK, mnw]; rw [if_neg h1, if_pos h2], by simp only [sN, mnw]; rw [if_pos h3], fun j => by simp only [sI, mnw]; rw [if_pos h3]⟩
theorem kmw {σ σ1 : Sg} {a c q κ κ2 : Nat} (e : σ1 = mnw σ q κ κ2) (hq : ∀ i, i ≤ 10 → sK σ (q + i) = 0) (hc : ¬ c = 0) (h : sK σ a % 32 = c) : sK σ1 a % 32 = c := by
  subst e
  rw [(mnw_o σ q κ κ2 (fun z => by
    have := hq (a - q) (by omega)
    rw [show q + (a - q) = a by omega] at this
    rw [this] at h
    omega)).1]
  exact h
theorem mn_outer (c : ClassId) (N h0 : Nat) : ∀ i : Nat, Jvm.Free.Multi.outerC c N h0 i = arrV c N (fun j => va_rf (if j < i then some (h0 + 1 + j) else none))
  | 0 => by
    show ({ cls := c, slots := Array.replicate N .null, vm := .none } : Cell) = _
    rw [arrV_new]
    refine congrArg (arrV c N) (funext fun j => ?_)
    simp [va_rf]
  | i + 1 => by
    show (Jvm.Free.Multi.outerC c N h0 i).setSlot i (.ref (h0 + 1 + i)) = _
    rw [mn_outer c N h0 i, arrV_store]
    refine congrArg (arrV c N) (funext fun j => ?_)
    by_cases e : j = i
    · subst e
      simp [updV, va_rf]
    · by_cases h : j < i
      · simp [updV, e, h, Nat.lt_succ_of_lt h]
      · simp [updV, e, h, show ¬ j < i + 1 by omega]
section X5
variable {g : Gx} {cc : ByteArray} {own : String} {pc : Nat} {lv : List (Nat × Value)} {rest st : List Value} {σ σ1 : Sg} {b bc : Nat × Nat} {idx c n a q κ κ2 N w : Nat} {x : Option Nat} {rm : Room}
theorem aw_mna : Cond.classLink RX10 61 "[[I" ∈ AW := aw_of (List.mem_of_getElem? (i := 342) (by decide +kernel)) (by decide +kernel)
theorem x_mna (hg : GoodG g cc RX10) (hκ : κ % 32 = 21) (hκ2 : κ2 % 32 = 16) (h1 : 11 ≤ b.1) (h2 : 110 ≤ b.2) (d : decode cc pc = .ok (.multianewarray 61 2, 4)) (kk : ∀ q, (∀ i, i ≤ 10 → sK σ (q + i) = 0) → XJ g (pc + 4) lv (va_rf (some q) :: rest) (mnw σ q κ κ2) (b.1 - 11, b.2 - 110)) : XJ g pc lv (.int 10 :: .int 10 :: rest) σ b := by
  obtain ⟨⟨p, l, e, R, s, m, args, below, meth, c0⟩, Q, D, A, mc, ms, nL⟩ := g
  intro H locs cells slots ls hR hS hA hc hs hl
  obtain ⟨he, hb, hml, hown, hts, hWT, hWH, hA1, hA2, hmc, hms, hlk⟩ := hg
  have hb0 : base D ≤ H.size := Nat.le_trans (hA2 _ (hA1 _ (Nat.le_refl _))) hS.1
  intro T hT Xs
  have e10 : (10 : Int32).toNatClampNeg = 10 := by decide
  obtain ⟨vm₁, cA, comp, -, fA, fC, hO, -, X', step⟩ := Xs.multianewarray2F (ty := .int) (n := 10) (k := 10) he hown (hts _ aw_mna) hWT.2.2.2.2.2.2.2.2 (hts _ aw_arrI) (g := F0 m pc ls (.int 10 :: .int 10 :: rest)) rfl (by rw [hb]; exact d) rfl (by decide) (by decide) (by decide) (by decide) (by decide) (by decide) (by decide) (by rw [e10]; omega) (by rw [e10]; omega)
  rw [e10] at X' step
  have hcA : cA = D.2.1 21 := Option.some.inj (fA.symm.trans (ty_of hWT.1 (c := 21) (by decide) (by decide)).2)
  have hcI : comp = D.2.1 16 := Option.some.inj (fC.symm.trans (ty_of hWT.1 (c := 16) (by decide) (by decide)).2)
  subst hcA hcI
  generalize hF : Jvm.Free.Multi.fill (T.setVm vm₁) (D.2.1 21) (D.2.1 16) 10 10 (defaultValue .int) 10 = F at X' step
  have hTh : (T.setVm vm₁).heap = H := hT
  obtain ⟨f1, f2, -, -⟩ := Jvm.Free.Multi.fill_facts (T.setVm vm₁) (D.2.1 21) (D.2.1 16) 10 10 (defaultValue .int) 10
  rw [hF, hTh] at f1 f2
  have hold : ∀ x : Nat, x < H.size → F.heap[x]? = H[x]? := fun x hx => by
    have := Jvm.Free.Multi.fill_old (T.setVm vm₁) (D.2.1 21) (D.2.1 16) 10 10 (defaultValue .int) (a := x) (by rw [hTh]; exact hx) 10
    rw [hF, hTh] at this
    exact this
  have hrow : ∀ j : Nat, j < 10 → F.heap[H.size + 1 + j]? = some (arrV (D.2.1 16) 10 (fun _ => .int 0)) := fun j hj => by
    have := Jvm.Free.Multi.fill_inner (T.setVm vm₁) (D.2.1 21) (D.2.1 16) 10 10 (defaultValue .int) 10 j hj
    rw [hF, hTh] at this
    rw [this]
    exact congrArg some (arrV_new _ _ _)
  have hout : F.heap[H.size]? = some (arrV (D.2.1 21) 10 (fun j => va_rf (if j < 10 then some (H.size + 1 + j) else none))) := by
    rw [f2]
    exact congrArg some (mn_outer (D.2.1 21) 10 H.size 10)
  have h0 : ∀ i, i ≤ 10 → sK σ (H.size + i) = 0 := fun i hi => by
    rcases Nat.eq_zero_or_pos (sK σ (H.size + i)) with z | z
    · exact z
    · exact absurd (hR.2.2.1 (H.size + i) (by omega)) (by omega)
  have hne : ∀ a, ¬ sK σ a = 0 → ¬ (H.size ≤ a ∧ a ≤ H.size + 10) := fun a ha z => ha (by
    have := h0 (a - H.size) (by omega)
    rwa [show H.size + (a - H.size) = a by omega] at this)
  have hn1 : ¬ (H.size ≤ D.2.2 1 ∧ D.2.2 1 ≤ H.size + 10) := hne _ (by rw [hR.2.2.2.2.1]; decide)
  have hn2 : ¬ (H.size ≤ D.2.2 2 ∧ D.2.2 2 ≤ H.size + 10) := hne _ (fun z => by have := (hR.2.2.2.1 (D.2.2 2)).mpr rfl; rw [z] at this; omega)
  have hR1 : Rep D s (mnw σ H.size κ κ2) F.heap := by
    refine ⟨fun q => ?_, fun q hq => ?_, fun q hq => ?_, fun q => ?_, ?_, ?_, fun j hj => ?_⟩
    · by_cases hq : H.size ≤ q ∧ q ≤ H.size + 10
      · by_cases hq2 : q = H.size
        · subst hq2
          obtain ⟨k1, k2, k3⟩ := mnw_q σ H.size κ κ2
          refine ⟨fun z => by rw [k1] at z; omega, fun _ _ => ?_, fun z => by rw [k1] at z; omega, fun z => by rw [k1] at z; omega⟩
          rw [k1, hκ]
          show F.heap[H.size]? = some _
          rw [hout, k2]
          congr 2
          funext j
          show va_rf _ = va_rf (sR (mnw σ H.size κ κ2) H.size j)
          congr 1
          simp [sR, mnw]
        · obtain ⟨i, hi, rfl⟩ : ∃ i, i < 10 ∧ q = H.size + 1 + i := ⟨q - H.size - 1, by omega, by omega⟩
          obtain ⟨k1, k2, k3⟩ := mnw_r σ H.size κ κ2 hi
          refine ⟨fun z => by rw [k1] at z; omega, fun _ _ => ?_, fun z => by rw [k1] at z; omega, fun z => by rw [k1] at z; omega⟩
          rw [k1, hκ2]
          show F.heap[H.size + 1 + i]? = some _
          rw [hrow i hi, k2]
          congr 2
          funext j
          show Value.int 0 = sV _ 0 _ _
          simp only [sV, if_pos]
          rw [k3]
      · obtain ⟨k1, k2, k3, k4, k5⟩ := mnw_o σ H.size κ κ2 hq
        refine rp.congr k1 k2 k3 k4 k5 ?_
        by_cases hl : q < H.size
        · exact (hR.1 q).kept (hold q hl)
        · have hz0 : sK σ q = 0 := by
            rcases Nat.eq_zero_or_pos (sK σ q) with z | z
            · exact z
            · exact absurd (hR.2.2.1 q (by omega)) hl
          exact ⟨fun z => by rw [hz0] at z; omega, fun z => by rw [hz0] at z; omega, fun z => by rw [hz0] at z; omega, fun z => by rw [hz0] at z; omega⟩
    · by_cases hz : H.size ≤ q ∧ q ≤ H.size + 10
      · omega
      · rw [(mnw_o σ H.size κ κ2 hz).1] at hq; exact hR.2.1 q hq
    · by_cases hz : H.size ≤ q ∧ q ≤ H.size + 10
      · rw [f1]; omega
      · rw [(mnw_o σ H.size κ κ2 hz).1] at hq; have := hR.2.2.1 q hq; rw [f1]; omega
    · by_cases hz : H.size ≤ q ∧ q ≤ H.size + 10
      · constructor
        · intro z
          exfalso
          by_cases hq2 : q = H.size
          · subst hq2; rw [(mnw_q σ H.size κ κ2).1] at z; omega
          · obtain ⟨i, hi, rfl⟩ : ∃ i, i < 10 ∧ q = H.size + 1 + i := ⟨q - H.size - 1, by omega, by omega⟩
            rw [(mnw_r σ H.size κ κ2 hi).1] at z; omega
        · intro z; rw [z] at hz; exact absurd hz hn2
      · rw [(mnw_o σ H.size κ κ2 hz).1]; exact hR.2.2.2.1 q
    · rw [(mnw_o σ H.size κ κ2 hn1).1]; exact hR.2.2.2.2.1
    · rw [(mnw_o σ H.size κ κ2 hn1).2.1]; exact hR.2.2.2.2.2.1
    · rw [(mnw_o σ H.size κ κ2 hn1).2.2.1]; exact hR.2.2.2.2.2.2 j hj
  obtain ⟨t, a1, b1⟩ := kk H.size h0 F.heap locs (cells + 1 + 10) (slots + 10 + 10 * 10) ls hR1 ⟨by rw [f1]; have := hS.1; omega, fun x h1 h2 => (hold x (Nat.lt_of_lt_of_le h1 hS.1)).trans (hS.2.1 x h1 h2), hS.2.2⟩ (fun q hq => by
    by_cases hz : H.size ≤ q ∧ q ≤ H.size + 10
    · exact hA1 _ (Nat.le_trans hS.1 hz.1)
    · rw [(mnw_o σ H.size κ κ2 hz).1] at hq; exact hA q hq) (by show cells + 1 + 10 + (b.1 - 11) ≤ mc; omega) (by show slots + 10 + 10 * 10 + (b.2 - 110) ≤ ms; omega) hl F rfl X'
  refine ⟨t, step t ?_, b1⟩
  have e : T.heap.size = H.size := by rw [hT]
  rw [e]
  exact a1
end X5
