section X6
variable {g : Gx} {cc : ByteArray} {own : String} {pc : Nat} {lv : List (Nat × Value)} {rest st : List Value} {σ σ1 : Sg} {b bc : Nat × Nat} {idx c n a q κ κ2 N w : Nat} {x : Option Nat} {rm : Room}
/-- src's first n places copied into dst -/
def cpR (σ : Sg) (src dst n : Nat) : Sg := (σ.1, σ.2.1, σ.2.2.1, σ.2.2.2.1, va_up σ.2.2.2.2 dst (va_cpy (σ.2.2.2.2 src) (σ.2.2.2.2 dst) 0 0 n))
theorem sR_cpR (σ : Sg) (src dst n b j : Nat) : sR (cpR σ src dst n) b j = if b = dst ∧ j < n then sR σ src j else sR σ b j := by
  by_cases h : b = dst
  · subst h
    by_cases h2 : j < n
    · simp [sR, cpR, va_up, h2, va_cpy]
    · simp [sR, cpR, va_up, h2, va_cpy]
  · simp [sR, cpR, va_up, h]
theorem x_getC (hg : GoodG g cc own) (hl : Cond.methodLink own idx ⟨"java/lang/Object", "getClass", "()Ljava/lang/Class;"⟩ ∈ AW) (h2 : Cond.selects "[Ljava/lang/Object;" ⟨"java/lang/Object", "getClass", "()Ljava/lang/Class;"⟩ ⟨"java/lang/Object", "getClass", "()Ljava/lang/Class;"⟩ ∈ AW) (h3 : Cond.instanceMethod ⟨"java/lang/Object", "getClass", "()Ljava/lang/Class;"⟩ ∈ AW) (h4 : Cond.native ⟨"java/lang/Object", "getClass", "()Ljava/lang/Class;"⟩ ∈ AW) (hx : x = some a) (hk : sK σ a % 32 = 20) (hW : (rest.map fun v => v.category).sum ≤ 8) (hrm : gR g = rm) (hRm : 1 ≤ rm.frames ∧ 30 ≤ rm.locals) (d : decode cc pc = .ok (.invokevirtual idx, 3)) (kk : XJ g (pc + 3) lv (va_rf (some ((gD g).2.2 3)) :: rest) σ b) : XJ g pc lv (va_rf x :: rest) σ b := by
  obtain ⟨⟨p, l, e, R, s, m, args, below, meth, c0⟩, Q, D, A, mc, ms, nL⟩ := g
  intro H locs cells slots ls hR hS hA hc hs hl2
  subst hx
  obtain ⟨he, hb, hml, hown, hts, hWT, hWH, hA1, hA2, hmc, hms, hlk⟩ := hg
  have hRm : 1 ≤ R.frames ∧ 30 ≤ R.locals := by rw [show R = rm from hrm]; exact hRm
  have h5 := (hR.1 a).2.1 (by omega) (by omega)
  rw [hk] at h5
  exact va_getC he hb (hml.trans hl2.1.symm) hown (hts _ hl) (va_Dc.use hWT.2.2.2.2.2.2.2.1) (hts _ h2) (hts _ h3) (hts _ h4) hWT.2.2.2.2.2.2.1 ⟨_, h5, rfl, va_nmO (ty_of hWT.1 (c := 20) (by decide) (by decide)).2 rfl⟩ hRm.1 (by omega) d (kk H locs cells slots ls hR hS hA hc hs hl2)
theorem x_ldcM (hg : GoodG g cc own) (hl : Cond.classLink own idx "[Ljava/lang/Object;" ∈ AW) (d : decode cc pc = .ok (.ldc idx, 2)) (kk : XJ g (pc + 2) lv (va_rf (some ((gD g).2.2 3)) :: rest) σ b) : XJ g pc lv rest σ b := by
  obtain ⟨⟨p, l, e, R, s, m, args, below, meth, c0⟩, Q, D, A, mc, ms, nL⟩ := g
  intro H locs cells slots ls hR hS hA hc hs hl2
  obtain ⟨he, hb, hml, hown, hts, hWT, hWH, hA1, hA2, hmc, hms, hlk⟩ := hg
  exact va_ldcM he hb hown (hts _ hl) hWT.2.2.2.2.2.2.1 d (kk H locs cells slots ls hR hS hA hc hs hl2)
theorem x_copyq (hg : GoodG g cc own) {src dst : Nat} {n : Int32} (hl : Cond.methodLink own idx arraycopyName ∈ AW) (h2 : Cond.native arraycopyName ∈ AW) (h3 : Cond.static arraycopyName ∈ AW) (h4 : Cond.initialized "java/lang/System" ∈ AW) (hk1 : sK σ src % 32 = 20) (hk2 : sK σ dst % 32 = 20) (hn : ¬ n < 0) (hn1 : n.toNatClampNeg ≤ sN σ src) (hn2 : n.toNatClampNeg ≤ sN σ dst) (hel : ∀ i, i < n.toNatClampNeg → ∀ y, sR σ src i = some y → 1 ≤ sK σ y % 32 ∧ sK σ y % 32 ≤ 13) (hW : (rest.map fun v => v.category).sum ≤ 8) (hrm : gR g = rm) (hRm : 1 ≤ rm.frames ∧ 40 ≤ rm.locals) (d : decode cc pc = .ok (.invokestatic idx, 3)) (kk : XJ g (pc + 3) lv rest (cpR σ src dst n.toNatClampNeg) b) : XJ g pc lv (.int n :: .int 0 :: va_rf (some dst) :: .int 0 :: va_rf (some src) :: rest) σ b := by
  obtain ⟨⟨p, l, e, R, s, m, args, below, meth, c0⟩, Q, D, A, mc, ms, nL⟩ := g
  intro H locs cells slots ls hR hS hA hc hs hl2
  obtain ⟨he, hb, hml, hown, hts, hWT, hWH, hA1, hA2, hmc, hms, hlk⟩ := hg
  have hRm : 1 ≤ R.frames ∧ 40 ≤ R.locals := by rw [show R = rm from hrm]; exact hRm
  have hc0 := (hR.1 src).2.1 (by omega) (by omega)
  have hc1 := (hR.1 dst).2.1 (by omega) (by omega)
  rw [hk1] at hc0
  rw [hk2] at hc1
  have hT20 := ty_of hWT.1 (c := 20) (by decide) (by decide)
  have hc0 : H[src]? = some (arrV (D.2.1 20) (sN σ src) (fun j => va_rf (sR σ src j))) := hc0
  have hc1 : H[dst]? = some (arrV (D.2.1 20) (sN σ dst) (fun j => va_rf (sR σ dst j))) := hc1
  have nn : ∀ z : Int32, ¬ z < 0 → z.toInt = (z.toNatClampNeg : Int) := by
    intro z hz
    have hz0 : (0 : Int) ≤ z.toInt := by
      have := Int32.not_lt.mp hz
      simpa using Int32.le_iff_toInt_le.mp this
    show z.toInt = ((z.toInt.toNat : Nat) : Int)
    omega
  have z0 : ((0 : Int32).toInt) = 0 := by decide
  have zc : ((0 : Int32).toNatClampNeg) = 0 := by decide
  intro T hT X
  obtain ⟨-, k0, hkk0, cm0, hkk1⟩ := hT20.1 (sN σ src) (fun j => va_rf (sR σ src j))
  obtain ⟨vm', X', step⟩ := X.arraycopy he hown (hts _ hl) (hts _ h2) (hts _ h3) (hts _ h4) (src := src) (dst := dst) (cs := arrV (D.2.1 20) (sN σ src) (fun j => va_rf (sR σ src j))) (cd := arrV (D.2.1 20) (sN σ dst) (fun j => va_rf (sR σ dst j))) (srcPos := 0) (destPos := 0) (n := n) (by rw [hT]; exact hc0) (by rw [hT]; exact hc1)
    (fun _ h => by cases h) (fun _ h => by cases h) (fun h => by cases h) (fun h => by cases h) hkk0 hkk0 hkk1 hkk1 rfl (by decide) (by decide) hn
    (by rw [nn n hn, z0, arrV_size]; omega)
    (by rw [nn n hn, z0, arrV_size]; omega)
    (fun vm₁ hal i hi => by
      rw [zc]
      have e : (arrV (D.2.1 20) (sN σ src) (fun j => va_rf (sR σ src j))).slots.getD (0 + i) .null = va_rf (sR σ src i) := by
        rw [Nat.zero_add, Array.getD_eq_getD_getElem?, arrV_read _ _ (by omega)]
        rfl
      rw [e]
      cases hy : sR σ src i with
      | none => exact ⟨rfl, trivial⟩
      | some y =>
        obtain ⟨cellV, g1, g2, ⟨kC, hkC⟩, hasg⟩ := rep_any hR hWT (hel i hi y hy).1 (hel i hi y hy).2
        obtain ⟨kA, comp, r1, r2, r3, -⟩ := hT20.2
        cases hkk0.symm.trans r1
        cases hkk1.symm.trans r2
        obtain ⟨kE, hkE, -⟩ := Vm.findClass_spec r3
        obtain ⟨kC', hkC', -⟩ := hal.2.2 _ _ hkC
        obtain ⟨kE', hkE', -⟩ := hal.2.2 _ _ hkE
        refine ⟨rfl, cellV, (show T.heap[y]? = some cellV by rw [hT]; exact g1), (fun q h => by rw [h] at g2; cases g2), ⟨kC', hkC'⟩, ?_, ?_⟩
        · exact ⟨kE', hkE'⟩
        · show vm₁.assignable _ _ = true
          rw [hal.assignable]
          exact hasg _ r3)
    (g := F0 m pc ls (.int n :: .int 0 :: va_rf (some dst) :: .int 0 :: va_rf (some src) :: rest)) rfl (hl2.1.trans hml.symm) (rest := rest) rfl (by rw [hb]; exact d) hRm.1 (by show 2 * 0 + _ + _ ≤ _; have hw : nativeFrameWords "java/lang/System" "arraycopy" 5 ≤ 8 := (by decide); omega)
  have e1 : copied (arrV (D.2.1 20) (sN σ src) (fun j => va_rf (sR σ src j))) (arrV (D.2.1 20) (sN σ dst) (fun j => va_rf (sR σ dst j))) 0 0 n = arrV (D.2.1 20) (sN σ dst) (fun j => va_rf (va_cpy (sR σ src) (sR σ dst) 0 0 n.toNatClampNeg j)) := by
    have e0 : copied (arrV (D.2.1 20) (sN σ src) (fun j => va_rf (sR σ src j))) (arrV (D.2.1 20) (sN σ dst) (fun j => va_rf (sR σ dst j))) 0 0 n = arrV (D.2.1 20) (sN σ dst) (fun j => va_rf (va_cpy (sR σ src) (sR σ dst) (0 : Int32).toNatClampNeg (0 : Int32).toNatClampNeg n.toNatClampNeg j)) := va_copied (fun z => va_rf z) _ _ _ _ (by rw [zc]; omega)
    rw [zc] at e0
    exact e0
  rw [e1] at X' step
  have hl : dst < H.size := (Array.getElem?_eq_some_iff.mp hc1).1
  have hheap : ((T.setVm vm').setCell dst (arrV (D.2.1 20) (sN σ dst) (fun j => va_rf (va_cpy (sR σ src) (sR σ dst) 0 0 n.toNatClampNeg j)))).heap = H.setIfInBounds dst (arrV (D.2.1 20) (sN σ dst) (fun j => va_rf (va_cpy (sR σ src) (sR σ dst) 0 0 n.toNatClampNeg j))) := by rw [← hT]; rfl
  have oq : ∀ q : Nat, q ≠ dst → (H.setIfInBounds dst (arrV (D.2.1 20) (sN σ dst) (fun j => va_rf (va_cpy (sR σ src) (sR σ dst) 0 0 n.toNatClampNeg j))))[q]? = H[q]? := fun q hq => by simp [Array.getElem?_setIfInBounds, Ne.symm hq]
  have hwd : wr (sK σ dst) := Or.inr (by omega)
  have hR' : Rep D s (cpR σ src dst n.toNatClampNeg) (H.setIfInBounds dst (arrV (D.2.1 20) (sN σ dst) (fun j => va_rf (va_cpy (sR σ src) (sR σ dst) 0 0 n.toNatClampNeg j)))) := by
    refine rep_put (σ' := cpR σ src dst n.toNatClampNeg) hR hwd (by simp) oq rfl rfl (fun q hq => ⟨rfl, rfl, by funext j; rw [sR_cpR, if_neg (fun z => hq z.1)]⟩) ?_
    have hk' : sK (cpR σ src dst n.toNatClampNeg) dst % 32 = 20 := hk2
    refine ⟨fun z => by omega, fun _ _ => ?_, fun z => by omega, fun z => by omega⟩
    rw [hk']
    show (H.setIfInBounds dst _)[dst]? = some _
    rw [Array.getElem?_setIfInBounds, if_pos rfl, if_pos hl]
    congr 2
    funext j
    show va_rf _ = va_rf (sR (cpR σ src dst n.toNatClampNeg) dst j)
    congr 1
    simp [sR, cpR, va_up]
  obtain ⟨t, a1, b1⟩ := kk _ (locs ++ _) cells slots ls hR' ⟨by simp; exact hS.1, fun q g1 g2 => by
      rw [oq q (fun e => g2 (by rw [e]; exact hA dst hwd))]
      exact hS.2.1 q g1 g2, fun q hq => by
      rcases List.mem_append.mp hq with h | h
      · exact hS.2.2 q h
      · obtain ⟨z, -, hz⟩ := List.mem_map.mp h
        rw [← hz]
        exact hA dst hwd⟩ hA hc hs hl2 _ hheap X'
  exact ⟨t, step t a1, b1⟩
end X6
theorem cat8 {l : List Value} (h : l.length ≤ 4) : (l.map fun v => v.category).sum ≤ 8 := by
  have h1 : ∀ l : List Value, (l.map fun v => v.category).sum ≤ 2 * l.length := by
    intro l
    induction l with
    | nil => exact Nat.le_refl _
    | cons v l ih =>
      have : v.category ≤ 2 := by cases v <;> exact Nat.le_of_ble_eq_true rfl
      simp only [List.map_cons, List.sum_cons, List.length_cons]
      omega
  have := h1 l
  omega
theorem aw_mini : Cond.initialized "java/lang/Math" ∈ AW := aw_of (List.mem_of_getElem? (i := 79) (by decide +kernel)) (by decide +kernel)
section X7
variable {g : Gx} {cc : ByteArray} {own : String} {pc : Nat} {lv : List (Nat × Value)} {rest st : List Value} {σ : Sg} {b : Nat × Nat} {idx : Nat} {rm : Room}
theorem aw_mmax_s : Cond.static Lib.Math.max.name ∈ AW := aw_of (List.mem_of_getElem? (i := 271) (by decide +kernel)) (by decide +kernel)
theorem aw_mmax_c : Cond.code Lib.Math.max.name Lib.Math.max.code 2 (some .int) ∈ AW := aw_of (List.mem_of_getElem? (i := 272) (by decide +kernel)) (by decide +kernel)
theorem x_mmax (hg : GoodG g cc own) {x y : Int32} (hl : Cond.methodLink own idx Lib.Math.max.name ∈ AW) (hW : (rest.map fun v => v.category).sum ≤ 8) (hrm : gR g = rm) (hRm : 1 ≤ rm.frames ∧ 30 ≤ rm.locals) (d : decode cc pc = .ok (.invokestatic idx, 3)) (kk : XJ g (pc + 3) lv (.int (if x < y then y else x) :: rest) σ b) : XJ g pc lv (.int y :: .int x :: rest) σ b := by
  obtain ⟨⟨p, l, e, R, s, m, args, below, meth, c0⟩, Q, D, A, mc, ms, nL⟩ := g
  intro H locs cells slots ls hR hS hA hc hs hl2
  obtain ⟨he, hb, hml, hown, hts, hWT, hWH, hA1, hA2, hmc, hms, hlk⟩ := hg
  have hRm : 1 ≤ R.frames ∧ 30 ≤ R.locals := by rw [show R = rm from hrm]; exact hRm
  exact va_mmax he hb (hml.trans hl2.1.symm) hown (hts _ hl) (hts _ aw_mmax_s) (hts _ aw_mini) (hts _ aw_mmax_c) hRm.1 (by omega) (by omega) (by omega) d (kk H locs cells slots ls hR hS hA hc hs hl2)
theorem aw_mmin_s : Cond.static Lib.Math.min.name ∈ AW := aw_of (List.mem_of_getElem? (i := 304) (by decide +kernel)) (by decide +kernel)
theorem aw_mmin_c : Cond.code Lib.Math.min.name Lib.Math.min.code 2 (some .int) ∈ AW := aw_of (List.mem_of_getElem? (i := 305) (by decide +kernel)) (by decide +kernel)
theorem x_mmin (hg : GoodG g cc own) {x y : Int32} (hl : Cond.methodLink own idx Lib.Math.min.name ∈ AW) (hW : (rest.map fun v => v.category).sum ≤ 8) (hrm : gR g = rm) (hRm : 1 ≤ rm.frames ∧ 30 ≤ rm.locals) (d : decode cc pc = .ok (.invokestatic idx, 3)) (kk : XJ g (pc + 3) lv (.int (if y < x then y else x) :: rest) σ b) : XJ g pc lv (.int y :: .int x :: rest) σ b := by
  obtain ⟨⟨p, l, e, R, s, m, args, below, meth, c0⟩, Q, D, A, mc, ms, nL⟩ := g
  intro H locs cells slots ls hR hS hA hc hs hl2
  obtain ⟨he, hb, hml, hown, hts, hWT, hWH, hA1, hA2, hmc, hms, hlk⟩ := hg
  have hRm : 1 ≤ R.frames ∧ 30 ≤ R.locals := by rw [show R = rm from hrm]; exact hRm
  exact va_mmin he hb (hml.trans hl2.1.symm) hown (hts _ hl) (hts _ aw_mmin_s) (hts _ aw_mini) (hts _ aw_mmin_c) hRm.1 (by omega) (by omega) (by omega) d (kk H locs cells slots ls hR hS hA hc hs hl2)
theorem aw_mmaxL_s : Cond.static Lib.MathLoose.max_long.x ∈ AW := aw_of (List.mem_of_getElem? (i := 1564) (by decide +kernel)) (by decide +kernel)
theorem aw_mmaxL_c : Cond.code Lib.MathLoose.max_long.x Lib.MathLoose.max_long.code 4 (some .long) ∈ AW := aw_of (List.mem_of_getElem? (i := 1565) (by decide +kernel)) (by decide +kernel)
theorem x_mmaxL (hg : GoodG g cc own) {x y : Int64} (hl : Cond.methodLink own idx Lib.MathLoose.max_long.x ∈ AW) (hW : (rest.map fun v => v.category).sum ≤ 8) (hrm : gR g = rm) (hRm : 1 ≤ rm.frames ∧ 30 ≤ rm.locals) (d : decode cc pc = .ok (.invokestatic idx, 3)) (kk : XJ g (pc + 3) lv (.long (if y < x then x else y) :: rest) σ b) : XJ g pc lv (.long y :: .long x :: rest) σ b := by
  obtain ⟨⟨p, l, e, R, s, m, args, below, meth, c0⟩, Q, D, A, mc, ms, nL⟩ := g
  intro H locs cells slots ls hR hS hA hc hs hl2
  obtain ⟨he, hb, hml, hown, hts, hWT, hWH, hA1, hA2, hmc, hms, hlk⟩ := hg
  have hRm : 1 ≤ R.frames ∧ 30 ≤ R.locals := by rw [show R = rm from hrm]; exact hRm
  exact va_mmax_long he hb (hml.trans hl2.1.symm) hown (hts _ hl) (hts _ aw_mmaxL_s) (hts _ aw_mini) (hts _ aw_mmaxL_c) hRm.1 (by omega) (by omega) (by omega) d (kk H locs cells slots ls hR hS hA hc hs hl2)
theorem aw_mminL_s : Cond.static Lib.MathLoose.min_long.x ∈ AW := aw_of (List.mem_of_getElem? (i := 1560) (by decide +kernel)) (by decide +kernel)
theorem aw_mminL_c : Cond.code Lib.MathLoose.min_long.x Lib.MathLoose.min_long.code 4 (some .long) ∈ AW := aw_of (List.mem_of_getElem? (i := 1561) (by decide +kernel)) (by decide +kernel)
theorem x_mminL (hg : GoodG g cc own) {x y : Int64} (hl : Cond.methodLink own idx Lib.MathLoose.min_long.x ∈ AW) (hW : (rest.map fun v => v.category).sum ≤ 8) (hrm : gR g = rm) (hRm : 1 ≤ rm.frames ∧ 30 ≤ rm.locals) (d : decode cc pc = .ok (.invokestatic idx, 3)) (kk : XJ g (pc + 3) lv (.long (if y < x then y else x) :: rest) σ b) : XJ g pc lv (.long y :: .long x :: rest) σ b := by
  obtain ⟨⟨p, l, e, R, s, m, args, below, meth, c0⟩, Q, D, A, mc, ms, nL⟩ := g
  intro H locs cells slots ls hR hS hA hc hs hl2
  obtain ⟨he, hb, hml, hown, hts, hWT, hWH, hA1, hA2, hmc, hms, hlk⟩ := hg
  have hRm : 1 ≤ R.frames ∧ 30 ≤ R.locals := by rw [show R = rm from hrm]; exact hRm
  exact va_mmin_long he hb (hml.trans hl2.1.symm) hown (hts _ hl) (hts _ aw_mminL_s) (hts _ aw_mini) (hts _ aw_mminL_c) hRm.1 (by omega) (by omega) (by omega) d (kk H locs cells slots ls hR hS hA hc hs hl2)
theorem aw_mabsL_s : Cond.static Lib.MathLoose.abs_long.x ∈ AW := aw_of (List.mem_of_getElem? (i := 968) (by decide +kernel)) (by decide +kernel)
theorem aw_mabsL_c : Cond.code Lib.MathLoose.abs_long.x Lib.MathLoose.abs_long.code 2 (some .long) ∈ AW := aw_of (List.mem_of_getElem? (i := 969) (by decide +kernel)) (by decide +kernel)
theorem x_mabsL (hg : GoodG g cc own) {x : Int64} (hl : Cond.methodLink own idx Lib.MathLoose.abs_long.x ∈ AW) (hW : (rest.map fun v => v.category).sum ≤ 8) (hrm : gR g = rm) (hRm : 1 ≤ rm.frames ∧ 30 ≤ rm.locals) (d : decode cc pc = .ok (.invokestatic idx, 3)) (kk : XJ g (pc + 3) lv (.long (if 0 < x then x else -x) :: rest) σ b) : XJ g pc lv (.long x :: rest) σ b := by
  obtain ⟨⟨p, l, e, R, s, m, args, below, meth, c0⟩, Q, D, A, mc, ms, nL⟩ := g
  intro H locs cells slots ls hR hS hA hc hs hl2
  obtain ⟨he, hb, hml, hown, hts, hWT, hWH, hA1, hA2, hmc, hms, hlk⟩ := hg
  have hRm : 1 ≤ R.frames ∧ 30 ≤ R.locals := by rw [show R = rm from hrm]; exact hRm
  exact va_mabs_long he hb (hml.trans hl2.1.symm) hown (hts _ hl) (hts _ aw_mabsL_s) (hts _ aw_mini) (hts _ aw_mabsL_c) hRm.1 (by omega) (by omega) (by omega) d (kk H locs cells slots ls hR hS hA hc hs hl2)
end X7
