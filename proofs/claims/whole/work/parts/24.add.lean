/-! ===== level 2: add to a list ===== -/
theorem nat32s (n : Nat) : Int32.ofNat n + 1 = Int32.ofNat (n + 1) := by
  rw [Int32.ofNat_add]; rfl
theorem shr1 : ∀ n, n < 1000 → (Int32.ofNat n) >>> ((1 : Int32) &&& 31) = Int32.ofNat (n / 2) := by decide +kernel
theorem add_fin {T : Sg} {h ro n e c : Nat} {el : Nat → Nat} (t1 : sK T h % 32 = 1) (t2 : sR T h 1 = some c) (t3 : sK T c = 20 + 32 * ro) (t4 : n < sN T c) (t5 : sN T c < 1000) (t6 : 10000 ≤ c) (t7 : ∀ i, i < n → sR T c i = some (el i)) : Lst (pI (pR T c n (some e)) h 2 (Int32.ofNat (n + 1))) h ro (fun i => if i = n then e else el i) (n + 1) := by
  have hc : ¬ h = c := fun q => by rw [q, t3] at t1; omega
  refine ⟨t1, by rw [sI_pI, if_pos ⟨rfl, rfl⟩], by omega, Or.inr ⟨c, ?_, t3, by show n + 1 ≤ sN T c; omega, t5, by show 1 ≤ sN T c; omega, t6, fun i hi => ?_⟩⟩
  · rw [sR_pI, sR_pR, if_neg (fun q => hc q.1)]; exact t2
  · rw [sR_pI, sR_pR]
    by_cases q : i = n
    · rw [if_pos ⟨rfl, q⟩]
      show some e = some (if i = n then e else el i)
      rw [if_pos q]
    · rw [if_neg (fun z => q z.2)]
      show sR T c i = some (if i = n then e else el i)
      rw [if_neg q]
      exact t7 i (by omega)
theorem p_B11 {T : Sg} {h n e c : Nat} {b : Nat × Nat} {Q : Unit → Sg → Prop} (t1 : sK T h % 32 = 1) (t3 : sK T c % 32 = 20) (t4 : n < sN T c) (t5 : sN T c < 1000) (he : 1 ≤ sK T e % 32 ∧ sK T e % 32 ≤ 13) (k : Q () (pI (pR T c n (some e)) h 2 (Int32.ofNat (n + 1)))) : P_Jx4a65c_add_72be8_B11 h (some e) (some c) (Int32.ofNat n) T b Q := by
  unfold P_Jx4a65c_add_72be8_B11
  refine ⟨c, rfl, t3, fun z => ?_, e, rfl, he.1, he.2, fun s1 e1 => ⟨by rw [e1]; exact t1, fun s2 e2 => ?_⟩⟩
  · rcases z with z | z
    · exact nat32_nn (by omega) z
    · rw [nat32c (by omega)] at z; omega
  · rw [e2, e1, nat32s, nat32c (by omega)]; exact k
/-- what a list's add leaves -/
def Added (S S' : Sg) (h ro N : Nat) : Prop := (∀ x, ¬ x = h → ¬ (10000 ≤ x ∧ sK S x = 20 + 32 * ro) → ¬ x = N → vw S' x = vw S x) ∧ (∀ x, N + 1 ≤ x → sK S' x = 0) ∧ (vw S' N = vw S N ∨ sK S' N = 20 + 32 * ro) ∧ ∀ x, ¬ x = N → sK S' x = sK S x
theorem p_add {S : Sg} {h ro n e N : Nat} {el : Nat → Nat} {b : Nat × Nat} {Q : Int32 → Sg → Prop} (hL : Lst S h ro el n) (hn : n < 100) (he : 1 ≤ sK S e % 32 ∧ sK S e % 32 ≤ 13) (hel : ∀ i, i < n → 1 ≤ sK S (el i) % 32 ∧ sK S (el i) % 32 ≤ 13) (hN : ∀ x, N ≤ x → sK S x = 0) (h1000 : 10000 ≤ N) (hb1 : 1 ≤ b.1) (hb2 : 2 * n + 10 ≤ b.2)
    (k : ∀ S', Lst S' h ro (fun i => if i = n then e else el i) (n + 1) → Added S S' h ro N → Q 1 S') : P_Jx4a65c_add_9ea2d h (some e) S b Q := by
  obtain ⟨a1, a2, a3, a4⟩ := hL
  have hNh : ¬ h = N := fun q => by rw [q, hN N (Nat.le_refl _)] at a1; omega
  have hNe : ¬ e = N := fun q => by rw [q, hN N (Nat.le_refl _)] at he; omega
  unfold P_Jx4a65c_add_9ea2d
  refine ⟨a1, fun S2 e2 => ⟨b, Nat.le_refl _, Nat.le_refl _, ?_⟩⟩
  have z1 : sK S2 = sK S := by rw [e2]; rfl
  have z2 : sN S2 = sN S := by rw [e2]; rfl
  have z3 : sR S2 = sR S := by rw [e2]; rfl
  have z4 : sI S2 h 2 = Int32.ofNat n := by rw [e2, sI_pI, if_neg (fun q => by omega)]; exact a2
  have z5 : ∀ x, ¬ x = h → vw S2 x = vw S x := fun x hx => by rw [e2]; exact vw_pI hx
  have z6 : ∀ x, N ≤ x → sK S2 x = 0 := fun x hx => by rw [z1]; exact hN x hx
  rw [z4, z3]
  unfold P_Jx4a65c_add_72be8
  have c0 : (0 : Int32) = Int32.ofNat 0 := rfl
  rcases a4 with ⟨g1, g2, g3⟩ | ⟨arr, g1, g2, g3, g4, g5, g6, g7⟩
  · -- empty: ten places are made
    subst g1
    rw [g2]
    have hN2 : ¬ (2 : Nat) = N := by omega
    refine ⟨2, rfl, 0, Or.inr ⟨by rw [z1, g3], rfl⟩, fun _ => ⟨by rw [z1]; exact a1, b, Nat.le_refl _, Nat.le_refl _, fun z hz => ?_, ?_⟩, fun q => absurd rfl q⟩
    · cases hz; rw [z1]; omega
    · unfold P_Jx4a65c_grow_d5877
      refine ⟨by rw [z1]; exact a1, b, Nat.le_refl _, Nat.le_refl _, ?_⟩
      unfold P_Jx4a65c_grow_92f84
      refine ⟨by rw [z1]; exact a1, 2, by rw [z3]; exact g2, 0, Or.inr ⟨by rw [z1, g3], rfl⟩, fun q => absurd q (by decide), fun _ => ⟨2, by rw [z3]; exact g2, by rw [z1, g3]; decide, fun _ x hx => ?_, fun q => absurd rfl q⟩⟩
      have hx : x = 10 := by rw [hx, z4]; decide
      subst hx
      have e10 : (10 : Int32).toNatClampNeg = 10 := by decide
      rw [e10]
      refine ⟨20 + 32 * ro, N, by omega, by decide, by decide, hb1, by omega, z6 N (Nat.le_refl _), by omega, fun T1 eT1 T2 eT2 => ?_⟩
      have y1 : sK T2 h = sK S h := by rw [eT2, sK_pR, eT1, sK_nw, if_neg hNh, z1]
      have y2 : sK T2 N = 20 + 32 * ro := by rw [eT2, sK_pR, eT1, sK_nw, if_pos rfl]
      have y3 : sN T2 N = 10 := by rw [eT2, sN_pR, eT1, sN_nw, if_pos rfl]
      have y4 : sR T2 h 1 = some N := by rw [eT2, sR_pR, if_pos ⟨rfl, rfl⟩]
      have y5 : sK T2 e = sK S e := by rw [eT2, sK_pR, eT1, sK_nw, if_neg hNe, z1]
      refine p_B11 (n := 0) (by rw [y1]; exact a1) (by rw [y2]; omega) (by rw [y3]; decide) (by rw [y3]; decide) (by rw [y5]; exact he) ?_
      refine k _ (add_fin (by rw [y1]; exact a1) y4 y2 (by rw [y3]; decide) (by rw [y3]; decide) h1000 (fun i hi => absurd hi (Nat.not_lt_zero i))) ⟨fun x x1 x2 x3 => ?_, fun x hx => ?_, Or.inr y2, fun x hx => ?_⟩
      · rw [vw_pI x1, vw_pR x3, eT2, vw_pR x1, eT1, vw_nw x3, z5 x x1]
      · rw [sK_pI, sK_pR, eT2, sK_pR, eT1, sK_nw, if_neg (by omega)]; exact z6 x (by omega)
      · rw [sK_pI, sK_pR, eT2, sK_pR, eT1, sK_nw, if_neg hx, z1]
  · rw [g1]
    have hNa : ¬ arr = N := fun q => by rw [q, hN N (Nat.le_refl _)] at g2; omega
    have hha : ¬ h = arr := fun q => by rw [q, g2] at a1; omega
    refine ⟨arr, rfl, nI (sN S2 arr), Or.inl ⟨by rw [z1, g2]; omega, rfl⟩, fun q => ?_, fun q => ?_⟩
    · -- full
      have hcap : sN S arr = n := by
        rw [z2] at q
        have := congrArg Int32.toInt q
        rw [nat32 (by omega), show (nI (sN S arr)).toInt = ((sN S arr : Nat) : Int) from nat32 (by omega)] at this
        omega
      refine ⟨by rw [z1]; exact a1, b, Nat.le_refl _, Nat.le_refl _, fun z hz => ?_, ?_⟩
      · cases hz; rw [z1]; omega
      · unfold P_Jx4a65c_grow_d5877
        refine ⟨by rw [z1]; exact a1, b, Nat.le_refl _, Nat.le_refl _, ?_⟩
        unfold P_Jx4a65c_grow_92f84
        rw [z4, nat32s]
        refine ⟨by rw [z1]; exact a1, arr, by rw [z3]; exact g1, nI (sN S2 arr), Or.inl ⟨by rw [z1, g2]; omega, rfl⟩, fun _ => ?_, fun q => ?_⟩
        · unfold P_Jx4a65c_grow_92f84_B20 P_J8_newLength_cabcc
          rw [z2, hcap]
          have hm : ∃ m : Nat, m ≤ 2 * n + 10 ∧ n < m ∧ Int32.ofNat n + (if Int32.ofNat (n + 1) - nI n < nI n >>> (1 &&& 31) then nI n >>> (1 &&& 31) else Int32.ofNat (n + 1) - nI n) = Int32.ofNat m := by
            have e1 : Int32.ofNat (n + 1) - nI n = Int32.ofNat 1 := by
              apply Int32.toInt_inj.mp
              rw [Int32.toInt_sub, nat32 (by omega), show (nI n).toInt = (n : Int) from nat32 (by omega), nat32 (by omega), Int.bmod_eq_of_le] <;> omega
            rw [e1, show nI n >>> (1 &&& 31) = Int32.ofNat (n / 2) from shr1 n (by omega)]
            by_cases c : Int32.ofNat 1 < Int32.ofNat (n / 2)
            · exact ⟨n + n / 2, by omega, by have := (nat32_lt (by omega) (by omega)).mp c; omega, by rw [if_pos c, Int32.ofNat_add]⟩
            · exact ⟨n + 1, by omega, by omega, by rw [if_neg c, Int32.ofNat_add]⟩
          obtain ⟨m, m1, m2, m3⟩ := hm
          intro x hx x3 hx3
          have hx3 : x3 = Int32.ofNat m := by rw [hx3, hx]; exact m3
          subst hx3
          refine ⟨fun z => ?_, fun _ => ⟨fun z => ?_, fun _ => ⟨by rw [z1]; exact a1, b, Nat.le_refl _, Nat.le_refl _, ?_⟩⟩⟩
          · have := Int32.le_iff_toInt_le.mp z
            rw [nat32 (by omega)] at this
            have h0 : (0 : Int32).toInt = 0 := by decide
            omega
          · have := Int32.lt_iff_toInt_lt.mp z
            rw [nat32 (by omega)] at this
            have h0 : (2147483639 : Int32).toInt = 2147483639 := by decide
            omega
          · unfold P_J7_copyOf_1904c
            rw [z3, g1]
            refine ⟨arr, rfl, by rw [z1, g2]; omega, b, Nat.le_refl _, Nat.le_refl _, ?_⟩
            unfold P_J7_copyOf_6403c
            rw [nat32c (by omega)]
            refine ⟨20 + 32 * ro, N, by omega, nat32_nn (by omega), by omega, hb1, by omega, z6 N (Nat.le_refl _), by omega, fun z hz => ?_, fun T1 eT1 => ?_⟩
            · cases hz; rw [z1, g2]; omega
            · have w1 : ∀ x, ¬ x = N → sK T1 x = sK S x := fun x hx => by rw [eT1, sK_nw, if_neg hx, z1]
              have w2 : sK T1 N = 20 + 32 * ro := by rw [eT1, sK_nw, if_pos rfl]
              have w3 : sN T1 N = m := by rw [eT1, sN_nw, if_pos rfl]
              have w4 : sN T1 arr = n := by rw [eT1, sN_nw, if_neg hNa, z2, hcap]
              have w5 : ∀ i, sR T1 arr i = sR S arr i := fun i => by rw [eT1, sR_nw, if_neg hNa, z3]
              unfold P_J7_copyOf_6403c_B24
              refine ⟨arr, rfl, nI (sN T1 arr), Or.inl ⟨by rw [w1 arr hNa, g2]; omega, rfl⟩, fun x hx => ⟨by rw [w1 arr hNa, g2]; omega, N, rfl, by rw [w2]; omega, ?_⟩⟩
              have hx : x = Int32.ofNat n := by
                rw [hx, w4, if_neg (fun z => by have := (nat32_lt (by omega) (by omega)).mp z; omega)]; rfl
              subst hx
              rw [nat32c (by omega)]
              refine ⟨nat32_nn (by omega), by rw [w4]; exact Nat.le_refl _, by rw [w3]; omega, fun i hi y hy => ?_, fun T2 eT2 => ⟨fun z hz => ?_, fun T3 eT3 => ?_⟩⟩
              · rw [w5, g7 i hi] at hy
                cases hy
                have hx := hel i hi
                rw [w1 _ (fun q => by rw [q, hN N (Nat.le_refl _)] at hx; omega)]
                exact hx
              · cases hz; rw [eT2]; show ¬ sK T1 N = 0; rw [w2]; omega
              · have y1 : ∀ x, sK T3 x = sK T1 x := fun x => by rw [eT3, eT2]; rfl
                have y3 : sN T3 N = m := by rw [eT3, eT2]; exact w3
                have y4 : sR T3 h 1 = some N := by rw [eT3, sR_pR, if_pos ⟨rfl, rfl⟩]
                have y6 : ∀ i, i < n → sR T3 N i = some (el i) := fun i hi => by
                  rw [eT3, sR_pR, if_neg (fun q => hNh q.1.symm), eT2, sR_cpR, if_pos ⟨rfl, hi⟩, w5, g7 i hi]
                refine p_B11 (by rw [y1, w1 h hNh]; exact a1) (by rw [y1, w2]; omega) (by rw [y3]; exact m2) (by rw [y3]; omega) (by rw [y1, w1 e hNe]; exact he) ?_
                refine k _ (add_fin (by rw [y1, w1 h hNh]; exact a1) y4 (by rw [y1]; exact w2) (by rw [y3]; exact m2) (by rw [y3]; omega) h1000 y6) ⟨fun x x1 x2 x3 => ?_, fun x hx => ?_, Or.inr ((y1 N).trans w2), fun x hx => ?_⟩
                · rw [vw_pI x1, vw_pR x3, eT3, vw_pR x1, eT2, vw_cpR x3, eT1, vw_nw x3, z5 x x1]
                · show sK T3 x = 0; rw [y1, w1 x (by omega)]; exact hN x (by omega)
                · show sK T3 x = sK S x; rw [y1, w1 x hx]
        · exfalso
          rw [z2, hcap] at q
          have h0 : (0 : Int32) = Int32.ofNat 0 := rfl
          rw [h0] at q
          exact q ((nat32_lt (by omega) (by omega)).mpr (by omega))
    · have hcap : n < sN S arr := by
        rcases Nat.lt_or_ge n (sN S arr) with z | z
        · exact z
        · exact absurd (by rw [z2]; show Int32.ofNat n = Int32.ofNat (sN S arr); congr 1; omega) q
      refine p_B11 (by rw [z1]; exact a1) (by rw [z1, g2]; omega) (by rw [z2]; exact hcap) (by rw [z2]; exact g4) (by rw [z1]; exact he) ?_
      refine k _ (add_fin (by rw [z1]; exact a1) (by rw [z3]; exact g1) (by rw [z1]; exact g2) (by rw [z2]; exact hcap) (by rw [z2]; exact g4) g6 (fun i hi => by rw [z3]; exact g7 i hi)) ⟨fun x x1 x2 x3 => ?_, fun x hx => ?_, Or.inl ?_, fun x hx => ?_⟩
      · rw [vw_pI x1, vw_pR (fun q => x2 ⟨by rw [q]; exact g6, by rw [q]; exact g2⟩), z5 x x1]
      · show sK S2 x = 0; exact z6 x (by omega)
      · rw [vw_pI (fun q => hNh q.symm), vw_pR (fun q => hNa q.symm), z5 N (fun q => hNh q.symm)]
      · show sK S2 x = sK S x; rw [z1]
