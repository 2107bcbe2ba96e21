/-! ===== the law's entry: the tables' and the old cells' facts ===== -/
section EN2
variable {s : State} {b : Nat}
def stM (i : Nat) : Term := .string "RainStreets$Tape" (strT.getD i (0, "")).1
def psS : Nat → Nat
  | 0 => 38
  | j + 1 => psS j + 4 + strL.getD j 0 + j
theorem en_ne : ∀ j, j < nJS → ∀ i, i < j → (flatC (Jvm.Cond.and given_1 narrow_1))[psS j + 4 + strL.getD j 0 + i]? = some (Cond.not (Cond.eq (stM i) (stM j))) := by decide +kernel
theorem en_str (hgv : ∀ c ∈ flatC (Jvm.Cond.and given_1 narrow_1), c.before #[Value.ref b] s = true) {A : Nat → Prop} (hA : ∀ a : Nat, a < s.heap.size → ¬ A a) : ∃ adK adV : Nat → Nat, vk_S nJS strL strB adK adV A s s.heap ∧ ∀ i : Nat, i < nJS → (stM i).eval #[Value.ref b] s none [] s = some (.ref (adK i)) :=
  vk_Sof (tm := stM) (by decide +kernel) (fun i hi => hgv _ ((by decide +kernel : ∀ i, i < nJS → Cond.exactly (stM i) "java/lang/String" ∈ flatC (Jvm.Cond.and given_1 narrow_1)) i hi))
    (fun i hi => hgv _ ((by decide +kernel : ∀ i, i < nJS → Cond.eq (.field (stM i) "java/lang/String" "coder" "B") (.int 0) ∈ flatC (Jvm.Cond.and given_1 narrow_1)) i hi))
    (fun i hi => hgv _ ((by decide +kernel : ∀ i, i < nJS → Cond.arrayOf (.field (stM i) "java/lang/String" "value" "[B") .byte ∈ flatC (Jvm.Cond.and given_1 narrow_1)) i hi))
    (fun i hi => hgv _ ((by decide +kernel : ∀ i, i < nJS → Cond.eq (.length (.field (stM i) "java/lang/String" "value" "[B")) (.int (Int32.ofNat (strL.getD i 0))) ∈ flatC (Jvm.Cond.and given_1 narrow_1)) i hi))
    (fun i hi j hj => hgv _ ((by decide +kernel : ∀ i, i < nJS → ∀ j, j < strL.getD i 0 → Cond.eq (.elem (.field (stM i) "java/lang/String" "value" "[B") (.int (Int32.ofNat j))) (.int ((strB.getD i []).getD j 0)) ∈ flatC (Jvm.Cond.and given_1 narrow_1)) i hi j hj))
    (fun i j hi hj hij => by
      rcases Nat.lt_or_gt_of_ne hij with h | h
      · exact Or.inl (hgv _ (List.mem_of_getElem? (en_ne j hj i h)))
      · exact Or.inr (hgv _ (List.mem_of_getElem? (en_ne i hi j h)))) hA
theorem en_bare (hgv : ∀ c ∈ flatC (Jvm.Cond.and given_1 narrow_1), c.before #[Value.ref b] s = true) {A : Nat → Prop} (hA : ∀ a : Nat, a < s.heap.size → ¬ A a) : ∃ t : Nat, (Term.static "RainStreets" "BARE" "[I").eval #[Value.ref b] s none [] s = some (.ref t) ∧ va_T .int t 21 (fun j => .int (bareV j)) A s s.heap :=
  va_Tof (by decide) (hgv _ (by decide +kernel)) (va_eqt (hgv _ (by decide +kernel))) (fun j hj => va_eqt (hgv _ ((by decide +kernel : ∀ j, j < 21 → Cond.eq (.elem (.static "RainStreets" "BARE" "[I") (.int (Int32.ofNat j))) (.int (bareV j)) ∈ flatC (Jvm.Cond.and given_1 narrow_1)) j hj))) hA
theorem en_empty (hgv : ∀ c ∈ flatC (Jvm.Cond.and given_1 narrow_1), c.before #[Value.ref b] s = true) {A : Nat → Prop} (hA : ∀ a : Nat, a < s.heap.size → ¬ A a) : ∃ t : Nat, (Term.static "java/util/ArrayList" "DEFAULTCAPACITY_EMPTY_ELEMENTDATA" "[Ljava/lang/Object;").eval #[Value.ref b] s none [] s = some (.ref t) ∧ va_T (.object "java/lang/Object") t 0 (fun _ => .null) A s s.heap :=
  va_Tof (by decide) (hgv _ (by decide +kernel)) (va_eqt (hgv _ (by decide +kernel))) (fun j hj => absurd hj (Nat.not_lt_zero j)) hA
theorem en_nest (hts : ∀ w ∈ lw_tbl, w.before #[Value.ref b] s = true) : ∀ q ∈ nestF, va_Nw (.methodLinkNest q.1 q.2.1 q.2.2 "RainStreets") s := List.forall_mem_cons.mpr ⟨va_Nw.of rfl (hts _ (List.mem_of_getElem? (i := 159) (by decide +kernel))), List.forall_mem_cons.mpr ⟨va_Nw.of rfl (hts _ (List.mem_of_getElem? (i := 193) (by decide +kernel))), List.forall_mem_cons.mpr ⟨va_Nw.of rfl (hts _ (List.mem_of_getElem? (i := 624) (by decide +kernel))), List.forall_mem_cons.mpr ⟨va_Nw.of rfl (hts _ (List.mem_of_getElem? (i := 782) (by decide +kernel))), List.forall_mem_cons.mpr ⟨va_Nw.of rfl (hts _ (List.mem_of_getElem? (i := 834) (by decide +kernel))), List.forall_mem_cons.mpr ⟨va_Nw.of rfl (hts _ (List.mem_of_getElem? (i := 853) (by decide +kernel))), List.forall_mem_cons.mpr ⟨va_Nw.of rfl (hts _ (List.mem_of_getElem? (i := 1102) (by decide +kernel))), fun _ h => absurd h List.not_mem_nil⟩⟩⟩⟩⟩⟩⟩
theorem en_cast (hts : ∀ w ∈ lw_tbl, w.before #[Value.ref b] s = true) : ∀ q ∈ vwCl, va_Nw (.castable q.1 "java/lang/Object") s := List.forall_mem_cons.mpr ⟨va_Nw.of rfl (hts _ (List.mem_of_getElem? (i := 1736) (by decide +kernel))), List.forall_mem_cons.mpr ⟨va_Nw.of rfl (hts _ (List.mem_of_getElem? (i := 1744) (by decide +kernel))), List.forall_mem_cons.mpr ⟨va_Nw.of rfl (hts _ (List.mem_of_getElem? (i := 1745) (by decide +kernel))), List.forall_mem_cons.mpr ⟨va_Nw.of rfl (hts _ (List.mem_of_getElem? (i := 1742) (by decide +kernel))), List.forall_mem_cons.mpr ⟨va_Nw.of rfl (hts _ (List.mem_of_getElem? (i := 1739) (by decide +kernel))), List.forall_mem_cons.mpr ⟨va_Nw.of rfl (hts _ (List.mem_of_getElem? (i := 1737) (by decide +kernel))), List.forall_mem_cons.mpr ⟨va_Nw.of rfl (hts _ (List.mem_of_getElem? (i := 1740) (by decide +kernel))), List.forall_mem_cons.mpr ⟨va_Nw.of rfl (hts _ (List.mem_of_getElem? (i := 1743) (by decide +kernel))), List.forall_mem_cons.mpr ⟨va_Nw.of rfl (hts _ (List.mem_of_getElem? (i := 1738) (by decide +kernel))), List.forall_mem_cons.mpr ⟨va_Nw.of rfl (hts _ (List.mem_of_getElem? (i := 1746) (by decide +kernel))), List.forall_mem_cons.mpr ⟨va_Nw.of rfl (hts _ (List.mem_of_getElem? (i := 1747) (by decide +kernel))), List.forall_mem_cons.mpr ⟨va_Nw.of rfl (hts _ (List.mem_of_getElem? (i := 1735) (by decide +kernel))), List.forall_mem_cons.mpr ⟨va_Nw.of rfl (hts _ (List.mem_of_getElem? (i := 1741) (by decide +kernel))), fun _ h => absurd h List.not_mem_nil⟩⟩⟩⟩⟩⟩⟩⟩⟩⟩⟩⟩⟩
theorem en_sref (hts : ∀ w ∈ lw_tbl, w.before #[Value.ref b] s = true) : ∀ q ∈ strT, (Cond.stringRef "RainStreets$Tape" q.1 q.2).before #[Value.ref b] s = true := List.forall_mem_cons.mpr ⟨(hts _ (List.mem_of_getElem? (i := 1035) (by decide +kernel))), List.forall_mem_cons.mpr ⟨(hts _ (List.mem_of_getElem? (i := 1103) (by decide +kernel))), List.forall_mem_cons.mpr ⟨(hts _ (List.mem_of_getElem? (i := 1108) (by decide +kernel))), List.forall_mem_cons.mpr ⟨(hts _ (List.mem_of_getElem? (i := 1109) (by decide +kernel))), List.forall_mem_cons.mpr ⟨(hts _ (List.mem_of_getElem? (i := 1133) (by decide +kernel))), List.forall_mem_cons.mpr ⟨(hts _ (List.mem_of_getElem? (i := 1142) (by decide +kernel))), List.forall_mem_cons.mpr ⟨(hts _ (List.mem_of_getElem? (i := 1143) (by decide +kernel))), List.forall_mem_cons.mpr ⟨(hts _ (List.mem_of_getElem? (i := 1148) (by decide +kernel))), List.forall_mem_cons.mpr ⟨(hts _ (List.mem_of_getElem? (i := 1149) (by decide +kernel))), List.forall_mem_cons.mpr ⟨(hts _ (List.mem_of_getElem? (i := 1150) (by decide +kernel))), List.forall_mem_cons.mpr ⟨(hts _ (List.mem_of_getElem? (i := 1151) (by decide +kernel))), List.forall_mem_cons.mpr ⟨(hts _ (List.mem_of_getElem? (i := 1152) (by decide +kernel))), List.forall_mem_cons.mpr ⟨(hts _ (List.mem_of_getElem? (i := 1153) (by decide +kernel))), List.forall_mem_cons.mpr ⟨(hts _ (List.mem_of_getElem? (i := 1154) (by decide +kernel))), List.forall_mem_cons.mpr ⟨(hts _ (List.mem_of_getElem? (i := 1155) (by decide +kernel))), List.forall_mem_cons.mpr ⟨(hts _ (List.mem_of_getElem? (i := 1156) (by decide +kernel))), List.forall_mem_cons.mpr ⟨(hts _ (List.mem_of_getElem? (i := 1157) (by decide +kernel))), List.forall_mem_cons.mpr ⟨(hts _ (List.mem_of_getElem? (i := 1158) (by decide +kernel))), List.forall_mem_cons.mpr ⟨(hts _ (List.mem_of_getElem? (i := 1159) (by decide +kernel))), fun _ h => absurd h List.not_mem_nil⟩⟩⟩⟩⟩⟩⟩⟩⟩⟩⟩⟩⟩⟩⟩⟩⟩⟩⟩
theorem en_all (hts : ∀ w ∈ lw_tbl, w.before #[Value.ref b] s = true) (hgv : ∀ c ∈ flatC (Jvm.Cond.and given_1 narrow_1), c.before #[Value.ref b] s = true) : ∃ D : Dg, base D = s.heap.size ∧ WdT D s ∧ WdH D s s.heap ∧ va_T .int (D.2.2 1) 21 (fun j => .int (bareV j)) (A0 D) s s.heap ∧ va_T (.object "java/lang/Object") (D.2.2 2) 0 (fun _ => .null) (A0 D) s s.heap ∧ (Term.static "RainStreets" "BARE" "[I").eval #[Value.ref b] s none [] s = some (.ref (D.2.2 1)) := by
  have hA : ∀ a : Nat, a < s.heap.size → ¬ (fun q : Nat => s.heap.size ≤ q) a := fun a h1 h2 => by
    have h2 : s.heap.size ≤ a := h2
    omega
  obtain ⟨G, hG⟩ := en_cls hts
  obtain ⟨cI, aI, fI⟩ := en_arr (hts _ (List.mem_filter.mp aw_arrI).1)
  obtain ⟨cJ, aJ, fJ⟩ := en_arr (hts _ (List.mem_filter.mp aw_arrJ).1)
  obtain ⟨cZ, aZ, fZ⟩ := en_arr (hts _ (List.mem_filter.mp aw_arrZ).1)
  obtain ⟨cB, aB, fB⟩ := en_arr (hts _ (List.mem_filter.mp aw_arrB).1)
  obtain ⟨cO, aO, fO⟩ := en_obj (C := "java/lang/Object") (hts _ (List.mem_of_getElem? (i := 301) (by decide +kernel)))
  obtain ⟨cR, aR, fR⟩ := en_row (t := .int) (hts _ (List.mem_of_getElem? (i := 343) (by decide +kernel)))
  obtain ⟨adK, adW, hStr, hEv⟩ := en_str hgv hA
  obtain ⟨tB, evB, hB⟩ := en_bare hgv hA
  obtain ⟨tE, evE, hE⟩ := en_empty hgv hA
  obtain ⟨mi, hmi⟩ := va_Mi.of (C := "[Ljava/lang/Object;") (hgv _ (by decide +kernel))
  let K : Nat → ClassId := fun k => if k = 16 then cI else if k = 17 then cJ else if k = 18 then cZ else if k = 19 then cB else if k = 20 then cO else cR
  let ad : Nat → Nat := fun k => if k = 0 then s.heap.size else if k = 1 then tB else if k = 2 then tE else if k = 3 then mi else if k < 200 then adK (k - 100) else adW (k - 200)
  have hS : ∀ i, i < nJS → ad (100 + i) = adK i ∧ ad (200 + i) = adW i := fun i hi => by
    have hi : i < 19 := hi
    constructor
    · show (if 100 + i = 0 then s.heap.size else if 100 + i = 1 then tB else if 100 + i = 2 then tE else if 100 + i = 3 then mi else if 100 + i < 200 then adK (100 + i - 100) else adW (100 + i - 200)) = adK i
      rw [if_neg (by omega), if_neg (by omega), if_neg (by omega), if_neg (by omega), if_pos (by omega), Nat.add_sub_cancel_left]
    · show (if 200 + i = 0 then s.heap.size else if 200 + i = 1 then tB else if 200 + i = 2 then tE else if 200 + i = 3 then mi else if 200 + i < 200 then adK (200 + i - 100) else adW (200 + i - 200)) = adW i
      rw [if_neg (by omega), if_neg (by omega), if_neg (by omega), if_neg (by omega), if_neg (by omega), Nat.add_sub_cancel_left]
  refine ⟨(G, K, ad), rfl, ⟨⟨hG, ?_⟩, en_nest hts, va_Nw.of rfl (hts _ (List.mem_of_getElem? (i := 137) (by decide +kernel))), en_cast hts, va_AO.of (hts _ (List.mem_of_getElem? (i := 301) (by decide +kernel))), fun i hi => ?_, hmi, va_Dc.of (hts _ (List.mem_of_getElem? (i := 1751) (by decide +kernel))), ?_⟩, ⟨va_Zref (hts _ (List.mem_of_getElem? (i := 138) (by decide +kernel))) (hts _ (List.mem_of_getElem? (i := 70) (by decide +kernel))) evB hA, va_Zref (hts _ (List.mem_of_getElem? (i := 116) (by decide +kernel))) (hts _ (List.mem_of_getElem? (i := 73) (by decide +kernel))) evE hA, va_Zof (hts _ (List.mem_of_getElem? (i := 1053) (by decide +kernel))) (hts _ (List.mem_of_getElem? (i := 91) (by decide +kernel))) (va_eqt (hgv _ (by decide +kernel))) hA, va_Zqof (hts _ (List.mem_of_getElem? (i := 1069) (by decide +kernel))) (hts _ (List.mem_of_getElem? (i := 85) (by decide +kernel))) (hgv _ (by decide +kernel)) hA, ?_⟩, hB, hE, evB⟩
  · have h6 : ∀ q ∈ tysD (G, K, ad), ArrOfT s q.1 q.2 ∧ va_RA s q.1 q.2 := List.forall_mem_cons.mpr ⟨⟨aI, fI⟩, List.forall_mem_cons.mpr ⟨⟨aJ, fJ⟩, List.forall_mem_cons.mpr ⟨⟨aZ, fZ⟩, List.forall_mem_cons.mpr ⟨⟨aB, fB⟩, List.forall_mem_cons.mpr ⟨⟨aO, fO⟩, List.forall_mem_cons.mpr ⟨⟨aR, fR⟩, fun _ h => absurd h List.not_mem_nil⟩⟩⟩⟩⟩⟩
    exact fun k q h => h6 q (List.mem_of_getElem? h)
  · have hm : strT.getD i (0, "") ∈ strT := by
      have hi : i < 19 := hi
      exact (by decide +kernel : ∀ i, i < 19 → strT.getD i (0, "") ∈ strT) i hi
    show vk_R _ _ _ (ad (100 + i)) s
    rw [(hS i hi).1]
    exact vk_R.of (en_sref hts _ hm) (hEv i hi)
  · have h := hts (Cond.arrayOver (.array .int)) (List.mem_of_getElem? (i := 343) (by decide +kernel))
    exact h
  · refine ⟨fun i hi => ?_, fun i j hi hj e => ?_⟩
    · show va_O _ (ad (100 + i)) _ _ _ ∧ va_OF _ _ _ _ (ad (100 + i)) _ _ _ ∧ va_OF _ _ _ (.ref (ad (200 + i))) (ad (100 + i)) _ _ _ ∧ va_T _ (ad (200 + i)) _ _ _ _ _
      rw [(hS i hi).1, (hS i hi).2]
      exact hStr.1 i hi
    · refine hStr.2 i j hi hj ?_
      have e : ad (100 + i) = ad (100 + j) := e
      rw [(hS i hi).1, (hS j hj).1] at e
      exact e
end EN2
