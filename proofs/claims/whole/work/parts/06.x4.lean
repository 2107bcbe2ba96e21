section X4
variable {g : Gx} {cc : ByteArray} {own : String} {pc : Nat} {lv : List (Nat × Value)} {rest st : List Value} {σ σ1 : Sg} {b bc : Nat × Nat} {idx c n a q κ N w : Nat} {x : Option Nat} {rm : Room}
theorem x_nmI {e : Int32} (k : ∀ y, y = e → XJ g pc lv (.int y :: rest) σ b) : XJ g pc lv (.int e :: rest) σ b := k e rfl
theorem x_nmJ {e : Int64} (k : ∀ y, y = e → XJ g pc lv (.long y :: rest) σ b) : XJ g pc lv (.long e :: rest) σ b := k e rfl
theorem x_nmR {e : Option Nat} (k : ∀ y, y = e → XJ g pc lv (va_rf y :: rest) σ b) : XJ g pc lv (va_rf e :: rest) σ b := k e rfl
theorem x_nmS (k : ∀ y, y = σ → XJ g pc lv st y b) : XJ g pc lv st σ b := k σ rfl
theorem rf_cat (r : Option Nat) : (va_rf r).category = 1 := by cases r <;> rfl
theorem kq (E : sK σ1 = sK σ) (h : sK σ a % 32 = c) : sK σ1 a % 32 = c := by rw [E]; exact h
theorem kw (e : σ1 = nw σ q κ N) (hq : sK σ q = 0) (hc : ¬ c = 0) (h : sK σ a % 32 = c) : sK σ1 a % 32 = c := by
  subst e
  rw [sK_nw, if_neg (fun z => by rw [z, hq] at h; omega)]
  exact h
theorem kn (e : σ1 = nw σ q κ N) (hk : κ % 32 = c) : sK σ1 q % 32 = c := by
  subst e
  rw [sK_nw, if_pos rfl]
  exact hk
theorem x_sload_n {j : Fin 4} {i : Nat} {x : Nat} (k : Nat) (hg : GoodG g cc own) (d : decode cc pc = .ok (.aload_n j, 1)) (hi : (j : Nat) = i) (hk : lv[k]? = some (i, .ref x)) (kk : XJ g (pc + 1) lv (.ref x :: rest) σ b) : XJ g pc lv rest σ b := x_aload_n (x := some x) hg k d hi hk kk
theorem x_sload {i : Nat} {x : Nat} (k : Nat) (hg : GoodG g cc own) (d : decode cc pc = .ok (.aload i, 2)) (hk : lv[k]? = some (i, .ref x)) (kk : XJ g (pc + 2) lv (.ref x :: rest) σ b) : XJ g pc lv rest σ b := x_aload (x := some x) hg k d hk kk
theorem x_alenO (hg : GoodG g cc own) {z : Int32} (hx : x = some a) (hz : (sK σ a % 32 = 20 ∧ z = nI (sN σ a)) ∨ (sK σ a % 32 = 25 ∧ z = 0)) (d : decode cc pc = .ok (.arraylength, 1)) (kk : XJ g (pc + 1) lv (.int z :: rest) σ b) : XJ g pc lv (va_rf x :: rest) σ b := by
  rcases hz with ⟨h1, h2⟩ | ⟨h1, h2⟩
  · subst h2; exact x_alen hg hx h1 (by decide) (by decide) d kk
  · subst h2; exact x_alen0 hg hx h1 d kk
theorem x_cast (hg : GoodG g cc own) {C : String} {T : u_T} (hcl : vwCl[c - 1]? = some (C, T, n)) (hc : 1 ≤ c ∧ c ≤ 13) (hw : Cond.classLink own idx C ∈ AW) (hx : x = some a) (hk : sK σ a % 32 = c) (d : decode cc pc = .ok (.checkcast idx, 3)) (kk : XJ g (pc + 3) lv (va_rf x :: rest) σ b) : XJ g pc lv (va_rf x :: rest) σ b := by
  obtain ⟨⟨p, l, e, R, s, m, args, below, meth, c0⟩, Q, D, A, mc, ms, nL⟩ := g
  intro H locs cells slots ls hR hS hA hcc hs hl
  subst hx
  obtain ⟨he, hb, hml, hown, hts, hWT, hWH, hA1, hA2, hmc, hms, hlk⟩ := hg
  obtain ⟨cell, q1, q2, q3, -⟩ := (hR.1 a).1 (by omega) (by omega) (C, T, n) (by rw [hk]; exact hcl)
  rw [hk] at q2
  have hca := (hWT.1.1 (c - 1) _ hcl).2
  exact va_castS he hb hown (hts _ hw) hca ⟨cell, q1, by rw [q3]; rfl, by rw [q2]; exact hca.1⟩ d (kk H locs cells slots ls hR hS hA hcc hs hl)
theorem x_getsB (hg : GoodG g cc RX4) (d : decode cc pc = .ok (.getstatic 29, 3)) (kk : ∀ t, sK σ t = 24 → sN σ t = 21 → (∀ j, j < 21 → sI σ t j = bareV j) → XJ g (pc + 3) lv (va_rf (some t) :: rest) σ b) : XJ g pc lv rest σ b := by
  obtain ⟨⟨p, l, e, R, s, m, args, below, meth, c0⟩, Q, D, A, mc, ms, nL⟩ := g
  intro H locs cells slots ls hR hS hA hc hs hl
  obtain ⟨he, hb, hml, hown, hts, hWT, hWH, hA1, hA2, hmc, hms, hlk⟩ := hg
  exact va_getsN he hb (hWH.1.narrow (fun q h => hA2 q h)) hS hown (va_Nw.use rfl hWT.2.2.1) (fun _ h => h) d (kk (D.2.2 1) hR.2.2.2.2.1 hR.2.2.2.2.2.1 hR.2.2.2.2.2.2 H locs cells slots ls hR hS hA hc hs hl)
theorem x_getsB2 (hg : GoodG g cc RX4) (d : decode cc pc = .ok (.getstatic 29, 3)) (kk : XJ g (pc + 3) lv (va_rf (some ((gD g).2.2 1)) :: rest) σ b) : XJ g pc lv rest σ b := by
  obtain ⟨⟨p, l, e, R, s, m, args, below, meth, c0⟩, Q, D, A, mc, ms, nL⟩ := g
  intro H locs cells slots ls hR hS hA hc hs hl
  obtain ⟨he, hb, hml, hown, hts, hWT, hWH, hA1, hA2, hmc, hms, hlk⟩ := hg
  exact va_getsN he hb (hWH.1.narrow (fun q h => hA2 q h)) hS hown (va_Nw.use rfl hWT.2.2.1) (fun _ h => h) d (kk H locs cells slots ls hR hS hA hc hs hl)
theorem aw_empty : Cond.fieldLink RJx4a65c 39 "java/util/ArrayList" "DEFAULTCAPACITY_EMPTY_ELEMENTDATA" "[Ljava/lang/Object;" ∈ AW := aw_of (List.mem_of_getElem? (i := 115) (by decide +kernel)) (by decide +kernel)
theorem x_getsE (hg : GoodG g cc RJx4a65c) (d : decode cc pc = .ok (.getstatic 39, 3)) (kk : ∀ t, (∀ a, sK σ a % 32 = 25 ↔ a = t) → XJ g (pc + 3) lv (va_rf (some t) :: rest) σ b) : XJ g pc lv rest σ b := by
  obtain ⟨⟨p, l, e, R, s, m, args, below, meth, c0⟩, Q, D, A, mc, ms, nL⟩ := g
  intro H locs cells slots ls hR hS hA hc hs hl
  obtain ⟨he, hb, hml, hown, hts, hWT, hWH, hA1, hA2, hmc, hms, hlk⟩ := hg
  exact va_gets he hb (hWH.2.1.narrow (fun q h => hA2 q h)) hS hown (hts _ aw_empty) (fun _ h => h) d (kk (D.2.2 2) hR.2.2.2.1 H locs cells slots ls hR hS hA hc hs hl)
theorem x_getsCS (hg : GoodG g cc own) (hw : Cond.fieldLink own idx "java/lang/String" "COMPACT_STRINGS" "Z" ∈ AW) (d : decode cc pc = .ok (.getstatic idx, 3)) (kk : XJ g (pc + 3) lv (.int 1 :: rest) σ b) : XJ g pc lv rest σ b := by
  obtain ⟨⟨p, l, e, R, s, m, args, below, meth, c0⟩, Q, D, A, mc, ms, nL⟩ := g
  intro H locs cells slots ls hR hS hA hc hs hl
  obtain ⟨he, hb, hml, hown, hts, hWT, hWH, hA1, hA2, hmc, hms, hlk⟩ := hg
  exact va_gets he hb (hWH.2.2.1.narrow (fun q h => hA2 q h)) hS hown (hts _ hw) (fun _ h => h) d (kk H locs cells slots ls hR hS hA hc hs hl)
theorem x_getsQ (hg : GoodG g cc own) (hw : Cond.fieldLink own idx "jdk/internal/util/Preconditions" "SIOOBE_FORMATTER" "Ljava/util/function/BiFunction;" ∈ AW) (d : decode cc pc = .ok (.getstatic idx, 3)) (kk : ∀ r : Option Nat, XJ g (pc + 3) lv (va_rf r :: rest) σ b) : XJ g pc lv rest σ b := by
  obtain ⟨⟨p, l, e, R, s, m, args, below, meth, c0⟩, Q, D, A, mc, ms, nL⟩ := g
  intro H locs cells slots ls hR hS hA hc hs hl
  obtain ⟨he, hb, hml, hown, hts, hWT, hWH, hA1, hA2, hmc, hms, hlk⟩ := hg
  rcases hWH.2.2.2.1.narrow (fun q h => hA2 q h) with h | ⟨t, h⟩
  · exact va_gets he hb h hS hown (hts _ hw) (fun _ h => h) d (kk none H locs cells slots ls hR hS hA hc hs hl)
  · exact va_gets he hb h hS hown (hts _ hw) (fun _ h => h) d (kk (some t) H locs cells slots ls hR hS hA hc hs hl)
theorem x_sget_value (hg : GoodG g cc own) (hw : Cond.fieldLink own idx "java/lang/String" "value" "[B" ∈ AW) (hi : w < nJS) (d : decode cc pc = .ok (.getfield idx, 3)) (kk : XJ g (pc + 3) lv (.ref (adV (gD g) w) :: rest) σ b) : XJ g pc lv (.ref (adS (gD g) w) :: rest) σ b := by
  obtain ⟨⟨p, l, e, R, s, m, args, below, meth, c0⟩, Q, D, A, mc, ms, nL⟩ := g
  intro H locs cells slots ls hR hS hA hc hs hl
  obtain ⟨he, hb, hml, hown, hts, hWT, hWH, hA1, hA2, hmc, hms, hlk⟩ := hg
  exact vk_getf he hb ((hWH.2.2.2.2.1 w hi).2.2.1.narrow (fun q h => hA2 q h)) hS hown (hts _ hw) (fun _ h => h) d (kk H locs cells slots ls hR hS hA hc hs hl)
theorem x_sget_coder (hg : GoodG g cc own) (hw : Cond.fieldLink own idx "java/lang/String" "coder" "B" ∈ AW) (hi : w < nJS) (d : decode cc pc = .ok (.getfield idx, 3)) (kk : XJ g (pc + 3) lv (.int 0 :: rest) σ b) : XJ g pc lv (.ref (adS (gD g) w) :: rest) σ b := by
  obtain ⟨⟨p, l, e, R, s, m, args, below, meth, c0⟩, Q, D, A, mc, ms, nL⟩ := g
  intro H locs cells slots ls hR hS hA hc hs hl
  obtain ⟨he, hb, hml, hown, hts, hWT, hWH, hA1, hA2, hmc, hms, hlk⟩ := hg
  exact vk_getf he hb ((hWH.2.2.2.2.1 w hi).2.1.narrow (fun q h => hA2 q h)) hS hown (hts _ hw) (fun _ h => h) d (kk H locs cells slots ls hR hS hA hc hs hl)
theorem x_salen (hg : GoodG g cc own) (hi : w < nJS) (d : decode cc pc = .ok (.arraylength, 1)) (kk : XJ g (pc + 1) lv (.int (nI (strL.getD w 0)) :: rest) σ b) : XJ g pc lv (.ref (adV (gD g) w) :: rest) σ b := by
  obtain ⟨⟨p, l, e, R, s, m, args, below, meth, c0⟩, Q, D, A, mc, ms, nL⟩ := g
  intro H locs cells slots ls hR hS hA hc hs hl
  obtain ⟨he, hb, hml, hown, hts, hWT, hWH, hA1, hA2, hmc, hms, hlk⟩ := hg
  exact va_tlen he hb ((hWH.2.2.2.2.1 w hi).2.2.2.narrow (fun q h => hA2 q h)) hS rfl d (kk H locs cells slots ls hR hS hA hc hs hl)
theorem x_sbald (hg : GoodG g cc own) {i : Int32} (hi : w < nJS) (hv : vp_in i (strL.getD w 0)) (d : decode cc pc = .ok (.baload, 1)) (kk : XJ g (pc + 1) lv (.int ((strB.getD w []).getD i.toNatClampNeg 0) :: rest) σ b) : XJ g pc lv (.int i :: .ref (adV (gD g) w) :: rest) σ b := by
  obtain ⟨⟨p, l, e, R, s, m, args, below, meth, c0⟩, Q, D, A, mc, ms, nL⟩ := g
  intro H locs cells slots ls hR hS hA hc hs hl
  obtain ⟨he, hb, hml, hown, hts, hWT, hWH, hA1, hA2, hmc, hms, hlk⟩ := hg
  exact va_tb he hb ((hWH.2.2.2.2.1 w hi).2.2.2.narrow (fun q h => hA2 q h)) hS hv rfl d (kk H locs cells slots ls hR hS hA hc hs hl)
theorem x_newq (hg : GoodG g cc own) {n : Int32} (hw : Cond.classLink own idx "java/lang/Object" ∈ AW) (hκ : κ % 32 = 20) (hn : ¬ n < 0) (hn2 : n.toNatClampNeg ≤ 65536) (h1 : 1 ≤ b.1) (h2 : n.toNatClampNeg ≤ b.2) (d : decode cc pc = .ok (.anewarray idx, 3)) (kk : ∀ q, sK σ q = 0 → XJ g (pc + 3) lv (va_rf (some q) :: rest) (nw σ q κ n.toNatClampNeg) (b.1 - 1, b.2 - n.toNatClampNeg)) : XJ g pc lv (.int n :: rest) σ b := by
  obtain ⟨⟨p, l, e, R, s, m, args, below, meth, c0⟩, Q, D, A, mc, ms, nL⟩ := g
  intro H locs cells slots ls hR hS hA hc hs hl
  obtain ⟨he, hb, hml, hown, hts, hWT, hWH, hA1, hA2, hmc, hms, hlk⟩ := hg
  refine W.anew he hb hown (hts _ hw) (va_AO.use hWT.2.2.2.2.1) rfl d rfl hn (by omega) (by omega) (by omega) fun cA kA comp f1 f2 f3 f4 => ?_
  generalize hH1 : H.push ({ cls := cA, slots := Array.replicate n.toNatClampNeg .null, vm := .none } : Cell) = H1
  have z1 : H1.size = H.size + 1 := by rw [← hH1, Array.size_push]
  have e1 : H1[H.size]? = some (arrV cA n.toNatClampNeg (fun _ => .null)) := by rw [← hH1, Array.getElem?_push_size, ← arrV_new]
  have o1 : ∀ q : Nat, q < H.size → H1[q]? = H[q]? := fun q hq => by rw [← hH1, Array.getElem?_push, if_neg (Nat.ne_of_lt hq)]
  have hcA : cA = D.2.1 20 := by
    obtain ⟨kA2, comp2, r1, r2, r3, r4⟩ := (ty_of hWT.1 (c := 20) (by decide) (by decide)).2
    exact Option.some.inj (f1.symm.trans r4)
  subst hcA
  have hb0 : base D ≤ H.size := Nat.le_trans (hA2 _ (hA1 _ (Nat.le_refl _))) hS.1
  have hk' : sK (nw σ H.size κ n.toNatClampNeg) H.size = κ := by rw [sK_nw, if_pos rfl]
  have hwk : wr κ := Or.inr (by omega)
  obtain ⟨hR1, h0⟩ := rep_nw (n := n.toNatClampNeg) hR hb0 z1 o1 hwk (by
    refine ⟨fun z => by rw [hk'] at z; omega, fun _ _ => ?_, fun z => by rw [hk'] at z; omega, fun z => by rw [hk'] at z; omega⟩
    rw [hk', hκ]
    show H1[H.size]? = some _
    rw [e1, sN_nw, if_pos rfl]
    congr 2
    funext j
    exact dv_sV σ H.size κ n.toNatClampNeg (aty 20) ⟨(fun h => nomatch h), (fun h => nomatch h)⟩ j)
  refine kk H.size h0 H1 locs (cells + 1) (slots + n.toNatClampNeg) ls hR1 ⟨Nat.le_trans hS.1 (by omega), fun x h1 h2 => (o1 x (Nat.lt_of_lt_of_le h1 hS.1)).trans (hS.2.1 x h1 h2), hS.2.2⟩ (fun q hq => ?_) (by show cells + 1 + (b.1 - 1) ≤ mc; omega) (by show slots + n.toNatClampNeg + (b.2 - n.toNatClampNeg) ≤ ms; omega) hl
  rw [sK_nw] at hq
  by_cases e1 : q = H.size
  · rw [e1]; exact hA1 _ hS.1
  · rw [if_neg e1] at hq; exact hA q hq
theorem cA_arrI : ∀ (s : State) (D : Dg), WdT D s → ∀ cA, s.vm.findClass ("[" ++ (FieldType.int).toString) = some cA → cA = D.2.1 16 := fun s D h cA hc => Option.some.inj (hc.symm.trans (ty_of h.1 (c := 16) (by decide) (by decide)).2)
theorem cA_arrJ : ∀ (s : State) (D : Dg), WdT D s → ∀ cA, s.vm.findClass ("[" ++ (FieldType.long).toString) = some cA → cA = D.2.1 17 := fun s D h cA hc => Option.some.inj (hc.symm.trans (ty_of h.1 (c := 17) (by decide) (by decide)).2)
theorem cA_arrZ : ∀ (s : State) (D : Dg), WdT D s → ∀ cA, s.vm.findClass ("[" ++ (FieldType.boolean).toString) = some cA → cA = D.2.1 18 := fun s D h cA hc => Option.some.inj (hc.symm.trans (ty_of h.1 (c := 18) (by decide) (by decide)).2)
theorem cA_arrB : ∀ (s : State) (D : Dg), WdT D s → ∀ cA, s.vm.findClass ("[" ++ (FieldType.byte).toString) = some cA → cA = D.2.1 19 := fun s D h cA hc => Option.some.inj (hc.symm.trans (ty_of h.1 (c := 19) (by decide) (by decide)).2)

theorem aw_arrI : Cond.arrayClass .int ∈ AW := aw_of (List.mem_of_getElem? (i := 156) (by decide +kernel)) (by decide +kernel)
theorem aw_arrJ : Cond.arrayClass .long ∈ AW := aw_of (List.mem_of_getElem? (i := 402) (by decide +kernel)) (by decide +kernel)
theorem aw_arrZ : Cond.arrayClass .boolean ∈ AW := aw_of (List.mem_of_getElem? (i := 1445) (by decide +kernel)) (by decide +kernel)
theorem aw_arrB : Cond.arrayClass .byte ∈ AW := aw_of (List.mem_of_getElem? (i := 1131) (by decide +kernel)) (by decide +kernel)
theorem aw_oi1 : Cond.instanceMethod objectInit ∈ AW := aw_of (List.mem_of_getElem? (i := 101) (by decide +kernel)) (by decide +kernel)
theorem aw_oi2 : Cond.code objectInit ⟨#[0xb1]⟩ 1 none ∈ AW := aw_of (List.mem_of_getElem? (i := 102) (by decide +kernel)) (by decide +kernel)
theorem uw_1 : ∀ w ∈ u_ws RJx4a65c TJx4a65c 3, w ∈ AW := by decide +kernel
theorem ty_1 : ∀ k, k < 3 → parseFieldDescriptor (TJx4a65c k).2.2.1 = some (fty 1 k) := tyJx4a65c_ok
theorem nm_1 : ∀ a, a < 3 → ∀ b, b < 3 → a ≠ b → (TJx4a65c a).2.1 ≠ (TJx4a65c b).2.1 := nmJx4a65c
theorem uw_2 : ∀ w ∈ u_ws RX0 TX0 12, w ∈ AW := by decide +kernel
theorem ty_2 : ∀ k, k < 12 → parseFieldDescriptor (TX0 k).2.2.1 = some (fty 2 k) := tyX0_ok
theorem nm_2 : ∀ a, a < 12 → ∀ b, b < 12 → a ≠ b → (TX0 a).2.1 ≠ (TX0 b).2.1 := nmX0
theorem uw_3 : ∀ w ∈ u_ws RX1 TX1 6, w ∈ AW := by decide +kernel
theorem ty_3 : ∀ k, k < 6 → parseFieldDescriptor (TX1 k).2.2.1 = some (fty 3 k) := tyX1_ok
theorem nm_3 : ∀ a, a < 6 → ∀ b, b < 6 → a ≠ b → (TX1 a).2.1 ≠ (TX1 b).2.1 := nmX1
theorem uw_4 : ∀ w ∈ u_ws RX2 TX2 9, w ∈ AW := by decide +kernel
theorem ty_4 : ∀ k, k < 9 → parseFieldDescriptor (TX2 k).2.2.1 = some (fty 4 k) := tyX2_ok
theorem nm_4 : ∀ a, a < 9 → ∀ b, b < 9 → a ≠ b → (TX2 a).2.1 ≠ (TX2 b).2.1 := nmX2
theorem uw_5 : ∀ w ∈ u_ws RX3 TX3 9, w ∈ AW := by decide +kernel
theorem ty_5 : ∀ k, k < 9 → parseFieldDescriptor (TX3 k).2.2.1 = some (fty 5 k) := tyX3_ok
theorem nm_5 : ∀ a, a < 9 → ∀ b, b < 9 → a ≠ b → (TX3 a).2.1 ≠ (TX3 b).2.1 := nmX3
theorem uw_6 : ∀ w ∈ u_ws RX4 TX4 4, w ∈ AW := by decide +kernel
theorem ty_6 : ∀ k, k < 4 → parseFieldDescriptor (TX4 k).2.2.1 = some (fty 6 k) := tyX4_ok
theorem nm_6 : ∀ a, a < 4 → ∀ b, b < 4 → a ≠ b → (TX4 a).2.1 ≠ (TX4 b).2.1 := nmX4
theorem uw_7 : ∀ w ∈ u_ws RX5 TX5 15, w ∈ AW := by decide +kernel
theorem ty_7 : ∀ k, k < 15 → parseFieldDescriptor (TX5 k).2.2.1 = some (fty 7 k) := tyX5_ok
theorem nm_7 : ∀ a, a < 15 → ∀ b, b < 15 → a ≠ b → (TX5 a).2.1 ≠ (TX5 b).2.1 := nmX5
theorem uw_8 : ∀ w ∈ u_ws RX6 TX6 7, w ∈ AW := by decide +kernel
theorem ty_8 : ∀ k, k < 7 → parseFieldDescriptor (TX6 k).2.2.1 = some (fty 8 k) := tyX6_ok
theorem nm_8 : ∀ a, a < 7 → ∀ b, b < 7 → a ≠ b → (TX6 a).2.1 ≠ (TX6 b).2.1 := nmX6
theorem uw_9 : ∀ w ∈ u_ws RX7 TX7 6, w ∈ AW := by decide +kernel
theorem ty_9 : ∀ k, k < 6 → parseFieldDescriptor (TX7 k).2.2.1 = some (fty 9 k) := tyX7_ok
theorem nm_9 : ∀ a, a < 6 → ∀ b, b < 6 → a ≠ b → (TX7 a).2.1 ≠ (TX7 b).2.1 := nmX7
theorem uw_10 : ∀ w ∈ u_ws RX8 TX8 5, w ∈ AW := by decide +kernel
theorem ty_10 : ∀ k, k < 5 → parseFieldDescriptor (TX8 k).2.2.1 = some (fty 10 k) := tyX8_ok
theorem nm_10 : ∀ a, a < 5 → ∀ b, b < 5 → a ≠ b → (TX8 a).2.1 ≠ (TX8 b).2.1 := nmX8
theorem uw_11 : ∀ w ∈ u_ws RX9 TX9 4, w ∈ AW := by decide +kernel
theorem ty_11 : ∀ k, k < 4 → parseFieldDescriptor (TX9 k).2.2.1 = some (fty 11 k) := tyX9_ok
theorem nm_11 : ∀ a, a < 4 → ∀ b, b < 4 → a ≠ b → (TX9 a).2.1 ≠ (TX9 b).2.1 := nmX9
theorem uw_12 : ∀ w ∈ u_ws RX10 TX10 18, w ∈ AW := by decide +kernel
theorem ty_12 : ∀ k, k < 18 → parseFieldDescriptor (TX10 k).2.2.1 = some (fty 12 k) := tyX10_ok
theorem nm_12 : ∀ a, a < 18 → ∀ b, b < 18 → a ≠ b → (TX10 a).2.1 ≠ (TX10 b).2.1 := nmX10
theorem uw_13 : ∀ w ∈ u_ws RX11 TX11 82, w ∈ AW := by decide +kernel
theorem ty_13 : ∀ k, k < 82 → parseFieldDescriptor (TX11 k).2.2.1 = some (fty 13 k) := tyX11_ok
theorem nm_13 : ∀ a, a < 82 → ∀ b, b < 82 → a ≠ b → (TX11 a).2.1 ≠ (TX11 b).2.1 := nmX11
theorem sw2_out {x : Int32} (q0 : ¬ x = 0) (q1 : ¬ x = 1) (q2 : ¬ x = 2) : x.toInt < 0 ∨ 2 < x.toInt := by
  by_cases h1 : x.toInt < 0
  · exact Or.inl h1
  · by_cases h2 : 2 < x.toInt
    · exact Or.inr h2
    · exfalso
      rcases (show x.toInt = 0 ∨ x.toInt = 1 ∨ x.toInt = 2 by omega) with h | h | h
      · exact q0 (Int32.toInt_inj.mp (h.trans (by decide)))
      · exact q1 (Int32.toInt_inj.mp (h.trans (by decide)))
      · exact q2 (Int32.toInt_inj.mp (h.trans (by decide)))
theorem sw3_out {x : Int32} (q0 : ¬ x = 0) (q1 : ¬ x = 1) (q2 : ¬ x = 2) (q3 : ¬ x = 3) : x.toInt < 0 ∨ 3 < x.toInt := by
  by_cases h1 : x.toInt < 0
  · exact Or.inl h1
  · by_cases h2 : 3 < x.toInt
    · exact Or.inr h2
    · exfalso
      rcases (show x.toInt = 0 ∨ x.toInt = 1 ∨ x.toInt = 2 ∨ x.toInt = 3 by omega) with h | h | h | h
      · exact q0 (Int32.toInt_inj.mp (h.trans (by decide)))
      · exact q1 (Int32.toInt_inj.mp (h.trans (by decide)))
      · exact q2 (Int32.toInt_inj.mp (h.trans (by decide)))
      · exact q3 (Int32.toInt_inj.mp (h.trans (by decide)))
theorem sw4_out {x : Int32} (q0 : ¬ x = 0) (q1 : ¬ x = 1) (q2 : ¬ x = 2) (q3 : ¬ x = 3) (q4 : ¬ x = 4) : x.toInt < 0 ∨ 4 < x.toInt := by
  by_cases h1 : x.toInt < 0
  · exact Or.inl h1
  · by_cases h2 : 4 < x.toInt
    · exact Or.inr h2
    · exfalso
      rcases (show x.toInt = 0 ∨ x.toInt = 1 ∨ x.toInt = 2 ∨ x.toInt = 3 ∨ x.toInt = 4 by omega) with h | h | h | h | h
      · exact q0 (Int32.toInt_inj.mp (h.trans (by decide)))
      · exact q1 (Int32.toInt_inj.mp (h.trans (by decide)))
      · exact q2 (Int32.toInt_inj.mp (h.trans (by decide)))
      · exact q3 (Int32.toInt_inj.mp (h.trans (by decide)))
      · exact q4 (Int32.toInt_inj.mp (h.trans (by decide)))
theorem sw5_out {x : Int32} (q0 : ¬ x = 0) (q1 : ¬ x = 1) (q2 : ¬ x = 2) (q3 : ¬ x = 3) (q4 : ¬ x = 4) (q5 : ¬ x = 5) : x.toInt < 0 ∨ 5 < x.toInt := by
  by_cases h1 : x.toInt < 0
  · exact Or.inl h1
  · by_cases h2 : 5 < x.toInt
    · exact Or.inr h2
    · exfalso
      rcases (show x.toInt = 0 ∨ x.toInt = 1 ∨ x.toInt = 2 ∨ x.toInt = 3 ∨ x.toInt = 4 ∨ x.toInt = 5 by omega) with h | h | h | h | h | h
      · exact q0 (Int32.toInt_inj.mp (h.trans (by decide)))
      · exact q1 (Int32.toInt_inj.mp (h.trans (by decide)))
      · exact q2 (Int32.toInt_inj.mp (h.trans (by decide)))
      · exact q3 (Int32.toInt_inj.mp (h.trans (by decide)))
      · exact q4 (Int32.toInt_inj.mp (h.trans (by decide)))
      · exact q5 (Int32.toInt_inj.mp (h.trans (by decide)))
theorem sw6_out {x : Int32} (q0 : ¬ x = 0) (q1 : ¬ x = 1) (q2 : ¬ x = 2) (q3 : ¬ x = 3) (q4 : ¬ x = 4) (q5 : ¬ x = 5) (q6 : ¬ x = 6) : x.toInt < 0 ∨ 6 < x.toInt := by
  by_cases h1 : x.toInt < 0
  · exact Or.inl h1
  · by_cases h2 : 6 < x.toInt
    · exact Or.inr h2
    · exfalso
      rcases (show x.toInt = 0 ∨ x.toInt = 1 ∨ x.toInt = 2 ∨ x.toInt = 3 ∨ x.toInt = 4 ∨ x.toInt = 5 ∨ x.toInt = 6 by omega) with h | h | h | h | h | h | h
      · exact q0 (Int32.toInt_inj.mp (h.trans (by decide)))
      · exact q1 (Int32.toInt_inj.mp (h.trans (by decide)))
      · exact q2 (Int32.toInt_inj.mp (h.trans (by decide)))
      · exact q3 (Int32.toInt_inj.mp (h.trans (by decide)))
      · exact q4 (Int32.toInt_inj.mp (h.trans (by decide)))
      · exact q5 (Int32.toInt_inj.mp (h.trans (by decide)))
      · exact q6 (Int32.toInt_inj.mp (h.trans (by decide)))
theorem sw8_out {x : Int32} (q0 : ¬ x = 0) (q1 : ¬ x = 1) (q2 : ¬ x = 2) (q3 : ¬ x = 3) (q4 : ¬ x = 4) (q5 : ¬ x = 5) (q6 : ¬ x = 6) (q7 : ¬ x = 7) (q8 : ¬ x = 8) : x.toInt < 0 ∨ 8 < x.toInt := by
  by_cases h1 : x.toInt < 0
  · exact Or.inl h1
  · by_cases h2 : 8 < x.toInt
    · exact Or.inr h2
    · exfalso
      rcases (show x.toInt = 0 ∨ x.toInt = 1 ∨ x.toInt = 2 ∨ x.toInt = 3 ∨ x.toInt = 4 ∨ x.toInt = 5 ∨ x.toInt = 6 ∨ x.toInt = 7 ∨ x.toInt = 8 by omega) with h | h | h | h | h | h | h | h | h
      · exact q0 (Int32.toInt_inj.mp (h.trans (by decide)))
      · exact q1 (Int32.toInt_inj.mp (h.trans (by decide)))
      · exact q2 (Int32.toInt_inj.mp (h.trans (by decide)))
      · exact q3 (Int32.toInt_inj.mp (h.trans (by decide)))
      · exact q4 (Int32.toInt_inj.mp (h.trans (by decide)))
      · exact q5 (Int32.toInt_inj.mp (h.trans (by decide)))
      · exact q6 (Int32.toInt_inj.mp (h.trans (by decide)))
      · exact q7 (Int32.toInt_inj.mp (h.trans (by decide)))
      · exact q8 (Int32.toInt_inj.mp (h.trans (by decide)))
theorem sw12_out {x : Int32} (q0 : ¬ x = 0) (q1 : ¬ x = 1) (q2 : ¬ x = 2) (q3 : ¬ x = 3) (q4 : ¬ x = 4) (q5 : ¬ x = 5) (q6 : ¬ x = 6) (q7 : ¬ x = 7) (q8 : ¬ x = 8) (q9 : ¬ x = 9) (q10 : ¬ x = 10) (q11 : ¬ x = 11) (q12 : ¬ x = 12) : x.toInt < 0 ∨ 12 < x.toInt := by
  by_cases h1 : x.toInt < 0
  · exact Or.inl h1
  · by_cases h2 : 12 < x.toInt
    · exact Or.inr h2
    · exfalso
      rcases (show x.toInt = 0 ∨ x.toInt = 1 ∨ x.toInt = 2 ∨ x.toInt = 3 ∨ x.toInt = 4 ∨ x.toInt = 5 ∨ x.toInt = 6 ∨ x.toInt = 7 ∨ x.toInt = 8 ∨ x.toInt = 9 ∨ x.toInt = 10 ∨ x.toInt = 11 ∨ x.toInt = 12 by omega) with h | h | h | h | h | h | h | h | h | h | h | h | h
      · exact q0 (Int32.toInt_inj.mp (h.trans (by decide)))
      · exact q1 (Int32.toInt_inj.mp (h.trans (by decide)))
      · exact q2 (Int32.toInt_inj.mp (h.trans (by decide)))
      · exact q3 (Int32.toInt_inj.mp (h.trans (by decide)))
      · exact q4 (Int32.toInt_inj.mp (h.trans (by decide)))
      · exact q5 (Int32.toInt_inj.mp (h.trans (by decide)))
      · exact q6 (Int32.toInt_inj.mp (h.trans (by decide)))
      · exact q7 (Int32.toInt_inj.mp (h.trans (by decide)))
      · exact q8 (Int32.toInt_inj.mp (h.trans (by decide)))
      · exact q9 (Int32.toInt_inj.mp (h.trans (by decide)))
      · exact q10 (Int32.toInt_inj.mp (h.trans (by decide)))
      · exact q11 (Int32.toInt_inj.mp (h.trans (by decide)))
      · exact q12 (Int32.toInt_inj.mp (h.trans (by decide)))
theorem sw13_out {x : Int32} (q0 : ¬ x = 0) (q1 : ¬ x = 1) (q2 : ¬ x = 2) (q3 : ¬ x = 3) (q4 : ¬ x = 4) (q5 : ¬ x = 5) (q6 : ¬ x = 6) (q7 : ¬ x = 7) (q8 : ¬ x = 8) (q9 : ¬ x = 9) (q10 : ¬ x = 10) (q11 : ¬ x = 11) (q12 : ¬ x = 12) (q13 : ¬ x = 13) : x.toInt < 0 ∨ 13 < x.toInt := by
  by_cases h1 : x.toInt < 0
  · exact Or.inl h1
  · by_cases h2 : 13 < x.toInt
    · exact Or.inr h2
    · exfalso
      rcases (show x.toInt = 0 ∨ x.toInt = 1 ∨ x.toInt = 2 ∨ x.toInt = 3 ∨ x.toInt = 4 ∨ x.toInt = 5 ∨ x.toInt = 6 ∨ x.toInt = 7 ∨ x.toInt = 8 ∨ x.toInt = 9 ∨ x.toInt = 10 ∨ x.toInt = 11 ∨ x.toInt = 12 ∨ x.toInt = 13 by omega) with h | h | h | h | h | h | h | h | h | h | h | h | h | h
      · exact q0 (Int32.toInt_inj.mp (h.trans (by decide)))
      · exact q1 (Int32.toInt_inj.mp (h.trans (by decide)))
      · exact q2 (Int32.toInt_inj.mp (h.trans (by decide)))
      · exact q3 (Int32.toInt_inj.mp (h.trans (by decide)))
      · exact q4 (Int32.toInt_inj.mp (h.trans (by decide)))
      · exact q5 (Int32.toInt_inj.mp (h.trans (by decide)))
      · exact q6 (Int32.toInt_inj.mp (h.trans (by decide)))
      · exact q7 (Int32.toInt_inj.mp (h.trans (by decide)))
      · exact q8 (Int32.toInt_inj.mp (h.trans (by decide)))
      · exact q9 (Int32.toInt_inj.mp (h.trans (by decide)))
      · exact q10 (Int32.toInt_inj.mp (h.trans (by decide)))
      · exact q11 (Int32.toInt_inj.mp (h.trans (by decide)))
      · exact q12 (Int32.toInt_inj.mp (h.trans (by decide)))
      · exact q13 (Int32.toInt_inj.mp (h.trans (by decide)))
theorem sw19_out {x : Int32} (q0 : ¬ x = 0) (q1 : ¬ x = 1) (q2 : ¬ x = 2) (q3 : ¬ x = 3) (q4 : ¬ x = 4) (q5 : ¬ x = 5) (q6 : ¬ x = 6) (q7 : ¬ x = 7) (q8 : ¬ x = 8) (q9 : ¬ x = 9) (q10 : ¬ x = 10) (q11 : ¬ x = 11) (q12 : ¬ x = 12) (q13 : ¬ x = 13) (q14 : ¬ x = 14) (q15 : ¬ x = 15) (q16 : ¬ x = 16) (q17 : ¬ x = 17) (q18 : ¬ x = 18) (q19 : ¬ x = 19) : x.toInt < 0 ∨ 19 < x.toInt := by
  by_cases h1 : x.toInt < 0
  · exact Or.inl h1
  · by_cases h2 : 19 < x.toInt
    · exact Or.inr h2
    · exfalso
      rcases (show x.toInt = 0 ∨ x.toInt = 1 ∨ x.toInt = 2 ∨ x.toInt = 3 ∨ x.toInt = 4 ∨ x.toInt = 5 ∨ x.toInt = 6 ∨ x.toInt = 7 ∨ x.toInt = 8 ∨ x.toInt = 9 ∨ x.toInt = 10 ∨ x.toInt = 11 ∨ x.toInt = 12 ∨ x.toInt = 13 ∨ x.toInt = 14 ∨ x.toInt = 15 ∨ x.toInt = 16 ∨ x.toInt = 17 ∨ x.toInt = 18 ∨ x.toInt = 19 by omega) with h | h | h | h | h | h | h | h | h | h | h | h | h | h | h | h | h | h | h | h
      · exact q0 (Int32.toInt_inj.mp (h.trans (by decide)))
      · exact q1 (Int32.toInt_inj.mp (h.trans (by decide)))
      · exact q2 (Int32.toInt_inj.mp (h.trans (by decide)))
      · exact q3 (Int32.toInt_inj.mp (h.trans (by decide)))
      · exact q4 (Int32.toInt_inj.mp (h.trans (by decide)))
      · exact q5 (Int32.toInt_inj.mp (h.trans (by decide)))
      · exact q6 (Int32.toInt_inj.mp (h.trans (by decide)))
      · exact q7 (Int32.toInt_inj.mp (h.trans (by decide)))
      · exact q8 (Int32.toInt_inj.mp (h.trans (by decide)))
      · exact q9 (Int32.toInt_inj.mp (h.trans (by decide)))
      · exact q10 (Int32.toInt_inj.mp (h.trans (by decide)))
      · exact q11 (Int32.toInt_inj.mp (h.trans (by decide)))
      · exact q12 (Int32.toInt_inj.mp (h.trans (by decide)))
      · exact q13 (Int32.toInt_inj.mp (h.trans (by decide)))
      · exact q14 (Int32.toInt_inj.mp (h.trans (by decide)))
      · exact q15 (Int32.toInt_inj.mp (h.trans (by decide)))
      · exact q16 (Int32.toInt_inj.mp (h.trans (by decide)))
      · exact q17 (Int32.toInt_inj.mp (h.trans (by decide)))
      · exact q18 (Int32.toInt_inj.mp (h.trans (by decide)))
      · exact q19 (Int32.toInt_inj.mp (h.trans (by decide)))
def LT (own : String) (idx : Nat) (y : MethodName) (bytes : ByteArray) (maxL : Nat) (ret : Option FieldType) (n : Nat) : Prop := LB y bytes maxL ret n ∧ Cond.methodLink own idx y ∈ AW ∧ Cond.instanceMethod y ∈ AW ∧ Cond.selects "java/lang/String" y y ∈ AW
variable {ρ : Type} {y : MethodName} {bytes : ByteArray} {maxL : Nat} {ret : Option FieldType} {fr lo : Nat} {mk : ρ → Option Value} {As : List Value} {Qm : ρ → Sg → Prop}
theorem x_callT (hg : GoodG g cc own) (hC : Ctr (gL g) (gD g) y bytes maxL ret fr lo mk (.ref (adS (gD g) w) :: As) σ bc Qm) (hL : LT own idx y bytes maxL ret n) (hi : w < nJS) (hn : As.length = n) (hst : st = As.reverse ++ .ref (adS (gD g) w) :: rest) (d : decode cc pc = .ok (.invokevirtual idx, 3)) (hW : (rest.map fun v => v.category).sum ≤ 8) (hrm : gR g = rm) (hRm : fr + 1 ≤ rm.frames ∧ 8 + (maxL + 11) + lo ≤ rm.locals) (hb1 : bc.1 ≤ b.1) (hb2 : bc.2 ≤ b.2) (kk : ∀ (r : ρ) (σ' : Sg), Qm r σ' → XJ g (pc + 3) lv ((mk r).toList ++ rest) σ' (b.1 - bc.1, b.2 - bc.2)) : XJ g pc lv st σ b := by
  obtain ⟨⟨p, l, e, R, s, m, args, below, meth, c0⟩, Q, D, A, mc, ms, nL⟩ := g
  intro H locs cells slots ls hR hS hA hc hs hl
  obtain ⟨he, hb, hml, hown, hts, hWT, hWH, hA1, hA2, hmc, hms, hlk⟩ := hg
  obtain ⟨hB, w1, w2, w3⟩ := hL
  have hRm : fr + 1 ≤ R.frames ∧ 8 + (maxL + 11) + lo ≤ R.locals := by rw [show R = rm from hrm]; exact hRm
  have hrecv := vk_recv (hWH.2.2.2.2.narrow (fun q h => hA2 q h)) hi hS
  refine x_run (len := 3) (a0 := _) (va_runV (g := F0 m pc ls st) ⟨he, hb, hml, hown, hts⟩ (hC H.size) ⟨lb_callB hts hB (hts _ w1) hRm, hts _ w2, hts _ w3⟩ ⟨pre_blind, hrecv, fun U hU hW' => pre_use hR hWT hWH hS hA1 hA2 hU hW'⟩ rfl hn hl.1 hst (lv_room hW) d ⟨by omega, by omega⟩) hS hA hA1 hc hs hb1 hb2 hl kk
theorem xVIP (hg : GoodG g cc own) {Qp : Int32 → Prop} (hC : Ctr (gL g) (gD g) y bytes maxL ret fr lo mkI (.ref a :: As) σ (0, 0) (fun r σ2 => Qp r ∧ σ2 = σ)) (hL : LV own idx y c bytes maxL ret n) (hx : x = some a) (hk : sK σ a % 32 = c) (hn : As.length = n) (hst : st = As.reverse ++ va_rf x :: rest) (d : decode cc pc = .ok (.invokevirtual idx, 3)) (hW : (rest.map fun v => v.category).sum ≤ 8) (hrm : gR g = rm) (hRm : fr + 1 ≤ rm.frames ∧ 8 + (maxL + 11) + lo ≤ rm.locals) (kk : ∀ r : Int32, Qp r → XJ g (pc + 3) lv (.int r :: rest) σ b) : XJ g pc lv st σ b := by
  subst hx
  exact x_callV (b := b) hg hC hL rfl hk hn hst d hW hrm hRm (Nat.zero_le _) (Nat.zero_le _) (fun r σ2 h => by obtain ⟨h, e⟩ := h; subst e; exact kk r h)
theorem xVIW (hg : GoodG g cc own) {Qm : Int32 → Sg → Prop} (hC : Ctr (gL g) (gD g) y bytes maxL ret fr lo mkI (.ref a :: As) σ (0, 0) Qm) (hL : LV own idx y c bytes maxL ret n) (hx : x = some a) (hk : sK σ a % 32 = c) (hn : As.length = n) (hst : st = As.reverse ++ va_rf x :: rest) (d : decode cc pc = .ok (.invokevirtual idx, 3)) (hW : (rest.map fun v => v.category).sum ≤ 8) (hrm : gR g = rm) (hRm : fr + 1 ≤ rm.frames ∧ 8 + (maxL + 11) + lo ≤ rm.locals) (kk : ∀ (r : Int32) (σ2 : Sg), Qm r σ2 → XJ g (pc + 3) lv (.int r :: rest) σ2 b) : XJ g pc lv st σ b := by
  subst hx
  exact x_callV (b := b) hg hC hL rfl hk hn hst d hW hrm hRm (Nat.zero_le _) (Nat.zero_le _) (fun r σ2 h => kk r σ2 h)
theorem xVIA (hg : GoodG g cc own) {Qm : Int32 → Sg → Prop} (hC : Ctr (gL g) (gD g) y bytes maxL ret fr lo mkI (.ref a :: As) σ bc Qm) (hL : LV own idx y c bytes maxL ret n) (hx : x = some a) (hk : sK σ a % 32 = c) (hn : As.length = n) (hst : st = As.reverse ++ va_rf x :: rest) (d : decode cc pc = .ok (.invokevirtual idx, 3)) (hW : (rest.map fun v => v.category).sum ≤ 8) (hrm : gR g = rm) (hRm : fr + 1 ≤ rm.frames ∧ 8 + (maxL + 11) + lo ≤ rm.locals) (hb1 : bc.1 ≤ b.1) (hb2 : bc.2 ≤ b.2) (kk : ∀ (r : Int32) (σ2 : Sg), Qm r σ2 → XJ g (pc + 3) lv (.int r :: rest) σ2 (b.1 - bc.1, b.2 - bc.2)) : XJ g pc lv st σ b := by
  subst hx
  exact x_callV (b := b) hg hC hL rfl hk hn hst d hW hrm hRm hb1 hb2 (fun r σ2 h => kk r σ2 h)
theorem xVLP (hg : GoodG g cc own) {Qp : Int64 → Prop} (hC : Ctr (gL g) (gD g) y bytes maxL ret fr lo mkL (.ref a :: As) σ (0, 0) (fun r σ2 => Qp r ∧ σ2 = σ)) (hL : LV own idx y c bytes maxL ret n) (hx : x = some a) (hk : sK σ a % 32 = c) (hn : As.length = n) (hst : st = As.reverse ++ va_rf x :: rest) (d : decode cc pc = .ok (.invokevirtual idx, 3)) (hW : (rest.map fun v => v.category).sum ≤ 8) (hrm : gR g = rm) (hRm : fr + 1 ≤ rm.frames ∧ 8 + (maxL + 11) + lo ≤ rm.locals) (kk : ∀ r : Int64, Qp r → XJ g (pc + 3) lv (.long r :: rest) σ b) : XJ g pc lv st σ b := by
  subst hx
  exact x_callV (b := b) hg hC hL rfl hk hn hst d hW hrm hRm (Nat.zero_le _) (Nat.zero_le _) (fun r σ2 h => by obtain ⟨h, e⟩ := h; subst e; exact kk r h)
theorem xVLW (hg : GoodG g cc own) {Qm : Int64 → Sg → Prop} (hC : Ctr (gL g) (gD g) y bytes maxL ret fr lo mkL (.ref a :: As) σ (0, 0) Qm) (hL : LV own idx y c bytes maxL ret n) (hx : x = some a) (hk : sK σ a % 32 = c) (hn : As.length = n) (hst : st = As.reverse ++ va_rf x :: rest) (d : decode cc pc = .ok (.invokevirtual idx, 3)) (hW : (rest.map fun v => v.category).sum ≤ 8) (hrm : gR g = rm) (hRm : fr + 1 ≤ rm.frames ∧ 8 + (maxL + 11) + lo ≤ rm.locals) (kk : ∀ (r : Int64) (σ2 : Sg), Qm r σ2 → XJ g (pc + 3) lv (.long r :: rest) σ2 b) : XJ g pc lv st σ b := by
  subst hx
  exact x_callV (b := b) hg hC hL rfl hk hn hst d hW hrm hRm (Nat.zero_le _) (Nat.zero_le _) (fun r σ2 h => kk r σ2 h)
theorem xVLA (hg : GoodG g cc own) {Qm : Int64 → Sg → Prop} (hC : Ctr (gL g) (gD g) y bytes maxL ret fr lo mkL (.ref a :: As) σ bc Qm) (hL : LV own idx y c bytes maxL ret n) (hx : x = some a) (hk : sK σ a % 32 = c) (hn : As.length = n) (hst : st = As.reverse ++ va_rf x :: rest) (d : decode cc pc = .ok (.invokevirtual idx, 3)) (hW : (rest.map fun v => v.category).sum ≤ 8) (hrm : gR g = rm) (hRm : fr + 1 ≤ rm.frames ∧ 8 + (maxL + 11) + lo ≤ rm.locals) (hb1 : bc.1 ≤ b.1) (hb2 : bc.2 ≤ b.2) (kk : ∀ (r : Int64) (σ2 : Sg), Qm r σ2 → XJ g (pc + 3) lv (.long r :: rest) σ2 (b.1 - bc.1, b.2 - bc.2)) : XJ g pc lv st σ b := by
  subst hx
  exact x_callV (b := b) hg hC hL rfl hk hn hst d hW hrm hRm hb1 hb2 (fun r σ2 h => kk r σ2 h)
theorem xVRP (hg : GoodG g cc own) {Qp : Option Nat → Prop} (hC : Ctr (gL g) (gD g) y bytes maxL ret fr lo mkR (.ref a :: As) σ (0, 0) (fun r σ2 => Qp r ∧ σ2 = σ)) (hL : LV own idx y c bytes maxL ret n) (hx : x = some a) (hk : sK σ a % 32 = c) (hn : As.length = n) (hst : st = As.reverse ++ va_rf x :: rest) (d : decode cc pc = .ok (.invokevirtual idx, 3)) (hW : (rest.map fun v => v.category).sum ≤ 8) (hrm : gR g = rm) (hRm : fr + 1 ≤ rm.frames ∧ 8 + (maxL + 11) + lo ≤ rm.locals) (kk : ∀ r : Option Nat, Qp r → XJ g (pc + 3) lv (va_rf r :: rest) σ b) : XJ g pc lv st σ b := by
  subst hx
  exact x_callV (b := b) hg hC hL rfl hk hn hst d hW hrm hRm (Nat.zero_le _) (Nat.zero_le _) (fun r σ2 h => by obtain ⟨h, e⟩ := h; subst e; exact kk r h)
theorem xVRW (hg : GoodG g cc own) {Qm : Option Nat → Sg → Prop} (hC : Ctr (gL g) (gD g) y bytes maxL ret fr lo mkR (.ref a :: As) σ (0, 0) Qm) (hL : LV own idx y c bytes maxL ret n) (hx : x = some a) (hk : sK σ a % 32 = c) (hn : As.length = n) (hst : st = As.reverse ++ va_rf x :: rest) (d : decode cc pc = .ok (.invokevirtual idx, 3)) (hW : (rest.map fun v => v.category).sum ≤ 8) (hrm : gR g = rm) (hRm : fr + 1 ≤ rm.frames ∧ 8 + (maxL + 11) + lo ≤ rm.locals) (kk : ∀ (r : Option Nat) (σ2 : Sg), Qm r σ2 → XJ g (pc + 3) lv (va_rf r :: rest) σ2 b) : XJ g pc lv st σ b := by
  subst hx
  exact x_callV (b := b) hg hC hL rfl hk hn hst d hW hrm hRm (Nat.zero_le _) (Nat.zero_le _) (fun r σ2 h => kk r σ2 h)
theorem xVRA (hg : GoodG g cc own) {Qm : Option Nat → Sg → Prop} (hC : Ctr (gL g) (gD g) y bytes maxL ret fr lo mkR (.ref a :: As) σ bc Qm) (hL : LV own idx y c bytes maxL ret n) (hx : x = some a) (hk : sK σ a % 32 = c) (hn : As.length = n) (hst : st = As.reverse ++ va_rf x :: rest) (d : decode cc pc = .ok (.invokevirtual idx, 3)) (hW : (rest.map fun v => v.category).sum ≤ 8) (hrm : gR g = rm) (hRm : fr + 1 ≤ rm.frames ∧ 8 + (maxL + 11) + lo ≤ rm.locals) (hb1 : bc.1 ≤ b.1) (hb2 : bc.2 ≤ b.2) (kk : ∀ (r : Option Nat) (σ2 : Sg), Qm r σ2 → XJ g (pc + 3) lv (va_rf r :: rest) σ2 (b.1 - bc.1, b.2 - bc.2)) : XJ g pc lv st σ b := by
  subst hx
  exact x_callV (b := b) hg hC hL rfl hk hn hst d hW hrm hRm hb1 hb2 (fun r σ2 h => kk r σ2 h)
theorem xVVP (hg : GoodG g cc own) {Qp : Unit → Prop} (hC : Ctr (gL g) (gD g) y bytes maxL ret fr lo mkV (.ref a :: As) σ (0, 0) (fun r σ2 => Qp r ∧ σ2 = σ)) (hL : LV own idx y c bytes maxL ret n) (hx : x = some a) (hk : sK σ a % 32 = c) (hn : As.length = n) (hst : st = As.reverse ++ va_rf x :: rest) (d : decode cc pc = .ok (.invokevirtual idx, 3)) (hW : (rest.map fun v => v.category).sum ≤ 8) (hrm : gR g = rm) (hRm : fr + 1 ≤ rm.frames ∧ 8 + (maxL + 11) + lo ≤ rm.locals) (kk : ∀ r : Unit, Qp r → XJ g (pc + 3) lv (rest) σ b) : XJ g pc lv st σ b := by
  subst hx
  exact x_callV (b := b) hg hC hL rfl hk hn hst d hW hrm hRm (Nat.zero_le _) (Nat.zero_le _) (fun r σ2 h => by obtain ⟨h, e⟩ := h; subst e; exact kk r h)
theorem xVVW (hg : GoodG g cc own) {Qm : Unit → Sg → Prop} (hC : Ctr (gL g) (gD g) y bytes maxL ret fr lo mkV (.ref a :: As) σ (0, 0) Qm) (hL : LV own idx y c bytes maxL ret n) (hx : x = some a) (hk : sK σ a % 32 = c) (hn : As.length = n) (hst : st = As.reverse ++ va_rf x :: rest) (d : decode cc pc = .ok (.invokevirtual idx, 3)) (hW : (rest.map fun v => v.category).sum ≤ 8) (hrm : gR g = rm) (hRm : fr + 1 ≤ rm.frames ∧ 8 + (maxL + 11) + lo ≤ rm.locals) (kk : ∀ (r : Unit) (σ2 : Sg), Qm r σ2 → XJ g (pc + 3) lv (rest) σ2 b) : XJ g pc lv st σ b := by
  subst hx
  exact x_callV (b := b) hg hC hL rfl hk hn hst d hW hrm hRm (Nat.zero_le _) (Nat.zero_le _) (fun r σ2 h => kk r σ2 h)
theorem xVVA (hg : GoodG g cc own) {Qm : Unit → Sg → Prop} (hC : Ctr (gL g) (gD g) y bytes maxL ret fr lo mkV (.ref a :: As) σ bc Qm) (hL : LV own idx y c bytes maxL ret n) (hx : x = some a) (hk : sK σ a % 32 = c) (hn : As.length = n) (hst : st = As.reverse ++ va_rf x :: rest) (d : decode cc pc = .ok (.invokevirtual idx, 3)) (hW : (rest.map fun v => v.category).sum ≤ 8) (hrm : gR g = rm) (hRm : fr + 1 ≤ rm.frames ∧ 8 + (maxL + 11) + lo ≤ rm.locals) (hb1 : bc.1 ≤ b.1) (hb2 : bc.2 ≤ b.2) (kk : ∀ (r : Unit) (σ2 : Sg), Qm r σ2 → XJ g (pc + 3) lv (rest) σ2 (b.1 - bc.1, b.2 - bc.2)) : XJ g pc lv st σ b := by
  subst hx
  exact x_callV (b := b) hg hC hL rfl hk hn hst d hW hrm hRm hb1 hb2 (fun r σ2 h => kk r σ2 h)
theorem xSIP (hg : GoodG g cc own) {Qp : Int32 → Prop} (hC : Ctr (gL g) (gD g) y bytes maxL ret fr lo mkI As σ (0, 0) (fun r σ2 => Qp r ∧ σ2 = σ)) (hL : LS' own idx y bytes maxL ret n) (hn : As.length = n) (hst : st = As.reverse ++ rest) (d : decode cc pc = .ok (.invokestatic idx, 3)) (hW : (rest.map fun v => v.category).sum ≤ 8) (hrm : gR g = rm) (hRm : fr + 1 ≤ rm.frames ∧ 8 + (maxL + 11) + lo ≤ rm.locals) (kk : ∀ r : Int32, Qp r → XJ g (pc + 3) lv (.int r :: rest) σ b) : XJ g pc lv st σ b := by
  exact x_callS (b := b) hg hC hL hn hst d hW hrm hRm (Nat.zero_le _) (Nat.zero_le _) (fun r σ2 h => by obtain ⟨h, e⟩ := h; subst e; exact kk r h)
theorem xSIW (hg : GoodG g cc own) {Qm : Int32 → Sg → Prop} (hC : Ctr (gL g) (gD g) y bytes maxL ret fr lo mkI As σ (0, 0) Qm) (hL : LS' own idx y bytes maxL ret n) (hn : As.length = n) (hst : st = As.reverse ++ rest) (d : decode cc pc = .ok (.invokestatic idx, 3)) (hW : (rest.map fun v => v.category).sum ≤ 8) (hrm : gR g = rm) (hRm : fr + 1 ≤ rm.frames ∧ 8 + (maxL + 11) + lo ≤ rm.locals) (kk : ∀ (r : Int32) (σ2 : Sg), Qm r σ2 → XJ g (pc + 3) lv (.int r :: rest) σ2 b) : XJ g pc lv st σ b := by
  exact x_callS (b := b) hg hC hL hn hst d hW hrm hRm (Nat.zero_le _) (Nat.zero_le _) (fun r σ2 h => kk r σ2 h)
theorem xSIA (hg : GoodG g cc own) {Qm : Int32 → Sg → Prop} (hC : Ctr (gL g) (gD g) y bytes maxL ret fr lo mkI As σ bc Qm) (hL : LS' own idx y bytes maxL ret n) (hn : As.length = n) (hst : st = As.reverse ++ rest) (d : decode cc pc = .ok (.invokestatic idx, 3)) (hW : (rest.map fun v => v.category).sum ≤ 8) (hrm : gR g = rm) (hRm : fr + 1 ≤ rm.frames ∧ 8 + (maxL + 11) + lo ≤ rm.locals) (hb1 : bc.1 ≤ b.1) (hb2 : bc.2 ≤ b.2) (kk : ∀ (r : Int32) (σ2 : Sg), Qm r σ2 → XJ g (pc + 3) lv (.int r :: rest) σ2 (b.1 - bc.1, b.2 - bc.2)) : XJ g pc lv st σ b := by
  exact x_callS (b := b) hg hC hL hn hst d hW hrm hRm hb1 hb2 (fun r σ2 h => kk r σ2 h)
theorem xSLP (hg : GoodG g cc own) {Qp : Int64 → Prop} (hC : Ctr (gL g) (gD g) y bytes maxL ret fr lo mkL As σ (0, 0) (fun r σ2 => Qp r ∧ σ2 = σ)) (hL : LS' own idx y bytes maxL ret n) (hn : As.length = n) (hst : st = As.reverse ++ rest) (d : decode cc pc = .ok (.invokestatic idx, 3)) (hW : (rest.map fun v => v.category).sum ≤ 8) (hrm : gR g = rm) (hRm : fr + 1 ≤ rm.frames ∧ 8 + (maxL + 11) + lo ≤ rm.locals) (kk : ∀ r : Int64, Qp r → XJ g (pc + 3) lv (.long r :: rest) σ b) : XJ g pc lv st σ b := by
  exact x_callS (b := b) hg hC hL hn hst d hW hrm hRm (Nat.zero_le _) (Nat.zero_le _) (fun r σ2 h => by obtain ⟨h, e⟩ := h; subst e; exact kk r h)
theorem xSLW (hg : GoodG g cc own) {Qm : Int64 → Sg → Prop} (hC : Ctr (gL g) (gD g) y bytes maxL ret fr lo mkL As σ (0, 0) Qm) (hL : LS' own idx y bytes maxL ret n) (hn : As.length = n) (hst : st = As.reverse ++ rest) (d : decode cc pc = .ok (.invokestatic idx, 3)) (hW : (rest.map fun v => v.category).sum ≤ 8) (hrm : gR g = rm) (hRm : fr + 1 ≤ rm.frames ∧ 8 + (maxL + 11) + lo ≤ rm.locals) (kk : ∀ (r : Int64) (σ2 : Sg), Qm r σ2 → XJ g (pc + 3) lv (.long r :: rest) σ2 b) : XJ g pc lv st σ b := by
  exact x_callS (b := b) hg hC hL hn hst d hW hrm hRm (Nat.zero_le _) (Nat.zero_le _) (fun r σ2 h => kk r σ2 h)
theorem xSLA (hg : GoodG g cc own) {Qm : Int64 → Sg → Prop} (hC : Ctr (gL g) (gD g) y bytes maxL ret fr lo mkL As σ bc Qm) (hL : LS' own idx y bytes maxL ret n) (hn : As.length = n) (hst : st = As.reverse ++ rest) (d : decode cc pc = .ok (.invokestatic idx, 3)) (hW : (rest.map fun v => v.category).sum ≤ 8) (hrm : gR g = rm) (hRm : fr + 1 ≤ rm.frames ∧ 8 + (maxL + 11) + lo ≤ rm.locals) (hb1 : bc.1 ≤ b.1) (hb2 : bc.2 ≤ b.2) (kk : ∀ (r : Int64) (σ2 : Sg), Qm r σ2 → XJ g (pc + 3) lv (.long r :: rest) σ2 (b.1 - bc.1, b.2 - bc.2)) : XJ g pc lv st σ b := by
  exact x_callS (b := b) hg hC hL hn hst d hW hrm hRm hb1 hb2 (fun r σ2 h => kk r σ2 h)
theorem xSRP (hg : GoodG g cc own) {Qp : Option Nat → Prop} (hC : Ctr (gL g) (gD g) y bytes maxL ret fr lo mkR As σ (0, 0) (fun r σ2 => Qp r ∧ σ2 = σ)) (hL : LS' own idx y bytes maxL ret n) (hn : As.length = n) (hst : st = As.reverse ++ rest) (d : decode cc pc = .ok (.invokestatic idx, 3)) (hW : (rest.map fun v => v.category).sum ≤ 8) (hrm : gR g = rm) (hRm : fr + 1 ≤ rm.frames ∧ 8 + (maxL + 11) + lo ≤ rm.locals) (kk : ∀ r : Option Nat, Qp r → XJ g (pc + 3) lv (va_rf r :: rest) σ b) : XJ g pc lv st σ b := by
  exact x_callS (b := b) hg hC hL hn hst d hW hrm hRm (Nat.zero_le _) (Nat.zero_le _) (fun r σ2 h => by obtain ⟨h, e⟩ := h; subst e; exact kk r h)
theorem xSRW (hg : GoodG g cc own) {Qm : Option Nat → Sg → Prop} (hC : Ctr (gL g) (gD g) y bytes maxL ret fr lo mkR As σ (0, 0) Qm) (hL : LS' own idx y bytes maxL ret n) (hn : As.length = n) (hst : st = As.reverse ++ rest) (d : decode cc pc = .ok (.invokestatic idx, 3)) (hW : (rest.map fun v => v.category).sum ≤ 8) (hrm : gR g = rm) (hRm : fr + 1 ≤ rm.frames ∧ 8 + (maxL + 11) + lo ≤ rm.locals) (kk : ∀ (r : Option Nat) (σ2 : Sg), Qm r σ2 → XJ g (pc + 3) lv (va_rf r :: rest) σ2 b) : XJ g pc lv st σ b := by
  exact x_callS (b := b) hg hC hL hn hst d hW hrm hRm (Nat.zero_le _) (Nat.zero_le _) (fun r σ2 h => kk r σ2 h)
theorem xSRA (hg : GoodG g cc own) {Qm : Option Nat → Sg → Prop} (hC : Ctr (gL g) (gD g) y bytes maxL ret fr lo mkR As σ bc Qm) (hL : LS' own idx y bytes maxL ret n) (hn : As.length = n) (hst : st = As.reverse ++ rest) (d : decode cc pc = .ok (.invokestatic idx, 3)) (hW : (rest.map fun v => v.category).sum ≤ 8) (hrm : gR g = rm) (hRm : fr + 1 ≤ rm.frames ∧ 8 + (maxL + 11) + lo ≤ rm.locals) (hb1 : bc.1 ≤ b.1) (hb2 : bc.2 ≤ b.2) (kk : ∀ (r : Option Nat) (σ2 : Sg), Qm r σ2 → XJ g (pc + 3) lv (va_rf r :: rest) σ2 (b.1 - bc.1, b.2 - bc.2)) : XJ g pc lv st σ b := by
  exact x_callS (b := b) hg hC hL hn hst d hW hrm hRm hb1 hb2 (fun r σ2 h => kk r σ2 h)
theorem xSVP (hg : GoodG g cc own) {Qp : Unit → Prop} (hC : Ctr (gL g) (gD g) y bytes maxL ret fr lo mkV As σ (0, 0) (fun r σ2 => Qp r ∧ σ2 = σ)) (hL : LS' own idx y bytes maxL ret n) (hn : As.length = n) (hst : st = As.reverse ++ rest) (d : decode cc pc = .ok (.invokestatic idx, 3)) (hW : (rest.map fun v => v.category).sum ≤ 8) (hrm : gR g = rm) (hRm : fr + 1 ≤ rm.frames ∧ 8 + (maxL + 11) + lo ≤ rm.locals) (kk : ∀ r : Unit, Qp r → XJ g (pc + 3) lv (rest) σ b) : XJ g pc lv st σ b := by
  exact x_callS (b := b) hg hC hL hn hst d hW hrm hRm (Nat.zero_le _) (Nat.zero_le _) (fun r σ2 h => by obtain ⟨h, e⟩ := h; subst e; exact kk r h)
theorem xSVW (hg : GoodG g cc own) {Qm : Unit → Sg → Prop} (hC : Ctr (gL g) (gD g) y bytes maxL ret fr lo mkV As σ (0, 0) Qm) (hL : LS' own idx y bytes maxL ret n) (hn : As.length = n) (hst : st = As.reverse ++ rest) (d : decode cc pc = .ok (.invokestatic idx, 3)) (hW : (rest.map fun v => v.category).sum ≤ 8) (hrm : gR g = rm) (hRm : fr + 1 ≤ rm.frames ∧ 8 + (maxL + 11) + lo ≤ rm.locals) (kk : ∀ (r : Unit) (σ2 : Sg), Qm r σ2 → XJ g (pc + 3) lv (rest) σ2 b) : XJ g pc lv st σ b := by
  exact x_callS (b := b) hg hC hL hn hst d hW hrm hRm (Nat.zero_le _) (Nat.zero_le _) (fun r σ2 h => kk r σ2 h)
theorem xSVA (hg : GoodG g cc own) {Qm : Unit → Sg → Prop} (hC : Ctr (gL g) (gD g) y bytes maxL ret fr lo mkV As σ bc Qm) (hL : LS' own idx y bytes maxL ret n) (hn : As.length = n) (hst : st = As.reverse ++ rest) (d : decode cc pc = .ok (.invokestatic idx, 3)) (hW : (rest.map fun v => v.category).sum ≤ 8) (hrm : gR g = rm) (hRm : fr + 1 ≤ rm.frames ∧ 8 + (maxL + 11) + lo ≤ rm.locals) (hb1 : bc.1 ≤ b.1) (hb2 : bc.2 ≤ b.2) (kk : ∀ (r : Unit) (σ2 : Sg), Qm r σ2 → XJ g (pc + 3) lv (rest) σ2 (b.1 - bc.1, b.2 - bc.2)) : XJ g pc lv st σ b := by
  exact x_callS (b := b) hg hC hL hn hst d hW hrm hRm hb1 hb2 (fun r σ2 h => kk r σ2 h)
theorem xSNIP (hg : GoodG g cc own) {Qp : Int32 → Prop} (hC : Ctr (gL g) (gD g) y bytes maxL ret fr lo mkI As σ (0, 0) (fun r σ2 => Qp r ∧ σ2 = σ)) (hL : LSN own idx y bytes maxL ret n) (hn : As.length = n) (hst : st = As.reverse ++ rest) (d : decode cc pc = .ok (.invokestatic idx, 3)) (hW : (rest.map fun v => v.category).sum ≤ 8) (hrm : gR g = rm) (hRm : fr + 1 ≤ rm.frames ∧ 8 + (maxL + 11) + lo ≤ rm.locals) (kk : ∀ r : Int32, Qp r → XJ g (pc + 3) lv (.int r :: rest) σ b) : XJ g pc lv st σ b := by
  exact x_callSN (b := b) hg hC hL hn hst d hW hrm hRm (Nat.zero_le _) (Nat.zero_le _) (fun r σ2 h => by obtain ⟨h, e⟩ := h; subst e; exact kk r h)
theorem xSNIW (hg : GoodG g cc own) {Qm : Int32 → Sg → Prop} (hC : Ctr (gL g) (gD g) y bytes maxL ret fr lo mkI As σ (0, 0) Qm) (hL : LSN own idx y bytes maxL ret n) (hn : As.length = n) (hst : st = As.reverse ++ rest) (d : decode cc pc = .ok (.invokestatic idx, 3)) (hW : (rest.map fun v => v.category).sum ≤ 8) (hrm : gR g = rm) (hRm : fr + 1 ≤ rm.frames ∧ 8 + (maxL + 11) + lo ≤ rm.locals) (kk : ∀ (r : Int32) (σ2 : Sg), Qm r σ2 → XJ g (pc + 3) lv (.int r :: rest) σ2 b) : XJ g pc lv st σ b := by
  exact x_callSN (b := b) hg hC hL hn hst d hW hrm hRm (Nat.zero_le _) (Nat.zero_le _) (fun r σ2 h => kk r σ2 h)
theorem xSNIA (hg : GoodG g cc own) {Qm : Int32 → Sg → Prop} (hC : Ctr (gL g) (gD g) y bytes maxL ret fr lo mkI As σ bc Qm) (hL : LSN own idx y bytes maxL ret n) (hn : As.length = n) (hst : st = As.reverse ++ rest) (d : decode cc pc = .ok (.invokestatic idx, 3)) (hW : (rest.map fun v => v.category).sum ≤ 8) (hrm : gR g = rm) (hRm : fr + 1 ≤ rm.frames ∧ 8 + (maxL + 11) + lo ≤ rm.locals) (hb1 : bc.1 ≤ b.1) (hb2 : bc.2 ≤ b.2) (kk : ∀ (r : Int32) (σ2 : Sg), Qm r σ2 → XJ g (pc + 3) lv (.int r :: rest) σ2 (b.1 - bc.1, b.2 - bc.2)) : XJ g pc lv st σ b := by
  exact x_callSN (b := b) hg hC hL hn hst d hW hrm hRm hb1 hb2 (fun r σ2 h => kk r σ2 h)
theorem xSNLP (hg : GoodG g cc own) {Qp : Int64 → Prop} (hC : Ctr (gL g) (gD g) y bytes maxL ret fr lo mkL As σ (0, 0) (fun r σ2 => Qp r ∧ σ2 = σ)) (hL : LSN own idx y bytes maxL ret n) (hn : As.length = n) (hst : st = As.reverse ++ rest) (d : decode cc pc = .ok (.invokestatic idx, 3)) (hW : (rest.map fun v => v.category).sum ≤ 8) (hrm : gR g = rm) (hRm : fr + 1 ≤ rm.frames ∧ 8 + (maxL + 11) + lo ≤ rm.locals) (kk : ∀ r : Int64, Qp r → XJ g (pc + 3) lv (.long r :: rest) σ b) : XJ g pc lv st σ b := by
  exact x_callSN (b := b) hg hC hL hn hst d hW hrm hRm (Nat.zero_le _) (Nat.zero_le _) (fun r σ2 h => by obtain ⟨h, e⟩ := h; subst e; exact kk r h)
theorem xSNLW (hg : GoodG g cc own) {Qm : Int64 → Sg → Prop} (hC : Ctr (gL g) (gD g) y bytes maxL ret fr lo mkL As σ (0, 0) Qm) (hL : LSN own idx y bytes maxL ret n) (hn : As.length = n) (hst : st = As.reverse ++ rest) (d : decode cc pc = .ok (.invokestatic idx, 3)) (hW : (rest.map fun v => v.category).sum ≤ 8) (hrm : gR g = rm) (hRm : fr + 1 ≤ rm.frames ∧ 8 + (maxL + 11) + lo ≤ rm.locals) (kk : ∀ (r : Int64) (σ2 : Sg), Qm r σ2 → XJ g (pc + 3) lv (.long r :: rest) σ2 b) : XJ g pc lv st σ b := by
  exact x_callSN (b := b) hg hC hL hn hst d hW hrm hRm (Nat.zero_le _) (Nat.zero_le _) (fun r σ2 h => kk r σ2 h)
theorem xSNLA (hg : GoodG g cc own) {Qm : Int64 → Sg → Prop} (hC : Ctr (gL g) (gD g) y bytes maxL ret fr lo mkL As σ bc Qm) (hL : LSN own idx y bytes maxL ret n) (hn : As.length = n) (hst : st = As.reverse ++ rest) (d : decode cc pc = .ok (.invokestatic idx, 3)) (hW : (rest.map fun v => v.category).sum ≤ 8) (hrm : gR g = rm) (hRm : fr + 1 ≤ rm.frames ∧ 8 + (maxL + 11) + lo ≤ rm.locals) (hb1 : bc.1 ≤ b.1) (hb2 : bc.2 ≤ b.2) (kk : ∀ (r : Int64) (σ2 : Sg), Qm r σ2 → XJ g (pc + 3) lv (.long r :: rest) σ2 (b.1 - bc.1, b.2 - bc.2)) : XJ g pc lv st σ b := by
  exact x_callSN (b := b) hg hC hL hn hst d hW hrm hRm hb1 hb2 (fun r σ2 h => kk r σ2 h)
theorem xSNRP (hg : GoodG g cc own) {Qp : Option Nat → Prop} (hC : Ctr (gL g) (gD g) y bytes maxL ret fr lo mkR As σ (0, 0) (fun r σ2 => Qp r ∧ σ2 = σ)) (hL : LSN own idx y bytes maxL ret n) (hn : As.length = n) (hst : st = As.reverse ++ rest) (d : decode cc pc = .ok (.invokestatic idx, 3)) (hW : (rest.map fun v => v.category).sum ≤ 8) (hrm : gR g = rm) (hRm : fr + 1 ≤ rm.frames ∧ 8 + (maxL + 11) + lo ≤ rm.locals) (kk : ∀ r : Option Nat, Qp r → XJ g (pc + 3) lv (va_rf r :: rest) σ b) : XJ g pc lv st σ b := by
  exact x_callSN (b := b) hg hC hL hn hst d hW hrm hRm (Nat.zero_le _) (Nat.zero_le _) (fun r σ2 h => by obtain ⟨h, e⟩ := h; subst e; exact kk r h)
theorem xSNRW (hg : GoodG g cc own) {Qm : Option Nat → Sg → Prop} (hC : Ctr (gL g) (gD g) y bytes maxL ret fr lo mkR As σ (0, 0) Qm) (hL : LSN own idx y bytes maxL ret n) (hn : As.length = n) (hst : st = As.reverse ++ rest) (d : decode cc pc = .ok (.invokestatic idx, 3)) (hW : (rest.map fun v => v.category).sum ≤ 8) (hrm : gR g = rm) (hRm : fr + 1 ≤ rm.frames ∧ 8 + (maxL + 11) + lo ≤ rm.locals) (kk : ∀ (r : Option Nat) (σ2 : Sg), Qm r σ2 → XJ g (pc + 3) lv (va_rf r :: rest) σ2 b) : XJ g pc lv st σ b := by
  exact x_callSN (b := b) hg hC hL hn hst d hW hrm hRm (Nat.zero_le _) (Nat.zero_le _) (fun r σ2 h => kk r σ2 h)
theorem xSNRA (hg : GoodG g cc own) {Qm : Option Nat → Sg → Prop} (hC : Ctr (gL g) (gD g) y bytes maxL ret fr lo mkR As σ bc Qm) (hL : LSN own idx y bytes maxL ret n) (hn : As.length = n) (hst : st = As.reverse ++ rest) (d : decode cc pc = .ok (.invokestatic idx, 3)) (hW : (rest.map fun v => v.category).sum ≤ 8) (hrm : gR g = rm) (hRm : fr + 1 ≤ rm.frames ∧ 8 + (maxL + 11) + lo ≤ rm.locals) (hb1 : bc.1 ≤ b.1) (hb2 : bc.2 ≤ b.2) (kk : ∀ (r : Option Nat) (σ2 : Sg), Qm r σ2 → XJ g (pc + 3) lv (va_rf r :: rest) σ2 (b.1 - bc.1, b.2 - bc.2)) : XJ g pc lv st σ b := by
  exact x_callSN (b := b) hg hC hL hn hst d hW hrm hRm hb1 hb2 (fun r σ2 h => kk r σ2 h)
theorem xSNVP (hg : GoodG g cc own) {Qp : Unit → Prop} (hC : Ctr (gL g) (gD g) y bytes maxL ret fr lo mkV As σ (0, 0) (fun r σ2 => Qp r ∧ σ2 = σ)) (hL : LSN own idx y bytes maxL ret n) (hn : As.length = n) (hst : st = As.reverse ++ rest) (d : decode cc pc = .ok (.invokestatic idx, 3)) (hW : (rest.map fun v => v.category).sum ≤ 8) (hrm : gR g = rm) (hRm : fr + 1 ≤ rm.frames ∧ 8 + (maxL + 11) + lo ≤ rm.locals) (kk : ∀ r : Unit, Qp r → XJ g (pc + 3) lv (rest) σ b) : XJ g pc lv st σ b := by
  exact x_callSN (b := b) hg hC hL hn hst d hW hrm hRm (Nat.zero_le _) (Nat.zero_le _) (fun r σ2 h => by obtain ⟨h, e⟩ := h; subst e; exact kk r h)
theorem xSNVW (hg : GoodG g cc own) {Qm : Unit → Sg → Prop} (hC : Ctr (gL g) (gD g) y bytes maxL ret fr lo mkV As σ (0, 0) Qm) (hL : LSN own idx y bytes maxL ret n) (hn : As.length = n) (hst : st = As.reverse ++ rest) (d : decode cc pc = .ok (.invokestatic idx, 3)) (hW : (rest.map fun v => v.category).sum ≤ 8) (hrm : gR g = rm) (hRm : fr + 1 ≤ rm.frames ∧ 8 + (maxL + 11) + lo ≤ rm.locals) (kk : ∀ (r : Unit) (σ2 : Sg), Qm r σ2 → XJ g (pc + 3) lv (rest) σ2 b) : XJ g pc lv st σ b := by
  exact x_callSN (b := b) hg hC hL hn hst d hW hrm hRm (Nat.zero_le _) (Nat.zero_le _) (fun r σ2 h => kk r σ2 h)
theorem xSNVA (hg : GoodG g cc own) {Qm : Unit → Sg → Prop} (hC : Ctr (gL g) (gD g) y bytes maxL ret fr lo mkV As σ bc Qm) (hL : LSN own idx y bytes maxL ret n) (hn : As.length = n) (hst : st = As.reverse ++ rest) (d : decode cc pc = .ok (.invokestatic idx, 3)) (hW : (rest.map fun v => v.category).sum ≤ 8) (hrm : gR g = rm) (hRm : fr + 1 ≤ rm.frames ∧ 8 + (maxL + 11) + lo ≤ rm.locals) (hb1 : bc.1 ≤ b.1) (hb2 : bc.2 ≤ b.2) (kk : ∀ (r : Unit) (σ2 : Sg), Qm r σ2 → XJ g (pc + 3) lv (rest) σ2 (b.1 - bc.1, b.2 - bc.2)) : XJ g pc lv st σ b := by
  exact x_callSN (b := b) hg hC hL hn hst d hW hrm hRm hb1 hb2 (fun r σ2 h => kk r σ2 h)
theorem xIVP (hg : GoodG g cc own) {Qp : Unit → Prop} (hC : Ctr (gL g) (gD g) y bytes maxL none fr lo mkV (.ref a :: As) σ (0, 0) (fun r σ2 => Qp r ∧ σ2 = σ)) (hL : LI own idx y bytes maxL n) (hx : x = some a) (hn : As.length = n) (hst : st = As.reverse ++ va_rf x :: rest) (d : decode cc pc = .ok (.invokespecial idx, 3)) (hW : (rest.map fun v => v.category).sum ≤ 8) (hrm : gR g = rm) (hRm : fr + 1 ≤ rm.frames ∧ 8 + (maxL + 11) + lo ≤ rm.locals) (kk : ∀ r : Unit, Qp r → XJ g (pc + 3) lv (rest) σ b) : XJ g pc lv st σ b := by
  subst hx
  exact x_callI (b := b) hg hC hL rfl hn hst d hW hrm hRm (Nat.zero_le _) (Nat.zero_le _) (fun r σ2 h => by obtain ⟨h, e⟩ := h; subst e; exact kk r h)
theorem xIVW (hg : GoodG g cc own) {Qm : Unit → Sg → Prop} (hC : Ctr (gL g) (gD g) y bytes maxL none fr lo mkV (.ref a :: As) σ (0, 0) Qm) (hL : LI own idx y bytes maxL n) (hx : x = some a) (hn : As.length = n) (hst : st = As.reverse ++ va_rf x :: rest) (d : decode cc pc = .ok (.invokespecial idx, 3)) (hW : (rest.map fun v => v.category).sum ≤ 8) (hrm : gR g = rm) (hRm : fr + 1 ≤ rm.frames ∧ 8 + (maxL + 11) + lo ≤ rm.locals) (kk : ∀ (r : Unit) (σ2 : Sg), Qm r σ2 → XJ g (pc + 3) lv (rest) σ2 b) : XJ g pc lv st σ b := by
  subst hx
  exact x_callI (b := b) hg hC hL rfl hn hst d hW hrm hRm (Nat.zero_le _) (Nat.zero_le _) (fun r σ2 h => kk r σ2 h)
theorem xIVA (hg : GoodG g cc own) {Qm : Unit → Sg → Prop} (hC : Ctr (gL g) (gD g) y bytes maxL none fr lo mkV (.ref a :: As) σ bc Qm) (hL : LI own idx y bytes maxL n) (hx : x = some a) (hn : As.length = n) (hst : st = As.reverse ++ va_rf x :: rest) (d : decode cc pc = .ok (.invokespecial idx, 3)) (hW : (rest.map fun v => v.category).sum ≤ 8) (hrm : gR g = rm) (hRm : fr + 1 ≤ rm.frames ∧ 8 + (maxL + 11) + lo ≤ rm.locals) (hb1 : bc.1 ≤ b.1) (hb2 : bc.2 ≤ b.2) (kk : ∀ (r : Unit) (σ2 : Sg), Qm r σ2 → XJ g (pc + 3) lv (rest) σ2 (b.1 - bc.1, b.2 - bc.2)) : XJ g pc lv st σ b := by
  subst hx
  exact x_callI (b := b) hg hC hL rfl hn hst d hW hrm hRm hb1 hb2 (fun r σ2 h => kk r σ2 h)
theorem xINVP (hg : GoodG g cc own) {Qp : Unit → Prop} (hC : Ctr (gL g) (gD g) y bytes maxL none fr lo mkV (.ref a :: As) σ (0, 0) (fun r σ2 => Qp r ∧ σ2 = σ)) (hL : LIN own idx y bytes maxL n) (hx : x = some a) (hn : As.length = n) (hst : st = As.reverse ++ va_rf x :: rest) (d : decode cc pc = .ok (.invokespecial idx, 3)) (hW : (rest.map fun v => v.category).sum ≤ 8) (hrm : gR g = rm) (hRm : fr + 1 ≤ rm.frames ∧ 8 + (maxL + 11) + lo ≤ rm.locals) (kk : ∀ r : Unit, Qp r → XJ g (pc + 3) lv (rest) σ b) : XJ g pc lv st σ b := by
  subst hx
  exact x_callIN (b := b) hg hC hL rfl hn hst d hW hrm hRm (Nat.zero_le _) (Nat.zero_le _) (fun r σ2 h => by obtain ⟨h, e⟩ := h; subst e; exact kk r h)
theorem xINVW (hg : GoodG g cc own) {Qm : Unit → Sg → Prop} (hC : Ctr (gL g) (gD g) y bytes maxL none fr lo mkV (.ref a :: As) σ (0, 0) Qm) (hL : LIN own idx y bytes maxL n) (hx : x = some a) (hn : As.length = n) (hst : st = As.reverse ++ va_rf x :: rest) (d : decode cc pc = .ok (.invokespecial idx, 3)) (hW : (rest.map fun v => v.category).sum ≤ 8) (hrm : gR g = rm) (hRm : fr + 1 ≤ rm.frames ∧ 8 + (maxL + 11) + lo ≤ rm.locals) (kk : ∀ (r : Unit) (σ2 : Sg), Qm r σ2 → XJ g (pc + 3) lv (rest) σ2 b) : XJ g pc lv st σ b := by
  subst hx
  exact x_callIN (b := b) hg hC hL rfl hn hst d hW hrm hRm (Nat.zero_le _) (Nat.zero_le _) (fun r σ2 h => kk r σ2 h)
theorem xINVA (hg : GoodG g cc own) {Qm : Unit → Sg → Prop} (hC : Ctr (gL g) (gD g) y bytes maxL none fr lo mkV (.ref a :: As) σ bc Qm) (hL : LIN own idx y bytes maxL n) (hx : x = some a) (hn : As.length = n) (hst : st = As.reverse ++ va_rf x :: rest) (d : decode cc pc = .ok (.invokespecial idx, 3)) (hW : (rest.map fun v => v.category).sum ≤ 8) (hrm : gR g = rm) (hRm : fr + 1 ≤ rm.frames ∧ 8 + (maxL + 11) + lo ≤ rm.locals) (hb1 : bc.1 ≤ b.1) (hb2 : bc.2 ≤ b.2) (kk : ∀ (r : Unit) (σ2 : Sg), Qm r σ2 → XJ g (pc + 3) lv (rest) σ2 (b.1 - bc.1, b.2 - bc.2)) : XJ g pc lv st σ b := by
  subst hx
  exact x_callIN (b := b) hg hC hL rfl hn hst d hW hrm hRm hb1 hb2 (fun r σ2 h => kk r σ2 h)
theorem xTIP (hg : GoodG g cc own) {Qp : Int32 → Prop} (hC : Ctr (gL g) (gD g) y bytes maxL ret fr lo mkI (.ref (adS (gD g) w) :: As) σ (0, 0) (fun r σ2 => Qp r ∧ σ2 = σ)) (hL : LT own idx y bytes maxL ret n) (hi : w < nJS) (hn : As.length = n) (hst : st = As.reverse ++ .ref (adS (gD g) w) :: rest) (d : decode cc pc = .ok (.invokevirtual idx, 3)) (hW : (rest.map fun v => v.category).sum ≤ 8) (hrm : gR g = rm) (hRm : fr + 1 ≤ rm.frames ∧ 8 + (maxL + 11) + lo ≤ rm.locals) (kk : ∀ r : Int32, Qp r → XJ g (pc + 3) lv (.int r :: rest) σ b) : XJ g pc lv st σ b := by
  exact x_callT (b := b) hg hC hL hi hn hst d hW hrm hRm (Nat.zero_le _) (Nat.zero_le _) (fun r σ2 h => by obtain ⟨h, e⟩ := h; subst e; exact kk r h)
end X4
