section XA
variable {g : Gx} {cc : ByteArray} {own : String} {pc : Nat} {lv : List (Nat × Value)} {rest : List Value} {σ : Sg} {b : Nat × Nat}
theorem ty_of {D : Dg} {s : State} (hK : va_K D.1 vwCl (tysD D) s) {c : Nat} (h1 : 16 ≤ c) (h2 : c ≤ 21) : ArrOfT s (D.2.1 c) (aty c) ∧ va_RA s (D.2.1 c) (aty c) := by
  rcases (show c = 16 ∨ c = 17 ∨ c = 18 ∨ c = 19 ∨ c = 20 ∨ c = 21 by omega) with h | h | h | h | h | h <;> subst h
  · exact hK.2 0 _ rfl
  · exact hK.2 1 _ rfl
  · exact hK.2 2 _ rfl
  · exact hK.2 3 _ rfl
  · exact hK.2 4 _ rfl
  · exact hK.2 5 _ rfl
theorem arr_in {c N : Nat} {f : Nat → Value} {i : Int32} {D : Dg} (hi : vp_in i N) : ¬ (i < 0 ∨ (arrV (D.2.1 c) N f).slots.size ≤ i.toNatClampNeg) := by rw [arrV_size]; exact hi
theorem in_lt {i : Int32} {N : Nat} (hi : vp_in i N) : i.toNatClampNeg < N := Nat.not_le.mp fun q => hi (Or.inr q)
theorem x_alen (hg : GoodG g cc own) {x : Option Nat} {a : Nat} {c : Nat} (hx : x = some a) (hk : sK σ a % 32 = c) (h1 : 16 ≤ c) (h2 : c ≤ 21) (d : decode cc pc = .ok (.arraylength, 1)) (kk : XJ g (pc + 1) lv (.int (nI (sN σ a)) :: rest) σ b) : XJ g pc lv (va_rf x :: rest) σ b := by
  obtain ⟨⟨p, l, e, R, s, m, args, below, meth, c0⟩, Q, D, A, mc, ms, nL⟩ := g
  intro H locs cells slots ls hR hS hA hc hs hl
  subst hx
  obtain ⟨he, hb, hml, hown, hts, hWT, -⟩ := hg
  have h3 := (hR.1 a).2.1 (by omega) (by omega)
  rw [hk] at h3
  exact W.alen (n := nI (sN σ a)) he hb h3 ((ty_of hWT.1 h1 h2).1 _ _) (by rw [arrV_size] <;> rfl) rfl rfl d (kk H locs cells slots ls hR hS hA hc hs hl)
/-- the length of the list's shared empty row -/
theorem x_alen0 (hg : GoodG g cc own) {x : Option Nat} {a : Nat} (hx : x = some a) (hk : sK σ a % 32 = 25) (d : decode cc pc = .ok (.arraylength, 1)) (kk : XJ g (pc + 1) lv (.int 0 :: rest) σ b) : XJ g pc lv (va_rf x :: rest) σ b := by
  obtain ⟨⟨p, l, e, R, s, m, args, below, meth, c0⟩, Q, D, A, mc, ms, nL⟩ := g
  intro H locs cells slots ls hR hS hA hc hs hl
  subst hx
  obtain ⟨he, hb, hml, hown, hts, hWT, -⟩ := hg
  obtain ⟨cell, g1, g2, g3, g4, g5, -⟩ := (hR.1 a).2.2.2 hk
  exact W.alen (n := 0) he hb g1 g2 g5 rfl rfl d (kk H locs cells slots ls hR hS hA hc hs hl)
theorem x_alenR (hg : GoodG g cc own) {x : Option Nat} {a : Nat} (hx : x = some a) (hk : sK σ a % 32 = 24) (d : decode cc pc = .ok (.arraylength, 1)) (kk : XJ g (pc + 1) lv (.int (nI (sN σ a)) :: rest) σ b) : XJ g pc lv (va_rf x :: rest) σ b := by
  obtain ⟨⟨p, l, e, R, s, m, args, below, meth, c0⟩, Q, D, A, mc, ms, nL⟩ := g
  intro H locs cells slots ls hR hS hA hc hs hl
  subst hx
  obtain ⟨he, hb, hml, hown, hts, hWT, -⟩ := hg
  obtain ⟨cell, g1, g2, g3, g4, g5, -⟩ := (hR.1 a).2.2.1 hk
  exact W.alen (n := nI (sN σ a)) he hb g1 g2 g5 rfl rfl d (kk H locs cells slots ls hR hS hA hc hs hl)
theorem x_iald (hg : GoodG g cc own) {x : Option Nat} {a : Nat} {i : Int32} (hx : x = some a) (hk : sK σ a % 32 = 16) (hi : vp_in i (sN σ a)) (d : decode cc pc = .ok (.iaload, 1)) (kk : XJ g (pc + 1) lv (.int (sI σ a i.toNatClampNeg) :: rest) σ b) : XJ g pc lv (.int i :: va_rf x :: rest) σ b := by
  obtain ⟨⟨p, l, e, R, s, m, args, below, meth, c0⟩, Q, D, A, mc, ms, nL⟩ := g
  intro H locs cells slots ls hR hS hA hc hs hl
  subst hx
  obtain ⟨he, hb, hml, hown, hts, hWT, -⟩ := hg
  have h3 := (hR.1 a).2.1 (by omega) (by omega)
  rw [hk] at h3
  exact W.iald (v := .int (sI σ a i.toNatClampNeg)) he hb h3 ((ty_of hWT.1 (c := 16) (by omega) (by omega)).1 _ _) (fun q => by cases q) (arr_in hi) (arrV_read _ _ (in_lt hi)) rfl rfl d (kk H locs cells slots ls hR hS hA hc hs hl)
/-- a read of a row that nobody writes -/
theorem x_ialdR (hg : GoodG g cc own) {x : Option Nat} {a : Nat} {i : Int32} (hx : x = some a) (hk : sK σ a % 32 = 24) (hi : vp_in i (sN σ a)) (d : decode cc pc = .ok (.iaload, 1)) (kk : XJ g (pc + 1) lv (.int (sI σ a i.toNatClampNeg) :: rest) σ b) : XJ g pc lv (.int i :: va_rf x :: rest) σ b := by
  obtain ⟨⟨p, l, e, R, s, m, args, below, meth, c0⟩, Q, D, A, mc, ms, nL⟩ := g
  intro H locs cells slots ls hR hS hA hc hs hl
  subst hx
  obtain ⟨he, hb, hml, hown, hts, hWT, -⟩ := hg
  obtain ⟨cell, g1, g2, g3, g4, g5, g6, g7⟩ := (hR.1 a).2.2.1 hk
  have hlt := in_lt hi
  exact W.iald (v := .int (sI σ a i.toNatClampNeg)) he hb g1 g2 g3 (fun q => q.elim (fun q => hi (Or.inl q)) (fun q => by omega)) (g6 _ hlt) rfl rfl d (kk H locs cells slots ls hR hS hA hc hs hl)
theorem x_lald (hg : GoodG g cc own) {x : Option Nat} {a : Nat} {i : Int32} (hx : x = some a) (hk : sK σ a % 32 = 17) (hi : vp_in i (sN σ a)) (d : decode cc pc = .ok (.laload, 1)) (kk : XJ g (pc + 1) lv (.long (sL σ a i.toNatClampNeg) :: rest) σ b) : XJ g pc lv (.int i :: va_rf x :: rest) σ b := by
  obtain ⟨⟨p, l, e, R, s, m, args, below, meth, c0⟩, Q, D, A, mc, ms, nL⟩ := g
  intro H locs cells slots ls hR hS hA hc hs hl
  subst hx
  obtain ⟨he, hb, hml, hown, hts, hWT, -⟩ := hg
  have h3 := (hR.1 a).2.1 (by omega) (by omega)
  rw [hk] at h3
  exact W.lald (v := .long (sL σ a i.toNatClampNeg)) he hb h3 ((ty_of hWT.1 (c := 17) (by omega) (by omega)).1 _ _) (fun q => by cases q) (arr_in hi) (arrV_read _ _ (in_lt hi)) rfl rfl d (kk H locs cells slots ls hR hS hA hc hs hl)
theorem x_zald (hg : GoodG g cc own) {x : Option Nat} {a : Nat} {i : Int32} (hx : x = some a) (hk : sK σ a % 32 = 18) (hi : vp_in i (sN σ a)) (d : decode cc pc = .ok (.baload, 1)) (kk : XJ g (pc + 1) lv (.int (sI σ a i.toNatClampNeg) :: rest) σ b) : XJ g pc lv (.int i :: va_rf x :: rest) σ b := by
  obtain ⟨⟨p, l, e, R, s, m, args, below, meth, c0⟩, Q, D, A, mc, ms, nL⟩ := g
  intro H locs cells slots ls hR hS hA hc hs hl
  subst hx
  obtain ⟨he, hb, hml, hown, hts, hWT, -⟩ := hg
  have h3 := (hR.1 a).2.1 (by omega) (by omega)
  rw [hk] at h3
  exact W.zald (v := .int (sI σ a i.toNatClampNeg)) he hb h3 ((ty_of hWT.1 (c := 18) (by omega) (by omega)).1 _ _) (fun q => by cases q) (arr_in hi) (arrV_read _ _ (in_lt hi)) rfl rfl d (kk H locs cells slots ls hR hS hA hc hs hl)
theorem x_bald (hg : GoodG g cc own) {x : Option Nat} {a : Nat} {i : Int32} (hx : x = some a) (hk : sK σ a % 32 = 19) (hi : vp_in i (sN σ a)) (d : decode cc pc = .ok (.baload, 1)) (kk : XJ g (pc + 1) lv (.int (sI σ a i.toNatClampNeg) :: rest) σ b) : XJ g pc lv (.int i :: va_rf x :: rest) σ b := by
  obtain ⟨⟨p, l, e, R, s, m, args, below, meth, c0⟩, Q, D, A, mc, ms, nL⟩ := g
  intro H locs cells slots ls hR hS hA hc hs hl
  subst hx
  obtain ⟨he, hb, hml, hown, hts, hWT, -⟩ := hg
  have h3 := (hR.1 a).2.1 (by omega) (by omega)
  rw [hk] at h3
  exact W.bald (v := .int (sI σ a i.toNatClampNeg)) he hb h3 ((ty_of hWT.1 (c := 19) (by omega) (by omega)).1 _ _) (fun q => by cases q) (arr_in hi) (arrV_read _ _ (in_lt hi)) rfl rfl d (kk H locs cells slots ls hR hS hA hc hs hl)
theorem x_aald (hg : GoodG g cc own) {x : Option Nat} {a : Nat} {i : Int32} {c : Nat} (hx : x = some a) (hk : sK σ a % 32 = c) (hcc : c = 20 ∨ c = 21) (hi : vp_in i (sN σ a)) (d : decode cc pc = .ok (.aaload, 1)) (kk : XJ g (pc + 1) lv (va_rf (sR σ a i.toNatClampNeg) :: rest) σ b) : XJ g pc lv (.int i :: va_rf x :: rest) σ b := by
  obtain ⟨⟨p, l, e, R, s, m, args, below, meth, c0⟩, Q, D, A, mc, ms, nL⟩ := g
  intro H locs cells slots ls hR hS hA hc hs hl
  subst hx
  obtain ⟨he, hb, hml, hown, hts, hWT, -⟩ := hg
  have h3 := (hR.1 a).2.1 (by omega) (by omega)
  rw [hk] at h3
  have hv : sV σ (tgT (aty c)) a i.toNatClampNeg = va_rf (sR σ a i.toNatClampNeg) := by rcases hcc with h | h <;> subst h <;> rfl
  exact W.aald (ty := aty c) (v := va_rf (sR σ a i.toNatClampNeg)) he hb h3 ((ty_of hWT.1 (c := c) (by omega) (by omega)).1 _ _) (by rcases hcc with h | h <;> subst h <;> rfl) (fun q => by cases q) (arr_in hi) (by rw [← hv]; exact arrV_read _ _ (in_lt hi)) rfl rfl d (kk H locs cells slots ls hR hS hA hc hs hl)
/-- behind a store into a row -/
theorem rep_st {D : Dg} {U : State} {σ σ' : Sg} {a c k : Nat} {v : Value} {H H1 : Heap} (hR : Rep D U σ H) (hk : sK σ a % 32 = c) (h1 : 16 ≤ c) (h2 : c ≤ 21) (e1 : H1[a]? = some ((arrV (D.2.1 c) (sN σ a) (fun j => sV σ (tgT (aty c)) a j)).setSlot k v)) (hz : H1.size = H.size) (oq : ∀ q, q ≠ a → H1[q]? = H[q]?) (hK : sK σ' = sK σ) (hN : sN σ' = sN σ) (ho : ∀ q, q ≠ a → sI σ' q = sI σ q ∧ sL σ' q = sL σ q ∧ sR σ' q = sR σ q) (hval : ∀ j, sV σ' (tgT (aty c)) a j = updV (fun j => sV σ (tgT (aty c)) a j) k v j) : Rep D U σ' H1 := by
  refine rep_put hR (Or.inr (by omega)) hz oq hK hN ho ?_
  have hk' : sK σ' a % 32 = c := by rw [hK]; exact hk
  refine ⟨fun z => by omega, fun _ _ => ?_, fun z => by omega, fun z => by omega⟩
  rw [hk']
  show H1[a]? = some _
  rw [e1, arrV_store, hN]
  congr 2
  funext j
  exact (hval j).symm
theorem x_iast (hg : GoodG g cc own) {x : Option Nat} {a : Nat} {i v : Int32} (hx : x = some a) (hk : sK σ a % 32 = 16) (hi : vp_in i (sN σ a)) (d : decode cc pc = .ok (.iastore, 1)) (kk : XJ g (pc + 1) lv rest (pI σ a i.toNatClampNeg v) b) : XJ g pc lv (.int v :: .int i :: va_rf x :: rest) σ b := by
  obtain ⟨⟨p, l, e, R, s, m, args, below, meth, c0⟩, Q, D, A, mc, ms, nL⟩ := g
  intro H locs cells slots ls hR hS hA hc hs hl
  subst hx
  obtain ⟨he, hb, hml, hown, hts, hWT, -⟩ := hg
  have h3 := (hR.1 a).2.1 (by omega) (by omega)
  rw [hk] at h3
  refine W.iast he hb h3 ((ty_of hWT.1 (c := 16) (by omega) (by omega)).1 _ _) (fun q => by cases q) (arr_in hi) rfl rfl d fun H1 e1 z oq => ?_
  exact kk H1 _ cells slots ls (rep_st (σ' := pI σ a i.toNatClampNeg v) hR hk (by omega) (by omega) e1 z oq rfl rfl (pI_o σ a _ v) (fun j => sV_pI σ a _ v (fun _ => 0) rfl j)) (hS.put z oq (hA a (Or.inr (by omega)))) hA hc hs hl
theorem x_last (hg : GoodG g cc own) {x : Option Nat} {a : Nat} {i : Int32} {v : Int64} (hx : x = some a) (hk : sK σ a % 32 = 17) (hi : vp_in i (sN σ a)) (d : decode cc pc = .ok (.lastore, 1)) (kk : XJ g (pc + 1) lv rest (pL σ a i.toNatClampNeg v) b) : XJ g pc lv (.long v :: .int i :: va_rf x :: rest) σ b := by
  obtain ⟨⟨p, l, e, R, s, m, args, below, meth, c0⟩, Q, D, A, mc, ms, nL⟩ := g
  intro H locs cells slots ls hR hS hA hc hs hl
  subst hx
  obtain ⟨he, hb, hml, hown, hts, hWT, -⟩ := hg
  have h3 := (hR.1 a).2.1 (by omega) (by omega)
  rw [hk] at h3
  refine W.last he hb h3 ((ty_of hWT.1 (c := 17) (by omega) (by omega)).1 _ _) (fun q => by cases q) (arr_in hi) rfl rfl d fun H1 e1 z oq => ?_
  exact kk H1 _ cells slots ls (rep_st (σ' := pL σ a i.toNatClampNeg v) hR hk (by omega) (by omega) e1 z oq rfl rfl (pL_o σ a _ v) (fun j => sV_pL σ a _ v (fun _ => 1) rfl j)) (hS.put z oq (hA a (Or.inr (by omega)))) hA hc hs hl
theorem x_zast (hg : GoodG g cc own) {x : Option Nat} {a : Nat} {i v : Int32} (hx : x = some a) (hk : sK σ a % 32 = 18) (hi : vp_in i (sN σ a)) (hz : bz v) (d : decode cc pc = .ok (.bastore, 1)) (kk : XJ g (pc + 1) lv rest (pI σ a i.toNatClampNeg v) b) : XJ g pc lv (.int v :: .int i :: va_rf x :: rest) σ b := by
  obtain ⟨⟨p, l, e, R, s, m, args, below, meth, c0⟩, Q, D, A, mc, ms, nL⟩ := g
  intro H locs cells slots ls hR hS hA hc hs hl
  subst hx
  obtain ⟨he, hb, hml, hown, hts, hWT, -⟩ := hg
  have h3 := (hR.1 a).2.1 (by omega) (by omega)
  rw [hk] at h3
  refine W.zast he hb h3 ((ty_of hWT.1 (c := 18) (by omega) (by omega)).1 _ _) (fun q => by cases q) (arr_in hi) rfl rfl d fun H1 e1 z oq => ?_
  rw [(bz_nar hz).1] at e1
  exact kk H1 _ cells slots ls (rep_st (σ' := pI σ a i.toNatClampNeg v) hR hk (by omega) (by omega) e1 z oq rfl rfl (pI_o σ a _ v) (fun j => sV_pI σ a _ v (fun _ => 0) rfl j)) (hS.put z oq (hA a (Or.inr (by omega)))) hA hc hs hl
theorem x_bast (hg : GoodG g cc own) {x : Option Nat} {a : Nat} {i v : Int32} (hx : x = some a) (hk : sK σ a % 32 = 19) (hi : vp_in i (sN σ a)) (d : decode cc pc = .ok (.bastore, 1)) (kk : XJ g (pc + 1) lv rest (pI σ a i.toNatClampNeg v.toInt8.toInt32) b) : XJ g pc lv (.int v :: .int i :: va_rf x :: rest) σ b := by
  obtain ⟨⟨p, l, e, R, s, m, args, below, meth, c0⟩, Q, D, A, mc, ms, nL⟩ := g
  intro H locs cells slots ls hR hS hA hc hs hl
  subst hx
  obtain ⟨he, hb, hml, hown, hts, hWT, -⟩ := hg
  have h3 := (hR.1 a).2.1 (by omega) (by omega)
  rw [hk] at h3
  refine W.bast he hb h3 ((ty_of hWT.1 (c := 19) (by omega) (by omega)).1 _ _) (fun q => by cases q) (arr_in hi) rfl rfl d fun H1 e1 z oq => ?_
  have hn : narrow .byte (.int v) = .int v.toInt8.toInt32 := rfl
  rw [hn] at e1
  exact kk H1 _ cells slots ls (rep_st (σ' := pI σ a i.toNatClampNeg v.toInt8.toInt32) hR hk (by omega) (by omega) e1 z oq rfl rfl (pI_o σ a _ _) (fun j => sV_pI σ a _ _ (fun _ => 0) rfl j)) (hS.put z oq (hA a (Or.inr (by omega)))) hA hc hs hl
/-- an object of ours may lie in a row of objects -/
theorem rep_any {D : Dg} {s : State} {σ : Sg} {H : Heap} {v : Nat} (hR : Rep D s σ H) (hW : WdT D s) (h1 : 1 ≤ sK σ v % 32) (h2 : sK σ v % 32 ≤ 13) : va_Any "java/lang/Object" s H v := by
  have hlt : sK σ v % 32 - 1 < vwCl.length := by show _ < 13; omega
  have hq : vwCl[sK σ v % 32 - 1]? = some (vwCl[sK σ v % 32 - 1]) := List.getElem?_eq_getElem hlt
  obtain ⟨cell, q1, q2, q3, -⟩ := (hR.1 v).1 h1 h2 _ hq
  obtain ⟨-, hfc, kC, hkC, hkind⟩ := hW.1.1 _ _ hq
  refine ⟨cell, q1, by rw [q3]; rfl, ⟨kC, by rw [q2]; exact hkC⟩, fun comp hcomp => ?_⟩
  obtain ⟨c1, t1, f1, f2, f3⟩ := Cond.castable_spec (va_Nw.use (A := #[]) rfl (hW.2.2.2.1 _ (List.mem_of_getElem? hq)))
  rw [hfc] at f1
  cases f1
  rw [hcomp] at f2
  cases f2
  rw [q2]
  exact f3
theorem x_aast (hg : GoodG g cc own) {x : Option Nat} {a v : Nat} {y : Option Nat} {i : Int32} (hx : x = some a) (hy : y = some v) (hk : sK σ a % 32 = 20) (hi : vp_in i (sN σ a)) (h1 : 1 ≤ sK σ v % 32) (h2 : sK σ v % 32 ≤ 13) (d : decode cc pc = .ok (.aastore, 1)) (kk : XJ g (pc + 1) lv rest (pR σ a i.toNatClampNeg y) b) : XJ g pc lv (va_rf y :: .int i :: va_rf x :: rest) σ b := by
  obtain ⟨⟨p, l, e, R, s, m, args, below, meth, c0⟩, Q, D, A, mc, ms, nL⟩ := g
  intro H locs cells slots ls hR hS hA hc hs hl
  subst hx hy
  obtain ⟨he, hb, hml, hown, hts, hWT, -⟩ := hg
  have h3 := (hR.1 a).2.1 (by omega) (by omega)
  rw [hk] at h3
  obtain ⟨cellV, g1, g3, ⟨kC, hkC⟩, hasg⟩ := rep_any hR hWT h1 h2
  obtain ⟨kA, comp, k1, k2, k3, -⟩ := (ty_of hWT.1 (c := 20) (by omega) (by omega)).2
  obtain ⟨kE, hkE, -⟩ := Vm.findClass_spec k3
  refine W.aast he hb h3 (fun q h => by cases h) (fun h => by cases h) k1 k2 rfl hkE ⟨fun q => hi (Or.inl q), by rw [arrV_size]; exact in_lt hi⟩ g1 (fun q h => by rw [h] at g3; cases g3) hkC (hasg _ k3) rfl rfl d fun H1 e1 z oq => ?_
  exact kk H1 _ cells slots ls (rep_st (σ' := pR σ a i.toNatClampNeg (some v)) hR hk (by omega) (by omega) e1 z oq rfl rfl (pR_o σ a _ _) (fun j => sV_pR σ a _ _ (fun _ => 2) rfl j)) (hS.put z oq (hA a (Or.inr (by omega)))) hA hc hs hl
/-- the store behind a new cell -/
theorem rep_nw {D : Dg} {U : State} {σ : Sg} {κ n : Nat} {H H1 : Heap} (hR : Rep D U σ H) (hb0 : base D ≤ H.size) (hz : H1.size = H.size + 1) (oq : ∀ q, q < H.size → H1[q]? = H[q]?) (hw : wr κ) (h : rp D U (nw σ H.size κ n) H.size H1) : Rep D U (nw σ H.size κ n) H1 ∧ sK σ H.size = 0 := by
  obtain ⟨h1, h2, h3, h4, h5, h6, h7⟩ := hR
  have h0 : sK σ H.size = 0 := by
    rcases Nat.eq_zero_or_pos (sK σ H.size) with q | q
    · exact q
    · exact absurd (h3 H.size (by omega)) (Nat.lt_irrefl _)
  have hn1 : D.2.2 1 ≠ H.size := fun e => by rw [e] at h5; omega
  have hn2 : D.2.2 2 ≠ H.size := fun e => by have := (h4 (D.2.2 2)).mpr rfl; rw [e, h0] at this; omega
  refine ⟨⟨fun q => ?_, fun q hq => ?_, fun q hq => ?_, fun q => ?_, ?_, ?_, fun j hj => ?_⟩, h0⟩
  · by_cases hq : q = H.size
    · subst hq; exact h
    · refine rp.congr (σ := σ) (by rw [sK_nw, if_neg hq]) (by rw [sN_nw, if_neg hq]) (by funext j; rw [sI_nw, if_neg hq]) (by funext j; rw [sL_nw, if_neg hq]) (by funext j; rw [sR_nw, if_neg hq]) ?_
      by_cases hl : q < H.size
      · exact (h1 q).kept (oq q hl)
      · have hz0 : sK σ q = 0 := by
          rcases Nat.eq_zero_or_pos (sK σ q) with z | z
          · exact z
          · exact absurd (h3 q (by omega)) hl
        exact ⟨fun z => by rw [hz0] at z; omega, fun z => by rw [hz0] at z; omega, fun z => by rw [hz0] at z; omega, fun z => by rw [hz0] at z; omega⟩
  · rw [sK_nw] at hq
    by_cases e : q = H.size
    · rw [e]; exact hb0
    · rw [if_neg e] at hq; exact h2 q hq
  · rw [sK_nw] at hq
    by_cases e : q = H.size
    · omega
    · rw [if_neg e] at hq; have := h3 q hq; omega
  · rw [sK_nw]
    by_cases e : q = H.size
    · rw [if_pos e]
      unfold wr at hw
      constructor
      · intro z; omega
      · intro z; exact absurd (z.symm.trans e) hn2
    · rw [if_neg e]; exact h4 q
  · rw [sK_nw, if_neg hn1]; exact h5
  · rw [sN_nw, if_neg hn1]; exact h6
  · rw [sI_nw, if_neg hn1]; exact h7 j hj
def NL (own : String) (idx c n : Nat) : Prop := ∃ (C : String) (T : u_T), vwCl[c - 1]? = some (C, T, n) ∧ 1 ≤ c ∧ c ≤ 13 ∧ Cond.classLink own idx C ∈ AW ∧ Cond.instantiable C n ∈ AW ∧ Cond.initialized C ∈ AW ∧ (∀ w ∈ u_ws C T n, w ∈ AW) ∧ (∀ k, k < n → parseFieldDescriptor (T k).2.2.1 = some (fty c k))
theorem dv_sV (σ : Sg) (q k n : Nat) (ty : FieldType) (hf : ty ≠ .float ∧ ty ≠ .double) (j : Nat) : defaultValue ty = sV (nw σ q k n) (tgT ty) q j := by
  have h1 : sI (nw σ q k n) q j = 0 := by rw [sI_nw, if_pos rfl]
  have h2 : sL (nw σ q k n) q j = 0 := by rw [sL_nw, if_pos rfl]
  have h3 : sR (nw σ q k n) q j = none := by rw [sR_nw, if_pos rfl]
  cases ty <;> simp_all [defaultValue, sV, tgT, va_rf]
theorem fty_ok (c j : Nat) : fty c j ≠ .float ∧ fty c j ≠ .double := by
  unfold fty
  constructor <;> (split <;> (first | (unfold tyJx4a65c; split <;> exact fun h => nomatch h) | (unfold tyX0; split <;> exact fun h => nomatch h) | (unfold tyX1; split <;> exact fun h => nomatch h) | (unfold tyX2; split <;> exact fun h => nomatch h) | (unfold tyX3; split <;> exact fun h => nomatch h) | (unfold tyX4; split <;> exact fun h => nomatch h) | (unfold tyX5; split <;> exact fun h => nomatch h) | (unfold tyX6; split <;> exact fun h => nomatch h) | (unfold tyX7; split <;> exact fun h => nomatch h) | (unfold tyX8; split <;> exact fun h => nomatch h) | (unfold tyX9; split <;> exact fun h => nomatch h) | (unfold tyX10; split <;> exact fun h => nomatch h) | (unfold tyX11; split <;> exact fun h => nomatch h)))
theorem x_new (hg : GoodG g cc own) {idx c n κ : Nat} (hN : NL own idx c n) (hκ : κ % 32 = c) (h1 : 1 ≤ b.1) (h2 : n ≤ b.2) (d : decode cc pc = .ok (.new idx, 3)) (kk : ∀ q, sK σ q = 0 → XJ g (pc + 3) lv (va_rf (some q) :: rest) (nw σ q κ 0) (b.1 - 1, b.2 - n)) : XJ g pc lv rest σ b := by
  obtain ⟨⟨p, l, e, R, s, m, args, below, meth, c0⟩, Q, D, A, mc, ms, nL⟩ := g
  intro H locs cells slots ls hR hS hA hc hs hl
  obtain ⟨he, hb, hml, hown, hts, hWT, hWH, hA1, hA2, hmc, hms, -⟩ := hg
  obtain ⟨C, T, q1, q2, q3, q4, q5, q6, q7, q8⟩ := hN
  have hKn := hWT.1.1 (c - 1) _ q1
  refine W.newcK he hb hown (hts _ q4) (hts _ q5) (hts _ q6) rfl d (by omega) (by omega) hKn.2.1 rfl fun H1 kC hkC e1 z1 o1 => ?_
  have hb0 : base D ≤ H.size := Nat.le_trans (hA2 _ (hA1 _ (Nat.le_refl _))) hS.1
  have hwk : wr κ := Or.inl (by omega)
  have hk' : sK (nw σ H.size κ 0) H.size = κ := by rw [sK_nw, if_pos rfl]
  obtain ⟨hR1, h0⟩ := rep_nw (n := 0) hR hb0 z1 o1 hwk (by
    refine ⟨fun _ _ q hq => ?_, fun z => by rw [hk'] at z; omega, fun z => by rw [hk'] at z; omega, fun z => by rw [hk'] at z; omega⟩
    rw [hk', hκ] at hq ⊢
    cases q1.symm.trans hq
    exact (u_born (fty c) hts q7 hKn hkC e1 q8).to (fun j _ => dv_sV σ H.size κ 0 (fty c j) (fty_ok c j) j))
  refine kk H.size h0 H1 locs (cells + 1) (slots + n) ls hR1 ⟨Nat.le_trans hS.1 (by omega), fun x h1 h2 => (o1 x (Nat.lt_of_lt_of_le h1 hS.1)).trans (hS.2.1 x h1 h2), hS.2.2⟩ (fun q hq => ?_) (by show cells + 1 + (b.1 - 1) ≤ mc; omega) (by show slots + n + (b.2 - n) ≤ ms; omega) hl
  rw [sK_nw] at hq
  by_cases e1 : q = H.size
  · rw [e1]; exact hA1 _ hS.1
  · rw [if_neg e1] at hq; exact hA q hq
theorem x_newa (hg : GoodG g cc own) {at0 : ArrayType} {c κ : Nat} {n : Int32} (hat : newarray.typeOf at0 = aty c) (hc1 : 16 ≤ c) (hc2 : c ≤ 19) (hw : Cond.arrayClass (newarray.typeOf at0) ∈ AW) (hκ : κ % 32 = c) (hn : ¬ n < 0) (hn2 : n.toNatClampNeg ≤ 65536) (h1 : 1 ≤ b.1) (h2 : n.toNatClampNeg ≤ b.2) (hcA : ∀ (s : State) (D : Dg), WdT D s → ∀ cA, s.vm.findClass ("[" ++ (newarray.typeOf at0).toString) = some cA → cA = D.2.1 c) (d : decode cc pc = .ok (.newarray at0, 2)) (kk : ∀ q, sK σ q = 0 → XJ g (pc + 2) lv (va_rf (some q) :: rest) (nw σ q κ n.toNatClampNeg) (b.1 - 1, b.2 - n.toNatClampNeg)) : XJ g pc lv (.int n :: rest) σ b := by
  obtain ⟨⟨p, l, e, R, s, m, args, below, meth, c0⟩, Q, D, A, mc, ms, nL⟩ := g
  intro H locs cells slots ls hR hS hA hc hs hl
  obtain ⟨he, hb, hml, hown, hts, hWT, hWH, hA1, hA2, hmc, hms, -⟩ := hg
  have hby : n.toNatClampNeg * componentBytes (newarray.typeOf at0) ≤ 536870912 := by
    have : componentBytes (newarray.typeOf at0) ≤ 8 := by cases at0 <;> decide
    calc n.toNatClampNeg * componentBytes (newarray.typeOf at0) ≤ 65536 * 8 := Nat.mul_le_mul hn2 this
      _ ≤ 536870912 := by decide
  refine va_newaK he hb (hts _ hw) rfl d rfl hn rfl hby (by omega) (by omega) rfl fun H1 cA e1 z1 o1 hAr hNm => ?_
  have hcA' := hcA s D hWT cA hNm
  subst hcA'
  have hb0 : base D ≤ H.size := Nat.le_trans (hA2 _ (hA1 _ (Nat.le_refl _))) hS.1
  have hwk : wr κ := Or.inr (by omega)
  have hk' : sK (nw σ H.size κ n.toNatClampNeg) H.size = κ := by rw [sK_nw, if_pos rfl]
  obtain ⟨hR1, h0⟩ := rep_nw (n := n.toNatClampNeg) hR hb0 z1 o1 hwk (by
    refine ⟨fun z => by rw [hk'] at z; omega, fun _ _ => ?_, fun z => by rw [hk'] at z; omega, fun z => by rw [hk'] at z; omega⟩
    rw [hk', hκ]
    show H1[H.size]? = some _
    rw [e1, sN_nw, if_pos rfl, hat]
    congr 2
    funext j
    exact dv_sV σ H.size κ n.toNatClampNeg (aty c) (by rcases (show c = 16 ∨ c = 17 ∨ c = 18 ∨ c = 19 by omega) with h | h | h | h <;> subst h <;> exact ⟨(fun h => nomatch h), (fun h => nomatch h)⟩) j)
  refine kk H.size h0 H1 locs (cells + 1) (slots + n.toNatClampNeg) ls hR1 ⟨Nat.le_trans hS.1 (by omega), fun x h1 h2 => (o1 x (Nat.lt_of_lt_of_le h1 hS.1)).trans (hS.2.1 x h1 h2), hS.2.2⟩ (fun q hq => ?_) (by show cells + 1 + (b.1 - 1) ≤ mc; omega) (by show slots + n.toNatClampNeg + (b.2 - n.toNatClampNeg) ≤ ms; omega) hl
  rw [sK_nw] at hq
  by_cases e1 : q = H.size
  · rw [e1]; exact hA1 _ hS.1
  · rw [if_neg e1] at hq; exact hA q hq
end XA
