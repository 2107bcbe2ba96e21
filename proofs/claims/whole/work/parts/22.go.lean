/-! ===== the law's entry: the store, the walk ===== -/
theorem en_ne2 {D : Dg} {s : State} {H : Heap} {A : Nat → Prop} {t1 t2 N : Nat} {f1 f2 : Nat → Value} {ty : FieldType} (h1 : va_T .int t1 N f1 A s H) (h2 : va_T (.object "java/lang/Object") t2 0 f2 A s H) : ¬ t1 = t2 := fun e => by
  obtain ⟨c1, a1, ⟨-, k1, b1, m1, d1⟩, -⟩ := h1
  obtain ⟨c2, a2, ⟨-, k2, b2, m2, d2⟩, -⟩ := h2
  rw [e, a2] at a1
  cases a1
  rw [b2] at b1
  cases b1
  rw [d2] at d1
  cases d1
def S0 (D : Dg) (b L : Nat) (xs : Nat → Int32) : Sg := ofv (fun a => if a = D.2.2 1 then vBare else if a = D.2.2 2 then vEmpty else if a = b then (24, L, xs, fun _ => 0, fun _ => none) else vw0)
theorem whole_go (Inv : Sg → Sg → Prop) (hV : InvOk Inv) (hPs : Prs Inv) (hIn : PrInit Inv) {p : Program} {e : Env} {s : State} {m : MethodId} {below : List Frame} {meth : Method} {c : Code} (l : Launch) {b L : Nat} {xs : Nat → Int32} (hL : L ≤ 3072) (C0 : lw_At p s m meth c b L xs) : W p l e room_1 s m #[Value.ref b] below meth c s.heap [] 0 0 (lw_Z below #[Value.ref b] s) (entryFrame m ([Value.ref b] : List Value).toArray 4) := by
  obtain ⟨hx, hb, hr, hml, hown, hts, hX, hbl, hlocks, hgv0⟩ := C0
  have hgv := flat_of_before _ hgv0
  obtain ⟨D, hbase, hWT, hWH, hB, hE, hEv⟩ := en_all hts hgv
  have hbB : ¬ b = D.2.2 1 := fun e => by
    have hne : (Cond.not (Cond.eq (.arg 0) (.static "RainStreets" "BARE" "[I"))).before #[Value.ref b] s = true := hgv _ (by decide +kernel)
    exact va_neR hne (show (Term.arg 0).eval #[Value.ref b] s none [] s = some (.ref b) from rfl) hEv e
  have hT : va_T .int b L (fun j => .int (xs j)) (A0 D) s s.heap := by
    obtain ⟨scr, h1, h2, h3, h4, h5⟩ := hX
    exact ⟨scr, h1, h2, h3, Nat.le_of_eq h4.symm, by rw [h4], h5, fun h => by
      have h : base D ≤ b := h
      rw [hbase] at h
      omega⟩
  have hbE : ¬ b = D.2.2 2 := en_ne2 (D := D) (ty := .int) hT hE
  have hBE : ¬ D.2.2 1 = D.2.2 2 := en_ne2 (D := D) (ty := .int) hB hE
  have v1 : vw (S0 D b L xs) (D.2.2 1) = vBare := if_pos rfl
  have v2 : vw (S0 D b L xs) (D.2.2 2) = vEmpty := (if_neg (fun e => hBE e.symm)).trans (if_pos rfl)
  have v3 : vw (S0 D b L xs) b = (24, L, xs, fun _ => 0, fun _ => none) := (if_neg hbB).trans ((if_neg hbE).trans (if_pos rfl))
  have v4 : ∀ a, ¬ a = D.2.2 1 → ¬ a = D.2.2 2 → ¬ a = b → vw (S0 D b L xs) a = vw0 := fun a h1 h2 h3 => (if_neg h1).trans ((if_neg h2).trans (if_neg h3))
  have kz : ∀ a, ¬ a = D.2.2 1 → ¬ a = D.2.2 2 → ¬ a = b → sK (S0 D b L xs) a = 0 := fun a h1 h2 h3 => congrArg (fun z => z.1) (v4 a h1 h2 h3)
  have k1 : sK (S0 D b L xs) (D.2.2 1) = 24 := congrArg (fun z => z.1) v1
  have k2 : sK (S0 D b L xs) (D.2.2 2) = 25 := congrArg (fun z => z.1) v2
  have k3 : sK (S0 D b L xs) b = 24 := congrArg (fun z => z.1) v3
  have hro : ro D (S0 D b L xs) := by
    refine ⟨fun a => ⟨fun h => ?_, fun h => by rw [h, k2]⟩, k1, congrArg (fun z => z.2.1) v1, fun j _ => congrFun (congrArg (fun z => z.2.2.1) v1) j⟩
    by_cases c1 : a = D.2.2 1
    · rw [c1, k1] at h; omega
    · by_cases c2 : a = D.2.2 2
      · exact c2
      · by_cases c3 : a = b
        · rw [c3, k3] at h; omega
        · rw [kz a c1 c2 c3] at h; omega
  have hnw : ∀ a, ¬ wr (sK (S0 D b L xs) a) := fun a h => by
    by_cases c1 : a = D.2.2 1
    · rw [c1, k1] at h; unfold wr at h; omega
    · by_cases c2 : a = D.2.2 2
      · rw [c2, k2] at h; unfold wr at h; omega
      · by_cases c3 : a = b
        · rw [c3, k3] at h; unfold wr at h; omega
        · rw [kz a c1 c2 c3] at h; exact wr0 h
  have hlt : ∀ {ty : FieldType} {t N : Nat} {f : Nat → Value}, va_T ty t N f (A0 D) s s.heap → t < s.heap.size := fun h => by
    obtain ⟨cell, h1, -⟩ := h
    exact (Array.getElem?_eq_some_iff.mp h1).1
  have hR : Rep D s (S0 D b L xs) s.heap := by
    refine ⟨fun a => ?_, fun a h => absurd h (hnw a), fun a h => ?_, hro⟩
    · by_cases c1 : a = D.2.2 1
      · subst c1
        refine ⟨fun z => by rw [k1] at z ⊢; omega, fun z => by rw [k1] at z ⊢; omega, fun _ => ?_, fun z => by rw [k1] at z; omega⟩
        rw [show sN (S0 D b L xs) (D.2.2 1) = 21 from congrArg (fun z => z.2.1) v1, show sI (S0 D b L xs) (D.2.2 1) = bareV from congrArg (fun z => z.2.2.1) v1]
        exact hB
      · by_cases c2 : a = D.2.2 2
        · subst c2
          exact ⟨fun z => by rw [k2] at z ⊢; omega, fun z => by rw [k2] at z ⊢; omega, fun z => by rw [k2] at z; omega, fun _ => hE⟩
        · by_cases c3 : a = b
          · subst c3
            refine ⟨fun z => by rw [k3] at z ⊢; omega, fun z => by rw [k3] at z ⊢; omega, fun _ => ?_, fun z => by rw [k3] at z; omega⟩
            rw [show sN (S0 D a L xs) a = L from congrArg (fun z => z.2.1) v3, show sI (S0 D a L xs) a = xs from congrArg (fun z => z.2.2.1) v3]
            exact hT
          · exact rp_zero (kz a c1 c2 c3)
    · by_cases c1 : a = D.2.2 1
      · rw [c1]; exact hlt hB
      · by_cases c2 : a = D.2.2 2
        · rw [c2]; exact hlt hE
        · by_cases c3 : a = b
          · rw [c3]; exact hbl
          · exact absurd (kz a c1 c2 c3) h
  have hI : Iso D S00 D.2.2 (S0 D b L xs) := by
    have live : ∀ h, ¬ sK S00 h = 0 → h = 1 ∨ h = 2 := fun h hh => (okS00.2.2 h hh).elim Or.inl (fun z => z.elim Or.inr (fun w => by
      by_cases e1 : h = 1
      · exact Or.inl e1
      · by_cases e2 : h = 2
        · exact Or.inr e2
        · exact absurd (congrArg (fun z => z.1) (show vw S00 h = vw0 from (if_neg e1).trans (if_neg e2))) hh))
    refine ⟨fun h hh => ?_, fun h h' hh hh' e => ?_, fun h hh k r hr => ?_, rfl, rfl, rfl, fun i hi => ⟨rfl, rfl⟩⟩
    · rcases live h hh with e | e
      · subst e
        exact ⟨k1, congrArg (fun z => z.2.1) v1, congrArg (fun z => z.2.2.1) v1, congrArg (fun z => z.2.2.2.1) v1, fun k => congrFun (congrArg (fun z => z.2.2.2.2) v1) k⟩
      · subst e
        exact ⟨k2, congrArg (fun z => z.2.1) v2, congrArg (fun z => z.2.2.1) v2, congrArg (fun z => z.2.2.2.1) v2, fun k => congrFun (congrArg (fun z => z.2.2.2.2) v2) k⟩
    · rcases live h hh with e1 | e1 <;> rcases live h' hh' with e2 | e2 <;> subst e1 <;> subst e2
      · rfl
      · exact absurd e hBE
      · exact absurd e.symm hBE
      · rfl
    · rcases live h hh with e1 | e1 <;> subst e1 <;> cases hr
  have hn00 : ∀ h, ¬ wr (sK S00 h) := fun h w => by
    by_cases e1 : h = 1
    · subst e1; exact absurd w (by show ¬ wr 24; unfold wr; omega)
    · by_cases e2 : h = 2
      · subst e2; exact absurd w (by show ¬ wr 25; unfold wr; omega)
      · rw [show sK S00 h = 0 from congrArg (fun z => z.1) (show vw S00 h = vw0 from (if_neg e1).trans (if_neg e2))] at w
        exact wr0 w
  have hJ : LJ D b L xs (S0 D b L xs) D.2.2 D.2.2 S00 S00 := ⟨hI, hI, okS00, okS00, fun h h' w _ => absurd w (hn00 h), ⟨k3, congrArg (fun z => z.2.1) v3, congrArg (fun z => z.2.2.1) v3⟩, hro⟩
  let g : Gx := ((p, l, e, room_1, s, m, #[Value.ref b], below, meth, c), lw_Z below #[Value.ref b] s, D, (fun q => s.heap.size ≤ q), 600000, 7302249, 4)
  have hg : GoodG g code RL := ⟨hx, hb, hml, hown, fun w hw => hts w (List.mem_filter.mp hw).1, hWT, hWH, fun q h => h, fun q h => by rw [hbase]; exact h, Nat.le_refl _, Nat.le_refl _, hlocks⟩
  have hend : ∀ (lv : List (Nat × Value)) (σ : Sg) (b2 : Nat × Nat), XJ g 1352 lv [.int 1] σ b2 := by
    intro lv σ b2 H locs cells slots ls hR2 hS2 hA2 hc hs hl
    exact va_forget (fun q hq => hS2.2.2 q hq) (W.widen (k := 600000) (n := 7302249) (by omega) (by omega) (lw_ret hx hb hr hlocks dL_law_1352))
  have hgo := l_start (g := g) (sb := b) (L := L) (xs := xs) (ax := D.2.2 1000) (am := D.2.2 1000) hg rfl hV rfl hL hPs hIn hend D.2.2 D.2.2 (S0 D b L xs) hJ rfl rfl
  have hl := lv_entry (n := 4) [Value.ref b] (Nat.le_of_ble_eq_true rfl)
  rw [lg_entry_eq]
  exact hgo s.heap [] 0 0 _ hR va_S.rf (fun q h => absurd h (hnw q)) (by decide) (by decide) hl
