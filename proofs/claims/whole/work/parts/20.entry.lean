/-! ===== the law's entry ===== -/
theorem en_arr {s : State} {args : Array Value} {ty : FieldType} (h : (Cond.arrayClass ty).before args s = true) : ∃ cA, ArrOfT s cA ty ∧ s.vm.findClass ("[" ++ ty.toString) = some cA := by
  obtain ⟨c, k, comp, h1, h2, h3⟩ := Cond.arrayClass_spec h
  exact ⟨c, fun n z => ⟨fun _ e => (by cases e), k, h2, comp, h3⟩, h1⟩
theorem en_obj {s : State} {args : Array Value} {C : String} (h : (Cond.arrayOver (.object C)).before args s = true) : ∃ cA, ArrOfT s cA (.object C) ∧ va_RA s cA (.object C) := by
  obtain ⟨comp, c, k, h1, h2, h3, h4, h5⟩ := Cond.arrayOver_spec h
  exact ⟨c, fun n z => ⟨fun _ e => (by cases e), k, h3, comp, h4⟩, k, comp, h3, h4, h1, h5⟩
theorem en_row {s : State} {args : Array Value} {t : FieldType} (h : (Cond.arrayOver (.array t)).before args s = true) : ∃ cA, ArrOfT s cA (.array t) ∧ s.vm.findClass ("[" ++ (FieldType.array t).toString) = some cA := by
  obtain ⟨comp, c, k, h1, h2, h3, h4⟩ := Cond.arrayOver_specA h
  exact ⟨c, fun n z => ⟨fun _ e => (by cases e), k, h2, comp, h3⟩, h4⟩
section EN
variable {s : State} {b : Nat}
theorem en_cls (hts : ∀ w ∈ lw_tbl, w.before #[Value.ref b] s = true) : ∃ G : va_G, ∀ (c : Nat) (q : vw_C), vwCl[c]? = some q → u_Kn s q.1 q.2.1 q.2.2 (G.1 c) (G.2 c) := by
  have hAW : ∀ w ∈ AW, w.before #[Value.ref b] s = true := fun w hw => hts w (List.mem_filter.mp hw).1
  have h0 : ∀ q ∈ vwCl, ∃ z : ClassId × (Nat → Nat), u_Kn s q.1 q.2.1 q.2.2 z.1 z.2 := by
    exact List.forall_mem_cons.mpr ⟨by
      obtain ⟨cC, iS, h⟩ := u_known (ws := AW) (T := TJx4a65c) (N := 3) (n := 3) hAW uw_1 (hts _ (List.mem_of_getElem? (i := 104) (by decide +kernel)))
      exact ⟨(cC, iS), h⟩, List.forall_mem_cons.mpr ⟨by
      obtain ⟨cC, iS, h⟩ := u_known (ws := AW) (T := TX0) (N := 12) (n := 12) hAW uw_2 (hts _ (List.mem_of_getElem? (i := 555) (by decide +kernel)))
      exact ⟨(cC, iS), h⟩, List.forall_mem_cons.mpr ⟨by
      obtain ⟨cC, iS, h⟩ := u_known (ws := AW) (T := TX1) (N := 6) (n := 6) hAW uw_3 (hts _ (List.mem_of_getElem? (i := 717) (by decide +kernel)))
      exact ⟨(cC, iS), h⟩, List.forall_mem_cons.mpr ⟨by
      obtain ⟨cC, iS, h⟩ := u_known (ws := AW) (T := TX2) (N := 9) (n := 9) hAW uw_4 (hts _ (List.mem_of_getElem? (i := 415) (by decide +kernel)))
      exact ⟨(cC, iS), h⟩, List.forall_mem_cons.mpr ⟨by
      obtain ⟨cC, iS, h⟩ := u_known (ws := AW) (T := TX3) (N := 9) (n := 9) hAW uw_5 (hts _ (List.mem_of_getElem? (i := 184) (by decide +kernel)))
      exact ⟨(cC, iS), h⟩, List.forall_mem_cons.mpr ⟨by
      obtain ⟨cC, iS, h⟩ := u_known (ws := AW) (T := TX4) (N := 4) (n := 4) hAW uw_6 (hts _ (List.mem_of_getElem? (i := 130) (by decide +kernel)))
      exact ⟨(cC, iS), h⟩, List.forall_mem_cons.mpr ⟨by
      obtain ⟨cC, iS, h⟩ := u_known (ws := AW) (T := TX5) (N := 15) (n := 15) hAW uw_7 (hts _ (List.mem_of_getElem? (i := 192) (by decide +kernel)))
      exact ⟨(cC, iS), h⟩, List.forall_mem_cons.mpr ⟨by
      obtain ⟨cC, iS, h⟩ := u_known (ws := AW) (T := TX6) (N := 7) (n := 7) hAW uw_8 (hts _ (List.mem_of_getElem? (i := 490) (by decide +kernel)))
      exact ⟨(cC, iS), h⟩, List.forall_mem_cons.mpr ⟨by
      obtain ⟨cC, iS, h⟩ := u_known (ws := AW) (T := TX7) (N := 6) (n := 6) hAW uw_9 (hts _ (List.mem_of_getElem? (i := 158) (by decide +kernel)))
      exact ⟨(cC, iS), h⟩, List.forall_mem_cons.mpr ⟨by
      obtain ⟨cC, iS, h⟩ := u_known (ws := AW) (T := TX8) (N := 5) (n := 5) hAW uw_10 (hts _ (List.mem_of_getElem? (i := 879) (by decide +kernel)))
      exact ⟨(cC, iS), h⟩, List.forall_mem_cons.mpr ⟨by
      obtain ⟨cC, iS, h⟩ := u_known (ws := AW) (T := TX9) (N := 4) (n := 4) hAW uw_11 (hts _ (List.mem_of_getElem? (i := 1111) (by decide +kernel)))
      exact ⟨(cC, iS), h⟩, List.forall_mem_cons.mpr ⟨by
      obtain ⟨cC, iS, h⟩ := u_known (ws := AW) (T := TX10) (N := 18) (n := 18) hAW uw_12 (hts _ (List.mem_of_getElem? (i := 96) (by decide +kernel)))
      exact ⟨(cC, iS), h⟩, List.forall_mem_cons.mpr ⟨by
      obtain ⟨cC, iS, h⟩ := u_known (ws := AW) (T := TX11) (N := 82) (n := 82) hAW uw_13 (hts _ (List.mem_of_getElem? (i := 1193) (by decide +kernel)))
      exact ⟨(cC, iS), h⟩, fun _ h => absurd h List.not_mem_nil⟩⟩⟩⟩⟩⟩⟩⟩⟩⟩⟩⟩⟩
  have h1 : ∀ c : Nat, ∃ z : ClassId × (Nat → Nat), ∀ q : vw_C, vwCl[c]? = some q → u_Kn s q.1 q.2.1 q.2.2 z.1 z.2 := fun c => by
    cases hq : vwCl[c]? with
    | none => exact ⟨(0, fun _ => 0), fun q h => nomatch h⟩
    | some q =>
      obtain ⟨z, hz⟩ := h0 q (List.mem_of_getElem? hq)
      exact ⟨z, fun q2 h => by cases h; exact hz⟩
  obtain ⟨f, hf⟩ := Classical.axiomOfChoice h1
  exact ⟨(fun c => (f c).1, fun c => (f c).2), fun c q h => hf c q h⟩
end EN
