/-! ===== the law's start ===== -/
def S00 : Sg := ofv (fun a => if a = 1 then vBare else if a = 2 then vEmpty else vw0)
def PrInit (Inv : Sg → Sg → Prop) : Prop := P_X10_init 1000 (nw S00 1000 12 0) (40000, 60000) (fun _ S' => okS S' ∧ P_X11_init 1000 (nw S00 1000 13 0) (40000, 60000) (fun _ S2' => okS S2' ∧ Inv S' S2'))
theorem okS00 : okS S00 := by
  refine ⟨rfl, rfl, fun h hh => ?_⟩
  by_cases e1 : h = 1
  · exact Or.inl e1
  · by_cases e2 : h = 2
    · exact Or.inr (Or.inl e2)
    · exact absurd (by show (if h = 1 then vBare else if h = 2 then vEmpty else vw0).1 = 0; rw [if_neg e1, if_neg e2]; rfl) hh
section LS
variable {g : Gx} {sb L : Nat} {xs : Nat → Int32} {ax am : Nat} {Inv : Sg → Sg → Prop}
theorem l_start (hg : GoodG g code RL) (hrm : gR g = rmL) (hV : InvOk Inv) (hN : gN g = 4) (hL : L ≤ 3072) (hPs : Prs Inv) (hIn : PrInit Inv) (hend : ∀ (lv : List (Nat × Value)) (σ : Sg) (b : Nat × Nat), XJ g 1352 lv [.int 1] σ b) : XL g sb L xs ax am 0 [(0, .ref sb)] [] S00 S00 (600000, 7302249) := by
  refine l_newX hg nl_L_7 (κ := 12) rfl (Or.inl ⟨by decide, by decide⟩) (by decide) (by decide) rfl dL_law_0 (fun ax => ?_)
  refine xl_of (fun _ kk => x_dup hg dL_law_3 rfl kk) ?_
  refine l_callIX (rest := [.ref ax]) (As := []) (c := 12) hg (fun _ _ => RA_ag) (k_X10_init (gL g) (gD g) 1000 (nw S00 1000 12 0) (40000, 60000) _ hIn) (fun _ _ h => h.1) (fun _ => rfl) (fun _ _ => rfl) li_L_9 (by decide) (by rw [sK_nw, if_pos rfl]) rfl rfl dL_law_4 (cat8 (Nat.le_of_ble_eq_true rfl)) hrm ⟨Nat.le_of_ble_eq_true rfl, Nat.le_of_ble_eq_true rfl⟩ (by decide) (by decide) (fun r S' hq => ?_)
  refine xl_of (fun _ kk => x_astore_n (x := some ax) (lv' := [(1, .ref ax), (0, .ref sb)]) hg dL_law_7 rfl (by rw [hN]; decide) rfl kk) ?_
  refine l_newM hg nl_L_10 (κ := 13) rfl (Or.inl ⟨by decide, by decide⟩) (by decide) (by decide) rfl dL_law_8 (fun am => ?_)
  refine xl_of (fun _ kk => x_dup hg dL_law_11 rfl kk) ?_
  refine l_callIM (rest := [.ref am]) (As := []) (c := 13) hg (fun _ _ => RA_ag) (k_X11_init (gL g) (gD g) 1000 (nw S00 1000 13 0) (40000, 60000) _ hq.2) (fun _ _ h => h.1) (fun _ => rfl) (fun _ _ => rfl) li_L_12 (by decide) (by rw [sK_nw, if_pos rfl]) rfl rfl dL_law_12 (cat8 (Nat.le_of_ble_eq_true rfl)) hrm ⟨Nat.le_of_ble_eq_true rfl, Nat.le_of_ble_eq_true rfl⟩ (by decide) (by decide) (fun r2 S2' hq2 => ?_)
  refine xl_of (fun _ kk => x_astore_n (x := some am) (lv' := [(2, .ref am), (1, .ref ax), (0, .ref sb)]) hg dL_law_15 rfl (by rw [hN]; decide) rfl kk) ?_
  refine xl_of (fun _ kk => x_iconst (v := 0) hg dL_law_16 (by decide) kk) ?_
  refine xl_of (fun _ kk => x_istore_n (lv' := [(3, .int 0), (2, .ref am), (1, .ref ax), (0, .ref sb)]) hg dL_law_17 rfl (by rw [hN]; decide) rfl kk) ?_
  exact l_loop hg hrm hV hN hL hPs hend 512 0 0 S' S2' _ rfl (by decide) hq2.2 (by decide) (by decide)
end LS
