/-! ===== the law's walk: two objects, the script ===== -/
def XL (g : Gx) (sb L : Nat) (xs : Nat → Int32) (ax am : Nat) (pc : Nat) (lv : List (Nat × Value)) (st : List Value) (S S2 : Sg) (b : Nat × Nat) : Prop := ∀ (ad ad2 : Nat → Nat) (σ : Sg), LJ (gD g) sb L xs σ ad ad2 S S2 → ad 1000 = ax → ad2 1000 = am → XJ g pc lv st σ b
theorem LJ.nw1 {D : Dg} {sb L : Nat} {xs : Nat → Int32} {σ : Sg} {ad ad2 : Nat → Nat} {S S2 : Sg} (h : LJ D sb L xs σ ad ad2 S S2) {q q' κ : Nat} (hw : wr κ) (hq : sK S q = 0) (h1000 : 1000 ≤ q) (hq' : sK σ q' = 0) : LJ D sb L xs (nw σ q' κ 0) (va_up ad q q') ad2 (nw S q κ 0) S2 := by
  obtain ⟨hI, hI2, hk, hk2, hdj, hscr, hro⟩ := h
  have hne : ∀ a, ¬ sK σ a = 0 → ¬ a = q' := fun a ha e => ha (by rw [e]; exact hq')
  have ev : ∀ a, ¬ a = q' → vw (nw σ q' κ 0) a = vw σ a := fun a ha => by
    unfold vw
    rw [sK_nw, sN_nw, if_neg ha, if_neg ha]
    rw [show sI (nw σ q' κ 0) a = sI σ a by funext j; rw [sI_nw, if_neg ha], show sL (nw σ q' κ 0) a = sL σ a by funext j; rw [sL_nw, if_neg ha], show sR (nw σ q' κ 0) a = sR σ a by funext j; rw [sR_nw, if_neg ha]]
  have eS : ∀ a, ¬ a = q → vw (nw S q κ 0) a = vw S a := fun a ha => by
    unfold vw
    rw [sK_nw, sN_nw, if_neg ha, if_neg ha]
    rw [show sI (nw S q κ 0) a = sI S a by funext j; rw [sI_nw, if_neg ha], show sL (nw S q κ 0) a = sL S a by funext j; rw [sL_nw, if_neg ha], show sR (nw S q κ 0) a = sR S a by funext j; rw [sR_nw, if_neg ha]]
  refine ⟨iso_nw hI hq h1000 hq', ⟨fun z hz => ?_, hI2.2⟩, ⟨(eS 1 (by omega)).trans hk.1, (eS 2 (by omega)).trans hk.2.1, fun z hz => ?_⟩, hk2, fun z z' w1 w2 e => ?_, ?_, ?_⟩
  · have en := ev (ad2 z) (hne _ (by rw [(hI2.1 z hz).1]; exact hz))
    rw [vwK en, vwN en, vwI en, vwL en, vwR en]
    exact hI2.1 z hz
  · by_cases e : z = q
    · rw [sK_nw, if_pos e]; exact Or.inr (Or.inr hw)
    · rw [vwK (eS z e)] at hz ⊢; exact hk.2.2 z hz
  · have l2 : ¬ sK σ (ad2 z') = 0 := by rw [(hI2.1 z' (wr_ne w2)).1]; exact wr_ne w2
    by_cases e1 : z = q
    · rw [e1, va_up_self] at e; exact hne _ l2 e.symm
    · rw [va_up_ne _ _ e1] at e
      rw [vwK (eS z e1)] at w1
      exact hdj z z' w1 w2 e
  · have en := ev sb (hne _ (by rw [hscr.1]; decide))
    rw [vwK en, vwN en, vwI en]; exact hscr
  · obtain ⟨o1, o2, o3, o4⟩ := hro
    have eB := ev (D.2.2 1) (hne _ (by rw [o2]; decide))
    refine ⟨fun a => ⟨fun h => ?_, fun h => ?_⟩, by rw [vwK eB]; exact o2, by rw [vwN eB]; exact o3, by rw [vwI eB]; exact o4⟩
    · by_cases e : a = q'
      · rw [sK_nw, if_pos e] at h; unfold wr at hw; omega
      · rw [vwK (ev a e)] at h; exact (o1 a).mp h
    · have := (o1 a).mpr h
      rw [vwK (ev a (hne a (by omega)))]; exact this
section XLs
variable {g : Gx} {cc : ByteArray} {own : String} {sb L : Nat} {xs : Nat → Int32} {ax am pc pc' : Nat} {lv lv' : List (Nat × Value)} {rest st st' : List Value} {S S2 : Sg} {b b' bc : Nat × Nat} {idx c n κ : Nat} {rm : Room}
theorem xl_of (h : ∀ σ, XJ g pc' lv' st' σ b' → XJ g pc lv st σ b) (k : XL g sb L xs ax am pc' lv' st' S S2 b') : XL g sb L xs ax am pc lv st S S2 b := fun ad ad2 σ h1 h2 h3 => h σ (k ad ad2 σ h1 h2 h3)
theorem l_sld (hg : GoodG g cc own) {ix : Int32} (hi : vp_in ix L) (d : decode cc pc = .ok (.iaload, 1)) (k : XL g sb L xs ax am (pc + 1) lv (.int (xs ix.toNatClampNeg) :: rest) S S2 b) : XL g sb L xs ax am pc lv (.int ix :: .ref sb :: rest) S S2 b := fun ad ad2 σ h1 h2 h3 => by
  have hs := h1.2.2.2.2.2.1
  refine x_ialdR (x := some sb) hg rfl (by rw [hs.1]) (by rw [hs.2.1]; exact hi) d ?_
  rw [hs.2.2]
  exact k ad ad2 σ h1 h2 h3
theorem l_slen (hg : GoodG g cc own) (d : decode cc pc = .ok (.arraylength, 1)) (k : XL g sb L xs ax am (pc + 1) lv (.int (nI L) :: rest) S S2 b) : XL g sb L xs ax am pc lv (.ref sb :: rest) S S2 b := fun ad ad2 σ h1 h2 h3 => by
  have hs := h1.2.2.2.2.2.1
  refine x_alenR (x := some sb) hg rfl (by rw [hs.1]) d ?_
  rw [hs.2.1]
  exact k ad ad2 σ h1 h2 h3
theorem l_if_eq (hg : GoodG g cc own) {x : Int32} {off : Int} {tgt : Nat} (d : decode cc pc = .ok (.ifCond .eq off, 3)) (ht : (pc : Int) + off = (tgt : Int)) (kt : x = 0 → XL g sb L xs ax am tgt lv rest S S2 b) (kf : ¬ x = 0 → XL g sb L xs ax am (pc + 3) lv rest S S2 b) : XL g sb L xs ax am pc lv (.int x :: rest) S S2 b := fun ad ad2 σ h1 h2 h3 => x_if_eq hg d ht (fun q => kt q ad ad2 σ h1 h2 h3) (fun q => kf q ad ad2 σ h1 h2 h3)
theorem l_icmp_eq (hg : GoodG g cc own) {x y : Int32} {off : Int} {tgt : Nat} (d : decode cc pc = .ok (.if_icmp .eq off, 3)) (ht : (pc : Int) + off = (tgt : Int)) (kt : x = y → XL g sb L xs ax am tgt lv rest S S2 b) (kf : ¬ x = y → XL g sb L xs ax am (pc + 3) lv rest S S2 b) : XL g sb L xs ax am pc lv (.int y :: .int x :: rest) S S2 b := fun ad ad2 σ h1 h2 h3 => x_icmp_eq hg d ht (fun q => kt q ad ad2 σ h1 h2 h3) (fun q => kf q ad ad2 σ h1 h2 h3)
theorem l_icmp_gt (hg : GoodG g cc own) {x y : Int32} {off : Int} {tgt : Nat} (d : decode cc pc = .ok (.if_icmp .gt off, 3)) (ht : (pc : Int) + off = (tgt : Int)) (kt : y < x → XL g sb L xs ax am tgt lv rest S S2 b) (kf : ¬ y < x → XL g sb L xs ax am (pc + 3) lv rest S S2 b) : XL g sb L xs ax am pc lv (.int y :: .int x :: rest) S S2 b := fun ad ad2 σ h1 h2 h3 => x_icmp_gt hg d ht (fun q => kt q ad ad2 σ h1 h2 h3) (fun q => kf q ad ad2 σ h1 h2 h3)
variable {ρ : Type} {R : Sg → (Nat → Nat) → (Nat → Nat) → Prop} {y : MethodName} {bytes : ByteArray} {maxL : Nat} {ret : Option FieldType} {fr lo : Nat} {mk : ρ → Option Value} {As : List Value} {QA : ρ → Sg → Prop}
theorem RN_ag {S : Sg} {ad ad' : Nat → Nat} (h : RN S ad ad') : ∀ z, rlv S z → ad' z = ad z := fun z _ => by rw [show ad' = ad from h]
theorem RA_ag {S : Sg} {ad ad' : Nat → Nat} (h : RA S ad ad') : ∀ z, rlv S z → ad' z = ad z := h
theorem l_callVX (hg : GoodG g cc own) (hR : ∀ ad ad', R S ad ad' → ∀ z, rlv S z → ad' z = ad z) (hC : CtrY R (gL g) (gD g) y bytes maxL ret fr lo mk (.ref 1000 :: As) S bc QA) (hok : ∀ r S', QA r S' → okS S') (hAs : ∀ ad, As.map (cv ad) = As) (hmk : ∀ ad r, (mk r).map (cv ad) = mk r) (hL : LV own idx y c bytes maxL ret n) (hc : ¬ c = 0) (hk : sK S 1000 % 32 = c) (hn : As.length = n) (hst : st = As.reverse ++ .ref ax :: rest) (d : decode cc pc = .ok (.invokevirtual idx, 3)) (hW : (rest.map fun v => v.category).sum ≤ 8) (hrm : gR g = rm) (hRm : fr + 1 ≤ rm.frames ∧ 8 + (maxL + 11) + lo ≤ rm.locals) (hb1 : bc.1 ≤ b.1) (hb2 : bc.2 ≤ b.2) (kk : ∀ (r : ρ) (S' : Sg), QA r S' → XL g sb L xs ax am (pc + 3) lv ((mk r).toList ++ rest) S' S2 (b.1 - bc.1, b.2 - bc.2)) : XL g sb L xs ax am pc lv st S S2 b := fun ad ad2 σ hJ e1 e2 => by
  have hlive : ¬ sK S 1000 = 0 := fun q => by rw [q] at hk; exact hc hk.symm
  have hC2 := callX hJ (fun ad' => hR ad ad') hC hok
  rw [List.map_cons, hAs ad, show cv ad (Value.ref 1000) = Value.ref ax from congrArg Value.ref e1] at hC2
  refine x_callV (b := b) (x := some ax) hg hC2 hL rfl (by rw [← e1, (hJ.1.1 1000 hlive).1]; exact hk) hn hst d hW hrm hRm hb1 hb2 (fun r σ' hq => ?_)
  obtain ⟨r', S', ad', hr, hqa, hJ', hag⟩ := hq
  rw [hr, hmk]
  exact kk r' S' hqa ad' ad2 σ' hJ' ((hag 1000 (Or.inl hlive)).trans e1) e2
theorem l_callIX (hg : GoodG g cc own) (hR : ∀ ad ad', R S ad ad' → ∀ z, rlv S z → ad' z = ad z) (hC : CtrY R (gL g) (gD g) y bytes maxL none fr lo mk (.ref 1000 :: As) S bc QA) (hok : ∀ r S', QA r S' → okS S') (hAs : ∀ ad, As.map (cv ad) = As) (hmk : ∀ ad r, (mk r).map (cv ad) = mk r) (hL : LI own idx y bytes maxL n) (hc : ¬ c = 0) (hk : sK S 1000 % 32 = c) (hn : As.length = n) (hst : st = As.reverse ++ .ref ax :: rest) (d : decode cc pc = .ok (.invokespecial idx, 3)) (hW : (rest.map fun v => v.category).sum ≤ 8) (hrm : gR g = rm) (hRm : fr + 1 ≤ rm.frames ∧ 8 + (maxL + 11) + lo ≤ rm.locals) (hb1 : bc.1 ≤ b.1) (hb2 : bc.2 ≤ b.2) (kk : ∀ (r : ρ) (S' : Sg), QA r S' → XL g sb L xs ax am (pc + 3) lv ((mk r).toList ++ rest) S' S2 (b.1 - bc.1, b.2 - bc.2)) : XL g sb L xs ax am pc lv st S S2 b := fun ad ad2 σ hJ e1 e2 => by
  have hlive : ¬ sK S 1000 = 0 := fun q => by rw [q] at hk; exact hc hk.symm
  have hC2 := callX hJ (fun ad' => hR ad ad') hC hok
  rw [List.map_cons, hAs ad, show cv ad (Value.ref 1000) = Value.ref ax from congrArg Value.ref e1] at hC2
  refine x_callI (b := b) (x := some ax) hg hC2 hL rfl hn hst d hW hrm hRm hb1 hb2 (fun r σ' hq => ?_)
  obtain ⟨r', S', ad', hr, hqa, hJ', hag⟩ := hq
  rw [hr, hmk]
  exact kk r' S' hqa ad' ad2 σ' hJ' ((hag 1000 (Or.inl hlive)).trans e1) e2
theorem l_callVM (hg : GoodG g cc own) (hR : ∀ ad ad', R S2 ad ad' → ∀ z, rlv S2 z → ad' z = ad z) (hC : CtrY R (gL g) (gD g) y bytes maxL ret fr lo mk (.ref 1000 :: As) S2 bc QA) (hok : ∀ r S', QA r S' → okS S') (hAs : ∀ ad, As.map (cv ad) = As) (hmk : ∀ ad r, (mk r).map (cv ad) = mk r) (hL : LV own idx y c bytes maxL ret n) (hc : ¬ c = 0) (hk : sK S2 1000 % 32 = c) (hn : As.length = n) (hst : st = As.reverse ++ .ref am :: rest) (d : decode cc pc = .ok (.invokevirtual idx, 3)) (hW : (rest.map fun v => v.category).sum ≤ 8) (hrm : gR g = rm) (hRm : fr + 1 ≤ rm.frames ∧ 8 + (maxL + 11) + lo ≤ rm.locals) (hb1 : bc.1 ≤ b.1) (hb2 : bc.2 ≤ b.2) (kk : ∀ (r : ρ) (S' : Sg), QA r S' → XL g sb L xs ax am (pc + 3) lv ((mk r).toList ++ rest) S S' (b.1 - bc.1, b.2 - bc.2)) : XL g sb L xs ax am pc lv st S S2 b := fun ad ad2 σ hJ e1 e2 => by
  have hlive : ¬ sK S2 1000 = 0 := fun q => by rw [q] at hk; exact hc hk.symm
  have hC2 := callX hJ.symm (fun ad' => hR ad2 ad') hC hok
  rw [List.map_cons, hAs ad2, show cv ad2 (Value.ref 1000) = Value.ref am from congrArg Value.ref e2] at hC2
  refine x_callV (b := b) (x := some am) hg hC2 hL rfl (by rw [← e2, (hJ.symm.1.1 1000 hlive).1]; exact hk) hn hst d hW hrm hRm hb1 hb2 (fun r σ' hq => ?_)
  obtain ⟨r', S', ad', hr, hqa, hJ', hag⟩ := hq
  rw [hr, hmk]
  exact kk r' S' hqa ad ad' σ' hJ'.symm e1 ((hag 1000 (Or.inl hlive)).trans e2)
theorem l_callIM (hg : GoodG g cc own) (hR : ∀ ad ad', R S2 ad ad' → ∀ z, rlv S2 z → ad' z = ad z) (hC : CtrY R (gL g) (gD g) y bytes maxL none fr lo mk (.ref 1000 :: As) S2 bc QA) (hok : ∀ r S', QA r S' → okS S') (hAs : ∀ ad, As.map (cv ad) = As) (hmk : ∀ ad r, (mk r).map (cv ad) = mk r) (hL : LI own idx y bytes maxL n) (hc : ¬ c = 0) (hk : sK S2 1000 % 32 = c) (hn : As.length = n) (hst : st = As.reverse ++ .ref am :: rest) (d : decode cc pc = .ok (.invokespecial idx, 3)) (hW : (rest.map fun v => v.category).sum ≤ 8) (hrm : gR g = rm) (hRm : fr + 1 ≤ rm.frames ∧ 8 + (maxL + 11) + lo ≤ rm.locals) (hb1 : bc.1 ≤ b.1) (hb2 : bc.2 ≤ b.2) (kk : ∀ (r : ρ) (S' : Sg), QA r S' → XL g sb L xs ax am (pc + 3) lv ((mk r).toList ++ rest) S S' (b.1 - bc.1, b.2 - bc.2)) : XL g sb L xs ax am pc lv st S S2 b := fun ad ad2 σ hJ e1 e2 => by
  have hlive : ¬ sK S2 1000 = 0 := fun q => by rw [q] at hk; exact hc hk.symm
  have hC2 := callX hJ.symm (fun ad' => hR ad2 ad') hC hok
  rw [List.map_cons, hAs ad2, show cv ad2 (Value.ref 1000) = Value.ref am from congrArg Value.ref e2] at hC2
  refine x_callI (b := b) (x := some am) hg hC2 hL rfl hn hst d hW hrm hRm hb1 hb2 (fun r σ' hq => ?_)
  obtain ⟨r', S', ad', hr, hqa, hJ', hag⟩ := hq
  rw [hr, hmk]
  exact kk r' S' hqa ad ad' σ' hJ'.symm e1 ((hag 1000 (Or.inl hlive)).trans e2)
theorem l_newX (hg : GoodG g cc own) (hN : NL own idx c n) (hκ : κ % 32 = c) (hw : wr κ) (h1 : 1 ≤ b.1) (h2 : n ≤ b.2) (hq : sK S 1000 = 0) (d : decode cc pc = .ok (.new idx, 3)) (kk : ∀ q, XL g sb L xs q am (pc + 3) lv (.ref q :: rest) (nw S 1000 κ 0) S2 (b.1 - 1, b.2 - n)) : XL g sb L xs ax am pc lv rest S S2 b := fun ad ad2 σ hJ e1 e2 =>
  x_new hg hN hκ h1 h2 d (fun q hq' => kk q (va_up ad 1000 q) ad2 _ (hJ.nw1 hw hq (Nat.le_refl _) hq') (va_up_self _ _ _) e2)
theorem l_newM (hg : GoodG g cc own) (hN : NL own idx c n) (hκ : κ % 32 = c) (hw : wr κ) (h1 : 1 ≤ b.1) (h2 : n ≤ b.2) (hq : sK S2 1000 = 0) (d : decode cc pc = .ok (.new idx, 3)) (kk : ∀ q, XL g sb L xs ax q (pc + 3) lv (.ref q :: rest) S (nw S2 1000 κ 0) (b.1 - 1, b.2 - n)) : XL g sb L xs ax am pc lv rest S S2 b := fun ad ad2 σ hJ e1 e2 =>
  x_new hg hN hκ h1 h2 d (fun q hq' => kk q ad (va_up ad2 1000 q) _ (hJ.symm.nw1 hw hq (Nat.le_refl _) hq').symm e1 (va_up_self _ _ _))
end XLs
theorem sw34_out {x : Int32} (q0 : ¬ x = 0) (q1 : ¬ x = 1) (q2 : ¬ x = 2) (q3 : ¬ x = 3) (q4 : ¬ x = 4) (q5 : ¬ x = 5) (q6 : ¬ x = 6) (q7 : ¬ x = 7) (q8 : ¬ x = 8) (q9 : ¬ x = 9) (q10 : ¬ x = 10) (q11 : ¬ x = 11) (q12 : ¬ x = 12) (q13 : ¬ x = 13) (q14 : ¬ x = 14) (q15 : ¬ x = 15) (q16 : ¬ x = 16) (q17 : ¬ x = 17) (q18 : ¬ x = 18) (q19 : ¬ x = 19) (q20 : ¬ x = 20) (q21 : ¬ x = 21) (q22 : ¬ x = 22) (q23 : ¬ x = 23) (q24 : ¬ x = 24) (q25 : ¬ x = 25) (q26 : ¬ x = 26) (q27 : ¬ x = 27) (q28 : ¬ x = 28) (q29 : ¬ x = 29) (q30 : ¬ x = 30) (q31 : ¬ x = 31) (q32 : ¬ x = 32) (q33 : ¬ x = 33) (q34 : ¬ x = 34) : x.toInt < 0 ∨ 34 < x.toInt := by
  by_cases h1 : x.toInt < 0
  · exact Or.inl h1
  · by_cases h2 : 34 < x.toInt
    · exact Or.inr h2
    · exfalso
      rcases (show x.toInt = 0 ∨ x.toInt = 1 ∨ x.toInt = 2 ∨ x.toInt = 3 ∨ x.toInt = 4 ∨ x.toInt = 5 ∨ x.toInt = 6 ∨ x.toInt = 7 ∨ x.toInt = 8 ∨ x.toInt = 9 ∨ x.toInt = 10 ∨ x.toInt = 11 ∨ x.toInt = 12 ∨ x.toInt = 13 ∨ x.toInt = 14 ∨ x.toInt = 15 ∨ x.toInt = 16 ∨ x.toInt = 17 ∨ x.toInt = 18 ∨ x.toInt = 19 ∨ x.toInt = 20 ∨ x.toInt = 21 ∨ x.toInt = 22 ∨ x.toInt = 23 ∨ x.toInt = 24 ∨ x.toInt = 25 ∨ x.toInt = 26 ∨ x.toInt = 27 ∨ x.toInt = 28 ∨ x.toInt = 29 ∨ x.toInt = 30 ∨ x.toInt = 31 ∨ x.toInt = 32 ∨ x.toInt = 33 ∨ x.toInt = 34 by omega) with h | h | h | h | h | h | h | h | h | h | h | h | h | h | h | h | h | h | h | h | h | h | h | h | h | h | h | h | h | h | h | h | h | h | h
      · exact q0 (Int32.toInt_inj.mp (h.trans (by decide)))
      · exact q1 (Int32.toInt_inj.mp (h.trans (by decide)))
      · exact q2 (Int32.toInt_inj.mp (h.trans (by decide)))
      · exact q3 (Int32.toInt_inj.mp (h.trans (by decide)))
      · exact q4 (Int32.toInt_inj.mp (h.trans (by decide)))
      · exact q5 (Int32.toInt_inj.mp (h.trans (by decide)))
      · exact q6 (Int32.toInt_inj.mp (h.trans (by decide)))
      · exact q7 (Int32.toInt_inj.mp (h.trans (by decide)))
      · exact q8 (Int32.toInt_inj.mp (h.trans (by decide)))
      · exact q9 (Int32.toInt_inj.mp (h.trans (by decide)))
      · exact q10 (Int32.toInt_inj.mp (h.trans (by decide)))
      · exact q11 (Int32.toInt_inj.mp (h.trans (by decide)))
      · exact q12 (Int32.toInt_inj.mp (h.trans (by decide)))
      · exact q13 (Int32.toInt_inj.mp (h.trans (by decide)))
      · exact q14 (Int32.toInt_inj.mp (h.trans (by decide)))
      · exact q15 (Int32.toInt_inj.mp (h.trans (by decide)))
      · exact q16 (Int32.toInt_inj.mp (h.trans (by decide)))
      · exact q17 (Int32.toInt_inj.mp (h.trans (by decide)))
      · exact q18 (Int32.toInt_inj.mp (h.trans (by decide)))
      · exact q19 (Int32.toInt_inj.mp (h.trans (by decide)))
      · exact q20 (Int32.toInt_inj.mp (h.trans (by decide)))
      · exact q21 (Int32.toInt_inj.mp (h.trans (by decide)))
      · exact q22 (Int32.toInt_inj.mp (h.trans (by decide)))
      · exact q23 (Int32.toInt_inj.mp (h.trans (by decide)))
      · exact q24 (Int32.toInt_inj.mp (h.trans (by decide)))
      · exact q25 (Int32.toInt_inj.mp (h.trans (by decide)))
      · exact q26 (Int32.toInt_inj.mp (h.trans (by decide)))
      · exact q27 (Int32.toInt_inj.mp (h.trans (by decide)))
      · exact q28 (Int32.toInt_inj.mp (h.trans (by decide)))
      · exact q29 (Int32.toInt_inj.mp (h.trans (by decide)))
      · exact q30 (Int32.toInt_inj.mp (h.trans (by decide)))
      · exact q31 (Int32.toInt_inj.mp (h.trans (by decide)))
      · exact q32 (Int32.toInt_inj.mp (h.trans (by decide)))
      · exact q33 (Int32.toInt_inj.mp (h.trans (by decide)))
      · exact q34 (Int32.toInt_inj.mp (h.trans (by decide)))
