def Pr_corner (Inv : Sg → Sg → Prop) : Prop := ∀ S S2 : Sg, Inv S S2 → ∀ (v1 : Int32) (v2 : Int32) (v3 : Int32) (v4 : Int32), P_X10_corner 1000 v1 v2 v3 v4 S (1000, 14000) (fun r S' => okS S' ∧ P_X11_corner 1000 v1 v2 v3 v4 S2 (fun r2 S2' => r = r2 ∧ Inv S' S2'))
def Pr_below (Inv : Sg → Sg → Prop) : Prop := ∀ S S2 : Sg, Inv S S2 → ∀ (v1 : Int32) (v2 : Int32), P_X10_below 1000 v1 v2 S (fun r S' => okS S' ∧ P_X11_below 1000 v1 v2 S2 (fun r2 S2' => r = r2 ∧ Inv S' S2'))
def Pr_roof (Inv : Sg → Sg → Prop) : Prop := ∀ S S2 : Sg, Inv S S2 → ∀ (v1 : Int32) (v2 : Int32) (v3 : Int32) (v4 : Int32), P_X10_roof 1000 v1 v2 v3 v4 S (1000, 14000) (fun r S' => okS S' ∧ P_X11_roof 1000 v1 v2 v3 v4 S2 (fun r2 S2' => r = r2 ∧ Inv S' S2'))
def Pr_lot (Inv : Sg → Sg → Prop) : Prop := ∀ S S2 : Sg, Inv S S2 → ∀ (v1 : Int32) (v2 : Int32), P_X10_lot 1000 v1 v2 S (fun r S' => okS S' ∧ P_X11_lot 1000 v1 v2 S2 (fun r2 S2' => r = r2 ∧ Inv S' S2'))
def Pr_bed (Inv : Sg → Sg → Prop) : Prop := ∀ S S2 : Sg, Inv S S2 → ∀ (v1 : Int32) (v2 : Int32) (v3 : Int32) (v4 : Int32), bz v4 → P_X10_bed 1000 v1 v2 v3 v4 S (1000, 14000) (fun r S' => okS S' ∧ P_X11_bed 1000 v1 v2 v3 v4 S2 (fun r2 S2' => r = r2 ∧ Inv S' S2'))
def Pr_care (Inv : Sg → Sg → Prop) : Prop := ∀ S S2 : Sg, Inv S S2 → ∀ (v1 : Int32) (v2 : Int32), P_X10_care 1000 v1 v2 S (fun r S' => okS S' ∧ P_X11_care 1000 v1 v2 S2 (fun r2 S2' => r = r2 ∧ Inv S' S2'))
def Pr_treat (Inv : Sg → Sg → Prop) : Prop := ∀ S S2 : Sg, Inv S S2 → ∀ (v1 : Int32) (v2 : Int32), P_X10_treat 1000 v1 v2 S (fun r S' => okS S' ∧ P_X11_treat 1000 v1 v2 S2 (fun r2 S2' => r = r2 ∧ Inv S' S2'))
def Pr_pass (Inv : Sg → Sg → Prop) : Prop := ∀ S S2 : Sg, Inv S S2 → ∀ (v1 : Int32), P_X10_pass 1000 v1 S (1000, 14000) (fun r S' => okS S' ∧ P_X11_pass 1000 v1 S2 (fun r2 S2' => r = r2 ∧ Inv S' S2'))
def Pr_rain (Inv : Sg → Sg → Prop) : Prop := ∀ S S2 : Sg, Inv S S2 → ∀ (v1 : Int32), P_X10_rain 1000 v1 S (fun r S' => okS S' ∧ P_X11_rain 1000 v1 S2 (fun r2 S2' => r = r2 ∧ Inv S' S2'))
def Pr_clear (Inv : Sg → Sg → Prop) : Prop := ∀ S S2 : Sg, Inv S S2 → ∀  (_ : Unit), P_X10_clear 1000 S (fun r S' => okS S' ∧ P_X11_clear 1000 S2 (fun r2 S2' => r = r2 ∧ Inv S' S2'))
def Pr_storm (Inv : Sg → Sg → Prop) : Prop := ∀ S S2 : Sg, Inv S S2 → ∀  (_ : Unit), P_X10_storm 1000 S (1000, 14000) (fun r S' => okS S' ∧ P_X11_storm 1000 S2 (fun r2 S2' => r = r2 ∧ Inv S' S2'))
def Pr_tried (Inv : Sg → Sg → Prop) : Prop := ∀ S S2 : Sg, Inv S S2 → ∀ (v1 : Int32) (v2 : Int32), P_X10_tried 1000 v1 v2 S (fun r S' => okS S' ∧ P_X11_tried 1000 v1 v2 S2 (fun r2 S2' => r = r2 ∧ Inv S' S2'))
def Pr_best (Inv : Sg → Sg → Prop) : Prop := ∀ S S2 : Sg, Inv S S2 → ∀ (v1 : Int32) (v2 : Int32) (v3 : Int32) (v4 : Int32), P_X10_best 1000 v1 v2 v3 v4 S (fun r S' => okS S' ∧ P_X11_best 1000 v1 v2 v3 v4 S2 (fun r2 S2' => r = r2 ∧ Inv S' S2'))
def Pr_helps (Inv : Sg → Sg → Prop) : Prop := ∀ S S2 : Sg, Inv S S2 → ∀ (v1 : Int32) (v2 : Int32), P_X10_helps 1000 v1 v2 S (fun r S' => okS S' ∧ P_X11_helps 1000 v1 v2 S2 (fun r2 S2' => r = r2 ∧ Inv S' S2'))
def Pr_told (Inv : Sg → Sg → Prop) : Prop := ∀ S S2 : Sg, Inv S S2 → ∀ (v1 : Int32) (v2 : Int32), P_X10_told 1000 v1 v2 S (fun r => P_X11_told 1000 v1 v2 S2 (fun r2 => r = r2 ∧ Inv S S2))
def Pr_bedOf (Inv : Sg → Sg → Prop) : Prop := ∀ S S2 : Sg, Inv S S2 → ∀ (v1 : Int32) (v2 : Int32), P_X10_bedOf 1000 v1 v2 S (fun r => P_X11_bedOf 1000 v1 v2 S2 (fun r2 => r = r2 ∧ Inv S S2))
def Pr_roofOf (Inv : Sg → Sg → Prop) : Prop := ∀ S S2 : Sg, Inv S S2 → ∀ (v1 : Int32) (v2 : Int32), P_X10_roofOf 1000 v1 v2 S (fun r => P_X11_roofOf 1000 v1 v2 S2 (fun r2 => r = r2 ∧ Inv S S2))
def Pr_prove (Inv : Sg → Sg → Prop) : Prop := ∀ S S2 : Sg, Inv S S2 → ∀ (v1 : Int32), P_X10_prove 1000 v1 S (fun r S' => okS S' ∧ P_X11_prove 1000 v1 S2 (fun r2 S2' => r = r2 ∧ Inv S' S2'))
def Pr_stormOf (Inv : Sg → Sg → Prop) : Prop := ∀ S S2 : Sg, Inv S S2 → ∀ (v1 : Int32) (v2 : Int32), P_X10_stormOf 1000 v1 v2 S (fun r => P_X11_stormOf 1000 v1 v2 S2 (fun r2 => r = r2 ∧ Inv S S2))
def Pr_compare (Inv : Sg → Sg → Prop) : Prop := ∀ S S2 : Sg, Inv S S2 → ∀ (v1 : Int32) (v2 : Int32), P_X10_compare 1000 v1 v2 S (fun r => P_X11_compare 1000 v1 v2 S2 (fun r2 => r = r2 ∧ Inv S S2))
def Pr_crew (Inv : Sg → Sg → Prop) : Prop := ∀ S S2 : Sg, Inv S S2 → ∀ (v1 : Int32) (v2 : Int32), P_X10_crew 1000 v1 v2 S (fun r S' => okS S' ∧ P_X11_crew 1000 v1 v2 S2 (fun r2 => r = r2 ∧ Inv S' S2))
def Pr_neighbour (Inv : Sg → Sg → Prop) : Prop := ∀ S S2 : Sg, Inv S S2 → ∀ (v1 : Int32) (v2 : Int32), P_X10_neighbour 1000 v1 v2 S (fun r => P_X11_neighbour 1000 v1 v2 S2 (fun r2 => r = r2 ∧ Inv S S2))
def Pr_turn (Inv : Sg → Sg → Prop) : Prop := ∀ S S2 : Sg, Inv S S2 → ∀ (v1 : Int32) (v2 : Int32) (v3 : Int32), P_X10_turn 1000 v1 v2 v3 S (fun r => P_X11_turn 1000 v1 v2 v3 S2 (fun r2 => r = r2 ∧ Inv S S2))
def Pr_fee (Inv : Sg → Sg → Prop) : Prop := ∀ S S2 : Sg, Inv S S2 → ∀ (v1 : Int32) (v2 : Int32), P_X10_fee 1000 v1 v2 S (fun r => P_X11_fee 1000 v1 v2 S2 (fun r2 => r = r2 ∧ Inv S S2))
def Pr_look (Inv : Sg → Sg → Prop) : Prop := ∀ S S2 : Sg, Inv S S2 → ∀ (v1 : Int32) (v2 : Int32), P_X10_look 1000 v1 v2 S (fun r S' => okS S' ∧ P_X11_look 1000 v1 v2 S2 (fun r2 S2' => r = r2 ∧ Inv S' S2'))
def Pr_worst (Inv : Sg → Sg → Prop) : Prop := ∀ S S2 : Sg, Inv S S2 → ∀ (v1 : Int32), P_X10_worst 1000 v1 S (fun r => P_X11_worst 1000 v1 S2 (fun r2 => r = r2 ∧ Inv S S2))
def Pr_complain (Inv : Sg → Sg → Prop) : Prop := ∀ S S2 : Sg, Inv S S2 → ∀ (v1 : Int32) (v2 : Int32), P_X10_complain 1000 v1 v2 S (1000, 14000) (fun r S' => okS S' ∧ P_X11_complain 1000 v1 v2 S2 (fun r2 S2' => r = r2 ∧ Inv S' S2'))
def Pr_close (Inv : Sg → Sg → Prop) : Prop := ∀ S S2 : Sg, Inv S S2 → ∀ (v1 : Int32), P_X10_close 1000 v1 S (fun r S' => okS S' ∧ P_X11_close 1000 v1 S2 (fun r2 S2' => r = r2 ∧ Inv S' S2'))
def Pr_complaint (Inv : Sg → Sg → Prop) : Prop := ∀ S S2 : Sg, Inv S S2 → ∀ (v1 : Int32) (v2 : Int32), P_X10_complaint 1000 v1 v2 S (fun r => P_X11_complaint 1000 v1 v2 S2 (fun r2 => r = r2 ∧ Inv S S2))
def Pr_feed (Inv : Sg → Sg → Prop) : Prop := ∀ S S2 : Sg, Inv S S2 → ∀ (v1 : Int32) (v2 : Int32) (v3 : Int32) (v4 : Int32) (v5 : Int32), P_X10_feed 1000 v1 v2 v3 v4 v5 S (fun r S' => okS S' ∧ P_X11_feed 1000 v1 v2 v3 v4 v5 S2 (fun r2 S2' => r = r2 ∧ Inv S' S2'))
def Pr_rules (Inv : Sg → Sg → Prop) : Prop := ∀ S S2 : Sg, Inv S S2 → ∀ (v1 : Int32), P_X10_rules 1000 v1 S (1000, 14000) (fun r S' => okS S' ∧ P_X11_rules 1000 v1 S2 (fun r2 S2' => r = r2 ∧ Inv S' S2'))
def Pr_fault (Inv : Sg → Sg → Prop) : Prop := ∀ S S2 : Sg, Inv S S2 → ∀  (_ : Unit), P_X10_fault 1000 S (fun r => P_X11_fault 1000 S2 (fun r2 => r = r2 ∧ Inv S S2))
def Pr_law (Inv : Sg → Sg → Prop) : Prop := ∀ S S2 : Sg, Inv S S2 → ∀ (v1 : Int32) (v2 : Int32), P_X10_law 1000 v1 v2 S (fun r => P_X11_law 1000 v1 v2 S2 (fun r2 => r = r2 ∧ Inv S S2))
def Pr_sum (Inv : Sg → Sg → Prop) : Prop := ∀ S S2 : Sg, Inv S S2 → ∀ (v1 : Int32), P_X10_sum 1000 v1 S (fun r => P_X11_sum 1000 v1 S2 (fun r2 => r = r2 ∧ Inv S S2))
def Pr_count (Inv : Sg → Sg → Prop) : Prop := ∀ S S2 : Sg, Inv S S2 → ∀ (v1 : Int32), P_X10_count 1000 v1 S (fun r => P_X11_count 1000 v1 S2 (fun r2 => r = r2 ∧ Inv S S2))
def InvOk (Inv : Sg → Sg → Prop) : Prop := ∀ S S2 : Sg, Inv S S2 → okS S ∧ okS S2 ∧ sK S 1000 % 32 = 12 ∧ sK S2 1000 % 32 = 13
def rmL : Room := { frames := 13, cells := 600000, slots := 7302249, locals := 494 }
section LW
variable {g : Gx} {sb L : Nat} {xs : Nat → Int32} {ax am : Nat} {Inv : Sg → Sg → Prop}
theorem lc_corner (hg : GoodG g code RL) (hrm : gR g = rmL) (hV : InvOk Inv) (hP : Pr_corner Inv) {i : Int32} {S S2 : Sg} {b : Nat × Nat} (hI : Inv S S2) (hb1 : 1000 ≤ b.1) (hb2 : 14000 ≤ b.2) (h1 : vp_in (i + 1) L) (h2 : vp_in (i + 2) L) (h3 : vp_in (i + 3) L) (h4 : vp_in (i + 4) L) (h5 : vp_in (i + 5) L) (hloop : ∀ (S' S2' : Sg) (b' : Nat × Nat), Inv S' S2' → b.1 - 1000 ≤ b'.1 → b.2 - 14000 ≤ b'.2 → XL g sb L xs ax am 1345 [(3, .int i), (2, .ref am), (1, .ref ax), (0, .ref sb)] [] S' S2' b') : XL g sb L xs ax am 188 [(3, .int i), (2, .ref am), (1, .ref ax), (0, .ref sb)] [] S S2 b := by
  refine xl_of (fun _ kk => x_sload_n 2 hg dL_law_188 rfl rfl kk) ?_
  refine xl_of (fun _ kk => x_sload_n 3 hg dL_law_189 rfl rfl kk) ?_
  refine xl_of (fun _ kk => x_iload_n hg 0 dL_law_190 rfl rfl kk) ?_
  refine xl_of (fun _ kk => x_iconst (v := 1) hg dL_law_191 (by decide) kk) ?_
  refine xl_of (fun _ kk => x_iadd hg dL_law_192 kk) ?_
  refine l_sld hg h1 dL_law_193 ?_
  refine xl_of (fun _ kk => x_sload_n 3 hg dL_law_194 rfl rfl kk) ?_
  refine xl_of (fun _ kk => x_iload_n hg 0 dL_law_195 rfl rfl kk) ?_
  refine xl_of (fun _ kk => x_iconst (v := 2) hg dL_law_196 (by decide) kk) ?_
  refine xl_of (fun _ kk => x_iadd hg dL_law_197 kk) ?_
  refine l_sld hg h2 dL_law_198 ?_
  refine xl_of (fun _ kk => x_sload_n 3 hg dL_law_199 rfl rfl kk) ?_
  refine xl_of (fun _ kk => x_iload_n hg 0 dL_law_200 rfl rfl kk) ?_
  refine xl_of (fun _ kk => x_iconst (v := 3) hg dL_law_201 (by decide) kk) ?_
  refine xl_of (fun _ kk => x_iadd hg dL_law_202 kk) ?_
  refine l_sld hg h3 dL_law_203 ?_
  refine xl_of (fun _ kk => x_sload_n 3 hg dL_law_204 rfl rfl kk) ?_
  refine xl_of (fun _ kk => x_iload_n hg 0 dL_law_205 rfl rfl kk) ?_
  refine xl_of (fun _ kk => x_iconst (v := 4) hg dL_law_206 (by decide) kk) ?_
  refine xl_of (fun _ kk => x_iadd hg dL_law_207 kk) ?_
  refine l_sld hg h4 dL_law_208 ?_
  refine l_callVX (rest := []) (As := [.int (xs (i + 1).toNatClampNeg), .int (xs (i + 2).toNatClampNeg), .int (xs (i + 3).toNatClampNeg), .int (xs (i + 4).toNatClampNeg)]) hg (fun _ _ => RA_ag) (k_X10_corner (gL g) (gD g) 1000 (xs (i + 1).toNatClampNeg) (xs (i + 2).toNatClampNeg) (xs (i + 3).toNatClampNeg) (xs (i + 4).toNatClampNeg) S (1000, 14000) _ (hP S S2 hI (xs (i + 1).toNatClampNeg) (xs (i + 2).toNatClampNeg) (xs (i + 3).toNatClampNeg) (xs (i + 4).toNatClampNeg))) (fun _ _ h => h.1) (fun _ => rfl) (fun _ _ => rfl) lv_L_13 (by decide) (hV S S2 hI).2.2.1 rfl rfl dL_law_209 (cat8 (Nat.le_of_ble_eq_true rfl)) hrm ⟨Nat.le_of_ble_eq_true rfl, Nat.le_of_ble_eq_true rfl⟩ hb1 hb2 (fun r S' hq => ?_)
  refine xl_of (fun _ kk => x_sload_n 1 hg dL_law_212 rfl rfl kk) ?_
  refine xl_of (fun _ kk => x_sload_n 3 hg dL_law_213 rfl rfl kk) ?_
  refine xl_of (fun _ kk => x_iload_n hg 0 dL_law_214 rfl rfl kk) ?_
  refine xl_of (fun _ kk => x_iconst (v := 1) hg dL_law_215 (by decide) kk) ?_
  refine xl_of (fun _ kk => x_iadd hg dL_law_216 kk) ?_
  refine l_sld hg h1 dL_law_217 ?_
  refine xl_of (fun _ kk => x_sload_n 3 hg dL_law_218 rfl rfl kk) ?_
  refine xl_of (fun _ kk => x_iload_n hg 0 dL_law_219 rfl rfl kk) ?_
  refine xl_of (fun _ kk => x_iconst (v := 2) hg dL_law_220 (by decide) kk) ?_
  refine xl_of (fun _ kk => x_iadd hg dL_law_221 kk) ?_
  refine l_sld hg h2 dL_law_222 ?_
  refine xl_of (fun _ kk => x_sload_n 3 hg dL_law_223 rfl rfl kk) ?_
  refine xl_of (fun _ kk => x_iload_n hg 0 dL_law_224 rfl rfl kk) ?_
  refine xl_of (fun _ kk => x_iconst (v := 3) hg dL_law_225 (by decide) kk) ?_
  refine xl_of (fun _ kk => x_iadd hg dL_law_226 kk) ?_
  refine l_sld hg h3 dL_law_227 ?_
  refine xl_of (fun _ kk => x_sload_n 3 hg dL_law_228 rfl rfl kk) ?_
  refine xl_of (fun _ kk => x_iload_n hg 0 dL_law_229 rfl rfl kk) ?_
  refine xl_of (fun _ kk => x_iconst (v := 4) hg dL_law_230 (by decide) kk) ?_
  refine xl_of (fun _ kk => x_iadd hg dL_law_231 kk) ?_
  refine l_sld hg h4 dL_law_232 ?_
  refine l_callVM (rest := [.int r]) (As := [.int (xs (i + 1).toNatClampNeg), .int (xs (i + 2).toNatClampNeg), .int (xs (i + 3).toNatClampNeg), .int (xs (i + 4).toNatClampNeg)]) hg (fun _ _ => RN_ag) (k_X11_corner (gL g) (gD g) 1000 (xs (i + 1).toNatClampNeg) (xs (i + 2).toNatClampNeg) (xs (i + 3).toNatClampNeg) (xs (i + 4).toNatClampNeg) S2 _ hq.2) (fun _ _ h => (hV _ _ h.2).2.1) (fun _ => rfl) (fun _ _ => rfl) lv_L_17 (by decide) (hV S S2 hI).2.2.2 rfl rfl dL_law_233 (cat8 (Nat.le_of_ble_eq_true rfl)) hrm ⟨Nat.le_of_ble_eq_true rfl, Nat.le_of_ble_eq_true rfl⟩ (Nat.zero_le _) (Nat.zero_le _) (fun r2 S2' hq2 => ?_)
  refine l_icmp_eq (tgt := 1345) hg dL_law_236 (by decide) (fun _ => ?_) (fun q => absurd hq2.1 q)
  exact hloop _ _ _ hq2.2 (by dsimp only; omega) (by dsimp only; omega)
theorem lc_below (hg : GoodG g code RL) (hrm : gR g = rmL) (hV : InvOk Inv) (hP : Pr_below Inv) {i : Int32} {S S2 : Sg} {b : Nat × Nat} (hI : Inv S S2) (hb1 : 1000 ≤ b.1) (hb2 : 14000 ≤ b.2) (h1 : vp_in (i + 1) L) (h2 : vp_in (i + 2) L) (h3 : vp_in (i + 3) L) (h4 : vp_in (i + 4) L) (h5 : vp_in (i + 5) L) (hloop : ∀ (S' S2' : Sg) (b' : Nat × Nat), Inv S' S2' → b.1 - 1000 ≤ b'.1 → b.2 - 14000 ≤ b'.2 → XL g sb L xs ax am 1345 [(3, .int i), (2, .ref am), (1, .ref ax), (0, .ref sb)] [] S' S2' b') : XL g sb L xs ax am 241 [(3, .int i), (2, .ref am), (1, .ref ax), (0, .ref sb)] [] S S2 b := by
  refine xl_of (fun _ kk => x_sload_n 2 hg dL_law_241 rfl rfl kk) ?_
  refine xl_of (fun _ kk => x_sload_n 3 hg dL_law_242 rfl rfl kk) ?_
  refine xl_of (fun _ kk => x_iload_n hg 0 dL_law_243 rfl rfl kk) ?_
  refine xl_of (fun _ kk => x_iconst (v := 1) hg dL_law_244 (by decide) kk) ?_
  refine xl_of (fun _ kk => x_iadd hg dL_law_245 kk) ?_
  refine l_sld hg h1 dL_law_246 ?_
  refine xl_of (fun _ kk => x_sload_n 3 hg dL_law_247 rfl rfl kk) ?_
  refine xl_of (fun _ kk => x_iload_n hg 0 dL_law_248 rfl rfl kk) ?_
  refine xl_of (fun _ kk => x_iconst (v := 2) hg dL_law_249 (by decide) kk) ?_
  refine xl_of (fun _ kk => x_iadd hg dL_law_250 kk) ?_
  refine l_sld hg h2 dL_law_251 ?_
  refine l_callVX (rest := []) (As := [.int (xs (i + 1).toNatClampNeg), .int (xs (i + 2).toNatClampNeg)]) hg (fun _ _ => RN_ag) (k_X10_below (gL g) (gD g) 1000 (xs (i + 1).toNatClampNeg) (xs (i + 2).toNatClampNeg) S _ (hP S S2 hI (xs (i + 1).toNatClampNeg) (xs (i + 2).toNatClampNeg))) (fun _ _ h => h.1) (fun _ => rfl) (fun _ _ => rfl) lv_L_18 (by decide) (hV S S2 hI).2.2.1 rfl rfl dL_law_252 (cat8 (Nat.le_of_ble_eq_true rfl)) hrm ⟨Nat.le_of_ble_eq_true rfl, Nat.le_of_ble_eq_true rfl⟩ (Nat.zero_le _) (Nat.zero_le _) (fun r S' hq => ?_)
  refine xl_of (fun _ kk => x_sload_n 1 hg dL_law_255 rfl rfl kk) ?_
  refine xl_of (fun _ kk => x_sload_n 3 hg dL_law_256 rfl rfl kk) ?_
  refine xl_of (fun _ kk => x_iload_n hg 0 dL_law_257 rfl rfl kk) ?_
  refine xl_of (fun _ kk => x_iconst (v := 1) hg dL_law_258 (by decide) kk) ?_
  refine xl_of (fun _ kk => x_iadd hg dL_law_259 kk) ?_
  refine l_sld hg h1 dL_law_260 ?_
  refine xl_of (fun _ kk => x_sload_n 3 hg dL_law_261 rfl rfl kk) ?_
  refine xl_of (fun _ kk => x_iload_n hg 0 dL_law_262 rfl rfl kk) ?_
  refine xl_of (fun _ kk => x_iconst (v := 2) hg dL_law_263 (by decide) kk) ?_
  refine xl_of (fun _ kk => x_iadd hg dL_law_264 kk) ?_
  refine l_sld hg h2 dL_law_265 ?_
  refine l_callVM (rest := [.int r]) (As := [.int (xs (i + 1).toNatClampNeg), .int (xs (i + 2).toNatClampNeg)]) hg (fun _ _ => RN_ag) (k_X11_below (gL g) (gD g) 1000 (xs (i + 1).toNatClampNeg) (xs (i + 2).toNatClampNeg) S2 _ hq.2) (fun _ _ h => (hV _ _ h.2).2.1) (fun _ => rfl) (fun _ _ => rfl) lv_L_22 (by decide) (hV S S2 hI).2.2.2 rfl rfl dL_law_266 (cat8 (Nat.le_of_ble_eq_true rfl)) hrm ⟨Nat.le_of_ble_eq_true rfl, Nat.le_of_ble_eq_true rfl⟩ (Nat.zero_le _) (Nat.zero_le _) (fun r2 S2' hq2 => ?_)
  refine l_icmp_eq (tgt := 1345) hg dL_law_269 (by decide) (fun _ => ?_) (fun q => absurd hq2.1 q)
  exact hloop _ _ _ hq2.2 (by dsimp only; omega) (by dsimp only; omega)
theorem lc_roof (hg : GoodG g code RL) (hrm : gR g = rmL) (hV : InvOk Inv) (hP : Pr_roof Inv) {i : Int32} {S S2 : Sg} {b : Nat × Nat} (hI : Inv S S2) (hb1 : 1000 ≤ b.1) (hb2 : 14000 ≤ b.2) (h1 : vp_in (i + 1) L) (h2 : vp_in (i + 2) L) (h3 : vp_in (i + 3) L) (h4 : vp_in (i + 4) L) (h5 : vp_in (i + 5) L) (hloop : ∀ (S' S2' : Sg) (b' : Nat × Nat), Inv S' S2' → b.1 - 1000 ≤ b'.1 → b.2 - 14000 ≤ b'.2 → XL g sb L xs ax am 1345 [(3, .int i), (2, .ref am), (1, .ref ax), (0, .ref sb)] [] S' S2' b') : XL g sb L xs ax am 274 [(3, .int i), (2, .ref am), (1, .ref ax), (0, .ref sb)] [] S S2 b := by
  refine xl_of (fun _ kk => x_sload_n 2 hg dL_law_274 rfl rfl kk) ?_
  refine xl_of (fun _ kk => x_sload_n 3 hg dL_law_275 rfl rfl kk) ?_
  refine xl_of (fun _ kk => x_iload_n hg 0 dL_law_276 rfl rfl kk) ?_
  refine xl_of (fun _ kk => x_iconst (v := 1) hg dL_law_277 (by decide) kk) ?_
  refine xl_of (fun _ kk => x_iadd hg dL_law_278 kk) ?_
  refine l_sld hg h1 dL_law_279 ?_
  refine xl_of (fun _ kk => x_sload_n 3 hg dL_law_280 rfl rfl kk) ?_
  refine xl_of (fun _ kk => x_iload_n hg 0 dL_law_281 rfl rfl kk) ?_
  refine xl_of (fun _ kk => x_iconst (v := 2) hg dL_law_282 (by decide) kk) ?_
  refine xl_of (fun _ kk => x_iadd hg dL_law_283 kk) ?_
  refine l_sld hg h2 dL_law_284 ?_
  refine xl_of (fun _ kk => x_sload_n 3 hg dL_law_285 rfl rfl kk) ?_
  refine xl_of (fun _ kk => x_iload_n hg 0 dL_law_286 rfl rfl kk) ?_
  refine xl_of (fun _ kk => x_iconst (v := 3) hg dL_law_287 (by decide) kk) ?_
  refine xl_of (fun _ kk => x_iadd hg dL_law_288 kk) ?_
  refine l_sld hg h3 dL_law_289 ?_
  refine xl_of (fun _ kk => x_sload_n 3 hg dL_law_290 rfl rfl kk) ?_
  refine xl_of (fun _ kk => x_iload_n hg 0 dL_law_291 rfl rfl kk) ?_
  refine xl_of (fun _ kk => x_iconst (v := 4) hg dL_law_292 (by decide) kk) ?_
  refine xl_of (fun _ kk => x_iadd hg dL_law_293 kk) ?_
  refine l_sld hg h4 dL_law_294 ?_
  refine l_callVX (rest := []) (As := [.int (xs (i + 1).toNatClampNeg), .int (xs (i + 2).toNatClampNeg), .int (xs (i + 3).toNatClampNeg), .int (xs (i + 4).toNatClampNeg)]) hg (fun _ _ => RA_ag) (k_X10_roof (gL g) (gD g) 1000 (xs (i + 1).toNatClampNeg) (xs (i + 2).toNatClampNeg) (xs (i + 3).toNatClampNeg) (xs (i + 4).toNatClampNeg) S (1000, 14000) _ (hP S S2 hI (xs (i + 1).toNatClampNeg) (xs (i + 2).toNatClampNeg) (xs (i + 3).toNatClampNeg) (xs (i + 4).toNatClampNeg))) (fun _ _ h => h.1) (fun _ => rfl) (fun _ _ => rfl) lv_L_23 (by decide) (hV S S2 hI).2.2.1 rfl rfl dL_law_295 (cat8 (Nat.le_of_ble_eq_true rfl)) hrm ⟨Nat.le_of_ble_eq_true rfl, Nat.le_of_ble_eq_true rfl⟩ hb1 hb2 (fun r S' hq => ?_)
  refine xl_of (fun _ kk => x_sload_n 1 hg dL_law_298 rfl rfl kk) ?_
  refine xl_of (fun _ kk => x_sload_n 3 hg dL_law_299 rfl rfl kk) ?_
  refine xl_of (fun _ kk => x_iload_n hg 0 dL_law_300 rfl rfl kk) ?_
  refine xl_of (fun _ kk => x_iconst (v := 1) hg dL_law_301 (by decide) kk) ?_
  refine xl_of (fun _ kk => x_iadd hg dL_law_302 kk) ?_
  refine l_sld hg h1 dL_law_303 ?_
  refine xl_of (fun _ kk => x_sload_n 3 hg dL_law_304 rfl rfl kk) ?_
  refine xl_of (fun _ kk => x_iload_n hg 0 dL_law_305 rfl rfl kk) ?_
  refine xl_of (fun _ kk => x_iconst (v := 2) hg dL_law_306 (by decide) kk) ?_
  refine xl_of (fun _ kk => x_iadd hg dL_law_307 kk) ?_
  refine l_sld hg h2 dL_law_308 ?_
  refine xl_of (fun _ kk => x_sload_n 3 hg dL_law_309 rfl rfl kk) ?_
  refine xl_of (fun _ kk => x_iload_n hg 0 dL_law_310 rfl rfl kk) ?_
  refine xl_of (fun _ kk => x_iconst (v := 3) hg dL_law_311 (by decide) kk) ?_
  refine xl_of (fun _ kk => x_iadd hg dL_law_312 kk) ?_
  refine l_sld hg h3 dL_law_313 ?_
  refine xl_of (fun _ kk => x_sload_n 3 hg dL_law_314 rfl rfl kk) ?_
  refine xl_of (fun _ kk => x_iload_n hg 0 dL_law_315 rfl rfl kk) ?_
  refine xl_of (fun _ kk => x_iconst (v := 4) hg dL_law_316 (by decide) kk) ?_
  refine xl_of (fun _ kk => x_iadd hg dL_law_317 kk) ?_
  refine l_sld hg h4 dL_law_318 ?_
  refine l_callVM (rest := [.int r]) (As := [.int (xs (i + 1).toNatClampNeg), .int (xs (i + 2).toNatClampNeg), .int (xs (i + 3).toNatClampNeg), .int (xs (i + 4).toNatClampNeg)]) hg (fun _ _ => RN_ag) (k_X11_roof (gL g) (gD g) 1000 (xs (i + 1).toNatClampNeg) (xs (i + 2).toNatClampNeg) (xs (i + 3).toNatClampNeg) (xs (i + 4).toNatClampNeg) S2 _ hq.2) (fun _ _ h => (hV _ _ h.2).2.1) (fun _ => rfl) (fun _ _ => rfl) lv_L_26 (by decide) (hV S S2 hI).2.2.2 rfl rfl dL_law_319 (cat8 (Nat.le_of_ble_eq_true rfl)) hrm ⟨Nat.le_of_ble_eq_true rfl, Nat.le_of_ble_eq_true rfl⟩ (Nat.zero_le _) (Nat.zero_le _) (fun r2 S2' hq2 => ?_)
  refine l_icmp_eq (tgt := 1345) hg dL_law_322 (by decide) (fun _ => ?_) (fun q => absurd hq2.1 q)
  exact hloop _ _ _ hq2.2 (by dsimp only; omega) (by dsimp only; omega)
theorem lc_lot (hg : GoodG g code RL) (hrm : gR g = rmL) (hV : InvOk Inv) (hP : Pr_lot Inv) {i : Int32} {S S2 : Sg} {b : Nat × Nat} (hI : Inv S S2) (hb1 : 1000 ≤ b.1) (hb2 : 14000 ≤ b.2) (h1 : vp_in (i + 1) L) (h2 : vp_in (i + 2) L) (h3 : vp_in (i + 3) L) (h4 : vp_in (i + 4) L) (h5 : vp_in (i + 5) L) (hloop : ∀ (S' S2' : Sg) (b' : Nat × Nat), Inv S' S2' → b.1 - 1000 ≤ b'.1 → b.2 - 14000 ≤ b'.2 → XL g sb L xs ax am 1345 [(3, .int i), (2, .ref am), (1, .ref ax), (0, .ref sb)] [] S' S2' b') : XL g sb L xs ax am 327 [(3, .int i), (2, .ref am), (1, .ref ax), (0, .ref sb)] [] S S2 b := by
  refine xl_of (fun _ kk => x_sload_n 2 hg dL_law_327 rfl rfl kk) ?_
  refine xl_of (fun _ kk => x_sload_n 3 hg dL_law_328 rfl rfl kk) ?_
  refine xl_of (fun _ kk => x_iload_n hg 0 dL_law_329 rfl rfl kk) ?_
  refine xl_of (fun _ kk => x_iconst (v := 1) hg dL_law_330 (by decide) kk) ?_
  refine xl_of (fun _ kk => x_iadd hg dL_law_331 kk) ?_
  refine l_sld hg h1 dL_law_332 ?_
  refine xl_of (fun _ kk => x_sload_n 3 hg dL_law_333 rfl rfl kk) ?_
  refine xl_of (fun _ kk => x_iload_n hg 0 dL_law_334 rfl rfl kk) ?_
  refine xl_of (fun _ kk => x_iconst (v := 2) hg dL_law_335 (by decide) kk) ?_
  refine xl_of (fun _ kk => x_iadd hg dL_law_336 kk) ?_
  refine l_sld hg h2 dL_law_337 ?_
  refine l_callVX (rest := []) (As := [.int (xs (i + 1).toNatClampNeg), .int (xs (i + 2).toNatClampNeg)]) hg (fun _ _ => RN_ag) (k_X10_lot (gL g) (gD g) 1000 (xs (i + 1).toNatClampNeg) (xs (i + 2).toNatClampNeg) S _ (hP S S2 hI (xs (i + 1).toNatClampNeg) (xs (i + 2).toNatClampNeg))) (fun _ _ h => h.1) (fun _ => rfl) (fun _ _ => rfl) lv_L_27 (by decide) (hV S S2 hI).2.2.1 rfl rfl dL_law_338 (cat8 (Nat.le_of_ble_eq_true rfl)) hrm ⟨Nat.le_of_ble_eq_true rfl, Nat.le_of_ble_eq_true rfl⟩ (Nat.zero_le _) (Nat.zero_le _) (fun r S' hq => ?_)
  refine xl_of (fun _ kk => x_sload_n 1 hg dL_law_341 rfl rfl kk) ?_
  refine xl_of (fun _ kk => x_sload_n 3 hg dL_law_342 rfl rfl kk) ?_
  refine xl_of (fun _ kk => x_iload_n hg 0 dL_law_343 rfl rfl kk) ?_
  refine xl_of (fun _ kk => x_iconst (v := 1) hg dL_law_344 (by decide) kk) ?_
  refine xl_of (fun _ kk => x_iadd hg dL_law_345 kk) ?_
  refine l_sld hg h1 dL_law_346 ?_
  refine xl_of (fun _ kk => x_sload_n 3 hg dL_law_347 rfl rfl kk) ?_
  refine xl_of (fun _ kk => x_iload_n hg 0 dL_law_348 rfl rfl kk) ?_
  refine xl_of (fun _ kk => x_iconst (v := 2) hg dL_law_349 (by decide) kk) ?_
  refine xl_of (fun _ kk => x_iadd hg dL_law_350 kk) ?_
  refine l_sld hg h2 dL_law_351 ?_
  refine l_callVM (rest := [.int r]) (As := [.int (xs (i + 1).toNatClampNeg), .int (xs (i + 2).toNatClampNeg)]) hg (fun _ _ => RN_ag) (k_X11_lot (gL g) (gD g) 1000 (xs (i + 1).toNatClampNeg) (xs (i + 2).toNatClampNeg) S2 _ hq.2) (fun _ _ h => (hV _ _ h.2).2.1) (fun _ => rfl) (fun _ _ => rfl) lv_L_30 (by decide) (hV S S2 hI).2.2.2 rfl rfl dL_law_352 (cat8 (Nat.le_of_ble_eq_true rfl)) hrm ⟨Nat.le_of_ble_eq_true rfl, Nat.le_of_ble_eq_true rfl⟩ (Nat.zero_le _) (Nat.zero_le _) (fun r2 S2' hq2 => ?_)
  refine l_icmp_eq (tgt := 1345) hg dL_law_355 (by decide) (fun _ => ?_) (fun q => absurd hq2.1 q)
  exact hloop _ _ _ hq2.2 (by dsimp only; omega) (by dsimp only; omega)
theorem lc_bed (hg : GoodG g code RL) (hrm : gR g = rmL) (hV : InvOk Inv) (hP : Pr_bed Inv) {i : Int32} {S S2 : Sg} {b : Nat × Nat} (hI : Inv S S2) (hb1 : 1000 ≤ b.1) (hb2 : 14000 ≤ b.2) (h1 : vp_in (i + 1) L) (h2 : vp_in (i + 2) L) (h3 : vp_in (i + 3) L) (h4 : vp_in (i + 4) L) (h5 : vp_in (i + 5) L) (hloop : ∀ (S' S2' : Sg) (b' : Nat × Nat), Inv S' S2' → b.1 - 1000 ≤ b'.1 → b.2 - 14000 ≤ b'.2 → XL g sb L xs ax am 1345 [(3, .int i), (2, .ref am), (1, .ref ax), (0, .ref sb)] [] S' S2' b') : XL g sb L xs ax am 360 [(3, .int i), (2, .ref am), (1, .ref ax), (0, .ref sb)] [] S S2 b := by
  refine xl_of (fun _ kk => x_sload_n 2 hg dL_law_360 rfl rfl kk) ?_
  refine xl_of (fun _ kk => x_sload_n 3 hg dL_law_361 rfl rfl kk) ?_
  refine xl_of (fun _ kk => x_iload_n hg 0 dL_law_362 rfl rfl kk) ?_
  refine xl_of (fun _ kk => x_iconst (v := 1) hg dL_law_363 (by decide) kk) ?_
  refine xl_of (fun _ kk => x_iadd hg dL_law_364 kk) ?_
  refine l_sld hg h1 dL_law_365 ?_
  refine xl_of (fun _ kk => x_sload_n 3 hg dL_law_366 rfl rfl kk) ?_
  refine xl_of (fun _ kk => x_iload_n hg 0 dL_law_367 rfl rfl kk) ?_
  refine xl_of (fun _ kk => x_iconst (v := 2) hg dL_law_368 (by decide) kk) ?_
  refine xl_of (fun _ kk => x_iadd hg dL_law_369 kk) ?_
  refine l_sld hg h2 dL_law_370 ?_
  refine xl_of (fun _ kk => x_sload_n 3 hg dL_law_371 rfl rfl kk) ?_
  refine xl_of (fun _ kk => x_iload_n hg 0 dL_law_372 rfl rfl kk) ?_
  refine xl_of (fun _ kk => x_iconst (v := 3) hg dL_law_373 (by decide) kk) ?_
  refine xl_of (fun _ kk => x_iadd hg dL_law_374 kk) ?_
  refine l_sld hg h3 dL_law_375 ?_
  refine xl_of (fun _ kk => x_sload_n 3 hg dL_law_376 rfl rfl kk) ?_
  refine xl_of (fun _ kk => x_iload_n hg 0 dL_law_377 rfl rfl kk) ?_
  refine xl_of (fun _ kk => x_iconst (v := 4) hg dL_law_378 (by decide) kk) ?_
  refine xl_of (fun _ kk => x_iadd hg dL_law_379 kk) ?_
  refine l_sld hg h4 dL_law_380 ?_
  refine l_if_eq (tgt := 388) hg dL_law_381 (by decide) (fun z => ?_) (fun z => ?_)
  · refine xl_of (fun _ kk => x_iconst (v := 0) hg dL_law_388 (by decide) kk) ?_
    refine l_callVX (rest := []) (As := [.int (xs (i + 1).toNatClampNeg), .int (xs (i + 2).toNatClampNeg), .int (xs (i + 3).toNatClampNeg), .int 0]) hg (fun _ _ => RA_ag) (k_X10_bed (gL g) (gD g) 1000 (xs (i + 1).toNatClampNeg) (xs (i + 2).toNatClampNeg) (xs (i + 3).toNatClampNeg) 0 S (1000, 14000) _ (hP S S2 hI (xs (i + 1).toNatClampNeg) (xs (i + 2).toNatClampNeg) (xs (i + 3).toNatClampNeg) 0 (Or.inl rfl))) (fun _ _ h => h.1) (fun _ => rfl) (fun _ _ => rfl) lv_L_31 (by decide) (hV S S2 hI).2.2.1 rfl rfl dL_law_389 (cat8 (Nat.le_of_ble_eq_true rfl)) hrm ⟨Nat.le_of_ble_eq_true rfl, Nat.le_of_ble_eq_true rfl⟩ hb1 hb2 (fun r S' hq => ?_)
    refine xl_of (fun _ kk => x_sload_n 1 hg dL_law_392 rfl rfl kk) ?_
    refine xl_of (fun _ kk => x_sload_n 3 hg dL_law_393 rfl rfl kk) ?_
    refine xl_of (fun _ kk => x_iload_n hg 0 dL_law_394 rfl rfl kk) ?_
    refine xl_of (fun _ kk => x_iconst (v := 1) hg dL_law_395 (by decide) kk) ?_
    refine xl_of (fun _ kk => x_iadd hg dL_law_396 kk) ?_
    refine l_sld hg h1 dL_law_397 ?_
    refine xl_of (fun _ kk => x_sload_n 3 hg dL_law_398 rfl rfl kk) ?_
    refine xl_of (fun _ kk => x_iload_n hg 0 dL_law_399 rfl rfl kk) ?_
    refine xl_of (fun _ kk => x_iconst (v := 2) hg dL_law_400 (by decide) kk) ?_
    refine xl_of (fun _ kk => x_iadd hg dL_law_401 kk) ?_
    refine l_sld hg h2 dL_law_402 ?_
    refine xl_of (fun _ kk => x_sload_n 3 hg dL_law_403 rfl rfl kk) ?_
    refine xl_of (fun _ kk => x_iload_n hg 0 dL_law_404 rfl rfl kk) ?_
    refine xl_of (fun _ kk => x_iconst (v := 3) hg dL_law_405 (by decide) kk) ?_
    refine xl_of (fun _ kk => x_iadd hg dL_law_406 kk) ?_
    refine l_sld hg h3 dL_law_407 ?_
    refine xl_of (fun _ kk => x_sload_n 3 hg dL_law_408 rfl rfl kk) ?_
    refine xl_of (fun _ kk => x_iload_n hg 0 dL_law_409 rfl rfl kk) ?_
    refine xl_of (fun _ kk => x_iconst (v := 4) hg dL_law_410 (by decide) kk) ?_
    refine xl_of (fun _ kk => x_iadd hg dL_law_411 kk) ?_
    refine l_sld hg h4 dL_law_412 ?_
    refine l_if_eq (tgt := 420) hg dL_law_413 (by decide) (fun _ => ?_) (fun q => absurd z q)
    refine xl_of (fun _ kk => x_iconst (v := 0) hg dL_law_420 (by decide) kk) ?_
    refine l_callVM (rest := [.int r]) (As := [.int (xs (i + 1).toNatClampNeg), .int (xs (i + 2).toNatClampNeg), .int (xs (i + 3).toNatClampNeg), .int 0]) hg (fun _ _ => RN_ag) (k_X11_bed (gL g) (gD g) 1000 (xs (i + 1).toNatClampNeg) (xs (i + 2).toNatClampNeg) (xs (i + 3).toNatClampNeg) 0 S2 _ hq.2) (fun _ _ h => (hV _ _ h.2).2.1) (fun _ => rfl) (fun _ _ => rfl) lv_L_35 (by decide) (hV S S2 hI).2.2.2 rfl rfl dL_law_421 (cat8 (Nat.le_of_ble_eq_true rfl)) hrm ⟨Nat.le_of_ble_eq_true rfl, Nat.le_of_ble_eq_true rfl⟩ (Nat.zero_le _) (Nat.zero_le _) (fun r2 S2' hq2 => ?_)
    refine l_icmp_eq (tgt := 1345) hg dL_law_424 (by decide) (fun _ => ?_) (fun q => absurd hq2.1 q)
    exact hloop _ _ _ hq2.2 (by dsimp only; omega) (by dsimp only; omega)
  · refine xl_of (fun _ kk => x_iconst (v := 1) hg dL_law_384 (by decide) kk) ?_
    refine xl_of (fun _ kk => x_goto (tgt := 389) hg dL_law_385 (by decide) kk) ?_
    refine l_callVX (rest := []) (As := [.int (xs (i + 1).toNatClampNeg), .int (xs (i + 2).toNatClampNeg), .int (xs (i + 3).toNatClampNeg), .int 1]) hg (fun _ _ => RA_ag) (k_X10_bed (gL g) (gD g) 1000 (xs (i + 1).toNatClampNeg) (xs (i + 2).toNatClampNeg) (xs (i + 3).toNatClampNeg) 1 S (1000, 14000) _ (hP S S2 hI (xs (i + 1).toNatClampNeg) (xs (i + 2).toNatClampNeg) (xs (i + 3).toNatClampNeg) 1 (Or.inr rfl))) (fun _ _ h => h.1) (fun _ => rfl) (fun _ _ => rfl) lv_L_31 (by decide) (hV S S2 hI).2.2.1 rfl rfl dL_law_389 (cat8 (Nat.le_of_ble_eq_true rfl)) hrm ⟨Nat.le_of_ble_eq_true rfl, Nat.le_of_ble_eq_true rfl⟩ hb1 hb2 (fun r S' hq => ?_)
    refine xl_of (fun _ kk => x_sload_n 1 hg dL_law_392 rfl rfl kk) ?_
    refine xl_of (fun _ kk => x_sload_n 3 hg dL_law_393 rfl rfl kk) ?_
    refine xl_of (fun _ kk => x_iload_n hg 0 dL_law_394 rfl rfl kk) ?_
    refine xl_of (fun _ kk => x_iconst (v := 1) hg dL_law_395 (by decide) kk) ?_
    refine xl_of (fun _ kk => x_iadd hg dL_law_396 kk) ?_
    refine l_sld hg h1 dL_law_397 ?_
    refine xl_of (fun _ kk => x_sload_n 3 hg dL_law_398 rfl rfl kk) ?_
    refine xl_of (fun _ kk => x_iload_n hg 0 dL_law_399 rfl rfl kk) ?_
    refine xl_of (fun _ kk => x_iconst (v := 2) hg dL_law_400 (by decide) kk) ?_
    refine xl_of (fun _ kk => x_iadd hg dL_law_401 kk) ?_
    refine l_sld hg h2 dL_law_402 ?_
    refine xl_of (fun _ kk => x_sload_n 3 hg dL_law_403 rfl rfl kk) ?_
    refine xl_of (fun _ kk => x_iload_n hg 0 dL_law_404 rfl rfl kk) ?_
    refine xl_of (fun _ kk => x_iconst (v := 3) hg dL_law_405 (by decide) kk) ?_
    refine xl_of (fun _ kk => x_iadd hg dL_law_406 kk) ?_
    refine l_sld hg h3 dL_law_407 ?_
    refine xl_of (fun _ kk => x_sload_n 3 hg dL_law_408 rfl rfl kk) ?_
    refine xl_of (fun _ kk => x_iload_n hg 0 dL_law_409 rfl rfl kk) ?_
    refine xl_of (fun _ kk => x_iconst (v := 4) hg dL_law_410 (by decide) kk) ?_
    refine xl_of (fun _ kk => x_iadd hg dL_law_411 kk) ?_
    refine l_sld hg h4 dL_law_412 ?_
    refine l_if_eq (tgt := 420) hg dL_law_413 (by decide) (fun q => absurd q z) (fun _ => ?_)
    refine xl_of (fun _ kk => x_iconst (v := 1) hg dL_law_416 (by decide) kk) ?_
    refine xl_of (fun _ kk => x_goto (tgt := 421) hg dL_law_417 (by decide) kk) ?_
    refine l_callVM (rest := [.int r]) (As := [.int (xs (i + 1).toNatClampNeg), .int (xs (i + 2).toNatClampNeg), .int (xs (i + 3).toNatClampNeg), .int 1]) hg (fun _ _ => RN_ag) (k_X11_bed (gL g) (gD g) 1000 (xs (i + 1).toNatClampNeg) (xs (i + 2).toNatClampNeg) (xs (i + 3).toNatClampNeg) 1 S2 _ hq.2) (fun _ _ h => (hV _ _ h.2).2.1) (fun _ => rfl) (fun _ _ => rfl) lv_L_35 (by decide) (hV S S2 hI).2.2.2 rfl rfl dL_law_421 (cat8 (Nat.le_of_ble_eq_true rfl)) hrm ⟨Nat.le_of_ble_eq_true rfl, Nat.le_of_ble_eq_true rfl⟩ (Nat.zero_le _) (Nat.zero_le _) (fun r2 S2' hq2 => ?_)
    refine l_icmp_eq (tgt := 1345) hg dL_law_424 (by decide) (fun _ => ?_) (fun q => absurd hq2.1 q)
    exact hloop _ _ _ hq2.2 (by dsimp only; omega) (by dsimp only; omega)
theorem lc_care (hg : GoodG g code RL) (hrm : gR g = rmL) (hV : InvOk Inv) (hP : Pr_care Inv) {i : Int32} {S S2 : Sg} {b : Nat × Nat} (hI : Inv S S2) (hb1 : 1000 ≤ b.1) (hb2 : 14000 ≤ b.2) (h1 : vp_in (i + 1) L) (h2 : vp_in (i + 2) L) (h3 : vp_in (i + 3) L) (h4 : vp_in (i + 4) L) (h5 : vp_in (i + 5) L) (hloop : ∀ (S' S2' : Sg) (b' : Nat × Nat), Inv S' S2' → b.1 - 1000 ≤ b'.1 → b.2 - 14000 ≤ b'.2 → XL g sb L xs ax am 1345 [(3, .int i), (2, .ref am), (1, .ref ax), (0, .ref sb)] [] S' S2' b') : XL g sb L xs ax am 429 [(3, .int i), (2, .ref am), (1, .ref ax), (0, .ref sb)] [] S S2 b := by
  refine xl_of (fun _ kk => x_sload_n 2 hg dL_law_429 rfl rfl kk) ?_
  refine xl_of (fun _ kk => x_sload_n 3 hg dL_law_430 rfl rfl kk) ?_
  refine xl_of (fun _ kk => x_iload_n hg 0 dL_law_431 rfl rfl kk) ?_
  refine xl_of (fun _ kk => x_iconst (v := 1) hg dL_law_432 (by decide) kk) ?_
  refine xl_of (fun _ kk => x_iadd hg dL_law_433 kk) ?_
  refine l_sld hg h1 dL_law_434 ?_
  refine xl_of (fun _ kk => x_sload_n 3 hg dL_law_435 rfl rfl kk) ?_
  refine xl_of (fun _ kk => x_iload_n hg 0 dL_law_436 rfl rfl kk) ?_
  refine xl_of (fun _ kk => x_iconst (v := 2) hg dL_law_437 (by decide) kk) ?_
  refine xl_of (fun _ kk => x_iadd hg dL_law_438 kk) ?_
  refine l_sld hg h2 dL_law_439 ?_
  refine l_callVX (rest := []) (As := [.int (xs (i + 1).toNatClampNeg), .int (xs (i + 2).toNatClampNeg)]) hg (fun _ _ => RN_ag) (k_X10_care (gL g) (gD g) 1000 (xs (i + 1).toNatClampNeg) (xs (i + 2).toNatClampNeg) S _ (hP S S2 hI (xs (i + 1).toNatClampNeg) (xs (i + 2).toNatClampNeg))) (fun _ _ h => h.1) (fun _ => rfl) (fun _ _ => rfl) lv_L_36 (by decide) (hV S S2 hI).2.2.1 rfl rfl dL_law_440 (cat8 (Nat.le_of_ble_eq_true rfl)) hrm ⟨Nat.le_of_ble_eq_true rfl, Nat.le_of_ble_eq_true rfl⟩ (Nat.zero_le _) (Nat.zero_le _) (fun r S' hq => ?_)
  refine xl_of (fun _ kk => x_sload_n 1 hg dL_law_443 rfl rfl kk) ?_
  refine xl_of (fun _ kk => x_sload_n 3 hg dL_law_444 rfl rfl kk) ?_
  refine xl_of (fun _ kk => x_iload_n hg 0 dL_law_445 rfl rfl kk) ?_
  refine xl_of (fun _ kk => x_iconst (v := 1) hg dL_law_446 (by decide) kk) ?_
  refine xl_of (fun _ kk => x_iadd hg dL_law_447 kk) ?_
  refine l_sld hg h1 dL_law_448 ?_
  refine xl_of (fun _ kk => x_sload_n 3 hg dL_law_449 rfl rfl kk) ?_
  refine xl_of (fun _ kk => x_iload_n hg 0 dL_law_450 rfl rfl kk) ?_
  refine xl_of (fun _ kk => x_iconst (v := 2) hg dL_law_451 (by decide) kk) ?_
  refine xl_of (fun _ kk => x_iadd hg dL_law_452 kk) ?_
  refine l_sld hg h2 dL_law_453 ?_
  refine l_callVM (rest := [.int r]) (As := [.int (xs (i + 1).toNatClampNeg), .int (xs (i + 2).toNatClampNeg)]) hg (fun _ _ => RN_ag) (k_X11_care (gL g) (gD g) 1000 (xs (i + 1).toNatClampNeg) (xs (i + 2).toNatClampNeg) S2 _ hq.2) (fun _ _ h => (hV _ _ h.2).2.1) (fun _ => rfl) (fun _ _ => rfl) lv_L_39 (by decide) (hV S S2 hI).2.2.2 rfl rfl dL_law_454 (cat8 (Nat.le_of_ble_eq_true rfl)) hrm ⟨Nat.le_of_ble_eq_true rfl, Nat.le_of_ble_eq_true rfl⟩ (Nat.zero_le _) (Nat.zero_le _) (fun r2 S2' hq2 => ?_)
  refine l_icmp_eq (tgt := 1345) hg dL_law_457 (by decide) (fun _ => ?_) (fun q => absurd hq2.1 q)
  exact hloop _ _ _ hq2.2 (by dsimp only; omega) (by dsimp only; omega)
theorem lc_treat (hg : GoodG g code RL) (hrm : gR g = rmL) (hV : InvOk Inv) (hP : Pr_treat Inv) {i : Int32} {S S2 : Sg} {b : Nat × Nat} (hI : Inv S S2) (hb1 : 1000 ≤ b.1) (hb2 : 14000 ≤ b.2) (h1 : vp_in (i + 1) L) (h2 : vp_in (i + 2) L) (h3 : vp_in (i + 3) L) (h4 : vp_in (i + 4) L) (h5 : vp_in (i + 5) L) (hloop : ∀ (S' S2' : Sg) (b' : Nat × Nat), Inv S' S2' → b.1 - 1000 ≤ b'.1 → b.2 - 14000 ≤ b'.2 → XL g sb L xs ax am 1345 [(3, .int i), (2, .ref am), (1, .ref ax), (0, .ref sb)] [] S' S2' b') : XL g sb L xs ax am 462 [(3, .int i), (2, .ref am), (1, .ref ax), (0, .ref sb)] [] S S2 b := by
  refine xl_of (fun _ kk => x_sload_n 2 hg dL_law_462 rfl rfl kk) ?_
  refine xl_of (fun _ kk => x_sload_n 3 hg dL_law_463 rfl rfl kk) ?_
  refine xl_of (fun _ kk => x_iload_n hg 0 dL_law_464 rfl rfl kk) ?_
  refine xl_of (fun _ kk => x_iconst (v := 1) hg dL_law_465 (by decide) kk) ?_
  refine xl_of (fun _ kk => x_iadd hg dL_law_466 kk) ?_
  refine l_sld hg h1 dL_law_467 ?_
  refine xl_of (fun _ kk => x_sload_n 3 hg dL_law_468 rfl rfl kk) ?_
  refine xl_of (fun _ kk => x_iload_n hg 0 dL_law_469 rfl rfl kk) ?_
  refine xl_of (fun _ kk => x_iconst (v := 2) hg dL_law_470 (by decide) kk) ?_
  refine xl_of (fun _ kk => x_iadd hg dL_law_471 kk) ?_
  refine l_sld hg h2 dL_law_472 ?_
  refine l_callVX (rest := []) (As := [.int (xs (i + 1).toNatClampNeg), .int (xs (i + 2).toNatClampNeg)]) hg (fun _ _ => RN_ag) (k_X10_treat (gL g) (gD g) 1000 (xs (i + 1).toNatClampNeg) (xs (i + 2).toNatClampNeg) S _ (hP S S2 hI (xs (i + 1).toNatClampNeg) (xs (i + 2).toNatClampNeg))) (fun _ _ h => h.1) (fun _ => rfl) (fun _ _ => rfl) lv_L_40 (by decide) (hV S S2 hI).2.2.1 rfl rfl dL_law_473 (cat8 (Nat.le_of_ble_eq_true rfl)) hrm ⟨Nat.le_of_ble_eq_true rfl, Nat.le_of_ble_eq_true rfl⟩ (Nat.zero_le _) (Nat.zero_le _) (fun r S' hq => ?_)
  refine xl_of (fun _ kk => x_sload_n 1 hg dL_law_476 rfl rfl kk) ?_
  refine xl_of (fun _ kk => x_sload_n 3 hg dL_law_477 rfl rfl kk) ?_
  refine xl_of (fun _ kk => x_iload_n hg 0 dL_law_478 rfl rfl kk) ?_
  refine xl_of (fun _ kk => x_iconst (v := 1) hg dL_law_479 (by decide) kk) ?_
  refine xl_of (fun _ kk => x_iadd hg dL_law_480 kk) ?_
  refine l_sld hg h1 dL_law_481 ?_
  refine xl_of (fun _ kk => x_sload_n 3 hg dL_law_482 rfl rfl kk) ?_
  refine xl_of (fun _ kk => x_iload_n hg 0 dL_law_483 rfl rfl kk) ?_
  refine xl_of (fun _ kk => x_iconst (v := 2) hg dL_law_484 (by decide) kk) ?_
  refine xl_of (fun _ kk => x_iadd hg dL_law_485 kk) ?_
  refine l_sld hg h2 dL_law_486 ?_
  refine l_callVM (rest := [.int r]) (As := [.int (xs (i + 1).toNatClampNeg), .int (xs (i + 2).toNatClampNeg)]) hg (fun _ _ => RN_ag) (k_X11_treat (gL g) (gD g) 1000 (xs (i + 1).toNatClampNeg) (xs (i + 2).toNatClampNeg) S2 _ hq.2) (fun _ _ h => (hV _ _ h.2).2.1) (fun _ => rfl) (fun _ _ => rfl) lv_L_43 (by decide) (hV S S2 hI).2.2.2 rfl rfl dL_law_487 (cat8 (Nat.le_of_ble_eq_true rfl)) hrm ⟨Nat.le_of_ble_eq_true rfl, Nat.le_of_ble_eq_true rfl⟩ (Nat.zero_le _) (Nat.zero_le _) (fun r2 S2' hq2 => ?_)
  refine l_icmp_eq (tgt := 1345) hg dL_law_490 (by decide) (fun _ => ?_) (fun q => absurd hq2.1 q)
  exact hloop _ _ _ hq2.2 (by dsimp only; omega) (by dsimp only; omega)
theorem lc_pass (hg : GoodG g code RL) (hrm : gR g = rmL) (hV : InvOk Inv) (hP : Pr_pass Inv) {i : Int32} {S S2 : Sg} {b : Nat × Nat} (hI : Inv S S2) (hb1 : 1000 ≤ b.1) (hb2 : 14000 ≤ b.2) (h1 : vp_in (i + 1) L) (h2 : vp_in (i + 2) L) (h3 : vp_in (i + 3) L) (h4 : vp_in (i + 4) L) (h5 : vp_in (i + 5) L) (hloop : ∀ (S' S2' : Sg) (b' : Nat × Nat), Inv S' S2' → b.1 - 1000 ≤ b'.1 → b.2 - 14000 ≤ b'.2 → XL g sb L xs ax am 1345 [(3, .int i), (2, .ref am), (1, .ref ax), (0, .ref sb)] [] S' S2' b') : XL g sb L xs ax am 495 [(3, .int i), (2, .ref am), (1, .ref ax), (0, .ref sb)] [] S S2 b := by
  refine xl_of (fun _ kk => x_sload_n 2 hg dL_law_495 rfl rfl kk) ?_
  refine xl_of (fun _ kk => x_sload_n 3 hg dL_law_496 rfl rfl kk) ?_
  refine xl_of (fun _ kk => x_iload_n hg 0 dL_law_497 rfl rfl kk) ?_
  refine xl_of (fun _ kk => x_iconst (v := 1) hg dL_law_498 (by decide) kk) ?_
  refine xl_of (fun _ kk => x_iadd hg dL_law_499 kk) ?_
  refine l_sld hg h1 dL_law_500 ?_
  refine l_callVX (rest := []) (As := [.int (xs (i + 1).toNatClampNeg)]) hg (fun _ _ => RA_ag) (k_X10_pass (gL g) (gD g) 1000 (xs (i + 1).toNatClampNeg) S (1000, 14000) _ (hP S S2 hI (xs (i + 1).toNatClampNeg))) (fun _ _ h => h.1) (fun _ => rfl) (fun _ _ => rfl) lv_L_44 (by decide) (hV S S2 hI).2.2.1 rfl rfl dL_law_501 (cat8 (Nat.le_of_ble_eq_true rfl)) hrm ⟨Nat.le_of_ble_eq_true rfl, Nat.le_of_ble_eq_true rfl⟩ hb1 hb2 (fun r S' hq => ?_)
  refine xl_of (fun _ kk => x_sload_n 1 hg dL_law_504 rfl rfl kk) ?_
  refine xl_of (fun _ kk => x_sload_n 3 hg dL_law_505 rfl rfl kk) ?_
  refine xl_of (fun _ kk => x_iload_n hg 0 dL_law_506 rfl rfl kk) ?_
  refine xl_of (fun _ kk => x_iconst (v := 1) hg dL_law_507 (by decide) kk) ?_
  refine xl_of (fun _ kk => x_iadd hg dL_law_508 kk) ?_
  refine l_sld hg h1 dL_law_509 ?_
  refine l_callVM (rest := [.int r]) (As := [.int (xs (i + 1).toNatClampNeg)]) hg (fun _ _ => RN_ag) (k_X11_pass (gL g) (gD g) 1000 (xs (i + 1).toNatClampNeg) S2 _ hq.2) (fun _ _ h => (hV _ _ h.2).2.1) (fun _ => rfl) (fun _ _ => rfl) lv_L_48 (by decide) (hV S S2 hI).2.2.2 rfl rfl dL_law_510 (cat8 (Nat.le_of_ble_eq_true rfl)) hrm ⟨Nat.le_of_ble_eq_true rfl, Nat.le_of_ble_eq_true rfl⟩ (Nat.zero_le _) (Nat.zero_le _) (fun r2 S2' hq2 => ?_)
  refine l_icmp_eq (tgt := 1345) hg dL_law_513 (by decide) (fun _ => ?_) (fun q => absurd hq2.1 q)
  exact hloop _ _ _ hq2.2 (by dsimp only; omega) (by dsimp only; omega)
theorem lc_rain (hg : GoodG g code RL) (hrm : gR g = rmL) (hV : InvOk Inv) (hP : Pr_rain Inv) {i : Int32} {S S2 : Sg} {b : Nat × Nat} (hI : Inv S S2) (hb1 : 1000 ≤ b.1) (hb2 : 14000 ≤ b.2) (h1 : vp_in (i + 1) L) (h2 : vp_in (i + 2) L) (h3 : vp_in (i + 3) L) (h4 : vp_in (i + 4) L) (h5 : vp_in (i + 5) L) (hloop : ∀ (S' S2' : Sg) (b' : Nat × Nat), Inv S' S2' → b.1 - 1000 ≤ b'.1 → b.2 - 14000 ≤ b'.2 → XL g sb L xs ax am 1345 [(3, .int i), (2, .ref am), (1, .ref ax), (0, .ref sb)] [] S' S2' b') : XL g sb L xs ax am 518 [(3, .int i), (2, .ref am), (1, .ref ax), (0, .ref sb)] [] S S2 b := by
  refine xl_of (fun _ kk => x_sload_n 2 hg dL_law_518 rfl rfl kk) ?_
  refine xl_of (fun _ kk => x_sload_n 3 hg dL_law_519 rfl rfl kk) ?_
  refine xl_of (fun _ kk => x_iload_n hg 0 dL_law_520 rfl rfl kk) ?_
  refine xl_of (fun _ kk => x_iconst (v := 1) hg dL_law_521 (by decide) kk) ?_
  refine xl_of (fun _ kk => x_iadd hg dL_law_522 kk) ?_
  refine l_sld hg h1 dL_law_523 ?_
  refine l_callVX (rest := []) (As := [.int (xs (i + 1).toNatClampNeg)]) hg (fun _ _ => RN_ag) (k_X10_rain (gL g) (gD g) 1000 (xs (i + 1).toNatClampNeg) S _ (hP S S2 hI (xs (i + 1).toNatClampNeg))) (fun _ _ h => h.1) (fun _ => rfl) (fun _ _ => rfl) lv_L_49 (by decide) (hV S S2 hI).2.2.1 rfl rfl dL_law_524 (cat8 (Nat.le_of_ble_eq_true rfl)) hrm ⟨Nat.le_of_ble_eq_true rfl, Nat.le_of_ble_eq_true rfl⟩ (Nat.zero_le _) (Nat.zero_le _) (fun r S' hq => ?_)
  refine xl_of (fun _ kk => x_sload_n 1 hg dL_law_527 rfl rfl kk) ?_
  refine xl_of (fun _ kk => x_sload_n 3 hg dL_law_528 rfl rfl kk) ?_
  refine xl_of (fun _ kk => x_iload_n hg 0 dL_law_529 rfl rfl kk) ?_
  refine xl_of (fun _ kk => x_iconst (v := 1) hg dL_law_530 (by decide) kk) ?_
  refine xl_of (fun _ kk => x_iadd hg dL_law_531 kk) ?_
  refine l_sld hg h1 dL_law_532 ?_
  refine l_callVM (rest := [.int r]) (As := [.int (xs (i + 1).toNatClampNeg)]) hg (fun _ _ => RN_ag) (k_X11_rain (gL g) (gD g) 1000 (xs (i + 1).toNatClampNeg) S2 _ hq.2) (fun _ _ h => (hV _ _ h.2).2.1) (fun _ => rfl) (fun _ _ => rfl) lv_L_52 (by decide) (hV S S2 hI).2.2.2 rfl rfl dL_law_533 (cat8 (Nat.le_of_ble_eq_true rfl)) hrm ⟨Nat.le_of_ble_eq_true rfl, Nat.le_of_ble_eq_true rfl⟩ (Nat.zero_le _) (Nat.zero_le _) (fun r2 S2' hq2 => ?_)
  refine l_icmp_eq (tgt := 1345) hg dL_law_536 (by decide) (fun _ => ?_) (fun q => absurd hq2.1 q)
  exact hloop _ _ _ hq2.2 (by dsimp only; omega) (by dsimp only; omega)
theorem lc_clear (hg : GoodG g code RL) (hrm : gR g = rmL) (hV : InvOk Inv) (hP : Pr_clear Inv) {i : Int32} {S S2 : Sg} {b : Nat × Nat} (hI : Inv S S2) (hb1 : 1000 ≤ b.1) (hb2 : 14000 ≤ b.2) (h1 : vp_in (i + 1) L) (h2 : vp_in (i + 2) L) (h3 : vp_in (i + 3) L) (h4 : vp_in (i + 4) L) (h5 : vp_in (i + 5) L) (hloop : ∀ (S' S2' : Sg) (b' : Nat × Nat), Inv S' S2' → b.1 - 1000 ≤ b'.1 → b.2 - 14000 ≤ b'.2 → XL g sb L xs ax am 1345 [(3, .int i), (2, .ref am), (1, .ref ax), (0, .ref sb)] [] S' S2' b') : XL g sb L xs ax am 541 [(3, .int i), (2, .ref am), (1, .ref ax), (0, .ref sb)] [] S S2 b := by
  refine xl_of (fun _ kk => x_sload_n 2 hg dL_law_541 rfl rfl kk) ?_
  refine l_callVX (rest := []) (As := []) hg (fun _ _ => RN_ag) (k_X10_clear (gL g) (gD g) 1000 S _ (hP S S2 hI ())) (fun _ _ h => h.1) (fun _ => rfl) (fun _ _ => rfl) lv_L_53 (by decide) (hV S S2 hI).2.2.1 rfl rfl dL_law_542 (cat8 (Nat.le_of_ble_eq_true rfl)) hrm ⟨Nat.le_of_ble_eq_true rfl, Nat.le_of_ble_eq_true rfl⟩ (Nat.zero_le _) (Nat.zero_le _) (fun r S' hq => ?_)
  refine xl_of (fun _ kk => x_sload_n 1 hg dL_law_545 rfl rfl kk) ?_
  refine l_callVM (rest := [.int r]) (As := []) hg (fun _ _ => RN_ag) (k_X11_clear (gL g) (gD g) 1000 S2 _ hq.2) (fun _ _ h => (hV _ _ h.2).2.1) (fun _ => rfl) (fun _ _ => rfl) lv_L_57 (by decide) (hV S S2 hI).2.2.2 rfl rfl dL_law_546 (cat8 (Nat.le_of_ble_eq_true rfl)) hrm ⟨Nat.le_of_ble_eq_true rfl, Nat.le_of_ble_eq_true rfl⟩ (Nat.zero_le _) (Nat.zero_le _) (fun r2 S2' hq2 => ?_)
  refine l_icmp_eq (tgt := 1345) hg dL_law_549 (by decide) (fun _ => ?_) (fun q => absurd hq2.1 q)
  exact hloop _ _ _ hq2.2 (by dsimp only; omega) (by dsimp only; omega)
theorem lc_storm (hg : GoodG g code RL) (hrm : gR g = rmL) (hV : InvOk Inv) (hP : Pr_storm Inv) {i : Int32} {S S2 : Sg} {b : Nat × Nat} (hI : Inv S S2) (hb1 : 1000 ≤ b.1) (hb2 : 14000 ≤ b.2) (h1 : vp_in (i + 1) L) (h2 : vp_in (i + 2) L) (h3 : vp_in (i + 3) L) (h4 : vp_in (i + 4) L) (h5 : vp_in (i + 5) L) (hloop : ∀ (S' S2' : Sg) (b' : Nat × Nat), Inv S' S2' → b.1 - 1000 ≤ b'.1 → b.2 - 14000 ≤ b'.2 → XL g sb L xs ax am 1345 [(3, .int i), (2, .ref am), (1, .ref ax), (0, .ref sb)] [] S' S2' b') : XL g sb L xs ax am 554 [(3, .int i), (2, .ref am), (1, .ref ax), (0, .ref sb)] [] S S2 b := by
  refine xl_of (fun _ kk => x_sload_n 2 hg dL_law_554 rfl rfl kk) ?_
  refine l_callVX (rest := []) (As := []) hg (fun _ _ => RA_ag) (k_X10_storm (gL g) (gD g) 1000 S (1000, 14000) _ (hP S S2 hI ())) (fun _ _ h => h.1) (fun _ => rfl) (fun _ _ => rfl) lv_L_58 (by decide) (hV S S2 hI).2.2.1 rfl rfl dL_law_555 (cat8 (Nat.le_of_ble_eq_true rfl)) hrm ⟨Nat.le_of_ble_eq_true rfl, Nat.le_of_ble_eq_true rfl⟩ hb1 hb2 (fun r S' hq => ?_)
  refine xl_of (fun _ kk => x_sload_n 1 hg dL_law_558 rfl rfl kk) ?_
  refine l_callVM (rest := [.int r]) (As := []) hg (fun _ _ => RN_ag) (k_X11_storm (gL g) (gD g) 1000 S2 _ hq.2) (fun _ _ h => (hV _ _ h.2).2.1) (fun _ => rfl) (fun _ _ => rfl) lv_L_61 (by decide) (hV S S2 hI).2.2.2 rfl rfl dL_law_559 (cat8 (Nat.le_of_ble_eq_true rfl)) hrm ⟨Nat.le_of_ble_eq_true rfl, Nat.le_of_ble_eq_true rfl⟩ (Nat.zero_le _) (Nat.zero_le _) (fun r2 S2' hq2 => ?_)
  refine l_icmp_eq (tgt := 1345) hg dL_law_562 (by decide) (fun _ => ?_) (fun q => absurd hq2.1 q)
  exact hloop _ _ _ hq2.2 (by dsimp only; omega) (by dsimp only; omega)
theorem lc_tried (hg : GoodG g code RL) (hrm : gR g = rmL) (hV : InvOk Inv) (hP : Pr_tried Inv) {i : Int32} {S S2 : Sg} {b : Nat × Nat} (hI : Inv S S2) (hb1 : 1000 ≤ b.1) (hb2 : 14000 ≤ b.2) (h1 : vp_in (i + 1) L) (h2 : vp_in (i + 2) L) (h3 : vp_in (i + 3) L) (h4 : vp_in (i + 4) L) (h5 : vp_in (i + 5) L) (hloop : ∀ (S' S2' : Sg) (b' : Nat × Nat), Inv S' S2' → b.1 - 1000 ≤ b'.1 → b.2 - 14000 ≤ b'.2 → XL g sb L xs ax am 1345 [(3, .int i), (2, .ref am), (1, .ref ax), (0, .ref sb)] [] S' S2' b') : XL g sb L xs ax am 567 [(3, .int i), (2, .ref am), (1, .ref ax), (0, .ref sb)] [] S S2 b := by
  refine xl_of (fun _ kk => x_sload_n 2 hg dL_law_567 rfl rfl kk) ?_
  refine xl_of (fun _ kk => x_sload_n 3 hg dL_law_568 rfl rfl kk) ?_
  refine xl_of (fun _ kk => x_iload_n hg 0 dL_law_569 rfl rfl kk) ?_
  refine xl_of (fun _ kk => x_iconst (v := 1) hg dL_law_570 (by decide) kk) ?_
  refine xl_of (fun _ kk => x_iadd hg dL_law_571 kk) ?_
  refine l_sld hg h1 dL_law_572 ?_
  refine xl_of (fun _ kk => x_sload_n 3 hg dL_law_573 rfl rfl kk) ?_
  refine xl_of (fun _ kk => x_iload_n hg 0 dL_law_574 rfl rfl kk) ?_
  refine xl_of (fun _ kk => x_iconst (v := 2) hg dL_law_575 (by decide) kk) ?_
  refine xl_of (fun _ kk => x_iadd hg dL_law_576 kk) ?_
  refine l_sld hg h2 dL_law_577 ?_
  refine l_callVX (rest := []) (As := [.int (xs (i + 1).toNatClampNeg), .int (xs (i + 2).toNatClampNeg)]) hg (fun _ _ => RN_ag) (k_X10_tried (gL g) (gD g) 1000 (xs (i + 1).toNatClampNeg) (xs (i + 2).toNatClampNeg) S _ (hP S S2 hI (xs (i + 1).toNatClampNeg) (xs (i + 2).toNatClampNeg))) (fun _ _ h => h.1) (fun _ => rfl) (fun _ _ => rfl) lv_L_62 (by decide) (hV S S2 hI).2.2.1 rfl rfl dL_law_578 (cat8 (Nat.le_of_ble_eq_true rfl)) hrm ⟨Nat.le_of_ble_eq_true rfl, Nat.le_of_ble_eq_true rfl⟩ (Nat.zero_le _) (Nat.zero_le _) (fun r S' hq => ?_)
  refine xl_of (fun _ kk => x_sload_n 1 hg dL_law_581 rfl rfl kk) ?_
  refine xl_of (fun _ kk => x_sload_n 3 hg dL_law_582 rfl rfl kk) ?_
  refine xl_of (fun _ kk => x_iload_n hg 0 dL_law_583 rfl rfl kk) ?_
  refine xl_of (fun _ kk => x_iconst (v := 1) hg dL_law_584 (by decide) kk) ?_
  refine xl_of (fun _ kk => x_iadd hg dL_law_585 kk) ?_
  refine l_sld hg h1 dL_law_586 ?_
  refine xl_of (fun _ kk => x_sload_n 3 hg dL_law_587 rfl rfl kk) ?_
  refine xl_of (fun _ kk => x_iload_n hg 0 dL_law_588 rfl rfl kk) ?_
  refine xl_of (fun _ kk => x_iconst (v := 2) hg dL_law_589 (by decide) kk) ?_
  refine xl_of (fun _ kk => x_iadd hg dL_law_590 kk) ?_
  refine l_sld hg h2 dL_law_591 ?_
  refine l_callVM (rest := [.long r]) (As := [.int (xs (i + 1).toNatClampNeg), .int (xs (i + 2).toNatClampNeg)]) hg (fun _ _ => RN_ag) (k_X11_tried (gL g) (gD g) 1000 (xs (i + 1).toNatClampNeg) (xs (i + 2).toNatClampNeg) S2 _ hq.2) (fun _ _ h => (hV _ _ h.2).2.1) (fun _ => rfl) (fun _ _ => rfl) lv_L_66 (by decide) (hV S S2 hI).2.2.2 rfl rfl dL_law_592 (cat8 (Nat.le_of_ble_eq_true rfl)) hrm ⟨Nat.le_of_ble_eq_true rfl, Nat.le_of_ble_eq_true rfl⟩ (Nat.zero_le _) (Nat.zero_le _) (fun r2 S2' hq2 => ?_)
  refine xl_of (fun _ kk => x_lcmp hg dL_law_595 kk) ?_
  refine l_if_eq (tgt := 1345) hg dL_law_596 (by decide) (fun _ => ?_) (fun q => absurd ((lg_cmp_eq _ _).mpr hq2.1) q)
  exact hloop _ _ _ hq2.2 (by dsimp only; omega) (by dsimp only; omega)
theorem lc_best (hg : GoodG g code RL) (hrm : gR g = rmL) (hV : InvOk Inv) (hP : Pr_best Inv) {i : Int32} {S S2 : Sg} {b : Nat × Nat} (hI : Inv S S2) (hb1 : 1000 ≤ b.1) (hb2 : 14000 ≤ b.2) (h1 : vp_in (i + 1) L) (h2 : vp_in (i + 2) L) (h3 : vp_in (i + 3) L) (h4 : vp_in (i + 4) L) (h5 : vp_in (i + 5) L) (hloop : ∀ (S' S2' : Sg) (b' : Nat × Nat), Inv S' S2' → b.1 - 1000 ≤ b'.1 → b.2 - 14000 ≤ b'.2 → XL g sb L xs ax am 1345 [(3, .int i), (2, .ref am), (1, .ref ax), (0, .ref sb)] [] S' S2' b') : XL g sb L xs ax am 601 [(3, .int i), (2, .ref am), (1, .ref ax), (0, .ref sb)] [] S S2 b := by
  refine xl_of (fun _ kk => x_sload_n 2 hg dL_law_601 rfl rfl kk) ?_
  refine xl_of (fun _ kk => x_sload_n 3 hg dL_law_602 rfl rfl kk) ?_
  refine xl_of (fun _ kk => x_iload_n hg 0 dL_law_603 rfl rfl kk) ?_
  refine xl_of (fun _ kk => x_iconst (v := 1) hg dL_law_604 (by decide) kk) ?_
  refine xl_of (fun _ kk => x_iadd hg dL_law_605 kk) ?_
  refine l_sld hg h1 dL_law_606 ?_
  refine xl_of (fun _ kk => x_sload_n 3 hg dL_law_607 rfl rfl kk) ?_
  refine xl_of (fun _ kk => x_iload_n hg 0 dL_law_608 rfl rfl kk) ?_
  refine xl_of (fun _ kk => x_iconst (v := 2) hg dL_law_609 (by decide) kk) ?_
  refine xl_of (fun _ kk => x_iadd hg dL_law_610 kk) ?_
  refine l_sld hg h2 dL_law_611 ?_
  refine xl_of (fun _ kk => x_sload_n 3 hg dL_law_612 rfl rfl kk) ?_
  refine xl_of (fun _ kk => x_iload_n hg 0 dL_law_613 rfl rfl kk) ?_
  refine xl_of (fun _ kk => x_iconst (v := 3) hg dL_law_614 (by decide) kk) ?_
  refine xl_of (fun _ kk => x_iadd hg dL_law_615 kk) ?_
  refine l_sld hg h3 dL_law_616 ?_
  refine xl_of (fun _ kk => x_sload_n 3 hg dL_law_617 rfl rfl kk) ?_
  refine xl_of (fun _ kk => x_iload_n hg 0 dL_law_618 rfl rfl kk) ?_
  refine xl_of (fun _ kk => x_iconst (v := 4) hg dL_law_619 (by decide) kk) ?_
  refine xl_of (fun _ kk => x_iadd hg dL_law_620 kk) ?_
  refine l_sld hg h4 dL_law_621 ?_
  refine l_callVX (rest := []) (As := [.int (xs (i + 1).toNatClampNeg), .int (xs (i + 2).toNatClampNeg), .int (xs (i + 3).toNatClampNeg), .int (xs (i + 4).toNatClampNeg)]) hg (fun _ _ => RN_ag) (k_X10_best (gL g) (gD g) 1000 (xs (i + 1).toNatClampNeg) (xs (i + 2).toNatClampNeg) (xs (i + 3).toNatClampNeg) (xs (i + 4).toNatClampNeg) S _ (hP S S2 hI (xs (i + 1).toNatClampNeg) (xs (i + 2).toNatClampNeg) (xs (i + 3).toNatClampNeg) (xs (i + 4).toNatClampNeg))) (fun _ _ h => h.1) (fun _ => rfl) (fun _ _ => rfl) lv_L_67 (by decide) (hV S S2 hI).2.2.1 rfl rfl dL_law_622 (cat8 (Nat.le_of_ble_eq_true rfl)) hrm ⟨Nat.le_of_ble_eq_true rfl, Nat.le_of_ble_eq_true rfl⟩ (Nat.zero_le _) (Nat.zero_le _) (fun r S' hq => ?_)
  refine xl_of (fun _ kk => x_sload_n 1 hg dL_law_625 rfl rfl kk) ?_
  refine xl_of (fun _ kk => x_sload_n 3 hg dL_law_626 rfl rfl kk) ?_
  refine xl_of (fun _ kk => x_iload_n hg 0 dL_law_627 rfl rfl kk) ?_
  refine xl_of (fun _ kk => x_iconst (v := 1) hg dL_law_628 (by decide) kk) ?_
  refine xl_of (fun _ kk => x_iadd hg dL_law_629 kk) ?_
  refine l_sld hg h1 dL_law_630 ?_
  refine xl_of (fun _ kk => x_sload_n 3 hg dL_law_631 rfl rfl kk) ?_
  refine xl_of (fun _ kk => x_iload_n hg 0 dL_law_632 rfl rfl kk) ?_
  refine xl_of (fun _ kk => x_iconst (v := 2) hg dL_law_633 (by decide) kk) ?_
  refine xl_of (fun _ kk => x_iadd hg dL_law_634 kk) ?_
  refine l_sld hg h2 dL_law_635 ?_
  refine xl_of (fun _ kk => x_sload_n 3 hg dL_law_636 rfl rfl kk) ?_
  refine xl_of (fun _ kk => x_iload_n hg 0 dL_law_637 rfl rfl kk) ?_
  refine xl_of (fun _ kk => x_iconst (v := 3) hg dL_law_638 (by decide) kk) ?_
  refine xl_of (fun _ kk => x_iadd hg dL_law_639 kk) ?_
  refine l_sld hg h3 dL_law_640 ?_
  refine xl_of (fun _ kk => x_sload_n 3 hg dL_law_641 rfl rfl kk) ?_
  refine xl_of (fun _ kk => x_iload_n hg 0 dL_law_642 rfl rfl kk) ?_
  refine xl_of (fun _ kk => x_iconst (v := 4) hg dL_law_643 (by decide) kk) ?_
  refine xl_of (fun _ kk => x_iadd hg dL_law_644 kk) ?_
  refine l_sld hg h4 dL_law_645 ?_
  refine l_callVM (rest := [.long r]) (As := [.int (xs (i + 1).toNatClampNeg), .int (xs (i + 2).toNatClampNeg), .int (xs (i + 3).toNatClampNeg), .int (xs (i + 4).toNatClampNeg)]) hg (fun _ _ => RN_ag) (k_X11_best (gL g) (gD g) 1000 (xs (i + 1).toNatClampNeg) (xs (i + 2).toNatClampNeg) (xs (i + 3).toNatClampNeg) (xs (i + 4).toNatClampNeg) S2 _ hq.2) (fun _ _ h => (hV _ _ h.2).2.1) (fun _ => rfl) (fun _ _ => rfl) lv_L_71 (by decide) (hV S S2 hI).2.2.2 rfl rfl dL_law_646 (cat8 (Nat.le_of_ble_eq_true rfl)) hrm ⟨Nat.le_of_ble_eq_true rfl, Nat.le_of_ble_eq_true rfl⟩ (Nat.zero_le _) (Nat.zero_le _) (fun r2 S2' hq2 => ?_)
  refine xl_of (fun _ kk => x_lcmp hg dL_law_649 kk) ?_
  refine l_if_eq (tgt := 1345) hg dL_law_650 (by decide) (fun _ => ?_) (fun q => absurd ((lg_cmp_eq _ _).mpr hq2.1) q)
  exact hloop _ _ _ hq2.2 (by dsimp only; omega) (by dsimp only; omega)
theorem lc_helps (hg : GoodG g code RL) (hrm : gR g = rmL) (hV : InvOk Inv) (hP : Pr_helps Inv) {i : Int32} {S S2 : Sg} {b : Nat × Nat} (hI : Inv S S2) (hb1 : 1000 ≤ b.1) (hb2 : 14000 ≤ b.2) (h1 : vp_in (i + 1) L) (h2 : vp_in (i + 2) L) (h3 : vp_in (i + 3) L) (h4 : vp_in (i + 4) L) (h5 : vp_in (i + 5) L) (hloop : ∀ (S' S2' : Sg) (b' : Nat × Nat), Inv S' S2' → b.1 - 1000 ≤ b'.1 → b.2 - 14000 ≤ b'.2 → XL g sb L xs ax am 1345 [(3, .int i), (2, .ref am), (1, .ref ax), (0, .ref sb)] [] S' S2' b') : XL g sb L xs ax am 655 [(3, .int i), (2, .ref am), (1, .ref ax), (0, .ref sb)] [] S S2 b := by
  refine xl_of (fun _ kk => x_sload_n 2 hg dL_law_655 rfl rfl kk) ?_
  refine xl_of (fun _ kk => x_sload_n 3 hg dL_law_656 rfl rfl kk) ?_
  refine xl_of (fun _ kk => x_iload_n hg 0 dL_law_657 rfl rfl kk) ?_
  refine xl_of (fun _ kk => x_iconst (v := 1) hg dL_law_658 (by decide) kk) ?_
  refine xl_of (fun _ kk => x_iadd hg dL_law_659 kk) ?_
  refine l_sld hg h1 dL_law_660 ?_
  refine xl_of (fun _ kk => x_sload_n 3 hg dL_law_661 rfl rfl kk) ?_
  refine xl_of (fun _ kk => x_iload_n hg 0 dL_law_662 rfl rfl kk) ?_
  refine xl_of (fun _ kk => x_iconst (v := 2) hg dL_law_663 (by decide) kk) ?_
  refine xl_of (fun _ kk => x_iadd hg dL_law_664 kk) ?_
  refine l_sld hg h2 dL_law_665 ?_
  refine l_callVX (rest := []) (As := [.int (xs (i + 1).toNatClampNeg), .int (xs (i + 2).toNatClampNeg)]) hg (fun _ _ => RN_ag) (k_X10_helps (gL g) (gD g) 1000 (xs (i + 1).toNatClampNeg) (xs (i + 2).toNatClampNeg) S _ (hP S S2 hI (xs (i + 1).toNatClampNeg) (xs (i + 2).toNatClampNeg))) (fun _ _ h => h.1) (fun _ => rfl) (fun _ _ => rfl) lv_L_72 (by decide) (hV S S2 hI).2.2.1 rfl rfl dL_law_666 (cat8 (Nat.le_of_ble_eq_true rfl)) hrm ⟨Nat.le_of_ble_eq_true rfl, Nat.le_of_ble_eq_true rfl⟩ (Nat.zero_le _) (Nat.zero_le _) (fun r S' hq => ?_)
  refine xl_of (fun _ kk => x_sload_n 1 hg dL_law_669 rfl rfl kk) ?_
  refine xl_of (fun _ kk => x_sload_n 3 hg dL_law_670 rfl rfl kk) ?_
  refine xl_of (fun _ kk => x_iload_n hg 0 dL_law_671 rfl rfl kk) ?_
  refine xl_of (fun _ kk => x_iconst (v := 1) hg dL_law_672 (by decide) kk) ?_
  refine xl_of (fun _ kk => x_iadd hg dL_law_673 kk) ?_
  refine l_sld hg h1 dL_law_674 ?_
  refine xl_of (fun _ kk => x_sload_n 3 hg dL_law_675 rfl rfl kk) ?_
  refine xl_of (fun _ kk => x_iload_n hg 0 dL_law_676 rfl rfl kk) ?_
  refine xl_of (fun _ kk => x_iconst (v := 2) hg dL_law_677 (by decide) kk) ?_
  refine xl_of (fun _ kk => x_iadd hg dL_law_678 kk) ?_
  refine l_sld hg h2 dL_law_679 ?_
  refine l_callVM (rest := [.long r]) (As := [.int (xs (i + 1).toNatClampNeg), .int (xs (i + 2).toNatClampNeg)]) hg (fun _ _ => RN_ag) (k_X11_helps (gL g) (gD g) 1000 (xs (i + 1).toNatClampNeg) (xs (i + 2).toNatClampNeg) S2 _ hq.2) (fun _ _ h => (hV _ _ h.2).2.1) (fun _ => rfl) (fun _ _ => rfl) lv_L_75 (by decide) (hV S S2 hI).2.2.2 rfl rfl dL_law_680 (cat8 (Nat.le_of_ble_eq_true rfl)) hrm ⟨Nat.le_of_ble_eq_true rfl, Nat.le_of_ble_eq_true rfl⟩ (Nat.zero_le _) (Nat.zero_le _) (fun r2 S2' hq2 => ?_)
  refine xl_of (fun _ kk => x_lcmp hg dL_law_683 kk) ?_
  refine l_if_eq (tgt := 1345) hg dL_law_684 (by decide) (fun _ => ?_) (fun q => absurd ((lg_cmp_eq _ _).mpr hq2.1) q)
  exact hloop _ _ _ hq2.2 (by dsimp only; omega) (by dsimp only; omega)
theorem lc_told (hg : GoodG g code RL) (hrm : gR g = rmL) (hV : InvOk Inv) (hP : Pr_told Inv) {i : Int32} {S S2 : Sg} {b : Nat × Nat} (hI : Inv S S2) (hb1 : 1000 ≤ b.1) (hb2 : 14000 ≤ b.2) (h1 : vp_in (i + 1) L) (h2 : vp_in (i + 2) L) (h3 : vp_in (i + 3) L) (h4 : vp_in (i + 4) L) (h5 : vp_in (i + 5) L) (hloop : ∀ (S' S2' : Sg) (b' : Nat × Nat), Inv S' S2' → b.1 - 1000 ≤ b'.1 → b.2 - 14000 ≤ b'.2 → XL g sb L xs ax am 1345 [(3, .int i), (2, .ref am), (1, .ref ax), (0, .ref sb)] [] S' S2' b') : XL g sb L xs ax am 689 [(3, .int i), (2, .ref am), (1, .ref ax), (0, .ref sb)] [] S S2 b := by
  refine xl_of (fun _ kk => x_sload_n 2 hg dL_law_689 rfl rfl kk) ?_
  refine xl_of (fun _ kk => x_sload_n 3 hg dL_law_690 rfl rfl kk) ?_
  refine xl_of (fun _ kk => x_iload_n hg 0 dL_law_691 rfl rfl kk) ?_
  refine xl_of (fun _ kk => x_iconst (v := 1) hg dL_law_692 (by decide) kk) ?_
  refine xl_of (fun _ kk => x_iadd hg dL_law_693 kk) ?_
  refine l_sld hg h1 dL_law_694 ?_
  refine xl_of (fun _ kk => x_sload_n 3 hg dL_law_695 rfl rfl kk) ?_
  refine xl_of (fun _ kk => x_iload_n hg 0 dL_law_696 rfl rfl kk) ?_
  refine xl_of (fun _ kk => x_iconst (v := 2) hg dL_law_697 (by decide) kk) ?_
  refine xl_of (fun _ kk => x_iadd hg dL_law_698 kk) ?_
  refine l_sld hg h2 dL_law_699 ?_
  refine l_callVX (rest := []) (As := [.int (xs (i + 1).toNatClampNeg), .int (xs (i + 2).toNatClampNeg)]) hg (fun _ _ => RN_ag) (k_X10_told (gL g) (gD g) 1000 (xs (i + 1).toNatClampNeg) (xs (i + 2).toNatClampNeg) S _ (hP S S2 hI (xs (i + 1).toNatClampNeg) (xs (i + 2).toNatClampNeg))) (fun _ _ h => by rw [h.2]; exact (hV S S2 hI).1) (fun _ => rfl) (fun _ _ => rfl) lv_L_76 (by decide) (hV S S2 hI).2.2.1 rfl rfl dL_law_700 (cat8 (Nat.le_of_ble_eq_true rfl)) hrm ⟨Nat.le_of_ble_eq_true rfl, Nat.le_of_ble_eq_true rfl⟩ (Nat.zero_le _) (Nat.zero_le _) (fun r S' hq => ?_)
  rw [hq.2]
  replace hq := hq.1
  refine xl_of (fun _ kk => x_sload_n 1 hg dL_law_703 rfl rfl kk) ?_
  refine xl_of (fun _ kk => x_sload_n 3 hg dL_law_704 rfl rfl kk) ?_
  refine xl_of (fun _ kk => x_iload_n hg 0 dL_law_705 rfl rfl kk) ?_
  refine xl_of (fun _ kk => x_iconst (v := 1) hg dL_law_706 (by decide) kk) ?_
  refine xl_of (fun _ kk => x_iadd hg dL_law_707 kk) ?_
  refine l_sld hg h1 dL_law_708 ?_
  refine xl_of (fun _ kk => x_sload_n 3 hg dL_law_709 rfl rfl kk) ?_
  refine xl_of (fun _ kk => x_iload_n hg 0 dL_law_710 rfl rfl kk) ?_
  refine xl_of (fun _ kk => x_iconst (v := 2) hg dL_law_711 (by decide) kk) ?_
  refine xl_of (fun _ kk => x_iadd hg dL_law_712 kk) ?_
  refine l_sld hg h2 dL_law_713 ?_
  refine l_callVM (rest := [.int r]) (As := [.int (xs (i + 1).toNatClampNeg), .int (xs (i + 2).toNatClampNeg)]) hg (fun _ _ => RN_ag) (k_X11_told (gL g) (gD g) 1000 (xs (i + 1).toNatClampNeg) (xs (i + 2).toNatClampNeg) S2 _ hq) (fun _ _ h => by rw [h.2]; exact (hV S S2 hI).2.1) (fun _ => rfl) (fun _ _ => rfl) lv_L_80 (by decide) (hV S S2 hI).2.2.2 rfl rfl dL_law_714 (cat8 (Nat.le_of_ble_eq_true rfl)) hrm ⟨Nat.le_of_ble_eq_true rfl, Nat.le_of_ble_eq_true rfl⟩ (Nat.zero_le _) (Nat.zero_le _) (fun r2 S2' hq2 => ?_)
  rw [hq2.2]
  replace hq2 := hq2.1
  refine l_icmp_eq (tgt := 1345) hg dL_law_717 (by decide) (fun _ => ?_) (fun q => absurd hq2.1 q)
  exact hloop _ _ _ hq2.2 (by dsimp only; omega) (by dsimp only; omega)
theorem lc_bedOf (hg : GoodG g code RL) (hrm : gR g = rmL) (hV : InvOk Inv) (hP : Pr_bedOf Inv) {i : Int32} {S S2 : Sg} {b : Nat × Nat} (hI : Inv S S2) (hb1 : 1000 ≤ b.1) (hb2 : 14000 ≤ b.2) (h1 : vp_in (i + 1) L) (h2 : vp_in (i + 2) L) (h3 : vp_in (i + 3) L) (h4 : vp_in (i + 4) L) (h5 : vp_in (i + 5) L) (hloop : ∀ (S' S2' : Sg) (b' : Nat × Nat), Inv S' S2' → b.1 - 1000 ≤ b'.1 → b.2 - 14000 ≤ b'.2 → XL g sb L xs ax am 1345 [(3, .int i), (2, .ref am), (1, .ref ax), (0, .ref sb)] [] S' S2' b') : XL g sb L xs ax am 722 [(3, .int i), (2, .ref am), (1, .ref ax), (0, .ref sb)] [] S S2 b := by
  refine xl_of (fun _ kk => x_sload_n 2 hg dL_law_722 rfl rfl kk) ?_
  refine xl_of (fun _ kk => x_sload_n 3 hg dL_law_723 rfl rfl kk) ?_
  refine xl_of (fun _ kk => x_iload_n hg 0 dL_law_724 rfl rfl kk) ?_
  refine xl_of (fun _ kk => x_iconst (v := 1) hg dL_law_725 (by decide) kk) ?_
  refine xl_of (fun _ kk => x_iadd hg dL_law_726 kk) ?_
  refine l_sld hg h1 dL_law_727 ?_
  refine xl_of (fun _ kk => x_sload_n 3 hg dL_law_728 rfl rfl kk) ?_
  refine xl_of (fun _ kk => x_iload_n hg 0 dL_law_729 rfl rfl kk) ?_
  refine xl_of (fun _ kk => x_iconst (v := 2) hg dL_law_730 (by decide) kk) ?_
  refine xl_of (fun _ kk => x_iadd hg dL_law_731 kk) ?_
  refine l_sld hg h2 dL_law_732 ?_
  refine l_callVX (rest := []) (As := [.int (xs (i + 1).toNatClampNeg), .int (xs (i + 2).toNatClampNeg)]) hg (fun _ _ => RN_ag) (k_X10_bedOf (gL g) (gD g) 1000 (xs (i + 1).toNatClampNeg) (xs (i + 2).toNatClampNeg) S _ (hP S S2 hI (xs (i + 1).toNatClampNeg) (xs (i + 2).toNatClampNeg))) (fun _ _ h => by rw [h.2]; exact (hV S S2 hI).1) (fun _ => rfl) (fun _ _ => rfl) lv_L_81 (by decide) (hV S S2 hI).2.2.1 rfl rfl dL_law_733 (cat8 (Nat.le_of_ble_eq_true rfl)) hrm ⟨Nat.le_of_ble_eq_true rfl, Nat.le_of_ble_eq_true rfl⟩ (Nat.zero_le _) (Nat.zero_le _) (fun r S' hq => ?_)
  rw [hq.2]
  replace hq := hq.1
  refine xl_of (fun _ kk => x_sload_n 1 hg dL_law_736 rfl rfl kk) ?_
  refine xl_of (fun _ kk => x_sload_n 3 hg dL_law_737 rfl rfl kk) ?_
  refine xl_of (fun _ kk => x_iload_n hg 0 dL_law_738 rfl rfl kk) ?_
  refine xl_of (fun _ kk => x_iconst (v := 1) hg dL_law_739 (by decide) kk) ?_
  refine xl_of (fun _ kk => x_iadd hg dL_law_740 kk) ?_
  refine l_sld hg h1 dL_law_741 ?_
  refine xl_of (fun _ kk => x_sload_n 3 hg dL_law_742 rfl rfl kk) ?_
  refine xl_of (fun _ kk => x_iload_n hg 0 dL_law_743 rfl rfl kk) ?_
  refine xl_of (fun _ kk => x_iconst (v := 2) hg dL_law_744 (by decide) kk) ?_
  refine xl_of (fun _ kk => x_iadd hg dL_law_745 kk) ?_
  refine l_sld hg h2 dL_law_746 ?_
  refine l_callVM (rest := [.int r]) (As := [.int (xs (i + 1).toNatClampNeg), .int (xs (i + 2).toNatClampNeg)]) hg (fun _ _ => RN_ag) (k_X11_bedOf (gL g) (gD g) 1000 (xs (i + 1).toNatClampNeg) (xs (i + 2).toNatClampNeg) S2 _ hq) (fun _ _ h => by rw [h.2]; exact (hV S S2 hI).2.1) (fun _ => rfl) (fun _ _ => rfl) lv_L_84 (by decide) (hV S S2 hI).2.2.2 rfl rfl dL_law_747 (cat8 (Nat.le_of_ble_eq_true rfl)) hrm ⟨Nat.le_of_ble_eq_true rfl, Nat.le_of_ble_eq_true rfl⟩ (Nat.zero_le _) (Nat.zero_le _) (fun r2 S2' hq2 => ?_)
  rw [hq2.2]
  replace hq2 := hq2.1
  refine l_icmp_eq (tgt := 1345) hg dL_law_750 (by decide) (fun _ => ?_) (fun q => absurd hq2.1 q)
  exact hloop _ _ _ hq2.2 (by dsimp only; omega) (by dsimp only; omega)
theorem lc_roofOf (hg : GoodG g code RL) (hrm : gR g = rmL) (hV : InvOk Inv) (hP : Pr_roofOf Inv) {i : Int32} {S S2 : Sg} {b : Nat × Nat} (hI : Inv S S2) (hb1 : 1000 ≤ b.1) (hb2 : 14000 ≤ b.2) (h1 : vp_in (i + 1) L) (h2 : vp_in (i + 2) L) (h3 : vp_in (i + 3) L) (h4 : vp_in (i + 4) L) (h5 : vp_in (i + 5) L) (hloop : ∀ (S' S2' : Sg) (b' : Nat × Nat), Inv S' S2' → b.1 - 1000 ≤ b'.1 → b.2 - 14000 ≤ b'.2 → XL g sb L xs ax am 1345 [(3, .int i), (2, .ref am), (1, .ref ax), (0, .ref sb)] [] S' S2' b') : XL g sb L xs ax am 755 [(3, .int i), (2, .ref am), (1, .ref ax), (0, .ref sb)] [] S S2 b := by
  refine xl_of (fun _ kk => x_sload_n 2 hg dL_law_755 rfl rfl kk) ?_
  refine xl_of (fun _ kk => x_sload_n 3 hg dL_law_756 rfl rfl kk) ?_
  refine xl_of (fun _ kk => x_iload_n hg 0 dL_law_757 rfl rfl kk) ?_
  refine xl_of (fun _ kk => x_iconst (v := 1) hg dL_law_758 (by decide) kk) ?_
  refine xl_of (fun _ kk => x_iadd hg dL_law_759 kk) ?_
  refine l_sld hg h1 dL_law_760 ?_
  refine xl_of (fun _ kk => x_sload_n 3 hg dL_law_761 rfl rfl kk) ?_
  refine xl_of (fun _ kk => x_iload_n hg 0 dL_law_762 rfl rfl kk) ?_
  refine xl_of (fun _ kk => x_iconst (v := 2) hg dL_law_763 (by decide) kk) ?_
  refine xl_of (fun _ kk => x_iadd hg dL_law_764 kk) ?_
  refine l_sld hg h2 dL_law_765 ?_
  refine l_callVX (rest := []) (As := [.int (xs (i + 1).toNatClampNeg), .int (xs (i + 2).toNatClampNeg)]) hg (fun _ _ => RN_ag) (k_X10_roofOf (gL g) (gD g) 1000 (xs (i + 1).toNatClampNeg) (xs (i + 2).toNatClampNeg) S _ (hP S S2 hI (xs (i + 1).toNatClampNeg) (xs (i + 2).toNatClampNeg))) (fun _ _ h => by rw [h.2]; exact (hV S S2 hI).1) (fun _ => rfl) (fun _ _ => rfl) lv_L_85 (by decide) (hV S S2 hI).2.2.1 rfl rfl dL_law_766 (cat8 (Nat.le_of_ble_eq_true rfl)) hrm ⟨Nat.le_of_ble_eq_true rfl, Nat.le_of_ble_eq_true rfl⟩ (Nat.zero_le _) (Nat.zero_le _) (fun r S' hq => ?_)
  rw [hq.2]
  replace hq := hq.1
  refine xl_of (fun _ kk => x_sload_n 1 hg dL_law_769 rfl rfl kk) ?_
  refine xl_of (fun _ kk => x_sload_n 3 hg dL_law_770 rfl rfl kk) ?_
  refine xl_of (fun _ kk => x_iload_n hg 0 dL_law_771 rfl rfl kk) ?_
  refine xl_of (fun _ kk => x_iconst (v := 1) hg dL_law_772 (by decide) kk) ?_
  refine xl_of (fun _ kk => x_iadd hg dL_law_773 kk) ?_
  refine l_sld hg h1 dL_law_774 ?_
  refine xl_of (fun _ kk => x_sload_n 3 hg dL_law_775 rfl rfl kk) ?_
  refine xl_of (fun _ kk => x_iload_n hg 0 dL_law_776 rfl rfl kk) ?_
  refine xl_of (fun _ kk => x_iconst (v := 2) hg dL_law_777 (by decide) kk) ?_
  refine xl_of (fun _ kk => x_iadd hg dL_law_778 kk) ?_
  refine l_sld hg h2 dL_law_779 ?_
  refine l_callVM (rest := [.int r]) (As := [.int (xs (i + 1).toNatClampNeg), .int (xs (i + 2).toNatClampNeg)]) hg (fun _ _ => RN_ag) (k_X11_roofOf (gL g) (gD g) 1000 (xs (i + 1).toNatClampNeg) (xs (i + 2).toNatClampNeg) S2 _ hq) (fun _ _ h => by rw [h.2]; exact (hV S S2 hI).2.1) (fun _ => rfl) (fun _ _ => rfl) lv_L_88 (by decide) (hV S S2 hI).2.2.2 rfl rfl dL_law_780 (cat8 (Nat.le_of_ble_eq_true rfl)) hrm ⟨Nat.le_of_ble_eq_true rfl, Nat.le_of_ble_eq_true rfl⟩ (Nat.zero_le _) (Nat.zero_le _) (fun r2 S2' hq2 => ?_)
  rw [hq2.2]
  replace hq2 := hq2.1
  refine l_icmp_eq (tgt := 1345) hg dL_law_783 (by decide) (fun _ => ?_) (fun q => absurd hq2.1 q)
  exact hloop _ _ _ hq2.2 (by dsimp only; omega) (by dsimp only; omega)
theorem lc_prove (hg : GoodG g code RL) (hrm : gR g = rmL) (hV : InvOk Inv) (hP : Pr_prove Inv) {i : Int32} {S S2 : Sg} {b : Nat × Nat} (hI : Inv S S2) (hb1 : 1000 ≤ b.1) (hb2 : 14000 ≤ b.2) (h1 : vp_in (i + 1) L) (h2 : vp_in (i + 2) L) (h3 : vp_in (i + 3) L) (h4 : vp_in (i + 4) L) (h5 : vp_in (i + 5) L) (hloop : ∀ (S' S2' : Sg) (b' : Nat × Nat), Inv S' S2' → b.1 - 1000 ≤ b'.1 → b.2 - 14000 ≤ b'.2 → XL g sb L xs ax am 1345 [(3, .int i), (2, .ref am), (1, .ref ax), (0, .ref sb)] [] S' S2' b') : XL g sb L xs ax am 788 [(3, .int i), (2, .ref am), (1, .ref ax), (0, .ref sb)] [] S S2 b := by
  refine xl_of (fun _ kk => x_sload_n 2 hg dL_law_788 rfl rfl kk) ?_
  refine xl_of (fun _ kk => x_sload_n 3 hg dL_law_789 rfl rfl kk) ?_
  refine xl_of (fun _ kk => x_iload_n hg 0 dL_law_790 rfl rfl kk) ?_
  refine xl_of (fun _ kk => x_iconst (v := 1) hg dL_law_791 (by decide) kk) ?_
  refine xl_of (fun _ kk => x_iadd hg dL_law_792 kk) ?_
  refine l_sld hg h1 dL_law_793 ?_
  refine l_callVX (rest := []) (As := [.int (xs (i + 1).toNatClampNeg)]) hg (fun _ _ => RN_ag) (k_X10_prove (gL g) (gD g) 1000 (xs (i + 1).toNatClampNeg) S _ (hP S S2 hI (xs (i + 1).toNatClampNeg))) (fun _ _ h => h.1) (fun _ => rfl) (fun _ _ => rfl) lv_L_89 (by decide) (hV S S2 hI).2.2.1 rfl rfl dL_law_794 (cat8 (Nat.le_of_ble_eq_true rfl)) hrm ⟨Nat.le_of_ble_eq_true rfl, Nat.le_of_ble_eq_true rfl⟩ (Nat.zero_le _) (Nat.zero_le _) (fun r S' hq => ?_)
  refine xl_of (fun _ kk => x_sload_n 1 hg dL_law_797 rfl rfl kk) ?_
  refine xl_of (fun _ kk => x_sload_n 3 hg dL_law_798 rfl rfl kk) ?_
  refine xl_of (fun _ kk => x_iload_n hg 0 dL_law_799 rfl rfl kk) ?_
  refine xl_of (fun _ kk => x_iconst (v := 1) hg dL_law_800 (by decide) kk) ?_
  refine xl_of (fun _ kk => x_iadd hg dL_law_801 kk) ?_
  refine l_sld hg h1 dL_law_802 ?_
  refine l_callVM (rest := [.int r]) (As := [.int (xs (i + 1).toNatClampNeg)]) hg (fun _ _ => RN_ag) (k_X11_prove (gL g) (gD g) 1000 (xs (i + 1).toNatClampNeg) S2 _ hq.2) (fun _ _ h => (hV _ _ h.2).2.1) (fun _ => rfl) (fun _ _ => rfl) lv_L_93 (by decide) (hV S S2 hI).2.2.2 rfl rfl dL_law_803 (cat8 (Nat.le_of_ble_eq_true rfl)) hrm ⟨Nat.le_of_ble_eq_true rfl, Nat.le_of_ble_eq_true rfl⟩ (Nat.zero_le _) (Nat.zero_le _) (fun r2 S2' hq2 => ?_)
  refine l_icmp_eq (tgt := 1345) hg dL_law_806 (by decide) (fun _ => ?_) (fun q => absurd hq2.1 q)
  exact hloop _ _ _ hq2.2 (by dsimp only; omega) (by dsimp only; omega)
theorem lc_stormOf (hg : GoodG g code RL) (hrm : gR g = rmL) (hV : InvOk Inv) (hP : Pr_stormOf Inv) {i : Int32} {S S2 : Sg} {b : Nat × Nat} (hI : Inv S S2) (hb1 : 1000 ≤ b.1) (hb2 : 14000 ≤ b.2) (h1 : vp_in (i + 1) L) (h2 : vp_in (i + 2) L) (h3 : vp_in (i + 3) L) (h4 : vp_in (i + 4) L) (h5 : vp_in (i + 5) L) (hloop : ∀ (S' S2' : Sg) (b' : Nat × Nat), Inv S' S2' → b.1 - 1000 ≤ b'.1 → b.2 - 14000 ≤ b'.2 → XL g sb L xs ax am 1345 [(3, .int i), (2, .ref am), (1, .ref ax), (0, .ref sb)] [] S' S2' b') : XL g sb L xs ax am 811 [(3, .int i), (2, .ref am), (1, .ref ax), (0, .ref sb)] [] S S2 b := by
  refine xl_of (fun _ kk => x_sload_n 2 hg dL_law_811 rfl rfl kk) ?_
  refine xl_of (fun _ kk => x_sload_n 3 hg dL_law_812 rfl rfl kk) ?_
  refine xl_of (fun _ kk => x_iload_n hg 0 dL_law_813 rfl rfl kk) ?_
  refine xl_of (fun _ kk => x_iconst (v := 1) hg dL_law_814 (by decide) kk) ?_
  refine xl_of (fun _ kk => x_iadd hg dL_law_815 kk) ?_
  refine l_sld hg h1 dL_law_816 ?_
  refine xl_of (fun _ kk => x_sload_n 3 hg dL_law_817 rfl rfl kk) ?_
  refine xl_of (fun _ kk => x_iload_n hg 0 dL_law_818 rfl rfl kk) ?_
  refine xl_of (fun _ kk => x_iconst (v := 2) hg dL_law_819 (by decide) kk) ?_
  refine xl_of (fun _ kk => x_iadd hg dL_law_820 kk) ?_
  refine l_sld hg h2 dL_law_821 ?_
  refine l_callVX (rest := []) (As := [.int (xs (i + 1).toNatClampNeg), .int (xs (i + 2).toNatClampNeg)]) hg (fun _ _ => RN_ag) (k_X10_stormOf (gL g) (gD g) 1000 (xs (i + 1).toNatClampNeg) (xs (i + 2).toNatClampNeg) S _ (hP S S2 hI (xs (i + 1).toNatClampNeg) (xs (i + 2).toNatClampNeg))) (fun _ _ h => by rw [h.2]; exact (hV S S2 hI).1) (fun _ => rfl) (fun _ _ => rfl) lv_L_94 (by decide) (hV S S2 hI).2.2.1 rfl rfl dL_law_822 (cat8 (Nat.le_of_ble_eq_true rfl)) hrm ⟨Nat.le_of_ble_eq_true rfl, Nat.le_of_ble_eq_true rfl⟩ (Nat.zero_le _) (Nat.zero_le _) (fun r S' hq => ?_)
  rw [hq.2]
  replace hq := hq.1
  refine xl_of (fun _ kk => x_sload_n 1 hg dL_law_825 rfl rfl kk) ?_
  refine xl_of (fun _ kk => x_sload_n 3 hg dL_law_826 rfl rfl kk) ?_
  refine xl_of (fun _ kk => x_iload_n hg 0 dL_law_827 rfl rfl kk) ?_
  refine xl_of (fun _ kk => x_iconst (v := 1) hg dL_law_828 (by decide) kk) ?_
  refine xl_of (fun _ kk => x_iadd hg dL_law_829 kk) ?_
  refine l_sld hg h1 dL_law_830 ?_
  refine xl_of (fun _ kk => x_sload_n 3 hg dL_law_831 rfl rfl kk) ?_
  refine xl_of (fun _ kk => x_iload_n hg 0 dL_law_832 rfl rfl kk) ?_
  refine xl_of (fun _ kk => x_iconst (v := 2) hg dL_law_833 (by decide) kk) ?_
  refine xl_of (fun _ kk => x_iadd hg dL_law_834 kk) ?_
  refine l_sld hg h2 dL_law_835 ?_
  refine l_callVM (rest := [.long r]) (As := [.int (xs (i + 1).toNatClampNeg), .int (xs (i + 2).toNatClampNeg)]) hg (fun _ _ => RN_ag) (k_X11_stormOf (gL g) (gD g) 1000 (xs (i + 1).toNatClampNeg) (xs (i + 2).toNatClampNeg) S2 _ hq) (fun _ _ h => by rw [h.2]; exact (hV S S2 hI).2.1) (fun _ => rfl) (fun _ _ => rfl) lv_L_97 (by decide) (hV S S2 hI).2.2.2 rfl rfl dL_law_836 (cat8 (Nat.le_of_ble_eq_true rfl)) hrm ⟨Nat.le_of_ble_eq_true rfl, Nat.le_of_ble_eq_true rfl⟩ (Nat.zero_le _) (Nat.zero_le _) (fun r2 S2' hq2 => ?_)
  rw [hq2.2]
  replace hq2 := hq2.1
  refine xl_of (fun _ kk => x_lcmp hg dL_law_839 kk) ?_
  refine l_if_eq (tgt := 1345) hg dL_law_840 (by decide) (fun _ => ?_) (fun q => absurd ((lg_cmp_eq _ _).mpr hq2.1) q)
  exact hloop _ _ _ hq2.2 (by dsimp only; omega) (by dsimp only; omega)
theorem lc_compare (hg : GoodG g code RL) (hrm : gR g = rmL) (hV : InvOk Inv) (hP : Pr_compare Inv) {i : Int32} {S S2 : Sg} {b : Nat × Nat} (hI : Inv S S2) (hb1 : 1000 ≤ b.1) (hb2 : 14000 ≤ b.2) (h1 : vp_in (i + 1) L) (h2 : vp_in (i + 2) L) (h3 : vp_in (i + 3) L) (h4 : vp_in (i + 4) L) (h5 : vp_in (i + 5) L) (hloop : ∀ (S' S2' : Sg) (b' : Nat × Nat), Inv S' S2' → b.1 - 1000 ≤ b'.1 → b.2 - 14000 ≤ b'.2 → XL g sb L xs ax am 1345 [(3, .int i), (2, .ref am), (1, .ref ax), (0, .ref sb)] [] S' S2' b') : XL g sb L xs ax am 845 [(3, .int i), (2, .ref am), (1, .ref ax), (0, .ref sb)] [] S S2 b := by
  refine xl_of (fun _ kk => x_sload_n 2 hg dL_law_845 rfl rfl kk) ?_
  refine xl_of (fun _ kk => x_sload_n 3 hg dL_law_846 rfl rfl kk) ?_
  refine xl_of (fun _ kk => x_iload_n hg 0 dL_law_847 rfl rfl kk) ?_
  refine xl_of (fun _ kk => x_iconst (v := 1) hg dL_law_848 (by decide) kk) ?_
  refine xl_of (fun _ kk => x_iadd hg dL_law_849 kk) ?_
  refine l_sld hg h1 dL_law_850 ?_
  refine xl_of (fun _ kk => x_sload_n 3 hg dL_law_851 rfl rfl kk) ?_
  refine xl_of (fun _ kk => x_iload_n hg 0 dL_law_852 rfl rfl kk) ?_
  refine xl_of (fun _ kk => x_iconst (v := 2) hg dL_law_853 (by decide) kk) ?_
  refine xl_of (fun _ kk => x_iadd hg dL_law_854 kk) ?_
  refine l_sld hg h2 dL_law_855 ?_
  refine l_callVX (rest := []) (As := [.int (xs (i + 1).toNatClampNeg), .int (xs (i + 2).toNatClampNeg)]) hg (fun _ _ => RN_ag) (k_X10_compare (gL g) (gD g) 1000 (xs (i + 1).toNatClampNeg) (xs (i + 2).toNatClampNeg) S _ (hP S S2 hI (xs (i + 1).toNatClampNeg) (xs (i + 2).toNatClampNeg))) (fun _ _ h => by rw [h.2]; exact (hV S S2 hI).1) (fun _ => rfl) (fun _ _ => rfl) lv_L_98 (by decide) (hV S S2 hI).2.2.1 rfl rfl dL_law_856 (cat8 (Nat.le_of_ble_eq_true rfl)) hrm ⟨Nat.le_of_ble_eq_true rfl, Nat.le_of_ble_eq_true rfl⟩ (Nat.zero_le _) (Nat.zero_le _) (fun r S' hq => ?_)
  rw [hq.2]
  replace hq := hq.1
  refine xl_of (fun _ kk => x_sload_n 1 hg dL_law_859 rfl rfl kk) ?_
  refine xl_of (fun _ kk => x_sload_n 3 hg dL_law_860 rfl rfl kk) ?_
  refine xl_of (fun _ kk => x_iload_n hg 0 dL_law_861 rfl rfl kk) ?_
  refine xl_of (fun _ kk => x_iconst (v := 1) hg dL_law_862 (by decide) kk) ?_
  refine xl_of (fun _ kk => x_iadd hg dL_law_863 kk) ?_
  refine l_sld hg h1 dL_law_864 ?_
  refine xl_of (fun _ kk => x_sload_n 3 hg dL_law_865 rfl rfl kk) ?_
  refine xl_of (fun _ kk => x_iload_n hg 0 dL_law_866 rfl rfl kk) ?_
  refine xl_of (fun _ kk => x_iconst (v := 2) hg dL_law_867 (by decide) kk) ?_
  refine xl_of (fun _ kk => x_iadd hg dL_law_868 kk) ?_
  refine l_sld hg h2 dL_law_869 ?_
  refine l_callVM (rest := [.long r]) (As := [.int (xs (i + 1).toNatClampNeg), .int (xs (i + 2).toNatClampNeg)]) hg (fun _ _ => RN_ag) (k_X11_compare (gL g) (gD g) 1000 (xs (i + 1).toNatClampNeg) (xs (i + 2).toNatClampNeg) S2 _ hq) (fun _ _ h => by rw [h.2]; exact (hV S S2 hI).2.1) (fun _ => rfl) (fun _ _ => rfl) lv_L_101 (by decide) (hV S S2 hI).2.2.2 rfl rfl dL_law_870 (cat8 (Nat.le_of_ble_eq_true rfl)) hrm ⟨Nat.le_of_ble_eq_true rfl, Nat.le_of_ble_eq_true rfl⟩ (Nat.zero_le _) (Nat.zero_le _) (fun r2 S2' hq2 => ?_)
  rw [hq2.2]
  replace hq2 := hq2.1
  refine xl_of (fun _ kk => x_lcmp hg dL_law_873 kk) ?_
  refine l_if_eq (tgt := 1345) hg dL_law_874 (by decide) (fun _ => ?_) (fun q => absurd ((lg_cmp_eq _ _).mpr hq2.1) q)
  exact hloop _ _ _ hq2.2 (by dsimp only; omega) (by dsimp only; omega)
theorem lc_crew (hg : GoodG g code RL) (hrm : gR g = rmL) (hV : InvOk Inv) (hP : Pr_crew Inv) {i : Int32} {S S2 : Sg} {b : Nat × Nat} (hI : Inv S S2) (hb1 : 1000 ≤ b.1) (hb2 : 14000 ≤ b.2) (h1 : vp_in (i + 1) L) (h2 : vp_in (i + 2) L) (h3 : vp_in (i + 3) L) (h4 : vp_in (i + 4) L) (h5 : vp_in (i + 5) L) (hloop : ∀ (S' S2' : Sg) (b' : Nat × Nat), Inv S' S2' → b.1 - 1000 ≤ b'.1 → b.2 - 14000 ≤ b'.2 → XL g sb L xs ax am 1345 [(3, .int i), (2, .ref am), (1, .ref ax), (0, .ref sb)] [] S' S2' b') : XL g sb L xs ax am 879 [(3, .int i), (2, .ref am), (1, .ref ax), (0, .ref sb)] [] S S2 b := by
  refine xl_of (fun _ kk => x_sload_n 2 hg dL_law_879 rfl rfl kk) ?_
  refine xl_of (fun _ kk => x_sload_n 3 hg dL_law_880 rfl rfl kk) ?_
  refine xl_of (fun _ kk => x_iload_n hg 0 dL_law_881 rfl rfl kk) ?_
  refine xl_of (fun _ kk => x_iconst (v := 1) hg dL_law_882 (by decide) kk) ?_
  refine xl_of (fun _ kk => x_iadd hg dL_law_883 kk) ?_
  refine l_sld hg h1 dL_law_884 ?_
  refine xl_of (fun _ kk => x_sload_n 3 hg dL_law_885 rfl rfl kk) ?_
  refine xl_of (fun _ kk => x_iload_n hg 0 dL_law_886 rfl rfl kk) ?_
  refine xl_of (fun _ kk => x_iconst (v := 2) hg dL_law_887 (by decide) kk) ?_
  refine xl_of (fun _ kk => x_iadd hg dL_law_888 kk) ?_
  refine l_sld hg h2 dL_law_889 ?_
  refine l_callVX (rest := []) (As := [.int (xs (i + 1).toNatClampNeg), .int (xs (i + 2).toNatClampNeg)]) hg (fun _ _ => RN_ag) (k_X10_crew (gL g) (gD g) 1000 (xs (i + 1).toNatClampNeg) (xs (i + 2).toNatClampNeg) S _ (hP S S2 hI (xs (i + 1).toNatClampNeg) (xs (i + 2).toNatClampNeg))) (fun _ _ h => h.1) (fun _ => rfl) (fun _ _ => rfl) lv_L_102 (by decide) (hV S S2 hI).2.2.1 rfl rfl dL_law_890 (cat8 (Nat.le_of_ble_eq_true rfl)) hrm ⟨Nat.le_of_ble_eq_true rfl, Nat.le_of_ble_eq_true rfl⟩ (Nat.zero_le _) (Nat.zero_le _) (fun r S' hq => ?_)
  refine xl_of (fun _ kk => x_sload_n 1 hg dL_law_893 rfl rfl kk) ?_
  refine xl_of (fun _ kk => x_sload_n 3 hg dL_law_894 rfl rfl kk) ?_
  refine xl_of (fun _ kk => x_iload_n hg 0 dL_law_895 rfl rfl kk) ?_
  refine xl_of (fun _ kk => x_iconst (v := 1) hg dL_law_896 (by decide) kk) ?_
  refine xl_of (fun _ kk => x_iadd hg dL_law_897 kk) ?_
  refine l_sld hg h1 dL_law_898 ?_
  refine xl_of (fun _ kk => x_sload_n 3 hg dL_law_899 rfl rfl kk) ?_
  refine xl_of (fun _ kk => x_iload_n hg 0 dL_law_900 rfl rfl kk) ?_
  refine xl_of (fun _ kk => x_iconst (v := 2) hg dL_law_901 (by decide) kk) ?_
  refine xl_of (fun _ kk => x_iadd hg dL_law_902 kk) ?_
  refine l_sld hg h2 dL_law_903 ?_
  refine l_callVM (rest := [.int r]) (As := [.int (xs (i + 1).toNatClampNeg), .int (xs (i + 2).toNatClampNeg)]) hg (fun _ _ => RN_ag) (k_X11_crew (gL g) (gD g) 1000 (xs (i + 1).toNatClampNeg) (xs (i + 2).toNatClampNeg) S2 _ hq.2) (fun _ _ h => by rw [h.2]; exact (hV S S2 hI).2.1) (fun _ => rfl) (fun _ _ => rfl) lv_L_105 (by decide) (hV S S2 hI).2.2.2 rfl rfl dL_law_904 (cat8 (Nat.le_of_ble_eq_true rfl)) hrm ⟨Nat.le_of_ble_eq_true rfl, Nat.le_of_ble_eq_true rfl⟩ (Nat.zero_le _) (Nat.zero_le _) (fun r2 S2' hq2 => ?_)
  rw [hq2.2]
  replace hq2 := hq2.1
  refine l_icmp_eq (tgt := 1345) hg dL_law_907 (by decide) (fun _ => ?_) (fun q => absurd hq2.1 q)
  exact hloop _ _ _ hq2.2 (by dsimp only; omega) (by dsimp only; omega)
theorem lc_neighbour (hg : GoodG g code RL) (hrm : gR g = rmL) (hV : InvOk Inv) (hP : Pr_neighbour Inv) {i : Int32} {S S2 : Sg} {b : Nat × Nat} (hI : Inv S S2) (hb1 : 1000 ≤ b.1) (hb2 : 14000 ≤ b.2) (h1 : vp_in (i + 1) L) (h2 : vp_in (i + 2) L) (h3 : vp_in (i + 3) L) (h4 : vp_in (i + 4) L) (h5 : vp_in (i + 5) L) (hloop : ∀ (S' S2' : Sg) (b' : Nat × Nat), Inv S' S2' → b.1 - 1000 ≤ b'.1 → b.2 - 14000 ≤ b'.2 → XL g sb L xs ax am 1345 [(3, .int i), (2, .ref am), (1, .ref ax), (0, .ref sb)] [] S' S2' b') : XL g sb L xs ax am 912 [(3, .int i), (2, .ref am), (1, .ref ax), (0, .ref sb)] [] S S2 b := by
  refine xl_of (fun _ kk => x_sload_n 2 hg dL_law_912 rfl rfl kk) ?_
  refine xl_of (fun _ kk => x_sload_n 3 hg dL_law_913 rfl rfl kk) ?_
  refine xl_of (fun _ kk => x_iload_n hg 0 dL_law_914 rfl rfl kk) ?_
  refine xl_of (fun _ kk => x_iconst (v := 1) hg dL_law_915 (by decide) kk) ?_
  refine xl_of (fun _ kk => x_iadd hg dL_law_916 kk) ?_
  refine l_sld hg h1 dL_law_917 ?_
  refine xl_of (fun _ kk => x_sload_n 3 hg dL_law_918 rfl rfl kk) ?_
  refine xl_of (fun _ kk => x_iload_n hg 0 dL_law_919 rfl rfl kk) ?_
  refine xl_of (fun _ kk => x_iconst (v := 2) hg dL_law_920 (by decide) kk) ?_
  refine xl_of (fun _ kk => x_iadd hg dL_law_921 kk) ?_
  refine l_sld hg h2 dL_law_922 ?_
  refine l_callVX (rest := []) (As := [.int (xs (i + 1).toNatClampNeg), .int (xs (i + 2).toNatClampNeg)]) hg (fun _ _ => RN_ag) (k_X10_neighbour (gL g) (gD g) 1000 (xs (i + 1).toNatClampNeg) (xs (i + 2).toNatClampNeg) S _ (hP S S2 hI (xs (i + 1).toNatClampNeg) (xs (i + 2).toNatClampNeg))) (fun _ _ h => by rw [h.2]; exact (hV S S2 hI).1) (fun _ => rfl) (fun _ _ => rfl) lv_L_106 (by decide) (hV S S2 hI).2.2.1 rfl rfl dL_law_923 (cat8 (Nat.le_of_ble_eq_true rfl)) hrm ⟨Nat.le_of_ble_eq_true rfl, Nat.le_of_ble_eq_true rfl⟩ (Nat.zero_le _) (Nat.zero_le _) (fun r S' hq => ?_)
  rw [hq.2]
  replace hq := hq.1
  refine xl_of (fun _ kk => x_sload_n 1 hg dL_law_926 rfl rfl kk) ?_
  refine xl_of (fun _ kk => x_sload_n 3 hg dL_law_927 rfl rfl kk) ?_
  refine xl_of (fun _ kk => x_iload_n hg 0 dL_law_928 rfl rfl kk) ?_
  refine xl_of (fun _ kk => x_iconst (v := 1) hg dL_law_929 (by decide) kk) ?_
  refine xl_of (fun _ kk => x_iadd hg dL_law_930 kk) ?_
  refine l_sld hg h1 dL_law_931 ?_
  refine xl_of (fun _ kk => x_sload_n 3 hg dL_law_932 rfl rfl kk) ?_
  refine xl_of (fun _ kk => x_iload_n hg 0 dL_law_933 rfl rfl kk) ?_
  refine xl_of (fun _ kk => x_iconst (v := 2) hg dL_law_934 (by decide) kk) ?_
  refine xl_of (fun _ kk => x_iadd hg dL_law_935 kk) ?_
  refine l_sld hg h2 dL_law_936 ?_
  refine l_callVM (rest := [.int r]) (As := [.int (xs (i + 1).toNatClampNeg), .int (xs (i + 2).toNatClampNeg)]) hg (fun _ _ => RN_ag) (k_X11_neighbour (gL g) (gD g) 1000 (xs (i + 1).toNatClampNeg) (xs (i + 2).toNatClampNeg) S2 _ hq) (fun _ _ h => by rw [h.2]; exact (hV S S2 hI).2.1) (fun _ => rfl) (fun _ _ => rfl) lv_L_109 (by decide) (hV S S2 hI).2.2.2 rfl rfl dL_law_937 (cat8 (Nat.le_of_ble_eq_true rfl)) hrm ⟨Nat.le_of_ble_eq_true rfl, Nat.le_of_ble_eq_true rfl⟩ (Nat.zero_le _) (Nat.zero_le _) (fun r2 S2' hq2 => ?_)
  rw [hq2.2]
  replace hq2 := hq2.1
  refine l_icmp_eq (tgt := 1345) hg dL_law_940 (by decide) (fun _ => ?_) (fun q => absurd hq2.1 q)
  exact hloop _ _ _ hq2.2 (by dsimp only; omega) (by dsimp only; omega)
theorem lc_turn (hg : GoodG g code RL) (hrm : gR g = rmL) (hV : InvOk Inv) (hP : Pr_turn Inv) {i : Int32} {S S2 : Sg} {b : Nat × Nat} (hI : Inv S S2) (hb1 : 1000 ≤ b.1) (hb2 : 14000 ≤ b.2) (h1 : vp_in (i + 1) L) (h2 : vp_in (i + 2) L) (h3 : vp_in (i + 3) L) (h4 : vp_in (i + 4) L) (h5 : vp_in (i + 5) L) (hloop : ∀ (S' S2' : Sg) (b' : Nat × Nat), Inv S' S2' → b.1 - 1000 ≤ b'.1 → b.2 - 14000 ≤ b'.2 → XL g sb L xs ax am 1345 [(3, .int i), (2, .ref am), (1, .ref ax), (0, .ref sb)] [] S' S2' b') : XL g sb L xs ax am 945 [(3, .int i), (2, .ref am), (1, .ref ax), (0, .ref sb)] [] S S2 b := by
  refine xl_of (fun _ kk => x_sload_n 2 hg dL_law_945 rfl rfl kk) ?_
  refine xl_of (fun _ kk => x_sload_n 3 hg dL_law_946 rfl rfl kk) ?_
  refine xl_of (fun _ kk => x_iload_n hg 0 dL_law_947 rfl rfl kk) ?_
  refine xl_of (fun _ kk => x_iconst (v := 1) hg dL_law_948 (by decide) kk) ?_
  refine xl_of (fun _ kk => x_iadd hg dL_law_949 kk) ?_
  refine l_sld hg h1 dL_law_950 ?_
  refine xl_of (fun _ kk => x_sload_n 3 hg dL_law_951 rfl rfl kk) ?_
  refine xl_of (fun _ kk => x_iload_n hg 0 dL_law_952 rfl rfl kk) ?_
  refine xl_of (fun _ kk => x_iconst (v := 2) hg dL_law_953 (by decide) kk) ?_
  refine xl_of (fun _ kk => x_iadd hg dL_law_954 kk) ?_
  refine l_sld hg h2 dL_law_955 ?_
  refine xl_of (fun _ kk => x_sload_n 3 hg dL_law_956 rfl rfl kk) ?_
  refine xl_of (fun _ kk => x_iload_n hg 0 dL_law_957 rfl rfl kk) ?_
  refine xl_of (fun _ kk => x_iconst (v := 3) hg dL_law_958 (by decide) kk) ?_
  refine xl_of (fun _ kk => x_iadd hg dL_law_959 kk) ?_
  refine l_sld hg h3 dL_law_960 ?_
  refine l_callVX (rest := []) (As := [.int (xs (i + 1).toNatClampNeg), .int (xs (i + 2).toNatClampNeg), .int (xs (i + 3).toNatClampNeg)]) hg (fun _ _ => RN_ag) (k_X10_turn (gL g) (gD g) 1000 (xs (i + 1).toNatClampNeg) (xs (i + 2).toNatClampNeg) (xs (i + 3).toNatClampNeg) S _ (hP S S2 hI (xs (i + 1).toNatClampNeg) (xs (i + 2).toNatClampNeg) (xs (i + 3).toNatClampNeg))) (fun _ _ h => by rw [h.2]; exact (hV S S2 hI).1) (fun _ => rfl) (fun _ _ => rfl) lv_L_110 (by decide) (hV S S2 hI).2.2.1 rfl rfl dL_law_961 (cat8 (Nat.le_of_ble_eq_true rfl)) hrm ⟨Nat.le_of_ble_eq_true rfl, Nat.le_of_ble_eq_true rfl⟩ (Nat.zero_le _) (Nat.zero_le _) (fun r S' hq => ?_)
  rw [hq.2]
  replace hq := hq.1
  refine xl_of (fun _ kk => x_sload_n 1 hg dL_law_964 rfl rfl kk) ?_
  refine xl_of (fun _ kk => x_sload_n 3 hg dL_law_965 rfl rfl kk) ?_
  refine xl_of (fun _ kk => x_iload_n hg 0 dL_law_966 rfl rfl kk) ?_
  refine xl_of (fun _ kk => x_iconst (v := 1) hg dL_law_967 (by decide) kk) ?_
  refine xl_of (fun _ kk => x_iadd hg dL_law_968 kk) ?_
  refine l_sld hg h1 dL_law_969 ?_
  refine xl_of (fun _ kk => x_sload_n 3 hg dL_law_970 rfl rfl kk) ?_
  refine xl_of (fun _ kk => x_iload_n hg 0 dL_law_971 rfl rfl kk) ?_
  refine xl_of (fun _ kk => x_iconst (v := 2) hg dL_law_972 (by decide) kk) ?_
  refine xl_of (fun _ kk => x_iadd hg dL_law_973 kk) ?_
  refine l_sld hg h2 dL_law_974 ?_
  refine xl_of (fun _ kk => x_sload_n 3 hg dL_law_975 rfl rfl kk) ?_
  refine xl_of (fun _ kk => x_iload_n hg 0 dL_law_976 rfl rfl kk) ?_
  refine xl_of (fun _ kk => x_iconst (v := 3) hg dL_law_977 (by decide) kk) ?_
  refine xl_of (fun _ kk => x_iadd hg dL_law_978 kk) ?_
  refine l_sld hg h3 dL_law_979 ?_
  refine l_callVM (rest := [.int r]) (As := [.int (xs (i + 1).toNatClampNeg), .int (xs (i + 2).toNatClampNeg), .int (xs (i + 3).toNatClampNeg)]) hg (fun _ _ => RN_ag) (k_X11_turn (gL g) (gD g) 1000 (xs (i + 1).toNatClampNeg) (xs (i + 2).toNatClampNeg) (xs (i + 3).toNatClampNeg) S2 _ hq) (fun _ _ h => by rw [h.2]; exact (hV S S2 hI).2.1) (fun _ => rfl) (fun _ _ => rfl) lv_L_114 (by decide) (hV S S2 hI).2.2.2 rfl rfl dL_law_980 (cat8 (Nat.le_of_ble_eq_true rfl)) hrm ⟨Nat.le_of_ble_eq_true rfl, Nat.le_of_ble_eq_true rfl⟩ (Nat.zero_le _) (Nat.zero_le _) (fun r2 S2' hq2 => ?_)
  rw [hq2.2]
  replace hq2 := hq2.1
  refine l_icmp_eq (tgt := 1345) hg dL_law_983 (by decide) (fun _ => ?_) (fun q => absurd hq2.1 q)
  exact hloop _ _ _ hq2.2 (by dsimp only; omega) (by dsimp only; omega)
theorem lc_fee (hg : GoodG g code RL) (hrm : gR g = rmL) (hV : InvOk Inv) (hP : Pr_fee Inv) {i : Int32} {S S2 : Sg} {b : Nat × Nat} (hI : Inv S S2) (hb1 : 1000 ≤ b.1) (hb2 : 14000 ≤ b.2) (h1 : vp_in (i + 1) L) (h2 : vp_in (i + 2) L) (h3 : vp_in (i + 3) L) (h4 : vp_in (i + 4) L) (h5 : vp_in (i + 5) L) (hloop : ∀ (S' S2' : Sg) (b' : Nat × Nat), Inv S' S2' → b.1 - 1000 ≤ b'.1 → b.2 - 14000 ≤ b'.2 → XL g sb L xs ax am 1345 [(3, .int i), (2, .ref am), (1, .ref ax), (0, .ref sb)] [] S' S2' b') : XL g sb L xs ax am 988 [(3, .int i), (2, .ref am), (1, .ref ax), (0, .ref sb)] [] S S2 b := by
  refine xl_of (fun _ kk => x_sload_n 2 hg dL_law_988 rfl rfl kk) ?_
  refine xl_of (fun _ kk => x_sload_n 3 hg dL_law_989 rfl rfl kk) ?_
  refine xl_of (fun _ kk => x_iload_n hg 0 dL_law_990 rfl rfl kk) ?_
  refine xl_of (fun _ kk => x_iconst (v := 1) hg dL_law_991 (by decide) kk) ?_
  refine xl_of (fun _ kk => x_iadd hg dL_law_992 kk) ?_
  refine l_sld hg h1 dL_law_993 ?_
  refine xl_of (fun _ kk => x_sload_n 3 hg dL_law_994 rfl rfl kk) ?_
  refine xl_of (fun _ kk => x_iload_n hg 0 dL_law_995 rfl rfl kk) ?_
  refine xl_of (fun _ kk => x_iconst (v := 2) hg dL_law_996 (by decide) kk) ?_
  refine xl_of (fun _ kk => x_iadd hg dL_law_997 kk) ?_
  refine l_sld hg h2 dL_law_998 ?_
  refine l_callVX (rest := []) (As := [.int (xs (i + 1).toNatClampNeg), .int (xs (i + 2).toNatClampNeg)]) hg (fun _ _ => RN_ag) (k_X10_fee (gL g) (gD g) 1000 (xs (i + 1).toNatClampNeg) (xs (i + 2).toNatClampNeg) S _ (hP S S2 hI (xs (i + 1).toNatClampNeg) (xs (i + 2).toNatClampNeg))) (fun _ _ h => by rw [h.2]; exact (hV S S2 hI).1) (fun _ => rfl) (fun _ _ => rfl) lv_L_115 (by decide) (hV S S2 hI).2.2.1 rfl rfl dL_law_999 (cat8 (Nat.le_of_ble_eq_true rfl)) hrm ⟨Nat.le_of_ble_eq_true rfl, Nat.le_of_ble_eq_true rfl⟩ (Nat.zero_le _) (Nat.zero_le _) (fun r S' hq => ?_)
  rw [hq.2]
  replace hq := hq.1
  refine xl_of (fun _ kk => x_sload_n 1 hg dL_law_1002 rfl rfl kk) ?_
  refine xl_of (fun _ kk => x_sload_n 3 hg dL_law_1003 rfl rfl kk) ?_
  refine xl_of (fun _ kk => x_iload_n hg 0 dL_law_1004 rfl rfl kk) ?_
  refine xl_of (fun _ kk => x_iconst (v := 1) hg dL_law_1005 (by decide) kk) ?_
  refine xl_of (fun _ kk => x_iadd hg dL_law_1006 kk) ?_
  refine l_sld hg h1 dL_law_1007 ?_
  refine xl_of (fun _ kk => x_sload_n 3 hg dL_law_1008 rfl rfl kk) ?_
  refine xl_of (fun _ kk => x_iload_n hg 0 dL_law_1009 rfl rfl kk) ?_
  refine xl_of (fun _ kk => x_iconst (v := 2) hg dL_law_1010 (by decide) kk) ?_
  refine xl_of (fun _ kk => x_iadd hg dL_law_1011 kk) ?_
  refine l_sld hg h2 dL_law_1012 ?_
  refine l_callVM (rest := [.int r]) (As := [.int (xs (i + 1).toNatClampNeg), .int (xs (i + 2).toNatClampNeg)]) hg (fun _ _ => RN_ag) (k_X11_fee (gL g) (gD g) 1000 (xs (i + 1).toNatClampNeg) (xs (i + 2).toNatClampNeg) S2 _ hq) (fun _ _ h => by rw [h.2]; exact (hV S S2 hI).2.1) (fun _ => rfl) (fun _ _ => rfl) lv_L_118 (by decide) (hV S S2 hI).2.2.2 rfl rfl dL_law_1013 (cat8 (Nat.le_of_ble_eq_true rfl)) hrm ⟨Nat.le_of_ble_eq_true rfl, Nat.le_of_ble_eq_true rfl⟩ (Nat.zero_le _) (Nat.zero_le _) (fun r2 S2' hq2 => ?_)
  rw [hq2.2]
  replace hq2 := hq2.1
  refine l_icmp_eq (tgt := 1345) hg dL_law_1016 (by decide) (fun _ => ?_) (fun q => absurd hq2.1 q)
  exact hloop _ _ _ hq2.2 (by dsimp only; omega) (by dsimp only; omega)
theorem lc_look (hg : GoodG g code RL) (hrm : gR g = rmL) (hV : InvOk Inv) (hP : Pr_look Inv) {i : Int32} {S S2 : Sg} {b : Nat × Nat} (hI : Inv S S2) (hb1 : 1000 ≤ b.1) (hb2 : 14000 ≤ b.2) (h1 : vp_in (i + 1) L) (h2 : vp_in (i + 2) L) (h3 : vp_in (i + 3) L) (h4 : vp_in (i + 4) L) (h5 : vp_in (i + 5) L) (hloop : ∀ (S' S2' : Sg) (b' : Nat × Nat), Inv S' S2' → b.1 - 1000 ≤ b'.1 → b.2 - 14000 ≤ b'.2 → XL g sb L xs ax am 1345 [(3, .int i), (2, .ref am), (1, .ref ax), (0, .ref sb)] [] S' S2' b') : XL g sb L xs ax am 1021 [(3, .int i), (2, .ref am), (1, .ref ax), (0, .ref sb)] [] S S2 b := by
  refine xl_of (fun _ kk => x_sload_n 2 hg dL_law_1021 rfl rfl kk) ?_
  refine xl_of (fun _ kk => x_sload_n 3 hg dL_law_1022 rfl rfl kk) ?_
  refine xl_of (fun _ kk => x_iload_n hg 0 dL_law_1023 rfl rfl kk) ?_
  refine xl_of (fun _ kk => x_iconst (v := 1) hg dL_law_1024 (by decide) kk) ?_
  refine xl_of (fun _ kk => x_iadd hg dL_law_1025 kk) ?_
  refine l_sld hg h1 dL_law_1026 ?_
  refine xl_of (fun _ kk => x_sload_n 3 hg dL_law_1027 rfl rfl kk) ?_
  refine xl_of (fun _ kk => x_iload_n hg 0 dL_law_1028 rfl rfl kk) ?_
  refine xl_of (fun _ kk => x_iconst (v := 2) hg dL_law_1029 (by decide) kk) ?_
  refine xl_of (fun _ kk => x_iadd hg dL_law_1030 kk) ?_
  refine l_sld hg h2 dL_law_1031 ?_
  refine l_callVX (rest := []) (As := [.int (xs (i + 1).toNatClampNeg), .int (xs (i + 2).toNatClampNeg)]) hg (fun _ _ => RN_ag) (k_X10_look (gL g) (gD g) 1000 (xs (i + 1).toNatClampNeg) (xs (i + 2).toNatClampNeg) S _ (hP S S2 hI (xs (i + 1).toNatClampNeg) (xs (i + 2).toNatClampNeg))) (fun _ _ h => h.1) (fun _ => rfl) (fun _ _ => rfl) lv_L_119 (by decide) (hV S S2 hI).2.2.1 rfl rfl dL_law_1032 (cat8 (Nat.le_of_ble_eq_true rfl)) hrm ⟨Nat.le_of_ble_eq_true rfl, Nat.le_of_ble_eq_true rfl⟩ (Nat.zero_le _) (Nat.zero_le _) (fun r S' hq => ?_)
  refine xl_of (fun _ kk => x_sload_n 1 hg dL_law_1035 rfl rfl kk) ?_
  refine xl_of (fun _ kk => x_sload_n 3 hg dL_law_1036 rfl rfl kk) ?_
  refine xl_of (fun _ kk => x_iload_n hg 0 dL_law_1037 rfl rfl kk) ?_
  refine xl_of (fun _ kk => x_iconst (v := 1) hg dL_law_1038 (by decide) kk) ?_
  refine xl_of (fun _ kk => x_iadd hg dL_law_1039 kk) ?_
  refine l_sld hg h1 dL_law_1040 ?_
  refine xl_of (fun _ kk => x_sload_n 3 hg dL_law_1041 rfl rfl kk) ?_
  refine xl_of (fun _ kk => x_iload_n hg 0 dL_law_1042 rfl rfl kk) ?_
  refine xl_of (fun _ kk => x_iconst (v := 2) hg dL_law_1043 (by decide) kk) ?_
  refine xl_of (fun _ kk => x_iadd hg dL_law_1044 kk) ?_
  refine l_sld hg h2 dL_law_1045 ?_
  refine l_callVM (rest := [.int r]) (As := [.int (xs (i + 1).toNatClampNeg), .int (xs (i + 2).toNatClampNeg)]) hg (fun _ _ => RN_ag) (k_X11_look (gL g) (gD g) 1000 (xs (i + 1).toNatClampNeg) (xs (i + 2).toNatClampNeg) S2 _ hq.2) (fun _ _ h => (hV _ _ h.2).2.1) (fun _ => rfl) (fun _ _ => rfl) lv_L_122 (by decide) (hV S S2 hI).2.2.2 rfl rfl dL_law_1046 (cat8 (Nat.le_of_ble_eq_true rfl)) hrm ⟨Nat.le_of_ble_eq_true rfl, Nat.le_of_ble_eq_true rfl⟩ (Nat.zero_le _) (Nat.zero_le _) (fun r2 S2' hq2 => ?_)
  refine l_icmp_eq (tgt := 1345) hg dL_law_1049 (by decide) (fun _ => ?_) (fun q => absurd hq2.1 q)
  exact hloop _ _ _ hq2.2 (by dsimp only; omega) (by dsimp only; omega)
theorem lc_worst (hg : GoodG g code RL) (hrm : gR g = rmL) (hV : InvOk Inv) (hP : Pr_worst Inv) {i : Int32} {S S2 : Sg} {b : Nat × Nat} (hI : Inv S S2) (hb1 : 1000 ≤ b.1) (hb2 : 14000 ≤ b.2) (h1 : vp_in (i + 1) L) (h2 : vp_in (i + 2) L) (h3 : vp_in (i + 3) L) (h4 : vp_in (i + 4) L) (h5 : vp_in (i + 5) L) (hloop : ∀ (S' S2' : Sg) (b' : Nat × Nat), Inv S' S2' → b.1 - 1000 ≤ b'.1 → b.2 - 14000 ≤ b'.2 → XL g sb L xs ax am 1345 [(3, .int i), (2, .ref am), (1, .ref ax), (0, .ref sb)] [] S' S2' b') : XL g sb L xs ax am 1054 [(3, .int i), (2, .ref am), (1, .ref ax), (0, .ref sb)] [] S S2 b := by
  refine xl_of (fun _ kk => x_sload_n 2 hg dL_law_1054 rfl rfl kk) ?_
  refine xl_of (fun _ kk => x_sload_n 3 hg dL_law_1055 rfl rfl kk) ?_
  refine xl_of (fun _ kk => x_iload_n hg 0 dL_law_1056 rfl rfl kk) ?_
  refine xl_of (fun _ kk => x_iconst (v := 1) hg dL_law_1057 (by decide) kk) ?_
  refine xl_of (fun _ kk => x_iadd hg dL_law_1058 kk) ?_
  refine l_sld hg h1 dL_law_1059 ?_
  refine l_callVX (rest := []) (As := [.int (xs (i + 1).toNatClampNeg)]) hg (fun _ _ => RN_ag) (k_X10_worst (gL g) (gD g) 1000 (xs (i + 1).toNatClampNeg) S _ (hP S S2 hI (xs (i + 1).toNatClampNeg))) (fun _ _ h => by rw [h.2]; exact (hV S S2 hI).1) (fun _ => rfl) (fun _ _ => rfl) lv_L_123 (by decide) (hV S S2 hI).2.2.1 rfl rfl dL_law_1060 (cat8 (Nat.le_of_ble_eq_true rfl)) hrm ⟨Nat.le_of_ble_eq_true rfl, Nat.le_of_ble_eq_true rfl⟩ (Nat.zero_le _) (Nat.zero_le _) (fun r S' hq => ?_)
  rw [hq.2]
  replace hq := hq.1
  refine xl_of (fun _ kk => x_sload_n 1 hg dL_law_1063 rfl rfl kk) ?_
  refine xl_of (fun _ kk => x_sload_n 3 hg dL_law_1064 rfl rfl kk) ?_
  refine xl_of (fun _ kk => x_iload_n hg 0 dL_law_1065 rfl rfl kk) ?_
  refine xl_of (fun _ kk => x_iconst (v := 1) hg dL_law_1066 (by decide) kk) ?_
  refine xl_of (fun _ kk => x_iadd hg dL_law_1067 kk) ?_
  refine l_sld hg h1 dL_law_1068 ?_
  refine l_callVM (rest := [.int r]) (As := [.int (xs (i + 1).toNatClampNeg)]) hg (fun _ _ => RN_ag) (k_X11_worst (gL g) (gD g) 1000 (xs (i + 1).toNatClampNeg) S2 _ hq) (fun _ _ h => by rw [h.2]; exact (hV S S2 hI).2.1) (fun _ => rfl) (fun _ _ => rfl) lv_L_126 (by decide) (hV S S2 hI).2.2.2 rfl rfl dL_law_1069 (cat8 (Nat.le_of_ble_eq_true rfl)) hrm ⟨Nat.le_of_ble_eq_true rfl, Nat.le_of_ble_eq_true rfl⟩ (Nat.zero_le _) (Nat.zero_le _) (fun r2 S2' hq2 => ?_)
  rw [hq2.2]
  replace hq2 := hq2.1
  refine l_icmp_eq (tgt := 1345) hg dL_law_1072 (by decide) (fun _ => ?_) (fun q => absurd hq2.1 q)
  exact hloop _ _ _ hq2.2 (by dsimp only; omega) (by dsimp only; omega)
theorem lc_complain (hg : GoodG g code RL) (hrm : gR g = rmL) (hV : InvOk Inv) (hP : Pr_complain Inv) {i : Int32} {S S2 : Sg} {b : Nat × Nat} (hI : Inv S S2) (hb1 : 1000 ≤ b.1) (hb2 : 14000 ≤ b.2) (h1 : vp_in (i + 1) L) (h2 : vp_in (i + 2) L) (h3 : vp_in (i + 3) L) (h4 : vp_in (i + 4) L) (h5 : vp_in (i + 5) L) (hloop : ∀ (S' S2' : Sg) (b' : Nat × Nat), Inv S' S2' → b.1 - 1000 ≤ b'.1 → b.2 - 14000 ≤ b'.2 → XL g sb L xs ax am 1345 [(3, .int i), (2, .ref am), (1, .ref ax), (0, .ref sb)] [] S' S2' b') : XL g sb L xs ax am 1077 [(3, .int i), (2, .ref am), (1, .ref ax), (0, .ref sb)] [] S S2 b := by
  refine xl_of (fun _ kk => x_sload_n 2 hg dL_law_1077 rfl rfl kk) ?_
  refine xl_of (fun _ kk => x_sload_n 3 hg dL_law_1078 rfl rfl kk) ?_
  refine xl_of (fun _ kk => x_iload_n hg 0 dL_law_1079 rfl rfl kk) ?_
  refine xl_of (fun _ kk => x_iconst (v := 1) hg dL_law_1080 (by decide) kk) ?_
  refine xl_of (fun _ kk => x_iadd hg dL_law_1081 kk) ?_
  refine l_sld hg h1 dL_law_1082 ?_
  refine xl_of (fun _ kk => x_sload_n 3 hg dL_law_1083 rfl rfl kk) ?_
  refine xl_of (fun _ kk => x_iload_n hg 0 dL_law_1084 rfl rfl kk) ?_
  refine xl_of (fun _ kk => x_iconst (v := 2) hg dL_law_1085 (by decide) kk) ?_
  refine xl_of (fun _ kk => x_iadd hg dL_law_1086 kk) ?_
  refine l_sld hg h2 dL_law_1087 ?_
  refine l_callVX (rest := []) (As := [.int (xs (i + 1).toNatClampNeg), .int (xs (i + 2).toNatClampNeg)]) hg (fun _ _ => RA_ag) (k_X10_complain (gL g) (gD g) 1000 (xs (i + 1).toNatClampNeg) (xs (i + 2).toNatClampNeg) S (1000, 14000) _ (hP S S2 hI (xs (i + 1).toNatClampNeg) (xs (i + 2).toNatClampNeg))) (fun _ _ h => h.1) (fun _ => rfl) (fun _ _ => rfl) lv_L_127 (by decide) (hV S S2 hI).2.2.1 rfl rfl dL_law_1088 (cat8 (Nat.le_of_ble_eq_true rfl)) hrm ⟨Nat.le_of_ble_eq_true rfl, Nat.le_of_ble_eq_true rfl⟩ hb1 hb2 (fun r S' hq => ?_)
  refine xl_of (fun _ kk => x_sload_n 1 hg dL_law_1091 rfl rfl kk) ?_
  refine xl_of (fun _ kk => x_sload_n 3 hg dL_law_1092 rfl rfl kk) ?_
  refine xl_of (fun _ kk => x_iload_n hg 0 dL_law_1093 rfl rfl kk) ?_
  refine xl_of (fun _ kk => x_iconst (v := 1) hg dL_law_1094 (by decide) kk) ?_
  refine xl_of (fun _ kk => x_iadd hg dL_law_1095 kk) ?_
  refine l_sld hg h1 dL_law_1096 ?_
  refine xl_of (fun _ kk => x_sload_n 3 hg dL_law_1097 rfl rfl kk) ?_
  refine xl_of (fun _ kk => x_iload_n hg 0 dL_law_1098 rfl rfl kk) ?_
  refine xl_of (fun _ kk => x_iconst (v := 2) hg dL_law_1099 (by decide) kk) ?_
  refine xl_of (fun _ kk => x_iadd hg dL_law_1100 kk) ?_
  refine l_sld hg h2 dL_law_1101 ?_
  refine l_callVM (rest := [.int r]) (As := [.int (xs (i + 1).toNatClampNeg), .int (xs (i + 2).toNatClampNeg)]) hg (fun _ _ => RN_ag) (k_X11_complain (gL g) (gD g) 1000 (xs (i + 1).toNatClampNeg) (xs (i + 2).toNatClampNeg) S2 _ hq.2) (fun _ _ h => (hV _ _ h.2).2.1) (fun _ => rfl) (fun _ _ => rfl) lv_L_130 (by decide) (hV S S2 hI).2.2.2 rfl rfl dL_law_1102 (cat8 (Nat.le_of_ble_eq_true rfl)) hrm ⟨Nat.le_of_ble_eq_true rfl, Nat.le_of_ble_eq_true rfl⟩ (Nat.zero_le _) (Nat.zero_le _) (fun r2 S2' hq2 => ?_)
  refine l_icmp_eq (tgt := 1345) hg dL_law_1105 (by decide) (fun _ => ?_) (fun q => absurd hq2.1 q)
  exact hloop _ _ _ hq2.2 (by dsimp only; omega) (by dsimp only; omega)
theorem lc_close (hg : GoodG g code RL) (hrm : gR g = rmL) (hV : InvOk Inv) (hP : Pr_close Inv) {i : Int32} {S S2 : Sg} {b : Nat × Nat} (hI : Inv S S2) (hb1 : 1000 ≤ b.1) (hb2 : 14000 ≤ b.2) (h1 : vp_in (i + 1) L) (h2 : vp_in (i + 2) L) (h3 : vp_in (i + 3) L) (h4 : vp_in (i + 4) L) (h5 : vp_in (i + 5) L) (hloop : ∀ (S' S2' : Sg) (b' : Nat × Nat), Inv S' S2' → b.1 - 1000 ≤ b'.1 → b.2 - 14000 ≤ b'.2 → XL g sb L xs ax am 1345 [(3, .int i), (2, .ref am), (1, .ref ax), (0, .ref sb)] [] S' S2' b') : XL g sb L xs ax am 1110 [(3, .int i), (2, .ref am), (1, .ref ax), (0, .ref sb)] [] S S2 b := by
  refine xl_of (fun _ kk => x_sload_n 2 hg dL_law_1110 rfl rfl kk) ?_
  refine xl_of (fun _ kk => x_sload_n 3 hg dL_law_1111 rfl rfl kk) ?_
  refine xl_of (fun _ kk => x_iload_n hg 0 dL_law_1112 rfl rfl kk) ?_
  refine xl_of (fun _ kk => x_iconst (v := 1) hg dL_law_1113 (by decide) kk) ?_
  refine xl_of (fun _ kk => x_iadd hg dL_law_1114 kk) ?_
  refine l_sld hg h1 dL_law_1115 ?_
  refine l_callVX (rest := []) (As := [.int (xs (i + 1).toNatClampNeg)]) hg (fun _ _ => RN_ag) (k_X10_close (gL g) (gD g) 1000 (xs (i + 1).toNatClampNeg) S _ (hP S S2 hI (xs (i + 1).toNatClampNeg))) (fun _ _ h => h.1) (fun _ => rfl) (fun _ _ => rfl) lv_L_131 (by decide) (hV S S2 hI).2.2.1 rfl rfl dL_law_1116 (cat8 (Nat.le_of_ble_eq_true rfl)) hrm ⟨Nat.le_of_ble_eq_true rfl, Nat.le_of_ble_eq_true rfl⟩ (Nat.zero_le _) (Nat.zero_le _) (fun r S' hq => ?_)
  refine xl_of (fun _ kk => x_sload_n 1 hg dL_law_1119 rfl rfl kk) ?_
  refine xl_of (fun _ kk => x_sload_n 3 hg dL_law_1120 rfl rfl kk) ?_
  refine xl_of (fun _ kk => x_iload_n hg 0 dL_law_1121 rfl rfl kk) ?_
  refine xl_of (fun _ kk => x_iconst (v := 1) hg dL_law_1122 (by decide) kk) ?_
  refine xl_of (fun _ kk => x_iadd hg dL_law_1123 kk) ?_
  refine l_sld hg h1 dL_law_1124 ?_
  refine l_callVM (rest := [.int r]) (As := [.int (xs (i + 1).toNatClampNeg)]) hg (fun _ _ => RN_ag) (k_X11_close (gL g) (gD g) 1000 (xs (i + 1).toNatClampNeg) S2 _ hq.2) (fun _ _ h => (hV _ _ h.2).2.1) (fun _ => rfl) (fun _ _ => rfl) lv_L_134 (by decide) (hV S S2 hI).2.2.2 rfl rfl dL_law_1125 (cat8 (Nat.le_of_ble_eq_true rfl)) hrm ⟨Nat.le_of_ble_eq_true rfl, Nat.le_of_ble_eq_true rfl⟩ (Nat.zero_le _) (Nat.zero_le _) (fun r2 S2' hq2 => ?_)
  refine l_icmp_eq (tgt := 1345) hg dL_law_1128 (by decide) (fun _ => ?_) (fun q => absurd hq2.1 q)
  exact hloop _ _ _ hq2.2 (by dsimp only; omega) (by dsimp only; omega)
theorem lc_complaint (hg : GoodG g code RL) (hrm : gR g = rmL) (hV : InvOk Inv) (hP : Pr_complaint Inv) {i : Int32} {S S2 : Sg} {b : Nat × Nat} (hI : Inv S S2) (hb1 : 1000 ≤ b.1) (hb2 : 14000 ≤ b.2) (h1 : vp_in (i + 1) L) (h2 : vp_in (i + 2) L) (h3 : vp_in (i + 3) L) (h4 : vp_in (i + 4) L) (h5 : vp_in (i + 5) L) (hloop : ∀ (S' S2' : Sg) (b' : Nat × Nat), Inv S' S2' → b.1 - 1000 ≤ b'.1 → b.2 - 14000 ≤ b'.2 → XL g sb L xs ax am 1345 [(3, .int i), (2, .ref am), (1, .ref ax), (0, .ref sb)] [] S' S2' b') : XL g sb L xs ax am 1133 [(3, .int i), (2, .ref am), (1, .ref ax), (0, .ref sb)] [] S S2 b := by
  refine xl_of (fun _ kk => x_sload_n 2 hg dL_law_1133 rfl rfl kk) ?_
  refine xl_of (fun _ kk => x_sload_n 3 hg dL_law_1134 rfl rfl kk) ?_
  refine xl_of (fun _ kk => x_iload_n hg 0 dL_law_1135 rfl rfl kk) ?_
  refine xl_of (fun _ kk => x_iconst (v := 1) hg dL_law_1136 (by decide) kk) ?_
  refine xl_of (fun _ kk => x_iadd hg dL_law_1137 kk) ?_
  refine l_sld hg h1 dL_law_1138 ?_
  refine xl_of (fun _ kk => x_sload_n 3 hg dL_law_1139 rfl rfl kk) ?_
  refine xl_of (fun _ kk => x_iload_n hg 0 dL_law_1140 rfl rfl kk) ?_
  refine xl_of (fun _ kk => x_iconst (v := 2) hg dL_law_1141 (by decide) kk) ?_
  refine xl_of (fun _ kk => x_iadd hg dL_law_1142 kk) ?_
  refine l_sld hg h2 dL_law_1143 ?_
  refine l_callVX (rest := []) (As := [.int (xs (i + 1).toNatClampNeg), .int (xs (i + 2).toNatClampNeg)]) hg (fun _ _ => RN_ag) (k_X10_complaint (gL g) (gD g) 1000 (xs (i + 1).toNatClampNeg) (xs (i + 2).toNatClampNeg) S _ (hP S S2 hI (xs (i + 1).toNatClampNeg) (xs (i + 2).toNatClampNeg))) (fun _ _ h => by rw [h.2]; exact (hV S S2 hI).1) (fun _ => rfl) (fun _ _ => rfl) lv_L_135 (by decide) (hV S S2 hI).2.2.1 rfl rfl dL_law_1144 (cat8 (Nat.le_of_ble_eq_true rfl)) hrm ⟨Nat.le_of_ble_eq_true rfl, Nat.le_of_ble_eq_true rfl⟩ (Nat.zero_le _) (Nat.zero_le _) (fun r S' hq => ?_)
  rw [hq.2]
  replace hq := hq.1
  refine xl_of (fun _ kk => x_sload_n 1 hg dL_law_1147 rfl rfl kk) ?_
  refine xl_of (fun _ kk => x_sload_n 3 hg dL_law_1148 rfl rfl kk) ?_
  refine xl_of (fun _ kk => x_iload_n hg 0 dL_law_1149 rfl rfl kk) ?_
  refine xl_of (fun _ kk => x_iconst (v := 1) hg dL_law_1150 (by decide) kk) ?_
  refine xl_of (fun _ kk => x_iadd hg dL_law_1151 kk) ?_
  refine l_sld hg h1 dL_law_1152 ?_
  refine xl_of (fun _ kk => x_sload_n 3 hg dL_law_1153 rfl rfl kk) ?_
  refine xl_of (fun _ kk => x_iload_n hg 0 dL_law_1154 rfl rfl kk) ?_
  refine xl_of (fun _ kk => x_iconst (v := 2) hg dL_law_1155 (by decide) kk) ?_
  refine xl_of (fun _ kk => x_iadd hg dL_law_1156 kk) ?_
  refine l_sld hg h2 dL_law_1157 ?_
  refine l_callVM (rest := [.int r]) (As := [.int (xs (i + 1).toNatClampNeg), .int (xs (i + 2).toNatClampNeg)]) hg (fun _ _ => RN_ag) (k_X11_complaint (gL g) (gD g) 1000 (xs (i + 1).toNatClampNeg) (xs (i + 2).toNatClampNeg) S2 _ hq) (fun _ _ h => by rw [h.2]; exact (hV S S2 hI).2.1) (fun _ => rfl) (fun _ _ => rfl) lv_L_138 (by decide) (hV S S2 hI).2.2.2 rfl rfl dL_law_1158 (cat8 (Nat.le_of_ble_eq_true rfl)) hrm ⟨Nat.le_of_ble_eq_true rfl, Nat.le_of_ble_eq_true rfl⟩ (Nat.zero_le _) (Nat.zero_le _) (fun r2 S2' hq2 => ?_)
  rw [hq2.2]
  replace hq2 := hq2.1
  refine l_icmp_eq (tgt := 1345) hg dL_law_1161 (by decide) (fun _ => ?_) (fun q => absurd hq2.1 q)
  exact hloop _ _ _ hq2.2 (by dsimp only; omega) (by dsimp only; omega)
theorem lc_feed (hg : GoodG g code RL) (hrm : gR g = rmL) (hV : InvOk Inv) (hP : Pr_feed Inv) {i : Int32} {S S2 : Sg} {b : Nat × Nat} (hI : Inv S S2) (hb1 : 1000 ≤ b.1) (hb2 : 14000 ≤ b.2) (h1 : vp_in (i + 1) L) (h2 : vp_in (i + 2) L) (h3 : vp_in (i + 3) L) (h4 : vp_in (i + 4) L) (h5 : vp_in (i + 5) L) (hloop : ∀ (S' S2' : Sg) (b' : Nat × Nat), Inv S' S2' → b.1 - 1000 ≤ b'.1 → b.2 - 14000 ≤ b'.2 → XL g sb L xs ax am 1345 [(3, .int i), (2, .ref am), (1, .ref ax), (0, .ref sb)] [] S' S2' b') : XL g sb L xs ax am 1166 [(3, .int i), (2, .ref am), (1, .ref ax), (0, .ref sb)] [] S S2 b := by
  refine xl_of (fun _ kk => x_sload_n 2 hg dL_law_1166 rfl rfl kk) ?_
  refine xl_of (fun _ kk => x_sload_n 3 hg dL_law_1167 rfl rfl kk) ?_
  refine xl_of (fun _ kk => x_iload_n hg 0 dL_law_1168 rfl rfl kk) ?_
  refine xl_of (fun _ kk => x_iconst (v := 1) hg dL_law_1169 (by decide) kk) ?_
  refine xl_of (fun _ kk => x_iadd hg dL_law_1170 kk) ?_
  refine l_sld hg h1 dL_law_1171 ?_
  refine xl_of (fun _ kk => x_sload_n 3 hg dL_law_1172 rfl rfl kk) ?_
  refine xl_of (fun _ kk => x_iload_n hg 0 dL_law_1173 rfl rfl kk) ?_
  refine xl_of (fun _ kk => x_iconst (v := 2) hg dL_law_1174 (by decide) kk) ?_
  refine xl_of (fun _ kk => x_iadd hg dL_law_1175 kk) ?_
  refine l_sld hg h2 dL_law_1176 ?_
  refine xl_of (fun _ kk => x_sload_n 3 hg dL_law_1177 rfl rfl kk) ?_
  refine xl_of (fun _ kk => x_iload_n hg 0 dL_law_1178 rfl rfl kk) ?_
  refine xl_of (fun _ kk => x_iconst (v := 3) hg dL_law_1179 (by decide) kk) ?_
  refine xl_of (fun _ kk => x_iadd hg dL_law_1180 kk) ?_
  refine l_sld hg h3 dL_law_1181 ?_
  refine xl_of (fun _ kk => x_sload_n 3 hg dL_law_1182 rfl rfl kk) ?_
  refine xl_of (fun _ kk => x_iload_n hg 0 dL_law_1183 rfl rfl kk) ?_
  refine xl_of (fun _ kk => x_iconst (v := 4) hg dL_law_1184 (by decide) kk) ?_
  refine xl_of (fun _ kk => x_iadd hg dL_law_1185 kk) ?_
  refine l_sld hg h4 dL_law_1186 ?_
  refine xl_of (fun _ kk => x_sload_n 3 hg dL_law_1187 rfl rfl kk) ?_
  refine xl_of (fun _ kk => x_iload_n hg 0 dL_law_1188 rfl rfl kk) ?_
  refine xl_of (fun _ kk => x_iconst (v := 5) hg dL_law_1189 (by decide) kk) ?_
  refine xl_of (fun _ kk => x_iadd hg dL_law_1190 kk) ?_
  refine l_sld hg h5 dL_law_1191 ?_
  refine l_callVX (rest := []) (As := [.int (xs (i + 1).toNatClampNeg), .int (xs (i + 2).toNatClampNeg), .int (xs (i + 3).toNatClampNeg), .int (xs (i + 4).toNatClampNeg), .int (xs (i + 5).toNatClampNeg)]) hg (fun _ _ => RN_ag) (k_X10_feed (gL g) (gD g) 1000 (xs (i + 1).toNatClampNeg) (xs (i + 2).toNatClampNeg) (xs (i + 3).toNatClampNeg) (xs (i + 4).toNatClampNeg) (xs (i + 5).toNatClampNeg) S _ (hP S S2 hI (xs (i + 1).toNatClampNeg) (xs (i + 2).toNatClampNeg) (xs (i + 3).toNatClampNeg) (xs (i + 4).toNatClampNeg) (xs (i + 5).toNatClampNeg))) (fun _ _ h => h.1) (fun _ => rfl) (fun _ _ => rfl) lv_L_139 (by decide) (hV S S2 hI).2.2.1 rfl rfl dL_law_1192 (cat8 (Nat.le_of_ble_eq_true rfl)) hrm ⟨Nat.le_of_ble_eq_true rfl, Nat.le_of_ble_eq_true rfl⟩ (Nat.zero_le _) (Nat.zero_le _) (fun r S' hq => ?_)
  refine xl_of (fun _ kk => x_sload_n 1 hg dL_law_1195 rfl rfl kk) ?_
  refine xl_of (fun _ kk => x_sload_n 3 hg dL_law_1196 rfl rfl kk) ?_
  refine xl_of (fun _ kk => x_iload_n hg 0 dL_law_1197 rfl rfl kk) ?_
  refine xl_of (fun _ kk => x_iconst (v := 1) hg dL_law_1198 (by decide) kk) ?_
  refine xl_of (fun _ kk => x_iadd hg dL_law_1199 kk) ?_
  refine l_sld hg h1 dL_law_1200 ?_
  refine xl_of (fun _ kk => x_sload_n 3 hg dL_law_1201 rfl rfl kk) ?_
  refine xl_of (fun _ kk => x_iload_n hg 0 dL_law_1202 rfl rfl kk) ?_
  refine xl_of (fun _ kk => x_iconst (v := 2) hg dL_law_1203 (by decide) kk) ?_
  refine xl_of (fun _ kk => x_iadd hg dL_law_1204 kk) ?_
  refine l_sld hg h2 dL_law_1205 ?_
  refine xl_of (fun _ kk => x_sload_n 3 hg dL_law_1206 rfl rfl kk) ?_
  refine xl_of (fun _ kk => x_iload_n hg 0 dL_law_1207 rfl rfl kk) ?_
  refine xl_of (fun _ kk => x_iconst (v := 3) hg dL_law_1208 (by decide) kk) ?_
  refine xl_of (fun _ kk => x_iadd hg dL_law_1209 kk) ?_
  refine l_sld hg h3 dL_law_1210 ?_
  refine xl_of (fun _ kk => x_sload_n 3 hg dL_law_1211 rfl rfl kk) ?_
  refine xl_of (fun _ kk => x_iload_n hg 0 dL_law_1212 rfl rfl kk) ?_
  refine xl_of (fun _ kk => x_iconst (v := 4) hg dL_law_1213 (by decide) kk) ?_
  refine xl_of (fun _ kk => x_iadd hg dL_law_1214 kk) ?_
  refine l_sld hg h4 dL_law_1215 ?_
  refine xl_of (fun _ kk => x_sload_n 3 hg dL_law_1216 rfl rfl kk) ?_
  refine xl_of (fun _ kk => x_iload_n hg 0 dL_law_1217 rfl rfl kk) ?_
  refine xl_of (fun _ kk => x_iconst (v := 5) hg dL_law_1218 (by decide) kk) ?_
  refine xl_of (fun _ kk => x_iadd hg dL_law_1219 kk) ?_
  refine l_sld hg h5 dL_law_1220 ?_
  refine l_callVM (rest := [.int r]) (As := [.int (xs (i + 1).toNatClampNeg), .int (xs (i + 2).toNatClampNeg), .int (xs (i + 3).toNatClampNeg), .int (xs (i + 4).toNatClampNeg), .int (xs (i + 5).toNatClampNeg)]) hg (fun _ _ => RN_ag) (k_X11_feed (gL g) (gD g) 1000 (xs (i + 1).toNatClampNeg) (xs (i + 2).toNatClampNeg) (xs (i + 3).toNatClampNeg) (xs (i + 4).toNatClampNeg) (xs (i + 5).toNatClampNeg) S2 _ hq.2) (fun _ _ h => (hV _ _ h.2).2.1) (fun _ => rfl) (fun _ _ => rfl) lv_L_143 (by decide) (hV S S2 hI).2.2.2 rfl rfl dL_law_1221 (cat8 (Nat.le_of_ble_eq_true rfl)) hrm ⟨Nat.le_of_ble_eq_true rfl, Nat.le_of_ble_eq_true rfl⟩ (Nat.zero_le _) (Nat.zero_le _) (fun r2 S2' hq2 => ?_)
  refine l_icmp_eq (tgt := 1345) hg dL_law_1224 (by decide) (fun _ => ?_) (fun q => absurd hq2.1 q)
  exact hloop _ _ _ hq2.2 (by dsimp only; omega) (by dsimp only; omega)
theorem lc_rules (hg : GoodG g code RL) (hrm : gR g = rmL) (hV : InvOk Inv) (hP : Pr_rules Inv) {i : Int32} {S S2 : Sg} {b : Nat × Nat} (hI : Inv S S2) (hb1 : 1000 ≤ b.1) (hb2 : 14000 ≤ b.2) (h1 : vp_in (i + 1) L) (h2 : vp_in (i + 2) L) (h3 : vp_in (i + 3) L) (h4 : vp_in (i + 4) L) (h5 : vp_in (i + 5) L) (hloop : ∀ (S' S2' : Sg) (b' : Nat × Nat), Inv S' S2' → b.1 - 1000 ≤ b'.1 → b.2 - 14000 ≤ b'.2 → XL g sb L xs ax am 1345 [(3, .int i), (2, .ref am), (1, .ref ax), (0, .ref sb)] [] S' S2' b') : XL g sb L xs ax am 1229 [(3, .int i), (2, .ref am), (1, .ref ax), (0, .ref sb)] [] S S2 b := by
  refine xl_of (fun _ kk => x_sload_n 2 hg dL_law_1229 rfl rfl kk) ?_
  refine xl_of (fun _ kk => x_sload_n 3 hg dL_law_1230 rfl rfl kk) ?_
  refine xl_of (fun _ kk => x_iload_n hg 0 dL_law_1231 rfl rfl kk) ?_
  refine xl_of (fun _ kk => x_iconst (v := 1) hg dL_law_1232 (by decide) kk) ?_
  refine xl_of (fun _ kk => x_iadd hg dL_law_1233 kk) ?_
  refine l_sld hg h1 dL_law_1234 ?_
  refine l_callVX (rest := []) (As := [.int (xs (i + 1).toNatClampNeg)]) hg (fun _ _ => RA_ag) (k_X10_rules (gL g) (gD g) 1000 (xs (i + 1).toNatClampNeg) S (1000, 14000) _ (hP S S2 hI (xs (i + 1).toNatClampNeg))) (fun _ _ h => h.1) (fun _ => rfl) (fun _ _ => rfl) lv_L_144 (by decide) (hV S S2 hI).2.2.1 rfl rfl dL_law_1235 (cat8 (Nat.le_of_ble_eq_true rfl)) hrm ⟨Nat.le_of_ble_eq_true rfl, Nat.le_of_ble_eq_true rfl⟩ hb1 hb2 (fun r S' hq => ?_)
  refine xl_of (fun _ kk => x_sload_n 1 hg dL_law_1238 rfl rfl kk) ?_
  refine xl_of (fun _ kk => x_sload_n 3 hg dL_law_1239 rfl rfl kk) ?_
  refine xl_of (fun _ kk => x_iload_n hg 0 dL_law_1240 rfl rfl kk) ?_
  refine xl_of (fun _ kk => x_iconst (v := 1) hg dL_law_1241 (by decide) kk) ?_
  refine xl_of (fun _ kk => x_iadd hg dL_law_1242 kk) ?_
  refine l_sld hg h1 dL_law_1243 ?_
  refine l_callVM (rest := [.int r]) (As := [.int (xs (i + 1).toNatClampNeg)]) hg (fun _ _ => RN_ag) (k_X11_rules (gL g) (gD g) 1000 (xs (i + 1).toNatClampNeg) S2 _ hq.2) (fun _ _ h => (hV _ _ h.2).2.1) (fun _ => rfl) (fun _ _ => rfl) lv_L_147 (by decide) (hV S S2 hI).2.2.2 rfl rfl dL_law_1244 (cat8 (Nat.le_of_ble_eq_true rfl)) hrm ⟨Nat.le_of_ble_eq_true rfl, Nat.le_of_ble_eq_true rfl⟩ (Nat.zero_le _) (Nat.zero_le _) (fun r2 S2' hq2 => ?_)
  refine l_icmp_eq (tgt := 1345) hg dL_law_1247 (by decide) (fun _ => ?_) (fun q => absurd hq2.1 q)
  exact hloop _ _ _ hq2.2 (by dsimp only; omega) (by dsimp only; omega)
theorem lc_fault (hg : GoodG g code RL) (hrm : gR g = rmL) (hV : InvOk Inv) (hP : Pr_fault Inv) {i : Int32} {S S2 : Sg} {b : Nat × Nat} (hI : Inv S S2) (hb1 : 1000 ≤ b.1) (hb2 : 14000 ≤ b.2) (h1 : vp_in (i + 1) L) (h2 : vp_in (i + 2) L) (h3 : vp_in (i + 3) L) (h4 : vp_in (i + 4) L) (h5 : vp_in (i + 5) L) (hloop : ∀ (S' S2' : Sg) (b' : Nat × Nat), Inv S' S2' → b.1 - 1000 ≤ b'.1 → b.2 - 14000 ≤ b'.2 → XL g sb L xs ax am 1345 [(3, .int i), (2, .ref am), (1, .ref ax), (0, .ref sb)] [] S' S2' b') : XL g sb L xs ax am 1252 [(3, .int i), (2, .ref am), (1, .ref ax), (0, .ref sb)] [] S S2 b := by
  refine xl_of (fun _ kk => x_sload_n 2 hg dL_law_1252 rfl rfl kk) ?_
  refine l_callVX (rest := []) (As := []) hg (fun _ _ => RN_ag) (k_X10_fault (gL g) (gD g) 1000 S _ (hP S S2 hI ())) (fun _ _ h => by rw [h.2]; exact (hV S S2 hI).1) (fun _ => rfl) (fun _ _ => rfl) lv_L_148 (by decide) (hV S S2 hI).2.2.1 rfl rfl dL_law_1253 (cat8 (Nat.le_of_ble_eq_true rfl)) hrm ⟨Nat.le_of_ble_eq_true rfl, Nat.le_of_ble_eq_true rfl⟩ (Nat.zero_le _) (Nat.zero_le _) (fun r S' hq => ?_)
  rw [hq.2]
  replace hq := hq.1
  refine xl_of (fun _ kk => x_sload_n 1 hg dL_law_1256 rfl rfl kk) ?_
  refine l_callVM (rest := [.int r]) (As := []) hg (fun _ _ => RN_ag) (k_X11_fault (gL g) (gD g) 1000 S2 _ hq) (fun _ _ h => by rw [h.2]; exact (hV S S2 hI).2.1) (fun _ => rfl) (fun _ _ => rfl) lv_L_151 (by decide) (hV S S2 hI).2.2.2 rfl rfl dL_law_1257 (cat8 (Nat.le_of_ble_eq_true rfl)) hrm ⟨Nat.le_of_ble_eq_true rfl, Nat.le_of_ble_eq_true rfl⟩ (Nat.zero_le _) (Nat.zero_le _) (fun r2 S2' hq2 => ?_)
  rw [hq2.2]
  replace hq2 := hq2.1
  refine l_icmp_eq (tgt := 1345) hg dL_law_1260 (by decide) (fun _ => ?_) (fun q => absurd hq2.1 q)
  exact hloop _ _ _ hq2.2 (by dsimp only; omega) (by dsimp only; omega)
theorem lc_law (hg : GoodG g code RL) (hrm : gR g = rmL) (hV : InvOk Inv) (hP : Pr_law Inv) {i : Int32} {S S2 : Sg} {b : Nat × Nat} (hI : Inv S S2) (hb1 : 1000 ≤ b.1) (hb2 : 14000 ≤ b.2) (h1 : vp_in (i + 1) L) (h2 : vp_in (i + 2) L) (h3 : vp_in (i + 3) L) (h4 : vp_in (i + 4) L) (h5 : vp_in (i + 5) L) (hloop : ∀ (S' S2' : Sg) (b' : Nat × Nat), Inv S' S2' → b.1 - 1000 ≤ b'.1 → b.2 - 14000 ≤ b'.2 → XL g sb L xs ax am 1345 [(3, .int i), (2, .ref am), (1, .ref ax), (0, .ref sb)] [] S' S2' b') : XL g sb L xs ax am 1265 [(3, .int i), (2, .ref am), (1, .ref ax), (0, .ref sb)] [] S S2 b := by
  refine xl_of (fun _ kk => x_sload_n 2 hg dL_law_1265 rfl rfl kk) ?_
  refine xl_of (fun _ kk => x_sload_n 3 hg dL_law_1266 rfl rfl kk) ?_
  refine xl_of (fun _ kk => x_iload_n hg 0 dL_law_1267 rfl rfl kk) ?_
  refine xl_of (fun _ kk => x_iconst (v := 1) hg dL_law_1268 (by decide) kk) ?_
  refine xl_of (fun _ kk => x_iadd hg dL_law_1269 kk) ?_
  refine l_sld hg h1 dL_law_1270 ?_
  refine xl_of (fun _ kk => x_sload_n 3 hg dL_law_1271 rfl rfl kk) ?_
  refine xl_of (fun _ kk => x_iload_n hg 0 dL_law_1272 rfl rfl kk) ?_
  refine xl_of (fun _ kk => x_iconst (v := 2) hg dL_law_1273 (by decide) kk) ?_
  refine xl_of (fun _ kk => x_iadd hg dL_law_1274 kk) ?_
  refine l_sld hg h2 dL_law_1275 ?_
  refine l_callVX (rest := []) (As := [.int (xs (i + 1).toNatClampNeg), .int (xs (i + 2).toNatClampNeg)]) hg (fun _ _ => RN_ag) (k_X10_law (gL g) (gD g) 1000 (xs (i + 1).toNatClampNeg) (xs (i + 2).toNatClampNeg) S _ (hP S S2 hI (xs (i + 1).toNatClampNeg) (xs (i + 2).toNatClampNeg))) (fun _ _ h => by rw [h.2]; exact (hV S S2 hI).1) (fun _ => rfl) (fun _ _ => rfl) lv_L_152 (by decide) (hV S S2 hI).2.2.1 rfl rfl dL_law_1276 (cat8 (Nat.le_of_ble_eq_true rfl)) hrm ⟨Nat.le_of_ble_eq_true rfl, Nat.le_of_ble_eq_true rfl⟩ (Nat.zero_le _) (Nat.zero_le _) (fun r S' hq => ?_)
  rw [hq.2]
  replace hq := hq.1
  refine xl_of (fun _ kk => x_sload_n 1 hg dL_law_1279 rfl rfl kk) ?_
  refine xl_of (fun _ kk => x_sload_n 3 hg dL_law_1280 rfl rfl kk) ?_
  refine xl_of (fun _ kk => x_iload_n hg 0 dL_law_1281 rfl rfl kk) ?_
  refine xl_of (fun _ kk => x_iconst (v := 1) hg dL_law_1282 (by decide) kk) ?_
  refine xl_of (fun _ kk => x_iadd hg dL_law_1283 kk) ?_
  refine l_sld hg h1 dL_law_1284 ?_
  refine xl_of (fun _ kk => x_sload_n 3 hg dL_law_1285 rfl rfl kk) ?_
  refine xl_of (fun _ kk => x_iload_n hg 0 dL_law_1286 rfl rfl kk) ?_
  refine xl_of (fun _ kk => x_iconst (v := 2) hg dL_law_1287 (by decide) kk) ?_
  refine xl_of (fun _ kk => x_iadd hg dL_law_1288 kk) ?_
  refine l_sld hg h2 dL_law_1289 ?_
  refine l_callVM (rest := [.int r]) (As := [.int (xs (i + 1).toNatClampNeg), .int (xs (i + 2).toNatClampNeg)]) hg (fun _ _ => RN_ag) (k_X11_law (gL g) (gD g) 1000 (xs (i + 1).toNatClampNeg) (xs (i + 2).toNatClampNeg) S2 _ hq) (fun _ _ h => by rw [h.2]; exact (hV S S2 hI).2.1) (fun _ => rfl) (fun _ _ => rfl) lv_L_155 (by decide) (hV S S2 hI).2.2.2 rfl rfl dL_law_1290 (cat8 (Nat.le_of_ble_eq_true rfl)) hrm ⟨Nat.le_of_ble_eq_true rfl, Nat.le_of_ble_eq_true rfl⟩ (Nat.zero_le _) (Nat.zero_le _) (fun r2 S2' hq2 => ?_)
  rw [hq2.2]
  replace hq2 := hq2.1
  refine l_icmp_eq (tgt := 1345) hg dL_law_1293 (by decide) (fun _ => ?_) (fun q => absurd hq2.1 q)
  exact hloop _ _ _ hq2.2 (by dsimp only; omega) (by dsimp only; omega)
theorem lc_sum (hg : GoodG g code RL) (hrm : gR g = rmL) (hV : InvOk Inv) (hP : Pr_sum Inv) {i : Int32} {S S2 : Sg} {b : Nat × Nat} (hI : Inv S S2) (hb1 : 1000 ≤ b.1) (hb2 : 14000 ≤ b.2) (h1 : vp_in (i + 1) L) (h2 : vp_in (i + 2) L) (h3 : vp_in (i + 3) L) (h4 : vp_in (i + 4) L) (h5 : vp_in (i + 5) L) (hloop : ∀ (S' S2' : Sg) (b' : Nat × Nat), Inv S' S2' → b.1 - 1000 ≤ b'.1 → b.2 - 14000 ≤ b'.2 → XL g sb L xs ax am 1345 [(3, .int i), (2, .ref am), (1, .ref ax), (0, .ref sb)] [] S' S2' b') : XL g sb L xs ax am 1298 [(3, .int i), (2, .ref am), (1, .ref ax), (0, .ref sb)] [] S S2 b := by
  refine xl_of (fun _ kk => x_sload_n 2 hg dL_law_1298 rfl rfl kk) ?_
  refine xl_of (fun _ kk => x_sload_n 3 hg dL_law_1299 rfl rfl kk) ?_
  refine xl_of (fun _ kk => x_iload_n hg 0 dL_law_1300 rfl rfl kk) ?_
  refine xl_of (fun _ kk => x_iconst (v := 1) hg dL_law_1301 (by decide) kk) ?_
  refine xl_of (fun _ kk => x_iadd hg dL_law_1302 kk) ?_
  refine l_sld hg h1 dL_law_1303 ?_
  refine l_callVX (rest := []) (As := [.int (xs (i + 1).toNatClampNeg)]) hg (fun _ _ => RN_ag) (k_X10_sum (gL g) (gD g) 1000 (xs (i + 1).toNatClampNeg) S _ (hP S S2 hI (xs (i + 1).toNatClampNeg))) (fun _ _ h => by rw [h.2]; exact (hV S S2 hI).1) (fun _ => rfl) (fun _ _ => rfl) lv_L_156 (by decide) (hV S S2 hI).2.2.1 rfl rfl dL_law_1304 (cat8 (Nat.le_of_ble_eq_true rfl)) hrm ⟨Nat.le_of_ble_eq_true rfl, Nat.le_of_ble_eq_true rfl⟩ (Nat.zero_le _) (Nat.zero_le _) (fun r S' hq => ?_)
  rw [hq.2]
  replace hq := hq.1
  refine xl_of (fun _ kk => x_sload_n 1 hg dL_law_1307 rfl rfl kk) ?_
  refine xl_of (fun _ kk => x_sload_n 3 hg dL_law_1308 rfl rfl kk) ?_
  refine xl_of (fun _ kk => x_iload_n hg 0 dL_law_1309 rfl rfl kk) ?_
  refine xl_of (fun _ kk => x_iconst (v := 1) hg dL_law_1310 (by decide) kk) ?_
  refine xl_of (fun _ kk => x_iadd hg dL_law_1311 kk) ?_
  refine l_sld hg h1 dL_law_1312 ?_
  refine l_callVM (rest := [.long r]) (As := [.int (xs (i + 1).toNatClampNeg)]) hg (fun _ _ => RN_ag) (k_X11_sum (gL g) (gD g) 1000 (xs (i + 1).toNatClampNeg) S2 _ hq) (fun _ _ h => by rw [h.2]; exact (hV S S2 hI).2.1) (fun _ => rfl) (fun _ _ => rfl) lv_L_160 (by decide) (hV S S2 hI).2.2.2 rfl rfl dL_law_1313 (cat8 (Nat.le_of_ble_eq_true rfl)) hrm ⟨Nat.le_of_ble_eq_true rfl, Nat.le_of_ble_eq_true rfl⟩ (Nat.zero_le _) (Nat.zero_le _) (fun r2 S2' hq2 => ?_)
  rw [hq2.2]
  replace hq2 := hq2.1
  refine xl_of (fun _ kk => x_lcmp hg dL_law_1316 kk) ?_
  refine l_if_eq (tgt := 1345) hg dL_law_1317 (by decide) (fun _ => ?_) (fun q => absurd ((lg_cmp_eq _ _).mpr hq2.1) q)
  exact hloop _ _ _ hq2.2 (by dsimp only; omega) (by dsimp only; omega)
theorem lc_count (hg : GoodG g code RL) (hrm : gR g = rmL) (hV : InvOk Inv) (hP : Pr_count Inv) {i : Int32} {S S2 : Sg} {b : Nat × Nat} (hI : Inv S S2) (hb1 : 1000 ≤ b.1) (hb2 : 14000 ≤ b.2) (h1 : vp_in (i + 1) L) (h2 : vp_in (i + 2) L) (h3 : vp_in (i + 3) L) (h4 : vp_in (i + 4) L) (h5 : vp_in (i + 5) L) (hloop : ∀ (S' S2' : Sg) (b' : Nat × Nat), Inv S' S2' → b.1 - 1000 ≤ b'.1 → b.2 - 14000 ≤ b'.2 → XL g sb L xs ax am 1345 [(3, .int i), (2, .ref am), (1, .ref ax), (0, .ref sb)] [] S' S2' b') : XL g sb L xs ax am 1322 [(3, .int i), (2, .ref am), (1, .ref ax), (0, .ref sb)] [] S S2 b := by
  refine xl_of (fun _ kk => x_sload_n 2 hg dL_law_1322 rfl rfl kk) ?_
  refine xl_of (fun _ kk => x_sload_n 3 hg dL_law_1323 rfl rfl kk) ?_
  refine xl_of (fun _ kk => x_iload_n hg 0 dL_law_1324 rfl rfl kk) ?_
  refine xl_of (fun _ kk => x_iconst (v := 1) hg dL_law_1325 (by decide) kk) ?_
  refine xl_of (fun _ kk => x_iadd hg dL_law_1326 kk) ?_
  refine l_sld hg h1 dL_law_1327 ?_
  refine l_callVX (rest := []) (As := [.int (xs (i + 1).toNatClampNeg)]) hg (fun _ _ => RN_ag) (k_X10_count (gL g) (gD g) 1000 (xs (i + 1).toNatClampNeg) S _ (hP S S2 hI (xs (i + 1).toNatClampNeg))) (fun _ _ h => by rw [h.2]; exact (hV S S2 hI).1) (fun _ => rfl) (fun _ _ => rfl) lv_L_161 (by decide) (hV S S2 hI).2.2.1 rfl rfl dL_law_1328 (cat8 (Nat.le_of_ble_eq_true rfl)) hrm ⟨Nat.le_of_ble_eq_true rfl, Nat.le_of_ble_eq_true rfl⟩ (Nat.zero_le _) (Nat.zero_le _) (fun r S' hq => ?_)
  rw [hq.2]
  replace hq := hq.1
  refine xl_of (fun _ kk => x_sload_n 1 hg dL_law_1331 rfl rfl kk) ?_
  refine xl_of (fun _ kk => x_sload_n 3 hg dL_law_1332 rfl rfl kk) ?_
  refine xl_of (fun _ kk => x_iload_n hg 0 dL_law_1333 rfl rfl kk) ?_
  refine xl_of (fun _ kk => x_iconst (v := 1) hg dL_law_1334 (by decide) kk) ?_
  refine xl_of (fun _ kk => x_iadd hg dL_law_1335 kk) ?_
  refine l_sld hg h1 dL_law_1336 ?_
  refine l_callVM (rest := [.int r]) (As := [.int (xs (i + 1).toNatClampNeg)]) hg (fun _ _ => RN_ag) (k_X11_count (gL g) (gD g) 1000 (xs (i + 1).toNatClampNeg) S2 _ hq) (fun _ _ h => by rw [h.2]; exact (hV S S2 hI).2.1) (fun _ => rfl) (fun _ _ => rfl) lv_L_164 (by decide) (hV S S2 hI).2.2.2 rfl rfl dL_law_1337 (cat8 (Nat.le_of_ble_eq_true rfl)) hrm ⟨Nat.le_of_ble_eq_true rfl, Nat.le_of_ble_eq_true rfl⟩ (Nat.zero_le _) (Nat.zero_le _) (fun r2 S2' hq2 => ?_)
  rw [hq2.2]
  replace hq2 := hq2.1
  refine l_icmp_eq (tgt := 1345) hg dL_law_1340 (by decide) (fun _ => ?_) (fun q => absurd hq2.1 q)
  exact hloop _ _ _ hq2.2 (by dsimp only; omega) (by dsimp only; omega)
def Prs (Inv : Sg → Sg → Prop) : Prop := Pr_corner Inv ∧ Pr_below Inv ∧ Pr_roof Inv ∧ Pr_lot Inv ∧ Pr_bed Inv ∧ Pr_care Inv ∧ Pr_treat Inv ∧ Pr_pass Inv ∧ Pr_rain Inv ∧ Pr_clear Inv ∧ Pr_storm Inv ∧ Pr_tried Inv ∧ Pr_best Inv ∧ Pr_helps Inv ∧ Pr_told Inv ∧ Pr_bedOf Inv ∧ Pr_roofOf Inv ∧ Pr_prove Inv ∧ Pr_stormOf Inv ∧ Pr_compare Inv ∧ Pr_crew Inv ∧ Pr_neighbour Inv ∧ Pr_turn Inv ∧ Pr_fee Inv ∧ Pr_look Inv ∧ Pr_worst Inv ∧ Pr_complain Inv ∧ Pr_close Inv ∧ Pr_complaint Inv ∧ Pr_feed Inv ∧ Pr_rules Inv ∧ Pr_fault Inv ∧ Pr_law Inv ∧ Pr_sum Inv ∧ Pr_count Inv
theorem nI_sm {L : Nat} (hL : L ≤ 3072) : (nI L).toInt = (L : Int) := Int32.toInt_ofNat_of_lt (by omega)
theorem ix_add {i j : Int32} {k m : Nat} (hi : i.toInt = (k : Int)) (hj : j.toInt = (m : Int)) (h : k + m < 100000) : (i + j).toInt = ((k + m : Nat) : Int) := by
  rw [Int32.toInt_add, hi, hj, Int.bmod_eq_of_le] <;> omega
theorem ix_in {i : Int32} {k L : Nat} (hi : i.toInt = (k : Int)) (h : k < L) : vp_in i L := by
  intro z
  rcases z with z | z
  · have := Int32.lt_iff_toInt_lt.mp z
    rw [hi] at this
    have h0 : (0 : Int32).toInt = 0 := by decide
    omega
  · have : i.toNatClampNeg = k := by show i.toInt.toNat = k; rw [hi]; rfl
    omega
theorem ix_le {i : Int32} {k L : Nat} (hL : L ≤ 3072) (hi : i.toInt = (k : Int)) (h : ¬ nI L - 6 < i) : k + 6 ≤ L := by
  have h6 : (6 : Int32).toInt = 6 := by decide
  have e : (nI L - 6).toInt = (L : Int) - 6 := by
    rw [Int32.toInt_sub, nI_sm hL, h6, Int.bmod_eq_of_le] <;> omega
  have := Int32.not_lt.mp h
  have := Int32.le_iff_toInt_le.mp this
  rw [e, hi] at this
  omega
theorem l_loop (hg : GoodG g code RL) (hrm : gR g = rmL) (hV : InvOk Inv) (hN : gN g = 4) (hL : L ≤ 3072) (hPs : Prs Inv) (hend : ∀ (lv : List (Nat × Value)) (σ : Sg) (b : Nat × Nat), XJ g 1352 lv [.int 1] σ b) : ∀ (n k : Nat) (i : Int32) (S S2 : Sg) (b : Nat × Nat), k + n = 512 → i.toInt = ((6 * k : Nat) : Int) → Inv S S2 → 1000 * n ≤ b.1 → 14000 * n ≤ b.2 → XL g sb L xs ax am 18 [(3, .int i), (2, .ref am), (1, .ref ax), (0, .ref sb)] [] S S2 b := by
  obtain ⟨p0, p1, p2, p3, p4, p5, p6, p7, p8, p9, p10, p11, p12, p13, p14, p15, p16, p17, p18, p19, p20, p21, p22, p23, p24, p25, p26, p27, p28, p29, p30, p31, p32, p33, p34⟩ := hPs
  intro n
  induction n with
  | zero =>
    intro k i S S2 b hk hi hI hb1 hb2
    refine xl_of (fun _ kk => x_iload_n hg 0 dL_law_18 rfl rfl kk) ?_
    refine xl_of (fun _ kk => x_sload_n 3 hg dL_law_19 rfl rfl kk) ?_
    refine l_slen hg dL_law_20 ?_
    refine xl_of (fun _ kk => x_bipush (v := 6) hg dL_law_21 (by decide) kk) ?_
    refine xl_of (fun _ kk => x_isub hg dL_law_23 kk) ?_
    refine l_icmp_gt (tgt := 1351) hg dL_law_24 (by decide) (fun _ => ?_) (fun q => ?_)
    · exact xl_of (fun _ kk => x_iconst (v := 1) hg dL_law_1351 (by decide) kk) (fun _ _ σ _ _ _ => hend _ σ _)
    · have := ix_le hL hi q; omega
  | succ n ih =>
    intro k i S S2 b hk hi hI hb1 hb2
    refine xl_of (fun _ kk => x_iload_n hg 0 dL_law_18 rfl rfl kk) ?_
    refine xl_of (fun _ kk => x_sload_n 3 hg dL_law_19 rfl rfl kk) ?_
    refine l_slen hg dL_law_20 ?_
    refine xl_of (fun _ kk => x_bipush (v := 6) hg dL_law_21 (by decide) kk) ?_
    refine xl_of (fun _ kk => x_isub hg dL_law_23 kk) ?_
    refine l_icmp_gt (tgt := 1351) hg dL_law_24 (by decide) (fun _ => ?_) (fun q => ?_)
    · exact xl_of (fun _ kk => x_iconst (v := 1) hg dL_law_1351 (by decide) kk) (fun _ _ σ _ _ _ => hend _ σ _)
    · have hle := ix_le hL hi q
      have h1 : vp_in (i + 1) L := ix_in (ix_add hi (m := 1) (by decide) (by omega)) (by omega)
      have h2 : vp_in (i + 2) L := ix_in (ix_add hi (m := 2) (by decide) (by omega)) (by omega)
      have h3 : vp_in (i + 3) L := ix_in (ix_add hi (m := 3) (by decide) (by omega)) (by omega)
      have h4 : vp_in (i + 4) L := ix_in (ix_add hi (m := 4) (by decide) (by omega)) (by omega)
      have h5 : vp_in (i + 5) L := ix_in (ix_add hi (m := 5) (by decide) (by omega)) (by omega)
      have hloop : ∀ (S' S2' : Sg) (b' : Nat × Nat), Inv S' S2' → b.1 - 1000 ≤ b'.1 → b.2 - 14000 ≤ b'.2 → XL g sb L xs ax am 1345 [(3, .int i), (2, .ref am), (1, .ref ax), (0, .ref sb)] [] S' S2' b' := fun S' S2' b' g1 g2 g3 => by
        refine xl_of (fun _ kk => x_iinc (v := i + 6) (lv' := [(3, .int (i + 6)), (2, .ref am), (1, .ref ax), (0, .ref sb)]) hg 0 dL_law_1345 rfl rfl (by rw [hN]; decide) rfl kk) ?_
        refine xl_of (fun _ kk => x_goto (tgt := 18) hg dL_law_1348 (by decide) kk) ?_
        refine ih (k + 1) (i + 6) S' S2' b' (by omega) ?_ g1 (by omega) (by omega)
        rw [ix_add hi (m := 6) (by decide) (by omega)]
        congr 1
      refine xl_of (fun _ kk => x_sload_n 3 hg dL_law_27 rfl rfl kk) ?_
      refine xl_of (fun _ kk => x_iload_n hg 0 dL_law_28 rfl rfl kk) ?_
      refine l_sld hg (ix_in hi (by omega)) dL_law_29 ?_
      refine xl_of (fun _ kk => x_bipush (v := 63) hg dL_law_30 (by decide) kk) ?_
      refine xl_of (fun _ kk => x_iand hg dL_law_32 kk) ?_
      generalize xs i.toNatClampNeg &&& 63 = w
      have hB1 : 1000 ≤ b.1 := by omega
      have hB2 : 14000 ≤ b.2 := by omega
      by_cases q0 : w = 0
      · exact xl_of (fun _ kk => x_tableIn (tgt := 188) hg dL_law_33 (by rw [q0]; decide) (by rw [q0]; decide) (by rw [q0]; rfl) (by decide) kk) (lc_corner hg hrm hV p0 hI hB1 hB2 h1 h2 h3 h4 h5 hloop)
      by_cases q1 : w = 1
      · exact xl_of (fun _ kk => x_tableIn (tgt := 241) hg dL_law_33 (by rw [q1]; decide) (by rw [q1]; decide) (by rw [q1]; rfl) (by decide) kk) (lc_below hg hrm hV p1 hI hB1 hB2 h1 h2 h3 h4 h5 hloop)
      by_cases q2 : w = 2
      · exact xl_of (fun _ kk => x_tableIn (tgt := 274) hg dL_law_33 (by rw [q2]; decide) (by rw [q2]; decide) (by rw [q2]; rfl) (by decide) kk) (lc_roof hg hrm hV p2 hI hB1 hB2 h1 h2 h3 h4 h5 hloop)
      by_cases q3 : w = 3
      · exact xl_of (fun _ kk => x_tableIn (tgt := 327) hg dL_law_33 (by rw [q3]; decide) (by rw [q3]; decide) (by rw [q3]; rfl) (by decide) kk) (lc_lot hg hrm hV p3 hI hB1 hB2 h1 h2 h3 h4 h5 hloop)
      by_cases q4 : w = 4
      · exact xl_of (fun _ kk => x_tableIn (tgt := 360) hg dL_law_33 (by rw [q4]; decide) (by rw [q4]; decide) (by rw [q4]; rfl) (by decide) kk) (lc_bed hg hrm hV p4 hI hB1 hB2 h1 h2 h3 h4 h5 hloop)
      by_cases q5 : w = 5
      · exact xl_of (fun _ kk => x_tableIn (tgt := 429) hg dL_law_33 (by rw [q5]; decide) (by rw [q5]; decide) (by rw [q5]; rfl) (by decide) kk) (lc_care hg hrm hV p5 hI hB1 hB2 h1 h2 h3 h4 h5 hloop)
      by_cases q6 : w = 6
      · exact xl_of (fun _ kk => x_tableIn (tgt := 462) hg dL_law_33 (by rw [q6]; decide) (by rw [q6]; decide) (by rw [q6]; rfl) (by decide) kk) (lc_treat hg hrm hV p6 hI hB1 hB2 h1 h2 h3 h4 h5 hloop)
      by_cases q7 : w = 7
      · exact xl_of (fun _ kk => x_tableIn (tgt := 495) hg dL_law_33 (by rw [q7]; decide) (by rw [q7]; decide) (by rw [q7]; rfl) (by decide) kk) (lc_pass hg hrm hV p7 hI hB1 hB2 h1 h2 h3 h4 h5 hloop)
      by_cases q8 : w = 8
      · exact xl_of (fun _ kk => x_tableIn (tgt := 518) hg dL_law_33 (by rw [q8]; decide) (by rw [q8]; decide) (by rw [q8]; rfl) (by decide) kk) (lc_rain hg hrm hV p8 hI hB1 hB2 h1 h2 h3 h4 h5 hloop)
      by_cases q9 : w = 9
      · exact xl_of (fun _ kk => x_tableIn (tgt := 541) hg dL_law_33 (by rw [q9]; decide) (by rw [q9]; decide) (by rw [q9]; rfl) (by decide) kk) (lc_clear hg hrm hV p9 hI hB1 hB2 h1 h2 h3 h4 h5 hloop)
      by_cases q10 : w = 10
      · exact xl_of (fun _ kk => x_tableIn (tgt := 554) hg dL_law_33 (by rw [q10]; decide) (by rw [q10]; decide) (by rw [q10]; rfl) (by decide) kk) (lc_storm hg hrm hV p10 hI hB1 hB2 h1 h2 h3 h4 h5 hloop)
      by_cases q11 : w = 11
      · exact xl_of (fun _ kk => x_tableIn (tgt := 567) hg dL_law_33 (by rw [q11]; decide) (by rw [q11]; decide) (by rw [q11]; rfl) (by decide) kk) (lc_tried hg hrm hV p11 hI hB1 hB2 h1 h2 h3 h4 h5 hloop)
      by_cases q12 : w = 12
      · exact xl_of (fun _ kk => x_tableIn (tgt := 601) hg dL_law_33 (by rw [q12]; decide) (by rw [q12]; decide) (by rw [q12]; rfl) (by decide) kk) (lc_best hg hrm hV p12 hI hB1 hB2 h1 h2 h3 h4 h5 hloop)
      by_cases q13 : w = 13
      · exact xl_of (fun _ kk => x_tableIn (tgt := 655) hg dL_law_33 (by rw [q13]; decide) (by rw [q13]; decide) (by rw [q13]; rfl) (by decide) kk) (lc_helps hg hrm hV p13 hI hB1 hB2 h1 h2 h3 h4 h5 hloop)
      by_cases q14 : w = 14
      · exact xl_of (fun _ kk => x_tableIn (tgt := 689) hg dL_law_33 (by rw [q14]; decide) (by rw [q14]; decide) (by rw [q14]; rfl) (by decide) kk) (lc_told hg hrm hV p14 hI hB1 hB2 h1 h2 h3 h4 h5 hloop)
      by_cases q15 : w = 15
      · exact xl_of (fun _ kk => x_tableIn (tgt := 722) hg dL_law_33 (by rw [q15]; decide) (by rw [q15]; decide) (by rw [q15]; rfl) (by decide) kk) (lc_bedOf hg hrm hV p15 hI hB1 hB2 h1 h2 h3 h4 h5 hloop)
      by_cases q16 : w = 16
      · exact xl_of (fun _ kk => x_tableIn (tgt := 755) hg dL_law_33 (by rw [q16]; decide) (by rw [q16]; decide) (by rw [q16]; rfl) (by decide) kk) (lc_roofOf hg hrm hV p16 hI hB1 hB2 h1 h2 h3 h4 h5 hloop)
      by_cases q17 : w = 17
      · exact xl_of (fun _ kk => x_tableIn (tgt := 788) hg dL_law_33 (by rw [q17]; decide) (by rw [q17]; decide) (by rw [q17]; rfl) (by decide) kk) (lc_prove hg hrm hV p17 hI hB1 hB2 h1 h2 h3 h4 h5 hloop)
      by_cases q18 : w = 18
      · exact xl_of (fun _ kk => x_tableIn (tgt := 811) hg dL_law_33 (by rw [q18]; decide) (by rw [q18]; decide) (by rw [q18]; rfl) (by decide) kk) (lc_stormOf hg hrm hV p18 hI hB1 hB2 h1 h2 h3 h4 h5 hloop)
      by_cases q19 : w = 19
      · exact xl_of (fun _ kk => x_tableIn (tgt := 845) hg dL_law_33 (by rw [q19]; decide) (by rw [q19]; decide) (by rw [q19]; rfl) (by decide) kk) (lc_compare hg hrm hV p19 hI hB1 hB2 h1 h2 h3 h4 h5 hloop)
      by_cases q20 : w = 20
      · exact xl_of (fun _ kk => x_tableIn (tgt := 879) hg dL_law_33 (by rw [q20]; decide) (by rw [q20]; decide) (by rw [q20]; rfl) (by decide) kk) (lc_crew hg hrm hV p20 hI hB1 hB2 h1 h2 h3 h4 h5 hloop)
      by_cases q21 : w = 21
      · exact xl_of (fun _ kk => x_tableIn (tgt := 912) hg dL_law_33 (by rw [q21]; decide) (by rw [q21]; decide) (by rw [q21]; rfl) (by decide) kk) (lc_neighbour hg hrm hV p21 hI hB1 hB2 h1 h2 h3 h4 h5 hloop)
      by_cases q22 : w = 22
      · exact xl_of (fun _ kk => x_tableIn (tgt := 945) hg dL_law_33 (by rw [q22]; decide) (by rw [q22]; decide) (by rw [q22]; rfl) (by decide) kk) (lc_turn hg hrm hV p22 hI hB1 hB2 h1 h2 h3 h4 h5 hloop)
      by_cases q23 : w = 23
      · exact xl_of (fun _ kk => x_tableIn (tgt := 988) hg dL_law_33 (by rw [q23]; decide) (by rw [q23]; decide) (by rw [q23]; rfl) (by decide) kk) (lc_fee hg hrm hV p23 hI hB1 hB2 h1 h2 h3 h4 h5 hloop)
      by_cases q24 : w = 24
      · exact xl_of (fun _ kk => x_tableIn (tgt := 1021) hg dL_law_33 (by rw [q24]; decide) (by rw [q24]; decide) (by rw [q24]; rfl) (by decide) kk) (lc_look hg hrm hV p24 hI hB1 hB2 h1 h2 h3 h4 h5 hloop)
      by_cases q25 : w = 25
      · exact xl_of (fun _ kk => x_tableIn (tgt := 1054) hg dL_law_33 (by rw [q25]; decide) (by rw [q25]; decide) (by rw [q25]; rfl) (by decide) kk) (lc_worst hg hrm hV p25 hI hB1 hB2 h1 h2 h3 h4 h5 hloop)
      by_cases q26 : w = 26
      · exact xl_of (fun _ kk => x_tableIn (tgt := 1077) hg dL_law_33 (by rw [q26]; decide) (by rw [q26]; decide) (by rw [q26]; rfl) (by decide) kk) (lc_complain hg hrm hV p26 hI hB1 hB2 h1 h2 h3 h4 h5 hloop)
      by_cases q27 : w = 27
      · exact xl_of (fun _ kk => x_tableIn (tgt := 1110) hg dL_law_33 (by rw [q27]; decide) (by rw [q27]; decide) (by rw [q27]; rfl) (by decide) kk) (lc_close hg hrm hV p27 hI hB1 hB2 h1 h2 h3 h4 h5 hloop)
      by_cases q28 : w = 28
      · exact xl_of (fun _ kk => x_tableIn (tgt := 1133) hg dL_law_33 (by rw [q28]; decide) (by rw [q28]; decide) (by rw [q28]; rfl) (by decide) kk) (lc_complaint hg hrm hV p28 hI hB1 hB2 h1 h2 h3 h4 h5 hloop)
      by_cases q29 : w = 29
      · exact xl_of (fun _ kk => x_tableIn (tgt := 1166) hg dL_law_33 (by rw [q29]; decide) (by rw [q29]; decide) (by rw [q29]; rfl) (by decide) kk) (lc_feed hg hrm hV p29 hI hB1 hB2 h1 h2 h3 h4 h5 hloop)
      by_cases q30 : w = 30
      · exact xl_of (fun _ kk => x_tableIn (tgt := 1229) hg dL_law_33 (by rw [q30]; decide) (by rw [q30]; decide) (by rw [q30]; rfl) (by decide) kk) (lc_rules hg hrm hV p30 hI hB1 hB2 h1 h2 h3 h4 h5 hloop)
      by_cases q31 : w = 31
      · exact xl_of (fun _ kk => x_tableIn (tgt := 1252) hg dL_law_33 (by rw [q31]; decide) (by rw [q31]; decide) (by rw [q31]; rfl) (by decide) kk) (lc_fault hg hrm hV p31 hI hB1 hB2 h1 h2 h3 h4 h5 hloop)
      by_cases q32 : w = 32
      · exact xl_of (fun _ kk => x_tableIn (tgt := 1265) hg dL_law_33 (by rw [q32]; decide) (by rw [q32]; decide) (by rw [q32]; rfl) (by decide) kk) (lc_law hg hrm hV p32 hI hB1 hB2 h1 h2 h3 h4 h5 hloop)
      by_cases q33 : w = 33
      · exact xl_of (fun _ kk => x_tableIn (tgt := 1298) hg dL_law_33 (by rw [q33]; decide) (by rw [q33]; decide) (by rw [q33]; rfl) (by decide) kk) (lc_sum hg hrm hV p33 hI hB1 hB2 h1 h2 h3 h4 h5 hloop)
      by_cases q34 : w = 34
      · exact xl_of (fun _ kk => x_tableIn (tgt := 1322) hg dL_law_33 (by rw [q34]; decide) (by rw [q34]; decide) (by rw [q34]; rfl) (by decide) kk) (lc_count hg hrm hV p34 hI hB1 hB2 h1 h2 h3 h4 h5 hloop)
      exact xl_of (fun _ kk => x_tableOut (tgt := 1345) hg dL_law_33 (sw34_out q0 q1 q2 q3 q4 q5 q6 q7 q8 q9 q10 q11 q12 q13 q14 q15 q16 q17 q18 q19 q20 q21 q22 q23 q24 q25 q26 q27 q28 q29 q30 q31 q32 q33 q34) (by decide) kk) (hloop S S2 b hI (by omega) (by omega))
end LW
