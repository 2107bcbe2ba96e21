/-! ===== the second layer: contracts, calls, ends ===== -/
theorem iso_cpR {D : Dg} {S σ : Sg} {ad : Nat → Nat} (h : Iso D S ad σ) {src dst : Nat} (hs : ¬ sK S src = 0) (hd : ¬ sK S dst = 0) (n : Nat) : Iso D (cpR S src dst n) ad (cpR σ (ad src) (ad dst) n) := by
  obtain ⟨h1, h2, hcl, h3⟩ := h
  refine ⟨fun z hz => ?_, h2, fun z hz j r hr => ?_, h3⟩
  · obtain ⟨g1, g2, g3, g4, g5⟩ := h1 z hz
    refine ⟨g1, g2, g3, g4, fun j => ?_⟩
    rw [sR_cpR, sR_cpR]
    by_cases e : z = dst
    · subst e
      by_cases e2 : j < n
      · rw [if_pos ⟨rfl, e2⟩, if_pos ⟨rfl, e2⟩]; exact (h1 src hs).2.2.2.2 j
      · rw [if_neg (fun q => e2 q.2), if_neg (fun q => e2 q.2)]; exact g5 j
    · rw [if_neg (fun q => e (h2 z dst hz hd q.1)), if_neg (fun q => e q.1)]; exact g5 j
  · rw [sR_cpR] at hr
    by_cases e : z = dst ∧ j < n
    · rw [if_pos e] at hr; exact hcl src hs j r hr
    · rw [if_neg e] at hr; exact hcl z hz j r hr
def upm (ad : Nat → Nat) (q q' : Nat) : Nat → Nat := fun z => if q ≤ z ∧ z ≤ q + 10 then q' + (z - q) else ad z
theorem iso_mnw {D : Dg} {S σ : Sg} {ad : Nat → Nat} (h : Iso D S ad σ) {q q' κ κ2 : Nat} (hκ2 : κ2 % 32 = 16) (hq : ∀ i, i ≤ 10 → sK S (q + i) = 0) (h1000 : 1000 ≤ q) (hq' : ∀ i, i ≤ 10 → sK σ (q' + i) = 0) : Iso D (mnw S q κ κ2) (upm ad q q') (mnw σ q' κ κ2) := by
  obtain ⟨h1, h2, hcl, h3, h4, h5, h6⟩ := h
  have hne : ∀ z, ¬ sK S z = 0 → ¬ (q' ≤ ad z ∧ ad z ≤ q' + 10) := fun z hz e => by
    have h := hq' (ad z - q') (by omega)
    rw [show q' + (ad z - q') = ad z by omega, (h1 z hz).1] at h
    exact hz h
  have hin : ∀ z, (q ≤ z ∧ z ≤ q + 10) → sK S z = 0 := fun z hz => by
    have := hq (z - q) (by omega)
    rwa [show q + (z - q) = z by omega] at this
  have hu : ∀ z, ¬ (q ≤ z ∧ z ≤ q + 10) → upm ad q q' z = ad z := fun z hz => by simp only [upm]; rw [if_neg hz]
  have hs : ∀ z, (q ≤ z ∧ z ≤ q + 10) → upm ad q q' z = q' + (z - q) := fun z hz => by simp only [upm]; rw [if_pos hz]
  have hliv : ∀ z, ¬ (q ≤ z ∧ z ≤ q + 10) → ¬ sK (mnw S q κ κ2) z = 0 → ¬ sK S z = 0 := fun z hz h => by rw [(mnw_o S q κ κ2 hz).1] at h; exact h
  refine ⟨fun z hz => ?_, fun z z' hz hz' e => ?_, fun z hz j r hr => ?_, ?_, by rw [hu 1 (by omega)]; exact h4, by rw [hu 3 (by omega)]; exact h5, fun i hi => ⟨by rw [hu _ (by have : nJS = 19 := rfl; omega)]; exact (h6 i hi).1, by rw [hu _ (by have : nJS = 19 := rfl; omega)]; exact (h6 i hi).2⟩⟩
  · by_cases e : q ≤ z ∧ z ≤ q + 10
    · rw [hs z e]
      have e1 : (q' + (z - q) = q') ↔ (z = q) := by omega
      have e2 : (q' < q' + (z - q) ∧ q' + (z - q) ≤ q' + 10) ↔ (q < z ∧ z ≤ q + 10) := by omega
      have e3 : (q' ≤ q' + (z - q) ∧ q' + (z - q) ≤ q' + 10) ↔ (q ≤ z ∧ z ≤ q + 10) := by omega
      have f1 : sK (mnw σ q' κ κ2) (q' + (z - q)) = sK (mnw S q κ κ2) z := by
        by_cases e0 : z = q
        · simp only [sK, mnw]
          rw [if_pos (e1.mpr e0), if_pos e0]
        · simp only [sK, mnw]
          rw [if_neg (fun w => e0 (e1.mp w)), if_neg e0, if_pos (e2.mpr (by omega)), if_pos (by omega)]
      refine ⟨f1, by simp only [sN, mnw, e3, e, and_self, if_true], by simp only [sI, mnw, e3, e, and_self, if_true], by simp only [sL, mnw, e3, e, and_self, if_true], fun j => ?_⟩
      by_cases e0 : z = q
      · subst e0
        simp only [sR, mnw, if_true, Nat.sub_self, Nat.add_zero]
        by_cases hj : j < 10
        · rw [if_pos hj, if_pos hj]
          show some _ = some _
          rw [hs _ (by omega)]
          congr 1
          omega
        · rw [if_neg hj, if_neg hj]; rfl
      · have f0 : ¬ (q' + (z - q) = q') := fun w => e0 (e1.mp w)
        have f2 : q < z ∧ z ≤ q + 10 := by omega
        simp only [sR, mnw]
        rw [if_neg f0, if_neg e0, if_pos (e2.mpr f2), if_pos f2]
        rfl
    · have hl := hliv z e hz
      obtain ⟨g1, g2, g3, g4, g5⟩ := h1 z hl
      have hn := hne z hl
      rw [hu z e]
      obtain ⟨a1, a2, a3, a4, a5⟩ := mnw_o S q κ κ2 e
      obtain ⟨b1, b2, b3, b4, b5⟩ := mnw_o σ q' κ κ2 hn
      rw [a1, a2, a3, a4, a5, b1, b2, b3, b4, b5]
      refine ⟨g1, g2, g3, g4, fun j => ?_⟩
      rw [g5]
      cases hr : sR S z j with
      | none => rfl
      | some r =>
        show some (ad r) = some (upm ad q q' r)
        rw [hu r (fun e2 => by
          rcases hcl z hl j r hr with y | y
          · exact y (hin r e2)
          · omega)]
  · by_cases e1 : q ≤ z ∧ z ≤ q + 10
    · by_cases e2 : q ≤ z' ∧ z' ≤ q + 10
      · rw [hs z e1, hs z' e2] at e; omega
      · rw [hs z e1, hu z' e2] at e
        exact absurd (by omega) (hne z' (hliv z' e2 hz'))
    · by_cases e2 : q ≤ z' ∧ z' ≤ q + 10
      · rw [hs z' e2, hu z e1] at e
        exact absurd (by omega) (hne z (hliv z e1 hz))
      · rw [hu z e1, hu z' e2] at e
        exact h2 z z' (hliv z e1 hz) (hliv z' e2 hz') e
  · by_cases e : q ≤ z ∧ z ≤ q + 10
    · by_cases e0 : z = q
      · subst e0
        simp only [sR, mnw, if_true] at hr
        by_cases hj : j < 10
        · rw [if_pos hj] at hr
          cases hr
          refine Or.inl ?_
          have hi := mnw_r S z κ κ2 hj
          rw [hi.1]
          omega
        · rw [if_neg hj] at hr; cases hr
      · simp only [sR, mnw] at hr
        rw [if_neg e0, if_pos (by omega)] at hr
        cases hr
    · rw [(mnw_o S q κ κ2 e).2.2.2.2] at hr
      rcases hcl z (hliv z e hz) j r hr with y | y
      · refine Or.inl ?_
        rw [(mnw_o S q κ κ2 (fun e2 => y (hin r e2))).1]
        exact y
      · exact Or.inr y
  · rw [(mnw_o S q κ κ2 (by omega)).1]; exact h3
def RN : Sg → (Nat → Nat) → (Nat → Nat) → Prop := fun _ ad ad' => ad' = ad
def RA : Sg → (Nat → Nat) → (Nat → Nat) → Prop := fun S ad ad' => ∀ z, rlv S z → ad' z = ad z
def CtrY {ρ : Type} (R : Sg → (Nat → Nat) → (Nat → Nat) → Prop) (l : Launch) (D : Dg) (y : MethodName) (bytes : ByteArray) (maxL : Nat) (ret : Option FieldType) (fr lo : Nat) (mk : ρ → Option Value) (av : List Value) (S : Sg) (b : Nat × Nat) (QA : ρ → Sg → Prop) : Prop :=
  ∀ (ad : Nat → Nat) (σ : Sg), Iso D S ad σ → Ctr l D y bytes maxL ret fr lo mk (av.map (cv ad)) σ b (fun r σ' => ∃ (r' : ρ) (S' : Sg) (ad' : Nat → Nat), R S ad ad' ∧ mk r = (mk r').map (cv ad') ∧ QA r' S' ∧ Iso D S' ad' σ' ∧ ∀ h, ¬ sK S h = 0 → sK S' h = sK S h)
def EndY {ρ : Type} (g : Ga) (cc : ByteArray) (ret : Option FieldType) (mk : ρ → Option Value) (QA : ρ → Sg → Prop) : Prop := EndG g.1 cc ret mk (fun r σ' => ∃ (r' : ρ) (S' : Sg) (ad' : Nat → Nat), g.2.1 ad' ∧ mk r = (mk r').map (cv ad') ∧ QA r' S' ∧ Iso (gD g.1) S' ad' σ' ∧ ∀ h, ¬ g.2.2 h = 0 → sK S' h = g.2.2 h)
section YE
variable {g : Ga} {cc : ByteArray} {own : String} {pc : Nat} {lv : List (Nat × Value)} {rest st : List Value} {S S1 : Sg} {b bc : Nat × Nat} {idx c n a q κ κ2 N w : Nat} {x : Option Nat} {rm : Room}
theorem yEndI {ty : FieldType} {QA : Int32 → Sg → Prop} (h : EndY g cc (some ty) mkI QA) {x : Int32} (hn : narrow ty (.int x) = .int x) (d : decode cc pc = .ok (.ireturn, 1)) (q : QA x S) : XA g pc lv [.int x] S b := fun ad _ h1 h2 h3 => endI h hn d ⟨x, S, ad, h1, rfl, q, h3, h2⟩
theorem yEndL {QA : Int64 → Sg → Prop} (h : EndY g cc (some .long) mkL QA) {x : Int64} (d : decode cc pc = .ok (.lreturn, 1)) (q : QA x S) : XA g pc lv [.long x] S b := fun ad _ h1 h2 h3 => endL h d ⟨x, S, ad, h1, rfl, q, h3, h2⟩
theorem yEndR {ty : FieldType} {QA : Option Nat → Sg → Prop} (h : EndY g cc (some ty) mkR QA) (ht : tgT ty = 2) {x : Option Nat} (d : decode cc pc = .ok (.areturn, 1)) (q : QA x S) : XA g pc lv [va_rf x] S b := fun ad _ h1 h2 h3 => by
  show XJ g.1 pc (lvm ad lv) [cv ad (va_rf x)] _ b
  rw [cv_rf]
  exact endR h ht d ⟨x, S, ad, h1, by show some _ = some _; rw [cv_rf], q, h3, h2⟩
theorem yEndV {QA : Unit → Sg → Prop} (h : EndY g cc none mkV QA) (d : decode cc pc = .ok (.return_, 1)) (q : QA () S) : XA g pc lv [] S b := fun ad _ h1 h2 h3 => endV h d ⟨(), S, ad, h1, rfl, q, h3, h2⟩
theorem kp {σ σ1 : Sg} (hk : ∀ h, ¬ sK σ h = 0 → sK σ1 h = sK σ h) (hc : ¬ c = 0) (h : sK σ a % 32 = c) : sK σ1 a % 32 = c := by
  rw [hk a (fun z => by rw [z] at h; exact hc h.symm)]; exact h
theorem lv_k {t : Option Nat} (ht : t = some a) (hk : sK S a % 32 = c) (hc : ¬ c = 0) : ∀ z, t = some z → rlv S z := fun z hz => by
  rw [ht] at hz
  cases hz
  exact Or.inl (fun q => by rw [q] at hk; exact hc hk.symm)
theorem lv_n : ∀ z, (none : Option Nat) = some z → rlv S z := fun _ e => nomatch e
theorem lv_s (hw : w < 1000) : ∀ z, some w = some z → rlv S z := fun z e => by cases e; exact Or.inr hw
theorem lv_p {t : Option Nat} (hl : ∀ z, t = some z → ¬ sK S z = 0) : ∀ z, t = some z → rlv S z := fun z e => Or.inl (hl z e)
theorem y_alc2 (hal : AllG g) (hlv : rll S lv) (hrs : rl S rest) {S' σ' : Sg} {ad ad' : Nat → Nat} (h1 : g.2.1 ad) (h2 : ∀ h, ¬ g.2.2 h = 0 → sK S h = g.2.2 h) (hag : ∀ z, rlv S z → ad' z = ad z) (h2' : ∀ h, ¬ g.2.2 h = 0 → sK S' h = g.2.2 h) (hI : Iso (gD g.1) S' ad' σ') {top : List Value} (kk : XA g pc lv (top ++ rest) S' b) : XJ g.1 pc (lvm ad lv) (top.map (cv ad') ++ rest.map (cv ad)) σ' b := by
  have hk := kk ad' σ' (hal ad _ h1 (fun z hz => hag z (by
    rcases hz with y | y
    · exact Or.inl (by rw [h2 z y]; exact y)
    · exact Or.inr y))) h2' hI
  rw [lvm_rl hlv hag] at hk
  rw [List.map_append, map_rl hrs hag] at hk
  exact hk
theorem y_mna (hg : GoodG g.1 cc RX10) (hal : AllG g) (hκ : κ % 32 = 21) (hκ2 : κ2 % 32 = 16) (h1 : 11 ≤ b.1) (h2 : 110 ≤ b.2) (hq : ∀ i, i ≤ 10 → sK S (q + i) = 0) (h1000 : 1000 ≤ q) (hlv : rll S lv) (hrs : rl S rest) (d : decode cc pc = .ok (.multianewarray 61 2, 4)) (kk : XA g (pc + 4) lv (va_rf (some q) :: rest) (mnw S q κ κ2) (b.1 - 11, b.2 - 110)) : XA g pc lv (.int 10 :: .int 10 :: rest) S b :=
  fun ad σ z1 z2 z3 => x_mna hg hκ hκ2 h1 h2 d (fun q' hq' => by
    have hI := iso_mnw (κ := κ) (κ2 := κ2) z3 hκ2 hq h1000 hq'
    have hin : ∀ z, (q ≤ z ∧ z ≤ q + 10) → sK S z = 0 := fun z hz => by
      have := hq (z - q) (by omega)
      rwa [show q + (z - q) = z by omega] at this
    have := y_alc2 (top := [va_rf (some q)]) hal hlv hrs z1 z2 (fun z hz => by
      simp only [upm]
      rw [if_neg (fun e => by
        rcases hz with y | y
        · exact y (hin z e)
        · omega)]) (fun h hh => by
        rw [(mnw_o S q κ κ2 (fun e => by have := z2 h hh; rw [hin h e] at this; exact hh this.symm)).1]
        exact z2 h hh) hI kk
    have e : cv (upm ad q q') (va_rf (some q)) = va_rf (some q') := by
      show Value.ref _ = Value.ref _
      simp only [upm]
      rw [if_pos (by omega), Nat.sub_self, Nat.add_zero]
    rw [List.map_cons, e] at this
    exact this)
theorem y_copyq (hg : GoodG g.1 cc own) {src dst : Nat} {n : Int32} (hl : Cond.methodLink own idx arraycopyName ∈ AW) (h2 : Cond.native arraycopyName ∈ AW) (h3 : Cond.static arraycopyName ∈ AW) (h4 : Cond.initialized "java/lang/System" ∈ AW) (hk1 : sK S src % 32 = 20) (hk2 : sK S dst % 32 = 20) (hn : ¬ n < 0) (hn1 : n.toNatClampNeg ≤ sN S src) (hn2 : n.toNatClampNeg ≤ sN S dst) (hel : ∀ i, i < n.toNatClampNeg → ∀ y, sR S src i = some y → 1 ≤ sK S y % 32 ∧ sK S y % 32 ≤ 13) (hW : (rest.map fun v => v.category).sum ≤ 8) (hrm : gR g.1 = rm) (hRm : 1 ≤ rm.frames ∧ 40 ≤ rm.locals) (d : decode cc pc = .ok (.invokestatic idx, 3)) (kk : XA g (pc + 3) lv rest (cpR S src dst n.toNatClampNeg) b) : XA g pc lv (.int n :: .int 0 :: va_rf (some dst) :: .int 0 :: va_rf (some src) :: rest) S b := by
  intro ad σ z1 z2 z3
  have l1 := live_of hk1 (by omega)
  have l2 := live_of hk2 (by omega)
  obtain ⟨g1, g2, -, -, g5⟩ := z3.1 src l1
  obtain ⟨k1, k2, -, -, -⟩ := z3.1 dst l2
  exact x_copyq (src := ad src) (dst := ad dst) hg hl h2 h3 h4 (by rw [g1]; exact hk1) (by rw [k1]; exact hk2) hn (by rw [g2]; exact hn1) (by rw [k2]; exact hn2) (fun i hi y hy => by
    rw [g5] at hy
    cases hr : sR S src i with
    | none => rw [hr] at hy; cases hy
    | some z =>
      rw [hr] at hy
      cases hy
      obtain ⟨e1, e2⟩ := hel i hi z hr
      rw [(z3.1 z (fun q => by rw [q] at e1; omega)).1]
      exact ⟨e1, e2⟩) (by rw [sum_cv]; exact hW) hrm hRm d (kk ad _ z1 z2 (iso_cpR z3 l1 l2 _))
variable {ρ : Type} {l : Launch} {D : Dg} {y : MethodName} {bytes : ByteArray} {maxL : Nat} {ret : Option FieldType} {fr lo : Nat} {mk : ρ → Option Value} {As av : List Value} {QA : ρ → Sg → Prop}
theorem y_ctrN (hp : plainName y.cls = true) (hlen : (lg_sl av).length ≤ maxL) (hlv : lv_args 0 av = lv)
    (body : ∀ g : Ga, GoodG g.1 bytes y.cls → gL g.1 = l → gD g.1 = D → gR g.1 = { frames := fr, cells := b.1, slots := b.2, locals := lo } → gN g.1 = maxL → gI g.1 = y.name → EndY g bytes ret mk QA → XA g 0 lv [] S b) : CtrY RN l D y bytes maxL ret fr lo mk av S b QA := fun ad σ hI =>
  ctr_of (lv := lvm ad lv) hp (by rw [sl_len]; exact hlen) (by rw [lvm_args, hlv]) (fun g0 hg hL hD hR hN hi hend => by
    subst hD
    exact body (g0, RN S ad, sK S) hg hL rfl hR hN hi hend ad σ rfl (fun _ _ => rfl) hI)
theorem y_ctrA (hp : plainName y.cls = true) (hlen : (lg_sl av).length ≤ maxL) (hlv : lv_args 0 av = lv)
    (body : ∀ g : Ga, GoodG g.1 bytes y.cls → gL g.1 = l → gD g.1 = D → gR g.1 = { frames := fr, cells := b.1, slots := b.2, locals := lo } → gN g.1 = maxL → gI g.1 = y.name → EndY g bytes ret mk QA → AllG g → XA g 0 lv [] S b) : CtrY RA l D y bytes maxL ret fr lo mk av S b QA := fun ad σ hI =>
  ctr_of (lv := lvm ad lv) hp (by rw [sl_len]; exact hlen) (by rw [lvm_args, hlv]) (fun g0 hg hL hD hR hN hi hend => by
    subst hD
    exact body (g0, RA S ad, sK S) hg hL rfl hR hN hi hend (fun ad1 ad2 k1 k2 z hz => by
      rw [k2 z hz]; exact k1 z hz) ad σ (fun _ _ => rfl) (fun _ _ => rfl) hI)
theorem y_pN {S : Sg} {σ' : Sg} {ad : Nat → Nat} {r : ρ} (z1 : g.2.1 ad) (z2 : ∀ h, ¬ g.2.2 h = 0 → sK S h = g.2.2 h) (hq : ∃ (r' : ρ) (S' : Sg) (ad' : Nat → Nat), RN S ad ad' ∧ mk r = (mk r').map (cv ad') ∧ QA r' S' ∧ Iso (gD g.1) S' ad' σ' ∧ ∀ h, ¬ sK S h = 0 → sK S' h = sK S h) (kk : ∀ (r : ρ) (S' : Sg), QA r S' → (∀ h, ¬ sK S h = 0 → sK S' h = sK S h) → XA g pc lv ((mk r).toList ++ rest) S' b) : XJ g.1 pc (lvm ad lv) ((mk r).toList ++ rest.map (cv ad)) σ' b := by
  obtain ⟨r', S', ad', e, hr, hq', hI, hk⟩ := hq
  cases e
  have := kk r' S' hq' hk ad σ' z1 (fun h hh => by rw [hk h (by rw [z2 h hh]; exact hh)]; exact z2 h hh) hI
  rw [List.map_append] at this
  rw [hr]
  cases hm : mk r' <;> (rw [hm] at this; exact this)
theorem y_pA {S : Sg} {σ' : Sg} {ad : Nat → Nat} {r : ρ} (hal : AllG g) (hlv : rll S lv) (hrs : rl S rest) (z1 : g.2.1 ad) (z2 : ∀ h, ¬ g.2.2 h = 0 → sK S h = g.2.2 h) (hq : ∃ (r' : ρ) (S' : Sg) (ad' : Nat → Nat), RA S ad ad' ∧ mk r = (mk r').map (cv ad') ∧ QA r' S' ∧ Iso (gD g.1) S' ad' σ' ∧ ∀ h, ¬ sK S h = 0 → sK S' h = sK S h) (kk : ∀ (r : ρ) (S' : Sg), QA r S' → (∀ h, ¬ sK S h = 0 → sK S' h = sK S h) → XA g pc lv ((mk r).toList ++ rest) S' b) : XJ g.1 pc (lvm ad lv) ((mk r).toList ++ rest.map (cv ad)) σ' b := by
  obtain ⟨r', S', ad', e, hr, hq', hI, hk⟩ := hq
  have := y_alc2 (top := (mk r').toList) hal hlv hrs z1 z2 e (fun h hh => by rw [hk h (by rw [z2 h hh]; exact hh)]; exact z2 h hh) hI (kk r' S' hq' hk)
  rw [hr]
  cases hm : mk r' <;> (rw [hm] at this; exact this)
theorem st_map {ad : Nat → Nat} : (As.reverse ++ va_rf (some a) :: rest).map (cv ad) = (As.map (cv ad)).reverse ++ va_rf (some (ad a)) :: rest.map (cv ad) := by
  rw [List.map_append, List.map_reverse, List.map_cons]; rfl
theorem st_map2 {ad : Nat → Nat} : (As.reverse ++ rest).map (cv ad) = (As.map (cv ad)).reverse ++ rest.map (cv ad) := by
  rw [List.map_append, List.map_reverse]
theorem y_callVN (hg : GoodG g.1 cc own) (hC : CtrY RN (gL g.1) (gD g.1) y bytes maxL ret fr lo mk (.ref a :: As) S (0, 0) QA) (hL : LV own idx y c bytes maxL ret n) (hx : x = some a) (hk : sK S a % 32 = c) (hn : As.length = n) (hst : st = As.reverse ++ va_rf x :: rest) (d : decode cc pc = .ok (.invokevirtual idx, 3)) (hW : (rest.map fun v => v.category).sum ≤ 8) (hrm : gR g.1 = rm) (hRm : fr + 1 ≤ rm.frames ∧ 8 + (maxL + 11) + lo ≤ rm.locals) (kk : ∀ (r : ρ) (S' : Sg), QA r S' → (∀ h, ¬ sK S h = 0 → sK S' h = sK S h) → XA g (pc + 3) lv ((mk r).toList ++ rest) S' b) : XA g pc lv st S b := by
  subst hx hst
  intro ad σ z1 z2 z3
  obtain ⟨g1, -⟩ := z3.1 a (live_of hk hL.2.2.2.2.1)
  rw [st_map]
  exact x_callV (b := b) hg (hC ad σ z3) hL rfl (by rw [g1]; exact hk) (by rw [List.length_map]; exact hn) rfl d (by rw [sum_cv]; exact hW) hrm hRm (Nat.zero_le _) (Nat.zero_le _) (fun r σ' hq => y_pN z1 z2 hq kk)
theorem y_callVA (hg : GoodG g.1 cc own) (hal : AllG g) (hC : CtrY RA (gL g.1) (gD g.1) y bytes maxL ret fr lo mk (.ref a :: As) S bc QA) (hL : LV own idx y c bytes maxL ret n) (hx : x = some a) (hk : sK S a % 32 = c) (hn : As.length = n) (hst : st = As.reverse ++ va_rf x :: rest) (d : decode cc pc = .ok (.invokevirtual idx, 3)) (hW : (rest.map fun v => v.category).sum ≤ 8) (hrm : gR g.1 = rm) (hRm : fr + 1 ≤ rm.frames ∧ 8 + (maxL + 11) + lo ≤ rm.locals) (hb1 : bc.1 ≤ b.1) (hb2 : bc.2 ≤ b.2) (hlv : rll S lv) (hrs : rl S rest) (kk : ∀ (r : ρ) (S' : Sg), QA r S' → (∀ h, ¬ sK S h = 0 → sK S' h = sK S h) → XA g (pc + 3) lv ((mk r).toList ++ rest) S' (b.1 - bc.1, b.2 - bc.2)) : XA g pc lv st S b := by
  subst hx hst
  intro ad σ z1 z2 z3
  obtain ⟨g1, -⟩ := z3.1 a (live_of hk hL.2.2.2.2.1)
  rw [st_map]
  exact x_callV (b := b) hg (hC ad σ z3) hL rfl (by rw [g1]; exact hk) (by rw [List.length_map]; exact hn) rfl d (by rw [sum_cv]; exact hW) hrm hRm hb1 hb2 (fun r σ' hq => y_pA hal hlv hrs z1 z2 hq kk)
theorem y_callSN (hg : GoodG g.1 cc own) (hC : CtrY RN (gL g.1) (gD g.1) y bytes maxL ret fr lo mk As S (0, 0) QA) (hL : LS' own idx y bytes maxL ret n) (hn : As.length = n) (hst : st = As.reverse ++ rest) (d : decode cc pc = .ok (.invokestatic idx, 3)) (hW : (rest.map fun v => v.category).sum ≤ 8) (hrm : gR g.1 = rm) (hRm : fr + 1 ≤ rm.frames ∧ 8 + (maxL + 11) + lo ≤ rm.locals) (kk : ∀ (r : ρ) (S' : Sg), QA r S' → (∀ h, ¬ sK S h = 0 → sK S' h = sK S h) → XA g (pc + 3) lv ((mk r).toList ++ rest) S' b) : XA g pc lv st S b := by
  subst hst
  intro ad σ z1 z2 z3
  rw [st_map2]
  exact x_callS (b := b) hg (hC ad σ z3) hL (by rw [List.length_map]; exact hn) rfl d (by rw [sum_cv]; exact hW) hrm hRm (Nat.zero_le _) (Nat.zero_le _) (fun r σ' hq => y_pN z1 z2 hq kk)
theorem y_callSA (hg : GoodG g.1 cc own) (hal : AllG g) (hC : CtrY RA (gL g.1) (gD g.1) y bytes maxL ret fr lo mk As S bc QA) (hL : LS' own idx y bytes maxL ret n) (hn : As.length = n) (hst : st = As.reverse ++ rest) (d : decode cc pc = .ok (.invokestatic idx, 3)) (hW : (rest.map fun v => v.category).sum ≤ 8) (hrm : gR g.1 = rm) (hRm : fr + 1 ≤ rm.frames ∧ 8 + (maxL + 11) + lo ≤ rm.locals) (hb1 : bc.1 ≤ b.1) (hb2 : bc.2 ≤ b.2) (hlv : rll S lv) (hrs : rl S rest) (kk : ∀ (r : ρ) (S' : Sg), QA r S' → (∀ h, ¬ sK S h = 0 → sK S' h = sK S h) → XA g (pc + 3) lv ((mk r).toList ++ rest) S' (b.1 - bc.1, b.2 - bc.2)) : XA g pc lv st S b := by
  subst hst
  intro ad σ z1 z2 z3
  rw [st_map2]
  exact x_callS (b := b) hg (hC ad σ z3) hL (by rw [List.length_map]; exact hn) rfl d (by rw [sum_cv]; exact hW) hrm hRm hb1 hb2 (fun r σ' hq => y_pA hal hlv hrs z1 z2 hq kk)
theorem y_callSNN (hg : GoodG g.1 cc own) (hC : CtrY RN (gL g.1) (gD g.1) y bytes maxL ret fr lo mk As S (0, 0) QA) (hL : LSN own idx y bytes maxL ret n) (hn : As.length = n) (hst : st = As.reverse ++ rest) (d : decode cc pc = .ok (.invokestatic idx, 3)) (hW : (rest.map fun v => v.category).sum ≤ 8) (hrm : gR g.1 = rm) (hRm : fr + 1 ≤ rm.frames ∧ 8 + (maxL + 11) + lo ≤ rm.locals) (kk : ∀ (r : ρ) (S' : Sg), QA r S' → (∀ h, ¬ sK S h = 0 → sK S' h = sK S h) → XA g (pc + 3) lv ((mk r).toList ++ rest) S' b) : XA g pc lv st S b := by
  subst hst
  intro ad σ z1 z2 z3
  rw [st_map2]
  exact x_callSN (b := b) hg (hC ad σ z3) hL (by rw [List.length_map]; exact hn) rfl d (by rw [sum_cv]; exact hW) hrm hRm (Nat.zero_le _) (Nat.zero_le _) (fun r σ' hq => y_pN z1 z2 hq kk)
theorem y_callSNA (hg : GoodG g.1 cc own) (hal : AllG g) (hC : CtrY RA (gL g.1) (gD g.1) y bytes maxL ret fr lo mk As S bc QA) (hL : LSN own idx y bytes maxL ret n) (hn : As.length = n) (hst : st = As.reverse ++ rest) (d : decode cc pc = .ok (.invokestatic idx, 3)) (hW : (rest.map fun v => v.category).sum ≤ 8) (hrm : gR g.1 = rm) (hRm : fr + 1 ≤ rm.frames ∧ 8 + (maxL + 11) + lo ≤ rm.locals) (hb1 : bc.1 ≤ b.1) (hb2 : bc.2 ≤ b.2) (hlv : rll S lv) (hrs : rl S rest) (kk : ∀ (r : ρ) (S' : Sg), QA r S' → (∀ h, ¬ sK S h = 0 → sK S' h = sK S h) → XA g (pc + 3) lv ((mk r).toList ++ rest) S' (b.1 - bc.1, b.2 - bc.2)) : XA g pc lv st S b := by
  subst hst
  intro ad σ z1 z2 z3
  rw [st_map2]
  exact x_callSN (b := b) hg (hC ad σ z3) hL (by rw [List.length_map]; exact hn) rfl d (by rw [sum_cv]; exact hW) hrm hRm hb1 hb2 (fun r σ' hq => y_pA hal hlv hrs z1 z2 hq kk)
theorem y_callIN (hg : GoodG g.1 cc own) (hC : CtrY RN (gL g.1) (gD g.1) y bytes maxL none fr lo mk (.ref a :: As) S (0, 0) QA) (hL : LI own idx y bytes maxL n) (hx : x = some a) (hn : As.length = n) (hst : st = As.reverse ++ va_rf x :: rest) (d : decode cc pc = .ok (.invokespecial idx, 3)) (hW : (rest.map fun v => v.category).sum ≤ 8) (hrm : gR g.1 = rm) (hRm : fr + 1 ≤ rm.frames ∧ 8 + (maxL + 11) + lo ≤ rm.locals) (kk : ∀ (r : ρ) (S' : Sg), QA r S' → (∀ h, ¬ sK S h = 0 → sK S' h = sK S h) → XA g (pc + 3) lv ((mk r).toList ++ rest) S' b) : XA g pc lv st S b := by
  subst hx hst
  intro ad σ z1 z2 z3
  rw [st_map]
  exact x_callI (b := b) hg (hC ad σ z3) hL rfl (by rw [List.length_map]; exact hn) rfl d (by rw [sum_cv]; exact hW) hrm hRm (Nat.zero_le _) (Nat.zero_le _) (fun r σ' hq => y_pN z1 z2 hq kk)
theorem y_callIA (hg : GoodG g.1 cc own) (hal : AllG g) (hC : CtrY RA (gL g.1) (gD g.1) y bytes maxL none fr lo mk (.ref a :: As) S bc QA) (hL : LI own idx y bytes maxL n) (hx : x = some a) (hn : As.length = n) (hst : st = As.reverse ++ va_rf x :: rest) (d : decode cc pc = .ok (.invokespecial idx, 3)) (hW : (rest.map fun v => v.category).sum ≤ 8) (hrm : gR g.1 = rm) (hRm : fr + 1 ≤ rm.frames ∧ 8 + (maxL + 11) + lo ≤ rm.locals) (hb1 : bc.1 ≤ b.1) (hb2 : bc.2 ≤ b.2) (hlv : rll S lv) (hrs : rl S rest) (kk : ∀ (r : ρ) (S' : Sg), QA r S' → (∀ h, ¬ sK S h = 0 → sK S' h = sK S h) → XA g (pc + 3) lv ((mk r).toList ++ rest) S' (b.1 - bc.1, b.2 - bc.2)) : XA g pc lv st S b := by
  subst hx hst
  intro ad σ z1 z2 z3
  rw [st_map]
  exact x_callI (b := b) hg (hC ad σ z3) hL rfl (by rw [List.length_map]; exact hn) rfl d (by rw [sum_cv]; exact hW) hrm hRm hb1 hb2 (fun r σ' hq => y_pA hal hlv hrs z1 z2 hq kk)
theorem y_callINN (hg : GoodG g.1 cc own) (hC : CtrY RN (gL g.1) (gD g.1) y bytes maxL none fr lo mk (.ref a :: As) S (0, 0) QA) (hL : LIN own idx y bytes maxL n) (hx : x = some a) (hn : As.length = n) (hst : st = As.reverse ++ va_rf x :: rest) (d : decode cc pc = .ok (.invokespecial idx, 3)) (hW : (rest.map fun v => v.category).sum ≤ 8) (hrm : gR g.1 = rm) (hRm : fr + 1 ≤ rm.frames ∧ 8 + (maxL + 11) + lo ≤ rm.locals) (kk : ∀ (r : ρ) (S' : Sg), QA r S' → (∀ h, ¬ sK S h = 0 → sK S' h = sK S h) → XA g (pc + 3) lv ((mk r).toList ++ rest) S' b) : XA g pc lv st S b := by
  subst hx hst
  intro ad σ z1 z2 z3
  rw [st_map]
  exact x_callIN (b := b) hg (hC ad σ z3) hL rfl (by rw [List.length_map]; exact hn) rfl d (by rw [sum_cv]; exact hW) hrm hRm (Nat.zero_le _) (Nat.zero_le _) (fun r σ' hq => y_pN z1 z2 hq kk)
theorem y_callINA (hg : GoodG g.1 cc own) (hal : AllG g) (hC : CtrY RA (gL g.1) (gD g.1) y bytes maxL none fr lo mk (.ref a :: As) S bc QA) (hL : LIN own idx y bytes maxL n) (hx : x = some a) (hn : As.length = n) (hst : st = As.reverse ++ va_rf x :: rest) (d : decode cc pc = .ok (.invokespecial idx, 3)) (hW : (rest.map fun v => v.category).sum ≤ 8) (hrm : gR g.1 = rm) (hRm : fr + 1 ≤ rm.frames ∧ 8 + (maxL + 11) + lo ≤ rm.locals) (hb1 : bc.1 ≤ b.1) (hb2 : bc.2 ≤ b.2) (hlv : rll S lv) (hrs : rl S rest) (kk : ∀ (r : ρ) (S' : Sg), QA r S' → (∀ h, ¬ sK S h = 0 → sK S' h = sK S h) → XA g (pc + 3) lv ((mk r).toList ++ rest) S' (b.1 - bc.1, b.2 - bc.2)) : XA g pc lv st S b := by
  subst hx hst
  intro ad σ z1 z2 z3
  rw [st_map]
  exact x_callIN (b := b) hg (hC ad σ z3) hL rfl (by rw [List.length_map]; exact hn) rfl d (by rw [sum_cv]; exact hW) hrm hRm hb1 hb2 (fun r σ' hq => y_pA hal hlv hrs z1 z2 hq kk)
theorem yTIP (hg : GoodG g.1 cc own) {Qp : Int32 → Prop} (hC : ∀ σ : Sg, Ctr (gL g.1) (gD g.1) y bytes maxL ret fr lo mkI (.ref (adS (gD g.1) w) :: As) σ (0, 0) (fun r σ2 => Qp r ∧ σ2 = σ)) (hL : LT own idx y bytes maxL ret n) (hi : w < nJS) (hn : As.length = n) (hA : ∀ ad, As.map (cv ad) = As) (hst : st = As.reverse ++ .ref (100 + w) :: rest) (d : decode cc pc = .ok (.invokevirtual idx, 3)) (hW : (rest.map fun v => v.category).sum ≤ 8) (hrm : gR g.1 = rm) (hRm : fr + 1 ≤ rm.frames ∧ 8 + (maxL + 11) + lo ≤ rm.locals) (kk : ∀ r : Int32, Qp r → XA g (pc + 3) lv (.int r :: rest) S b) : XA g pc lv st S b := by
  subst hst
  intro ad σ z1 z2 z3
  have e : (As.reverse ++ Value.ref (100 + w) :: rest).map (cv ad) = As.reverse ++ .ref (adS (gD g.1) w) :: rest.map (cv ad) := by
    rw [List.map_append, List.map_reverse, hA ad, List.map_cons]
    show _ ++ Value.ref (ad (100 + w)) :: _ = _
    rw [(z3.2.2.2.2.2.2 w hi).1]
  rw [e]
  exact xTIP (b := b) hg (hC σ) hL hi hn rfl d (by rw [sum_cv]; exact hW) hrm hRm (fun r hq => kk r hq ad σ z1 z2 z3)
theorem yVIP (hg : GoodG g.1 cc own) {Qp : Int32 → Prop} (hC : CtrY RN (gL g.1) (gD g.1) y bytes maxL ret fr lo mkI (.ref a :: As) S (0, 0) (fun r S2 => Qp r ∧ S2 = S)) (hL : LV own idx y c bytes maxL ret n) (hx : x = some a) (hk : sK S a % 32 = c) (hn : As.length = n) (hst : st = As.reverse ++ va_rf x :: rest) (d : decode cc pc = .ok (.invokevirtual idx, 3)) (hW : (rest.map fun v => v.category).sum ≤ 8) (hrm : gR g.1 = rm) (hRm : fr + 1 ≤ rm.frames ∧ 8 + (maxL + 11) + lo ≤ rm.locals) (kk : ∀ r : Int32, Qp r → XA g (pc + 3) lv (.int r :: rest) S b) : XA g pc lv st S b := y_callVN (b := b) hg hC hL hx hk hn hst d hW hrm hRm (fun r S2 h _ => by obtain ⟨h, e⟩ := h; subst e; exact kk r h)
theorem yVIW (hg : GoodG g.1 cc own) {Qm : Int32 → Sg → Prop} (hC : CtrY RN (gL g.1) (gD g.1) y bytes maxL ret fr lo mkI (.ref a :: As) S (0, 0) Qm) (hL : LV own idx y c bytes maxL ret n) (hx : x = some a) (hk : sK S a % 32 = c) (hn : As.length = n) (hst : st = As.reverse ++ va_rf x :: rest) (d : decode cc pc = .ok (.invokevirtual idx, 3)) (hW : (rest.map fun v => v.category).sum ≤ 8) (hrm : gR g.1 = rm) (hRm : fr + 1 ≤ rm.frames ∧ 8 + (maxL + 11) + lo ≤ rm.locals) (kk : ∀ (r : Int32) (S2 : Sg), Qm r S2 → (∀ h, ¬ sK S h = 0 → sK S2 h = sK S h) → XA g (pc + 3) lv (.int r :: rest) S2 b) : XA g pc lv st S b := y_callVN (b := b) hg hC hL hx hk hn hst d hW hrm hRm kk
theorem yVIA (hg : GoodG g.1 cc own) (hal : AllG g) {Qm : Int32 → Sg → Prop} (hC : CtrY RA (gL g.1) (gD g.1) y bytes maxL ret fr lo mkI (.ref a :: As) S bc Qm) (hL : LV own idx y c bytes maxL ret n) (hx : x = some a) (hk : sK S a % 32 = c) (hn : As.length = n) (hst : st = As.reverse ++ va_rf x :: rest) (d : decode cc pc = .ok (.invokevirtual idx, 3)) (hW : (rest.map fun v => v.category).sum ≤ 8) (hrm : gR g.1 = rm) (hRm : fr + 1 ≤ rm.frames ∧ 8 + (maxL + 11) + lo ≤ rm.locals) (hb1 : bc.1 ≤ b.1) (hb2 : bc.2 ≤ b.2) (hlv : rll S lv) (hrs : rl S rest) (kk : ∀ (r : Int32) (S2 : Sg), Qm r S2 → (∀ h, ¬ sK S h = 0 → sK S2 h = sK S h) → XA g (pc + 3) lv (.int r :: rest) S2 (b.1 - bc.1, b.2 - bc.2)) : XA g pc lv st S b := y_callVA (b := b) hg hal hC hL hx hk hn hst d hW hrm hRm hb1 hb2 hlv hrs kk
theorem yVLP (hg : GoodG g.1 cc own) {Qp : Int64 → Prop} (hC : CtrY RN (gL g.1) (gD g.1) y bytes maxL ret fr lo mkL (.ref a :: As) S (0, 0) (fun r S2 => Qp r ∧ S2 = S)) (hL : LV own idx y c bytes maxL ret n) (hx : x = some a) (hk : sK S a % 32 = c) (hn : As.length = n) (hst : st = As.reverse ++ va_rf x :: rest) (d : decode cc pc = .ok (.invokevirtual idx, 3)) (hW : (rest.map fun v => v.category).sum ≤ 8) (hrm : gR g.1 = rm) (hRm : fr + 1 ≤ rm.frames ∧ 8 + (maxL + 11) + lo ≤ rm.locals) (kk : ∀ r : Int64, Qp r → XA g (pc + 3) lv (.long r :: rest) S b) : XA g pc lv st S b := y_callVN (b := b) hg hC hL hx hk hn hst d hW hrm hRm (fun r S2 h _ => by obtain ⟨h, e⟩ := h; subst e; exact kk r h)
theorem yVLW (hg : GoodG g.1 cc own) {Qm : Int64 → Sg → Prop} (hC : CtrY RN (gL g.1) (gD g.1) y bytes maxL ret fr lo mkL (.ref a :: As) S (0, 0) Qm) (hL : LV own idx y c bytes maxL ret n) (hx : x = some a) (hk : sK S a % 32 = c) (hn : As.length = n) (hst : st = As.reverse ++ va_rf x :: rest) (d : decode cc pc = .ok (.invokevirtual idx, 3)) (hW : (rest.map fun v => v.category).sum ≤ 8) (hrm : gR g.1 = rm) (hRm : fr + 1 ≤ rm.frames ∧ 8 + (maxL + 11) + lo ≤ rm.locals) (kk : ∀ (r : Int64) (S2 : Sg), Qm r S2 → (∀ h, ¬ sK S h = 0 → sK S2 h = sK S h) → XA g (pc + 3) lv (.long r :: rest) S2 b) : XA g pc lv st S b := y_callVN (b := b) hg hC hL hx hk hn hst d hW hrm hRm kk
theorem yVLA (hg : GoodG g.1 cc own) (hal : AllG g) {Qm : Int64 → Sg → Prop} (hC : CtrY RA (gL g.1) (gD g.1) y bytes maxL ret fr lo mkL (.ref a :: As) S bc Qm) (hL : LV own idx y c bytes maxL ret n) (hx : x = some a) (hk : sK S a % 32 = c) (hn : As.length = n) (hst : st = As.reverse ++ va_rf x :: rest) (d : decode cc pc = .ok (.invokevirtual idx, 3)) (hW : (rest.map fun v => v.category).sum ≤ 8) (hrm : gR g.1 = rm) (hRm : fr + 1 ≤ rm.frames ∧ 8 + (maxL + 11) + lo ≤ rm.locals) (hb1 : bc.1 ≤ b.1) (hb2 : bc.2 ≤ b.2) (hlv : rll S lv) (hrs : rl S rest) (kk : ∀ (r : Int64) (S2 : Sg), Qm r S2 → (∀ h, ¬ sK S h = 0 → sK S2 h = sK S h) → XA g (pc + 3) lv (.long r :: rest) S2 (b.1 - bc.1, b.2 - bc.2)) : XA g pc lv st S b := y_callVA (b := b) hg hal hC hL hx hk hn hst d hW hrm hRm hb1 hb2 hlv hrs kk
theorem yVRP (hg : GoodG g.1 cc own) {Qp : Option Nat → Prop} (hC : CtrY RN (gL g.1) (gD g.1) y bytes maxL ret fr lo mkR (.ref a :: As) S (0, 0) (fun r S2 => Qp r ∧ S2 = S)) (hL : LV own idx y c bytes maxL ret n) (hx : x = some a) (hk : sK S a % 32 = c) (hn : As.length = n) (hst : st = As.reverse ++ va_rf x :: rest) (d : decode cc pc = .ok (.invokevirtual idx, 3)) (hW : (rest.map fun v => v.category).sum ≤ 8) (hrm : gR g.1 = rm) (hRm : fr + 1 ≤ rm.frames ∧ 8 + (maxL + 11) + lo ≤ rm.locals) (kk : ∀ r : Option Nat, Qp r → XA g (pc + 3) lv (va_rf r :: rest) S b) : XA g pc lv st S b := y_callVN (b := b) hg hC hL hx hk hn hst d hW hrm hRm (fun r S2 h _ => by obtain ⟨h, e⟩ := h; subst e; exact kk r h)
theorem yVRW (hg : GoodG g.1 cc own) {Qm : Option Nat → Sg → Prop} (hC : CtrY RN (gL g.1) (gD g.1) y bytes maxL ret fr lo mkR (.ref a :: As) S (0, 0) Qm) (hL : LV own idx y c bytes maxL ret n) (hx : x = some a) (hk : sK S a % 32 = c) (hn : As.length = n) (hst : st = As.reverse ++ va_rf x :: rest) (d : decode cc pc = .ok (.invokevirtual idx, 3)) (hW : (rest.map fun v => v.category).sum ≤ 8) (hrm : gR g.1 = rm) (hRm : fr + 1 ≤ rm.frames ∧ 8 + (maxL + 11) + lo ≤ rm.locals) (kk : ∀ (r : Option Nat) (S2 : Sg), Qm r S2 → (∀ h, ¬ sK S h = 0 → sK S2 h = sK S h) → XA g (pc + 3) lv (va_rf r :: rest) S2 b) : XA g pc lv st S b := y_callVN (b := b) hg hC hL hx hk hn hst d hW hrm hRm kk
theorem yVRA (hg : GoodG g.1 cc own) (hal : AllG g) {Qm : Option Nat → Sg → Prop} (hC : CtrY RA (gL g.1) (gD g.1) y bytes maxL ret fr lo mkR (.ref a :: As) S bc Qm) (hL : LV own idx y c bytes maxL ret n) (hx : x = some a) (hk : sK S a % 32 = c) (hn : As.length = n) (hst : st = As.reverse ++ va_rf x :: rest) (d : decode cc pc = .ok (.invokevirtual idx, 3)) (hW : (rest.map fun v => v.category).sum ≤ 8) (hrm : gR g.1 = rm) (hRm : fr + 1 ≤ rm.frames ∧ 8 + (maxL + 11) + lo ≤ rm.locals) (hb1 : bc.1 ≤ b.1) (hb2 : bc.2 ≤ b.2) (hlv : rll S lv) (hrs : rl S rest) (kk : ∀ (r : Option Nat) (S2 : Sg), Qm r S2 → (∀ h, ¬ sK S h = 0 → sK S2 h = sK S h) → XA g (pc + 3) lv (va_rf r :: rest) S2 (b.1 - bc.1, b.2 - bc.2)) : XA g pc lv st S b := y_callVA (b := b) hg hal hC hL hx hk hn hst d hW hrm hRm hb1 hb2 hlv hrs kk
theorem yVVP (hg : GoodG g.1 cc own) {Qp : Unit → Prop} (hC : CtrY RN (gL g.1) (gD g.1) y bytes maxL ret fr lo mkV (.ref a :: As) S (0, 0) (fun r S2 => Qp r ∧ S2 = S)) (hL : LV own idx y c bytes maxL ret n) (hx : x = some a) (hk : sK S a % 32 = c) (hn : As.length = n) (hst : st = As.reverse ++ va_rf x :: rest) (d : decode cc pc = .ok (.invokevirtual idx, 3)) (hW : (rest.map fun v => v.category).sum ≤ 8) (hrm : gR g.1 = rm) (hRm : fr + 1 ≤ rm.frames ∧ 8 + (maxL + 11) + lo ≤ rm.locals) (kk : ∀ r : Unit, Qp r → XA g (pc + 3) lv (rest) S b) : XA g pc lv st S b := y_callVN (b := b) hg hC hL hx hk hn hst d hW hrm hRm (fun r S2 h _ => by obtain ⟨h, e⟩ := h; subst e; exact kk r h)
theorem yVVW (hg : GoodG g.1 cc own) {Qm : Unit → Sg → Prop} (hC : CtrY RN (gL g.1) (gD g.1) y bytes maxL ret fr lo mkV (.ref a :: As) S (0, 0) Qm) (hL : LV own idx y c bytes maxL ret n) (hx : x = some a) (hk : sK S a % 32 = c) (hn : As.length = n) (hst : st = As.reverse ++ va_rf x :: rest) (d : decode cc pc = .ok (.invokevirtual idx, 3)) (hW : (rest.map fun v => v.category).sum ≤ 8) (hrm : gR g.1 = rm) (hRm : fr + 1 ≤ rm.frames ∧ 8 + (maxL + 11) + lo ≤ rm.locals) (kk : ∀ (r : Unit) (S2 : Sg), Qm r S2 → (∀ h, ¬ sK S h = 0 → sK S2 h = sK S h) → XA g (pc + 3) lv (rest) S2 b) : XA g pc lv st S b := y_callVN (b := b) hg hC hL hx hk hn hst d hW hrm hRm kk
theorem yVVA (hg : GoodG g.1 cc own) (hal : AllG g) {Qm : Unit → Sg → Prop} (hC : CtrY RA (gL g.1) (gD g.1) y bytes maxL ret fr lo mkV (.ref a :: As) S bc Qm) (hL : LV own idx y c bytes maxL ret n) (hx : x = some a) (hk : sK S a % 32 = c) (hn : As.length = n) (hst : st = As.reverse ++ va_rf x :: rest) (d : decode cc pc = .ok (.invokevirtual idx, 3)) (hW : (rest.map fun v => v.category).sum ≤ 8) (hrm : gR g.1 = rm) (hRm : fr + 1 ≤ rm.frames ∧ 8 + (maxL + 11) + lo ≤ rm.locals) (hb1 : bc.1 ≤ b.1) (hb2 : bc.2 ≤ b.2) (hlv : rll S lv) (hrs : rl S rest) (kk : ∀ (r : Unit) (S2 : Sg), Qm r S2 → (∀ h, ¬ sK S h = 0 → sK S2 h = sK S h) → XA g (pc + 3) lv (rest) S2 (b.1 - bc.1, b.2 - bc.2)) : XA g pc lv st S b := y_callVA (b := b) hg hal hC hL hx hk hn hst d hW hrm hRm hb1 hb2 hlv hrs kk
theorem ySIP (hg : GoodG g.1 cc own) {Qp : Int32 → Prop} (hC : CtrY RN (gL g.1) (gD g.1) y bytes maxL ret fr lo mkI As S (0, 0) (fun r S2 => Qp r ∧ S2 = S)) (hL : LS' own idx y bytes maxL ret n) (hn : As.length = n) (hst : st = As.reverse ++ rest) (d : decode cc pc = .ok (.invokestatic idx, 3)) (hW : (rest.map fun v => v.category).sum ≤ 8) (hrm : gR g.1 = rm) (hRm : fr + 1 ≤ rm.frames ∧ 8 + (maxL + 11) + lo ≤ rm.locals) (kk : ∀ r : Int32, Qp r → XA g (pc + 3) lv (.int r :: rest) S b) : XA g pc lv st S b := y_callSN (b := b) hg hC hL hn hst d hW hrm hRm (fun r S2 h _ => by obtain ⟨h, e⟩ := h; subst e; exact kk r h)
theorem ySIW (hg : GoodG g.1 cc own) {Qm : Int32 → Sg → Prop} (hC : CtrY RN (gL g.1) (gD g.1) y bytes maxL ret fr lo mkI As S (0, 0) Qm) (hL : LS' own idx y bytes maxL ret n) (hn : As.length = n) (hst : st = As.reverse ++ rest) (d : decode cc pc = .ok (.invokestatic idx, 3)) (hW : (rest.map fun v => v.category).sum ≤ 8) (hrm : gR g.1 = rm) (hRm : fr + 1 ≤ rm.frames ∧ 8 + (maxL + 11) + lo ≤ rm.locals) (kk : ∀ (r : Int32) (S2 : Sg), Qm r S2 → (∀ h, ¬ sK S h = 0 → sK S2 h = sK S h) → XA g (pc + 3) lv (.int r :: rest) S2 b) : XA g pc lv st S b := y_callSN (b := b) hg hC hL hn hst d hW hrm hRm kk
theorem ySIA (hg : GoodG g.1 cc own) (hal : AllG g) {Qm : Int32 → Sg → Prop} (hC : CtrY RA (gL g.1) (gD g.1) y bytes maxL ret fr lo mkI As S bc Qm) (hL : LS' own idx y bytes maxL ret n) (hn : As.length = n) (hst : st = As.reverse ++ rest) (d : decode cc pc = .ok (.invokestatic idx, 3)) (hW : (rest.map fun v => v.category).sum ≤ 8) (hrm : gR g.1 = rm) (hRm : fr + 1 ≤ rm.frames ∧ 8 + (maxL + 11) + lo ≤ rm.locals) (hb1 : bc.1 ≤ b.1) (hb2 : bc.2 ≤ b.2) (hlv : rll S lv) (hrs : rl S rest) (kk : ∀ (r : Int32) (S2 : Sg), Qm r S2 → (∀ h, ¬ sK S h = 0 → sK S2 h = sK S h) → XA g (pc + 3) lv (.int r :: rest) S2 (b.1 - bc.1, b.2 - bc.2)) : XA g pc lv st S b := y_callSA (b := b) hg hal hC hL hn hst d hW hrm hRm hb1 hb2 hlv hrs kk
theorem ySLP (hg : GoodG g.1 cc own) {Qp : Int64 → Prop} (hC : CtrY RN (gL g.1) (gD g.1) y bytes maxL ret fr lo mkL As S (0, 0) (fun r S2 => Qp r ∧ S2 = S)) (hL : LS' own idx y bytes maxL ret n) (hn : As.length = n) (hst : st = As.reverse ++ rest) (d : decode cc pc = .ok (.invokestatic idx, 3)) (hW : (rest.map fun v => v.category).sum ≤ 8) (hrm : gR g.1 = rm) (hRm : fr + 1 ≤ rm.frames ∧ 8 + (maxL + 11) + lo ≤ rm.locals) (kk : ∀ r : Int64, Qp r → XA g (pc + 3) lv (.long r :: rest) S b) : XA g pc lv st S b := y_callSN (b := b) hg hC hL hn hst d hW hrm hRm (fun r S2 h _ => by obtain ⟨h, e⟩ := h; subst e; exact kk r h)
theorem ySLW (hg : GoodG g.1 cc own) {Qm : Int64 → Sg → Prop} (hC : CtrY RN (gL g.1) (gD g.1) y bytes maxL ret fr lo mkL As S (0, 0) Qm) (hL : LS' own idx y bytes maxL ret n) (hn : As.length = n) (hst : st = As.reverse ++ rest) (d : decode cc pc = .ok (.invokestatic idx, 3)) (hW : (rest.map fun v => v.category).sum ≤ 8) (hrm : gR g.1 = rm) (hRm : fr + 1 ≤ rm.frames ∧ 8 + (maxL + 11) + lo ≤ rm.locals) (kk : ∀ (r : Int64) (S2 : Sg), Qm r S2 → (∀ h, ¬ sK S h = 0 → sK S2 h = sK S h) → XA g (pc + 3) lv (.long r :: rest) S2 b) : XA g pc lv st S b := y_callSN (b := b) hg hC hL hn hst d hW hrm hRm kk
theorem ySLA (hg : GoodG g.1 cc own) (hal : AllG g) {Qm : Int64 → Sg → Prop} (hC : CtrY RA (gL g.1) (gD g.1) y bytes maxL ret fr lo mkL As S bc Qm) (hL : LS' own idx y bytes maxL ret n) (hn : As.length = n) (hst : st = As.reverse ++ rest) (d : decode cc pc = .ok (.invokestatic idx, 3)) (hW : (rest.map fun v => v.category).sum ≤ 8) (hrm : gR g.1 = rm) (hRm : fr + 1 ≤ rm.frames ∧ 8 + (maxL + 11) + lo ≤ rm.locals) (hb1 : bc.1 ≤ b.1) (hb2 : bc.2 ≤ b.2) (hlv : rll S lv) (hrs : rl S rest) (kk : ∀ (r : Int64) (S2 : Sg), Qm r S2 → (∀ h, ¬ sK S h = 0 → sK S2 h = sK S h) → XA g (pc + 3) lv (.long r :: rest) S2 (b.1 - bc.1, b.2 - bc.2)) : XA g pc lv st S b := y_callSA (b := b) hg hal hC hL hn hst d hW hrm hRm hb1 hb2 hlv hrs kk
theorem ySRP (hg : GoodG g.1 cc own) {Qp : Option Nat → Prop} (hC : CtrY RN (gL g.1) (gD g.1) y bytes maxL ret fr lo mkR As S (0, 0) (fun r S2 => Qp r ∧ S2 = S)) (hL : LS' own idx y bytes maxL ret n) (hn : As.length = n) (hst : st = As.reverse ++ rest) (d : decode cc pc = .ok (.invokestatic idx, 3)) (hW : (rest.map fun v => v.category).sum ≤ 8) (hrm : gR g.1 = rm) (hRm : fr + 1 ≤ rm.frames ∧ 8 + (maxL + 11) + lo ≤ rm.locals) (kk : ∀ r : Option Nat, Qp r → XA g (pc + 3) lv (va_rf r :: rest) S b) : XA g pc lv st S b := y_callSN (b := b) hg hC hL hn hst d hW hrm hRm (fun r S2 h _ => by obtain ⟨h, e⟩ := h; subst e; exact kk r h)
theorem ySRW (hg : GoodG g.1 cc own) {Qm : Option Nat → Sg → Prop} (hC : CtrY RN (gL g.1) (gD g.1) y bytes maxL ret fr lo mkR As S (0, 0) Qm) (hL : LS' own idx y bytes maxL ret n) (hn : As.length = n) (hst : st = As.reverse ++ rest) (d : decode cc pc = .ok (.invokestatic idx, 3)) (hW : (rest.map fun v => v.category).sum ≤ 8) (hrm : gR g.1 = rm) (hRm : fr + 1 ≤ rm.frames ∧ 8 + (maxL + 11) + lo ≤ rm.locals) (kk : ∀ (r : Option Nat) (S2 : Sg), Qm r S2 → (∀ h, ¬ sK S h = 0 → sK S2 h = sK S h) → XA g (pc + 3) lv (va_rf r :: rest) S2 b) : XA g pc lv st S b := y_callSN (b := b) hg hC hL hn hst d hW hrm hRm kk
theorem ySRA (hg : GoodG g.1 cc own) (hal : AllG g) {Qm : Option Nat → Sg → Prop} (hC : CtrY RA (gL g.1) (gD g.1) y bytes maxL ret fr lo mkR As S bc Qm) (hL : LS' own idx y bytes maxL ret n) (hn : As.length = n) (hst : st = As.reverse ++ rest) (d : decode cc pc = .ok (.invokestatic idx, 3)) (hW : (rest.map fun v => v.category).sum ≤ 8) (hrm : gR g.1 = rm) (hRm : fr + 1 ≤ rm.frames ∧ 8 + (maxL + 11) + lo ≤ rm.locals) (hb1 : bc.1 ≤ b.1) (hb2 : bc.2 ≤ b.2) (hlv : rll S lv) (hrs : rl S rest) (kk : ∀ (r : Option Nat) (S2 : Sg), Qm r S2 → (∀ h, ¬ sK S h = 0 → sK S2 h = sK S h) → XA g (pc + 3) lv (va_rf r :: rest) S2 (b.1 - bc.1, b.2 - bc.2)) : XA g pc lv st S b := y_callSA (b := b) hg hal hC hL hn hst d hW hrm hRm hb1 hb2 hlv hrs kk
theorem ySVP (hg : GoodG g.1 cc own) {Qp : Unit → Prop} (hC : CtrY RN (gL g.1) (gD g.1) y bytes maxL ret fr lo mkV As S (0, 0) (fun r S2 => Qp r ∧ S2 = S)) (hL : LS' own idx y bytes maxL ret n) (hn : As.length = n) (hst : st = As.reverse ++ rest) (d : decode cc pc = .ok (.invokestatic idx, 3)) (hW : (rest.map fun v => v.category).sum ≤ 8) (hrm : gR g.1 = rm) (hRm : fr + 1 ≤ rm.frames ∧ 8 + (maxL + 11) + lo ≤ rm.locals) (kk : ∀ r : Unit, Qp r → XA g (pc + 3) lv (rest) S b) : XA g pc lv st S b := y_callSN (b := b) hg hC hL hn hst d hW hrm hRm (fun r S2 h _ => by obtain ⟨h, e⟩ := h; subst e; exact kk r h)
theorem ySVW (hg : GoodG g.1 cc own) {Qm : Unit → Sg → Prop} (hC : CtrY RN (gL g.1) (gD g.1) y bytes maxL ret fr lo mkV As S (0, 0) Qm) (hL : LS' own idx y bytes maxL ret n) (hn : As.length = n) (hst : st = As.reverse ++ rest) (d : decode cc pc = .ok (.invokestatic idx, 3)) (hW : (rest.map fun v => v.category).sum ≤ 8) (hrm : gR g.1 = rm) (hRm : fr + 1 ≤ rm.frames ∧ 8 + (maxL + 11) + lo ≤ rm.locals) (kk : ∀ (r : Unit) (S2 : Sg), Qm r S2 → (∀ h, ¬ sK S h = 0 → sK S2 h = sK S h) → XA g (pc + 3) lv (rest) S2 b) : XA g pc lv st S b := y_callSN (b := b) hg hC hL hn hst d hW hrm hRm kk
theorem ySVA (hg : GoodG g.1 cc own) (hal : AllG g) {Qm : Unit → Sg → Prop} (hC : CtrY RA (gL g.1) (gD g.1) y bytes maxL ret fr lo mkV As S bc Qm) (hL : LS' own idx y bytes maxL ret n) (hn : As.length = n) (hst : st = As.reverse ++ rest) (d : decode cc pc = .ok (.invokestatic idx, 3)) (hW : (rest.map fun v => v.category).sum ≤ 8) (hrm : gR g.1 = rm) (hRm : fr + 1 ≤ rm.frames ∧ 8 + (maxL + 11) + lo ≤ rm.locals) (hb1 : bc.1 ≤ b.1) (hb2 : bc.2 ≤ b.2) (hlv : rll S lv) (hrs : rl S rest) (kk : ∀ (r : Unit) (S2 : Sg), Qm r S2 → (∀ h, ¬ sK S h = 0 → sK S2 h = sK S h) → XA g (pc + 3) lv (rest) S2 (b.1 - bc.1, b.2 - bc.2)) : XA g pc lv st S b := y_callSA (b := b) hg hal hC hL hn hst d hW hrm hRm hb1 hb2 hlv hrs kk
theorem ySNIP (hg : GoodG g.1 cc own) {Qp : Int32 → Prop} (hC : CtrY RN (gL g.1) (gD g.1) y bytes maxL ret fr lo mkI As S (0, 0) (fun r S2 => Qp r ∧ S2 = S)) (hL : LSN own idx y bytes maxL ret n) (hn : As.length = n) (hst : st = As.reverse ++ rest) (d : decode cc pc = .ok (.invokestatic idx, 3)) (hW : (rest.map fun v => v.category).sum ≤ 8) (hrm : gR g.1 = rm) (hRm : fr + 1 ≤ rm.frames ∧ 8 + (maxL + 11) + lo ≤ rm.locals) (kk : ∀ r : Int32, Qp r → XA g (pc + 3) lv (.int r :: rest) S b) : XA g pc lv st S b := y_callSNN (b := b) hg hC hL hn hst d hW hrm hRm (fun r S2 h _ => by obtain ⟨h, e⟩ := h; subst e; exact kk r h)
theorem ySNIW (hg : GoodG g.1 cc own) {Qm : Int32 → Sg → Prop} (hC : CtrY RN (gL g.1) (gD g.1) y bytes maxL ret fr lo mkI As S (0, 0) Qm) (hL : LSN own idx y bytes maxL ret n) (hn : As.length = n) (hst : st = As.reverse ++ rest) (d : decode cc pc = .ok (.invokestatic idx, 3)) (hW : (rest.map fun v => v.category).sum ≤ 8) (hrm : gR g.1 = rm) (hRm : fr + 1 ≤ rm.frames ∧ 8 + (maxL + 11) + lo ≤ rm.locals) (kk : ∀ (r : Int32) (S2 : Sg), Qm r S2 → (∀ h, ¬ sK S h = 0 → sK S2 h = sK S h) → XA g (pc + 3) lv (.int r :: rest) S2 b) : XA g pc lv st S b := y_callSNN (b := b) hg hC hL hn hst d hW hrm hRm kk
theorem ySNIA (hg : GoodG g.1 cc own) (hal : AllG g) {Qm : Int32 → Sg → Prop} (hC : CtrY RA (gL g.1) (gD g.1) y bytes maxL ret fr lo mkI As S bc Qm) (hL : LSN own idx y bytes maxL ret n) (hn : As.length = n) (hst : st = As.reverse ++ rest) (d : decode cc pc = .ok (.invokestatic idx, 3)) (hW : (rest.map fun v => v.category).sum ≤ 8) (hrm : gR g.1 = rm) (hRm : fr + 1 ≤ rm.frames ∧ 8 + (maxL + 11) + lo ≤ rm.locals) (hb1 : bc.1 ≤ b.1) (hb2 : bc.2 ≤ b.2) (hlv : rll S lv) (hrs : rl S rest) (kk : ∀ (r : Int32) (S2 : Sg), Qm r S2 → (∀ h, ¬ sK S h = 0 → sK S2 h = sK S h) → XA g (pc + 3) lv (.int r :: rest) S2 (b.1 - bc.1, b.2 - bc.2)) : XA g pc lv st S b := y_callSNA (b := b) hg hal hC hL hn hst d hW hrm hRm hb1 hb2 hlv hrs kk
theorem ySNLP (hg : GoodG g.1 cc own) {Qp : Int64 → Prop} (hC : CtrY RN (gL g.1) (gD g.1) y bytes maxL ret fr lo mkL As S (0, 0) (fun r S2 => Qp r ∧ S2 = S)) (hL : LSN own idx y bytes maxL ret n) (hn : As.length = n) (hst : st = As.reverse ++ rest) (d : decode cc pc = .ok (.invokestatic idx, 3)) (hW : (rest.map fun v => v.category).sum ≤ 8) (hrm : gR g.1 = rm) (hRm : fr + 1 ≤ rm.frames ∧ 8 + (maxL + 11) + lo ≤ rm.locals) (kk : ∀ r : Int64, Qp r → XA g (pc + 3) lv (.long r :: rest) S b) : XA g pc lv st S b := y_callSNN (b := b) hg hC hL hn hst d hW hrm hRm (fun r S2 h _ => by obtain ⟨h, e⟩ := h; subst e; exact kk r h)
theorem ySNLW (hg : GoodG g.1 cc own) {Qm : Int64 → Sg → Prop} (hC : CtrY RN (gL g.1) (gD g.1) y bytes maxL ret fr lo mkL As S (0, 0) Qm) (hL : LSN own idx y bytes maxL ret n) (hn : As.length = n) (hst : st = As.reverse ++ rest) (d : decode cc pc = .ok (.invokestatic idx, 3)) (hW : (rest.map fun v => v.category).sum ≤ 8) (hrm : gR g.1 = rm) (hRm : fr + 1 ≤ rm.frames ∧ 8 + (maxL + 11) + lo ≤ rm.locals) (kk : ∀ (r : Int64) (S2 : Sg), Qm r S2 → (∀ h, ¬ sK S h = 0 → sK S2 h = sK S h) → XA g (pc + 3) lv (.long r :: rest) S2 b) : XA g pc lv st S b := y_callSNN (b := b) hg hC hL hn hst d hW hrm hRm kk
theorem ySNLA (hg : GoodG g.1 cc own) (hal : AllG g) {Qm : Int64 → Sg → Prop} (hC : CtrY RA (gL g.1) (gD g.1) y bytes maxL ret fr lo mkL As S bc Qm) (hL : LSN own idx y bytes maxL ret n) (hn : As.length = n) (hst : st = As.reverse ++ rest) (d : decode cc pc = .ok (.invokestatic idx, 3)) (hW : (rest.map fun v => v.category).sum ≤ 8) (hrm : gR g.1 = rm) (hRm : fr + 1 ≤ rm.frames ∧ 8 + (maxL + 11) + lo ≤ rm.locals) (hb1 : bc.1 ≤ b.1) (hb2 : bc.2 ≤ b.2) (hlv : rll S lv) (hrs : rl S rest) (kk : ∀ (r : Int64) (S2 : Sg), Qm r S2 → (∀ h, ¬ sK S h = 0 → sK S2 h = sK S h) → XA g (pc + 3) lv (.long r :: rest) S2 (b.1 - bc.1, b.2 - bc.2)) : XA g pc lv st S b := y_callSNA (b := b) hg hal hC hL hn hst d hW hrm hRm hb1 hb2 hlv hrs kk
theorem ySNRP (hg : GoodG g.1 cc own) {Qp : Option Nat → Prop} (hC : CtrY RN (gL g.1) (gD g.1) y bytes maxL ret fr lo mkR As S (0, 0) (fun r S2 => Qp r ∧ S2 = S)) (hL : LSN own idx y bytes maxL ret n) (hn : As.length = n) (hst : st = As.reverse ++ rest) (d : decode cc pc = .ok (.invokestatic idx, 3)) (hW : (rest.map fun v => v.category).sum ≤ 8) (hrm : gR g.1 = rm) (hRm : fr + 1 ≤ rm.frames ∧ 8 + (maxL + 11) + lo ≤ rm.locals) (kk : ∀ r : Option Nat, Qp r → XA g (pc + 3) lv (va_rf r :: rest) S b) : XA g pc lv st S b := y_callSNN (b := b) hg hC hL hn hst d hW hrm hRm (fun r S2 h _ => by obtain ⟨h, e⟩ := h; subst e; exact kk r h)
theorem ySNRW (hg : GoodG g.1 cc own) {Qm : Option Nat → Sg → Prop} (hC : CtrY RN (gL g.1) (gD g.1) y bytes maxL ret fr lo mkR As S (0, 0) Qm) (hL : LSN own idx y bytes maxL ret n) (hn : As.length = n) (hst : st = As.reverse ++ rest) (d : decode cc pc = .ok (.invokestatic idx, 3)) (hW : (rest.map fun v => v.category).sum ≤ 8) (hrm : gR g.1 = rm) (hRm : fr + 1 ≤ rm.frames ∧ 8 + (maxL + 11) + lo ≤ rm.locals) (kk : ∀ (r : Option Nat) (S2 : Sg), Qm r S2 → (∀ h, ¬ sK S h = 0 → sK S2 h = sK S h) → XA g (pc + 3) lv (va_rf r :: rest) S2 b) : XA g pc lv st S b := y_callSNN (b := b) hg hC hL hn hst d hW hrm hRm kk
theorem ySNRA (hg : GoodG g.1 cc own) (hal : AllG g) {Qm : Option Nat → Sg → Prop} (hC : CtrY RA (gL g.1) (gD g.1) y bytes maxL ret fr lo mkR As S bc Qm) (hL : LSN own idx y bytes maxL ret n) (hn : As.length = n) (hst : st = As.reverse ++ rest) (d : decode cc pc = .ok (.invokestatic idx, 3)) (hW : (rest.map fun v => v.category).sum ≤ 8) (hrm : gR g.1 = rm) (hRm : fr + 1 ≤ rm.frames ∧ 8 + (maxL + 11) + lo ≤ rm.locals) (hb1 : bc.1 ≤ b.1) (hb2 : bc.2 ≤ b.2) (hlv : rll S lv) (hrs : rl S rest) (kk : ∀ (r : Option Nat) (S2 : Sg), Qm r S2 → (∀ h, ¬ sK S h = 0 → sK S2 h = sK S h) → XA g (pc + 3) lv (va_rf r :: rest) S2 (b.1 - bc.1, b.2 - bc.2)) : XA g pc lv st S b := y_callSNA (b := b) hg hal hC hL hn hst d hW hrm hRm hb1 hb2 hlv hrs kk
theorem ySNVP (hg : GoodG g.1 cc own) {Qp : Unit → Prop} (hC : CtrY RN (gL g.1) (gD g.1) y bytes maxL ret fr lo mkV As S (0, 0) (fun r S2 => Qp r ∧ S2 = S)) (hL : LSN own idx y bytes maxL ret n) (hn : As.length = n) (hst : st = As.reverse ++ rest) (d : decode cc pc = .ok (.invokestatic idx, 3)) (hW : (rest.map fun v => v.category).sum ≤ 8) (hrm : gR g.1 = rm) (hRm : fr + 1 ≤ rm.frames ∧ 8 + (maxL + 11) + lo ≤ rm.locals) (kk : ∀ r : Unit, Qp r → XA g (pc + 3) lv (rest) S b) : XA g pc lv st S b := y_callSNN (b := b) hg hC hL hn hst d hW hrm hRm (fun r S2 h _ => by obtain ⟨h, e⟩ := h; subst e; exact kk r h)
theorem ySNVW (hg : GoodG g.1 cc own) {Qm : Unit → Sg → Prop} (hC : CtrY RN (gL g.1) (gD g.1) y bytes maxL ret fr lo mkV As S (0, 0) Qm) (hL : LSN own idx y bytes maxL ret n) (hn : As.length = n) (hst : st = As.reverse ++ rest) (d : decode cc pc = .ok (.invokestatic idx, 3)) (hW : (rest.map fun v => v.category).sum ≤ 8) (hrm : gR g.1 = rm) (hRm : fr + 1 ≤ rm.frames ∧ 8 + (maxL + 11) + lo ≤ rm.locals) (kk : ∀ (r : Unit) (S2 : Sg), Qm r S2 → (∀ h, ¬ sK S h = 0 → sK S2 h = sK S h) → XA g (pc + 3) lv (rest) S2 b) : XA g pc lv st S b := y_callSNN (b := b) hg hC hL hn hst d hW hrm hRm kk
theorem ySNVA (hg : GoodG g.1 cc own) (hal : AllG g) {Qm : Unit → Sg → Prop} (hC : CtrY RA (gL g.1) (gD g.1) y bytes maxL ret fr lo mkV As S bc Qm) (hL : LSN own idx y bytes maxL ret n) (hn : As.length = n) (hst : st = As.reverse ++ rest) (d : decode cc pc = .ok (.invokestatic idx, 3)) (hW : (rest.map fun v => v.category).sum ≤ 8) (hrm : gR g.1 = rm) (hRm : fr + 1 ≤ rm.frames ∧ 8 + (maxL + 11) + lo ≤ rm.locals) (hb1 : bc.1 ≤ b.1) (hb2 : bc.2 ≤ b.2) (hlv : rll S lv) (hrs : rl S rest) (kk : ∀ (r : Unit) (S2 : Sg), Qm r S2 → (∀ h, ¬ sK S h = 0 → sK S2 h = sK S h) → XA g (pc + 3) lv (rest) S2 (b.1 - bc.1, b.2 - bc.2)) : XA g pc lv st S b := y_callSNA (b := b) hg hal hC hL hn hst d hW hrm hRm hb1 hb2 hlv hrs kk
theorem yIVP (hg : GoodG g.1 cc own) {Qp : Unit → Prop} (hC : CtrY RN (gL g.1) (gD g.1) y bytes maxL none fr lo mkV (.ref a :: As) S (0, 0) (fun r S2 => Qp r ∧ S2 = S)) (hL : LI own idx y bytes maxL n) (hx : x = some a) (hn : As.length = n) (hst : st = As.reverse ++ va_rf x :: rest) (d : decode cc pc = .ok (.invokespecial idx, 3)) (hW : (rest.map fun v => v.category).sum ≤ 8) (hrm : gR g.1 = rm) (hRm : fr + 1 ≤ rm.frames ∧ 8 + (maxL + 11) + lo ≤ rm.locals) (kk : ∀ r : Unit, Qp r → XA g (pc + 3) lv (rest) S b) : XA g pc lv st S b := y_callIN (b := b) hg hC hL hx hn hst d hW hrm hRm (fun r S2 h _ => by obtain ⟨h, e⟩ := h; subst e; exact kk r h)
theorem yIVW (hg : GoodG g.1 cc own) {Qm : Unit → Sg → Prop} (hC : CtrY RN (gL g.1) (gD g.1) y bytes maxL none fr lo mkV (.ref a :: As) S (0, 0) Qm) (hL : LI own idx y bytes maxL n) (hx : x = some a) (hn : As.length = n) (hst : st = As.reverse ++ va_rf x :: rest) (d : decode cc pc = .ok (.invokespecial idx, 3)) (hW : (rest.map fun v => v.category).sum ≤ 8) (hrm : gR g.1 = rm) (hRm : fr + 1 ≤ rm.frames ∧ 8 + (maxL + 11) + lo ≤ rm.locals) (kk : ∀ (r : Unit) (S2 : Sg), Qm r S2 → (∀ h, ¬ sK S h = 0 → sK S2 h = sK S h) → XA g (pc + 3) lv (rest) S2 b) : XA g pc lv st S b := y_callIN (b := b) hg hC hL hx hn hst d hW hrm hRm kk
theorem yIVA (hg : GoodG g.1 cc own) (hal : AllG g) {Qm : Unit → Sg → Prop} (hC : CtrY RA (gL g.1) (gD g.1) y bytes maxL none fr lo mkV (.ref a :: As) S bc Qm) (hL : LI own idx y bytes maxL n) (hx : x = some a) (hn : As.length = n) (hst : st = As.reverse ++ va_rf x :: rest) (d : decode cc pc = .ok (.invokespecial idx, 3)) (hW : (rest.map fun v => v.category).sum ≤ 8) (hrm : gR g.1 = rm) (hRm : fr + 1 ≤ rm.frames ∧ 8 + (maxL + 11) + lo ≤ rm.locals) (hb1 : bc.1 ≤ b.1) (hb2 : bc.2 ≤ b.2) (hlv : rll S lv) (hrs : rl S rest) (kk : ∀ (r : Unit) (S2 : Sg), Qm r S2 → (∀ h, ¬ sK S h = 0 → sK S2 h = sK S h) → XA g (pc + 3) lv (rest) S2 (b.1 - bc.1, b.2 - bc.2)) : XA g pc lv st S b := y_callIA (b := b) hg hal hC hL hx hn hst d hW hrm hRm hb1 hb2 hlv hrs kk
theorem yINVP (hg : GoodG g.1 cc own) {Qp : Unit → Prop} (hC : CtrY RN (gL g.1) (gD g.1) y bytes maxL none fr lo mkV (.ref a :: As) S (0, 0) (fun r S2 => Qp r ∧ S2 = S)) (hL : LIN own idx y bytes maxL n) (hx : x = some a) (hn : As.length = n) (hst : st = As.reverse ++ va_rf x :: rest) (d : decode cc pc = .ok (.invokespecial idx, 3)) (hW : (rest.map fun v => v.category).sum ≤ 8) (hrm : gR g.1 = rm) (hRm : fr + 1 ≤ rm.frames ∧ 8 + (maxL + 11) + lo ≤ rm.locals) (kk : ∀ r : Unit, Qp r → XA g (pc + 3) lv (rest) S b) : XA g pc lv st S b := y_callINN (b := b) hg hC hL hx hn hst d hW hrm hRm (fun r S2 h _ => by obtain ⟨h, e⟩ := h; subst e; exact kk r h)
theorem yINVW (hg : GoodG g.1 cc own) {Qm : Unit → Sg → Prop} (hC : CtrY RN (gL g.1) (gD g.1) y bytes maxL none fr lo mkV (.ref a :: As) S (0, 0) Qm) (hL : LIN own idx y bytes maxL n) (hx : x = some a) (hn : As.length = n) (hst : st = As.reverse ++ va_rf x :: rest) (d : decode cc pc = .ok (.invokespecial idx, 3)) (hW : (rest.map fun v => v.category).sum ≤ 8) (hrm : gR g.1 = rm) (hRm : fr + 1 ≤ rm.frames ∧ 8 + (maxL + 11) + lo ≤ rm.locals) (kk : ∀ (r : Unit) (S2 : Sg), Qm r S2 → (∀ h, ¬ sK S h = 0 → sK S2 h = sK S h) → XA g (pc + 3) lv (rest) S2 b) : XA g pc lv st S b := y_callINN (b := b) hg hC hL hx hn hst d hW hrm hRm kk
theorem yINVA (hg : GoodG g.1 cc own) (hal : AllG g) {Qm : Unit → Sg → Prop} (hC : CtrY RA (gL g.1) (gD g.1) y bytes maxL none fr lo mkV (.ref a :: As) S bc Qm) (hL : LIN own idx y bytes maxL n) (hx : x = some a) (hn : As.length = n) (hst : st = As.reverse ++ va_rf x :: rest) (d : decode cc pc = .ok (.invokespecial idx, 3)) (hW : (rest.map fun v => v.category).sum ≤ 8) (hrm : gR g.1 = rm) (hRm : fr + 1 ≤ rm.frames ∧ 8 + (maxL + 11) + lo ≤ rm.locals) (hb1 : bc.1 ≤ b.1) (hb2 : bc.2 ≤ b.2) (hlv : rll S lv) (hrs : rl S rest) (kk : ∀ (r : Unit) (S2 : Sg), Qm r S2 → (∀ h, ¬ sK S h = 0 → sK S2 h = sK S h) → XA g (pc + 3) lv (rest) S2 (b.1 - bc.1, b.2 - bc.2)) : XA g pc lv st S b := y_callINA (b := b) hg hal hC hL hx hn hst d hW hrm hRm hb1 hb2 hlv hrs kk
end YE
