/-! ===== the second layer: stores over handles. A handle is a name of ours for a cell; ad tells its address. ===== -/
def cv (ad : Nat → Nat) : Value → Value
  | .ref h => .ref (ad h)
  | v => v
theorem cv_rf (ad : Nat → Nat) (x : Option Nat) : cv ad (va_rf x) = va_rf (x.map ad) := by cases x <;> rfl
theorem cv_cat (ad : Nat → Nat) (v : Value) : (cv ad v).category = v.category := by cases v <;> rfl
def lvm (ad : Nat → Nat) (lv : List (Nat × Value)) : List (Nat × Value) := lv.map (fun q => (q.1, cv ad q.2))
theorem lvm_at {ad : Nat → Nat} {lv : List (Nat × Value)} {k i : Nat} {v : Value} (h : lv[k]? = some (i, v)) : (lvm ad lv)[k]? = some (i, cv ad v) := by
  unfold lvm
  rw [List.getElem?_map, h]
  rfl
theorem lvm_f1 (ad : Nat → Nat) (lv : List (Nat × Value)) (i : Nat) : (lvm ad lv).filter (fun q => !(q.1 == i) && !(q.1 + 1 == i && q.2.category == 2)) = lvm ad (lv.filter (fun q => !(q.1 == i) && !(q.1 + 1 == i && q.2.category == 2))) := by
  unfold lvm
  rw [List.filter_map]
  congr 1
  apply List.filter_congr
  intro q _
  simp [Function.comp, cv_cat]
theorem lvm_f2 (ad : Nat → Nat) (lv : List (Nat × Value)) (i : Nat) : (lvm ad lv).filter (fun q => !(q.1 == i) && (!(q.1 == i + 1) && !(q.1 + 1 == i && q.2.category == 2))) = lvm ad (lv.filter (fun q => !(q.1 == i) && (!(q.1 == i + 1) && !(q.1 + 1 == i && q.2.category == 2)))) := by
  unfold lvm
  rw [List.filter_map]
  congr 1
  apply List.filter_congr
  intro q _
  simp [Function.comp, cv_cat]
theorem lvm_s1 {ad : Nat → Nat} {lv lv' : List (Nat × Value)} {i : Nat} {v : Value} (h : (i, v) :: lv.filter (fun q => !(q.1 == i) && !(q.1 + 1 == i && q.2.category == 2)) = lv') : (i, cv ad v) :: (lvm ad lv).filter (fun q => !(q.1 == i) && !(q.1 + 1 == i && q.2.category == 2)) = lvm ad lv' := by
  rw [lvm_f1, ← h]
  rfl
theorem lvm_s2 {ad : Nat → Nat} {lv lv' : List (Nat × Value)} {i : Nat} {v : Value} (h : (i, v) :: lv.filter (fun q => !(q.1 == i) && (!(q.1 == i + 1) && !(q.1 + 1 == i && q.2.category == 2))) = lv') : (i, cv ad v) :: (lvm ad lv).filter (fun q => !(q.1 == i) && (!(q.1 == i + 1) && !(q.1 + 1 == i && q.2.category == 2))) = lvm ad lv' := by
  rw [lvm_f2, ← h]
  rfl
theorem lvm_pick {ad : Nat → Nat} {lv lv' : List (Nat × Value)} {ks : List Nat} (h : lv_pick lv ks = lv') : lv_pick (lvm ad lv) ks = lvm ad lv' := by
  rw [← h]
  unfold lv_pick lvm
  rw [List.map_filterMap]
  congr 1
  funext k
  rw [List.getElem?_map]
theorem lvm_args (ad : Nat → Nat) (av : List Value) : ∀ i, lv_args i (av.map (cv ad)) = lvm ad (lv_args i av) := by
  induction av with
  | nil => intro i; rfl
  | cons v l ih =>
    intro i
    simp only [List.map_cons, lv_args, cv_cat]
    rw [ih]
    rfl
theorem sl_len (ad : Nat → Nat) (av : List Value) : (lg_sl (av.map (cv ad))).length = (lg_sl av).length := by
  induction av with
  | nil => rfl
  | cons v l ih =>
    simp only [List.map_cons, lg_sl, List.flatMap_cons, List.length_append] at ih ⊢
    rw [ih, cv_cat]
    congr 1
    split <;> rfl
theorem sum_cv (ad : Nat → Nat) (l : List Value) : ((l.map (cv ad)).map fun v => v.category).sum = (l.map fun v => v.category).sum := by
  rw [List.map_map]
  congr 2
  funext v
  exact cv_cat ad v
/-- a reference is live, or a fixed name -/
def rlv (S : Sg) (h : Nat) : Prop := ¬ sK S h = 0 ∨ h < 1000
/-- the store σ is S, its handles laid at the addresses of ad -/
def Iso (D : Dg) (S : Sg) (ad : Nat → Nat) (σ : Sg) : Prop :=
  (∀ h, ¬ sK S h = 0 → sK σ (ad h) = sK S h ∧ sN σ (ad h) = sN S h ∧ sI σ (ad h) = sI S h ∧ sL σ (ad h) = sL S h ∧ ∀ k, sR σ (ad h) k = (sR S h k).map ad) ∧
  (∀ h h', ¬ sK S h = 0 → ¬ sK S h' = 0 → ad h = ad h' → h = h') ∧ (∀ h, ¬ sK S h = 0 → ∀ k r, sR S h k = some r → rlv S r) ∧ sK S 2 = 25 ∧ ad 1 = D.2.2 1 ∧ ad 3 = D.2.2 3 ∧ ∀ i, i < nJS → ad (100 + i) = adS D i ∧ ad (200 + i) = adV D i
def rl (S : Sg) (l : List Value) : Prop := ∀ v ∈ l, ∀ h, v = .ref h → rlv S h
def rll (S : Sg) (l : List (Nat × Value)) : Prop := ∀ v ∈ l, ∀ h, v.2 = .ref h → rlv S h
theorem rl_nil {S : Sg} : rl S [] := fun _ h => nomatch h
theorem rl_c {S : Sg} {v : Value} {l : List Value} (h1 : ∀ h, v = .ref h → rlv S h) (h2 : rl S l) : rl S (v :: l) := fun w hw h e => by
  rcases List.mem_cons.mp hw with q | q
  · rw [q] at e; exact h1 h e
  · exact h2 w q h e
theorem rll_nil {S : Sg} : rll S [] := fun _ h => nomatch h
theorem rll_c {S : Sg} {i : Nat} {v : Value} {l : List (Nat × Value)} (h1 : ∀ h, v = .ref h → rlv S h) (h2 : rll S l) : rll S ((i, v) :: l) := fun w hw h e => by
  rcases List.mem_cons.mp hw with q | q
  · rw [q] at e; exact h1 h e
  · exact h2 w q h e
theorem lk_i {S : Sg} (x : Int32) : ∀ h, Value.int x = .ref h → rlv S h := fun _ e => nomatch e
theorem lk_l {S : Sg} (x : Int64) : ∀ h, Value.long x = .ref h → rlv S h := fun _ e => nomatch e
theorem lk_r {S : Sg} {t : Option Nat} (hl : ∀ c, t = some c → ¬ sK S c = 0) : ∀ h, va_rf t = .ref h → rlv S h := fun h e => by
  cases t with
  | none => cases e
  | some y => cases e; exact Or.inl (hl _ rfl)
theorem lk_k {S : Sg} {t : Option Nat} {a c : Nat} (ht : t = some a) (hk : sK S a % 32 = c) (hc : ¬ c = 0) : ∀ h, va_rf t = .ref h → rlv S h := lk_r (fun z hz => by
  rw [ht] at hz
  cases hz
  intro q
  rw [q] at hk
  exact hc hk.symm)
theorem lk_n {S : Sg} : ∀ h, va_rf none = .ref h → rlv S h := fun _ e => nomatch e
theorem lk_s {S : Sg} {w : Nat} (hw : w < 1000) : ∀ h, Value.ref w = .ref h → rlv S h := fun h e => by cases e; exact Or.inr hw
theorem map_rl {S : Sg} {l : List Value} {ad ad' : Nat → Nat} (h : rl S l) (ha : ∀ z, rlv S z → ad' z = ad z) : l.map (cv ad') = l.map (cv ad) := by
  apply List.map_congr_left
  intro v hv
  cases v with
  | ref z => show Value.ref _ = Value.ref _; rw [ha z (h _ hv z rfl)]
  | _ => rfl
theorem lvm_rl {S : Sg} {l : List (Nat × Value)} {ad ad' : Nat → Nat} (h : rll S l) (ha : ∀ z, rlv S z → ad' z = ad z) : lvm ad' l = lvm ad l := by
  apply List.map_congr_left
  intro v hv
  obtain ⟨i, v⟩ := v
  cases v with
  | ref z => show (i, Value.ref _) = (i, Value.ref _); rw [ha z (h _ hv z rfl)]
  | _ => rfl
theorem live_of {S : Sg} {a c : Nat} (hk : sK S a % 32 = c) (hc : 1 ≤ c) : ¬ sK S a = 0 := fun q => by rw [q] at hk; omega
theorem iso_pI {D : Dg} {S σ : Sg} {ad : Nat → Nat} (h : Iso D S ad σ) {a : Nat} (ha : ¬ sK S a = 0) (k : Nat) (v : Int32) : Iso D (pI S a k v) ad (pI σ (ad a) k v) := by
  obtain ⟨h1, h2, h3⟩ := h
  refine ⟨fun z hz => ?_, h2, h3⟩
  obtain ⟨g1, g2, g3, g4, g5⟩ := h1 z hz
  refine ⟨g1, g2, ?_, g4, g5⟩
  funext j
  rw [sI_pI, sI_pI]
  by_cases e : z = a
  · subst e; simp [g3]
  · rw [if_neg (fun q => e (h2 z a hz ha q.1)), if_neg (fun q => e q.1), g3]
theorem iso_pL {D : Dg} {S σ : Sg} {ad : Nat → Nat} (h : Iso D S ad σ) {a : Nat} (ha : ¬ sK S a = 0) (k : Nat) (v : Int64) : Iso D (pL S a k v) ad (pL σ (ad a) k v) := by
  obtain ⟨h1, h2, h3⟩ := h
  refine ⟨fun z hz => ?_, h2, h3⟩
  obtain ⟨g1, g2, g3, g4, g5⟩ := h1 z hz
  refine ⟨g1, g2, g3, ?_, g5⟩
  funext j
  rw [sL_pL, sL_pL]
  by_cases e : z = a
  · subst e; simp [g4]
  · rw [if_neg (fun q => e (h2 z a hz ha q.1)), if_neg (fun q => e q.1), g4]
theorem iso_pR {D : Dg} {S σ : Sg} {ad : Nat → Nat} (h : Iso D S ad σ) {a : Nat} (ha : ¬ sK S a = 0) (k : Nat) (v : Option Nat) (hv : ∀ c, v = some c → rlv S c) : Iso D (pR S a k v) ad (pR σ (ad a) k (v.map ad)) := by
  obtain ⟨h1, h2, hcl, h3⟩ := h
  refine ⟨fun z hz => ?_, h2, fun z hz j r hr => ?_, h3⟩
  · obtain ⟨g1, g2, g3, g4, g5⟩ := h1 z hz
    refine ⟨g1, g2, g3, g4, fun j => ?_⟩
    rw [sR_pR, sR_pR]
    by_cases e : z = a
    · subst e
      by_cases e2 : j = k
      · simp [e2]
      · simp [e2, g5]
    · rw [if_neg (fun q => e (h2 z a hz ha q.1)), if_neg (fun q => e q.1), g5]
  · rw [sR_pR] at hr
    by_cases e : z = a ∧ j = k
    · rw [if_pos e] at hr; exact hv r hr
    · rw [if_neg e] at hr; exact hcl z hz j r hr
theorem iso_nw {D : Dg} {S σ : Sg} {ad : Nat → Nat} (h : Iso D S ad σ) {q q' κ n : Nat} (hq : sK S q = 0) (h1000 : 1000 ≤ q) (hq' : sK σ q' = 0) : Iso D (nw S q κ n) (va_up ad q q') (nw σ q' κ n) := by
  obtain ⟨h1, h2, hcl, h3, h4, h5, h6⟩ := h
  have hne : ∀ z, ¬ sK S z = 0 → ¬ ad z = q' := fun z hz e => by
    have := (h1 z hz).1
    rw [e, hq'] at this
    exact hz this.symm
  have hu : ∀ z, z ≠ q → va_up ad q q' z = ad z := fun z hz => va_up_ne _ _ hz
  have hs : va_up ad q q' q = q' := va_up_self _ _ _
  have hliv : ∀ z, z ≠ q → ¬ sK (nw S q κ n) z = 0 → ¬ sK S z = 0 := fun z hz h => by rw [sK_nw, if_neg hz] at h; exact h
  refine ⟨fun z hz => ?_, fun z z' hz hz' e => ?_, fun z hz j r hr => ?_, ?_, by rw [hu 1 (by omega)]; exact h4, by rw [hu 3 (by omega)]; exact h5, fun i hi => ⟨by rw [hu _ (by have : nJS = 19 := rfl; omega)]; exact (h6 i hi).1, by rw [hu _ (by have : nJS = 19 := rfl; omega)]; exact (h6 i hi).2⟩⟩
  · by_cases e : z = q
    · subst e
      rw [hs]
      refine ⟨by rw [sK_nw, sK_nw, if_pos rfl, if_pos rfl], by rw [sN_nw, sN_nw, if_pos rfl, if_pos rfl], by funext j; rw [sI_nw, sI_nw, if_pos rfl, if_pos rfl], by funext j; rw [sL_nw, sL_nw, if_pos rfl, if_pos rfl], fun j => by rw [sR_nw, sR_nw, if_pos rfl, if_pos rfl]; rfl⟩
    · have hl := hliv z e hz
      obtain ⟨g1, g2, g3, g4, g5⟩ := h1 z hl
      have hn := hne z hl
      rw [hu z e]
      refine ⟨by rw [sK_nw, sK_nw, if_neg hn, if_neg e]; exact g1, by rw [sN_nw, sN_nw, if_neg hn, if_neg e]; exact g2, by funext j; rw [sI_nw, sI_nw, if_neg hn, if_neg e, g3], by funext j; rw [sL_nw, sL_nw, if_neg hn, if_neg e, g4], fun j => ?_⟩
      rw [sR_nw, sR_nw, if_neg hn, if_neg e, g5]
      cases hr : sR S z j with
      | none => rfl
      | some r =>
        show some (ad r) = some (va_up ad q q' r)
        rw [hu r (fun e2 => by
          rcases hcl z hl j r hr with y | y
          · rw [e2] at y; exact y hq
          · omega)]
  · by_cases e1 : z = q
    · by_cases e2 : z' = q
      · rw [e1, e2]
      · rw [e1, hs, hu z' e2] at e
        exact absurd e.symm (hne z' (hliv z' e2 hz'))
    · by_cases e2 : z' = q
      · rw [e2, hs, hu z e1] at e
        exact absurd e (hne z (hliv z e1 hz))
      · rw [hu z e1, hu z' e2] at e
        exact h2 z z' (hliv z e1 hz) (hliv z' e2 hz') e
  · rw [sR_nw] at hr
    by_cases e : z = q
    · rw [if_pos e] at hr; cases hr
    · rw [if_neg e] at hr
      rcases hcl z (hliv z e hz) j r hr with y | y
      · refine Or.inl ?_
        rw [sK_nw, if_neg (fun e2 => by rw [e2] at y; exact y hq)]
        exact y
      · exact Or.inr y
  · rw [sK_nw, if_neg (by omega)]; exact h3
abbrev Ga : Type := Gx × ((Nat → Nat) → Prop) × (Nat → Nat)
def XA (g : Ga) (pc : Nat) (lv : List (Nat × Value)) (st : List Value) (S : Sg) (b : Nat × Nat) : Prop := ∀ (ad : Nat → Nat) (σ : Sg), g.2.1 ad → (∀ h, ¬ g.2.2 h = 0 → sK S h = g.2.2 h) → Iso (gD g.1) S ad σ → XJ g.1 pc (lvm ad lv) (st.map (cv ad)) σ b
section YS
variable {g : Ga} {cc : ByteArray} {own : String} {pc : Nat} {lv : List (Nat × Value)} {rest st : List Value} {S S1 : Sg} {b bc : Nat × Nat} {idx c n a q κ N w : Nat} {x : Option Nat} {rm : Room}
theorem y_sub {lv' : List (Nat × Value)} (ks : List Nat) (hl : lv_pick lv ks = lv') (k : XA g pc lv' st S b) : XA g pc lv st S b := fun ad σ h1 h2 h3 => x_sub ks (lvm_pick hl) (k ad σ h1 h2 h3)
theorem y_nmI {e : Int32} (k : ∀ y, y = e → XA g pc lv (.int y :: rest) S b) : XA g pc lv (.int e :: rest) S b := k e rfl
theorem y_nmJ {e : Int64} (k : ∀ y, y = e → XA g pc lv (.long y :: rest) S b) : XA g pc lv (.long e :: rest) S b := k e rfl
theorem y_nmR {e : Option Nat} (k : ∀ y, y = e → XA g pc lv (va_rf y :: rest) S b) : XA g pc lv (va_rf e :: rest) S b := k e rfl
theorem y_nmS (k : ∀ y, y = S → XA g pc lv st y b) : XA g pc lv st S b := k S rfl
theorem y_iconst (hg : GoodG g.1 cc own) {n : Int} {v : Int32} (d : decode cc pc = .ok (.iconst n, 1)) (hv : Int32.ofInt n = v) (k : XA g (pc + 1) lv (.int v :: rest) S b) : XA g pc lv rest S b := fun ad σ h1 h2 h3 => x_iconst hg d hv (k ad σ h1 h2 h3)
theorem y_bipush (hg : GoodG g.1 cc own) {n : Int} {v : Int32} (d : decode cc pc = .ok (.bipush n, 2)) (hv : (Int8.ofInt n).toInt32 = v) (k : XA g (pc + 2) lv (.int v :: rest) S b) : XA g pc lv rest S b := fun ad σ h1 h2 h3 => x_bipush hg d hv (k ad σ h1 h2 h3)
theorem y_sipush (hg : GoodG g.1 cc own) {n : Int} {v : Int32} (d : decode cc pc = .ok (.sipush n, 3)) (hv : (Int16.ofInt n).toInt32 = v) (k : XA g (pc + 3) lv (.int v :: rest) S b) : XA g pc lv rest S b := fun ad σ h1 h2 h3 => x_sipush hg d hv (k ad σ h1 h2 h3)
theorem y_lconst (hg : GoodG g.1 cc own) {n : Fin 2} {v : Int64} (d : decode cc pc = .ok (.lconst n, 1)) (hv : Int64.ofNat (n : Nat) = v) (k : XA g (pc + 1) lv (.long v :: rest) S b) : XA g pc lv rest S b := fun ad σ h1 h2 h3 => x_lconst hg d hv (k ad σ h1 h2 h3)
theorem y_goto (hg : GoodG g.1 cc own) {st : List Value} {off : Int} {tgt : Nat} (d : decode cc pc = .ok (.goto off, 3)) (ht : (pc : Int) + off = (tgt : Int)) (k : XA g tgt lv st S b) : XA g pc lv st S b := fun ad σ h1 h2 h3 => x_goto hg d ht (k ad σ h1 h2 h3)
theorem y_iadd (hg : GoodG g.1 cc own) {x y : Int32} (d : decode cc pc = .ok (.iadd, 1)) (k : XA g (pc + 1) lv (.int (x + y) :: rest) S b) : XA g pc lv (.int y :: .int x :: rest) S b := fun ad σ h1 h2 h3 => x_iadd hg d (k ad σ h1 h2 h3)
theorem y_isub (hg : GoodG g.1 cc own) {x y : Int32} (d : decode cc pc = .ok (.isub, 1)) (k : XA g (pc + 1) lv (.int (x - y) :: rest) S b) : XA g pc lv (.int y :: .int x :: rest) S b := fun ad σ h1 h2 h3 => x_isub hg d (k ad σ h1 h2 h3)
theorem y_imul (hg : GoodG g.1 cc own) {x y : Int32} (d : decode cc pc = .ok (.imul, 1)) (k : XA g (pc + 1) lv (.int (x * y) :: rest) S b) : XA g pc lv (.int y :: .int x :: rest) S b := fun ad σ h1 h2 h3 => x_imul hg d (k ad σ h1 h2 h3)
theorem y_iand (hg : GoodG g.1 cc own) {x y : Int32} (d : decode cc pc = .ok (.iand, 1)) (k : XA g (pc + 1) lv (.int (x &&& y) :: rest) S b) : XA g pc lv (.int y :: .int x :: rest) S b := fun ad σ h1 h2 h3 => x_iand hg d (k ad σ h1 h2 h3)
theorem y_ior (hg : GoodG g.1 cc own) {x y : Int32} (d : decode cc pc = .ok (.ior, 1)) (k : XA g (pc + 1) lv (.int (x ||| y) :: rest) S b) : XA g pc lv (.int y :: .int x :: rest) S b := fun ad σ h1 h2 h3 => x_ior hg d (k ad σ h1 h2 h3)
theorem y_ixor (hg : GoodG g.1 cc own) {x y : Int32} (d : decode cc pc = .ok (.ixor, 1)) (k : XA g (pc + 1) lv (.int (x ^^^ y) :: rest) S b) : XA g pc lv (.int y :: .int x :: rest) S b := fun ad σ h1 h2 h3 => x_ixor hg d (k ad σ h1 h2 h3)
theorem y_idiv (hg : GoodG g.1 cc own) {x y : Int32} (d : decode cc pc = .ok (.idiv, 1)) (hne : ¬ y = 0) (k : XA g (pc + 1) lv (.int (x / y) :: rest) S b) : XA g pc lv (.int y :: .int x :: rest) S b := fun ad σ h1 h2 h3 => x_idiv hg d hne (k ad σ h1 h2 h3)
theorem y_irem (hg : GoodG g.1 cc own) {x y : Int32} (d : decode cc pc = .ok (.irem, 1)) (hne : ¬ y = 0) (k : XA g (pc + 1) lv (.int (x - x / y * y) :: rest) S b) : XA g pc lv (.int y :: .int x :: rest) S b := fun ad σ h1 h2 h3 => x_irem hg d hne (k ad σ h1 h2 h3)
theorem y_ishl (hg : GoodG g.1 cc own) {x y : Int32} (d : decode cc pc = .ok (.ishl, 1)) (k : XA g (pc + 1) lv (.int (x <<< (y &&& 31)) :: rest) S b) : XA g pc lv (.int y :: .int x :: rest) S b := fun ad σ h1 h2 h3 => x_ishl hg d (k ad σ h1 h2 h3)
theorem y_ishr (hg : GoodG g.1 cc own) {x y : Int32} (d : decode cc pc = .ok (.ishr, 1)) (k : XA g (pc + 1) lv (.int (x >>> (y &&& 31)) :: rest) S b) : XA g pc lv (.int y :: .int x :: rest) S b := fun ad σ h1 h2 h3 => x_ishr hg d (k ad σ h1 h2 h3)
theorem y_ladd (hg : GoodG g.1 cc own) {x y : Int64} (d : decode cc pc = .ok (.ladd, 1)) (k : XA g (pc + 1) lv (.long (x + y) :: rest) S b) : XA g pc lv (.long y :: .long x :: rest) S b := fun ad σ h1 h2 h3 => x_ladd hg d (k ad σ h1 h2 h3)
theorem y_lsub (hg : GoodG g.1 cc own) {x y : Int64} (d : decode cc pc = .ok (.lsub, 1)) (k : XA g (pc + 1) lv (.long (x - y) :: rest) S b) : XA g pc lv (.long y :: .long x :: rest) S b := fun ad σ h1 h2 h3 => x_lsub hg d (k ad σ h1 h2 h3)
theorem y_lmul (hg : GoodG g.1 cc own) {x y : Int64} (d : decode cc pc = .ok (.lmul, 1)) (k : XA g (pc + 1) lv (.long (x * y) :: rest) S b) : XA g pc lv (.long y :: .long x :: rest) S b := fun ad σ h1 h2 h3 => x_lmul hg d (k ad σ h1 h2 h3)
theorem y_land (hg : GoodG g.1 cc own) {x y : Int64} (d : decode cc pc = .ok (.land, 1)) (k : XA g (pc + 1) lv (.long (x &&& y) :: rest) S b) : XA g pc lv (.long y :: .long x :: rest) S b := fun ad σ h1 h2 h3 => x_land hg d (k ad σ h1 h2 h3)
theorem y_lor (hg : GoodG g.1 cc own) {x y : Int64} (d : decode cc pc = .ok (.lor, 1)) (k : XA g (pc + 1) lv (.long (x ||| y) :: rest) S b) : XA g pc lv (.long y :: .long x :: rest) S b := fun ad σ h1 h2 h3 => x_lor hg d (k ad σ h1 h2 h3)
theorem y_ldiv (hg : GoodG g.1 cc own) {x y : Int64} (d : decode cc pc = .ok (.ldiv, 1)) (hne : ¬ y = 0) (k : XA g (pc + 1) lv (.long (x / y) :: rest) S b) : XA g pc lv (.long y :: .long x :: rest) S b := fun ad σ h1 h2 h3 => x_ldiv hg d hne (k ad σ h1 h2 h3)
theorem y_iushr (hg : GoodG g.1 cc own) {x y : Int32} (d : decode cc pc = .ok (.iushr, 1)) (k : XA g (pc + 1) lv (.int ((x.toUInt32 >>> (y.toUInt32 &&& Int32.toUInt32 31)).toInt32) :: rest) S b) : XA g pc lv (.int y :: .int x :: rest) S b := fun ad σ h1 h2 h3 => x_iushr hg d (k ad σ h1 h2 h3)
theorem y_lshl (hg : GoodG g.1 cc own) {x : Int64} {y : Int32} (d : decode cc pc = .ok (.lshl, 1)) (k : XA g (pc + 1) lv (.long (x <<< (y.toInt64 &&& 63)) :: rest) S b) : XA g pc lv (.int y :: .long x :: rest) S b := fun ad σ h1 h2 h3 => x_lshl hg d (k ad σ h1 h2 h3)
theorem y_ineg (hg : GoodG g.1 cc own) {x : Int32} (d : decode cc pc = .ok (.ineg, 1)) (k : XA g (pc + 1) lv (.int (-x) :: rest) S b) : XA g pc lv (.int x :: rest) S b := fun ad σ h1 h2 h3 => x_ineg hg d (k ad σ h1 h2 h3)
theorem y_lneg (hg : GoodG g.1 cc own) {x : Int64} (d : decode cc pc = .ok (.lneg, 1)) (k : XA g (pc + 1) lv (.long (-x) :: rest) S b) : XA g pc lv (.long x :: rest) S b := fun ad σ h1 h2 h3 => x_lneg hg d (k ad σ h1 h2 h3)
theorem y_i2l (hg : GoodG g.1 cc own) {x : Int32} (d : decode cc pc = .ok (.i2l, 1)) (k : XA g (pc + 1) lv (.long x.toInt64 :: rest) S b) : XA g pc lv (.int x :: rest) S b := fun ad σ h1 h2 h3 => x_i2l hg d (k ad σ h1 h2 h3)
theorem y_l2i (hg : GoodG g.1 cc own) {x : Int64} (d : decode cc pc = .ok (.l2i, 1)) (k : XA g (pc + 1) lv (.int x.toInt32 :: rest) S b) : XA g pc lv (.long x :: rest) S b := fun ad σ h1 h2 h3 => x_l2i hg d (k ad σ h1 h2 h3)
theorem y_i2b (hg : GoodG g.1 cc own) {x : Int32} (d : decode cc pc = .ok (.i2b, 1)) (k : XA g (pc + 1) lv (.int x.toInt8.toInt32 :: rest) S b) : XA g pc lv (.int x :: rest) S b := fun ad σ h1 h2 h3 => x_i2b hg d (k ad σ h1 h2 h3)
theorem y_i2c (hg : GoodG g.1 cc own) {x v : Int32} (d : decode cc pc = .ok (.i2c, 1)) (hv : (x.toUInt32 % 65536).toInt32 = v) (k : XA g (pc + 1) lv (.int v :: rest) S b) : XA g pc lv (.int x :: rest) S b := fun ad σ h1 h2 h3 => x_i2c hg d hv (k ad σ h1 h2 h3)
theorem y_lcmp (hg : GoodG g.1 cc own) {x y : Int64} (d : decode cc pc = .ok (.lcmp, 1)) (k : XA g (pc + 1) lv (.int (lg_cmp x y) :: rest) S b) : XA g pc lv (.long y :: .long x :: rest) S b := fun ad σ h1 h2 h3 => x_lcmp hg d (k ad σ h1 h2 h3)
theorem y_null (hg : GoodG g.1 cc own) (d : decode cc pc = .ok (.aconst_null, 1)) (k : XA g (pc + 1) lv (va_rf none :: rest) S b) : XA g pc lv rest S b := fun ad σ h1 h2 h3 => x_null hg d (k ad σ h1 h2 h3)
theorem y_dup (hg : GoodG g.1 cc own) {va : Value} (d : decode cc pc = .ok (.dup, 1)) (hva : va.category = 1) (k : XA g (pc + 1) lv (va :: va :: rest) S b) : XA g pc lv (va :: rest) S b := fun ad σ h1 h2 h3 => x_dup hg d ((cv_cat _ _).trans hva) (k ad σ h1 h2 h3)
theorem y_pop (hg : GoodG g.1 cc own) {va : Value} (d : decode cc pc = .ok (.pop, 1)) (hva : va.category = 1) (k : XA g (pc + 1) lv rest S b) : XA g pc lv (va :: rest) S b := fun ad σ h1 h2 h3 => x_pop hg d ((cv_cat _ _).trans hva) (k ad σ h1 h2 h3)
theorem y_dup_x1 (hg : GoodG g.1 cc own) {va vb : Value} (d : decode cc pc = .ok (.dup_x1, 1)) (hva : va.category = 1) (hvb : vb.category = 1) (k : XA g (pc + 1) lv (va :: vb :: va :: rest) S b) : XA g pc lv (va :: vb :: rest) S b := fun ad σ h1 h2 h3 => x_dup_x1 hg d ((cv_cat _ _).trans hva) ((cv_cat _ _).trans hvb) (k ad σ h1 h2 h3)
theorem y_dup_x2 (hg : GoodG g.1 cc own) {va vb vd : Value} (d : decode cc pc = .ok (.dup_x2, 1)) (hva : va.category = 1) (hvb : vb.category = 1) (hvd : vd.category = 1) (k : XA g (pc + 1) lv (va :: vb :: vd :: va :: rest) S b) : XA g pc lv (va :: vb :: vd :: rest) S b := fun ad σ h1 h2 h3 => x_dup_x2 hg d ((cv_cat _ _).trans hva) ((cv_cat _ _).trans hvb) ((cv_cat _ _).trans hvd) (k ad σ h1 h2 h3)
theorem y_dup2 (hg : GoodG g.1 cc own) {va vb : Value} (d : decode cc pc = .ok (.dup2, 1)) (hva : va.category = 1) (hvb : vb.category = 1) (k : XA g (pc + 1) lv (va :: vb :: va :: vb :: rest) S b) : XA g pc lv (va :: vb :: rest) S b := fun ad σ h1 h2 h3 => x_dup2 hg d ((cv_cat _ _).trans hva) ((cv_cat _ _).trans hvb) (k ad σ h1 h2 h3)
theorem y_dup2L (hg : GoodG g.1 cc own) {va : Value} (d : decode cc pc = .ok (.dup2, 1)) (hva : va.category = 2) (k : XA g (pc + 1) lv (va :: va :: rest) S b) : XA g pc lv (va :: rest) S b := fun ad σ h1 h2 h3 => x_dup2L hg d ((cv_cat _ _).trans hva) (k ad σ h1 h2 h3)
theorem y_if_eq (hg : GoodG g.1 cc own) {x : Int32} {off : Int} {tgt : Nat} (d : decode cc pc = .ok (.ifCond .eq off, 3)) (ht : (pc : Int) + off = (tgt : Int)) (kt : x = 0 → XA g tgt lv rest S b) (kf : ¬ x = 0 → XA g (pc + 3) lv rest S b) : XA g pc lv (.int x :: rest) S b := fun ad σ h1 h2 h3 => x_if_eq hg d ht (fun q => kt q ad σ h1 h2 h3) (fun q => kf q ad σ h1 h2 h3)
theorem y_icmp_eq (hg : GoodG g.1 cc own) {x y : Int32} {off : Int} {tgt : Nat} (d : decode cc pc = .ok (.if_icmp .eq off, 3)) (ht : (pc : Int) + off = (tgt : Int)) (kt : x = y → XA g tgt lv rest S b) (kf : ¬ x = y → XA g (pc + 3) lv rest S b) : XA g pc lv (.int y :: .int x :: rest) S b := fun ad σ h1 h2 h3 => x_icmp_eq hg d ht (fun q => kt q ad σ h1 h2 h3) (fun q => kf q ad σ h1 h2 h3)
theorem y_if_ne (hg : GoodG g.1 cc own) {x : Int32} {off : Int} {tgt : Nat} (d : decode cc pc = .ok (.ifCond .ne off, 3)) (ht : (pc : Int) + off = (tgt : Int)) (kt : ¬ x = 0 → XA g tgt lv rest S b) (kf : x = 0 → XA g (pc + 3) lv rest S b) : XA g pc lv (.int x :: rest) S b := fun ad σ h1 h2 h3 => x_if_ne hg d ht (fun q => kt q ad σ h1 h2 h3) (fun q => kf q ad σ h1 h2 h3)
theorem y_icmp_ne (hg : GoodG g.1 cc own) {x y : Int32} {off : Int} {tgt : Nat} (d : decode cc pc = .ok (.if_icmp .ne off, 3)) (ht : (pc : Int) + off = (tgt : Int)) (kt : ¬ x = y → XA g tgt lv rest S b) (kf : x = y → XA g (pc + 3) lv rest S b) : XA g pc lv (.int y :: .int x :: rest) S b := fun ad σ h1 h2 h3 => x_icmp_ne hg d ht (fun q => kt q ad σ h1 h2 h3) (fun q => kf q ad σ h1 h2 h3)
theorem y_if_lt (hg : GoodG g.1 cc own) {x : Int32} {off : Int} {tgt : Nat} (d : decode cc pc = .ok (.ifCond .lt off, 3)) (ht : (pc : Int) + off = (tgt : Int)) (kt : x < 0 → XA g tgt lv rest S b) (kf : ¬ x < 0 → XA g (pc + 3) lv rest S b) : XA g pc lv (.int x :: rest) S b := fun ad σ h1 h2 h3 => x_if_lt hg d ht (fun q => kt q ad σ h1 h2 h3) (fun q => kf q ad σ h1 h2 h3)
theorem y_icmp_lt (hg : GoodG g.1 cc own) {x y : Int32} {off : Int} {tgt : Nat} (d : decode cc pc = .ok (.if_icmp .lt off, 3)) (ht : (pc : Int) + off = (tgt : Int)) (kt : x < y → XA g tgt lv rest S b) (kf : ¬ x < y → XA g (pc + 3) lv rest S b) : XA g pc lv (.int y :: .int x :: rest) S b := fun ad σ h1 h2 h3 => x_icmp_lt hg d ht (fun q => kt q ad σ h1 h2 h3) (fun q => kf q ad σ h1 h2 h3)
theorem y_if_ge (hg : GoodG g.1 cc own) {x : Int32} {off : Int} {tgt : Nat} (d : decode cc pc = .ok (.ifCond .ge off, 3)) (ht : (pc : Int) + off = (tgt : Int)) (kt : 0 ≤ x → XA g tgt lv rest S b) (kf : ¬ 0 ≤ x → XA g (pc + 3) lv rest S b) : XA g pc lv (.int x :: rest) S b := fun ad σ h1 h2 h3 => x_if_ge hg d ht (fun q => kt q ad σ h1 h2 h3) (fun q => kf q ad σ h1 h2 h3)
theorem y_icmp_ge (hg : GoodG g.1 cc own) {x y : Int32} {off : Int} {tgt : Nat} (d : decode cc pc = .ok (.if_icmp .ge off, 3)) (ht : (pc : Int) + off = (tgt : Int)) (kt : y ≤ x → XA g tgt lv rest S b) (kf : ¬ y ≤ x → XA g (pc + 3) lv rest S b) : XA g pc lv (.int y :: .int x :: rest) S b := fun ad σ h1 h2 h3 => x_icmp_ge hg d ht (fun q => kt q ad σ h1 h2 h3) (fun q => kf q ad σ h1 h2 h3)
theorem y_if_gt (hg : GoodG g.1 cc own) {x : Int32} {off : Int} {tgt : Nat} (d : decode cc pc = .ok (.ifCond .gt off, 3)) (ht : (pc : Int) + off = (tgt : Int)) (kt : 0 < x → XA g tgt lv rest S b) (kf : ¬ 0 < x → XA g (pc + 3) lv rest S b) : XA g pc lv (.int x :: rest) S b := fun ad σ h1 h2 h3 => x_if_gt hg d ht (fun q => kt q ad σ h1 h2 h3) (fun q => kf q ad σ h1 h2 h3)
theorem y_icmp_gt (hg : GoodG g.1 cc own) {x y : Int32} {off : Int} {tgt : Nat} (d : decode cc pc = .ok (.if_icmp .gt off, 3)) (ht : (pc : Int) + off = (tgt : Int)) (kt : y < x → XA g tgt lv rest S b) (kf : ¬ y < x → XA g (pc + 3) lv rest S b) : XA g pc lv (.int y :: .int x :: rest) S b := fun ad σ h1 h2 h3 => x_icmp_gt hg d ht (fun q => kt q ad σ h1 h2 h3) (fun q => kf q ad σ h1 h2 h3)
theorem y_if_le (hg : GoodG g.1 cc own) {x : Int32} {off : Int} {tgt : Nat} (d : decode cc pc = .ok (.ifCond .le off, 3)) (ht : (pc : Int) + off = (tgt : Int)) (kt : x ≤ 0 → XA g tgt lv rest S b) (kf : ¬ x ≤ 0 → XA g (pc + 3) lv rest S b) : XA g pc lv (.int x :: rest) S b := fun ad σ h1 h2 h3 => x_if_le hg d ht (fun q => kt q ad σ h1 h2 h3) (fun q => kf q ad σ h1 h2 h3)
theorem y_icmp_le (hg : GoodG g.1 cc own) {x y : Int32} {off : Int} {tgt : Nat} (d : decode cc pc = .ok (.if_icmp .le off, 3)) (ht : (pc : Int) + off = (tgt : Int)) (kt : x ≤ y → XA g tgt lv rest S b) (kf : ¬ x ≤ y → XA g (pc + 3) lv rest S b) : XA g pc lv (.int y :: .int x :: rest) S b := fun ad σ h1 h2 h3 => x_icmp_le hg d ht (fun q => kt q ad σ h1 h2 h3) (fun q => kf q ad σ h1 h2 h3)
theorem y_tableOut (hg : GoodG g.1 cc own) {dflt lo hi : Int} {offs : Array Int} {len : Nat} {x : Int32} {tgt : Nat} (d : decode cc pc = .ok (.tableswitch dflt lo hi offs, len)) (h : x.toInt < lo ∨ hi < x.toInt) (ht : (pc : Int) + dflt = (tgt : Int)) (k : XA g tgt lv rest S b) : XA g pc lv (.int x :: rest) S b := fun ad σ z1 z2 z3 => x_tableOut hg d h ht (k ad σ z1 z2 z3)
theorem y_tableIn (hg : GoodG g.1 cc own) {dflt lo hi : Int} {offs : Array Int} {len : Nat} {x : Int32} {off : Int} {tgt : Nat} (d : decode cc pc = .ok (.tableswitch dflt lo hi offs, len)) (h1 : ¬ x.toInt < lo) (h2 : ¬ hi < x.toInt) (ho : offs[(x.toInt - lo).toNat]? = some off) (ht : (pc : Int) + off = (tgt : Int)) (k : XA g tgt lv rest S b) : XA g pc lv (.int x :: rest) S b := fun ad σ z1 z2 z3 => x_tableIn hg d h1 h2 ho ht (k ad σ z1 z2 z3)
theorem y_iload_n (hg : GoodG g.1 cc own) {j : Fin 4} {i : Nat} {x : Int32} (k : Nat) (d : decode cc pc = .ok (.iload_n j, 1)) (hi : (j : Nat) = i) (hk : lv[k]? = some (i, .int x)) (kk : XA g (pc + 1) lv (.int x :: rest) S b) : XA g pc lv rest S b := fun ad σ h1 h2 h3 => x_iload_n hg k d hi (lvm_at hk) (kk ad σ h1 h2 h3)
theorem y_iload (hg : GoodG g.1 cc own) {i : Nat} {x : Int32} (k : Nat) (d : decode cc pc = .ok (.iload i, 2)) (hk : lv[k]? = some (i, .int x)) (kk : XA g (pc + 2) lv (.int x :: rest) S b) : XA g pc lv rest S b := fun ad σ h1 h2 h3 => x_iload hg k d (lvm_at hk) (kk ad σ h1 h2 h3)
theorem y_istore_n (hg : GoodG g.1 cc own) {j : Fin 4} {i : Nat} {x : Int32} {lv' : List (Nat × Value)} (d : decode cc pc = .ok (.istore_n j, 1)) (hi : (j : Nat) = i) (hn : i < gN g.1) (hv : (i, .int x) :: lv.filter (fun q => !(q.1 == i) && !(q.1 + 1 == i && q.2.category == 2)) = lv') (kk : XA g (pc + 1) lv' rest S b) : XA g pc lv (.int x :: rest) S b := fun ad σ h1 h2 h3 => x_istore_n hg d hi hn (lvm_s1 hv) (kk ad σ h1 h2 h3)
theorem y_istore (hg : GoodG g.1 cc own) {i : Nat} {x : Int32} {lv' : List (Nat × Value)} (d : decode cc pc = .ok (.istore i, 2)) (hn : i < gN g.1) (hv : (i, .int x) :: lv.filter (fun q => !(q.1 == i) && !(q.1 + 1 == i && q.2.category == 2)) = lv') (kk : XA g (pc + 2) lv' rest S b) : XA g pc lv (.int x :: rest) S b := fun ad σ h1 h2 h3 => x_istore hg d hn (lvm_s1 hv) (kk ad σ h1 h2 h3)
theorem y_lload_n (hg : GoodG g.1 cc own) {j : Fin 4} {i : Nat} {x : Int64} (k : Nat) (d : decode cc pc = .ok (.lload_n j, 1)) (hi : (j : Nat) = i) (hk : lv[k]? = some (i, .long x)) (kk : XA g (pc + 1) lv (.long x :: rest) S b) : XA g pc lv rest S b := fun ad σ h1 h2 h3 => x_lload_n hg k d hi (lvm_at hk) (kk ad σ h1 h2 h3)
theorem y_lload (hg : GoodG g.1 cc own) {i : Nat} {x : Int64} (k : Nat) (d : decode cc pc = .ok (.lload i, 2)) (hk : lv[k]? = some (i, .long x)) (kk : XA g (pc + 2) lv (.long x :: rest) S b) : XA g pc lv rest S b := fun ad σ h1 h2 h3 => x_lload hg k d (lvm_at hk) (kk ad σ h1 h2 h3)
theorem y_lstore_n (hg : GoodG g.1 cc own) {j : Fin 4} {i : Nat} {x : Int64} {lv' : List (Nat × Value)} (d : decode cc pc = .ok (.lstore_n j, 1)) (hi : (j : Nat) = i) (hn : i + 1 < gN g.1) (hv : (i, .long x) :: lv.filter (fun q => !(q.1 == i) && (!(q.1 == i + 1) && !(q.1 + 1 == i && q.2.category == 2))) = lv') (kk : XA g (pc + 1) lv' rest S b) : XA g pc lv (.long x :: rest) S b := fun ad σ h1 h2 h3 => x_lstore_n hg d hi hn (lvm_s2 hv) (kk ad σ h1 h2 h3)
theorem y_lstore (hg : GoodG g.1 cc own) {i : Nat} {x : Int64} {lv' : List (Nat × Value)} (d : decode cc pc = .ok (.lstore i, 2)) (hn : i + 1 < gN g.1) (hv : (i, .long x) :: lv.filter (fun q => !(q.1 == i) && (!(q.1 == i + 1) && !(q.1 + 1 == i && q.2.category == 2))) = lv') (kk : XA g (pc + 2) lv' rest S b) : XA g pc lv (.long x :: rest) S b := fun ad σ h1 h2 h3 => x_lstore hg d hn (lvm_s2 hv) (kk ad σ h1 h2 h3)
theorem xa_st {v w : Value} {pc : Nat} {lv : List (Nat × Value)} {g0 : Gx} {σ : Sg} (e : v = w) (k : XJ g0 pc lv (v :: rest) σ b) : XJ g0 pc lv (w :: rest) σ b := e ▸ k
theorem y_aload_n (hg : GoodG g.1 cc own) {j : Fin 4} {i : Nat} {x : Option Nat} (k : Nat) (d : decode cc pc = .ok (.aload_n j, 1)) (hi : (j : Nat) = i) (hk : lv[k]? = some (i, va_rf x)) (kk : XA g (pc + 1) lv (va_rf x :: rest) S b) : XA g pc lv rest S b := fun ad σ h1 h2 h3 => x_aload_n (x := x.map ad) hg k d hi (by rw [← cv_rf]; exact lvm_at hk) (xa_st (cv_rf ad x) (kk ad σ h1 h2 h3))
theorem y_aload (hg : GoodG g.1 cc own) {i : Nat} {x : Option Nat} (k : Nat) (d : decode cc pc = .ok (.aload i, 2)) (hk : lv[k]? = some (i, va_rf x)) (kk : XA g (pc + 2) lv (va_rf x :: rest) S b) : XA g pc lv rest S b := fun ad σ h1 h2 h3 => x_aload (x := x.map ad) hg k d (by rw [← cv_rf]; exact lvm_at hk) (xa_st (cv_rf ad x) (kk ad σ h1 h2 h3))
theorem y_sload_n {j : Fin 4} {i : Nat} {x : Nat} (k : Nat) (hg : GoodG g.1 cc own) (d : decode cc pc = .ok (.aload_n j, 1)) (hi : (j : Nat) = i) (hk : lv[k]? = some (i, .ref x)) (kk : XA g (pc + 1) lv (.ref x :: rest) S b) : XA g pc lv rest S b := y_aload_n (x := some x) hg k d hi hk kk
theorem y_sload {i : Nat} {x : Nat} (k : Nat) (hg : GoodG g.1 cc own) (d : decode cc pc = .ok (.aload i, 2)) (hk : lv[k]? = some (i, .ref x)) (kk : XA g (pc + 2) lv (.ref x :: rest) S b) : XA g pc lv rest S b := y_aload (x := some x) hg k d hk kk
theorem y_astore_n (hg : GoodG g.1 cc own) {j : Fin 4} {i : Nat} {x : Option Nat} {lv' : List (Nat × Value)} (d : decode cc pc = .ok (.astore_n j, 1)) (hi : (j : Nat) = i) (hn : i < gN g.1) (hv : (i, va_rf x) :: lv.filter (fun q => !(q.1 == i) && !(q.1 + 1 == i && q.2.category == 2)) = lv') (kk : XA g (pc + 1) lv' rest S b) : XA g pc lv (va_rf x :: rest) S b := fun ad σ h1 h2 h3 => xa_st (cv_rf ad x).symm (x_astore_n (x := x.map ad) hg d hi hn (by rw [← cv_rf]; exact lvm_s1 hv) (kk ad σ h1 h2 h3))
theorem y_astore (hg : GoodG g.1 cc own) {i : Nat} {x : Option Nat} {lv' : List (Nat × Value)} (d : decode cc pc = .ok (.astore i, 2)) (hn : i < gN g.1) (hv : (i, va_rf x) :: lv.filter (fun q => !(q.1 == i) && !(q.1 + 1 == i && q.2.category == 2)) = lv') (kk : XA g (pc + 2) lv' rest S b) : XA g pc lv (va_rf x :: rest) S b := fun ad σ h1 h2 h3 => xa_st (cv_rf ad x).symm (x_astore (x := x.map ad) hg d hn (by rw [← cv_rf]; exact lvm_s1 hv) (kk ad σ h1 h2 h3))
theorem y_iinc (hg : GoodG g.1 cc own) {i : Nat} {n : Int} {x v : Int32} {lv' : List (Nat × Value)} (k : Nat) (d : decode cc pc = .ok (.iinc i n, 3)) (hk : lv[k]? = some (i, .int x)) (hv : x + Int32.ofInt n = v) (hn : i < gN g.1) (hq : (i, .int v) :: lv.filter (fun q => !(q.1 == i) && !(q.1 + 1 == i && q.2.category == 2)) = lv') (kk : XA g (pc + 3) lv' rest S b) : XA g pc lv rest S b := fun ad σ h1 h2 h3 => x_iinc hg k d (lvm_at hk) hv hn (lvm_s1 hq) (kk ad σ h1 h2 h3)
theorem y_ifnull (hg : GoodG g.1 cc own) {x : Option Nat} {off : Int} {tgt : Nat} (d : decode cc pc = .ok (.ifnull off, 3)) (ht : (pc : Int) + off = (tgt : Int)) (kt : x = none → XA g tgt lv rest S b) (kf : ∀ y, x = some y → XA g (pc + 3) lv rest S b) : XA g pc lv (va_rf x :: rest) S b := fun ad σ h1 h2 h3 => xa_st (cv_rf ad x).symm (x_ifnull (x := x.map ad) hg d ht (fun q => kt (by cases x with | none => rfl | some y => cases q) ad σ h1 h2 h3) (fun y q => by
  cases x with
  | none => cases q
  | some z => exact kf z rfl ad σ h1 h2 h3))
theorem y_ifnonnull (hg : GoodG g.1 cc own) {x : Option Nat} {off : Int} {tgt : Nat} (d : decode cc pc = .ok (.ifnonnull off, 3)) (ht : (pc : Int) + off = (tgt : Int)) (kt : ∀ y, x = some y → XA g tgt lv rest S b) (kf : x = none → XA g (pc + 3) lv rest S b) : XA g pc lv (va_rf x :: rest) S b := fun ad σ h1 h2 h3 => xa_st (cv_rf ad x).symm (x_ifnonnull (x := x.map ad) hg d ht (fun y q => by
  cases x with
  | none => cases q
  | some z => exact kt z rfl ad σ h1 h2 h3) (fun q => kf (by cases x with | none => rfl | some y => cases q) ad σ h1 h2 h3))
theorem y_acmpE (hg : GoodG g.1 cc own) {x : Option Nat} {off : Int} {tgt : Nat} (d : decode cc pc = .ok (.if_acmp .eq off, 3)) (ht : (pc : Int) + off = (tgt : Int)) (hx : x = some a) (hl : ¬ sK S a = 0) (kt : a = 2 → XA g tgt lv rest S b) (kf : ¬ a = 2 → XA g (pc + 3) lv rest S b) : XA g pc lv (va_rf (some 2) :: va_rf x :: rest) S b := by
  subst hx
  intro ad σ h1 h2 h3
  have h25 : ¬ sK S 2 = 0 := by rw [h3.2.2.2.1]; decide
  exact x_acmp_eq (x := some (ad a)) (y := some (ad 2)) hg d ht (fun q => kt (h3.2.1 a 2 hl h25 (Option.some.inj q)) ad σ h1 h2 h3) (fun q => kf (fun e => q (by rw [e])) ad σ h1 h2 h3)
theorem y_acmpM (hg : GoodG g.1 cc own) {off : Int} {tgt : Nat} (d : decode cc pc = .ok (.if_acmp .ne off, 3)) (ht : (pc : Int) + off = (tgt : Int)) (kf : XA g (pc + 3) lv rest S b) : XA g pc lv (va_rf (some 3) :: va_rf (some 3) :: rest) S b := fun ad σ h1 h2 h3 => x_acmp_ne (x := some (ad 3)) (y := some (ad 3)) hg d ht (fun q => absurd rfl q) (fun _ => kf ad σ h1 h2 h3)
theorem y_ldc (hg : GoodG g.1 cc own) {index : Nat} {v : Int32} (hw : Cond.constant own index v ∈ AW) (d : decode cc pc = .ok (.ldc index, 2)) (k : XA g (pc + 2) lv (.int v :: rest) S b) : XA g pc lv rest S b := fun ad σ h1 h2 h3 => x_ldc hg hw d (k ad σ h1 h2 h3)
theorem y_ldcw (hg : GoodG g.1 cc own) {index : Nat} {v : Int32} (hw : Cond.constant own index v ∈ AW) (d : decode cc pc = .ok (.ldc_w index, 3)) (k : XA g (pc + 3) lv (.int v :: rest) S b) : XA g pc lv rest S b := fun ad σ h1 h2 h3 => x_ldcw hg hw d (k ad σ h1 h2 h3)
theorem y_ldc2 (hg : GoodG g.1 cc own) {index : Nat} {v : Int64} (hw : Cond.constantLong own index v ∈ AW) (d : decode cc pc = .ok (.ldc2_w index, 3)) (k : XA g (pc + 3) lv (.long v :: rest) S b) : XA g pc lv rest S b := fun ad σ h1 h2 h3 => x_ldc2 hg hw d (k ad σ h1 h2 h3)
theorem y_ldcS {index i : Nat} {tx : String} (hg : GoodG g.1 cc "RainStreets$Tape") (hi : i < nJS) (ht : strT.getD i (0, "") = (index, tx)) (d : decode cc pc = .ok (.ldc index, 2)) (k : XA g (pc + 2) lv (.ref (100 + i) :: rest) S b) : XA g pc lv rest S b := fun ad σ h1 h2 h3 => x_ldcS hg hi ht d (xa_st (by show Value.ref (ad (100 + i)) = _; rw [(h3.2.2.2.2.2.2 i hi).1]) (k ad σ h1 h2 h3))
theorem y_ldcM (hg : GoodG g.1 cc own) (hl : Cond.classLink own idx "[Ljava/lang/Object;" ∈ AW) (d : decode cc pc = .ok (.ldc idx, 2)) (kk : XA g (pc + 2) lv (va_rf (some 3) :: rest) S b) : XA g pc lv rest S b := fun ad σ h1 h2 h3 => x_ldcM hg hl d (xa_st (by show Value.ref (ad 3) = _; rw [h3.2.2.2.2.2.1]; rfl) (kk ad σ h1 h2 h3))
theorem y_getI (hg : GoodG g.1 cc own) {k : Nat} (hF : FL own idx c k) (ht : tgT (fty c k) = 0) (hx : x = some a) (hk : sK S a % 32 = c) (d : decode cc pc = .ok (.getfield idx, 3)) (kk : XA g (pc + 3) lv (.int (sI S a k) :: rest) S b) : XA g pc lv (va_rf x :: rest) S b := by
  subst hx
  intro ad σ h1 h2 h3
  have hl := live_of hk (by obtain ⟨_, _, _, _, -, h, -⟩ := hF; exact h)
  obtain ⟨g1, g2, g3, g4, g5⟩ := h3.1 a hl
  exact x_getI (x := some (ad a)) hg hF ht rfl (by rw [g1]; exact hk) d (xa_st (by rw [g3]; rfl) (kk ad σ h1 h2 h3))
theorem y_getL (hg : GoodG g.1 cc own) {k : Nat} (hF : FL own idx c k) (ht : tgT (fty c k) = 1) (hx : x = some a) (hk : sK S a % 32 = c) (d : decode cc pc = .ok (.getfield idx, 3)) (kk : XA g (pc + 3) lv (.long (sL S a k) :: rest) S b) : XA g pc lv (va_rf x :: rest) S b := by
  subst hx
  intro ad σ h1 h2 h3
  have hl := live_of hk (by obtain ⟨_, _, _, _, -, h, -⟩ := hF; exact h)
  obtain ⟨g1, g2, g3, g4, g5⟩ := h3.1 a hl
  exact x_getL (x := some (ad a)) hg hF ht rfl (by rw [g1]; exact hk) d (xa_st (by rw [g4]; rfl) (kk ad σ h1 h2 h3))
theorem y_getR (hg : GoodG g.1 cc own) {k : Nat} (hF : FL own idx c k) (ht : tgT (fty c k) = 2) (hx : x = some a) (hk : sK S a % 32 = c) (d : decode cc pc = .ok (.getfield idx, 3)) (kk : XA g (pc + 3) lv (va_rf (sR S a k) :: rest) S b) : XA g pc lv (va_rf x :: rest) S b := by
  subst hx
  intro ad σ h1 h2 h3
  have hl := live_of hk (by obtain ⟨_, _, _, _, -, h, -⟩ := hF; exact h)
  obtain ⟨g1, g2, g3, g4, g5⟩ := h3.1 a hl
  exact x_getR (x := some (ad a)) hg hF ht rfl (by rw [g1]; exact hk) d (xa_st (by rw [g5, cv_rf]) (kk ad σ h1 h2 h3))
theorem y_putI (hg : GoodG g.1 cc own) {k : Nat} {fin : Bool} {v : Int32} (hF : FW own idx c k fin .int) (hfin : fin = true → gI g.1 = "<init>") (hx : x = some a) (hk : sK S a % 32 = c) (d : decode cc pc = .ok (.putfield idx, 3)) (kk : XA g (pc + 3) lv rest (pI S a k v) b) : XA g pc lv (.int v :: va_rf x :: rest) S b := by
  subst hx
  intro ad σ h1 h2 h3
  have hl := live_of hk (by obtain ⟨_, _, _, _, -, h, -⟩ := hF; exact h)
  obtain ⟨g1, g2, g3, g4, g5⟩ := h3.1 a hl
  exact x_putI (x := some (ad a)) hg hF hfin rfl (by rw [g1]; exact hk) d (kk ad _ h1 h2 (iso_pI h3 hl k v))
theorem y_putZ (hg : GoodG g.1 cc own) {k : Nat} {fin : Bool} {v : Int32} (hF : FW own idx c k fin .boolean) (hfin : fin = true → gI g.1 = "<init>") (hx : x = some a) (hk : sK S a % 32 = c) (hz : bz v) (d : decode cc pc = .ok (.putfield idx, 3)) (kk : XA g (pc + 3) lv rest (pI S a k v) b) : XA g pc lv (.int v :: va_rf x :: rest) S b := by
  subst hx
  intro ad σ h1 h2 h3
  have hl := live_of hk (by obtain ⟨_, _, _, _, -, h, -⟩ := hF; exact h)
  obtain ⟨g1, g2, g3, g4, g5⟩ := h3.1 a hl
  exact x_putZ (x := some (ad a)) hg hF hfin rfl (by rw [g1]; exact hk) hz d (kk ad _ h1 h2 (iso_pI h3 hl k v))
theorem y_putL (hg : GoodG g.1 cc own) {k : Nat} {fin : Bool} {v : Int64} (hF : FW own idx c k fin .long) (hfin : fin = true → gI g.1 = "<init>") (hx : x = some a) (hk : sK S a % 32 = c) (d : decode cc pc = .ok (.putfield idx, 3)) (kk : XA g (pc + 3) lv rest (pL S a k v) b) : XA g pc lv (.long v :: va_rf x :: rest) S b := by
  subst hx
  intro ad σ h1 h2 h3
  have hl := live_of hk (by obtain ⟨_, _, _, _, -, h, -⟩ := hF; exact h)
  obtain ⟨g1, g2, g3, g4, g5⟩ := h3.1 a hl
  exact x_putL (x := some (ad a)) hg hF hfin rfl (by rw [g1]; exact hk) d (kk ad _ h1 h2 (iso_pL h3 hl k v))
theorem y_putR (hg : GoodG g.1 cc own) {k : Nat} {fin : Bool} {ty : FieldType} {v : Option Nat} (hF : FW own idx c k fin ty) (hty : tgT ty = 2) (hfin : fin = true → gI g.1 = "<init>") (hx : x = some a) (hk : sK S a % 32 = c) (hv : ∀ z, v = some z → rlv S z) (d : decode cc pc = .ok (.putfield idx, 3)) (kk : XA g (pc + 3) lv rest (pR S a k v) b) : XA g pc lv (va_rf v :: va_rf x :: rest) S b := by
  subst hx
  intro ad σ h1 h2 h3
  have hl := live_of hk (by obtain ⟨_, _, _, _, -, h, -⟩ := hF; exact h)
  obtain ⟨g1, g2, g3, g4, g5⟩ := h3.1 a hl
  exact xa_st (cv_rf ad v).symm (x_putR (x := some (ad a)) (v := v.map ad) hg hF hty hfin rfl (by rw [g1]; exact hk) d (kk ad _ h1 h2 (iso_pR h3 hl k v hv)))
theorem y_alen (hg : GoodG g.1 cc own) (hx : x = some a) (hk : sK S a % 32 = c) (c1 : 16 ≤ c) (c2 : c ≤ 21) (d : decode cc pc = .ok (.arraylength, 1)) (kk : XA g (pc + 1) lv (.int (nI (sN S a)) :: rest) S b) : XA g pc lv (va_rf x :: rest) S b := by
  subst hx
  intro ad σ h1 h2 h3
  obtain ⟨g1, g2, g3, g4, g5⟩ := h3.1 a (live_of hk (by omega))
  exact x_alen (x := some (ad a)) hg rfl (by rw [g1]; exact hk) c1 c2 d (xa_st (by rw [g2]; rfl) (kk ad σ h1 h2 h3))
theorem y_alenR (hg : GoodG g.1 cc own) (hx : x = some a) (hk : sK S a % 32 = 24) (d : decode cc pc = .ok (.arraylength, 1)) (kk : XA g (pc + 1) lv (.int (nI (sN S a)) :: rest) S b) : XA g pc lv (va_rf x :: rest) S b := by
  subst hx
  intro ad σ h1 h2 h3
  obtain ⟨g1, g2, g3, g4, g5⟩ := h3.1 a (live_of hk (by omega))
  exact x_alenR (x := some (ad a)) hg rfl (by rw [g1]; exact hk) d (xa_st (by rw [g2]; rfl) (kk ad σ h1 h2 h3))
theorem y_alenO (hg : GoodG g.1 cc own) {z : Int32} (hx : x = some a) (hz : (sK S a % 32 = 20 ∧ z = nI (sN S a)) ∨ (sK S a % 32 = 25 ∧ z = 0)) (d : decode cc pc = .ok (.arraylength, 1)) (kk : XA g (pc + 1) lv (.int z :: rest) S b) : XA g pc lv (va_rf x :: rest) S b := by
  subst hx
  intro ad σ h1 h2 h3
  obtain ⟨g1, g2, g3, g4, g5⟩ := h3.1 a (by rcases hz with h | h <;> exact live_of h.1 (by omega))
  exact x_alenO (x := some (ad a)) hg rfl (by rw [g1, g2]; exact hz) d (kk ad σ h1 h2 h3)
theorem y_iald (hg : GoodG g.1 cc own) {i : Int32} (hx : x = some a) (hk : sK S a % 32 = 16) (hi : vp_in i (sN S a)) (d : decode cc pc = .ok (.iaload, 1)) (kk : XA g (pc + 1) lv (.int (sI S a i.toNatClampNeg) :: rest) S b) : XA g pc lv (.int i :: va_rf x :: rest) S b := by
  subst hx
  intro ad σ h1 h2 h3
  obtain ⟨g1, g2, g3, g4, g5⟩ := h3.1 a (live_of hk (by omega))
  exact x_iald (x := some (ad a)) hg rfl (by rw [g1]; exact hk) (by rw [g2]; exact hi) d (xa_st (by rw [g3]; rfl) (kk ad σ h1 h2 h3))
theorem y_ialdR (hg : GoodG g.1 cc own) {i : Int32} (hx : x = some a) (hk : sK S a % 32 = 24) (hi : vp_in i (sN S a)) (d : decode cc pc = .ok (.iaload, 1)) (kk : XA g (pc + 1) lv (.int (sI S a i.toNatClampNeg) :: rest) S b) : XA g pc lv (.int i :: va_rf x :: rest) S b := by
  subst hx
  intro ad σ h1 h2 h3
  obtain ⟨g1, g2, g3, g4, g5⟩ := h3.1 a (live_of hk (by omega))
  exact x_ialdR (x := some (ad a)) hg rfl (by rw [g1]; exact hk) (by rw [g2]; exact hi) d (xa_st (by rw [g3]; rfl) (kk ad σ h1 h2 h3))
theorem y_lald (hg : GoodG g.1 cc own) {i : Int32} (hx : x = some a) (hk : sK S a % 32 = 17) (hi : vp_in i (sN S a)) (d : decode cc pc = .ok (.laload, 1)) (kk : XA g (pc + 1) lv (.long (sL S a i.toNatClampNeg) :: rest) S b) : XA g pc lv (.int i :: va_rf x :: rest) S b := by
  subst hx
  intro ad σ h1 h2 h3
  obtain ⟨g1, g2, g3, g4, g5⟩ := h3.1 a (live_of hk (by omega))
  exact x_lald (x := some (ad a)) hg rfl (by rw [g1]; exact hk) (by rw [g2]; exact hi) d (xa_st (by rw [g4]; rfl) (kk ad σ h1 h2 h3))
theorem y_zald (hg : GoodG g.1 cc own) {i : Int32} (hx : x = some a) (hk : sK S a % 32 = 18) (hi : vp_in i (sN S a)) (d : decode cc pc = .ok (.baload, 1)) (kk : XA g (pc + 1) lv (.int (sI S a i.toNatClampNeg) :: rest) S b) : XA g pc lv (.int i :: va_rf x :: rest) S b := by
  subst hx
  intro ad σ h1 h2 h3
  obtain ⟨g1, g2, g3, g4, g5⟩ := h3.1 a (live_of hk (by omega))
  exact x_zald (x := some (ad a)) hg rfl (by rw [g1]; exact hk) (by rw [g2]; exact hi) d (xa_st (by rw [g3]; rfl) (kk ad σ h1 h2 h3))
theorem y_bald (hg : GoodG g.1 cc own) {i : Int32} (hx : x = some a) (hk : sK S a % 32 = 19) (hi : vp_in i (sN S a)) (d : decode cc pc = .ok (.baload, 1)) (kk : XA g (pc + 1) lv (.int (sI S a i.toNatClampNeg) :: rest) S b) : XA g pc lv (.int i :: va_rf x :: rest) S b := by
  subst hx
  intro ad σ h1 h2 h3
  obtain ⟨g1, g2, g3, g4, g5⟩ := h3.1 a (live_of hk (by omega))
  exact x_bald (x := some (ad a)) hg rfl (by rw [g1]; exact hk) (by rw [g2]; exact hi) d (xa_st (by rw [g3]; rfl) (kk ad σ h1 h2 h3))
theorem y_aald (hg : GoodG g.1 cc own) {i : Int32} (hx : x = some a) (hk : sK S a % 32 = c) (hcc : c = 20 ∨ c = 21) (hi : vp_in i (sN S a)) (d : decode cc pc = .ok (.aaload, 1)) (kk : XA g (pc + 1) lv (va_rf (sR S a i.toNatClampNeg) :: rest) S b) : XA g pc lv (.int i :: va_rf x :: rest) S b := by
  subst hx
  intro ad σ h1 h2 h3
  obtain ⟨g1, g2, g3, g4, g5⟩ := h3.1 a (live_of hk (by omega))
  exact x_aald (x := some (ad a)) hg rfl (by rw [g1]; exact hk) hcc (by rw [g2]; exact hi) d (xa_st (by rw [g5, cv_rf]) (kk ad σ h1 h2 h3))
theorem y_iast (hg : GoodG g.1 cc own) {i : Int32} {v : Int32} (hx : x = some a) (hk : sK S a % 32 = 16) (hi : vp_in i (sN S a)) (d : decode cc pc = .ok (.iastore, 1)) (kk : XA g (pc + 1) lv rest (pI S a i.toNatClampNeg v) b) : XA g pc lv (.int v :: .int i :: va_rf x :: rest) S b := by
  subst hx
  intro ad σ h1 h2 h3
  have hl := live_of hk (by omega)
  obtain ⟨g1, g2, g3, g4, g5⟩ := h3.1 a hl
  exact x_iast (x := some (ad a)) hg rfl (by rw [g1]; exact hk) (by rw [g2]; exact hi) d (kk ad _ h1 h2 (iso_pI h3 hl _ _))
theorem y_last (hg : GoodG g.1 cc own) {i : Int32} {v : Int64} (hx : x = some a) (hk : sK S a % 32 = 17) (hi : vp_in i (sN S a)) (d : decode cc pc = .ok (.lastore, 1)) (kk : XA g (pc + 1) lv rest (pL S a i.toNatClampNeg v) b) : XA g pc lv (.long v :: .int i :: va_rf x :: rest) S b := by
  subst hx
  intro ad σ h1 h2 h3
  have hl := live_of hk (by omega)
  obtain ⟨g1, g2, g3, g4, g5⟩ := h3.1 a hl
  exact x_last (x := some (ad a)) hg rfl (by rw [g1]; exact hk) (by rw [g2]; exact hi) d (kk ad _ h1 h2 (iso_pL h3 hl _ _))
theorem y_zast (hg : GoodG g.1 cc own) {i : Int32} {v : Int32} (hx : x = some a) (hk : sK S a % 32 = 18) (hi : vp_in i (sN S a)) (hz : bz v) (d : decode cc pc = .ok (.bastore, 1)) (kk : XA g (pc + 1) lv rest (pI S a i.toNatClampNeg v) b) : XA g pc lv (.int v :: .int i :: va_rf x :: rest) S b := by
  subst hx
  intro ad σ h1 h2 h3
  have hl := live_of hk (by omega)
  obtain ⟨g1, g2, g3, g4, g5⟩ := h3.1 a hl
  exact x_zast (x := some (ad a)) hg rfl (by rw [g1]; exact hk) (by rw [g2]; exact hi) hz d (kk ad _ h1 h2 (iso_pI h3 hl _ _))
theorem y_bast (hg : GoodG g.1 cc own) {i : Int32} {v : Int32} (hx : x = some a) (hk : sK S a % 32 = 19) (hi : vp_in i (sN S a)) (d : decode cc pc = .ok (.bastore, 1)) (kk : XA g (pc + 1) lv rest (pI S a i.toNatClampNeg v.toInt8.toInt32) b) : XA g pc lv (.int v :: .int i :: va_rf x :: rest) S b := by
  subst hx
  intro ad σ h1 h2 h3
  have hl := live_of hk (by omega)
  obtain ⟨g1, g2, g3, g4, g5⟩ := h3.1 a hl
  exact x_bast (x := some (ad a)) hg rfl (by rw [g1]; exact hk) (by rw [g2]; exact hi) d (kk ad _ h1 h2 (iso_pI h3 hl _ _))
theorem y_aast (hg : GoodG g.1 cc own) {v : Nat} {y : Option Nat} {i : Int32} (hx : x = some a) (hy : y = some v) (hk : sK S a % 32 = 20) (hi : vp_in i (sN S a)) (v1 : 1 ≤ sK S v % 32) (v2 : sK S v % 32 ≤ 13) (d : decode cc pc = .ok (.aastore, 1)) (kk : XA g (pc + 1) lv rest (pR S a i.toNatClampNeg y) b) : XA g pc lv (va_rf y :: .int i :: va_rf x :: rest) S b := by
  subst hx hy
  intro ad σ h1 h2 h3
  have hl := live_of hk (by omega)
  have hlv : ¬ sK S v = 0 := fun q => by rw [q] at v1; omega
  obtain ⟨g1, g2, g3, g4, g5⟩ := h3.1 a hl
  have g6 := (h3.1 v hlv).1
  exact x_aast (x := some (ad a)) (y := some (ad v)) hg rfl rfl (by rw [g1]; exact hk) (by rw [g2]; exact hi) (by rw [g6]; exact v1) (by rw [g6]; exact v2) d (kk ad _ h1 h2 (iso_pR h3 hl _ _ (fun z hz => by cases hz; exact Or.inl hlv)))
theorem y_cast (hg : GoodG g.1 cc own) {C : String} {T : u_T} (hcl : vwCl[c - 1]? = some (C, T, n)) (hc : 1 ≤ c ∧ c ≤ 13) (hw : Cond.classLink own idx C ∈ AW) (hx : x = some a) (hk : sK S a % 32 = c) (d : decode cc pc = .ok (.checkcast idx, 3)) (kk : XA g (pc + 3) lv (va_rf x :: rest) S b) : XA g pc lv (va_rf x :: rest) S b := by
  subst hx
  intro ad σ h1 h2 h3
  obtain ⟨g1, -⟩ := h3.1 a (live_of hk hc.1)
  exact x_cast (x := some (ad a)) hg hcl hc hw rfl (by rw [g1]; exact hk) d (kk ad σ h1 h2 h3)
theorem y_getsB (hg : GoodG g.1 cc RX4) (d : decode cc pc = .ok (.getstatic 29, 3)) (kk : XA g (pc + 3) lv (va_rf (some 1) :: rest) S b) : XA g pc lv rest S b := fun ad σ h1 h2 h3 => x_getsB2 hg d (xa_st (by show Value.ref (ad 1) = _; rw [h3.2.2.2.2.1]; rfl) (kk ad σ h1 h2 h3))
theorem y_getsE (hg : GoodG g.1 cc RJx4a65c) (d : decode cc pc = .ok (.getstatic 39, 3)) (kk : XA g (pc + 3) lv (va_rf (some 2) :: rest) S b) : XA g pc lv rest S b := fun ad σ h1 h2 h3 => x_getsE hg d (fun t ht => xa_st (by
  have h25 : ¬ sK S 2 = 0 := by rw [h3.2.2.2.1]; decide
  have h4 := (h3.1 2 h25).1
  rw [h3.2.2.2.1] at h4
  show Value.ref (ad 2) = Value.ref t
  rw [(ht (ad 2)).mp (by rw [h4])]) (kk ad σ h1 h2 h3))
theorem y_getsCS (hg : GoodG g.1 cc own) (hw : Cond.fieldLink own idx "java/lang/String" "COMPACT_STRINGS" "Z" ∈ AW) (d : decode cc pc = .ok (.getstatic idx, 3)) (kk : XA g (pc + 3) lv (.int 1 :: rest) S b) : XA g pc lv rest S b := fun ad σ h1 h2 h3 => x_getsCS hg hw d (kk ad σ h1 h2 h3)
theorem y_sget_value (hg : GoodG g.1 cc own) (hw : Cond.fieldLink own idx "java/lang/String" "value" "[B" ∈ AW) (hi : w < nJS) (d : decode cc pc = .ok (.getfield idx, 3)) (kk : XA g (pc + 3) lv (.ref (200 + w) :: rest) S b) : XA g pc lv (.ref (100 + w) :: rest) S b := fun ad σ h1 h2 h3 => xa_st (by show _ = Value.ref (ad (100 + w)); rw [(h3.2.2.2.2.2.2 w hi).1]) (x_sget_value hg hw hi d (xa_st (by show Value.ref (ad (200 + w)) = _; rw [(h3.2.2.2.2.2.2 w hi).2]) (kk ad σ h1 h2 h3)))
theorem y_sget_coder (hg : GoodG g.1 cc own) (hw : Cond.fieldLink own idx "java/lang/String" "coder" "B" ∈ AW) (hi : w < nJS) (d : decode cc pc = .ok (.getfield idx, 3)) (kk : XA g (pc + 3) lv (.int 0 :: rest) S b) : XA g pc lv (.ref (100 + w) :: rest) S b := fun ad σ h1 h2 h3 => xa_st (by show _ = Value.ref (ad (100 + w)); rw [(h3.2.2.2.2.2.2 w hi).1]) (x_sget_coder hg hw hi d (kk ad σ h1 h2 h3))
theorem y_salen (hg : GoodG g.1 cc own) (hi : w < nJS) (d : decode cc pc = .ok (.arraylength, 1)) (kk : XA g (pc + 1) lv (.int (nI (strL.getD w 0)) :: rest) S b) : XA g pc lv (.ref (200 + w) :: rest) S b := fun ad σ h1 h2 h3 => xa_st (by show _ = Value.ref (ad (200 + w)); rw [(h3.2.2.2.2.2.2 w hi).2]) (x_salen hg hi d (kk ad σ h1 h2 h3))
theorem y_sbald (hg : GoodG g.1 cc own) {i : Int32} (hi : w < nJS) (hv : vp_in i (strL.getD w 0)) (d : decode cc pc = .ok (.baload, 1)) (kk : XA g (pc + 1) lv (.int ((strB.getD w []).getD i.toNatClampNeg 0) :: rest) S b) : XA g pc lv (.int i :: .ref (200 + w) :: rest) S b := by
  intro ad σ h1 h2 h3
  have e : ad (200 + w) = adV (gD g.1) w := (h3.2.2.2.2.2.2 w hi).2
  have hx := x_sbald (rest := rest.map (cv ad)) hg hi hv d (kk ad σ h1 h2 h3)
  rw [← e] at hx
  exact hx
theorem y_mmax (hg : GoodG g.1 cc own) {x y : Int32} (hl : Cond.methodLink own idx Lib.Math.max.name ∈ AW) (hW : (rest.map fun v => v.category).sum ≤ 8) (hrm : gR g.1 = rm) (hRm : 1 ≤ rm.frames ∧ 30 ≤ rm.locals) (d : decode cc pc = .ok (.invokestatic idx, 3)) (kk : XA g (pc + 3) lv (.int (if x < y then y else x) :: rest) S b) : XA g pc lv (.int y :: .int x :: rest) S b := fun ad σ h1 h2 h3 => x_mmax hg hl (by rw [sum_cv]; exact hW) hrm hRm d (kk ad σ h1 h2 h3)
theorem y_mmin (hg : GoodG g.1 cc own) {x y : Int32} (hl : Cond.methodLink own idx Lib.Math.min.name ∈ AW) (hW : (rest.map fun v => v.category).sum ≤ 8) (hrm : gR g.1 = rm) (hRm : 1 ≤ rm.frames ∧ 30 ≤ rm.locals) (d : decode cc pc = .ok (.invokestatic idx, 3)) (kk : XA g (pc + 3) lv (.int (if y < x then y else x) :: rest) S b) : XA g pc lv (.int y :: .int x :: rest) S b := fun ad σ h1 h2 h3 => x_mmin hg hl (by rw [sum_cv]; exact hW) hrm hRm d (kk ad σ h1 h2 h3)
theorem y_mmaxL (hg : GoodG g.1 cc own) {x y : Int64} (hl : Cond.methodLink own idx Lib.MathLoose.max_long.x ∈ AW) (hW : (rest.map fun v => v.category).sum ≤ 8) (hrm : gR g.1 = rm) (hRm : 1 ≤ rm.frames ∧ 30 ≤ rm.locals) (d : decode cc pc = .ok (.invokestatic idx, 3)) (kk : XA g (pc + 3) lv (.long (if y < x then x else y) :: rest) S b) : XA g pc lv (.long y :: .long x :: rest) S b := fun ad σ h1 h2 h3 => x_mmaxL hg hl (by rw [sum_cv]; exact hW) hrm hRm d (kk ad σ h1 h2 h3)
theorem y_mminL (hg : GoodG g.1 cc own) {x y : Int64} (hl : Cond.methodLink own idx Lib.MathLoose.min_long.x ∈ AW) (hW : (rest.map fun v => v.category).sum ≤ 8) (hrm : gR g.1 = rm) (hRm : 1 ≤ rm.frames ∧ 30 ≤ rm.locals) (d : decode cc pc = .ok (.invokestatic idx, 3)) (kk : XA g (pc + 3) lv (.long (if y < x then y else x) :: rest) S b) : XA g pc lv (.long y :: .long x :: rest) S b := fun ad σ h1 h2 h3 => x_mminL hg hl (by rw [sum_cv]; exact hW) hrm hRm d (kk ad σ h1 h2 h3)
theorem y_mabsL (hg : GoodG g.1 cc own) {x : Int64} (hl : Cond.methodLink own idx Lib.MathLoose.abs_long.x ∈ AW) (hW : (rest.map fun v => v.category).sum ≤ 8) (hrm : gR g.1 = rm) (hRm : 1 ≤ rm.frames ∧ 30 ≤ rm.locals) (d : decode cc pc = .ok (.invokestatic idx, 3)) (kk : XA g (pc + 3) lv (.long (if 0 < x then x else -x) :: rest) S b) : XA g pc lv (.long x :: rest) S b := fun ad σ h1 h2 h3 => x_mabsL hg hl (by rw [sum_cv]; exact hW) hrm hRm d (kk ad σ h1 h2 h3)
theorem y_objInit (hg : GoodG g.1 cc own) (h1 : Cond.methodLink own idx objectInit ∈ AW) (h2 : Cond.instanceMethod objectInit ∈ AW) (h3 : Cond.code objectInit ⟨#[0xb1]⟩ 1 none ∈ AW) (hx : x = some a) (d : decode cc pc = .ok (.invokespecial idx, 3)) (hW : (rest.map fun v => v.category).sum ≤ 8) (hrm : gR g.1 = rm) (hRm : 1 ≤ rm.frames ∧ 20 ≤ rm.locals) (kk : XA g (pc + 3) lv rest S b) : XA g pc lv (va_rf x :: rest) S b := by
  subst hx
  intro ad σ z1 z2 z3
  exact x_objInit (x := some (ad a)) hg h1 h2 h3 rfl d (by rw [sum_cv]; exact hW) hrm hRm (kk ad σ z1 z2 z3)
theorem y_getC (hg : GoodG g.1 cc own) (hl : Cond.methodLink own idx ⟨"java/lang/Object", "getClass", "()Ljava/lang/Class;"⟩ ∈ AW) (h2 : Cond.selects "[Ljava/lang/Object;" ⟨"java/lang/Object", "getClass", "()Ljava/lang/Class;"⟩ ⟨"java/lang/Object", "getClass", "()Ljava/lang/Class;"⟩ ∈ AW) (h3 : Cond.instanceMethod ⟨"java/lang/Object", "getClass", "()Ljava/lang/Class;"⟩ ∈ AW) (h4 : Cond.native ⟨"java/lang/Object", "getClass", "()Ljava/lang/Class;"⟩ ∈ AW) (hx : x = some a) (hk : sK S a % 32 = 20) (hW : (rest.map fun v => v.category).sum ≤ 8) (hrm : gR g.1 = rm) (hRm : 1 ≤ rm.frames ∧ 30 ≤ rm.locals) (d : decode cc pc = .ok (.invokevirtual idx, 3)) (kk : XA g (pc + 3) lv (va_rf (some 3) :: rest) S b) : XA g pc lv (va_rf x :: rest) S b := by
  subst hx
  intro ad σ z1 z2 z3
  obtain ⟨g1, -⟩ := z3.1 a (live_of hk (by omega))
  exact x_getC (x := some (ad a)) hg hl h2 h3 h4 rfl (by rw [g1]; exact hk) (by rw [sum_cv]; exact hW) hrm hRm d (xa_st (by show Value.ref (ad 3) = _; rw [z3.2.2.2.2.2.1]; rfl) (kk ad σ z1 z2 z3))
/-- what a method that makes cells may do to the names -/
def AllG (g : Ga) : Prop := ∀ ad ad' : Nat → Nat, g.2.1 ad → (∀ h, (¬ g.2.2 h = 0 ∨ h < 1000) → ad' h = ad h) → g.2.1 ad'
theorem y_alc {g : Ga} (hal : AllG g) (hq : sK S q = 0) (h1000 : 1000 ≤ q) (hlv : rll S lv) (hrs : rl S rest) {S' σ' : Sg} {ad : Nat → Nat} {q' : Nat} (h1 : g.2.1 ad) (h2 : ∀ h, ¬ g.2.2 h = 0 → sK S h = g.2.2 h) (h2' : ∀ h, ¬ g.2.2 h = 0 → sK S' h = g.2.2 h) (hI : Iso (gD g.1) S' (va_up ad q q') σ') (kk : XA g pc lv (va_rf (some q) :: rest) S' b) : XJ g.1 pc (lvm ad lv) (va_rf (some q') :: rest.map (cv ad)) σ' b := by
  have hag : ∀ z, rlv S z → va_up ad q q' z = ad z := fun z hz => va_up_ne _ _ (fun e => by
    rcases hz with y | y
    · rw [e] at y; exact y hq
    · omega)
  have hk := kk (va_up ad q q') σ' (hal ad _ h1 (fun z hz => hag z (by
    rcases hz with y | y
    · exact Or.inl (by rw [h2 z y]; exact y)
    · exact Or.inr y))) h2' hI
  rw [lvm_rl hlv hag] at hk
  rw [List.map_cons, map_rl hrs hag] at hk
  have e : cv (va_up ad q q') (va_rf (some q)) = va_rf (some q') := by show Value.ref _ = Value.ref _; rw [va_up_self]
  rw [e] at hk
  exact hk
theorem kin_nw {g : Ga} {κ n : Nat} (hq : sK S q = 0) (h2 : ∀ h, ¬ g.2.2 h = 0 → sK S h = g.2.2 h) : ∀ h, ¬ g.2.2 h = 0 → sK (nw S q κ n) h = g.2.2 h := fun h hh => by
  rw [sK_nw, if_neg (fun e => by have := h2 h hh; rw [e, hq] at this; exact hh (by rw [e]; exact this.symm))]
  exact h2 h hh
theorem y_new (hg : GoodG g.1 cc own) (hal : AllG g) (hN : NL own idx c n) (hκ : κ % 32 = c) (h1 : 1 ≤ b.1) (h2 : n ≤ b.2) (hq : sK S q = 0) (h1000 : 1000 ≤ q) (hlv : rll S lv) (hrs : rl S rest) (d : decode cc pc = .ok (.new idx, 3)) (kk : XA g (pc + 3) lv (va_rf (some q) :: rest) (nw S q κ 0) (b.1 - 1, b.2 - n)) : XA g pc lv rest S b :=
  fun ad σ z1 z2 z3 => x_new hg hN hκ h1 h2 d (fun q' hq' => y_alc hal hq h1000 hlv hrs z1 z2 (kin_nw hq z2) (iso_nw z3 hq h1000 hq') kk)
theorem y_newa (hg : GoodG g.1 cc own) (hal : AllG g) {at0 : ArrayType} {n : Int32} (hat : newarray.typeOf at0 = aty c) (hc1 : 16 ≤ c) (hc2 : c ≤ 19) (hw : Cond.arrayClass (newarray.typeOf at0) ∈ AW) (hκ : κ % 32 = c) (hn : ¬ n < 0) (hn2 : n.toNatClampNeg ≤ 65536) (h1 : 1 ≤ b.1) (h2 : n.toNatClampNeg ≤ b.2) (hcA : ∀ (s : State) (D : Dg), WdT D s → ∀ cA, s.vm.findClass ("[" ++ (newarray.typeOf at0).toString) = some cA → cA = D.2.1 c) (hq : sK S q = 0) (h1000 : 1000 ≤ q) (hlv : rll S lv) (hrs : rl S rest) (d : decode cc pc = .ok (.newarray at0, 2)) (kk : XA g (pc + 2) lv (va_rf (some q) :: rest) (nw S q κ n.toNatClampNeg) (b.1 - 1, b.2 - n.toNatClampNeg)) : XA g pc lv (.int n :: rest) S b :=
  fun ad σ z1 z2 z3 => x_newa hg hat hc1 hc2 hw hκ hn hn2 h1 h2 hcA d (fun q' hq' => y_alc hal hq h1000 hlv hrs z1 z2 (kin_nw hq z2) (iso_nw z3 hq h1000 hq') kk)
theorem y_newq (hg : GoodG g.1 cc own) (hal : AllG g) {n : Int32} (hw : Cond.classLink own idx "java/lang/Object" ∈ AW) (hκ : κ % 32 = 20) (hn : ¬ n < 0) (hn2 : n.toNatClampNeg ≤ 65536) (h1 : 1 ≤ b.1) (h2 : n.toNatClampNeg ≤ b.2) (hq : sK S q = 0) (h1000 : 1000 ≤ q) (hlv : rll S lv) (hrs : rl S rest) (d : decode cc pc = .ok (.anewarray idx, 3)) (kk : XA g (pc + 3) lv (va_rf (some q) :: rest) (nw S q κ n.toNatClampNeg) (b.1 - 1, b.2 - n.toNatClampNeg)) : XA g pc lv (.int n :: rest) S b :=
  fun ad σ z1 z2 z3 => x_newq hg hw hκ hn hn2 h1 h2 d (fun q' hq' => y_alc hal hq h1000 hlv hrs z1 z2 (kin_nw hq z2) (iso_nw z3 hq h1000 hq') kk)
end YS
