/-! ===== level 2: the class's constructor, its pieces ===== -/
abbrev Vw := Nat × Nat × (Nat → Int32) × (Nat → Int64) × (Nat → Option Nat)
/-- what has been made so far: objects by handle, the references of the object that is filled -/
def XB (B : Sg) (o : Nat) (L : List (Nat × Vw)) (R : List (Nat × Nat)) (S : Sg) : Prop := okS S ∧ (∀ q ∈ L, ¬ q.1 = o) ∧ (∀ x, ¬ x = o → (∀ q ∈ L, ¬ q.1 = x) → vw S x = vw B x) ∧ (∀ q ∈ L, vw S q.1 = q.2) ∧ sK S o = sK B o ∧ sI S o = sI B o ∧ ∀ q ∈ R, sR S o q.1 = some q.2
theorem XB.steps {B S U : Sg} {o k q : Nat} {L : List (Nat × Vw)} {R : List (Nat × Nat)} (h : XB B o L R S) (new : List (Nat × Vw)) (hU : ∀ x, (∀ p ∈ new, ¬ p.1 = x) → vw U x = vw S x) (hn : ∀ p ∈ new, vw U p.1 = p.2) (hw : ∀ p ∈ new, wr p.2.1) (ho : 1000 ≤ o) (h3 : ∀ p ∈ new, 1000 ≤ p.1) (hno : ∀ p ∈ new, ¬ p.1 = o) (hd : ∀ p ∈ new, ∀ p' ∈ L, ¬ p.1 = p'.1) (hk : ∀ p ∈ R, ¬ p.1 = k) : XB B o (new ++ L) ((k, q) :: R) (pR U o k (some q)) := by
  obtain ⟨h1, h0, h2, h4, h5, h6, h7⟩ := h
  have eo : vw U o = vw S o := hU o hno
  refine ⟨okS_pR ⟨(hU 1 (fun p hp e => by have := h3 p hp; omega)).trans h1.1, (hU 2 (fun p hp e => by have := h3 p hp; omega)).trans h1.2.1, fun x hx => ?_⟩ ho, fun p hp => ?_, fun x hx hL => ?_, fun p hp => ?_, ?_, ?_, fun p hp => ?_⟩
  · by_cases c : ∃ p ∈ new, p.1 = x
    · obtain ⟨p, hp, e⟩ := c
      refine Or.inr (Or.inr ?_)
      rw [← e, show sK U p.1 = p.2.1 from congrArg (fun z => z.1) (hn p hp)]
      exact hw p hp
    · have e := hU x (fun p hp e => c ⟨p, hp, e⟩)
      rw [vwK e] at hx ⊢
      exact h1.2.2 x hx
  · rcases List.mem_append.mp hp with e | e
    · exact hno p e
    · exact h0 p e
  · rw [vw_pR hx, hU x (fun p hp => hL p (List.mem_append.mpr (Or.inl hp)))]
    exact h2 x hx (fun p hp => hL p (List.mem_append.mpr (Or.inr hp)))
  · rcases List.mem_append.mp hp with e | e
    · rw [vw_pR (hno p e)]; exact hn p e
    · rw [vw_pR (h0 p e), hU p.1 (fun p' hp' z => hd p' hp' p e z)]; exact h4 p e
  · rw [sK_pR, vwK eo]; exact h5
  · show sI U o = _
    rw [vwI eo]; exact h6
  · rcases List.mem_cons.mp hp with e | e
    · subst e; exact sR_pR_eq
    · rw [sR_pR_ne (by have := hk p e; omega), vwR eo]; exact h7 p e
theorem XB.refl {B : Sg} {o : Nat} (h : okS B) : XB B o [] [] B := ⟨h, fun q hq => (by cases hq), fun _ _ _ => rfl, fun q hq => (by cases hq), rfl, rfl, fun q hq => (by cases hq)⟩
theorem XB.fresh {B S : Sg} {o q : Nat} {L : List (Nat × Vw)} {R : List (Nat × Nat)} (h : XB B o L R S) (ho : ¬ q = o) (hd : ∀ p ∈ L, ¬ p.1 = q) (hB : sK B q = 0) : sK S q = 0 := by
  rw [vwK (h.2.2.1 q ho hd)]; exact hB
def vO (κ n : Nat) : Vw := (κ, n, fun _ => 0, fun _ => 0, fun _ => none)
def vLi : Vw := (1, 0, fun _ => 0, fun _ => 0, fun k => if k = 1 then some 2 else none)
def vLw : Vw := (6, 0, (fun k => if k = 0 then 0 else if k = 1 then -1 else 0), fun _ => 0, fun k => if k = 2 then some 1011 else if k = 3 then some 1012 else none)
def vNu : Vw := (16, 21, (fun j => if j < 21 then bareV j else 0), fun _ => 0, fun _ => none)
def vTp : Vw := (9, 0, fun _ => 0, fun _ => 0, fun k => if k = 1 then some 1021 else none)
theorem vw_li {S : Sg} {q : Nat} : vw (pR (pI (nw S q 1 0) q 0 0) q 1 (some 2)) q = vLi := by
  unfold vw vLi
  refine Prod.ext ?_ (Prod.ext ?_ (Prod.ext ?_ (Prod.ext ?_ ?_)))
  · show sK (pR (pI (nw S q 1 0) q 0 0) q 1 (some 2)) q = 1
    rw [sK_pR, sK_pI, sK_nw, if_pos rfl]
  · show sN (pR (pI (nw S q 1 0) q 0 0) q 1 (some 2)) q = 0
    rw [sN_pR, sN_pI, sN_nw, if_pos rfl]
  · show sI (pR (pI (nw S q 1 0) q 0 0) q 1 (some 2)) q = fun _ => 0
    funext j
    rw [sI_pR, sI_pI, sI_nw, if_pos rfl]
    split <;> rfl
  · show sL (pR (pI (nw S q 1 0) q 0 0) q 1 (some 2)) q = fun _ => 0
    funext j
    rw [sL_pR, sL_pI, sL_nw, if_pos rfl]
  · show sR (pR (pI (nw S q 1 0) q 0 0) q 1 (some 2)) q = fun k => if k = 1 then some 2 else none
    funext j
    rw [sR_pR, sR_pI, sR_nw, if_pos rfl]
    by_cases c : j = 1
    · rw [if_pos ⟨rfl, c⟩, if_pos c]
    · rw [if_neg (fun z => c z.2), if_neg c]
theorem XB.list {B S : Sg} {o k q : Nat} {L : List (Nat × Vw)} {R : List (Nat × Nat)} (h : XB B o L R S) (ho : 1000 ≤ o) (h3 : 1000 ≤ q) (hno : ¬ q = o) (hd : ∀ p ∈ L, ¬ p.1 = q) (hk : ∀ p ∈ R, ¬ p.1 = k) : XB B o ((q, vLi) :: L) ((k, q) :: R) (pR (pR (pI (nw S q 1 0) q 0 0) q 1 (some 2)) o k (some q)) := by
  refine h.steps [(q, vLi)] (fun x hx => ?_) (fun p hp => ?_) (fun p hp => ?_) ho (fun p hp => ?_) (fun p hp => ?_) (fun p hp p' hp' => ?_) hk
  · have hx : ¬ x = q := fun e => hx _ List.mem_cons_self e.symm
    rw [vw_pR hx, vw_pI hx, vw_nw hx]
  all_goals (rw [List.mem_singleton] at hp; subst hp)
  · exact vw_li
  · exact Or.inl (show 1 ≤ 1 % 32 ∧ 1 % 32 ≤ 13 from by decide)
  · exact h3
  · exact hno
  · exact fun e => hd p' hp' e.symm
theorem XB.arr {B S : Sg} {o k q κ n : Nat} {L : List (Nat × Vw)} {R : List (Nat × Nat)} (h : XB B o L R S) (ho : 1000 ≤ o) (h3 : 1000 ≤ q) (hw : wr κ) (hno : ¬ q = o) (hd : ∀ p ∈ L, ¬ p.1 = q) (hk : ∀ p ∈ R, ¬ p.1 = k) : XB B o ((q, vO κ n) :: L) ((k, q) :: R) (pR (nw S q κ n) o k (some q)) := by
  refine h.steps [(q, vO κ n)] (fun x hx => ?_) (fun p hp => ?_) (fun p hp => ?_) ho (fun p hp => ?_) (fun p hp => ?_) (fun p hp p' hp' => ?_) hk
  · have hx : ¬ x = q := fun e => hx _ List.mem_cons_self e.symm
    rw [vw_nw hx]
  all_goals (rw [List.mem_singleton] at hp; subst hp)
  · exact vw_nwq
  · exact hw
  · exact h3
  · exact hno
  · exact fun e => hd p' hp' e.symm
/-- the flow, as its constructor leaves it -/
def FLO (S T : Sg) : Prop := okS T ∧ (∀ x, x < 10000 → ¬ (1043 ≤ x ∧ x ≤ 1047) → ¬ (7000 ≤ x ∧ x < 7012) → vw T x = vw S x) ∧ sK T 1043 % 32 = 5 ∧ sR T 1043 0 = some 1044 ∧ sR T 1043 3 = some 1045 ∧ sR T 1043 4 = some 1046 ∧ sR T 1043 5 = some 1047 ∧ vw T 1045 = vO 16 360 ∧ vw T 1046 = vO 16 30 ∧ vw T 1047 = vO 16 12 ∧ Lst T 1044 6 (fun j => 7000 + j) 12 ∧ (∀ j, j < 12 → sK T (7000 + j) % 32 = 7) ∧ (∀ x, 10012 ≤ x → sK T x = 0) ∧ ∀ x, 10000 ≤ x → ¬ sK T x = 0 → sK T x = 20 + 32 * 6
set_option maxRecDepth 20000 in
theorem x_flowInit {S : Sg} {Q : Unit → Sg → Prop} (hk : okS S) (hz : ∀ x, 10000 ≤ x → sK S x = 0) (hz2 : ∀ j, j < 12 → sK S (7000 + j) = 0) (hz3 : ∀ x, 1044 ≤ x → x ≤ 1047 → sK S x = 0) (h43 : vw S 1043 = vO 5 0) (hr6 : ∀ x, ¬ sK S x = 20 + 32 * 6) (k : ∀ T, FLO S T → Q () T) : P_X3_init 1043 S (28, 2405) Q := by
  unfold P_X3_init
  have H : XB S 1043 [] [] S := XB.refl hk
  have k43 : sK S 1043 = 5 := congrArg (fun z => z.1) h43
  refine ⟨1, 1044, rfl, by decide, by decide, hz3 1044 (by omega) (by omega), by decide, fun z e => by cases e; rw [k43]; decide, fun s e1 => p_listInit (by rw [e1, sK_nw, if_pos rfl]) ⟨by rw [e1, sK_pR, sK_pI, sK_nw, if_neg (by decide), k43], fun t1 e2 => ?_⟩⟩
  have H1 : XB S 1043 [(1044, vLi)] [(0, 1044)] t1 := by rw [e2, e1]; exact H.list (by decide) (by decide) (by decide) (by decide) (by decide)
  clear e1 e2 H
  refine ⟨16, 1045, rfl, by decide, by decide +kernel, by decide, by decide +kernel, H1.fresh (by decide) (by decide) (hz3 1045 (by omega) (by omega)), by decide, fun s2 e1 t2 e2 => ?_⟩
  have H2 : XB S 1043 [(1045, vO 16 360), (1044, vLi)] [(3, 1045), (0, 1044)] t2 := by rw [e2, e1, show (360 : Int32).toNatClampNeg = 360 by decide +kernel]; exact H1.arr (by decide) (by decide) (Or.inr (by decide)) (by decide) (by decide) (by decide)
  clear e1 e2 H1
  refine ⟨16, 1046, rfl, by decide, by decide +kernel, by decide, by decide +kernel, H2.fresh (by decide) (by decide) (hz3 1046 (by omega) (by omega)), by decide, fun s3 e1 t3 e2 => ?_⟩
  have H3 : XB S 1043 [(1046, vO 16 30), (1045, vO 16 360), (1044, vLi)] [(4, 1046), (3, 1045), (0, 1044)] t3 := by rw [e2, e1, show (30 : Int32).toNatClampNeg = 30 by decide +kernel]; exact H2.arr (by decide) (by decide) (Or.inr (by decide)) (by decide) (by decide) (by decide)
  clear e1 e2 H2
  refine ⟨16, 1047, rfl, by decide, by decide +kernel, by decide, by decide +kernel, H3.fresh (by decide) (by decide) (hz3 1047 (by omega) (by omega)), by decide, fun s4 e1 t4 e2 => ?_⟩
  have H4 : XB S 1043 [(1047, vO 16 12), (1046, vO 16 30), (1045, vO 16 360), (1044, vLi)] [(5, 1047), (4, 1046), (3, 1045), (0, 1044)] t4 := by rw [e2, e1, show (12 : Int32).toNatClampNeg = 12 by decide +kernel]; exact H3.arr (by decide) (by decide) (Or.inr (by decide)) (by decide) (by decide) (by decide)
  clear e1 e2 H3
  obtain ⟨a1, a0, a2, a3, a4, a5, a6⟩ := H4
  have fr : ∀ x, ¬ (1043 ≤ x ∧ x ≤ 1047) → vw t4 x = vw S x := fun x hx => a2 x (by omega) (fun q hq => by
    simp only [List.mem_cons, List.not_mem_nil, or_false] at hq
    rcases hq with rfl | rfl | rfl | rfl
    · show ¬ 1047 = x; omega
    · show ¬ 1046 = x; omega
    · show ¬ 1045 = x; omega
    · show ¬ 1044 = x; omega)
  have v44 : vw t4 1044 = vLi := a3 (1044, vLi) (by simp)
  have v45 : vw t4 1045 = vO 16 360 := a3 (1045, vO 16 360) (by simp)
  have v46 : vw t4 1046 = vO 16 30 := a3 (1046, vO 16 30) (by simp)
  have v47 : vw t4 1047 = vO 16 12 := a3 (1047, vO 16 12) (by simp)
  have k44 : sK t4 1044 = 1 := congrArg (fun z => z.1) v44
  have nr6 : ∀ x, ¬ sK t4 x = 20 + 32 * 6 := fun x e => by
    by_cases c : 1043 ≤ x ∧ x ≤ 1047
    · have : x = 1043 ∨ x = 1044 ∨ x = 1045 ∨ x = 1046 ∨ x = 1047 := by omega
      rcases this with rfl | rfl | rfl | rfl | rfl
      · rw [a4, k43] at e; omega
      · rw [k44] at e; omega
      · rw [show sK t4 1045 = 16 from congrArg (fun z => z.1) v45] at e; omega
      · rw [show sK t4 1046 = 16 from congrArg (fun z => z.1) v46] at e; omega
      · rw [show sK t4 1047 = 16 from congrArg (fun z => z.1) v47] at e; omega
    · rw [vwK (fr x c)] at e; exact hr6 x e
  refine p_flowLoop (N := 10000) (by rw [a4, k43]) (a6 (0, 1044) (by simp)) (by decide) (by decide) (by decide) (by decide) (fun j hj => by rw [vwK (fr _ (by omega))]; exact hz2 j hj) (by decide) (by decide +kernel) ⟨⟨by rw [k44], ?_, by omega, Or.inl ⟨rfl, ?_, ?_⟩⟩, fun x hx => by rw [vwK (fr x (by omega))]; exact hz x (by omega), fun j hj => absurd hj (Nat.not_lt_zero _), fun _ _ _ _ _ => rfl, fun x hx h0 => absurd (by rw [vwK (fr x (by omega))]; exact hz x hx) h0⟩ (fun T hT => ?_)
  · exact congrFun (show sI t4 1044 = _ from congrArg (fun z => z.2.2.1) v44) 2
  · exact congrFun (show sR t4 1044 = _ from congrArg (fun z => z.2.2.2.2) v44) 1
  · exact congrArg (fun z => z.1) a1.2.1
  · obtain ⟨j1, j2, j3, j4, j5⟩ := hT
    have ft : ∀ x, x < 10000 → ¬ x = 1044 → ¬ (7000 ≤ x ∧ x < 7012) → vw T x = vw t4 x := fun x h1 h2 h3 => j4 x h1 h2 (fun z => h3 ⟨z.1, by omega⟩) (nr6 x)
    have v43 := ft 1043 (by omega) (by omega) (by omega)
    refine k T ⟨⟨(ft 1 (by omega) (by omega) (by omega)).trans a1.1, (ft 2 (by omega) (by omega) (by omega)).trans a1.2.1, fun x hx => ?_⟩, fun x h1 h2 h3 => (ft x h1 (by omega) h3).trans (fr x h2), by rw [vwK v43, a4, k43], by rw [vwR v43]; exact a6 (0, 1044) (by simp), by rw [vwR v43]; exact a6 (3, 1045) (by simp), by rw [vwR v43]; exact a6 (4, 1046) (by simp), by rw [vwR v43]; exact a6 (5, 1047) (by simp), (ft 1045 (by omega) (by omega) (by omega)).trans v45, (ft 1046 (by omega) (by omega) (by omega)).trans v46, (ft 1047 (by omega) (by omega) (by omega)).trans v47, j1, fun j hj => by rw [show sK T (7000 + j) = 7 from congrArg (fun z => z.1) (j3 j hj)], fun x hx => j2 x (by omega), j5⟩
    by_cases c1 : 10000 ≤ x
    · rw [j5 x c1 hx]; unfold wr; omega
    · by_cases c2 : x = 1044
      · subst c2; have := j1.1; refine Or.inr (Or.inr ?_); unfold wr; omega
      · by_cases c3 : 7000 ≤ x ∧ x < 7012
        · have e := j3 (x - 7000) (by omega)
          rw [show 7000 + (x - 7000) = x from by omega] at e
          rw [show sK T x = 7 from congrArg (fun z => z.1) e]
          unfold wr; omega
        · rw [vwK (ft x (by omega) c2 c3)] at hx ⊢
          exact a1.2.2 x hx
