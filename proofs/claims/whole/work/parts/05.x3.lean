/-! ===== contracts over stores, calls and ends ===== -/
def AX (σ : Sg) (sz : Nat) : Nat → Prop := fun q => wr (sK σ q) ∨ sz ≤ q
def PreX (D : Dg) (σ : Sg) (sz : Nat) : State → Prop := fun U => U.heap.size = sz ∧ Rep D U σ U.heap ∧ WdT D U ∧ WdH D U U.heap ∧ base D ≤ sz
def PoX {ρ : Type} (D : Dg) (A : Nat → Prop) (mk : ρ → Option Value) (Qm : ρ → Sg → Prop) : Array Value → State → Outcome → State → Prop := fun _ st oc t => (∃ (r : ρ) (σ' : Sg), oc = .returned (mk r) ∧ Qm r σ' ∧ Rep D t σ' t.heap ∧ ∀ q, wr (sK σ' q) → A q) ∧ va_F A st t
def Ctr {ρ : Type} (l : Launch) (D : Dg) (y : MethodName) (bytes : ByteArray) (maxL : Nat) (ret : Option FieldType) (fr lo : Nat) (mk : ρ → Option Value) (av : List Value) (σ : Sg) (b : Nat × Nat) (Qm : ρ → Sg → Prop) : Prop :=
  ∀ sz : Nat, Met l y (Cond.code y bytes maxL ret :: AW) { frames := fr, cells := b.1, slots := b.2, locals := lo } (va_Pc av (PreX D σ sz)) (PoX D (AX σ sz) mk Qm) b.1 b.2 (AX σ sz)
def mkI : Int32 → Option Value := fun r => some (.int r)
def mkL : Int64 → Option Value := fun r => some (.long r)
def mkR : Option Nat → Option Value := fun r => some (va_rf r)
def mkV : Unit → Option Value := fun _ => none
/-- an instruction that returns, with its value alone on the stack -/
def RetI (cc : ByteArray) (pc : Nat) (ret : Option FieldType) (v : Option Value) (st : List Value) : Prop :=
  (∃ (ty : FieldType) (x : Int32), ret = some ty ∧ narrow ty (.int x) = .int x ∧ v = some (.int x) ∧ st = [.int x] ∧ decode cc pc = .ok (.ireturn, 1)) ∨
  (∃ x : Int64, ret = some .long ∧ v = some (.long x) ∧ st = [.long x] ∧ decode cc pc = .ok (.lreturn, 1)) ∨
  (∃ (ty : FieldType) (x : Option Nat), ret = some ty ∧ tgT ty = 2 ∧ v = some (va_rf x) ∧ st = [va_rf x] ∧ decode cc pc = .ok (.areturn, 1)) ∨
  (ret = none ∧ v = none ∧ st = [] ∧ decode cc pc = .ok (.return_, 1))
def EndG {ρ : Type} (g : Gx) (cc : ByteArray) (ret : Option FieldType) (mk : ρ → Option Value) (Qm : ρ → Sg → Prop) : Prop := ∀ (pc : Nat) (lv : List (Nat × Value)) (st : List Value) (σ : Sg) (b : Nat × Nat) (r : ρ), Qm r σ → RetI cc pc ret (mk r) st → XJ g pc lv st σ b
def gL : Gx → Launch := fun g => g.1.2.1
theorem endI {g : Gx} {cc : ByteArray} {ty : FieldType} {Qm : Int32 → Sg → Prop} (h : EndG g cc (some ty) mkI Qm) {pc : Nat} {lv : List (Nat × Value)} {σ : Sg} {b : Nat × Nat} {x : Int32} (hn : narrow ty (.int x) = .int x) (d : decode cc pc = .ok (.ireturn, 1)) (q : Qm x σ) : XJ g pc lv [.int x] σ b := h pc lv _ σ b x q (Or.inl ⟨ty, x, rfl, hn, rfl, rfl, d⟩)
theorem endL {g : Gx} {cc : ByteArray} {Qm : Int64 → Sg → Prop} (h : EndG g cc (some .long) mkL Qm) {pc : Nat} {lv : List (Nat × Value)} {σ : Sg} {b : Nat × Nat} {x : Int64} (d : decode cc pc = .ok (.lreturn, 1)) (q : Qm x σ) : XJ g pc lv [.long x] σ b := h pc lv _ σ b x q (Or.inr (Or.inl ⟨x, rfl, rfl, rfl, d⟩))
theorem endR {g : Gx} {cc : ByteArray} {ty : FieldType} {Qm : Option Nat → Sg → Prop} (h : EndG g cc (some ty) mkR Qm) (ht : tgT ty = 2) {pc : Nat} {lv : List (Nat × Value)} {σ : Sg} {b : Nat × Nat} {x : Option Nat} (d : decode cc pc = .ok (.areturn, 1)) (q : Qm x σ) : XJ g pc lv [va_rf x] σ b := h pc lv _ σ b x q (Or.inr (Or.inr (Or.inl ⟨ty, x, rfl, ht, rfl, rfl, d⟩)))
theorem endV {g : Gx} {cc : ByteArray} {Qm : Unit → Sg → Prop} (h : EndG g cc none mkV Qm) {pc : Nat} {lv : List (Nat × Value)} {σ : Sg} {b : Nat × Nat} (d : decode cc pc = .ok (.return_, 1)) (q : Qm () σ) : XJ g pc lv [] σ b := h pc lv _ σ b () q (Or.inr (Or.inr (Or.inr ⟨rfl, rfl, rfl, d⟩)))
theorem ctr_of {ρ : Type} {l : Launch} {D : Dg} {y : MethodName} {bytes : ByteArray} {maxL : Nat} {ret : Option FieldType} {fr lo : Nat} {mk : ρ → Option Value} {av : List Value} {σ : Sg} {b : Nat × Nat} {Qm : ρ → Sg → Prop} {lv : List (Nat × Value)} (hp : plainName y.cls = true) (hlen : (lg_sl av).length ≤ maxL) (hlv : lv_args 0 av = lv)
    (body : ∀ g : Gx, GoodG g bytes y.cls → gL g = l → gD g = D → gR g = { frames := fr, cells := b.1, slots := b.2, locals := lo } → gN g = maxL → gI g = y.name → EndG g bytes ret mk Qm → XJ g 0 lv [] σ b) : Ctr l D y bytes maxL ret fr lo mk av σ b Qm := by
  intro sz
  refine Met.ofW (cc := bytes) (maxL := maxL) (ret := ret) hp rfl ?_
  intro p e s m args below meth c s₁ B hml hv
  obtain ⟨rfl, hsz, hR, hWT, hWH, hbase⟩ := hv
  have hx := B.exec
  have hb := B.bytes
  have hr := B.returns
  have hts0 := atoms_spec (ws := Cond.code y bytes maxL ret :: AW) B.pre
  have hts : ∀ w ∈ AW, w.before av.toArray s = true := fun w hw => hts0 w (List.mem_cons_of_mem _ hw)
  have hown : s.vm.findClass y.cls = some m.cls := findClass_of_methodNamed B.named
  have hlocks := B.notSynchronized
  have hin : meth.name = y.name := (name_of_methodNamed B.named B.method).1
  subst hsz
  have hl := lv_entry av hlen
  rw [hlv] at hl
  rw [lg_entry_eq]
  refine body ((p, l, e, (headSpec (Cond.code y bytes maxL ret :: AW) { frames := fr, cells := b.1, slots := b.2, locals := lo }).room, s, m, av.toArray, below, meth, c), MQ below (PoX D (AX σ s.heap.size) mk Qm) av.toArray s b.1 b.2 (AX σ s.heap.size), D, AX σ s.heap.size, b.1, b.2, maxL) ⟨hx, hb, hml, hown, hts, hWT, hWH, fun q h => Or.inr h, fun q h => h.elim (fun h => hR.2.1 q h) (fun h => Nat.le_trans hbase h), Nat.le_refl _, Nat.le_refl _, hlocks⟩ rfl rfl rfl rfl hin ?_ s.heap [] 0 0 _ hR va_S.rf (fun q h => Or.inl h) (by omega) (by omega) hl
  intro pc lv2 st σ2 b2 r hq hret H locs cells slots ls hR2 hS2 hA2 hc hs hl2
  refine W.widen (k := b.1) (n := b.2) (by omega) (by omega) ?_
  have fin : ∀ (v : Option Value) (t : State), v = mk r → t.heap = H → s.WarmedH t.vm → PoX D (AX σ s.heap.size) mk Qm av.toArray s (.returned v) t := fun v t hv ht hW => ⟨⟨r, σ2, by rw [hv], hq, by rw [ht]; exact hR2.moved hW.alike, hA2⟩, hS2.F ht⟩
  rcases hret with ⟨ty, x, e1, e2, e3, rfl, d⟩ | ⟨x, e1, e3, rfl, d⟩ | ⟨ty, x, e1, e2, e3, rfl, d⟩ | ⟨e1, e3, rfl, d⟩
  · exact W.zret hx hb (hr.trans e1) e2 (fun t ht hW => fin _ t e3.symm ht hW) hS2.2.2 d hlocks
  · exact W.lret hx hb (hr.trans e1) (fun t ht hW => fin _ t e3.symm ht hW) hS2.2.2 d hlocks
  · exact W.aret hx hb (hr.trans e1) (by cases ty <;> first | exact Or.inl ⟨_, rfl⟩ | exact Or.inr ⟨_, rfl⟩ | (simp [tgT] at e2)) (va_rf_or x) (fun t ht hW => fin _ t e3.symm ht hW) hS2.2.2 d hlocks
  · exact W.vret hx hb (hr.trans e1) (fun t ht hW => fin _ t e3.symm ht hW) hS2.2.2 d hlocks
/-- a method that a place of the pool links: its words, its parameters -/
def LB (y : MethodName) (bytes : ByteArray) (maxL : Nat) (ret : Option FieldType) (n : Nat) : Prop := Cond.code y bytes maxL ret ∈ AW ∧ Cond.initialized y.cls ∈ AW ∧ y.cls ≠ "java/lang/invoke/MethodHandle" ∧ y.cls ≠ "java/lang/invoke/VarHandle" ∧ (parseMethodDescriptor y.desc).map (fun d => d.parameters.length) = some n
def LV (own : String) (idx : Nat) (y : MethodName) (c : Nat) (bytes : ByteArray) (maxL : Nat) (ret : Option FieldType) (n : Nat) : Prop := LB y bytes maxL ret n ∧ Cond.methodLink own idx y ∈ AW ∧ Cond.instanceMethod y ∈ AW ∧ Cond.selects y.cls y y ∈ AW ∧ 1 ≤ c ∧ c ≤ 13 ∧ ∃ (T : u_T) (N : Nat), vwCl[c - 1]? = some (y.cls, T, N)
def LS' (own : String) (idx : Nat) (y : MethodName) (bytes : ByteArray) (maxL : Nat) (ret : Option FieldType) (n : Nat) : Prop := LB y bytes maxL ret n ∧ Cond.methodLink own idx y ∈ AW ∧ Cond.static y ∈ AW
def LI (own : String) (idx : Nat) (y : MethodName) (bytes : ByteArray) (maxL : Nat) (n : Nat) : Prop := LB y bytes maxL none n ∧ Cond.methodLink own idx y ∈ AW ∧ Cond.instanceMethod y ∈ AW ∧ y.name = "<init>"
def LSN (own : String) (idx : Nat) (y : MethodName) (bytes : ByteArray) (maxL : Nat) (ret : Option FieldType) (n : Nat) : Prop := LB y bytes maxL ret n ∧ (own, idx, y) ∈ nestF ∧ Cond.static y ∈ AW
def LIN (own : String) (idx : Nat) (y : MethodName) (bytes : ByteArray) (maxL : Nat) (n : Nat) : Prop := LB y bytes maxL none n ∧ (own, idx, y) ∈ nestF ∧ Cond.instanceMethod y ∈ AW ∧ y.name = "<init>"
section XC
variable {g : Gx} {cc : ByteArray} {own : String} {pc : Nat} {lv : List (Nat × Value)} {rest st : List Value} {σ : Sg} {b bc : Nat × Nat}
variable {ρ : Type} {y : MethodName} {bytes : ByteArray} {maxL : Nat} {ret : Option FieldType} {fr lo : Nat} {mk : ρ → Option Value} {As : List Value} {Qm : ρ → Sg → Prop} {idx c n a : Nat} {x : Option Nat} {rm : Room}
theorem pre_blind {D : Dg} {av : List Value} {sz : Nat} : FrameBlind (va_Pc av (PreX D σ sz)) := by
  intro a U g mk q
  obtain ⟨h0, h1, h2, h3, h4, h5⟩ := q
  exact ⟨h0, h1, h2.moved (u := U) (U := U.calling g mk a) (Vm.Alike.refl U.vm), WdT.same (u := U) (U := U.calling g mk a) rfl h3, WdH.moved (u := U) (U := U.calling g mk a) (Vm.Alike.refl U.vm) h4, h5⟩
/-- what a call leads to, once the machine has run it -/
theorem x_run {p : Program} {l : Launch} {e : Env} {R : Room} {s : State} {m : MethodId} {args : Array Value} {below : List Frame} {meth : Method} {c0 : Code} {Q : State → Prop} {D : Dg} {A : Nat → Prop} {mc ms nL : Nat} {H : Heap} {locs : List Loc} {cells slots : Nat} {ls : Array Slot} {a0 : Array Value} {len : Nat}
    (hr : ∀ T : State, T.heap = H → Stand p l e R s m args below meth c0 T locs cells slots → ∃ (v : Option Value) (st₀ t T' : State) (L : List Loc), st₀.heap = H ∧ Stand p l e R s m args below meth c0 T' (locs ++ L) (cells + bc.1) (slots + bc.2) ∧ (∀ q ∈ L, AX σ H.size q.base) ∧ T'.heap = t.heap ∧ T'.vm = t.vm ∧ PoX D (AX σ H.size) mk Qm a0 st₀ (.returned v) t ∧ Goes p e below T (F0 m pc ls st) T' { F0 m pc ls st with pc := pc + len, stack := v.toList ++ rest })
    (hS : va_S A s.heap H locs) (hA : ∀ q, wr (sK σ q) → A q) (hA1 : ∀ q, s.heap.size ≤ q → A q) (hc : cells + b.1 ≤ mc) (hs : slots + b.2 ≤ ms) (hb1 : bc.1 ≤ b.1) (hb2 : bc.2 ≤ b.2) (hl : lv_has ls nL lv)
    (kk : ∀ (r : ρ) (σ' : Sg), Qm r σ' → XJ ((p, l, e, R, s, m, args, below, meth, c0), Q, D, A, mc, ms, nL) (pc + len) lv ((mk r).toList ++ rest) σ' (b.1 - bc.1, b.2 - bc.2)) : W p l e R s m args below meth c0 H locs cells slots Q (F0 m pc ls st) := by
  intro T hT X
  have hAA : ∀ q, AX σ H.size q → A q := fun q h => h.elim (hA q) (fun h => hA1 q (Nat.le_trans hS.1 h))
  obtain ⟨v, st₀, t, T', L, h0, X', hL, e1, e2, ⟨⟨r, σ', hv, hq, hR', hA'⟩, hz, hk⟩, stp⟩ := hr T hT X
  cases hv
  rw [h0] at hz hk
  have hS' : va_S A s.heap T'.heap (locs ++ L) := ⟨Nat.le_trans hS.1 (by rw [e1]; exact hz), fun q h1 h2 => by rw [e1, hk q (Nat.lt_of_lt_of_le h1 hS.1) (fun z => h2 (hAA q z))]; exact hS.2.1 q h1 h2, fun q hq => by
      rcases List.mem_append.mp hq with h | h
      · exact hS.2.2 q h
      · exact hAA _ (hL q h)⟩
  have hR2 : Rep D s σ' T'.heap := by
    rw [e1]
    refine Rep.moved (u := t) ?_ hR'
    rw [← e2]
    exact X'.warmed.alike.symm
  obtain ⟨t2, a1, b1⟩ := kk r σ' hq T'.heap (locs ++ L) (cells + bc.1) (slots + bc.2) ls hR2 hS' (fun q h => hAA q (hA' q h)) (by show cells + bc.1 + (b.1 - bc.1) ≤ mc; omega) (by show slots + bc.2 + (b.2 - bc.2) ≤ ms; omega) hl T' rfl X'
  exact ⟨t2, stp t2 a1, b1⟩
theorem pre_use {D : Dg} {av : List Value} {s U : State} {H : Heap} {A : Nat → Prop} {locs : List Loc} (hR : Rep D s σ H) (hWT : WdT D s) (hWH : WdH D s s.heap) (hS : va_S A s.heap H locs) (hA1 : ∀ q, s.heap.size ≤ q → A q) (hA2 : ∀ q, A q → base D ≤ q) (hU : U.heap = H) (hW : s.WarmedH U.vm) : va_Pc av (PreX D σ H.size) av.toArray U := by
  refine ⟨rfl, by rw [hU], by rw [hU]; exact hR.moved hW.alike, hWT.warm hW, ?_, Nat.le_trans (hA2 _ (hA1 _ (Nat.le_refl _))) hS.1⟩
  rw [hU]
  exact (hWH.kept (fun q h1 h2 => hS.2.1 q h1 (fun z => h2 (hA2 q z)))).moved hW.alike
theorem lb_callB {R : Room} {s : State} {args : Array Value} (hts : ∀ w ∈ AW, w.before args s = true) (hB : LB y bytes maxL ret n) (hl : (Cond.methodLink own idx y).before args s = true) (hR : fr + 1 ≤ R.frames ∧ 8 + (maxL + 11) + lo ≤ R.locals) : CallB R s args own idx y bytes maxL ret (Cond.code y bytes maxL ret :: AW) { frames := fr, cells := bc.1, slots := bc.2, locals := lo } bc.1 bc.2 n := by
  obtain ⟨h1, h2, h3, h4, h5⟩ := hB
  exact callB_of n hts (aw_goodA (fun w hw => by rcases List.mem_cons.mp hw with h | h; · rw [h]; exact h1
                                                 · exact h)) rfl rfl rfl (hts _ h2) hl ⟨h3, h4, h5⟩ hR
theorem lb_CN {R : Room} {s : State} {args : Array Value} {host : String} (hts : ∀ w ∈ AW, w.before args s = true) (hB : LB y bytes maxL ret n) (hl : va_Nw (.methodLinkNest own idx y host) s) (hR : fr + 1 ≤ R.frames ∧ 8 + (maxL + 11) + lo ≤ R.locals) : va_CN R s args own idx y host bytes maxL ret (Cond.code y bytes maxL ret :: AW) { frames := fr, cells := bc.1, slots := bc.2, locals := lo } bc.1 bc.2 n := by
  obtain ⟨h1, h2, h3, h4, h5⟩ := hB
  exact va_cnB n hts (aw_goodA (fun w hw => by rcases List.mem_cons.mp hw with h | h; · rw [h]; exact h1
                                               · exact h)) rfl rfl rfl hl (hts _ h2) ⟨h3, h4, h5⟩ hR
theorem x_callV (hg : GoodG g cc own) (hC : Ctr (gL g) (gD g) y bytes maxL ret fr lo mk (.ref a :: As) σ bc Qm) (hL : LV own idx y c bytes maxL ret n) (hx : x = some a) (hk : sK σ a % 32 = c) (hn : As.length = n) (hst : st = As.reverse ++ va_rf (some a) :: rest) (d : decode cc pc = .ok (.invokevirtual idx, 3)) (hW : (rest.map fun v => v.category).sum ≤ 8) (hrm : gR g = rm) (hRm : fr + 1 ≤ rm.frames ∧ 8 + (maxL + 11) + lo ≤ rm.locals) (hb1 : bc.1 ≤ b.1) (hb2 : bc.2 ≤ b.2) (kk : ∀ (r : ρ) (σ' : Sg), Qm r σ' → XJ g (pc + 3) lv ((mk r).toList ++ rest) σ' (b.1 - bc.1, b.2 - bc.2)) : XJ g pc lv st σ b := by
  obtain ⟨⟨p, l, e, R, s, m, args, below, meth, c0⟩, Q, D, A, mc, ms, nL⟩ := g
  intro H locs cells slots ls hR hS hA hc hs hl
  obtain ⟨he, hb, hml, hown, hts, hWT, hWH, hA1, hA2, hmc, hms, hlk⟩ := hg
  obtain ⟨hB, w1, w2, w3, c1, c2, T, N, hT⟩ := hL
  have hRm : fr + 1 ≤ R.frames ∧ 8 + (maxL + 11) + lo ≤ R.locals := by rw [show R = rm from hrm]; exact hRm
  have hrecv : ∃ cellB : Cell, H[a]? = some cellB ∧ cellB.vm.isStatics = false ∧ s.vm.findClass y.cls = some cellB.cls := by
    obtain ⟨cell, q1, q2, q3, -⟩ := (hR.1 a).1 (by omega) (by omega) (y.cls, T, N) (by rw [hk]; exact hT)
    rw [hk] at q2
    exact ⟨cell, q1, by rw [q3]; rfl, by rw [q2]; exact (hWT.1.1 (c - 1) _ hT).2.1⟩
  refine x_run (len := 3) (a0 := _) (va_runV (g := F0 m pc ls st) ⟨he, hb, hml, hown, hts⟩ (hC H.size) ⟨lb_callB hts hB (hts _ w1) hRm, hts _ w2, hts _ w3⟩ ⟨pre_blind, hrecv, fun U hU hW' => pre_use hR hWT hWH hS hA1 hA2 hU hW'⟩ rfl hn hl.1 hst (lv_room hW) d ⟨by omega, by omega⟩) hS hA hA1 hc hs hb1 hb2 hl kk

theorem x_callS (hg : GoodG g cc own) (hC : Ctr (gL g) (gD g) y bytes maxL ret fr lo mk As σ bc Qm) (hL : LS' own idx y bytes maxL ret n) (hn : As.length = n) (hst : st = As.reverse ++ rest) (d : decode cc pc = .ok (.invokestatic idx, 3)) (hW : (rest.map fun v => v.category).sum ≤ 8) (hrm : gR g = rm) (hRm : fr + 1 ≤ rm.frames ∧ 8 + (maxL + 11) + lo ≤ rm.locals) (hb1 : bc.1 ≤ b.1) (hb2 : bc.2 ≤ b.2) (kk : ∀ (r : ρ) (σ' : Sg), Qm r σ' → XJ g (pc + 3) lv ((mk r).toList ++ rest) σ' (b.1 - bc.1, b.2 - bc.2)) : XJ g pc lv st σ b := by
  obtain ⟨⟨p, l, e, R, s, m, args, below, meth, c0⟩, Q, D, A, mc, ms, nL⟩ := g
  intro H locs cells slots ls hR hS hA hc hs hl
  obtain ⟨he, hb, hml, hown, hts, hWT, hWH, hA1, hA2, hmc, hms, hlk⟩ := hg
  obtain ⟨hB, w1, w2⟩ := hL
  have hRm : fr + 1 ≤ R.frames ∧ 8 + (maxL + 11) + lo ≤ R.locals := by rw [show R = rm from hrm]; exact hRm
  refine x_run (len := 3) (a0 := _) (va_runS (g := F0 m pc ls st) ⟨he, hb, hml, hown, hts⟩ (hC H.size) ⟨lb_callB hts hB (hts _ w1) hRm, hts _ w2⟩ ⟨pre_blind, fun U hU hW' => pre_use hR hWT hWH hS hA1 hA2 hU hW'⟩ rfl hn hl.1 hst (lv_room hW) d ⟨by omega, by omega⟩) hS hA hA1 hc hs hb1 hb2 hl kk

theorem x_callSN (hg : GoodG g cc own) (hC : Ctr (gL g) (gD g) y bytes maxL ret fr lo mk As σ bc Qm) (hL : LSN own idx y bytes maxL ret n) (hn : As.length = n) (hst : st = As.reverse ++ rest) (d : decode cc pc = .ok (.invokestatic idx, 3)) (hW : (rest.map fun v => v.category).sum ≤ 8) (hrm : gR g = rm) (hRm : fr + 1 ≤ rm.frames ∧ 8 + (maxL + 11) + lo ≤ rm.locals) (hb1 : bc.1 ≤ b.1) (hb2 : bc.2 ≤ b.2) (kk : ∀ (r : ρ) (σ' : Sg), Qm r σ' → XJ g (pc + 3) lv ((mk r).toList ++ rest) σ' (b.1 - bc.1, b.2 - bc.2)) : XJ g pc lv st σ b := by
  obtain ⟨⟨p, l, e, R, s, m, args, below, meth, c0⟩, Q, D, A, mc, ms, nL⟩ := g
  intro H locs cells slots ls hR hS hA hc hs hl
  obtain ⟨he, hb, hml, hown, hts, hWT, hWH, hA1, hA2, hmc, hms, hlk⟩ := hg
  obtain ⟨hB, w1, w2⟩ := hL
  have hRm : fr + 1 ≤ R.frames ∧ 8 + (maxL + 11) + lo ≤ R.locals := by rw [show R = rm from hrm]; exact hRm
  refine x_run (len := 3) (a0 := _) (va_runSN (g := F0 m pc ls st) ⟨he, hb, hml, hown, hts⟩ (hC H.size) ⟨lb_CN hts hB (hWT.2.1 _ w1) hRm, hts _ w2, trivial⟩ ⟨pre_blind, fun U hU hW' => pre_use hR hWT hWH hS hA1 hA2 hU hW'⟩ rfl hn hl.1 hst (lv_room hW) d ⟨by omega, by omega⟩) hS hA hA1 hc hs hb1 hb2 hl kk

theorem x_callI (hg : GoodG g cc own) (hC : Ctr (gL g) (gD g) y bytes maxL none fr lo mk (.ref a :: As) σ bc Qm) (hL : LI own idx y bytes maxL n) (hx : x = some a) (hn : As.length = n) (hst : st = As.reverse ++ va_rf (some a) :: rest) (d : decode cc pc = .ok (.invokespecial idx, 3)) (hW : (rest.map fun v => v.category).sum ≤ 8) (hrm : gR g = rm) (hRm : fr + 1 ≤ rm.frames ∧ 8 + (maxL + 11) + lo ≤ rm.locals) (hb1 : bc.1 ≤ b.1) (hb2 : bc.2 ≤ b.2) (kk : ∀ (r : ρ) (σ' : Sg), Qm r σ' → XJ g (pc + 3) lv ((mk r).toList ++ rest) σ' (b.1 - bc.1, b.2 - bc.2)) : XJ g pc lv st σ b := by
  obtain ⟨⟨p, l, e, R, s, m, args, below, meth, c0⟩, Q, D, A, mc, ms, nL⟩ := g
  intro H locs cells slots ls hR hS hA hc hs hl
  obtain ⟨he, hb, hml, hown, hts, hWT, hWH, hA1, hA2, hmc, hms, hlk⟩ := hg
  obtain ⟨hB, w1, w2, w3⟩ := hL
  have hRm : fr + 1 ≤ R.frames ∧ 8 + (maxL + 11) + lo ≤ R.locals := by rw [show R = rm from hrm]; exact hRm
  refine x_run (len := 3) (a0 := _) (va_runI (g := F0 m pc ls st) ⟨he, hb, hml, hown, hts⟩ (hC H.size) ⟨lb_callB hts hB (hts _ w1) hRm, w3, hts _ w2⟩ ⟨pre_blind, fun U hU hW' => pre_use hR hWT hWH hS hA1 hA2 hU hW'⟩ rfl hn hl.1 hst (lv_room hW) d ⟨by omega, by omega⟩) hS hA hA1 hc hs hb1 hb2 hl kk

theorem x_callIN (hg : GoodG g cc own) (hC : Ctr (gL g) (gD g) y bytes maxL none fr lo mk (.ref a :: As) σ bc Qm) (hL : LIN own idx y bytes maxL n) (hx : x = some a) (hn : As.length = n) (hst : st = As.reverse ++ va_rf (some a) :: rest) (d : decode cc pc = .ok (.invokespecial idx, 3)) (hW : (rest.map fun v => v.category).sum ≤ 8) (hrm : gR g = rm) (hRm : fr + 1 ≤ rm.frames ∧ 8 + (maxL + 11) + lo ≤ rm.locals) (hb1 : bc.1 ≤ b.1) (hb2 : bc.2 ≤ b.2) (kk : ∀ (r : ρ) (σ' : Sg), Qm r σ' → XJ g (pc + 3) lv ((mk r).toList ++ rest) σ' (b.1 - bc.1, b.2 - bc.2)) : XJ g pc lv st σ b := by
  obtain ⟨⟨p, l, e, R, s, m, args, below, meth, c0⟩, Q, D, A, mc, ms, nL⟩ := g
  intro H locs cells slots ls hR hS hA hc hs hl
  obtain ⟨he, hb, hml, hown, hts, hWT, hWH, hA1, hA2, hmc, hms, hlk⟩ := hg
  obtain ⟨hB, w1, w2, w3⟩ := hL
  have hRm : fr + 1 ≤ R.frames ∧ 8 + (maxL + 11) + lo ≤ R.locals := by rw [show R = rm from hrm]; exact hRm
  refine x_run (len := 3) (a0 := _) (va_runIN (g := F0 m pc ls st) ⟨he, hb, hml, hown, hts⟩ (hC H.size) ⟨lb_CN hts hB (hWT.2.1 _ w1) hRm, w3, hts _ w2⟩ ⟨pre_blind, fun U hU hW' => pre_use hR hWT hWH hS hA1 hA2 hU hW'⟩ rfl hn hl.1 hst (lv_room hW) d ⟨by omega, by omega⟩) hS hA hA1 hc hs hb1 hb2 hl kk

theorem x_objInit (hg : GoodG g cc own) (h1 : Cond.methodLink own idx objectInit ∈ AW) (h2 : Cond.instanceMethod objectInit ∈ AW) (h3 : Cond.code objectInit ⟨#[0xb1]⟩ 1 none ∈ AW) (hx : x = some a) (d : decode cc pc = .ok (.invokespecial idx, 3)) (hW : (rest.map fun v => v.category).sum ≤ 8) (hrm : gR g = rm) (hRm : 1 ≤ rm.frames ∧ 20 ≤ rm.locals) (kk : XJ g (pc + 3) lv rest σ b) : XJ g pc lv (va_rf x :: rest) σ b := by
  obtain ⟨⟨p, l, e, R, s, m, args, below, meth, c0⟩, Q, D, A, mc, ms, nL⟩ := g
  intro H locs cells slots ls hR hS hA hc hs hl
  obtain ⟨he, hb, hml, hown, hts, hWT, hWH, hA1, hA2, hmc, hms, hlk⟩ := hg
  subst hx
  have hRm : 1 ≤ R.frames ∧ 20 ≤ R.locals := by rw [show R = rm from hrm]; exact hRm
  exact W.objInit he hb hown (hts _ h1) (hts _ h2) (hts _ h3) rfl (hl.1.trans hml.symm) rfl d hRm.1 (by show 2 * 0 + _ + 12 ≤ _; omega) (kk H locs cells slots ls hR hS hA hc hs hl)

end XC
