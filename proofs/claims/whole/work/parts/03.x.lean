/-! ===== THE STORE: what the walks speak of. A store tells of each address its kind (0: not ours; kind % 32: which class or array), length, and what its places hold: ints, longs, references ===== -/
def AW : List Cond := lw_tbl.filter goodWord
theorem aw_of {w : Cond} (h : w ∈ lw_tbl) (hg : goodWord w = true) : w ∈ AW := List.mem_filter.mpr ⟨h, hg⟩
theorem aw_good {w0 : Cond} {ws : List Cond} (h : ∀ w ∈ ws, w ∈ AW) : GoodIn (w0 :: AW) ws := fun w hw => ⟨List.mem_cons_of_mem _ (h w hw), good_of_word (List.mem_filter.mp (h w hw)).2⟩
theorem aw_goodA {ws : List Cond} (h : ∀ w ∈ ws, w ∈ AW) : GoodIn AW ws := fun w hw => ⟨h w hw, good_of_word (List.mem_filter.mp (h w hw)).2⟩
abbrev Sg : Type := (Nat → Nat) × (Nat → Nat) × (Nat → Nat → Int32) × (Nat → Nat → Int64) × (Nat → Nat → Option Nat)
def sK (σ : Sg) : Nat → Nat := σ.1
def sN (σ : Sg) : Nat → Nat := σ.2.1
def sI (σ : Sg) : Nat → Nat → Int32 := σ.2.2.1
def sL (σ : Sg) : Nat → Nat → Int64 := σ.2.2.2.1
def sR (σ : Sg) : Nat → Nat → Option Nat := σ.2.2.2.2
def pI (σ : Sg) (a k : Nat) (v : Int32) : Sg := (σ.1, σ.2.1, va_up σ.2.2.1 a (va_up (σ.2.2.1 a) k v), σ.2.2.2)
def pL (σ : Sg) (a k : Nat) (v : Int64) : Sg := (σ.1, σ.2.1, σ.2.2.1, va_up σ.2.2.2.1 a (va_up (σ.2.2.2.1 a) k v), σ.2.2.2.2)
def pR (σ : Sg) (a k : Nat) (v : Option Nat) : Sg := (σ.1, σ.2.1, σ.2.2.1, σ.2.2.2.1, va_up σ.2.2.2.2 a (va_up (σ.2.2.2.2 a) k v))
/-- a new cell at q, of kind k and length n, all places 0 or null -/
def nw (σ : Sg) (q k n : Nat) : Sg := (va_up σ.1 q k, va_up σ.2.1 q n, va_up σ.2.2.1 q (fun _ => 0), va_up σ.2.2.2.1 q (fun _ => 0), va_up σ.2.2.2.2 q (fun _ => none))
theorem sK_pI (σ : Sg) (a k : Nat) (v : Int32) : sK (pI σ a k v) = sK σ := rfl
theorem sK_pL (σ : Sg) (a k : Nat) (v : Int64) : sK (pL σ a k v) = sK σ := rfl
theorem sK_pR (σ : Sg) (a k : Nat) (v : Option Nat) : sK (pR σ a k v) = sK σ := rfl
theorem sN_pI (σ : Sg) (a k : Nat) (v : Int32) : sN (pI σ a k v) = sN σ := rfl
theorem sN_pL (σ : Sg) (a k : Nat) (v : Int64) : sN (pL σ a k v) = sN σ := rfl
theorem sN_pR (σ : Sg) (a k : Nat) (v : Option Nat) : sN (pR σ a k v) = sN σ := rfl
theorem sI_pL (σ : Sg) (a k : Nat) (v : Int64) : sI (pL σ a k v) = sI σ := rfl
theorem sI_pR (σ : Sg) (a k : Nat) (v : Option Nat) : sI (pR σ a k v) = sI σ := rfl
theorem sL_pI (σ : Sg) (a k : Nat) (v : Int32) : sL (pI σ a k v) = sL σ := rfl
theorem sL_pR (σ : Sg) (a k : Nat) (v : Option Nat) : sL (pR σ a k v) = sL σ := rfl
theorem sR_pI (σ : Sg) (a k : Nat) (v : Int32) : sR (pI σ a k v) = sR σ := rfl
theorem sR_pL (σ : Sg) (a k : Nat) (v : Int64) : sR (pL σ a k v) = sR σ := rfl
theorem sI_pI (σ : Sg) (a k : Nat) (v : Int32) (b j : Nat) : sI (pI σ a k v) b j = if b = a ∧ j = k then v else sI σ b j := by
  by_cases h : b = a
  · subst h
    by_cases h2 : j = k
    · subst h2; simp [sI, pI, va_up]
    · simp [sI, pI, va_up, h2]
  · simp [sI, pI, va_up, h]
theorem sL_pL (σ : Sg) (a k : Nat) (v : Int64) (b j : Nat) : sL (pL σ a k v) b j = if b = a ∧ j = k then v else sL σ b j := by
  by_cases h : b = a
  · subst h
    by_cases h2 : j = k
    · subst h2; simp [sL, pL, va_up]
    · simp [sL, pL, va_up, h2]
  · simp [sL, pL, va_up, h]
theorem sR_pR (σ : Sg) (a k : Nat) (v : Option Nat) (b j : Nat) : sR (pR σ a k v) b j = if b = a ∧ j = k then v else sR σ b j := by
  by_cases h : b = a
  · subst h
    by_cases h2 : j = k
    · subst h2; simp [sR, pR, va_up]
    · simp [sR, pR, va_up, h2]
  · simp [sR, pR, va_up, h]
theorem sK_nw (σ : Sg) (q k n a : Nat) : sK (nw σ q k n) a = if a = q then k else sK σ a := by
  by_cases h : a = q <;> simp [sK, nw, va_up, h]
theorem sN_nw (σ : Sg) (q k n a : Nat) : sN (nw σ q k n) a = if a = q then n else sN σ a := by
  by_cases h : a = q <;> simp [sN, nw, va_up, h]
theorem sI_nw (σ : Sg) (q k n a j : Nat) : sI (nw σ q k n) a j = if a = q then 0 else sI σ a j := by
  by_cases h : a = q <;> simp [sI, nw, va_up, h]
theorem sL_nw (σ : Sg) (q k n a j : Nat) : sL (nw σ q k n) a j = if a = q then 0 else sL σ a j := by
  by_cases h : a = q <;> simp [sL, nw, va_up, h]
theorem sR_nw (σ : Sg) (q k n a j : Nat) : sR (nw σ q k n) a j = if a = q then none else sR σ a j := by
  by_cases h : a = q <;> simp [sR, nw, va_up, h]
def sV (σ : Sg) (t a k : Nat) : Value := if t = 0 then .int (sI σ a k) else if t = 1 then .long (sL σ a k) else va_rf (sR σ a k)
def tgT : FieldType → Nat
  | .long => 1
  | .object _ => 2
  | .array _ => 2
  | _ => 0
/-- the field types of the classes, by code and place -/
def fty (c : Nat) : Nat → FieldType := match c with
  | 1 => tyJx4a65c
  | 2 => tyX0
  | 3 => tyX1
  | 4 => tyX2
  | 5 => tyX3
  | 6 => tyX4
  | 7 => tyX5
  | 8 => tyX6
  | 9 => tyX7
  | 10 => tyX8
  | 11 => tyX9
  | 12 => tyX10
  | _ => tyX11
def aty (c : Nat) : FieldType := match c with
  | 16 => .int
  | 17 => .long
  | 18 => .boolean
  | 19 => .byte
  | 20 => .object "java/lang/Object"
  | _ => .array .int
abbrev Dg : Type := va_G × (Nat → ClassId) × (Nat → Nat)
def base (D : Dg) : Nat := D.2.2 0
def A0 (D : Dg) : Nat → Prop := fun q => base D ≤ q
def bareV (j : Nat) : Int32 := ([2, 250, 320, 3, 20, 30, 3, 5, 2, 10, 50, 1, 10, 80, 100, 50, 80, 20, 50, 0, 20] : List Int32).getD j 0
def wr (k : Nat) : Prop := (1 ≤ k % 32 ∧ k % 32 ≤ 13) ∨ (16 ≤ k % 32 ∧ k % 32 ≤ 21)
def rpO (D : Dg) (σ : Sg) (c a : Nat) (H : Heap) : Prop := ∀ q : vw_C, vwCl[c - 1]? = some q → t_OB a (D.1.1 (c - 1)) q.2.2 (D.1.2 (c - 1)) H (fun k => sV σ (tgT (fty c k)) a k)
def rpA (D : Dg) (σ : Sg) (c a : Nat) (H : Heap) : Prop := H[a]? = some (arrV (D.2.1 c) (sN σ a) (fun j => sV σ (tgT (aty c)) a j))
def rp (D : Dg) (U : State) (σ : Sg) (a : Nat) (H : Heap) : Prop :=
  (1 ≤ sK σ a % 32 → sK σ a % 32 ≤ 13 → rpO D σ (sK σ a % 32) a H) ∧ (16 ≤ sK σ a % 32 → sK σ a % 32 ≤ 21 → rpA D σ (sK σ a % 32) a H) ∧
  (sK σ a % 32 = 24 → va_T .int a (sN σ a) (fun j => .int (sI σ a j)) (A0 D) U H) ∧ (sK σ a % 32 = 25 → va_T (.object "java/lang/Object") a 0 (fun _ => .null) (A0 D) U H)
def ro (D : Dg) (σ : Sg) : Prop := (∀ a, sK σ a % 32 = 25 ↔ a = D.2.2 2) ∧ sK σ (D.2.2 1) = 24 ∧ sN σ (D.2.2 1) = 21 ∧ ∀ j, j < 21 → sI σ (D.2.2 1) j = bareV j
def Rep (D : Dg) (U : State) (σ : Sg) (H : Heap) : Prop := (∀ a, rp D U σ a H) ∧ (∀ a, wr (sK σ a) → base D ≤ a) ∧ (∀ a, ¬ sK σ a = 0 → a < H.size) ∧ ro D σ
/-- links across the nest, as the tables have them -/
def nestM : List (String × Nat × MethodName) := [("RainStreets", 39, yX7_init), ("RainStreets$Flow", 30, yX5_init)]
def nJS : Nat := 19
def nestF : List (String × Nat × MethodName) := [("RainStreets", 39, yX7_init), ("RainStreets$Flow", 30, yX5_init), ("RainStreets$Bed", 61, yX10_within), ("RainStreets$Roof", 30, yX10_holds), ("RainStreets$Flow", 61, yX10_within), ("RainStreets$Flow", 97, yX10_holds), ("RainStreets$Tape", 130, yX10_within)]
/-- the places of the texts in the pool of the tape's class, the texts, their bytes -/
def strT : List (Nat × String) := [(38, "turn"), (92, "at"), (94, "every"), (96, "from"), (47, "look"), (60, "to"), (52, "clog"), (58, "leaves"), (66, "owe"), (68, "parking"), (70, "salt"), (72, "stand"), (74, "fee"), (76, "credit"), (78, "bed"), (80, "cost"), (82, "bowl"), (84, "doubt"), (86, ";")]
def strB : List (List Int32) := [[116,117,114,110],[97,116],[101,118,101,114,121],[102,114,111,109],[108,111,111,107],[116,111],[99,108,111,103],[108,101,97,118,101,115],[111,119,101],[112,97,114,107,105,110,103],[115,97,108,116],[115,116,97,110,100],[102,101,101],[99,114,101,100,105,116],[98,101,100],[99,111,115,116],[98,111,119,108],[100,111,117,98,116],[59]]
def strL : List Nat := [4,2,5,4,4,2,4,6,3,7,4,5,3,6,3,4,4,5,1]
/-- the address of a text -/
def adS (D : Dg) (i : Nat) : Nat := D.2.2 (100 + i)
def adV (D : Dg) (i : Nat) : Nat := D.2.2 (200 + i)
def tysD (D : Dg) : List (ClassId × FieldType) := [(D.2.1 16, .int), (D.2.1 17, .long), (D.2.1 18, .boolean), (D.2.1 19, .byte), (D.2.1 20, .object "java/lang/Object"), (D.2.1 21, .array .int)]
/-- rows of int rows can be made -/
def AOA (U : State) : Prop := (Cond.arrayOver (.array .int)).before #[] U = true
theorem AOA.moved {u U : State} (hvm : u.vm.Alike U.vm) (h : AOA u) : AOA U := by
  unfold AOA Cond.before Cond.holds at h ⊢
  simp only [Cond.value, beq_iff_eq] at h ⊢
  cases hc : u.vm.findClass (FieldType.array .int).toString with
  | none => simp [hc] at h
  | some comp =>
    simp only [hc, Option.bind_some, Option.bind_eq_some_iff, Option.map_eq_some_iff] at h
    obtain ⟨c, hi, k, hk, hb⟩ := h
    obtain ⟨k', hk', he⟩ := hvm.2.2 _ _ hk
    have hi' : (U.vm.classes.findIdx? fun (x : Class) => match x.kind with | .array component _ => component == comp | _ => false) = some c := by
      have e1 := va_idx_bare U.vm comp
      have e2 := va_idx_bare u.vm comp
      have e3 : U.vm.bare = u.vm.bare := by first | exact hvm.bare_eq | exact hvm.bare_eq.symm
      rw [e3] at e1
      exact (e1.symm.trans e2).trans hi
    rw [hvm.findClass, hc, Option.bind_some]
    refine (congrArg (fun o : Option Nat => o.bind (fun c => (U.vm.classes[c]?).map fun (k : Class) => match k.kind with | .array _ ty => decide (ty = FieldType.array .int) && decide (U.vm.findClass ("[" ++ (FieldType.array .int).toString) = some c) | _ => false)) hi').trans ?_
    rw [Option.bind_some, hk', Option.map_some]
    rw [show k'.kind = k.kind by rw [he], hvm.findClass]
    exact congrArg some hb
/-- what is of the tables alone -/
def WdT (D : Dg) (U : State) : Prop :=
  va_K D.1 vwCl (tysD D) U ∧ (∀ q ∈ nestF, va_Nw (.methodLinkNest q.1 q.2.1 q.2.2 "RainStreets") U) ∧ va_Nw (.fieldLinkNest "RainStreets$Law" 29 "RainStreets" "BARE" "[I" "RainStreets") U ∧ (∀ q ∈ vwCl, va_Nw (.castable q.1 "java/lang/Object") U) ∧ va_AO "java/lang/Object" U ∧ (∀ i, i < nJS → vk_R "RainStreets$Tape" (strT.getD i (0, "")).1 (strT.getD i (0, "")).2 (adS D i) U) ∧ va_Mi "[Ljava/lang/Object;" (D.2.2 3) U ∧ va_Dc U ∧ AOA U
/-- what is of old cells that nobody writes -/
def WdH (D : Dg) (U : State) (H : Heap) : Prop :=
  va_Z "RainStreets" "BARE" "[I" (.ref (D.2.2 1)) (A0 D) U H ∧ va_Z "java/util/ArrayList" "DEFAULTCAPACITY_EMPTY_ELEMENTDATA" "[Ljava/lang/Object;" (.ref (D.2.2 2)) (A0 D) U H ∧ va_Z "java/lang/String" "COMPACT_STRINGS" "Z" (.int 1) (A0 D) U H ∧ va_Zq "jdk/internal/util/Preconditions" "SIOOBE_FORMATTER" "Ljava/util/function/BiFunction;" (A0 D) U H ∧ vk_S nJS strL strB (adS D) (adV D) (A0 D) U H
theorem WdT.same {D : Dg} {u U : State} (hv : U.vm = u.vm) (h : WdT D u) : WdT D U := by
  obtain ⟨h1, h2, h3, h4, h5, h6, h7, h8, h9⟩ := h
  have ha : u.vm.Alike U.vm := by rw [hv]; exact Vm.Alike.refl _
  exact ⟨h1.moved ha, fun q hq => va_Nw.same rfl hv.symm (h2 q hq), va_Nw.same rfl hv.symm h3, fun q hq => va_Nw.same rfl hv.symm (h4 q hq), va_AO.moved ha h5, fun i hi => vk_R.same hv (h6 i hi), h7.moved ha, h8.moved ha, h9.moved ha⟩
theorem WdT.warm {D : Dg} {s U : State} (hW : s.WarmedH U.vm) (h : WdT D s) : WdT D U := by
  obtain ⟨h1, h2, h3, h4, h5, h6, h7, h8, h9⟩ := h
  exact ⟨h1.moved hW.alike, fun q hq => va_Nw.warmM hW (h2 q hq), va_Nw.warmF hW h3, fun q hq => va_Nw.warmC hW (h4 q hq), va_AO.moved hW.alike h5, fun i hi => vk_R.warm hW (h6 i hi), h7.moved hW.alike, h8.moved hW.alike, h9.moved hW.alike⟩
theorem WdH.moved {D : Dg} {u U : State} {H : Heap} (ha : u.vm.Alike U.vm) (h : WdH D u H) : WdH D U H := by
  obtain ⟨h1, h2, h3, h4, h5⟩ := h
  exact ⟨h1.moved ha, h2.moved ha, h3.moved ha, h4.moved ha, h5.moved ha⟩
theorem WdH.kept {D : Dg} {U : State} {H H1 : Heap} (h : WdH D U H) (hq : ∀ a : Nat, a < H.size → ¬ A0 D a → H1[a]? = H[a]?) : WdH D U H1 := by
  obtain ⟨h1, h2, h3, h4, h5⟩ := h
  exact ⟨h1.kept hq, h2.kept hq, h3.kept hq, h4.kept hq, h5.kept hq⟩
theorem rp.moved {D : Dg} {u U : State} {σ : Sg} {a : Nat} {H : Heap} (ha : u.vm.Alike U.vm) (h : rp D u σ a H) : rp D U σ a H :=
  ⟨h.1, h.2.1, fun q => (h.2.2.1 q).moved ha, fun q => (h.2.2.2 q).moved ha⟩
theorem Rep.moved {D : Dg} {u U : State} {σ : Sg} {H : Heap} (ha : u.vm.Alike U.vm) (h : Rep D u σ H) : Rep D U σ H := ⟨fun a => (h.1 a).moved ha, h.2⟩
theorem rp.lt {D : Dg} {U : State} {σ : Sg} {a : Nat} {H : Heap} (h : Rep D U σ H) (hw : ¬ sK σ a = 0) : a < H.size := h.2.2.1 a hw
/-- a store's fact on one address, by what it tells there -/
theorem rp.congr {D : Dg} {U : State} {σ σ' : Sg} {a : Nat} {H : Heap} (h1 : sK σ' a = sK σ a) (h2 : sN σ' a = sN σ a) (h3 : sI σ' a = sI σ a) (h4 : sL σ' a = sL σ a) (h5 : sR σ' a = sR σ a) (h : rp D U σ a H) : rp D U σ' a H := by
  have e : (fun t k => sV σ' t a k) = fun t k => sV σ t a k := by funext t k; simp only [sV, h3, h4, h5]
  have e2 : ∀ t, (fun k => sV σ' t a k) = fun k => sV σ t a k := fun t => congrFun e t
  unfold rp rpO rpA at h ⊢
  simp only [h1, h2, e2, h3] at h ⊢
  exact h
theorem rp.kept {D : Dg} {U : State} {σ : Sg} {a : Nat} {H H1 : Heap} (h : rp D U σ a H) (hq : H1[a]? = H[a]?) : rp D U σ a H1 := by
  refine ⟨fun h1 h2 q hc => (h.1 h1 h2 q hc).kept hq, fun h1 h2 => hq.trans (h.2.1 h1 h2), fun z => ?_, fun z => ?_⟩
  · obtain ⟨cell, g1, g2⟩ := h.2.2.1 z
    exact ⟨cell, by rw [hq]; exact g1, g2⟩
  · obtain ⟨cell, g1, g2⟩ := h.2.2.2 z
    exact ⟨cell, by rw [hq]; exact g1, g2⟩
abbrev Gx : Type := (Program × Launch × Env × Room × State × MethodId × Array Value × List Frame × Method × Code) × (State → Prop) × Dg × (Nat → Prop) × Nat × Nat × Nat
/-- the walk's goal: at pc, with these locals, this stack, this store, this much still to be made -/
def XJ : Gx → Nat → List (Nat × Value) → List Value → Sg → Nat × Nat → Prop := fun ((p, l, e, R, s, m, args, below, meth, c), Q, D, A, mc, ms, nL) pc lv st σ b =>
  ∀ (H : Heap) (locs : List Loc) (cells slots : Nat) (ls : Array Slot), Rep D s σ H → va_S A s.heap H locs → (∀ q, wr (sK σ q) → A q) → cells + b.1 ≤ mc → slots + b.2 ≤ ms → lv_has ls nL lv → W p l e R s m args below meth c H locs cells slots Q (F0 m pc ls st)
def GoodG : Gx → ByteArray → String → Prop := fun ((p, _, _, R, s, m, args, _, meth, c), _, D, A, mc, ms, nL) cc own =>
  p.tables.exec = Jvm.exec ∧ c.code = cc ∧ c.maxLocals = nL ∧ s.vm.findClass own = some m.cls ∧ (∀ w ∈ AW, w.before args s = true) ∧ WdT D s ∧ WdH D s s.heap ∧ (∀ q, s.heap.size ≤ q → A q) ∧ (∀ q, A q → base D ≤ q) ∧ mc ≤ R.cells ∧ ms ≤ R.slots ∧ meth.locks = false
def gR : Gx → Room := fun g => g.1.2.2.2.1
def gD : Gx → Dg := fun g => g.2.2.1
def gN : Gx → Nat := fun g => g.2.2.2.2.2.2
def gI : Gx → String := fun g => g.1.2.2.2.2.2.2.2.2.1.name
section XS
variable {g : Gx} {cc : ByteArray} {own : String} {pc : Nat} {lv : List (Nat × Value)} {rest : List Value} {σ : Sg} {b : Nat × Nat}
theorem x_of {pc' : Nat} {st st' : List Value} (hg : GoodG g cc own)
    (h : ∀ {p : Program} {l : Launch} {e : Env} {R : Room} {s : State} {m : MethodId} {args : Array Value} {below : List Frame} {meth : Method} {c : Code} {H : Heap} {locs : List Loc} {cells slots : Nat} {Q : State → Prop} {ls : Array Slot}, p.tables.exec = Jvm.exec → c.code = cc → W p l e R s m args below meth c H locs cells slots Q (F0 m pc' ls st') → W p l e R s m args below meth c H locs cells slots Q (F0 m pc ls st))
    (k : XJ g pc' lv st' σ b) : XJ g pc lv st σ b := by
  obtain ⟨⟨p, l, e, R, s, m, args, below, meth, c⟩, Q, D, A, mc, ms, nL⟩ := g
  intro H locs cells slots ls hR hS hA hc hs hl
  exact h hg.1 hg.2.1 (k H locs cells slots ls hR hS hA hc hs hl)
theorem x_sub {lv' : List (Nat × Value)} {st : List Value} (ks : List Nat) (hl : lv_pick lv ks = lv') (k : XJ g pc lv' st σ b) : XJ g pc lv st σ b := by
  obtain ⟨⟨p, l, e, R, s, m, args, below, meth, c⟩, Q, D, A, mc, ms, nL⟩ := g
  intro H locs cells slots ls hR hS hA hc hs h
  exact k H locs cells slots ls hR hS hA hc hs (lv_sub h ks hl)
/-- the budget may shrink -/
theorem x_less {st : List Value} {b' : Nat × Nat} (h1 : b'.1 ≤ b.1) (h2 : b'.2 ≤ b.2) (k : XJ g pc lv st σ b') : XJ g pc lv st σ b := by
  obtain ⟨⟨p, l, e, R, s, m, args, below, meth, c⟩, Q, D, A, mc, ms, nL⟩ := g
  intro H locs cells slots ls hR hS hA hc hs h
  exact k H locs cells slots ls hR hS hA (by omega) (by omega) h
theorem x_iconst (hg : GoodG g cc own) {n : Int} {v : Int32} (d : decode cc pc = .ok (.iconst n, 1)) (hv : Int32.ofInt n = v) (k : XJ g (pc + 1) lv (.int v :: rest) σ b) : XJ g pc lv rest σ b := x_of hg (fun hx hb w => lv_iconst hx hb d hv w) k
theorem x_bipush (hg : GoodG g cc own) {n : Int} {v : Int32} (d : decode cc pc = .ok (.bipush n, 2)) (hv : (Int8.ofInt n).toInt32 = v) (k : XJ g (pc + 2) lv (.int v :: rest) σ b) : XJ g pc lv rest σ b := x_of hg (fun hx hb w => lv_bipush hx hb d hv w) k
theorem x_sipush (hg : GoodG g cc own) {n : Int} {v : Int32} (d : decode cc pc = .ok (.sipush n, 3)) (hv : (Int16.ofInt n).toInt32 = v) (k : XJ g (pc + 3) lv (.int v :: rest) σ b) : XJ g pc lv rest σ b := x_of hg (fun hx hb w => lv_sipush hx hb d hv w) k
theorem x_lconst (hg : GoodG g cc own) {n : Fin 2} {v : Int64} (d : decode cc pc = .ok (.lconst n, 1)) (hv : Int64.ofNat (n : Nat) = v) (k : XJ g (pc + 1) lv (.long v :: rest) σ b) : XJ g pc lv rest σ b := x_of hg (fun hx hb w => lv_lconst hx hb d hv w) k
theorem x_null (hg : GoodG g cc own) (d : decode cc pc = .ok (.aconst_null, 1)) (k : XJ g (pc + 1) lv (va_rf none :: rest) σ b) : XJ g pc lv rest σ b := x_of hg (fun hx hb w => lv_null hx hb d w) k
theorem x_goto (hg : GoodG g cc own) {st : List Value} {off : Int} {tgt : Nat} (d : decode cc pc = .ok (.goto off, 3)) (ht : (pc : Int) + off = (tgt : Int)) (k : XJ g tgt lv st σ b) : XJ g pc lv st σ b := x_of hg (fun hx hb w => lv_goto hx hb d ht w) k
theorem x_iadd (hg : GoodG g cc own) {x y : Int32} (d : decode cc pc = .ok (.iadd, 1)) (k : XJ g (pc + 1) lv (.int (x + y) :: rest) σ b) : XJ g pc lv (.int y :: .int x :: rest) σ b := x_of hg (fun hx hb w => lv_iadd hx hb d w) k
theorem x_isub (hg : GoodG g cc own) {x y : Int32} (d : decode cc pc = .ok (.isub, 1)) (k : XJ g (pc + 1) lv (.int (x - y) :: rest) σ b) : XJ g pc lv (.int y :: .int x :: rest) σ b := x_of hg (fun hx hb w => lv_isub hx hb d w) k
theorem x_imul (hg : GoodG g cc own) {x y : Int32} (d : decode cc pc = .ok (.imul, 1)) (k : XJ g (pc + 1) lv (.int (x * y) :: rest) σ b) : XJ g pc lv (.int y :: .int x :: rest) σ b := x_of hg (fun hx hb w => lv_imul hx hb d w) k
theorem x_iand (hg : GoodG g cc own) {x y : Int32} (d : decode cc pc = .ok (.iand, 1)) (k : XJ g (pc + 1) lv (.int (x &&& y) :: rest) σ b) : XJ g pc lv (.int y :: .int x :: rest) σ b := x_of hg (fun hx hb w => lv_iand hx hb d w) k
theorem x_ior (hg : GoodG g cc own) {x y : Int32} (d : decode cc pc = .ok (.ior, 1)) (k : XJ g (pc + 1) lv (.int (x ||| y) :: rest) σ b) : XJ g pc lv (.int y :: .int x :: rest) σ b := x_of hg (fun hx hb w => lv_ior hx hb d w) k
theorem x_ixor (hg : GoodG g cc own) {x y : Int32} (d : decode cc pc = .ok (.ixor, 1)) (k : XJ g (pc + 1) lv (.int (x ^^^ y) :: rest) σ b) : XJ g pc lv (.int y :: .int x :: rest) σ b := x_of hg (fun hx hb w => lv_ixor hx hb d w) k
theorem x_idiv (hg : GoodG g cc own) {x y : Int32} (d : decode cc pc = .ok (.idiv, 1)) (hne : ¬ y = 0) (k : XJ g (pc + 1) lv (.int (x / y) :: rest) σ b) : XJ g pc lv (.int y :: .int x :: rest) σ b := x_of hg (fun hx hb w => lv_idiv hx hb d hne w) k
theorem x_irem (hg : GoodG g cc own) {x y : Int32} (d : decode cc pc = .ok (.irem, 1)) (hne : ¬ y = 0) (k : XJ g (pc + 1) lv (.int (x - x / y * y) :: rest) σ b) : XJ g pc lv (.int y :: .int x :: rest) σ b := x_of hg (fun hx hb w => lv_irem hx hb d hne w) k
theorem x_ishl (hg : GoodG g cc own) {x y : Int32} (d : decode cc pc = .ok (.ishl, 1)) (k : XJ g (pc + 1) lv (.int (x <<< (y &&& 31)) :: rest) σ b) : XJ g pc lv (.int y :: .int x :: rest) σ b := x_of hg (fun hx hb w => lv_ishl hx hb d w) k
theorem x_ishr (hg : GoodG g cc own) {x y : Int32} (d : decode cc pc = .ok (.ishr, 1)) (k : XJ g (pc + 1) lv (.int (x >>> (y &&& 31)) :: rest) σ b) : XJ g pc lv (.int y :: .int x :: rest) σ b := x_of hg (fun hx hb w => lv_ishr hx hb d w) k
theorem x_ladd (hg : GoodG g cc own) {x y : Int64} (d : decode cc pc = .ok (.ladd, 1)) (k : XJ g (pc + 1) lv (.long (x + y) :: rest) σ b) : XJ g pc lv (.long y :: .long x :: rest) σ b := x_of hg (fun hx hb w => lv_ladd hx hb d w) k
theorem x_lsub (hg : GoodG g cc own) {x y : Int64} (d : decode cc pc = .ok (.lsub, 1)) (k : XJ g (pc + 1) lv (.long (x - y) :: rest) σ b) : XJ g pc lv (.long y :: .long x :: rest) σ b := x_of hg (fun hx hb w => lv_lsub hx hb d w) k
theorem x_lmul (hg : GoodG g cc own) {x y : Int64} (d : decode cc pc = .ok (.lmul, 1)) (k : XJ g (pc + 1) lv (.long (x * y) :: rest) σ b) : XJ g pc lv (.long y :: .long x :: rest) σ b := x_of hg (fun hx hb w => lv_lmul hx hb d w) k
theorem x_land (hg : GoodG g cc own) {x y : Int64} (d : decode cc pc = .ok (.land, 1)) (k : XJ g (pc + 1) lv (.long (x &&& y) :: rest) σ b) : XJ g pc lv (.long y :: .long x :: rest) σ b := x_of hg (fun hx hb w => lv_land hx hb d w) k
theorem x_lor (hg : GoodG g cc own) {x y : Int64} (d : decode cc pc = .ok (.lor, 1)) (k : XJ g (pc + 1) lv (.long (x ||| y) :: rest) σ b) : XJ g pc lv (.long y :: .long x :: rest) σ b := x_of hg (fun hx hb w => lv_lor hx hb d w) k
theorem x_ldiv (hg : GoodG g cc own) {x y : Int64} (d : decode cc pc = .ok (.ldiv, 1)) (hne : ¬ y = 0) (k : XJ g (pc + 1) lv (.long (x / y) :: rest) σ b) : XJ g pc lv (.long y :: .long x :: rest) σ b := x_of hg (fun hx hb w => lv_ldiv hx hb d hne w) k
theorem x_iushr (hg : GoodG g cc own) {x y : Int32} (d : decode cc pc = .ok (.iushr, 1)) (k : XJ g (pc + 1) lv (.int ((x.toUInt32 >>> (y.toUInt32 &&& Int32.toUInt32 31)).toInt32) :: rest) σ b) : XJ g pc lv (.int y :: .int x :: rest) σ b := x_of hg (fun hx hb w => lv_iushr hx hb d rfl w) k
theorem x_lshl (hg : GoodG g cc own) {x : Int64} {y : Int32} (d : decode cc pc = .ok (.lshl, 1)) (k : XJ g (pc + 1) lv (.long (x <<< (y.toInt64 &&& 63)) :: rest) σ b) : XJ g pc lv (.int y :: .long x :: rest) σ b := x_of hg (fun hx hb w => lv_lshl hx hb d rfl w) k
theorem x_ineg (hg : GoodG g cc own) {x : Int32} (d : decode cc pc = .ok (.ineg, 1)) (k : XJ g (pc + 1) lv (.int (-x) :: rest) σ b) : XJ g pc lv (.int x :: rest) σ b := x_of hg (fun hx hb w => lv_ineg hx hb d w) k
theorem x_lneg (hg : GoodG g cc own) {x : Int64} (d : decode cc pc = .ok (.lneg, 1)) (k : XJ g (pc + 1) lv (.long (-x) :: rest) σ b) : XJ g pc lv (.long x :: rest) σ b := x_of hg (fun hx hb w => lv_lneg hx hb d w) k
theorem x_i2l (hg : GoodG g cc own) {x : Int32} (d : decode cc pc = .ok (.i2l, 1)) (k : XJ g (pc + 1) lv (.long x.toInt64 :: rest) σ b) : XJ g pc lv (.int x :: rest) σ b := x_of hg (fun hx hb w => lv_i2l hx hb d rfl w) k
theorem x_l2i (hg : GoodG g cc own) {x : Int64} (d : decode cc pc = .ok (.l2i, 1)) (k : XJ g (pc + 1) lv (.int x.toInt32 :: rest) σ b) : XJ g pc lv (.long x :: rest) σ b := x_of hg (fun hx hb w => lv_l2i hx hb d rfl w) k
theorem x_i2b (hg : GoodG g cc own) {x : Int32} (d : decode cc pc = .ok (.i2b, 1)) (k : XJ g (pc + 1) lv (.int x.toInt8.toInt32 :: rest) σ b) : XJ g pc lv (.int x :: rest) σ b := x_of hg (fun hx hb w => lv_i2b hx hb d rfl w) k
theorem x_i2c (hg : GoodG g cc own) {x v : Int32} (d : decode cc pc = .ok (.i2c, 1)) (hv : (x.toUInt32 % 65536).toInt32 = v) (k : XJ g (pc + 1) lv (.int v :: rest) σ b) : XJ g pc lv (.int x :: rest) σ b := x_of hg (fun hx hb w => lv_i2c hx hb d hv w) k
theorem x_lcmp (hg : GoodG g cc own) {x y : Int64} (d : decode cc pc = .ok (.lcmp, 1)) (k : XJ g (pc + 1) lv (.int (lg_cmp x y) :: rest) σ b) : XJ g pc lv (.long y :: .long x :: rest) σ b := x_of hg (fun hx hb w => W.lcmp hx hb d w) k
theorem x_dup (hg : GoodG g cc own) {va : Value} (d : decode cc pc = .ok (.dup, 1)) (hva : va.category = 1) (k : XJ g (pc + 1) lv (va :: va :: rest) σ b) : XJ g pc lv (va :: rest) σ b := x_of hg (fun hx hb w => lv_dup hx hb d hva w) k
theorem x_pop (hg : GoodG g cc own) {va : Value} (d : decode cc pc = .ok (.pop, 1)) (hva : va.category = 1) (k : XJ g (pc + 1) lv rest σ b) : XJ g pc lv (va :: rest) σ b := x_of hg (fun hx hb w => lv_pop hx hb d hva w) k
theorem x_dup_x1 (hg : GoodG g cc own) {va vb : Value} (d : decode cc pc = .ok (.dup_x1, 1)) (hva : va.category = 1) (hvb : vb.category = 1) (k : XJ g (pc + 1) lv (va :: vb :: va :: rest) σ b) : XJ g pc lv (va :: vb :: rest) σ b := x_of hg (fun hx hb w => lv_dup_x1 hx hb d hva hvb w) k
theorem x_dup_x2 (hg : GoodG g cc own) {va vb vd : Value} (d : decode cc pc = .ok (.dup_x2, 1)) (hva : va.category = 1) (hvb : vb.category = 1) (hvd : vd.category = 1) (k : XJ g (pc + 1) lv (va :: vb :: vd :: va :: rest) σ b) : XJ g pc lv (va :: vb :: vd :: rest) σ b := x_of hg (fun hx hb w => lv_dup_x2 hx hb d hva hvb hvd w) k
theorem x_dup2 (hg : GoodG g cc own) {va vb : Value} (d : decode cc pc = .ok (.dup2, 1)) (hva : va.category = 1) (hvb : vb.category = 1) (k : XJ g (pc + 1) lv (va :: vb :: va :: vb :: rest) σ b) : XJ g pc lv (va :: vb :: rest) σ b := x_of hg (fun hx hb w => lv_dup2_11 hx hb d hva hvb w) k
theorem x_dup2L (hg : GoodG g cc own) {va : Value} (d : decode cc pc = .ok (.dup2, 1)) (hva : va.category = 2) (k : XJ g (pc + 1) lv (va :: va :: rest) σ b) : XJ g pc lv (va :: rest) σ b := x_of hg (fun hx hb w => lv_dup2_2 hx hb d hva w) k
theorem x_if_eq (hg : GoodG g cc own) {x : Int32} {off : Int} {tgt : Nat} (d : decode cc pc = .ok (.ifCond .eq off, 3)) (ht : (pc : Int) + off = (tgt : Int)) (kt : x = 0 → XJ g tgt lv rest σ b) (kf : ¬ x = 0 → XJ g (pc + 3) lv rest σ b) : XJ g pc lv (.int x :: rest) σ b := by
  obtain ⟨⟨p, l, e, R, s, m, args, below, meth, c⟩, Q, D, A, mc, ms, nL⟩ := g
  intro H locs cells slots ls hR hS hA hc hs hl
  exact lv_if_eq hg.1 hg.2.1 d ht (fun q => kt q H locs cells slots ls hR hS hA hc hs hl) (fun q => kf q H locs cells slots ls hR hS hA hc hs hl)
theorem x_icmp_eq (hg : GoodG g cc own) {x y : Int32} {off : Int} {tgt : Nat} (d : decode cc pc = .ok (.if_icmp .eq off, 3)) (ht : (pc : Int) + off = (tgt : Int)) (kt : x = y → XJ g tgt lv rest σ b) (kf : ¬ x = y → XJ g (pc + 3) lv rest σ b) : XJ g pc lv (.int y :: .int x :: rest) σ b := by
  obtain ⟨⟨p, l, e, R, s, m, args, below, meth, c⟩, Q, D, A, mc, ms, nL⟩ := g
  intro H locs cells slots ls hR hS hA hc hs hl
  exact lv_icmp_eq hg.1 hg.2.1 d ht (fun q => kt q H locs cells slots ls hR hS hA hc hs hl) (fun q => kf q H locs cells slots ls hR hS hA hc hs hl)
theorem x_if_ne (hg : GoodG g cc own) {x : Int32} {off : Int} {tgt : Nat} (d : decode cc pc = .ok (.ifCond .ne off, 3)) (ht : (pc : Int) + off = (tgt : Int)) (kt : ¬ x = 0 → XJ g tgt lv rest σ b) (kf : x = 0 → XJ g (pc + 3) lv rest σ b) : XJ g pc lv (.int x :: rest) σ b := by
  obtain ⟨⟨p, l, e, R, s, m, args, below, meth, c⟩, Q, D, A, mc, ms, nL⟩ := g
  intro H locs cells slots ls hR hS hA hc hs hl
  exact lv_if_ne hg.1 hg.2.1 d ht (fun q => kt q H locs cells slots ls hR hS hA hc hs hl) (fun q => kf q H locs cells slots ls hR hS hA hc hs hl)
theorem x_icmp_ne (hg : GoodG g cc own) {x y : Int32} {off : Int} {tgt : Nat} (d : decode cc pc = .ok (.if_icmp .ne off, 3)) (ht : (pc : Int) + off = (tgt : Int)) (kt : ¬ x = y → XJ g tgt lv rest σ b) (kf : x = y → XJ g (pc + 3) lv rest σ b) : XJ g pc lv (.int y :: .int x :: rest) σ b := by
  obtain ⟨⟨p, l, e, R, s, m, args, below, meth, c⟩, Q, D, A, mc, ms, nL⟩ := g
  intro H locs cells slots ls hR hS hA hc hs hl
  exact lv_icmp_ne hg.1 hg.2.1 d ht (fun q => kt q H locs cells slots ls hR hS hA hc hs hl) (fun q => kf q H locs cells slots ls hR hS hA hc hs hl)
theorem x_if_lt (hg : GoodG g cc own) {x : Int32} {off : Int} {tgt : Nat} (d : decode cc pc = .ok (.ifCond .lt off, 3)) (ht : (pc : Int) + off = (tgt : Int)) (kt : x < 0 → XJ g tgt lv rest σ b) (kf : ¬ x < 0 → XJ g (pc + 3) lv rest σ b) : XJ g pc lv (.int x :: rest) σ b := by
  obtain ⟨⟨p, l, e, R, s, m, args, below, meth, c⟩, Q, D, A, mc, ms, nL⟩ := g
  intro H locs cells slots ls hR hS hA hc hs hl
  exact lv_if_lt hg.1 hg.2.1 d ht (fun q => kt q H locs cells slots ls hR hS hA hc hs hl) (fun q => kf q H locs cells slots ls hR hS hA hc hs hl)
theorem x_icmp_lt (hg : GoodG g cc own) {x y : Int32} {off : Int} {tgt : Nat} (d : decode cc pc = .ok (.if_icmp .lt off, 3)) (ht : (pc : Int) + off = (tgt : Int)) (kt : x < y → XJ g tgt lv rest σ b) (kf : ¬ x < y → XJ g (pc + 3) lv rest σ b) : XJ g pc lv (.int y :: .int x :: rest) σ b := by
  obtain ⟨⟨p, l, e, R, s, m, args, below, meth, c⟩, Q, D, A, mc, ms, nL⟩ := g
  intro H locs cells slots ls hR hS hA hc hs hl
  exact lv_icmp_lt hg.1 hg.2.1 d ht (fun q => kt q H locs cells slots ls hR hS hA hc hs hl) (fun q => kf q H locs cells slots ls hR hS hA hc hs hl)
theorem x_if_ge (hg : GoodG g cc own) {x : Int32} {off : Int} {tgt : Nat} (d : decode cc pc = .ok (.ifCond .ge off, 3)) (ht : (pc : Int) + off = (tgt : Int)) (kt : 0 ≤ x → XJ g tgt lv rest σ b) (kf : ¬ 0 ≤ x → XJ g (pc + 3) lv rest σ b) : XJ g pc lv (.int x :: rest) σ b := by
  obtain ⟨⟨p, l, e, R, s, m, args, below, meth, c⟩, Q, D, A, mc, ms, nL⟩ := g
  intro H locs cells slots ls hR hS hA hc hs hl
  exact lv_if_ge hg.1 hg.2.1 d ht (fun q => kt q H locs cells slots ls hR hS hA hc hs hl) (fun q => kf q H locs cells slots ls hR hS hA hc hs hl)
theorem x_icmp_ge (hg : GoodG g cc own) {x y : Int32} {off : Int} {tgt : Nat} (d : decode cc pc = .ok (.if_icmp .ge off, 3)) (ht : (pc : Int) + off = (tgt : Int)) (kt : y ≤ x → XJ g tgt lv rest σ b) (kf : ¬ y ≤ x → XJ g (pc + 3) lv rest σ b) : XJ g pc lv (.int y :: .int x :: rest) σ b := by
  obtain ⟨⟨p, l, e, R, s, m, args, below, meth, c⟩, Q, D, A, mc, ms, nL⟩ := g
  intro H locs cells slots ls hR hS hA hc hs hl
  exact lv_icmp_ge hg.1 hg.2.1 d ht (fun q => kt q H locs cells slots ls hR hS hA hc hs hl) (fun q => kf q H locs cells slots ls hR hS hA hc hs hl)
theorem x_if_gt (hg : GoodG g cc own) {x : Int32} {off : Int} {tgt : Nat} (d : decode cc pc = .ok (.ifCond .gt off, 3)) (ht : (pc : Int) + off = (tgt : Int)) (kt : 0 < x → XJ g tgt lv rest σ b) (kf : ¬ 0 < x → XJ g (pc + 3) lv rest σ b) : XJ g pc lv (.int x :: rest) σ b := by
  obtain ⟨⟨p, l, e, R, s, m, args, below, meth, c⟩, Q, D, A, mc, ms, nL⟩ := g
  intro H locs cells slots ls hR hS hA hc hs hl
  exact lv_if_gt hg.1 hg.2.1 d ht (fun q => kt q H locs cells slots ls hR hS hA hc hs hl) (fun q => kf q H locs cells slots ls hR hS hA hc hs hl)
theorem x_icmp_gt (hg : GoodG g cc own) {x y : Int32} {off : Int} {tgt : Nat} (d : decode cc pc = .ok (.if_icmp .gt off, 3)) (ht : (pc : Int) + off = (tgt : Int)) (kt : y < x → XJ g tgt lv rest σ b) (kf : ¬ y < x → XJ g (pc + 3) lv rest σ b) : XJ g pc lv (.int y :: .int x :: rest) σ b := by
  obtain ⟨⟨p, l, e, R, s, m, args, below, meth, c⟩, Q, D, A, mc, ms, nL⟩ := g
  intro H locs cells slots ls hR hS hA hc hs hl
  exact lv_icmp_gt hg.1 hg.2.1 d ht (fun q => kt q H locs cells slots ls hR hS hA hc hs hl) (fun q => kf q H locs cells slots ls hR hS hA hc hs hl)
theorem x_if_le (hg : GoodG g cc own) {x : Int32} {off : Int} {tgt : Nat} (d : decode cc pc = .ok (.ifCond .le off, 3)) (ht : (pc : Int) + off = (tgt : Int)) (kt : x ≤ 0 → XJ g tgt lv rest σ b) (kf : ¬ x ≤ 0 → XJ g (pc + 3) lv rest σ b) : XJ g pc lv (.int x :: rest) σ b := by
  obtain ⟨⟨p, l, e, R, s, m, args, below, meth, c⟩, Q, D, A, mc, ms, nL⟩ := g
  intro H locs cells slots ls hR hS hA hc hs hl
  exact lv_if_le hg.1 hg.2.1 d ht (fun q => kt q H locs cells slots ls hR hS hA hc hs hl) (fun q => kf q H locs cells slots ls hR hS hA hc hs hl)
theorem x_icmp_le (hg : GoodG g cc own) {x y : Int32} {off : Int} {tgt : Nat} (d : decode cc pc = .ok (.if_icmp .le off, 3)) (ht : (pc : Int) + off = (tgt : Int)) (kt : x ≤ y → XJ g tgt lv rest σ b) (kf : ¬ x ≤ y → XJ g (pc + 3) lv rest σ b) : XJ g pc lv (.int y :: .int x :: rest) σ b := by
  obtain ⟨⟨p, l, e, R, s, m, args, below, meth, c⟩, Q, D, A, mc, ms, nL⟩ := g
  intro H locs cells slots ls hR hS hA hc hs hl
  exact lv_icmp_le hg.1 hg.2.1 d ht (fun q => kt q H locs cells slots ls hR hS hA hc hs hl) (fun q => kf q H locs cells slots ls hR hS hA hc hs hl)
theorem x_iload_n (hg : GoodG g cc own) {j : Fin 4} {i : Nat} {x : Int32} (k : Nat) (d : decode cc pc = .ok (.iload_n j, 1)) (hi : (j : Nat) = i) (hk : lv[k]? = some (i, .int x)) (kk : XJ g (pc + 1) lv (.int x :: rest) σ b) : XJ g pc lv rest σ b := by
  obtain ⟨⟨p, l, e, R, s, m, args, below, meth, c⟩, Q, D, A, mc, ms, nL⟩ := g
  intro H locs cells slots ls hR hS hA hc hs hl
  exact lv_iload_n hg.1 hg.2.1 d hi (lv_at hl k hk) (kk H locs cells slots ls hR hS hA hc hs hl)
theorem x_iload (hg : GoodG g cc own) {i : Nat} {x : Int32} (k : Nat) (d : decode cc pc = .ok (.iload i, 2)) (hk : lv[k]? = some (i, .int x)) (kk : XJ g (pc + 2) lv (.int x :: rest) σ b) : XJ g pc lv rest σ b := by
  obtain ⟨⟨p, l, e, R, s, m, args, below, meth, c⟩, Q, D, A, mc, ms, nL⟩ := g
  intro H locs cells slots ls hR hS hA hc hs hl
  exact lv_iload hg.1 hg.2.1 d (lv_at hl k hk) (kk H locs cells slots ls hR hS hA hc hs hl)
theorem x_lload_n (hg : GoodG g cc own) {j : Fin 4} {i : Nat} {x : Int64} (k : Nat) (d : decode cc pc = .ok (.lload_n j, 1)) (hi : (j : Nat) = i) (hk : lv[k]? = some (i, .long x)) (kk : XJ g (pc + 1) lv (.long x :: rest) σ b) : XJ g pc lv rest σ b := by
  obtain ⟨⟨p, l, e, R, s, m, args, below, meth, c⟩, Q, D, A, mc, ms, nL⟩ := g
  intro H locs cells slots ls hR hS hA hc hs hl
  exact lv_lload_n hg.1 hg.2.1 d hi (lv_at hl k hk) (kk H locs cells slots ls hR hS hA hc hs hl)
theorem x_lload (hg : GoodG g cc own) {i : Nat} {x : Int64} (k : Nat) (d : decode cc pc = .ok (.lload i, 2)) (hk : lv[k]? = some (i, .long x)) (kk : XJ g (pc + 2) lv (.long x :: rest) σ b) : XJ g pc lv rest σ b := by
  obtain ⟨⟨p, l, e, R, s, m, args, below, meth, c⟩, Q, D, A, mc, ms, nL⟩ := g
  intro H locs cells slots ls hR hS hA hc hs hl
  exact lv_lload hg.1 hg.2.1 d (lv_at hl k hk) (kk H locs cells slots ls hR hS hA hc hs hl)
theorem x_aload_n (hg : GoodG g cc own) {j : Fin 4} {i : Nat} {x : Option Nat} (k : Nat) (d : decode cc pc = .ok (.aload_n j, 1)) (hi : (j : Nat) = i) (hk : lv[k]? = some (i, va_rf x)) (kk : XJ g (pc + 1) lv (va_rf x :: rest) σ b) : XJ g pc lv rest σ b := by
  obtain ⟨⟨p, l, e, R, s, m, args, below, meth, c⟩, Q, D, A, mc, ms, nL⟩ := g
  intro H locs cells slots ls hR hS hA hc hs hl
  cases x with
  | none => exact lv_aload_nN hg.1 hg.2.1 d hi (lv_at hl k hk) (kk H locs cells slots ls hR hS hA hc hs hl)
  | some y => exact lv_aload_n hg.1 hg.2.1 d hi (lv_at hl k hk) (kk H locs cells slots ls hR hS hA hc hs hl)
theorem x_aload (hg : GoodG g cc own) {i : Nat} {x : Option Nat} (k : Nat) (d : decode cc pc = .ok (.aload i, 2)) (hk : lv[k]? = some (i, va_rf x)) (kk : XJ g (pc + 2) lv (va_rf x :: rest) σ b) : XJ g pc lv rest σ b := by
  obtain ⟨⟨p, l, e, R, s, m, args, below, meth, c⟩, Q, D, A, mc, ms, nL⟩ := g
  intro H locs cells slots ls hR hS hA hc hs hl
  cases x with
  | none => exact lv_aloadN hg.1 hg.2.1 d (lv_at hl k hk) (kk H locs cells slots ls hR hS hA hc hs hl)
  | some y => exact lv_aload hg.1 hg.2.1 d (lv_at hl k hk) (kk H locs cells slots ls hR hS hA hc hs hl)
theorem x_istore_n (hg : GoodG g cc own) {j : Fin 4} {i : Nat} {x : Int32} {lv' : List (Nat × Value)} (d : decode cc pc = .ok (.istore_n j, 1)) (hi : (j : Nat) = i) (hn : i < gN g) (hv : (i, .int x) :: lv.filter (fun q => !(q.1 == i) && !(q.1 + 1 == i && q.2.category == 2)) = lv') (kk : XJ g (pc + 1) lv' rest σ b) : XJ g pc lv (.int x :: rest) σ b := by
  obtain ⟨⟨p, l, e, R, s, m, args, below, meth, c⟩, Q, D, A, mc, ms, nL⟩ := g
  intro H locs cells slots ls hR hS hA hc hs hl
  exact lv_istore_n hg.1 hg.2.1 d hi hl hn hv (fun ls' h' => kk H locs cells slots ls' hR hS hA hc hs h')
theorem x_istore (hg : GoodG g cc own) {i : Nat} {x : Int32} {lv' : List (Nat × Value)} (d : decode cc pc = .ok (.istore i, 2)) (hn : i < gN g) (hv : (i, .int x) :: lv.filter (fun q => !(q.1 == i) && !(q.1 + 1 == i && q.2.category == 2)) = lv') (kk : XJ g (pc + 2) lv' rest σ b) : XJ g pc lv (.int x :: rest) σ b := by
  obtain ⟨⟨p, l, e, R, s, m, args, below, meth, c⟩, Q, D, A, mc, ms, nL⟩ := g
  intro H locs cells slots ls hR hS hA hc hs hl
  exact lv_istore hg.1 hg.2.1 d hl hn hv (fun ls' h' => kk H locs cells slots ls' hR hS hA hc hs h')
theorem x_lstore_n (hg : GoodG g cc own) {j : Fin 4} {i : Nat} {x : Int64} {lv' : List (Nat × Value)} (d : decode cc pc = .ok (.lstore_n j, 1)) (hi : (j : Nat) = i) (hn : i + 1 < gN g) (hv : (i, .long x) :: lv.filter (fun q => !(q.1 == i) && (!(q.1 == i + 1) && !(q.1 + 1 == i && q.2.category == 2))) = lv') (kk : XJ g (pc + 1) lv' rest σ b) : XJ g pc lv (.long x :: rest) σ b := by
  obtain ⟨⟨p, l, e, R, s, m, args, below, meth, c⟩, Q, D, A, mc, ms, nL⟩ := g
  intro H locs cells slots ls hR hS hA hc hs hl
  exact lv_lstore_n hg.1 hg.2.1 d hi hl hn hv (fun ls' h' => kk H locs cells slots ls' hR hS hA hc hs h')
theorem x_lstore (hg : GoodG g cc own) {i : Nat} {x : Int64} {lv' : List (Nat × Value)} (d : decode cc pc = .ok (.lstore i, 2)) (hn : i + 1 < gN g) (hv : (i, .long x) :: lv.filter (fun q => !(q.1 == i) && (!(q.1 == i + 1) && !(q.1 + 1 == i && q.2.category == 2))) = lv') (kk : XJ g (pc + 2) lv' rest σ b) : XJ g pc lv (.long x :: rest) σ b := by
  obtain ⟨⟨p, l, e, R, s, m, args, below, meth, c⟩, Q, D, A, mc, ms, nL⟩ := g
  intro H locs cells slots ls hR hS hA hc hs hl
  exact lv_lstore hg.1 hg.2.1 d hl hn hv (fun ls' h' => kk H locs cells slots ls' hR hS hA hc hs h')
theorem x_astore_n (hg : GoodG g cc own) {j : Fin 4} {i : Nat} {x : Option Nat} {lv' : List (Nat × Value)} (d : decode cc pc = .ok (.astore_n j, 1)) (hi : (j : Nat) = i) (hn : i < gN g) (hv : (i, va_rf x) :: lv.filter (fun q => !(q.1 == i) && !(q.1 + 1 == i && q.2.category == 2)) = lv') (kk : XJ g (pc + 1) lv' rest σ b) : XJ g pc lv (va_rf x :: rest) σ b := by
  obtain ⟨⟨p, l, e, R, s, m, args, below, meth, c⟩, Q, D, A, mc, ms, nL⟩ := g
  intro H locs cells slots ls hR hS hA hc hs hl
  cases x with
  | none => exact lv_astore_nN hg.1 hg.2.1 d hi hl hn hv (fun ls' h' => kk H locs cells slots ls' hR hS hA hc hs h')
  | some y => exact lv_astore_n hg.1 hg.2.1 d hi hl hn hv (fun ls' h' => kk H locs cells slots ls' hR hS hA hc hs h')
theorem x_astore (hg : GoodG g cc own) {i : Nat} {x : Option Nat} {lv' : List (Nat × Value)} (d : decode cc pc = .ok (.astore i, 2)) (hn : i < gN g) (hv : (i, va_rf x) :: lv.filter (fun q => !(q.1 == i) && !(q.1 + 1 == i && q.2.category == 2)) = lv') (kk : XJ g (pc + 2) lv' rest σ b) : XJ g pc lv (va_rf x :: rest) σ b := by
  obtain ⟨⟨p, l, e, R, s, m, args, below, meth, c⟩, Q, D, A, mc, ms, nL⟩ := g
  intro H locs cells slots ls hR hS hA hc hs hl
  cases x with
  | none => exact lv_astoreN hg.1 hg.2.1 d hl hn hv (fun ls' h' => kk H locs cells slots ls' hR hS hA hc hs h')
  | some y => exact lv_astore hg.1 hg.2.1 d hl hn hv (fun ls' h' => kk H locs cells slots ls' hR hS hA hc hs h')
theorem x_iinc (hg : GoodG g cc own) {i : Nat} {n : Int} {x v : Int32} {lv' : List (Nat × Value)} (k : Nat) (d : decode cc pc = .ok (.iinc i n, 3)) (hk : lv[k]? = some (i, .int x)) (hv : x + Int32.ofInt n = v) (hn : i < gN g) (hq : (i, .int v) :: lv.filter (fun q => !(q.1 == i) && !(q.1 + 1 == i && q.2.category == 2)) = lv') (kk : XJ g (pc + 3) lv' rest σ b) : XJ g pc lv rest σ b := by
  obtain ⟨⟨p, l, e, R, s, m, args, below, meth, c⟩, Q, D, A, mc, ms, nL⟩ := g
  intro H locs cells slots ls hR hS hA hc hs hl
  exact lv_iinc hg.1 hg.2.1 d hl hk hv hn hq (fun ls' h' => kk H locs cells slots ls' hR hS hA hc hs h')
theorem x_ifnull (hg : GoodG g cc own) {x : Option Nat} {off : Int} {tgt : Nat} (d : decode cc pc = .ok (.ifnull off, 3)) (ht : (pc : Int) + off = (tgt : Int)) (kt : x = none → XJ g tgt lv rest σ b) (kf : ∀ y, x = some y → XJ g (pc + 3) lv rest σ b) : XJ g pc lv (va_rf x :: rest) σ b := by
  obtain ⟨⟨p, l, e, R, s, m, args, below, meth, c⟩, Q, D, A, mc, ms, nL⟩ := g
  intro H locs cells slots ls hR hS hA hc hs hl
  cases x with
  | none => exact lv_ifnullN hg.1 hg.2.1 d ht (kt rfl H locs cells slots ls hR hS hA hc hs hl)
  | some y => exact lv_ifnull hg.1 hg.2.1 d (kf y rfl H locs cells slots ls hR hS hA hc hs hl)
theorem x_ifnonnull (hg : GoodG g cc own) {x : Option Nat} {off : Int} {tgt : Nat} (d : decode cc pc = .ok (.ifnonnull off, 3)) (ht : (pc : Int) + off = (tgt : Int)) (kt : ∀ y, x = some y → XJ g tgt lv rest σ b) (kf : x = none → XJ g (pc + 3) lv rest σ b) : XJ g pc lv (va_rf x :: rest) σ b := by
  obtain ⟨⟨p, l, e, R, s, m, args, below, meth, c⟩, Q, D, A, mc, ms, nL⟩ := g
  intro H locs cells slots ls hR hS hA hc hs hl
  cases x with
  | none => exact lv_ifnonnullN hg.1 hg.2.1 d (kf rfl H locs cells slots ls hR hS hA hc hs hl)
  | some y => exact lv_ifnonnull hg.1 hg.2.1 d ht (kt y rfl H locs cells slots ls hR hS hA hc hs hl)
theorem x_acmp_eq (hg : GoodG g cc own) {x y : Option Nat} {off : Int} {tgt : Nat} (d : decode cc pc = .ok (.if_acmp .eq off, 3)) (ht : (pc : Int) + off = (tgt : Int)) (kt : x = y → XJ g tgt lv rest σ b) (kf : ¬ x = y → XJ g (pc + 3) lv rest σ b) : XJ g pc lv (va_rf y :: va_rf x :: rest) σ b := by
  obtain ⟨⟨p, l, e, R, s, m, args, below, meth, c⟩, Q, D, A, mc, ms, nL⟩ := g
  intro H locs cells slots ls hR hS hA hc hs hl
  exact lv_acmp_eq hg.1 hg.2.1 d ht (fun q => kt q H locs cells slots ls hR hS hA hc hs hl) (fun q => kf q H locs cells slots ls hR hS hA hc hs hl)
theorem x_acmp_ne (hg : GoodG g cc own) {x y : Option Nat} {off : Int} {tgt : Nat} (d : decode cc pc = .ok (.if_acmp .ne off, 3)) (ht : (pc : Int) + off = (tgt : Int)) (kt : ¬ x = y → XJ g tgt lv rest σ b) (kf : x = y → XJ g (pc + 3) lv rest σ b) : XJ g pc lv (va_rf y :: va_rf x :: rest) σ b := by
  obtain ⟨⟨p, l, e, R, s, m, args, below, meth, c⟩, Q, D, A, mc, ms, nL⟩ := g
  intro H locs cells slots ls hR hS hA hc hs hl
  exact lv_acmp_ne hg.1 hg.2.1 d ht (fun q => kt q H locs cells slots ls hR hS hA hc hs hl) (fun q => kf q H locs cells slots ls hR hS hA hc hs hl)
theorem x_tableOut (hg : GoodG g cc own) {dflt lo hi : Int} {offs : Array Int} {len : Nat} {x : Int32} {tgt : Nat} (d : decode cc pc = .ok (.tableswitch dflt lo hi offs, len)) (h : x.toInt < lo ∨ hi < x.toInt) (ht : (pc : Int) + dflt = (tgt : Int)) (k : XJ g tgt lv rest σ b) : XJ g pc lv (.int x :: rest) σ b := x_of hg (fun hx hb w => lv_tableOut hx hb d h ht w) k
theorem x_tableIn (hg : GoodG g cc own) {dflt lo hi : Int} {offs : Array Int} {len : Nat} {x : Int32} {off : Int} {tgt : Nat} (d : decode cc pc = .ok (.tableswitch dflt lo hi offs, len)) (h1 : ¬ x.toInt < lo) (h2 : ¬ hi < x.toInt) (ho : offs[(x.toInt - lo).toNat]? = some off) (ht : (pc : Int) + off = (tgt : Int)) (k : XJ g tgt lv rest σ b) : XJ g pc lv (.int x :: rest) σ b := x_of hg (fun hx hb w => lv_tableIn hx hb d h1 h2 ho ht w) k
theorem x_ldc (hg : GoodG g cc own) {index : Nat} {v : Int32} (hw : Cond.constant own index v ∈ AW) (d : decode cc pc = .ok (.ldc index, 2)) (k : XJ g (pc + 2) lv (.int v :: rest) σ b) : XJ g pc lv rest σ b := by
  obtain ⟨⟨p, l, e, R, s, m, args, below, meth, c⟩, Q, D, A, mc, ms, nL⟩ := g
  intro H locs cells slots ls hR hS hA hc hs hl
  exact lv_ldc hg.1 hg.2.1 hg.2.2.2.1 (hg.2.2.2.2.1 _ hw) d (k H locs cells slots ls hR hS hA hc hs hl)
theorem x_ldcw (hg : GoodG g cc own) {index : Nat} {v : Int32} (hw : Cond.constant own index v ∈ AW) (d : decode cc pc = .ok (.ldc_w index, 3)) (k : XJ g (pc + 3) lv (.int v :: rest) σ b) : XJ g pc lv rest σ b := by
  obtain ⟨⟨p, l, e, R, s, m, args, below, meth, c⟩, Q, D, A, mc, ms, nL⟩ := g
  intro H locs cells slots ls hR hS hA hc hs hl
  exact lv_ldcw hg.1 hg.2.1 hg.2.2.2.1 (hg.2.2.2.2.1 _ hw) d (k H locs cells slots ls hR hS hA hc hs hl)
theorem x_ldc2 (hg : GoodG g cc own) {index : Nat} {v : Int64} (hw : Cond.constantLong own index v ∈ AW) (d : decode cc pc = .ok (.ldc2_w index, 3)) (k : XJ g (pc + 3) lv (.long v :: rest) σ b) : XJ g pc lv rest σ b := by
  obtain ⟨⟨p, l, e, R, s, m, args, below, meth, c⟩, Q, D, A, mc, ms, nL⟩ := g
  intro H locs cells slots ls hR hS hA hc hs hl
  exact lv_ldc2 hg.1 hg.2.1 hg.2.2.2.1 (hg.2.2.2.2.1 _ hw) d (k H locs cells slots ls hR hS hA hc hs hl)
theorem x_ldcS {index i : Nat} {tx : String} (hg : GoodG g cc "RainStreets$Tape") (hi : i < nJS) (ht : strT.getD i (0, "") = (index, tx)) (d : decode cc pc = .ok (.ldc index, 2)) (k : XJ g (pc + 2) lv (.ref (adS (gD g) i) :: rest) σ b) : XJ g pc lv rest σ b := by
  obtain ⟨⟨p, l, e, R, s, m, args, below, meth, c⟩, Q, D, A, mc, ms, nL⟩ := g
  intro H locs cells slots ls hR hS hA hc hs hl
  have hz := hg.2.2.2.2.2.1.2.2.2.2.2.1 i hi
  rw [ht] at hz
  exact va_ldcS hg.1 hg.2.1 hg.2.2.2.1 hz d (k H locs cells slots ls hR hS hA hc hs hl)
/-- a field of ours, as a place of the pool links it: class code c, place k -/
def FL (own : String) (idx c k : Nat) : Prop := ∃ (C : String) (T : u_T) (N : Nat) (ref : String), vwCl[c - 1]? = some (C, T, N) ∧ 1 ≤ c ∧ c ≤ 13 ∧ k < N ∧ Cond.fieldLink own idx ref (T k).2.1 (T k).2.2.1 ∈ AW ∧ (∀ w ∈ u_ws C T N, w ∈ AW) ∧ (ref = (T k).1 ∨ Cond.sameField ref (T k).1 (T k).2.1 (T k).2.2.1 ∈ AW)
/-- what a store into it needs besides: not final (or final, and its own constructor), its type -/
def FW (own : String) (idx c k : Nat) (fin : Bool) (ty : FieldType) : Prop := ∃ (C : String) (T : u_T) (N : Nat) (ref : String), vwCl[c - 1]? = some (C, T, N) ∧ 1 ≤ c ∧ c ≤ 13 ∧ k < N ∧ Cond.fieldLink own idx ref (T k).2.1 (T k).2.2.1 ∈ AW ∧ (∀ w ∈ u_ws C T N, w ∈ AW) ∧ (ref = (T k).1 ∨ Cond.sameField ref (T k).1 (T k).2.1 (T k).2.2.1 ∈ AW) ∧
  (∀ k, k < N → parseFieldDescriptor (T k).2.2.1 = some (fty c k)) ∧ (∀ a, a < N → ∀ b, b < N → a ≠ b → (T a).2.1 ≠ (T b).2.1) ∧ (T k).2.2.2 = fin ∧ (fin = true → (T k).1 = own) ∧ fty c k = ty
theorem FW.FL {own : String} {idx c k : Nat} {fin : Bool} {ty : FieldType} (h : FW own idx c k fin ty) : FL own idx c k := by
  obtain ⟨C, T, N, ref, h1, h2, h3, h4, h5, h6, h7, -⟩ := h
  exact ⟨C, T, N, ref, h1, h2, h3, h4, h5, h6, h7⟩
theorem fl_same {s : State} {args : Array Value} {ref O n d : String} (h : ref = O ∨ (Cond.sameField ref O n d).before args s = true) : ∀ x, s.fieldFound? O n d = some x → s.fieldFound? ref n d = some x := by
  rcases h with h | h
  · subst h; exact fun _ h => h
  · exact fun x hx => u_same h x hx
theorem x_getV (hg : GoodG g cc own) {idx c k : Nat} {x : Option Nat} {a : Nat} (hF : FL own idx c k) (hx : x = some a) (hk : sK σ a % 32 = c) (d : decode cc pc = .ok (.getfield idx, 3)) (kk : XJ g (pc + 3) lv (sV σ (tgT (fty c k)) a k :: rest) σ b) : XJ g pc lv (va_rf x :: rest) σ b := by
  obtain ⟨⟨p, l, e, R, s, m, args, below, meth, c0⟩, Q, D, A, mc, ms, nL⟩ := g
  intro H locs cells slots ls hR hS hA hc hs hl
  subst hx
  obtain ⟨C, T, N, ref, h1, h2, h3, h4, h5, h6, h7⟩ := hF
  obtain ⟨he, hb, hml, hown, hts, hWT, -⟩ := hg
  obtain ⟨cell, q1, q2, q3, q4⟩ := (hR.1 a).1 (by omega) (by omega) (C, T, N) (by rw [hk]; exact h1)
  obtain ⟨hSl, hfc, kC, hkC, hkind⟩ := hWT.1.1 (c - 1) _ h1
  obtain ⟨cf, kf, fi, f, hi, hsl⟩ := hSl k h4
  have hsame := fl_same (s := s) (args := args) (h7.imp (fun h => h) (fun h => hts _ h))
  refine W.getf he hb hown (hts _ h5) (hsame _ hi) (u_facts hfc hkC (u_lays hts h6 h4) hi).1 q1 (by rw [q3]; exact fun h => by cases h) (v := sV σ (tgT (fty c k)) a k) ?_ rfl rfl d (kk H locs cells slots ls hR hS hA hc hs hl)
  have h8 := q4 k h4
  rw [hk] at h8
  rw [hsl]
  exact h8
theorem x_getI (hg : GoodG g cc own) {idx c k : Nat} {x : Option Nat} {a : Nat} (hF : FL own idx c k) (ht : tgT (fty c k) = 0) (hx : x = some a) (hk : sK σ a % 32 = c) (d : decode cc pc = .ok (.getfield idx, 3)) (kk : XJ g (pc + 3) lv (.int (sI σ a k) :: rest) σ b) : XJ g pc lv (va_rf x :: rest) σ b := by
  refine x_getV hg hF hx hk d ?_
  rw [ht]
  exact kk
theorem x_getL (hg : GoodG g cc own) {idx c k : Nat} {x : Option Nat} {a : Nat} (hF : FL own idx c k) (ht : tgT (fty c k) = 1) (hx : x = some a) (hk : sK σ a % 32 = c) (d : decode cc pc = .ok (.getfield idx, 3)) (kk : XJ g (pc + 3) lv (.long (sL σ a k) :: rest) σ b) : XJ g pc lv (va_rf x :: rest) σ b := by
  refine x_getV hg hF hx hk d ?_
  rw [ht]
  exact kk
theorem x_getR (hg : GoodG g cc own) {idx c k : Nat} {x : Option Nat} {a : Nat} (hF : FL own idx c k) (ht : tgT (fty c k) = 2) (hx : x = some a) (hk : sK σ a % 32 = c) (d : decode cc pc = .ok (.getfield idx, 3)) (kk : XJ g (pc + 3) lv (va_rf (sR σ a k) :: rest) σ b) : XJ g pc lv (va_rf x :: rest) σ b := by
  refine x_getV hg hF hx hk d ?_
  rw [ht]
  exact kk
/-- the store behind a store into one place of one of its cells -/
theorem rep_put {D : Dg} {U : State} {σ σ' : Sg} {a : Nat} {H H1 : Heap} (hR : Rep D U σ H) (ha : wr (sK σ a)) (hz : H1.size = H.size) (oq : ∀ q, q ≠ a → H1[q]? = H[q]?) (hK : sK σ' = sK σ) (hN : sN σ' = sN σ) (ho : ∀ q, q ≠ a → sI σ' q = sI σ q ∧ sL σ' q = sL σ q ∧ sR σ' q = sR σ q) (h : rp D U σ' a H1) : Rep D U σ' H1 := by
  obtain ⟨h1, h2, h3, h4, h5, h6, h7⟩ := hR
  refine ⟨fun q => ?_, by rw [hK]; exact h2, by rw [hK, hz]; exact h3, by rw [hK]; exact h4, by rw [hK]; exact h5, by rw [hN]; exact h6, ?_⟩
  · by_cases hq : q = a
    · subst hq; exact h
    · exact rp.congr (by rw [hK]) (by rw [hN]) (ho q hq).1 (ho q hq).2.1 (ho q hq).2.2 ((h1 q).kept (oq q hq))
  · intro j hj
    have hne : D.2.2 1 ≠ a := by
      intro e
      rw [← e, h5] at ha
      unfold wr at ha
      omega
    rw [(ho _ hne).1]
    exact h7 j hj
theorem x_putV (hg : GoodG g cc own) {idx c k : Nat} {fin : Bool} {ty : FieldType} {x : Option Nat} {a : Nat} {v : Value} {σ' : Sg} (hF : FW own idx c k fin ty) (hfin : fin = true → gI g = "<init>") (hx : x = some a) (hk : sK σ a % 32 = c) (hn : narrow ty v = v) (hfit : fits ty v = true) (hK : sK σ' = sK σ) (hN : sN σ' = sN σ) (ho : ∀ q, q ≠ a → sI σ' q = sI σ q ∧ sL σ' q = sL σ q ∧ sR σ' q = sR σ q) (hval : ∀ j, sV σ' (tgT (fty c j)) a j = updV (fun j => sV σ (tgT (fty c j)) a j) k v j) (d : decode cc pc = .ok (.putfield idx, 3)) (kk : XJ g (pc + 3) lv rest σ' b) : XJ g pc lv (v :: va_rf x :: rest) σ b := by
  obtain ⟨⟨p, l, e, R, s, m, args, below, meth, c0⟩, Q, D, A, mc, ms, nL⟩ := g
  intro H locs cells slots ls hR hS hA hc hs hl
  subst hx
  obtain ⟨C, T, N, ref, h1, h2, h3, h4, h5, h6, h7, h8, h9, h10, h11, h12⟩ := hF
  obtain ⟨he, hb, hml, hown, hts, hWT, -⟩ := hg
  have hw : wr (sK σ a) := Or.inl (by omega)
  obtain ⟨cell, q1, q2, q3, q4⟩ := (hR.1 a).1 (by omega) (by omega) (C, T, N) (by rw [hk]; exact h1)
  simp only [hk] at q2 q4
  obtain ⟨hSl, hfc, kC, hkC, hkind⟩ := hWT.1.1 (c - 1) _ h1
  obtain ⟨cf, kf, fi, f, hi, hsl⟩ := hSl k h4
  have hap := va_apart (own := own) hts h6 (fty c) h8 h9 hWT.1 h1
  have hsame := fl_same (s := s) (args := args) (h7.imp (fun h => h) (fun h => hts _ h))
  have hst := (u_facts hfc hkC (u_lays hts h6 h4) hi).1
  have hd : parseFieldDescriptor (T k).2.2.1 = some ty := by rw [h8 k h4, h12]
  have hlay := hts _ (h6 _ (u_in_lay h4))
  unfold u_lay at hlay
  have fin' : ∀ H' : Heap, H'[a]? = some (cell.setSlot f.slot v) → H'.size = H.size → (∀ q, q ≠ a → H'[q]? = H[q]?) → W p l e R s m args below meth c0 H' (locs ++ [⟨a, f.slot⟩]) cells slots Q (F0 m (pc + 3) ls rest) := by
    intro H' e1 e2 e3
    rw [hsl] at e1 ⊢
    refine kk H' _ cells slots ls (rep_put hR hw e2 e3 hK hN ho ?_) (hS.put e2 e3 (hA a hw)) (by rw [hK]; exact hA) hc hs hl
    have hk' : sK σ' a % 32 = c := by rw [hK]; exact hk
    refine ⟨fun _ _ q hq => ?_, fun z => by omega, fun z => by omega, fun z => by omega⟩
    rw [hk'] at hq ⊢
    cases h1.symm.trans hq
    exact t_OB.to ⟨_, e1, q2, q3, t_set q4 hap h4 v⟩ (fun j _ => (hval j).symm)
  by_cases hfl : fin = true
  · rw [hfl] at h10
    rw [if_pos h10] at hlay
    have hcf : m.cls = cf := by
      obtain ⟨_, _, c', _, _, _, -, -, hf', -, -, -, hown2, -⟩ := Cond.laysFinal_spec hlay
      have e1 : c' = cf := by have := hi.symm.trans hf'; simp at this; exact this.1.symm
      rw [h11 hfl] at hown2
      rw [← e1]; exact Option.some.inj (hown.symm.trans hown2)
    have h16 := u_fits hfc hkC hkind (Or.inr hlay) hi hd hn hfit
    exact W.putFinK he hb hown (hts _ h5) (hsame _ hi) hst hcf (hfin hfl) (by rw [q2]; exact h16) q1 q3 (by rw [hsl]; exact k2_hasslot (q4 k h4)) rfl rfl d fin'
  · have hfl' : fin = false := by simpa using hfl
    rw [hfl'] at h10
    rw [if_neg (by rw [h10]; decide)] at hlay
    have h16 := u_store hfc hkC hkind hlay hi hd hn hfit
    exact W.putK he hb (f := f) ⟨hown, hts _ h5, ⟨_, _, _, hsame _ hi⟩, hst⟩ (by rw [q2]; exact h16) q1 q3 (by rw [hsl]; exact k2_hasslot (q4 k h4)) rfl rfl d fin'
def bz (v : Int32) : Prop := v = 0 ∨ v = 1
theorem bz_nar {v : Int32} (h : bz v) : narrow .boolean (.int v) = .int v ∧ fits .boolean (.int v) = true := by
  rcases h with h | h <;> subst h <;> exact ⟨rfl, rfl⟩
theorem sV_pI (σ : Sg) (a k : Nat) (v : Int32) (t : Nat → Nat) (ht : t k = 0) (j : Nat) : sV (pI σ a k v) (t j) a j = updV (fun j => sV σ (t j) a j) k (.int v) j := by
  by_cases h : j = k
  · subst h
    simp [sV, ht, updV, sI_pI]
  · simp [sV, updV, h, sI_pI, sL_pI, sR_pI]
theorem sV_pL (σ : Sg) (a k : Nat) (v : Int64) (t : Nat → Nat) (ht : t k = 1) (j : Nat) : sV (pL σ a k v) (t j) a j = updV (fun j => sV σ (t j) a j) k (.long v) j := by
  by_cases h : j = k
  · subst h
    simp [sV, ht, updV, sL_pL]
  · simp [sV, updV, h, sI_pL, sL_pL, sR_pL]
theorem sV_pR (σ : Sg) (a k : Nat) (v : Option Nat) (t : Nat → Nat) (ht : t k = 2) (j : Nat) : sV (pR σ a k v) (t j) a j = updV (fun j => sV σ (t j) a j) k (va_rf v) j := by
  by_cases h : j = k
  · subst h
    simp [sV, ht, updV, sR_pR]
  · simp [sV, updV, h, sI_pR, sL_pR, sR_pR]
theorem pI_o (σ : Sg) (a k : Nat) (v : Int32) : ∀ q, q ≠ a → sI (pI σ a k v) q = sI σ q ∧ sL (pI σ a k v) q = sL σ q ∧ sR (pI σ a k v) q = sR σ q :=
  fun q hq => ⟨by funext j; rw [sI_pI]; simp [hq], rfl, rfl⟩
theorem pL_o (σ : Sg) (a k : Nat) (v : Int64) : ∀ q, q ≠ a → sI (pL σ a k v) q = sI σ q ∧ sL (pL σ a k v) q = sL σ q ∧ sR (pL σ a k v) q = sR σ q :=
  fun q hq => ⟨rfl, by funext j; rw [sL_pL]; simp [hq], rfl⟩
theorem pR_o (σ : Sg) (a k : Nat) (v : Option Nat) : ∀ q, q ≠ a → sI (pR σ a k v) q = sI σ q ∧ sL (pR σ a k v) q = sL σ q ∧ sR (pR σ a k v) q = sR σ q :=
  fun q hq => ⟨rfl, rfl, by funext j; rw [sR_pR]; simp [hq]⟩
theorem rf_fits {ty : FieldType} (h : tgT ty = 2) (v : Option Nat) : narrow ty (va_rf v) = va_rf v ∧ fits ty (va_rf v) = true := by
  cases ty <;> cases v <;> first | exact ⟨rfl, rfl⟩ | (simp [tgT] at h)
theorem x_putI (hg : GoodG g cc own) {idx c k : Nat} {fin : Bool} {x : Option Nat} {a : Nat} {v : Int32} (hF : FW own idx c k fin .int) (hfin : fin = true → gI g = "<init>") (hx : x = some a) (hk : sK σ a % 32 = c) (d : decode cc pc = .ok (.putfield idx, 3)) (kk : XJ g (pc + 3) lv rest (pI σ a k v) b) : XJ g pc lv (.int v :: va_rf x :: rest) σ b := by
  have ht : tgT (fty c k) = 0 := by obtain ⟨_, _, _, _, -, -, -, -, -, -, -, -, -, -, -, h⟩ := hF; rw [h]; rfl
  exact x_putV (σ' := pI σ a k v) hg hF hfin hx hk rfl rfl rfl rfl (pI_o σ a k v) (fun j => sV_pI σ a k v (fun j => tgT (fty c j)) ht j) d kk
theorem x_putZ (hg : GoodG g cc own) {idx c k : Nat} {fin : Bool} {x : Option Nat} {a : Nat} {v : Int32} (hF : FW own idx c k fin .boolean) (hfin : fin = true → gI g = "<init>") (hx : x = some a) (hk : sK σ a % 32 = c) (hz : bz v) (d : decode cc pc = .ok (.putfield idx, 3)) (kk : XJ g (pc + 3) lv rest (pI σ a k v) b) : XJ g pc lv (.int v :: va_rf x :: rest) σ b := by
  have ht : tgT (fty c k) = 0 := by obtain ⟨_, _, _, _, -, -, -, -, -, -, -, -, -, -, -, h⟩ := hF; rw [h]; rfl
  exact x_putV (σ' := pI σ a k v) hg hF hfin hx hk (bz_nar hz).1 (bz_nar hz).2 rfl rfl (pI_o σ a k v) (fun j => sV_pI σ a k v (fun j => tgT (fty c j)) ht j) d kk
theorem x_putL (hg : GoodG g cc own) {idx c k : Nat} {fin : Bool} {x : Option Nat} {a : Nat} {v : Int64} (hF : FW own idx c k fin .long) (hfin : fin = true → gI g = "<init>") (hx : x = some a) (hk : sK σ a % 32 = c) (d : decode cc pc = .ok (.putfield idx, 3)) (kk : XJ g (pc + 3) lv rest (pL σ a k v) b) : XJ g pc lv (.long v :: va_rf x :: rest) σ b := by
  have ht : tgT (fty c k) = 1 := by obtain ⟨_, _, _, _, -, -, -, -, -, -, -, -, -, -, -, h⟩ := hF; rw [h]; rfl
  exact x_putV (σ' := pL σ a k v) hg hF hfin hx hk rfl rfl rfl rfl (pL_o σ a k v) (fun j => sV_pL σ a k v (fun j => tgT (fty c j)) ht j) d kk
theorem x_putR (hg : GoodG g cc own) {idx c k : Nat} {fin : Bool} {ty : FieldType} {x : Option Nat} {a : Nat} {v : Option Nat} (hF : FW own idx c k fin ty) (hty : tgT ty = 2) (hfin : fin = true → gI g = "<init>") (hx : x = some a) (hk : sK σ a % 32 = c) (d : decode cc pc = .ok (.putfield idx, 3)) (kk : XJ g (pc + 3) lv rest (pR σ a k v) b) : XJ g pc lv (va_rf v :: va_rf x :: rest) σ b := by
  have ht : tgT (fty c k) = 2 := by obtain ⟨_, _, _, _, -, -, -, -, -, -, -, -, -, -, -, h⟩ := hF; rw [h]; exact hty
  exact x_putV (σ' := pR σ a k v) hg hF hfin hx hk (rf_fits hty v).1 (rf_fits hty v).2 rfl rfl (pR_o σ a k v) (fun j => sV_pR σ a k v (fun j => tgT (fty c j)) ht j) d kk
end XS
