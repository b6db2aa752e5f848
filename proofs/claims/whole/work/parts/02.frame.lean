/-- the links of nest mates' private methods -/
def nxl : List (String × Nat × MethodName × String) := [(RX7, 28, yX0_init, RX7), (RX3, 23, yX7_isWithin, RX7), (RX5, 57, yX7_isWithin, RX7), (RX0, 39, yX7_leastBit, RX7), (RX4, 48, yX7_digitCount, RX7), (RX1, 15, yX7_isWithin, RX7)]
def NX (U : State) : Prop := (∀ q ∈ nxl, va_Nw (.methodLinkNest q.1 q.2.1 q.2.2.1 q.2.2.2) U) ∧ va_AOA .int U
theorem AOA.same {u U : State} (e : u.vm = U.vm) (h : va_AOA .int u) : va_AOA .int U := by
  unfold va_AOA Cond.before Cond.holds at h ⊢
  simp only [Cond.value] at h ⊢
  rw [← e]
  exact h
theorem NX.warm {s U : State} (hW : s.WarmedH U.vm) (h : NX s) : NX U := ⟨fun q hq => va_Nw.warmM hW (h.1 q hq), AOA.same (u := s.setVm U.vm) rfl (Cond.overAtom_setVm hW.alike _ rfl h.2)⟩
theorem NX.same {u U : State} (e : u.vm = U.vm) (h : NX u) : NX U := ⟨fun q hq => va_Nw.same rfl e (h.1 q hq), AOA.same e h.2⟩
/-! THE FRAME: a walk's state is data: cells ws, locals lv, place pc, stack st; a row for each instruction turns Wd at one state into Wd at the next. -/
def Cx (p : Program) (s : State) (m : MethodId) (args : Array Value) (meth : Method) (c : Code) (D : va_G) (tys : List (ClassId × FieldType)) (own : String) (cc : ByteArray) (nL : Nat) (Ts : List Cond) (rt : Option FieldType) : Prop :=
  p.tables.exec = Jvm.exec ∧ c.code = cc ∧ c.maxLocals = nL ∧ s.vm.findClass own = some m.cls ∧ (∀ w ∈ Ts, w.before args s = true) ∧ va_K D vwCl tys s ∧ meth.sig.returnType = rt ∧ meth.locks = false ∧ NX s
def Wd (p : Program) (l : Launch) (e : Env) (R : Room) (s : State) (m : MethodId) (args : Array Value) (below : List Frame) (meth : Method) (c : Code) (D : va_G) (w0 : va_W) (nL cs sl : Nat) (Q : State → Prop) (ws : va_W) (lv : List (Nat × Value)) (pc : Nat) (st : List Value) : Prop :=
  ∀ (H : Heap) (locs : List Loc) (ls : Array Slot), va_P D vwCl ws H → va_D (va_A w0 s.heap.size) ws → va_S (va_A w0 s.heap.size) s.heap H locs → lv_has ls nL lv → W p l e R s m args below meth c H locs cs sl Q (F0 m pc ls st)
theorem Met.ofWF {l : Launch} {y : MethodName} {ws ws' : List Cond} {rm : Room} {Pc : Array Value → State → Prop} {Qc : Array Value → State → Outcome → State → Prop} {mc ms : Nat} {free : Addr → Prop} {cc : ByteArray} {maxL : Nat} {ret : Option FieldType}
    (hy : plainFor y = true) (hw : ws = Cond.code y cc maxL ret :: ws')
    (body : ∀ p e s m args below meth c s₁, BodyLoose p l y (headSpec ws rm) cc maxL ret e s m args below meth c s₁ → c.maxLocals = maxL → Pc args s →
      W p l e (headSpec ws rm).room s m args below meth c s.heap [] 0 0 (MQ below Qc args s mc ms free) (entryFrame m args maxL)) : Met l y ws rm Pc Qc mc ms free := by
  refine MetFree.of_bodySF (code := cc) (maxLocals := maxL) (ret := ret) hy ?_ ?_
  · intro args s m h hn
    obtain ⟨meth, c, h1, h2, h3, h4, h5, h6, -, -⟩ := Cond.code_spec hn (atoms_spec (ws := ws) h _ (by rw [hw]; exact List.mem_cons_self))
    exact ⟨meth, c, h1, h2, h3, h4, h5, h6⟩
  · intro p e s m args below meth c s₁ B hml hP _
    have hh0 : s₁.heap = s.heap := by rw [B.state]; rfl
    obtain ⟨t, a1, o, b1, b2, b3⟩ := body p e s m args below meth c s₁ B hml hP s₁ hh0 (Stand.of_body B)
    exact ⟨t, o, a1, b1, b2, ⟨b3.1, b3.2⟩⟩
abbrev PreW (D : va_G) (tys : List (ClassId × FieldType)) (w : va_W) (sz : Nat) : State → Prop := fun U => U.heap.size = sz ∧ va_P D vwCl w U.heap ∧ va_K D vwCl tys U ∧ va_D (fun _ => True) w ∧ NX U
abbrev PostW (D : va_G) (tys : List (ClassId × FieldType)) (w w' : va_W) (sz : Nat) : Unit → State → Prop := fun _ t => va_P D vwCl w' t.heap ∧ va_K D vwCl tys t ∧ va_D (va_A w sz) w'
/-- a contract: from the cells w, the method ends as Qc says -/
def CG (l : Launch) (D : va_G) (tys : List (ClassId × FieldType)) (y : MethodName) (wy : List Cond) (rm : Room) (av : List Value) (w : va_W) (Qc : Nat → Array Value → State → Outcome → State → Prop) : Prop :=
  ∀ sz : Nat, Met l y wy rm (va_Pc av (PreW D tys w sz)) (Qc sz) 0 0 (va_A w sz)
def QcI (D : va_G) (tys : List (ClassId × FieldType)) (w w' : va_W) (r : Int32) (sz : Nat) : Array Value → State → Outcome → State → Prop := va_Qi (fun (r' : Int32) (_ : Unit) => r' = r) (PostW D tys w w' sz) (va_A w sz)
def QcL (D : va_G) (tys : List (ClassId × FieldType)) (w w' : va_W) (r : Int64) (sz : Nat) : Array Value → State → Outcome → State → Prop := va_Ql (fun (r' : Int64) (_ : Unit) => r' = r) (PostW D tys w w' sz) (va_A w sz)
def QcV (D : va_G) (tys : List (ClassId × FieldType)) (w w' : va_W) (sz : Nat) : Array Value → State → Outcome → State → Prop := va_Qv (fun (_ : Unit) => True) (PostW D tys w w' sz) (va_A w sz)
def QcR (D : va_G) (tys : List (ClassId × FieldType)) (w w' : va_W) (r : Nat) (sz : Nat) : Array Value → State → Outcome → State → Prop := va_Qr (fun (_ : Unit) => True) (fun _ a t => a = r ∧ va_P D vwCl w' t.heap ∧ va_K D vwCl tys t ∧ va_D (va_A w sz) w') (va_A w sz)
def CI (l : Launch) (D : va_G) (tys : List (ClassId × FieldType)) (y : MethodName) (wy : List Cond) (rm : Room) (av : List Value) (w : va_W) (r : Int32) (w' : va_W) : Prop := CG l D tys y wy rm av w (QcI D tys w w' r)
def CL (l : Launch) (D : va_G) (tys : List (ClassId × FieldType)) (y : MethodName) (wy : List Cond) (rm : Room) (av : List Value) (w : va_W) (r : Int64) (w' : va_W) : Prop := CG l D tys y wy rm av w (QcL D tys w w' r)
def CV (l : Launch) (D : va_G) (tys : List (ClassId × FieldType)) (y : MethodName) (wy : List Cond) (rm : Room) (av : List Value) (w w' : va_W) : Prop := CG l D tys y wy rm av w (QcV D tys w w')
def CR (l : Launch) (D : va_G) (tys : List (ClassId × FieldType)) (y : MethodName) (wy : List Cond) (rm : Room) (av : List Value) (w : va_W) (r : Nat) (w' : va_W) : Prop := CG l D tys y wy rm av w (QcR D tys w w' r)
theorem PreW.blind {D : va_G} {tys : List (ClassId × FieldType)} {w : va_W} {sz : Nat} {av : List Value} : FrameBlind (va_Pc av (PreW D tys w sz)) := fun a U g mk q => by
  obtain ⟨q0, q1, qP, qK, qD, qN⟩ := q
  exact ⟨q0, q1, qP, va_K.moved (u := U) (U := U.calling g mk a) (Vm.Alike.refl U.vm) qK, qD, NX.same rfl qN⟩
theorem CG.intro {l : Launch} {D : va_G} {tys : List (ClassId × FieldType)} {y : MethodName} {wy wy' : List Cond} {rm : Room} {av : List Value} {w : va_W} {Qc : Nat → Array Value → State → Outcome → State → Prop} {own : String} {cc : ByteArray} {nL : Nat} {rt : Option FieldType}
    (hy : plainFor y = true) (ho : y.cls = own) (hw : wy = Cond.code y cc nL rt :: wy') (hav : (lg_sl av).length ≤ nL)
    (body : ∀ (p : Program) (e : Env) (s : State) (m : MethodId) (args : Array Value) (below : List Frame) (meth : Method) (c : Code), Cx p s m args meth c D tys own cc nL wy rt → Wd p l e rm s m args below meth c D w nL 0 0 (MQ below (Qc s.heap.size) args s 0 0 (va_A w s.heap.size)) w (lv_args 0 av) 0 []) : CG l D tys y wy rm av w Qc := by
  intro sz
  refine Met.ofWF (cc := cc) (maxL := nL) (ret := rt) hy hw ?_
  intro p e s m args below meth c s₁ B hml hv
  obtain ⟨rfl, hsz, hP, hK, hD0, hN⟩ := hv
  subst hsz
  subst ho
  have hl := lv_entry av (n := nL) hav
  rw [lg_entry_eq]
  exact body p e s m _ below meth c ⟨B.exec, B.bytes, hml, findClass_of_methodNamed B.named, atoms_spec (ws := wy) B.pre, hK, B.returns, B.notSynchronized, hN⟩ s.heap [] _ hP (hD0.self (sz := s.heap.size)) va_S.rf hl
/-! cells put back in their places -/
def cputs : va_W → List Nat → va_W → va_W
  | ws, [], _ => ws
  | ws, _ :: _, [] => ws
  | ws, i :: is, x :: xs => (cputs ws is xs).set i x
theorem cputs_get : ∀ (is : List Nat) (xs ws : va_W) (k : Nat) (q : Nat × va_E), is.length = xs.length → (cputs ws is xs)[k]? = some q → (∃ j : Nat, is[j]? = some k ∧ xs[j]? = some q) ∨ (k ∉ is ∧ ws[k]? = some q)
  | [], [], ws, k, q, _, h => Or.inr ⟨by simp, h⟩
  | [], _ :: _, ws, k, q, hl, h => by simp at hl
  | _ :: _, [], ws, k, q, hl, h => by simp at hl
  | i :: is, x :: xs, ws, k, q, hl, h => by
    have hl' : is.length = xs.length := by simpa using hl
    have h' : ((cputs ws is xs).set i x)[k]? = some q := h
    by_cases e : i = k
    · subst e
      have hlt : i < (cputs ws is xs).length := by
        have := (List.getElem?_eq_some_iff.mp h').1
        simpa using this
      rw [List.getElem?_set_self hlt] at h'
      exact Or.inl ⟨0, rfl, h'⟩
    · rw [List.getElem?_set_ne e] at h'
      rcases cputs_get is xs ws k q hl' h' with ⟨j, a, b⟩ | ⟨a, b⟩
      · exact Or.inl ⟨j + 1, a, b⟩
      · exact Or.inr ⟨fun z => by
          rcases List.mem_cons.mp z with z | z
          · exact e z.symm
          · exact a z, b⟩
theorem at_map {α : Type} {is : List Nat} {ws wc : List α} (hC : is.map (fun i => ws[i]?) = wc.map some) (j : Nat) (q : α) (h : wc[j]? = some q) : ∃ i, is[j]? = some i ∧ ws[i]? = some q := by
  have h1 : (is.map (fun i => ws[i]?))[j]? = some (some q) := by rw [hC, List.getElem?_map, h]; rfl
  rw [List.getElem?_map] at h1
  cases hi : is[j]? with
  | none => rw [hi] at h1; cases h1
  | some i => rw [hi] at h1; exact ⟨i, rfl, Option.some.inj h1⟩
theorem at_addr {w w' : va_W} (h : w'.map Prod.fst = w.map Prod.fst) (j : Nat) (q : Nat × va_E) (hq : w'[j]? = some q) : ∃ q0, w[j]? = some q0 ∧ q0.1 = q.1 := by
  have h1 : (w'.map Prod.fst)[j]? = some q.1 := by rw [List.getElem?_map, hq]; rfl
  rw [h, List.getElem?_map] at h1
  cases hi : w[j]? with
  | none => rw [hi] at h1; cases h1
  | some q0 => rw [hi] at h1; exact ⟨q0, rfl, Option.some.inj h1⟩
theorem cputs_join {A0 : Nat → Prop} {D : va_G} {ws wc wc' : va_W} {H H1 : Heap} (hP : va_P D vwCl ws H) (hD : va_D A0 ws) (isC : List Nat) (hC : isC.map (fun i => ws[i]?) = wc.map some) (ha : wc'.map Prod.fst = wc.map Prod.fst)
    (hk : ∀ q : Nat, q < H.size → ¬ va_A wc H.size q → H1[q]? = H[q]?) (hP1 : va_P D vwCl wc' H1) : va_P D vwCl (cputs ws isC wc') H1 ∧ va_D A0 (cputs ws isC wc') := by
  have hlen : isC.length = wc'.length := by
    have h1 := congrArg List.length hC
    have h2 := congrArg List.length ha
    simp at h1 h2
    omega
  have adr : ∀ (k : Nat) (q : Nat × va_E), (cputs ws isC wc')[k]? = some q → ∃ q0, ws[k]? = some q0 ∧ q0.1 = q.1 := by
    intro k q hq
    rcases cputs_get isC wc' ws k q hlen hq with ⟨j, h1, h2⟩ | ⟨-, h⟩
    · obtain ⟨q0, h3, h4⟩ := at_addr ha j q h2
      obtain ⟨i, h5, h6⟩ := at_map hC j q0 h3
      rw [h1] at h5
      cases h5
      exact ⟨q0, h6, h4⟩
    · exact ⟨q, h, rfl⟩
  refine ⟨fun k q hq => ?_, fun i j x y hx hy hxy => ?_, fun k q hq => ?_⟩
  · rcases cputs_get isC wc' ws k q hlen hq with ⟨j, h1, h2⟩ | ⟨hn, h⟩
    · exact hP1 j q h2
    · refine (hP k q h).kept (hk q.1 (hP k q h).lt ?_)
      rintro (⟨j, e, h3⟩ | h3)
      · obtain ⟨i, h4, h5⟩ := at_map hC j (q.1, e) h3
        have hki := hD.1 k i q (q.1, e) h h5 rfl
        subst hki
        exact hn (List.mem_of_getElem? h4)
      · exact absurd (hP k q h).lt (Nat.not_lt.mpr h3)
  · obtain ⟨x0, a1, a2⟩ := adr i x hx
    obtain ⟨y0, b1, b2⟩ := adr j y hy
    exact hD.1 i j x0 y0 a1 b1 (a2.trans (hxy.trans b2.symm))
  · obtain ⟨q0, a1, a2⟩ := adr k q hq
    rw [← a2]
    exact hD.2 k q0 a1
/-! guards of the pure functions -/
theorem gd_n {α : Type} {c : Prop} [Decidable c] {k : Option α} {r : α} (h : (if c then none else k) = some r) : ¬ c ∧ k = some r := by
  by_cases hc : c
  · rw [if_pos hc] at h; cases h
  · rw [if_neg hc] at h; exact ⟨hc, h⟩
theorem gd_p {α : Type} {c : Prop} [Decidable c] {k : Option α} {r : α} (h : (if c then k else none) = some r) : c ∧ k = some r := by
  by_cases hc : c
  · rw [if_pos hc] at h; exact ⟨hc, h⟩
  · rw [if_neg hc] at h; cases h
theorem gd_b {α β : Type} {o : Option α} {f : α → Option β} {r : β} (h : o.bind f = some r) : ∃ a, o = some a ∧ f a = some r := Option.bind_eq_some_iff.mp h
theorem gd_t {α : Type} {c : Prop} [Decidable c] {a b : α} {r : α} (hc : c) (h : (if c then a else b) = r) : a = r := by rw [if_pos hc] at h; exact h
theorem gd_f {α : Type} {c : Prop} [Decidable c] {a b : α} {r : α} (hc : ¬ c) (h : (if c then a else b) = r) : b = r := by rw [if_neg hc] at h; exact h
abbrev iabs (x : Int32) : Int32 := if 0 ≤ x then x else 0 - x
abbrev imax (x y : Int32) : Int32 := if x < y then y else x
abbrev imin (x y : Int32) : Int32 := if y < x then y else x
theorem no_none {α : Type} {r : α} {P : Prop} (h : none = some r) : P := by cases h
theorem nb0 : narrow .boolean (.int (0 : Int32)) = .int (0 : Int32) := rfl
theorem nb1 : narrow .boolean (.int (1 : Int32)) = .int (1 : Int32) := rfl
theorem nb_of {v : Int32} (h : v &&& 1 = v) : narrow .boolean (.int v) = .int v := by
  show Value.int (v &&& 1) = .int v
  rw [h]
abbrev tysW (cI cZ cG : ClassId) : List (ClassId × FieldType) := [(cI, .int), (cZ, .boolean), (cG, .array .int)]
abbrev aI (c : ClassId) (n : Nat) (f : Nat → Int32) : va_E := .inl (c, n, .inl f)
abbrev aG (c : ClassId) (G : Nat → Nat) : va_E := .inl (c, 9, .inr (.inr (.inr (.inr (fun i => some (G i))))))
def updG (g : Nat → Nat → Int32) (i j : Nat) (x : Int32) : Nat → Nat → Int32 := fun a => if a = i then upd (g i) j x else g a
abbrev gridW (G : Nat → Nat) (cI : ClassId) (g : Nat → Nat → Int32) : va_W := [(G 0, aI cI 9 (g 0)), (G 1, aI cI 9 (g 1)), (G 2, aI cI 9 (g 2)), (G 3, aI cI 9 (g 3)), (G 4, aI cI 9 (g 4)), (G 5, aI cI 9 (g 5)), (G 6, aI cI 9 (g 6)), (G 7, aI cI 9 (g 7)), (G 8, aI cI 9 (g 8))]
abbrev oX0 (A : Nat → Nat) (acts badAct badWhy drawnCount drawAct drawChild : Int32) : va_E := .inr (0, [.int acts, .int badAct, .int badWhy, .int drawnCount, .int drawAct, .int drawChild])
abbrev oX1 (A : Nat → Nat) (askedChild mostLeft : Int32) : va_E := .inr (1, [.ref (A 0), .int askedChild, .int mostLeft])
abbrev oX2 (A : Nat → Nat) (isKept : Int32) : va_E := .inr (2, [.ref (A 0), .ref (A 1), .int isKept])
abbrev oX3 (A : Nat → Nat) (count awaited actor kind amount : Int32) : va_E := .inr (3, [.ref (A 0), .int count, .int awaited, .int actor, .int kind, .int amount])
abbrev oX4 (A : Nat → Nat) : va_E := .inr (4, [.ref (A 0), .ref (A 1), .ref (A 2), .ref (A 3), .ref (A 4), .ref (A 5)])
abbrev oX5 (A : Nat → Nat) (holding wool day : Int32) : va_E := .inr (5, [.ref (A 0), .ref (A 1), .ref (A 2), .ref (A 3), .int holding, .int wool, .int day])
abbrev oX6 (A : Nat → Nat) (count : Int32) : va_E := .inr (6, [.ref (A 0), .ref (A 1), .int count])
abbrev oX7 (A : Nat → Nat) : va_E := .inr (7, [.ref (A 0), .ref (A 1), .ref (A 2), .ref (A 3), .ref (A 4), .ref (A 5), .ref (A 6), .ref (A 7), .ref (A 8)])
abbrev oX8 (A : Nat → Nat) (holding wool days sights padMany acts drawnBits drawnMany drawnNow badAct badWhy drawnAct drawnChild keptAt isWriting : Int32) : va_E := .inr (8, [.ref (A 0), .ref (A 1), .ref (A 2), .int holding, .int wool, .int days, .ref (A 6), .ref (A 7), .int sights, .ref (A 9), .int padMany, .ref (A 11), .ref (A 12), .ref (A 13), .int acts, .ref (A 15), .int drawnBits, .int drawnMany, .int drawnNow, .ref (A 19), .int badAct, .int badWhy, .int drawnAct, .int drawnChild, .ref (A 24), .ref (A 25), .ref (A 26), .ref (A 27), .ref (A 28), .ref (A 29), .ref (A 30), .ref (A 31), .ref (A 32), .ref (A 33), .ref (A 34), .int keptAt, .int isWriting])
theorem gridW_at {pre : va_W} {G : Nat → Nat} {cI : ClassId} {g : Nat → Nat → Int32} {q0 : Nat} (h : pre.length = q0) : ∀ j : Nat, j < 9 → (pre ++ gridW G cI g)[q0 + j]? = some (G j, aI cI 9 (g j)) := by
  intro j hj
  subst h
  rw [List.getElem?_append_right (Nat.le_add_right _ _), Nat.add_sub_cancel_left]
  rcases (show j = 0 ∨ j = 1 ∨ j = 2 ∨ j = 3 ∨ j = 4 ∨ j = 5 ∨ j = 6 ∨ j = 7 ∨ j = 8 by omega) with rfl | rfl | rfl | rfl | rfl | rfl | rfl | rfl | rfl <;> rfl
theorem gridW_set {pre : va_W} {G : Nat → Nat} {cI : ClassId} {g : Nat → Nat → Int32} {q0 j a : Nat} {x : Int32} (h : pre.length = q0) (hj : j < 9) : (pre ++ gridW G cI g).set (q0 + j) (G j, aI cI 9 (upd (g j) a x)) = pre ++ gridW G cI (updG g j a x) := by
  subst h
  rw [List.set_append_right _ _ (Nat.le_add_right _ _), Nat.add_sub_cancel_left]
  rcases (show j = 0 ∨ j = 1 ∨ j = 2 ∨ j = 3 ∨ j = 4 ∨ j = 5 ∨ j = 6 ∨ j = 7 ∨ j = 8 by omega) with rfl | rfl | rfl | rfl | rfl | rfl | rfl | rfl | rfl <;> rfl
theorem lt_of_g {i : Int32} {n : Nat} (h : ¬ (i < 0 ∨ n ≤ i.toNatClampNeg)) : i.toNatClampNeg < n := Nat.not_le.mp fun q => h (Or.inr q)
section RW
variable {p : Program} {l : Launch} {e : Env} {R : Room} {s : State} {m : MethodId} {args : Array Value} {below : List Frame} {meth : Method} {c : Code} {D : va_G} {tys : List (ClassId × FieldType)} {own : String} {cc : ByteArray} {nL : Nat} {Ts : List Cond} {rt : Option FieldType} {w0 ws : va_W} {cs sl : Nat} {Q : State → Prop} {lv : List (Nat × Value)} {pc q : Nat} {st : List Value}

theorem r_iconst (C : Cx p s m args meth c D tys own cc nL Ts rt) {n : Int} {v : Int32} (hdg : decode cc pc = .ok (.iconst n, 1)) (hv : Int32.ofInt n = v) (hq : pc + 1 = q) (k : Wd p l e R s m args below meth c D w0 nL cs sl Q ws lv q (.int v :: st)) : Wd p l e R s m args below meth c D w0 nL cs sl Q ws lv pc st := by
  subst hq
  exact fun H locs ls hP hD hS hl => lv_iconst C.1 C.2.1 hdg hv (k H locs ls hP hD hS hl)

theorem r_bipush (C : Cx p s m args meth c D tys own cc nL Ts rt) {n : Int} {v : Int32} (hdg : decode cc pc = .ok (.bipush n, 2)) (hv : (Int8.ofInt n).toInt32 = v) (hq : pc + 2 = q) (k : Wd p l e R s m args below meth c D w0 nL cs sl Q ws lv q (.int v :: st)) : Wd p l e R s m args below meth c D w0 nL cs sl Q ws lv pc st := by
  subst hq
  exact fun H locs ls hP hD hS hl => lv_bipush C.1 C.2.1 hdg hv (k H locs ls hP hD hS hl)

theorem r_sipush (C : Cx p s m args meth c D tys own cc nL Ts rt) {n : Int} {v : Int32} (hdg : decode cc pc = .ok (.sipush n, 3)) (hv : (Int16.ofInt n).toInt32 = v) (hq : pc + 3 = q) (k : Wd p l e R s m args below meth c D w0 nL cs sl Q ws lv q (.int v :: st)) : Wd p l e R s m args below meth c D w0 nL cs sl Q ws lv pc st := by
  subst hq
  exact fun H locs ls hP hD hS hl => lv_sipush C.1 C.2.1 hdg hv (k H locs ls hP hD hS hl)

theorem r_lconst (C : Cx p s m args meth c D tys own cc nL Ts rt) {n : Fin 2} {v : Int64} (hdg : decode cc pc = .ok (.lconst n, 1)) (hv : Int64.ofNat (n : Nat) = v) (hq : pc + 1 = q) (k : Wd p l e R s m args below meth c D w0 nL cs sl Q ws lv q (.long v :: st)) : Wd p l e R s m args below meth c D w0 nL cs sl Q ws lv pc st := by
  subst hq
  exact fun H locs ls hP hD hS hl => lv_lconst C.1 C.2.1 hdg hv (k H locs ls hP hD hS hl)

theorem r_ldc (C : Cx p s m args meth c D tys own cc nL Ts rt) {index : Nat} {v : Int32} (hdg : decode cc pc = .ok (.ldc index, 2)) (hw : Jvm.Cond.constant own index v ∈ Ts) (hq : pc + 2 = q) (k : Wd p l e R s m args below meth c D w0 nL cs sl Q ws lv q (.int v :: st)) : Wd p l e R s m args below meth c D w0 nL cs sl Q ws lv pc st := by
  subst hq
  exact fun H locs ls hP hD hS hl => lv_ldc C.1 C.2.1 C.2.2.2.1 (C.2.2.2.2.1 _ hw) hdg (k H locs ls hP hD hS hl)

theorem r_ldcw (C : Cx p s m args meth c D tys own cc nL Ts rt) {index : Nat} {v : Int32} (hdg : decode cc pc = .ok (.ldc_w index, 3)) (hw : Jvm.Cond.constant own index v ∈ Ts) (hq : pc + 3 = q) (k : Wd p l e R s m args below meth c D w0 nL cs sl Q ws lv q (.int v :: st)) : Wd p l e R s m args below meth c D w0 nL cs sl Q ws lv pc st := by
  subst hq
  exact fun H locs ls hP hD hS hl => lv_ldcw C.1 C.2.1 C.2.2.2.1 (C.2.2.2.2.1 _ hw) hdg (k H locs ls hP hD hS hl)

theorem r_ldc2 (C : Cx p s m args meth c D tys own cc nL Ts rt) {index : Nat} {v : Int64} (hdg : decode cc pc = .ok (.ldc2_w index, 3)) (hw : Jvm.Cond.constantLong own index v ∈ Ts) (hq : pc + 3 = q) (k : Wd p l e R s m args below meth c D w0 nL cs sl Q ws lv q (.long v :: st)) : Wd p l e R s m args below meth c D w0 nL cs sl Q ws lv pc st := by
  subst hq
  exact fun H locs ls hP hD hS hl => lv_ldc2 C.1 C.2.1 C.2.2.2.1 (C.2.2.2.2.1 _ hw) hdg (k H locs ls hP hD hS hl)

theorem r_iload_n (C : Cx p s m args meth c D tys own cc nL Ts rt) {k4 : Fin 4} {i : Nat} {x : Int32} (hdg : decode cc pc = .ok (.iload_n k4, 1)) (hi : (k4 : Nat) = i) (kk : Nat) (hk : lv[kk]? = some (i, .int x)) (hq : pc + 1 = q) (k : Wd p l e R s m args below meth c D w0 nL cs sl Q ws lv q (.int x :: st)) : Wd p l e R s m args below meth c D w0 nL cs sl Q ws lv pc st := by
  subst hq
  exact fun H locs ls hP hD hS hl => lv_iload_n C.1 C.2.1 hdg hi (lv_at hl kk hk) (k H locs ls hP hD hS hl)

theorem r_iload (C : Cx p s m args meth c D tys own cc nL Ts rt) {i : Nat} {x : Int32} (hdg : decode cc pc = .ok (.iload i, 2)) (kk : Nat) (hk : lv[kk]? = some (i, .int x)) (hq : pc + 2 = q) (k : Wd p l e R s m args below meth c D w0 nL cs sl Q ws lv q (.int x :: st)) : Wd p l e R s m args below meth c D w0 nL cs sl Q ws lv pc st := by
  subst hq
  exact fun H locs ls hP hD hS hl => lv_iload C.1 C.2.1 hdg (lv_at hl kk hk) (k H locs ls hP hD hS hl)

theorem r_istore_n (C : Cx p s m args meth c D tys own cc nL Ts rt) {k4 : Fin 4} {i : Nat} {x : Int32} {lv' : List (Nat × Value)} (hdg : decode cc pc = .ok (.istore_n k4, 1)) (hi : (k4 : Nat) = i) (hn : i < nL) (hlv : (i, Value.int x) :: lv.filter (fun q => !(q.1 == i) && !(q.1 + 1 == i && q.2.category == 2)) = lv') (hq : pc + 1 = q) (k : Wd p l e R s m args below meth c D w0 nL cs sl Q ws lv' q st) : Wd p l e R s m args below meth c D w0 nL cs sl Q ws lv pc (.int x :: st) := by
  subst hq
  exact fun H locs ls hP hD hS hl => lv_istore_n C.1 C.2.1 hdg hi hl hn hlv (fun ls' hl' => k H locs ls' hP hD hS hl')

theorem r_istore (C : Cx p s m args meth c D tys own cc nL Ts rt) {i : Nat} {x : Int32} {lv' : List (Nat × Value)} (hdg : decode cc pc = .ok (.istore i, 2)) (hn : i < nL) (hlv : (i, Value.int x) :: lv.filter (fun q => !(q.1 == i) && !(q.1 + 1 == i && q.2.category == 2)) = lv') (hq : pc + 2 = q) (k : Wd p l e R s m args below meth c D w0 nL cs sl Q ws lv' q st) : Wd p l e R s m args below meth c D w0 nL cs sl Q ws lv pc (.int x :: st) := by
  subst hq
  exact fun H locs ls hP hD hS hl => lv_istore C.1 C.2.1 hdg hl hn hlv (fun ls' hl' => k H locs ls' hP hD hS hl')

theorem r_lload_n (C : Cx p s m args meth c D tys own cc nL Ts rt) {k4 : Fin 4} {i : Nat} {x : Int64} (hdg : decode cc pc = .ok (.lload_n k4, 1)) (hi : (k4 : Nat) = i) (kk : Nat) (hk : lv[kk]? = some (i, .long x)) (hq : pc + 1 = q) (k : Wd p l e R s m args below meth c D w0 nL cs sl Q ws lv q (.long x :: st)) : Wd p l e R s m args below meth c D w0 nL cs sl Q ws lv pc st := by
  subst hq
  exact fun H locs ls hP hD hS hl => lv_lload_n C.1 C.2.1 hdg hi (lv_at hl kk hk) (k H locs ls hP hD hS hl)

theorem r_lload (C : Cx p s m args meth c D tys own cc nL Ts rt) {i : Nat} {x : Int64} (hdg : decode cc pc = .ok (.lload i, 2)) (kk : Nat) (hk : lv[kk]? = some (i, .long x)) (hq : pc + 2 = q) (k : Wd p l e R s m args below meth c D w0 nL cs sl Q ws lv q (.long x :: st)) : Wd p l e R s m args below meth c D w0 nL cs sl Q ws lv pc st := by
  subst hq
  exact fun H locs ls hP hD hS hl => lv_lload C.1 C.2.1 hdg (lv_at hl kk hk) (k H locs ls hP hD hS hl)

theorem r_lstore_n (C : Cx p s m args meth c D tys own cc nL Ts rt) {k4 : Fin 4} {i : Nat} {x : Int64} {lv' : List (Nat × Value)} (hdg : decode cc pc = .ok (.lstore_n k4, 1)) (hi : (k4 : Nat) = i) (hn : i + 1 < nL) (hlv : (i, Value.long x) :: lv.filter (fun q => !(q.1 == i) && (!(q.1 == i + 1) && !(q.1 + 1 == i && q.2.category == 2))) = lv') (hq : pc + 1 = q) (k : Wd p l e R s m args below meth c D w0 nL cs sl Q ws lv' q st) : Wd p l e R s m args below meth c D w0 nL cs sl Q ws lv pc (.long x :: st) := by
  subst hq
  exact fun H locs ls hP hD hS hl => lv_lstore_n C.1 C.2.1 hdg hi hl hn hlv (fun ls' hl' => k H locs ls' hP hD hS hl')

theorem r_lstore (C : Cx p s m args meth c D tys own cc nL Ts rt) {i : Nat} {x : Int64} {lv' : List (Nat × Value)} (hdg : decode cc pc = .ok (.lstore i, 2)) (hn : i + 1 < nL) (hlv : (i, Value.long x) :: lv.filter (fun q => !(q.1 == i) && (!(q.1 == i + 1) && !(q.1 + 1 == i && q.2.category == 2))) = lv') (hq : pc + 2 = q) (k : Wd p l e R s m args below meth c D w0 nL cs sl Q ws lv' q st) : Wd p l e R s m args below meth c D w0 nL cs sl Q ws lv pc (.long x :: st) := by
  subst hq
  exact fun H locs ls hP hD hS hl => lv_lstore C.1 C.2.1 hdg hl hn hlv (fun ls' hl' => k H locs ls' hP hD hS hl')

theorem r_aload_n (C : Cx p s m args meth c D tys own cc nL Ts rt) {k4 : Fin 4} {i : Nat} {x : Nat} (hdg : decode cc pc = .ok (.aload_n k4, 1)) (hi : (k4 : Nat) = i) (kk : Nat) (hk : lv[kk]? = some (i, .ref x)) (hq : pc + 1 = q) (k : Wd p l e R s m args below meth c D w0 nL cs sl Q ws lv q (.ref x :: st)) : Wd p l e R s m args below meth c D w0 nL cs sl Q ws lv pc st := by
  subst hq
  exact fun H locs ls hP hD hS hl => lv_aload_n C.1 C.2.1 hdg hi (lv_at hl kk hk) (k H locs ls hP hD hS hl)

theorem r_aload (C : Cx p s m args meth c D tys own cc nL Ts rt) {i : Nat} {x : Nat} (hdg : decode cc pc = .ok (.aload i, 2)) (kk : Nat) (hk : lv[kk]? = some (i, .ref x)) (hq : pc + 2 = q) (k : Wd p l e R s m args below meth c D w0 nL cs sl Q ws lv q (.ref x :: st)) : Wd p l e R s m args below meth c D w0 nL cs sl Q ws lv pc st := by
  subst hq
  exact fun H locs ls hP hD hS hl => lv_aload C.1 C.2.1 hdg (lv_at hl kk hk) (k H locs ls hP hD hS hl)

theorem r_astore_n (C : Cx p s m args meth c D tys own cc nL Ts rt) {k4 : Fin 4} {i : Nat} {x : Nat} {lv' : List (Nat × Value)} (hdg : decode cc pc = .ok (.astore_n k4, 1)) (hi : (k4 : Nat) = i) (hn : i < nL) (hlv : (i, Value.ref x) :: lv.filter (fun q => !(q.1 == i) && !(q.1 + 1 == i && q.2.category == 2)) = lv') (hq : pc + 1 = q) (k : Wd p l e R s m args below meth c D w0 nL cs sl Q ws lv' q st) : Wd p l e R s m args below meth c D w0 nL cs sl Q ws lv pc (.ref x :: st) := by
  subst hq
  exact fun H locs ls hP hD hS hl => lv_astore_n C.1 C.2.1 hdg hi hl hn hlv (fun ls' hl' => k H locs ls' hP hD hS hl')

theorem r_astore (C : Cx p s m args meth c D tys own cc nL Ts rt) {i : Nat} {x : Nat} {lv' : List (Nat × Value)} (hdg : decode cc pc = .ok (.astore i, 2)) (hn : i < nL) (hlv : (i, Value.ref x) :: lv.filter (fun q => !(q.1 == i) && !(q.1 + 1 == i && q.2.category == 2)) = lv') (hq : pc + 2 = q) (k : Wd p l e R s m args below meth c D w0 nL cs sl Q ws lv' q st) : Wd p l e R s m args below meth c D w0 nL cs sl Q ws lv pc (.ref x :: st) := by
  subst hq
  exact fun H locs ls hP hD hS hl => lv_astore C.1 C.2.1 hdg hl hn hlv (fun ls' hl' => k H locs ls' hP hD hS hl')

theorem r_iinc (C : Cx p s m args meth c D tys own cc nL Ts rt) {i : Nat} {n : Int} {x v : Int32} {lv' : List (Nat × Value)} (hdg : decode cc pc = .ok (.iinc i n, 3)) (kk : Nat) (hk : lv[kk]? = some (i, .int x)) (hv : x + Int32.ofInt n = v) (hn : i < nL) (hlv : (i, Value.int v) :: lv.filter (fun q => !(q.1 == i) && !(q.1 + 1 == i && q.2.category == 2)) = lv') (hq : pc + 3 = q) (k : Wd p l e R s m args below meth c D w0 nL cs sl Q ws lv' q st) : Wd p l e R s m args below meth c D w0 nL cs sl Q ws lv pc st := by
  subst hq
  exact fun H locs ls hP hD hS hl => lv_iinc C.1 C.2.1 hdg hl hk hv hn hlv (fun ls' hl' => k H locs ls' hP hD hS hl')

theorem r_iadd (C : Cx p s m args meth c D tys own cc nL Ts rt) {x y : Int32} (hdg : decode cc pc = .ok (.iadd, 1)) (hq : pc + 1 = q) (k : Wd p l e R s m args below meth c D w0 nL cs sl Q ws lv q (.int (x + y) :: st)) : Wd p l e R s m args below meth c D w0 nL cs sl Q ws lv pc (.int y :: .int x :: st) := by
  subst hq
  exact fun H locs ls hP hD hS hl => lv_iadd C.1 C.2.1 hdg (k H locs ls hP hD hS hl)

theorem r_isub (C : Cx p s m args meth c D tys own cc nL Ts rt) {x y : Int32} (hdg : decode cc pc = .ok (.isub, 1)) (hq : pc + 1 = q) (k : Wd p l e R s m args below meth c D w0 nL cs sl Q ws lv q (.int (x - y) :: st)) : Wd p l e R s m args below meth c D w0 nL cs sl Q ws lv pc (.int y :: .int x :: st) := by
  subst hq
  exact fun H locs ls hP hD hS hl => lv_isub C.1 C.2.1 hdg (k H locs ls hP hD hS hl)

theorem r_imul (C : Cx p s m args meth c D tys own cc nL Ts rt) {x y : Int32} (hdg : decode cc pc = .ok (.imul, 1)) (hq : pc + 1 = q) (k : Wd p l e R s m args below meth c D w0 nL cs sl Q ws lv q (.int (x * y) :: st)) : Wd p l e R s m args below meth c D w0 nL cs sl Q ws lv pc (.int y :: .int x :: st) := by
  subst hq
  exact fun H locs ls hP hD hS hl => lv_imul C.1 C.2.1 hdg (k H locs ls hP hD hS hl)

theorem r_iand (C : Cx p s m args meth c D tys own cc nL Ts rt) {x y : Int32} (hdg : decode cc pc = .ok (.iand, 1)) (hq : pc + 1 = q) (k : Wd p l e R s m args below meth c D w0 nL cs sl Q ws lv q (.int (x &&& y) :: st)) : Wd p l e R s m args below meth c D w0 nL cs sl Q ws lv pc (.int y :: .int x :: st) := by
  subst hq
  exact fun H locs ls hP hD hS hl => lv_iand C.1 C.2.1 hdg (k H locs ls hP hD hS hl)

theorem r_ior (C : Cx p s m args meth c D tys own cc nL Ts rt) {x y : Int32} (hdg : decode cc pc = .ok (.ior, 1)) (hq : pc + 1 = q) (k : Wd p l e R s m args below meth c D w0 nL cs sl Q ws lv q (.int (x ||| y) :: st)) : Wd p l e R s m args below meth c D w0 nL cs sl Q ws lv pc (.int y :: .int x :: st) := by
  subst hq
  exact fun H locs ls hP hD hS hl => lv_ior C.1 C.2.1 hdg (k H locs ls hP hD hS hl)

theorem r_ixor (C : Cx p s m args meth c D tys own cc nL Ts rt) {x y : Int32} (hdg : decode cc pc = .ok (.ixor, 1)) (hq : pc + 1 = q) (k : Wd p l e R s m args below meth c D w0 nL cs sl Q ws lv q (.int (x ^^^ y) :: st)) : Wd p l e R s m args below meth c D w0 nL cs sl Q ws lv pc (.int y :: .int x :: st) := by
  subst hq
  exact fun H locs ls hP hD hS hl => lv_ixor C.1 C.2.1 hdg (k H locs ls hP hD hS hl)

theorem r_ishl (C : Cx p s m args meth c D tys own cc nL Ts rt) {x y : Int32} (hdg : decode cc pc = .ok (.ishl, 1)) (hq : pc + 1 = q) (k : Wd p l e R s m args below meth c D w0 nL cs sl Q ws lv q (.int (x <<< (y &&& 31)) :: st)) : Wd p l e R s m args below meth c D w0 nL cs sl Q ws lv pc (.int y :: .int x :: st) := by
  subst hq
  exact fun H locs ls hP hD hS hl => lv_ishl C.1 C.2.1 hdg (k H locs ls hP hD hS hl)

theorem r_ishr (C : Cx p s m args meth c D tys own cc nL Ts rt) {x y : Int32} (hdg : decode cc pc = .ok (.ishr, 1)) (hq : pc + 1 = q) (k : Wd p l e R s m args below meth c D w0 nL cs sl Q ws lv q (.int (x >>> (y &&& 31)) :: st)) : Wd p l e R s m args below meth c D w0 nL cs sl Q ws lv pc (.int y :: .int x :: st) := by
  subst hq
  exact fun H locs ls hP hD hS hl => lv_ishr C.1 C.2.1 hdg (k H locs ls hP hD hS hl)

theorem r_iushr (C : Cx p s m args meth c D tys own cc nL Ts rt) {x y : Int32} (hdg : decode cc pc = .ok (.iushr, 1)) (hq : pc + 1 = q) (k : Wd p l e R s m args below meth c D w0 nL cs sl Q ws lv q (.int ((x.toUInt32 >>> (y.toUInt32 &&& Int32.toUInt32 31)).toInt32) :: st)) : Wd p l e R s m args below meth c D w0 nL cs sl Q ws lv pc (.int y :: .int x :: st) := by
  subst hq
  exact fun H locs ls hP hD hS hl => lv_iushr C.1 C.2.1 hdg rfl (k H locs ls hP hD hS hl)

theorem r_idiv (C : Cx p s m args meth c D tys own cc nL Ts rt) {x y : Int32} (hdg : decode cc pc = .ok (.idiv, 1)) (hne : ¬ y = 0) (hq : pc + 1 = q) (k : Wd p l e R s m args below meth c D w0 nL cs sl Q ws lv q (.int (x / y) :: st)) : Wd p l e R s m args below meth c D w0 nL cs sl Q ws lv pc (.int y :: .int x :: st) := by
  subst hq
  exact fun H locs ls hP hD hS hl => lv_idiv C.1 C.2.1 hdg hne (k H locs ls hP hD hS hl)

theorem r_irem (C : Cx p s m args meth c D tys own cc nL Ts rt) {x y : Int32} (hdg : decode cc pc = .ok (.irem, 1)) (hne : ¬ y = 0) (hq : pc + 1 = q) (k : Wd p l e R s m args below meth c D w0 nL cs sl Q ws lv q (.int (x - x / y * y) :: st)) : Wd p l e R s m args below meth c D w0 nL cs sl Q ws lv pc (.int y :: .int x :: st) := by
  subst hq
  exact fun H locs ls hP hD hS hl => lv_irem C.1 C.2.1 hdg hne (k H locs ls hP hD hS hl)

theorem r_ineg (C : Cx p s m args meth c D tys own cc nL Ts rt) {x : Int32} (hdg : decode cc pc = .ok (.ineg, 1)) (hq : pc + 1 = q) (k : Wd p l e R s m args below meth c D w0 nL cs sl Q ws lv q (.int (-x) :: st)) : Wd p l e R s m args below meth c D w0 nL cs sl Q ws lv pc (.int x :: st) := by
  subst hq
  exact fun H locs ls hP hD hS hl => lv_ineg C.1 C.2.1 hdg (k H locs ls hP hD hS hl)

theorem r_ladd (C : Cx p s m args meth c D tys own cc nL Ts rt) {x y : Int64} (hdg : decode cc pc = .ok (.ladd, 1)) (hq : pc + 1 = q) (k : Wd p l e R s m args below meth c D w0 nL cs sl Q ws lv q (.long (x + y) :: st)) : Wd p l e R s m args below meth c D w0 nL cs sl Q ws lv pc (.long y :: .long x :: st) := by
  subst hq
  exact fun H locs ls hP hD hS hl => lv_ladd C.1 C.2.1 hdg (k H locs ls hP hD hS hl)

theorem r_lmul (C : Cx p s m args meth c D tys own cc nL Ts rt) {x y : Int64} (hdg : decode cc pc = .ok (.lmul, 1)) (hq : pc + 1 = q) (k : Wd p l e R s m args below meth c D w0 nL cs sl Q ws lv q (.long (x * y) :: st)) : Wd p l e R s m args below meth c D w0 nL cs sl Q ws lv pc (.long y :: .long x :: st) := by
  subst hq
  exact fun H locs ls hP hD hS hl => lv_lmul C.1 C.2.1 hdg (k H locs ls hP hD hS hl)

theorem r_ldiv (C : Cx p s m args meth c D tys own cc nL Ts rt) {x y : Int64} (hdg : decode cc pc = .ok (.ldiv, 1)) (hne : ¬ y = 0) (hq : pc + 1 = q) (k : Wd p l e R s m args below meth c D w0 nL cs sl Q ws lv q (.long (x / y) :: st)) : Wd p l e R s m args below meth c D w0 nL cs sl Q ws lv pc (.long y :: .long x :: st) := by
  subst hq
  exact fun H locs ls hP hD hS hl => lv_ldiv C.1 C.2.1 hdg hne (k H locs ls hP hD hS hl)

theorem r_lrem (C : Cx p s m args meth c D tys own cc nL Ts rt) {x y : Int64} (hdg : decode cc pc = .ok (.lrem, 1)) (hne : ¬ y = 0) (hq : pc + 1 = q) (k : Wd p l e R s m args below meth c D w0 nL cs sl Q ws lv q (.long (x - x / y * y) :: st)) : Wd p l e R s m args below meth c D w0 nL cs sl Q ws lv pc (.long y :: .long x :: st) := by
  subst hq
  exact fun H locs ls hP hD hS hl => lv_lrem C.1 C.2.1 hdg hne (k H locs ls hP hD hS hl)

theorem r_i2l (C : Cx p s m args meth c D tys own cc nL Ts rt) {x : Int32} (hdg : decode cc pc = .ok (.i2l, 1)) (hq : pc + 1 = q) (k : Wd p l e R s m args below meth c D w0 nL cs sl Q ws lv q (.long x.toInt64 :: st)) : Wd p l e R s m args below meth c D w0 nL cs sl Q ws lv pc (.int x :: st) := by
  subst hq
  exact fun H locs ls hP hD hS hl => lv_i2l C.1 C.2.1 hdg rfl (k H locs ls hP hD hS hl)

theorem r_l2i (C : Cx p s m args meth c D tys own cc nL Ts rt) {x : Int64} (hdg : decode cc pc = .ok (.l2i, 1)) (hq : pc + 1 = q) (k : Wd p l e R s m args below meth c D w0 nL cs sl Q ws lv q (.int x.toInt32 :: st)) : Wd p l e R s m args below meth c D w0 nL cs sl Q ws lv pc (.long x :: st) := by
  subst hq
  exact fun H locs ls hP hD hS hl => lv_l2i C.1 C.2.1 hdg rfl (k H locs ls hP hD hS hl)

theorem r_lcmp (C : Cx p s m args meth c D tys own cc nL Ts rt) {x y : Int64} (hdg : decode cc pc = .ok (.lcmp, 1)) (hq : pc + 1 = q) (k : Wd p l e R s m args below meth c D w0 nL cs sl Q ws lv q (.int (lg_cmp x y) :: st)) : Wd p l e R s m args below meth c D w0 nL cs sl Q ws lv pc (.long y :: .long x :: st) := by
  subst hq
  exact fun H locs ls hP hD hS hl => W.lcmp C.1 C.2.1 hdg (k H locs ls hP hD hS hl)

theorem r_dup (C : Cx p s m args meth c D tys own cc nL Ts rt) {va : Value} (hdg : decode cc pc = .ok (.dup, 1)) (hva : va.category = 1) (hq : pc + 1 = q) (k : Wd p l e R s m args below meth c D w0 nL cs sl Q ws lv q (va :: va :: st)) : Wd p l e R s m args below meth c D w0 nL cs sl Q ws lv pc (va :: st) := by
  subst hq
  exact fun H locs ls hP hD hS hl => lv_dup C.1 C.2.1 hdg hva (k H locs ls hP hD hS hl)

theorem r_dup2 (C : Cx p s m args meth c D tys own cc nL Ts rt) {va vb : Value} (hdg : decode cc pc = .ok (.dup2, 1)) (hva : va.category = 1) (hvb : vb.category = 1) (hq : pc + 1 = q) (k : Wd p l e R s m args below meth c D w0 nL cs sl Q ws lv q (va :: vb :: va :: vb :: st)) : Wd p l e R s m args below meth c D w0 nL cs sl Q ws lv pc (va :: vb :: st) := by
  subst hq
  exact fun H locs ls hP hD hS hl => lv_dup2_11 C.1 C.2.1 hdg hva hvb (k H locs ls hP hD hS hl)

theorem r_icmp_eq (C : Cx p s m args meth c D tys own cc nL Ts rt) {x y : Int32} {off : Int} {tgt : Nat} (hdg : decode cc pc = .ok (.if_icmp .eq off, 3)) (ht : (pc : Int) + off = (tgt : Int)) (hq : pc + 3 = q) (kt : x = y → Wd p l e R s m args below meth c D w0 nL cs sl Q ws lv tgt st) (kf : ¬ (x = y) → Wd p l e R s m args below meth c D w0 nL cs sl Q ws lv q st) : Wd p l e R s m args below meth c D w0 nL cs sl Q ws lv pc (.int y :: .int x :: st) := by
  subst hq
  exact fun H locs ls hP hD hS hl => lv_icmp_eq C.1 C.2.1 hdg ht (fun h => kt h H locs ls hP hD hS hl) (fun h => kf h H locs ls hP hD hS hl)

theorem r_if_eq (C : Cx p s m args meth c D tys own cc nL Ts rt) {x y : Int32} {off : Int} {tgt : Nat} (hdg : decode cc pc = .ok (.ifCond .eq off, 3)) (ht : (pc : Int) + off = (tgt : Int)) (hq : pc + 3 = q) (kt : x = 0 → Wd p l e R s m args below meth c D w0 nL cs sl Q ws lv tgt st) (kf : ¬ (x = 0) → Wd p l e R s m args below meth c D w0 nL cs sl Q ws lv q st) : Wd p l e R s m args below meth c D w0 nL cs sl Q ws lv pc (.int x :: st) := by
  subst hq
  exact fun H locs ls hP hD hS hl => lv_if_eq C.1 C.2.1 hdg ht (fun h => kt h H locs ls hP hD hS hl) (fun h => kf h H locs ls hP hD hS hl)

theorem r_icmp_ne (C : Cx p s m args meth c D tys own cc nL Ts rt) {x y : Int32} {off : Int} {tgt : Nat} (hdg : decode cc pc = .ok (.if_icmp .ne off, 3)) (ht : (pc : Int) + off = (tgt : Int)) (hq : pc + 3 = q) (kt : ¬ x = y → Wd p l e R s m args below meth c D w0 nL cs sl Q ws lv tgt st) (kf : x = y → Wd p l e R s m args below meth c D w0 nL cs sl Q ws lv q st) : Wd p l e R s m args below meth c D w0 nL cs sl Q ws lv pc (.int y :: .int x :: st) := by
  subst hq
  exact fun H locs ls hP hD hS hl => lv_icmp_ne C.1 C.2.1 hdg ht (fun h => kt h H locs ls hP hD hS hl) (fun h => kf h H locs ls hP hD hS hl)

theorem r_if_ne (C : Cx p s m args meth c D tys own cc nL Ts rt) {x y : Int32} {off : Int} {tgt : Nat} (hdg : decode cc pc = .ok (.ifCond .ne off, 3)) (ht : (pc : Int) + off = (tgt : Int)) (hq : pc + 3 = q) (kt : ¬ x = 0 → Wd p l e R s m args below meth c D w0 nL cs sl Q ws lv tgt st) (kf : x = 0 → Wd p l e R s m args below meth c D w0 nL cs sl Q ws lv q st) : Wd p l e R s m args below meth c D w0 nL cs sl Q ws lv pc (.int x :: st) := by
  subst hq
  exact fun H locs ls hP hD hS hl => lv_if_ne C.1 C.2.1 hdg ht (fun h => kt h H locs ls hP hD hS hl) (fun h => kf h H locs ls hP hD hS hl)

theorem r_icmp_lt (C : Cx p s m args meth c D tys own cc nL Ts rt) {x y : Int32} {off : Int} {tgt : Nat} (hdg : decode cc pc = .ok (.if_icmp .lt off, 3)) (ht : (pc : Int) + off = (tgt : Int)) (hq : pc + 3 = q) (kt : x < y → Wd p l e R s m args below meth c D w0 nL cs sl Q ws lv tgt st) (kf : ¬ (x < y) → Wd p l e R s m args below meth c D w0 nL cs sl Q ws lv q st) : Wd p l e R s m args below meth c D w0 nL cs sl Q ws lv pc (.int y :: .int x :: st) := by
  subst hq
  exact fun H locs ls hP hD hS hl => lv_icmp_lt C.1 C.2.1 hdg ht (fun h => kt h H locs ls hP hD hS hl) (fun h => kf h H locs ls hP hD hS hl)

theorem r_if_lt (C : Cx p s m args meth c D tys own cc nL Ts rt) {x y : Int32} {off : Int} {tgt : Nat} (hdg : decode cc pc = .ok (.ifCond .lt off, 3)) (ht : (pc : Int) + off = (tgt : Int)) (hq : pc + 3 = q) (kt : x < 0 → Wd p l e R s m args below meth c D w0 nL cs sl Q ws lv tgt st) (kf : ¬ (x < 0) → Wd p l e R s m args below meth c D w0 nL cs sl Q ws lv q st) : Wd p l e R s m args below meth c D w0 nL cs sl Q ws lv pc (.int x :: st) := by
  subst hq
  exact fun H locs ls hP hD hS hl => lv_if_lt C.1 C.2.1 hdg ht (fun h => kt h H locs ls hP hD hS hl) (fun h => kf h H locs ls hP hD hS hl)

theorem r_icmp_ge (C : Cx p s m args meth c D tys own cc nL Ts rt) {x y : Int32} {off : Int} {tgt : Nat} (hdg : decode cc pc = .ok (.if_icmp .ge off, 3)) (ht : (pc : Int) + off = (tgt : Int)) (hq : pc + 3 = q) (kt : y ≤ x → Wd p l e R s m args below meth c D w0 nL cs sl Q ws lv tgt st) (kf : ¬ (y ≤ x) → Wd p l e R s m args below meth c D w0 nL cs sl Q ws lv q st) : Wd p l e R s m args below meth c D w0 nL cs sl Q ws lv pc (.int y :: .int x :: st) := by
  subst hq
  exact fun H locs ls hP hD hS hl => lv_icmp_ge C.1 C.2.1 hdg ht (fun h => kt h H locs ls hP hD hS hl) (fun h => kf h H locs ls hP hD hS hl)

theorem r_if_ge (C : Cx p s m args meth c D tys own cc nL Ts rt) {x y : Int32} {off : Int} {tgt : Nat} (hdg : decode cc pc = .ok (.ifCond .ge off, 3)) (ht : (pc : Int) + off = (tgt : Int)) (hq : pc + 3 = q) (kt : 0 ≤ x → Wd p l e R s m args below meth c D w0 nL cs sl Q ws lv tgt st) (kf : ¬ (0 ≤ x) → Wd p l e R s m args below meth c D w0 nL cs sl Q ws lv q st) : Wd p l e R s m args below meth c D w0 nL cs sl Q ws lv pc (.int x :: st) := by
  subst hq
  exact fun H locs ls hP hD hS hl => lv_if_ge C.1 C.2.1 hdg ht (fun h => kt h H locs ls hP hD hS hl) (fun h => kf h H locs ls hP hD hS hl)

theorem r_icmp_gt (C : Cx p s m args meth c D tys own cc nL Ts rt) {x y : Int32} {off : Int} {tgt : Nat} (hdg : decode cc pc = .ok (.if_icmp .gt off, 3)) (ht : (pc : Int) + off = (tgt : Int)) (hq : pc + 3 = q) (kt : y < x → Wd p l e R s m args below meth c D w0 nL cs sl Q ws lv tgt st) (kf : ¬ (y < x) → Wd p l e R s m args below meth c D w0 nL cs sl Q ws lv q st) : Wd p l e R s m args below meth c D w0 nL cs sl Q ws lv pc (.int y :: .int x :: st) := by
  subst hq
  exact fun H locs ls hP hD hS hl => lv_icmp_gt C.1 C.2.1 hdg ht (fun h => kt h H locs ls hP hD hS hl) (fun h => kf h H locs ls hP hD hS hl)

theorem r_if_gt (C : Cx p s m args meth c D tys own cc nL Ts rt) {x y : Int32} {off : Int} {tgt : Nat} (hdg : decode cc pc = .ok (.ifCond .gt off, 3)) (ht : (pc : Int) + off = (tgt : Int)) (hq : pc + 3 = q) (kt : 0 < x → Wd p l e R s m args below meth c D w0 nL cs sl Q ws lv tgt st) (kf : ¬ (0 < x) → Wd p l e R s m args below meth c D w0 nL cs sl Q ws lv q st) : Wd p l e R s m args below meth c D w0 nL cs sl Q ws lv pc (.int x :: st) := by
  subst hq
  exact fun H locs ls hP hD hS hl => lv_if_gt C.1 C.2.1 hdg ht (fun h => kt h H locs ls hP hD hS hl) (fun h => kf h H locs ls hP hD hS hl)

theorem r_icmp_le (C : Cx p s m args meth c D tys own cc nL Ts rt) {x y : Int32} {off : Int} {tgt : Nat} (hdg : decode cc pc = .ok (.if_icmp .le off, 3)) (ht : (pc : Int) + off = (tgt : Int)) (hq : pc + 3 = q) (kt : x ≤ y → Wd p l e R s m args below meth c D w0 nL cs sl Q ws lv tgt st) (kf : ¬ (x ≤ y) → Wd p l e R s m args below meth c D w0 nL cs sl Q ws lv q st) : Wd p l e R s m args below meth c D w0 nL cs sl Q ws lv pc (.int y :: .int x :: st) := by
  subst hq
  exact fun H locs ls hP hD hS hl => lv_icmp_le C.1 C.2.1 hdg ht (fun h => kt h H locs ls hP hD hS hl) (fun h => kf h H locs ls hP hD hS hl)

theorem r_if_le (C : Cx p s m args meth c D tys own cc nL Ts rt) {x y : Int32} {off : Int} {tgt : Nat} (hdg : decode cc pc = .ok (.ifCond .le off, 3)) (ht : (pc : Int) + off = (tgt : Int)) (hq : pc + 3 = q) (kt : x ≤ 0 → Wd p l e R s m args below meth c D w0 nL cs sl Q ws lv tgt st) (kf : ¬ (x ≤ 0) → Wd p l e R s m args below meth c D w0 nL cs sl Q ws lv q st) : Wd p l e R s m args below meth c D w0 nL cs sl Q ws lv pc (.int x :: st) := by
  subst hq
  exact fun H locs ls hP hD hS hl => lv_if_le C.1 C.2.1 hdg ht (fun h => kt h H locs ls hP hD hS hl) (fun h => kf h H locs ls hP hD hS hl)

theorem r_goto (C : Cx p s m args meth c D tys own cc nL Ts rt) {off : Int} {tgt : Nat} (hdg : decode cc pc = .ok (.goto off, 3)) (ht : (pc : Int) + off = (tgt : Int)) (k : Wd p l e R s m args below meth c D w0 nL cs sl Q ws lv tgt st) : Wd p l e R s m args below meth c D w0 nL cs sl Q ws lv pc st := fun H locs ls hP hD hS hl => lv_goto C.1 C.2.1 hdg ht (k H locs ls hP hD hS hl)

theorem r_tabIn (C : Cx p s m args meth c D tys own cc nL Ts rt) {dflt lo hi : Int} {offs : Array Int} {len : Nat} {x v : Int32} {off : Int} {tgt : Nat} (hdg : decode cc pc = .ok (.tableswitch dflt lo hi offs, len)) (hx : x = v) (h1 : ¬ v.toInt < lo) (h2 : ¬ hi < v.toInt) (ho : offs[(v.toInt - lo).toNat]? = some off) (ht : (pc : Int) + off = (tgt : Int)) (k : Wd p l e R s m args below meth c D w0 nL cs sl Q ws lv tgt st) : Wd p l e R s m args below meth c D w0 nL cs sl Q ws lv pc (.int x :: st) := by
  subst hx
  exact fun H locs ls hP hD hS hl => lv_tableIn C.1 C.2.1 hdg h1 h2 ho ht (k H locs ls hP hD hS hl)

theorem r_tabOut (C : Cx p s m args meth c D tys own cc nL Ts rt) {dflt lo hi : Int} {offs : Array Int} {len : Nat} {x : Int32} {tgt : Nat} (hdg : decode cc pc = .ok (.tableswitch dflt lo hi offs, len)) (h : x.toInt < lo ∨ hi < x.toInt) (ht : (pc : Int) + dflt = (tgt : Int)) (k : Wd p l e R s m args below meth c D w0 nL cs sl Q ws lv tgt st) : Wd p l e R s m args below meth c D w0 nL cs sl Q ws lv pc (.int x :: st) := fun H locs ls hP hD hS hl => lv_tableOut C.1 C.2.1 hdg h ht (k H locs ls hP hD hS hl)

theorem r_look (C : Cx p s m args meth c D tys own cc nL Ts rt) {dflt : Int} {ps : Array (Int × Int)} {len : Nat} {x : Int32} {off : Int} {tgt : Nat} (hdg : decode cc pc = .ok (.lookupswitch dflt ps, len)) (hp : (ps.toList.zip (ps.toList.drop 1)).all (fun (a, next) => a.1 < next.1) = true) (ho : Op.lookupswitch.offset ps.toList dflt x.toInt = off) (ht : (pc : Int) + off = (tgt : Int)) (k : Wd p l e R s m args below meth c D w0 nL cs sl Q ws lv tgt st) : Wd p l e R s m args below meth c D w0 nL cs sl Q ws lv pc (.int x :: st) := fun H locs ls hP hD hS hl => lv_lookup C.1 C.2.1 hdg hp ho ht (k H locs ls hP hD hS hl)

theorem r_get (C : Cx p s m args meth c D tys own cc nL Ts rt) {C0 ref : String} {T : u_T} {N ci index a : Nat} {fs : List Value} {v : Value} (hdg : decode cc pc = .ok (.getfield index, 3)) (hin : ∀ w ∈ u_ws C0 T N, w ∈ Ts) (q0 : Nat) (he : ws[q0]? = some (a, .inr (ci, fs))) (hc : vwCl[ci]? = some (C0, T, N)) (kf : Nat) (hk : kf < N) (href : (T kf).1 = ref) (hlink : Cond.fieldLink own index ref (T kf).2.1 (T kf).2.2.1 ∈ Ts) (hv : fs[kf]? = some v) (hq : pc + 3 = q) (k : Wd p l e R s m args below meth c D w0 nL cs sl Q ws lv q (v :: st)) : Wd p l e R s m args below meth c D w0 nL cs sl Q ws lv pc (.ref a :: st) := by
  subst hq
  subst href
  exact fun H locs ls hP hD hS hl => va_get C.1 C.2.1 C.2.2.2.2.1 hin C.2.2.2.1 C.2.2.2.2.2.1 hP q0 he hc kf hk (C.2.2.2.2.1 _ hlink) (fun _ h => h) hv hdg (k H locs ls hP hD hS hl)

theorem r_put (C : Cx p s m args meth c D tys own cc nL Ts rt) {C0 ref : String} {T : u_T} {N ci index a : Nat} {fs : List Value} {v : Value} {ty : FieldType} {ws' : va_W} (hdg : decode cc pc = .ok (.putfield index, 3)) (hin : ∀ w ∈ u_ws C0 T N, w ∈ Ts) (ty0 : Nat → FieldType) (hty : ∀ k, k < N → parseFieldDescriptor (T k).2.2.1 = some (ty0 k)) (hnm : ∀ a, a < N → ∀ b, b < N → a ≠ b → (T a).2.1 ≠ (T b).2.1) (q0 : Nat) (he : ws[q0]? = some (a, .inr (ci, fs))) (hc : vwCl[ci]? = some (C0, T, N)) (kf : Nat) (hk : kf < N) (href : (T kf).1 = ref) (hlink : Cond.fieldLink own index ref (T kf).2.1 (T kf).2.2.1 ∈ Ts) (hfin : (T kf).2.2.2 = false) (hd : parseFieldDescriptor (T kf).2.2.1 = some ty) (hn : narrow ty v = v) (hfit : fits ty v = true) (hl0 : kf < fs.length) (hws : ws.set q0 (a, .inr (ci, fs.set kf v)) = ws') (hq : pc + 3 = q) (k : Wd p l e R s m args below meth c D w0 nL cs sl Q ws' lv q st) : Wd p l e R s m args below meth c D w0 nL cs sl Q ws lv pc (v :: .ref a :: st) := by
  subst hq
  subst href
  subst hws
  exact fun H locs ls hP hD hS hl => va_put C.1 C.2.1 C.2.2.2.2.1 hin ty0 hty hnm C.2.2.2.1 C.2.2.2.2.2.1 hP hD hS q0 he hc kf hk (C.2.2.2.2.1 _ hlink) (fun _ h => h) hfin hd hn hfit hl0 hdg (fun H1 locs1 hP1 hD1 hS1 => k H1 locs1 ls hP1 hD1 hS1 hl)

theorem r_iald (C : Cx p s m args meth c D tys own cc nL Ts rt) {a : Nat} {cA : ClassId} {n : Nat} {f : Nat → Int32} {i : Int32} (hdg : decode cc pc = .ok (.iaload, 1)) (q0 t0 : Nat) (ha : ws[q0]? = some (a, .inl (cA, n, .inl f))) (ht : tys[t0]? = some (cA, .int)) (hin : ¬ (i < 0 ∨ n ≤ i.toNatClampNeg)) (hq : pc + 1 = q) (k : Wd p l e R s m args below meth c D w0 nL cs sl Q ws lv q (.int (f i.toNatClampNeg) :: st)) : Wd p l e R s m args below meth c D w0 nL cs sl Q ws lv pc (.int i :: .ref a :: st) := by
  subst hq
  exact fun H locs ls hP hD hS hl => va_iald C.1 C.2.1 C.2.2.2.2.2.1 hP q0 t0 ha ht hin hdg (k H locs ls hP hD hS hl)

theorem r_zald (C : Cx p s m args meth c D tys own cc nL Ts rt) {a : Nat} {cA : ClassId} {n : Nat} {f : Nat → Int32} {i : Int32} (hdg : decode cc pc = .ok (.baload, 1)) (q0 t0 : Nat) (ha : ws[q0]? = some (a, .inl (cA, n, .inl f))) (ht : tys[t0]? = some (cA, .boolean)) (hin : ¬ (i < 0 ∨ n ≤ i.toNatClampNeg)) (hq : pc + 1 = q) (k : Wd p l e R s m args below meth c D w0 nL cs sl Q ws lv q (.int (f i.toNatClampNeg) :: st)) : Wd p l e R s m args below meth c D w0 nL cs sl Q ws lv pc (.int i :: .ref a :: st) := by
  subst hq
  exact fun H locs ls hP hD hS hl => va_zald C.1 C.2.1 C.2.2.2.2.2.1 hP q0 t0 ha ht hin hdg (k H locs ls hP hD hS hl)

theorem r_iast (C : Cx p s m args meth c D tys own cc nL Ts rt) {a : Nat} {cA : ClassId} {n : Nat} {f : Nat → Int32} {i x : Int32} {ws' : va_W} (hdg : decode cc pc = .ok (.iastore, 1)) (q0 t0 : Nat) (ha : ws[q0]? = some (a, .inl (cA, n, .inl f))) (ht : tys[t0]? = some (cA, .int)) (hin : ¬ (i < 0 ∨ n ≤ i.toNatClampNeg)) (hws : ws.set q0 (a, .inl (cA, n, .inl (upd f i.toNatClampNeg x))) = ws') (hq : pc + 1 = q) (k : Wd p l e R s m args below meth c D w0 nL cs sl Q ws' lv q st) : Wd p l e R s m args below meth c D w0 nL cs sl Q ws lv pc (.int x :: .int i :: .ref a :: st) := by
  subst hq
  subst hws
  exact fun H locs ls hP hD hS hl => va_iast C.1 C.2.1 C.2.2.2.2.2.1 hP hD hS q0 t0 ha ht hin hdg (fun H1 locs1 hP1 hD1 hS1 => k H1 locs1 ls hP1 hD1 hS1 hl)

theorem r_zast (C : Cx p s m args meth c D tys own cc nL Ts rt) {a : Nat} {cA : ClassId} {n : Nat} {f : Nat → Int32} {i x : Int32} {ws' : va_W} (hdg : decode cc pc = .ok (.bastore, 1)) (q0 t0 : Nat) (ha : ws[q0]? = some (a, .inl (cA, n, .inl f))) (ht : tys[t0]? = some (cA, .boolean)) (hin : ¬ (i < 0 ∨ n ≤ i.toNatClampNeg)) (hws : ws.set q0 (a, .inl (cA, n, .inl (upd f i.toNatClampNeg (vp_nar .boolean x)))) = ws') (hq : pc + 1 = q) (k : Wd p l e R s m args below meth c D w0 nL cs sl Q ws' lv q st) : Wd p l e R s m args below meth c D w0 nL cs sl Q ws lv pc (.int x :: .int i :: .ref a :: st) := by
  subst hq
  subst hws
  exact fun H locs ls hP hD hS hl => va_zast C.1 C.2.1 C.2.2.2.2.2.1 hP hD hS q0 t0 ha ht hin hdg (fun H1 locs1 hP1 hD1 hS1 => k H1 locs1 ls hP1 hD1 hS1 hl)

theorem r_mabs (C : Cx p s m args meth c D tys own cc nL Ts rt) {index : Nat} {x : Int32} (hdg : decode cc pc = .ok (.invokestatic index, 3)) (h1 : Cond.methodLink own index Lib.Math.abs.name ∈ Ts) (h2 : Cond.static Lib.Math.abs.name ∈ Ts) (h3 : Cond.initialized "java/lang/Math" ∈ Ts) (h4 : Cond.code Lib.Math.abs.name Lib.Math.abs.code 1 (some .int) ∈ Ts) (hf : 1 ≤ R.frames) (ho : (st.map fun v => v.category).sum + 13 ≤ R.locals) (hc : cs ≤ R.cells) (hs : sl ≤ R.slots) (hq : pc + 3 = q) (k : Wd p l e R s m args below meth c D w0 nL cs sl Q ws lv q (.int (iabs x) :: st)) : Wd p l e R s m args below meth c D w0 nL cs sl Q ws lv pc (.int x :: st) := by
  subst hq
  exact fun H locs ls hP hD hS hl => va_mabs C.1 C.2.1 (C.2.2.1.trans hl.1.symm) C.2.2.2.1 (C.2.2.2.2.1 _ h1) (C.2.2.2.2.1 _ h2) (C.2.2.2.2.1 _ h3) (C.2.2.2.2.1 _ h4) hf ho hc hs hdg (k H locs ls hP hD hS hl)

theorem r_mmax (C : Cx p s m args meth c D tys own cc nL Ts rt) {index : Nat} {x y : Int32} (hdg : decode cc pc = .ok (.invokestatic index, 3)) (h1 : Cond.methodLink own index Lib.Math.max.name ∈ Ts) (h2 : Cond.static Lib.Math.max.name ∈ Ts) (h3 : Cond.initialized "java/lang/Math" ∈ Ts) (h4 : Cond.code Lib.Math.max.name Lib.Math.max.code 2 (some .int) ∈ Ts) (hf : 1 ≤ R.frames) (ho : (st.map fun v => v.category).sum + 13 ≤ R.locals) (hc : cs ≤ R.cells) (hs : sl ≤ R.slots) (hq : pc + 3 = q) (k : Wd p l e R s m args below meth c D w0 nL cs sl Q ws lv q (.int (imax x y) :: st)) : Wd p l e R s m args below meth c D w0 nL cs sl Q ws lv pc (.int y :: .int x :: st) := by
  subst hq
  exact fun H locs ls hP hD hS hl => va_mmax C.1 C.2.1 (C.2.2.1.trans hl.1.symm) C.2.2.2.1 (C.2.2.2.2.1 _ h1) (C.2.2.2.2.1 _ h2) (C.2.2.2.2.1 _ h3) (C.2.2.2.2.1 _ h4) hf ho hc hs hdg (k H locs ls hP hD hS hl)

theorem r_mmin (C : Cx p s m args meth c D tys own cc nL Ts rt) {index : Nat} {x y : Int32} (hdg : decode cc pc = .ok (.invokestatic index, 3)) (h1 : Cond.methodLink own index Lib.Math.min.name ∈ Ts) (h2 : Cond.static Lib.Math.min.name ∈ Ts) (h3 : Cond.initialized "java/lang/Math" ∈ Ts) (h4 : Cond.code Lib.Math.min.name Lib.Math.min.code 2 (some .int) ∈ Ts) (hf : 1 ≤ R.frames) (ho : (st.map fun v => v.category).sum + 13 ≤ R.locals) (hc : cs ≤ R.cells) (hs : sl ≤ R.slots) (hq : pc + 3 = q) (k : Wd p l e R s m args below meth c D w0 nL cs sl Q ws lv q (.int (imin x y) :: st)) : Wd p l e R s m args below meth c D w0 nL cs sl Q ws lv pc (.int y :: .int x :: st) := by
  subst hq
  exact fun H locs ls hP hD hS hl => va_mmin C.1 C.2.1 (C.2.2.1.trans hl.1.symm) C.2.2.2.1 (C.2.2.2.2.1 _ h1) (C.2.2.2.2.1 _ h2) (C.2.2.2.2.1 _ h3) (C.2.2.2.2.1 _ h4) hf ho hc hs hdg (k H locs ls hP hD hS hl)

theorem r_iret (C : Cx p s m args meth c D tys own cc nL Ts (some .int)) {v : Int32} {w' : va_W} (hdg : decode cc pc = .ok (.ireturn, 1)) (hw : ws = w') : Wd p l e R s m args below meth c D w0 nL cs sl (MQ below (QcI D tys w0 w' v s.heap.size) args s cs sl (va_A w0 s.heap.size)) ws lv pc [.int v] := by
  subst hw
  exact fun H locs ls hP hD hS hl => W.iret C.1 C.2.1 C.2.2.2.2.2.2.1 (fun t ht hW => ⟨⟨v, (), rfl, rfl, by rw [ht]; exact hP, va_K.moved hW.alike C.2.2.2.2.2.1, hD⟩, hS.F ht⟩) hS.2.2 hdg C.2.2.2.2.2.2.2.1
theorem r_zret (C : Cx p s m args meth c D tys own cc nL Ts (some .boolean)) {v : Int32} {w' : va_W} (hdg : decode cc pc = .ok (.ireturn, 1)) (hn : narrow .boolean (.int v) = .int v) (hw : ws = w') : Wd p l e R s m args below meth c D w0 nL cs sl (MQ below (QcI D tys w0 w' v s.heap.size) args s cs sl (va_A w0 s.heap.size)) ws lv pc [.int v] := by
  subst hw
  exact fun H locs ls hP hD hS hl => W.zret C.1 C.2.1 C.2.2.2.2.2.2.1 hn (fun t ht hW => ⟨⟨v, (), rfl, rfl, by rw [ht]; exact hP, va_K.moved hW.alike C.2.2.2.2.2.1, hD⟩, hS.F ht⟩) hS.2.2 hdg C.2.2.2.2.2.2.2.1
theorem r_lret (C : Cx p s m args meth c D tys own cc nL Ts (some .long)) {v : Int64} {w' : va_W} (hdg : decode cc pc = .ok (.lreturn, 1)) (hw : ws = w') : Wd p l e R s m args below meth c D w0 nL cs sl (MQ below (QcL D tys w0 w' v s.heap.size) args s cs sl (va_A w0 s.heap.size)) ws lv pc [.long v] := by
  subst hw
  exact fun H locs ls hP hD hS hl => W.lret C.1 C.2.1 C.2.2.2.2.2.2.1 (fun t ht hW => ⟨⟨v, (), rfl, rfl, by rw [ht]; exact hP, va_K.moved hW.alike C.2.2.2.2.2.1, hD⟩, hS.F ht⟩) hS.2.2 hdg C.2.2.2.2.2.2.2.1
theorem r_vret (C : Cx p s m args meth c D tys own cc nL Ts none) {w' : va_W} (hdg : decode cc pc = .ok (.return_, 1)) (hw : ws = w') : Wd p l e R s m args below meth c D w0 nL cs sl (MQ below (QcV D tys w0 w' s.heap.size) args s cs sl (va_A w0 s.heap.size)) ws lv pc [] := by
  subst hw
  exact fun H locs ls hP hD hS hl => W.vret C.1 C.2.1 C.2.2.2.2.2.2.1 (fun t ht hW => ⟨⟨(), rfl, trivial, by rw [ht]; exact hP, va_K.moved hW.alike C.2.2.2.2.2.1, hD⟩, hS.F ht⟩) hS.2.2 hdg C.2.2.2.2.2.2.2.1
theorem r_aret {nm : String} (C : Cx p s m args meth c D tys own cc nL Ts (some (.object nm))) {a : Nat} {w' : va_W} (hdg : decode cc pc = .ok (.areturn, 1)) (hw : ws = w') : Wd p l e R s m args below meth c D w0 nL cs sl (MQ below (QcR D tys w0 w' a s.heap.size) args s cs sl (va_A w0 s.heap.size)) ws lv pc [.ref a] := by
  subst hw
  exact fun H locs ls hP hD hS hl => W.aret C.1 C.2.1 C.2.2.2.2.2.2.1 (Or.inl ⟨_, rfl⟩) (Or.inr ⟨_, rfl⟩) (fun t ht hW => ⟨⟨(), a, rfl, trivial, rfl, by rw [ht]; exact hP, va_K.moved hW.alike C.2.2.2.2.2.1, hD⟩, hS.F ht⟩) hS.2.2 hdg C.2.2.2.2.2.2.2.1
theorem r_lv {lv' : List (Nat × Value)} (ks : List Nat) (h : lv_pick lv ks = lv') (k : Wd p l e R s m args below meth c D w0 nL cs sl Q ws lv' pc st) : Wd p l e R s m args below meth c D w0 nL cs sl Q ws lv pc st := fun H locs ls hP hD hS hl => k H locs ls hP hD hS (lv_sub hl ks h)

def Rn (p : Program) (l : Launch) (e : Env) (R : Room) (s : State) (m : MethodId) (args : Array Value) (below : List Frame) (meth : Method) (c : Code) (D : va_G) (w0 : va_W) (nL cs sl : Nat) (ws : va_W) (lv : List (Nat × Value)) (pc : Nat) (stk st av : List Value) (wc : va_W) (Qc : Nat → Array Value → State → Outcome → State → Prop) : Prop :=
  ∀ (H : Heap) (locs : List Loc) (ls : Array Slot), va_P D vwCl ws H → va_D (va_A w0 s.heap.size) ws → lv_has ls nL lv → va_Run p l e R s m args below meth c H locs cs sl 0 0 (F0 m pc ls stk) st (Qc H.size av.toArray) (va_A wc H.size)

theorem sub_of_map {ws wc : va_W} {is : List Nat} (h : is.map (fun i => ws[i]?) = wc.map some) : is.filterMap (fun i => ws[i]?) = wc := by
  induction is generalizing wc with
  | nil => cases wc with
    | nil => rfl
    | cons a t => simp at h
  | cons i is ih => cases wc with
    | nil => simp at h
    | cons a t =>
      simp only [List.map_cons, List.cons.injEq] at h
      rw [List.filterMap_cons, h.1]
      simp only [ih h.2]

theorem x_V (C : Cx p s m args meth c D tys own cc nL Ts rt) {y : MethodName} {wy wy' : List Cond} {rmy : Room} {bytes : ByteArray} {maxL n index : Nat} {rty : Option FieldType} {As av : List Value} {wc : va_W} {Qc : Nat → Array Value → State → Outcome → State → Prop} {C1 : String} {b ci N : Nat} {T : u_T} {fs : List Value} (hdg : decode cc pc = .ok (.invokevirtual index, 3)) (hM : CG l D tys y wy rmy av wc Qc) (hav : av = .ref b :: As) (hG : GoodIn Ts (wsV own index C1 y wy)) (hd : y.cls = C1 ∧ y.cls ≠ "java/lang/invoke/MethodHandle" ∧ y.cls ≠ "java/lang/invoke/VarHandle" ∧ (parseMethodDescriptor y.desc).map (fun d => d.parameters.length) = some n) (hwy : wy = Cond.code y bytes maxL rty :: wy') (hR : rmy.frames + 1 ≤ R.frames ∧ 8 + (maxL + 11) + rmy.locals ≤ R.locals) (hz : rmy.cells = 0 ∧ rmy.slots = 0) (hcs : cs + 0 ≤ R.cells ∧ sl + 0 ≤ R.slots) (hn : As.length = n) (isC : List Nat) (hC : isC.map (fun i => ws[i]?) = wc.map some) (hnd : va_nd isC = true) (kr : Nat) (hr : ws[kr]? = some (b, .inr (ci, fs))) (hcl : vwCl[ci]? = some (C1, T, N)) (hcat : (st.map fun v => v.category).sum ≤ 8) {stk : List Value} (hst : stk = As.reverse ++ .ref b :: st) : Rn p l e R s m args below meth c D w0 nL cs sl ws lv pc stk st av wc Qc := by
  subst hav
  intro H locs ls hP hD hl
  exact va_runV (C := C1) (As := As) ⟨C.1, C.2.1, C.2.2.1, C.2.2.2.1, C.2.2.2.2.1⟩ (hM H.size) (cwV n C.2.2.2.2.1 hG hwy hz.1 hz.2 hd hR) ⟨PreW.blind, va_recv C.2.2.2.2.2.1 hP hcl hr, fun U hU hW => ⟨rfl, by rw [hU], by rw [hU]; exact hP.sub isC (sub_of_map hC), va_K.moved hW.alike C.2.2.2.2.2.1, (hD.sub isC hnd hC).weaken (fun _ _ _ _ => trivial), C.2.2.2.2.2.2.2.2.warm hW⟩⟩ rfl hn hl.1 hst (lv_room hcat) hdg hcs

theorem x_S (C : Cx p s m args meth c D tys own cc nL Ts rt) {y : MethodName} {wy wy' : List Cond} {rmy : Room} {bytes : ByteArray} {maxL n index : Nat} {rty : Option FieldType} {As av : List Value} {wc : va_W} {Qc : Nat → Array Value → State → Outcome → State → Prop}  (hdg : decode cc pc = .ok (.invokestatic index, 3)) (hM : CG l D tys y wy rmy av wc Qc) (hav : av = As) (hG : GoodIn Ts (va_wsS own index y wy)) (hd : y.cls ≠ "java/lang/invoke/MethodHandle" ∧ y.cls ≠ "java/lang/invoke/VarHandle" ∧ (parseMethodDescriptor y.desc).map (fun d => d.parameters.length) = some n) (hwy : wy = Cond.code y bytes maxL rty :: wy') (hR : rmy.frames + 1 ≤ R.frames ∧ 8 + (maxL + 11) + rmy.locals ≤ R.locals) (hz : rmy.cells = 0 ∧ rmy.slots = 0) (hcs : cs + 0 ≤ R.cells ∧ sl + 0 ≤ R.slots) (hn : As.length = n) (isC : List Nat) (hC : isC.map (fun i => ws[i]?) = wc.map some) (hnd : va_nd isC = true)  (hcat : (st.map fun v => v.category).sum ≤ 8) {stk : List Value} (hst : stk = As.reverse ++ st) : Rn p l e R s m args below meth c D w0 nL cs sl ws lv pc stk st av wc Qc := by
  subst hav
  intro H locs ls hP hD hl
  exact va_runS (As := av) ⟨C.1, C.2.1, C.2.2.1, C.2.2.2.1, C.2.2.2.2.1⟩ (hM H.size) (va_cwS n C.2.2.2.2.1 hG hwy hz.1 hz.2 hd hR) ⟨PreW.blind, fun U hU hW => ⟨rfl, by rw [hU], by rw [hU]; exact hP.sub isC (sub_of_map hC), va_K.moved hW.alike C.2.2.2.2.2.1, (hD.sub isC hnd hC).weaken (fun _ _ _ _ => trivial), C.2.2.2.2.2.2.2.2.warm hW⟩⟩ rfl hn hl.1 hst (lv_room hcat) hdg hcs

theorem x_SN (C : Cx p s m args meth c D tys own cc nL Ts rt) {y : MethodName} {wy wy' : List Cond} {rmy : Room} {bytes : ByteArray} {maxL n index : Nat} {rty : Option FieldType} {As av : List Value} {wc : va_W} {Qc : Nat → Array Value → State → Outcome → State → Prop} {host : String} (hdg : decode cc pc = .ok (.invokestatic index, 3)) (hM : CG l D tys y wy rmy av wc Qc) (hav : av = As) (hG : GoodIn Ts wy) (h1 : (own, index, y, host) ∈ nxl) (h2 : Cond.static y ∈ Ts) (h3 : Cond.initialized y.cls ∈ Ts) (hd : y.cls ≠ "java/lang/invoke/MethodHandle" ∧ y.cls ≠ "java/lang/invoke/VarHandle" ∧ (parseMethodDescriptor y.desc).map (fun d => d.parameters.length) = some n) (hwy : wy = Cond.code y bytes maxL rty :: wy') (hR : rmy.frames + 1 ≤ R.frames ∧ 8 + (maxL + 11) + rmy.locals ≤ R.locals) (hz : rmy.cells = 0 ∧ rmy.slots = 0) (hcs : cs + 0 ≤ R.cells ∧ sl + 0 ≤ R.slots) (hn : As.length = n) (isC : List Nat) (hC : isC.map (fun i => ws[i]?) = wc.map some) (hnd : va_nd isC = true)  (hcat : (st.map fun v => v.category).sum ≤ 8) {stk : List Value} (hst : stk = As.reverse ++ st) : Rn p l e R s m args below meth c D w0 nL cs sl ws lv pc stk st av wc Qc := by
  subst hav
  intro H locs ls hP hD hl
  exact va_runSN (As := av) ⟨C.1, C.2.1, C.2.2.1, C.2.2.2.1, C.2.2.2.2.1⟩ (hM H.size) ⟨va_cnB n C.2.2.2.2.1 hG hwy hz.1 hz.2 (C.2.2.2.2.2.2.2.2.1 _ h1) (C.2.2.2.2.1 _ h3) hd hR, C.2.2.2.2.1 _ h2, trivial⟩ ⟨PreW.blind, fun U hU hW => ⟨rfl, by rw [hU], by rw [hU]; exact hP.sub isC (sub_of_map hC), va_K.moved hW.alike C.2.2.2.2.2.1, (hD.sub isC hnd hC).weaken (fun _ _ _ _ => trivial), C.2.2.2.2.2.2.2.2.warm hW⟩⟩ rfl hn hl.1 hst (lv_room hcat) hdg hcs

theorem o_I (C : Cx p s m args meth c D tys own cc nL Ts rt) {r : Int32} {av stk : List Value} {wc wc' wn : va_W} (isC : List Nat) (hC : isC.map (fun i => ws[i]?) = wc.map some) (hr : Rn p l e R s m args below meth c D w0 nL cs sl ws lv pc stk st av wc (QcI D tys wc wc' r)) (ha : wc'.map Prod.fst = wc.map Prod.fst) (hwn : cputs ws isC wc' = wn) (hq : pc + 3 = q) (k : Wd p l e R s m args below meth c D w0 nL cs sl Q wn lv q (.int r :: st)) : Wd p l e R s m args below meth c D w0 nL cs sl Q ws lv pc stk := by
  subst hq
  subst hwn
  intro H locs ls hP hD hS hl
  have hFc : ∀ x, va_A wc H.size x → va_A w0 s.heap.size x := va_free hD hS (fun _ h => Or.inr h) isC hC
  refine va_calli (hr H locs ls hP hD hl) hS (fun x _ h => hFc x h) hFc (fun r' u t H1 locs1 ht hvm hw hB hz1 hk1 hS1 => ?_)
  obtain ⟨hP1, -, -⟩ := hB
  have e9 : r' = r := hw
  subst e9
  rw [ht] at hP1
  obtain ⟨hP2, hD2⟩ := cputs_join hP hD isC hC ha hk1 hP1
  exact k H1 locs1 ls hP2 hD2 hS1 hl

theorem o_L (C : Cx p s m args meth c D tys own cc nL Ts rt) {r : Int64} {av stk : List Value} {wc wc' wn : va_W} (isC : List Nat) (hC : isC.map (fun i => ws[i]?) = wc.map some) (hr : Rn p l e R s m args below meth c D w0 nL cs sl ws lv pc stk st av wc (QcL D tys wc wc' r)) (ha : wc'.map Prod.fst = wc.map Prod.fst) (hwn : cputs ws isC wc' = wn) (hq : pc + 3 = q) (k : Wd p l e R s m args below meth c D w0 nL cs sl Q wn lv q (.long r :: st)) : Wd p l e R s m args below meth c D w0 nL cs sl Q ws lv pc stk := by
  subst hq
  subst hwn
  intro H locs ls hP hD hS hl
  have hFc : ∀ x, va_A wc H.size x → va_A w0 s.heap.size x := va_free hD hS (fun _ h => Or.inr h) isC hC
  refine va_calll (hr H locs ls hP hD hl) hS (fun x _ h => hFc x h) hFc (fun r' u t H1 locs1 ht hvm hw hB hz1 hk1 hS1 => ?_)
  obtain ⟨hP1, -, -⟩ := hB
  have e9 : r' = r := hw
  subst e9
  rw [ht] at hP1
  obtain ⟨hP2, hD2⟩ := cputs_join hP hD isC hC ha hk1 hP1
  exact k H1 locs1 ls hP2 hD2 hS1 hl

theorem o_V (C : Cx p s m args meth c D tys own cc nL Ts rt)  {av stk : List Value} {wc wc' wn : va_W} (isC : List Nat) (hC : isC.map (fun i => ws[i]?) = wc.map some) (hr : Rn p l e R s m args below meth c D w0 nL cs sl ws lv pc stk st av wc (QcV D tys wc wc')) (ha : wc'.map Prod.fst = wc.map Prod.fst) (hwn : cputs ws isC wc' = wn) (hq : pc + 3 = q) (k : Wd p l e R s m args below meth c D w0 nL cs sl Q wn lv q st) : Wd p l e R s m args below meth c D w0 nL cs sl Q ws lv pc stk := by
  subst hq
  subst hwn
  intro H locs ls hP hD hS hl
  have hFc : ∀ x, va_A wc H.size x → va_A w0 s.heap.size x := va_free hD hS (fun _ h => Or.inr h) isC hC
  refine va_callv (hr H locs ls hP hD hl) hS (fun x _ h => hFc x h) hFc (fun u t H1 locs1 ht hvm hw hB hz1 hk1 hS1 => ?_)
  obtain ⟨hP1, -, -⟩ := hB
  rw [ht] at hP1
  obtain ⟨hP2, hD2⟩ := cputs_join hP hD isC hC ha hk1 hP1
  exact k H1 locs1 ls hP2 hD2 hS1 hl

theorem o_R (C : Cx p s m args meth c D tys own cc nL Ts rt) {r : Nat} {av stk : List Value} {wc wc' wn : va_W} (isC : List Nat) (hC : isC.map (fun i => ws[i]?) = wc.map some) (hr : Rn p l e R s m args below meth c D w0 nL cs sl ws lv pc stk st av wc (QcR D tys wc wc' r)) (ha : wc'.map Prod.fst = wc.map Prod.fst) (hwn : cputs ws isC wc' = wn) (hq : pc + 3 = q) (k : Wd p l e R s m args below meth c D w0 nL cs sl Q wn lv q (.ref r :: st)) : Wd p l e R s m args below meth c D w0 nL cs sl Q ws lv pc stk := by
  subst hq
  subst hwn
  intro H locs ls hP hD hS hl
  have hFc : ∀ x, va_A wc H.size x → va_A w0 s.heap.size x := va_free hD hS (fun _ h => Or.inr h) isC hC
  refine va_callr (hr H locs ls hP hD hl) hS (fun x _ h => hFc x h) hFc (fun u r' t H1 locs1 ht hvm hw hB hz1 hk1 hS1 => ?_)
  obtain ⟨e9, hP1, -, -⟩ := hB
  subst e9
  rw [ht] at hP1
  obtain ⟨hP2, hD2⟩ := cputs_join hP hD isC hC ha hk1 hP1
  exact k H1 locs1 ls hP2 hD2 hS1 hl

theorem r_gload (C : Cx p s m args meth c D tys own cc nL Ts rt) {a : Nat} {cA : ClassId} {G : Nat → Nat} {i : Int32} (hdg : decode cc pc = .ok (.aaload, 1)) (q0 t0 : Nat) (ha : ws[q0]? = some (a, aG cA G)) (ht : tys[t0]? = some (cA, .array .int)) (hin : ¬ (i < 0 ∨ 9 ≤ i.toNatClampNeg)) (hq : pc + 1 = q) (k : Wd p l e R s m args below meth c D w0 nL cs sl Q ws lv q (.ref (G i.toNatClampNeg) :: st)) : Wd p l e R s m args below meth c D w0 nL cs sl Q ws lv pc (.int i :: .ref a :: st) := by
  subst hq
  intro H locs ls hP hD hS hl
  have hlt : i.toNatClampNeg < 9 := lt_of_g hin
  exact W.aald (v := va_rf (some (G i.toNatClampNeg))) (ty := .array .int) C.1 C.2.1 (hP q0 _ ha) ((C.2.2.2.2.2.1.2 t0 _ ht).1 9 (fun j => va_rf (some (G j)))) rfl (fun q => by cases q) (by show ¬ (i < 0 ∨ (arrV _ _ _).slots.size ≤ _); rw [arrV_size]; exact hin) (by show (arrV _ _ _).slots[_]? = _; rw [arrV_read _ _ hlt]) rfl rfl hdg (k H locs ls hP hD hS hl)

theorem r_giald (C : Cx p s m args meth c D tys own cc nL Ts rt) {cA : ClassId} {G : Nat → Nat} {g : Nat → Nat → Int32} {i a : Int32} (hdg : decode cc pc = .ok (.iaload, 1)) (q0 t0 : Nat) (he : ∀ j : Nat, j < 9 → ws[q0 + j]? = some (G j, aI cA 9 (g j))) (hi : ¬ (i < 0 ∨ 9 ≤ i.toNatClampNeg)) (ht : tys[t0]? = some (cA, .int)) (hin : ¬ (a < 0 ∨ 9 ≤ a.toNatClampNeg)) (hq : pc + 1 = q) (k : Wd p l e R s m args below meth c D w0 nL cs sl Q ws lv q (.int (g i.toNatClampNeg a.toNatClampNeg) :: st)) : Wd p l e R s m args below meth c D w0 nL cs sl Q ws lv pc (.int a :: .ref (G i.toNatClampNeg) :: st) := r_iald C hdg (q0 + i.toNatClampNeg) t0 (he _ (lt_of_g hi)) ht hin hq k

theorem r_giast (C : Cx p s m args meth c D tys own cc nL Ts rt) {cA : ClassId} {G : Nat → Nat} {g : Nat → Nat → Int32} {i a x : Int32} {ws' : va_W} (hdg : decode cc pc = .ok (.iastore, 1)) (q0 t0 : Nat) (he : ∀ j : Nat, j < 9 → ws[q0 + j]? = some (G j, aI cA 9 (g j))) (hi : ¬ (i < 0 ∨ 9 ≤ i.toNatClampNeg)) (ht : tys[t0]? = some (cA, .int)) (hin : ¬ (a < 0 ∨ 9 ≤ a.toNatClampNeg)) (hws : ws.set (q0 + i.toNatClampNeg) (G i.toNatClampNeg, aI cA 9 (upd (g i.toNatClampNeg) a.toNatClampNeg x)) = ws') (hq : pc + 1 = q) (k : Wd p l e R s m args below meth c D w0 nL cs sl Q ws' lv q st) : Wd p l e R s m args below meth c D w0 nL cs sl Q ws lv pc (.int x :: .int a :: .ref (G i.toNatClampNeg) :: st) := r_iast C hdg (q0 + i.toNatClampNeg) t0 (he _ (lt_of_g hi)) ht hin hws hq k

end RW
