/-! ===== an array of arrays of numbers, made by one instruction: my own walk of it ===== -/
def AOI (U : State) : Prop := ∃ (comp c : ClassId) (k : Class), U.vm.findClass "[I" = some comp ∧ U.vm.classes[c]? = some k ∧ k.kind = .array comp (.array .int) ∧ U.vm.findClass "[[I" = some c
theorem AOI.of {A : Array Value} {U : State} (h : (Cond.arrayOver (.array .int)).before A U = true) : AOI U := by
  obtain ⟨comp, c, k, h1, -, h3, h4, h5⟩ := arrayOverA_spec h
  exact ⟨comp, c, k, h1, h3, h4, h5⟩
theorem AOI.moved {u U : State} (hvm : u.vm.Alike U.vm) (h : AOI u) : AOI U := by
  obtain ⟨comp, c, k, h1, h3, h4, h5⟩ := h
  obtain ⟨k', hk', he⟩ := hvm.2.2 _ _ h3
  exact ⟨comp, c, k', by rw [hvm.findClass]; exact h1, hk', by rw [he]; exact h4, by rw [hvm.findClass]; exact h5⟩
section MULTI
variable {p : Program} {l : Launch} {e : Env} {R : Room} {s : State} {m : MethodId} {args : Array Value} {below : List Frame} {meth : Method} {c : Code}
/-- so far: i inner arrays of 149 stand behind the outer one of 8, at its place -/
def MJ (p : Program) (l : Launch) (e : Env) (R : Room) (s : State) (m : MethodId) (args : Array Value) (below : List Frame) (meth : Method) (c : Code) (H : Heap) (locs : List Loc) (cells slots : Nat) (cO cI : ClassId) (V : Vm) (i : Nat) (U : State) : Prop :=
  (∃ L, (∀ x ∈ L, x ∈ locs ∨ x.base = H.size) ∧ Stand p l e R s m args below meth c U L (cells + 1 + i) (slots + 8 + i * 149)) ∧ U.heap.size = H.size + 1 + i ∧ U.heap[H.size]? = some (arrV cO 8 (fun k => if k < i then .ref (H.size + 1 + k) else .null)) ∧ (∀ k, k < i → U.heap[H.size + 1 + k]? = some (arrV cI 149 (fun _ => .int 0))) ∧ (∀ q, q < H.size → U.heap[q]? = H[q]?) ∧ U.vm = V
variable {H : Heap} {locs : List Loc} {cells slots : Nat} {cO cI cX : ClassId} {V : Vm} {kO kI : Class}
theorem MJ.st {i : Nat} {U : State} (J : MJ p l e R s m args below meth c H locs cells slots cO cI V i U) : ∃ L, (∀ x ∈ L, x ∈ locs ∨ x.base = H.size) ∧ Stand p l e R s m args below meth c U L (cells + 1 + i) (slots + 8 + i * 149) := J.1
theorem MJ.size {i : Nat} {U : State} (J : MJ p l e R s m args below meth c H locs cells slots cO cI V i U) : U.heap.size = H.size + 1 + i := J.2.1
theorem MJ.outer {i : Nat} {U : State} (J : MJ p l e R s m args below meth c H locs cells slots cO cI V i U) : U.heap[H.size]? = some (arrV cO 8 (fun k => if k < i then .ref (H.size + 1 + k) else .null)) := J.2.2.1
theorem MJ.inner {i : Nat} {U : State} (J : MJ p l e R s m args below meth c H locs cells slots cO cI V i U) : ∀ k, k < i → U.heap[H.size + 1 + k]? = some (arrV cI 149 (fun _ => .int 0)) := J.2.2.2.1
theorem MJ.old {i : Nat} {U : State} (J : MJ p l e R s m args below meth c H locs cells slots cO cI V i U) : ∀ q, q < H.size → U.heap[q]? = H[q]? := J.2.2.2.2.1
theorem MJ.vm {i : Nat} {U : State} (J : MJ p l e R s m args below meth c H locs cells slots cO cI V i U) : U.vm = V := J.2.2.2.2.2
theorem MJ.next {i : Nat} {U : State} (J : MJ p l e R s m args below meth c H locs cells slots cO cI V i U) :
    MJ p l e R s m args below meth c H locs cells slots cO cI V (i + 1) ((U.pushCell (arrV cI 149 (fun _ => .int 0))).setCell H.size ((arrV cO 8 (fun k => if k < i then .ref (H.size + 1 + k) else .null)).setSlot i (.ref U.heap.size))) := by
  obtain ⟨L, hL, X⟩ := J.st
  have h1 : (U.pushCell (arrV cI 149 (fun _ => .int 0))).heap[H.size]? = some (arrV cO 8 (fun k => if k < i then .ref (H.size + 1 + k) else .null)) := by
    exact (State.heap_pushCell_of_lt _ _ (show H.size < U.heap.size by rw [J.size]; omega)).trans J.outer
  have hsz : (U.pushCell (arrV cI 149 (fun _ => .int 0))).heap.size = H.size + 1 + (i + 1) := by
    show (U.heap.push _).size = _
    rw [Array.size_push, J.size]; omega
  have X1 := (X.pushed (arrV cI 149 (fun _ => .int 0))).stored h1 i (.ref U.heap.size)
  refine ⟨⟨L ++ [⟨H.size, i⟩], ?_, ?_⟩, ?_, ?_, ?_, ?_, J.vm⟩
  · intro x hx
    rcases List.mem_append.mp hx with hx | hx
    · exact hL x hx
    · rw [List.mem_singleton.mp hx]; exact Or.inr rfl
  · rw [arrV_size] at X1
    rw [show slots + 8 + (i + 1) * 149 = slots + 8 + i * 149 + 149 by omega]
    exact X1
  · show ((U.heap.push _).setIfInBounds _ _).size = _
    rw [Array.size_setIfInBounds]; exact hsz
  · rw [State.heap_setCell_self h1, arrV_store]
    refine congrArg some (congrArg (arrV cO 8) (funext fun k => ?_))
    unfold updV
    by_cases hk : k = i
    · subst hk; rw [if_pos rfl, if_pos (by omega), J.size]
    · rw [if_neg hk]
      show (if k < i then Value.ref (H.size + 1 + k) else Value.null) = _
      by_cases hl : k < i
      · rw [if_pos hl, if_pos (by omega)]
      · rw [if_neg hl, if_neg (by omega)]
  · intro k hk
    rw [State.heap_setCell_other (show H.size ≠ H.size + 1 + k by omega)]
    by_cases hl : k < i
    · exact (State.heap_pushCell_of_lt _ _ (show H.size + 1 + k < U.heap.size by rw [J.size]; omega)).trans (J.inner k hl)
    · have : k = i := by omega
      subst this
      rw [← J.size]
      exact State.heap_pushCell_size _ _
  · intro q hq
    rw [State.heap_setCell_other (show H.size ≠ q by omega)]
    exact (State.heap_pushCell_of_lt _ _ (show q < U.heap.size by rw [J.size]; omega)).trans (J.old q hq)
/-- the state with i inner arrays -/
def mU (T : State) (cO cI : ClassId) : Nat → State
  | 0 => T.pushCell (arrV cO 8 (fun _ => .null))
  | i + 1 => ((mU T cO cI i).pushCell (arrV cI 149 (fun _ => .int 0))).setCell T.heap.size ((arrV cO 8 (fun k => if k < i then .ref (T.heap.size + 1 + k) else .null)).setSlot i (.ref (mU T cO cI i).heap.size))
theorem mU_J {T : State} (X : Stand p l e R s m args below meth c T locs cells slots) : ∀ i, MJ p l e R s m args below meth c T.heap locs cells slots cO cI T.vm i (mU T cO cI i)
  | 0 => by
    refine ⟨⟨locs, fun x hx => Or.inl hx, ?_⟩, ?_, ?_, ?_, ?_, rfl⟩
    · have X1 := X.pushed (arrV cO 8 (fun _ => .null))
      rw [arrV_size] at X1
      exact X1
    · show (T.heap.push _).size = _; rw [Array.size_push]
    · exact (State.heap_pushCell_size _ _)
    · intro k hk; exact absurd hk (Nat.not_lt_zero _)
    · intro q hq; exact State.heap_pushCell_of_lt _ _ hq
  | i + 1 => MJ.next (mU_J X i)
theorem ma_make {E0 : CtlPost} {d : Bool} {acts : List Action} {T : State} {g1 : JFrame} {Qp : Addr → Pre} (X : Stand p l e R s m args below meth c T locs cells slots) (hO : T.vm.classes[cO]? = some kO) (kdO : kO.kind = .array cI (.array .int)) (hI : T.vm.classes[cI]? = some kI) (kdI : kI.kind = .array cX .int)
    (hc : cells + 9 ≤ R.cells) (hs : slots + 1200 ≤ R.slots)
    (kk : ∀ (d : Bool) (acts : List Action), Qp T.heap.size d acts ((mU T cO cI 8).setTop g1)) : wp (Jvm.Op.multianewarray.make cO [8, 149]) Qp E0 e d acts (T.setTop g1) := by
  have r0 := X.roomAbove (a := 1) (b := 8) (by omega) (by omega)
  have lim : ¬ 149 > e.platform.arrayLengthLimit := by rw [Launch.admits_arrayLengthLimit X.admits]; decide
  have lim8 : ¬ 8 > e.platform.arrayLengthLimit := by omega
  have hpO : ¬ 8 * componentBytes (.array .int) > e.platform.maxHeapBytes := by rw [Launch.admits_maxHeapBytes X.admits]; decide
  have hpI : ¬ 149 * componentBytes .int > e.platform.maxHeapBytes := by rw [Launch.admits_maxHeapBytes X.admits]; decide
  rw [Jvm.Op.multianewarray.make]
  simp only [wp_bind', W.ite, show ¬ ((8 : Int32) < 0) from by decide, if_false, wp_pure', W.theClass, State.vm_setTop, hO, kdO, Option.some.injEq, exists_eq_left']
  refine W.newArray_of (k := kO) (comp := cI) (type := .array .int) hO kdO lim8 hpO (by have := r0.1; simpa using (show T.heap.size < e.platform.maxCells by omega)) (by simpa using r0.2) rfl (fun acts1 => ?_)
  simp only [show ((8 : Int32) == 0) = false from rfl, Bool.false_eq_true, W.ite, if_false, wp_pure', wp_bind', Std.Legacy.Range.forIn_eq_forIn_range']
  refine wp_forIn_inv (fun rest S => ∃ i, i + rest.length = 8 ∧ rest = List.range' i rest.length ∧ S = (mU T cO cI i).setTop g1) _ _ ⟨0, by decide, by decide, ?_⟩ ?_ ?_
  · rw [arrV_new]; rfl
  · rintro x rest S d1 acts2 Q' ⟨i, hi, hr, rfl⟩ hnext
    have J := mU_J (cO := cO) (cI := cI) X i
    have hlen : (x :: rest).length = rest.length + 1 := rfl
    rw [hlen] at hi hr
    rw [List.range'_succ] at hr
    obtain ⟨rfl, hrest⟩ := List.cons.inj hr
    obtain ⟨L, hL, XU⟩ := J.st
    have r1 := XU.roomAbove (a := 1) (b := 149) (by omega) (by omega)
    have hI' : (mU T cO cI x).vm.classes[cI]? = some kI := by rw [J.vm]; exact hI
    have hO' : (mU T cO cI x).vm.classes[cO]? = some kO := by rw [J.vm]; exact hO
    rw [wp_bind', Jvm.Op.multianewarray.make]
    simp only [wp_bind', W.ite, show ¬ ((149 : Int32) < 0) from by decide, if_false, wp_pure', W.theClass, State.vm_setTop, hI', kdI, Option.some.injEq, exists_eq_left']
    refine W.newArray_of (k := kI) (comp := cX) (type := .int) hI' kdI lim hpI (by simpa using (show (mU T cO cI x).heap.size < e.platform.maxCells by have := r1.1; omega)) (by simpa using r1.2) rfl (fun acts3 => ?_)
    have h1 : ((mU T cO cI x).pushCell (arrV cI 149 (fun _ => .int 0))).heap[T.heap.size]? = some (arrV cO 8 (fun k => if k < x then .ref (T.heap.size + 1 + k) else .null)) := by
      exact (State.heap_pushCell_of_lt _ _ (show T.heap.size < (mU T cO cI x).heap.size by rw [J.size]; omega)).trans J.outer
    simp only [wp_bind', W.writeLoc, wp_pure']
    refine ⟨arrV cO 8 (fun k => if k < x then .ref (T.heap.size + 1 + k) else .null), ?_, (fun h => by cases h), by rw [arrV_size]; omega, ?_, hnext _ _ _ ⟨x + 1, by omega, hrest, ?_⟩⟩
    · rw [← h1, ← arrV_new]; rfl
    · show State.fitsSlot _ cO .none x _ = true
      simp [State.fitsSlot, State.slotType?, hO', kdO, fits]
    · rw [arrV_new]; rfl
  · rintro S d1 acts2 ⟨i, hi, -, rfl⟩
    have : i = 8 := by simpa using hi
    subst this
    exact kk _ _
theorem ma_W {cc : ByteArray} {Q : State → Prop} (hexec : p.tables.exec = Jvm.exec) (hb : c.code = cc) {own : String} {index : Nat} (hown : s.vm.findClass own = some m.cls) (hclink : (Cond.classLink own index "[[I").before args s = true) (fO : s.vm.findClass "[[I" = some cO) (hO : s.vm.classes[cO]? = some kO) (kdO : kO.kind = .array cI (.array .int)) (hI : s.vm.classes[cI]? = some kI) (kdI : kI.kind = .array cX .int)
    {g : JFrame} (hg : g.method = m) (hdg : decode cc g.pc = .ok (.multianewarray index 2, 4)) {rest : List Value} (hstack : g.stack = .int 149 :: .int 8 :: rest) (hc : cells + 9 ≤ R.cells) (hs : slots + 1200 ≤ R.slots)
    (kk : ∀ (H1 : Heap) (L : List Loc), (∀ x ∈ L, x ∈ locs ∨ x.base = H.size) → H1.size = H.size + 9 → H1[H.size]? = some (arrV cO 8 (fun k => if k < 8 then .ref (H.size + 1 + k) else .null)) → (∀ k, k < 8 → H1[H.size + 1 + k]? = some (arrV cI 149 (fun _ => .int 0))) → (∀ q, q < H.size → H1[q]? = H[q]?) →
      W p l e R s m args below meth c H1 L (cells + 9) (slots + 1200) Q { g with pc := g.pc + 4, stack := .ref H.size :: rest }) : W p l e R s m args below meth c H locs cells slots Q g := by
  intro T hT X
  subst hT; subst hb; subst hg
  have hpl : e.platform.magicAccessors = ({} : Platform).magicAccessors := by rw [X.admits.platform]
  obtain ⟨cc', hfcc, hcl⟩ := Cond.classLink_spec hown hclink e.platform hpl
  cases fO.symm.trans hfcc
  obtain ⟨hg₁, hwarm₁, hready₁⟩ := State.classEntry (e := e) X.warmed hcl
  generalize T.vm.noted g.method.cls index (.cls cO) = vm₁ at hg₁ hwarm₁ hready₁
  have hal : s.vm.Alike vm₁ := hwarm₁.alike
  obtain ⟨kO₁, hkO₁, heO⟩ := hal.2.2 _ _ hO
  obtain ⟨kI₁, hkI₁, heI⟩ := hal.2.2 _ _ hI
  have kdO₁ : kO₁.kind = .array cI (.array .int) := by rw [heO]; exact kdO
  have kdI₁ : kI₁.kind = .array cX .int := by rw [heI]; exact kdI
  have X₁ := X.noted hwarm₁
  have J := mU_J (cO := cO) (cI := cI) X₁ 8
  obtain ⟨L, hL, X₂⟩ := J.st
  obtain ⟨t', a1, b1⟩ := kk (mU (T.setVm vm₁) cO cI 8).heap L hL J.size J.outer J.inner J.old (mU (T.setVm vm₁) cO cI 8) rfl X₂
  refine ⟨t', ?_, b1⟩
  jvm_step X.here [hexec, hdg]
  rw [Jvm.Op.multianewarray.sem, wp_bind', W.resolveClassAt_links (State.method?_setTop g X.here.top) hg₁]
  rw [show (T.setTop g).setVm vm₁ = (T.setVm vm₁).setTop g from rfl, wp_bind']
  refine (Jvm.Op.popN_top (s := T.setVm vm₁) (f := g) (args := [.int 8, .int 149]) (rest := rest) X.here.top hstack).mpr ?_
  simp only [List.mapM_cons, List.mapM_nil, wp_bind', wp_pure']
  refine ma_make X₁ hkO₁ kdO₁ hkI₁ kdI₁ hc hs (fun d1 acts1 => ?_)
  simp only [W.mark, W.pushRef, wp_bind', wp_pure']
  refine ⟨_, State.topJava?_setTop' _ X₂.here.top, fun acts2 => ?_⟩
  rw [State.setTop_setTop, afterInstr_ok]
  exact a1
end MULTI
