/-! ===== the law's own walk: the world, cells of the law's own beside it, the room that is taken ===== -/
def WX (E : ZE) (xs : va_W) (M : Mem) (H : Heap) : Prop := va_P (zD E) vwCl (zws E M ++ xs) H ∧ va_D (zA E) (zws E M ++ xs)
/-- the same cells for a callee that must leave xs alone -/
def cutX (E : ZE) (xs : va_W) : ZE := (E.1, E.2.1, E.2.2.1, fun q => zA E q ∧ ∀ x ∈ xs, q ≠ x.1, E.2.2.2.2)
theorem cutX_ws (E : ZE) (xs : va_W) (M : Mem) : zws (cutX E xs) M = zws E M := rfl
theorem cutX_A {E : ZE} {xs : va_W} {q : Nat} (h : zA (cutX E xs) q) : zA E q := h.1
theorem WX.wd {E : ZE} {xs : va_W} {M : Mem} {H : Heap} (h : WX E xs M H) : Wd E M H := by
  refine ⟨fun k q hk => h.1 k q ?_, ⟨fun i j p q hi hj e => h.2.1 i j p q ?_ ?_ e, fun k q hk => h.2.2 k q ?_⟩⟩ <;>
  · rw [List.getElem?_append_left (List.getElem?_eq_some_iff.mp (by assumption)).1]
    assumption
theorem WX.of {E : ZE} {M : Mem} {H : Heap} (h : Wd E M H) : WX E [] M H := by
  unfold WX
  rw [List.append_nil]
  exact h
theorem WX.cut {E : ZE} {xs : va_W} {M : Mem} {H : Heap} (h : WX E xs M H) : Wd (cutX E xs) M H := by
  refine ⟨h.wd.1, h.wd.2.1, fun k q hk => ⟨h.wd.2.2 k q hk, fun x hx e => ?_⟩⟩
  obtain ⟨i, hi⟩ := List.getElem?_of_mem hx
  have hk : (zws E M)[k]? = some q := hk
  have hk' : (zws E M ++ xs)[k]? = some q := by rw [List.getElem?_append_left (List.getElem?_eq_some_iff.mp hk).1]; exact hk
  have hi' : (zws E M ++ xs)[(zws E M).length + i]? = some x := by rw [List.getElem?_append_right (Nat.le_add_right _ _), Nat.add_sub_cancel_left]; exact hi
  have := h.2.1 _ _ _ _ hk' hi' e
  have := (List.getElem?_eq_some_iff.mp hk).1
  have : (zws (cutX E xs) M).length = (zws E M).length := rfl
  omega
/-- behind a call: the callee's world and the law's own cells -/
theorem WX.back {E : ZE} {xs : va_W} {M M' : Mem} {H H1 : Heap} (h : WX E xs M H) (hW : Wd (cutX E xs) M' H1) (hk : ∀ q : Nat, q < H.size → ¬ zA (cutX E xs) q → H1[q]? = H[q]?) : WX E xs M' H1 := by
  have hl : ∀ N : Mem, (zws E N).length = zL.length := fun N => by unfold zws; exact List.length_map ..
  have hx : ∀ (i : Nat) (x : Nat × va_E), xs[i]? = some x → (zws E M ++ xs)[zL.length + i]? = some x := fun i x hi => by
    rw [List.getElem?_append_right (by rw [hl]; exact Nat.le_add_right _ _), hl, Nat.add_sub_cancel_left]; exact hi
  have key : ∀ (k : Nat) (q : Nat × va_E), (zws E M' ++ xs)[k]? = some q → (zws (cutX E xs) M')[k]? = some q ∨ ∃ i, k = zL.length + i ∧ xs[i]? = some q := fun k q hq => by
    by_cases hk : k < zL.length
    · rw [List.getElem?_append_left (by rw [hl]; exact hk)] at hq
      exact Or.inl hq
    · rw [List.getElem?_append_right (by rw [hl]; omega), hl] at hq
      exact Or.inr ⟨k - zL.length, by omega, hq⟩
  have hne : ∀ (k i : Nat) (p x : Nat × va_E), (zws (cutX E xs) M')[k]? = some p → xs[i]? = some x → p.1 ≠ x.1 := fun k i p x hp hx' => (hW.2.2 k p hp).2 x (List.mem_of_getElem? hx')
  refine ⟨fun k q hq => ?_, fun i j p q hp hq e => ?_, fun k q hq => ?_⟩
  · rcases key k q hq with h1 | ⟨i, -, h1⟩
    · exact hW.1 k q h1
    · have h2 := h.1 _ _ (hx i q h1)
      refine h2.kept (hk _ h2.lt (fun hA => hA.2 q (List.mem_of_getElem? h1) rfl))
  · rcases key i p hp with h1 | ⟨a, ea, h1⟩
    · rcases key j q hq with h2 | ⟨b, eb, h2⟩
      · exact hW.2.1 i j p q h1 h2 e
      · exact absurd e (hne _ _ _ _ h1 h2)
    · rcases key j q hq with h2 | ⟨b, eb, h2⟩
      · exact absurd e.symm (hne _ _ _ _ h2 h1)
      · have := h.2.1 _ _ _ _ (hx a p h1) (hx b q h2) e
        omega
  · rcases key k q hq with h1 | ⟨i, -, h1⟩
    · exact (hW.2.2 k q h1).1
    · exact h.2.2 _ _ (hx i q h1)
theorem Sx.cut {E : ZE} {xs : va_W} {U : State} {H : Heap} (h : Sx E U H) : Sx (cutX E xs) U H := ⟨fun i hi => (h.1 i hi).narrow (fun _ q => q.1), h.2.1.narrow (fun _ q => q.1), h.2.2.1.narrow (fun _ q => q.1), h.2.2.2.1.narrow (fun _ q => q.1), h.2.2.2.2.narrow (fun _ q => q.1)⟩
def ZX (g : ZG) (E : ZE) (kc kn : Nat) (xs : va_W) (M : Mem) (lv : List (Nat × Value)) (pc : Nat) (st : List Value) : Prop :=
  ∀ (H : Heap) (locs : List Loc) (ls : Array Slot), WX E xs M H → va_S (zA E) (gs g).heap H locs → lv_has ls (gc g).maxLocals lv → W (gp g) (zl E) (ge g) (gR g) (gs g) (gm g) (ga g) (gb g) (gM g) (gc g) H locs kc kn (gQ g) (F0 (gm g) pc ls st)
def Cx (g : ZG) (E : ZE) (own : String) (cc : ByteArray) (nL : Nat) (rm : Room) : Prop := Cb g E own cc nL rm ∧ ∀ x : Nat, (gs g).heap.size ≤ x → zA E x
def Rx (g : ZG) (E : ZE) (ret : Option FieldType) (Post : Option Value → Mem → Prop) (mc ms : Nat) : Prop :=
  (gM g).sig.returnType = ret ∧ (gM g).locks = false ∧ gQ g = MQ (gb g) (zQ E Post) (ga g) (gs g) mc ms (zA E)
/-- a contract of the law's own methods: what is new lies in the free part; Pr: what more it needs of the state -/
def MtX (E : ZE) (y : MethodName) (cc : ByteArray) (nL : Nat) (ret : Option FieldType) (rm : Room) (args : List Value) (M : Mem) (Pr : State → Prop) (Post : Option Value → Mem → Prop) (mc ms : Nat) : Prop :=
  Met (zl E) y (.code y cc nL ret :: wsL_law) rm (va_Pc args (fun U => zPre E M U ∧ (∀ x : Nat, U.heap.size ≤ x → zA E x) ∧ Pr U)) (zQ E Post) mc ms (zA E)
def PL (v : Int64) (M1 : Mem) : Option Value → Mem → Prop := fun r M' => r = some (.long v) ∧ M' = M1
theorem x_met {E : ZE} {y : MethodName} {cc : ByteArray} {nL : Nat} {ret : Option FieldType} {rm : Room} {args : List Value} {M : Mem} {Pr : State → Prop} {Post : Option Value → Mem → Prop} {mc ms : Nat} {own : String} {lv : List (Nat × Value)}
    (hy : plainName y.cls = true) (hown : y.cls = own) (hn : (lg_sl args).length ≤ nL) (hlv : lv_args 0 args = lv)
    (body : ∀ g : ZG, Cx g E own cc nL rm → Pr (gs g) → Rx g E ret Post mc ms → ZX g E 0 0 [] M lv 0 []) : MtX E y cc nL ret rm args M Pr Post mc ms := by
  refine Met.ofW (cc := cc) (maxL := nL) (ret := ret) hy rfl ?_
  intro p e s m args' below meth c s₁ B hml hv
  obtain ⟨rfl, ⟨hW, hK, hSx⟩, hA, hPr⟩ := hv
  have hts := atoms_spec (ws := Cond.code y cc nL ret :: wsL_law) B.pre
  have hown' : s.vm.findClass own = some m.cls := by rw [← hown]; exact findClass_of_methodNamed B.named
  have hl := lv_entry args (n := nL) hn
  rw [lg_entry_eq]
  generalize (lg_sl args ++ List.replicate (nL - (lg_sl args).length) Slot.unset).toArray = ls at hl ⊢
  subst hlv
  exact body (p, e, (headSpec (Cond.code y cc nL ret :: wsL_law) rm).room, s, m, args.toArray, below, meth, c, MQ below (zQ E Post) args.toArray s mc ms (zA E)) ⟨⟨B.exec, B.bytes, hml, hown', fun w hw => hts w (List.mem_cons_of_mem _ hw), hK, rfl, hSx⟩, hA⟩ hPr ⟨B.returns, B.notSynchronized, rfl⟩ s.heap [] ls (WX.of hW) va_S.rf (by rw [show (gc (p, e, (headSpec (Cond.code y cc nL ret :: wsL_law) rm).room, s, m, args.toArray, below, meth, c, MQ below (zQ E Post) args.toArray s mc ms (zA E))).maxLocals = nL from hml]; exact hl)
section ZXR
variable {g : ZG} {E : ZE} {own : String} {cc : ByteArray} {nL : Nat} {rm : Room} {kc kn : Nat} {xs : va_W} {M : Mem} {lv : List (Nat × Value)} {pc : Nat} {st : List Value}
theorem x_mem {M' : Mem} (h : M = M') (k : ZX g E kc kn xs M' lv pc st) : ZX g E kc kn xs M lv pc st := h ▸ k
theorem x_eq {lv' : List (Nat × Value)} {st' : List Value} (h1 : lv = lv') (h2 : st = st') (k : ZX g E kc kn xs M lv' pc st') : ZX g E kc kn xs M lv pc st := h1 ▸ h2 ▸ k
theorem x_sub {lv' : List (Nat × Value)} (ks : List Nat) (h : lv_pick lv ks = lv') (k : ZX g E kc kn xs M lv' pc st) : ZX g E kc kn xs M lv pc st := fun H locs ls hW hS hl => k H locs ls hW hS (lv_sub hl ks h)
theorem x_top {x y : Int32} (h : x = y) (k : ZX g E kc kn xs M lv pc (.int y :: st)) : ZX g E kc kn xs M lv pc (.int x :: st) := h ▸ k
theorem x_gen {P : Mem → Prop} (h : P M) (k : ∀ M1, P M1 → ZX g E kc kn xs M1 lv pc st) : ZX g E kc kn xs M lv pc st := k M h
theorem x_widen {kc' kn' : Nat} (h1 : kc ≤ kc') (h2 : kn ≤ kn') (k : ZX g E kc' kn' xs M lv pc st) : ZX g E kc kn xs M lv pc st := fun H locs ls hW hS hl => W.widen h1 h2 (k H locs ls hW hS hl)
theorem x_drop (k : ZX g E kc kn [] M lv pc st) : ZX g E kc kn xs M lv pc st := fun H locs ls hW hS hl => k H locs ls (WX.of hW.wd) hS hl
theorem x_iconst (X : Cx g E own cc nL rm) {n : Int} {v : Int32} (hd : decode cc pc = .ok (.iconst n, 1)) (hv : Int32.ofInt n = v) (k : ZX g E kc kn xs M lv (pc + 1) (.int v :: st)) : ZX g E kc kn xs M lv pc st := fun H locs ls hW hS hl => lv_iconst X.1.1 X.1.2.1 hd hv (k H locs ls hW hS hl)
theorem x_bipush (X : Cx g E own cc nL rm) {n : Int} {v : Int32} (hd : decode cc pc = .ok (.bipush n, 2)) (hv : (Int8.ofInt n).toInt32 = v) (k : ZX g E kc kn xs M lv (pc + 2) (.int v :: st)) : ZX g E kc kn xs M lv pc st := fun H locs ls hW hS hl => lv_bipush X.1.1 X.1.2.1 hd hv (k H locs ls hW hS hl)
theorem x_sipush (X : Cx g E own cc nL rm) {n : Int} {v : Int32} (hd : decode cc pc = .ok (.sipush n, 3)) (hv : (Int16.ofInt n).toInt32 = v) (k : ZX g E kc kn xs M lv (pc + 3) (.int v :: st)) : ZX g E kc kn xs M lv pc st := fun H locs ls hW hS hl => lv_sipush X.1.1 X.1.2.1 hd hv (k H locs ls hW hS hl)
theorem x_iload_n (X : Cx g E own cc nL rm) {j : Fin 4} {i : Nat} {x : Int32} (q : Nat) (hd : decode cc pc = .ok (.iload_n j, 1)) (hi : (j : Nat) = i) (hq : lv[q]? = some (i, .int x)) (k : ZX g E kc kn xs M lv (pc + 1) (.int x :: st)) : ZX g E kc kn xs M lv pc st := fun H locs ls hW hS hl => lv_iload_n X.1.1 X.1.2.1 hd hi (lv_at hl q hq) (k H locs ls hW hS hl)
theorem x_iload (X : Cx g E own cc nL rm) {i : Nat} {x : Int32} (q : Nat) (hd : decode cc pc = .ok (.iload i, 2)) (hq : lv[q]? = some (i, .int x)) (k : ZX g E kc kn xs M lv (pc + 2) (.int x :: st)) : ZX g E kc kn xs M lv pc st := fun H locs ls hW hS hl => lv_iload X.1.1 X.1.2.1 hd (lv_at hl q hq) (k H locs ls hW hS hl)
theorem x_aload_n (X : Cx g E own cc nL rm) {j : Fin 4} {i : Nat} {x : Nat} (q : Nat) (hd : decode cc pc = .ok (.aload_n j, 1)) (hi : (j : Nat) = i) (hq : lv[q]? = some (i, .ref x)) (k : ZX g E kc kn xs M lv (pc + 1) (.ref x :: st)) : ZX g E kc kn xs M lv pc st := fun H locs ls hW hS hl => lv_aload_n X.1.1 X.1.2.1 hd hi (lv_at hl q hq) (k H locs ls hW hS hl)
theorem x_aload (X : Cx g E own cc nL rm) {i : Nat} {x : Nat} (q : Nat) (hd : decode cc pc = .ok (.aload i, 2)) (hq : lv[q]? = some (i, .ref x)) (k : ZX g E kc kn xs M lv (pc + 2) (.ref x :: st)) : ZX g E kc kn xs M lv pc st := fun H locs ls hW hS hl => lv_aload X.1.1 X.1.2.1 hd (lv_at hl q hq) (k H locs ls hW hS hl)
theorem x_istore_n (X : Cx g E own cc nL rm) {j : Fin 4} {i : Nat} {x : Int32} {lv1 : List (Nat × Value)} (hd : decode cc pc = .ok (.istore_n j, 1)) (hi : (j : Nat) = i) (hn : i < nL) (hq : (i, Value.int x) :: lv.filter (fun q => !(q.1 == i) && !(q.1 + 1 == i && q.2.category == 2)) = lv1) (k : ZX g E kc kn xs M lv1 (pc + 1) st) : ZX g E kc kn xs M lv pc (.int x :: st) := fun H locs ls hW hS hl => lv_istore_n X.1.1 X.1.2.1 hd hi hl (by rw [X.1.2.2.1]; exact hn) hq (fun ls' hl' => k H locs ls' hW hS hl')
theorem x_istore (X : Cx g E own cc nL rm) {i : Nat} {x : Int32} {lv1 : List (Nat × Value)} (hd : decode cc pc = .ok (.istore i, 2)) (hn : i < nL) (hq : (i, Value.int x) :: lv.filter (fun q => !(q.1 == i) && !(q.1 + 1 == i && q.2.category == 2)) = lv1) (k : ZX g E kc kn xs M lv1 (pc + 2) st) : ZX g E kc kn xs M lv pc (.int x :: st) := fun H locs ls hW hS hl => lv_istore X.1.1 X.1.2.1 hd hl (by rw [X.1.2.2.1]; exact hn) hq (fun ls' hl' => k H locs ls' hW hS hl')
theorem x_astore_n (X : Cx g E own cc nL rm) {j : Fin 4} {i : Nat} {x : Nat} {lv1 : List (Nat × Value)} (hd : decode cc pc = .ok (.astore_n j, 1)) (hi : (j : Nat) = i) (hn : i < nL) (hq : (i, Value.ref x) :: lv.filter (fun q => !(q.1 == i) && !(q.1 + 1 == i && q.2.category == 2)) = lv1) (k : ZX g E kc kn xs M lv1 (pc + 1) st) : ZX g E kc kn xs M lv pc (.ref x :: st) := fun H locs ls hW hS hl => lv_astore_n X.1.1 X.1.2.1 hd hi hl (by rw [X.1.2.2.1]; exact hn) hq (fun ls' hl' => k H locs ls' hW hS hl')
theorem x_astore (X : Cx g E own cc nL rm) {i : Nat} {x : Nat} {lv1 : List (Nat × Value)} (hd : decode cc pc = .ok (.astore i, 2)) (hn : i < nL) (hq : (i, Value.ref x) :: lv.filter (fun q => !(q.1 == i) && !(q.1 + 1 == i && q.2.category == 2)) = lv1) (k : ZX g E kc kn xs M lv1 (pc + 2) st) : ZX g E kc kn xs M lv pc (.ref x :: st) := fun H locs ls hW hS hl => lv_astore X.1.1 X.1.2.1 hd hl (by rw [X.1.2.2.1]; exact hn) hq (fun ls' hl' => k H locs ls' hW hS hl')
theorem x_iinc (X : Cx g E own cc nL rm) {i : Nat} {n : Int} {x v : Int32} {lv1 : List (Nat × Value)} (q : Nat) (hd : decode cc pc = .ok (.iinc i n, 3)) (hq : lv[q]? = some (i, .int x)) (hv : x + Int32.ofInt n = v) (hn : i < nL) (hr : (i, Value.int v) :: lv.filter (fun q => !(q.1 == i) && !(q.1 + 1 == i && q.2.category == 2)) = lv1) (k : ZX g E kc kn xs M lv1 (pc + 3) st) : ZX g E kc kn xs M lv pc st := fun H locs ls hW hS hl => lv_iinc X.1.1 X.1.2.1 hd hl (k := q) hq hv (by rw [X.1.2.2.1]; exact hn) hr (fun ls' hl' => k H locs ls' hW hS hl')
theorem x_iadd (X : Cx g E own cc nL rm) {x y : Int32} (hd : decode cc pc = .ok (.iadd, 1)) (k : ZX g E kc kn xs M lv (pc + 1) (.int (x + y) :: st)) : ZX g E kc kn xs M lv pc (.int y :: .int x :: st) := fun H locs ls hW hS hl => lv_iadd X.1.1 X.1.2.1 hd (k H locs ls hW hS hl)
theorem x_isub (X : Cx g E own cc nL rm) {x y : Int32} (hd : decode cc pc = .ok (.isub, 1)) (k : ZX g E kc kn xs M lv (pc + 1) (.int (x - y) :: st)) : ZX g E kc kn xs M lv pc (.int y :: .int x :: st) := fun H locs ls hW hS hl => lv_isub X.1.1 X.1.2.1 hd (k H locs ls hW hS hl)
theorem x_imul (X : Cx g E own cc nL rm) {x y : Int32} (hd : decode cc pc = .ok (.imul, 1)) (k : ZX g E kc kn xs M lv (pc + 1) (.int (x * y) :: st)) : ZX g E kc kn xs M lv pc (.int y :: .int x :: st) := fun H locs ls hW hS hl => lv_imul X.1.1 X.1.2.1 hd (k H locs ls hW hS hl)
theorem x_idiv (X : Cx g E own cc nL rm) {x y : Int32} (hd : decode cc pc = .ok (.idiv, 1)) (hne : ¬ y = 0) (k : ZX g E kc kn xs M lv (pc + 1) (.int (x / y) :: st)) : ZX g E kc kn xs M lv pc (.int y :: .int x :: st) := fun H locs ls hW hS hl => lv_idiv X.1.1 X.1.2.1 hd hne (k H locs ls hW hS hl)
theorem x_iand (X : Cx g E own cc nL rm) {x y : Int32} (hd : decode cc pc = .ok (.iand, 1)) (k : ZX g E kc kn xs M lv (pc + 1) (.int (x &&& y) :: st)) : ZX g E kc kn xs M lv pc (.int y :: .int x :: st) := fun H locs ls hW hS hl => lv_iand X.1.1 X.1.2.1 hd (k H locs ls hW hS hl)
theorem x_ior (X : Cx g E own cc nL rm) {x y : Int32} (hd : decode cc pc = .ok (.ior, 1)) (k : ZX g E kc kn xs M lv (pc + 1) (.int (x ||| y) :: st)) : ZX g E kc kn xs M lv pc (.int y :: .int x :: st) := fun H locs ls hW hS hl => lv_ior X.1.1 X.1.2.1 hd (k H locs ls hW hS hl)
theorem x_ishl (X : Cx g E own cc nL rm) {x y : Int32} (hd : decode cc pc = .ok (.ishl, 1)) (k : ZX g E kc kn xs M lv (pc + 1) (.int (x <<< (y &&& 31)) :: st)) : ZX g E kc kn xs M lv pc (.int y :: .int x :: st) := fun H locs ls hW hS hl => lv_ishl X.1.1 X.1.2.1 hd (k H locs ls hW hS hl)
theorem x_ishr (X : Cx g E own cc nL rm) {x y : Int32} (hd : decode cc pc = .ok (.ishr, 1)) (k : ZX g E kc kn xs M lv (pc + 1) (.int (x >>> (y &&& 31)) :: st)) : ZX g E kc kn xs M lv pc (.int y :: .int x :: st) := fun H locs ls hW hS hl => lv_ishr X.1.1 X.1.2.1 hd (k H locs ls hW hS hl)
theorem x_irem (X : Cx g E own cc nL rm) {x y : Int32} (hd : decode cc pc = .ok (.irem, 1)) (hne : ¬ y = 0) (k : ZX g E kc kn xs M lv (pc + 1) (.int (x - x / y * y) :: st)) : ZX g E kc kn xs M lv pc (.int y :: .int x :: st) := fun H locs ls hW hS hl => lv_irem X.1.1 X.1.2.1 hd hne (k H locs ls hW hS hl)
theorem x_ineg (X : Cx g E own cc nL rm) {x : Int32} (hd : decode cc pc = .ok (.ineg, 1)) (k : ZX g E kc kn xs M lv (pc + 1) (.int (-x) :: st)) : ZX g E kc kn xs M lv pc (.int x :: st) := fun H locs ls hW hS hl => lv_ineg X.1.1 X.1.2.1 hd (k H locs ls hW hS hl)
theorem x_i2c (X : Cx g E own cc nL rm) {x v : Int32} (hd : decode cc pc = .ok (.i2c, 1)) (hv : (x.toUInt32 % 65536).toInt32 = v) (k : ZX g E kc kn xs M lv (pc + 1) (.int v :: st)) : ZX g E kc kn xs M lv pc (.int x :: st) := fun H locs ls hW hS hl => lv_i2c X.1.1 X.1.2.1 hd hv (k H locs ls hW hS hl)
theorem x_dup (X : Cx g E own cc nL rm) {a : Value} (hd : decode cc pc = .ok (.dup, 1)) (ha : a.category = 1) (k : ZX g E kc kn xs M lv (pc + 1) (a :: a :: st)) : ZX g E kc kn xs M lv pc (a :: st) := fun H locs ls hW hS hl => lv_dup X.1.1 X.1.2.1 hd ha (k H locs ls hW hS hl)
theorem x_pop (X : Cx g E own cc nL rm) {a : Value} (hd : decode cc pc = .ok (.pop, 1)) (ha : a.category = 1) (k : ZX g E kc kn xs M lv (pc + 1) st) : ZX g E kc kn xs M lv pc (a :: st) := fun H locs ls hW hS hl => lv_pop X.1.1 X.1.2.1 hd ha (k H locs ls hW hS hl)
theorem x_if_eq (X : Cx g E own cc nL rm) {x : Int32} {off : Int} {tgt : Nat} (hd : decode cc pc = .ok (.ifCond .eq off, 3)) (ht : (pc : Int) + off = (tgt : Int)) (kt : x = 0 → ZX g E kc kn xs M lv tgt st) (kf : ¬ (x = 0) → ZX g E kc kn xs M lv (pc + 3) st) : ZX g E kc kn xs M lv pc (.int x :: st) := fun H locs ls hW hS hl => lv_if_eq X.1.1 X.1.2.1 hd ht (fun h => kt h H locs ls hW hS hl) (fun h => kf h H locs ls hW hS hl)
theorem x_if_ne (X : Cx g E own cc nL rm) {x : Int32} {off : Int} {tgt : Nat} (hd : decode cc pc = .ok (.ifCond .ne off, 3)) (ht : (pc : Int) + off = (tgt : Int)) (kt : x ≠ 0 → ZX g E kc kn xs M lv tgt st) (kf : x = 0 → ZX g E kc kn xs M lv (pc + 3) st) : ZX g E kc kn xs M lv pc (.int x :: st) := fun H locs ls hW hS hl => lv_if_ne X.1.1 X.1.2.1 hd ht (fun h => kt h H locs ls hW hS hl) (fun h => kf h H locs ls hW hS hl)
theorem x_if_lt (X : Cx g E own cc nL rm) {x : Int32} {off : Int} {tgt : Nat} (hd : decode cc pc = .ok (.ifCond .lt off, 3)) (ht : (pc : Int) + off = (tgt : Int)) (kt : x < 0 → ZX g E kc kn xs M lv tgt st) (kf : ¬ (x < 0) → ZX g E kc kn xs M lv (pc + 3) st) : ZX g E kc kn xs M lv pc (.int x :: st) := fun H locs ls hW hS hl => lv_if_lt X.1.1 X.1.2.1 hd ht (fun h => kt h H locs ls hW hS hl) (fun h => kf h H locs ls hW hS hl)
theorem x_if_ge (X : Cx g E own cc nL rm) {x : Int32} {off : Int} {tgt : Nat} (hd : decode cc pc = .ok (.ifCond .ge off, 3)) (ht : (pc : Int) + off = (tgt : Int)) (kt : 0 ≤ x → ZX g E kc kn xs M lv tgt st) (kf : ¬ (0 ≤ x) → ZX g E kc kn xs M lv (pc + 3) st) : ZX g E kc kn xs M lv pc (.int x :: st) := fun H locs ls hW hS hl => lv_if_ge X.1.1 X.1.2.1 hd ht (fun h => kt h H locs ls hW hS hl) (fun h => kf h H locs ls hW hS hl)
theorem x_if_gt (X : Cx g E own cc nL rm) {x : Int32} {off : Int} {tgt : Nat} (hd : decode cc pc = .ok (.ifCond .gt off, 3)) (ht : (pc : Int) + off = (tgt : Int)) (kt : 0 < x → ZX g E kc kn xs M lv tgt st) (kf : ¬ (0 < x) → ZX g E kc kn xs M lv (pc + 3) st) : ZX g E kc kn xs M lv pc (.int x :: st) := fun H locs ls hW hS hl => lv_if_gt X.1.1 X.1.2.1 hd ht (fun h => kt h H locs ls hW hS hl) (fun h => kf h H locs ls hW hS hl)
theorem x_if_le (X : Cx g E own cc nL rm) {x : Int32} {off : Int} {tgt : Nat} (hd : decode cc pc = .ok (.ifCond .le off, 3)) (ht : (pc : Int) + off = (tgt : Int)) (kt : x ≤ 0 → ZX g E kc kn xs M lv tgt st) (kf : ¬ (x ≤ 0) → ZX g E kc kn xs M lv (pc + 3) st) : ZX g E kc kn xs M lv pc (.int x :: st) := fun H locs ls hW hS hl => lv_if_le X.1.1 X.1.2.1 hd ht (fun h => kt h H locs ls hW hS hl) (fun h => kf h H locs ls hW hS hl)
theorem x_icmp_eq (X : Cx g E own cc nL rm) {x y : Int32} {off : Int} {tgt : Nat} (hd : decode cc pc = .ok (.if_icmp .eq off, 3)) (ht : (pc : Int) + off = (tgt : Int)) (kt : x = y → ZX g E kc kn xs M lv tgt st) (kf : ¬ (x = y) → ZX g E kc kn xs M lv (pc + 3) st) : ZX g E kc kn xs M lv pc (.int y :: .int x :: st) := fun H locs ls hW hS hl => lv_icmp_eq X.1.1 X.1.2.1 hd ht (fun h => kt h H locs ls hW hS hl) (fun h => kf h H locs ls hW hS hl)
theorem x_icmp_ne (X : Cx g E own cc nL rm) {x y : Int32} {off : Int} {tgt : Nat} (hd : decode cc pc = .ok (.if_icmp .ne off, 3)) (ht : (pc : Int) + off = (tgt : Int)) (kt : x ≠ y → ZX g E kc kn xs M lv tgt st) (kf : x = y → ZX g E kc kn xs M lv (pc + 3) st) : ZX g E kc kn xs M lv pc (.int y :: .int x :: st) := fun H locs ls hW hS hl => lv_icmp_ne X.1.1 X.1.2.1 hd ht (fun h => kt h H locs ls hW hS hl) (fun h => kf h H locs ls hW hS hl)
theorem x_icmp_lt (X : Cx g E own cc nL rm) {x y : Int32} {off : Int} {tgt : Nat} (hd : decode cc pc = .ok (.if_icmp .lt off, 3)) (ht : (pc : Int) + off = (tgt : Int)) (kt : x < y → ZX g E kc kn xs M lv tgt st) (kf : ¬ (x < y) → ZX g E kc kn xs M lv (pc + 3) st) : ZX g E kc kn xs M lv pc (.int y :: .int x :: st) := fun H locs ls hW hS hl => lv_icmp_lt X.1.1 X.1.2.1 hd ht (fun h => kt h H locs ls hW hS hl) (fun h => kf h H locs ls hW hS hl)
theorem x_icmp_ge (X : Cx g E own cc nL rm) {x y : Int32} {off : Int} {tgt : Nat} (hd : decode cc pc = .ok (.if_icmp .ge off, 3)) (ht : (pc : Int) + off = (tgt : Int)) (kt : y ≤ x → ZX g E kc kn xs M lv tgt st) (kf : ¬ (y ≤ x) → ZX g E kc kn xs M lv (pc + 3) st) : ZX g E kc kn xs M lv pc (.int y :: .int x :: st) := fun H locs ls hW hS hl => lv_icmp_ge X.1.1 X.1.2.1 hd ht (fun h => kt h H locs ls hW hS hl) (fun h => kf h H locs ls hW hS hl)
theorem x_icmp_gt (X : Cx g E own cc nL rm) {x y : Int32} {off : Int} {tgt : Nat} (hd : decode cc pc = .ok (.if_icmp .gt off, 3)) (ht : (pc : Int) + off = (tgt : Int)) (kt : y < x → ZX g E kc kn xs M lv tgt st) (kf : ¬ (y < x) → ZX g E kc kn xs M lv (pc + 3) st) : ZX g E kc kn xs M lv pc (.int y :: .int x :: st) := fun H locs ls hW hS hl => lv_icmp_gt X.1.1 X.1.2.1 hd ht (fun h => kt h H locs ls hW hS hl) (fun h => kf h H locs ls hW hS hl)
theorem x_icmp_le (X : Cx g E own cc nL rm) {x y : Int32} {off : Int} {tgt : Nat} (hd : decode cc pc = .ok (.if_icmp .le off, 3)) (ht : (pc : Int) + off = (tgt : Int)) (kt : x ≤ y → ZX g E kc kn xs M lv tgt st) (kf : ¬ (x ≤ y) → ZX g E kc kn xs M lv (pc + 3) st) : ZX g E kc kn xs M lv pc (.int y :: .int x :: st) := fun H locs ls hW hS hl => lv_icmp_le X.1.1 X.1.2.1 hd ht (fun h => kt h H locs ls hW hS hl) (fun h => kf h H locs ls hW hS hl)
theorem x_goto (X : Cx g E own cc nL rm) {off : Int} {tgt : Nat} (hd : decode cc pc = .ok (.goto off, 3)) (ht : (pc : Int) + off = (tgt : Int)) (k : ZX g E kc kn xs M lv tgt st) : ZX g E kc kn xs M lv pc st := fun H locs ls hW hS hl => lv_goto X.1.1 X.1.2.1 hd ht (k H locs ls hW hS hl)
theorem x_tableIn (X : Cx g E own cc nL rm) {dflt lo hi : Int} {offs : Array Int} {len : Nat} {x : Int32} {off : Int} {tgt : Nat} (hd : decode cc pc = .ok (.tableswitch dflt lo hi offs, len)) (h1 : ¬ x.toInt < lo) (h2 : ¬ hi < x.toInt) (ho : offs[(x.toInt - lo).toNat]? = some off) (ht : (pc : Int) + off = (tgt : Int)) (k : ZX g E kc kn xs M lv tgt st) : ZX g E kc kn xs M lv pc (.int x :: st) := fun H locs ls hW hS hl => lv_tableIn X.1.1 X.1.2.1 hd h1 h2 ho ht (k H locs ls hW hS hl)
theorem x_tableOut (X : Cx g E own cc nL rm) {dflt lo hi : Int} {offs : Array Int} {len : Nat} {x : Int32} {tgt : Nat} (hd : decode cc pc = .ok (.tableswitch dflt lo hi offs, len)) (h : x.toInt < lo ∨ hi < x.toInt) (ht : (pc : Int) + dflt = (tgt : Int)) (k : ZX g E kc kn xs M lv tgt st) : ZX g E kc kn xs M lv pc (.int x :: st) := fun H locs ls hW hS hl => lv_tableOut X.1.1 X.1.2.1 hd h ht (k H locs ls hW hS hl)
theorem x_nicmp_eq (X : Cx g E own cc nL rm) {a b : Nat} {off : Int} {tgt : Nat} (hd : decode cc pc = .ok (.if_icmp .eq off, 3)) (ht : (pc : Int) + off = (tgt : Int)) (ha : a < 2 ^ 31) (hb : b < 2 ^ 31) (kt : a = b → ZX g E kc kn xs M lv tgt st) (kf : ¬ (a = b) → ZX g E kc kn xs M lv (pc + 3) st) : ZX g E kc kn xs M lv pc (.int (nI b) :: .int (nI a) :: st) := x_icmp_eq X hd ht (fun h => kt ((nI_eq ha hb).mp h)) (fun h => kf ((fun q => h ((nI_eq ha hb).mpr q))))
theorem x_nicmp_ne (X : Cx g E own cc nL rm) {a b : Nat} {off : Int} {tgt : Nat} (hd : decode cc pc = .ok (.if_icmp .ne off, 3)) (ht : (pc : Int) + off = (tgt : Int)) (ha : a < 2 ^ 31) (hb : b < 2 ^ 31) (kt : a ≠ b → ZX g E kc kn xs M lv tgt st) (kf : a = b → ZX g E kc kn xs M lv (pc + 3) st) : ZX g E kc kn xs M lv pc (.int (nI b) :: .int (nI a) :: st) := x_icmp_ne X hd ht (fun h => kt ((not_congr (nI_eq ha hb)).mp h)) (fun h => kf ((nI_eq ha hb).mp h))
theorem x_nicmp_lt (X : Cx g E own cc nL rm) {a b : Nat} {off : Int} {tgt : Nat} (hd : decode cc pc = .ok (.if_icmp .lt off, 3)) (ht : (pc : Int) + off = (tgt : Int)) (ha : a < 2 ^ 31) (hb : b < 2 ^ 31) (kt : a < b → ZX g E kc kn xs M lv tgt st) (kf : ¬ (a < b) → ZX g E kc kn xs M lv (pc + 3) st) : ZX g E kc kn xs M lv pc (.int (nI b) :: .int (nI a) :: st) := x_icmp_lt X hd ht (fun h => kt ((nI_ltI ha hb).mp h)) (fun h => kf ((fun q => h ((nI_ltI ha hb).mpr q))))
theorem x_nicmp_ge (X : Cx g E own cc nL rm) {a b : Nat} {off : Int} {tgt : Nat} (hd : decode cc pc = .ok (.if_icmp .ge off, 3)) (ht : (pc : Int) + off = (tgt : Int)) (ha : a < 2 ^ 31) (hb : b < 2 ^ 31) (kt : b ≤ a → ZX g E kc kn xs M lv tgt st) (kf : ¬ (b ≤ a) → ZX g E kc kn xs M lv (pc + 3) st) : ZX g E kc kn xs M lv pc (.int (nI b) :: .int (nI a) :: st) := x_icmp_ge X hd ht (fun h => kt ((nI_leI hb ha).mp h)) (fun h => kf ((fun q => h ((nI_leI hb ha).mpr q))))
theorem x_nicmp_gt (X : Cx g E own cc nL rm) {a b : Nat} {off : Int} {tgt : Nat} (hd : decode cc pc = .ok (.if_icmp .gt off, 3)) (ht : (pc : Int) + off = (tgt : Int)) (ha : a < 2 ^ 31) (hb : b < 2 ^ 31) (kt : b < a → ZX g E kc kn xs M lv tgt st) (kf : ¬ (b < a) → ZX g E kc kn xs M lv (pc + 3) st) : ZX g E kc kn xs M lv pc (.int (nI b) :: .int (nI a) :: st) := x_icmp_gt X hd ht (fun h => kt ((nI_ltI hb ha).mp h)) (fun h => kf ((fun q => h ((nI_ltI hb ha).mpr q))))
theorem x_nicmp_le (X : Cx g E own cc nL rm) {a b : Nat} {off : Int} {tgt : Nat} (hd : decode cc pc = .ok (.if_icmp .le off, 3)) (ht : (pc : Int) + off = (tgt : Int)) (ha : a < 2 ^ 31) (hb : b < 2 ^ 31) (kt : a ≤ b → ZX g E kc kn xs M lv tgt st) (kf : ¬ (a ≤ b) → ZX g E kc kn xs M lv (pc + 3) st) : ZX g E kc kn xs M lv pc (.int (nI b) :: .int (nI a) :: st) := x_icmp_le X hd ht (fun h => kt ((nI_leI ha hb).mp h)) (fun h => kf ((fun q => h ((nI_leI ha hb).mpr q))))
theorem x_nif_eq (X : Cx g E own cc nL rm) {a : Nat} {off : Int} {tgt : Nat} (hd : decode cc pc = .ok (.ifCond .eq off, 3)) (ht : (pc : Int) + off = (tgt : Int)) (ha : a < 2 ^ 31) (kt : a = 0 → ZX g E kc kn xs M lv tgt st) (kf : ¬ (a = 0) → ZX g E kc kn xs M lv (pc + 3) st) : ZX g E kc kn xs M lv pc (.int (nI a) :: st) := x_if_eq X hd ht (fun h => kt ((show nI a = 0 ↔ a = 0 from nI_eq ha (by decide)).mp h)) (fun h => kf (fun q => h ((show nI a = 0 ↔ a = 0 from nI_eq ha (by decide)).mpr q)))
theorem x_nif_ne (X : Cx g E own cc nL rm) {a : Nat} {off : Int} {tgt : Nat} (hd : decode cc pc = .ok (.ifCond .ne off, 3)) (ht : (pc : Int) + off = (tgt : Int)) (ha : a < 2 ^ 31) (kt : a ≠ 0 → ZX g E kc kn xs M lv tgt st) (kf : a = 0 → ZX g E kc kn xs M lv (pc + 3) st) : ZX g E kc kn xs M lv pc (.int (nI a) :: st) := x_if_ne X hd ht (fun h => kt (fun q => h ((show nI a = 0 ↔ a = 0 from nI_eq ha (by decide)).mpr q))) (fun h => kf ((show nI a = 0 ↔ a = 0 from nI_eq ha (by decide)).mp h))
theorem x_nif_gt (X : Cx g E own cc nL rm) {a : Nat} {off : Int} {tgt : Nat} (hd : decode cc pc = .ok (.ifCond .gt off, 3)) (ht : (pc : Int) + off = (tgt : Int)) (ha : a < 2 ^ 31) (kt : 0 < a → ZX g E kc kn xs M lv tgt st) (kf : ¬ (0 < a) → ZX g E kc kn xs M lv (pc + 3) st) : ZX g E kc kn xs M lv pc (.int (nI a) :: st) := x_if_gt X hd ht (fun h => kt ((show 0 < nI a ↔ 0 < a from nI_ltI (by decide) ha).mp h)) (fun h => kf (fun q => h ((show 0 < nI a ↔ 0 < a from nI_ltI (by decide) ha).mpr q)))
theorem x_nif_le (X : Cx g E own cc nL rm) {a : Nat} {off : Int} {tgt : Nat} (hd : decode cc pc = .ok (.ifCond .le off, 3)) (ht : (pc : Int) + off = (tgt : Int)) (ha : a < 2 ^ 31) (kt : a ≤ 0 → ZX g E kc kn xs M lv tgt st) (kf : ¬ (a ≤ 0) → ZX g E kc kn xs M lv (pc + 3) st) : ZX g E kc kn xs M lv pc (.int (nI a) :: st) := x_if_le X hd ht (fun h => kt ((show nI a ≤ 0 ↔ a ≤ 0 from nI_leI ha (by decide)).mp h)) (fun h => kf (fun q => h ((show nI a ≤ 0 ↔ a ≤ 0 from nI_leI ha (by decide)).mpr q)))
theorem x_ldc (X : Cx g E own cc nL rm) {index : Nat} {v : Int32} (hc : Cond.constant own index v ∈ wsL_law) (hd : decode cc pc = .ok (.ldc index, 2)) (k : ZX g E kc kn xs M lv (pc + 2) (.int v :: st)) : ZX g E kc kn xs M lv pc st := fun H locs ls hW hS hl => lv_ldc X.1.1 X.1.2.1 X.1.2.2.2.1 (X.1.2.2.2.2.1 _ hc) hd (k H locs ls hW hS hl)
theorem x_ldc2 (X : Cx g E own cc nL rm) {index : Nat} {v : Int64} (hc : Cond.constantLong own index v ∈ wsL_law) (hd : decode cc pc = .ok (.ldc2_w index, 3)) (k : ZX g E kc kn xs M lv (pc + 3) (.long v :: st)) : ZX g E kc kn xs M lv pc st := fun H locs ls hW hS hl => lv_ldc2 X.1.1 X.1.2.1 X.1.2.2.2.1 (X.1.2.2.2.2.1 _ hc) hd (k H locs ls hW hS hl)
theorem x_lload_n (X : Cx g E own cc nL rm) {j : Fin 4} {i : Nat} {x : Int64} (q : Nat) (hd : decode cc pc = .ok (.lload_n j, 1)) (hi : (j : Nat) = i) (hq : lv[q]? = some (i, .long x)) (k : ZX g E kc kn xs M lv (pc + 1) (.long x :: st)) : ZX g E kc kn xs M lv pc st := fun H locs ls hW hS hl => lv_lload_n X.1.1 X.1.2.1 hd hi (lv_at hl q hq) (k H locs ls hW hS hl)
theorem x_lload (X : Cx g E own cc nL rm) {i : Nat} {x : Int64} (q : Nat) (hd : decode cc pc = .ok (.lload i, 2)) (hq : lv[q]? = some (i, .long x)) (k : ZX g E kc kn xs M lv (pc + 2) (.long x :: st)) : ZX g E kc kn xs M lv pc st := fun H locs ls hW hS hl => lv_lload X.1.1 X.1.2.1 hd (lv_at hl q hq) (k H locs ls hW hS hl)
theorem x_lstore_n (X : Cx g E own cc nL rm) {j : Fin 4} {i : Nat} {x : Int64} {lv1 : List (Nat × Value)} (hd : decode cc pc = .ok (.lstore_n j, 1)) (hi : (j : Nat) = i) (hn : i + 1 < nL) (hq : (i, Value.long x) :: lv.filter (fun q => !(q.1 == i) && (!(q.1 == i + 1) && !(q.1 + 1 == i && q.2.category == 2))) = lv1) (k : ZX g E kc kn xs M lv1 (pc + 1) st) : ZX g E kc kn xs M lv pc (.long x :: st) := fun H locs ls hW hS hl => lv_lstore_n X.1.1 X.1.2.1 hd hi hl (by rw [X.1.2.2.1]; exact hn) hq (fun ls' hl' => k H locs ls' hW hS hl')
theorem x_lstore (X : Cx g E own cc nL rm) {i : Nat} {x : Int64} {lv1 : List (Nat × Value)} (hd : decode cc pc = .ok (.lstore i, 2)) (hn : i + 1 < nL) (hq : (i, Value.long x) :: lv.filter (fun q => !(q.1 == i) && (!(q.1 == i + 1) && !(q.1 + 1 == i && q.2.category == 2))) = lv1) (k : ZX g E kc kn xs M lv1 (pc + 2) st) : ZX g E kc kn xs M lv pc (.long x :: st) := fun H locs ls hW hS hl => lv_lstore X.1.1 X.1.2.1 hd hl (by rw [X.1.2.2.1]; exact hn) hq (fun ls' hl' => k H locs ls' hW hS hl')
theorem x_lmul (X : Cx g E own cc nL rm) {x y : Int64} (hd : decode cc pc = .ok (.lmul, 1)) (k : ZX g E kc kn xs M lv (pc + 1) (.long (x * y) :: st)) : ZX g E kc kn xs M lv pc (.long y :: .long x :: st) := fun H locs ls hW hS hl => lv_lmul X.1.1 X.1.2.1 hd (k H locs ls hW hS hl)
theorem x_ladd (X : Cx g E own cc nL rm) {x y : Int64} (hd : decode cc pc = .ok (.ladd, 1)) (k : ZX g E kc kn xs M lv (pc + 1) (.long (x + y) :: st)) : ZX g E kc kn xs M lv pc (.long y :: .long x :: st) := fun H locs ls hW hS hl => lv_ladd X.1.1 X.1.2.1 hd (k H locs ls hW hS hl)
theorem x_i2l (X : Cx g E own cc nL rm) {x : Int32} (hd : decode cc pc = .ok (.i2l, 1)) (k : ZX g E kc kn xs M lv (pc + 1) (.long x.toInt64 :: st)) : ZX g E kc kn xs M lv pc (.int x :: st) := fun H locs ls hW hS hl => lv_i2l X.1.1 X.1.2.1 hd rfl (k H locs ls hW hS hl)
theorem x_lcmp_eq (X : Cx g E own cc nL rm) {x y : Int64} (h : x = y) (hd : decode cc pc = .ok (.lcmp, 1)) (k : ZX g E kc kn xs M lv (pc + 1) (.int 0 :: st)) : ZX g E kc kn xs M lv pc (.long y :: .long x :: st) := fun H locs ls hW hS hl => by
  subst h
  refine W.lcmp X.1.1 X.1.2.1 hd ?_
  rw [show lg_cmp x x = 0 by simp [lg_cmp]]
  exact k H locs ls hW hS hl
theorem x_dconst0 (X : Cx g E own cc nL rm) (hd : decode cc pc = .ok (.dconst 0, 1)) (k : ZX g E kc kn xs M lv (pc + 1) (.double FP.dconst0 :: st)) : ZX g E kc kn xs M lv pc st := fun H locs ls hW hS hl => lv_dconst0 X.1.1 X.1.2.1 hd (k H locs ls hW hS hl)
theorem x_fconst0 (X : Cx g E own cc nL rm) (hd : decode cc pc = .ok (.fconst 0, 1)) (k : ZX g E kc kn xs M lv (pc + 1) (.float FP.fconst0 :: st)) : ZX g E kc kn xs M lv pc st := fun H locs ls hW hS hl => lv_fconst0 X.1.1 X.1.2.1 hd (k H locs ls hW hS hl)
theorem x_i2d (X : Cx g E own cc nL rm) {x : Int32} (hd : decode cc pc = .ok (.i2d, 1)) (k : ZX g E kc kn xs M lv (pc + 1) (.double (FP.i2d x) :: st)) : ZX g E kc kn xs M lv pc (.int x :: st) := fun H locs ls hW hS hl => lv_i2d X.1.1 X.1.2.1 hd (k H locs ls hW hS hl)
theorem x_i2f (X : Cx g E own cc nL rm) {x : Int32} (hd : decode cc pc = .ok (.i2f, 1)) (k : ZX g E kc kn xs M lv (pc + 1) (.float (FP.i2f x) :: st)) : ZX g E kc kn xs M lv pc (.int x :: st) := fun H locs ls hW hS hl => lv_i2f X.1.1 X.1.2.1 hd (k H locs ls hW hS hl)
theorem x_ddiv (X : Cx g E own cc nL rm) {x y : UInt64} (hd : decode cc pc = .ok (.ddiv, 1)) (hn : vf_n64 (FP.ddiv x y)) (k : ZX g E kc kn xs M lv (pc + 1) (.double (FP.ddiv x y) :: st)) : ZX g E kc kn xs M lv pc (.double y :: .double x :: st) := fun H locs ls hW hS hl => lv_ddiv X.1.1 X.1.2.1 hd hn (k H locs ls hW hS hl)
theorem x_fdiv (X : Cx g E own cc nL rm) {x y : UInt32} (hd : decode cc pc = .ok (.fdiv, 1)) (hn : vf_n32 (FP.fdiv x y)) (k : ZX g E kc kn xs M lv (pc + 1) (.float (FP.fdiv x y) :: st)) : ZX g E kc kn xs M lv pc (.float y :: .float x :: st) := fun H locs ls hW hS hl => lv_fdiv X.1.1 X.1.2.1 hd hn (k H locs ls hW hS hl)
theorem x_dcmp (X : Cx g E own cc nL rm) {x y : UInt64} {op : CmpOp} (hd : decode cc pc = .ok (.dcmp op, 1)) (k : ZX g E kc kn xs M lv (pc + 1) (.int (Op.cmpValue (FP.dcmp x y) op) :: st)) : ZX g E kc kn xs M lv pc (.double y :: .double x :: st) := fun H locs ls hW hS hl => lv_dcmp X.1.1 X.1.2.1 hd (k H locs ls hW hS hl)
theorem x_fcmp (X : Cx g E own cc nL rm) {x y : UInt32} {op : CmpOp} (hd : decode cc pc = .ok (.fcmp op, 1)) (k : ZX g E kc kn xs M lv (pc + 1) (.int (Op.cmpValue (FP.fcmp x y) op) :: st)) : ZX g E kc kn xs M lv pc (.float y :: .float x :: st) := fun H locs ls hW hS hl => lv_fcmp X.1.1 X.1.2.1 hd (k H locs ls hW hS hl)
theorem x_abs (X : Cx g E own cc nL rm) (hkc : kc ≤ rm.cells ∧ kn ≤ rm.slots) {index : Nat} {x : Int32} (hlink : Cond.methodLink own index Lib.Math.abs.name ∈ wsL_law) (hstat : Cond.static Lib.Math.abs.name ∈ wsL_law) (hini : Cond.initialized "java/lang/Math" ∈ wsL_law) (hcode : Cond.code Lib.Math.abs.name Lib.Math.abs.code 1 (some .int) ∈ wsL_law) (hfr : 1 ≤ rm.frames) (hlo : (st.map fun v => v.category).sum + 13 ≤ rm.locals) (hd : decode cc pc = .ok (.invokestatic index, 3))
    (k : ZX g E kc kn xs M lv (pc + 3) (.int (if 0 ≤ x then x else 0 - x) :: st)) : ZX g E kc kn xs M lv pc (.int x :: st) := fun H locs ls hW hS hl =>
  va_mabs X.1.1 X.1.2.1 (by rw [hl.1]) X.1.2.2.2.1 (X.1.2.2.2.2.1 _ hlink) (X.1.2.2.2.2.1 _ hstat) (X.1.2.2.2.2.1 _ hini) (X.1.2.2.2.2.1 _ hcode) (by rw [X.1.2.2.2.2.2.2.1]; exact hfr) (by rw [X.1.2.2.2.2.2.2.1]; exact hlo) (by rw [X.1.2.2.2.2.2.2.1]; exact hkc.1) (by rw [X.1.2.2.2.2.2.2.1]; exact hkc.2) hd (k H locs ls hW hS hl)
theorem x_max (X : Cx g E own cc nL rm) (hkc : kc ≤ rm.cells ∧ kn ≤ rm.slots) {index : Nat} {x y : Int32} (hlink : Cond.methodLink own index Lib.Math.max.name ∈ wsL_law) (hstat : Cond.static Lib.Math.max.name ∈ wsL_law) (hini : Cond.initialized "java/lang/Math" ∈ wsL_law) (hcode : Cond.code Lib.Math.max.name Lib.Math.max.code 2 (some .int) ∈ wsL_law) (hfr : 1 ≤ rm.frames) (hlo : (st.map fun v => v.category).sum + 13 ≤ rm.locals) (hd : decode cc pc = .ok (.invokestatic index, 3))
    (k : ZX g E kc kn xs M lv (pc + 3) (.int (if x < y then y else x) :: st)) : ZX g E kc kn xs M lv pc (.int y :: .int x :: st) := fun H locs ls hW hS hl =>
  va_mmax X.1.1 X.1.2.1 (by rw [hl.1]) X.1.2.2.2.1 (X.1.2.2.2.2.1 _ hlink) (X.1.2.2.2.2.1 _ hstat) (X.1.2.2.2.2.1 _ hini) (X.1.2.2.2.2.1 _ hcode) (by rw [X.1.2.2.2.2.2.2.1]; exact hfr) (by rw [X.1.2.2.2.2.2.2.1]; exact hlo) (by rw [X.1.2.2.2.2.2.2.1]; exact hkc.1) (by rw [X.1.2.2.2.2.2.2.1]; exact hkc.2) hd (k H locs ls hW hS hl)
theorem x_texts (X : Cx g E own cc nL rm) {index : Nat} {ref : String} (hl : Cond.fieldLink own index ref "TEXTS" "[Ljava/lang/String;" ∈ wsL_law) (hr : ref = "ChairLeagueLaw") (hd : decode cc pc = .ok (.getstatic index, 3)) (k : ZX g E kc kn xs M lv (pc + 3) (.ref (zsT E) :: st)) : ZX g E kc kn xs M lv pc st := fun H locs ls hW hS hl' => by
  subst hr
  exact va_gets X.1.1 X.1.2.1 X.1.2.2.2.2.2.2.2.2.2.1 hS X.1.2.2.2.1 (X.1.2.2.2.2.1 _ hl) (fun _ h => h) hd (k H locs ls hW hS hl')
theorem x_tlen (X : Cx g E own cc nL rm) (hd : decode cc pc = .ok (.arraylength, 1)) (k : ZX g E kc kn xs M lv (pc + 1) (.int 30 :: st)) : ZX g E kc kn xs M lv pc (.ref (zsT E) :: st) := fun H locs ls hW hS hl' =>
  va_tlen X.1.1 X.1.2.1 X.1.2.2.2.2.2.2.2.2.2.2.1 hS rfl hd (k H locs ls hW hS hl')
theorem x_tald (X : Cx g E own cc nL rm) {j : Nat} {i : Int32} (hi : i = nI j) (hj : j < 30) (hd : decode cc pc = .ok (.aaload, 1)) (k : ZX g E kc kn xs M lv (pc + 1) (.ref (zsK E j) :: st)) : ZX g E kc kn xs M lv pc (.int i :: .ref (zsT E) :: st) := fun H locs ls hW hS hl' => by
  subst hi
  exact vb_tq X.1.1 X.1.2.1 X.1.2.2.2.2.2.2.2.2.2.2.1 hS (vp_in_nI hj (by decide)) (v := .ref (zsK E j)) (by rw [nI_clamp (by omega)]) hd (k H locs ls hW hS hl')
/-- a row of ints of the law's own -/
theorem x_newI (X : Cx g E own cc nL rm) {n : Nat} (harr : Cond.arrayClass .int ∈ wsL_law) (hn : n ≤ 200) (hk : kc + 1 ≤ rm.cells) (hs : kn + n ≤ rm.slots) (hd : decode cc pc = .ok (.newarray .int, 2))
    (kk : ∀ q, ZX g E (kc + 1) (kn + n) (xs ++ [(q, .inl (zcI E, n, .inl (fun _ => 0)))]) M lv (pc + 2) (.ref q :: st)) : ZX g E kc kn xs M lv pc (.int (nI n) :: st) := fun H locs ls hW hS hl =>
  va_newa (atype := .int) (ty := .int) (a0 := (n, .inl (fun _ => 0))) X.1.1 X.1.2.1 (X.1.2.2.2.2.1 _ harr) rfl X.1.2.2.2.2.2.1 hW.1 hW.2 hS X.2 (fun _ => rfl) (nI_pos (by omega)) (nI_clamp (by omega)) (by show n * 4 ≤ _; omega) (by rw [X.1.2.2.2.2.2.2.1]; exact hk) (by rw [X.1.2.2.2.2.2.2.1]; exact hs) hd (fun q cA H1 hK1 hP1 hD1 hS1 => by
    have e : cA = zcI E := ra_eq (hK1.2 2 _ rfl).2 (hK1.2 0 _ rfl).2
    subst e
    rw [List.append_assoc] at hP1 hD1
    exact kk q H1 locs ls ⟨hP1, hD1⟩ hS1 hl)
theorem zws_len (E : ZE) (M : Mem) : (zws E M).length = zL.length := by unfold zws; exact List.length_map ..
theorem x_iald (X : Cx g E own cc nL rm) {a n j : Nat} {f : Nat → Int32} {i : Int32} (hi : i = nI j) (hj : j < n) (hn : n ≤ 200) (hd : decode cc pc = .ok (.iaload, 1))
    (k : ZX g E kc kn [(a, .inl (zcI E, n, .inl f))] M lv (pc + 1) (.int (f j) :: st)) : ZX g E kc kn [(a, .inl (zcI E, n, .inl f))] M lv pc (.int i :: .ref a :: st) := fun H locs ls hW hS hl => by
  subst hi
  refine va_iald X.1.1 X.1.2.1 X.1.2.2.2.2.2.1 hW.1 (zws E M).length 0 (n := n) (f := f) (by rw [List.getElem?_append_right (Nat.le_refl _), Nat.sub_self]; rfl) rfl (vp_in_nI hj (by omega)) hd ?_
  rw [nI_clamp (by omega)]
  exact k H locs ls hW hS hl
theorem x_iast (X : Cx g E own cc nL rm) {a n j : Nat} {f : Nat → Int32} {i x : Int32} (hi : i = nI j) (hj : j < n) (hn : n ≤ 200) (hd : decode cc pc = .ok (.iastore, 1))
    (k : ZX g E kc kn [(a, .inl (zcI E, n, .inl (upd f j x)))] M lv (pc + 1) st) : ZX g E kc kn [(a, .inl (zcI E, n, .inl f))] M lv pc (.int x :: .int i :: .ref a :: st) := fun H locs ls hW hS hl => by
  subst hi
  refine va_iast X.1.1 X.1.2.1 X.1.2.2.2.2.2.1 hW.1 hW.2 hS (zws E M).length 0 (n := n) (f := f) (by rw [List.getElem?_append_right (Nat.le_refl _), Nat.sub_self]; rfl) rfl (vp_in_nI hj (by omega)) hd (fun H1 locs1 hP1 hD1 hS1 => ?_)
  rw [nI_clamp (by omega), List.set_append_right _ _ (Nat.le_refl _), Nat.sub_self] at hP1 hD1
  exact k H1 locs1 ls ⟨hP1, hD1⟩ hS1 hl
/-! the script -/
theorem x_sld (X : Cx g E own cc nL rm) {b L : Nat} {ss : Nat → Int32} (V : va_X b L ss (gs g) (gs g).heap ∧ b < (gs g).heap.size ∧ ¬ zA E b) {i : Int32} {j : Nat} (hi : i = nI j) (hj : j < L) (hL : L ≤ 2048) (hd : decode cc pc = .ok (.iaload, 1)) (k : ZX g E kc kn xs M lv (pc + 1) (.int (ss j) :: st)) : ZX g E kc kn xs M lv pc (.int i :: .ref b :: st) := fun H locs ls hW hS hl => by
  subst hi
  refine va_sld X.1.1 X.1.2.1 V.1 V.2.1 V.2.2 hS (vp_in_nI hj (by omega)) hd ?_
  rw [nI_clamp (by omega)]
  exact k H locs ls hW hS hl
theorem x_slen (X : Cx g E own cc nL rm) {b L : Nat} {ss : Nat → Int32} (V : va_X b L ss (gs g) (gs g).heap ∧ b < (gs g).heap.size ∧ ¬ zA E b) (hd : decode cc pc = .ok (.arraylength, 1)) (k : ZX g E kc kn xs M lv (pc + 1) (.int (Int32.ofNat L) :: st)) : ZX g E kc kn xs M lv pc (.ref b :: st) := fun H locs ls hW hS hl =>
  va_slen X.1.1 X.1.2.1 V.1 V.2.1 V.2.2 hS hd (k H locs ls hW hS hl)
/-! calls -/
theorem Wx_of_run {p : Program} {l : Launch} {e : Env} {R : Room} {s : State} {m : MethodId} {args : Array Value} {below : List Frame} {meth : Method} {c : Code} {H : Heap} {locs : List Loc} {Q : State → Prop} {fr : JFrame} {rest : List Value} {E : ZE} {xs : va_W} {M : Mem} {Post : Option Value → Mem → Prop} {av : Array Value} {kc kn mc ms : Nat}
    (hr : va_Run p l e R s m args below meth c H locs kc kn mc ms fr rest (zQ (cutX E xs) Post av) (zA (cutX E xs))) (hW : WX E xs M H) (hS : va_S (zA E) s.heap H locs)
    (kk : ∀ (r : Option Value) (M' : Mem) (H1 : Heap) (locs1 : List Loc), Post r M' → WX E xs M' H1 → va_S (zA E) s.heap H1 locs1 → W p l e R s m args below meth c H1 locs1 (kc + mc) (kn + ms) Q { fr with pc := fr.pc + 3, stack := r.toList ++ rest }) : W p l e R s m args below meth c H locs kc kn Q fr := by
  intro T hT X
  obtain ⟨v, st₀, t, T', L, h0, X', hL, e1, e2, ⟨⟨r, M', hv, hp, hw⟩, hz, hk⟩, stp⟩ := hr T hT X
  cases hv
  rw [h0] at hz hk
  have hS' : va_S (zA E) s.heap T'.heap (locs ++ L) := by
    refine ⟨?_, fun q hq hn => ?_, fun q hq => ?_⟩
    · rw [e1]; exact Nat.le_trans hS.1 hz
    · rw [e1]
      rw [hk q (Nat.lt_of_lt_of_le hq hS.1) (fun h => hn h.1)]
      exact hS.2.1 q hq hn
    · rcases List.mem_append.mp hq with h | h
      · exact hS.2.2 q h
      · exact (hL q h).1
  obtain ⟨t', a1, b1⟩ := kk v M' T'.heap (locs ++ L) hp (by rw [e1]; exact hW.back hw hk) hS' T' rfl X'
  exact ⟨t', stp t' a1, b1⟩
theorem xPre_of {s U : State} {H : Heap} {locs : List Loc} (hW : WX E xs M H) (hS : va_S (zA E) s.heap H locs) (hK : va_K (zD E) vwCl (tysE E) s) (hSx : Sx E s s.heap) (hU : U.heap = H) (hw : s.WarmedH U.vm) : zPre (cutX E xs) M U := by
  subst hU
  exact ⟨hW.cut, va_K.moved hw.alike hK, ((hSx.kept hS.2.1).warm hw).cut⟩
theorem x_callV (X : Cx g E own cc nL rm) (hkc : kc ≤ rm.cells ∧ kn ≤ rm.slots) {y : MethodName} {C : String} {bytes : ByteArray} {maxL n index ci b r : Nat} {ret : Option FieldType} {rmc : Room} {As rest : List Value} {Post : Option Value → Mem → Prop} {q : vw_C} {fs : List Value}
    (K : KV y C bytes maxL ret n) (hM : Mt (cutX E xs) y bytes maxL ret rmc (.ref (za E b r) :: As) M Post) (hz : zkd b r ≠ 0) (he : zcell E M b r = .inr (ci, fs)) (hc : vwCl[ci]? = some q) (hq : q.1 = C) (hl : Cond.methodLink own index y ∈ wsL_law)
    (hR : (rmc.cells = 0 ∧ rmc.slots = 0) ∧ rmc.frames + 1 ≤ rm.frames ∧ 8 + (maxL + 11) + rmc.locals ≤ rm.locals) (hn : As.length = n) (hs : As.reverse ++ .ref (za E b r) :: rest = st) (hw : (rest.map fun v => v.category).sum ≤ 8) (hd : decode cc pc = .ok (.invokevirtual index, 3))
    (kk : ∀ (r : Option Value) (M' : Mem), Post r M' → ZX g E kc kn xs M' lv (pc + 3) (r.toList ++ rest)) : ZX g E kc kn xs M lv pc st := by
  intro H locs ls hW hS hl'
  obtain ⟨⟨k1, k2, k3, k4⟩, k5⟩ := K
  have ht := X.1.2.2.2.2.1
  have hrR : gR g = rm := X.1.2.2.2.2.2.2.1
  subst hs
  have hT : GoodIn wsL_law (wsV own index C y (.code y bytes maxL ret :: wsL_law)) := fun w hw => by
    rcases List.mem_append.mp hw with h | h
    · refine ⟨?_, (wsL_good w ?_).2⟩ <;>
      · rcases List.mem_cons.mp h with rfl | h
        · exact hl
        · rcases List.mem_cons.mp h with rfl | h
          · exact k1
          · rcases List.mem_cons.mp h with rfl | h
            · exact k2
            · rcases List.mem_cons.mp h with rfl | h
              · exact k3
              · exact absurd h List.not_mem_nil
    · exact wsL_app k4 w h
  have hcell : ∃ cellB : Cell, H[za E b r]? = some cellB ∧ cellB.vm.isStatics = false ∧ (gs g).vm.findClass C = some cellB.cls := by
    have hP : va_P (zD E) vwCl [(za E b r, .inr (ci, fs))] H := by
      intro j z hj
      match j, hj with
      | 0, hj => cases Option.some.inj hj; rw [← he]; exact hW.wd.at hz
      | j + 1, hj => simp at hj
    rw [← hq]
    exact va_recv X.1.2.2.2.2.2.1 hP hc (q0 := 0) rfl
  refine Wx_of_run (va_runV ⟨X.1.1, X.1.2.1, X.1.2.2.1, X.1.2.2.2.1, ht⟩ hM (cwV n ht hT rfl hR.1.1 hR.1.2 k5 ⟨by rw [hrR]; exact hR.2.1, by rw [hrR]; exact hR.2.2⟩) ⟨zPre_blind (cutX E xs) M _, hcell, fun U hU hWm => ⟨rfl, xPre_of hW hS X.1.2.2.2.2.2.1 X.1.2.2.2.2.2.2.2 hU hWm⟩⟩ rfl hn (by show ls.size = nL; rw [hl'.1]; exact X.1.2.2.1) rfl (lv_room hw) hd ⟨by rw [hrR]; exact hkc.1, by rw [hrR]; exact hkc.2⟩) hW hS (fun r M' H1 locs1 hp hW1 hS1 => kk r M' hp H1 locs1 ls hW1 hS1 hl')
theorem xPre_blind (E : ZE) (M : Mem) (As : List Value) {Pr : State → Prop} (hb : ∀ (U : State) (g : JFrame) (mk : MethodId) (a : Array Value), Pr U → Pr (U.calling g mk a)) : FrameBlind (va_Pc As (fun U => zPre E M U ∧ (∀ x : Nat, U.heap.size ≤ x → zA E x) ∧ Pr U)) := fun a U g mk q => by
  obtain ⟨h1, h2, h3, h4⟩ := q
  exact ⟨h1, (zPre_blind E M As a U g mk ⟨h1, h2⟩).2, h3, hb U g mk a h4⟩
/-- a call of a method of the law's own -/
theorem x_callX (X : Cx g E own cc nL rm) {y : MethodName} {bytes : ByteArray} {maxL n index mc ms : Nat} {ret : Option FieldType} {rmc : Room} {As rest : List Value} {Pr : State → Prop} {Post : Option Value → Mem → Prop}
    (K : KS y bytes maxL ret n) (hM : MtX (cutX E xs) y bytes maxL ret rmc As M Pr Post mc ms) (hl : Cond.methodLink own index y ∈ wsL_law)
    (hb : ∀ (U : State) (g : JFrame) (mk : MethodId) (a : Array Value), Pr U → Pr (U.calling g mk a)) (hPr : ∀ (U : State) (H : Heap) (locs : List Loc), va_S (zA E) (gs g).heap H locs → U.heap = H → (gs g).WarmedH U.vm → Pr U)
    (hrc : rmc.cells = mc) (hrs : rmc.slots = ms) (hfc : kc + mc ≤ rm.cells) (hfs : kn + ms ≤ rm.slots) (hR : rmc.frames + 1 ≤ rm.frames ∧ 8 + (maxL + 11) + rmc.locals ≤ rm.locals) (hn : As.length = n) (hs : As.reverse ++ rest = st) (hw : (rest.map fun v => v.category).sum ≤ 8) (hd : decode cc pc = .ok (.invokestatic index, 3))
    (kk : ∀ (r : Option Value) (M' : Mem), Post r M' → ZX g E (kc + mc) (kn + ms) xs M' lv (pc + 3) (r.toList ++ rest)) : ZX g E kc kn xs M lv pc st := by
  intro H locs ls hW hS hl'
  obtain ⟨⟨k1, k3, k4⟩, k5⟩ := K
  have ht := X.1.2.2.2.2.1
  have hrR : gR g = rm := X.1.2.2.2.2.2.2.1
  subst hs
  have hG : GoodIn wsL_law (.code y bytes maxL ret :: wsL_law) := wsL_app k4
  refine Wx_of_run (va_runS ⟨X.1.1, X.1.2.1, X.1.2.2.1, X.1.2.2.2.1, ht⟩ hM ⟨callB_of n ht hG rfl hrc hrs (ht _ k3) (ht _ hl) k5 ⟨by rw [hrR]; exact hR.1, by rw [hrR]; exact hR.2⟩, ht _ k1⟩ ⟨xPre_blind (cutX E xs) M _ hb, fun U hU hWm => ⟨rfl, xPre_of hW hS X.1.2.2.2.2.2.1 X.1.2.2.2.2.2.2.2 hU hWm, fun x hx => ⟨X.2 x (Nat.le_trans hS.1 (by rw [← hU]; exact hx)), fun c hc e => ?_⟩, hPr U H locs hS hU hWm⟩⟩ rfl hn (by show ls.size = nL; rw [hl'.1]; exact X.1.2.2.1) rfl (lv_room hw) hd ⟨by rw [hrR]; exact hfc, by rw [hrR]; exact hfs⟩) hW hS (fun r M' H1 locs1 hp hW1 hS1 => kk r M' hp H1 locs1 ls hW1 hS1 hl')
  obtain ⟨i, hi⟩ := List.getElem?_of_mem hc
  have h2 : (zws E M ++ xs)[(zws E M).length + i]? = some c := by rw [List.getElem?_append_right (Nat.le_add_right _ _), Nat.add_sub_cancel_left]; exact hi
  have := (hW.1 _ _ h2).lt
  rw [hU] at hx
  omega
theorem x_nopr (U : State) (g : JFrame) (mk : MethodId) (a : Array Value) : True → True := id
theorem x_pi {M1 : Mem} {v : Int32} (k : ZX g E kc kn xs M1 lv pc (.int v :: st)) : ∀ (r : Option Value) (M' : Mem), PI v M1 r M' → ZX g E kc kn xs M' lv pc (r.toList ++ st) := fun r M' h => by obtain ⟨rfl, rfl⟩ := h; exact k
theorem x_pl {M1 : Mem} {v : Int64} (k : ZX g E kc kn xs M1 lv pc (.long v :: st)) : ∀ (r : Option Value) (M' : Mem), PL v M1 r M' → ZX g E kc kn xs M' lv pc (r.toList ++ st) := fun r M' h => by obtain ⟨rfl, rfl⟩ := h; exact k
theorem x_pd {M1 : Mem} {v : UInt64} (k : ZX g E kc kn xs M1 lv pc (.double v :: st)) : ∀ (r : Option Value) (M' : Mem), PD v M1 r M' → ZX g E kc kn xs M' lv pc (r.toList ++ st) := fun r M' h => by obtain ⟨rfl, rfl⟩ := h; exact k
theorem x_pf {M1 : Mem} {v : UInt32} (k : ZX g E kc kn xs M1 lv pc (.float v :: st)) : ∀ (r : Option Value) (M' : Mem), PF v M1 r M' → ZX g E kc kn xs M' lv pc (r.toList ++ st) := fun r M' h => by obtain ⟨rfl, rfl⟩ := h; exact k
theorem x_pr {M1 : Mem} {a : Nat} (k : ZX g E kc kn xs M1 lv pc (.ref a :: st)) : ∀ (r : Option Value) (M' : Mem), PR a M1 r M' → ZX g E kc kn xs M' lv pc (r.toList ++ st) := fun r M' h => by obtain ⟨rfl, rfl⟩ := h; exact k
theorem x_ri {P : Int32 → Mem → Prop} (k : ∀ (v : Int32) (M1 : Mem), P v M1 → ZX g E kc kn xs M1 lv pc (.int v :: st)) : ∀ (r : Option Value) (M' : Mem), RI P r M' → ZX g E kc kn xs M' lv pc (r.toList ++ st) := fun r M' h => by obtain ⟨v, rfl, h⟩ := h; exact k v M' h
def RR (a : Nat) (P : Mem → Prop) : Option Value → Mem → Prop := fun r M' => r = some (.ref a) ∧ P M'
theorem x_rr {a : Nat} {P : Mem → Prop} (k : ∀ (M1 : Mem), P M1 → ZX g E kc kn xs M1 lv pc (.ref a :: st)) : ∀ (r : Option Value) (M' : Mem), RR a P r M' → ZX g E kc kn xs M' lv pc (r.toList ++ st) := fun r M' h => by obtain ⟨rfl, h⟩ := h; exact k M' h
/-! a method's ends -/
theorem x_zret (X : Cx g E own cc nL rm) {Post : Option Value → Mem → Prop} {mc ms : Nat} {v : Int32} {ty : FieldType} (Y : Rx g E (some ty) Post mc ms) (hn : narrow ty (.int v) = .int v) (h1 : kc ≤ mc) (h2 : kn ≤ ms) (hd : decode cc pc = .ok (.ireturn, 1)) (hp : Post (some (.int v)) M) : ZX g E kc kn xs M lv pc [.int v] := by
  intro H locs ls hW hS hl
  refine W.widen h1 h2 ?_
  show W _ _ _ _ _ _ _ _ _ _ _ _ _ _ (gQ g) _
  rw [Y.2.2]
  exact W.zret X.1.1 X.1.2.1 Y.1 hn (fun t ht _ => ⟨⟨_, M, rfl, hp, by rw [ht]; exact hW.wd⟩, hS.F ht⟩) hS.2.2 hd Y.2.1
theorem x_lret (X : Cx g E own cc nL rm) {Post : Option Value → Mem → Prop} {v : Int64} (Y : Rx g E (some .long) Post kc kn) (hd : decode cc pc = .ok (.lreturn, 1)) (hp : Post (some (.long v)) M) : ZX g E kc kn xs M lv pc [.long v] := by
  intro H locs ls hW hS hl
  show W _ _ _ _ _ _ _ _ _ _ _ _ _ _ (gQ g) _
  rw [Y.2.2]
  exact W.lret X.1.1 X.1.2.1 Y.1 (fun t ht _ => ⟨⟨_, M, rfl, hp, by rw [ht]; exact hW.wd⟩, hS.F ht⟩) hS.2.2 hd Y.2.1
theorem x_aret (X : Cx g E own cc nL rm) {Post : Option Value → Mem → Prop} {a : Nat} {n : String} (Y : Rx g E (some (.object n)) Post kc kn) (hd : decode cc pc = .ok (.areturn, 1)) (hp : Post (some (.ref a)) M) : ZX g E kc kn xs M lv pc [.ref a] := by
  intro H locs ls hW hS hl
  show W _ _ _ _ _ _ _ _ _ _ _ _ _ _ (gQ g) _
  rw [Y.2.2]
  exact W.aret X.1.1 X.1.2.1 Y.1 (Or.inl ⟨n, rfl⟩) (Or.inr ⟨a, rfl⟩) (fun t ht _ => ⟨⟨_, M, rfl, hp, by rw [ht]; exact hW.wd⟩, hS.F ht⟩) hS.2.2 hd Y.2.1
theorem x_loop (N : Nat) (pc : Nat) {σ : Type} (J : Nat → σ → Prop) (F : Nat → σ → Mem × List (Nat × Value)) (hs : ∀ (i : Nat) (s : σ), i ≤ N → J i s → (∀ s' : σ, i < N → J (i + 1) s' → ZX g E kc kn xs (F (i + 1) s').1 (F (i + 1) s').2 pc []) → ZX g E kc kn xs (F i s).1 (F i s).2 pc []) : ∀ (i : Nat) (s : σ), i ≤ N → J i s → ZX g E kc kn xs (F i s).1 (F i s).2 pc [] := by
  intro i s hi hJ
  obtain ⟨d, hd⟩ : ∃ d, d = N - i := ⟨_, rfl⟩
  induction d generalizing i s with
  | zero => exact hs i s hi hJ (fun s' h => absurd h (by omega))
  | succ d ih => exact hs i s hi hJ (fun s' h hJ' => ih (i + 1) s' (by omega) hJ' (by omega))
end ZXR
