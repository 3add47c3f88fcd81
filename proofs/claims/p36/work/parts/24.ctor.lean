/-! ===== the class's constructors: the world as a list; what a constructor makes is put behind it ===== -/
def nstL : List (String × Nat × MethodName) := [(RX10, 9, yX9_init), (RX9, 11, yX2_init), (RX9, 20, yX4_init), (RX9, 27, yX1_init), (RX3, 15, yX9_init), (RX10, 28, yX0_init), (RX10, 38, yX5_init), (RX10, 54, yX6_init)]
def Nst (U : State) : Prop := (∀ q ∈ nstL, va_Nw (.methodLinkNest q.1 q.2.1 q.2.2 "ChairLeague") U) ∧ va_AO "ChairLeague$State" U
theorem Nst.warm {s U : State} (hW : s.WarmedH U.vm) (h : Nst s) : Nst U := ⟨fun q hq => (h.1 q hq).warmM hW, h.2.moved hW.alike⟩
theorem Nst.calling {U : State} {g : JFrame} {mk : MethodId} {a : Array Value} (h : Nst U) : Nst (U.calling g mk a) := ⟨fun q hq => va_Nw.same (u := U) rfl rfl (h.1 q hq), h.2.moved (u := U) (U := U.calling g mk a) (Vm.Alike.refl U.vm)⟩
def cPre (E : ZE) (ws : va_W) (U : State) : Prop := va_P (zD E) vwCl ws U.heap ∧ va_D (zA E) ws ∧ va_K (zD E) vwCl (tysE E) U ∧ (∀ x : Nat, U.heap.size ≤ x → zA E x) ∧ Nst U
def cQ (E : ZE) (ws : va_W) (q : Nat) (R : Nat → va_E → va_W → Prop) : Array Value → State → Outcome → State → Prop := fun _ st oc t => (∃ c1 new, oc = .returned none ∧ R q c1 new ∧ va_P (zD E) vwCl (ws ++ (q, c1) :: new) t.heap ∧ va_D (zA E) (ws ++ (q, c1) :: new)) ∧ va_F (zA E) st t
def Ct (E : ZE) (y : MethodName) (cc : ByteArray) (nL : Nat) (rm : Room) (As : List Value) (c0 : va_E) (R : Nat → va_E → va_W → Prop) (mc ms : Nat) : Prop :=
  ∀ (ws : va_W) (q : Nat), Met (zl E) y (.code y cc nL none :: wsL_law) rm (va_Pc (.ref q :: As) (cPre E (ws ++ [(q, c0)]))) (cQ E ws q R) mc ms (zA E)
def ZY (g : ZG) (E : ZE) (ws : va_W) (k n : Nat) (lv : List (Nat × Value)) (pc : Nat) (st : List Value) : Prop :=
  ∀ (H : Heap) (locs : List Loc) (ls : Array Slot), va_P (zD E) vwCl ws H → va_D (zA E) ws → va_S (zA E) (gs g).heap H locs → lv_has ls (gc g).maxLocals lv → W (gp g) (zl E) (ge g) (gR g) (gs g) (gm g) (ga g) (gb g) (gM g) (gc g) H locs k n (gQ g) (F0 (gm g) pc ls st)
def Cy (g : ZG) (E : ZE) (own : String) (cc : ByteArray) (nL : Nat) (rm : Room) : Prop :=
  (gp g).tables.exec = Jvm.exec ∧ (gc g).code = cc ∧ (gc g).maxLocals = nL ∧ (gs g).vm.findClass own = some (gm g).cls ∧ (∀ w ∈ wsL_law, w.before (ga g) (gs g) = true) ∧ va_K (zD E) vwCl (tysE E) (gs g) ∧ gR g = rm ∧ (∀ x : Nat, (gs g).heap.size ≤ x → zA E x) ∧ Nst (gs g) ∧ (gM g).name = "<init>"
def Ry (g : ZG) (E : ZE) (ws : va_W) (q : Nat) (R : Nat → va_E → va_W → Prop) (mc ms : Nat) : Prop := (gM g).sig.returnType = none ∧ (gM g).locks = false ∧ gQ g = MQ (gb g) (cQ E ws q R) (ga g) (gs g) mc ms (zA E)
theorem y_met {E : ZE} {y : MethodName} {cc : ByteArray} {nL : Nat} {rm : Room} {As : List Value} {c0 : va_E} {R : Nat → va_E → va_W → Prop} {mc ms : Nat} {own : String} {lv : Nat → List (Nat × Value)}
    (hy : plainName y.cls = true ∧ y.name = "<init>") (hown : y.cls = own) (hn : (lg_sl (.ref 0 :: As)).length ≤ nL) (hlv : ∀ h0 : Nat, lv_args 0 (.ref h0 :: As) = lv h0)
    (body : ∀ (ws : va_W) (h0 : Nat) (g : ZG), Cy g E own cc nL rm → Ry g E ws h0 R mc ms → ZY g E (ws ++ (h0, c0) :: []) 0 0 (lv h0) 0 []) : Ct E y cc nL rm As c0 R mc ms := by
  intro ws h0
  refine Met.ofW (cc := cc) (maxL := nL) (ret := none) hy.1 rfl ?_
  intro p e s m args' below meth c s₁ B hml hv
  obtain ⟨rfl, hP, hD, hK, hA, hN⟩ := hv
  have hts := atoms_spec (ws := Cond.code y cc nL none :: wsL_law) B.pre
  have hown' : s.vm.findClass own = some m.cls := by rw [← hown]; exact findClass_of_methodNamed B.named
  have hin : meth.name = "<init>" := (name_of_methodNamed B.named B.method).1.trans hy.2
  have hn' : (lg_sl (.ref h0 :: As)).length ≤ nL := hn
  have hl := lv_entry (.ref h0 :: As) (n := nL) hn'
  rw [lg_entry_eq]
  generalize (lg_sl (.ref h0 :: As) ++ List.replicate (nL - (lg_sl (.ref h0 :: As)).length) Slot.unset).toArray = ls at hl ⊢
  rw [hlv h0] at hl
  exact body ws h0 (p, e, (headSpec (Cond.code y cc nL none :: wsL_law) rm).room, s, m, (Value.ref h0 :: As).toArray, below, meth, c, MQ below (cQ E ws h0 R) (Value.ref h0 :: As).toArray s mc ms (zA E)) ⟨B.exec, B.bytes, hml, hown', fun w hw => hts w (List.mem_cons_of_mem _ hw), hK, rfl, hA, hN, hin⟩ ⟨B.returns, B.notSynchronized, rfl⟩ s.heap [] ls hP hD va_S.rf (by rw [show (gc (p, e, (headSpec (Cond.code y cc nL none :: wsL_law) rm).room, s, m, (Value.ref h0 :: As).toArray, below, meth, c, MQ below (cQ E ws h0 R) (Value.ref h0 :: As).toArray s mc ms (zA E))).maxLocals = nL from hml]; exact hl)
section ZYR
variable {g : ZG} {E : ZE} {own : String} {cc : ByteArray} {nL : Nat} {rm : Room} {ws : va_W} {k n : Nat} {lv : List (Nat × Value)} {pc : Nat} {st : List Value}
theorem y_aload (X : Cy g E own cc nL rm) {j : Fin 4} {i : Nat} {x : Nat} (q : Nat) (hd : decode cc pc = .ok (.aload_n j, 1)) (hi : (j : Nat) = i) (hq : lv[q]? = some (i, .ref x)) (kk : ZY g E ws k n lv (pc + 1) (.ref x :: st)) : ZY g E ws k n lv pc st := fun H locs ls hP hD hS hl => lv_aload_n X.1 X.2.1 hd hi (lv_at hl q hq) (kk H locs ls hP hD hS hl)
theorem y_iload (X : Cy g E own cc nL rm) {j : Fin 4} {i : Nat} {x : Int32} (q : Nat) (hd : decode cc pc = .ok (.iload_n j, 1)) (hi : (j : Nat) = i) (hq : lv[q]? = some (i, .int x)) (kk : ZY g E ws k n lv (pc + 1) (.int x :: st)) : ZY g E ws k n lv pc st := fun H locs ls hP hD hS hl => lv_iload_n X.1 X.2.1 hd hi (lv_at hl q hq) (kk H locs ls hP hD hS hl)
theorem y_iconst (X : Cy g E own cc nL rm) {i : Int} {v : Int32} (hd : decode cc pc = .ok (.iconst i, 1)) (hv : Int32.ofInt i = v) (kk : ZY g E ws k n lv (pc + 1) (.int v :: st)) : ZY g E ws k n lv pc st := fun H locs ls hP hD hS hl => lv_iconst X.1 X.2.1 hd hv (kk H locs ls hP hD hS hl)
theorem y_bipush (X : Cy g E own cc nL rm) {i : Int} {v : Int32} (hd : decode cc pc = .ok (.bipush i, 2)) (hv : (Int8.ofInt i).toInt32 = v) (kk : ZY g E ws k n lv (pc + 2) (.int v :: st)) : ZY g E ws k n lv pc st := fun H locs ls hP hD hS hl => lv_bipush X.1 X.2.1 hd hv (kk H locs ls hP hD hS hl)
theorem y_sipush (X : Cy g E own cc nL rm) {i : Int} {v : Int32} (hd : decode cc pc = .ok (.sipush i, 3)) (hv : (Int16.ofInt i).toInt32 = v) (kk : ZY g E ws k n lv (pc + 3) (.int v :: st)) : ZY g E ws k n lv pc st := fun H locs ls hP hD hS hl => lv_sipush X.1 X.2.1 hd hv (kk H locs ls hP hD hS hl)
theorem y_dup (X : Cy g E own cc nL rm) {a : Value} (hd : decode cc pc = .ok (.dup, 1)) (ha : a.category = 1) (kk : ZY g E ws k n lv (pc + 1) (a :: a :: st)) : ZY g E ws k n lv pc (a :: st) := fun H locs ls hP hD hS hl => lv_dup X.1 X.2.1 hd ha (kk H locs ls hP hD hS hl)
theorem y_st {st' : List Value} (h : st = st') (kk : ZY g E ws k n lv pc st') : ZY g E ws k n lv pc st := h ▸ kk
theorem y_obj (X : Cy g E own cc nL rm) {idx a : Nat} (hl : Cond.methodLink own idx objectInit ∈ wsL_law) (hd : decode cc pc = .ok (.invokespecial idx, 3)) (hfr : 1 ≤ rm.frames) (hlo : (st.map fun v => v.category).sum + 12 ≤ rm.locals) (kk : ZY g E ws k n lv (pc + 3) st) : ZY g E ws k n lv pc (.ref a :: st) := by
  intro H locs ls hP hD hS hl'
  have hR : gR g = rm := X.2.2.2.2.2.2.1
  refine W.objInit X.1 X.2.1 X.2.2.2.1 (X.2.2.2.2.1 _ hl) (X.2.2.2.2.1 _ gw_8) (X.2.2.2.2.1 _ gw_9) rfl (by rw [hl'.1]) rfl hd (by rw [hR]; exact hfr) (by rw [hR]; show 2 * 0 + _ + 12 ≤ _; omega) ?_
  exact kk H locs ls hP hD hS hl'
theorem y_new (X : Cy g E own cc nL rm) {ci N index : Nat} {C : String} {T : u_T} {fs : List Value} (hin : ∀ w ∈ u_ws C T N, w ∈ wsL_law) (ty : Nat → FieldType) (hty : ∀ k, k < N → parseFieldDescriptor (T k).2.2.1 = some (ty k)) (hcl : Cond.classLink own index C ∈ wsL_law) (hinst : Cond.instantiable C N ∈ wsL_law) (hini : Cond.initialized C ∈ wsL_law) (hc : vwCl[ci]? = some (C, T, N)) (hfs : ∀ j, j < N → defaultValue (ty j) = vp_V fs j) (hk : k + 1 ≤ rm.cells) (hn : n + N ≤ rm.slots) (hd : decode cc pc = .ok (.new index, 3))
    (kk : ∀ q, ZY g E (ws ++ [(q, .inr (ci, fs))]) (k + 1) (n + N) lv (pc + 3) (.ref q :: st)) : ZY g E ws k n lv pc st := fun H locs ls hP hD hS hl =>
  va_new X.1 X.2.1 X.2.2.2.2.1 hin ty hty X.2.2.2.1 (X.2.2.2.2.1 _ hcl) (X.2.2.2.2.1 _ hinst) (X.2.2.2.2.1 _ hini) X.2.2.2.2.2.1 hP hD hS X.2.2.2.2.2.2.2.1 hc hfs (by rw [X.2.2.2.2.2.2.1]; exact hk) (by rw [X.2.2.2.2.2.2.1]; exact hn) hd (fun q H1 hP1 hD1 hS1 => kk q H1 locs ls hP1 hD1 hS1 hl)
theorem ra_eq {U : State} {a b : ClassId} {ty : FieldType} (h1 : va_RA U a ty) (h2 : va_RA U b ty) : a = b := by
  cases ty with
  | object C =>
    obtain ⟨_, _, _, _, _, e1⟩ := h1
    obtain ⟨_, _, _, _, _, e2⟩ := h2
    exact Option.some.inj (e1.symm.trans e2)
  | _ => exact Option.some.inj (Eq.trans (Eq.symm h1) h2)
theorem y_newI (X : Cy g E own cc nL rm) {n' : Nat} (harr : Cond.arrayClass .int ∈ wsL_law) (hn : n' ≤ 200) (hk : k + 1 ≤ rm.cells) (hs : n + n' ≤ rm.slots) (hd : decode cc pc = .ok (.newarray .int, 2))
    (kk : ∀ q, ZY g E (ws ++ [(q, .inl (zcI E, n', .inl (fun _ => 0)))]) (k + 1) (n + n') lv (pc + 2) (.ref q :: st)) : ZY g E ws k n lv pc (.int (nI n') :: st) := fun H locs ls hP hD hS hl =>
  va_newa (atype := .int) (ty := .int) (a0 := (n', .inl (fun _ => 0))) X.1 X.2.1 (X.2.2.2.2.1 _ harr) rfl X.2.2.2.2.2.1 hP hD hS X.2.2.2.2.2.2.2.1 (fun _ => rfl) (nI_pos (by omega)) (nI_clamp (by omega)) (by show n' * 4 ≤ _; omega) (by rw [X.2.2.2.2.2.2.1]; exact hk) (by rw [X.2.2.2.2.2.2.1]; exact hs) hd (fun q cA H1 hK1 hP1 hD1 hS1 => by
    have e : cA = zcI E := ra_eq (hK1.2 2 _ rfl).2 (hK1.2 0 _ rfl).2
    subst e
    exact kk q H1 locs ls hP1 hD1 hS1 hl)
theorem y_max (X : Cy g E own cc nL rm) {index : Nat} {x y : Int32} (hlink : Cond.methodLink own index Lib.Math.max.name ∈ wsL_law) (hstat : Cond.static Lib.Math.max.name ∈ wsL_law) (hini : Cond.initialized "java/lang/Math" ∈ wsL_law) (hcode : Cond.code Lib.Math.max.name Lib.Math.max.code 2 (some .int) ∈ wsL_law) (hd : decode cc pc = .ok (.invokestatic index, 3)) (hk : k ≤ rm.cells) (hn : n ≤ rm.slots) (hfr : 1 ≤ rm.frames) (hlo : (st.map fun v => v.category).sum + 13 ≤ rm.locals) (_h : True)
    (kk : ZY g E ws k n lv (pc + 3) (.int (if x < y then y else x) :: st)) : ZY g E ws k n lv pc (.int y :: .int x :: st) := fun H locs ls hP hD hS hl =>
  va_mmax X.1 X.2.1 (by rw [hl.1]) X.2.2.2.1 (X.2.2.2.2.1 _ hlink) (X.2.2.2.2.1 _ hstat) (X.2.2.2.2.1 _ hini) (X.2.2.2.2.1 _ hcode) (by rw [X.2.2.2.2.2.2.1]; exact hfr) (by rw [X.2.2.2.2.2.2.1]; exact hlo) (by rw [X.2.2.2.2.2.2.1]; exact hk) (by rw [X.2.2.2.2.2.2.1]; exact hn) hd (kk H locs ls hP hD hS hl)
theorem mid_get {ws rest : va_W} {c : Nat × va_E} : (ws ++ c :: rest)[ws.length]? = some c := by simp
theorem mid_set {ws rest : va_W} {c c' : Nat × va_E} : (ws ++ c :: rest).set ws.length c' = ws ++ c' :: rest := by simp
theorem y_put (X : Cy g E own cc nL rm) {h0 ci index N : Nat} {ref C : String} {T : u_T} {fs : List Value} {v : Value} {ty : FieldType} {rest : va_W} (hin : ∀ w ∈ u_ws C T N, w ∈ wsL_law) (ty0 : Nat → FieldType) (hty : ∀ k, k < N → parseFieldDescriptor (T k).2.2.1 = some (ty0 k)) (hnm : ∀ a, a < N → ∀ b, b < N → a ≠ b → (T a).2.1 ≠ (T b).2.1) (hc : vwCl[ci]? = some (C, T, N)) (fk : Nat) (hk : fk < N) (hlink : Cond.fieldLink own index ref (T fk).2.1 (T fk).2.2.1 ∈ wsL_law) (href : (T fk).1 = ref) (hfin : (T fk).2.2.2 = false) (hp : parseFieldDescriptor (T fk).2.2.1 = some ty) (hna : narrow ty v = v) (hfit : fits ty v = true) (hle : fk < fs.length) (hd : decode cc pc = .ok (.putfield index, 3))
    (kk : ZY g E (ws ++ (h0, .inr (ci, fs.set fk v)) :: rest) k n lv (pc + 3) st) : ZY g E (ws ++ (h0, .inr (ci, fs)) :: rest) k n lv pc (v :: .ref h0 :: st) := fun H locs ls hP hD hS hl => by
  subst href
  refine va_put X.1 X.2.1 X.2.2.2.2.1 hin ty0 hty hnm X.2.2.2.1 X.2.2.2.2.2.1 hP hD hS ws.length mid_get hc fk hk (X.2.2.2.2.1 _ hlink) (fun _ h9 => h9) hfin hp hna hfit hle hd (fun H1 locs1 hP1 hD1 hS1 => ?_)
  rw [mid_set] at hP1 hD1
  exact kk H1 locs1 ls hP1 hD1 hS1 hl
theorem y_putF (X : Cy g E own cc nL rm) {h0 ci index N : Nat} {ref C : String} {T : u_T} {fs : List Value} {v : Value} {ty : FieldType} {rest : va_W} (hin : ∀ w ∈ u_ws C T N, w ∈ wsL_law) (ty0 : Nat → FieldType) (hty : ∀ k, k < N → parseFieldDescriptor (T k).2.2.1 = some (ty0 k)) (hnm : ∀ a, a < N → ∀ b, b < N → a ≠ b → (T a).2.1 ≠ (T b).2.1) (hc : vwCl[ci]? = some (C, T, N)) (fk : Nat) (hk : fk < N) (hlink : Cond.fieldLink own index ref (T fk).2.1 (T fk).2.2.1 ∈ wsL_law) (href : (T fk).1 = ref) (hfin : (T fk).2.2.2 = true) (hdecl : (T fk).1 = own) (hp : parseFieldDescriptor (T fk).2.2.1 = some ty) (hna : narrow ty v = v) (hfit : fits ty v = true) (hle : fk < fs.length) (hd : decode cc pc = .ok (.putfield index, 3))
    (kk : ZY g E (ws ++ (h0, .inr (ci, fs.set fk v)) :: rest) k n lv (pc + 3) st) : ZY g E (ws ++ (h0, .inr (ci, fs)) :: rest) k n lv pc (v :: .ref h0 :: st) := fun H locs ls hP hD hS hl => by
  subst href
  refine va_putF X.1 X.2.1 X.2.2.2.2.1 hin ty0 hty hnm X.2.2.2.1 X.2.2.2.2.2.1 hP hD hS ws.length mid_get hc fk hk (X.2.2.2.2.1 _ hlink) (fun _ h9 => h9) hfin X.2.2.2.2.2.2.2.2.2 hdecl hp hna hfit hle hd (fun H1 locs1 hP1 hD1 hS1 => ?_)
  rw [mid_set] at hP1 hD1
  exact kk H1 locs1 ls hP1 hD1 hS1 hl
theorem y_fs {h0 ci : Nat} {fs fs' : List Value} {rest : va_W} (h : fs = fs') (kk : ZY g E (ws ++ (h0, .inr (ci, fs')) :: rest) k n lv pc st) : ZY g E (ws ++ (h0, .inr (ci, fs)) :: rest) k n lv pc st := h ▸ kk
theorem y_nrm {c : Nat × va_E} {x rest rest' : va_W} (h : rest' = rest ++ x) (kk : ZY g E (ws ++ c :: rest') k n lv pc st) : ZY g E ((ws ++ c :: rest) ++ x) k n lv pc st := by
  subst h
  rw [List.append_assoc]
  exact kk
theorem y_ret (X : Cy g E own cc nL rm) {h0 : Nat} {c1 : va_E} {rest : va_W} {R : Nat → va_E → va_W → Prop} (Y : Ry g E ws h0 R k n) (hd : decode cc pc = .ok (.return_, 1)) (hR : R h0 c1 rest) : ZY g E (ws ++ (h0, c1) :: rest) k n lv pc [] := by
  intro H locs ls hP hD hS hl
  show W _ _ _ _ _ _ _ _ _ _ _ _ _ _ (gQ g) _
  rw [Y.2.2]
  exact W.vret X.1 X.2.1 Y.1 (fun t ht _ => ⟨⟨c1, rest, rfl, hR, by rw [ht]; exact hP, hD⟩, hS.F ht⟩) hS.2.2 hd Y.2.1
theorem Wc_of_run {p : Program} {l : Launch} {e : Env} {R0 : Room} {s : State} {m : MethodId} {args : Array Value} {below : List Frame} {meth : Method} {c : Code} {H : Heap} {locs : List Loc} {Q : State → Prop} {fr : JFrame} {rest : List Value} {E : ZE} {ws : va_W} {q kc kn mc ms : Nat} {R : Nat → va_E → va_W → Prop} {av : Array Value}
    (hr : va_Run p l e R0 s m args below meth c H locs kc kn mc ms fr rest (cQ E ws q R av) (zA E)) (hS : va_S (zA E) s.heap H locs)
    (kk : ∀ (c1 : va_E) (new : va_W) (H1 : Heap) (locs1 : List Loc), R q c1 new → va_P (zD E) vwCl (ws ++ (q, c1) :: new) H1 → va_D (zA E) (ws ++ (q, c1) :: new) → va_S (zA E) s.heap H1 locs1 → W p l e R0 s m args below meth c H1 locs1 (kc + mc) (kn + ms) Q { fr with pc := fr.pc + 3, stack := rest }) : W p l e R0 s m args below meth c H locs kc kn Q fr := by
  intro T hT X
  obtain ⟨v, st₀, t, T', L, h0, X', hL, e1, e2, ⟨⟨c1, new, hv, hp, hw, hw2⟩, hz, hk⟩, stp⟩ := hr T hT X
  cases hv
  have hS' : va_S (zA E) s.heap T'.heap (locs ++ L) := by
    refine ⟨?_, fun q hq hn => ?_, fun q hq => ?_⟩
    · rw [e1]; rw [h0] at hz; exact Nat.le_trans hS.1 hz
    · rw [e1]
      rw [h0] at hk
      rw [hk q (Nat.lt_of_lt_of_le hq hS.1) hn]
      exact hS.2.1 q hq hn
    · rcases List.mem_append.mp hq with h | h
      · exact hS.2.2 q h
      · exact hL q h
  obtain ⟨t', a1, b1⟩ := kk c1 new T'.heap (locs ++ L) hp (by rw [e1]; exact hw) hw2 hS' T' rfl X'
  exact ⟨t', stp t' a1, b1⟩
theorem cPre_blind (E : ZE) (ws : va_W) (As : List Value) : FrameBlind (va_Pc As (cPre E ws)) := fun a U g mk q => by
  obtain ⟨h1, h2, h3, h4, h5, h6⟩ := q
  exact ⟨h1, h2, h3, va_K.moved (u := U) (U := U.calling g mk a) (Vm.Alike.refl U.vm) h4, h5, h6.calling⟩
theorem cPre_of {E : ZE} {ws : va_W} {s U : State} {H : Heap} {locs : List Loc} (hP : va_P (zD E) vwCl ws H) (hD : va_D (zA E) ws) (hS : va_S (zA E) s.heap H locs) (hK : va_K (zD E) vwCl (tysE E) s) (hA : ∀ x : Nat, s.heap.size ≤ x → zA E x) (hN : Nst s) (hU : U.heap = H) (hw : s.WarmedH U.vm) : cPre E ws U := by
  subst hU
  exact ⟨hP, hD, va_K.moved hw.alike hK, fun x hx => hA x (Nat.le_trans hS.1 hx), hN.warm hw⟩
theorem y_callI (X : Cy g E own cc nL rm) {y : MethodName} {bytes : ByteArray} {maxL index mc ms h0 q : Nat} {rmc : Room} {As : List Value} {c0 c : va_E} {rest : va_W} {R : Nat → va_E → va_W → Prop} {st0 : List Value}
    (hM : Ct E y bytes maxL rmc As c0 R mc ms) (hl : Cond.methodLink own index y ∈ wsL_law) (him : Cond.instanceMethod y ∈ wsL_law) (hic : Cond.initialized y.cls ∈ wsL_law ∧ Cond.code y bytes maxL none ∈ wsL_law)
    (hdes : y.name = "<init>" ∧ y.cls ≠ "java/lang/invoke/MethodHandle" ∧ y.cls ≠ "java/lang/invoke/VarHandle" ∧ (parseMethodDescriptor y.desc).map (fun d => d.parameters.length) = some As.length) (hR : rmc.frames + 1 ≤ rm.frames ∧ 8 + (maxL + 11) + rmc.locals ≤ rm.locals) (hrc : rmc.cells = mc) (hrs : rmc.slots = ms) (hw : (st.map fun v => v.category).sum ≤ 8) (hd : decode cc pc = .ok (.invokespecial index, 3)) (hfc : k + mc ≤ rm.cells) (hfs : n + ms ≤ rm.slots) (hs : As.reverse ++ .ref q :: st = st0 := by rfl)
    (kk : ∀ (c1 : va_E) (new : va_W), R q c1 new → ZY g E (ws ++ (h0, c) :: (rest ++ (q, c1) :: new)) (k + mc) (n + ms) lv (pc + 3) st) : ZY g E ((ws ++ (h0, c) :: rest) ++ [(q, c0)]) k n lv pc st0 := by
  subst hs
  intro H locs ls hP hD hS hl'
  have ht := X.2.2.2.2.1
  have hrR : gR g = rm := X.2.2.2.2.2.2.1
  refine Wc_of_run (va_runI (As := As) (rest := st) ⟨X.1, X.2.1, X.2.2.1, X.2.2.2.1, ht⟩ (hM (ws ++ (h0, c) :: rest) q) (cwI As.length ht (wsL_app hic.2) rfl hrc hrs (ht _ hic.1) (ht _ hl) (ht _ him) hdes.1 hdes.2 ⟨by rw [hrR]; exact hR.1, by rw [hrR]; exact hR.2⟩) ⟨cPre_blind E _ _, fun U hU hWm => ⟨rfl, cPre_of hP hD hS X.2.2.2.2.2.1 X.2.2.2.2.2.2.2.1 X.2.2.2.2.2.2.2.2.1 hU hWm⟩⟩ rfl rfl (by show ls.size = nL; rw [hl'.1]; exact X.2.2.1) rfl (lv_room hw) hd ⟨by rw [hrR]; exact hfc, by rw [hrR]; exact hfs⟩) hS (fun c1 new H1 locs1 hRR hP1 hD1 hS1 => ?_)
  rw [List.append_assoc, List.cons_append] at hP1 hD1
  exact kk c1 new hRR H1 locs1 ls hP1 hD1 hS1 hl'
theorem y_callN (X : Cy g E own cc nL rm) {y : MethodName} {bytes : ByteArray} {maxL index mc ms h0 q : Nat} {rmc : Room} {As : List Value} {c0 c : va_E} {rest : va_W} {R : Nat → va_E → va_W → Prop} {st0 : List Value}
    (hM : Ct E y bytes maxL rmc As c0 R mc ms) (hl : (own, index, y) ∈ nstL) (him : Cond.instanceMethod y ∈ wsL_law) (hic : Cond.initialized y.cls ∈ wsL_law ∧ Cond.code y bytes maxL none ∈ wsL_law)
    (hdes : y.name = "<init>" ∧ y.cls ≠ "java/lang/invoke/MethodHandle" ∧ y.cls ≠ "java/lang/invoke/VarHandle" ∧ (parseMethodDescriptor y.desc).map (fun d => d.parameters.length) = some As.length) (hR : rmc.frames + 1 ≤ rm.frames ∧ 8 + (maxL + 11) + rmc.locals ≤ rm.locals) (hrc : rmc.cells = mc) (hrs : rmc.slots = ms) (hw : (st.map fun v => v.category).sum ≤ 8) (hd : decode cc pc = .ok (.invokespecial index, 3)) (hfc : k + mc ≤ rm.cells) (hfs : n + ms ≤ rm.slots) (hs : As.reverse ++ .ref q :: st = st0 := by rfl)
    (kk : ∀ (c1 : va_E) (new : va_W), R q c1 new → ZY g E (ws ++ (h0, c) :: (rest ++ (q, c1) :: new)) (k + mc) (n + ms) lv (pc + 3) st) : ZY g E ((ws ++ (h0, c) :: rest) ++ [(q, c0)]) k n lv pc st0 := by
  subst hs
  intro H locs ls hP hD hS hl'
  have ht := X.2.2.2.2.1
  have hrR : gR g = rm := X.2.2.2.2.2.2.1
  refine Wc_of_run (va_runIN (As := As) (rest := st) (host := "ChairLeague") ⟨X.1, X.2.1, X.2.2.1, X.2.2.2.1, ht⟩ (hM (ws ++ (h0, c) :: rest) q) ⟨va_cnB As.length ht (wsL_app hic.2) rfl hrc hrs (X.2.2.2.2.2.2.2.2.1.1 _ hl) (ht _ hic.1) hdes.2 ⟨by rw [hrR]; exact hR.1, by rw [hrR]; exact hR.2⟩, hdes.1, ht _ him⟩ ⟨cPre_blind E _ _, fun U hU hWm => ⟨rfl, cPre_of hP hD hS X.2.2.2.2.2.1 X.2.2.2.2.2.2.2.1 X.2.2.2.2.2.2.2.2.1 hU hWm⟩⟩ rfl rfl (by show ls.size = nL; rw [hl'.1]; exact X.2.2.1) rfl (lv_room hw) hd ⟨by rw [hrR]; exact hfc, by rw [hrR]; exact hfs⟩) hS (fun c1 new H1 locs1 hRR hP1 hD1 hS1 => ?_)
  rw [List.append_assoc, List.cons_append] at hP1 hD1
  exact kk c1 new hRR H1 locs1 ls hP1 hD1 hS1 hl'
end ZYR
/-! what the constructors make: a r is the address of role r -/
def rwL (E : ZE) (n : Nat) (a : Nat → Nat) (r : Nat) : va_W := [(a r, .inr (7, [.ref (a (r + 1))])), (a (r + 1), .inl (zcI E, n, .inl (fun _ => 0)))]
def ch0 (b : Nat) (a : Nat → Nat) : va_E := .inr (2, [.int 0, .ref (a b), .ref (a (b + 2)), .ref (a (b + 4)), .ref (a (b + 6)), .ref (a (b + 8)), .ref (a (b + 10)), .ref (a (b + 12))])
def mu0 (b : Nat) (a : Nat → Nat) : va_E := .inr (4, [.int 0, .ref (a b), .ref (a (b + 2)), .ref (a (b + 4)), .ref (a (b + 6)), .ref (a (b + 8)), .ref (a (b + 10)), .ref (a (b + 12))])
def chL (E : ZE) (b : Nat) (a : Nat → Nat) : va_W := rwL E 10 a b ++ rwL E 10 a (b + 2) ++ rwL E 10 a (b + 4) ++ rwL E 10 a (b + 6) ++ rwL E 10 a (b + 8) ++ rwL E 10 a (b + 10) ++ rwL E 10 a (b + 12)
def bo0 : va_E := .inr (1, [.int 10, .int 0, .int 0, .int 0, .int 0, .int 0, .int 0])
def st0 (a : Nat → Nat) : va_E := .inr (9, [.ref (a 1), .ref (a 2), .ref (a 3)])
def stL (E : ZE) (a : Nat → Nat) : va_W := (a 1, ch0 4 a) :: chL E 4 a ++ (a 2, mu0 18 a) :: chL E 18 a ++ [(a 3, bo0)]
def as0 (a : Nat → Nat) : va_E := .inr (0, [.ref (a 4), .ref (a 6), .ref (a 8), .ref (a 10)])
def asL (E : ZE) (a : Nat → Nat) : va_W := rwL E 10 a 4 ++ rwL E 10 a 6 ++ rwL E 10 a 8 ++ rwL E 10 a 10
def sg0 (a : Nat → Nat) (n : Nat) : va_E := .inr (8, [.int (nI n), .ref (a 4), .int 0])
def sgL (E : ZE) (a : Nat → Nat) (n : Nat) : va_W := rwL E n a 4
def re0 (a : Nat → Nat) : va_E := .inr (6, [.ref (a 4), .ref (a 6), .int 0])
def reL (E : ZE) (a : Nat → Nat) : va_W := rwL E 3 a 4 ++ rwL E 3 a 6
def or0 (a : Nat → Nat) : va_E := .inr (5, [.ref (a 0), .ref (a 4), .ref (a 6), .ref (a 8), .ref (a 10), .int 0, .int 0])
def orL (E : ZE) (a : Nat → Nat) : va_W := (a 0, .inr (8, [.int (nI 60), .ref (a 14), .int 0])) :: rwL E 60 a 14 ++ rwL E 30 a 4 ++ rwL E 30 a 6 ++ rwL E 30 a 8 ++ rwL E 30 a 10
def kr_X7_init (n : Nat) : Room := { frames := 1, cells := 1, slots := n, locals := 21 }
set_option maxRecDepth 100000 in
set_option maxHeartbeats 4000000 in
theorem k_X7_init (E : ZE) (n : Nat) (hn : n ≤ 100) : Ct E yX7_init cX7_init 2 (kr_X7_init n) [.int (nI n)] (.inr (7, [.null])) (fun _ c1 new => ∃ r, c1 = .inr (7, [.ref r]) ∧ new = [(r, .inl (zcI E, n, .inl (fun _ => 0)))]) 1 (0 + n) := by
  refine y_met (own := RX7) (lv := fun h0 => [(0, .ref h0), (1, .int (nI n))]) (by decide) rfl (Nat.le_of_ble_eq_true rfl) (fun _ => rfl) (fun ws h0 gg X Y => ?_)
  refine y_aload X 0 dX7_init_0 rfl rfl ?_
  refine y_obj X gw_67 dX7_init_1 (Nat.le_of_ble_eq_true rfl) (Nat.le_of_ble_eq_true rfl) ?_
  refine y_aload X 0 dX7_init_4 rfl rfl ?_
  refine y_iload X 1 dX7_init_5 rfl rfl ?_
  refine y_iconst X (v := 0) dX7_init_6 (by decide) ?_
  refine y_max X gw_68 gw_69 gw_70 gw_71 dX7_init_7 (Nat.zero_le _) (Nat.zero_le _) (Nat.le_of_ble_eq_true rfl) (Nat.le_of_ble_eq_true rfl) trivial ?_
  refine y_st (st' := [.int (nI n), .ref h0]) (by rw [if_neg (nI_pos (by omega))]) ?_
  refine y_newI X (n' := n) gw_72 (by omega) (Nat.le_of_ble_eq_true rfl) (by show 0 + n ≤ n; omega) dX7_init_10 (fun q1 => ?_)
  refine y_nrm (rest' := [] ++ [(q1, .inl (zcI E, n, .inl (fun _ => 0)))]) rfl ?_
  refine y_putF X (ci := 7) (v := .ref q1) (ty := .array .int) (fs := [.null]) (rest := [] ++ [(q1, .inl (zcI E, n, .inl (fun _ => 0)))]) inlX7 tyX7 tyX7_ok nmX7 rfl 0 (by decide) gw_73 rfl rfl rfl (by decide +kernel) rfl rfl (Nat.le_of_ble_eq_true rfl) dX7_init_12 ?_
  refine y_fs (fs' := [.ref q1]) rfl ?_
  exact y_ret X Y dX7_init_15 ⟨q1, rfl, rfl⟩

def kr_X2_init : Room := { frames := 2, cells := 14, slots := 77, locals := 42 }
set_option maxRecDepth 100000 in
set_option maxHeartbeats 4000000 in
theorem k_X2_init (E : ZE)  : Ct E yX2_init cX2_init 1 kr_X2_init [] (.inr (2, [.int 0, .null, .null, .null, .null, .null, .null, .null])) (fun _ c1 new => ∃ a : Nat → Nat, c1 = ch0 4 a ∧ new = chL E 4 a) 14 77 := by
  refine y_met (own := RX2) (lv := fun h0 => [(0, .ref h0)]) (by decide) rfl (Nat.le_of_ble_eq_true rfl) (fun _ => rfl) (fun ws h0 gg X Y => ?_)
  refine y_aload X 0 dX2_init_0 rfl rfl ?_
  refine y_obj X gw_53 dX2_init_1 (Nat.le_of_ble_eq_true rfl) (Nat.le_of_ble_eq_true rfl) ?_
  refine y_aload X 0 dX2_init_4 rfl rfl ?_
  refine y_new X (ci := 7) (fs := [.null]) inlX7 tyX7 tyX7_ok gw_54 gw_55 gw_56 rfl (fun j hj => by rcases (show j = 0 by omega) with rfl <;> rfl) (Nat.le_of_ble_eq_true rfl) (Nat.le_of_ble_eq_true rfl) dX2_init_5 (fun q1 => ?_)
  refine y_dup X dX2_init_8 rfl ?_
  refine y_bipush X (v := 10) dX2_init_9 (by decide) ?_
  refine y_callI X (k := 1) (n := 1) (As := [.int 10]) (st := [.ref q1, .ref h0]) (k_X7_init E 10 (by first | decide | omega)) (h0 := h0) (c := .inr (2, [.int 0, .null, .null, .null, .null, .null, .null, .null])) (rest := []) (q := q1) gw_64 gw_65 ⟨gw_56, gw_66⟩ (by decide +kernel) ⟨Nat.le_of_ble_eq_true rfl, Nat.le_of_ble_eq_true rfl⟩ rfl rfl (Nat.le_of_ble_eq_true rfl) dX2_init_11 (Nat.le_of_ble_eq_true rfl) (Nat.le_of_ble_eq_true rfl) rfl (fun c1 new hR => ?_)
  obtain ⟨r2, rfl, rfl⟩ := hR
  refine y_putF X (ci := 2) (v := .ref q1) (ty := .object "ChairLeague$Row") (fs := [.int 0, .null, .null, .null, .null, .null, .null, .null]) (rest := [] ++ (q1, .inr (7, [.ref r2])) :: [(r2, .inl (zcI E, 10, .inl (fun _ => 0)))]) inlX2 tyX2 tyX2_ok nmX2 rfl 1 (by decide) gw_57 rfl rfl rfl (by decide +kernel) rfl rfl (Nat.le_of_ble_eq_true rfl) dX2_init_14 ?_
  refine y_fs (fs' := [.int 0, .ref q1, .null, .null, .null, .null, .null, .null]) rfl ?_
  refine y_aload X 0 dX2_init_17 rfl rfl ?_
  refine y_new X (ci := 7) (fs := [.null]) inlX7 tyX7 tyX7_ok gw_54 gw_55 gw_56 rfl (fun j hj => by rcases (show j = 0 by omega) with rfl <;> rfl) (Nat.le_of_ble_eq_true rfl) (Nat.le_of_ble_eq_true rfl) dX2_init_18 (fun q3 => ?_)
  refine y_dup X dX2_init_21 rfl ?_
  refine y_bipush X (v := 10) dX2_init_22 (by decide) ?_
  refine y_callI X (k := 3) (n := 12) (As := [.int 10]) (st := [.ref q3, .ref h0]) (k_X7_init E 10 (by first | decide | omega)) (h0 := h0) (c := .inr (2, [.int 0, .ref q1, .null, .null, .null, .null, .null, .null])) (rest := [] ++ (q1, .inr (7, [.ref r2])) :: [(r2, .inl (zcI E, 10, .inl (fun _ => 0)))]) (q := q3) gw_64 gw_65 ⟨gw_56, gw_66⟩ (by decide +kernel) ⟨Nat.le_of_ble_eq_true rfl, Nat.le_of_ble_eq_true rfl⟩ rfl rfl (Nat.le_of_ble_eq_true rfl) dX2_init_24 (Nat.le_of_ble_eq_true rfl) (Nat.le_of_ble_eq_true rfl) rfl (fun c1 new hR => ?_)
  obtain ⟨r4, rfl, rfl⟩ := hR
  refine y_putF X (ci := 2) (v := .ref q3) (ty := .object "ChairLeague$Row") (fs := [.int 0, .ref q1, .null, .null, .null, .null, .null, .null]) (rest := [] ++ (q1, .inr (7, [.ref r2])) :: [(r2, .inl (zcI E, 10, .inl (fun _ => 0)))] ++ (q3, .inr (7, [.ref r4])) :: [(r4, .inl (zcI E, 10, .inl (fun _ => 0)))]) inlX2 tyX2 tyX2_ok nmX2 rfl 2 (by decide) gw_58 rfl rfl rfl (by decide +kernel) rfl rfl (Nat.le_of_ble_eq_true rfl) dX2_init_27 ?_
  refine y_fs (fs' := [.int 0, .ref q1, .ref q3, .null, .null, .null, .null, .null]) rfl ?_
  refine y_aload X 0 dX2_init_30 rfl rfl ?_
  refine y_new X (ci := 7) (fs := [.null]) inlX7 tyX7 tyX7_ok gw_54 gw_55 gw_56 rfl (fun j hj => by rcases (show j = 0 by omega) with rfl <;> rfl) (Nat.le_of_ble_eq_true rfl) (Nat.le_of_ble_eq_true rfl) dX2_init_31 (fun q5 => ?_)
  refine y_dup X dX2_init_34 rfl ?_
  refine y_bipush X (v := 10) dX2_init_35 (by decide) ?_
  refine y_callI X (k := 5) (n := 23) (As := [.int 10]) (st := [.ref q5, .ref h0]) (k_X7_init E 10 (by first | decide | omega)) (h0 := h0) (c := .inr (2, [.int 0, .ref q1, .ref q3, .null, .null, .null, .null, .null])) (rest := [] ++ (q1, .inr (7, [.ref r2])) :: [(r2, .inl (zcI E, 10, .inl (fun _ => 0)))] ++ (q3, .inr (7, [.ref r4])) :: [(r4, .inl (zcI E, 10, .inl (fun _ => 0)))]) (q := q5) gw_64 gw_65 ⟨gw_56, gw_66⟩ (by decide +kernel) ⟨Nat.le_of_ble_eq_true rfl, Nat.le_of_ble_eq_true rfl⟩ rfl rfl (Nat.le_of_ble_eq_true rfl) dX2_init_37 (Nat.le_of_ble_eq_true rfl) (Nat.le_of_ble_eq_true rfl) rfl (fun c1 new hR => ?_)
  obtain ⟨r6, rfl, rfl⟩ := hR
  refine y_putF X (ci := 2) (v := .ref q5) (ty := .object "ChairLeague$Row") (fs := [.int 0, .ref q1, .ref q3, .null, .null, .null, .null, .null]) (rest := [] ++ (q1, .inr (7, [.ref r2])) :: [(r2, .inl (zcI E, 10, .inl (fun _ => 0)))] ++ (q3, .inr (7, [.ref r4])) :: [(r4, .inl (zcI E, 10, .inl (fun _ => 0)))] ++ (q5, .inr (7, [.ref r6])) :: [(r6, .inl (zcI E, 10, .inl (fun _ => 0)))]) inlX2 tyX2 tyX2_ok nmX2 rfl 3 (by decide) gw_59 rfl rfl rfl (by decide +kernel) rfl rfl (Nat.le_of_ble_eq_true rfl) dX2_init_40 ?_
  refine y_fs (fs' := [.int 0, .ref q1, .ref q3, .ref q5, .null, .null, .null, .null]) rfl ?_
  refine y_aload X 0 dX2_init_43 rfl rfl ?_
  refine y_new X (ci := 7) (fs := [.null]) inlX7 tyX7 tyX7_ok gw_54 gw_55 gw_56 rfl (fun j hj => by rcases (show j = 0 by omega) with rfl <;> rfl) (Nat.le_of_ble_eq_true rfl) (Nat.le_of_ble_eq_true rfl) dX2_init_44 (fun q7 => ?_)
  refine y_dup X dX2_init_47 rfl ?_
  refine y_bipush X (v := 10) dX2_init_48 (by decide) ?_
  refine y_callI X (k := 7) (n := 34) (As := [.int 10]) (st := [.ref q7, .ref h0]) (k_X7_init E 10 (by first | decide | omega)) (h0 := h0) (c := .inr (2, [.int 0, .ref q1, .ref q3, .ref q5, .null, .null, .null, .null])) (rest := [] ++ (q1, .inr (7, [.ref r2])) :: [(r2, .inl (zcI E, 10, .inl (fun _ => 0)))] ++ (q3, .inr (7, [.ref r4])) :: [(r4, .inl (zcI E, 10, .inl (fun _ => 0)))] ++ (q5, .inr (7, [.ref r6])) :: [(r6, .inl (zcI E, 10, .inl (fun _ => 0)))]) (q := q7) gw_64 gw_65 ⟨gw_56, gw_66⟩ (by decide +kernel) ⟨Nat.le_of_ble_eq_true rfl, Nat.le_of_ble_eq_true rfl⟩ rfl rfl (Nat.le_of_ble_eq_true rfl) dX2_init_50 (Nat.le_of_ble_eq_true rfl) (Nat.le_of_ble_eq_true rfl) rfl (fun c1 new hR => ?_)
  obtain ⟨r8, rfl, rfl⟩ := hR
  refine y_putF X (ci := 2) (v := .ref q7) (ty := .object "ChairLeague$Row") (fs := [.int 0, .ref q1, .ref q3, .ref q5, .null, .null, .null, .null]) (rest := [] ++ (q1, .inr (7, [.ref r2])) :: [(r2, .inl (zcI E, 10, .inl (fun _ => 0)))] ++ (q3, .inr (7, [.ref r4])) :: [(r4, .inl (zcI E, 10, .inl (fun _ => 0)))] ++ (q5, .inr (7, [.ref r6])) :: [(r6, .inl (zcI E, 10, .inl (fun _ => 0)))] ++ (q7, .inr (7, [.ref r8])) :: [(r8, .inl (zcI E, 10, .inl (fun _ => 0)))]) inlX2 tyX2 tyX2_ok nmX2 rfl 4 (by decide) gw_60 rfl rfl rfl (by decide +kernel) rfl rfl (Nat.le_of_ble_eq_true rfl) dX2_init_53 ?_
  refine y_fs (fs' := [.int 0, .ref q1, .ref q3, .ref q5, .ref q7, .null, .null, .null]) rfl ?_
  refine y_aload X 0 dX2_init_56 rfl rfl ?_
  refine y_new X (ci := 7) (fs := [.null]) inlX7 tyX7 tyX7_ok gw_54 gw_55 gw_56 rfl (fun j hj => by rcases (show j = 0 by omega) with rfl <;> rfl) (Nat.le_of_ble_eq_true rfl) (Nat.le_of_ble_eq_true rfl) dX2_init_57 (fun q9 => ?_)
  refine y_dup X dX2_init_60 rfl ?_
  refine y_bipush X (v := 10) dX2_init_61 (by decide) ?_
  refine y_callI X (k := 9) (n := 45) (As := [.int 10]) (st := [.ref q9, .ref h0]) (k_X7_init E 10 (by first | decide | omega)) (h0 := h0) (c := .inr (2, [.int 0, .ref q1, .ref q3, .ref q5, .ref q7, .null, .null, .null])) (rest := [] ++ (q1, .inr (7, [.ref r2])) :: [(r2, .inl (zcI E, 10, .inl (fun _ => 0)))] ++ (q3, .inr (7, [.ref r4])) :: [(r4, .inl (zcI E, 10, .inl (fun _ => 0)))] ++ (q5, .inr (7, [.ref r6])) :: [(r6, .inl (zcI E, 10, .inl (fun _ => 0)))] ++ (q7, .inr (7, [.ref r8])) :: [(r8, .inl (zcI E, 10, .inl (fun _ => 0)))]) (q := q9) gw_64 gw_65 ⟨gw_56, gw_66⟩ (by decide +kernel) ⟨Nat.le_of_ble_eq_true rfl, Nat.le_of_ble_eq_true rfl⟩ rfl rfl (Nat.le_of_ble_eq_true rfl) dX2_init_63 (Nat.le_of_ble_eq_true rfl) (Nat.le_of_ble_eq_true rfl) rfl (fun c1 new hR => ?_)
  obtain ⟨r10, rfl, rfl⟩ := hR
  refine y_putF X (ci := 2) (v := .ref q9) (ty := .object "ChairLeague$Row") (fs := [.int 0, .ref q1, .ref q3, .ref q5, .ref q7, .null, .null, .null]) (rest := [] ++ (q1, .inr (7, [.ref r2])) :: [(r2, .inl (zcI E, 10, .inl (fun _ => 0)))] ++ (q3, .inr (7, [.ref r4])) :: [(r4, .inl (zcI E, 10, .inl (fun _ => 0)))] ++ (q5, .inr (7, [.ref r6])) :: [(r6, .inl (zcI E, 10, .inl (fun _ => 0)))] ++ (q7, .inr (7, [.ref r8])) :: [(r8, .inl (zcI E, 10, .inl (fun _ => 0)))] ++ (q9, .inr (7, [.ref r10])) :: [(r10, .inl (zcI E, 10, .inl (fun _ => 0)))]) inlX2 tyX2 tyX2_ok nmX2 rfl 5 (by decide) gw_61 rfl rfl rfl (by decide +kernel) rfl rfl (Nat.le_of_ble_eq_true rfl) dX2_init_66 ?_
  refine y_fs (fs' := [.int 0, .ref q1, .ref q3, .ref q5, .ref q7, .ref q9, .null, .null]) rfl ?_
  refine y_aload X 0 dX2_init_69 rfl rfl ?_
  refine y_new X (ci := 7) (fs := [.null]) inlX7 tyX7 tyX7_ok gw_54 gw_55 gw_56 rfl (fun j hj => by rcases (show j = 0 by omega) with rfl <;> rfl) (Nat.le_of_ble_eq_true rfl) (Nat.le_of_ble_eq_true rfl) dX2_init_70 (fun q11 => ?_)
  refine y_dup X dX2_init_73 rfl ?_
  refine y_bipush X (v := 10) dX2_init_74 (by decide) ?_
  refine y_callI X (k := 11) (n := 56) (As := [.int 10]) (st := [.ref q11, .ref h0]) (k_X7_init E 10 (by first | decide | omega)) (h0 := h0) (c := .inr (2, [.int 0, .ref q1, .ref q3, .ref q5, .ref q7, .ref q9, .null, .null])) (rest := [] ++ (q1, .inr (7, [.ref r2])) :: [(r2, .inl (zcI E, 10, .inl (fun _ => 0)))] ++ (q3, .inr (7, [.ref r4])) :: [(r4, .inl (zcI E, 10, .inl (fun _ => 0)))] ++ (q5, .inr (7, [.ref r6])) :: [(r6, .inl (zcI E, 10, .inl (fun _ => 0)))] ++ (q7, .inr (7, [.ref r8])) :: [(r8, .inl (zcI E, 10, .inl (fun _ => 0)))] ++ (q9, .inr (7, [.ref r10])) :: [(r10, .inl (zcI E, 10, .inl (fun _ => 0)))]) (q := q11) gw_64 gw_65 ⟨gw_56, gw_66⟩ (by decide +kernel) ⟨Nat.le_of_ble_eq_true rfl, Nat.le_of_ble_eq_true rfl⟩ rfl rfl (Nat.le_of_ble_eq_true rfl) dX2_init_76 (Nat.le_of_ble_eq_true rfl) (Nat.le_of_ble_eq_true rfl) rfl (fun c1 new hR => ?_)
  obtain ⟨r12, rfl, rfl⟩ := hR
  refine y_putF X (ci := 2) (v := .ref q11) (ty := .object "ChairLeague$Row") (fs := [.int 0, .ref q1, .ref q3, .ref q5, .ref q7, .ref q9, .null, .null]) (rest := [] ++ (q1, .inr (7, [.ref r2])) :: [(r2, .inl (zcI E, 10, .inl (fun _ => 0)))] ++ (q3, .inr (7, [.ref r4])) :: [(r4, .inl (zcI E, 10, .inl (fun _ => 0)))] ++ (q5, .inr (7, [.ref r6])) :: [(r6, .inl (zcI E, 10, .inl (fun _ => 0)))] ++ (q7, .inr (7, [.ref r8])) :: [(r8, .inl (zcI E, 10, .inl (fun _ => 0)))] ++ (q9, .inr (7, [.ref r10])) :: [(r10, .inl (zcI E, 10, .inl (fun _ => 0)))] ++ (q11, .inr (7, [.ref r12])) :: [(r12, .inl (zcI E, 10, .inl (fun _ => 0)))]) inlX2 tyX2 tyX2_ok nmX2 rfl 6 (by decide) gw_62 rfl rfl rfl (by decide +kernel) rfl rfl (Nat.le_of_ble_eq_true rfl) dX2_init_79 ?_
  refine y_fs (fs' := [.int 0, .ref q1, .ref q3, .ref q5, .ref q7, .ref q9, .ref q11, .null]) rfl ?_
  refine y_aload X 0 dX2_init_82 rfl rfl ?_
  refine y_new X (ci := 7) (fs := [.null]) inlX7 tyX7 tyX7_ok gw_54 gw_55 gw_56 rfl (fun j hj => by rcases (show j = 0 by omega) with rfl <;> rfl) (Nat.le_of_ble_eq_true rfl) (Nat.le_of_ble_eq_true rfl) dX2_init_83 (fun q13 => ?_)
  refine y_dup X dX2_init_86 rfl ?_
  refine y_bipush X (v := 10) dX2_init_87 (by decide) ?_
  refine y_callI X (k := 13) (n := 67) (As := [.int 10]) (st := [.ref q13, .ref h0]) (k_X7_init E 10 (by first | decide | omega)) (h0 := h0) (c := .inr (2, [.int 0, .ref q1, .ref q3, .ref q5, .ref q7, .ref q9, .ref q11, .null])) (rest := [] ++ (q1, .inr (7, [.ref r2])) :: [(r2, .inl (zcI E, 10, .inl (fun _ => 0)))] ++ (q3, .inr (7, [.ref r4])) :: [(r4, .inl (zcI E, 10, .inl (fun _ => 0)))] ++ (q5, .inr (7, [.ref r6])) :: [(r6, .inl (zcI E, 10, .inl (fun _ => 0)))] ++ (q7, .inr (7, [.ref r8])) :: [(r8, .inl (zcI E, 10, .inl (fun _ => 0)))] ++ (q9, .inr (7, [.ref r10])) :: [(r10, .inl (zcI E, 10, .inl (fun _ => 0)))] ++ (q11, .inr (7, [.ref r12])) :: [(r12, .inl (zcI E, 10, .inl (fun _ => 0)))]) (q := q13) gw_64 gw_65 ⟨gw_56, gw_66⟩ (by decide +kernel) ⟨Nat.le_of_ble_eq_true rfl, Nat.le_of_ble_eq_true rfl⟩ rfl rfl (Nat.le_of_ble_eq_true rfl) dX2_init_89 (Nat.le_of_ble_eq_true rfl) (Nat.le_of_ble_eq_true rfl) rfl (fun c1 new hR => ?_)
  obtain ⟨r14, rfl, rfl⟩ := hR
  refine y_putF X (ci := 2) (v := .ref q13) (ty := .object "ChairLeague$Row") (fs := [.int 0, .ref q1, .ref q3, .ref q5, .ref q7, .ref q9, .ref q11, .null]) (rest := [] ++ (q1, .inr (7, [.ref r2])) :: [(r2, .inl (zcI E, 10, .inl (fun _ => 0)))] ++ (q3, .inr (7, [.ref r4])) :: [(r4, .inl (zcI E, 10, .inl (fun _ => 0)))] ++ (q5, .inr (7, [.ref r6])) :: [(r6, .inl (zcI E, 10, .inl (fun _ => 0)))] ++ (q7, .inr (7, [.ref r8])) :: [(r8, .inl (zcI E, 10, .inl (fun _ => 0)))] ++ (q9, .inr (7, [.ref r10])) :: [(r10, .inl (zcI E, 10, .inl (fun _ => 0)))] ++ (q11, .inr (7, [.ref r12])) :: [(r12, .inl (zcI E, 10, .inl (fun _ => 0)))] ++ (q13, .inr (7, [.ref r14])) :: [(r14, .inl (zcI E, 10, .inl (fun _ => 0)))]) inlX2 tyX2 tyX2_ok nmX2 rfl 7 (by decide) gw_63 rfl rfl rfl (by decide +kernel) rfl rfl (Nat.le_of_ble_eq_true rfl) dX2_init_92 ?_
  refine y_fs (fs' := [.int 0, .ref q1, .ref q3, .ref q5, .ref q7, .ref q9, .ref q11, .ref q13]) rfl ?_
  exact y_ret X Y dX2_init_95 ⟨(fun r => match r with | 4 => q1 | 5 => r2 | 6 => q3 | 7 => r4 | 8 => q5 | 9 => r6 | 10 => q7 | 11 => r8 | 12 => q9 | 13 => r10 | 14 => q11 | 15 => r12 | 16 => q13 | 17 => r14 | _ => 0), rfl, rfl⟩

def kr_X4_init : Room := { frames := 2, cells := 14, slots := 77, locals := 42 }
set_option maxRecDepth 100000 in
set_option maxHeartbeats 4000000 in
theorem k_X4_init (E : ZE)  : Ct E yX4_init cX4_init 1 kr_X4_init [] (.inr (4, [.int 0, .null, .null, .null, .null, .null, .null, .null])) (fun _ c1 new => ∃ a : Nat → Nat, c1 = mu0 18 a ∧ new = chL E 18 a) 14 77 := by
  refine y_met (own := RX4) (lv := fun h0 => [(0, .ref h0)]) (by decide) rfl (Nat.le_of_ble_eq_true rfl) (fun _ => rfl) (fun ws h0 gg X Y => ?_)
  refine y_aload X 0 dX4_init_0 rfl rfl ?_
  refine y_obj X gw_76 dX4_init_1 (Nat.le_of_ble_eq_true rfl) (Nat.le_of_ble_eq_true rfl) ?_
  refine y_aload X 0 dX4_init_4 rfl rfl ?_
  refine y_new X (ci := 7) (fs := [.null]) inlX7 tyX7 tyX7_ok gw_77 gw_55 gw_56 rfl (fun j hj => by rcases (show j = 0 by omega) with rfl <;> rfl) (Nat.le_of_ble_eq_true rfl) (Nat.le_of_ble_eq_true rfl) dX4_init_5 (fun q1 => ?_)
  refine y_dup X dX4_init_8 rfl ?_
  refine y_bipush X (v := 10) dX4_init_9 (by decide) ?_
  refine y_callI X (k := 1) (n := 1) (As := [.int 10]) (st := [.ref q1, .ref h0]) (k_X7_init E 10 (by first | decide | omega)) (h0 := h0) (c := .inr (4, [.int 0, .null, .null, .null, .null, .null, .null, .null])) (rest := []) (q := q1) gw_85 gw_65 ⟨gw_56, gw_66⟩ (by decide +kernel) ⟨Nat.le_of_ble_eq_true rfl, Nat.le_of_ble_eq_true rfl⟩ rfl rfl (Nat.le_of_ble_eq_true rfl) dX4_init_11 (Nat.le_of_ble_eq_true rfl) (Nat.le_of_ble_eq_true rfl) rfl (fun c1 new hR => ?_)
  obtain ⟨r2, rfl, rfl⟩ := hR
  refine y_putF X (ci := 4) (v := .ref q1) (ty := .object "ChairLeague$Row") (fs := [.int 0, .null, .null, .null, .null, .null, .null, .null]) (rest := [] ++ (q1, .inr (7, [.ref r2])) :: [(r2, .inl (zcI E, 10, .inl (fun _ => 0)))]) inlX4 tyX4 tyX4_ok nmX4 rfl 1 (by decide) gw_78 rfl rfl rfl (by decide +kernel) rfl rfl (Nat.le_of_ble_eq_true rfl) dX4_init_14 ?_
  refine y_fs (fs' := [.int 0, .ref q1, .null, .null, .null, .null, .null, .null]) rfl ?_
  refine y_aload X 0 dX4_init_17 rfl rfl ?_
  refine y_new X (ci := 7) (fs := [.null]) inlX7 tyX7 tyX7_ok gw_77 gw_55 gw_56 rfl (fun j hj => by rcases (show j = 0 by omega) with rfl <;> rfl) (Nat.le_of_ble_eq_true rfl) (Nat.le_of_ble_eq_true rfl) dX4_init_18 (fun q3 => ?_)
  refine y_dup X dX4_init_21 rfl ?_
  refine y_bipush X (v := 10) dX4_init_22 (by decide) ?_
  refine y_callI X (k := 3) (n := 12) (As := [.int 10]) (st := [.ref q3, .ref h0]) (k_X7_init E 10 (by first | decide | omega)) (h0 := h0) (c := .inr (4, [.int 0, .ref q1, .null, .null, .null, .null, .null, .null])) (rest := [] ++ (q1, .inr (7, [.ref r2])) :: [(r2, .inl (zcI E, 10, .inl (fun _ => 0)))]) (q := q3) gw_85 gw_65 ⟨gw_56, gw_66⟩ (by decide +kernel) ⟨Nat.le_of_ble_eq_true rfl, Nat.le_of_ble_eq_true rfl⟩ rfl rfl (Nat.le_of_ble_eq_true rfl) dX4_init_24 (Nat.le_of_ble_eq_true rfl) (Nat.le_of_ble_eq_true rfl) rfl (fun c1 new hR => ?_)
  obtain ⟨r4, rfl, rfl⟩ := hR
  refine y_putF X (ci := 4) (v := .ref q3) (ty := .object "ChairLeague$Row") (fs := [.int 0, .ref q1, .null, .null, .null, .null, .null, .null]) (rest := [] ++ (q1, .inr (7, [.ref r2])) :: [(r2, .inl (zcI E, 10, .inl (fun _ => 0)))] ++ (q3, .inr (7, [.ref r4])) :: [(r4, .inl (zcI E, 10, .inl (fun _ => 0)))]) inlX4 tyX4 tyX4_ok nmX4 rfl 2 (by decide) gw_79 rfl rfl rfl (by decide +kernel) rfl rfl (Nat.le_of_ble_eq_true rfl) dX4_init_27 ?_
  refine y_fs (fs' := [.int 0, .ref q1, .ref q3, .null, .null, .null, .null, .null]) rfl ?_
  refine y_aload X 0 dX4_init_30 rfl rfl ?_
  refine y_new X (ci := 7) (fs := [.null]) inlX7 tyX7 tyX7_ok gw_77 gw_55 gw_56 rfl (fun j hj => by rcases (show j = 0 by omega) with rfl <;> rfl) (Nat.le_of_ble_eq_true rfl) (Nat.le_of_ble_eq_true rfl) dX4_init_31 (fun q5 => ?_)
  refine y_dup X dX4_init_34 rfl ?_
  refine y_bipush X (v := 10) dX4_init_35 (by decide) ?_
  refine y_callI X (k := 5) (n := 23) (As := [.int 10]) (st := [.ref q5, .ref h0]) (k_X7_init E 10 (by first | decide | omega)) (h0 := h0) (c := .inr (4, [.int 0, .ref q1, .ref q3, .null, .null, .null, .null, .null])) (rest := [] ++ (q1, .inr (7, [.ref r2])) :: [(r2, .inl (zcI E, 10, .inl (fun _ => 0)))] ++ (q3, .inr (7, [.ref r4])) :: [(r4, .inl (zcI E, 10, .inl (fun _ => 0)))]) (q := q5) gw_85 gw_65 ⟨gw_56, gw_66⟩ (by decide +kernel) ⟨Nat.le_of_ble_eq_true rfl, Nat.le_of_ble_eq_true rfl⟩ rfl rfl (Nat.le_of_ble_eq_true rfl) dX4_init_37 (Nat.le_of_ble_eq_true rfl) (Nat.le_of_ble_eq_true rfl) rfl (fun c1 new hR => ?_)
  obtain ⟨r6, rfl, rfl⟩ := hR
  refine y_putF X (ci := 4) (v := .ref q5) (ty := .object "ChairLeague$Row") (fs := [.int 0, .ref q1, .ref q3, .null, .null, .null, .null, .null]) (rest := [] ++ (q1, .inr (7, [.ref r2])) :: [(r2, .inl (zcI E, 10, .inl (fun _ => 0)))] ++ (q3, .inr (7, [.ref r4])) :: [(r4, .inl (zcI E, 10, .inl (fun _ => 0)))] ++ (q5, .inr (7, [.ref r6])) :: [(r6, .inl (zcI E, 10, .inl (fun _ => 0)))]) inlX4 tyX4 tyX4_ok nmX4 rfl 3 (by decide) gw_80 rfl rfl rfl (by decide +kernel) rfl rfl (Nat.le_of_ble_eq_true rfl) dX4_init_40 ?_
  refine y_fs (fs' := [.int 0, .ref q1, .ref q3, .ref q5, .null, .null, .null, .null]) rfl ?_
  refine y_aload X 0 dX4_init_43 rfl rfl ?_
  refine y_new X (ci := 7) (fs := [.null]) inlX7 tyX7 tyX7_ok gw_77 gw_55 gw_56 rfl (fun j hj => by rcases (show j = 0 by omega) with rfl <;> rfl) (Nat.le_of_ble_eq_true rfl) (Nat.le_of_ble_eq_true rfl) dX4_init_44 (fun q7 => ?_)
  refine y_dup X dX4_init_47 rfl ?_
  refine y_bipush X (v := 10) dX4_init_48 (by decide) ?_
  refine y_callI X (k := 7) (n := 34) (As := [.int 10]) (st := [.ref q7, .ref h0]) (k_X7_init E 10 (by first | decide | omega)) (h0 := h0) (c := .inr (4, [.int 0, .ref q1, .ref q3, .ref q5, .null, .null, .null, .null])) (rest := [] ++ (q1, .inr (7, [.ref r2])) :: [(r2, .inl (zcI E, 10, .inl (fun _ => 0)))] ++ (q3, .inr (7, [.ref r4])) :: [(r4, .inl (zcI E, 10, .inl (fun _ => 0)))] ++ (q5, .inr (7, [.ref r6])) :: [(r6, .inl (zcI E, 10, .inl (fun _ => 0)))]) (q := q7) gw_85 gw_65 ⟨gw_56, gw_66⟩ (by decide +kernel) ⟨Nat.le_of_ble_eq_true rfl, Nat.le_of_ble_eq_true rfl⟩ rfl rfl (Nat.le_of_ble_eq_true rfl) dX4_init_50 (Nat.le_of_ble_eq_true rfl) (Nat.le_of_ble_eq_true rfl) rfl (fun c1 new hR => ?_)
  obtain ⟨r8, rfl, rfl⟩ := hR
  refine y_putF X (ci := 4) (v := .ref q7) (ty := .object "ChairLeague$Row") (fs := [.int 0, .ref q1, .ref q3, .ref q5, .null, .null, .null, .null]) (rest := [] ++ (q1, .inr (7, [.ref r2])) :: [(r2, .inl (zcI E, 10, .inl (fun _ => 0)))] ++ (q3, .inr (7, [.ref r4])) :: [(r4, .inl (zcI E, 10, .inl (fun _ => 0)))] ++ (q5, .inr (7, [.ref r6])) :: [(r6, .inl (zcI E, 10, .inl (fun _ => 0)))] ++ (q7, .inr (7, [.ref r8])) :: [(r8, .inl (zcI E, 10, .inl (fun _ => 0)))]) inlX4 tyX4 tyX4_ok nmX4 rfl 4 (by decide) gw_81 rfl rfl rfl (by decide +kernel) rfl rfl (Nat.le_of_ble_eq_true rfl) dX4_init_53 ?_
  refine y_fs (fs' := [.int 0, .ref q1, .ref q3, .ref q5, .ref q7, .null, .null, .null]) rfl ?_
  refine y_aload X 0 dX4_init_56 rfl rfl ?_
  refine y_new X (ci := 7) (fs := [.null]) inlX7 tyX7 tyX7_ok gw_77 gw_55 gw_56 rfl (fun j hj => by rcases (show j = 0 by omega) with rfl <;> rfl) (Nat.le_of_ble_eq_true rfl) (Nat.le_of_ble_eq_true rfl) dX4_init_57 (fun q9 => ?_)
  refine y_dup X dX4_init_60 rfl ?_
  refine y_bipush X (v := 10) dX4_init_61 (by decide) ?_
  refine y_callI X (k := 9) (n := 45) (As := [.int 10]) (st := [.ref q9, .ref h0]) (k_X7_init E 10 (by first | decide | omega)) (h0 := h0) (c := .inr (4, [.int 0, .ref q1, .ref q3, .ref q5, .ref q7, .null, .null, .null])) (rest := [] ++ (q1, .inr (7, [.ref r2])) :: [(r2, .inl (zcI E, 10, .inl (fun _ => 0)))] ++ (q3, .inr (7, [.ref r4])) :: [(r4, .inl (zcI E, 10, .inl (fun _ => 0)))] ++ (q5, .inr (7, [.ref r6])) :: [(r6, .inl (zcI E, 10, .inl (fun _ => 0)))] ++ (q7, .inr (7, [.ref r8])) :: [(r8, .inl (zcI E, 10, .inl (fun _ => 0)))]) (q := q9) gw_85 gw_65 ⟨gw_56, gw_66⟩ (by decide +kernel) ⟨Nat.le_of_ble_eq_true rfl, Nat.le_of_ble_eq_true rfl⟩ rfl rfl (Nat.le_of_ble_eq_true rfl) dX4_init_63 (Nat.le_of_ble_eq_true rfl) (Nat.le_of_ble_eq_true rfl) rfl (fun c1 new hR => ?_)
  obtain ⟨r10, rfl, rfl⟩ := hR
  refine y_putF X (ci := 4) (v := .ref q9) (ty := .object "ChairLeague$Row") (fs := [.int 0, .ref q1, .ref q3, .ref q5, .ref q7, .null, .null, .null]) (rest := [] ++ (q1, .inr (7, [.ref r2])) :: [(r2, .inl (zcI E, 10, .inl (fun _ => 0)))] ++ (q3, .inr (7, [.ref r4])) :: [(r4, .inl (zcI E, 10, .inl (fun _ => 0)))] ++ (q5, .inr (7, [.ref r6])) :: [(r6, .inl (zcI E, 10, .inl (fun _ => 0)))] ++ (q7, .inr (7, [.ref r8])) :: [(r8, .inl (zcI E, 10, .inl (fun _ => 0)))] ++ (q9, .inr (7, [.ref r10])) :: [(r10, .inl (zcI E, 10, .inl (fun _ => 0)))]) inlX4 tyX4 tyX4_ok nmX4 rfl 5 (by decide) gw_82 rfl rfl rfl (by decide +kernel) rfl rfl (Nat.le_of_ble_eq_true rfl) dX4_init_66 ?_
  refine y_fs (fs' := [.int 0, .ref q1, .ref q3, .ref q5, .ref q7, .ref q9, .null, .null]) rfl ?_
  refine y_aload X 0 dX4_init_69 rfl rfl ?_
  refine y_new X (ci := 7) (fs := [.null]) inlX7 tyX7 tyX7_ok gw_77 gw_55 gw_56 rfl (fun j hj => by rcases (show j = 0 by omega) with rfl <;> rfl) (Nat.le_of_ble_eq_true rfl) (Nat.le_of_ble_eq_true rfl) dX4_init_70 (fun q11 => ?_)
  refine y_dup X dX4_init_73 rfl ?_
  refine y_bipush X (v := 10) dX4_init_74 (by decide) ?_
  refine y_callI X (k := 11) (n := 56) (As := [.int 10]) (st := [.ref q11, .ref h0]) (k_X7_init E 10 (by first | decide | omega)) (h0 := h0) (c := .inr (4, [.int 0, .ref q1, .ref q3, .ref q5, .ref q7, .ref q9, .null, .null])) (rest := [] ++ (q1, .inr (7, [.ref r2])) :: [(r2, .inl (zcI E, 10, .inl (fun _ => 0)))] ++ (q3, .inr (7, [.ref r4])) :: [(r4, .inl (zcI E, 10, .inl (fun _ => 0)))] ++ (q5, .inr (7, [.ref r6])) :: [(r6, .inl (zcI E, 10, .inl (fun _ => 0)))] ++ (q7, .inr (7, [.ref r8])) :: [(r8, .inl (zcI E, 10, .inl (fun _ => 0)))] ++ (q9, .inr (7, [.ref r10])) :: [(r10, .inl (zcI E, 10, .inl (fun _ => 0)))]) (q := q11) gw_85 gw_65 ⟨gw_56, gw_66⟩ (by decide +kernel) ⟨Nat.le_of_ble_eq_true rfl, Nat.le_of_ble_eq_true rfl⟩ rfl rfl (Nat.le_of_ble_eq_true rfl) dX4_init_76 (Nat.le_of_ble_eq_true rfl) (Nat.le_of_ble_eq_true rfl) rfl (fun c1 new hR => ?_)
  obtain ⟨r12, rfl, rfl⟩ := hR
  refine y_putF X (ci := 4) (v := .ref q11) (ty := .object "ChairLeague$Row") (fs := [.int 0, .ref q1, .ref q3, .ref q5, .ref q7, .ref q9, .null, .null]) (rest := [] ++ (q1, .inr (7, [.ref r2])) :: [(r2, .inl (zcI E, 10, .inl (fun _ => 0)))] ++ (q3, .inr (7, [.ref r4])) :: [(r4, .inl (zcI E, 10, .inl (fun _ => 0)))] ++ (q5, .inr (7, [.ref r6])) :: [(r6, .inl (zcI E, 10, .inl (fun _ => 0)))] ++ (q7, .inr (7, [.ref r8])) :: [(r8, .inl (zcI E, 10, .inl (fun _ => 0)))] ++ (q9, .inr (7, [.ref r10])) :: [(r10, .inl (zcI E, 10, .inl (fun _ => 0)))] ++ (q11, .inr (7, [.ref r12])) :: [(r12, .inl (zcI E, 10, .inl (fun _ => 0)))]) inlX4 tyX4 tyX4_ok nmX4 rfl 6 (by decide) gw_83 rfl rfl rfl (by decide +kernel) rfl rfl (Nat.le_of_ble_eq_true rfl) dX4_init_79 ?_
  refine y_fs (fs' := [.int 0, .ref q1, .ref q3, .ref q5, .ref q7, .ref q9, .ref q11, .null]) rfl ?_
  refine y_aload X 0 dX4_init_82 rfl rfl ?_
  refine y_new X (ci := 7) (fs := [.null]) inlX7 tyX7 tyX7_ok gw_77 gw_55 gw_56 rfl (fun j hj => by rcases (show j = 0 by omega) with rfl <;> rfl) (Nat.le_of_ble_eq_true rfl) (Nat.le_of_ble_eq_true rfl) dX4_init_83 (fun q13 => ?_)
  refine y_dup X dX4_init_86 rfl ?_
  refine y_bipush X (v := 10) dX4_init_87 (by decide) ?_
  refine y_callI X (k := 13) (n := 67) (As := [.int 10]) (st := [.ref q13, .ref h0]) (k_X7_init E 10 (by first | decide | omega)) (h0 := h0) (c := .inr (4, [.int 0, .ref q1, .ref q3, .ref q5, .ref q7, .ref q9, .ref q11, .null])) (rest := [] ++ (q1, .inr (7, [.ref r2])) :: [(r2, .inl (zcI E, 10, .inl (fun _ => 0)))] ++ (q3, .inr (7, [.ref r4])) :: [(r4, .inl (zcI E, 10, .inl (fun _ => 0)))] ++ (q5, .inr (7, [.ref r6])) :: [(r6, .inl (zcI E, 10, .inl (fun _ => 0)))] ++ (q7, .inr (7, [.ref r8])) :: [(r8, .inl (zcI E, 10, .inl (fun _ => 0)))] ++ (q9, .inr (7, [.ref r10])) :: [(r10, .inl (zcI E, 10, .inl (fun _ => 0)))] ++ (q11, .inr (7, [.ref r12])) :: [(r12, .inl (zcI E, 10, .inl (fun _ => 0)))]) (q := q13) gw_85 gw_65 ⟨gw_56, gw_66⟩ (by decide +kernel) ⟨Nat.le_of_ble_eq_true rfl, Nat.le_of_ble_eq_true rfl⟩ rfl rfl (Nat.le_of_ble_eq_true rfl) dX4_init_89 (Nat.le_of_ble_eq_true rfl) (Nat.le_of_ble_eq_true rfl) rfl (fun c1 new hR => ?_)
  obtain ⟨r14, rfl, rfl⟩ := hR
  refine y_putF X (ci := 4) (v := .ref q13) (ty := .object "ChairLeague$Row") (fs := [.int 0, .ref q1, .ref q3, .ref q5, .ref q7, .ref q9, .ref q11, .null]) (rest := [] ++ (q1, .inr (7, [.ref r2])) :: [(r2, .inl (zcI E, 10, .inl (fun _ => 0)))] ++ (q3, .inr (7, [.ref r4])) :: [(r4, .inl (zcI E, 10, .inl (fun _ => 0)))] ++ (q5, .inr (7, [.ref r6])) :: [(r6, .inl (zcI E, 10, .inl (fun _ => 0)))] ++ (q7, .inr (7, [.ref r8])) :: [(r8, .inl (zcI E, 10, .inl (fun _ => 0)))] ++ (q9, .inr (7, [.ref r10])) :: [(r10, .inl (zcI E, 10, .inl (fun _ => 0)))] ++ (q11, .inr (7, [.ref r12])) :: [(r12, .inl (zcI E, 10, .inl (fun _ => 0)))] ++ (q13, .inr (7, [.ref r14])) :: [(r14, .inl (zcI E, 10, .inl (fun _ => 0)))]) inlX4 tyX4 tyX4_ok nmX4 rfl 7 (by decide) gw_84 rfl rfl rfl (by decide +kernel) rfl rfl (Nat.le_of_ble_eq_true rfl) dX4_init_92 ?_
  refine y_fs (fs' := [.int 0, .ref q1, .ref q3, .ref q5, .ref q7, .ref q9, .ref q11, .ref q13]) rfl ?_
  exact y_ret X Y dX4_init_95 ⟨(fun r => match r with | 18 => q1 | 19 => r2 | 20 => q3 | 21 => r4 | 22 => q5 | 23 => r6 | 24 => q7 | 25 => r8 | 26 => q9 | 27 => r10 | 28 => q11 | 29 => r12 | 30 => q13 | 31 => r14 | _ => 0), rfl, rfl⟩

def kr_X1_init : Room := { frames := 1, cells := 0, slots := 0, locals := 12 }
set_option maxRecDepth 100000 in
set_option maxHeartbeats 4000000 in
theorem k_X1_init (E : ZE)  : Ct E yX1_init cX1_init 1 kr_X1_init [] (.inr (1, [.int 0, .int 0, .int 0, .int 0, .int 0, .int 0, .int 0])) (fun _ c1 new => ∃ _a : Nat, c1 = bo0 ∧ new = []) 0 0 := by
  refine y_met (own := RX1) (lv := fun h0 => [(0, .ref h0)]) (by decide) rfl (Nat.le_of_ble_eq_true rfl) (fun _ => rfl) (fun ws h0 gg X Y => ?_)
  refine y_aload X 0 dX1_init_0 rfl rfl ?_
  refine y_obj X gw_88 dX1_init_1 (Nat.le_of_ble_eq_true rfl) (Nat.le_of_ble_eq_true rfl) ?_
  refine y_aload X 0 dX1_init_4 rfl rfl ?_
  refine y_bipush X (v := 10) dX1_init_5 (by decide) ?_
  refine y_put X (ci := 1) (v := .int 10) (ty := .int) (fs := [.int 0, .int 0, .int 0, .int 0, .int 0, .int 0, .int 0]) (rest := []) inlX1 tyX1 tyX1_ok nmX1 rfl 0 (by decide) gw_89 rfl rfl (by decide +kernel) rfl rfl (Nat.le_of_ble_eq_true rfl) dX1_init_7 ?_
  refine y_fs (fs' := [.int 10, .int 0, .int 0, .int 0, .int 0, .int 0, .int 0]) rfl ?_
  exact y_ret X Y dX1_init_10 ⟨0, rfl, rfl⟩

def kr_X9_init : Room := { frames := 3, cells := 31, slots := 177, locals := 62 }
set_option maxRecDepth 100000 in
set_option maxHeartbeats 4000000 in
theorem k_X9_init (E : ZE)  : Ct E yX9_init cX9_init 1 kr_X9_init [] (.inr (9, [.null, .null, .null])) (fun _ c1 new => ∃ a : Nat → Nat, c1 = st0 a ∧ new = stL E a) 31 177 := by
  refine y_met (own := RX9) (lv := fun h0 => [(0, .ref h0)]) (by decide) rfl (Nat.le_of_ble_eq_true rfl) (fun _ => rfl) (fun ws h0 gg X Y => ?_)
  refine y_aload X 0 dX9_init_0 rfl rfl ?_
  refine y_obj X gw_38 dX9_init_1 (Nat.le_of_ble_eq_true rfl) (Nat.le_of_ble_eq_true rfl) ?_
  refine y_aload X 0 dX9_init_4 rfl rfl ?_
  refine y_new X (ci := 2) (fs := [.int 0, .null, .null, .null, .null, .null, .null, .null]) inlX2 tyX2 tyX2_ok gw_39 gw_40 gw_41 rfl (fun j hj => by rcases (show j = 0 ∨ j = 1 ∨ j = 2 ∨ j = 3 ∨ j = 4 ∨ j = 5 ∨ j = 6 ∨ j = 7 by omega) with rfl | rfl | rfl | rfl | rfl | rfl | rfl | rfl <;> rfl) (Nat.le_of_ble_eq_true rfl) (Nat.le_of_ble_eq_true rfl) dX9_init_5 (fun q1 => ?_)
  refine y_dup X dX9_init_8 rfl ?_
  refine y_callN X (k := 1) (n := 8) (As := []) (st := [.ref q1, .ref h0]) (k_X2_init E) (h0 := h0) (c := .inr (9, [.null, .null, .null])) (rest := []) (q := q1) (List.mem_of_getElem? (i := 1) rfl) gw_51 ⟨gw_41, gw_52⟩ (by decide +kernel) ⟨Nat.le_of_ble_eq_true rfl, Nat.le_of_ble_eq_true rfl⟩ rfl rfl (Nat.le_of_ble_eq_true rfl) dX9_init_9 (Nat.le_of_ble_eq_true rfl) (Nat.le_of_ble_eq_true rfl) rfl (fun c1 new hR => ?_)
  obtain ⟨a2, rfl, rfl⟩ := hR
  refine y_putF X (ci := 9) (v := .ref q1) (ty := .object "ChairLeague$Chairs") (fs := [.null, .null, .null]) (rest := [] ++ (q1, ch0 4 a2) :: chL E 4 a2) inlX9 tyX9 tyX9_ok nmX9 rfl 0 (by decide) gw_42 rfl rfl rfl (by decide +kernel) rfl rfl (Nat.le_of_ble_eq_true rfl) dX9_init_12 ?_
  refine y_fs (fs' := [.ref q1, .null, .null]) rfl ?_
  refine y_aload X 0 dX9_init_15 rfl rfl ?_
  refine y_new X (ci := 4) (fs := [.int 0, .null, .null, .null, .null, .null, .null, .null]) inlX4 tyX4 tyX4_ok gw_43 gw_44 gw_45 rfl (fun j hj => by rcases (show j = 0 ∨ j = 1 ∨ j = 2 ∨ j = 3 ∨ j = 4 ∨ j = 5 ∨ j = 6 ∨ j = 7 by omega) with rfl | rfl | rfl | rfl | rfl | rfl | rfl | rfl <;> rfl) (Nat.le_of_ble_eq_true rfl) (Nat.le_of_ble_eq_true rfl) dX9_init_16 (fun q3 => ?_)
  refine y_dup X dX9_init_19 rfl ?_
  refine y_callN X (k := 16) (n := 93) (As := []) (st := [.ref q3, .ref h0]) (k_X4_init E) (h0 := h0) (c := .inr (9, [.ref q1, .null, .null])) (rest := [] ++ (q1, ch0 4 a2) :: chL E 4 a2) (q := q3) (List.mem_of_getElem? (i := 2) rfl) gw_74 ⟨gw_45, gw_75⟩ (by decide +kernel) ⟨Nat.le_of_ble_eq_true rfl, Nat.le_of_ble_eq_true rfl⟩ rfl rfl (Nat.le_of_ble_eq_true rfl) dX9_init_20 (Nat.le_of_ble_eq_true rfl) (Nat.le_of_ble_eq_true rfl) rfl (fun c1 new hR => ?_)
  obtain ⟨a4, rfl, rfl⟩ := hR
  refine y_putF X (ci := 9) (v := .ref q3) (ty := .object "ChairLeague$Musicians") (fs := [.ref q1, .null, .null]) (rest := [] ++ (q1, ch0 4 a2) :: chL E 4 a2 ++ (q3, mu0 18 a4) :: chL E 18 a4) inlX9 tyX9 tyX9_ok nmX9 rfl 1 (by decide) gw_46 rfl rfl rfl (by decide +kernel) rfl rfl (Nat.le_of_ble_eq_true rfl) dX9_init_23 ?_
  refine y_fs (fs' := [.ref q1, .ref q3, .null]) rfl ?_
  refine y_aload X 0 dX9_init_26 rfl rfl ?_
  refine y_new X (ci := 1) (fs := [.int 0, .int 0, .int 0, .int 0, .int 0, .int 0, .int 0]) inlX1 tyX1 tyX1_ok gw_47 gw_48 gw_49 rfl (fun j hj => by rcases (show j = 0 ∨ j = 1 ∨ j = 2 ∨ j = 3 ∨ j = 4 ∨ j = 5 ∨ j = 6 by omega) with rfl | rfl | rfl | rfl | rfl | rfl | rfl <;> rfl) (Nat.le_of_ble_eq_true rfl) (Nat.le_of_ble_eq_true rfl) dX9_init_27 (fun q5 => ?_)
  refine y_dup X dX9_init_30 rfl ?_
  refine y_callN X (k := 31) (n := 177) (As := []) (st := [.ref q5, .ref h0]) (k_X1_init E) (h0 := h0) (c := .inr (9, [.ref q1, .ref q3, .null])) (rest := [] ++ (q1, ch0 4 a2) :: chL E 4 a2 ++ (q3, mu0 18 a4) :: chL E 18 a4) (q := q5) (List.mem_of_getElem? (i := 3) rfl) gw_86 ⟨gw_49, gw_87⟩ (by decide +kernel) ⟨Nat.le_of_ble_eq_true rfl, Nat.le_of_ble_eq_true rfl⟩ rfl rfl (Nat.le_of_ble_eq_true rfl) dX9_init_31 (Nat.le_of_ble_eq_true rfl) (Nat.le_of_ble_eq_true rfl) rfl (fun c1 new hR => ?_)
  obtain ⟨a6, rfl, rfl⟩ := hR
  refine y_putF X (ci := 9) (v := .ref q5) (ty := .object "ChairLeague$Books") (fs := [.ref q1, .ref q3, .null]) (rest := [] ++ (q1, ch0 4 a2) :: chL E 4 a2 ++ (q3, mu0 18 a4) :: chL E 18 a4 ++ (q5, bo0) :: []) inlX9 tyX9 tyX9_ok nmX9 rfl 2 (by decide) gw_50 rfl rfl rfl (by decide +kernel) rfl rfl (Nat.le_of_ble_eq_true rfl) dX9_init_34 ?_
  refine y_fs (fs' := [.ref q1, .ref q3, .ref q5]) rfl ?_
  exact y_ret X Y dX9_init_37 ⟨(fun r => match r with | 1 => q1 | 2 => q3 | 3 => q5 | r => if r < 18 then a2 r else a4 r), rfl, rfl⟩

def kr_X0_init : Room := { frames := 2, cells := 8, slots := 44, locals := 42 }
set_option maxRecDepth 100000 in
set_option maxHeartbeats 4000000 in
theorem k_X0_init (E : ZE)  : Ct E yX0_init cX0_init 1 kr_X0_init [] (.inr (0, [.null, .null, .null, .null])) (fun _ c1 new => ∃ a : Nat → Nat, c1 = as0 a ∧ new = asL E a) 8 44 := by
  refine y_met (own := RX0) (lv := fun h0 => [(0, .ref h0)]) (by decide) rfl (Nat.le_of_ble_eq_true rfl) (fun _ => rfl) (fun ws h0 gg X Y => ?_)
  refine y_aload X 0 dX0_init_0 rfl rfl ?_
  refine y_obj X gw_98 dX0_init_1 (Nat.le_of_ble_eq_true rfl) (Nat.le_of_ble_eq_true rfl) ?_
  refine y_aload X 0 dX0_init_4 rfl rfl ?_
  refine y_new X (ci := 7) (fs := [.null]) inlX7 tyX7 tyX7_ok gw_99 gw_55 gw_56 rfl (fun j hj => by rcases (show j = 0 by omega) with rfl <;> rfl) (Nat.le_of_ble_eq_true rfl) (Nat.le_of_ble_eq_true rfl) dX0_init_5 (fun q1 => ?_)
  refine y_dup X dX0_init_8 rfl ?_
  refine y_bipush X (v := 10) dX0_init_9 (by decide) ?_
  refine y_callI X (k := 1) (n := 1) (As := [.int 10]) (st := [.ref q1, .ref h0]) (k_X7_init E 10 (by first | decide | omega)) (h0 := h0) (c := .inr (0, [.null, .null, .null, .null])) (rest := []) (q := q1) gw_104 gw_65 ⟨gw_56, gw_66⟩ (by decide +kernel) ⟨Nat.le_of_ble_eq_true rfl, Nat.le_of_ble_eq_true rfl⟩ rfl rfl (Nat.le_of_ble_eq_true rfl) dX0_init_11 (Nat.le_of_ble_eq_true rfl) (Nat.le_of_ble_eq_true rfl) rfl (fun c1 new hR => ?_)
  obtain ⟨r2, rfl, rfl⟩ := hR
  refine y_putF X (ci := 0) (v := .ref q1) (ty := .object "ChairLeague$Row") (fs := [.null, .null, .null, .null]) (rest := [] ++ (q1, .inr (7, [.ref r2])) :: [(r2, .inl (zcI E, 10, .inl (fun _ => 0)))]) inlX0 tyX0 tyX0_ok nmX0 rfl 0 (by decide) gw_100 rfl rfl rfl (by decide +kernel) rfl rfl (Nat.le_of_ble_eq_true rfl) dX0_init_14 ?_
  refine y_fs (fs' := [.ref q1, .null, .null, .null]) rfl ?_
  refine y_aload X 0 dX0_init_17 rfl rfl ?_
  refine y_new X (ci := 7) (fs := [.null]) inlX7 tyX7 tyX7_ok gw_99 gw_55 gw_56 rfl (fun j hj => by rcases (show j = 0 by omega) with rfl <;> rfl) (Nat.le_of_ble_eq_true rfl) (Nat.le_of_ble_eq_true rfl) dX0_init_18 (fun q3 => ?_)
  refine y_dup X dX0_init_21 rfl ?_
  refine y_bipush X (v := 10) dX0_init_22 (by decide) ?_
  refine y_callI X (k := 3) (n := 12) (As := [.int 10]) (st := [.ref q3, .ref h0]) (k_X7_init E 10 (by first | decide | omega)) (h0 := h0) (c := .inr (0, [.ref q1, .null, .null, .null])) (rest := [] ++ (q1, .inr (7, [.ref r2])) :: [(r2, .inl (zcI E, 10, .inl (fun _ => 0)))]) (q := q3) gw_104 gw_65 ⟨gw_56, gw_66⟩ (by decide +kernel) ⟨Nat.le_of_ble_eq_true rfl, Nat.le_of_ble_eq_true rfl⟩ rfl rfl (Nat.le_of_ble_eq_true rfl) dX0_init_24 (Nat.le_of_ble_eq_true rfl) (Nat.le_of_ble_eq_true rfl) rfl (fun c1 new hR => ?_)
  obtain ⟨r4, rfl, rfl⟩ := hR
  refine y_putF X (ci := 0) (v := .ref q3) (ty := .object "ChairLeague$Row") (fs := [.ref q1, .null, .null, .null]) (rest := [] ++ (q1, .inr (7, [.ref r2])) :: [(r2, .inl (zcI E, 10, .inl (fun _ => 0)))] ++ (q3, .inr (7, [.ref r4])) :: [(r4, .inl (zcI E, 10, .inl (fun _ => 0)))]) inlX0 tyX0 tyX0_ok nmX0 rfl 1 (by decide) gw_101 rfl rfl rfl (by decide +kernel) rfl rfl (Nat.le_of_ble_eq_true rfl) dX0_init_27 ?_
  refine y_fs (fs' := [.ref q1, .ref q3, .null, .null]) rfl ?_
  refine y_aload X 0 dX0_init_30 rfl rfl ?_
  refine y_new X (ci := 7) (fs := [.null]) inlX7 tyX7 tyX7_ok gw_99 gw_55 gw_56 rfl (fun j hj => by rcases (show j = 0 by omega) with rfl <;> rfl) (Nat.le_of_ble_eq_true rfl) (Nat.le_of_ble_eq_true rfl) dX0_init_31 (fun q5 => ?_)
  refine y_dup X dX0_init_34 rfl ?_
  refine y_bipush X (v := 10) dX0_init_35 (by decide) ?_
  refine y_callI X (k := 5) (n := 23) (As := [.int 10]) (st := [.ref q5, .ref h0]) (k_X7_init E 10 (by first | decide | omega)) (h0 := h0) (c := .inr (0, [.ref q1, .ref q3, .null, .null])) (rest := [] ++ (q1, .inr (7, [.ref r2])) :: [(r2, .inl (zcI E, 10, .inl (fun _ => 0)))] ++ (q3, .inr (7, [.ref r4])) :: [(r4, .inl (zcI E, 10, .inl (fun _ => 0)))]) (q := q5) gw_104 gw_65 ⟨gw_56, gw_66⟩ (by decide +kernel) ⟨Nat.le_of_ble_eq_true rfl, Nat.le_of_ble_eq_true rfl⟩ rfl rfl (Nat.le_of_ble_eq_true rfl) dX0_init_37 (Nat.le_of_ble_eq_true rfl) (Nat.le_of_ble_eq_true rfl) rfl (fun c1 new hR => ?_)
  obtain ⟨r6, rfl, rfl⟩ := hR
  refine y_putF X (ci := 0) (v := .ref q5) (ty := .object "ChairLeague$Row") (fs := [.ref q1, .ref q3, .null, .null]) (rest := [] ++ (q1, .inr (7, [.ref r2])) :: [(r2, .inl (zcI E, 10, .inl (fun _ => 0)))] ++ (q3, .inr (7, [.ref r4])) :: [(r4, .inl (zcI E, 10, .inl (fun _ => 0)))] ++ (q5, .inr (7, [.ref r6])) :: [(r6, .inl (zcI E, 10, .inl (fun _ => 0)))]) inlX0 tyX0 tyX0_ok nmX0 rfl 2 (by decide) gw_102 rfl rfl rfl (by decide +kernel) rfl rfl (Nat.le_of_ble_eq_true rfl) dX0_init_40 ?_
  refine y_fs (fs' := [.ref q1, .ref q3, .ref q5, .null]) rfl ?_
  refine y_aload X 0 dX0_init_43 rfl rfl ?_
  refine y_new X (ci := 7) (fs := [.null]) inlX7 tyX7 tyX7_ok gw_99 gw_55 gw_56 rfl (fun j hj => by rcases (show j = 0 by omega) with rfl <;> rfl) (Nat.le_of_ble_eq_true rfl) (Nat.le_of_ble_eq_true rfl) dX0_init_44 (fun q7 => ?_)
  refine y_dup X dX0_init_47 rfl ?_
  refine y_bipush X (v := 10) dX0_init_48 (by decide) ?_
  refine y_callI X (k := 7) (n := 34) (As := [.int 10]) (st := [.ref q7, .ref h0]) (k_X7_init E 10 (by first | decide | omega)) (h0 := h0) (c := .inr (0, [.ref q1, .ref q3, .ref q5, .null])) (rest := [] ++ (q1, .inr (7, [.ref r2])) :: [(r2, .inl (zcI E, 10, .inl (fun _ => 0)))] ++ (q3, .inr (7, [.ref r4])) :: [(r4, .inl (zcI E, 10, .inl (fun _ => 0)))] ++ (q5, .inr (7, [.ref r6])) :: [(r6, .inl (zcI E, 10, .inl (fun _ => 0)))]) (q := q7) gw_104 gw_65 ⟨gw_56, gw_66⟩ (by decide +kernel) ⟨Nat.le_of_ble_eq_true rfl, Nat.le_of_ble_eq_true rfl⟩ rfl rfl (Nat.le_of_ble_eq_true rfl) dX0_init_50 (Nat.le_of_ble_eq_true rfl) (Nat.le_of_ble_eq_true rfl) rfl (fun c1 new hR => ?_)
  obtain ⟨r8, rfl, rfl⟩ := hR
  refine y_putF X (ci := 0) (v := .ref q7) (ty := .object "ChairLeague$Row") (fs := [.ref q1, .ref q3, .ref q5, .null]) (rest := [] ++ (q1, .inr (7, [.ref r2])) :: [(r2, .inl (zcI E, 10, .inl (fun _ => 0)))] ++ (q3, .inr (7, [.ref r4])) :: [(r4, .inl (zcI E, 10, .inl (fun _ => 0)))] ++ (q5, .inr (7, [.ref r6])) :: [(r6, .inl (zcI E, 10, .inl (fun _ => 0)))] ++ (q7, .inr (7, [.ref r8])) :: [(r8, .inl (zcI E, 10, .inl (fun _ => 0)))]) inlX0 tyX0 tyX0_ok nmX0 rfl 3 (by decide) gw_103 rfl rfl rfl (by decide +kernel) rfl rfl (Nat.le_of_ble_eq_true rfl) dX0_init_53 ?_
  refine y_fs (fs' := [.ref q1, .ref q3, .ref q5, .ref q7]) rfl ?_
  exact y_ret X Y dX0_init_56 ⟨(fun r => match r with | 4 => q1 | 5 => r2 | 6 => q3 | 7 => r4 | 8 => q5 | 9 => r6 | 10 => q7 | 11 => r8 | _ => 0), rfl, rfl⟩

def kr_X6_init : Room := { frames := 2, cells := 4, slots := 8, locals := 42 }
set_option maxRecDepth 100000 in
set_option maxHeartbeats 4000000 in
theorem k_X6_init (E : ZE)  : Ct E yX6_init cX6_init 1 kr_X6_init [] (.inr (6, [.null, .null, .int 0])) (fun _ c1 new => ∃ a : Nat → Nat, c1 = re0 a ∧ new = reL E a) 4 8 := by
  refine y_met (own := RX6) (lv := fun h0 => [(0, .ref h0)]) (by decide) rfl (Nat.le_of_ble_eq_true rfl) (fun _ => rfl) (fun ws h0 gg X Y => ?_)
  refine y_aload X 0 dX6_init_0 rfl rfl ?_
  refine y_obj X gw_127 dX6_init_1 (Nat.le_of_ble_eq_true rfl) (Nat.le_of_ble_eq_true rfl) ?_
  refine y_aload X 0 dX6_init_4 rfl rfl ?_
  refine y_new X (ci := 7) (fs := [.null]) inlX7 tyX7 tyX7_ok gw_128 gw_55 gw_56 rfl (fun j hj => by rcases (show j = 0 by omega) with rfl <;> rfl) (Nat.le_of_ble_eq_true rfl) (Nat.le_of_ble_eq_true rfl) dX6_init_5 (fun q1 => ?_)
  refine y_dup X dX6_init_8 rfl ?_
  refine y_iconst X (v := 3) dX6_init_9 (by decide) ?_
  refine y_callI X (k := 1) (n := 1) (As := [.int 3]) (st := [.ref q1, .ref h0]) (k_X7_init E 3 (by first | decide | omega)) (h0 := h0) (c := .inr (6, [.null, .null, .int 0])) (rest := []) (q := q1) gw_131 gw_65 ⟨gw_56, gw_66⟩ (by decide +kernel) ⟨Nat.le_of_ble_eq_true rfl, Nat.le_of_ble_eq_true rfl⟩ rfl rfl (Nat.le_of_ble_eq_true rfl) dX6_init_10 (Nat.le_of_ble_eq_true rfl) (Nat.le_of_ble_eq_true rfl) rfl (fun c1 new hR => ?_)
  obtain ⟨r2, rfl, rfl⟩ := hR
  refine y_putF X (ci := 6) (v := .ref q1) (ty := .object "ChairLeague$Row") (fs := [.null, .null, .int 0]) (rest := [] ++ (q1, .inr (7, [.ref r2])) :: [(r2, .inl (zcI E, 3, .inl (fun _ => 0)))]) inlX6 tyX6 tyX6_ok nmX6 rfl 0 (by decide) gw_129 rfl rfl rfl (by decide +kernel) rfl rfl (Nat.le_of_ble_eq_true rfl) dX6_init_13 ?_
  refine y_fs (fs' := [.ref q1, .null, .int 0]) rfl ?_
  refine y_aload X 0 dX6_init_16 rfl rfl ?_
  refine y_new X (ci := 7) (fs := [.null]) inlX7 tyX7 tyX7_ok gw_128 gw_55 gw_56 rfl (fun j hj => by rcases (show j = 0 by omega) with rfl <;> rfl) (Nat.le_of_ble_eq_true rfl) (Nat.le_of_ble_eq_true rfl) dX6_init_17 (fun q3 => ?_)
  refine y_dup X dX6_init_20 rfl ?_
  refine y_iconst X (v := 3) dX6_init_21 (by decide) ?_
  refine y_callI X (k := 3) (n := 5) (As := [.int 3]) (st := [.ref q3, .ref h0]) (k_X7_init E 3 (by first | decide | omega)) (h0 := h0) (c := .inr (6, [.ref q1, .null, .int 0])) (rest := [] ++ (q1, .inr (7, [.ref r2])) :: [(r2, .inl (zcI E, 3, .inl (fun _ => 0)))]) (q := q3) gw_131 gw_65 ⟨gw_56, gw_66⟩ (by decide +kernel) ⟨Nat.le_of_ble_eq_true rfl, Nat.le_of_ble_eq_true rfl⟩ rfl rfl (Nat.le_of_ble_eq_true rfl) dX6_init_22 (Nat.le_of_ble_eq_true rfl) (Nat.le_of_ble_eq_true rfl) rfl (fun c1 new hR => ?_)
  obtain ⟨r4, rfl, rfl⟩ := hR
  refine y_putF X (ci := 6) (v := .ref q3) (ty := .object "ChairLeague$Row") (fs := [.ref q1, .null, .int 0]) (rest := [] ++ (q1, .inr (7, [.ref r2])) :: [(r2, .inl (zcI E, 3, .inl (fun _ => 0)))] ++ (q3, .inr (7, [.ref r4])) :: [(r4, .inl (zcI E, 3, .inl (fun _ => 0)))]) inlX6 tyX6 tyX6_ok nmX6 rfl 1 (by decide) gw_130 rfl rfl rfl (by decide +kernel) rfl rfl (Nat.le_of_ble_eq_true rfl) dX6_init_25 ?_
  refine y_fs (fs' := [.ref q1, .ref q3, .int 0]) rfl ?_
  exact y_ret X Y dX6_init_28 ⟨(fun r => match r with | 4 => q1 | 5 => r2 | 6 => q3 | 7 => r4 | _ => 0), rfl, rfl⟩
