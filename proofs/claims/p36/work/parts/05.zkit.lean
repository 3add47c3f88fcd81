/-! ===== the world of this claim: every cell of class and reference by (block, role); its whole numbers by (block, role, place) ===== -/
abbrev Mem : Type := Nat → Nat → Nat → Int32
def ZE : Type := Launch × va_G × (Nat → Nat → Nat) × (Nat → Prop) × ClassId × ClassId × (Nat → Nat) × (Nat → Nat) × Nat
def zl (E : ZE) : Launch := E.1
def zD (E : ZE) : va_G := E.2.1
def za (E : ZE) : Nat → Nat → Nat := E.2.2.1
def zA (E : ZE) : Nat → Prop := E.2.2.2.1
def zcI (E : ZE) : ClassId := E.2.2.2.2.1
def zcS (E : ZE) : ClassId := E.2.2.2.2.2.1
def zsK (E : ZE) : Nat → Nat := E.2.2.2.2.2.2.1
def zsV (E : ZE) : Nat → Nat := E.2.2.2.2.2.2.2.1
def zsT (E : ZE) : Nat := E.2.2.2.2.2.2.2.2
def tysE (E : ZE) : List (ClassId × FieldType) := [(zcI E, .int), (zcS E, .object "ChairLeague$State")]
def zst (r : Nat) : Nat := match r with | 0 => 1 | 1 => 2 | 2 => 3 | 3 => 4 | r => 5 + r % 2
def zkd1 (b r : Nat) : Nat :=
  if b ≤ 10 then zst r
  else if b ≤ 12 then (if r = 0 then 7 else if 4 ≤ r ∧ r ≤ 11 then 5 + r % 2 else 0)
  else if b = 13 then (if r = 0 then 8 else if 4 ≤ r ∧ r ≤ 11 then 5 + r % 2 else 0)
  else if b ≤ 15 then (if r = 0 then 9 else if 4 ≤ r ∧ r ≤ 5 then 5 + r % 2 else 0)
  else if b = 16 then (if r = 0 then 10 else if 4 ≤ r ∧ r ≤ 7 then 5 + r % 2 else 0)
  else if b = 17 then (if r = 0 then 11 else 0)
  else (if r = 0 then 12 else if r = 1 then 13 else 0)
/-- the kind of a cell; 0: there is none -/
def zkd (b r : Nat) : Nat := if b ≤ 18 ∧ r ≤ 31 then zkd1 b r else 0
/-- the length of an array of numbers -/
def zn (b r : Nat) : Nat := if b ≤ 12 then 10 else if b = 13 then 30 else if b = 14 then 60 else if b = 15 then 80 else 3
def zcellF (E : ZE) (b r : Nat) (f : Nat → Int32) (n : Nat) : va_E := match n with
  | 1 => .inr (9, [.ref (za E b 1), .ref (za E b 2), .ref (za E b 3)])
  | 2 => .inr (2, [.int (f 0), .ref (za E b 4), .ref (za E b 6), .ref (za E b 8), .ref (za E b 10), .ref (za E b 12), .ref (za E b 14), .ref (za E b 16)])
  | 3 => .inr (4, [.int (f 0), .ref (za E b 18), .ref (za E b 20), .ref (za E b 22), .ref (za E b 24), .ref (za E b 26), .ref (za E b 28), .ref (za E b 30)])
  | 4 => .inr (1, [.int (f 0), .int (f 1), .int (f 2), .int (f 3), .int (f 4), .int (f 5), .int (f 6)])
  | 5 => .inr (7, [.ref (za E b (r + 1))])
  | 6 => .inl (zcI E, zn b r, .inl f)
  | 7 => .inr (0, [.ref (za E b 4), .ref (za E b 6), .ref (za E b 8), .ref (za E b 10)])
  | 8 => .inr (5, [.ref (za E 14 0), .ref (za E b 4), .ref (za E b 6), .ref (za E b 8), .ref (za E b 10), .int (f 5), .int (f 6)])
  | 9 => .inr (8, [.int (nI (zn b 5)), .ref (za E b 4), .int (f 2)])
  | 10 => .inr (6, [.ref (za E b 4), .ref (za E b 6), .int (f 2)])
  | 11 => .inr (10, [.ref (za E 9 0), .ref (za E 10 0), .int (f 2), .ref (za E 18 0), .ref (za E 11 0), .ref (za E 12 0), .ref (za E 13 0), .ref (za E 15 0), .ref (za E 16 0)])
  | 12 => .inr (3, [.ref (za E 18 1), .int (f 1), .int (f 2)])
  | 13 => .inl (zcS E, 9, .inr (.inr (.inr (.inr (fun k => some (za E k 0))))))
  | _ => .inr (0, [])
def zcell (E : ZE) (M : Mem) (b r : Nat) : va_E := zcellF E b r (M b r) (zkd b r)
def zL : List (Nat × Nat) := ((List.range 19).flatMap fun b => (List.range 32).map fun r => (b, r)).filter fun q => zkd q.1 q.2 != 0
theorem zL_mem {b r : Nat} (h : zkd b r ≠ 0) : (b, r) ∈ zL := by
  have hb : b ≤ 18 ∧ r ≤ 31 := by
    by_cases q : b ≤ 18 ∧ r ≤ 31
    · exact q
    · unfold zkd at h; rw [if_neg q] at h; exact absurd rfl h
  refine List.mem_filter.mpr ⟨List.mem_flatMap.mpr ⟨b, List.mem_range.mpr (by omega), List.mem_map.mpr ⟨r, List.mem_range.mpr (by omega), rfl⟩⟩, ?_⟩
  simpa using h
def zws (E : ZE) (M : Mem) : va_W := zL.map fun q => (za E q.1 q.2, zcell E M q.1 q.2)
def Wd (E : ZE) (M : Mem) (H : Heap) : Prop := va_P (zD E) vwCl (zws E M) H ∧ va_D (zA E) (zws E M)
theorem zws_at {E : ZE} {M : Mem} {b r : Nat} (h : zkd b r ≠ 0) : ∃ k : Nat, zL[k]? = some (b, r) ∧ (zws E M)[k]? = some (za E b r, zcell E M b r) := by
  obtain ⟨k, hk⟩ := List.getElem?_of_mem (zL_mem h)
  exact ⟨k, hk, by unfold zws; rw [List.getElem?_map, hk]; rfl⟩
/-- the memory with one number changed -/
def up3 (M : Mem) (b r k : Nat) (x : Int32) : Mem := fun b' r' k' => if b' = b ∧ r' = r ∧ k' = k then x else M b' r' k'
/-- the memory with one cell's numbers changed -/
def up2 (M : Mem) (b r : Nat) (f : Nat → Int32) : Mem := fun b' r' => if b' = b ∧ r' = r then f else M b' r'
theorem up3_eq (M : Mem) (b r k : Nat) (x : Int32) : up3 M b r k x = up2 M b r (upd (M b r) k x) := by
  funext b' r' k'
  unfold up3 up2 upd
  by_cases h : b' = b ∧ r' = r
  · obtain ⟨rfl, rfl⟩ := h
    simp
  · rw [if_neg h, if_neg (fun q => h ⟨q.1, q.2.1⟩)]
theorem up3_same {M : Mem} {b r k : Nat} {x : Int32} : up3 M b r k x b r k = x := by simp [up3]
theorem up3_ne {M : Mem} {b r k b' r' k' : Nat} {x : Int32} (h : ¬ (b' = b ∧ r' = r ∧ k' = k)) : up3 M b r k x b' r' k' = M b' r' k' := if_neg h
theorem up2_row {M : Mem} {b r : Nat} {f : Nat → Int32} : up2 M b r f b r = f := by simp [up2]
theorem up2_ne {M : Mem} {b r b' r' : Nat} {f : Nat → Int32} (h : ¬ (b' = b ∧ r' = r)) : up2 M b r f b' r' = M b' r' := if_neg h
/-- a cell speaks of its own numbers alone -/
theorem zcell_own {E : ZE} {M M' : Mem} {b r : Nat} (h : M' b r = M b r) : zcell E M' b r = zcell E M b r := by
  unfold zcell
  rw [h]
theorem Wd.set {E : ZE} {M M' : Mem} {H H' : Heap} {b r : Nat} (h : Wd E M H) (hz : zkd b r ≠ 0) (hM : ∀ b' r', ¬ (b' = b ∧ r' = r) → M' b' r' = M b' r')
    (hn : va_at (zD E) vwCl (za E b r, zcell E M' b r) H') (hq : ∀ q : Nat, q ≠ za E b r → H'[q]? = H[q]?) : Wd E M' H' := by
  obtain ⟨hP, hD⟩ := h
  obtain ⟨k0, hk0, hw0⟩ := zws_at (E := E) (M := M) hz
  refine ⟨fun k q hk => ?_, ⟨fun i j p q hi hj e => ?_, fun k q hk => ?_⟩⟩
  · unfold zws at hk
    rw [List.getElem?_map] at hk
    cases hL : zL[k]? with
    | none => rw [hL] at hk; cases hk
    | some z =>
      rw [hL] at hk
      have hk : (za E z.1 z.2, zcell E M' z.1 z.2) = q := Option.some.inj hk
      subst hk
      have hwk : (zws E M)[k]? = some (za E z.1 z.2, zcell E M z.1 z.2) := by unfold zws; rw [List.getElem?_map, hL]; rfl
      by_cases e : z.1 = b ∧ z.2 = r
      · obtain ⟨e1, e2⟩ := e
        rw [e1, e2]
        exact hn
      · have hold := hP k _ hwk
        rw [zcell_own (hM _ _ e)]
        refine hold.kept (hq _ fun ha => ?_)
        have := hD.1 k k0 _ _ hwk hw0 ha
        subst this
        rw [hL] at hk0
        cases hk0
        exact e ⟨rfl, rfl⟩
  · unfold zws at hi hj
    rw [List.getElem?_map] at hi hj
    cases hLi : zL[i]? with
    | none => rw [hLi] at hi; cases hi
    | some zi =>
      cases hLj : zL[j]? with
      | none => rw [hLj] at hj; cases hj
      | some zj =>
        rw [hLi] at hi
        rw [hLj] at hj
        have hi : (za E zi.1 zi.2, zcell E M' zi.1 zi.2) = p := Option.some.inj hi
        have hj : (za E zj.1 zj.2, zcell E M' zj.1 zj.2) = q := Option.some.inj hj
        subst hi
        subst hj
        exact hD.1 i j (za E zi.1 zi.2, zcell E M zi.1 zi.2) (za E zj.1 zj.2, zcell E M zj.1 zj.2) (by unfold zws; rw [List.getElem?_map, hLi]; rfl) (by unfold zws; rw [List.getElem?_map, hLj]; rfl) e
  · unfold zws at hk
    rw [List.getElem?_map] at hk
    cases hL : zL[k]? with
    | none => rw [hL] at hk; cases hk
    | some z =>
      rw [hL] at hk
      have hk : (za E z.1 z.2, zcell E M' z.1 z.2) = q := Option.some.inj hk
      subst hk
      exact hD.2 k (za E z.1 z.2, zcell E M z.1 z.2) (by unfold zws; rw [List.getElem?_map, hL]; rfl)
theorem Wd.at {E : ZE} {M : Mem} {H : Heap} {b r : Nat} (h : Wd E M H) (hz : zkd b r ≠ 0) : va_at (zD E) vwCl (za E b r, zcell E M b r) H := by
  obtain ⟨k, -, hk⟩ := zws_at (E := E) (M := M) hz
  exact h.1 k _ hk
theorem Wd.inA {E : ZE} {M : Mem} {H : Heap} {b r : Nat} (h : Wd E M H) (hz : zkd b r ≠ 0) : zA E (za E b r) := by
  obtain ⟨k, -, hk⟩ := zws_at (E := E) (M := M) hz
  exact h.2.2 k _ hk
theorem arrV_congr {c : ClassId} {n : Nat} {f f' : Nat → Value} (h : ∀ k, k < n → f k = f' k) : arrV c n f = arrV c n f' := by
  unfold arrV
  congr 1
  apply Array.ext_getElem?
  intro i
  by_cases hi : i < n
  · simp [hi, h i hi]
  · simp [hi]
/-- numbers that no cell holds don't matter -/
theorem zcellF_like {E : ZE} {b r n : Nat} {f f' : Nat → Int32} (h : ∀ k, k < 149 → f' k = f k) (h6 : n ≠ 6) : zcellF E b r f' n = zcellF E b r f n := by
  unfold zcellF
  split <;> first
    | rfl
    | exact absurd rfl h6
    | simp only [h 0 (by decide), h 1 (by decide), h 2 (by decide), h 3 (by decide), h 4 (by decide), h 5 (by decide), h 6 (by decide)]
theorem zn_le (b r : Nat) : zn b r ≤ 149 := by
  unfold zn
  (repeat' split) <;> omega
theorem zcell_int {E : ZE} {M : Mem} {b r : Nat} (h : zkd b r = 6) : zcell E M b r = .inl (zcI E, zn b r, .inl (M b r)) := by unfold zcell; rw [h]; rfl
theorem zcell_like {E : ZE} {M M' : Mem} {b r : Nat} {H : Heap} (h : ∀ k, k < 149 → M' b r k = M b r k) (hv : va_at (zD E) vwCl (za E b r, zcell E M b r) H) : va_at (zD E) vwCl (za E b r, zcell E M' b r) H := by
  have hn := zn_le b r
  by_cases h6 : zkd b r = 6
  · rw [zcell_int h6] at hv ⊢
    show _ = some _
    refine Eq.trans hv (congrArg some ?_)
    show arrV (zcI E) (zn b r) (fun j => .int (M b r j)) = arrV (zcI E) (zn b r) (fun j => .int (M' b r j))
    exact arrV_congr (fun k hk => by rw [h k (by omega)])
  · rw [show zcell E M' b r = zcell E M b r from zcellF_like h h6]
    exact hv
def Mq (M M' : Mem) : Prop := ∀ b r k, k < 149 → M' b r k = M b r k
theorem Wd.like {E : ZE} {M M' : Mem} {H : Heap} (h : Wd E M H) (hM : Mq M M') : Wd E M' H := by
  obtain ⟨hP, hD⟩ := h
  refine ⟨fun k q hk => ?_, ⟨fun i j p q hi hj e => ?_, fun k q hk => ?_⟩⟩
  · unfold zws at hk
    rw [List.getElem?_map] at hk
    cases hL : zL[k]? with
    | none => rw [hL] at hk; cases hk
    | some z =>
      rw [hL] at hk
      have hk : (za E z.1 z.2, zcell E M' z.1 z.2) = q := Option.some.inj hk
      subst hk
      exact zcell_like (hM z.1 z.2) (hP k (za E z.1 z.2, zcell E M z.1 z.2) (by unfold zws; rw [List.getElem?_map, hL]; rfl))
  · unfold zws at hi hj
    rw [List.getElem?_map] at hi hj
    cases hLi : zL[i]? with
    | none => rw [hLi] at hi; cases hi
    | some zi =>
      cases hLj : zL[j]? with
      | none => rw [hLj] at hj; cases hj
      | some zj =>
        rw [hLi] at hi
        rw [hLj] at hj
        have hi : (za E zi.1 zi.2, zcell E M' zi.1 zi.2) = p := Option.some.inj hi
        have hj : (za E zj.1 zj.2, zcell E M' zj.1 zj.2) = q := Option.some.inj hj
        subst hi
        subst hj
        exact hD.1 i j (za E zi.1 zi.2, zcell E M zi.1 zi.2) (za E zj.1 zj.2, zcell E M zj.1 zj.2) (by unfold zws; rw [List.getElem?_map, hLi]; rfl) (by unfold zws; rw [List.getElem?_map, hLj]; rfl) e
  · unfold zws at hk
    rw [List.getElem?_map] at hk
    cases hL : zL[k]? with
    | none => rw [hL] at hk; cases hk
    | some z =>
      rw [hL] at hk
      have hk : (za E z.1 z.2, zcell E M' z.1 z.2) = q := Option.some.inj hk
      subst hk
      exact hD.2 k (za E z.1 z.2, zcell E M z.1 z.2) (by unfold zws; rw [List.getElem?_map, hL]; rfl)
/-- the law's thirty texts, as their codes -/
def txL : List (List Int32) := [[104, 48, 57], [104, 49, 53, 59, 104, 51, 55], [109, 49, 53, 57], [109, 48, 50, 48, 59, 109, 49, 51, 49], [115, 48, 58, 49], [115, 48, 58, 48, 59, 115, 48, 58, 48], [114, 48], [114, 49, 59, 114, 49], [97], [97, 59, 112, 52, 59, 97], [98, 48, 61, 49, 50], [98, 49, 61, 48, 51, 59, 99, 57], [99, 49, 59, 99, 50], [112, 49], [112, 52, 59, 112, 52], [117, 48], [117, 49, 59, 117, 49], [116, 48], [104, 52, 57], [104, 48, 48], [109, 49, 48, 48], [109, 52, 48, 57], [115, 57, 58, 48], [98, 57, 61, 49], [98, 48, 61, 57, 57], [99, 48], [112, 48], [112, 53], [117, 57], [116, 57]]
def txt (k : Nat) : List Int32 := txL.getD k []
/-- what lies outside: the law's texts, the row of them, and that texts are compact -/
def Sx (E : ZE) (U : State) (H : Heap) : Prop := (∀ i, i < 30 → vk_S 1 [(txt i).length] [txt i] (fun _ => zsK E i) (fun _ => zsV E i) (zA E) U H) ∧ va_Z "java/lang/String" "COMPACT_STRINGS" "Z" (.int 1) (zA E) U H ∧ va_Z "ChairLeagueLaw" "TEXTS" "[Ljava/lang/String;" (.ref (zsT E)) (zA E) U H ∧ va_T (.object "java/lang/String") (zsT E) 30 (fun i => .ref (zsK E i)) (zA E) U H ∧ va_Zq "jdk/internal/util/Preconditions" "SIOOBE_FORMATTER" "Ljava/util/function/BiFunction;" (zA E) U H
theorem Sx.kept {E : ZE} {U : State} {H H1 : Heap} (h : Sx E U H) (hq : ∀ a : Nat, a < H.size → ¬ zA E a → H1[a]? = H[a]?) : Sx E U H1 := ⟨fun i hi => (h.1 i hi).kept hq, h.2.1.kept hq, h.2.2.1.kept hq, h.2.2.2.1.kept hq, h.2.2.2.2.kept hq⟩
theorem Sx.warm {E : ZE} {s U : State} {H : Heap} (hW : s.WarmedH U.vm) (h : Sx E s H) : Sx E U H := ⟨fun i hi => (h.1 i hi).moved hW.alike, h.2.1.moved hW.alike, h.2.2.1.moved hW.alike, h.2.2.2.1.moved hW.alike, h.2.2.2.2.moved hW.alike⟩
theorem Sx.calling {E : ZE} {U : State} {H : Heap} {g : JFrame} {mk : MethodId} {a : Array Value} (h : Sx E U H) : Sx E (U.calling g mk a) H := ⟨fun i hi => (h.1 i hi).moved (Vm.Alike.refl U.vm), h.2.1.moved (Vm.Alike.refl U.vm), h.2.2.1.moved (Vm.Alike.refl U.vm), h.2.2.2.1.moved (Vm.Alike.refl U.vm), h.2.2.2.2.moved (Vm.Alike.refl U.vm)⟩
/-! the walk: a method's own state, its memory, its locals, its place, its stack -/
def ZG : Type := Program × Env × Room × State × MethodId × Array Value × List Frame × Method × Code × (State → Prop)
def gp (g : ZG) : Program := g.1
def ge (g : ZG) : Env := g.2.1
def gR (g : ZG) : Room := g.2.2.1
def gs (g : ZG) : State := g.2.2.2.1
def gm (g : ZG) : MethodId := g.2.2.2.2.1
def ga (g : ZG) : Array Value := g.2.2.2.2.2.1
def gb (g : ZG) : List Frame := g.2.2.2.2.2.2.1
def gM (g : ZG) : Method := g.2.2.2.2.2.2.2.1
def gc (g : ZG) : Code := g.2.2.2.2.2.2.2.2.1
def gQ (g : ZG) : State → Prop := g.2.2.2.2.2.2.2.2.2
def ZW (g : ZG) (E : ZE) (H : Heap) (locs : List Loc) (f : JFrame) : Prop := W (gp g) (zl E) (ge g) (gR g) (gs g) (gm g) (ga g) (gb g) (gM g) (gc g) H locs 0 0 (gQ g) f
def Z (g : ZG) (E : ZE) (M : Mem) (lv : List (Nat × Value)) (pc : Nat) (st : List Value) : Prop :=
  ∀ (H : Heap) (locs : List Loc) (ls : Array Slot), Wd E M H → va_S (zA E) (gs g).heap H locs → lv_has ls (gc g).maxLocals lv → ZW g E H locs (F0 (gm g) pc ls st)
def Cb (g : ZG) (E : ZE) (own : String) (cc : ByteArray) (nL : Nat) (rm : Room) : Prop :=
  (gp g).tables.exec = Jvm.exec ∧ (gc g).code = cc ∧ (gc g).maxLocals = nL ∧ (gs g).vm.findClass own = some (gm g).cls ∧ (∀ w ∈ wsL_law, w.before (ga g) (gs g) = true) ∧ va_K (zD E) vwCl (tysE E) (gs g) ∧ gR g = rm ∧ Sx E (gs g) (gs g).heap
/-- a method's end -/
def zQ (E : ZE) (Post : Option Value → Mem → Prop) : Array Value → State → Outcome → State → Prop := fun _ st oc t => (∃ (r : Option Value) (M' : Mem), oc = .returned r ∧ Post r M' ∧ Wd E M' t.heap) ∧ va_F (zA E) st t
def Rt (g : ZG) (E : ZE) (ret : Option FieldType) (Post : Option Value → Mem → Prop) : Prop :=
  (gM g).sig.returnType = ret ∧ (gM g).locks = false ∧ gQ g = MQ (gb g) (zQ E Post) (ga g) (gs g) 0 0 (zA E)
def zPre (E : ZE) (M : Mem) (U : State) : Prop := Wd E M U.heap ∧ va_K (zD E) vwCl (tysE E) U ∧ Sx E U U.heap
def Mt (E : ZE) (y : MethodName) (cc : ByteArray) (nL : Nat) (ret : Option FieldType) (rm : Room) (args : List Value) (M : Mem) (Post : Option Value → Mem → Prop) : Prop :=
  Met (zl E) y (.code y cc nL ret :: wsL_law) rm (va_Pc args (zPre E M)) (zQ E Post) 0 0 (zA E)
def PI (v : Int32) (M1 : Mem) : Option Value → Mem → Prop := fun r M' => r = some (.int v) ∧ M' = M1
def PR (a : Nat) (M1 : Mem) : Option Value → Mem → Prop := fun r M' => r = some (.ref a) ∧ M' = M1
def PV (M1 : Mem) : Option Value → Mem → Prop := fun r M' => r = none ∧ M' = M1
def RI (P : Int32 → Mem → Prop) : Option Value → Mem → Prop := fun r M' => ∃ v, r = some (.int v) ∧ P v M'
def RV (P : Mem → Prop) : Option Value → Mem → Prop := fun r M' => r = none ∧ P M'
theorem z_met {E : ZE} {y : MethodName} {cc : ByteArray} {nL : Nat} {ret : Option FieldType} {rm : Room} {args : List Value} {M : Mem} {Post : Option Value → Mem → Prop} {own : String} {lv : List (Nat × Value)}
    (hy : plainName y.cls = true) (hown : y.cls = own) (hn : (lg_sl args).length ≤ nL) (hlv : lv_args 0 args = lv)
    (body : ∀ g : ZG, Cb g E own cc nL rm → Rt g E ret Post → Z g E M lv 0 []) : Mt E y cc nL ret rm args M Post := by
  refine Met.ofW (cc := cc) (maxL := nL) (ret := ret) hy rfl ?_
  intro p e s m args' below meth c s₁ B hml hv
  obtain ⟨rfl, hW, hK, hSx⟩ := hv
  have hts := atoms_spec (ws := Cond.code y cc nL ret :: wsL_law) B.pre
  have hown' : s.vm.findClass own = some m.cls := by rw [← hown]; exact findClass_of_methodNamed B.named
  have hl := lv_entry args (n := nL) hn
  rw [lg_entry_eq]
  generalize (lg_sl args ++ List.replicate (nL - (lg_sl args).length) Slot.unset).toArray = ls at hl ⊢
  subst hlv
  exact body (p, e, (headSpec (Cond.code y cc nL ret :: wsL_law) rm).room, s, m, args.toArray, below, meth, c, MQ below (zQ E Post) args.toArray s 0 0 (zA E)) ⟨B.exec, B.bytes, hml, hown', fun w hw => hts w (List.mem_cons_of_mem _ hw), hK, rfl, hSx⟩ ⟨B.returns, B.notSynchronized, rfl⟩ s.heap [] ls hW va_S.rf (by rw [show (gc (p, e, (headSpec (Cond.code y cc nL ret :: wsL_law) rm).room, s, m, args.toArray, below, meth, c, MQ below (zQ E Post) args.toArray s 0 0 (zA E))).maxLocals = nL from hml]; exact hl)
theorem z_mem {g : ZG} {E : ZE} {M M' : Mem} {lv : List (Nat × Value)} {pc : Nat} {st : List Value} (h : M = M') (k : Z g E M' lv pc st) : Z g E M lv pc st := h ▸ k
theorem z_like {g : ZG} {E : ZE} {M M' : Mem} {lv : List (Nat × Value)} {pc : Nat} {st : List Value} (h : Mq M M') (k : Z g E M' lv pc st) : Z g E M lv pc st := fun H locs ls hW => k H locs ls (hW.like h)
theorem z_eq {g : ZG} {E : ZE} {M : Mem} {lv lv' : List (Nat × Value)} {pc : Nat} {st st' : List Value} (h1 : lv = lv') (h2 : st = st') (k : Z g E M lv' pc st') : Z g E M lv pc st := h1 ▸ h2 ▸ k
theorem z_sub {g : ZG} {E : ZE} {M : Mem} {lv lv' : List (Nat × Value)} {pc : Nat} {st : List Value} (ks : List Nat) (h : lv_pick lv ks = lv') (k : Z g E M lv' pc st) : Z g E M lv pc st := fun H locs ls hW hS hl => k H locs ls hW hS (lv_sub hl ks h)
theorem z_top {g : ZG} {E : ZE} {M : Mem} {lv : List (Nat × Value)} {pc : Nat} {x y : Int32} {st : List Value} (h : x = y) (k : Z g E M lv pc (.int y :: st)) : Z g E M lv pc (.int x :: st) := h ▸ k
