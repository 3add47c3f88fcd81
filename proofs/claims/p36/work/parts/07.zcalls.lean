section ZC
variable {g : ZG} {E : ZE} {own : String} {cc : ByteArray} {nL : Nat} {rm : Room} {M : Mem} {lv : List (Nat × Value)} {pc : Nat} {st : List Value}
theorem zws_set {E : ZE} {M M' : Mem} {b r q1 : Nat} {A : Nat → Prop} (hD : va_D A (zws E M)) (hk : zL[q1]? = some (b, r)) (hM : ∀ b' r', ¬ (b' = b ∧ r' = r) → M' b' r' = M b' r') : (zws E M).set q1 (za E b r, zcell E M' b r) = zws E M' := by
  have hw0 : (zws E M)[q1]? = some (za E b r, zcell E M b r) := by unfold zws; rw [List.getElem?_map, hk]; rfl
  have hlt : q1 < (zws E M).length := (List.getElem?_eq_some_iff.mp hw0).1
  apply List.ext_getElem?
  intro i
  rw [List.getElem?_set]
  by_cases e : q1 = i
  · subst e
    rw [if_pos rfl, if_pos hlt]
    unfold zws
    rw [List.getElem?_map, hk]
    rfl
  · rw [if_neg e]
    unfold zws
    rw [List.getElem?_map, List.getElem?_map]
    cases hL : zL[i]? with
    | none => rfl
    | some z =>
      have hwi : (zws E M)[i]? = some (za E z.1 z.2, zcell E M z.1 z.2) := by unfold zws; rw [List.getElem?_map, hL]; rfl
      show some (za E z.1 z.2, zcell E M z.1 z.2) = some (za E z.1 z.2, zcell E M' z.1 z.2)
      by_cases h : z.1 = b ∧ z.2 = r
      · obtain ⟨h1, h2⟩ := h
        rw [h1, h2] at hwi
        exact absurd (hD.1 q1 i _ _ hw0 hwi rfl) e
      · rw [zcell_own (hM _ _ h)]
theorem zkd_ne {b r k : Nat} (h : zkd b r = k + 1) : zkd b r ≠ 0 := by rw [h]; exact Nat.succ_ne_zero k
theorem z_iald (X : Cb g E own cc nL rm) {b r j : Nat} {i : Int32} (h6 : zkd b r = 6) (hi : i = nI j) (hj : j < zn b r) (hd : decode cc pc = .ok (.iaload, 1))
    (k : Z g E M lv (pc + 1) (.int (M b r j) :: st)) : Z g E M lv pc (.int i :: .ref (za E b r) :: st) := by
  intro H locs ls hW hS hl
  have hn := zn_le b r
  obtain ⟨q, -, hq⟩ := zws_at (E := E) (M := M) (zkd_ne h6)
  rw [zcell_int h6] at hq
  subst hi
  have k1 := k H locs ls hW hS hl
  refine va_iald X.1 X.2.1 X.2.2.2.2.2.1 hW.1 q 0 hq rfl (vp_in_nI hj (by omega)) hd ?_
  rw [nI_clamp (by omega)]
  exact k1
theorem z_iast (X : Cb g E own cc nL rm) {b r j : Nat} {i x : Int32} (h6 : zkd b r = 6) (hi : i = nI j) (hj : j < zn b r) (hd : decode cc pc = .ok (.iastore, 1))
    (k : Z g E (up3 M b r j x) lv (pc + 1) st) : Z g E M lv pc (.int x :: .int i :: .ref (za E b r) :: st) := by
  intro H locs ls hW hS hl
  have hn := zn_le b r
  obtain ⟨q, hk, hq⟩ := zws_at (E := E) (M := M) (zkd_ne h6)
  rw [zcell_int h6] at hq
  subst hi
  refine va_iast X.1 X.2.1 X.2.2.2.2.2.1 hW.1 hW.2 hS q 0 hq rfl (vp_in_nI hj (by omega)) hd ?_
  rw [nI_clamp (by omega)]
  have hM : ∀ b' r', ¬ (b' = b ∧ r' = r) → up3 M b r j x b' r' = M b' r' := fun b' r' h => by funext k'; exact up3_ne (fun q => h ⟨q.1, q.2.1⟩)
  have e := zws_set hW.2 hk hM
  rw [zcell_int h6, up3_eq, up2_row] at e
  intro H1 locs1 hP hD hS1
  rw [e] at hP hD
  rw [← up3_eq] at hP hD
  exact k H1 locs1 ls ⟨hP, hD⟩ hS1 hl
theorem z_ilen (X : Cb g E own cc nL rm) {b r : Nat} {v : Int32} (h6 : zkd b r = 6) (hv : nI (zn b r) = v) (hd : decode cc pc = .ok (.arraylength, 1))
    (k : Z g E M lv (pc + 1) (.int v :: st)) : Z g E M lv pc (.ref (za E b r) :: st) := by
  intro H locs ls hW hS hl
  obtain ⟨q, -, hq⟩ := zws_at (E := E) (M := M) (zkd_ne h6)
  rw [zcell_int h6] at hq
  exact va_alen X.1 X.2.1 X.2.2.2.2.2.1 hW.1 q 0 hq rfl hv hd (k H locs ls hW hS hl)
theorem z_slen (X : Cb g E own cc nL rm) (hd : decode cc pc = .ok (.arraylength, 1))
    (k : Z g E M lv (pc + 1) (.int 9 :: st)) : Z g E M lv pc (.ref (za E 18 1) :: st) := by
  intro H locs ls hW hS hl
  obtain ⟨q, -, hq⟩ := zws_at (E := E) (M := M) (b := 18) (r := 1) (by decide)
  exact va_alen X.1 X.2.1 X.2.2.2.2.2.1 hW.1 q 1 hq rfl rfl hd (k H locs ls hW hS hl)
theorem z_sald (X : Cb g E own cc nL rm) {j : Nat} {i : Int32} (hi : i = nI j) (hj : j < 9) (hd : decode cc pc = .ok (.aaload, 1))
    (k : Z g E M lv (pc + 1) (.ref (za E j 0) :: st)) : Z g E M lv pc (.int i :: .ref (za E 18 1) :: st) := by
  intro H locs ls hW hS hl
  obtain ⟨q, -, hq⟩ := zws_at (E := E) (M := M) (b := 18) (r := 1) (by decide)
  subst hi
  have k1 := k H locs ls hW hS hl
  refine va_aldq X.1 X.2.1 X.2.2.2.2.2.1 hW.1 q 1 hq rfl (vp_in_nI hj (by omega)) hd ?_
  rw [nI_clamp (by omega)]
  exact k1
theorem z_copyi (X : Cb g E own cc nL rm) {index b0 r0 b1 r1 n : Nat} (h0 : zkd b0 r0 = 6) (h1 : zkd b1 r1 = 6) (hn0 : n ≤ zn b0 r0) (hn1 : n ≤ zn b1 r1) (hlink : Cond.methodLink own index arraycopyName ∈ wsL_law) (hnat : Cond.native arraycopyName ∈ wsL_law) (hstat : Cond.static arraycopyName ∈ wsL_law) (hini : Cond.initialized "java/lang/System" ∈ wsL_law)
    (hfr : 1 ≤ rm.frames) (hlo : (st.map fun v => v.category).sum + (nativeFrameWords "java/lang/System" "arraycopy" 5 + 11) ≤ rm.locals) (hd : decode cc pc = .ok (.invokestatic index, 3)) {nn : Int32} (hnn : nn = nI n)
    (k : Z g E (up2 M b1 r1 (fun j => if j < n then M b0 r0 j else M b1 r1 j)) lv (pc + 3) st) : Z g E M lv pc (.int nn :: .int 0 :: .ref (za E b1 r1) :: .int 0 :: .ref (za E b0 r0) :: st) := by
  intro H locs ls hW hS hl
  subst hnn
  have hz0 := zn_le b0 r0
  obtain ⟨q0, -, hq0⟩ := zws_at (E := E) (M := M) (zkd_ne h0)
  obtain ⟨q1, hk1, hq1⟩ := zws_at (E := E) (M := M) (zkd_ne h1)
  rw [zcell_int h0] at hq0
  rw [zcell_int h1] at hq1
  have c0 : (0 : Int32).toNatClampNeg = 0 := by decide
  have cn : (nI n).toNatClampNeg = n := nI_clamp (by omega)
  refine va_copyi X.1 X.2.1 (by rw [hl.1]) X.2.2.2.1 (X.2.2.2.2.1 _ hlink) (X.2.2.2.2.1 _ hnat) (X.2.2.2.2.1 _ hstat) (X.2.2.2.2.1 _ hini) X.2.2.2.2.2.1 hW.1 hW.2 hS q0 q1 0 0 hq0 hq1 rfl rfl rfl (by decide) (by decide) (nI_pos (by omega)) (by rw [c0, cn]; omega) (by rw [c0, cn]; omega) (fun _ _ => rfl) (by rw [X.2.2.2.2.2.2.1]; exact hfr) (by rw [X.2.2.2.2.2.2.1]; exact hlo) hd ?_
  rw [c0, cn]
  have hM : ∀ b' r', ¬ (b' = b1 ∧ r' = r1) → up2 M b1 r1 (fun j => if j < n then M b0 r0 j else M b1 r1 j) b' r' = M b' r' := fun b' r' h => up2_ne h
  have e := zws_set hW.2 hk1 hM
  rw [zcell_int h1, up2_row] at e
  have ef : va_cpy (M b0 r0) (M b1 r1) 0 0 n = fun j => if j < n then M b0 r0 j else M b1 r1 j := by
    funext j
    unfold va_cpy
    by_cases hj : j < n
    · rw [if_pos ⟨by omega, by omega⟩, if_pos hj]; congr 1; omega
    · rw [if_neg (by omega), if_neg hj]
  rw [ef]
  intro H1 locs1 hP hD hS1
  rw [e] at hP hD
  exact k H1 locs1 ls ⟨hP, hD⟩ hS1 hl
/-! the JDK's Math -/
theorem z_abs (X : Cb g E own cc nL rm) {index : Nat} {x : Int32} (hlink : Cond.methodLink own index Lib.Math.abs.name ∈ wsL_law) (hstat : Cond.static Lib.Math.abs.name ∈ wsL_law) (hini : Cond.initialized "java/lang/Math" ∈ wsL_law) (hcode : Cond.code Lib.Math.abs.name Lib.Math.abs.code 1 (some .int) ∈ wsL_law) (hfr : 1 ≤ rm.frames) (hlo : (st.map fun v => v.category).sum + 13 ≤ rm.locals) (hd : decode cc pc = .ok (.invokestatic index, 3))
    (k : Z g E M lv (pc + 3) (.int (if 0 ≤ x then x else 0 - x) :: st)) : Z g E M lv pc (.int x :: st) := fun H locs ls hW hS hl =>
  va_mabs X.1 X.2.1 (by rw [hl.1]) X.2.2.2.1 (X.2.2.2.2.1 _ hlink) (X.2.2.2.2.1 _ hstat) (X.2.2.2.2.1 _ hini) (X.2.2.2.2.1 _ hcode) (by rw [X.2.2.2.2.2.2.1]; exact hfr) (by rw [X.2.2.2.2.2.2.1]; exact hlo) (Nat.zero_le _) (Nat.zero_le _) hd (k H locs ls hW hS hl)
theorem z_min (X : Cb g E own cc nL rm) {index : Nat} {x y : Int32} (hlink : Cond.methodLink own index Lib.Math.min.name ∈ wsL_law) (hstat : Cond.static Lib.Math.min.name ∈ wsL_law) (hini : Cond.initialized "java/lang/Math" ∈ wsL_law) (hcode : Cond.code Lib.Math.min.name Lib.Math.min.code 2 (some .int) ∈ wsL_law) (hfr : 1 ≤ rm.frames) (hlo : (st.map fun v => v.category).sum + 13 ≤ rm.locals) (hd : decode cc pc = .ok (.invokestatic index, 3))
    (k : Z g E M lv (pc + 3) (.int (if y < x then y else x) :: st)) : Z g E M lv pc (.int y :: .int x :: st) := fun H locs ls hW hS hl =>
  va_mmin X.1 X.2.1 (by rw [hl.1]) X.2.2.2.1 (X.2.2.2.2.1 _ hlink) (X.2.2.2.2.1 _ hstat) (X.2.2.2.2.1 _ hini) (X.2.2.2.2.1 _ hcode) (by rw [X.2.2.2.2.2.2.1]; exact hfr) (by rw [X.2.2.2.2.2.2.1]; exact hlo) (Nat.zero_le _) (Nat.zero_le _) hd (k H locs ls hW hS hl)
theorem z_max (X : Cb g E own cc nL rm) {index : Nat} {x y : Int32} (hlink : Cond.methodLink own index Lib.Math.max.name ∈ wsL_law) (hstat : Cond.static Lib.Math.max.name ∈ wsL_law) (hini : Cond.initialized "java/lang/Math" ∈ wsL_law) (hcode : Cond.code Lib.Math.max.name Lib.Math.max.code 2 (some .int) ∈ wsL_law) (hfr : 1 ≤ rm.frames) (hlo : (st.map fun v => v.category).sum + 13 ≤ rm.locals) (hd : decode cc pc = .ok (.invokestatic index, 3))
    (k : Z g E M lv (pc + 3) (.int (if x < y then y else x) :: st)) : Z g E M lv pc (.int y :: .int x :: st) := fun H locs ls hW hS hl =>
  va_mmax X.1 X.2.1 (by rw [hl.1]) X.2.2.2.1 (X.2.2.2.2.1 _ hlink) (X.2.2.2.2.1 _ hstat) (X.2.2.2.2.1 _ hini) (X.2.2.2.2.1 _ hcode) (by rw [X.2.2.2.2.2.2.1]; exact hfr) (by rw [X.2.2.2.2.2.2.1]; exact hlo) (Nat.zero_le _) (Nat.zero_le _) hd (k H locs ls hW hS hl)
/-! calls -/
theorem zPre_of {E : ZE} {M : Mem} {s U : State} {H : Heap} {locs : List Loc} (hW : Wd E M H) (hS : va_S (zA E) s.heap H locs) (hK : va_K (zD E) vwCl (tysE E) s) (hSx : Sx E s s.heap) (hU : U.heap = H) (hw : s.WarmedH U.vm) : zPre E M U := by
  subst hU
  exact ⟨hW, va_K.moved hw.alike hK, (hSx.kept hS.2.1).warm hw⟩
theorem zPre_blind (E : ZE) (M : Mem) (As : List Value) : FrameBlind (va_Pc As (zPre E M)) := fun a U g mk q => by
  obtain ⟨h1, h2, h3, h4⟩ := q
  exact ⟨h1, h2, va_K.moved (u := U) (U := U.calling g mk a) (Vm.Alike.refl U.vm) h3, h4.calling⟩
/-- what a call of an instance method needs of the tables: once a method -/
def KV (y : MethodName) (C : String) (bytes : ByteArray) (maxL : Nat) (ret : Option FieldType) (n : Nat) : Prop :=
  (Cond.instanceMethod y ∈ wsL_law ∧ Cond.selects C y y ∈ wsL_law ∧ Cond.initialized C ∈ wsL_law ∧ Cond.code y bytes maxL ret ∈ wsL_law) ∧ (y.cls = C ∧ y.cls ≠ "java/lang/invoke/MethodHandle" ∧ y.cls ≠ "java/lang/invoke/VarHandle" ∧ (parseMethodDescriptor y.desc).map (fun d => d.parameters.length) = some n)
def KS (y : MethodName) (bytes : ByteArray) (maxL : Nat) (ret : Option FieldType) (n : Nat) : Prop :=
  (Cond.static y ∈ wsL_law ∧ Cond.initialized y.cls ∈ wsL_law ∧ Cond.code y bytes maxL ret ∈ wsL_law) ∧ (y.cls ≠ "java/lang/invoke/MethodHandle" ∧ y.cls ≠ "java/lang/invoke/VarHandle" ∧ (parseMethodDescriptor y.desc).map (fun d => d.parameters.length) = some n)
theorem wsL_app {w : Cond} (h : w ∈ wsL_law) : GoodIn wsL_law (w :: wsL_law) := fun v hv => by
  rcases List.mem_cons.mp hv with rfl | hv
  · exact ⟨h, (wsL_good _ h).2⟩
  · exact ⟨hv, (wsL_good _ hv).2⟩
theorem W_of_run {p : Program} {l : Launch} {e : Env} {R : Room} {s : State} {m : MethodId} {args : Array Value} {below : List Frame} {meth : Method} {c : Code} {H : Heap} {locs : List Loc} {Q : State → Prop} {fr : JFrame} {rest : List Value} {E : ZE} {Post : Option Value → Mem → Prop} {av : Array Value}
    (hr : va_Run p l e R s m args below meth c H locs 0 0 0 0 fr rest (zQ E Post av) (zA E)) (hS : va_S (zA E) s.heap H locs)
    (kk : ∀ (r : Option Value) (M' : Mem) (H1 : Heap) (locs1 : List Loc), Post r M' → Wd E M' H1 → va_S (zA E) s.heap H1 locs1 → W p l e R s m args below meth c H1 locs1 0 0 Q { fr with pc := fr.pc + 3, stack := r.toList ++ rest }) : W p l e R s m args below meth c H locs 0 0 Q fr := by
  intro T hT X
  obtain ⟨v, st₀, t, T', L, h0, X', hL, e1, e2, ⟨⟨r, M', hv, hp, hw⟩, hz, hk⟩, stp⟩ := hr T hT X
  cases hv
  have hS' : va_S (zA E) s.heap T'.heap (locs ++ L) := by
    refine ⟨?_, fun q hq hn => ?_, fun q hq => ?_⟩
    · rw [e1]; rw [h0] at hz; exact Nat.le_trans hS.1 hz
    · rw [e1]
      rw [h0] at hk
      rw [hk q (Nat.lt_of_lt_of_le hq hS.1) hn]
      exact hS.2.1 q hq hn
    · rcases List.mem_append.mp hq with h | h
      · exact hS.2.2 q h
      · exact hL q h
  obtain ⟨t', a1, b1⟩ := kk v M' T'.heap (locs ++ L) hp (by rw [e1]; exact hw) hS' T' rfl X'
  exact ⟨t', stp t' a1, b1⟩
theorem z_callV (X : Cb g E own cc nL rm) {y : MethodName} {C : String} {bytes : ByteArray} {maxL n index ci b r : Nat} {ret : Option FieldType} {rmc : Room} {As rest : List Value} {Post : Option Value → Mem → Prop} {q : vw_C} {fs : List Value}
    (K : KV y C bytes maxL ret n) (hM : Mt E y bytes maxL ret rmc (.ref (za E b r) :: As) M Post) (hz : zkd b r ≠ 0) (he : zcell E M b r = .inr (ci, fs)) (hc : vwCl[ci]? = some q) (hq : q.1 = C) (hl : Cond.methodLink own index y ∈ wsL_law)
    (hR : (rmc.cells = 0 ∧ rmc.slots = 0) ∧ rmc.frames + 1 ≤ rm.frames ∧ 8 + (maxL + 11) + rmc.locals ≤ rm.locals) (hn : As.length = n) (hs : As.reverse ++ .ref (za E b r) :: rest = st) (hw : (rest.map fun v => v.category).sum ≤ 8) (hd : decode cc pc = .ok (.invokevirtual index, 3))
    (kk : ∀ (r : Option Value) (M' : Mem), Post r M' → Z g E M' lv (pc + 3) (r.toList ++ rest)) : Z g E M lv pc st := by
  intro H locs ls hW hS hl'
  obtain ⟨⟨k1, k2, k3, k4⟩, k5⟩ := K
  have ht := X.2.2.2.2.1
  have hrR : gR g = rm := X.2.2.2.2.2.2.1
  subst hs
  have hT : GoodIn wsL_law (wsV own index C y (.code y bytes maxL ret :: wsL_law)) := fun w hw => by
    rcases List.mem_append.mp hw with h | h
    · refine ⟨?_, (wsL_good w ?_).2⟩ <;>
      · rcases List.mem_cons.mp h with rfl | h
        · exact hl
        · rcases List.mem_cons.mp h with rfl | h
          · exact k1
          · rcases List.mem_cons.mp h with rfl | h
            · exact k2
            · rcases List.mem_cons.mp h with rfl | h
              · exact k3
              · exact absurd h List.not_mem_nil
    · exact wsL_app k4 w h
  have hcell : ∃ cellB : Cell, H[za E b r]? = some cellB ∧ cellB.vm.isStatics = false ∧ (gs g).vm.findClass C = some cellB.cls := by
    have hP : va_P (zD E) vwCl [(za E b r, .inr (ci, fs))] H := by
      intro j z hj
      match j, hj with
      | 0, hj => cases Option.some.inj hj; rw [← he]; exact hW.at hz
      | j + 1, hj => simp at hj
    rw [← hq]
    exact va_recv X.2.2.2.2.2.1 hP hc (q0 := 0) rfl
  refine W_of_run (va_runV ⟨X.1, X.2.1, X.2.2.1, X.2.2.2.1, ht⟩ hM (cwV n ht hT rfl hR.1.1 hR.1.2 k5 ⟨by rw [hrR]; exact hR.2.1, by rw [hrR]; exact hR.2.2⟩) ⟨zPre_blind E M _, hcell, fun U hU hWm => ⟨rfl, zPre_of hW hS X.2.2.2.2.2.1 X.2.2.2.2.2.2.2 hU hWm⟩⟩ rfl hn (by show ls.size = nL; rw [hl'.1]; exact X.2.2.1) rfl (lv_room hw) hd ⟨Nat.zero_le _, Nat.zero_le _⟩) hS (fun r M' H1 locs1 hp hW1 hS1 => kk r M' hp H1 locs1 ls hW1 hS1 hl')
theorem z_callS (X : Cb g E own cc nL rm) {y : MethodName} {bytes : ByteArray} {maxL n index : Nat} {ret : Option FieldType} {rmc : Room} {As rest : List Value} {Post : Option Value → Mem → Prop}
    (K : KS y bytes maxL ret n) (hM : Mt E y bytes maxL ret rmc As M Post) (hl : Cond.methodLink own index y ∈ wsL_law)
    (hR : (rmc.cells = 0 ∧ rmc.slots = 0) ∧ rmc.frames + 1 ≤ rm.frames ∧ 8 + (maxL + 11) + rmc.locals ≤ rm.locals) (hn : As.length = n) (hs : As.reverse ++ rest = st) (hw : (rest.map fun v => v.category).sum ≤ 8) (hd : decode cc pc = .ok (.invokestatic index, 3))
    (kk : ∀ (r : Option Value) (M' : Mem), Post r M' → Z g E M' lv (pc + 3) (r.toList ++ rest)) : Z g E M lv pc st := by
  intro H locs ls hW hS hl'
  obtain ⟨⟨k1, k3, k4⟩, k5⟩ := K
  have ht := X.2.2.2.2.1
  have hrR : gR g = rm := X.2.2.2.2.2.2.1
  subst hs
  have hG : GoodIn wsL_law (.code y bytes maxL ret :: wsL_law) := wsL_app k4
  refine W_of_run (va_runS ⟨X.1, X.2.1, X.2.2.1, X.2.2.2.1, ht⟩ hM ⟨callB_of n ht hG rfl hR.1.1 hR.1.2 (ht _ k3) (ht _ hl) k5 ⟨by rw [hrR]; exact hR.2.1, by rw [hrR]; exact hR.2.2⟩, ht _ k1⟩ ⟨zPre_blind E M _, fun U hU hWm => ⟨rfl, zPre_of hW hS X.2.2.2.2.2.1 X.2.2.2.2.2.2.2 hU hWm⟩⟩ rfl hn (by show ls.size = nL; rw [hl'.1]; exact X.2.2.1) rfl (lv_room hw) hd ⟨Nat.zero_le _, Nat.zero_le _⟩) hS (fun r M' H1 locs1 hp hW1 hS1 => kk r M' hp H1 locs1 ls hW1 hS1 hl')
theorem zk_i {M1 : Mem} {v : Int32} (k : Z g E M1 lv pc (.int v :: st)) : ∀ (r : Option Value) (M' : Mem), PI v M1 r M' → Z g E M' lv pc (r.toList ++ st) := fun r M' h => by obtain ⟨rfl, rfl⟩ := h; exact k
theorem zk_r {M1 : Mem} {a : Nat} (k : Z g E M1 lv pc (.ref a :: st)) : ∀ (r : Option Value) (M' : Mem), PR a M1 r M' → Z g E M' lv pc (r.toList ++ st) := fun r M' h => by obtain ⟨rfl, rfl⟩ := h; exact k
theorem zk_v {M1 : Mem} (k : Z g E M1 lv pc st) : ∀ (r : Option Value) (M' : Mem), PV M1 r M' → Z g E M' lv pc (r.toList ++ st) := fun r M' h => by obtain ⟨rfl, rfl⟩ := h; exact k
theorem zk_ri {P : Int32 → Mem → Prop} (k : ∀ (v : Int32) (M1 : Mem), P v M1 → Z g E M1 lv pc (.int v :: st)) : ∀ (r : Option Value) (M' : Mem), RI P r M' → Z g E M' lv pc (r.toList ++ st) := fun r M' h => by obtain ⟨v, rfl, h⟩ := h; exact k v M' h
theorem zk_rv {P : Mem → Prop} (k : ∀ (M1 : Mem), P M1 → Z g E M1 lv pc st) : ∀ (r : Option Value) (M' : Mem), RV P r M' → Z g E M' lv pc (r.toList ++ st) := fun r M' h => by obtain ⟨rfl, h⟩ := h; exact k M' h
/-! a method's ends -/
theorem z_iret (X : Cb g E own cc nL rm) {Post : Option Value → Mem → Prop} {v : Int32} (Y : Rt g E (some .int) Post) (hd : decode cc pc = .ok (.ireturn, 1)) (hp : Post (some (.int v)) M) : Z g E M lv pc [.int v] := by
  intro H locs ls hW hS hl
  show W _ _ _ _ _ _ _ _ _ _ _ _ _ _ (gQ g) _
  rw [Y.2.2]
  exact W.iret X.1 X.2.1 Y.1 (fun t ht _ => ⟨⟨_, M, rfl, hp, by rw [ht]; exact hW⟩, hS.F ht⟩) hS.2.2 hd Y.2.1
theorem z_zret (X : Cb g E own cc nL rm) {Post : Option Value → Mem → Prop} {v : Int32} {ty : FieldType} (Y : Rt g E (some ty) Post) (hn : narrow ty (.int v) = .int v) (hd : decode cc pc = .ok (.ireturn, 1)) (hp : Post (some (.int v)) M) : Z g E M lv pc [.int v] := by
  intro H locs ls hW hS hl
  show W _ _ _ _ _ _ _ _ _ _ _ _ _ _ (gQ g) _
  rw [Y.2.2]
  exact W.zret X.1 X.2.1 Y.1 hn (fun t ht _ => ⟨⟨_, M, rfl, hp, by rw [ht]; exact hW⟩, hS.F ht⟩) hS.2.2 hd Y.2.1
theorem z_vret (X : Cb g E own cc nL rm) {Post : Option Value → Mem → Prop} (Y : Rt g E none Post) (hd : decode cc pc = .ok (.return_, 1)) (hp : Post none M) : Z g E M lv pc [] := by
  intro H locs ls hW hS hl
  show W _ _ _ _ _ _ _ _ _ _ _ _ _ _ (gQ g) _
  rw [Y.2.2]
  exact W.vret X.1 X.2.1 Y.1 (fun t ht _ => ⟨⟨_, M, rfl, hp, by rw [ht]; exact hW⟩, hS.F ht⟩) hS.2.2 hd Y.2.1
theorem z_aret (X : Cb g E own cc nL rm) {Post : Option Value → Mem → Prop} {a : Nat} {n : String} (Y : Rt g E (some (.object n)) Post) (hd : decode cc pc = .ok (.areturn, 1)) (hp : Post (some (.ref a)) M) : Z g E M lv pc [.ref a] := by
  intro H locs ls hW hS hl
  show W _ _ _ _ _ _ _ _ _ _ _ _ _ _ (gQ g) _
  rw [Y.2.2]
  exact W.aret X.1 X.2.1 Y.1 (Or.inl ⟨n, rfl⟩) (Or.inr ⟨a, rfl⟩) (fun t ht _ => ⟨⟨_, M, rfl, hp, by rw [ht]; exact hW⟩, hS.F ht⟩) hS.2.2 hd Y.2.1
/-- a boolean as the machine has it -/
def zb (b : Bool) : Int32 := if b then 1 else 0
theorem zb_nar (b : Bool) : narrow .boolean (.int (zb b)) = .int (zb b) := by cases b <;> rfl
theorem zb_eq0 (b : Bool) : zb b = 0 ↔ b = false := by cases b <;> decide
theorem zb_ne0 (b : Bool) : zb b ≠ 0 ↔ b = true := by cases b <;> decide
theorem zb_inj (a b : Bool) : zb a = zb b ↔ a = b := by cases a <;> cases b <;> decide
theorem z_bret (X : Cb g E own cc nL rm) {v : Int32} {b : Bool} {M1 : Mem} (Y : Rt g E (some .boolean) (PI (zb b) M1)) (hd : decode cc pc = .ok (.ireturn, 1)) (hv : v = zb b) (hM : M = M1) : Z g E M lv pc [.int v] := by
  subst hv
  exact z_zret X Y (zb_nar b) hd ⟨rfl, hM⟩
theorem z_pret (X : Cb g E own cc nL rm) {v v1 : Int32} {M1 : Mem} (Y : Rt g E (some .int) (PI v1 M1)) (hd : decode cc pc = .ok (.ireturn, 1)) (hv : v = v1) (hM : M = M1) : Z g E M lv pc [.int v] := by
  subst hv
  exact z_iret X Y hd ⟨rfl, hM⟩
/-- ifeq over a boolean -/
theorem z_bif_eq (X : Cb g E own cc nL rm) {b : Bool} {off : Int} {tgt : Nat} (hd : decode cc pc = .ok (.ifCond .eq off, 3)) (ht : (pc : Int) + off = (tgt : Int)) (kt : b = false → Z g E M lv tgt st) (kf : b = true → Z g E M lv (pc + 3) st) : Z g E M lv pc (.int (zb b) :: st) :=
  z_if_eq X hd ht (fun h => kt ((zb_eq0 b).mp h)) (fun h => kf ((zb_ne0 b).mp h))
theorem z_bif_ne (X : Cb g E own cc nL rm) {b : Bool} {off : Int} {tgt : Nat} (hd : decode cc pc = .ok (.ifCond .ne off, 3)) (ht : (pc : Int) + off = (tgt : Int)) (kt : b = true → Z g E M lv tgt st) (kf : b = false → Z g E M lv (pc + 3) st) : Z g E M lv pc (.int (zb b) :: st) :=
  z_if_ne X hd ht (fun h => kt ((zb_ne0 b).mp h)) (fun h => kf ((zb_eq0 b).mp h))
end ZC
