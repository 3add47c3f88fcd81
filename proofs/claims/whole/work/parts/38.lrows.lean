/-! ===== the law's own walk: as the others', with the room that the constructors have taken ===== -/
def ZL (g : ZG) (E : ZE) (kc kn : Nat) (M : Mem) (lv : List (Nat × Value)) (pc : Nat) (st : List Value) : Prop :=
  ∀ (H : Heap) (locs : List Loc) (ls : Array Slot), Wd E M H → va_S (zA E) (gs g).heap H locs → lv_has ls (gc g).maxLocals lv → W (gp g) (zl E) (ge g) (gR g) (gs g) (gm g) (ga g) (gb g) (gM g) (gc g) H locs kc kn (gQ g) (F0 (gm g) pc ls st)
section ZLR
variable {g : ZG} {E : ZE} {own : String} {cc : ByteArray} {nL : Nat} {rm : Room} {kc kn : Nat} {M : Mem} {lv : List (Nat × Value)} {pc : Nat} {st : List Value}
theorem l_sub {lv' : List (Nat × Value)} (ks : List Nat) (h : lv_pick lv ks = lv') (k : ZL g E kc kn M lv' pc st) : ZL g E kc kn M lv pc st := fun H locs ls hW hS hl => k H locs ls hW hS (lv_sub hl ks h)
theorem l_eq {lv' : List (Nat × Value)} {st' : List Value} (h1 : lv = lv') (h2 : st = st') (k : ZL g E kc kn M lv' pc st') : ZL g E kc kn M lv pc st := h1 ▸ h2 ▸ k
theorem l_iconst (X : Cb g E own cc nL rm) {n : Int} {v : Int32} (hd : decode cc pc = .ok (.iconst n, 1)) (hv : Int32.ofInt n = v) (k : ZL g E kc kn M lv (pc + 1) (.int v :: st)) : ZL g E kc kn M lv pc st := fun H locs ls hW hS hl => lv_iconst X.1 X.2.1 hd hv (k H locs ls hW hS hl)
theorem l_bipush (X : Cb g E own cc nL rm) {n : Int} {v : Int32} (hd : decode cc pc = .ok (.bipush n, 2)) (hv : (Int8.ofInt n).toInt32 = v) (k : ZL g E kc kn M lv (pc + 2) (.int v :: st)) : ZL g E kc kn M lv pc st := fun H locs ls hW hS hl => lv_bipush X.1 X.2.1 hd hv (k H locs ls hW hS hl)
theorem l_iload_n (X : Cb g E own cc nL rm) {j : Fin 4} {i : Nat} {x : Int32} (q : Nat) (hd : decode cc pc = .ok (.iload_n j, 1)) (hi : (j : Nat) = i) (hq : lv[q]? = some (i, .int x)) (k : ZL g E kc kn M lv (pc + 1) (.int x :: st)) : ZL g E kc kn M lv pc st := fun H locs ls hW hS hl => lv_iload_n X.1 X.2.1 hd hi (lv_at hl q hq) (k H locs ls hW hS hl)
theorem l_aload_n (X : Cb g E own cc nL rm) {j : Fin 4} {i : Nat} {x : Nat} (q : Nat) (hd : decode cc pc = .ok (.aload_n j, 1)) (hi : (j : Nat) = i) (hq : lv[q]? = some (i, .ref x)) (k : ZL g E kc kn M lv (pc + 1) (.ref x :: st)) : ZL g E kc kn M lv pc st := fun H locs ls hW hS hl => lv_aload_n X.1 X.2.1 hd hi (lv_at hl q hq) (k H locs ls hW hS hl)
theorem l_istore_n (X : Cb g E own cc nL rm) {j : Fin 4} {i : Nat} {x : Int32} {lv1 : List (Nat × Value)} (hd : decode cc pc = .ok (.istore_n j, 1)) (hi : (j : Nat) = i) (hn : i < nL) (hq : (i, Value.int x) :: lv.filter (fun q => !(q.1 == i) && !(q.1 + 1 == i && q.2.category == 2)) = lv1) (k : ZL g E kc kn M lv1 (pc + 1) st) : ZL g E kc kn M lv pc (.int x :: st) := fun H locs ls hW hS hl => lv_istore_n X.1 X.2.1 hd hi hl (by rw [X.2.2.1]; exact hn) hq (fun ls' hl' => k H locs ls' hW hS hl')
theorem l_iinc (X : Cb g E own cc nL rm) {i : Nat} {n : Int} {x v : Int32} {lv1 : List (Nat × Value)} (q : Nat) (hd : decode cc pc = .ok (.iinc i n, 3)) (hq : lv[q]? = some (i, .int x)) (hv : x + Int32.ofInt n = v) (hn : i < nL) (hr : (i, Value.int v) :: lv.filter (fun q => !(q.1 == i) && !(q.1 + 1 == i && q.2.category == 2)) = lv1) (k : ZL g E kc kn M lv1 (pc + 3) st) : ZL g E kc kn M lv pc st := fun H locs ls hW hS hl => lv_iinc X.1 X.2.1 hd hl (k := q) hq hv (by rw [X.2.2.1]; exact hn) hr (fun ls' hl' => k H locs ls' hW hS hl')
theorem l_iadd (X : Cb g E own cc nL rm) {x y : Int32} (hd : decode cc pc = .ok (.iadd, 1)) (k : ZL g E kc kn M lv (pc + 1) (.int (x + y) :: st)) : ZL g E kc kn M lv pc (.int y :: .int x :: st) := fun H locs ls hW hS hl => lv_iadd X.1 X.2.1 hd (k H locs ls hW hS hl)
theorem l_isub (X : Cb g E own cc nL rm) {x y : Int32} (hd : decode cc pc = .ok (.isub, 1)) (k : ZL g E kc kn M lv (pc + 1) (.int (x - y) :: st)) : ZL g E kc kn M lv pc (.int y :: .int x :: st) := fun H locs ls hW hS hl => lv_isub X.1 X.2.1 hd (k H locs ls hW hS hl)
theorem l_iand (X : Cb g E own cc nL rm) {x y : Int32} (hd : decode cc pc = .ok (.iand, 1)) (k : ZL g E kc kn M lv (pc + 1) (.int (x &&& y) :: st)) : ZL g E kc kn M lv pc (.int y :: .int x :: st) := fun H locs ls hW hS hl => lv_iand X.1 X.2.1 hd (k H locs ls hW hS hl)
theorem l_if_eq (X : Cb g E own cc nL rm) {x : Int32} {off : Int} {tgt : Nat} (hd : decode cc pc = .ok (.ifCond .eq off, 3)) (ht : (pc : Int) + off = (tgt : Int)) (kt : x = 0 → ZL g E kc kn M lv tgt st) (kf : ¬ (x = 0) → ZL g E kc kn M lv (pc + 3) st) : ZL g E kc kn M lv pc (.int x :: st) := fun H locs ls hW hS hl => lv_if_eq X.1 X.2.1 hd ht (fun h => kt h H locs ls hW hS hl) (fun h => kf h H locs ls hW hS hl)
theorem l_if_ne (X : Cb g E own cc nL rm) {x : Int32} {off : Int} {tgt : Nat} (hd : decode cc pc = .ok (.ifCond .ne off, 3)) (ht : (pc : Int) + off = (tgt : Int)) (kt : x ≠ 0 → ZL g E kc kn M lv tgt st) (kf : x = 0 → ZL g E kc kn M lv (pc + 3) st) : ZL g E kc kn M lv pc (.int x :: st) := fun H locs ls hW hS hl => lv_if_ne X.1 X.2.1 hd ht (fun h => kt h H locs ls hW hS hl) (fun h => kf h H locs ls hW hS hl)
theorem l_icmp_eq (X : Cb g E own cc nL rm) {x y : Int32} {off : Int} {tgt : Nat} (hd : decode cc pc = .ok (.if_icmp .eq off, 3)) (ht : (pc : Int) + off = (tgt : Int)) (kt : x = y → ZL g E kc kn M lv tgt st) (kf : ¬ (x = y) → ZL g E kc kn M lv (pc + 3) st) : ZL g E kc kn M lv pc (.int y :: .int x :: st) := fun H locs ls hW hS hl => lv_icmp_eq X.1 X.2.1 hd ht (fun h => kt h H locs ls hW hS hl) (fun h => kf h H locs ls hW hS hl)
theorem l_icmp_gt (X : Cb g E own cc nL rm) {x y : Int32} {off : Int} {tgt : Nat} (hd : decode cc pc = .ok (.if_icmp .gt off, 3)) (ht : (pc : Int) + off = (tgt : Int)) (kt : y < x → ZL g E kc kn M lv tgt st) (kf : ¬ (y < x) → ZL g E kc kn M lv (pc + 3) st) : ZL g E kc kn M lv pc (.int y :: .int x :: st) := fun H locs ls hW hS hl => lv_icmp_gt X.1 X.2.1 hd ht (fun h => kt h H locs ls hW hS hl) (fun h => kf h H locs ls hW hS hl)
theorem l_goto (X : Cb g E own cc nL rm) {off : Int} {tgt : Nat} (hd : decode cc pc = .ok (.goto off, 3)) (ht : (pc : Int) + off = (tgt : Int)) (k : ZL g E kc kn M lv tgt st) : ZL g E kc kn M lv pc st := fun H locs ls hW hS hl => lv_goto X.1 X.2.1 hd ht (k H locs ls hW hS hl)
theorem l_tableIn (X : Cb g E own cc nL rm) {dflt lo hi : Int} {offs : Array Int} {len : Nat} {x : Int32} {off : Int} {tgt : Nat} (hd : decode cc pc = .ok (.tableswitch dflt lo hi offs, len)) (h1 : ¬ x.toInt < lo) (h2 : ¬ hi < x.toInt) (ho : offs[(x.toInt - lo).toNat]? = some off) (ht : (pc : Int) + off = (tgt : Int)) (k : ZL g E kc kn M lv tgt st) : ZL g E kc kn M lv pc (.int x :: st) := fun H locs ls hW hS hl => lv_tableIn X.1 X.2.1 hd h1 h2 ho ht (k H locs ls hW hS hl)
theorem l_tableOut (X : Cb g E own cc nL rm) {dflt lo hi : Int} {offs : Array Int} {len : Nat} {x : Int32} {tgt : Nat} (hd : decode cc pc = .ok (.tableswitch dflt lo hi offs, len)) (h : x.toInt < lo ∨ hi < x.toInt) (ht : (pc : Int) + dflt = (tgt : Int)) (k : ZL g E kc kn M lv tgt st) : ZL g E kc kn M lv pc (.int x :: st) := fun H locs ls hW hS hl => lv_tableOut X.1 X.2.1 hd h ht (k H locs ls hW hS hl)
theorem Wl_of_run {p : Program} {l : Launch} {e : Env} {R : Room} {s : State} {m : MethodId} {args : Array Value} {below : List Frame} {meth : Method} {c : Code} {H : Heap} {locs : List Loc} {Q : State → Prop} {fr : JFrame} {rest : List Value} {E : ZE} {Post : Option Value → Mem → Prop} {av : Array Value} {kc kn : Nat}
    (hr : va_Run p l e R s m args below meth c H locs kc kn 0 0 fr rest (zQ E Post av) (zA E)) (hS : va_S (zA E) s.heap H locs)
    (kk : ∀ (r : Option Value) (M' : Mem) (H1 : Heap) (locs1 : List Loc), Post r M' → Wd E M' H1 → va_S (zA E) s.heap H1 locs1 → W p l e R s m args below meth c H1 locs1 kc kn Q { fr with pc := fr.pc + 3, stack := r.toList ++ rest }) : W p l e R s m args below meth c H locs kc kn Q fr := by
  intro T hT X
  obtain ⟨v, st₀, t, T', L, h0, X', hL, e1, e2, ⟨⟨r, M', hv, hp, hw⟩, hz, hk⟩, stp⟩ := hr T hT X
  cases hv
  have hS' : va_S (zA E) s.heap T'.heap (locs ++ L) := by
    refine ⟨?_, fun q hq hn => ?_, fun q hq => ?_⟩
    · rw [e1]; rw [h0] at hz; exact Nat.le_trans hS.1 hz
    · rw [e1]
      rw [h0] at hk
      rw [hk q (Nat.lt_of_lt_of_le hq hS.1) hn]
      exact hS.2.1 q hq hn
    · rcases List.mem_append.mp hq with h | h
      · exact hS.2.2 q h
      · exact hL q h
  obtain ⟨t', a1, b1⟩ := kk v M' T'.heap (locs ++ L) hp (by rw [e1]; exact hw) hS' T' rfl X'
  exact ⟨t', stp t' a1, b1⟩
theorem l_callV (X : Cb g E own cc nL rm) (hkc : kc ≤ rm.cells ∧ kn ≤ rm.slots) {y : MethodName} {C : String} {bytes : ByteArray} {maxL n index ci b r : Nat} {ret : Option FieldType} {rmc : Room} {As rest : List Value} {Post : Option Value → Mem → Prop} {q : vw_C} {fs : List Value}
    (K : KV y C bytes maxL ret n) (hM : Mt E y bytes maxL ret rmc (.ref (za E b r) :: As) M Post) (hz : zkd b r ≠ 0) (he : zcell E M b r = .inr (ci, fs)) (hc : vwCl[ci]? = some q) (hq : q.1 = C) (hl : Cond.methodLink own index y ∈ wsL_law)
    (hR : (rmc.cells = 0 ∧ rmc.slots = 0) ∧ rmc.frames + 1 ≤ rm.frames ∧ 8 + (maxL + 11) + rmc.locals ≤ rm.locals) (hn : As.length = n) (hs : As.reverse ++ .ref (za E b r) :: rest = st) (hw : (rest.map fun v => v.category).sum ≤ 8) (hd : decode cc pc = .ok (.invokevirtual index, 3))
    (kk : ∀ (r : Option Value) (M' : Mem), Post r M' → ZL g E kc kn M' lv (pc + 3) (r.toList ++ rest)) : ZL g E kc kn M lv pc st := by
  intro H locs ls hW hS hl'
  obtain ⟨⟨k1, k2, k3, k4⟩, k5⟩ := K
  have ht := X.2.2.2.2.1
  have hrR : gR g = rm := X.2.2.2.2.2.2.1
  subst hs
  have hT : GoodIn wsL_law (wsV own index C y (.code y bytes maxL ret :: wsL_law)) := fun w hw => by
    rcases List.mem_append.mp hw with h | h
    · refine ⟨?_, (wsL_good w ?_).2⟩ <;>
      · rcases List.mem_cons.mp h with rfl | h
        · exact hl
        · rcases List.mem_cons.mp h with rfl | h
          · exact k1
          · rcases List.mem_cons.mp h with rfl | h
            · exact k2
            · rcases List.mem_cons.mp h with rfl | h
              · exact k3
              · exact absurd h List.not_mem_nil
    · exact wsL_app k4 w h
  have hcell : ∃ cellB : Cell, H[za E b r]? = some cellB ∧ cellB.vm.isStatics = false ∧ (gs g).vm.findClass C = some cellB.cls := by
    have hP : va_P (zD E) vwCl [(za E b r, .inr (ci, fs))] H := by
      intro j z hj
      match j, hj with
      | 0, hj => cases Option.some.inj hj; rw [← he]; exact hW.at hz
      | j + 1, hj => simp at hj
    rw [← hq]
    exact va_recv X.2.2.2.2.2.1 hP hc (q0 := 0) rfl
  refine Wl_of_run (va_runV ⟨X.1, X.2.1, X.2.2.1, X.2.2.2.1, ht⟩ hM (cwV n ht hT rfl hR.1.1 hR.1.2 k5 ⟨by rw [hrR]; exact hR.2.1, by rw [hrR]; exact hR.2.2⟩) ⟨zPre_blind E M _, hcell, fun U hU hWm => ⟨rfl, zPre_of hW hS X.2.2.2.2.2.1 X.2.2.2.2.2.2.2 hU hWm⟩⟩ rfl hn (by show ls.size = nL; rw [hl'.1]; exact X.2.2.1) rfl (lv_room hw) hd ⟨by rw [hrR]; exact hkc.1, by rw [hrR]; exact hkc.2⟩) hS (fun r M' H1 locs1 hp hW1 hS1 => kk r M' hp H1 locs1 ls hW1 hS1 hl')
theorem l_sld (X : Cb g E own cc nL rm) {b L : Nat} {xs : Nat → Int32} (V : va_X b L xs (gs g) (gs g).heap ∧ b < (gs g).heap.size ∧ ¬ zA E b) {i : Int32} {j : Nat} (hi : i = nI j) (hj : j < L) (hL : L ≤ 2048) (hd : decode cc pc = .ok (.iaload, 1)) (k : ZL g E kc kn M lv (pc + 1) (.int (xs j) :: st)) : ZL g E kc kn M lv pc (.int i :: .ref b :: st) := fun H locs ls hW hS hl => by
  subst hi
  refine va_sld X.1 X.2.1 V.1 V.2.1 V.2.2 hS (vp_in_nI hj (by omega)) hd ?_
  rw [nI_clamp (by omega)]
  exact k H locs ls hW hS hl
theorem l_slen (X : Cb g E own cc nL rm) {b L : Nat} {xs : Nat → Int32} (V : va_X b L xs (gs g) (gs g).heap ∧ b < (gs g).heap.size ∧ ¬ zA E b) (hd : decode cc pc = .ok (.arraylength, 1)) (k : ZL g E kc kn M lv (pc + 1) (.int (Int32.ofNat L) :: st)) : ZL g E kc kn M lv pc (.ref b :: st) := fun H locs ls hW hS hl =>
  va_slen X.1 X.2.1 V.1 V.2.1 V.2.2 hS hd (k H locs ls hW hS hl)
theorem l_dstore (X : Cb g E own cc nL rm) {i : Nat} {x : UInt64} {lv1 : List (Nat × Value)} (hd : decode cc pc = .ok (.dstore i, 2)) (hn : i + 1 < nL) (hq : (i, Value.double x) :: lv.filter (fun q => !(q.1 == i) && (!(q.1 == i + 1) && !(q.1 + 1 == i && q.2.category == 2))) = lv1) (k : ZL g E kc kn M lv1 (pc + 2) st) : ZL g E kc kn M lv pc (.double x :: st) := fun H locs ls hW hS hl => lv_dstore X.1 X.2.1 hd hl (by rw [X.2.2.1]; exact hn) hq (fun ls' hl' => k H locs ls' hW hS hl')
theorem l_dload (X : Cb g E own cc nL rm) {i : Nat} {x : UInt64} (q : Nat) (hd : decode cc pc = .ok (.dload i, 2)) (hq : lv[q]? = some (i, .double x)) (k : ZL g E kc kn M lv (pc + 2) (.double x :: st)) : ZL g E kc kn M lv pc st := fun H locs ls hW hS hl => lv_dload X.1 X.2.1 hd (lv_at hl q hq) (k H locs ls hW hS hl)
theorem l_dcmp (X : Cb g E own cc nL rm) {x y : UInt64} {op : CmpOp} (hd : decode cc pc = .ok (.dcmp op, 1)) (k : ZL g E kc kn M lv (pc + 1) (.int (Op.cmpValue (FP.dcmp x y) op) :: st)) : ZL g E kc kn M lv pc (.double y :: .double x :: st) := fun H locs ls hW hS hl => lv_dcmp X.1 X.2.1 hd (k H locs ls hW hS hl)
theorem l_f2d (X : Cb g E own cc nL rm) {x : UInt32} (hd : decode cc pc = .ok (.f2d, 1)) (hn : vf_n64 (FP.f2d x)) (k : ZL g E kc kn M lv (pc + 1) (.double (FP.f2d x) :: st)) : ZL g E kc kn M lv pc (.float x :: st) := fun H locs ls hW hS hl => lv_f2d X.1 X.2.1 hd hn (k H locs ls hW hS hl)
end ZLR
