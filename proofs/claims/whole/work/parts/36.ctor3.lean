/-- what a new array of arrays leaves -/
def maE (E : ZE) (a j : Nat) : va_E := if j = 0 then .inl (zcN E, 8, .inr (.inr (.inr (.inr (fun k => if k < 8 then some (a + 1 + k) else none))))) else .inl (zcI E, 149, .inl (fun _ => 0))
def maL (E : ZE) (a : Nat) : va_W := (List.range 9).map fun j => (a + j, maE E a j)
theorem maL_at {E : ZE} {a j : Nat} {q : Nat × va_E} (h : (maL E a)[j]? = some q) : j < 9 ∧ q = (a + j, maE E a j) := by
  unfold maL at h
  rw [List.getElem?_map] at h
  by_cases hj : j < 9
  · rw [List.getElem?_range hj] at h
    exact ⟨hj, (Option.some.inj h).symm⟩
  · rw [List.getElem?_eq_none (by simp; omega)] at h
    cases h
def md0 (b : Nat → Nat) : va_E := .inr (11, [.ref (b 0), .ref (b 1), .ref (b 2), .ref (b 3), .ref (b 4), .ref (b 5), .ref (b 6), .ref (b 7), .int 0, .int 0, .int 0, .int 0, .ref (b 8), .int 0, .ref (b 9), .int 0, .int 0, .int 0, .int 0, .int 0, .int 0, .int 0])
def mdL (E : ZE) (b : Nat → Nat) : va_W :=
  (b 0, .inl (zcI E, 149, .inl (upd (fun _ => 0) 0 10))) :: ([] ++ [(b 1, .inl (zcI E, 149, .inl (fun _ => 0)))] ++ [(b 2, .inl (zcI E, 149, .inl (fun _ => 0)))] ++ [(b 3, .inl (zcI E, 149, .inl (fun _ => 0)))] ++ maL E (b 4) ++ [(b 5, .inl (zcI E, 3, .inl (fun _ => 0)))] ++ [(b 6, .inl (zcI E, 3, .inl (fun _ => 0)))] ++ [(b 7, .inl (zcI E, 10, .inl (fun _ => 0)))] ++ [(b 8, .inl (zcC E, 120, .inl (fun _ => 0)))] ++ [(b 9, .inl (zcC E, 60, .inl (fun _ => 0)))])
def CtM (E : ZE) (y : MethodName) (cc : ByteArray) (nL : Nat) (rm : Room) (As : List Value) (c0 : va_E) (R : Nat → va_E → va_W → Prop) (mc ms : Nat) : Prop :=
  ∀ (ws : va_W) (q : Nat), Met (zl E) y (.code y cc nL none :: wsL_law) rm (va_Pc (.ref q :: As) (fun U => cPre E (ws ++ [(q, c0)]) U ∧ AOI U)) (cQ E ws q R) mc ms (zA E)
theorem y_metM {E : ZE} {y : MethodName} {cc : ByteArray} {nL : Nat} {rm : Room} {As : List Value} {c0 : va_E} {R : Nat → va_E → va_W → Prop} {mc ms : Nat} {own : String} {lv : Nat → List (Nat × Value)}
    (hy : plainName y.cls = true ∧ y.name = "<init>") (hown : y.cls = own) (hn : (lg_sl (.ref 0 :: As)).length ≤ nL) (hlv : ∀ h0 : Nat, lv_args 0 (.ref h0 :: As) = lv h0)
    (body : ∀ (ws : va_W) (h0 : Nat) (g : ZG), Cy g E own cc nL rm → AOI (gs g) → Ry g E ws h0 R mc ms → ZY g E (ws ++ (h0, c0) :: []) 0 0 (lv h0) 0 []) : CtM E y cc nL rm As c0 R mc ms := by
  intro ws h0
  refine Met.ofW (cc := cc) (maxL := nL) (ret := none) hy.1 rfl ?_
  intro p e s m args' below meth c s₁ B hml hv
  obtain ⟨rfl, ⟨hP, hD, hK, hA, hN⟩, hAO⟩ := hv
  have hts := atoms_spec (ws := Cond.code y cc nL none :: wsL_law) B.pre
  have hown' : s.vm.findClass own = some m.cls := by rw [← hown]; exact findClass_of_methodNamed B.named
  have hin : meth.name = "<init>" := (name_of_methodNamed B.named B.method).1.trans hy.2
  have hn' : (lg_sl (.ref h0 :: As)).length ≤ nL := hn
  have hl := lv_entry (.ref h0 :: As) (n := nL) hn'
  rw [lg_entry_eq]
  generalize (lg_sl (.ref h0 :: As) ++ List.replicate (nL - (lg_sl (.ref h0 :: As)).length) Slot.unset).toArray = ls at hl ⊢
  rw [hlv h0] at hl
  exact body ws h0 (p, e, (headSpec (Cond.code y cc nL none :: wsL_law) rm).room, s, m, (Value.ref h0 :: As).toArray, below, meth, c, MQ below (cQ E ws h0 R) (Value.ref h0 :: As).toArray s mc ms (zA E)) ⟨B.exec, B.bytes, hml, hown', fun w hw => hts w (List.mem_cons_of_mem _ hw), hK, rfl, hA, hN, hin⟩ hAO ⟨B.returns, B.notSynchronized, rfl⟩ s.heap [] ls hP hD va_S.rf (by rw [show (gc (p, e, (headSpec (Cond.code y cc nL none :: wsL_law) rm).room, s, m, (Value.ref h0 :: As).toArray, below, meth, c, MQ below (cQ E ws h0 R) (Value.ref h0 :: As).toArray s mc ms (zA E))).maxLocals = nL from hml]; exact hl)

section ZYR3
variable {g : ZG} {E : ZE} {own : String} {cc : ByteArray} {nL : Nat} {rm : Room} {ws : va_W} {k n : Nat} {lv : List (Nat × Value)} {pc : Nat} {st : List Value}
theorem y_rest {c : Nat × va_E} {rest rest' : va_W} (h : rest = rest') (kk : ZY g E (ws ++ c :: rest') k n lv pc st) : ZY g E (ws ++ c :: rest) k n lv pc st := h ▸ kk
theorem y_iast (X : Cy g E own cc nL rm) {a j nn : Nat} {c : Nat × va_E} {f : Nat → Int32} {rest : va_W} {i x : Int32} (hi : i = nI j) (hj : j < nn) (hn : nn ≤ 200) (hd : decode cc pc = .ok (.iastore, 1))
    (kk : ZY g E (ws ++ c :: (a, .inl (zcI E, nn, .inl (upd f j x))) :: rest) k n lv (pc + 1) st) : ZY g E (ws ++ c :: (a, .inl (zcI E, nn, .inl f)) :: rest) k n lv pc (.int x :: .int i :: .ref a :: st) := fun H locs ls hP hD hS hl => by
  subst hi
  refine va_iast X.1 X.2.1 X.2.2.2.2.2.1 hP hD hS (ws.length + 1) 0 mid_get1 rfl (vp_in_nI hj (by omega)) hd (fun H1 locs1 hP1 hD1 hS1 => ?_)
  rw [mid_set1, nI_clamp (by omega)] at hP1 hD1
  exact kk H1 locs1 ls hP1 hD1 hS1 hl
theorem y_multi (X : Cy g E own cc nL rm) (XA : AOI (gs g)) {index : Nat} (hlk : Cond.classLink own index "[[I" ∈ wsL_law) (hk : k + 9 ≤ rm.cells) (hs : n + 1200 ≤ rm.slots) (hd : decode cc pc = .ok (.multianewarray index 2, 4))
    (kk : ∀ a, ZY g E (ws ++ maL E a) (k + 9) (n + 1200) lv (pc + 4) (.ref a :: st)) : ZY g E ws k n lv pc (.int 149 :: .int 8 :: st) := fun H locs ls hP hD hS hl => by
  have hK := X.2.2.2.2.2.1
  obtain ⟨cI, cO, kO, f1, f2, f3, f4⟩ := XA
  have e1 : zcI E = cI := Option.some.inj (Eq.trans (Eq.symm (hK.2 0 _ rfl).2) f1)
  have e2 : zcN E = cO := Option.some.inj (Eq.trans (Eq.symm (hK.2 3 _ rfl).2) f4)
  subst e1 e2
  obtain ⟨-, kI, g1, cX, g2⟩ := (hK.2 0 _ rfl).1 149 (fun _ => .int 0)
  have hA : zA E H.size := X.2.2.2.2.2.2.2.1 _ hS.1
  have hA2 : ∀ j, zA E (H.size + j) := fun j => X.2.2.2.2.2.2.2.1 _ (Nat.le_trans hS.1 (Nat.le_add_right _ _))
  refine ma_W X.1 X.2.1 X.2.2.2.1 (X.2.2.2.2.1 _ hlk) f4 f2 f3 g1 g2 rfl hd rfl (by rw [X.2.2.2.2.2.2.1]; exact hk) (by rw [X.2.2.2.2.2.2.1]; exact hs) (fun H1 L hL z1 eo ei old => ?_)
  refine kk H.size H1 L ls ((hP.kept (fun k q hq => old q.1 ((hP k q hq).lt))).app (fun k q hq => ?_)) (hD.app ⟨fun i j p q hp hq he => ?_, fun k q hq => ?_⟩ (fun i j p q hp hq => ?_)) ⟨Nat.le_trans hS.1 (by omega), fun x h1 h2 => (old x (Nat.lt_of_lt_of_le h1 hS.1)).trans (hS.2.1 x h1 h2), fun x hx => ?_⟩ hl
  · obtain ⟨hk9, rfl⟩ := maL_at hq
    unfold maE
    by_cases h0 : k = 0
    · subst h0
      rw [if_pos rfl]
      show H1[H.size]? = some (vp_cell _ _)
      rw [eo, vp_cell_q]
      refine congrArg some (congrArg (arrV (zcN E) 8) (funext fun j => ?_))
      by_cases hj : j < 8
      · rw [if_pos hj, if_pos hj]; rfl
      · rw [if_neg hj, if_neg hj]; rfl
    · rw [if_neg h0]
      show H1[H.size + k]? = some (vp_cell _ _)
      rw [show H.size + k = H.size + 1 + (k - 1) by omega, ei (k - 1) (by omega), vp_cell_i]
  · obtain ⟨-, rfl⟩ := maL_at hp
    obtain ⟨-, rfl⟩ := maL_at hq
    have he' : H.size + i = H.size + j := he
    omega
  · obtain ⟨-, rfl⟩ := maL_at hq
    exact hA2 k
  · obtain ⟨-, rfl⟩ := maL_at hq
    have := (hP i p hp).lt
    show p.1 ≠ H.size + j
    omega
  · rcases hL x hx with h | h
    · exact hS.2.2 x h
    · rw [h]; exact hA
end ZYR3
def kr_X11_init : Room := { frames := 1, cells := 18, slots := 1992, locals := 12 }
set_option maxRecDepth 100000 in
set_option maxHeartbeats 4000000 in
theorem k_X11_init (E : ZE) : CtM E yX11_init cX11_init 1 kr_X11_init [] (.inr (11, [.null, .null, .null, .null, .null, .null, .null, .null, .int 0, .int 0, .int 0, .int 0, .null, .int 0, .null, .int 0, .int 0, .int 0, .int 0, .int 0, .int 0, .int 0])) (fun _ c1 new => ∃ b : Nat → Nat, c1 = md0 b ∧ new = mdL E b) 18 1992 := by
  refine y_metM (own := RX11) (lv := fun h0 => [(0, .ref h0)]) (by decide) rfl (Nat.le_of_ble_eq_true rfl) (fun _ => rfl) (fun ws h0 gg X XA Y => ?_)
  refine y_aload X 0 dX11_init_0 rfl rfl ?_
  refine y_obj X gw_137 dX11_init_1 (Nat.le_of_ble_eq_true rfl) (Nat.le_of_ble_eq_true rfl) ?_
  refine y_aload X 0 dX11_init_4 rfl rfl ?_
  refine y_sipush X (v := 149) dX11_init_5 (by decide) ?_
  refine y_newI X (n' := 149) gw_74 (by decide) (Nat.le_of_ble_eq_true rfl) (Nat.le_of_ble_eq_true rfl) dX11_init_8 (fun r1 => ?_)
  refine y_nrm (rest' := [] ++ [(r1, .inl (zcI E, 149, .inl (fun _ => 0)))]) rfl ?_
  refine y_putF X (ci := 11) (v := .ref r1) (ty := .array .int) (fs := [.null, .null, .null, .null, .null, .null, .null, .null, .int 0, .int 0, .int 0, .int 0, .null, .int 0, .null, .int 0, .int 0, .int 0, .int 0, .int 0, .int 0, .int 0]) (rest := [] ++ [(r1, .inl (zcI E, 149, .inl (fun _ => 0)))]) inlX11 tyX11 tyX11_ok nmX11 rfl 0 (by decide) gw_138 rfl rfl rfl (by decide +kernel) rfl rfl (Nat.le_of_ble_eq_true rfl) dX11_init_10 ?_
  refine y_fs (fs' := [.ref r1, .null, .null, .null, .null, .null, .null, .null, .int 0, .int 0, .int 0, .int 0, .null, .int 0, .null, .int 0, .int 0, .int 0, .int 0, .int 0, .int 0, .int 0]) rfl ?_
  refine y_aload X 0 dX11_init_13 rfl rfl ?_
  refine y_sipush X (v := 149) dX11_init_14 (by decide) ?_
  refine y_newI X (n' := 149) gw_74 (by decide) (Nat.le_of_ble_eq_true rfl) (Nat.le_of_ble_eq_true rfl) dX11_init_17 (fun r2 => ?_)
  refine y_nrm (rest' := [] ++ [(r1, .inl (zcI E, 149, .inl (fun _ => 0)))] ++ [(r2, .inl (zcI E, 149, .inl (fun _ => 0)))]) rfl ?_
  refine y_putF X (ci := 11) (v := .ref r2) (ty := .array .int) (fs := [.ref r1, .null, .null, .null, .null, .null, .null, .null, .int 0, .int 0, .int 0, .int 0, .null, .int 0, .null, .int 0, .int 0, .int 0, .int 0, .int 0, .int 0, .int 0]) (rest := [] ++ [(r1, .inl (zcI E, 149, .inl (fun _ => 0)))] ++ [(r2, .inl (zcI E, 149, .inl (fun _ => 0)))]) inlX11 tyX11 tyX11_ok nmX11 rfl 1 (by decide) gw_139 rfl rfl rfl (by decide +kernel) rfl rfl (Nat.le_of_ble_eq_true rfl) dX11_init_19 ?_
  refine y_fs (fs' := [.ref r1, .ref r2, .null, .null, .null, .null, .null, .null, .int 0, .int 0, .int 0, .int 0, .null, .int 0, .null, .int 0, .int 0, .int 0, .int 0, .int 0, .int 0, .int 0]) rfl ?_
  refine y_aload X 0 dX11_init_22 rfl rfl ?_
  refine y_sipush X (v := 149) dX11_init_23 (by decide) ?_
  refine y_newI X (n' := 149) gw_74 (by decide) (Nat.le_of_ble_eq_true rfl) (Nat.le_of_ble_eq_true rfl) dX11_init_26 (fun r3 => ?_)
  refine y_nrm (rest' := [] ++ [(r1, .inl (zcI E, 149, .inl (fun _ => 0)))] ++ [(r2, .inl (zcI E, 149, .inl (fun _ => 0)))] ++ [(r3, .inl (zcI E, 149, .inl (fun _ => 0)))]) rfl ?_
  refine y_putF X (ci := 11) (v := .ref r3) (ty := .array .int) (fs := [.ref r1, .ref r2, .null, .null, .null, .null, .null, .null, .int 0, .int 0, .int 0, .int 0, .null, .int 0, .null, .int 0, .int 0, .int 0, .int 0, .int 0, .int 0, .int 0]) (rest := [] ++ [(r1, .inl (zcI E, 149, .inl (fun _ => 0)))] ++ [(r2, .inl (zcI E, 149, .inl (fun _ => 0)))] ++ [(r3, .inl (zcI E, 149, .inl (fun _ => 0)))]) inlX11 tyX11 tyX11_ok nmX11 rfl 2 (by decide) gw_140 rfl rfl rfl (by decide +kernel) rfl rfl (Nat.le_of_ble_eq_true rfl) dX11_init_28 ?_
  refine y_fs (fs' := [.ref r1, .ref r2, .ref r3, .null, .null, .null, .null, .null, .int 0, .int 0, .int 0, .int 0, .null, .int 0, .null, .int 0, .int 0, .int 0, .int 0, .int 0, .int 0, .int 0]) rfl ?_
  refine y_aload X 0 dX11_init_31 rfl rfl ?_
  refine y_sipush X (v := 149) dX11_init_32 (by decide) ?_
  refine y_newI X (n' := 149) gw_74 (by decide) (Nat.le_of_ble_eq_true rfl) (Nat.le_of_ble_eq_true rfl) dX11_init_35 (fun r4 => ?_)
  refine y_nrm (rest' := [] ++ [(r1, .inl (zcI E, 149, .inl (fun _ => 0)))] ++ [(r2, .inl (zcI E, 149, .inl (fun _ => 0)))] ++ [(r3, .inl (zcI E, 149, .inl (fun _ => 0)))] ++ [(r4, .inl (zcI E, 149, .inl (fun _ => 0)))]) rfl ?_
  refine y_putF X (ci := 11) (v := .ref r4) (ty := .array .int) (fs := [.ref r1, .ref r2, .ref r3, .null, .null, .null, .null, .null, .int 0, .int 0, .int 0, .int 0, .null, .int 0, .null, .int 0, .int 0, .int 0, .int 0, .int 0, .int 0, .int 0]) (rest := [] ++ [(r1, .inl (zcI E, 149, .inl (fun _ => 0)))] ++ [(r2, .inl (zcI E, 149, .inl (fun _ => 0)))] ++ [(r3, .inl (zcI E, 149, .inl (fun _ => 0)))] ++ [(r4, .inl (zcI E, 149, .inl (fun _ => 0)))]) inlX11 tyX11 tyX11_ok nmX11 rfl 3 (by decide) gw_141 rfl rfl rfl (by decide +kernel) rfl rfl (Nat.le_of_ble_eq_true rfl) dX11_init_37 ?_
  refine y_fs (fs' := [.ref r1, .ref r2, .ref r3, .ref r4, .null, .null, .null, .null, .int 0, .int 0, .int 0, .int 0, .null, .int 0, .null, .int 0, .int 0, .int 0, .int 0, .int 0, .int 0, .int 0]) rfl ?_
  refine y_aload X 0 dX11_init_40 rfl rfl ?_
  refine y_bipush X (v := 8) dX11_init_41 (by decide) ?_
  refine y_sipush X (v := 149) dX11_init_43 (by decide) ?_
  refine y_multi X XA gw_142 (Nat.le_of_ble_eq_true rfl) (Nat.le_of_ble_eq_true rfl) dX11_init_46 (fun m5 => ?_)
  refine y_nrm (rest' := [] ++ [(r1, .inl (zcI E, 149, .inl (fun _ => 0)))] ++ [(r2, .inl (zcI E, 149, .inl (fun _ => 0)))] ++ [(r3, .inl (zcI E, 149, .inl (fun _ => 0)))] ++ [(r4, .inl (zcI E, 149, .inl (fun _ => 0)))] ++ maL E m5) rfl ?_
  refine y_putF X (ci := 11) (v := .ref m5) (ty := .array (.array .int)) (fs := [.ref r1, .ref r2, .ref r3, .ref r4, .null, .null, .null, .null, .int 0, .int 0, .int 0, .int 0, .null, .int 0, .null, .int 0, .int 0, .int 0, .int 0, .int 0, .int 0, .int 0]) (rest := [] ++ [(r1, .inl (zcI E, 149, .inl (fun _ => 0)))] ++ [(r2, .inl (zcI E, 149, .inl (fun _ => 0)))] ++ [(r3, .inl (zcI E, 149, .inl (fun _ => 0)))] ++ [(r4, .inl (zcI E, 149, .inl (fun _ => 0)))] ++ maL E m5) inlX11 tyX11 tyX11_ok nmX11 rfl 4 (by decide) gw_143 rfl rfl rfl (by decide +kernel) rfl rfl (Nat.le_of_ble_eq_true rfl) dX11_init_50 ?_
  refine y_fs (fs' := [.ref r1, .ref r2, .ref r3, .ref r4, .ref m5, .null, .null, .null, .int 0, .int 0, .int 0, .int 0, .null, .int 0, .null, .int 0, .int 0, .int 0, .int 0, .int 0, .int 0, .int 0]) rfl ?_
  refine y_aload X 0 dX11_init_53 rfl rfl ?_
  refine y_iconst X (v := 3) dX11_init_54 (by decide) ?_
  refine y_newI X (n' := 3) gw_74 (by decide) (Nat.le_of_ble_eq_true rfl) (Nat.le_of_ble_eq_true rfl) dX11_init_55 (fun r6 => ?_)
  refine y_nrm (rest' := [] ++ [(r1, .inl (zcI E, 149, .inl (fun _ => 0)))] ++ [(r2, .inl (zcI E, 149, .inl (fun _ => 0)))] ++ [(r3, .inl (zcI E, 149, .inl (fun _ => 0)))] ++ [(r4, .inl (zcI E, 149, .inl (fun _ => 0)))] ++ maL E m5 ++ [(r6, .inl (zcI E, 3, .inl (fun _ => 0)))]) rfl ?_
  refine y_putF X (ci := 11) (v := .ref r6) (ty := .array .int) (fs := [.ref r1, .ref r2, .ref r3, .ref r4, .ref m5, .null, .null, .null, .int 0, .int 0, .int 0, .int 0, .null, .int 0, .null, .int 0, .int 0, .int 0, .int 0, .int 0, .int 0, .int 0]) (rest := [] ++ [(r1, .inl (zcI E, 149, .inl (fun _ => 0)))] ++ [(r2, .inl (zcI E, 149, .inl (fun _ => 0)))] ++ [(r3, .inl (zcI E, 149, .inl (fun _ => 0)))] ++ [(r4, .inl (zcI E, 149, .inl (fun _ => 0)))] ++ maL E m5 ++ [(r6, .inl (zcI E, 3, .inl (fun _ => 0)))]) inlX11 tyX11 tyX11_ok nmX11 rfl 5 (by decide) gw_144 rfl rfl rfl (by decide +kernel) rfl rfl (Nat.le_of_ble_eq_true rfl) dX11_init_57 ?_
  refine y_fs (fs' := [.ref r1, .ref r2, .ref r3, .ref r4, .ref m5, .ref r6, .null, .null, .int 0, .int 0, .int 0, .int 0, .null, .int 0, .null, .int 0, .int 0, .int 0, .int 0, .int 0, .int 0, .int 0]) rfl ?_
  refine y_aload X 0 dX11_init_60 rfl rfl ?_
  refine y_iconst X (v := 3) dX11_init_61 (by decide) ?_
  refine y_newI X (n' := 3) gw_74 (by decide) (Nat.le_of_ble_eq_true rfl) (Nat.le_of_ble_eq_true rfl) dX11_init_62 (fun r7 => ?_)
  refine y_nrm (rest' := [] ++ [(r1, .inl (zcI E, 149, .inl (fun _ => 0)))] ++ [(r2, .inl (zcI E, 149, .inl (fun _ => 0)))] ++ [(r3, .inl (zcI E, 149, .inl (fun _ => 0)))] ++ [(r4, .inl (zcI E, 149, .inl (fun _ => 0)))] ++ maL E m5 ++ [(r6, .inl (zcI E, 3, .inl (fun _ => 0)))] ++ [(r7, .inl (zcI E, 3, .inl (fun _ => 0)))]) rfl ?_
  refine y_putF X (ci := 11) (v := .ref r7) (ty := .array .int) (fs := [.ref r1, .ref r2, .ref r3, .ref r4, .ref m5, .ref r6, .null, .null, .int 0, .int 0, .int 0, .int 0, .null, .int 0, .null, .int 0, .int 0, .int 0, .int 0, .int 0, .int 0, .int 0]) (rest := [] ++ [(r1, .inl (zcI E, 149, .inl (fun _ => 0)))] ++ [(r2, .inl (zcI E, 149, .inl (fun _ => 0)))] ++ [(r3, .inl (zcI E, 149, .inl (fun _ => 0)))] ++ [(r4, .inl (zcI E, 149, .inl (fun _ => 0)))] ++ maL E m5 ++ [(r6, .inl (zcI E, 3, .inl (fun _ => 0)))] ++ [(r7, .inl (zcI E, 3, .inl (fun _ => 0)))]) inlX11 tyX11 tyX11_ok nmX11 rfl 6 (by decide) gw_145 rfl rfl rfl (by decide +kernel) rfl rfl (Nat.le_of_ble_eq_true rfl) dX11_init_64 ?_
  refine y_fs (fs' := [.ref r1, .ref r2, .ref r3, .ref r4, .ref m5, .ref r6, .ref r7, .null, .int 0, .int 0, .int 0, .int 0, .null, .int 0, .null, .int 0, .int 0, .int 0, .int 0, .int 0, .int 0, .int 0]) rfl ?_
  refine y_aload X 0 dX11_init_67 rfl rfl ?_
  refine y_bipush X (v := 10) dX11_init_68 (by decide) ?_
  refine y_newI X (n' := 10) gw_74 (by decide) (Nat.le_of_ble_eq_true rfl) (Nat.le_of_ble_eq_true rfl) dX11_init_70 (fun r8 => ?_)
  refine y_nrm (rest' := [] ++ [(r1, .inl (zcI E, 149, .inl (fun _ => 0)))] ++ [(r2, .inl (zcI E, 149, .inl (fun _ => 0)))] ++ [(r3, .inl (zcI E, 149, .inl (fun _ => 0)))] ++ [(r4, .inl (zcI E, 149, .inl (fun _ => 0)))] ++ maL E m5 ++ [(r6, .inl (zcI E, 3, .inl (fun _ => 0)))] ++ [(r7, .inl (zcI E, 3, .inl (fun _ => 0)))] ++ [(r8, .inl (zcI E, 10, .inl (fun _ => 0)))]) rfl ?_
  refine y_putF X (ci := 11) (v := .ref r8) (ty := .array .int) (fs := [.ref r1, .ref r2, .ref r3, .ref r4, .ref m5, .ref r6, .ref r7, .null, .int 0, .int 0, .int 0, .int 0, .null, .int 0, .null, .int 0, .int 0, .int 0, .int 0, .int 0, .int 0, .int 0]) (rest := [] ++ [(r1, .inl (zcI E, 149, .inl (fun _ => 0)))] ++ [(r2, .inl (zcI E, 149, .inl (fun _ => 0)))] ++ [(r3, .inl (zcI E, 149, .inl (fun _ => 0)))] ++ [(r4, .inl (zcI E, 149, .inl (fun _ => 0)))] ++ maL E m5 ++ [(r6, .inl (zcI E, 3, .inl (fun _ => 0)))] ++ [(r7, .inl (zcI E, 3, .inl (fun _ => 0)))] ++ [(r8, .inl (zcI E, 10, .inl (fun _ => 0)))]) inlX11 tyX11 tyX11_ok nmX11 rfl 7 (by decide) gw_146 rfl rfl rfl (by decide +kernel) rfl rfl (Nat.le_of_ble_eq_true rfl) dX11_init_72 ?_
  refine y_fs (fs' := [.ref r1, .ref r2, .ref r3, .ref r4, .ref m5, .ref r6, .ref r7, .ref r8, .int 0, .int 0, .int 0, .int 0, .null, .int 0, .null, .int 0, .int 0, .int 0, .int 0, .int 0, .int 0, .int 0]) rfl ?_
  refine y_aload X 0 dX11_init_75 rfl rfl ?_
  refine y_bipush X (v := 120) dX11_init_76 (by decide) ?_
  refine y_newC X (n' := 120) gw_147 (by decide) (Nat.le_of_ble_eq_true rfl) (Nat.le_of_ble_eq_true rfl) dX11_init_78 (fun r9 => ?_)
  refine y_nrm (rest' := [] ++ [(r1, .inl (zcI E, 149, .inl (fun _ => 0)))] ++ [(r2, .inl (zcI E, 149, .inl (fun _ => 0)))] ++ [(r3, .inl (zcI E, 149, .inl (fun _ => 0)))] ++ [(r4, .inl (zcI E, 149, .inl (fun _ => 0)))] ++ maL E m5 ++ [(r6, .inl (zcI E, 3, .inl (fun _ => 0)))] ++ [(r7, .inl (zcI E, 3, .inl (fun _ => 0)))] ++ [(r8, .inl (zcI E, 10, .inl (fun _ => 0)))] ++ [(r9, .inl (zcC E, 120, .inl (fun _ => 0)))]) rfl ?_
  refine y_putF X (ci := 11) (v := .ref r9) (ty := .array .char) (fs := [.ref r1, .ref r2, .ref r3, .ref r4, .ref m5, .ref r6, .ref r7, .ref r8, .int 0, .int 0, .int 0, .int 0, .null, .int 0, .null, .int 0, .int 0, .int 0, .int 0, .int 0, .int 0, .int 0]) (rest := [] ++ [(r1, .inl (zcI E, 149, .inl (fun _ => 0)))] ++ [(r2, .inl (zcI E, 149, .inl (fun _ => 0)))] ++ [(r3, .inl (zcI E, 149, .inl (fun _ => 0)))] ++ [(r4, .inl (zcI E, 149, .inl (fun _ => 0)))] ++ maL E m5 ++ [(r6, .inl (zcI E, 3, .inl (fun _ => 0)))] ++ [(r7, .inl (zcI E, 3, .inl (fun _ => 0)))] ++ [(r8, .inl (zcI E, 10, .inl (fun _ => 0)))] ++ [(r9, .inl (zcC E, 120, .inl (fun _ => 0)))]) inlX11 tyX11 tyX11_ok nmX11 rfl 12 (by decide) gw_148 rfl rfl rfl (by decide +kernel) rfl rfl (Nat.le_of_ble_eq_true rfl) dX11_init_80 ?_
  refine y_fs (fs' := [.ref r1, .ref r2, .ref r3, .ref r4, .ref m5, .ref r6, .ref r7, .ref r8, .int 0, .int 0, .int 0, .int 0, .ref r9, .int 0, .null, .int 0, .int 0, .int 0, .int 0, .int 0, .int 0, .int 0]) rfl ?_
  refine y_aload X 0 dX11_init_83 rfl rfl ?_
  refine y_bipush X (v := 60) dX11_init_84 (by decide) ?_
  refine y_newC X (n' := 60) gw_147 (by decide) (Nat.le_of_ble_eq_true rfl) (Nat.le_of_ble_eq_true rfl) dX11_init_86 (fun r10 => ?_)
  refine y_nrm (rest' := [] ++ [(r1, .inl (zcI E, 149, .inl (fun _ => 0)))] ++ [(r2, .inl (zcI E, 149, .inl (fun _ => 0)))] ++ [(r3, .inl (zcI E, 149, .inl (fun _ => 0)))] ++ [(r4, .inl (zcI E, 149, .inl (fun _ => 0)))] ++ maL E m5 ++ [(r6, .inl (zcI E, 3, .inl (fun _ => 0)))] ++ [(r7, .inl (zcI E, 3, .inl (fun _ => 0)))] ++ [(r8, .inl (zcI E, 10, .inl (fun _ => 0)))] ++ [(r9, .inl (zcC E, 120, .inl (fun _ => 0)))] ++ [(r10, .inl (zcC E, 60, .inl (fun _ => 0)))]) rfl ?_
  refine y_putF X (ci := 11) (v := .ref r10) (ty := .array .char) (fs := [.ref r1, .ref r2, .ref r3, .ref r4, .ref m5, .ref r6, .ref r7, .ref r8, .int 0, .int 0, .int 0, .int 0, .ref r9, .int 0, .null, .int 0, .int 0, .int 0, .int 0, .int 0, .int 0, .int 0]) (rest := [] ++ [(r1, .inl (zcI E, 149, .inl (fun _ => 0)))] ++ [(r2, .inl (zcI E, 149, .inl (fun _ => 0)))] ++ [(r3, .inl (zcI E, 149, .inl (fun _ => 0)))] ++ [(r4, .inl (zcI E, 149, .inl (fun _ => 0)))] ++ maL E m5 ++ [(r6, .inl (zcI E, 3, .inl (fun _ => 0)))] ++ [(r7, .inl (zcI E, 3, .inl (fun _ => 0)))] ++ [(r8, .inl (zcI E, 10, .inl (fun _ => 0)))] ++ [(r9, .inl (zcC E, 120, .inl (fun _ => 0)))] ++ [(r10, .inl (zcC E, 60, .inl (fun _ => 0)))]) inlX11 tyX11 tyX11_ok nmX11 rfl 14 (by decide) gw_149 rfl rfl rfl (by decide +kernel) rfl rfl (Nat.le_of_ble_eq_true rfl) dX11_init_88 ?_
  refine y_fs (fs' := [.ref r1, .ref r2, .ref r3, .ref r4, .ref m5, .ref r6, .ref r7, .ref r8, .int 0, .int 0, .int 0, .int 0, .ref r9, .int 0, .ref r10, .int 0, .int 0, .int 0, .int 0, .int 0, .int 0, .int 0]) rfl ?_
  refine y_aload X 0 dX11_init_91 rfl rfl ?_
  refine y_getr X (ci := 11) (fs := [.ref r1, .ref r2, .ref r3, .ref r4, .ref m5, .ref r6, .ref r7, .ref r8, .int 0, .int 0, .int 0, .int 0, .ref r9, .int 0, .ref r10, .int 0, .int 0, .int 0, .int 0, .int 0, .int 0, .int 0]) (v := r1) 0 (rest := [] ++ [(r1, .inl (zcI E, 149, .inl (fun _ => 0)))] ++ [(r2, .inl (zcI E, 149, .inl (fun _ => 0)))] ++ [(r3, .inl (zcI E, 149, .inl (fun _ => 0)))] ++ [(r4, .inl (zcI E, 149, .inl (fun _ => 0)))] ++ maL E m5 ++ [(r6, .inl (zcI E, 3, .inl (fun _ => 0)))] ++ [(r7, .inl (zcI E, 3, .inl (fun _ => 0)))] ++ [(r8, .inl (zcI E, 10, .inl (fun _ => 0)))] ++ [(r9, .inl (zcC E, 120, .inl (fun _ => 0)))] ++ [(r10, .inl (zcC E, 60, .inl (fun _ => 0)))]) inlX11 rfl (by decide) gw_138 rfl rfl dX11_init_92 ?_
  refine y_iconst X (v := 0) dX11_init_95 (by decide) ?_
  refine y_bipush X (v := 10) dX11_init_96 (by decide) ?_
  refine y_rest (rest' := (r1, .inl (zcI E, 149, .inl (fun _ => 0))) :: ([] ++ [(r2, .inl (zcI E, 149, .inl (fun _ => 0)))] ++ [(r3, .inl (zcI E, 149, .inl (fun _ => 0)))] ++ [(r4, .inl (zcI E, 149, .inl (fun _ => 0)))] ++ maL E m5 ++ [(r6, .inl (zcI E, 3, .inl (fun _ => 0)))] ++ [(r7, .inl (zcI E, 3, .inl (fun _ => 0)))] ++ [(r8, .inl (zcI E, 10, .inl (fun _ => 0)))] ++ [(r9, .inl (zcC E, 120, .inl (fun _ => 0)))] ++ [(r10, .inl (zcC E, 60, .inl (fun _ => 0)))])) rfl ?_
  refine y_iast X (j := 0) (x := 10) (f := fun _ => 0) (nn := 149) (rest := [] ++ [(r2, .inl (zcI E, 149, .inl (fun _ => 0)))] ++ [(r3, .inl (zcI E, 149, .inl (fun _ => 0)))] ++ [(r4, .inl (zcI E, 149, .inl (fun _ => 0)))] ++ maL E m5 ++ [(r6, .inl (zcI E, 3, .inl (fun _ => 0)))] ++ [(r7, .inl (zcI E, 3, .inl (fun _ => 0)))] ++ [(r8, .inl (zcI E, 10, .inl (fun _ => 0)))] ++ [(r9, .inl (zcC E, 120, .inl (fun _ => 0)))] ++ [(r10, .inl (zcC E, 60, .inl (fun _ => 0)))]) rfl (by decide) (by decide) dX11_init_98 ?_
  exact y_ret X Y dX11_init_99 ⟨fun j => match j with | 0 => r1 | 1 => r2 | 2 => r3 | 3 => r4 | 4 => m5 | 5 => r6 | 6 => r7 | 7 => r8 | 8 => r9 | _ => r10, rfl, rfl⟩
