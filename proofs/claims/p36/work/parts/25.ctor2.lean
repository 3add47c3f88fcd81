def hiG (a : Nat → Nat → Nat) : Nat → (Nat → Option Nat)
  | 0 => fun _ => none
  | i + 1 => va_up (hiG a i) i (some (a i 0))
def hiS (E : ZE) (a : Nat → Nat → Nat) : Nat → va_W
  | 0 => []
  | i + 1 => hiS E a i ++ (a i 0, st0 (a i)) :: stL E (a i)
def orB (a : Nat → Nat → Nat) : Nat → Nat := fun r => match r with | 0 => a 14 0 | 14 => a 14 4 | 15 => a 14 5 | r => a 13 r
def mnL (E : ZE) (a : Nat → Nat → Nat) : va_W :=
  [] ++ (a 9 0, st0 (a 9)) :: stL E (a 9) ++ (a 10 0, st0 (a 10)) :: stL E (a 10) ++ (a 18 0, .inr (3, [.ref (a 18 1), .int 0, .int 0])) :: (a 18 1, .inl (zcS E, 9, .inr (.inr (.inr (.inr (hiG a 9)))))) :: hiS E a 9 ++ (a 11 0, as0 (a 11)) :: asL E (a 11) ++ (a 12 0, as0 (a 12)) :: asL E (a 12) ++ (a 13 0, or0 (orB a)) :: orL E (orB a) ++ (a 15 0, sg0 (a 15) 80) :: sgL E (a 15) 80 ++ (a 16 0, re0 (a 16)) :: reL E (a 16)
section ZYR2
variable {g : ZG} {E : ZE} {own : String} {cc : ByteArray} {nL : Nat} {rm : Room} {ws : va_W} {k n : Nat} {lv : List (Nat × Value)} {pc : Nat} {st : List Value}
theorem mid_get1 {ws rest : va_W} {c d : Nat × va_E} : (ws ++ c :: d :: rest)[ws.length + 1]? = some d := by simp
theorem mid_set1 {ws rest : va_W} {c d d' : Nat × va_E} : (ws ++ c :: d :: rest).set (ws.length + 1) d' = ws ++ c :: d' :: rest := by simp [List.set_append]
theorem y_istore (X : Cy g E own cc nL rm) {j : Fin 4} {i : Nat} {x : Int32} {lv1 : List (Nat × Value)} (hd : decode cc pc = .ok (.istore_n j, 1)) (hi : (j : Nat) = i) (hn : i < nL) (hq : (i, Value.int x) :: lv.filter (fun q => !(q.1 == i) && !(q.1 + 1 == i && q.2.category == 2)) = lv1) (kk : ZY g E ws k n lv1 (pc + 1) st) : ZY g E ws k n lv pc (.int x :: st) := fun H locs ls hP hD hS hl => lv_istore_n X.1 X.2.1 hd hi hl (by rw [X.2.2.1]; exact hn) hq (fun ls' hl' => kk H locs ls' hP hD hS hl')
theorem y_iinc (X : Cy g E own cc nL rm) {i : Nat} {d : Int} {x v : Int32} {lv1 : List (Nat × Value)} (q : Nat) (hd : decode cc pc = .ok (.iinc i d, 3)) (hq : lv[q]? = some (i, .int x)) (hv : x + Int32.ofInt d = v) (hn : i < nL) (hr : (i, Value.int v) :: lv.filter (fun q => !(q.1 == i) && !(q.1 + 1 == i && q.2.category == 2)) = lv1) (kk : ZY g E ws k n lv1 (pc + 3) st) : ZY g E ws k n lv pc st := fun H locs ls hP hD hS hl => lv_iinc X.1 X.2.1 hd hl (k := q) hq hv (by rw [X.2.2.1]; exact hn) hr (fun ls' hl' => kk H locs ls' hP hD hS hl')
theorem y_goto (X : Cy g E own cc nL rm) {off : Int} {tgt : Nat} (hd : decode cc pc = .ok (.goto off, 3)) (ht : (pc : Int) + off = (tgt : Int)) (kk : ZY g E ws k n lv tgt st) : ZY g E ws k n lv pc st := fun H locs ls hP hD hS hl => lv_goto X.1 X.2.1 hd ht (kk H locs ls hP hD hS hl)
theorem y_icge (X : Cy g E own cc nL rm) {x y : Int32} {off : Int} {tgt : Nat} (hd : decode cc pc = .ok (.if_icmp .ge off, 3)) (ht : (pc : Int) + off = (tgt : Int)) (h : y ≤ x) (kk : ZY g E ws k n lv tgt st) : ZY g E ws k n lv pc (.int y :: .int x :: st) := fun H locs ls hP hD hS hl => lv_icmp_ge X.1 X.2.1 hd ht (fun _ => kk H locs ls hP hD hS hl) (fun q => absurd h q)
theorem y_iclt (X : Cy g E own cc nL rm) {x y : Int32} {off : Int} (hd : decode cc pc = .ok (.if_icmp .ge off, 3)) (h : ¬ y ≤ x) {tgt : Nat} (kk : ZY g E ws k n lv (pc + 3) st) (ht : (pc : Int) + off = (tgt : Int)) : ZY g E ws k n lv pc (.int y :: .int x :: st) := fun H locs ls hP hD hS hl => lv_icmp_ge (tgt := tgt) X.1 X.2.1 hd ht (fun q => absurd q h) (fun _ => kk H locs ls hP hD hS hl)
theorem y_getr (X : Cy g E own cc nL rm) {h0 v ci index N : Nat} {ref C : String} {T : u_T} {fs : List Value} (fk : Nat) {rest : va_W} (hin : ∀ w ∈ u_ws C T N, w ∈ wsL_law) (hc : vwCl[ci]? = some (C, T, N)) (hk : fk < N) (hlink : Cond.fieldLink own index ref (T fk).2.1 (T fk).2.2.1 ∈ wsL_law) (href : (T fk).1 = ref) (hv : fs[fk]? = some (.ref v)) (hd : decode cc pc = .ok (.getfield index, 3))
    (kk : ZY g E (ws ++ (h0, .inr (ci, fs)) :: rest) k n lv (pc + 3) (.ref v :: st)) : ZY g E (ws ++ (h0, .inr (ci, fs)) :: rest) k n lv pc (.ref h0 :: st) := fun H locs ls hP hD hS hl => by
  subst href
  exact va_get X.1 X.2.1 X.2.2.2.2.1 hin X.2.2.2.1 X.2.2.2.2.2.1 hP ws.length mid_get hc fk hk (X.2.2.2.2.1 _ hlink) (fun _ h9 => h9) hv hd (kk H locs ls hP hD hS hl)
theorem y_alen (X : Cy g E own cc nL rm) {A0 : Nat} {c : Nat × va_E} {f : Nat → Option Nat} {rest : va_W} (hd : decode cc pc = .ok (.arraylength, 1)) (kk : ZY g E (ws ++ c :: (A0, .inl (zcS E, 9, .inr (.inr (.inr (.inr f))))) :: rest) k n lv (pc + 1) (.int 9 :: st)) : ZY g E (ws ++ c :: (A0, .inl (zcS E, 9, .inr (.inr (.inr (.inr f))))) :: rest) k n lv pc (.ref A0 :: st) := fun H locs ls hP hD hS hl =>
  va_alen X.1 X.2.1 X.2.2.2.2.2.1 hP (ws.length + 1) 1 mid_get1 rfl rfl hd (kk H locs ls hP hD hS hl)
theorem y_newq (X : Cy g E own cc nL rm) {n' index : Nat} (hlk : Cond.classLink own index RX9 ∈ wsL_law) (hk : k + 1 ≤ rm.cells) (hs : n + n' ≤ rm.slots) (hd : decode cc pc = .ok (.anewarray index, 3)) (hn : n' ≤ 200) {v : Int32} (hv : v = nI n')
    (kk : ∀ q, ZY g E (ws ++ [(q, .inl (zcS E, n', .inr (.inr (.inr (.inr (fun _ => none))))))]) (k + 1) (n + n') lv (pc + 3) (.ref q :: st)) : ZY g E ws k n lv pc (.int v :: st) := fun H locs ls hP hD hS hl => by
  subst hv
  exact va_newq X.1 X.2.1 X.2.2.2.1 (X.2.2.2.2.1 _ hlk) X.2.2.2.2.2.2.2.2.1.2 X.2.2.2.2.2.1 hP hD hS X.2.2.2.2.2.2.2.1 (nI_pos (by omega)) (nI_clamp (by omega)) (by omega) (by rw [X.2.2.2.2.2.2.1]; exact hk) (by rw [X.2.2.2.2.2.2.1]; exact hs) hd (fun q cA H1 hK1 hP1 hD1 hS1 => by
    have e : cA = zcS E := ra_eq (hK1.2 2 _ rfl).2 (hK1.2 1 _ rfl).2
    subst e
    exact kk q H1 locs ls hP1 hD1 hS1 hl)
theorem y_aast (X : Cy g E own cc nL rm) {A0 v j : Nat} {c : Nat × va_E} {f : Nat → Option Nat} {rest : va_W} {i : Int32} (hi : i = nI j) (hj : j < 9) (hv : ∃ vs, (v, (.inr (9, vs) : va_E)) ∈ rest) (hd : decode cc pc = .ok (.aastore, 1))
    (kk : ZY g E (ws ++ c :: (A0, .inl (zcS E, 9, .inr (.inr (.inr (.inr (va_up f j (some v))))))) :: rest) k n lv (pc + 1) st) : ZY g E (ws ++ c :: (A0, .inl (zcS E, 9, .inr (.inr (.inr (.inr f))))) :: rest) k n lv pc (.ref v :: .int i :: .ref A0 :: st) := fun H locs ls hP hD hS hl => by
  subst hi
  obtain ⟨vs, hm⟩ := hv
  obtain ⟨qk, hq⟩ := List.getElem?_of_mem (show (v, (.inr (9, vs) : va_E)) ∈ ws ++ c :: (A0, .inl (zcS E, 9, .inr (.inr (.inr (.inr f))))) :: rest from List.mem_append_right _ (List.mem_cons_of_mem _ (List.mem_cons_of_mem _ hm)))
  refine va_astq (r := (RX9, TX9, 3)) X.1 X.2.1 X.2.2.2.2.2.1 hP hD hS (ws.length + 1) 1 qk 9 mid_get1 rfl hq rfl (vp_in_nI hj (by decide)) hd (fun H1 locs1 hP1 hD1 hS1 => ?_)
  rw [mid_set1, nI_clamp (by omega)] at hP1 hD1
  exact kk H1 locs1 ls hP1 hD1 hS1 hl
end ZYR2
def kr_X8_init (n : Nat) : Room := { frames := 2, cells := 2, slots := 1 + n, locals := 42 }
set_option maxRecDepth 100000 in
set_option maxHeartbeats 4000000 in
theorem k_X8_init (E : ZE) (n : Nat) (hn : n ≤ 100) : Ct E yX8_init cX8_init 2 (kr_X8_init n) [.int (nI n)] (.inr (8, [.int 0, .null, .int 0])) (fun _ c1 new => ∃ a : Nat → Nat, c1 = sg0 a n ∧ new = sgL E a n) 2 (0 + 1 + (0 + n)) := by
  refine y_met (own := RX8) (lv := fun h0 => [(0, .ref h0), (1, .int (nI n))]) (by decide) rfl (Nat.le_of_ble_eq_true rfl) (fun _ => rfl) (fun ws h0 gg X Y => ?_)
  refine y_aload X 0 dX8_init_0 rfl rfl ?_
  refine y_obj X gw_118 dX8_init_1 (Nat.le_of_ble_eq_true rfl) (Nat.le_of_ble_eq_true rfl) ?_
  refine y_aload X 0 dX8_init_4 rfl rfl ?_
  refine y_iload X 1 dX8_init_5 rfl rfl ?_
  refine y_putF X (ci := 8) (v := .int (nI n)) (ty := .int) (fs := [.int 0, .null, .int 0]) (rest := []) inlX8 tyX8 tyX8_ok nmX8 rfl 0 (by decide) gw_119 rfl rfl rfl (by decide +kernel) rfl rfl (Nat.le_of_ble_eq_true rfl) dX8_init_6 ?_
  refine y_fs (fs' := [.int (nI n), .null, .int 0]) rfl ?_
  refine y_aload X 0 dX8_init_9 rfl rfl ?_
  refine y_new X (ci := 7) (fs := [.null]) inlX7 tyX7 tyX7_ok gw_120 gw_55 gw_56 rfl (fun j hj => by rcases (show j = 0 by omega) with rfl <;> rfl) (Nat.le_of_ble_eq_true rfl) (by show 0 + 1 ≤ 1 + n; omega) dX8_init_10 (fun q1 => ?_)
  refine y_dup X dX8_init_13 rfl ?_
  refine y_iload X 1 dX8_init_14 rfl rfl ?_
  refine y_callI X (k := 1) (n := 0 + 1) (As := [.int (nI n)]) (st := [.ref q1, .ref h0]) (k_X7_init E n hn) (h0 := h0) (c := .inr (8, [.int (nI n), .null, .int 0])) (rest := []) (q := q1) gw_122 gw_65 ⟨gw_56, gw_66⟩ (by show _ ∧ _ ∧ _ ∧ _ = some 1; decide +kernel) ⟨Nat.le_of_ble_eq_true rfl, Nat.le_of_ble_eq_true rfl⟩ rfl (Nat.zero_add n).symm (Nat.le_of_ble_eq_true rfl) dX8_init_15 (Nat.le_of_ble_eq_true rfl) (by show 0 + 1 + (0 + n) ≤ 1 + n; omega) rfl (fun c1 new hR => ?_)
  obtain ⟨r2, rfl, rfl⟩ := hR
  refine y_putF X (ci := 8) (v := .ref q1) (ty := .object "ChairLeague$Row") (fs := [.int (nI n), .null, .int 0]) (rest := [] ++ (q1, .inr (7, [.ref r2])) :: [(r2, .inl (zcI E, n, .inl (fun _ => 0)))]) inlX8 tyX8 tyX8_ok nmX8 rfl 1 (by decide) gw_121 rfl rfl rfl (by decide +kernel) rfl rfl (Nat.le_of_ble_eq_true rfl) dX8_init_18 ?_
  refine y_fs (fs' := [.int (nI n), .ref q1, .int 0]) rfl ?_
  exact y_ret X Y dX8_init_21 ⟨(fun r => match r with | 4 => q1 | 5 => r2 | _ => 0), rfl, rfl⟩

def kr_X5_init : Room := { frames := 3, cells := 11, slots := 188, locals := 63 }
set_option maxRecDepth 100000 in
set_option maxHeartbeats 4000000 in
theorem k_X5_init (E : ZE)  : Ct E yX5_init cX5_init 1 kr_X5_init [] (.inr (5, [.null, .null, .null, .null, .null, .int 0, .int 0])) (fun _ c1 new => ∃ a : Nat → Nat, c1 = or0 a ∧ new = orL E a) 11 188 := by
  refine y_met (own := RX5) (lv := fun h0 => [(0, .ref h0)]) (by decide) rfl (Nat.le_of_ble_eq_true rfl) (fun _ => rfl) (fun ws h0 gg X Y => ?_)
  refine y_aload X 0 dX5_init_0 rfl rfl ?_
  refine y_obj X gw_107 dX5_init_1 (Nat.le_of_ble_eq_true rfl) (Nat.le_of_ble_eq_true rfl) ?_
  refine y_aload X 0 dX5_init_4 rfl rfl ?_
  refine y_new X (ci := 8) (fs := [.int 0, .null, .int 0]) inlX8 tyX8 tyX8_ok gw_108 gw_29 gw_30 rfl (fun j hj => by rcases (show j = 0 ∨ j = 1 ∨ j = 2 by omega) with rfl | rfl | rfl <;> rfl) (Nat.le_of_ble_eq_true rfl) (Nat.le_of_ble_eq_true rfl) dX5_init_5 (fun q1 => ?_)
  refine y_dup X dX5_init_8 rfl ?_
  refine y_bipush X (v := 60) dX5_init_9 (by decide) ?_
  refine y_callI X (k := 1) (n := 3) (As := [.int 60]) (st := [.ref q1, .ref h0]) (k_X8_init E 60 (by decide)) (h0 := h0) (c := .inr (5, [.null, .null, .null, .null, .null, .int 0, .int 0])) (rest := []) (q := q1) gw_115 gw_116 ⟨gw_30, gw_117⟩ (by decide +kernel) ⟨Nat.le_of_ble_eq_true rfl, Nat.le_of_ble_eq_true rfl⟩ rfl rfl (Nat.le_of_ble_eq_true rfl) dX5_init_11 (Nat.le_of_ble_eq_true rfl) (Nat.le_of_ble_eq_true rfl) rfl (fun c1 new hR => ?_)
  obtain ⟨a2, rfl, rfl⟩ := hR
  refine y_putF X (ci := 5) (v := .ref q1) (ty := .object "ChairLeague$Signs") (fs := [.null, .null, .null, .null, .null, .int 0, .int 0]) (rest := [] ++ (q1, sg0 a2 60) :: sgL E a2 60) inlX5 tyX5 tyX5_ok nmX5 rfl 0 (by decide) gw_109 rfl rfl rfl (by decide +kernel) rfl rfl (Nat.le_of_ble_eq_true rfl) dX5_init_14 ?_
  refine y_fs (fs' := [.ref q1, .null, .null, .null, .null, .int 0, .int 0]) rfl ?_
  refine y_aload X 0 dX5_init_17 rfl rfl ?_
  refine y_new X (ci := 7) (fs := [.null]) inlX7 tyX7 tyX7_ok gw_110 gw_55 gw_56 rfl (fun j hj => by rcases (show j = 0 by omega) with rfl <;> rfl) (Nat.le_of_ble_eq_true rfl) (Nat.le_of_ble_eq_true rfl) dX5_init_18 (fun q3 => ?_)
  refine y_dup X dX5_init_21 rfl ?_
  refine y_bipush X (v := 30) dX5_init_22 (by decide) ?_
  refine y_callI X (k := 4) (n := 65) (As := [.int 30]) (st := [.ref q3, .ref h0]) (k_X7_init E 30 (by first | decide | omega)) (h0 := h0) (c := .inr (5, [.ref q1, .null, .null, .null, .null, .int 0, .int 0])) (rest := [] ++ (q1, sg0 a2 60) :: sgL E a2 60) (q := q3) gw_123 gw_65 ⟨gw_56, gw_66⟩ (by decide +kernel) ⟨Nat.le_of_ble_eq_true rfl, Nat.le_of_ble_eq_true rfl⟩ rfl rfl (Nat.le_of_ble_eq_true rfl) dX5_init_24 (Nat.le_of_ble_eq_true rfl) (Nat.le_of_ble_eq_true rfl) rfl (fun c1 new hR => ?_)
  obtain ⟨r4, rfl, rfl⟩ := hR
  refine y_putF X (ci := 5) (v := .ref q3) (ty := .object "ChairLeague$Row") (fs := [.ref q1, .null, .null, .null, .null, .int 0, .int 0]) (rest := [] ++ (q1, sg0 a2 60) :: sgL E a2 60 ++ (q3, .inr (7, [.ref r4])) :: [(r4, .inl (zcI E, 30, .inl (fun _ => 0)))]) inlX5 tyX5 tyX5_ok nmX5 rfl 1 (by decide) gw_111 rfl rfl rfl (by decide +kernel) rfl rfl (Nat.le_of_ble_eq_true rfl) dX5_init_27 ?_
  refine y_fs (fs' := [.ref q1, .ref q3, .null, .null, .null, .int 0, .int 0]) rfl ?_
  refine y_aload X 0 dX5_init_30 rfl rfl ?_
  refine y_new X (ci := 7) (fs := [.null]) inlX7 tyX7 tyX7_ok gw_110 gw_55 gw_56 rfl (fun j hj => by rcases (show j = 0 by omega) with rfl <;> rfl) (Nat.le_of_ble_eq_true rfl) (Nat.le_of_ble_eq_true rfl) dX5_init_31 (fun q5 => ?_)
  refine y_dup X dX5_init_34 rfl ?_
  refine y_bipush X (v := 30) dX5_init_35 (by decide) ?_
  refine y_callI X (k := 6) (n := 96) (As := [.int 30]) (st := [.ref q5, .ref h0]) (k_X7_init E 30 (by first | decide | omega)) (h0 := h0) (c := .inr (5, [.ref q1, .ref q3, .null, .null, .null, .int 0, .int 0])) (rest := [] ++ (q1, sg0 a2 60) :: sgL E a2 60 ++ (q3, .inr (7, [.ref r4])) :: [(r4, .inl (zcI E, 30, .inl (fun _ => 0)))]) (q := q5) gw_123 gw_65 ⟨gw_56, gw_66⟩ (by decide +kernel) ⟨Nat.le_of_ble_eq_true rfl, Nat.le_of_ble_eq_true rfl⟩ rfl rfl (Nat.le_of_ble_eq_true rfl) dX5_init_37 (Nat.le_of_ble_eq_true rfl) (Nat.le_of_ble_eq_true rfl) rfl (fun c1 new hR => ?_)
  obtain ⟨r6, rfl, rfl⟩ := hR
  refine y_putF X (ci := 5) (v := .ref q5) (ty := .object "ChairLeague$Row") (fs := [.ref q1, .ref q3, .null, .null, .null, .int 0, .int 0]) (rest := [] ++ (q1, sg0 a2 60) :: sgL E a2 60 ++ (q3, .inr (7, [.ref r4])) :: [(r4, .inl (zcI E, 30, .inl (fun _ => 0)))] ++ (q5, .inr (7, [.ref r6])) :: [(r6, .inl (zcI E, 30, .inl (fun _ => 0)))]) inlX5 tyX5 tyX5_ok nmX5 rfl 2 (by decide) gw_112 rfl rfl rfl (by decide +kernel) rfl rfl (Nat.le_of_ble_eq_true rfl) dX5_init_40 ?_
  refine y_fs (fs' := [.ref q1, .ref q3, .ref q5, .null, .null, .int 0, .int 0]) rfl ?_
  refine y_aload X 0 dX5_init_43 rfl rfl ?_
  refine y_new X (ci := 7) (fs := [.null]) inlX7 tyX7 tyX7_ok gw_110 gw_55 gw_56 rfl (fun j hj => by rcases (show j = 0 by omega) with rfl <;> rfl) (Nat.le_of_ble_eq_true rfl) (Nat.le_of_ble_eq_true rfl) dX5_init_44 (fun q7 => ?_)
  refine y_dup X dX5_init_47 rfl ?_
  refine y_bipush X (v := 30) dX5_init_48 (by decide) ?_
  refine y_callI X (k := 8) (n := 127) (As := [.int 30]) (st := [.ref q7, .ref h0]) (k_X7_init E 30 (by first | decide | omega)) (h0 := h0) (c := .inr (5, [.ref q1, .ref q3, .ref q5, .null, .null, .int 0, .int 0])) (rest := [] ++ (q1, sg0 a2 60) :: sgL E a2 60 ++ (q3, .inr (7, [.ref r4])) :: [(r4, .inl (zcI E, 30, .inl (fun _ => 0)))] ++ (q5, .inr (7, [.ref r6])) :: [(r6, .inl (zcI E, 30, .inl (fun _ => 0)))]) (q := q7) gw_123 gw_65 ⟨gw_56, gw_66⟩ (by decide +kernel) ⟨Nat.le_of_ble_eq_true rfl, Nat.le_of_ble_eq_true rfl⟩ rfl rfl (Nat.le_of_ble_eq_true rfl) dX5_init_50 (Nat.le_of_ble_eq_true rfl) (Nat.le_of_ble_eq_true rfl) rfl (fun c1 new hR => ?_)
  obtain ⟨r8, rfl, rfl⟩ := hR
  refine y_putF X (ci := 5) (v := .ref q7) (ty := .object "ChairLeague$Row") (fs := [.ref q1, .ref q3, .ref q5, .null, .null, .int 0, .int 0]) (rest := [] ++ (q1, sg0 a2 60) :: sgL E a2 60 ++ (q3, .inr (7, [.ref r4])) :: [(r4, .inl (zcI E, 30, .inl (fun _ => 0)))] ++ (q5, .inr (7, [.ref r6])) :: [(r6, .inl (zcI E, 30, .inl (fun _ => 0)))] ++ (q7, .inr (7, [.ref r8])) :: [(r8, .inl (zcI E, 30, .inl (fun _ => 0)))]) inlX5 tyX5 tyX5_ok nmX5 rfl 3 (by decide) gw_113 rfl rfl rfl (by decide +kernel) rfl rfl (Nat.le_of_ble_eq_true rfl) dX5_init_53 ?_
  refine y_fs (fs' := [.ref q1, .ref q3, .ref q5, .ref q7, .null, .int 0, .int 0]) rfl ?_
  refine y_aload X 0 dX5_init_56 rfl rfl ?_
  refine y_new X (ci := 7) (fs := [.null]) inlX7 tyX7 tyX7_ok gw_110 gw_55 gw_56 rfl (fun j hj => by rcases (show j = 0 by omega) with rfl <;> rfl) (Nat.le_of_ble_eq_true rfl) (Nat.le_of_ble_eq_true rfl) dX5_init_57 (fun q9 => ?_)
  refine y_dup X dX5_init_60 rfl ?_
  refine y_bipush X (v := 30) dX5_init_61 (by decide) ?_
  refine y_callI X (k := 10) (n := 158) (As := [.int 30]) (st := [.ref q9, .ref h0]) (k_X7_init E 30 (by first | decide | omega)) (h0 := h0) (c := .inr (5, [.ref q1, .ref q3, .ref q5, .ref q7, .null, .int 0, .int 0])) (rest := [] ++ (q1, sg0 a2 60) :: sgL E a2 60 ++ (q3, .inr (7, [.ref r4])) :: [(r4, .inl (zcI E, 30, .inl (fun _ => 0)))] ++ (q5, .inr (7, [.ref r6])) :: [(r6, .inl (zcI E, 30, .inl (fun _ => 0)))] ++ (q7, .inr (7, [.ref r8])) :: [(r8, .inl (zcI E, 30, .inl (fun _ => 0)))]) (q := q9) gw_123 gw_65 ⟨gw_56, gw_66⟩ (by decide +kernel) ⟨Nat.le_of_ble_eq_true rfl, Nat.le_of_ble_eq_true rfl⟩ rfl rfl (Nat.le_of_ble_eq_true rfl) dX5_init_63 (Nat.le_of_ble_eq_true rfl) (Nat.le_of_ble_eq_true rfl) rfl (fun c1 new hR => ?_)
  obtain ⟨r10, rfl, rfl⟩ := hR
  refine y_putF X (ci := 5) (v := .ref q9) (ty := .object "ChairLeague$Row") (fs := [.ref q1, .ref q3, .ref q5, .ref q7, .null, .int 0, .int 0]) (rest := [] ++ (q1, sg0 a2 60) :: sgL E a2 60 ++ (q3, .inr (7, [.ref r4])) :: [(r4, .inl (zcI E, 30, .inl (fun _ => 0)))] ++ (q5, .inr (7, [.ref r6])) :: [(r6, .inl (zcI E, 30, .inl (fun _ => 0)))] ++ (q7, .inr (7, [.ref r8])) :: [(r8, .inl (zcI E, 30, .inl (fun _ => 0)))] ++ (q9, .inr (7, [.ref r10])) :: [(r10, .inl (zcI E, 30, .inl (fun _ => 0)))]) inlX5 tyX5 tyX5_ok nmX5 rfl 4 (by decide) gw_114 rfl rfl rfl (by decide +kernel) rfl rfl (Nat.le_of_ble_eq_true rfl) dX5_init_66 ?_
  refine y_fs (fs' := [.ref q1, .ref q3, .ref q5, .ref q7, .ref q9, .int 0, .int 0]) rfl ?_
  exact y_ret X Y dX5_init_69 ⟨(fun r => match r with | 0 => q1 | 14 => a2 4 | 15 => a2 5 | 4 => q3 | 5 => r4 | 6 => q5 | 7 => r6 | 8 => q7 | 9 => r8 | 10 => q9 | 11 => r10 | _ => 0), rfl, rfl⟩

def kr_X3_init : Room := { frames := 4, cells := 289, slots := 1629, locals := 82 }
set_option maxRecDepth 100000 in
set_option maxHeartbeats 4000000 in
theorem k_X3_init (E : ZE)  : Ct E yX3_init cX3_init 2 kr_X3_init [] (.inr (3, [.null, .int 0, .int 0])) (fun _ c1 new => ∃ (A0 : Nat) (a : Nat → Nat → Nat), c1 = .inr (3, [.ref A0, .int 0, .int 0]) ∧ new = (A0, .inl (zcS E, 9, .inr (.inr (.inr (.inr (hiG a 9)))))) :: hiS E a 9) 289 1629 := by
  refine y_met (own := RX3) (lv := fun h0 => [(0, .ref h0)]) (by decide) rfl (Nat.le_of_ble_eq_true rfl) (fun _ => rfl) (fun ws h0 gg X Y => ?_)
  refine y_aload X 0 dX3_init_0 rfl rfl ?_
  refine y_obj X gw_93 dX3_init_1 (Nat.le_of_ble_eq_true rfl) (Nat.le_of_ble_eq_true rfl) ?_
  refine y_aload X 0 dX3_init_4 rfl rfl ?_
  refine y_bipush X (v := 9) dX3_init_5 (by decide) ?_
  refine y_newq X (k := 0) (n := 0) (n' := 9) gw_94 (Nat.le_of_ble_eq_true rfl) (Nat.le_of_ble_eq_true rfl) dX3_init_7 (by decide) rfl (fun A0 => ?_)
  refine y_nrm (rest' := (A0, .inl (zcS E, 9, .inr (.inr (.inr (.inr (fun _ => none)))))) :: []) rfl ?_
  refine y_putF X (ci := 3) (v := .ref A0) (ty := .array (.object "ChairLeague$State")) (fs := [.null, .int 0, .int 0]) (rest := (A0, .inl (zcS E, 9, .inr (.inr (.inr (.inr (fun _ => none)))))) :: []) inlX3 tyX3 tyX3_ok nmX3 rfl 0 (by decide) gw_95 rfl rfl rfl (by decide +kernel) rfl rfl (Nat.le_of_ble_eq_true rfl) dX3_init_10 ?_
  refine y_fs (fs' := [.ref A0, .int 0, .int 0]) rfl ?_
  refine y_iconst X (v := 0) dX3_init_13 (by decide) ?_
  refine y_istore X (lv1 := [(1, .int 0), (0, .ref h0)]) dX3_init_14 rfl (by decide) rfl ?_
  refine y_iload X 0 dX3_init_15 rfl rfl ?_
  refine y_aload X 1 dX3_init_16 rfl rfl ?_
  refine y_getr X (ci := 3) (fs := [.ref A0, .int 0, .int 0]) (v := A0) 0 (rest := (A0, .inl (zcS E, 9, .inr (.inr (.inr (.inr (fun _ => none)))))) :: []) inlX3 rfl (by decide) gw_95 rfl rfl dX3_init_17 ?_
  refine y_alen X (rest := []) dX3_init_20 ?_
  refine y_iclt X (tgt := 43) dX3_init_21 (by decide) ?_ (by decide)
  refine y_aload X 1 dX3_init_24 rfl rfl ?_
  refine y_getr X (ci := 3) (fs := [.ref A0, .int 0, .int 0]) (v := A0) 0 (rest := (A0, .inl (zcS E, 9, .inr (.inr (.inr (.inr (fun _ => none)))))) :: []) inlX3 rfl (by decide) gw_95 rfl rfl dX3_init_25 ?_
  refine y_iload X 0 dX3_init_28 rfl rfl ?_
  refine y_new X (ci := 9) (fs := [.null, .null, .null]) inlX9 tyX9 tyX9_ok gw_94 gw_11 gw_12 rfl (fun j hj => by rcases (show j = 0 ∨ j = 1 ∨ j = 2 by omega) with rfl | rfl | rfl <;> rfl) (Nat.le_of_ble_eq_true rfl) (Nat.le_of_ble_eq_true rfl) dX3_init_29 (fun q1 => ?_)
  refine y_dup X dX3_init_32 rfl ?_
  refine y_callN X (k := 2) (n := 12) (As := []) (st := [.ref q1, .int 0, .ref A0]) (k_X9_init E) (h0 := h0) (c := .inr (3, [.ref A0, .int 0, .int 0])) (rest := (A0, .inl (zcS E, 9, .inr (.inr (.inr (.inr (fun _ => none)))))) :: []) (q := q1) (List.mem_of_getElem? (i := 4) rfl) gw_36 ⟨gw_12, gw_37⟩ (by decide +kernel) ⟨Nat.le_of_ble_eq_true rfl, Nat.le_of_ble_eq_true rfl⟩ rfl rfl (Nat.le_of_ble_eq_true rfl) dX3_init_33 (Nat.le_of_ble_eq_true rfl) (Nat.le_of_ble_eq_true rfl) rfl (fun c1 new hR => ?_)
  obtain ⟨a1, rfl, rfl⟩ := hR
  refine y_aast X (j := 0) (v := q1) (f := (fun _ => none)) (rest := [] ++ (q1, st0 a1) :: stL E a1) rfl (by decide) ⟨_, List.mem_append_right _ List.mem_cons_self⟩ dX3_init_36 ?_
  refine y_iinc X (v := 1) (lv1 := [(1, .int 1), (0, .ref h0)]) 0 dX3_init_37 rfl (by decide) (by decide) rfl ?_
  refine y_goto X (tgt := 15) dX3_init_40 (by decide) ?_
  refine y_iload X 0 dX3_init_15 rfl rfl ?_
  refine y_aload X 1 dX3_init_16 rfl rfl ?_
  refine y_getr X (ci := 3) (fs := [.ref A0, .int 0, .int 0]) (v := A0) 0 (rest := (A0, .inl (zcS E, 9, .inr (.inr (.inr (.inr (va_up (fun _ => none) 0 (some q1))))))) :: [] ++ (q1, st0 a1) :: stL E a1) inlX3 rfl (by decide) gw_95 rfl rfl dX3_init_17 ?_
  refine y_alen X (rest := [] ++ (q1, st0 a1) :: stL E a1) dX3_init_20 ?_
  refine y_iclt X (tgt := 43) dX3_init_21 (by decide) ?_ (by decide)
  refine y_aload X 1 dX3_init_24 rfl rfl ?_
  refine y_getr X (ci := 3) (fs := [.ref A0, .int 0, .int 0]) (v := A0) 0 (rest := (A0, .inl (zcS E, 9, .inr (.inr (.inr (.inr (va_up (fun _ => none) 0 (some q1))))))) :: [] ++ (q1, st0 a1) :: stL E a1) inlX3 rfl (by decide) gw_95 rfl rfl dX3_init_25 ?_
  refine y_iload X 0 dX3_init_28 rfl rfl ?_
  refine y_new X (ci := 9) (fs := [.null, .null, .null]) inlX9 tyX9 tyX9_ok gw_94 gw_11 gw_12 rfl (fun j hj => by rcases (show j = 0 ∨ j = 1 ∨ j = 2 by omega) with rfl | rfl | rfl <;> rfl) (Nat.le_of_ble_eq_true rfl) (Nat.le_of_ble_eq_true rfl) dX3_init_29 (fun q2 => ?_)
  refine y_dup X dX3_init_32 rfl ?_
  refine y_callN X (k := 34) (n := 192) (As := []) (st := [.ref q2, .int 1, .ref A0]) (k_X9_init E) (h0 := h0) (c := .inr (3, [.ref A0, .int 0, .int 0])) (rest := (A0, .inl (zcS E, 9, .inr (.inr (.inr (.inr (va_up (fun _ => none) 0 (some q1))))))) :: [] ++ (q1, st0 a1) :: stL E a1) (q := q2) (List.mem_of_getElem? (i := 4) rfl) gw_36 ⟨gw_12, gw_37⟩ (by decide +kernel) ⟨Nat.le_of_ble_eq_true rfl, Nat.le_of_ble_eq_true rfl⟩ rfl rfl (Nat.le_of_ble_eq_true rfl) dX3_init_33 (Nat.le_of_ble_eq_true rfl) (Nat.le_of_ble_eq_true rfl) rfl (fun c1 new hR => ?_)
  obtain ⟨a2, rfl, rfl⟩ := hR
  refine y_aast X (j := 1) (v := q2) (f := (va_up (fun _ => none) 0 (some q1))) (rest := [] ++ (q1, st0 a1) :: stL E a1 ++ (q2, st0 a2) :: stL E a2) rfl (by decide) ⟨_, List.mem_append_right _ List.mem_cons_self⟩ dX3_init_36 ?_
  refine y_iinc X (v := 2) (lv1 := [(1, .int 2), (0, .ref h0)]) 0 dX3_init_37 rfl (by decide) (by decide) rfl ?_
  refine y_goto X (tgt := 15) dX3_init_40 (by decide) ?_
  refine y_iload X 0 dX3_init_15 rfl rfl ?_
  refine y_aload X 1 dX3_init_16 rfl rfl ?_
  refine y_getr X (ci := 3) (fs := [.ref A0, .int 0, .int 0]) (v := A0) 0 (rest := (A0, .inl (zcS E, 9, .inr (.inr (.inr (.inr (va_up (va_up (fun _ => none) 0 (some q1)) 1 (some q2))))))) :: [] ++ (q1, st0 a1) :: stL E a1 ++ (q2, st0 a2) :: stL E a2) inlX3 rfl (by decide) gw_95 rfl rfl dX3_init_17 ?_
  refine y_alen X (rest := [] ++ (q1, st0 a1) :: stL E a1 ++ (q2, st0 a2) :: stL E a2) dX3_init_20 ?_
  refine y_iclt X (tgt := 43) dX3_init_21 (by decide) ?_ (by decide)
  refine y_aload X 1 dX3_init_24 rfl rfl ?_
  refine y_getr X (ci := 3) (fs := [.ref A0, .int 0, .int 0]) (v := A0) 0 (rest := (A0, .inl (zcS E, 9, .inr (.inr (.inr (.inr (va_up (va_up (fun _ => none) 0 (some q1)) 1 (some q2))))))) :: [] ++ (q1, st0 a1) :: stL E a1 ++ (q2, st0 a2) :: stL E a2) inlX3 rfl (by decide) gw_95 rfl rfl dX3_init_25 ?_
  refine y_iload X 0 dX3_init_28 rfl rfl ?_
  refine y_new X (ci := 9) (fs := [.null, .null, .null]) inlX9 tyX9 tyX9_ok gw_94 gw_11 gw_12 rfl (fun j hj => by rcases (show j = 0 ∨ j = 1 ∨ j = 2 by omega) with rfl | rfl | rfl <;> rfl) (Nat.le_of_ble_eq_true rfl) (Nat.le_of_ble_eq_true rfl) dX3_init_29 (fun q3 => ?_)
  refine y_dup X dX3_init_32 rfl ?_
  refine y_callN X (k := 66) (n := 372) (As := []) (st := [.ref q3, .int 2, .ref A0]) (k_X9_init E) (h0 := h0) (c := .inr (3, [.ref A0, .int 0, .int 0])) (rest := (A0, .inl (zcS E, 9, .inr (.inr (.inr (.inr (va_up (va_up (fun _ => none) 0 (some q1)) 1 (some q2))))))) :: [] ++ (q1, st0 a1) :: stL E a1 ++ (q2, st0 a2) :: stL E a2) (q := q3) (List.mem_of_getElem? (i := 4) rfl) gw_36 ⟨gw_12, gw_37⟩ (by decide +kernel) ⟨Nat.le_of_ble_eq_true rfl, Nat.le_of_ble_eq_true rfl⟩ rfl rfl (Nat.le_of_ble_eq_true rfl) dX3_init_33 (Nat.le_of_ble_eq_true rfl) (Nat.le_of_ble_eq_true rfl) rfl (fun c1 new hR => ?_)
  obtain ⟨a3, rfl, rfl⟩ := hR
  refine y_aast X (j := 2) (v := q3) (f := (va_up (va_up (fun _ => none) 0 (some q1)) 1 (some q2))) (rest := [] ++ (q1, st0 a1) :: stL E a1 ++ (q2, st0 a2) :: stL E a2 ++ (q3, st0 a3) :: stL E a3) rfl (by decide) ⟨_, List.mem_append_right _ List.mem_cons_self⟩ dX3_init_36 ?_
  refine y_iinc X (v := 3) (lv1 := [(1, .int 3), (0, .ref h0)]) 0 dX3_init_37 rfl (by decide) (by decide) rfl ?_
  refine y_goto X (tgt := 15) dX3_init_40 (by decide) ?_
  refine y_iload X 0 dX3_init_15 rfl rfl ?_
  refine y_aload X 1 dX3_init_16 rfl rfl ?_
  refine y_getr X (ci := 3) (fs := [.ref A0, .int 0, .int 0]) (v := A0) 0 (rest := (A0, .inl (zcS E, 9, .inr (.inr (.inr (.inr (va_up (va_up (va_up (fun _ => none) 0 (some q1)) 1 (some q2)) 2 (some q3))))))) :: [] ++ (q1, st0 a1) :: stL E a1 ++ (q2, st0 a2) :: stL E a2 ++ (q3, st0 a3) :: stL E a3) inlX3 rfl (by decide) gw_95 rfl rfl dX3_init_17 ?_
  refine y_alen X (rest := [] ++ (q1, st0 a1) :: stL E a1 ++ (q2, st0 a2) :: stL E a2 ++ (q3, st0 a3) :: stL E a3) dX3_init_20 ?_
  refine y_iclt X (tgt := 43) dX3_init_21 (by decide) ?_ (by decide)
  refine y_aload X 1 dX3_init_24 rfl rfl ?_
  refine y_getr X (ci := 3) (fs := [.ref A0, .int 0, .int 0]) (v := A0) 0 (rest := (A0, .inl (zcS E, 9, .inr (.inr (.inr (.inr (va_up (va_up (va_up (fun _ => none) 0 (some q1)) 1 (some q2)) 2 (some q3))))))) :: [] ++ (q1, st0 a1) :: stL E a1 ++ (q2, st0 a2) :: stL E a2 ++ (q3, st0 a3) :: stL E a3) inlX3 rfl (by decide) gw_95 rfl rfl dX3_init_25 ?_
  refine y_iload X 0 dX3_init_28 rfl rfl ?_
  refine y_new X (ci := 9) (fs := [.null, .null, .null]) inlX9 tyX9 tyX9_ok gw_94 gw_11 gw_12 rfl (fun j hj => by rcases (show j = 0 ∨ j = 1 ∨ j = 2 by omega) with rfl | rfl | rfl <;> rfl) (Nat.le_of_ble_eq_true rfl) (Nat.le_of_ble_eq_true rfl) dX3_init_29 (fun q4 => ?_)
  refine y_dup X dX3_init_32 rfl ?_
  refine y_callN X (k := 98) (n := 552) (As := []) (st := [.ref q4, .int 3, .ref A0]) (k_X9_init E) (h0 := h0) (c := .inr (3, [.ref A0, .int 0, .int 0])) (rest := (A0, .inl (zcS E, 9, .inr (.inr (.inr (.inr (va_up (va_up (va_up (fun _ => none) 0 (some q1)) 1 (some q2)) 2 (some q3))))))) :: [] ++ (q1, st0 a1) :: stL E a1 ++ (q2, st0 a2) :: stL E a2 ++ (q3, st0 a3) :: stL E a3) (q := q4) (List.mem_of_getElem? (i := 4) rfl) gw_36 ⟨gw_12, gw_37⟩ (by decide +kernel) ⟨Nat.le_of_ble_eq_true rfl, Nat.le_of_ble_eq_true rfl⟩ rfl rfl (Nat.le_of_ble_eq_true rfl) dX3_init_33 (Nat.le_of_ble_eq_true rfl) (Nat.le_of_ble_eq_true rfl) rfl (fun c1 new hR => ?_)
  obtain ⟨a4, rfl, rfl⟩ := hR
  refine y_aast X (j := 3) (v := q4) (f := (va_up (va_up (va_up (fun _ => none) 0 (some q1)) 1 (some q2)) 2 (some q3))) (rest := [] ++ (q1, st0 a1) :: stL E a1 ++ (q2, st0 a2) :: stL E a2 ++ (q3, st0 a3) :: stL E a3 ++ (q4, st0 a4) :: stL E a4) rfl (by decide) ⟨_, List.mem_append_right _ List.mem_cons_self⟩ dX3_init_36 ?_
  refine y_iinc X (v := 4) (lv1 := [(1, .int 4), (0, .ref h0)]) 0 dX3_init_37 rfl (by decide) (by decide) rfl ?_
  refine y_goto X (tgt := 15) dX3_init_40 (by decide) ?_
  refine y_iload X 0 dX3_init_15 rfl rfl ?_
  refine y_aload X 1 dX3_init_16 rfl rfl ?_
  refine y_getr X (ci := 3) (fs := [.ref A0, .int 0, .int 0]) (v := A0) 0 (rest := (A0, .inl (zcS E, 9, .inr (.inr (.inr (.inr (va_up (va_up (va_up (va_up (fun _ => none) 0 (some q1)) 1 (some q2)) 2 (some q3)) 3 (some q4))))))) :: [] ++ (q1, st0 a1) :: stL E a1 ++ (q2, st0 a2) :: stL E a2 ++ (q3, st0 a3) :: stL E a3 ++ (q4, st0 a4) :: stL E a4) inlX3 rfl (by decide) gw_95 rfl rfl dX3_init_17 ?_
  refine y_alen X (rest := [] ++ (q1, st0 a1) :: stL E a1 ++ (q2, st0 a2) :: stL E a2 ++ (q3, st0 a3) :: stL E a3 ++ (q4, st0 a4) :: stL E a4) dX3_init_20 ?_
  refine y_iclt X (tgt := 43) dX3_init_21 (by decide) ?_ (by decide)
  refine y_aload X 1 dX3_init_24 rfl rfl ?_
  refine y_getr X (ci := 3) (fs := [.ref A0, .int 0, .int 0]) (v := A0) 0 (rest := (A0, .inl (zcS E, 9, .inr (.inr (.inr (.inr (va_up (va_up (va_up (va_up (fun _ => none) 0 (some q1)) 1 (some q2)) 2 (some q3)) 3 (some q4))))))) :: [] ++ (q1, st0 a1) :: stL E a1 ++ (q2, st0 a2) :: stL E a2 ++ (q3, st0 a3) :: stL E a3 ++ (q4, st0 a4) :: stL E a4) inlX3 rfl (by decide) gw_95 rfl rfl dX3_init_25 ?_
  refine y_iload X 0 dX3_init_28 rfl rfl ?_
  refine y_new X (ci := 9) (fs := [.null, .null, .null]) inlX9 tyX9 tyX9_ok gw_94 gw_11 gw_12 rfl (fun j hj => by rcases (show j = 0 ∨ j = 1 ∨ j = 2 by omega) with rfl | rfl | rfl <;> rfl) (Nat.le_of_ble_eq_true rfl) (Nat.le_of_ble_eq_true rfl) dX3_init_29 (fun q5 => ?_)
  refine y_dup X dX3_init_32 rfl ?_
  refine y_callN X (k := 130) (n := 732) (As := []) (st := [.ref q5, .int 4, .ref A0]) (k_X9_init E) (h0 := h0) (c := .inr (3, [.ref A0, .int 0, .int 0])) (rest := (A0, .inl (zcS E, 9, .inr (.inr (.inr (.inr (va_up (va_up (va_up (va_up (fun _ => none) 0 (some q1)) 1 (some q2)) 2 (some q3)) 3 (some q4))))))) :: [] ++ (q1, st0 a1) :: stL E a1 ++ (q2, st0 a2) :: stL E a2 ++ (q3, st0 a3) :: stL E a3 ++ (q4, st0 a4) :: stL E a4) (q := q5) (List.mem_of_getElem? (i := 4) rfl) gw_36 ⟨gw_12, gw_37⟩ (by decide +kernel) ⟨Nat.le_of_ble_eq_true rfl, Nat.le_of_ble_eq_true rfl⟩ rfl rfl (Nat.le_of_ble_eq_true rfl) dX3_init_33 (Nat.le_of_ble_eq_true rfl) (Nat.le_of_ble_eq_true rfl) rfl (fun c1 new hR => ?_)
  obtain ⟨a5, rfl, rfl⟩ := hR
  refine y_aast X (j := 4) (v := q5) (f := (va_up (va_up (va_up (va_up (fun _ => none) 0 (some q1)) 1 (some q2)) 2 (some q3)) 3 (some q4))) (rest := [] ++ (q1, st0 a1) :: stL E a1 ++ (q2, st0 a2) :: stL E a2 ++ (q3, st0 a3) :: stL E a3 ++ (q4, st0 a4) :: stL E a4 ++ (q5, st0 a5) :: stL E a5) rfl (by decide) ⟨_, List.mem_append_right _ List.mem_cons_self⟩ dX3_init_36 ?_
  refine y_iinc X (v := 5) (lv1 := [(1, .int 5), (0, .ref h0)]) 0 dX3_init_37 rfl (by decide) (by decide) rfl ?_
  refine y_goto X (tgt := 15) dX3_init_40 (by decide) ?_
  refine y_iload X 0 dX3_init_15 rfl rfl ?_
  refine y_aload X 1 dX3_init_16 rfl rfl ?_
  refine y_getr X (ci := 3) (fs := [.ref A0, .int 0, .int 0]) (v := A0) 0 (rest := (A0, .inl (zcS E, 9, .inr (.inr (.inr (.inr (va_up (va_up (va_up (va_up (va_up (fun _ => none) 0 (some q1)) 1 (some q2)) 2 (some q3)) 3 (some q4)) 4 (some q5))))))) :: [] ++ (q1, st0 a1) :: stL E a1 ++ (q2, st0 a2) :: stL E a2 ++ (q3, st0 a3) :: stL E a3 ++ (q4, st0 a4) :: stL E a4 ++ (q5, st0 a5) :: stL E a5) inlX3 rfl (by decide) gw_95 rfl rfl dX3_init_17 ?_
  refine y_alen X (rest := [] ++ (q1, st0 a1) :: stL E a1 ++ (q2, st0 a2) :: stL E a2 ++ (q3, st0 a3) :: stL E a3 ++ (q4, st0 a4) :: stL E a4 ++ (q5, st0 a5) :: stL E a5) dX3_init_20 ?_
  refine y_iclt X (tgt := 43) dX3_init_21 (by decide) ?_ (by decide)
  refine y_aload X 1 dX3_init_24 rfl rfl ?_
  refine y_getr X (ci := 3) (fs := [.ref A0, .int 0, .int 0]) (v := A0) 0 (rest := (A0, .inl (zcS E, 9, .inr (.inr (.inr (.inr (va_up (va_up (va_up (va_up (va_up (fun _ => none) 0 (some q1)) 1 (some q2)) 2 (some q3)) 3 (some q4)) 4 (some q5))))))) :: [] ++ (q1, st0 a1) :: stL E a1 ++ (q2, st0 a2) :: stL E a2 ++ (q3, st0 a3) :: stL E a3 ++ (q4, st0 a4) :: stL E a4 ++ (q5, st0 a5) :: stL E a5) inlX3 rfl (by decide) gw_95 rfl rfl dX3_init_25 ?_
  refine y_iload X 0 dX3_init_28 rfl rfl ?_
  refine y_new X (ci := 9) (fs := [.null, .null, .null]) inlX9 tyX9 tyX9_ok gw_94 gw_11 gw_12 rfl (fun j hj => by rcases (show j = 0 ∨ j = 1 ∨ j = 2 by omega) with rfl | rfl | rfl <;> rfl) (Nat.le_of_ble_eq_true rfl) (Nat.le_of_ble_eq_true rfl) dX3_init_29 (fun q6 => ?_)
  refine y_dup X dX3_init_32 rfl ?_
  refine y_callN X (k := 162) (n := 912) (As := []) (st := [.ref q6, .int 5, .ref A0]) (k_X9_init E) (h0 := h0) (c := .inr (3, [.ref A0, .int 0, .int 0])) (rest := (A0, .inl (zcS E, 9, .inr (.inr (.inr (.inr (va_up (va_up (va_up (va_up (va_up (fun _ => none) 0 (some q1)) 1 (some q2)) 2 (some q3)) 3 (some q4)) 4 (some q5))))))) :: [] ++ (q1, st0 a1) :: stL E a1 ++ (q2, st0 a2) :: stL E a2 ++ (q3, st0 a3) :: stL E a3 ++ (q4, st0 a4) :: stL E a4 ++ (q5, st0 a5) :: stL E a5) (q := q6) (List.mem_of_getElem? (i := 4) rfl) gw_36 ⟨gw_12, gw_37⟩ (by decide +kernel) ⟨Nat.le_of_ble_eq_true rfl, Nat.le_of_ble_eq_true rfl⟩ rfl rfl (Nat.le_of_ble_eq_true rfl) dX3_init_33 (Nat.le_of_ble_eq_true rfl) (Nat.le_of_ble_eq_true rfl) rfl (fun c1 new hR => ?_)
  obtain ⟨a6, rfl, rfl⟩ := hR
  refine y_aast X (j := 5) (v := q6) (f := (va_up (va_up (va_up (va_up (va_up (fun _ => none) 0 (some q1)) 1 (some q2)) 2 (some q3)) 3 (some q4)) 4 (some q5))) (rest := [] ++ (q1, st0 a1) :: stL E a1 ++ (q2, st0 a2) :: stL E a2 ++ (q3, st0 a3) :: stL E a3 ++ (q4, st0 a4) :: stL E a4 ++ (q5, st0 a5) :: stL E a5 ++ (q6, st0 a6) :: stL E a6) rfl (by decide) ⟨_, List.mem_append_right _ List.mem_cons_self⟩ dX3_init_36 ?_
  refine y_iinc X (v := 6) (lv1 := [(1, .int 6), (0, .ref h0)]) 0 dX3_init_37 rfl (by decide) (by decide) rfl ?_
  refine y_goto X (tgt := 15) dX3_init_40 (by decide) ?_
  refine y_iload X 0 dX3_init_15 rfl rfl ?_
  refine y_aload X 1 dX3_init_16 rfl rfl ?_
  refine y_getr X (ci := 3) (fs := [.ref A0, .int 0, .int 0]) (v := A0) 0 (rest := (A0, .inl (zcS E, 9, .inr (.inr (.inr (.inr (va_up (va_up (va_up (va_up (va_up (va_up (fun _ => none) 0 (some q1)) 1 (some q2)) 2 (some q3)) 3 (some q4)) 4 (some q5)) 5 (some q6))))))) :: [] ++ (q1, st0 a1) :: stL E a1 ++ (q2, st0 a2) :: stL E a2 ++ (q3, st0 a3) :: stL E a3 ++ (q4, st0 a4) :: stL E a4 ++ (q5, st0 a5) :: stL E a5 ++ (q6, st0 a6) :: stL E a6) inlX3 rfl (by decide) gw_95 rfl rfl dX3_init_17 ?_
  refine y_alen X (rest := [] ++ (q1, st0 a1) :: stL E a1 ++ (q2, st0 a2) :: stL E a2 ++ (q3, st0 a3) :: stL E a3 ++ (q4, st0 a4) :: stL E a4 ++ (q5, st0 a5) :: stL E a5 ++ (q6, st0 a6) :: stL E a6) dX3_init_20 ?_
  refine y_iclt X (tgt := 43) dX3_init_21 (by decide) ?_ (by decide)
  refine y_aload X 1 dX3_init_24 rfl rfl ?_
  refine y_getr X (ci := 3) (fs := [.ref A0, .int 0, .int 0]) (v := A0) 0 (rest := (A0, .inl (zcS E, 9, .inr (.inr (.inr (.inr (va_up (va_up (va_up (va_up (va_up (va_up (fun _ => none) 0 (some q1)) 1 (some q2)) 2 (some q3)) 3 (some q4)) 4 (some q5)) 5 (some q6))))))) :: [] ++ (q1, st0 a1) :: stL E a1 ++ (q2, st0 a2) :: stL E a2 ++ (q3, st0 a3) :: stL E a3 ++ (q4, st0 a4) :: stL E a4 ++ (q5, st0 a5) :: stL E a5 ++ (q6, st0 a6) :: stL E a6) inlX3 rfl (by decide) gw_95 rfl rfl dX3_init_25 ?_
  refine y_iload X 0 dX3_init_28 rfl rfl ?_
  refine y_new X (ci := 9) (fs := [.null, .null, .null]) inlX9 tyX9 tyX9_ok gw_94 gw_11 gw_12 rfl (fun j hj => by rcases (show j = 0 ∨ j = 1 ∨ j = 2 by omega) with rfl | rfl | rfl <;> rfl) (Nat.le_of_ble_eq_true rfl) (Nat.le_of_ble_eq_true rfl) dX3_init_29 (fun q7 => ?_)
  refine y_dup X dX3_init_32 rfl ?_
  refine y_callN X (k := 194) (n := 1092) (As := []) (st := [.ref q7, .int 6, .ref A0]) (k_X9_init E) (h0 := h0) (c := .inr (3, [.ref A0, .int 0, .int 0])) (rest := (A0, .inl (zcS E, 9, .inr (.inr (.inr (.inr (va_up (va_up (va_up (va_up (va_up (va_up (fun _ => none) 0 (some q1)) 1 (some q2)) 2 (some q3)) 3 (some q4)) 4 (some q5)) 5 (some q6))))))) :: [] ++ (q1, st0 a1) :: stL E a1 ++ (q2, st0 a2) :: stL E a2 ++ (q3, st0 a3) :: stL E a3 ++ (q4, st0 a4) :: stL E a4 ++ (q5, st0 a5) :: stL E a5 ++ (q6, st0 a6) :: stL E a6) (q := q7) (List.mem_of_getElem? (i := 4) rfl) gw_36 ⟨gw_12, gw_37⟩ (by decide +kernel) ⟨Nat.le_of_ble_eq_true rfl, Nat.le_of_ble_eq_true rfl⟩ rfl rfl (Nat.le_of_ble_eq_true rfl) dX3_init_33 (Nat.le_of_ble_eq_true rfl) (Nat.le_of_ble_eq_true rfl) rfl (fun c1 new hR => ?_)
  obtain ⟨a7, rfl, rfl⟩ := hR
  refine y_aast X (j := 6) (v := q7) (f := (va_up (va_up (va_up (va_up (va_up (va_up (fun _ => none) 0 (some q1)) 1 (some q2)) 2 (some q3)) 3 (some q4)) 4 (some q5)) 5 (some q6))) (rest := [] ++ (q1, st0 a1) :: stL E a1 ++ (q2, st0 a2) :: stL E a2 ++ (q3, st0 a3) :: stL E a3 ++ (q4, st0 a4) :: stL E a4 ++ (q5, st0 a5) :: stL E a5 ++ (q6, st0 a6) :: stL E a6 ++ (q7, st0 a7) :: stL E a7) rfl (by decide) ⟨_, List.mem_append_right _ List.mem_cons_self⟩ dX3_init_36 ?_
  refine y_iinc X (v := 7) (lv1 := [(1, .int 7), (0, .ref h0)]) 0 dX3_init_37 rfl (by decide) (by decide) rfl ?_
  refine y_goto X (tgt := 15) dX3_init_40 (by decide) ?_
  refine y_iload X 0 dX3_init_15 rfl rfl ?_
  refine y_aload X 1 dX3_init_16 rfl rfl ?_
  refine y_getr X (ci := 3) (fs := [.ref A0, .int 0, .int 0]) (v := A0) 0 (rest := (A0, .inl (zcS E, 9, .inr (.inr (.inr (.inr (va_up (va_up (va_up (va_up (va_up (va_up (va_up (fun _ => none) 0 (some q1)) 1 (some q2)) 2 (some q3)) 3 (some q4)) 4 (some q5)) 5 (some q6)) 6 (some q7))))))) :: [] ++ (q1, st0 a1) :: stL E a1 ++ (q2, st0 a2) :: stL E a2 ++ (q3, st0 a3) :: stL E a3 ++ (q4, st0 a4) :: stL E a4 ++ (q5, st0 a5) :: stL E a5 ++ (q6, st0 a6) :: stL E a6 ++ (q7, st0 a7) :: stL E a7) inlX3 rfl (by decide) gw_95 rfl rfl dX3_init_17 ?_
  refine y_alen X (rest := [] ++ (q1, st0 a1) :: stL E a1 ++ (q2, st0 a2) :: stL E a2 ++ (q3, st0 a3) :: stL E a3 ++ (q4, st0 a4) :: stL E a4 ++ (q5, st0 a5) :: stL E a5 ++ (q6, st0 a6) :: stL E a6 ++ (q7, st0 a7) :: stL E a7) dX3_init_20 ?_
  refine y_iclt X (tgt := 43) dX3_init_21 (by decide) ?_ (by decide)
  refine y_aload X 1 dX3_init_24 rfl rfl ?_
  refine y_getr X (ci := 3) (fs := [.ref A0, .int 0, .int 0]) (v := A0) 0 (rest := (A0, .inl (zcS E, 9, .inr (.inr (.inr (.inr (va_up (va_up (va_up (va_up (va_up (va_up (va_up (fun _ => none) 0 (some q1)) 1 (some q2)) 2 (some q3)) 3 (some q4)) 4 (some q5)) 5 (some q6)) 6 (some q7))))))) :: [] ++ (q1, st0 a1) :: stL E a1 ++ (q2, st0 a2) :: stL E a2 ++ (q3, st0 a3) :: stL E a3 ++ (q4, st0 a4) :: stL E a4 ++ (q5, st0 a5) :: stL E a5 ++ (q6, st0 a6) :: stL E a6 ++ (q7, st0 a7) :: stL E a7) inlX3 rfl (by decide) gw_95 rfl rfl dX3_init_25 ?_
  refine y_iload X 0 dX3_init_28 rfl rfl ?_
  refine y_new X (ci := 9) (fs := [.null, .null, .null]) inlX9 tyX9 tyX9_ok gw_94 gw_11 gw_12 rfl (fun j hj => by rcases (show j = 0 ∨ j = 1 ∨ j = 2 by omega) with rfl | rfl | rfl <;> rfl) (Nat.le_of_ble_eq_true rfl) (Nat.le_of_ble_eq_true rfl) dX3_init_29 (fun q8 => ?_)
  refine y_dup X dX3_init_32 rfl ?_
  refine y_callN X (k := 226) (n := 1272) (As := []) (st := [.ref q8, .int 7, .ref A0]) (k_X9_init E) (h0 := h0) (c := .inr (3, [.ref A0, .int 0, .int 0])) (rest := (A0, .inl (zcS E, 9, .inr (.inr (.inr (.inr (va_up (va_up (va_up (va_up (va_up (va_up (va_up (fun _ => none) 0 (some q1)) 1 (some q2)) 2 (some q3)) 3 (some q4)) 4 (some q5)) 5 (some q6)) 6 (some q7))))))) :: [] ++ (q1, st0 a1) :: stL E a1 ++ (q2, st0 a2) :: stL E a2 ++ (q3, st0 a3) :: stL E a3 ++ (q4, st0 a4) :: stL E a4 ++ (q5, st0 a5) :: stL E a5 ++ (q6, st0 a6) :: stL E a6 ++ (q7, st0 a7) :: stL E a7) (q := q8) (List.mem_of_getElem? (i := 4) rfl) gw_36 ⟨gw_12, gw_37⟩ (by decide +kernel) ⟨Nat.le_of_ble_eq_true rfl, Nat.le_of_ble_eq_true rfl⟩ rfl rfl (Nat.le_of_ble_eq_true rfl) dX3_init_33 (Nat.le_of_ble_eq_true rfl) (Nat.le_of_ble_eq_true rfl) rfl (fun c1 new hR => ?_)
  obtain ⟨a8, rfl, rfl⟩ := hR
  refine y_aast X (j := 7) (v := q8) (f := (va_up (va_up (va_up (va_up (va_up (va_up (va_up (fun _ => none) 0 (some q1)) 1 (some q2)) 2 (some q3)) 3 (some q4)) 4 (some q5)) 5 (some q6)) 6 (some q7))) (rest := [] ++ (q1, st0 a1) :: stL E a1 ++ (q2, st0 a2) :: stL E a2 ++ (q3, st0 a3) :: stL E a3 ++ (q4, st0 a4) :: stL E a4 ++ (q5, st0 a5) :: stL E a5 ++ (q6, st0 a6) :: stL E a6 ++ (q7, st0 a7) :: stL E a7 ++ (q8, st0 a8) :: stL E a8) rfl (by decide) ⟨_, List.mem_append_right _ List.mem_cons_self⟩ dX3_init_36 ?_
  refine y_iinc X (v := 8) (lv1 := [(1, .int 8), (0, .ref h0)]) 0 dX3_init_37 rfl (by decide) (by decide) rfl ?_
  refine y_goto X (tgt := 15) dX3_init_40 (by decide) ?_
  refine y_iload X 0 dX3_init_15 rfl rfl ?_
  refine y_aload X 1 dX3_init_16 rfl rfl ?_
  refine y_getr X (ci := 3) (fs := [.ref A0, .int 0, .int 0]) (v := A0) 0 (rest := (A0, .inl (zcS E, 9, .inr (.inr (.inr (.inr (va_up (va_up (va_up (va_up (va_up (va_up (va_up (va_up (fun _ => none) 0 (some q1)) 1 (some q2)) 2 (some q3)) 3 (some q4)) 4 (some q5)) 5 (some q6)) 6 (some q7)) 7 (some q8))))))) :: [] ++ (q1, st0 a1) :: stL E a1 ++ (q2, st0 a2) :: stL E a2 ++ (q3, st0 a3) :: stL E a3 ++ (q4, st0 a4) :: stL E a4 ++ (q5, st0 a5) :: stL E a5 ++ (q6, st0 a6) :: stL E a6 ++ (q7, st0 a7) :: stL E a7 ++ (q8, st0 a8) :: stL E a8) inlX3 rfl (by decide) gw_95 rfl rfl dX3_init_17 ?_
  refine y_alen X (rest := [] ++ (q1, st0 a1) :: stL E a1 ++ (q2, st0 a2) :: stL E a2 ++ (q3, st0 a3) :: stL E a3 ++ (q4, st0 a4) :: stL E a4 ++ (q5, st0 a5) :: stL E a5 ++ (q6, st0 a6) :: stL E a6 ++ (q7, st0 a7) :: stL E a7 ++ (q8, st0 a8) :: stL E a8) dX3_init_20 ?_
  refine y_iclt X (tgt := 43) dX3_init_21 (by decide) ?_ (by decide)
  refine y_aload X 1 dX3_init_24 rfl rfl ?_
  refine y_getr X (ci := 3) (fs := [.ref A0, .int 0, .int 0]) (v := A0) 0 (rest := (A0, .inl (zcS E, 9, .inr (.inr (.inr (.inr (va_up (va_up (va_up (va_up (va_up (va_up (va_up (va_up (fun _ => none) 0 (some q1)) 1 (some q2)) 2 (some q3)) 3 (some q4)) 4 (some q5)) 5 (some q6)) 6 (some q7)) 7 (some q8))))))) :: [] ++ (q1, st0 a1) :: stL E a1 ++ (q2, st0 a2) :: stL E a2 ++ (q3, st0 a3) :: stL E a3 ++ (q4, st0 a4) :: stL E a4 ++ (q5, st0 a5) :: stL E a5 ++ (q6, st0 a6) :: stL E a6 ++ (q7, st0 a7) :: stL E a7 ++ (q8, st0 a8) :: stL E a8) inlX3 rfl (by decide) gw_95 rfl rfl dX3_init_25 ?_
  refine y_iload X 0 dX3_init_28 rfl rfl ?_
  refine y_new X (ci := 9) (fs := [.null, .null, .null]) inlX9 tyX9 tyX9_ok gw_94 gw_11 gw_12 rfl (fun j hj => by rcases (show j = 0 ∨ j = 1 ∨ j = 2 by omega) with rfl | rfl | rfl <;> rfl) (Nat.le_of_ble_eq_true rfl) (Nat.le_of_ble_eq_true rfl) dX3_init_29 (fun q9 => ?_)
  refine y_dup X dX3_init_32 rfl ?_
  refine y_callN X (k := 258) (n := 1452) (As := []) (st := [.ref q9, .int 8, .ref A0]) (k_X9_init E) (h0 := h0) (c := .inr (3, [.ref A0, .int 0, .int 0])) (rest := (A0, .inl (zcS E, 9, .inr (.inr (.inr (.inr (va_up (va_up (va_up (va_up (va_up (va_up (va_up (va_up (fun _ => none) 0 (some q1)) 1 (some q2)) 2 (some q3)) 3 (some q4)) 4 (some q5)) 5 (some q6)) 6 (some q7)) 7 (some q8))))))) :: [] ++ (q1, st0 a1) :: stL E a1 ++ (q2, st0 a2) :: stL E a2 ++ (q3, st0 a3) :: stL E a3 ++ (q4, st0 a4) :: stL E a4 ++ (q5, st0 a5) :: stL E a5 ++ (q6, st0 a6) :: stL E a6 ++ (q7, st0 a7) :: stL E a7 ++ (q8, st0 a8) :: stL E a8) (q := q9) (List.mem_of_getElem? (i := 4) rfl) gw_36 ⟨gw_12, gw_37⟩ (by decide +kernel) ⟨Nat.le_of_ble_eq_true rfl, Nat.le_of_ble_eq_true rfl⟩ rfl rfl (Nat.le_of_ble_eq_true rfl) dX3_init_33 (Nat.le_of_ble_eq_true rfl) (Nat.le_of_ble_eq_true rfl) rfl (fun c1 new hR => ?_)
  obtain ⟨a9, rfl, rfl⟩ := hR
  refine y_aast X (j := 8) (v := q9) (f := (va_up (va_up (va_up (va_up (va_up (va_up (va_up (va_up (fun _ => none) 0 (some q1)) 1 (some q2)) 2 (some q3)) 3 (some q4)) 4 (some q5)) 5 (some q6)) 6 (some q7)) 7 (some q8))) (rest := [] ++ (q1, st0 a1) :: stL E a1 ++ (q2, st0 a2) :: stL E a2 ++ (q3, st0 a3) :: stL E a3 ++ (q4, st0 a4) :: stL E a4 ++ (q5, st0 a5) :: stL E a5 ++ (q6, st0 a6) :: stL E a6 ++ (q7, st0 a7) :: stL E a7 ++ (q8, st0 a8) :: stL E a8 ++ (q9, st0 a9) :: stL E a9) rfl (by decide) ⟨_, List.mem_append_right _ List.mem_cons_self⟩ dX3_init_36 ?_
  refine y_iinc X (v := 9) (lv1 := [(1, .int 9), (0, .ref h0)]) 0 dX3_init_37 rfl (by decide) (by decide) rfl ?_
  refine y_goto X (tgt := 15) dX3_init_40 (by decide) ?_
  refine y_iload X 0 dX3_init_15 rfl rfl ?_
  refine y_aload X 1 dX3_init_16 rfl rfl ?_
  refine y_getr X (ci := 3) (fs := [.ref A0, .int 0, .int 0]) (v := A0) 0 (rest := (A0, .inl (zcS E, 9, .inr (.inr (.inr (.inr (va_up (va_up (va_up (va_up (va_up (va_up (va_up (va_up (va_up (fun _ => none) 0 (some q1)) 1 (some q2)) 2 (some q3)) 3 (some q4)) 4 (some q5)) 5 (some q6)) 6 (some q7)) 7 (some q8)) 8 (some q9))))))) :: [] ++ (q1, st0 a1) :: stL E a1 ++ (q2, st0 a2) :: stL E a2 ++ (q3, st0 a3) :: stL E a3 ++ (q4, st0 a4) :: stL E a4 ++ (q5, st0 a5) :: stL E a5 ++ (q6, st0 a6) :: stL E a6 ++ (q7, st0 a7) :: stL E a7 ++ (q8, st0 a8) :: stL E a8 ++ (q9, st0 a9) :: stL E a9) inlX3 rfl (by decide) gw_95 rfl rfl dX3_init_17 ?_
  refine y_alen X (rest := [] ++ (q1, st0 a1) :: stL E a1 ++ (q2, st0 a2) :: stL E a2 ++ (q3, st0 a3) :: stL E a3 ++ (q4, st0 a4) :: stL E a4 ++ (q5, st0 a5) :: stL E a5 ++ (q6, st0 a6) :: stL E a6 ++ (q7, st0 a7) :: stL E a7 ++ (q8, st0 a8) :: stL E a8 ++ (q9, st0 a9) :: stL E a9) dX3_init_20 ?_
  refine y_icge X (tgt := 43) dX3_init_21 (by decide) (by decide) ?_
  exact y_ret X Y dX3_init_43 ⟨A0, (fun k r => if r = 0 then (match k with | 0 => q1 | 1 => q2 | 2 => q3 | 3 => q4 | 4 => q5 | 5 => q6 | 6 => q7 | 7 => q8 | 8 => q9 | _ => 0) else (match k with | 0 => a1 r | 1 => a2 r | 2 => a3 r | 3 => a4 r | 4 => a5 r | 5 => a6 r | 6 => a7 r | 7 => a8 r | 8 => a9 r | _ => 0)), rfl, rfl⟩

def kr_X10_init : Room := { frames := 5, cells := 392, slots := 2378, locals := 103 }
set_option maxRecDepth 100000 in
set_option maxHeartbeats 4000000 in
theorem k_X10_init (E : ZE)  : Ct E yX10_init cX10_init 1 kr_X10_init [] (.inr (10, [.null, .null, .int 0, .null, .null, .null, .null, .null, .null])) (fun _ c1 new => ∃ a : Nat → Nat → Nat, c1 = .inr (10, [.ref (a 9 0), .ref (a 10 0), .int 0, .ref (a 18 0), .ref (a 11 0), .ref (a 12 0), .ref (a 13 0), .ref (a 15 0), .ref (a 16 0)]) ∧ new = mnL E a) 392 2378 := by
  refine y_met (own := RX10) (lv := fun h0 => [(0, .ref h0)]) (by decide) rfl (Nat.le_of_ble_eq_true rfl) (fun _ => rfl) (fun ws h0 gg X Y => ?_)
  refine y_aload X 0 dX10_init_0 rfl rfl ?_
  refine y_obj X gw_7 dX10_init_1 (Nat.le_of_ble_eq_true rfl) (Nat.le_of_ble_eq_true rfl) ?_
  refine y_aload X 0 dX10_init_4 rfl rfl ?_
  refine y_new X (ci := 9) (fs := [.null, .null, .null]) inlX9 tyX9 tyX9_ok gw_10 gw_11 gw_12 rfl (fun j hj => by rcases (show j = 0 ∨ j = 1 ∨ j = 2 by omega) with rfl | rfl | rfl <;> rfl) (Nat.le_of_ble_eq_true rfl) (Nat.le_of_ble_eq_true rfl) dX10_init_5 (fun q1 => ?_)
  refine y_dup X dX10_init_8 rfl ?_
  refine y_callN X (k := 1) (n := 3) (As := []) (st := [.ref q1, .ref h0]) (k_X9_init E) (h0 := h0) (c := .inr (10, [.null, .null, .int 0, .null, .null, .null, .null, .null, .null])) (rest := []) (q := q1) (List.mem_of_getElem? (i := 0) rfl) gw_36 ⟨gw_12, gw_37⟩ (by decide +kernel) ⟨Nat.le_of_ble_eq_true rfl, Nat.le_of_ble_eq_true rfl⟩ rfl rfl (Nat.le_of_ble_eq_true rfl) dX10_init_9 (Nat.le_of_ble_eq_true rfl) (Nat.le_of_ble_eq_true rfl) rfl (fun c1 new hR => ?_)
  obtain ⟨a2, rfl, rfl⟩ := hR
  refine y_putF X (ci := 10) (v := .ref q1) (ty := .object "ChairLeague$State") (fs := [.null, .null, .int 0, .null, .null, .null, .null, .null, .null]) (rest := [] ++ (q1, st0 a2) :: stL E a2) inlX10 tyX10 tyX10_ok nmX10 rfl 0 (by decide) gw_13 rfl rfl rfl (by decide +kernel) rfl rfl (Nat.le_of_ble_eq_true rfl) dX10_init_12 ?_
  refine y_fs (fs' := [.ref q1, .null, .int 0, .null, .null, .null, .null, .null, .null]) rfl ?_
  refine y_aload X 0 dX10_init_15 rfl rfl ?_
  refine y_new X (ci := 9) (fs := [.null, .null, .null]) inlX9 tyX9 tyX9_ok gw_10 gw_11 gw_12 rfl (fun j hj => by rcases (show j = 0 ∨ j = 1 ∨ j = 2 by omega) with rfl | rfl | rfl <;> rfl) (Nat.le_of_ble_eq_true rfl) (Nat.le_of_ble_eq_true rfl) dX10_init_16 (fun q3 => ?_)
  refine y_dup X dX10_init_19 rfl ?_
  refine y_callN X (k := 33) (n := 183) (As := []) (st := [.ref q3, .ref h0]) (k_X9_init E) (h0 := h0) (c := .inr (10, [.ref q1, .null, .int 0, .null, .null, .null, .null, .null, .null])) (rest := [] ++ (q1, st0 a2) :: stL E a2) (q := q3) (List.mem_of_getElem? (i := 0) rfl) gw_36 ⟨gw_12, gw_37⟩ (by decide +kernel) ⟨Nat.le_of_ble_eq_true rfl, Nat.le_of_ble_eq_true rfl⟩ rfl rfl (Nat.le_of_ble_eq_true rfl) dX10_init_20 (Nat.le_of_ble_eq_true rfl) (Nat.le_of_ble_eq_true rfl) rfl (fun c1 new hR => ?_)
  obtain ⟨a4, rfl, rfl⟩ := hR
  refine y_putF X (ci := 10) (v := .ref q3) (ty := .object "ChairLeague$State") (fs := [.ref q1, .null, .int 0, .null, .null, .null, .null, .null, .null]) (rest := [] ++ (q1, st0 a2) :: stL E a2 ++ (q3, st0 a4) :: stL E a4) inlX10 tyX10 tyX10_ok nmX10 rfl 1 (by decide) gw_14 rfl rfl rfl (by decide +kernel) rfl rfl (Nat.le_of_ble_eq_true rfl) dX10_init_23 ?_
  refine y_fs (fs' := [.ref q1, .ref q3, .int 0, .null, .null, .null, .null, .null, .null]) rfl ?_
  refine y_aload X 0 dX10_init_26 rfl rfl ?_
  refine y_new X (ci := 3) (fs := [.null, .int 0, .int 0]) inlX3 tyX3 tyX3_ok gw_15 gw_16 gw_17 rfl (fun j hj => by rcases (show j = 0 ∨ j = 1 ∨ j = 2 by omega) with rfl | rfl | rfl <;> rfl) (Nat.le_of_ble_eq_true rfl) (Nat.le_of_ble_eq_true rfl) dX10_init_27 (fun q5 => ?_)
  refine y_dup X dX10_init_30 rfl ?_
  refine y_callI X (k := 65) (n := 363) (As := []) (st := [.ref q5, .ref h0]) (k_X3_init E) (h0 := h0) (c := .inr (10, [.ref q1, .ref q3, .int 0, .null, .null, .null, .null, .null, .null])) (rest := [] ++ (q1, st0 a2) :: stL E a2 ++ (q3, st0 a4) :: stL E a4) (q := q5) gw_90 gw_91 ⟨gw_17, gw_92⟩ (by decide +kernel) ⟨Nat.le_of_ble_eq_true rfl, Nat.le_of_ble_eq_true rfl⟩ rfl rfl (Nat.le_of_ble_eq_true rfl) dX10_init_31 (Nat.le_of_ble_eq_true rfl) (Nat.le_of_ble_eq_true rfl) rfl (fun c1 new hR => ?_)
  obtain ⟨A6, a6, rfl, rfl⟩ := hR
  refine y_putF X (ci := 10) (v := .ref q5) (ty := .object "ChairLeague$History") (fs := [.ref q1, .ref q3, .int 0, .null, .null, .null, .null, .null, .null]) (rest := [] ++ (q1, st0 a2) :: stL E a2 ++ (q3, st0 a4) :: stL E a4 ++ (q5, .inr (3, [.ref A6, .int 0, .int 0])) :: (A6, .inl (zcS E, 9, .inr (.inr (.inr (.inr (hiG a6 9)))))) :: hiS E a6 9) inlX10 tyX10 tyX10_ok nmX10 rfl 3 (by decide) gw_18 rfl rfl rfl (by decide +kernel) rfl rfl (Nat.le_of_ble_eq_true rfl) dX10_init_34 ?_
  refine y_fs (fs' := [.ref q1, .ref q3, .int 0, .ref q5, .null, .null, .null, .null, .null]) rfl ?_
  refine y_aload X 0 dX10_init_37 rfl rfl ?_
  refine y_new X (ci := 0) (fs := [.null, .null, .null, .null]) inlX0 tyX0 tyX0_ok gw_19 gw_20 gw_21 rfl (fun j hj => by rcases (show j = 0 ∨ j = 1 ∨ j = 2 ∨ j = 3 by omega) with rfl | rfl | rfl | rfl <;> rfl) (Nat.le_of_ble_eq_true rfl) (Nat.le_of_ble_eq_true rfl) dX10_init_38 (fun q7 => ?_)
  refine y_dup X dX10_init_41 rfl ?_
  refine y_callN X (k := 355) (n := 1996) (As := []) (st := [.ref q7, .ref h0]) (k_X0_init E) (h0 := h0) (c := .inr (10, [.ref q1, .ref q3, .int 0, .ref q5, .null, .null, .null, .null, .null])) (rest := [] ++ (q1, st0 a2) :: stL E a2 ++ (q3, st0 a4) :: stL E a4 ++ (q5, .inr (3, [.ref A6, .int 0, .int 0])) :: (A6, .inl (zcS E, 9, .inr (.inr (.inr (.inr (hiG a6 9)))))) :: hiS E a6 9) (q := q7) (List.mem_of_getElem? (i := 5) rfl) gw_96 ⟨gw_21, gw_97⟩ (by decide +kernel) ⟨Nat.le_of_ble_eq_true rfl, Nat.le_of_ble_eq_true rfl⟩ rfl rfl (Nat.le_of_ble_eq_true rfl) dX10_init_42 (Nat.le_of_ble_eq_true rfl) (Nat.le_of_ble_eq_true rfl) rfl (fun c1 new hR => ?_)
  obtain ⟨a8, rfl, rfl⟩ := hR
  refine y_putF X (ci := 10) (v := .ref q7) (ty := .object "ChairLeague$Asking") (fs := [.ref q1, .ref q3, .int 0, .ref q5, .null, .null, .null, .null, .null]) (rest := [] ++ (q1, st0 a2) :: stL E a2 ++ (q3, st0 a4) :: stL E a4 ++ (q5, .inr (3, [.ref A6, .int 0, .int 0])) :: (A6, .inl (zcS E, 9, .inr (.inr (.inr (.inr (hiG a6 9)))))) :: hiS E a6 9 ++ (q7, as0 a8) :: asL E a8) inlX10 tyX10 tyX10_ok nmX10 rfl 4 (by decide) gw_22 rfl rfl rfl (by decide +kernel) rfl rfl (Nat.le_of_ble_eq_true rfl) dX10_init_45 ?_
  refine y_fs (fs' := [.ref q1, .ref q3, .int 0, .ref q5, .ref q7, .null, .null, .null, .null]) rfl ?_
  refine y_aload X 0 dX10_init_48 rfl rfl ?_
  refine y_new X (ci := 0) (fs := [.null, .null, .null, .null]) inlX0 tyX0 tyX0_ok gw_19 gw_20 gw_21 rfl (fun j hj => by rcases (show j = 0 ∨ j = 1 ∨ j = 2 ∨ j = 3 by omega) with rfl | rfl | rfl | rfl <;> rfl) (Nat.le_of_ble_eq_true rfl) (Nat.le_of_ble_eq_true rfl) dX10_init_49 (fun q9 => ?_)
  refine y_dup X dX10_init_52 rfl ?_
  refine y_callN X (k := 364) (n := 2044) (As := []) (st := [.ref q9, .ref h0]) (k_X0_init E) (h0 := h0) (c := .inr (10, [.ref q1, .ref q3, .int 0, .ref q5, .ref q7, .null, .null, .null, .null])) (rest := [] ++ (q1, st0 a2) :: stL E a2 ++ (q3, st0 a4) :: stL E a4 ++ (q5, .inr (3, [.ref A6, .int 0, .int 0])) :: (A6, .inl (zcS E, 9, .inr (.inr (.inr (.inr (hiG a6 9)))))) :: hiS E a6 9 ++ (q7, as0 a8) :: asL E a8) (q := q9) (List.mem_of_getElem? (i := 5) rfl) gw_96 ⟨gw_21, gw_97⟩ (by decide +kernel) ⟨Nat.le_of_ble_eq_true rfl, Nat.le_of_ble_eq_true rfl⟩ rfl rfl (Nat.le_of_ble_eq_true rfl) dX10_init_53 (Nat.le_of_ble_eq_true rfl) (Nat.le_of_ble_eq_true rfl) rfl (fun c1 new hR => ?_)
  obtain ⟨a10, rfl, rfl⟩ := hR
  refine y_putF X (ci := 10) (v := .ref q9) (ty := .object "ChairLeague$Asking") (fs := [.ref q1, .ref q3, .int 0, .ref q5, .ref q7, .null, .null, .null, .null]) (rest := [] ++ (q1, st0 a2) :: stL E a2 ++ (q3, st0 a4) :: stL E a4 ++ (q5, .inr (3, [.ref A6, .int 0, .int 0])) :: (A6, .inl (zcS E, 9, .inr (.inr (.inr (.inr (hiG a6 9)))))) :: hiS E a6 9 ++ (q7, as0 a8) :: asL E a8 ++ (q9, as0 a10) :: asL E a10) inlX10 tyX10 tyX10_ok nmX10 rfl 5 (by decide) gw_23 rfl rfl rfl (by decide +kernel) rfl rfl (Nat.le_of_ble_eq_true rfl) dX10_init_56 ?_
  refine y_fs (fs' := [.ref q1, .ref q3, .int 0, .ref q5, .ref q7, .ref q9, .null, .null, .null]) rfl ?_
  refine y_aload X 0 dX10_init_59 rfl rfl ?_
  refine y_new X (ci := 5) (fs := [.null, .null, .null, .null, .null, .int 0, .int 0]) inlX5 tyX5 tyX5_ok gw_24 gw_25 gw_26 rfl (fun j hj => by rcases (show j = 0 ∨ j = 1 ∨ j = 2 ∨ j = 3 ∨ j = 4 ∨ j = 5 ∨ j = 6 by omega) with rfl | rfl | rfl | rfl | rfl | rfl | rfl <;> rfl) (Nat.le_of_ble_eq_true rfl) (Nat.le_of_ble_eq_true rfl) dX10_init_60 (fun q11 => ?_)
  refine y_dup X dX10_init_63 rfl ?_
  refine y_callN X (k := 373) (n := 2095) (As := []) (st := [.ref q11, .ref h0]) (k_X5_init E) (h0 := h0) (c := .inr (10, [.ref q1, .ref q3, .int 0, .ref q5, .ref q7, .ref q9, .null, .null, .null])) (rest := [] ++ (q1, st0 a2) :: stL E a2 ++ (q3, st0 a4) :: stL E a4 ++ (q5, .inr (3, [.ref A6, .int 0, .int 0])) :: (A6, .inl (zcS E, 9, .inr (.inr (.inr (.inr (hiG a6 9)))))) :: hiS E a6 9 ++ (q7, as0 a8) :: asL E a8 ++ (q9, as0 a10) :: asL E a10) (q := q11) (List.mem_of_getElem? (i := 6) rfl) gw_105 ⟨gw_26, gw_106⟩ (by decide +kernel) ⟨Nat.le_of_ble_eq_true rfl, Nat.le_of_ble_eq_true rfl⟩ rfl rfl (Nat.le_of_ble_eq_true rfl) dX10_init_64 (Nat.le_of_ble_eq_true rfl) (Nat.le_of_ble_eq_true rfl) rfl (fun c1 new hR => ?_)
  obtain ⟨a12, rfl, rfl⟩ := hR
  refine y_putF X (ci := 10) (v := .ref q11) (ty := .object "ChairLeague$Orders") (fs := [.ref q1, .ref q3, .int 0, .ref q5, .ref q7, .ref q9, .null, .null, .null]) (rest := [] ++ (q1, st0 a2) :: stL E a2 ++ (q3, st0 a4) :: stL E a4 ++ (q5, .inr (3, [.ref A6, .int 0, .int 0])) :: (A6, .inl (zcS E, 9, .inr (.inr (.inr (.inr (hiG a6 9)))))) :: hiS E a6 9 ++ (q7, as0 a8) :: asL E a8 ++ (q9, as0 a10) :: asL E a10 ++ (q11, or0 a12) :: orL E a12) inlX10 tyX10 tyX10_ok nmX10 rfl 6 (by decide) gw_27 rfl rfl rfl (by decide +kernel) rfl rfl (Nat.le_of_ble_eq_true rfl) dX10_init_67 ?_
  refine y_fs (fs' := [.ref q1, .ref q3, .int 0, .ref q5, .ref q7, .ref q9, .ref q11, .null, .null]) rfl ?_
  refine y_aload X 0 dX10_init_70 rfl rfl ?_
  refine y_new X (ci := 8) (fs := [.int 0, .null, .int 0]) inlX8 tyX8 tyX8_ok gw_28 gw_29 gw_30 rfl (fun j hj => by rcases (show j = 0 ∨ j = 1 ∨ j = 2 by omega) with rfl | rfl | rfl <;> rfl) (Nat.le_of_ble_eq_true rfl) (Nat.le_of_ble_eq_true rfl) dX10_init_71 (fun q13 => ?_)
  refine y_dup X dX10_init_74 rfl ?_
  refine y_bipush X (v := 80) dX10_init_75 (by decide) ?_
  refine y_callI X (k := 385) (n := 2286) (As := [.int 80]) (st := [.ref q13, .ref h0]) (k_X8_init E 80 (by decide)) (h0 := h0) (c := .inr (10, [.ref q1, .ref q3, .int 0, .ref q5, .ref q7, .ref q9, .ref q11, .null, .null])) (rest := [] ++ (q1, st0 a2) :: stL E a2 ++ (q3, st0 a4) :: stL E a4 ++ (q5, .inr (3, [.ref A6, .int 0, .int 0])) :: (A6, .inl (zcS E, 9, .inr (.inr (.inr (.inr (hiG a6 9)))))) :: hiS E a6 9 ++ (q7, as0 a8) :: asL E a8 ++ (q9, as0 a10) :: asL E a10 ++ (q11, or0 a12) :: orL E a12) (q := q13) gw_124 gw_116 ⟨gw_30, gw_117⟩ (by decide +kernel) ⟨Nat.le_of_ble_eq_true rfl, Nat.le_of_ble_eq_true rfl⟩ rfl rfl (Nat.le_of_ble_eq_true rfl) dX10_init_77 (Nat.le_of_ble_eq_true rfl) (Nat.le_of_ble_eq_true rfl) rfl (fun c1 new hR => ?_)
  obtain ⟨a14, rfl, rfl⟩ := hR
  refine y_putF X (ci := 10) (v := .ref q13) (ty := .object "ChairLeague$Signs") (fs := [.ref q1, .ref q3, .int 0, .ref q5, .ref q7, .ref q9, .ref q11, .null, .null]) (rest := [] ++ (q1, st0 a2) :: stL E a2 ++ (q3, st0 a4) :: stL E a4 ++ (q5, .inr (3, [.ref A6, .int 0, .int 0])) :: (A6, .inl (zcS E, 9, .inr (.inr (.inr (.inr (hiG a6 9)))))) :: hiS E a6 9 ++ (q7, as0 a8) :: asL E a8 ++ (q9, as0 a10) :: asL E a10 ++ (q11, or0 a12) :: orL E a12 ++ (q13, sg0 a14 80) :: sgL E a14 80) inlX10 tyX10 tyX10_ok nmX10 rfl 7 (by decide) gw_31 rfl rfl rfl (by decide +kernel) rfl rfl (Nat.le_of_ble_eq_true rfl) dX10_init_80 ?_
  refine y_fs (fs' := [.ref q1, .ref q3, .int 0, .ref q5, .ref q7, .ref q9, .ref q11, .ref q13, .null]) rfl ?_
  refine y_aload X 0 dX10_init_83 rfl rfl ?_
  refine y_new X (ci := 6) (fs := [.null, .null, .int 0]) inlX6 tyX6 tyX6_ok gw_32 gw_33 gw_34 rfl (fun j hj => by rcases (show j = 0 ∨ j = 1 ∨ j = 2 by omega) with rfl | rfl | rfl <;> rfl) (Nat.le_of_ble_eq_true rfl) (Nat.le_of_ble_eq_true rfl) dX10_init_84 (fun q15 => ?_)
  refine y_dup X dX10_init_87 rfl ?_
  refine y_callN X (k := 388) (n := 2370) (As := []) (st := [.ref q15, .ref h0]) (k_X6_init E) (h0 := h0) (c := .inr (10, [.ref q1, .ref q3, .int 0, .ref q5, .ref q7, .ref q9, .ref q11, .ref q13, .null])) (rest := [] ++ (q1, st0 a2) :: stL E a2 ++ (q3, st0 a4) :: stL E a4 ++ (q5, .inr (3, [.ref A6, .int 0, .int 0])) :: (A6, .inl (zcS E, 9, .inr (.inr (.inr (.inr (hiG a6 9)))))) :: hiS E a6 9 ++ (q7, as0 a8) :: asL E a8 ++ (q9, as0 a10) :: asL E a10 ++ (q11, or0 a12) :: orL E a12 ++ (q13, sg0 a14 80) :: sgL E a14 80) (q := q15) (List.mem_of_getElem? (i := 7) rfl) gw_125 ⟨gw_34, gw_126⟩ (by decide +kernel) ⟨Nat.le_of_ble_eq_true rfl, Nat.le_of_ble_eq_true rfl⟩ rfl rfl (Nat.le_of_ble_eq_true rfl) dX10_init_88 (Nat.le_of_ble_eq_true rfl) (Nat.le_of_ble_eq_true rfl) rfl (fun c1 new hR => ?_)
  obtain ⟨a16, rfl, rfl⟩ := hR
  refine y_putF X (ci := 10) (v := .ref q15) (ty := .object "ChairLeague$Reasons") (fs := [.ref q1, .ref q3, .int 0, .ref q5, .ref q7, .ref q9, .ref q11, .ref q13, .null]) (rest := [] ++ (q1, st0 a2) :: stL E a2 ++ (q3, st0 a4) :: stL E a4 ++ (q5, .inr (3, [.ref A6, .int 0, .int 0])) :: (A6, .inl (zcS E, 9, .inr (.inr (.inr (.inr (hiG a6 9)))))) :: hiS E a6 9 ++ (q7, as0 a8) :: asL E a8 ++ (q9, as0 a10) :: asL E a10 ++ (q11, or0 a12) :: orL E a12 ++ (q13, sg0 a14 80) :: sgL E a14 80 ++ (q15, re0 a16) :: reL E a16) inlX10 tyX10 tyX10_ok nmX10 rfl 8 (by decide) gw_35 rfl rfl rfl (by decide +kernel) rfl rfl (Nat.le_of_ble_eq_true rfl) dX10_init_91 ?_
  refine y_fs (fs' := [.ref q1, .ref q3, .int 0, .ref q5, .ref q7, .ref q9, .ref q11, .ref q13, .ref q15]) rfl ?_
  exact y_ret X Y dX10_init_94 ⟨(fun b => match b with | 9 => (fun r => if r = 0 then q1 else a2 r) | 10 => (fun r => if r = 0 then q3 else a4 r) | 11 => (fun r => if r = 0 then q7 else a8 r) | 12 => (fun r => if r = 0 then q9 else a10 r) | 15 => (fun r => if r = 0 then q13 else a14 r) | 16 => (fun r => if r = 0 then q15 else a16 r) | 18 => (fun r => if r = 0 then q5 else A6) | 13 => (fun r => if r = 0 then q11 else a12 r) | 14 => (fun r => if r = 0 then a12 0 else a12 (r + 10)) | b => a6 b), rfl, rfl⟩
