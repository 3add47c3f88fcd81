/-! ===== the JDK's methods on the law's texts ===== -/
section ZS
variable {g : ZG} {E : ZE} {own : String} {cc : ByteArray} {nL : Nat} {rm : Room} {M : Mem} {lv : List (Nat × Value)} {pc : Nat} {st : List Value}
theorem z_gets (X : Cb g E RJ0 cc nL rm) (hl : Cond.fieldLink RJ0 38 "java/lang/String" "COMPACT_STRINGS" "Z" ∈ wsL_law) (hd : decode cc pc = .ok (.getstatic 38, 3)) (k : Z g E M lv (pc + 3) (.int 1 :: st)) : Z g E M lv pc st := fun H locs ls hW hS hl' =>
  va_gets X.1 X.2.1 X.2.2.2.2.2.2.2.2.1 hS X.2.2.2.1 (X.2.2.2.2.1 _ hl) (fun _ h => h) hd (k H locs ls hW hS hl')
theorem z_getq (X : Cb g E RJ0 cc nL rm) (hl : Cond.fieldLink RJ0 1053 "jdk/internal/util/Preconditions" "SIOOBE_FORMATTER" "Ljava/util/function/BiFunction;" ∈ wsL_law) (hd : decode cc pc = .ok (.getstatic 1053, 3)) (k0 : Z g E M lv (pc + 3) (.null :: st)) (k : ∀ t : Nat, Z g E M lv (pc + 3) (.ref t :: st)) : Z g E M lv pc st := fun H locs ls hW hS hl' => by
  rcases X.2.2.2.2.2.2.2.2.2.2.2 with h | ⟨t, h⟩
  · exact va_gets X.1 X.2.1 h hS X.2.2.2.1 (X.2.2.2.2.1 _ hl) (fun _ h => h) hd (k0 H locs ls hW hS hl')
  · exact va_gets X.1 X.2.1 h hS X.2.2.2.1 (X.2.2.2.2.1 _ hl) (fun _ h => h) hd (k t H locs ls hW hS hl')
theorem z_sval (X : Cb g E RJ0 cc nL rm) {i : Nat} (hi : i < 30) (hl : Cond.fieldLink RJ0 9 "java/lang/String" "value" "[B" ∈ wsL_law) (hd : decode cc pc = .ok (.getfield 9, 3)) (k : Z g E M lv (pc + 3) (.ref (zsV E i) :: st)) : Z g E M lv pc (.ref (zsK E i) :: st) := fun H locs ls hW hS hl' =>
  vk_getf X.1 X.2.1 ((X.2.2.2.2.2.2.2.1 i hi).1 0 (by decide)).2.2.1 hS X.2.2.2.1 (X.2.2.2.2.1 _ hl) (fun _ h => h) hd (k H locs ls hW hS hl')
theorem z_scod (X : Cb g E RJ0 cc nL rm) {i : Nat} (hi : i < 30) (hl : Cond.fieldLink RJ0 15 "java/lang/String" "coder" "B" ∈ wsL_law) (hd : decode cc pc = .ok (.getfield 15, 3)) (k : Z g E M lv (pc + 3) (.int 0 :: st)) : Z g E M lv pc (.ref (zsK E i) :: st) := fun H locs ls hW hS hl' =>
  vk_getf X.1 X.2.1 ((X.2.2.2.2.2.2.2.1 i hi).1 0 (by decide)).2.1 hS X.2.2.2.1 (X.2.2.2.2.1 _ hl) (fun _ h => h) hd (k H locs ls hW hS hl')
theorem z_svln (X : Cb g E own cc nL rm) {i : Nat} (hi : i < 30) (hd : decode cc pc = .ok (.arraylength, 1)) (k : Z g E M lv (pc + 1) (.int (nI (txt i).length) :: st)) : Z g E M lv pc (.ref (zsV E i) :: st) := fun H locs ls hW hS hl' =>
  va_tlen X.1 X.2.1 ((X.2.2.2.2.2.2.2.1 i hi).1 0 (by decide)).2.2.2 hS rfl hd (k H locs ls hW hS hl')
theorem z_sbld (X : Cb g E own cc nL rm) {i j : Nat} {x : Int32} (hi : i < 30) (hx : x = nI j) (hj : j < (txt i).length) (hl : (txt i).length < 100) (hd : decode cc pc = .ok (.baload, 1)) (k : Z g E M lv (pc + 1) (.int ((txt i).getD j 0) :: st)) : Z g E M lv pc (.int x :: .ref (zsV E i) :: st) := fun H locs ls hW hS hl' => by
  subst hx
  exact va_tb X.1 X.2.1 ((X.2.2.2.2.2.2.2.1 i hi).1 0 (by decide)).2.2.2 hS (vp_in_nI hj (by show (txt i).length < 2 ^ 31; omega)) (v := .int ((txt i).getD j 0)) (by rw [nI_clamp (by omega)]; rfl) hd (k H locs ls hW hS hl')
theorem z_callK (X : Cb g E own cc nL rm) {y : MethodName} {C : String} {bytes : ByteArray} {i maxL n index : Nat} {ret : Option FieldType} {rmc : Room} {As rest : List Value} {Post : Option Value → Mem → Prop} (hi : i < 30)
    (K : KV y C bytes maxL ret n) (hM : Mt E y bytes maxL ret rmc (.ref (zsK E i) :: As) M Post) (hC : C = "java/lang/String") (hl : Cond.methodLink own index y ∈ wsL_law)
    (hR : (rmc.cells = 0 ∧ rmc.slots = 0) ∧ rmc.frames + 1 ≤ rm.frames ∧ 8 + (maxL + 11) + rmc.locals ≤ rm.locals) (hn : As.length = n) (hs : As.reverse ++ .ref (zsK E i) :: rest = st) (hw : (rest.map fun v => v.category).sum ≤ 8) (hd : decode cc pc = .ok (.invokevirtual index, 3))
    (kk : ∀ (r : Option Value) (M' : Mem), Post r M' → Z g E M' lv (pc + 3) (r.toList ++ rest)) : Z g E M lv pc st := by
  intro H locs ls hW hS hl'
  obtain ⟨⟨k1, k2, k3, k4⟩, k5⟩ := K
  have ht := X.2.2.2.2.1
  have hrR : gR g = rm := X.2.2.2.2.2.2.1
  subst hs
  have hT : GoodIn wsL_law (wsV own index C y (.code y bytes maxL ret :: wsL_law)) := fun w hw => by
    rcases List.mem_append.mp hw with h | h
    · refine ⟨?_, (wsL_good w ?_).2⟩ <;>
      · rcases List.mem_cons.mp h with rfl | h
        · exact hl
        · rcases List.mem_cons.mp h with rfl | h
          · exact k1
          · rcases List.mem_cons.mp h with rfl | h
            · exact k2
            · rcases List.mem_cons.mp h with rfl | h
              · exact k3
              · exact absurd h List.not_mem_nil
    · exact wsL_app k4 w h
  have hcell : ∃ cellB : Cell, H[zsK E i]? = some cellB ∧ cellB.vm.isStatics = false ∧ (gs g).vm.findClass C = some cellB.cls := by
    rw [hC]
    exact vk_recv (i := 0) (X.2.2.2.2.2.2.2.1 i hi) (by decide) hS
  refine W_of_run (va_runV ⟨X.1, X.2.1, X.2.2.1, X.2.2.2.1, ht⟩ hM (cwV n ht hT rfl hR.1.1 hR.1.2 k5 ⟨by rw [hrR]; exact hR.2.1, by rw [hrR]; exact hR.2.2⟩) ⟨zPre_blind E M _, hcell, fun U hU hWm => ⟨rfl, zPre_of hW hS X.2.2.2.2.2.1 X.2.2.2.2.2.2.2 hU hWm⟩⟩ rfl hn (by show ls.size = nL; rw [hl'.1]; exact X.2.2.1) rfl (lv_room hw) hd ⟨Nat.zero_le _, Nat.zero_le _⟩) hS (fun r M' H1 locs1 hp hW1 hS1 => kk r M' hp H1 locs1 ls hW1 hS1 hl')
theorem x_callK {kc kn : Nat} {xs : va_W} (X : Cx g E own cc nL rm) (hkc : kc ≤ rm.cells ∧ kn ≤ rm.slots) {y : MethodName} {C : String} {bytes : ByteArray} {i maxL n index : Nat} {ret : Option FieldType} {rmc : Room} {As rest : List Value} {Post : Option Value → Mem → Prop} (hi : i < 30)
    (K : KV y C bytes maxL ret n) (hM : Mt (cutX E xs) y bytes maxL ret rmc (.ref (zsK E i) :: As) M Post) (hC : C = "java/lang/String") (hl : Cond.methodLink own index y ∈ wsL_law)
    (hR : (rmc.cells = 0 ∧ rmc.slots = 0) ∧ rmc.frames + 1 ≤ rm.frames ∧ 8 + (maxL + 11) + rmc.locals ≤ rm.locals) (hn : As.length = n) (hs : As.reverse ++ .ref (zsK E i) :: rest = st) (hw : (rest.map fun v => v.category).sum ≤ 8) (hd : decode cc pc = .ok (.invokevirtual index, 3))
    (kk : ∀ (r : Option Value) (M' : Mem), Post r M' → ZX g E kc kn xs M' lv (pc + 3) (r.toList ++ rest)) : ZX g E kc kn xs M lv pc st := by
  intro H locs ls hW hS hl'
  obtain ⟨⟨k1, k2, k3, k4⟩, k5⟩ := K
  have ht := X.1.2.2.2.2.1
  have hrR : gR g = rm := X.1.2.2.2.2.2.2.1
  subst hs
  have hT : GoodIn wsL_law (wsV own index C y (.code y bytes maxL ret :: wsL_law)) := fun w hw => by
    rcases List.mem_append.mp hw with h | h
    · refine ⟨?_, (wsL_good w ?_).2⟩ <;>
      · rcases List.mem_cons.mp h with rfl | h
        · exact hl
        · rcases List.mem_cons.mp h with rfl | h
          · exact k1
          · rcases List.mem_cons.mp h with rfl | h
            · exact k2
            · rcases List.mem_cons.mp h with rfl | h
              · exact k3
              · exact absurd h List.not_mem_nil
    · exact wsL_app k4 w h
  have hcell : ∃ cellB : Cell, H[zsK E i]? = some cellB ∧ cellB.vm.isStatics = false ∧ (gs g).vm.findClass C = some cellB.cls := by
    rw [hC]
    exact vk_recv (i := 0) (X.1.2.2.2.2.2.2.2.1 i hi) (by decide) hS
  refine Wx_of_run (va_runV ⟨X.1.1, X.1.2.1, X.1.2.2.1, X.1.2.2.2.1, ht⟩ hM (cwV n ht hT rfl hR.1.1 hR.1.2 k5 ⟨by rw [hrR]; exact hR.2.1, by rw [hrR]; exact hR.2.2⟩) ⟨zPre_blind (cutX E xs) M _, hcell, fun U hU hWm => ⟨rfl, xPre_of hW hS X.1.2.2.2.2.2.1 X.1.2.2.2.2.2.2.2 hU hWm⟩⟩ rfl hn (by show ls.size = nL; rw [hl'.1]; exact X.1.2.2.1) rfl (lv_room hw) hd ⟨by rw [hrR]; exact hkc.1, by rw [hrR]; exact hkc.2⟩) hW hS (fun r M' H1 locs1 hp hW1 hS1 => kk r M' hp H1 locs1 ls hW1 hS1 hl')
end ZS
theorem txt_len : ∀ i, i < 30 → (txt i).length < 12 := by decide +kernel
theorem txt_rng : ∀ i, i < 30 → ∀ j, j < (txt i).length → 32 ≤ ((txt i).getD j 0).toInt ∧ ((txt i).getD j 0).toInt ≤ 126 ∧ (((txt i).getD j 0 &&& 255).toUInt32 % 65536).toInt32 = (txt i).getD j 0 ∧ ((txt i).getD j 0).toUInt32.toUInt16.toUInt32.toInt32 = (txt i).getD j 0 := by decide +kernel
theorem txt_nar : ∀ i, i < 30 → ∀ j, j < (txt i).length → narrow .char (.int ((txt i).getD j 0)) = .int ((txt i).getD j 0) := fun i hi j hj => congrArg Value.int (txt_rng i hi j hj).2.2.2
def rm_J0_coder_7d493 : Room := { frames := 0, cells := 0, slots := 0, locals := 0 }
theorem kv_J0_coder_7d493 : KV yJ0_coder_7d493 RJ0 cJ0_coder_7d493 1 (some .byte) 0 := ⟨⟨gw_539, gw_540, gw_535, gw_541⟩, by decide +kernel⟩
set_option maxRecDepth 100000 in
set_option maxHeartbeats 1000000 in
theorem c_J0_coder_7d493 (E : ZE) (M : Mem) (i : Nat) (hi : i < 30) : Mt E yJ0_coder_7d493 cJ0_coder_7d493 1 (some .byte) rm_J0_coder_7d493 [.ref (zsK E i)] M (PI 0 M) := by
  refine z_met (own := RJ0) (lv := [(0, .ref (zsK E i))]) (by decide) rfl (Nat.le_of_ble_eq_true rfl) rfl (fun gg X Y => ?_)
  refine z_gets X (pc := 0) gw_542 dJ0_coder_7d493_0 ?_
  refine z_if_eq X (pc := 3) (tgt := 13) dJ0_coder_7d493_3 (by decide) (fun c3 => absurd c3 (by decide)) (fun c3 => ?_)
  refine z_aload_n X (pc := 6) 0 dJ0_coder_7d493_6 rfl rfl ?_
  refine z_scod X (pc := 7) hi gw_543 dJ0_coder_7d493_7 ?_
  refine z_goto X (pc := 10) (tgt := 14) dJ0_coder_7d493_10 (by decide) ?_
  exact z_zret X Y (by decide) dJ0_coder_7d493_14 ⟨rfl, rfl⟩
def rm_J0_isLatin1_aae02 : Room := { frames := 0, cells := 0, slots := 0, locals := 0 }
theorem kv_J0_isLatin1_aae02 : KV yJ0_isLatin1_aae02 RJ0 cJ0_isLatin1_aae02 1 (some .boolean) 0 := ⟨⟨gw_549, gw_550, gw_535, gw_551⟩, by decide +kernel⟩
set_option maxRecDepth 100000 in
set_option maxHeartbeats 1000000 in
theorem c_J0_isLatin1_aae02 (E : ZE) (M : Mem) (i : Nat) (hi : i < 30) : Mt E yJ0_isLatin1_aae02 cJ0_isLatin1_aae02 1 (some .boolean) rm_J0_isLatin1_aae02 [.ref (zsK E i)] M (PI 1 M) := by
  refine z_met (own := RJ0) (lv := [(0, .ref (zsK E i))]) (by decide) rfl (Nat.le_of_ble_eq_true rfl) rfl (fun gg X Y => ?_)
  refine z_gets X (pc := 0) gw_542 dJ0_isLatin1_aae02_0 ?_
  refine z_if_eq X (pc := 3) (tgt := 17) dJ0_isLatin1_aae02_3 (by decide) (fun c3 => absurd c3 (by decide)) (fun c3 => ?_)
  refine z_aload_n X (pc := 6) 0 dJ0_isLatin1_aae02_6 rfl rfl ?_
  refine z_scod X (pc := 7) hi gw_543 dJ0_isLatin1_aae02_7 ?_
  refine z_if_ne X (pc := 10) (tgt := 17) dJ0_isLatin1_aae02_10 (by decide) (fun c10 => absurd rfl c10) (fun c10 => ?_)
  refine z_iconst X (pc := 13) (v := 1) dJ0_isLatin1_aae02_13 (by decide) ?_
  refine z_goto X (pc := 14) (tgt := 18) dJ0_isLatin1_aae02_14 (by decide) ?_
  exact z_zret X Y (by decide) dJ0_isLatin1_aae02_18 ⟨rfl, rfl⟩
def rm_J0_length_8abf5 : Room := { frames := 1, cells := 0, slots := 0, locals := 20 }
theorem kv_J0_length_8abf5 : KV yJ0_length_8abf5 RJ0 cJ0_length_8abf5 1 (some .int) 0 := ⟨⟨gw_533, gw_534, gw_535, gw_536⟩, by decide +kernel⟩
set_option maxRecDepth 100000 in
set_option maxHeartbeats 1000000 in
theorem c_J0_length_8abf5 (E : ZE) (M : Mem) (i : Nat) (hi : i < 30) : Mt E yJ0_length_8abf5 cJ0_length_8abf5 1 (some .int) rm_J0_length_8abf5 [.ref (zsK E i)] M (PI (nI (txt i).length) M) := by
  refine z_met (own := RJ0) (lv := [(0, .ref (zsK E i))]) (by decide) rfl (Nat.le_of_ble_eq_true rfl) rfl (fun gg X Y => ?_)
  refine z_aload_n X (pc := 0) 0 dJ0_length_8abf5_0 rfl rfl ?_
  refine z_sval X (pc := 1) hi gw_537 dJ0_length_8abf5_1 ?_
  refine z_svln X (pc := 4) hi dJ0_length_8abf5_4 ?_
  refine z_aload_n X (pc := 5) 0 dJ0_length_8abf5_5 rfl rfl ?_
  refine z_callK X (pc := 6) (rest := [.int (nI (txt i).length)]) hi kv_J0_coder_7d493 (c_J0_coder_7d493 E M i hi) rfl gw_538 (by decide) rfl rfl (Nat.le_of_ble_eq_true rfl) dJ0_length_8abf5_6 (zk_i ?_)
  refine z_ishr X (pc := 9) dJ0_length_8abf5_9 ?_
  exact z_pret X Y dJ0_length_8abf5_10 ((by decide +kernel : ∀ n, n < 12 → nI n >>> ((0 : Int32) &&& 31) = nI n) _ (txt_len i hi)) rfl
def rm_J3_checkIndex_8e157 : Room := { frames := 0, cells := 0, slots := 0, locals := 0 }
theorem ks_J3_checkIndex_8e157 : KS yJ3_checkIndex_8e157 cJ3_checkIndex_8e157 3 (some .int) 3 := ⟨⟨gw_561, gw_562, gw_563⟩, by decide +kernel⟩
set_option maxRecDepth 100000 in
set_option maxHeartbeats 1000000 in
theorem c_J3_checkIndex_8e157_n (E : ZE) (M : Mem) (j n : Nat) (hj : j < n) (hn : n < 100) : Mt E yJ3_checkIndex_8e157 cJ3_checkIndex_8e157 3 (some .int) rm_J3_checkIndex_8e157 [.int (nI j), .int (nI n), .null] M (PI (nI j) M) := by
  refine z_met (own := RJ3) (lv := [(0, .int (nI j)), (1, .int (nI n)), (2, .null)]) (by decide) rfl (Nat.le_of_ble_eq_true rfl) rfl (fun gg X Y => ?_)
  refine z_iload_n X (pc := 0) 0 dJ3_checkIndex_8e157_0 rfl rfl ?_
  refine z_if_lt X (pc := 1) (tgt := 9) dJ3_checkIndex_8e157_1 (by decide) (fun c1 => absurd c1 (nI_pos (by omega))) (fun c1 => ?_)
  refine z_iload_n X (pc := 4) 0 dJ3_checkIndex_8e157_4 rfl rfl ?_
  refine z_iload_n X (pc := 5) 1 dJ3_checkIndex_8e157_5 rfl rfl ?_
  refine z_nicmp_lt X (pc := 6) (a := j) (b := n) (tgt := 16) dJ3_checkIndex_8e157_6 (by decide) (by omega) (by omega) (fun c6 => ?_) (fun c6 => absurd hj c6)
  refine z_iload_n X (pc := 16) 0 dJ3_checkIndex_8e157_16 rfl rfl ?_
  exact z_pret X Y dJ3_checkIndex_8e157_17 rfl rfl
set_option maxRecDepth 100000 in
set_option maxHeartbeats 1000000 in
theorem c_J3_checkIndex_8e157_r (E : ZE) (M : Mem) (t : Nat) (j n : Nat) (hj : j < n) (hn : n < 100) : Mt E yJ3_checkIndex_8e157 cJ3_checkIndex_8e157 3 (some .int) rm_J3_checkIndex_8e157 [.int (nI j), .int (nI n), .ref t] M (PI (nI j) M) := by
  refine z_met (own := RJ3) (lv := [(0, .int (nI j)), (1, .int (nI n)), (2, .ref t)]) (by decide) rfl (Nat.le_of_ble_eq_true rfl) rfl (fun gg X Y => ?_)
  refine z_iload_n X (pc := 0) 0 dJ3_checkIndex_8e157_0 rfl rfl ?_
  refine z_if_lt X (pc := 1) (tgt := 9) dJ3_checkIndex_8e157_1 (by decide) (fun c1 => absurd c1 (nI_pos (by omega))) (fun c1 => ?_)
  refine z_iload_n X (pc := 4) 0 dJ3_checkIndex_8e157_4 rfl rfl ?_
  refine z_iload_n X (pc := 5) 1 dJ3_checkIndex_8e157_5 rfl rfl ?_
  refine z_nicmp_lt X (pc := 6) (a := j) (b := n) (tgt := 16) dJ3_checkIndex_8e157_6 (by decide) (by omega) (by omega) (fun c6 => ?_) (fun c6 => absurd hj c6)
  refine z_iload_n X (pc := 16) 0 dJ3_checkIndex_8e157_16 rfl rfl ?_
  exact z_pret X Y dJ3_checkIndex_8e157_17 rfl rfl
def rm_J0_checkIndex_df160 : Room := { frames := 1, cells := 0, slots := 0, locals := 22 }
theorem ks_J0_checkIndex_df160 : KS yJ0_checkIndex_df160 cJ0_checkIndex_df160 2 none 2 := ⟨⟨gw_557, gw_535, gw_558⟩, by decide +kernel⟩
set_option maxRecDepth 100000 in
set_option maxHeartbeats 1000000 in
theorem c_J0_checkIndex_df160 (E : ZE) (M : Mem) (j n : Nat) (hj : j < n) (hn : n < 100) : Mt E yJ0_checkIndex_df160 cJ0_checkIndex_df160 2 none rm_J0_checkIndex_df160 [.int (nI j), .int (nI n)] M (PV M) := by
  refine z_met (own := RJ0) (lv := [(0, .int (nI j)), (1, .int (nI n))]) (by decide) rfl (Nat.le_of_ble_eq_true rfl) rfl (fun gg X Y => ?_)
  refine z_iload_n X (pc := 0) 0 dJ0_checkIndex_df160_0 rfl rfl ?_
  refine z_iload_n X (pc := 1) 1 dJ0_checkIndex_df160_1 rfl rfl ?_
  refine z_getq X (pc := 2) gw_559 dJ0_checkIndex_df160_2 ?_ (fun t => ?_)
  · refine z_callS X (pc := 5) (rest := []) (As := [.int (nI j), .int (nI n), .null]) ks_J3_checkIndex_8e157 (c_J3_checkIndex_8e157_n E M j n hj hn) gw_560 (by decide) rfl rfl (Nat.le_of_ble_eq_true rfl) dJ0_checkIndex_df160_5 (zk_i ?_)
    refine z_pop X (pc := 8) dJ0_checkIndex_df160_8 rfl ?_
    exact z_vret X Y dJ0_checkIndex_df160_9 ⟨rfl, rfl⟩
  · refine z_callS X (pc := 5) (rest := []) (As := [.int (nI j), .int (nI n), .ref t]) ks_J3_checkIndex_8e157 (c_J3_checkIndex_8e157_r E M t j n hj hn) gw_560 (by decide) rfl rfl (Nat.le_of_ble_eq_true rfl) dJ0_checkIndex_df160_5 (zk_i ?_)
    refine z_pop X (pc := 8) dJ0_checkIndex_df160_8 rfl ?_
    exact z_vret X Y dJ0_checkIndex_df160_9 ⟨rfl, rfl⟩
def rm_J1_charAt_3b067 : Room := { frames := 2, cells := 0, slots := 0, locals := 43 }
theorem ks_J1_charAt_3b067 : KS yJ1_charAt_3b067 cJ1_charAt_3b067 2 (some .char) 2 := ⟨⟨gw_553, gw_554, gw_555⟩, by decide +kernel⟩
set_option maxRecDepth 100000 in
set_option maxHeartbeats 1000000 in
theorem c_J1_charAt_3b067 (E : ZE) (M : Mem) (i j : Nat) (hi : i < 30) (hj : j < (txt i).length) : Mt E yJ1_charAt_3b067 cJ1_charAt_3b067 2 (some .char) rm_J1_charAt_3b067 [.ref (zsV E i), .int (nI j)] M (PI ((txt i).getD j 0) M) := by
  refine z_met (own := RJ1) (lv := [(0, .ref (zsV E i)), (1, .int (nI j))]) (by decide) rfl (Nat.le_of_ble_eq_true rfl) rfl (fun gg X Y => ?_)
  have hl := txt_len i hi
  refine z_iload_n X (pc := 0) 1 dJ1_charAt_3b067_0 rfl rfl ?_
  refine z_aload_n X (pc := 1) 0 dJ1_charAt_3b067_1 rfl rfl ?_
  refine z_svln X (pc := 2) hi dJ1_charAt_3b067_2 ?_
  refine z_callS X (pc := 3) (rest := []) (As := [.int (nI j), .int (nI (txt i).length)]) ks_J0_checkIndex_df160 (c_J0_checkIndex_df160 E M j _ hj (by omega)) gw_556 (by decide) rfl rfl (Nat.le_of_ble_eq_true rfl) dJ1_charAt_3b067_3 (zk_v ?_)
  refine z_aload_n X (pc := 6) 0 dJ1_charAt_3b067_6 rfl rfl ?_
  refine z_iload_n X (pc := 7) 1 dJ1_charAt_3b067_7 rfl rfl ?_
  refine z_sbld X (pc := 8) hi rfl hj (by omega) dJ1_charAt_3b067_8 ?_
  refine z_sipush X (pc := 9) (v := 255) dJ1_charAt_3b067_9 (by decide) ?_
  refine z_iand X (pc := 12) dJ1_charAt_3b067_12 ?_
  refine z_i2c X (pc := 13) (v := (txt i).getD j 0) dJ1_charAt_3b067_13 (txt_rng i hi j hj).2.2.1 ?_
  exact z_zret X Y (txt_nar i hi j hj) dJ1_charAt_3b067_14 ⟨rfl, rfl⟩
def rm_J0_charAt_5068e : Room := { frames := 3, cells := 0, slots := 0, locals := 64 }
theorem kv_J0_charAt_5068e : KV yJ0_charAt_5068e RJ0 cJ0_charAt_5068e 2 (some .char) 1 := ⟨⟨gw_545, gw_546, gw_535, gw_547⟩, by decide +kernel⟩
set_option maxRecDepth 100000 in
set_option maxHeartbeats 1000000 in
theorem c_J0_charAt_5068e (E : ZE) (M : Mem) (i j : Nat) (hi : i < 30) (hj : j < (txt i).length) : Mt E yJ0_charAt_5068e cJ0_charAt_5068e 2 (some .char) rm_J0_charAt_5068e [.ref (zsK E i), .int (nI j)] M (PI ((txt i).getD j 0) M) := by
  refine z_met (own := RJ0) (lv := [(0, .ref (zsK E i)), (1, .int (nI j))]) (by decide) rfl (Nat.le_of_ble_eq_true rfl) rfl (fun gg X Y => ?_)
  refine z_aload_n X (pc := 0) 0 dJ0_charAt_5068e_0 rfl rfl ?_
  refine z_callK X (pc := 1) (rest := []) (As := []) hi kv_J0_isLatin1_aae02 (c_J0_isLatin1_aae02 E M i hi) rfl gw_548 (by decide) rfl rfl (Nat.le_of_ble_eq_true rfl) dJ0_charAt_5068e_1 (zk_i ?_)
  refine z_if_eq X (pc := 4) (tgt := 16) dJ0_charAt_5068e_4 (by decide) (fun c4 => absurd c4 (by decide)) (fun c4 => ?_)
  refine z_aload_n X (pc := 7) 0 dJ0_charAt_5068e_7 rfl rfl ?_
  refine z_sval X (pc := 8) hi gw_537 dJ0_charAt_5068e_8 ?_
  refine z_iload_n X (pc := 11) 1 dJ0_charAt_5068e_11 rfl rfl ?_
  refine z_callS X (pc := 12) (rest := []) (As := [.ref (zsV E i), .int (nI j)]) ks_J1_charAt_3b067 (c_J1_charAt_3b067 E M i j hi hj) gw_552 (by decide) rfl rfl (Nat.le_of_ble_eq_true rfl) dJ0_charAt_5068e_12 (zk_i ?_)
  exact z_zret X Y (txt_nar i hi j hj) dJ0_charAt_5068e_15 ⟨rfl, rfl⟩
