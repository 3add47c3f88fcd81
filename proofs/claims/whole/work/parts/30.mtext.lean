section ZS
variable {g : ZG} {E : ZE} {cc : ByteArray} {nL : Nat} {rm : Room} {M : Mem} {lv : List (Nat × Value)} {pc : Nat} {st : List Value}
def hmL : List Int32 := [104, 109, 115, 114, 97, 98, 99, 112, 117, 116]
theorem z_ldcS (X : Cb g E RX11 cc nL rm) (hd : decode cc pc = .ok (.ldc 205, 2)) (k : Z g E M lv (pc + 2) (.ref (zsK E) :: st)) : Z g E M lv pc st := fun H locs ls hW hS hl =>
  va_ldcS X.1 X.2.1 X.2.2.2.1 X.2.2.2.2.2.2.2.2.2 hd (k H locs ls hW hS hl)
theorem z_gets (X : Cb g E RJ0 cc nL rm) (hl : Cond.fieldLink RJ0 38 "java/lang/String" "COMPACT_STRINGS" "Z" ∈ wsL_law) (hd : decode cc pc = .ok (.getstatic 38, 3)) (k : Z g E M lv (pc + 3) (.int 1 :: st)) : Z g E M lv pc st := fun H locs ls hW hS hl' =>
  va_gets X.1 X.2.1 X.2.2.2.2.2.2.2.2.1 hS X.2.2.2.1 (X.2.2.2.2.1 _ hl) (fun _ h => h) hd (k H locs ls hW hS hl')
theorem z_sval (X : Cb g E RJ0 cc nL rm) (hl : Cond.fieldLink RJ0 9 "java/lang/String" "value" "[B" ∈ wsL_law) (hd : decode cc pc = .ok (.getfield 9, 3)) (k : Z g E M lv (pc + 3) (.ref (zsV E) :: st)) : Z g E M lv pc (.ref (zsK E) :: st) := fun H locs ls hW hS hl' =>
  vk_getf X.1 X.2.1 (X.2.2.2.2.2.2.2.1.1 0 (by decide)).2.2.1 hS X.2.2.2.1 (X.2.2.2.2.1 _ hl) (fun _ h => h) hd (k H locs ls hW hS hl')
theorem z_scod (X : Cb g E RJ0 cc nL rm) (hl : Cond.fieldLink RJ0 15 "java/lang/String" "coder" "B" ∈ wsL_law) (hd : decode cc pc = .ok (.getfield 15, 3)) (k : Z g E M lv (pc + 3) (.int 0 :: st)) : Z g E M lv pc (.ref (zsK E) :: st) := fun H locs ls hW hS hl' =>
  vk_getf X.1 X.2.1 (X.2.2.2.2.2.2.2.1.1 0 (by decide)).2.1 hS X.2.2.2.1 (X.2.2.2.2.1 _ hl) (fun _ h => h) hd (k H locs ls hW hS hl')
variable {own : String}
theorem z_svln (X : Cb g E own cc nL rm) (hd : decode cc pc = .ok (.arraylength, 1)) (k : Z g E M lv (pc + 1) (.int 10 :: st)) : Z g E M lv pc (.ref (zsV E) :: st) := fun H locs ls hW hS hl' =>
  va_tlen X.1 X.2.1 (X.2.2.2.2.2.2.2.1.1 0 (by decide)).2.2.2 hS rfl hd (k H locs ls hW hS hl')
theorem z_sbld (X : Cb g E own cc nL rm) {j : Nat} {i : Int32} (hi : i = nI j) (hj : j < 10) (hd : decode cc pc = .ok (.baload, 1)) (k : Z g E M lv (pc + 1) (.int (hmL.getD j 0) :: st)) : Z g E M lv pc (.int i :: .ref (zsV E) :: st) := fun H locs ls hW hS hl' => by
  subst hi
  exact va_tb X.1 X.2.1 (X.2.2.2.2.2.2.2.1.1 0 (by decide)).2.2.2 hS (vp_in_nI hj (by decide)) (v := .int (hmL.getD j 0)) (by rw [nI_clamp (by omega)]; rfl) hd (k H locs ls hW hS hl')
theorem z_i2b (X : Cb g E own cc nL rm) {x v : Int32} (hd : decode cc pc = .ok (.i2b, 1)) (hv : x.toInt8.toInt32 = v) (k : Z g E M lv (pc + 1) (.int v :: st)) : Z g E M lv pc (.int x :: st) := fun H locs ls hW hS hl => lv_i2b X.1 X.2.1 hd hv (k H locs ls hW hS hl)
theorem z_callK (X : Cb g E own cc nL rm) {y : MethodName} {C : String} {bytes : ByteArray} {maxL n index : Nat} {ret : Option FieldType} {rmc : Room} {As rest : List Value} {Post : Option Value → Mem → Prop}
    (K : KV y C bytes maxL ret n) (hM : Mt E y bytes maxL ret rmc (.ref (zsK E) :: As) M Post) (hC : C = "java/lang/String") (hl : Cond.methodLink own index y ∈ wsL_law)
    (hR : (rmc.cells = 0 ∧ rmc.slots = 0) ∧ rmc.frames + 1 ≤ rm.frames ∧ 8 + (maxL + 11) + rmc.locals ≤ rm.locals) (hn : As.length = n) (hs : As.reverse ++ .ref (zsK E) :: rest = st) (hw : (rest.map fun v => v.category).sum ≤ 8) (hd : decode cc pc = .ok (.invokevirtual index, 3))
    (kk : ∀ (r : Option Value) (M' : Mem), Post r M' → Z g E M' lv (pc + 3) (r.toList ++ rest)) : Z g E M lv pc st := by
  intro H locs ls hW hS hl'
  obtain ⟨⟨k1, k2, k3, k4⟩, k5⟩ := K
  have ht := X.2.2.2.2.1
  have hrR : gR g = rm := X.2.2.2.2.2.2.1
  subst hs
  have hT : GoodIn wsL_law (wsV own index C y (.code y bytes maxL ret :: wsL_law)) := fun w hw => by
    rcases List.mem_append.mp hw with h | h
    · refine ⟨?_, (wsL_good w ?_).2⟩ <;>
      · rcases List.mem_cons.mp h with rfl | h
        · exact hl
        · rcases List.mem_cons.mp h with rfl | h
          · exact k1
          · rcases List.mem_cons.mp h with rfl | h
            · exact k2
            · rcases List.mem_cons.mp h with rfl | h
              · exact k3
              · exact absurd h List.not_mem_nil
    · exact wsL_app k4 w h
  have hcell : ∃ cellB : Cell, H[zsK E]? = some cellB ∧ cellB.vm.isStatics = false ∧ (gs g).vm.findClass C = some cellB.cls := by
    rw [hC]
    exact vk_recv (i := 0) X.2.2.2.2.2.2.2.1 (by decide) hS
  refine W_of_run (va_runV ⟨X.1, X.2.1, X.2.2.1, X.2.2.2.1, ht⟩ hM (cwV n ht hT rfl hR.1.1 hR.1.2 k5 ⟨by rw [hrR]; exact hR.2.1, by rw [hrR]; exact hR.2.2⟩) ⟨zPre_blind E M _, hcell, fun U hU hWm => ⟨rfl, zPre_of hW hS X.2.2.2.2.2.1 X.2.2.2.2.2.2.2 hU hWm⟩⟩ rfl hn (by show ls.size = nL; rw [hl'.1]; exact X.2.2.1) rfl (lv_room hw) hd ⟨Nat.zero_le _, Nat.zero_le _⟩) hS (fun r M' H1 locs1 hp hW1 hS1 => kk r M' hp H1 locs1 ls hW1 hS1 hl')
end ZS
theorem i2b_k : ∀ k, k < 127 → (nI k).toInt8.toInt32 = nI k := by decide +kernel
def HmP (x v : Int32) : Prop := (v = -1 ∧ ∀ j, j < 10 → ¬ hmL.getD j 0 = x) ∨ ∃ j, j < 10 ∧ v = nI j ∧ hmL.getD j 0 = x
def tP (b r k : Nat) : Prop := b = 32 ∧ r = 0 ∧ 16 ≤ k ∧ k ≤ 21
def tN (b r k : Nat) : Prop := b = 32 ∧ r = 0 ∧ (k = 16 ∨ k = 21)
theorem tN_P (b r k : Nat) (h : tN b r k) : tP b r k := by unfold tN at h; unfold tP; omega
def PS (M : Mem) (t : List Int32) (p : Nat) (w : Bool) : Prop := TM M t ∧ M 32 0 16 = nI p ∧ M 32 0 21 = zb w
theorem TM.u0 {M : Mem} {t : List Int32} {k : Nat} {v : Int32} (h : TM M t) (hk : k ≠ 15) : TM (up3 M 32 0 k v) t := ⟨by rw [up3_ne (by omega)]; exact h.1, h.2.1, fun i hi => by rw [up3_ne (by omega)]; exact h.2.2 i hi⟩
theorem TM.at {M : Mem} {t : List Int32} {p : Nat} (h : TM M t) (hp : p < t.length) : M 32 5 p = chr t p := by
  unfold chr
  rw [if_pos hp]
  exact h.2.2 p hp
theorem chr_out {t : List Int32} {p : Nat} (h : t.length ≤ p) : chr t p = -1 := by
  unfold chr
  rw [if_neg (by omega)]
theorem chr_rng {t : List Int32} {p : Nat} (h8 : ∀ x, x ∈ t → rng x 32 126) (hp : p < t.length) : rng (chr t p) 32 126 := by
  unfold chr
  rw [if_pos hp]
  simp only [List.getD]
  rw [List.getElem?_eq_getElem hp]
  exact h8 _ (List.getElem_mem hp)
theorem inB_ne {x c : Int32} (h : ¬ x = c) : inB x c c = false := by
  unfold inB
  by_cases h1 : x < c
  · simp [h1]
  · have : c < x := by
      rw [Int32.lt_iff_toInt_lt] at h1 ⊢
      have : ¬ x.toInt = c.toInt := fun e => h (Int32.toInt_inj.mp e)
      omega
    simp [this]
/-- a number read at p: the value, the place behind it, whether the text is wrong -/
def rnR (t : List Int32) (p : Nat) (w : Bool) (n : Nat) : Int32 × Nat × Bool := if w = true ∨ isD t p = false then (0, p, true) else if n = 2 ∧ isD t (p + 1) = true then (10 * dV t p + chr t (p + 1) - 48, p + 2, false) else (dV t p, p + 1, false)
def rbR (t : List Int32) (p : Nat) (w : Bool) (c : Int32) (n : Nat) : Int32 × Nat × Bool := if w = true ∨ ¬ chr t p = c then (0, p, true) else rnR t (p + 1) false n
theorem rnR_le {t : List Int32} {p n : Nat} {w : Bool} : (rnR t p w n).2.1 ≤ p + 2 := by
  unfold rnR
  split
  · show p ≤ p + 2; omega
  · split
    · exact Nat.le_refl _
    · show p + 1 ≤ p + 2; omega
def OrdIs (M : Mem) (o : Ord) : Prop := M 32 0 20 = o.1 ∧ (o.1 ≠ 97 → M 32 0 17 = o.2.1) ∧ (o.1 = 104 ∨ o.1 = 109 ∨ o.1 = 115 ∨ o.1 = 98 → M 32 0 18 = o.2.2.1) ∧ (o.1 = 109 → M 32 0 19 = o.2.2.2)
theorem hm_cases {x : Int32} {j : Nat} (hj : j < 10) (h : hmL.getD j 0 = x) : x = 104 ∨ x = 109 ∨ x = 115 ∨ x = 114 ∨ x = 97 ∨ x = 98 ∨ x = 99 ∨ x = 112 ∨ x = 117 ∨ x = 116 := by
  subst h
  rcases (show j = 0 ∨ j = 1 ∨ j = 2 ∨ j = 3 ∨ j = 4 ∨ j = 5 ∨ j = 6 ∨ j = 7 ∨ j = 8 ∨ j = 9 by omega) with rfl | rfl | rfl | rfl | rfl | rfl | rfl | rfl | rfl | rfl <;> decide
theorem ord_bad {t : List Int32} {p : Nat} (h : ∀ j, j < 10 → ¬ hmL.getD j 0 = chr t p) : (pOrd t p).2.1 = p ∧ (pOrd t p).1 = false := by
  have e : ∀ j x, j < 10 → hmL.getD j 0 = x → ¬ chr t p = x := fun j x hj hx q => h j hj (hx.trans q.symm)
  have e0 := e 0 104 (by decide) rfl
  have e1 := e 1 109 (by decide) rfl
  have e2 := e 2 115 (by decide) rfl
  have e3 := e 3 114 (by decide) rfl
  have e4 := e 4 97 (by decide) rfl
  have e5 := e 5 98 (by decide) rfl
  have e6 := e 6 99 (by decide) rfl
  have e7 := e 7 112 (by decide) rfl
  have e8 := e 8 117 (by decide) rfl
  have e9 := e 9 116 (by decide) rfl
  unfold pOrd
  simp [e0, e1, e2, e3, e4, e5, e6, e7, e8, e9]
theorem ord_out {t : List Int32} {p : Nat} (h : t.length ≤ p) : (pOrd t p).2.1 = p ∧ (pOrd t p).1 = false :=
  ord_bad (fun j hj => by
    rw [chr_out h]
    exact (by decide : ∀ j, j < 10 → ¬ hmL.getD j 0 = (-1 : Int32)) j hj)
theorem ord_a {t : List Int32} {p : Nat} (h : chr t p = 97) : (pOrd t p).2.1 = p + 1 ∧ (!(pOrd t p).1) = false ∧ ((pOrd t p).1 = true → (pOrd t p).2.2 = (97, 0, 0, 0)) := by
  unfold pOrd
  simp [h]
theorem ord_h {t : List Int32} {p : Nat} (h : chr t p = 104) : (pOrd t p).2.1 = (rnR t (rnR t (p + 1) false 1).2.1 (rnR t (p + 1) false 1).2.2 1).2.1 ∧ (!(pOrd t p).1) = (rnR t (rnR t (p + 1) false 1).2.1 (rnR t (p + 1) false 1).2.2 1).2.2 ∧ ((pOrd t p).1 = true → (pOrd t p).2.2 = (104, (rnR t (p + 1) false 1).1, (rnR t (rnR t (p + 1) false 1).2.1 (rnR t (p + 1) false 1).2.2 1).1, 0)) := by
  unfold pOrd
  cases h1 : isD t (p + 1) <;> cases h2 : isD t (p + 2) <;> simp [h, rnR, h1, h2]
theorem ord_m {t : List Int32} {p : Nat} (h : chr t p = 109) : (pOrd t p).2.1 = (rnR t (rnR t (rnR t (p + 1) false 1).2.1 (rnR t (p + 1) false 1).2.2 1).2.1 (rnR t (rnR t (p + 1) false 1).2.1 (rnR t (p + 1) false 1).2.2 1).2.2 1).2.1 ∧ (!(pOrd t p).1) = (rnR t (rnR t (rnR t (p + 1) false 1).2.1 (rnR t (p + 1) false 1).2.2 1).2.1 (rnR t (rnR t (p + 1) false 1).2.1 (rnR t (p + 1) false 1).2.2 1).2.2 1).2.2 ∧ ((pOrd t p).1 = true → (pOrd t p).2.2 = (109, (rnR t (p + 1) false 1).1, (rnR t (rnR t (p + 1) false 1).2.1 (rnR t (p + 1) false 1).2.2 1).1, (rnR t (rnR t (rnR t (p + 1) false 1).2.1 (rnR t (p + 1) false 1).2.2 1).2.1 (rnR t (rnR t (p + 1) false 1).2.1 (rnR t (p + 1) false 1).2.2 1).2.2 1).1)) := by
  unfold pOrd
  cases h1 : isD t (p + 1) <;> cases h2 : isD t (p + 2) <;> cases h3 : isD t (p + 3) <;> simp [h, rnR, h1, h2, h3]
theorem ord_s {t : List Int32} {p : Nat} (h : chr t p = 115) : (pOrd t p).2.1 = (rbR t (rnR t (p + 1) false 1).2.1 (rnR t (p + 1) false 1).2.2 58 1).2.1 ∧ (!(pOrd t p).1) = (rbR t (rnR t (p + 1) false 1).2.1 (rnR t (p + 1) false 1).2.2 58 1).2.2 ∧ ((pOrd t p).1 = true → (pOrd t p).2.2 = (115, (rnR t (p + 1) false 1).1, (rbR t (rnR t (p + 1) false 1).2.1 (rnR t (p + 1) false 1).2.2 58 1).1, 0)) := by
  unfold pOrd
  by_cases h2 : chr t (p + 2) = 58 <;> cases h1 : isD t (p + 1) <;> cases h3 : isD t (p + 3) <;> simp [h, rnR, rbR, h1, h2, h3]
theorem ord_b {t : List Int32} {p : Nat} (h : chr t p = 98) : (pOrd t p).2.1 = (rbR t (rnR t (p + 1) false 1).2.1 (rnR t (p + 1) false 1).2.2 61 2).2.1 ∧ (!(pOrd t p).1) = (rbR t (rnR t (p + 1) false 1).2.1 (rnR t (p + 1) false 1).2.2 61 2).2.2 ∧ ((pOrd t p).1 = true → (pOrd t p).2.2 = (98, (rnR t (p + 1) false 1).1, (rbR t (rnR t (p + 1) false 1).2.1 (rnR t (p + 1) false 1).2.2 61 2).1, 0)) := by
  unfold pOrd
  by_cases h2 : chr t (p + 2) = 61 <;> cases h1 : isD t (p + 1) <;> cases h3 : isD t (p + 3) <;> cases h4 : isD t (p + 4) <;> simp [h, rnR, rbR, h1, h2, h3, h4]
theorem ord_o {t : List Int32} {p : Nat} {l : Int32} (h : chr t p = l) (hl : (l = 114 ∨ l = 99 ∨ l = 112 ∨ l = 117 ∨ l = 116) ∧ ¬ l = 97 ∧ ¬ l = 104 ∧ ¬ l = 109 ∧ ¬ l = 115 ∧ ¬ l = 98) : (pOrd t p).2.1 = (rnR t (p + 1) false 1).2.1 ∧ (!(pOrd t p).1) = (rnR t (p + 1) false 1).2.2 ∧ ((pOrd t p).1 = true → (pOrd t p).2.2 = (l, (rnR t (p + 1) false 1).1, 0, 0)) := by
  unfold pOrd
  obtain ⟨h0, h1, h2, h3, h4, h5⟩ := hl
  cases hd : isD t (p + 1) <;> simp [h, h0, h1, h2, h3, h4, h5, rnR, hd]
def rm_J0_coder_7d493 : Room := { frames := 0, cells := 0, slots := 0, locals := 0 }
theorem kv_J0_coder_7d493 : KV yJ0_coder_7d493 RJ0 cJ0_coder_7d493 1 (some .byte) 0 := ⟨⟨gw_916, gw_917, gw_898, gw_918⟩, by decide +kernel⟩
set_option maxRecDepth 100000 in
set_option maxHeartbeats 4000000 in
theorem c_J0_coder_7d493 (E : ZE) (M : Mem) : Mt E yJ0_coder_7d493 cJ0_coder_7d493 1 (some .byte) rm_J0_coder_7d493 [.ref (zsK E)] M (PI 0 M) := by
  refine z_met (own := RJ0) (lv := [(0, .ref (zsK E))]) (by decide) rfl (Nat.le_of_ble_eq_true rfl) rfl (fun gg X Y => ?_)
  refine z_gets X (pc := 0) gw_909 dJ0_coder_7d493_0 ?_
  refine z_if_eq X (pc := 3) (tgt := 13) dJ0_coder_7d493_3 (by decide) (fun c3 => ?_) (fun c3 => ?_)
  · exact absurd c3 (by decide)
  · refine z_aload_n X (pc := 6) 0 dJ0_coder_7d493_6 rfl rfl ?_
    refine z_scod X (pc := 7) gw_910 dJ0_coder_7d493_7 ?_
    refine z_goto X (pc := 10) (tgt := 14) dJ0_coder_7d493_10 (by decide) ?_
    exact z_zret X Y (by decide) dJ0_coder_7d493_14 ⟨rfl, rfl⟩

def rm_J0_isLatin1_aae02 : Room := { frames := 0, cells := 0, slots := 0, locals := 0 }
theorem kv_J0_isLatin1_aae02 : KV yJ0_isLatin1_aae02 RJ0 cJ0_isLatin1_aae02 1 (some .boolean) 0 := ⟨⟨gw_906, gw_907, gw_898, gw_908⟩, by decide +kernel⟩
set_option maxRecDepth 100000 in
set_option maxHeartbeats 4000000 in
theorem c_J0_isLatin1_aae02 (E : ZE) (M : Mem) : Mt E yJ0_isLatin1_aae02 cJ0_isLatin1_aae02 1 (some .boolean) rm_J0_isLatin1_aae02 [.ref (zsK E)] M (PI 1 M) := by
  refine z_met (own := RJ0) (lv := [(0, .ref (zsK E))]) (by decide) rfl (Nat.le_of_ble_eq_true rfl) rfl (fun gg X Y => ?_)
  refine z_gets X (pc := 0) gw_909 dJ0_isLatin1_aae02_0 ?_
  refine z_if_eq X (pc := 3) (tgt := 17) dJ0_isLatin1_aae02_3 (by decide) (fun c3 => ?_) (fun c3 => ?_)
  · exact absurd c3 (by decide)
  · refine z_aload_n X (pc := 6) 0 dJ0_isLatin1_aae02_6 rfl rfl ?_
    refine z_scod X (pc := 7) gw_910 dJ0_isLatin1_aae02_7 ?_
    refine z_if_ne X (pc := 10) (tgt := 17) dJ0_isLatin1_aae02_10 (by decide) (fun c10 => ?_) (fun c10 => ?_)
    · exact absurd c10 (by decide)
    · refine z_iconst X (pc := 13) (v := 1) dJ0_isLatin1_aae02_13 (by decide) ?_
      refine z_goto X (pc := 14) (tgt := 18) dJ0_isLatin1_aae02_14 (by decide) ?_
      exact z_zret X Y (by decide) dJ0_isLatin1_aae02_18 ⟨rfl, rfl⟩

def rm_J0_length_8abf5 : Room := { frames := 1, cells := 0, slots := 0, locals := 20 }
theorem kv_J0_length_8abf5 : KV yJ0_length_8abf5 RJ0 cJ0_length_8abf5 1 (some .int) 0 := ⟨⟨gw_912, gw_913, gw_898, gw_914⟩, by decide +kernel⟩
set_option maxRecDepth 100000 in
set_option maxHeartbeats 4000000 in
theorem c_J0_length_8abf5 (E : ZE) (M : Mem) : Mt E yJ0_length_8abf5 cJ0_length_8abf5 1 (some .int) rm_J0_length_8abf5 [.ref (zsK E)] M (PI 10 M) := by
  refine z_met (own := RJ0) (lv := [(0, .ref (zsK E))]) (by decide) rfl (Nat.le_of_ble_eq_true rfl) rfl (fun gg X Y => ?_)
  refine z_aload_n X (pc := 0) 0 dJ0_length_8abf5_0 rfl rfl ?_
  refine z_sval X (pc := 1) gw_904 dJ0_length_8abf5_1 ?_
  refine z_svln X (pc := 4) dJ0_length_8abf5_4 ?_
  refine z_aload_n X (pc := 5) 0 dJ0_length_8abf5_5 rfl rfl ?_
  refine z_callK X (pc := 6) (rest := [.int 10]) kv_J0_coder_7d493 (c_J0_coder_7d493 E M) rfl gw_915 (by decide) rfl rfl (Nat.le_of_ble_eq_true rfl) dJ0_length_8abf5_6 (zk_i ?_)
  refine z_ishr X (pc := 9) dJ0_length_8abf5_9 ?_
  refine z_top (y := 10) (by decide) ?_
  exact z_pret X Y dJ0_length_8abf5_10 rfl rfl

def rm_J1_canEncode_9a6ad : Room := { frames := 0, cells := 0, slots := 0, locals := 0 }
theorem ks_J1_canEncode_9a6ad : KS yJ1_canEncode_9a6ad cJ1_canEncode_9a6ad 1 (some .boolean) 1 := ⟨⟨gw_926, gw_921, gw_927⟩, by decide +kernel⟩
set_option maxRecDepth 100000 in
set_option maxHeartbeats 4000000 in
theorem c_J1_canEncode_9a6ad (E : ZE) (M : Mem) (k : Nat) (hk : k ≤ 255) : Mt E yJ1_canEncode_9a6ad cJ1_canEncode_9a6ad 1 (some .boolean) rm_J1_canEncode_9a6ad [.int (nI k)] M (PI 1 M) := by
  refine z_met (own := RJ1) (lv := [(0, .int (nI k))]) (by decide) rfl (Nat.le_of_ble_eq_true rfl) rfl (fun gg X Y => ?_)
  refine z_iload_n X (pc := 0) 0 dJ1_canEncode_9a6ad_0 rfl rfl ?_
  refine z_if_lt X (pc := 1) (tgt := 15) dJ1_canEncode_9a6ad_1 (by decide) (fun c1 => ?_) (fun c1 => ?_)
  · exact absurd c1 (nI_pos (by omega))
  · refine z_iload_n X (pc := 4) 0 dJ1_canEncode_9a6ad_4 rfl rfl ?_
    refine z_sipush X (pc := 5) (v := 255) dJ1_canEncode_9a6ad_5 (by decide) ?_
    refine z_nicmp_gt X (pc := 8) (a := k) (b := 255) (tgt := 15) dJ1_canEncode_9a6ad_8 (by decide) (by omega) (by omega) (fun c8 => ?_) (fun c8 => ?_)
    · exact absurd c8 (by first | omega | exact nI_pos (by omega))
    · refine z_iconst X (pc := 11) (v := 1) dJ1_canEncode_9a6ad_11 (by decide) ?_
      refine z_goto X (pc := 12) (tgt := 16) dJ1_canEncode_9a6ad_12 (by decide) ?_
      exact z_zret X Y (by decide) dJ1_canEncode_9a6ad_16 ⟨rfl, rfl⟩

def rm_J1_indexOfChar_4cfef : Room := { frames := 0, cells := 0, slots := 0, locals := 0 }
theorem ks_J1_indexOfChar_4cfef : KS yJ1_indexOfChar_4cfef cJ1_indexOfChar_4cfef 6 (some .int) 4 := ⟨⟨gw_929, gw_921, gw_930⟩, by decide +kernel⟩
set_option maxRecDepth 100000 in
set_option maxHeartbeats 4000000 in
theorem c_J1_indexOfChar_4cfef (E : ZE) (M : Mem) (k : Nat) (hk : k ≤ 126) : Mt E yJ1_indexOfChar_4cfef cJ1_indexOfChar_4cfef 6 (some .int) rm_J1_indexOfChar_4cfef [.ref (zsV E), .int (nI k), .int 0, .int 10] M (RI (fun v M1 => M = M1 ∧ HmP (nI k) v)) := by
  refine z_met (own := RJ1) (lv := [(0, .ref (zsV E)), (1, .int (nI k)), (2, .int 0), (3, .int 10)]) (by decide) rfl (Nat.le_of_ble_eq_true rfl) rfl (fun gg X Y => ?_)
  refine z_iload_n X (pc := 0) 1 dJ1_indexOfChar_4cfef_0 rfl rfl ?_
  refine z_i2b X (pc := 1) (v := (nI k)) dJ1_indexOfChar_4cfef_1 (i2b_k k (by omega)) ?_
  refine z_istore X (pc := 2) (lv1 := [(4, .int (nI k)), (0, .ref (zsV E)), (1, .int (nI k)), (2, .int 0), (3, .int 10)]) dJ1_indexOfChar_4cfef_2 (by decide) rfl ?_
  refine z_iload_n X (pc := 4) 3 dJ1_indexOfChar_4cfef_4 rfl rfl ?_
  refine z_istore X (pc := 5) (lv1 := [(5, .int 0), (4, .int (nI k)), (0, .ref (zsV E)), (1, .int (nI k)), (2, .int 0), (3, .int 10)]) dJ1_indexOfChar_4cfef_5 (by decide) rfl ?_
  refine z_sub (lv' := [(5, .int (nI 0)), (4, .int (nI k)), (0, .ref (zsV E)), (3, .int 10)]) [0, 1, 2, 5] rfl ?_
  refine z_loop (10) 7 (σ := Unit) (fun i s => ∀ j, j < i → ¬ hmL.getD j 0 = nI k) (fun i s => (M, [(5, .int (nI i)), (4, .int (nI k)), (0, .ref (zsV E)), (3, .int 10)])) ?_ 0 () (Nat.zero_le _) (fun j h => absurd h (Nat.not_lt_zero j))
  intro i s hi7 hJ7 ih7
  show Z gg E M [(5, .int (nI i)), (4, .int (nI k)), (0, .ref (zsV E)), (3, .int 10)] 7 []
  refine z_iload X (pc := 7) 0 dJ1_indexOfChar_4cfef_7 rfl ?_
  refine z_iload_n X (pc := 9) 3 dJ1_indexOfChar_4cfef_9 rfl rfl ?_
  refine z_nicmp_ge X (pc := 10) (a := i) (b := 10) (tgt := 31) dJ1_indexOfChar_4cfef_10 (by decide) (by omega) (by omega) (fun c10 => ?_) (fun c10 => ?_)
  · refine z_iconst X (pc := 31) (v := (-1)) dJ1_indexOfChar_4cfef_31 (by decide) ?_
    exact z_iret X Y dJ1_indexOfChar_4cfef_32 ⟨_, rfl, rfl, Or.inl ⟨rfl, fun j hj => hJ7 j (by omega)⟩⟩
  · refine z_aload_n X (pc := 13) 2 dJ1_indexOfChar_4cfef_13 rfl rfl ?_
    refine z_iload X (pc := 14) 0 dJ1_indexOfChar_4cfef_14 rfl ?_
    refine z_sbld X (pc := 16) (j := i) rfl (by omega) dJ1_indexOfChar_4cfef_16 ?_
    refine z_iload X (pc := 17) 1 dJ1_indexOfChar_4cfef_17 rfl ?_
    refine z_icmp_ne X (pc := 19) (tgt := 25) dJ1_indexOfChar_4cfef_19 (by decide) (fun c19 => ?_) (fun c19 => ?_)
    · refine z_iinc X (pc := 25) (v := (nI (i + 1))) (lv1 := [(5, .int (nI (i + 1))), (4, .int (nI k)), (0, .ref (zsV E)), (3, .int 10)]) 0 dJ1_indexOfChar_4cfef_25 rfl (nI_1 _) (by decide) rfl ?_
      refine z_goto X (pc := 28) (tgt := 7) dJ1_indexOfChar_4cfef_28 (by decide) ?_
      refine z_sub (lv' := [(5, .int (nI (i + 1))), (4, .int (nI k)), (0, .ref (zsV E)), (3, .int 10)]) [0, 1, 2, 3] rfl ?_
      exact ih7 () (by omega) (fun j hj => by rcases Nat.lt_or_ge j i with e | e; exact hJ7 j e; rw [show j = i by omega]; exact c19)
    · refine z_iload X (pc := 22) 0 dJ1_indexOfChar_4cfef_22 rfl ?_
      exact z_iret X Y dJ1_indexOfChar_4cfef_24 ⟨_, rfl, rfl, Or.inr ⟨i, by omega, rfl, c19⟩⟩

def rm_J1_indexOf_4cfef : Room := { frames := 1, cells := 0, slots := 0, locals := 25 }
theorem ks_J1_indexOf_4cfef : KS yJ1_indexOf_4cfef cJ1_indexOf_4cfef 4 (some .int) 4 := ⟨⟨gw_920, gw_921, gw_922⟩, by decide +kernel⟩
set_option maxRecDepth 100000 in
set_option maxHeartbeats 4000000 in
theorem c_J1_indexOf_4cfef (E : ZE) (M : Mem) (k : Nat) (hk : k ≤ 126) : Mt E yJ1_indexOf_4cfef cJ1_indexOf_4cfef 4 (some .int) rm_J1_indexOf_4cfef [.ref (zsV E), .int (nI k), .int 0, .int 10] M (RI (fun v M1 => M = M1 ∧ HmP (nI k) v)) := by
  refine z_met (own := RJ1) (lv := [(0, .ref (zsV E)), (1, .int (nI k)), (2, .int 0), (3, .int 10)]) (by decide) rfl (Nat.le_of_ble_eq_true rfl) rfl (fun gg X Y => ?_)
  refine z_iload_n X (pc := 0) 1 dJ1_indexOf_4cfef_0 rfl rfl ?_
  refine z_callS X (pc := 1) (rest := []) ks_J1_canEncode_9a6ad (c_J1_canEncode_9a6ad E M k (by omega)) gw_925 (by decide) rfl rfl (Nat.le_of_ble_eq_true rfl) dJ1_indexOf_4cfef_1 (zk_i ?_)
  refine z_if_ne X (pc := 4) (tgt := 9) dJ1_indexOf_4cfef_4 (by decide) (fun c4 => ?_) (fun c4 => ?_)
  · refine z_iload_n X (pc := 9) 2 dJ1_indexOf_4cfef_9 rfl rfl ?_
    refine z_iconst X (pc := 10) (v := 0) dJ1_indexOf_4cfef_10 (by decide) ?_
    refine z_max X (pc := 11) gw_923 gw_71 gw_72 gw_73 (by decide) (Nat.le_of_ble_eq_true rfl) dJ1_indexOf_4cfef_11 ?_
    refine z_top (y := 0) (by decide) ?_
    refine z_istore_n X (pc := 14) (lv1 := [(2, .int 0), (0, .ref (zsV E)), (1, .int (nI k)), (3, .int 10)]) dJ1_indexOf_4cfef_14 rfl (by decide) rfl ?_
    refine z_iload_n X (pc := 15) 3 dJ1_indexOf_4cfef_15 rfl rfl ?_
    refine z_aload_n X (pc := 16) 1 dJ1_indexOf_4cfef_16 rfl rfl ?_
    refine z_svln X (pc := 17) dJ1_indexOf_4cfef_17 ?_
    refine z_min X (pc := 18) gw_924 gw_177 gw_72 gw_178 (by decide) (Nat.le_of_ble_eq_true rfl) dJ1_indexOf_4cfef_18 ?_
    refine z_top (y := 10) (by decide) ?_
    refine z_istore_n X (pc := 21) (lv1 := [(3, .int 10), (2, .int 0), (0, .ref (zsV E)), (1, .int (nI k))]) dJ1_indexOf_4cfef_21 rfl (by decide) rfl ?_
    refine z_iload_n X (pc := 22) 1 dJ1_indexOf_4cfef_22 rfl rfl ?_
    refine z_iload_n X (pc := 23) 0 dJ1_indexOf_4cfef_23 rfl rfl ?_
    refine z_icmp_lt X (pc := 24) (tgt := 29) dJ1_indexOf_4cfef_24 (by decide) (fun c24 => ?_) (fun c24 => ?_)
    · refine z_aload_n X (pc := 29) 2 dJ1_indexOf_4cfef_29 rfl rfl ?_
      refine z_iload_n X (pc := 30) 3 dJ1_indexOf_4cfef_30 rfl rfl ?_
      refine z_iload_n X (pc := 31) 1 dJ1_indexOf_4cfef_31 rfl rfl ?_
      refine z_iload_n X (pc := 32) 0 dJ1_indexOf_4cfef_32 rfl rfl ?_
      refine z_callS X (pc := 33) (rest := []) ks_J1_indexOfChar_4cfef (c_J1_indexOfChar_4cfef E M k (by omega)) gw_928 (by decide) rfl rfl (Nat.le_of_ble_eq_true rfl) dJ1_indexOf_4cfef_33 (zk_ri (fun v_3 M_1 h_2 => ?_))
      obtain ⟨rfl, h_2⟩ := h_2
      exact z_iret X Y dJ1_indexOf_4cfef_36 ⟨_, rfl, rfl, h_2⟩
    · exact absurd (by decide) c24
  · exact absurd c4 (by decide)

def rm_J0_indexOf_7cf53 : Room := { frames := 2, cells := 0, slots := 0, locals := 48 }
theorem kv_J0_indexOf_7cf53 : KV yJ0_indexOf_7cf53 RJ0 cJ0_indexOf_7cf53 3 (some .int) 2 := ⟨⟨gw_901, gw_902, gw_898, gw_903⟩, by decide +kernel⟩
set_option maxRecDepth 100000 in
set_option maxHeartbeats 4000000 in
theorem c_J0_indexOf_7cf53 (E : ZE) (M : Mem) (k : Nat) (hk : k ≤ 126) : Mt E yJ0_indexOf_7cf53 cJ0_indexOf_7cf53 3 (some .int) rm_J0_indexOf_7cf53 [.ref (zsK E), .int (nI k), .int 0] M (RI (fun v M1 => M = M1 ∧ HmP (nI k) v)) := by
  refine z_met (own := RJ0) (lv := [(0, .ref (zsK E)), (1, .int (nI k)), (2, .int 0)]) (by decide) rfl (Nat.le_of_ble_eq_true rfl) rfl (fun gg X Y => ?_)
  refine z_aload_n X (pc := 0) 0 dJ0_indexOf_7cf53_0 rfl rfl ?_
  refine z_callK X (pc := 1) (rest := []) kv_J0_isLatin1_aae02 (c_J0_isLatin1_aae02 E M) rfl gw_905 (by decide) rfl rfl (Nat.le_of_ble_eq_true rfl) dJ0_indexOf_7cf53_1 (zk_i ?_)
  refine z_if_eq X (pc := 4) (tgt := 23) dJ0_indexOf_7cf53_4 (by decide) (fun c4 => ?_) (fun c4 => ?_)
  · exact absurd c4 (by decide)
  · refine z_aload_n X (pc := 7) 0 dJ0_indexOf_7cf53_7 rfl rfl ?_
    refine z_sval X (pc := 8) gw_904 dJ0_indexOf_7cf53_8 ?_
    refine z_iload_n X (pc := 11) 1 dJ0_indexOf_7cf53_11 rfl rfl ?_
    refine z_iload_n X (pc := 12) 2 dJ0_indexOf_7cf53_12 rfl rfl ?_
    refine z_aload_n X (pc := 13) 0 dJ0_indexOf_7cf53_13 rfl rfl ?_
    refine z_callK X (pc := 14) (rest := [.int 0, .int (nI k), .ref (zsV E)]) kv_J0_length_8abf5 (c_J0_length_8abf5 E M) rfl gw_911 (by decide) rfl rfl (Nat.le_of_ble_eq_true rfl) dJ0_indexOf_7cf53_14 (zk_i ?_)
    refine z_callS X (pc := 17) (rest := []) ks_J1_indexOf_4cfef (c_J1_indexOf_4cfef E M k (by omega)) gw_919 (by decide) rfl rfl (Nat.le_of_ble_eq_true rfl) dJ0_indexOf_7cf53_17 (zk_ri (fun v_3 M_1 h_2 => ?_))
    obtain ⟨rfl, h_2⟩ := h_2
    refine z_goto X (pc := 20) (tgt := 36) dJ0_indexOf_7cf53_20 (by decide) ?_
    exact z_iret X Y dJ0_indexOf_7cf53_36 ⟨_, rfl, rfl, h_2⟩

def rm_J0_indexOf_0f7a4 : Room := { frames := 3, cells := 0, slots := 0, locals := 70 }
theorem kv_J0_indexOf_0f7a4 : KV yJ0_indexOf_0f7a4 RJ0 cJ0_indexOf_0f7a4 2 (some .int) 1 := ⟨⟨gw_896, gw_897, gw_898, gw_899⟩, by decide +kernel⟩
set_option maxRecDepth 100000 in
set_option maxHeartbeats 4000000 in
theorem c_J0_indexOf_0f7a4 (E : ZE) (M : Mem) (k : Nat) (hk : k ≤ 126) : Mt E yJ0_indexOf_0f7a4 cJ0_indexOf_0f7a4 2 (some .int) rm_J0_indexOf_0f7a4 [.ref (zsK E), .int (nI k)] M (RI (fun v M1 => M = M1 ∧ HmP (nI k) v)) := by
  refine z_met (own := RJ0) (lv := [(0, .ref (zsK E)), (1, .int (nI k))]) (by decide) rfl (Nat.le_of_ble_eq_true rfl) rfl (fun gg X Y => ?_)
  refine z_aload_n X (pc := 0) 0 dJ0_indexOf_0f7a4_0 rfl rfl ?_
  refine z_iload_n X (pc := 1) 1 dJ0_indexOf_0f7a4_1 rfl rfl ?_
  refine z_iconst X (pc := 2) (v := 0) dJ0_indexOf_0f7a4_2 (by decide) ?_
  refine z_callK X (pc := 3) (rest := []) kv_J0_indexOf_7cf53 (c_J0_indexOf_7cf53 E M k (by omega)) rfl gw_900 (by decide) rfl rfl (Nat.le_of_ble_eq_true rfl) dJ0_indexOf_0f7a4_3 (zk_ri (fun v_3 M_1 h_2 => ?_))
  obtain ⟨rfl, h_2⟩ := h_2
  exact z_iret X Y dJ0_indexOf_0f7a4_6 ⟨_, rfl, rfl, h_2⟩

def rm_X11_sees : Room := { frames := 1, cells := 0, slots := 0, locals := 22 }
theorem kv_X11_sees : KV yX11_sees RX11 cX11_sees 3 (some .boolean) 2 := ⟨⟨gw_984, gw_985, gw_5, gw_986⟩, by decide +kernel⟩
set_option maxRecDepth 100000 in
set_option maxHeartbeats 4000000 in
theorem c_X11_sees_no (E : ZE) (M : Mem) (t : List Int32) (p : Nat) (hps : PS M t p true) (hp : p ≤ 2000) (lo hi : Int32) : Mt E yX11_sees cX11_sees 3 (some .boolean) rm_X11_sees [.ref (za E 32 0), .int lo, .int hi] M (PI 0 M) := by
  have hl0 : t.length ≤ 60 := hps.1.2.1
  refine z_met (own := RX11) (lv := [(0, .ref (za E 32 0)), (1, .int lo), (2, .int hi)]) (by decide) rfl (Nat.le_of_ble_eq_true rfl) rfl (fun gg X Y => ?_)
  refine z_aload_n X (pc := 0) 0 dX11_sees_0 rfl rfl ?_
  refine z_get X (pc := 1) 21 zk_32_0 (zc_32_0 E _) rfl inlX11 (by decide) gw_881 rfl rfl dX11_sees_1 ?_
  refine z_top (y := 1) hps.2.2 ?_
  refine z_if_ne X (pc := 4) (tgt := 39) dX11_sees_4 (by decide) (fun c4 => ?_) (fun c4 => ?_)
  · refine z_iconst X (pc := 39) (v := 0) dX11_sees_39 (by decide) ?_
    exact z_zret X Y (by decide) dX11_sees_40 ⟨rfl, rfl⟩
  · exact absurd c4 (by decide)
set_option maxRecDepth 100000 in
set_option maxHeartbeats 4000000 in
theorem c_X11_sees (E : ZE) (M : Mem) (t : List Int32) (p : Nat) (hps : PS M t p false) (hp : p ≤ 2000) (lo hi : Int32) (hlo : inB (-1) lo hi = false) : Mt E yX11_sees cX11_sees 3 (some .boolean) rm_X11_sees [.ref (za E 32 0), .int lo, .int hi] M (PI (zb (inB (chr t p) lo hi)) M) := by
  have hl0 : t.length ≤ 60 := hps.1.2.1
  refine z_met (own := RX11) (lv := [(0, .ref (za E 32 0)), (1, .int lo), (2, .int hi)]) (by decide) rfl (Nat.le_of_ble_eq_true rfl) rfl (fun gg X Y => ?_)
  refine z_aload_n X (pc := 0) 0 dX11_sees_0 rfl rfl ?_
  refine z_get X (pc := 1) 21 zk_32_0 (zc_32_0 E _) rfl inlX11 (by decide) gw_881 rfl rfl dX11_sees_1 ?_
  refine z_top (y := 0) hps.2.2 ?_
  refine z_if_ne X (pc := 4) (tgt := 39) dX11_sees_4 (by decide) (fun c4 => ?_) (fun c4 => ?_)
  · exact absurd c4 (by decide)
  · refine z_aload_n X (pc := 7) 0 dX11_sees_7 rfl rfl ?_
    refine z_get X (pc := 8) 16 zk_32_0 (zc_32_0 E _) rfl inlX11 (by decide) gw_882 rfl rfl dX11_sees_8 ?_
    refine z_top (y := (nI p)) hps.2.1 ?_
    refine z_aload_n X (pc := 11) 0 dX11_sees_11 rfl rfl ?_
    refine z_get X (pc := 12) 15 zk_32_0 (zc_32_0 E _) rfl inlX11 (by decide) gw_815 rfl rfl dX11_sees_12 ?_
    refine z_top (y := (nI t.length)) (And.left hps.1) ?_
    refine z_nicmp_ge X (pc := 15) (a := p) (b := t.length) (tgt := 39) dX11_sees_15 (by decide) (by omega) (by omega) (fun c15 => ?_) (fun c15 => ?_)
    · refine z_iconst X (pc := 39) (v := 0) dX11_sees_39 (by decide) ?_
      exact z_bret X Y dX11_sees_40 (by rw [chr_out c15, hlo]; rfl) rfl
    · refine z_aload_n X (pc := 18) 0 dX11_sees_18 rfl rfl ?_
      refine z_get X (pc := 19) 14 zk_32_0 (zc_32_0 E _) rfl inlX11 (by decide) gw_149 rfl rfl dX11_sees_19 ?_
      refine z_aload_n X (pc := 22) 0 dX11_sees_22 rfl rfl ?_
      refine z_get X (pc := 23) 16 zk_32_0 (zc_32_0 E _) rfl inlX11 (by decide) gw_882 rfl rfl dX11_sees_23 ?_
      refine z_top (y := (nI p)) hps.2.1 ?_
      refine z_cald X (pc := 26) (by decide) rfl (show p < 60 by omega) dX11_sees_26 ?_
      refine z_top (y := (chr t p)) (TM.at hps.1 (by omega)) ?_
      refine z_iload_n X (pc := 27) 1 dX11_sees_27 rfl rfl ?_
      refine z_iload_n X (pc := 28) 2 dX11_sees_28 rfl rfl ?_
      refine z_callS X (pc := 29) (rest := []) ks_X11_isBetween (c_X11_isBetween E M (chr t p) lo hi) gw_240 (by decide) rfl rfl (Nat.le_of_ble_eq_true rfl) dX11_sees_29 (zk_i ?_)
      refine z_bif_eq X (pc := 32) (tgt := 39) dX11_sees_32 (by decide) (fun c32 => ?_) (fun c32 => ?_)
      · refine z_iconst X (pc := 39) (v := 0) dX11_sees_39 (by decide) ?_
        exact z_bret X Y dX11_sees_40 (by simp [zb, c32]) rfl
      · refine z_iconst X (pc := 35) (v := 1) dX11_sees_35 (by decide) ?_
        refine z_goto X (pc := 36) (tgt := 40) dX11_sees_36 (by decide) ?_
        exact z_bret X Y dX11_sees_40 (by simp [zb, c32]) rfl

def rm_X11_readNumber : Room := { frames := 2, cells := 0, slots := 0, locals := 44 }
theorem kv_X11_readNumber : KV yX11_readNumber RX11 cX11_readNumber 4 (some .int) 1 := ⟨⟨gw_980, gw_981, gw_5, gw_982⟩, by decide +kernel⟩
set_option maxRecDepth 100000 in
set_option maxHeartbeats 4000000 in
theorem c_X11_readNumber_1 (E : ZE) (M : Mem) (t : List Int32) (p : Nat) (w : Bool) (hps : PS M t p w) (hp : p ≤ 1000)  : Mt E yX11_readNumber cX11_readNumber 4 (some .int) rm_X11_readNumber [.ref (za E 32 0), .int 1] M (RI (fun v M1 => v = (rnR t p w 1).1 ∧ PS M1 t (rnR t p w 1).2.1 (rnR t p w 1).2.2 ∧ Fq tN M M1)) := by
  have hl0 : t.length ≤ 60 := hps.1.2.1
  refine z_met (own := RX11) (lv := [(0, .ref (za E 32 0)), (1, .int 1)]) (by decide) rfl (Nat.le_of_ble_eq_true rfl) rfl (fun gg X Y => ?_)
  rcases Bool.eq_false_or_eq_true w with hw | hw
  · refine z_aload_n X (pc := 0) 0 dX11_readNumber_0 rfl rfl ?_
    refine z_dup X (pc := 1) dX11_readNumber_1 rfl ?_
    refine z_get X (pc := 2) 21 zk_32_0 (zc_32_0 E _) rfl inlX11 (by decide) gw_881 rfl rfl dX11_readNumber_2 ?_
    refine z_top (y := 1) (by have q := hps.2.2; rw [hw] at q; exact q) ?_
    refine z_aload_n X (pc := 5) 0 dX11_readNumber_5 rfl rfl ?_
    refine z_bipush X (pc := 6) (v := 48) dX11_readNumber_6 (by decide) ?_
    refine z_bipush X (pc := 8) (v := 57) dX11_readNumber_8 (by decide) ?_
    refine z_callV X (pc := 10) (rest := [.int 1, .ref (za E 32 0)]) kv_X11_sees (c_X11_sees_no E M t p ⟨hps.1, hps.2.1, (by have q := hps.2.2; rw [hw] at q; exact q)⟩ (by omega) 48 57) zk_32_0 (zc_32_0 E _) rfl rfl gw_983 (by decide) rfl rfl (Nat.le_of_ble_eq_true rfl) dX11_readNumber_10 (zk_i ?_)
    refine z_if_ne X (pc := 13) (tgt := 20) dX11_readNumber_13 (by decide) (fun c13 => ?_) (fun c13 => ?_)
    · exact absurd c13 (by decide)
    · refine z_iconst X (pc := 16) (v := 1) dX11_readNumber_16 (by decide) ?_
      refine z_goto X (pc := 17) (tgt := 21) dX11_readNumber_17 (by decide) ?_
      refine z_ior X (pc := 21) dX11_readNumber_21 ?_
      refine z_top (y := 1) (by decide) ?_
      refine z_put X (pc := 22) 21 zk_32_0 (zc_32_0 E _) rfl inlX11 tyX11 tyX11_ok nmX11 (by decide) gw_881 rfl rfl (ty := .boolean) (by decide +kernel) (by decide) rfl (Nat.le_of_ble_eq_true rfl) dX11_readNumber_22 rfl ?_
      refine z_iconst X (pc := 25) (v := 0) dX11_readNumber_25 (by decide) ?_
      refine z_istore_n X (pc := 26) (lv1 := [(2, .int 0), (0, .ref (za E 32 0)), (1, .int 1)]) dX11_readNumber_26 rfl (by decide) rfl ?_
      refine z_iconst X (pc := 27) (v := 0) dX11_readNumber_27 (by decide) ?_
      refine z_istore_n X (pc := 28) (lv1 := [(3, .int 0), (2, .int 0), (0, .ref (za E 32 0)), (1, .int 1)]) dX11_readNumber_28 rfl (by decide) rfl ?_
      refine z_iload_n X (pc := 29) 0 dX11_readNumber_29 rfl rfl ?_
      refine z_iload_n X (pc := 30) 3 dX11_readNumber_30 rfl rfl ?_
      refine z_icmp_ge X (pc := 31) (tgt := 79) dX11_readNumber_31 (by decide) (fun c31 => ?_) (fun c31 => ?_)
      · exact absurd c31 (by decide)
      · refine z_aload_n X (pc := 34) 2 dX11_readNumber_34 rfl rfl ?_
        refine z_bipush X (pc := 35) (v := 48) dX11_readNumber_35 (by decide) ?_
        refine z_bipush X (pc := 37) (v := 57) dX11_readNumber_37 (by decide) ?_
        refine z_callV X (pc := 39) (rest := []) kv_X11_sees (c_X11_sees_no E (up3 M 32 0 21 1) t p ⟨(TM.u0 (k := 21) hps.1 (by decide)), ((up3_ne (by omega)).trans hps.2.1), up3_same⟩ (by omega) 48 57) zk_32_0 (zc_32_0 E _) rfl rfl gw_983 (by decide) rfl rfl (Nat.le_of_ble_eq_true rfl) dX11_readNumber_39 (zk_i ?_)
        refine z_if_eq X (pc := 42) (tgt := 79) dX11_readNumber_42 (by decide) (fun c42 => ?_) (fun c42 => ?_)
        · refine z_iload_n X (pc := 79) 1 dX11_readNumber_79 rfl rfl ?_
          have hr : rnR t p w 1 = (0, p, true) := by simp [rnR, hw, c13, c31, c42]
          exact z_iret X Y dX11_readNumber_80 ⟨_, rfl, by rw [hr], by rw [hr]; exact ⟨(TM.u0 (k := 21) hps.1 (by decide)), ((up3_ne (by omega)).trans hps.2.1), up3_same⟩, (Fq.up (b := 32) (r := 0) (k := 21) (Fq.rf (P := tN) (M := M)) (by unfold tN; omega))⟩
        · exact absurd (by decide) c42
  · rcases Bool.eq_false_or_eq_true (isD t p) with hd | hd
    · refine z_aload_n X (pc := 0) 0 dX11_readNumber_0 rfl rfl ?_
      refine z_dup X (pc := 1) dX11_readNumber_1 rfl ?_
      refine z_get X (pc := 2) 21 zk_32_0 (zc_32_0 E _) rfl inlX11 (by decide) gw_881 rfl rfl dX11_readNumber_2 ?_
      refine z_top (y := 0) (by have q := hps.2.2; rw [hw] at q; exact q) ?_
      refine z_aload_n X (pc := 5) 0 dX11_readNumber_5 rfl rfl ?_
      refine z_bipush X (pc := 6) (v := 48) dX11_readNumber_6 (by decide) ?_
      refine z_bipush X (pc := 8) (v := 57) dX11_readNumber_8 (by decide) ?_
      refine z_callV X (pc := 10) (rest := [.int 0, .ref (za E 32 0)]) kv_X11_sees (c_X11_sees E M t p ⟨hps.1, hps.2.1, (by have q := hps.2.2; rw [hw] at q; exact q)⟩ (by omega) 48 57 (by decide)) zk_32_0 (zc_32_0 E _) rfl rfl gw_983 (by decide) rfl rfl (Nat.le_of_ble_eq_true rfl) dX11_readNumber_10 (zk_i ?_)
      refine z_top (y := 1) (show zb (isD t p) = 1 by rw [hd]; rfl) ?_
      refine z_if_ne X (pc := 13) (tgt := 20) dX11_readNumber_13 (by decide) (fun c13 => ?_) (fun c13 => ?_)
      · refine z_iconst X (pc := 20) (v := 0) dX11_readNumber_20 (by decide) ?_
        refine z_ior X (pc := 21) dX11_readNumber_21 ?_
        refine z_top (y := 0) (by decide) ?_
        refine z_put X (pc := 22) 21 zk_32_0 (zc_32_0 E _) rfl inlX11 tyX11 tyX11_ok nmX11 (by decide) gw_881 rfl rfl (ty := .boolean) (by decide +kernel) (by decide) rfl (Nat.le_of_ble_eq_true rfl) dX11_readNumber_22 rfl ?_
        refine z_iconst X (pc := 25) (v := 0) dX11_readNumber_25 (by decide) ?_
        refine z_istore_n X (pc := 26) (lv1 := [(2, .int 0), (0, .ref (za E 32 0)), (1, .int 1)]) dX11_readNumber_26 rfl (by decide) rfl ?_
        refine z_iconst X (pc := 27) (v := 0) dX11_readNumber_27 (by decide) ?_
        refine z_istore_n X (pc := 28) (lv1 := [(3, .int 0), (2, .int 0), (0, .ref (za E 32 0)), (1, .int 1)]) dX11_readNumber_28 rfl (by decide) rfl ?_
        refine z_iload_n X (pc := 29) 0 dX11_readNumber_29 rfl rfl ?_
        refine z_iload_n X (pc := 30) 3 dX11_readNumber_30 rfl rfl ?_
        refine z_icmp_ge X (pc := 31) (tgt := 79) dX11_readNumber_31 (by decide) (fun c31 => ?_) (fun c31 => ?_)
        · exact absurd c31 (by decide)
        · refine z_aload_n X (pc := 34) 2 dX11_readNumber_34 rfl rfl ?_
          refine z_bipush X (pc := 35) (v := 48) dX11_readNumber_35 (by decide) ?_
          refine z_bipush X (pc := 37) (v := 57) dX11_readNumber_37 (by decide) ?_
          refine z_callV X (pc := 39) (rest := []) kv_X11_sees (c_X11_sees E (up3 M 32 0 21 0) t p ⟨(TM.u0 (k := 21) hps.1 (by decide)), ((up3_ne (by omega)).trans hps.2.1), up3_same⟩ (by omega) 48 57 (by decide)) zk_32_0 (zc_32_0 E _) rfl rfl gw_983 (by decide) rfl rfl (Nat.le_of_ble_eq_true rfl) dX11_readNumber_39 (zk_i ?_)
          refine z_top (y := 1) (show zb (isD t p) = 1 by rw [hd]; rfl) ?_
          refine z_if_eq X (pc := 42) (tgt := 79) dX11_readNumber_42 (by decide) (fun c42 => ?_) (fun c42 => ?_)
          · exact absurd c42 (by decide)
          · refine z_bipush X (pc := 45) (v := 10) dX11_readNumber_45 (by decide) ?_
            refine z_iload_n X (pc := 47) 1 dX11_readNumber_47 rfl rfl ?_
            refine z_imul X (pc := 48) dX11_readNumber_48 ?_
            refine z_top (y := 0) (by decide) ?_
            refine z_aload_n X (pc := 49) 2 dX11_readNumber_49 rfl rfl ?_
            refine z_get X (pc := 50) 14 zk_32_0 (zc_32_0 E _) rfl inlX11 (by decide) gw_149 rfl rfl dX11_readNumber_50 ?_
            refine z_aload_n X (pc := 53) 2 dX11_readNumber_53 rfl rfl ?_
            refine z_get X (pc := 54) 16 zk_32_0 (zc_32_0 E _) rfl inlX11 (by decide) gw_882 rfl rfl dX11_readNumber_54 ?_
            refine z_top (y := (nI p)) ((up3_ne (by omega)).trans hps.2.1) ?_
            have hltp : p < t.length := isD_lt hd
            refine z_cald X (pc := 57) (by decide) rfl (show p < 60 by omega) dX11_readNumber_57 ?_
            refine z_top (y := (chr t p)) (TM.at (TM.u0 (k := 21) hps.1 (by decide)) (isD_lt hd)) ?_
            refine z_iadd X (pc := 58) dX11_readNumber_58 ?_
            refine z_bipush X (pc := 59) (v := 48) dX11_readNumber_59 (by decide) ?_
            refine z_isub X (pc := 61) dX11_readNumber_61 ?_
            refine z_istore_n X (pc := 62) (lv1 := [(2, .int ((0 + (chr t p)) - 48)), (3, .int 0), (0, .ref (za E 32 0)), (1, .int 1)]) dX11_readNumber_62 rfl (by decide) rfl ?_
            refine z_aload_n X (pc := 63) 2 dX11_readNumber_63 rfl rfl ?_
            refine z_dup X (pc := 64) dX11_readNumber_64 rfl ?_
            refine z_get X (pc := 65) 16 zk_32_0 (zc_32_0 E _) rfl inlX11 (by decide) gw_882 rfl rfl dX11_readNumber_65 ?_
            refine z_top (y := (nI p)) ((up3_ne (by omega)).trans hps.2.1) ?_
            refine z_iconst X (pc := 68) (v := 1) dX11_readNumber_68 (by decide) ?_
            refine z_iadd X (pc := 69) dX11_readNumber_69 ?_
            refine z_top (y := (nI (p + 1))) (nI_1 _) ?_
            refine z_put X (pc := 70) 16 zk_32_0 (zc_32_0 E _) rfl inlX11 tyX11 tyX11_ok nmX11 (by decide) gw_882 rfl rfl (ty := .int) (by decide +kernel) rfl rfl (Nat.le_of_ble_eq_true rfl) dX11_readNumber_70 rfl ?_
            refine z_iinc X (pc := 73) (v := 1) (lv1 := [(3, .int 1), (2, .int ((0 + (chr t p)) - 48)), (0, .ref (za E 32 0)), (1, .int 1)]) 1 dX11_readNumber_73 rfl (by decide) (by decide) rfl ?_
            refine z_goto X (pc := 76) (tgt := 29) dX11_readNumber_76 (by decide) ?_
            refine z_iload_n X (pc := 29) 0 dX11_readNumber_29 rfl rfl ?_
            refine z_iload_n X (pc := 30) 3 dX11_readNumber_30 rfl rfl ?_
            refine z_icmp_ge X (pc := 31) (tgt := 79) dX11_readNumber_31 (by decide) (fun c31_1 => ?_) (fun c31_1 => ?_)
            · refine z_iload_n X (pc := 79) 1 dX11_readNumber_79 rfl rfl ?_
              have hr : rnR t p w 1 = (((0 + (chr t p)) - 48), p + 1, false) := by simp [rnR, hw, hd, c13, c31, c42, c31_1, dV]
              exact z_iret X Y dX11_readNumber_80 ⟨_, rfl, by rw [hr], by rw [hr]; exact ⟨(TM.u0 (k := 16) (TM.u0 (k := 21) hps.1 (by decide)) (by decide)), up3_same, ((up3_ne (by omega)).trans up3_same)⟩, (Fq.up (b := 32) (r := 0) (k := 16) (Fq.up (b := 32) (r := 0) (k := 21) (Fq.rf (P := tN) (M := M)) (by unfold tN; omega)) (by unfold tN; omega))⟩
            · exact absurd (by decide) c31_1
      · exact absurd c13 (by decide)
    · refine z_aload_n X (pc := 0) 0 dX11_readNumber_0 rfl rfl ?_
      refine z_dup X (pc := 1) dX11_readNumber_1 rfl ?_
      refine z_get X (pc := 2) 21 zk_32_0 (zc_32_0 E _) rfl inlX11 (by decide) gw_881 rfl rfl dX11_readNumber_2 ?_
      refine z_top (y := 0) (by have q := hps.2.2; rw [hw] at q; exact q) ?_
      refine z_aload_n X (pc := 5) 0 dX11_readNumber_5 rfl rfl ?_
      refine z_bipush X (pc := 6) (v := 48) dX11_readNumber_6 (by decide) ?_
      refine z_bipush X (pc := 8) (v := 57) dX11_readNumber_8 (by decide) ?_
      refine z_callV X (pc := 10) (rest := [.int 0, .ref (za E 32 0)]) kv_X11_sees (c_X11_sees E M t p ⟨hps.1, hps.2.1, (by have q := hps.2.2; rw [hw] at q; exact q)⟩ (by omega) 48 57 (by decide)) zk_32_0 (zc_32_0 E _) rfl rfl gw_983 (by decide) rfl rfl (Nat.le_of_ble_eq_true rfl) dX11_readNumber_10 (zk_i ?_)
      refine z_top (y := 0) (show zb (isD t p) = 0 by rw [hd]; rfl) ?_
      refine z_if_ne X (pc := 13) (tgt := 20) dX11_readNumber_13 (by decide) (fun c13 => ?_) (fun c13 => ?_)
      · exact absurd c13 (by decide)
      · refine z_iconst X (pc := 16) (v := 1) dX11_readNumber_16 (by decide) ?_
        refine z_goto X (pc := 17) (tgt := 21) dX11_readNumber_17 (by decide) ?_
        refine z_ior X (pc := 21) dX11_readNumber_21 ?_
        refine z_top (y := 1) (by decide) ?_
        refine z_put X (pc := 22) 21 zk_32_0 (zc_32_0 E _) rfl inlX11 tyX11 tyX11_ok nmX11 (by decide) gw_881 rfl rfl (ty := .boolean) (by decide +kernel) (by decide) rfl (Nat.le_of_ble_eq_true rfl) dX11_readNumber_22 rfl ?_
        refine z_iconst X (pc := 25) (v := 0) dX11_readNumber_25 (by decide) ?_
        refine z_istore_n X (pc := 26) (lv1 := [(2, .int 0), (0, .ref (za E 32 0)), (1, .int 1)]) dX11_readNumber_26 rfl (by decide) rfl ?_
        refine z_iconst X (pc := 27) (v := 0) dX11_readNumber_27 (by decide) ?_
        refine z_istore_n X (pc := 28) (lv1 := [(3, .int 0), (2, .int 0), (0, .ref (za E 32 0)), (1, .int 1)]) dX11_readNumber_28 rfl (by decide) rfl ?_
        refine z_iload_n X (pc := 29) 0 dX11_readNumber_29 rfl rfl ?_
        refine z_iload_n X (pc := 30) 3 dX11_readNumber_30 rfl rfl ?_
        refine z_icmp_ge X (pc := 31) (tgt := 79) dX11_readNumber_31 (by decide) (fun c31 => ?_) (fun c31 => ?_)
        · exact absurd c31 (by decide)
        · refine z_aload_n X (pc := 34) 2 dX11_readNumber_34 rfl rfl ?_
          refine z_bipush X (pc := 35) (v := 48) dX11_readNumber_35 (by decide) ?_
          refine z_bipush X (pc := 37) (v := 57) dX11_readNumber_37 (by decide) ?_
          refine z_callV X (pc := 39) (rest := []) kv_X11_sees (c_X11_sees_no E (up3 M 32 0 21 1) t p ⟨(TM.u0 (k := 21) hps.1 (by decide)), ((up3_ne (by omega)).trans hps.2.1), up3_same⟩ (by omega) 48 57) zk_32_0 (zc_32_0 E _) rfl rfl gw_983 (by decide) rfl rfl (Nat.le_of_ble_eq_true rfl) dX11_readNumber_39 (zk_i ?_)
          refine z_if_eq X (pc := 42) (tgt := 79) dX11_readNumber_42 (by decide) (fun c42 => ?_) (fun c42 => ?_)
          · refine z_iload_n X (pc := 79) 1 dX11_readNumber_79 rfl rfl ?_
            have hr : rnR t p w 1 = (0, p, true) := by simp [rnR, hw, hd, c13, c31, c42]
            exact z_iret X Y dX11_readNumber_80 ⟨_, rfl, by rw [hr], by rw [hr]; exact ⟨(TM.u0 (k := 21) hps.1 (by decide)), ((up3_ne (by omega)).trans hps.2.1), up3_same⟩, (Fq.up (b := 32) (r := 0) (k := 21) (Fq.rf (P := tN) (M := M)) (by unfold tN; omega))⟩
          · exact absurd (by decide) c42
set_option maxRecDepth 100000 in
set_option maxHeartbeats 4000000 in
theorem c_X11_readNumber_2 (E : ZE) (M : Mem) (t : List Int32) (p : Nat) (w : Bool) (hps : PS M t p w) (hp : p ≤ 1000)  : Mt E yX11_readNumber cX11_readNumber 4 (some .int) rm_X11_readNumber [.ref (za E 32 0), .int 2] M (RI (fun v M1 => v = (rnR t p w 2).1 ∧ PS M1 t (rnR t p w 2).2.1 (rnR t p w 2).2.2 ∧ Fq tN M M1)) := by
  have hl0 : t.length ≤ 60 := hps.1.2.1
  refine z_met (own := RX11) (lv := [(0, .ref (za E 32 0)), (1, .int 2)]) (by decide) rfl (Nat.le_of_ble_eq_true rfl) rfl (fun gg X Y => ?_)
  rcases Bool.eq_false_or_eq_true w with hw | hw
  · refine z_aload_n X (pc := 0) 0 dX11_readNumber_0 rfl rfl ?_
    refine z_dup X (pc := 1) dX11_readNumber_1 rfl ?_
    refine z_get X (pc := 2) 21 zk_32_0 (zc_32_0 E _) rfl inlX11 (by decide) gw_881 rfl rfl dX11_readNumber_2 ?_
    refine z_top (y := 1) (by have q := hps.2.2; rw [hw] at q; exact q) ?_
    refine z_aload_n X (pc := 5) 0 dX11_readNumber_5 rfl rfl ?_
    refine z_bipush X (pc := 6) (v := 48) dX11_readNumber_6 (by decide) ?_
    refine z_bipush X (pc := 8) (v := 57) dX11_readNumber_8 (by decide) ?_
    refine z_callV X (pc := 10) (rest := [.int 1, .ref (za E 32 0)]) kv_X11_sees (c_X11_sees_no E M t p ⟨hps.1, hps.2.1, (by have q := hps.2.2; rw [hw] at q; exact q)⟩ (by omega) 48 57) zk_32_0 (zc_32_0 E _) rfl rfl gw_983 (by decide) rfl rfl (Nat.le_of_ble_eq_true rfl) dX11_readNumber_10 (zk_i ?_)
    refine z_if_ne X (pc := 13) (tgt := 20) dX11_readNumber_13 (by decide) (fun c13 => ?_) (fun c13 => ?_)
    · exact absurd c13 (by decide)
    · refine z_iconst X (pc := 16) (v := 1) dX11_readNumber_16 (by decide) ?_
      refine z_goto X (pc := 17) (tgt := 21) dX11_readNumber_17 (by decide) ?_
      refine z_ior X (pc := 21) dX11_readNumber_21 ?_
      refine z_top (y := 1) (by decide) ?_
      refine z_put X (pc := 22) 21 zk_32_0 (zc_32_0 E _) rfl inlX11 tyX11 tyX11_ok nmX11 (by decide) gw_881 rfl rfl (ty := .boolean) (by decide +kernel) (by decide) rfl (Nat.le_of_ble_eq_true rfl) dX11_readNumber_22 rfl ?_
      refine z_iconst X (pc := 25) (v := 0) dX11_readNumber_25 (by decide) ?_
      refine z_istore_n X (pc := 26) (lv1 := [(2, .int 0), (0, .ref (za E 32 0)), (1, .int 2)]) dX11_readNumber_26 rfl (by decide) rfl ?_
      refine z_iconst X (pc := 27) (v := 0) dX11_readNumber_27 (by decide) ?_
      refine z_istore_n X (pc := 28) (lv1 := [(3, .int 0), (2, .int 0), (0, .ref (za E 32 0)), (1, .int 2)]) dX11_readNumber_28 rfl (by decide) rfl ?_
      refine z_iload_n X (pc := 29) 0 dX11_readNumber_29 rfl rfl ?_
      refine z_iload_n X (pc := 30) 3 dX11_readNumber_30 rfl rfl ?_
      refine z_icmp_ge X (pc := 31) (tgt := 79) dX11_readNumber_31 (by decide) (fun c31 => ?_) (fun c31 => ?_)
      · exact absurd c31 (by decide)
      · refine z_aload_n X (pc := 34) 2 dX11_readNumber_34 rfl rfl ?_
        refine z_bipush X (pc := 35) (v := 48) dX11_readNumber_35 (by decide) ?_
        refine z_bipush X (pc := 37) (v := 57) dX11_readNumber_37 (by decide) ?_
        refine z_callV X (pc := 39) (rest := []) kv_X11_sees (c_X11_sees_no E (up3 M 32 0 21 1) t p ⟨(TM.u0 (k := 21) hps.1 (by decide)), ((up3_ne (by omega)).trans hps.2.1), up3_same⟩ (by omega) 48 57) zk_32_0 (zc_32_0 E _) rfl rfl gw_983 (by decide) rfl rfl (Nat.le_of_ble_eq_true rfl) dX11_readNumber_39 (zk_i ?_)
        refine z_if_eq X (pc := 42) (tgt := 79) dX11_readNumber_42 (by decide) (fun c42 => ?_) (fun c42 => ?_)
        · refine z_iload_n X (pc := 79) 1 dX11_readNumber_79 rfl rfl ?_
          have hr : rnR t p w 2 = (0, p, true) := by simp [rnR, hw, c13, c31, c42]
          exact z_iret X Y dX11_readNumber_80 ⟨_, rfl, by rw [hr], by rw [hr]; exact ⟨(TM.u0 (k := 21) hps.1 (by decide)), ((up3_ne (by omega)).trans hps.2.1), up3_same⟩, (Fq.up (b := 32) (r := 0) (k := 21) (Fq.rf (P := tN) (M := M)) (by unfold tN; omega))⟩
        · exact absurd (by decide) c42
  · rcases Bool.eq_false_or_eq_true (isD t p) with hd | hd
    · rcases Bool.eq_false_or_eq_true (isD t (p + 1)) with hd2 | hd2
      · refine z_aload_n X (pc := 0) 0 dX11_readNumber_0 rfl rfl ?_
        refine z_dup X (pc := 1) dX11_readNumber_1 rfl ?_
        refine z_get X (pc := 2) 21 zk_32_0 (zc_32_0 E _) rfl inlX11 (by decide) gw_881 rfl rfl dX11_readNumber_2 ?_
        refine z_top (y := 0) (by have q := hps.2.2; rw [hw] at q; exact q) ?_
        refine z_aload_n X (pc := 5) 0 dX11_readNumber_5 rfl rfl ?_
        refine z_bipush X (pc := 6) (v := 48) dX11_readNumber_6 (by decide) ?_
        refine z_bipush X (pc := 8) (v := 57) dX11_readNumber_8 (by decide) ?_
        refine z_callV X (pc := 10) (rest := [.int 0, .ref (za E 32 0)]) kv_X11_sees (c_X11_sees E M t p ⟨hps.1, hps.2.1, (by have q := hps.2.2; rw [hw] at q; exact q)⟩ (by omega) 48 57 (by decide)) zk_32_0 (zc_32_0 E _) rfl rfl gw_983 (by decide) rfl rfl (Nat.le_of_ble_eq_true rfl) dX11_readNumber_10 (zk_i ?_)
        refine z_top (y := 1) (show zb (isD t p) = 1 by rw [hd]; rfl) ?_
        refine z_if_ne X (pc := 13) (tgt := 20) dX11_readNumber_13 (by decide) (fun c13 => ?_) (fun c13 => ?_)
        · refine z_iconst X (pc := 20) (v := 0) dX11_readNumber_20 (by decide) ?_
          refine z_ior X (pc := 21) dX11_readNumber_21 ?_
          refine z_top (y := 0) (by decide) ?_
          refine z_put X (pc := 22) 21 zk_32_0 (zc_32_0 E _) rfl inlX11 tyX11 tyX11_ok nmX11 (by decide) gw_881 rfl rfl (ty := .boolean) (by decide +kernel) (by decide) rfl (Nat.le_of_ble_eq_true rfl) dX11_readNumber_22 rfl ?_
          refine z_iconst X (pc := 25) (v := 0) dX11_readNumber_25 (by decide) ?_
          refine z_istore_n X (pc := 26) (lv1 := [(2, .int 0), (0, .ref (za E 32 0)), (1, .int 2)]) dX11_readNumber_26 rfl (by decide) rfl ?_
          refine z_iconst X (pc := 27) (v := 0) dX11_readNumber_27 (by decide) ?_
          refine z_istore_n X (pc := 28) (lv1 := [(3, .int 0), (2, .int 0), (0, .ref (za E 32 0)), (1, .int 2)]) dX11_readNumber_28 rfl (by decide) rfl ?_
          refine z_iload_n X (pc := 29) 0 dX11_readNumber_29 rfl rfl ?_
          refine z_iload_n X (pc := 30) 3 dX11_readNumber_30 rfl rfl ?_
          refine z_icmp_ge X (pc := 31) (tgt := 79) dX11_readNumber_31 (by decide) (fun c31 => ?_) (fun c31 => ?_)
          · exact absurd c31 (by decide)
          · refine z_aload_n X (pc := 34) 2 dX11_readNumber_34 rfl rfl ?_
            refine z_bipush X (pc := 35) (v := 48) dX11_readNumber_35 (by decide) ?_
            refine z_bipush X (pc := 37) (v := 57) dX11_readNumber_37 (by decide) ?_
            refine z_callV X (pc := 39) (rest := []) kv_X11_sees (c_X11_sees E (up3 M 32 0 21 0) t p ⟨(TM.u0 (k := 21) hps.1 (by decide)), ((up3_ne (by omega)).trans hps.2.1), up3_same⟩ (by omega) 48 57 (by decide)) zk_32_0 (zc_32_0 E _) rfl rfl gw_983 (by decide) rfl rfl (Nat.le_of_ble_eq_true rfl) dX11_readNumber_39 (zk_i ?_)
            refine z_top (y := 1) (show zb (isD t p) = 1 by rw [hd]; rfl) ?_
            refine z_if_eq X (pc := 42) (tgt := 79) dX11_readNumber_42 (by decide) (fun c42 => ?_) (fun c42 => ?_)
            · exact absurd c42 (by decide)
            · refine z_bipush X (pc := 45) (v := 10) dX11_readNumber_45 (by decide) ?_
              refine z_iload_n X (pc := 47) 1 dX11_readNumber_47 rfl rfl ?_
              refine z_imul X (pc := 48) dX11_readNumber_48 ?_
              refine z_top (y := 0) (by decide) ?_
              refine z_aload_n X (pc := 49) 2 dX11_readNumber_49 rfl rfl ?_
              refine z_get X (pc := 50) 14 zk_32_0 (zc_32_0 E _) rfl inlX11 (by decide) gw_149 rfl rfl dX11_readNumber_50 ?_
              refine z_aload_n X (pc := 53) 2 dX11_readNumber_53 rfl rfl ?_
              refine z_get X (pc := 54) 16 zk_32_0 (zc_32_0 E _) rfl inlX11 (by decide) gw_882 rfl rfl dX11_readNumber_54 ?_
              refine z_top (y := (nI p)) ((up3_ne (by omega)).trans hps.2.1) ?_
              have hltp : p < t.length := isD_lt hd
              refine z_cald X (pc := 57) (by decide) rfl (show p < 60 by omega) dX11_readNumber_57 ?_
              refine z_top (y := (chr t p)) (TM.at (TM.u0 (k := 21) hps.1 (by decide)) (isD_lt hd)) ?_
              refine z_iadd X (pc := 58) dX11_readNumber_58 ?_
              refine z_bipush X (pc := 59) (v := 48) dX11_readNumber_59 (by decide) ?_
              refine z_isub X (pc := 61) dX11_readNumber_61 ?_
              refine z_istore_n X (pc := 62) (lv1 := [(2, .int ((0 + (chr t p)) - 48)), (3, .int 0), (0, .ref (za E 32 0)), (1, .int 2)]) dX11_readNumber_62 rfl (by decide) rfl ?_
              refine z_aload_n X (pc := 63) 2 dX11_readNumber_63 rfl rfl ?_
              refine z_dup X (pc := 64) dX11_readNumber_64 rfl ?_
              refine z_get X (pc := 65) 16 zk_32_0 (zc_32_0 E _) rfl inlX11 (by decide) gw_882 rfl rfl dX11_readNumber_65 ?_
              refine z_top (y := (nI p)) ((up3_ne (by omega)).trans hps.2.1) ?_
              refine z_iconst X (pc := 68) (v := 1) dX11_readNumber_68 (by decide) ?_
              refine z_iadd X (pc := 69) dX11_readNumber_69 ?_
              refine z_top (y := (nI (p + 1))) (nI_1 _) ?_
              refine z_put X (pc := 70) 16 zk_32_0 (zc_32_0 E _) rfl inlX11 tyX11 tyX11_ok nmX11 (by decide) gw_882 rfl rfl (ty := .int) (by decide +kernel) rfl rfl (Nat.le_of_ble_eq_true rfl) dX11_readNumber_70 rfl ?_
              refine z_iinc X (pc := 73) (v := 1) (lv1 := [(3, .int 1), (2, .int ((0 + (chr t p)) - 48)), (0, .ref (za E 32 0)), (1, .int 2)]) 1 dX11_readNumber_73 rfl (by decide) (by decide) rfl ?_
              refine z_goto X (pc := 76) (tgt := 29) dX11_readNumber_76 (by decide) ?_
              refine z_iload_n X (pc := 29) 0 dX11_readNumber_29 rfl rfl ?_
              refine z_iload_n X (pc := 30) 3 dX11_readNumber_30 rfl rfl ?_
              refine z_icmp_ge X (pc := 31) (tgt := 79) dX11_readNumber_31 (by decide) (fun c31_1 => ?_) (fun c31_1 => ?_)
              · exact absurd c31_1 (by decide)
              · refine z_aload_n X (pc := 34) 2 dX11_readNumber_34 rfl rfl ?_
                refine z_bipush X (pc := 35) (v := 48) dX11_readNumber_35 (by decide) ?_
                refine z_bipush X (pc := 37) (v := 57) dX11_readNumber_37 (by decide) ?_
                refine z_callV X (pc := 39) (rest := []) kv_X11_sees (c_X11_sees E (up3 (up3 M 32 0 21 0) 32 0 16 (nI (p + 1))) t (p + 1) ⟨(TM.u0 (k := 16) (TM.u0 (k := 21) hps.1 (by decide)) (by decide)), up3_same, ((up3_ne (by omega)).trans up3_same)⟩ (by omega) 48 57 (by decide)) zk_32_0 (zc_32_0 E _) rfl rfl gw_983 (by decide) rfl rfl (Nat.le_of_ble_eq_true rfl) dX11_readNumber_39 (zk_i ?_)
                refine z_top (y := 1) (show zb (isD t (p + 1)) = 1 by rw [hd2]; rfl) ?_
                refine z_if_eq X (pc := 42) (tgt := 79) dX11_readNumber_42 (by decide) (fun c42_2 => ?_) (fun c42_2 => ?_)
                · exact absurd c42_2 (by decide)
                · refine z_bipush X (pc := 45) (v := 10) dX11_readNumber_45 (by decide) ?_
                  refine z_iload_n X (pc := 47) 1 dX11_readNumber_47 rfl rfl ?_
                  refine z_imul X (pc := 48) dX11_readNumber_48 ?_
                  refine z_aload_n X (pc := 49) 2 dX11_readNumber_49 rfl rfl ?_
                  refine z_get X (pc := 50) 14 zk_32_0 (zc_32_0 E _) rfl inlX11 (by decide) gw_149 rfl rfl dX11_readNumber_50 ?_
                  refine z_aload_n X (pc := 53) 2 dX11_readNumber_53 rfl rfl ?_
                  refine z_get X (pc := 54) 16 zk_32_0 (zc_32_0 E _) rfl inlX11 (by decide) gw_882 rfl rfl dX11_readNumber_54 ?_
                  refine z_top (y := (nI (p + 1))) up3_same ?_
                  have hltp1 : p + 1 < t.length := isD_lt hd2
                  refine z_cald X (pc := 57) (by decide) rfl (show p + 1 < 60 by omega) dX11_readNumber_57 ?_
                  refine z_top (y := (chr t (p + 1))) (TM.at (TM.u0 (k := 16) (TM.u0 (k := 21) hps.1 (by decide)) (by decide)) (isD_lt hd2)) ?_
                  refine z_iadd X (pc := 58) dX11_readNumber_58 ?_
                  refine z_bipush X (pc := 59) (v := 48) dX11_readNumber_59 (by decide) ?_
                  refine z_isub X (pc := 61) dX11_readNumber_61 ?_
                  refine z_istore_n X (pc := 62) (lv1 := [(2, .int (((10 * ((0 + (chr t p)) - 48)) + (chr t (p + 1))) - 48)), (3, .int 1), (0, .ref (za E 32 0)), (1, .int 2)]) dX11_readNumber_62 rfl (by decide) rfl ?_
                  refine z_aload_n X (pc := 63) 2 dX11_readNumber_63 rfl rfl ?_
                  refine z_dup X (pc := 64) dX11_readNumber_64 rfl ?_
                  refine z_get X (pc := 65) 16 zk_32_0 (zc_32_0 E _) rfl inlX11 (by decide) gw_882 rfl rfl dX11_readNumber_65 ?_
                  refine z_top (y := (nI (p + 1))) up3_same ?_
                  refine z_iconst X (pc := 68) (v := 1) dX11_readNumber_68 (by decide) ?_
                  refine z_iadd X (pc := 69) dX11_readNumber_69 ?_
                  refine z_top (y := (nI (p + 2))) (nI_1 _) ?_
                  refine z_put X (pc := 70) 16 zk_32_0 (zc_32_0 E _) rfl inlX11 tyX11 tyX11_ok nmX11 (by decide) gw_882 rfl rfl (ty := .int) (by decide +kernel) rfl rfl (Nat.le_of_ble_eq_true rfl) dX11_readNumber_70 rfl ?_
                  refine z_iinc X (pc := 73) (v := 2) (lv1 := [(3, .int 2), (2, .int (((10 * ((0 + (chr t p)) - 48)) + (chr t (p + 1))) - 48)), (0, .ref (za E 32 0)), (1, .int 2)]) 1 dX11_readNumber_73 rfl (by decide) (by decide) rfl ?_
                  refine z_goto X (pc := 76) (tgt := 29) dX11_readNumber_76 (by decide) ?_
                  refine z_iload_n X (pc := 29) 0 dX11_readNumber_29 rfl rfl ?_
                  refine z_iload_n X (pc := 30) 3 dX11_readNumber_30 rfl rfl ?_
                  refine z_icmp_ge X (pc := 31) (tgt := 79) dX11_readNumber_31 (by decide) (fun c31_3 => ?_) (fun c31_3 => ?_)
                  · refine z_iload_n X (pc := 79) 1 dX11_readNumber_79 rfl rfl ?_
                    have hr : rnR t p w 2 = ((((10 * ((0 + (chr t p)) - 48)) + (chr t (p + 1))) - 48), p + 2, false) := by simp [rnR, hw, hd, hd2, c13, c31, c42, c31_1, c42_2, c31_3, dV]
                    exact z_iret X Y dX11_readNumber_80 ⟨_, rfl, by rw [hr], by rw [hr]; exact ⟨(TM.u0 (k := 16) (TM.u0 (k := 16) (TM.u0 (k := 21) hps.1 (by decide)) (by decide)) (by decide)), up3_same, ((up3_ne (by omega)).trans ((up3_ne (by omega)).trans up3_same))⟩, (Fq.up (b := 32) (r := 0) (k := 16) (Fq.up (b := 32) (r := 0) (k := 16) (Fq.up (b := 32) (r := 0) (k := 21) (Fq.rf (P := tN) (M := M)) (by unfold tN; omega)) (by unfold tN; omega)) (by unfold tN; omega))⟩
                  · exact absurd (by decide) c31_3
        · exact absurd c13 (by decide)
      · refine z_aload_n X (pc := 0) 0 dX11_readNumber_0 rfl rfl ?_
        refine z_dup X (pc := 1) dX11_readNumber_1 rfl ?_
        refine z_get X (pc := 2) 21 zk_32_0 (zc_32_0 E _) rfl inlX11 (by decide) gw_881 rfl rfl dX11_readNumber_2 ?_
        refine z_top (y := 0) (by have q := hps.2.2; rw [hw] at q; exact q) ?_
        refine z_aload_n X (pc := 5) 0 dX11_readNumber_5 rfl rfl ?_
        refine z_bipush X (pc := 6) (v := 48) dX11_readNumber_6 (by decide) ?_
        refine z_bipush X (pc := 8) (v := 57) dX11_readNumber_8 (by decide) ?_
        refine z_callV X (pc := 10) (rest := [.int 0, .ref (za E 32 0)]) kv_X11_sees (c_X11_sees E M t p ⟨hps.1, hps.2.1, (by have q := hps.2.2; rw [hw] at q; exact q)⟩ (by omega) 48 57 (by decide)) zk_32_0 (zc_32_0 E _) rfl rfl gw_983 (by decide) rfl rfl (Nat.le_of_ble_eq_true rfl) dX11_readNumber_10 (zk_i ?_)
        refine z_top (y := 1) (show zb (isD t p) = 1 by rw [hd]; rfl) ?_
        refine z_if_ne X (pc := 13) (tgt := 20) dX11_readNumber_13 (by decide) (fun c13 => ?_) (fun c13 => ?_)
        · refine z_iconst X (pc := 20) (v := 0) dX11_readNumber_20 (by decide) ?_
          refine z_ior X (pc := 21) dX11_readNumber_21 ?_
          refine z_top (y := 0) (by decide) ?_
          refine z_put X (pc := 22) 21 zk_32_0 (zc_32_0 E _) rfl inlX11 tyX11 tyX11_ok nmX11 (by decide) gw_881 rfl rfl (ty := .boolean) (by decide +kernel) (by decide) rfl (Nat.le_of_ble_eq_true rfl) dX11_readNumber_22 rfl ?_
          refine z_iconst X (pc := 25) (v := 0) dX11_readNumber_25 (by decide) ?_
          refine z_istore_n X (pc := 26) (lv1 := [(2, .int 0), (0, .ref (za E 32 0)), (1, .int 2)]) dX11_readNumber_26 rfl (by decide) rfl ?_
          refine z_iconst X (pc := 27) (v := 0) dX11_readNumber_27 (by decide) ?_
          refine z_istore_n X (pc := 28) (lv1 := [(3, .int 0), (2, .int 0), (0, .ref (za E 32 0)), (1, .int 2)]) dX11_readNumber_28 rfl (by decide) rfl ?_
          refine z_iload_n X (pc := 29) 0 dX11_readNumber_29 rfl rfl ?_
          refine z_iload_n X (pc := 30) 3 dX11_readNumber_30 rfl rfl ?_
          refine z_icmp_ge X (pc := 31) (tgt := 79) dX11_readNumber_31 (by decide) (fun c31 => ?_) (fun c31 => ?_)
          · exact absurd c31 (by decide)
          · refine z_aload_n X (pc := 34) 2 dX11_readNumber_34 rfl rfl ?_
            refine z_bipush X (pc := 35) (v := 48) dX11_readNumber_35 (by decide) ?_
            refine z_bipush X (pc := 37) (v := 57) dX11_readNumber_37 (by decide) ?_
            refine z_callV X (pc := 39) (rest := []) kv_X11_sees (c_X11_sees E (up3 M 32 0 21 0) t p ⟨(TM.u0 (k := 21) hps.1 (by decide)), ((up3_ne (by omega)).trans hps.2.1), up3_same⟩ (by omega) 48 57 (by decide)) zk_32_0 (zc_32_0 E _) rfl rfl gw_983 (by decide) rfl rfl (Nat.le_of_ble_eq_true rfl) dX11_readNumber_39 (zk_i ?_)
            refine z_top (y := 1) (show zb (isD t p) = 1 by rw [hd]; rfl) ?_
            refine z_if_eq X (pc := 42) (tgt := 79) dX11_readNumber_42 (by decide) (fun c42 => ?_) (fun c42 => ?_)
            · exact absurd c42 (by decide)
            · refine z_bipush X (pc := 45) (v := 10) dX11_readNumber_45 (by decide) ?_
              refine z_iload_n X (pc := 47) 1 dX11_readNumber_47 rfl rfl ?_
              refine z_imul X (pc := 48) dX11_readNumber_48 ?_
              refine z_top (y := 0) (by decide) ?_
              refine z_aload_n X (pc := 49) 2 dX11_readNumber_49 rfl rfl ?_
              refine z_get X (pc := 50) 14 zk_32_0 (zc_32_0 E _) rfl inlX11 (by decide) gw_149 rfl rfl dX11_readNumber_50 ?_
              refine z_aload_n X (pc := 53) 2 dX11_readNumber_53 rfl rfl ?_
              refine z_get X (pc := 54) 16 zk_32_0 (zc_32_0 E _) rfl inlX11 (by decide) gw_882 rfl rfl dX11_readNumber_54 ?_
              refine z_top (y := (nI p)) ((up3_ne (by omega)).trans hps.2.1) ?_
              have hltp : p < t.length := isD_lt hd
              refine z_cald X (pc := 57) (by decide) rfl (show p < 60 by omega) dX11_readNumber_57 ?_
              refine z_top (y := (chr t p)) (TM.at (TM.u0 (k := 21) hps.1 (by decide)) (isD_lt hd)) ?_
              refine z_iadd X (pc := 58) dX11_readNumber_58 ?_
              refine z_bipush X (pc := 59) (v := 48) dX11_readNumber_59 (by decide) ?_
              refine z_isub X (pc := 61) dX11_readNumber_61 ?_
              refine z_istore_n X (pc := 62) (lv1 := [(2, .int ((0 + (chr t p)) - 48)), (3, .int 0), (0, .ref (za E 32 0)), (1, .int 2)]) dX11_readNumber_62 rfl (by decide) rfl ?_
              refine z_aload_n X (pc := 63) 2 dX11_readNumber_63 rfl rfl ?_
              refine z_dup X (pc := 64) dX11_readNumber_64 rfl ?_
              refine z_get X (pc := 65) 16 zk_32_0 (zc_32_0 E _) rfl inlX11 (by decide) gw_882 rfl rfl dX11_readNumber_65 ?_
              refine z_top (y := (nI p)) ((up3_ne (by omega)).trans hps.2.1) ?_
              refine z_iconst X (pc := 68) (v := 1) dX11_readNumber_68 (by decide) ?_
              refine z_iadd X (pc := 69) dX11_readNumber_69 ?_
              refine z_top (y := (nI (p + 1))) (nI_1 _) ?_
              refine z_put X (pc := 70) 16 zk_32_0 (zc_32_0 E _) rfl inlX11 tyX11 tyX11_ok nmX11 (by decide) gw_882 rfl rfl (ty := .int) (by decide +kernel) rfl rfl (Nat.le_of_ble_eq_true rfl) dX11_readNumber_70 rfl ?_
              refine z_iinc X (pc := 73) (v := 1) (lv1 := [(3, .int 1), (2, .int ((0 + (chr t p)) - 48)), (0, .ref (za E 32 0)), (1, .int 2)]) 1 dX11_readNumber_73 rfl (by decide) (by decide) rfl ?_
              refine z_goto X (pc := 76) (tgt := 29) dX11_readNumber_76 (by decide) ?_
              refine z_iload_n X (pc := 29) 0 dX11_readNumber_29 rfl rfl ?_
              refine z_iload_n X (pc := 30) 3 dX11_readNumber_30 rfl rfl ?_
              refine z_icmp_ge X (pc := 31) (tgt := 79) dX11_readNumber_31 (by decide) (fun c31_4 => ?_) (fun c31_4 => ?_)
              · exact absurd c31_4 (by decide)
              · refine z_aload_n X (pc := 34) 2 dX11_readNumber_34 rfl rfl ?_
                refine z_bipush X (pc := 35) (v := 48) dX11_readNumber_35 (by decide) ?_
                refine z_bipush X (pc := 37) (v := 57) dX11_readNumber_37 (by decide) ?_
                refine z_callV X (pc := 39) (rest := []) kv_X11_sees (c_X11_sees E (up3 (up3 M 32 0 21 0) 32 0 16 (nI (p + 1))) t (p + 1) ⟨(TM.u0 (k := 16) (TM.u0 (k := 21) hps.1 (by decide)) (by decide)), up3_same, ((up3_ne (by omega)).trans up3_same)⟩ (by omega) 48 57 (by decide)) zk_32_0 (zc_32_0 E _) rfl rfl gw_983 (by decide) rfl rfl (Nat.le_of_ble_eq_true rfl) dX11_readNumber_39 (zk_i ?_)
                refine z_top (y := 0) (show zb (isD t (p + 1)) = 0 by rw [hd2]; rfl) ?_
                refine z_if_eq X (pc := 42) (tgt := 79) dX11_readNumber_42 (by decide) (fun c42_5 => ?_) (fun c42_5 => ?_)
                · refine z_iload_n X (pc := 79) 1 dX11_readNumber_79 rfl rfl ?_
                  have hr : rnR t p w 2 = (((0 + (chr t p)) - 48), p + 1, false) := by simp [rnR, hw, hd, hd2, c13, c31, c42, c31_4, c42_5, dV]
                  exact z_iret X Y dX11_readNumber_80 ⟨_, rfl, by rw [hr], by rw [hr]; exact ⟨(TM.u0 (k := 16) (TM.u0 (k := 21) hps.1 (by decide)) (by decide)), up3_same, ((up3_ne (by omega)).trans up3_same)⟩, (Fq.up (b := 32) (r := 0) (k := 16) (Fq.up (b := 32) (r := 0) (k := 21) (Fq.rf (P := tN) (M := M)) (by unfold tN; omega)) (by unfold tN; omega))⟩
                · exact absurd (by decide) c42_5
        · exact absurd c13 (by decide)
    · refine z_aload_n X (pc := 0) 0 dX11_readNumber_0 rfl rfl ?_
      refine z_dup X (pc := 1) dX11_readNumber_1 rfl ?_
      refine z_get X (pc := 2) 21 zk_32_0 (zc_32_0 E _) rfl inlX11 (by decide) gw_881 rfl rfl dX11_readNumber_2 ?_
      refine z_top (y := 0) (by have q := hps.2.2; rw [hw] at q; exact q) ?_
      refine z_aload_n X (pc := 5) 0 dX11_readNumber_5 rfl rfl ?_
      refine z_bipush X (pc := 6) (v := 48) dX11_readNumber_6 (by decide) ?_
      refine z_bipush X (pc := 8) (v := 57) dX11_readNumber_8 (by decide) ?_
      refine z_callV X (pc := 10) (rest := [.int 0, .ref (za E 32 0)]) kv_X11_sees (c_X11_sees E M t p ⟨hps.1, hps.2.1, (by have q := hps.2.2; rw [hw] at q; exact q)⟩ (by omega) 48 57 (by decide)) zk_32_0 (zc_32_0 E _) rfl rfl gw_983 (by decide) rfl rfl (Nat.le_of_ble_eq_true rfl) dX11_readNumber_10 (zk_i ?_)
      refine z_top (y := 0) (show zb (isD t p) = 0 by rw [hd]; rfl) ?_
      refine z_if_ne X (pc := 13) (tgt := 20) dX11_readNumber_13 (by decide) (fun c13 => ?_) (fun c13 => ?_)
      · exact absurd c13 (by decide)
      · refine z_iconst X (pc := 16) (v := 1) dX11_readNumber_16 (by decide) ?_
        refine z_goto X (pc := 17) (tgt := 21) dX11_readNumber_17 (by decide) ?_
        refine z_ior X (pc := 21) dX11_readNumber_21 ?_
        refine z_top (y := 1) (by decide) ?_
        refine z_put X (pc := 22) 21 zk_32_0 (zc_32_0 E _) rfl inlX11 tyX11 tyX11_ok nmX11 (by decide) gw_881 rfl rfl (ty := .boolean) (by decide +kernel) (by decide) rfl (Nat.le_of_ble_eq_true rfl) dX11_readNumber_22 rfl ?_
        refine z_iconst X (pc := 25) (v := 0) dX11_readNumber_25 (by decide) ?_
        refine z_istore_n X (pc := 26) (lv1 := [(2, .int 0), (0, .ref (za E 32 0)), (1, .int 2)]) dX11_readNumber_26 rfl (by decide) rfl ?_
        refine z_iconst X (pc := 27) (v := 0) dX11_readNumber_27 (by decide) ?_
        refine z_istore_n X (pc := 28) (lv1 := [(3, .int 0), (2, .int 0), (0, .ref (za E 32 0)), (1, .int 2)]) dX11_readNumber_28 rfl (by decide) rfl ?_
        refine z_iload_n X (pc := 29) 0 dX11_readNumber_29 rfl rfl ?_
        refine z_iload_n X (pc := 30) 3 dX11_readNumber_30 rfl rfl ?_
        refine z_icmp_ge X (pc := 31) (tgt := 79) dX11_readNumber_31 (by decide) (fun c31 => ?_) (fun c31 => ?_)
        · exact absurd c31 (by decide)
        · refine z_aload_n X (pc := 34) 2 dX11_readNumber_34 rfl rfl ?_
          refine z_bipush X (pc := 35) (v := 48) dX11_readNumber_35 (by decide) ?_
          refine z_bipush X (pc := 37) (v := 57) dX11_readNumber_37 (by decide) ?_
          refine z_callV X (pc := 39) (rest := []) kv_X11_sees (c_X11_sees_no E (up3 M 32 0 21 1) t p ⟨(TM.u0 (k := 21) hps.1 (by decide)), ((up3_ne (by omega)).trans hps.2.1), up3_same⟩ (by omega) 48 57) zk_32_0 (zc_32_0 E _) rfl rfl gw_983 (by decide) rfl rfl (Nat.le_of_ble_eq_true rfl) dX11_readNumber_39 (zk_i ?_)
          refine z_if_eq X (pc := 42) (tgt := 79) dX11_readNumber_42 (by decide) (fun c42 => ?_) (fun c42 => ?_)
          · refine z_iload_n X (pc := 79) 1 dX11_readNumber_79 rfl rfl ?_
            have hr : rnR t p w 2 = (0, p, true) := by simp [rnR, hw, hd, c13, c31, c42]
            exact z_iret X Y dX11_readNumber_80 ⟨_, rfl, by rw [hr], by rw [hr]; exact ⟨(TM.u0 (k := 21) hps.1 (by decide)), ((up3_ne (by omega)).trans hps.2.1), up3_same⟩, (Fq.up (b := 32) (r := 0) (k := 21) (Fq.rf (P := tN) (M := M)) (by unfold tN; omega))⟩
          · exact absurd (by decide) c42

def rm_X11_readBehind : Room := { frames := 3, cells := 0, slots := 0, locals := 67 }
theorem kv_X11_readBehind : KV yX11_readBehind RX11 cX11_readBehind 3 (some .int) 2 := ⟨⟨gw_988, gw_989, gw_5, gw_990⟩, by decide +kernel⟩
set_option maxRecDepth 100000 in
set_option maxHeartbeats 4000000 in
theorem c_X11_readBehind_1 (E : ZE) (M : Mem) (t : List Int32) (p : Nat) (w : Bool) (hps : PS M t p w) (hp : p ≤ 600)  : Mt E yX11_readBehind cX11_readBehind 3 (some .int) rm_X11_readBehind [.ref (za E 32 0), .int 58, .int 1] M (RI (fun v M1 => v = (rbR t p w 58 1).1 ∧ PS M1 t (rbR t p w 58 1).2.1 (rbR t p w 58 1).2.2 ∧ Fq tN M M1)) := by
  have hl0 : t.length ≤ 60 := hps.1.2.1
  refine z_met (own := RX11) (lv := [(0, .ref (za E 32 0)), (1, .int 58), (2, .int 1)]) (by decide) rfl (Nat.le_of_ble_eq_true rfl) rfl (fun gg X Y => ?_)
  rcases Bool.eq_false_or_eq_true w with hw | hw
  · refine z_aload_n X (pc := 0) 0 dX11_readBehind_0 rfl rfl ?_
    refine z_dup X (pc := 1) dX11_readBehind_1 rfl ?_
    refine z_get X (pc := 2) 21 zk_32_0 (zc_32_0 E _) rfl inlX11 (by decide) gw_881 rfl rfl dX11_readBehind_2 ?_
    refine z_top (y := 1) (by have q := hps.2.2; rw [hw] at q; exact q) ?_
    refine z_aload_n X (pc := 5) 0 dX11_readBehind_5 rfl rfl ?_
    refine z_iload_n X (pc := 6) 1 dX11_readBehind_6 rfl rfl ?_
    refine z_iload_n X (pc := 7) 1 dX11_readBehind_7 rfl rfl ?_
    refine z_callV X (pc := 8) (rest := [.int 1, .ref (za E 32 0)]) kv_X11_sees (c_X11_sees_no E M t p ⟨hps.1, hps.2.1, (by have q := hps.2.2; rw [hw] at q; exact q)⟩ (by omega) 58 58) zk_32_0 (zc_32_0 E _) rfl rfl gw_983 (by decide) rfl rfl (Nat.le_of_ble_eq_true rfl) dX11_readBehind_8 (zk_i ?_)
    refine z_if_ne X (pc := 11) (tgt := 18) dX11_readBehind_11 (by decide) (fun c11 => ?_) (fun c11 => ?_)
    · exact absurd c11 (by decide)
    · refine z_iconst X (pc := 14) (v := 1) dX11_readBehind_14 (by decide) ?_
      refine z_goto X (pc := 15) (tgt := 19) dX11_readBehind_15 (by decide) ?_
      refine z_ior X (pc := 19) dX11_readBehind_19 ?_
      refine z_top (y := 1) (by decide) ?_
      refine z_put X (pc := 20) 21 zk_32_0 (zc_32_0 E _) rfl inlX11 tyX11 tyX11_ok nmX11 (by decide) gw_881 rfl rfl (ty := .boolean) (by decide +kernel) (by decide) rfl (Nat.le_of_ble_eq_true rfl) dX11_readBehind_20 rfl ?_
      refine z_aload_n X (pc := 23) 0 dX11_readBehind_23 rfl rfl ?_
      refine z_dup X (pc := 24) dX11_readBehind_24 rfl ?_
      refine z_get X (pc := 25) 16 zk_32_0 (zc_32_0 E _) rfl inlX11 (by decide) gw_882 rfl rfl dX11_readBehind_25 ?_
      refine z_top (y := (nI p)) ((up3_ne (by omega)).trans hps.2.1) ?_
      refine z_aload_n X (pc := 28) 0 dX11_readBehind_28 rfl rfl ?_
      refine z_get X (pc := 29) 21 zk_32_0 (zc_32_0 E _) rfl inlX11 (by decide) gw_881 rfl rfl dX11_readBehind_29 ?_
      refine z_top (y := 1) up3_same ?_
      refine z_if_eq X (pc := 32) (tgt := 39) dX11_readBehind_32 (by decide) (fun c32 => ?_) (fun c32 => ?_)
      · exact absurd c32 (by decide)
      · refine z_iconst X (pc := 35) (v := 0) dX11_readBehind_35 (by decide) ?_
        refine z_goto X (pc := 36) (tgt := 40) dX11_readBehind_36 (by decide) ?_
        refine z_iadd X (pc := 40) dX11_readBehind_40 ?_
        refine z_top (y := (nI p)) (Int32.add_zero _) ?_
        refine z_put X (pc := 41) 16 zk_32_0 (zc_32_0 E _) rfl inlX11 tyX11 tyX11_ok nmX11 (by decide) gw_882 rfl rfl (ty := .int) (by decide +kernel) rfl rfl (Nat.le_of_ble_eq_true rfl) dX11_readBehind_41 rfl ?_
        refine z_aload_n X (pc := 44) 0 dX11_readBehind_44 rfl rfl ?_
        refine z_iload_n X (pc := 45) 2 dX11_readBehind_45 rfl rfl ?_
        refine z_callV X (pc := 46) (rest := []) kv_X11_readNumber (c_X11_readNumber_1 E (up3 (up3 M 32 0 21 1) 32 0 16 (nI p)) t p true ⟨(TM.u0 (k := 16) (TM.u0 (k := 21) hps.1 (by decide)) (by decide)), up3_same, ((up3_ne (by omega)).trans up3_same)⟩ (by omega)) zk_32_0 (zc_32_0 E _) rfl rfl gw_979 (by decide) rfl rfl (Nat.le_of_ble_eq_true rfl) dX11_readBehind_46 (zk_ri (fun v_3 M_1 h_2 => ?_))
        refine z_top (y := ((rnR t p true 1).1)) h_2.1 ?_
        have h_2b := rnR_le (t := t) (p := p) (w := true) (n := 1)
        have hr : rbR t p w 58 1 = (rnR t p true 1) := by simp [rbR, rnR, hw, c11, c32]
        exact z_iret X Y dX11_readBehind_49 ⟨_, rfl, by rw [hr], by rw [hr]; exact ⟨h_2.2.1.1, h_2.2.1.2.1, h_2.2.1.2.2⟩, (Fq.tr (Fq.up (b := 32) (r := 0) (k := 16) (Fq.up (b := 32) (r := 0) (k := 21) (Fq.rf (P := tN) (M := M)) (by unfold tN; omega)) (by unfold tN; omega)) h_2.2.2)⟩
  · by_cases hc : chr t p = 58
    · refine z_aload_n X (pc := 0) 0 dX11_readBehind_0 rfl rfl ?_
      refine z_dup X (pc := 1) dX11_readBehind_1 rfl ?_
      refine z_get X (pc := 2) 21 zk_32_0 (zc_32_0 E _) rfl inlX11 (by decide) gw_881 rfl rfl dX11_readBehind_2 ?_
      refine z_top (y := 0) (by have q := hps.2.2; rw [hw] at q; exact q) ?_
      refine z_aload_n X (pc := 5) 0 dX11_readBehind_5 rfl rfl ?_
      refine z_iload_n X (pc := 6) 1 dX11_readBehind_6 rfl rfl ?_
      refine z_iload_n X (pc := 7) 1 dX11_readBehind_7 rfl rfl ?_
      refine z_callV X (pc := 8) (rest := [.int 0, .ref (za E 32 0)]) kv_X11_sees (c_X11_sees E M t p ⟨hps.1, hps.2.1, (by have q := hps.2.2; rw [hw] at q; exact q)⟩ (by omega) 58 58 (by decide)) zk_32_0 (zc_32_0 E _) rfl rfl gw_983 (by decide) rfl rfl (Nat.le_of_ble_eq_true rfl) dX11_readBehind_8 (zk_i ?_)
      refine z_top (y := 1) (show zb (inB (chr t p) 58 58) = 1 by rw [hc]; decide) ?_
      refine z_if_ne X (pc := 11) (tgt := 18) dX11_readBehind_11 (by decide) (fun c11 => ?_) (fun c11 => ?_)
      · refine z_iconst X (pc := 18) (v := 0) dX11_readBehind_18 (by decide) ?_
        refine z_ior X (pc := 19) dX11_readBehind_19 ?_
        refine z_top (y := 0) (by decide) ?_
        refine z_put X (pc := 20) 21 zk_32_0 (zc_32_0 E _) rfl inlX11 tyX11 tyX11_ok nmX11 (by decide) gw_881 rfl rfl (ty := .boolean) (by decide +kernel) (by decide) rfl (Nat.le_of_ble_eq_true rfl) dX11_readBehind_20 rfl ?_
        refine z_aload_n X (pc := 23) 0 dX11_readBehind_23 rfl rfl ?_
        refine z_dup X (pc := 24) dX11_readBehind_24 rfl ?_
        refine z_get X (pc := 25) 16 zk_32_0 (zc_32_0 E _) rfl inlX11 (by decide) gw_882 rfl rfl dX11_readBehind_25 ?_
        refine z_top (y := (nI p)) ((up3_ne (by omega)).trans hps.2.1) ?_
        refine z_aload_n X (pc := 28) 0 dX11_readBehind_28 rfl rfl ?_
        refine z_get X (pc := 29) 21 zk_32_0 (zc_32_0 E _) rfl inlX11 (by decide) gw_881 rfl rfl dX11_readBehind_29 ?_
        refine z_top (y := 0) up3_same ?_
        refine z_if_eq X (pc := 32) (tgt := 39) dX11_readBehind_32 (by decide) (fun c32 => ?_) (fun c32 => ?_)
        · refine z_iconst X (pc := 39) (v := 1) dX11_readBehind_39 (by decide) ?_
          refine z_iadd X (pc := 40) dX11_readBehind_40 ?_
          refine z_top (y := (nI (p + 1))) (nI_1 _) ?_
          refine z_put X (pc := 41) 16 zk_32_0 (zc_32_0 E _) rfl inlX11 tyX11 tyX11_ok nmX11 (by decide) gw_882 rfl rfl (ty := .int) (by decide +kernel) rfl rfl (Nat.le_of_ble_eq_true rfl) dX11_readBehind_41 rfl ?_
          refine z_aload_n X (pc := 44) 0 dX11_readBehind_44 rfl rfl ?_
          refine z_iload_n X (pc := 45) 2 dX11_readBehind_45 rfl rfl ?_
          refine z_callV X (pc := 46) (rest := []) kv_X11_readNumber (c_X11_readNumber_1 E (up3 (up3 M 32 0 21 0) 32 0 16 (nI (p + 1))) t (p + 1) false ⟨(TM.u0 (k := 16) (TM.u0 (k := 21) hps.1 (by decide)) (by decide)), up3_same, ((up3_ne (by omega)).trans up3_same)⟩ (by omega)) zk_32_0 (zc_32_0 E _) rfl rfl gw_979 (by decide) rfl rfl (Nat.le_of_ble_eq_true rfl) dX11_readBehind_46 (zk_ri (fun v_6 M_4 h_5 => ?_))
          refine z_top (y := ((rnR t (p + 1) false 1).1)) h_5.1 ?_
          have h_5b := rnR_le (t := t) (p := p + 1) (w := false) (n := 1)
          have hr : rbR t p w 58 1 = (rnR t (p + 1) false 1) := by simp [rbR, rnR, hw, hc, c11, c32]
          exact z_iret X Y dX11_readBehind_49 ⟨_, rfl, by rw [hr], by rw [hr]; exact ⟨h_5.2.1.1, h_5.2.1.2.1, h_5.2.1.2.2⟩, (Fq.tr (Fq.up (b := 32) (r := 0) (k := 16) (Fq.up (b := 32) (r := 0) (k := 21) (Fq.rf (P := tN) (M := M)) (by unfold tN; omega)) (by unfold tN; omega)) h_5.2.2)⟩
        · exact absurd (by decide) c32
      · exact absurd c11 (by decide)
    · refine z_aload_n X (pc := 0) 0 dX11_readBehind_0 rfl rfl ?_
      refine z_dup X (pc := 1) dX11_readBehind_1 rfl ?_
      refine z_get X (pc := 2) 21 zk_32_0 (zc_32_0 E _) rfl inlX11 (by decide) gw_881 rfl rfl dX11_readBehind_2 ?_
      refine z_top (y := 0) (by have q := hps.2.2; rw [hw] at q; exact q) ?_
      refine z_aload_n X (pc := 5) 0 dX11_readBehind_5 rfl rfl ?_
      refine z_iload_n X (pc := 6) 1 dX11_readBehind_6 rfl rfl ?_
      refine z_iload_n X (pc := 7) 1 dX11_readBehind_7 rfl rfl ?_
      refine z_callV X (pc := 8) (rest := [.int 0, .ref (za E 32 0)]) kv_X11_sees (c_X11_sees E M t p ⟨hps.1, hps.2.1, (by have q := hps.2.2; rw [hw] at q; exact q)⟩ (by omega) 58 58 (by decide)) zk_32_0 (zc_32_0 E _) rfl rfl gw_983 (by decide) rfl rfl (Nat.le_of_ble_eq_true rfl) dX11_readBehind_8 (zk_i ?_)
      refine z_top (y := 0) (show zb (inB (chr t p) 58 58) = 0 by rw [inB_ne hc]; rfl) ?_
      refine z_if_ne X (pc := 11) (tgt := 18) dX11_readBehind_11 (by decide) (fun c11 => ?_) (fun c11 => ?_)
      · exact absurd c11 (by decide)
      · refine z_iconst X (pc := 14) (v := 1) dX11_readBehind_14 (by decide) ?_
        refine z_goto X (pc := 15) (tgt := 19) dX11_readBehind_15 (by decide) ?_
        refine z_ior X (pc := 19) dX11_readBehind_19 ?_
        refine z_top (y := 1) (by decide) ?_
        refine z_put X (pc := 20) 21 zk_32_0 (zc_32_0 E _) rfl inlX11 tyX11 tyX11_ok nmX11 (by decide) gw_881 rfl rfl (ty := .boolean) (by decide +kernel) (by decide) rfl (Nat.le_of_ble_eq_true rfl) dX11_readBehind_20 rfl ?_
        refine z_aload_n X (pc := 23) 0 dX11_readBehind_23 rfl rfl ?_
        refine z_dup X (pc := 24) dX11_readBehind_24 rfl ?_
        refine z_get X (pc := 25) 16 zk_32_0 (zc_32_0 E _) rfl inlX11 (by decide) gw_882 rfl rfl dX11_readBehind_25 ?_
        refine z_top (y := (nI p)) ((up3_ne (by omega)).trans hps.2.1) ?_
        refine z_aload_n X (pc := 28) 0 dX11_readBehind_28 rfl rfl ?_
        refine z_get X (pc := 29) 21 zk_32_0 (zc_32_0 E _) rfl inlX11 (by decide) gw_881 rfl rfl dX11_readBehind_29 ?_
        refine z_top (y := 1) up3_same ?_
        refine z_if_eq X (pc := 32) (tgt := 39) dX11_readBehind_32 (by decide) (fun c32 => ?_) (fun c32 => ?_)
        · exact absurd c32 (by decide)
        · refine z_iconst X (pc := 35) (v := 0) dX11_readBehind_35 (by decide) ?_
          refine z_goto X (pc := 36) (tgt := 40) dX11_readBehind_36 (by decide) ?_
          refine z_iadd X (pc := 40) dX11_readBehind_40 ?_
          refine z_top (y := (nI p)) (Int32.add_zero _) ?_
          refine z_put X (pc := 41) 16 zk_32_0 (zc_32_0 E _) rfl inlX11 tyX11 tyX11_ok nmX11 (by decide) gw_882 rfl rfl (ty := .int) (by decide +kernel) rfl rfl (Nat.le_of_ble_eq_true rfl) dX11_readBehind_41 rfl ?_
          refine z_aload_n X (pc := 44) 0 dX11_readBehind_44 rfl rfl ?_
          refine z_iload_n X (pc := 45) 2 dX11_readBehind_45 rfl rfl ?_
          refine z_callV X (pc := 46) (rest := []) kv_X11_readNumber (c_X11_readNumber_1 E (up3 (up3 M 32 0 21 1) 32 0 16 (nI p)) t p true ⟨(TM.u0 (k := 16) (TM.u0 (k := 21) hps.1 (by decide)) (by decide)), up3_same, ((up3_ne (by omega)).trans up3_same)⟩ (by omega)) zk_32_0 (zc_32_0 E _) rfl rfl gw_979 (by decide) rfl rfl (Nat.le_of_ble_eq_true rfl) dX11_readBehind_46 (zk_ri (fun v_9 M_7 h_8 => ?_))
          refine z_top (y := ((rnR t p true 1).1)) h_8.1 ?_
          have h_8b := rnR_le (t := t) (p := p) (w := true) (n := 1)
          have hr : rbR t p w 58 1 = (rnR t p true 1) := by simp [rbR, rnR, hw, hc, c11, c32]
          exact z_iret X Y dX11_readBehind_49 ⟨_, rfl, by rw [hr], by rw [hr]; exact ⟨h_8.2.1.1, h_8.2.1.2.1, h_8.2.1.2.2⟩, (Fq.tr (Fq.up (b := 32) (r := 0) (k := 16) (Fq.up (b := 32) (r := 0) (k := 21) (Fq.rf (P := tN) (M := M)) (by unfold tN; omega)) (by unfold tN; omega)) h_8.2.2)⟩
set_option maxRecDepth 100000 in
set_option maxHeartbeats 4000000 in
theorem c_X11_readBehind_2 (E : ZE) (M : Mem) (t : List Int32) (p : Nat) (w : Bool) (hps : PS M t p w) (hp : p ≤ 600)  : Mt E yX11_readBehind cX11_readBehind 3 (some .int) rm_X11_readBehind [.ref (za E 32 0), .int 61, .int 2] M (RI (fun v M1 => v = (rbR t p w 61 2).1 ∧ PS M1 t (rbR t p w 61 2).2.1 (rbR t p w 61 2).2.2 ∧ Fq tN M M1)) := by
  have hl0 : t.length ≤ 60 := hps.1.2.1
  refine z_met (own := RX11) (lv := [(0, .ref (za E 32 0)), (1, .int 61), (2, .int 2)]) (by decide) rfl (Nat.le_of_ble_eq_true rfl) rfl (fun gg X Y => ?_)
  rcases Bool.eq_false_or_eq_true w with hw | hw
  · refine z_aload_n X (pc := 0) 0 dX11_readBehind_0 rfl rfl ?_
    refine z_dup X (pc := 1) dX11_readBehind_1 rfl ?_
    refine z_get X (pc := 2) 21 zk_32_0 (zc_32_0 E _) rfl inlX11 (by decide) gw_881 rfl rfl dX11_readBehind_2 ?_
    refine z_top (y := 1) (by have q := hps.2.2; rw [hw] at q; exact q) ?_
    refine z_aload_n X (pc := 5) 0 dX11_readBehind_5 rfl rfl ?_
    refine z_iload_n X (pc := 6) 1 dX11_readBehind_6 rfl rfl ?_
    refine z_iload_n X (pc := 7) 1 dX11_readBehind_7 rfl rfl ?_
    refine z_callV X (pc := 8) (rest := [.int 1, .ref (za E 32 0)]) kv_X11_sees (c_X11_sees_no E M t p ⟨hps.1, hps.2.1, (by have q := hps.2.2; rw [hw] at q; exact q)⟩ (by omega) 61 61) zk_32_0 (zc_32_0 E _) rfl rfl gw_983 (by decide) rfl rfl (Nat.le_of_ble_eq_true rfl) dX11_readBehind_8 (zk_i ?_)
    refine z_if_ne X (pc := 11) (tgt := 18) dX11_readBehind_11 (by decide) (fun c11 => ?_) (fun c11 => ?_)
    · exact absurd c11 (by decide)
    · refine z_iconst X (pc := 14) (v := 1) dX11_readBehind_14 (by decide) ?_
      refine z_goto X (pc := 15) (tgt := 19) dX11_readBehind_15 (by decide) ?_
      refine z_ior X (pc := 19) dX11_readBehind_19 ?_
      refine z_top (y := 1) (by decide) ?_
      refine z_put X (pc := 20) 21 zk_32_0 (zc_32_0 E _) rfl inlX11 tyX11 tyX11_ok nmX11 (by decide) gw_881 rfl rfl (ty := .boolean) (by decide +kernel) (by decide) rfl (Nat.le_of_ble_eq_true rfl) dX11_readBehind_20 rfl ?_
      refine z_aload_n X (pc := 23) 0 dX11_readBehind_23 rfl rfl ?_
      refine z_dup X (pc := 24) dX11_readBehind_24 rfl ?_
      refine z_get X (pc := 25) 16 zk_32_0 (zc_32_0 E _) rfl inlX11 (by decide) gw_882 rfl rfl dX11_readBehind_25 ?_
      refine z_top (y := (nI p)) ((up3_ne (by omega)).trans hps.2.1) ?_
      refine z_aload_n X (pc := 28) 0 dX11_readBehind_28 rfl rfl ?_
      refine z_get X (pc := 29) 21 zk_32_0 (zc_32_0 E _) rfl inlX11 (by decide) gw_881 rfl rfl dX11_readBehind_29 ?_
      refine z_top (y := 1) up3_same ?_
      refine z_if_eq X (pc := 32) (tgt := 39) dX11_readBehind_32 (by decide) (fun c32 => ?_) (fun c32 => ?_)
      · exact absurd c32 (by decide)
      · refine z_iconst X (pc := 35) (v := 0) dX11_readBehind_35 (by decide) ?_
        refine z_goto X (pc := 36) (tgt := 40) dX11_readBehind_36 (by decide) ?_
        refine z_iadd X (pc := 40) dX11_readBehind_40 ?_
        refine z_top (y := (nI p)) (Int32.add_zero _) ?_
        refine z_put X (pc := 41) 16 zk_32_0 (zc_32_0 E _) rfl inlX11 tyX11 tyX11_ok nmX11 (by decide) gw_882 rfl rfl (ty := .int) (by decide +kernel) rfl rfl (Nat.le_of_ble_eq_true rfl) dX11_readBehind_41 rfl ?_
        refine z_aload_n X (pc := 44) 0 dX11_readBehind_44 rfl rfl ?_
        refine z_iload_n X (pc := 45) 2 dX11_readBehind_45 rfl rfl ?_
        refine z_callV X (pc := 46) (rest := []) kv_X11_readNumber (c_X11_readNumber_2 E (up3 (up3 M 32 0 21 1) 32 0 16 (nI p)) t p true ⟨(TM.u0 (k := 16) (TM.u0 (k := 21) hps.1 (by decide)) (by decide)), up3_same, ((up3_ne (by omega)).trans up3_same)⟩ (by omega)) zk_32_0 (zc_32_0 E _) rfl rfl gw_979 (by decide) rfl rfl (Nat.le_of_ble_eq_true rfl) dX11_readBehind_46 (zk_ri (fun v_3 M_1 h_2 => ?_))
        refine z_top (y := ((rnR t p true 2).1)) h_2.1 ?_
        have h_2b := rnR_le (t := t) (p := p) (w := true) (n := 2)
        have hr : rbR t p w 61 2 = (rnR t p true 2) := by simp [rbR, rnR, hw, c11, c32]
        exact z_iret X Y dX11_readBehind_49 ⟨_, rfl, by rw [hr], by rw [hr]; exact ⟨h_2.2.1.1, h_2.2.1.2.1, h_2.2.1.2.2⟩, (Fq.tr (Fq.up (b := 32) (r := 0) (k := 16) (Fq.up (b := 32) (r := 0) (k := 21) (Fq.rf (P := tN) (M := M)) (by unfold tN; omega)) (by unfold tN; omega)) h_2.2.2)⟩
  · by_cases hc : chr t p = 61
    · refine z_aload_n X (pc := 0) 0 dX11_readBehind_0 rfl rfl ?_
      refine z_dup X (pc := 1) dX11_readBehind_1 rfl ?_
      refine z_get X (pc := 2) 21 zk_32_0 (zc_32_0 E _) rfl inlX11 (by decide) gw_881 rfl rfl dX11_readBehind_2 ?_
      refine z_top (y := 0) (by have q := hps.2.2; rw [hw] at q; exact q) ?_
      refine z_aload_n X (pc := 5) 0 dX11_readBehind_5 rfl rfl ?_
      refine z_iload_n X (pc := 6) 1 dX11_readBehind_6 rfl rfl ?_
      refine z_iload_n X (pc := 7) 1 dX11_readBehind_7 rfl rfl ?_
      refine z_callV X (pc := 8) (rest := [.int 0, .ref (za E 32 0)]) kv_X11_sees (c_X11_sees E M t p ⟨hps.1, hps.2.1, (by have q := hps.2.2; rw [hw] at q; exact q)⟩ (by omega) 61 61 (by decide)) zk_32_0 (zc_32_0 E _) rfl rfl gw_983 (by decide) rfl rfl (Nat.le_of_ble_eq_true rfl) dX11_readBehind_8 (zk_i ?_)
      refine z_top (y := 1) (show zb (inB (chr t p) 61 61) = 1 by rw [hc]; decide) ?_
      refine z_if_ne X (pc := 11) (tgt := 18) dX11_readBehind_11 (by decide) (fun c11 => ?_) (fun c11 => ?_)
      · refine z_iconst X (pc := 18) (v := 0) dX11_readBehind_18 (by decide) ?_
        refine z_ior X (pc := 19) dX11_readBehind_19 ?_
        refine z_top (y := 0) (by decide) ?_
        refine z_put X (pc := 20) 21 zk_32_0 (zc_32_0 E _) rfl inlX11 tyX11 tyX11_ok nmX11 (by decide) gw_881 rfl rfl (ty := .boolean) (by decide +kernel) (by decide) rfl (Nat.le_of_ble_eq_true rfl) dX11_readBehind_20 rfl ?_
        refine z_aload_n X (pc := 23) 0 dX11_readBehind_23 rfl rfl ?_
        refine z_dup X (pc := 24) dX11_readBehind_24 rfl ?_
        refine z_get X (pc := 25) 16 zk_32_0 (zc_32_0 E _) rfl inlX11 (by decide) gw_882 rfl rfl dX11_readBehind_25 ?_
        refine z_top (y := (nI p)) ((up3_ne (by omega)).trans hps.2.1) ?_
        refine z_aload_n X (pc := 28) 0 dX11_readBehind_28 rfl rfl ?_
        refine z_get X (pc := 29) 21 zk_32_0 (zc_32_0 E _) rfl inlX11 (by decide) gw_881 rfl rfl dX11_readBehind_29 ?_
        refine z_top (y := 0) up3_same ?_
        refine z_if_eq X (pc := 32) (tgt := 39) dX11_readBehind_32 (by decide) (fun c32 => ?_) (fun c32 => ?_)
        · refine z_iconst X (pc := 39) (v := 1) dX11_readBehind_39 (by decide) ?_
          refine z_iadd X (pc := 40) dX11_readBehind_40 ?_
          refine z_top (y := (nI (p + 1))) (nI_1 _) ?_
          refine z_put X (pc := 41) 16 zk_32_0 (zc_32_0 E _) rfl inlX11 tyX11 tyX11_ok nmX11 (by decide) gw_882 rfl rfl (ty := .int) (by decide +kernel) rfl rfl (Nat.le_of_ble_eq_true rfl) dX11_readBehind_41 rfl ?_
          refine z_aload_n X (pc := 44) 0 dX11_readBehind_44 rfl rfl ?_
          refine z_iload_n X (pc := 45) 2 dX11_readBehind_45 rfl rfl ?_
          refine z_callV X (pc := 46) (rest := []) kv_X11_readNumber (c_X11_readNumber_2 E (up3 (up3 M 32 0 21 0) 32 0 16 (nI (p + 1))) t (p + 1) false ⟨(TM.u0 (k := 16) (TM.u0 (k := 21) hps.1 (by decide)) (by decide)), up3_same, ((up3_ne (by omega)).trans up3_same)⟩ (by omega)) zk_32_0 (zc_32_0 E _) rfl rfl gw_979 (by decide) rfl rfl (Nat.le_of_ble_eq_true rfl) dX11_readBehind_46 (zk_ri (fun v_6 M_4 h_5 => ?_))
          refine z_top (y := ((rnR t (p + 1) false 2).1)) h_5.1 ?_
          have h_5b := rnR_le (t := t) (p := p + 1) (w := false) (n := 2)
          have hr : rbR t p w 61 2 = (rnR t (p + 1) false 2) := by simp [rbR, rnR, hw, hc, c11, c32]
          exact z_iret X Y dX11_readBehind_49 ⟨_, rfl, by rw [hr], by rw [hr]; exact ⟨h_5.2.1.1, h_5.2.1.2.1, h_5.2.1.2.2⟩, (Fq.tr (Fq.up (b := 32) (r := 0) (k := 16) (Fq.up (b := 32) (r := 0) (k := 21) (Fq.rf (P := tN) (M := M)) (by unfold tN; omega)) (by unfold tN; omega)) h_5.2.2)⟩
        · exact absurd (by decide) c32
      · exact absurd c11 (by decide)
    · refine z_aload_n X (pc := 0) 0 dX11_readBehind_0 rfl rfl ?_
      refine z_dup X (pc := 1) dX11_readBehind_1 rfl ?_
      refine z_get X (pc := 2) 21 zk_32_0 (zc_32_0 E _) rfl inlX11 (by decide) gw_881 rfl rfl dX11_readBehind_2 ?_
      refine z_top (y := 0) (by have q := hps.2.2; rw [hw] at q; exact q) ?_
      refine z_aload_n X (pc := 5) 0 dX11_readBehind_5 rfl rfl ?_
      refine z_iload_n X (pc := 6) 1 dX11_readBehind_6 rfl rfl ?_
      refine z_iload_n X (pc := 7) 1 dX11_readBehind_7 rfl rfl ?_
      refine z_callV X (pc := 8) (rest := [.int 0, .ref (za E 32 0)]) kv_X11_sees (c_X11_sees E M t p ⟨hps.1, hps.2.1, (by have q := hps.2.2; rw [hw] at q; exact q)⟩ (by omega) 61 61 (by decide)) zk_32_0 (zc_32_0 E _) rfl rfl gw_983 (by decide) rfl rfl (Nat.le_of_ble_eq_true rfl) dX11_readBehind_8 (zk_i ?_)
      refine z_top (y := 0) (show zb (inB (chr t p) 61 61) = 0 by rw [inB_ne hc]; rfl) ?_
      refine z_if_ne X (pc := 11) (tgt := 18) dX11_readBehind_11 (by decide) (fun c11 => ?_) (fun c11 => ?_)
      · exact absurd c11 (by decide)
      · refine z_iconst X (pc := 14) (v := 1) dX11_readBehind_14 (by decide) ?_
        refine z_goto X (pc := 15) (tgt := 19) dX11_readBehind_15 (by decide) ?_
        refine z_ior X (pc := 19) dX11_readBehind_19 ?_
        refine z_top (y := 1) (by decide) ?_
        refine z_put X (pc := 20) 21 zk_32_0 (zc_32_0 E _) rfl inlX11 tyX11 tyX11_ok nmX11 (by decide) gw_881 rfl rfl (ty := .boolean) (by decide +kernel) (by decide) rfl (Nat.le_of_ble_eq_true rfl) dX11_readBehind_20 rfl ?_
        refine z_aload_n X (pc := 23) 0 dX11_readBehind_23 rfl rfl ?_
        refine z_dup X (pc := 24) dX11_readBehind_24 rfl ?_
        refine z_get X (pc := 25) 16 zk_32_0 (zc_32_0 E _) rfl inlX11 (by decide) gw_882 rfl rfl dX11_readBehind_25 ?_
        refine z_top (y := (nI p)) ((up3_ne (by omega)).trans hps.2.1) ?_
        refine z_aload_n X (pc := 28) 0 dX11_readBehind_28 rfl rfl ?_
        refine z_get X (pc := 29) 21 zk_32_0 (zc_32_0 E _) rfl inlX11 (by decide) gw_881 rfl rfl dX11_readBehind_29 ?_
        refine z_top (y := 1) up3_same ?_
        refine z_if_eq X (pc := 32) (tgt := 39) dX11_readBehind_32 (by decide) (fun c32 => ?_) (fun c32 => ?_)
        · exact absurd c32 (by decide)
        · refine z_iconst X (pc := 35) (v := 0) dX11_readBehind_35 (by decide) ?_
          refine z_goto X (pc := 36) (tgt := 40) dX11_readBehind_36 (by decide) ?_
          refine z_iadd X (pc := 40) dX11_readBehind_40 ?_
          refine z_top (y := (nI p)) (Int32.add_zero _) ?_
          refine z_put X (pc := 41) 16 zk_32_0 (zc_32_0 E _) rfl inlX11 tyX11 tyX11_ok nmX11 (by decide) gw_882 rfl rfl (ty := .int) (by decide +kernel) rfl rfl (Nat.le_of_ble_eq_true rfl) dX11_readBehind_41 rfl ?_
          refine z_aload_n X (pc := 44) 0 dX11_readBehind_44 rfl rfl ?_
          refine z_iload_n X (pc := 45) 2 dX11_readBehind_45 rfl rfl ?_
          refine z_callV X (pc := 46) (rest := []) kv_X11_readNumber (c_X11_readNumber_2 E (up3 (up3 M 32 0 21 1) 32 0 16 (nI p)) t p true ⟨(TM.u0 (k := 16) (TM.u0 (k := 21) hps.1 (by decide)) (by decide)), up3_same, ((up3_ne (by omega)).trans up3_same)⟩ (by omega)) zk_32_0 (zc_32_0 E _) rfl rfl gw_979 (by decide) rfl rfl (Nat.le_of_ble_eq_true rfl) dX11_readBehind_46 (zk_ri (fun v_9 M_7 h_8 => ?_))
          refine z_top (y := ((rnR t p true 2).1)) h_8.1 ?_
          have h_8b := rnR_le (t := t) (p := p) (w := true) (n := 2)
          have hr : rbR t p w 61 2 = (rnR t p true 2) := by simp [rbR, rnR, hw, hc, c11, c32]
          exact z_iret X Y dX11_readBehind_49 ⟨_, rfl, by rw [hr], by rw [hr]; exact ⟨h_8.2.1.1, h_8.2.1.2.1, h_8.2.1.2.2⟩, (Fq.tr (Fq.up (b := 32) (r := 0) (k := 16) (Fq.up (b := 32) (r := 0) (k := 21) (Fq.rf (P := tN) (M := M)) (by unfold tN; omega)) (by unfold tN; omega)) h_8.2.2)⟩

def rm_X11_readOrder : Room := { frames := 4, cells := 0, slots := 0, locals := 91 }
theorem kv_X11_readOrder : KV yX11_readOrder RX11 cX11_readOrder 1 none 0 := ⟨⟨gw_888, gw_889, gw_5, gw_890⟩, by decide +kernel⟩
set_option maxRecDepth 100000 in
set_option maxHeartbeats 4000000 in
theorem c_X11_readOrder_w (E : ZE) (M : Mem) (t : List Int32) (p : Nat) (hps : PS M t p true) (hp : p ≤ 200) (h8 : ∀ x, x ∈ t → rng x 32 126) : Mt E yX11_readOrder cX11_readOrder 1 none rm_X11_readOrder [.ref (za E 32 0)] M (RV (fun M1 => PS M1 t p true ∧ Fq tP M M1)) := by
  have hl0 : t.length ≤ 60 := hps.1.2.1
  refine z_met (own := RX11) (lv := [(0, .ref (za E 32 0))]) (by decide) rfl (Nat.le_of_ble_eq_true rfl) rfl (fun gg X Y => ?_)
  refine z_aload_n X (pc := 0) 0 dX11_readOrder_0 rfl rfl ?_
  refine z_dup X (pc := 1) dX11_readOrder_1 rfl ?_
  refine z_get X (pc := 2) 21 zk_32_0 (zc_32_0 E _) rfl inlX11 (by decide) gw_881 rfl rfl dX11_readOrder_2 ?_
  refine z_top (y := 1) hps.2.2 ?_
  refine z_aload_n X (pc := 5) 0 dX11_readOrder_5 rfl rfl ?_
  refine z_get X (pc := 6) 16 zk_32_0 (zc_32_0 E _) rfl inlX11 (by decide) gw_882 rfl rfl dX11_readOrder_6 ?_
  refine z_top (y := (nI p)) hps.2.1 ?_
  refine z_aload_n X (pc := 9) 0 dX11_readOrder_9 rfl rfl ?_
  refine z_get X (pc := 10) 15 zk_32_0 (zc_32_0 E _) rfl inlX11 (by decide) gw_815 rfl rfl dX11_readOrder_10 ?_
  refine z_top (y := (nI t.length)) (And.left hps.1) ?_
  refine z_nicmp_ge X (pc := 13) (a := p) (b := t.length) (tgt := 33) dX11_readOrder_13 (by decide) (by omega) (by omega) (fun c13 => ?_) (fun c13 => ?_)
  · refine z_iconst X (pc := 33) (v := 1) dX11_readOrder_33 (by decide) ?_
    refine z_goto X (pc := 34) (tgt := 38) dX11_readOrder_34 (by decide) ?_
    refine z_ior X (pc := 38) dX11_readOrder_38 ?_
    refine z_top (y := 1) (by decide) ?_
    refine z_put X (pc := 39) 21 zk_32_0 (zc_32_0 E _) rfl inlX11 tyX11 tyX11_ok nmX11 (by decide) gw_881 rfl rfl (ty := .boolean) (by decide +kernel) (by decide) rfl (Nat.le_of_ble_eq_true rfl) dX11_readOrder_39 rfl ?_
    refine z_aload_n X (pc := 42) 0 dX11_readOrder_42 rfl rfl ?_
    refine z_get X (pc := 43) 21 zk_32_0 (zc_32_0 E _) rfl inlX11 (by decide) gw_881 rfl rfl dX11_readOrder_43 ?_
    refine z_top (y := 1) up3_same ?_
    refine z_if_eq X (pc := 46) (tgt := 50) dX11_readOrder_46 (by decide) (fun c46 => ?_) (fun c46 => ?_)
    · exact absurd c46 (by decide)
    · exact z_vret X Y dX11_readOrder_49 ⟨rfl, ⟨(TM.u0 (k := 21) hps.1 (by decide)), ((up3_ne (by omega)).trans hps.2.1), up3_same⟩, (Fq.up (b := 32) (r := 0) (k := 21) (Fq.rf (P := tP) (M := M)) (by unfold tP; omega))⟩
  · refine z_ldcS X (pc := 16) dX11_readOrder_16 ?_
    refine z_aload_n X (pc := 18) 0 dX11_readOrder_18 rfl rfl ?_
    refine z_get X (pc := 19) 14 zk_32_0 (zc_32_0 E _) rfl inlX11 (by decide) gw_149 rfl rfl dX11_readOrder_19 ?_
    refine z_aload_n X (pc := 22) 0 dX11_readOrder_22 rfl rfl ?_
    refine z_get X (pc := 23) 16 zk_32_0 (zc_32_0 E _) rfl inlX11 (by decide) gw_882 rfl rfl dX11_readOrder_23 ?_
    refine z_top (y := (nI p)) hps.2.1 ?_
    refine z_cald X (pc := 26) (by decide) rfl (show p < 60 by omega) dX11_readOrder_26 ?_
    refine z_top (y := (chr t p)) (TM.at hps.1 (by omega)) ?_
    obtain ⟨k, -, hk, ek⟩ := chr_rng h8 (show p < t.length by omega)
    refine z_top (y := (nI k)) ek ?_
    refine z_callK X (pc := 27) (rest := [.int 1, .ref (za E 32 0)]) kv_J0_indexOf_0f7a4 (c_J0_indexOf_0f7a4 E M k (by omega)) rfl gw_895 (by decide) rfl rfl (Nat.le_of_ble_eq_true rfl) dX11_readOrder_27 (zk_ri (fun v_2 M_1 hmp => ?_))
    obtain ⟨rfl, hmp⟩ := hmp
    rcases hmp with ⟨rfl, hno⟩ | ⟨j, hj, rfl, hyes⟩
    · refine z_if_ge X (pc := 30) (tgt := 37) dX11_readOrder_30 (by decide) (fun c30 => ?_) (fun c30 => ?_)
      · exact absurd c30 (by decide)
      · refine z_iconst X (pc := 33) (v := 1) dX11_readOrder_33 (by decide) ?_
        refine z_goto X (pc := 34) (tgt := 38) dX11_readOrder_34 (by decide) ?_
        refine z_ior X (pc := 38) dX11_readOrder_38 ?_
        refine z_top (y := 1) (by decide) ?_
        refine z_put X (pc := 39) 21 zk_32_0 (zc_32_0 E _) rfl inlX11 tyX11 tyX11_ok nmX11 (by decide) gw_881 rfl rfl (ty := .boolean) (by decide +kernel) (by decide) rfl (Nat.le_of_ble_eq_true rfl) dX11_readOrder_39 rfl ?_
        refine z_aload_n X (pc := 42) 0 dX11_readOrder_42 rfl rfl ?_
        refine z_get X (pc := 43) 21 zk_32_0 (zc_32_0 E _) rfl inlX11 (by decide) gw_881 rfl rfl dX11_readOrder_43 ?_
        refine z_top (y := 1) up3_same ?_
        refine z_if_eq X (pc := 46) (tgt := 50) dX11_readOrder_46 (by decide) (fun c46 => ?_) (fun c46 => ?_)
        · exact absurd c46 (by decide)
        · exact z_vret X Y dX11_readOrder_49 ⟨rfl, ⟨(TM.u0 (k := 21) hps.1 (by decide)), ((up3_ne (by omega)).trans hps.2.1), up3_same⟩, (Fq.up (b := 32) (r := 0) (k := 21) (Fq.rf (P := tP) (M := M)) (by unfold tP; omega))⟩
    · refine z_if_ge X (pc := 30) (tgt := 37) dX11_readOrder_30 (by decide) (fun c30 => ?_) (fun c30 => ?_)
      · refine z_iconst X (pc := 37) (v := 0) dX11_readOrder_37 (by decide) ?_
        refine z_ior X (pc := 38) dX11_readOrder_38 ?_
        refine z_top (y := 1) (by decide) ?_
        refine z_put X (pc := 39) 21 zk_32_0 (zc_32_0 E _) rfl inlX11 tyX11 tyX11_ok nmX11 (by decide) gw_881 rfl rfl (ty := .boolean) (by decide +kernel) (by decide) rfl (Nat.le_of_ble_eq_true rfl) dX11_readOrder_39 rfl ?_
        refine z_aload_n X (pc := 42) 0 dX11_readOrder_42 rfl rfl ?_
        refine z_get X (pc := 43) 21 zk_32_0 (zc_32_0 E _) rfl inlX11 (by decide) gw_881 rfl rfl dX11_readOrder_43 ?_
        refine z_top (y := 1) up3_same ?_
        refine z_if_eq X (pc := 46) (tgt := 50) dX11_readOrder_46 (by decide) (fun c46 => ?_) (fun c46 => ?_)
        · exact absurd c46 (by decide)
        · exact z_vret X Y dX11_readOrder_49 ⟨rfl, ⟨(TM.u0 (k := 21) hps.1 (by decide)), ((up3_ne (by omega)).trans hps.2.1), up3_same⟩, (Fq.up (b := 32) (r := 0) (k := 21) (Fq.rf (P := tP) (M := M)) (by unfold tP; omega))⟩
      · exact absurd (nI_pos' (by omega)) c30
set_option maxRecDepth 100000 in
set_option maxHeartbeats 4000000 in
theorem c_X11_readOrder (E : ZE) (M : Mem) (t : List Int32) (p : Nat) (hps : PS M t p false) (hp : p ≤ 200) (h8 : ∀ x, x ∈ t → rng x 32 126) : Mt E yX11_readOrder cX11_readOrder 1 none rm_X11_readOrder [.ref (za E 32 0)] M (RV (fun M1 => PS M1 t (pOrd t p).2.1 (!(pOrd t p).1) ∧ ((pOrd t p).1 = true → OrdIs M1 (pOrd t p).2.2) ∧ Fq tP M M1)) := by
  have hl0 : t.length ≤ 60 := hps.1.2.1
  refine z_met (own := RX11) (lv := [(0, .ref (za E 32 0))]) (by decide) rfl (Nat.le_of_ble_eq_true rfl) rfl (fun gg X Y => ?_)
  refine z_aload_n X (pc := 0) 0 dX11_readOrder_0 rfl rfl ?_
  refine z_dup X (pc := 1) dX11_readOrder_1 rfl ?_
  refine z_get X (pc := 2) 21 zk_32_0 (zc_32_0 E _) rfl inlX11 (by decide) gw_881 rfl rfl dX11_readOrder_2 ?_
  refine z_top (y := 0) hps.2.2 ?_
  refine z_aload_n X (pc := 5) 0 dX11_readOrder_5 rfl rfl ?_
  refine z_get X (pc := 6) 16 zk_32_0 (zc_32_0 E _) rfl inlX11 (by decide) gw_882 rfl rfl dX11_readOrder_6 ?_
  refine z_top (y := (nI p)) hps.2.1 ?_
  refine z_aload_n X (pc := 9) 0 dX11_readOrder_9 rfl rfl ?_
  refine z_get X (pc := 10) 15 zk_32_0 (zc_32_0 E _) rfl inlX11 (by decide) gw_815 rfl rfl dX11_readOrder_10 ?_
  refine z_top (y := (nI t.length)) (And.left hps.1) ?_
  refine z_nicmp_ge X (pc := 13) (a := p) (b := t.length) (tgt := 33) dX11_readOrder_13 (by decide) (by omega) (by omega) (fun c13 => ?_) (fun c13 => ?_)
  · refine z_iconst X (pc := 33) (v := 1) dX11_readOrder_33 (by decide) ?_
    refine z_goto X (pc := 34) (tgt := 38) dX11_readOrder_34 (by decide) ?_
    refine z_ior X (pc := 38) dX11_readOrder_38 ?_
    refine z_top (y := 1) (by decide) ?_
    refine z_put X (pc := 39) 21 zk_32_0 (zc_32_0 E _) rfl inlX11 tyX11 tyX11_ok nmX11 (by decide) gw_881 rfl rfl (ty := .boolean) (by decide +kernel) (by decide) rfl (Nat.le_of_ble_eq_true rfl) dX11_readOrder_39 rfl ?_
    refine z_aload_n X (pc := 42) 0 dX11_readOrder_42 rfl rfl ?_
    refine z_get X (pc := 43) 21 zk_32_0 (zc_32_0 E _) rfl inlX11 (by decide) gw_881 rfl rfl dX11_readOrder_43 ?_
    refine z_top (y := 1) up3_same ?_
    refine z_if_eq X (pc := 46) (tgt := 50) dX11_readOrder_46 (by decide) (fun c46 => ?_) (fun c46 => ?_)
    · exact absurd c46 (by decide)
    · have e := ord_out c13
      exact z_vret X Y dX11_readOrder_49 ⟨rfl, by rw [e.1, e.2]; exact ⟨(TM.u0 (k := 21) hps.1 (by decide)), ((up3_ne (by omega)).trans hps.2.1), up3_same⟩, fun q => absurd q (by rw [e.2]; decide), (Fq.up (b := 32) (r := 0) (k := 21) (Fq.rf (P := tP) (M := M)) (by unfold tP; omega))⟩
  · refine z_ldcS X (pc := 16) dX11_readOrder_16 ?_
    refine z_aload_n X (pc := 18) 0 dX11_readOrder_18 rfl rfl ?_
    refine z_get X (pc := 19) 14 zk_32_0 (zc_32_0 E _) rfl inlX11 (by decide) gw_149 rfl rfl dX11_readOrder_19 ?_
    refine z_aload_n X (pc := 22) 0 dX11_readOrder_22 rfl rfl ?_
    refine z_get X (pc := 23) 16 zk_32_0 (zc_32_0 E _) rfl inlX11 (by decide) gw_882 rfl rfl dX11_readOrder_23 ?_
    refine z_top (y := (nI p)) hps.2.1 ?_
    refine z_cald X (pc := 26) (by decide) rfl (show p < 60 by omega) dX11_readOrder_26 ?_
    refine z_top (y := (chr t p)) (TM.at hps.1 (by omega)) ?_
    obtain ⟨k, -, hk, ek⟩ := chr_rng h8 (show p < t.length by omega)
    refine z_top (y := (nI k)) ek ?_
    refine z_callK X (pc := 27) (rest := [.int 0, .ref (za E 32 0)]) kv_J0_indexOf_0f7a4 (c_J0_indexOf_0f7a4 E M k (by omega)) rfl gw_895 (by decide) rfl rfl (Nat.le_of_ble_eq_true rfl) dX11_readOrder_27 (zk_ri (fun v_2 M_1 hmp => ?_))
    obtain ⟨rfl, hmp⟩ := hmp
    rcases hmp with ⟨rfl, hno⟩ | ⟨j, hj, rfl, hyes⟩
    · refine z_if_ge X (pc := 30) (tgt := 37) dX11_readOrder_30 (by decide) (fun c30 => ?_) (fun c30 => ?_)
      · exact absurd c30 (by decide)
      · refine z_iconst X (pc := 33) (v := 1) dX11_readOrder_33 (by decide) ?_
        refine z_goto X (pc := 34) (tgt := 38) dX11_readOrder_34 (by decide) ?_
        refine z_ior X (pc := 38) dX11_readOrder_38 ?_
        refine z_top (y := 1) (by decide) ?_
        refine z_put X (pc := 39) 21 zk_32_0 (zc_32_0 E _) rfl inlX11 tyX11 tyX11_ok nmX11 (by decide) gw_881 rfl rfl (ty := .boolean) (by decide +kernel) (by decide) rfl (Nat.le_of_ble_eq_true rfl) dX11_readOrder_39 rfl ?_
        refine z_aload_n X (pc := 42) 0 dX11_readOrder_42 rfl rfl ?_
        refine z_get X (pc := 43) 21 zk_32_0 (zc_32_0 E _) rfl inlX11 (by decide) gw_881 rfl rfl dX11_readOrder_43 ?_
        refine z_top (y := 1) up3_same ?_
        refine z_if_eq X (pc := 46) (tgt := 50) dX11_readOrder_46 (by decide) (fun c46 => ?_) (fun c46 => ?_)
        · exact absurd c46 (by decide)
        · have e := ord_bad (fun j hj => by rw [ek]; exact hno j hj)
          exact z_vret X Y dX11_readOrder_49 ⟨rfl, by rw [e.1, e.2]; exact ⟨(TM.u0 (k := 21) hps.1 (by decide)), ((up3_ne (by omega)).trans hps.2.1), up3_same⟩, fun q => absurd q (by rw [e.2]; decide), (Fq.up (b := 32) (r := 0) (k := 21) (Fq.rf (P := tP) (M := M)) (by unfold tP; omega))⟩
    · refine z_if_ge X (pc := 30) (tgt := 37) dX11_readOrder_30 (by decide) (fun c30 => ?_) (fun c30 => ?_)
      · refine z_iconst X (pc := 37) (v := 0) dX11_readOrder_37 (by decide) ?_
        refine z_ior X (pc := 38) dX11_readOrder_38 ?_
        refine z_top (y := 0) (by decide) ?_
        refine z_put X (pc := 39) 21 zk_32_0 (zc_32_0 E _) rfl inlX11 tyX11 tyX11_ok nmX11 (by decide) gw_881 rfl rfl (ty := .boolean) (by decide +kernel) (by decide) rfl (Nat.le_of_ble_eq_true rfl) dX11_readOrder_39 rfl ?_
        refine z_aload_n X (pc := 42) 0 dX11_readOrder_42 rfl rfl ?_
        refine z_get X (pc := 43) 21 zk_32_0 (zc_32_0 E _) rfl inlX11 (by decide) gw_881 rfl rfl dX11_readOrder_43 ?_
        refine z_top (y := 0) up3_same ?_
        refine z_if_eq X (pc := 46) (tgt := 50) dX11_readOrder_46 (by decide) (fun c46 => ?_) (fun c46 => ?_)
        · have hlt : p < t.length := by omega
          rcases hm_cases hj (hyes.trans ek.symm) with hx | hx | hx | hx | hx | hx | hx | hx | hx | hx
          · refine z_aload_n X (pc := 50) 0 dX11_readOrder_50 rfl rfl ?_
            refine z_aload_n X (pc := 51) 0 dX11_readOrder_51 rfl rfl ?_
            refine z_get X (pc := 52) 14 zk_32_0 (zc_32_0 E _) rfl inlX11 (by decide) gw_149 rfl rfl dX11_readOrder_52 ?_
            refine z_aload_n X (pc := 55) 0 dX11_readOrder_55 rfl rfl ?_
            refine z_get X (pc := 56) 16 zk_32_0 (zc_32_0 E _) rfl inlX11 (by decide) gw_882 rfl rfl dX11_readOrder_56 ?_
            refine z_top (y := (nI p)) ((up3_ne (by omega)).trans hps.2.1) ?_
            refine z_cald X (pc := 59) (by decide) rfl (show p < 60 by omega) dX11_readOrder_59 ?_
            refine z_top (y := (chr t p)) (TM.at (TM.u0 (k := 21) hps.1 (by decide)) (by omega)) ?_
            refine z_top (y := 104) hx ?_
            refine z_put X (pc := 60) 20 zk_32_0 (zc_32_0 E _) rfl inlX11 tyX11 tyX11_ok nmX11 (by decide) gw_891 rfl rfl (ty := .char) (by decide +kernel) rfl rfl (Nat.le_of_ble_eq_true rfl) dX11_readOrder_60 rfl ?_
            refine z_aload_n X (pc := 63) 0 dX11_readOrder_63 rfl rfl ?_
            refine z_dup X (pc := 64) dX11_readOrder_64 rfl ?_
            refine z_get X (pc := 65) 16 zk_32_0 (zc_32_0 E _) rfl inlX11 (by decide) gw_882 rfl rfl dX11_readOrder_65 ?_
            refine z_top (y := (nI p)) ((up3_ne (by omega)).trans ((up3_ne (by omega)).trans hps.2.1)) ?_
            refine z_iconst X (pc := 68) (v := 1) dX11_readOrder_68 (by decide) ?_
            refine z_iadd X (pc := 69) dX11_readOrder_69 ?_
            refine z_top (y := (nI (p + 1))) (nI_1 _) ?_
            refine z_put X (pc := 70) 16 zk_32_0 (zc_32_0 E _) rfl inlX11 tyX11 tyX11_ok nmX11 (by decide) gw_882 rfl rfl (ty := .int) (by decide +kernel) rfl rfl (Nat.le_of_ble_eq_true rfl) dX11_readOrder_70 rfl ?_
            refine z_aload_n X (pc := 73) 0 dX11_readOrder_73 rfl rfl ?_
            refine z_get X (pc := 74) 20 zk_32_0 (zc_32_0 E _) rfl inlX11 (by decide) gw_891 rfl rfl dX11_readOrder_74 ?_
            refine z_top (y := 104) ((up3_ne (by omega)).trans up3_same) ?_
            refine z_bipush X (pc := 77) (v := 97) dX11_readOrder_77 (by decide) ?_
            refine z_icmp_ne X (pc := 79) (tgt := 83) dX11_readOrder_79 (by decide) (fun c79 => ?_) (fun c79 => ?_)
            · refine z_aload_n X (pc := 83) 0 dX11_readOrder_83 rfl rfl ?_
              refine z_aload_n X (pc := 84) 0 dX11_readOrder_84 rfl rfl ?_
              refine z_iconst X (pc := 85) (v := 1) dX11_readOrder_85 (by decide) ?_
              refine z_callV X (pc := 86) (rest := [.ref (za E 32 0)]) kv_X11_readNumber (c_X11_readNumber_1 E (up3 (up3 (up3 M 32 0 21 0) 32 0 20 104) 32 0 16 (nI (p + 1))) t (p + 1) false ⟨(TM.u0 (k := 16) (TM.u0 (k := 20) (TM.u0 (k := 21) hps.1 (by decide)) (by decide)) (by decide)), up3_same, ((up3_ne (by omega)).trans ((up3_ne (by omega)).trans up3_same))⟩ (by omega)) zk_32_0 (zc_32_0 E _) rfl rfl gw_979 (by decide) rfl rfl (Nat.le_of_ble_eq_true rfl) dX11_readOrder_86 (zk_ri (fun v_5 M_3 h_4 => ?_))
              refine z_top (y := ((rnR t (p + 1) false 1).1)) h_4.1 ?_
              have h_4b := rnR_le (t := t) (p := p + 1) (w := false) (n := 1)
              refine z_put X (pc := 89) 17 zk_32_0 (zc_32_0 E _) rfl inlX11 tyX11 tyX11_ok nmX11 (by decide) gw_892 rfl rfl (ty := .int) (by decide +kernel) rfl rfl (Nat.le_of_ble_eq_true rfl) dX11_readOrder_89 rfl ?_
              refine z_aload_n X (pc := 92) 0 dX11_readOrder_92 rfl rfl ?_
              refine z_get X (pc := 93) 20 zk_32_0 (zc_32_0 E _) rfl inlX11 (by decide) gw_891 rfl rfl dX11_readOrder_93 ?_
              refine z_top (y := 104) ((up3_ne (by omega)).trans ((h_4.2.2 32 0 20 (by unfold tN; omega)).trans ((up3_ne (by omega)).trans up3_same))) ?_
              refine z_lookup X (pc := 96) (off := 44) (tgt := 140) dX11_readOrder_96 (by decide) (by decide) (by decide) ?_
              refine z_aload_n X (pc := 140) 0 dX11_readOrder_140 rfl rfl ?_
              refine z_aload_n X (pc := 141) 0 dX11_readOrder_141 rfl rfl ?_
              refine z_iconst X (pc := 142) (v := 1) dX11_readOrder_142 (by decide) ?_
              refine z_callV X (pc := 143) (rest := [.ref (za E 32 0)]) kv_X11_readNumber (c_X11_readNumber_1 E (up3 M_3 32 0 17 ((rnR t (p + 1) false 1).1)) t ((rnR t (p + 1) false 1).2.1) ((rnR t (p + 1) false 1).2.2) ⟨(TM.u0 (k := 17) h_4.2.1.1 (by decide)), ((up3_ne (by omega)).trans h_4.2.1.2.1), ((up3_ne (by omega)).trans h_4.2.1.2.2)⟩ (by omega)) zk_32_0 (zc_32_0 E _) rfl rfl gw_979 (by decide) rfl rfl (Nat.le_of_ble_eq_true rfl) dX11_readOrder_143 (zk_ri (fun v_8 M_6 h_7 => ?_))
              refine z_top (y := ((rnR t ((rnR t (p + 1) false 1).2.1) ((rnR t (p + 1) false 1).2.2) 1).1)) h_7.1 ?_
              have h_7b := rnR_le (t := t) (p := (rnR t (p + 1) false 1).2.1) (w := (rnR t (p + 1) false 1).2.2) (n := 1)
              refine z_put X (pc := 146) 18 zk_32_0 (zc_32_0 E _) rfl inlX11 tyX11 tyX11_ok nmX11 (by decide) gw_893 rfl rfl (ty := .int) (by decide +kernel) rfl rfl (Nat.le_of_ble_eq_true rfl) dX11_readOrder_146 rfl ?_
              refine z_goto X (pc := 149) (tgt := 206) dX11_readOrder_149 (by decide) ?_
              obtain ⟨e1, e2, e3⟩ := ord_h hx
              exact z_vret X Y dX11_readOrder_206 ⟨rfl, by rw [e1, e2]; exact ⟨(TM.u0 (k := 18) h_7.2.1.1 (by decide)), ((up3_ne (by omega)).trans h_7.2.1.2.1), ((up3_ne (by omega)).trans h_7.2.1.2.2)⟩, fun q => by rw [e3 q]; exact ⟨((up3_ne (by omega)).trans ((h_7.2.2 32 0 20 (by unfold tN; omega)).trans ((up3_ne (by omega)).trans ((h_4.2.2 32 0 20 (by unfold tN; omega)).trans ((up3_ne (by omega)).trans up3_same))))), fun _ => ((up3_ne (by omega)).trans ((h_7.2.2 32 0 17 (by unfold tN; omega)).trans up3_same)), fun _ => up3_same, fun z => absurd (show (104 : Int32) = 109 from z) (by decide)⟩, (Fq.up (b := 32) (r := 0) (k := 18) (Fq.tr (Fq.up (b := 32) (r := 0) (k := 17) (Fq.tr (Fq.up (b := 32) (r := 0) (k := 16) (Fq.up (b := 32) (r := 0) (k := 20) (Fq.up (b := 32) (r := 0) (k := 21) (Fq.rf (P := tP) (M := M)) (by unfold tP; omega)) (by unfold tP; omega)) (by unfold tP; omega)) (Fq.mono h_4.2.2 tN_P)) (by unfold tP; omega)) (Fq.mono h_7.2.2 tN_P)) (by unfold tP; omega))⟩
            · exact absurd c79 (by decide)
          · refine z_aload_n X (pc := 50) 0 dX11_readOrder_50 rfl rfl ?_
            refine z_aload_n X (pc := 51) 0 dX11_readOrder_51 rfl rfl ?_
            refine z_get X (pc := 52) 14 zk_32_0 (zc_32_0 E _) rfl inlX11 (by decide) gw_149 rfl rfl dX11_readOrder_52 ?_
            refine z_aload_n X (pc := 55) 0 dX11_readOrder_55 rfl rfl ?_
            refine z_get X (pc := 56) 16 zk_32_0 (zc_32_0 E _) rfl inlX11 (by decide) gw_882 rfl rfl dX11_readOrder_56 ?_
            refine z_top (y := (nI p)) ((up3_ne (by omega)).trans hps.2.1) ?_
            refine z_cald X (pc := 59) (by decide) rfl (show p < 60 by omega) dX11_readOrder_59 ?_
            refine z_top (y := (chr t p)) (TM.at (TM.u0 (k := 21) hps.1 (by decide)) (by omega)) ?_
            refine z_top (y := 109) hx ?_
            refine z_put X (pc := 60) 20 zk_32_0 (zc_32_0 E _) rfl inlX11 tyX11 tyX11_ok nmX11 (by decide) gw_891 rfl rfl (ty := .char) (by decide +kernel) rfl rfl (Nat.le_of_ble_eq_true rfl) dX11_readOrder_60 rfl ?_
            refine z_aload_n X (pc := 63) 0 dX11_readOrder_63 rfl rfl ?_
            refine z_dup X (pc := 64) dX11_readOrder_64 rfl ?_
            refine z_get X (pc := 65) 16 zk_32_0 (zc_32_0 E _) rfl inlX11 (by decide) gw_882 rfl rfl dX11_readOrder_65 ?_
            refine z_top (y := (nI p)) ((up3_ne (by omega)).trans ((up3_ne (by omega)).trans hps.2.1)) ?_
            refine z_iconst X (pc := 68) (v := 1) dX11_readOrder_68 (by decide) ?_
            refine z_iadd X (pc := 69) dX11_readOrder_69 ?_
            refine z_top (y := (nI (p + 1))) (nI_1 _) ?_
            refine z_put X (pc := 70) 16 zk_32_0 (zc_32_0 E _) rfl inlX11 tyX11 tyX11_ok nmX11 (by decide) gw_882 rfl rfl (ty := .int) (by decide +kernel) rfl rfl (Nat.le_of_ble_eq_true rfl) dX11_readOrder_70 rfl ?_
            refine z_aload_n X (pc := 73) 0 dX11_readOrder_73 rfl rfl ?_
            refine z_get X (pc := 74) 20 zk_32_0 (zc_32_0 E _) rfl inlX11 (by decide) gw_891 rfl rfl dX11_readOrder_74 ?_
            refine z_top (y := 109) ((up3_ne (by omega)).trans up3_same) ?_
            refine z_bipush X (pc := 77) (v := 97) dX11_readOrder_77 (by decide) ?_
            refine z_icmp_ne X (pc := 79) (tgt := 83) dX11_readOrder_79 (by decide) (fun c79 => ?_) (fun c79 => ?_)
            · refine z_aload_n X (pc := 83) 0 dX11_readOrder_83 rfl rfl ?_
              refine z_aload_n X (pc := 84) 0 dX11_readOrder_84 rfl rfl ?_
              refine z_iconst X (pc := 85) (v := 1) dX11_readOrder_85 (by decide) ?_
              refine z_callV X (pc := 86) (rest := [.ref (za E 32 0)]) kv_X11_readNumber (c_X11_readNumber_1 E (up3 (up3 (up3 M 32 0 21 0) 32 0 20 109) 32 0 16 (nI (p + 1))) t (p + 1) false ⟨(TM.u0 (k := 16) (TM.u0 (k := 20) (TM.u0 (k := 21) hps.1 (by decide)) (by decide)) (by decide)), up3_same, ((up3_ne (by omega)).trans ((up3_ne (by omega)).trans up3_same))⟩ (by omega)) zk_32_0 (zc_32_0 E _) rfl rfl gw_979 (by decide) rfl rfl (Nat.le_of_ble_eq_true rfl) dX11_readOrder_86 (zk_ri (fun v_11 M_9 h_10 => ?_))
              refine z_top (y := ((rnR t (p + 1) false 1).1)) h_10.1 ?_
              have h_10b := rnR_le (t := t) (p := p + 1) (w := false) (n := 1)
              refine z_put X (pc := 89) 17 zk_32_0 (zc_32_0 E _) rfl inlX11 tyX11 tyX11_ok nmX11 (by decide) gw_892 rfl rfl (ty := .int) (by decide +kernel) rfl rfl (Nat.le_of_ble_eq_true rfl) dX11_readOrder_89 rfl ?_
              refine z_aload_n X (pc := 92) 0 dX11_readOrder_92 rfl rfl ?_
              refine z_get X (pc := 93) 20 zk_32_0 (zc_32_0 E _) rfl inlX11 (by decide) gw_891 rfl rfl dX11_readOrder_93 ?_
              refine z_top (y := 109) ((up3_ne (by omega)).trans ((h_10.2.2 32 0 20 (by unfold tN; omega)).trans ((up3_ne (by omega)).trans up3_same))) ?_
              refine z_lookup X (pc := 96) (off := 56) (tgt := 152) dX11_readOrder_96 (by decide) (by decide) (by decide) ?_
              refine z_aload_n X (pc := 152) 0 dX11_readOrder_152 rfl rfl ?_
              refine z_aload_n X (pc := 153) 0 dX11_readOrder_153 rfl rfl ?_
              refine z_iconst X (pc := 154) (v := 1) dX11_readOrder_154 (by decide) ?_
              refine z_callV X (pc := 155) (rest := [.ref (za E 32 0)]) kv_X11_readNumber (c_X11_readNumber_1 E (up3 M_9 32 0 17 ((rnR t (p + 1) false 1).1)) t ((rnR t (p + 1) false 1).2.1) ((rnR t (p + 1) false 1).2.2) ⟨(TM.u0 (k := 17) h_10.2.1.1 (by decide)), ((up3_ne (by omega)).trans h_10.2.1.2.1), ((up3_ne (by omega)).trans h_10.2.1.2.2)⟩ (by omega)) zk_32_0 (zc_32_0 E _) rfl rfl gw_979 (by decide) rfl rfl (Nat.le_of_ble_eq_true rfl) dX11_readOrder_155 (zk_ri (fun v_14 M_12 h_13 => ?_))
              refine z_top (y := ((rnR t ((rnR t (p + 1) false 1).2.1) ((rnR t (p + 1) false 1).2.2) 1).1)) h_13.1 ?_
              have h_13b := rnR_le (t := t) (p := (rnR t (p + 1) false 1).2.1) (w := (rnR t (p + 1) false 1).2.2) (n := 1)
              refine z_put X (pc := 158) 18 zk_32_0 (zc_32_0 E _) rfl inlX11 tyX11 tyX11_ok nmX11 (by decide) gw_893 rfl rfl (ty := .int) (by decide +kernel) rfl rfl (Nat.le_of_ble_eq_true rfl) dX11_readOrder_158 rfl ?_
              refine z_aload_n X (pc := 161) 0 dX11_readOrder_161 rfl rfl ?_
              refine z_aload_n X (pc := 162) 0 dX11_readOrder_162 rfl rfl ?_
              refine z_iconst X (pc := 163) (v := 1) dX11_readOrder_163 (by decide) ?_
              refine z_callV X (pc := 164) (rest := [.ref (za E 32 0)]) kv_X11_readNumber (c_X11_readNumber_1 E (up3 M_12 32 0 18 ((rnR t ((rnR t (p + 1) false 1).2.1) ((rnR t (p + 1) false 1).2.2) 1).1)) t ((rnR t ((rnR t (p + 1) false 1).2.1) ((rnR t (p + 1) false 1).2.2) 1).2.1) ((rnR t ((rnR t (p + 1) false 1).2.1) ((rnR t (p + 1) false 1).2.2) 1).2.2) ⟨(TM.u0 (k := 18) h_13.2.1.1 (by decide)), ((up3_ne (by omega)).trans h_13.2.1.2.1), ((up3_ne (by omega)).trans h_13.2.1.2.2)⟩ (by omega)) zk_32_0 (zc_32_0 E _) rfl rfl gw_979 (by decide) rfl rfl (Nat.le_of_ble_eq_true rfl) dX11_readOrder_164 (zk_ri (fun v_17 M_15 h_16 => ?_))
              refine z_top (y := ((rnR t ((rnR t ((rnR t (p + 1) false 1).2.1) ((rnR t (p + 1) false 1).2.2) 1).2.1) ((rnR t ((rnR t (p + 1) false 1).2.1) ((rnR t (p + 1) false 1).2.2) 1).2.2) 1).1)) h_16.1 ?_
              have h_16b := rnR_le (t := t) (p := (rnR t ((rnR t (p + 1) false 1).2.1) ((rnR t (p + 1) false 1).2.2) 1).2.1) (w := (rnR t ((rnR t (p + 1) false 1).2.1) ((rnR t (p + 1) false 1).2.2) 1).2.2) (n := 1)
              refine z_put X (pc := 167) 19 zk_32_0 (zc_32_0 E _) rfl inlX11 tyX11 tyX11_ok nmX11 (by decide) gw_894 rfl rfl (ty := .int) (by decide +kernel) rfl rfl (Nat.le_of_ble_eq_true rfl) dX11_readOrder_167 rfl ?_
              refine z_goto X (pc := 170) (tgt := 206) dX11_readOrder_170 (by decide) ?_
              obtain ⟨e1, e2, e3⟩ := ord_m hx
              exact z_vret X Y dX11_readOrder_206 ⟨rfl, by rw [e1, e2]; exact ⟨(TM.u0 (k := 19) h_16.2.1.1 (by decide)), ((up3_ne (by omega)).trans h_16.2.1.2.1), ((up3_ne (by omega)).trans h_16.2.1.2.2)⟩, fun q => by rw [e3 q]; exact ⟨((up3_ne (by omega)).trans ((h_16.2.2 32 0 20 (by unfold tN; omega)).trans ((up3_ne (by omega)).trans ((h_13.2.2 32 0 20 (by unfold tN; omega)).trans ((up3_ne (by omega)).trans ((h_10.2.2 32 0 20 (by unfold tN; omega)).trans ((up3_ne (by omega)).trans up3_same))))))), fun _ => ((up3_ne (by omega)).trans ((h_16.2.2 32 0 17 (by unfold tN; omega)).trans ((up3_ne (by omega)).trans ((h_13.2.2 32 0 17 (by unfold tN; omega)).trans up3_same)))), fun _ => ((up3_ne (by omega)).trans ((h_16.2.2 32 0 18 (by unfold tN; omega)).trans up3_same)), fun _ => up3_same⟩, (Fq.up (b := 32) (r := 0) (k := 19) (Fq.tr (Fq.up (b := 32) (r := 0) (k := 18) (Fq.tr (Fq.up (b := 32) (r := 0) (k := 17) (Fq.tr (Fq.up (b := 32) (r := 0) (k := 16) (Fq.up (b := 32) (r := 0) (k := 20) (Fq.up (b := 32) (r := 0) (k := 21) (Fq.rf (P := tP) (M := M)) (by unfold tP; omega)) (by unfold tP; omega)) (by unfold tP; omega)) (Fq.mono h_10.2.2 tN_P)) (by unfold tP; omega)) (Fq.mono h_13.2.2 tN_P)) (by unfold tP; omega)) (Fq.mono h_16.2.2 tN_P)) (by unfold tP; omega))⟩
            · exact absurd c79 (by decide)
          · refine z_aload_n X (pc := 50) 0 dX11_readOrder_50 rfl rfl ?_
            refine z_aload_n X (pc := 51) 0 dX11_readOrder_51 rfl rfl ?_
            refine z_get X (pc := 52) 14 zk_32_0 (zc_32_0 E _) rfl inlX11 (by decide) gw_149 rfl rfl dX11_readOrder_52 ?_
            refine z_aload_n X (pc := 55) 0 dX11_readOrder_55 rfl rfl ?_
            refine z_get X (pc := 56) 16 zk_32_0 (zc_32_0 E _) rfl inlX11 (by decide) gw_882 rfl rfl dX11_readOrder_56 ?_
            refine z_top (y := (nI p)) ((up3_ne (by omega)).trans hps.2.1) ?_
            refine z_cald X (pc := 59) (by decide) rfl (show p < 60 by omega) dX11_readOrder_59 ?_
            refine z_top (y := (chr t p)) (TM.at (TM.u0 (k := 21) hps.1 (by decide)) (by omega)) ?_
            refine z_top (y := 115) hx ?_
            refine z_put X (pc := 60) 20 zk_32_0 (zc_32_0 E _) rfl inlX11 tyX11 tyX11_ok nmX11 (by decide) gw_891 rfl rfl (ty := .char) (by decide +kernel) rfl rfl (Nat.le_of_ble_eq_true rfl) dX11_readOrder_60 rfl ?_
            refine z_aload_n X (pc := 63) 0 dX11_readOrder_63 rfl rfl ?_
            refine z_dup X (pc := 64) dX11_readOrder_64 rfl ?_
            refine z_get X (pc := 65) 16 zk_32_0 (zc_32_0 E _) rfl inlX11 (by decide) gw_882 rfl rfl dX11_readOrder_65 ?_
            refine z_top (y := (nI p)) ((up3_ne (by omega)).trans ((up3_ne (by omega)).trans hps.2.1)) ?_
            refine z_iconst X (pc := 68) (v := 1) dX11_readOrder_68 (by decide) ?_
            refine z_iadd X (pc := 69) dX11_readOrder_69 ?_
            refine z_top (y := (nI (p + 1))) (nI_1 _) ?_
            refine z_put X (pc := 70) 16 zk_32_0 (zc_32_0 E _) rfl inlX11 tyX11 tyX11_ok nmX11 (by decide) gw_882 rfl rfl (ty := .int) (by decide +kernel) rfl rfl (Nat.le_of_ble_eq_true rfl) dX11_readOrder_70 rfl ?_
            refine z_aload_n X (pc := 73) 0 dX11_readOrder_73 rfl rfl ?_
            refine z_get X (pc := 74) 20 zk_32_0 (zc_32_0 E _) rfl inlX11 (by decide) gw_891 rfl rfl dX11_readOrder_74 ?_
            refine z_top (y := 115) ((up3_ne (by omega)).trans up3_same) ?_
            refine z_bipush X (pc := 77) (v := 97) dX11_readOrder_77 (by decide) ?_
            refine z_icmp_ne X (pc := 79) (tgt := 83) dX11_readOrder_79 (by decide) (fun c79 => ?_) (fun c79 => ?_)
            · refine z_aload_n X (pc := 83) 0 dX11_readOrder_83 rfl rfl ?_
              refine z_aload_n X (pc := 84) 0 dX11_readOrder_84 rfl rfl ?_
              refine z_iconst X (pc := 85) (v := 1) dX11_readOrder_85 (by decide) ?_
              refine z_callV X (pc := 86) (rest := [.ref (za E 32 0)]) kv_X11_readNumber (c_X11_readNumber_1 E (up3 (up3 (up3 M 32 0 21 0) 32 0 20 115) 32 0 16 (nI (p + 1))) t (p + 1) false ⟨(TM.u0 (k := 16) (TM.u0 (k := 20) (TM.u0 (k := 21) hps.1 (by decide)) (by decide)) (by decide)), up3_same, ((up3_ne (by omega)).trans ((up3_ne (by omega)).trans up3_same))⟩ (by omega)) zk_32_0 (zc_32_0 E _) rfl rfl gw_979 (by decide) rfl rfl (Nat.le_of_ble_eq_true rfl) dX11_readOrder_86 (zk_ri (fun v_20 M_18 h_19 => ?_))
              refine z_top (y := ((rnR t (p + 1) false 1).1)) h_19.1 ?_
              have h_19b := rnR_le (t := t) (p := p + 1) (w := false) (n := 1)
              refine z_put X (pc := 89) 17 zk_32_0 (zc_32_0 E _) rfl inlX11 tyX11 tyX11_ok nmX11 (by decide) gw_892 rfl rfl (ty := .int) (by decide +kernel) rfl rfl (Nat.le_of_ble_eq_true rfl) dX11_readOrder_89 rfl ?_
              refine z_aload_n X (pc := 92) 0 dX11_readOrder_92 rfl rfl ?_
              refine z_get X (pc := 93) 20 zk_32_0 (zc_32_0 E _) rfl inlX11 (by decide) gw_891 rfl rfl dX11_readOrder_93 ?_
              refine z_top (y := 115) ((up3_ne (by omega)).trans ((h_19.2.2 32 0 20 (by unfold tN; omega)).trans ((up3_ne (by omega)).trans up3_same))) ?_
              refine z_lookup X (pc := 96) (off := 77) (tgt := 173) dX11_readOrder_96 (by decide) (by decide) (by decide) ?_
              refine z_aload_n X (pc := 173) 0 dX11_readOrder_173 rfl rfl ?_
              refine z_aload_n X (pc := 174) 0 dX11_readOrder_174 rfl rfl ?_
              refine z_bipush X (pc := 175) (v := 58) dX11_readOrder_175 (by decide) ?_
              refine z_iconst X (pc := 177) (v := 1) dX11_readOrder_177 (by decide) ?_
              refine z_callV X (pc := 178) (rest := [.ref (za E 32 0)]) kv_X11_readBehind (c_X11_readBehind_1 E (up3 M_18 32 0 17 ((rnR t (p + 1) false 1).1)) t ((rnR t (p + 1) false 1).2.1) ((rnR t (p + 1) false 1).2.2) ⟨(TM.u0 (k := 17) h_19.2.1.1 (by decide)), ((up3_ne (by omega)).trans h_19.2.1.2.1), ((up3_ne (by omega)).trans h_19.2.1.2.2)⟩ (by omega)) zk_32_0 (zc_32_0 E _) rfl rfl gw_987 (by decide) rfl rfl (Nat.le_of_ble_eq_true rfl) dX11_readOrder_178 (zk_ri (fun v_23 M_21 h_22 => ?_))
              refine z_top (y := ((rbR t ((rnR t (p + 1) false 1).2.1) ((rnR t (p + 1) false 1).2.2) 58 1).1)) h_22.1 ?_
              refine z_put X (pc := 181) 18 zk_32_0 (zc_32_0 E _) rfl inlX11 tyX11 tyX11_ok nmX11 (by decide) gw_893 rfl rfl (ty := .int) (by decide +kernel) rfl rfl (Nat.le_of_ble_eq_true rfl) dX11_readOrder_181 rfl ?_
              refine z_goto X (pc := 184) (tgt := 206) dX11_readOrder_184 (by decide) ?_
              obtain ⟨e1, e2, e3⟩ := ord_s hx
              exact z_vret X Y dX11_readOrder_206 ⟨rfl, by rw [e1, e2]; exact ⟨(TM.u0 (k := 18) h_22.2.1.1 (by decide)), ((up3_ne (by omega)).trans h_22.2.1.2.1), ((up3_ne (by omega)).trans h_22.2.1.2.2)⟩, fun q => by rw [e3 q]; exact ⟨((up3_ne (by omega)).trans ((h_22.2.2 32 0 20 (by unfold tN; omega)).trans ((up3_ne (by omega)).trans ((h_19.2.2 32 0 20 (by unfold tN; omega)).trans ((up3_ne (by omega)).trans up3_same))))), fun _ => ((up3_ne (by omega)).trans ((h_22.2.2 32 0 17 (by unfold tN; omega)).trans up3_same)), fun _ => up3_same, fun z => absurd (show (115 : Int32) = 109 from z) (by decide)⟩, (Fq.up (b := 32) (r := 0) (k := 18) (Fq.tr (Fq.up (b := 32) (r := 0) (k := 17) (Fq.tr (Fq.up (b := 32) (r := 0) (k := 16) (Fq.up (b := 32) (r := 0) (k := 20) (Fq.up (b := 32) (r := 0) (k := 21) (Fq.rf (P := tP) (M := M)) (by unfold tP; omega)) (by unfold tP; omega)) (by unfold tP; omega)) (Fq.mono h_19.2.2 tN_P)) (by unfold tP; omega)) (Fq.mono h_22.2.2 tN_P)) (by unfold tP; omega))⟩
            · exact absurd c79 (by decide)
          · refine z_aload_n X (pc := 50) 0 dX11_readOrder_50 rfl rfl ?_
            refine z_aload_n X (pc := 51) 0 dX11_readOrder_51 rfl rfl ?_
            refine z_get X (pc := 52) 14 zk_32_0 (zc_32_0 E _) rfl inlX11 (by decide) gw_149 rfl rfl dX11_readOrder_52 ?_
            refine z_aload_n X (pc := 55) 0 dX11_readOrder_55 rfl rfl ?_
            refine z_get X (pc := 56) 16 zk_32_0 (zc_32_0 E _) rfl inlX11 (by decide) gw_882 rfl rfl dX11_readOrder_56 ?_
            refine z_top (y := (nI p)) ((up3_ne (by omega)).trans hps.2.1) ?_
            refine z_cald X (pc := 59) (by decide) rfl (show p < 60 by omega) dX11_readOrder_59 ?_
            refine z_top (y := (chr t p)) (TM.at (TM.u0 (k := 21) hps.1 (by decide)) (by omega)) ?_
            refine z_top (y := 114) hx ?_
            refine z_put X (pc := 60) 20 zk_32_0 (zc_32_0 E _) rfl inlX11 tyX11 tyX11_ok nmX11 (by decide) gw_891 rfl rfl (ty := .char) (by decide +kernel) rfl rfl (Nat.le_of_ble_eq_true rfl) dX11_readOrder_60 rfl ?_
            refine z_aload_n X (pc := 63) 0 dX11_readOrder_63 rfl rfl ?_
            refine z_dup X (pc := 64) dX11_readOrder_64 rfl ?_
            refine z_get X (pc := 65) 16 zk_32_0 (zc_32_0 E _) rfl inlX11 (by decide) gw_882 rfl rfl dX11_readOrder_65 ?_
            refine z_top (y := (nI p)) ((up3_ne (by omega)).trans ((up3_ne (by omega)).trans hps.2.1)) ?_
            refine z_iconst X (pc := 68) (v := 1) dX11_readOrder_68 (by decide) ?_
            refine z_iadd X (pc := 69) dX11_readOrder_69 ?_
            refine z_top (y := (nI (p + 1))) (nI_1 _) ?_
            refine z_put X (pc := 70) 16 zk_32_0 (zc_32_0 E _) rfl inlX11 tyX11 tyX11_ok nmX11 (by decide) gw_882 rfl rfl (ty := .int) (by decide +kernel) rfl rfl (Nat.le_of_ble_eq_true rfl) dX11_readOrder_70 rfl ?_
            refine z_aload_n X (pc := 73) 0 dX11_readOrder_73 rfl rfl ?_
            refine z_get X (pc := 74) 20 zk_32_0 (zc_32_0 E _) rfl inlX11 (by decide) gw_891 rfl rfl dX11_readOrder_74 ?_
            refine z_top (y := 114) ((up3_ne (by omega)).trans up3_same) ?_
            refine z_bipush X (pc := 77) (v := 97) dX11_readOrder_77 (by decide) ?_
            refine z_icmp_ne X (pc := 79) (tgt := 83) dX11_readOrder_79 (by decide) (fun c79 => ?_) (fun c79 => ?_)
            · refine z_aload_n X (pc := 83) 0 dX11_readOrder_83 rfl rfl ?_
              refine z_aload_n X (pc := 84) 0 dX11_readOrder_84 rfl rfl ?_
              refine z_iconst X (pc := 85) (v := 1) dX11_readOrder_85 (by decide) ?_
              refine z_callV X (pc := 86) (rest := [.ref (za E 32 0)]) kv_X11_readNumber (c_X11_readNumber_1 E (up3 (up3 (up3 M 32 0 21 0) 32 0 20 114) 32 0 16 (nI (p + 1))) t (p + 1) false ⟨(TM.u0 (k := 16) (TM.u0 (k := 20) (TM.u0 (k := 21) hps.1 (by decide)) (by decide)) (by decide)), up3_same, ((up3_ne (by omega)).trans ((up3_ne (by omega)).trans up3_same))⟩ (by omega)) zk_32_0 (zc_32_0 E _) rfl rfl gw_979 (by decide) rfl rfl (Nat.le_of_ble_eq_true rfl) dX11_readOrder_86 (zk_ri (fun v_26 M_24 h_25 => ?_))
              refine z_top (y := ((rnR t (p + 1) false 1).1)) h_25.1 ?_
              have h_25b := rnR_le (t := t) (p := p + 1) (w := false) (n := 1)
              refine z_put X (pc := 89) 17 zk_32_0 (zc_32_0 E _) rfl inlX11 tyX11 tyX11_ok nmX11 (by decide) gw_892 rfl rfl (ty := .int) (by decide +kernel) rfl rfl (Nat.le_of_ble_eq_true rfl) dX11_readOrder_89 rfl ?_
              refine z_aload_n X (pc := 92) 0 dX11_readOrder_92 rfl rfl ?_
              refine z_get X (pc := 93) 20 zk_32_0 (zc_32_0 E _) rfl inlX11 (by decide) gw_891 rfl rfl dX11_readOrder_93 ?_
              refine z_top (y := 114) ((up3_ne (by omega)).trans ((h_25.2.2 32 0 20 (by unfold tN; omega)).trans ((up3_ne (by omega)).trans up3_same))) ?_
              refine z_lookup X (pc := 96) (off := 105) (tgt := 201) dX11_readOrder_96 (by decide) (by decide) (by decide) ?_
              refine z_aload_n X (pc := 201) 0 dX11_readOrder_201 rfl rfl ?_
              refine z_iconst X (pc := 202) (v := 0) dX11_readOrder_202 (by decide) ?_
              refine z_put X (pc := 203) 18 zk_32_0 (zc_32_0 E _) rfl inlX11 tyX11 tyX11_ok nmX11 (by decide) gw_893 rfl rfl (ty := .int) (by decide +kernel) rfl rfl (Nat.le_of_ble_eq_true rfl) dX11_readOrder_203 rfl ?_
              obtain ⟨e1, e2, e3⟩ := ord_o (l := 114) hx (by decide)
              exact z_vret X Y dX11_readOrder_206 ⟨rfl, by rw [e1, e2]; exact ⟨(TM.u0 (k := 18) (TM.u0 (k := 17) h_25.2.1.1 (by decide)) (by decide)), ((up3_ne (by omega)).trans ((up3_ne (by omega)).trans h_25.2.1.2.1)), ((up3_ne (by omega)).trans ((up3_ne (by omega)).trans h_25.2.1.2.2))⟩, fun q => by rw [e3 q]; exact ⟨((up3_ne (by omega)).trans ((up3_ne (by omega)).trans ((h_25.2.2 32 0 20 (by unfold tN; omega)).trans ((up3_ne (by omega)).trans up3_same)))), fun _ => ((up3_ne (by omega)).trans up3_same), fun z => absurd (show (114 : Int32) = 104 ∨ (114 : Int32) = 109 ∨ (114 : Int32) = 115 ∨ (114 : Int32) = 98 from z) (by decide), fun z => absurd (show (114 : Int32) = 109 from z) (by decide)⟩, (Fq.up (b := 32) (r := 0) (k := 18) (Fq.up (b := 32) (r := 0) (k := 17) (Fq.tr (Fq.up (b := 32) (r := 0) (k := 16) (Fq.up (b := 32) (r := 0) (k := 20) (Fq.up (b := 32) (r := 0) (k := 21) (Fq.rf (P := tP) (M := M)) (by unfold tP; omega)) (by unfold tP; omega)) (by unfold tP; omega)) (Fq.mono h_25.2.2 tN_P)) (by unfold tP; omega)) (by unfold tP; omega))⟩
            · exact absurd c79 (by decide)
          · refine z_aload_n X (pc := 50) 0 dX11_readOrder_50 rfl rfl ?_
            refine z_aload_n X (pc := 51) 0 dX11_readOrder_51 rfl rfl ?_
            refine z_get X (pc := 52) 14 zk_32_0 (zc_32_0 E _) rfl inlX11 (by decide) gw_149 rfl rfl dX11_readOrder_52 ?_
            refine z_aload_n X (pc := 55) 0 dX11_readOrder_55 rfl rfl ?_
            refine z_get X (pc := 56) 16 zk_32_0 (zc_32_0 E _) rfl inlX11 (by decide) gw_882 rfl rfl dX11_readOrder_56 ?_
            refine z_top (y := (nI p)) ((up3_ne (by omega)).trans hps.2.1) ?_
            refine z_cald X (pc := 59) (by decide) rfl (show p < 60 by omega) dX11_readOrder_59 ?_
            refine z_top (y := (chr t p)) (TM.at (TM.u0 (k := 21) hps.1 (by decide)) (by omega)) ?_
            refine z_top (y := 97) hx ?_
            refine z_put X (pc := 60) 20 zk_32_0 (zc_32_0 E _) rfl inlX11 tyX11 tyX11_ok nmX11 (by decide) gw_891 rfl rfl (ty := .char) (by decide +kernel) rfl rfl (Nat.le_of_ble_eq_true rfl) dX11_readOrder_60 rfl ?_
            refine z_aload_n X (pc := 63) 0 dX11_readOrder_63 rfl rfl ?_
            refine z_dup X (pc := 64) dX11_readOrder_64 rfl ?_
            refine z_get X (pc := 65) 16 zk_32_0 (zc_32_0 E _) rfl inlX11 (by decide) gw_882 rfl rfl dX11_readOrder_65 ?_
            refine z_top (y := (nI p)) ((up3_ne (by omega)).trans ((up3_ne (by omega)).trans hps.2.1)) ?_
            refine z_iconst X (pc := 68) (v := 1) dX11_readOrder_68 (by decide) ?_
            refine z_iadd X (pc := 69) dX11_readOrder_69 ?_
            refine z_top (y := (nI (p + 1))) (nI_1 _) ?_
            refine z_put X (pc := 70) 16 zk_32_0 (zc_32_0 E _) rfl inlX11 tyX11 tyX11_ok nmX11 (by decide) gw_882 rfl rfl (ty := .int) (by decide +kernel) rfl rfl (Nat.le_of_ble_eq_true rfl) dX11_readOrder_70 rfl ?_
            refine z_aload_n X (pc := 73) 0 dX11_readOrder_73 rfl rfl ?_
            refine z_get X (pc := 74) 20 zk_32_0 (zc_32_0 E _) rfl inlX11 (by decide) gw_891 rfl rfl dX11_readOrder_74 ?_
            refine z_top (y := 97) ((up3_ne (by omega)).trans up3_same) ?_
            refine z_bipush X (pc := 77) (v := 97) dX11_readOrder_77 (by decide) ?_
            refine z_icmp_ne X (pc := 79) (tgt := 83) dX11_readOrder_79 (by decide) (fun c79 => ?_) (fun c79 => ?_)
            · exact absurd c79 (by decide)
            · obtain ⟨e1, e2, e3⟩ := ord_a hx
              exact z_vret X Y dX11_readOrder_82 ⟨rfl, by rw [e1, e2]; exact ⟨(TM.u0 (k := 16) (TM.u0 (k := 20) (TM.u0 (k := 21) hps.1 (by decide)) (by decide)) (by decide)), up3_same, ((up3_ne (by omega)).trans ((up3_ne (by omega)).trans up3_same))⟩, fun q => by rw [e3 q]; exact ⟨((up3_ne (by omega)).trans up3_same), fun z => absurd rfl z, fun z => absurd (show (97 : Int32) = 104 ∨ (97 : Int32) = 109 ∨ (97 : Int32) = 115 ∨ (97 : Int32) = 98 from z) (by decide), fun z => absurd (show (97 : Int32) = 109 from z) (by decide)⟩, (Fq.up (b := 32) (r := 0) (k := 16) (Fq.up (b := 32) (r := 0) (k := 20) (Fq.up (b := 32) (r := 0) (k := 21) (Fq.rf (P := tP) (M := M)) (by unfold tP; omega)) (by unfold tP; omega)) (by unfold tP; omega))⟩
          · refine z_aload_n X (pc := 50) 0 dX11_readOrder_50 rfl rfl ?_
            refine z_aload_n X (pc := 51) 0 dX11_readOrder_51 rfl rfl ?_
            refine z_get X (pc := 52) 14 zk_32_0 (zc_32_0 E _) rfl inlX11 (by decide) gw_149 rfl rfl dX11_readOrder_52 ?_
            refine z_aload_n X (pc := 55) 0 dX11_readOrder_55 rfl rfl ?_
            refine z_get X (pc := 56) 16 zk_32_0 (zc_32_0 E _) rfl inlX11 (by decide) gw_882 rfl rfl dX11_readOrder_56 ?_
            refine z_top (y := (nI p)) ((up3_ne (by omega)).trans hps.2.1) ?_
            refine z_cald X (pc := 59) (by decide) rfl (show p < 60 by omega) dX11_readOrder_59 ?_
            refine z_top (y := (chr t p)) (TM.at (TM.u0 (k := 21) hps.1 (by decide)) (by omega)) ?_
            refine z_top (y := 98) hx ?_
            refine z_put X (pc := 60) 20 zk_32_0 (zc_32_0 E _) rfl inlX11 tyX11 tyX11_ok nmX11 (by decide) gw_891 rfl rfl (ty := .char) (by decide +kernel) rfl rfl (Nat.le_of_ble_eq_true rfl) dX11_readOrder_60 rfl ?_
            refine z_aload_n X (pc := 63) 0 dX11_readOrder_63 rfl rfl ?_
            refine z_dup X (pc := 64) dX11_readOrder_64 rfl ?_
            refine z_get X (pc := 65) 16 zk_32_0 (zc_32_0 E _) rfl inlX11 (by decide) gw_882 rfl rfl dX11_readOrder_65 ?_
            refine z_top (y := (nI p)) ((up3_ne (by omega)).trans ((up3_ne (by omega)).trans hps.2.1)) ?_
            refine z_iconst X (pc := 68) (v := 1) dX11_readOrder_68 (by decide) ?_
            refine z_iadd X (pc := 69) dX11_readOrder_69 ?_
            refine z_top (y := (nI (p + 1))) (nI_1 _) ?_
            refine z_put X (pc := 70) 16 zk_32_0 (zc_32_0 E _) rfl inlX11 tyX11 tyX11_ok nmX11 (by decide) gw_882 rfl rfl (ty := .int) (by decide +kernel) rfl rfl (Nat.le_of_ble_eq_true rfl) dX11_readOrder_70 rfl ?_
            refine z_aload_n X (pc := 73) 0 dX11_readOrder_73 rfl rfl ?_
            refine z_get X (pc := 74) 20 zk_32_0 (zc_32_0 E _) rfl inlX11 (by decide) gw_891 rfl rfl dX11_readOrder_74 ?_
            refine z_top (y := 98) ((up3_ne (by omega)).trans up3_same) ?_
            refine z_bipush X (pc := 77) (v := 97) dX11_readOrder_77 (by decide) ?_
            refine z_icmp_ne X (pc := 79) (tgt := 83) dX11_readOrder_79 (by decide) (fun c79 => ?_) (fun c79 => ?_)
            · refine z_aload_n X (pc := 83) 0 dX11_readOrder_83 rfl rfl ?_
              refine z_aload_n X (pc := 84) 0 dX11_readOrder_84 rfl rfl ?_
              refine z_iconst X (pc := 85) (v := 1) dX11_readOrder_85 (by decide) ?_
              refine z_callV X (pc := 86) (rest := [.ref (za E 32 0)]) kv_X11_readNumber (c_X11_readNumber_1 E (up3 (up3 (up3 M 32 0 21 0) 32 0 20 98) 32 0 16 (nI (p + 1))) t (p + 1) false ⟨(TM.u0 (k := 16) (TM.u0 (k := 20) (TM.u0 (k := 21) hps.1 (by decide)) (by decide)) (by decide)), up3_same, ((up3_ne (by omega)).trans ((up3_ne (by omega)).trans up3_same))⟩ (by omega)) zk_32_0 (zc_32_0 E _) rfl rfl gw_979 (by decide) rfl rfl (Nat.le_of_ble_eq_true rfl) dX11_readOrder_86 (zk_ri (fun v_29 M_27 h_28 => ?_))
              refine z_top (y := ((rnR t (p + 1) false 1).1)) h_28.1 ?_
              have h_28b := rnR_le (t := t) (p := p + 1) (w := false) (n := 1)
              refine z_put X (pc := 89) 17 zk_32_0 (zc_32_0 E _) rfl inlX11 tyX11 tyX11_ok nmX11 (by decide) gw_892 rfl rfl (ty := .int) (by decide +kernel) rfl rfl (Nat.le_of_ble_eq_true rfl) dX11_readOrder_89 rfl ?_
              refine z_aload_n X (pc := 92) 0 dX11_readOrder_92 rfl rfl ?_
              refine z_get X (pc := 93) 20 zk_32_0 (zc_32_0 E _) rfl inlX11 (by decide) gw_891 rfl rfl dX11_readOrder_93 ?_
              refine z_top (y := 98) ((up3_ne (by omega)).trans ((h_28.2.2 32 0 20 (by unfold tN; omega)).trans ((up3_ne (by omega)).trans up3_same))) ?_
              refine z_lookup X (pc := 96) (off := 91) (tgt := 187) dX11_readOrder_96 (by decide) (by decide) (by decide) ?_
              refine z_aload_n X (pc := 187) 0 dX11_readOrder_187 rfl rfl ?_
              refine z_aload_n X (pc := 188) 0 dX11_readOrder_188 rfl rfl ?_
              refine z_bipush X (pc := 189) (v := 61) dX11_readOrder_189 (by decide) ?_
              refine z_iconst X (pc := 191) (v := 2) dX11_readOrder_191 (by decide) ?_
              refine z_callV X (pc := 192) (rest := [.ref (za E 32 0)]) kv_X11_readBehind (c_X11_readBehind_2 E (up3 M_27 32 0 17 ((rnR t (p + 1) false 1).1)) t ((rnR t (p + 1) false 1).2.1) ((rnR t (p + 1) false 1).2.2) ⟨(TM.u0 (k := 17) h_28.2.1.1 (by decide)), ((up3_ne (by omega)).trans h_28.2.1.2.1), ((up3_ne (by omega)).trans h_28.2.1.2.2)⟩ (by omega)) zk_32_0 (zc_32_0 E _) rfl rfl gw_987 (by decide) rfl rfl (Nat.le_of_ble_eq_true rfl) dX11_readOrder_192 (zk_ri (fun v_32 M_30 h_31 => ?_))
              refine z_top (y := ((rbR t ((rnR t (p + 1) false 1).2.1) ((rnR t (p + 1) false 1).2.2) 61 2).1)) h_31.1 ?_
              refine z_put X (pc := 195) 18 zk_32_0 (zc_32_0 E _) rfl inlX11 tyX11 tyX11_ok nmX11 (by decide) gw_893 rfl rfl (ty := .int) (by decide +kernel) rfl rfl (Nat.le_of_ble_eq_true rfl) dX11_readOrder_195 rfl ?_
              refine z_goto X (pc := 198) (tgt := 206) dX11_readOrder_198 (by decide) ?_
              obtain ⟨e1, e2, e3⟩ := ord_b hx
              exact z_vret X Y dX11_readOrder_206 ⟨rfl, by rw [e1, e2]; exact ⟨(TM.u0 (k := 18) h_31.2.1.1 (by decide)), ((up3_ne (by omega)).trans h_31.2.1.2.1), ((up3_ne (by omega)).trans h_31.2.1.2.2)⟩, fun q => by rw [e3 q]; exact ⟨((up3_ne (by omega)).trans ((h_31.2.2 32 0 20 (by unfold tN; omega)).trans ((up3_ne (by omega)).trans ((h_28.2.2 32 0 20 (by unfold tN; omega)).trans ((up3_ne (by omega)).trans up3_same))))), fun _ => ((up3_ne (by omega)).trans ((h_31.2.2 32 0 17 (by unfold tN; omega)).trans up3_same)), fun _ => up3_same, fun z => absurd (show (98 : Int32) = 109 from z) (by decide)⟩, (Fq.up (b := 32) (r := 0) (k := 18) (Fq.tr (Fq.up (b := 32) (r := 0) (k := 17) (Fq.tr (Fq.up (b := 32) (r := 0) (k := 16) (Fq.up (b := 32) (r := 0) (k := 20) (Fq.up (b := 32) (r := 0) (k := 21) (Fq.rf (P := tP) (M := M)) (by unfold tP; omega)) (by unfold tP; omega)) (by unfold tP; omega)) (Fq.mono h_28.2.2 tN_P)) (by unfold tP; omega)) (Fq.mono h_31.2.2 tN_P)) (by unfold tP; omega))⟩
            · exact absurd c79 (by decide)
          · refine z_aload_n X (pc := 50) 0 dX11_readOrder_50 rfl rfl ?_
            refine z_aload_n X (pc := 51) 0 dX11_readOrder_51 rfl rfl ?_
            refine z_get X (pc := 52) 14 zk_32_0 (zc_32_0 E _) rfl inlX11 (by decide) gw_149 rfl rfl dX11_readOrder_52 ?_
            refine z_aload_n X (pc := 55) 0 dX11_readOrder_55 rfl rfl ?_
            refine z_get X (pc := 56) 16 zk_32_0 (zc_32_0 E _) rfl inlX11 (by decide) gw_882 rfl rfl dX11_readOrder_56 ?_
            refine z_top (y := (nI p)) ((up3_ne (by omega)).trans hps.2.1) ?_
            refine z_cald X (pc := 59) (by decide) rfl (show p < 60 by omega) dX11_readOrder_59 ?_
            refine z_top (y := (chr t p)) (TM.at (TM.u0 (k := 21) hps.1 (by decide)) (by omega)) ?_
            refine z_top (y := 99) hx ?_
            refine z_put X (pc := 60) 20 zk_32_0 (zc_32_0 E _) rfl inlX11 tyX11 tyX11_ok nmX11 (by decide) gw_891 rfl rfl (ty := .char) (by decide +kernel) rfl rfl (Nat.le_of_ble_eq_true rfl) dX11_readOrder_60 rfl ?_
            refine z_aload_n X (pc := 63) 0 dX11_readOrder_63 rfl rfl ?_
            refine z_dup X (pc := 64) dX11_readOrder_64 rfl ?_
            refine z_get X (pc := 65) 16 zk_32_0 (zc_32_0 E _) rfl inlX11 (by decide) gw_882 rfl rfl dX11_readOrder_65 ?_
            refine z_top (y := (nI p)) ((up3_ne (by omega)).trans ((up3_ne (by omega)).trans hps.2.1)) ?_
            refine z_iconst X (pc := 68) (v := 1) dX11_readOrder_68 (by decide) ?_
            refine z_iadd X (pc := 69) dX11_readOrder_69 ?_
            refine z_top (y := (nI (p + 1))) (nI_1 _) ?_
            refine z_put X (pc := 70) 16 zk_32_0 (zc_32_0 E _) rfl inlX11 tyX11 tyX11_ok nmX11 (by decide) gw_882 rfl rfl (ty := .int) (by decide +kernel) rfl rfl (Nat.le_of_ble_eq_true rfl) dX11_readOrder_70 rfl ?_
            refine z_aload_n X (pc := 73) 0 dX11_readOrder_73 rfl rfl ?_
            refine z_get X (pc := 74) 20 zk_32_0 (zc_32_0 E _) rfl inlX11 (by decide) gw_891 rfl rfl dX11_readOrder_74 ?_
            refine z_top (y := 99) ((up3_ne (by omega)).trans up3_same) ?_
            refine z_bipush X (pc := 77) (v := 97) dX11_readOrder_77 (by decide) ?_
            refine z_icmp_ne X (pc := 79) (tgt := 83) dX11_readOrder_79 (by decide) (fun c79 => ?_) (fun c79 => ?_)
            · refine z_aload_n X (pc := 83) 0 dX11_readOrder_83 rfl rfl ?_
              refine z_aload_n X (pc := 84) 0 dX11_readOrder_84 rfl rfl ?_
              refine z_iconst X (pc := 85) (v := 1) dX11_readOrder_85 (by decide) ?_
              refine z_callV X (pc := 86) (rest := [.ref (za E 32 0)]) kv_X11_readNumber (c_X11_readNumber_1 E (up3 (up3 (up3 M 32 0 21 0) 32 0 20 99) 32 0 16 (nI (p + 1))) t (p + 1) false ⟨(TM.u0 (k := 16) (TM.u0 (k := 20) (TM.u0 (k := 21) hps.1 (by decide)) (by decide)) (by decide)), up3_same, ((up3_ne (by omega)).trans ((up3_ne (by omega)).trans up3_same))⟩ (by omega)) zk_32_0 (zc_32_0 E _) rfl rfl gw_979 (by decide) rfl rfl (Nat.le_of_ble_eq_true rfl) dX11_readOrder_86 (zk_ri (fun v_35 M_33 h_34 => ?_))
              refine z_top (y := ((rnR t (p + 1) false 1).1)) h_34.1 ?_
              have h_34b := rnR_le (t := t) (p := p + 1) (w := false) (n := 1)
              refine z_put X (pc := 89) 17 zk_32_0 (zc_32_0 E _) rfl inlX11 tyX11 tyX11_ok nmX11 (by decide) gw_892 rfl rfl (ty := .int) (by decide +kernel) rfl rfl (Nat.le_of_ble_eq_true rfl) dX11_readOrder_89 rfl ?_
              refine z_aload_n X (pc := 92) 0 dX11_readOrder_92 rfl rfl ?_
              refine z_get X (pc := 93) 20 zk_32_0 (zc_32_0 E _) rfl inlX11 (by decide) gw_891 rfl rfl dX11_readOrder_93 ?_
              refine z_top (y := 99) ((up3_ne (by omega)).trans ((h_34.2.2 32 0 20 (by unfold tN; omega)).trans ((up3_ne (by omega)).trans up3_same))) ?_
              refine z_lookup X (pc := 96) (off := 105) (tgt := 201) dX11_readOrder_96 (by decide) (by decide) (by decide) ?_
              refine z_aload_n X (pc := 201) 0 dX11_readOrder_201 rfl rfl ?_
              refine z_iconst X (pc := 202) (v := 0) dX11_readOrder_202 (by decide) ?_
              refine z_put X (pc := 203) 18 zk_32_0 (zc_32_0 E _) rfl inlX11 tyX11 tyX11_ok nmX11 (by decide) gw_893 rfl rfl (ty := .int) (by decide +kernel) rfl rfl (Nat.le_of_ble_eq_true rfl) dX11_readOrder_203 rfl ?_
              obtain ⟨e1, e2, e3⟩ := ord_o (l := 99) hx (by decide)
              exact z_vret X Y dX11_readOrder_206 ⟨rfl, by rw [e1, e2]; exact ⟨(TM.u0 (k := 18) (TM.u0 (k := 17) h_34.2.1.1 (by decide)) (by decide)), ((up3_ne (by omega)).trans ((up3_ne (by omega)).trans h_34.2.1.2.1)), ((up3_ne (by omega)).trans ((up3_ne (by omega)).trans h_34.2.1.2.2))⟩, fun q => by rw [e3 q]; exact ⟨((up3_ne (by omega)).trans ((up3_ne (by omega)).trans ((h_34.2.2 32 0 20 (by unfold tN; omega)).trans ((up3_ne (by omega)).trans up3_same)))), fun _ => ((up3_ne (by omega)).trans up3_same), fun z => absurd (show (99 : Int32) = 104 ∨ (99 : Int32) = 109 ∨ (99 : Int32) = 115 ∨ (99 : Int32) = 98 from z) (by decide), fun z => absurd (show (99 : Int32) = 109 from z) (by decide)⟩, (Fq.up (b := 32) (r := 0) (k := 18) (Fq.up (b := 32) (r := 0) (k := 17) (Fq.tr (Fq.up (b := 32) (r := 0) (k := 16) (Fq.up (b := 32) (r := 0) (k := 20) (Fq.up (b := 32) (r := 0) (k := 21) (Fq.rf (P := tP) (M := M)) (by unfold tP; omega)) (by unfold tP; omega)) (by unfold tP; omega)) (Fq.mono h_34.2.2 tN_P)) (by unfold tP; omega)) (by unfold tP; omega))⟩
            · exact absurd c79 (by decide)
          · refine z_aload_n X (pc := 50) 0 dX11_readOrder_50 rfl rfl ?_
            refine z_aload_n X (pc := 51) 0 dX11_readOrder_51 rfl rfl ?_
            refine z_get X (pc := 52) 14 zk_32_0 (zc_32_0 E _) rfl inlX11 (by decide) gw_149 rfl rfl dX11_readOrder_52 ?_
            refine z_aload_n X (pc := 55) 0 dX11_readOrder_55 rfl rfl ?_
            refine z_get X (pc := 56) 16 zk_32_0 (zc_32_0 E _) rfl inlX11 (by decide) gw_882 rfl rfl dX11_readOrder_56 ?_
            refine z_top (y := (nI p)) ((up3_ne (by omega)).trans hps.2.1) ?_
            refine z_cald X (pc := 59) (by decide) rfl (show p < 60 by omega) dX11_readOrder_59 ?_
            refine z_top (y := (chr t p)) (TM.at (TM.u0 (k := 21) hps.1 (by decide)) (by omega)) ?_
            refine z_top (y := 112) hx ?_
            refine z_put X (pc := 60) 20 zk_32_0 (zc_32_0 E _) rfl inlX11 tyX11 tyX11_ok nmX11 (by decide) gw_891 rfl rfl (ty := .char) (by decide +kernel) rfl rfl (Nat.le_of_ble_eq_true rfl) dX11_readOrder_60 rfl ?_
            refine z_aload_n X (pc := 63) 0 dX11_readOrder_63 rfl rfl ?_
            refine z_dup X (pc := 64) dX11_readOrder_64 rfl ?_
            refine z_get X (pc := 65) 16 zk_32_0 (zc_32_0 E _) rfl inlX11 (by decide) gw_882 rfl rfl dX11_readOrder_65 ?_
            refine z_top (y := (nI p)) ((up3_ne (by omega)).trans ((up3_ne (by omega)).trans hps.2.1)) ?_
            refine z_iconst X (pc := 68) (v := 1) dX11_readOrder_68 (by decide) ?_
            refine z_iadd X (pc := 69) dX11_readOrder_69 ?_
            refine z_top (y := (nI (p + 1))) (nI_1 _) ?_
            refine z_put X (pc := 70) 16 zk_32_0 (zc_32_0 E _) rfl inlX11 tyX11 tyX11_ok nmX11 (by decide) gw_882 rfl rfl (ty := .int) (by decide +kernel) rfl rfl (Nat.le_of_ble_eq_true rfl) dX11_readOrder_70 rfl ?_
            refine z_aload_n X (pc := 73) 0 dX11_readOrder_73 rfl rfl ?_
            refine z_get X (pc := 74) 20 zk_32_0 (zc_32_0 E _) rfl inlX11 (by decide) gw_891 rfl rfl dX11_readOrder_74 ?_
            refine z_top (y := 112) ((up3_ne (by omega)).trans up3_same) ?_
            refine z_bipush X (pc := 77) (v := 97) dX11_readOrder_77 (by decide) ?_
            refine z_icmp_ne X (pc := 79) (tgt := 83) dX11_readOrder_79 (by decide) (fun c79 => ?_) (fun c79 => ?_)
            · refine z_aload_n X (pc := 83) 0 dX11_readOrder_83 rfl rfl ?_
              refine z_aload_n X (pc := 84) 0 dX11_readOrder_84 rfl rfl ?_
              refine z_iconst X (pc := 85) (v := 1) dX11_readOrder_85 (by decide) ?_
              refine z_callV X (pc := 86) (rest := [.ref (za E 32 0)]) kv_X11_readNumber (c_X11_readNumber_1 E (up3 (up3 (up3 M 32 0 21 0) 32 0 20 112) 32 0 16 (nI (p + 1))) t (p + 1) false ⟨(TM.u0 (k := 16) (TM.u0 (k := 20) (TM.u0 (k := 21) hps.1 (by decide)) (by decide)) (by decide)), up3_same, ((up3_ne (by omega)).trans ((up3_ne (by omega)).trans up3_same))⟩ (by omega)) zk_32_0 (zc_32_0 E _) rfl rfl gw_979 (by decide) rfl rfl (Nat.le_of_ble_eq_true rfl) dX11_readOrder_86 (zk_ri (fun v_38 M_36 h_37 => ?_))
              refine z_top (y := ((rnR t (p + 1) false 1).1)) h_37.1 ?_
              have h_37b := rnR_le (t := t) (p := p + 1) (w := false) (n := 1)
              refine z_put X (pc := 89) 17 zk_32_0 (zc_32_0 E _) rfl inlX11 tyX11 tyX11_ok nmX11 (by decide) gw_892 rfl rfl (ty := .int) (by decide +kernel) rfl rfl (Nat.le_of_ble_eq_true rfl) dX11_readOrder_89 rfl ?_
              refine z_aload_n X (pc := 92) 0 dX11_readOrder_92 rfl rfl ?_
              refine z_get X (pc := 93) 20 zk_32_0 (zc_32_0 E _) rfl inlX11 (by decide) gw_891 rfl rfl dX11_readOrder_93 ?_
              refine z_top (y := 112) ((up3_ne (by omega)).trans ((h_37.2.2 32 0 20 (by unfold tN; omega)).trans ((up3_ne (by omega)).trans up3_same))) ?_
              refine z_lookup X (pc := 96) (off := 105) (tgt := 201) dX11_readOrder_96 (by decide) (by decide) (by decide) ?_
              refine z_aload_n X (pc := 201) 0 dX11_readOrder_201 rfl rfl ?_
              refine z_iconst X (pc := 202) (v := 0) dX11_readOrder_202 (by decide) ?_
              refine z_put X (pc := 203) 18 zk_32_0 (zc_32_0 E _) rfl inlX11 tyX11 tyX11_ok nmX11 (by decide) gw_893 rfl rfl (ty := .int) (by decide +kernel) rfl rfl (Nat.le_of_ble_eq_true rfl) dX11_readOrder_203 rfl ?_
              obtain ⟨e1, e2, e3⟩ := ord_o (l := 112) hx (by decide)
              exact z_vret X Y dX11_readOrder_206 ⟨rfl, by rw [e1, e2]; exact ⟨(TM.u0 (k := 18) (TM.u0 (k := 17) h_37.2.1.1 (by decide)) (by decide)), ((up3_ne (by omega)).trans ((up3_ne (by omega)).trans h_37.2.1.2.1)), ((up3_ne (by omega)).trans ((up3_ne (by omega)).trans h_37.2.1.2.2))⟩, fun q => by rw [e3 q]; exact ⟨((up3_ne (by omega)).trans ((up3_ne (by omega)).trans ((h_37.2.2 32 0 20 (by unfold tN; omega)).trans ((up3_ne (by omega)).trans up3_same)))), fun _ => ((up3_ne (by omega)).trans up3_same), fun z => absurd (show (112 : Int32) = 104 ∨ (112 : Int32) = 109 ∨ (112 : Int32) = 115 ∨ (112 : Int32) = 98 from z) (by decide), fun z => absurd (show (112 : Int32) = 109 from z) (by decide)⟩, (Fq.up (b := 32) (r := 0) (k := 18) (Fq.up (b := 32) (r := 0) (k := 17) (Fq.tr (Fq.up (b := 32) (r := 0) (k := 16) (Fq.up (b := 32) (r := 0) (k := 20) (Fq.up (b := 32) (r := 0) (k := 21) (Fq.rf (P := tP) (M := M)) (by unfold tP; omega)) (by unfold tP; omega)) (by unfold tP; omega)) (Fq.mono h_37.2.2 tN_P)) (by unfold tP; omega)) (by unfold tP; omega))⟩
            · exact absurd c79 (by decide)
          · refine z_aload_n X (pc := 50) 0 dX11_readOrder_50 rfl rfl ?_
            refine z_aload_n X (pc := 51) 0 dX11_readOrder_51 rfl rfl ?_
            refine z_get X (pc := 52) 14 zk_32_0 (zc_32_0 E _) rfl inlX11 (by decide) gw_149 rfl rfl dX11_readOrder_52 ?_
            refine z_aload_n X (pc := 55) 0 dX11_readOrder_55 rfl rfl ?_
            refine z_get X (pc := 56) 16 zk_32_0 (zc_32_0 E _) rfl inlX11 (by decide) gw_882 rfl rfl dX11_readOrder_56 ?_
            refine z_top (y := (nI p)) ((up3_ne (by omega)).trans hps.2.1) ?_
            refine z_cald X (pc := 59) (by decide) rfl (show p < 60 by omega) dX11_readOrder_59 ?_
            refine z_top (y := (chr t p)) (TM.at (TM.u0 (k := 21) hps.1 (by decide)) (by omega)) ?_
            refine z_top (y := 117) hx ?_
            refine z_put X (pc := 60) 20 zk_32_0 (zc_32_0 E _) rfl inlX11 tyX11 tyX11_ok nmX11 (by decide) gw_891 rfl rfl (ty := .char) (by decide +kernel) rfl rfl (Nat.le_of_ble_eq_true rfl) dX11_readOrder_60 rfl ?_
            refine z_aload_n X (pc := 63) 0 dX11_readOrder_63 rfl rfl ?_
            refine z_dup X (pc := 64) dX11_readOrder_64 rfl ?_
            refine z_get X (pc := 65) 16 zk_32_0 (zc_32_0 E _) rfl inlX11 (by decide) gw_882 rfl rfl dX11_readOrder_65 ?_
            refine z_top (y := (nI p)) ((up3_ne (by omega)).trans ((up3_ne (by omega)).trans hps.2.1)) ?_
            refine z_iconst X (pc := 68) (v := 1) dX11_readOrder_68 (by decide) ?_
            refine z_iadd X (pc := 69) dX11_readOrder_69 ?_
            refine z_top (y := (nI (p + 1))) (nI_1 _) ?_
            refine z_put X (pc := 70) 16 zk_32_0 (zc_32_0 E _) rfl inlX11 tyX11 tyX11_ok nmX11 (by decide) gw_882 rfl rfl (ty := .int) (by decide +kernel) rfl rfl (Nat.le_of_ble_eq_true rfl) dX11_readOrder_70 rfl ?_
            refine z_aload_n X (pc := 73) 0 dX11_readOrder_73 rfl rfl ?_
            refine z_get X (pc := 74) 20 zk_32_0 (zc_32_0 E _) rfl inlX11 (by decide) gw_891 rfl rfl dX11_readOrder_74 ?_
            refine z_top (y := 117) ((up3_ne (by omega)).trans up3_same) ?_
            refine z_bipush X (pc := 77) (v := 97) dX11_readOrder_77 (by decide) ?_
            refine z_icmp_ne X (pc := 79) (tgt := 83) dX11_readOrder_79 (by decide) (fun c79 => ?_) (fun c79 => ?_)
            · refine z_aload_n X (pc := 83) 0 dX11_readOrder_83 rfl rfl ?_
              refine z_aload_n X (pc := 84) 0 dX11_readOrder_84 rfl rfl ?_
              refine z_iconst X (pc := 85) (v := 1) dX11_readOrder_85 (by decide) ?_
              refine z_callV X (pc := 86) (rest := [.ref (za E 32 0)]) kv_X11_readNumber (c_X11_readNumber_1 E (up3 (up3 (up3 M 32 0 21 0) 32 0 20 117) 32 0 16 (nI (p + 1))) t (p + 1) false ⟨(TM.u0 (k := 16) (TM.u0 (k := 20) (TM.u0 (k := 21) hps.1 (by decide)) (by decide)) (by decide)), up3_same, ((up3_ne (by omega)).trans ((up3_ne (by omega)).trans up3_same))⟩ (by omega)) zk_32_0 (zc_32_0 E _) rfl rfl gw_979 (by decide) rfl rfl (Nat.le_of_ble_eq_true rfl) dX11_readOrder_86 (zk_ri (fun v_41 M_39 h_40 => ?_))
              refine z_top (y := ((rnR t (p + 1) false 1).1)) h_40.1 ?_
              have h_40b := rnR_le (t := t) (p := p + 1) (w := false) (n := 1)
              refine z_put X (pc := 89) 17 zk_32_0 (zc_32_0 E _) rfl inlX11 tyX11 tyX11_ok nmX11 (by decide) gw_892 rfl rfl (ty := .int) (by decide +kernel) rfl rfl (Nat.le_of_ble_eq_true rfl) dX11_readOrder_89 rfl ?_
              refine z_aload_n X (pc := 92) 0 dX11_readOrder_92 rfl rfl ?_
              refine z_get X (pc := 93) 20 zk_32_0 (zc_32_0 E _) rfl inlX11 (by decide) gw_891 rfl rfl dX11_readOrder_93 ?_
              refine z_top (y := 117) ((up3_ne (by omega)).trans ((h_40.2.2 32 0 20 (by unfold tN; omega)).trans ((up3_ne (by omega)).trans up3_same))) ?_
              refine z_lookup X (pc := 96) (off := 105) (tgt := 201) dX11_readOrder_96 (by decide) (by decide) (by decide) ?_
              refine z_aload_n X (pc := 201) 0 dX11_readOrder_201 rfl rfl ?_
              refine z_iconst X (pc := 202) (v := 0) dX11_readOrder_202 (by decide) ?_
              refine z_put X (pc := 203) 18 zk_32_0 (zc_32_0 E _) rfl inlX11 tyX11 tyX11_ok nmX11 (by decide) gw_893 rfl rfl (ty := .int) (by decide +kernel) rfl rfl (Nat.le_of_ble_eq_true rfl) dX11_readOrder_203 rfl ?_
              obtain ⟨e1, e2, e3⟩ := ord_o (l := 117) hx (by decide)
              exact z_vret X Y dX11_readOrder_206 ⟨rfl, by rw [e1, e2]; exact ⟨(TM.u0 (k := 18) (TM.u0 (k := 17) h_40.2.1.1 (by decide)) (by decide)), ((up3_ne (by omega)).trans ((up3_ne (by omega)).trans h_40.2.1.2.1)), ((up3_ne (by omega)).trans ((up3_ne (by omega)).trans h_40.2.1.2.2))⟩, fun q => by rw [e3 q]; exact ⟨((up3_ne (by omega)).trans ((up3_ne (by omega)).trans ((h_40.2.2 32 0 20 (by unfold tN; omega)).trans ((up3_ne (by omega)).trans up3_same)))), fun _ => ((up3_ne (by omega)).trans up3_same), fun z => absurd (show (117 : Int32) = 104 ∨ (117 : Int32) = 109 ∨ (117 : Int32) = 115 ∨ (117 : Int32) = 98 from z) (by decide), fun z => absurd (show (117 : Int32) = 109 from z) (by decide)⟩, (Fq.up (b := 32) (r := 0) (k := 18) (Fq.up (b := 32) (r := 0) (k := 17) (Fq.tr (Fq.up (b := 32) (r := 0) (k := 16) (Fq.up (b := 32) (r := 0) (k := 20) (Fq.up (b := 32) (r := 0) (k := 21) (Fq.rf (P := tP) (M := M)) (by unfold tP; omega)) (by unfold tP; omega)) (by unfold tP; omega)) (Fq.mono h_40.2.2 tN_P)) (by unfold tP; omega)) (by unfold tP; omega))⟩
            · exact absurd c79 (by decide)
          · refine z_aload_n X (pc := 50) 0 dX11_readOrder_50 rfl rfl ?_
            refine z_aload_n X (pc := 51) 0 dX11_readOrder_51 rfl rfl ?_
            refine z_get X (pc := 52) 14 zk_32_0 (zc_32_0 E _) rfl inlX11 (by decide) gw_149 rfl rfl dX11_readOrder_52 ?_
            refine z_aload_n X (pc := 55) 0 dX11_readOrder_55 rfl rfl ?_
            refine z_get X (pc := 56) 16 zk_32_0 (zc_32_0 E _) rfl inlX11 (by decide) gw_882 rfl rfl dX11_readOrder_56 ?_
            refine z_top (y := (nI p)) ((up3_ne (by omega)).trans hps.2.1) ?_
            refine z_cald X (pc := 59) (by decide) rfl (show p < 60 by omega) dX11_readOrder_59 ?_
            refine z_top (y := (chr t p)) (TM.at (TM.u0 (k := 21) hps.1 (by decide)) (by omega)) ?_
            refine z_top (y := 116) hx ?_
            refine z_put X (pc := 60) 20 zk_32_0 (zc_32_0 E _) rfl inlX11 tyX11 tyX11_ok nmX11 (by decide) gw_891 rfl rfl (ty := .char) (by decide +kernel) rfl rfl (Nat.le_of_ble_eq_true rfl) dX11_readOrder_60 rfl ?_
            refine z_aload_n X (pc := 63) 0 dX11_readOrder_63 rfl rfl ?_
            refine z_dup X (pc := 64) dX11_readOrder_64 rfl ?_
            refine z_get X (pc := 65) 16 zk_32_0 (zc_32_0 E _) rfl inlX11 (by decide) gw_882 rfl rfl dX11_readOrder_65 ?_
            refine z_top (y := (nI p)) ((up3_ne (by omega)).trans ((up3_ne (by omega)).trans hps.2.1)) ?_
            refine z_iconst X (pc := 68) (v := 1) dX11_readOrder_68 (by decide) ?_
            refine z_iadd X (pc := 69) dX11_readOrder_69 ?_
            refine z_top (y := (nI (p + 1))) (nI_1 _) ?_
            refine z_put X (pc := 70) 16 zk_32_0 (zc_32_0 E _) rfl inlX11 tyX11 tyX11_ok nmX11 (by decide) gw_882 rfl rfl (ty := .int) (by decide +kernel) rfl rfl (Nat.le_of_ble_eq_true rfl) dX11_readOrder_70 rfl ?_
            refine z_aload_n X (pc := 73) 0 dX11_readOrder_73 rfl rfl ?_
            refine z_get X (pc := 74) 20 zk_32_0 (zc_32_0 E _) rfl inlX11 (by decide) gw_891 rfl rfl dX11_readOrder_74 ?_
            refine z_top (y := 116) ((up3_ne (by omega)).trans up3_same) ?_
            refine z_bipush X (pc := 77) (v := 97) dX11_readOrder_77 (by decide) ?_
            refine z_icmp_ne X (pc := 79) (tgt := 83) dX11_readOrder_79 (by decide) (fun c79 => ?_) (fun c79 => ?_)
            · refine z_aload_n X (pc := 83) 0 dX11_readOrder_83 rfl rfl ?_
              refine z_aload_n X (pc := 84) 0 dX11_readOrder_84 rfl rfl ?_
              refine z_iconst X (pc := 85) (v := 1) dX11_readOrder_85 (by decide) ?_
              refine z_callV X (pc := 86) (rest := [.ref (za E 32 0)]) kv_X11_readNumber (c_X11_readNumber_1 E (up3 (up3 (up3 M 32 0 21 0) 32 0 20 116) 32 0 16 (nI (p + 1))) t (p + 1) false ⟨(TM.u0 (k := 16) (TM.u0 (k := 20) (TM.u0 (k := 21) hps.1 (by decide)) (by decide)) (by decide)), up3_same, ((up3_ne (by omega)).trans ((up3_ne (by omega)).trans up3_same))⟩ (by omega)) zk_32_0 (zc_32_0 E _) rfl rfl gw_979 (by decide) rfl rfl (Nat.le_of_ble_eq_true rfl) dX11_readOrder_86 (zk_ri (fun v_44 M_42 h_43 => ?_))
              refine z_top (y := ((rnR t (p + 1) false 1).1)) h_43.1 ?_
              have h_43b := rnR_le (t := t) (p := p + 1) (w := false) (n := 1)
              refine z_put X (pc := 89) 17 zk_32_0 (zc_32_0 E _) rfl inlX11 tyX11 tyX11_ok nmX11 (by decide) gw_892 rfl rfl (ty := .int) (by decide +kernel) rfl rfl (Nat.le_of_ble_eq_true rfl) dX11_readOrder_89 rfl ?_
              refine z_aload_n X (pc := 92) 0 dX11_readOrder_92 rfl rfl ?_
              refine z_get X (pc := 93) 20 zk_32_0 (zc_32_0 E _) rfl inlX11 (by decide) gw_891 rfl rfl dX11_readOrder_93 ?_
              refine z_top (y := 116) ((up3_ne (by omega)).trans ((h_43.2.2 32 0 20 (by unfold tN; omega)).trans ((up3_ne (by omega)).trans up3_same))) ?_
              refine z_lookup X (pc := 96) (off := 105) (tgt := 201) dX11_readOrder_96 (by decide) (by decide) (by decide) ?_
              refine z_aload_n X (pc := 201) 0 dX11_readOrder_201 rfl rfl ?_
              refine z_iconst X (pc := 202) (v := 0) dX11_readOrder_202 (by decide) ?_
              refine z_put X (pc := 203) 18 zk_32_0 (zc_32_0 E _) rfl inlX11 tyX11 tyX11_ok nmX11 (by decide) gw_893 rfl rfl (ty := .int) (by decide +kernel) rfl rfl (Nat.le_of_ble_eq_true rfl) dX11_readOrder_203 rfl ?_
              obtain ⟨e1, e2, e3⟩ := ord_o (l := 116) hx (by decide)
              exact z_vret X Y dX11_readOrder_206 ⟨rfl, by rw [e1, e2]; exact ⟨(TM.u0 (k := 18) (TM.u0 (k := 17) h_43.2.1.1 (by decide)) (by decide)), ((up3_ne (by omega)).trans ((up3_ne (by omega)).trans h_43.2.1.2.1)), ((up3_ne (by omega)).trans ((up3_ne (by omega)).trans h_43.2.1.2.2))⟩, fun q => by rw [e3 q]; exact ⟨((up3_ne (by omega)).trans ((up3_ne (by omega)).trans ((h_43.2.2 32 0 20 (by unfold tN; omega)).trans ((up3_ne (by omega)).trans up3_same)))), fun _ => ((up3_ne (by omega)).trans up3_same), fun z => absurd (show (116 : Int32) = 104 ∨ (116 : Int32) = 109 ∨ (116 : Int32) = 115 ∨ (116 : Int32) = 98 from z) (by decide), fun z => absurd (show (116 : Int32) = 109 from z) (by decide)⟩, (Fq.up (b := 32) (r := 0) (k := 18) (Fq.up (b := 32) (r := 0) (k := 17) (Fq.tr (Fq.up (b := 32) (r := 0) (k := 16) (Fq.up (b := 32) (r := 0) (k := 20) (Fq.up (b := 32) (r := 0) (k := 21) (Fq.rf (P := tP) (M := M)) (by unfold tP; omega)) (by unfold tP; omega)) (by unfold tP; omega)) (Fq.mono h_43.2.2 tN_P)) (by unfold tP; omega)) (by unfold tP; omega))⟩
            · exact absurd c79 (by decide)
        · exact absurd (by decide) c46
      · exact absurd (nI_pos' (by omega)) c30
