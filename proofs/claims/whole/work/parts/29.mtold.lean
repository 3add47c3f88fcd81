theorem Fq.gL {M M1 : Mem} {g : LG} (h : Fq tL M M1) (hg : gF (M 20 0) = g) : gF (M1 20 0) = g := by rw [h.row (fun k => by unfold tL; omega)]; exact hg
theorem Fq.clr {M : Mem} : Fq tL M (up3 M 32 0 13 0) := Fq.rf.up (by unfold tL; omega)
theorem Inv.lt12 {g : LG} {nc nm n m k : Nat} (hI : Inv g nc nm n) (hm : m < nm) (h : g 12 m = nI k) (hk : k < 2 ^ 31 := by omega) : k < nc := by
  have h10 := hI.c10
  rcases hI.nor12 hm with q | ⟨c, hc, q⟩
  · rw [h] at q; exact absurd q (nI_ne_m1 hk)
  · have := nI_inj hk (by omega) (h.symm.trans q)
    omega
def tU (b r k : Nat) : Prop := b = 20 ∨ (b = 32 ∧ r = 0 ∧ k = 8)
def tS (b r k : Nat) : Prop := b = 21 ∨ (b = 32 ∧ r = 0 ∧ k = 10)
theorem HM.nil {M : Mem} (h : M 32 0 8 = 0) : HM M [] := ⟨h, Nat.zero_le _, fun i hi => absurd hi (Nat.not_lt_zero i)⟩
theorem HM.undo0 {M : Mem} {g : LG} {hs : List LG} (hg : gF (M 20 0) = g) (hH : HM M hs) (h : hs.length = 0) : (-1015 : Int32) = (aUndo g hs).1 ∧ gF (M 20 0) = (aUndo g hs).2.1 ∧ HM M (aUndo g hs).2.2 ∧ Fq tU M M := by
  cases hs with
  | nil => exact ⟨rfl, hg, hH, Fq.rf⟩
  | cons a tl => simp at h
theorem HM.undo {M M2 : Mem} {g : LG} {hs : List LG} {v : Int32} (hH : HM M hs) (h : hs.length ≠ 0) (hc : gF (M2 20 0) = gF (up3 M 32 0 8 v (24 + (hs.length - 1)) 0) ∧ ∀ b, b ≠ 20 → M2 b = up3 M 32 0 8 v b) (hv : v = nI (hs.length - 1) := by rfl) : nI (hs.length - 1) = (aUndo g hs).1 ∧ gF (M2 20 0) = (aUndo g hs).2.1 ∧ HM M2 (aUndo g hs).2.2 ∧ Fq tU M M2 := by
  obtain ⟨h1, h2, h3⟩ := hH
  cases hs with
  | nil => exact absurd rfl h
  | cons a tl =>
    have el : (a :: tl).length = tl.length + 1 := rfl
    rw [el] at h2 h3 hc hv
    refine ⟨rfl, ?_, ⟨?_, ?_, fun i hi => ?_⟩, fun b r k q => ?_⟩
    · rw [hc.1, up3_off (by omega)]
      exact h3 0 (by omega)
    · rw [hc.2 32 (by decide), up3_same, hv]; rfl
    · show tl.length ≤ 8; omega
    · have hi : i < tl.length := hi
      show gF (M2 (24 + (tl.length - 1 - i)) 0) = _
      rw [hc.2 _ (by omega), up3_off (by omega)]
      have := h3 (i + 1) (by omega)
      rw [show 24 + (tl.length + 1 - 1 - (i + 1)) = 24 + (tl.length - 1 - i) by omega] at this
      exact this
    · rw [hc.2 b (fun e => q (Or.inl e)), up3_ne (fun e => q (Or.inr e))]
def rm_X11_write : Room := { frames := 0, cells := 0, slots := 0, locals := 0 }
theorem kv_X11_write : KV yX11_write RX11 cX11_write 2 none 1 := ⟨⟨gw_1028, gw_1029, gw_5, gw_1030⟩, by decide +kernel⟩
set_option maxRecDepth 100000 in
set_option maxHeartbeats 4000000 in
theorem c_X11_write (E : ZE) (M : Mem) (l : List Int32) (hL : LM M l) (v : Nat) (hv : v < 200) (hlt : l.length < 120) : Mt E yX11_write cX11_write 2 none rm_X11_write [.ref (za E 32 0), .int (nI v)] M (RV (fun M1 => LM M1 (l ++ [nI v]) ∧ Fq tL M M1)) := by
  refine z_met (own := RX11) (lv := [(0, .ref (za E 32 0)), (1, .int (nI v))]) (by decide) rfl (Nat.le_of_ble_eq_true rfl) rfl (fun gg X Y => ?_)
  refine z_aload_n X (pc := 0) 0 dX11_write_0 rfl rfl ?_
  refine z_get X (pc := 1) 12 zk_32_0 (zc_32_0 E _) rfl inlX11 (by decide) gw_148 rfl rfl dX11_write_1 ?_
  refine z_aload_n X (pc := 4) 0 dX11_write_4 rfl rfl ?_
  refine z_get X (pc := 5) 13 zk_32_0 (zc_32_0 E _) rfl inlX11 (by decide) gw_1022 rfl rfl dX11_write_5 ?_
  refine z_top (y := (nI l.length)) hL.1 ?_
  refine z_iload_n X (pc := 8) 1 dX11_write_8 rfl rfl ?_
  refine z_cast X (pc := 9) (by decide) rfl (show l.length < 120 by omega) (by exact nar_k v (by omega)) dX11_write_9 ?_
  refine z_aload_n X (pc := 10) 0 dX11_write_10 rfl rfl ?_
  refine z_dup X (pc := 11) dX11_write_11 rfl ?_
  refine z_get X (pc := 12) 13 zk_32_0 (zc_32_0 E _) rfl inlX11 (by decide) gw_1022 rfl rfl dX11_write_12 ?_
  refine z_top (y := (nI l.length)) (by rw [up3_ne (by omega)]; exact hL.1) ?_
  refine z_iconst X (pc := 15) (v := 1) dX11_write_15 (by decide) ?_
  refine z_iadd X (pc := 16) dX11_write_16 ?_
  refine z_top (y := (nI (l.length + 1))) (nI_1 _) ?_
  refine z_put X (pc := 17) 13 zk_32_0 (zc_32_0 E _) rfl inlX11 tyX11 tyX11_ok nmX11 (by decide) gw_1022 rfl rfl (ty := .int) (by decide +kernel) rfl rfl (Nat.le_of_ble_eq_true rfl) dX11_write_17 rfl ?_
  exact z_vret X Y dX11_write_20 ⟨rfl, LM.push hL hlt (nI_ne_m1 (by omega)), (Fq.rf.up (by unfold tL; omega)).up (by unfold tL; omega)⟩

def rm_X11_writeNumber : Room := { frames := 1, cells := 0, slots := 0, locals := 21 }
theorem kv_X11_writeNumber : KV yX11_writeNumber RX11 cX11_writeNumber 2 none 1 := ⟨⟨gw_1024, gw_1025, gw_5, gw_1026⟩, by decide +kernel⟩
set_option maxRecDepth 100000 in
set_option maxHeartbeats 4000000 in
theorem c_X11_writeNumber (E : ZE) (M : Mem) (g : LG) (hg : gF (M 20 0) = g) (l : List Int32) (hL : LM M l) (k : Nat) (hk : k ≤ 99) (hlt : l.length + 2 ≤ 120) : Mt E yX11_writeNumber cX11_writeNumber 2 none rm_X11_writeNumber [.ref (za E 32 0), .int (nI k)] M (RV (fun M1 => LM M1 (l ++ digs k) ∧ Fq tL M M1)) := by
  refine z_met (own := RX11) (lv := [(0, .ref (za E 32 0)), (1, .int (nI k))]) (by decide) rfl (Nat.le_of_ble_eq_true rfl) rfl (fun gg X Y => ?_)
  refine z_iload_n X (pc := 0) 1 dX11_writeNumber_0 rfl rfl ?_
  refine z_bipush X (pc := 1) (v := 9) dX11_writeNumber_1 (by decide) ?_
  refine z_nicmp_le X (pc := 3) (a := k) (b := 9) (tgt := 18) dX11_writeNumber_3 (by decide) (by omega) (by omega) (fun c3 => ?_) (fun c3 => ?_)
  · refine z_aload_n X (pc := 18) 0 dX11_writeNumber_18 rfl rfl ?_
    refine z_bipush X (pc := 19) (v := 48) dX11_writeNumber_19 (by decide) ?_
    refine z_iload_n X (pc := 21) 1 dX11_writeNumber_21 rfl rfl ?_
    refine z_bipush X (pc := 22) (v := 10) dX11_writeNumber_22 (by decide) ?_
    refine z_irem X (pc := 24) dX11_writeNumber_24 (by decide) ?_
    refine z_top (y := (nI (k % 10))) (pk_rem (a := k) (d := 10) (by omega) (by omega) (by omega)) ?_
    refine z_iadd X (pc := 25) dX11_writeNumber_25 ?_
    refine z_top (y := (nI (48 + k % 10))) (nI_add 48 (k % 10)) ?_
    refine z_i2c X (pc := 26) (v := (nI (48 + k % 10))) dX11_writeNumber_26 (i2c_k _ (by omega)) ?_
    refine z_callV X (pc := 27) (rest := []) kv_X11_write (c_X11_write E M l hL (48 + k % 10) (by omega) (by omega)) zk_32_0 (zc_32_0 E _) rfl rfl gw_1027 (by decide) rfl rfl (Nat.le_of_ble_eq_true rfl) dX11_writeNumber_27 (zk_rv (fun M_1 hT_2 => ?_))
    have hT_2L : LM M_1 (l ++ [nI (48 + k % 10)]) := hT_2.1
    exact z_vret X Y dX11_writeNumber_30 ⟨rfl, by simpa [digs, c3] using hT_2L, ((Fq.rf (P := tL) (M := M)).tr hT_2.2)⟩
  · refine z_aload_n X (pc := 6) 0 dX11_writeNumber_6 rfl rfl ?_
    refine z_bipush X (pc := 7) (v := 48) dX11_writeNumber_7 (by decide) ?_
    refine z_iload_n X (pc := 9) 1 dX11_writeNumber_9 rfl rfl ?_
    refine z_bipush X (pc := 10) (v := 10) dX11_writeNumber_10 (by decide) ?_
    refine z_idiv X (pc := 12) dX11_writeNumber_12 (by decide) ?_
    refine z_top (y := (nI (k / 10))) (pk_div (a := k) (d := 10) (by omega) (by omega) (by omega)) ?_
    refine z_iadd X (pc := 13) dX11_writeNumber_13 ?_
    refine z_top (y := (nI (48 + k / 10))) (nI_add 48 (k / 10)) ?_
    refine z_i2c X (pc := 14) (v := (nI (48 + k / 10))) dX11_writeNumber_14 (i2c_k _ (by omega)) ?_
    refine z_callV X (pc := 15) (rest := []) kv_X11_write (c_X11_write E M l hL (48 + k / 10) (by omega) (by omega)) zk_32_0 (zc_32_0 E _) rfl rfl gw_1027 (by decide) rfl rfl (Nat.le_of_ble_eq_true rfl) dX11_writeNumber_15 (zk_rv (fun M_3 hT_4 => ?_))
    have hT_4L : LM M_3 (l ++ [nI (48 + k / 10)]) := hT_4.1
    refine z_aload_n X (pc := 18) 0 dX11_writeNumber_18 rfl rfl ?_
    refine z_bipush X (pc := 19) (v := 48) dX11_writeNumber_19 (by decide) ?_
    refine z_iload_n X (pc := 21) 1 dX11_writeNumber_21 rfl rfl ?_
    refine z_bipush X (pc := 22) (v := 10) dX11_writeNumber_22 (by decide) ?_
    refine z_irem X (pc := 24) dX11_writeNumber_24 (by decide) ?_
    refine z_top (y := (nI (k % 10))) (pk_rem (a := k) (d := 10) (by omega) (by omega) (by omega)) ?_
    refine z_iadd X (pc := 25) dX11_writeNumber_25 ?_
    refine z_top (y := (nI (48 + k % 10))) (nI_add 48 (k % 10)) ?_
    refine z_i2c X (pc := 26) (v := (nI (48 + k % 10))) dX11_writeNumber_26 (i2c_k _ (by omega)) ?_
    refine z_callV X (pc := 27) (rest := []) kv_X11_write (c_X11_write E M_3 (l ++ [nI (48 + k / 10)]) hT_4L (48 + k % 10) (by omega) (by simp only [List.length_append, List.length_cons, List.length_nil, List.length_replicate, List.nil_append]; omega)) zk_32_0 (zc_32_0 E _) rfl rfl gw_1027 (by decide) rfl rfl (Nat.le_of_ble_eq_true rfl) dX11_writeNumber_27 (zk_rv (fun M_5 hT_6 => ?_))
    have hT_6L : LM M_5 ((l ++ [nI (48 + k / 10)]) ++ [nI (48 + k % 10)]) := hT_6.1
    exact z_vret X Y dX11_writeNumber_30 ⟨rfl, by simpa [digs, c3] using hT_6L, (((Fq.rf (P := tL) (M := M)).tr hT_4.2).tr hT_6.2)⟩

def rm_X11_writeBehind : Room := { frames := 2, cells := 0, slots := 0, locals := 42 }
theorem kv_X11_writeBehind : KV yX11_writeBehind RX11 cX11_writeBehind 3 none 2 := ⟨⟨gw_1032, gw_1033, gw_5, gw_1034⟩, by decide +kernel⟩
set_option maxRecDepth 100000 in
set_option maxHeartbeats 4000000 in
theorem c_X11_writeBehind (E : ZE) (M : Mem) (g : LG) (hg : gF (M 20 0) = g) (l : List Int32) (hL : LM M l) (v k : Nat) (hv : v < 200) (hk : k ≤ 99) (hlt : l.length + 3 ≤ 120) : Mt E yX11_writeBehind cX11_writeBehind 3 none rm_X11_writeBehind [.ref (za E 32 0), .int (nI v), .int (nI k)] M (RV (fun M1 => LM M1 ((l ++ [nI v]) ++ digs k) ∧ Fq tL M M1)) := by
  refine z_met (own := RX11) (lv := [(0, .ref (za E 32 0)), (1, .int (nI v)), (2, .int (nI k))]) (by decide) rfl (Nat.le_of_ble_eq_true rfl) rfl (fun gg X Y => ?_)
  refine z_aload_n X (pc := 0) 0 dX11_writeBehind_0 rfl rfl ?_
  refine z_iload_n X (pc := 1) 1 dX11_writeBehind_1 rfl rfl ?_
  refine z_callV X (pc := 2) (rest := []) kv_X11_write (c_X11_write E M l hL v (by omega) (by omega)) zk_32_0 (zc_32_0 E _) rfl rfl gw_1027 (by decide) rfl rfl (Nat.le_of_ble_eq_true rfl) dX11_writeBehind_2 (zk_rv (fun M_1 hT_2 => ?_))
  have hT_2L : LM M_1 (l ++ [nI v]) := hT_2.1
  refine z_aload_n X (pc := 5) 0 dX11_writeBehind_5 rfl rfl ?_
  refine z_iload_n X (pc := 6) 2 dX11_writeBehind_6 rfl rfl ?_
  refine z_callV X (pc := 7) (rest := []) kv_X11_writeNumber (c_X11_writeNumber E M_1 _ rfl (l ++ [nI v]) hT_2L k (by omega) (by simp only [List.length_append, List.length_cons, List.length_nil, List.length_replicate, List.nil_append]; omega)) zk_32_0 (zc_32_0 E _) rfl rfl gw_1023 (by decide) rfl rfl (Nat.le_of_ble_eq_true rfl) dX11_writeBehind_7 (zk_rv (fun M_3 hT_4 => ?_))
  exact z_vret X Y dX11_writeBehind_10 ⟨rfl, hT_4.1, (((Fq.rf (P := tL) (M := M)).tr hT_2.2).tr hT_4.2)⟩

def rm_X11_tell : Room := { frames := 3, cells := 0, slots := 0, locals := 64 }
theorem kv_X11_tell : KV yX11_tell RX11 cX11_tell 3 (some .int) 1 := ⟨⟨gw_1019, gw_1020, gw_5, gw_1021⟩, by decide +kernel⟩
set_option maxRecDepth 100000 in
set_option maxHeartbeats 4000000 in
theorem c_X11_tell (E : ZE) (M : Mem) (g : LG) (hg : gF (M 20 0) = g) (nc nm n : Nat) (hI : Inv g nc nm n) (l : List Int32) (hL : LM M l) (x : Int32) : Mt E yX11_tell cX11_tell 3 (some .int) rm_X11_tell [.ref (za E 32 0), .int x] M (RI (fun v M1 => v = (aTell g l x).1 ∧ LM M1 (aTell g l x).2 ∧ Fq tL M M1)) := by
  have hnc := hI.nc; have hnm := hI.nm; have hn := hI.c10; have hn2 := hI.m10
  refine z_met (own := RX11) (lv := [(0, .ref (za E 32 0)), (1, .int x)]) (by decide) rfl (Nat.le_of_ble_eq_true rfl) rfl (fun gg X Y => ?_)
  refine z_aload_n X (pc := 0) 0 dX11_tell_0 rfl rfl ?_
  refine z_iload_n X (pc := 1) 1 dX11_tell_1 rfl rfl ?_
  refine z_callV X (pc := 2) (rest := []) kv_X11_isChair (c_X11_isChair E M g (And.left (SF.rf hg)) nc hnc (by omega) x) zk_32_0 (zc_32_0 E _) rfl rfl gw_319 (by decide) rfl rfl (Nat.le_of_ble_eq_true rfl) dX11_tell_2 (zk_i ?_)
  refine z_bif_ne X (pc := 5) (tgt := 12) dX11_tell_5 (by decide) (fun c5 => ?_) (fun c5 => ?_)
  · obtain ⟨c, hc, rfl⟩ := inR_of c5 (by omega)
    obtain ⟨k0, -, hk0, e0⟩ := (hI.ch c hc).1
    obtain ⟨k1, -, hk1, e1⟩ := (hI.ch c hc).2.1
    obtain ⟨k2, -, hk2, e2⟩ := (hI.ch c hc).2.2.1
    obtain ⟨kt, -, hkt, et⟩ := (hI.ch c hc).2.2.2.2.1
    have hd0 := digs_len c; have hd1 := digs_len k0; have hd2 := digs_len k1; have hd3 := digs_len k2
    refine z_aload_n X (pc := 12) 0 dX11_tell_12 rfl rfl ?_
    refine z_iconst X (pc := 13) (v := 0) dX11_tell_13 (by decide) ?_
    refine z_put X (pc := 14) 13 zk_32_0 (zc_32_0 E _) rfl inlX11 tyX11 tyX11_ok nmX11 (by decide) gw_1022 rfl rfl (ty := .int) (by decide +kernel) rfl rfl (Nat.le_of_ble_eq_true rfl) dX11_tell_14 rfl ?_
    refine z_aload_n X (pc := 17) 0 dX11_tell_17 rfl rfl ?_
    refine z_iload_n X (pc := 18) 1 dX11_tell_18 rfl rfl ?_
    refine z_callV X (pc := 19) (rest := []) kv_X11_writeNumber (c_X11_writeNumber E (up3 M 32 0 13 0) _ rfl ([]) (LM.clr (M := M)) c (by omega) (by simp only [List.length_append, List.length_cons, List.length_nil, List.length_replicate, List.nil_append]; omega)) zk_32_0 (zc_32_0 E _) rfl rfl gw_1023 (by decide) rfl rfl (Nat.le_of_ble_eq_true rfl) dX11_tell_19 (zk_rv (fun M_1 hT_2 => ?_))
    refine z_aload_n X (pc := 22) 0 dX11_tell_22 rfl rfl ?_
    refine z_bipush X (pc := 23) (v := 115) dX11_tell_23 (by decide) ?_
    refine z_aload_n X (pc := 25) 0 dX11_tell_25 rfl rfl ?_
    refine z_iload_n X (pc := 26) 1 dX11_tell_26 rfl rfl ?_
    refine z_iconst X (pc := 27) (v := 0) dX11_tell_27 (by decide) ?_
    refine z_callV X (pc := 28) (rest := [.int 115, .ref (za E 32 0)]) kv_X11_ofChair (c_X11_ofChair E M_1 g (And.left (SF.rf (M := M_1) (Fq.gL ((Fq.clr (M := M)).tr hT_2.2) hg))) c 0 (show c < 10 by omega) (by decide)) zk_32_0 (zc_32_0 E _) rfl rfl gw_323 (by decide) rfl rfl (Nat.le_of_ble_eq_true rfl) dX11_tell_28 (zk_i ?_)
    refine z_top (y := (nI k0)) e0 ?_
    refine z_callV X (pc := 31) (rest := []) kv_X11_writeBehind (c_X11_writeBehind E M_1 _ rfl (([]) ++ digs c) hT_2.1 115 k0 (by omega) (by omega) (by simp only [List.length_append, List.length_cons, List.length_nil, List.length_replicate, List.nil_append]; omega)) zk_32_0 (zc_32_0 E _) rfl rfl gw_1031 (by decide) rfl rfl (Nat.le_of_ble_eq_true rfl) dX11_tell_31 (zk_rv (fun M_3 hT_4 => ?_))
    have hT_4L : LM M_3 (((([]) ++ digs c) ++ [115]) ++ digs k0) := hT_4.1
    refine z_aload_n X (pc := 34) 0 dX11_tell_34 rfl rfl ?_
    refine z_bipush X (pc := 35) (v := 110) dX11_tell_35 (by decide) ?_
    refine z_aload_n X (pc := 37) 0 dX11_tell_37 rfl rfl ?_
    refine z_iload_n X (pc := 38) 1 dX11_tell_38 rfl rfl ?_
    refine z_iconst X (pc := 39) (v := 1) dX11_tell_39 (by decide) ?_
    refine z_callV X (pc := 40) (rest := [.int 110, .ref (za E 32 0)]) kv_X11_ofChair (c_X11_ofChair E M_3 g (And.left (SF.rf (M := M_3) (Fq.gL (((Fq.clr (M := M)).tr hT_2.2).tr hT_4.2) hg))) c 1 (show c < 10 by omega) (by decide)) zk_32_0 (zc_32_0 E _) rfl rfl gw_323 (by decide) rfl rfl (Nat.le_of_ble_eq_true rfl) dX11_tell_40 (zk_i ?_)
    refine z_top (y := (nI k1)) e1 ?_
    refine z_callV X (pc := 43) (rest := []) kv_X11_writeBehind (c_X11_writeBehind E M_3 _ rfl (((([]) ++ digs c) ++ [115]) ++ digs k0) hT_4L 110 k1 (by omega) (by omega) (by simp only [List.length_append, List.length_cons, List.length_nil, List.length_replicate, List.nil_append]; omega)) zk_32_0 (zc_32_0 E _) rfl rfl gw_1031 (by decide) rfl rfl (Nat.le_of_ble_eq_true rfl) dX11_tell_43 (zk_rv (fun M_5 hT_6 => ?_))
    have hT_6L : LM M_5 (((((([]) ++ digs c) ++ [115]) ++ digs k0) ++ [110]) ++ digs k1) := hT_6.1
    refine z_aload_n X (pc := 46) 0 dX11_tell_46 rfl rfl ?_
    refine z_bipush X (pc := 47) (v := 99) dX11_tell_47 (by decide) ?_
    refine z_aload_n X (pc := 49) 0 dX11_tell_49 rfl rfl ?_
    refine z_iload_n X (pc := 50) 1 dX11_tell_50 rfl rfl ?_
    refine z_iconst X (pc := 51) (v := 2) dX11_tell_51 (by decide) ?_
    refine z_callV X (pc := 52) (rest := [.int 99, .ref (za E 32 0)]) kv_X11_ofChair (c_X11_ofChair E M_5 g (And.left (SF.rf (M := M_5) (Fq.gL ((((Fq.clr (M := M)).tr hT_2.2).tr hT_4.2).tr hT_6.2) hg))) c 2 (show c < 10 by omega) (by decide)) zk_32_0 (zc_32_0 E _) rfl rfl gw_323 (by decide) rfl rfl (Nat.le_of_ble_eq_true rfl) dX11_tell_52 (zk_i ?_)
    refine z_top (y := (nI k2)) e2 ?_
    refine z_callV X (pc := 55) (rest := []) kv_X11_writeBehind (c_X11_writeBehind E M_5 _ rfl (((((([]) ++ digs c) ++ [115]) ++ digs k0) ++ [110]) ++ digs k1) hT_6L 99 k2 (by omega) (by omega) (by simp only [List.length_append, List.length_cons, List.length_nil, List.length_replicate, List.nil_append]; omega)) zk_32_0 (zc_32_0 E _) rfl rfl gw_1031 (by decide) rfl rfl (Nat.le_of_ble_eq_true rfl) dX11_tell_55 (zk_rv (fun M_7 hT_8 => ?_))
    have hT_8L : LM M_7 (((((((([]) ++ digs c) ++ [115]) ++ digs k0) ++ [110]) ++ digs k1) ++ [99]) ++ digs k2) := hT_8.1
    refine z_iconst X (pc := 58) (v := 0) dX11_tell_58 (by decide) ?_
    refine z_istore_n X (pc := 59) (lv1 := [(2, .int 0), (0, .ref (za E 32 0)), (1, .int (nI c))]) dX11_tell_59 rfl (by decide) rfl ?_
    refine z_sub (lv' := [(2, .int (nI 0)), (0, .ref (za E 32 0)), (1, .int (nI c))]) [0, 1, 2] rfl ?_
    refine z_loop (kt) 60 (σ := Mem) (fun i s => LM s ((((((((([]) ++ digs c) ++ [115]) ++ digs k0) ++ [110]) ++ digs k1) ++ [99]) ++ digs k2) ++ List.replicate i 94) ∧ Fq tL M s) (fun i s => (s, [(2, .int (nI i)), (0, .ref (za E 32 0)), (1, .int (nI c))])) ?_ 0 M_7 (Nat.zero_le _) ⟨by simpa using hT_8L, (((((Fq.clr (M := M)).tr hT_2.2).tr hT_4.2).tr hT_6.2).tr hT_8.2)⟩
    intro i s hi60 hJ60 ih60
    obtain ⟨M1, rfl⟩ : ∃ z, z = s := ⟨s, rfl⟩
    show Z gg E M1 [(2, .int (nI i)), (0, .ref (za E 32 0)), (1, .int (nI c))] 60 []
    replace hJ60 : LM M1 ((((((((([]) ++ digs c) ++ [115]) ++ digs k0) ++ [110]) ++ digs k1) ++ [99]) ++ digs k2) ++ List.replicate i 94) ∧ Fq tL M M1 := hJ60
    refine z_iload_n X (pc := 60) 0 dX11_tell_60 rfl rfl ?_
    refine z_aload_n X (pc := 61) 1 dX11_tell_61 rfl rfl ?_
    refine z_iload_n X (pc := 62) 2 dX11_tell_62 rfl rfl ?_
    refine z_iconst X (pc := 63) (v := 4) dX11_tell_63 (by decide) ?_
    refine z_callV X (pc := 64) (rest := [.int (nI i)]) kv_X11_ofChair (c_X11_ofChair E M1 g (And.left (SF.rf (M := M1) (Fq.gL hJ60.2 hg))) c 4 (show c < 10 by omega) (by decide)) zk_32_0 (zc_32_0 E _) rfl rfl gw_323 (by decide) rfl rfl (Nat.le_of_ble_eq_true rfl) dX11_tell_64 (zk_i ?_)
    refine z_top (y := (nI kt)) et ?_
    refine z_nicmp_ge X (pc := 67) (a := i) (b := kt) (tgt := 82) dX11_tell_67 (by decide) (by omega) (by omega) (fun c67 => ?_) (fun c67 => ?_)
    · refine z_aload_n X (pc := 82) 1 dX11_tell_82 rfl rfl ?_
      refine z_iload_n X (pc := 83) 2 dX11_tell_83 rfl rfl ?_
      refine z_callV X (pc := 84) (rest := []) kv_X11_hasFallen (c_X11_hasFallen E M1 g (And.left (SF.rf (M := M1) (Fq.gL hJ60.2 hg))) c (show c < 10 by omega)) zk_32_0 (zc_32_0 E _) rfl rfl gw_450 (by decide) rfl rfl (Nat.le_of_ble_eq_true rfl) dX11_tell_84 (zk_i ?_)
      refine z_bif_eq X (pc := 87) (tgt := 96) dX11_tell_87 (by decide) (fun c87 => ?_) (fun c87 => ?_)
      · refine z_aload_n X (pc := 96) 1 dX11_tell_96 rfl rfl ?_
        refine z_iload_n X (pc := 97) 2 dX11_tell_97 rfl rfl ?_
        refine z_bipush X (pc := 98) (v := 6) dX11_tell_98 (by decide) ?_
        refine z_callV X (pc := 100) (rest := []) kv_X11_ofChair (c_X11_ofChair E M1 g (And.left (SF.rf (M := M1) (Fq.gL hJ60.2 hg))) c 6 (show c < 10 by omega) (by decide)) zk_32_0 (zc_32_0 E _) rfl rfl gw_323 (by decide) rfl rfl (Nat.le_of_ble_eq_true rfl) dX11_tell_100 (zk_i ?_)
        rcases (show nOr (g 6 c) 10 from ((hI.nor6 hc).le (by omega))) with hp103 | ⟨k103, hk103, hp103⟩
        · refine z_top (y := ((-1))) hp103 ?_
          refine z_if_lt X (pc := 103) (tgt := 119) dX11_tell_103 (by decide) (fun c103 => ?_) (fun c103 => ?_)
          · refine z_aload_n X (pc := 119) 1 dX11_tell_119 rfl rfl ?_
            refine z_get X (pc := 120) 13 zk_32_0 (zc_32_0 E _) rfl inlX11 (by decide) gw_1022 rfl rfl dX11_tell_120 ?_
            refine z_top (y := (nI (List.length (((((((((([]) ++ digs c) ++ [115]) ++ digs k0) ++ [110]) ++ digs k1) ++ [99]) ++ digs k2) ++ List.replicate i 94))))) hJ60.1.1 ?_
            have htl : tellL g c = ((((((((([]) ++ digs c) ++ [115]) ++ digs k0) ++ [110]) ++ digs k1) ++ [99]) ++ digs k2) ++ List.replicate i 94) := by rw [show i = kt by omega]; simp [tellL, who, taken, e0, e1, e2, et, nI_clamp (show k0 < 2 ^ 31 by omega), nI_clamp (show k1 < 2 ^ 31 by omega), nI_clamp (show k2 < 2 ^ 31 by omega), nI_clamp (show kt < 2 ^ 31 by omega), c87, hp103]
            exact z_iret X Y dX11_tell_123 ⟨_, rfl, by rw [aTell_in hI hc, htl], by rw [aTell_in hI hc, htl]; exact hJ60.1, hJ60.2⟩
          · exact absurd (by decide) c103
        · refine z_top (y := (nI k103)) hp103 ?_
          refine z_if_lt X (pc := 103) (tgt := 119) dX11_tell_103 (by decide) (fun c103 => ?_) (fun c103 => ?_)
          · exact absurd c103 (nI_pos (by omega))
          · refine z_aload_n X (pc := 106) 1 dX11_tell_106 rfl rfl ?_
            refine z_bipush X (pc := 107) (v := 58) dX11_tell_107 (by decide) ?_
            refine z_aload_n X (pc := 109) 1 dX11_tell_109 rfl rfl ?_
            refine z_iload_n X (pc := 110) 2 dX11_tell_110 rfl rfl ?_
            refine z_bipush X (pc := 111) (v := 6) dX11_tell_111 (by decide) ?_
            refine z_callV X (pc := 113) (rest := [.int 58, .ref (za E 32 0)]) kv_X11_ofChair (c_X11_ofChair E M1 g (And.left (SF.rf (M := M1) (Fq.gL hJ60.2 hg))) c 6 (show c < 10 by omega) (by decide)) zk_32_0 (zc_32_0 E _) rfl rfl gw_323 (by decide) rfl rfl (Nat.le_of_ble_eq_true rfl) dX11_tell_113 (zk_i ?_)
            refine z_top (y := (nI k103)) hp103 ?_
            refine z_callV X (pc := 116) (rest := []) kv_X11_writeBehind (c_X11_writeBehind E M1 _ rfl (((((((((([]) ++ digs c) ++ [115]) ++ digs k0) ++ [110]) ++ digs k1) ++ [99]) ++ digs k2) ++ List.replicate i 94)) hJ60.1 58 k103 (by omega) (by omega) (by simp only [List.length_append, List.length_cons, List.length_nil, List.length_replicate, List.nil_append]; omega)) zk_32_0 (zc_32_0 E _) rfl rfl gw_1031 (by decide) rfl rfl (Nat.le_of_ble_eq_true rfl) dX11_tell_116 (zk_rv (fun M_9 hT_10 => ?_))
            have hT_10L : LM M_9 (((((((((((([]) ++ digs c) ++ [115]) ++ digs k0) ++ [110]) ++ digs k1) ++ [99]) ++ digs k2) ++ List.replicate i 94)) ++ [58]) ++ digs k103) := hT_10.1
            refine z_aload_n X (pc := 119) 1 dX11_tell_119 rfl rfl ?_
            refine z_get X (pc := 120) 13 zk_32_0 (zc_32_0 E _) rfl inlX11 (by decide) gw_1022 rfl rfl dX11_tell_120 ?_
            refine z_top (y := (nI (List.length (((((((((((([]) ++ digs c) ++ [115]) ++ digs k0) ++ [110]) ++ digs k1) ++ [99]) ++ digs k2) ++ List.replicate i 94)) ++ [58]) ++ digs k103)))) hT_10L.1 ?_
            have htl : tellL g c = ((((((((((([]) ++ digs c) ++ [115]) ++ digs k0) ++ [110]) ++ digs k1) ++ [99]) ++ digs k2) ++ List.replicate i 94)) ++ [58]) ++ digs k103 := by rw [show i = kt by omega]; simp [tellL, who, taken, e0, e1, e2, et, nI_clamp (show k0 < 2 ^ 31 by omega), nI_clamp (show k1 < 2 ^ 31 by omega), nI_clamp (show k2 < 2 ^ 31 by omega), nI_clamp (show kt < 2 ^ 31 by omega), c87, hp103, nI_ne_m1 (show k103 < 2 ^ 31 by omega), nI_clamp (show k103 < 2 ^ 31 by omega)]
            exact z_iret X Y dX11_tell_123 ⟨_, rfl, by rw [aTell_in hI hc, htl], by rw [aTell_in hI hc, htl]; exact hT_10L, (hJ60.2.tr hT_10.2)⟩
      · refine z_aload_n X (pc := 90) 1 dX11_tell_90 rfl rfl ?_
        refine z_bipush X (pc := 91) (v := 120) dX11_tell_91 (by decide) ?_
        refine z_callV X (pc := 93) (rest := []) kv_X11_write (c_X11_write E M1 (((((((((([]) ++ digs c) ++ [115]) ++ digs k0) ++ [110]) ++ digs k1) ++ [99]) ++ digs k2) ++ List.replicate i 94)) hJ60.1 120 (by omega) (by simp only [List.length_append, List.length_cons, List.length_nil, List.length_replicate, List.nil_append]; omega)) zk_32_0 (zc_32_0 E _) rfl rfl gw_1027 (by decide) rfl rfl (Nat.le_of_ble_eq_true rfl) dX11_tell_93 (zk_rv (fun M_11 hT_12 => ?_))
        have hT_12L : LM M_11 ((((((((((([]) ++ digs c) ++ [115]) ++ digs k0) ++ [110]) ++ digs k1) ++ [99]) ++ digs k2) ++ List.replicate i 94)) ++ [120]) := hT_12.1
        refine z_aload_n X (pc := 96) 1 dX11_tell_96 rfl rfl ?_
        refine z_iload_n X (pc := 97) 2 dX11_tell_97 rfl rfl ?_
        refine z_bipush X (pc := 98) (v := 6) dX11_tell_98 (by decide) ?_
        refine z_callV X (pc := 100) (rest := []) kv_X11_ofChair (c_X11_ofChair E M_11 g (And.left (SF.rf (M := M_11) (Fq.gL (hJ60.2.tr hT_12.2) hg))) c 6 (show c < 10 by omega) (by decide)) zk_32_0 (zc_32_0 E _) rfl rfl gw_323 (by decide) rfl rfl (Nat.le_of_ble_eq_true rfl) dX11_tell_100 (zk_i ?_)
        rcases (show nOr (g 6 c) 10 from ((hI.nor6 hc).le (by omega))) with hp103 | ⟨k103, hk103, hp103⟩
        · refine z_top (y := ((-1))) hp103 ?_
          refine z_if_lt X (pc := 103) (tgt := 119) dX11_tell_103 (by decide) (fun c103 => ?_) (fun c103 => ?_)
          · refine z_aload_n X (pc := 119) 1 dX11_tell_119 rfl rfl ?_
            refine z_get X (pc := 120) 13 zk_32_0 (zc_32_0 E _) rfl inlX11 (by decide) gw_1022 rfl rfl dX11_tell_120 ?_
            refine z_top (y := (nI (List.length ((((((((((([]) ++ digs c) ++ [115]) ++ digs k0) ++ [110]) ++ digs k1) ++ [99]) ++ digs k2) ++ List.replicate i 94)) ++ [120])))) hT_12L.1 ?_
            have htl : tellL g c = (((((((((([]) ++ digs c) ++ [115]) ++ digs k0) ++ [110]) ++ digs k1) ++ [99]) ++ digs k2) ++ List.replicate i 94)) ++ [120] := by rw [show i = kt by omega]; simp [tellL, who, taken, e0, e1, e2, et, nI_clamp (show k0 < 2 ^ 31 by omega), nI_clamp (show k1 < 2 ^ 31 by omega), nI_clamp (show k2 < 2 ^ 31 by omega), nI_clamp (show kt < 2 ^ 31 by omega), c87, hp103]
            exact z_iret X Y dX11_tell_123 ⟨_, rfl, by rw [aTell_in hI hc, htl], by rw [aTell_in hI hc, htl]; exact hT_12L, (hJ60.2.tr hT_12.2)⟩
          · exact absurd (by decide) c103
        · refine z_top (y := (nI k103)) hp103 ?_
          refine z_if_lt X (pc := 103) (tgt := 119) dX11_tell_103 (by decide) (fun c103 => ?_) (fun c103 => ?_)
          · exact absurd c103 (nI_pos (by omega))
          · refine z_aload_n X (pc := 106) 1 dX11_tell_106 rfl rfl ?_
            refine z_bipush X (pc := 107) (v := 58) dX11_tell_107 (by decide) ?_
            refine z_aload_n X (pc := 109) 1 dX11_tell_109 rfl rfl ?_
            refine z_iload_n X (pc := 110) 2 dX11_tell_110 rfl rfl ?_
            refine z_bipush X (pc := 111) (v := 6) dX11_tell_111 (by decide) ?_
            refine z_callV X (pc := 113) (rest := [.int 58, .ref (za E 32 0)]) kv_X11_ofChair (c_X11_ofChair E M_11 g (And.left (SF.rf (M := M_11) (Fq.gL (hJ60.2.tr hT_12.2) hg))) c 6 (show c < 10 by omega) (by decide)) zk_32_0 (zc_32_0 E _) rfl rfl gw_323 (by decide) rfl rfl (Nat.le_of_ble_eq_true rfl) dX11_tell_113 (zk_i ?_)
            refine z_top (y := (nI k103)) hp103 ?_
            refine z_callV X (pc := 116) (rest := []) kv_X11_writeBehind (c_X11_writeBehind E M_11 _ rfl ((((((((((([]) ++ digs c) ++ [115]) ++ digs k0) ++ [110]) ++ digs k1) ++ [99]) ++ digs k2) ++ List.replicate i 94)) ++ [120]) hT_12L 58 k103 (by omega) (by omega) (by simp only [List.length_append, List.length_cons, List.length_nil, List.length_replicate, List.nil_append]; omega)) zk_32_0 (zc_32_0 E _) rfl rfl gw_1031 (by decide) rfl rfl (Nat.le_of_ble_eq_true rfl) dX11_tell_116 (zk_rv (fun M_13 hT_14 => ?_))
            have hT_14L : LM M_13 ((((((((((((([]) ++ digs c) ++ [115]) ++ digs k0) ++ [110]) ++ digs k1) ++ [99]) ++ digs k2) ++ List.replicate i 94)) ++ [120]) ++ [58]) ++ digs k103) := hT_14.1
            refine z_aload_n X (pc := 119) 1 dX11_tell_119 rfl rfl ?_
            refine z_get X (pc := 120) 13 zk_32_0 (zc_32_0 E _) rfl inlX11 (by decide) gw_1022 rfl rfl dX11_tell_120 ?_
            refine z_top (y := (nI (List.length ((((((((((((([]) ++ digs c) ++ [115]) ++ digs k0) ++ [110]) ++ digs k1) ++ [99]) ++ digs k2) ++ List.replicate i 94)) ++ [120]) ++ [58]) ++ digs k103)))) hT_14L.1 ?_
            have htl : tellL g c = (((((((((((([]) ++ digs c) ++ [115]) ++ digs k0) ++ [110]) ++ digs k1) ++ [99]) ++ digs k2) ++ List.replicate i 94)) ++ [120]) ++ [58]) ++ digs k103 := by rw [show i = kt by omega]; simp [tellL, who, taken, e0, e1, e2, et, nI_clamp (show k0 < 2 ^ 31 by omega), nI_clamp (show k1 < 2 ^ 31 by omega), nI_clamp (show k2 < 2 ^ 31 by omega), nI_clamp (show kt < 2 ^ 31 by omega), c87, hp103, nI_ne_m1 (show k103 < 2 ^ 31 by omega), nI_clamp (show k103 < 2 ^ 31 by omega)]
            exact z_iret X Y dX11_tell_123 ⟨_, rfl, by rw [aTell_in hI hc, htl], by rw [aTell_in hI hc, htl]; exact hT_14L, ((hJ60.2.tr hT_12.2).tr hT_14.2)⟩
    · refine z_aload_n X (pc := 70) 1 dX11_tell_70 rfl rfl ?_
      refine z_bipush X (pc := 71) (v := 94) dX11_tell_71 (by decide) ?_
      refine z_callV X (pc := 73) (rest := []) kv_X11_write (c_X11_write E M1 (((((((((([]) ++ digs c) ++ [115]) ++ digs k0) ++ [110]) ++ digs k1) ++ [99]) ++ digs k2) ++ List.replicate i 94)) hJ60.1 94 (by omega) (by simp only [List.length_append, List.length_cons, List.length_nil, List.length_replicate, List.nil_append]; omega)) zk_32_0 (zc_32_0 E _) rfl rfl gw_1027 (by decide) rfl rfl (Nat.le_of_ble_eq_true rfl) dX11_tell_73 (zk_rv (fun M_15 hT_16 => ?_))
      have hT_16L : LM M_15 ((((((((((([]) ++ digs c) ++ [115]) ++ digs k0) ++ [110]) ++ digs k1) ++ [99]) ++ digs k2) ++ List.replicate i 94)) ++ [94]) := hT_16.1
      refine z_iinc X (pc := 76) (v := (nI (i + 1))) (lv1 := [(2, .int (nI (i + 1))), (0, .ref (za E 32 0)), (1, .int (nI c))]) 0 dX11_tell_76 rfl (nI_1 _) (by decide) rfl ?_
      refine z_goto X (pc := 79) (tgt := 60) dX11_tell_79 (by decide) ?_
      refine z_sub (lv' := [(2, .int (nI (i + 1))), (0, .ref (za E 32 0)), (1, .int (nI c))]) [0, 1, 2] rfl ?_
      exact ih60 M_15 (by omega) ⟨by rw [List.replicate_succ', ← List.append_assoc]; exact hT_16L, (hJ60.2.tr hT_16.2)⟩
  · refine z_sipush X (pc := 8) (v := (-1011)) dX11_tell_8 (by decide) ?_
    exact z_iret X Y dX11_tell_11 ⟨_, rfl, by simp [aTell, hI.cNe, hI.mNe, c5], by simpa [aTell, hI.cNe, hI.mNe, c5] using hL, Fq.rf⟩

def rm_X11_tellMusicians : Room := { frames := 3, cells := 0, slots := 0, locals := 64 }
theorem kv_X11_tellMusicians : KV yX11_tellMusicians RX11 cX11_tellMusicians 2 (some .int) 0 := ⟨⟨gw_1044, gw_1045, gw_5, gw_1046⟩, by decide +kernel⟩
set_option maxRecDepth 100000 in
set_option maxHeartbeats 4000000 in
theorem c_X11_tellMusicians (E : ZE) (M : Mem) (g : LG) (hg : gF (M 20 0) = g) (nc nm n : Nat) (hI : Inv g nc nm n) (l : List Int32) (hL : LM M l) : Mt E yX11_tellMusicians cX11_tellMusicians 2 (some .int) rm_X11_tellMusicians [.ref (za E 32 0)] M (RI (fun v M1 => v = nI (List.length (musLs g nm)) ∧ LM M1 (musLs g nm) ∧ Fq tL M M1)) := by
  have hnc := hI.nc; have hnm := hI.nm; have hn := hI.c10; have hn2 := hI.m10
  refine z_met (own := RX11) (lv := [(0, .ref (za E 32 0))]) (by decide) rfl (Nat.le_of_ble_eq_true rfl) rfl (fun gg X Y => ?_)
  refine z_aload_n X (pc := 0) 0 dX11_tellMusicians_0 rfl rfl ?_
  refine z_iconst X (pc := 1) (v := 0) dX11_tellMusicians_1 (by decide) ?_
  refine z_put X (pc := 2) 13 zk_32_0 (zc_32_0 E _) rfl inlX11 tyX11 tyX11_ok nmX11 (by decide) gw_1022 rfl rfl (ty := .int) (by decide +kernel) rfl rfl (Nat.le_of_ble_eq_true rfl) dX11_tellMusicians_2 rfl ?_
  refine z_iconst X (pc := 5) (v := 0) dX11_tellMusicians_5 (by decide) ?_
  refine z_istore_n X (pc := 6) (lv1 := [(1, .int 0), (0, .ref (za E 32 0))]) dX11_tellMusicians_6 rfl (by decide) rfl ?_
  refine z_sub (lv' := [(1, .int (nI 0)), (0, .ref (za E 32 0))]) [0, 1] rfl ?_
  refine z_loop (nm) 7 (σ := Mem) (fun i s => LM s (musLs g i) ∧ Fq tL M s) (fun i s => (s, [(1, .int (nI i)), (0, .ref (za E 32 0))])) ?_ 0 (up3 M 32 0 13 0) (Nat.zero_le _) ⟨(LM.clr (M := M)), (Fq.clr (M := M))⟩
  intro i s hi7 hJ7 ih7
  obtain ⟨M1, rfl⟩ : ∃ z, z = s := ⟨s, rfl⟩
  show Z gg E M1 [(1, .int (nI i)), (0, .ref (za E 32 0))] 7 []
  replace hJ7 : LM M1 (musLs g i) ∧ Fq tL M M1 := hJ7
  have hml := musLs_len (g := g) (nc := nc) (nm := nm) (n := n) hI hi7
  refine z_iload_n X (pc := 7) 0 dX11_tellMusicians_7 rfl rfl ?_
  refine z_aload_n X (pc := 8) 1 dX11_tellMusicians_8 rfl rfl ?_
  refine z_get X (pc := 9) 0 zk_32_0 (zc_32_0 E _) rfl inlX11 (by decide) gw_138 rfl rfl dX11_tellMusicians_9 ?_
  refine z_bipush X (pc := 12) (v := 8) dX11_tellMusicians_12 (by decide) ?_
  refine z_iald X (pc := 14) (by decide) (show (8 : Int32) = nI 8 from rfl) (by decide) dX11_tellMusicians_14 ?_
  refine z_top (y := (nI nm)) ((SF.bk (SF.rf (M := M1) (Fq.gL hJ7.2 hg)) (by decide)).trans hnm) ?_
  refine z_nicmp_ge X (pc := 15) (a := i) (b := nm) (tgt := 95) dX11_tellMusicians_15 (by decide) (by omega) (by omega) (fun c15 => ?_) (fun c15 => ?_)
  · refine z_aload_n X (pc := 95) 1 dX11_tellMusicians_95 rfl rfl ?_
    refine z_get X (pc := 96) 13 zk_32_0 (zc_32_0 E _) rfl inlX11 (by decide) gw_1022 rfl rfl dX11_tellMusicians_96 ?_
    refine z_top (y := (nI (List.length (musLs g i)))) hJ7.1.1 ?_
    exact z_iret X Y dX11_tellMusicians_99 ⟨_, rfl, by rw [show nm = i by omega], by rw [show nm = i by omega]; exact hJ7.1, hJ7.2⟩
  · obtain ⟨k10, -, hk10, e10⟩ := (hI.mu i (by omega)).2.2.2.1; obtain ⟨k11, -, hk11, e11⟩ := (hI.mu i (by omega)).2.2.2.2.1; have hd1 := digs_len k10; have hd2 := digs_len k11
    refine z_iload_n X (pc := 18) 0 dX11_tellMusicians_18 rfl rfl ?_
    refine z_nif_le X (pc := 19) (tgt := 28) dX11_tellMusicians_19 (by decide) (by omega) (fun c19 => ?_) (fun c19 => ?_)
    · refine z_aload_n X (pc := 28) 1 dX11_tellMusicians_28 rfl rfl ?_
      refine z_iload_n X (pc := 29) 0 dX11_tellMusicians_29 rfl rfl ?_
      refine z_iconst X (pc := 30) (v := 5) dX11_tellMusicians_30 (by decide) ?_
      refine z_callV X (pc := 31) (rest := []) kv_X11_of (c_X11_of E M1 g (And.left (SF.rf (M := M1) (Fq.gL hJ7.2 hg))) i 5 (show i < 10 by omega) (by decide)) zk_32_0 (zc_32_0 E _) rfl rfl gw_354 (by decide) rfl rfl (Nat.le_of_ble_eq_true rfl) dX11_tellMusicians_31 (zk_i ?_)
      rcases (show nOr (g 12 i) 10 from ((hI.nor12 (by omega)).le (by omega))) with hp34 | ⟨k34, hk34, hp34⟩
      · refine z_top (y := ((-1))) hp34 ?_
        refine z_if_ge X (pc := 34) (tgt := 46) dX11_tellMusicians_34 (by decide) (fun c34 => ?_) (fun c34 => ?_)
        · exact absurd c34 (by decide)
        · refine z_aload_n X (pc := 37) 1 dX11_tellMusicians_37 rfl rfl ?_
          refine z_bipush X (pc := 38) (v := 46) dX11_tellMusicians_38 (by decide) ?_
          refine z_callV X (pc := 40) (rest := []) kv_X11_write (c_X11_write E M1 (musLs g i) hJ7.1 46 (by omega) (by omega)) zk_32_0 (zc_32_0 E _) rfl rfl gw_1027 (by decide) rfl rfl (Nat.le_of_ble_eq_true rfl) dX11_tellMusicians_40 (zk_rv (fun M_1 hT_2 => ?_))
          have hT_2L : LM M_1 ((musLs g i) ++ [46]) := hT_2.1
          refine z_goto X (pc := 43) (tgt := 56) dX11_tellMusicians_43 (by decide) ?_
          refine z_aload_n X (pc := 56) 1 dX11_tellMusicians_56 rfl rfl ?_
          refine z_bipush X (pc := 57) (v := 36) dX11_tellMusicians_57 (by decide) ?_
          refine z_aload_n X (pc := 59) 1 dX11_tellMusicians_59 rfl rfl ?_
          refine z_iload_n X (pc := 60) 0 dX11_tellMusicians_60 rfl rfl ?_
          refine z_iconst X (pc := 61) (v := 3) dX11_tellMusicians_61 (by decide) ?_
          refine z_callV X (pc := 62) (rest := [.int 36, .ref (za E 32 0)]) kv_X11_of (c_X11_of E M_1 g (And.left (SF.rf (M := M_1) (Fq.gL (hJ7.2.tr hT_2.2) hg))) i 3 (show i < 10 by omega) (by decide)) zk_32_0 (zc_32_0 E _) rfl rfl gw_354 (by decide) rfl rfl (Nat.le_of_ble_eq_true rfl) dX11_tellMusicians_62 (zk_i ?_)
          refine z_top (y := (nI k10)) e10 ?_
          refine z_callV X (pc := 65) (rest := []) kv_X11_writeBehind (c_X11_writeBehind E M_1 _ rfl ((musLs g i) ++ [46]) hT_2L 36 k10 (by omega) (by omega) (by simp only [List.length_append, List.length_cons, List.length_nil, List.length_replicate, List.nil_append]; omega)) zk_32_0 (zc_32_0 E _) rfl rfl gw_1031 (by decide) rfl rfl (Nat.le_of_ble_eq_true rfl) dX11_tellMusicians_65 (zk_rv (fun M_3 hT_4 => ?_))
          have hT_4L : LM M_3 ((((musLs g i) ++ [46]) ++ [36]) ++ digs k10) := hT_4.1
          refine z_aload_n X (pc := 68) 1 dX11_tellMusicians_68 rfl rfl ?_
          refine z_iload_n X (pc := 69) 0 dX11_tellMusicians_69 rfl rfl ?_
          refine z_iconst X (pc := 70) (v := 4) dX11_tellMusicians_70 (by decide) ?_
          refine z_callV X (pc := 71) (rest := []) kv_X11_of (c_X11_of E M_3 g (And.left (SF.rf (M := M_3) (Fq.gL ((hJ7.2.tr hT_2.2).tr hT_4.2) hg))) i 4 (show i < 10 by omega) (by decide)) zk_32_0 (zc_32_0 E _) rfl rfl gw_354 (by decide) rfl rfl (Nat.le_of_ble_eq_true rfl) dX11_tellMusicians_71 (zk_i ?_)
          refine z_top (y := (nI k11)) e11 ?_
          refine z_nif_le X (pc := 74) (tgt := 89) dX11_tellMusicians_74 (by decide) (by omega) (fun c74 => ?_) (fun c74 => ?_)
          · refine z_iinc X (pc := 89) (v := (nI (i + 1))) (lv1 := [(1, .int (nI (i + 1))), (0, .ref (za E 32 0))]) 0 dX11_tellMusicians_89 rfl (nI_1 _) (by decide) rfl ?_
            refine z_goto X (pc := 92) (tgt := 7) dX11_tellMusicians_92 (by decide) ?_
            refine z_sub (lv' := [(1, .int (nI (i + 1))), (0, .ref (za E 32 0))]) [0, 1] rfl ?_
            exact ih7 M_3 (by omega) ⟨by simpa [musLs, musL, sits, e10, e11, nI_clamp (show k10 < 2 ^ 31 by omega), nI_clamp (show k11 < 2 ^ 31 by omega), hp34, show musLs g i = [] by rw [show i = 0 by omega]; rfl, show ¬ 0 < i by omega, show ¬ 0 < nI k11 from (by rw [show k11 = 0 by omega]; decide)] using hT_4L, ((hJ7.2.tr hT_2.2).tr hT_4.2)⟩
          · refine z_aload_n X (pc := 77) 1 dX11_tellMusicians_77 rfl rfl ?_
            refine z_bipush X (pc := 78) (v := 33) dX11_tellMusicians_78 (by decide) ?_
            refine z_aload_n X (pc := 80) 1 dX11_tellMusicians_80 rfl rfl ?_
            refine z_iload_n X (pc := 81) 0 dX11_tellMusicians_81 rfl rfl ?_
            refine z_iconst X (pc := 82) (v := 4) dX11_tellMusicians_82 (by decide) ?_
            refine z_callV X (pc := 83) (rest := [.int 33, .ref (za E 32 0)]) kv_X11_of (c_X11_of E M_3 g (And.left (SF.rf (M := M_3) (Fq.gL ((hJ7.2.tr hT_2.2).tr hT_4.2) hg))) i 4 (show i < 10 by omega) (by decide)) zk_32_0 (zc_32_0 E _) rfl rfl gw_354 (by decide) rfl rfl (Nat.le_of_ble_eq_true rfl) dX11_tellMusicians_83 (zk_i ?_)
            refine z_top (y := (nI k11)) e11 ?_
            refine z_callV X (pc := 86) (rest := []) kv_X11_writeBehind (c_X11_writeBehind E M_3 _ rfl ((((musLs g i) ++ [46]) ++ [36]) ++ digs k10) hT_4L 33 k11 (by omega) (by omega) (by simp only [List.length_append, List.length_cons, List.length_nil, List.length_replicate, List.nil_append]; omega)) zk_32_0 (zc_32_0 E _) rfl rfl gw_1031 (by decide) rfl rfl (Nat.le_of_ble_eq_true rfl) dX11_tellMusicians_86 (zk_rv (fun M_5 hT_6 => ?_))
            have hT_6L : LM M_5 ((((((musLs g i) ++ [46]) ++ [36]) ++ digs k10) ++ [33]) ++ digs k11) := hT_6.1
            refine z_iinc X (pc := 89) (v := (nI (i + 1))) (lv1 := [(1, .int (nI (i + 1))), (0, .ref (za E 32 0))]) 0 dX11_tellMusicians_89 rfl (nI_1 _) (by decide) rfl ?_
            refine z_goto X (pc := 92) (tgt := 7) dX11_tellMusicians_92 (by decide) ?_
            refine z_sub (lv' := [(1, .int (nI (i + 1))), (0, .ref (za E 32 0))]) [0, 1] rfl ?_
            exact ih7 M_5 (by omega) ⟨by simpa [musLs, musL, sits, e10, e11, nI_clamp (show k10 < 2 ^ 31 by omega), nI_clamp (show k11 < 2 ^ 31 by omega), hp34, show musLs g i = [] by rw [show i = 0 by omega]; rfl, show ¬ 0 < i by omega, show 0 < nI k11 from nI_lt (a := 0) (by omega) (by omega)] using hT_6L, (((hJ7.2.tr hT_2.2).tr hT_4.2).tr hT_6.2)⟩
      · refine z_top (y := (nI k34)) hp34 ?_
        refine z_if_ge X (pc := 34) (tgt := 46) dX11_tellMusicians_34 (by decide) (fun c34 => ?_) (fun c34 => ?_)
        · have hk34 : k34 < nc := hI.lt12 (by omega) hp34
          have hd3 := digs_one (show k34 ≤ 9 by omega)
          refine z_aload_n X (pc := 46) 1 dX11_tellMusicians_46 rfl rfl ?_
          refine z_aload_n X (pc := 47) 1 dX11_tellMusicians_47 rfl rfl ?_
          refine z_iload_n X (pc := 48) 0 dX11_tellMusicians_48 rfl rfl ?_
          refine z_iconst X (pc := 49) (v := 5) dX11_tellMusicians_49 (by decide) ?_
          refine z_callV X (pc := 50) (rest := [.ref (za E 32 0)]) kv_X11_of (c_X11_of E M1 g (And.left (SF.rf (M := M1) (Fq.gL hJ7.2 hg))) i 5 (show i < 10 by omega) (by decide)) zk_32_0 (zc_32_0 E _) rfl rfl gw_354 (by decide) rfl rfl (Nat.le_of_ble_eq_true rfl) dX11_tellMusicians_50 (zk_i ?_)
          refine z_top (y := (nI k34)) hp34 ?_
          refine z_callV X (pc := 53) (rest := []) kv_X11_writeNumber (c_X11_writeNumber E M1 _ rfl (musLs g i) hJ7.1 k34 (by omega) (by omega)) zk_32_0 (zc_32_0 E _) rfl rfl gw_1023 (by decide) rfl rfl (Nat.le_of_ble_eq_true rfl) dX11_tellMusicians_53 (zk_rv (fun M_7 hT_8 => ?_))
          refine z_aload_n X (pc := 56) 1 dX11_tellMusicians_56 rfl rfl ?_
          refine z_bipush X (pc := 57) (v := 36) dX11_tellMusicians_57 (by decide) ?_
          refine z_aload_n X (pc := 59) 1 dX11_tellMusicians_59 rfl rfl ?_
          refine z_iload_n X (pc := 60) 0 dX11_tellMusicians_60 rfl rfl ?_
          refine z_iconst X (pc := 61) (v := 3) dX11_tellMusicians_61 (by decide) ?_
          refine z_callV X (pc := 62) (rest := [.int 36, .ref (za E 32 0)]) kv_X11_of (c_X11_of E M_7 g (And.left (SF.rf (M := M_7) (Fq.gL (hJ7.2.tr hT_8.2) hg))) i 3 (show i < 10 by omega) (by decide)) zk_32_0 (zc_32_0 E _) rfl rfl gw_354 (by decide) rfl rfl (Nat.le_of_ble_eq_true rfl) dX11_tellMusicians_62 (zk_i ?_)
          refine z_top (y := (nI k10)) e10 ?_
          refine z_callV X (pc := 65) (rest := []) kv_X11_writeBehind (c_X11_writeBehind E M_7 _ rfl ((musLs g i) ++ digs k34) hT_8.1 36 k10 (by omega) (by omega) (by simp only [List.length_append, List.length_cons, List.length_nil, List.length_replicate, List.nil_append]; omega)) zk_32_0 (zc_32_0 E _) rfl rfl gw_1031 (by decide) rfl rfl (Nat.le_of_ble_eq_true rfl) dX11_tellMusicians_65 (zk_rv (fun M_9 hT_10 => ?_))
          have hT_10L : LM M_9 ((((musLs g i) ++ digs k34) ++ [36]) ++ digs k10) := hT_10.1
          refine z_aload_n X (pc := 68) 1 dX11_tellMusicians_68 rfl rfl ?_
          refine z_iload_n X (pc := 69) 0 dX11_tellMusicians_69 rfl rfl ?_
          refine z_iconst X (pc := 70) (v := 4) dX11_tellMusicians_70 (by decide) ?_
          refine z_callV X (pc := 71) (rest := []) kv_X11_of (c_X11_of E M_9 g (And.left (SF.rf (M := M_9) (Fq.gL ((hJ7.2.tr hT_8.2).tr hT_10.2) hg))) i 4 (show i < 10 by omega) (by decide)) zk_32_0 (zc_32_0 E _) rfl rfl gw_354 (by decide) rfl rfl (Nat.le_of_ble_eq_true rfl) dX11_tellMusicians_71 (zk_i ?_)
          refine z_top (y := (nI k11)) e11 ?_
          refine z_nif_le X (pc := 74) (tgt := 89) dX11_tellMusicians_74 (by decide) (by omega) (fun c74 => ?_) (fun c74 => ?_)
          · refine z_iinc X (pc := 89) (v := (nI (i + 1))) (lv1 := [(1, .int (nI (i + 1))), (0, .ref (za E 32 0))]) 0 dX11_tellMusicians_89 rfl (nI_1 _) (by decide) rfl ?_
            refine z_goto X (pc := 92) (tgt := 7) dX11_tellMusicians_92 (by decide) ?_
            refine z_sub (lv' := [(1, .int (nI (i + 1))), (0, .ref (za E 32 0))]) [0, 1] rfl ?_
            exact ih7 M_9 (by omega) ⟨by simpa [musLs, musL, sits, e10, e11, nI_clamp (show k10 < 2 ^ 31 by omega), nI_clamp (show k11 < 2 ^ 31 by omega), hp34, nI_ne_m1 (show k34 < 2 ^ 31 by omega), nI_clamp (show k34 < 2 ^ 31 by omega), show musLs g i = [] by rw [show i = 0 by omega]; rfl, show ¬ 0 < i by omega, show ¬ 0 < nI k11 from (by rw [show k11 = 0 by omega]; decide)] using hT_10L, ((hJ7.2.tr hT_8.2).tr hT_10.2)⟩
          · refine z_aload_n X (pc := 77) 1 dX11_tellMusicians_77 rfl rfl ?_
            refine z_bipush X (pc := 78) (v := 33) dX11_tellMusicians_78 (by decide) ?_
            refine z_aload_n X (pc := 80) 1 dX11_tellMusicians_80 rfl rfl ?_
            refine z_iload_n X (pc := 81) 0 dX11_tellMusicians_81 rfl rfl ?_
            refine z_iconst X (pc := 82) (v := 4) dX11_tellMusicians_82 (by decide) ?_
            refine z_callV X (pc := 83) (rest := [.int 33, .ref (za E 32 0)]) kv_X11_of (c_X11_of E M_9 g (And.left (SF.rf (M := M_9) (Fq.gL ((hJ7.2.tr hT_8.2).tr hT_10.2) hg))) i 4 (show i < 10 by omega) (by decide)) zk_32_0 (zc_32_0 E _) rfl rfl gw_354 (by decide) rfl rfl (Nat.le_of_ble_eq_true rfl) dX11_tellMusicians_83 (zk_i ?_)
            refine z_top (y := (nI k11)) e11 ?_
            refine z_callV X (pc := 86) (rest := []) kv_X11_writeBehind (c_X11_writeBehind E M_9 _ rfl ((((musLs g i) ++ digs k34) ++ [36]) ++ digs k10) hT_10L 33 k11 (by omega) (by omega) (by simp only [List.length_append, List.length_cons, List.length_nil, List.length_replicate, List.nil_append]; omega)) zk_32_0 (zc_32_0 E _) rfl rfl gw_1031 (by decide) rfl rfl (Nat.le_of_ble_eq_true rfl) dX11_tellMusicians_86 (zk_rv (fun M_11 hT_12 => ?_))
            have hT_12L : LM M_11 ((((((musLs g i) ++ digs k34) ++ [36]) ++ digs k10) ++ [33]) ++ digs k11) := hT_12.1
            refine z_iinc X (pc := 89) (v := (nI (i + 1))) (lv1 := [(1, .int (nI (i + 1))), (0, .ref (za E 32 0))]) 0 dX11_tellMusicians_89 rfl (nI_1 _) (by decide) rfl ?_
            refine z_goto X (pc := 92) (tgt := 7) dX11_tellMusicians_92 (by decide) ?_
            refine z_sub (lv' := [(1, .int (nI (i + 1))), (0, .ref (za E 32 0))]) [0, 1] rfl ?_
            exact ih7 M_11 (by omega) ⟨by simpa [musLs, musL, sits, e10, e11, nI_clamp (show k10 < 2 ^ 31 by omega), nI_clamp (show k11 < 2 ^ 31 by omega), hp34, nI_ne_m1 (show k34 < 2 ^ 31 by omega), nI_clamp (show k34 < 2 ^ 31 by omega), show musLs g i = [] by rw [show i = 0 by omega]; rfl, show ¬ 0 < i by omega, show 0 < nI k11 from nI_lt (a := 0) (by omega) (by omega)] using hT_12L, (((hJ7.2.tr hT_8.2).tr hT_10.2).tr hT_12.2)⟩
        · exact absurd (nI_pos' (by omega)) c34
    · refine z_aload_n X (pc := 22) 1 dX11_tellMusicians_22 rfl rfl ?_
      refine z_bipush X (pc := 23) (v := 32) dX11_tellMusicians_23 (by decide) ?_
      refine z_callV X (pc := 25) (rest := []) kv_X11_write (c_X11_write E M1 (musLs g i) hJ7.1 32 (by omega) (by omega)) zk_32_0 (zc_32_0 E _) rfl rfl gw_1027 (by decide) rfl rfl (Nat.le_of_ble_eq_true rfl) dX11_tellMusicians_25 (zk_rv (fun M_13 hT_14 => ?_))
      have hT_14L : LM M_13 ((musLs g i) ++ [32]) := hT_14.1
      refine z_aload_n X (pc := 28) 1 dX11_tellMusicians_28 rfl rfl ?_
      refine z_iload_n X (pc := 29) 0 dX11_tellMusicians_29 rfl rfl ?_
      refine z_iconst X (pc := 30) (v := 5) dX11_tellMusicians_30 (by decide) ?_
      refine z_callV X (pc := 31) (rest := []) kv_X11_of (c_X11_of E M_13 g (And.left (SF.rf (M := M_13) (Fq.gL (hJ7.2.tr hT_14.2) hg))) i 5 (show i < 10 by omega) (by decide)) zk_32_0 (zc_32_0 E _) rfl rfl gw_354 (by decide) rfl rfl (Nat.le_of_ble_eq_true rfl) dX11_tellMusicians_31 (zk_i ?_)
      rcases (show nOr (g 12 i) 10 from ((hI.nor12 (by omega)).le (by omega))) with hp34 | ⟨k34, hk34, hp34⟩
      · refine z_top (y := ((-1))) hp34 ?_
        refine z_if_ge X (pc := 34) (tgt := 46) dX11_tellMusicians_34 (by decide) (fun c34 => ?_) (fun c34 => ?_)
        · exact absurd c34 (by decide)
        · refine z_aload_n X (pc := 37) 1 dX11_tellMusicians_37 rfl rfl ?_
          refine z_bipush X (pc := 38) (v := 46) dX11_tellMusicians_38 (by decide) ?_
          refine z_callV X (pc := 40) (rest := []) kv_X11_write (c_X11_write E M_13 ((musLs g i) ++ [32]) hT_14L 46 (by omega) (by simp only [List.length_append, List.length_cons, List.length_nil, List.length_replicate, List.nil_append]; omega)) zk_32_0 (zc_32_0 E _) rfl rfl gw_1027 (by decide) rfl rfl (Nat.le_of_ble_eq_true rfl) dX11_tellMusicians_40 (zk_rv (fun M_15 hT_16 => ?_))
          have hT_16L : LM M_15 (((musLs g i) ++ [32]) ++ [46]) := hT_16.1
          refine z_goto X (pc := 43) (tgt := 56) dX11_tellMusicians_43 (by decide) ?_
          refine z_aload_n X (pc := 56) 1 dX11_tellMusicians_56 rfl rfl ?_
          refine z_bipush X (pc := 57) (v := 36) dX11_tellMusicians_57 (by decide) ?_
          refine z_aload_n X (pc := 59) 1 dX11_tellMusicians_59 rfl rfl ?_
          refine z_iload_n X (pc := 60) 0 dX11_tellMusicians_60 rfl rfl ?_
          refine z_iconst X (pc := 61) (v := 3) dX11_tellMusicians_61 (by decide) ?_
          refine z_callV X (pc := 62) (rest := [.int 36, .ref (za E 32 0)]) kv_X11_of (c_X11_of E M_15 g (And.left (SF.rf (M := M_15) (Fq.gL ((hJ7.2.tr hT_14.2).tr hT_16.2) hg))) i 3 (show i < 10 by omega) (by decide)) zk_32_0 (zc_32_0 E _) rfl rfl gw_354 (by decide) rfl rfl (Nat.le_of_ble_eq_true rfl) dX11_tellMusicians_62 (zk_i ?_)
          refine z_top (y := (nI k10)) e10 ?_
          refine z_callV X (pc := 65) (rest := []) kv_X11_writeBehind (c_X11_writeBehind E M_15 _ rfl (((musLs g i) ++ [32]) ++ [46]) hT_16L 36 k10 (by omega) (by omega) (by simp only [List.length_append, List.length_cons, List.length_nil, List.length_replicate, List.nil_append]; omega)) zk_32_0 (zc_32_0 E _) rfl rfl gw_1031 (by decide) rfl rfl (Nat.le_of_ble_eq_true rfl) dX11_tellMusicians_65 (zk_rv (fun M_17 hT_18 => ?_))
          have hT_18L : LM M_17 (((((musLs g i) ++ [32]) ++ [46]) ++ [36]) ++ digs k10) := hT_18.1
          refine z_aload_n X (pc := 68) 1 dX11_tellMusicians_68 rfl rfl ?_
          refine z_iload_n X (pc := 69) 0 dX11_tellMusicians_69 rfl rfl ?_
          refine z_iconst X (pc := 70) (v := 4) dX11_tellMusicians_70 (by decide) ?_
          refine z_callV X (pc := 71) (rest := []) kv_X11_of (c_X11_of E M_17 g (And.left (SF.rf (M := M_17) (Fq.gL (((hJ7.2.tr hT_14.2).tr hT_16.2).tr hT_18.2) hg))) i 4 (show i < 10 by omega) (by decide)) zk_32_0 (zc_32_0 E _) rfl rfl gw_354 (by decide) rfl rfl (Nat.le_of_ble_eq_true rfl) dX11_tellMusicians_71 (zk_i ?_)
          refine z_top (y := (nI k11)) e11 ?_
          refine z_nif_le X (pc := 74) (tgt := 89) dX11_tellMusicians_74 (by decide) (by omega) (fun c74 => ?_) (fun c74 => ?_)
          · refine z_iinc X (pc := 89) (v := (nI (i + 1))) (lv1 := [(1, .int (nI (i + 1))), (0, .ref (za E 32 0))]) 0 dX11_tellMusicians_89 rfl (nI_1 _) (by decide) rfl ?_
            refine z_goto X (pc := 92) (tgt := 7) dX11_tellMusicians_92 (by decide) ?_
            refine z_sub (lv' := [(1, .int (nI (i + 1))), (0, .ref (za E 32 0))]) [0, 1] rfl ?_
            exact ih7 M_17 (by omega) ⟨by simpa [musLs, musL, sits, e10, e11, nI_clamp (show k10 < 2 ^ 31 by omega), nI_clamp (show k11 < 2 ^ 31 by omega), hp34, show 0 < i by omega, show ¬ 0 < nI k11 from (by rw [show k11 = 0 by omega]; decide)] using hT_18L, (((hJ7.2.tr hT_14.2).tr hT_16.2).tr hT_18.2)⟩
          · refine z_aload_n X (pc := 77) 1 dX11_tellMusicians_77 rfl rfl ?_
            refine z_bipush X (pc := 78) (v := 33) dX11_tellMusicians_78 (by decide) ?_
            refine z_aload_n X (pc := 80) 1 dX11_tellMusicians_80 rfl rfl ?_
            refine z_iload_n X (pc := 81) 0 dX11_tellMusicians_81 rfl rfl ?_
            refine z_iconst X (pc := 82) (v := 4) dX11_tellMusicians_82 (by decide) ?_
            refine z_callV X (pc := 83) (rest := [.int 33, .ref (za E 32 0)]) kv_X11_of (c_X11_of E M_17 g (And.left (SF.rf (M := M_17) (Fq.gL (((hJ7.2.tr hT_14.2).tr hT_16.2).tr hT_18.2) hg))) i 4 (show i < 10 by omega) (by decide)) zk_32_0 (zc_32_0 E _) rfl rfl gw_354 (by decide) rfl rfl (Nat.le_of_ble_eq_true rfl) dX11_tellMusicians_83 (zk_i ?_)
            refine z_top (y := (nI k11)) e11 ?_
            refine z_callV X (pc := 86) (rest := []) kv_X11_writeBehind (c_X11_writeBehind E M_17 _ rfl (((((musLs g i) ++ [32]) ++ [46]) ++ [36]) ++ digs k10) hT_18L 33 k11 (by omega) (by omega) (by simp only [List.length_append, List.length_cons, List.length_nil, List.length_replicate, List.nil_append]; omega)) zk_32_0 (zc_32_0 E _) rfl rfl gw_1031 (by decide) rfl rfl (Nat.le_of_ble_eq_true rfl) dX11_tellMusicians_86 (zk_rv (fun M_19 hT_20 => ?_))
            have hT_20L : LM M_19 (((((((musLs g i) ++ [32]) ++ [46]) ++ [36]) ++ digs k10) ++ [33]) ++ digs k11) := hT_20.1
            refine z_iinc X (pc := 89) (v := (nI (i + 1))) (lv1 := [(1, .int (nI (i + 1))), (0, .ref (za E 32 0))]) 0 dX11_tellMusicians_89 rfl (nI_1 _) (by decide) rfl ?_
            refine z_goto X (pc := 92) (tgt := 7) dX11_tellMusicians_92 (by decide) ?_
            refine z_sub (lv' := [(1, .int (nI (i + 1))), (0, .ref (za E 32 0))]) [0, 1] rfl ?_
            exact ih7 M_19 (by omega) ⟨by simpa [musLs, musL, sits, e10, e11, nI_clamp (show k10 < 2 ^ 31 by omega), nI_clamp (show k11 < 2 ^ 31 by omega), hp34, show 0 < i by omega, show 0 < nI k11 from nI_lt (a := 0) (by omega) (by omega)] using hT_20L, ((((hJ7.2.tr hT_14.2).tr hT_16.2).tr hT_18.2).tr hT_20.2)⟩
      · refine z_top (y := (nI k34)) hp34 ?_
        refine z_if_ge X (pc := 34) (tgt := 46) dX11_tellMusicians_34 (by decide) (fun c34 => ?_) (fun c34 => ?_)
        · have hk34 : k34 < nc := hI.lt12 (by omega) hp34
          have hd3 := digs_one (show k34 ≤ 9 by omega)
          refine z_aload_n X (pc := 46) 1 dX11_tellMusicians_46 rfl rfl ?_
          refine z_aload_n X (pc := 47) 1 dX11_tellMusicians_47 rfl rfl ?_
          refine z_iload_n X (pc := 48) 0 dX11_tellMusicians_48 rfl rfl ?_
          refine z_iconst X (pc := 49) (v := 5) dX11_tellMusicians_49 (by decide) ?_
          refine z_callV X (pc := 50) (rest := [.ref (za E 32 0)]) kv_X11_of (c_X11_of E M_13 g (And.left (SF.rf (M := M_13) (Fq.gL (hJ7.2.tr hT_14.2) hg))) i 5 (show i < 10 by omega) (by decide)) zk_32_0 (zc_32_0 E _) rfl rfl gw_354 (by decide) rfl rfl (Nat.le_of_ble_eq_true rfl) dX11_tellMusicians_50 (zk_i ?_)
          refine z_top (y := (nI k34)) hp34 ?_
          refine z_callV X (pc := 53) (rest := []) kv_X11_writeNumber (c_X11_writeNumber E M_13 _ rfl ((musLs g i) ++ [32]) hT_14L k34 (by omega) (by simp only [List.length_append, List.length_cons, List.length_nil, List.length_replicate, List.nil_append]; omega)) zk_32_0 (zc_32_0 E _) rfl rfl gw_1023 (by decide) rfl rfl (Nat.le_of_ble_eq_true rfl) dX11_tellMusicians_53 (zk_rv (fun M_21 hT_22 => ?_))
          refine z_aload_n X (pc := 56) 1 dX11_tellMusicians_56 rfl rfl ?_
          refine z_bipush X (pc := 57) (v := 36) dX11_tellMusicians_57 (by decide) ?_
          refine z_aload_n X (pc := 59) 1 dX11_tellMusicians_59 rfl rfl ?_
          refine z_iload_n X (pc := 60) 0 dX11_tellMusicians_60 rfl rfl ?_
          refine z_iconst X (pc := 61) (v := 3) dX11_tellMusicians_61 (by decide) ?_
          refine z_callV X (pc := 62) (rest := [.int 36, .ref (za E 32 0)]) kv_X11_of (c_X11_of E M_21 g (And.left (SF.rf (M := M_21) (Fq.gL ((hJ7.2.tr hT_14.2).tr hT_22.2) hg))) i 3 (show i < 10 by omega) (by decide)) zk_32_0 (zc_32_0 E _) rfl rfl gw_354 (by decide) rfl rfl (Nat.le_of_ble_eq_true rfl) dX11_tellMusicians_62 (zk_i ?_)
          refine z_top (y := (nI k10)) e10 ?_
          refine z_callV X (pc := 65) (rest := []) kv_X11_writeBehind (c_X11_writeBehind E M_21 _ rfl (((musLs g i) ++ [32]) ++ digs k34) hT_22.1 36 k10 (by omega) (by omega) (by simp only [List.length_append, List.length_cons, List.length_nil, List.length_replicate, List.nil_append]; omega)) zk_32_0 (zc_32_0 E _) rfl rfl gw_1031 (by decide) rfl rfl (Nat.le_of_ble_eq_true rfl) dX11_tellMusicians_65 (zk_rv (fun M_23 hT_24 => ?_))
          have hT_24L : LM M_23 (((((musLs g i) ++ [32]) ++ digs k34) ++ [36]) ++ digs k10) := hT_24.1
          refine z_aload_n X (pc := 68) 1 dX11_tellMusicians_68 rfl rfl ?_
          refine z_iload_n X (pc := 69) 0 dX11_tellMusicians_69 rfl rfl ?_
          refine z_iconst X (pc := 70) (v := 4) dX11_tellMusicians_70 (by decide) ?_
          refine z_callV X (pc := 71) (rest := []) kv_X11_of (c_X11_of E M_23 g (And.left (SF.rf (M := M_23) (Fq.gL (((hJ7.2.tr hT_14.2).tr hT_22.2).tr hT_24.2) hg))) i 4 (show i < 10 by omega) (by decide)) zk_32_0 (zc_32_0 E _) rfl rfl gw_354 (by decide) rfl rfl (Nat.le_of_ble_eq_true rfl) dX11_tellMusicians_71 (zk_i ?_)
          refine z_top (y := (nI k11)) e11 ?_
          refine z_nif_le X (pc := 74) (tgt := 89) dX11_tellMusicians_74 (by decide) (by omega) (fun c74 => ?_) (fun c74 => ?_)
          · refine z_iinc X (pc := 89) (v := (nI (i + 1))) (lv1 := [(1, .int (nI (i + 1))), (0, .ref (za E 32 0))]) 0 dX11_tellMusicians_89 rfl (nI_1 _) (by decide) rfl ?_
            refine z_goto X (pc := 92) (tgt := 7) dX11_tellMusicians_92 (by decide) ?_
            refine z_sub (lv' := [(1, .int (nI (i + 1))), (0, .ref (za E 32 0))]) [0, 1] rfl ?_
            exact ih7 M_23 (by omega) ⟨by simpa [musLs, musL, sits, e10, e11, nI_clamp (show k10 < 2 ^ 31 by omega), nI_clamp (show k11 < 2 ^ 31 by omega), hp34, nI_ne_m1 (show k34 < 2 ^ 31 by omega), nI_clamp (show k34 < 2 ^ 31 by omega), show 0 < i by omega, show ¬ 0 < nI k11 from (by rw [show k11 = 0 by omega]; decide)] using hT_24L, (((hJ7.2.tr hT_14.2).tr hT_22.2).tr hT_24.2)⟩
          · refine z_aload_n X (pc := 77) 1 dX11_tellMusicians_77 rfl rfl ?_
            refine z_bipush X (pc := 78) (v := 33) dX11_tellMusicians_78 (by decide) ?_
            refine z_aload_n X (pc := 80) 1 dX11_tellMusicians_80 rfl rfl ?_
            refine z_iload_n X (pc := 81) 0 dX11_tellMusicians_81 rfl rfl ?_
            refine z_iconst X (pc := 82) (v := 4) dX11_tellMusicians_82 (by decide) ?_
            refine z_callV X (pc := 83) (rest := [.int 33, .ref (za E 32 0)]) kv_X11_of (c_X11_of E M_23 g (And.left (SF.rf (M := M_23) (Fq.gL (((hJ7.2.tr hT_14.2).tr hT_22.2).tr hT_24.2) hg))) i 4 (show i < 10 by omega) (by decide)) zk_32_0 (zc_32_0 E _) rfl rfl gw_354 (by decide) rfl rfl (Nat.le_of_ble_eq_true rfl) dX11_tellMusicians_83 (zk_i ?_)
            refine z_top (y := (nI k11)) e11 ?_
            refine z_callV X (pc := 86) (rest := []) kv_X11_writeBehind (c_X11_writeBehind E M_23 _ rfl (((((musLs g i) ++ [32]) ++ digs k34) ++ [36]) ++ digs k10) hT_24L 33 k11 (by omega) (by omega) (by simp only [List.length_append, List.length_cons, List.length_nil, List.length_replicate, List.nil_append]; omega)) zk_32_0 (zc_32_0 E _) rfl rfl gw_1031 (by decide) rfl rfl (Nat.le_of_ble_eq_true rfl) dX11_tellMusicians_86 (zk_rv (fun M_25 hT_26 => ?_))
            have hT_26L : LM M_25 (((((((musLs g i) ++ [32]) ++ digs k34) ++ [36]) ++ digs k10) ++ [33]) ++ digs k11) := hT_26.1
            refine z_iinc X (pc := 89) (v := (nI (i + 1))) (lv1 := [(1, .int (nI (i + 1))), (0, .ref (za E 32 0))]) 0 dX11_tellMusicians_89 rfl (nI_1 _) (by decide) rfl ?_
            refine z_goto X (pc := 92) (tgt := 7) dX11_tellMusicians_92 (by decide) ?_
            refine z_sub (lv' := [(1, .int (nI (i + 1))), (0, .ref (za E 32 0))]) [0, 1] rfl ?_
            exact ih7 M_25 (by omega) ⟨by simpa [musLs, musL, sits, e10, e11, nI_clamp (show k10 < 2 ^ 31 by omega), nI_clamp (show k11 < 2 ^ 31 by omega), hp34, nI_ne_m1 (show k34 < 2 ^ 31 by omega), nI_clamp (show k34 < 2 ^ 31 by omega), show 0 < i by omega, show 0 < nI k11 from nI_lt (a := 0) (by omega) (by omega)] using hT_26L, ((((hJ7.2.tr hT_14.2).tr hT_22.2).tr hT_24.2).tr hT_26.2)⟩
        · exact absurd (nI_pos' (by omega)) c34

def rm_X11_undo : Room := { frames := 1, cells := 0, slots := 0, locals := 22 }
theorem kv_X11_undo : KV yX11_undo RX11 cX11_undo 1 (some .int) 0 := ⟨⟨gw_1138, gw_1139, gw_5, gw_1140⟩, by decide +kernel⟩
set_option maxRecDepth 100000 in
set_option maxHeartbeats 4000000 in
theorem c_X11_undo (E : ZE) (M : Mem) (g : LG) (hg : gF (M 20 0) = g) (hs : List LG) (hH : HM M hs) : Mt E yX11_undo cX11_undo 1 (some .int) rm_X11_undo [.ref (za E 32 0)] M (RI (fun v M1 => v = (aUndo g hs).1 ∧ gF (M1 20 0) = (aUndo g hs).2.1 ∧ HM M1 (aUndo g hs).2.2 ∧ Fq tU M M1)) := by
  have hl8 := hH.2.1
  refine z_met (own := RX11) (lv := [(0, .ref (za E 32 0))]) (by decide) rfl (Nat.le_of_ble_eq_true rfl) rfl (fun gg X Y => ?_)
  refine z_aload_n X (pc := 0) 0 dX11_undo_0 rfl rfl ?_
  refine z_get X (pc := 1) 8 zk_32_0 (zc_32_0 E _) rfl inlX11 (by decide) gw_257 rfl rfl dX11_undo_1 ?_
  refine z_top (y := (nI (List.length hs))) hH.1 ?_
  refine z_nif_ne X (pc := 4) (tgt := 11) dX11_undo_4 (by decide) (by omega) (fun c4 => ?_) (fun c4 => ?_)
  · refine z_aload_n X (pc := 11) 0 dX11_undo_11 rfl rfl ?_
    refine z_dup X (pc := 12) dX11_undo_12 rfl ?_
    refine z_get X (pc := 13) 8 zk_32_0 (zc_32_0 E _) rfl inlX11 (by decide) gw_257 rfl rfl dX11_undo_13 ?_
    refine z_top (y := (nI (List.length hs))) hH.1 ?_
    refine z_iconst X (pc := 16) (v := 1) dX11_undo_16 (by decide) ?_
    refine z_isub X (pc := 17) dX11_undo_17 ?_
    refine z_top (y := (nI (List.length hs - 1))) (nI_sub (b := 1) (by omega)) ?_
    refine z_put X (pc := 18) 8 zk_32_0 (zc_32_0 E _) rfl inlX11 tyX11 tyX11_ok nmX11 (by decide) gw_257 rfl rfl (ty := .int) (by decide +kernel) rfl rfl (Nat.le_of_ble_eq_true rfl) dX11_undo_18 rfl ?_
    refine z_aload_n X (pc := 21) 0 dX11_undo_21 rfl rfl ?_
    refine z_get X (pc := 22) 4 zk_32_0 (zc_32_0 E _) rfl inlX11 (by decide) gw_143 rfl rfl dX11_undo_22 ?_
    refine z_aload_n X (pc := 25) 0 dX11_undo_25 rfl rfl ?_
    refine z_get X (pc := 26) 8 zk_32_0 (zc_32_0 E _) rfl inlX11 (by decide) gw_257 rfl rfl dX11_undo_26 ?_
    refine z_top (y := (nI (List.length hs - 1))) up3_same ?_
    refine z_hald X (pc := 29) (j := List.length hs - 1) rfl (by omega) dX11_undo_29 ?_
    refine z_aload_n X (pc := 30) 0 dX11_undo_30 rfl rfl ?_
    refine z_get X (pc := 31) 0 zk_32_0 (zc_32_0 E _) rfl inlX11 (by decide) gw_138 rfl rfl dX11_undo_31 ?_
    refine z_callS X (pc := 34) (rest := []) ks_X11_copyRow (c_X11_copyRow E (up3 M 32 0 8 (nI (List.length hs - 1))) (24 + (List.length hs - 1)) 20 (by omega) (by omega) (by omega)) gw_258 (by decide) rfl rfl (Nat.le_of_ble_eq_true rfl) dX11_undo_34 (zk_rv (fun M_1 h_2 => ?_))
    refine z_aload_n X (pc := 37) 0 dX11_undo_37 rfl rfl ?_
    refine z_get X (pc := 38) 8 zk_32_0 (zc_32_0 E _) rfl inlX11 (by decide) gw_257 rfl rfl dX11_undo_38 ?_
    refine z_top (y := (nI (List.length hs - 1))) (by rw [h_2.2 32 (by decide)]; exact up3_same) ?_
    exact z_iret X Y dX11_undo_41 ⟨_, rfl, HM.undo hH c4 h_2⟩
  · refine z_sipush X (pc := 7) (v := (-1015)) dX11_undo_7 (by decide) ?_
    exact z_iret X Y dX11_undo_10 ⟨_, rfl, HM.undo0 hg hH c4⟩

def rm_X11_save : Room := { frames := 1, cells := 0, slots := 0, locals := 22 }
theorem kv_X11_save : KV yX11_save RX11 cX11_save 1 (some .int) 0 := ⟨⟨gw_1148, gw_1149, gw_5, gw_1150⟩, by decide +kernel⟩
set_option maxRecDepth 100000 in
set_option maxHeartbeats 4000000 in
theorem c_X11_save (E : ZE) (M : Mem) (g : LG) (hg : gF (M 20 0) = g)  : Mt E yX11_save cX11_save 1 (some .int) rm_X11_save [.ref (za E 32 0)] M (RI (fun v M1 => v = g 14 7 ∧ gF (M1 21 0) = g ∧ M1 32 0 10 = 1 ∧ Fq tS M M1)) := by
  refine z_met (own := RX11) (lv := [(0, .ref (za E 32 0))]) (by decide) rfl (Nat.le_of_ble_eq_true rfl) rfl (fun gg X Y => ?_)
  refine z_aload_n X (pc := 0) 0 dX11_save_0 rfl rfl ?_
  refine z_iconst X (pc := 1) (v := 1) dX11_save_1 (by decide) ?_
  refine z_put X (pc := 2) 10 zk_32_0 (zc_32_0 E _) rfl inlX11 tyX11 tyX11_ok nmX11 (by decide) gw_1151 rfl rfl (ty := .boolean) (by decide +kernel) (by decide) rfl (Nat.le_of_ble_eq_true rfl) dX11_save_2 rfl ?_
  refine z_aload_n X (pc := 5) 0 dX11_save_5 rfl rfl ?_
  refine z_get X (pc := 6) 0 zk_32_0 (zc_32_0 E _) rfl inlX11 (by decide) gw_138 rfl rfl dX11_save_6 ?_
  refine z_aload_n X (pc := 9) 0 dX11_save_9 rfl rfl ?_
  refine z_get X (pc := 10) 1 zk_32_0 (zc_32_0 E _) rfl inlX11 (by decide) gw_139 rfl rfl dX11_save_10 ?_
  refine z_callS X (pc := 13) (rest := []) ks_X11_copyRow (c_X11_copyRow E (up3 M 32 0 10 1) 20 21 (by omega) (by omega) (by omega)) gw_258 (by decide) rfl rfl (Nat.le_of_ble_eq_true rfl) dX11_save_13 (zk_rv (fun M_1 h_2 => ?_))
  refine z_aload_n X (pc := 16) 0 dX11_save_16 rfl rfl ?_
  refine z_get X (pc := 17) 0 zk_32_0 (zc_32_0 E _) rfl inlX11 (by decide) gw_138 rfl rfl dX11_save_17 ?_
  refine z_bipush X (pc := 20) (v := 7) dX11_save_20 (by decide) ?_
  refine z_iald X (pc := 22) (by decide) (show (7 : Int32) = nI 7 from rfl) (by decide) dX11_save_22 ?_
  refine z_top (y := (g 14 7)) (SF.bk (SF.rf (M := M_1) (g := g) (by rw [h_2.2 20 (by decide), up3_off (by decide)]; exact hg)) (by decide)) ?_
  exact z_iret X Y dX11_save_23 ⟨_, rfl, rfl, by rw [h_2.1, up3_off (by decide)]; exact hg, by rw [h_2.2 32 (by decide)]; exact up3_same, fun b r k q => by rw [h_2.2 b (fun e => q (Or.inl e)), up3_ne (fun e => q (Or.inr e))]⟩

def rm_X11_restore : Room := { frames := 1, cells := 0, slots := 0, locals := 22 }
theorem kv_X11_restore : KV yX11_restore RX11 cX11_restore 1 (some .int) 0 := ⟨⟨gw_1161, gw_1162, gw_5, gw_1163⟩, by decide +kernel⟩
set_option maxRecDepth 100000 in
set_option maxHeartbeats 4000000 in
theorem c_X11_restore_no (E : ZE) (M : Mem) (h0 : M 32 0 10 = 0) : Mt E yX11_restore cX11_restore 1 (some .int) rm_X11_restore [.ref (za E 32 0)] M (PI (-1015) M) := by
  refine z_met (own := RX11) (lv := [(0, .ref (za E 32 0))]) (by decide) rfl (Nat.le_of_ble_eq_true rfl) rfl (fun gg X Y => ?_)
  refine z_aload_n X (pc := 0) 0 dX11_restore_0 rfl rfl ?_
  refine z_get X (pc := 1) 10 zk_32_0 (zc_32_0 E _) rfl inlX11 (by decide) gw_1151 rfl rfl dX11_restore_1 ?_
  refine z_top (y := 0) h0 ?_
  refine z_if_ne X (pc := 4) (tgt := 11) dX11_restore_4 (by decide) (fun c4 => ?_) (fun c4 => ?_)
  · exact absurd c4 (by decide)
  · refine z_sipush X (pc := 7) (v := (-1015)) dX11_restore_7 (by decide) ?_
    exact z_pret X Y dX11_restore_10 rfl rfl
set_option maxRecDepth 100000 in
set_option maxHeartbeats 4000000 in
theorem c_X11_restore (E : ZE) (M : Mem) (sv : LG) (hsv : gF (M 21 0) = sv) (h0 : M 32 0 10 = 1) : Mt E yX11_restore cX11_restore 1 (some .int) rm_X11_restore [.ref (za E 32 0)] M (RI (fun v M1 => v = sv 14 7 ∧ gF (M1 20 0) = sv ∧ HM M1 [] ∧ Fq tU M M1)) := by
  refine z_met (own := RX11) (lv := [(0, .ref (za E 32 0))]) (by decide) rfl (Nat.le_of_ble_eq_true rfl) rfl (fun gg X Y => ?_)
  refine z_aload_n X (pc := 0) 0 dX11_restore_0 rfl rfl ?_
  refine z_get X (pc := 1) 10 zk_32_0 (zc_32_0 E _) rfl inlX11 (by decide) gw_1151 rfl rfl dX11_restore_1 ?_
  refine z_top (y := 1) h0 ?_
  refine z_if_ne X (pc := 4) (tgt := 11) dX11_restore_4 (by decide) (fun c4 => ?_) (fun c4 => ?_)
  · refine z_aload_n X (pc := 11) 0 dX11_restore_11 rfl rfl ?_
    refine z_get X (pc := 12) 1 zk_32_0 (zc_32_0 E _) rfl inlX11 (by decide) gw_139 rfl rfl dX11_restore_12 ?_
    refine z_aload_n X (pc := 15) 0 dX11_restore_15 rfl rfl ?_
    refine z_get X (pc := 16) 0 zk_32_0 (zc_32_0 E _) rfl inlX11 (by decide) gw_138 rfl rfl dX11_restore_16 ?_
    refine z_callS X (pc := 19) (rest := []) ks_X11_copyRow (c_X11_copyRow E M 21 20 (by omega) (by omega) (by omega)) gw_258 (by decide) rfl rfl (Nat.le_of_ble_eq_true rfl) dX11_restore_19 (zk_rv (fun M_1 h_2 => ?_))
    refine z_aload_n X (pc := 22) 0 dX11_restore_22 rfl rfl ?_
    refine z_iconst X (pc := 23) (v := 0) dX11_restore_23 (by decide) ?_
    refine z_put X (pc := 24) 8 zk_32_0 (zc_32_0 E _) rfl inlX11 tyX11 tyX11_ok nmX11 (by decide) gw_257 rfl rfl (ty := .int) (by decide +kernel) rfl rfl (Nat.le_of_ble_eq_true rfl) dX11_restore_24 rfl ?_
    refine z_aload_n X (pc := 27) 0 dX11_restore_27 rfl rfl ?_
    refine z_get X (pc := 28) 0 zk_32_0 (zc_32_0 E _) rfl inlX11 (by decide) gw_138 rfl rfl dX11_restore_28 ?_
    refine z_bipush X (pc := 31) (v := 7) dX11_restore_31 (by decide) ?_
    refine z_iald X (pc := 33) (by decide) (show (7 : Int32) = nI 7 from rfl) (by decide) dX11_restore_33 ?_
    refine z_top (y := (sv 14 7)) (SF.bk (SF.rf (M := (up3 M_1 32 0 8 0)) (g := sv) (by rw [up3_off (by decide), h_2.1]; exact hsv)) (by decide)) ?_
    exact z_iret X Y dX11_restore_34 ⟨_, rfl, rfl, And.left (SF.rf (M := (up3 M_1 32 0 8 0)) (g := sv) (by rw [up3_off (by decide), h_2.1]; exact hsv)), HM.nil up3_same, fun b r k q => by rw [up3_ne (fun e => q (Or.inr e)), h_2.2 b (fun e => q (Or.inl e))]⟩
  · exact absurd c4 (by decide)
