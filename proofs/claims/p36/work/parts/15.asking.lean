theorem nOr.le {x : Int32} {a b : Nat} (h : nOr x a) (hb : a ≤ b) : nOr x b := h.imp id (fun ⟨k, hk, e⟩ => ⟨k, by omega, e⟩)
theorem bestC_no {g a : LG} {nc m n : Nat} (hv : nOr (a 3 m) nc) (hn : n ≤ nc) : nOr (bestC g a m n) nc := by
  induction n with
  | zero => exact hv
  | succ n ih =>
    unfold bestC
    split
    · exact Or.inr ⟨n, by omega, rfl⟩
    · exact ih (by omega)
theorem bestC_m1 {g a : LG} {nc nm m : Nat} (hF : Fb g nc nm) (hv : nOr (a 3 m) nc) (h : bestC g a m nc = -1) : bestC g a m nc = a 3 m := by
  have hn := hF.1
  rcases bestC_spec hF hv (Nat.le_refl nc) with q | ⟨c, hc, q, -⟩
  · rw [q.1, q.2.1]
  · rw [q] at h; exact absurd h (nI_ne_m1 (by omega))
theorem TI_aoA {g : LG} {nc nm : Nat} {a : LG} {A : Rl} (h : TI g nc nm a A) (hk : (aoA g nm a nc).2 = false) : TI g nc nm (aoA g nm a nc).1 A := by
  have e2 : (aoA g nm a nc).1 2 = a 2 := funext fun k => aoA_hi.1 k
  have e3 : (aoA g nm a nc).1 3 = a 3 := funext fun k => aoA_hi.2.1 k
  refine ⟨h.un, by rw [e3]; exact h.pl, by rw [e2, e3]; exact h.ef, fun c hc i hi => ?_⟩
  rw [aoA_spec.2.1 c hc, aoA_no hk c hc]
  exact h.lf c hc i hi
def rm_X0_sitterOf : Room := { frames := 1, cells := 0, slots := 0, locals := 21 }
theorem kv_X0_sitterOf : KV yX0_sitterOf RX0 cX0_sitterOf 2 (some .int) 1 := ⟨⟨gw_317, gw_318, gw_21, gw_319⟩, by decide +kernel⟩
set_option maxRecDepth 100000 in
set_option maxHeartbeats 4000000 in
theorem c_X0_sitterOf_11 (E : ZE) (M : Mem) (a : LG) (hA : SA 11 M a M) (c : Nat) (hc : c < 10) : Mt E yX0_sitterOf cX0_sitterOf 2 (some .int) rm_X0_sitterOf [.ref (za E 11 0), .int (nI c)] M (PI (a 2 c) M) := by
  refine z_met (own := RX0) (lv := [(0, .ref (za E 11 0)), (1, .int (nI c))]) (by decide) rfl (Nat.le_of_ble_eq_true rfl) rfl (fun gg X Y => ?_)
  refine z_aload_n X (pc := 0) 0 dX0_sitterOf_0 rfl rfl ?_
  refine z_get X (pc := 1) 2 zk_11_0 (zc_11_0 E _) rfl inlX0 (by decide) gw_102 rfl rfl dX0_sitterOf_1 ?_
  refine z_iload_n X (pc := 4) 1 dX0_sitterOf_4 rfl rfl ?_
  refine z_callV X (pc := 5) (rest := []) kv_X7_at (c_X7_at E M 11 8 c (by decide) (by decide) (show c < 10 by omega)) zk_11_8 (zc_11_8 E _) rfl rfl gw_292 (by decide) rfl rfl (Nat.le_of_ble_eq_true rfl) dX0_sitterOf_5 (zk_i ?_)
  refine z_top (y := (a 2 c)) (SA.row 2 hA rfl (by decide) (show c < 10 by omega)) ?_
  exact z_pret X Y dX0_sitterOf_8 rfl rfl
set_option maxRecDepth 100000 in
set_option maxHeartbeats 4000000 in
theorem c_X0_sitterOf_12 (E : ZE) (M : Mem) (a : LG) (hA : SA 12 M a M) (c : Nat) (hc : c < 10) : Mt E yX0_sitterOf cX0_sitterOf 2 (some .int) rm_X0_sitterOf [.ref (za E 12 0), .int (nI c)] M (PI (a 2 c) M) := by
  refine z_met (own := RX0) (lv := [(0, .ref (za E 12 0)), (1, .int (nI c))]) (by decide) rfl (Nat.le_of_ble_eq_true rfl) rfl (fun gg X Y => ?_)
  refine z_aload_n X (pc := 0) 0 dX0_sitterOf_0 rfl rfl ?_
  refine z_get X (pc := 1) 2 zk_12_0 (zc_12_0 E _) rfl inlX0 (by decide) gw_102 rfl rfl dX0_sitterOf_1 ?_
  refine z_iload_n X (pc := 4) 1 dX0_sitterOf_4 rfl rfl ?_
  refine z_callV X (pc := 5) (rest := []) kv_X7_at (c_X7_at E M 12 8 c (by decide) (by decide) (show c < 10 by omega)) zk_12_8 (zc_12_8 E _) rfl rfl gw_292 (by decide) rfl rfl (Nat.le_of_ble_eq_true rfl) dX0_sitterOf_5 (zk_i ?_)
  refine z_top (y := (a 2 c)) (SA.row 2 hA rfl (by decide) (show c < 10 by omega)) ?_
  exact z_pret X Y dX0_sitterOf_8 rfl rfl

def rm_X0_canAsk : Room := { frames := 1, cells := 0, slots := 0, locals := 21 }
theorem kv_X0_canAsk : KV yX0_canAsk RX0 cX0_canAsk 2 (some .boolean) 1 := ⟨⟨gw_289, gw_290, gw_21, gw_291⟩, by decide +kernel⟩
set_option maxRecDepth 100000 in
set_option maxHeartbeats 4000000 in
theorem c_X0_canAsk_11 (E : ZE) (M : Mem) (a : LG) (hA : SA 11 M a M) (c : Nat) (hc : c < 10) : Mt E yX0_canAsk cX0_canAsk 2 (some .boolean) rm_X0_canAsk [.ref (za E 11 0), .int (nI c)] M (PI (zb (canAskB a c)) M) := by
  refine z_met (own := RX0) (lv := [(0, .ref (za E 11 0)), (1, .int (nI c))]) (by decide) rfl (Nat.le_of_ble_eq_true rfl) rfl (fun gg X Y => ?_)
  refine z_aload_n X (pc := 0) 0 dX0_canAsk_0 rfl rfl ?_
  refine z_get X (pc := 1) 2 zk_11_0 (zc_11_0 E _) rfl inlX0 (by decide) gw_102 rfl rfl dX0_canAsk_1 ?_
  refine z_iload_n X (pc := 4) 1 dX0_canAsk_4 rfl rfl ?_
  refine z_callV X (pc := 5) (rest := []) kv_X7_at (c_X7_at E M 11 8 c (by decide) (by decide) (show c < 10 by omega)) zk_11_8 (zc_11_8 E _) rfl rfl gw_292 (by decide) rfl rfl (Nat.le_of_ble_eq_true rfl) dX0_canAsk_5 (zk_i ?_)
  refine z_top (y := (a 2 c)) (SA.row 2 hA rfl (by decide) (show c < 10 by omega)) ?_
  refine z_iconst X (pc := 8) (v := (-1)) dX0_canAsk_8 (by decide) ?_
  refine z_icmp_ne X (pc := 9) (tgt := 27) dX0_canAsk_9 (by decide) (fun c9 => ?_) (fun c9 => ?_)
  · refine z_iconst X (pc := 27) (v := 0) dX0_canAsk_27 (by decide) ?_
    exact z_bret X Y dX0_canAsk_28 (by simp [canAskB, zb, c9]) rfl
  · refine z_aload_n X (pc := 12) 0 dX0_canAsk_12 rfl rfl ?_
    refine z_get X (pc := 13) 0 zk_11_0 (zc_11_0 E _) rfl inlX0 (by decide) gw_100 rfl rfl dX0_canAsk_13 ?_
    refine z_iload_n X (pc := 16) 1 dX0_canAsk_16 rfl rfl ?_
    refine z_callV X (pc := 17) (rest := []) kv_X7_at (c_X7_at E M 11 4 c (by decide) (by decide) (show c < 10 by omega)) zk_11_4 (zc_11_4 E _) rfl rfl gw_292 (by decide) rfl rfl (Nat.le_of_ble_eq_true rfl) dX0_canAsk_17 (zk_i ?_)
    refine z_top (y := (a 0 c)) (SA.row 0 hA rfl (by decide) (show c < 10 by omega)) ?_
    refine z_if_eq X (pc := 20) (tgt := 27) dX0_canAsk_20 (by decide) (fun c20 => ?_) (fun c20 => ?_)
    · refine z_iconst X (pc := 27) (v := 0) dX0_canAsk_27 (by decide) ?_
      exact z_bret X Y dX0_canAsk_28 (by simp [canAskB, zb, c9, c20]) rfl
    · refine z_iconst X (pc := 23) (v := 1) dX0_canAsk_23 (by decide) ?_
      refine z_goto X (pc := 24) (tgt := 28) dX0_canAsk_24 (by decide) ?_
      exact z_bret X Y dX0_canAsk_28 (by simp [canAskB, zb, c9, c20]) rfl
set_option maxRecDepth 100000 in
set_option maxHeartbeats 4000000 in
theorem c_X0_canAsk_12 (E : ZE) (M : Mem) (a : LG) (hA : SA 12 M a M) (c : Nat) (hc : c < 10) : Mt E yX0_canAsk cX0_canAsk 2 (some .boolean) rm_X0_canAsk [.ref (za E 12 0), .int (nI c)] M (PI (zb (canAskB a c)) M) := by
  refine z_met (own := RX0) (lv := [(0, .ref (za E 12 0)), (1, .int (nI c))]) (by decide) rfl (Nat.le_of_ble_eq_true rfl) rfl (fun gg X Y => ?_)
  refine z_aload_n X (pc := 0) 0 dX0_canAsk_0 rfl rfl ?_
  refine z_get X (pc := 1) 2 zk_12_0 (zc_12_0 E _) rfl inlX0 (by decide) gw_102 rfl rfl dX0_canAsk_1 ?_
  refine z_iload_n X (pc := 4) 1 dX0_canAsk_4 rfl rfl ?_
  refine z_callV X (pc := 5) (rest := []) kv_X7_at (c_X7_at E M 12 8 c (by decide) (by decide) (show c < 10 by omega)) zk_12_8 (zc_12_8 E _) rfl rfl gw_292 (by decide) rfl rfl (Nat.le_of_ble_eq_true rfl) dX0_canAsk_5 (zk_i ?_)
  refine z_top (y := (a 2 c)) (SA.row 2 hA rfl (by decide) (show c < 10 by omega)) ?_
  refine z_iconst X (pc := 8) (v := (-1)) dX0_canAsk_8 (by decide) ?_
  refine z_icmp_ne X (pc := 9) (tgt := 27) dX0_canAsk_9 (by decide) (fun c9 => ?_) (fun c9 => ?_)
  · refine z_iconst X (pc := 27) (v := 0) dX0_canAsk_27 (by decide) ?_
    exact z_bret X Y dX0_canAsk_28 (by simp [canAskB, zb, c9]) rfl
  · refine z_aload_n X (pc := 12) 0 dX0_canAsk_12 rfl rfl ?_
    refine z_get X (pc := 13) 0 zk_12_0 (zc_12_0 E _) rfl inlX0 (by decide) gw_100 rfl rfl dX0_canAsk_13 ?_
    refine z_iload_n X (pc := 16) 1 dX0_canAsk_16 rfl rfl ?_
    refine z_callV X (pc := 17) (rest := []) kv_X7_at (c_X7_at E M 12 4 c (by decide) (by decide) (show c < 10 by omega)) zk_12_4 (zc_12_4 E _) rfl rfl gw_292 (by decide) rfl rfl (Nat.le_of_ble_eq_true rfl) dX0_canAsk_17 (zk_i ?_)
    refine z_top (y := (a 0 c)) (SA.row 0 hA rfl (by decide) (show c < 10 by omega)) ?_
    refine z_if_eq X (pc := 20) (tgt := 27) dX0_canAsk_20 (by decide) (fun c20 => ?_) (fun c20 => ?_)
    · refine z_iconst X (pc := 27) (v := 0) dX0_canAsk_27 (by decide) ?_
      exact z_bret X Y dX0_canAsk_28 (by simp [canAskB, zb, c9, c20]) rfl
    · refine z_iconst X (pc := 23) (v := 1) dX0_canAsk_23 (by decide) ?_
      refine z_goto X (pc := 24) (tgt := 28) dX0_canAsk_24 (by decide) ?_
      exact z_bret X Y dX0_canAsk_28 (by simp [canAskB, zb, c9, c20]) rfl

def rm_X0_begin : Room := { frames := 2, cells := 0, slots := 0, locals := 45 }
theorem kv_X0_begin : KV yX0_begin RX0 cX0_begin 5 none 1 := ⟨⟨gw_261, gw_262, gw_21, gw_263⟩, by decide +kernel⟩
set_option maxRecDepth 100000 in
set_option maxHeartbeats 4000000 in
theorem c_X0_begin_11 (E : ZE) (M : Mem) (g : LG) (hg : gX (M 9) = g) (nc nm : Nat) (hnc : g 14 7 = nI nc) (hnm : g 14 8 = nI nm) (hn : nc ≤ 10) (hn2 : nm ≤ 10) : Mt E yX0_begin cX0_begin 5 none rm_X0_begin [.ref (za E 11 0), .ref (za E 9 0)] M (RV (fun M1 => SA 11 M (plA (begA g nm (aOf M 11) nc) nm) M1)) := by
  refine z_met (own := RX0) (lv := [(0, .ref (za E 11 0)), (1, .ref (za E 9 0))]) (by decide) rfl (Nat.le_of_ble_eq_true rfl) rfl (fun gg X Y => ?_)
  refine z_iconst X (pc := 0) (v := 0) dX0_begin_0 (by decide) ?_
  refine z_istore_n X (pc := 1) (lv1 := [(2, .int 0), (0, .ref (za E 11 0)), (1, .ref (za E 9 0))]) dX0_begin_1 rfl (by decide) rfl ?_
  refine z_sub (lv' := [(2, .int (nI 0)), (0, .ref (za E 11 0)), (1, .ref (za E 9 0))]) [0, 1, 2] rfl ?_
  refine z_loop (nc) 2 (σ := Mem) (fun i s => SA 11 M (begA g nm (aOf M 11) i) s) (fun i s => (s, [(2, .int (nI i)), (0, .ref (za E 11 0)), (1, .ref (za E 9 0))])) ?_ 0 M (Nat.zero_le _) SA.rf
  intro i s hi2 hJ2 ih2
  obtain ⟨M1, rfl⟩ : ∃ z, z = s := ⟨s, rfl⟩
  show Z gg E M1 [(2, .int (nI i)), (0, .ref (za E 11 0)), (1, .ref (za E 9 0))] 2 []
  replace hJ2 : SA 11 M (begA g nm (aOf M 11) i) M1 := hJ2
  refine z_iload_n X (pc := 2) 0 dX0_begin_2 rfl rfl ?_
  refine z_aload_n X (pc := 3) 2 dX0_begin_3 rfl rfl ?_
  refine z_get X (pc := 4) 0 zk_9_0 (zc_9_0 E _) rfl inlX9 (by decide) gw_259 rfl rfl dX0_begin_4 ?_
  refine z_get X (pc := 7) 0 zk_9_1 (zc_9_1 E _) rfl inlX2 (by decide) gw_264 rfl rfl dX0_begin_7 ?_
  refine z_top (y := (nI nc)) ((S9.cc (S9.rf (SA.g9 hJ2 (by decide) hg))).trans hnc) ?_
  refine z_nicmp_ge X (pc := 10) (a := i) (b := nc) (tgt := 94) dX0_begin_10 (by decide) (by omega) (by omega) (fun c10 => ?_) (fun c10 => ?_)
  · refine z_iconst X (pc := 94) (v := 0) dX0_begin_94 (by decide) ?_
    refine z_istore_n X (pc := 95) (lv1 := [(2, .int 0), (0, .ref (za E 11 0)), (1, .ref (za E 9 0))]) dX0_begin_95 rfl (by decide) rfl ?_
    refine z_sub (lv' := [(2, .int (nI 0)), (0, .ref (za E 11 0)), (1, .ref (za E 9 0))]) [0, 1, 2] rfl ?_
    refine z_loop (nm) 96 (σ := Mem) (fun k s => SA 11 M (plA (begA g nm (aOf M 11) nc) k) s) (fun k s => (s, [(2, .int (nI k)), (0, .ref (za E 11 0)), (1, .ref (za E 9 0))])) ?_ 0 M1 (Nat.zero_le _) (by rw [show nc = i by omega]; exact hJ2)
    intro k s hi96 hJ96 ih96
    obtain ⟨M2, rfl⟩ : ∃ z, z = s := ⟨s, rfl⟩
    show Z gg E M2 [(2, .int (nI k)), (0, .ref (za E 11 0)), (1, .ref (za E 9 0))] 96 []
    replace hJ96 : SA 11 M (plA (begA g nm (aOf M 11) nc) k) M2 := hJ96
    refine z_iload_n X (pc := 96) 0 dX0_begin_96 rfl rfl ?_
    refine z_aload_n X (pc := 97) 2 dX0_begin_97 rfl rfl ?_
    refine z_get X (pc := 98) 1 zk_9_0 (zc_9_0 E _) rfl inlX9 (by decide) gw_265 rfl rfl dX0_begin_98 ?_
    refine z_get X (pc := 101) 0 zk_9_2 (zc_9_2 E _) rfl inlX4 (by decide) gw_266 rfl rfl dX0_begin_101 ?_
    refine z_top (y := (nI nm)) ((S9.cm (S9.rf (SA.g9 hJ96 (by decide) hg))).trans hnm) ?_
    refine z_nicmp_ge X (pc := 104) (a := k) (b := nm) (tgt := 122) dX0_begin_104 (by decide) (by omega) (by omega) (fun c104 => ?_) (fun c104 => ?_)
    · exact z_vret X Y dX0_begin_122 ⟨rfl, by obtain rfl : nm = k := (by omega); exact hJ96⟩
    · refine z_aload_n X (pc := 107) 1 dX0_begin_107 rfl rfl ?_
      refine z_get X (pc := 108) 3 zk_11_0 (zc_11_0 E _) rfl inlX0 (by decide) gw_103 rfl rfl dX0_begin_108 ?_
      refine z_iload_n X (pc := 111) 0 dX0_begin_111 rfl rfl ?_
      refine z_iconst X (pc := 112) (v := (-1)) dX0_begin_112 (by decide) ?_
      refine z_callV X (pc := 113) (rest := []) kv_X7_put (c_X7_put E M2 11 10 k ((-1)) (by decide) (by decide) (show k < 10 by omega)) zk_11_10 (zc_11_10 E _) rfl rfl gw_283 (by decide) rfl rfl (Nat.le_of_ble_eq_true rfl) dX0_begin_113 (zk_v ?_)
      refine z_gen (SA.put 3 hJ96 rfl (by decide) (show k < 10 by omega)) (fun M_1 hA_2 => ?_)
      refine z_iinc X (pc := 116) (v := (nI (k + 1))) (lv1 := [(2, .int (nI (k + 1))), (0, .ref (za E 11 0)), (1, .ref (za E 9 0))]) 0 dX0_begin_116 rfl (nI_1 _) (by decide) rfl ?_
      refine z_goto X (pc := 119) (tgt := 96) dX0_begin_119 (by decide) ?_
      refine z_sub (lv' := [(2, .int (nI (k + 1))), (0, .ref (za E 11 0)), (1, .ref (za E 9 0))]) [0, 1, 2] rfl ?_
      exact ih96 M_1 (by omega) hA_2
  · refine z_iconst X (pc := 13) (v := 0) dX0_begin_13 (by decide) ?_
    refine z_istore_n X (pc := 14) (lv1 := [(3, .int 0), (2, .int (nI i)), (0, .ref (za E 11 0)), (1, .ref (za E 9 0))]) dX0_begin_14 rfl (by decide) rfl ?_
    refine z_iconst X (pc := 15) (v := 0) dX0_begin_15 (by decide) ?_
    refine z_istore X (pc := 16) (lv1 := [(4, .int 0), (3, .int 0), (2, .int (nI i)), (0, .ref (za E 11 0)), (1, .ref (za E 9 0))]) dX0_begin_16 (by decide) rfl ?_
    refine z_sub (lv' := [(4, .int (nI 0)), (3, .int (wset g i 0)), (2, .int (nI i)), (0, .ref (za E 11 0)), (1, .ref (za E 9 0))]) [0, 1, 2, 3, 4] rfl ?_
    refine z_loop (nm) 18 (σ := Unit) (fun j s => True) (fun j s => (M1, [(4, .int (nI j)), (3, .int (wset g i j)), (2, .int (nI i)), (0, .ref (za E 11 0)), (1, .ref (za E 9 0))])) ?_ 0 () (Nat.zero_le _) trivial
    intro j s hi18 hJ18 ih18
    show Z gg E M1 [(4, .int (nI j)), (3, .int (wset g i j)), (2, .int (nI i)), (0, .ref (za E 11 0)), (1, .ref (za E 9 0))] 18 []
    refine z_iload X (pc := 18) 0 dX0_begin_18 rfl ?_
    refine z_aload_n X (pc := 20) 4 dX0_begin_20 rfl rfl ?_
    refine z_get X (pc := 21) 1 zk_9_0 (zc_9_0 E _) rfl inlX9 (by decide) gw_265 rfl rfl dX0_begin_21 ?_
    refine z_get X (pc := 24) 0 zk_9_2 (zc_9_2 E _) rfl inlX4 (by decide) gw_266 rfl rfl dX0_begin_24 ?_
    refine z_top (y := (nI nm)) ((S9.cm (S9.rf (SA.g9 hJ2 (by decide) hg))).trans hnm) ?_
    refine z_nicmp_ge X (pc := 27) (a := j) (b := nm) (tgt := 55) dX0_begin_27 (by decide) (by omega) (by omega) (fun c27 => ?_) (fun c27 => ?_)
    · obtain rfl : nm = j := by omega
      refine z_aload_n X (pc := 55) 3 dX0_begin_55 rfl rfl ?_
      refine z_get X (pc := 56) 0 zk_11_0 (zc_11_0 E _) rfl inlX0 (by decide) gw_100 rfl rfl dX0_begin_56 ?_
      refine z_iload_n X (pc := 59) 2 dX0_begin_59 rfl rfl ?_
      refine z_aload_n X (pc := 60) 4 dX0_begin_60 rfl rfl ?_
      refine z_get X (pc := 61) 0 zk_9_0 (zc_9_0 E _) rfl inlX9 (by decide) gw_259 rfl rfl dX0_begin_61 ?_
      refine z_iload_n X (pc := 64) 2 dX0_begin_64 rfl rfl ?_
      refine z_callV X (pc := 65) (rest := [.int (nI i), .ref (za E 11 4)]) kv_X2_isFallen (c_X2_isFallen E M1 g (And.left (S9.rf (SA.g9 hJ2 (by decide) hg)))  i (show i < 10 by omega)) zk_9_1 (zc_9_1 E _) rfl rfl gw_278 (by decide) rfl rfl (Nat.le_of_ble_eq_true rfl) dX0_begin_65 (zk_i ?_)
      refine z_bif_eq X (pc := 68) (tgt := 75) dX0_begin_68 (by decide) (fun c68 => ?_) (fun c68 => ?_)
      · refine z_iload_n X (pc := 75) 1 dX0_begin_75 rfl rfl ?_
        refine z_top (y := (if fell g i = true then 0 else wset g i nm)) (by simp [c68]) ?_
        refine z_callV X (pc := 76) (rest := []) kv_X7_put (c_X7_put E M1 11 4 i (if fell g i = true then 0 else wset g i nm) (by decide) (by decide) (show i < 10 by omega)) zk_11_4 (zc_11_4 E _) rfl rfl gw_283 (by decide) rfl rfl (Nat.le_of_ble_eq_true rfl) dX0_begin_76 (zk_v ?_)
        refine z_gen (SA.put 0 hJ2 rfl (by decide) (show i < 10 by omega)) (fun M_3 hA_4 => ?_)
        refine z_aload_n X (pc := 79) 3 dX0_begin_79 rfl rfl ?_
        refine z_get X (pc := 80) 2 zk_11_0 (zc_11_0 E _) rfl inlX0 (by decide) gw_102 rfl rfl dX0_begin_80 ?_
        refine z_iload_n X (pc := 83) 2 dX0_begin_83 rfl rfl ?_
        refine z_iconst X (pc := 84) (v := (-1)) dX0_begin_84 (by decide) ?_
        refine z_callV X (pc := 85) (rest := []) kv_X7_put (c_X7_put E M_3 11 8 i ((-1)) (by decide) (by decide) (show i < 10 by omega)) zk_11_8 (zc_11_8 E _) rfl rfl gw_283 (by decide) rfl rfl (Nat.le_of_ble_eq_true rfl) dX0_begin_85 (zk_v ?_)
        refine z_gen (SA.put 2 hA_4 rfl (by decide) (show i < 10 by omega)) (fun M_5 hA_6 => ?_)
        refine z_iinc X (pc := 88) (v := (nI (i + 1))) (lv1 := [(2, .int (nI (i + 1))), (4, .int (nI nm)), (3, .int (wset g i nm)), (0, .ref (za E 11 0)), (1, .ref (za E 9 0))]) 2 dX0_begin_88 rfl (nI_1 _) (by decide) rfl ?_
        refine z_goto X (pc := 91) (tgt := 2) dX0_begin_91 (by decide) ?_
        refine z_sub (lv' := [(2, .int (nI (i + 1))), (0, .ref (za E 11 0)), (1, .ref (za E 9 0))]) [0, 3, 4] rfl ?_
        exact ih2 M_5 (by omega) hA_6
      · refine z_iconst X (pc := 71) (v := 0) dX0_begin_71 (by decide) ?_
        refine z_goto X (pc := 72) (tgt := 76) dX0_begin_72 (by decide) ?_
        refine z_top (y := (if fell g i = true then 0 else wset g i nm)) (by simp [c68]) ?_
        refine z_callV X (pc := 76) (rest := []) kv_X7_put (c_X7_put E M1 11 4 i (if fell g i = true then 0 else wset g i nm) (by decide) (by decide) (show i < 10 by omega)) zk_11_4 (zc_11_4 E _) rfl rfl gw_283 (by decide) rfl rfl (Nat.le_of_ble_eq_true rfl) dX0_begin_76 (zk_v ?_)
        refine z_gen (SA.put 0 hJ2 rfl (by decide) (show i < 10 by omega)) (fun M_7 hA_8 => ?_)
        refine z_aload_n X (pc := 79) 3 dX0_begin_79 rfl rfl ?_
        refine z_get X (pc := 80) 2 zk_11_0 (zc_11_0 E _) rfl inlX0 (by decide) gw_102 rfl rfl dX0_begin_80 ?_
        refine z_iload_n X (pc := 83) 2 dX0_begin_83 rfl rfl ?_
        refine z_iconst X (pc := 84) (v := (-1)) dX0_begin_84 (by decide) ?_
        refine z_callV X (pc := 85) (rest := []) kv_X7_put (c_X7_put E M_7 11 8 i ((-1)) (by decide) (by decide) (show i < 10 by omega)) zk_11_8 (zc_11_8 E _) rfl rfl gw_283 (by decide) rfl rfl (Nat.le_of_ble_eq_true rfl) dX0_begin_85 (zk_v ?_)
        refine z_gen (SA.put 2 hA_8 rfl (by decide) (show i < 10 by omega)) (fun M_9 hA_10 => ?_)
        refine z_iinc X (pc := 88) (v := (nI (i + 1))) (lv1 := [(2, .int (nI (i + 1))), (4, .int (nI nm)), (3, .int (wset g i nm)), (0, .ref (za E 11 0)), (1, .ref (za E 9 0))]) 2 dX0_begin_88 rfl (nI_1 _) (by decide) rfl ?_
        refine z_goto X (pc := 91) (tgt := 2) dX0_begin_91 (by decide) ?_
        refine z_sub (lv' := [(2, .int (nI (i + 1))), (0, .ref (za E 11 0)), (1, .ref (za E 9 0))]) [0, 3, 4] rfl ?_
        exact ih2 M_9 (by omega) hA_10
    · refine z_aload_n X (pc := 30) 4 dX0_begin_30 rfl rfl ?_
      refine z_iload_n X (pc := 31) 2 dX0_begin_31 rfl rfl ?_
      refine z_iload X (pc := 32) 0 dX0_begin_32 rfl ?_
      refine z_callV X (pc := 34) (rest := []) kv_X9_fitOf (c_X9_fitOf E M1 g (And.left (S9.rf (SA.g9 hJ2 (by decide) hg)))  i j (show i < 10 by omega) (show j < 10 by omega)) zk_9_0 (zc_9_0 E _) rfl rfl gw_267 (by decide) rfl rfl (Nat.le_of_ble_eq_true rfl) dX0_begin_34 (zk_i ?_)
      refine z_bipush X (pc := 37) (v := 6) dX0_begin_37 (by decide) ?_
      refine z_icmp_lt X (pc := 39) (tgt := 49) dX0_begin_39 (by decide) (fun c39 => ?_) (fun c39 => ?_)
      · refine z_iinc X (pc := 49) (v := (nI (j + 1))) (lv1 := [(4, .int (nI (j + 1))), (3, .int (wset g i j)), (2, .int (nI i)), (0, .ref (za E 11 0)), (1, .ref (za E 9 0))]) 0 dX0_begin_49 rfl (nI_1 _) (by decide) rfl ?_
        refine z_goto X (pc := 52) (tgt := 18) dX0_begin_52 (by decide) ?_
        refine z_sub (lv' := [(4, .int (nI (j + 1))), (3, .int (wset g i j)), (2, .int (nI i)), (0, .ref (za E 11 0)), (1, .ref (za E 9 0))]) [0, 1, 2, 3, 4] rfl ?_
        refine z_eq (lv' := [(4, .int (nI (j + 1))), (3, .int (wset g i (j + 1))), (2, .int (nI i)), (0, .ref (za E 11 0)), (1, .ref (za E 9 0))]) (by simp [wset, c10, c27, c39]) rfl ?_
        exact ih18 () (by omega) trivial
      · refine z_iload_n X (pc := 42) 1 dX0_begin_42 rfl rfl ?_
        refine z_iconst X (pc := 43) (v := 1) dX0_begin_43 (by decide) ?_
        refine z_iload X (pc := 44) 0 dX0_begin_44 rfl ?_
        refine z_ishl X (pc := 46) dX0_begin_46 ?_
        refine z_ior X (pc := 47) dX0_begin_47 ?_
        refine z_istore_n X (pc := 48) (lv1 := [(3, .int ((wset g i j) ||| (1 <<< ((nI j) &&& 31)))), (4, .int (nI j)), (2, .int (nI i)), (0, .ref (za E 11 0)), (1, .ref (za E 9 0))]) dX0_begin_48 rfl (by decide) rfl ?_
        refine z_iinc X (pc := 49) (v := (nI (j + 1))) (lv1 := [(4, .int (nI (j + 1))), (3, .int ((wset g i j) ||| (1 <<< ((nI j) &&& 31)))), (2, .int (nI i)), (0, .ref (za E 11 0)), (1, .ref (za E 9 0))]) 1 dX0_begin_49 rfl (nI_1 _) (by decide) rfl ?_
        refine z_goto X (pc := 52) (tgt := 18) dX0_begin_52 (by decide) ?_
        refine z_sub (lv' := [(4, .int (nI (j + 1))), (3, .int ((wset g i j) ||| (1 <<< ((nI j) &&& 31)))), (2, .int (nI i)), (0, .ref (za E 11 0)), (1, .ref (za E 9 0))]) [0, 1, 2, 3, 4] rfl ?_
        refine z_eq (lv' := [(4, .int (nI (j + 1))), (3, .int (wset g i (j + 1))), (2, .int (nI i)), (0, .ref (za E 11 0)), (1, .ref (za E 9 0))]) (by simp [wset, c10, c27, c39]) rfl ?_
        exact ih18 () (by omega) trivial
set_option maxRecDepth 100000 in
set_option maxHeartbeats 4000000 in
theorem c_X0_begin_12 (E : ZE) (M : Mem) (g : LG) (hg : gX (M 9) = g) (nc nm : Nat) (hnc : g 14 7 = nI nc) (hnm : g 14 8 = nI nm) (hn : nc ≤ 10) (hn2 : nm ≤ 10) : Mt E yX0_begin cX0_begin 5 none rm_X0_begin [.ref (za E 12 0), .ref (za E 9 0)] M (RV (fun M1 => SA 12 M (plA (begA g nm (aOf M 12) nc) nm) M1)) := by
  refine z_met (own := RX0) (lv := [(0, .ref (za E 12 0)), (1, .ref (za E 9 0))]) (by decide) rfl (Nat.le_of_ble_eq_true rfl) rfl (fun gg X Y => ?_)
  refine z_iconst X (pc := 0) (v := 0) dX0_begin_0 (by decide) ?_
  refine z_istore_n X (pc := 1) (lv1 := [(2, .int 0), (0, .ref (za E 12 0)), (1, .ref (za E 9 0))]) dX0_begin_1 rfl (by decide) rfl ?_
  refine z_sub (lv' := [(2, .int (nI 0)), (0, .ref (za E 12 0)), (1, .ref (za E 9 0))]) [0, 1, 2] rfl ?_
  refine z_loop (nc) 2 (σ := Mem) (fun i s => SA 12 M (begA g nm (aOf M 12) i) s) (fun i s => (s, [(2, .int (nI i)), (0, .ref (za E 12 0)), (1, .ref (za E 9 0))])) ?_ 0 M (Nat.zero_le _) SA.rf
  intro i s hi2 hJ2 ih2
  obtain ⟨M1, rfl⟩ : ∃ z, z = s := ⟨s, rfl⟩
  show Z gg E M1 [(2, .int (nI i)), (0, .ref (za E 12 0)), (1, .ref (za E 9 0))] 2 []
  replace hJ2 : SA 12 M (begA g nm (aOf M 12) i) M1 := hJ2
  refine z_iload_n X (pc := 2) 0 dX0_begin_2 rfl rfl ?_
  refine z_aload_n X (pc := 3) 2 dX0_begin_3 rfl rfl ?_
  refine z_get X (pc := 4) 0 zk_9_0 (zc_9_0 E _) rfl inlX9 (by decide) gw_259 rfl rfl dX0_begin_4 ?_
  refine z_get X (pc := 7) 0 zk_9_1 (zc_9_1 E _) rfl inlX2 (by decide) gw_264 rfl rfl dX0_begin_7 ?_
  refine z_top (y := (nI nc)) ((S9.cc (S9.rf (SA.g9 hJ2 (by decide) hg))).trans hnc) ?_
  refine z_nicmp_ge X (pc := 10) (a := i) (b := nc) (tgt := 94) dX0_begin_10 (by decide) (by omega) (by omega) (fun c10 => ?_) (fun c10 => ?_)
  · refine z_iconst X (pc := 94) (v := 0) dX0_begin_94 (by decide) ?_
    refine z_istore_n X (pc := 95) (lv1 := [(2, .int 0), (0, .ref (za E 12 0)), (1, .ref (za E 9 0))]) dX0_begin_95 rfl (by decide) rfl ?_
    refine z_sub (lv' := [(2, .int (nI 0)), (0, .ref (za E 12 0)), (1, .ref (za E 9 0))]) [0, 1, 2] rfl ?_
    refine z_loop (nm) 96 (σ := Mem) (fun k s => SA 12 M (plA (begA g nm (aOf M 12) nc) k) s) (fun k s => (s, [(2, .int (nI k)), (0, .ref (za E 12 0)), (1, .ref (za E 9 0))])) ?_ 0 M1 (Nat.zero_le _) (by rw [show nc = i by omega]; exact hJ2)
    intro k s hi96 hJ96 ih96
    obtain ⟨M2, rfl⟩ : ∃ z, z = s := ⟨s, rfl⟩
    show Z gg E M2 [(2, .int (nI k)), (0, .ref (za E 12 0)), (1, .ref (za E 9 0))] 96 []
    replace hJ96 : SA 12 M (plA (begA g nm (aOf M 12) nc) k) M2 := hJ96
    refine z_iload_n X (pc := 96) 0 dX0_begin_96 rfl rfl ?_
    refine z_aload_n X (pc := 97) 2 dX0_begin_97 rfl rfl ?_
    refine z_get X (pc := 98) 1 zk_9_0 (zc_9_0 E _) rfl inlX9 (by decide) gw_265 rfl rfl dX0_begin_98 ?_
    refine z_get X (pc := 101) 0 zk_9_2 (zc_9_2 E _) rfl inlX4 (by decide) gw_266 rfl rfl dX0_begin_101 ?_
    refine z_top (y := (nI nm)) ((S9.cm (S9.rf (SA.g9 hJ96 (by decide) hg))).trans hnm) ?_
    refine z_nicmp_ge X (pc := 104) (a := k) (b := nm) (tgt := 122) dX0_begin_104 (by decide) (by omega) (by omega) (fun c104 => ?_) (fun c104 => ?_)
    · exact z_vret X Y dX0_begin_122 ⟨rfl, by obtain rfl : nm = k := (by omega); exact hJ96⟩
    · refine z_aload_n X (pc := 107) 1 dX0_begin_107 rfl rfl ?_
      refine z_get X (pc := 108) 3 zk_12_0 (zc_12_0 E _) rfl inlX0 (by decide) gw_103 rfl rfl dX0_begin_108 ?_
      refine z_iload_n X (pc := 111) 0 dX0_begin_111 rfl rfl ?_
      refine z_iconst X (pc := 112) (v := (-1)) dX0_begin_112 (by decide) ?_
      refine z_callV X (pc := 113) (rest := []) kv_X7_put (c_X7_put E M2 12 10 k ((-1)) (by decide) (by decide) (show k < 10 by omega)) zk_12_10 (zc_12_10 E _) rfl rfl gw_283 (by decide) rfl rfl (Nat.le_of_ble_eq_true rfl) dX0_begin_113 (zk_v ?_)
      refine z_gen (SA.put 3 hJ96 rfl (by decide) (show k < 10 by omega)) (fun M_1 hA_2 => ?_)
      refine z_iinc X (pc := 116) (v := (nI (k + 1))) (lv1 := [(2, .int (nI (k + 1))), (0, .ref (za E 12 0)), (1, .ref (za E 9 0))]) 0 dX0_begin_116 rfl (nI_1 _) (by decide) rfl ?_
      refine z_goto X (pc := 119) (tgt := 96) dX0_begin_119 (by decide) ?_
      refine z_sub (lv' := [(2, .int (nI (k + 1))), (0, .ref (za E 12 0)), (1, .ref (za E 9 0))]) [0, 1, 2] rfl ?_
      exact ih96 M_1 (by omega) hA_2
  · refine z_iconst X (pc := 13) (v := 0) dX0_begin_13 (by decide) ?_
    refine z_istore_n X (pc := 14) (lv1 := [(3, .int 0), (2, .int (nI i)), (0, .ref (za E 12 0)), (1, .ref (za E 9 0))]) dX0_begin_14 rfl (by decide) rfl ?_
    refine z_iconst X (pc := 15) (v := 0) dX0_begin_15 (by decide) ?_
    refine z_istore X (pc := 16) (lv1 := [(4, .int 0), (3, .int 0), (2, .int (nI i)), (0, .ref (za E 12 0)), (1, .ref (za E 9 0))]) dX0_begin_16 (by decide) rfl ?_
    refine z_sub (lv' := [(4, .int (nI 0)), (3, .int (wset g i 0)), (2, .int (nI i)), (0, .ref (za E 12 0)), (1, .ref (za E 9 0))]) [0, 1, 2, 3, 4] rfl ?_
    refine z_loop (nm) 18 (σ := Unit) (fun j s => True) (fun j s => (M1, [(4, .int (nI j)), (3, .int (wset g i j)), (2, .int (nI i)), (0, .ref (za E 12 0)), (1, .ref (za E 9 0))])) ?_ 0 () (Nat.zero_le _) trivial
    intro j s hi18 hJ18 ih18
    show Z gg E M1 [(4, .int (nI j)), (3, .int (wset g i j)), (2, .int (nI i)), (0, .ref (za E 12 0)), (1, .ref (za E 9 0))] 18 []
    refine z_iload X (pc := 18) 0 dX0_begin_18 rfl ?_
    refine z_aload_n X (pc := 20) 4 dX0_begin_20 rfl rfl ?_
    refine z_get X (pc := 21) 1 zk_9_0 (zc_9_0 E _) rfl inlX9 (by decide) gw_265 rfl rfl dX0_begin_21 ?_
    refine z_get X (pc := 24) 0 zk_9_2 (zc_9_2 E _) rfl inlX4 (by decide) gw_266 rfl rfl dX0_begin_24 ?_
    refine z_top (y := (nI nm)) ((S9.cm (S9.rf (SA.g9 hJ2 (by decide) hg))).trans hnm) ?_
    refine z_nicmp_ge X (pc := 27) (a := j) (b := nm) (tgt := 55) dX0_begin_27 (by decide) (by omega) (by omega) (fun c27 => ?_) (fun c27 => ?_)
    · obtain rfl : nm = j := by omega
      refine z_aload_n X (pc := 55) 3 dX0_begin_55 rfl rfl ?_
      refine z_get X (pc := 56) 0 zk_12_0 (zc_12_0 E _) rfl inlX0 (by decide) gw_100 rfl rfl dX0_begin_56 ?_
      refine z_iload_n X (pc := 59) 2 dX0_begin_59 rfl rfl ?_
      refine z_aload_n X (pc := 60) 4 dX0_begin_60 rfl rfl ?_
      refine z_get X (pc := 61) 0 zk_9_0 (zc_9_0 E _) rfl inlX9 (by decide) gw_259 rfl rfl dX0_begin_61 ?_
      refine z_iload_n X (pc := 64) 2 dX0_begin_64 rfl rfl ?_
      refine z_callV X (pc := 65) (rest := [.int (nI i), .ref (za E 12 4)]) kv_X2_isFallen (c_X2_isFallen E M1 g (And.left (S9.rf (SA.g9 hJ2 (by decide) hg)))  i (show i < 10 by omega)) zk_9_1 (zc_9_1 E _) rfl rfl gw_278 (by decide) rfl rfl (Nat.le_of_ble_eq_true rfl) dX0_begin_65 (zk_i ?_)
      refine z_bif_eq X (pc := 68) (tgt := 75) dX0_begin_68 (by decide) (fun c68 => ?_) (fun c68 => ?_)
      · refine z_iload_n X (pc := 75) 1 dX0_begin_75 rfl rfl ?_
        refine z_top (y := (if fell g i = true then 0 else wset g i nm)) (by simp [c68]) ?_
        refine z_callV X (pc := 76) (rest := []) kv_X7_put (c_X7_put E M1 12 4 i (if fell g i = true then 0 else wset g i nm) (by decide) (by decide) (show i < 10 by omega)) zk_12_4 (zc_12_4 E _) rfl rfl gw_283 (by decide) rfl rfl (Nat.le_of_ble_eq_true rfl) dX0_begin_76 (zk_v ?_)
        refine z_gen (SA.put 0 hJ2 rfl (by decide) (show i < 10 by omega)) (fun M_3 hA_4 => ?_)
        refine z_aload_n X (pc := 79) 3 dX0_begin_79 rfl rfl ?_
        refine z_get X (pc := 80) 2 zk_12_0 (zc_12_0 E _) rfl inlX0 (by decide) gw_102 rfl rfl dX0_begin_80 ?_
        refine z_iload_n X (pc := 83) 2 dX0_begin_83 rfl rfl ?_
        refine z_iconst X (pc := 84) (v := (-1)) dX0_begin_84 (by decide) ?_
        refine z_callV X (pc := 85) (rest := []) kv_X7_put (c_X7_put E M_3 12 8 i ((-1)) (by decide) (by decide) (show i < 10 by omega)) zk_12_8 (zc_12_8 E _) rfl rfl gw_283 (by decide) rfl rfl (Nat.le_of_ble_eq_true rfl) dX0_begin_85 (zk_v ?_)
        refine z_gen (SA.put 2 hA_4 rfl (by decide) (show i < 10 by omega)) (fun M_5 hA_6 => ?_)
        refine z_iinc X (pc := 88) (v := (nI (i + 1))) (lv1 := [(2, .int (nI (i + 1))), (4, .int (nI nm)), (3, .int (wset g i nm)), (0, .ref (za E 12 0)), (1, .ref (za E 9 0))]) 2 dX0_begin_88 rfl (nI_1 _) (by decide) rfl ?_
        refine z_goto X (pc := 91) (tgt := 2) dX0_begin_91 (by decide) ?_
        refine z_sub (lv' := [(2, .int (nI (i + 1))), (0, .ref (za E 12 0)), (1, .ref (za E 9 0))]) [0, 3, 4] rfl ?_
        exact ih2 M_5 (by omega) hA_6
      · refine z_iconst X (pc := 71) (v := 0) dX0_begin_71 (by decide) ?_
        refine z_goto X (pc := 72) (tgt := 76) dX0_begin_72 (by decide) ?_
        refine z_top (y := (if fell g i = true then 0 else wset g i nm)) (by simp [c68]) ?_
        refine z_callV X (pc := 76) (rest := []) kv_X7_put (c_X7_put E M1 12 4 i (if fell g i = true then 0 else wset g i nm) (by decide) (by decide) (show i < 10 by omega)) zk_12_4 (zc_12_4 E _) rfl rfl gw_283 (by decide) rfl rfl (Nat.le_of_ble_eq_true rfl) dX0_begin_76 (zk_v ?_)
        refine z_gen (SA.put 0 hJ2 rfl (by decide) (show i < 10 by omega)) (fun M_7 hA_8 => ?_)
        refine z_aload_n X (pc := 79) 3 dX0_begin_79 rfl rfl ?_
        refine z_get X (pc := 80) 2 zk_12_0 (zc_12_0 E _) rfl inlX0 (by decide) gw_102 rfl rfl dX0_begin_80 ?_
        refine z_iload_n X (pc := 83) 2 dX0_begin_83 rfl rfl ?_
        refine z_iconst X (pc := 84) (v := (-1)) dX0_begin_84 (by decide) ?_
        refine z_callV X (pc := 85) (rest := []) kv_X7_put (c_X7_put E M_7 12 8 i ((-1)) (by decide) (by decide) (show i < 10 by omega)) zk_12_8 (zc_12_8 E _) rfl rfl gw_283 (by decide) rfl rfl (Nat.le_of_ble_eq_true rfl) dX0_begin_85 (zk_v ?_)
        refine z_gen (SA.put 2 hA_8 rfl (by decide) (show i < 10 by omega)) (fun M_9 hA_10 => ?_)
        refine z_iinc X (pc := 88) (v := (nI (i + 1))) (lv1 := [(2, .int (nI (i + 1))), (4, .int (nI nm)), (3, .int (wset g i nm)), (0, .ref (za E 12 0)), (1, .ref (za E 9 0))]) 2 dX0_begin_88 rfl (nI_1 _) (by decide) rfl ?_
        refine z_goto X (pc := 91) (tgt := 2) dX0_begin_91 (by decide) ?_
        refine z_sub (lv' := [(2, .int (nI (i + 1))), (0, .ref (za E 12 0)), (1, .ref (za E 9 0))]) [0, 3, 4] rfl ?_
        exact ih2 M_9 (by omega) hA_10
    · refine z_aload_n X (pc := 30) 4 dX0_begin_30 rfl rfl ?_
      refine z_iload_n X (pc := 31) 2 dX0_begin_31 rfl rfl ?_
      refine z_iload X (pc := 32) 0 dX0_begin_32 rfl ?_
      refine z_callV X (pc := 34) (rest := []) kv_X9_fitOf (c_X9_fitOf E M1 g (And.left (S9.rf (SA.g9 hJ2 (by decide) hg)))  i j (show i < 10 by omega) (show j < 10 by omega)) zk_9_0 (zc_9_0 E _) rfl rfl gw_267 (by decide) rfl rfl (Nat.le_of_ble_eq_true rfl) dX0_begin_34 (zk_i ?_)
      refine z_bipush X (pc := 37) (v := 6) dX0_begin_37 (by decide) ?_
      refine z_icmp_lt X (pc := 39) (tgt := 49) dX0_begin_39 (by decide) (fun c39 => ?_) (fun c39 => ?_)
      · refine z_iinc X (pc := 49) (v := (nI (j + 1))) (lv1 := [(4, .int (nI (j + 1))), (3, .int (wset g i j)), (2, .int (nI i)), (0, .ref (za E 12 0)), (1, .ref (za E 9 0))]) 0 dX0_begin_49 rfl (nI_1 _) (by decide) rfl ?_
        refine z_goto X (pc := 52) (tgt := 18) dX0_begin_52 (by decide) ?_
        refine z_sub (lv' := [(4, .int (nI (j + 1))), (3, .int (wset g i j)), (2, .int (nI i)), (0, .ref (za E 12 0)), (1, .ref (za E 9 0))]) [0, 1, 2, 3, 4] rfl ?_
        refine z_eq (lv' := [(4, .int (nI (j + 1))), (3, .int (wset g i (j + 1))), (2, .int (nI i)), (0, .ref (za E 12 0)), (1, .ref (za E 9 0))]) (by simp [wset, c10, c27, c39]) rfl ?_
        exact ih18 () (by omega) trivial
      · refine z_iload_n X (pc := 42) 1 dX0_begin_42 rfl rfl ?_
        refine z_iconst X (pc := 43) (v := 1) dX0_begin_43 (by decide) ?_
        refine z_iload X (pc := 44) 0 dX0_begin_44 rfl ?_
        refine z_ishl X (pc := 46) dX0_begin_46 ?_
        refine z_ior X (pc := 47) dX0_begin_47 ?_
        refine z_istore_n X (pc := 48) (lv1 := [(3, .int ((wset g i j) ||| (1 <<< ((nI j) &&& 31)))), (4, .int (nI j)), (2, .int (nI i)), (0, .ref (za E 12 0)), (1, .ref (za E 9 0))]) dX0_begin_48 rfl (by decide) rfl ?_
        refine z_iinc X (pc := 49) (v := (nI (j + 1))) (lv1 := [(4, .int (nI (j + 1))), (3, .int ((wset g i j) ||| (1 <<< ((nI j) &&& 31)))), (2, .int (nI i)), (0, .ref (za E 12 0)), (1, .ref (za E 9 0))]) 1 dX0_begin_49 rfl (nI_1 _) (by decide) rfl ?_
        refine z_goto X (pc := 52) (tgt := 18) dX0_begin_52 (by decide) ?_
        refine z_sub (lv' := [(4, .int (nI (j + 1))), (3, .int ((wset g i j) ||| (1 <<< ((nI j) &&& 31)))), (2, .int (nI i)), (0, .ref (za E 12 0)), (1, .ref (za E 9 0))]) [0, 1, 2, 3, 4] rfl ?_
        refine z_eq (lv' := [(4, .int (nI (j + 1))), (3, .int (wset g i (j + 1))), (2, .int (nI i)), (0, .ref (za E 12 0)), (1, .ref (za E 9 0))]) (by simp [wset, c10, c27, c39]) rfl ?_
        exact ih18 () (by omega) trivial

def rm_X0_lowestThatCanAsk : Room := { frames := 2, cells := 0, slots := 0, locals := 42 }
theorem kv_X0_lowestThatCanAsk : KV yX0_lowestThatCanAsk RX0 cX0_lowestThatCanAsk 3 (some .int) 1 := ⟨⟨gw_285, gw_286, gw_21, gw_287⟩, by decide +kernel⟩
set_option maxRecDepth 100000 in
set_option maxHeartbeats 4000000 in
theorem c_X0_lowestThatCanAsk_11 (E : ZE) (M : Mem) (g : LG) (hg : gX (M 9) = g) (nc nm : Nat) (hnc : g 14 7 = nI nc) (hnm : g 14 8 = nI nm) (hn : nc ≤ 10) (hn2 : nm ≤ 10) (a : LG) (hA : SA 11 M a M) : Mt E yX0_lowestThatCanAsk cX0_lowestThatCanAsk 3 (some .int) rm_X0_lowestThatCanAsk [.ref (za E 11 0), .ref (za E 9 0)] M (RI (fun v M1 => M = M1 ∧ ((v = -1 ∧ ∀ c, c < nc → canAskB a c = false) ∨ ∃ c, c < nc ∧ v = nI c ∧ canAskB a c = true))) := by
  refine z_met (own := RX0) (lv := [(0, .ref (za E 11 0)), (1, .ref (za E 9 0))]) (by decide) rfl (Nat.le_of_ble_eq_true rfl) rfl (fun gg X Y => ?_)
  refine z_iconst X (pc := 0) (v := 0) dX0_lowestThatCanAsk_0 (by decide) ?_
  refine z_istore_n X (pc := 1) (lv1 := [(2, .int 0), (0, .ref (za E 11 0)), (1, .ref (za E 9 0))]) dX0_lowestThatCanAsk_1 rfl (by decide) rfl ?_
  refine z_sub (lv' := [(2, .int (nI 0)), (0, .ref (za E 11 0)), (1, .ref (za E 9 0))]) [0, 1, 2] rfl ?_
  refine z_loop (nc) 2 (σ := Unit) (fun i s => ∀ c, c < i → canAskB a c = false) (fun i s => (M, [(2, .int (nI i)), (0, .ref (za E 11 0)), (1, .ref (za E 9 0))])) ?_ 0 () (Nat.zero_le _) (fun c hc => absurd hc (Nat.not_lt_zero c))
  intro i s hi2 hJ2 ih2
  show Z gg E M [(2, .int (nI i)), (0, .ref (za E 11 0)), (1, .ref (za E 9 0))] 2 []
  refine z_iload_n X (pc := 2) 0 dX0_lowestThatCanAsk_2 rfl rfl ?_
  refine z_aload_n X (pc := 3) 2 dX0_lowestThatCanAsk_3 rfl rfl ?_
  refine z_get X (pc := 4) 0 zk_9_0 (zc_9_0 E _) rfl inlX9 (by decide) gw_259 rfl rfl dX0_lowestThatCanAsk_4 ?_
  refine z_get X (pc := 7) 0 zk_9_1 (zc_9_1 E _) rfl inlX2 (by decide) gw_264 rfl rfl dX0_lowestThatCanAsk_7 ?_
  refine z_top (y := (nI nc)) ((S9.cc (S9.rf hg)).trans hnc) ?_
  refine z_nicmp_ge X (pc := 10) (a := i) (b := nc) (tgt := 29) dX0_lowestThatCanAsk_10 (by decide) (by omega) (by omega) (fun c10 => ?_) (fun c10 => ?_)
  · refine z_iconst X (pc := 29) (v := (-1)) dX0_lowestThatCanAsk_29 (by decide) ?_
    exact z_iret X Y dX0_lowestThatCanAsk_30 ⟨_, rfl, rfl, Or.inl ⟨rfl, fun c hc => hJ2 c (by omega)⟩⟩
  · refine z_aload_n X (pc := 13) 1 dX0_lowestThatCanAsk_13 rfl rfl ?_
    refine z_iload_n X (pc := 14) 0 dX0_lowestThatCanAsk_14 rfl rfl ?_
    refine z_callV X (pc := 15) (rest := []) kv_X0_canAsk (c_X0_canAsk_11 E M a (SA.self hA) i (show i < 10 by omega)) zk_11_0 (zc_11_0 E _) rfl rfl gw_288 (by decide) rfl rfl (Nat.le_of_ble_eq_true rfl) dX0_lowestThatCanAsk_15 (zk_i ?_)
    refine z_bif_eq X (pc := 18) (tgt := 23) dX0_lowestThatCanAsk_18 (by decide) (fun c18 => ?_) (fun c18 => ?_)
    · refine z_iinc X (pc := 23) (v := (nI (i + 1))) (lv1 := [(2, .int (nI (i + 1))), (0, .ref (za E 11 0)), (1, .ref (za E 9 0))]) 0 dX0_lowestThatCanAsk_23 rfl (nI_1 _) (by decide) rfl ?_
      refine z_goto X (pc := 26) (tgt := 2) dX0_lowestThatCanAsk_26 (by decide) ?_
      refine z_sub (lv' := [(2, .int (nI (i + 1))), (0, .ref (za E 11 0)), (1, .ref (za E 9 0))]) [0, 1, 2] rfl ?_
      exact ih2 () (by omega) (fun c hc => by rcases Nat.lt_or_ge c i with e | e; exact hJ2 c e; rw [show c = i by omega]; exact c18)
    · refine z_iload_n X (pc := 21) 0 dX0_lowestThatCanAsk_21 rfl rfl ?_
      exact z_iret X Y dX0_lowestThatCanAsk_22 ⟨_, rfl, rfl, Or.inr ⟨i, by omega, rfl, c18⟩⟩

def rm_X0_askNext : Room := { frames := 2, cells := 0, slots := 0, locals := 45 }
theorem kv_X0_askNext : KV yX0_askNext RX0 cX0_askNext 7 (some .int) 2 := ⟨⟨gw_294, gw_295, gw_21, gw_296⟩, by decide +kernel⟩
set_option maxRecDepth 100000 in
set_option maxHeartbeats 4000000 in
theorem c_X0_askNext_11 (E : ZE) (M : Mem) (g : LG) (hg : gX (M 9) = g) (nc nm : Nat) (hnc : g 14 7 = nI nc) (hnm : g 14 8 = nI nm) (hn : nc ≤ 10) (hn2 : nm ≤ 10) (a : LG) (hA : SA 11 M a M) (c : Nat) (hc : c < 10) : Mt E yX0_askNext cX0_askNext 7 (some .int) rm_X0_askNext [.ref (za E 11 0), .ref (za E 9 0), .int (nI c)] M (RI (fun v M1 => v = askV g a nm c ∧ SA 11 M (askA g a nm c) M1)) := by
  refine z_met (own := RX0) (lv := [(0, .ref (za E 11 0)), (1, .ref (za E 9 0)), (2, .int (nI c))]) (by decide) rfl (Nat.le_of_ble_eq_true rfl) rfl (fun gg X Y => ?_)
  refine z_iconst X (pc := 0) (v := (-1)) dX0_askNext_0 (by decide) ?_
  refine z_istore_n X (pc := 1) (lv1 := [(3, .int ((-1))), (0, .ref (za E 11 0)), (1, .ref (za E 9 0)), (2, .int (nI c))]) dX0_askNext_1 rfl (by decide) rfl ?_
  refine z_iconst X (pc := 2) (v := 0) dX0_askNext_2 (by decide) ?_
  refine z_istore X (pc := 3) (lv1 := [(4, .int 0), (3, .int ((-1))), (0, .ref (za E 11 0)), (1, .ref (za E 9 0)), (2, .int (nI c))]) dX0_askNext_3 (by decide) rfl ?_
  refine z_iconst X (pc := 5) (v := 0) dX0_askNext_5 (by decide) ?_
  refine z_istore X (pc := 6) (lv1 := [(5, .int 0), (4, .int 0), (3, .int ((-1))), (0, .ref (za E 11 0)), (1, .ref (za E 9 0)), (2, .int (nI c))]) dX0_askNext_6 (by decide) rfl ?_
  refine z_sub (lv' := [(5, .int (nI 0)), (3, .int ((bestL g (a 0 c) c 0).1)), (4, .int ((bestL g (a 0 c) c 0).2)), (0, .ref (za E 11 0)), (1, .ref (za E 9 0)), (2, .int (nI c))]) [0, 2, 1, 3, 4, 5] rfl ?_
  refine z_loop (nm) 8 (σ := Unit) (fun i s => True) (fun i s => (M, [(5, .int (nI i)), (3, .int ((bestL g (a 0 c) c i).1)), (4, .int ((bestL g (a 0 c) c i).2)), (0, .ref (za E 11 0)), (1, .ref (za E 9 0)), (2, .int (nI c))])) ?_ 0 () (Nat.zero_le _) trivial
  intro i s hi8 hJ8 ih8
  show Z gg E M [(5, .int (nI i)), (3, .int ((bestL g (a 0 c) c i).1)), (4, .int ((bestL g (a 0 c) c i).2)), (0, .ref (za E 11 0)), (1, .ref (za E 9 0)), (2, .int (nI c))] 8 []
  refine z_iload X (pc := 8) 0 dX0_askNext_8 rfl ?_
  refine z_aload_n X (pc := 10) 4 dX0_askNext_10 rfl rfl ?_
  refine z_get X (pc := 11) 1 zk_9_0 (zc_9_0 E _) rfl inlX9 (by decide) gw_265 rfl rfl dX0_askNext_11 ?_
  refine z_get X (pc := 14) 0 zk_9_2 (zc_9_2 E _) rfl inlX4 (by decide) gw_266 rfl rfl dX0_askNext_14 ?_
  refine z_top (y := (nI nm)) ((S9.cm (S9.rf hg)).trans hnm) ?_
  refine z_nicmp_ge X (pc := 17) (a := i) (b := nm) (tgt := 79) dX0_askNext_17 (by decide) (by omega) (by omega) (fun c17 => ?_) (fun c17 => ?_)
  · obtain rfl : nm = i := by omega
    refine z_aload_n X (pc := 79) 3 dX0_askNext_79 rfl rfl ?_
    refine z_get X (pc := 80) 0 zk_11_0 (zc_11_0 E _) rfl inlX0 (by decide) gw_100 rfl rfl dX0_askNext_80 ?_
    refine z_iload_n X (pc := 83) 5 dX0_askNext_83 rfl rfl ?_
    refine z_aload_n X (pc := 84) 3 dX0_askNext_84 rfl rfl ?_
    refine z_get X (pc := 85) 0 zk_11_0 (zc_11_0 E _) rfl inlX0 (by decide) gw_100 rfl rfl dX0_askNext_85 ?_
    refine z_iload_n X (pc := 88) 5 dX0_askNext_88 rfl rfl ?_
    refine z_callV X (pc := 89) (rest := [.int (nI c), .ref (za E 11 4)]) kv_X7_at (c_X7_at E M 11 4 c (by decide) (by decide) (show c < 10 by omega)) zk_11_4 (zc_11_4 E _) rfl rfl gw_292 (by decide) rfl rfl (Nat.le_of_ble_eq_true rfl) dX0_askNext_89 (zk_i ?_)
    refine z_top (y := (a 0 c)) (SA.row 0 hA rfl (by decide) (show c < 10 by omega)) ?_
    refine z_iconst X (pc := 92) (v := 1) dX0_askNext_92 (by decide) ?_
    refine z_iload_n X (pc := 93) 1 dX0_askNext_93 rfl rfl ?_
    refine z_ishl X (pc := 94) dX0_askNext_94 ?_
    refine z_iconst X (pc := 95) (v := (-1)) dX0_askNext_95 (by decide) ?_
    refine z_ixor X (pc := 96) dX0_askNext_96 ?_
    refine z_iand X (pc := 97) dX0_askNext_97 ?_
    refine z_callV X (pc := 98) (rest := []) kv_X7_put (c_X7_put E M 11 4 c ((a 0 c) &&& ((1 <<< (((bestL g (a 0 c) c nm).1) &&& 31)) ^^^ ((-1)))) (by decide) (by decide) (show c < 10 by omega)) zk_11_4 (zc_11_4 E _) rfl rfl gw_283 (by decide) rfl rfl (Nat.le_of_ble_eq_true rfl) dX0_askNext_98 (zk_v ?_)
    refine z_gen (SA.put 0 hA rfl (by decide) (show c < 10 by omega)) (fun M_1 hA_2 => ?_)
    refine z_iload_n X (pc := 101) 1 dX0_askNext_101 rfl rfl ?_
    exact z_iret X Y dX0_askNext_102 ⟨_, rfl, rfl, hA_2⟩
  · refine z_aload_n X (pc := 20) 3 dX0_askNext_20 rfl rfl ?_
    refine z_get X (pc := 21) 0 zk_11_0 (zc_11_0 E _) rfl inlX0 (by decide) gw_100 rfl rfl dX0_askNext_21 ?_
    refine z_iload_n X (pc := 24) 5 dX0_askNext_24 rfl rfl ?_
    refine z_callV X (pc := 25) (rest := []) kv_X7_at (c_X7_at E M 11 4 c (by decide) (by decide) (show c < 10 by omega)) zk_11_4 (zc_11_4 E _) rfl rfl gw_292 (by decide) rfl rfl (Nat.le_of_ble_eq_true rfl) dX0_askNext_25 (zk_i ?_)
    refine z_top (y := (a 0 c)) (SA.row 0 hA rfl (by decide) (show c < 10 by omega)) ?_
    refine z_iload X (pc := 28) 0 dX0_askNext_28 rfl ?_
    refine z_ishr X (pc := 30) dX0_askNext_30 ?_
    refine z_iconst X (pc := 31) (v := 1) dX0_askNext_31 (by decide) ?_
    refine z_iand X (pc := 32) dX0_askNext_32 ?_
    refine z_iconst X (pc := 33) (v := 1) dX0_askNext_33 (by decide) ?_
    refine z_icmp_ne X (pc := 34) (tgt := 41) dX0_askNext_34 (by decide) (fun c34 => ?_) (fun c34 => ?_)
    · refine z_iconst X (pc := 41) (v := 0) dX0_askNext_41 (by decide) ?_
      refine z_istore X (pc := 42) (lv1 := [(6, .int 0), (5, .int (nI i)), (3, .int ((bestL g (a 0 c) c i).1)), (4, .int ((bestL g (a 0 c) c i).2)), (0, .ref (za E 11 0)), (1, .ref (za E 9 0)), (2, .int (nI c))]) dX0_askNext_42 (by decide) rfl ?_
      refine z_iload X (pc := 44) 0 dX0_askNext_44 rfl ?_
      refine z_if_eq X (pc := 46) (tgt := 73) dX0_askNext_46 (by decide) (fun c46 => ?_) (fun c46 => ?_)
      · refine z_iinc X (pc := 73) (v := (nI (i + 1))) (lv1 := [(5, .int (nI (i + 1))), (6, .int 0), (3, .int ((bestL g (a 0 c) c i).1)), (4, .int ((bestL g (a 0 c) c i).2)), (0, .ref (za E 11 0)), (1, .ref (za E 9 0)), (2, .int (nI c))]) 1 dX0_askNext_73 rfl (nI_1 _) (by decide) rfl ?_
        refine z_goto X (pc := 76) (tgt := 8) dX0_askNext_76 (by decide) ?_
        refine z_sub (lv' := [(5, .int (nI (i + 1))), (3, .int ((bestL g (a 0 c) c i).1)), (4, .int ((bestL g (a 0 c) c i).2)), (0, .ref (za E 11 0)), (1, .ref (za E 9 0)), (2, .int (nI c))]) [0, 2, 3, 4, 5, 6] rfl ?_
        refine z_eq (lv' := [(5, .int (nI (i + 1))), (3, .int ((bestL g (a 0 c) c (i + 1)).1)), (4, .int ((bestL g (a 0 c) c (i + 1)).2)), (0, .ref (za E 11 0)), (1, .ref (za E 9 0)), (2, .int (nI c))]) (by simp [bestL, lftB, c17, c34, c46]) rfl ?_
        exact ih8 () (by omega) trivial
      · exact absurd (by decide) c46
    · refine z_iconst X (pc := 37) (v := 1) dX0_askNext_37 (by decide) ?_
      refine z_goto X (pc := 38) (tgt := 42) dX0_askNext_38 (by decide) ?_
      refine z_istore X (pc := 42) (lv1 := [(6, .int 1), (5, .int (nI i)), (3, .int ((bestL g (a 0 c) c i).1)), (4, .int ((bestL g (a 0 c) c i).2)), (0, .ref (za E 11 0)), (1, .ref (za E 9 0)), (2, .int (nI c))]) dX0_askNext_42 (by decide) rfl ?_
      refine z_iload X (pc := 44) 0 dX0_askNext_44 rfl ?_
      refine z_if_eq X (pc := 46) (tgt := 73) dX0_askNext_46 (by decide) (fun c46 => ?_) (fun c46 => ?_)
      · exact absurd c46 (by decide)
      · refine z_aload_n X (pc := 49) 5 dX0_askNext_49 rfl rfl ?_
        refine z_iload_n X (pc := 50) 6 dX0_askNext_50 rfl rfl ?_
        refine z_iload X (pc := 51) 1 dX0_askNext_51 rfl ?_
        refine z_callV X (pc := 53) (rest := []) kv_X9_fitOf (c_X9_fitOf E M g (And.left (S9.rf hg))  c i (show c < 10 by omega) (show i < 10 by omega)) zk_9_0 (zc_9_0 E _) rfl rfl gw_267 (by decide) rfl rfl (Nat.le_of_ble_eq_true rfl) dX0_askNext_53 (zk_i ?_)
        refine z_iload X (pc := 56) 3 dX0_askNext_56 rfl ?_
        refine z_icmp_le X (pc := 58) (tgt := 73) dX0_askNext_58 (by decide) (fun c58 => ?_) (fun c58 => ?_)
        · refine z_iinc X (pc := 73) (v := (nI (i + 1))) (lv1 := [(5, .int (nI (i + 1))), (6, .int 1), (3, .int ((bestL g (a 0 c) c i).1)), (4, .int ((bestL g (a 0 c) c i).2)), (0, .ref (za E 11 0)), (1, .ref (za E 9 0)), (2, .int (nI c))]) 1 dX0_askNext_73 rfl (nI_1 _) (by decide) rfl ?_
          refine z_goto X (pc := 76) (tgt := 8) dX0_askNext_76 (by decide) ?_
          refine z_sub (lv' := [(5, .int (nI (i + 1))), (3, .int ((bestL g (a 0 c) c i).1)), (4, .int ((bestL g (a 0 c) c i).2)), (0, .ref (za E 11 0)), (1, .ref (za E 9 0)), (2, .int (nI c))]) [0, 2, 3, 4, 5, 6] rfl ?_
          refine z_eq (lv' := [(5, .int (nI (i + 1))), (3, .int ((bestL g (a 0 c) c (i + 1)).1)), (4, .int ((bestL g (a 0 c) c (i + 1)).2)), (0, .ref (za E 11 0)), (1, .ref (za E 9 0)), (2, .int (nI c))]) (by simp [bestL, lftB, c17, c34, c46, c58]) rfl ?_
          exact ih8 () (by omega) trivial
        · refine z_iload X (pc := 61) 1 dX0_askNext_61 rfl ?_
          refine z_istore_n X (pc := 63) (lv1 := [(3, .int (nI i)), (6, .int 1), (5, .int (nI i)), (4, .int ((bestL g (a 0 c) c i).2)), (0, .ref (za E 11 0)), (1, .ref (za E 9 0)), (2, .int (nI c))]) dX0_askNext_63 rfl (by decide) rfl ?_
          refine z_aload_n X (pc := 64) 5 dX0_askNext_64 rfl rfl ?_
          refine z_iload_n X (pc := 65) 6 dX0_askNext_65 rfl rfl ?_
          refine z_iload X (pc := 66) 2 dX0_askNext_66 rfl ?_
          refine z_callV X (pc := 68) (rest := []) kv_X9_fitOf (c_X9_fitOf E M g (And.left (S9.rf hg))  c i (show c < 10 by omega) (show i < 10 by omega)) zk_9_0 (zc_9_0 E _) rfl rfl gw_267 (by decide) rfl rfl (Nat.le_of_ble_eq_true rfl) dX0_askNext_68 (zk_i ?_)
          refine z_istore X (pc := 71) (lv1 := [(4, .int (fit g c i)), (3, .int (nI i)), (6, .int 1), (5, .int (nI i)), (0, .ref (za E 11 0)), (1, .ref (za E 9 0)), (2, .int (nI c))]) dX0_askNext_71 (by decide) rfl ?_
          refine z_iinc X (pc := 73) (v := (nI (i + 1))) (lv1 := [(5, .int (nI (i + 1))), (4, .int (fit g c i)), (3, .int (nI i)), (6, .int 1), (0, .ref (za E 11 0)), (1, .ref (za E 9 0)), (2, .int (nI c))]) 3 dX0_askNext_73 rfl (nI_1 _) (by decide) rfl ?_
          refine z_goto X (pc := 76) (tgt := 8) dX0_askNext_76 (by decide) ?_
          refine z_sub (lv' := [(5, .int (nI (i + 1))), (3, .int (nI i)), (4, .int (fit g c i)), (0, .ref (za E 11 0)), (1, .ref (za E 9 0)), (2, .int (nI c))]) [0, 2, 1, 4, 5, 6] rfl ?_
          refine z_eq (lv' := [(5, .int (nI (i + 1))), (3, .int ((bestL g (a 0 c) c (i + 1)).1)), (4, .int ((bestL g (a 0 c) c (i + 1)).2)), (0, .ref (za E 11 0)), (1, .ref (za E 9 0)), (2, .int (nI c))]) (by simp [bestL, lftB, c17, c34, c46, c58]) rfl ?_
          exact ih8 () (by omega) trivial
set_option maxRecDepth 100000 in
set_option maxHeartbeats 4000000 in
theorem c_X0_askNext_12 (E : ZE) (M : Mem) (g : LG) (hg : gX (M 9) = g) (nc nm : Nat) (hnc : g 14 7 = nI nc) (hnm : g 14 8 = nI nm) (hn : nc ≤ 10) (hn2 : nm ≤ 10) (a : LG) (hA : SA 12 M a M) (c : Nat) (hc : c < 10) : Mt E yX0_askNext cX0_askNext 7 (some .int) rm_X0_askNext [.ref (za E 12 0), .ref (za E 9 0), .int (nI c)] M (RI (fun v M1 => v = askV g a nm c ∧ SA 12 M (askA g a nm c) M1)) := by
  refine z_met (own := RX0) (lv := [(0, .ref (za E 12 0)), (1, .ref (za E 9 0)), (2, .int (nI c))]) (by decide) rfl (Nat.le_of_ble_eq_true rfl) rfl (fun gg X Y => ?_)
  refine z_iconst X (pc := 0) (v := (-1)) dX0_askNext_0 (by decide) ?_
  refine z_istore_n X (pc := 1) (lv1 := [(3, .int ((-1))), (0, .ref (za E 12 0)), (1, .ref (za E 9 0)), (2, .int (nI c))]) dX0_askNext_1 rfl (by decide) rfl ?_
  refine z_iconst X (pc := 2) (v := 0) dX0_askNext_2 (by decide) ?_
  refine z_istore X (pc := 3) (lv1 := [(4, .int 0), (3, .int ((-1))), (0, .ref (za E 12 0)), (1, .ref (za E 9 0)), (2, .int (nI c))]) dX0_askNext_3 (by decide) rfl ?_
  refine z_iconst X (pc := 5) (v := 0) dX0_askNext_5 (by decide) ?_
  refine z_istore X (pc := 6) (lv1 := [(5, .int 0), (4, .int 0), (3, .int ((-1))), (0, .ref (za E 12 0)), (1, .ref (za E 9 0)), (2, .int (nI c))]) dX0_askNext_6 (by decide) rfl ?_
  refine z_sub (lv' := [(5, .int (nI 0)), (3, .int ((bestL g (a 0 c) c 0).1)), (4, .int ((bestL g (a 0 c) c 0).2)), (0, .ref (za E 12 0)), (1, .ref (za E 9 0)), (2, .int (nI c))]) [0, 2, 1, 3, 4, 5] rfl ?_
  refine z_loop (nm) 8 (σ := Unit) (fun i s => True) (fun i s => (M, [(5, .int (nI i)), (3, .int ((bestL g (a 0 c) c i).1)), (4, .int ((bestL g (a 0 c) c i).2)), (0, .ref (za E 12 0)), (1, .ref (za E 9 0)), (2, .int (nI c))])) ?_ 0 () (Nat.zero_le _) trivial
  intro i s hi8 hJ8 ih8
  show Z gg E M [(5, .int (nI i)), (3, .int ((bestL g (a 0 c) c i).1)), (4, .int ((bestL g (a 0 c) c i).2)), (0, .ref (za E 12 0)), (1, .ref (za E 9 0)), (2, .int (nI c))] 8 []
  refine z_iload X (pc := 8) 0 dX0_askNext_8 rfl ?_
  refine z_aload_n X (pc := 10) 4 dX0_askNext_10 rfl rfl ?_
  refine z_get X (pc := 11) 1 zk_9_0 (zc_9_0 E _) rfl inlX9 (by decide) gw_265 rfl rfl dX0_askNext_11 ?_
  refine z_get X (pc := 14) 0 zk_9_2 (zc_9_2 E _) rfl inlX4 (by decide) gw_266 rfl rfl dX0_askNext_14 ?_
  refine z_top (y := (nI nm)) ((S9.cm (S9.rf hg)).trans hnm) ?_
  refine z_nicmp_ge X (pc := 17) (a := i) (b := nm) (tgt := 79) dX0_askNext_17 (by decide) (by omega) (by omega) (fun c17 => ?_) (fun c17 => ?_)
  · obtain rfl : nm = i := by omega
    refine z_aload_n X (pc := 79) 3 dX0_askNext_79 rfl rfl ?_
    refine z_get X (pc := 80) 0 zk_12_0 (zc_12_0 E _) rfl inlX0 (by decide) gw_100 rfl rfl dX0_askNext_80 ?_
    refine z_iload_n X (pc := 83) 5 dX0_askNext_83 rfl rfl ?_
    refine z_aload_n X (pc := 84) 3 dX0_askNext_84 rfl rfl ?_
    refine z_get X (pc := 85) 0 zk_12_0 (zc_12_0 E _) rfl inlX0 (by decide) gw_100 rfl rfl dX0_askNext_85 ?_
    refine z_iload_n X (pc := 88) 5 dX0_askNext_88 rfl rfl ?_
    refine z_callV X (pc := 89) (rest := [.int (nI c), .ref (za E 12 4)]) kv_X7_at (c_X7_at E M 12 4 c (by decide) (by decide) (show c < 10 by omega)) zk_12_4 (zc_12_4 E _) rfl rfl gw_292 (by decide) rfl rfl (Nat.le_of_ble_eq_true rfl) dX0_askNext_89 (zk_i ?_)
    refine z_top (y := (a 0 c)) (SA.row 0 hA rfl (by decide) (show c < 10 by omega)) ?_
    refine z_iconst X (pc := 92) (v := 1) dX0_askNext_92 (by decide) ?_
    refine z_iload_n X (pc := 93) 1 dX0_askNext_93 rfl rfl ?_
    refine z_ishl X (pc := 94) dX0_askNext_94 ?_
    refine z_iconst X (pc := 95) (v := (-1)) dX0_askNext_95 (by decide) ?_
    refine z_ixor X (pc := 96) dX0_askNext_96 ?_
    refine z_iand X (pc := 97) dX0_askNext_97 ?_
    refine z_callV X (pc := 98) (rest := []) kv_X7_put (c_X7_put E M 12 4 c ((a 0 c) &&& ((1 <<< (((bestL g (a 0 c) c nm).1) &&& 31)) ^^^ ((-1)))) (by decide) (by decide) (show c < 10 by omega)) zk_12_4 (zc_12_4 E _) rfl rfl gw_283 (by decide) rfl rfl (Nat.le_of_ble_eq_true rfl) dX0_askNext_98 (zk_v ?_)
    refine z_gen (SA.put 0 hA rfl (by decide) (show c < 10 by omega)) (fun M_1 hA_2 => ?_)
    refine z_iload_n X (pc := 101) 1 dX0_askNext_101 rfl rfl ?_
    exact z_iret X Y dX0_askNext_102 ⟨_, rfl, rfl, hA_2⟩
  · refine z_aload_n X (pc := 20) 3 dX0_askNext_20 rfl rfl ?_
    refine z_get X (pc := 21) 0 zk_12_0 (zc_12_0 E _) rfl inlX0 (by decide) gw_100 rfl rfl dX0_askNext_21 ?_
    refine z_iload_n X (pc := 24) 5 dX0_askNext_24 rfl rfl ?_
    refine z_callV X (pc := 25) (rest := []) kv_X7_at (c_X7_at E M 12 4 c (by decide) (by decide) (show c < 10 by omega)) zk_12_4 (zc_12_4 E _) rfl rfl gw_292 (by decide) rfl rfl (Nat.le_of_ble_eq_true rfl) dX0_askNext_25 (zk_i ?_)
    refine z_top (y := (a 0 c)) (SA.row 0 hA rfl (by decide) (show c < 10 by omega)) ?_
    refine z_iload X (pc := 28) 0 dX0_askNext_28 rfl ?_
    refine z_ishr X (pc := 30) dX0_askNext_30 ?_
    refine z_iconst X (pc := 31) (v := 1) dX0_askNext_31 (by decide) ?_
    refine z_iand X (pc := 32) dX0_askNext_32 ?_
    refine z_iconst X (pc := 33) (v := 1) dX0_askNext_33 (by decide) ?_
    refine z_icmp_ne X (pc := 34) (tgt := 41) dX0_askNext_34 (by decide) (fun c34 => ?_) (fun c34 => ?_)
    · refine z_iconst X (pc := 41) (v := 0) dX0_askNext_41 (by decide) ?_
      refine z_istore X (pc := 42) (lv1 := [(6, .int 0), (5, .int (nI i)), (3, .int ((bestL g (a 0 c) c i).1)), (4, .int ((bestL g (a 0 c) c i).2)), (0, .ref (za E 12 0)), (1, .ref (za E 9 0)), (2, .int (nI c))]) dX0_askNext_42 (by decide) rfl ?_
      refine z_iload X (pc := 44) 0 dX0_askNext_44 rfl ?_
      refine z_if_eq X (pc := 46) (tgt := 73) dX0_askNext_46 (by decide) (fun c46 => ?_) (fun c46 => ?_)
      · refine z_iinc X (pc := 73) (v := (nI (i + 1))) (lv1 := [(5, .int (nI (i + 1))), (6, .int 0), (3, .int ((bestL g (a 0 c) c i).1)), (4, .int ((bestL g (a 0 c) c i).2)), (0, .ref (za E 12 0)), (1, .ref (za E 9 0)), (2, .int (nI c))]) 1 dX0_askNext_73 rfl (nI_1 _) (by decide) rfl ?_
        refine z_goto X (pc := 76) (tgt := 8) dX0_askNext_76 (by decide) ?_
        refine z_sub (lv' := [(5, .int (nI (i + 1))), (3, .int ((bestL g (a 0 c) c i).1)), (4, .int ((bestL g (a 0 c) c i).2)), (0, .ref (za E 12 0)), (1, .ref (za E 9 0)), (2, .int (nI c))]) [0, 2, 3, 4, 5, 6] rfl ?_
        refine z_eq (lv' := [(5, .int (nI (i + 1))), (3, .int ((bestL g (a 0 c) c (i + 1)).1)), (4, .int ((bestL g (a 0 c) c (i + 1)).2)), (0, .ref (za E 12 0)), (1, .ref (za E 9 0)), (2, .int (nI c))]) (by simp [bestL, lftB, c17, c34, c46]) rfl ?_
        exact ih8 () (by omega) trivial
      · exact absurd (by decide) c46
    · refine z_iconst X (pc := 37) (v := 1) dX0_askNext_37 (by decide) ?_
      refine z_goto X (pc := 38) (tgt := 42) dX0_askNext_38 (by decide) ?_
      refine z_istore X (pc := 42) (lv1 := [(6, .int 1), (5, .int (nI i)), (3, .int ((bestL g (a 0 c) c i).1)), (4, .int ((bestL g (a 0 c) c i).2)), (0, .ref (za E 12 0)), (1, .ref (za E 9 0)), (2, .int (nI c))]) dX0_askNext_42 (by decide) rfl ?_
      refine z_iload X (pc := 44) 0 dX0_askNext_44 rfl ?_
      refine z_if_eq X (pc := 46) (tgt := 73) dX0_askNext_46 (by decide) (fun c46 => ?_) (fun c46 => ?_)
      · exact absurd c46 (by decide)
      · refine z_aload_n X (pc := 49) 5 dX0_askNext_49 rfl rfl ?_
        refine z_iload_n X (pc := 50) 6 dX0_askNext_50 rfl rfl ?_
        refine z_iload X (pc := 51) 1 dX0_askNext_51 rfl ?_
        refine z_callV X (pc := 53) (rest := []) kv_X9_fitOf (c_X9_fitOf E M g (And.left (S9.rf hg))  c i (show c < 10 by omega) (show i < 10 by omega)) zk_9_0 (zc_9_0 E _) rfl rfl gw_267 (by decide) rfl rfl (Nat.le_of_ble_eq_true rfl) dX0_askNext_53 (zk_i ?_)
        refine z_iload X (pc := 56) 3 dX0_askNext_56 rfl ?_
        refine z_icmp_le X (pc := 58) (tgt := 73) dX0_askNext_58 (by decide) (fun c58 => ?_) (fun c58 => ?_)
        · refine z_iinc X (pc := 73) (v := (nI (i + 1))) (lv1 := [(5, .int (nI (i + 1))), (6, .int 1), (3, .int ((bestL g (a 0 c) c i).1)), (4, .int ((bestL g (a 0 c) c i).2)), (0, .ref (za E 12 0)), (1, .ref (za E 9 0)), (2, .int (nI c))]) 1 dX0_askNext_73 rfl (nI_1 _) (by decide) rfl ?_
          refine z_goto X (pc := 76) (tgt := 8) dX0_askNext_76 (by decide) ?_
          refine z_sub (lv' := [(5, .int (nI (i + 1))), (3, .int ((bestL g (a 0 c) c i).1)), (4, .int ((bestL g (a 0 c) c i).2)), (0, .ref (za E 12 0)), (1, .ref (za E 9 0)), (2, .int (nI c))]) [0, 2, 3, 4, 5, 6] rfl ?_
          refine z_eq (lv' := [(5, .int (nI (i + 1))), (3, .int ((bestL g (a 0 c) c (i + 1)).1)), (4, .int ((bestL g (a 0 c) c (i + 1)).2)), (0, .ref (za E 12 0)), (1, .ref (za E 9 0)), (2, .int (nI c))]) (by simp [bestL, lftB, c17, c34, c46, c58]) rfl ?_
          exact ih8 () (by omega) trivial
        · refine z_iload X (pc := 61) 1 dX0_askNext_61 rfl ?_
          refine z_istore_n X (pc := 63) (lv1 := [(3, .int (nI i)), (6, .int 1), (5, .int (nI i)), (4, .int ((bestL g (a 0 c) c i).2)), (0, .ref (za E 12 0)), (1, .ref (za E 9 0)), (2, .int (nI c))]) dX0_askNext_63 rfl (by decide) rfl ?_
          refine z_aload_n X (pc := 64) 5 dX0_askNext_64 rfl rfl ?_
          refine z_iload_n X (pc := 65) 6 dX0_askNext_65 rfl rfl ?_
          refine z_iload X (pc := 66) 2 dX0_askNext_66 rfl ?_
          refine z_callV X (pc := 68) (rest := []) kv_X9_fitOf (c_X9_fitOf E M g (And.left (S9.rf hg))  c i (show c < 10 by omega) (show i < 10 by omega)) zk_9_0 (zc_9_0 E _) rfl rfl gw_267 (by decide) rfl rfl (Nat.le_of_ble_eq_true rfl) dX0_askNext_68 (zk_i ?_)
          refine z_istore X (pc := 71) (lv1 := [(4, .int (fit g c i)), (3, .int (nI i)), (6, .int 1), (5, .int (nI i)), (0, .ref (za E 12 0)), (1, .ref (za E 9 0)), (2, .int (nI c))]) dX0_askNext_71 (by decide) rfl ?_
          refine z_iinc X (pc := 73) (v := (nI (i + 1))) (lv1 := [(5, .int (nI (i + 1))), (4, .int (fit g c i)), (3, .int (nI i)), (6, .int 1), (0, .ref (za E 12 0)), (1, .ref (za E 9 0)), (2, .int (nI c))]) 3 dX0_askNext_73 rfl (nI_1 _) (by decide) rfl ?_
          refine z_goto X (pc := 76) (tgt := 8) dX0_askNext_76 (by decide) ?_
          refine z_sub (lv' := [(5, .int (nI (i + 1))), (3, .int (nI i)), (4, .int (fit g c i)), (0, .ref (za E 12 0)), (1, .ref (za E 9 0)), (2, .int (nI c))]) [0, 2, 1, 4, 5, 6] rfl ?_
          refine z_eq (lv' := [(5, .int (nI (i + 1))), (3, .int ((bestL g (a 0 c) c (i + 1)).1)), (4, .int ((bestL g (a 0 c) c (i + 1)).2)), (0, .ref (za E 12 0)), (1, .ref (za E 9 0)), (2, .int (nI c))]) (by simp [bestL, lftB, c17, c34, c46, c58]) rfl ?_
          exact ih8 () (by omega) trivial

def rm_X0_askAtOnce : Room := { frames := 3, cells := 0, slots := 0, locals := 71 }
theorem kv_X0_askAtOnce : KV yX0_askAtOnce RX0 cX0_askAtOnce 5 (some .boolean) 1 := ⟨⟨gw_719, gw_720, gw_21, gw_721⟩, by decide +kernel⟩
set_option maxRecDepth 100000 in
set_option maxHeartbeats 4000000 in
theorem c_X0_askAtOnce_12 (E : ZE) (M : Mem) (g : LG) (hg : gX (M 9) = g) (nc nm : Nat) (hnc : g 14 7 = nI nc) (hnm : g 14 8 = nI nm) (hn : nc ≤ 10) (hn2 : nm ≤ 10) (a : LG) (hA : SA 12 M a M) : Mt E yX0_askAtOnce cX0_askAtOnce 5 (some .boolean) rm_X0_askAtOnce [.ref (za E 12 0), .ref (za E 9 0)] M (RI (fun v M1 => v = zb (aoA g nm a nc).2 ∧ SA 12 M (aoA g nm a nc).1 M1)) := by
  refine z_met (own := RX0) (lv := [(0, .ref (za E 12 0)), (1, .ref (za E 9 0))]) (by decide) rfl (Nat.le_of_ble_eq_true rfl) rfl (fun gg X Y => ?_)
  refine z_iconst X (pc := 0) (v := 0) dX0_askAtOnce_0 (by decide) ?_
  refine z_istore_n X (pc := 1) (lv1 := [(2, .int 0), (0, .ref (za E 12 0)), (1, .ref (za E 9 0))]) dX0_askAtOnce_1 rfl (by decide) rfl ?_
  refine z_iconst X (pc := 2) (v := 0) dX0_askAtOnce_2 (by decide) ?_
  refine z_istore_n X (pc := 3) (lv1 := [(3, .int 0), (2, .int 0), (0, .ref (za E 12 0)), (1, .ref (za E 9 0))]) dX0_askAtOnce_3 rfl (by decide) rfl ?_
  refine z_sub (lv' := [(3, .int (nI 0)), (2, .int (zb ((aoA g nm a 0).2))), (0, .ref (za E 12 0)), (1, .ref (za E 9 0))]) [0, 1, 2, 3] rfl ?_
  refine z_loop (nc) 4 (σ := Mem) (fun i s => SA 12 M (aoA g nm a i).1 s) (fun i s => (s, [(3, .int (nI i)), (2, .int (zb ((aoA g nm a i).2))), (0, .ref (za E 12 0)), (1, .ref (za E 9 0))])) ?_ 0 M (Nat.zero_le _) hA
  intro i s hi4 hJ4 ih4
  obtain ⟨M1, rfl⟩ : ∃ z, z = s := ⟨s, rfl⟩
  show Z gg E M1 [(3, .int (nI i)), (2, .int (zb ((aoA g nm a i).2))), (0, .ref (za E 12 0)), (1, .ref (za E 9 0))] 4 []
  replace hJ4 : SA 12 M (aoA g nm a i).1 M1 := hJ4
  refine z_iload_n X (pc := 4) 0 dX0_askAtOnce_4 rfl rfl ?_
  refine z_aload_n X (pc := 5) 3 dX0_askAtOnce_5 rfl rfl ?_
  refine z_get X (pc := 6) 0 zk_9_0 (zc_9_0 E _) rfl inlX9 (by decide) gw_259 rfl rfl dX0_askAtOnce_6 ?_
  refine z_get X (pc := 9) 0 zk_9_1 (zc_9_1 E _) rfl inlX2 (by decide) gw_264 rfl rfl dX0_askAtOnce_9 ?_
  refine z_top (y := (nI nc)) ((S9.cc (S9.rf (SA.g9 hJ4 (by decide) hg))).trans hnc) ?_
  refine z_nicmp_ge X (pc := 12) (a := i) (b := nc) (tgt := 66) dX0_askAtOnce_12 (by decide) (by omega) (by omega) (fun c12 => ?_) (fun c12 => ?_)
  · refine z_iload_n X (pc := 66) 1 dX0_askAtOnce_66 rfl rfl ?_
    exact z_zret X Y (by cases (aoA g nm a i).2 <;> rfl) dX0_askAtOnce_67 ⟨_, rfl, by obtain rfl : nc = i := (by omega); exact ⟨rfl, hJ4⟩⟩
  · refine z_aload_n X (pc := 15) 2 dX0_askAtOnce_15 rfl rfl ?_
    refine z_iload_n X (pc := 16) 0 dX0_askAtOnce_16 rfl rfl ?_
    refine z_callV X (pc := 17) (rest := []) kv_X0_canAsk (c_X0_canAsk_12 E M1 ((aoA g nm a i).1) (SA.self hJ4) i (show i < 10 by omega)) zk_12_0 (zc_12_0 E _) rfl rfl gw_288 (by decide) rfl rfl (Nat.le_of_ble_eq_true rfl) dX0_askAtOnce_17 (zk_i ?_)
    refine z_istore X (pc := 20) (lv1 := [(4, .int (zb (canAskB ((aoA g nm a i).1) i))), (3, .int (nI i)), (2, .int (zb ((aoA g nm a i).2))), (0, .ref (za E 12 0)), (1, .ref (za E 9 0))]) dX0_askAtOnce_20 (by decide) rfl ?_
    refine z_aload_n X (pc := 22) 3 dX0_askAtOnce_22 rfl rfl ?_
    refine z_get X (pc := 23) 1 zk_12_0 (zc_12_0 E _) rfl inlX0 (by decide) gw_101 rfl rfl dX0_askAtOnce_23 ?_
    refine z_iload_n X (pc := 26) 1 dX0_askAtOnce_26 rfl rfl ?_
    refine z_iload X (pc := 27) 0 dX0_askAtOnce_27 rfl ?_
    refine z_bif_eq X (pc := 29) (tgt := 41) dX0_askAtOnce_29 (by decide) (fun c29 => ?_) (fun c29 => ?_)
    · refine z_iconst X (pc := 41) (v := (-1)) dX0_askAtOnce_41 (by decide) ?_
      refine z_callV X (pc := 42) (rest := []) kv_X7_put (c_X7_put E M1 12 6 i ((-1)) (by decide) (by decide) (show i < 10 by omega)) zk_12_6 (zc_12_6 E _) rfl rfl gw_283 (by decide) rfl rfl (Nat.le_of_ble_eq_true rfl) dX0_askAtOnce_42 (zk_v ?_)
      refine z_gen (SA.put 1 hJ4 rfl (by decide) (show i < 10 by omega)) (fun M_1 hA_2 => ?_)
      refine z_iload_n X (pc := 45) 2 dX0_askAtOnce_45 rfl rfl ?_
      refine z_bif_ne X (pc := 46) (tgt := 54) dX0_askAtOnce_46 (by decide) (fun c46 => ?_) (fun c46 => ?_)
      · refine z_iconst X (pc := 54) (v := 1) dX0_askAtOnce_54 (by decide) ?_
        refine z_goto X (pc := 55) (tgt := 59) dX0_askAtOnce_55 (by decide) ?_
        refine z_istore_n X (pc := 59) (lv1 := [(2, .int 1), (4, .int (zb (canAskB ((aoA g nm a i).1) i))), (3, .int (nI i)), (0, .ref (za E 12 0)), (1, .ref (za E 9 0))]) dX0_askAtOnce_59 rfl (by decide) rfl ?_
        refine z_iinc X (pc := 60) (v := (nI (i + 1))) (lv1 := [(3, .int (nI (i + 1))), (2, .int 1), (4, .int (zb (canAskB ((aoA g nm a i).1) i))), (0, .ref (za E 12 0)), (1, .ref (za E 9 0))]) 2 dX0_askAtOnce_60 rfl (nI_1 _) (by decide) rfl ?_
        refine z_goto X (pc := 63) (tgt := 4) dX0_askAtOnce_63 (by decide) ?_
        refine z_sub (lv' := [(3, .int (nI (i + 1))), (2, .int 1), (0, .ref (za E 12 0)), (1, .ref (za E 9 0))]) [0, 1, 3, 4] rfl ?_
        refine z_eq (lv' := [(3, .int (nI (i + 1))), (2, .int (zb ((aoA g nm a (i + 1)).2))), (0, .ref (za E 12 0)), (1, .ref (za E 9 0))]) (by first | (simp [aoA, zb, c12, c29, c46]; done) | (rw [c29] at c51; cases c51)) rfl ?_
        exact ih4 M_1 (by omega) (by simpa [aoA, c12, c29, c46] using hA_2)
      · refine z_iload X (pc := 49) 0 dX0_askAtOnce_49 rfl ?_
        refine z_bif_eq X (pc := 51) (tgt := 58) dX0_askAtOnce_51 (by decide) (fun c51 => ?_) (fun c51 => ?_)
        · refine z_iconst X (pc := 58) (v := 0) dX0_askAtOnce_58 (by decide) ?_
          refine z_istore_n X (pc := 59) (lv1 := [(2, .int 0), (4, .int (zb (canAskB ((aoA g nm a i).1) i))), (3, .int (nI i)), (0, .ref (za E 12 0)), (1, .ref (za E 9 0))]) dX0_askAtOnce_59 rfl (by decide) rfl ?_
          refine z_iinc X (pc := 60) (v := (nI (i + 1))) (lv1 := [(3, .int (nI (i + 1))), (2, .int 0), (4, .int (zb (canAskB ((aoA g nm a i).1) i))), (0, .ref (za E 12 0)), (1, .ref (za E 9 0))]) 2 dX0_askAtOnce_60 rfl (nI_1 _) (by decide) rfl ?_
          refine z_goto X (pc := 63) (tgt := 4) dX0_askAtOnce_63 (by decide) ?_
          refine z_sub (lv' := [(3, .int (nI (i + 1))), (2, .int 0), (0, .ref (za E 12 0)), (1, .ref (za E 9 0))]) [0, 1, 3, 4] rfl ?_
          refine z_eq (lv' := [(3, .int (nI (i + 1))), (2, .int (zb ((aoA g nm a (i + 1)).2))), (0, .ref (za E 12 0)), (1, .ref (za E 9 0))]) (by first | (simp [aoA, zb, c12, c29, c46, c51]; done) | (rw [c29] at c51; cases c51)) rfl ?_
          exact ih4 M_1 (by omega) (by simpa [aoA, c12, c29, c46, c51] using hA_2)
        · refine z_iconst X (pc := 54) (v := 1) dX0_askAtOnce_54 (by decide) ?_
          refine z_goto X (pc := 55) (tgt := 59) dX0_askAtOnce_55 (by decide) ?_
          refine z_istore_n X (pc := 59) (lv1 := [(2, .int 1), (4, .int (zb (canAskB ((aoA g nm a i).1) i))), (3, .int (nI i)), (0, .ref (za E 12 0)), (1, .ref (za E 9 0))]) dX0_askAtOnce_59 rfl (by decide) rfl ?_
          refine z_iinc X (pc := 60) (v := (nI (i + 1))) (lv1 := [(3, .int (nI (i + 1))), (2, .int 1), (4, .int (zb (canAskB ((aoA g nm a i).1) i))), (0, .ref (za E 12 0)), (1, .ref (za E 9 0))]) 2 dX0_askAtOnce_60 rfl (nI_1 _) (by decide) rfl ?_
          refine z_goto X (pc := 63) (tgt := 4) dX0_askAtOnce_63 (by decide) ?_
          refine z_sub (lv' := [(3, .int (nI (i + 1))), (2, .int 1), (0, .ref (za E 12 0)), (1, .ref (za E 9 0))]) [0, 1, 3, 4] rfl ?_
          refine z_eq (lv' := [(3, .int (nI (i + 1))), (2, .int (zb ((aoA g nm a (i + 1)).2))), (0, .ref (za E 12 0)), (1, .ref (za E 9 0))]) (by first | (simp [aoA, zb, c12, c29, c46, c51]; done) | (rw [c29] at c51; cases c51)) rfl ?_
          exact ih4 M_1 (by omega) (by simpa [aoA, c12, c29, c46, c51] using hA_2)
    · refine z_aload_n X (pc := 32) 3 dX0_askAtOnce_32 rfl rfl ?_
      refine z_aload_n X (pc := 33) 4 dX0_askAtOnce_33 rfl rfl ?_
      refine z_iload_n X (pc := 34) 1 dX0_askAtOnce_34 rfl rfl ?_
      refine z_callV X (pc := 35) (rest := [.int (nI i), .ref (za E 12 6)]) kv_X0_askNext (c_X0_askNext_12 E M1 g (SA.g9 hJ4 (by decide) hg) nc nm hnc hnm hn hn2 ((aoA g nm a i).1) (SA.self hJ4) i (show i < 10 by omega)) zk_12_0 (zc_12_0 E _) rfl rfl gw_293 (by decide) rfl rfl (Nat.le_of_ble_eq_true rfl) dX0_askAtOnce_35 (zk_ri (fun v_5 M_3 h_4 => ?_))
      refine z_top (y := (askV g ((aoA g nm a i).1) nm i)) h_4.1 ?_
      have hA_6 := SA.trans hJ4 h_4.2
      refine z_goto X (pc := 38) (tgt := 42) dX0_askAtOnce_38 (by decide) ?_
      refine z_callV X (pc := 42) (rest := []) kv_X7_put (c_X7_put E M_3 12 6 i (askV g ((aoA g nm a i).1) nm i) (by decide) (by decide) (show i < 10 by omega)) zk_12_6 (zc_12_6 E _) rfl rfl gw_283 (by decide) rfl rfl (Nat.le_of_ble_eq_true rfl) dX0_askAtOnce_42 (zk_v ?_)
      refine z_gen (SA.put 1 hA_6 rfl (by decide) (show i < 10 by omega)) (fun M_7 hA_8 => ?_)
      refine z_iload_n X (pc := 45) 2 dX0_askAtOnce_45 rfl rfl ?_
      refine z_bif_ne X (pc := 46) (tgt := 54) dX0_askAtOnce_46 (by decide) (fun c46 => ?_) (fun c46 => ?_)
      · refine z_iconst X (pc := 54) (v := 1) dX0_askAtOnce_54 (by decide) ?_
        refine z_goto X (pc := 55) (tgt := 59) dX0_askAtOnce_55 (by decide) ?_
        refine z_istore_n X (pc := 59) (lv1 := [(2, .int 1), (4, .int (zb (canAskB ((aoA g nm a i).1) i))), (3, .int (nI i)), (0, .ref (za E 12 0)), (1, .ref (za E 9 0))]) dX0_askAtOnce_59 rfl (by decide) rfl ?_
        refine z_iinc X (pc := 60) (v := (nI (i + 1))) (lv1 := [(3, .int (nI (i + 1))), (2, .int 1), (4, .int (zb (canAskB ((aoA g nm a i).1) i))), (0, .ref (za E 12 0)), (1, .ref (za E 9 0))]) 2 dX0_askAtOnce_60 rfl (nI_1 _) (by decide) rfl ?_
        refine z_goto X (pc := 63) (tgt := 4) dX0_askAtOnce_63 (by decide) ?_
        refine z_sub (lv' := [(3, .int (nI (i + 1))), (2, .int 1), (0, .ref (za E 12 0)), (1, .ref (za E 9 0))]) [0, 1, 3, 4] rfl ?_
        refine z_eq (lv' := [(3, .int (nI (i + 1))), (2, .int (zb ((aoA g nm a (i + 1)).2))), (0, .ref (za E 12 0)), (1, .ref (za E 9 0))]) (by first | (simp [aoA, zb, c12, c29, c46]; done) | (rw [c29] at c51; cases c51)) rfl ?_
        exact ih4 M_7 (by omega) (by simpa [aoA, c12, c29, c46] using hA_8)
      · refine z_iload X (pc := 49) 0 dX0_askAtOnce_49 rfl ?_
        refine z_bif_eq X (pc := 51) (tgt := 58) dX0_askAtOnce_51 (by decide) (fun c51 => ?_) (fun c51 => ?_)
        · refine z_iconst X (pc := 58) (v := 0) dX0_askAtOnce_58 (by decide) ?_
          refine z_istore_n X (pc := 59) (lv1 := [(2, .int 0), (4, .int (zb (canAskB ((aoA g nm a i).1) i))), (3, .int (nI i)), (0, .ref (za E 12 0)), (1, .ref (za E 9 0))]) dX0_askAtOnce_59 rfl (by decide) rfl ?_
          refine z_iinc X (pc := 60) (v := (nI (i + 1))) (lv1 := [(3, .int (nI (i + 1))), (2, .int 0), (4, .int (zb (canAskB ((aoA g nm a i).1) i))), (0, .ref (za E 12 0)), (1, .ref (za E 9 0))]) 2 dX0_askAtOnce_60 rfl (nI_1 _) (by decide) rfl ?_
          refine z_goto X (pc := 63) (tgt := 4) dX0_askAtOnce_63 (by decide) ?_
          refine z_sub (lv' := [(3, .int (nI (i + 1))), (2, .int 0), (0, .ref (za E 12 0)), (1, .ref (za E 9 0))]) [0, 1, 3, 4] rfl ?_
          refine z_eq (lv' := [(3, .int (nI (i + 1))), (2, .int (zb ((aoA g nm a (i + 1)).2))), (0, .ref (za E 12 0)), (1, .ref (za E 9 0))]) (by first | (simp [aoA, zb, c12, c29, c46, c51]; done) | (rw [c29] at c51; cases c51)) rfl ?_
          exact ih4 M_7 (by omega) (by simpa [aoA, c12, c29, c46, c51] using hA_8)
        · refine z_iconst X (pc := 54) (v := 1) dX0_askAtOnce_54 (by decide) ?_
          refine z_goto X (pc := 55) (tgt := 59) dX0_askAtOnce_55 (by decide) ?_
          refine z_istore_n X (pc := 59) (lv1 := [(2, .int 1), (4, .int (zb (canAskB ((aoA g nm a i).1) i))), (3, .int (nI i)), (0, .ref (za E 12 0)), (1, .ref (za E 9 0))]) dX0_askAtOnce_59 rfl (by decide) rfl ?_
          refine z_iinc X (pc := 60) (v := (nI (i + 1))) (lv1 := [(3, .int (nI (i + 1))), (2, .int 1), (4, .int (zb (canAskB ((aoA g nm a i).1) i))), (0, .ref (za E 12 0)), (1, .ref (za E 9 0))]) 2 dX0_askAtOnce_60 rfl (nI_1 _) (by decide) rfl ?_
          refine z_goto X (pc := 63) (tgt := 4) dX0_askAtOnce_63 (by decide) ?_
          refine z_sub (lv' := [(3, .int (nI (i + 1))), (2, .int 1), (0, .ref (za E 12 0)), (1, .ref (za E 9 0))]) [0, 1, 3, 4] rfl ?_
          refine z_eq (lv' := [(3, .int (nI (i + 1))), (2, .int (zb ((aoA g nm a (i + 1)).2))), (0, .ref (za E 12 0)), (1, .ref (za E 9 0))]) (by first | (simp [aoA, zb, c12, c29, c46, c51]; done) | (rw [c29] at c51; cases c51)) rfl ?_
          exact ih4 M_7 (by omega) (by simpa [aoA, c12, c29, c46, c51] using hA_8)

def rm_X0_bestOfAsking : Room := { frames := 3, cells := 0, slots := 0, locals := 65 }
theorem kv_X0_bestOfAsking : KV yX0_bestOfAsking RX0 cX0_bestOfAsking 5 (some .int) 2 := ⟨⟨gw_723, gw_724, gw_21, gw_725⟩, by decide +kernel⟩
set_option maxRecDepth 100000 in
set_option maxHeartbeats 4000000 in
theorem c_X0_bestOfAsking_12 (E : ZE) (M : Mem) (g : LG) (hg : gX (M 9) = g) (nc nm : Nat) (hnc : g 14 7 = nI nc) (hnm : g 14 8 = nI nm) (hn : nc ≤ 10) (hn2 : nm ≤ 10) (a : LG) (hA : SA 12 M a M) (m : Nat) (hm : m < 10) (hv : nOr (a 3 m) nc) : Mt E yX0_bestOfAsking cX0_bestOfAsking 5 (some .int) rm_X0_bestOfAsking [.ref (za E 12 0), .ref (za E 9 0), .int (nI m)] M (PI (bestC g a m nc) M) := by
  refine z_met (own := RX0) (lv := [(0, .ref (za E 12 0)), (1, .ref (za E 9 0)), (2, .int (nI m))]) (by decide) rfl (Nat.le_of_ble_eq_true rfl) rfl (fun gg X Y => ?_)
  refine z_aload_n X (pc := 0) 0 dX0_bestOfAsking_0 rfl rfl ?_
  refine z_get X (pc := 1) 3 zk_12_0 (zc_12_0 E _) rfl inlX0 (by decide) gw_103 rfl rfl dX0_bestOfAsking_1 ?_
  refine z_iload_n X (pc := 4) 2 dX0_bestOfAsking_4 rfl rfl ?_
  refine z_callV X (pc := 5) (rest := []) kv_X7_at (c_X7_at E M 12 10 m (by decide) (by decide) (show m < 10 by omega)) zk_12_10 (zc_12_10 E _) rfl rfl gw_292 (by decide) rfl rfl (Nat.le_of_ble_eq_true rfl) dX0_bestOfAsking_5 (zk_i ?_)
  refine z_top (y := (a 3 m)) (SA.row 3 hA rfl (by decide) (show m < 10 by omega)) ?_
  refine z_istore_n X (pc := 8) (lv1 := [(3, .int (a 3 m)), (0, .ref (za E 12 0)), (1, .ref (za E 9 0)), (2, .int (nI m))]) dX0_bestOfAsking_8 rfl (by decide) rfl ?_
  refine z_iconst X (pc := 9) (v := 0) dX0_bestOfAsking_9 (by decide) ?_
  refine z_istore X (pc := 10) (lv1 := [(4, .int 0), (3, .int (a 3 m)), (0, .ref (za E 12 0)), (1, .ref (za E 9 0)), (2, .int (nI m))]) dX0_bestOfAsking_10 (by decide) rfl ?_
  refine z_sub (lv' := [(4, .int (nI 0)), (3, .int (bestC g a m 0)), (0, .ref (za E 12 0)), (1, .ref (za E 9 0)), (2, .int (nI m))]) [0, 1, 2, 3, 4] rfl ?_
  refine z_loop (nc) 12 (σ := Unit) (fun i s => True) (fun i s => (M, [(4, .int (nI i)), (3, .int (bestC g a m i)), (0, .ref (za E 12 0)), (1, .ref (za E 9 0)), (2, .int (nI m))])) ?_ 0 () (Nat.zero_le _) trivial
  intro i s hi12 hJ12 ih12
  show Z gg E M [(4, .int (nI i)), (3, .int (bestC g a m i)), (0, .ref (za E 12 0)), (1, .ref (za E 9 0)), (2, .int (nI m))] 12 []
  refine z_iload X (pc := 12) 0 dX0_bestOfAsking_12 rfl ?_
  refine z_aload_n X (pc := 14) 3 dX0_bestOfAsking_14 rfl rfl ?_
  refine z_get X (pc := 15) 0 zk_9_0 (zc_9_0 E _) rfl inlX9 (by decide) gw_259 rfl rfl dX0_bestOfAsking_15 ?_
  refine z_get X (pc := 18) 0 zk_9_1 (zc_9_1 E _) rfl inlX2 (by decide) gw_264 rfl rfl dX0_bestOfAsking_18 ?_
  refine z_top (y := (nI nc)) ((S9.cc (S9.rf hg)).trans hnc) ?_
  refine z_nicmp_ge X (pc := 21) (a := i) (b := nc) (tgt := 74) dX0_bestOfAsking_21 (by decide) (by omega) (by omega) (fun c21 => ?_) (fun c21 => ?_)
  · refine z_iload_n X (pc := 74) 1 dX0_bestOfAsking_74 rfl rfl ?_
    exact z_pret X Y dX0_bestOfAsking_75 (by obtain rfl : nc = i := (by omega); rfl) rfl
  · refine z_aload_n X (pc := 24) 2 dX0_bestOfAsking_24 rfl rfl ?_
    refine z_get X (pc := 25) 1 zk_12_0 (zc_12_0 E _) rfl inlX0 (by decide) gw_101 rfl rfl dX0_bestOfAsking_25 ?_
    refine z_iload X (pc := 28) 0 dX0_bestOfAsking_28 rfl ?_
    refine z_callV X (pc := 30) (rest := []) kv_X7_at (c_X7_at E M 12 6 i (by decide) (by decide) (show i < 10 by omega)) zk_12_6 (zc_12_6 E _) rfl rfl gw_292 (by decide) rfl rfl (Nat.le_of_ble_eq_true rfl) dX0_bestOfAsking_30 (zk_i ?_)
    refine z_top (y := (a 1 i)) (SA.row 1 hA rfl (by decide) (show i < 10 by omega)) ?_
    refine z_iload_n X (pc := 33) 4 dX0_bestOfAsking_33 rfl rfl ?_
    refine z_icmp_ne X (pc := 34) (tgt := 68) dX0_bestOfAsking_34 (by decide) (fun c34 => ?_) (fun c34 => ?_)
    · refine z_iinc X (pc := 68) (v := (nI (i + 1))) (lv1 := [(4, .int (nI (i + 1))), (3, .int (bestC g a m i)), (0, .ref (za E 12 0)), (1, .ref (za E 9 0)), (2, .int (nI m))]) 0 dX0_bestOfAsking_68 rfl (nI_1 _) (by decide) rfl ?_
      refine z_goto X (pc := 71) (tgt := 12) dX0_bestOfAsking_71 (by decide) ?_
      refine z_sub (lv' := [(4, .int (nI (i + 1))), (3, .int (bestC g a m i)), (0, .ref (za E 12 0)), (1, .ref (za E 9 0)), (2, .int (nI m))]) [0, 1, 2, 3, 4] rfl ?_
      refine z_eq (lv' := [(4, .int (nI (i + 1))), (3, .int (bestC g a m (i + 1))), (0, .ref (za E 12 0)), (1, .ref (za E 9 0)), (2, .int (nI m))]) (by simp [bestC, c21, c34]) rfl ?_
      exact ih12 () (by omega) trivial
    · refine z_aload_n X (pc := 37) 3 dX0_bestOfAsking_37 rfl rfl ?_
      refine z_iload_n X (pc := 38) 4 dX0_bestOfAsking_38 rfl rfl ?_
      refine z_iload X (pc := 39) 0 dX0_bestOfAsking_39 rfl ?_
      refine z_callV X (pc := 41) (rest := []) kv_X9_bears (c_X9_bears E M g (And.left (S9.rf hg))  m i (show m < 10 by omega) (show i < 10 by omega)) zk_9_0 (zc_9_0 E _) rfl rfl gw_297 (by decide) rfl rfl (Nat.le_of_ble_eq_true rfl) dX0_bestOfAsking_41 (zk_i ?_)
      refine z_bif_eq X (pc := 44) (tgt := 68) dX0_bestOfAsking_44 (by decide) (fun c44 => ?_) (fun c44 => ?_)
      · refine z_iinc X (pc := 68) (v := (nI (i + 1))) (lv1 := [(4, .int (nI (i + 1))), (3, .int (bestC g a m i)), (0, .ref (za E 12 0)), (1, .ref (za E 9 0)), (2, .int (nI m))]) 0 dX0_bestOfAsking_68 rfl (nI_1 _) (by decide) rfl ?_
        refine z_goto X (pc := 71) (tgt := 12) dX0_bestOfAsking_71 (by decide) ?_
        refine z_sub (lv' := [(4, .int (nI (i + 1))), (3, .int (bestC g a m i)), (0, .ref (za E 12 0)), (1, .ref (za E 9 0)), (2, .int (nI m))]) [0, 1, 2, 3, 4] rfl ?_
        refine z_eq (lv' := [(4, .int (nI (i + 1))), (3, .int (bestC g a m (i + 1))), (0, .ref (za E 12 0)), (1, .ref (za E 9 0)), (2, .int (nI m))]) (by simp [bestC, c21, c34, c44]) rfl ?_
        exact ih12 () (by omega) trivial
      · refine z_iload_n X (pc := 47) 1 dX0_bestOfAsking_47 rfl rfl ?_
        refine z_iconst X (pc := 48) (v := (-1)) dX0_bestOfAsking_48 (by decide) ?_
        refine z_icmp_eq X (pc := 49) (tgt := 65) dX0_bestOfAsking_49 (by decide) (fun c49 => ?_) (fun c49 => ?_)
        · refine z_iload X (pc := 65) 0 dX0_bestOfAsking_65 rfl ?_
          refine z_istore_n X (pc := 67) (lv1 := [(3, .int (nI i)), (4, .int (nI i)), (0, .ref (za E 12 0)), (1, .ref (za E 9 0)), (2, .int (nI m))]) dX0_bestOfAsking_67 rfl (by decide) rfl ?_
          refine z_iinc X (pc := 68) (v := (nI (i + 1))) (lv1 := [(4, .int (nI (i + 1))), (3, .int (nI i)), (0, .ref (za E 12 0)), (1, .ref (za E 9 0)), (2, .int (nI m))]) 1 dX0_bestOfAsking_68 rfl (nI_1 _) (by decide) rfl ?_
          refine z_goto X (pc := 71) (tgt := 12) dX0_bestOfAsking_71 (by decide) ?_
          refine z_sub (lv' := [(4, .int (nI (i + 1))), (3, .int (nI i)), (0, .ref (za E 12 0)), (1, .ref (za E 9 0)), (2, .int (nI m))]) [0, 1, 2, 3, 4] rfl ?_
          refine z_eq (lv' := [(4, .int (nI (i + 1))), (3, .int (bestC g a m (i + 1))), (0, .ref (za E 12 0)), (1, .ref (za E 9 0)), (2, .int (nI m))]) (by simp [bestC, c21, c34, c44, c49]) rfl ?_
          exact ih12 () (by omega) trivial
        · refine z_aload_n X (pc := 52) 3 dX0_bestOfAsking_52 rfl rfl ?_
          refine z_get X (pc := 53) 0 zk_9_0 (zc_9_0 E _) rfl inlX9 (by decide) gw_259 rfl rfl dX0_bestOfAsking_53 ?_
          refine z_iload X (pc := 56) 0 dX0_bestOfAsking_56 rfl ?_
          refine z_iload_n X (pc := 58) 1 dX0_bestOfAsking_58 rfl rfl ?_
          rcases bestC_no (g := g) (n := i) hv (by omega) with hp59 | ⟨k59, hk59, hp59⟩
          · exact absurd hp59 c49
          · refine z_top (y := nI k59) hp59 ?_
            refine z_callV X (pc := 59) (rest := []) kv_X2_isRather (c_X2_isRather E M g (And.left (S9.rf hg))  i k59 (show i < 10 by omega) (show k59 < 10 by omega)) zk_9_1 (zc_9_1 E _) rfl rfl gw_307 (by decide) rfl rfl (Nat.le_of_ble_eq_true rfl) dX0_bestOfAsking_59 (zk_i ?_)
            refine z_bif_eq X (pc := 62) (tgt := 68) dX0_bestOfAsking_62 (by decide) (fun c62 => ?_) (fun c62 => ?_)
            · refine z_iinc X (pc := 68) (v := (nI (i + 1))) (lv1 := [(4, .int (nI (i + 1))), (3, .int (bestC g a m i)), (0, .ref (za E 12 0)), (1, .ref (za E 9 0)), (2, .int (nI m))]) 0 dX0_bestOfAsking_68 rfl (nI_1 _) (by decide) rfl ?_
              refine z_goto X (pc := 71) (tgt := 12) dX0_bestOfAsking_71 (by decide) ?_
              refine z_sub (lv' := [(4, .int (nI (i + 1))), (3, .int (bestC g a m i)), (0, .ref (za E 12 0)), (1, .ref (za E 9 0)), (2, .int (nI m))]) [0, 1, 2, 3, 4] rfl ?_
              refine z_eq (lv' := [(4, .int (nI (i + 1))), (3, .int (bestC g a m (i + 1))), (0, .ref (za E 12 0)), (1, .ref (za E 9 0)), (2, .int (nI m))]) (by simp [bestC, c21, c34, c44, c49, hp59, (nI_clamp (show k59 < 2 ^ 31 by omega)), (nI_ne_m1 (show k59 < 2 ^ 31 by omega)), c62]) rfl ?_
              exact ih12 () (by omega) trivial
            · refine z_iload X (pc := 65) 0 dX0_bestOfAsking_65 rfl ?_
              refine z_istore_n X (pc := 67) (lv1 := [(3, .int (nI i)), (4, .int (nI i)), (0, .ref (za E 12 0)), (1, .ref (za E 9 0)), (2, .int (nI m))]) dX0_bestOfAsking_67 rfl (by decide) rfl ?_
              refine z_iinc X (pc := 68) (v := (nI (i + 1))) (lv1 := [(4, .int (nI (i + 1))), (3, .int (nI i)), (0, .ref (za E 12 0)), (1, .ref (za E 9 0)), (2, .int (nI m))]) 1 dX0_bestOfAsking_68 rfl (nI_1 _) (by decide) rfl ?_
              refine z_goto X (pc := 71) (tgt := 12) dX0_bestOfAsking_71 (by decide) ?_
              refine z_sub (lv' := [(4, .int (nI (i + 1))), (3, .int (nI i)), (0, .ref (za E 12 0)), (1, .ref (za E 9 0)), (2, .int (nI m))]) [0, 1, 2, 3, 4] rfl ?_
              refine z_eq (lv' := [(4, .int (nI (i + 1))), (3, .int (bestC g a m (i + 1))), (0, .ref (za E 12 0)), (1, .ref (za E 9 0)), (2, .int (nI m))]) (by simp [bestC, c21, c34, c44, c49, hp59, (nI_clamp (show k59 < 2 ^ 31 by omega)), (nI_ne_m1 (show k59 < 2 ^ 31 by omega)), c62]) rfl ?_
              exact ih12 () (by omega) trivial

def rm_X0_move : Room := { frames := 1, cells := 0, slots := 0, locals := 22 }
theorem kv_X0_move : KV yX0_move RX0 cX0_move 3 none 2 := ⟨⟨gw_313, gw_314, gw_21, gw_315⟩, by decide +kernel⟩
set_option maxRecDepth 100000 in
set_option maxHeartbeats 4000000 in
theorem c_X0_move_11 (E : ZE) (M : Mem) (a : LG) (hA : SA 11 M a M) (m c : Nat) (hm : m < 10) (hc : c < 10) (hv : nOr (a 3 m) 10) : Mt E yX0_move cX0_move 3 none rm_X0_move [.ref (za E 11 0), .int (nI m), .int (nI c)] M (RV (SA 11 M (mvA a m c))) := by
  refine z_met (own := RX0) (lv := [(0, .ref (za E 11 0)), (1, .int (nI m)), (2, .int (nI c))]) (by decide) rfl (Nat.le_of_ble_eq_true rfl) rfl (fun gg X Y => ?_)
  refine z_aload_n X (pc := 0) 0 dX0_move_0 rfl rfl ?_
  refine z_get X (pc := 1) 2 zk_11_0 (zc_11_0 E _) rfl inlX0 (by decide) gw_102 rfl rfl dX0_move_1 ?_
  refine z_aload_n X (pc := 4) 0 dX0_move_4 rfl rfl ?_
  refine z_get X (pc := 5) 3 zk_11_0 (zc_11_0 E _) rfl inlX0 (by decide) gw_103 rfl rfl dX0_move_5 ?_
  refine z_iload_n X (pc := 8) 1 dX0_move_8 rfl rfl ?_
  refine z_callV X (pc := 9) (rest := [.ref (za E 11 8)]) kv_X7_at (c_X7_at E M 11 10 m (by decide) (by decide) (show m < 10 by omega)) zk_11_10 (zc_11_10 E _) rfl rfl gw_292 (by decide) rfl rfl (Nat.le_of_ble_eq_true rfl) dX0_move_9 (zk_i ?_)
  refine z_top (y := (a 3 m)) (SA.row 3 hA rfl (by decide) (show m < 10 by omega)) ?_
  rcases (show nOr (a 3 m) 10 from hv) with hp12 | ⟨k12, hk12, hp12⟩
  · refine z_top (y := ((-1))) hp12 ?_
    refine z_iconst X (pc := 12) (v := (-1)) dX0_move_12 (by decide) ?_
    refine z_callV X (pc := 13) (rest := []) kv_X7_put (c_X7_put_no E M 11 8 ((-1)) (by decide)) zk_11_8 (zc_11_8 E _) rfl rfl gw_283 (by decide) rfl rfl (Nat.le_of_ble_eq_true rfl) dX0_move_13 (zk_v ?_)
    refine z_aload_n X (pc := 16) 0 dX0_move_16 rfl rfl ?_
    refine z_get X (pc := 17) 2 zk_11_0 (zc_11_0 E _) rfl inlX0 (by decide) gw_102 rfl rfl dX0_move_17 ?_
    refine z_iload_n X (pc := 20) 2 dX0_move_20 rfl rfl ?_
    refine z_iload_n X (pc := 21) 1 dX0_move_21 rfl rfl ?_
    refine z_callV X (pc := 22) (rest := []) kv_X7_put (c_X7_put E M 11 8 c (nI m) (by decide) (by decide) (show c < 10 by omega)) zk_11_8 (zc_11_8 E _) rfl rfl gw_283 (by decide) rfl rfl (Nat.le_of_ble_eq_true rfl) dX0_move_22 (zk_v ?_)
    refine z_gen (SA.put 2 hA rfl (by decide) (show c < 10 by omega)) (fun M_1 hA_2 => ?_)
    refine z_aload_n X (pc := 25) 0 dX0_move_25 rfl rfl ?_
    refine z_get X (pc := 26) 3 zk_11_0 (zc_11_0 E _) rfl inlX0 (by decide) gw_103 rfl rfl dX0_move_26 ?_
    refine z_iload_n X (pc := 29) 1 dX0_move_29 rfl rfl ?_
    refine z_iload_n X (pc := 30) 2 dX0_move_30 rfl rfl ?_
    refine z_callV X (pc := 31) (rest := []) kv_X7_put (c_X7_put E M_1 11 10 m (nI c) (by decide) (by decide) (show m < 10 by omega)) zk_11_10 (zc_11_10 E _) rfl rfl gw_283 (by decide) rfl rfl (Nat.le_of_ble_eq_true rfl) dX0_move_31 (zk_v ?_)
    refine z_gen (SA.put 3 hA_2 rfl (by decide) (show m < 10 by omega)) (fun M_3 hA_4 => ?_)
    exact z_vret X Y dX0_move_34 ⟨rfl, by simpa [mvA, usA, hp12, nI_ne_m1 (show 0 < 2 ^ 31 by omega), nI_clamp (show 0 < 2 ^ 31 by omega)] using hA_4⟩
  · refine z_top (y := (nI k12)) hp12 ?_
    refine z_iconst X (pc := 12) (v := (-1)) dX0_move_12 (by decide) ?_
    refine z_callV X (pc := 13) (rest := []) kv_X7_put (c_X7_put E M 11 8 k12 ((-1)) (by decide) (by decide) (show k12 < 10 by omega)) zk_11_8 (zc_11_8 E _) rfl rfl gw_283 (by decide) rfl rfl (Nat.le_of_ble_eq_true rfl) dX0_move_13 (zk_v ?_)
    refine z_gen (SA.put 2 hA rfl (by decide) (show k12 < 10 by omega)) (fun M_5 hA_6 => ?_)
    refine z_aload_n X (pc := 16) 0 dX0_move_16 rfl rfl ?_
    refine z_get X (pc := 17) 2 zk_11_0 (zc_11_0 E _) rfl inlX0 (by decide) gw_102 rfl rfl dX0_move_17 ?_
    refine z_iload_n X (pc := 20) 2 dX0_move_20 rfl rfl ?_
    refine z_iload_n X (pc := 21) 1 dX0_move_21 rfl rfl ?_
    refine z_callV X (pc := 22) (rest := []) kv_X7_put (c_X7_put E M_5 11 8 c (nI m) (by decide) (by decide) (show c < 10 by omega)) zk_11_8 (zc_11_8 E _) rfl rfl gw_283 (by decide) rfl rfl (Nat.le_of_ble_eq_true rfl) dX0_move_22 (zk_v ?_)
    refine z_gen (SA.put 2 hA_6 rfl (by decide) (show c < 10 by omega)) (fun M_7 hA_8 => ?_)
    refine z_aload_n X (pc := 25) 0 dX0_move_25 rfl rfl ?_
    refine z_get X (pc := 26) 3 zk_11_0 (zc_11_0 E _) rfl inlX0 (by decide) gw_103 rfl rfl dX0_move_26 ?_
    refine z_iload_n X (pc := 29) 1 dX0_move_29 rfl rfl ?_
    refine z_iload_n X (pc := 30) 2 dX0_move_30 rfl rfl ?_
    refine z_callV X (pc := 31) (rest := []) kv_X7_put (c_X7_put E M_7 11 10 m (nI c) (by decide) (by decide) (show m < 10 by omega)) zk_11_10 (zc_11_10 E _) rfl rfl gw_283 (by decide) rfl rfl (Nat.le_of_ble_eq_true rfl) dX0_move_31 (zk_v ?_)
    refine z_gen (SA.put 3 hA_8 rfl (by decide) (show m < 10 by omega)) (fun M_9 hA_10 => ?_)
    exact z_vret X Y dX0_move_34 ⟨rfl, by simpa [mvA, usA, hp12, nI_ne_m1 (show k12 < 2 ^ 31 by omega), nI_clamp (show k12 < 2 ^ 31 by omega)] using hA_10⟩
set_option maxRecDepth 100000 in
set_option maxHeartbeats 4000000 in
theorem c_X0_move_12 (E : ZE) (M : Mem) (a : LG) (hA : SA 12 M a M) (m c : Nat) (hm : m < 10) (hc : c < 10) (hv : nOr (a 3 m) 10) : Mt E yX0_move cX0_move 3 none rm_X0_move [.ref (za E 12 0), .int (nI m), .int (nI c)] M (RV (SA 12 M (mvA a m c))) := by
  refine z_met (own := RX0) (lv := [(0, .ref (za E 12 0)), (1, .int (nI m)), (2, .int (nI c))]) (by decide) rfl (Nat.le_of_ble_eq_true rfl) rfl (fun gg X Y => ?_)
  refine z_aload_n X (pc := 0) 0 dX0_move_0 rfl rfl ?_
  refine z_get X (pc := 1) 2 zk_12_0 (zc_12_0 E _) rfl inlX0 (by decide) gw_102 rfl rfl dX0_move_1 ?_
  refine z_aload_n X (pc := 4) 0 dX0_move_4 rfl rfl ?_
  refine z_get X (pc := 5) 3 zk_12_0 (zc_12_0 E _) rfl inlX0 (by decide) gw_103 rfl rfl dX0_move_5 ?_
  refine z_iload_n X (pc := 8) 1 dX0_move_8 rfl rfl ?_
  refine z_callV X (pc := 9) (rest := [.ref (za E 12 8)]) kv_X7_at (c_X7_at E M 12 10 m (by decide) (by decide) (show m < 10 by omega)) zk_12_10 (zc_12_10 E _) rfl rfl gw_292 (by decide) rfl rfl (Nat.le_of_ble_eq_true rfl) dX0_move_9 (zk_i ?_)
  refine z_top (y := (a 3 m)) (SA.row 3 hA rfl (by decide) (show m < 10 by omega)) ?_
  rcases (show nOr (a 3 m) 10 from hv) with hp12 | ⟨k12, hk12, hp12⟩
  · refine z_top (y := ((-1))) hp12 ?_
    refine z_iconst X (pc := 12) (v := (-1)) dX0_move_12 (by decide) ?_
    refine z_callV X (pc := 13) (rest := []) kv_X7_put (c_X7_put_no E M 12 8 ((-1)) (by decide)) zk_12_8 (zc_12_8 E _) rfl rfl gw_283 (by decide) rfl rfl (Nat.le_of_ble_eq_true rfl) dX0_move_13 (zk_v ?_)
    refine z_aload_n X (pc := 16) 0 dX0_move_16 rfl rfl ?_
    refine z_get X (pc := 17) 2 zk_12_0 (zc_12_0 E _) rfl inlX0 (by decide) gw_102 rfl rfl dX0_move_17 ?_
    refine z_iload_n X (pc := 20) 2 dX0_move_20 rfl rfl ?_
    refine z_iload_n X (pc := 21) 1 dX0_move_21 rfl rfl ?_
    refine z_callV X (pc := 22) (rest := []) kv_X7_put (c_X7_put E M 12 8 c (nI m) (by decide) (by decide) (show c < 10 by omega)) zk_12_8 (zc_12_8 E _) rfl rfl gw_283 (by decide) rfl rfl (Nat.le_of_ble_eq_true rfl) dX0_move_22 (zk_v ?_)
    refine z_gen (SA.put 2 hA rfl (by decide) (show c < 10 by omega)) (fun M_1 hA_2 => ?_)
    refine z_aload_n X (pc := 25) 0 dX0_move_25 rfl rfl ?_
    refine z_get X (pc := 26) 3 zk_12_0 (zc_12_0 E _) rfl inlX0 (by decide) gw_103 rfl rfl dX0_move_26 ?_
    refine z_iload_n X (pc := 29) 1 dX0_move_29 rfl rfl ?_
    refine z_iload_n X (pc := 30) 2 dX0_move_30 rfl rfl ?_
    refine z_callV X (pc := 31) (rest := []) kv_X7_put (c_X7_put E M_1 12 10 m (nI c) (by decide) (by decide) (show m < 10 by omega)) zk_12_10 (zc_12_10 E _) rfl rfl gw_283 (by decide) rfl rfl (Nat.le_of_ble_eq_true rfl) dX0_move_31 (zk_v ?_)
    refine z_gen (SA.put 3 hA_2 rfl (by decide) (show m < 10 by omega)) (fun M_3 hA_4 => ?_)
    exact z_vret X Y dX0_move_34 ⟨rfl, by simpa [mvA, usA, hp12, nI_ne_m1 (show 0 < 2 ^ 31 by omega), nI_clamp (show 0 < 2 ^ 31 by omega)] using hA_4⟩
  · refine z_top (y := (nI k12)) hp12 ?_
    refine z_iconst X (pc := 12) (v := (-1)) dX0_move_12 (by decide) ?_
    refine z_callV X (pc := 13) (rest := []) kv_X7_put (c_X7_put E M 12 8 k12 ((-1)) (by decide) (by decide) (show k12 < 10 by omega)) zk_12_8 (zc_12_8 E _) rfl rfl gw_283 (by decide) rfl rfl (Nat.le_of_ble_eq_true rfl) dX0_move_13 (zk_v ?_)
    refine z_gen (SA.put 2 hA rfl (by decide) (show k12 < 10 by omega)) (fun M_5 hA_6 => ?_)
    refine z_aload_n X (pc := 16) 0 dX0_move_16 rfl rfl ?_
    refine z_get X (pc := 17) 2 zk_12_0 (zc_12_0 E _) rfl inlX0 (by decide) gw_102 rfl rfl dX0_move_17 ?_
    refine z_iload_n X (pc := 20) 2 dX0_move_20 rfl rfl ?_
    refine z_iload_n X (pc := 21) 1 dX0_move_21 rfl rfl ?_
    refine z_callV X (pc := 22) (rest := []) kv_X7_put (c_X7_put E M_5 12 8 c (nI m) (by decide) (by decide) (show c < 10 by omega)) zk_12_8 (zc_12_8 E _) rfl rfl gw_283 (by decide) rfl rfl (Nat.le_of_ble_eq_true rfl) dX0_move_22 (zk_v ?_)
    refine z_gen (SA.put 2 hA_6 rfl (by decide) (show c < 10 by omega)) (fun M_7 hA_8 => ?_)
    refine z_aload_n X (pc := 25) 0 dX0_move_25 rfl rfl ?_
    refine z_get X (pc := 26) 3 zk_12_0 (zc_12_0 E _) rfl inlX0 (by decide) gw_103 rfl rfl dX0_move_26 ?_
    refine z_iload_n X (pc := 29) 1 dX0_move_29 rfl rfl ?_
    refine z_iload_n X (pc := 30) 2 dX0_move_30 rfl rfl ?_
    refine z_callV X (pc := 31) (rest := []) kv_X7_put (c_X7_put E M_7 12 10 m (nI c) (by decide) (by decide) (show m < 10 by omega)) zk_12_10 (zc_12_10 E _) rfl rfl gw_283 (by decide) rfl rfl (Nat.le_of_ble_eq_true rfl) dX0_move_31 (zk_v ?_)
    refine z_gen (SA.put 3 hA_8 rfl (by decide) (show m < 10 by omega)) (fun M_9 hA_10 => ?_)
    exact z_vret X Y dX0_move_34 ⟨rfl, by simpa [mvA, usA, hp12, nI_ne_m1 (show k12 < 2 ^ 31 by omega), nI_clamp (show k12 < 2 ^ 31 by omega)] using hA_10⟩

def rm_X0_byTurns : Room := { frames := 3, cells := 0, slots := 0, locals := 71 }
theorem kv_X0_byTurns : KV yX0_byTurns RX0 cX0_byTurns 6 none 1 := ⟨⟨gw_256, gw_257, gw_21, gw_258⟩, by decide +kernel⟩
set_option maxRecDepth 100000 in
set_option maxHeartbeats 4000000 in
theorem c_X0_byTurns_11 (E : ZE) (M : Mem) (g : LG) (hg : gX (M 9) = g) (nc nm : Nat) (hnc : g 14 7 = nI nc) (hnm : g 14 8 = nI nm) (hn : nc ≤ 10) (hn2 : nm ≤ 10) (hF : Fb g nc nm) : Mt E yX0_byTurns cX0_byTurns 6 none rm_X0_byTurns [.ref (za E 11 0), .ref (za E 9 0)] M (RV (fun M1 => ∃ a, SA 11 M a M1 ∧ DAr g nc nm a)) := by
  refine z_met (own := RX0) (lv := [(0, .ref (za E 11 0)), (1, .ref (za E 9 0))]) (by decide) rfl (Nat.le_of_ble_eq_true rfl) rfl (fun gg X Y => ?_)
  refine z_aload_n X (pc := 0) 0 dX0_byTurns_0 rfl rfl ?_
  refine z_aload_n X (pc := 1) 1 dX0_byTurns_1 rfl rfl ?_
  refine z_callV X (pc := 2) (rest := []) kv_X0_begin (c_X0_begin_11 E M g hg nc nm hnc hnm hn hn2) zk_11_0 (zc_11_0 E _) rfl rfl gw_260 (by decide) rfl rfl (Nat.le_of_ble_eq_true rfl) dX0_byTurns_2 (zk_rv (fun M_1 hA_2 => ?_))
  refine z_iconst X (pc := 5) (v := 0) dX0_byTurns_5 (by decide) ?_
  refine z_istore_n X (pc := 6) (lv1 := [(2, .int 0), (0, .ref (za E 11 0)), (1, .ref (za E 9 0))]) dX0_byTurns_6 rfl (by decide) rfl ?_
  refine z_sub (lv' := [(2, .int (nI 0)), (0, .ref (za E 11 0)), (1, .ref (za E 9 0))]) [0, 1, 2] rfl ?_
  refine z_loop (100) 7 (σ := Mem × LG × Rl) (fun i s => SA 11 M s.2.1 s.1 ∧ TI g nc nm s.2.1 s.2.2 ∧ i ≤ dcnt s.2.2) (fun i s => (s.1, [(2, .int (nI i)), (0, .ref (za E 11 0)), (1, .ref (za E 9 0))])) ?_ 0 ⟨M_1, plA (begA g nm (aOf M 11) nc) nm, fun _ _ => false⟩ (Nat.zero_le _) ⟨hA_2, TI_init hF, Nat.zero_le _⟩
  intro i s hi7 hJ7 ih7
  obtain ⟨M1, a, A⟩ := s
  show Z gg E M1 [(2, .int (nI i)), (0, .ref (za E 11 0)), (1, .ref (za E 9 0))] 7 []
  replace hJ7 : SA 11 M a M1 ∧ TI g nc nm a A ∧ i ≤ dcnt A := hJ7
  obtain ⟨hA, hT, hi⟩ := hJ7
  refine z_iload_n X (pc := 7) 0 dX0_byTurns_7 rfl rfl ?_
  refine z_bipush X (pc := 8) (v := 100) dX0_byTurns_8 (by decide) ?_
  refine z_nicmp_ge X (pc := 10) (a := i) (b := 100) (tgt := 86) dX0_byTurns_10 (by decide) (by omega) (by omega) (fun c10 => ?_) (fun c10 => ?_)
  · exact z_vret X Y dX0_byTurns_86 ⟨rfl, a, hA, A, hT, hT.full hF (by omega)⟩
  · refine z_aload_n X (pc := 13) 1 dX0_byTurns_13 rfl rfl ?_
    refine z_aload_n X (pc := 14) 2 dX0_byTurns_14 rfl rfl ?_
    refine z_callV X (pc := 15) (rest := []) kv_X0_lowestThatCanAsk (c_X0_lowestThatCanAsk_11 E M1 g (SA.g9 hA (by decide) hg) nc nm hnc hnm hn hn2 a (SA.self hA)) zk_11_0 (zc_11_0 E _) rfl rfl gw_284 (by decide) rfl rfl (Nat.le_of_ble_eq_true rfl) dX0_byTurns_15 (zk_ri (fun v_5 M_3 h_4 => ?_))
    rcases h_4 with ⟨rfl, ⟨rfl, hno⟩ | ⟨c, hc, rfl, hk⟩⟩
    · refine z_istore_n X (pc := 18) (lv1 := [(3, .int ((-1))), (2, .int (nI i)), (0, .ref (za E 11 0)), (1, .ref (za E 9 0))]) dX0_byTurns_18 rfl (by decide) rfl ?_
      refine z_iload_n X (pc := 19) 0 dX0_byTurns_19 rfl rfl ?_
      refine z_iconst X (pc := 20) (v := (-1)) dX0_byTurns_20 (by decide) ?_
      refine z_icmp_ne X (pc := 21) (tgt := 25) dX0_byTurns_21 (by decide) (fun c21 => ?_) (fun c21 => ?_)
      · exact absurd c21 (by decide)
      · exact z_vret X Y dX0_byTurns_24 ⟨rfl, a, hA, A, hT, hT.stops hF hno⟩
    · refine z_istore_n X (pc := 18) (lv1 := [(3, .int (nI c)), (2, .int (nI i)), (0, .ref (za E 11 0)), (1, .ref (za E 9 0))]) dX0_byTurns_18 rfl (by decide) rfl ?_
      refine z_iload_n X (pc := 19) 0 dX0_byTurns_19 rfl rfl ?_
      refine z_iconst X (pc := 20) (v := (-1)) dX0_byTurns_20 (by decide) ?_
      refine z_icmp_ne X (pc := 21) (tgt := 25) dX0_byTurns_21 (by decide) (fun _ => ?_) (fun q => absurd q (nI_ne_m1 (by omega)))
      refine z_aload_n X (pc := 25) 2 dX0_byTurns_25 rfl rfl ?_
      refine z_aload_n X (pc := 26) 3 dX0_byTurns_26 rfl rfl ?_
      refine z_iload_n X (pc := 27) 0 dX0_byTurns_27 rfl rfl ?_
      refine z_callV X (pc := 28) (rest := []) kv_X0_askNext (c_X0_askNext_11 E M1 g (SA.g9 hA (by decide) hg) nc nm hnc hnm hn hn2 a (SA.self hA) c (show c < 10 by omega)) zk_11_0 (zc_11_0 E _) rfl rfl gw_293 (by decide) rfl rfl (Nat.le_of_ble_eq_true rfl) dX0_byTurns_28 (zk_ri (fun v_8 M_6 h_7 => ?_))
      refine z_top (y := (askV g a nm c)) h_7.1 ?_
      have hA_9 := SA.trans hA h_7.2
      obtain ⟨m, hm, hv, hd⟩ := hT.ask hF hc hk
      refine z_top (y := (nI m)) hv ?_
      refine z_istore X (pc := 31) (lv1 := [(4, .int (nI m)), (3, .int (nI c)), (2, .int (nI i)), (0, .ref (za E 11 0)), (1, .ref (za E 9 0))]) dX0_byTurns_31 (by decide) rfl ?_
      refine z_aload_n X (pc := 33) 3 dX0_byTurns_33 rfl rfl ?_
      refine z_get X (pc := 34) 3 zk_11_0 (zc_11_0 E _) rfl inlX0 (by decide) gw_103 rfl rfl dX0_byTurns_34 ?_
      refine z_iload X (pc := 37) 0 dX0_byTurns_37 rfl ?_
      refine z_callV X (pc := 39) (rest := []) kv_X7_at (c_X7_at E M_6 11 10 m (by decide) (by decide) (show m < 10 by omega)) zk_11_10 (zc_11_10 E _) rfl rfl gw_292 (by decide) rfl rfl (Nat.le_of_ble_eq_true rfl) dX0_byTurns_39 (zk_i ?_)
      refine z_top (y := ((askA g a nm c) 3 m)) (SA.row 3 hA_9 rfl (by decide) (show m < 10 by omega)) ?_
      refine z_top (y := (a 3 m)) (askA_n (by decide)) ?_
      refine z_istore X (pc := 42) (lv1 := [(5, .int (a 3 m)), (4, .int (nI m)), (3, .int (nI c)), (2, .int (nI i)), (0, .ref (za E 11 0)), (1, .ref (za E 9 0))]) dX0_byTurns_42 (by decide) rfl ?_
      refine z_aload_n X (pc := 44) 5 dX0_byTurns_44 rfl rfl ?_
      refine z_iload X (pc := 45) 1 dX0_byTurns_45 rfl ?_
      refine z_iload_n X (pc := 47) 2 dX0_byTurns_47 rfl rfl ?_
      refine z_callV X (pc := 48) (rest := []) kv_X9_bears (c_X9_bears E M_6 g (And.left (S9.rf (SA.g9 hA_9 (by decide) hg)))  m c (show m < 10 by omega) (show c < 10 by omega)) zk_9_0 (zc_9_0 E _) rfl rfl gw_297 (by decide) rfl rfl (Nat.le_of_ble_eq_true rfl) dX0_byTurns_48 (zk_i ?_)
      refine z_bif_eq X (pc := 51) (tgt := 80) dX0_byTurns_51 (by decide) (fun c51 => ?_) (fun c51 => ?_)
      · refine z_iinc X (pc := 80) (v := (nI (i + 1))) (lv1 := [(2, .int (nI (i + 1))), (5, .int (a 3 m)), (4, .int (nI m)), (3, .int (nI c)), (0, .ref (za E 11 0)), (1, .ref (za E 9 0))]) 3 dX0_byTurns_80 rfl (nI_1 _) (by decide) rfl ?_
        refine z_goto X (pc := 83) (tgt := 7) dX0_byTurns_83 (by decide) ?_
        refine z_sub (lv' := [(2, .int (nI (i + 1))), (0, .ref (za E 11 0)), (1, .ref (za E 9 0))]) [0, 4, 5] rfl ?_
        exact ih7 ⟨M_6, askA g a nm c, dadd A c m⟩ (by omega) ⟨hA_9, TI.stay hF hT hc hm hv hd (Or.inl c51), (show i + 1 ≤ dcnt (dadd A c m) by have := dadd_lt hF hc hm hd.2.1; omega)⟩
      · refine z_iload X (pc := 54) 0 dX0_byTurns_54 rfl ?_
        refine z_iconst X (pc := 56) (v := (-1)) dX0_byTurns_56 (by decide) ?_
        refine z_icmp_eq X (pc := 57) (tgt := 73) dX0_byTurns_57 (by decide) (fun c57 => ?_) (fun c57 => ?_)
        · refine z_aload_n X (pc := 73) 4 dX0_byTurns_73 rfl rfl ?_
          refine z_iload X (pc := 74) 1 dX0_byTurns_74 rfl ?_
          refine z_iload_n X (pc := 76) 2 dX0_byTurns_76 rfl rfl ?_
          refine z_callV X (pc := 77) (rest := []) kv_X0_move (c_X0_move_11 E M_6 (askA g a nm c) (SA.self hA_9) m c (show m < 10 by omega) (show c < 10 by omega) (by rw [askA_n (by decide)]; exact nOr.le (hT.nor hm) (by omega))) zk_11_0 (zc_11_0 E _) rfl rfl gw_312 (by decide) rfl rfl (Nat.le_of_ble_eq_true rfl) dX0_byTurns_77 (zk_rv (fun M_10 h_11 => ?_))
          have hA_12 := SA.trans hA_9 h_11
          refine z_iinc X (pc := 80) (v := (nI (i + 1))) (lv1 := [(2, .int (nI (i + 1))), (5, .int (a 3 m)), (4, .int (nI m)), (3, .int (nI c)), (0, .ref (za E 11 0)), (1, .ref (za E 9 0))]) 3 dX0_byTurns_80 rfl (nI_1 _) (by decide) rfl ?_
          refine z_goto X (pc := 83) (tgt := 7) dX0_byTurns_83 (by decide) ?_
          refine z_sub (lv' := [(2, .int (nI (i + 1))), (0, .ref (za E 11 0)), (1, .ref (za E 9 0))]) [0, 4, 5] rfl ?_
          exact ih7 ⟨M_10, mvA (askA g a nm c) m c, dadd A c m⟩ (by omega) ⟨hA_12, TI.move hF hT hc hm hk hv hd c51 (Or.inl c57), (show i + 1 ≤ dcnt (dadd A c m) by have := dadd_lt hF hc hm hd.2.1; omega)⟩
        · refine z_aload_n X (pc := 60) 5 dX0_byTurns_60 rfl rfl ?_
          refine z_get X (pc := 61) 0 zk_9_0 (zc_9_0 E _) rfl inlX9 (by decide) gw_259 rfl rfl dX0_byTurns_61 ?_
          refine z_iload_n X (pc := 64) 2 dX0_byTurns_64 rfl rfl ?_
          refine z_iload X (pc := 65) 0 dX0_byTurns_65 rfl ?_
          obtain ⟨k67, hk67, hp67⟩ : ∃ k, k < nc ∧ a 3 m = nI k := (hT.nor hm).resolve_left c57
          refine z_top (y := nI k67) hp67 ?_
          refine z_callV X (pc := 67) (rest := []) kv_X2_isRather (c_X2_isRather E M_6 g (And.left (S9.rf (SA.g9 hA_9 (by decide) hg)))  c k67 (show c < 10 by omega) (show k67 < 10 by omega)) zk_9_1 (zc_9_1 E _) rfl rfl gw_307 (by decide) rfl rfl (Nat.le_of_ble_eq_true rfl) dX0_byTurns_67 (zk_i ?_)
          refine z_bif_eq X (pc := 70) (tgt := 80) dX0_byTurns_70 (by decide) (fun c70 => ?_) (fun c70 => ?_)
          · refine z_iinc X (pc := 80) (v := (nI (i + 1))) (lv1 := [(2, .int (nI (i + 1))), (5, .int (a 3 m)), (4, .int (nI m)), (3, .int (nI c)), (0, .ref (za E 11 0)), (1, .ref (za E 9 0))]) 3 dX0_byTurns_80 rfl (nI_1 _) (by decide) rfl ?_
            refine z_goto X (pc := 83) (tgt := 7) dX0_byTurns_83 (by decide) ?_
            refine z_sub (lv' := [(2, .int (nI (i + 1))), (0, .ref (za E 11 0)), (1, .ref (za E 9 0))]) [0, 4, 5] rfl ?_
            exact ih7 ⟨M_6, askA g a nm c, dadd A c m⟩ (by omega) ⟨hA_9, TI.stay hF hT hc hm hv hd (Or.inr ⟨k67, hk67, hp67, c70⟩), (show i + 1 ≤ dcnt (dadd A c m) by have := dadd_lt hF hc hm hd.2.1; omega)⟩
          · refine z_aload_n X (pc := 73) 4 dX0_byTurns_73 rfl rfl ?_
            refine z_iload X (pc := 74) 1 dX0_byTurns_74 rfl ?_
            refine z_iload_n X (pc := 76) 2 dX0_byTurns_76 rfl rfl ?_
            refine z_callV X (pc := 77) (rest := []) kv_X0_move (c_X0_move_11 E M_6 (askA g a nm c) (SA.self hA_9) m c (show m < 10 by omega) (show c < 10 by omega) (by rw [askA_n (by decide)]; exact nOr.le (hT.nor hm) (by omega))) zk_11_0 (zc_11_0 E _) rfl rfl gw_312 (by decide) rfl rfl (Nat.le_of_ble_eq_true rfl) dX0_byTurns_77 (zk_rv (fun M_13 h_14 => ?_))
            have hA_15 := SA.trans hA_9 h_14
            refine z_iinc X (pc := 80) (v := (nI (i + 1))) (lv1 := [(2, .int (nI (i + 1))), (5, .int (a 3 m)), (4, .int (nI m)), (3, .int (nI c)), (0, .ref (za E 11 0)), (1, .ref (za E 9 0))]) 3 dX0_byTurns_80 rfl (nI_1 _) (by decide) rfl ?_
            refine z_goto X (pc := 83) (tgt := 7) dX0_byTurns_83 (by decide) ?_
            refine z_sub (lv' := [(2, .int (nI (i + 1))), (0, .ref (za E 11 0)), (1, .ref (za E 9 0))]) [0, 4, 5] rfl ?_
            exact ih7 ⟨M_13, mvA (askA g a nm c) m c, dadd A c m⟩ (by omega) ⟨hA_15, TI.move hF hT hc hm hk hv hd c51 (Or.inr ⟨k67, hk67, hp67, c70⟩), (show i + 1 ≤ dcnt (dadd A c m) by have := dadd_lt hF hc hm hd.2.1; omega)⟩

def rm_X0_byRounds : Room := { frames := 4, cells := 0, slots := 0, locals := 95 }
theorem kv_X0_byRounds : KV yX0_byRounds RX0 cX0_byRounds 5 none 1 := ⟨⟨gw_715, gw_716, gw_21, gw_717⟩, by decide +kernel⟩
set_option maxRecDepth 100000 in
set_option maxHeartbeats 4000000 in
theorem c_X0_byRounds_12 (E : ZE) (M : Mem) (g : LG) (hg : gX (M 9) = g) (nc nm : Nat) (hnc : g 14 7 = nI nc) (hnm : g 14 8 = nI nm) (hn : nc ≤ 10) (hn2 : nm ≤ 10) (hF : Fb g nc nm) : Mt E yX0_byRounds cX0_byRounds 5 none rm_X0_byRounds [.ref (za E 12 0), .ref (za E 9 0)] M (RV (fun M1 => ∃ a, SA 12 M a M1 ∧ DAr g nc nm a)) := by
  refine z_met (own := RX0) (lv := [(0, .ref (za E 12 0)), (1, .ref (za E 9 0))]) (by decide) rfl (Nat.le_of_ble_eq_true rfl) rfl (fun gg X Y => ?_)
  refine z_aload_n X (pc := 0) 0 dX0_byRounds_0 rfl rfl ?_
  refine z_aload_n X (pc := 1) 1 dX0_byRounds_1 rfl rfl ?_
  refine z_callV X (pc := 2) (rest := []) kv_X0_begin (c_X0_begin_12 E M g hg nc nm hnc hnm hn hn2) zk_12_0 (zc_12_0 E _) rfl rfl gw_260 (by decide) rfl rfl (Nat.le_of_ble_eq_true rfl) dX0_byRounds_2 (zk_rv (fun M_1 hA_2 => ?_))
  refine z_iconst X (pc := 5) (v := 0) dX0_byRounds_5 (by decide) ?_
  refine z_istore_n X (pc := 6) (lv1 := [(2, .int 0), (0, .ref (za E 12 0)), (1, .ref (za E 9 0))]) dX0_byRounds_6 rfl (by decide) rfl ?_
  refine z_sub (lv' := [(2, .int (nI 0)), (0, .ref (za E 12 0)), (1, .ref (za E 9 0))]) [0, 1, 2] rfl ?_
  refine z_loop (100) 7 (σ := Mem × LG × Rl) (fun i s => SA 12 M s.2.1 s.1 ∧ TI g nc nm s.2.1 s.2.2 ∧ i ≤ dcnt s.2.2) (fun i s => (s.1, [(2, .int (nI i)), (0, .ref (za E 12 0)), (1, .ref (za E 9 0))])) ?_ 0 ⟨M_1, plA (begA g nm (aOf M 12) nc) nm, fun _ _ => false⟩ (Nat.zero_le _) ⟨hA_2, TI_init hF, Nat.zero_le _⟩
  intro i s hi7 hJ7 ih7
  obtain ⟨M1, a, A⟩ := s
  show Z gg E M1 [(2, .int (nI i)), (0, .ref (za E 12 0)), (1, .ref (za E 9 0))] 7 []
  replace hJ7 : SA 12 M a M1 ∧ TI g nc nm a A ∧ i ≤ dcnt A := hJ7
  obtain ⟨hA, hT, hi⟩ := hJ7
  refine z_iload_n X (pc := 7) 0 dX0_byRounds_7 rfl rfl ?_
  refine z_bipush X (pc := 8) (v := 100) dX0_byRounds_8 (by decide) ?_
  refine z_nicmp_ge X (pc := 10) (a := i) (b := 100) (tgt := 75) dX0_byRounds_10 (by decide) (by omega) (by omega) (fun c10 => ?_) (fun c10 => ?_)
  · exact z_vret X Y dX0_byRounds_75 ⟨rfl, a, hA, A, hT, hT.full hF (by omega)⟩
  · refine z_aload_n X (pc := 13) 1 dX0_byRounds_13 rfl rfl ?_
    refine z_aload_n X (pc := 14) 2 dX0_byRounds_14 rfl rfl ?_
    refine z_callV X (pc := 15) (rest := []) kv_X0_askAtOnce (c_X0_askAtOnce_12 E M1 g (SA.g9 hA (by decide) hg) nc nm hnc hnm hn hn2 a (SA.self hA)) zk_12_0 (zc_12_0 E _) rfl rfl gw_718 (by decide) rfl rfl (Nat.le_of_ble_eq_true rfl) dX0_byRounds_15 (zk_ri (fun v_5 M_3 h_4 => ?_))
    obtain ⟨rfl, hO⟩ := h_4
    replace hO := SA.trans hA hO
    refine z_bif_ne X (pc := 18) (tgt := 22) dX0_byRounds_18 (by decide) (fun c18 => ?_) (fun c18 => ?_)
    · refine z_iconst X (pc := 22) (v := 0) dX0_byRounds_22 (by decide) ?_
      refine z_istore_n X (pc := 23) (lv1 := [(3, .int 0), (2, .int (nI i)), (0, .ref (za E 12 0)), (1, .ref (za E 9 0))]) dX0_byRounds_23 rfl (by decide) rfl ?_
      refine z_sub (lv' := [(3, .int (nI 0)), (2, .int (nI i)), (0, .ref (za E 12 0)), (1, .ref (za E 9 0))]) [0, 1, 2, 3] rfl ?_
      refine z_loop (nm) 24 (σ := Mem × LG) (fun j s => SA 12 M s.2 s.1 ∧ RJ g nc nm (aoA g nm a nc).1 j s.2) (fun j s => (s.1, [(3, .int (nI j)), (2, .int (nI i)), (0, .ref (za E 12 0)), (1, .ref (za E 9 0))])) ?_ 0 ⟨M_3, (aoA g nm a nc).1⟩ (Nat.zero_le _) ⟨hO, RJ.init hF hT⟩
      intro j s hi24 hJ24 ih24
      obtain ⟨M3, b⟩ := s
      show Z gg E M3 [(3, .int (nI j)), (2, .int (nI i)), (0, .ref (za E 12 0)), (1, .ref (za E 9 0))] 24 []
      replace hJ24 : SA 12 M b M3 ∧ RJ g nc nm (aoA g nm a nc).1 j b := hJ24
      obtain ⟨hB, hR⟩ := hJ24
      refine z_iload_n X (pc := 24) 0 dX0_byRounds_24 rfl rfl ?_
      refine z_aload_n X (pc := 25) 3 dX0_byRounds_25 rfl rfl ?_
      refine z_get X (pc := 26) 1 zk_9_0 (zc_9_0 E _) rfl inlX9 (by decide) gw_265 rfl rfl dX0_byRounds_26 ?_
      refine z_get X (pc := 29) 0 zk_9_2 (zc_9_2 E _) rfl inlX4 (by decide) gw_266 rfl rfl dX0_byRounds_29 ?_
      refine z_top (y := (nI nm)) ((S9.cm (S9.rf (SA.g9 hB (by decide) hg))).trans hnm) ?_
      refine z_nicmp_ge X (pc := 32) (a := j) (b := nm) (tgt := 69) dX0_byRounds_32 (by decide) (by omega) (by omega) (fun c32 => ?_) (fun c32 => ?_)
      · refine z_iinc X (pc := 69) (v := (nI (i + 1))) (lv1 := [(2, .int (nI (i + 1))), (3, .int (nI j)), (0, .ref (za E 12 0)), (1, .ref (za E 9 0))]) 1 dX0_byRounds_69 rfl (nI_1 _) (by decide) rfl ?_
        refine z_goto X (pc := 72) (tgt := 7) dX0_byRounds_72 (by decide) ?_
        refine z_sub (lv' := [(2, .int (nI (i + 1))), (0, .ref (za E 12 0)), (1, .ref (za E 9 0))]) [0, 2, 3] rfl ?_
        exact ih7 ⟨M3, b, rA1 g nc nm a A⟩ (by omega) ⟨hB, RJ.done hF hT (by obtain rfl : nm = j := (by omega); exact hR), (show i + 1 ≤ dcnt (rA1 g nc nm a A) by have := rA1_lt hF hT c18; omega)⟩
      · refine z_aload_n X (pc := 35) 2 dX0_byRounds_35 rfl rfl ?_
        refine z_aload_n X (pc := 36) 3 dX0_byRounds_36 rfl rfl ?_
        refine z_iload_n X (pc := 37) 0 dX0_byRounds_37 rfl rfl ?_
        refine z_callV X (pc := 38) (rest := []) kv_X0_bestOfAsking (c_X0_bestOfAsking_12 E M3 g (SA.g9 hB (by decide) hg) nc nm hnc hnm hn hn2 b (SA.self hB) j (by omega) (hR.nr j (by omega))) zk_12_0 (zc_12_0 E _) rfl rfl gw_722 (by decide) rfl rfl (Nat.le_of_ble_eq_true rfl) dX0_byRounds_38 (zk_i ?_)
        refine z_istore X (pc := 41) (lv1 := [(4, .int (bestC g b j nc)), (3, .int (nI j)), (2, .int (nI i)), (0, .ref (za E 12 0)), (1, .ref (za E 9 0))]) dX0_byRounds_41 (by decide) rfl ?_
        refine z_iload X (pc := 43) 0 dX0_byRounds_43 rfl ?_
        refine z_aload_n X (pc := 45) 3 dX0_byRounds_45 rfl rfl ?_
        refine z_get X (pc := 46) 3 zk_12_0 (zc_12_0 E _) rfl inlX0 (by decide) gw_103 rfl rfl dX0_byRounds_46 ?_
        refine z_iload_n X (pc := 49) 1 dX0_byRounds_49 rfl rfl ?_
        refine z_callV X (pc := 50) (rest := [.int (bestC g b j nc)]) kv_X7_at (c_X7_at E M3 12 10 j (by decide) (by decide) (show j < 10 by omega)) zk_12_10 (zc_12_10 E _) rfl rfl gw_292 (by decide) rfl rfl (Nat.le_of_ble_eq_true rfl) dX0_byRounds_50 (zk_i ?_)
        refine z_top (y := (b 3 j)) (SA.row 3 hB rfl (by decide) (show j < 10 by omega)) ?_
        refine z_icmp_eq X (pc := 53) (tgt := 63) dX0_byRounds_53 (by decide) (fun c53 => ?_) (fun c53 => ?_)
        · refine z_iinc X (pc := 63) (v := (nI (j + 1))) (lv1 := [(3, .int (nI (j + 1))), (4, .int (bestC g b j nc)), (2, .int (nI i)), (0, .ref (za E 12 0)), (1, .ref (za E 9 0))]) 1 dX0_byRounds_63 rfl (nI_1 _) (by decide) rfl ?_
          refine z_goto X (pc := 66) (tgt := 24) dX0_byRounds_66 (by decide) ?_
          refine z_sub (lv' := [(3, .int (nI (j + 1))), (2, .int (nI i)), (0, .ref (za E 12 0)), (1, .ref (za E 9 0))]) [0, 2, 3, 4] rfl ?_
          exact ih24 ⟨M3, b⟩ (by omega) ⟨hB, RJ.stay hR (by omega) c53⟩
        · refine z_aload_n X (pc := 56) 3 dX0_byRounds_56 rfl rfl ?_
          refine z_iload_n X (pc := 57) 1 dX0_byRounds_57 rfl rfl ?_
          refine z_iload X (pc := 58) 0 dX0_byRounds_58 rfl ?_
          obtain ⟨k60, hc60, hp60⟩ : ∃ k, k < nc ∧ bestC g b j nc = nI k := (bestC_nor hF (hR.nr j (by omega))).resolve_left (fun q => c53 (bestC_m1 hF (hR.nr j (by omega)) q))
          refine z_top (y := nI k60) hp60 ?_
          refine z_callV X (pc := 60) (rest := []) kv_X0_move (c_X0_move_12 E M3 b (SA.self hB) j k60 (show j < 10 by omega) (show k60 < 10 by omega) (nOr.le (hR.nr j (by omega)) (by omega))) zk_12_0 (zc_12_0 E _) rfl rfl gw_312 (by decide) rfl rfl (Nat.le_of_ble_eq_true rfl) dX0_byRounds_60 (zk_rv (fun M_6 h_7 => ?_))
          have hA_8 := SA.trans hB h_7
          refine z_iinc X (pc := 63) (v := (nI (j + 1))) (lv1 := [(3, .int (nI (j + 1))), (4, .int (bestC g b j nc)), (2, .int (nI i)), (0, .ref (za E 12 0)), (1, .ref (za E 9 0))]) 1 dX0_byRounds_63 rfl (nI_1 _) (by decide) rfl ?_
          refine z_goto X (pc := 66) (tgt := 24) dX0_byRounds_66 (by decide) ?_
          refine z_sub (lv' := [(3, .int (nI (j + 1))), (2, .int (nI i)), (0, .ref (za E 12 0)), (1, .ref (za E 9 0))]) [0, 2, 3, 4] rfl ?_
          exact ih24 ⟨M_6, mvA b j k60⟩ (by omega) ⟨hA_8, RJ.move hF hR (by omega) hc60 hp60 c53⟩
    · exact z_vret X Y dX0_byRounds_21 ⟨rfl, _, hO, A, TI_aoA hT c18, hT.stops hF (aoA_no c18)⟩
