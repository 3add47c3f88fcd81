theorem zc_row {E : ZE} {M : Mem} {b r : Nat} (h : zkd b r = 5) : zcell E M b r = .inr (7, [.ref (za E b (r + 1))]) := by unfold zcell; rw [h]; rfl
def rm_X7_at : Room := { frames := 0, cells := 0, slots := 0, locals := 0 }
theorem kv_X7_at : KV yX7_at RX7 cX7_at 2 (some .int) 1 := ⟨⟨gw_251, gw_252, gw_56, gw_253⟩, by decide +kernel⟩
set_option maxRecDepth 100000 in
set_option maxHeartbeats 4000000 in
theorem c_X7_at (E : ZE) (M : Mem) (b r : Nat) (k : Nat) (h5 : zkd b r = 5) (h6 : zkd b (r + 1) = 6) (hk : k < zn b (r + 1)) : Mt E yX7_at cX7_at 2 (some .int) rm_X7_at [.ref (za E b r), .int (nI k)] M (PI (M b (r + 1) k) M) := by
  have hz0 := zn_le b (r + 1)
  refine z_met (own := RX7) (lv := [(0, .ref (za E b r)), (1, .int (nI k))]) (by decide) rfl (Nat.le_of_ble_eq_true rfl) rfl (fun gg X Y => ?_)
  refine z_iload_n X (pc := 0) 1 dX7_at_0 rfl rfl ?_
  refine z_if_lt X (pc := 1) (tgt := 22) dX7_at_1 (by decide) (fun c1 => ?_) (fun c1 => ?_)
  · exact absurd c1 (nI_pos (by omega))
  · refine z_iload_n X (pc := 4) 1 dX7_at_4 rfl rfl ?_
    refine z_aload_n X (pc := 5) 0 dX7_at_5 rfl rfl ?_
    refine z_get X (pc := 6) 0 (zkd_ne h5) (zc_row h5) rfl inlX7 (by decide) gw_73 rfl rfl dX7_at_6 ?_
    refine z_ilen X (pc := 9) h6 rfl dX7_at_9 ?_
    refine z_nicmp_ge X (pc := 10) (a := k) (b := zn b (r + 1)) (tgt := 22) dX7_at_10 (by decide) (by omega) (by omega) (fun c10 => ?_) (fun c10 => ?_)
    · first | exact absurd c1 (nI_pos (by omega)) | omega
    · refine z_aload_n X (pc := 13) 0 dX7_at_13 rfl rfl ?_
      refine z_get X (pc := 14) 0 (zkd_ne h5) (zc_row h5) rfl inlX7 (by decide) gw_73 rfl rfl dX7_at_14 ?_
      refine z_iload_n X (pc := 17) 1 dX7_at_17 rfl rfl ?_
      refine z_iald X (pc := 18) h6 rfl hk dX7_at_18 ?_
      refine z_goto X (pc := 19) (tgt := 23) dX7_at_19 (by decide) ?_
      exact z_pret X Y dX7_at_23 rfl rfl

def rm_X7_put : Room := { frames := 0, cells := 0, slots := 0, locals := 0 }
theorem kv_X7_put : KV yX7_put RX7 cX7_put 3 none 2 := ⟨⟨gw_200, gw_201, gw_56, gw_202⟩, by decide +kernel⟩
set_option maxRecDepth 100000 in
set_option maxHeartbeats 4000000 in
theorem c_X7_put (E : ZE) (M : Mem) (b r : Nat) (k : Nat) (v : Int32) (h5 : zkd b r = 5) (h6 : zkd b (r + 1) = 6) (hk : k < zn b (r + 1)) : Mt E yX7_put cX7_put 3 none rm_X7_put [.ref (za E b r), .int (nI k), .int v] M (PV (up3 M b (r + 1) k v)) := by
  have hz0 := zn_le b (r + 1)
  refine z_met (own := RX7) (lv := [(0, .ref (za E b r)), (1, .int (nI k)), (2, .int v)]) (by decide) rfl (Nat.le_of_ble_eq_true rfl) rfl (fun gg X Y => ?_)
  refine z_iload_n X (pc := 0) 1 dX7_put_0 rfl rfl ?_
  refine z_if_lt X (pc := 1) (tgt := 20) dX7_put_1 (by decide) (fun c1 => ?_) (fun c1 => ?_)
  · exact absurd c1 (nI_pos (by omega))
  · refine z_iload_n X (pc := 4) 1 dX7_put_4 rfl rfl ?_
    refine z_aload_n X (pc := 5) 0 dX7_put_5 rfl rfl ?_
    refine z_get X (pc := 6) 0 (zkd_ne h5) (zc_row h5) rfl inlX7 (by decide) gw_73 rfl rfl dX7_put_6 ?_
    refine z_ilen X (pc := 9) h6 rfl dX7_put_9 ?_
    refine z_nicmp_ge X (pc := 10) (a := k) (b := zn b (r + 1)) (tgt := 20) dX7_put_10 (by decide) (by omega) (by omega) (fun c10 => ?_) (fun c10 => ?_)
    · first | exact absurd c1 (nI_pos (by omega)) | omega
    · refine z_aload_n X (pc := 13) 0 dX7_put_13 rfl rfl ?_
      refine z_get X (pc := 14) 0 (zkd_ne h5) (zc_row h5) rfl inlX7 (by decide) gw_73 rfl rfl dX7_put_14 ?_
      refine z_iload_n X (pc := 17) 1 dX7_put_17 rfl rfl ?_
      refine z_iload_n X (pc := 18) 2 dX7_put_18 rfl rfl ?_
      refine z_iast X (pc := 19) h6 rfl hk dX7_put_19 ?_
      exact z_vret X Y dX7_put_20 ⟨rfl, rfl⟩
set_option maxRecDepth 100000 in
set_option maxHeartbeats 4000000 in
theorem c_X7_put_no (E : ZE) (M : Mem) (b r : Nat) (v : Int32) (h5 : zkd b r = 5) : Mt E yX7_put cX7_put 3 none rm_X7_put [.ref (za E b r), .int ((-1)), .int v] M (PV M) := by
  have hz0 := zn_le b (r + 1)
  refine z_met (own := RX7) (lv := [(0, .ref (za E b r)), (1, .int ((-1))), (2, .int v)]) (by decide) rfl (Nat.le_of_ble_eq_true rfl) rfl (fun gg X Y => ?_)
  refine z_iload_n X (pc := 0) 1 dX7_put_0 rfl rfl ?_
  refine z_if_lt X (pc := 1) (tgt := 20) dX7_put_1 (by decide) (fun c1 => ?_) (fun c1 => ?_)
  · exact z_vret X Y dX7_put_20 ⟨rfl, rfl⟩
  · exact absurd (by decide) c1

def rm_X7_more : Room := { frames := 0, cells := 0, slots := 0, locals := 0 }
theorem kv_X7_more : KV yX7_more RX7 cX7_more 3 none 2 := ⟨⟨gw_475, gw_476, gw_56, gw_477⟩, by decide +kernel⟩
set_option maxRecDepth 100000 in
set_option maxHeartbeats 4000000 in
theorem c_X7_more (E : ZE) (M : Mem) (b r : Nat) (k : Nat) (v : Int32) (h5 : zkd b r = 5) (h6 : zkd b (r + 1) = 6) (hk : k < zn b (r + 1)) : Mt E yX7_more cX7_more 3 none rm_X7_more [.ref (za E b r), .int (nI k), .int v] M (PV (up3 M b (r + 1) k (M b (r + 1) k + v))) := by
  have hz0 := zn_le b (r + 1)
  refine z_met (own := RX7) (lv := [(0, .ref (za E b r)), (1, .int (nI k)), (2, .int v)]) (by decide) rfl (Nat.le_of_ble_eq_true rfl) rfl (fun gg X Y => ?_)
  refine z_iload_n X (pc := 0) 1 dX7_more_0 rfl rfl ?_
  refine z_if_lt X (pc := 1) (tgt := 23) dX7_more_1 (by decide) (fun c1 => ?_) (fun c1 => ?_)
  · exact absurd c1 (nI_pos (by omega))
  · refine z_iload_n X (pc := 4) 1 dX7_more_4 rfl rfl ?_
    refine z_aload_n X (pc := 5) 0 dX7_more_5 rfl rfl ?_
    refine z_get X (pc := 6) 0 (zkd_ne h5) (zc_row h5) rfl inlX7 (by decide) gw_73 rfl rfl dX7_more_6 ?_
    refine z_ilen X (pc := 9) h6 rfl dX7_more_9 ?_
    refine z_nicmp_ge X (pc := 10) (a := k) (b := zn b (r + 1)) (tgt := 23) dX7_more_10 (by decide) (by omega) (by omega) (fun c10 => ?_) (fun c10 => ?_)
    · first | exact absurd c1 (nI_pos (by omega)) | omega
    · refine z_aload_n X (pc := 13) 0 dX7_more_13 rfl rfl ?_
      refine z_get X (pc := 14) 0 (zkd_ne h5) (zc_row h5) rfl inlX7 (by decide) gw_73 rfl rfl dX7_more_14 ?_
      refine z_iload_n X (pc := 17) 1 dX7_more_17 rfl rfl ?_
      refine z_dup2 X (pc := 18) dX7_more_18 rfl rfl ?_
      refine z_iald X (pc := 19) h6 rfl hk dX7_more_19 ?_
      refine z_iload_n X (pc := 20) 2 dX7_more_20 rfl rfl ?_
      refine z_iadd X (pc := 21) dX7_more_21 ?_
      refine z_iast X (pc := 22) h6 rfl hk dX7_more_22 ?_
      exact z_vret X Y dX7_more_23 ⟨rfl, rfl⟩

def rm_X7_copy : Room := { frames := 1, cells := 0, slots := 0, locals := 60 }
theorem kv_X7_copy : KV yX7_copy RX7 cX7_copy 3 none 1 := ⟨⟨gw_155, gw_156, gw_56, gw_157⟩, by decide +kernel⟩
set_option maxRecDepth 100000 in
set_option maxHeartbeats 4000000 in
theorem c_X7_copy (E : ZE) (M : Mem) (b r b2 : Nat) (h5 : zkd b r = 5) (h6 : zkd b (r + 1) = 6) (g5 : zkd b2 r = 5) (g6 : zkd b2 (r + 1) = 6) (hn : zn b (r + 1) = 10) (hn2 : zn b2 (r + 1) = 10) : Mt E yX7_copy cX7_copy 3 none rm_X7_copy [.ref (za E b r), .ref (za E b2 r)] M (PV (up2 M b (r + 1) (fun j => if j < 10 then M b2 (r + 1) j else M b (r + 1) j))) := by
  refine z_met (own := RX7) (lv := [(0, .ref (za E b r)), (1, .ref (za E b2 r))]) (by decide) rfl (Nat.le_of_ble_eq_true rfl) rfl (fun gg X Y => ?_)
  refine z_aload_n X (pc := 0) 0 dX7_copy_0 rfl rfl ?_
  refine z_get X (pc := 1) 0 (zkd_ne h5) (zc_row h5) rfl inlX7 (by decide) gw_73 rfl rfl dX7_copy_1 ?_
  refine z_ilen X (pc := 4) h6 (by rw [hn]) dX7_copy_4 ?_
  refine z_aload_n X (pc := 5) 1 dX7_copy_5 rfl rfl ?_
  refine z_get X (pc := 6) 0 (zkd_ne g5) (zc_row g5) rfl inlX7 (by decide) gw_73 rfl rfl dX7_copy_6 ?_
  refine z_ilen X (pc := 9) g6 (by rw [hn2]) dX7_copy_9 ?_
  refine z_min X (pc := 10) gw_158 gw_159 gw_70 gw_160 (by decide) (Nat.le_of_ble_eq_true rfl) dX7_copy_10 ?_
  refine z_top (y := (nI 10)) (by decide) ?_
  refine z_istore_n X (pc := 13) (lv1 := [(2, .int (nI 10)), (0, .ref (za E b r)), (1, .ref (za E b2 r))]) dX7_copy_13 rfl (by decide) rfl ?_
  refine z_aload_n X (pc := 14) 2 dX7_copy_14 rfl rfl ?_
  refine z_get X (pc := 15) 0 (zkd_ne g5) (zc_row g5) rfl inlX7 (by decide) gw_73 rfl rfl dX7_copy_15 ?_
  refine z_iconst X (pc := 18) (v := 0) dX7_copy_18 (by decide) ?_
  refine z_aload_n X (pc := 19) 1 dX7_copy_19 rfl rfl ?_
  refine z_get X (pc := 20) 0 (zkd_ne h5) (zc_row h5) rfl inlX7 (by decide) gw_73 rfl rfl dX7_copy_20 ?_
  refine z_iconst X (pc := 23) (v := 0) dX7_copy_23 (by decide) ?_
  refine z_iload_n X (pc := 24) 0 dX7_copy_24 rfl rfl ?_
  refine z_copyi X (pc := 25) (n := 10) g6 h6 (by rw [hn2]; decide) (by rw [hn]; decide) gw_161 gw_162 gw_163 gw_164 (by decide) (Nat.le_of_ble_eq_true rfl) dX7_copy_25 rfl ?_
  exact z_vret X Y dX7_copy_28 ⟨rfl, rfl⟩

def rm_X2_has : Room := { frames := 0, cells := 0, slots := 0, locals := 0 }
theorem kv_X2_has : KV yX2_has RX2 cX2_has 2 (some .boolean) 1 := ⟨⟨gw_397, gw_398, gw_41, gw_399⟩, by decide +kernel⟩
set_option maxRecDepth 100000 in
set_option maxHeartbeats 4000000 in
theorem c_X2_has (E : ZE) (M : Mem) (g : LG) (hg : gX (M 9) = g) (nc : Nat) (hnc : g 14 7 = nI nc) (hn : nc ≤ 10) (x : Int32) : Mt E yX2_has cX2_has 2 (some .boolean) rm_X2_has [.ref (za E 9 1), .int x] M (PI (zb (inR x nc)) M) := by
  refine z_met (own := RX2) (lv := [(0, .ref (za E 9 1)), (1, .int x)]) (by decide) rfl (Nat.le_of_ble_eq_true rfl) rfl (fun gg X Y => ?_)
  refine z_iload_n X (pc := 0) 1 dX2_has_0 rfl rfl ?_
  refine z_if_lt X (pc := 1) (tgt := 16) dX2_has_1 (by decide) (fun c1 => ?_) (fun c1 => ?_)
  · refine z_iconst X (pc := 16) (v := 0) dX2_has_16 (by decide) ?_
    exact z_bret X Y dX2_has_17 (by simp [inR, zb, c1]) rfl
  · refine z_iload_n X (pc := 4) 1 dX2_has_4 rfl rfl ?_
    refine z_aload_n X (pc := 5) 0 dX2_has_5 rfl rfl ?_
    refine z_get X (pc := 6) 0 zk_9_1 (zc_9_1 E _) rfl inlX2 (by decide) gw_153 rfl rfl dX2_has_6 ?_
    refine z_top (y := (nI nc)) ((S9.cc (S9.rf hg)).trans (by first | exact hnc | simp [gu, hnc])) ?_
    refine z_icmp_ge X (pc := 9) (tgt := 16) dX2_has_9 (by decide) (fun c9 => ?_) (fun c9 => ?_)
    · refine z_iconst X (pc := 16) (v := 0) dX2_has_16 (by decide) ?_
      exact z_bret X Y dX2_has_17 (by simp [inR, zb, c1, c9]) rfl
    · refine z_iconst X (pc := 12) (v := 1) dX2_has_12 (by decide) ?_
      refine z_goto X (pc := 13) (tgt := 17) dX2_has_13 (by decide) ?_
      exact z_bret X Y dX2_has_17 (by simp [inR, zb, c1, c9]) rfl

def rm_X2_isFallen : Room := { frames := 1, cells := 0, slots := 0, locals := 21 }
theorem kv_X2_isFallen : KV yX2_isFallen RX2 cX2_isFallen 2 (some .boolean) 1 := ⟨⟨gw_279, gw_280, gw_41, gw_281⟩, by decide +kernel⟩
set_option maxRecDepth 100000 in
set_option maxHeartbeats 4000000 in
theorem c_X2_isFallen (E : ZE) (M : Mem) (g : LG) (hg : gX (M 9) = g) (c : Nat) (hc : c < 10) : Mt E yX2_isFallen cX2_isFallen 2 (some .boolean) rm_X2_isFallen [.ref (za E 9 1), .int (nI c)] M (PI (zb (fell g c)) M) := by
  refine z_met (own := RX2) (lv := [(0, .ref (za E 9 1)), (1, .int (nI c))]) (by decide) rfl (Nat.le_of_ble_eq_true rfl) rfl (fun gg X Y => ?_)
  refine z_aload_n X (pc := 0) 0 dX2_isFallen_0 rfl rfl ?_
  refine z_get X (pc := 1) 4 zk_9_1 (zc_9_1 E _) rfl inlX2 (by decide) gw_60 rfl rfl dX2_isFallen_1 ?_
  refine z_iload_n X (pc := 4) 1 dX2_isFallen_4 rfl rfl ?_
  refine z_callV X (pc := 5) (rest := []) kv_X7_at (c_X7_at E M 9 10 c (by decide) (by decide) (show c < 10 by omega)) zk_9_10 (zc_9_10 E _) rfl rfl gw_282 (by decide) rfl rfl (Nat.le_of_ble_eq_true rfl) dX2_isFallen_5 (zk_i ?_)
  refine z_top (y := (g 3 c)) (S9.row 3 (S9.rf hg) rfl (by decide) (show c < 10 by omega)) ?_
  refine z_if_ne X (pc := 8) (tgt := 15) dX2_isFallen_8 (by decide) (fun c8 => ?_) (fun c8 => ?_)
  · refine z_iconst X (pc := 15) (v := 0) dX2_isFallen_15 (by decide) ?_
    exact z_bret X Y dX2_isFallen_16 (by simp [fell, zb, c8]) rfl
  · refine z_iconst X (pc := 11) (v := 1) dX2_isFallen_11 (by decide) ?_
    refine z_goto X (pc := 12) (tgt := 16) dX2_isFallen_12 (by decide) ?_
    exact z_bret X Y dX2_isFallen_16 (by simp [fell, zb, c8]) rfl

def rm_X2_isTaken : Room := { frames := 1, cells := 0, slots := 0, locals := 21 }
theorem kv_X2_isTaken : KV yX2_isTaken RX2 cX2_isTaken 2 (some .boolean) 1 := ⟨⟨gw_444, gw_445, gw_41, gw_446⟩, by decide +kernel⟩
set_option maxRecDepth 100000 in
set_option maxHeartbeats 4000000 in
theorem c_X2_isTaken (E : ZE) (M : Mem) (g : LG) (hg : gX (M 9) = g) (c : Nat) (hc : c < 10) : Mt E yX2_isTaken cX2_isTaken 2 (some .boolean) rm_X2_isTaken [.ref (za E 9 1), .int (nI c)] M (PI (zb (taken g c)) M) := by
  refine z_met (own := RX2) (lv := [(0, .ref (za E 9 1)), (1, .int (nI c))]) (by decide) rfl (Nat.le_of_ble_eq_true rfl) rfl (fun gg X Y => ?_)
  refine z_aload_n X (pc := 0) 0 dX2_isTaken_0 rfl rfl ?_
  refine z_get X (pc := 1) 7 zk_9_1 (zc_9_1 E _) rfl inlX2 (by decide) gw_63 rfl rfl dX2_isTaken_1 ?_
  refine z_iload_n X (pc := 4) 1 dX2_isTaken_4 rfl rfl ?_
  refine z_callV X (pc := 5) (rest := []) kv_X7_at (c_X7_at E M 9 16 c (by decide) (by decide) (show c < 10 by omega)) zk_9_16 (zc_9_16 E _) rfl rfl gw_282 (by decide) rfl rfl (Nat.le_of_ble_eq_true rfl) dX2_isTaken_5 (zk_i ?_)
  refine z_top (y := (g 6 c)) (S9.row 6 (S9.rf hg) rfl (by decide) (show c < 10 by omega)) ?_
  refine z_iconst X (pc := 8) (v := (-1)) dX2_isTaken_8 (by decide) ?_
  refine z_icmp_eq X (pc := 9) (tgt := 16) dX2_isTaken_9 (by decide) (fun c9 => ?_) (fun c9 => ?_)
  · refine z_iconst X (pc := 16) (v := 0) dX2_isTaken_16 (by decide) ?_
    exact z_bret X Y dX2_isTaken_17 (by simp [taken, zb, c9]) rfl
  · refine z_iconst X (pc := 12) (v := 1) dX2_isTaken_12 (by decide) ?_
    refine z_goto X (pc := 13) (tgt := 17) dX2_isTaken_13 (by decide) ?_
    exact z_bret X Y dX2_isTaken_17 (by simp [taken, zb, c9]) rfl

def rm_X2_comfort : Room := { frames := 1, cells := 0, slots := 0, locals := 21 }
theorem kv_X2_comfort : KV yX2_comfort RX2 cX2_comfort 2 (some .int) 1 := ⟨⟨gw_304, gw_305, gw_41, gw_306⟩, by decide +kernel⟩
set_option maxRecDepth 100000 in
set_option maxHeartbeats 4000000 in
theorem c_X2_comfort (E : ZE) (M : Mem) (g : LG) (hg : gX (M 9) = g) (c : Nat) (hc : c < 10) : Mt E yX2_comfort cX2_comfort 2 (some .int) rm_X2_comfort [.ref (za E 9 1), .int (nI c)] M (PI (comf g c) M) := by
  refine z_met (own := RX2) (lv := [(0, .ref (za E 9 1)), (1, .int (nI c))]) (by decide) rfl (Nat.le_of_ble_eq_true rfl) rfl (fun gg X Y => ?_)
  refine z_aload_n X (pc := 0) 0 dX2_comfort_0 rfl rfl ?_
  refine z_get X (pc := 1) 3 zk_9_1 (zc_9_1 E _) rfl inlX2 (by decide) gw_59 rfl rfl dX2_comfort_1 ?_
  refine z_iload_n X (pc := 4) 1 dX2_comfort_4 rfl rfl ?_
  refine z_callV X (pc := 5) (rest := []) kv_X7_at (c_X7_at E M 9 8 c (by decide) (by decide) (show c < 10 by omega)) zk_9_8 (zc_9_8 E _) rfl rfl gw_282 (by decide) rfl rfl (Nat.le_of_ble_eq_true rfl) dX2_comfort_5 (zk_i ?_)
  refine z_top (y := (g 2 c)) (S9.row 2 (S9.rf hg) rfl (by decide) (show c < 10 by omega)) ?_
  refine z_iconst X (pc := 8) (v := 3) dX2_comfort_8 (by decide) ?_
  refine z_aload_n X (pc := 9) 0 dX2_comfort_9 rfl rfl ?_
  refine z_get X (pc := 10) 5 zk_9_1 (zc_9_1 E _) rfl inlX2 (by decide) gw_61 rfl rfl dX2_comfort_10 ?_
  refine z_iload_n X (pc := 13) 1 dX2_comfort_13 rfl rfl ?_
  refine z_callV X (pc := 14) (rest := [.int 3, .int (g 2 c)]) kv_X7_at (c_X7_at E M 9 12 c (by decide) (by decide) (show c < 10 by omega)) zk_9_12 (zc_9_12 E _) rfl rfl gw_282 (by decide) rfl rfl (Nat.le_of_ble_eq_true rfl) dX2_comfort_14 (zk_i ?_)
  refine z_top (y := (g 4 c)) (S9.row 4 (S9.rf hg) rfl (by decide) (show c < 10 by omega)) ?_
  refine z_imul X (pc := 17) dX2_comfort_17 ?_
  refine z_iadd X (pc := 18) dX2_comfort_18 ?_
  exact z_pret X Y dX2_comfort_19 rfl rfl

def rm_X2_fallen : Room := { frames := 2, cells := 0, slots := 0, locals := 42 }
theorem kv_X2_fallen : KV yX2_fallen RX2 cX2_fallen 3 (some .int) 0 := ⟨⟨gw_368, gw_369, gw_41, gw_370⟩, by decide +kernel⟩
set_option maxRecDepth 100000 in
set_option maxHeartbeats 4000000 in
theorem c_X2_fallen (E : ZE) (M : Mem) (g : LG) (hg : gX (M 9) = g) (nc : Nat) (hnc : g 14 7 = nI nc) (hn : nc ≤ 10) : Mt E yX2_fallen cX2_fallen 3 (some .int) rm_X2_fallen [.ref (za E 9 1)] M (PI (nI (cntB (fell g) nc)) M) := by
  refine z_met (own := RX2) (lv := [(0, .ref (za E 9 1))]) (by decide) rfl (Nat.le_of_ble_eq_true rfl) rfl (fun gg X Y => ?_)
  refine z_iconst X (pc := 0) (v := 0) dX2_fallen_0 (by decide) ?_
  refine z_istore_n X (pc := 1) (lv1 := [(1, .int 0), (0, .ref (za E 9 1))]) dX2_fallen_1 rfl (by decide) rfl ?_
  refine z_iconst X (pc := 2) (v := 0) dX2_fallen_2 (by decide) ?_
  refine z_istore_n X (pc := 3) (lv1 := [(2, .int 0), (1, .int 0), (0, .ref (za E 9 1))]) dX2_fallen_3 rfl (by decide) rfl ?_
  refine z_sub (lv' := [(2, .int (nI 0)), (1, .int (nI (cntB (fell g) 0))), (0, .ref (za E 9 1))]) [0, 1, 2] rfl ?_
  refine z_loop (nc) 4 (σ := Unit) (fun i s => True) (fun i s => (M, [(2, .int (nI i)), (1, .int (nI (cntB (fell g) i))), (0, .ref (za E 9 1))])) ?_ 0 () (Nat.zero_le _) trivial
  intro i s hi4 hJ4 ih4
  show Z gg E M [(2, .int (nI i)), (1, .int (nI (cntB (fell g) i))), (0, .ref (za E 9 1))] 4 []
  refine z_iload_n X (pc := 4) 0 dX2_fallen_4 rfl rfl ?_
  refine z_aload_n X (pc := 5) 2 dX2_fallen_5 rfl rfl ?_
  refine z_get X (pc := 6) 0 zk_9_1 (zc_9_1 E _) rfl inlX2 (by decide) gw_153 rfl rfl dX2_fallen_6 ?_
  refine z_top (y := (nI nc)) ((S9.cc (S9.rf hg)).trans (by first | exact hnc | simp [gu, hnc])) ?_
  refine z_nicmp_ge X (pc := 9) (a := i) (b := nc) (tgt := 29) dX2_fallen_9 (by decide) (by omega) (by omega) (fun c9 => ?_) (fun c9 => ?_)
  · refine z_iload_n X (pc := 29) 1 dX2_fallen_29 rfl rfl ?_
    exact z_pret X Y dX2_fallen_30 (by rw [show i = nc by omega]) rfl
  · refine z_aload_n X (pc := 12) 2 dX2_fallen_12 rfl rfl ?_
    refine z_iload_n X (pc := 13) 0 dX2_fallen_13 rfl rfl ?_
    refine z_callV X (pc := 14) (rest := []) kv_X2_isFallen (c_X2_isFallen E M g (And.left (S9.rf hg))  i (show i < 10 by omega)) zk_9_1 (zc_9_1 E _) rfl rfl gw_371 (by decide) rfl rfl (Nat.le_of_ble_eq_true rfl) dX2_fallen_14 (zk_i ?_)
    refine z_bif_eq X (pc := 17) (tgt := 23) dX2_fallen_17 (by decide) (fun c17 => ?_) (fun c17 => ?_)
    · refine z_iinc X (pc := 23) (v := (nI (i + 1))) (lv1 := [(2, .int (nI (i + 1))), (1, .int (nI (cntB (fell g) i))), (0, .ref (za E 9 1))]) 0 dX2_fallen_23 rfl (nI_1 _) (by decide) rfl ?_
      refine z_goto X (pc := 26) (tgt := 4) dX2_fallen_26 (by decide) ?_
      refine z_sub (lv' := [(2, .int (nI (i + 1))), (1, .int (nI (cntB (fell g) i))), (0, .ref (za E 9 1))]) [0, 1, 2] rfl ?_
      refine z_eq (lv' := [(2, .int (nI (i + 1))), (1, .int (nI (cntB (fell g) (i + 1)))), (0, .ref (za E 9 1))]) (by simp [cntB, nI_1, c9, c17]) rfl ?_
      exact ih4 () (by omega) trivial
    · refine z_iinc X (pc := 20) (v := (nI (cntB (fell g) i + 1))) (lv1 := [(1, .int (nI (cntB (fell g) i + 1))), (2, .int (nI i)), (0, .ref (za E 9 1))]) 1 dX2_fallen_20 rfl (nI_1 _) (by decide) rfl ?_
      refine z_iinc X (pc := 23) (v := (nI (i + 1))) (lv1 := [(2, .int (nI (i + 1))), (1, .int (nI (cntB (fell g) i + 1))), (0, .ref (za E 9 1))]) 1 dX2_fallen_23 rfl (nI_1 _) (by decide) rfl ?_
      refine z_goto X (pc := 26) (tgt := 4) dX2_fallen_26 (by decide) ?_
      refine z_sub (lv' := [(2, .int (nI (i + 1))), (1, .int (nI (cntB (fell g) i + 1))), (0, .ref (za E 9 1))]) [0, 1, 2] rfl ?_
      refine z_eq (lv' := [(2, .int (nI (i + 1))), (1, .int (nI (cntB (fell g) (i + 1)))), (0, .ref (za E 9 1))]) (by simp [cntB, nI_1, c9, c17]) rfl ?_
      exact ih4 () (by omega) trivial

def rm_X2_isRather : Room := { frames := 2, cells := 0, slots := 0, locals := 42 }
theorem kv_X2_isRather : KV yX2_isRather RX2 cX2_isRather 4 (some .boolean) 2 := ⟨⟨gw_308, gw_309, gw_41, gw_310⟩, by decide +kernel⟩
set_option maxRecDepth 100000 in
set_option maxHeartbeats 4000000 in
theorem c_X2_isRather (E : ZE) (M : Mem) (g : LG) (hg : gX (M 9) = g) (a b : Nat) (ha : a < 10) (hb : b < 10) : Mt E yX2_isRather cX2_isRather 4 (some .boolean) rm_X2_isRather [.ref (za E 9 1), .int (nI a), .int (nI b)] M (PI (zb (rsat g a b)) M) := by
  refine z_met (own := RX2) (lv := [(0, .ref (za E 9 1)), (1, .int (nI a)), (2, .int (nI b))]) (by decide) rfl (Nat.le_of_ble_eq_true rfl) rfl (fun gg X Y => ?_)
  refine z_aload_n X (pc := 0) 0 dX2_isRather_0 rfl rfl ?_
  refine z_iload_n X (pc := 1) 1 dX2_isRather_1 rfl rfl ?_
  refine z_callV X (pc := 2) (rest := []) kv_X2_comfort (c_X2_comfort E M g (And.left (S9.rf hg))  a (show a < 10 by omega)) zk_9_1 (zc_9_1 E _) rfl rfl gw_311 (by decide) rfl rfl (Nat.le_of_ble_eq_true rfl) dX2_isRather_2 (zk_i ?_)
  refine z_aload_n X (pc := 5) 0 dX2_isRather_5 rfl rfl ?_
  refine z_iload_n X (pc := 6) 2 dX2_isRather_6 rfl rfl ?_
  refine z_callV X (pc := 7) (rest := [.int (comf g a)]) kv_X2_comfort (c_X2_comfort E M g (And.left (S9.rf hg))  b (show b < 10 by omega)) zk_9_1 (zc_9_1 E _) rfl rfl gw_311 (by decide) rfl rfl (Nat.le_of_ble_eq_true rfl) dX2_isRather_7 (zk_i ?_)
  refine z_isub X (pc := 10) dX2_isRather_10 ?_
  refine z_istore_n X (pc := 11) (lv1 := [(3, .int ((comf g a) - (comf g b))), (0, .ref (za E 9 1)), (1, .int (nI a)), (2, .int (nI b))]) dX2_isRather_11 rfl (by decide) rfl ?_
  refine z_iload_n X (pc := 12) 0 dX2_isRather_12 rfl rfl ?_
  refine z_if_gt X (pc := 13) (tgt := 25) dX2_isRather_13 (by decide) (fun c13 => ?_) (fun c13 => ?_)
  · refine z_iconst X (pc := 25) (v := 1) dX2_isRather_25 (by decide) ?_
    refine z_goto X (pc := 26) (tgt := 30) dX2_isRather_26 (by decide) ?_
    exact z_bret X Y dX2_isRather_30 (by simp [rsat, zmore, zb, c13]) rfl
  · refine z_iload_n X (pc := 16) 0 dX2_isRather_16 rfl rfl ?_
    refine z_if_ne X (pc := 17) (tgt := 29) dX2_isRather_17 (by decide) (fun c17 => ?_) (fun c17 => ?_)
    · refine z_iconst X (pc := 29) (v := 0) dX2_isRather_29 (by decide) ?_
      exact z_bret X Y dX2_isRather_30 (by simp [rsat, zmore, zb, c13, c17]) rfl
    · refine z_iload_n X (pc := 20) 2 dX2_isRather_20 rfl rfl ?_
      refine z_iload_n X (pc := 21) 3 dX2_isRather_21 rfl rfl ?_
      refine z_nicmp_ge X (pc := 22) (a := a) (b := b) (tgt := 29) dX2_isRather_22 (by decide) (by omega) (by omega) (fun c22 => ?_) (fun c22 => ?_)
      · refine z_iconst X (pc := 29) (v := 0) dX2_isRather_29 (by decide) ?_
        exact z_bret X Y dX2_isRather_30 (by simp [rsat, zmore, zb, c13, c17, c22]) rfl
      · refine z_iconst X (pc := 25) (v := 1) dX2_isRather_25 (by decide) ?_
        refine z_goto X (pc := 26) (tgt := 30) dX2_isRather_26 (by decide) ?_
        exact z_bret X Y dX2_isRather_30 (by simp [rsat, zmore, zb, c13, c17, c22]) rfl

def rm_X2_isAhead : Room := { frames := 3, cells := 0, slots := 0, locals := 65 }
theorem kv_X2_isAhead : KV yX2_isAhead RX2 cX2_isAhead 4 (some .boolean) 2 := ⟨⟨gw_742, gw_743, gw_41, gw_744⟩, by decide +kernel⟩
set_option maxRecDepth 100000 in
set_option maxHeartbeats 4000000 in
theorem c_X2_isAhead (E : ZE) (M : Mem) (g : LG) (hg : gX (M 9) = g) (a b : Nat) (ha : a < 10) (hb : b < 10) : Mt E yX2_isAhead cX2_isAhead 4 (some .boolean) rm_X2_isAhead [.ref (za E 9 1), .int (nI a), .int (nI b)] M (PI (zb (cAhead g a b)) M) := by
  refine z_met (own := RX2) (lv := [(0, .ref (za E 9 1)), (1, .int (nI a)), (2, .int (nI b))]) (by decide) rfl (Nat.le_of_ble_eq_true rfl) rfl (fun gg X Y => ?_)
  refine z_aload_n X (pc := 0) 0 dX2_isAhead_0 rfl rfl ?_
  refine z_get X (pc := 1) 6 zk_9_1 (zc_9_1 E _) rfl inlX2 (by decide) gw_62 rfl rfl dX2_isAhead_1 ?_
  refine z_iload_n X (pc := 4) 1 dX2_isAhead_4 rfl rfl ?_
  refine z_callV X (pc := 5) (rest := []) kv_X7_at (c_X7_at E M 9 14 a (by decide) (by decide) (show a < 10 by omega)) zk_9_14 (zc_9_14 E _) rfl rfl gw_282 (by decide) rfl rfl (Nat.le_of_ble_eq_true rfl) dX2_isAhead_5 (zk_i ?_)
  refine z_top (y := (g 5 a)) (S9.row 5 (S9.rf hg) rfl (by decide) (show a < 10 by omega)) ?_
  refine z_aload_n X (pc := 8) 0 dX2_isAhead_8 rfl rfl ?_
  refine z_get X (pc := 9) 6 zk_9_1 (zc_9_1 E _) rfl inlX2 (by decide) gw_62 rfl rfl dX2_isAhead_9 ?_
  refine z_iload_n X (pc := 12) 2 dX2_isAhead_12 rfl rfl ?_
  refine z_callV X (pc := 13) (rest := [.int (g 5 a)]) kv_X7_at (c_X7_at E M 9 14 b (by decide) (by decide) (show b < 10 by omega)) zk_9_14 (zc_9_14 E _) rfl rfl gw_282 (by decide) rfl rfl (Nat.le_of_ble_eq_true rfl) dX2_isAhead_13 (zk_i ?_)
  refine z_top (y := (g 5 b)) (S9.row 5 (S9.rf hg) rfl (by decide) (show b < 10 by omega)) ?_
  refine z_isub X (pc := 16) dX2_isAhead_16 ?_
  refine z_istore_n X (pc := 17) (lv1 := [(3, .int ((g 5 a) - (g 5 b))), (0, .ref (za E 9 1)), (1, .int (nI a)), (2, .int (nI b))]) dX2_isAhead_17 rfl (by decide) rfl ?_
  refine z_iload_n X (pc := 18) 0 dX2_isAhead_18 rfl rfl ?_
  refine z_if_gt X (pc := 19) (tgt := 35) dX2_isAhead_19 (by decide) (fun c19 => ?_) (fun c19 => ?_)
  · refine z_iconst X (pc := 35) (v := 1) dX2_isAhead_35 (by decide) ?_
    refine z_goto X (pc := 36) (tgt := 40) dX2_isAhead_36 (by decide) ?_
    exact z_bret X Y dX2_isAhead_40 (by simp [cAhead, zb, c19]) rfl
  · refine z_iload_n X (pc := 22) 0 dX2_isAhead_22 rfl rfl ?_
    refine z_if_ne X (pc := 23) (tgt := 39) dX2_isAhead_23 (by decide) (fun c23 => ?_) (fun c23 => ?_)
    · refine z_iconst X (pc := 39) (v := 0) dX2_isAhead_39 (by decide) ?_
      exact z_bret X Y dX2_isAhead_40 (by simp [cAhead, zb, c19, c23]) rfl
    · refine z_aload_n X (pc := 26) 1 dX2_isAhead_26 rfl rfl ?_
      refine z_iload_n X (pc := 27) 2 dX2_isAhead_27 rfl rfl ?_
      refine z_iload_n X (pc := 28) 3 dX2_isAhead_28 rfl rfl ?_
      refine z_callV X (pc := 29) (rest := []) kv_X2_isRather (c_X2_isRather E M g (And.left (S9.rf hg))  a b (show a < 10 by omega) (show b < 10 by omega)) zk_9_1 (zc_9_1 E _) rfl rfl gw_745 (by decide) rfl rfl (Nat.le_of_ble_eq_true rfl) dX2_isAhead_29 (zk_i ?_)
      refine z_bif_eq X (pc := 32) (tgt := 39) dX2_isAhead_32 (by decide) (fun c32 => ?_) (fun c32 => ?_)
      · refine z_iconst X (pc := 39) (v := 0) dX2_isAhead_39 (by decide) ?_
        exact z_bret X Y dX2_isAhead_40 (by simp [cAhead, zb, c19, c23, c32]) rfl
      · refine z_iconst X (pc := 35) (v := 1) dX2_isAhead_35 (by decide) ?_
        refine z_goto X (pc := 36) (tgt := 40) dX2_isAhead_36 (by decide) ?_
        exact z_bret X Y dX2_isAhead_40 (by simp [cAhead, zb, c19, c23, c32]) rfl

def rm_X2_bring : Room := { frames := 1, cells := 0, slots := 0, locals := 22 }
theorem kv_X2_bring : KV yX2_bring RX2 cX2_bring 4 (some .int) 2 := ⟨⟨gw_204, gw_205, gw_41, gw_206⟩, by decide +kernel⟩
set_option maxRecDepth 100000 in
set_option maxHeartbeats 4000000 in
theorem c_X2_bring (E : ZE) (M : Mem) (g : LG) (hg : gX (M 9) = g) (nc : Nat) (hnc : g 14 7 = nI nc) (hn : nc < 10) (sec need : Int32) : Mt E yX2_bring cX2_bring 4 (some .int) rm_X2_bring [.ref (za E 9 1), .int sec, .int need] M (RI (fun v M1 => v = nI nc ∧ S9 M (bringC g nc sec need) M1)) := by
  refine z_met (own := RX2) (lv := [(0, .ref (za E 9 1)), (1, .int sec), (2, .int need)]) (by decide) rfl (Nat.le_of_ble_eq_true rfl) rfl (fun gg X Y => ?_)
  refine z_aload_n X (pc := 0) 0 dX2_bring_0 rfl rfl ?_
  refine z_get X (pc := 1) 0 zk_9_1 (zc_9_1 E _) rfl inlX2 (by decide) gw_153 rfl rfl dX2_bring_1 ?_
  refine z_top (y := (nI nc)) ((S9.cc (S9.rf hg)).trans (by first | exact hnc | simp [gu, hnc])) ?_
  refine z_istore_n X (pc := 4) (lv1 := [(3, .int (nI nc)), (0, .ref (za E 9 1)), (1, .int sec), (2, .int need)]) dX2_bring_4 rfl (by decide) rfl ?_
  refine z_aload_n X (pc := 5) 1 dX2_bring_5 rfl rfl ?_
  refine z_get X (pc := 6) 1 zk_9_1 (zc_9_1 E _) rfl inlX2 (by decide) gw_57 rfl rfl dX2_bring_6 ?_
  refine z_iload_n X (pc := 9) 0 dX2_bring_9 rfl rfl ?_
  refine z_iload_n X (pc := 10) 2 dX2_bring_10 rfl rfl ?_
  refine z_callV X (pc := 11) (rest := []) kv_X7_put (c_X7_put E M 9 4 nc sec (by decide) (by decide) (show nc < 10 by omega)) zk_9_4 (zc_9_4 E _) rfl rfl gw_207 (by decide) rfl rfl (Nat.le_of_ble_eq_true rfl) dX2_bring_11 (zk_v ?_)
  refine z_gen (S9.put 0 (S9.rf hg) rfl (by decide) (show nc < 10 by omega)) (fun M_1 hS_2 => ?_)
  refine z_aload_n X (pc := 14) 1 dX2_bring_14 rfl rfl ?_
  refine z_get X (pc := 15) 2 zk_9_1 (zc_9_1 E _) rfl inlX2 (by decide) gw_58 rfl rfl dX2_bring_15 ?_
  refine z_iload_n X (pc := 18) 0 dX2_bring_18 rfl rfl ?_
  refine z_iload_n X (pc := 19) 3 dX2_bring_19 rfl rfl ?_
  refine z_callV X (pc := 20) (rest := []) kv_X7_put (c_X7_put E M_1 9 6 nc need (by decide) (by decide) (show nc < 10 by omega)) zk_9_6 (zc_9_6 E _) rfl rfl gw_207 (by decide) rfl rfl (Nat.le_of_ble_eq_true rfl) dX2_bring_20 (zk_v ?_)
  refine z_gen (S9.put 1 hS_2 rfl (by decide) (show nc < 10 by omega)) (fun M_3 hS_4 => ?_)
  refine z_aload_n X (pc := 23) 1 dX2_bring_23 rfl rfl ?_
  refine z_get X (pc := 24) 3 zk_9_1 (zc_9_1 E _) rfl inlX2 (by decide) gw_59 rfl rfl dX2_bring_24 ?_
  refine z_iload_n X (pc := 27) 0 dX2_bring_27 rfl rfl ?_
  refine z_iconst X (pc := 28) (v := 0) dX2_bring_28 (by decide) ?_
  refine z_callV X (pc := 29) (rest := []) kv_X7_put (c_X7_put E M_3 9 8 nc 0 (by decide) (by decide) (show nc < 10 by omega)) zk_9_8 (zc_9_8 E _) rfl rfl gw_207 (by decide) rfl rfl (Nat.le_of_ble_eq_true rfl) dX2_bring_29 (zk_v ?_)
  refine z_gen (S9.put 2 hS_4 rfl (by decide) (show nc < 10 by omega)) (fun M_5 hS_6 => ?_)
  refine z_aload_n X (pc := 32) 1 dX2_bring_32 rfl rfl ?_
  refine z_get X (pc := 33) 4 zk_9_1 (zc_9_1 E _) rfl inlX2 (by decide) gw_60 rfl rfl dX2_bring_33 ?_
  refine z_iload_n X (pc := 36) 0 dX2_bring_36 rfl rfl ?_
  refine z_iconst X (pc := 37) (v := 3) dX2_bring_37 (by decide) ?_
  refine z_callV X (pc := 38) (rest := []) kv_X7_put (c_X7_put E M_5 9 10 nc 3 (by decide) (by decide) (show nc < 10 by omega)) zk_9_10 (zc_9_10 E _) rfl rfl gw_207 (by decide) rfl rfl (Nat.le_of_ble_eq_true rfl) dX2_bring_38 (zk_v ?_)
  refine z_gen (S9.put 3 hS_6 rfl (by decide) (show nc < 10 by omega)) (fun M_7 hS_8 => ?_)
  refine z_aload_n X (pc := 41) 1 dX2_bring_41 rfl rfl ?_
  refine z_get X (pc := 42) 5 zk_9_1 (zc_9_1 E _) rfl inlX2 (by decide) gw_61 rfl rfl dX2_bring_42 ?_
  refine z_iload_n X (pc := 45) 0 dX2_bring_45 rfl rfl ?_
  refine z_iconst X (pc := 46) (v := 0) dX2_bring_46 (by decide) ?_
  refine z_callV X (pc := 47) (rest := []) kv_X7_put (c_X7_put E M_7 9 12 nc 0 (by decide) (by decide) (show nc < 10 by omega)) zk_9_12 (zc_9_12 E _) rfl rfl gw_207 (by decide) rfl rfl (Nat.le_of_ble_eq_true rfl) dX2_bring_47 (zk_v ?_)
  refine z_gen (S9.put 4 hS_8 rfl (by decide) (show nc < 10 by omega)) (fun M_9 hS_10 => ?_)
  refine z_aload_n X (pc := 50) 1 dX2_bring_50 rfl rfl ?_
  refine z_get X (pc := 51) 6 zk_9_1 (zc_9_1 E _) rfl inlX2 (by decide) gw_62 rfl rfl dX2_bring_51 ?_
  refine z_iload_n X (pc := 54) 0 dX2_bring_54 rfl rfl ?_
  refine z_iconst X (pc := 55) (v := 0) dX2_bring_55 (by decide) ?_
  refine z_callV X (pc := 56) (rest := []) kv_X7_put (c_X7_put E M_9 9 14 nc 0 (by decide) (by decide) (show nc < 10 by omega)) zk_9_14 (zc_9_14 E _) rfl rfl gw_207 (by decide) rfl rfl (Nat.le_of_ble_eq_true rfl) dX2_bring_56 (zk_v ?_)
  refine z_gen (S9.put 5 hS_10 rfl (by decide) (show nc < 10 by omega)) (fun M_11 hS_12 => ?_)
  refine z_aload_n X (pc := 59) 1 dX2_bring_59 rfl rfl ?_
  refine z_get X (pc := 60) 7 zk_9_1 (zc_9_1 E _) rfl inlX2 (by decide) gw_63 rfl rfl dX2_bring_60 ?_
  refine z_iload_n X (pc := 63) 0 dX2_bring_63 rfl rfl ?_
  refine z_iconst X (pc := 64) (v := (-1)) dX2_bring_64 (by decide) ?_
  refine z_callV X (pc := 65) (rest := []) kv_X7_put (c_X7_put E M_11 9 16 nc ((-1)) (by decide) (by decide) (show nc < 10 by omega)) zk_9_16 (zc_9_16 E _) rfl rfl gw_207 (by decide) rfl rfl (Nat.le_of_ble_eq_true rfl) dX2_bring_65 (zk_v ?_)
  refine z_gen (S9.put 6 hS_12 rfl (by decide) (show nc < 10 by omega)) (fun M_13 hS_14 => ?_)
  refine z_aload_n X (pc := 68) 1 dX2_bring_68 rfl rfl ?_
  refine z_dup X (pc := 69) dX2_bring_69 rfl ?_
  refine z_get X (pc := 70) 0 zk_9_1 (zc_9_1 E _) rfl inlX2 (by decide) gw_153 rfl rfl dX2_bring_70 ?_
  refine z_top (y := (nI nc)) ((S9.cc hS_14).trans (by first | exact hnc | simp [gu, hnc])) ?_
  refine z_iconst X (pc := 73) (v := 1) dX2_bring_73 (by decide) ?_
  refine z_iadd X (pc := 74) dX2_bring_74 ?_
  refine z_put X (pc := 75) 0 zk_9_1 (zc_9_1 E _) rfl inlX2 tyX2 tyX2_ok nmX2 (by decide) gw_153 rfl rfl (ty := .int) (by decide +kernel) rfl rfl (Nat.le_of_ble_eq_true rfl) dX2_bring_75 rfl ?_
  refine z_gen (S9.pcc hS_14) (fun M_15 hS_16 => ?_)
  refine z_iload_n X (pc := 78) 0 dX2_bring_78 rfl rfl ?_
  exact z_iret X Y dX2_bring_79 ⟨_, rfl, rfl, by simpa [bringC, nI_1] using hS_16⟩

def rm_X4_has : Room := { frames := 0, cells := 0, slots := 0, locals := 0 }
theorem kv_X4_has : KV yX4_has RX4 cX4_has 2 (some .boolean) 1 := ⟨⟨gw_344, gw_345, gw_45, gw_346⟩, by decide +kernel⟩
set_option maxRecDepth 100000 in
set_option maxHeartbeats 4000000 in
theorem c_X4_has (E : ZE) (M : Mem) (g : LG) (hg : gX (M 9) = g) (nm : Nat) (hnm : g 14 8 = nI nm) (hn : nm ≤ 10) (x : Int32) : Mt E yX4_has cX4_has 2 (some .boolean) rm_X4_has [.ref (za E 9 2), .int x] M (PI (zb (inR x nm)) M) := by
  refine z_met (own := RX4) (lv := [(0, .ref (za E 9 2)), (1, .int x)]) (by decide) rfl (Nat.le_of_ble_eq_true rfl) rfl (fun gg X Y => ?_)
  refine z_iload_n X (pc := 0) 1 dX4_has_0 rfl rfl ?_
  refine z_if_lt X (pc := 1) (tgt := 16) dX4_has_1 (by decide) (fun c1 => ?_) (fun c1 => ?_)
  · refine z_iconst X (pc := 16) (v := 0) dX4_has_16 (by decide) ?_
    exact z_bret X Y dX4_has_17 (by simp [inR, zb, c1]) rfl
  · refine z_iload_n X (pc := 4) 1 dX4_has_4 rfl rfl ?_
    refine z_aload_n X (pc := 5) 0 dX4_has_5 rfl rfl ?_
    refine z_get X (pc := 6) 0 zk_9_2 (zc_9_2 E _) rfl inlX4 (by decide) gw_169 rfl rfl dX4_has_6 ?_
    refine z_top (y := (nI nm)) ((S9.cm (S9.rf hg)).trans (by first | exact hnm | simp [gu, hnm])) ?_
    refine z_icmp_ge X (pc := 9) (tgt := 16) dX4_has_9 (by decide) (fun c9 => ?_) (fun c9 => ?_)
    · refine z_iconst X (pc := 16) (v := 0) dX4_has_16 (by decide) ?_
      exact z_bret X Y dX4_has_17 (by simp [inR, zb, c1, c9]) rfl
    · refine z_iconst X (pc := 12) (v := 1) dX4_has_12 (by decide) ?_
      refine z_goto X (pc := 13) (tgt := 17) dX4_has_13 (by decide) ?_
      exact z_bret X Y dX4_has_17 (by simp [inR, zb, c1, c9]) rfl

def rm_X4_sits : Room := { frames := 1, cells := 0, slots := 0, locals := 21 }
theorem kv_X4_sits : KV yX4_sits RX4 cX4_sits 2 (some .boolean) 1 := ⟨⟨gw_329, gw_330, gw_45, gw_331⟩, by decide +kernel⟩
set_option maxRecDepth 100000 in
set_option maxHeartbeats 4000000 in
theorem c_X4_sits (E : ZE) (M : Mem) (g : LG) (hg : gX (M 9) = g) (m : Nat) (hm : m < 10) : Mt E yX4_sits cX4_sits 2 (some .boolean) rm_X4_sits [.ref (za E 9 2), .int (nI m)] M (PI (zb (sits g m)) M) := by
  refine z_met (own := RX4) (lv := [(0, .ref (za E 9 2)), (1, .int (nI m))]) (by decide) rfl (Nat.le_of_ble_eq_true rfl) rfl (fun gg X Y => ?_)
  refine z_aload_n X (pc := 0) 0 dX4_sits_0 rfl rfl ?_
  refine z_get X (pc := 1) 6 zk_9_2 (zc_9_2 E _) rfl inlX4 (by decide) gw_83 rfl rfl dX4_sits_1 ?_
  refine z_iload_n X (pc := 4) 1 dX4_sits_4 rfl rfl ?_
  refine z_callV X (pc := 5) (rest := []) kv_X7_at (c_X7_at E M 9 28 m (by decide) (by decide) (show m < 10 by omega)) zk_9_28 (zc_9_28 E _) rfl rfl gw_332 (by decide) rfl rfl (Nat.le_of_ble_eq_true rfl) dX4_sits_5 (zk_i ?_)
  refine z_top (y := (g 12 m)) (S9.row 12 (S9.rf hg) rfl (by decide) (show m < 10 by omega)) ?_
  refine z_iconst X (pc := 8) (v := (-1)) dX4_sits_8 (by decide) ?_
  refine z_icmp_eq X (pc := 9) (tgt := 16) dX4_sits_9 (by decide) (fun c9 => ?_) (fun c9 => ?_)
  · refine z_iconst X (pc := 16) (v := 0) dX4_sits_16 (by decide) ?_
    exact z_bret X Y dX4_sits_17 (by simp [sits, zb, c9]) rfl
  · refine z_iconst X (pc := 12) (v := 1) dX4_sits_12 (by decide) ?_
    refine z_goto X (pc := 13) (tgt := 17) dX4_sits_13 (by decide) ?_
    exact z_bret X Y dX4_sits_17 (by simp [sits, zb, c9]) rfl

def rm_X4_sitting : Room := { frames := 2, cells := 0, slots := 0, locals := 42 }
theorem kv_X4_sitting : KV yX4_sitting RX4 cX4_sitting 3 (some .int) 0 := ⟨⟨gw_325, gw_326, gw_45, gw_327⟩, by decide +kernel⟩
set_option maxRecDepth 100000 in
set_option maxHeartbeats 4000000 in
theorem c_X4_sitting (E : ZE) (M : Mem) (g : LG) (hg : gX (M 9) = g) (nm : Nat) (hnm : g 14 8 = nI nm) (hn : nm ≤ 10) : Mt E yX4_sitting cX4_sitting 3 (some .int) rm_X4_sitting [.ref (za E 9 2)] M (PI (nI (cntB (sits g) nm)) M) := by
  refine z_met (own := RX4) (lv := [(0, .ref (za E 9 2))]) (by decide) rfl (Nat.le_of_ble_eq_true rfl) rfl (fun gg X Y => ?_)
  refine z_iconst X (pc := 0) (v := 0) dX4_sitting_0 (by decide) ?_
  refine z_istore_n X (pc := 1) (lv1 := [(1, .int 0), (0, .ref (za E 9 2))]) dX4_sitting_1 rfl (by decide) rfl ?_
  refine z_iconst X (pc := 2) (v := 0) dX4_sitting_2 (by decide) ?_
  refine z_istore_n X (pc := 3) (lv1 := [(2, .int 0), (1, .int 0), (0, .ref (za E 9 2))]) dX4_sitting_3 rfl (by decide) rfl ?_
  refine z_sub (lv' := [(2, .int (nI 0)), (1, .int (nI (cntB (sits g) 0))), (0, .ref (za E 9 2))]) [0, 1, 2] rfl ?_
  refine z_loop (nm) 4 (σ := Unit) (fun i s => True) (fun i s => (M, [(2, .int (nI i)), (1, .int (nI (cntB (sits g) i))), (0, .ref (za E 9 2))])) ?_ 0 () (Nat.zero_le _) trivial
  intro i s hi4 hJ4 ih4
  show Z gg E M [(2, .int (nI i)), (1, .int (nI (cntB (sits g) i))), (0, .ref (za E 9 2))] 4 []
  refine z_iload_n X (pc := 4) 0 dX4_sitting_4 rfl rfl ?_
  refine z_aload_n X (pc := 5) 2 dX4_sitting_5 rfl rfl ?_
  refine z_get X (pc := 6) 0 zk_9_2 (zc_9_2 E _) rfl inlX4 (by decide) gw_169 rfl rfl dX4_sitting_6 ?_
  refine z_top (y := (nI nm)) ((S9.cm (S9.rf hg)).trans (by first | exact hnm | simp [gu, hnm])) ?_
  refine z_nicmp_ge X (pc := 9) (a := i) (b := nm) (tgt := 29) dX4_sitting_9 (by decide) (by omega) (by omega) (fun c9 => ?_) (fun c9 => ?_)
  · refine z_iload_n X (pc := 29) 1 dX4_sitting_29 rfl rfl ?_
    exact z_pret X Y dX4_sitting_30 (by rw [show i = nm by omega]) rfl
  · refine z_aload_n X (pc := 12) 2 dX4_sitting_12 rfl rfl ?_
    refine z_iload_n X (pc := 13) 0 dX4_sitting_13 rfl rfl ?_
    refine z_callV X (pc := 14) (rest := []) kv_X4_sits (c_X4_sits E M g (And.left (S9.rf hg))  i (show i < 10 by omega)) zk_9_2 (zc_9_2 E _) rfl rfl gw_328 (by decide) rfl rfl (Nat.le_of_ble_eq_true rfl) dX4_sitting_14 (zk_i ?_)
    refine z_bif_eq X (pc := 17) (tgt := 23) dX4_sitting_17 (by decide) (fun c17 => ?_) (fun c17 => ?_)
    · refine z_iinc X (pc := 23) (v := (nI (i + 1))) (lv1 := [(2, .int (nI (i + 1))), (1, .int (nI (cntB (sits g) i))), (0, .ref (za E 9 2))]) 0 dX4_sitting_23 rfl (nI_1 _) (by decide) rfl ?_
      refine z_goto X (pc := 26) (tgt := 4) dX4_sitting_26 (by decide) ?_
      refine z_sub (lv' := [(2, .int (nI (i + 1))), (1, .int (nI (cntB (sits g) i))), (0, .ref (za E 9 2))]) [0, 1, 2] rfl ?_
      refine z_eq (lv' := [(2, .int (nI (i + 1))), (1, .int (nI (cntB (sits g) (i + 1)))), (0, .ref (za E 9 2))]) (by simp [cntB, nI_1, c9, c17]) rfl ?_
      exact ih4 () (by omega) trivial
    · refine z_iinc X (pc := 20) (v := (nI (cntB (sits g) i + 1))) (lv1 := [(1, .int (nI (cntB (sits g) i + 1))), (2, .int (nI i)), (0, .ref (za E 9 2))]) 1 dX4_sitting_20 rfl (nI_1 _) (by decide) rfl ?_
      refine z_iinc X (pc := 23) (v := (nI (i + 1))) (lv1 := [(2, .int (nI (i + 1))), (1, .int (nI (cntB (sits g) i + 1))), (0, .ref (za E 9 2))]) 1 dX4_sitting_23 rfl (nI_1 _) (by decide) rfl ?_
      refine z_goto X (pc := 26) (tgt := 4) dX4_sitting_26 (by decide) ?_
      refine z_sub (lv' := [(2, .int (nI (i + 1))), (1, .int (nI (cntB (sits g) i + 1))), (0, .ref (za E 9 2))]) [0, 1, 2] rfl ?_
      refine z_eq (lv' := [(2, .int (nI (i + 1))), (1, .int (nI (cntB (sits g) (i + 1)))), (0, .ref (za E 9 2))]) (by simp [cntB, nI_1, c9, c17]) rfl ?_
      exact ih4 () (by omega) trivial

def rm_X4_allCoins : Room := { frames := 1, cells := 0, slots := 0, locals := 21 }
theorem kv_X4_allCoins : KV yX4_allCoins RX4 cX4_allCoins 3 (some .int) 0 := ⟨⟨gw_373, gw_374, gw_45, gw_375⟩, by decide +kernel⟩
set_option maxRecDepth 100000 in
set_option maxHeartbeats 4000000 in
theorem c_X4_allCoins (E : ZE) (M : Mem) (g : LG) (hg : gX (M 9) = g) (nm : Nat) (hnm : g 14 8 = nI nm) (hn : nm ≤ 10) : Mt E yX4_allCoins cX4_allCoins 3 (some .int) rm_X4_allCoins [.ref (za E 9 2)] M (PI (sumI (g 10) nm) M) := by
  refine z_met (own := RX4) (lv := [(0, .ref (za E 9 2))]) (by decide) rfl (Nat.le_of_ble_eq_true rfl) rfl (fun gg X Y => ?_)
  refine z_iconst X (pc := 0) (v := 0) dX4_allCoins_0 (by decide) ?_
  refine z_istore_n X (pc := 1) (lv1 := [(1, .int 0), (0, .ref (za E 9 2))]) dX4_allCoins_1 rfl (by decide) rfl ?_
  refine z_iconst X (pc := 2) (v := 0) dX4_allCoins_2 (by decide) ?_
  refine z_istore_n X (pc := 3) (lv1 := [(2, .int 0), (1, .int 0), (0, .ref (za E 9 2))]) dX4_allCoins_3 rfl (by decide) rfl ?_
  refine z_sub (lv' := [(2, .int (nI 0)), (1, .int (sumI (g 10) 0)), (0, .ref (za E 9 2))]) [0, 1, 2] rfl ?_
  refine z_loop (nm) 4 (σ := Unit) (fun i s => True) (fun i s => (M, [(2, .int (nI i)), (1, .int (sumI (g 10) i)), (0, .ref (za E 9 2))])) ?_ 0 () (Nat.zero_le _) trivial
  intro i s hi4 hJ4 ih4
  show Z gg E M [(2, .int (nI i)), (1, .int (sumI (g 10) i)), (0, .ref (za E 9 2))] 4 []
  refine z_iload_n X (pc := 4) 0 dX4_allCoins_4 rfl rfl ?_
  refine z_aload_n X (pc := 5) 2 dX4_allCoins_5 rfl rfl ?_
  refine z_get X (pc := 6) 0 zk_9_2 (zc_9_2 E _) rfl inlX4 (by decide) gw_169 rfl rfl dX4_allCoins_6 ?_
  refine z_top (y := (nI nm)) ((S9.cm (S9.rf hg)).trans (by first | exact hnm | simp [gu, hnm])) ?_
  refine z_nicmp_ge X (pc := 9) (a := i) (b := nm) (tgt := 29) dX4_allCoins_9 (by decide) (by omega) (by omega) (fun c9 => ?_) (fun c9 => ?_)
  · refine z_iload_n X (pc := 29) 1 dX4_allCoins_29 rfl rfl ?_
    exact z_pret X Y dX4_allCoins_30 (by rw [show i = nm by omega]) rfl
  · refine z_iload_n X (pc := 12) 1 dX4_allCoins_12 rfl rfl ?_
    refine z_aload_n X (pc := 13) 2 dX4_allCoins_13 rfl rfl ?_
    refine z_get X (pc := 14) 4 zk_9_2 (zc_9_2 E _) rfl inlX4 (by decide) gw_81 rfl rfl dX4_allCoins_14 ?_
    refine z_iload_n X (pc := 17) 0 dX4_allCoins_17 rfl rfl ?_
    refine z_callV X (pc := 18) (rest := [.int (sumI (g 10) i)]) kv_X7_at (c_X7_at E M 9 24 i (by decide) (by decide) (show i < 10 by omega)) zk_9_24 (zc_9_24 E _) rfl rfl gw_332 (by decide) rfl rfl (Nat.le_of_ble_eq_true rfl) dX4_allCoins_18 (zk_i ?_)
    refine z_top (y := (g 10 i)) (S9.row 10 (S9.rf hg) rfl (by decide) (show i < 10 by omega)) ?_
    refine z_iadd X (pc := 21) dX4_allCoins_21 ?_
    refine z_istore_n X (pc := 22) (lv1 := [(1, .int ((sumI (g 10) i) + (g 10 i))), (2, .int (nI i)), (0, .ref (za E 9 2))]) dX4_allCoins_22 rfl (by decide) rfl ?_
    refine z_iinc X (pc := 23) (v := (nI (i + 1))) (lv1 := [(2, .int (nI (i + 1))), (1, .int ((sumI (g 10) i) + (g 10 i))), (0, .ref (za E 9 2))]) 1 dX4_allCoins_23 rfl (nI_1 _) (by decide) rfl ?_
    refine z_goto X (pc := 26) (tgt := 4) dX4_allCoins_26 (by decide) ?_
    refine z_sub (lv' := [(2, .int (nI (i + 1))), (1, .int ((sumI (g 10) i) + (g 10 i))), (0, .ref (za E 9 2))]) [0, 1, 2] rfl ?_
    refine z_eq (lv' := [(2, .int (nI (i + 1))), (1, .int (sumI (g 10) (i + 1))), (0, .ref (za E 9 2))]) (by simp [sumI]) rfl ?_
    exact ih4 () (by omega) trivial

def rm_X4_highestBidder : Room := { frames := 1, cells := 0, slots := 0, locals := 21 }
theorem kv_X4_highestBidder : KV yX4_highestBidder RX4 cX4_highestBidder 5 (some .int) 1 := ⟨⟨gw_471, gw_472, gw_45, gw_473⟩, by decide +kernel⟩
set_option maxRecDepth 100000 in
set_option maxHeartbeats 4000000 in
theorem c_X4_highestBidder (E : ZE) (M : Mem) (g : LG) (hg : gX (M 9) = g) (nm : Nat) (hnm : g 14 8 = nI nm) (hn : nm ≤ 10) (but : Int32) : Mt E yX4_highestBidder cX4_highestBidder 5 (some .int) rm_X4_highestBidder [.ref (za E 9 2), .int but] M (PI (highB g but nm).1 M) := by
  refine z_met (own := RX4) (lv := [(0, .ref (za E 9 2)), (1, .int but)]) (by decide) rfl (Nat.le_of_ble_eq_true rfl) rfl (fun gg X Y => ?_)
  refine z_iconst X (pc := 0) (v := (-1)) dX4_highestBidder_0 (by decide) ?_
  refine z_istore_n X (pc := 1) (lv1 := [(2, .int ((-1))), (0, .ref (za E 9 2)), (1, .int but)]) dX4_highestBidder_1 rfl (by decide) rfl ?_
  refine z_iconst X (pc := 2) (v := 0) dX4_highestBidder_2 (by decide) ?_
  refine z_istore_n X (pc := 3) (lv1 := [(3, .int 0), (2, .int ((-1))), (0, .ref (za E 9 2)), (1, .int but)]) dX4_highestBidder_3 rfl (by decide) rfl ?_
  refine z_iconst X (pc := 4) (v := 0) dX4_highestBidder_4 (by decide) ?_
  refine z_istore X (pc := 5) (lv1 := [(4, .int 0), (3, .int 0), (2, .int ((-1))), (0, .ref (za E 9 2)), (1, .int but)]) dX4_highestBidder_5 (by decide) rfl ?_
  refine z_sub (lv' := [(4, .int (nI 0)), (2, .int ((highB g but 0).1)), (3, .int ((highB g but 0).2)), (1, .int but), (0, .ref (za E 9 2))]) [0, 2, 1, 4, 3] rfl ?_
  refine z_loop (nm) 7 (σ := Unit) (fun i s => True) (fun i s => (M, [(4, .int (nI i)), (2, .int ((highB g but i).1)), (3, .int ((highB g but i).2)), (1, .int but), (0, .ref (za E 9 2))])) ?_ 0 () (Nat.zero_le _) trivial
  intro i s hi7 hJ7 ih7
  show Z gg E M [(4, .int (nI i)), (2, .int ((highB g but i).1)), (3, .int ((highB g but i).2)), (1, .int but), (0, .ref (za E 9 2))] 7 []
  refine z_iload X (pc := 7) 0 dX4_highestBidder_7 rfl ?_
  refine z_aload_n X (pc := 9) 4 dX4_highestBidder_9 rfl rfl ?_
  refine z_get X (pc := 10) 0 zk_9_2 (zc_9_2 E _) rfl inlX4 (by decide) gw_169 rfl rfl dX4_highestBidder_10 ?_
  refine z_top (y := (nI nm)) ((S9.cm (S9.rf hg)).trans (by first | exact hnm | simp [gu, hnm])) ?_
  refine z_nicmp_ge X (pc := 13) (a := i) (b := nm) (tgt := 54) dX4_highestBidder_13 (by decide) (by omega) (by omega) (fun c13 => ?_) (fun c13 => ?_)
  · refine z_iload_n X (pc := 54) 1 dX4_highestBidder_54 rfl rfl ?_
    exact z_pret X Y dX4_highestBidder_55 (by rw [show i = nm by omega]) rfl
  · refine z_iload X (pc := 16) 0 dX4_highestBidder_16 rfl ?_
    refine z_iload_n X (pc := 18) 3 dX4_highestBidder_18 rfl rfl ?_
    refine z_icmp_eq X (pc := 19) (tgt := 48) dX4_highestBidder_19 (by decide) (fun c19 => ?_) (fun c19 => ?_)
    · refine z_iinc X (pc := 48) (v := (nI (i + 1))) (lv1 := [(4, .int (nI (i + 1))), (2, .int ((highB g but i).1)), (3, .int ((highB g but i).2)), (1, .int but), (0, .ref (za E 9 2))]) 0 dX4_highestBidder_48 rfl (nI_1 _) (by decide) rfl ?_
      refine z_goto X (pc := 51) (tgt := 7) dX4_highestBidder_51 (by decide) ?_
      refine z_sub (lv' := [(4, .int (nI (i + 1))), (2, .int ((highB g but i).1)), (3, .int ((highB g but i).2)), (1, .int but), (0, .ref (za E 9 2))]) [0, 1, 2, 3, 4] rfl ?_
      refine z_eq (lv' := [(4, .int (nI (i + 1))), (2, .int ((highB g but (i + 1)).1)), (3, .int ((highB g but (i + 1)).2)), (1, .int but), (0, .ref (za E 9 2))]) (by simp [highB, c13, c19]) rfl ?_
      exact ih7 () (by omega) trivial
    · refine z_aload_n X (pc := 22) 4 dX4_highestBidder_22 rfl rfl ?_
      refine z_get X (pc := 23) 5 zk_9_2 (zc_9_2 E _) rfl inlX4 (by decide) gw_82 rfl rfl dX4_highestBidder_23 ?_
      refine z_iload X (pc := 26) 0 dX4_highestBidder_26 rfl ?_
      refine z_callV X (pc := 28) (rest := []) kv_X7_at (c_X7_at E M 9 26 i (by decide) (by decide) (show i < 10 by omega)) zk_9_26 (zc_9_26 E _) rfl rfl gw_332 (by decide) rfl rfl (Nat.le_of_ble_eq_true rfl) dX4_highestBidder_28 (zk_i ?_)
      refine z_top (y := (g 11 i)) (S9.row 11 (S9.rf hg) rfl (by decide) (show i < 10 by omega)) ?_
      refine z_iload_n X (pc := 31) 2 dX4_highestBidder_31 rfl rfl ?_
      refine z_icmp_le X (pc := 32) (tgt := 48) dX4_highestBidder_32 (by decide) (fun c32 => ?_) (fun c32 => ?_)
      · refine z_iinc X (pc := 48) (v := (nI (i + 1))) (lv1 := [(4, .int (nI (i + 1))), (2, .int ((highB g but i).1)), (3, .int ((highB g but i).2)), (1, .int but), (0, .ref (za E 9 2))]) 0 dX4_highestBidder_48 rfl (nI_1 _) (by decide) rfl ?_
        refine z_goto X (pc := 51) (tgt := 7) dX4_highestBidder_51 (by decide) ?_
        refine z_sub (lv' := [(4, .int (nI (i + 1))), (2, .int ((highB g but i).1)), (3, .int ((highB g but i).2)), (1, .int but), (0, .ref (za E 9 2))]) [0, 1, 2, 3, 4] rfl ?_
        refine z_eq (lv' := [(4, .int (nI (i + 1))), (2, .int ((highB g but (i + 1)).1)), (3, .int ((highB g but (i + 1)).2)), (1, .int but), (0, .ref (za E 9 2))]) (by simp [highB, c13, c19, c32]) rfl ?_
        exact ih7 () (by omega) trivial
      · refine z_iload X (pc := 35) 0 dX4_highestBidder_35 rfl ?_
        refine z_istore_n X (pc := 37) (lv1 := [(2, .int (nI i)), (4, .int (nI i)), (3, .int ((highB g but i).2)), (1, .int but), (0, .ref (za E 9 2))]) dX4_highestBidder_37 rfl (by decide) rfl ?_
        refine z_aload_n X (pc := 38) 4 dX4_highestBidder_38 rfl rfl ?_
        refine z_get X (pc := 39) 5 zk_9_2 (zc_9_2 E _) rfl inlX4 (by decide) gw_82 rfl rfl dX4_highestBidder_39 ?_
        refine z_iload X (pc := 42) 1 dX4_highestBidder_42 rfl ?_
        refine z_callV X (pc := 44) (rest := []) kv_X7_at (c_X7_at E M 9 26 i (by decide) (by decide) (show i < 10 by omega)) zk_9_26 (zc_9_26 E _) rfl rfl gw_332 (by decide) rfl rfl (Nat.le_of_ble_eq_true rfl) dX4_highestBidder_44 (zk_i ?_)
        refine z_top (y := (g 11 i)) (S9.row 11 (S9.rf hg) rfl (by decide) (show i < 10 by omega)) ?_
        refine z_istore_n X (pc := 47) (lv1 := [(3, .int (g 11 i)), (2, .int (nI i)), (4, .int (nI i)), (1, .int but), (0, .ref (za E 9 2))]) dX4_highestBidder_47 rfl (by decide) rfl ?_
        refine z_iinc X (pc := 48) (v := (nI (i + 1))) (lv1 := [(4, .int (nI (i + 1))), (3, .int (g 11 i)), (2, .int (nI i)), (1, .int but), (0, .ref (za E 9 2))]) 2 dX4_highestBidder_48 rfl (nI_1 _) (by decide) rfl ?_
        refine z_goto X (pc := 51) (tgt := 7) dX4_highestBidder_51 (by decide) ?_
        refine z_sub (lv' := [(4, .int (nI (i + 1))), (2, .int (nI i)), (3, .int (g 11 i)), (1, .int but), (0, .ref (za E 9 2))]) [0, 2, 1, 3, 4] rfl ?_
        refine z_eq (lv' := [(4, .int (nI (i + 1))), (2, .int ((highB g but (i + 1)).1)), (3, .int ((highB g but (i + 1)).2)), (1, .int but), (0, .ref (za E 9 2))]) (by simp [highB, c13, c19, c32]) rfl ?_
        exact ih7 () (by omega) trivial

def rm_X4_forgetBids : Room := { frames := 1, cells := 0, slots := 0, locals := 22 }
theorem kv_X4_forgetBids : KV yX4_forgetBids RX4 cX4_forgetBids 2 none 0 := ⟨⟨gw_479, gw_480, gw_45, gw_481⟩, by decide +kernel⟩
set_option maxRecDepth 100000 in
set_option maxHeartbeats 4000000 in
theorem c_X4_forgetBids (E : ZE) (M : Mem) (g : LG) (hg : gX (M 9) = g) (nm : Nat) (hnm : g 14 8 = nI nm) (hn : nm ≤ 10) : Mt E yX4_forgetBids cX4_forgetBids 2 none rm_X4_forgetBids [.ref (za E 9 2)] M (RV (S9 M (noBids g nm))) := by
  refine z_met (own := RX4) (lv := [(0, .ref (za E 9 2))]) (by decide) rfl (Nat.le_of_ble_eq_true rfl) rfl (fun gg X Y => ?_)
  refine z_iconst X (pc := 0) (v := 0) dX4_forgetBids_0 (by decide) ?_
  refine z_istore_n X (pc := 1) (lv1 := [(1, .int 0), (0, .ref (za E 9 2))]) dX4_forgetBids_1 rfl (by decide) rfl ?_
  refine z_sub (lv' := [(1, .int (nI 0)), (0, .ref (za E 9 2))]) [0, 1] rfl ?_
  refine z_loop (nm) 2 (σ := Mem) (fun i s => S9 M (noBids g i) s) (fun i s => (s, [(1, .int (nI i)), (0, .ref (za E 9 2))])) ?_ 0 M (Nat.zero_le _) (S9.rf hg)
  intro i s hi2 hJ2 ih2
  obtain ⟨M1, rfl⟩ : ∃ z, z = s := ⟨s, rfl⟩
  show Z gg E M1 [(1, .int (nI i)), (0, .ref (za E 9 2))] 2 []
  replace hJ2 : S9 M (noBids g i) M1 := hJ2
  refine z_iload_n X (pc := 2) 0 dX4_forgetBids_2 rfl rfl ?_
  refine z_aload_n X (pc := 3) 1 dX4_forgetBids_3 rfl rfl ?_
  refine z_get X (pc := 4) 0 zk_9_2 (zc_9_2 E _) rfl inlX4 (by decide) gw_169 rfl rfl dX4_forgetBids_4 ?_
  refine z_top (y := (nI nm)) ((S9.cm hJ2).trans (by simp [noBids_off, gu, hnm])) ?_
  refine z_nicmp_ge X (pc := 7) (a := i) (b := nm) (tgt := 25) dX4_forgetBids_7 (by decide) (by omega) (by omega) (fun c7 => ?_) (fun c7 => ?_)
  · exact z_vret X Y dX4_forgetBids_25 ⟨rfl, by rw [show nm = i by omega]; exact hJ2⟩
  · refine z_aload_n X (pc := 10) 1 dX4_forgetBids_10 rfl rfl ?_
    refine z_get X (pc := 11) 5 zk_9_2 (zc_9_2 E _) rfl inlX4 (by decide) gw_82 rfl rfl dX4_forgetBids_11 ?_
    refine z_iload_n X (pc := 14) 0 dX4_forgetBids_14 rfl rfl ?_
    refine z_iconst X (pc := 15) (v := 0) dX4_forgetBids_15 (by decide) ?_
    refine z_callV X (pc := 16) (rest := []) kv_X7_put (c_X7_put E M1 9 26 i 0 (by decide) (by decide) (show i < 10 by omega)) zk_9_26 (zc_9_26 E _) rfl rfl gw_232 (by decide) rfl rfl (Nat.le_of_ble_eq_true rfl) dX4_forgetBids_16 (zk_v ?_)
    refine z_gen (S9.put 11 hJ2 rfl (by decide) (show i < 10 by omega)) (fun M_1 hS_2 => ?_)
    refine z_iinc X (pc := 19) (v := (nI (i + 1))) (lv1 := [(1, .int (nI (i + 1))), (0, .ref (za E 9 2))]) 0 dX4_forgetBids_19 rfl (nI_1 _) (by decide) rfl ?_
    refine z_goto X (pc := 22) (tgt := 2) dX4_forgetBids_22 (by decide) ?_
    refine z_sub (lv' := [(1, .int (nI (i + 1))), (0, .ref (za E 9 2))]) [0, 1] rfl ?_
    exact ih2 M_1 (by omega) hS_2

def rm_X4_isAhead : Room := { frames := 2, cells := 0, slots := 0, locals := 42 }
theorem kv_X4_isAhead : KV yX4_isAhead RX4 cX4_isAhead 4 (some .boolean) 2 := ⟨⟨gw_751, gw_752, gw_45, gw_753⟩, by decide +kernel⟩
set_option maxRecDepth 100000 in
set_option maxHeartbeats 4000000 in
theorem c_X4_isAhead (E : ZE) (M : Mem) (g : LG) (hg : gX (M 9) = g) (a b : Nat) (ha : a < 10) (hb : b < 10) : Mt E yX4_isAhead cX4_isAhead 4 (some .boolean) rm_X4_isAhead [.ref (za E 9 2), .int (nI a), .int (nI b)] M (PI (zb (mAhead g a b)) M) := by
  refine z_met (own := RX4) (lv := [(0, .ref (za E 9 2)), (1, .int (nI a)), (2, .int (nI b))]) (by decide) rfl (Nat.le_of_ble_eq_true rfl) rfl (fun gg X Y => ?_)
  refine z_aload_n X (pc := 0) 0 dX4_isAhead_0 rfl rfl ?_
  refine z_get X (pc := 1) 4 zk_9_2 (zc_9_2 E _) rfl inlX4 (by decide) gw_81 rfl rfl dX4_isAhead_1 ?_
  refine z_iload_n X (pc := 4) 1 dX4_isAhead_4 rfl rfl ?_
  refine z_callV X (pc := 5) (rest := []) kv_X7_at (c_X7_at E M 9 24 a (by decide) (by decide) (show a < 10 by omega)) zk_9_24 (zc_9_24 E _) rfl rfl gw_332 (by decide) rfl rfl (Nat.le_of_ble_eq_true rfl) dX4_isAhead_5 (zk_i ?_)
  refine z_top (y := (g 10 a)) (S9.row 10 (S9.rf hg) rfl (by decide) (show a < 10 by omega)) ?_
  refine z_aload_n X (pc := 8) 0 dX4_isAhead_8 rfl rfl ?_
  refine z_get X (pc := 9) 4 zk_9_2 (zc_9_2 E _) rfl inlX4 (by decide) gw_81 rfl rfl dX4_isAhead_9 ?_
  refine z_iload_n X (pc := 12) 2 dX4_isAhead_12 rfl rfl ?_
  refine z_callV X (pc := 13) (rest := [.int (g 10 a)]) kv_X7_at (c_X7_at E M 9 24 b (by decide) (by decide) (show b < 10 by omega)) zk_9_24 (zc_9_24 E _) rfl rfl gw_332 (by decide) rfl rfl (Nat.le_of_ble_eq_true rfl) dX4_isAhead_13 (zk_i ?_)
  refine z_top (y := (g 10 b)) (S9.row 10 (S9.rf hg) rfl (by decide) (show b < 10 by omega)) ?_
  refine z_isub X (pc := 16) dX4_isAhead_16 ?_
  refine z_istore_n X (pc := 17) (lv1 := [(3, .int ((g 10 a) - (g 10 b))), (0, .ref (za E 9 2)), (1, .int (nI a)), (2, .int (nI b))]) dX4_isAhead_17 rfl (by decide) rfl ?_
  refine z_iload_n X (pc := 18) 0 dX4_isAhead_18 rfl rfl ?_
  refine z_if_eq X (pc := 19) (tgt := 32) dX4_isAhead_19 (by decide) (fun c19 => ?_) (fun c19 => ?_)
  · refine z_aload_n X (pc := 32) 1 dX4_isAhead_32 rfl rfl ?_
    refine z_iload_n X (pc := 33) 2 dX4_isAhead_33 rfl rfl ?_
    refine z_callV X (pc := 34) (rest := []) kv_X4_sits (c_X4_sits E M g (And.left (S9.rf hg))  a (show a < 10 by omega)) zk_9_2 (zc_9_2 E _) rfl rfl gw_328 (by decide) rfl rfl (Nat.le_of_ble_eq_true rfl) dX4_isAhead_34 (zk_i ?_)
    refine z_aload_n X (pc := 37) 1 dX4_isAhead_37 rfl rfl ?_
    refine z_iload_n X (pc := 38) 3 dX4_isAhead_38 rfl rfl ?_
    refine z_callV X (pc := 39) (rest := [.int (zb (sits g a))]) kv_X4_sits (c_X4_sits E M g (And.left (S9.rf hg))  b (show b < 10 by omega)) zk_9_2 (zc_9_2 E _) rfl rfl gw_328 (by decide) rfl rfl (Nat.le_of_ble_eq_true rfl) dX4_isAhead_39 (zk_i ?_)
    refine z_bicmp_eq X (pc := 42) (tgt := 51) dX4_isAhead_42 (by decide) (fun c42 => ?_) (fun c42 => ?_)
    · refine z_iload_n X (pc := 51) 2 dX4_isAhead_51 rfl rfl ?_
      refine z_iload_n X (pc := 52) 3 dX4_isAhead_52 rfl rfl ?_
      refine z_nicmp_ge X (pc := 53) (a := a) (b := b) (tgt := 60) dX4_isAhead_53 (by decide) (by omega) (by omega) (fun c53 => ?_) (fun c53 => ?_)
      · refine z_iconst X (pc := 60) (v := 0) dX4_isAhead_60 (by decide) ?_
        exact z_bret X Y dX4_isAhead_61 (by simp [mAhead, zb_inj, zb, c19, c42, c53]) rfl
      · refine z_iconst X (pc := 56) (v := 1) dX4_isAhead_56 (by decide) ?_
        refine z_goto X (pc := 57) (tgt := 61) dX4_isAhead_57 (by decide) ?_
        exact z_bret X Y dX4_isAhead_61 (by simp [mAhead, zb_inj, zb, c19, c42, c53]) rfl
    · refine z_aload_n X (pc := 45) 1 dX4_isAhead_45 rfl rfl ?_
      refine z_iload_n X (pc := 46) 2 dX4_isAhead_46 rfl rfl ?_
      refine z_callV X (pc := 47) (rest := []) kv_X4_sits (c_X4_sits E M g (And.left (S9.rf hg))  a (show a < 10 by omega)) zk_9_2 (zc_9_2 E _) rfl rfl gw_328 (by decide) rfl rfl (Nat.le_of_ble_eq_true rfl) dX4_isAhead_47 (zk_i ?_)
      exact z_bret X Y dX4_isAhead_50 (by simp [mAhead, zb_inj, zb, c19, c42]) rfl
  · refine z_iload_n X (pc := 22) 0 dX4_isAhead_22 rfl rfl ?_
    refine z_if_le X (pc := 23) (tgt := 30) dX4_isAhead_23 (by decide) (fun c23 => ?_) (fun c23 => ?_)
    · refine z_iconst X (pc := 30) (v := 0) dX4_isAhead_30 (by decide) ?_
      exact z_bret X Y dX4_isAhead_31 (by simp [mAhead, zb_inj, zb, c19, c23]) rfl
    · refine z_iconst X (pc := 26) (v := 1) dX4_isAhead_26 (by decide) ?_
      refine z_goto X (pc := 27) (tgt := 31) dX4_isAhead_27 (by decide) ?_
      exact z_bret X Y dX4_isAhead_31 (by simp [mAhead, zb_inj, zb, c19, c23]) rfl

def rm_X4_bring : Room := { frames := 1, cells := 0, slots := 0, locals := 22 }
theorem kv_X4_bring : KV yX4_bring RX4 cX4_bring 5 (some .int) 3 := ⟨⟨gw_229, gw_230, gw_45, gw_231⟩, by decide +kernel⟩
set_option maxRecDepth 100000 in
set_option maxHeartbeats 4000000 in
theorem c_X4_bring (E : ZE) (M : Mem) (g : LG) (hg : gX (M 9) = g) (nm : Nat) (hnm : g 14 8 = nI nm) (hn : nm < 10) (sec skill dem : Int32) : Mt E yX4_bring cX4_bring 5 (some .int) rm_X4_bring [.ref (za E 9 2), .int sec, .int skill, .int dem] M (RI (fun v M1 => v = nI nm ∧ S9 M (bringM g nm sec skill dem) M1)) := by
  refine z_met (own := RX4) (lv := [(0, .ref (za E 9 2)), (1, .int sec), (2, .int skill), (3, .int dem)]) (by decide) rfl (Nat.le_of_ble_eq_true rfl) rfl (fun gg X Y => ?_)
  refine z_aload_n X (pc := 0) 0 dX4_bring_0 rfl rfl ?_
  refine z_get X (pc := 1) 0 zk_9_2 (zc_9_2 E _) rfl inlX4 (by decide) gw_169 rfl rfl dX4_bring_1 ?_
  refine z_top (y := (nI nm)) ((S9.cm (S9.rf hg)).trans (by first | exact hnm | simp [gu, hnm])) ?_
  refine z_istore X (pc := 4) (lv1 := [(4, .int (nI nm)), (0, .ref (za E 9 2)), (1, .int sec), (2, .int skill), (3, .int dem)]) dX4_bring_4 (by decide) rfl ?_
  refine z_aload_n X (pc := 6) 1 dX4_bring_6 rfl rfl ?_
  refine z_get X (pc := 7) 1 zk_9_2 (zc_9_2 E _) rfl inlX4 (by decide) gw_78 rfl rfl dX4_bring_7 ?_
  refine z_iload X (pc := 10) 0 dX4_bring_10 rfl ?_
  refine z_iload_n X (pc := 12) 2 dX4_bring_12 rfl rfl ?_
  refine z_callV X (pc := 13) (rest := []) kv_X7_put (c_X7_put E M 9 18 nm sec (by decide) (by decide) (show nm < 10 by omega)) zk_9_18 (zc_9_18 E _) rfl rfl gw_232 (by decide) rfl rfl (Nat.le_of_ble_eq_true rfl) dX4_bring_13 (zk_v ?_)
  refine z_gen (S9.put 7 (S9.rf hg) rfl (by decide) (show nm < 10 by omega)) (fun M_1 hS_2 => ?_)
  refine z_aload_n X (pc := 16) 1 dX4_bring_16 rfl rfl ?_
  refine z_get X (pc := 17) 2 zk_9_2 (zc_9_2 E _) rfl inlX4 (by decide) gw_79 rfl rfl dX4_bring_17 ?_
  refine z_iload X (pc := 20) 0 dX4_bring_20 rfl ?_
  refine z_iload_n X (pc := 22) 3 dX4_bring_22 rfl rfl ?_
  refine z_callV X (pc := 23) (rest := []) kv_X7_put (c_X7_put E M_1 9 20 nm skill (by decide) (by decide) (show nm < 10 by omega)) zk_9_20 (zc_9_20 E _) rfl rfl gw_232 (by decide) rfl rfl (Nat.le_of_ble_eq_true rfl) dX4_bring_23 (zk_v ?_)
  refine z_gen (S9.put 8 hS_2 rfl (by decide) (show nm < 10 by omega)) (fun M_3 hS_4 => ?_)
  refine z_aload_n X (pc := 26) 1 dX4_bring_26 rfl rfl ?_
  refine z_get X (pc := 27) 3 zk_9_2 (zc_9_2 E _) rfl inlX4 (by decide) gw_80 rfl rfl dX4_bring_27 ?_
  refine z_iload X (pc := 30) 0 dX4_bring_30 rfl ?_
  refine z_iload_n X (pc := 32) 4 dX4_bring_32 rfl rfl ?_
  refine z_callV X (pc := 33) (rest := []) kv_X7_put (c_X7_put E M_3 9 22 nm dem (by decide) (by decide) (show nm < 10 by omega)) zk_9_22 (zc_9_22 E _) rfl rfl gw_232 (by decide) rfl rfl (Nat.le_of_ble_eq_true rfl) dX4_bring_33 (zk_v ?_)
  refine z_gen (S9.put 9 hS_4 rfl (by decide) (show nm < 10 by omega)) (fun M_5 hS_6 => ?_)
  refine z_aload_n X (pc := 36) 1 dX4_bring_36 rfl rfl ?_
  refine z_get X (pc := 37) 4 zk_9_2 (zc_9_2 E _) rfl inlX4 (by decide) gw_81 rfl rfl dX4_bring_37 ?_
  refine z_iload X (pc := 40) 0 dX4_bring_40 rfl ?_
  refine z_bipush X (pc := 42) (v := 8) dX4_bring_42 (by decide) ?_
  refine z_callV X (pc := 44) (rest := []) kv_X7_put (c_X7_put E M_5 9 24 nm 8 (by decide) (by decide) (show nm < 10 by omega)) zk_9_24 (zc_9_24 E _) rfl rfl gw_232 (by decide) rfl rfl (Nat.le_of_ble_eq_true rfl) dX4_bring_44 (zk_v ?_)
  refine z_gen (S9.put 10 hS_6 rfl (by decide) (show nm < 10 by omega)) (fun M_7 hS_8 => ?_)
  refine z_aload_n X (pc := 47) 1 dX4_bring_47 rfl rfl ?_
  refine z_get X (pc := 48) 5 zk_9_2 (zc_9_2 E _) rfl inlX4 (by decide) gw_82 rfl rfl dX4_bring_48 ?_
  refine z_iload X (pc := 51) 0 dX4_bring_51 rfl ?_
  refine z_iconst X (pc := 53) (v := 0) dX4_bring_53 (by decide) ?_
  refine z_callV X (pc := 54) (rest := []) kv_X7_put (c_X7_put E M_7 9 26 nm 0 (by decide) (by decide) (show nm < 10 by omega)) zk_9_26 (zc_9_26 E _) rfl rfl gw_232 (by decide) rfl rfl (Nat.le_of_ble_eq_true rfl) dX4_bring_54 (zk_v ?_)
  refine z_gen (S9.put 11 hS_8 rfl (by decide) (show nm < 10 by omega)) (fun M_9 hS_10 => ?_)
  refine z_aload_n X (pc := 57) 1 dX4_bring_57 rfl rfl ?_
  refine z_get X (pc := 58) 6 zk_9_2 (zc_9_2 E _) rfl inlX4 (by decide) gw_83 rfl rfl dX4_bring_58 ?_
  refine z_iload X (pc := 61) 0 dX4_bring_61 rfl ?_
  refine z_iconst X (pc := 63) (v := (-1)) dX4_bring_63 (by decide) ?_
  refine z_callV X (pc := 64) (rest := []) kv_X7_put (c_X7_put E M_9 9 28 nm ((-1)) (by decide) (by decide) (show nm < 10 by omega)) zk_9_28 (zc_9_28 E _) rfl rfl gw_232 (by decide) rfl rfl (Nat.le_of_ble_eq_true rfl) dX4_bring_64 (zk_v ?_)
  refine z_gen (S9.put 12 hS_10 rfl (by decide) (show nm < 10 by omega)) (fun M_11 hS_12 => ?_)
  refine z_aload_n X (pc := 67) 1 dX4_bring_67 rfl rfl ?_
  refine z_get X (pc := 68) 7 zk_9_2 (zc_9_2 E _) rfl inlX4 (by decide) gw_84 rfl rfl dX4_bring_68 ?_
  refine z_iload X (pc := 71) 0 dX4_bring_71 rfl ?_
  refine z_iconst X (pc := 73) (v := 0) dX4_bring_73 (by decide) ?_
  refine z_callV X (pc := 74) (rest := []) kv_X7_put (c_X7_put E M_11 9 30 nm 0 (by decide) (by decide) (show nm < 10 by omega)) zk_9_30 (zc_9_30 E _) rfl rfl gw_232 (by decide) rfl rfl (Nat.le_of_ble_eq_true rfl) dX4_bring_74 (zk_v ?_)
  refine z_gen (S9.put 13 hS_12 rfl (by decide) (show nm < 10 by omega)) (fun M_13 hS_14 => ?_)
  refine z_aload_n X (pc := 77) 1 dX4_bring_77 rfl rfl ?_
  refine z_dup X (pc := 78) dX4_bring_78 rfl ?_
  refine z_get X (pc := 79) 0 zk_9_2 (zc_9_2 E _) rfl inlX4 (by decide) gw_169 rfl rfl dX4_bring_79 ?_
  refine z_top (y := (nI nm)) ((S9.cm hS_14).trans (by first | exact hnm | simp [gu, hnm])) ?_
  refine z_iconst X (pc := 82) (v := 1) dX4_bring_82 (by decide) ?_
  refine z_iadd X (pc := 83) dX4_bring_83 ?_
  refine z_put X (pc := 84) 0 zk_9_2 (zc_9_2 E _) rfl inlX4 tyX4 tyX4_ok nmX4 (by decide) gw_169 rfl rfl (ty := .int) (by decide +kernel) rfl rfl (Nat.le_of_ble_eq_true rfl) dX4_bring_84 rfl ?_
  refine z_gen (S9.pcm hS_14) (fun M_15 hS_16 => ?_)
  refine z_iload X (pc := 87) 0 dX4_bring_87 rfl ?_
  exact z_iret X Y dX4_bring_89 ⟨_, rfl, rfl, by simpa [bringM, nI_1] using hS_16⟩
