theorem min_nI {x : Int32} (a d : Nat) (ha : a < 2 ^ 31) (hd : d < 2 ^ 31) (hx : x = nI a) : (if nI d < x then nI d else x) = nI (min a d) := by
  subst hx
  by_cases h : d < a
  · rw [if_pos (nI_lt h ha), Nat.min_eq_right (by omega)]
  · rw [if_neg (nI_nlt (by omega) hd), Nat.min_eq_left (by omega)]
theorem max_n1 (n : Nat) (hn : n < 2 ^ 31) : (if nI n - 1 < 0 then 0 else nI n - 1) = nI (n - 1) := by
  cases n with
  | zero => decide
  | succ k =>
    rw [nI_pred]
    rw [if_neg (nI_pos (by omega))]
    rfl
def rm_X3_count : Room := { frames := 0, cells := 0, slots := 0, locals := 0 }
theorem kv_X3_count : KV yX3_count RX3 cX3_count 1 (some .int) 0 := ⟨⟨gw_382, gw_383, gw_17, gw_384⟩, by decide +kernel⟩
set_option maxRecDepth 100000 in
set_option maxHeartbeats 4000000 in
theorem c_X3_count (E : ZE) (M : Mem) : Mt E yX3_count cX3_count 1 (some .int) rm_X3_count [.ref (za E 18 0)] M (PI (M 18 0 2) M) := by
  refine z_met (own := RX3) (lv := [(0, .ref (za E 18 0))]) (by decide) rfl (Nat.le_of_ble_eq_true rfl) rfl (fun gg X Y => ?_)
  refine z_aload_n X (pc := 0) 0 dX3_count_0 rfl rfl ?_
  refine z_get X (pc := 1) 2 zk_18_0 (zc_18_0 E _) rfl inlX3 (by decide) gw_216 rfl rfl dX3_count_1 ?_
  exact z_pret X Y dX3_count_4 rfl rfl

def rm_X3_marked : Room := { frames := 0, cells := 0, slots := 0, locals := 0 }
theorem kv_X3_marked : KV yX3_marked RX3 cX3_marked 1 (some (.object "ChairLeague$State")) 0 := ⟨⟨gw_141, gw_142, gw_17, gw_143⟩, by decide +kernel⟩
set_option maxRecDepth 100000 in
set_option maxHeartbeats 4000000 in
theorem c_X3_marked (E : ZE) (M : Mem) (nx : Nat) (hnx : M 18 0 1 = nI nx) (hx9 : nx < 9) : Mt E yX3_marked cX3_marked 1 (some (.object "ChairLeague$State")) rm_X3_marked [.ref (za E 18 0)] M (PR (za E nx 0) M) := by
  refine z_met (own := RX3) (lv := [(0, .ref (za E 18 0))]) (by decide) rfl (Nat.le_of_ble_eq_true rfl) rfl (fun gg X Y => ?_)
  refine z_aload_n X (pc := 0) 0 dX3_marked_0 rfl rfl ?_
  refine z_get X (pc := 1) 1 zk_18_0 (zc_18_0 E _) rfl inlX3 (by decide) gw_144 rfl rfl dX3_marked_1 ?_
  refine z_top (y := (nI nx)) hnx ?_
  refine z_if_lt X (pc := 4) (tgt := 31) dX3_marked_4 (by decide) (fun c4 => ?_) (fun c4 => ?_)
  · exact absurd c4 (nI_pos (by omega))
  · refine z_aload_n X (pc := 7) 0 dX3_marked_7 rfl rfl ?_
    refine z_get X (pc := 8) 1 zk_18_0 (zc_18_0 E _) rfl inlX3 (by decide) gw_144 rfl rfl dX3_marked_8 ?_
    refine z_top (y := (nI nx)) hnx ?_
    refine z_aload_n X (pc := 11) 0 dX3_marked_11 rfl rfl ?_
    refine z_get X (pc := 12) 0 zk_18_0 (zc_18_0 E _) rfl inlX3 (by decide) gw_95 rfl rfl dX3_marked_12 ?_
    refine z_slen X (pc := 15) dX3_marked_15 ?_
    refine z_nicmp_ge X (pc := 16) (a := nx) (b := 9) (tgt := 31) dX3_marked_16 (by decide) (by omega) (by omega) (fun c16 => ?_) (fun c16 => ?_)
    · exact absurd c16 (by omega)
    · refine z_aload_n X (pc := 19) 0 dX3_marked_19 rfl rfl ?_
      refine z_get X (pc := 20) 0 zk_18_0 (zc_18_0 E _) rfl inlX3 (by decide) gw_95 rfl rfl dX3_marked_20 ?_
      refine z_aload_n X (pc := 23) 0 dX3_marked_23 rfl rfl ?_
      refine z_get X (pc := 24) 1 zk_18_0 (zc_18_0 E _) rfl inlX3 (by decide) gw_144 rfl rfl dX3_marked_24 ?_
      refine z_top (y := (nI nx)) hnx ?_
      refine z_sald X (pc := 27) rfl hx9 dX3_marked_27 ?_
      refine z_goto X (pc := 28) (tgt := 32) dX3_marked_28 (by decide) ?_
      exact z_aret X Y dX3_marked_32 ⟨rfl, rfl⟩

def rm_X3_mark : Room := { frames := 4, cells := 0, slots := 0, locals := 124 }
theorem kv_X3_mark : KV yX3_mark RX3 cX3_mark 3 none 1 := ⟨⟨gw_137, gw_138, gw_17, gw_139⟩, by decide +kernel⟩
set_option maxRecDepth 100000 in
set_option maxHeartbeats 4000000 in
theorem c_X3_mark (E : ZE) (M : Mem) (nx : Nat) (hnx : M 18 0 1 = nI nx) (hx9 : nx < 9) : Mt E yX3_mark cX3_mark 3 none rm_X3_mark [.ref (za E 18 0), .ref (za E 9 0)] M (RV (fun M1 => gX (M1 nx) = gX (M 9) ∧ ∀ b', b' ≠ nx → M1 b' = M b')) := by
  refine z_met (own := RX3) (lv := [(0, .ref (za E 18 0)), (1, .ref (za E 9 0))]) (by decide) rfl (Nat.le_of_ble_eq_true rfl) rfl (fun gg X Y => ?_)
  refine z_aload_n X (pc := 0) 0 dX3_mark_0 rfl rfl ?_
  refine z_callV X (pc := 1) (rest := []) kv_X3_marked (c_X3_marked E M nx hnx hx9) zk_18_0 (zc_18_0 E _) rfl rfl gw_140 (by decide) rfl rfl (Nat.le_of_ble_eq_true rfl) dX3_mark_1 (zk_r ?_)
  refine z_astore_n X (pc := 4) (lv1 := [(2, .ref (za E nx 0)), (0, .ref (za E 18 0)), (1, .ref (za E 9 0))]) dX3_mark_4 rfl (by decide) rfl ?_
  refine z_aload_n X (pc := 5) 0 dX3_mark_5 rfl rfl ?_
  refine z_ifnull X (pc := 6) dX3_mark_6 ?_
  refine z_aload_n X (pc := 9) 0 dX3_mark_9 rfl rfl ?_
  refine z_aload_n X (pc := 10) 2 dX3_mark_10 rfl rfl ?_
  refine z_callV X (pc := 11) (rest := []) kv_X9_copy (c_X9_copy E M nx 9 (by omega) (by omega) (by omega)) (by rw [zkd_st (show nx ≤ 10 by omega) (by decide)]; decide) (zc_s0 (show nx ≤ 10 by omega)) rfl rfl gw_145 (by decide) rfl rfl (Nat.le_of_ble_eq_true rfl) dX3_mark_11 (zk_rv (fun M_1 h_2 => ?_))
  exact z_vret X Y dX3_mark_14 ⟨rfl, h_2⟩

def rm_X3_bringBack : Room := { frames := 4, cells := 0, slots := 0, locals := 124 }
theorem kv_X3_bringBack : KV yX3_bringBack RX3 cX3_bringBack 3 none 1 := ⟨⟨gw_644, gw_645, gw_17, gw_646⟩, by decide +kernel⟩
set_option maxRecDepth 100000 in
set_option maxHeartbeats 4000000 in
theorem c_X3_bringBack (E : ZE) (M : Mem) (nx : Nat) (hnx : M 18 0 1 = nI nx) (hx9 : nx < 9) : Mt E yX3_bringBack cX3_bringBack 3 none rm_X3_bringBack [.ref (za E 18 0), .ref (za E 9 0)] M (RV (fun M1 => gX (M1 9) = gX (M nx) ∧ ∀ b', b' ≠ 9 → M1 b' = M b')) := by
  refine z_met (own := RX3) (lv := [(0, .ref (za E 18 0)), (1, .ref (za E 9 0))]) (by decide) rfl (Nat.le_of_ble_eq_true rfl) rfl (fun gg X Y => ?_)
  refine z_aload_n X (pc := 0) 0 dX3_bringBack_0 rfl rfl ?_
  refine z_callV X (pc := 1) (rest := []) kv_X3_marked (c_X3_marked E M nx hnx hx9) zk_18_0 (zc_18_0 E _) rfl rfl gw_140 (by decide) rfl rfl (Nat.le_of_ble_eq_true rfl) dX3_bringBack_1 (zk_r ?_)
  refine z_astore_n X (pc := 4) (lv1 := [(2, .ref (za E nx 0)), (0, .ref (za E 18 0)), (1, .ref (za E 9 0))]) dX3_bringBack_4 rfl (by decide) rfl ?_
  refine z_aload_n X (pc := 5) 0 dX3_bringBack_5 rfl rfl ?_
  refine z_ifnull X (pc := 6) dX3_bringBack_6 ?_
  refine z_aload_n X (pc := 9) 2 dX3_bringBack_9 rfl rfl ?_
  refine z_aload_n X (pc := 10) 0 dX3_bringBack_10 rfl rfl ?_
  refine z_callV X (pc := 11) (rest := []) kv_X9_copy (c_X9_copy E M 9 nx (by omega) (by omega) (by omega)) zk_9_0 (zc_9_0 E _) rfl rfl gw_145 (by decide) rfl rfl (Nat.le_of_ble_eq_true rfl) dX3_bringBack_11 (zk_rv (fun M_1 h_2 => ?_))
  exact z_vret X Y dX3_bringBack_14 ⟨rfl, h_2⟩

def rm_X3_keep : Room := { frames := 1, cells := 0, slots := 0, locals := 21 }
theorem kv_X3_keep : KV yX3_keep RX3 cX3_keep 1 none 0 := ⟨⟨gw_213, gw_214, gw_17, gw_215⟩, by decide +kernel⟩
set_option maxRecDepth 100000 in
set_option maxHeartbeats 4000000 in
theorem c_X3_keep (E : ZE) (M : Mem) (nx : Nat) (hnx : M 18 0 1 = nI nx) (hx9 : nx < 9) (n : Nat) (hn2 : M 18 0 2 = nI n) (hn8 : n ≤ 8) : Mt E yX3_keep cX3_keep 1 none rm_X3_keep [.ref (za E 18 0)] M (PV (up3 (up3 M 18 0 1 (nI ((nx + 1) % 9))) 18 0 2 (nI (min (n + 1) 8)))) := by
  refine z_met (own := RX3) (lv := [(0, .ref (za E 18 0))]) (by decide) rfl (Nat.le_of_ble_eq_true rfl) rfl (fun gg X Y => ?_)
  refine z_aload_n X (pc := 0) 0 dX3_keep_0 rfl rfl ?_
  refine z_aload_n X (pc := 1) 0 dX3_keep_1 rfl rfl ?_
  refine z_get X (pc := 2) 1 zk_18_0 (zc_18_0 E _) rfl inlX3 (by decide) gw_144 rfl rfl dX3_keep_2 ?_
  refine z_top (y := (nI nx)) hnx ?_
  refine z_iconst X (pc := 5) (v := 1) dX3_keep_5 (by decide) ?_
  refine z_iadd X (pc := 6) dX3_keep_6 ?_
  refine z_bipush X (pc := 7) (v := 9) dX3_keep_7 (by decide) ?_
  refine z_irem X (pc := 9) dX3_keep_9 (by decide) ?_
  refine z_top (y := (nI ((nx + 1) % 9))) (by rw [nI_1]; exact pk_rem (a := nx + 1) (d := 9) (by omega) (by omega) (by omega)) ?_
  refine z_put X (pc := 10) 1 zk_18_0 (zc_18_0 E _) rfl inlX3 tyX3 tyX3_ok nmX3 (by decide) gw_144 rfl rfl (ty := .int) (by decide +kernel) rfl rfl (Nat.le_of_ble_eq_true rfl) dX3_keep_10 rfl ?_
  refine z_aload_n X (pc := 13) 0 dX3_keep_13 rfl rfl ?_
  refine z_aload_n X (pc := 14) 0 dX3_keep_14 rfl rfl ?_
  refine z_get X (pc := 15) 2 zk_18_0 (zc_18_0 E _) rfl inlX3 (by decide) gw_216 rfl rfl dX3_keep_15 ?_
  refine z_top (y := (nI n)) (by simp [up3, hn2]) ?_
  refine z_iconst X (pc := 18) (v := 1) dX3_keep_18 (by decide) ?_
  refine z_iadd X (pc := 19) dX3_keep_19 ?_
  refine z_bipush X (pc := 20) (v := 8) dX3_keep_20 (by decide) ?_
  refine z_min X (pc := 22) gw_217 gw_159 gw_70 gw_160 (by decide) (Nat.le_of_ble_eq_true rfl) dX3_keep_22 ?_
  refine z_top (y := (nI (min (n + 1) 8))) (min_nI (n + 1) 8 (by omega) (by omega) (nI_1 n)) ?_
  refine z_put X (pc := 25) 2 zk_18_0 (zc_18_0 E _) rfl inlX3 tyX3 tyX3_ok nmX3 (by decide) gw_216 rfl rfl (ty := .int) (by decide +kernel) rfl rfl (Nat.le_of_ble_eq_true rfl) dX3_keep_25 rfl ?_
  exact z_vret X Y dX3_keep_28 ⟨rfl, rfl⟩

def rm_X3_stepBack : Room := { frames := 1, cells := 0, slots := 0, locals := 21 }
theorem kv_X3_stepBack : KV yX3_stepBack RX3 cX3_stepBack 1 none 0 := ⟨⟨gw_670, gw_671, gw_17, gw_672⟩, by decide +kernel⟩
set_option maxRecDepth 100000 in
set_option maxHeartbeats 4000000 in
theorem c_X3_stepBack (E : ZE) (M : Mem) (nx : Nat) (hnx : M 18 0 1 = nI nx) (hx9 : nx < 9) (n : Nat) (hn2 : M 18 0 2 = nI n) (hn8 : n ≤ 8) : Mt E yX3_stepBack cX3_stepBack 1 none rm_X3_stepBack [.ref (za E 18 0)] M (PV (up3 (up3 M 18 0 1 (nI ((nx + 8) % 9))) 18 0 2 (nI (n - 1)))) := by
  refine z_met (own := RX3) (lv := [(0, .ref (za E 18 0))]) (by decide) rfl (Nat.le_of_ble_eq_true rfl) rfl (fun gg X Y => ?_)
  refine z_aload_n X (pc := 0) 0 dX3_stepBack_0 rfl rfl ?_
  refine z_aload_n X (pc := 1) 0 dX3_stepBack_1 rfl rfl ?_
  refine z_get X (pc := 2) 1 zk_18_0 (zc_18_0 E _) rfl inlX3 (by decide) gw_144 rfl rfl dX3_stepBack_2 ?_
  refine z_top (y := (nI nx)) hnx ?_
  refine z_bipush X (pc := 5) (v := 8) dX3_stepBack_5 (by decide) ?_
  refine z_iadd X (pc := 7) dX3_stepBack_7 ?_
  refine z_bipush X (pc := 8) (v := 9) dX3_stepBack_8 (by decide) ?_
  refine z_irem X (pc := 10) dX3_stepBack_10 (by decide) ?_
  refine z_top (y := (nI ((nx + 8) % 9))) (by rw [show (8 : Int32) = nI 8 from rfl, nI_add]; exact pk_rem (a := nx + 8) (d := 9) (by omega) (by omega) (by omega)) ?_
  refine z_put X (pc := 11) 1 zk_18_0 (zc_18_0 E _) rfl inlX3 tyX3 tyX3_ok nmX3 (by decide) gw_144 rfl rfl (ty := .int) (by decide +kernel) rfl rfl (Nat.le_of_ble_eq_true rfl) dX3_stepBack_11 rfl ?_
  refine z_aload_n X (pc := 14) 0 dX3_stepBack_14 rfl rfl ?_
  refine z_aload_n X (pc := 15) 0 dX3_stepBack_15 rfl rfl ?_
  refine z_get X (pc := 16) 2 zk_18_0 (zc_18_0 E _) rfl inlX3 (by decide) gw_216 rfl rfl dX3_stepBack_16 ?_
  refine z_top (y := (nI n)) (by simp [up3, hn2]) ?_
  refine z_iconst X (pc := 19) (v := 1) dX3_stepBack_19 (by decide) ?_
  refine z_isub X (pc := 20) dX3_stepBack_20 ?_
  refine z_iconst X (pc := 21) (v := 0) dX3_stepBack_21 (by decide) ?_
  refine z_max X (pc := 22) gw_673 gw_69 gw_70 gw_71 (by decide) (Nat.le_of_ble_eq_true rfl) dX3_stepBack_22 ?_
  refine z_top (y := (nI (n - 1))) (max_n1 n (by omega)) ?_
  refine z_put X (pc := 25) 2 zk_18_0 (zc_18_0 E _) rfl inlX3 tyX3 tyX3_ok nmX3 (by decide) gw_216 rfl rfl (ty := .int) (by decide +kernel) rfl rfl (Nat.le_of_ble_eq_true rfl) dX3_stepBack_25 rfl ?_
  exact z_vret X Y dX3_stepBack_28 ⟨rfl, rfl⟩

def rm_X3_forget : Room := { frames := 0, cells := 0, slots := 0, locals := 0 }
theorem kv_X3_forget : KV yX3_forget RX3 cX3_forget 1 none 0 := ⟨⟨gw_662, gw_663, gw_17, gw_664⟩, by decide +kernel⟩
set_option maxRecDepth 100000 in
set_option maxHeartbeats 4000000 in
theorem c_X3_forget (E : ZE) (M : Mem) : Mt E yX3_forget cX3_forget 1 none rm_X3_forget [.ref (za E 18 0)] M (PV (up3 M 18 0 2 0)) := by
  refine z_met (own := RX3) (lv := [(0, .ref (za E 18 0))]) (by decide) rfl (Nat.le_of_ble_eq_true rfl) rfl (fun gg X Y => ?_)
  refine z_aload_n X (pc := 0) 0 dX3_forget_0 rfl rfl ?_
  refine z_iconst X (pc := 1) (v := 0) dX3_forget_1 (by decide) ?_
  refine z_put X (pc := 2) 2 zk_18_0 (zc_18_0 E _) rfl inlX3 tyX3 tyX3_ok nmX3 (by decide) gw_216 rfl rfl (ty := .int) (by decide +kernel) rfl rfl (Nat.le_of_ble_eq_true rfl) dX3_forget_2 rfl ?_
  exact z_vret X Y dX3_forget_5 ⟨rfl, rfl⟩

def rm_X8_length : Room := { frames := 0, cells := 0, slots := 0, locals := 0 }
theorem kv_X8_length : KV yX8_length RX8 cX8_length 1 (some .int) 0 := ⟨⟨gw_377, gw_378, gw_30, gw_379⟩, by decide +kernel⟩
set_option maxRecDepth 100000 in
set_option maxHeartbeats 4000000 in
theorem c_X8_length_14 (E : ZE) (M : Mem) (t : List Int32) (hT : TS M 14 t)  : Mt E yX8_length cX8_length 1 (some .int) rm_X8_length [.ref (za E 14 0)] M (PI (nI t.length) M) := by
  have hl0 : t.length ≤ 60 := hT.2.1
  refine z_met (own := RX8) (lv := [(0, .ref (za E 14 0))]) (by decide) rfl (Nat.le_of_ble_eq_true rfl) rfl (fun gg X Y => ?_)
  refine z_aload_n X (pc := 0) 0 dX8_length_0 rfl rfl ?_
  refine z_get X (pc := 1) 2 zk_14_0 (zc_14_0 E _) rfl inlX8 (by decide) gw_380 rfl rfl dX8_length_1 ?_
  refine z_top (y := (nI t.length)) hT.1 ?_
  exact z_pret X Y dX8_length_4 rfl rfl
set_option maxRecDepth 100000 in
set_option maxHeartbeats 4000000 in
theorem c_X8_length_15 (E : ZE) (M : Mem) (t : List Int32) (hT : TS M 15 t)  : Mt E yX8_length cX8_length 1 (some .int) rm_X8_length [.ref (za E 15 0)] M (PI (nI t.length) M) := by
  have hl0 : t.length ≤ 80 := hT.2.1
  refine z_met (own := RX8) (lv := [(0, .ref (za E 15 0))]) (by decide) rfl (Nat.le_of_ble_eq_true rfl) rfl (fun gg X Y => ?_)
  refine z_aload_n X (pc := 0) 0 dX8_length_0 rfl rfl ?_
  refine z_get X (pc := 1) 2 zk_15_0 (zc_15_0 E _) rfl inlX8 (by decide) gw_380 rfl rfl dX8_length_1 ?_
  refine z_top (y := (nI t.length)) hT.1 ?_
  exact z_pret X Y dX8_length_4 rfl rfl

def rm_X8_at : Room := { frames := 1, cells := 0, slots := 0, locals := 21 }
theorem kv_X8_at : KV yX8_at RX8 cX8_at 2 (some .int) 1 := ⟨⟨gw_601, gw_602, gw_30, gw_603⟩, by decide +kernel⟩
set_option maxRecDepth 100000 in
set_option maxHeartbeats 4000000 in
theorem c_X8_at_14 (E : ZE) (M : Mem) (t : List Int32) (hT : TS M 14 t) (x : Int32) : Mt E yX8_at cX8_at 2 (some .int) rm_X8_at [.ref (za E 14 0), .int x] M (PI (atL t x) M) := by
  have hl0 : t.length ≤ 60 := hT.2.1
  refine z_met (own := RX8) (lv := [(0, .ref (za E 14 0)), (1, .int x)]) (by decide) rfl (Nat.le_of_ble_eq_true rfl) rfl (fun gg X Y => ?_)
  refine z_iload_n X (pc := 0) 1 dX8_at_0 rfl rfl ?_
  refine z_if_lt X (pc := 1) (tgt := 23) dX8_at_1 (by decide) (fun c1 => ?_) (fun c1 => ?_)
  · refine z_iconst X (pc := 23) (v := (-1)) dX8_at_23 (by decide) ?_
    exact z_pret X Y dX8_at_24 (by simp [atL, inR, c1]) rfl
  · refine z_iload_n X (pc := 4) 1 dX8_at_4 rfl rfl ?_
    refine z_aload_n X (pc := 5) 0 dX8_at_5 rfl rfl ?_
    refine z_get X (pc := 6) 2 zk_14_0 (zc_14_0 E _) rfl inlX8 (by decide) gw_380 rfl rfl dX8_at_6 ?_
    refine z_top (y := (nI t.length)) hT.1 ?_
    refine z_icmp_ge X (pc := 9) (tgt := 23) dX8_at_9 (by decide) (fun c9 => ?_) (fun c9 => ?_)
    · refine z_iconst X (pc := 23) (v := (-1)) dX8_at_23 (by decide) ?_
      exact z_pret X Y dX8_at_24 (by simp [atL, inR, c1, c9]) rfl
    · refine z_aload_n X (pc := 12) 0 dX8_at_12 rfl rfl ?_
      refine z_get X (pc := 13) 1 zk_14_0 (zc_14_0 E _) rfl inlX8 (by decide) gw_121 rfl rfl dX8_at_13 ?_
      refine z_iload_n X (pc := 16) 1 dX8_at_16 rfl rfl ?_
      obtain ⟨k, hk, hxk⟩ : ∃ k, k < t.length ∧ x = nI k := inR_of (by simp [inR, c1, c9]) (by omega)
      refine z_top (y := (nI k)) hxk ?_
      refine z_callV X (pc := 17) (rest := []) kv_X7_at (c_X7_at E M 14 4 k (by decide) (by decide) (show k < 60 by omega)) zk_14_4 (zc_14_4 E _) rfl rfl gw_604 (by decide) rfl rfl (Nat.le_of_ble_eq_true rfl) dX8_at_17 (zk_i ?_)
      refine z_goto X (pc := 20) (tgt := 24) dX8_at_20 (by decide) ?_
      exact z_pret X Y dX8_at_24 (by rw [hT.2.2 k hk, hxk, atL, inR_nI hk (by omega), if_pos rfl, nI_clamp (by omega)]) rfl
set_option maxRecDepth 100000 in
set_option maxHeartbeats 4000000 in
theorem c_X8_at_15 (E : ZE) (M : Mem) (t : List Int32) (hT : TS M 15 t) (x : Int32) : Mt E yX8_at cX8_at 2 (some .int) rm_X8_at [.ref (za E 15 0), .int x] M (PI (atL t x) M) := by
  have hl0 : t.length ≤ 80 := hT.2.1
  refine z_met (own := RX8) (lv := [(0, .ref (za E 15 0)), (1, .int x)]) (by decide) rfl (Nat.le_of_ble_eq_true rfl) rfl (fun gg X Y => ?_)
  refine z_iload_n X (pc := 0) 1 dX8_at_0 rfl rfl ?_
  refine z_if_lt X (pc := 1) (tgt := 23) dX8_at_1 (by decide) (fun c1 => ?_) (fun c1 => ?_)
  · refine z_iconst X (pc := 23) (v := (-1)) dX8_at_23 (by decide) ?_
    exact z_pret X Y dX8_at_24 (by simp [atL, inR, c1]) rfl
  · refine z_iload_n X (pc := 4) 1 dX8_at_4 rfl rfl ?_
    refine z_aload_n X (pc := 5) 0 dX8_at_5 rfl rfl ?_
    refine z_get X (pc := 6) 2 zk_15_0 (zc_15_0 E _) rfl inlX8 (by decide) gw_380 rfl rfl dX8_at_6 ?_
    refine z_top (y := (nI t.length)) hT.1 ?_
    refine z_icmp_ge X (pc := 9) (tgt := 23) dX8_at_9 (by decide) (fun c9 => ?_) (fun c9 => ?_)
    · refine z_iconst X (pc := 23) (v := (-1)) dX8_at_23 (by decide) ?_
      exact z_pret X Y dX8_at_24 (by simp [atL, inR, c1, c9]) rfl
    · refine z_aload_n X (pc := 12) 0 dX8_at_12 rfl rfl ?_
      refine z_get X (pc := 13) 1 zk_15_0 (zc_15_0 E _) rfl inlX8 (by decide) gw_121 rfl rfl dX8_at_13 ?_
      refine z_iload_n X (pc := 16) 1 dX8_at_16 rfl rfl ?_
      obtain ⟨k, hk, hxk⟩ : ∃ k, k < t.length ∧ x = nI k := inR_of (by simp [inR, c1, c9]) (by omega)
      refine z_top (y := (nI k)) hxk ?_
      refine z_callV X (pc := 17) (rest := []) kv_X7_at (c_X7_at E M 15 4 k (by decide) (by decide) (show k < 80 by omega)) zk_15_4 (zc_15_4 E _) rfl rfl gw_604 (by decide) rfl rfl (Nat.le_of_ble_eq_true rfl) dX8_at_17 (zk_i ?_)
      refine z_goto X (pc := 20) (tgt := 24) dX8_at_20 (by decide) ?_
      exact z_pret X Y dX8_at_24 (by rw [hT.2.2 k hk, hxk, atL, inR_nI hk (by omega), if_pos rfl, nI_clamp (by omega)]) rfl

def rm_X8_clear : Room := { frames := 0, cells := 0, slots := 0, locals := 0 }
theorem kv_X8_clear : KV yX8_clear RX8 cX8_clear 1 none 0 := ⟨⟨gw_628, gw_629, gw_30, gw_630⟩, by decide +kernel⟩
set_option maxRecDepth 100000 in
set_option maxHeartbeats 4000000 in
theorem c_X8_clear_14 (E : ZE) (M : Mem) : Mt E yX8_clear cX8_clear 1 none rm_X8_clear [.ref (za E 14 0)] M (RV (fun M1 => TS M1 14 [] ∧ Off 14 M M1)) := by
  refine z_met (own := RX8) (lv := [(0, .ref (za E 14 0))]) (by decide) rfl (Nat.le_of_ble_eq_true rfl) rfl (fun gg X Y => ?_)
  refine z_aload_n X (pc := 0) 0 dX8_clear_0 rfl rfl ?_
  refine z_iconst X (pc := 1) (v := 0) dX8_clear_1 (by decide) ?_
  refine z_put X (pc := 2) 2 zk_14_0 (zc_14_0 E _) rfl inlX8 tyX8 tyX8_ok nmX8 (by decide) gw_380 rfl rfl (ty := .int) (by decide +kernel) rfl rfl (Nat.le_of_ble_eq_true rfl) dX8_clear_2 rfl ?_
  exact z_vret X Y dX8_clear_5 ⟨rfl, TS.clr, (Off.rf _ _).up⟩
set_option maxRecDepth 100000 in
set_option maxHeartbeats 4000000 in
theorem c_X8_clear_15 (E : ZE) (M : Mem) : Mt E yX8_clear cX8_clear 1 none rm_X8_clear [.ref (za E 15 0)] M (RV (fun M1 => TS M1 15 [] ∧ Off 15 M M1)) := by
  refine z_met (own := RX8) (lv := [(0, .ref (za E 15 0))]) (by decide) rfl (Nat.le_of_ble_eq_true rfl) rfl (fun gg X Y => ?_)
  refine z_aload_n X (pc := 0) 0 dX8_clear_0 rfl rfl ?_
  refine z_iconst X (pc := 1) (v := 0) dX8_clear_1 (by decide) ?_
  refine z_put X (pc := 2) 2 zk_15_0 (zc_15_0 E _) rfl inlX8 tyX8 tyX8_ok nmX8 (by decide) gw_380 rfl rfl (ty := .int) (by decide +kernel) rfl rfl (Nat.le_of_ble_eq_true rfl) dX8_clear_2 rfl ?_
  exact z_vret X Y dX8_clear_5 ⟨rfl, TS.clr, (Off.rf _ _).up⟩

def rm_X8_put : Room := { frames := 1, cells := 0, slots := 0, locals := 22 }
theorem kv_X8_put : KV yX8_put RX8 cX8_put 2 none 1 := ⟨⟨gw_586, gw_587, gw_30, gw_588⟩, by decide +kernel⟩
set_option maxRecDepth 100000 in
set_option maxHeartbeats 4000000 in
theorem c_X8_put_14 (E : ZE) (M : Mem) (t : List Int32) (hT : TS M 14 t) (v : Int32) (hlt : t.length < 60) : Mt E yX8_put cX8_put 2 none rm_X8_put [.ref (za E 14 0), .int v] M (RV (fun M1 => TS M1 14 (t ++ [v]) ∧ Off 14 M M1)) := by
  have hl0 : t.length ≤ 60 := hT.2.1
  refine z_met (own := RX8) (lv := [(0, .ref (za E 14 0)), (1, .int v)]) (by decide) rfl (Nat.le_of_ble_eq_true rfl) rfl (fun gg X Y => ?_)
  refine z_aload_n X (pc := 0) 0 dX8_put_0 rfl rfl ?_
  refine z_get X (pc := 1) 2 zk_14_0 (zc_14_0 E _) rfl inlX8 (by decide) gw_380 rfl rfl dX8_put_1 ?_
  refine z_top (y := (nI t.length)) hT.1 ?_
  refine z_aload_n X (pc := 4) 0 dX8_put_4 rfl rfl ?_
  refine z_get X (pc := 5) 0 zk_14_0 (zc_14_0 E _) rfl inlX8 (by decide) gw_119 rfl rfl dX8_put_5 ?_
  refine z_nicmp_ge X (pc := 8) (a := t.length) (b := 60) (tgt := 33) dX8_put_8 (by decide) (by omega) (by omega) (fun c8 => ?_) (fun c8 => ?_)
  · exact absurd c8 (by omega)
  · refine z_aload_n X (pc := 11) 0 dX8_put_11 rfl rfl ?_
    refine z_get X (pc := 12) 1 zk_14_0 (zc_14_0 E _) rfl inlX8 (by decide) gw_121 rfl rfl dX8_put_12 ?_
    refine z_aload_n X (pc := 15) 0 dX8_put_15 rfl rfl ?_
    refine z_get X (pc := 16) 2 zk_14_0 (zc_14_0 E _) rfl inlX8 (by decide) gw_380 rfl rfl dX8_put_16 ?_
    refine z_top (y := (nI t.length)) hT.1 ?_
    refine z_iload_n X (pc := 19) 1 dX8_put_19 rfl rfl ?_
    refine z_callV X (pc := 20) (rest := []) kv_X7_put (c_X7_put E M 14 4 t.length v (by decide) (by decide) (show t.length < 60 by omega)) zk_14_4 (zc_14_4 E _) rfl rfl gw_589 (by decide) rfl rfl (Nat.le_of_ble_eq_true rfl) dX8_put_20 (zk_v ?_)
    refine z_aload_n X (pc := 23) 0 dX8_put_23 rfl rfl ?_
    refine z_dup X (pc := 24) dX8_put_24 rfl ?_
    refine z_get X (pc := 25) 2 zk_14_0 (zc_14_0 E _) rfl inlX8 (by decide) gw_380 rfl rfl dX8_put_25 ?_
    refine z_top (y := (nI t.length)) (by simpa [up3] using hT.1) ?_
    refine z_iconst X (pc := 28) (v := 1) dX8_put_28 (by decide) ?_
    refine z_iadd X (pc := 29) dX8_put_29 ?_
    refine z_put X (pc := 30) 2 zk_14_0 (zc_14_0 E _) rfl inlX8 tyX8 tyX8_ok nmX8 (by decide) gw_380 rfl rfl (ty := .int) (by decide +kernel) rfl rfl (Nat.le_of_ble_eq_true rfl) dX8_put_30 rfl ?_
    exact z_vret X Y dX8_put_33 ⟨rfl, TS.push hT hlt (by simp [nI_1, up3]), ((Off.rf _ _).up).up⟩
set_option maxRecDepth 100000 in
set_option maxHeartbeats 4000000 in
theorem c_X8_put_15 (E : ZE) (M : Mem) (t : List Int32) (hT : TS M 15 t) (v : Int32) (hlt : t.length < 80) : Mt E yX8_put cX8_put 2 none rm_X8_put [.ref (za E 15 0), .int v] M (RV (fun M1 => TS M1 15 (t ++ [v]) ∧ Off 15 M M1)) := by
  have hl0 : t.length ≤ 80 := hT.2.1
  refine z_met (own := RX8) (lv := [(0, .ref (za E 15 0)), (1, .int v)]) (by decide) rfl (Nat.le_of_ble_eq_true rfl) rfl (fun gg X Y => ?_)
  refine z_aload_n X (pc := 0) 0 dX8_put_0 rfl rfl ?_
  refine z_get X (pc := 1) 2 zk_15_0 (zc_15_0 E _) rfl inlX8 (by decide) gw_380 rfl rfl dX8_put_1 ?_
  refine z_top (y := (nI t.length)) hT.1 ?_
  refine z_aload_n X (pc := 4) 0 dX8_put_4 rfl rfl ?_
  refine z_get X (pc := 5) 0 zk_15_0 (zc_15_0 E _) rfl inlX8 (by decide) gw_119 rfl rfl dX8_put_5 ?_
  refine z_nicmp_ge X (pc := 8) (a := t.length) (b := 80) (tgt := 33) dX8_put_8 (by decide) (by omega) (by omega) (fun c8 => ?_) (fun c8 => ?_)
  · exact absurd c8 (by omega)
  · refine z_aload_n X (pc := 11) 0 dX8_put_11 rfl rfl ?_
    refine z_get X (pc := 12) 1 zk_15_0 (zc_15_0 E _) rfl inlX8 (by decide) gw_121 rfl rfl dX8_put_12 ?_
    refine z_aload_n X (pc := 15) 0 dX8_put_15 rfl rfl ?_
    refine z_get X (pc := 16) 2 zk_15_0 (zc_15_0 E _) rfl inlX8 (by decide) gw_380 rfl rfl dX8_put_16 ?_
    refine z_top (y := (nI t.length)) hT.1 ?_
    refine z_iload_n X (pc := 19) 1 dX8_put_19 rfl rfl ?_
    refine z_callV X (pc := 20) (rest := []) kv_X7_put (c_X7_put E M 15 4 t.length v (by decide) (by decide) (show t.length < 80 by omega)) zk_15_4 (zc_15_4 E _) rfl rfl gw_589 (by decide) rfl rfl (Nat.le_of_ble_eq_true rfl) dX8_put_20 (zk_v ?_)
    refine z_aload_n X (pc := 23) 0 dX8_put_23 rfl rfl ?_
    refine z_dup X (pc := 24) dX8_put_24 rfl ?_
    refine z_get X (pc := 25) 2 zk_15_0 (zc_15_0 E _) rfl inlX8 (by decide) gw_380 rfl rfl dX8_put_25 ?_
    refine z_top (y := (nI t.length)) (by simpa [up3] using hT.1) ?_
    refine z_iconst X (pc := 28) (v := 1) dX8_put_28 (by decide) ?_
    refine z_iadd X (pc := 29) dX8_put_29 ?_
    refine z_put X (pc := 30) 2 zk_15_0 (zc_15_0 E _) rfl inlX8 tyX8 tyX8_ok nmX8 (by decide) gw_380 rfl rfl (ty := .int) (by decide +kernel) rfl rfl (Nat.le_of_ble_eq_true rfl) dX8_put_30 rfl ?_
    exact z_vret X Y dX8_put_33 ⟨rfl, TS.push hT hlt (by simp [nI_1, up3]), ((Off.rf _ _).up).up⟩

def rm_X8_putNumber : Room := { frames := 2, cells := 0, slots := 0, locals := 43 }
theorem kv_X8_putNumber : KV yX8_putNumber RX8 cX8_putNumber 2 none 1 := ⟨⟨gw_694, gw_695, gw_30, gw_696⟩, by decide +kernel⟩
set_option maxRecDepth 100000 in
set_option maxHeartbeats 4000000 in
theorem c_X8_putNumber_14 (E : ZE) (M : Mem) (t : List Int32) (hT : TS M 14 t) (k : Nat) (hk : k ≤ 99) (hlt : t.length + 2 ≤ 60) : Mt E yX8_putNumber cX8_putNumber 2 none rm_X8_putNumber [.ref (za E 14 0), .int (nI k)] M (RV (fun M1 => TS M1 14 (t ++ digs k) ∧ Off 14 M M1)) := by
  refine z_met (own := RX8) (lv := [(0, .ref (za E 14 0)), (1, .int (nI k))]) (by decide) rfl (Nat.le_of_ble_eq_true rfl) rfl (fun gg X Y => ?_)
  refine z_iload_n X (pc := 0) 1 dX8_putNumber_0 rfl rfl ?_
  refine z_bipush X (pc := 1) (v := 9) dX8_putNumber_1 (by decide) ?_
  refine z_nicmp_le X (pc := 3) (a := k) (b := 9) (tgt := 17) dX8_putNumber_3 (by decide) (by omega) (by omega) (fun c3 => ?_) (fun c3 => ?_)
  · refine z_aload_n X (pc := 17) 0 dX8_putNumber_17 rfl rfl ?_
    refine z_bipush X (pc := 18) (v := 48) dX8_putNumber_18 (by decide) ?_
    refine z_iload_n X (pc := 20) 1 dX8_putNumber_20 rfl rfl ?_
    refine z_bipush X (pc := 21) (v := 10) dX8_putNumber_21 (by decide) ?_
    refine z_irem X (pc := 23) dX8_putNumber_23 (by decide) ?_
    refine z_top (y := (nI (k % 10))) (pk_rem (a := k) (d := 10) (by omega) (by omega) (by omega)) ?_
    refine z_iadd X (pc := 24) dX8_putNumber_24 ?_
    refine z_top (y := (nI (48 + k % 10))) (nI_add 48 (k % 10)) ?_
    refine z_callV X (pc := 25) (rest := []) kv_X8_put (c_X8_put_14 E M t hT (nI (48 + k % 10)) (by omega)) zk_14_0 (zc_14_0 E _) rfl rfl gw_697 (by decide) rfl rfl (Nat.le_of_ble_eq_true rfl) dX8_putNumber_25 (zk_rv (fun M_1 hT_2 => ?_))
    exact z_vret X Y dX8_putNumber_28 ⟨rfl, by simpa [digs, c3] using hT_2.1, ((Off.rf _ _).tr hT_2.2)⟩
  · refine z_aload_n X (pc := 6) 0 dX8_putNumber_6 rfl rfl ?_
    refine z_bipush X (pc := 7) (v := 48) dX8_putNumber_7 (by decide) ?_
    refine z_iload_n X (pc := 9) 1 dX8_putNumber_9 rfl rfl ?_
    refine z_bipush X (pc := 10) (v := 10) dX8_putNumber_10 (by decide) ?_
    refine z_idiv X (pc := 12) dX8_putNumber_12 (by decide) ?_
    refine z_top (y := (nI (k / 10))) (pk_div (a := k) (d := 10) (by omega) (by omega) (by omega)) ?_
    refine z_iadd X (pc := 13) dX8_putNumber_13 ?_
    refine z_top (y := (nI (48 + k / 10))) (nI_add 48 (k / 10)) ?_
    refine z_callV X (pc := 14) (rest := []) kv_X8_put (c_X8_put_14 E M t hT (nI (48 + k / 10)) (by omega)) zk_14_0 (zc_14_0 E _) rfl rfl gw_697 (by decide) rfl rfl (Nat.le_of_ble_eq_true rfl) dX8_putNumber_14 (zk_rv (fun M_3 hT_4 => ?_))
    refine z_aload_n X (pc := 17) 0 dX8_putNumber_17 rfl rfl ?_
    refine z_bipush X (pc := 18) (v := 48) dX8_putNumber_18 (by decide) ?_
    refine z_iload_n X (pc := 20) 1 dX8_putNumber_20 rfl rfl ?_
    refine z_bipush X (pc := 21) (v := 10) dX8_putNumber_21 (by decide) ?_
    refine z_irem X (pc := 23) dX8_putNumber_23 (by decide) ?_
    refine z_top (y := (nI (k % 10))) (pk_rem (a := k) (d := 10) (by omega) (by omega) (by omega)) ?_
    refine z_iadd X (pc := 24) dX8_putNumber_24 ?_
    refine z_top (y := (nI (48 + k % 10))) (nI_add 48 (k % 10)) ?_
    refine z_callV X (pc := 25) (rest := []) kv_X8_put (c_X8_put_14 E M_3 (t ++ [(nI (48 + k / 10))]) hT_4.1 (nI (48 + k % 10)) (by simp only [List.length_append, List.length_cons, List.length_nil]; omega)) zk_14_0 (zc_14_0 E _) rfl rfl gw_697 (by decide) rfl rfl (Nat.le_of_ble_eq_true rfl) dX8_putNumber_25 (zk_rv (fun M_5 hT_6 => ?_))
    exact z_vret X Y dX8_putNumber_28 ⟨rfl, by simpa [digs, c3] using hT_6.1, (((Off.rf _ _).tr hT_4.2).tr hT_6.2)⟩
set_option maxRecDepth 100000 in
set_option maxHeartbeats 4000000 in
theorem c_X8_putNumber_15 (E : ZE) (M : Mem) (t : List Int32) (hT : TS M 15 t) (k : Nat) (hk : k ≤ 99) (hlt : t.length + 2 ≤ 80) : Mt E yX8_putNumber cX8_putNumber 2 none rm_X8_putNumber [.ref (za E 15 0), .int (nI k)] M (RV (fun M1 => TS M1 15 (t ++ digs k) ∧ Off 15 M M1)) := by
  refine z_met (own := RX8) (lv := [(0, .ref (za E 15 0)), (1, .int (nI k))]) (by decide) rfl (Nat.le_of_ble_eq_true rfl) rfl (fun gg X Y => ?_)
  refine z_iload_n X (pc := 0) 1 dX8_putNumber_0 rfl rfl ?_
  refine z_bipush X (pc := 1) (v := 9) dX8_putNumber_1 (by decide) ?_
  refine z_nicmp_le X (pc := 3) (a := k) (b := 9) (tgt := 17) dX8_putNumber_3 (by decide) (by omega) (by omega) (fun c3 => ?_) (fun c3 => ?_)
  · refine z_aload_n X (pc := 17) 0 dX8_putNumber_17 rfl rfl ?_
    refine z_bipush X (pc := 18) (v := 48) dX8_putNumber_18 (by decide) ?_
    refine z_iload_n X (pc := 20) 1 dX8_putNumber_20 rfl rfl ?_
    refine z_bipush X (pc := 21) (v := 10) dX8_putNumber_21 (by decide) ?_
    refine z_irem X (pc := 23) dX8_putNumber_23 (by decide) ?_
    refine z_top (y := (nI (k % 10))) (pk_rem (a := k) (d := 10) (by omega) (by omega) (by omega)) ?_
    refine z_iadd X (pc := 24) dX8_putNumber_24 ?_
    refine z_top (y := (nI (48 + k % 10))) (nI_add 48 (k % 10)) ?_
    refine z_callV X (pc := 25) (rest := []) kv_X8_put (c_X8_put_15 E M t hT (nI (48 + k % 10)) (by omega)) zk_15_0 (zc_15_0 E _) rfl rfl gw_697 (by decide) rfl rfl (Nat.le_of_ble_eq_true rfl) dX8_putNumber_25 (zk_rv (fun M_1 hT_2 => ?_))
    exact z_vret X Y dX8_putNumber_28 ⟨rfl, by simpa [digs, c3] using hT_2.1, ((Off.rf _ _).tr hT_2.2)⟩
  · refine z_aload_n X (pc := 6) 0 dX8_putNumber_6 rfl rfl ?_
    refine z_bipush X (pc := 7) (v := 48) dX8_putNumber_7 (by decide) ?_
    refine z_iload_n X (pc := 9) 1 dX8_putNumber_9 rfl rfl ?_
    refine z_bipush X (pc := 10) (v := 10) dX8_putNumber_10 (by decide) ?_
    refine z_idiv X (pc := 12) dX8_putNumber_12 (by decide) ?_
    refine z_top (y := (nI (k / 10))) (pk_div (a := k) (d := 10) (by omega) (by omega) (by omega)) ?_
    refine z_iadd X (pc := 13) dX8_putNumber_13 ?_
    refine z_top (y := (nI (48 + k / 10))) (nI_add 48 (k / 10)) ?_
    refine z_callV X (pc := 14) (rest := []) kv_X8_put (c_X8_put_15 E M t hT (nI (48 + k / 10)) (by omega)) zk_15_0 (zc_15_0 E _) rfl rfl gw_697 (by decide) rfl rfl (Nat.le_of_ble_eq_true rfl) dX8_putNumber_14 (zk_rv (fun M_3 hT_4 => ?_))
    refine z_aload_n X (pc := 17) 0 dX8_putNumber_17 rfl rfl ?_
    refine z_bipush X (pc := 18) (v := 48) dX8_putNumber_18 (by decide) ?_
    refine z_iload_n X (pc := 20) 1 dX8_putNumber_20 rfl rfl ?_
    refine z_bipush X (pc := 21) (v := 10) dX8_putNumber_21 (by decide) ?_
    refine z_irem X (pc := 23) dX8_putNumber_23 (by decide) ?_
    refine z_top (y := (nI (k % 10))) (pk_rem (a := k) (d := 10) (by omega) (by omega) (by omega)) ?_
    refine z_iadd X (pc := 24) dX8_putNumber_24 ?_
    refine z_top (y := (nI (48 + k % 10))) (nI_add 48 (k % 10)) ?_
    refine z_callV X (pc := 25) (rest := []) kv_X8_put (c_X8_put_15 E M_3 (t ++ [(nI (48 + k / 10))]) hT_4.1 (nI (48 + k % 10)) (by simp only [List.length_append, List.length_cons, List.length_nil]; omega)) zk_15_0 (zc_15_0 E _) rfl rfl gw_697 (by decide) rfl rfl (Nat.le_of_ble_eq_true rfl) dX8_putNumber_25 (zk_rv (fun M_5 hT_6 => ?_))
    exact z_vret X Y dX8_putNumber_28 ⟨rfl, by simpa [digs, c3] using hT_6.1, (((Off.rf _ _).tr hT_4.2).tr hT_6.2)⟩

def rm_X6_stands : Room := { frames := 0, cells := 0, slots := 0, locals := 0 }
theorem kv_X6_stands : KV yX6_stands RX6 cX6_stands 2 (some .boolean) 1 := ⟨⟨gw_794, gw_795, gw_34, gw_796⟩, by decide +kernel⟩
set_option maxRecDepth 100000 in
set_option maxHeartbeats 4000000 in
theorem c_X6_stands (E : ZE) (M : Mem) (rs : List (Int32 × Int32)) (hR : RSn M rs) (x : Int32) : Mt E yX6_stands cX6_stands 2 (some .boolean) rm_X6_stands [.ref (za E 16 0), .int x] M (PI (zb (inR x rs.length)) M) := by
  have hl0 := hR.2.1
  refine z_met (own := RX6) (lv := [(0, .ref (za E 16 0)), (1, .int x)]) (by decide) rfl (Nat.le_of_ble_eq_true rfl) rfl (fun gg X Y => ?_)
  refine z_iload_n X (pc := 0) 1 dX6_stands_0 rfl rfl ?_
  refine z_if_lt X (pc := 1) (tgt := 16) dX6_stands_1 (by decide) (fun c1 => ?_) (fun c1 => ?_)
  · refine z_iconst X (pc := 16) (v := 0) dX6_stands_16 (by decide) ?_
    exact z_bret X Y dX6_stands_17 (by simp [inR, zb, c1]) rfl
  · refine z_iload_n X (pc := 4) 1 dX6_stands_4 rfl rfl ?_
    refine z_aload_n X (pc := 5) 0 dX6_stands_5 rfl rfl ?_
    refine z_get X (pc := 6) 2 zk_16_0 (zc_16_0 E _) rfl inlX6 (by decide) gw_198 rfl rfl dX6_stands_6 ?_
    refine z_top (y := (nI rs.length)) hR.1 ?_
    refine z_icmp_ge X (pc := 9) (tgt := 16) dX6_stands_9 (by decide) (fun c9 => ?_) (fun c9 => ?_)
    · refine z_iconst X (pc := 16) (v := 0) dX6_stands_16 (by decide) ?_
      exact z_bret X Y dX6_stands_17 (by simp [inR, zb, c1, c9]) rfl
    · refine z_iconst X (pc := 12) (v := 1) dX6_stands_12 (by decide) ?_
      refine z_goto X (pc := 13) (tgt := 17) dX6_stands_13 (by decide) ?_
      exact z_bret X Y dX6_stands_17 (by simp [inR, zb, c1, c9]) rfl

def rm_X6_begin : Room := { frames := 1, cells := 0, slots := 0, locals := 22 }
theorem kv_X6_begin : KV yX6_begin RX6 cX6_begin 3 none 2 := ⟨⟨gw_195, gw_196, gw_34, gw_197⟩, by decide +kernel⟩
set_option maxRecDepth 100000 in
set_option maxHeartbeats 4000000 in
theorem c_X6_begin (E : ZE) (M : Mem) (a b : Int32) : Mt E yX6_begin cX6_begin 3 none rm_X6_begin [.ref (za E 16 0), .int a, .int b] M (RV (fun M1 => RSn M1 [(a, b)] ∧ Off 16 M M1)) := by
  refine z_met (own := RX6) (lv := [(0, .ref (za E 16 0)), (1, .int a), (2, .int b)]) (by decide) rfl (Nat.le_of_ble_eq_true rfl) rfl (fun gg X Y => ?_)
  refine z_aload_n X (pc := 0) 0 dX6_begin_0 rfl rfl ?_
  refine z_get X (pc := 1) 0 zk_16_0 (zc_16_0 E _) rfl inlX6 (by decide) gw_129 rfl rfl dX6_begin_1 ?_
  refine z_iconst X (pc := 4) (v := 0) dX6_begin_4 (by decide) ?_
  refine z_iload_n X (pc := 5) 1 dX6_begin_5 rfl rfl ?_
  refine z_callV X (pc := 6) (rest := []) kv_X7_put (c_X7_put E M 16 4 0 a (by decide) (by decide) (by decide)) zk_16_4 (zc_16_4 E _) rfl rfl gw_199 (by decide) rfl rfl (Nat.le_of_ble_eq_true rfl) dX6_begin_6 (zk_v ?_)
  refine z_aload_n X (pc := 9) 0 dX6_begin_9 rfl rfl ?_
  refine z_get X (pc := 10) 1 zk_16_0 (zc_16_0 E _) rfl inlX6 (by decide) gw_130 rfl rfl dX6_begin_10 ?_
  refine z_iconst X (pc := 13) (v := 0) dX6_begin_13 (by decide) ?_
  refine z_iload_n X (pc := 14) 2 dX6_begin_14 rfl rfl ?_
  refine z_callV X (pc := 15) (rest := []) kv_X7_put (c_X7_put E (up3 M 16 5 0 a) 16 6 0 b (by decide) (by decide) (by decide)) zk_16_6 (zc_16_6 E _) rfl rfl gw_199 (by decide) rfl rfl (Nat.le_of_ble_eq_true rfl) dX6_begin_15 (zk_v ?_)
  refine z_aload_n X (pc := 18) 0 dX6_begin_18 rfl rfl ?_
  refine z_iconst X (pc := 19) (v := 1) dX6_begin_19 (by decide) ?_
  refine z_put X (pc := 20) 2 zk_16_0 (zc_16_0 E _) rfl inlX6 tyX6 tyX6_ok nmX6 (by decide) gw_198 rfl rfl (ty := .int) (by decide +kernel) rfl rfl (Nat.le_of_ble_eq_true rfl) dX6_begin_20 rfl ?_
  exact z_vret X Y dX6_begin_23 ⟨rfl, RSn.one, (((Off.rf _ _).up).up).up⟩

def rm_X6_putAhead : Room := { frames := 1, cells := 0, slots := 0, locals := 22 }
theorem kv_X6_putAhead : KV yX6_putAhead RX6 cX6_putAhead 4 none 2 := ⟨⟨gw_438, gw_439, gw_34, gw_440⟩, by decide +kernel⟩
set_option maxRecDepth 100000 in
set_option maxHeartbeats 4000000 in
theorem c_X6_putAhead (E : ZE) (M : Mem) (rs : List (Int32 × Int32)) (hR : RSn M rs) (a b : Int32) : Mt E yX6_putAhead cX6_putAhead 4 none rm_X6_putAhead [.ref (za E 16 0), .int a, .int b] M (RV (fun M1 => RSn M1 (((a, b) :: rs).take 3) ∧ Off 16 M M1)) := by
  have hl0 := hR.2.1
  refine z_met (own := RX6) (lv := [(0, .ref (za E 16 0)), (1, .int a), (2, .int b)]) (by decide) rfl (Nat.le_of_ble_eq_true rfl) rfl (fun gg X Y => ?_)
  refine z_iconst X (pc := 0) (v := 2) dX6_putAhead_0 (by decide) ?_
  refine z_istore_n X (pc := 1) (lv1 := [(3, .int 2), (0, .ref (za E 16 0)), (1, .int a), (2, .int b)]) dX6_putAhead_1 rfl (by decide) rfl ?_
  refine z_iload_n X (pc := 2) 0 dX6_putAhead_2 rfl rfl ?_
  refine z_if_le X (pc := 3) (tgt := 48) dX6_putAhead_3 (by decide) (fun c3 => ?_) (fun c3 => ?_)
  · exact absurd c3 (by decide)
  · refine z_aload_n X (pc := 6) 1 dX6_putAhead_6 rfl rfl ?_
    refine z_get X (pc := 7) 0 zk_16_0 (zc_16_0 E _) rfl inlX6 (by decide) gw_129 rfl rfl dX6_putAhead_7 ?_
    refine z_iload_n X (pc := 10) 0 dX6_putAhead_10 rfl rfl ?_
    refine z_aload_n X (pc := 11) 1 dX6_putAhead_11 rfl rfl ?_
    refine z_get X (pc := 12) 0 zk_16_0 (zc_16_0 E _) rfl inlX6 (by decide) gw_129 rfl rfl dX6_putAhead_12 ?_
    refine z_iload_n X (pc := 15) 0 dX6_putAhead_15 rfl rfl ?_
    refine z_iconst X (pc := 16) (v := 1) dX6_putAhead_16 (by decide) ?_
    refine z_isub X (pc := 17) dX6_putAhead_17 ?_
    refine z_top (y := 1) (by decide) ?_
    refine z_callV X (pc := 18) (rest := [.int 2, .ref (za E 16 4)]) kv_X7_at (c_X7_at E M 16 4 1 (by decide) (by decide) (by decide)) zk_16_4 (zc_16_4 E _) rfl rfl gw_442 (by decide) rfl rfl (Nat.le_of_ble_eq_true rfl) dX6_putAhead_18 (zk_i ?_)
    refine z_callV X (pc := 21) (rest := []) kv_X7_put (c_X7_put E M 16 4 2 (M 16 5 1) (by decide) (by decide) (by decide)) zk_16_4 (zc_16_4 E _) rfl rfl gw_199 (by decide) rfl rfl (Nat.le_of_ble_eq_true rfl) dX6_putAhead_21 (zk_v ?_)
    refine z_aload_n X (pc := 24) 1 dX6_putAhead_24 rfl rfl ?_
    refine z_get X (pc := 25) 1 zk_16_0 (zc_16_0 E _) rfl inlX6 (by decide) gw_130 rfl rfl dX6_putAhead_25 ?_
    refine z_iload_n X (pc := 28) 0 dX6_putAhead_28 rfl rfl ?_
    refine z_aload_n X (pc := 29) 1 dX6_putAhead_29 rfl rfl ?_
    refine z_get X (pc := 30) 1 zk_16_0 (zc_16_0 E _) rfl inlX6 (by decide) gw_130 rfl rfl dX6_putAhead_30 ?_
    refine z_iload_n X (pc := 33) 0 dX6_putAhead_33 rfl rfl ?_
    refine z_iconst X (pc := 34) (v := 1) dX6_putAhead_34 (by decide) ?_
    refine z_isub X (pc := 35) dX6_putAhead_35 ?_
    refine z_top (y := 1) (by decide) ?_
    refine z_callV X (pc := 36) (rest := [.int 2, .ref (za E 16 6)]) kv_X7_at (c_X7_at E (up3 M 16 5 2 (M 16 5 1)) 16 6 1 (by decide) (by decide) (by decide)) zk_16_6 (zc_16_6 E _) rfl rfl gw_442 (by decide) rfl rfl (Nat.le_of_ble_eq_true rfl) dX6_putAhead_36 (zk_i ?_)
    refine z_callV X (pc := 39) (rest := []) kv_X7_put (c_X7_put E (up3 M 16 5 2 (M 16 5 1)) 16 6 2 ((up3 M 16 5 2 (M 16 5 1)) 16 7 1) (by decide) (by decide) (by decide)) zk_16_6 (zc_16_6 E _) rfl rfl gw_199 (by decide) rfl rfl (Nat.le_of_ble_eq_true rfl) dX6_putAhead_39 (zk_v ?_)
    refine z_iinc X (pc := 42) (v := 1) (lv1 := [(3, .int 1), (0, .ref (za E 16 0)), (1, .int a), (2, .int b)]) 0 dX6_putAhead_42 rfl (by decide) (by decide) rfl ?_
    refine z_goto X (pc := 45) (tgt := 2) dX6_putAhead_45 (by decide) ?_
    refine z_iload_n X (pc := 2) 0 dX6_putAhead_2 rfl rfl ?_
    refine z_if_le X (pc := 3) (tgt := 48) dX6_putAhead_3 (by decide) (fun c3_1 => ?_) (fun c3_1 => ?_)
    · exact absurd c3_1 (by decide)
    · refine z_aload_n X (pc := 6) 1 dX6_putAhead_6 rfl rfl ?_
      refine z_get X (pc := 7) 0 zk_16_0 (zc_16_0 E _) rfl inlX6 (by decide) gw_129 rfl rfl dX6_putAhead_7 ?_
      refine z_iload_n X (pc := 10) 0 dX6_putAhead_10 rfl rfl ?_
      refine z_aload_n X (pc := 11) 1 dX6_putAhead_11 rfl rfl ?_
      refine z_get X (pc := 12) 0 zk_16_0 (zc_16_0 E _) rfl inlX6 (by decide) gw_129 rfl rfl dX6_putAhead_12 ?_
      refine z_iload_n X (pc := 15) 0 dX6_putAhead_15 rfl rfl ?_
      refine z_iconst X (pc := 16) (v := 1) dX6_putAhead_16 (by decide) ?_
      refine z_isub X (pc := 17) dX6_putAhead_17 ?_
      refine z_top (y := 0) (by decide) ?_
      refine z_callV X (pc := 18) (rest := [.int 1, .ref (za E 16 4)]) kv_X7_at (c_X7_at E (up3 (up3 M 16 5 2 (M 16 5 1)) 16 7 2 ((up3 M 16 5 2 (M 16 5 1)) 16 7 1)) 16 4 0 (by decide) (by decide) (by decide)) zk_16_4 (zc_16_4 E _) rfl rfl gw_442 (by decide) rfl rfl (Nat.le_of_ble_eq_true rfl) dX6_putAhead_18 (zk_i ?_)
      refine z_callV X (pc := 21) (rest := []) kv_X7_put (c_X7_put E (up3 (up3 M 16 5 2 (M 16 5 1)) 16 7 2 ((up3 M 16 5 2 (M 16 5 1)) 16 7 1)) 16 4 1 ((up3 (up3 M 16 5 2 (M 16 5 1)) 16 7 2 ((up3 M 16 5 2 (M 16 5 1)) 16 7 1)) 16 5 0) (by decide) (by decide) (by decide)) zk_16_4 (zc_16_4 E _) rfl rfl gw_199 (by decide) rfl rfl (Nat.le_of_ble_eq_true rfl) dX6_putAhead_21 (zk_v ?_)
      refine z_aload_n X (pc := 24) 1 dX6_putAhead_24 rfl rfl ?_
      refine z_get X (pc := 25) 1 zk_16_0 (zc_16_0 E _) rfl inlX6 (by decide) gw_130 rfl rfl dX6_putAhead_25 ?_
      refine z_iload_n X (pc := 28) 0 dX6_putAhead_28 rfl rfl ?_
      refine z_aload_n X (pc := 29) 1 dX6_putAhead_29 rfl rfl ?_
      refine z_get X (pc := 30) 1 zk_16_0 (zc_16_0 E _) rfl inlX6 (by decide) gw_130 rfl rfl dX6_putAhead_30 ?_
      refine z_iload_n X (pc := 33) 0 dX6_putAhead_33 rfl rfl ?_
      refine z_iconst X (pc := 34) (v := 1) dX6_putAhead_34 (by decide) ?_
      refine z_isub X (pc := 35) dX6_putAhead_35 ?_
      refine z_top (y := 0) (by decide) ?_
      refine z_callV X (pc := 36) (rest := [.int 1, .ref (za E 16 6)]) kv_X7_at (c_X7_at E (up3 (up3 (up3 M 16 5 2 (M 16 5 1)) 16 7 2 ((up3 M 16 5 2 (M 16 5 1)) 16 7 1)) 16 5 1 ((up3 (up3 M 16 5 2 (M 16 5 1)) 16 7 2 ((up3 M 16 5 2 (M 16 5 1)) 16 7 1)) 16 5 0)) 16 6 0 (by decide) (by decide) (by decide)) zk_16_6 (zc_16_6 E _) rfl rfl gw_442 (by decide) rfl rfl (Nat.le_of_ble_eq_true rfl) dX6_putAhead_36 (zk_i ?_)
      refine z_callV X (pc := 39) (rest := []) kv_X7_put (c_X7_put E (up3 (up3 (up3 M 16 5 2 (M 16 5 1)) 16 7 2 ((up3 M 16 5 2 (M 16 5 1)) 16 7 1)) 16 5 1 ((up3 (up3 M 16 5 2 (M 16 5 1)) 16 7 2 ((up3 M 16 5 2 (M 16 5 1)) 16 7 1)) 16 5 0)) 16 6 1 ((up3 (up3 (up3 M 16 5 2 (M 16 5 1)) 16 7 2 ((up3 M 16 5 2 (M 16 5 1)) 16 7 1)) 16 5 1 ((up3 (up3 M 16 5 2 (M 16 5 1)) 16 7 2 ((up3 M 16 5 2 (M 16 5 1)) 16 7 1)) 16 5 0)) 16 7 0) (by decide) (by decide) (by decide)) zk_16_6 (zc_16_6 E _) rfl rfl gw_199 (by decide) rfl rfl (Nat.le_of_ble_eq_true rfl) dX6_putAhead_39 (zk_v ?_)
      refine z_iinc X (pc := 42) (v := 0) (lv1 := [(3, .int 0), (0, .ref (za E 16 0)), (1, .int a), (2, .int b)]) 0 dX6_putAhead_42 rfl (by decide) (by decide) rfl ?_
      refine z_goto X (pc := 45) (tgt := 2) dX6_putAhead_45 (by decide) ?_
      refine z_iload_n X (pc := 2) 0 dX6_putAhead_2 rfl rfl ?_
      refine z_if_le X (pc := 3) (tgt := 48) dX6_putAhead_3 (by decide) (fun c3_2 => ?_) (fun c3_2 => ?_)
      · refine z_aload_n X (pc := 48) 1 dX6_putAhead_48 rfl rfl ?_
        refine z_get X (pc := 49) 0 zk_16_0 (zc_16_0 E _) rfl inlX6 (by decide) gw_129 rfl rfl dX6_putAhead_49 ?_
        refine z_iconst X (pc := 52) (v := 0) dX6_putAhead_52 (by decide) ?_
        refine z_iload_n X (pc := 53) 2 dX6_putAhead_53 rfl rfl ?_
        refine z_callV X (pc := 54) (rest := []) kv_X7_put (c_X7_put E (up3 (up3 (up3 (up3 M 16 5 2 (M 16 5 1)) 16 7 2 ((up3 M 16 5 2 (M 16 5 1)) 16 7 1)) 16 5 1 ((up3 (up3 M 16 5 2 (M 16 5 1)) 16 7 2 ((up3 M 16 5 2 (M 16 5 1)) 16 7 1)) 16 5 0)) 16 7 1 ((up3 (up3 (up3 M 16 5 2 (M 16 5 1)) 16 7 2 ((up3 M 16 5 2 (M 16 5 1)) 16 7 1)) 16 5 1 ((up3 (up3 M 16 5 2 (M 16 5 1)) 16 7 2 ((up3 M 16 5 2 (M 16 5 1)) 16 7 1)) 16 5 0)) 16 7 0)) 16 4 0 a (by decide) (by decide) (by decide)) zk_16_4 (zc_16_4 E _) rfl rfl gw_199 (by decide) rfl rfl (Nat.le_of_ble_eq_true rfl) dX6_putAhead_54 (zk_v ?_)
        refine z_aload_n X (pc := 57) 1 dX6_putAhead_57 rfl rfl ?_
        refine z_get X (pc := 58) 1 zk_16_0 (zc_16_0 E _) rfl inlX6 (by decide) gw_130 rfl rfl dX6_putAhead_58 ?_
        refine z_iconst X (pc := 61) (v := 0) dX6_putAhead_61 (by decide) ?_
        refine z_iload_n X (pc := 62) 3 dX6_putAhead_62 rfl rfl ?_
        refine z_callV X (pc := 63) (rest := []) kv_X7_put (c_X7_put E (up3 (up3 (up3 (up3 (up3 M 16 5 2 (M 16 5 1)) 16 7 2 ((up3 M 16 5 2 (M 16 5 1)) 16 7 1)) 16 5 1 ((up3 (up3 M 16 5 2 (M 16 5 1)) 16 7 2 ((up3 M 16 5 2 (M 16 5 1)) 16 7 1)) 16 5 0)) 16 7 1 ((up3 (up3 (up3 M 16 5 2 (M 16 5 1)) 16 7 2 ((up3 M 16 5 2 (M 16 5 1)) 16 7 1)) 16 5 1 ((up3 (up3 M 16 5 2 (M 16 5 1)) 16 7 2 ((up3 M 16 5 2 (M 16 5 1)) 16 7 1)) 16 5 0)) 16 7 0)) 16 5 0 a) 16 6 0 b (by decide) (by decide) (by decide)) zk_16_6 (zc_16_6 E _) rfl rfl gw_199 (by decide) rfl rfl (Nat.le_of_ble_eq_true rfl) dX6_putAhead_63 (zk_v ?_)
        refine z_aload_n X (pc := 66) 1 dX6_putAhead_66 rfl rfl ?_
        refine z_aload_n X (pc := 67) 1 dX6_putAhead_67 rfl rfl ?_
        refine z_get X (pc := 68) 2 zk_16_0 (zc_16_0 E _) rfl inlX6 (by decide) gw_198 rfl rfl dX6_putAhead_68 ?_
        refine z_top (y := (nI rs.length)) (by simpa [up3] using hR.1) ?_
        refine z_iconst X (pc := 71) (v := 1) dX6_putAhead_71 (by decide) ?_
        refine z_iadd X (pc := 72) dX6_putAhead_72 ?_
        refine z_iconst X (pc := 73) (v := 3) dX6_putAhead_73 (by decide) ?_
        refine z_min X (pc := 74) gw_441 gw_159 gw_70 gw_160 (by decide) (Nat.le_of_ble_eq_true rfl) dX6_putAhead_74 ?_
        refine z_top (y := (nI (min (rs.length + 1) 3))) (min_nI (rs.length + 1) 3 (by omega) (by omega) (nI_1 _)) ?_
        refine z_put X (pc := 77) 2 zk_16_0 (zc_16_0 E _) rfl inlX6 tyX6 tyX6_ok nmX6 (by decide) gw_198 rfl rfl (ty := .int) (by decide +kernel) rfl rfl (Nat.le_of_ble_eq_true rfl) dX6_putAhead_77 rfl ?_
        exact z_vret X Y dX6_putAhead_80 ⟨rfl, RSn.ahead hR (by simp [up3]) (by simp [up3]) (by simp [up3]) (by simp [up3]), Off.up (Off.up (Off.up (Off.up (Off.up (Off.up (Off.up (Off.rf _ _))))))) ⟩
      · exact absurd (by decide) c3_2
