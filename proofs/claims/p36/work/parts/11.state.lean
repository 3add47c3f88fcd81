theorem zc_s0 {E : ZE} {M : Mem} {b : Nat} (hb : b ≤ 10) : zcell E M b 0 = .inr (9, [.ref (za E b 1), .ref (za E b 2), .ref (za E b 3)]) := by unfold zcell; rw [zkd_st hb (by decide)]; rfl
theorem zc_s1 {E : ZE} {M : Mem} {b : Nat} (hb : b ≤ 10) : zcell E M b 1 = .inr (2, [.int (M b 1 0), .ref (za E b 4), .ref (za E b 6), .ref (za E b 8), .ref (za E b 10), .ref (za E b 12), .ref (za E b 14), .ref (za E b 16)]) := by unfold zcell; rw [zkd_st hb (by decide)]; rfl
theorem zc_s2 {E : ZE} {M : Mem} {b : Nat} (hb : b ≤ 10) : zcell E M b 2 = .inr (4, [.int (M b 2 0), .ref (za E b 18), .ref (za E b 20), .ref (za E b 22), .ref (za E b 24), .ref (za E b 26), .ref (za E b 28), .ref (za E b 30)]) := by unfold zcell; rw [zkd_st hb (by decide)]; rfl
theorem zc_s3 {E : ZE} {M : Mem} {b : Nat} (hb : b ≤ 10) : zcell E M b 3 = .inr (1, [.int (M b 3 0), .int (M b 3 1), .int (M b 3 2), .int (M b 3 3), .int (M b 3 4), .int (M b 3 5), .int (M b 3 6)]) := by unfold zcell; rw [zkd_st hb (by decide)]; rfl
theorem cp_books {M : Mem} {b b2 : Nat} (hne : b2 ≠ b) : CpP M b b2 [3] (up3 (up3 (up3 (up3 (up3 (up3 (up3 M b 3 0 (M b2 3 0)) b 3 1 (M b2 3 1)) b 3 2 (M b2 3 2)) b 3 3 (M b2 3 3)) b 3 4 (M b2 3 4)) b 3 5 (M b2 3 5)) b 3 6 (M b2 3 6)) := by
  refine ⟨fun b' hb => by funext r k; simp [up3, hb], fun r k hk => ?_⟩
  by_cases e : r = 3
  · subst e
    have hk : k < 7 := hk
    match k, hk with
    | 0, _ => simp [up3]
    | 1, _ => simp [up3]
    | 2, _ => simp [up3]
    | 3, _ => simp [up3]
    | 4, _ => simp [up3]
    | 5, _ => simp [up3]
    | 6, _ => simp [up3]
  · simp [up3, e]
def rm_X2_copy : Room := { frames := 2, cells := 0, slots := 0, locals := 82 }
theorem kv_X2_copy : KV yX2_copy RX2 cX2_copy 2 none 1 := ⟨⟨gw_150, gw_151, gw_41, gw_152⟩, by decide +kernel⟩
set_option maxRecDepth 100000 in
set_option maxHeartbeats 4000000 in
theorem c_X2_copy (E : ZE) (M : Mem) (b b2 : Nat) (hb : b ≤ 10) (hb2 : b2 ≤ 10) (hne : b2 ≠ b) : Mt E yX2_copy cX2_copy 2 none rm_X2_copy [.ref (za E b 1), .ref (za E b2 1)] M (RV (CpP M b b2 [17, 15, 13, 11, 9, 7, 5, 1])) := by
  refine z_met (own := RX2) (lv := [(0, .ref (za E b 1)), (1, .ref (za E b2 1))]) (by decide) rfl (Nat.le_of_ble_eq_true rfl) rfl (fun gg X Y => ?_)
  refine z_aload_n X (pc := 0) 0 dX2_copy_0 rfl rfl ?_
  refine z_aload_n X (pc := 1) 1 dX2_copy_1 rfl rfl ?_
  refine z_get X (pc := 2) 0 (by rw [zkd_st hb2 (by decide)]; decide) (zc_s1 hb2) rfl inlX2 (by decide) gw_153 rfl rfl dX2_copy_2 ?_
  refine z_top (y := (M b2 1 0)) (by rw [((CpP.rf M b b2)).1 b2 hne]) ?_
  refine z_put X (pc := 5) 0 (by rw [zkd_st hb (by decide)]; decide) (zc_s1 hb) rfl inlX2 tyX2 tyX2_ok nmX2 (by decide) gw_153 rfl rfl (ty := .int) (by decide +kernel) rfl rfl (Nat.le_of_ble_eq_true rfl) dX2_copy_5 ((zc_s1 hb).trans (by simp [up3])) ?_
  refine z_gen (CpP.s1 (r := 1) (CpP.rf M b b2) (by decide) rfl) (fun M_1 hC_2 => ?_)
  refine z_aload_n X (pc := 8) 0 dX2_copy_8 rfl rfl ?_
  refine z_get X (pc := 9) 1 (by rw [zkd_st hb (by decide)]; decide) (zc_s1 hb) rfl inlX2 (by decide) gw_57 rfl rfl dX2_copy_9 ?_
  refine z_aload_n X (pc := 12) 1 dX2_copy_12 rfl rfl ?_
  refine z_get X (pc := 13) 1 (by rw [zkd_st hb2 (by decide)]; decide) (zc_s1 hb2) rfl inlX2 (by decide) gw_57 rfl rfl dX2_copy_13 ?_
  refine z_callV X (pc := 16) (rest := []) kv_X7_copy (c_X7_copy E M_1 b 4 b2 (zkd_st hb (by decide)) (zkd_st hb (by decide)) (zkd_st hb2 (by decide)) (zkd_st hb2 (by decide)) (zn_st hb) (zn_st hb2)) (by rw [zkd_st hb (by decide)]; decide) (zc_row (r := 4) (zkd_st hb (by decide))) rfl rfl gw_154 (by decide) rfl rfl (Nat.le_of_ble_eq_true rfl) dX2_copy_16 (zk_v ?_)
  refine z_gen (CpP.row (r := 5) hC_2 hne) (fun M_3 hC_4 => ?_)
  refine z_aload_n X (pc := 19) 0 dX2_copy_19 rfl rfl ?_
  refine z_get X (pc := 20) 2 (by rw [zkd_st hb (by decide)]; decide) (zc_s1 hb) rfl inlX2 (by decide) gw_58 rfl rfl dX2_copy_20 ?_
  refine z_aload_n X (pc := 23) 1 dX2_copy_23 rfl rfl ?_
  refine z_get X (pc := 24) 2 (by rw [zkd_st hb2 (by decide)]; decide) (zc_s1 hb2) rfl inlX2 (by decide) gw_58 rfl rfl dX2_copy_24 ?_
  refine z_callV X (pc := 27) (rest := []) kv_X7_copy (c_X7_copy E M_3 b 6 b2 (zkd_st hb (by decide)) (zkd_st hb (by decide)) (zkd_st hb2 (by decide)) (zkd_st hb2 (by decide)) (zn_st hb) (zn_st hb2)) (by rw [zkd_st hb (by decide)]; decide) (zc_row (r := 6) (zkd_st hb (by decide))) rfl rfl gw_154 (by decide) rfl rfl (Nat.le_of_ble_eq_true rfl) dX2_copy_27 (zk_v ?_)
  refine z_gen (CpP.row (r := 7) hC_4 hne) (fun M_5 hC_6 => ?_)
  refine z_aload_n X (pc := 30) 0 dX2_copy_30 rfl rfl ?_
  refine z_get X (pc := 31) 3 (by rw [zkd_st hb (by decide)]; decide) (zc_s1 hb) rfl inlX2 (by decide) gw_59 rfl rfl dX2_copy_31 ?_
  refine z_aload_n X (pc := 34) 1 dX2_copy_34 rfl rfl ?_
  refine z_get X (pc := 35) 3 (by rw [zkd_st hb2 (by decide)]; decide) (zc_s1 hb2) rfl inlX2 (by decide) gw_59 rfl rfl dX2_copy_35 ?_
  refine z_callV X (pc := 38) (rest := []) kv_X7_copy (c_X7_copy E M_5 b 8 b2 (zkd_st hb (by decide)) (zkd_st hb (by decide)) (zkd_st hb2 (by decide)) (zkd_st hb2 (by decide)) (zn_st hb) (zn_st hb2)) (by rw [zkd_st hb (by decide)]; decide) (zc_row (r := 8) (zkd_st hb (by decide))) rfl rfl gw_154 (by decide) rfl rfl (Nat.le_of_ble_eq_true rfl) dX2_copy_38 (zk_v ?_)
  refine z_gen (CpP.row (r := 9) hC_6 hne) (fun M_7 hC_8 => ?_)
  refine z_aload_n X (pc := 41) 0 dX2_copy_41 rfl rfl ?_
  refine z_get X (pc := 42) 4 (by rw [zkd_st hb (by decide)]; decide) (zc_s1 hb) rfl inlX2 (by decide) gw_60 rfl rfl dX2_copy_42 ?_
  refine z_aload_n X (pc := 45) 1 dX2_copy_45 rfl rfl ?_
  refine z_get X (pc := 46) 4 (by rw [zkd_st hb2 (by decide)]; decide) (zc_s1 hb2) rfl inlX2 (by decide) gw_60 rfl rfl dX2_copy_46 ?_
  refine z_callV X (pc := 49) (rest := []) kv_X7_copy (c_X7_copy E M_7 b 10 b2 (zkd_st hb (by decide)) (zkd_st hb (by decide)) (zkd_st hb2 (by decide)) (zkd_st hb2 (by decide)) (zn_st hb) (zn_st hb2)) (by rw [zkd_st hb (by decide)]; decide) (zc_row (r := 10) (zkd_st hb (by decide))) rfl rfl gw_154 (by decide) rfl rfl (Nat.le_of_ble_eq_true rfl) dX2_copy_49 (zk_v ?_)
  refine z_gen (CpP.row (r := 11) hC_8 hne) (fun M_9 hC_10 => ?_)
  refine z_aload_n X (pc := 52) 0 dX2_copy_52 rfl rfl ?_
  refine z_get X (pc := 53) 5 (by rw [zkd_st hb (by decide)]; decide) (zc_s1 hb) rfl inlX2 (by decide) gw_61 rfl rfl dX2_copy_53 ?_
  refine z_aload_n X (pc := 56) 1 dX2_copy_56 rfl rfl ?_
  refine z_get X (pc := 57) 5 (by rw [zkd_st hb2 (by decide)]; decide) (zc_s1 hb2) rfl inlX2 (by decide) gw_61 rfl rfl dX2_copy_57 ?_
  refine z_callV X (pc := 60) (rest := []) kv_X7_copy (c_X7_copy E M_9 b 12 b2 (zkd_st hb (by decide)) (zkd_st hb (by decide)) (zkd_st hb2 (by decide)) (zkd_st hb2 (by decide)) (zn_st hb) (zn_st hb2)) (by rw [zkd_st hb (by decide)]; decide) (zc_row (r := 12) (zkd_st hb (by decide))) rfl rfl gw_154 (by decide) rfl rfl (Nat.le_of_ble_eq_true rfl) dX2_copy_60 (zk_v ?_)
  refine z_gen (CpP.row (r := 13) hC_10 hne) (fun M_11 hC_12 => ?_)
  refine z_aload_n X (pc := 63) 0 dX2_copy_63 rfl rfl ?_
  refine z_get X (pc := 64) 6 (by rw [zkd_st hb (by decide)]; decide) (zc_s1 hb) rfl inlX2 (by decide) gw_62 rfl rfl dX2_copy_64 ?_
  refine z_aload_n X (pc := 67) 1 dX2_copy_67 rfl rfl ?_
  refine z_get X (pc := 68) 6 (by rw [zkd_st hb2 (by decide)]; decide) (zc_s1 hb2) rfl inlX2 (by decide) gw_62 rfl rfl dX2_copy_68 ?_
  refine z_callV X (pc := 71) (rest := []) kv_X7_copy (c_X7_copy E M_11 b 14 b2 (zkd_st hb (by decide)) (zkd_st hb (by decide)) (zkd_st hb2 (by decide)) (zkd_st hb2 (by decide)) (zn_st hb) (zn_st hb2)) (by rw [zkd_st hb (by decide)]; decide) (zc_row (r := 14) (zkd_st hb (by decide))) rfl rfl gw_154 (by decide) rfl rfl (Nat.le_of_ble_eq_true rfl) dX2_copy_71 (zk_v ?_)
  refine z_gen (CpP.row (r := 15) hC_12 hne) (fun M_13 hC_14 => ?_)
  refine z_aload_n X (pc := 74) 0 dX2_copy_74 rfl rfl ?_
  refine z_get X (pc := 75) 7 (by rw [zkd_st hb (by decide)]; decide) (zc_s1 hb) rfl inlX2 (by decide) gw_63 rfl rfl dX2_copy_75 ?_
  refine z_aload_n X (pc := 78) 1 dX2_copy_78 rfl rfl ?_
  refine z_get X (pc := 79) 7 (by rw [zkd_st hb2 (by decide)]; decide) (zc_s1 hb2) rfl inlX2 (by decide) gw_63 rfl rfl dX2_copy_79 ?_
  refine z_callV X (pc := 82) (rest := []) kv_X7_copy (c_X7_copy E M_13 b 16 b2 (zkd_st hb (by decide)) (zkd_st hb (by decide)) (zkd_st hb2 (by decide)) (zkd_st hb2 (by decide)) (zn_st hb) (zn_st hb2)) (by rw [zkd_st hb (by decide)]; decide) (zc_row (r := 16) (zkd_st hb (by decide))) rfl rfl gw_154 (by decide) rfl rfl (Nat.le_of_ble_eq_true rfl) dX2_copy_82 (zk_v ?_)
  refine z_gen (CpP.row (r := 17) hC_14 hne) (fun M_15 hC_16 => ?_)
  exact z_vret X Y dX2_copy_85 ⟨rfl, hC_16⟩

def rm_X4_copy : Room := { frames := 2, cells := 0, slots := 0, locals := 82 }
theorem kv_X4_copy : KV yX4_copy RX4 cX4_copy 2 none 1 := ⟨⟨gw_166, gw_167, gw_45, gw_168⟩, by decide +kernel⟩
set_option maxRecDepth 100000 in
set_option maxHeartbeats 4000000 in
theorem c_X4_copy (E : ZE) (M : Mem) (b b2 : Nat) (hb : b ≤ 10) (hb2 : b2 ≤ 10) (hne : b2 ≠ b) : Mt E yX4_copy cX4_copy 2 none rm_X4_copy [.ref (za E b 2), .ref (za E b2 2)] M (RV (CpP M b b2 [31, 29, 27, 25, 23, 21, 19, 2])) := by
  refine z_met (own := RX4) (lv := [(0, .ref (za E b 2)), (1, .ref (za E b2 2))]) (by decide) rfl (Nat.le_of_ble_eq_true rfl) rfl (fun gg X Y => ?_)
  refine z_aload_n X (pc := 0) 0 dX4_copy_0 rfl rfl ?_
  refine z_aload_n X (pc := 1) 1 dX4_copy_1 rfl rfl ?_
  refine z_get X (pc := 2) 0 (by rw [zkd_st hb2 (by decide)]; decide) (zc_s2 hb2) rfl inlX4 (by decide) gw_169 rfl rfl dX4_copy_2 ?_
  refine z_top (y := (M b2 2 0)) (by rw [((CpP.rf M b b2)).1 b2 hne]) ?_
  refine z_put X (pc := 5) 0 (by rw [zkd_st hb (by decide)]; decide) (zc_s2 hb) rfl inlX4 tyX4 tyX4_ok nmX4 (by decide) gw_169 rfl rfl (ty := .int) (by decide +kernel) rfl rfl (Nat.le_of_ble_eq_true rfl) dX4_copy_5 ((zc_s2 hb).trans (by simp [up3])) ?_
  refine z_gen (CpP.s1 (r := 2) (CpP.rf M b b2) (by decide) rfl) (fun M_1 hC_2 => ?_)
  refine z_aload_n X (pc := 8) 0 dX4_copy_8 rfl rfl ?_
  refine z_get X (pc := 9) 1 (by rw [zkd_st hb (by decide)]; decide) (zc_s2 hb) rfl inlX4 (by decide) gw_78 rfl rfl dX4_copy_9 ?_
  refine z_aload_n X (pc := 12) 1 dX4_copy_12 rfl rfl ?_
  refine z_get X (pc := 13) 1 (by rw [zkd_st hb2 (by decide)]; decide) (zc_s2 hb2) rfl inlX4 (by decide) gw_78 rfl rfl dX4_copy_13 ?_
  refine z_callV X (pc := 16) (rest := []) kv_X7_copy (c_X7_copy E M_1 b 18 b2 (zkd_st hb (by decide)) (zkd_st hb (by decide)) (zkd_st hb2 (by decide)) (zkd_st hb2 (by decide)) (zn_st hb) (zn_st hb2)) (by rw [zkd_st hb (by decide)]; decide) (zc_row (r := 18) (zkd_st hb (by decide))) rfl rfl gw_170 (by decide) rfl rfl (Nat.le_of_ble_eq_true rfl) dX4_copy_16 (zk_v ?_)
  refine z_gen (CpP.row (r := 19) hC_2 hne) (fun M_3 hC_4 => ?_)
  refine z_aload_n X (pc := 19) 0 dX4_copy_19 rfl rfl ?_
  refine z_get X (pc := 20) 2 (by rw [zkd_st hb (by decide)]; decide) (zc_s2 hb) rfl inlX4 (by decide) gw_79 rfl rfl dX4_copy_20 ?_
  refine z_aload_n X (pc := 23) 1 dX4_copy_23 rfl rfl ?_
  refine z_get X (pc := 24) 2 (by rw [zkd_st hb2 (by decide)]; decide) (zc_s2 hb2) rfl inlX4 (by decide) gw_79 rfl rfl dX4_copy_24 ?_
  refine z_callV X (pc := 27) (rest := []) kv_X7_copy (c_X7_copy E M_3 b 20 b2 (zkd_st hb (by decide)) (zkd_st hb (by decide)) (zkd_st hb2 (by decide)) (zkd_st hb2 (by decide)) (zn_st hb) (zn_st hb2)) (by rw [zkd_st hb (by decide)]; decide) (zc_row (r := 20) (zkd_st hb (by decide))) rfl rfl gw_170 (by decide) rfl rfl (Nat.le_of_ble_eq_true rfl) dX4_copy_27 (zk_v ?_)
  refine z_gen (CpP.row (r := 21) hC_4 hne) (fun M_5 hC_6 => ?_)
  refine z_aload_n X (pc := 30) 0 dX4_copy_30 rfl rfl ?_
  refine z_get X (pc := 31) 3 (by rw [zkd_st hb (by decide)]; decide) (zc_s2 hb) rfl inlX4 (by decide) gw_80 rfl rfl dX4_copy_31 ?_
  refine z_aload_n X (pc := 34) 1 dX4_copy_34 rfl rfl ?_
  refine z_get X (pc := 35) 3 (by rw [zkd_st hb2 (by decide)]; decide) (zc_s2 hb2) rfl inlX4 (by decide) gw_80 rfl rfl dX4_copy_35 ?_
  refine z_callV X (pc := 38) (rest := []) kv_X7_copy (c_X7_copy E M_5 b 22 b2 (zkd_st hb (by decide)) (zkd_st hb (by decide)) (zkd_st hb2 (by decide)) (zkd_st hb2 (by decide)) (zn_st hb) (zn_st hb2)) (by rw [zkd_st hb (by decide)]; decide) (zc_row (r := 22) (zkd_st hb (by decide))) rfl rfl gw_170 (by decide) rfl rfl (Nat.le_of_ble_eq_true rfl) dX4_copy_38 (zk_v ?_)
  refine z_gen (CpP.row (r := 23) hC_6 hne) (fun M_7 hC_8 => ?_)
  refine z_aload_n X (pc := 41) 0 dX4_copy_41 rfl rfl ?_
  refine z_get X (pc := 42) 4 (by rw [zkd_st hb (by decide)]; decide) (zc_s2 hb) rfl inlX4 (by decide) gw_81 rfl rfl dX4_copy_42 ?_
  refine z_aload_n X (pc := 45) 1 dX4_copy_45 rfl rfl ?_
  refine z_get X (pc := 46) 4 (by rw [zkd_st hb2 (by decide)]; decide) (zc_s2 hb2) rfl inlX4 (by decide) gw_81 rfl rfl dX4_copy_46 ?_
  refine z_callV X (pc := 49) (rest := []) kv_X7_copy (c_X7_copy E M_7 b 24 b2 (zkd_st hb (by decide)) (zkd_st hb (by decide)) (zkd_st hb2 (by decide)) (zkd_st hb2 (by decide)) (zn_st hb) (zn_st hb2)) (by rw [zkd_st hb (by decide)]; decide) (zc_row (r := 24) (zkd_st hb (by decide))) rfl rfl gw_170 (by decide) rfl rfl (Nat.le_of_ble_eq_true rfl) dX4_copy_49 (zk_v ?_)
  refine z_gen (CpP.row (r := 25) hC_8 hne) (fun M_9 hC_10 => ?_)
  refine z_aload_n X (pc := 52) 0 dX4_copy_52 rfl rfl ?_
  refine z_get X (pc := 53) 5 (by rw [zkd_st hb (by decide)]; decide) (zc_s2 hb) rfl inlX4 (by decide) gw_82 rfl rfl dX4_copy_53 ?_
  refine z_aload_n X (pc := 56) 1 dX4_copy_56 rfl rfl ?_
  refine z_get X (pc := 57) 5 (by rw [zkd_st hb2 (by decide)]; decide) (zc_s2 hb2) rfl inlX4 (by decide) gw_82 rfl rfl dX4_copy_57 ?_
  refine z_callV X (pc := 60) (rest := []) kv_X7_copy (c_X7_copy E M_9 b 26 b2 (zkd_st hb (by decide)) (zkd_st hb (by decide)) (zkd_st hb2 (by decide)) (zkd_st hb2 (by decide)) (zn_st hb) (zn_st hb2)) (by rw [zkd_st hb (by decide)]; decide) (zc_row (r := 26) (zkd_st hb (by decide))) rfl rfl gw_170 (by decide) rfl rfl (Nat.le_of_ble_eq_true rfl) dX4_copy_60 (zk_v ?_)
  refine z_gen (CpP.row (r := 27) hC_10 hne) (fun M_11 hC_12 => ?_)
  refine z_aload_n X (pc := 63) 0 dX4_copy_63 rfl rfl ?_
  refine z_get X (pc := 64) 6 (by rw [zkd_st hb (by decide)]; decide) (zc_s2 hb) rfl inlX4 (by decide) gw_83 rfl rfl dX4_copy_64 ?_
  refine z_aload_n X (pc := 67) 1 dX4_copy_67 rfl rfl ?_
  refine z_get X (pc := 68) 6 (by rw [zkd_st hb2 (by decide)]; decide) (zc_s2 hb2) rfl inlX4 (by decide) gw_83 rfl rfl dX4_copy_68 ?_
  refine z_callV X (pc := 71) (rest := []) kv_X7_copy (c_X7_copy E M_11 b 28 b2 (zkd_st hb (by decide)) (zkd_st hb (by decide)) (zkd_st hb2 (by decide)) (zkd_st hb2 (by decide)) (zn_st hb) (zn_st hb2)) (by rw [zkd_st hb (by decide)]; decide) (zc_row (r := 28) (zkd_st hb (by decide))) rfl rfl gw_170 (by decide) rfl rfl (Nat.le_of_ble_eq_true rfl) dX4_copy_71 (zk_v ?_)
  refine z_gen (CpP.row (r := 29) hC_12 hne) (fun M_13 hC_14 => ?_)
  refine z_aload_n X (pc := 74) 0 dX4_copy_74 rfl rfl ?_
  refine z_get X (pc := 75) 7 (by rw [zkd_st hb (by decide)]; decide) (zc_s2 hb) rfl inlX4 (by decide) gw_84 rfl rfl dX4_copy_75 ?_
  refine z_aload_n X (pc := 78) 1 dX4_copy_78 rfl rfl ?_
  refine z_get X (pc := 79) 7 (by rw [zkd_st hb2 (by decide)]; decide) (zc_s2 hb2) rfl inlX4 (by decide) gw_84 rfl rfl dX4_copy_79 ?_
  refine z_callV X (pc := 82) (rest := []) kv_X7_copy (c_X7_copy E M_13 b 30 b2 (zkd_st hb (by decide)) (zkd_st hb (by decide)) (zkd_st hb2 (by decide)) (zkd_st hb2 (by decide)) (zn_st hb) (zn_st hb2)) (by rw [zkd_st hb (by decide)]; decide) (zc_row (r := 30) (zkd_st hb (by decide))) rfl rfl gw_170 (by decide) rfl rfl (Nat.le_of_ble_eq_true rfl) dX4_copy_82 (zk_v ?_)
  refine z_gen (CpP.row (r := 31) hC_14 hne) (fun M_15 hC_16 => ?_)
  exact z_vret X Y dX4_copy_85 ⟨rfl, hC_16⟩

def rm_X1_copy : Room := { frames := 0, cells := 0, slots := 0, locals := 0 }
theorem kv_X1_copy : KV yX1_copy RX1 cX1_copy 2 none 1 := ⟨⟨gw_172, gw_173, gw_49, gw_174⟩, by decide +kernel⟩
set_option maxRecDepth 100000 in
set_option maxHeartbeats 4000000 in
theorem c_X1_copy (E : ZE) (M : Mem) (b b2 : Nat) (hb : b ≤ 10) (hb2 : b2 ≤ 10) (hne : b2 ≠ b) : Mt E yX1_copy cX1_copy 2 none rm_X1_copy [.ref (za E b 3), .ref (za E b2 3)] M (RV (CpP M b b2 [3])) := by
  refine z_met (own := RX1) (lv := [(0, .ref (za E b 3)), (1, .ref (za E b2 3))]) (by decide) rfl (Nat.le_of_ble_eq_true rfl) rfl (fun gg X Y => ?_)
  refine z_aload_n X (pc := 0) 0 dX1_copy_0 rfl rfl ?_
  refine z_aload_n X (pc := 1) 1 dX1_copy_1 rfl rfl ?_
  refine z_get X (pc := 2) 0 (by rw [zkd_st hb2 (by decide)]; decide) (zc_s3 hb2) rfl inlX1 (by decide) gw_89 rfl rfl dX1_copy_2 ?_
  refine z_top (y := (M b2 3 0)) rfl ?_
  refine z_put X (pc := 5) 0 (by rw [zkd_st hb (by decide)]; decide) (zc_s3 hb) rfl inlX1 tyX1 tyX1_ok nmX1 (by decide) gw_89 rfl rfl (ty := .int) (by decide +kernel) rfl rfl (Nat.le_of_ble_eq_true rfl) dX1_copy_5 ((zc_s3 hb).trans (by simp [up3])) ?_
  refine z_aload_n X (pc := 8) 0 dX1_copy_8 rfl rfl ?_
  refine z_aload_n X (pc := 9) 1 dX1_copy_9 rfl rfl ?_
  refine z_get X (pc := 10) 1 (by rw [zkd_st hb2 (by decide)]; decide) (zc_s3 hb2) rfl inlX1 (by decide) gw_175 rfl rfl dX1_copy_10 ?_
  refine z_top (y := (M b2 3 1)) (by simp [up3, hne]) ?_
  refine z_put X (pc := 13) 1 (by rw [zkd_st hb (by decide)]; decide) (zc_s3 hb) rfl inlX1 tyX1 tyX1_ok nmX1 (by decide) gw_175 rfl rfl (ty := .int) (by decide +kernel) rfl rfl (Nat.le_of_ble_eq_true rfl) dX1_copy_13 ((zc_s3 hb).trans (by simp [up3])) ?_
  refine z_aload_n X (pc := 16) 0 dX1_copy_16 rfl rfl ?_
  refine z_aload_n X (pc := 17) 1 dX1_copy_17 rfl rfl ?_
  refine z_get X (pc := 18) 2 (by rw [zkd_st hb2 (by decide)]; decide) (zc_s3 hb2) rfl inlX1 (by decide) gw_176 rfl rfl dX1_copy_18 ?_
  refine z_top (y := (M b2 3 2)) (by simp [up3, hne]) ?_
  refine z_put X (pc := 21) 2 (by rw [zkd_st hb (by decide)]; decide) (zc_s3 hb) rfl inlX1 tyX1 tyX1_ok nmX1 (by decide) gw_176 rfl rfl (ty := .int) (by decide +kernel) rfl rfl (Nat.le_of_ble_eq_true rfl) dX1_copy_21 ((zc_s3 hb).trans (by simp [up3])) ?_
  refine z_aload_n X (pc := 24) 0 dX1_copy_24 rfl rfl ?_
  refine z_aload_n X (pc := 25) 1 dX1_copy_25 rfl rfl ?_
  refine z_get X (pc := 26) 3 (by rw [zkd_st hb2 (by decide)]; decide) (zc_s3 hb2) rfl inlX1 (by decide) gw_177 rfl rfl dX1_copy_26 ?_
  refine z_top (y := (M b2 3 3)) (by simp [up3, hne]) ?_
  refine z_put X (pc := 29) 3 (by rw [zkd_st hb (by decide)]; decide) (zc_s3 hb) rfl inlX1 tyX1 tyX1_ok nmX1 (by decide) gw_177 rfl rfl (ty := .int) (by decide +kernel) rfl rfl (Nat.le_of_ble_eq_true rfl) dX1_copy_29 ((zc_s3 hb).trans (by simp [up3])) ?_
  refine z_aload_n X (pc := 32) 0 dX1_copy_32 rfl rfl ?_
  refine z_aload_n X (pc := 33) 1 dX1_copy_33 rfl rfl ?_
  refine z_get X (pc := 34) 4 (by rw [zkd_st hb2 (by decide)]; decide) (zc_s3 hb2) rfl inlX1 (by decide) gw_178 rfl rfl dX1_copy_34 ?_
  refine z_top (y := (M b2 3 4)) (by simp [up3, hne]) ?_
  refine z_put X (pc := 37) 4 (by rw [zkd_st hb (by decide)]; decide) (zc_s3 hb) rfl inlX1 tyX1 tyX1_ok nmX1 (by decide) gw_178 rfl rfl (ty := .int) (by decide +kernel) rfl rfl (Nat.le_of_ble_eq_true rfl) dX1_copy_37 ((zc_s3 hb).trans (by simp [up3])) ?_
  refine z_aload_n X (pc := 40) 0 dX1_copy_40 rfl rfl ?_
  refine z_aload_n X (pc := 41) 1 dX1_copy_41 rfl rfl ?_
  refine z_get X (pc := 42) 5 (by rw [zkd_st hb2 (by decide)]; decide) (zc_s3 hb2) rfl inlX1 (by decide) gw_179 rfl rfl dX1_copy_42 ?_
  refine z_top (y := (M b2 3 5)) (by simp [up3, hne]) ?_
  refine z_put X (pc := 45) 5 (by rw [zkd_st hb (by decide)]; decide) (zc_s3 hb) rfl inlX1 tyX1 tyX1_ok nmX1 (by decide) gw_179 rfl rfl (ty := .int) (by decide +kernel) rfl rfl (Nat.le_of_ble_eq_true rfl) dX1_copy_45 ((zc_s3 hb).trans (by simp [up3])) ?_
  refine z_aload_n X (pc := 48) 0 dX1_copy_48 rfl rfl ?_
  refine z_aload_n X (pc := 49) 1 dX1_copy_49 rfl rfl ?_
  refine z_get X (pc := 50) 6 (by rw [zkd_st hb2 (by decide)]; decide) (zc_s3 hb2) rfl inlX1 (by decide) gw_180 rfl rfl dX1_copy_50 ?_
  refine z_top (y := (M b2 3 6)) (by simp [up3, hne]) ?_
  refine z_put X (pc := 53) 6 (by rw [zkd_st hb (by decide)]; decide) (zc_s3 hb) rfl inlX1 tyX1 tyX1_ok nmX1 (by decide) gw_180 rfl rfl (ty := .int) (by decide +kernel) rfl rfl (Nat.le_of_ble_eq_true rfl) dX1_copy_53 ((zc_s3 hb).trans (by simp [up3])) ?_
  exact z_vret X Y dX1_copy_56 ⟨rfl, cp_books hne⟩

def rm_X9_copy : Room := { frames := 3, cells := 0, slots := 0, locals := 103 }
theorem kv_X9_copy : KV yX9_copy RX9 cX9_copy 2 none 1 := ⟨⟨gw_146, gw_147, gw_12, gw_148⟩, by decide +kernel⟩
set_option maxRecDepth 100000 in
set_option maxHeartbeats 4000000 in
theorem c_X9_copy (E : ZE) (M : Mem) (b b2 : Nat) (hb : b ≤ 10) (hb2 : b2 ≤ 10) (hne : b2 ≠ b) : Mt E yX9_copy cX9_copy 2 none rm_X9_copy [.ref (za E b 0), .ref (za E b2 0)] M (RV (fun M1 => gX (M1 b) = gX (M b2) ∧ ∀ b', b' ≠ b → M1 b' = M b')) := by
  refine z_met (own := RX9) (lv := [(0, .ref (za E b 0)), (1, .ref (za E b2 0))]) (by decide) rfl (Nat.le_of_ble_eq_true rfl) rfl (fun gg X Y => ?_)
  refine z_aload_n X (pc := 0) 0 dX9_copy_0 rfl rfl ?_
  refine z_get X (pc := 1) 0 (by rw [zkd_st hb (by decide)]; decide) (zc_s0 hb) rfl inlX9 (by decide) gw_42 rfl rfl dX9_copy_1 ?_
  refine z_aload_n X (pc := 4) 1 dX9_copy_4 rfl rfl ?_
  refine z_get X (pc := 5) 0 (by rw [zkd_st hb2 (by decide)]; decide) (zc_s0 hb2) rfl inlX9 (by decide) gw_42 rfl rfl dX9_copy_5 ?_
  refine z_callV X (pc := 8) (rest := []) kv_X2_copy (c_X2_copy E M b b2 hb hb2 hne) (by rw [zkd_st hb (by decide)]; decide) (zc_s1 hb) rfl rfl gw_149 (by decide) rfl rfl (Nat.le_of_ble_eq_true rfl) dX9_copy_8 (zk_rv (fun M_1 h_2 => ?_))
  have hC_3 := CpP.trans (CpP.rf M b b2) hne h_2
  refine z_aload_n X (pc := 11) 0 dX9_copy_11 rfl rfl ?_
  refine z_get X (pc := 12) 1 (by rw [zkd_st hb (by decide)]; decide) (zc_s0 hb) rfl inlX9 (by decide) gw_46 rfl rfl dX9_copy_12 ?_
  refine z_aload_n X (pc := 15) 1 dX9_copy_15 rfl rfl ?_
  refine z_get X (pc := 16) 1 (by rw [zkd_st hb2 (by decide)]; decide) (zc_s0 hb2) rfl inlX9 (by decide) gw_46 rfl rfl dX9_copy_16 ?_
  refine z_callV X (pc := 19) (rest := []) kv_X4_copy (c_X4_copy E M_1 b b2 hb hb2 hne) (by rw [zkd_st hb (by decide)]; decide) (zc_s2 hb) rfl rfl gw_165 (by decide) rfl rfl (Nat.le_of_ble_eq_true rfl) dX9_copy_19 (zk_rv (fun M_4 h_5 => ?_))
  have hC_6 := CpP.trans hC_3 hne h_5
  refine z_aload_n X (pc := 22) 0 dX9_copy_22 rfl rfl ?_
  refine z_get X (pc := 23) 2 (by rw [zkd_st hb (by decide)]; decide) (zc_s0 hb) rfl inlX9 (by decide) gw_50 rfl rfl dX9_copy_23 ?_
  refine z_aload_n X (pc := 26) 1 dX9_copy_26 rfl rfl ?_
  refine z_get X (pc := 27) 2 (by rw [zkd_st hb2 (by decide)]; decide) (zc_s0 hb2) rfl inlX9 (by decide) gw_50 rfl rfl dX9_copy_27 ?_
  refine z_callV X (pc := 30) (rest := []) kv_X1_copy (c_X1_copy E M_4 b b2 hb hb2 hne) (by rw [zkd_st hb (by decide)]; decide) (zc_s3 hb) rfl rfl gw_171 (by decide) rfl rfl (Nat.le_of_ble_eq_true rfl) dX9_copy_30 (zk_rv (fun M_7 h_8 => ?_))
  have hC_9 := CpP.trans hC_6 hne h_8
  exact z_vret X Y dX9_copy_33 ⟨rfl, CpP.all hC_9 (by decide) (by decide) (by decide) (by decide), (hC_9).1⟩

def rm_X9_fitOf : Room := { frames := 1, cells := 0, slots := 0, locals := 21 }
theorem kv_X9_fitOf : KV yX9_fitOf RX9 cX9_fitOf 5 (some .int) 2 := ⟨⟨gw_268, gw_269, gw_12, gw_270⟩, by decide +kernel⟩
set_option maxRecDepth 100000 in
set_option maxHeartbeats 4000000 in
theorem c_X9_fitOf (E : ZE) (M : Mem) (g : LG) (hg : gX (M 9) = g) (c m : Nat) (hc : c < 10) (hm : m < 10) : Mt E yX9_fitOf cX9_fitOf 5 (some .int) rm_X9_fitOf [.ref (za E 9 0), .int (nI c), .int (nI m)] M (PI (fit g c m) M) := by
  refine z_met (own := RX9) (lv := [(0, .ref (za E 9 0)), (1, .int (nI c)), (2, .int (nI m))]) (by decide) rfl (Nat.le_of_ble_eq_true rfl) rfl (fun gg X Y => ?_)
  refine z_aload_n X (pc := 0) 0 dX9_fitOf_0 rfl rfl ?_
  refine z_get X (pc := 1) 0 zk_9_0 (zc_9_0 E _) rfl inlX9 (by decide) gw_42 rfl rfl dX9_fitOf_1 ?_
  refine z_get X (pc := 4) 2 zk_9_1 (zc_9_1 E _) rfl inlX2 (by decide) gw_271 rfl rfl dX9_fitOf_4 ?_
  refine z_iload_n X (pc := 7) 1 dX9_fitOf_7 rfl rfl ?_
  refine z_callV X (pc := 8) (rest := []) kv_X7_at (c_X7_at E M 9 6 c (by decide) (by decide) (show c < 10 by omega)) zk_9_6 (zc_9_6 E _) rfl rfl gw_250 (by decide) rfl rfl (Nat.le_of_ble_eq_true rfl) dX9_fitOf_8 (zk_i ?_)
  refine z_top (y := (g 1 c)) (S9.row 1 (S9.rf hg) rfl (by decide) (show c < 10 by omega)) ?_
  refine z_aload_n X (pc := 11) 0 dX9_fitOf_11 rfl rfl ?_
  refine z_get X (pc := 12) 1 zk_9_0 (zc_9_0 E _) rfl inlX9 (by decide) gw_46 rfl rfl dX9_fitOf_12 ?_
  refine z_get X (pc := 15) 2 zk_9_2 (zc_9_2 E _) rfl inlX4 (by decide) gw_272 rfl rfl dX9_fitOf_15 ?_
  refine z_iload_n X (pc := 18) 2 dX9_fitOf_18 rfl rfl ?_
  refine z_callV X (pc := 19) (rest := [.int (g 1 c)]) kv_X7_at (c_X7_at E M 9 20 m (by decide) (by decide) (show m < 10 by omega)) zk_9_20 (zc_9_20 E _) rfl rfl gw_250 (by decide) rfl rfl (Nat.le_of_ble_eq_true rfl) dX9_fitOf_19 (zk_i ?_)
  refine z_top (y := (g 8 m)) (S9.row 8 (S9.rf hg) rfl (by decide) (show m < 10 by omega)) ?_
  refine z_isub X (pc := 22) dX9_fitOf_22 ?_
  refine z_abs X (pc := 23) gw_273 gw_274 gw_70 gw_275 (by decide) (Nat.le_of_ble_eq_true rfl) dX9_fitOf_23 ?_
  refine z_istore_n X (pc := 26) (lv1 := [(3, .int (if 0 ≤ ((g 1 c) - (g 8 m)) then ((g 1 c) - (g 8 m)) else 0 - ((g 1 c) - (g 8 m)))), (0, .ref (za E 9 0)), (1, .int (nI c)), (2, .int (nI m))]) dX9_fitOf_26 rfl (by decide) rfl ?_
  refine z_aload_n X (pc := 27) 1 dX9_fitOf_27 rfl rfl ?_
  refine z_get X (pc := 28) 0 zk_9_0 (zc_9_0 E _) rfl inlX9 (by decide) gw_42 rfl rfl dX9_fitOf_28 ?_
  refine z_get X (pc := 31) 1 zk_9_1 (zc_9_1 E _) rfl inlX2 (by decide) gw_276 rfl rfl dX9_fitOf_31 ?_
  refine z_iload_n X (pc := 34) 2 dX9_fitOf_34 rfl rfl ?_
  refine z_callV X (pc := 35) (rest := []) kv_X7_at (c_X7_at E M 9 4 c (by decide) (by decide) (show c < 10 by omega)) zk_9_4 (zc_9_4 E _) rfl rfl gw_250 (by decide) rfl rfl (Nat.le_of_ble_eq_true rfl) dX9_fitOf_35 (zk_i ?_)
  refine z_top (y := (g 0 c)) (S9.row 0 (S9.rf hg) rfl (by decide) (show c < 10 by omega)) ?_
  refine z_aload_n X (pc := 38) 1 dX9_fitOf_38 rfl rfl ?_
  refine z_get X (pc := 39) 1 zk_9_0 (zc_9_0 E _) rfl inlX9 (by decide) gw_46 rfl rfl dX9_fitOf_39 ?_
  refine z_get X (pc := 42) 1 zk_9_2 (zc_9_2 E _) rfl inlX4 (by decide) gw_277 rfl rfl dX9_fitOf_42 ?_
  refine z_iload_n X (pc := 45) 3 dX9_fitOf_45 rfl rfl ?_
  refine z_callV X (pc := 46) (rest := [.int (g 0 c)]) kv_X7_at (c_X7_at E M 9 18 m (by decide) (by decide) (show m < 10 by omega)) zk_9_18 (zc_9_18 E _) rfl rfl gw_250 (by decide) rfl rfl (Nat.le_of_ble_eq_true rfl) dX9_fitOf_46 (zk_i ?_)
  refine z_top (y := (g 7 m)) (S9.row 7 (S9.rf hg) rfl (by decide) (show m < 10 by omega)) ?_
  refine z_icmp_ne X (pc := 49) (tgt := 56) dX9_fitOf_49 (by decide) (fun c49 => ?_) (fun c49 => ?_)
  · refine z_iconst X (pc := 56) (v := 0) dX9_fitOf_56 (by decide) ?_
    refine z_istore X (pc := 57) (lv1 := [(4, .int 0), (3, .int (if 0 ≤ ((g 1 c) - (g 8 m)) then ((g 1 c) - (g 8 m)) else 0 - ((g 1 c) - (g 8 m)))), (0, .ref (za E 9 0)), (1, .int (nI c)), (2, .int (nI m))]) dX9_fitOf_57 (by decide) rfl ?_
    refine z_bipush X (pc := 59) (v := 9) dX9_fitOf_59 (by decide) ?_
    refine z_iload_n X (pc := 61) 1 dX9_fitOf_61 rfl rfl ?_
    refine z_isub X (pc := 62) dX9_fitOf_62 ?_
    refine z_iload X (pc := 63) 0 dX9_fitOf_63 rfl ?_
    refine z_if_eq X (pc := 65) (tgt := 72) dX9_fitOf_65 (by decide) (fun c65 => ?_) (fun c65 => ?_)
    · refine z_iconst X (pc := 72) (v := 0) dX9_fitOf_72 (by decide) ?_
      refine z_iadd X (pc := 73) dX9_fitOf_73 ?_
      exact z_pret X Y dX9_fitOf_74 (by simp [fit, zabs, c49, c65]) rfl
    · exact absurd (by decide) c65
  · refine z_iconst X (pc := 52) (v := 1) dX9_fitOf_52 (by decide) ?_
    refine z_goto X (pc := 53) (tgt := 57) dX9_fitOf_53 (by decide) ?_
    refine z_istore X (pc := 57) (lv1 := [(4, .int 1), (3, .int (if 0 ≤ ((g 1 c) - (g 8 m)) then ((g 1 c) - (g 8 m)) else 0 - ((g 1 c) - (g 8 m)))), (0, .ref (za E 9 0)), (1, .int (nI c)), (2, .int (nI m))]) dX9_fitOf_57 (by decide) rfl ?_
    refine z_bipush X (pc := 59) (v := 9) dX9_fitOf_59 (by decide) ?_
    refine z_iload_n X (pc := 61) 1 dX9_fitOf_61 rfl rfl ?_
    refine z_isub X (pc := 62) dX9_fitOf_62 ?_
    refine z_iload X (pc := 63) 0 dX9_fitOf_63 rfl ?_
    refine z_if_eq X (pc := 65) (tgt := 72) dX9_fitOf_65 (by decide) (fun c65 => ?_) (fun c65 => ?_)
    · exact absurd c65 (by decide)
    · refine z_iconst X (pc := 68) (v := 4) dX9_fitOf_68 (by decide) ?_
      refine z_goto X (pc := 69) (tgt := 73) dX9_fitOf_69 (by decide) ?_
      refine z_iadd X (pc := 73) dX9_fitOf_73 ?_
      exact z_pret X Y dX9_fitOf_74 (by simp [fit, zabs, c49, c65]) rfl

def rm_X9_wants : Room := { frames := 2, cells := 0, slots := 0, locals := 45 }
theorem kv_X9_wants : KV yX9_wants RX9 cX9_wants 3 (some .boolean) 2 := ⟨⟨gw_448, gw_449, gw_12, gw_450⟩, by decide +kernel⟩
set_option maxRecDepth 100000 in
set_option maxHeartbeats 4000000 in
theorem c_X9_wants (E : ZE) (M : Mem) (g : LG) (hg : gX (M 9) = g) (c m : Nat) (hc : c < 10) (hm : m < 10) : Mt E yX9_wants cX9_wants 3 (some .boolean) rm_X9_wants [.ref (za E 9 0), .int (nI c), .int (nI m)] M (PI (zb (wants g c m)) M) := by
  refine z_met (own := RX9) (lv := [(0, .ref (za E 9 0)), (1, .int (nI c)), (2, .int (nI m))]) (by decide) rfl (Nat.le_of_ble_eq_true rfl) rfl (fun gg X Y => ?_)
  refine z_aload_n X (pc := 0) 0 dX9_wants_0 rfl rfl ?_
  refine z_iload_n X (pc := 1) 1 dX9_wants_1 rfl rfl ?_
  refine z_iload_n X (pc := 2) 2 dX9_wants_2 rfl rfl ?_
  refine z_callV X (pc := 3) (rest := []) kv_X9_fitOf (c_X9_fitOf E M g (And.left (S9.rf hg))  c m (show c < 10 by omega) (show m < 10 by omega)) zk_9_0 (zc_9_0 E _) rfl rfl gw_451 (by decide) rfl rfl (Nat.le_of_ble_eq_true rfl) dX9_wants_3 (zk_i ?_)
  refine z_bipush X (pc := 6) (v := 6) dX9_wants_6 (by decide) ?_
  refine z_icmp_lt X (pc := 8) (tgt := 15) dX9_wants_8 (by decide) (fun c8 => ?_) (fun c8 => ?_)
  · refine z_iconst X (pc := 15) (v := 0) dX9_wants_15 (by decide) ?_
    exact z_bret X Y dX9_wants_16 (by simp [wants, zb, c8]) rfl
  · refine z_iconst X (pc := 11) (v := 1) dX9_wants_11 (by decide) ?_
    refine z_goto X (pc := 12) (tgt := 16) dX9_wants_12 (by decide) ?_
    exact z_bret X Y dX9_wants_16 (by simp [wants, zb, c8]) rfl

def rm_X9_bears : Room := { frames := 2, cells := 0, slots := 0, locals := 42 }
theorem kv_X9_bears : KV yX9_bears RX9 cX9_bears 3 (some .boolean) 2 := ⟨⟨gw_298, gw_299, gw_12, gw_300⟩, by decide +kernel⟩
set_option maxRecDepth 100000 in
set_option maxHeartbeats 4000000 in
theorem c_X9_bears (E : ZE) (M : Mem) (g : LG) (hg : gX (M 9) = g) (m c : Nat) (hm : m < 10) (hc : c < 10) : Mt E yX9_bears cX9_bears 3 (some .boolean) rm_X9_bears [.ref (za E 9 0), .int (nI m), .int (nI c)] M (PI (zb (bears g m c)) M) := by
  refine z_met (own := RX9) (lv := [(0, .ref (za E 9 0)), (1, .int (nI m)), (2, .int (nI c))]) (by decide) rfl (Nat.le_of_ble_eq_true rfl) rfl (fun gg X Y => ?_)
  refine z_aload_n X (pc := 0) 0 dX9_bears_0 rfl rfl ?_
  refine z_get X (pc := 1) 0 zk_9_0 (zc_9_0 E _) rfl inlX9 (by decide) gw_42 rfl rfl dX9_bears_1 ?_
  refine z_iload_n X (pc := 4) 2 dX9_bears_4 rfl rfl ?_
  refine z_callV X (pc := 5) (rest := []) kv_X2_isFallen (c_X2_isFallen E M g (And.left (S9.rf hg))  c (show c < 10 by omega)) zk_9_1 (zc_9_1 E _) rfl rfl gw_302 (by decide) rfl rfl (Nat.le_of_ble_eq_true rfl) dX9_bears_5 (zk_i ?_)
  refine z_bif_ne X (pc := 8) (tgt := 37) dX9_bears_8 (by decide) (fun c8 => ?_) (fun c8 => ?_)
  · refine z_iconst X (pc := 37) (v := 0) dX9_bears_37 (by decide) ?_
    exact z_bret X Y dX9_bears_38 (by simp [bears, zb, c8]) rfl
  · refine z_aload_n X (pc := 11) 0 dX9_bears_11 rfl rfl ?_
    refine z_get X (pc := 12) 0 zk_9_0 (zc_9_0 E _) rfl inlX9 (by decide) gw_42 rfl rfl dX9_bears_12 ?_
    refine z_iload_n X (pc := 15) 2 dX9_bears_15 rfl rfl ?_
    refine z_callV X (pc := 16) (rest := []) kv_X2_comfort (c_X2_comfort E M g (And.left (S9.rf hg))  c (show c < 10 by omega)) zk_9_1 (zc_9_1 E _) rfl rfl gw_303 (by decide) rfl rfl (Nat.le_of_ble_eq_true rfl) dX9_bears_16 (zk_i ?_)
    refine z_aload_n X (pc := 19) 0 dX9_bears_19 rfl rfl ?_
    refine z_get X (pc := 20) 1 zk_9_0 (zc_9_0 E _) rfl inlX9 (by decide) gw_46 rfl rfl dX9_bears_20 ?_
    refine z_get X (pc := 23) 3 zk_9_2 (zc_9_2 E _) rfl inlX4 (by decide) gw_301 rfl rfl dX9_bears_23 ?_
    refine z_iload_n X (pc := 26) 1 dX9_bears_26 rfl rfl ?_
    refine z_callV X (pc := 27) (rest := [.int (comf g c)]) kv_X7_at (c_X7_at E M 9 22 m (by decide) (by decide) (show m < 10 by omega)) zk_9_22 (zc_9_22 E _) rfl rfl gw_250 (by decide) rfl rfl (Nat.le_of_ble_eq_true rfl) dX9_bears_27 (zk_i ?_)
    refine z_top (y := (g 9 m)) (S9.row 9 (S9.rf hg) rfl (by decide) (show m < 10 by omega)) ?_
    refine z_icmp_lt X (pc := 30) (tgt := 37) dX9_bears_30 (by decide) (fun c30 => ?_) (fun c30 => ?_)
    · refine z_iconst X (pc := 37) (v := 0) dX9_bears_37 (by decide) ?_
      exact z_bret X Y dX9_bears_38 (by simp [bears, zb, c8, c30]) rfl
    · refine z_iconst X (pc := 33) (v := 1) dX9_bears_33 (by decide) ?_
      refine z_goto X (pc := 34) (tgt := 38) dX9_bears_34 (by decide) ?_
      exact z_bret X Y dX9_bears_38 (by simp [bears, zb, c8, c30]) rfl

def rm_X9_isRatherHad : Room := { frames := 2, cells := 0, slots := 0, locals := 45 }
theorem kv_X9_isRatherHad : KV yX9_isRatherHad RX9 cX9_isRatherHad 5 (some .boolean) 3 := ⟨⟨gw_774, gw_775, gw_12, gw_776⟩, by decide +kernel⟩
set_option maxRecDepth 100000 in
set_option maxHeartbeats 4000000 in
theorem c_X9_isRatherHad (E : ZE) (M : Mem) (g : LG) (hg : gX (M 9) = g) (c a b : Nat) (hc : c < 10) (ha : a < 10) (hb : b < 10) : Mt E yX9_isRatherHad cX9_isRatherHad 5 (some .boolean) rm_X9_isRatherHad [.ref (za E 9 0), .int (nI c), .int (nI a), .int (nI b)] M (PI (zb (rhad g c a b)) M) := by
  refine z_met (own := RX9) (lv := [(0, .ref (za E 9 0)), (1, .int (nI c)), (2, .int (nI a)), (3, .int (nI b))]) (by decide) rfl (Nat.le_of_ble_eq_true rfl) rfl (fun gg X Y => ?_)
  refine z_aload_n X (pc := 0) 0 dX9_isRatherHad_0 rfl rfl ?_
  refine z_iload_n X (pc := 1) 1 dX9_isRatherHad_1 rfl rfl ?_
  refine z_iload_n X (pc := 2) 2 dX9_isRatherHad_2 rfl rfl ?_
  refine z_callV X (pc := 3) (rest := []) kv_X9_fitOf (c_X9_fitOf E M g (And.left (S9.rf hg))  c a (show c < 10 by omega) (show a < 10 by omega)) zk_9_0 (zc_9_0 E _) rfl rfl gw_451 (by decide) rfl rfl (Nat.le_of_ble_eq_true rfl) dX9_isRatherHad_3 (zk_i ?_)
  refine z_aload_n X (pc := 6) 0 dX9_isRatherHad_6 rfl rfl ?_
  refine z_iload_n X (pc := 7) 1 dX9_isRatherHad_7 rfl rfl ?_
  refine z_iload_n X (pc := 8) 3 dX9_isRatherHad_8 rfl rfl ?_
  refine z_callV X (pc := 9) (rest := [.int (fit g c a)]) kv_X9_fitOf (c_X9_fitOf E M g (And.left (S9.rf hg))  c b (show c < 10 by omega) (show b < 10 by omega)) zk_9_0 (zc_9_0 E _) rfl rfl gw_451 (by decide) rfl rfl (Nat.le_of_ble_eq_true rfl) dX9_isRatherHad_9 (zk_i ?_)
  refine z_isub X (pc := 12) dX9_isRatherHad_12 ?_
  refine z_istore X (pc := 13) (lv1 := [(4, .int ((fit g c a) - (fit g c b))), (0, .ref (za E 9 0)), (1, .int (nI c)), (2, .int (nI a)), (3, .int (nI b))]) dX9_isRatherHad_13 (by decide) rfl ?_
  refine z_iload X (pc := 15) 0 dX9_isRatherHad_15 rfl ?_
  refine z_if_gt X (pc := 17) (tgt := 30) dX9_isRatherHad_17 (by decide) (fun c17 => ?_) (fun c17 => ?_)
  · refine z_iconst X (pc := 30) (v := 1) dX9_isRatherHad_30 (by decide) ?_
    refine z_goto X (pc := 31) (tgt := 35) dX9_isRatherHad_31 (by decide) ?_
    exact z_bret X Y dX9_isRatherHad_35 (by simp [rhad, zmore, zb, c17]) rfl
  · refine z_iload X (pc := 20) 0 dX9_isRatherHad_20 rfl ?_
    refine z_if_ne X (pc := 22) (tgt := 34) dX9_isRatherHad_22 (by decide) (fun c22 => ?_) (fun c22 => ?_)
    · refine z_iconst X (pc := 34) (v := 0) dX9_isRatherHad_34 (by decide) ?_
      exact z_bret X Y dX9_isRatherHad_35 (by simp [rhad, zmore, zb, c17, c22]) rfl
    · refine z_iload_n X (pc := 25) 3 dX9_isRatherHad_25 rfl rfl ?_
      refine z_iload_n X (pc := 26) 4 dX9_isRatherHad_26 rfl rfl ?_
      refine z_nicmp_ge X (pc := 27) (a := a) (b := b) (tgt := 34) dX9_isRatherHad_27 (by decide) (by omega) (by omega) (fun c27 => ?_) (fun c27 => ?_)
      · refine z_iconst X (pc := 34) (v := 0) dX9_isRatherHad_34 (by decide) ?_
        exact z_bret X Y dX9_isRatherHad_35 (by simp [rhad, zmore, zb, c17, c22, c27]) rfl
      · refine z_iconst X (pc := 30) (v := 1) dX9_isRatherHad_30 (by decide) ?_
        refine z_goto X (pc := 31) (tgt := 35) dX9_isRatherHad_31 (by decide) ?_
        exact z_bret X Y dX9_isRatherHad_35 (by simp [rhad, zmore, zb, c17, c22, c27]) rfl

def rm_X9_sit : Room := { frames := 1, cells := 0, slots := 0, locals := 22 }
theorem kv_X9_sit : KV yX9_sit RX9 cX9_sit 3 none 2 := ⟨⟨gw_321, gw_322, gw_12, gw_323⟩, by decide +kernel⟩
set_option maxRecDepth 100000 in
set_option maxHeartbeats 4000000 in
theorem c_X9_sit (E : ZE) (M : Mem) (g : LG) (hg : gX (M 9) = g) (c m : Nat) (hc : c < 10) (hm : m < 10) : Mt E yX9_sit cX9_sit 3 none rm_X9_sit [.ref (za E 9 0), .int (nI c), .int (nI m)] M (RV (S9 M (sitG g c m))) := by
  refine z_met (own := RX9) (lv := [(0, .ref (za E 9 0)), (1, .int (nI c)), (2, .int (nI m))]) (by decide) rfl (Nat.le_of_ble_eq_true rfl) rfl (fun gg X Y => ?_)
  refine z_aload_n X (pc := 0) 0 dX9_sit_0 rfl rfl ?_
  refine z_get X (pc := 1) 0 zk_9_0 (zc_9_0 E _) rfl inlX9 (by decide) gw_42 rfl rfl dX9_sit_1 ?_
  refine z_get X (pc := 4) 7 zk_9_1 (zc_9_1 E _) rfl inlX2 (by decide) gw_247 rfl rfl dX9_sit_4 ?_
  refine z_iload_n X (pc := 7) 1 dX9_sit_7 rfl rfl ?_
  refine z_iload_n X (pc := 8) 2 dX9_sit_8 rfl rfl ?_
  refine z_callV X (pc := 9) (rest := []) kv_X7_put (c_X7_put E M 9 16 c (nI m) (by decide) (by decide) (show c < 10 by omega)) zk_9_16 (zc_9_16 E _) rfl rfl gw_254 (by decide) rfl rfl (Nat.le_of_ble_eq_true rfl) dX9_sit_9 (zk_v ?_)
  refine z_gen (S9.put 6 (S9.rf hg) rfl (by decide) (show c < 10 by omega)) (fun M_1 hS_2 => ?_)
  refine z_aload_n X (pc := 12) 0 dX9_sit_12 rfl rfl ?_
  refine z_get X (pc := 13) 1 zk_9_0 (zc_9_0 E _) rfl inlX9 (by decide) gw_46 rfl rfl dX9_sit_13 ?_
  refine z_get X (pc := 16) 6 zk_9_2 (zc_9_2 E _) rfl inlX4 (by decide) gw_248 rfl rfl dX9_sit_16 ?_
  refine z_iload_n X (pc := 19) 2 dX9_sit_19 rfl rfl ?_
  refine z_iload_n X (pc := 20) 1 dX9_sit_20 rfl rfl ?_
  refine z_callV X (pc := 21) (rest := []) kv_X7_put (c_X7_put E M_1 9 28 m (nI c) (by decide) (by decide) (show m < 10 by omega)) zk_9_28 (zc_9_28 E _) rfl rfl gw_254 (by decide) rfl rfl (Nat.le_of_ble_eq_true rfl) dX9_sit_21 (zk_v ?_)
  refine z_gen (S9.put 12 hS_2 rfl (by decide) (show m < 10 by omega)) (fun M_3 hS_4 => ?_)
  exact z_vret X Y dX9_sit_24 ⟨rfl, hS_4⟩

def rm_X9_leave : Room := { frames := 1, cells := 0, slots := 0, locals := 22 }
theorem kv_X9_leave : KV yX9_leave RX9 cX9_leave 2 none 1 := ⟨⟨gw_244, gw_245, gw_12, gw_246⟩, by decide +kernel⟩
set_option maxRecDepth 100000 in
set_option maxHeartbeats 4000000 in
theorem c_X9_leave (E : ZE) (M : Mem) (g : LG) (hg : gX (M 9) = g) (m : Nat) (hm : m < 10) (hp : nOr (g 12 m) 10) : Mt E yX9_leave cX9_leave 2 none rm_X9_leave [.ref (za E 9 0), .int (nI m)] M (RV (S9 M (leaveG g m))) := by
  refine z_met (own := RX9) (lv := [(0, .ref (za E 9 0)), (1, .int (nI m))]) (by decide) rfl (Nat.le_of_ble_eq_true rfl) rfl (fun gg X Y => ?_)
  refine z_aload_n X (pc := 0) 0 dX9_leave_0 rfl rfl ?_
  refine z_get X (pc := 1) 0 zk_9_0 (zc_9_0 E _) rfl inlX9 (by decide) gw_42 rfl rfl dX9_leave_1 ?_
  refine z_get X (pc := 4) 7 zk_9_1 (zc_9_1 E _) rfl inlX2 (by decide) gw_247 rfl rfl dX9_leave_4 ?_
  refine z_aload_n X (pc := 7) 0 dX9_leave_7 rfl rfl ?_
  refine z_get X (pc := 8) 1 zk_9_0 (zc_9_0 E _) rfl inlX9 (by decide) gw_46 rfl rfl dX9_leave_8 ?_
  refine z_get X (pc := 11) 6 zk_9_2 (zc_9_2 E _) rfl inlX4 (by decide) gw_248 rfl rfl dX9_leave_11 ?_
  refine z_iload_n X (pc := 14) 1 dX9_leave_14 rfl rfl ?_
  refine z_callV X (pc := 15) (rest := [.ref (za E 9 16)]) kv_X7_at (c_X7_at E M 9 28 m (by decide) (by decide) (show m < 10 by omega)) zk_9_28 (zc_9_28 E _) rfl rfl gw_250 (by decide) rfl rfl (Nat.le_of_ble_eq_true rfl) dX9_leave_15 (zk_i ?_)
  refine z_top (y := (g 12 m)) (S9.row 12 (S9.rf hg) rfl (by decide) (show m < 10 by omega)) ?_
  rcases (show nOr (g 12 m) 10 from hp) with hp18 | ⟨k18, hk18, hp18⟩
  · refine z_top (y := ((-1))) hp18 ?_
    refine z_iconst X (pc := 18) (v := (-1)) dX9_leave_18 (by decide) ?_
    refine z_callV X (pc := 19) (rest := []) kv_X7_put (c_X7_put_no E M 9 16 ((-1)) (by decide)) zk_9_16 (zc_9_16 E _) rfl rfl gw_254 (by decide) rfl rfl (Nat.le_of_ble_eq_true rfl) dX9_leave_19 (zk_v ?_)
    refine z_aload_n X (pc := 22) 0 dX9_leave_22 rfl rfl ?_
    refine z_get X (pc := 23) 1 zk_9_0 (zc_9_0 E _) rfl inlX9 (by decide) gw_46 rfl rfl dX9_leave_23 ?_
    refine z_get X (pc := 26) 6 zk_9_2 (zc_9_2 E _) rfl inlX4 (by decide) gw_248 rfl rfl dX9_leave_26 ?_
    refine z_iload_n X (pc := 29) 1 dX9_leave_29 rfl rfl ?_
    refine z_iconst X (pc := 30) (v := (-1)) dX9_leave_30 (by decide) ?_
    refine z_callV X (pc := 31) (rest := []) kv_X7_put (c_X7_put E M 9 28 m ((-1)) (by decide) (by decide) (show m < 10 by omega)) zk_9_28 (zc_9_28 E _) rfl rfl gw_254 (by decide) rfl rfl (Nat.le_of_ble_eq_true rfl) dX9_leave_31 (zk_v ?_)
    refine z_gen (S9.put 12 (S9.rf hg) rfl (by decide) (show m < 10 by omega)) (fun M_1 hS_2 => ?_)
    refine z_aload_n X (pc := 34) 0 dX9_leave_34 rfl rfl ?_
    refine z_get X (pc := 35) 1 zk_9_0 (zc_9_0 E _) rfl inlX9 (by decide) gw_46 rfl rfl dX9_leave_35 ?_
    refine z_get X (pc := 38) 5 zk_9_2 (zc_9_2 E _) rfl inlX4 (by decide) gw_249 rfl rfl dX9_leave_38 ?_
    refine z_iload_n X (pc := 41) 1 dX9_leave_41 rfl rfl ?_
    refine z_iconst X (pc := 42) (v := 0) dX9_leave_42 (by decide) ?_
    refine z_callV X (pc := 43) (rest := []) kv_X7_put (c_X7_put E M_1 9 26 m 0 (by decide) (by decide) (show m < 10 by omega)) zk_9_26 (zc_9_26 E _) rfl rfl gw_254 (by decide) rfl rfl (Nat.le_of_ble_eq_true rfl) dX9_leave_43 (zk_v ?_)
    refine z_gen (S9.put 11 hS_2 rfl (by decide) (show m < 10 by omega)) (fun M_3 hS_4 => ?_)
    exact z_vret X Y dX9_leave_46 ⟨rfl, by simpa [leaveG, unsit, hp18, nI_ne_m1 (show 0 < 2 ^ 31 by omega), nI_clamp (show 0 < 2 ^ 31 by omega)] using hS_4⟩
  · refine z_top (y := (nI k18)) hp18 ?_
    refine z_iconst X (pc := 18) (v := (-1)) dX9_leave_18 (by decide) ?_
    refine z_callV X (pc := 19) (rest := []) kv_X7_put (c_X7_put E M 9 16 k18 ((-1)) (by decide) (by decide) (show k18 < 10 by omega)) zk_9_16 (zc_9_16 E _) rfl rfl gw_254 (by decide) rfl rfl (Nat.le_of_ble_eq_true rfl) dX9_leave_19 (zk_v ?_)
    refine z_gen (S9.put 6 (S9.rf hg) rfl (by decide) (show k18 < 10 by omega)) (fun M_5 hS_6 => ?_)
    refine z_aload_n X (pc := 22) 0 dX9_leave_22 rfl rfl ?_
    refine z_get X (pc := 23) 1 zk_9_0 (zc_9_0 E _) rfl inlX9 (by decide) gw_46 rfl rfl dX9_leave_23 ?_
    refine z_get X (pc := 26) 6 zk_9_2 (zc_9_2 E _) rfl inlX4 (by decide) gw_248 rfl rfl dX9_leave_26 ?_
    refine z_iload_n X (pc := 29) 1 dX9_leave_29 rfl rfl ?_
    refine z_iconst X (pc := 30) (v := (-1)) dX9_leave_30 (by decide) ?_
    refine z_callV X (pc := 31) (rest := []) kv_X7_put (c_X7_put E M_5 9 28 m ((-1)) (by decide) (by decide) (show m < 10 by omega)) zk_9_28 (zc_9_28 E _) rfl rfl gw_254 (by decide) rfl rfl (Nat.le_of_ble_eq_true rfl) dX9_leave_31 (zk_v ?_)
    refine z_gen (S9.put 12 hS_6 rfl (by decide) (show m < 10 by omega)) (fun M_7 hS_8 => ?_)
    refine z_aload_n X (pc := 34) 0 dX9_leave_34 rfl rfl ?_
    refine z_get X (pc := 35) 1 zk_9_0 (zc_9_0 E _) rfl inlX9 (by decide) gw_46 rfl rfl dX9_leave_35 ?_
    refine z_get X (pc := 38) 5 zk_9_2 (zc_9_2 E _) rfl inlX4 (by decide) gw_249 rfl rfl dX9_leave_38 ?_
    refine z_iload_n X (pc := 41) 1 dX9_leave_41 rfl rfl ?_
    refine z_iconst X (pc := 42) (v := 0) dX9_leave_42 (by decide) ?_
    refine z_callV X (pc := 43) (rest := []) kv_X7_put (c_X7_put E M_7 9 26 m 0 (by decide) (by decide) (show m < 10 by omega)) zk_9_26 (zc_9_26 E _) rfl rfl gw_254 (by decide) rfl rfl (Nat.le_of_ble_eq_true rfl) dX9_leave_43 (zk_v ?_)
    refine z_gen (S9.put 11 hS_8 rfl (by decide) (show m < 10 by omega)) (fun M_9 hS_10 => ?_)
    exact z_vret X Y dX9_leave_46 ⟨rfl, by simpa [leaveG, unsit, hp18, nI_ne_m1 (show k18 < 2 ^ 31 by omega), nI_clamp (show k18 < 2 ^ 31 by omega)] using hS_10⟩

def rm_X9_play : Room := { frames := 2, cells := 0, slots := 0, locals := 45 }
theorem kv_X9_play : KV yX9_play RX9 cX9_play 6 (some .int) 1 := ⟨⟨gw_491, gw_492, gw_12, gw_493⟩, by decide +kernel⟩
set_option maxRecDepth 100000 in
set_option maxHeartbeats 4000000 in
theorem c_X9_play (E : ZE) (M : Mem) (g : LG) (hg : gX (M 9) = g) (c m : Nat) (hc : c < 10) (hm : m < 10) (hw : g 6 c = nI m) : Mt E yX9_play cX9_play 6 (some .int) rm_X9_play [.ref (za E 9 0), .int (nI c)] M (RI (fun v M1 => v = fit g c m ∧ S9 M (playG g c m) M1)) := by
  refine z_met (own := RX9) (lv := [(0, .ref (za E 9 0)), (1, .int (nI c))]) (by decide) rfl (Nat.le_of_ble_eq_true rfl) rfl (fun gg X Y => ?_)
  refine z_aload_n X (pc := 0) 0 dX9_play_0 rfl rfl ?_
  refine z_get X (pc := 1) 0 zk_9_0 (zc_9_0 E _) rfl inlX9 (by decide) gw_42 rfl rfl dX9_play_1 ?_
  refine z_get X (pc := 4) 7 zk_9_1 (zc_9_1 E _) rfl inlX2 (by decide) gw_247 rfl rfl dX9_play_4 ?_
  refine z_iload_n X (pc := 7) 1 dX9_play_7 rfl rfl ?_
  refine z_callV X (pc := 8) (rest := []) kv_X7_at (c_X7_at E M 9 16 c (by decide) (by decide) (show c < 10 by omega)) zk_9_16 (zc_9_16 E _) rfl rfl gw_250 (by decide) rfl rfl (Nat.le_of_ble_eq_true rfl) dX9_play_8 (zk_i ?_)
  refine z_top (y := (g 6 c)) (S9.row 6 (S9.rf hg) rfl (by decide) (show c < 10 by omega)) ?_
  refine z_top (y := (nI m)) hw ?_
  refine z_istore_n X (pc := 11) (lv1 := [(2, .int (nI m)), (0, .ref (za E 9 0)), (1, .int (nI c))]) dX9_play_11 rfl (by decide) rfl ?_
  refine z_aload_n X (pc := 12) 1 dX9_play_12 rfl rfl ?_
  refine z_iload_n X (pc := 13) 2 dX9_play_13 rfl rfl ?_
  refine z_iload_n X (pc := 14) 0 dX9_play_14 rfl rfl ?_
  refine z_callV X (pc := 15) (rest := []) kv_X9_fitOf (c_X9_fitOf E M g (And.left (S9.rf hg))  c m (show c < 10 by omega) (show m < 10 by omega)) zk_9_0 (zc_9_0 E _) rfl rfl gw_451 (by decide) rfl rfl (Nat.le_of_ble_eq_true rfl) dX9_play_15 (zk_i ?_)
  refine z_istore_n X (pc := 18) (lv1 := [(3, .int (fit g c m)), (2, .int (nI m)), (0, .ref (za E 9 0)), (1, .int (nI c))]) dX9_play_18 rfl (by decide) rfl ?_
  refine z_iload_n X (pc := 19) 0 dX9_play_19 rfl rfl ?_
  refine z_iconst X (pc := 20) (v := 3) dX9_play_20 (by decide) ?_
  refine z_idiv X (pc := 21) dX9_play_21 (by decide) ?_
  refine z_istore X (pc := 22) (lv1 := [(4, .int ((fit g c m) / 3)), (3, .int (fit g c m)), (2, .int (nI m)), (0, .ref (za E 9 0)), (1, .int (nI c))]) dX9_play_22 (by decide) rfl ?_
  refine z_iload X (pc := 24) 0 dX9_play_24 rfl ?_
  refine z_bipush X (pc := 26) (v := 99) dX9_play_26 (by decide) ?_
  refine z_aload_n X (pc := 28) 3 dX9_play_28 rfl rfl ?_
  refine z_get X (pc := 29) 1 zk_9_0 (zc_9_0 E _) rfl inlX9 (by decide) gw_46 rfl rfl dX9_play_29 ?_
  refine z_get X (pc := 32) 4 zk_9_2 (zc_9_2 E _) rfl inlX4 (by decide) gw_494 rfl rfl dX9_play_32 ?_
  refine z_iload_n X (pc := 35) 2 dX9_play_35 rfl rfl ?_
  refine z_callV X (pc := 36) (rest := [.int 99, .int ((fit g c m) / 3)]) kv_X7_at (c_X7_at E M 9 24 m (by decide) (by decide) (show m < 10 by omega)) zk_9_24 (zc_9_24 E _) rfl rfl gw_250 (by decide) rfl rfl (Nat.le_of_ble_eq_true rfl) dX9_play_36 (zk_i ?_)
  refine z_top (y := (g 10 m)) (S9.row 10 (S9.rf hg) rfl (by decide) (show m < 10 by omega)) ?_
  refine z_isub X (pc := 39) dX9_play_39 ?_
  refine z_min X (pc := 40) gw_495 gw_159 gw_70 gw_160 (by decide) (Nat.le_of_ble_eq_true rfl) dX9_play_40 ?_
  refine z_istore X (pc := 43) (lv1 := [(5, .int (if (99 - (g 10 m)) < ((fit g c m) / 3) then (99 - (g 10 m)) else ((fit g c m) / 3))), (4, .int ((fit g c m) / 3)), (3, .int (fit g c m)), (2, .int (nI m)), (0, .ref (za E 9 0)), (1, .int (nI c))]) dX9_play_43 (by decide) rfl ?_
  refine z_aload_n X (pc := 45) 4 dX9_play_45 rfl rfl ?_
  refine z_get X (pc := 46) 1 zk_9_0 (zc_9_0 E _) rfl inlX9 (by decide) gw_46 rfl rfl dX9_play_46 ?_
  refine z_get X (pc := 49) 4 zk_9_2 (zc_9_2 E _) rfl inlX4 (by decide) gw_494 rfl rfl dX9_play_49 ?_
  refine z_iload_n X (pc := 52) 3 dX9_play_52 rfl rfl ?_
  refine z_iload X (pc := 53) 0 dX9_play_53 rfl ?_
  refine z_callV X (pc := 55) (rest := []) kv_X7_more (c_X7_more E M 9 24 m (if (99 - (g 10 m)) < ((fit g c m) / 3) then (99 - (g 10 m)) else ((fit g c m) / 3)) (by decide) (by decide) (show m < 10 by omega)) zk_9_24 (zc_9_24 E _) rfl rfl gw_500 (by decide) rfl rfl (Nat.le_of_ble_eq_true rfl) dX9_play_55 (zk_v ?_)
  refine z_gen (S9.more 10 (S9.rf hg) rfl (by decide) (show m < 10 by omega)) (fun M_1 hS_2 => ?_)
  refine z_aload_n X (pc := 58) 4 dX9_play_58 rfl rfl ?_
  refine z_get X (pc := 59) 1 zk_9_0 (zc_9_0 E _) rfl inlX9 (by decide) gw_46 rfl rfl dX9_play_59 ?_
  refine z_get X (pc := 62) 7 zk_9_2 (zc_9_2 E _) rfl inlX4 (by decide) gw_496 rfl rfl dX9_play_62 ?_
  refine z_iload_n X (pc := 65) 3 dX9_play_65 rfl rfl ?_
  refine z_iconst X (pc := 66) (v := 1) dX9_play_66 (by decide) ?_
  refine z_callV X (pc := 67) (rest := []) kv_X7_more (c_X7_more E M_1 9 30 m 1 (by decide) (by decide) (show m < 10 by omega)) zk_9_30 (zc_9_30 E _) rfl rfl gw_500 (by decide) rfl rfl (Nat.le_of_ble_eq_true rfl) dX9_play_67 (zk_v ?_)
  refine z_gen (S9.more 13 hS_2 rfl (by decide) (show m < 10 by omega)) (fun M_3 hS_4 => ?_)
  refine z_aload_n X (pc := 70) 4 dX9_play_70 rfl rfl ?_
  refine z_get X (pc := 71) 2 zk_9_0 (zc_9_0 E _) rfl inlX9 (by decide) gw_50 rfl rfl dX9_play_71 ?_
  refine z_dup X (pc := 74) dX9_play_74 rfl ?_
  refine z_get X (pc := 75) 1 zk_9_3 (zc_9_3 E _) rfl inlX1 (by decide) gw_497 rfl rfl dX9_play_75 ?_
  refine z_top (y := ((gu (gu g 10 m (g 10 m + (if (99 - (g 10 m)) < ((fit g c m) / 3) then (99 - (g 10 m)) else ((fit g c m) / 3)))) 13 m ((gu g 10 m (g 10 m + (if (99 - (g 10 m)) < ((fit g c m) / 3) then (99 - (g 10 m)) else ((fit g c m) / 3)))) 13 m + 1)) 14 1)) (S9.bk hS_4 (by decide)) ?_
  refine z_iload X (pc := 78) 1 dX9_play_78 rfl ?_
  refine z_iadd X (pc := 80) dX9_play_80 ?_
  refine z_put X (pc := 81) 1 zk_9_3 (zc_9_3 E _) rfl inlX1 tyX1 tyX1_ok nmX1 (by decide) gw_497 rfl rfl (ty := .int) (by decide +kernel) rfl rfl (Nat.le_of_ble_eq_true rfl) dX9_play_81 rfl ?_
  refine z_gen (S9.pbk hS_4 (by decide)) (fun M_5 hS_6 => ?_)
  refine z_aload_n X (pc := 84) 4 dX9_play_84 rfl rfl ?_
  refine z_get X (pc := 85) 2 zk_9_0 (zc_9_0 E _) rfl inlX9 (by decide) gw_50 rfl rfl dX9_play_85 ?_
  refine z_dup X (pc := 88) dX9_play_88 rfl ?_
  refine z_get X (pc := 89) 3 zk_9_3 (zc_9_3 E _) rfl inlX1 (by decide) gw_498 rfl rfl dX9_play_89 ?_
  refine z_top (y := ((gu (gu (gu g 10 m (g 10 m + (if (99 - (g 10 m)) < ((fit g c m) / 3) then (99 - (g 10 m)) else ((fit g c m) / 3)))) 13 m ((gu g 10 m (g 10 m + (if (99 - (g 10 m)) < ((fit g c m) / 3) then (99 - (g 10 m)) else ((fit g c m) / 3)))) 13 m + 1)) 14 1 (((gu (gu g 10 m (g 10 m + (if (99 - (g 10 m)) < ((fit g c m) / 3) then (99 - (g 10 m)) else ((fit g c m) / 3)))) 13 m ((gu g 10 m (g 10 m + (if (99 - (g 10 m)) < ((fit g c m) / 3) then (99 - (g 10 m)) else ((fit g c m) / 3)))) 13 m + 1)) 14 1) + ((fit g c m) / 3))) 14 3)) (S9.bk hS_6 (by decide)) ?_
  refine z_iload X (pc := 92) 1 dX9_play_92 rfl ?_
  refine z_iload X (pc := 94) 0 dX9_play_94 rfl ?_
  refine z_isub X (pc := 96) dX9_play_96 ?_
  refine z_iadd X (pc := 97) dX9_play_97 ?_
  refine z_put X (pc := 98) 3 zk_9_3 (zc_9_3 E _) rfl inlX1 tyX1 tyX1_ok nmX1 (by decide) gw_498 rfl rfl (ty := .int) (by decide +kernel) rfl rfl (Nat.le_of_ble_eq_true rfl) dX9_play_98 rfl ?_
  refine z_gen (S9.pbk hS_6 (by decide)) (fun M_7 hS_8 => ?_)
  refine z_aload_n X (pc := 101) 4 dX9_play_101 rfl rfl ?_
  refine z_get X (pc := 102) 0 zk_9_0 (zc_9_0 E _) rfl inlX9 (by decide) gw_42 rfl rfl dX9_play_102 ?_
  refine z_get X (pc := 105) 6 zk_9_1 (zc_9_1 E _) rfl inlX2 (by decide) gw_499 rfl rfl dX9_play_105 ?_
  refine z_iload_n X (pc := 108) 5 dX9_play_108 rfl rfl ?_
  refine z_iload_n X (pc := 109) 2 dX9_play_109 rfl rfl ?_
  refine z_callV X (pc := 110) (rest := []) kv_X7_more (c_X7_more E M_7 9 14 c (fit g c m) (by decide) (by decide) (show c < 10 by omega)) zk_9_14 (zc_9_14 E _) rfl rfl gw_500 (by decide) rfl rfl (Nat.le_of_ble_eq_true rfl) dX9_play_110 (zk_v ?_)
  refine z_gen (S9.more 5 hS_8 rfl (by decide) (show c < 10 by omega)) (fun M_9 hS_10 => ?_)
  refine z_iload_n X (pc := 113) 2 dX9_play_113 rfl rfl ?_
  exact z_iret X Y dX9_play_114 ⟨_, rfl, rfl, by have h := hS_10; simp [gu] at h; simp [playG, payC, keptC]; exact h⟩

def rm_X9_wearOf : Room := { frames := 2, cells := 0, slots := 0, locals := 42 }
theorem kv_X9_wearOf : KV yX9_wearOf RX9 cX9_wearOf 3 (some .int) 2 := ⟨⟨gw_508, gw_509, gw_12, gw_510⟩, by decide +kernel⟩
set_option maxRecDepth 100000 in
set_option maxHeartbeats 4000000 in
theorem c_X9_wearOf (E : ZE) (M : Mem) (g : LG) (hg : gX (M 9) = g) (c : Nat) (w : Int32) (hc : c < 10) (hw : nOr (g 6 c) 10) : Mt E yX9_wearOf cX9_wearOf 3 (some .int) rm_X9_wearOf [.ref (za E 9 0), .int (nI c), .int w] M (PI (wearOf g c w) M) := by
  refine z_met (own := RX9) (lv := [(0, .ref (za E 9 0)), (1, .int (nI c)), (2, .int w)]) (by decide) rfl (Nat.le_of_ble_eq_true rfl) rfl (fun gg X Y => ?_)
  refine z_aload_n X (pc := 0) 0 dX9_wearOf_0 rfl rfl ?_
  refine z_get X (pc := 1) 0 zk_9_0 (zc_9_0 E _) rfl inlX9 (by decide) gw_42 rfl rfl dX9_wearOf_1 ?_
  refine z_iload_n X (pc := 4) 1 dX9_wearOf_4 rfl rfl ?_
  refine z_callV X (pc := 5) (rest := []) kv_X2_isTaken (c_X2_isTaken E M g (And.left (S9.rf hg))  c (show c < 10 by omega)) zk_9_1 (zc_9_1 E _) rfl rfl gw_511 (by decide) rfl rfl (Nat.le_of_ble_eq_true rfl) dX9_wearOf_5 (zk_i ?_)
  refine z_bif_ne X (pc := 8) (tgt := 13) dX9_wearOf_8 (by decide) (fun c8 => ?_) (fun c8 => ?_)
  · refine z_aload_n X (pc := 13) 0 dX9_wearOf_13 rfl rfl ?_
    refine z_get X (pc := 14) 1 zk_9_0 (zc_9_0 E _) rfl inlX9 (by decide) gw_46 rfl rfl dX9_wearOf_14 ?_
    refine z_get X (pc := 17) 2 zk_9_2 (zc_9_2 E _) rfl inlX4 (by decide) gw_272 rfl rfl dX9_wearOf_17 ?_
    refine z_aload_n X (pc := 20) 0 dX9_wearOf_20 rfl rfl ?_
    refine z_get X (pc := 21) 0 zk_9_0 (zc_9_0 E _) rfl inlX9 (by decide) gw_42 rfl rfl dX9_wearOf_21 ?_
    refine z_get X (pc := 24) 7 zk_9_1 (zc_9_1 E _) rfl inlX2 (by decide) gw_247 rfl rfl dX9_wearOf_24 ?_
    refine z_iload_n X (pc := 27) 1 dX9_wearOf_27 rfl rfl ?_
    refine z_callV X (pc := 28) (rest := [.ref (za E 9 20)]) kv_X7_at (c_X7_at E M 9 16 c (by decide) (by decide) (show c < 10 by omega)) zk_9_16 (zc_9_16 E _) rfl rfl gw_250 (by decide) rfl rfl (Nat.le_of_ble_eq_true rfl) dX9_wearOf_28 (zk_i ?_)
    refine z_top (y := (g 6 c)) (S9.row 6 (S9.rf hg) rfl (by decide) (show c < 10 by omega)) ?_
    rcases hw with hw | ⟨k31, hk31, hp31⟩
    · exact absurd c8 (by simp [taken, hw])
    · refine z_top (y := (nI k31)) hp31 ?_
      refine z_callV X (pc := 31) (rest := []) kv_X7_at (c_X7_at E M 9 20 k31 (by decide) (by decide) (show k31 < 10 by omega)) zk_9_20 (zc_9_20 E _) rfl rfl gw_250 (by decide) rfl rfl (Nat.le_of_ble_eq_true rfl) dX9_wearOf_31 (zk_i ?_)
      refine z_top (y := (g 8 k31)) (S9.row 8 (S9.rf hg) rfl (by decide) (show k31 < 10 by omega)) ?_
      refine z_aload_n X (pc := 34) 0 dX9_wearOf_34 rfl rfl ?_
      refine z_get X (pc := 35) 0 zk_9_0 (zc_9_0 E _) rfl inlX9 (by decide) gw_42 rfl rfl dX9_wearOf_35 ?_
      refine z_get X (pc := 38) 2 zk_9_1 (zc_9_1 E _) rfl inlX2 (by decide) gw_271 rfl rfl dX9_wearOf_38 ?_
      refine z_iload_n X (pc := 41) 1 dX9_wearOf_41 rfl rfl ?_
      refine z_callV X (pc := 42) (rest := [.int (g 8 k31)]) kv_X7_at (c_X7_at E M 9 6 c (by decide) (by decide) (show c < 10 by omega)) zk_9_6 (zc_9_6 E _) rfl rfl gw_250 (by decide) rfl rfl (Nat.le_of_ble_eq_true rfl) dX9_wearOf_42 (zk_i ?_)
      refine z_top (y := (g 1 c)) (S9.row 1 (S9.rf hg) rfl (by decide) (show c < 10 by omega)) ?_
      refine z_icmp_ge X (pc := 45) (tgt := 50) dX9_wearOf_45 (by decide) (fun c45 => ?_) (fun c45 => ?_)
      · refine z_iload_n X (pc := 50) 2 dX9_wearOf_50 rfl rfl ?_
        refine z_iconst X (pc := 51) (v := 4) dX9_wearOf_51 (by decide) ?_
        refine z_icmp_ne X (pc := 52) (tgt := 59) dX9_wearOf_52 (by decide) (fun c52 => ?_) (fun c52 => ?_)
        · refine z_iconst X (pc := 59) (v := 0) dX9_wearOf_59 (by decide) ?_
          exact z_pret X Y dX9_wearOf_60 (by simp [wearOf, who, c8, hp31, c45, c52, nI_clamp (show k31 < 2 ^ 31 by omega)]) rfl
        · refine z_iconst X (pc := 55) (v := 1) dX9_wearOf_55 (by decide) ?_
          refine z_goto X (pc := 56) (tgt := 60) dX9_wearOf_56 (by decide) ?_
          exact z_pret X Y dX9_wearOf_60 (by simp [wearOf, who, c8, hp31, c45, c52, nI_clamp (show k31 < 2 ^ 31 by omega)]) rfl
      · refine z_iload_n X (pc := 48) 2 dX9_wearOf_48 rfl rfl ?_
        exact z_pret X Y dX9_wearOf_49 (by simp [wearOf, who, c8, hp31, c45, nI_clamp (show k31 < 2 ^ 31 by omega)]) rfl
  · refine z_iconst X (pc := 11) (v := 0) dX9_wearOf_11 (by decide) ?_
    exact z_pret X Y dX9_wearOf_12 (by simp [wearOf, c8]) rfl

def rm_X9_wear : Room := { frames := 3, cells := 0, slots := 0, locals := 64 }
theorem kv_X9_wear : KV yX9_wear RX9 cX9_wear 4 none 2 := ⟨⟨gw_502, gw_503, gw_12, gw_504⟩, by decide +kernel⟩
set_option maxRecDepth 100000 in
set_option maxHeartbeats 4000000 in
theorem c_X9_wear (E : ZE) (M : Mem) (g : LG) (hg : gX (M 9) = g) (c k : Nat) (w : Int32) (hc : c < 10) (hk : k < 10) (hw : g 6 c = nI k) (hp : nOr (g 12 k) 10) : Mt E yX9_wear cX9_wear 4 none rm_X9_wear [.ref (za E 9 0), .int (nI c), .int w] M (RV (S9 M (wearG g c w))) := by
  refine z_met (own := RX9) (lv := [(0, .ref (za E 9 0)), (1, .int (nI c)), (2, .int w)]) (by decide) rfl (Nat.le_of_ble_eq_true rfl) rfl (fun gg X Y => ?_)
  refine z_aload_n X (pc := 0) 0 dX9_wear_0 rfl rfl ?_
  refine z_get X (pc := 1) 0 zk_9_0 (zc_9_0 E _) rfl inlX9 (by decide) gw_42 rfl rfl dX9_wear_1 ?_
  refine z_get X (pc := 4) 4 zk_9_1 (zc_9_1 E _) rfl inlX2 (by decide) gw_505 rfl rfl dX9_wear_4 ?_
  refine z_iload_n X (pc := 7) 1 dX9_wear_7 rfl rfl ?_
  refine z_callV X (pc := 8) (rest := []) kv_X7_at (c_X7_at E M 9 10 c (by decide) (by decide) (show c < 10 by omega)) zk_9_10 (zc_9_10 E _) rfl rfl gw_250 (by decide) rfl rfl (Nat.le_of_ble_eq_true rfl) dX9_wear_8 (zk_i ?_)
  refine z_top (y := (g 3 c)) (S9.row 3 (S9.rf hg) rfl (by decide) (show c < 10 by omega)) ?_
  refine z_aload_n X (pc := 11) 0 dX9_wear_11 rfl rfl ?_
  refine z_iload_n X (pc := 12) 1 dX9_wear_12 rfl rfl ?_
  refine z_iload_n X (pc := 13) 2 dX9_wear_13 rfl rfl ?_
  refine z_callV X (pc := 14) (rest := [.int (g 3 c)]) kv_X9_wearOf (c_X9_wearOf E M g (And.left (S9.rf hg)) c w (show c < 10 by omega) (Or.inr ⟨k, hk, hw⟩)) zk_9_0 (zc_9_0 E _) rfl rfl gw_507 (by decide) rfl rfl (Nat.le_of_ble_eq_true rfl) dX9_wear_14 (zk_i ?_)
  refine z_isub X (pc := 17) dX9_wear_17 ?_
  refine z_istore_n X (pc := 18) (lv1 := [(3, .int ((g 3 c) - (wearOf g c w))), (0, .ref (za E 9 0)), (1, .int (nI c)), (2, .int w)]) dX9_wear_18 rfl (by decide) rfl ?_
  refine z_aload_n X (pc := 19) 1 dX9_wear_19 rfl rfl ?_
  refine z_get X (pc := 20) 0 zk_9_0 (zc_9_0 E _) rfl inlX9 (by decide) gw_42 rfl rfl dX9_wear_20 ?_
  refine z_get X (pc := 23) 4 zk_9_1 (zc_9_1 E _) rfl inlX2 (by decide) gw_505 rfl rfl dX9_wear_23 ?_
  refine z_iload_n X (pc := 26) 2 dX9_wear_26 rfl rfl ?_
  refine z_iload_n X (pc := 27) 0 dX9_wear_27 rfl rfl ?_
  refine z_iconst X (pc := 28) (v := 0) dX9_wear_28 (by decide) ?_
  refine z_max X (pc := 29) gw_506 gw_69 gw_70 gw_71 (by decide) (Nat.le_of_ble_eq_true rfl) dX9_wear_29 ?_
  refine z_top (y := (standW g c w)) rfl ?_
  refine z_callV X (pc := 32) (rest := []) kv_X7_put (c_X7_put E M 9 10 c (standW g c w) (by decide) (by decide) (show c < 10 by omega)) zk_9_10 (zc_9_10 E _) rfl rfl gw_254 (by decide) rfl rfl (Nat.le_of_ble_eq_true rfl) dX9_wear_32 (zk_v ?_)
  refine z_gen (S9.put 3 (S9.rf hg) rfl (by decide) (show c < 10 by omega)) (fun M_1 hS_2 => ?_)
  refine z_aload_n X (pc := 35) 1 dX9_wear_35 rfl rfl ?_
  refine z_get X (pc := 36) 0 zk_9_0 (zc_9_0 E _) rfl inlX9 (by decide) gw_42 rfl rfl dX9_wear_36 ?_
  refine z_iload_n X (pc := 39) 2 dX9_wear_39 rfl rfl ?_
  refine z_callV X (pc := 40) (rest := []) kv_X2_isFallen (c_X2_isFallen E M_1 (gu g 3 c (standW g c w)) (And.left hS_2)  c (show c < 10 by omega)) zk_9_1 (zc_9_1 E _) rfl rfl gw_302 (by decide) rfl rfl (Nat.le_of_ble_eq_true rfl) dX9_wear_40 (zk_i ?_)
  refine z_bif_eq X (pc := 43) (tgt := 61) dX9_wear_43 (by decide) (fun c43 => ?_) (fun c43 => ?_)
  · exact z_vret X Y dX9_wear_61 ⟨rfl, by have e : ¬ standW g c w = 0 := (by simpa [fell, gu] using c43); simpa [wearG, e] using hS_2⟩
  · refine z_aload_n X (pc := 46) 1 dX9_wear_46 rfl rfl ?_
    refine z_aload_n X (pc := 47) 1 dX9_wear_47 rfl rfl ?_
    refine z_get X (pc := 48) 0 zk_9_0 (zc_9_0 E _) rfl inlX9 (by decide) gw_42 rfl rfl dX9_wear_48 ?_
    refine z_get X (pc := 51) 7 zk_9_1 (zc_9_1 E _) rfl inlX2 (by decide) gw_247 rfl rfl dX9_wear_51 ?_
    refine z_iload_n X (pc := 54) 2 dX9_wear_54 rfl rfl ?_
    refine z_callV X (pc := 55) (rest := [.ref (za E 9 0)]) kv_X7_at (c_X7_at E M_1 9 16 c (by decide) (by decide) (show c < 10 by omega)) zk_9_16 (zc_9_16 E _) rfl rfl gw_250 (by decide) rfl rfl (Nat.le_of_ble_eq_true rfl) dX9_wear_55 (zk_i ?_)
    refine z_top (y := ((gu g 3 c (standW g c w)) 6 c)) (S9.row 6 hS_2 rfl (by decide) (show c < 10 by omega)) ?_
    refine z_top (y := (nI k)) (by simp [gu, hw]) ?_
    refine z_callV X (pc := 58) (rest := []) kv_X9_leave (c_X9_leave E M_1 (gu g 3 c (standW g c w)) (And.left hS_2) k hk (by simpa [gu] using hp)) zk_9_0 (zc_9_0 E _) rfl rfl gw_512 (by decide) rfl rfl (Nat.le_of_ble_eq_true rfl) dX9_wear_58 (zk_rv (fun M_3 hS_4 => ?_))
    exact z_vret X Y dX9_wear_61 ⟨rfl, by have e : standW g c w = 0 := (by simpa [fell, gu] using c43); have h := (hS_2.trans hS_4); rw [e] at h; simpa [wearG, e, who, hw, nI_clamp (show k < 2 ^ 31 by omega)] using h⟩
