def rm_X5_isDigit : Room := { frames := 0, cells := 0, slots := 0, locals := 0 }
theorem ks_X5_isDigit : KS yX5_isDigit cX5_isDigit 1 (some .boolean) 1 := ⟨⟨gw_619, gw_26, gw_620⟩, by decide +kernel⟩
set_option maxRecDepth 100000 in
set_option maxHeartbeats 4000000 in
theorem c_X5_isDigit (E : ZE) (M : Mem) (c : Int32) : Mt E yX5_isDigit cX5_isDigit 1 (some .boolean) rm_X5_isDigit [.int c] M (PI (zb (isDig c)) M) := by
  refine z_met (own := RX5) (lv := [(0, .int c)]) (by decide) rfl (Nat.le_of_ble_eq_true rfl) rfl (fun gg X Y => ?_)
  refine z_iload_n X (pc := 0) 0 dX5_isDigit_0 rfl rfl ?_
  refine z_bipush X (pc := 1) (v := 48) dX5_isDigit_1 (by decide) ?_
  refine z_icmp_lt X (pc := 3) (tgt := 16) dX5_isDigit_3 (by decide) (fun c3 => ?_) (fun c3 => ?_)
  · refine z_iconst X (pc := 16) (v := 0) dX5_isDigit_16 (by decide) ?_
    exact z_bret X Y dX5_isDigit_17 (by simp [isDig, zb, c3]) rfl
  · refine z_iload_n X (pc := 6) 0 dX5_isDigit_6 rfl rfl ?_
    refine z_bipush X (pc := 7) (v := 57) dX5_isDigit_7 (by decide) ?_
    refine z_icmp_gt X (pc := 9) (tgt := 16) dX5_isDigit_9 (by decide) (fun c9 => ?_) (fun c9 => ?_)
    · refine z_iconst X (pc := 16) (v := 0) dX5_isDigit_16 (by decide) ?_
      exact z_bret X Y dX5_isDigit_17 (by simp [isDig, zb, c3, c9]) rfl
    · refine z_iconst X (pc := 12) (v := 1) dX5_isDigit_12 (by decide) ?_
      refine z_goto X (pc := 13) (tgt := 17) dX5_isDigit_13 (by decide) ?_
      exact z_bret X Y dX5_isDigit_17 (by simp [isDig, zb, c3, c9]) rfl

def rm_X5_readSign : Room := { frames := 2, cells := 0, slots := 0, locals := 42 }
theorem kv_X5_readSign : KV yX5_readSign RX5 cX5_readSign 2 (some .boolean) 1 := ⟨⟨gw_611, gw_612, gw_26, gw_613⟩, by decide +kernel⟩
set_option maxRecDepth 100000 in
set_option maxHeartbeats 4000000 in
theorem c_X5_readSign (E : ZE) (M : Mem) (t : List Int32) (hT : TS M 14 t) (k p : Nat) (R : Nat → Nat → Int32) (hO : OS M k p R) (hk : k < 31) (hp : p ≤ 1000) (sg : Int32) : Mt E yX5_readSign cX5_readSign 2 (some .boolean) rm_X5_readSign [.ref (za E 13 0), .int sg] M (RI (fun v M1 => (chr t p = sg ∧ v = 1 ∧ OS M1 k (p + 1) R ∧ Off 13 M M1) ∨ (¬ chr t p = sg ∧ v = 0 ∧ M1 = M))) := by
  have hl0 : t.length ≤ 60 := hT.2.1
  refine z_met (own := RX5) (lv := [(0, .ref (za E 13 0)), (1, .int sg)]) (by decide) rfl (Nat.le_of_ble_eq_true rfl) rfl (fun gg X Y => ?_)
  refine z_aload_n X (pc := 0) 0 dX5_readSign_0 rfl rfl ?_
  refine z_get X (pc := 1) 0 zk_13_0 (zc_13_0 E _) rfl inlX5 (by decide) gw_109 rfl rfl dX5_readSign_1 ?_
  refine z_aload_n X (pc := 4) 0 dX5_readSign_4 rfl rfl ?_
  refine z_get X (pc := 5) 6 zk_13_0 (zc_13_0 E _) rfl inlX5 (by decide) gw_598 rfl rfl dX5_readSign_5 ?_
  refine z_top (y := (nI p)) hO.2.1 ?_
  refine z_callV X (pc := 8) (rest := []) kv_X8_at (c_X8_at_14 E M t hT (nI p)) zk_14_0 (zc_14_0 E _) rfl rfl gw_600 (by decide) rfl rfl (Nat.le_of_ble_eq_true rfl) dX5_readSign_8 (zk_i ?_)
  refine z_top (y := (chr t p)) (atL_nI (by omega) (by omega)) ?_
  refine z_iload_n X (pc := 11) 1 dX5_readSign_11 rfl rfl ?_
  refine z_icmp_eq X (pc := 12) (tgt := 17) dX5_readSign_12 (by decide) (fun c12 => ?_) (fun c12 => ?_)
  · refine z_aload_n X (pc := 17) 0 dX5_readSign_17 rfl rfl ?_
    refine z_dup X (pc := 18) dX5_readSign_18 rfl ?_
    refine z_get X (pc := 19) 6 zk_13_0 (zc_13_0 E _) rfl inlX5 (by decide) gw_598 rfl rfl dX5_readSign_19 ?_
    refine z_top (y := (nI p)) hO.2.1 ?_
    refine z_iconst X (pc := 22) (v := 1) dX5_readSign_22 (by decide) ?_
    refine z_iadd X (pc := 23) dX5_readSign_23 ?_
    refine z_put X (pc := 24) 6 zk_13_0 (zc_13_0 E _) rfl inlX5 tyX5 tyX5_ok nmX5 (by decide) gw_598 rfl rfl (ty := .int) (by decide +kernel) rfl rfl (Nat.le_of_ble_eq_true rfl) dX5_readSign_24 rfl ?_
    refine z_gen (P := fun M1 => OS M1 k (p + 1) R ∧ Off 13 M M1) ⟨hO.place (nI_1 _), (Off.rf 13 M).up⟩ (fun M_2 hO_1 => ?_)
    refine z_iconst X (pc := 27) (v := 1) dX5_readSign_27 (by decide) ?_
    exact z_zret X Y (by decide) dX5_readSign_28 ⟨_, rfl, Or.inl ⟨c12, rfl, hO_1.1, hO_1.2⟩⟩
  · refine z_iconst X (pc := 15) (v := 0) dX5_readSign_15 (by decide) ?_
    exact z_zret X Y (by decide) dX5_readSign_16 ⟨_, rfl, Or.inr ⟨c12, rfl, rfl⟩⟩

def rm_X5_readDigit : Room := { frames := 2, cells := 0, slots := 0, locals := 42 }
theorem kv_X5_readDigit : KV yX5_readDigit RX5 cX5_readDigit 2 (some .boolean) 1 := ⟨⟨gw_615, gw_616, gw_26, gw_617⟩, by decide +kernel⟩
set_option maxRecDepth 100000 in
set_option maxHeartbeats 4000000 in
theorem c_X5_readDigit_1 (E : ZE) (M : Mem) (t : List Int32) (hT : TS M 14 t) (k p : Nat) (R : Nat → Nat → Int32) (hO : OS M k p R) (hk : k < 30) (hp : p ≤ 1000)  : Mt E yX5_readDigit cX5_readDigit 2 (some .boolean) rm_X5_readDigit [.ref (za E 13 0), .ref (za E 13 6)] M (RI (fun v M1 => (isD t p = true ∧ v = 1 ∧ OS M1 k (p + 1) (gu R 1 k (dV t p)) ∧ Off 13 M M1) ∨ (isD t p = false ∧ v = 0 ∧ M1 = M))) := by
  have hl0 : t.length ≤ 60 := hT.2.1
  refine z_met (own := RX5) (lv := [(0, .ref (za E 13 0)), (1, .ref (za E 13 6))]) (by decide) rfl (Nat.le_of_ble_eq_true rfl) rfl (fun gg X Y => ?_)
  refine z_aload_n X (pc := 0) 0 dX5_readDigit_0 rfl rfl ?_
  refine z_get X (pc := 1) 0 zk_13_0 (zc_13_0 E _) rfl inlX5 (by decide) gw_109 rfl rfl dX5_readDigit_1 ?_
  refine z_aload_n X (pc := 4) 0 dX5_readDigit_4 rfl rfl ?_
  refine z_get X (pc := 5) 6 zk_13_0 (zc_13_0 E _) rfl inlX5 (by decide) gw_598 rfl rfl dX5_readDigit_5 ?_
  refine z_top (y := (nI p)) hO.2.1 ?_
  refine z_callV X (pc := 8) (rest := []) kv_X8_at (c_X8_at_14 E M t hT (nI p)) zk_14_0 (zc_14_0 E _) rfl rfl gw_600 (by decide) rfl rfl (Nat.le_of_ble_eq_true rfl) dX5_readDigit_8 (zk_i ?_)
  refine z_top (y := (chr t p)) (atL_nI (by omega) (by omega)) ?_
  refine z_callS X (pc := 11) (rest := []) ks_X5_isDigit (c_X5_isDigit E M (chr t p)) gw_618 (by decide) rfl rfl (Nat.le_of_ble_eq_true rfl) dX5_readDigit_11 (zk_i ?_)
  refine z_bif_ne X (pc := 14) (tgt := 19) dX5_readDigit_14 (by decide) (fun c14 => ?_) (fun c14 => ?_)
  · refine z_aload_n X (pc := 19) 1 dX5_readDigit_19 rfl rfl ?_
    refine z_aload_n X (pc := 20) 0 dX5_readDigit_20 rfl rfl ?_
    refine z_get X (pc := 21) 5 zk_13_0 (zc_13_0 E _) rfl inlX5 (by decide) gw_599 rfl rfl dX5_readDigit_21 ?_
    refine z_top (y := (nI k)) hO.1 ?_
    refine z_aload_n X (pc := 24) 0 dX5_readDigit_24 rfl rfl ?_
    refine z_get X (pc := 25) 0 zk_13_0 (zc_13_0 E _) rfl inlX5 (by decide) gw_109 rfl rfl dX5_readDigit_25 ?_
    refine z_aload_n X (pc := 28) 0 dX5_readDigit_28 rfl rfl ?_
    refine z_get X (pc := 29) 6 zk_13_0 (zc_13_0 E _) rfl inlX5 (by decide) gw_598 rfl rfl dX5_readDigit_29 ?_
    refine z_top (y := (nI p)) hO.2.1 ?_
    refine z_callV X (pc := 32) (rest := [.int (nI k), .ref (za E 13 6)]) kv_X8_at (c_X8_at_14 E M t hT (nI p)) zk_14_0 (zc_14_0 E _) rfl rfl gw_600 (by decide) rfl rfl (Nat.le_of_ble_eq_true rfl) dX5_readDigit_32 (zk_i ?_)
    refine z_top (y := (chr t p)) (atL_nI (by omega) (by omega)) ?_
    refine z_bipush X (pc := 35) (v := 48) dX5_readDigit_35 (by decide) ?_
    refine z_isub X (pc := 37) dX5_readDigit_37 ?_
    refine z_callV X (pc := 38) (rest := []) kv_X7_put (c_X7_put E M 13 6 k ((chr t p) - 48) (by decide) (by decide) hk) zk_13_6 (zc_13_6 E _) rfl rfl gw_609 (by decide) rfl rfl (Nat.le_of_ble_eq_true rfl) dX5_readDigit_38 (zk_v ?_)
    refine z_gen (P := fun M1 => OS M1 k (p) (gu R 1 k ((chr t p) - 48)) ∧ Off 13 M M1) ⟨hO.put 1 rfl (by decide) hk, (Off.rf 13 M).up⟩ (fun M_2 hO_1 => ?_)
    refine z_aload_n X (pc := 41) 0 dX5_readDigit_41 rfl rfl ?_
    refine z_dup X (pc := 42) dX5_readDigit_42 rfl ?_
    refine z_get X (pc := 43) 6 zk_13_0 (zc_13_0 E _) rfl inlX5 (by decide) gw_598 rfl rfl dX5_readDigit_43 ?_
    refine z_top (y := (nI p)) hO_1.1.2.1 ?_
    refine z_iconst X (pc := 46) (v := 1) dX5_readDigit_46 (by decide) ?_
    refine z_iadd X (pc := 47) dX5_readDigit_47 ?_
    refine z_put X (pc := 48) 6 zk_13_0 (zc_13_0 E _) rfl inlX5 tyX5 tyX5_ok nmX5 (by decide) gw_598 rfl rfl (ty := .int) (by decide +kernel) rfl rfl (Nat.le_of_ble_eq_true rfl) dX5_readDigit_48 rfl ?_
    refine z_gen (P := fun M1 => OS M1 k (p + 1) (gu R 1 k ((chr t p) - 48)) ∧ Off 13 M M1) ⟨hO_1.1.place (nI_1 _), hO_1.2.up⟩ (fun M_4 hO_3 => ?_)
    refine z_iconst X (pc := 51) (v := 1) dX5_readDigit_51 (by decide) ?_
    exact z_zret X Y (by decide) dX5_readDigit_52 ⟨_, rfl, Or.inl ⟨c14, rfl, hO_3.1, hO_3.2⟩⟩
  · refine z_iconst X (pc := 17) (v := 0) dX5_readDigit_17 (by decide) ?_
    exact z_zret X Y (by decide) dX5_readDigit_18 ⟨_, rfl, Or.inr ⟨c14, rfl, rfl⟩⟩
set_option maxRecDepth 100000 in
set_option maxHeartbeats 4000000 in
theorem c_X5_readDigit_2 (E : ZE) (M : Mem) (t : List Int32) (hT : TS M 14 t) (k p : Nat) (R : Nat → Nat → Int32) (hO : OS M k p R) (hk : k < 30) (hp : p ≤ 1000)  : Mt E yX5_readDigit cX5_readDigit 2 (some .boolean) rm_X5_readDigit [.ref (za E 13 0), .ref (za E 13 8)] M (RI (fun v M1 => (isD t p = true ∧ v = 1 ∧ OS M1 k (p + 1) (gu R 2 k (dV t p)) ∧ Off 13 M M1) ∨ (isD t p = false ∧ v = 0 ∧ M1 = M))) := by
  have hl0 : t.length ≤ 60 := hT.2.1
  refine z_met (own := RX5) (lv := [(0, .ref (za E 13 0)), (1, .ref (za E 13 8))]) (by decide) rfl (Nat.le_of_ble_eq_true rfl) rfl (fun gg X Y => ?_)
  refine z_aload_n X (pc := 0) 0 dX5_readDigit_0 rfl rfl ?_
  refine z_get X (pc := 1) 0 zk_13_0 (zc_13_0 E _) rfl inlX5 (by decide) gw_109 rfl rfl dX5_readDigit_1 ?_
  refine z_aload_n X (pc := 4) 0 dX5_readDigit_4 rfl rfl ?_
  refine z_get X (pc := 5) 6 zk_13_0 (zc_13_0 E _) rfl inlX5 (by decide) gw_598 rfl rfl dX5_readDigit_5 ?_
  refine z_top (y := (nI p)) hO.2.1 ?_
  refine z_callV X (pc := 8) (rest := []) kv_X8_at (c_X8_at_14 E M t hT (nI p)) zk_14_0 (zc_14_0 E _) rfl rfl gw_600 (by decide) rfl rfl (Nat.le_of_ble_eq_true rfl) dX5_readDigit_8 (zk_i ?_)
  refine z_top (y := (chr t p)) (atL_nI (by omega) (by omega)) ?_
  refine z_callS X (pc := 11) (rest := []) ks_X5_isDigit (c_X5_isDigit E M (chr t p)) gw_618 (by decide) rfl rfl (Nat.le_of_ble_eq_true rfl) dX5_readDigit_11 (zk_i ?_)
  refine z_bif_ne X (pc := 14) (tgt := 19) dX5_readDigit_14 (by decide) (fun c14 => ?_) (fun c14 => ?_)
  · refine z_aload_n X (pc := 19) 1 dX5_readDigit_19 rfl rfl ?_
    refine z_aload_n X (pc := 20) 0 dX5_readDigit_20 rfl rfl ?_
    refine z_get X (pc := 21) 5 zk_13_0 (zc_13_0 E _) rfl inlX5 (by decide) gw_599 rfl rfl dX5_readDigit_21 ?_
    refine z_top (y := (nI k)) hO.1 ?_
    refine z_aload_n X (pc := 24) 0 dX5_readDigit_24 rfl rfl ?_
    refine z_get X (pc := 25) 0 zk_13_0 (zc_13_0 E _) rfl inlX5 (by decide) gw_109 rfl rfl dX5_readDigit_25 ?_
    refine z_aload_n X (pc := 28) 0 dX5_readDigit_28 rfl rfl ?_
    refine z_get X (pc := 29) 6 zk_13_0 (zc_13_0 E _) rfl inlX5 (by decide) gw_598 rfl rfl dX5_readDigit_29 ?_
    refine z_top (y := (nI p)) hO.2.1 ?_
    refine z_callV X (pc := 32) (rest := [.int (nI k), .ref (za E 13 8)]) kv_X8_at (c_X8_at_14 E M t hT (nI p)) zk_14_0 (zc_14_0 E _) rfl rfl gw_600 (by decide) rfl rfl (Nat.le_of_ble_eq_true rfl) dX5_readDigit_32 (zk_i ?_)
    refine z_top (y := (chr t p)) (atL_nI (by omega) (by omega)) ?_
    refine z_bipush X (pc := 35) (v := 48) dX5_readDigit_35 (by decide) ?_
    refine z_isub X (pc := 37) dX5_readDigit_37 ?_
    refine z_callV X (pc := 38) (rest := []) kv_X7_put (c_X7_put E M 13 8 k ((chr t p) - 48) (by decide) (by decide) hk) zk_13_8 (zc_13_8 E _) rfl rfl gw_609 (by decide) rfl rfl (Nat.le_of_ble_eq_true rfl) dX5_readDigit_38 (zk_v ?_)
    refine z_gen (P := fun M1 => OS M1 k (p) (gu R 2 k ((chr t p) - 48)) ∧ Off 13 M M1) ⟨hO.put 2 rfl (by decide) hk, (Off.rf 13 M).up⟩ (fun M_2 hO_1 => ?_)
    refine z_aload_n X (pc := 41) 0 dX5_readDigit_41 rfl rfl ?_
    refine z_dup X (pc := 42) dX5_readDigit_42 rfl ?_
    refine z_get X (pc := 43) 6 zk_13_0 (zc_13_0 E _) rfl inlX5 (by decide) gw_598 rfl rfl dX5_readDigit_43 ?_
    refine z_top (y := (nI p)) hO_1.1.2.1 ?_
    refine z_iconst X (pc := 46) (v := 1) dX5_readDigit_46 (by decide) ?_
    refine z_iadd X (pc := 47) dX5_readDigit_47 ?_
    refine z_put X (pc := 48) 6 zk_13_0 (zc_13_0 E _) rfl inlX5 tyX5 tyX5_ok nmX5 (by decide) gw_598 rfl rfl (ty := .int) (by decide +kernel) rfl rfl (Nat.le_of_ble_eq_true rfl) dX5_readDigit_48 rfl ?_
    refine z_gen (P := fun M1 => OS M1 k (p + 1) (gu R 2 k ((chr t p) - 48)) ∧ Off 13 M M1) ⟨hO_1.1.place (nI_1 _), hO_1.2.up⟩ (fun M_4 hO_3 => ?_)
    refine z_iconst X (pc := 51) (v := 1) dX5_readDigit_51 (by decide) ?_
    exact z_zret X Y (by decide) dX5_readDigit_52 ⟨_, rfl, Or.inl ⟨c14, rfl, hO_3.1, hO_3.2⟩⟩
  · refine z_iconst X (pc := 17) (v := 0) dX5_readDigit_17 (by decide) ?_
    exact z_zret X Y (by decide) dX5_readDigit_18 ⟨_, rfl, Or.inr ⟨c14, rfl, rfl⟩⟩
set_option maxRecDepth 100000 in
set_option maxHeartbeats 4000000 in
theorem c_X5_readDigit_3 (E : ZE) (M : Mem) (t : List Int32) (hT : TS M 14 t) (k p : Nat) (R : Nat → Nat → Int32) (hO : OS M k p R) (hk : k < 30) (hp : p ≤ 1000)  : Mt E yX5_readDigit cX5_readDigit 2 (some .boolean) rm_X5_readDigit [.ref (za E 13 0), .ref (za E 13 10)] M (RI (fun v M1 => (isD t p = true ∧ v = 1 ∧ OS M1 k (p + 1) (gu R 3 k (dV t p)) ∧ Off 13 M M1) ∨ (isD t p = false ∧ v = 0 ∧ M1 = M))) := by
  have hl0 : t.length ≤ 60 := hT.2.1
  refine z_met (own := RX5) (lv := [(0, .ref (za E 13 0)), (1, .ref (za E 13 10))]) (by decide) rfl (Nat.le_of_ble_eq_true rfl) rfl (fun gg X Y => ?_)
  refine z_aload_n X (pc := 0) 0 dX5_readDigit_0 rfl rfl ?_
  refine z_get X (pc := 1) 0 zk_13_0 (zc_13_0 E _) rfl inlX5 (by decide) gw_109 rfl rfl dX5_readDigit_1 ?_
  refine z_aload_n X (pc := 4) 0 dX5_readDigit_4 rfl rfl ?_
  refine z_get X (pc := 5) 6 zk_13_0 (zc_13_0 E _) rfl inlX5 (by decide) gw_598 rfl rfl dX5_readDigit_5 ?_
  refine z_top (y := (nI p)) hO.2.1 ?_
  refine z_callV X (pc := 8) (rest := []) kv_X8_at (c_X8_at_14 E M t hT (nI p)) zk_14_0 (zc_14_0 E _) rfl rfl gw_600 (by decide) rfl rfl (Nat.le_of_ble_eq_true rfl) dX5_readDigit_8 (zk_i ?_)
  refine z_top (y := (chr t p)) (atL_nI (by omega) (by omega)) ?_
  refine z_callS X (pc := 11) (rest := []) ks_X5_isDigit (c_X5_isDigit E M (chr t p)) gw_618 (by decide) rfl rfl (Nat.le_of_ble_eq_true rfl) dX5_readDigit_11 (zk_i ?_)
  refine z_bif_ne X (pc := 14) (tgt := 19) dX5_readDigit_14 (by decide) (fun c14 => ?_) (fun c14 => ?_)
  · refine z_aload_n X (pc := 19) 1 dX5_readDigit_19 rfl rfl ?_
    refine z_aload_n X (pc := 20) 0 dX5_readDigit_20 rfl rfl ?_
    refine z_get X (pc := 21) 5 zk_13_0 (zc_13_0 E _) rfl inlX5 (by decide) gw_599 rfl rfl dX5_readDigit_21 ?_
    refine z_top (y := (nI k)) hO.1 ?_
    refine z_aload_n X (pc := 24) 0 dX5_readDigit_24 rfl rfl ?_
    refine z_get X (pc := 25) 0 zk_13_0 (zc_13_0 E _) rfl inlX5 (by decide) gw_109 rfl rfl dX5_readDigit_25 ?_
    refine z_aload_n X (pc := 28) 0 dX5_readDigit_28 rfl rfl ?_
    refine z_get X (pc := 29) 6 zk_13_0 (zc_13_0 E _) rfl inlX5 (by decide) gw_598 rfl rfl dX5_readDigit_29 ?_
    refine z_top (y := (nI p)) hO.2.1 ?_
    refine z_callV X (pc := 32) (rest := [.int (nI k), .ref (za E 13 10)]) kv_X8_at (c_X8_at_14 E M t hT (nI p)) zk_14_0 (zc_14_0 E _) rfl rfl gw_600 (by decide) rfl rfl (Nat.le_of_ble_eq_true rfl) dX5_readDigit_32 (zk_i ?_)
    refine z_top (y := (chr t p)) (atL_nI (by omega) (by omega)) ?_
    refine z_bipush X (pc := 35) (v := 48) dX5_readDigit_35 (by decide) ?_
    refine z_isub X (pc := 37) dX5_readDigit_37 ?_
    refine z_callV X (pc := 38) (rest := []) kv_X7_put (c_X7_put E M 13 10 k ((chr t p) - 48) (by decide) (by decide) hk) zk_13_10 (zc_13_10 E _) rfl rfl gw_609 (by decide) rfl rfl (Nat.le_of_ble_eq_true rfl) dX5_readDigit_38 (zk_v ?_)
    refine z_gen (P := fun M1 => OS M1 k (p) (gu R 3 k ((chr t p) - 48)) ∧ Off 13 M M1) ⟨hO.put 3 rfl (by decide) hk, (Off.rf 13 M).up⟩ (fun M_2 hO_1 => ?_)
    refine z_aload_n X (pc := 41) 0 dX5_readDigit_41 rfl rfl ?_
    refine z_dup X (pc := 42) dX5_readDigit_42 rfl ?_
    refine z_get X (pc := 43) 6 zk_13_0 (zc_13_0 E _) rfl inlX5 (by decide) gw_598 rfl rfl dX5_readDigit_43 ?_
    refine z_top (y := (nI p)) hO_1.1.2.1 ?_
    refine z_iconst X (pc := 46) (v := 1) dX5_readDigit_46 (by decide) ?_
    refine z_iadd X (pc := 47) dX5_readDigit_47 ?_
    refine z_put X (pc := 48) 6 zk_13_0 (zc_13_0 E _) rfl inlX5 tyX5 tyX5_ok nmX5 (by decide) gw_598 rfl rfl (ty := .int) (by decide +kernel) rfl rfl (Nat.le_of_ble_eq_true rfl) dX5_readDigit_48 rfl ?_
    refine z_gen (P := fun M1 => OS M1 k (p + 1) (gu R 3 k ((chr t p) - 48)) ∧ Off 13 M M1) ⟨hO_1.1.place (nI_1 _), hO_1.2.up⟩ (fun M_4 hO_3 => ?_)
    refine z_iconst X (pc := 51) (v := 1) dX5_readDigit_51 (by decide) ?_
    exact z_zret X Y (by decide) dX5_readDigit_52 ⟨_, rfl, Or.inl ⟨c14, rfl, hO_3.1, hO_3.2⟩⟩
  · refine z_iconst X (pc := 17) (v := 0) dX5_readDigit_17 (by decide) ?_
    exact z_zret X Y (by decide) dX5_readDigit_18 ⟨_, rfl, Or.inr ⟨c14, rfl, rfl⟩⟩

def rm_X5_readCoins : Room := { frames := 3, cells := 0, slots := 0, locals := 63 }
theorem kv_X5_readCoins : KV yX5_readCoins RX5 cX5_readCoins 1 (some .boolean) 0 := ⟨⟨gw_622, gw_623, gw_26, gw_624⟩, by decide +kernel⟩
set_option maxRecDepth 100000 in
set_option maxHeartbeats 4000000 in
theorem c_X5_readCoins (E : ZE) (M : Mem) (t : List Int32) (hT : TS M 14 t) (k p : Nat) (R : Nat → Nat → Int32) (hO : OS M k p R) (hk : k < 30) (hp : p ≤ 1000)  : Mt E yX5_readCoins cX5_readCoins 1 (some .boolean) rm_X5_readCoins [.ref (za E 13 0)] M (RI (fun v M1 => (isD t p = true ∧ isD t (p + 1) = true ∧ v = 1 ∧ OS M1 k (p + 2) (gu R 2 k (10 * dV t p + chr t (p + 1) - 48)) ∧ Off 13 M M1) ∨ (isD t p = true ∧ isD t (p + 1) = false ∧ v = 1 ∧ OS M1 k (p + 1) (gu R 2 k (dV t p)) ∧ Off 13 M M1) ∨ (isD t p = false ∧ v = 0 ∧ M1 = M))) := by
  have hl0 : t.length ≤ 60 := hT.2.1
  refine z_met (own := RX5) (lv := [(0, .ref (za E 13 0))]) (by decide) rfl (Nat.le_of_ble_eq_true rfl) rfl (fun gg X Y => ?_)
  refine z_aload_n X (pc := 0) 0 dX5_readCoins_0 rfl rfl ?_
  refine z_aload_n X (pc := 1) 0 dX5_readCoins_1 rfl rfl ?_
  refine z_get X (pc := 2) 3 zk_13_0 (zc_13_0 E _) rfl inlX5 (by decide) gw_113 rfl rfl dX5_readCoins_2 ?_
  refine z_callV X (pc := 5) (rest := []) kv_X5_readDigit (c_X5_readDigit_2 E M t hT k p R hO hk (by omega)) zk_13_0 (zc_13_0 E _) rfl rfl gw_614 (by decide) rfl rfl (Nat.le_of_ble_eq_true rfl) dX5_readCoins_5 (zk_ri (fun v_3 M_1 h_2 => ?_))
  rcases h_2 with ⟨hc_4, rfl, hO_5, hF_6⟩ | ⟨hc_4, rfl, rfl⟩
  · replace hO_5 : OS M_1 k (p + 1) (gu R 2 k (dV t (p))) := hO_5
    refine z_if_ne X (pc := 8) (tgt := 13) dX5_readCoins_8 (by decide) (fun c8 => ?_) (fun c8 => ?_)
    · refine z_aload_n X (pc := 13) 0 dX5_readCoins_13 rfl rfl ?_
      refine z_get X (pc := 14) 0 zk_13_0 (zc_13_0 E _) rfl inlX5 (by decide) gw_109 rfl rfl dX5_readCoins_14 ?_
      refine z_aload_n X (pc := 17) 0 dX5_readCoins_17 rfl rfl ?_
      refine z_get X (pc := 18) 6 zk_13_0 (zc_13_0 E _) rfl inlX5 (by decide) gw_598 rfl rfl dX5_readCoins_18 ?_
      refine z_top (y := (nI (p + 1))) hO_5.2.1 ?_
      refine z_callV X (pc := 21) (rest := []) kv_X8_at (c_X8_at_14 E M_1 t (hT.off ((Off.rf 13 M).tr hF_6) (by decide)) (nI (p + 1))) zk_14_0 (zc_14_0 E _) rfl rfl gw_600 (by decide) rfl rfl (Nat.le_of_ble_eq_true rfl) dX5_readCoins_21 (zk_i ?_)
      refine z_top (y := (chr t (p + 1))) (atL_nI (by omega) (by omega)) ?_
      refine z_callS X (pc := 24) (rest := []) ks_X5_isDigit (c_X5_isDigit E M_1 (chr t (p + 1))) gw_618 (by decide) rfl rfl (Nat.le_of_ble_eq_true rfl) dX5_readCoins_24 (zk_i ?_)
      refine z_bif_eq X (pc := 27) (tgt := 80) dX5_readCoins_27 (by decide) (fun c27 => ?_) (fun c27 => ?_)
      · refine z_iconst X (pc := 80) (v := 1) dX5_readCoins_80 (by decide) ?_
        exact z_zret X Y (by decide) dX5_readCoins_81 ⟨_, rfl, Or.inr (Or.inl ⟨hc_4, c27, rfl, hO_5, ((Off.rf 13 M).tr hF_6)⟩)⟩
      · refine z_aload_n X (pc := 30) 0 dX5_readCoins_30 rfl rfl ?_
        refine z_get X (pc := 31) 3 zk_13_0 (zc_13_0 E _) rfl inlX5 (by decide) gw_113 rfl rfl dX5_readCoins_31 ?_
        refine z_aload_n X (pc := 34) 0 dX5_readCoins_34 rfl rfl ?_
        refine z_get X (pc := 35) 5 zk_13_0 (zc_13_0 E _) rfl inlX5 (by decide) gw_599 rfl rfl dX5_readCoins_35 ?_
        refine z_top (y := (nI k)) hO_5.1 ?_
        refine z_bipush X (pc := 38) (v := 10) dX5_readCoins_38 (by decide) ?_
        refine z_aload_n X (pc := 40) 0 dX5_readCoins_40 rfl rfl ?_
        refine z_get X (pc := 41) 3 zk_13_0 (zc_13_0 E _) rfl inlX5 (by decide) gw_113 rfl rfl dX5_readCoins_41 ?_
        refine z_aload_n X (pc := 44) 0 dX5_readCoins_44 rfl rfl ?_
        refine z_get X (pc := 45) 5 zk_13_0 (zc_13_0 E _) rfl inlX5 (by decide) gw_599 rfl rfl dX5_readCoins_45 ?_
        refine z_top (y := (nI k)) hO_5.1 ?_
        refine z_callV X (pc := 48) (rest := [.int 10, .int (nI k), .ref (za E 13 8)]) kv_X7_at (c_X7_at E M_1 13 8 k (by decide) (by decide) hk) zk_13_8 (zc_13_8 E _) rfl rfl gw_625 (by decide) rfl rfl (Nat.le_of_ble_eq_true rfl) dX5_readCoins_48 (zk_i ?_)
        refine z_top (y := (dV t p)) ((hO_5.at 2 rfl (by decide) hk).trans gu_same) ?_
        refine z_imul X (pc := 51) dX5_readCoins_51 ?_
        refine z_aload_n X (pc := 52) 0 dX5_readCoins_52 rfl rfl ?_
        refine z_get X (pc := 53) 0 zk_13_0 (zc_13_0 E _) rfl inlX5 (by decide) gw_109 rfl rfl dX5_readCoins_53 ?_
        refine z_aload_n X (pc := 56) 0 dX5_readCoins_56 rfl rfl ?_
        refine z_get X (pc := 57) 6 zk_13_0 (zc_13_0 E _) rfl inlX5 (by decide) gw_598 rfl rfl dX5_readCoins_57 ?_
        refine z_top (y := (nI (p + 1))) hO_5.2.1 ?_
        refine z_callV X (pc := 60) (rest := [.int (10 * (dV t p)), .int (nI k), .ref (za E 13 8)]) kv_X8_at (c_X8_at_14 E M_1 t (hT.off ((Off.rf 13 M).tr hF_6) (by decide)) (nI (p + 1))) zk_14_0 (zc_14_0 E _) rfl rfl gw_600 (by decide) rfl rfl (Nat.le_of_ble_eq_true rfl) dX5_readCoins_60 (zk_i ?_)
        refine z_top (y := (chr t (p + 1))) (atL_nI (by omega) (by omega)) ?_
        refine z_iadd X (pc := 63) dX5_readCoins_63 ?_
        refine z_bipush X (pc := 64) (v := 48) dX5_readCoins_64 (by decide) ?_
        refine z_isub X (pc := 66) dX5_readCoins_66 ?_
        refine z_callV X (pc := 67) (rest := []) kv_X7_put (c_X7_put E M_1 13 8 k (((10 * (dV t p)) + (chr t (p + 1))) - 48) (by decide) (by decide) hk) zk_13_8 (zc_13_8 E _) rfl rfl gw_609 (by decide) rfl rfl (Nat.le_of_ble_eq_true rfl) dX5_readCoins_67 (zk_v ?_)
        refine z_gen (P := fun M1 => OS M1 k (p + 1) (gu R 2 k (((10 * (dV t p)) + (chr t (p + 1))) - 48)) ∧ Off 13 M M1) ⟨by have h := hO_5.put (v := (((10 * (dV t p)) + (chr t (p + 1))) - 48)) 2 rfl (by decide) hk; rw [gu_gu] at h; exact h, ((Off.rf 13 M).tr hF_6).up⟩ (fun M_8 hO_7 => ?_)
        refine z_aload_n X (pc := 70) 0 dX5_readCoins_70 rfl rfl ?_
        refine z_dup X (pc := 71) dX5_readCoins_71 rfl ?_
        refine z_get X (pc := 72) 6 zk_13_0 (zc_13_0 E _) rfl inlX5 (by decide) gw_598 rfl rfl dX5_readCoins_72 ?_
        refine z_top (y := (nI (p + 1))) hO_7.1.2.1 ?_
        refine z_iconst X (pc := 75) (v := 1) dX5_readCoins_75 (by decide) ?_
        refine z_iadd X (pc := 76) dX5_readCoins_76 ?_
        refine z_put X (pc := 77) 6 zk_13_0 (zc_13_0 E _) rfl inlX5 tyX5 tyX5_ok nmX5 (by decide) gw_598 rfl rfl (ty := .int) (by decide +kernel) rfl rfl (Nat.le_of_ble_eq_true rfl) dX5_readCoins_77 rfl ?_
        refine z_gen (P := fun M1 => OS M1 k (p + 2) (gu R 2 k (((10 * (dV t p)) + (chr t (p + 1))) - 48)) ∧ Off 13 M M1) ⟨hO_7.1.place (nI_1 _), hO_7.2.up⟩ (fun M_10 hO_9 => ?_)
        refine z_iconst X (pc := 80) (v := 1) dX5_readCoins_80 (by decide) ?_
        exact z_zret X Y (by decide) dX5_readCoins_81 ⟨_, rfl, Or.inl ⟨hc_4, c27, rfl, hO_9.1, hO_9.2⟩⟩
    · exact absurd c8 (by decide)
  · refine z_if_ne X (pc := 8) (tgt := 13) dX5_readCoins_8 (by decide) (fun c8 => ?_) (fun c8 => ?_)
    · exact absurd c8 (by decide)
    · refine z_iconst X (pc := 11) (v := 0) dX5_readCoins_11 (by decide) ?_
      exact z_zret X Y (by decide) dX5_readCoins_12 ⟨_, rfl, Or.inr (Or.inr ⟨hc_4, rfl, rfl⟩)⟩

def rm_X5_readOrder : Room := { frames := 4, cells := 0, slots := 0, locals := 83 }
theorem kv_X5_readOrder : KV yX5_readOrder RX5 cX5_readOrder 2 (some .boolean) 1 := ⟨⟨gw_606, gw_607, gw_26, gw_608⟩, by decide +kernel⟩
set_option maxRecDepth 100000 in
set_option maxHeartbeats 4000000 in
theorem c_X5_readOrder (E : ZE) (M : Mem) (t : List Int32) (hT : TS M 14 t) (k p : Nat) (R : Nat → Nat → Int32) (hO : OS M k p R) (hk : k < 30) (hp : p ≤ 1000) (hp2 : p ≤ 100) : Mt E yX5_readOrder cX5_readOrder 2 (some .boolean) rm_X5_readOrder [.ref (za E 13 0), .int (chr t p)] M (RI (fun v M1 => ∃ R1, v = zb (pOrd t p).1 ∧ OS M1 k (pOrd t p).2.1 R1 ∧ Off 13 M M1 ∧ (∀ j i, i ≠ k → R1 j i = R j i) ∧ ((pOrd t p).1 = true → rowIs R1 k (pOrd t p).2.2))) := by
  have hl0 : t.length ≤ 60 := hT.2.1
  refine z_met (own := RX5) (lv := [(0, .ref (za E 13 0)), (1, .int (chr t p))]) (by decide) rfl (Nat.le_of_ble_eq_true rfl) rfl (fun gg X Y => ?_)
  refine z_aload_n X (pc := 0) 0 dX5_readOrder_0 rfl rfl ?_
  refine z_get X (pc := 1) 1 zk_13_0 (zc_13_0 E _) rfl inlX5 (by decide) gw_111 rfl rfl dX5_readOrder_1 ?_
  refine z_aload_n X (pc := 4) 0 dX5_readOrder_4 rfl rfl ?_
  refine z_get X (pc := 5) 5 zk_13_0 (zc_13_0 E _) rfl inlX5 (by decide) gw_599 rfl rfl dX5_readOrder_5 ?_
  refine z_top (y := (nI k)) hO.1 ?_
  refine z_iload_n X (pc := 8) 1 dX5_readOrder_8 rfl rfl ?_
  refine z_callV X (pc := 9) (rest := []) kv_X7_put (c_X7_put E M 13 4 k (chr t p) (by decide) (by decide) hk) zk_13_4 (zc_13_4 E _) rfl rfl gw_609 (by decide) rfl rfl (Nat.le_of_ble_eq_true rfl) dX5_readOrder_9 (zk_v ?_)
  refine z_gen (P := fun M1 => OS M1 k p (gu R 0 k (chr t p)) ∧ Off 13 M M1) ⟨hO.put 0 rfl (by decide) hk, (Off.rf 13 M).up⟩ (fun M_2 hO_1 => ?_)
  refine z_iload_n X (pc := 12) 1 dX5_readOrder_12 rfl rfl ?_
  by_cases hs : (chr t p).toInt < 97 ∨ (117 : Int) < (chr t p).toInt
  · have e97 : ¬ chr t p = 97 := by intro h; rw [h] at hs; revert hs; decide
    have e104 : ¬ chr t p = 104 := by intro h; rw [h] at hs; revert hs; decide
    have e109 : ¬ chr t p = 109 := by intro h; rw [h] at hs; revert hs; decide
    have e115 : ¬ chr t p = 115 := by intro h; rw [h] at hs; revert hs; decide
    have e98 : ¬ chr t p = 98 := by intro h; rw [h] at hs; revert hs; decide
    have e114 : ¬ chr t p = 114 := by intro h; rw [h] at hs; revert hs; decide
    have e99 : ¬ chr t p = 99 := by intro h; rw [h] at hs; revert hs; decide
    have e112 : ¬ chr t p = 112 := by intro h; rw [h] at hs; revert hs; decide
    have e117 : ¬ chr t p = 117 := by intro h; rw [h] at hs; revert hs; decide
    have e116 : ¬ chr t p = 116 := by intro h; rw [h] at hs; revert hs; decide
    refine z_tableOut X (pc := 13) (tgt := 312) dX5_readOrder_13 hs (by decide) ?_
    refine z_iconst X (pc := 312) (v := 0) dX5_readOrder_312 (by decide) ?_
    exact z_zret X Y (by decide) dX5_readOrder_313 ⟨_, rfl, _, by simp [pOrd, zb, e97, e104, e109, e115, e98, e114, e99, e112, e117, e116], by simpa [pOrd, e97, e104, e109, e115, e98, e114, e99, e112, e117, e116] using hO_1.1, hO_1.2, by intro j i hi; simp [gu, hi], by intro h; simp [pOrd, e97, e104, e109, e115, e98, e114, e99, e112, e117, e116] at h⟩
  · obtain ⟨j, hj, hx⟩ := sw_in (x := chr t p) 97 20 (by decide) (by simpa using hs)
    rcases (show j = 0 ∨ j = 1 ∨ j = 2 ∨ j = 3 ∨ j = 4 ∨ j = 5 ∨ j = 6 ∨ j = 7 ∨ j = 8 ∨ j = 9 ∨ j = 10 ∨ j = 11 ∨ j = 12 ∨ j = 13 ∨ j = 14 ∨ j = 15 ∨ j = 16 ∨ j = 17 ∨ j = 18 ∨ j = 19 ∨ j = 20 by omega) with rfl | rfl | rfl | rfl | rfl | rfl | rfl | rfl | rfl | rfl | rfl | rfl | rfl | rfl | rfl | rfl | rfl | rfl | rfl | rfl | rfl
    · replace hx : chr t p = 97 := hx
      refine z_top hx ?_
      refine z_tableIn X (pc := 13) (off := 99) (tgt := 112) dX5_readOrder_13 (by decide) (by decide) (by rfl) (by decide) ?_
      refine z_aload_n X (pc := 112) 0 dX5_readOrder_112 rfl rfl ?_
      refine z_iload_n X (pc := 113) 1 dX5_readOrder_113 rfl rfl ?_
      refine z_callV X (pc := 114) (rest := []) kv_X5_readSign (c_X5_readSign E M_2 t (hT.off hO_1.2 (by decide)) k p ((gu R 0 k (chr t p))) hO_1.1 (by omega) (by omega) (chr t p)) zk_13_0 (zc_13_0 E _) rfl rfl gw_610 (by decide) rfl rfl (Nat.le_of_ble_eq_true rfl) dX5_readOrder_114 (zk_ri (fun v_5 M_3 h_4 => ?_))
      rcases h_4 with ⟨hc_6, rfl, hO_7, hF_8⟩ | ⟨hc_6, rfl, rfl⟩
      · replace hO_7 : OS M_3 k (p + 1) (gu R 0 k (chr t p)) := hO_7
        exact z_zret X Y (by decide) dX5_readOrder_117 ⟨_, rfl, _, by simp [pOrd, zb, hx], by simpa [pOrd, hx] using hO_7, (hO_1.2.tr hF_8), by intro j i hi; simp [gu, hi], by intro _; simp [pOrd, rowIs, gu, hx]⟩
      · exact absurd rfl hc_6
    · replace hx : chr t p = 98 := hx
      refine z_top hx ?_
      refine z_tableIn X (pc := 13) (off := 233) (tgt := 246) dX5_readOrder_13 (by decide) (by decide) (by rfl) (by decide) ?_
      refine z_aload_n X (pc := 246) 0 dX5_readOrder_246 rfl rfl ?_
      refine z_iload_n X (pc := 247) 1 dX5_readOrder_247 rfl rfl ?_
      refine z_callV X (pc := 248) (rest := []) kv_X5_readSign (c_X5_readSign E M_2 t (hT.off hO_1.2 (by decide)) k p ((gu R 0 k (chr t p))) hO_1.1 (by omega) (by omega) (chr t p)) zk_13_0 (zc_13_0 E _) rfl rfl gw_610 (by decide) rfl rfl (Nat.le_of_ble_eq_true rfl) dX5_readOrder_248 (zk_ri (fun v_11 M_9 h_10 => ?_))
      rcases h_10 with ⟨hc_12, rfl, hO_13, hF_14⟩ | ⟨hc_12, rfl, rfl⟩
      · replace hO_13 : OS M_9 k (p + 1) (gu R 0 k (chr t p)) := hO_13
        refine z_if_eq X (pc := 251) (tgt := 285) dX5_readOrder_251 (by decide) (fun c251 => ?_) (fun c251 => ?_)
        · exact absurd c251 (by decide)
        · refine z_aload_n X (pc := 254) 0 dX5_readOrder_254 rfl rfl ?_
          refine z_aload_n X (pc := 255) 0 dX5_readOrder_255 rfl rfl ?_
          refine z_get X (pc := 256) 2 zk_13_0 (zc_13_0 E _) rfl inlX5 (by decide) gw_112 rfl rfl dX5_readOrder_256 ?_
          refine z_callV X (pc := 259) (rest := []) kv_X5_readDigit (c_X5_readDigit_1 E M_9 t (hT.off (hO_1.2.tr hF_14) (by decide)) k (p + 1) ((gu R 0 k (chr t p))) hO_13 hk (by omega)) zk_13_0 (zc_13_0 E _) rfl rfl gw_614 (by decide) rfl rfl (Nat.le_of_ble_eq_true rfl) dX5_readOrder_259 (zk_ri (fun v_17 M_15 h_16 => ?_))
          rcases h_16 with ⟨hc_18, rfl, hO_19, hF_20⟩ | ⟨hc_18, rfl, rfl⟩
          · replace hO_19 : OS M_15 k (p + 2) (gu (gu R 0 k (chr t p)) 1 k (dV t (p + 1))) := hO_19
            refine z_if_eq X (pc := 262) (tgt := 285) dX5_readOrder_262 (by decide) (fun c262 => ?_) (fun c262 => ?_)
            · exact absurd c262 (by decide)
            · refine z_aload_n X (pc := 265) 0 dX5_readOrder_265 rfl rfl ?_
              refine z_bipush X (pc := 266) (v := 61) dX5_readOrder_266 (by decide) ?_
              refine z_callV X (pc := 268) (rest := []) kv_X5_readSign (c_X5_readSign E M_15 t (hT.off ((hO_1.2.tr hF_14).tr hF_20) (by decide)) k (p + 2) ((gu (gu R 0 k (chr t p)) 1 k (dV t (p + 1)))) hO_19 (by omega) (by omega) 61) zk_13_0 (zc_13_0 E _) rfl rfl gw_610 (by decide) rfl rfl (Nat.le_of_ble_eq_true rfl) dX5_readOrder_268 (zk_ri (fun v_23 M_21 h_22 => ?_))
              rcases h_22 with ⟨hc_24, rfl, hO_25, hF_26⟩ | ⟨hc_24, rfl, rfl⟩
              · replace hO_25 : OS M_21 k (p + 3) (gu (gu R 0 k (chr t p)) 1 k (dV t (p + 1))) := hO_25
                refine z_if_eq X (pc := 271) (tgt := 285) dX5_readOrder_271 (by decide) (fun c271 => ?_) (fun c271 => ?_)
                · exact absurd c271 (by decide)
                · refine z_aload_n X (pc := 274) 0 dX5_readOrder_274 rfl rfl ?_
                  refine z_callV X (pc := 275) (rest := []) kv_X5_readCoins (c_X5_readCoins E M_21 t (hT.off (((hO_1.2.tr hF_14).tr hF_20).tr hF_26) (by decide)) k (p + 3) ((gu (gu R 0 k (chr t p)) 1 k (dV t (p + 1)))) hO_25 hk (by omega)) zk_13_0 (zc_13_0 E _) rfl rfl gw_621 (by decide) rfl rfl (Nat.le_of_ble_eq_true rfl) dX5_readOrder_275 (zk_ri (fun v_29 M_27 h_28 => ?_))
                  rcases h_28 with ⟨hc_30, hc_31, rfl, hO_32, hF_33⟩ | ⟨hc_30, hc_31, rfl, hO_32, hF_33⟩ | ⟨hc_30, rfl, rfl⟩
                  · replace hO_32 : OS M_27 k (p + 5) (gu (gu (gu R 0 k (chr t p)) 1 k (dV t (p + 1))) 2 k (10 * dV t (p + 3) + chr t (p + 4) - 48)) := hO_32
                    replace hc_31 : isD t (p + 4) = true := hc_31
                    refine z_if_eq X (pc := 278) (tgt := 285) dX5_readOrder_278 (by decide) (fun c278 => ?_) (fun c278 => ?_)
                    · exact absurd c278 (by decide)
                    · refine z_iconst X (pc := 281) (v := 1) dX5_readOrder_281 (by decide) ?_
                      refine z_goto X (pc := 282) (tgt := 286) dX5_readOrder_282 (by decide) ?_
                      exact z_zret X Y (by decide) dX5_readOrder_286 ⟨_, rfl, _, by simp [pOrd, zb, hx, c251, hc_18, c262, hc_24, c271, hc_30, hc_31, c278], by simpa [pOrd, hx, c251, hc_18, c262, hc_24, c271, hc_30, hc_31, c278] using hO_32, ((((hO_1.2.tr hF_14).tr hF_20).tr hF_26).tr hF_33), by intro j i hi; simp [gu, hi], by intro _; simp [pOrd, rowIs, gu, hx, c251, hc_18, c262, hc_24, c271, hc_30, hc_31, c278]⟩
                  · replace hO_32 : OS M_27 k (p + 4) (gu (gu (gu R 0 k (chr t p)) 1 k (dV t (p + 1))) 2 k (dV t (p + 3))) := hO_32
                    replace hc_31 : isD t (p + 4) = false := hc_31
                    refine z_if_eq X (pc := 278) (tgt := 285) dX5_readOrder_278 (by decide) (fun c278 => ?_) (fun c278 => ?_)
                    · exact absurd c278 (by decide)
                    · refine z_iconst X (pc := 281) (v := 1) dX5_readOrder_281 (by decide) ?_
                      refine z_goto X (pc := 282) (tgt := 286) dX5_readOrder_282 (by decide) ?_
                      exact z_zret X Y (by decide) dX5_readOrder_286 ⟨_, rfl, _, by simp [pOrd, zb, hx, c251, hc_18, c262, hc_24, c271, hc_30, hc_31, c278], by simpa [pOrd, hx, c251, hc_18, c262, hc_24, c271, hc_30, hc_31, c278] using hO_32, ((((hO_1.2.tr hF_14).tr hF_20).tr hF_26).tr hF_33), by intro j i hi; simp [gu, hi], by intro _; simp [pOrd, rowIs, gu, hx, c251, hc_18, c262, hc_24, c271, hc_30, hc_31, c278]⟩
                  · refine z_if_eq X (pc := 278) (tgt := 285) dX5_readOrder_278 (by decide) (fun c278 => ?_) (fun c278 => ?_)
                    · refine z_iconst X (pc := 285) (v := 0) dX5_readOrder_285 (by decide) ?_
                      exact z_zret X Y (by decide) dX5_readOrder_286 ⟨_, rfl, _, by simp [pOrd, zb, hx, c251, hc_18, c262, hc_24, c271, hc_30, c278], by simpa [pOrd, hx, c251, hc_18, c262, hc_24, c271, hc_30, c278] using hO_25, (((hO_1.2.tr hF_14).tr hF_20).tr hF_26), by intro j i hi; simp [gu, hi], by intro h; simp [pOrd, hx, c251, hc_18, c262, hc_24, c271, hc_30, c278] at h⟩
                    · exact absurd (by decide) c278
              · refine z_if_eq X (pc := 271) (tgt := 285) dX5_readOrder_271 (by decide) (fun c271 => ?_) (fun c271 => ?_)
                · refine z_iconst X (pc := 285) (v := 0) dX5_readOrder_285 (by decide) ?_
                  exact z_zret X Y (by decide) dX5_readOrder_286 ⟨_, rfl, _, by simp [pOrd, zb, hx, c251, hc_18, c262, hc_24, c271], by simpa [pOrd, hx, c251, hc_18, c262, hc_24, c271] using hO_19, ((hO_1.2.tr hF_14).tr hF_20), by intro j i hi; simp [gu, hi], by intro h; simp [pOrd, hx, c251, hc_18, c262, hc_24, c271] at h⟩
                · exact absurd (by decide) c271
          · refine z_if_eq X (pc := 262) (tgt := 285) dX5_readOrder_262 (by decide) (fun c262 => ?_) (fun c262 => ?_)
            · refine z_iconst X (pc := 285) (v := 0) dX5_readOrder_285 (by decide) ?_
              exact z_zret X Y (by decide) dX5_readOrder_286 ⟨_, rfl, _, by simp [pOrd, zb, hx, c251, hc_18, c262], by simpa [pOrd, hx, c251, hc_18, c262] using hO_13, (hO_1.2.tr hF_14), by intro j i hi; simp [gu, hi], by intro h; simp [pOrd, hx, c251, hc_18, c262] at h⟩
            · exact absurd (by decide) c262
      · exact absurd rfl hc_12
    · replace hx : chr t p = 99 := hx
      refine z_top hx ?_
      refine z_tableIn X (pc := 13) (off := 274) (tgt := 287) dX5_readOrder_13 (by decide) (by decide) (by rfl) (by decide) ?_
      refine z_aload_n X (pc := 287) 0 dX5_readOrder_287 rfl rfl ?_
      refine z_iload_n X (pc := 288) 1 dX5_readOrder_288 rfl rfl ?_
      refine z_callV X (pc := 289) (rest := []) kv_X5_readSign (c_X5_readSign E M_2 t (hT.off hO_1.2 (by decide)) k p ((gu R 0 k (chr t p))) hO_1.1 (by omega) (by omega) (chr t p)) zk_13_0 (zc_13_0 E _) rfl rfl gw_610 (by decide) rfl rfl (Nat.le_of_ble_eq_true rfl) dX5_readOrder_289 (zk_ri (fun v_36 M_34 h_35 => ?_))
      rcases h_35 with ⟨hc_37, rfl, hO_38, hF_39⟩ | ⟨hc_37, rfl, rfl⟩
      · replace hO_38 : OS M_34 k (p + 1) (gu R 0 k (chr t p)) := hO_38
        refine z_if_eq X (pc := 292) (tgt := 310) dX5_readOrder_292 (by decide) (fun c292 => ?_) (fun c292 => ?_)
        · exact absurd c292 (by decide)
        · refine z_aload_n X (pc := 295) 0 dX5_readOrder_295 rfl rfl ?_
          refine z_aload_n X (pc := 296) 0 dX5_readOrder_296 rfl rfl ?_
          refine z_get X (pc := 297) 2 zk_13_0 (zc_13_0 E _) rfl inlX5 (by decide) gw_112 rfl rfl dX5_readOrder_297 ?_
          refine z_callV X (pc := 300) (rest := []) kv_X5_readDigit (c_X5_readDigit_1 E M_34 t (hT.off (hO_1.2.tr hF_39) (by decide)) k (p + 1) ((gu R 0 k (chr t p))) hO_38 hk (by omega)) zk_13_0 (zc_13_0 E _) rfl rfl gw_614 (by decide) rfl rfl (Nat.le_of_ble_eq_true rfl) dX5_readOrder_300 (zk_ri (fun v_42 M_40 h_41 => ?_))
          rcases h_41 with ⟨hc_43, rfl, hO_44, hF_45⟩ | ⟨hc_43, rfl, rfl⟩
          · replace hO_44 : OS M_40 k (p + 2) (gu (gu R 0 k (chr t p)) 1 k (dV t (p + 1))) := hO_44
            refine z_if_eq X (pc := 303) (tgt := 310) dX5_readOrder_303 (by decide) (fun c303 => ?_) (fun c303 => ?_)
            · exact absurd c303 (by decide)
            · refine z_iconst X (pc := 306) (v := 1) dX5_readOrder_306 (by decide) ?_
              refine z_goto X (pc := 307) (tgt := 311) dX5_readOrder_307 (by decide) ?_
              exact z_zret X Y (by decide) dX5_readOrder_311 ⟨_, rfl, _, by simp [pOrd, zb, hx, c292, hc_43, c303], by simpa [pOrd, hx, c292, hc_43, c303] using hO_44, ((hO_1.2.tr hF_39).tr hF_45), by intro j i hi; simp [gu, hi], by intro _; simp [pOrd, rowIs, gu, hx, c292, hc_43, c303]⟩
          · refine z_if_eq X (pc := 303) (tgt := 310) dX5_readOrder_303 (by decide) (fun c303 => ?_) (fun c303 => ?_)
            · refine z_iconst X (pc := 310) (v := 0) dX5_readOrder_310 (by decide) ?_
              exact z_zret X Y (by decide) dX5_readOrder_311 ⟨_, rfl, _, by simp [pOrd, zb, hx, c292, hc_43, c303], by simpa [pOrd, hx, c292, hc_43, c303] using hO_38, (hO_1.2.tr hF_39), by intro j i hi; simp [gu, hi], by intro h; simp [pOrd, hx, c292, hc_43, c303] at h⟩
            · exact absurd (by decide) c303
      · exact absurd rfl hc_37
    · replace hx : chr t p = 100 := hx
      refine z_top hx ?_
      refine z_tableIn X (pc := 13) (off := 299) (tgt := 312) dX5_readOrder_13 (by decide) (by decide) (by rfl) (by decide) ?_
      refine z_iconst X (pc := 312) (v := 0) dX5_readOrder_312 (by decide) ?_
      exact z_zret X Y (by decide) dX5_readOrder_313 ⟨_, rfl, _, by simp [pOrd, zb, hx], by simpa [pOrd, hx] using hO_1.1, hO_1.2, by intro j i hi; simp [gu, hi], by intro h; simp [pOrd, hx] at h⟩
    · replace hx : chr t p = 101 := hx
      refine z_top hx ?_
      refine z_tableIn X (pc := 13) (off := 299) (tgt := 312) dX5_readOrder_13 (by decide) (by decide) (by rfl) (by decide) ?_
      refine z_iconst X (pc := 312) (v := 0) dX5_readOrder_312 (by decide) ?_
      exact z_zret X Y (by decide) dX5_readOrder_313 ⟨_, rfl, _, by simp [pOrd, zb, hx], by simpa [pOrd, hx] using hO_1.1, hO_1.2, by intro j i hi; simp [gu, hi], by intro h; simp [pOrd, hx] at h⟩
    · replace hx : chr t p = 102 := hx
      refine z_top hx ?_
      refine z_tableIn X (pc := 13) (off := 299) (tgt := 312) dX5_readOrder_13 (by decide) (by decide) (by rfl) (by decide) ?_
      refine z_iconst X (pc := 312) (v := 0) dX5_readOrder_312 (by decide) ?_
      exact z_zret X Y (by decide) dX5_readOrder_313 ⟨_, rfl, _, by simp [pOrd, zb, hx], by simpa [pOrd, hx] using hO_1.1, hO_1.2, by intro j i hi; simp [gu, hi], by intro h; simp [pOrd, hx] at h⟩
    · replace hx : chr t p = 103 := hx
      refine z_top hx ?_
      refine z_tableIn X (pc := 13) (off := 299) (tgt := 312) dX5_readOrder_13 (by decide) (by decide) (by rfl) (by decide) ?_
      refine z_iconst X (pc := 312) (v := 0) dX5_readOrder_312 (by decide) ?_
      exact z_zret X Y (by decide) dX5_readOrder_313 ⟨_, rfl, _, by simp [pOrd, zb, hx], by simpa [pOrd, hx] using hO_1.1, hO_1.2, by intro j i hi; simp [gu, hi], by intro h; simp [pOrd, hx] at h⟩
    · replace hx : chr t p = 104 := hx
      refine z_top hx ?_
      refine z_tableIn X (pc := 13) (off := 105) (tgt := 118) dX5_readOrder_13 (by decide) (by decide) (by rfl) (by decide) ?_
      refine z_aload_n X (pc := 118) 0 dX5_readOrder_118 rfl rfl ?_
      refine z_iload_n X (pc := 119) 1 dX5_readOrder_119 rfl rfl ?_
      refine z_callV X (pc := 120) (rest := []) kv_X5_readSign (c_X5_readSign E M_2 t (hT.off hO_1.2 (by decide)) k p ((gu R 0 k (chr t p))) hO_1.1 (by omega) (by omega) (chr t p)) zk_13_0 (zc_13_0 E _) rfl rfl gw_610 (by decide) rfl rfl (Nat.le_of_ble_eq_true rfl) dX5_readOrder_120 (zk_ri (fun v_48 M_46 h_47 => ?_))
      rcases h_47 with ⟨hc_49, rfl, hO_50, hF_51⟩ | ⟨hc_49, rfl, rfl⟩
      · replace hO_50 : OS M_46 k (p + 1) (gu R 0 k (chr t p)) := hO_50
        refine z_if_eq X (pc := 123) (tgt := 152) dX5_readOrder_123 (by decide) (fun c123 => ?_) (fun c123 => ?_)
        · exact absurd c123 (by decide)
        · refine z_aload_n X (pc := 126) 0 dX5_readOrder_126 rfl rfl ?_
          refine z_aload_n X (pc := 127) 0 dX5_readOrder_127 rfl rfl ?_
          refine z_get X (pc := 128) 2 zk_13_0 (zc_13_0 E _) rfl inlX5 (by decide) gw_112 rfl rfl dX5_readOrder_128 ?_
          refine z_callV X (pc := 131) (rest := []) kv_X5_readDigit (c_X5_readDigit_1 E M_46 t (hT.off (hO_1.2.tr hF_51) (by decide)) k (p + 1) ((gu R 0 k (chr t p))) hO_50 hk (by omega)) zk_13_0 (zc_13_0 E _) rfl rfl gw_614 (by decide) rfl rfl (Nat.le_of_ble_eq_true rfl) dX5_readOrder_131 (zk_ri (fun v_54 M_52 h_53 => ?_))
          rcases h_53 with ⟨hc_55, rfl, hO_56, hF_57⟩ | ⟨hc_55, rfl, rfl⟩
          · replace hO_56 : OS M_52 k (p + 2) (gu (gu R 0 k (chr t p)) 1 k (dV t (p + 1))) := hO_56
            refine z_if_eq X (pc := 134) (tgt := 152) dX5_readOrder_134 (by decide) (fun c134 => ?_) (fun c134 => ?_)
            · exact absurd c134 (by decide)
            · refine z_aload_n X (pc := 137) 0 dX5_readOrder_137 rfl rfl ?_
              refine z_aload_n X (pc := 138) 0 dX5_readOrder_138 rfl rfl ?_
              refine z_get X (pc := 139) 3 zk_13_0 (zc_13_0 E _) rfl inlX5 (by decide) gw_113 rfl rfl dX5_readOrder_139 ?_
              refine z_callV X (pc := 142) (rest := []) kv_X5_readDigit (c_X5_readDigit_2 E M_52 t (hT.off ((hO_1.2.tr hF_51).tr hF_57) (by decide)) k (p + 2) ((gu (gu R 0 k (chr t p)) 1 k (dV t (p + 1)))) hO_56 hk (by omega)) zk_13_0 (zc_13_0 E _) rfl rfl gw_614 (by decide) rfl rfl (Nat.le_of_ble_eq_true rfl) dX5_readOrder_142 (zk_ri (fun v_60 M_58 h_59 => ?_))
              rcases h_59 with ⟨hc_61, rfl, hO_62, hF_63⟩ | ⟨hc_61, rfl, rfl⟩
              · replace hO_62 : OS M_58 k (p + 3) (gu (gu (gu R 0 k (chr t p)) 1 k (dV t (p + 1))) 2 k (dV t (p + 2))) := hO_62
                refine z_if_eq X (pc := 145) (tgt := 152) dX5_readOrder_145 (by decide) (fun c145 => ?_) (fun c145 => ?_)
                · exact absurd c145 (by decide)
                · refine z_iconst X (pc := 148) (v := 1) dX5_readOrder_148 (by decide) ?_
                  refine z_goto X (pc := 149) (tgt := 153) dX5_readOrder_149 (by decide) ?_
                  exact z_zret X Y (by decide) dX5_readOrder_153 ⟨_, rfl, _, by simp [pOrd, zb, hx, c123, hc_55, c134, hc_61, c145], by simpa [pOrd, hx, c123, hc_55, c134, hc_61, c145] using hO_62, (((hO_1.2.tr hF_51).tr hF_57).tr hF_63), by intro j i hi; simp [gu, hi], by intro _; simp [pOrd, rowIs, gu, hx, c123, hc_55, c134, hc_61, c145]⟩
              · refine z_if_eq X (pc := 145) (tgt := 152) dX5_readOrder_145 (by decide) (fun c145 => ?_) (fun c145 => ?_)
                · refine z_iconst X (pc := 152) (v := 0) dX5_readOrder_152 (by decide) ?_
                  exact z_zret X Y (by decide) dX5_readOrder_153 ⟨_, rfl, _, by simp [pOrd, zb, hx, c123, hc_55, c134, hc_61, c145], by simpa [pOrd, hx, c123, hc_55, c134, hc_61, c145] using hO_56, ((hO_1.2.tr hF_51).tr hF_57), by intro j i hi; simp [gu, hi], by intro h; simp [pOrd, hx, c123, hc_55, c134, hc_61, c145] at h⟩
                · exact absurd (by decide) c145
          · refine z_if_eq X (pc := 134) (tgt := 152) dX5_readOrder_134 (by decide) (fun c134 => ?_) (fun c134 => ?_)
            · refine z_iconst X (pc := 152) (v := 0) dX5_readOrder_152 (by decide) ?_
              exact z_zret X Y (by decide) dX5_readOrder_153 ⟨_, rfl, _, by simp [pOrd, zb, hx, c123, hc_55, c134], by simpa [pOrd, hx, c123, hc_55, c134] using hO_50, (hO_1.2.tr hF_51), by intro j i hi; simp [gu, hi], by intro h; simp [pOrd, hx, c123, hc_55, c134] at h⟩
            · exact absurd (by decide) c134
      · exact absurd rfl hc_49
    · replace hx : chr t p = 105 := hx
      refine z_top hx ?_
      refine z_tableIn X (pc := 13) (off := 299) (tgt := 312) dX5_readOrder_13 (by decide) (by decide) (by rfl) (by decide) ?_
      refine z_iconst X (pc := 312) (v := 0) dX5_readOrder_312 (by decide) ?_
      exact z_zret X Y (by decide) dX5_readOrder_313 ⟨_, rfl, _, by simp [pOrd, zb, hx], by simpa [pOrd, hx] using hO_1.1, hO_1.2, by intro j i hi; simp [gu, hi], by intro h; simp [pOrd, hx] at h⟩
    · replace hx : chr t p = 106 := hx
      refine z_top hx ?_
      refine z_tableIn X (pc := 13) (off := 299) (tgt := 312) dX5_readOrder_13 (by decide) (by decide) (by rfl) (by decide) ?_
      refine z_iconst X (pc := 312) (v := 0) dX5_readOrder_312 (by decide) ?_
      exact z_zret X Y (by decide) dX5_readOrder_313 ⟨_, rfl, _, by simp [pOrd, zb, hx], by simpa [pOrd, hx] using hO_1.1, hO_1.2, by intro j i hi; simp [gu, hi], by intro h; simp [pOrd, hx] at h⟩
    · replace hx : chr t p = 107 := hx
      refine z_top hx ?_
      refine z_tableIn X (pc := 13) (off := 299) (tgt := 312) dX5_readOrder_13 (by decide) (by decide) (by rfl) (by decide) ?_
      refine z_iconst X (pc := 312) (v := 0) dX5_readOrder_312 (by decide) ?_
      exact z_zret X Y (by decide) dX5_readOrder_313 ⟨_, rfl, _, by simp [pOrd, zb, hx], by simpa [pOrd, hx] using hO_1.1, hO_1.2, by intro j i hi; simp [gu, hi], by intro h; simp [pOrd, hx] at h⟩
    · replace hx : chr t p = 108 := hx
      refine z_top hx ?_
      refine z_tableIn X (pc := 13) (off := 299) (tgt := 312) dX5_readOrder_13 (by decide) (by decide) (by rfl) (by decide) ?_
      refine z_iconst X (pc := 312) (v := 0) dX5_readOrder_312 (by decide) ?_
      exact z_zret X Y (by decide) dX5_readOrder_313 ⟨_, rfl, _, by simp [pOrd, zb, hx], by simpa [pOrd, hx] using hO_1.1, hO_1.2, by intro j i hi; simp [gu, hi], by intro h; simp [pOrd, hx] at h⟩
    · replace hx : chr t p = 109 := hx
      refine z_top hx ?_
      refine z_tableIn X (pc := 13) (off := 141) (tgt := 154) dX5_readOrder_13 (by decide) (by decide) (by rfl) (by decide) ?_
      refine z_aload_n X (pc := 154) 0 dX5_readOrder_154 rfl rfl ?_
      refine z_iload_n X (pc := 155) 1 dX5_readOrder_155 rfl rfl ?_
      refine z_callV X (pc := 156) (rest := []) kv_X5_readSign (c_X5_readSign E M_2 t (hT.off hO_1.2 (by decide)) k p ((gu R 0 k (chr t p))) hO_1.1 (by omega) (by omega) (chr t p)) zk_13_0 (zc_13_0 E _) rfl rfl gw_610 (by decide) rfl rfl (Nat.le_of_ble_eq_true rfl) dX5_readOrder_156 (zk_ri (fun v_66 M_64 h_65 => ?_))
      rcases h_65 with ⟨hc_67, rfl, hO_68, hF_69⟩ | ⟨hc_67, rfl, rfl⟩
      · replace hO_68 : OS M_64 k (p + 1) (gu R 0 k (chr t p)) := hO_68
        refine z_if_eq X (pc := 159) (tgt := 199) dX5_readOrder_159 (by decide) (fun c159 => ?_) (fun c159 => ?_)
        · exact absurd c159 (by decide)
        · refine z_aload_n X (pc := 162) 0 dX5_readOrder_162 rfl rfl ?_
          refine z_aload_n X (pc := 163) 0 dX5_readOrder_163 rfl rfl ?_
          refine z_get X (pc := 164) 2 zk_13_0 (zc_13_0 E _) rfl inlX5 (by decide) gw_112 rfl rfl dX5_readOrder_164 ?_
          refine z_callV X (pc := 167) (rest := []) kv_X5_readDigit (c_X5_readDigit_1 E M_64 t (hT.off (hO_1.2.tr hF_69) (by decide)) k (p + 1) ((gu R 0 k (chr t p))) hO_68 hk (by omega)) zk_13_0 (zc_13_0 E _) rfl rfl gw_614 (by decide) rfl rfl (Nat.le_of_ble_eq_true rfl) dX5_readOrder_167 (zk_ri (fun v_72 M_70 h_71 => ?_))
          rcases h_71 with ⟨hc_73, rfl, hO_74, hF_75⟩ | ⟨hc_73, rfl, rfl⟩
          · replace hO_74 : OS M_70 k (p + 2) (gu (gu R 0 k (chr t p)) 1 k (dV t (p + 1))) := hO_74
            refine z_if_eq X (pc := 170) (tgt := 199) dX5_readOrder_170 (by decide) (fun c170 => ?_) (fun c170 => ?_)
            · exact absurd c170 (by decide)
            · refine z_aload_n X (pc := 173) 0 dX5_readOrder_173 rfl rfl ?_
              refine z_aload_n X (pc := 174) 0 dX5_readOrder_174 rfl rfl ?_
              refine z_get X (pc := 175) 3 zk_13_0 (zc_13_0 E _) rfl inlX5 (by decide) gw_113 rfl rfl dX5_readOrder_175 ?_
              refine z_callV X (pc := 178) (rest := []) kv_X5_readDigit (c_X5_readDigit_2 E M_70 t (hT.off ((hO_1.2.tr hF_69).tr hF_75) (by decide)) k (p + 2) ((gu (gu R 0 k (chr t p)) 1 k (dV t (p + 1)))) hO_74 hk (by omega)) zk_13_0 (zc_13_0 E _) rfl rfl gw_614 (by decide) rfl rfl (Nat.le_of_ble_eq_true rfl) dX5_readOrder_178 (zk_ri (fun v_78 M_76 h_77 => ?_))
              rcases h_77 with ⟨hc_79, rfl, hO_80, hF_81⟩ | ⟨hc_79, rfl, rfl⟩
              · replace hO_80 : OS M_76 k (p + 3) (gu (gu (gu R 0 k (chr t p)) 1 k (dV t (p + 1))) 2 k (dV t (p + 2))) := hO_80
                refine z_if_eq X (pc := 181) (tgt := 199) dX5_readOrder_181 (by decide) (fun c181 => ?_) (fun c181 => ?_)
                · exact absurd c181 (by decide)
                · refine z_aload_n X (pc := 184) 0 dX5_readOrder_184 rfl rfl ?_
                  refine z_aload_n X (pc := 185) 0 dX5_readOrder_185 rfl rfl ?_
                  refine z_get X (pc := 186) 4 zk_13_0 (zc_13_0 E _) rfl inlX5 (by decide) gw_114 rfl rfl dX5_readOrder_186 ?_
                  refine z_callV X (pc := 189) (rest := []) kv_X5_readDigit (c_X5_readDigit_3 E M_76 t (hT.off (((hO_1.2.tr hF_69).tr hF_75).tr hF_81) (by decide)) k (p + 3) ((gu (gu (gu R 0 k (chr t p)) 1 k (dV t (p + 1))) 2 k (dV t (p + 2)))) hO_80 hk (by omega)) zk_13_0 (zc_13_0 E _) rfl rfl gw_614 (by decide) rfl rfl (Nat.le_of_ble_eq_true rfl) dX5_readOrder_189 (zk_ri (fun v_84 M_82 h_83 => ?_))
                  rcases h_83 with ⟨hc_85, rfl, hO_86, hF_87⟩ | ⟨hc_85, rfl, rfl⟩
                  · replace hO_86 : OS M_82 k (p + 4) (gu (gu (gu (gu R 0 k (chr t p)) 1 k (dV t (p + 1))) 2 k (dV t (p + 2))) 3 k (dV t (p + 3))) := hO_86
                    refine z_if_eq X (pc := 192) (tgt := 199) dX5_readOrder_192 (by decide) (fun c192 => ?_) (fun c192 => ?_)
                    · exact absurd c192 (by decide)
                    · refine z_iconst X (pc := 195) (v := 1) dX5_readOrder_195 (by decide) ?_
                      refine z_goto X (pc := 196) (tgt := 200) dX5_readOrder_196 (by decide) ?_
                      exact z_zret X Y (by decide) dX5_readOrder_200 ⟨_, rfl, _, by simp [pOrd, zb, hx, c159, hc_73, c170, hc_79, c181, hc_85, c192], by simpa [pOrd, hx, c159, hc_73, c170, hc_79, c181, hc_85, c192] using hO_86, ((((hO_1.2.tr hF_69).tr hF_75).tr hF_81).tr hF_87), by intro j i hi; simp [gu, hi], by intro _; simp [pOrd, rowIs, gu, hx, c159, hc_73, c170, hc_79, c181, hc_85, c192]⟩
                  · refine z_if_eq X (pc := 192) (tgt := 199) dX5_readOrder_192 (by decide) (fun c192 => ?_) (fun c192 => ?_)
                    · refine z_iconst X (pc := 199) (v := 0) dX5_readOrder_199 (by decide) ?_
                      exact z_zret X Y (by decide) dX5_readOrder_200 ⟨_, rfl, _, by simp [pOrd, zb, hx, c159, hc_73, c170, hc_79, c181, hc_85, c192], by simpa [pOrd, hx, c159, hc_73, c170, hc_79, c181, hc_85, c192] using hO_80, (((hO_1.2.tr hF_69).tr hF_75).tr hF_81), by intro j i hi; simp [gu, hi], by intro h; simp [pOrd, hx, c159, hc_73, c170, hc_79, c181, hc_85, c192] at h⟩
                    · exact absurd (by decide) c192
              · refine z_if_eq X (pc := 181) (tgt := 199) dX5_readOrder_181 (by decide) (fun c181 => ?_) (fun c181 => ?_)
                · refine z_iconst X (pc := 199) (v := 0) dX5_readOrder_199 (by decide) ?_
                  exact z_zret X Y (by decide) dX5_readOrder_200 ⟨_, rfl, _, by simp [pOrd, zb, hx, c159, hc_73, c170, hc_79, c181], by simpa [pOrd, hx, c159, hc_73, c170, hc_79, c181] using hO_74, ((hO_1.2.tr hF_69).tr hF_75), by intro j i hi; simp [gu, hi], by intro h; simp [pOrd, hx, c159, hc_73, c170, hc_79, c181] at h⟩
                · exact absurd (by decide) c181
          · refine z_if_eq X (pc := 170) (tgt := 199) dX5_readOrder_170 (by decide) (fun c170 => ?_) (fun c170 => ?_)
            · refine z_iconst X (pc := 199) (v := 0) dX5_readOrder_199 (by decide) ?_
              exact z_zret X Y (by decide) dX5_readOrder_200 ⟨_, rfl, _, by simp [pOrd, zb, hx, c159, hc_73, c170], by simpa [pOrd, hx, c159, hc_73, c170] using hO_68, (hO_1.2.tr hF_69), by intro j i hi; simp [gu, hi], by intro h; simp [pOrd, hx, c159, hc_73, c170] at h⟩
            · exact absurd (by decide) c170
      · exact absurd rfl hc_67
    · replace hx : chr t p = 110 := hx
      refine z_top hx ?_
      refine z_tableIn X (pc := 13) (off := 299) (tgt := 312) dX5_readOrder_13 (by decide) (by decide) (by rfl) (by decide) ?_
      refine z_iconst X (pc := 312) (v := 0) dX5_readOrder_312 (by decide) ?_
      exact z_zret X Y (by decide) dX5_readOrder_313 ⟨_, rfl, _, by simp [pOrd, zb, hx], by simpa [pOrd, hx] using hO_1.1, hO_1.2, by intro j i hi; simp [gu, hi], by intro h; simp [pOrd, hx] at h⟩
    · replace hx : chr t p = 111 := hx
      refine z_top hx ?_
      refine z_tableIn X (pc := 13) (off := 299) (tgt := 312) dX5_readOrder_13 (by decide) (by decide) (by rfl) (by decide) ?_
      refine z_iconst X (pc := 312) (v := 0) dX5_readOrder_312 (by decide) ?_
      exact z_zret X Y (by decide) dX5_readOrder_313 ⟨_, rfl, _, by simp [pOrd, zb, hx], by simpa [pOrd, hx] using hO_1.1, hO_1.2, by intro j i hi; simp [gu, hi], by intro h; simp [pOrd, hx] at h⟩
    · replace hx : chr t p = 112 := hx
      refine z_top hx ?_
      refine z_tableIn X (pc := 13) (off := 274) (tgt := 287) dX5_readOrder_13 (by decide) (by decide) (by rfl) (by decide) ?_
      refine z_aload_n X (pc := 287) 0 dX5_readOrder_287 rfl rfl ?_
      refine z_iload_n X (pc := 288) 1 dX5_readOrder_288 rfl rfl ?_
      refine z_callV X (pc := 289) (rest := []) kv_X5_readSign (c_X5_readSign E M_2 t (hT.off hO_1.2 (by decide)) k p ((gu R 0 k (chr t p))) hO_1.1 (by omega) (by omega) (chr t p)) zk_13_0 (zc_13_0 E _) rfl rfl gw_610 (by decide) rfl rfl (Nat.le_of_ble_eq_true rfl) dX5_readOrder_289 (zk_ri (fun v_90 M_88 h_89 => ?_))
      rcases h_89 with ⟨hc_91, rfl, hO_92, hF_93⟩ | ⟨hc_91, rfl, rfl⟩
      · replace hO_92 : OS M_88 k (p + 1) (gu R 0 k (chr t p)) := hO_92
        refine z_if_eq X (pc := 292) (tgt := 310) dX5_readOrder_292 (by decide) (fun c292 => ?_) (fun c292 => ?_)
        · exact absurd c292 (by decide)
        · refine z_aload_n X (pc := 295) 0 dX5_readOrder_295 rfl rfl ?_
          refine z_aload_n X (pc := 296) 0 dX5_readOrder_296 rfl rfl ?_
          refine z_get X (pc := 297) 2 zk_13_0 (zc_13_0 E _) rfl inlX5 (by decide) gw_112 rfl rfl dX5_readOrder_297 ?_
          refine z_callV X (pc := 300) (rest := []) kv_X5_readDigit (c_X5_readDigit_1 E M_88 t (hT.off (hO_1.2.tr hF_93) (by decide)) k (p + 1) ((gu R 0 k (chr t p))) hO_92 hk (by omega)) zk_13_0 (zc_13_0 E _) rfl rfl gw_614 (by decide) rfl rfl (Nat.le_of_ble_eq_true rfl) dX5_readOrder_300 (zk_ri (fun v_96 M_94 h_95 => ?_))
          rcases h_95 with ⟨hc_97, rfl, hO_98, hF_99⟩ | ⟨hc_97, rfl, rfl⟩
          · replace hO_98 : OS M_94 k (p + 2) (gu (gu R 0 k (chr t p)) 1 k (dV t (p + 1))) := hO_98
            refine z_if_eq X (pc := 303) (tgt := 310) dX5_readOrder_303 (by decide) (fun c303 => ?_) (fun c303 => ?_)
            · exact absurd c303 (by decide)
            · refine z_iconst X (pc := 306) (v := 1) dX5_readOrder_306 (by decide) ?_
              refine z_goto X (pc := 307) (tgt := 311) dX5_readOrder_307 (by decide) ?_
              exact z_zret X Y (by decide) dX5_readOrder_311 ⟨_, rfl, _, by simp [pOrd, zb, hx, c292, hc_97, c303], by simpa [pOrd, hx, c292, hc_97, c303] using hO_98, ((hO_1.2.tr hF_93).tr hF_99), by intro j i hi; simp [gu, hi], by intro _; simp [pOrd, rowIs, gu, hx, c292, hc_97, c303]⟩
          · refine z_if_eq X (pc := 303) (tgt := 310) dX5_readOrder_303 (by decide) (fun c303 => ?_) (fun c303 => ?_)
            · refine z_iconst X (pc := 310) (v := 0) dX5_readOrder_310 (by decide) ?_
              exact z_zret X Y (by decide) dX5_readOrder_311 ⟨_, rfl, _, by simp [pOrd, zb, hx, c292, hc_97, c303], by simpa [pOrd, hx, c292, hc_97, c303] using hO_92, (hO_1.2.tr hF_93), by intro j i hi; simp [gu, hi], by intro h; simp [pOrd, hx, c292, hc_97, c303] at h⟩
            · exact absurd (by decide) c303
      · exact absurd rfl hc_91
    · replace hx : chr t p = 113 := hx
      refine z_top hx ?_
      refine z_tableIn X (pc := 13) (off := 299) (tgt := 312) dX5_readOrder_13 (by decide) (by decide) (by rfl) (by decide) ?_
      refine z_iconst X (pc := 312) (v := 0) dX5_readOrder_312 (by decide) ?_
      exact z_zret X Y (by decide) dX5_readOrder_313 ⟨_, rfl, _, by simp [pOrd, zb, hx], by simpa [pOrd, hx] using hO_1.1, hO_1.2, by intro j i hi; simp [gu, hi], by intro h; simp [pOrd, hx] at h⟩
    · replace hx : chr t p = 114 := hx
      refine z_top hx ?_
      refine z_tableIn X (pc := 13) (off := 274) (tgt := 287) dX5_readOrder_13 (by decide) (by decide) (by rfl) (by decide) ?_
      refine z_aload_n X (pc := 287) 0 dX5_readOrder_287 rfl rfl ?_
      refine z_iload_n X (pc := 288) 1 dX5_readOrder_288 rfl rfl ?_
      refine z_callV X (pc := 289) (rest := []) kv_X5_readSign (c_X5_readSign E M_2 t (hT.off hO_1.2 (by decide)) k p ((gu R 0 k (chr t p))) hO_1.1 (by omega) (by omega) (chr t p)) zk_13_0 (zc_13_0 E _) rfl rfl gw_610 (by decide) rfl rfl (Nat.le_of_ble_eq_true rfl) dX5_readOrder_289 (zk_ri (fun v_102 M_100 h_101 => ?_))
      rcases h_101 with ⟨hc_103, rfl, hO_104, hF_105⟩ | ⟨hc_103, rfl, rfl⟩
      · replace hO_104 : OS M_100 k (p + 1) (gu R 0 k (chr t p)) := hO_104
        refine z_if_eq X (pc := 292) (tgt := 310) dX5_readOrder_292 (by decide) (fun c292 => ?_) (fun c292 => ?_)
        · exact absurd c292 (by decide)
        · refine z_aload_n X (pc := 295) 0 dX5_readOrder_295 rfl rfl ?_
          refine z_aload_n X (pc := 296) 0 dX5_readOrder_296 rfl rfl ?_
          refine z_get X (pc := 297) 2 zk_13_0 (zc_13_0 E _) rfl inlX5 (by decide) gw_112 rfl rfl dX5_readOrder_297 ?_
          refine z_callV X (pc := 300) (rest := []) kv_X5_readDigit (c_X5_readDigit_1 E M_100 t (hT.off (hO_1.2.tr hF_105) (by decide)) k (p + 1) ((gu R 0 k (chr t p))) hO_104 hk (by omega)) zk_13_0 (zc_13_0 E _) rfl rfl gw_614 (by decide) rfl rfl (Nat.le_of_ble_eq_true rfl) dX5_readOrder_300 (zk_ri (fun v_108 M_106 h_107 => ?_))
          rcases h_107 with ⟨hc_109, rfl, hO_110, hF_111⟩ | ⟨hc_109, rfl, rfl⟩
          · replace hO_110 : OS M_106 k (p + 2) (gu (gu R 0 k (chr t p)) 1 k (dV t (p + 1))) := hO_110
            refine z_if_eq X (pc := 303) (tgt := 310) dX5_readOrder_303 (by decide) (fun c303 => ?_) (fun c303 => ?_)
            · exact absurd c303 (by decide)
            · refine z_iconst X (pc := 306) (v := 1) dX5_readOrder_306 (by decide) ?_
              refine z_goto X (pc := 307) (tgt := 311) dX5_readOrder_307 (by decide) ?_
              exact z_zret X Y (by decide) dX5_readOrder_311 ⟨_, rfl, _, by simp [pOrd, zb, hx, c292, hc_109, c303], by simpa [pOrd, hx, c292, hc_109, c303] using hO_110, ((hO_1.2.tr hF_105).tr hF_111), by intro j i hi; simp [gu, hi], by intro _; simp [pOrd, rowIs, gu, hx, c292, hc_109, c303]⟩
          · refine z_if_eq X (pc := 303) (tgt := 310) dX5_readOrder_303 (by decide) (fun c303 => ?_) (fun c303 => ?_)
            · refine z_iconst X (pc := 310) (v := 0) dX5_readOrder_310 (by decide) ?_
              exact z_zret X Y (by decide) dX5_readOrder_311 ⟨_, rfl, _, by simp [pOrd, zb, hx, c292, hc_109, c303], by simpa [pOrd, hx, c292, hc_109, c303] using hO_104, (hO_1.2.tr hF_105), by intro j i hi; simp [gu, hi], by intro h; simp [pOrd, hx, c292, hc_109, c303] at h⟩
            · exact absurd (by decide) c303
      · exact absurd rfl hc_103
    · replace hx : chr t p = 115 := hx
      refine z_top hx ?_
      refine z_tableIn X (pc := 13) (off := 188) (tgt := 201) dX5_readOrder_13 (by decide) (by decide) (by rfl) (by decide) ?_
      refine z_aload_n X (pc := 201) 0 dX5_readOrder_201 rfl rfl ?_
      refine z_iload_n X (pc := 202) 1 dX5_readOrder_202 rfl rfl ?_
      refine z_callV X (pc := 203) (rest := []) kv_X5_readSign (c_X5_readSign E M_2 t (hT.off hO_1.2 (by decide)) k p ((gu R 0 k (chr t p))) hO_1.1 (by omega) (by omega) (chr t p)) zk_13_0 (zc_13_0 E _) rfl rfl gw_610 (by decide) rfl rfl (Nat.le_of_ble_eq_true rfl) dX5_readOrder_203 (zk_ri (fun v_114 M_112 h_113 => ?_))
      rcases h_113 with ⟨hc_115, rfl, hO_116, hF_117⟩ | ⟨hc_115, rfl, rfl⟩
      · replace hO_116 : OS M_112 k (p + 1) (gu R 0 k (chr t p)) := hO_116
        refine z_if_eq X (pc := 206) (tgt := 244) dX5_readOrder_206 (by decide) (fun c206 => ?_) (fun c206 => ?_)
        · exact absurd c206 (by decide)
        · refine z_aload_n X (pc := 209) 0 dX5_readOrder_209 rfl rfl ?_
          refine z_aload_n X (pc := 210) 0 dX5_readOrder_210 rfl rfl ?_
          refine z_get X (pc := 211) 2 zk_13_0 (zc_13_0 E _) rfl inlX5 (by decide) gw_112 rfl rfl dX5_readOrder_211 ?_
          refine z_callV X (pc := 214) (rest := []) kv_X5_readDigit (c_X5_readDigit_1 E M_112 t (hT.off (hO_1.2.tr hF_117) (by decide)) k (p + 1) ((gu R 0 k (chr t p))) hO_116 hk (by omega)) zk_13_0 (zc_13_0 E _) rfl rfl gw_614 (by decide) rfl rfl (Nat.le_of_ble_eq_true rfl) dX5_readOrder_214 (zk_ri (fun v_120 M_118 h_119 => ?_))
          rcases h_119 with ⟨hc_121, rfl, hO_122, hF_123⟩ | ⟨hc_121, rfl, rfl⟩
          · replace hO_122 : OS M_118 k (p + 2) (gu (gu R 0 k (chr t p)) 1 k (dV t (p + 1))) := hO_122
            refine z_if_eq X (pc := 217) (tgt := 244) dX5_readOrder_217 (by decide) (fun c217 => ?_) (fun c217 => ?_)
            · exact absurd c217 (by decide)
            · refine z_aload_n X (pc := 220) 0 dX5_readOrder_220 rfl rfl ?_
              refine z_bipush X (pc := 221) (v := 58) dX5_readOrder_221 (by decide) ?_
              refine z_callV X (pc := 223) (rest := []) kv_X5_readSign (c_X5_readSign E M_118 t (hT.off ((hO_1.2.tr hF_117).tr hF_123) (by decide)) k (p + 2) ((gu (gu R 0 k (chr t p)) 1 k (dV t (p + 1)))) hO_122 (by omega) (by omega) 58) zk_13_0 (zc_13_0 E _) rfl rfl gw_610 (by decide) rfl rfl (Nat.le_of_ble_eq_true rfl) dX5_readOrder_223 (zk_ri (fun v_126 M_124 h_125 => ?_))
              rcases h_125 with ⟨hc_127, rfl, hO_128, hF_129⟩ | ⟨hc_127, rfl, rfl⟩
              · replace hO_128 : OS M_124 k (p + 3) (gu (gu R 0 k (chr t p)) 1 k (dV t (p + 1))) := hO_128
                refine z_if_eq X (pc := 226) (tgt := 244) dX5_readOrder_226 (by decide) (fun c226 => ?_) (fun c226 => ?_)
                · exact absurd c226 (by decide)
                · refine z_aload_n X (pc := 229) 0 dX5_readOrder_229 rfl rfl ?_
                  refine z_aload_n X (pc := 230) 0 dX5_readOrder_230 rfl rfl ?_
                  refine z_get X (pc := 231) 3 zk_13_0 (zc_13_0 E _) rfl inlX5 (by decide) gw_113 rfl rfl dX5_readOrder_231 ?_
                  refine z_callV X (pc := 234) (rest := []) kv_X5_readDigit (c_X5_readDigit_2 E M_124 t (hT.off (((hO_1.2.tr hF_117).tr hF_123).tr hF_129) (by decide)) k (p + 3) ((gu (gu R 0 k (chr t p)) 1 k (dV t (p + 1)))) hO_128 hk (by omega)) zk_13_0 (zc_13_0 E _) rfl rfl gw_614 (by decide) rfl rfl (Nat.le_of_ble_eq_true rfl) dX5_readOrder_234 (zk_ri (fun v_132 M_130 h_131 => ?_))
                  rcases h_131 with ⟨hc_133, rfl, hO_134, hF_135⟩ | ⟨hc_133, rfl, rfl⟩
                  · replace hO_134 : OS M_130 k (p + 4) (gu (gu (gu R 0 k (chr t p)) 1 k (dV t (p + 1))) 2 k (dV t (p + 3))) := hO_134
                    refine z_if_eq X (pc := 237) (tgt := 244) dX5_readOrder_237 (by decide) (fun c237 => ?_) (fun c237 => ?_)
                    · exact absurd c237 (by decide)
                    · refine z_iconst X (pc := 240) (v := 1) dX5_readOrder_240 (by decide) ?_
                      refine z_goto X (pc := 241) (tgt := 245) dX5_readOrder_241 (by decide) ?_
                      exact z_zret X Y (by decide) dX5_readOrder_245 ⟨_, rfl, _, by simp [pOrd, zb, hx, c206, hc_121, c217, hc_127, c226, hc_133, c237], by simpa [pOrd, hx, c206, hc_121, c217, hc_127, c226, hc_133, c237] using hO_134, ((((hO_1.2.tr hF_117).tr hF_123).tr hF_129).tr hF_135), by intro j i hi; simp [gu, hi], by intro _; simp [pOrd, rowIs, gu, hx, c206, hc_121, c217, hc_127, c226, hc_133, c237]⟩
                  · refine z_if_eq X (pc := 237) (tgt := 244) dX5_readOrder_237 (by decide) (fun c237 => ?_) (fun c237 => ?_)
                    · refine z_iconst X (pc := 244) (v := 0) dX5_readOrder_244 (by decide) ?_
                      exact z_zret X Y (by decide) dX5_readOrder_245 ⟨_, rfl, _, by simp [pOrd, zb, hx, c206, hc_121, c217, hc_127, c226, hc_133, c237], by simpa [pOrd, hx, c206, hc_121, c217, hc_127, c226, hc_133, c237] using hO_128, (((hO_1.2.tr hF_117).tr hF_123).tr hF_129), by intro j i hi; simp [gu, hi], by intro h; simp [pOrd, hx, c206, hc_121, c217, hc_127, c226, hc_133, c237] at h⟩
                    · exact absurd (by decide) c237
              · refine z_if_eq X (pc := 226) (tgt := 244) dX5_readOrder_226 (by decide) (fun c226 => ?_) (fun c226 => ?_)
                · refine z_iconst X (pc := 244) (v := 0) dX5_readOrder_244 (by decide) ?_
                  exact z_zret X Y (by decide) dX5_readOrder_245 ⟨_, rfl, _, by simp [pOrd, zb, hx, c206, hc_121, c217, hc_127, c226], by simpa [pOrd, hx, c206, hc_121, c217, hc_127, c226] using hO_122, ((hO_1.2.tr hF_117).tr hF_123), by intro j i hi; simp [gu, hi], by intro h; simp [pOrd, hx, c206, hc_121, c217, hc_127, c226] at h⟩
                · exact absurd (by decide) c226
          · refine z_if_eq X (pc := 217) (tgt := 244) dX5_readOrder_217 (by decide) (fun c217 => ?_) (fun c217 => ?_)
            · refine z_iconst X (pc := 244) (v := 0) dX5_readOrder_244 (by decide) ?_
              exact z_zret X Y (by decide) dX5_readOrder_245 ⟨_, rfl, _, by simp [pOrd, zb, hx, c206, hc_121, c217], by simpa [pOrd, hx, c206, hc_121, c217] using hO_116, (hO_1.2.tr hF_117), by intro j i hi; simp [gu, hi], by intro h; simp [pOrd, hx, c206, hc_121, c217] at h⟩
            · exact absurd (by decide) c217
      · exact absurd rfl hc_115
    · replace hx : chr t p = 116 := hx
      refine z_top hx ?_
      refine z_tableIn X (pc := 13) (off := 274) (tgt := 287) dX5_readOrder_13 (by decide) (by decide) (by rfl) (by decide) ?_
      refine z_aload_n X (pc := 287) 0 dX5_readOrder_287 rfl rfl ?_
      refine z_iload_n X (pc := 288) 1 dX5_readOrder_288 rfl rfl ?_
      refine z_callV X (pc := 289) (rest := []) kv_X5_readSign (c_X5_readSign E M_2 t (hT.off hO_1.2 (by decide)) k p ((gu R 0 k (chr t p))) hO_1.1 (by omega) (by omega) (chr t p)) zk_13_0 (zc_13_0 E _) rfl rfl gw_610 (by decide) rfl rfl (Nat.le_of_ble_eq_true rfl) dX5_readOrder_289 (zk_ri (fun v_138 M_136 h_137 => ?_))
      rcases h_137 with ⟨hc_139, rfl, hO_140, hF_141⟩ | ⟨hc_139, rfl, rfl⟩
      · replace hO_140 : OS M_136 k (p + 1) (gu R 0 k (chr t p)) := hO_140
        refine z_if_eq X (pc := 292) (tgt := 310) dX5_readOrder_292 (by decide) (fun c292 => ?_) (fun c292 => ?_)
        · exact absurd c292 (by decide)
        · refine z_aload_n X (pc := 295) 0 dX5_readOrder_295 rfl rfl ?_
          refine z_aload_n X (pc := 296) 0 dX5_readOrder_296 rfl rfl ?_
          refine z_get X (pc := 297) 2 zk_13_0 (zc_13_0 E _) rfl inlX5 (by decide) gw_112 rfl rfl dX5_readOrder_297 ?_
          refine z_callV X (pc := 300) (rest := []) kv_X5_readDigit (c_X5_readDigit_1 E M_136 t (hT.off (hO_1.2.tr hF_141) (by decide)) k (p + 1) ((gu R 0 k (chr t p))) hO_140 hk (by omega)) zk_13_0 (zc_13_0 E _) rfl rfl gw_614 (by decide) rfl rfl (Nat.le_of_ble_eq_true rfl) dX5_readOrder_300 (zk_ri (fun v_144 M_142 h_143 => ?_))
          rcases h_143 with ⟨hc_145, rfl, hO_146, hF_147⟩ | ⟨hc_145, rfl, rfl⟩
          · replace hO_146 : OS M_142 k (p + 2) (gu (gu R 0 k (chr t p)) 1 k (dV t (p + 1))) := hO_146
            refine z_if_eq X (pc := 303) (tgt := 310) dX5_readOrder_303 (by decide) (fun c303 => ?_) (fun c303 => ?_)
            · exact absurd c303 (by decide)
            · refine z_iconst X (pc := 306) (v := 1) dX5_readOrder_306 (by decide) ?_
              refine z_goto X (pc := 307) (tgt := 311) dX5_readOrder_307 (by decide) ?_
              exact z_zret X Y (by decide) dX5_readOrder_311 ⟨_, rfl, _, by simp [pOrd, zb, hx, c292, hc_145, c303], by simpa [pOrd, hx, c292, hc_145, c303] using hO_146, ((hO_1.2.tr hF_141).tr hF_147), by intro j i hi; simp [gu, hi], by intro _; simp [pOrd, rowIs, gu, hx, c292, hc_145, c303]⟩
          · refine z_if_eq X (pc := 303) (tgt := 310) dX5_readOrder_303 (by decide) (fun c303 => ?_) (fun c303 => ?_)
            · refine z_iconst X (pc := 310) (v := 0) dX5_readOrder_310 (by decide) ?_
              exact z_zret X Y (by decide) dX5_readOrder_311 ⟨_, rfl, _, by simp [pOrd, zb, hx, c292, hc_145, c303], by simpa [pOrd, hx, c292, hc_145, c303] using hO_140, (hO_1.2.tr hF_141), by intro j i hi; simp [gu, hi], by intro h; simp [pOrd, hx, c292, hc_145, c303] at h⟩
            · exact absurd (by decide) c303
      · exact absurd rfl hc_139
    · replace hx : chr t p = 117 := hx
      refine z_top hx ?_
      refine z_tableIn X (pc := 13) (off := 274) (tgt := 287) dX5_readOrder_13 (by decide) (by decide) (by rfl) (by decide) ?_
      refine z_aload_n X (pc := 287) 0 dX5_readOrder_287 rfl rfl ?_
      refine z_iload_n X (pc := 288) 1 dX5_readOrder_288 rfl rfl ?_
      refine z_callV X (pc := 289) (rest := []) kv_X5_readSign (c_X5_readSign E M_2 t (hT.off hO_1.2 (by decide)) k p ((gu R 0 k (chr t p))) hO_1.1 (by omega) (by omega) (chr t p)) zk_13_0 (zc_13_0 E _) rfl rfl gw_610 (by decide) rfl rfl (Nat.le_of_ble_eq_true rfl) dX5_readOrder_289 (zk_ri (fun v_150 M_148 h_149 => ?_))
      rcases h_149 with ⟨hc_151, rfl, hO_152, hF_153⟩ | ⟨hc_151, rfl, rfl⟩
      · replace hO_152 : OS M_148 k (p + 1) (gu R 0 k (chr t p)) := hO_152
        refine z_if_eq X (pc := 292) (tgt := 310) dX5_readOrder_292 (by decide) (fun c292 => ?_) (fun c292 => ?_)
        · exact absurd c292 (by decide)
        · refine z_aload_n X (pc := 295) 0 dX5_readOrder_295 rfl rfl ?_
          refine z_aload_n X (pc := 296) 0 dX5_readOrder_296 rfl rfl ?_
          refine z_get X (pc := 297) 2 zk_13_0 (zc_13_0 E _) rfl inlX5 (by decide) gw_112 rfl rfl dX5_readOrder_297 ?_
          refine z_callV X (pc := 300) (rest := []) kv_X5_readDigit (c_X5_readDigit_1 E M_148 t (hT.off (hO_1.2.tr hF_153) (by decide)) k (p + 1) ((gu R 0 k (chr t p))) hO_152 hk (by omega)) zk_13_0 (zc_13_0 E _) rfl rfl gw_614 (by decide) rfl rfl (Nat.le_of_ble_eq_true rfl) dX5_readOrder_300 (zk_ri (fun v_156 M_154 h_155 => ?_))
          rcases h_155 with ⟨hc_157, rfl, hO_158, hF_159⟩ | ⟨hc_157, rfl, rfl⟩
          · replace hO_158 : OS M_154 k (p + 2) (gu (gu R 0 k (chr t p)) 1 k (dV t (p + 1))) := hO_158
            refine z_if_eq X (pc := 303) (tgt := 310) dX5_readOrder_303 (by decide) (fun c303 => ?_) (fun c303 => ?_)
            · exact absurd c303 (by decide)
            · refine z_iconst X (pc := 306) (v := 1) dX5_readOrder_306 (by decide) ?_
              refine z_goto X (pc := 307) (tgt := 311) dX5_readOrder_307 (by decide) ?_
              exact z_zret X Y (by decide) dX5_readOrder_311 ⟨_, rfl, _, by simp [pOrd, zb, hx, c292, hc_157, c303], by simpa [pOrd, hx, c292, hc_157, c303] using hO_158, ((hO_1.2.tr hF_153).tr hF_159), by intro j i hi; simp [gu, hi], by intro _; simp [pOrd, rowIs, gu, hx, c292, hc_157, c303]⟩
          · refine z_if_eq X (pc := 303) (tgt := 310) dX5_readOrder_303 (by decide) (fun c303 => ?_) (fun c303 => ?_)
            · refine z_iconst X (pc := 310) (v := 0) dX5_readOrder_310 (by decide) ?_
              exact z_zret X Y (by decide) dX5_readOrder_311 ⟨_, rfl, _, by simp [pOrd, zb, hx, c292, hc_157, c303], by simpa [pOrd, hx, c292, hc_157, c303] using hO_152, (hO_1.2.tr hF_153), by intro j i hi; simp [gu, hi], by intro h; simp [pOrd, hx, c292, hc_157, c303] at h⟩
            · exact absurd (by decide) c303
      · exact absurd rfl hc_151

def rm_X5_read : Room := { frames := 5, cells := 0, slots := 0, locals := 104 }
theorem kv_X5_read : KV yX5_read RX5 cX5_read 2 (some .int) 0 := ⟨⟨gw_595, gw_596, gw_26, gw_597⟩, by decide +kernel⟩
set_option maxRecDepth 100000 in
set_option maxHeartbeats 4000000 in
theorem c_X5_read (E : ZE) (M : Mem) (t : List Int32) (hT : TS M 14 t) : Mt E yX5_read cX5_read 2 (some .int) rm_X5_read [.ref (za E 13 0)] M (RI (fun v M1 => RdP t M v M1)) := by
  have hl0 : t.length ≤ 60 := hT.2.1
  refine z_met (own := RX5) (lv := [(0, .ref (za E 13 0))]) (by decide) rfl (Nat.le_of_ble_eq_true rfl) rfl (fun gg X Y => ?_)
  refine z_aload_n X (pc := 0) 0 dX5_read_0 rfl rfl ?_
  refine z_iconst X (pc := 1) (v := 0) dX5_read_1 (by decide) ?_
  refine z_put X (pc := 2) 6 zk_13_0 (zc_13_0 E _) rfl inlX5 tyX5 tyX5_ok nmX5 (by decide) gw_598 rfl rfl (ty := .int) (by decide +kernel) rfl rfl (Nat.le_of_ble_eq_true rfl) dX5_read_2 rfl ?_
  refine z_aload_n X (pc := 5) 0 dX5_read_5 rfl rfl ?_
  refine z_iconst X (pc := 6) (v := 0) dX5_read_6 (by decide) ?_
  refine z_put X (pc := 7) 5 zk_13_0 (zc_13_0 E _) rfl inlX5 tyX5 tyX5_ok nmX5 (by decide) gw_599 rfl rfl (ty := .int) (by decide +kernel) rfl rfl (Nat.le_of_ble_eq_true rfl) dX5_read_7 rfl ?_
  refine z_iconst X (pc := 10) (v := 0) dX5_read_10 (by decide) ?_
  refine z_istore_n X (pc := 11) (lv1 := [(1, .int 0), (0, .ref (za E 13 0))]) dX5_read_11 rfl (by decide) rfl ?_
  refine z_sub (lv' := [(1, .int (nI 0)), (0, .ref (za E 13 0))]) [0, 1] rfl ?_
  refine z_loop (30) 12 (σ := Mem × Nat × (Nat → Nat → Int32) × List Ord) (fun i s => RdI t M i s) (fun i s => (s.1, [(1, .int (nI i)), (0, .ref (za E 13 0))])) ?_ 0 ⟨(up3 (up3 M 13 0 6 0) 13 0 5 0), 0, fun j i => M 13 (5 + 2 * j) i, []⟩ (Nat.zero_le _) RdI.init
  intro i s hi12 hJ12 ih12
  obtain ⟨M1, p, R, dn⟩ := s
  show Z gg E M1 [(1, .int (nI i)), (0, .ref (za E 13 0))] 12 []
  replace hJ12 : RdI t M i (M1, p, R, dn) := hJ12
  obtain ⟨hO, hF, hpl, hdl, -, -, -⟩ := id hJ12
  replace hO : OS M1 i p R := hO
  replace hF : Off 13 M M1 := hF
  replace hpl : p ≤ t.length := hpl
  have hq := pOrd_le hpl
  refine z_iload_n X (pc := 12) 0 dX5_read_12 rfl rfl ?_
  refine z_bipush X (pc := 13) (v := 30) dX5_read_13 (by decide) ?_
  refine z_nicmp_ge X (pc := 15) (a := i) (b := 30) (tgt := 87) dX5_read_15 (by decide) (by omega) (by omega) (fun c15 => ?_) (fun c15 => ?_)
  · refine z_aload_n X (pc := 87) 1 dX5_read_87 rfl rfl ?_
    refine z_get X (pc := 88) 6 zk_13_0 (zc_13_0 E _) rfl inlX5 (by decide) gw_598 rfl rfl dX5_read_88 ?_
    refine z_top (y := (nI p)) hO.2.1 ?_
    exact z_iret X Y dX5_read_91 ⟨_, rfl, RdI.bad hJ12 hF (by omega) (by rw [show 30 - i = 0 by omega]; rfl)⟩
  · refine z_aload_n X (pc := 18) 1 dX5_read_18 rfl rfl ?_
    refine z_aload_n X (pc := 19) 1 dX5_read_19 rfl rfl ?_
    refine z_get X (pc := 20) 0 zk_13_0 (zc_13_0 E _) rfl inlX5 (by decide) gw_109 rfl rfl dX5_read_20 ?_
    refine z_aload_n X (pc := 23) 1 dX5_read_23 rfl rfl ?_
    refine z_get X (pc := 24) 6 zk_13_0 (zc_13_0 E _) rfl inlX5 (by decide) gw_598 rfl rfl dX5_read_24 ?_
    refine z_top (y := (nI p)) hO.2.1 ?_
    refine z_callV X (pc := 27) (rest := [.ref (za E 13 0)]) kv_X8_at (c_X8_at_14 E M1 t (hT.off hF (by decide)) (nI p)) zk_14_0 (zc_14_0 E _) rfl rfl gw_600 (by decide) rfl rfl (Nat.le_of_ble_eq_true rfl) dX5_read_27 (zk_i ?_)
    refine z_top (y := (chr t p)) (atL_nI (by omega) (by omega)) ?_
    refine z_callV X (pc := 30) (rest := []) kv_X5_readOrder (c_X5_readOrder E M1 t (hT.off hF (by decide)) i p R hO (by omega) (by omega) (by omega)) zk_13_0 (zc_13_0 E _) rfl rfl gw_605 (by decide) rfl rfl (Nat.le_of_ble_eq_true rfl) dX5_read_30 (zk_ri (fun v_3 M_1 h_2 => ?_))
    obtain ⟨R1, rfl, hO1, hF1, hR1, hr1⟩ := h_2
    refine z_bif_ne X (pc := 33) (tgt := 41) dX5_read_33 (by decide) (fun c33 => ?_) (fun c33 => ?_)
    · refine z_aload_n X (pc := 41) 1 dX5_read_41 rfl rfl ?_
      refine z_dup X (pc := 42) dX5_read_42 rfl ?_
      refine z_get X (pc := 43) 5 zk_13_0 (zc_13_0 E _) rfl inlX5 (by decide) gw_599 rfl rfl dX5_read_43 ?_
      refine z_top (y := (nI i)) hO1.1 ?_
      refine z_iconst X (pc := 46) (v := 1) dX5_read_46 (by decide) ?_
      refine z_iadd X (pc := 47) dX5_read_47 ?_
      refine z_put X (pc := 48) 5 zk_13_0 (zc_13_0 E _) rfl inlX5 tyX5 tyX5_ok nmX5 (by decide) gw_599 rfl rfl (ty := .int) (by decide +kernel) rfl rfl (Nat.le_of_ble_eq_true rfl) dX5_read_48 rfl ?_
      refine z_gen (P := fun M1 => OS M1 (i + 1) (pOrd t p).2.1 R1 ∧ Off 13 M M1) ⟨hO1.count (nI_1 _), (hF.tr hF1).up⟩ (fun M_5 hO_4 => ?_)
      refine z_aload_n X (pc := 51) 1 dX5_read_51 rfl rfl ?_
      refine z_get X (pc := 52) 6 zk_13_0 (zc_13_0 E _) rfl inlX5 (by decide) gw_598 rfl rfl dX5_read_52 ?_
      refine z_top (y := (nI ((pOrd t p).2.1))) hO_4.1.2.1 ?_
      refine z_aload_n X (pc := 55) 1 dX5_read_55 rfl rfl ?_
      refine z_get X (pc := 56) 0 zk_13_0 (zc_13_0 E _) rfl inlX5 (by decide) gw_109 rfl rfl dX5_read_56 ?_
      refine z_callV X (pc := 59) (rest := [.int (nI ((pOrd t p).2.1))]) kv_X8_length (c_X8_length_14 E M_5 t (hT.off hO_4.2 (by decide))) zk_14_0 (zc_14_0 E _) rfl rfl gw_626 (by decide) rfl rfl (Nat.le_of_ble_eq_true rfl) dX5_read_59 (zk_i ?_)
      refine z_nicmp_ne X (pc := 62) (a := (pOrd t p).2.1) (b := t.length) (tgt := 67) dX5_read_62 (by decide) (by omega) (by omega) (fun c62 => ?_) (fun c62 => ?_)
      · refine z_aload_n X (pc := 67) 1 dX5_read_67 rfl rfl ?_
        refine z_bipush X (pc := 68) (v := 59) dX5_read_68 (by decide) ?_
        refine z_callV X (pc := 70) (rest := []) kv_X5_readSign (c_X5_readSign E M_5 t (hT.off hO_4.2 (by decide)) (i + 1) ((pOrd t p).2.1) R1 hO_4.1 (by omega) (by omega) 59) zk_13_0 (zc_13_0 E _) rfl rfl gw_610 (by decide) rfl rfl (Nat.le_of_ble_eq_true rfl) dX5_read_70 (zk_ri (fun v_8 M_6 h_7 => ?_))
        rcases h_7 with ⟨hc_9, rfl, hO_10, hF_11⟩ | ⟨hc_9, rfl, rfl⟩
        · replace hO_10 : OS M_6 (i + 1) ((pOrd t p).2.1 + 1) R1 := hO_10
          refine z_if_ne X (pc := 73) (tgt := 81) dX5_read_73 (by decide) (fun c73 => ?_) (fun c73 => ?_)
          · refine z_iinc X (pc := 81) (v := (nI (i + 1))) (lv1 := [(1, .int (nI (i + 1))), (0, .ref (za E 13 0))]) 0 dX5_read_81 rfl (nI_1 _) (by decide) rfl ?_
            refine z_goto X (pc := 84) (tgt := 12) dX5_read_84 (by decide) ?_
            refine z_sub (lv' := [(1, .int (nI (i + 1))), (0, .ref (za E 13 0))]) [0, 1] rfl ?_
            exact ih12 ⟨M_6, (pOrd t p).2.1 + 1, R1, dn ++ [(pOrd t p).2.2]⟩ (by omega) (RdI.go hJ12 (by omega) hO_10 (hO_4.2.tr hF_11) hR1 c33 c62 hc_9 (hr1 c33))
          · exact absurd c73 (by decide)
        · refine z_if_ne X (pc := 73) (tgt := 81) dX5_read_73 (by decide) (fun c73 => ?_) (fun c73 => ?_)
          · exact absurd c73 (by decide)
          · refine z_aload_n X (pc := 76) 1 dX5_read_76 rfl rfl ?_
            refine z_get X (pc := 77) 6 zk_13_0 (zc_13_0 E _) rfl inlX5 (by decide) gw_598 rfl rfl dX5_read_77 ?_
            refine z_top (y := (nI ((pOrd t p).2.1))) hO_4.1.2.1 ?_
            exact z_iret X Y dX5_read_80 ⟨_, rfl, RdI.bad hJ12 hO_4.2 (by omega) (by rw [pT_sep (by omega) c33 c62 hc_9])⟩
      · refine z_iconst X (pc := 65) (v := (-1)) dX5_read_65 (by decide) ?_
        exact z_iret X Y dX5_read_66 ⟨_, rfl, RdI.ends hJ12 (by omega) hO_4.1 hO_4.2 hR1 c33 c62 (hr1 c33)⟩
    · refine z_aload_n X (pc := 36) 1 dX5_read_36 rfl rfl ?_
      refine z_get X (pc := 37) 6 zk_13_0 (zc_13_0 E _) rfl inlX5 (by decide) gw_598 rfl rfl dX5_read_37 ?_
      refine z_top (y := (nI ((pOrd t p).2.1))) hO1.2.1 ?_
      exact z_iret X Y dX5_read_40 ⟨_, rfl, RdI.bad hJ12 (hF.tr hF1) (by omega) (by rw [pT_bad (by omega) c33])⟩
