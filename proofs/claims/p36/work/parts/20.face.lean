theorem zk_10_0 : zkd 10 0 ≠ 0 := by decide
theorem zc_10_0 (E : ZE) (M : Mem) : zcell E M 10 0 = .inr (9, [.ref (za E 10 1), .ref (za E 10 2), .ref (za E 10 3)]) := rfl
/-! the class's history: newest first -/
def HX0 (M : Mem) (nx : Nat) (hs : List LG) : Prop := M 18 0 1 = nI nx ∧ nx < 9 ∧ M 18 0 2 = nI hs.length ∧ hs.length ≤ 8 ∧ ∀ i, i < hs.length → gX (M ((nx + 8 - i) % 9)) = hs.getD i (fun _ _ => 0)
def hsN (g : LG) (hs : List LG) (v : Int32) : List LG := if v < 0 then hs else (g :: hs).take 8
def PX (M : Mem) (g : LG) (hs : List LG) (o : Chg) (v : Int32) (M1 : Mem) : Prop := v = o.1 ∧ gX (M1 9) = o.2.1 ∧ RSn M1 o.2.2 ∧ (∃ nx, HX0 M1 nx (hsN g hs v)) ∧ ∀ b, 10 ≤ b → b ≠ 11 → b ≠ 12 → b ≠ 16 → b ≠ 18 → M1 b = M b
theorem mk_g {M M1 : Mem} {g : LG} {nx : Nat} (hm : gX (M1 nx) = gX (M 9) ∧ ∀ b', b' ≠ nx → M1 b' = M b') (hx : nx < 9) (hg : gX (M 9) = g) : gX (M1 9) = g := by rw [hm.2 9 (by omega)]; exact hg
theorem PX_18 {M M1 M2 : Mem} {nx k : Nat} {o : Chg} {v x : Int32} (hm : gX (M1 nx) = gX (M 9) ∧ ∀ b', b' ≠ nx → M1 b' = M b') (ho : OX M1 o v M2) (hx : nx < 9) (h : M 18 0 k = x) : M2 18 0 k = x := by
  rw [ho.2.2.2 18 (by decide) (by decide) (by decide) (by decide), hm.2 18 (by omega)]
  exact h
theorem PX.of {M M1 M2 M3 : Mem} {g : LG} {hs : List LG} {nx : Nat} {o : Chg} {v v1 : Int32} (hg : gX (M 9) = g) (hH : HX0 M nx hs) (hm : gX (M1 nx) = gX (M 9) ∧ ∀ b', b' ≠ nx → M1 b' = M b') (ho : OX M1 o v M2)
    (hset : v1 = v ∧ ((v < 0 ∧ M3 = M2) ∨ (¬ v < 0 ∧ M3 = up3 (up3 M2 18 0 1 (nI ((nx + 1) % 9))) 18 0 2 (nI (min (hs.length + 1) 8))))) : PX M g hs o v1 M3 := by
  obtain ⟨h1, h2, h3, h4, h5⟩ := hH
  obtain ⟨o1, o2, o3, o4⟩ := ho
  obtain ⟨rfl, hset⟩ := hset
  have hq : ∀ i, i < hs.length → M2 ((nx + 8 - i) % 9) = M ((nx + 8 - i) % 9) := fun i hi => by
    rw [o4 _ (by omega) (by omega) (by omega) (by omega), hm.2 _ (by omega)]
  rcases hset with ⟨hv, rfl⟩ | ⟨hv, rfl⟩
  · refine ⟨o1, o2, o3, ⟨nx, ?_⟩, fun b hb h11 h12 h16 h18 => by rw [o4 b (by omega) h11 h12 h16, hm.2 b (by omega)]⟩
    unfold hsN
    rw [if_pos hv]
    refine ⟨?_, h2, ?_, h4, fun i hi => by rw [hq i hi]; exact h5 i hi⟩
    · rw [o4 18 (by decide) (by decide) (by decide) (by decide), hm.2 18 (by omega)]; exact h1
    · rw [o4 18 (by decide) (by decide) (by decide) (by decide), hm.2 18 (by omega)]; exact h3
  · have hoff : ∀ b, b ≠ 18 → up3 (up3 M2 18 0 1 (nI ((nx + 1) % 9))) 18 0 2 (nI (min (hs.length + 1) 8)) b = M2 b := fun b hb => by rw [up3_off hb, up3_off hb]
    refine ⟨o1, by rw [hoff 9 (by decide)]; exact o2, o3.like (hoff 16 (by decide)), ⟨(nx + 1) % 9, ?_⟩, fun b hb h11 h12 h16 h18 => by rw [hoff b h18, o4 b (by omega) h11 h12 h16, hm.2 b (by omega)]⟩
    unfold hsN
    rw [if_neg hv]
    have hl : ((g :: hs).take 8).length = min (hs.length + 1) 8 := by rw [List.length_take, List.length_cons, Nat.min_comm]
    refine ⟨by rw [up3_ne (by decide)]; exact up3_same, by omega, by rw [hl]; exact up3_same, by rw [hl]; omega, fun i hi => ?_⟩
    rw [hl] at hi
    have hi2 : i < hs.length + 1 := by omega
    have hi8 : i < 8 := by omega
    rw [hoff _ (by omega)]
    have e : ((g :: hs).take 8).getD i (fun _ _ => 0) = (g :: hs).getD i (fun _ _ => 0) := by
      simp only [List.getD]
      rw [List.getElem?_take_of_lt hi8]
    rw [e]
    cases i with
    | zero =>
      rw [show ((nx + 1) % 9 + 8 - 0) % 9 = nx by omega, o4 _ (by omega) (by omega) (by omega) (by omega), hm.1, hg]
      rfl
    | succ i =>
      rw [show ((nx + 1) % 9 + 8 - (i + 1)) % 9 = (nx + 8 - i) % 9 by omega, hq i (by omega)]
      exact h5 i (by omega)
def aUndo (g : LG) (hs : List LG) : Int32 × LG × List LG := match hs with
  | [] => (-1015, g, [])
  | g0 :: tl => (nI tl.length, g0, tl)
theorem HX_undo0 {M : Mem} {g : LG} {hs : List LG} {nx : Nat} (hg : gX (M 9) = g) (hH : HX0 M nx hs) (h : hs.length = 0) : (-1015 : Int32) = (aUndo g hs).1 ∧ gX (M 9) = (aUndo g hs).2.1 ∧ (∃ nx', HX0 M nx' (aUndo g hs).2.2) ∧ ∀ b, 10 ≤ b → b ≠ 18 → M b = M b := by
  cases hs with
  | nil => exact ⟨rfl, hg, ⟨nx, hH⟩, fun _ _ _ => rfl⟩
  | cons a tl => simp at h
theorem HX_undo {M M2 : Mem} {g : LG} {hs : List LG} {nx : Nat} (hH : HX0 M nx hs) (h : hs.length ≠ 0) (hb : gX (M2 9) = gX (up3 (up3 M 18 0 1 (nI ((nx + 8) % 9))) 18 0 2 (nI (List.length hs - 1)) ((nx + 8) % 9)) ∧ ∀ b', b' ≠ 9 → M2 b' = up3 (up3 M 18 0 1 (nI ((nx + 8) % 9))) 18 0 2 (nI (List.length hs - 1)) b') : nI (List.length hs - 1) = (aUndo g hs).1 ∧ gX (M2 9) = (aUndo g hs).2.1 ∧ (∃ nx', HX0 M2 nx' (aUndo g hs).2.2) ∧ ∀ b, 10 ≤ b → b ≠ 18 → M2 b = M b := by
  obtain ⟨h1, h2, h3, h4, h5⟩ := hH
  have hoff : ∀ b, b ≠ 18 → up3 (up3 M 18 0 1 (nI ((nx + 8) % 9))) 18 0 2 (nI (List.length hs - 1)) b = M b := fun b hb => by rw [up3_off hb, up3_off hb]
  cases hs with
  | nil => exact absurd rfl h
  | cons a tl =>
    have hl : (a :: tl).length - 1 = tl.length := by simp
    simp only [List.length_cons] at h4 h5
    refine ⟨by rw [hl]; rfl, ?_, ⟨(nx + 8) % 9, ?_⟩, fun b hb1 hb2 => by rw [hb.2 b (by omega), hoff b hb2]⟩
    · have h50 := h5 0 (by omega)
      rw [hb.1, hoff _ (by omega)]
      exact h50
    · refine ⟨by rw [hb.2 18 (by decide), up3_ne (by decide)]; exact up3_same, by omega, by rw [hb.2 18 (by decide), up3_same, hl]; rfl, by show tl.length ≤ 8; omega, fun i hi => ?_⟩
      have hi : i < tl.length := hi
      rw [hb.2 _ (by omega), hoff _ (by omega), show ((nx + 8) % 9 + 8 - i) % 9 = (nx + 8 - (i + 1)) % 9 by omega]
      exact h5 (i + 1) (by omega)
theorem save_cc {M M1 : Mem} {g : LG} {v : Int32} (h : gX (M1 10) = gX (M 9) ∧ ∀ b', b' ≠ 10 → M1 b' = M b') (hg : gX (M 9) = g) : up3 M1 17 0 2 v 9 1 0 = g 14 7 := by
  rw [up3_ne (by decide), h.2 9 (by decide), ← hg, gX_cc]
theorem rest_cc {M M1 : Mem} {g : LG} {v : Int32} (h : gX (M1 9) = gX (M 10) ∧ ∀ b', b' ≠ 9 → M1 b' = M b') (hg : gX (M 10) = g) : up3 M1 18 0 2 v 9 1 0 = g 14 7 := by
  have e : gX (M1 9) 14 7 = M1 9 1 0 := gX_cc
  rw [up3_ne (by decide), ← e, h.1, hg]
def rm_X5_count : Room := { frames := 0, cells := 0, slots := 0, locals := 0 }
theorem kv_X5_count : KV yX5_count RX5 cX5_count 1 (some .int) 0 := ⟨⟨gw_632, gw_633, gw_26, gw_634⟩, by decide +kernel⟩
set_option maxRecDepth 100000 in
set_option maxHeartbeats 4000000 in
theorem c_X5_count (E : ZE) (M : Mem) : Mt E yX5_count cX5_count 1 (some .int) rm_X5_count [.ref (za E 13 0)] M (PI (M 13 0 5) M) := by
  refine z_met (own := RX5) (lv := [(0, .ref (za E 13 0))]) (by decide) rfl (Nat.le_of_ble_eq_true rfl) rfl (fun gg X Y => ?_)
  refine z_aload_n X (pc := 0) 0 dX5_count_0 rfl rfl ?_
  refine z_get X (pc := 1) 5 zk_13_0 (zc_13_0 E _) rfl inlX5 (by decide) gw_599 rfl rfl dX5_count_1 ?_
  exact z_pret X Y dX5_count_4 rfl rfl

def rm_X10_carryOut : Room := { frames := 5, cells := 0, slots := 0, locals := 118 }
theorem kv_X10_carryOut : KV yX10_carryOut RX10 cX10_carryOut 4 (some .int) 1 := ⟨⟨gw_636, gw_637, gw_2, gw_638⟩, by decide +kernel⟩
set_option maxRecDepth 100000 in
set_option maxHeartbeats 4000000 in
theorem c_X10_carryOut (E : ZE) (M : Mem) (g : LG) (hg : gX (M 9) = g) (nc nm n : Nat) (hI : Inv g nc nm n) (rs : Rs) (hR : RSn M rs) (k : Nat) (hk : k < 30) (o : Ord) (hr : rowIs (fun j i => M 13 (5 + 2 * j) i) k o) : Mt E yX10_carryOut cX10_carryOut 4 (some .int) rm_X10_carryOut [.ref (za E 17 0), .int (nI k)] M (RI (fun v M1 => OX M (oOrder g rs o) v M1)) := by
  have hnc := hI.nc; have hnm := hI.nm; have hn := hI.c10; have hn2 := hI.m10
  refine z_met (own := RX10) (lv := [(0, .ref (za E 17 0)), (1, .int (nI k))]) (by decide) rfl (Nat.le_of_ble_eq_true rfl) rfl (fun gg X Y => ?_)
  refine z_aload_n X (pc := 0) 0 dX10_carryOut_0 rfl rfl ?_
  refine z_get X (pc := 1) 6 zk_17_0 (zc_17_0 E _) rfl inlX10 (by decide) gw_27 rfl rfl dX10_carryOut_1 ?_
  refine z_get X (pc := 4) 2 zk_13_0 (zc_13_0 E _) rfl inlX5 (by decide) gw_639 rfl rfl dX10_carryOut_4 ?_
  refine z_iload_n X (pc := 7) 1 dX10_carryOut_7 rfl rfl ?_
  refine z_callV X (pc := 8) (rest := []) kv_X7_at (c_X7_at E M 13 6 k (by decide) (by decide) (show k < 30 by omega)) zk_13_6 (zc_13_6 E _) rfl rfl gw_348 (by decide) rfl rfl (Nat.le_of_ble_eq_true rfl) dX10_carryOut_8 (zk_i ?_)
  refine z_istore_n X (pc := 11) (lv1 := [(2, .int (M 13 7 k)), (0, .ref (za E 17 0)), (1, .int (nI k))]) dX10_carryOut_11 rfl (by decide) rfl ?_
  refine z_aload_n X (pc := 12) 1 dX10_carryOut_12 rfl rfl ?_
  refine z_get X (pc := 13) 6 zk_17_0 (zc_17_0 E _) rfl inlX10 (by decide) gw_27 rfl rfl dX10_carryOut_13 ?_
  refine z_get X (pc := 16) 3 zk_13_0 (zc_13_0 E _) rfl inlX5 (by decide) gw_640 rfl rfl dX10_carryOut_16 ?_
  refine z_iload_n X (pc := 19) 2 dX10_carryOut_19 rfl rfl ?_
  refine z_callV X (pc := 20) (rest := []) kv_X7_at (c_X7_at E M 13 8 k (by decide) (by decide) (show k < 30 by omega)) zk_13_8 (zc_13_8 E _) rfl rfl gw_348 (by decide) rfl rfl (Nat.le_of_ble_eq_true rfl) dX10_carryOut_20 (zk_i ?_)
  refine z_istore_n X (pc := 23) (lv1 := [(3, .int (M 13 9 k)), (2, .int (M 13 7 k)), (0, .ref (za E 17 0)), (1, .int (nI k))]) dX10_carryOut_23 rfl (by decide) rfl ?_
  refine z_aload_n X (pc := 24) 2 dX10_carryOut_24 rfl rfl ?_
  refine z_get X (pc := 25) 6 zk_17_0 (zc_17_0 E _) rfl inlX10 (by decide) gw_27 rfl rfl dX10_carryOut_25 ?_
  refine z_get X (pc := 28) 1 zk_13_0 (zc_13_0 E _) rfl inlX5 (by decide) gw_641 rfl rfl dX10_carryOut_28 ?_
  refine z_iload_n X (pc := 31) 3 dX10_carryOut_31 rfl rfl ?_
  refine z_callV X (pc := 32) (rest := []) kv_X7_at (c_X7_at E M 13 4 k (by decide) (by decide) (show k < 30 by omega)) zk_13_4 (zc_13_4 E _) rfl rfl gw_348 (by decide) rfl rfl (Nat.le_of_ble_eq_true rfl) dX10_carryOut_32 (zk_i ?_)
  refine z_top (y := o.1) hr.1 ?_
  by_cases hs : (o.1).toInt < 97 ∨ (117 : Int) < (o.1).toInt
  · have e97 : ¬ o.1 = 97 := by intro h; rw [h] at hs; revert hs; decide
    have e104 : ¬ o.1 = 104 := by intro h; rw [h] at hs; revert hs; decide
    have e109 : ¬ o.1 = 109 := by intro h; rw [h] at hs; revert hs; decide
    have e115 : ¬ o.1 = 115 := by intro h; rw [h] at hs; revert hs; decide
    have e98 : ¬ o.1 = 98 := by intro h; rw [h] at hs; revert hs; decide
    have e114 : ¬ o.1 = 114 := by intro h; rw [h] at hs; revert hs; decide
    have e99 : ¬ o.1 = 99 := by intro h; rw [h] at hs; revert hs; decide
    have e112 : ¬ o.1 = 112 := by intro h; rw [h] at hs; revert hs; decide
    have e117 : ¬ o.1 = 117 := by intro h; rw [h] at hs; revert hs; decide
    have e116 : ¬ o.1 = 116 := by intro h; rw [h] at hs; revert hs; decide
    refine z_tableOut X (pc := 35) (tgt := 206) dX10_carryOut_35 hs (by decide) ?_
    refine z_sipush X (pc := 206) (v := (-1012)) dX10_carryOut_206 (by decide) ?_
    exact z_iret X Y dX10_carryOut_209 ⟨_, rfl, OX.of (g := g) (rs := rs) (by simp [oOrder, e97, e104, e109, e115, e98, e114, e99, e112, e117, e116]) (CX.same hR FY.rf (S9.rf hg))⟩
  · obtain ⟨j, hj, hx⟩ := sw_in (x := o.1) 97 20 (by decide) (by simpa using hs)
    rcases (show j = 0 ∨ j = 1 ∨ j = 2 ∨ j = 3 ∨ j = 4 ∨ j = 5 ∨ j = 6 ∨ j = 7 ∨ j = 8 ∨ j = 9 ∨ j = 10 ∨ j = 11 ∨ j = 12 ∨ j = 13 ∨ j = 14 ∨ j = 15 ∨ j = 16 ∨ j = 17 ∨ j = 18 ∨ j = 19 ∨ j = 20 by omega) with rfl | rfl | rfl | rfl | rfl | rfl | rfl | rfl | rfl | rfl | rfl | rfl | rfl | rfl | rfl | rfl | rfl | rfl | rfl | rfl | rfl
    · replace hx : o.1 = 97 := hx
      refine z_top hx ?_
      refine z_tableIn X (pc := 35) (off := 135) (tgt := 170) dX10_carryOut_35 (by decide) (by decide) (by rfl) (by decide) ?_
      refine z_aload_n X (pc := 170) 2 dX10_carryOut_170 rfl rfl ?_
      refine z_callV X (pc := 171) (rest := []) kv_X10_beginSeason (c_X10_beginSeason E M g (And.left (S9.rf hg)) nc nm n hI rs hR ) zk_17_0 (zc_17_0 E _) rfl rfl gw_237 (by decide) rfl rfl (Nat.le_of_ble_eq_true rfl) dX10_carryOut_171 (zk_ri (fun v_3 M_1 h_2 => ?_))
      exact z_iret X Y dX10_carryOut_174 ⟨_, rfl, by rw [show oOrder g rs o = oSeason g rs  from by simp [oOrder, hx]]; exact h_2⟩
    · replace hx : o.1 = 98 := hx
      refine z_top hx ?_
      refine z_tableIn X (pc := 35) (off := 140) (tgt := 175) dX10_carryOut_35 (by decide) (by decide) (by rfl) (by decide) ?_
      refine z_eq (lv' := [(3, .int (o.2.2.1)), (2, .int (o.2.1)), (0, .ref (za E 17 0)), (1, .int (nI k))]) (by rw [show M 13 7 k = o.2.1 from hr.2.1 (by rw [hx]; decide), show M 13 9 k = o.2.2.1 from hr.2.2.1 (by rw [hx]; decide)]) rfl ?_
      refine z_aload_n X (pc := 175) 2 dX10_carryOut_175 rfl rfl ?_
      refine z_iload_n X (pc := 176) 1 dX10_carryOut_176 rfl rfl ?_
      refine z_iload_n X (pc := 177) 0 dX10_carryOut_177 rfl rfl ?_
      refine z_callV X (pc := 178) (rest := []) kv_X10_takeBid (c_X10_takeBid E M g (And.left (S9.rf hg)) nc nm n hI rs hR o.2.1 o.2.2.1) zk_17_0 (zc_17_0 E _) rfl rfl gw_337 (by decide) rfl rfl (Nat.le_of_ble_eq_true rfl) dX10_carryOut_178 (zk_ri (fun v_6 M_4 h_5 => ?_))
      exact z_iret X Y dX10_carryOut_181 ⟨_, rfl, by rw [show oOrder g rs o = oBid g rs o.2.1 o.2.2.1 from by simp [oOrder, hx]]; exact h_5⟩
    · replace hx : o.1 = 99 := hx
      refine z_top hx ?_
      refine z_tableIn X (pc := 35) (off := 147) (tgt := 182) dX10_carryOut_35 (by decide) (by decide) (by rfl) (by decide) ?_
      refine z_eq (lv' := [(3, .int (M 13 9 k)), (2, .int (o.2.1)), (0, .ref (za E 17 0)), (1, .int (nI k))]) (by rw [show M 13 7 k = o.2.1 from hr.2.1 (by rw [hx]; decide)]) rfl ?_
      refine z_aload_n X (pc := 182) 2 dX10_carryOut_182 rfl rfl ?_
      refine z_iload_n X (pc := 183) 1 dX10_carryOut_183 rfl rfl ?_
      refine z_callV X (pc := 184) (rest := []) kv_X10_sellCushion (c_X10_sellCushion E M g (And.left (S9.rf hg)) nc nm n hI rs hR o.2.1) zk_17_0 (zc_17_0 E _) rfl rfl gw_466 (by decide) rfl rfl (Nat.le_of_ble_eq_true rfl) dX10_carryOut_184 (zk_ri (fun v_9 M_7 h_8 => ?_))
      exact z_iret X Y dX10_carryOut_187 ⟨_, rfl, by rw [show oOrder g rs o = oSell g rs o.2.1 from by simp [oOrder, hx]]; exact h_8⟩
    · replace hx : o.1 = 100 := hx
      refine z_top hx ?_
      refine z_tableIn X (pc := 35) (off := 171) (tgt := 206) dX10_carryOut_35 (by decide) (by decide) (by rfl) (by decide) ?_
      refine z_sipush X (pc := 206) (v := (-1012)) dX10_carryOut_206 (by decide) ?_
      exact z_iret X Y dX10_carryOut_209 ⟨_, rfl, OX.of (g := g) (rs := rs) (by simp [oOrder, hx]) (CX.same hR FY.rf (S9.rf hg))⟩
    · replace hx : o.1 = 101 := hx
      refine z_top hx ?_
      refine z_tableIn X (pc := 35) (off := 171) (tgt := 206) dX10_carryOut_35 (by decide) (by decide) (by rfl) (by decide) ?_
      refine z_sipush X (pc := 206) (v := (-1012)) dX10_carryOut_206 (by decide) ?_
      exact z_iret X Y dX10_carryOut_209 ⟨_, rfl, OX.of (g := g) (rs := rs) (by simp [oOrder, hx]) (CX.same hR FY.rf (S9.rf hg))⟩
    · replace hx : o.1 = 102 := hx
      refine z_top hx ?_
      refine z_tableIn X (pc := 35) (off := 171) (tgt := 206) dX10_carryOut_35 (by decide) (by decide) (by rfl) (by decide) ?_
      refine z_sipush X (pc := 206) (v := (-1012)) dX10_carryOut_206 (by decide) ?_
      exact z_iret X Y dX10_carryOut_209 ⟨_, rfl, OX.of (g := g) (rs := rs) (by simp [oOrder, hx]) (CX.same hR FY.rf (S9.rf hg))⟩
    · replace hx : o.1 = 103 := hx
      refine z_top hx ?_
      refine z_tableIn X (pc := 35) (off := 171) (tgt := 206) dX10_carryOut_35 (by decide) (by decide) (by rfl) (by decide) ?_
      refine z_sipush X (pc := 206) (v := (-1012)) dX10_carryOut_206 (by decide) ?_
      exact z_iret X Y dX10_carryOut_209 ⟨_, rfl, OX.of (g := g) (rs := rs) (by simp [oOrder, hx]) (CX.same hR FY.rf (S9.rf hg))⟩
    · replace hx : o.1 = 104 := hx
      refine z_top hx ?_
      refine z_tableIn X (pc := 35) (off := 97) (tgt := 132) dX10_carryOut_35 (by decide) (by decide) (by rfl) (by decide) ?_
      refine z_eq (lv' := [(3, .int (o.2.2.1)), (2, .int (o.2.1)), (0, .ref (za E 17 0)), (1, .int (nI k))]) (by rw [show M 13 7 k = o.2.1 from hr.2.1 (by rw [hx]; decide), show M 13 9 k = o.2.2.1 from hr.2.2.1 (by rw [hx]; decide)]) rfl ?_
      refine z_aload_n X (pc := 132) 2 dX10_carryOut_132 rfl rfl ?_
      refine z_iload_n X (pc := 133) 1 dX10_carryOut_133 rfl rfl ?_
      refine z_iload_n X (pc := 134) 0 dX10_carryOut_134 rfl rfl ?_
      refine z_callV X (pc := 135) (rest := []) kv_X10_bringChair (c_X10_bringChair E M g (And.left (S9.rf hg)) nc nm n hI rs hR o.2.1 o.2.2.1) zk_17_0 (zc_17_0 E _) rfl rfl gw_181 (by decide) rfl rfl (Nat.le_of_ble_eq_true rfl) dX10_carryOut_135 (zk_ri (fun v_12 M_10 h_11 => ?_))
      exact z_iret X Y dX10_carryOut_138 ⟨_, rfl, by rw [show oOrder g rs o = oBringC g rs o.2.1 o.2.2.1 from by simp [oOrder, hx]]; exact h_11⟩
    · replace hx : o.1 = 105 := hx
      refine z_top hx ?_
      refine z_tableIn X (pc := 35) (off := 171) (tgt := 206) dX10_carryOut_35 (by decide) (by decide) (by rfl) (by decide) ?_
      refine z_sipush X (pc := 206) (v := (-1012)) dX10_carryOut_206 (by decide) ?_
      exact z_iret X Y dX10_carryOut_209 ⟨_, rfl, OX.of (g := g) (rs := rs) (by simp [oOrder, hx]) (CX.same hR FY.rf (S9.rf hg))⟩
    · replace hx : o.1 = 106 := hx
      refine z_top hx ?_
      refine z_tableIn X (pc := 35) (off := 171) (tgt := 206) dX10_carryOut_35 (by decide) (by decide) (by rfl) (by decide) ?_
      refine z_sipush X (pc := 206) (v := (-1012)) dX10_carryOut_206 (by decide) ?_
      exact z_iret X Y dX10_carryOut_209 ⟨_, rfl, OX.of (g := g) (rs := rs) (by simp [oOrder, hx]) (CX.same hR FY.rf (S9.rf hg))⟩
    · replace hx : o.1 = 107 := hx
      refine z_top hx ?_
      refine z_tableIn X (pc := 35) (off := 171) (tgt := 206) dX10_carryOut_35 (by decide) (by decide) (by rfl) (by decide) ?_
      refine z_sipush X (pc := 206) (v := (-1012)) dX10_carryOut_206 (by decide) ?_
      exact z_iret X Y dX10_carryOut_209 ⟨_, rfl, OX.of (g := g) (rs := rs) (by simp [oOrder, hx]) (CX.same hR FY.rf (S9.rf hg))⟩
    · replace hx : o.1 = 108 := hx
      refine z_top hx ?_
      refine z_tableIn X (pc := 35) (off := 171) (tgt := 206) dX10_carryOut_35 (by decide) (by decide) (by rfl) (by decide) ?_
      refine z_sipush X (pc := 206) (v := (-1012)) dX10_carryOut_206 (by decide) ?_
      exact z_iret X Y dX10_carryOut_209 ⟨_, rfl, OX.of (g := g) (rs := rs) (by simp [oOrder, hx]) (CX.same hR FY.rf (S9.rf hg))⟩
    · replace hx : o.1 = 109 := hx
      refine z_top hx ?_
      refine z_tableIn X (pc := 35) (off := 104) (tgt := 139) dX10_carryOut_35 (by decide) (by decide) (by rfl) (by decide) ?_
      refine z_eq (lv' := [(3, .int (o.2.2.1)), (2, .int (o.2.1)), (0, .ref (za E 17 0)), (1, .int (nI k))]) (by rw [show M 13 7 k = o.2.1 from hr.2.1 (by rw [hx]; decide), show M 13 9 k = o.2.2.1 from hr.2.2.1 (by rw [hx]; decide)]) rfl ?_
      refine z_aload_n X (pc := 139) 2 dX10_carryOut_139 rfl rfl ?_
      refine z_iload_n X (pc := 140) 1 dX10_carryOut_140 rfl rfl ?_
      refine z_iload_n X (pc := 141) 0 dX10_carryOut_141 rfl rfl ?_
      refine z_aload_n X (pc := 142) 2 dX10_carryOut_142 rfl rfl ?_
      refine z_get X (pc := 143) 6 zk_17_0 (zc_17_0 E _) rfl inlX10 (by decide) gw_27 rfl rfl dX10_carryOut_143 ?_
      refine z_get X (pc := 146) 4 zk_13_0 (zc_13_0 E _) rfl inlX5 (by decide) gw_642 rfl rfl dX10_carryOut_146 ?_
      refine z_iload_n X (pc := 149) 3 dX10_carryOut_149 rfl rfl ?_
      refine z_callV X (pc := 150) (rest := [.int (o.2.2.1), .int (o.2.1), .ref (za E 17 0)]) kv_X7_at (c_X7_at E M 13 10 k (by decide) (by decide) (show k < 30 by omega)) zk_13_10 (zc_13_10 E _) rfl rfl gw_348 (by decide) rfl rfl (Nat.le_of_ble_eq_true rfl) dX10_carryOut_150 (zk_i ?_)
      refine z_top (y := o.2.2.2) (hr.2.2.2 hx) ?_
      refine z_callV X (pc := 153) (rest := []) kv_X10_bringMusician (c_X10_bringMusician E M g (And.left (S9.rf hg)) nc nm n hI rs hR o.2.1 o.2.2.1 o.2.2.2) zk_17_0 (zc_17_0 E _) rfl rfl gw_222 (by decide) rfl rfl (Nat.le_of_ble_eq_true rfl) dX10_carryOut_153 (zk_ri (fun v_15 M_13 h_14 => ?_))
      exact z_iret X Y dX10_carryOut_156 ⟨_, rfl, by rw [show oOrder g rs o = oBringM g rs o.2.1 o.2.2.1 o.2.2.2 from by simp [oOrder, hx]]; exact h_14⟩
    · replace hx : o.1 = 110 := hx
      refine z_top hx ?_
      refine z_tableIn X (pc := 35) (off := 171) (tgt := 206) dX10_carryOut_35 (by decide) (by decide) (by rfl) (by decide) ?_
      refine z_sipush X (pc := 206) (v := (-1012)) dX10_carryOut_206 (by decide) ?_
      exact z_iret X Y dX10_carryOut_209 ⟨_, rfl, OX.of (g := g) (rs := rs) (by simp [oOrder, hx]) (CX.same hR FY.rf (S9.rf hg))⟩
    · replace hx : o.1 = 111 := hx
      refine z_top hx ?_
      refine z_tableIn X (pc := 35) (off := 171) (tgt := 206) dX10_carryOut_35 (by decide) (by decide) (by rfl) (by decide) ?_
      refine z_sipush X (pc := 206) (v := (-1012)) dX10_carryOut_206 (by decide) ?_
      exact z_iret X Y dX10_carryOut_209 ⟨_, rfl, OX.of (g := g) (rs := rs) (by simp [oOrder, hx]) (CX.same hR FY.rf (S9.rf hg))⟩
    · replace hx : o.1 = 112 := hx
      refine z_top hx ?_
      refine z_tableIn X (pc := 35) (off := 153) (tgt := 188) dX10_carryOut_35 (by decide) (by decide) (by rfl) (by decide) ?_
      refine z_eq (lv' := [(3, .int (M 13 9 k)), (2, .int (o.2.1)), (0, .ref (za E 17 0)), (1, .int (nI k))]) (by rw [show M 13 7 k = o.2.1 from hr.2.1 (by rw [hx]; decide)]) rfl ?_
      refine z_aload_n X (pc := 188) 2 dX10_carryOut_188 rfl rfl ?_
      refine z_iload_n X (pc := 189) 1 dX10_carryOut_189 rfl rfl ?_
      refine z_callV X (pc := 190) (rest := []) kv_X10_giveConcert (c_X10_giveConcert E M g (And.left (S9.rf hg)) nc nm n hI rs hR o.2.1) zk_17_0 (zc_17_0 E _) rfl rfl gw_486 (by decide) rfl rfl (Nat.le_of_ble_eq_true rfl) dX10_carryOut_190 (zk_ri (fun v_18 M_16 h_17 => ?_))
      exact z_iret X Y dX10_carryOut_193 ⟨_, rfl, by rw [show oOrder g rs o = oConcert g rs o.2.1 from by simp [oOrder, hx]]; exact h_17⟩
    · replace hx : o.1 = 113 := hx
      refine z_top hx ?_
      refine z_tableIn X (pc := 35) (off := 171) (tgt := 206) dX10_carryOut_35 (by decide) (by decide) (by rfl) (by decide) ?_
      refine z_sipush X (pc := 206) (v := (-1012)) dX10_carryOut_206 (by decide) ?_
      exact z_iret X Y dX10_carryOut_209 ⟨_, rfl, OX.of (g := g) (rs := rs) (by simp [oOrder, hx]) (CX.same hR FY.rf (S9.rf hg))⟩
    · replace hx : o.1 = 114 := hx
      refine z_top hx ?_
      refine z_tableIn X (pc := 35) (off := 129) (tgt := 164) dX10_carryOut_35 (by decide) (by decide) (by rfl) (by decide) ?_
      refine z_eq (lv' := [(3, .int (M 13 9 k)), (2, .int (o.2.1)), (0, .ref (za E 17 0)), (1, .int (nI k))]) (by rw [show M 13 7 k = o.2.1 from hr.2.1 (by rw [hx]; decide)]) rfl ?_
      refine z_aload_n X (pc := 164) 2 dX10_carryOut_164 rfl rfl ?_
      refine z_iload_n X (pc := 165) 1 dX10_carryOut_165 rfl rfl ?_
      refine z_callV X (pc := 166) (rest := []) kv_X10_letRise (c_X10_letRise E M g (And.left (S9.rf hg)) nc nm n hI rs hR o.2.1) zk_17_0 (zc_17_0 E _) rfl rfl gw_458 (by decide) rfl rfl (Nat.le_of_ble_eq_true rfl) dX10_carryOut_166 (zk_ri (fun v_21 M_19 h_20 => ?_))
      exact z_iret X Y dX10_carryOut_169 ⟨_, rfl, by rw [show oOrder g rs o = oRise g rs o.2.1 from by simp [oOrder, hx]]; exact h_20⟩
    · replace hx : o.1 = 115 := hx
      refine z_top hx ?_
      refine z_tableIn X (pc := 35) (off := 122) (tgt := 157) dX10_carryOut_35 (by decide) (by decide) (by rfl) (by decide) ?_
      refine z_eq (lv' := [(3, .int (o.2.2.1)), (2, .int (o.2.1)), (0, .ref (za E 17 0)), (1, .int (nI k))]) (by rw [show M 13 7 k = o.2.1 from hr.2.1 (by rw [hx]; decide), show M 13 9 k = o.2.2.1 from hr.2.2.1 (by rw [hx]; decide)]) rfl ?_
      refine z_aload_n X (pc := 157) 2 dX10_carryOut_157 rfl rfl ?_
      refine z_iload_n X (pc := 158) 1 dX10_carryOut_158 rfl rfl ?_
      refine z_iload_n X (pc := 159) 0 dX10_carryOut_159 rfl rfl ?_
      refine z_callV X (pc := 160) (rest := []) kv_X10_seatMusician (c_X10_seatMusician E M g (And.left (S9.rf hg)) nc nm n hI rs hR o.2.1 o.2.2.1) zk_17_0 (zc_17_0 E _) rfl rfl gw_424 (by decide) rfl rfl (Nat.le_of_ble_eq_true rfl) dX10_carryOut_160 (zk_ri (fun v_24 M_22 h_23 => ?_))
      exact z_iret X Y dX10_carryOut_163 ⟨_, rfl, by rw [show oOrder g rs o = oSeat g rs o.2.1 o.2.2.1 from by simp [oOrder, hx]]; exact h_23⟩
    · replace hx : o.1 = 116 := hx
      refine z_top hx ?_
      refine z_tableIn X (pc := 35) (off := 165) (tgt := 200) dX10_carryOut_35 (by decide) (by decide) (by rfl) (by decide) ?_
      refine z_eq (lv' := [(3, .int (M 13 9 k)), (2, .int (o.2.1)), (0, .ref (za E 17 0)), (1, .int (nI k))]) (by rw [show M 13 7 k = o.2.1 from hr.2.1 (by rw [hx]; decide)]) rfl ?_
      refine z_aload_n X (pc := 200) 2 dX10_carryOut_200 rfl rfl ?_
      refine z_iload_n X (pc := 201) 1 dX10_carryOut_201 rfl rfl ?_
      refine z_callV X (pc := 202) (rest := []) kv_X10_moveUp (c_X10_moveUp E M g (And.left (S9.rf hg)) nc nm n hI rs hR o.2.1) zk_17_0 (zc_17_0 E _) rfl rfl gw_525 (by decide) rfl rfl (Nat.le_of_ble_eq_true rfl) dX10_carryOut_202 (zk_ri (fun v_27 M_25 h_26 => ?_))
      exact z_iret X Y dX10_carryOut_205 ⟨_, rfl, by rw [show oOrder g rs o = oPromote g rs o.2.1 from by simp [oOrder, hx]]; exact h_26⟩
    · replace hx : o.1 = 117 := hx
      refine z_top hx ?_
      refine z_tableIn X (pc := 35) (off := 159) (tgt := 194) dX10_carryOut_35 (by decide) (by decide) (by rfl) (by decide) ?_
      refine z_eq (lv' := [(3, .int (M 13 9 k)), (2, .int (o.2.1)), (0, .ref (za E 17 0)), (1, .int (nI k))]) (by rw [show M 13 7 k = o.2.1 from hr.2.1 (by rw [hx]; decide)]) rfl ?_
      refine z_aload_n X (pc := 194) 2 dX10_carryOut_194 rfl rfl ?_
      refine z_iload_n X (pc := 195) 1 dX10_carryOut_195 rfl rfl ?_
      refine z_callV X (pc := 196) (rest := []) kv_X10_putUp (c_X10_putUp E M g (And.left (S9.rf hg)) nc nm n hI rs hR o.2.1) zk_17_0 (zc_17_0 E _) rfl rfl gw_517 (by decide) rfl rfl (Nat.le_of_ble_eq_true rfl) dX10_carryOut_196 (zk_ri (fun v_30 M_28 h_29 => ?_))
      exact z_iret X Y dX10_carryOut_199 ⟨_, rfl, by rw [show oOrder g rs o = oRaise g rs o.2.1 from by simp [oOrder, hx]]; exact h_29⟩

def rm_X10_settled : Room := { frames := 2, cells := 0, slots := 0, locals := 41 }
theorem kv_X10_settled : KV yX10_settled RX10 cX10_settled 2 (some .int) 1 := ⟨⟨gw_209, gw_210, gw_2, gw_211⟩, by decide +kernel⟩
set_option maxRecDepth 100000 in
set_option maxHeartbeats 4000000 in
theorem c_X10_settled (E : ZE) (M : Mem) (nx k : Nat) (h1 : M 18 0 1 = nI nx) (hx9 : nx < 9) (h2 : M 18 0 2 = nI k) (hk8 : k ≤ 8) (v : Int32) : Mt E yX10_settled cX10_settled 2 (some .int) rm_X10_settled [.ref (za E 17 0), .int v] M (RI (fun v1 M1 => v1 = v ∧ ((v < 0 ∧ M1 = M) ∨ (¬ v < 0 ∧ M1 = (up3 (up3 M 18 0 1 (nI ((nx + 1) % 9))) 18 0 2 (nI (min (k + 1) 8))))))) := by
  refine z_met (own := RX10) (lv := [(0, .ref (za E 17 0)), (1, .int v)]) (by decide) rfl (Nat.le_of_ble_eq_true rfl) rfl (fun gg X Y => ?_)
  refine z_iload_n X (pc := 0) 1 dX10_settled_0 rfl rfl ?_
  refine z_if_lt X (pc := 1) (tgt := 11) dX10_settled_1 (by decide) (fun c1 => ?_) (fun c1 => ?_)
  · refine z_iload_n X (pc := 11) 1 dX10_settled_11 rfl rfl ?_
    exact z_iret X Y dX10_settled_12 ⟨_, rfl, rfl, Or.inl ⟨c1, rfl⟩⟩
  · refine z_aload_n X (pc := 4) 0 dX10_settled_4 rfl rfl ?_
    refine z_get X (pc := 5) 3 zk_17_0 (zc_17_0 E _) rfl inlX10 (by decide) gw_18 rfl rfl dX10_settled_5 ?_
    refine z_callV X (pc := 8) (rest := []) kv_X3_keep (c_X3_keep E M nx h1 hx9 k h2 hk8) zk_18_0 (zc_18_0 E _) rfl rfl gw_212 (by decide) rfl rfl (Nat.le_of_ble_eq_true rfl) dX10_settled_8 (zk_v ?_)
    refine z_iload_n X (pc := 11) 1 dX10_settled_11 rfl rfl ?_
    exact z_iret X Y dX10_settled_12 ⟨_, rfl, rfl, Or.inr ⟨c1, rfl⟩⟩

def rm_X10_chair : Room := { frames := 5, cells := 0, slots := 0, locals := 146 }
theorem kv_X10_chair : KV yX10_chair RX10 cX10_chair 3 (some .int) 2 := ⟨⟨gw_133, gw_134, gw_2, gw_135⟩, by decide +kernel⟩
set_option maxRecDepth 100000 in
set_option maxHeartbeats 4000000 in
theorem c_X10_chair (E : ZE) (M : Mem) (g : LG) (hg : gX (M 9) = g) (nc nm n : Nat) (hI : Inv g nc nm n) (rs : Rs) (hR : RSn M rs) (hs : List LG) (nx : Nat) (hH : HX0 M nx hs) (x y : Int32) : Mt E yX10_chair cX10_chair 3 (some .int) rm_X10_chair [.ref (za E 17 0), .int x, .int y] M (RI (fun v M1 => PX M g hs (oBringC g rs x y) v M1)) := by
  have hnc := hI.nc; have hnm := hI.nm; have hn := hI.c10; have hn2 := hI.m10; have hx9 := hH.2.1
  refine z_met (own := RX10) (lv := [(0, .ref (za E 17 0)), (1, .int x), (2, .int y)]) (by decide) rfl (Nat.le_of_ble_eq_true rfl) rfl (fun gg X Y => ?_)
  refine z_aload_n X (pc := 0) 0 dX10_chair_0 rfl rfl ?_
  refine z_get X (pc := 1) 3 zk_17_0 (zc_17_0 E _) rfl inlX10 (by decide) gw_18 rfl rfl dX10_chair_1 ?_
  refine z_aload_n X (pc := 4) 0 dX10_chair_4 rfl rfl ?_
  refine z_get X (pc := 5) 0 zk_17_0 (zc_17_0 E _) rfl inlX10 (by decide) gw_13 rfl rfl dX10_chair_5 ?_
  refine z_callV X (pc := 8) (rest := []) kv_X3_mark (c_X3_mark E M nx hH.1 hH.2.1) zk_18_0 (zc_18_0 E _) rfl rfl gw_136 (by decide) rfl rfl (Nat.le_of_ble_eq_true rfl) dX10_chair_8 (zk_rv (fun M_1 hm_2 => ?_))
  refine z_aload_n X (pc := 11) 0 dX10_chair_11 rfl rfl ?_
  refine z_aload_n X (pc := 12) 0 dX10_chair_12 rfl rfl ?_
  refine z_iload_n X (pc := 13) 1 dX10_chair_13 rfl rfl ?_
  refine z_iload_n X (pc := 14) 2 dX10_chair_14 rfl rfl ?_
  refine z_callV X (pc := 15) (rest := [.ref (za E 17 0)]) kv_X10_bringChair (c_X10_bringChair E M_1 g (And.left (S9.rf (mk_g hm_2 hH.2.1 hg))) nc nm n hI rs (RSn.like hR (hm_2.2 16 (by omega))) x y) zk_17_0 (zc_17_0 E _) rfl rfl gw_181 (by decide) rfl rfl (Nat.le_of_ble_eq_true rfl) dX10_chair_15 (zk_ri (fun v_5 M_3 h_4 => ?_))
  refine z_callV X (pc := 18) (rest := []) kv_X10_settled (c_X10_settled E M_3 nx hs.length (PX_18 hm_2 h_4 hx9 hH.1) hx9 (PX_18 hm_2 h_4 hx9 hH.2.2.1) hH.2.2.2.1 v_5) zk_17_0 (zc_17_0 E _) rfl rfl gw_208 (by decide) rfl rfl (Nat.le_of_ble_eq_true rfl) dX10_chair_18 (zk_ri (fun v_8 M_6 h_7 => ?_))
  exact z_iret X Y dX10_chair_21 ⟨_, rfl, PX.of hg hH hm_2 h_4 h_7⟩

def rm_X10_musician : Room := { frames := 5, cells := 0, slots := 0, locals := 146 }
theorem kv_X10_musician : KV yX10_musician RX10 cX10_musician 4 (some .int) 3 := ⟨⟨gw_219, gw_220, gw_2, gw_221⟩, by decide +kernel⟩
set_option maxRecDepth 100000 in
set_option maxHeartbeats 4000000 in
theorem c_X10_musician (E : ZE) (M : Mem) (g : LG) (hg : gX (M 9) = g) (nc nm n : Nat) (hI : Inv g nc nm n) (rs : Rs) (hR : RSn M rs) (hs : List LG) (nx : Nat) (hH : HX0 M nx hs) (x y z : Int32) : Mt E yX10_musician cX10_musician 4 (some .int) rm_X10_musician [.ref (za E 17 0), .int x, .int y, .int z] M (RI (fun v M1 => PX M g hs (oBringM g rs x y z) v M1)) := by
  have hnc := hI.nc; have hnm := hI.nm; have hn := hI.c10; have hn2 := hI.m10; have hx9 := hH.2.1
  refine z_met (own := RX10) (lv := [(0, .ref (za E 17 0)), (1, .int x), (2, .int y), (3, .int z)]) (by decide) rfl (Nat.le_of_ble_eq_true rfl) rfl (fun gg X Y => ?_)
  refine z_aload_n X (pc := 0) 0 dX10_musician_0 rfl rfl ?_
  refine z_get X (pc := 1) 3 zk_17_0 (zc_17_0 E _) rfl inlX10 (by decide) gw_18 rfl rfl dX10_musician_1 ?_
  refine z_aload_n X (pc := 4) 0 dX10_musician_4 rfl rfl ?_
  refine z_get X (pc := 5) 0 zk_17_0 (zc_17_0 E _) rfl inlX10 (by decide) gw_13 rfl rfl dX10_musician_5 ?_
  refine z_callV X (pc := 8) (rest := []) kv_X3_mark (c_X3_mark E M nx hH.1 hH.2.1) zk_18_0 (zc_18_0 E _) rfl rfl gw_136 (by decide) rfl rfl (Nat.le_of_ble_eq_true rfl) dX10_musician_8 (zk_rv (fun M_1 hm_2 => ?_))
  refine z_aload_n X (pc := 11) 0 dX10_musician_11 rfl rfl ?_
  refine z_aload_n X (pc := 12) 0 dX10_musician_12 rfl rfl ?_
  refine z_iload_n X (pc := 13) 1 dX10_musician_13 rfl rfl ?_
  refine z_iload_n X (pc := 14) 2 dX10_musician_14 rfl rfl ?_
  refine z_iload_n X (pc := 15) 3 dX10_musician_15 rfl rfl ?_
  refine z_callV X (pc := 16) (rest := [.ref (za E 17 0)]) kv_X10_bringMusician (c_X10_bringMusician E M_1 g (And.left (S9.rf (mk_g hm_2 hH.2.1 hg))) nc nm n hI rs (RSn.like hR (hm_2.2 16 (by omega))) x y z) zk_17_0 (zc_17_0 E _) rfl rfl gw_222 (by decide) rfl rfl (Nat.le_of_ble_eq_true rfl) dX10_musician_16 (zk_ri (fun v_5 M_3 h_4 => ?_))
  refine z_callV X (pc := 19) (rest := []) kv_X10_settled (c_X10_settled E M_3 nx hs.length (PX_18 hm_2 h_4 hx9 hH.1) hx9 (PX_18 hm_2 h_4 hx9 hH.2.2.1) hH.2.2.2.1 v_5) zk_17_0 (zc_17_0 E _) rfl rfl gw_208 (by decide) rfl rfl (Nat.le_of_ble_eq_true rfl) dX10_musician_19 (zk_ri (fun v_8 M_6 h_7 => ?_))
  exact z_iret X Y dX10_musician_22 ⟨_, rfl, PX.of hg hH hm_2 h_4 h_7⟩

def rm_X10_seat : Room := { frames := 5, cells := 0, slots := 0, locals := 146 }
theorem kv_X10_seat : KV yX10_seat RX10 cX10_seat 3 (some .int) 2 := ⟨⟨gw_421, gw_422, gw_2, gw_423⟩, by decide +kernel⟩
set_option maxRecDepth 100000 in
set_option maxHeartbeats 4000000 in
theorem c_X10_seat (E : ZE) (M : Mem) (g : LG) (hg : gX (M 9) = g) (nc nm n : Nat) (hI : Inv g nc nm n) (rs : Rs) (hR : RSn M rs) (hs : List LG) (nx : Nat) (hH : HX0 M nx hs) (x y : Int32) : Mt E yX10_seat cX10_seat 3 (some .int) rm_X10_seat [.ref (za E 17 0), .int x, .int y] M (RI (fun v M1 => PX M g hs (oSeat g rs x y) v M1)) := by
  have hnc := hI.nc; have hnm := hI.nm; have hn := hI.c10; have hn2 := hI.m10; have hx9 := hH.2.1
  refine z_met (own := RX10) (lv := [(0, .ref (za E 17 0)), (1, .int x), (2, .int y)]) (by decide) rfl (Nat.le_of_ble_eq_true rfl) rfl (fun gg X Y => ?_)
  refine z_aload_n X (pc := 0) 0 dX10_seat_0 rfl rfl ?_
  refine z_get X (pc := 1) 3 zk_17_0 (zc_17_0 E _) rfl inlX10 (by decide) gw_18 rfl rfl dX10_seat_1 ?_
  refine z_aload_n X (pc := 4) 0 dX10_seat_4 rfl rfl ?_
  refine z_get X (pc := 5) 0 zk_17_0 (zc_17_0 E _) rfl inlX10 (by decide) gw_13 rfl rfl dX10_seat_5 ?_
  refine z_callV X (pc := 8) (rest := []) kv_X3_mark (c_X3_mark E M nx hH.1 hH.2.1) zk_18_0 (zc_18_0 E _) rfl rfl gw_136 (by decide) rfl rfl (Nat.le_of_ble_eq_true rfl) dX10_seat_8 (zk_rv (fun M_1 hm_2 => ?_))
  refine z_aload_n X (pc := 11) 0 dX10_seat_11 rfl rfl ?_
  refine z_aload_n X (pc := 12) 0 dX10_seat_12 rfl rfl ?_
  refine z_iload_n X (pc := 13) 1 dX10_seat_13 rfl rfl ?_
  refine z_iload_n X (pc := 14) 2 dX10_seat_14 rfl rfl ?_
  refine z_callV X (pc := 15) (rest := [.ref (za E 17 0)]) kv_X10_seatMusician (c_X10_seatMusician E M_1 g (And.left (S9.rf (mk_g hm_2 hH.2.1 hg))) nc nm n hI rs (RSn.like hR (hm_2.2 16 (by omega))) x y) zk_17_0 (zc_17_0 E _) rfl rfl gw_424 (by decide) rfl rfl (Nat.le_of_ble_eq_true rfl) dX10_seat_15 (zk_ri (fun v_5 M_3 h_4 => ?_))
  refine z_callV X (pc := 18) (rest := []) kv_X10_settled (c_X10_settled E M_3 nx hs.length (PX_18 hm_2 h_4 hx9 hH.1) hx9 (PX_18 hm_2 h_4 hx9 hH.2.2.1) hH.2.2.2.1 v_5) zk_17_0 (zc_17_0 E _) rfl rfl gw_208 (by decide) rfl rfl (Nat.le_of_ble_eq_true rfl) dX10_seat_18 (zk_ri (fun v_8 M_6 h_7 => ?_))
  exact z_iret X Y dX10_seat_21 ⟨_, rfl, PX.of hg hH hm_2 h_4 h_7⟩

def rm_X10_rise : Room := { frames := 5, cells := 0, slots := 0, locals := 146 }
theorem kv_X10_rise : KV yX10_rise RX10 cX10_rise 2 (some .int) 1 := ⟨⟨gw_455, gw_456, gw_2, gw_457⟩, by decide +kernel⟩
set_option maxRecDepth 100000 in
set_option maxHeartbeats 4000000 in
theorem c_X10_rise (E : ZE) (M : Mem) (g : LG) (hg : gX (M 9) = g) (nc nm n : Nat) (hI : Inv g nc nm n) (rs : Rs) (hR : RSn M rs) (hs : List LG) (nx : Nat) (hH : HX0 M nx hs) (x : Int32) : Mt E yX10_rise cX10_rise 2 (some .int) rm_X10_rise [.ref (za E 17 0), .int x] M (RI (fun v M1 => PX M g hs (oRise g rs x) v M1)) := by
  have hnc := hI.nc; have hnm := hI.nm; have hn := hI.c10; have hn2 := hI.m10; have hx9 := hH.2.1
  refine z_met (own := RX10) (lv := [(0, .ref (za E 17 0)), (1, .int x)]) (by decide) rfl (Nat.le_of_ble_eq_true rfl) rfl (fun gg X Y => ?_)
  refine z_aload_n X (pc := 0) 0 dX10_rise_0 rfl rfl ?_
  refine z_get X (pc := 1) 3 zk_17_0 (zc_17_0 E _) rfl inlX10 (by decide) gw_18 rfl rfl dX10_rise_1 ?_
  refine z_aload_n X (pc := 4) 0 dX10_rise_4 rfl rfl ?_
  refine z_get X (pc := 5) 0 zk_17_0 (zc_17_0 E _) rfl inlX10 (by decide) gw_13 rfl rfl dX10_rise_5 ?_
  refine z_callV X (pc := 8) (rest := []) kv_X3_mark (c_X3_mark E M nx hH.1 hH.2.1) zk_18_0 (zc_18_0 E _) rfl rfl gw_136 (by decide) rfl rfl (Nat.le_of_ble_eq_true rfl) dX10_rise_8 (zk_rv (fun M_1 hm_2 => ?_))
  refine z_aload_n X (pc := 11) 0 dX10_rise_11 rfl rfl ?_
  refine z_aload_n X (pc := 12) 0 dX10_rise_12 rfl rfl ?_
  refine z_iload_n X (pc := 13) 1 dX10_rise_13 rfl rfl ?_
  refine z_callV X (pc := 14) (rest := [.ref (za E 17 0)]) kv_X10_letRise (c_X10_letRise E M_1 g (And.left (S9.rf (mk_g hm_2 hH.2.1 hg))) nc nm n hI rs (RSn.like hR (hm_2.2 16 (by omega))) x) zk_17_0 (zc_17_0 E _) rfl rfl gw_458 (by decide) rfl rfl (Nat.le_of_ble_eq_true rfl) dX10_rise_14 (zk_ri (fun v_5 M_3 h_4 => ?_))
  refine z_callV X (pc := 17) (rest := []) kv_X10_settled (c_X10_settled E M_3 nx hs.length (PX_18 hm_2 h_4 hx9 hH.1) hx9 (PX_18 hm_2 h_4 hx9 hH.2.2.1) hH.2.2.2.1 v_5) zk_17_0 (zc_17_0 E _) rfl rfl gw_208 (by decide) rfl rfl (Nat.le_of_ble_eq_true rfl) dX10_rise_17 (zk_ri (fun v_8 M_6 h_7 => ?_))
  exact z_iret X Y dX10_rise_20 ⟨_, rfl, PX.of hg hH hm_2 h_4 h_7⟩

def rm_X10_season : Room := { frames := 5, cells := 0, slots := 0, locals := 146 }
theorem kv_X10_season : KV yX10_season RX10 cX10_season 1 (some .int) 0 := ⟨⟨gw_234, gw_235, gw_2, gw_236⟩, by decide +kernel⟩
set_option maxRecDepth 100000 in
set_option maxHeartbeats 4000000 in
theorem c_X10_season (E : ZE) (M : Mem) (g : LG) (hg : gX (M 9) = g) (nc nm n : Nat) (hI : Inv g nc nm n) (rs : Rs) (hR : RSn M rs) (hs : List LG) (nx : Nat) (hH : HX0 M nx hs)  : Mt E yX10_season cX10_season 1 (some .int) rm_X10_season [.ref (za E 17 0)] M (RI (fun v M1 => PX M g hs (oSeason g rs ) v M1)) := by
  have hnc := hI.nc; have hnm := hI.nm; have hn := hI.c10; have hn2 := hI.m10; have hx9 := hH.2.1
  refine z_met (own := RX10) (lv := [(0, .ref (za E 17 0))]) (by decide) rfl (Nat.le_of_ble_eq_true rfl) rfl (fun gg X Y => ?_)
  refine z_aload_n X (pc := 0) 0 dX10_season_0 rfl rfl ?_
  refine z_get X (pc := 1) 3 zk_17_0 (zc_17_0 E _) rfl inlX10 (by decide) gw_18 rfl rfl dX10_season_1 ?_
  refine z_aload_n X (pc := 4) 0 dX10_season_4 rfl rfl ?_
  refine z_get X (pc := 5) 0 zk_17_0 (zc_17_0 E _) rfl inlX10 (by decide) gw_13 rfl rfl dX10_season_5 ?_
  refine z_callV X (pc := 8) (rest := []) kv_X3_mark (c_X3_mark E M nx hH.1 hH.2.1) zk_18_0 (zc_18_0 E _) rfl rfl gw_136 (by decide) rfl rfl (Nat.le_of_ble_eq_true rfl) dX10_season_8 (zk_rv (fun M_1 hm_2 => ?_))
  refine z_aload_n X (pc := 11) 0 dX10_season_11 rfl rfl ?_
  refine z_aload_n X (pc := 12) 0 dX10_season_12 rfl rfl ?_
  refine z_callV X (pc := 13) (rest := [.ref (za E 17 0)]) kv_X10_beginSeason (c_X10_beginSeason E M_1 g (And.left (S9.rf (mk_g hm_2 hH.2.1 hg))) nc nm n hI rs (RSn.like hR (hm_2.2 16 (by omega))) ) zk_17_0 (zc_17_0 E _) rfl rfl gw_237 (by decide) rfl rfl (Nat.le_of_ble_eq_true rfl) dX10_season_13 (zk_ri (fun v_5 M_3 h_4 => ?_))
  refine z_callV X (pc := 16) (rest := []) kv_X10_settled (c_X10_settled E M_3 nx hs.length (PX_18 hm_2 h_4 hx9 hH.1) hx9 (PX_18 hm_2 h_4 hx9 hH.2.2.1) hH.2.2.2.1 v_5) zk_17_0 (zc_17_0 E _) rfl rfl gw_208 (by decide) rfl rfl (Nat.le_of_ble_eq_true rfl) dX10_season_16 (zk_ri (fun v_8 M_6 h_7 => ?_))
  exact z_iret X Y dX10_season_19 ⟨_, rfl, PX.of hg hH hm_2 h_4 h_7⟩

def rm_X10_bid : Room := { frames := 5, cells := 0, slots := 0, locals := 146 }
theorem kv_X10_bid : KV yX10_bid RX10 cX10_bid 3 (some .int) 2 := ⟨⟨gw_334, gw_335, gw_2, gw_336⟩, by decide +kernel⟩
set_option maxRecDepth 100000 in
set_option maxHeartbeats 4000000 in
theorem c_X10_bid (E : ZE) (M : Mem) (g : LG) (hg : gX (M 9) = g) (nc nm n : Nat) (hI : Inv g nc nm n) (rs : Rs) (hR : RSn M rs) (hs : List LG) (nx : Nat) (hH : HX0 M nx hs) (x y : Int32) : Mt E yX10_bid cX10_bid 3 (some .int) rm_X10_bid [.ref (za E 17 0), .int x, .int y] M (RI (fun v M1 => PX M g hs (oBid g rs x y) v M1)) := by
  have hnc := hI.nc; have hnm := hI.nm; have hn := hI.c10; have hn2 := hI.m10; have hx9 := hH.2.1
  refine z_met (own := RX10) (lv := [(0, .ref (za E 17 0)), (1, .int x), (2, .int y)]) (by decide) rfl (Nat.le_of_ble_eq_true rfl) rfl (fun gg X Y => ?_)
  refine z_aload_n X (pc := 0) 0 dX10_bid_0 rfl rfl ?_
  refine z_get X (pc := 1) 3 zk_17_0 (zc_17_0 E _) rfl inlX10 (by decide) gw_18 rfl rfl dX10_bid_1 ?_
  refine z_aload_n X (pc := 4) 0 dX10_bid_4 rfl rfl ?_
  refine z_get X (pc := 5) 0 zk_17_0 (zc_17_0 E _) rfl inlX10 (by decide) gw_13 rfl rfl dX10_bid_5 ?_
  refine z_callV X (pc := 8) (rest := []) kv_X3_mark (c_X3_mark E M nx hH.1 hH.2.1) zk_18_0 (zc_18_0 E _) rfl rfl gw_136 (by decide) rfl rfl (Nat.le_of_ble_eq_true rfl) dX10_bid_8 (zk_rv (fun M_1 hm_2 => ?_))
  refine z_aload_n X (pc := 11) 0 dX10_bid_11 rfl rfl ?_
  refine z_aload_n X (pc := 12) 0 dX10_bid_12 rfl rfl ?_
  refine z_iload_n X (pc := 13) 1 dX10_bid_13 rfl rfl ?_
  refine z_iload_n X (pc := 14) 2 dX10_bid_14 rfl rfl ?_
  refine z_callV X (pc := 15) (rest := [.ref (za E 17 0)]) kv_X10_takeBid (c_X10_takeBid E M_1 g (And.left (S9.rf (mk_g hm_2 hH.2.1 hg))) nc nm n hI rs (RSn.like hR (hm_2.2 16 (by omega))) x y) zk_17_0 (zc_17_0 E _) rfl rfl gw_337 (by decide) rfl rfl (Nat.le_of_ble_eq_true rfl) dX10_bid_15 (zk_ri (fun v_5 M_3 h_4 => ?_))
  refine z_callV X (pc := 18) (rest := []) kv_X10_settled (c_X10_settled E M_3 nx hs.length (PX_18 hm_2 h_4 hx9 hH.1) hx9 (PX_18 hm_2 h_4 hx9 hH.2.2.1) hH.2.2.2.1 v_5) zk_17_0 (zc_17_0 E _) rfl rfl gw_208 (by decide) rfl rfl (Nat.le_of_ble_eq_true rfl) dX10_bid_18 (zk_ri (fun v_8 M_6 h_7 => ?_))
  exact z_iret X Y dX10_bid_21 ⟨_, rfl, PX.of hg hH hm_2 h_4 h_7⟩

def rm_X10_sell : Room := { frames := 5, cells := 0, slots := 0, locals := 146 }
theorem kv_X10_sell : KV yX10_sell RX10 cX10_sell 2 (some .int) 1 := ⟨⟨gw_463, gw_464, gw_2, gw_465⟩, by decide +kernel⟩
set_option maxRecDepth 100000 in
set_option maxHeartbeats 4000000 in
theorem c_X10_sell (E : ZE) (M : Mem) (g : LG) (hg : gX (M 9) = g) (nc nm n : Nat) (hI : Inv g nc nm n) (rs : Rs) (hR : RSn M rs) (hs : List LG) (nx : Nat) (hH : HX0 M nx hs) (x : Int32) : Mt E yX10_sell cX10_sell 2 (some .int) rm_X10_sell [.ref (za E 17 0), .int x] M (RI (fun v M1 => PX M g hs (oSell g rs x) v M1)) := by
  have hnc := hI.nc; have hnm := hI.nm; have hn := hI.c10; have hn2 := hI.m10; have hx9 := hH.2.1
  refine z_met (own := RX10) (lv := [(0, .ref (za E 17 0)), (1, .int x)]) (by decide) rfl (Nat.le_of_ble_eq_true rfl) rfl (fun gg X Y => ?_)
  refine z_aload_n X (pc := 0) 0 dX10_sell_0 rfl rfl ?_
  refine z_get X (pc := 1) 3 zk_17_0 (zc_17_0 E _) rfl inlX10 (by decide) gw_18 rfl rfl dX10_sell_1 ?_
  refine z_aload_n X (pc := 4) 0 dX10_sell_4 rfl rfl ?_
  refine z_get X (pc := 5) 0 zk_17_0 (zc_17_0 E _) rfl inlX10 (by decide) gw_13 rfl rfl dX10_sell_5 ?_
  refine z_callV X (pc := 8) (rest := []) kv_X3_mark (c_X3_mark E M nx hH.1 hH.2.1) zk_18_0 (zc_18_0 E _) rfl rfl gw_136 (by decide) rfl rfl (Nat.le_of_ble_eq_true rfl) dX10_sell_8 (zk_rv (fun M_1 hm_2 => ?_))
  refine z_aload_n X (pc := 11) 0 dX10_sell_11 rfl rfl ?_
  refine z_aload_n X (pc := 12) 0 dX10_sell_12 rfl rfl ?_
  refine z_iload_n X (pc := 13) 1 dX10_sell_13 rfl rfl ?_
  refine z_callV X (pc := 14) (rest := [.ref (za E 17 0)]) kv_X10_sellCushion (c_X10_sellCushion E M_1 g (And.left (S9.rf (mk_g hm_2 hH.2.1 hg))) nc nm n hI rs (RSn.like hR (hm_2.2 16 (by omega))) x) zk_17_0 (zc_17_0 E _) rfl rfl gw_466 (by decide) rfl rfl (Nat.le_of_ble_eq_true rfl) dX10_sell_14 (zk_ri (fun v_5 M_3 h_4 => ?_))
  refine z_callV X (pc := 17) (rest := []) kv_X10_settled (c_X10_settled E M_3 nx hs.length (PX_18 hm_2 h_4 hx9 hH.1) hx9 (PX_18 hm_2 h_4 hx9 hH.2.2.1) hH.2.2.2.1 v_5) zk_17_0 (zc_17_0 E _) rfl rfl gw_208 (by decide) rfl rfl (Nat.le_of_ble_eq_true rfl) dX10_sell_17 (zk_ri (fun v_8 M_6 h_7 => ?_))
  exact z_iret X Y dX10_sell_20 ⟨_, rfl, PX.of hg hH hm_2 h_4 h_7⟩

def rm_X10_concert : Room := { frames := 5, cells := 0, slots := 0, locals := 146 }
theorem kv_X10_concert : KV yX10_concert RX10 cX10_concert 2 (some .int) 1 := ⟨⟨gw_483, gw_484, gw_2, gw_485⟩, by decide +kernel⟩
set_option maxRecDepth 100000 in
set_option maxHeartbeats 4000000 in
theorem c_X10_concert (E : ZE) (M : Mem) (g : LG) (hg : gX (M 9) = g) (nc nm n : Nat) (hI : Inv g nc nm n) (rs : Rs) (hR : RSn M rs) (hs : List LG) (nx : Nat) (hH : HX0 M nx hs) (x : Int32) : Mt E yX10_concert cX10_concert 2 (some .int) rm_X10_concert [.ref (za E 17 0), .int x] M (RI (fun v M1 => PX M g hs (oConcert g rs x) v M1)) := by
  have hnc := hI.nc; have hnm := hI.nm; have hn := hI.c10; have hn2 := hI.m10; have hx9 := hH.2.1
  refine z_met (own := RX10) (lv := [(0, .ref (za E 17 0)), (1, .int x)]) (by decide) rfl (Nat.le_of_ble_eq_true rfl) rfl (fun gg X Y => ?_)
  refine z_aload_n X (pc := 0) 0 dX10_concert_0 rfl rfl ?_
  refine z_get X (pc := 1) 3 zk_17_0 (zc_17_0 E _) rfl inlX10 (by decide) gw_18 rfl rfl dX10_concert_1 ?_
  refine z_aload_n X (pc := 4) 0 dX10_concert_4 rfl rfl ?_
  refine z_get X (pc := 5) 0 zk_17_0 (zc_17_0 E _) rfl inlX10 (by decide) gw_13 rfl rfl dX10_concert_5 ?_
  refine z_callV X (pc := 8) (rest := []) kv_X3_mark (c_X3_mark E M nx hH.1 hH.2.1) zk_18_0 (zc_18_0 E _) rfl rfl gw_136 (by decide) rfl rfl (Nat.le_of_ble_eq_true rfl) dX10_concert_8 (zk_rv (fun M_1 hm_2 => ?_))
  refine z_aload_n X (pc := 11) 0 dX10_concert_11 rfl rfl ?_
  refine z_aload_n X (pc := 12) 0 dX10_concert_12 rfl rfl ?_
  refine z_iload_n X (pc := 13) 1 dX10_concert_13 rfl rfl ?_
  refine z_callV X (pc := 14) (rest := [.ref (za E 17 0)]) kv_X10_giveConcert (c_X10_giveConcert E M_1 g (And.left (S9.rf (mk_g hm_2 hH.2.1 hg))) nc nm n hI rs (RSn.like hR (hm_2.2 16 (by omega))) x) zk_17_0 (zc_17_0 E _) rfl rfl gw_486 (by decide) rfl rfl (Nat.le_of_ble_eq_true rfl) dX10_concert_14 (zk_ri (fun v_5 M_3 h_4 => ?_))
  refine z_callV X (pc := 17) (rest := []) kv_X10_settled (c_X10_settled E M_3 nx hs.length (PX_18 hm_2 h_4 hx9 hH.1) hx9 (PX_18 hm_2 h_4 hx9 hH.2.2.1) hH.2.2.2.1 v_5) zk_17_0 (zc_17_0 E _) rfl rfl gw_208 (by decide) rfl rfl (Nat.le_of_ble_eq_true rfl) dX10_concert_17 (zk_ri (fun v_8 M_6 h_7 => ?_))
  exact z_iret X Y dX10_concert_20 ⟨_, rfl, PX.of hg hH hm_2 h_4 h_7⟩

def rm_X10_raise : Room := { frames := 5, cells := 0, slots := 0, locals := 146 }
theorem kv_X10_raise : KV yX10_raise RX10 cX10_raise 2 (some .int) 1 := ⟨⟨gw_514, gw_515, gw_2, gw_516⟩, by decide +kernel⟩
set_option maxRecDepth 100000 in
set_option maxHeartbeats 4000000 in
theorem c_X10_raise (E : ZE) (M : Mem) (g : LG) (hg : gX (M 9) = g) (nc nm n : Nat) (hI : Inv g nc nm n) (rs : Rs) (hR : RSn M rs) (hs : List LG) (nx : Nat) (hH : HX0 M nx hs) (x : Int32) : Mt E yX10_raise cX10_raise 2 (some .int) rm_X10_raise [.ref (za E 17 0), .int x] M (RI (fun v M1 => PX M g hs (oRaise g rs x) v M1)) := by
  have hnc := hI.nc; have hnm := hI.nm; have hn := hI.c10; have hn2 := hI.m10; have hx9 := hH.2.1
  refine z_met (own := RX10) (lv := [(0, .ref (za E 17 0)), (1, .int x)]) (by decide) rfl (Nat.le_of_ble_eq_true rfl) rfl (fun gg X Y => ?_)
  refine z_aload_n X (pc := 0) 0 dX10_raise_0 rfl rfl ?_
  refine z_get X (pc := 1) 3 zk_17_0 (zc_17_0 E _) rfl inlX10 (by decide) gw_18 rfl rfl dX10_raise_1 ?_
  refine z_aload_n X (pc := 4) 0 dX10_raise_4 rfl rfl ?_
  refine z_get X (pc := 5) 0 zk_17_0 (zc_17_0 E _) rfl inlX10 (by decide) gw_13 rfl rfl dX10_raise_5 ?_
  refine z_callV X (pc := 8) (rest := []) kv_X3_mark (c_X3_mark E M nx hH.1 hH.2.1) zk_18_0 (zc_18_0 E _) rfl rfl gw_136 (by decide) rfl rfl (Nat.le_of_ble_eq_true rfl) dX10_raise_8 (zk_rv (fun M_1 hm_2 => ?_))
  refine z_aload_n X (pc := 11) 0 dX10_raise_11 rfl rfl ?_
  refine z_aload_n X (pc := 12) 0 dX10_raise_12 rfl rfl ?_
  refine z_iload_n X (pc := 13) 1 dX10_raise_13 rfl rfl ?_
  refine z_callV X (pc := 14) (rest := [.ref (za E 17 0)]) kv_X10_putUp (c_X10_putUp E M_1 g (And.left (S9.rf (mk_g hm_2 hH.2.1 hg))) nc nm n hI rs (RSn.like hR (hm_2.2 16 (by omega))) x) zk_17_0 (zc_17_0 E _) rfl rfl gw_517 (by decide) rfl rfl (Nat.le_of_ble_eq_true rfl) dX10_raise_14 (zk_ri (fun v_5 M_3 h_4 => ?_))
  refine z_callV X (pc := 17) (rest := []) kv_X10_settled (c_X10_settled E M_3 nx hs.length (PX_18 hm_2 h_4 hx9 hH.1) hx9 (PX_18 hm_2 h_4 hx9 hH.2.2.1) hH.2.2.2.1 v_5) zk_17_0 (zc_17_0 E _) rfl rfl gw_208 (by decide) rfl rfl (Nat.le_of_ble_eq_true rfl) dX10_raise_17 (zk_ri (fun v_8 M_6 h_7 => ?_))
  exact z_iret X Y dX10_raise_20 ⟨_, rfl, PX.of hg hH hm_2 h_4 h_7⟩

def rm_X10_promote : Room := { frames := 5, cells := 0, slots := 0, locals := 146 }
theorem kv_X10_promote : KV yX10_promote RX10 cX10_promote 2 (some .int) 1 := ⟨⟨gw_522, gw_523, gw_2, gw_524⟩, by decide +kernel⟩
set_option maxRecDepth 100000 in
set_option maxHeartbeats 4000000 in
theorem c_X10_promote (E : ZE) (M : Mem) (g : LG) (hg : gX (M 9) = g) (nc nm n : Nat) (hI : Inv g nc nm n) (rs : Rs) (hR : RSn M rs) (hs : List LG) (nx : Nat) (hH : HX0 M nx hs) (x : Int32) : Mt E yX10_promote cX10_promote 2 (some .int) rm_X10_promote [.ref (za E 17 0), .int x] M (RI (fun v M1 => PX M g hs (oPromote g rs x) v M1)) := by
  have hnc := hI.nc; have hnm := hI.nm; have hn := hI.c10; have hn2 := hI.m10; have hx9 := hH.2.1
  refine z_met (own := RX10) (lv := [(0, .ref (za E 17 0)), (1, .int x)]) (by decide) rfl (Nat.le_of_ble_eq_true rfl) rfl (fun gg X Y => ?_)
  refine z_aload_n X (pc := 0) 0 dX10_promote_0 rfl rfl ?_
  refine z_get X (pc := 1) 3 zk_17_0 (zc_17_0 E _) rfl inlX10 (by decide) gw_18 rfl rfl dX10_promote_1 ?_
  refine z_aload_n X (pc := 4) 0 dX10_promote_4 rfl rfl ?_
  refine z_get X (pc := 5) 0 zk_17_0 (zc_17_0 E _) rfl inlX10 (by decide) gw_13 rfl rfl dX10_promote_5 ?_
  refine z_callV X (pc := 8) (rest := []) kv_X3_mark (c_X3_mark E M nx hH.1 hH.2.1) zk_18_0 (zc_18_0 E _) rfl rfl gw_136 (by decide) rfl rfl (Nat.le_of_ble_eq_true rfl) dX10_promote_8 (zk_rv (fun M_1 hm_2 => ?_))
  refine z_aload_n X (pc := 11) 0 dX10_promote_11 rfl rfl ?_
  refine z_aload_n X (pc := 12) 0 dX10_promote_12 rfl rfl ?_
  refine z_iload_n X (pc := 13) 1 dX10_promote_13 rfl rfl ?_
  refine z_callV X (pc := 14) (rest := [.ref (za E 17 0)]) kv_X10_moveUp (c_X10_moveUp E M_1 g (And.left (S9.rf (mk_g hm_2 hH.2.1 hg))) nc nm n hI rs (RSn.like hR (hm_2.2 16 (by omega))) x) zk_17_0 (zc_17_0 E _) rfl rfl gw_525 (by decide) rfl rfl (Nat.le_of_ble_eq_true rfl) dX10_promote_14 (zk_ri (fun v_5 M_3 h_4 => ?_))
  refine z_callV X (pc := 17) (rest := []) kv_X10_settled (c_X10_settled E M_3 nx hs.length (PX_18 hm_2 h_4 hx9 hH.1) hx9 (PX_18 hm_2 h_4 hx9 hH.2.2.1) hH.2.2.2.1 v_5) zk_17_0 (zc_17_0 E _) rfl rfl gw_208 (by decide) rfl rfl (Nat.le_of_ble_eq_true rfl) dX10_promote_17 (zk_ri (fun v_8 M_6 h_7 => ?_))
  exact z_iret X Y dX10_promote_20 ⟨_, rfl, PX.of hg hH hm_2 h_4 h_7⟩

def rm_X10_undo : Room := { frames := 5, cells := 0, slots := 0, locals := 146 }
theorem kv_X10_undo : KV yX10_undo RX10 cX10_undo 1 (some .int) 0 := ⟨⟨gw_666, gw_667, gw_2, gw_668⟩, by decide +kernel⟩
set_option maxRecDepth 100000 in
set_option maxHeartbeats 4000000 in
theorem c_X10_undo (E : ZE) (M : Mem) (g : LG) (hg : gX (M 9) = g) (hs : List LG) (nx : Nat) (hH : HX0 M nx hs) : Mt E yX10_undo cX10_undo 1 (some .int) rm_X10_undo [.ref (za E 17 0)] M (RI (fun v M1 => v = (aUndo g hs).1 ∧ gX (M1 9) = (aUndo g hs).2.1 ∧ (∃ nx', HX0 M1 nx' (aUndo g hs).2.2) ∧ ∀ b, 10 ≤ b → b ≠ 18 → M1 b = M b)) := by
  have hx9 := hH.2.1; have hl8 := hH.2.2.2.1
  refine z_met (own := RX10) (lv := [(0, .ref (za E 17 0))]) (by decide) rfl (Nat.le_of_ble_eq_true rfl) rfl (fun gg X Y => ?_)
  refine z_aload_n X (pc := 0) 0 dX10_undo_0 rfl rfl ?_
  refine z_get X (pc := 1) 3 zk_17_0 (zc_17_0 E _) rfl inlX10 (by decide) gw_18 rfl rfl dX10_undo_1 ?_
  refine z_callV X (pc := 4) (rest := []) kv_X3_count (c_X3_count E M) zk_18_0 (zc_18_0 E _) rfl rfl gw_381 (by decide) rfl rfl (Nat.le_of_ble_eq_true rfl) dX10_undo_4 (zk_i ?_)
  refine z_top (y := (nI (List.length hs))) hH.2.2.1 ?_
  refine z_nif_ne X (pc := 7) (tgt := 14) dX10_undo_7 (by decide) (by omega) (fun c7 => ?_) (fun c7 => ?_)
  · refine z_aload_n X (pc := 14) 0 dX10_undo_14 rfl rfl ?_
    refine z_get X (pc := 15) 3 zk_17_0 (zc_17_0 E _) rfl inlX10 (by decide) gw_18 rfl rfl dX10_undo_15 ?_
    refine z_callV X (pc := 18) (rest := []) kv_X3_stepBack (c_X3_stepBack E M nx hH.1 hx9 (List.length hs) hH.2.2.1 hl8) zk_18_0 (zc_18_0 E _) rfl rfl gw_669 (by decide) rfl rfl (Nat.le_of_ble_eq_true rfl) dX10_undo_18 (zk_v ?_)
    refine z_aload_n X (pc := 21) 0 dX10_undo_21 rfl rfl ?_
    refine z_get X (pc := 22) 3 zk_17_0 (zc_17_0 E _) rfl inlX10 (by decide) gw_18 rfl rfl dX10_undo_22 ?_
    refine z_aload_n X (pc := 25) 0 dX10_undo_25 rfl rfl ?_
    refine z_get X (pc := 26) 0 zk_17_0 (zc_17_0 E _) rfl inlX10 (by decide) gw_13 rfl rfl dX10_undo_26 ?_
    refine z_callV X (pc := 29) (rest := []) kv_X3_bringBack (c_X3_bringBack E (up3 (up3 M 18 0 1 (nI ((nx + 8) % 9))) 18 0 2 (nI (List.length hs - 1))) ((nx + 8) % 9) (by rw [up3_ne (by decide)]; exact up3_same) (by omega)) zk_18_0 (zc_18_0 E _) rfl rfl gw_643 (by decide) rfl rfl (Nat.le_of_ble_eq_true rfl) dX10_undo_29 (zk_rv (fun M_1 h_2 => ?_))
    refine z_aload_n X (pc := 32) 0 dX10_undo_32 rfl rfl ?_
    refine z_get X (pc := 33) 3 zk_17_0 (zc_17_0 E _) rfl inlX10 (by decide) gw_18 rfl rfl dX10_undo_33 ?_
    refine z_callV X (pc := 36) (rest := []) kv_X3_count (c_X3_count E M_1) zk_18_0 (zc_18_0 E _) rfl rfl gw_381 (by decide) rfl rfl (Nat.le_of_ble_eq_true rfl) dX10_undo_36 (zk_i ?_)
    refine z_top (y := (nI (List.length hs - 1))) (by rw [h_2.2 18 (by decide)]; exact up3_same) ?_
    exact z_iret X Y dX10_undo_39 ⟨_, rfl, HX_undo hH c7 h_2⟩
  · refine z_sipush X (pc := 10) (v := (-1015)) dX10_undo_10 (by decide) ?_
    exact z_iret X Y dX10_undo_13 ⟨_, rfl, HX_undo0 hg hH c7⟩

def rm_X10_save : Room := { frames := 4, cells := 0, slots := 0, locals := 124 }
theorem kv_X10_save : KV yX10_save RX10 cX10_save 1 (some .int) 0 := ⟨⟨gw_652, gw_653, gw_2, gw_654⟩, by decide +kernel⟩
set_option maxRecDepth 100000 in
set_option maxHeartbeats 4000000 in
theorem c_X10_save (E : ZE) (M : Mem) (g : LG) (hg : gX (M 9) = g)  : Mt E yX10_save cX10_save 1 (some .int) rm_X10_save [.ref (za E 17 0)] M (RI (fun v M1 => v = g 14 7 ∧ gX (M1 10) = g ∧ M1 17 0 2 = 1 ∧ ∀ b, b ≠ 10 → b ≠ 17 → M1 b = M b)) := by
  refine z_met (own := RX10) (lv := [(0, .ref (za E 17 0))]) (by decide) rfl (Nat.le_of_ble_eq_true rfl) rfl (fun gg X Y => ?_)
  refine z_aload_n X (pc := 0) 0 dX10_save_0 rfl rfl ?_
  refine z_get X (pc := 1) 1 zk_17_0 (zc_17_0 E _) rfl inlX10 (by decide) gw_14 rfl rfl dX10_save_1 ?_
  refine z_aload_n X (pc := 4) 0 dX10_save_4 rfl rfl ?_
  refine z_get X (pc := 5) 0 zk_17_0 (zc_17_0 E _) rfl inlX10 (by decide) gw_13 rfl rfl dX10_save_5 ?_
  refine z_callV X (pc := 8) (rest := []) kv_X9_copy (c_X9_copy E M 10 9 (by decide) (by decide) (by decide)) zk_10_0 (zc_10_0 E _) rfl rfl gw_656 (by decide) rfl rfl (Nat.le_of_ble_eq_true rfl) dX10_save_8 (zk_rv (fun M_1 h_2 => ?_))
  refine z_aload_n X (pc := 11) 0 dX10_save_11 rfl rfl ?_
  refine z_iconst X (pc := 12) (v := 1) dX10_save_12 (by decide) ?_
  refine z_put X (pc := 13) 2 zk_17_0 (zc_17_0 E _) rfl inlX10 tyX10 tyX10_ok nmX10 (by decide) gw_655 rfl rfl (ty := .boolean) (by decide +kernel) (by decide) rfl (Nat.le_of_ble_eq_true rfl) dX10_save_13 rfl ?_
  refine z_aload_n X (pc := 16) 0 dX10_save_16 rfl rfl ?_
  refine z_get X (pc := 17) 0 zk_17_0 (zc_17_0 E _) rfl inlX10 (by decide) gw_13 rfl rfl dX10_save_17 ?_
  refine z_get X (pc := 20) 0 zk_9_0 (zc_9_0 E _) rfl inlX9 (by decide) gw_185 rfl rfl dX10_save_20 ?_
  refine z_get X (pc := 23) 0 zk_9_1 (zc_9_1 E _) rfl inlX2 (by decide) gw_186 rfl rfl dX10_save_23 ?_
  refine z_top (y := (g 14 7)) (save_cc h_2 hg) ?_
  exact z_iret X Y dX10_save_26 ⟨_, rfl, rfl, by rw [up3_off (by decide), h_2.1, hg], up3_same, fun b h1 h2 => by rw [up3_off h2, h_2.2 b h1]⟩

def rm_X10_restore : Room := { frames := 4, cells := 0, slots := 0, locals := 124 }
theorem kv_X10_restore : KV yX10_restore RX10 cX10_restore 1 (some .int) 0 := ⟨⟨gw_658, gw_659, gw_2, gw_660⟩, by decide +kernel⟩
set_option maxRecDepth 100000 in
set_option maxHeartbeats 4000000 in
theorem c_X10_restore_no (E : ZE) (M : Mem) (hs0 : M 17 0 2 = 0) : Mt E yX10_restore cX10_restore 1 (some .int) rm_X10_restore [.ref (za E 17 0)] M (PI (-1015) M) := by
  refine z_met (own := RX10) (lv := [(0, .ref (za E 17 0))]) (by decide) rfl (Nat.le_of_ble_eq_true rfl) rfl (fun gg X Y => ?_)
  refine z_aload_n X (pc := 0) 0 dX10_restore_0 rfl rfl ?_
  refine z_get X (pc := 1) 2 zk_17_0 (zc_17_0 E _) rfl inlX10 (by decide) gw_655 rfl rfl dX10_restore_1 ?_
  refine z_top (y := 0) hs0 ?_
  refine z_if_ne X (pc := 4) (tgt := 11) dX10_restore_4 (by decide) (fun c4 => ?_) (fun c4 => ?_)
  · exact absurd c4 (by decide)
  · refine z_sipush X (pc := 7) (v := (-1015)) dX10_restore_7 (by decide) ?_
    exact z_pret X Y dX10_restore_10 rfl rfl
set_option maxRecDepth 100000 in
set_option maxHeartbeats 4000000 in
theorem c_X10_restore (E : ZE) (M : Mem) (g : LG) (hg : gX (M 10) = g) (hs0 : M 17 0 2 = 1) : Mt E yX10_restore cX10_restore 1 (some .int) rm_X10_restore [.ref (za E 17 0)] M (RI (fun v M1 => v = g 14 7 ∧ gX (M1 9) = g ∧ M1 18 0 2 = 0 ∧ M1 18 0 1 = M 18 0 1 ∧ ∀ b, b ≠ 9 → b ≠ 18 → M1 b = M b)) := by
  refine z_met (own := RX10) (lv := [(0, .ref (za E 17 0))]) (by decide) rfl (Nat.le_of_ble_eq_true rfl) rfl (fun gg X Y => ?_)
  refine z_aload_n X (pc := 0) 0 dX10_restore_0 rfl rfl ?_
  refine z_get X (pc := 1) 2 zk_17_0 (zc_17_0 E _) rfl inlX10 (by decide) gw_655 rfl rfl dX10_restore_1 ?_
  refine z_top (y := 1) hs0 ?_
  refine z_if_ne X (pc := 4) (tgt := 11) dX10_restore_4 (by decide) (fun c4 => ?_) (fun c4 => ?_)
  · refine z_aload_n X (pc := 11) 0 dX10_restore_11 rfl rfl ?_
    refine z_get X (pc := 12) 0 zk_17_0 (zc_17_0 E _) rfl inlX10 (by decide) gw_13 rfl rfl dX10_restore_12 ?_
    refine z_aload_n X (pc := 15) 0 dX10_restore_15 rfl rfl ?_
    refine z_get X (pc := 16) 1 zk_17_0 (zc_17_0 E _) rfl inlX10 (by decide) gw_14 rfl rfl dX10_restore_16 ?_
    refine z_callV X (pc := 19) (rest := []) kv_X9_copy (c_X9_copy E M 9 10 (by decide) (by decide) (by decide)) zk_9_0 (zc_9_0 E _) rfl rfl gw_656 (by decide) rfl rfl (Nat.le_of_ble_eq_true rfl) dX10_restore_19 (zk_rv (fun M_1 h_2 => ?_))
    refine z_aload_n X (pc := 22) 0 dX10_restore_22 rfl rfl ?_
    refine z_get X (pc := 23) 3 zk_17_0 (zc_17_0 E _) rfl inlX10 (by decide) gw_18 rfl rfl dX10_restore_23 ?_
    refine z_callV X (pc := 26) (rest := []) kv_X3_forget (c_X3_forget E M_1) zk_18_0 (zc_18_0 E _) rfl rfl gw_661 (by decide) rfl rfl (Nat.le_of_ble_eq_true rfl) dX10_restore_26 (zk_v ?_)
    refine z_aload_n X (pc := 29) 0 dX10_restore_29 rfl rfl ?_
    refine z_get X (pc := 30) 0 zk_17_0 (zc_17_0 E _) rfl inlX10 (by decide) gw_13 rfl rfl dX10_restore_30 ?_
    refine z_get X (pc := 33) 0 zk_9_0 (zc_9_0 E _) rfl inlX9 (by decide) gw_185 rfl rfl dX10_restore_33 ?_
    refine z_get X (pc := 36) 0 zk_9_1 (zc_9_1 E _) rfl inlX2 (by decide) gw_186 rfl rfl dX10_restore_36 ?_
    refine z_top (y := (g 14 7)) (rest_cc h_2 hg) ?_
    exact z_iret X Y dX10_restore_39 ⟨_, rfl, rfl, by rw [up3_off (by decide), h_2.1, hg], up3_same, by rw [up3_ne (by decide), h_2.2 18 (by decide)], fun b h1 h2 => by rw [up3_off h2, h_2.2 b h1]⟩
  · exact absurd c4 (by decide)
