theorem Off.g9 {b : Nat} {M M1 : Mem} {g : LG} (h : Off b M M1) (hb : ¬ b = 9) (hg : gX (M 9) = g) : gX (M1 9) = g := by rw [h 9 (fun e => hb e.symm)]; exact hg
theorem digs_len (k : Nat) : (digs k).length ≤ 2 := by unfold digs; split <;> simp
theorem digs_one {k : Nat} (h : k ≤ 9) : (digs k).length = 1 := by unfold digs; rw [if_pos h]; rfl
theorem taken_ne {g : LG} {c : Nat} (h : taken g c = true) : ¬ g 6 c = -1 := by unfold taken at h; simpa using h
theorem sits_ne {g : LG} {m : Nat} (h : sits g m = true) : ¬ g 12 m = -1 := by unfold sits at h; simpa using h
def aAppend (t : List Int32) (x : Int32) : Int32 × List Int32 := if inB x 32 126 = false then (-1012, t) else if 60 ≤ t.length then (-1013, t) else (nI (t.length + 1), t ++ [x])
def aChar (l : List Int32) (x : Int32) : Int32 := if atL l x = -1 then -1011 else atL l x
def aReason (rs : Rs) (x d : Int32) : Int32 := if inB x 0 2 = false then -1012 else if inR x rs.length = false then -1015 else if d = 0 then (rs.getD x.toNatClampNeg (0, 0)).1 else (rs.getD x.toNatClampNeg (0, 0)).2
def tellL (g : LG) (c : Nat) : List Int32 := digs c ++ [115] ++ digs (g 0 c).toNatClampNeg ++ [110] ++ digs (g 1 c).toNatClampNeg ++ [99] ++ digs (g 2 c).toNatClampNeg ++ List.replicate (g 4 c).toNatClampNeg 94 ++ (if fell g c then [120] else []) ++ (if taken g c then [58] ++ digs (who g c) else [])
def aTell (g : LG) (l : List Int32) (x : Int32) : Int32 × List Int32 := if inR x (cN g) = false then (-1011, l) else (nI (tellL g x.toNatClampNeg).length, tellL g x.toNatClampNeg)
theorem aTell_in {g : LG} {nc nm n c : Nat} {l : List Int32} (hI : Inv g nc nm n) (hc : c < nc) : aTell g l (nI c) = (nI (tellL g c).length, tellL g c) := by
  have h1 := hI.c10
  unfold aTell
  rw [hI.cNe, inR_nI hc (by omega), nI_clamp (by omega), if_neg (by decide)]
def musL (g : LG) (m : Nat) : List Int32 := (if sits g m then digs (g 12 m).toNatClampNeg else [46]) ++ [36] ++ digs (g 10 m).toNatClampNeg ++ (if 0 < g 11 m then [33] ++ digs (g 11 m).toNatClampNeg else [])
def musLs (g : LG) : Nat → List Int32
  | 0 => []
  | n + 1 => musLs g n ++ (if 0 < n then [32] else []) ++ musL g n
theorem musL_len {g : LG} {nc nm n m : Nat} (hI : Inv g nc nm n) (hm : m < nm) : (musL g m).length ≤ 7 := by
  have hn := hI.c10
  have h1 := digs_len (g 10 m).toNatClampNeg
  have h2 := digs_len (g 11 m).toNatClampNeg
  have h3 : (if sits g m then digs (g 12 m).toNatClampNeg else [46]).length = 1 := by
    cases e : sits g m with
    | false => rfl
    | true =>
      obtain ⟨k, hk, ek⟩ : ∃ k, k < nc ∧ g 12 m = nI k := (hI.nor12 hm).resolve_left (sits_ne e)
      rw [ek, nI_clamp (by omega)]
      exact digs_one (by omega)
  unfold musL
  rw [List.length_append, List.length_append, List.length_append, h3]
  split
  · simp only [List.length_append, List.length_cons, List.length_nil]; omega
  · simp only [List.length_cons, List.length_nil]; omega
theorem musLs_len {g : LG} {nc nm n k : Nat} (hI : Inv g nc nm n) (hk : k ≤ nm) : (musLs g k).length ≤ 8 * k := by
  induction k with
  | zero => simp [musLs]
  | succ k ih =>
    have ih := ih (by omega)
    have h1 := musL_len hI (show k < nm by omega)
    unfold musLs
    rw [List.length_append, List.length_append]
    split
    · simp only [List.length_cons, List.length_nil]; omega
    · simp only [List.length_nil]; omega
def aAccount (g : LG) (t : List Int32) (k : Nat) (q : Int32) : Int32 :=
  if q = 0 then nI (cN g) else if q = 1 then nI (mN g) else if q = 2 then nSit g else if q = 3 then nI (cntB (fell g) (cN g)) else if q = 4 then sumI (g 10) (mN g)
  else if q = 5 then g 14 0 else if q = 6 then g 14 1 else if q = 7 then g 14 2 else if q = 8 then g 14 3 else if q = 9 then g 14 4 else if q = 10 then g 14 5 else if q = 11 then g 14 6
  else if q = 12 then nI t.length else if q = 13 then nI k else -1012
def rm_X10_append : Room := { frames := 2, cells := 0, slots := 0, locals := 43 }
theorem kv_X10_append : KV yX10_append RX10 cX10_append 2 (some .int) 1 := ⟨⟨gw_582, gw_583, gw_2, gw_584⟩, by decide +kernel⟩
set_option maxRecDepth 100000 in
set_option maxHeartbeats 4000000 in
theorem c_X10_append (E : ZE) (M : Mem) (g : LG) (hg : gX (M 9) = g) (t : List Int32) (hT : TS M 14 t) (x : Int32) : Mt E yX10_append cX10_append 2 (some .int) rm_X10_append [.ref (za E 17 0), .int x] M (RI (fun v M1 => v = (aAppend t x).1 ∧ TS M1 14 (aAppend t x).2 ∧ Off 14 M M1)) := by
  have hl0 := hT.2.1; have hz0 : zn 14 5 = 60 := by decide
  refine z_met (own := RX10) (lv := [(0, .ref (za E 17 0)), (1, .int x)]) (by decide) rfl (Nat.le_of_ble_eq_true rfl) rfl (fun gg X Y => ?_)
  refine z_iload_n X (pc := 0) 1 dX10_append_0 rfl rfl ?_
  refine z_bipush X (pc := 1) (v := 32) dX10_append_1 (by decide) ?_
  refine z_bipush X (pc := 3) (v := 126) dX10_append_3 (by decide) ?_
  refine z_callS X (pc := 5) (rest := []) ks_X10_isWithin (c_X10_isWithin E M x 32 126) gw_187 (by decide) rfl rfl (Nat.le_of_ble_eq_true rfl) dX10_append_5 (zk_i ?_)
  refine z_bif_ne X (pc := 8) (tgt := 15) dX10_append_8 (by decide) (fun c8 => ?_) (fun c8 => ?_)
  · refine z_aload_n X (pc := 15) 0 dX10_append_15 rfl rfl ?_
    refine z_get X (pc := 16) 6 zk_17_0 (zc_17_0 E _) rfl inlX10 (by decide) gw_27 rfl rfl dX10_append_16 ?_
    refine z_get X (pc := 19) 0 zk_13_0 (zc_13_0 E _) rfl inlX5 (by decide) gw_366 rfl rfl dX10_append_19 ?_
    refine z_callV X (pc := 22) (rest := []) kv_X8_length (c_X8_length_14 E M t hT) zk_14_0 (zc_14_0 E _) rfl rfl gw_376 (by decide) rfl rfl (Nat.le_of_ble_eq_true rfl) dX10_append_22 (zk_i ?_)
    refine z_bipush X (pc := 25) (v := 60) dX10_append_25 (by decide) ?_
    refine z_nicmp_lt X (pc := 27) (a := List.length t) (b := 60) (tgt := 34) dX10_append_27 (by decide) (by omega) (by omega) (fun c27 => ?_) (fun c27 => ?_)
    · refine z_aload_n X (pc := 34) 0 dX10_append_34 rfl rfl ?_
      refine z_get X (pc := 35) 6 zk_17_0 (zc_17_0 E _) rfl inlX10 (by decide) gw_27 rfl rfl dX10_append_35 ?_
      refine z_get X (pc := 38) 0 zk_13_0 (zc_13_0 E _) rfl inlX5 (by decide) gw_366 rfl rfl dX10_append_38 ?_
      refine z_iload_n X (pc := 41) 1 dX10_append_41 rfl rfl ?_
      refine z_callV X (pc := 42) (rest := []) kv_X8_put (c_X8_put_14 E M t hT x (by omega)) zk_14_0 (zc_14_0 E _) rfl rfl gw_585 (by decide) rfl rfl (Nat.le_of_ble_eq_true rfl) dX10_append_42 (zk_rv (fun M_1 hT_2 => ?_))
      refine z_aload_n X (pc := 45) 0 dX10_append_45 rfl rfl ?_
      refine z_get X (pc := 46) 6 zk_17_0 (zc_17_0 E _) rfl inlX10 (by decide) gw_27 rfl rfl dX10_append_46 ?_
      refine z_get X (pc := 49) 0 zk_13_0 (zc_13_0 E _) rfl inlX5 (by decide) gw_366 rfl rfl dX10_append_49 ?_
      refine z_callV X (pc := 52) (rest := []) kv_X8_length (c_X8_length_14 E M_1 (t ++ [x]) hT_2.1) zk_14_0 (zc_14_0 E _) rfl rfl gw_376 (by decide) rfl rfl (Nat.le_of_ble_eq_true rfl) dX10_append_52 (zk_i ?_)
      exact z_iret X Y dX10_append_55 ⟨_, rfl, by simp [aAppend, c8, c27, (Nat.not_le.mpr c27)], by simpa [aAppend, c8, c27, (Nat.not_le.mpr c27)] using hT_2.1, ((Off.rf 14 M).tr hT_2.2)⟩
    · refine z_sipush X (pc := 30) (v := (-1013)) dX10_append_30 (by decide) ?_
      exact z_iret X Y dX10_append_33 ⟨_, rfl, by simp [aAppend, c8, c27, (Nat.not_lt.mp c27)], by simpa [aAppend, c8, c27, (Nat.not_lt.mp c27)] using hT, (Off.rf 14 M)⟩
  · refine z_sipush X (pc := 11) (v := (-1012)) dX10_append_11 (by decide) ?_
    exact z_iret X Y dX10_append_14 ⟨_, rfl, by simp [aAppend, c8], by simpa [aAppend, c8] using hT, (Off.rf 14 M)⟩

def rm_X10_character : Room := { frames := 2, cells := 0, slots := 0, locals := 42 }
def rm_X10_reason : Room := { frames := 1, cells := 0, slots := 0, locals := 22 }
theorem kv_X10_reason : KV yX10_reason RX10 cX10_reason 3 (some .int) 2 := ⟨⟨gw_788, gw_789, gw_2, gw_790⟩, by decide +kernel⟩
set_option maxRecDepth 100000 in
set_option maxHeartbeats 4000000 in
theorem c_X10_reason (E : ZE) (M : Mem) (rs : Rs) (hR : RSn M rs) (x d : Int32) : Mt E yX10_reason cX10_reason 3 (some .int) rm_X10_reason [.ref (za E 17 0), .int x, .int d] M (PI (aReason rs x d) M) := by
  have hl0 := hR.2.1
  refine z_met (own := RX10) (lv := [(0, .ref (za E 17 0)), (1, .int x), (2, .int d)]) (by decide) rfl (Nat.le_of_ble_eq_true rfl) rfl (fun gg X Y => ?_)
  refine z_iload_n X (pc := 0) 1 dX10_reason_0 rfl rfl ?_
  refine z_iconst X (pc := 1) (v := 0) dX10_reason_1 (by decide) ?_
  refine z_iconst X (pc := 2) (v := 2) dX10_reason_2 (by decide) ?_
  refine z_callS X (pc := 3) (rest := []) ks_X10_isWithin (c_X10_isWithin E M x 0 2) gw_187 (by decide) rfl rfl (Nat.le_of_ble_eq_true rfl) dX10_reason_3 (zk_i ?_)
  refine z_bif_ne X (pc := 6) (tgt := 13) dX10_reason_6 (by decide) (fun c6 => ?_) (fun c6 => ?_)
  · refine z_aload_n X (pc := 13) 0 dX10_reason_13 rfl rfl ?_
    refine z_get X (pc := 14) 8 zk_17_0 (zc_17_0 E _) rfl inlX10 (by decide) gw_35 rfl rfl dX10_reason_14 ?_
    refine z_iload_n X (pc := 17) 1 dX10_reason_17 rfl rfl ?_
    refine z_callV X (pc := 18) (rest := []) kv_X6_stands (c_X6_stands E M rs hR x) zk_16_0 (zc_16_0 E _) rfl rfl gw_793 (by decide) rfl rfl (Nat.le_of_ble_eq_true rfl) dX10_reason_18 (zk_i ?_)
    refine z_bif_ne X (pc := 21) (tgt := 28) dX10_reason_21 (by decide) (fun c21 => ?_) (fun c21 => ?_)
    · obtain ⟨k, hk, rfl⟩ := inR_of c21 (by omega)
      refine z_iload_n X (pc := 28) 2 dX10_reason_28 rfl rfl ?_
      refine z_if_eq X (pc := 29) (tgt := 46) dX10_reason_29 (by decide) (fun c29 => ?_) (fun c29 => ?_)
      · refine z_aload_n X (pc := 46) 0 dX10_reason_46 rfl rfl ?_
        refine z_get X (pc := 47) 8 zk_17_0 (zc_17_0 E _) rfl inlX10 (by decide) gw_35 rfl rfl dX10_reason_47 ?_
        refine z_get X (pc := 50) 0 zk_16_0 (zc_16_0 E _) rfl inlX6 (by decide) gw_792 rfl rfl dX10_reason_50 ?_
        refine z_iload_n X (pc := 53) 1 dX10_reason_53 rfl rfl ?_
        refine z_callV X (pc := 54) (rest := []) kv_X7_at (c_X7_at E M 16 4 k (by decide) (by decide) (show k < 3 by omega)) zk_16_4 (zc_16_4 E _) rfl rfl gw_348 (by decide) rfl rfl (Nat.le_of_ble_eq_true rfl) dX10_reason_54 (zk_i ?_)
        refine z_top (y := ((rs.getD k (0, 0)).1)) (hR.2.2 k hk).1 ?_
        exact z_pret X Y dX10_reason_57 (by simp [aReason, c6, c21, c29, c21, nI_clamp (show k < 2 ^ 31 by omega)]) rfl
      · refine z_aload_n X (pc := 32) 0 dX10_reason_32 rfl rfl ?_
        refine z_get X (pc := 33) 8 zk_17_0 (zc_17_0 E _) rfl inlX10 (by decide) gw_35 rfl rfl dX10_reason_33 ?_
        refine z_get X (pc := 36) 1 zk_16_0 (zc_16_0 E _) rfl inlX6 (by decide) gw_791 rfl rfl dX10_reason_36 ?_
        refine z_iload_n X (pc := 39) 1 dX10_reason_39 rfl rfl ?_
        refine z_callV X (pc := 40) (rest := []) kv_X7_at (c_X7_at E M 16 6 k (by decide) (by decide) (show k < 3 by omega)) zk_16_6 (zc_16_6 E _) rfl rfl gw_348 (by decide) rfl rfl (Nat.le_of_ble_eq_true rfl) dX10_reason_40 (zk_i ?_)
        refine z_top (y := ((rs.getD k (0, 0)).2)) (hR.2.2 k hk).2 ?_
        refine z_goto X (pc := 43) (tgt := 57) dX10_reason_43 (by decide) ?_
        exact z_pret X Y dX10_reason_57 (by simp [aReason, c6, c21, c29, c21, nI_clamp (show k < 2 ^ 31 by omega)]) rfl
    · refine z_sipush X (pc := 24) (v := (-1015)) dX10_reason_24 (by decide) ?_
      exact z_pret X Y dX10_reason_27 (by simp [aReason, c6, c21]) rfl
  · refine z_sipush X (pc := 9) (v := (-1012)) dX10_reason_9 (by decide) ?_
    exact z_pret X Y dX10_reason_12 (by simp [aReason, c6]) rfl

def rm_X10_tell : Room := { frames := 3, cells := 0, slots := 0, locals := 64 }
theorem kv_X10_tell : KV yX10_tell RX10 cX10_tell 4 (some .int) 1 := ⟨⟨gw_690, gw_691, gw_2, gw_692⟩, by decide +kernel⟩
set_option maxRecDepth 100000 in
set_option maxHeartbeats 4000000 in
theorem c_X10_tell (E : ZE) (M : Mem) (g : LG) (hg : gX (M 9) = g) (nc nm n : Nat) (hI : Inv g nc nm n) (l : List Int32) (hT : TS M 15 l) (x : Int32) : Mt E yX10_tell cX10_tell 4 (some .int) rm_X10_tell [.ref (za E 17 0), .int x] M (RI (fun v M1 => v = (aTell g l x).1 ∧ TS M1 15 (aTell g l x).2 ∧ Off 15 M M1)) := by
  have hnc := hI.nc; have hnm := hI.nm; have hn := hI.c10; have hn2 := hI.m10
  refine z_met (own := RX10) (lv := [(0, .ref (za E 17 0)), (1, .int x)]) (by decide) rfl (Nat.le_of_ble_eq_true rfl) rfl (fun gg X Y => ?_)
  refine z_aload_n X (pc := 0) 0 dX10_tell_0 rfl rfl ?_
  refine z_get X (pc := 1) 0 zk_17_0 (zc_17_0 E _) rfl inlX10 (by decide) gw_13 rfl rfl dX10_tell_1 ?_
  refine z_get X (pc := 4) 0 zk_9_0 (zc_9_0 E _) rfl inlX9 (by decide) gw_185 rfl rfl dX10_tell_4 ?_
  refine z_astore_n X (pc := 7) (lv1 := [(2, .ref (za E 9 1)), (0, .ref (za E 17 0)), (1, .int x)]) dX10_tell_7 rfl (by decide) rfl ?_
  refine z_aload_n X (pc := 8) 0 dX10_tell_8 rfl rfl ?_
  refine z_iload_n X (pc := 9) 2 dX10_tell_9 rfl rfl ?_
  refine z_callV X (pc := 10) (rest := []) kv_X2_has (c_X2_has E M g (And.left (S9.rf hg)) nc hnc (by omega) x) zk_9_1 (zc_9_1 E _) rfl rfl gw_396 (by decide) rfl rfl (Nat.le_of_ble_eq_true rfl) dX10_tell_10 (zk_i ?_)
  refine z_bif_ne X (pc := 13) (tgt := 20) dX10_tell_13 (by decide) (fun c13 => ?_) (fun c13 => ?_)
  · obtain ⟨c, hc, rfl⟩ := inR_of c13 (by omega)
    obtain ⟨k0, -, hk0, e0⟩ := (hI.ch c hc).1
    obtain ⟨k1, -, hk1, e1⟩ := (hI.ch c hc).2.1
    obtain ⟨k2, -, hk2, e2⟩ := (hI.ch c hc).2.2.1
    obtain ⟨kt, -, hkt, et⟩ := (hI.ch c hc).2.2.2.2.1
    have hd0 := digs_len c; have hd1 := digs_len k0; have hd2 := digs_len k1; have hd3 := digs_len k2
    refine z_aload_n X (pc := 20) 1 dX10_tell_20 rfl rfl ?_
    refine z_get X (pc := 21) 7 zk_17_0 (zc_17_0 E _) rfl inlX10 (by decide) gw_31 rfl rfl dX10_tell_21 ?_
    refine z_callV X (pc := 24) (rest := []) kv_X8_clear (c_X8_clear_15 E M) zk_15_0 (zc_15_0 E _) rfl rfl gw_627 (by decide) rfl rfl (Nat.le_of_ble_eq_true rfl) dX10_tell_24 (zk_rv (fun M_1 hT_2 => ?_))
    refine z_aload_n X (pc := 27) 1 dX10_tell_27 rfl rfl ?_
    refine z_get X (pc := 28) 7 zk_17_0 (zc_17_0 E _) rfl inlX10 (by decide) gw_31 rfl rfl dX10_tell_28 ?_
    refine z_iload_n X (pc := 31) 2 dX10_tell_31 rfl rfl ?_
    refine z_callV X (pc := 32) (rest := []) kv_X8_putNumber (c_X8_putNumber_15 E M_1 ([]) hT_2.1 c (by omega) (by simp only [List.length_append, List.length_cons, List.length_nil, List.length_replicate, List.nil_append]; omega)) zk_15_0 (zc_15_0 E _) rfl rfl gw_693 (by decide) rfl rfl (Nat.le_of_ble_eq_true rfl) dX10_tell_32 (zk_rv (fun M_3 hT_4 => ?_))
    refine z_aload_n X (pc := 35) 1 dX10_tell_35 rfl rfl ?_
    refine z_get X (pc := 36) 7 zk_17_0 (zc_17_0 E _) rfl inlX10 (by decide) gw_31 rfl rfl dX10_tell_36 ?_
    refine z_bipush X (pc := 39) (v := 115) dX10_tell_39 (by decide) ?_
    refine z_callV X (pc := 41) (rest := []) kv_X8_put (c_X8_put_15 E M_3 (([]) ++ digs c) hT_4.1 115 (by simp only [List.length_append, List.length_cons, List.length_nil, List.length_replicate, List.nil_append]; omega)) zk_15_0 (zc_15_0 E _) rfl rfl gw_585 (by decide) rfl rfl (Nat.le_of_ble_eq_true rfl) dX10_tell_41 (zk_rv (fun M_5 hT_6 => ?_))
    refine z_aload_n X (pc := 44) 1 dX10_tell_44 rfl rfl ?_
    refine z_get X (pc := 45) 7 zk_17_0 (zc_17_0 E _) rfl inlX10 (by decide) gw_31 rfl rfl dX10_tell_45 ?_
    refine z_aload_n X (pc := 48) 0 dX10_tell_48 rfl rfl ?_
    refine z_get X (pc := 49) 1 zk_9_1 (zc_9_1 E _) rfl inlX2 (by decide) gw_389 rfl rfl dX10_tell_49 ?_
    refine z_iload_n X (pc := 52) 2 dX10_tell_52 rfl rfl ?_
    refine z_callV X (pc := 53) (rest := [.ref (za E 15 0)]) kv_X7_at (c_X7_at E M_5 9 4 c (by decide) (by decide) (show c < 10 by omega)) zk_9_4 (zc_9_4 E _) rfl rfl gw_348 (by decide) rfl rfl (Nat.le_of_ble_eq_true rfl) dX10_tell_53 (zk_i ?_)
    refine z_top (y := (g 0 c)) (S9.row 0 (S9.rf (Off.g9 ((((Off.rf 15 M).tr hT_2.2).tr hT_4.2).tr hT_6.2) (by decide) hg)) rfl (by decide) (show c < 10 by omega)) ?_
    refine z_top (y := (nI k0)) e0 ?_
    refine z_callV X (pc := 56) (rest := []) kv_X8_putNumber (c_X8_putNumber_15 E M_5 ((([]) ++ digs c) ++ [115]) hT_6.1 k0 (by omega) (by simp only [List.length_append, List.length_cons, List.length_nil, List.length_replicate, List.nil_append]; omega)) zk_15_0 (zc_15_0 E _) rfl rfl gw_693 (by decide) rfl rfl (Nat.le_of_ble_eq_true rfl) dX10_tell_56 (zk_rv (fun M_7 hT_8 => ?_))
    refine z_aload_n X (pc := 59) 1 dX10_tell_59 rfl rfl ?_
    refine z_get X (pc := 60) 7 zk_17_0 (zc_17_0 E _) rfl inlX10 (by decide) gw_31 rfl rfl dX10_tell_60 ?_
    refine z_bipush X (pc := 63) (v := 110) dX10_tell_63 (by decide) ?_
    refine z_callV X (pc := 65) (rest := []) kv_X8_put (c_X8_put_15 E M_7 (((([]) ++ digs c) ++ [115]) ++ digs k0) hT_8.1 110 (by simp only [List.length_append, List.length_cons, List.length_nil, List.length_replicate, List.nil_append]; omega)) zk_15_0 (zc_15_0 E _) rfl rfl gw_585 (by decide) rfl rfl (Nat.le_of_ble_eq_true rfl) dX10_tell_65 (zk_rv (fun M_9 hT_10 => ?_))
    refine z_aload_n X (pc := 68) 1 dX10_tell_68 rfl rfl ?_
    refine z_get X (pc := 69) 7 zk_17_0 (zc_17_0 E _) rfl inlX10 (by decide) gw_31 rfl rfl dX10_tell_69 ?_
    refine z_aload_n X (pc := 72) 0 dX10_tell_72 rfl rfl ?_
    refine z_get X (pc := 73) 2 zk_9_1 (zc_9_1 E _) rfl inlX2 (by decide) gw_390 rfl rfl dX10_tell_73 ?_
    refine z_iload_n X (pc := 76) 2 dX10_tell_76 rfl rfl ?_
    refine z_callV X (pc := 77) (rest := [.ref (za E 15 0)]) kv_X7_at (c_X7_at E M_9 9 6 c (by decide) (by decide) (show c < 10 by omega)) zk_9_6 (zc_9_6 E _) rfl rfl gw_348 (by decide) rfl rfl (Nat.le_of_ble_eq_true rfl) dX10_tell_77 (zk_i ?_)
    refine z_top (y := (g 1 c)) (S9.row 1 (S9.rf (Off.g9 ((((((Off.rf 15 M).tr hT_2.2).tr hT_4.2).tr hT_6.2).tr hT_8.2).tr hT_10.2) (by decide) hg)) rfl (by decide) (show c < 10 by omega)) ?_
    refine z_top (y := (nI k1)) e1 ?_
    refine z_callV X (pc := 80) (rest := []) kv_X8_putNumber (c_X8_putNumber_15 E M_9 ((((([]) ++ digs c) ++ [115]) ++ digs k0) ++ [110]) hT_10.1 k1 (by omega) (by simp only [List.length_append, List.length_cons, List.length_nil, List.length_replicate, List.nil_append]; omega)) zk_15_0 (zc_15_0 E _) rfl rfl gw_693 (by decide) rfl rfl (Nat.le_of_ble_eq_true rfl) dX10_tell_80 (zk_rv (fun M_11 hT_12 => ?_))
    refine z_aload_n X (pc := 83) 1 dX10_tell_83 rfl rfl ?_
    refine z_get X (pc := 84) 7 zk_17_0 (zc_17_0 E _) rfl inlX10 (by decide) gw_31 rfl rfl dX10_tell_84 ?_
    refine z_bipush X (pc := 87) (v := 99) dX10_tell_87 (by decide) ?_
    refine z_callV X (pc := 89) (rest := []) kv_X8_put (c_X8_put_15 E M_11 (((((([]) ++ digs c) ++ [115]) ++ digs k0) ++ [110]) ++ digs k1) hT_12.1 99 (by simp only [List.length_append, List.length_cons, List.length_nil, List.length_replicate, List.nil_append]; omega)) zk_15_0 (zc_15_0 E _) rfl rfl gw_585 (by decide) rfl rfl (Nat.le_of_ble_eq_true rfl) dX10_tell_89 (zk_rv (fun M_13 hT_14 => ?_))
    refine z_aload_n X (pc := 92) 1 dX10_tell_92 rfl rfl ?_
    refine z_get X (pc := 93) 7 zk_17_0 (zc_17_0 E _) rfl inlX10 (by decide) gw_31 rfl rfl dX10_tell_93 ?_
    refine z_aload_n X (pc := 96) 0 dX10_tell_96 rfl rfl ?_
    refine z_get X (pc := 97) 3 zk_9_1 (zc_9_1 E _) rfl inlX2 (by decide) gw_391 rfl rfl dX10_tell_97 ?_
    refine z_iload_n X (pc := 100) 2 dX10_tell_100 rfl rfl ?_
    refine z_callV X (pc := 101) (rest := [.ref (za E 15 0)]) kv_X7_at (c_X7_at E M_13 9 8 c (by decide) (by decide) (show c < 10 by omega)) zk_9_8 (zc_9_8 E _) rfl rfl gw_348 (by decide) rfl rfl (Nat.le_of_ble_eq_true rfl) dX10_tell_101 (zk_i ?_)
    refine z_top (y := (g 2 c)) (S9.row 2 (S9.rf (Off.g9 ((((((((Off.rf 15 M).tr hT_2.2).tr hT_4.2).tr hT_6.2).tr hT_8.2).tr hT_10.2).tr hT_12.2).tr hT_14.2) (by decide) hg)) rfl (by decide) (show c < 10 by omega)) ?_
    refine z_top (y := (nI k2)) e2 ?_
    refine z_callV X (pc := 104) (rest := []) kv_X8_putNumber (c_X8_putNumber_15 E M_13 ((((((([]) ++ digs c) ++ [115]) ++ digs k0) ++ [110]) ++ digs k1) ++ [99]) hT_14.1 k2 (by omega) (by simp only [List.length_append, List.length_cons, List.length_nil, List.length_replicate, List.nil_append]; omega)) zk_15_0 (zc_15_0 E _) rfl rfl gw_693 (by decide) rfl rfl (Nat.le_of_ble_eq_true rfl) dX10_tell_104 (zk_rv (fun M_15 hT_16 => ?_))
    refine z_iconst X (pc := 107) (v := 0) dX10_tell_107 (by decide) ?_
    refine z_istore_n X (pc := 108) (lv1 := [(3, .int 0), (2, .ref (za E 9 1)), (0, .ref (za E 17 0)), (1, .int (nI c))]) dX10_tell_108 rfl (by decide) rfl ?_
    refine z_sub (lv' := [(3, .int (nI 0)), (0, .ref (za E 17 0)), (1, .int (nI c)), (2, .ref (za E 9 1))]) [0, 2, 3, 1] rfl ?_
    refine z_loop (kt) 109 (σ := Mem) (fun i s => TS s 15 ((((((((([]) ++ digs c) ++ [115]) ++ digs k0) ++ [110]) ++ digs k1) ++ [99]) ++ digs k2) ++ List.replicate i 94) ∧ Off 15 M s) (fun i s => (s, [(3, .int (nI i)), (0, .ref (za E 17 0)), (1, .int (nI c)), (2, .ref (za E 9 1))])) ?_ 0 M_15 (Nat.zero_le _) ⟨by simpa using hT_16.1, (((((((((Off.rf 15 M).tr hT_2.2).tr hT_4.2).tr hT_6.2).tr hT_8.2).tr hT_10.2).tr hT_12.2).tr hT_14.2).tr hT_16.2)⟩
    intro i s hi109 hJ109 ih109
    obtain ⟨M1, rfl⟩ : ∃ z, z = s := ⟨s, rfl⟩
    show Z gg E M1 [(3, .int (nI i)), (0, .ref (za E 17 0)), (1, .int (nI c)), (2, .ref (za E 9 1))] 109 []
    replace hJ109 : TS M1 15 ((((((((([]) ++ digs c) ++ [115]) ++ digs k0) ++ [110]) ++ digs k1) ++ [99]) ++ digs k2) ++ List.replicate i 94) ∧ Off 15 M M1 := hJ109
    refine z_iload_n X (pc := 109) 0 dX10_tell_109 rfl rfl ?_
    refine z_aload_n X (pc := 110) 3 dX10_tell_110 rfl rfl ?_
    refine z_get X (pc := 111) 5 zk_9_1 (zc_9_1 E _) rfl inlX2 (by decide) gw_393 rfl rfl dX10_tell_111 ?_
    refine z_iload_n X (pc := 114) 2 dX10_tell_114 rfl rfl ?_
    refine z_callV X (pc := 115) (rest := [.int (nI i)]) kv_X7_at (c_X7_at E M1 9 12 c (by decide) (by decide) (show c < 10 by omega)) zk_9_12 (zc_9_12 E _) rfl rfl gw_348 (by decide) rfl rfl (Nat.le_of_ble_eq_true rfl) dX10_tell_115 (zk_i ?_)
    refine z_top (y := (g 4 c)) (S9.row 4 (S9.rf (Off.g9 hJ109.2 (by decide) hg)) rfl (by decide) (show c < 10 by omega)) ?_
    refine z_top (y := (nI kt)) et ?_
    refine z_nicmp_ge X (pc := 118) (a := i) (b := kt) (tgt := 136) dX10_tell_118 (by decide) (by omega) (by omega) (fun c118 => ?_) (fun c118 => ?_)
    · refine z_aload_n X (pc := 136) 3 dX10_tell_136 rfl rfl ?_
      refine z_iload_n X (pc := 137) 2 dX10_tell_137 rfl rfl ?_
      refine z_callV X (pc := 138) (rest := []) kv_X2_isFallen (c_X2_isFallen E M1 g (And.left (S9.rf (Off.g9 hJ109.2 (by decide) hg)))  c (show c < 10 by omega)) zk_9_1 (zc_9_1 E _) rfl rfl gw_432 (by decide) rfl rfl (Nat.le_of_ble_eq_true rfl) dX10_tell_138 (zk_i ?_)
      refine z_bif_eq X (pc := 141) (tgt := 153) dX10_tell_141 (by decide) (fun c141 => ?_) (fun c141 => ?_)
      · refine z_aload_n X (pc := 153) 3 dX10_tell_153 rfl rfl ?_
        refine z_iload_n X (pc := 154) 2 dX10_tell_154 rfl rfl ?_
        refine z_callV X (pc := 155) (rest := []) kv_X2_isTaken (c_X2_isTaken E M1 g (And.left (S9.rf (Off.g9 hJ109.2 (by decide) hg)))  c (show c < 10 by omega)) zk_9_1 (zc_9_1 E _) rfl rfl gw_443 (by decide) rfl rfl (Nat.le_of_ble_eq_true rfl) dX10_tell_155 (zk_i ?_)
        refine z_bif_eq X (pc := 158) (tgt := 185) dX10_tell_158 (by decide) (fun c158 => ?_) (fun c158 => ?_)
        · refine z_aload_n X (pc := 185) 1 dX10_tell_185 rfl rfl ?_
          refine z_get X (pc := 186) 7 zk_17_0 (zc_17_0 E _) rfl inlX10 (by decide) gw_31 rfl rfl dX10_tell_186 ?_
          refine z_callV X (pc := 189) (rest := []) kv_X8_length (c_X8_length_15 E M1 (((((((((([]) ++ digs c) ++ [115]) ++ digs k0) ++ [110]) ++ digs k1) ++ [99]) ++ digs k2) ++ List.replicate i 94)) hJ109.1) zk_15_0 (zc_15_0 E _) rfl rfl gw_376 (by decide) rfl rfl (Nat.le_of_ble_eq_true rfl) dX10_tell_189 (zk_i ?_)
          have htl : tellL g c = ((((((((([]) ++ digs c) ++ [115]) ++ digs k0) ++ [110]) ++ digs k1) ++ [99]) ++ digs k2) ++ List.replicate i 94) := by rw [show i = kt by omega]; simp [tellL, who, e0, e1, e2, et, nI_clamp (show k0 < 2 ^ 31 by omega), nI_clamp (show k1 < 2 ^ 31 by omega), nI_clamp (show k2 < 2 ^ 31 by omega), nI_clamp (show kt < 2 ^ 31 by omega), c141, c158]
          exact z_iret X Y dX10_tell_192 ⟨_, rfl, by rw [aTell_in hI hc, htl], by rw [aTell_in hI hc, htl]; exact hJ109.1, hJ109.2⟩
        · refine z_aload_n X (pc := 161) 1 dX10_tell_161 rfl rfl ?_
          refine z_get X (pc := 162) 7 zk_17_0 (zc_17_0 E _) rfl inlX10 (by decide) gw_31 rfl rfl dX10_tell_162 ?_
          refine z_bipush X (pc := 165) (v := 58) dX10_tell_165 (by decide) ?_
          refine z_callV X (pc := 167) (rest := []) kv_X8_put (c_X8_put_15 E M1 (((((((((([]) ++ digs c) ++ [115]) ++ digs k0) ++ [110]) ++ digs k1) ++ [99]) ++ digs k2) ++ List.replicate i 94)) hJ109.1 58 (by simp only [List.length_append, List.length_cons, List.length_nil, List.length_replicate, List.nil_append]; omega)) zk_15_0 (zc_15_0 E _) rfl rfl gw_585 (by decide) rfl rfl (Nat.le_of_ble_eq_true rfl) dX10_tell_167 (zk_rv (fun M_17 hT_18 => ?_))
          refine z_aload_n X (pc := 170) 1 dX10_tell_170 rfl rfl ?_
          refine z_get X (pc := 171) 7 zk_17_0 (zc_17_0 E _) rfl inlX10 (by decide) gw_31 rfl rfl dX10_tell_171 ?_
          refine z_aload_n X (pc := 174) 3 dX10_tell_174 rfl rfl ?_
          refine z_get X (pc := 175) 7 zk_9_1 (zc_9_1 E _) rfl inlX2 (by decide) gw_395 rfl rfl dX10_tell_175 ?_
          refine z_iload_n X (pc := 178) 2 dX10_tell_178 rfl rfl ?_
          refine z_callV X (pc := 179) (rest := [.ref (za E 15 0)]) kv_X7_at (c_X7_at E M_17 9 16 c (by decide) (by decide) (show c < 10 by omega)) zk_9_16 (zc_9_16 E _) rfl rfl gw_348 (by decide) rfl rfl (Nat.le_of_ble_eq_true rfl) dX10_tell_179 (zk_i ?_)
          refine z_top (y := (g 6 c)) (S9.row 6 (S9.rf (Off.g9 (hJ109.2.tr hT_18.2) (by decide) hg)) rfl (by decide) (show c < 10 by omega)) ?_
          obtain ⟨k6, hk6, e6⟩ : ∃ k, k < nm ∧ g 6 c = nI k := (hI.nor6 hc).resolve_left (taken_ne c158)
          refine z_top (y := (nI k6)) e6 ?_
          refine z_callV X (pc := 182) (rest := []) kv_X8_putNumber (c_X8_putNumber_15 E M_17 ((((((((((([]) ++ digs c) ++ [115]) ++ digs k0) ++ [110]) ++ digs k1) ++ [99]) ++ digs k2) ++ List.replicate i 94)) ++ [58]) hT_18.1 k6 (by omega) (by simp only [List.length_append, List.length_cons, List.length_nil, List.length_replicate, List.nil_append]; omega)) zk_15_0 (zc_15_0 E _) rfl rfl gw_693 (by decide) rfl rfl (Nat.le_of_ble_eq_true rfl) dX10_tell_182 (zk_rv (fun M_19 hT_20 => ?_))
          refine z_aload_n X (pc := 185) 1 dX10_tell_185 rfl rfl ?_
          refine z_get X (pc := 186) 7 zk_17_0 (zc_17_0 E _) rfl inlX10 (by decide) gw_31 rfl rfl dX10_tell_186 ?_
          refine z_callV X (pc := 189) (rest := []) kv_X8_length (c_X8_length_15 E M_19 (((((((((((([]) ++ digs c) ++ [115]) ++ digs k0) ++ [110]) ++ digs k1) ++ [99]) ++ digs k2) ++ List.replicate i 94)) ++ [58]) ++ digs k6) hT_20.1) zk_15_0 (zc_15_0 E _) rfl rfl gw_376 (by decide) rfl rfl (Nat.le_of_ble_eq_true rfl) dX10_tell_189 (zk_i ?_)
          have htl : tellL g c = ((((((((((([]) ++ digs c) ++ [115]) ++ digs k0) ++ [110]) ++ digs k1) ++ [99]) ++ digs k2) ++ List.replicate i 94)) ++ [58]) ++ digs k6 := by rw [show i = kt by omega]; simp [tellL, who, e0, e1, e2, et, nI_clamp (show k0 < 2 ^ 31 by omega), nI_clamp (show k1 < 2 ^ 31 by omega), nI_clamp (show k2 < 2 ^ 31 by omega), nI_clamp (show kt < 2 ^ 31 by omega), c141, c158, e6, nI_clamp (show k6 < 2 ^ 31 by omega)]
          exact z_iret X Y dX10_tell_192 ⟨_, rfl, by rw [aTell_in hI hc, htl], by rw [aTell_in hI hc, htl]; exact hT_20.1, ((hJ109.2.tr hT_18.2).tr hT_20.2)⟩
      · refine z_aload_n X (pc := 144) 1 dX10_tell_144 rfl rfl ?_
        refine z_get X (pc := 145) 7 zk_17_0 (zc_17_0 E _) rfl inlX10 (by decide) gw_31 rfl rfl dX10_tell_145 ?_
        refine z_bipush X (pc := 148) (v := 120) dX10_tell_148 (by decide) ?_
        refine z_callV X (pc := 150) (rest := []) kv_X8_put (c_X8_put_15 E M1 (((((((((([]) ++ digs c) ++ [115]) ++ digs k0) ++ [110]) ++ digs k1) ++ [99]) ++ digs k2) ++ List.replicate i 94)) hJ109.1 120 (by simp only [List.length_append, List.length_cons, List.length_nil, List.length_replicate, List.nil_append]; omega)) zk_15_0 (zc_15_0 E _) rfl rfl gw_585 (by decide) rfl rfl (Nat.le_of_ble_eq_true rfl) dX10_tell_150 (zk_rv (fun M_21 hT_22 => ?_))
        refine z_aload_n X (pc := 153) 3 dX10_tell_153 rfl rfl ?_
        refine z_iload_n X (pc := 154) 2 dX10_tell_154 rfl rfl ?_
        refine z_callV X (pc := 155) (rest := []) kv_X2_isTaken (c_X2_isTaken E M_21 g (And.left (S9.rf (Off.g9 (hJ109.2.tr hT_22.2) (by decide) hg)))  c (show c < 10 by omega)) zk_9_1 (zc_9_1 E _) rfl rfl gw_443 (by decide) rfl rfl (Nat.le_of_ble_eq_true rfl) dX10_tell_155 (zk_i ?_)
        refine z_bif_eq X (pc := 158) (tgt := 185) dX10_tell_158 (by decide) (fun c158 => ?_) (fun c158 => ?_)
        · refine z_aload_n X (pc := 185) 1 dX10_tell_185 rfl rfl ?_
          refine z_get X (pc := 186) 7 zk_17_0 (zc_17_0 E _) rfl inlX10 (by decide) gw_31 rfl rfl dX10_tell_186 ?_
          refine z_callV X (pc := 189) (rest := []) kv_X8_length (c_X8_length_15 E M_21 ((((((((((([]) ++ digs c) ++ [115]) ++ digs k0) ++ [110]) ++ digs k1) ++ [99]) ++ digs k2) ++ List.replicate i 94)) ++ [120]) hT_22.1) zk_15_0 (zc_15_0 E _) rfl rfl gw_376 (by decide) rfl rfl (Nat.le_of_ble_eq_true rfl) dX10_tell_189 (zk_i ?_)
          have htl : tellL g c = (((((((((([]) ++ digs c) ++ [115]) ++ digs k0) ++ [110]) ++ digs k1) ++ [99]) ++ digs k2) ++ List.replicate i 94)) ++ [120] := by rw [show i = kt by omega]; simp [tellL, who, e0, e1, e2, et, nI_clamp (show k0 < 2 ^ 31 by omega), nI_clamp (show k1 < 2 ^ 31 by omega), nI_clamp (show k2 < 2 ^ 31 by omega), nI_clamp (show kt < 2 ^ 31 by omega), c141, c158]
          exact z_iret X Y dX10_tell_192 ⟨_, rfl, by rw [aTell_in hI hc, htl], by rw [aTell_in hI hc, htl]; exact hT_22.1, (hJ109.2.tr hT_22.2)⟩
        · refine z_aload_n X (pc := 161) 1 dX10_tell_161 rfl rfl ?_
          refine z_get X (pc := 162) 7 zk_17_0 (zc_17_0 E _) rfl inlX10 (by decide) gw_31 rfl rfl dX10_tell_162 ?_
          refine z_bipush X (pc := 165) (v := 58) dX10_tell_165 (by decide) ?_
          refine z_callV X (pc := 167) (rest := []) kv_X8_put (c_X8_put_15 E M_21 ((((((((((([]) ++ digs c) ++ [115]) ++ digs k0) ++ [110]) ++ digs k1) ++ [99]) ++ digs k2) ++ List.replicate i 94)) ++ [120]) hT_22.1 58 (by simp only [List.length_append, List.length_cons, List.length_nil, List.length_replicate, List.nil_append]; omega)) zk_15_0 (zc_15_0 E _) rfl rfl gw_585 (by decide) rfl rfl (Nat.le_of_ble_eq_true rfl) dX10_tell_167 (zk_rv (fun M_23 hT_24 => ?_))
          refine z_aload_n X (pc := 170) 1 dX10_tell_170 rfl rfl ?_
          refine z_get X (pc := 171) 7 zk_17_0 (zc_17_0 E _) rfl inlX10 (by decide) gw_31 rfl rfl dX10_tell_171 ?_
          refine z_aload_n X (pc := 174) 3 dX10_tell_174 rfl rfl ?_
          refine z_get X (pc := 175) 7 zk_9_1 (zc_9_1 E _) rfl inlX2 (by decide) gw_395 rfl rfl dX10_tell_175 ?_
          refine z_iload_n X (pc := 178) 2 dX10_tell_178 rfl rfl ?_
          refine z_callV X (pc := 179) (rest := [.ref (za E 15 0)]) kv_X7_at (c_X7_at E M_23 9 16 c (by decide) (by decide) (show c < 10 by omega)) zk_9_16 (zc_9_16 E _) rfl rfl gw_348 (by decide) rfl rfl (Nat.le_of_ble_eq_true rfl) dX10_tell_179 (zk_i ?_)
          refine z_top (y := (g 6 c)) (S9.row 6 (S9.rf (Off.g9 ((hJ109.2.tr hT_22.2).tr hT_24.2) (by decide) hg)) rfl (by decide) (show c < 10 by omega)) ?_
          obtain ⟨k6, hk6, e6⟩ : ∃ k, k < nm ∧ g 6 c = nI k := (hI.nor6 hc).resolve_left (taken_ne c158)
          refine z_top (y := (nI k6)) e6 ?_
          refine z_callV X (pc := 182) (rest := []) kv_X8_putNumber (c_X8_putNumber_15 E M_23 (((((((((((([]) ++ digs c) ++ [115]) ++ digs k0) ++ [110]) ++ digs k1) ++ [99]) ++ digs k2) ++ List.replicate i 94)) ++ [120]) ++ [58]) hT_24.1 k6 (by omega) (by simp only [List.length_append, List.length_cons, List.length_nil, List.length_replicate, List.nil_append]; omega)) zk_15_0 (zc_15_0 E _) rfl rfl gw_693 (by decide) rfl rfl (Nat.le_of_ble_eq_true rfl) dX10_tell_182 (zk_rv (fun M_25 hT_26 => ?_))
          refine z_aload_n X (pc := 185) 1 dX10_tell_185 rfl rfl ?_
          refine z_get X (pc := 186) 7 zk_17_0 (zc_17_0 E _) rfl inlX10 (by decide) gw_31 rfl rfl dX10_tell_186 ?_
          refine z_callV X (pc := 189) (rest := []) kv_X8_length (c_X8_length_15 E M_25 ((((((((((((([]) ++ digs c) ++ [115]) ++ digs k0) ++ [110]) ++ digs k1) ++ [99]) ++ digs k2) ++ List.replicate i 94)) ++ [120]) ++ [58]) ++ digs k6) hT_26.1) zk_15_0 (zc_15_0 E _) rfl rfl gw_376 (by decide) rfl rfl (Nat.le_of_ble_eq_true rfl) dX10_tell_189 (zk_i ?_)
          have htl : tellL g c = (((((((((((([]) ++ digs c) ++ [115]) ++ digs k0) ++ [110]) ++ digs k1) ++ [99]) ++ digs k2) ++ List.replicate i 94)) ++ [120]) ++ [58]) ++ digs k6 := by rw [show i = kt by omega]; simp [tellL, who, e0, e1, e2, et, nI_clamp (show k0 < 2 ^ 31 by omega), nI_clamp (show k1 < 2 ^ 31 by omega), nI_clamp (show k2 < 2 ^ 31 by omega), nI_clamp (show kt < 2 ^ 31 by omega), c141, c158, e6, nI_clamp (show k6 < 2 ^ 31 by omega)]
          exact z_iret X Y dX10_tell_192 ⟨_, rfl, by rw [aTell_in hI hc, htl], by rw [aTell_in hI hc, htl]; exact hT_26.1, (((hJ109.2.tr hT_22.2).tr hT_24.2).tr hT_26.2)⟩
    · refine z_aload_n X (pc := 121) 1 dX10_tell_121 rfl rfl ?_
      refine z_get X (pc := 122) 7 zk_17_0 (zc_17_0 E _) rfl inlX10 (by decide) gw_31 rfl rfl dX10_tell_122 ?_
      refine z_bipush X (pc := 125) (v := 94) dX10_tell_125 (by decide) ?_
      refine z_callV X (pc := 127) (rest := []) kv_X8_put (c_X8_put_15 E M1 (((((((((([]) ++ digs c) ++ [115]) ++ digs k0) ++ [110]) ++ digs k1) ++ [99]) ++ digs k2) ++ List.replicate i 94)) hJ109.1 94 (by simp only [List.length_append, List.length_cons, List.length_nil, List.length_replicate, List.nil_append]; omega)) zk_15_0 (zc_15_0 E _) rfl rfl gw_585 (by decide) rfl rfl (Nat.le_of_ble_eq_true rfl) dX10_tell_127 (zk_rv (fun M_27 hT_28 => ?_))
      refine z_iinc X (pc := 130) (v := (nI (i + 1))) (lv1 := [(3, .int (nI (i + 1))), (0, .ref (za E 17 0)), (1, .int (nI c)), (2, .ref (za E 9 1))]) 0 dX10_tell_130 rfl (nI_1 _) (by decide) rfl ?_
      refine z_goto X (pc := 133) (tgt := 109) dX10_tell_133 (by decide) ?_
      refine z_sub (lv' := [(3, .int (nI (i + 1))), (0, .ref (za E 17 0)), (1, .int (nI c)), (2, .ref (za E 9 1))]) [0, 1, 2, 3] rfl ?_
      exact ih109 M_27 (by omega) ⟨by rw [List.replicate_succ', ← List.append_assoc]; exact hT_28.1, (hJ109.2.tr hT_28.2)⟩
  · refine z_sipush X (pc := 16) (v := (-1011)) dX10_tell_16 (by decide) ?_
    exact z_iret X Y dX10_tell_19 ⟨_, rfl, by simp [aTell, hI.cNe, hI.mNe, c13], by simpa [aTell, hI.cNe, hI.mNe, c13] using hT, Off.rf _ _⟩

def rm_X10_writeMusician : Room := { frames := 3, cells := 0, slots := 0, locals := 64 }
def rm_X10_tellMusicians : Room := { frames := 4, cells := 0, slots := 0, locals := 86 }
def rm_X10_account : Room := { frames := 3, cells := 0, slots := 0, locals := 64 }
theorem kv_X10_account : KV yX10_account RX10 cX10_account 3 (some .int) 1 := ⟨⟨gw_357, gw_358, gw_2, gw_359⟩, by decide +kernel⟩
set_option maxRecDepth 100000 in
set_option maxHeartbeats 4000000 in
theorem c_X10_account (E : ZE) (M : Mem) (g : LG) (hg : gX (M 9) = g) (nc nm n : Nat) (hI : Inv g nc nm n) (t : List Int32) (hT : TS M 14 t) (k : Nat) (hk : M 18 0 2 = nI k) (q : Int32) : Mt E yX10_account cX10_account 3 (some .int) rm_X10_account [.ref (za E 17 0), .int q] M (PI (aAccount g t k q) M) := by
  have hnc := hI.nc; have hnm := hI.nm; have hn := hI.c10; have hn2 := hI.m10
  refine z_met (own := RX10) (lv := [(0, .ref (za E 17 0)), (1, .int q)]) (by decide) rfl (Nat.le_of_ble_eq_true rfl) rfl (fun gg X Y => ?_)
  refine z_aload_n X (pc := 0) 0 dX10_account_0 rfl rfl ?_
  refine z_get X (pc := 1) 0 zk_17_0 (zc_17_0 E _) rfl inlX10 (by decide) gw_13 rfl rfl dX10_account_1 ?_
  refine z_get X (pc := 4) 2 zk_9_0 (zc_9_0 E _) rfl inlX9 (by decide) gw_241 rfl rfl dX10_account_4 ?_
  refine z_astore_n X (pc := 7) (lv1 := [(2, .ref (za E 9 3)), (0, .ref (za E 17 0)), (1, .int q)]) dX10_account_7 rfl (by decide) rfl ?_
  refine z_iload_n X (pc := 8) 2 dX10_account_8 rfl rfl ?_
  by_cases hs : (q).toInt < 0 ∨ (13 : Int) < (q).toInt
  · have e0 : ¬ q = 0 := by intro h; rw [h] at hs; revert hs; decide
    have e1 : ¬ q = 1 := by intro h; rw [h] at hs; revert hs; decide
    have e2 : ¬ q = 2 := by intro h; rw [h] at hs; revert hs; decide
    have e3 : ¬ q = 3 := by intro h; rw [h] at hs; revert hs; decide
    have e4 : ¬ q = 4 := by intro h; rw [h] at hs; revert hs; decide
    have e5 : ¬ q = 5 := by intro h; rw [h] at hs; revert hs; decide
    have e6 : ¬ q = 6 := by intro h; rw [h] at hs; revert hs; decide
    have e7 : ¬ q = 7 := by intro h; rw [h] at hs; revert hs; decide
    have e8 : ¬ q = 8 := by intro h; rw [h] at hs; revert hs; decide
    have e9 : ¬ q = 9 := by intro h; rw [h] at hs; revert hs; decide
    have e10 : ¬ q = 10 := by intro h; rw [h] at hs; revert hs; decide
    have e11 : ¬ q = 11 := by intro h; rw [h] at hs; revert hs; decide
    have e12 : ¬ q = 12 := by intro h; rw [h] at hs; revert hs; decide
    have e13 : ¬ q = 13 := by intro h; rw [h] at hs; revert hs; decide
    refine z_tableOut X (pc := 9) (tgt := 189) dX10_account_9 hs (by decide) ?_
    refine z_sipush X (pc := 189) (v := (-1012)) dX10_account_189 (by decide) ?_
    exact z_pret X Y dX10_account_192 (by simp [aAccount, nSit, hI.cNe, hI.mNe, hnc, hnm, hk, e0, e1, e2, e3, e4, e5, e6, e7, e8, e9, e10, e11, e12, e13]) rfl
  · obtain ⟨j, hj, hx⟩ := sw_in (x := q) 0 13 (by decide) (by simpa using hs)
    rcases (show j = 0 ∨ j = 1 ∨ j = 2 ∨ j = 3 ∨ j = 4 ∨ j = 5 ∨ j = 6 ∨ j = 7 ∨ j = 8 ∨ j = 9 ∨ j = 10 ∨ j = 11 ∨ j = 12 ∨ j = 13 by omega) with rfl | rfl | rfl | rfl | rfl | rfl | rfl | rfl | rfl | rfl | rfl | rfl | rfl | rfl
    · replace hx : q = 0 := hx
      refine z_top hx ?_
      refine z_tableIn X (pc := 9) (off := 71) (tgt := 80) dX10_account_9 (by decide) (by decide) (by rfl) (by decide) ?_
      refine z_aload_n X (pc := 80) 1 dX10_account_80 rfl rfl ?_
      refine z_get X (pc := 81) 0 zk_17_0 (zc_17_0 E _) rfl inlX10 (by decide) gw_13 rfl rfl dX10_account_81 ?_
      refine z_get X (pc := 84) 0 zk_9_0 (zc_9_0 E _) rfl inlX9 (by decide) gw_185 rfl rfl dX10_account_84 ?_
      refine z_get X (pc := 87) 0 zk_9_1 (zc_9_1 E _) rfl inlX2 (by decide) gw_186 rfl rfl dX10_account_87 ?_
      refine z_top (y := (nI nc)) ((S9.cc (S9.rf hg)).trans hnc) ?_
      exact z_pret X Y dX10_account_90 (by simp [aAccount, nSit, hI.cNe, hI.mNe, hnc, hnm, hk, hx]) rfl
    · replace hx : q = 1 := hx
      refine z_top hx ?_
      refine z_tableIn X (pc := 9) (off := 82) (tgt := 91) dX10_account_9 (by decide) (by decide) (by rfl) (by decide) ?_
      refine z_aload_n X (pc := 91) 1 dX10_account_91 rfl rfl ?_
      refine z_get X (pc := 92) 0 zk_17_0 (zc_17_0 E _) rfl inlX10 (by decide) gw_13 rfl rfl dX10_account_92 ?_
      refine z_get X (pc := 95) 1 zk_9_0 (zc_9_0 E _) rfl inlX9 (by decide) gw_226 rfl rfl dX10_account_95 ?_
      refine z_get X (pc := 98) 0 zk_9_2 (zc_9_2 E _) rfl inlX4 (by decide) gw_227 rfl rfl dX10_account_98 ?_
      refine z_top (y := (nI nm)) ((S9.cm (S9.rf hg)).trans hnm) ?_
      exact z_pret X Y dX10_account_101 (by simp [aAccount, nSit, hI.cNe, hI.mNe, hnc, hnm, hk, hx]) rfl
    · replace hx : q = 2 := hx
      refine z_top hx ?_
      refine z_tableIn X (pc := 9) (off := 93) (tgt := 102) dX10_account_9 (by decide) (by decide) (by rfl) (by decide) ?_
      refine z_aload_n X (pc := 102) 1 dX10_account_102 rfl rfl ?_
      refine z_get X (pc := 103) 0 zk_17_0 (zc_17_0 E _) rfl inlX10 (by decide) gw_13 rfl rfl dX10_account_103 ?_
      refine z_get X (pc := 106) 1 zk_9_0 (zc_9_0 E _) rfl inlX9 (by decide) gw_226 rfl rfl dX10_account_106 ?_
      refine z_callV X (pc := 109) (rest := []) kv_X4_sitting (c_X4_sitting E M g (And.left (S9.rf hg)) nm hnm (by omega)) zk_9_2 (zc_9_2 E _) rfl rfl gw_324 (by decide) rfl rfl (Nat.le_of_ble_eq_true rfl) dX10_account_109 (zk_i ?_)
      exact z_pret X Y dX10_account_112 (by simp [aAccount, nSit, hI.cNe, hI.mNe, hnc, hnm, hk, hx]) rfl
    · replace hx : q = 3 := hx
      refine z_top hx ?_
      refine z_tableIn X (pc := 9) (off := 104) (tgt := 113) dX10_account_9 (by decide) (by decide) (by rfl) (by decide) ?_
      refine z_aload_n X (pc := 113) 1 dX10_account_113 rfl rfl ?_
      refine z_get X (pc := 114) 0 zk_17_0 (zc_17_0 E _) rfl inlX10 (by decide) gw_13 rfl rfl dX10_account_114 ?_
      refine z_get X (pc := 117) 0 zk_9_0 (zc_9_0 E _) rfl inlX9 (by decide) gw_185 rfl rfl dX10_account_117 ?_
      refine z_callV X (pc := 120) (rest := []) kv_X2_fallen (c_X2_fallen E M g (And.left (S9.rf hg)) nc hnc (by omega)) zk_9_1 (zc_9_1 E _) rfl rfl gw_367 (by decide) rfl rfl (Nat.le_of_ble_eq_true rfl) dX10_account_120 (zk_i ?_)
      exact z_pret X Y dX10_account_123 (by simp [aAccount, nSit, hI.cNe, hI.mNe, hnc, hnm, hk, hx]) rfl
    · replace hx : q = 4 := hx
      refine z_top hx ?_
      refine z_tableIn X (pc := 9) (off := 115) (tgt := 124) dX10_account_9 (by decide) (by decide) (by rfl) (by decide) ?_
      refine z_aload_n X (pc := 124) 1 dX10_account_124 rfl rfl ?_
      refine z_get X (pc := 125) 0 zk_17_0 (zc_17_0 E _) rfl inlX10 (by decide) gw_13 rfl rfl dX10_account_125 ?_
      refine z_get X (pc := 128) 1 zk_9_0 (zc_9_0 E _) rfl inlX9 (by decide) gw_226 rfl rfl dX10_account_128 ?_
      refine z_callV X (pc := 131) (rest := []) kv_X4_allCoins (c_X4_allCoins E M g (And.left (S9.rf hg)) nm hnm (by omega)) zk_9_2 (zc_9_2 E _) rfl rfl gw_372 (by decide) rfl rfl (Nat.le_of_ble_eq_true rfl) dX10_account_131 (zk_i ?_)
      exact z_pret X Y dX10_account_134 (by simp [aAccount, nSit, hI.cNe, hI.mNe, hnc, hnm, hk, hx]) rfl
    · replace hx : q = 5 := hx
      refine z_top hx ?_
      refine z_tableIn X (pc := 9) (off := 126) (tgt := 135) dX10_account_9 (by decide) (by decide) (by rfl) (by decide) ?_
      refine z_aload_n X (pc := 135) 0 dX10_account_135 rfl rfl ?_
      refine z_get X (pc := 136) 0 zk_9_3 (zc_9_3 E _) rfl inlX1 (by decide) gw_360 rfl rfl dX10_account_136 ?_
      refine z_top (y := (g 14 0)) (S9.bk (S9.rf hg) (by decide)) ?_
      exact z_pret X Y dX10_account_139 (by simp [aAccount, nSit, hI.cNe, hI.mNe, hnc, hnm, hk, hx]) rfl
    · replace hx : q = 6 := hx
      refine z_top hx ?_
      refine z_tableIn X (pc := 9) (off := 131) (tgt := 140) dX10_account_9 (by decide) (by decide) (by rfl) (by decide) ?_
      refine z_aload_n X (pc := 140) 0 dX10_account_140 rfl rfl ?_
      refine z_get X (pc := 141) 1 zk_9_3 (zc_9_3 E _) rfl inlX1 (by decide) gw_361 rfl rfl dX10_account_141 ?_
      refine z_top (y := (g 14 1)) (S9.bk (S9.rf hg) (by decide)) ?_
      exact z_pret X Y dX10_account_144 (by simp [aAccount, nSit, hI.cNe, hI.mNe, hnc, hnm, hk, hx]) rfl
    · replace hx : q = 7 := hx
      refine z_top hx ?_
      refine z_tableIn X (pc := 9) (off := 136) (tgt := 145) dX10_account_9 (by decide) (by decide) (by rfl) (by decide) ?_
      refine z_aload_n X (pc := 145) 0 dX10_account_145 rfl rfl ?_
      refine z_get X (pc := 146) 2 zk_9_3 (zc_9_3 E _) rfl inlX1 (by decide) gw_362 rfl rfl dX10_account_146 ?_
      refine z_top (y := (g 14 2)) (S9.bk (S9.rf hg) (by decide)) ?_
      exact z_pret X Y dX10_account_149 (by simp [aAccount, nSit, hI.cNe, hI.mNe, hnc, hnm, hk, hx]) rfl
    · replace hx : q = 8 := hx
      refine z_top hx ?_
      refine z_tableIn X (pc := 9) (off := 141) (tgt := 150) dX10_account_9 (by decide) (by decide) (by rfl) (by decide) ?_
      refine z_aload_n X (pc := 150) 0 dX10_account_150 rfl rfl ?_
      refine z_get X (pc := 151) 3 zk_9_3 (zc_9_3 E _) rfl inlX1 (by decide) gw_363 rfl rfl dX10_account_151 ?_
      refine z_top (y := (g 14 3)) (S9.bk (S9.rf hg) (by decide)) ?_
      exact z_pret X Y dX10_account_154 (by simp [aAccount, nSit, hI.cNe, hI.mNe, hnc, hnm, hk, hx]) rfl
    · replace hx : q = 9 := hx
      refine z_top hx ?_
      refine z_tableIn X (pc := 9) (off := 146) (tgt := 155) dX10_account_9 (by decide) (by decide) (by rfl) (by decide) ?_
      refine z_aload_n X (pc := 155) 0 dX10_account_155 rfl rfl ?_
      refine z_get X (pc := 156) 4 zk_9_3 (zc_9_3 E _) rfl inlX1 (by decide) gw_364 rfl rfl dX10_account_156 ?_
      refine z_top (y := (g 14 4)) (S9.bk (S9.rf hg) (by decide)) ?_
      exact z_pret X Y dX10_account_159 (by simp [aAccount, nSit, hI.cNe, hI.mNe, hnc, hnm, hk, hx]) rfl
    · replace hx : q = 10 := hx
      refine z_top hx ?_
      refine z_tableIn X (pc := 9) (off := 151) (tgt := 160) dX10_account_9 (by decide) (by decide) (by rfl) (by decide) ?_
      refine z_aload_n X (pc := 160) 0 dX10_account_160 rfl rfl ?_
      refine z_get X (pc := 161) 5 zk_9_3 (zc_9_3 E _) rfl inlX1 (by decide) gw_242 rfl rfl dX10_account_161 ?_
      refine z_top (y := (g 14 5)) (S9.bk (S9.rf hg) (by decide)) ?_
      exact z_pret X Y dX10_account_164 (by simp [aAccount, nSit, hI.cNe, hI.mNe, hnc, hnm, hk, hx]) rfl
    · replace hx : q = 11 := hx
      refine z_top hx ?_
      refine z_tableIn X (pc := 9) (off := 156) (tgt := 165) dX10_account_9 (by decide) (by decide) (by rfl) (by decide) ?_
      refine z_aload_n X (pc := 165) 0 dX10_account_165 rfl rfl ?_
      refine z_get X (pc := 166) 6 zk_9_3 (zc_9_3 E _) rfl inlX1 (by decide) gw_365 rfl rfl dX10_account_166 ?_
      refine z_top (y := (g 14 6)) (S9.bk (S9.rf hg) (by decide)) ?_
      exact z_pret X Y dX10_account_169 (by simp [aAccount, nSit, hI.cNe, hI.mNe, hnc, hnm, hk, hx]) rfl
    · replace hx : q = 12 := hx
      refine z_top hx ?_
      refine z_tableIn X (pc := 9) (off := 161) (tgt := 170) dX10_account_9 (by decide) (by decide) (by rfl) (by decide) ?_
      refine z_aload_n X (pc := 170) 1 dX10_account_170 rfl rfl ?_
      refine z_get X (pc := 171) 6 zk_17_0 (zc_17_0 E _) rfl inlX10 (by decide) gw_27 rfl rfl dX10_account_171 ?_
      refine z_get X (pc := 174) 0 zk_13_0 (zc_13_0 E _) rfl inlX5 (by decide) gw_366 rfl rfl dX10_account_174 ?_
      refine z_callV X (pc := 177) (rest := []) kv_X8_length (c_X8_length_14 E M t hT) zk_14_0 (zc_14_0 E _) rfl rfl gw_376 (by decide) rfl rfl (Nat.le_of_ble_eq_true rfl) dX10_account_177 (zk_i ?_)
      exact z_pret X Y dX10_account_180 (by simp [aAccount, nSit, hI.cNe, hI.mNe, hnc, hnm, hk, hx]) rfl
    · replace hx : q = 13 := hx
      refine z_top hx ?_
      refine z_tableIn X (pc := 9) (off := 172) (tgt := 181) dX10_account_9 (by decide) (by decide) (by rfl) (by decide) ?_
      refine z_aload_n X (pc := 181) 1 dX10_account_181 rfl rfl ?_
      refine z_get X (pc := 182) 3 zk_17_0 (zc_17_0 E _) rfl inlX10 (by decide) gw_18 rfl rfl dX10_account_182 ?_
      refine z_callV X (pc := 185) (rest := []) kv_X3_count (c_X3_count E M) zk_18_0 (zc_18_0 E _) rfl rfl gw_381 (by decide) rfl rfl (Nat.le_of_ble_eq_true rfl) dX10_account_185 (zk_i ?_)
      exact z_pret X Y dX10_account_188 (by simp [aAccount, nSit, hI.cNe, hI.mNe, hnc, hnm, hk, hx]) rfl
