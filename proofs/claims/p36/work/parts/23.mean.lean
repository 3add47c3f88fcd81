section ZF
variable {g : ZG} {E : ZE} {own : String} {cc : ByteArray} {nL : Nat} {rm : Room} {M : Mem} {lv : List (Nat × Value)} {pc : Nat} {st : List Value}
theorem z_dconst0 (X : Cb g E own cc nL rm) (hd : decode cc pc = .ok (.dconst 0, 1)) (k : Z g E M lv (pc + 1) (.double FP.dconst0 :: st)) : Z g E M lv pc st := fun H locs ls hW hS hl => lv_dconst0 X.1 X.2.1 hd (k H locs ls hW hS hl)
theorem z_fconst0 (X : Cb g E own cc nL rm) (hd : decode cc pc = .ok (.fconst 0, 1)) (k : Z g E M lv (pc + 1) (.float FP.fconst0 :: st)) : Z g E M lv pc st := fun H locs ls hW hS hl => lv_fconst0 X.1 X.2.1 hd (k H locs ls hW hS hl)
theorem z_i2d (X : Cb g E own cc nL rm) {x : Int32} (hd : decode cc pc = .ok (.i2d, 1)) (k : Z g E M lv (pc + 1) (.double (FP.i2d x) :: st)) : Z g E M lv pc (.int x :: st) := fun H locs ls hW hS hl => lv_i2d X.1 X.2.1 hd (k H locs ls hW hS hl)
theorem z_i2f (X : Cb g E own cc nL rm) {x : Int32} (hd : decode cc pc = .ok (.i2f, 1)) (k : Z g E M lv (pc + 1) (.float (FP.i2f x) :: st)) : Z g E M lv pc (.int x :: st) := fun H locs ls hW hS hl => lv_i2f X.1 X.2.1 hd (k H locs ls hW hS hl)
theorem z_ddiv (X : Cb g E own cc nL rm) {x y : UInt64} (hd : decode cc pc = .ok (.ddiv, 1)) (hn : vf_n64 (FP.ddiv x y)) (k : Z g E M lv (pc + 1) (.double (FP.ddiv x y) :: st)) : Z g E M lv pc (.double y :: .double x :: st) := fun H locs ls hW hS hl => lv_ddiv X.1 X.2.1 hd hn (k H locs ls hW hS hl)
theorem z_fdiv (X : Cb g E own cc nL rm) {x y : UInt32} (hd : decode cc pc = .ok (.fdiv, 1)) (hn : vf_n32 (FP.fdiv x y)) (k : Z g E M lv (pc + 1) (.float (FP.fdiv x y) :: st)) : Z g E M lv pc (.float y :: .float x :: st) := fun H locs ls hW hS hl => lv_fdiv X.1 X.2.1 hd hn (k H locs ls hW hS hl)
theorem z_dret (X : Cb g E own cc nL rm) {Post : Option Value → Mem → Prop} {v : UInt64} (Y : Rt g E (some .double) Post) (hd : decode cc pc = .ok (.dreturn, 1)) (hp : Post (some (.double v)) M) : Z g E M lv pc [.double v] := by
  intro H locs ls hW hS hl
  show W _ _ _ _ _ _ _ _ _ _ _ _ _ _ (gQ g) _
  rw [Y.2.2]
  exact W.dret X.1 X.2.1 Y.1 (fun t ht _ => ⟨⟨_, M, rfl, hp, by rw [ht]; exact hW⟩, hS.F ht⟩) hS.2.2 hd Y.2.1
theorem z_fret (X : Cb g E own cc nL rm) {Post : Option Value → Mem → Prop} {v : UInt32} (Y : Rt g E (some .float) Post) (hd : decode cc pc = .ok (.freturn, 1)) (hp : Post (some (.float v)) M) : Z g E M lv pc [.float v] := by
  intro H locs ls hW hS hl
  show W _ _ _ _ _ _ _ _ _ _ _ _ _ _ (gQ g) _
  rw [Y.2.2]
  exact W.fret X.1 X.2.1 Y.1 (fun t ht _ => ⟨⟨_, M, rfl, hp, by rw [ht]; exact hW⟩, hS.F ht⟩) hS.2.2 hd Y.2.1
end ZF
def PD (v : UInt64) (M1 : Mem) : Option Value → Mem → Prop := fun r M' => r = some (.double v) ∧ M' = M1
def PF (v : UInt32) (M1 : Mem) : Option Value → Mem → Prop := fun r M' => r = some (.float v) ∧ M' = M1
def fitSum (g : LG) : Nat → Int32
  | 0 => 0
  | c + 1 => if taken g c then fitSum g c + fit g c (who g c) else fitSum g c
theorem fitSum_rng {g : LG} {nc nm n i : Nat} (h : Inv g nc nm n) (hi : i ≤ nc) : ∃ k, k ≤ 13 * i ∧ fitSum g i = nI k := by
  have h20 := h.m10
  induction i with
  | zero => exact ⟨0, by omega, rfl⟩
  | succ i ih =>
    obtain ⟨k, hk, ek⟩ := ih (by omega)
    unfold fitSum
    split
    · next ht =>
      obtain ⟨m, hm, em⟩ : ∃ m, m < nm ∧ g 6 i = nI m := (h.nor6 (by omega)).resolve_left (taken_ne ht)
      have hw : who g i = m := by unfold who; rw [em, nI_clamp (by omega)]
      obtain ⟨f, -, hf, ef⟩ := h.fitk (show i < nc by omega) hm
      rw [hw, ek, ef, nI_add]
      exact ⟨k + f, by omega, rfl⟩
    · exact ⟨k, by omega, ek⟩
def meanV (f : Int32) (s : Nat) : UInt64 := if s = 0 then FP.dconst0 else FP.ddiv (FP.i2d f) (FP.i2d (nI s))
def shareV (f n : Nat) : UInt32 := if n = 0 then FP.fconst0 else FP.fdiv (FP.i2f (nI f)) (FP.i2f (nI n))
theorem mean_num : ∀ f, f < 131 → ∀ s, s < 11 → 1 ≤ s → (FP.ddiv (FP.i2d (nI f)) (FP.i2d (nI s)) &&& 0x7fffffffffffffff ≤ 0x7ff0000000000000) := by decide +kernel
theorem share_num : ∀ f, f < 11 → ∀ s, s < 11 → 1 ≤ s → (FP.fdiv (FP.i2f (nI f)) (FP.i2f (nI s)) &&& 0x7fffffff ≤ 0x7f800000) := by decide +kernel
def rm_X10_meanFit : Room := { frames := 2, cells := 0, slots := 0, locals := 45 }
theorem kv_X10_meanFit : KV yX10_meanFit RX10 cX10_meanFit 4 (some .double) 0 := ⟨⟨gw_727, gw_728, gw_2, gw_729⟩, by decide +kernel⟩
set_option maxRecDepth 100000 in
set_option maxHeartbeats 4000000 in
theorem c_X10_meanFit (E : ZE) (M : Mem) (g : LG) (hg : gX (M 9) = g) (nc nm n : Nat) (hI : Inv g nc nm n)  : Mt E yX10_meanFit cX10_meanFit 4 (some .double) rm_X10_meanFit [.ref (za E 17 0)] M (PD (meanV (fitSum g nc) (cntB (taken g) nc)) M) := by
  have hnc := hI.nc; have hnm := hI.nm; have hn := hI.c10; have hn2 := hI.m10; have hct := cntB_le (taken g) nc
  refine z_met (own := RX10) (lv := [(0, .ref (za E 17 0))]) (by decide) rfl (Nat.le_of_ble_eq_true rfl) rfl (fun gg X Y => ?_)
  refine z_iconst X (pc := 0) (v := 0) dX10_meanFit_0 (by decide) ?_
  refine z_istore_n X (pc := 1) (lv1 := [(1, .int 0), (0, .ref (za E 17 0))]) dX10_meanFit_1 rfl (by decide) rfl ?_
  refine z_iconst X (pc := 2) (v := 0) dX10_meanFit_2 (by decide) ?_
  refine z_istore_n X (pc := 3) (lv1 := [(2, .int 0), (1, .int 0), (0, .ref (za E 17 0))]) dX10_meanFit_3 rfl (by decide) rfl ?_
  refine z_iconst X (pc := 4) (v := 0) dX10_meanFit_4 (by decide) ?_
  refine z_istore_n X (pc := 5) (lv1 := [(3, .int 0), (2, .int 0), (1, .int 0), (0, .ref (za E 17 0))]) dX10_meanFit_5 rfl (by decide) rfl ?_
  refine z_sub (lv' := [(3, .int (nI 0)), (1, .int (fitSum g 0)), (2, .int (nI (cntB (taken g) 0))), (0, .ref (za E 17 0))]) [0, 2, 1, 3] rfl ?_
  refine z_loop (nc) 6 (σ := Unit) (fun i s => True) (fun i s => (M, [(3, .int (nI i)), (1, .int (fitSum g i)), (2, .int (nI (cntB (taken g) i))), (0, .ref (za E 17 0))])) ?_ 0 () (Nat.zero_le _) trivial
  intro i s hi6 hJ6 ih6
  show Z gg E M [(3, .int (nI i)), (1, .int (fitSum g i)), (2, .int (nI (cntB (taken g) i))), (0, .ref (za E 17 0))] 6 []
  refine z_iload_n X (pc := 6) 0 dX10_meanFit_6 rfl rfl ?_
  refine z_aload_n X (pc := 7) 3 dX10_meanFit_7 rfl rfl ?_
  refine z_get X (pc := 8) 0 zk_17_0 (zc_17_0 E _) rfl inlX10 (by decide) gw_13 rfl rfl dX10_meanFit_8 ?_
  refine z_get X (pc := 11) 0 zk_9_0 (zc_9_0 E _) rfl inlX9 (by decide) gw_185 rfl rfl dX10_meanFit_11 ?_
  refine z_get X (pc := 14) 0 zk_9_1 (zc_9_1 E _) rfl inlX2 (by decide) gw_186 rfl rfl dX10_meanFit_14 ?_
  refine z_top (y := (nI nc)) ((S9.cc (S9.rf hg)).trans hnc) ?_
  refine z_nicmp_ge X (pc := 17) (a := i) (b := nc) (tgt := 68) dX10_meanFit_17 (by decide) (by omega) (by omega) (fun c17 => ?_) (fun c17 => ?_)
  · obtain rfl : nc = i := by omega
    obtain ⟨kf, hkf, ekf⟩ := fitSum_rng hI (Nat.le_refl nc)
    refine z_iload_n X (pc := 68) 2 dX10_meanFit_68 rfl rfl ?_
    refine z_nif_ne X (pc := 69) (tgt := 76) dX10_meanFit_69 (by decide) (by omega) (fun c69 => ?_) (fun c69 => ?_)
    · refine z_iload_n X (pc := 76) 1 dX10_meanFit_76 rfl rfl ?_
      refine z_i2d X (pc := 77) dX10_meanFit_77 ?_
      refine z_iload_n X (pc := 78) 2 dX10_meanFit_78 rfl rfl ?_
      refine z_i2d X (pc := 79) dX10_meanFit_79 ?_
      refine z_ddiv X (pc := 80) dX10_meanFit_80 (by rw [ekf]; exact mean_num kf (by omega) _ (by omega) (by omega)) ?_
      exact z_dret X Y dX10_meanFit_81 ⟨by simp [meanV, c69], rfl⟩
    · refine z_dconst0 X (pc := 72) dX10_meanFit_72 ?_
      refine z_goto X (pc := 73) (tgt := 81) dX10_meanFit_73 (by decide) ?_
      exact z_dret X Y dX10_meanFit_81 ⟨by simp [meanV, c69], rfl⟩
  · refine z_aload_n X (pc := 20) 3 dX10_meanFit_20 rfl rfl ?_
    refine z_get X (pc := 21) 0 zk_17_0 (zc_17_0 E _) rfl inlX10 (by decide) gw_13 rfl rfl dX10_meanFit_21 ?_
    refine z_get X (pc := 24) 0 zk_9_0 (zc_9_0 E _) rfl inlX9 (by decide) gw_185 rfl rfl dX10_meanFit_24 ?_
    refine z_iload_n X (pc := 27) 0 dX10_meanFit_27 rfl rfl ?_
    refine z_callV X (pc := 28) (rest := []) kv_X2_isTaken (c_X2_isTaken E M g (And.left (S9.rf hg))  i (show i < 10 by omega)) zk_9_1 (zc_9_1 E _) rfl rfl gw_443 (by decide) rfl rfl (Nat.le_of_ble_eq_true rfl) dX10_meanFit_28 (zk_i ?_)
    refine z_bif_eq X (pc := 31) (tgt := 62) dX10_meanFit_31 (by decide) (fun c31 => ?_) (fun c31 => ?_)
    · refine z_iinc X (pc := 62) (v := (nI (i + 1))) (lv1 := [(3, .int (nI (i + 1))), (1, .int (fitSum g i)), (2, .int (nI (cntB (taken g) i))), (0, .ref (za E 17 0))]) 0 dX10_meanFit_62 rfl (nI_1 _) (by decide) rfl ?_
      refine z_goto X (pc := 65) (tgt := 6) dX10_meanFit_65 (by decide) ?_
      refine z_sub (lv' := [(3, .int (nI (i + 1))), (1, .int (fitSum g i)), (2, .int (nI (cntB (taken g) i))), (0, .ref (za E 17 0))]) [0, 1, 2, 3] rfl ?_
      refine z_eq (lv' := [(3, .int (nI (i + 1))), (1, .int (fitSum g (i + 1))), (2, .int (nI (cntB (taken g) (i + 1)))), (0, .ref (za E 17 0))]) (by simp [fitSum, cntB, c17, c31]) rfl ?_
      exact ih6 () (by omega) trivial
    · refine z_iload_n X (pc := 34) 1 dX10_meanFit_34 rfl rfl ?_
      refine z_aload_n X (pc := 35) 3 dX10_meanFit_35 rfl rfl ?_
      refine z_get X (pc := 36) 0 zk_17_0 (zc_17_0 E _) rfl inlX10 (by decide) gw_13 rfl rfl dX10_meanFit_36 ?_
      refine z_iload_n X (pc := 39) 0 dX10_meanFit_39 rfl rfl ?_
      refine z_aload_n X (pc := 40) 3 dX10_meanFit_40 rfl rfl ?_
      refine z_get X (pc := 41) 0 zk_17_0 (zc_17_0 E _) rfl inlX10 (by decide) gw_13 rfl rfl dX10_meanFit_41 ?_
      refine z_get X (pc := 44) 0 zk_9_0 (zc_9_0 E _) rfl inlX9 (by decide) gw_185 rfl rfl dX10_meanFit_44 ?_
      refine z_get X (pc := 47) 7 zk_9_1 (zc_9_1 E _) rfl inlX2 (by decide) gw_395 rfl rfl dX10_meanFit_47 ?_
      refine z_iload_n X (pc := 50) 0 dX10_meanFit_50 rfl rfl ?_
      refine z_callV X (pc := 51) (rest := [.int (nI i), .ref (za E 9 0), .int (fitSum g i)]) kv_X7_at (c_X7_at E M 9 16 i (by decide) (by decide) (show i < 10 by omega)) zk_9_16 (zc_9_16 E _) rfl rfl gw_348 (by decide) rfl rfl (Nat.le_of_ble_eq_true rfl) dX10_meanFit_51 (zk_i ?_)
      refine z_top (y := (g 6 i)) (S9.row 6 (S9.rf hg) rfl (by decide) (show i < 10 by omega)) ?_
      obtain ⟨k54, hk54, hp54⟩ : ∃ k, k < nm ∧ g 6 i = nI k := (hI.nor6 (by omega)).resolve_left (taken_ne c31)
      refine z_top (y := nI k54) hp54 ?_
      refine z_callV X (pc := 54) (rest := [.int (fitSum g i)]) kv_X9_fitOf (c_X9_fitOf E M g (And.left (S9.rf hg))  i k54 (show i < 10 by omega) (show k54 < 10 by omega)) zk_9_0 (zc_9_0 E _) rfl rfl gw_452 (by decide) rfl rfl (Nat.le_of_ble_eq_true rfl) dX10_meanFit_54 (zk_i ?_)
      refine z_iadd X (pc := 57) dX10_meanFit_57 ?_
      refine z_istore_n X (pc := 58) (lv1 := [(1, .int ((fitSum g i) + (fit g i k54))), (3, .int (nI i)), (2, .int (nI (cntB (taken g) i))), (0, .ref (za E 17 0))]) dX10_meanFit_58 rfl (by decide) rfl ?_
      refine z_iinc X (pc := 59) (v := (nI (cntB (taken g) i + 1))) (lv1 := [(2, .int (nI (cntB (taken g) i + 1))), (1, .int ((fitSum g i) + (fit g i k54))), (3, .int (nI i)), (0, .ref (za E 17 0))]) 2 dX10_meanFit_59 rfl (nI_1 _) (by decide) rfl ?_
      refine z_iinc X (pc := 62) (v := (nI (i + 1))) (lv1 := [(3, .int (nI (i + 1))), (2, .int (nI (cntB (taken g) i + 1))), (1, .int ((fitSum g i) + (fit g i k54))), (0, .ref (za E 17 0))]) 2 dX10_meanFit_62 rfl (nI_1 _) (by decide) rfl ?_
      refine z_goto X (pc := 65) (tgt := 6) dX10_meanFit_65 (by decide) ?_
      refine z_sub (lv' := [(3, .int (nI (i + 1))), (1, .int ((fitSum g i) + (fit g i k54))), (2, .int (nI (cntB (taken g) i + 1))), (0, .ref (za E 17 0))]) [0, 2, 1, 3] rfl ?_
      refine z_eq (lv' := [(3, .int (nI (i + 1))), (1, .int (fitSum g (i + 1))), (2, .int (nI (cntB (taken g) (i + 1)))), (0, .ref (za E 17 0))]) (by simp [fitSum, cntB, c17, c31, who, hp54, nI_clamp (show k54 < 2 ^ 31 by omega)]) rfl ?_
      exact ih6 () (by omega) trivial

def rm_X10_fallenShare : Room := { frames := 3, cells := 0, slots := 0, locals := 64 }
theorem kv_X10_fallenShare : KV yX10_fallenShare RX10 cX10_fallenShare 2 (some .float) 0 := ⟨⟨gw_731, gw_732, gw_2, gw_733⟩, by decide +kernel⟩
set_option maxRecDepth 100000 in
set_option maxHeartbeats 4000000 in
theorem c_X10_fallenShare (E : ZE) (M : Mem) (g : LG) (hg : gX (M 9) = g) (nc nm n : Nat) (hI : Inv g nc nm n)  : Mt E yX10_fallenShare cX10_fallenShare 2 (some .float) rm_X10_fallenShare [.ref (za E 17 0)] M (PF (shareV (cntB (fell g) nc) nc) M) := by
  have hnc := hI.nc; have hnm := hI.nm; have hn := hI.c10; have hn2 := hI.m10; have hct := cntB_le (fell g) nc
  refine z_met (own := RX10) (lv := [(0, .ref (za E 17 0))]) (by decide) rfl (Nat.le_of_ble_eq_true rfl) rfl (fun gg X Y => ?_)
  refine z_aload_n X (pc := 0) 0 dX10_fallenShare_0 rfl rfl ?_
  refine z_get X (pc := 1) 0 zk_17_0 (zc_17_0 E _) rfl inlX10 (by decide) gw_13 rfl rfl dX10_fallenShare_1 ?_
  refine z_get X (pc := 4) 0 zk_9_0 (zc_9_0 E _) rfl inlX9 (by decide) gw_185 rfl rfl dX10_fallenShare_4 ?_
  refine z_get X (pc := 7) 0 zk_9_1 (zc_9_1 E _) rfl inlX2 (by decide) gw_186 rfl rfl dX10_fallenShare_7 ?_
  refine z_top (y := (nI nc)) ((S9.cc (S9.rf hg)).trans hnc) ?_
  refine z_istore_n X (pc := 10) (lv1 := [(1, .int (nI nc)), (0, .ref (za E 17 0))]) dX10_fallenShare_10 rfl (by decide) rfl ?_
  refine z_iload_n X (pc := 11) 0 dX10_fallenShare_11 rfl rfl ?_
  refine z_nif_ne X (pc := 12) (tgt := 19) dX10_fallenShare_12 (by decide) (by omega) (fun c12 => ?_) (fun c12 => ?_)
  · refine z_aload_n X (pc := 19) 1 dX10_fallenShare_19 rfl rfl ?_
    refine z_get X (pc := 20) 0 zk_17_0 (zc_17_0 E _) rfl inlX10 (by decide) gw_13 rfl rfl dX10_fallenShare_20 ?_
    refine z_get X (pc := 23) 0 zk_9_0 (zc_9_0 E _) rfl inlX9 (by decide) gw_185 rfl rfl dX10_fallenShare_23 ?_
    refine z_callV X (pc := 26) (rest := []) kv_X2_fallen (c_X2_fallen E M g (And.left (S9.rf hg)) nc hnc (by omega)) zk_9_1 (zc_9_1 E _) rfl rfl gw_367 (by decide) rfl rfl (Nat.le_of_ble_eq_true rfl) dX10_fallenShare_26 (zk_i ?_)
    refine z_i2f X (pc := 29) dX10_fallenShare_29 ?_
    refine z_iload_n X (pc := 30) 0 dX10_fallenShare_30 rfl rfl ?_
    refine z_i2f X (pc := 31) dX10_fallenShare_31 ?_
    refine z_fdiv X (pc := 32) dX10_fallenShare_32 (share_num _ (by omega) _ (by omega) (by omega)) ?_
    exact z_fret X Y dX10_fallenShare_33 ⟨by simp [shareV, c12], rfl⟩
  · refine z_fconst0 X (pc := 15) dX10_fallenShare_15 ?_
    refine z_goto X (pc := 16) (tgt := 33) dX10_fallenShare_16 (by decide) ?_
    exact z_fret X Y dX10_fallenShare_33 ⟨by simp [shareV, c12], rfl⟩
