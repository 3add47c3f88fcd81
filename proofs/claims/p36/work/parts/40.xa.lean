/-! ===== the law's own methods: cell, write, digest ===== -/
theorem cell_k : ∀ i, i < 36 → ∀ L, L < 261 → 1 ≤ L → (nI i &&& 65535) - (nI i &&& 65535) / Int32.ofNat L * Int32.ofNat L = nI (i % L) := by decide +kernel
def rm_L_cell : Room := { frames := 0, cells := 0, slots := 0, locals := 0 }
theorem ks_L_cell : KS yL_cell cL_cell 2 (some .int) 2 := ⟨⟨gw_414, gw_352, gw_415⟩, by decide +kernel⟩
set_option maxRecDepth 100000 in
set_option maxHeartbeats 4000000 in
theorem c_L_cell (E : ZE) (M : Mem) (b L : Nat) (ss : Nat → Int32) (i : Nat) (hi : i < 36) (hL : L ≤ 260) : MtX E yL_cell cL_cell 2 (some .int) rm_L_cell [.ref (b), .int (nI i)] M (fun U => va_X b L ss U U.heap ∧ b < U.heap.size ∧ ¬ zA E b) (RI (fun _ M1 => M1 = M)) 0 0 := by
  refine x_met (own := RL) (lv := [(0, .ref (b)), (1, .int (nI i))]) (by decide) rfl (Nat.le_of_ble_eq_true rfl) rfl (fun gg X hPr Y => ?_)
  have V : va_X b L ss (gs gg) (gs gg).heap ∧ b < (gs gg).heap.size ∧ ¬ zA E b := hPr
  refine x_aload_n X (pc := 0) 0 dL_cell_0 rfl rfl ?_
  refine x_slen X (pc := 1) (L := L) V dL_cell_1 ?_
  refine x_if_ne X (pc := 2) (tgt := 13) dL_cell_2 (by decide) (fun c2 => ?_) (fun c2 => ?_)
  · refine x_aload_n X (pc := 13) 0 dL_cell_13 rfl rfl ?_
    refine x_iload_n X (pc := 14) 1 dL_cell_14 rfl rfl ?_
    refine x_ldc X (pc := 15) gw_416 dL_cell_15 ?_
    refine x_iand X (pc := 17) dL_cell_17 ?_
    refine x_aload_n X (pc := 18) 0 dL_cell_18 rfl rfl ?_
    refine x_slen X (pc := 19) (L := L) V dL_cell_19 ?_
    refine x_irem X (pc := 20) dL_cell_20 (fun z => c2 z) ?_
    have hL0 : 1 ≤ L := Nat.pos_of_ne_zero (fun z => c2 (by rw [z]; rfl))
    refine x_sld X V (j := i % L) (cell_k i hi L (by omega) hL0) (Nat.mod_lt _ hL0) (by omega) dL_cell_21 ?_
    exact x_zret X Y rfl (Nat.le_refl _) (Nat.le_refl _) dL_cell_22 ⟨_, rfl, rfl⟩
  · refine x_sipush X (pc := 5) (v := 577) dL_cell_5 (by decide) ?_
    refine x_iload_n X (pc := 8) 1 dL_cell_8 rfl rfl ?_
    refine x_imul X (pc := 9) dL_cell_9 ?_
    refine x_goto X (pc := 10) (tgt := 22) dL_cell_10 (by decide) ?_
    exact x_zret X Y rfl (Nat.le_refl _) (Nat.le_refl _) dL_cell_22 ⟨_, rfl, rfl⟩
theorem app_txt {k i : Nat} (hk : k < 30) (hi : i < (txt k).length) : (aAppend ((txt k).take i) ((txt k).getD i 0)).2 = (txt k).take (i + 1) := by
  have hl := txt_len k hk
  obtain ⟨r1, r2, -⟩ := txt_rng k hk i hi
  have h1 : inB ((txt k).getD i 0) 32 126 = true := by
    unfold inB
    simp only [Bool.and_eq_true, Bool.not_eq_true', decide_eq_false_iff_not]
    refine ⟨fun q => ?_, fun q => ?_⟩
    · rw [Int32.lt_iff_toInt_lt, show (32 : Int32).toInt = 32 from rfl] at q; omega
    · rw [Int32.lt_iff_toInt_lt, show (126 : Int32).toInt = 126 from rfl] at q; omega
  have h2 : ¬ 60 ≤ ((txt k).take i).length := by rw [List.length_take]; omega
  unfold aAppend
  rw [if_neg (by rw [h1]; decide), if_neg h2]
  show (txt k).take i ++ [(txt k).getD i 0] = _
  rw [List.take_add_one]
  simp [List.getD, List.getElem?_eq_getElem hi]
def rm_L_write : Room := { frames := 4, cells := 0, slots := 0, locals := 85 }
theorem ks_L_write : KS yL_write cL_write 3 (some (.object "ChairLeague")) 2 := ⟨⟨gw_530, gw_352, gw_531⟩, by decide +kernel⟩
set_option maxRecDepth 100000 in
set_option maxHeartbeats 4000000 in
theorem c_L_write (E : ZE) (M : Mem) (S : LSt) (hX : XS M S) (h0 : S.2.2.2.1 = []) (k : Nat) (hk : k < 30) : MtX E yL_write cL_write 3 (some (.object "ChairLeague")) rm_L_write [.ref (za E 17 0), .ref (zsK E k)] M (fun _ => True) (RR (za E 17 0) (fun M1 => XS M1 (sT S (txt k)))) 0 0 := by
  refine x_met (own := RL) (lv := [(0, .ref (za E 17 0)), (1, .ref (zsK E k))]) (by decide) rfl (Nat.le_of_ble_eq_true rfl) rfl (fun gg X hPr Y => ?_)
  refine x_iconst X (pc := 0) (v := 0) dL_write_0 (by decide) ?_
  refine x_istore_n X (pc := 1) (lv1 := [(2, .int 0), (0, .ref (za E 17 0)), (1, .ref (zsK E k))]) dL_write_1 rfl (by decide) rfl ?_
  have hl := txt_len k hk
  refine x_sub (lv' := [(2, .int (nI 0)), (0, .ref (za E 17 0)), (1, .ref (zsK E k))]) [0, 1, 2] rfl ?_
  refine x_loop (txt k).length 2 (fun i s => XS s (sT S ((txt k).take i))) (fun i s => (s, [(2, .int (nI i)), (0, .ref (za E 17 0)), (1, .ref (zsK E k))])) ?_ 0 M (Nat.zero_le _) (by rw [List.take_zero, ← h0]; exact hX)
  intro i M1 hi hJ ih
  show ZX gg E 0 0 [] M1 [(2, .int (nI i)), (0, .ref (za E 17 0)), (1, .ref (zsK E k))] 2 []
  refine x_iload_n X (pc := 2) 0 dL_write_2 rfl rfl ?_
  refine x_aload_n X (pc := 3) 2 dL_write_3 rfl rfl ?_
  refine x_callK X ⟨Nat.zero_le _, Nat.zero_le _⟩ (pc := 4) (i := k) (rest := [.int (nI i)]) (by omega) kv_J0_length_8abf5 (c_J0_length_8abf5 _ _ k hk) rfl gw_532 ⟨⟨rfl, rfl⟩, Nat.le_of_ble_eq_true rfl, Nat.le_of_ble_eq_true rfl⟩ rfl rfl (Nat.le_of_ble_eq_true rfl) dL_write_4 (x_pi ?_)
  refine x_nicmp_ge X (pc := 7) (a := i) (b := (txt k).length) (tgt := 26) dL_write_7 (by decide) (by omega) (by omega) (fun c7 => ?_) (fun c7 => ?_)
  · refine x_aload_n X (pc := 26) 1 dL_write_26 rfl rfl ?_
    have e : (txt k).take i = txt k := List.take_of_length_le (by omega)
    exact x_aret X Y dL_write_27 ⟨rfl, by rw [← e]; exact hJ⟩
  · refine x_aload_n X (pc := 10) 1 dL_write_10 rfl rfl ?_
    refine x_aload_n X (pc := 11) 2 dL_write_11 rfl rfl ?_
    refine x_iload_n X (pc := 12) 0 dL_write_12 rfl rfl ?_
    refine x_callK X ⟨Nat.zero_le _, Nat.zero_le _⟩ (pc := 13) (i := k) (rest := [.ref (za E 17 0)]) (by omega) kv_J0_charAt_5068e (c_J0_charAt_5068e _ _ k i hk (by omega)) rfl gw_544 ⟨⟨rfl, rfl⟩, Nat.le_of_ble_eq_true rfl, Nat.le_of_ble_eq_true rfl⟩ rfl rfl (Nat.le_of_ble_eq_true rfl) dL_write_13 (x_pi ?_)
    refine x_callV X ⟨Nat.zero_le _, Nat.zero_le _⟩ (pc := 16) (rest := []) kv_X10_append (q_append hJ ((txt k).getD i 0)) zk_17_0 (zc_17_0 E _) rfl rfl gw_581 ⟨⟨rfl, rfl⟩, Nat.le_of_ble_eq_true rfl, Nat.le_of_ble_eq_true rfl⟩ rfl rfl (Nat.le_of_ble_eq_true rfl) dL_write_16 (x_ri (fun v2 M2 h2 => ?_))
    have hJ2 : XS M2 (sT S ((txt k).take (i + 1))) := by
      have e := xt_step hJ h2.2.1 h2.2.2
      rw [show (aAppend (sT S ((txt k).take i)).2.2.2.1 ((txt k).getD i 0)).2 = (txt k).take (i + 1) from app_txt hk (by omega)] at e
      exact e
    refine x_pop X (pc := 19) dL_write_19 rfl ?_
    refine x_iinc X (pc := 20) (v := (nI (i + 1))) (lv1 := [(2, .int (nI (i + 1))), (0, .ref (za E 17 0)), (1, .ref (zsK E k))]) 0 dL_write_20 rfl (nI_1 _) (by decide) rfl ?_
    refine x_goto X (pc := 23) (tgt := 2) dL_write_23 (by decide) ?_
    refine x_sub (lv' := [(2, .int (nI (i + 1))), (0, .ref (za E 17 0)), (1, .ref (zsK E k))]) [0, 1, 2] rfl ?_
    exact ih _ (by omega) hJ2
/-- the digest: eleven accounts of twelve, each chair's numbers, each musician's -/
def acc (g : LG) (nc nm q : Nat) : Int32 := match q with | 0 => nI nc | 1 => nI nm | 2 => nI (cntB (sits g) nm) | 3 => nI (cntB (fell g) nc) | 4 => sumI (g 10) nm | 5 => g 14 0 | 6 => g 14 1 | 7 => g 14 2 | 8 => g 14 3 | 9 => g 14 4 | 10 => g 14 5 | _ => g 14 6
theorem acc_is {g : LG} {nc nm n q : Nat} (h : Inv g nc nm n) (hq : q < 12) : ∀ t k, aAccount g t k (nI q) = acc g nc nm q := fun t k => by
  rcases (show q = 0 ∨ q = 1 ∨ q = 2 ∨ q = 3 ∨ q = 4 ∨ q = 5 ∨ q = 6 ∨ q = 7 ∨ q = 8 ∨ q = 9 ∨ q = 10 ∨ q = 11 by omega) with rfl | rfl | rfl | rfl | rfl | rfl | rfl | rfl | rfl | rfl | rfl | rfl
  · exact ac_0 h t k
  · exact ac_1 h t k
  · exact ac_2 h t k
  · exact ac_3 h t k
  · exact ac_4 h t k
  all_goals rfl
def digA (g : LG) (nc nm : Nat) : Nat → Int64
  | 0 => 7
  | q + 1 => 31 * digA g nc nm q + (acc g nc nm q).toInt64
def digL (f : Nat → Int32) (h : Int64) : Nat → Int64
  | 0 => h
  | q + 1 => 31 * digL f h q + (f q).toInt64
def digN (f : Nat → Nat → Int32) (w : Nat) (h : Int64) : Nat → Int64
  | 0 => h
  | c + 1 => digL (f c) (digN f w h c) w
def dig (g : LG) (nc nm : Nat) : Int64 := digN (fun m q => aMusicianN g m (nI q)) 7 (digN (fun c q => aChairN g c (nI q)) 8 (digA g nc nm 12) nc) nm
def rm_L_digest : Room := { frames := 4, cells := 0, slots := 0, locals := 86 }
theorem ks_L_digest : KS yL_digest cL_digest 5 (some .long) 1 := ⟨⟨gw_351, gw_352, gw_353⟩, by decide +kernel⟩
set_option maxRecDepth 100000 in
set_option maxHeartbeats 4000000 in
theorem c_L_digest (E : ZE) (M : Mem) (S : LSt) (hX : XS M S) (nc nm n : Nat) (hI : Inv S.1 nc nm n) : MtX E yL_digest cL_digest 5 (some .long) rm_L_digest [.ref (za E 17 0)] M (fun _ => True) (PL (dig S.1 nc nm) M) 0 0 := by
  have hn := hI.c10; have hn2 := hI.m10
  refine x_met (own := RL) (lv := [(0, .ref (za E 17 0))]) (by decide) rfl (Nat.le_of_ble_eq_true rfl) rfl (fun gg X hPr Y => ?_)
  refine x_ldc2 X (pc := 0) (v := 7) gw_354 dL_digest_0 ?_
  refine x_lstore_n X (pc := 3) (lv1 := [(1, .long (7)), (0, .ref (za E 17 0))]) dL_digest_3 rfl (by decide) rfl ?_
  refine x_iconst X (pc := 4) (v := 0) dL_digest_4 (by decide) ?_
  refine x_istore_n X (pc := 5) (lv1 := [(3, .int 0), (1, .long (7)), (0, .ref (za E 17 0))]) dL_digest_5 rfl (by decide) rfl ?_
  refine x_sub (lv' := [(3, .int (nI 0)), (1, .long (digA S.1 nc nm 0)), (0, .ref (za E 17 0))]) [0, 1, 2] rfl ?_
  refine x_loop (12) 6 (σ := Unit) (fun _ _ => True) (fun i _ => (M, [(3, .int (nI i)), (1, .long (digA S.1 nc nm i)), (0, .ref (za E 17 0))])) ?_ 0 () (Nat.zero_le _) trivial
  intro i _ hi _ ihi
  show ZX gg E 0 0 [] M [(3, .int (nI i)), (1, .long (digA S.1 nc nm i)), (0, .ref (za E 17 0))] 6 []
  refine x_iload_n X (pc := 6) 0 dL_digest_6 rfl rfl ?_
  refine x_bipush X (pc := 7) (v := 12) dL_digest_7 (by decide) ?_
  refine x_nicmp_ge X (pc := 9) (a := i) (b := 12) (tgt := 31) dL_digest_9 (by decide) (by omega) (by omega) (fun c9 => ?_) (fun c9 => ?_)
  · obtain rfl : i = 12 := by omega
    refine x_iconst X (pc := 31) (v := 0) dL_digest_31 (by decide) ?_
    refine x_istore_n X (pc := 32) (lv1 := [(3, .int 0), (1, .long (digA S.1 nc nm 12)), (0, .ref (za E 17 0))]) dL_digest_32 rfl (by decide) rfl ?_
    refine x_sub (lv' := [(3, .int (nI 0)), (1, .long (digN (fun a b => aChairN S.1 a (nI b)) 8 (digA S.1 nc nm 12) 0)), (0, .ref (za E 17 0))]) [0, 1, 2] rfl ?_
    refine x_loop (nc) 33 (σ := Unit) (fun _ _ => True) (fun c _ => (M, [(3, .int (nI c)), (1, .long (digN (fun a b => aChairN S.1 a (nI b)) 8 (digA S.1 nc nm 12) c)), (0, .ref (za E 17 0))])) ?_ 0 () (Nat.zero_le _) trivial
    intro c _ hc _ ihc
    show ZX gg E 0 0 [] M [(3, .int (nI c)), (1, .long (digN (fun a b => aChairN S.1 a (nI b)) 8 (digA S.1 nc nm 12) c)), (0, .ref (za E 17 0))] 33 []
    refine x_iload_n X (pc := 33) 0 dL_digest_33 rfl rfl ?_
    refine x_aload_n X (pc := 34) 2 dL_digest_34 rfl rfl ?_
    refine x_iconst X (pc := 35) (v := 0) dL_digest_35 (by decide) ?_
    refine x_callV X ⟨Nat.zero_le _, Nat.zero_le _⟩ (pc := 36) (rest := [.int (nI c)]) kv_X10_account (q_ac hX hI (ac_0 hI)) zk_17_0 (zc_17_0 E _) rfl rfl gw_356 ⟨⟨rfl, rfl⟩, Nat.le_of_ble_eq_true rfl, Nat.le_of_ble_eq_true rfl⟩ rfl rfl (Nat.le_of_ble_eq_true rfl) dL_digest_36 (x_pi ?_)
    refine x_nicmp_ge X (pc := 39) (a := c) (b := nc) (tgt := 79) dL_digest_39 (by decide) (by omega) (by omega) (fun c39 => ?_) (fun c39 => ?_)
    · obtain rfl : nc = c := by omega
      refine x_iconst X (pc := 79) (v := 0) dL_digest_79 (by decide) ?_
      refine x_istore_n X (pc := 80) (lv1 := [(3, .int 0), (1, .long (digN (fun a b => aChairN S.1 a (nI b)) 8 (digA S.1 nc nm 12) nc)), (0, .ref (za E 17 0))]) dL_digest_80 rfl (by decide) rfl ?_
      refine x_sub (lv' := [(3, .int (nI 0)), (1, .long (digN (fun a b => aMusicianN S.1 a (nI b)) 7 (digN (fun a b => aChairN S.1 a (nI b)) 8 (digA S.1 nc nm 12) nc) 0)), (0, .ref (za E 17 0))]) [0, 1, 2] rfl ?_
      refine x_loop (nm) 81 (σ := Unit) (fun _ _ => True) (fun m _ => (M, [(3, .int (nI m)), (1, .long (digN (fun a b => aMusicianN S.1 a (nI b)) 7 (digN (fun a b => aChairN S.1 a (nI b)) 8 (digA S.1 nc nm 12) nc) m)), (0, .ref (za E 17 0))])) ?_ 0 () (Nat.zero_le _) trivial
      intro m _ hm _ ihm
      show ZX gg E 0 0 [] M [(3, .int (nI m)), (1, .long (digN (fun a b => aMusicianN S.1 a (nI b)) 7 (digN (fun a b => aChairN S.1 a (nI b)) 8 (digA S.1 nc nm 12) nc) m)), (0, .ref (za E 17 0))] 81 []
      refine x_iload_n X (pc := 81) 0 dL_digest_81 rfl rfl ?_
      refine x_aload_n X (pc := 82) 2 dL_digest_82 rfl rfl ?_
      refine x_iconst X (pc := 83) (v := 1) dL_digest_83 (by decide) ?_
      refine x_callV X ⟨Nat.zero_le _, Nat.zero_le _⟩ (pc := 84) (rest := [.int (nI m)]) kv_X10_account (q_ac hX hI (ac_1 hI)) zk_17_0 (zc_17_0 E _) rfl rfl gw_356 ⟨⟨rfl, rfl⟩, Nat.le_of_ble_eq_true rfl, Nat.le_of_ble_eq_true rfl⟩ rfl rfl (Nat.le_of_ble_eq_true rfl) dL_digest_84 (x_pi ?_)
      refine x_nicmp_ge X (pc := 87) (a := m) (b := nm) (tgt := 127) dL_digest_87 (by decide) (by omega) (by omega) (fun c87 => ?_) (fun c87 => ?_)
      · obtain rfl : nm = m := by omega
        refine x_lload_n X (pc := 127) 1 dL_digest_127 rfl rfl ?_
        exact x_lret X Y dL_digest_128 ⟨rfl, rfl⟩
      · refine x_iconst X (pc := 90) (v := 0) dL_digest_90 (by decide) ?_
        refine x_istore X (pc := 91) (lv1 := [(4, .int 0), (3, .int (nI m)), (1, .long (digN (fun a b => aMusicianN S.1 a (nI b)) 7 (digN (fun a b => aChairN S.1 a (nI b)) 8 (digA S.1 nc nm 12) nc) m)), (0, .ref (za E 17 0))]) dL_digest_91 (by decide) rfl ?_
        refine x_sub (lv' := [(4, .int (nI 0)), (1, .long (digL ((fun a b => aMusicianN S.1 a (nI b)) m) (digN (fun a b => aMusicianN S.1 a (nI b)) 7 (digN (fun a b => aChairN S.1 a (nI b)) 8 (digA S.1 nc nm 12) nc) m) 0)), (3, .int (nI m)), (0, .ref (za E 17 0))]) [0, 2, 1, 3] rfl ?_
        refine x_loop (7) 93 (σ := Unit) (fun _ _ => True) (fun q _ => (M, [(4, .int (nI q)), (1, .long (digL ((fun a b => aMusicianN S.1 a (nI b)) m) (digN (fun a b => aMusicianN S.1 a (nI b)) 7 (digN (fun a b => aChairN S.1 a (nI b)) 8 (digA S.1 nc nm 12) nc) m) q)), (3, .int (nI m)), (0, .ref (za E 17 0))])) ?_ 0 () (Nat.zero_le _) trivial
        intro q _ hq _ ihq
        show ZX gg E 0 0 [] M [(4, .int (nI q)), (1, .long (digL ((fun a b => aMusicianN S.1 a (nI b)) m) (digN (fun a b => aMusicianN S.1 a (nI b)) 7 (digN (fun a b => aChairN S.1 a (nI b)) 8 (digA S.1 nc nm 12) nc) m) q)), (3, .int (nI m)), (0, .ref (za E 17 0))] 93 []
        refine x_iload X (pc := 93) 0 dL_digest_93 rfl ?_
        refine x_bipush X (pc := 95) (v := 7) dL_digest_95 (by decide) ?_
        refine x_nicmp_ge X (pc := 97) (a := q) (b := 7) (tgt := 121) dL_digest_97 (by decide) (by omega) (by omega) (fun c97 => ?_) (fun c97 => ?_)
        · obtain rfl : q = 7 := by omega
          refine x_iinc X (pc := 121) (v := (nI (m + 1))) (lv1 := [(3, .int (nI (m + 1))), (4, .int (nI 7)), (1, .long (digL ((fun a b => aMusicianN S.1 a (nI b)) m) (digN (fun a b => aMusicianN S.1 a (nI b)) 7 (digN (fun a b => aChairN S.1 a (nI b)) 8 (digA S.1 nc nm 12) nc) m) 7)), (0, .ref (za E 17 0))]) 2 dL_digest_121 rfl (nI_1 _) (by decide) rfl ?_
          refine x_goto X (pc := 124) (tgt := 81) dL_digest_124 (by decide) ?_
          refine x_sub (lv' := [(3, .int (nI (m + 1))), (1, .long (digN (fun a b => aMusicianN S.1 a (nI b)) 7 (digN (fun a b => aChairN S.1 a (nI b)) 8 (digA S.1 nc nm 12) nc) (m + 1))), (0, .ref (za E 17 0))]) [0, 2, 3] rfl ?_
          exact ihm () (by omega) trivial
        · refine x_ldc2 X (pc := 100) (v := 31) gw_355 dL_digest_100 ?_
          refine x_lload_n X (pc := 103) 1 dL_digest_103 rfl rfl ?_
          refine x_lmul X (pc := 104) dL_digest_104 ?_
          refine x_aload_n X (pc := 105) 3 dL_digest_105 rfl rfl ?_
          refine x_iload_n X (pc := 106) 2 dL_digest_106 rfl rfl ?_
          refine x_iload X (pc := 107) 0 dL_digest_107 rfl ?_
          refine x_callV X ⟨Nat.zero_le _, Nat.zero_le _⟩ (pc := 109) (rest := [.long ((31) * (digL ((fun a b => aMusicianN S.1 a (nI b)) m) (digN (fun a b => aMusicianN S.1 a (nI b)) 7 (digN (fun a b => aChairN S.1 a (nI b)) 8 (digA S.1 nc nm 12) nc) m) q))]) kv_X10_musicianOf (q_mu hX hI (m := m) (by omega) (q := nI q) rfl) zk_17_0 (zc_17_0 E _) rfl rfl gw_404 ⟨⟨rfl, rfl⟩, Nat.le_of_ble_eq_true rfl, Nat.le_of_ble_eq_true rfl⟩ rfl rfl (Nat.le_of_ble_eq_true rfl) dL_digest_109 (x_pi ?_)
          refine x_i2l X (pc := 112) dL_digest_112 ?_
          refine x_ladd X (pc := 113) dL_digest_113 ?_
          refine x_lstore_n X (pc := 114) (lv1 := [(1, .long (((31) * (digL ((fun a b => aMusicianN S.1 a (nI b)) m) (digN (fun a b => aMusicianN S.1 a (nI b)) 7 (digN (fun a b => aChairN S.1 a (nI b)) 8 (digA S.1 nc nm 12) nc) m) q)) + (((aMusicianN S.1 m (nI q))).toInt64))), (4, .int (nI q)), (3, .int (nI m)), (0, .ref (za E 17 0))]) dL_digest_114 rfl (by decide) rfl ?_
          refine x_iinc X (pc := 115) (v := (nI (q + 1))) (lv1 := [(4, .int (nI (q + 1))), (1, .long (((31) * (digL ((fun a b => aMusicianN S.1 a (nI b)) m) (digN (fun a b => aMusicianN S.1 a (nI b)) 7 (digN (fun a b => aChairN S.1 a (nI b)) 8 (digA S.1 nc nm 12) nc) m) q)) + (((aMusicianN S.1 m (nI q))).toInt64))), (3, .int (nI m)), (0, .ref (za E 17 0))]) 1 dL_digest_115 rfl (nI_1 _) (by decide) rfl ?_
          refine x_goto X (pc := 118) (tgt := 93) dL_digest_118 (by decide) ?_
          refine x_sub (lv' := [(4, .int (nI (q + 1))), (1, .long (digL ((fun a b => aMusicianN S.1 a (nI b)) m) (digN (fun a b => aMusicianN S.1 a (nI b)) 7 (digN (fun a b => aChairN S.1 a (nI b)) 8 (digA S.1 nc nm 12) nc) m) (q + 1))), (3, .int (nI m)), (0, .ref (za E 17 0))]) [0, 1, 2, 3] rfl ?_
          exact ihq () (by omega) trivial
    · refine x_iconst X (pc := 42) (v := 0) dL_digest_42 (by decide) ?_
      refine x_istore X (pc := 43) (lv1 := [(4, .int 0), (3, .int (nI c)), (1, .long (digN (fun a b => aChairN S.1 a (nI b)) 8 (digA S.1 nc nm 12) c)), (0, .ref (za E 17 0))]) dL_digest_43 (by decide) rfl ?_
      refine x_sub (lv' := [(4, .int (nI 0)), (1, .long (digL ((fun a b => aChairN S.1 a (nI b)) c) (digN (fun a b => aChairN S.1 a (nI b)) 8 (digA S.1 nc nm 12) c) 0)), (3, .int (nI c)), (0, .ref (za E 17 0))]) [0, 2, 1, 3] rfl ?_
      refine x_loop (8) 45 (σ := Unit) (fun _ _ => True) (fun q _ => (M, [(4, .int (nI q)), (1, .long (digL ((fun a b => aChairN S.1 a (nI b)) c) (digN (fun a b => aChairN S.1 a (nI b)) 8 (digA S.1 nc nm 12) c) q)), (3, .int (nI c)), (0, .ref (za E 17 0))])) ?_ 0 () (Nat.zero_le _) trivial
      intro q _ hq _ ihq
      show ZX gg E 0 0 [] M [(4, .int (nI q)), (1, .long (digL ((fun a b => aChairN S.1 a (nI b)) c) (digN (fun a b => aChairN S.1 a (nI b)) 8 (digA S.1 nc nm 12) c) q)), (3, .int (nI c)), (0, .ref (za E 17 0))] 45 []
      refine x_iload X (pc := 45) 0 dL_digest_45 rfl ?_
      refine x_bipush X (pc := 47) (v := 8) dL_digest_47 (by decide) ?_
      refine x_nicmp_ge X (pc := 49) (a := q) (b := 8) (tgt := 73) dL_digest_49 (by decide) (by omega) (by omega) (fun c49 => ?_) (fun c49 => ?_)
      · obtain rfl : q = 8 := by omega
        refine x_iinc X (pc := 73) (v := (nI (c + 1))) (lv1 := [(3, .int (nI (c + 1))), (4, .int (nI 8)), (1, .long (digL ((fun a b => aChairN S.1 a (nI b)) c) (digN (fun a b => aChairN S.1 a (nI b)) 8 (digA S.1 nc nm 12) c) 8)), (0, .ref (za E 17 0))]) 2 dL_digest_73 rfl (nI_1 _) (by decide) rfl ?_
        refine x_goto X (pc := 76) (tgt := 33) dL_digest_76 (by decide) ?_
        refine x_sub (lv' := [(3, .int (nI (c + 1))), (1, .long (digN (fun a b => aChairN S.1 a (nI b)) 8 (digA S.1 nc nm 12) (c + 1))), (0, .ref (za E 17 0))]) [0, 2, 3] rfl ?_
        exact ihc () (by omega) trivial
      · refine x_ldc2 X (pc := 52) (v := 31) gw_355 dL_digest_52 ?_
        refine x_lload_n X (pc := 55) 1 dL_digest_55 rfl rfl ?_
        refine x_lmul X (pc := 56) dL_digest_56 ?_
        refine x_aload_n X (pc := 57) 3 dL_digest_57 rfl rfl ?_
        refine x_iload_n X (pc := 58) 2 dL_digest_58 rfl rfl ?_
        refine x_iload X (pc := 59) 0 dL_digest_59 rfl ?_
        refine x_callV X ⟨Nat.zero_le _, Nat.zero_le _⟩ (pc := 61) (rest := [.long ((31) * (digL ((fun a b => aChairN S.1 a (nI b)) c) (digN (fun a b => aChairN S.1 a (nI b)) 8 (digA S.1 nc nm 12) c) q))]) kv_X10_chairOf (q_ch hX hI (c := c) (by omega) (q := nI q) rfl) zk_17_0 (zc_17_0 E _) rfl rfl gw_385 ⟨⟨rfl, rfl⟩, Nat.le_of_ble_eq_true rfl, Nat.le_of_ble_eq_true rfl⟩ rfl rfl (Nat.le_of_ble_eq_true rfl) dL_digest_61 (x_pi ?_)
        refine x_i2l X (pc := 64) dL_digest_64 ?_
        refine x_ladd X (pc := 65) dL_digest_65 ?_
        refine x_lstore_n X (pc := 66) (lv1 := [(1, .long (((31) * (digL ((fun a b => aChairN S.1 a (nI b)) c) (digN (fun a b => aChairN S.1 a (nI b)) 8 (digA S.1 nc nm 12) c) q)) + (((aChairN S.1 c (nI q))).toInt64))), (4, .int (nI q)), (3, .int (nI c)), (0, .ref (za E 17 0))]) dL_digest_66 rfl (by decide) rfl ?_
        refine x_iinc X (pc := 67) (v := (nI (q + 1))) (lv1 := [(4, .int (nI (q + 1))), (1, .long (((31) * (digL ((fun a b => aChairN S.1 a (nI b)) c) (digN (fun a b => aChairN S.1 a (nI b)) 8 (digA S.1 nc nm 12) c) q)) + (((aChairN S.1 c (nI q))).toInt64))), (3, .int (nI c)), (0, .ref (za E 17 0))]) 1 dL_digest_67 rfl (nI_1 _) (by decide) rfl ?_
        refine x_goto X (pc := 70) (tgt := 45) dL_digest_70 (by decide) ?_
        refine x_sub (lv' := [(4, .int (nI (q + 1))), (1, .long (digL ((fun a b => aChairN S.1 a (nI b)) c) (digN (fun a b => aChairN S.1 a (nI b)) 8 (digA S.1 nc nm 12) c) (q + 1))), (3, .int (nI c)), (0, .ref (za E 17 0))]) [0, 1, 2, 3] rfl ?_
        exact ihq () (by omega) trivial
  · refine x_ldc2 X (pc := 12) (v := 31) gw_355 dL_digest_12 ?_
    refine x_lload_n X (pc := 15) 1 dL_digest_15 rfl rfl ?_
    refine x_lmul X (pc := 16) dL_digest_16 ?_
    refine x_aload_n X (pc := 17) 2 dL_digest_17 rfl rfl ?_
    refine x_iload_n X (pc := 18) 0 dL_digest_18 rfl rfl ?_
    refine x_callV X ⟨Nat.zero_le _, Nat.zero_le _⟩ (pc := 19) (rest := [.long ((31) * (digA S.1 nc nm i))]) kv_X10_account (q_ac hX hI (acc_is hI (q := i) (by omega))) zk_17_0 (zc_17_0 E _) rfl rfl gw_356 ⟨⟨rfl, rfl⟩, Nat.le_of_ble_eq_true rfl, Nat.le_of_ble_eq_true rfl⟩ rfl rfl (Nat.le_of_ble_eq_true rfl) dL_digest_19 (x_pi ?_)
    refine x_i2l X (pc := 22) dL_digest_22 ?_
    refine x_ladd X (pc := 23) dL_digest_23 ?_
    refine x_lstore_n X (pc := 24) (lv1 := [(1, .long (((31) * (digA S.1 nc nm i)) + (((acc S.1 nc nm i)).toInt64))), (3, .int (nI i)), (0, .ref (za E 17 0))]) dL_digest_24 rfl (by decide) rfl ?_
    refine x_iinc X (pc := 25) (v := (nI (i + 1))) (lv1 := [(3, .int (nI (i + 1))), (1, .long (((31) * (digA S.1 nc nm i)) + (((acc S.1 nc nm i)).toInt64))), (0, .ref (za E 17 0))]) 1 dL_digest_25 rfl (nI_1 _) (by decide) rfl ?_
    refine x_goto X (pc := 28) (tgt := 6) dL_digest_28 (by decide) ?_
    refine x_sub (lv' := [(3, .int (nI (i + 1))), (1, .long (digA S.1 nc nm (i + 1))), (0, .ref (za E 17 0))]) [0, 1, 2] rfl ?_
    exact ihi () (by omega) trivial
