def orN (x : Int32) : Int32 := if x < 0 then -1015 else x
theorem oSeat_in {g : LG} {nc nm n c m : Nat} {rs : Rs} (hI : Inv g nc nm n) (hc : c < nc) (hm : m < nm) : oSeat g rs (nI c) (nI m) = oSeatN g rs c m := by
  have h1 := hI.c10
  have h2 := hI.m10
  unfold oSeat
  rw [hI.cNe, hI.mNe, inR_nI hc (by omega), inR_nI hm (by omega), nI_clamp (by omega), nI_clamp (by omega), if_neg (by decide)]
theorem oRise_in {g : LG} {nc nm n m : Nat} {rs : Rs} (hI : Inv g nc nm n) (hm : m < nm) : oRise g rs (nI m) = oRiseN g rs m := by
  have h2 := hI.m10
  unfold oRise
  rw [hI.mNe, inR_nI hm (by omega), nI_clamp (by omega), if_neg (by decide)]
theorem oBid_in {g : LG} {nc nm n m : Nat} {rs : Rs} {v : Int32} (hI : Inv g nc nm n) (hm : m < nm) : oBid g rs (nI m) v = oBidN g rs m v := by
  have h2 := hI.m10
  unfold oBid
  rw [hI.mNe, inR_nI hm (by omega), nI_clamp (by omega), if_neg (by decide)]
theorem oRaise_in {g : LG} {nc nm n c : Nat} {rs : Rs} (hI : Inv g nc nm n) (hc : c < nc) : oRaise g rs (nI c) = oRaiseN g rs c := by
  have h2 := hI.c10
  unfold oRaise
  rw [hI.cNe, inR_nI hc (by omega), nI_clamp (by omega), if_neg (by decide)]
theorem oPromote_in {g : LG} {nc nm n c : Nat} {rs : Rs} (hI : Inv g nc nm n) (hc : c < nc) : oPromote g rs (nI c) = oPromoteN g rs c := by
  have h2 := hI.c10
  unfold oPromote
  rw [hI.cNe, inR_nI hc (by omega), nI_clamp (by omega), if_neg (by decide)]
theorem SA_keep {K : Nat} {M M1 M2 : Mem} {a g : LG} (h : SA K M a M1) (h2 : S9 M1 g M2) (hK : K = 11 ∨ K = 12 := by decide) : SA K M2 a M2 :=
  ⟨fun j k hj hk => by rw [h2.2 K (by omega)]; exact h.1 j k hj hk, fun _ _ => rfl⟩
theorem matS_nor {g : LG} {nc nm : Nat} {a : LG} (hF : Fb g nc nm) (h : DAr g nc nm a) {c : Nat} (hc : c < nc) : nOr (matS g nc nm c) nm := by
  rw [← matS_of hF h hc]
  obtain ⟨A, hA, -⟩ := h
  rcases hA.ef.2 c hc with q | ⟨m, hm, q, -⟩
  · exact Or.inl q
  · exact Or.inr ⟨m, hm, q⟩
theorem sellG_eq {g : LG} {nc nm n b kc : Nat} {v : Int32} (hI : Inv g nc nm n) (hb : buyer g = nI b) (h1 : b < 2 ^ 31) (hc : g 12 b = nI kc) (h2 : kc < 2 ^ 31) : sellG g v = gu (noBids (gu (gu (gu g 10 b (g 10 b + -price g)) 14 0 (g 14 0 + price g)) 2 kc v) nm) 14 6 (g 14 6 + 1) := by
  unfold sellG
  rw [hI.mNe, hb, nI_clamp h1, hc, nI_clamp h2]
theorem playG_6 {g : LG} {c m k : Nat} : playG g c m 6 k = g 6 k := playG_off ⟨by decide, by decide, by decide, fun h => absurd h (by decide)⟩
theorem playG_12 {g : LG} {c m k : Nat} : playG g c m 12 k = g 12 k := playG_off ⟨by decide, by decide, by decide, fun h => absurd h (by decide)⟩
theorem leaveG_6 {g : LG} {m c k : Nat} (hc : c < 2 ^ 31) (h : g 12 m = nI c) : leaveG g m 6 k = if k = c then -1 else g 6 k := by
  unfold leaveG unsit
  rw [gu_ne (by omega), gu_ne (by omega), h, if_neg (nI_ne_m1 hc), nI_clamp hc, gu_r]
  by_cases e : k = c <;> simp [e]
/-- the seats that a concert has not come to yet -/
theorem conC_keep {g : LG} {nc nm n : Nat} {w : Int32} (hI : Inv g nc nm n) {i : Nat} (hi : i ≤ nc) : ∀ c, i ≤ c → c < nc → (conC g w i).1 6 c = g 6 c ∧ ∀ m, m < nm → g 12 m = nI c → (conC g w i).1 12 m = nI c := by
  have h10 := hI.c10
  have h20 := hI.m10
  induction i with
  | zero => exact fun c _ _ => ⟨rfl, fun m _ h => h⟩
  | succ i ih =>
    intro c hc hcn
    have ih := ih (by omega)
    have h1 := ih c (by omega) hcn
    unfold conC
    split
    · next ht =>
      have h2 := ih i (Nat.le_refl i) (by omega)
      rcases hI.sit (c := i) (by omega) with q | ⟨m0, hm0, q1, q2⟩
      · exact absurd ht (by unfold taken; rw [h2.1, q]; decide)
      · have hw : who (conC g w i).1 i = m0 := by unfold who; rw [h2.1, q1, nI_clamp (by omega)]
        have h3 := h2.2 m0 hm0 q2
        show wearG _ i w 6 c = _ ∧ ∀ m, m < nm → g 12 m = nI c → wearG _ i w 12 m = nI c
        rw [hw]
        unfold wearG
        split
        · have hw2 : who (playG (conC g w i).1 i m0) i = m0 := by unfold who; rw [playG_6, h2.1, q1, nI_clamp (by omega)]
          rw [hw2]
          refine ⟨?_, fun m hm he => ?_⟩
          · rw [leaveG_6 (c := i) (by omega) (by rw [gu_ne (by omega), playG_12]; exact h3), if_neg (by omega), gu_ne (by omega), playG_6]
            exact h1.1
          · rw [leaveG_12, if_neg (fun e => ?_), gu_ne (by omega), playG_12]
            · exact h1.2 m hm he
            · rw [e, q2] at he
              have := nI_inj (by omega) (by omega) he
              omega
        · refine ⟨?_, fun m hm he => ?_⟩
          · rw [gu_ne (by omega), playG_6]; exact h1.1
          · rw [gu_ne (by omega), playG_12]; exact h1.2 m hm he
    · exact h1
theorem conC_taken {g : LG} {nc nm n : Nat} {w : Int32} (hI : Inv g nc nm n) {i : Nat} (hi : i < nc) (ht : taken (conC g w i).1 i = true) : ∃ m, m < nm ∧ (conC g w i).1 6 i = nI m ∧ (conC g w i).1 12 m = nI i := by
  have h1 := conC_keep (w := w) hI (Nat.le_of_lt hi) i (Nat.le_refl i) hi
  rcases hI.sit hi with q | ⟨m, hm, q1, q2⟩
  · exact absurd ht (by unfold taken; rw [h1.1, q]; decide)
  · exact ⟨m, hm, by rw [h1.1, q1], h1.2 m hm q2⟩
def rm_X10_isWithin : Room := { frames := 0, cells := 0, slots := 0, locals := 0 }
theorem ks_X10_isWithin : KS yX10_isWithin cX10_isWithin 3 (some .boolean) 3 := ⟨⟨gw_188, gw_2, gw_189⟩, by decide +kernel⟩
set_option maxRecDepth 100000 in
set_option maxHeartbeats 4000000 in
theorem c_X10_isWithin (E : ZE) (M : Mem) (x lo hi : Int32) : Mt E yX10_isWithin cX10_isWithin 3 (some .boolean) rm_X10_isWithin [.int x, .int lo, .int hi] M (PI (zb (inB x lo hi)) M) := by
  refine z_met (own := RX10) (lv := [(0, .int x), (1, .int lo), (2, .int hi)]) (by decide) rfl (Nat.le_of_ble_eq_true rfl) rfl (fun gg X Y => ?_)
  refine z_iload_n X (pc := 0) 0 dX10_isWithin_0 rfl rfl ?_
  refine z_iload_n X (pc := 1) 1 dX10_isWithin_1 rfl rfl ?_
  refine z_icmp_lt X (pc := 2) (tgt := 14) dX10_isWithin_2 (by decide) (fun c2 => ?_) (fun c2 => ?_)
  · refine z_iconst X (pc := 14) (v := 0) dX10_isWithin_14 (by decide) ?_
    exact z_bret X Y dX10_isWithin_15 (by simp [inB, zb, c2]) rfl
  · refine z_iload_n X (pc := 5) 0 dX10_isWithin_5 rfl rfl ?_
    refine z_iload_n X (pc := 6) 2 dX10_isWithin_6 rfl rfl ?_
    refine z_icmp_gt X (pc := 7) (tgt := 14) dX10_isWithin_7 (by decide) (fun c7 => ?_) (fun c7 => ?_)
    · refine z_iconst X (pc := 14) (v := 0) dX10_isWithin_14 (by decide) ?_
      exact z_bret X Y dX10_isWithin_15 (by simp [inB, zb, c2, c7]) rfl
    · refine z_iconst X (pc := 10) (v := 1) dX10_isWithin_10 (by decide) ?_
      refine z_goto X (pc := 11) (tgt := 15) dX10_isWithin_11 (by decide) ?_
      exact z_bret X Y dX10_isWithin_15 (by simp [inB, zb, c2, c7]) rfl

def rm_X10_orNothing : Room := { frames := 0, cells := 0, slots := 0, locals := 0 }
theorem ks_X10_orNothing : KS yX10_orNothing cX10_orNothing 1 (some .int) 1 := ⟨⟨gw_402, gw_2, gw_403⟩, by decide +kernel⟩
set_option maxRecDepth 100000 in
set_option maxHeartbeats 4000000 in
theorem c_X10_orNothing (E : ZE) (M : Mem) (x : Int32) : Mt E yX10_orNothing cX10_orNothing 1 (some .int) rm_X10_orNothing [.int x] M (PI (orN x) M) := by
  refine z_met (own := RX10) (lv := [(0, .int x)]) (by decide) rfl (Nat.le_of_ble_eq_true rfl) rfl (fun gg X Y => ?_)
  refine z_iload_n X (pc := 0) 0 dX10_orNothing_0 rfl rfl ?_
  refine z_if_ge X (pc := 1) (tgt := 10) dX10_orNothing_1 (by decide) (fun c1 => ?_) (fun c1 => ?_)
  · refine z_iload_n X (pc := 10) 0 dX10_orNothing_10 rfl rfl ?_
    exact z_pret X Y dX10_orNothing_11 (by simp [orN, c1, (i32_nlt.mpr c1)]) rfl
  · refine z_sipush X (pc := 4) (v := (-1015)) dX10_orNothing_4 (by decide) ?_
    refine z_goto X (pc := 7) (tgt := 11) dX10_orNothing_7 (by decide) ?_
    exact z_pret X Y dX10_orNothing_11 (by simp [orN, c1, (i32_nle.mp c1)]) rfl

def rm_X10_areThere : Room := { frames := 1, cells := 0, slots := 0, locals := 21 }
theorem kv_X10_areThere : KV yX10_areThere RX10 cX10_areThere 3 (some .boolean) 2 := ⟨⟨gw_429, gw_430, gw_2, gw_431⟩, by decide +kernel⟩
set_option maxRecDepth 100000 in
set_option maxHeartbeats 4000000 in
theorem c_X10_areThere (E : ZE) (M : Mem) (g : LG) (hg : gX (M 9) = g) (nc nm n : Nat) (hI : Inv g nc nm n) (x y : Int32) : Mt E yX10_areThere cX10_areThere 3 (some .boolean) rm_X10_areThere [.ref (za E 17 0), .int x, .int y] M (PI (zb (inR x nc && inR y nm)) M) := by
  have hnc := hI.nc; have hnm := hI.nm; have hn := hI.c10; have hn2 := hI.m10
  refine z_met (own := RX10) (lv := [(0, .ref (za E 17 0)), (1, .int x), (2, .int y)]) (by decide) rfl (Nat.le_of_ble_eq_true rfl) rfl (fun gg X Y => ?_)
  refine z_aload_n X (pc := 0) 0 dX10_areThere_0 rfl rfl ?_
  refine z_get X (pc := 1) 0 zk_17_0 (zc_17_0 E _) rfl inlX10 (by decide) gw_13 rfl rfl dX10_areThere_1 ?_
  refine z_get X (pc := 4) 0 zk_9_0 (zc_9_0 E _) rfl inlX9 (by decide) gw_185 rfl rfl dX10_areThere_4 ?_
  refine z_iload_n X (pc := 7) 1 dX10_areThere_7 rfl rfl ?_
  refine z_callV X (pc := 8) (rest := []) kv_X2_has (c_X2_has E M g (And.left (S9.rf hg)) nc hnc (by omega) x) zk_9_1 (zc_9_1 E _) rfl rfl gw_396 (by decide) rfl rfl (Nat.le_of_ble_eq_true rfl) dX10_areThere_8 (zk_i ?_)
  refine z_bif_eq X (pc := 11) (tgt := 32) dX10_areThere_11 (by decide) (fun c11 => ?_) (fun c11 => ?_)
  · refine z_iconst X (pc := 32) (v := 0) dX10_areThere_32 (by decide) ?_
    exact z_bret X Y dX10_areThere_33 (by simp [zb, c11]) rfl
  · refine z_aload_n X (pc := 14) 0 dX10_areThere_14 rfl rfl ?_
    refine z_get X (pc := 15) 0 zk_17_0 (zc_17_0 E _) rfl inlX10 (by decide) gw_13 rfl rfl dX10_areThere_15 ?_
    refine z_get X (pc := 18) 1 zk_9_0 (zc_9_0 E _) rfl inlX9 (by decide) gw_226 rfl rfl dX10_areThere_18 ?_
    refine z_iload_n X (pc := 21) 2 dX10_areThere_21 rfl rfl ?_
    refine z_callV X (pc := 22) (rest := []) kv_X4_has (c_X4_has E M g (And.left (S9.rf hg)) nm hnm (by omega) y) zk_9_2 (zc_9_2 E _) rfl rfl gw_343 (by decide) rfl rfl (Nat.le_of_ble_eq_true rfl) dX10_areThere_22 (zk_i ?_)
    refine z_bif_eq X (pc := 25) (tgt := 32) dX10_areThere_25 (by decide) (fun c25 => ?_) (fun c25 => ?_)
    · refine z_iconst X (pc := 32) (v := 0) dX10_areThere_32 (by decide) ?_
      exact z_bret X Y dX10_areThere_33 (by simp [zb, c11, c25]) rfl
    · refine z_iconst X (pc := 28) (v := 1) dX10_areThere_28 (by decide) ?_
      refine z_goto X (pc := 29) (tgt := 33) dX10_areThere_29 (by decide) ?_
      exact z_bret X Y dX10_areThere_33 (by simp [zb, c11, c25]) rfl

def rm_X10_refused : Room := { frames := 2, cells := 0, slots := 0, locals := 44 }
theorem kv_X10_refused : KV yX10_refused RX10 cX10_refused 3 (some .int) 2 := ⟨⟨gw_191, gw_192, gw_2, gw_193⟩, by decide +kernel⟩
set_option maxRecDepth 100000 in
set_option maxHeartbeats 4000000 in
theorem c_X10_refused (E : ZE) (M : Mem) (a b : Int32) : Mt E yX10_refused cX10_refused 3 (some .int) rm_X10_refused [.ref (za E 17 0), .int a, .int b] M (RI (fun v M1 => v = -1014 ∧ RSn M1 [(a, b)] ∧ Off 16 M M1)) := by
  refine z_met (own := RX10) (lv := [(0, .ref (za E 17 0)), (1, .int a), (2, .int b)]) (by decide) rfl (Nat.le_of_ble_eq_true rfl) rfl (fun gg X Y => ?_)
  refine z_aload_n X (pc := 0) 0 dX10_refused_0 rfl rfl ?_
  refine z_get X (pc := 1) 8 zk_17_0 (zc_17_0 E _) rfl inlX10 (by decide) gw_35 rfl rfl dX10_refused_1 ?_
  refine z_iload_n X (pc := 4) 1 dX10_refused_4 rfl rfl ?_
  refine z_iload_n X (pc := 5) 2 dX10_refused_5 rfl rfl ?_
  refine z_callV X (pc := 6) (rest := []) kv_X6_begin (c_X6_begin E M a b) zk_16_0 (zc_16_0 E _) rfl rfl gw_194 (by decide) rfl rfl (Nat.le_of_ble_eq_true rfl) dX10_refused_6 (zk_rv (fun M_1 h_2 => ?_))
  refine z_sipush X (pc := 9) (v := (-1014)) dX10_refused_9 (by decide) ?_
  exact z_iret X Y dX10_refused_12 ⟨_, rfl, rfl, h_2⟩

def rm_X10_refusedSeat : Room := { frames := 2, cells := 0, slots := 0, locals := 45 }
theorem kv_X10_refusedSeat : KV yX10_refusedSeat RX10 cX10_refusedSeat 4 (some .int) 3 := ⟨⟨gw_434, gw_435, gw_2, gw_436⟩, by decide +kernel⟩
set_option maxRecDepth 100000 in
set_option maxHeartbeats 4000000 in
theorem c_X10_refusedSeat (E : ZE) (M : Mem) (p a b : Int32) : Mt E yX10_refusedSeat cX10_refusedSeat 4 (some .int) rm_X10_refusedSeat [.ref (za E 17 0), .int p, .int a, .int b] M (RI (fun v M1 => v = -1014 ∧ RSn M1 [(2, p), (a, b)] ∧ Off 16 M M1)) := by
  refine z_met (own := RX10) (lv := [(0, .ref (za E 17 0)), (1, .int p), (2, .int a), (3, .int b)]) (by decide) rfl (Nat.le_of_ble_eq_true rfl) rfl (fun gg X Y => ?_)
  refine z_aload_n X (pc := 0) 0 dX10_refusedSeat_0 rfl rfl ?_
  refine z_get X (pc := 1) 8 zk_17_0 (zc_17_0 E _) rfl inlX10 (by decide) gw_35 rfl rfl dX10_refusedSeat_1 ?_
  refine z_iload_n X (pc := 4) 2 dX10_refusedSeat_4 rfl rfl ?_
  refine z_iload_n X (pc := 5) 3 dX10_refusedSeat_5 rfl rfl ?_
  refine z_callV X (pc := 6) (rest := []) kv_X6_begin (c_X6_begin E M a b) zk_16_0 (zc_16_0 E _) rfl rfl gw_194 (by decide) rfl rfl (Nat.le_of_ble_eq_true rfl) dX10_refusedSeat_6 (zk_rv (fun M_1 h_2 => ?_))
  refine z_aload_n X (pc := 9) 0 dX10_refusedSeat_9 rfl rfl ?_
  refine z_get X (pc := 10) 8 zk_17_0 (zc_17_0 E _) rfl inlX10 (by decide) gw_35 rfl rfl dX10_refusedSeat_10 ?_
  refine z_iconst X (pc := 13) (v := 2) dX10_refusedSeat_13 (by decide) ?_
  refine z_iload_n X (pc := 14) 1 dX10_refusedSeat_14 rfl rfl ?_
  refine z_callV X (pc := 15) (rest := []) kv_X6_putAhead (c_X6_putAhead E M_1 [(a, b)] h_2.1 2 p) zk_16_0 (zc_16_0 E _) rfl rfl gw_437 (by decide) rfl rfl (Nat.le_of_ble_eq_true rfl) dX10_refusedSeat_15 (zk_rv (fun M_3 h_4 => ?_))
  refine z_sipush X (pc := 18) (v := (-1014)) dX10_refusedSeat_18 (by decide) ?_
  exact z_iret X Y dX10_refusedSeat_21 ⟨_, rfl, rfl, h_4.1, h_2.2.tr h_4.2⟩

def rm_X10_refusedOrder : Room := { frames := 3, cells := 0, slots := 0, locals := 66 }
theorem kv_X10_refusedOrder : KV yX10_refusedOrder RX10 cX10_refusedOrder 3 (some .int) 2 := ⟨⟨gw_648, gw_649, gw_2, gw_650⟩, by decide +kernel⟩
set_option maxRecDepth 100000 in
set_option maxHeartbeats 4000000 in
theorem c_X10_refusedOrder (E : ZE) (M : Mem) (rs : Rs) (hR : RSn M rs) (k : Nat) (v : Int32) : Mt E yX10_refusedOrder cX10_refusedOrder 3 (some .int) rm_X10_refusedOrder [.ref (za E 17 0), .int (nI k), .int v] M (RI (fun v1 M1 => v1 = -1014 ∧ RSn M1 (((15, nI k) :: if v = -1014 then rs else []).take 3) ∧ Off 16 M M1)) := by
  refine z_met (own := RX10) (lv := [(0, .ref (za E 17 0)), (1, .int (nI k)), (2, .int v)]) (by decide) rfl (Nat.le_of_ble_eq_true rfl) rfl (fun gg X Y => ?_)
  refine z_iload_n X (pc := 0) 2 dX10_refusedOrder_0 rfl rfl ?_
  refine z_sipush X (pc := 1) (v := (-1014)) dX10_refusedOrder_1 (by decide) ?_
  refine z_icmp_eq X (pc := 4) (tgt := 15) dX10_refusedOrder_4 (by decide) (fun c4 => ?_) (fun c4 => ?_)
  · refine z_aload_n X (pc := 15) 0 dX10_refusedOrder_15 rfl rfl ?_
    refine z_get X (pc := 16) 8 zk_17_0 (zc_17_0 E _) rfl inlX10 (by decide) gw_35 rfl rfl dX10_refusedOrder_16 ?_
    refine z_bipush X (pc := 19) (v := 15) dX10_refusedOrder_19 (by decide) ?_
    refine z_iload_n X (pc := 21) 1 dX10_refusedOrder_21 rfl rfl ?_
    refine z_callV X (pc := 22) (rest := []) kv_X6_putAhead (c_X6_putAhead E M rs hR 15 (nI k)) zk_16_0 (zc_16_0 E _) rfl rfl gw_437 (by decide) rfl rfl (Nat.le_of_ble_eq_true rfl) dX10_refusedOrder_22 (zk_rv (fun M_1 h_2 => ?_))
    refine z_sipush X (pc := 25) (v := (-1014)) dX10_refusedOrder_25 (by decide) ?_
    exact z_iret X Y dX10_refusedOrder_28 ⟨_, rfl, rfl, by rw [if_pos c4]; exact h_2.1, h_2.2⟩
  · refine z_aload_n X (pc := 7) 0 dX10_refusedOrder_7 rfl rfl ?_
    refine z_bipush X (pc := 8) (v := 15) dX10_refusedOrder_8 (by decide) ?_
    refine z_iload_n X (pc := 10) 1 dX10_refusedOrder_10 rfl rfl ?_
    refine z_callV X (pc := 11) (rest := []) kv_X10_refused (c_X10_refused E M 15 (nI k)) zk_17_0 (zc_17_0 E _) rfl rfl gw_190 (by decide) rfl rfl (Nat.le_of_ble_eq_true rfl) dX10_refusedOrder_11 (zk_ri (fun v_5 M_3 h_4 => ?_))
    refine z_top (y := ((-1014))) h_4.1 ?_
    exact z_iret X Y dX10_refusedOrder_14 ⟨_, rfl, rfl, by rw [if_neg c4]; exact h_4.2.1, h_4.2.2⟩

def rm_X10_bringChair : Room := { frames := 3, cells := 0, slots := 0, locals := 66 }
theorem kv_X10_bringChair : KV yX10_bringChair RX10 cX10_bringChair 3 (some .int) 2 := ⟨⟨gw_182, gw_183, gw_2, gw_184⟩, by decide +kernel⟩
set_option maxRecDepth 100000 in
set_option maxHeartbeats 4000000 in
theorem c_X10_bringChair (E : ZE) (M : Mem) (g : LG) (hg : gX (M 9) = g) (nc nm n : Nat) (hI : Inv g nc nm n) (rs : Rs) (hR : RSn M rs) (x y : Int32) : Mt E yX10_bringChair cX10_bringChair 3 (some .int) rm_X10_bringChair [.ref (za E 17 0), .int x, .int y] M (RI (fun v M1 => OX M (oBringC g rs x y) v M1)) := by
  have hnc := hI.nc; have hnm := hI.nm; have hn := hI.c10; have hn2 := hI.m10
  refine z_met (own := RX10) (lv := [(0, .ref (za E 17 0)), (1, .int x), (2, .int y)]) (by decide) rfl (Nat.le_of_ble_eq_true rfl) rfl (fun gg X Y => ?_)
  refine z_iload_n X (pc := 0) 1 dX10_bringChair_0 rfl rfl ?_
  refine z_iconst X (pc := 1) (v := 0) dX10_bringChair_1 (by decide) ?_
  refine z_iconst X (pc := 2) (v := 3) dX10_bringChair_2 (by decide) ?_
  refine z_callS X (pc := 3) (rest := []) ks_X10_isWithin (c_X10_isWithin E M x 0 3) gw_187 (by decide) rfl rfl (Nat.le_of_ble_eq_true rfl) dX10_bringChair_3 (zk_i ?_)
  refine z_bif_eq X (pc := 6) (tgt := 19) dX10_bringChair_6 (by decide) (fun c6 => ?_) (fun c6 => ?_)
  · refine z_sipush X (pc := 19) (v := (-1012)) dX10_bringChair_19 (by decide) ?_
    exact z_iret X Y dX10_bringChair_22 ⟨_, rfl, OX.of (g := g) (rs := rs) (by simp [oBringC, hI.cNe, hI.mNe, gu_r, c6]) (CX.same hR FY.rf (S9.rf hg))⟩
  · refine z_iload_n X (pc := 9) 2 dX10_bringChair_9 rfl rfl ?_
    refine z_iconst X (pc := 10) (v := 1) dX10_bringChair_10 (by decide) ?_
    refine z_bipush X (pc := 11) (v := 9) dX10_bringChair_11 (by decide) ?_
    refine z_callS X (pc := 13) (rest := []) ks_X10_isWithin (c_X10_isWithin E M y 1 9) gw_187 (by decide) rfl rfl (Nat.le_of_ble_eq_true rfl) dX10_bringChair_13 (zk_i ?_)
    refine z_bif_ne X (pc := 16) (tgt := 23) dX10_bringChair_16 (by decide) (fun c16 => ?_) (fun c16 => ?_)
    · refine z_aload_n X (pc := 23) 0 dX10_bringChair_23 rfl rfl ?_
      refine z_get X (pc := 24) 0 zk_17_0 (zc_17_0 E _) rfl inlX10 (by decide) gw_13 rfl rfl dX10_bringChair_24 ?_
      refine z_get X (pc := 27) 0 zk_9_0 (zc_9_0 E _) rfl inlX9 (by decide) gw_185 rfl rfl dX10_bringChair_27 ?_
      refine z_get X (pc := 30) 0 zk_9_1 (zc_9_1 E _) rfl inlX2 (by decide) gw_186 rfl rfl dX10_bringChair_30 ?_
      refine z_top (y := (nI nc)) ((S9.cc (S9.rf hg)).trans hnc) ?_
      refine z_bipush X (pc := 33) (v := 10) dX10_bringChair_33 (by decide) ?_
      refine z_nicmp_lt X (pc := 35) (a := nc) (b := 10) (tgt := 54) dX10_bringChair_35 (by decide) (by omega) (by omega) (fun c35 => ?_) (fun c35 => ?_)
      · refine z_aload_n X (pc := 54) 0 dX10_bringChair_54 rfl rfl ?_
        refine z_get X (pc := 55) 0 zk_17_0 (zc_17_0 E _) rfl inlX10 (by decide) gw_13 rfl rfl dX10_bringChair_55 ?_
        refine z_get X (pc := 58) 0 zk_9_0 (zc_9_0 E _) rfl inlX9 (by decide) gw_185 rfl rfl dX10_bringChair_58 ?_
        refine z_iload_n X (pc := 61) 1 dX10_bringChair_61 rfl rfl ?_
        refine z_iload_n X (pc := 62) 2 dX10_bringChair_62 rfl rfl ?_
        refine z_callV X (pc := 63) (rest := []) kv_X2_bring (c_X2_bring E M g (And.left (S9.rf hg)) nc hnc (by omega) x y) zk_9_1 (zc_9_1 E _) rfl rfl gw_203 (by decide) rfl rfl (Nat.le_of_ble_eq_true rfl) dX10_bringChair_63 (zk_ri (fun v_3 M_1 h_2 => ?_))
        refine z_top (y := (nI nc)) h_2.1 ?_
        exact z_iret X Y dX10_bringChair_66 ⟨_, rfl, OX.of (g := (bringC g nc x y)) (rs := rs) (by simp [oBringC, hI.cNe, hI.mNe, gu_r, c6, c16, c35, (Nat.not_le.mpr c35)]) (CX.same hR FY.rf ((S9.rf hg).trans h_2.2))⟩
      · refine z_aload_n X (pc := 38) 0 dX10_bringChair_38 rfl rfl ?_
        refine z_iconst X (pc := 39) (v := 1) dX10_bringChair_39 (by decide) ?_
        refine z_aload_n X (pc := 40) 0 dX10_bringChair_40 rfl rfl ?_
        refine z_get X (pc := 41) 0 zk_17_0 (zc_17_0 E _) rfl inlX10 (by decide) gw_13 rfl rfl dX10_bringChair_41 ?_
        refine z_get X (pc := 44) 0 zk_9_0 (zc_9_0 E _) rfl inlX9 (by decide) gw_185 rfl rfl dX10_bringChair_44 ?_
        refine z_get X (pc := 47) 0 zk_9_1 (zc_9_1 E _) rfl inlX2 (by decide) gw_186 rfl rfl dX10_bringChair_47 ?_
        refine z_top (y := (nI nc)) ((S9.cc (S9.rf hg)).trans hnc) ?_
        refine z_callV X (pc := 50) (rest := []) kv_X10_refused (c_X10_refused E M 1 (nI nc)) zk_17_0 (zc_17_0 E _) rfl rfl gw_190 (by decide) rfl rfl (Nat.le_of_ble_eq_true rfl) dX10_bringChair_50 (zk_ri (fun v_6 M_4 h_5 => ?_))
        refine z_top (y := ((-1014))) h_5.1 ?_
        exact z_iret X Y dX10_bringChair_53 ⟨_, rfl, OX.of (g := g) (rs := [(1, (nI nc))]) (by simp [oBringC, hI.cNe, hI.mNe, gu_r, c6, c16, c35, (Nat.not_lt.mp c35)]) (CX.refuse FY.rf (S9.rf hg) h_5.2)⟩
    · refine z_sipush X (pc := 19) (v := (-1012)) dX10_bringChair_19 (by decide) ?_
      exact z_iret X Y dX10_bringChair_22 ⟨_, rfl, OX.of (g := g) (rs := rs) (by simp [oBringC, hI.cNe, hI.mNe, gu_r, c6, c16]) (CX.same hR FY.rf (S9.rf hg))⟩

def rm_X10_bringMusician : Room := { frames := 3, cells := 0, slots := 0, locals := 66 }
theorem kv_X10_bringMusician : KV yX10_bringMusician RX10 cX10_bringMusician 4 (some .int) 3 := ⟨⟨gw_223, gw_224, gw_2, gw_225⟩, by decide +kernel⟩
set_option maxRecDepth 100000 in
set_option maxHeartbeats 4000000 in
theorem c_X10_bringMusician (E : ZE) (M : Mem) (g : LG) (hg : gX (M 9) = g) (nc nm n : Nat) (hI : Inv g nc nm n) (rs : Rs) (hR : RSn M rs) (x y z : Int32) : Mt E yX10_bringMusician cX10_bringMusician 4 (some .int) rm_X10_bringMusician [.ref (za E 17 0), .int x, .int y, .int z] M (RI (fun v M1 => OX M (oBringM g rs x y z) v M1)) := by
  have hnc := hI.nc; have hnm := hI.nm; have hn := hI.c10; have hn2 := hI.m10
  refine z_met (own := RX10) (lv := [(0, .ref (za E 17 0)), (1, .int x), (2, .int y), (3, .int z)]) (by decide) rfl (Nat.le_of_ble_eq_true rfl) rfl (fun gg X Y => ?_)
  refine z_iload_n X (pc := 0) 1 dX10_bringMusician_0 rfl rfl ?_
  refine z_iconst X (pc := 1) (v := 0) dX10_bringMusician_1 (by decide) ?_
  refine z_iconst X (pc := 2) (v := 3) dX10_bringMusician_2 (by decide) ?_
  refine z_callS X (pc := 3) (rest := []) ks_X10_isWithin (c_X10_isWithin E M x 0 3) gw_187 (by decide) rfl rfl (Nat.le_of_ble_eq_true rfl) dX10_bringMusician_3 (zk_i ?_)
  refine z_bif_eq X (pc := 6) (tgt := 29) dX10_bringMusician_6 (by decide) (fun c6 => ?_) (fun c6 => ?_)
  · refine z_sipush X (pc := 29) (v := (-1012)) dX10_bringMusician_29 (by decide) ?_
    exact z_iret X Y dX10_bringMusician_32 ⟨_, rfl, OX.of (g := g) (rs := rs) (by simp [oBringM, hI.cNe, hI.mNe, gu_r, c6]) (CX.same hR FY.rf (S9.rf hg))⟩
  · refine z_iload_n X (pc := 9) 2 dX10_bringMusician_9 rfl rfl ?_
    refine z_iconst X (pc := 10) (v := 1) dX10_bringMusician_10 (by decide) ?_
    refine z_bipush X (pc := 11) (v := 9) dX10_bringMusician_11 (by decide) ?_
    refine z_callS X (pc := 13) (rest := []) ks_X10_isWithin (c_X10_isWithin E M y 1 9) gw_187 (by decide) rfl rfl (Nat.le_of_ble_eq_true rfl) dX10_bringMusician_13 (zk_i ?_)
    refine z_bif_eq X (pc := 16) (tgt := 29) dX10_bringMusician_16 (by decide) (fun c16 => ?_) (fun c16 => ?_)
    · refine z_sipush X (pc := 29) (v := (-1012)) dX10_bringMusician_29 (by decide) ?_
      exact z_iret X Y dX10_bringMusician_32 ⟨_, rfl, OX.of (g := g) (rs := rs) (by simp [oBringM, hI.cNe, hI.mNe, gu_r, c6, c16]) (CX.same hR FY.rf (S9.rf hg))⟩
    · refine z_iload_n X (pc := 19) 3 dX10_bringMusician_19 rfl rfl ?_
      refine z_iconst X (pc := 20) (v := 0) dX10_bringMusician_20 (by decide) ?_
      refine z_bipush X (pc := 21) (v := 9) dX10_bringMusician_21 (by decide) ?_
      refine z_callS X (pc := 23) (rest := []) ks_X10_isWithin (c_X10_isWithin E M z 0 9) gw_187 (by decide) rfl rfl (Nat.le_of_ble_eq_true rfl) dX10_bringMusician_23 (zk_i ?_)
      refine z_bif_ne X (pc := 26) (tgt := 33) dX10_bringMusician_26 (by decide) (fun c26 => ?_) (fun c26 => ?_)
      · refine z_aload_n X (pc := 33) 0 dX10_bringMusician_33 rfl rfl ?_
        refine z_get X (pc := 34) 0 zk_17_0 (zc_17_0 E _) rfl inlX10 (by decide) gw_13 rfl rfl dX10_bringMusician_34 ?_
        refine z_get X (pc := 37) 1 zk_9_0 (zc_9_0 E _) rfl inlX9 (by decide) gw_226 rfl rfl dX10_bringMusician_37 ?_
        refine z_get X (pc := 40) 0 zk_9_2 (zc_9_2 E _) rfl inlX4 (by decide) gw_227 rfl rfl dX10_bringMusician_40 ?_
        refine z_top (y := (nI nm)) ((S9.cm (S9.rf hg)).trans hnm) ?_
        refine z_bipush X (pc := 43) (v := 10) dX10_bringMusician_43 (by decide) ?_
        refine z_nicmp_lt X (pc := 45) (a := nm) (b := 10) (tgt := 64) dX10_bringMusician_45 (by decide) (by omega) (by omega) (fun c45 => ?_) (fun c45 => ?_)
        · refine z_aload_n X (pc := 64) 0 dX10_bringMusician_64 rfl rfl ?_
          refine z_get X (pc := 65) 0 zk_17_0 (zc_17_0 E _) rfl inlX10 (by decide) gw_13 rfl rfl dX10_bringMusician_65 ?_
          refine z_get X (pc := 68) 1 zk_9_0 (zc_9_0 E _) rfl inlX9 (by decide) gw_226 rfl rfl dX10_bringMusician_68 ?_
          refine z_iload_n X (pc := 71) 1 dX10_bringMusician_71 rfl rfl ?_
          refine z_iload_n X (pc := 72) 2 dX10_bringMusician_72 rfl rfl ?_
          refine z_iload_n X (pc := 73) 3 dX10_bringMusician_73 rfl rfl ?_
          refine z_callV X (pc := 74) (rest := []) kv_X4_bring (c_X4_bring E M g (And.left (S9.rf hg)) nm hnm (by omega) x y z) zk_9_2 (zc_9_2 E _) rfl rfl gw_228 (by decide) rfl rfl (Nat.le_of_ble_eq_true rfl) dX10_bringMusician_74 (zk_ri (fun v_3 M_1 h_2 => ?_))
          refine z_top (y := (nI nm)) h_2.1 ?_
          exact z_iret X Y dX10_bringMusician_77 ⟨_, rfl, OX.of (g := (bringM g nm x y z)) (rs := rs) (by simp [oBringM, hI.cNe, hI.mNe, gu_r, c6, c16, c26, c45, (Nat.not_le.mpr c45)]) (CX.same hR FY.rf ((S9.rf hg).trans h_2.2))⟩
        · refine z_aload_n X (pc := 48) 0 dX10_bringMusician_48 rfl rfl ?_
          refine z_iconst X (pc := 49) (v := 1) dX10_bringMusician_49 (by decide) ?_
          refine z_aload_n X (pc := 50) 0 dX10_bringMusician_50 rfl rfl ?_
          refine z_get X (pc := 51) 0 zk_17_0 (zc_17_0 E _) rfl inlX10 (by decide) gw_13 rfl rfl dX10_bringMusician_51 ?_
          refine z_get X (pc := 54) 1 zk_9_0 (zc_9_0 E _) rfl inlX9 (by decide) gw_226 rfl rfl dX10_bringMusician_54 ?_
          refine z_get X (pc := 57) 0 zk_9_2 (zc_9_2 E _) rfl inlX4 (by decide) gw_227 rfl rfl dX10_bringMusician_57 ?_
          refine z_top (y := (nI nm)) ((S9.cm (S9.rf hg)).trans hnm) ?_
          refine z_callV X (pc := 60) (rest := []) kv_X10_refused (c_X10_refused E M 1 (nI nm)) zk_17_0 (zc_17_0 E _) rfl rfl gw_190 (by decide) rfl rfl (Nat.le_of_ble_eq_true rfl) dX10_bringMusician_60 (zk_ri (fun v_6 M_4 h_5 => ?_))
          refine z_top (y := ((-1014))) h_5.1 ?_
          exact z_iret X Y dX10_bringMusician_63 ⟨_, rfl, OX.of (g := g) (rs := [(1, (nI nm))]) (by simp [oBringM, hI.cNe, hI.mNe, gu_r, c6, c16, c26, c45, (Nat.not_lt.mp c45)]) (CX.refuse FY.rf (S9.rf hg) h_5.2)⟩
      · refine z_sipush X (pc := 29) (v := (-1012)) dX10_bringMusician_29 (by decide) ?_
        exact z_iret X Y dX10_bringMusician_32 ⟨_, rfl, OX.of (g := g) (rs := rs) (by simp [oBringM, hI.cNe, hI.mNe, gu_r, c6, c16, c26]) (CX.same hR FY.rf (S9.rf hg))⟩

def rm_X10_seatMusician : Room := { frames := 3, cells := 0, slots := 0, locals := 68 }
theorem kv_X10_seatMusician : KV yX10_seatMusician RX10 cX10_seatMusician 4 (some .int) 2 := ⟨⟨gw_425, gw_426, gw_2, gw_427⟩, by decide +kernel⟩
set_option maxRecDepth 100000 in
set_option maxHeartbeats 4000000 in
theorem c_X10_seatMusician (E : ZE) (M : Mem) (g : LG) (hg : gX (M 9) = g) (nc nm n : Nat) (hI : Inv g nc nm n) (rs : Rs) (hR : RSn M rs) (x y : Int32) : Mt E yX10_seatMusician cX10_seatMusician 4 (some .int) rm_X10_seatMusician [.ref (za E 17 0), .int x, .int y] M (RI (fun v M1 => OX M (oSeat g rs x y) v M1)) := by
  have hnc := hI.nc; have hnm := hI.nm; have hn := hI.c10; have hn2 := hI.m10
  refine z_met (own := RX10) (lv := [(0, .ref (za E 17 0)), (1, .int x), (2, .int y)]) (by decide) rfl (Nat.le_of_ble_eq_true rfl) rfl (fun gg X Y => ?_)
  refine z_aload_n X (pc := 0) 0 dX10_seatMusician_0 rfl rfl ?_
  refine z_iload_n X (pc := 1) 1 dX10_seatMusician_1 rfl rfl ?_
  refine z_iload_n X (pc := 2) 2 dX10_seatMusician_2 rfl rfl ?_
  refine z_callV X (pc := 3) (rest := []) kv_X10_areThere (c_X10_areThere E M g (And.left (S9.rf hg)) nc nm n hI x y) zk_17_0 (zc_17_0 E _) rfl rfl gw_428 (by decide) rfl rfl (Nat.le_of_ble_eq_true rfl) dX10_seatMusician_3 (zk_i ?_)
  refine z_bif_ne X (pc := 6) (tgt := 13) dX10_seatMusician_6 (by decide) (fun c6 => ?_) (fun c6 => ?_)
  · simp only [Bool.and_eq_true] at c6
    obtain ⟨c, hc, rfl⟩ := inR_of c6.1 (by omega)
    obtain ⟨m, hm, rfl⟩ := inR_of c6.2 (by omega)
    refine z_aload_n X (pc := 13) 0 dX10_seatMusician_13 rfl rfl ?_
    refine z_get X (pc := 14) 0 zk_17_0 (zc_17_0 E _) rfl inlX10 (by decide) gw_13 rfl rfl dX10_seatMusician_14 ?_
    refine z_get X (pc := 17) 0 zk_9_0 (zc_9_0 E _) rfl inlX9 (by decide) gw_185 rfl rfl dX10_seatMusician_17 ?_
    refine z_astore_n X (pc := 20) (lv1 := [(3, .ref (za E 9 1)), (0, .ref (za E 17 0)), (1, .int (nI c)), (2, .int (nI m))]) dX10_seatMusician_20 rfl (by decide) rfl ?_
    refine z_aload_n X (pc := 21) 0 dX10_seatMusician_21 rfl rfl ?_
    refine z_iload_n X (pc := 22) 2 dX10_seatMusician_22 rfl rfl ?_
    refine z_callV X (pc := 23) (rest := []) kv_X2_isFallen (c_X2_isFallen E M g (And.left (S9.rf hg))  c (show c < 10 by omega)) zk_9_1 (zc_9_1 E _) rfl rfl gw_432 (by decide) rfl rfl (Nat.le_of_ble_eq_true rfl) dX10_seatMusician_23 (zk_i ?_)
    refine z_bif_eq X (pc := 26) (tgt := 40) dX10_seatMusician_26 (by decide) (fun c26 => ?_) (fun c26 => ?_)
    · refine z_aload_n X (pc := 40) 0 dX10_seatMusician_40 rfl rfl ?_
      refine z_iload_n X (pc := 41) 2 dX10_seatMusician_41 rfl rfl ?_
      refine z_callV X (pc := 42) (rest := []) kv_X2_isTaken (c_X2_isTaken E M g (And.left (S9.rf hg))  c (show c < 10 by omega)) zk_9_1 (zc_9_1 E _) rfl rfl gw_443 (by decide) rfl rfl (Nat.le_of_ble_eq_true rfl) dX10_seatMusician_42 (zk_i ?_)
      refine z_bif_eq X (pc := 45) (tgt := 63) dX10_seatMusician_45 (by decide) (fun c45 => ?_) (fun c45 => ?_)
      · refine z_aload_n X (pc := 63) 1 dX10_seatMusician_63 rfl rfl ?_
        refine z_get X (pc := 64) 0 zk_17_0 (zc_17_0 E _) rfl inlX10 (by decide) gw_13 rfl rfl dX10_seatMusician_64 ?_
        refine z_get X (pc := 67) 1 zk_9_0 (zc_9_0 E _) rfl inlX9 (by decide) gw_226 rfl rfl dX10_seatMusician_67 ?_
        refine z_iload_n X (pc := 70) 3 dX10_seatMusician_70 rfl rfl ?_
        refine z_callV X (pc := 71) (rest := []) kv_X4_sits (c_X4_sits E M g (And.left (S9.rf hg))  m (show m < 10 by omega)) zk_9_2 (zc_9_2 E _) rfl rfl gw_347 (by decide) rfl rfl (Nat.le_of_ble_eq_true rfl) dX10_seatMusician_71 (zk_i ?_)
        refine z_bif_eq X (pc := 74) (tgt := 98) dX10_seatMusician_74 (by decide) (fun c74 => ?_) (fun c74 => ?_)
        · refine z_aload_n X (pc := 98) 1 dX10_seatMusician_98 rfl rfl ?_
          refine z_get X (pc := 99) 0 zk_17_0 (zc_17_0 E _) rfl inlX10 (by decide) gw_13 rfl rfl dX10_seatMusician_99 ?_
          refine z_iload_n X (pc := 102) 2 dX10_seatMusician_102 rfl rfl ?_
          refine z_iload_n X (pc := 103) 3 dX10_seatMusician_103 rfl rfl ?_
          refine z_callV X (pc := 104) (rest := []) kv_X9_wants (c_X9_wants E M g (And.left (S9.rf hg))  c m (show c < 10 by omega) (show m < 10 by omega)) zk_9_0 (zc_9_0 E _) rfl rfl gw_447 (by decide) rfl rfl (Nat.le_of_ble_eq_true rfl) dX10_seatMusician_104 (zk_i ?_)
          refine z_bif_ne X (pc := 107) (tgt := 127) dX10_seatMusician_107 (by decide) (fun c107 => ?_) (fun c107 => ?_)
          · refine z_aload_n X (pc := 127) 1 dX10_seatMusician_127 rfl rfl ?_
            refine z_get X (pc := 128) 0 zk_17_0 (zc_17_0 E _) rfl inlX10 (by decide) gw_13 rfl rfl dX10_seatMusician_128 ?_
            refine z_iload_n X (pc := 131) 3 dX10_seatMusician_131 rfl rfl ?_
            refine z_iload_n X (pc := 132) 2 dX10_seatMusician_132 rfl rfl ?_
            refine z_callV X (pc := 133) (rest := []) kv_X9_bears (c_X9_bears E M g (And.left (S9.rf hg))  m c (show m < 10 by omega) (show c < 10 by omega)) zk_9_0 (zc_9_0 E _) rfl rfl gw_453 (by decide) rfl rfl (Nat.le_of_ble_eq_true rfl) dX10_seatMusician_133 (zk_i ?_)
            refine z_bif_ne X (pc := 136) (tgt := 152) dX10_seatMusician_136 (by decide) (fun c136 => ?_) (fun c136 => ?_)
            · refine z_aload_n X (pc := 152) 1 dX10_seatMusician_152 rfl rfl ?_
              refine z_get X (pc := 153) 0 zk_17_0 (zc_17_0 E _) rfl inlX10 (by decide) gw_13 rfl rfl dX10_seatMusician_153 ?_
              refine z_iload_n X (pc := 156) 2 dX10_seatMusician_156 rfl rfl ?_
              refine z_iload_n X (pc := 157) 3 dX10_seatMusician_157 rfl rfl ?_
              refine z_callV X (pc := 158) (rest := []) kv_X9_sit (c_X9_sit E M g (And.left (S9.rf hg)) c m (show c < 10 by omega) (show m < 10 by omega)) zk_9_0 (zc_9_0 E _) rfl rfl gw_320 (by decide) rfl rfl (Nat.le_of_ble_eq_true rfl) dX10_seatMusician_158 (zk_rv (fun M_1 hS_2 => ?_))
              refine z_aload_n X (pc := 161) 1 dX10_seatMusician_161 rfl rfl ?_
              refine z_get X (pc := 162) 0 zk_17_0 (zc_17_0 E _) rfl inlX10 (by decide) gw_13 rfl rfl dX10_seatMusician_162 ?_
              refine z_get X (pc := 165) 1 zk_9_0 (zc_9_0 E _) rfl inlX9 (by decide) gw_226 rfl rfl dX10_seatMusician_165 ?_
              refine z_callV X (pc := 168) (rest := []) kv_X4_sitting (c_X4_sitting E M_1 (sitG g c m) (And.left ((S9.rf hg).trans hS_2)) nm (by rw [sitG_off (by decide)]; exact hnm) (by omega)) zk_9_2 (zc_9_2 E _) rfl rfl gw_324 (by decide) rfl rfl (Nat.le_of_ble_eq_true rfl) dX10_seatMusician_168 (zk_i ?_)
              exact z_iret X Y dX10_seatMusician_171 ⟨_, rfl, OX.of (g := (sitG g c m)) (rs := rs) (by rw [oSeat_in hI hc hm]; simp [oSeatN, hI.cNe, hI.mNe, gu_r, c26, c45, c74, c107, c136]) (CX.same hR FY.rf ((S9.rf hg).trans hS_2))⟩
            · refine z_aload_n X (pc := 139) 1 dX10_seatMusician_139 rfl rfl ?_
              refine z_iload_n X (pc := 140) 3 dX10_seatMusician_140 rfl rfl ?_
              refine z_bipush X (pc := 141) (v := 7) dX10_seatMusician_141 (by decide) ?_
              refine z_aload_n X (pc := 143) 0 dX10_seatMusician_143 rfl rfl ?_
              refine z_iload_n X (pc := 144) 2 dX10_seatMusician_144 rfl rfl ?_
              refine z_callV X (pc := 145) (rest := [.int 7, .int (nI m), .ref (za E 17 0)]) kv_X2_comfort (c_X2_comfort E M g (And.left (S9.rf hg))  c (show c < 10 by omega)) zk_9_1 (zc_9_1 E _) rfl rfl gw_400 (by decide) rfl rfl (Nat.le_of_ble_eq_true rfl) dX10_seatMusician_145 (zk_i ?_)
              refine z_callV X (pc := 148) (rest := []) kv_X10_refusedSeat (c_X10_refusedSeat E M (nI m) 7 (comf g c)) zk_17_0 (zc_17_0 E _) rfl rfl gw_433 (by decide) rfl rfl (Nat.le_of_ble_eq_true rfl) dX10_seatMusician_148 (zk_ri (fun v_5 M_3 h_4 => ?_))
              refine z_top (y := ((-1014))) h_4.1 ?_
              exact z_iret X Y dX10_seatMusician_151 ⟨_, rfl, OX.of (g := g) (rs := [(2, (nI m)), (7, (comf g c))]) (by rw [oSeat_in hI hc hm]; simp [oSeatN, hI.cNe, hI.mNe, gu_r, c26, c45, c74, c107, c136]) (CX.refuse FY.rf (S9.rf hg) h_4.2)⟩
          · refine z_aload_n X (pc := 110) 1 dX10_seatMusician_110 rfl rfl ?_
            refine z_iload_n X (pc := 111) 3 dX10_seatMusician_111 rfl rfl ?_
            refine z_bipush X (pc := 112) (v := 6) dX10_seatMusician_112 (by decide) ?_
            refine z_aload_n X (pc := 114) 1 dX10_seatMusician_114 rfl rfl ?_
            refine z_get X (pc := 115) 0 zk_17_0 (zc_17_0 E _) rfl inlX10 (by decide) gw_13 rfl rfl dX10_seatMusician_115 ?_
            refine z_iload_n X (pc := 118) 2 dX10_seatMusician_118 rfl rfl ?_
            refine z_iload_n X (pc := 119) 3 dX10_seatMusician_119 rfl rfl ?_
            refine z_callV X (pc := 120) (rest := [.int 6, .int (nI m), .ref (za E 17 0)]) kv_X9_fitOf (c_X9_fitOf E M g (And.left (S9.rf hg))  c m (show c < 10 by omega) (show m < 10 by omega)) zk_9_0 (zc_9_0 E _) rfl rfl gw_452 (by decide) rfl rfl (Nat.le_of_ble_eq_true rfl) dX10_seatMusician_120 (zk_i ?_)
            refine z_callV X (pc := 123) (rest := []) kv_X10_refusedSeat (c_X10_refusedSeat E M (nI m) 6 (fit g c m)) zk_17_0 (zc_17_0 E _) rfl rfl gw_433 (by decide) rfl rfl (Nat.le_of_ble_eq_true rfl) dX10_seatMusician_123 (zk_ri (fun v_8 M_6 h_7 => ?_))
            refine z_top (y := ((-1014))) h_7.1 ?_
            exact z_iret X Y dX10_seatMusician_126 ⟨_, rfl, OX.of (g := g) (rs := [(2, (nI m)), (6, (fit g c m))]) (by rw [oSeat_in hI hc hm]; simp [oSeatN, hI.cNe, hI.mNe, gu_r, c26, c45, c74, c107]) (CX.refuse FY.rf (S9.rf hg) h_7.2)⟩
        · refine z_aload_n X (pc := 77) 1 dX10_seatMusician_77 rfl rfl ?_
          refine z_iload_n X (pc := 78) 3 dX10_seatMusician_78 rfl rfl ?_
          refine z_iconst X (pc := 79) (v := 5) dX10_seatMusician_79 (by decide) ?_
          refine z_aload_n X (pc := 80) 1 dX10_seatMusician_80 rfl rfl ?_
          refine z_get X (pc := 81) 0 zk_17_0 (zc_17_0 E _) rfl inlX10 (by decide) gw_13 rfl rfl dX10_seatMusician_81 ?_
          refine z_get X (pc := 84) 1 zk_9_0 (zc_9_0 E _) rfl inlX9 (by decide) gw_226 rfl rfl dX10_seatMusician_84 ?_
          refine z_get X (pc := 87) 6 zk_9_2 (zc_9_2 E _) rfl inlX4 (by decide) gw_411 rfl rfl dX10_seatMusician_87 ?_
          refine z_iload_n X (pc := 90) 3 dX10_seatMusician_90 rfl rfl ?_
          refine z_callV X (pc := 91) (rest := [.int 5, .int (nI m), .ref (za E 17 0)]) kv_X7_at (c_X7_at E M 9 28 m (by decide) (by decide) (show m < 10 by omega)) zk_9_28 (zc_9_28 E _) rfl rfl gw_348 (by decide) rfl rfl (Nat.le_of_ble_eq_true rfl) dX10_seatMusician_91 (zk_i ?_)
          refine z_top (y := (g 12 m)) (S9.row 12 (S9.rf hg) rfl (by decide) (show m < 10 by omega)) ?_
          refine z_callV X (pc := 94) (rest := []) kv_X10_refusedSeat (c_X10_refusedSeat E M (nI m) 5 (g 12 m)) zk_17_0 (zc_17_0 E _) rfl rfl gw_433 (by decide) rfl rfl (Nat.le_of_ble_eq_true rfl) dX10_seatMusician_94 (zk_ri (fun v_11 M_9 h_10 => ?_))
          refine z_top (y := ((-1014))) h_10.1 ?_
          exact z_iret X Y dX10_seatMusician_97 ⟨_, rfl, OX.of (g := g) (rs := [(2, (nI m)), (5, (g 12 m))]) (by rw [oSeat_in hI hc hm]; simp [oSeatN, hI.cNe, hI.mNe, gu_r, c26, c45, c74]) (CX.refuse FY.rf (S9.rf hg) h_10.2)⟩
      · refine z_aload_n X (pc := 48) 1 dX10_seatMusician_48 rfl rfl ?_
        refine z_iload_n X (pc := 49) 3 dX10_seatMusician_49 rfl rfl ?_
        refine z_iconst X (pc := 50) (v := 4) dX10_seatMusician_50 (by decide) ?_
        refine z_aload_n X (pc := 51) 0 dX10_seatMusician_51 rfl rfl ?_
        refine z_get X (pc := 52) 7 zk_9_1 (zc_9_1 E _) rfl inlX2 (by decide) gw_395 rfl rfl dX10_seatMusician_52 ?_
        refine z_iload_n X (pc := 55) 2 dX10_seatMusician_55 rfl rfl ?_
        refine z_callV X (pc := 56) (rest := [.int 4, .int (nI m), .ref (za E 17 0)]) kv_X7_at (c_X7_at E M 9 16 c (by decide) (by decide) (show c < 10 by omega)) zk_9_16 (zc_9_16 E _) rfl rfl gw_348 (by decide) rfl rfl (Nat.le_of_ble_eq_true rfl) dX10_seatMusician_56 (zk_i ?_)
        refine z_top (y := (g 6 c)) (S9.row 6 (S9.rf hg) rfl (by decide) (show c < 10 by omega)) ?_
        refine z_callV X (pc := 59) (rest := []) kv_X10_refusedSeat (c_X10_refusedSeat E M (nI m) 4 (g 6 c)) zk_17_0 (zc_17_0 E _) rfl rfl gw_433 (by decide) rfl rfl (Nat.le_of_ble_eq_true rfl) dX10_seatMusician_59 (zk_ri (fun v_14 M_12 h_13 => ?_))
        refine z_top (y := ((-1014))) h_13.1 ?_
        exact z_iret X Y dX10_seatMusician_62 ⟨_, rfl, OX.of (g := g) (rs := [(2, (nI m)), (4, (g 6 c))]) (by rw [oSeat_in hI hc hm]; simp [oSeatN, hI.cNe, hI.mNe, gu_r, c26, c45]) (CX.refuse FY.rf (S9.rf hg) h_13.2)⟩
    · refine z_aload_n X (pc := 29) 1 dX10_seatMusician_29 rfl rfl ?_
      refine z_iload_n X (pc := 30) 3 dX10_seatMusician_30 rfl rfl ?_
      refine z_iconst X (pc := 31) (v := 3) dX10_seatMusician_31 (by decide) ?_
      refine z_aload_n X (pc := 32) 0 dX10_seatMusician_32 rfl rfl ?_
      refine z_callV X (pc := 33) (rest := [.int 3, .int (nI m), .ref (za E 17 0)]) kv_X2_fallen (c_X2_fallen E M g (And.left (S9.rf hg)) nc hnc (by omega)) zk_9_1 (zc_9_1 E _) rfl rfl gw_367 (by decide) rfl rfl (Nat.le_of_ble_eq_true rfl) dX10_seatMusician_33 (zk_i ?_)
      refine z_callV X (pc := 36) (rest := []) kv_X10_refusedSeat (c_X10_refusedSeat E M (nI m) 3 (nI (cntB (fell g) nc))) zk_17_0 (zc_17_0 E _) rfl rfl gw_433 (by decide) rfl rfl (Nat.le_of_ble_eq_true rfl) dX10_seatMusician_36 (zk_ri (fun v_17 M_15 h_16 => ?_))
      refine z_top (y := ((-1014))) h_16.1 ?_
      exact z_iret X Y dX10_seatMusician_39 ⟨_, rfl, OX.of (g := g) (rs := [(2, (nI m)), (3, (nI (cntB (fell g) nc)))]) (by rw [oSeat_in hI hc hm]; simp [oSeatN, hI.cNe, hI.mNe, gu_r, c26]) (CX.refuse FY.rf (S9.rf hg) h_16.2)⟩
  · refine z_sipush X (pc := 9) (v := (-1011)) dX10_seatMusician_9 (by decide) ?_
    exact z_iret X Y dX10_seatMusician_12 ⟨_, rfl, OX.of (g := g) (rs := rs) (by simp [oSeat, hI.cNe, hI.mNe, gu_r, c6]) (CX.same hR FY.rf (S9.rf hg))⟩

def rm_X10_letRise : Room := { frames := 3, cells := 0, slots := 0, locals := 66 }
theorem kv_X10_letRise : KV yX10_letRise RX10 cX10_letRise 3 (some .int) 1 := ⟨⟨gw_459, gw_460, gw_2, gw_461⟩, by decide +kernel⟩
set_option maxRecDepth 100000 in
set_option maxHeartbeats 4000000 in
theorem c_X10_letRise (E : ZE) (M : Mem) (g : LG) (hg : gX (M 9) = g) (nc nm n : Nat) (hI : Inv g nc nm n) (rs : Rs) (hR : RSn M rs) (y : Int32) : Mt E yX10_letRise cX10_letRise 3 (some .int) rm_X10_letRise [.ref (za E 17 0), .int y] M (RI (fun v M1 => OX M (oRise g rs y) v M1)) := by
  have hnc := hI.nc; have hnm := hI.nm; have hn := hI.c10; have hn2 := hI.m10
  refine z_met (own := RX10) (lv := [(0, .ref (za E 17 0)), (1, .int y)]) (by decide) rfl (Nat.le_of_ble_eq_true rfl) rfl (fun gg X Y => ?_)
  refine z_aload_n X (pc := 0) 0 dX10_letRise_0 rfl rfl ?_
  refine z_get X (pc := 1) 0 zk_17_0 (zc_17_0 E _) rfl inlX10 (by decide) gw_13 rfl rfl dX10_letRise_1 ?_
  refine z_get X (pc := 4) 1 zk_9_0 (zc_9_0 E _) rfl inlX9 (by decide) gw_226 rfl rfl dX10_letRise_4 ?_
  refine z_iload_n X (pc := 7) 1 dX10_letRise_7 rfl rfl ?_
  refine z_callV X (pc := 8) (rest := []) kv_X4_has (c_X4_has E M g (And.left (S9.rf hg)) nm hnm (by omega) y) zk_9_2 (zc_9_2 E _) rfl rfl gw_343 (by decide) rfl rfl (Nat.le_of_ble_eq_true rfl) dX10_letRise_8 (zk_i ?_)
  refine z_bif_ne X (pc := 11) (tgt := 18) dX10_letRise_11 (by decide) (fun c11 => ?_) (fun c11 => ?_)
  · obtain ⟨m, hm, rfl⟩ := inR_of c11 (by omega)
    refine z_aload_n X (pc := 18) 0 dX10_letRise_18 rfl rfl ?_
    refine z_get X (pc := 19) 0 zk_17_0 (zc_17_0 E _) rfl inlX10 (by decide) gw_13 rfl rfl dX10_letRise_19 ?_
    refine z_get X (pc := 22) 1 zk_9_0 (zc_9_0 E _) rfl inlX9 (by decide) gw_226 rfl rfl dX10_letRise_22 ?_
    refine z_iload_n X (pc := 25) 1 dX10_letRise_25 rfl rfl ?_
    refine z_callV X (pc := 26) (rest := []) kv_X4_sits (c_X4_sits E M g (And.left (S9.rf hg))  m (show m < 10 by omega)) zk_9_2 (zc_9_2 E _) rfl rfl gw_347 (by decide) rfl rfl (Nat.le_of_ble_eq_true rfl) dX10_letRise_26 (zk_i ?_)
    refine z_bif_ne X (pc := 29) (tgt := 49) dX10_letRise_29 (by decide) (fun c29 => ?_) (fun c29 => ?_)
    · refine z_aload_n X (pc := 49) 0 dX10_letRise_49 rfl rfl ?_
      refine z_get X (pc := 50) 0 zk_17_0 (zc_17_0 E _) rfl inlX10 (by decide) gw_13 rfl rfl dX10_letRise_50 ?_
      refine z_get X (pc := 53) 1 zk_9_0 (zc_9_0 E _) rfl inlX9 (by decide) gw_226 rfl rfl dX10_letRise_53 ?_
      refine z_get X (pc := 56) 6 zk_9_2 (zc_9_2 E _) rfl inlX4 (by decide) gw_411 rfl rfl dX10_letRise_56 ?_
      refine z_iload_n X (pc := 59) 1 dX10_letRise_59 rfl rfl ?_
      refine z_callV X (pc := 60) (rest := []) kv_X7_at (c_X7_at E M 9 28 m (by decide) (by decide) (show m < 10 by omega)) zk_9_28 (zc_9_28 E _) rfl rfl gw_348 (by decide) rfl rfl (Nat.le_of_ble_eq_true rfl) dX10_letRise_60 (zk_i ?_)
      refine z_top (y := (g 12 m)) (S9.row 12 (S9.rf hg) rfl (by decide) (show m < 10 by omega)) ?_
      refine z_istore_n X (pc := 63) (lv1 := [(2, .int (g 12 m)), (0, .ref (za E 17 0)), (1, .int (nI m))]) dX10_letRise_63 rfl (by decide) rfl ?_
      refine z_aload_n X (pc := 64) 1 dX10_letRise_64 rfl rfl ?_
      refine z_get X (pc := 65) 0 zk_17_0 (zc_17_0 E _) rfl inlX10 (by decide) gw_13 rfl rfl dX10_letRise_65 ?_
      refine z_iload_n X (pc := 68) 2 dX10_letRise_68 rfl rfl ?_
      refine z_callV X (pc := 69) (rest := []) kv_X9_leave (c_X9_leave E M g (And.left (S9.rf hg)) m (show m < 10 by omega) ((hI.nor12 hm).le (by omega))) zk_9_0 (zc_9_0 E _) rfl rfl gw_243 (by decide) rfl rfl (Nat.le_of_ble_eq_true rfl) dX10_letRise_69 (zk_rv (fun M_1 hS_2 => ?_))
      refine z_iload_n X (pc := 72) 0 dX10_letRise_72 rfl rfl ?_
      exact z_iret X Y dX10_letRise_73 ⟨_, rfl, OX.of (g := (leaveG g m)) (rs := rs) (by rw [oRise_in hI hm]; simp [oRiseN, nSit, hI.cNe, hI.mNe, gu_r, c29]) (CX.same hR FY.rf ((S9.rf hg).trans hS_2))⟩
    · refine z_aload_n X (pc := 32) 0 dX10_letRise_32 rfl rfl ?_
      refine z_bipush X (pc := 33) (v := 8) dX10_letRise_33 (by decide) ?_
      refine z_aload_n X (pc := 35) 0 dX10_letRise_35 rfl rfl ?_
      refine z_get X (pc := 36) 0 zk_17_0 (zc_17_0 E _) rfl inlX10 (by decide) gw_13 rfl rfl dX10_letRise_36 ?_
      refine z_get X (pc := 39) 1 zk_9_0 (zc_9_0 E _) rfl inlX9 (by decide) gw_226 rfl rfl dX10_letRise_39 ?_
      refine z_callV X (pc := 42) (rest := [.int 8, .ref (za E 17 0)]) kv_X4_sitting (c_X4_sitting E M g (And.left (S9.rf hg)) nm hnm (by omega)) zk_9_2 (zc_9_2 E _) rfl rfl gw_324 (by decide) rfl rfl (Nat.le_of_ble_eq_true rfl) dX10_letRise_42 (zk_i ?_)
      refine z_callV X (pc := 45) (rest := []) kv_X10_refused (c_X10_refused E M 8 (nI (cntB (sits g) nm))) zk_17_0 (zc_17_0 E _) rfl rfl gw_190 (by decide) rfl rfl (Nat.le_of_ble_eq_true rfl) dX10_letRise_45 (zk_ri (fun v_5 M_3 h_4 => ?_))
      refine z_top (y := ((-1014))) h_4.1 ?_
      exact z_iret X Y dX10_letRise_48 ⟨_, rfl, OX.of (g := g) (rs := [(8, (nI (cntB (sits g) nm)))]) (by rw [oRise_in hI hm]; simp [oRiseN, nSit, hI.cNe, hI.mNe, gu_r, c29]) (CX.refuse FY.rf (S9.rf hg) h_4.2)⟩
  · refine z_sipush X (pc := 14) (v := (-1011)) dX10_letRise_14 (by decide) ?_
    exact z_iret X Y dX10_letRise_17 ⟨_, rfl, OX.of (g := g) (rs := rs) (by simp [oRise, hI.cNe, hI.mNe, gu_r, c11]) (CX.same hR FY.rf (S9.rf hg))⟩

def rm_X10_takeBid : Room := { frames := 3, cells := 0, slots := 0, locals := 66 }
theorem kv_X10_takeBid : KV yX10_takeBid RX10 cX10_takeBid 4 (some .int) 2 := ⟨⟨gw_338, gw_339, gw_2, gw_340⟩, by decide +kernel⟩
set_option maxRecDepth 100000 in
set_option maxHeartbeats 4000000 in
theorem c_X10_takeBid (E : ZE) (M : Mem) (g : LG) (hg : gX (M 9) = g) (nc nm n : Nat) (hI : Inv g nc nm n) (rs : Rs) (hR : RSn M rs) (y v : Int32) : Mt E yX10_takeBid cX10_takeBid 4 (some .int) rm_X10_takeBid [.ref (za E 17 0), .int y, .int v] M (RI (fun v1 M1 => OX M (oBid g rs y v) v1 M1)) := by
  have hnc := hI.nc; have hnm := hI.nm; have hn := hI.c10; have hn2 := hI.m10
  refine z_met (own := RX10) (lv := [(0, .ref (za E 17 0)), (1, .int y), (2, .int v)]) (by decide) rfl (Nat.le_of_ble_eq_true rfl) rfl (fun gg X Y => ?_)
  refine z_aload_n X (pc := 0) 0 dX10_takeBid_0 rfl rfl ?_
  refine z_get X (pc := 1) 0 zk_17_0 (zc_17_0 E _) rfl inlX10 (by decide) gw_13 rfl rfl dX10_takeBid_1 ?_
  refine z_get X (pc := 4) 1 zk_9_0 (zc_9_0 E _) rfl inlX9 (by decide) gw_226 rfl rfl dX10_takeBid_4 ?_
  refine z_iload_n X (pc := 7) 1 dX10_takeBid_7 rfl rfl ?_
  refine z_callV X (pc := 8) (rest := []) kv_X4_has (c_X4_has E M g (And.left (S9.rf hg)) nm hnm (by omega) y) zk_9_2 (zc_9_2 E _) rfl rfl gw_343 (by decide) rfl rfl (Nat.le_of_ble_eq_true rfl) dX10_takeBid_8 (zk_i ?_)
  refine z_bif_ne X (pc := 11) (tgt := 18) dX10_takeBid_11 (by decide) (fun c11 => ?_) (fun c11 => ?_)
  · obtain ⟨m, hm, rfl⟩ := inR_of c11 (by omega)
    refine z_iload_n X (pc := 18) 2 dX10_takeBid_18 rfl rfl ?_
    refine z_iconst X (pc := 19) (v := 0) dX10_takeBid_19 (by decide) ?_
    refine z_bipush X (pc := 20) (v := 99) dX10_takeBid_20 (by decide) ?_
    refine z_callS X (pc := 22) (rest := []) ks_X10_isWithin (c_X10_isWithin E M v 0 99) gw_187 (by decide) rfl rfl (Nat.le_of_ble_eq_true rfl) dX10_takeBid_22 (zk_i ?_)
    refine z_bif_ne X (pc := 25) (tgt := 32) dX10_takeBid_25 (by decide) (fun c25 => ?_) (fun c25 => ?_)
    · refine z_aload_n X (pc := 32) 0 dX10_takeBid_32 rfl rfl ?_
      refine z_get X (pc := 33) 0 zk_17_0 (zc_17_0 E _) rfl inlX10 (by decide) gw_13 rfl rfl dX10_takeBid_33 ?_
      refine z_get X (pc := 36) 1 zk_9_0 (zc_9_0 E _) rfl inlX9 (by decide) gw_226 rfl rfl dX10_takeBid_36 ?_
      refine z_iload_n X (pc := 39) 1 dX10_takeBid_39 rfl rfl ?_
      refine z_callV X (pc := 40) (rest := []) kv_X4_sits (c_X4_sits E M g (And.left (S9.rf hg))  m (show m < 10 by omega)) zk_9_2 (zc_9_2 E _) rfl rfl gw_347 (by decide) rfl rfl (Nat.le_of_ble_eq_true rfl) dX10_takeBid_40 (zk_i ?_)
      refine z_bif_ne X (pc := 43) (tgt := 63) dX10_takeBid_43 (by decide) (fun c43 => ?_) (fun c43 => ?_)
      · refine z_iload_n X (pc := 63) 2 dX10_takeBid_63 rfl rfl ?_
        refine z_aload_n X (pc := 64) 0 dX10_takeBid_64 rfl rfl ?_
        refine z_get X (pc := 65) 0 zk_17_0 (zc_17_0 E _) rfl inlX10 (by decide) gw_13 rfl rfl dX10_takeBid_65 ?_
        refine z_get X (pc := 68) 1 zk_9_0 (zc_9_0 E _) rfl inlX9 (by decide) gw_226 rfl rfl dX10_takeBid_68 ?_
        refine z_get X (pc := 71) 4 zk_9_2 (zc_9_2 E _) rfl inlX4 (by decide) gw_341 rfl rfl dX10_takeBid_71 ?_
        refine z_iload_n X (pc := 74) 1 dX10_takeBid_74 rfl rfl ?_
        refine z_callV X (pc := 75) (rest := [.int v]) kv_X7_at (c_X7_at E M 9 24 m (by decide) (by decide) (show m < 10 by omega)) zk_9_24 (zc_9_24 E _) rfl rfl gw_348 (by decide) rfl rfl (Nat.le_of_ble_eq_true rfl) dX10_takeBid_75 (zk_i ?_)
        refine z_top (y := (g 10 m)) (S9.row 10 (S9.rf hg) rfl (by decide) (show m < 10 by omega)) ?_
        refine z_icmp_le X (pc := 78) (tgt := 102) dX10_takeBid_78 (by decide) (fun c78 => ?_) (fun c78 => ?_)
        · refine z_aload_n X (pc := 102) 0 dX10_takeBid_102 rfl rfl ?_
          refine z_get X (pc := 103) 0 zk_17_0 (zc_17_0 E _) rfl inlX10 (by decide) gw_13 rfl rfl dX10_takeBid_103 ?_
          refine z_get X (pc := 106) 1 zk_9_0 (zc_9_0 E _) rfl inlX9 (by decide) gw_226 rfl rfl dX10_takeBid_106 ?_
          refine z_get X (pc := 109) 5 zk_9_2 (zc_9_2 E _) rfl inlX4 (by decide) gw_342 rfl rfl dX10_takeBid_109 ?_
          refine z_iload_n X (pc := 112) 1 dX10_takeBid_112 rfl rfl ?_
          refine z_callV X (pc := 113) (rest := []) kv_X7_at (c_X7_at E M 9 26 m (by decide) (by decide) (show m < 10 by omega)) zk_9_26 (zc_9_26 E _) rfl rfl gw_348 (by decide) rfl rfl (Nat.le_of_ble_eq_true rfl) dX10_takeBid_113 (zk_i ?_)
          refine z_top (y := (g 11 m)) (S9.row 11 (S9.rf hg) rfl (by decide) (show m < 10 by omega)) ?_
          refine z_istore_n X (pc := 116) (lv1 := [(3, .int (g 11 m)), (0, .ref (za E 17 0)), (1, .int (nI m)), (2, .int v)]) dX10_takeBid_116 rfl (by decide) rfl ?_
          refine z_aload_n X (pc := 117) 1 dX10_takeBid_117 rfl rfl ?_
          refine z_get X (pc := 118) 0 zk_17_0 (zc_17_0 E _) rfl inlX10 (by decide) gw_13 rfl rfl dX10_takeBid_118 ?_
          refine z_get X (pc := 121) 1 zk_9_0 (zc_9_0 E _) rfl inlX9 (by decide) gw_226 rfl rfl dX10_takeBid_121 ?_
          refine z_get X (pc := 124) 5 zk_9_2 (zc_9_2 E _) rfl inlX4 (by decide) gw_342 rfl rfl dX10_takeBid_124 ?_
          refine z_iload_n X (pc := 127) 2 dX10_takeBid_127 rfl rfl ?_
          refine z_iload_n X (pc := 128) 3 dX10_takeBid_128 rfl rfl ?_
          refine z_callV X (pc := 129) (rest := []) kv_X7_put (c_X7_put E M 9 26 m v (by decide) (by decide) (show m < 10 by omega)) zk_9_26 (zc_9_26 E _) rfl rfl gw_349 (by decide) rfl rfl (Nat.le_of_ble_eq_true rfl) dX10_takeBid_129 (zk_v ?_)
          refine z_gen (S9.put 11 (S9.rf hg) rfl (by decide) (show m < 10 by omega)) (fun M_1 hS_2 => ?_)
          refine z_iload_n X (pc := 132) 0 dX10_takeBid_132 rfl rfl ?_
          exact z_iret X Y dX10_takeBid_133 ⟨_, rfl, OX.of (g := (gu g 11 m v)) (rs := rs) (by rw [oBid_in hI hm]; simp [oBidN, nSit, i32_nlt, hI.cNe, hI.mNe, gu_r, c25, c43, c78, (i32_nlt.mpr c78)]) (CX.same hR FY.rf hS_2)⟩
        · refine z_aload_n X (pc := 81) 0 dX10_takeBid_81 rfl rfl ?_
          refine z_bipush X (pc := 82) (v := 9) dX10_takeBid_82 (by decide) ?_
          refine z_aload_n X (pc := 84) 0 dX10_takeBid_84 rfl rfl ?_
          refine z_get X (pc := 85) 0 zk_17_0 (zc_17_0 E _) rfl inlX10 (by decide) gw_13 rfl rfl dX10_takeBid_85 ?_
          refine z_get X (pc := 88) 1 zk_9_0 (zc_9_0 E _) rfl inlX9 (by decide) gw_226 rfl rfl dX10_takeBid_88 ?_
          refine z_get X (pc := 91) 4 zk_9_2 (zc_9_2 E _) rfl inlX4 (by decide) gw_341 rfl rfl dX10_takeBid_91 ?_
          refine z_iload_n X (pc := 94) 1 dX10_takeBid_94 rfl rfl ?_
          refine z_callV X (pc := 95) (rest := [.int 9, .ref (za E 17 0)]) kv_X7_at (c_X7_at E M 9 24 m (by decide) (by decide) (show m < 10 by omega)) zk_9_24 (zc_9_24 E _) rfl rfl gw_348 (by decide) rfl rfl (Nat.le_of_ble_eq_true rfl) dX10_takeBid_95 (zk_i ?_)
          refine z_top (y := (g 10 m)) (S9.row 10 (S9.rf hg) rfl (by decide) (show m < 10 by omega)) ?_
          refine z_callV X (pc := 98) (rest := []) kv_X10_refused (c_X10_refused E M 9 (g 10 m)) zk_17_0 (zc_17_0 E _) rfl rfl gw_190 (by decide) rfl rfl (Nat.le_of_ble_eq_true rfl) dX10_takeBid_98 (zk_ri (fun v_5 M_3 h_4 => ?_))
          refine z_top (y := ((-1014))) h_4.1 ?_
          exact z_iret X Y dX10_takeBid_101 ⟨_, rfl, OX.of (g := g) (rs := [(9, (g 10 m))]) (by rw [oBid_in hI hm]; simp [oBidN, nSit, i32_nlt, hI.cNe, hI.mNe, gu_r, c25, c43, c78, (i32_nle.mp c78)]) (CX.refuse FY.rf (S9.rf hg) h_4.2)⟩
      · refine z_aload_n X (pc := 46) 0 dX10_takeBid_46 rfl rfl ?_
        refine z_bipush X (pc := 47) (v := 8) dX10_takeBid_47 (by decide) ?_
        refine z_aload_n X (pc := 49) 0 dX10_takeBid_49 rfl rfl ?_
        refine z_get X (pc := 50) 0 zk_17_0 (zc_17_0 E _) rfl inlX10 (by decide) gw_13 rfl rfl dX10_takeBid_50 ?_
        refine z_get X (pc := 53) 1 zk_9_0 (zc_9_0 E _) rfl inlX9 (by decide) gw_226 rfl rfl dX10_takeBid_53 ?_
        refine z_callV X (pc := 56) (rest := [.int 8, .ref (za E 17 0)]) kv_X4_sitting (c_X4_sitting E M g (And.left (S9.rf hg)) nm hnm (by omega)) zk_9_2 (zc_9_2 E _) rfl rfl gw_324 (by decide) rfl rfl (Nat.le_of_ble_eq_true rfl) dX10_takeBid_56 (zk_i ?_)
        refine z_callV X (pc := 59) (rest := []) kv_X10_refused (c_X10_refused E M 8 (nI (cntB (sits g) nm))) zk_17_0 (zc_17_0 E _) rfl rfl gw_190 (by decide) rfl rfl (Nat.le_of_ble_eq_true rfl) dX10_takeBid_59 (zk_ri (fun v_8 M_6 h_7 => ?_))
        refine z_top (y := ((-1014))) h_7.1 ?_
        exact z_iret X Y dX10_takeBid_62 ⟨_, rfl, OX.of (g := g) (rs := [(8, (nI (cntB (sits g) nm)))]) (by rw [oBid_in hI hm]; simp [oBidN, nSit, i32_nlt, hI.cNe, hI.mNe, gu_r, c25, c43]) (CX.refuse FY.rf (S9.rf hg) h_7.2)⟩
    · refine z_sipush X (pc := 28) (v := (-1012)) dX10_takeBid_28 (by decide) ?_
      exact z_iret X Y dX10_takeBid_31 ⟨_, rfl, OX.of (g := g) (rs := rs) (by rw [oBid_in hI hm]; simp [oBidN, nSit, i32_nlt, hI.cNe, hI.mNe, gu_r, c25]) (CX.same hR FY.rf (S9.rf hg))⟩
  · refine z_sipush X (pc := 14) (v := (-1011)) dX10_takeBid_14 (by decide) ?_
    exact z_iret X Y dX10_takeBid_17 ⟨_, rfl, OX.of (g := g) (rs := rs) (by simp [oBid, hI.cNe, hI.mNe, gu_r, c11]) (CX.same hR FY.rf (S9.rf hg))⟩

def rm_X10_putUp : Room := { frames := 3, cells := 0, slots := 0, locals := 66 }
theorem kv_X10_putUp : KV yX10_putUp RX10 cX10_putUp 2 (some .int) 1 := ⟨⟨gw_518, gw_519, gw_2, gw_520⟩, by decide +kernel⟩
set_option maxRecDepth 100000 in
set_option maxHeartbeats 4000000 in
theorem c_X10_putUp (E : ZE) (M : Mem) (g : LG) (hg : gX (M 9) = g) (nc nm n : Nat) (hI : Inv g nc nm n) (rs : Rs) (hR : RSn M rs) (x : Int32) : Mt E yX10_putUp cX10_putUp 2 (some .int) rm_X10_putUp [.ref (za E 17 0), .int x] M (RI (fun v M1 => OX M (oRaise g rs x) v M1)) := by
  have hnc := hI.nc; have hnm := hI.nm; have hn := hI.c10; have hn2 := hI.m10
  refine z_met (own := RX10) (lv := [(0, .ref (za E 17 0)), (1, .int x)]) (by decide) rfl (Nat.le_of_ble_eq_true rfl) rfl (fun gg X Y => ?_)
  refine z_aload_n X (pc := 0) 0 dX10_putUp_0 rfl rfl ?_
  refine z_get X (pc := 1) 0 zk_17_0 (zc_17_0 E _) rfl inlX10 (by decide) gw_13 rfl rfl dX10_putUp_1 ?_
  refine z_get X (pc := 4) 0 zk_9_0 (zc_9_0 E _) rfl inlX9 (by decide) gw_185 rfl rfl dX10_putUp_4 ?_
  refine z_iload_n X (pc := 7) 1 dX10_putUp_7 rfl rfl ?_
  refine z_callV X (pc := 8) (rest := []) kv_X2_has (c_X2_has E M g (And.left (S9.rf hg)) nc hnc (by omega) x) zk_9_1 (zc_9_1 E _) rfl rfl gw_396 (by decide) rfl rfl (Nat.le_of_ble_eq_true rfl) dX10_putUp_8 (zk_i ?_)
  refine z_bif_ne X (pc := 11) (tgt := 18) dX10_putUp_11 (by decide) (fun c11 => ?_) (fun c11 => ?_)
  · obtain ⟨c, hc, rfl⟩ := inR_of c11 (by omega)
    refine z_aload_n X (pc := 18) 0 dX10_putUp_18 rfl rfl ?_
    refine z_get X (pc := 19) 0 zk_17_0 (zc_17_0 E _) rfl inlX10 (by decide) gw_13 rfl rfl dX10_putUp_19 ?_
    refine z_get X (pc := 22) 0 zk_9_0 (zc_9_0 E _) rfl inlX9 (by decide) gw_185 rfl rfl dX10_putUp_22 ?_
    refine z_get X (pc := 25) 4 zk_9_1 (zc_9_1 E _) rfl inlX2 (by decide) gw_392 rfl rfl dX10_putUp_25 ?_
    refine z_iload_n X (pc := 28) 1 dX10_putUp_28 rfl rfl ?_
    refine z_callV X (pc := 29) (rest := []) kv_X7_at (c_X7_at E M 9 10 c (by decide) (by decide) (show c < 10 by omega)) zk_9_10 (zc_9_10 E _) rfl rfl gw_348 (by decide) rfl rfl (Nat.le_of_ble_eq_true rfl) dX10_putUp_29 (zk_i ?_)
    refine z_top (y := (g 3 c)) (S9.row 3 (S9.rf hg) rfl (by decide) (show c < 10 by omega)) ?_
    refine z_iconst X (pc := 32) (v := 3) dX10_putUp_32 (by decide) ?_
    refine z_icmp_lt X (pc := 33) (tgt := 57) dX10_putUp_33 (by decide) (fun c33 => ?_) (fun c33 => ?_)
    · refine z_aload_n X (pc := 57) 0 dX10_putUp_57 rfl rfl ?_
      refine z_get X (pc := 58) 0 zk_17_0 (zc_17_0 E _) rfl inlX10 (by decide) gw_13 rfl rfl dX10_putUp_58 ?_
      refine z_get X (pc := 61) 2 zk_9_0 (zc_9_0 E _) rfl inlX9 (by decide) gw_241 rfl rfl dX10_putUp_61 ?_
      refine z_get X (pc := 64) 0 zk_9_3 (zc_9_3 E _) rfl inlX1 (by decide) gw_360 rfl rfl dX10_putUp_64 ?_
      refine z_top (y := (g 14 0)) (S9.bk (S9.rf hg) (by decide)) ?_
      refine z_iconst X (pc := 67) (v := 2) dX10_putUp_67 (by decide) ?_
      refine z_icmp_ge X (pc := 68) (tgt := 88) dX10_putUp_68 (by decide) (fun c68 => ?_) (fun c68 => ?_)
      · refine z_aload_n X (pc := 88) 0 dX10_putUp_88 rfl rfl ?_
        refine z_get X (pc := 89) 0 zk_17_0 (zc_17_0 E _) rfl inlX10 (by decide) gw_13 rfl rfl dX10_putUp_89 ?_
        refine z_get X (pc := 92) 0 zk_9_0 (zc_9_0 E _) rfl inlX9 (by decide) gw_185 rfl rfl dX10_putUp_92 ?_
        refine z_get X (pc := 95) 4 zk_9_1 (zc_9_1 E _) rfl inlX2 (by decide) gw_392 rfl rfl dX10_putUp_95 ?_
        refine z_iload_n X (pc := 98) 1 dX10_putUp_98 rfl rfl ?_
        refine z_iconst X (pc := 99) (v := 3) dX10_putUp_99 (by decide) ?_
        refine z_callV X (pc := 100) (rest := []) kv_X7_put (c_X7_put E M 9 10 c 3 (by decide) (by decide) (show c < 10 by omega)) zk_9_10 (zc_9_10 E _) rfl rfl gw_349 (by decide) rfl rfl (Nat.le_of_ble_eq_true rfl) dX10_putUp_100 (zk_v ?_)
        refine z_gen (S9.put 3 (S9.rf hg) rfl (by decide) (show c < 10 by omega)) (fun M_1 hS_2 => ?_)
        refine z_aload_n X (pc := 103) 0 dX10_putUp_103 rfl rfl ?_
        refine z_get X (pc := 104) 0 zk_17_0 (zc_17_0 E _) rfl inlX10 (by decide) gw_13 rfl rfl dX10_putUp_104 ?_
        refine z_get X (pc := 107) 2 zk_9_0 (zc_9_0 E _) rfl inlX9 (by decide) gw_241 rfl rfl dX10_putUp_107 ?_
        refine z_dup X (pc := 110) dX10_putUp_110 rfl ?_
        refine z_get X (pc := 111) 0 zk_9_3 (zc_9_3 E _) rfl inlX1 (by decide) gw_360 rfl rfl dX10_putUp_111 ?_
        refine z_top (y := ((gu g 3 c 3) 14 0)) (S9.bk hS_2 (by decide)) ?_
        refine z_iconst X (pc := 114) (v := 2) dX10_putUp_114 (by decide) ?_
        refine z_isub X (pc := 115) dX10_putUp_115 ?_
        refine z_put X (pc := 116) 0 zk_9_3 (zc_9_3 E _) rfl inlX1 tyX1 tyX1_ok nmX1 (by decide) gw_360 rfl rfl (ty := .int) (by decide +kernel) rfl rfl (Nat.le_of_ble_eq_true rfl) dX10_putUp_116 rfl ?_
        refine z_gen (S9.pbk hS_2 (by decide)) (fun M_3 hS_4 => ?_)
        refine z_aload_n X (pc := 119) 0 dX10_putUp_119 rfl rfl ?_
        refine z_get X (pc := 120) 0 zk_17_0 (zc_17_0 E _) rfl inlX10 (by decide) gw_13 rfl rfl dX10_putUp_120 ?_
        refine z_get X (pc := 123) 2 zk_9_0 (zc_9_0 E _) rfl inlX9 (by decide) gw_241 rfl rfl dX10_putUp_123 ?_
        refine z_dup X (pc := 126) dX10_putUp_126 rfl ?_
        refine z_get X (pc := 127) 2 zk_9_3 (zc_9_3 E _) rfl inlX1 (by decide) gw_362 rfl rfl dX10_putUp_127 ?_
        refine z_top (y := ((gu (gu g 3 c 3) 14 0 (((gu g 3 c 3) 14 0) - 2)) 14 2)) (S9.bk hS_4 (by decide)) ?_
        refine z_iconst X (pc := 130) (v := 2) dX10_putUp_130 (by decide) ?_
        refine z_iadd X (pc := 131) dX10_putUp_131 ?_
        refine z_put X (pc := 132) 2 zk_9_3 (zc_9_3 E _) rfl inlX1 tyX1 tyX1_ok nmX1 (by decide) gw_362 rfl rfl (ty := .int) (by decide +kernel) rfl rfl (Nat.le_of_ble_eq_true rfl) dX10_putUp_132 rfl ?_
        refine z_gen (S9.pbk hS_4 (by decide)) (fun M_5 hS_6 => ?_)
        refine z_aload_n X (pc := 135) 0 dX10_putUp_135 rfl rfl ?_
        refine z_get X (pc := 136) 0 zk_17_0 (zc_17_0 E _) rfl inlX10 (by decide) gw_13 rfl rfl dX10_putUp_136 ?_
        refine z_get X (pc := 139) 2 zk_9_0 (zc_9_0 E _) rfl inlX9 (by decide) gw_241 rfl rfl dX10_putUp_139 ?_
        refine z_get X (pc := 142) 0 zk_9_3 (zc_9_3 E _) rfl inlX1 (by decide) gw_360 rfl rfl dX10_putUp_142 ?_
        refine z_top (y := ((gu (gu (gu g 3 c 3) 14 0 (((gu g 3 c 3) 14 0) - 2)) 14 2 (((gu (gu g 3 c 3) 14 0 (((gu g 3 c 3) 14 0) - 2)) 14 2) + 2)) 14 0)) (S9.bk hS_6 (by decide)) ?_
        exact z_iret X Y dX10_putUp_145 ⟨_, rfl, OX.of (g := (gu (gu (gu g 3 c 3) 14 0 (((gu g 3 c 3) 14 0) - 2)) 14 2 (((gu (gu g 3 c 3) 14 0 (((gu g 3 c 3) 14 0) - 2)) 14 2) + 2))) (rs := rs) (by rw [oRaise_in hI hc]; simp [oRaiseN, hI.cNe, hI.mNe, gu_r, c33, (i32_nle.mpr c33), c68, (i32_nlt.mpr c68)]) (CX.same hR FY.rf hS_6)⟩
      · refine z_aload_n X (pc := 71) 0 dX10_putUp_71 rfl rfl ?_
        refine z_bipush X (pc := 72) (v := 9) dX10_putUp_72 (by decide) ?_
        refine z_aload_n X (pc := 74) 0 dX10_putUp_74 rfl rfl ?_
        refine z_get X (pc := 75) 0 zk_17_0 (zc_17_0 E _) rfl inlX10 (by decide) gw_13 rfl rfl dX10_putUp_75 ?_
        refine z_get X (pc := 78) 2 zk_9_0 (zc_9_0 E _) rfl inlX9 (by decide) gw_241 rfl rfl dX10_putUp_78 ?_
        refine z_get X (pc := 81) 0 zk_9_3 (zc_9_3 E _) rfl inlX1 (by decide) gw_360 rfl rfl dX10_putUp_81 ?_
        refine z_top (y := (g 14 0)) (S9.bk (S9.rf hg) (by decide)) ?_
        refine z_callV X (pc := 84) (rest := []) kv_X10_refused (c_X10_refused E M 9 (g 14 0)) zk_17_0 (zc_17_0 E _) rfl rfl gw_190 (by decide) rfl rfl (Nat.le_of_ble_eq_true rfl) dX10_putUp_84 (zk_ri (fun v_9 M_7 h_8 => ?_))
        refine z_top (y := ((-1014))) h_8.1 ?_
        exact z_iret X Y dX10_putUp_87 ⟨_, rfl, OX.of (g := g) (rs := [(9, (g 14 0))]) (by rw [oRaise_in hI hc]; simp [oRaiseN, hI.cNe, hI.mNe, gu_r, c33, (i32_nle.mpr c33), c68, (i32_nle.mp c68)]) (CX.refuse FY.rf (S9.rf hg) h_8.2)⟩
    · refine z_aload_n X (pc := 36) 0 dX10_putUp_36 rfl rfl ?_
      refine z_bipush X (pc := 37) (v := 12) dX10_putUp_37 (by decide) ?_
      refine z_aload_n X (pc := 39) 0 dX10_putUp_39 rfl rfl ?_
      refine z_get X (pc := 40) 0 zk_17_0 (zc_17_0 E _) rfl inlX10 (by decide) gw_13 rfl rfl dX10_putUp_40 ?_
      refine z_get X (pc := 43) 0 zk_9_0 (zc_9_0 E _) rfl inlX9 (by decide) gw_185 rfl rfl dX10_putUp_43 ?_
      refine z_get X (pc := 46) 4 zk_9_1 (zc_9_1 E _) rfl inlX2 (by decide) gw_392 rfl rfl dX10_putUp_46 ?_
      refine z_iload_n X (pc := 49) 1 dX10_putUp_49 rfl rfl ?_
      refine z_callV X (pc := 50) (rest := [.int 12, .ref (za E 17 0)]) kv_X7_at (c_X7_at E M 9 10 c (by decide) (by decide) (show c < 10 by omega)) zk_9_10 (zc_9_10 E _) rfl rfl gw_348 (by decide) rfl rfl (Nat.le_of_ble_eq_true rfl) dX10_putUp_50 (zk_i ?_)
      refine z_top (y := (g 3 c)) (S9.row 3 (S9.rf hg) rfl (by decide) (show c < 10 by omega)) ?_
      refine z_callV X (pc := 53) (rest := []) kv_X10_refused (c_X10_refused E M 12 (g 3 c)) zk_17_0 (zc_17_0 E _) rfl rfl gw_190 (by decide) rfl rfl (Nat.le_of_ble_eq_true rfl) dX10_putUp_53 (zk_ri (fun v_12 M_10 h_11 => ?_))
      refine z_top (y := ((-1014))) h_11.1 ?_
      exact z_iret X Y dX10_putUp_56 ⟨_, rfl, OX.of (g := g) (rs := [(12, (g 3 c))]) (by rw [oRaise_in hI hc]; simp [oRaiseN, hI.cNe, hI.mNe, gu_r, c33, (i32_nlt.mp c33)]) (CX.refuse FY.rf (S9.rf hg) h_11.2)⟩
  · refine z_sipush X (pc := 14) (v := (-1011)) dX10_putUp_14 (by decide) ?_
    exact z_iret X Y dX10_putUp_17 ⟨_, rfl, OX.of (g := g) (rs := rs) (by simp [oRaise, hI.cNe, hI.mNe, gu_r, c11]) (CX.same hR FY.rf (S9.rf hg))⟩

def rm_X10_moveUp : Room := { frames := 3, cells := 0, slots := 0, locals := 66 }
theorem kv_X10_moveUp : KV yX10_moveUp RX10 cX10_moveUp 5 (some .int) 1 := ⟨⟨gw_526, gw_527, gw_2, gw_528⟩, by decide +kernel⟩
set_option maxRecDepth 100000 in
set_option maxHeartbeats 4000000 in
theorem c_X10_moveUp (E : ZE) (M : Mem) (g : LG) (hg : gX (M 9) = g) (nc nm n : Nat) (hI : Inv g nc nm n) (rs : Rs) (hR : RSn M rs) (x : Int32) : Mt E yX10_moveUp cX10_moveUp 5 (some .int) rm_X10_moveUp [.ref (za E 17 0), .int x] M (RI (fun v M1 => OX M (oPromote g rs x) v M1)) := by
  have hnc := hI.nc; have hnm := hI.nm; have hn := hI.c10; have hn2 := hI.m10
  refine z_met (own := RX10) (lv := [(0, .ref (za E 17 0)), (1, .int x)]) (by decide) rfl (Nat.le_of_ble_eq_true rfl) rfl (fun gg X Y => ?_)
  refine z_aload_n X (pc := 0) 0 dX10_moveUp_0 rfl rfl ?_
  refine z_get X (pc := 1) 0 zk_17_0 (zc_17_0 E _) rfl inlX10 (by decide) gw_13 rfl rfl dX10_moveUp_1 ?_
  refine z_get X (pc := 4) 0 zk_9_0 (zc_9_0 E _) rfl inlX9 (by decide) gw_185 rfl rfl dX10_moveUp_4 ?_
  refine z_iload_n X (pc := 7) 1 dX10_moveUp_7 rfl rfl ?_
  refine z_callV X (pc := 8) (rest := []) kv_X2_has (c_X2_has E M g (And.left (S9.rf hg)) nc hnc (by omega) x) zk_9_1 (zc_9_1 E _) rfl rfl gw_396 (by decide) rfl rfl (Nat.le_of_ble_eq_true rfl) dX10_moveUp_8 (zk_i ?_)
  refine z_bif_ne X (pc := 11) (tgt := 18) dX10_moveUp_11 (by decide) (fun c11 => ?_) (fun c11 => ?_)
  · obtain ⟨c, hc, rfl⟩ := inR_of c11 (by omega)
    refine z_aload_n X (pc := 18) 0 dX10_moveUp_18 rfl rfl ?_
    refine z_get X (pc := 19) 0 zk_17_0 (zc_17_0 E _) rfl inlX10 (by decide) gw_13 rfl rfl dX10_moveUp_19 ?_
    refine z_get X (pc := 22) 0 zk_9_0 (zc_9_0 E _) rfl inlX9 (by decide) gw_185 rfl rfl dX10_moveUp_22 ?_
    refine z_get X (pc := 25) 5 zk_9_1 (zc_9_1 E _) rfl inlX2 (by decide) gw_393 rfl rfl dX10_moveUp_25 ?_
    refine z_iload_n X (pc := 28) 1 dX10_moveUp_28 rfl rfl ?_
    refine z_callV X (pc := 29) (rest := []) kv_X7_at (c_X7_at E M 9 12 c (by decide) (by decide) (show c < 10 by omega)) zk_9_12 (zc_9_12 E _) rfl rfl gw_348 (by decide) rfl rfl (Nat.le_of_ble_eq_true rfl) dX10_moveUp_29 (zk_i ?_)
    refine z_top (y := (g 4 c)) (S9.row 4 (S9.rf hg) rfl (by decide) (show c < 10 by omega)) ?_
    refine z_istore_n X (pc := 32) (lv1 := [(2, .int (g 4 c)), (0, .ref (za E 17 0)), (1, .int (nI c))]) dX10_moveUp_32 rfl (by decide) rfl ?_
    refine z_aload_n X (pc := 33) 1 dX10_moveUp_33 rfl rfl ?_
    refine z_get X (pc := 34) 0 zk_17_0 (zc_17_0 E _) rfl inlX10 (by decide) gw_13 rfl rfl dX10_moveUp_34 ?_
    refine z_get X (pc := 37) 0 zk_9_0 (zc_9_0 E _) rfl inlX9 (by decide) gw_185 rfl rfl dX10_moveUp_37 ?_
    refine z_get X (pc := 40) 6 zk_9_1 (zc_9_1 E _) rfl inlX2 (by decide) gw_394 rfl rfl dX10_moveUp_40 ?_
    refine z_iload_n X (pc := 43) 2 dX10_moveUp_43 rfl rfl ?_
    refine z_callV X (pc := 44) (rest := []) kv_X7_at (c_X7_at E M 9 14 c (by decide) (by decide) (show c < 10 by omega)) zk_9_14 (zc_9_14 E _) rfl rfl gw_348 (by decide) rfl rfl (Nat.le_of_ble_eq_true rfl) dX10_moveUp_44 (zk_i ?_)
    refine z_top (y := (g 5 c)) (S9.row 5 (S9.rf hg) rfl (by decide) (show c < 10 by omega)) ?_
    refine z_istore_n X (pc := 47) (lv1 := [(3, .int (g 5 c)), (2, .int (g 4 c)), (0, .ref (za E 17 0)), (1, .int (nI c))]) dX10_moveUp_47 rfl (by decide) rfl ?_
    refine z_iload_n X (pc := 48) 1 dX10_moveUp_48 rfl rfl ?_
    refine z_iconst X (pc := 49) (v := 2) dX10_moveUp_49 (by decide) ?_
    refine z_icmp_lt X (pc := 50) (tgt := 61) dX10_moveUp_50 (by decide) (fun c50 => ?_) (fun c50 => ?_)
    · refine z_bipush X (pc := 61) (v := 20) dX10_moveUp_61 (by decide) ?_
      refine z_iload_n X (pc := 63) 1 dX10_moveUp_63 rfl rfl ?_
      refine z_iconst X (pc := 64) (v := 1) dX10_moveUp_64 (by decide) ?_
      refine z_iadd X (pc := 65) dX10_moveUp_65 ?_
      refine z_imul X (pc := 66) dX10_moveUp_66 ?_
      refine z_istore X (pc := 67) (lv1 := [(4, .int (20 * ((g 4 c) + 1))), (3, .int (g 5 c)), (2, .int (g 4 c)), (0, .ref (za E 17 0)), (1, .int (nI c))]) dX10_moveUp_67 (by decide) rfl ?_
      refine z_iload_n X (pc := 69) 1 dX10_moveUp_69 rfl rfl ?_
      refine z_iload X (pc := 70) 0 dX10_moveUp_70 rfl ?_
      refine z_icmp_ge X (pc := 72) (tgt := 86) dX10_moveUp_72 (by decide) (fun c72 => ?_) (fun c72 => ?_)
      · refine z_aload_n X (pc := 86) 3 dX10_moveUp_86 rfl rfl ?_
        refine z_get X (pc := 87) 0 zk_17_0 (zc_17_0 E _) rfl inlX10 (by decide) gw_13 rfl rfl dX10_moveUp_87 ?_
        refine z_get X (pc := 90) 0 zk_9_0 (zc_9_0 E _) rfl inlX9 (by decide) gw_185 rfl rfl dX10_moveUp_90 ?_
        refine z_get X (pc := 93) 5 zk_9_1 (zc_9_1 E _) rfl inlX2 (by decide) gw_393 rfl rfl dX10_moveUp_93 ?_
        refine z_iload_n X (pc := 96) 4 dX10_moveUp_96 rfl rfl ?_
        refine z_iload_n X (pc := 97) 2 dX10_moveUp_97 rfl rfl ?_
        refine z_iconst X (pc := 98) (v := 1) dX10_moveUp_98 (by decide) ?_
        refine z_iadd X (pc := 99) dX10_moveUp_99 ?_
        refine z_callV X (pc := 100) (rest := []) kv_X7_put (c_X7_put E M 9 12 c ((g 4 c) + 1) (by decide) (by decide) (show c < 10 by omega)) zk_9_12 (zc_9_12 E _) rfl rfl gw_349 (by decide) rfl rfl (Nat.le_of_ble_eq_true rfl) dX10_moveUp_100 (zk_v ?_)
        refine z_gen (S9.put 4 (S9.rf hg) rfl (by decide) (show c < 10 by omega)) (fun M_1 hS_2 => ?_)
        refine z_iload_n X (pc := 103) 2 dX10_moveUp_103 rfl rfl ?_
        refine z_iconst X (pc := 104) (v := 1) dX10_moveUp_104 (by decide) ?_
        refine z_iadd X (pc := 105) dX10_moveUp_105 ?_
        exact z_iret X Y dX10_moveUp_106 ⟨_, rfl, OX.of (g := (gu g 4 c ((g 4 c) + 1))) (rs := rs) (by rw [oPromote_in hI hc]; simp [oPromoteN, hI.cNe, hI.mNe, gu_r, c50, (i32_nle.mpr c50), c72, (i32_nlt.mpr c72)]) (CX.same hR FY.rf hS_2)⟩
      · refine z_aload_n X (pc := 75) 3 dX10_moveUp_75 rfl rfl ?_
        refine z_bipush X (pc := 76) (v := 14) dX10_moveUp_76 (by decide) ?_
        refine z_iload X (pc := 78) 0 dX10_moveUp_78 rfl ?_
        refine z_iload_n X (pc := 80) 1 dX10_moveUp_80 rfl rfl ?_
        refine z_isub X (pc := 81) dX10_moveUp_81 ?_
        refine z_callV X (pc := 82) (rest := []) kv_X10_refused (c_X10_refused E M 14 ((20 * ((g 4 c) + 1)) - (g 5 c))) zk_17_0 (zc_17_0 E _) rfl rfl gw_190 (by decide) rfl rfl (Nat.le_of_ble_eq_true rfl) dX10_moveUp_82 (zk_ri (fun v_5 M_3 h_4 => ?_))
        refine z_top (y := ((-1014))) h_4.1 ?_
        exact z_iret X Y dX10_moveUp_85 ⟨_, rfl, OX.of (g := g) (rs := [(14, ((20 * ((g 4 c) + 1)) - (g 5 c)))]) (by rw [oPromote_in hI hc]; simp [oPromoteN, hI.cNe, hI.mNe, gu_r, c50, (i32_nle.mpr c50), c72, (i32_nle.mp c72)]) (CX.refuse FY.rf (S9.rf hg) h_4.2)⟩
    · refine z_aload_n X (pc := 53) 2 dX10_moveUp_53 rfl rfl ?_
      refine z_bipush X (pc := 54) (v := 13) dX10_moveUp_54 (by decide) ?_
      refine z_iload_n X (pc := 56) 0 dX10_moveUp_56 rfl rfl ?_
      refine z_callV X (pc := 57) (rest := []) kv_X10_refused (c_X10_refused E M 13 (g 5 c)) zk_17_0 (zc_17_0 E _) rfl rfl gw_190 (by decide) rfl rfl (Nat.le_of_ble_eq_true rfl) dX10_moveUp_57 (zk_ri (fun v_8 M_6 h_7 => ?_))
      refine z_top (y := ((-1014))) h_7.1 ?_
      exact z_iret X Y dX10_moveUp_60 ⟨_, rfl, OX.of (g := g) (rs := [(13, (g 5 c))]) (by rw [oPromote_in hI hc]; simp [oPromoteN, hI.cNe, hI.mNe, gu_r, c50, (i32_nlt.mp c50)]) (CX.refuse FY.rf (S9.rf hg) h_7.2)⟩
  · refine z_sipush X (pc := 14) (v := (-1011)) dX10_moveUp_14 (by decide) ?_
    exact z_iret X Y dX10_moveUp_17 ⟨_, rfl, OX.of (g := g) (rs := rs) (by simp [oPromote, hI.cNe, hI.mNe, gu_r, c11]) (CX.same hR FY.rf (S9.rf hg))⟩

def rm_X10_beginSeason : Room := { frames := 4, cells := 0, slots := 0, locals := 96 }
theorem kv_X10_beginSeason : KV yX10_beginSeason RX10 cX10_beginSeason 3 (some .int) 0 := ⟨⟨gw_238, gw_239, gw_2, gw_240⟩, by decide +kernel⟩
set_option maxRecDepth 100000 in
set_option maxHeartbeats 4000000 in
theorem c_X10_beginSeason (E : ZE) (M : Mem) (g : LG) (hg : gX (M 9) = g) (nc nm n : Nat) (hI : Inv g nc nm n) (rs : Rs) (hR : RSn M rs)  : Mt E yX10_beginSeason cX10_beginSeason 3 (some .int) rm_X10_beginSeason [.ref (za E 17 0)] M (RI (fun v M1 => OX M (oSeason g rs) v M1)) := by
  have hnc := hI.nc; have hnm := hI.nm; have hn := hI.c10; have hn2 := hI.m10
  refine z_met (own := RX10) (lv := [(0, .ref (za E 17 0))]) (by decide) rfl (Nat.le_of_ble_eq_true rfl) rfl (fun gg X Y => ?_)
  refine z_iconst X (pc := 0) (v := 0) dX10_beginSeason_0 (by decide) ?_
  refine z_istore_n X (pc := 1) (lv1 := [(1, .int 0), (0, .ref (za E 17 0))]) dX10_beginSeason_1 rfl (by decide) rfl ?_
  refine z_sub (lv' := [(1, .int (nI 0)), (0, .ref (za E 17 0))]) [0, 1] rfl ?_
  refine z_loop (nm) 2 (σ := Mem) (fun i s => S9 M (leaveN g i) s) (fun i s => (s, [(1, .int (nI i)), (0, .ref (za E 17 0))])) ?_ 0 M (Nat.zero_le _) (S9.rf hg)
  intro i s hi2 hJ2 ih2
  obtain ⟨M1, rfl⟩ : ∃ z, z = s := ⟨s, rfl⟩
  show Z gg E M1 [(1, .int (nI i)), (0, .ref (za E 17 0))] 2 []
  replace hJ2 : S9 M (leaveN g i) M1 := hJ2
  refine z_iload_n X (pc := 2) 0 dX10_beginSeason_2 rfl rfl ?_
  refine z_aload_n X (pc := 3) 1 dX10_beginSeason_3 rfl rfl ?_
  refine z_get X (pc := 4) 0 zk_17_0 (zc_17_0 E _) rfl inlX10 (by decide) gw_13 rfl rfl dX10_beginSeason_4 ?_
  refine z_get X (pc := 7) 1 zk_9_0 (zc_9_0 E _) rfl inlX9 (by decide) gw_226 rfl rfl dX10_beginSeason_7 ?_
  refine z_get X (pc := 10) 0 zk_9_2 (zc_9_2 E _) rfl inlX4 (by decide) gw_227 rfl rfl dX10_beginSeason_10 ?_
  refine z_top (y := (nI nm)) ((S9.cm hJ2).trans (by rw [leaveN_off (by decide)]; exact hnm)) ?_
  refine z_nicmp_ge X (pc := 13) (a := i) (b := nm) (tgt := 30) dX10_beginSeason_13 (by decide) (by omega) (by omega) (fun c13 => ?_) (fun c13 => ?_)
  · obtain rfl : nm = i := by omega
    refine z_aload_n X (pc := 30) 1 dX10_beginSeason_30 rfl rfl ?_
    refine z_get X (pc := 31) 4 zk_17_0 (zc_17_0 E _) rfl inlX10 (by decide) gw_22 rfl rfl dX10_beginSeason_31 ?_
    refine z_aload_n X (pc := 34) 1 dX10_beginSeason_34 rfl rfl ?_
    refine z_get X (pc := 35) 0 zk_17_0 (zc_17_0 E _) rfl inlX10 (by decide) gw_13 rfl rfl dX10_beginSeason_35 ?_
    refine z_callV X (pc := 38) (rest := []) kv_X0_byTurns (c_X0_byTurns_11 E M1 (leaveN g nm) (And.left hJ2) nc nm (by rw [leaveN_off (by decide)]; exact hnc) (by rw [leaveN_off (by decide)]; exact hnm) hn hn2 (Fb_leave hI.fb)) zk_11_0 (zc_11_0 E _) rfl rfl gw_255 (by decide) rfl rfl (Nat.le_of_ble_eq_true rfl) dX10_beginSeason_38 (zk_rv (fun M_1 h_2 => ?_))
    obtain ⟨aT, hA, hD⟩ := h_2
    have hF1 := FY.sa (FY.s9 FY.rf hJ2) hA (by decide)
    have hS1 : S9 M_1 (leaveN g nm) M_1 := S9.rf (SA.g9 hA (by decide) (And.left hJ2))
    refine z_iconst X (pc := 41) (v := 0) dX10_beginSeason_41 (by decide) ?_
    refine z_istore_n X (pc := 42) (lv1 := [(1, .int 0), (0, .ref (za E 17 0))]) dX10_beginSeason_42 rfl (by decide) rfl ?_
    refine z_sub (lv' := [(1, .int (nI 0)), (0, .ref (za E 17 0))]) [0, 1] rfl ?_
    refine z_loop (nc) 43 (σ := Mem) (fun j s => S9 M_1 (seatBy (matS (leaveN g nm) nc nm) (leaveN g nm) j) s) (fun j s => (s, [(1, .int (nI j)), (0, .ref (za E 17 0))])) ?_ 0 M_1 (Nat.zero_le _) hS1
    intro j s hi43 hJ43 ih43
    obtain ⟨M2, rfl⟩ : ∃ z, z = s := ⟨s, rfl⟩
    show Z gg E M2 [(1, .int (nI j)), (0, .ref (za E 17 0))] 43 []
    replace hJ43 : S9 M_1 (seatBy (matS (leaveN g nm) nc nm) (leaveN g nm) j) M2 := hJ43
    refine z_iload_n X (pc := 43) 0 dX10_beginSeason_43 rfl rfl ?_
    refine z_aload_n X (pc := 44) 1 dX10_beginSeason_44 rfl rfl ?_
    refine z_get X (pc := 45) 0 zk_17_0 (zc_17_0 E _) rfl inlX10 (by decide) gw_13 rfl rfl dX10_beginSeason_45 ?_
    refine z_get X (pc := 48) 0 zk_9_0 (zc_9_0 E _) rfl inlX9 (by decide) gw_185 rfl rfl dX10_beginSeason_48 ?_
    refine z_get X (pc := 51) 0 zk_9_1 (zc_9_1 E _) rfl inlX2 (by decide) gw_186 rfl rfl dX10_beginSeason_51 ?_
    refine z_top (y := (nI nc)) ((S9.cc hJ43).trans (by rw [seatBy_off (by decide), leaveN_off (by decide)]; exact hnc)) ?_
    refine z_nicmp_ge X (pc := 54) (a := j) (b := nc) (tgt := 86) dX10_beginSeason_54 (by decide) (by omega) (by omega) (fun c54 => ?_) (fun c54 => ?_)
    · obtain rfl : nc = j := by omega
      have hsg : seasG g = seatBy (matS (leaveN g nm) nc nm) (leaveN g nm) nc := by unfold seasG; rw [hI.cNe, hI.mNe]
      rw [← hsg] at hJ43
      refine z_aload_n X (pc := 86) 1 dX10_beginSeason_86 rfl rfl ?_
      refine z_get X (pc := 87) 0 zk_17_0 (zc_17_0 E _) rfl inlX10 (by decide) gw_13 rfl rfl dX10_beginSeason_87 ?_
      refine z_get X (pc := 90) 2 zk_9_0 (zc_9_0 E _) rfl inlX9 (by decide) gw_241 rfl rfl dX10_beginSeason_90 ?_
      refine z_dup X (pc := 93) dX10_beginSeason_93 rfl ?_
      refine z_get X (pc := 94) 5 zk_9_3 (zc_9_3 E _) rfl inlX1 (by decide) gw_242 rfl rfl dX10_beginSeason_94 ?_
      refine z_top (y := ((seasG g) 14 5)) (S9.bk hJ43 (by decide)) ?_
      refine z_iconst X (pc := 97) (v := 1) dX10_beginSeason_97 (by decide) ?_
      refine z_iadd X (pc := 98) dX10_beginSeason_98 ?_
      refine z_put X (pc := 99) 5 zk_9_3 (zc_9_3 E _) rfl inlX1 tyX1 tyX1_ok nmX1 (by decide) gw_242 rfl rfl (ty := .int) (by decide +kernel) rfl rfl (Nat.le_of_ble_eq_true rfl) dX10_beginSeason_99 rfl ?_
      refine z_gen (S9.pbk hJ43 (by decide)) (fun M_3 hS_4 => ?_)
      refine z_aload_n X (pc := 102) 1 dX10_beginSeason_102 rfl rfl ?_
      refine z_get X (pc := 103) 0 zk_17_0 (zc_17_0 E _) rfl inlX10 (by decide) gw_13 rfl rfl dX10_beginSeason_103 ?_
      refine z_get X (pc := 106) 1 zk_9_0 (zc_9_0 E _) rfl inlX9 (by decide) gw_226 rfl rfl dX10_beginSeason_106 ?_
      refine z_callV X (pc := 109) (rest := []) kv_X4_sitting (c_X4_sitting E M_3 (gu (seasG g) 14 5 (((seasG g) 14 5) + 1)) (And.left hS_4) nm (by rw [gu_ne (by decide), seasG_off (by decide)]; exact hnm) (by omega)) zk_9_2 (zc_9_2 E _) rfl rfl gw_324 (by decide) rfl rfl (Nat.le_of_ble_eq_true rfl) dX10_beginSeason_109 (zk_i ?_)
      exact z_iret X Y dX10_beginSeason_112 ⟨_, rfl, OX.of (g := (gu (seasG g) 14 5 (((seasG g) 14 5) + 1))) (rs := rs) (by simp [oSeason, seasG_off, hI.cNe, hI.mNe, gu_r, c13, (Nat.not_lt.mpr c13), c54, (Nat.not_lt.mpr c54)]) (CX.same hR hF1 hS_4)⟩
    · refine z_aload_n X (pc := 57) 1 dX10_beginSeason_57 rfl rfl ?_
      refine z_get X (pc := 58) 4 zk_17_0 (zc_17_0 E _) rfl inlX10 (by decide) gw_22 rfl rfl dX10_beginSeason_58 ?_
      refine z_iload_n X (pc := 61) 0 dX10_beginSeason_61 rfl rfl ?_
      refine z_callV X (pc := 62) (rest := []) kv_X0_sitterOf (c_X0_sitterOf_11 E M2 aT (SA_keep hA hJ43) j (by omega)) zk_11_0 (zc_11_0 E _) rfl rfl gw_316 (by decide) rfl rfl (Nat.le_of_ble_eq_true rfl) dX10_beginSeason_62 (zk_i ?_)
      refine z_top (y := (matS (leaveN g nm) nc nm j)) (matS_of (Fb_leave hI.fb) hD (by omega)) ?_
      refine z_istore_n X (pc := 65) (lv1 := [(2, .int (matS (leaveN g nm) nc nm j)), (1, .int (nI j)), (0, .ref (za E 17 0))]) dX10_beginSeason_65 rfl (by decide) rfl ?_
      refine z_iload_n X (pc := 66) 0 dX10_beginSeason_66 rfl rfl ?_
      refine z_iconst X (pc := 67) (v := (-1)) dX10_beginSeason_67 (by decide) ?_
      refine z_icmp_eq X (pc := 68) (tgt := 80) dX10_beginSeason_68 (by decide) (fun c68 => ?_) (fun c68 => ?_)
      · refine z_iinc X (pc := 80) (v := (nI (j + 1))) (lv1 := [(1, .int (nI (j + 1))), (2, .int (matS (leaveN g nm) nc nm j)), (0, .ref (za E 17 0))]) 1 dX10_beginSeason_80 rfl (nI_1 _) (by decide) rfl ?_
        refine z_goto X (pc := 83) (tgt := 43) dX10_beginSeason_83 (by decide) ?_
        refine z_sub (lv' := [(1, .int (nI (j + 1))), (0, .ref (za E 17 0))]) [0, 2] rfl ?_
        exact ih43 M2 (by omega) (by have h := hJ43; simpa [seatBy, c68] using h)
      · refine z_aload_n X (pc := 71) 2 dX10_beginSeason_71 rfl rfl ?_
        refine z_get X (pc := 72) 0 zk_17_0 (zc_17_0 E _) rfl inlX10 (by decide) gw_13 rfl rfl dX10_beginSeason_72 ?_
        refine z_iload_n X (pc := 75) 1 dX10_beginSeason_75 rfl rfl ?_
        refine z_iload_n X (pc := 76) 0 dX10_beginSeason_76 rfl rfl ?_
        obtain ⟨k77, hk77, hp77⟩ : ∃ k, k < nm ∧ matS (leaveN g nm) nc nm j = nI k := (matS_nor (Fb_leave hI.fb) hD (by omega)).resolve_left c68
        refine z_top (y := nI k77) hp77 ?_
        refine z_callV X (pc := 77) (rest := []) kv_X9_sit (c_X9_sit E M2 (seatBy (matS (leaveN g nm) nc nm) (leaveN g nm) j) (And.left hJ43) j k77 (show j < 10 by omega) (show k77 < 10 by omega)) zk_9_0 (zc_9_0 E _) rfl rfl gw_320 (by decide) rfl rfl (Nat.le_of_ble_eq_true rfl) dX10_beginSeason_77 (zk_rv (fun M_5 hS_6 => ?_))
        refine z_iinc X (pc := 80) (v := (nI (j + 1))) (lv1 := [(1, .int (nI (j + 1))), (2, .int (matS (leaveN g nm) nc nm j)), (0, .ref (za E 17 0))]) 1 dX10_beginSeason_80 rfl (nI_1 _) (by decide) rfl ?_
        refine z_goto X (pc := 83) (tgt := 43) dX10_beginSeason_83 (by decide) ?_
        refine z_sub (lv' := [(1, .int (nI (j + 1))), (0, .ref (za E 17 0))]) [0, 2] rfl ?_
        exact ih43 M_5 (by omega) (by have h := (hJ43.trans hS_6); simpa [seatBy, hp77, nI_ne_m1 (show k77 < 2 ^ 31 by omega), nI_clamp (show k77 < 2 ^ 31 by omega)] using h)
  · refine z_aload_n X (pc := 16) 1 dX10_beginSeason_16 rfl rfl ?_
    refine z_get X (pc := 17) 0 zk_17_0 (zc_17_0 E _) rfl inlX10 (by decide) gw_13 rfl rfl dX10_beginSeason_17 ?_
    refine z_iload_n X (pc := 20) 0 dX10_beginSeason_20 rfl rfl ?_
    refine z_callV X (pc := 21) (rest := []) kv_X9_leave (c_X9_leave E M1 (leaveN g i) (And.left hJ2) i (show i < 10 by omega) (by rw [leaveN_12, if_neg (by omega)]; exact (hI.nor12 (by omega)).le (by omega))) zk_9_0 (zc_9_0 E _) rfl rfl gw_243 (by decide) rfl rfl (Nat.le_of_ble_eq_true rfl) dX10_beginSeason_21 (zk_rv (fun M_7 hS_8 => ?_))
    refine z_iinc X (pc := 24) (v := (nI (i + 1))) (lv1 := [(1, .int (nI (i + 1))), (0, .ref (za E 17 0))]) 0 dX10_beginSeason_24 rfl (nI_1 _) (by decide) rfl ?_
    refine z_goto X (pc := 27) (tgt := 2) dX10_beginSeason_27 (by decide) ?_
    refine z_sub (lv' := [(1, .int (nI (i + 1))), (0, .ref (za E 17 0))]) [0, 1] rfl ?_
    exact ih2 M_7 (by omega) (hJ2.trans hS_8)

def rm_X10_sellCushion : Room := { frames := 3, cells := 0, slots := 0, locals := 66 }
theorem kv_X10_sellCushion : KV yX10_sellCushion RX10 cX10_sellCushion 6 (some .int) 1 := ⟨⟨gw_467, gw_468, gw_2, gw_469⟩, by decide +kernel⟩
set_option maxRecDepth 100000 in
set_option maxHeartbeats 4000000 in
theorem c_X10_sellCushion (E : ZE) (M : Mem) (g : LG) (hg : gX (M 9) = g) (nc nm n : Nat) (hI : Inv g nc nm n) (rs : Rs) (hR : RSn M rs) (v : Int32) : Mt E yX10_sellCushion cX10_sellCushion 6 (some .int) rm_X10_sellCushion [.ref (za E 17 0), .int v] M (RI (fun v1 M1 => OX M (oSell g rs v) v1 M1)) := by
  have hnc := hI.nc; have hnm := hI.nm; have hn := hI.c10; have hn2 := hI.m10
  refine z_met (own := RX10) (lv := [(0, .ref (za E 17 0)), (1, .int v)]) (by decide) rfl (Nat.le_of_ble_eq_true rfl) rfl (fun gg X Y => ?_)
  refine z_iload_n X (pc := 0) 1 dX10_sellCushion_0 rfl rfl ?_
  refine z_iconst X (pc := 1) (v := 1) dX10_sellCushion_1 (by decide) ?_
  refine z_bipush X (pc := 2) (v := 9) dX10_sellCushion_2 (by decide) ?_
  refine z_callS X (pc := 4) (rest := []) ks_X10_isWithin (c_X10_isWithin E M v 1 9) gw_187 (by decide) rfl rfl (Nat.le_of_ble_eq_true rfl) dX10_sellCushion_4 (zk_i ?_)
  refine z_bif_ne X (pc := 7) (tgt := 14) dX10_sellCushion_7 (by decide) (fun c7 => ?_) (fun c7 => ?_)
  · refine z_aload_n X (pc := 14) 0 dX10_sellCushion_14 rfl rfl ?_
    refine z_get X (pc := 15) 0 zk_17_0 (zc_17_0 E _) rfl inlX10 (by decide) gw_13 rfl rfl dX10_sellCushion_15 ?_
    refine z_get X (pc := 18) 1 zk_9_0 (zc_9_0 E _) rfl inlX9 (by decide) gw_226 rfl rfl dX10_sellCushion_18 ?_
    refine z_astore_n X (pc := 21) (lv1 := [(2, .ref (za E 9 2)), (0, .ref (za E 17 0)), (1, .int v)]) dX10_sellCushion_21 rfl (by decide) rfl ?_
    refine z_aload_n X (pc := 22) 0 dX10_sellCushion_22 rfl rfl ?_
    refine z_iconst X (pc := 23) (v := (-1)) dX10_sellCushion_23 (by decide) ?_
    refine z_callV X (pc := 24) (rest := []) kv_X4_highestBidder (c_X4_highestBidder E M g (And.left (S9.rf hg)) nm hnm (by omega) ((-1))) zk_9_2 (zc_9_2 E _) rfl rfl gw_470 (by decide) rfl rfl (Nat.le_of_ble_eq_true rfl) dX10_sellCushion_24 (zk_i ?_)
    refine z_istore_n X (pc := 27) (lv1 := [(3, .int ((highB g ((-1)) nm).1)), (2, .ref (za E 9 2)), (0, .ref (za E 17 0)), (1, .int v)]) dX10_sellCushion_27 rfl (by decide) rfl ?_
    refine z_iload_n X (pc := 28) 0 dX10_sellCushion_28 rfl rfl ?_
    refine z_iconst X (pc := 29) (v := (-1)) dX10_sellCushion_29 (by decide) ?_
    refine z_icmp_ne X (pc := 30) (tgt := 44) dX10_sellCushion_30 (by decide) (fun c30 => ?_) (fun c30 => ?_)
    · obtain ⟨b, hb, hpb, -, hbz, -⟩ := (highB_spec (g := g) (but := -1) (n := nm) (fun m hm => (hI.mu m hm).2.2.2.2.1)).resolve_left (fun q => c30 (by rw [q.1]))
      have hp1 : (highB g (-1) nm).1 = nI b := by rw [hpb]
      have hbu : buyer g = nI b := by unfold buyer; rw [hI.mNe]; exact hp1
      obtain ⟨kc, hkc, hpc⟩ : ∃ k, k < nc ∧ g 12 b = nI k := (hI.nor12 hb).resolve_left (fun q => hbz ((hI.mu b hb).2.2.2.2.2.2.1 q))
      refine z_eq (lv' := [(3, .int (nI b)), (2, .ref (za E 9 2)), (0, .ref (za E 17 0)), (1, .int v)]) (by rw [hp1]) rfl ?_
      refine z_aload_n X (pc := 44) 1 dX10_sellCushion_44 rfl rfl ?_
      refine z_iload_n X (pc := 45) 0 dX10_sellCushion_45 rfl rfl ?_
      refine z_callV X (pc := 46) (rest := []) kv_X4_highestBidder (c_X4_highestBidder E M g (And.left (S9.rf hg)) nm hnm (by omega) (nI b)) zk_9_2 (zc_9_2 E _) rfl rfl gw_470 (by decide) rfl rfl (Nat.le_of_ble_eq_true rfl) dX10_sellCushion_46 (zk_i ?_)
      refine z_istore X (pc := 49) (lv1 := [(4, .int ((highB g (nI b) nm).1)), (3, .int (nI b)), (2, .ref (za E 9 2)), (0, .ref (za E 17 0)), (1, .int v)]) dX10_sellCushion_49 (by decide) rfl ?_
      refine z_iload X (pc := 51) 0 dX10_sellCushion_51 rfl ?_
      refine z_iconst X (pc := 53) (v := (-1)) dX10_sellCushion_53 (by decide) ?_
      refine z_icmp_ne X (pc := 54) (tgt := 61) dX10_sellCushion_54 (by decide) (fun c54 => ?_) (fun c54 => ?_)
      · refine z_aload_n X (pc := 61) 2 dX10_sellCushion_61 rfl rfl ?_
        refine z_get X (pc := 62) 5 zk_9_2 (zc_9_2 E _) rfl inlX4 (by decide) gw_342 rfl rfl dX10_sellCushion_62 ?_
        refine z_iload X (pc := 65) 0 dX10_sellCushion_65 rfl ?_
        obtain ⟨k67, hk67, hp67⟩ : ∃ k, k < nm ∧ (highB g (nI b) nm).1 = nI k := highB_no.resolve_left c54
        refine z_top (y := nI k67) hp67 ?_
        refine z_callV X (pc := 67) (rest := []) kv_X7_at (c_X7_at E M 9 26 k67 (by decide) (by decide) (show k67 < 10 by omega)) zk_9_26 (zc_9_26 E _) rfl rfl gw_348 (by decide) rfl rfl (Nat.le_of_ble_eq_true rfl) dX10_sellCushion_67 (zk_i ?_)
        refine z_top (y := (g 11 k67)) (S9.row 11 (S9.rf hg) rfl (by decide) (show k67 < 10 by omega)) ?_
        refine z_top (y := (price g)) (by unfold price nextB; rw [hI.mNe, hbu, if_neg c54, hp67, nI_clamp (by omega)]) ?_
        refine z_istore X (pc := 70) (lv1 := [(5, .int (price g)), (4, .int ((highB g (nI b) nm).1)), (3, .int (nI b)), (2, .ref (za E 9 2)), (0, .ref (za E 17 0)), (1, .int v)]) dX10_sellCushion_70 (by decide) rfl ?_
        refine z_aload_n X (pc := 72) 3 dX10_sellCushion_72 rfl rfl ?_
        refine z_get X (pc := 73) 4 zk_9_2 (zc_9_2 E _) rfl inlX4 (by decide) gw_341 rfl rfl dX10_sellCushion_73 ?_
        refine z_iload_n X (pc := 76) 2 dX10_sellCushion_76 rfl rfl ?_
        refine z_iload X (pc := 77) 0 dX10_sellCushion_77 rfl ?_
        refine z_ineg X (pc := 79) dX10_sellCushion_79 ?_
        refine z_callV X (pc := 80) (rest := []) kv_X7_more (c_X7_more E M 9 24 b (-(price g)) (by decide) (by decide) (show b < 10 by omega)) zk_9_24 (zc_9_24 E _) rfl rfl gw_474 (by decide) rfl rfl (Nat.le_of_ble_eq_true rfl) dX10_sellCushion_80 (zk_v ?_)
        refine z_gen (S9.more 10 (S9.rf hg) rfl (by decide) (show b < 10 by omega)) (fun M_1 hS_2 => ?_)
        refine z_aload_n X (pc := 83) 4 dX10_sellCushion_83 rfl rfl ?_
        refine z_get X (pc := 84) 0 zk_17_0 (zc_17_0 E _) rfl inlX10 (by decide) gw_13 rfl rfl dX10_sellCushion_84 ?_
        refine z_get X (pc := 87) 2 zk_9_0 (zc_9_0 E _) rfl inlX9 (by decide) gw_241 rfl rfl dX10_sellCushion_87 ?_
        refine z_dup X (pc := 90) dX10_sellCushion_90 rfl ?_
        refine z_get X (pc := 91) 0 zk_9_3 (zc_9_3 E _) rfl inlX1 (by decide) gw_360 rfl rfl dX10_sellCushion_91 ?_
        refine z_top (y := ((gu g 10 b (g 10 b + (-(price g)))) 14 0)) (S9.bk hS_2 (by decide)) ?_
        refine z_iload X (pc := 94) 0 dX10_sellCushion_94 rfl ?_
        refine z_iadd X (pc := 96) dX10_sellCushion_96 ?_
        refine z_put X (pc := 97) 0 zk_9_3 (zc_9_3 E _) rfl inlX1 tyX1 tyX1_ok nmX1 (by decide) gw_360 rfl rfl (ty := .int) (by decide +kernel) rfl rfl (Nat.le_of_ble_eq_true rfl) dX10_sellCushion_97 rfl ?_
        refine z_gen (S9.pbk hS_2 (by decide)) (fun M_3 hS_4 => ?_)
        refine z_aload_n X (pc := 100) 4 dX10_sellCushion_100 rfl rfl ?_
        refine z_get X (pc := 101) 0 zk_17_0 (zc_17_0 E _) rfl inlX10 (by decide) gw_13 rfl rfl dX10_sellCushion_101 ?_
        refine z_get X (pc := 104) 0 zk_9_0 (zc_9_0 E _) rfl inlX9 (by decide) gw_185 rfl rfl dX10_sellCushion_104 ?_
        refine z_get X (pc := 107) 3 zk_9_1 (zc_9_1 E _) rfl inlX2 (by decide) gw_391 rfl rfl dX10_sellCushion_107 ?_
        refine z_aload_n X (pc := 110) 3 dX10_sellCushion_110 rfl rfl ?_
        refine z_get X (pc := 111) 6 zk_9_2 (zc_9_2 E _) rfl inlX4 (by decide) gw_411 rfl rfl dX10_sellCushion_111 ?_
        refine z_iload_n X (pc := 114) 2 dX10_sellCushion_114 rfl rfl ?_
        refine z_callV X (pc := 115) (rest := [.ref (za E 9 8)]) kv_X7_at (c_X7_at E M_3 9 28 b (by decide) (by decide) (show b < 10 by omega)) zk_9_28 (zc_9_28 E _) rfl rfl gw_348 (by decide) rfl rfl (Nat.le_of_ble_eq_true rfl) dX10_sellCushion_115 (zk_i ?_)
        refine z_top (y := ((gu (gu g 10 b (g 10 b + (-(price g)))) 14 0 (((gu g 10 b (g 10 b + (-(price g)))) 14 0) + (price g))) 12 b)) (S9.row 12 hS_4 rfl (by decide) (show b < 10 by omega)) ?_
        refine z_top (y := (nI kc)) (by simp [gu_r, hpc]) ?_
        refine z_iload_n X (pc := 118) 5 dX10_sellCushion_118 rfl rfl ?_
        refine z_callV X (pc := 119) (rest := []) kv_X7_put (c_X7_put E M_3 9 8 kc v (by decide) (by decide) (show kc < 10 by omega)) zk_9_8 (zc_9_8 E _) rfl rfl gw_349 (by decide) rfl rfl (Nat.le_of_ble_eq_true rfl) dX10_sellCushion_119 (zk_v ?_)
        refine z_gen (S9.put 2 hS_4 rfl (by decide) (show kc < 10 by omega)) (fun M_5 hS_6 => ?_)
        refine z_aload_n X (pc := 122) 3 dX10_sellCushion_122 rfl rfl ?_
        refine z_callV X (pc := 123) (rest := []) kv_X4_forgetBids (c_X4_forgetBids E M_5 (gu (gu (gu g 10 b (g 10 b + (-(price g)))) 14 0 (((gu g 10 b (g 10 b + (-(price g)))) 14 0) + (price g))) 2 kc v) (And.left hS_6) nm (by simp [gu_r, hnm]) (by omega)) zk_9_2 (zc_9_2 E _) rfl rfl gw_478 (by decide) rfl rfl (Nat.le_of_ble_eq_true rfl) dX10_sellCushion_123 (zk_rv (fun M_7 hS_8 => ?_))
        refine z_aload_n X (pc := 126) 4 dX10_sellCushion_126 rfl rfl ?_
        refine z_get X (pc := 127) 0 zk_17_0 (zc_17_0 E _) rfl inlX10 (by decide) gw_13 rfl rfl dX10_sellCushion_127 ?_
        refine z_get X (pc := 130) 2 zk_9_0 (zc_9_0 E _) rfl inlX9 (by decide) gw_241 rfl rfl dX10_sellCushion_130 ?_
        refine z_dup X (pc := 133) dX10_sellCushion_133 rfl ?_
        refine z_get X (pc := 134) 6 zk_9_3 (zc_9_3 E _) rfl inlX1 (by decide) gw_365 rfl rfl dX10_sellCushion_134 ?_
        refine z_top (y := ((noBids (gu (gu (gu g 10 b (g 10 b + (-(price g)))) 14 0 (((gu g 10 b (g 10 b + (-(price g)))) 14 0) + (price g))) 2 kc v) nm) 14 6)) (S9.bk (hS_6.trans hS_8) (by decide)) ?_
        refine z_iconst X (pc := 137) (v := 1) dX10_sellCushion_137 (by decide) ?_
        refine z_iadd X (pc := 138) dX10_sellCushion_138 ?_
        refine z_put X (pc := 139) 6 zk_9_3 (zc_9_3 E _) rfl inlX1 tyX1 tyX1_ok nmX1 (by decide) gw_365 rfl rfl (ty := .int) (by decide +kernel) rfl rfl (Nat.le_of_ble_eq_true rfl) dX10_sellCushion_139 rfl ?_
        refine z_gen (S9.pbk (hS_6.trans hS_8) (by decide)) (fun M_9 hS_10 => ?_)
        refine z_iload X (pc := 142) 0 dX10_sellCushion_142 rfl ?_
        exact z_iret X Y dX10_sellCushion_144 ⟨_, rfl, OX.of (g := (gu (noBids (gu (gu (gu g 10 b (g 10 b + (-(price g)))) 14 0 (((gu g 10 b (g 10 b + (-(price g)))) 14 0) + (price g))) 2 kc v) nm) 14 6 (((noBids (gu (gu (gu g 10 b (g 10 b + (-(price g)))) 14 0 (((gu g 10 b (g 10 b + (-(price g)))) 14 0) + (price g))) 2 kc v) nm) 14 6) + 1))) (rs := rs) (by simp [oSell, nSit, noBids_off, sellG_eq hI hbu (show b < 2 ^ 31 by omega) hpc (show kc < 2 ^ 31 by omega), hbu, nI_ne_m1 (show b < 2 ^ 31 by omega), hI.cNe, hI.mNe, gu_r, c7, c30, c54]) (CX.same hR FY.rf hS_10)⟩
      · refine z_iconst X (pc := 57) (v := 0) dX10_sellCushion_57 (by decide) ?_
        refine z_goto X (pc := 58) (tgt := 70) dX10_sellCushion_58 (by decide) ?_
        refine z_top (y := (price g)) (by unfold price nextB; rw [hI.mNe, hbu, if_pos c54]) ?_
        refine z_istore X (pc := 70) (lv1 := [(5, .int (price g)), (4, .int ((highB g (nI b) nm).1)), (3, .int (nI b)), (2, .ref (za E 9 2)), (0, .ref (za E 17 0)), (1, .int v)]) dX10_sellCushion_70 (by decide) rfl ?_
        refine z_aload_n X (pc := 72) 3 dX10_sellCushion_72 rfl rfl ?_
        refine z_get X (pc := 73) 4 zk_9_2 (zc_9_2 E _) rfl inlX4 (by decide) gw_341 rfl rfl dX10_sellCushion_73 ?_
        refine z_iload_n X (pc := 76) 2 dX10_sellCushion_76 rfl rfl ?_
        refine z_iload X (pc := 77) 0 dX10_sellCushion_77 rfl ?_
        refine z_ineg X (pc := 79) dX10_sellCushion_79 ?_
        refine z_callV X (pc := 80) (rest := []) kv_X7_more (c_X7_more E M 9 24 b (-(price g)) (by decide) (by decide) (show b < 10 by omega)) zk_9_24 (zc_9_24 E _) rfl rfl gw_474 (by decide) rfl rfl (Nat.le_of_ble_eq_true rfl) dX10_sellCushion_80 (zk_v ?_)
        refine z_gen (S9.more 10 (S9.rf hg) rfl (by decide) (show b < 10 by omega)) (fun M_11 hS_12 => ?_)
        refine z_aload_n X (pc := 83) 4 dX10_sellCushion_83 rfl rfl ?_
        refine z_get X (pc := 84) 0 zk_17_0 (zc_17_0 E _) rfl inlX10 (by decide) gw_13 rfl rfl dX10_sellCushion_84 ?_
        refine z_get X (pc := 87) 2 zk_9_0 (zc_9_0 E _) rfl inlX9 (by decide) gw_241 rfl rfl dX10_sellCushion_87 ?_
        refine z_dup X (pc := 90) dX10_sellCushion_90 rfl ?_
        refine z_get X (pc := 91) 0 zk_9_3 (zc_9_3 E _) rfl inlX1 (by decide) gw_360 rfl rfl dX10_sellCushion_91 ?_
        refine z_top (y := ((gu g 10 b (g 10 b + (-(price g)))) 14 0)) (S9.bk hS_12 (by decide)) ?_
        refine z_iload X (pc := 94) 0 dX10_sellCushion_94 rfl ?_
        refine z_iadd X (pc := 96) dX10_sellCushion_96 ?_
        refine z_put X (pc := 97) 0 zk_9_3 (zc_9_3 E _) rfl inlX1 tyX1 tyX1_ok nmX1 (by decide) gw_360 rfl rfl (ty := .int) (by decide +kernel) rfl rfl (Nat.le_of_ble_eq_true rfl) dX10_sellCushion_97 rfl ?_
        refine z_gen (S9.pbk hS_12 (by decide)) (fun M_13 hS_14 => ?_)
        refine z_aload_n X (pc := 100) 4 dX10_sellCushion_100 rfl rfl ?_
        refine z_get X (pc := 101) 0 zk_17_0 (zc_17_0 E _) rfl inlX10 (by decide) gw_13 rfl rfl dX10_sellCushion_101 ?_
        refine z_get X (pc := 104) 0 zk_9_0 (zc_9_0 E _) rfl inlX9 (by decide) gw_185 rfl rfl dX10_sellCushion_104 ?_
        refine z_get X (pc := 107) 3 zk_9_1 (zc_9_1 E _) rfl inlX2 (by decide) gw_391 rfl rfl dX10_sellCushion_107 ?_
        refine z_aload_n X (pc := 110) 3 dX10_sellCushion_110 rfl rfl ?_
        refine z_get X (pc := 111) 6 zk_9_2 (zc_9_2 E _) rfl inlX4 (by decide) gw_411 rfl rfl dX10_sellCushion_111 ?_
        refine z_iload_n X (pc := 114) 2 dX10_sellCushion_114 rfl rfl ?_
        refine z_callV X (pc := 115) (rest := [.ref (za E 9 8)]) kv_X7_at (c_X7_at E M_13 9 28 b (by decide) (by decide) (show b < 10 by omega)) zk_9_28 (zc_9_28 E _) rfl rfl gw_348 (by decide) rfl rfl (Nat.le_of_ble_eq_true rfl) dX10_sellCushion_115 (zk_i ?_)
        refine z_top (y := ((gu (gu g 10 b (g 10 b + (-(price g)))) 14 0 (((gu g 10 b (g 10 b + (-(price g)))) 14 0) + (price g))) 12 b)) (S9.row 12 hS_14 rfl (by decide) (show b < 10 by omega)) ?_
        refine z_top (y := (nI kc)) (by simp [gu_r, hpc]) ?_
        refine z_iload_n X (pc := 118) 5 dX10_sellCushion_118 rfl rfl ?_
        refine z_callV X (pc := 119) (rest := []) kv_X7_put (c_X7_put E M_13 9 8 kc v (by decide) (by decide) (show kc < 10 by omega)) zk_9_8 (zc_9_8 E _) rfl rfl gw_349 (by decide) rfl rfl (Nat.le_of_ble_eq_true rfl) dX10_sellCushion_119 (zk_v ?_)
        refine z_gen (S9.put 2 hS_14 rfl (by decide) (show kc < 10 by omega)) (fun M_15 hS_16 => ?_)
        refine z_aload_n X (pc := 122) 3 dX10_sellCushion_122 rfl rfl ?_
        refine z_callV X (pc := 123) (rest := []) kv_X4_forgetBids (c_X4_forgetBids E M_15 (gu (gu (gu g 10 b (g 10 b + (-(price g)))) 14 0 (((gu g 10 b (g 10 b + (-(price g)))) 14 0) + (price g))) 2 kc v) (And.left hS_16) nm (by simp [gu_r, hnm]) (by omega)) zk_9_2 (zc_9_2 E _) rfl rfl gw_478 (by decide) rfl rfl (Nat.le_of_ble_eq_true rfl) dX10_sellCushion_123 (zk_rv (fun M_17 hS_18 => ?_))
        refine z_aload_n X (pc := 126) 4 dX10_sellCushion_126 rfl rfl ?_
        refine z_get X (pc := 127) 0 zk_17_0 (zc_17_0 E _) rfl inlX10 (by decide) gw_13 rfl rfl dX10_sellCushion_127 ?_
        refine z_get X (pc := 130) 2 zk_9_0 (zc_9_0 E _) rfl inlX9 (by decide) gw_241 rfl rfl dX10_sellCushion_130 ?_
        refine z_dup X (pc := 133) dX10_sellCushion_133 rfl ?_
        refine z_get X (pc := 134) 6 zk_9_3 (zc_9_3 E _) rfl inlX1 (by decide) gw_365 rfl rfl dX10_sellCushion_134 ?_
        refine z_top (y := ((noBids (gu (gu (gu g 10 b (g 10 b + (-(price g)))) 14 0 (((gu g 10 b (g 10 b + (-(price g)))) 14 0) + (price g))) 2 kc v) nm) 14 6)) (S9.bk (hS_16.trans hS_18) (by decide)) ?_
        refine z_iconst X (pc := 137) (v := 1) dX10_sellCushion_137 (by decide) ?_
        refine z_iadd X (pc := 138) dX10_sellCushion_138 ?_
        refine z_put X (pc := 139) 6 zk_9_3 (zc_9_3 E _) rfl inlX1 tyX1 tyX1_ok nmX1 (by decide) gw_365 rfl rfl (ty := .int) (by decide +kernel) rfl rfl (Nat.le_of_ble_eq_true rfl) dX10_sellCushion_139 rfl ?_
        refine z_gen (S9.pbk (hS_16.trans hS_18) (by decide)) (fun M_19 hS_20 => ?_)
        refine z_iload X (pc := 142) 0 dX10_sellCushion_142 rfl ?_
        exact z_iret X Y dX10_sellCushion_144 ⟨_, rfl, OX.of (g := (gu (noBids (gu (gu (gu g 10 b (g 10 b + (-(price g)))) 14 0 (((gu g 10 b (g 10 b + (-(price g)))) 14 0) + (price g))) 2 kc v) nm) 14 6 (((noBids (gu (gu (gu g 10 b (g 10 b + (-(price g)))) 14 0 (((gu g 10 b (g 10 b + (-(price g)))) 14 0) + (price g))) 2 kc v) nm) 14 6) + 1))) (rs := rs) (by simp [oSell, nSit, noBids_off, sellG_eq hI hbu (show b < 2 ^ 31 by omega) hpc (show kc < 2 ^ 31 by omega), hbu, nI_ne_m1 (show b < 2 ^ 31 by omega), hI.cNe, hI.mNe, gu_r, c7, c30, c54]) (CX.same hR FY.rf hS_20)⟩
    · refine z_aload_n X (pc := 33) 2 dX10_sellCushion_33 rfl rfl ?_
      refine z_bipush X (pc := 34) (v := 10) dX10_sellCushion_34 (by decide) ?_
      refine z_aload_n X (pc := 36) 1 dX10_sellCushion_36 rfl rfl ?_
      refine z_callV X (pc := 37) (rest := [.int 10, .ref (za E 17 0)]) kv_X4_sitting (c_X4_sitting E M g (And.left (S9.rf hg)) nm hnm (by omega)) zk_9_2 (zc_9_2 E _) rfl rfl gw_324 (by decide) rfl rfl (Nat.le_of_ble_eq_true rfl) dX10_sellCushion_37 (zk_i ?_)
      refine z_callV X (pc := 40) (rest := []) kv_X10_refused (c_X10_refused E M 10 (nI (cntB (sits g) nm))) zk_17_0 (zc_17_0 E _) rfl rfl gw_190 (by decide) rfl rfl (Nat.le_of_ble_eq_true rfl) dX10_sellCushion_40 (zk_ri (fun v_23 M_21 h_22 => ?_))
      refine z_top (y := ((-1014))) h_22.1 ?_
      exact z_iret X Y dX10_sellCushion_43 ⟨_, rfl, OX.of (g := g) (rs := [(10, (nI (cntB (sits g) nm)))]) (by simp [oSell, nSit, buyer, hI.cNe, hI.mNe, gu_r, c7, c30]) (CX.refuse FY.rf (S9.rf hg) h_22.2)⟩
  · refine z_sipush X (pc := 10) (v := (-1012)) dX10_sellCushion_10 (by decide) ?_
    exact z_iret X Y dX10_sellCushion_13 ⟨_, rfl, OX.of (g := g) (rs := rs) (by simp [oSell, nSit, buyer, hI.cNe, hI.mNe, gu_r, c7]) (CX.same hR FY.rf (S9.rf hg))⟩

def rm_X10_giveConcert : Room := { frames := 4, cells := 0, slots := 0, locals := 87 }
theorem kv_X10_giveConcert : KV yX10_giveConcert RX10 cX10_giveConcert 4 (some .int) 1 := ⟨⟨gw_487, gw_488, gw_2, gw_489⟩, by decide +kernel⟩
set_option maxRecDepth 100000 in
set_option maxHeartbeats 4000000 in
theorem c_X10_giveConcert (E : ZE) (M : Mem) (g : LG) (hg : gX (M 9) = g) (nc nm n : Nat) (hI : Inv g nc nm n) (rs : Rs) (hR : RSn M rs) (v : Int32) : Mt E yX10_giveConcert cX10_giveConcert 4 (some .int) rm_X10_giveConcert [.ref (za E 17 0), .int v] M (RI (fun v1 M1 => OX M (oConcert g rs v) v1 M1)) := by
  have hnc := hI.nc; have hnm := hI.nm; have hn := hI.c10; have hn2 := hI.m10; have hcs := cntB_le (sits g) nm
  refine z_met (own := RX10) (lv := [(0, .ref (za E 17 0)), (1, .int v)]) (by decide) rfl (Nat.le_of_ble_eq_true rfl) rfl (fun gg X Y => ?_)
  refine z_iload_n X (pc := 0) 1 dX10_giveConcert_0 rfl rfl ?_
  refine z_iconst X (pc := 1) (v := 1) dX10_giveConcert_1 (by decide) ?_
  refine z_iconst X (pc := 2) (v := 4) dX10_giveConcert_2 (by decide) ?_
  refine z_callS X (pc := 3) (rest := []) ks_X10_isWithin (c_X10_isWithin E M v 1 4) gw_187 (by decide) rfl rfl (Nat.le_of_ble_eq_true rfl) dX10_giveConcert_3 (zk_i ?_)
  refine z_bif_ne X (pc := 6) (tgt := 13) dX10_giveConcert_6 (by decide) (fun c6 => ?_) (fun c6 => ?_)
  · refine z_aload_n X (pc := 13) 0 dX10_giveConcert_13 rfl rfl ?_
    refine z_get X (pc := 14) 0 zk_17_0 (zc_17_0 E _) rfl inlX10 (by decide) gw_13 rfl rfl dX10_giveConcert_14 ?_
    refine z_get X (pc := 17) 1 zk_9_0 (zc_9_0 E _) rfl inlX9 (by decide) gw_226 rfl rfl dX10_giveConcert_17 ?_
    refine z_callV X (pc := 20) (rest := []) kv_X4_sitting (c_X4_sitting E M g (And.left (S9.rf hg)) nm hnm (by omega)) zk_9_2 (zc_9_2 E _) rfl rfl gw_324 (by decide) rfl rfl (Nat.le_of_ble_eq_true rfl) dX10_giveConcert_20 (zk_i ?_)
    refine z_nif_ne X (pc := 23) (tgt := 43) dX10_giveConcert_23 (by decide) (by omega) (fun c23 => ?_) (fun c23 => ?_)
    · refine z_iconst X (pc := 43) (v := 0) dX10_giveConcert_43 (by decide) ?_
      refine z_istore_n X (pc := 44) (lv1 := [(2, .int 0), (0, .ref (za E 17 0)), (1, .int v)]) dX10_giveConcert_44 rfl (by decide) rfl ?_
      refine z_iconst X (pc := 45) (v := 0) dX10_giveConcert_45 (by decide) ?_
      refine z_istore_n X (pc := 46) (lv1 := [(3, .int 0), (2, .int 0), (0, .ref (za E 17 0)), (1, .int v)]) dX10_giveConcert_46 rfl (by decide) rfl ?_
      refine z_sub (lv' := [(3, .int (nI 0)), (2, .int ((conC g v 0).2)), (0, .ref (za E 17 0)), (1, .int v)]) [0, 1, 2, 3] rfl ?_
      refine z_loop (nc) 47 (σ := Mem) (fun i s => S9 M (conC g v i).1 s) (fun i s => (s, [(3, .int (nI i)), (2, .int ((conC g v i).2)), (0, .ref (za E 17 0)), (1, .int v)])) ?_ 0 M (Nat.zero_le _) (S9.rf hg)
      intro i s hi47 hJ47 ih47
      obtain ⟨M1, rfl⟩ : ∃ z, z = s := ⟨s, rfl⟩
      show Z gg E M1 [(3, .int (nI i)), (2, .int ((conC g v i).2)), (0, .ref (za E 17 0)), (1, .int v)] 47 []
      replace hJ47 : S9 M (conC g v i).1 M1 := hJ47
      refine z_iload_n X (pc := 47) 0 dX10_giveConcert_47 rfl rfl ?_
      refine z_aload_n X (pc := 48) 2 dX10_giveConcert_48 rfl rfl ?_
      refine z_get X (pc := 49) 0 zk_17_0 (zc_17_0 E _) rfl inlX10 (by decide) gw_13 rfl rfl dX10_giveConcert_49 ?_
      refine z_get X (pc := 52) 0 zk_9_0 (zc_9_0 E _) rfl inlX9 (by decide) gw_185 rfl rfl dX10_giveConcert_52 ?_
      refine z_get X (pc := 55) 0 zk_9_1 (zc_9_1 E _) rfl inlX2 (by decide) gw_186 rfl rfl dX10_giveConcert_55 ?_
      refine z_top (y := (nI nc)) ((S9.cc hJ47).trans ((conC_14 (by decide)).trans hnc)) ?_
      refine z_nicmp_ge X (pc := 58) (a := i) (b := nc) (tgt := 101) dX10_giveConcert_58 (by decide) (by omega) (by omega) (fun c58 => ?_) (fun c58 => ?_)
      · obtain rfl : nc = i := by omega
        refine z_aload_n X (pc := 101) 2 dX10_giveConcert_101 rfl rfl ?_
        refine z_get X (pc := 102) 0 zk_17_0 (zc_17_0 E _) rfl inlX10 (by decide) gw_13 rfl rfl dX10_giveConcert_102 ?_
        refine z_get X (pc := 105) 2 zk_9_0 (zc_9_0 E _) rfl inlX9 (by decide) gw_241 rfl rfl dX10_giveConcert_105 ?_
        refine z_dup X (pc := 108) dX10_giveConcert_108 rfl ?_
        refine z_get X (pc := 109) 4 zk_9_3 (zc_9_3 E _) rfl inlX1 (by decide) gw_364 rfl rfl dX10_giveConcert_109 ?_
        refine z_top (y := ((conC g v nc).1 14 4)) (S9.bk hJ47 (by decide)) ?_
        refine z_iconst X (pc := 112) (v := 1) dX10_giveConcert_112 (by decide) ?_
        refine z_iadd X (pc := 113) dX10_giveConcert_113 ?_
        refine z_put X (pc := 114) 4 zk_9_3 (zc_9_3 E _) rfl inlX1 tyX1 tyX1_ok nmX1 (by decide) gw_364 rfl rfl (ty := .int) (by decide +kernel) rfl rfl (Nat.le_of_ble_eq_true rfl) dX10_giveConcert_114 rfl ?_
        refine z_gen (S9.pbk hJ47 (by decide)) (fun M_1 hS_2 => ?_)
        refine z_iload_n X (pc := 117) 1 dX10_giveConcert_117 rfl rfl ?_
        exact z_iret X Y dX10_giveConcert_118 ⟨_, rfl, OX.of (g := (gu (conC g v nc).1 14 4 (((conC g v nc).1 14 4) + 1))) (rs := rs) (by simp [oConcert, conC_14, hI.cNe, hI.mNe, gu_r, c6, c23, c58, (Nat.not_lt.mpr c58)]) (CX.same hR FY.rf hS_2)⟩
      · refine z_aload_n X (pc := 61) 2 dX10_giveConcert_61 rfl rfl ?_
        refine z_get X (pc := 62) 0 zk_17_0 (zc_17_0 E _) rfl inlX10 (by decide) gw_13 rfl rfl dX10_giveConcert_62 ?_
        refine z_get X (pc := 65) 0 zk_9_0 (zc_9_0 E _) rfl inlX9 (by decide) gw_185 rfl rfl dX10_giveConcert_65 ?_
        refine z_iload_n X (pc := 68) 0 dX10_giveConcert_68 rfl rfl ?_
        refine z_callV X (pc := 69) (rest := []) kv_X2_isTaken (c_X2_isTaken E M1 (conC g v i).1 (And.left hJ47)  i (show i < 10 by omega)) zk_9_1 (zc_9_1 E _) rfl rfl gw_443 (by decide) rfl rfl (Nat.le_of_ble_eq_true rfl) dX10_giveConcert_69 (zk_i ?_)
        refine z_bif_eq X (pc := 72) (tgt := 95) dX10_giveConcert_72 (by decide) (fun c72 => ?_) (fun c72 => ?_)
        · refine z_iinc X (pc := 95) (v := (nI (i + 1))) (lv1 := [(3, .int (nI (i + 1))), (2, .int ((conC g v i).2)), (0, .ref (za E 17 0)), (1, .int v)]) 0 dX10_giveConcert_95 rfl (nI_1 _) (by decide) rfl ?_
          refine z_goto X (pc := 98) (tgt := 47) dX10_giveConcert_98 (by decide) ?_
          refine z_sub (lv' := [(3, .int (nI (i + 1))), (2, .int ((conC g v i).2)), (0, .ref (za E 17 0)), (1, .int v)]) [0, 1, 2, 3] rfl ?_
          refine z_eq (lv' := [(3, .int (nI (i + 1))), (2, .int ((conC g v (i + 1)).2)), (0, .ref (za E 17 0)), (1, .int v)]) (by simp [conC, c72]) rfl ?_
          exact ih47 M1 (by omega) (by have h := hJ47; simpa [conC, c72] using h)
        · obtain ⟨m, hm, hw, hp⟩ := conC_taken (w := v) hI (show i < nc by omega) c72
          refine z_iload_n X (pc := 75) 1 dX10_giveConcert_75 rfl rfl ?_
          refine z_aload_n X (pc := 76) 2 dX10_giveConcert_76 rfl rfl ?_
          refine z_get X (pc := 77) 0 zk_17_0 (zc_17_0 E _) rfl inlX10 (by decide) gw_13 rfl rfl dX10_giveConcert_77 ?_
          refine z_iload_n X (pc := 80) 0 dX10_giveConcert_80 rfl rfl ?_
          refine z_callV X (pc := 81) (rest := [.int ((conC g v i).2)]) kv_X9_play (c_X9_play E M1 (conC g v i).1 (And.left hJ47) i m (by omega) (by omega) hw) zk_9_0 (zc_9_0 E _) rfl rfl gw_490 (by decide) rfl rfl (Nat.le_of_ble_eq_true rfl) dX10_giveConcert_81 (zk_ri (fun v_5 M_3 h_4 => ?_))
          refine z_top (y := (fit (conC g v i).1 i m)) h_4.1 ?_
          refine z_iadd X (pc := 84) dX10_giveConcert_84 ?_
          refine z_istore_n X (pc := 85) (lv1 := [(2, .int (((conC g v i).2) + (fit (conC g v i).1 i m))), (3, .int (nI i)), (0, .ref (za E 17 0)), (1, .int v)]) dX10_giveConcert_85 rfl (by decide) rfl ?_
          refine z_aload_n X (pc := 86) 2 dX10_giveConcert_86 rfl rfl ?_
          refine z_get X (pc := 87) 0 zk_17_0 (zc_17_0 E _) rfl inlX10 (by decide) gw_13 rfl rfl dX10_giveConcert_87 ?_
          refine z_iload_n X (pc := 90) 1 dX10_giveConcert_90 rfl rfl ?_
          refine z_iload_n X (pc := 91) 3 dX10_giveConcert_91 rfl rfl ?_
          refine z_callV X (pc := 92) (rest := []) kv_X9_wear (c_X9_wear E M_3 (playG (conC g v i).1 i m) (And.left (hJ47.trans h_4.2)) i m v (by omega) (by omega) (playG_6.trans hw) (by rw [playG_12, hp]; exact Or.inr ⟨i, by omega, rfl⟩)) zk_9_0 (zc_9_0 E _) rfl rfl gw_501 (by decide) rfl rfl (Nat.le_of_ble_eq_true rfl) dX10_giveConcert_92 (zk_rv (fun M_6 h_7 => ?_))
          refine z_iinc X (pc := 95) (v := (nI (i + 1))) (lv1 := [(3, .int (nI (i + 1))), (2, .int (((conC g v i).2) + (fit (conC g v i).1 i m))), (0, .ref (za E 17 0)), (1, .int v)]) 1 dX10_giveConcert_95 rfl (nI_1 _) (by decide) rfl ?_
          refine z_goto X (pc := 98) (tgt := 47) dX10_giveConcert_98 (by decide) ?_
          refine z_sub (lv' := [(3, .int (nI (i + 1))), (2, .int (((conC g v i).2) + (fit (conC g v i).1 i m))), (0, .ref (za E 17 0)), (1, .int v)]) [0, 1, 2, 3] rfl ?_
          refine z_eq (lv' := [(3, .int (nI (i + 1))), (2, .int ((conC g v (i + 1)).2)), (0, .ref (za E 17 0)), (1, .int v)]) (by simp [conC, c72, who, hw, nI_clamp (show m < 2 ^ 31 by omega)]) rfl ?_
          exact ih47 M_6 (by omega) (by have h := ((hJ47.trans h_4.2).trans h_7); simpa [conC, c72, who, hw, nI_clamp (show m < 2 ^ 31 by omega)] using h)
    · refine z_aload_n X (pc := 26) 0 dX10_giveConcert_26 rfl rfl ?_
      refine z_bipush X (pc := 27) (v := 11) dX10_giveConcert_27 (by decide) ?_
      refine z_aload_n X (pc := 29) 0 dX10_giveConcert_29 rfl rfl ?_
      refine z_get X (pc := 30) 0 zk_17_0 (zc_17_0 E _) rfl inlX10 (by decide) gw_13 rfl rfl dX10_giveConcert_30 ?_
      refine z_get X (pc := 33) 1 zk_9_0 (zc_9_0 E _) rfl inlX9 (by decide) gw_226 rfl rfl dX10_giveConcert_33 ?_
      refine z_get X (pc := 36) 0 zk_9_2 (zc_9_2 E _) rfl inlX4 (by decide) gw_227 rfl rfl dX10_giveConcert_36 ?_
      refine z_top (y := (nI nm)) ((S9.cm (S9.rf hg)).trans hnm) ?_
      refine z_callV X (pc := 39) (rest := []) kv_X10_refused (c_X10_refused E M 11 (nI nm)) zk_17_0 (zc_17_0 E _) rfl rfl gw_190 (by decide) rfl rfl (Nat.le_of_ble_eq_true rfl) dX10_giveConcert_39 (zk_ri (fun v_10 M_8 h_9 => ?_))
      refine z_top (y := ((-1014))) h_9.1 ?_
      exact z_iret X Y dX10_giveConcert_42 ⟨_, rfl, OX.of (g := g) (rs := [(11, (nI nm))]) (by simp [oConcert, conC_14, hI.cNe, hI.mNe, gu_r, c6, c23]) (CX.refuse FY.rf (S9.rf hg) h_9.2)⟩
  · refine z_sipush X (pc := 9) (v := (-1012)) dX10_giveConcert_9 (by decide) ?_
    exact z_iret X Y dX10_giveConcert_12 ⟨_, rfl, OX.of (g := g) (rs := rs) (by simp [oConcert, conC_14, hI.cNe, hI.mNe, gu_r, c6]) (CX.same hR FY.rf (S9.rf hg))⟩
