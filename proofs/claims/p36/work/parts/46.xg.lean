/-! ===== the law's isFit and act ===== -/
def rm_L_isFit : Room := { frames := 9, cells := 1, slots := 10, locals := 224 }
theorem ks_L_isFit : KS yL_isFit cL_isFit 1 (some .boolean) 1 := ⟨⟨gw_675, gw_352, gw_676⟩, by decide +kernel⟩
set_option maxRecDepth 100000 in
set_option maxHeartbeats 4000000 in
theorem c_L_isFit (E : ZE) (M : Mem) (S : LSt) (hX : XS M S) (nc nm n : Nat) (hI : Inv S.1 nc nm n) (hf : SF S.1 nc nm) (h9 : n < 100000) : MtX E yL_isFit cL_isFit 1 (some .boolean) rm_L_isFit [.ref (za E 17 0)] M (fun _ => True) (RI (fun v M1 => v = 1 ∧ ∃ S1, XS M1 S1 ∧ Sm S S1)) 1 10 := by
  refine x_met (own := RL) (lv := [(0, .ref (za E 17 0))]) (by decide) rfl (Nat.le_of_ble_eq_true rfl) rfl (fun gg X hPr Y => ?_)
  refine x_aload_n X (pc := 0) 0 dL_isFit_0 rfl rfl ?_
  refine x_callX X (pc := 1) (rest := []) ks_L_areSeats (c_L_areSeats _ _ _ hX nc nm _ hI hf) gw_677 x_nopr (fun _ _ _ _ _ _ => trivial) rfl rfl (Nat.le_of_ble_eq_true rfl) (Nat.le_of_ble_eq_true rfl) ⟨Nat.le_of_ble_eq_true rfl, Nat.le_of_ble_eq_true rfl⟩ rfl rfl (Nat.le_of_ble_eq_true rfl) dL_isFit_1 (x_ri (fun v1 M1 h1 => ?_))
  obtain ⟨hv1, l1, hX1⟩ := h1
  refine x_top (y := 1) hv1 ?_
  refine x_if_eq X (pc := 4) (tgt := 48) dL_isFit_4 (by decide) (fun z => absurd z (by decide)) (fun _ => ?_)
  refine x_aload_n X (pc := 7) 0 dL_isFit_7 rfl rfl ?_
  refine x_callX X (pc := 8) (rest := []) ks_L_areOrders (c_L_areOrders _ _ _ hX1 nc nm _ hI) gw_734 x_nopr (fun _ _ _ _ _ _ => trivial) rfl rfl (Nat.le_of_ble_eq_true rfl) (Nat.le_of_ble_eq_true rfl) ⟨Nat.le_of_ble_eq_true rfl, Nat.le_of_ble_eq_true rfl⟩ rfl rfl (Nat.le_of_ble_eq_true rfl) dL_isFit_8 (x_ri (fun v2 M2 h2 => ?_))
  obtain ⟨hv2, rfl⟩ := h2
  refine x_top (y := 1) hv2 ?_
  refine x_if_eq X (pc := 11) (tgt := 48) dL_isFit_11 (by decide) (fun z => absurd z (by decide)) (fun _ => ?_)
  refine x_aload_n X (pc := 14) 0 dL_isFit_14 rfl rfl ?_
  refine x_callX X (pc := 15) (rest := []) ks_L_isSeason (c_L_isSeason _ _ _ hX1 nc nm _ hI hf) gw_754 x_nopr (fun _ _ _ _ _ _ => trivial) rfl rfl (Nat.le_of_ble_eq_true rfl) (Nat.le_of_ble_eq_true rfl) ⟨Nat.le_of_ble_eq_true rfl, Nat.le_of_ble_eq_true rfl⟩ rfl rfl (Nat.le_of_ble_eq_true rfl) dL_isFit_15 (x_ri (fun v3 M3 h3 => ?_))
  obtain ⟨hv3, S3, hX3, e3⟩ := h3
  have sm3 : Sm S S3 := Sm.tr (Sm.line S l1) e3
  have hI3 : Inv S3.1 nc nm n := by rw [sm3.1]; exact hI
  have hf3 : SF S3.1 nc nm := by rw [sm3.1]; exact hf
  refine x_top (y := 1) hv3 ?_
  refine x_if_eq X (pc := 18) (tgt := 48) dL_isFit_18 (by decide) (fun z => absurd z (by decide)) (fun _ => ?_)
  refine x_aload_n X (pc := 21) 0 dL_isFit_21 rfl rfl ?_
  refine x_iconst X (pc := 22) (v := 1) dL_isFit_22 (by decide) ?_
  refine x_callX X (pc := 23) (rest := []) ks_L_isConcert (c_L_isConcert _ _ _ hX3 nc nm _ hI3 hf3 h9 1 ⟨1, by omega, by omega, rfl⟩) gw_778 x_nopr (fun _ _ _ _ _ _ => trivial) rfl rfl (Nat.le_of_ble_eq_true rfl) (Nat.le_of_ble_eq_true rfl) ⟨Nat.le_of_ble_eq_true rfl, Nat.le_of_ble_eq_true rfl⟩ rfl rfl (Nat.le_of_ble_eq_true rfl) dL_isFit_23 (x_ri (fun v4 M4 h4 => ?_))
  obtain ⟨hv4, S4, hX4, e4⟩ := h4
  have sm4 : Sm S S4 := Sm.tr sm3 e4
  have hI4 : Inv S4.1 nc nm n := by rw [sm4.1]; exact hI
  have hf4 : SF S4.1 nc nm := by rw [sm4.1]; exact hf
  refine x_top (y := 1) hv4 ?_
  refine x_if_eq X (pc := 26) (tgt := 48) dL_isFit_26 (by decide) (fun z => absurd z (by decide)) (fun _ => ?_)
  refine x_aload_n X (pc := 29) 0 dL_isFit_29 rfl rfl ?_
  refine x_iconst X (pc := 30) (v := 4) dL_isFit_30 (by decide) ?_
  refine x_callX X (pc := 31) (rest := []) ks_L_isConcert (c_L_isConcert _ _ _ hX4 nc nm _ hI4 hf4 h9 4 ⟨4, by omega, by omega, rfl⟩) gw_778 x_nopr (fun _ _ _ _ _ _ => trivial) rfl rfl (Nat.le_of_ble_eq_true rfl) (Nat.le_of_ble_eq_true rfl) ⟨Nat.le_of_ble_eq_true rfl, Nat.le_of_ble_eq_true rfl⟩ rfl rfl (Nat.le_of_ble_eq_true rfl) dL_isFit_31 (x_ri (fun v5 M5 h5 => ?_))
  obtain ⟨hv5, S5, hX5, e5⟩ := h5
  have sm5 : Sm S S5 := Sm.tr sm4 e5
  have hI5 : Inv S5.1 nc nm n := by rw [sm5.1]; exact hI
  have hf5 : SF S5.1 nc nm := by rw [sm5.1]; exact hf
  refine x_top (y := 1) hv5 ?_
  refine x_if_eq X (pc := 34) (tgt := 48) dL_isFit_34 (by decide) (fun z => absurd z (by decide)) (fun _ => ?_)
  refine x_aload_n X (pc := 37) 0 dL_isFit_37 rfl rfl ?_
  refine x_callX X (pc := 38) (rest := []) ks_L_isSale (c_L_isSale _ _ _ hX5 nc nm _ hI5 hf5 h9) gw_797 x_nopr (fun _ _ _ _ _ _ => trivial) rfl rfl (Nat.le_of_ble_eq_true rfl) (Nat.le_of_ble_eq_true rfl) ⟨Nat.le_of_ble_eq_true rfl, Nat.le_of_ble_eq_true rfl⟩ rfl rfl (Nat.le_of_ble_eq_true rfl) dL_isFit_38 (x_ri (fun v6 M6 h6 => ?_))
  obtain ⟨hv6, S6, hX6, e6⟩ := h6
  have sm6 : Sm S S6 := Sm.tr sm5 e6
  have hI6 : Inv S6.1 nc nm n := by rw [sm6.1]; exact hI
  have hf6 : SF S6.1 nc nm := by rw [sm6.1]; exact hf
  refine x_top (y := 1) hv6 ?_
  refine x_if_eq X (pc := 41) (tgt := 48) dL_isFit_41 (by decide) (fun z => absurd z (by decide)) (fun _ => ?_)
  refine x_iconst X (pc := 44) (v := 1) dL_isFit_44 (by decide) ?_
  refine x_goto X (pc := 45) (tgt := 49) dL_isFit_45 (by decide) ?_
  exact x_zret X Y (by decide) (Nat.le_of_ble_eq_true rfl) (Nat.le_of_ble_eq_true rfl) dL_isFit_49 ⟨_, rfl, rfl, _, hX6, sm6⟩
theorem and_k {m : Nat} (hm : m < 2 ^ 16) (z : Int32) : ∃ k, k ≤ m ∧ z &&& nI m = nI k := by
  have h1 : (z.toBitVec &&& (nI m).toBitVec).toNat ≤ m := by
    rw [BitVec.toNat_and]
    refine Nat.le_trans Nat.and_le_right ?_
    show ((nI m).toBitVec).toNat ≤ m
    have : (nI m).toBitVec = BitVec.ofNat 32 m := rfl
    rw [this, BitVec.toNat_ofNat, Nat.mod_eq_of_lt (by omega)]
    exact Nat.le_refl m
  refine ⟨(z.toBitVec &&& (nI m).toBitVec).toNat, h1, ?_⟩
  apply Int32.toBitVec_inj.mp
  rw [Int32.toBitVec_and]
  show _ = BitVec.ofNat 32 _
  rw [BitVec.ofNat_toNat, BitVec.setWidth_eq]
theorem nI_div {a b : Nat} (ha : a < 2 ^ 31) (hb : b < 2 ^ 31) : nI a / nI b = nI (a / b) := by
  apply Int32.toInt_inj.mp
  have hd : a / b ≤ a := Nat.div_le_self a b
  rw [Int32.toInt_div, nI_toInt ha, nI_toInt hb, nI_toInt (by omega), ← Int.ofNat_tdiv]
  generalize a / b = q at hd ⊢
  unfold Int.bmod
  dsimp only
  have h1 : ((2 ^ 32 : Nat) : Int) = 4294967296 := rfl
  rw [h1]
  split <;> omega
theorem rem_k {a b : Nat} (ha : a < 2 ^ 31) (hb : b < 2 ^ 31) : nI a - nI a / nI b * nI b = nI (a % b) := by
  rw [nI_div ha hb, show nI (a / b) * nI b = nI (a / b * b) from (Int32.ofNat_mul _ _).symm, nI_sub (Nat.div_mul_le_self a b)]
  congr 1
  have := Nat.div_add_mod a b
  rw [Nat.mul_comm] at this
  omega
/-- what an act leaves -/
def ActP (S : LSt) (n : Nat) (v : Int32) (M1 : Mem) : Prop := ∃ S1, XS M1 S1 ∧ LQ S1 (n + 31) ∧ S1.2.2.2.1 = [] ∧ (v < 0 → S1.1 = S.1)
theorem act_chg {S : LSt} {n : Nat} {o : Chg} {v : Int32} {M1 : Mem} (hq : LQ S n) (h0 : S.2.2.2.1 = []) (h9 : n + 31 ≤ 100000) (hk : Kq n S.1 o) (h : v = o.1 ∧ XS M1 (nS S o)) : ActP S n v M1 :=
  ⟨_, h.2, (hq.chg hk (by omega)).up (by omega) h9, h0, fun hv => hk.2 (by rw [← h.1]; exact hv)⟩
theorem run_lq {S : LSt} {n k : Nat} (hq : LQ S n) (hk : k < 30) (h9 : n + 31 ≤ 100000) : LQ (rS (sT S (txt k))) (n + 31) ∧ ((rS (sT S (txt k))).1 = S.1 ∨ ¬ (oRun S.1 S.2.2.1 (txt k)).1 < 0) := by
  obtain ⟨a, b, hI, hf⟩ := hq.now
  have hu := hq.up (Nat.le_add_right n 31) h9
  have hr := oRun_is (rs := S.2.2.1) hI hf hk h9
  refine ⟨fun x hx => ?_, ?_⟩
  · rcases hx with e | e | e
    · rcases hr with ⟨r1, r2, -⟩ | ⟨-, r2⟩
      · exact hu x (Or.inl (e.trans r2))
      · rw [e]; exact r2
    · rcases hsN_mem e with e | e
      · exact hu x (Or.inl e)
      · exact hu x (Or.inr (Or.inl e))
    · exact hu x (Or.inr (Or.inr e))
  · rcases hr with ⟨r1, r2, -⟩ | ⟨⟨j, hj, r1⟩, -⟩
    · exact Or.inl r2
    · refine Or.inr ?_
      rw [r1]
      exact nI_pos (by omega)
theorem act_run {S : LSt} {n k : Nat} {v : Int32} {M1 : Mem} (hq : LQ S n) (hk : k < 30) (h9 : n + 31 ≤ 100000) (h : v = (oRun S.1 S.2.2.1 (txt k)).1 ∧ XS M1 (rS (sT S (txt k)))) : ActP S n v M1 := by
  obtain ⟨h1, h2⟩ := run_lq hq hk h9
  refine ⟨_, h.2, h1, rfl, fun hv => ?_⟩
  rcases h2 with e | e
  · exact e
  · exact absurd (by rw [← h.1]; exact hv) e
theorem act_undo {S : LSt} {n : Nat} {v : Int32} {M M1 : Mem} (hX : XS M S) (hq : LQ S n) (h0 : S.2.2.2.1 = []) (h9 : n + 31 ≤ 100000) (h : v = (aUndo S.1 S.2.1).1 ∧ XS M1 (sU S (aUndo S.1 S.2.1).2)) : ActP S n v M1 := by
  have hu := hq.up (Nat.le_add_right n 31) h9
  obtain ⟨nx, hH⟩ := hX.2.1
  have hl := hH.2.2.2.1
  refine ⟨_, h.2, fun x hx => ?_, h0, fun hv => ?_⟩
  · obtain ⟨g, hs, S'⟩ := S
    cases hs with
    | nil =>
      rcases hx with e | e | e
      · exact hu x (Or.inl e)
      · exact absurd e List.not_mem_nil
      · exact hu x (Or.inr (Or.inr e))
    | cons a tl =>
      rcases hx with e | e | e
      · exact hu x (Or.inr (Or.inl (by rw [e]; exact List.mem_cons_self)))
      · exact hu x (Or.inr (Or.inl (List.mem_cons_of_mem _ e)))
      · exact hu x (Or.inr (Or.inr e))
  · obtain ⟨g, hs, S'⟩ := S
    cases hs with
    | nil => rfl
    | cons a tl =>
      have hl : tl.length + 1 ≤ 8 := hl
      rw [h.1] at hv
      exact absurd hv (nI_pos (show tl.length < 2 ^ 31 by omega))
theorem act_save {S : LSt} {n : Nat} {v : Int32} {M1 : Mem} (hq : LQ S n) (h0 : S.2.2.2.1 = []) (h9 : n + 31 ≤ 100000) (h : XS M1 (sV S (some S.1))) : ActP S n v M1 := by
  have hu := hq.up (Nat.le_add_right n 31) h9
  refine ⟨_, h, fun x hx => ?_, h0, fun _ => rfl⟩
  rcases hx with e | e | e
  · exact hu x (Or.inl e)
  · exact hu x (Or.inr (Or.inl e))
  · exact hu x (Or.inl (Option.some.inj e).symm)
theorem act_rest {S : LSt} {n : Nat} {v : Int32} {M1 : Mem} {g : LG} (hq : LQ S n) (h0 : S.2.2.2.1 = []) (h9 : n + 31 ≤ 100000) (hs : S.2.2.2.2.2 = some g) (h : v = g 14 7 ∧ XS M1 (sU S (g, []))) : ActP S n v M1 := by
  have hu := hq.up (Nat.le_add_right n 31) h9
  refine ⟨_, h.2, fun x hx => ?_, h0, fun hv => ?_⟩
  · rcases hx with e | e | e
    · exact hu x (Or.inr (Or.inr (by rw [hs, e]; rfl)))
    · exact absurd e List.not_mem_nil
    · exact hu x (Or.inr (Or.inr e))
  · obtain ⟨a, b, hI, -⟩ := hq g (Or.inr (Or.inr hs))
    have := hI.c10
    rw [h.1, hI.nc] at hv
    exact absurd hv (nI_pos (by omega))
def rm_L_act : Room := { frames := 7, cells := 0, slots := 0, locals := 169 }
theorem ks_L_act : KS yL_act cL_act 5 (some .int) 2 := ⟨⟨gw_418, gw_352, gw_419⟩, by decide +kernel⟩
set_option maxRecDepth 100000 in
set_option maxHeartbeats 4000000 in
theorem c_L_act (E : ZE) (M : Mem) (S : LSt) (hX : XS M S) (n : Nat) (hq : LQ S n) (h0 : S.2.2.2.1 = []) (h9 : n + 31 ≤ 100000) (x : Int32) : MtX E yL_act cL_act 5 (some .int) rm_L_act [.ref (za E 17 0), .int x] M (fun _ => True) (RI (fun v M1 => ActP S n v M1)) 0 0 := by
  obtain ⟨nc, nm, hI, hf⟩ := hq.now
  refine x_met (own := RL) (lv := [(0, .ref (za E 17 0)), (1, .int x)]) (by decide) rfl (Nat.le_of_ble_eq_true rfl) rfl (fun gg X hPr Y => ?_)
  refine x_iload_n X (pc := 0) 1 dL_act_0 rfl rfl ?_
  refine x_iconst X (pc := 1) (v := 4) dL_act_1 (by decide) ?_
  refine x_ishr X (pc := 2) dL_act_2 ?_
  refine x_ldc X (pc := 3) gw_416 dL_act_3 ?_
  refine x_iand X (pc := 5) dL_act_5 ?_
  obtain ⟨yk, hyk, ey⟩ := and_k (m := 65535) (by omega) (x >>> (4 &&& 31))
  refine x_top (y := (nI yk)) ey ?_
  refine x_istore_n X (pc := 6) (lv1 := [(2, .int (nI yk)), (0, .ref (za E 17 0)), (1, .int x)]) dL_act_6 rfl (by decide) rfl ?_
  refine x_iload_n X (pc := 7) 0 dL_act_7 rfl rfl ?_
  refine x_bipush X (pc := 8) (v := 6) dL_act_8 (by decide) ?_
  refine x_irem X (pc := 10) dL_act_10 (by decide) ?_
  refine x_istore_n X (pc := 11) (lv1 := [(3, .int ((nI yk) - (nI yk) / 6 * 6)), (2, .int (nI yk)), (0, .ref (za E 17 0)), (1, .int x)]) dL_act_11 rfl (by decide) rfl ?_
  refine x_iload_n X (pc := 12) 1 dL_act_12 rfl rfl ?_
  refine x_iconst X (pc := 13) (v := 3) dL_act_13 (by decide) ?_
  refine x_ishr X (pc := 14) dL_act_14 ?_
  refine x_bipush X (pc := 15) (v := 6) dL_act_15 (by decide) ?_
  refine x_irem X (pc := 17) dL_act_17 (by decide) ?_
  refine x_istore X (pc := 18) (lv1 := [(4, .int (((nI yk) >>> (3 &&& 31)) - ((nI yk) >>> (3 &&& 31)) / 6 * 6)), (3, .int ((nI yk) - (nI yk) / 6 * 6)), (2, .int (nI yk)), (0, .ref (za E 17 0)), (1, .int x)]) dL_act_18 (by decide) rfl ?_
  refine x_iload_n X (pc := 20) 4 dL_act_20 rfl rfl ?_
  refine x_bipush X (pc := 21) (v := 15) dL_act_21 (by decide) ?_
  refine x_iand X (pc := 23) dL_act_23 ?_
  obtain ⟨k, hk, ek⟩ := and_k (m := 15) (by omega) x
  refine x_top (y := (nI k)) ek ?_
  rcases (show k = 0 ∨ k = 1 ∨ k = 2 ∨ k = 3 ∨ k = 4 ∨ k = 5 ∨ k = 6 ∨ k = 7 ∨ k = 8 ∨ k = 9 ∨ k = 10 ∨ k = 11 ∨ k = 12 ∨ k = 13 ∨ k = 14 ∨ k = 15 by omega) with rfl | rfl | rfl | rfl | rfl | rfl | rfl | rfl | rfl | rfl | rfl | rfl | rfl | rfl | rfl | rfl
  · refine x_tableIn X (pc := 24) (off := 76) (tgt := 100) dL_act_24 (by decide) (by decide) rfl (by decide) ?_
    refine x_aload_n X (pc := 100) 3 dL_act_100 rfl rfl ?_
    refine x_iload_n X (pc := 101) 2 dL_act_101 rfl rfl ?_
    refine x_iconst X (pc := 102) (v := 2) dL_act_102 (by decide) ?_
    refine x_ishr X (pc := 103) dL_act_103 ?_
    refine x_iconst X (pc := 104) (v := 5) dL_act_104 (by decide) ?_
    refine x_irem X (pc := 105) dL_act_105 (by decide) ?_
    refine x_iload_n X (pc := 106) 2 dL_act_106 rfl rfl ?_
    refine x_iconst X (pc := 107) (v := 4) dL_act_107 (by decide) ?_
    refine x_ishr X (pc := 108) dL_act_108 ?_
    refine x_bipush X (pc := 109) (v := 10) dL_act_109 (by decide) ?_
    refine x_irem X (pc := 111) dL_act_111 (by decide) ?_
    refine x_callV X ⟨Nat.zero_le _, Nat.zero_le _⟩ (pc := 112) (rest := []) kv_X10_chair (q_chair hX hI (((nI yk) >>> (2 &&& 31)) - ((nI yk) >>> (2 &&& 31)) / 5 * 5) (((nI yk) >>> (4 &&& 31)) - ((nI yk) >>> (4 &&& 31)) / 10 * 10)) zk_17_0 (zc_17_0 E _) rfl rfl gw_132 ⟨⟨rfl, rfl⟩, Nat.le_of_ble_eq_true rfl, Nat.le_of_ble_eq_true rfl⟩ rfl rfl (Nat.le_of_ble_eq_true rfl) dL_act_112 (x_ri (fun v1 M1 h1 => ?_))
    exact x_zret X Y rfl (Nat.le_refl _) (Nat.le_refl _) dL_act_115 ⟨_, rfl, act_chg hq h0 h9 (oBringC_kq hI hf (by omega)) h1⟩
  · refine x_tableIn X (pc := 24) (off := 92) (tgt := 116) dL_act_24 (by decide) (by decide) rfl (by decide) ?_
    refine x_aload_n X (pc := 116) 3 dL_act_116 rfl rfl ?_
    refine x_iload_n X (pc := 117) 2 dL_act_117 rfl rfl ?_
    refine x_iconst X (pc := 118) (v := 2) dL_act_118 (by decide) ?_
    refine x_ishr X (pc := 119) dL_act_119 ?_
    refine x_iconst X (pc := 120) (v := 5) dL_act_120 (by decide) ?_
    refine x_irem X (pc := 121) dL_act_121 (by decide) ?_
    refine x_iload_n X (pc := 122) 2 dL_act_122 rfl rfl ?_
    refine x_iconst X (pc := 123) (v := 4) dL_act_123 (by decide) ?_
    refine x_ishr X (pc := 124) dL_act_124 ?_
    refine x_bipush X (pc := 125) (v := 10) dL_act_125 (by decide) ?_
    refine x_irem X (pc := 127) dL_act_127 (by decide) ?_
    refine x_iload_n X (pc := 128) 2 dL_act_128 rfl rfl ?_
    refine x_bipush X (pc := 129) (v := 6) dL_act_129 (by decide) ?_
    refine x_ishr X (pc := 131) dL_act_131 ?_
    refine x_iconst X (pc := 132) (v := 5) dL_act_132 (by decide) ?_
    refine x_irem X (pc := 133) dL_act_133 (by decide) ?_
    refine x_callV X ⟨Nat.zero_le _, Nat.zero_le _⟩ (pc := 134) (rest := []) kv_X10_musician (q_musician hX hI (((nI yk) >>> (2 &&& 31)) - ((nI yk) >>> (2 &&& 31)) / 5 * 5) (((nI yk) >>> (4 &&& 31)) - ((nI yk) >>> (4 &&& 31)) / 10 * 10) (((nI yk) >>> (6 &&& 31)) - ((nI yk) >>> (6 &&& 31)) / 5 * 5)) zk_17_0 (zc_17_0 E _) rfl rfl gw_218 ⟨⟨rfl, rfl⟩, Nat.le_of_ble_eq_true rfl, Nat.le_of_ble_eq_true rfl⟩ rfl rfl (Nat.le_of_ble_eq_true rfl) dL_act_134 (x_ri (fun v1 M1 h1 => ?_))
    exact x_zret X Y rfl (Nat.le_refl _) (Nat.le_refl _) dL_act_137 ⟨_, rfl, act_chg hq h0 h9 (oBringM_kq hI hf (by omega)) h1⟩
  · refine x_tableIn X (pc := 24) (off := 92) (tgt := 116) dL_act_24 (by decide) (by decide) rfl (by decide) ?_
    refine x_aload_n X (pc := 116) 3 dL_act_116 rfl rfl ?_
    refine x_iload_n X (pc := 117) 2 dL_act_117 rfl rfl ?_
    refine x_iconst X (pc := 118) (v := 2) dL_act_118 (by decide) ?_
    refine x_ishr X (pc := 119) dL_act_119 ?_
    refine x_iconst X (pc := 120) (v := 5) dL_act_120 (by decide) ?_
    refine x_irem X (pc := 121) dL_act_121 (by decide) ?_
    refine x_iload_n X (pc := 122) 2 dL_act_122 rfl rfl ?_
    refine x_iconst X (pc := 123) (v := 4) dL_act_123 (by decide) ?_
    refine x_ishr X (pc := 124) dL_act_124 ?_
    refine x_bipush X (pc := 125) (v := 10) dL_act_125 (by decide) ?_
    refine x_irem X (pc := 127) dL_act_127 (by decide) ?_
    refine x_iload_n X (pc := 128) 2 dL_act_128 rfl rfl ?_
    refine x_bipush X (pc := 129) (v := 6) dL_act_129 (by decide) ?_
    refine x_ishr X (pc := 131) dL_act_131 ?_
    refine x_iconst X (pc := 132) (v := 5) dL_act_132 (by decide) ?_
    refine x_irem X (pc := 133) dL_act_133 (by decide) ?_
    refine x_callV X ⟨Nat.zero_le _, Nat.zero_le _⟩ (pc := 134) (rest := []) kv_X10_musician (q_musician hX hI (((nI yk) >>> (2 &&& 31)) - ((nI yk) >>> (2 &&& 31)) / 5 * 5) (((nI yk) >>> (4 &&& 31)) - ((nI yk) >>> (4 &&& 31)) / 10 * 10) (((nI yk) >>> (6 &&& 31)) - ((nI yk) >>> (6 &&& 31)) / 5 * 5)) zk_17_0 (zc_17_0 E _) rfl rfl gw_218 ⟨⟨rfl, rfl⟩, Nat.le_of_ble_eq_true rfl, Nat.le_of_ble_eq_true rfl⟩ rfl rfl (Nat.le_of_ble_eq_true rfl) dL_act_134 (x_ri (fun v1 M1 h1 => ?_))
    exact x_zret X Y rfl (Nat.le_refl _) (Nat.le_refl _) dL_act_137 ⟨_, rfl, act_chg hq h0 h9 (oBringM_kq hI hf (by omega)) h1⟩
  · refine x_tableIn X (pc := 24) (off := 114) (tgt := 138) dL_act_24 (by decide) (by decide) rfl (by decide) ?_
    refine x_aload_n X (pc := 138) 3 dL_act_138 rfl rfl ?_
    refine x_iload_n X (pc := 139) 1 dL_act_139 rfl rfl ?_
    refine x_iload X (pc := 140) 0 dL_act_140 rfl ?_
    refine x_callV X ⟨Nat.zero_le _, Nat.zero_le _⟩ (pc := 142) (rest := []) kv_X10_seat (q_seat hX hI ((nI yk) - (nI yk) / 6 * 6) (((nI yk) >>> (3 &&& 31)) - ((nI yk) >>> (3 &&& 31)) / 6 * 6)) zk_17_0 (zc_17_0 E _) rfl rfl gw_420 ⟨⟨rfl, rfl⟩, Nat.le_of_ble_eq_true rfl, Nat.le_of_ble_eq_true rfl⟩ rfl rfl (Nat.le_of_ble_eq_true rfl) dL_act_142 (x_ri (fun v1 M1 h1 => ?_))
    exact x_zret X Y rfl (Nat.le_refl _) (Nat.le_refl _) dL_act_145 ⟨_, rfl, act_chg hq h0 h9 (oSeat_kq hI hf (by omega)) h1⟩
  · refine x_tableIn X (pc := 24) (off := 114) (tgt := 138) dL_act_24 (by decide) (by decide) rfl (by decide) ?_
    refine x_aload_n X (pc := 138) 3 dL_act_138 rfl rfl ?_
    refine x_iload_n X (pc := 139) 1 dL_act_139 rfl rfl ?_
    refine x_iload X (pc := 140) 0 dL_act_140 rfl ?_
    refine x_callV X ⟨Nat.zero_le _, Nat.zero_le _⟩ (pc := 142) (rest := []) kv_X10_seat (q_seat hX hI ((nI yk) - (nI yk) / 6 * 6) (((nI yk) >>> (3 &&& 31)) - ((nI yk) >>> (3 &&& 31)) / 6 * 6)) zk_17_0 (zc_17_0 E _) rfl rfl gw_420 ⟨⟨rfl, rfl⟩, Nat.le_of_ble_eq_true rfl, Nat.le_of_ble_eq_true rfl⟩ rfl rfl (Nat.le_of_ble_eq_true rfl) dL_act_142 (x_ri (fun v1 M1 h1 => ?_))
    exact x_zret X Y rfl (Nat.le_refl _) (Nat.le_refl _) dL_act_145 ⟨_, rfl, act_chg hq h0 h9 (oSeat_kq hI hf (by omega)) h1⟩
  · refine x_tableIn X (pc := 24) (off := 122) (tgt := 146) dL_act_24 (by decide) (by decide) rfl (by decide) ?_
    refine x_aload_n X (pc := 146) 3 dL_act_146 rfl rfl ?_
    refine x_iload X (pc := 147) 0 dL_act_147 rfl ?_
    refine x_callV X ⟨Nat.zero_le _, Nat.zero_le _⟩ (pc := 149) (rest := []) kv_X10_rise (q_rise hX hI (((nI yk) >>> (3 &&& 31)) - ((nI yk) >>> (3 &&& 31)) / 6 * 6)) zk_17_0 (zc_17_0 E _) rfl rfl gw_454 ⟨⟨rfl, rfl⟩, Nat.le_of_ble_eq_true rfl, Nat.le_of_ble_eq_true rfl⟩ rfl rfl (Nat.le_of_ble_eq_true rfl) dL_act_149 (x_ri (fun v1 M1 h1 => ?_))
    exact x_zret X Y rfl (Nat.le_refl _) (Nat.le_refl _) dL_act_152 ⟨_, rfl, act_chg hq h0 h9 (oRise_kq hI hf (by omega)) h1⟩
  · refine x_tableIn X (pc := 24) (off := 129) (tgt := 153) dL_act_24 (by decide) (by decide) rfl (by decide) ?_
    refine x_aload_n X (pc := 153) 3 dL_act_153 rfl rfl ?_
    refine x_callV X ⟨Nat.zero_le _, Nat.zero_le _⟩ (pc := 154) (rest := []) kv_X10_season (q_season hX hI) zk_17_0 (zc_17_0 E _) rfl rfl gw_233 ⟨⟨rfl, rfl⟩, Nat.le_of_ble_eq_true rfl, Nat.le_of_ble_eq_true rfl⟩ rfl rfl (Nat.le_of_ble_eq_true rfl) dL_act_154 (x_ri (fun v1 M1 h1 => ?_))
    exact x_zret X Y rfl (Nat.le_refl _) (Nat.le_refl _) dL_act_157 ⟨_, rfl, act_chg hq h0 h9 (oSeason_kq hI (by omega)) h1⟩
  · refine x_tableIn X (pc := 24) (off := 134) (tgt := 158) dL_act_24 (by decide) (by decide) rfl (by decide) ?_
    refine x_aload_n X (pc := 158) 3 dL_act_158 rfl rfl ?_
    refine x_iload X (pc := 159) 0 dL_act_159 rfl ?_
    refine x_iload_n X (pc := 161) 2 dL_act_161 rfl rfl ?_
    refine x_iconst X (pc := 162) (v := 5) dL_act_162 (by decide) ?_
    refine x_ishr X (pc := 163) dL_act_163 ?_
    refine x_bipush X (pc := 164) (v := 12) dL_act_164 (by decide) ?_
    refine x_irem X (pc := 166) dL_act_166 (by decide) ?_
    refine x_callV X ⟨Nat.zero_le _, Nat.zero_le _⟩ (pc := 167) (rest := []) kv_X10_bid (q_bid hX hI (((nI yk) >>> (3 &&& 31)) - ((nI yk) >>> (3 &&& 31)) / 6 * 6) (((nI yk) >>> (5 &&& 31)) - ((nI yk) >>> (5 &&& 31)) / 12 * 12)) zk_17_0 (zc_17_0 E _) rfl rfl gw_333 ⟨⟨rfl, rfl⟩, Nat.le_of_ble_eq_true rfl, Nat.le_of_ble_eq_true rfl⟩ rfl rfl (Nat.le_of_ble_eq_true rfl) dL_act_167 (x_ri (fun v1 M1 h1 => ?_))
    exact x_zret X Y rfl (Nat.le_refl _) (Nat.le_refl _) dL_act_170 ⟨_, rfl, act_chg hq h0 h9 (oBid_kq hI hf (by omega)) h1⟩
  · refine x_tableIn X (pc := 24) (off := 134) (tgt := 158) dL_act_24 (by decide) (by decide) rfl (by decide) ?_
    refine x_aload_n X (pc := 158) 3 dL_act_158 rfl rfl ?_
    refine x_iload X (pc := 159) 0 dL_act_159 rfl ?_
    refine x_iload_n X (pc := 161) 2 dL_act_161 rfl rfl ?_
    refine x_iconst X (pc := 162) (v := 5) dL_act_162 (by decide) ?_
    refine x_ishr X (pc := 163) dL_act_163 ?_
    refine x_bipush X (pc := 164) (v := 12) dL_act_164 (by decide) ?_
    refine x_irem X (pc := 166) dL_act_166 (by decide) ?_
    refine x_callV X ⟨Nat.zero_le _, Nat.zero_le _⟩ (pc := 167) (rest := []) kv_X10_bid (q_bid hX hI (((nI yk) >>> (3 &&& 31)) - ((nI yk) >>> (3 &&& 31)) / 6 * 6) (((nI yk) >>> (5 &&& 31)) - ((nI yk) >>> (5 &&& 31)) / 12 * 12)) zk_17_0 (zc_17_0 E _) rfl rfl gw_333 ⟨⟨rfl, rfl⟩, Nat.le_of_ble_eq_true rfl, Nat.le_of_ble_eq_true rfl⟩ rfl rfl (Nat.le_of_ble_eq_true rfl) dL_act_167 (x_ri (fun v1 M1 h1 => ?_))
    exact x_zret X Y rfl (Nat.le_refl _) (Nat.le_refl _) dL_act_170 ⟨_, rfl, act_chg hq h0 h9 (oBid_kq hI hf (by omega)) h1⟩
  · refine x_tableIn X (pc := 24) (off := 147) (tgt := 171) dL_act_24 (by decide) (by decide) rfl (by decide) ?_
    refine x_aload_n X (pc := 171) 3 dL_act_171 rfl rfl ?_
    refine x_iload_n X (pc := 172) 2 dL_act_172 rfl rfl ?_
    refine x_iconst X (pc := 173) (v := 4) dL_act_173 (by decide) ?_
    refine x_ishr X (pc := 174) dL_act_174 ?_
    refine x_bipush X (pc := 175) (v := 11) dL_act_175 (by decide) ?_
    refine x_irem X (pc := 177) dL_act_177 (by decide) ?_
    refine x_callV X ⟨Nat.zero_le _, Nat.zero_le _⟩ (pc := 178) (rest := []) kv_X10_sell (q_sell hX hI (((nI yk) >>> (4 &&& 31)) - ((nI yk) >>> (4 &&& 31)) / 11 * 11)) zk_17_0 (zc_17_0 E _) rfl rfl gw_462 ⟨⟨rfl, rfl⟩, Nat.le_of_ble_eq_true rfl, Nat.le_of_ble_eq_true rfl⟩ rfl rfl (Nat.le_of_ble_eq_true rfl) dL_act_178 (x_ri (fun v1 M1 h1 => ?_))
    exact x_zret X Y rfl (Nat.le_refl _) (Nat.le_refl _) dL_act_181 ⟨_, rfl, act_chg hq h0 h9 (oSell_kq hI hf (by omega)) h1⟩
  · refine x_tableIn X (pc := 24) (off := 158) (tgt := 182) dL_act_24 (by decide) (by decide) rfl (by decide) ?_
    refine x_aload_n X (pc := 182) 3 dL_act_182 rfl rfl ?_
    refine x_iload_n X (pc := 183) 2 dL_act_183 rfl rfl ?_
    refine x_iconst X (pc := 184) (v := 4) dL_act_184 (by decide) ?_
    refine x_ishr X (pc := 185) dL_act_185 ?_
    refine x_bipush X (pc := 186) (v := 6) dL_act_186 (by decide) ?_
    refine x_irem X (pc := 188) dL_act_188 (by decide) ?_
    refine x_callV X ⟨Nat.zero_le _, Nat.zero_le _⟩ (pc := 189) (rest := []) kv_X10_concert (q_concert hX hI (((nI yk) >>> (4 &&& 31)) - ((nI yk) >>> (4 &&& 31)) / 6 * 6)) zk_17_0 (zc_17_0 E _) rfl rfl gw_482 ⟨⟨rfl, rfl⟩, Nat.le_of_ble_eq_true rfl, Nat.le_of_ble_eq_true rfl⟩ rfl rfl (Nat.le_of_ble_eq_true rfl) dL_act_189 (x_ri (fun v1 M1 h1 => ?_))
    exact x_zret X Y rfl (Nat.le_refl _) (Nat.le_refl _) dL_act_192 ⟨_, rfl, act_chg hq h0 h9 (oConcert_kq hI hf (by omega)) h1⟩
  · refine x_tableIn X (pc := 24) (off := 158) (tgt := 182) dL_act_24 (by decide) (by decide) rfl (by decide) ?_
    refine x_aload_n X (pc := 182) 3 dL_act_182 rfl rfl ?_
    refine x_iload_n X (pc := 183) 2 dL_act_183 rfl rfl ?_
    refine x_iconst X (pc := 184) (v := 4) dL_act_184 (by decide) ?_
    refine x_ishr X (pc := 185) dL_act_185 ?_
    refine x_bipush X (pc := 186) (v := 6) dL_act_186 (by decide) ?_
    refine x_irem X (pc := 188) dL_act_188 (by decide) ?_
    refine x_callV X ⟨Nat.zero_le _, Nat.zero_le _⟩ (pc := 189) (rest := []) kv_X10_concert (q_concert hX hI (((nI yk) >>> (4 &&& 31)) - ((nI yk) >>> (4 &&& 31)) / 6 * 6)) zk_17_0 (zc_17_0 E _) rfl rfl gw_482 ⟨⟨rfl, rfl⟩, Nat.le_of_ble_eq_true rfl, Nat.le_of_ble_eq_true rfl⟩ rfl rfl (Nat.le_of_ble_eq_true rfl) dL_act_189 (x_ri (fun v1 M1 h1 => ?_))
    exact x_zret X Y rfl (Nat.le_refl _) (Nat.le_refl _) dL_act_192 ⟨_, rfl, act_chg hq h0 h9 (oConcert_kq hI hf (by omega)) h1⟩
  · refine x_tableIn X (pc := 24) (off := 169) (tgt := 193) dL_act_24 (by decide) (by decide) rfl (by decide) ?_
    refine x_iload_n X (pc := 193) 2 dL_act_193 rfl rfl ?_
    refine x_bipush X (pc := 194) (v := 32) dL_act_194 (by decide) ?_
    refine x_iand X (pc := 196) dL_act_196 ?_
    refine x_if_ne X (pc := 197) (tgt := 208) dL_act_197 (by decide) (fun c197 => ?_) (fun c197 => ?_)
    · refine x_aload_n X (pc := 208) 3 dL_act_208 rfl rfl ?_
      refine x_iload_n X (pc := 209) 1 dL_act_209 rfl rfl ?_
      refine x_callV X ⟨Nat.zero_le _, Nat.zero_le _⟩ (pc := 210) (rest := []) kv_X10_promote (q_promote hX hI ((nI yk) - (nI yk) / 6 * 6)) zk_17_0 (zc_17_0 E _) rfl rfl gw_521 ⟨⟨rfl, rfl⟩, Nat.le_of_ble_eq_true rfl, Nat.le_of_ble_eq_true rfl⟩ rfl rfl (Nat.le_of_ble_eq_true rfl) dL_act_210 (x_ri (fun v1 M1 h1 => ?_))
      exact x_zret X Y rfl (Nat.le_refl _) (Nat.le_refl _) dL_act_213 ⟨_, rfl, act_chg hq h0 h9 (oPromote_kq hI hf (by omega)) h1⟩
    · refine x_aload_n X (pc := 200) 3 dL_act_200 rfl rfl ?_
      refine x_iload_n X (pc := 201) 1 dL_act_201 rfl rfl ?_
      refine x_callV X ⟨Nat.zero_le _, Nat.zero_le _⟩ (pc := 202) (rest := []) kv_X10_raise (q_raise hX hI ((nI yk) - (nI yk) / 6 * 6)) zk_17_0 (zc_17_0 E _) rfl rfl gw_513 ⟨⟨rfl, rfl⟩, Nat.le_of_ble_eq_true rfl, Nat.le_of_ble_eq_true rfl⟩ rfl rfl (Nat.le_of_ble_eq_true rfl) dL_act_202 (x_ri (fun v1 M1 h1 => ?_))
      refine x_goto X (pc := 205) (tgt := 213) dL_act_205 (by decide) ?_
      exact x_zret X Y rfl (Nat.le_refl _) (Nat.le_refl _) dL_act_213 ⟨_, rfl, act_chg hq h0 h9 (oRaise_kq hI hf (by omega)) h1⟩
  · refine x_tableIn X (pc := 24) (off := 190) (tgt := 214) dL_act_24 (by decide) (by decide) rfl (by decide) ?_
    refine x_aload_n X (pc := 214) 3 dL_act_214 rfl rfl ?_
    refine x_texts X (pc := 215) gw_3 rfl dL_act_215 ?_
    refine x_iload_n X (pc := 218) 2 dL_act_218 rfl rfl ?_
    refine x_texts X (pc := 219) gw_3 rfl dL_act_219 ?_
    refine x_tlen X (pc := 222) dL_act_222 ?_
    refine x_irem X (pc := 223) dL_act_223 (by decide) ?_
    refine x_top (y := (nI (yk % 30))) (rem_k (b := 30) (by omega) (by omega)) ?_
    refine x_tald X (pc := 224) (j := yk % 30) rfl (by omega) dL_act_224 ?_
    refine x_callX X (pc := 225) (rest := []) ks_L_write (c_L_write _ _ S hX h0 (yk % 30) (by omega)) gw_529 x_nopr (fun _ _ _ _ _ _ => trivial) rfl rfl (Nat.le_of_ble_eq_true rfl) (Nat.le_of_ble_eq_true rfl) ⟨Nat.le_of_ble_eq_true rfl, Nat.le_of_ble_eq_true rfl⟩ rfl rfl (Nat.le_of_ble_eq_true rfl) dL_act_225 (x_rr (fun M1 h1 => ?_))
    refine x_callV X ⟨Nat.zero_le _, Nat.zero_le _⟩ (pc := 228) (rest := []) kv_X10_run (q_run (nc := nc) (nm := nm) (n := n) h1 hI h9) zk_17_0 (zc_17_0 E _) rfl rfl gw_590 ⟨⟨rfl, rfl⟩, Nat.le_of_ble_eq_true rfl, Nat.le_of_ble_eq_true rfl⟩ rfl rfl (Nat.le_of_ble_eq_true rfl) dL_act_228 (x_ri (fun v2 M2 h2 => ?_))
    exact x_zret X Y rfl (Nat.le_refl _) (Nat.le_refl _) dL_act_231 ⟨_, rfl, act_run hq (Nat.mod_lt yk (by decide)) h9 h2⟩
  · refine x_tableIn X (pc := 24) (off := 190) (tgt := 214) dL_act_24 (by decide) (by decide) rfl (by decide) ?_
    refine x_aload_n X (pc := 214) 3 dL_act_214 rfl rfl ?_
    refine x_texts X (pc := 215) gw_3 rfl dL_act_215 ?_
    refine x_iload_n X (pc := 218) 2 dL_act_218 rfl rfl ?_
    refine x_texts X (pc := 219) gw_3 rfl dL_act_219 ?_
    refine x_tlen X (pc := 222) dL_act_222 ?_
    refine x_irem X (pc := 223) dL_act_223 (by decide) ?_
    refine x_top (y := (nI (yk % 30))) (rem_k (b := 30) (by omega) (by omega)) ?_
    refine x_tald X (pc := 224) (j := yk % 30) rfl (by omega) dL_act_224 ?_
    refine x_callX X (pc := 225) (rest := []) ks_L_write (c_L_write _ _ S hX h0 (yk % 30) (by omega)) gw_529 x_nopr (fun _ _ _ _ _ _ => trivial) rfl rfl (Nat.le_of_ble_eq_true rfl) (Nat.le_of_ble_eq_true rfl) ⟨Nat.le_of_ble_eq_true rfl, Nat.le_of_ble_eq_true rfl⟩ rfl rfl (Nat.le_of_ble_eq_true rfl) dL_act_225 (x_rr (fun M1 h1 => ?_))
    refine x_callV X ⟨Nat.zero_le _, Nat.zero_le _⟩ (pc := 228) (rest := []) kv_X10_run (q_run (nc := nc) (nm := nm) (n := n) h1 hI h9) zk_17_0 (zc_17_0 E _) rfl rfl gw_590 ⟨⟨rfl, rfl⟩, Nat.le_of_ble_eq_true rfl, Nat.le_of_ble_eq_true rfl⟩ rfl rfl (Nat.le_of_ble_eq_true rfl) dL_act_228 (x_ri (fun v2 M2 h2 => ?_))
    exact x_zret X Y rfl (Nat.le_refl _) (Nat.le_refl _) dL_act_231 ⟨_, rfl, act_run hq (Nat.mod_lt yk (by decide)) h9 h2⟩
  · refine x_tableOut X (pc := 24) (tgt := 232) dL_act_24 (by decide) (by decide) ?_
    refine x_iload_n X (pc := 232) 2 dL_act_232 rfl rfl ?_
    refine x_iconst X (pc := 233) (v := 3) dL_act_233 (by decide) ?_
    refine x_iand X (pc := 234) dL_act_234 ?_
    refine x_if_ne X (pc := 235) (tgt := 245) dL_act_235 (by decide) (fun c235 => ?_) (fun c235 => ?_)
    · refine x_iload_n X (pc := 245) 2 dL_act_245 rfl rfl ?_
      refine x_iconst X (pc := 246) (v := 3) dL_act_246 (by decide) ?_
      refine x_iand X (pc := 247) dL_act_247 ?_
      refine x_iconst X (pc := 248) (v := 1) dL_act_248 (by decide) ?_
      refine x_icmp_ne X (pc := 249) (tgt := 259) dL_act_249 (by decide) (fun c249 => ?_) (fun c249 => ?_)
      · refine x_aload_n X (pc := 259) 3 dL_act_259 rfl rfl ?_
        refine x_callV X ⟨Nat.zero_le _, Nat.zero_le _⟩ (pc := 260) (rest := []) kv_X10_undo (q_undo hX) zk_17_0 (zc_17_0 E _) rfl rfl gw_665 ⟨⟨rfl, rfl⟩, Nat.le_of_ble_eq_true rfl, Nat.le_of_ble_eq_true rfl⟩ rfl rfl (Nat.le_of_ble_eq_true rfl) dL_act_260 (x_ri (fun v1 M1 h1 => ?_))
        exact x_zret X Y rfl (Nat.le_refl _) (Nat.le_refl _) dL_act_263 ⟨_, rfl, act_undo hX hq h0 h9 h1⟩
      · rcases hs : S.2.2.2.2.2 with _ | gs
        · refine x_aload_n X (pc := 252) 3 dL_act_252 rfl rfl ?_
          refine x_callV X ⟨Nat.zero_le _, Nat.zero_le _⟩ (pc := 253) (rest := []) kv_X10_restore (q_restore0 hX hs) zk_17_0 (zc_17_0 E _) rfl rfl gw_657 ⟨⟨rfl, rfl⟩, Nat.le_of_ble_eq_true rfl, Nat.le_of_ble_eq_true rfl⟩ rfl rfl (Nat.le_of_ble_eq_true rfl) dL_act_253 (x_pi ?_)
          refine x_goto X (pc := 256) (tgt := 263) dL_act_256 (by decide) ?_
          exact x_zret X Y rfl (Nat.le_refl _) (Nat.le_refl _) dL_act_263 ⟨_, rfl, ⟨S, hX, hq.up (Nat.le_add_right n 31) h9, h0, fun _ => rfl⟩⟩
        · refine x_aload_n X (pc := 252) 3 dL_act_252 rfl rfl ?_
          refine x_callV X ⟨Nat.zero_le _, Nat.zero_le _⟩ (pc := 253) (rest := []) kv_X10_restore (q_restore hX hs) zk_17_0 (zc_17_0 E _) rfl rfl gw_657 ⟨⟨rfl, rfl⟩, Nat.le_of_ble_eq_true rfl, Nat.le_of_ble_eq_true rfl⟩ rfl rfl (Nat.le_of_ble_eq_true rfl) dL_act_253 (x_ri (fun v1 M1 h1 => ?_))
          refine x_goto X (pc := 256) (tgt := 263) dL_act_256 (by decide) ?_
          exact x_zret X Y rfl (Nat.le_refl _) (Nat.le_refl _) dL_act_263 ⟨_, rfl, act_rest hq h0 h9 hs h1⟩
    · refine x_aload_n X (pc := 238) 3 dL_act_238 rfl rfl ?_
      refine x_callV X ⟨Nat.zero_le _, Nat.zero_le _⟩ (pc := 239) (rest := []) kv_X10_save (q_save hX) zk_17_0 (zc_17_0 E _) rfl rfl gw_651 ⟨⟨rfl, rfl⟩, Nat.le_of_ble_eq_true rfl, Nat.le_of_ble_eq_true rfl⟩ rfl rfl (Nat.le_of_ble_eq_true rfl) dL_act_239 (x_ri (fun v1 M1 h1 => ?_))
      refine x_goto X (pc := 242) (tgt := 263) dL_act_242 (by decide) ?_
      exact x_zret X Y rfl (Nat.le_refl _) (Nat.le_refl _) dL_act_263 ⟨_, rfl, act_save hq h0 h9 h1.2⟩
