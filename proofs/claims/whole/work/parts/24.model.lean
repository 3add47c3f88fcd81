theorem zkd_row {b : Nat} (h : 20 ≤ b ∧ b ≤ 31) : zkd b 0 = 6 := by
  unfold zkd zkd1
  rw [if_pos ⟨by omega, by decide⟩, if_neg (by omega), if_neg (by omega), if_neg (by omega), if_neg (by omega), if_neg (by omega), if_neg (by omega), if_neg (by omega), if_neg (by omega), if_pos (by omega), if_pos rfl]
theorem zn_row {b : Nat} (h : 20 ≤ b ∧ b ≤ 31) : zn b 0 = 149 := by
  unfold zn
  rw [if_neg (by omega), if_neg (by omega), if_neg (by omega), if_neg (by omega), if_neg (by omega), if_pos (by omega)]
theorem gF_like {f f' : Nat → Int32} (h : ∀ k, k < 149 → f' k = f k) : gF f' = gF f := by
  funext j k
  unfold gF
  split
  · split
    · exact h _ (by omega)
    · rfl
  · split
    · split
      · exact h _ (by omega)
      · rfl
    · split
      · split
        · exact h _ (by omega)
        · rfl
      · rfl
def CpR (M : Mem) (b1 b2 i : Nat) (M1 : Mem) : Prop := (∀ k, k < i → M1 b2 0 k = M b1 0 k) ∧ ∀ b, b ≠ b2 → M1 b = M b
theorem CpR.init {M : Mem} {b1 b2 : Nat} : CpR M b1 b2 0 M := ⟨fun k hk => absurd hk (Nat.not_lt_zero k), fun _ _ => rfl⟩
theorem CpR.go {M M1 : Mem} {b1 b2 i : Nat} (h : CpR M b1 b2 i M1) (hne : b1 ≠ b2) : CpR M b1 b2 (i + 1) (up3 M1 b2 0 i (M1 b1 0 i)) := by
  refine ⟨fun k hk => ?_, fun b hb => by rw [up3_off hb, h.2 b hb]⟩
  by_cases e : k = i
  · subst e
    rw [up3_same, h.2 b1 hne]
  · rw [up3_ne (fun q => e q.2.2)]
    exact h.1 k (by omega)
theorem CpR.done {M M1 : Mem} {b1 b2 i : Nat} (h : CpR M b1 b2 i M1) (hi : 149 ≤ i) : gF (M1 b2 0) = gF (M b1 0) ∧ ∀ b, b ≠ b2 → M1 b = M b := ⟨gF_like (fun k hk => h.1 k (by omega)), h.2⟩
theorem nI_mul (a b : Nat) : nI a * nI b = nI (a * b) := (Int32.ofNat_mul a b).symm
theorem m_ix (a c j : Nat) : nI a + 7 * nI c + nI j = nI (a + 7 * c + j) := by
  rw [show (7 : Int32) = nI 7 from rfl, nI_mul, nI_add, nI_add]
/-- the reference's league: the block of its own changed, nothing else -/
def SF (M : Mem) (g : LG) (M' : Mem) : Prop := gF (M' 20 0) = g ∧ ∀ b, b ≠ 20 → M' b = M b
theorem SF.rf {M : Mem} {g : LG} (h : gF (M 20 0) = g) : SF M g M := ⟨h, fun _ _ => rfl⟩
theorem SF.trans {M M1 M2 : Mem} {g g2 : LG} (h : SF M g M1) (h2 : SF M1 g2 M2) : SF M g2 M2 := ⟨h2.1, fun b hb => (h2.2 b hb).trans (h.2 b hb)⟩
theorem up3_row {M : Mem} {b r k : Nat} {v : Int32} : up3 M b r k v b r = upd (M b r) k v := by
  funext k'
  unfold up3 upd
  by_cases e : k' = k <;> simp [e]
theorem SF.putC {M : Mem} {g : LG} {c j : Nat} {v : Int32} (h : gF (M 20 0) = g) (hc : c < 10) (hj : j < 7) : SF M (gu g j c v) (up3 M 20 0 (9 + 7 * c + j) v) := ⟨by rw [up3_row, gF_pch hj hc, h], fun b hb => up3_off hb⟩
theorem SF.putM {M : Mem} {g : LG} {c j : Nat} {v : Int32} (h : gF (M 20 0) = g) (hc : c < 10) (hj : j < 7) : SF M (gu g (7 + j) c v) (up3 M 20 0 (79 + 7 * c + j) v) := ⟨by rw [up3_row, gF_pmu hj hc, h], fun b hb => up3_off hb⟩
theorem SF.pbk {M M1 : Mem} {g : LG} {k : Nat} {v : Int32} (h : SF M g M1) (hk : k < 9) : SF M (gu g 14 k v) (up3 M1 20 0 k v) := ⟨by rw [up3_row, gF_pbk hk, h.1], fun b hb => by rw [up3_off hb, h.2 b hb]⟩
theorem SF.bk {M M1 : Mem} {g : LG} {k : Nat} (h : SF M g M1) (hk : k < 9) : M1 20 0 k = g 14 k := by rw [← h.1, gF_bk hk]
theorem inB_inR {x : Int32} {n : Nat} (hn : n < 2 ^ 31) : inB x 0 (nI n - 1) = inR x n := by
  unfold inB inR
  congr 2
  have e : (nI n - 1 < x) ↔ (nI n ≤ x) ∨ (nI n - 1 < x) := ⟨Or.inr, fun h => h.elim (fun q => ?_) id⟩
  · have h1 : (nI n - 1).toInt = (n : Int) - 1 := by
      cases n with
      | zero => decide
      | succ n => rw [nI_pred, nI_toInt (by omega)]; omega
    apply decide_eq_decide.mpr
    rw [Int32.lt_iff_toInt_lt, Int32.le_iff_toInt_le, h1, nI_toInt hn]
    omega
  · have h1 : (nI n - 1).toInt = (n : Int) - 1 := by
      cases n with
      | zero => decide
      | succ n => rw [nI_pred, nI_toInt (by omega)]; omega
    rw [Int32.le_iff_toInt_le, nI_toInt hn] at q
    rw [Int32.lt_iff_toInt_lt, h1]
    omega
theorem zabs_lt {x : Int32} : zabs x = if x < 0 then -x else x := by
  unfold zabs
  by_cases e : x < 0
  · rw [if_pos e, if_neg (i32_nle.mpr e), Int32.zero_sub]
  · rw [if_neg e, if_pos (i32_nlt.mp e)]
def rm_X11_isBetween : Room := { frames := 0, cells := 0, slots := 0, locals := 0 }
theorem ks_X11_isBetween : KS yX11_isBetween cX11_isBetween 3 (some .boolean) 3 := ⟨⟨gw_241, gw_5, gw_242⟩, by decide +kernel⟩
set_option maxRecDepth 100000 in
set_option maxHeartbeats 4000000 in
theorem c_X11_isBetween (E : ZE) (M : Mem) (x lo hi : Int32) : Mt E yX11_isBetween cX11_isBetween 3 (some .boolean) rm_X11_isBetween [.int x, .int lo, .int hi] M (PI (zb (inB x lo hi)) M) := by
  refine z_met (own := RX11) (lv := [(0, .int x), (1, .int lo), (2, .int hi)]) (by decide) rfl (Nat.le_of_ble_eq_true rfl) rfl (fun gg X Y => ?_)
  refine z_iload_n X (pc := 0) 0 dX11_isBetween_0 rfl rfl ?_
  refine z_iload_n X (pc := 1) 1 dX11_isBetween_1 rfl rfl ?_
  refine z_icmp_lt X (pc := 2) (tgt := 14) dX11_isBetween_2 (by decide) (fun c2 => ?_) (fun c2 => ?_)
  · refine z_iconst X (pc := 14) (v := 0) dX11_isBetween_14 (by decide) ?_
    exact z_bret X Y dX11_isBetween_15 (by simp [inB, zb, c2]) rfl
  · refine z_iload_n X (pc := 5) 0 dX11_isBetween_5 rfl rfl ?_
    refine z_iload_n X (pc := 6) 2 dX11_isBetween_6 rfl rfl ?_
    refine z_icmp_gt X (pc := 7) (tgt := 14) dX11_isBetween_7 (by decide) (fun c7 => ?_) (fun c7 => ?_)
    · refine z_iconst X (pc := 14) (v := 0) dX11_isBetween_14 (by decide) ?_
      exact z_bret X Y dX11_isBetween_15 (by simp [inB, zb, c2, c7]) rfl
    · refine z_iconst X (pc := 10) (v := 1) dX11_isBetween_10 (by decide) ?_
      refine z_goto X (pc := 11) (tgt := 15) dX11_isBetween_11 (by decide) ?_
      exact z_bret X Y dX11_isBetween_15 (by simp [inB, zb, c2, c7]) rfl

def rm_X11_copyRow : Room := { frames := 0, cells := 0, slots := 0, locals := 0 }
theorem ks_X11_copyRow : KS yX11_copyRow cX11_copyRow 3 none 2 := ⟨⟨gw_259, gw_5, gw_260⟩, by decide +kernel⟩
set_option maxRecDepth 100000 in
set_option maxHeartbeats 4000000 in
theorem c_X11_copyRow (E : ZE) (M : Mem) (b1 b2 : Nat) (h1 : 20 ≤ b1 ∧ b1 ≤ 31) (h2 : 20 ≤ b2 ∧ b2 ≤ 31) (hne : b1 ≠ b2) : Mt E yX11_copyRow cX11_copyRow 3 none rm_X11_copyRow [.ref (za E b1 0), .ref (za E b2 0)] M (RV (fun M1 => gF (M1 b2 0) = gF (M b1 0) ∧ ∀ b, b ≠ b2 → M1 b = M b)) := by
  refine z_met (own := RX11) (lv := [(0, .ref (za E b1 0)), (1, .ref (za E b2 0))]) (by decide) rfl (Nat.le_of_ble_eq_true rfl) rfl (fun gg X Y => ?_)
  refine z_iconst X (pc := 0) (v := 0) dX11_copyRow_0 (by decide) ?_
  refine z_istore_n X (pc := 1) (lv1 := [(2, .int 0), (0, .ref (za E b1 0)), (1, .ref (za E b2 0))]) dX11_copyRow_1 rfl (by decide) rfl ?_
  refine z_sub (lv' := [(2, .int (nI 0)), (0, .ref (za E b1 0)), (1, .ref (za E b2 0))]) [0, 1, 2] rfl ?_
  refine z_loop (149) 2 (σ := Mem) (fun i s => CpR M b1 b2 i s) (fun i s => (s, [(2, .int (nI i)), (0, .ref (za E b1 0)), (1, .ref (za E b2 0))])) ?_ 0 M (Nat.zero_le _) CpR.init
  intro i s hi2 hJ2 ih2
  obtain ⟨M1, rfl⟩ : ∃ z, z = s := ⟨s, rfl⟩
  show Z gg E M1 [(2, .int (nI i)), (0, .ref (za E b1 0)), (1, .ref (za E b2 0))] 2 []
  replace hJ2 : CpR M b1 b2 i M1 := hJ2
  refine z_iload_n X (pc := 2) 0 dX11_copyRow_2 rfl rfl ?_
  refine z_sipush X (pc := 3) (v := 149) dX11_copyRow_3 (by decide) ?_
  refine z_nicmp_ge X (pc := 6) (a := i) (b := 149) (tgt := 21) dX11_copyRow_6 (by decide) (by omega) (by omega) (fun c6 => ?_) (fun c6 => ?_)
  · exact z_vret X Y dX11_copyRow_21 ⟨rfl, CpR.done hJ2 (by omega)⟩
  · refine z_aload_n X (pc := 9) 2 dX11_copyRow_9 rfl rfl ?_
    refine z_iload_n X (pc := 10) 0 dX11_copyRow_10 rfl rfl ?_
    refine z_aload_n X (pc := 11) 1 dX11_copyRow_11 rfl rfl ?_
    refine z_iload_n X (pc := 12) 0 dX11_copyRow_12 rfl rfl ?_
    refine z_iald X (pc := 13) (zkd_row h1) rfl (show i < zn b1 0 by rw [zn_row h1]; omega) dX11_copyRow_13 ?_
    refine z_iast X (pc := 14) (zkd_row h2) rfl (show i < zn b2 0 by rw [zn_row h2]; omega) dX11_copyRow_14 ?_
    refine z_iinc X (pc := 15) (v := (nI (i + 1))) (lv1 := [(2, .int (nI (i + 1))), (0, .ref (za E b1 0)), (1, .ref (za E b2 0))]) 0 dX11_copyRow_15 rfl (nI_1 _) (by decide) rfl ?_
    refine z_goto X (pc := 18) (tgt := 2) dX11_copyRow_18 (by decide) ?_
    refine z_sub (lv' := [(2, .int (nI (i + 1))), (0, .ref (za E b1 0)), (1, .ref (za E b2 0))]) [0, 1, 2] rfl ?_
    exact ih2 (up3 M1 b2 0 i (M1 b1 0 i)) (by omega) (CpR.go hJ2 hne)

def rm_X11_ofChair : Room := { frames := 0, cells := 0, slots := 0, locals := 0 }
theorem kv_X11_ofChair : KV yX11_ofChair RX11 cX11_ofChair 3 (some .int) 2 := ⟨⟨gw_324, gw_325, gw_5, gw_326⟩, by decide +kernel⟩
set_option maxRecDepth 100000 in
set_option maxHeartbeats 4000000 in
theorem c_X11_ofChair (E : ZE) (M : Mem) (g : LG) (hg : gF (M 20 0) = g) (c j : Nat) (hc : c < 10) (hj : j < 7) : Mt E yX11_ofChair cX11_ofChair 3 (some .int) rm_X11_ofChair [.ref (za E 32 0), .int (nI c), .int (nI j)] M (PI (g j c) M) := by
  refine z_met (own := RX11) (lv := [(0, .ref (za E 32 0)), (1, .int (nI c)), (2, .int (nI j))]) (by decide) rfl (Nat.le_of_ble_eq_true rfl) rfl (fun gg X Y => ?_)
  refine z_aload_n X (pc := 0) 0 dX11_ofChair_0 rfl rfl ?_
  refine z_get X (pc := 1) 0 zk_32_0 (zc_32_0 E _) rfl inlX11 (by decide) gw_138 rfl rfl dX11_ofChair_1 ?_
  refine z_bipush X (pc := 4) (v := 9) dX11_ofChair_4 (by decide) ?_
  refine z_bipush X (pc := 6) (v := 7) dX11_ofChair_6 (by decide) ?_
  refine z_iload_n X (pc := 8) 1 dX11_ofChair_8 rfl rfl ?_
  refine z_imul X (pc := 9) dX11_ofChair_9 ?_
  refine z_iadd X (pc := 10) dX11_ofChair_10 ?_
  refine z_iload_n X (pc := 11) 2 dX11_ofChair_11 rfl rfl ?_
  refine z_iadd X (pc := 12) dX11_ofChair_12 ?_
  refine z_iald X (pc := 13) (by decide) (m_ix 9 c j) (show 9 + 7 * c + j < 149 by omega) dX11_ofChair_13 ?_
  exact z_pret X Y dX11_ofChair_14 (by rw [← hg]; exact (gF_ch hj hc).symm) rfl

def rm_X11_of : Room := { frames := 0, cells := 0, slots := 0, locals := 0 }
theorem kv_X11_of : KV yX11_of RX11 cX11_of 3 (some .int) 2 := ⟨⟨gw_355, gw_356, gw_5, gw_357⟩, by decide +kernel⟩
set_option maxRecDepth 100000 in
set_option maxHeartbeats 4000000 in
theorem c_X11_of (E : ZE) (M : Mem) (g : LG) (hg : gF (M 20 0) = g) (c j : Nat) (hc : c < 10) (hj : j < 7) : Mt E yX11_of cX11_of 3 (some .int) rm_X11_of [.ref (za E 32 0), .int (nI c), .int (nI j)] M (PI (g (7 + j) c) M) := by
  refine z_met (own := RX11) (lv := [(0, .ref (za E 32 0)), (1, .int (nI c)), (2, .int (nI j))]) (by decide) rfl (Nat.le_of_ble_eq_true rfl) rfl (fun gg X Y => ?_)
  refine z_aload_n X (pc := 0) 0 dX11_of_0 rfl rfl ?_
  refine z_get X (pc := 1) 0 zk_32_0 (zc_32_0 E _) rfl inlX11 (by decide) gw_138 rfl rfl dX11_of_1 ?_
  refine z_bipush X (pc := 4) (v := 79) dX11_of_4 (by decide) ?_
  refine z_bipush X (pc := 6) (v := 7) dX11_of_6 (by decide) ?_
  refine z_iload_n X (pc := 8) 1 dX11_of_8 rfl rfl ?_
  refine z_imul X (pc := 9) dX11_of_9 ?_
  refine z_iadd X (pc := 10) dX11_of_10 ?_
  refine z_iload_n X (pc := 11) 2 dX11_of_11 rfl rfl ?_
  refine z_iadd X (pc := 12) dX11_of_12 ?_
  refine z_iald X (pc := 13) (by decide) (m_ix 79 c j) (show 79 + 7 * c + j < 149 by omega) dX11_of_13 ?_
  exact z_pret X Y dX11_of_14 (by rw [← hg]; exact (gF_mu hj hc).symm) rfl

def rm_X11_putChair : Room := { frames := 0, cells := 0, slots := 0, locals := 0 }
theorem kv_X11_putChair : KV yX11_putChair RX11 cX11_putChair 4 none 3 := ⟨⟨gw_262, gw_263, gw_5, gw_264⟩, by decide +kernel⟩
set_option maxRecDepth 100000 in
set_option maxHeartbeats 4000000 in
theorem c_X11_putChair (E : ZE) (M : Mem) (g : LG) (hg : gF (M 20 0) = g) (c j : Nat) (v : Int32) (hc : c < 10) (hj : j < 7) : Mt E yX11_putChair cX11_putChair 4 none rm_X11_putChair [.ref (za E 32 0), .int (nI c), .int (nI j), .int v] M (RV (SF M (gu g j c v))) := by
  refine z_met (own := RX11) (lv := [(0, .ref (za E 32 0)), (1, .int (nI c)), (2, .int (nI j)), (3, .int v)]) (by decide) rfl (Nat.le_of_ble_eq_true rfl) rfl (fun gg X Y => ?_)
  refine z_aload_n X (pc := 0) 0 dX11_putChair_0 rfl rfl ?_
  refine z_get X (pc := 1) 0 zk_32_0 (zc_32_0 E _) rfl inlX11 (by decide) gw_138 rfl rfl dX11_putChair_1 ?_
  refine z_bipush X (pc := 4) (v := 9) dX11_putChair_4 (by decide) ?_
  refine z_bipush X (pc := 6) (v := 7) dX11_putChair_6 (by decide) ?_
  refine z_iload_n X (pc := 8) 1 dX11_putChair_8 rfl rfl ?_
  refine z_imul X (pc := 9) dX11_putChair_9 ?_
  refine z_iadd X (pc := 10) dX11_putChair_10 ?_
  refine z_iload_n X (pc := 11) 2 dX11_putChair_11 rfl rfl ?_
  refine z_iadd X (pc := 12) dX11_putChair_12 ?_
  refine z_iload_n X (pc := 13) 3 dX11_putChair_13 rfl rfl ?_
  refine z_iast X (pc := 14) (by decide) (m_ix 9 c j) (show 9 + 7 * c + j < 149 by omega) dX11_putChair_14 ?_
  exact z_vret X Y dX11_putChair_15 ⟨rfl, SF.putC hg hc hj⟩

def rm_X11_put : Room := { frames := 0, cells := 0, slots := 0, locals := 0 }
theorem kv_X11_put : KV yX11_put RX11 cX11_put 4 none 3 := ⟨⟨gw_285, gw_286, gw_5, gw_287⟩, by decide +kernel⟩
set_option maxRecDepth 100000 in
set_option maxHeartbeats 4000000 in
theorem c_X11_put (E : ZE) (M : Mem) (g : LG) (hg : gF (M 20 0) = g) (c j : Nat) (v : Int32) (hc : c < 10) (hj : j < 7) : Mt E yX11_put cX11_put 4 none rm_X11_put [.ref (za E 32 0), .int (nI c), .int (nI j), .int v] M (RV (SF M (gu g (7 + j) c v))) := by
  refine z_met (own := RX11) (lv := [(0, .ref (za E 32 0)), (1, .int (nI c)), (2, .int (nI j)), (3, .int v)]) (by decide) rfl (Nat.le_of_ble_eq_true rfl) rfl (fun gg X Y => ?_)
  refine z_aload_n X (pc := 0) 0 dX11_put_0 rfl rfl ?_
  refine z_get X (pc := 1) 0 zk_32_0 (zc_32_0 E _) rfl inlX11 (by decide) gw_138 rfl rfl dX11_put_1 ?_
  refine z_bipush X (pc := 4) (v := 79) dX11_put_4 (by decide) ?_
  refine z_bipush X (pc := 6) (v := 7) dX11_put_6 (by decide) ?_
  refine z_iload_n X (pc := 8) 1 dX11_put_8 rfl rfl ?_
  refine z_imul X (pc := 9) dX11_put_9 ?_
  refine z_iadd X (pc := 10) dX11_put_10 ?_
  refine z_iload_n X (pc := 11) 2 dX11_put_11 rfl rfl ?_
  refine z_iadd X (pc := 12) dX11_put_12 ?_
  refine z_iload_n X (pc := 13) 3 dX11_put_13 rfl rfl ?_
  refine z_iast X (pc := 14) (by decide) (m_ix 79 c j) (show 79 + 7 * c + j < 149 by omega) dX11_put_14 ?_
  exact z_vret X Y dX11_put_15 ⟨rfl, SF.putM hg hc hj⟩

def rm_X11_isChair : Room := { frames := 1, cells := 0, slots := 0, locals := 22 }
theorem kv_X11_isChair : KV yX11_isChair RX11 cX11_isChair 2 (some .boolean) 1 := ⟨⟨gw_320, gw_321, gw_5, gw_322⟩, by decide +kernel⟩
set_option maxRecDepth 100000 in
set_option maxHeartbeats 4000000 in
theorem c_X11_isChair (E : ZE) (M : Mem) (g : LG) (hg : gF (M 20 0) = g) (nc : Nat) (hnc : g 14 7 = nI nc) (hn : nc ≤ 10) (x : Int32) : Mt E yX11_isChair cX11_isChair 2 (some .boolean) rm_X11_isChair [.ref (za E 32 0), .int x] M (PI (zb (inR x nc)) M) := by
  refine z_met (own := RX11) (lv := [(0, .ref (za E 32 0)), (1, .int x)]) (by decide) rfl (Nat.le_of_ble_eq_true rfl) rfl (fun gg X Y => ?_)
  refine z_iload_n X (pc := 0) 1 dX11_isChair_0 rfl rfl ?_
  refine z_iconst X (pc := 1) (v := 0) dX11_isChair_1 (by decide) ?_
  refine z_aload_n X (pc := 2) 0 dX11_isChair_2 rfl rfl ?_
  refine z_get X (pc := 3) 0 zk_32_0 (zc_32_0 E _) rfl inlX11 (by decide) gw_138 rfl rfl dX11_isChair_3 ?_
  refine z_bipush X (pc := 6) (v := 7) dX11_isChair_6 (by decide) ?_
  refine z_iald X (pc := 8) (by decide) (show (7 : Int32) = nI 7 from rfl) (by decide) dX11_isChair_8 ?_
  refine z_top (y := (nI nc)) ((SF.bk (SF.rf hg) (by decide)).trans hnc) ?_
  refine z_iconst X (pc := 9) (v := 1) dX11_isChair_9 (by decide) ?_
  refine z_isub X (pc := 10) dX11_isChair_10 ?_
  refine z_callS X (pc := 11) (rest := []) ks_X11_isBetween (c_X11_isBetween E M x 0 ((nI nc) - 1)) gw_240 (by decide) rfl rfl (Nat.le_of_ble_eq_true rfl) dX11_isChair_11 (zk_i ?_)
  exact z_bret X Y dX11_isChair_14 (by rw [inB_inR (by omega)]) rfl

def rm_X11_isMusician : Room := { frames := 1, cells := 0, slots := 0, locals := 22 }
theorem kv_X11_isMusician : KV yX11_isMusician RX11 cX11_isMusician 2 (some .boolean) 1 := ⟨⟨gw_351, gw_352, gw_5, gw_353⟩, by decide +kernel⟩
set_option maxRecDepth 100000 in
set_option maxHeartbeats 4000000 in
theorem c_X11_isMusician (E : ZE) (M : Mem) (g : LG) (hg : gF (M 20 0) = g) (nm : Nat) (hnm : g 14 8 = nI nm) (hn : nm ≤ 10) (x : Int32) : Mt E yX11_isMusician cX11_isMusician 2 (some .boolean) rm_X11_isMusician [.ref (za E 32 0), .int x] M (PI (zb (inR x nm)) M) := by
  refine z_met (own := RX11) (lv := [(0, .ref (za E 32 0)), (1, .int x)]) (by decide) rfl (Nat.le_of_ble_eq_true rfl) rfl (fun gg X Y => ?_)
  refine z_iload_n X (pc := 0) 1 dX11_isMusician_0 rfl rfl ?_
  refine z_iconst X (pc := 1) (v := 0) dX11_isMusician_1 (by decide) ?_
  refine z_aload_n X (pc := 2) 0 dX11_isMusician_2 rfl rfl ?_
  refine z_get X (pc := 3) 0 zk_32_0 (zc_32_0 E _) rfl inlX11 (by decide) gw_138 rfl rfl dX11_isMusician_3 ?_
  refine z_bipush X (pc := 6) (v := 8) dX11_isMusician_6 (by decide) ?_
  refine z_iald X (pc := 8) (by decide) (show (8 : Int32) = nI 8 from rfl) (by decide) dX11_isMusician_8 ?_
  refine z_top (y := (nI nm)) ((SF.bk (SF.rf hg) (by decide)).trans hnm) ?_
  refine z_iconst X (pc := 9) (v := 1) dX11_isMusician_9 (by decide) ?_
  refine z_isub X (pc := 10) dX11_isMusician_10 ?_
  refine z_callS X (pc := 11) (rest := []) ks_X11_isBetween (c_X11_isBetween E M x 0 ((nI nm) - 1)) gw_240 (by decide) rfl rfl (Nat.le_of_ble_eq_true rfl) dX11_isMusician_11 (zk_i ?_)
  exact z_bret X Y dX11_isMusician_14 (by rw [inB_inR (by omega)]) rfl

def rm_X11_comfort : Room := { frames := 1, cells := 0, slots := 0, locals := 22 }
theorem kv_X11_comfort : KV yX11_comfort RX11 cX11_comfort 2 (some .int) 1 := ⟨⟨gw_328, gw_329, gw_5, gw_330⟩, by decide +kernel⟩
set_option maxRecDepth 100000 in
set_option maxHeartbeats 4000000 in
theorem c_X11_comfort (E : ZE) (M : Mem) (g : LG) (hg : gF (M 20 0) = g) (c : Nat) (hc : c < 10) : Mt E yX11_comfort cX11_comfort 2 (some .int) rm_X11_comfort [.ref (za E 32 0), .int (nI c)] M (PI (comf g c) M) := by
  refine z_met (own := RX11) (lv := [(0, .ref (za E 32 0)), (1, .int (nI c))]) (by decide) rfl (Nat.le_of_ble_eq_true rfl) rfl (fun gg X Y => ?_)
  refine z_aload_n X (pc := 0) 0 dX11_comfort_0 rfl rfl ?_
  refine z_iload_n X (pc := 1) 1 dX11_comfort_1 rfl rfl ?_
  refine z_iconst X (pc := 2) (v := 2) dX11_comfort_2 (by decide) ?_
  refine z_callV X (pc := 3) (rest := []) kv_X11_ofChair (c_X11_ofChair E M g (And.left (SF.rf hg)) c 2 (show c < 10 by omega) (by decide)) zk_32_0 (zc_32_0 E _) rfl rfl gw_323 (by decide) rfl rfl (Nat.le_of_ble_eq_true rfl) dX11_comfort_3 (zk_i ?_)
  refine z_iconst X (pc := 6) (v := 3) dX11_comfort_6 (by decide) ?_
  refine z_aload_n X (pc := 7) 0 dX11_comfort_7 rfl rfl ?_
  refine z_iload_n X (pc := 8) 1 dX11_comfort_8 rfl rfl ?_
  refine z_iconst X (pc := 9) (v := 4) dX11_comfort_9 (by decide) ?_
  refine z_callV X (pc := 10) (rest := [.int 3, .int (g 2 c)]) kv_X11_ofChair (c_X11_ofChair E M g (And.left (SF.rf hg)) c 4 (show c < 10 by omega) (by decide)) zk_32_0 (zc_32_0 E _) rfl rfl gw_323 (by decide) rfl rfl (Nat.le_of_ble_eq_true rfl) dX11_comfort_10 (zk_i ?_)
  refine z_imul X (pc := 13) dX11_comfort_13 ?_
  refine z_iadd X (pc := 14) dX11_comfort_14 ?_
  exact z_pret X Y dX11_comfort_15 rfl rfl

def rm_X11_hasFallen : Room := { frames := 1, cells := 0, slots := 0, locals := 22 }
theorem kv_X11_hasFallen : KV yX11_hasFallen RX11 cX11_hasFallen 2 (some .boolean) 1 := ⟨⟨gw_451, gw_452, gw_5, gw_453⟩, by decide +kernel⟩
set_option maxRecDepth 100000 in
set_option maxHeartbeats 4000000 in
theorem c_X11_hasFallen (E : ZE) (M : Mem) (g : LG) (hg : gF (M 20 0) = g) (c : Nat) (hc : c < 10) : Mt E yX11_hasFallen cX11_hasFallen 2 (some .boolean) rm_X11_hasFallen [.ref (za E 32 0), .int (nI c)] M (PI (zb (fell g c)) M) := by
  refine z_met (own := RX11) (lv := [(0, .ref (za E 32 0)), (1, .int (nI c))]) (by decide) rfl (Nat.le_of_ble_eq_true rfl) rfl (fun gg X Y => ?_)
  refine z_aload_n X (pc := 0) 0 dX11_hasFallen_0 rfl rfl ?_
  refine z_iload_n X (pc := 1) 1 dX11_hasFallen_1 rfl rfl ?_
  refine z_iconst X (pc := 2) (v := 3) dX11_hasFallen_2 (by decide) ?_
  refine z_callV X (pc := 3) (rest := []) kv_X11_ofChair (c_X11_ofChair E M g (And.left (SF.rf hg)) c 3 (show c < 10 by omega) (by decide)) zk_32_0 (zc_32_0 E _) rfl rfl gw_323 (by decide) rfl rfl (Nat.le_of_ble_eq_true rfl) dX11_hasFallen_3 (zk_i ?_)
  refine z_if_ne X (pc := 6) (tgt := 13) dX11_hasFallen_6 (by decide) (fun c6 => ?_) (fun c6 => ?_)
  · refine z_iconst X (pc := 13) (v := 0) dX11_hasFallen_13 (by decide) ?_
    exact z_bret X Y dX11_hasFallen_14 (by simp [fell, zb, c6]) rfl
  · refine z_iconst X (pc := 9) (v := 1) dX11_hasFallen_9 (by decide) ?_
    refine z_goto X (pc := 10) (tgt := 14) dX11_hasFallen_10 (by decide) ?_
    exact z_bret X Y dX11_hasFallen_14 (by simp [fell, zb, c6]) rfl

def rm_X11_fitOf : Room := { frames := 1, cells := 0, slots := 0, locals := 22 }
theorem kv_X11_fitOf : KV yX11_fitOf RX11 cX11_fitOf 5 (some .int) 2 := ⟨⟨gw_383, gw_384, gw_5, gw_385⟩, by decide +kernel⟩
set_option maxRecDepth 100000 in
set_option maxHeartbeats 4000000 in
theorem c_X11_fitOf (E : ZE) (M : Mem) (g : LG) (hg : gF (M 20 0) = g) (c m : Nat) (hc : c < 10) (hm : m < 10) : Mt E yX11_fitOf cX11_fitOf 5 (some .int) rm_X11_fitOf [.ref (za E 32 0), .int (nI c), .int (nI m)] M (PI (fit g c m) M) := by
  refine z_met (own := RX11) (lv := [(0, .ref (za E 32 0)), (1, .int (nI c)), (2, .int (nI m))]) (by decide) rfl (Nat.le_of_ble_eq_true rfl) rfl (fun gg X Y => ?_)
  refine z_aload_n X (pc := 0) 0 dX11_fitOf_0 rfl rfl ?_
  refine z_iload_n X (pc := 1) 1 dX11_fitOf_1 rfl rfl ?_
  refine z_iconst X (pc := 2) (v := 1) dX11_fitOf_2 (by decide) ?_
  refine z_callV X (pc := 3) (rest := []) kv_X11_ofChair (c_X11_ofChair E M g (And.left (SF.rf hg)) c 1 (show c < 10 by omega) (by decide)) zk_32_0 (zc_32_0 E _) rfl rfl gw_323 (by decide) rfl rfl (Nat.le_of_ble_eq_true rfl) dX11_fitOf_3 (zk_i ?_)
  refine z_aload_n X (pc := 6) 0 dX11_fitOf_6 rfl rfl ?_
  refine z_iload_n X (pc := 7) 2 dX11_fitOf_7 rfl rfl ?_
  refine z_iconst X (pc := 8) (v := 1) dX11_fitOf_8 (by decide) ?_
  refine z_callV X (pc := 9) (rest := [.int (g 1 c)]) kv_X11_of (c_X11_of E M g (And.left (SF.rf hg)) m 1 (show m < 10 by omega) (by decide)) zk_32_0 (zc_32_0 E _) rfl rfl gw_354 (by decide) rfl rfl (Nat.le_of_ble_eq_true rfl) dX11_fitOf_9 (zk_i ?_)
  refine z_isub X (pc := 12) dX11_fitOf_12 ?_
  refine z_istore_n X (pc := 13) (lv1 := [(3, .int ((g 1 c) - (g 8 m))), (0, .ref (za E 32 0)), (1, .int (nI c)), (2, .int (nI m))]) dX11_fitOf_13 rfl (by decide) rfl ?_
  refine z_aload_n X (pc := 14) 1 dX11_fitOf_14 rfl rfl ?_
  refine z_iload_n X (pc := 15) 2 dX11_fitOf_15 rfl rfl ?_
  refine z_iconst X (pc := 16) (v := 0) dX11_fitOf_16 (by decide) ?_
  refine z_callV X (pc := 17) (rest := []) kv_X11_ofChair (c_X11_ofChair E M g (And.left (SF.rf hg)) c 0 (show c < 10 by omega) (by decide)) zk_32_0 (zc_32_0 E _) rfl rfl gw_323 (by decide) rfl rfl (Nat.le_of_ble_eq_true rfl) dX11_fitOf_17 (zk_i ?_)
  refine z_aload_n X (pc := 20) 1 dX11_fitOf_20 rfl rfl ?_
  refine z_iload_n X (pc := 21) 3 dX11_fitOf_21 rfl rfl ?_
  refine z_iconst X (pc := 22) (v := 0) dX11_fitOf_22 (by decide) ?_
  refine z_callV X (pc := 23) (rest := [.int (g 0 c)]) kv_X11_of (c_X11_of E M g (And.left (SF.rf hg)) m 0 (show m < 10 by omega) (by decide)) zk_32_0 (zc_32_0 E _) rfl rfl gw_354 (by decide) rfl rfl (Nat.le_of_ble_eq_true rfl) dX11_fitOf_23 (zk_i ?_)
  refine z_icmp_ne X (pc := 26) (tgt := 33) dX11_fitOf_26 (by decide) (fun c26 => ?_) (fun c26 => ?_)
  · refine z_iconst X (pc := 33) (v := 0) dX11_fitOf_33 (by decide) ?_
    refine z_istore X (pc := 34) (lv1 := [(4, .int 0), (3, .int ((g 1 c) - (g 8 m))), (0, .ref (za E 32 0)), (1, .int (nI c)), (2, .int (nI m))]) dX11_fitOf_34 (by decide) rfl ?_
    refine z_bipush X (pc := 36) (v := 9) dX11_fitOf_36 (by decide) ?_
    refine z_iload_n X (pc := 38) 1 dX11_fitOf_38 rfl rfl ?_
    refine z_if_ge X (pc := 39) (tgt := 47) dX11_fitOf_39 (by decide) (fun c39 => ?_) (fun c39 => ?_)
    · refine z_iload_n X (pc := 47) 1 dX11_fitOf_47 rfl rfl ?_
      refine z_isub X (pc := 48) dX11_fitOf_48 ?_
      refine z_iload X (pc := 49) 0 dX11_fitOf_49 rfl ?_
      refine z_iadd X (pc := 51) dX11_fitOf_51 ?_
      exact z_pret X Y dX11_fitOf_52 (by simp [fit, zabs_lt, c26, c39, (i32_nlt.mpr c39)]) rfl
    · refine z_iload_n X (pc := 42) 1 dX11_fitOf_42 rfl rfl ?_
      refine z_ineg X (pc := 43) dX11_fitOf_43 ?_
      refine z_goto X (pc := 44) (tgt := 48) dX11_fitOf_44 (by decide) ?_
      refine z_isub X (pc := 48) dX11_fitOf_48 ?_
      refine z_iload X (pc := 49) 0 dX11_fitOf_49 rfl ?_
      refine z_iadd X (pc := 51) dX11_fitOf_51 ?_
      exact z_pret X Y dX11_fitOf_52 (by simp [fit, zabs_lt, c26, c39, (i32_nle.mp c39)]) rfl
  · refine z_iconst X (pc := 29) (v := 4) dX11_fitOf_29 (by decide) ?_
    refine z_goto X (pc := 30) (tgt := 34) dX11_fitOf_30 (by decide) ?_
    refine z_istore X (pc := 34) (lv1 := [(4, .int 4), (3, .int ((g 1 c) - (g 8 m))), (0, .ref (za E 32 0)), (1, .int (nI c)), (2, .int (nI m))]) dX11_fitOf_34 (by decide) rfl ?_
    refine z_bipush X (pc := 36) (v := 9) dX11_fitOf_36 (by decide) ?_
    refine z_iload_n X (pc := 38) 1 dX11_fitOf_38 rfl rfl ?_
    refine z_if_ge X (pc := 39) (tgt := 47) dX11_fitOf_39 (by decide) (fun c39 => ?_) (fun c39 => ?_)
    · refine z_iload_n X (pc := 47) 1 dX11_fitOf_47 rfl rfl ?_
      refine z_isub X (pc := 48) dX11_fitOf_48 ?_
      refine z_iload X (pc := 49) 0 dX11_fitOf_49 rfl ?_
      refine z_iadd X (pc := 51) dX11_fitOf_51 ?_
      exact z_pret X Y dX11_fitOf_52 (by simp [fit, zabs_lt, c26, c39, (i32_nlt.mpr c39)]) rfl
    · refine z_iload_n X (pc := 42) 1 dX11_fitOf_42 rfl rfl ?_
      refine z_ineg X (pc := 43) dX11_fitOf_43 ?_
      refine z_goto X (pc := 44) (tgt := 48) dX11_fitOf_44 (by decide) ?_
      refine z_isub X (pc := 48) dX11_fitOf_48 ?_
      refine z_iload X (pc := 49) 0 dX11_fitOf_49 rfl ?_
      refine z_iadd X (pc := 51) dX11_fitOf_51 ?_
      exact z_pret X Y dX11_fitOf_52 (by simp [fit, zabs_lt, c26, c39, (i32_nle.mp c39)]) rfl

def rm_X11_wants : Room := { frames := 2, cells := 0, slots := 0, locals := 46 }
theorem kv_X11_wants : KV yX11_wants RX11 cX11_wants 3 (some .boolean) 2 := ⟨⟨gw_463, gw_464, gw_5, gw_465⟩, by decide +kernel⟩
set_option maxRecDepth 100000 in
set_option maxHeartbeats 4000000 in
theorem c_X11_wants (E : ZE) (M : Mem) (g : LG) (hg : gF (M 20 0) = g) (c m : Nat) (hc : c < 10) (hm : m < 10) : Mt E yX11_wants cX11_wants 3 (some .boolean) rm_X11_wants [.ref (za E 32 0), .int (nI c), .int (nI m)] M (PI (zb (wants g c m)) M) := by
  refine z_met (own := RX11) (lv := [(0, .ref (za E 32 0)), (1, .int (nI c)), (2, .int (nI m))]) (by decide) rfl (Nat.le_of_ble_eq_true rfl) rfl (fun gg X Y => ?_)
  refine z_aload_n X (pc := 0) 0 dX11_wants_0 rfl rfl ?_
  refine z_iload_n X (pc := 1) 1 dX11_wants_1 rfl rfl ?_
  refine z_iload_n X (pc := 2) 2 dX11_wants_2 rfl rfl ?_
  refine z_callV X (pc := 3) (rest := []) kv_X11_fitOf (c_X11_fitOf E M g (And.left (SF.rf hg)) c m (show c < 10 by omega) (show m < 10 by omega)) zk_32_0 (zc_32_0 E _) rfl rfl gw_382 (by decide) rfl rfl (Nat.le_of_ble_eq_true rfl) dX11_wants_3 (zk_i ?_)
  refine z_bipush X (pc := 6) (v := 6) dX11_wants_6 (by decide) ?_
  refine z_icmp_lt X (pc := 8) (tgt := 15) dX11_wants_8 (by decide) (fun c8 => ?_) (fun c8 => ?_)
  · refine z_iconst X (pc := 15) (v := 0) dX11_wants_15 (by decide) ?_
    exact z_bret X Y dX11_wants_16 (by simp [wants, zb, c8]) rfl
  · refine z_iconst X (pc := 11) (v := 1) dX11_wants_11 (by decide) ?_
    refine z_goto X (pc := 12) (tgt := 16) dX11_wants_12 (by decide) ?_
    exact z_bret X Y dX11_wants_16 (by simp [wants, zb, c8]) rfl

def rm_X11_bears : Room := { frames := 2, cells := 0, slots := 0, locals := 43 }
theorem kv_X11_bears : KV yX11_bears RX11 cX11_bears 3 (some .boolean) 2 := ⟨⟨gw_467, gw_468, gw_5, gw_469⟩, by decide +kernel⟩
set_option maxRecDepth 100000 in
set_option maxHeartbeats 4000000 in
theorem c_X11_bears (E : ZE) (M : Mem) (g : LG) (hg : gF (M 20 0) = g) (m c : Nat) (hm : m < 10) (hc : c < 10) : Mt E yX11_bears cX11_bears 3 (some .boolean) rm_X11_bears [.ref (za E 32 0), .int (nI m), .int (nI c)] M (PI (zb (bears g m c)) M) := by
  refine z_met (own := RX11) (lv := [(0, .ref (za E 32 0)), (1, .int (nI m)), (2, .int (nI c))]) (by decide) rfl (Nat.le_of_ble_eq_true rfl) rfl (fun gg X Y => ?_)
  refine z_aload_n X (pc := 0) 0 dX11_bears_0 rfl rfl ?_
  refine z_iload_n X (pc := 1) 2 dX11_bears_1 rfl rfl ?_
  refine z_callV X (pc := 2) (rest := []) kv_X11_hasFallen (c_X11_hasFallen E M g (And.left (SF.rf hg)) c (show c < 10 by omega)) zk_32_0 (zc_32_0 E _) rfl rfl gw_450 (by decide) rfl rfl (Nat.le_of_ble_eq_true rfl) dX11_bears_2 (zk_i ?_)
  refine z_bif_ne X (pc := 5) (tgt := 26) dX11_bears_5 (by decide) (fun c5 => ?_) (fun c5 => ?_)
  · refine z_iconst X (pc := 26) (v := 0) dX11_bears_26 (by decide) ?_
    exact z_bret X Y dX11_bears_27 (by simp [bears, zb, c5]) rfl
  · refine z_aload_n X (pc := 8) 0 dX11_bears_8 rfl rfl ?_
    refine z_iload_n X (pc := 9) 2 dX11_bears_9 rfl rfl ?_
    refine z_callV X (pc := 10) (rest := []) kv_X11_comfort (c_X11_comfort E M g (And.left (SF.rf hg)) c (show c < 10 by omega)) zk_32_0 (zc_32_0 E _) rfl rfl gw_327 (by decide) rfl rfl (Nat.le_of_ble_eq_true rfl) dX11_bears_10 (zk_i ?_)
    refine z_aload_n X (pc := 13) 0 dX11_bears_13 rfl rfl ?_
    refine z_iload_n X (pc := 14) 1 dX11_bears_14 rfl rfl ?_
    refine z_iconst X (pc := 15) (v := 2) dX11_bears_15 (by decide) ?_
    refine z_callV X (pc := 16) (rest := [.int (comf g c)]) kv_X11_of (c_X11_of E M g (And.left (SF.rf hg)) m 2 (show m < 10 by omega) (by decide)) zk_32_0 (zc_32_0 E _) rfl rfl gw_354 (by decide) rfl rfl (Nat.le_of_ble_eq_true rfl) dX11_bears_16 (zk_i ?_)
    refine z_icmp_lt X (pc := 19) (tgt := 26) dX11_bears_19 (by decide) (fun c19 => ?_) (fun c19 => ?_)
    · refine z_iconst X (pc := 26) (v := 0) dX11_bears_26 (by decide) ?_
      exact z_bret X Y dX11_bears_27 (by simp [bears, zb, c5, c19]) rfl
    · refine z_iconst X (pc := 22) (v := 1) dX11_bears_22 (by decide) ?_
      refine z_goto X (pc := 23) (tgt := 27) dX11_bears_23 (by decide) ?_
      exact z_bret X Y dX11_bears_27 (by simp [bears, zb, c5, c19]) rfl

def rm_X11_isRatherHad : Room := { frames := 2, cells := 0, slots := 0, locals := 46 }
theorem kv_X11_isRatherHad : KV yX11_isRatherHad RX11 cX11_isRatherHad 5 (some .boolean) 3 := ⟨⟨gw_568, gw_569, gw_5, gw_570⟩, by decide +kernel⟩
set_option maxRecDepth 100000 in
set_option maxHeartbeats 4000000 in
theorem c_X11_isRatherHad_no (E : ZE) (M : Mem) (g : LG) (hg : gF (M 20 0) = g) (c a : Nat) (hc : c < 10) (ha : a < 10) : Mt E yX11_isRatherHad cX11_isRatherHad 5 (some .boolean) rm_X11_isRatherHad [.ref (za E 32 0), .int (nI c), .int (nI a), .int ((-1))] M (PI 1 M) := by
  refine z_met (own := RX11) (lv := [(0, .ref (za E 32 0)), (1, .int (nI c)), (2, .int (nI a)), (3, .int ((-1)))]) (by decide) rfl (Nat.le_of_ble_eq_true rfl) rfl (fun gg X Y => ?_)
  refine z_iload_n X (pc := 0) 3 dX11_isRatherHad_0 rfl rfl ?_
  refine z_if_ge X (pc := 1) (tgt := 6) dX11_isRatherHad_1 (by decide) (fun c1 => ?_) (fun c1 => ?_)
  · exact absurd c1 (by decide)
  · refine z_iconst X (pc := 4) (v := 1) dX11_isRatherHad_4 (by decide) ?_
    exact z_zret X Y (by decide) dX11_isRatherHad_5 ⟨rfl, rfl⟩
set_option maxRecDepth 100000 in
set_option maxHeartbeats 4000000 in
theorem c_X11_isRatherHad (E : ZE) (M : Mem) (g : LG) (hg : gF (M 20 0) = g) (c a b : Nat) (hc : c < 10) (ha : a < 10) (hb : b < 10) : Mt E yX11_isRatherHad cX11_isRatherHad 5 (some .boolean) rm_X11_isRatherHad [.ref (za E 32 0), .int (nI c), .int (nI a), .int (nI b)] M (PI (zb (rhad g c a b)) M) := by
  refine z_met (own := RX11) (lv := [(0, .ref (za E 32 0)), (1, .int (nI c)), (2, .int (nI a)), (3, .int (nI b))]) (by decide) rfl (Nat.le_of_ble_eq_true rfl) rfl (fun gg X Y => ?_)
  refine z_iload_n X (pc := 0) 3 dX11_isRatherHad_0 rfl rfl ?_
  refine z_if_ge X (pc := 1) (tgt := 6) dX11_isRatherHad_1 (by decide) (fun c1 => ?_) (fun c1 => ?_)
  · refine z_aload_n X (pc := 6) 0 dX11_isRatherHad_6 rfl rfl ?_
    refine z_iload_n X (pc := 7) 1 dX11_isRatherHad_7 rfl rfl ?_
    refine z_iload_n X (pc := 8) 2 dX11_isRatherHad_8 rfl rfl ?_
    refine z_callV X (pc := 9) (rest := []) kv_X11_fitOf (c_X11_fitOf E M g (And.left (SF.rf hg)) c a (show c < 10 by omega) (show a < 10 by omega)) zk_32_0 (zc_32_0 E _) rfl rfl gw_382 (by decide) rfl rfl (Nat.le_of_ble_eq_true rfl) dX11_isRatherHad_9 (zk_i ?_)
    refine z_aload_n X (pc := 12) 0 dX11_isRatherHad_12 rfl rfl ?_
    refine z_iload_n X (pc := 13) 1 dX11_isRatherHad_13 rfl rfl ?_
    refine z_iload_n X (pc := 14) 3 dX11_isRatherHad_14 rfl rfl ?_
    refine z_callV X (pc := 15) (rest := [.int (fit g c a)]) kv_X11_fitOf (c_X11_fitOf E M g (And.left (SF.rf hg)) c b (show c < 10 by omega) (show b < 10 by omega)) zk_32_0 (zc_32_0 E _) rfl rfl gw_382 (by decide) rfl rfl (Nat.le_of_ble_eq_true rfl) dX11_isRatherHad_15 (zk_i ?_)
    refine z_isub X (pc := 18) dX11_isRatherHad_18 ?_
    refine z_istore X (pc := 19) (lv1 := [(4, .int ((fit g c a) - (fit g c b))), (0, .ref (za E 32 0)), (1, .int (nI c)), (2, .int (nI a)), (3, .int (nI b))]) dX11_isRatherHad_19 (by decide) rfl ?_
    refine z_iload X (pc := 21) 0 dX11_isRatherHad_21 rfl ?_
    refine z_if_eq X (pc := 23) (tgt := 39) dX11_isRatherHad_23 (by decide) (fun c23 => ?_) (fun c23 => ?_)
    · refine z_iload_n X (pc := 39) 3 dX11_isRatherHad_39 rfl rfl ?_
      refine z_iload_n X (pc := 40) 4 dX11_isRatherHad_40 rfl rfl ?_
      refine z_nicmp_ge X (pc := 41) (a := a) (b := b) (tgt := 48) dX11_isRatherHad_41 (by decide) (by omega) (by omega) (fun c41 => ?_) (fun c41 => ?_)
      · refine z_iconst X (pc := 48) (v := 0) dX11_isRatherHad_48 (by decide) ?_
        exact z_bret X Y dX11_isRatherHad_49 (by simp [rhad, zmore, zb, c1, c23, c41, (Nat.not_lt.mpr c41)]) rfl
      · refine z_iconst X (pc := 44) (v := 1) dX11_isRatherHad_44 (by decide) ?_
        refine z_goto X (pc := 45) (tgt := 49) dX11_isRatherHad_45 (by decide) ?_
        exact z_bret X Y dX11_isRatherHad_49 (by simp [rhad, zmore, zb, c1, c23, c41, (Nat.not_le.mp c41)]) rfl
    · refine z_iload X (pc := 26) 0 dX11_isRatherHad_26 rfl ?_
      refine z_if_le X (pc := 28) (tgt := 35) dX11_isRatherHad_28 (by decide) (fun c28 => ?_) (fun c28 => ?_)
      · refine z_iconst X (pc := 35) (v := 0) dX11_isRatherHad_35 (by decide) ?_
        refine z_goto X (pc := 36) (tgt := 49) dX11_isRatherHad_36 (by decide) ?_
        exact z_bret X Y dX11_isRatherHad_49 (by simp [rhad, zmore, zb, c1, c23, c28, (i32_nlt.mpr c28)]) rfl
      · refine z_iconst X (pc := 31) (v := 1) dX11_isRatherHad_31 (by decide) ?_
        refine z_goto X (pc := 32) (tgt := 49) dX11_isRatherHad_32 (by decide) ?_
        exact z_bret X Y dX11_isRatherHad_49 (by simp [rhad, zmore, zb, c1, c23, c28, (i32_nle.mp c28)]) rfl
  · exact absurd (nI_pos' (by omega)) c1

def rm_X11_isRatherSatOn : Room := { frames := 2, cells := 0, slots := 0, locals := 43 }
theorem kv_X11_isRatherSatOn : KV yX11_isRatherSatOn RX11 cX11_isRatherSatOn 4 (some .boolean) 2 := ⟨⟨gw_576, gw_577, gw_5, gw_578⟩, by decide +kernel⟩
set_option maxRecDepth 100000 in
set_option maxHeartbeats 4000000 in
theorem c_X11_isRatherSatOn_no (E : ZE) (M : Mem) (g : LG) (hg : gF (M 20 0) = g) (a : Nat) (ha : a < 10) : Mt E yX11_isRatherSatOn cX11_isRatherSatOn 4 (some .boolean) rm_X11_isRatherSatOn [.ref (za E 32 0), .int (nI a), .int ((-1))] M (PI 1 M) := by
  refine z_met (own := RX11) (lv := [(0, .ref (za E 32 0)), (1, .int (nI a)), (2, .int ((-1)))]) (by decide) rfl (Nat.le_of_ble_eq_true rfl) rfl (fun gg X Y => ?_)
  refine z_iload_n X (pc := 0) 2 dX11_isRatherSatOn_0 rfl rfl ?_
  refine z_if_ge X (pc := 1) (tgt := 6) dX11_isRatherSatOn_1 (by decide) (fun c1 => ?_) (fun c1 => ?_)
  · exact absurd c1 (by decide)
  · refine z_iconst X (pc := 4) (v := 1) dX11_isRatherSatOn_4 (by decide) ?_
    exact z_zret X Y (by decide) dX11_isRatherSatOn_5 ⟨rfl, rfl⟩
set_option maxRecDepth 100000 in
set_option maxHeartbeats 4000000 in
theorem c_X11_isRatherSatOn (E : ZE) (M : Mem) (g : LG) (hg : gF (M 20 0) = g) (a b : Nat) (ha : a < 10) (hb : b < 10) : Mt E yX11_isRatherSatOn cX11_isRatherSatOn 4 (some .boolean) rm_X11_isRatherSatOn [.ref (za E 32 0), .int (nI a), .int (nI b)] M (PI (zb (rsat g a b)) M) := by
  refine z_met (own := RX11) (lv := [(0, .ref (za E 32 0)), (1, .int (nI a)), (2, .int (nI b))]) (by decide) rfl (Nat.le_of_ble_eq_true rfl) rfl (fun gg X Y => ?_)
  refine z_iload_n X (pc := 0) 2 dX11_isRatherSatOn_0 rfl rfl ?_
  refine z_if_ge X (pc := 1) (tgt := 6) dX11_isRatherSatOn_1 (by decide) (fun c1 => ?_) (fun c1 => ?_)
  · refine z_aload_n X (pc := 6) 0 dX11_isRatherSatOn_6 rfl rfl ?_
    refine z_iload_n X (pc := 7) 1 dX11_isRatherSatOn_7 rfl rfl ?_
    refine z_callV X (pc := 8) (rest := []) kv_X11_comfort (c_X11_comfort E M g (And.left (SF.rf hg)) a (show a < 10 by omega)) zk_32_0 (zc_32_0 E _) rfl rfl gw_327 (by decide) rfl rfl (Nat.le_of_ble_eq_true rfl) dX11_isRatherSatOn_8 (zk_i ?_)
    refine z_aload_n X (pc := 11) 0 dX11_isRatherSatOn_11 rfl rfl ?_
    refine z_iload_n X (pc := 12) 2 dX11_isRatherSatOn_12 rfl rfl ?_
    refine z_callV X (pc := 13) (rest := [.int (comf g a)]) kv_X11_comfort (c_X11_comfort E M g (And.left (SF.rf hg)) b (show b < 10 by omega)) zk_32_0 (zc_32_0 E _) rfl rfl gw_327 (by decide) rfl rfl (Nat.le_of_ble_eq_true rfl) dX11_isRatherSatOn_13 (zk_i ?_)
    refine z_isub X (pc := 16) dX11_isRatherSatOn_16 ?_
    refine z_istore_n X (pc := 17) (lv1 := [(3, .int ((comf g a) - (comf g b))), (0, .ref (za E 32 0)), (1, .int (nI a)), (2, .int (nI b))]) dX11_isRatherSatOn_17 rfl (by decide) rfl ?_
    refine z_iload_n X (pc := 18) 0 dX11_isRatherSatOn_18 rfl rfl ?_
    refine z_if_eq X (pc := 19) (tgt := 34) dX11_isRatherSatOn_19 (by decide) (fun c19 => ?_) (fun c19 => ?_)
    · refine z_iload_n X (pc := 34) 2 dX11_isRatherSatOn_34 rfl rfl ?_
      refine z_iload_n X (pc := 35) 3 dX11_isRatherSatOn_35 rfl rfl ?_
      refine z_nicmp_ge X (pc := 36) (a := a) (b := b) (tgt := 43) dX11_isRatherSatOn_36 (by decide) (by omega) (by omega) (fun c36 => ?_) (fun c36 => ?_)
      · refine z_iconst X (pc := 43) (v := 0) dX11_isRatherSatOn_43 (by decide) ?_
        exact z_bret X Y dX11_isRatherSatOn_44 (by simp [rsat, zmore, zb, c1, c19, c36, (Nat.not_lt.mpr c36)]) rfl
      · refine z_iconst X (pc := 39) (v := 1) dX11_isRatherSatOn_39 (by decide) ?_
        refine z_goto X (pc := 40) (tgt := 44) dX11_isRatherSatOn_40 (by decide) ?_
        exact z_bret X Y dX11_isRatherSatOn_44 (by simp [rsat, zmore, zb, c1, c19, c36, (Nat.not_le.mp c36)]) rfl
    · refine z_iload_n X (pc := 22) 0 dX11_isRatherSatOn_22 rfl rfl ?_
      refine z_if_le X (pc := 23) (tgt := 30) dX11_isRatherSatOn_23 (by decide) (fun c23 => ?_) (fun c23 => ?_)
      · refine z_iconst X (pc := 30) (v := 0) dX11_isRatherSatOn_30 (by decide) ?_
        refine z_goto X (pc := 31) (tgt := 44) dX11_isRatherSatOn_31 (by decide) ?_
        exact z_bret X Y dX11_isRatherSatOn_44 (by simp [rsat, zmore, zb, c1, c19, c23, (i32_nlt.mpr c23)]) rfl
      · refine z_iconst X (pc := 26) (v := 1) dX11_isRatherSatOn_26 (by decide) ?_
        refine z_goto X (pc := 27) (tgt := 44) dX11_isRatherSatOn_27 (by decide) ?_
        exact z_bret X Y dX11_isRatherSatOn_44 (by simp [rsat, zmore, zb, c1, c19, c23, (i32_nle.mp c23)]) rfl
  · exact absurd (nI_pos' (by omega)) c1

def rm_X11_sit : Room := { frames := 1, cells := 0, slots := 0, locals := 23 }
theorem kv_X11_sit : KV yX11_sit RX11 cX11_sit 3 none 2 := ⟨⟨gw_471, gw_472, gw_5, gw_473⟩, by decide +kernel⟩
set_option maxRecDepth 100000 in
set_option maxHeartbeats 4000000 in
theorem c_X11_sit (E : ZE) (M : Mem) (g : LG) (hg : gF (M 20 0) = g) (m c : Nat) (hm : m < 10) (hc : c < 10) : Mt E yX11_sit cX11_sit 3 none rm_X11_sit [.ref (za E 32 0), .int (nI m), .int (nI c)] M (RV (SF M (sitG g c m))) := by
  refine z_met (own := RX11) (lv := [(0, .ref (za E 32 0)), (1, .int (nI m)), (2, .int (nI c))]) (by decide) rfl (Nat.le_of_ble_eq_true rfl) rfl (fun gg X Y => ?_)
  refine z_aload_n X (pc := 0) 0 dX11_sit_0 rfl rfl ?_
  refine z_iload_n X (pc := 1) 1 dX11_sit_1 rfl rfl ?_
  refine z_iconst X (pc := 2) (v := 5) dX11_sit_2 (by decide) ?_
  refine z_iload_n X (pc := 3) 2 dX11_sit_3 rfl rfl ?_
  refine z_callV X (pc := 4) (rest := []) kv_X11_put (c_X11_put E M g (And.left (SF.rf hg)) m 5 (nI c) (show m < 10 by omega) (by decide)) zk_32_0 (zc_32_0 E _) rfl rfl gw_284 (by decide) rfl rfl (Nat.le_of_ble_eq_true rfl) dX11_sit_4 (zk_rv (fun M_1 hS_2 => ?_))
  refine z_aload_n X (pc := 7) 0 dX11_sit_7 rfl rfl ?_
  refine z_iload_n X (pc := 8) 2 dX11_sit_8 rfl rfl ?_
  refine z_bipush X (pc := 9) (v := 6) dX11_sit_9 (by decide) ?_
  refine z_iload_n X (pc := 11) 1 dX11_sit_11 rfl rfl ?_
  refine z_callV X (pc := 12) (rest := []) kv_X11_putChair (c_X11_putChair E M_1 (gu g 12 m (nI c)) (And.left ((SF.rf hg).trans hS_2)) c 6 (nI m) (show c < 10 by omega) (by decide)) zk_32_0 (zc_32_0 E _) rfl rfl gw_261 (by decide) rfl rfl (Nat.le_of_ble_eq_true rfl) dX11_sit_12 (zk_rv (fun M_3 hS_4 => ?_))
  exact z_vret X Y dX11_sit_15 ⟨rfl, by have h := (((SF.rf hg).trans hS_2).trans hS_4); unfold sitG; rw [gu_comm (by omega)]; exact h⟩

def rm_X11_standUp : Room := { frames := 1, cells := 0, slots := 0, locals := 23 }
theorem kv_X11_standUp : KV yX11_standUp RX11 cX11_standUp 2 none 1 := ⟨⟨gw_496, gw_497, gw_5, gw_498⟩, by decide +kernel⟩
set_option maxRecDepth 100000 in
set_option maxHeartbeats 4000000 in
theorem c_X11_standUp (E : ZE) (M : Mem) (g : LG) (hg : gF (M 20 0) = g) (m : Nat) (hm : m < 10) (hp : nOr (g 12 m) 10) : Mt E yX11_standUp cX11_standUp 2 none rm_X11_standUp [.ref (za E 32 0), .int (nI m)] M (RV (SF M (leaveG g m))) := by
  refine z_met (own := RX11) (lv := [(0, .ref (za E 32 0)), (1, .int (nI m))]) (by decide) rfl (Nat.le_of_ble_eq_true rfl) rfl (fun gg X Y => ?_)
  refine z_aload_n X (pc := 0) 0 dX11_standUp_0 rfl rfl ?_
  refine z_iload_n X (pc := 1) 1 dX11_standUp_1 rfl rfl ?_
  refine z_iconst X (pc := 2) (v := 5) dX11_standUp_2 (by decide) ?_
  refine z_callV X (pc := 3) (rest := []) kv_X11_of (c_X11_of E M g (And.left (SF.rf hg)) m 5 (show m < 10 by omega) (by decide)) zk_32_0 (zc_32_0 E _) rfl rfl gw_354 (by decide) rfl rfl (Nat.le_of_ble_eq_true rfl) dX11_standUp_3 (zk_i ?_)
  rcases (show nOr (g 12 m) 10 from hp) with hp6 | ⟨k6, hk6, hp6⟩
  · refine z_top (y := ((-1))) hp6 ?_
    refine z_if_lt X (pc := 6) (tgt := 22) dX11_standUp_6 (by decide) (fun c6 => ?_) (fun c6 => ?_)
    · refine z_aload_n X (pc := 22) 0 dX11_standUp_22 rfl rfl ?_
      refine z_iload_n X (pc := 23) 1 dX11_standUp_23 rfl rfl ?_
      refine z_iconst X (pc := 24) (v := 5) dX11_standUp_24 (by decide) ?_
      refine z_iconst X (pc := 25) (v := (-1)) dX11_standUp_25 (by decide) ?_
      refine z_callV X (pc := 26) (rest := []) kv_X11_put (c_X11_put E M g (And.left (SF.rf hg)) m 5 ((-1)) (show m < 10 by omega) (by decide)) zk_32_0 (zc_32_0 E _) rfl rfl gw_284 (by decide) rfl rfl (Nat.le_of_ble_eq_true rfl) dX11_standUp_26 (zk_rv (fun M_1 hS_2 => ?_))
      refine z_aload_n X (pc := 29) 0 dX11_standUp_29 rfl rfl ?_
      refine z_iload_n X (pc := 30) 1 dX11_standUp_30 rfl rfl ?_
      refine z_iconst X (pc := 31) (v := 4) dX11_standUp_31 (by decide) ?_
      refine z_iconst X (pc := 32) (v := 0) dX11_standUp_32 (by decide) ?_
      refine z_callV X (pc := 33) (rest := []) kv_X11_put (c_X11_put E M_1 (gu g 12 m ((-1))) (And.left ((SF.rf hg).trans hS_2)) m 4 0 (show m < 10 by omega) (by decide)) zk_32_0 (zc_32_0 E _) rfl rfl gw_284 (by decide) rfl rfl (Nat.le_of_ble_eq_true rfl) dX11_standUp_33 (zk_rv (fun M_3 hS_4 => ?_))
      exact z_vret X Y dX11_standUp_36 ⟨rfl, by have h := (((SF.rf hg).trans hS_2).trans hS_4); simpa [leaveG, unsit, hp6] using h⟩
    · exact absurd (by decide) c6
  · refine z_top (y := (nI k6)) hp6 ?_
    refine z_if_lt X (pc := 6) (tgt := 22) dX11_standUp_6 (by decide) (fun c6 => ?_) (fun c6 => ?_)
    · exact absurd c6 (nI_pos (by omega))
    · refine z_aload_n X (pc := 9) 0 dX11_standUp_9 rfl rfl ?_
      refine z_aload_n X (pc := 10) 0 dX11_standUp_10 rfl rfl ?_
      refine z_iload_n X (pc := 11) 1 dX11_standUp_11 rfl rfl ?_
      refine z_iconst X (pc := 12) (v := 5) dX11_standUp_12 (by decide) ?_
      refine z_callV X (pc := 13) (rest := [.ref (za E 32 0)]) kv_X11_of (c_X11_of E M g (And.left (SF.rf hg)) m 5 (show m < 10 by omega) (by decide)) zk_32_0 (zc_32_0 E _) rfl rfl gw_354 (by decide) rfl rfl (Nat.le_of_ble_eq_true rfl) dX11_standUp_13 (zk_i ?_)
      refine z_top (y := (nI k6)) hp6 ?_
      refine z_bipush X (pc := 16) (v := 6) dX11_standUp_16 (by decide) ?_
      refine z_iconst X (pc := 18) (v := (-1)) dX11_standUp_18 (by decide) ?_
      refine z_callV X (pc := 19) (rest := []) kv_X11_putChair (c_X11_putChair E M g (And.left (SF.rf hg)) k6 6 ((-1)) (show k6 < 10 by omega) (by decide)) zk_32_0 (zc_32_0 E _) rfl rfl gw_261 (by decide) rfl rfl (Nat.le_of_ble_eq_true rfl) dX11_standUp_19 (zk_rv (fun M_5 hS_6 => ?_))
      refine z_aload_n X (pc := 22) 0 dX11_standUp_22 rfl rfl ?_
      refine z_iload_n X (pc := 23) 1 dX11_standUp_23 rfl rfl ?_
      refine z_iconst X (pc := 24) (v := 5) dX11_standUp_24 (by decide) ?_
      refine z_iconst X (pc := 25) (v := (-1)) dX11_standUp_25 (by decide) ?_
      refine z_callV X (pc := 26) (rest := []) kv_X11_put (c_X11_put E M_5 (gu g 6 k6 ((-1))) (And.left ((SF.rf hg).trans hS_6)) m 5 ((-1)) (show m < 10 by omega) (by decide)) zk_32_0 (zc_32_0 E _) rfl rfl gw_284 (by decide) rfl rfl (Nat.le_of_ble_eq_true rfl) dX11_standUp_26 (zk_rv (fun M_7 hS_8 => ?_))
      refine z_aload_n X (pc := 29) 0 dX11_standUp_29 rfl rfl ?_
      refine z_iload_n X (pc := 30) 1 dX11_standUp_30 rfl rfl ?_
      refine z_iconst X (pc := 31) (v := 4) dX11_standUp_31 (by decide) ?_
      refine z_iconst X (pc := 32) (v := 0) dX11_standUp_32 (by decide) ?_
      refine z_callV X (pc := 33) (rest := []) kv_X11_put (c_X11_put E M_7 (gu (gu g 6 k6 ((-1))) 12 m ((-1))) (And.left (((SF.rf hg).trans hS_6).trans hS_8)) m 4 0 (show m < 10 by omega) (by decide)) zk_32_0 (zc_32_0 E _) rfl rfl gw_284 (by decide) rfl rfl (Nat.le_of_ble_eq_true rfl) dX11_standUp_33 (zk_rv (fun M_9 hS_10 => ?_))
      exact z_vret X Y dX11_standUp_36 ⟨rfl, by have h := ((((SF.rf hg).trans hS_6).trans hS_8).trans hS_10); simpa [leaveG, unsit, hp6, nI_ne_m1 (show k6 < 2 ^ 31 by omega), nI_clamp (show k6 < 2 ^ 31 by omega)] using h⟩

def rm_X11_sitting : Room := { frames := 1, cells := 0, slots := 0, locals := 22 }
theorem kv_X11_sitting : KV yX11_sitting RX11 cX11_sitting 3 (some .int) 0 := ⟨⟨gw_475, gw_476, gw_5, gw_477⟩, by decide +kernel⟩
set_option maxRecDepth 100000 in
set_option maxHeartbeats 4000000 in
theorem c_X11_sitting (E : ZE) (M : Mem) (g : LG) (hg : gF (M 20 0) = g) (nm : Nat) (hnm : g 14 8 = nI nm) (hn : nm ≤ 10) (hs : ∀ m, m < nm → nOr (g 12 m) 10) : Mt E yX11_sitting cX11_sitting 3 (some .int) rm_X11_sitting [.ref (za E 32 0)] M (PI (nI (cntB (sits g) nm)) M) := by
  refine z_met (own := RX11) (lv := [(0, .ref (za E 32 0))]) (by decide) rfl (Nat.le_of_ble_eq_true rfl) rfl (fun gg X Y => ?_)
  refine z_iconst X (pc := 0) (v := 0) dX11_sitting_0 (by decide) ?_
  refine z_istore_n X (pc := 1) (lv1 := [(1, .int 0), (0, .ref (za E 32 0))]) dX11_sitting_1 rfl (by decide) rfl ?_
  refine z_iconst X (pc := 2) (v := 0) dX11_sitting_2 (by decide) ?_
  refine z_istore_n X (pc := 3) (lv1 := [(2, .int 0), (1, .int 0), (0, .ref (za E 32 0))]) dX11_sitting_3 rfl (by decide) rfl ?_
  refine z_sub (lv' := [(2, .int (nI 0)), (1, .int (nI (cntB (sits g) 0))), (0, .ref (za E 32 0))]) [0, 1, 2] rfl ?_
  refine z_loop (nm) 4 (σ := Unit) (fun i s => True) (fun i s => (M, [(2, .int (nI i)), (1, .int (nI (cntB (sits g) i))), (0, .ref (za E 32 0))])) ?_ 0 () (Nat.zero_le _) trivial
  intro i s hi4 hJ4 ih4
  show Z gg E M [(2, .int (nI i)), (1, .int (nI (cntB (sits g) i))), (0, .ref (za E 32 0))] 4 []
  refine z_iload_n X (pc := 4) 0 dX11_sitting_4 rfl rfl ?_
  refine z_aload_n X (pc := 5) 2 dX11_sitting_5 rfl rfl ?_
  refine z_get X (pc := 6) 0 zk_32_0 (zc_32_0 E _) rfl inlX11 (by decide) gw_138 rfl rfl dX11_sitting_6 ?_
  refine z_bipush X (pc := 9) (v := 8) dX11_sitting_9 (by decide) ?_
  refine z_iald X (pc := 11) (by decide) (show (8 : Int32) = nI 8 from rfl) (by decide) dX11_sitting_11 ?_
  refine z_top (y := (nI nm)) ((SF.bk (SF.rf hg) (by decide)).trans hnm) ?_
  refine z_nicmp_ge X (pc := 12) (a := i) (b := nm) (tgt := 38) dX11_sitting_12 (by decide) (by omega) (by omega) (fun c12 => ?_) (fun c12 => ?_)
  · refine z_iload_n X (pc := 38) 1 dX11_sitting_38 rfl rfl ?_
    exact z_pret X Y dX11_sitting_39 (by rw [show i = nm by omega]) rfl
  · refine z_iload_n X (pc := 15) 1 dX11_sitting_15 rfl rfl ?_
    refine z_aload_n X (pc := 16) 2 dX11_sitting_16 rfl rfl ?_
    refine z_iload_n X (pc := 17) 0 dX11_sitting_17 rfl rfl ?_
    refine z_iconst X (pc := 18) (v := 5) dX11_sitting_18 (by decide) ?_
    refine z_callV X (pc := 19) (rest := [.int (nI (cntB (sits g) i))]) kv_X11_of (c_X11_of E M g (And.left (SF.rf hg)) i 5 (show i < 10 by omega) (by decide)) zk_32_0 (zc_32_0 E _) rfl rfl gw_354 (by decide) rfl rfl (Nat.le_of_ble_eq_true rfl) dX11_sitting_19 (zk_i ?_)
    rcases hs i (by omega) with hp22 | ⟨k22, hk22, hp22⟩
    · refine z_top (y := ((-1))) hp22 ?_
      refine z_if_lt X (pc := 22) (tgt := 29) dX11_sitting_22 (by decide) (fun c22 => ?_) (fun c22 => ?_)
      · refine z_iconst X (pc := 29) (v := 0) dX11_sitting_29 (by decide) ?_
        refine z_iadd X (pc := 30) dX11_sitting_30 ?_
        refine z_top (y := (nI (cntB (sits g) i))) (Int32.add_zero _) ?_
        refine z_istore_n X (pc := 31) (lv1 := [(1, .int (nI (cntB (sits g) i))), (2, .int (nI i)), (0, .ref (za E 32 0))]) dX11_sitting_31 rfl (by decide) rfl ?_
        refine z_iinc X (pc := 32) (v := (nI (i + 1))) (lv1 := [(2, .int (nI (i + 1))), (1, .int (nI (cntB (sits g) i))), (0, .ref (za E 32 0))]) 1 dX11_sitting_32 rfl (nI_1 _) (by decide) rfl ?_
        refine z_goto X (pc := 35) (tgt := 4) dX11_sitting_35 (by decide) ?_
        refine z_sub (lv' := [(2, .int (nI (i + 1))), (1, .int (nI (cntB (sits g) i))), (0, .ref (za E 32 0))]) [0, 1, 2] rfl ?_
        refine z_eq (lv' := [(2, .int (nI (i + 1))), (1, .int (nI (cntB (sits g) (i + 1)))), (0, .ref (za E 32 0))]) (by simp [cntB, nI_1, sits, c12, hp22, c22]) rfl ?_
        exact ih4 () (by omega) trivial
      · exact absurd (by decide) c22
    · refine z_top (y := (nI k22)) hp22 ?_
      refine z_if_lt X (pc := 22) (tgt := 29) dX11_sitting_22 (by decide) (fun c22 => ?_) (fun c22 => ?_)
      · exact absurd c22 (nI_pos (by omega))
      · refine z_iconst X (pc := 25) (v := 1) dX11_sitting_25 (by decide) ?_
        refine z_goto X (pc := 26) (tgt := 30) dX11_sitting_26 (by decide) ?_
        refine z_iadd X (pc := 30) dX11_sitting_30 ?_
        refine z_top (y := (nI (cntB (sits g) i + 1))) (nI_1 _) ?_
        refine z_istore_n X (pc := 31) (lv1 := [(1, .int (nI (cntB (sits g) i + 1))), (2, .int (nI i)), (0, .ref (za E 32 0))]) dX11_sitting_31 rfl (by decide) rfl ?_
        refine z_iinc X (pc := 32) (v := (nI (i + 1))) (lv1 := [(2, .int (nI (i + 1))), (1, .int (nI (cntB (sits g) i + 1))), (0, .ref (za E 32 0))]) 1 dX11_sitting_32 rfl (nI_1 _) (by decide) rfl ?_
        refine z_goto X (pc := 35) (tgt := 4) dX11_sitting_35 (by decide) ?_
        refine z_sub (lv' := [(2, .int (nI (i + 1))), (1, .int (nI (cntB (sits g) i + 1))), (0, .ref (za E 32 0))]) [0, 1, 2] rfl ?_
        refine z_eq (lv' := [(2, .int (nI (i + 1))), (1, .int (nI (cntB (sits g) (i + 1)))), (0, .ref (za E 32 0))]) (by simp [cntB, nI_1, sits, c12, hp22, nI_ne_m1 (show k22 < 2 ^ 31 by omega), c22]) rfl ?_
        exact ih4 () (by omega) trivial

def rm_X11_fallen : Room := { frames := 2, cells := 0, slots := 0, locals := 43 }
theorem kv_X11_fallen : KV yX11_fallen RX11 cX11_fallen 3 (some .int) 0 := ⟨⟨gw_455, gw_456, gw_5, gw_457⟩, by decide +kernel⟩
set_option maxRecDepth 100000 in
set_option maxHeartbeats 4000000 in
theorem c_X11_fallen (E : ZE) (M : Mem) (g : LG) (hg : gF (M 20 0) = g) (nc : Nat) (hnc : g 14 7 = nI nc) (hn : nc ≤ 10) : Mt E yX11_fallen cX11_fallen 3 (some .int) rm_X11_fallen [.ref (za E 32 0)] M (PI (nI (cntB (fell g) nc)) M) := by
  refine z_met (own := RX11) (lv := [(0, .ref (za E 32 0))]) (by decide) rfl (Nat.le_of_ble_eq_true rfl) rfl (fun gg X Y => ?_)
  refine z_iconst X (pc := 0) (v := 0) dX11_fallen_0 (by decide) ?_
  refine z_istore_n X (pc := 1) (lv1 := [(1, .int 0), (0, .ref (za E 32 0))]) dX11_fallen_1 rfl (by decide) rfl ?_
  refine z_iconst X (pc := 2) (v := 0) dX11_fallen_2 (by decide) ?_
  refine z_istore_n X (pc := 3) (lv1 := [(2, .int 0), (1, .int 0), (0, .ref (za E 32 0))]) dX11_fallen_3 rfl (by decide) rfl ?_
  refine z_sub (lv' := [(2, .int (nI 0)), (1, .int (nI (cntB (fell g) 0))), (0, .ref (za E 32 0))]) [0, 1, 2] rfl ?_
  refine z_loop (nc) 4 (σ := Unit) (fun i s => True) (fun i s => (M, [(2, .int (nI i)), (1, .int (nI (cntB (fell g) i))), (0, .ref (za E 32 0))])) ?_ 0 () (Nat.zero_le _) trivial
  intro i s hi4 hJ4 ih4
  show Z gg E M [(2, .int (nI i)), (1, .int (nI (cntB (fell g) i))), (0, .ref (za E 32 0))] 4 []
  refine z_iload_n X (pc := 4) 0 dX11_fallen_4 rfl rfl ?_
  refine z_aload_n X (pc := 5) 2 dX11_fallen_5 rfl rfl ?_
  refine z_get X (pc := 6) 0 zk_32_0 (zc_32_0 E _) rfl inlX11 (by decide) gw_138 rfl rfl dX11_fallen_6 ?_
  refine z_bipush X (pc := 9) (v := 7) dX11_fallen_9 (by decide) ?_
  refine z_iald X (pc := 11) (by decide) (show (7 : Int32) = nI 7 from rfl) (by decide) dX11_fallen_11 ?_
  refine z_top (y := (nI nc)) ((SF.bk (SF.rf hg) (by decide)).trans hnc) ?_
  refine z_nicmp_ge X (pc := 12) (a := i) (b := nc) (tgt := 37) dX11_fallen_12 (by decide) (by omega) (by omega) (fun c12 => ?_) (fun c12 => ?_)
  · refine z_iload_n X (pc := 37) 1 dX11_fallen_37 rfl rfl ?_
    exact z_pret X Y dX11_fallen_38 (by rw [show i = nc by omega]) rfl
  · refine z_iload_n X (pc := 15) 1 dX11_fallen_15 rfl rfl ?_
    refine z_aload_n X (pc := 16) 2 dX11_fallen_16 rfl rfl ?_
    refine z_iload_n X (pc := 17) 0 dX11_fallen_17 rfl rfl ?_
    refine z_callV X (pc := 18) (rest := [.int (nI (cntB (fell g) i))]) kv_X11_hasFallen (c_X11_hasFallen E M g (And.left (SF.rf hg)) i (show i < 10 by omega)) zk_32_0 (zc_32_0 E _) rfl rfl gw_450 (by decide) rfl rfl (Nat.le_of_ble_eq_true rfl) dX11_fallen_18 (zk_i ?_)
    refine z_bif_eq X (pc := 21) (tgt := 28) dX11_fallen_21 (by decide) (fun c21 => ?_) (fun c21 => ?_)
    · refine z_iconst X (pc := 28) (v := 0) dX11_fallen_28 (by decide) ?_
      refine z_iadd X (pc := 29) dX11_fallen_29 ?_
      refine z_top (y := (nI (cntB (fell g) i))) (Int32.add_zero _) ?_
      refine z_istore_n X (pc := 30) (lv1 := [(1, .int (nI (cntB (fell g) i))), (2, .int (nI i)), (0, .ref (za E 32 0))]) dX11_fallen_30 rfl (by decide) rfl ?_
      refine z_iinc X (pc := 31) (v := (nI (i + 1))) (lv1 := [(2, .int (nI (i + 1))), (1, .int (nI (cntB (fell g) i))), (0, .ref (za E 32 0))]) 1 dX11_fallen_31 rfl (nI_1 _) (by decide) rfl ?_
      refine z_goto X (pc := 34) (tgt := 4) dX11_fallen_34 (by decide) ?_
      refine z_sub (lv' := [(2, .int (nI (i + 1))), (1, .int (nI (cntB (fell g) i))), (0, .ref (za E 32 0))]) [0, 1, 2] rfl ?_
      refine z_eq (lv' := [(2, .int (nI (i + 1))), (1, .int (nI (cntB (fell g) (i + 1)))), (0, .ref (za E 32 0))]) (by simp [cntB, nI_1, c12, c21]) rfl ?_
      exact ih4 () (by omega) trivial
    · refine z_iconst X (pc := 24) (v := 1) dX11_fallen_24 (by decide) ?_
      refine z_goto X (pc := 25) (tgt := 29) dX11_fallen_25 (by decide) ?_
      refine z_iadd X (pc := 29) dX11_fallen_29 ?_
      refine z_top (y := (nI (cntB (fell g) i + 1))) (nI_1 _) ?_
      refine z_istore_n X (pc := 30) (lv1 := [(1, .int (nI (cntB (fell g) i + 1))), (2, .int (nI i)), (0, .ref (za E 32 0))]) dX11_fallen_30 rfl (by decide) rfl ?_
      refine z_iinc X (pc := 31) (v := (nI (i + 1))) (lv1 := [(2, .int (nI (i + 1))), (1, .int (nI (cntB (fell g) i + 1))), (0, .ref (za E 32 0))]) 1 dX11_fallen_31 rfl (nI_1 _) (by decide) rfl ?_
      refine z_goto X (pc := 34) (tgt := 4) dX11_fallen_34 (by decide) ?_
      refine z_sub (lv' := [(2, .int (nI (i + 1))), (1, .int (nI (cntB (fell g) i + 1))), (0, .ref (za E 32 0))]) [0, 1, 2] rfl ?_
      refine z_eq (lv' := [(2, .int (nI (i + 1))), (1, .int (nI (cntB (fell g) (i + 1)))), (0, .ref (za E 32 0))]) (by simp [cntB, nI_1, c12, c21]) rfl ?_
      exact ih4 () (by omega) trivial

def rm_X11_allCoins : Room := { frames := 1, cells := 0, slots := 0, locals := 22 }
theorem kv_X11_allCoins : KV yX11_allCoins RX11 cX11_allCoins 3 (some .int) 0 := ⟨⟨gw_1089, gw_1090, gw_5, gw_1091⟩, by decide +kernel⟩
set_option maxRecDepth 100000 in
set_option maxHeartbeats 4000000 in
theorem c_X11_allCoins (E : ZE) (M : Mem) (g : LG) (hg : gF (M 20 0) = g) (nm : Nat) (hnm : g 14 8 = nI nm) (hn : nm ≤ 10) : Mt E yX11_allCoins cX11_allCoins 3 (some .int) rm_X11_allCoins [.ref (za E 32 0)] M (PI (sumI (g 10) nm) M) := by
  refine z_met (own := RX11) (lv := [(0, .ref (za E 32 0))]) (by decide) rfl (Nat.le_of_ble_eq_true rfl) rfl (fun gg X Y => ?_)
  refine z_iconst X (pc := 0) (v := 0) dX11_allCoins_0 (by decide) ?_
  refine z_istore_n X (pc := 1) (lv1 := [(1, .int 0), (0, .ref (za E 32 0))]) dX11_allCoins_1 rfl (by decide) rfl ?_
  refine z_iconst X (pc := 2) (v := 0) dX11_allCoins_2 (by decide) ?_
  refine z_istore_n X (pc := 3) (lv1 := [(2, .int 0), (1, .int 0), (0, .ref (za E 32 0))]) dX11_allCoins_3 rfl (by decide) rfl ?_
  refine z_sub (lv' := [(2, .int (nI 0)), (1, .int (sumI (g 10) 0)), (0, .ref (za E 32 0))]) [0, 1, 2] rfl ?_
  refine z_loop (nm) 4 (σ := Unit) (fun i s => True) (fun i s => (M, [(2, .int (nI i)), (1, .int (sumI (g 10) i)), (0, .ref (za E 32 0))])) ?_ 0 () (Nat.zero_le _) trivial
  intro i s hi4 hJ4 ih4
  show Z gg E M [(2, .int (nI i)), (1, .int (sumI (g 10) i)), (0, .ref (za E 32 0))] 4 []
  refine z_iload_n X (pc := 4) 0 dX11_allCoins_4 rfl rfl ?_
  refine z_aload_n X (pc := 5) 2 dX11_allCoins_5 rfl rfl ?_
  refine z_get X (pc := 6) 0 zk_32_0 (zc_32_0 E _) rfl inlX11 (by decide) gw_138 rfl rfl dX11_allCoins_6 ?_
  refine z_bipush X (pc := 9) (v := 8) dX11_allCoins_9 (by decide) ?_
  refine z_iald X (pc := 11) (by decide) (show (8 : Int32) = nI 8 from rfl) (by decide) dX11_allCoins_11 ?_
  refine z_top (y := (nI nm)) ((SF.bk (SF.rf hg) (by decide)).trans hnm) ?_
  refine z_nicmp_ge X (pc := 12) (a := i) (b := nm) (tgt := 30) dX11_allCoins_12 (by decide) (by omega) (by omega) (fun c12 => ?_) (fun c12 => ?_)
  · refine z_iload_n X (pc := 30) 1 dX11_allCoins_30 rfl rfl ?_
    exact z_pret X Y dX11_allCoins_31 (by rw [show i = nm by omega]) rfl
  · refine z_iload_n X (pc := 15) 1 dX11_allCoins_15 rfl rfl ?_
    refine z_aload_n X (pc := 16) 2 dX11_allCoins_16 rfl rfl ?_
    refine z_iload_n X (pc := 17) 0 dX11_allCoins_17 rfl rfl ?_
    refine z_iconst X (pc := 18) (v := 3) dX11_allCoins_18 (by decide) ?_
    refine z_callV X (pc := 19) (rest := [.int (sumI (g 10) i)]) kv_X11_of (c_X11_of E M g (And.left (SF.rf hg)) i 3 (show i < 10 by omega) (by decide)) zk_32_0 (zc_32_0 E _) rfl rfl gw_354 (by decide) rfl rfl (Nat.le_of_ble_eq_true rfl) dX11_allCoins_19 (zk_i ?_)
    refine z_iadd X (pc := 22) dX11_allCoins_22 ?_
    refine z_istore_n X (pc := 23) (lv1 := [(1, .int ((sumI (g 10) i) + (g 10 i))), (2, .int (nI i)), (0, .ref (za E 32 0))]) dX11_allCoins_23 rfl (by decide) rfl ?_
    refine z_iinc X (pc := 24) (v := (nI (i + 1))) (lv1 := [(2, .int (nI (i + 1))), (1, .int ((sumI (g 10) i) + (g 10 i))), (0, .ref (za E 32 0))]) 1 dX11_allCoins_24 rfl (nI_1 _) (by decide) rfl ?_
    refine z_goto X (pc := 27) (tgt := 4) dX11_allCoins_27 (by decide) ?_
    refine z_sub (lv' := [(2, .int (nI (i + 1))), (1, .int ((sumI (g 10) i) + (g 10 i))), (0, .ref (za E 32 0))]) [0, 1, 2] rfl ?_
    refine z_eq (lv' := [(2, .int (nI (i + 1))), (1, .int (sumI (g 10) (i + 1))), (0, .ref (za E 32 0))]) (by simp [sumI]) rfl ?_
    exact ih4 () (by omega) trivial
