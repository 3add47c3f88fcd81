/-! ===== the law's areOrders ===== -/
theorem nI_m1 (k : Nat) : nI (k + 1) - 1 = nI k := nI_sub (a := k + 1) (b := 1) (by omega)
theorem cA_cases {g : LG} {a b : Nat} (h : cAhead g a b = true) : 0 < g 5 a - g 5 b ∨ (g 5 a - g 5 b = 0 ∧ (0 < comf g a - comf g b ∨ (comf g a - comf g b = 0 ∧ a < b))) := by
  unfold cAhead rsat zmore at h
  simpa only [Bool.or_eq_true, Bool.and_eq_true, decide_eq_true_eq] using h
theorem mA_cases {g : LG} {a b : Nat} (h : mAhead g a b = true) : 0 < g 10 a - g 10 b ∨ (g 10 a - g 10 b = 0 ∧ ((¬ g 12 a = -1 ∧ g 12 b = -1) ∨ ((g 12 a = -1 ↔ g 12 b = -1) ∧ a < b))) := by
  unfold mAhead at h
  by_cases e : g 10 a - g 10 b = 0
  · rw [if_pos e] at h
    refine Or.inr ⟨e, ?_⟩
    by_cases ha : g 12 a = -1 <;> by_cases hb : g 12 b = -1 <;> simp [sits, ha, hb] at h ⊢ <;> try exact h
  · rw [if_neg e] at h
    exact Or.inl (of_decide_eq_true h)
def rm_L_areOrders : Room := { frames := 5, cells := 0, slots := 0, locals := 112 }
theorem ks_L_areOrders : KS yL_areOrders cL_areOrders 9 (some .boolean) 1 := ⟨⟨gw_735, gw_352, gw_736⟩, by decide +kernel⟩
set_option maxRecDepth 100000 in
set_option maxHeartbeats 4000000 in
theorem c_L_areOrders (E : ZE) (M : Mem) (S : LSt) (hX : XS M S) (nc nm n : Nat) (hI : Inv S.1 nc nm n) : MtX E yL_areOrders cL_areOrders 9 (some .boolean) rm_L_areOrders [.ref (za E 17 0)] M (fun _ => True) (RI (fun v M1 => v = 1 ∧ M1 = M)) 0 0 := by
  have hn := hI.c10; have hn2 := hI.m10
  refine x_met (own := RL) (lv := [(0, .ref (za E 17 0))]) (by decide) rfl (Nat.le_of_ble_eq_true rfl) rfl (fun gg X hPr Y => ?_)
  refine x_aload_n X (pc := 0) 0 dL_areOrders_0 rfl rfl ?_
  refine x_iconst X (pc := 1) (v := 0) dL_areOrders_1 (by decide) ?_
  refine x_callV X ⟨Nat.zero_le _, Nat.zero_le _⟩ (pc := 2) (rest := []) kv_X10_account (q_ac hX hI (ac_0 hI)) zk_17_0 (zc_17_0 E _) rfl rfl gw_356 ⟨⟨rfl, rfl⟩, Nat.le_of_ble_eq_true rfl, Nat.le_of_ble_eq_true rfl⟩ rfl rfl (Nat.le_of_ble_eq_true rfl) dL_areOrders_2 (x_pi ?_)
  refine x_istore_n X (pc := 5) (lv1 := [(1, .int (nI nc)), (0, .ref (za E 17 0))]) dL_areOrders_5 rfl (by decide) rfl ?_
  refine x_aload_n X (pc := 6) 1 dL_areOrders_6 rfl rfl ?_
  refine x_iconst X (pc := 7) (v := 1) dL_areOrders_7 (by decide) ?_
  refine x_callV X ⟨Nat.zero_le _, Nat.zero_le _⟩ (pc := 8) (rest := []) kv_X10_account (q_ac hX hI (ac_1 hI)) zk_17_0 (zc_17_0 E _) rfl rfl gw_356 ⟨⟨rfl, rfl⟩, Nat.le_of_ble_eq_true rfl, Nat.le_of_ble_eq_true rfl⟩ rfl rfl (Nat.le_of_ble_eq_true rfl) dL_areOrders_8 (x_pi ?_)
  refine x_istore_n X (pc := 11) (lv1 := [(2, .int (nI nm)), (1, .int (nI nc)), (0, .ref (za E 17 0))]) dL_areOrders_11 rfl (by decide) rfl ?_
  refine x_aload_n X (pc := 12) 2 dL_areOrders_12 rfl rfl ?_
  refine x_iload_n X (pc := 13) 1 dL_areOrders_13 rfl rfl ?_
  refine x_callV X ⟨Nat.zero_le _, Nat.zero_le _⟩ (pc := 14) (rest := []) kv_X10_ranked (q_ranked hX hI (plc_no (cAhead_ord hI) hI.c10 (Or.inr rfl))) zk_17_0 (zc_17_0 E _) rfl rfl gw_737 ⟨⟨rfl, rfl⟩, Nat.le_of_ble_eq_true rfl, Nat.le_of_ble_eq_true rfl⟩ rfl rfl (Nat.le_of_ble_eq_true rfl) dL_areOrders_14 (x_pi ?_)
  refine x_sipush X (pc := 17) (v := (-1011)) dL_areOrders_17 (by decide) ?_
  refine x_icmp_ne X (pc := 20) (tgt := 49) dL_areOrders_20 (by decide) (fun z => absurd (by decide) z) (fun _ => ?_)
  refine x_aload_n X (pc := 23) 2 dL_areOrders_23 rfl rfl ?_
  refine x_iconst X (pc := 24) (v := (-1)) dL_areOrders_24 (by decide) ?_
  refine x_callV X ⟨Nat.zero_le _, Nat.zero_le _⟩ (pc := 25) (rest := []) kv_X10_ranked (q_ranked hX hI (plc_no (cAhead_ord hI) hI.c10 (Or.inl rfl))) zk_17_0 (zc_17_0 E _) rfl rfl gw_737 ⟨⟨rfl, rfl⟩, Nat.le_of_ble_eq_true rfl, Nat.le_of_ble_eq_true rfl⟩ rfl rfl (Nat.le_of_ble_eq_true rfl) dL_areOrders_25 (x_pi ?_)
  refine x_sipush X (pc := 28) (v := (-1011)) dL_areOrders_28 (by decide) ?_
  refine x_icmp_ne X (pc := 31) (tgt := 49) dL_areOrders_31 (by decide) (fun z => absurd (by decide) z) (fun _ => ?_)
  refine x_aload_n X (pc := 34) 2 dL_areOrders_34 rfl rfl ?_
  refine x_iload_n X (pc := 35) 0 dL_areOrders_35 rfl rfl ?_
  refine x_callV X ⟨Nat.zero_le _, Nat.zero_le _⟩ (pc := 36) (rest := []) kv_X10_richest (q_richest hX hI (plc_no (mAhead_ord hI) hI.m10 (Or.inr rfl))) zk_17_0 (zc_17_0 E _) rfl rfl gw_746 ⟨⟨rfl, rfl⟩, Nat.le_of_ble_eq_true rfl, Nat.le_of_ble_eq_true rfl⟩ rfl rfl (Nat.le_of_ble_eq_true rfl) dL_areOrders_36 (x_pi ?_)
  refine x_sipush X (pc := 39) (v := (-1011)) dL_areOrders_39 (by decide) ?_
  refine x_icmp_ne X (pc := 42) (tgt := 49) dL_areOrders_42 (by decide) (fun z => absurd (by decide) z) (fun _ => ?_)
  refine x_iconst X (pc := 45) (v := 1) dL_areOrders_45 (by decide) ?_
  refine x_goto X (pc := 46) (tgt := 50) dL_areOrders_46 (by decide) ?_
  refine x_istore_n X (pc := 50) (lv1 := [(3, .int 1), (2, .int (nI nm)), (1, .int (nI nc)), (0, .ref (za E 17 0))]) dL_areOrders_50 rfl (by decide) rfl ?_
  refine x_iconst X (pc := 51) (v := 1) dL_areOrders_51 (by decide) ?_
  refine x_istore X (pc := 52) (lv1 := [(4, .int 1), (3, .int 1), (2, .int (nI nm)), (1, .int (nI nc)), (0, .ref (za E 17 0))]) dL_areOrders_52 (by decide) rfl ?_
  refine x_sub (lv' := [(4, .int 1), (3, .int 1), (2, .int (nI nm)), (1, .int (nI nc)), (0, .ref (za E 17 0))]) [0, 1, 2, 3, 4] rfl ?_
  refine x_eq (lv' := [(4, .int (nI (0 + 1))), (3, .int 1), (2, .int (nI nm)), (1, .int (nI nc)), (0, .ref (za E 17 0))]) rfl rfl ?_
  refine x_loop nc 54 (σ := Unit) (fun _ _ => True) (fun k _ => (M, [(4, .int (nI (k + 1))), (3, .int 1), (2, .int (nI nm)), (1, .int (nI nc)), (0, .ref (za E 17 0))])) ?_ 0 () (Nat.zero_le _) trivial
  intro k _ hk _ ih54
  show ZX gg E _ _ _ M [(4, .int (nI (k + 1))), (3, .int 1), (2, .int (nI nm)), (1, .int (nI nc)), (0, .ref (za E 17 0))] 54 []
  refine x_iload_n X (pc := 54) 1 dL_areOrders_54 rfl rfl ?_
  refine x_if_eq X (pc := 55) (tgt := 157) dL_areOrders_55 (by decide) (fun z => absurd z (by decide)) (fun _ => ?_)
  refine x_iload X (pc := 58) 0 dL_areOrders_58 rfl ?_
  refine x_iload_n X (pc := 60) 3 dL_areOrders_60 rfl rfl ?_
  refine x_nicmp_ge X (pc := 61) (a := k + 1) (b := nc) (tgt := 157) dL_areOrders_61 (by decide) (by omega) (by omega) (fun c61 => ?_) (fun c61 => ?_)
  · refine x_iconst X (pc := 157) (v := 1) dL_areOrders_157 (by decide) ?_
    refine x_istore X (pc := 158) (lv1 := [(4, .int 1), (3, .int 1), (2, .int (nI nm)), (1, .int (nI nc)), (0, .ref (za E 17 0))]) dL_areOrders_158 (by decide) rfl ?_
    refine x_sub (lv' := [(4, .int 1), (3, .int 1), (2, .int (nI nm)), (1, .int (nI nc)), (0, .ref (za E 17 0))]) [0, 1, 2, 3, 4] rfl ?_
    refine x_eq (lv' := [(4, .int (nI (0 + 1))), (3, .int 1), (2, .int (nI nm)), (1, .int (nI nc)), (0, .ref (za E 17 0))]) rfl rfl ?_
    refine x_loop nm 160 (σ := Unit) (fun _ _ => True) (fun k _ => (M, [(4, .int (nI (k + 1))), (3, .int 1), (2, .int (nI nm)), (1, .int (nI nc)), (0, .ref (za E 17 0))])) ?_ 0 () (Nat.zero_le _) trivial
    intro k _ hk _ ih160
    show ZX gg E _ _ _ M [(4, .int (nI (k + 1))), (3, .int 1), (2, .int (nI nm)), (1, .int (nI nc)), (0, .ref (za E 17 0))] 160 []
    refine x_iload_n X (pc := 160) 1 dL_areOrders_160 rfl rfl ?_
    refine x_if_eq X (pc := 161) (tgt := 283) dL_areOrders_161 (by decide) (fun z => absurd z (by decide)) (fun _ => ?_)
    refine x_iload X (pc := 164) 0 dL_areOrders_164 rfl ?_
    refine x_iload_n X (pc := 166) 2 dL_areOrders_166 rfl rfl ?_
    refine x_nicmp_ge X (pc := 167) (a := k + 1) (b := nm) (tgt := 283) dL_areOrders_167 (by decide) (by omega) (by omega) (fun c167 => ?_) (fun c167 => ?_)
    · refine x_iload_n X (pc := 283) 1 dL_areOrders_283 rfl rfl ?_
      refine x_if_eq X (pc := 284) (tgt := 330) dL_areOrders_284 (by decide) (fun z => absurd z (by decide)) (fun _ => ?_)
      refine x_aload_n X (pc := 287) 4 dL_areOrders_287 rfl rfl ?_
      refine x_iconst X (pc := 288) (v := 0) dL_areOrders_288 (by decide) ?_
      refine x_callV X ⟨Nat.zero_le _, Nat.zero_le _⟩ (pc := 289) (rest := []) kv_X10_hall (q_hall hX hI (t := 0) (by decide)) zk_17_0 (zc_17_0 E _) rfl rfl gw_685 ⟨⟨rfl, rfl⟩, Nat.le_of_ble_eq_true rfl, Nat.le_of_ble_eq_true rfl⟩ rfl rfl (Nat.le_of_ble_eq_true rfl) dL_areOrders_289 (x_pi ?_)
      refine x_aload_n X (pc := 292) 4 dL_areOrders_292 rfl rfl ?_
      refine x_iconst X (pc := 293) (v := 1) dL_areOrders_293 (by decide) ?_
      refine x_callV X ⟨Nat.zero_le _, Nat.zero_le _⟩ (pc := 294) (rest := [.int (hallN S.1 0 nc)]) kv_X10_hall (q_hall hX hI (t := 1) (by decide)) zk_17_0 (zc_17_0 E _) rfl rfl gw_685 ⟨⟨rfl, rfl⟩, Nat.le_of_ble_eq_true rfl, Nat.le_of_ble_eq_true rfl⟩ rfl rfl (Nat.le_of_ble_eq_true rfl) dL_areOrders_294 (x_pi ?_)
      refine x_iand X (pc := 297) dL_areOrders_297 ?_
      refine x_if_ne X (pc := 298) (tgt := 330) dL_areOrders_298 (by decide) (fun z => absurd (hall_apart hI.c10) z) (fun _ => ?_)
      refine x_aload_n X (pc := 301) 4 dL_areOrders_301 rfl rfl ?_
      refine x_iconst X (pc := 302) (v := 0) dL_areOrders_302 (by decide) ?_
      refine x_callV X ⟨Nat.zero_le _, Nat.zero_le _⟩ (pc := 303) (rest := []) kv_X10_hall (q_hall hX hI (t := 0) (by decide)) zk_17_0 (zc_17_0 E _) rfl rfl gw_685 ⟨⟨rfl, rfl⟩, Nat.le_of_ble_eq_true rfl, Nat.le_of_ble_eq_true rfl⟩ rfl rfl (Nat.le_of_ble_eq_true rfl) dL_areOrders_303 (x_pi ?_)
      refine x_aload_n X (pc := 306) 4 dL_areOrders_306 rfl rfl ?_
      refine x_iconst X (pc := 307) (v := 1) dL_areOrders_307 (by decide) ?_
      refine x_callV X ⟨Nat.zero_le _, Nat.zero_le _⟩ (pc := 308) (rest := [.int (hallN S.1 0 nc)]) kv_X10_hall (q_hall hX hI (t := 1) (by decide)) zk_17_0 (zc_17_0 E _) rfl rfl gw_685 ⟨⟨rfl, rfl⟩, Nat.le_of_ble_eq_true rfl, Nat.le_of_ble_eq_true rfl⟩ rfl rfl (Nat.le_of_ble_eq_true rfl) dL_areOrders_308 (x_pi ?_)
      refine x_ior X (pc := 311) dL_areOrders_311 ?_
      refine x_aload_n X (pc := 312) 4 dL_areOrders_312 rfl rfl ?_
      refine x_iconst X (pc := 313) (v := 2) dL_areOrders_313 (by decide) ?_
      refine x_callV X ⟨Nat.zero_le _, Nat.zero_le _⟩ (pc := 314) (rest := [.int ((hallN S.1 0 nc) ||| (hallN S.1 1 nc))]) kv_X10_hall (q_hall hX hI (t := 2) (by decide)) zk_17_0 (zc_17_0 E _) rfl rfl gw_685 ⟨⟨rfl, rfl⟩, Nat.le_of_ble_eq_true rfl, Nat.le_of_ble_eq_true rfl⟩ rfl rfl (Nat.le_of_ble_eq_true rfl) dL_areOrders_314 (x_pi ?_)
      refine x_ior X (pc := 317) dL_areOrders_317 ?_
      refine x_iconst X (pc := 318) (v := 1) dL_areOrders_318 (by decide) ?_
      refine x_iload_n X (pc := 319) 3 dL_areOrders_319 rfl rfl ?_
      refine x_ishl X (pc := 320) dL_areOrders_320 ?_
      refine x_iconst X (pc := 321) (v := 1) dL_areOrders_321 (by decide) ?_
      refine x_isub X (pc := 322) dL_areOrders_322 ?_
      refine x_icmp_ne X (pc := 323) (tgt := 330) dL_areOrders_323 (by decide) (fun z => absurd (hall_all hI) z) (fun _ => ?_)
      refine x_iconst X (pc := 326) (v := 1) dL_areOrders_326 (by decide) ?_
      refine x_goto X (pc := 327) (tgt := 331) dL_areOrders_327 (by decide) ?_
      exact x_zret X Y (by decide) (Nat.le_refl _) (Nat.le_refl _) dL_areOrders_331 ⟨_, rfl, rfl, rfl⟩
    · obtain ⟨a, b, ha, hb, ea, eb, hp⟩ := plc_next (k := k) (mAhead_ord hI) hI.m10 (by omega)
      have hp := mA_cases hp
      refine x_aload_n X (pc := 170) 4 dL_areOrders_170 rfl rfl ?_
      refine x_iload X (pc := 171) 0 dL_areOrders_171 rfl ?_
      refine x_iconst X (pc := 173) (v := 1) dL_areOrders_173 (by decide) ?_
      refine x_isub X (pc := 174) dL_areOrders_174 ?_
      refine x_top (y := (nI k)) (nI_m1 k) ?_
      refine x_callV X ⟨Nat.zero_le _, Nat.zero_le _⟩ (pc := 175) (rest := []) kv_X10_richest (q_richest hX hI ea) zk_17_0 (zc_17_0 E _) rfl rfl gw_746 ⟨⟨rfl, rfl⟩, Nat.le_of_ble_eq_true rfl, Nat.le_of_ble_eq_true rfl⟩ rfl rfl (Nat.le_of_ble_eq_true rfl) dL_areOrders_175 (x_pi ?_)
      refine x_istore X (pc := 178) (lv1 := [(5, .int (nI a)), (4, .int (nI (k + 1))), (3, .int 1), (2, .int (nI nm)), (1, .int (nI nc)), (0, .ref (za E 17 0))]) dL_areOrders_178 (by decide) rfl ?_
      refine x_aload_n X (pc := 180) 5 dL_areOrders_180 rfl rfl ?_
      refine x_iload X (pc := 181) 1 dL_areOrders_181 rfl ?_
      refine x_callV X ⟨Nat.zero_le _, Nat.zero_le _⟩ (pc := 183) (rest := []) kv_X10_richest (q_richest hX hI eb) zk_17_0 (zc_17_0 E _) rfl rfl gw_746 ⟨⟨rfl, rfl⟩, Nat.le_of_ble_eq_true rfl, Nat.le_of_ble_eq_true rfl⟩ rfl rfl (Nat.le_of_ble_eq_true rfl) dL_areOrders_183 (x_pi ?_)
      refine x_istore X (pc := 186) (lv1 := [(6, .int (nI b)), (5, .int (nI a)), (4, .int (nI (k + 1))), (3, .int 1), (2, .int (nI nm)), (1, .int (nI nc)), (0, .ref (za E 17 0))]) dL_areOrders_186 (by decide) rfl ?_
      refine x_aload_n X (pc := 188) 6 dL_areOrders_188 rfl rfl ?_
      refine x_iload X (pc := 189) 1 dL_areOrders_189 rfl ?_
      refine x_iconst X (pc := 191) (v := 3) dL_areOrders_191 (by decide) ?_
      refine x_callV X ⟨Nat.zero_le _, Nat.zero_le _⟩ (pc := 192) (rest := []) kv_X10_musicianOf (q_mu hX hI (m := a) (by omega) (v := S.1 10 a) rfl) zk_17_0 (zc_17_0 E _) rfl rfl gw_404 ⟨⟨rfl, rfl⟩, Nat.le_of_ble_eq_true rfl, Nat.le_of_ble_eq_true rfl⟩ rfl rfl (Nat.le_of_ble_eq_true rfl) dL_areOrders_192 (x_pi ?_)
      refine x_aload_n X (pc := 195) 6 dL_areOrders_195 rfl rfl ?_
      refine x_iload X (pc := 196) 0 dL_areOrders_196 rfl ?_
      refine x_iconst X (pc := 198) (v := 3) dL_areOrders_198 (by decide) ?_
      refine x_callV X ⟨Nat.zero_le _, Nat.zero_le _⟩ (pc := 199) (rest := [.int (S.1 10 a)]) kv_X10_musicianOf (q_mu hX hI (m := b) (by omega) (v := S.1 10 b) rfl) zk_17_0 (zc_17_0 E _) rfl rfl gw_404 ⟨⟨rfl, rfl⟩, Nat.le_of_ble_eq_true rfl, Nat.le_of_ble_eq_true rfl⟩ rfl rfl (Nat.le_of_ble_eq_true rfl) dL_areOrders_199 (x_pi ?_)
      refine x_isub X (pc := 202) dL_areOrders_202 ?_
      refine x_istore X (pc := 203) (lv1 := [(7, .int ((S.1 10 a) - (S.1 10 b))), (6, .int (nI b)), (5, .int (nI a)), (4, .int (nI (k + 1))), (3, .int 1), (2, .int (nI nm)), (1, .int (nI nc)), (0, .ref (za E 17 0))]) dL_areOrders_203 (by decide) rfl ?_
      refine x_aload_n X (pc := 205) 7 dL_areOrders_205 rfl rfl ?_
      refine x_iload X (pc := 206) 2 dL_areOrders_206 rfl ?_
      refine x_iconst X (pc := 208) (v := 5) dL_areOrders_208 (by decide) ?_
      refine x_callV X ⟨Nat.zero_le _, Nat.zero_le _⟩ (pc := 209) (rest := []) kv_X10_musicianOf (q_mu hX hI (m := a) (by omega) (v := orN (S.1 12 a)) rfl) zk_17_0 (zc_17_0 E _) rfl rfl gw_404 ⟨⟨rfl, rfl⟩, Nat.le_of_ble_eq_true rfl, Nat.le_of_ble_eq_true rfl⟩ rfl rfl (Nat.le_of_ble_eq_true rfl) dL_areOrders_209 (x_pi ?_)
      rcases hI.nor12 (m := a) (by omega) with ep | ⟨xp, hxp, ep⟩
      · refine x_top (y := ((-1015))) (by rw [ep]; rfl) ?_
        refine x_sipush X (pc := 212) (v := (-1015)) dL_areOrders_212 (by decide) ?_
        refine x_icmp_ne X (pc := 215) (tgt := 222) dL_areOrders_215 (by decide) (fun z => absurd rfl z) (fun _ => ?_)
        refine x_iconst X (pc := 218) (v := 0) dL_areOrders_218 (by decide) ?_
        refine x_goto X (pc := 219) (tgt := 223) dL_areOrders_219 (by decide) ?_
        refine x_aload_n X (pc := 223) 7 dL_areOrders_223 rfl rfl ?_
        refine x_iload X (pc := 224) 1 dL_areOrders_224 rfl ?_
        refine x_iconst X (pc := 226) (v := 5) dL_areOrders_226 (by decide) ?_
        refine x_callV X ⟨Nat.zero_le _, Nat.zero_le _⟩ (pc := 227) (rest := [.int 0]) kv_X10_musicianOf (q_mu hX hI (m := b) (by omega) (v := orN (S.1 12 b)) rfl) zk_17_0 (zc_17_0 E _) rfl rfl gw_404 ⟨⟨rfl, rfl⟩, Nat.le_of_ble_eq_true rfl, Nat.le_of_ble_eq_true rfl⟩ rfl rfl (Nat.le_of_ble_eq_true rfl) dL_areOrders_227 (x_pi ?_)
        rcases hI.nor12 (m := b) (by omega) with eq | ⟨xq, hxq, eq⟩
        · refine x_top (y := ((-1015))) (by rw [eq]; rfl) ?_
          refine x_sipush X (pc := 230) (v := (-1015)) dL_areOrders_230 (by decide) ?_
          refine x_icmp_ne X (pc := 233) (tgt := 240) dL_areOrders_233 (by decide) (fun z => absurd rfl z) (fun _ => ?_)
          refine x_iconst X (pc := 236) (v := 0) dL_areOrders_236 (by decide) ?_
          refine x_goto X (pc := 237) (tgt := 241) dL_areOrders_237 (by decide) ?_
          refine x_isub X (pc := 241) dL_areOrders_241 ?_
          refine x_top (y := 0) (by decide) ?_
          refine x_istore X (pc := 242) (lv1 := [(8, .int 0), (7, .int ((S.1 10 a) - (S.1 10 b))), (6, .int (nI b)), (5, .int (nI a)), (4, .int (nI (k + 1))), (3, .int 1), (2, .int (nI nm)), (1, .int (nI nc)), (0, .ref (za E 17 0))]) dL_areOrders_242 (by decide) rfl ?_
          refine x_iload X (pc := 244) 1 dL_areOrders_244 rfl ?_
          refine x_if_gt X (pc := 246) (tgt := 271) dL_areOrders_246 (by decide) (fun c246 => ?_) (fun c246 => ?_)
          · refine x_iconst X (pc := 271) (v := 1) dL_areOrders_271 (by decide) ?_
            refine x_goto X (pc := 272) (tgt := 276) dL_areOrders_272 (by decide) ?_
            refine x_istore_n X (pc := 276) (lv1 := [(3, .int 1), (8, .int 0), (7, .int ((S.1 10 a) - (S.1 10 b))), (6, .int (nI b)), (5, .int (nI a)), (4, .int (nI (k + 1))), (2, .int (nI nm)), (1, .int (nI nc)), (0, .ref (za E 17 0))]) dL_areOrders_276 rfl (by decide) rfl ?_
            refine x_iinc X (pc := 277) (v := (nI (k + 1 + 1))) (lv1 := [(4, .int (nI (k + 1 + 1))), (3, .int 1), (8, .int 0), (7, .int ((S.1 10 a) - (S.1 10 b))), (6, .int (nI b)), (5, .int (nI a)), (2, .int (nI nm)), (1, .int (nI nc)), (0, .ref (za E 17 0))]) 5 dL_areOrders_277 rfl (nI_1 _) (by decide) rfl ?_
            refine x_goto X (pc := 280) (tgt := 160) dL_areOrders_280 (by decide) ?_
            refine x_sub (lv' := [(4, .int (nI (k + 1 + 1))), (3, .int 1), (2, .int (nI nm)), (1, .int (nI nc)), (0, .ref (za E 17 0))]) [0, 1, 6, 7, 8] rfl ?_
            exact ih160 () (by omega) trivial
          · refine x_iload X (pc := 249) 1 dL_areOrders_249 rfl ?_
            refine x_if_ne X (pc := 251) (tgt := 275) dL_areOrders_251 (by decide) (fun z => absurd (hp.resolve_left c246).1 z) (fun _ => ?_)
            have hq := (hp.resolve_left c246).2
            have hlt : a < b := by rw [ep, eq] at hq; simpa using hq
            refine x_iload X (pc := 254) 0 dL_areOrders_254 rfl ?_
            refine x_if_gt X (pc := 256) (tgt := 271) dL_areOrders_256 (by decide) (fun z => absurd z (by decide)) (fun _ => ?_)
            refine x_iload X (pc := 259) 0 dL_areOrders_259 rfl ?_
            refine x_if_ne X (pc := 261) (tgt := 275) dL_areOrders_261 (by decide) (fun z => absurd (by decide) z) (fun _ => ?_)
            refine x_iload X (pc := 264) 3 dL_areOrders_264 rfl ?_
            refine x_iload X (pc := 266) 2 dL_areOrders_266 rfl ?_
            refine x_nicmp_ge X (pc := 268) (a := a) (b := b) (tgt := 275) dL_areOrders_268 (by decide) (by omega) (by omega) (fun z => absurd z (Nat.not_le.mpr hlt)) (fun _ => ?_)
            refine x_iconst X (pc := 271) (v := 1) dL_areOrders_271 (by decide) ?_
            refine x_goto X (pc := 272) (tgt := 276) dL_areOrders_272 (by decide) ?_
            refine x_istore_n X (pc := 276) (lv1 := [(3, .int 1), (8, .int 0), (7, .int ((S.1 10 a) - (S.1 10 b))), (6, .int (nI b)), (5, .int (nI a)), (4, .int (nI (k + 1))), (2, .int (nI nm)), (1, .int (nI nc)), (0, .ref (za E 17 0))]) dL_areOrders_276 rfl (by decide) rfl ?_
            refine x_iinc X (pc := 277) (v := (nI (k + 1 + 1))) (lv1 := [(4, .int (nI (k + 1 + 1))), (3, .int 1), (8, .int 0), (7, .int ((S.1 10 a) - (S.1 10 b))), (6, .int (nI b)), (5, .int (nI a)), (2, .int (nI nm)), (1, .int (nI nc)), (0, .ref (za E 17 0))]) 5 dL_areOrders_277 rfl (nI_1 _) (by decide) rfl ?_
            refine x_goto X (pc := 280) (tgt := 160) dL_areOrders_280 (by decide) ?_
            refine x_sub (lv' := [(4, .int (nI (k + 1 + 1))), (3, .int 1), (2, .int (nI nm)), (1, .int (nI nc)), (0, .ref (za E 17 0))]) [0, 1, 6, 7, 8] rfl ?_
            exact ih160 () (by omega) trivial
        · refine x_top (y := (nI xq)) (by rw [eq]; exact orN_nI (by omega)) ?_
          refine x_sipush X (pc := 230) (v := (-1015)) dL_areOrders_230 (by decide) ?_
          refine x_icmp_ne X (pc := 233) (tgt := 240) dL_areOrders_233 (by decide) (fun _ => ?_) (fun z => absurd z (nI_ne_15 (by omega)))
          refine x_iconst X (pc := 240) (v := 1) dL_areOrders_240 (by decide) ?_
          refine x_isub X (pc := 241) dL_areOrders_241 ?_
          refine x_top (y := ((-1))) (by decide) ?_
          refine x_istore X (pc := 242) (lv1 := [(8, .int ((-1))), (7, .int ((S.1 10 a) - (S.1 10 b))), (6, .int (nI b)), (5, .int (nI a)), (4, .int (nI (k + 1))), (3, .int 1), (2, .int (nI nm)), (1, .int (nI nc)), (0, .ref (za E 17 0))]) dL_areOrders_242 (by decide) rfl ?_
          refine x_iload X (pc := 244) 1 dL_areOrders_244 rfl ?_
          refine x_if_gt X (pc := 246) (tgt := 271) dL_areOrders_246 (by decide) (fun c246 => ?_) (fun c246 => ?_)
          · refine x_iconst X (pc := 271) (v := 1) dL_areOrders_271 (by decide) ?_
            refine x_goto X (pc := 272) (tgt := 276) dL_areOrders_272 (by decide) ?_
            refine x_istore_n X (pc := 276) (lv1 := [(3, .int 1), (8, .int ((-1))), (7, .int ((S.1 10 a) - (S.1 10 b))), (6, .int (nI b)), (5, .int (nI a)), (4, .int (nI (k + 1))), (2, .int (nI nm)), (1, .int (nI nc)), (0, .ref (za E 17 0))]) dL_areOrders_276 rfl (by decide) rfl ?_
            refine x_iinc X (pc := 277) (v := (nI (k + 1 + 1))) (lv1 := [(4, .int (nI (k + 1 + 1))), (3, .int 1), (8, .int ((-1))), (7, .int ((S.1 10 a) - (S.1 10 b))), (6, .int (nI b)), (5, .int (nI a)), (2, .int (nI nm)), (1, .int (nI nc)), (0, .ref (za E 17 0))]) 5 dL_areOrders_277 rfl (nI_1 _) (by decide) rfl ?_
            refine x_goto X (pc := 280) (tgt := 160) dL_areOrders_280 (by decide) ?_
            refine x_sub (lv' := [(4, .int (nI (k + 1 + 1))), (3, .int 1), (2, .int (nI nm)), (1, .int (nI nc)), (0, .ref (za E 17 0))]) [0, 1, 6, 7, 8] rfl ?_
            exact ih160 () (by omega) trivial
          · refine x_iload X (pc := 249) 1 dL_areOrders_249 rfl ?_
            refine x_if_ne X (pc := 251) (tgt := 275) dL_areOrders_251 (by decide) (fun z => absurd (hp.resolve_left c246).1 z) (fun _ => ?_)
            have hq := (hp.resolve_left c246).2
            exact absurd hq (by rw [ep, eq]; simp [nI_ne_m1 (show xq < 2 ^ 31 by omega)])
      · refine x_top (y := (nI xp)) (by rw [ep]; exact orN_nI (by omega)) ?_
        refine x_sipush X (pc := 212) (v := (-1015)) dL_areOrders_212 (by decide) ?_
        refine x_icmp_ne X (pc := 215) (tgt := 222) dL_areOrders_215 (by decide) (fun _ => ?_) (fun z => absurd z (nI_ne_15 (by omega)))
        refine x_iconst X (pc := 222) (v := 1) dL_areOrders_222 (by decide) ?_
        refine x_aload_n X (pc := 223) 7 dL_areOrders_223 rfl rfl ?_
        refine x_iload X (pc := 224) 1 dL_areOrders_224 rfl ?_
        refine x_iconst X (pc := 226) (v := 5) dL_areOrders_226 (by decide) ?_
        refine x_callV X ⟨Nat.zero_le _, Nat.zero_le _⟩ (pc := 227) (rest := [.int 1]) kv_X10_musicianOf (q_mu hX hI (m := b) (by omega) (v := orN (S.1 12 b)) rfl) zk_17_0 (zc_17_0 E _) rfl rfl gw_404 ⟨⟨rfl, rfl⟩, Nat.le_of_ble_eq_true rfl, Nat.le_of_ble_eq_true rfl⟩ rfl rfl (Nat.le_of_ble_eq_true rfl) dL_areOrders_227 (x_pi ?_)
        rcases hI.nor12 (m := b) (by omega) with eq | ⟨xq, hxq, eq⟩
        · refine x_top (y := ((-1015))) (by rw [eq]; rfl) ?_
          refine x_sipush X (pc := 230) (v := (-1015)) dL_areOrders_230 (by decide) ?_
          refine x_icmp_ne X (pc := 233) (tgt := 240) dL_areOrders_233 (by decide) (fun z => absurd rfl z) (fun _ => ?_)
          refine x_iconst X (pc := 236) (v := 0) dL_areOrders_236 (by decide) ?_
          refine x_goto X (pc := 237) (tgt := 241) dL_areOrders_237 (by decide) ?_
          refine x_isub X (pc := 241) dL_areOrders_241 ?_
          refine x_top (y := 1) (by decide) ?_
          refine x_istore X (pc := 242) (lv1 := [(8, .int 1), (7, .int ((S.1 10 a) - (S.1 10 b))), (6, .int (nI b)), (5, .int (nI a)), (4, .int (nI (k + 1))), (3, .int 1), (2, .int (nI nm)), (1, .int (nI nc)), (0, .ref (za E 17 0))]) dL_areOrders_242 (by decide) rfl ?_
          refine x_iload X (pc := 244) 1 dL_areOrders_244 rfl ?_
          refine x_if_gt X (pc := 246) (tgt := 271) dL_areOrders_246 (by decide) (fun c246 => ?_) (fun c246 => ?_)
          · refine x_iconst X (pc := 271) (v := 1) dL_areOrders_271 (by decide) ?_
            refine x_goto X (pc := 272) (tgt := 276) dL_areOrders_272 (by decide) ?_
            refine x_istore_n X (pc := 276) (lv1 := [(3, .int 1), (8, .int 1), (7, .int ((S.1 10 a) - (S.1 10 b))), (6, .int (nI b)), (5, .int (nI a)), (4, .int (nI (k + 1))), (2, .int (nI nm)), (1, .int (nI nc)), (0, .ref (za E 17 0))]) dL_areOrders_276 rfl (by decide) rfl ?_
            refine x_iinc X (pc := 277) (v := (nI (k + 1 + 1))) (lv1 := [(4, .int (nI (k + 1 + 1))), (3, .int 1), (8, .int 1), (7, .int ((S.1 10 a) - (S.1 10 b))), (6, .int (nI b)), (5, .int (nI a)), (2, .int (nI nm)), (1, .int (nI nc)), (0, .ref (za E 17 0))]) 5 dL_areOrders_277 rfl (nI_1 _) (by decide) rfl ?_
            refine x_goto X (pc := 280) (tgt := 160) dL_areOrders_280 (by decide) ?_
            refine x_sub (lv' := [(4, .int (nI (k + 1 + 1))), (3, .int 1), (2, .int (nI nm)), (1, .int (nI nc)), (0, .ref (za E 17 0))]) [0, 1, 6, 7, 8] rfl ?_
            exact ih160 () (by omega) trivial
          · refine x_iload X (pc := 249) 1 dL_areOrders_249 rfl ?_
            refine x_if_ne X (pc := 251) (tgt := 275) dL_areOrders_251 (by decide) (fun z => absurd (hp.resolve_left c246).1 z) (fun _ => ?_)
            have hq := (hp.resolve_left c246).2
            refine x_iload X (pc := 254) 0 dL_areOrders_254 rfl ?_
            refine x_if_gt X (pc := 256) (tgt := 271) dL_areOrders_256 (by decide) (fun _ => ?_) (fun z => absurd (by decide) z)
            refine x_iconst X (pc := 271) (v := 1) dL_areOrders_271 (by decide) ?_
            refine x_goto X (pc := 272) (tgt := 276) dL_areOrders_272 (by decide) ?_
            refine x_istore_n X (pc := 276) (lv1 := [(3, .int 1), (8, .int 1), (7, .int ((S.1 10 a) - (S.1 10 b))), (6, .int (nI b)), (5, .int (nI a)), (4, .int (nI (k + 1))), (2, .int (nI nm)), (1, .int (nI nc)), (0, .ref (za E 17 0))]) dL_areOrders_276 rfl (by decide) rfl ?_
            refine x_iinc X (pc := 277) (v := (nI (k + 1 + 1))) (lv1 := [(4, .int (nI (k + 1 + 1))), (3, .int 1), (8, .int 1), (7, .int ((S.1 10 a) - (S.1 10 b))), (6, .int (nI b)), (5, .int (nI a)), (2, .int (nI nm)), (1, .int (nI nc)), (0, .ref (za E 17 0))]) 5 dL_areOrders_277 rfl (nI_1 _) (by decide) rfl ?_
            refine x_goto X (pc := 280) (tgt := 160) dL_areOrders_280 (by decide) ?_
            refine x_sub (lv' := [(4, .int (nI (k + 1 + 1))), (3, .int 1), (2, .int (nI nm)), (1, .int (nI nc)), (0, .ref (za E 17 0))]) [0, 1, 6, 7, 8] rfl ?_
            exact ih160 () (by omega) trivial
        · refine x_top (y := (nI xq)) (by rw [eq]; exact orN_nI (by omega)) ?_
          refine x_sipush X (pc := 230) (v := (-1015)) dL_areOrders_230 (by decide) ?_
          refine x_icmp_ne X (pc := 233) (tgt := 240) dL_areOrders_233 (by decide) (fun _ => ?_) (fun z => absurd z (nI_ne_15 (by omega)))
          refine x_iconst X (pc := 240) (v := 1) dL_areOrders_240 (by decide) ?_
          refine x_isub X (pc := 241) dL_areOrders_241 ?_
          refine x_top (y := 0) (by decide) ?_
          refine x_istore X (pc := 242) (lv1 := [(8, .int 0), (7, .int ((S.1 10 a) - (S.1 10 b))), (6, .int (nI b)), (5, .int (nI a)), (4, .int (nI (k + 1))), (3, .int 1), (2, .int (nI nm)), (1, .int (nI nc)), (0, .ref (za E 17 0))]) dL_areOrders_242 (by decide) rfl ?_
          refine x_iload X (pc := 244) 1 dL_areOrders_244 rfl ?_
          refine x_if_gt X (pc := 246) (tgt := 271) dL_areOrders_246 (by decide) (fun c246 => ?_) (fun c246 => ?_)
          · refine x_iconst X (pc := 271) (v := 1) dL_areOrders_271 (by decide) ?_
            refine x_goto X (pc := 272) (tgt := 276) dL_areOrders_272 (by decide) ?_
            refine x_istore_n X (pc := 276) (lv1 := [(3, .int 1), (8, .int 0), (7, .int ((S.1 10 a) - (S.1 10 b))), (6, .int (nI b)), (5, .int (nI a)), (4, .int (nI (k + 1))), (2, .int (nI nm)), (1, .int (nI nc)), (0, .ref (za E 17 0))]) dL_areOrders_276 rfl (by decide) rfl ?_
            refine x_iinc X (pc := 277) (v := (nI (k + 1 + 1))) (lv1 := [(4, .int (nI (k + 1 + 1))), (3, .int 1), (8, .int 0), (7, .int ((S.1 10 a) - (S.1 10 b))), (6, .int (nI b)), (5, .int (nI a)), (2, .int (nI nm)), (1, .int (nI nc)), (0, .ref (za E 17 0))]) 5 dL_areOrders_277 rfl (nI_1 _) (by decide) rfl ?_
            refine x_goto X (pc := 280) (tgt := 160) dL_areOrders_280 (by decide) ?_
            refine x_sub (lv' := [(4, .int (nI (k + 1 + 1))), (3, .int 1), (2, .int (nI nm)), (1, .int (nI nc)), (0, .ref (za E 17 0))]) [0, 1, 6, 7, 8] rfl ?_
            exact ih160 () (by omega) trivial
          · refine x_iload X (pc := 249) 1 dL_areOrders_249 rfl ?_
            refine x_if_ne X (pc := 251) (tgt := 275) dL_areOrders_251 (by decide) (fun z => absurd (hp.resolve_left c246).1 z) (fun _ => ?_)
            have hq := (hp.resolve_left c246).2
            have hlt : a < b := by rw [ep, eq] at hq; simpa [nI_ne_m1 (show xq < 2 ^ 31 by omega), nI_ne_m1 (show xp < 2 ^ 31 by omega)] using hq
            refine x_iload X (pc := 254) 0 dL_areOrders_254 rfl ?_
            refine x_if_gt X (pc := 256) (tgt := 271) dL_areOrders_256 (by decide) (fun z => absurd z (by decide)) (fun _ => ?_)
            refine x_iload X (pc := 259) 0 dL_areOrders_259 rfl ?_
            refine x_if_ne X (pc := 261) (tgt := 275) dL_areOrders_261 (by decide) (fun z => absurd (by decide) z) (fun _ => ?_)
            refine x_iload X (pc := 264) 3 dL_areOrders_264 rfl ?_
            refine x_iload X (pc := 266) 2 dL_areOrders_266 rfl ?_
            refine x_nicmp_ge X (pc := 268) (a := a) (b := b) (tgt := 275) dL_areOrders_268 (by decide) (by omega) (by omega) (fun z => absurd z (Nat.not_le.mpr hlt)) (fun _ => ?_)
            refine x_iconst X (pc := 271) (v := 1) dL_areOrders_271 (by decide) ?_
            refine x_goto X (pc := 272) (tgt := 276) dL_areOrders_272 (by decide) ?_
            refine x_istore_n X (pc := 276) (lv1 := [(3, .int 1), (8, .int 0), (7, .int ((S.1 10 a) - (S.1 10 b))), (6, .int (nI b)), (5, .int (nI a)), (4, .int (nI (k + 1))), (2, .int (nI nm)), (1, .int (nI nc)), (0, .ref (za E 17 0))]) dL_areOrders_276 rfl (by decide) rfl ?_
            refine x_iinc X (pc := 277) (v := (nI (k + 1 + 1))) (lv1 := [(4, .int (nI (k + 1 + 1))), (3, .int 1), (8, .int 0), (7, .int ((S.1 10 a) - (S.1 10 b))), (6, .int (nI b)), (5, .int (nI a)), (2, .int (nI nm)), (1, .int (nI nc)), (0, .ref (za E 17 0))]) 5 dL_areOrders_277 rfl (nI_1 _) (by decide) rfl ?_
            refine x_goto X (pc := 280) (tgt := 160) dL_areOrders_280 (by decide) ?_
            refine x_sub (lv' := [(4, .int (nI (k + 1 + 1))), (3, .int 1), (2, .int (nI nm)), (1, .int (nI nc)), (0, .ref (za E 17 0))]) [0, 1, 6, 7, 8] rfl ?_
            exact ih160 () (by omega) trivial
  · obtain ⟨a, b, ha, hb, ea, eb, hp⟩ := plc_next (k := k) (cAhead_ord hI) hI.c10 (by omega)
    have hp := cA_cases hp
    refine x_aload_n X (pc := 64) 4 dL_areOrders_64 rfl rfl ?_
    refine x_iload X (pc := 65) 0 dL_areOrders_65 rfl ?_
    refine x_iconst X (pc := 67) (v := 1) dL_areOrders_67 (by decide) ?_
    refine x_isub X (pc := 68) dL_areOrders_68 ?_
    refine x_top (y := (nI k)) (nI_m1 k) ?_
    refine x_callV X ⟨Nat.zero_le _, Nat.zero_le _⟩ (pc := 69) (rest := []) kv_X10_ranked (q_ranked hX hI ea) zk_17_0 (zc_17_0 E _) rfl rfl gw_737 ⟨⟨rfl, rfl⟩, Nat.le_of_ble_eq_true rfl, Nat.le_of_ble_eq_true rfl⟩ rfl rfl (Nat.le_of_ble_eq_true rfl) dL_areOrders_69 (x_pi ?_)
    refine x_istore X (pc := 72) (lv1 := [(5, .int (nI a)), (4, .int (nI (k + 1))), (3, .int 1), (2, .int (nI nm)), (1, .int (nI nc)), (0, .ref (za E 17 0))]) dL_areOrders_72 (by decide) rfl ?_
    refine x_aload_n X (pc := 74) 5 dL_areOrders_74 rfl rfl ?_
    refine x_iload X (pc := 75) 1 dL_areOrders_75 rfl ?_
    refine x_callV X ⟨Nat.zero_le _, Nat.zero_le _⟩ (pc := 77) (rest := []) kv_X10_ranked (q_ranked hX hI eb) zk_17_0 (zc_17_0 E _) rfl rfl gw_737 ⟨⟨rfl, rfl⟩, Nat.le_of_ble_eq_true rfl, Nat.le_of_ble_eq_true rfl⟩ rfl rfl (Nat.le_of_ble_eq_true rfl) dL_areOrders_77 (x_pi ?_)
    refine x_istore X (pc := 80) (lv1 := [(6, .int (nI b)), (5, .int (nI a)), (4, .int (nI (k + 1))), (3, .int 1), (2, .int (nI nm)), (1, .int (nI nc)), (0, .ref (za E 17 0))]) dL_areOrders_80 (by decide) rfl ?_
    refine x_aload_n X (pc := 82) 6 dL_areOrders_82 rfl rfl ?_
    refine x_iload X (pc := 83) 1 dL_areOrders_83 rfl ?_
    refine x_bipush X (pc := 85) (v := 6) dL_areOrders_85 (by decide) ?_
    refine x_callV X ⟨Nat.zero_le _, Nat.zero_le _⟩ (pc := 87) (rest := []) kv_X10_chairOf (q_ch hX hI (c := a) (by omega) (v := S.1 5 a) rfl) zk_17_0 (zc_17_0 E _) rfl rfl gw_385 ⟨⟨rfl, rfl⟩, Nat.le_of_ble_eq_true rfl, Nat.le_of_ble_eq_true rfl⟩ rfl rfl (Nat.le_of_ble_eq_true rfl) dL_areOrders_87 (x_pi ?_)
    refine x_aload_n X (pc := 90) 6 dL_areOrders_90 rfl rfl ?_
    refine x_iload X (pc := 91) 0 dL_areOrders_91 rfl ?_
    refine x_bipush X (pc := 93) (v := 6) dL_areOrders_93 (by decide) ?_
    refine x_callV X ⟨Nat.zero_le _, Nat.zero_le _⟩ (pc := 95) (rest := [.int (S.1 5 a)]) kv_X10_chairOf (q_ch hX hI (c := b) (by omega) (v := S.1 5 b) rfl) zk_17_0 (zc_17_0 E _) rfl rfl gw_385 ⟨⟨rfl, rfl⟩, Nat.le_of_ble_eq_true rfl, Nat.le_of_ble_eq_true rfl⟩ rfl rfl (Nat.le_of_ble_eq_true rfl) dL_areOrders_95 (x_pi ?_)
    refine x_isub X (pc := 98) dL_areOrders_98 ?_
    refine x_istore X (pc := 99) (lv1 := [(7, .int ((S.1 5 a) - (S.1 5 b))), (6, .int (nI b)), (5, .int (nI a)), (4, .int (nI (k + 1))), (3, .int 1), (2, .int (nI nm)), (1, .int (nI nc)), (0, .ref (za E 17 0))]) dL_areOrders_99 (by decide) rfl ?_
    refine x_aload_n X (pc := 101) 7 dL_areOrders_101 rfl rfl ?_
    refine x_iload X (pc := 102) 2 dL_areOrders_102 rfl ?_
    refine x_iconst X (pc := 104) (v := 5) dL_areOrders_104 (by decide) ?_
    refine x_callV X ⟨Nat.zero_le _, Nat.zero_le _⟩ (pc := 105) (rest := []) kv_X10_chairOf (q_ch hX hI (c := a) (by omega) (v := comf S.1 a) rfl) zk_17_0 (zc_17_0 E _) rfl rfl gw_385 ⟨⟨rfl, rfl⟩, Nat.le_of_ble_eq_true rfl, Nat.le_of_ble_eq_true rfl⟩ rfl rfl (Nat.le_of_ble_eq_true rfl) dL_areOrders_105 (x_pi ?_)
    refine x_aload_n X (pc := 108) 7 dL_areOrders_108 rfl rfl ?_
    refine x_iload X (pc := 109) 1 dL_areOrders_109 rfl ?_
    refine x_iconst X (pc := 111) (v := 5) dL_areOrders_111 (by decide) ?_
    refine x_callV X ⟨Nat.zero_le _, Nat.zero_le _⟩ (pc := 112) (rest := [.int (comf S.1 a)]) kv_X10_chairOf (q_ch hX hI (c := b) (by omega) (v := comf S.1 b) rfl) zk_17_0 (zc_17_0 E _) rfl rfl gw_385 ⟨⟨rfl, rfl⟩, Nat.le_of_ble_eq_true rfl, Nat.le_of_ble_eq_true rfl⟩ rfl rfl (Nat.le_of_ble_eq_true rfl) dL_areOrders_112 (x_pi ?_)
    refine x_isub X (pc := 115) dL_areOrders_115 ?_
    refine x_istore X (pc := 116) (lv1 := [(8, .int ((comf S.1 a) - (comf S.1 b))), (7, .int ((S.1 5 a) - (S.1 5 b))), (6, .int (nI b)), (5, .int (nI a)), (4, .int (nI (k + 1))), (3, .int 1), (2, .int (nI nm)), (1, .int (nI nc)), (0, .ref (za E 17 0))]) dL_areOrders_116 (by decide) rfl ?_
    refine x_iload X (pc := 118) 1 dL_areOrders_118 rfl ?_
    refine x_if_gt X (pc := 120) (tgt := 145) dL_areOrders_120 (by decide) (fun c120 => ?_) (fun c120 => ?_)
    · refine x_iconst X (pc := 145) (v := 1) dL_areOrders_145 (by decide) ?_
      refine x_goto X (pc := 146) (tgt := 150) dL_areOrders_146 (by decide) ?_
      refine x_istore_n X (pc := 150) (lv1 := [(3, .int 1), (8, .int ((comf S.1 a) - (comf S.1 b))), (7, .int ((S.1 5 a) - (S.1 5 b))), (6, .int (nI b)), (5, .int (nI a)), (4, .int (nI (k + 1))), (2, .int (nI nm)), (1, .int (nI nc)), (0, .ref (za E 17 0))]) dL_areOrders_150 rfl (by decide) rfl ?_
      refine x_iinc X (pc := 151) (v := (nI (k + 1 + 1))) (lv1 := [(4, .int (nI (k + 1 + 1))), (3, .int 1), (8, .int ((comf S.1 a) - (comf S.1 b))), (7, .int ((S.1 5 a) - (S.1 5 b))), (6, .int (nI b)), (5, .int (nI a)), (2, .int (nI nm)), (1, .int (nI nc)), (0, .ref (za E 17 0))]) 5 dL_areOrders_151 rfl (nI_1 _) (by decide) rfl ?_
      refine x_goto X (pc := 154) (tgt := 54) dL_areOrders_154 (by decide) ?_
      refine x_sub (lv' := [(4, .int (nI (k + 1 + 1))), (3, .int 1), (2, .int (nI nm)), (1, .int (nI nc)), (0, .ref (za E 17 0))]) [0, 1, 6, 7, 8] rfl ?_
      exact ih54 () (by omega) trivial
    · refine x_iload X (pc := 123) 1 dL_areOrders_123 rfl ?_
      refine x_if_ne X (pc := 125) (tgt := 149) dL_areOrders_125 (by decide) (fun z => absurd (hp.resolve_left c120).1 z) (fun _ => ?_)
      refine x_iload X (pc := 128) 0 dL_areOrders_128 rfl ?_
      refine x_if_gt X (pc := 130) (tgt := 145) dL_areOrders_130 (by decide) (fun c130 => ?_) (fun c130 => ?_)
      · refine x_iconst X (pc := 145) (v := 1) dL_areOrders_145 (by decide) ?_
        refine x_goto X (pc := 146) (tgt := 150) dL_areOrders_146 (by decide) ?_
        refine x_istore_n X (pc := 150) (lv1 := [(3, .int 1), (8, .int ((comf S.1 a) - (comf S.1 b))), (7, .int ((S.1 5 a) - (S.1 5 b))), (6, .int (nI b)), (5, .int (nI a)), (4, .int (nI (k + 1))), (2, .int (nI nm)), (1, .int (nI nc)), (0, .ref (za E 17 0))]) dL_areOrders_150 rfl (by decide) rfl ?_
        refine x_iinc X (pc := 151) (v := (nI (k + 1 + 1))) (lv1 := [(4, .int (nI (k + 1 + 1))), (3, .int 1), (8, .int ((comf S.1 a) - (comf S.1 b))), (7, .int ((S.1 5 a) - (S.1 5 b))), (6, .int (nI b)), (5, .int (nI a)), (2, .int (nI nm)), (1, .int (nI nc)), (0, .ref (za E 17 0))]) 5 dL_areOrders_151 rfl (nI_1 _) (by decide) rfl ?_
        refine x_goto X (pc := 154) (tgt := 54) dL_areOrders_154 (by decide) ?_
        refine x_sub (lv' := [(4, .int (nI (k + 1 + 1))), (3, .int 1), (2, .int (nI nm)), (1, .int (nI nc)), (0, .ref (za E 17 0))]) [0, 1, 6, 7, 8] rfl ?_
        exact ih54 () (by omega) trivial
      · refine x_iload X (pc := 133) 0 dL_areOrders_133 rfl ?_
        refine x_if_ne X (pc := 135) (tgt := 149) dL_areOrders_135 (by decide) (fun z => absurd ((hp.resolve_left c120).2.resolve_left c130).1 z) (fun _ => ?_)
        refine x_iload X (pc := 138) 3 dL_areOrders_138 rfl ?_
        refine x_iload X (pc := 140) 2 dL_areOrders_140 rfl ?_
        refine x_nicmp_ge X (pc := 142) (a := a) (b := b) (tgt := 149) dL_areOrders_142 (by decide) (by omega) (by omega) (fun z => absurd z (Nat.not_le.mpr ((hp.resolve_left c120).2.resolve_left c130).2)) (fun _ => ?_)
        refine x_iconst X (pc := 145) (v := 1) dL_areOrders_145 (by decide) ?_
        refine x_goto X (pc := 146) (tgt := 150) dL_areOrders_146 (by decide) ?_
        refine x_istore_n X (pc := 150) (lv1 := [(3, .int 1), (8, .int ((comf S.1 a) - (comf S.1 b))), (7, .int ((S.1 5 a) - (S.1 5 b))), (6, .int (nI b)), (5, .int (nI a)), (4, .int (nI (k + 1))), (2, .int (nI nm)), (1, .int (nI nc)), (0, .ref (za E 17 0))]) dL_areOrders_150 rfl (by decide) rfl ?_
        refine x_iinc X (pc := 151) (v := (nI (k + 1 + 1))) (lv1 := [(4, .int (nI (k + 1 + 1))), (3, .int 1), (8, .int ((comf S.1 a) - (comf S.1 b))), (7, .int ((S.1 5 a) - (S.1 5 b))), (6, .int (nI b)), (5, .int (nI a)), (2, .int (nI nm)), (1, .int (nI nc)), (0, .ref (za E 17 0))]) 5 dL_areOrders_151 rfl (nI_1 _) (by decide) rfl ?_
        refine x_goto X (pc := 154) (tgt := 54) dL_areOrders_154 (by decide) ?_
        refine x_sub (lv' := [(4, .int (nI (k + 1 + 1))), (3, .int 1), (2, .int (nI nm)), (1, .int (nI nc)), (0, .ref (za E 17 0))]) [0, 1, 6, 7, 8] rfl ?_
        exact ih54 () (by omega) trivial
