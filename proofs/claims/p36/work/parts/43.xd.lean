/-! ===== the law's isSale ===== -/
theorem salS_t {g : LG} {k : Nat} {most : Int32} (hm : (if (salS g k).1 < 0 then 0 else g 11 (salS g k).1.toNatClampNeg) = most) (h : most < g 11 k) : salS g (k + 1) = (nI k, most) := by
  conv => lhs; unfold salS
  rw [hm, if_pos h]
theorem salS_f {g : LG} {k : Nat} {most : Int32} (hm : (if (salS g k).1 < 0 then 0 else g 11 (salS g k).1.toNatClampNeg) = most) (h : ¬ most < g 11 k) : salS g (k + 1) = ((salS g k).1, if (salS g k).2 < g 11 k then g 11 k else (salS g k).2) := by
  conv => lhs; unfold salS
  rw [hm, if_neg h]
theorem salS_no {g : LG} {n : Nat} : nOr (salS g n).1 n := by
  induction n with
  | zero => exact Or.inl rfl
  | succ n ih =>
    by_cases h : (if (salS g n).1 < 0 then 0 else g 11 (salS g n).1.toNatClampNeg) < g 11 n
    · rw [salS_t rfl h]
      exact Or.inr ⟨n, by omega, rfl⟩
    · rw [salS_f rfl h]
      exact ih.le (by omega)
theorem nS_ref {S : LSt} {v : Int32} {rs : Rs} (hv : v < 0) : nS S (v, S.1, rs) = (S.1, S.2.1, rs, S.2.2.2) := by
  unfold nS hsN
  rw [if_pos hv]
theorem nI_nl {k : Nat} (hk : k < 2 ^ 31) : 0 ≤ nI k := i32_nlt.mp (nI_pos hk)
theorem ne_14 {x : Int32} (h : ¬ x < 0) : x ≠ -1014 := fun e => h (by rw [e]; decide)
def rm_L_isSale : Room := { frames := 6, cells := 0, slots := 0, locals := 167 }
theorem ks_L_isSale : KS yL_isSale cL_isSale 10 (some .boolean) 1 := ⟨⟨gw_798, gw_352, gw_799⟩, by decide +kernel⟩
set_option maxRecDepth 100000 in
set_option maxHeartbeats 4000000 in
theorem c_L_isSale (E : ZE) (M : Mem) (S : LSt) (hX : XS M S) (nc nm n : Nat) (hI : Inv S.1 nc nm n) (hf : SF S.1 nc nm) (h9 : n < 100000) : MtX E yL_isSale cL_isSale 10 (some .boolean) rm_L_isSale [.ref (za E 17 0)] M (fun _ => True) (RI (fun v M1 => v = 1 ∧ ∃ S1, XS M1 S1 ∧ Sm S S1)) 0 0 := by
  have hn := hI.c10; have hn2 := hI.m10; have b1 := cntB_le (sits S.1) nm
  refine x_met (own := RL) (lv := [(0, .ref (za E 17 0))]) (by decide) rfl (Nat.le_of_ble_eq_true rfl) rfl (fun gg X hPr Y => ?_)
  refine x_aload_n X (pc := 0) 0 dL_isSale_0 rfl rfl ?_
  refine x_callX X (pc := 1) (rest := []) ks_L_digest (c_L_digest _ _ _ hX nc nm _ hI) gw_350 x_nopr (fun _ _ _ _ _ _ => trivial) rfl rfl (Nat.le_of_ble_eq_true rfl) (Nat.le_of_ble_eq_true rfl) ⟨Nat.le_of_ble_eq_true rfl, Nat.le_of_ble_eq_true rfl⟩ rfl rfl (Nat.le_of_ble_eq_true rfl) dL_isSale_1 (x_pl ?_)
  refine x_lstore_n X (pc := 4) (lv1 := [(1, .long (dig S.1 nc nm)), (0, .ref (za E 17 0))]) dL_isSale_4 rfl (by decide) rfl ?_
  refine x_iconst X (pc := 5) (v := (-1)) dL_isSale_5 (by decide) ?_
  refine x_istore_n X (pc := 6) (lv1 := [(3, .int ((-1))), (1, .long (dig S.1 nc nm)), (0, .ref (za E 17 0))]) dL_isSale_6 rfl (by decide) rfl ?_
  refine x_iconst X (pc := 7) (v := 0) dL_isSale_7 (by decide) ?_
  refine x_istore X (pc := 8) (lv1 := [(4, .int 0), (3, .int ((-1))), (1, .long (dig S.1 nc nm)), (0, .ref (za E 17 0))]) dL_isSale_8 (by decide) rfl ?_
  refine x_iconst X (pc := 10) (v := 0) dL_isSale_10 (by decide) ?_
  refine x_istore X (pc := 11) (lv1 := [(5, .int 0), (4, .int 0), (3, .int ((-1))), (1, .long (dig S.1 nc nm)), (0, .ref (za E 17 0))]) dL_isSale_11 (by decide) rfl ?_
  refine x_sub (lv' := [(5, .int 0), (4, .int 0), (3, .int ((-1))), (1, .long (dig S.1 nc nm)), (0, .ref (za E 17 0))]) [0, 1, 2, 3, 4] rfl ?_
  refine x_eq (lv' := [(5, .int (nI 0)), (4, .int ((salS S.1 0).2)), (3, .int ((salS S.1 0).1)), (1, .long (dig S.1 nc nm)), (0, .ref (za E 17 0))]) rfl rfl ?_
  refine x_loop nm 13 (σ := Unit) (fun _ _ => True) (fun k _ => (M, [(5, .int (nI k)), (4, .int ((salS S.1 k).2)), (3, .int ((salS S.1 k).1)), (1, .long (dig S.1 nc nm)), (0, .ref (za E 17 0))])) ?_ 0 () (Nat.zero_le _) trivial
  intro k _ hk _ ih13
  show ZX gg E _ _ _ M [(5, .int (nI k)), (4, .int ((salS S.1 k).2)), (3, .int ((salS S.1 k).1)), (1, .long (dig S.1 nc nm)), (0, .ref (za E 17 0))] 13 []
  refine x_iload X (pc := 13) 0 dL_isSale_13 rfl ?_
  refine x_aload_n X (pc := 15) 4 dL_isSale_15 rfl rfl ?_
  refine x_iconst X (pc := 16) (v := 1) dL_isSale_16 (by decide) ?_
  refine x_callV X ⟨Nat.zero_le _, Nat.zero_le _⟩ (pc := 17) (rest := [.int (nI k)]) kv_X10_account (q_ac hX hI (ac_1 hI)) zk_17_0 (zc_17_0 E _) rfl rfl gw_356 ⟨⟨rfl, rfl⟩, Nat.le_of_ble_eq_true rfl, Nat.le_of_ble_eq_true rfl⟩ rfl rfl (Nat.le_of_ble_eq_true rfl) dL_isSale_17 (x_pi ?_)
  refine x_nicmp_ge X (pc := 20) (a := k) (b := nm) (tgt := 89) dL_isSale_20 (by decide) (by omega) (by omega) (fun c20 => ?_) (fun c20 => ?_)
  · obtain rfl : nm = k := by omega
    have hsb := salS_buyer hI
    by_cases eb : buyer S.1 = -1
    · refine x_eq (lv' := [(5, .int (nI nm)), (4, .int (price S.1)), (3, .int ((-1))), (1, .long (dig S.1 nc nm)), (0, .ref (za E 17 0))]) (by rw [hsb, eb]) rfl ?_
      have eo : oSell S.1 S.2.2.1 7 = (-1014, S.1, [(10, nSit S.1)]) := by unfold oSell; rw [if_neg (by decide), if_pos eb]
      refine x_iload_n X (pc := 89) 2 dL_isSale_89 rfl rfl ?_
      refine x_if_ge X (pc := 90) (tgt := 97) dL_isSale_90 (by decide) (fun z => absurd z (by decide)) (fun _ => ?_)
      refine x_iconst X (pc := 93) (v := 0) dL_isSale_93 (by decide) ?_
      refine x_goto X (pc := 94) (tgt := 103) dL_isSale_94 (by decide) ?_
      refine x_istore X (pc := 103) (lv1 := [(5, .int 0), (4, .int (price S.1)), (3, .int ((-1))), (1, .long (dig S.1 nc nm)), (0, .ref (za E 17 0))]) dL_isSale_103 (by decide) rfl ?_
      refine x_aload_n X (pc := 105) 4 dL_isSale_105 rfl rfl ?_
      refine x_iconst X (pc := 106) (v := 5) dL_isSale_106 (by decide) ?_
      refine x_callV X ⟨Nat.zero_le _, Nat.zero_le _⟩ (pc := 107) (rest := []) kv_X10_account (q_ac hX hI (ac_5)) zk_17_0 (zc_17_0 E _) rfl rfl gw_356 ⟨⟨rfl, rfl⟩, Nat.le_of_ble_eq_true rfl, Nat.le_of_ble_eq_true rfl⟩ rfl rfl (Nat.le_of_ble_eq_true rfl) dL_isSale_107 (x_pi ?_)
      refine x_istore X (pc := 110) (lv1 := [(6, .int (S.1 14 0)), (5, .int 0), (4, .int (price S.1)), (3, .int ((-1))), (1, .long (dig S.1 nc nm)), (0, .ref (za E 17 0))]) dL_isSale_110 (by decide) rfl ?_
      refine x_aload_n X (pc := 112) 5 dL_isSale_112 rfl rfl ?_
      refine x_bipush X (pc := 113) (v := 7) dL_isSale_113 (by decide) ?_
      refine x_callV X ⟨Nat.zero_le _, Nat.zero_le _⟩ (pc := 115) (rest := []) kv_X10_sell (q_sell hX hI 7) zk_17_0 (zc_17_0 E _) rfl rfl gw_462 ⟨⟨rfl, rfl⟩, Nat.le_of_ble_eq_true rfl, Nat.le_of_ble_eq_true rfl⟩ rfl rfl (Nat.le_of_ble_eq_true rfl) dL_isSale_115 (x_ri (fun v1 M1 h1 => ?_))
      obtain ⟨hv, hX1⟩ := h1
      rw [eo] at hv hX1
      rw [nS_ref (by decide)] at hX1
      refine x_top (y := ((-1014))) hv ?_
      refine x_istore X (pc := 118) (lv1 := [(7, .int ((-1014))), (6, .int (S.1 14 0)), (5, .int 0), (4, .int (price S.1)), (3, .int ((-1))), (1, .long (dig S.1 nc nm)), (0, .ref (za E 17 0))]) dL_isSale_118 (by decide) rfl ?_
      refine x_iload X (pc := 120) 0 dL_isSale_120 rfl ?_
      refine x_sipush X (pc := 122) (v := (-1014)) dL_isSale_122 (by decide) ?_
      refine x_icmp_ne X (pc := 125) (tgt := 172) dL_isSale_125 (by decide) (fun z => absurd rfl z) (fun _ => ?_)
      refine x_iload_n X (pc := 128) 4 dL_isSale_128 rfl rfl ?_
      refine x_if_ge X (pc := 129) (tgt := 170) dL_isSale_129 (by decide) (fun z => absurd z (by decide)) (fun _ => ?_)
      refine x_aload_n X (pc := 132) 6 dL_isSale_132 rfl rfl ?_
      refine x_iconst X (pc := 133) (v := 0) dL_isSale_133 (by decide) ?_
      refine x_iconst X (pc := 134) (v := 0) dL_isSale_134 (by decide) ?_
      refine x_callV X ⟨Nat.zero_le _, Nat.zero_le _⟩ (pc := 135) (rest := []) kv_X10_reason (q_reason hX1 (x := 0) (d := 0) (v := 10) ((aReason_0 (a := 10) (b := nSit S.1) (tl := []) rfl).trans (if_pos rfl))) zk_17_0 (zc_17_0 E _) rfl rfl gw_787 ⟨⟨rfl, rfl⟩, Nat.le_of_ble_eq_true rfl, Nat.le_of_ble_eq_true rfl⟩ rfl rfl (Nat.le_of_ble_eq_true rfl) dL_isSale_135 (x_pi ?_)
      refine x_bipush X (pc := 138) (v := 10) dL_isSale_138 (by decide) ?_
      refine x_icmp_ne X (pc := 140) (tgt := 170) dL_isSale_140 (by decide) (fun z => absurd (by decide) z) (fun _ => ?_)
      refine x_aload_n X (pc := 143) 6 dL_isSale_143 rfl rfl ?_
      refine x_iconst X (pc := 144) (v := 0) dL_isSale_144 (by decide) ?_
      refine x_iconst X (pc := 145) (v := 1) dL_isSale_145 (by decide) ?_
      refine x_callV X ⟨Nat.zero_le _, Nat.zero_le _⟩ (pc := 146) (rest := []) kv_X10_reason (q_reason hX1 (x := 0) (d := 1) (v := nSit S.1) ((aReason_0 (a := 10) (b := nSit S.1) (tl := []) rfl).trans (if_neg (by decide)))) zk_17_0 (zc_17_0 E _) rfl rfl gw_787 ⟨⟨rfl, rfl⟩, Nat.le_of_ble_eq_true rfl, Nat.le_of_ble_eq_true rfl⟩ rfl rfl (Nat.le_of_ble_eq_true rfl) dL_isSale_146 (x_pi ?_)
      refine x_aload_n X (pc := 149) 6 dL_isSale_149 rfl rfl ?_
      refine x_iconst X (pc := 150) (v := 2) dL_isSale_150 (by decide) ?_
      refine x_callV X ⟨Nat.zero_le _, Nat.zero_le _⟩ (pc := 151) (rest := [.int (nSit S.1)]) kv_X10_account (q_ac hX1 hI (ac_2 hI)) zk_17_0 (zc_17_0 E _) rfl rfl gw_356 ⟨⟨rfl, rfl⟩, Nat.le_of_ble_eq_true rfl, Nat.le_of_ble_eq_true rfl⟩ rfl rfl (Nat.le_of_ble_eq_true rfl) dL_isSale_151 (x_pi ?_)
      refine x_icmp_ne X (pc := 154) (tgt := 170) dL_isSale_154 (by decide) (fun z => absurd (by unfold nSit; rw [hI.mNe]) z) (fun _ => ?_)
      refine x_aload_n X (pc := 157) 6 dL_isSale_157 rfl rfl ?_
      refine x_callX X (pc := 158) (rest := []) ks_L_digest (c_L_digest _ _ _ hX1 nc nm _ hI) gw_350 x_nopr (fun _ _ _ _ _ _ => trivial) rfl rfl (Nat.le_of_ble_eq_true rfl) (Nat.le_of_ble_eq_true rfl) ⟨Nat.le_of_ble_eq_true rfl, Nat.le_of_ble_eq_true rfl⟩ rfl rfl (Nat.le_of_ble_eq_true rfl) dL_isSale_158 (x_pl ?_)
      refine x_lload_n X (pc := 161) 5 dL_isSale_161 rfl rfl ?_
      refine x_lcmp_eq X (pc := 162) rfl dL_isSale_162 ?_
      refine x_if_ne X (pc := 163) (tgt := 170) dL_isSale_163 (by decide) (fun z => absurd (by decide) z) (fun _ => ?_)
      refine x_iconst X (pc := 166) (v := 1) dL_isSale_166 (by decide) ?_
      refine x_goto X (pc := 167) (tgt := 171) dL_isSale_167 (by decide) ?_
      exact x_zret X Y (by decide) (Nat.le_refl _) (Nat.le_refl _) dL_isSale_171 ⟨_, rfl, rfl, _, hX1, rfl, fun _ h => h, rfl, rfl⟩
    · obtain ⟨b, hb, eb⟩ := buyer_nI hI eb
      refine x_eq (lv' := [(5, .int (nI nm)), (4, .int (price S.1)), (3, .int (nI b)), (1, .long (dig S.1 nc nm)), (0, .ref (za E 17 0))]) (by rw [hsb, eb]) rfl ?_
      have eo : oSell S.1 S.2.2.1 7 = (price S.1, sellG S.1 7, S.2.2.1) := by unfold oSell; rw [if_neg (by decide), if_neg (by rw [eb]; exact nI_ne_m1 (by omega))]
      obtain ⟨f1, f2, f3, c0, hc0, f4, f5, f6⟩ := sell_facts (v := 7) hI hb eb
      have hp := (price_rng hI hb eb).1.1
      have hI1 := sell_inv (v := 7) hI h9 ⟨7, by omega, by omega, rfl⟩ (by rw [eb]; exact nI_ne_m1 (by omega))
      refine x_iload_n X (pc := 89) 2 dL_isSale_89 rfl rfl ?_
      refine x_if_ge X (pc := 90) (tgt := 97) dL_isSale_90 (by decide) (fun _ => ?_) (fun z => absurd (nI_nl (by omega)) z)
      refine x_aload_n X (pc := 97) 4 dL_isSale_97 rfl rfl ?_
      refine x_iload_n X (pc := 98) 2 dL_isSale_98 rfl rfl ?_
      refine x_iconst X (pc := 99) (v := 3) dL_isSale_99 (by decide) ?_
      refine x_callV X ⟨Nat.zero_le _, Nat.zero_le _⟩ (pc := 100) (rest := []) kv_X10_musicianOf (q_mu hX hI (m := b) (by omega) (v := S.1 10 b) rfl) zk_17_0 (zc_17_0 E _) rfl rfl gw_404 ⟨⟨rfl, rfl⟩, Nat.le_of_ble_eq_true rfl, Nat.le_of_ble_eq_true rfl⟩ rfl rfl (Nat.le_of_ble_eq_true rfl) dL_isSale_100 (x_pi ?_)
      refine x_istore X (pc := 103) (lv1 := [(5, .int (S.1 10 b)), (4, .int (price S.1)), (3, .int (nI b)), (1, .long (dig S.1 nc nm)), (0, .ref (za E 17 0))]) dL_isSale_103 (by decide) rfl ?_
      refine x_aload_n X (pc := 105) 4 dL_isSale_105 rfl rfl ?_
      refine x_iconst X (pc := 106) (v := 5) dL_isSale_106 (by decide) ?_
      refine x_callV X ⟨Nat.zero_le _, Nat.zero_le _⟩ (pc := 107) (rest := []) kv_X10_account (q_ac hX hI (ac_5)) zk_17_0 (zc_17_0 E _) rfl rfl gw_356 ⟨⟨rfl, rfl⟩, Nat.le_of_ble_eq_true rfl, Nat.le_of_ble_eq_true rfl⟩ rfl rfl (Nat.le_of_ble_eq_true rfl) dL_isSale_107 (x_pi ?_)
      refine x_istore X (pc := 110) (lv1 := [(6, .int (S.1 14 0)), (5, .int (S.1 10 b)), (4, .int (price S.1)), (3, .int (nI b)), (1, .long (dig S.1 nc nm)), (0, .ref (za E 17 0))]) dL_isSale_110 (by decide) rfl ?_
      refine x_aload_n X (pc := 112) 5 dL_isSale_112 rfl rfl ?_
      refine x_bipush X (pc := 113) (v := 7) dL_isSale_113 (by decide) ?_
      refine x_callV X ⟨Nat.zero_le _, Nat.zero_le _⟩ (pc := 115) (rest := []) kv_X10_sell (q_sell hX hI 7) zk_17_0 (zc_17_0 E _) rfl rfl gw_462 ⟨⟨rfl, rfl⟩, Nat.le_of_ble_eq_true rfl, Nat.le_of_ble_eq_true rfl⟩ rfl rfl (Nat.le_of_ble_eq_true rfl) dL_isSale_115 (x_ri (fun v1 M1 h1 => ?_))
      obtain ⟨hv, hX1⟩ := h1
      rw [eo] at hv hX1
      refine x_top (y := (price S.1)) hv ?_
      refine x_istore X (pc := 118) (lv1 := [(7, .int (price S.1)), (6, .int (S.1 14 0)), (5, .int (S.1 10 b)), (4, .int (price S.1)), (3, .int (nI b)), (1, .long (dig S.1 nc nm)), (0, .ref (za E 17 0))]) dL_isSale_118 (by decide) rfl ?_
      refine x_iload X (pc := 120) 0 dL_isSale_120 rfl ?_
      refine x_sipush X (pc := 122) (v := (-1014)) dL_isSale_122 (by decide) ?_
      refine x_icmp_ne X (pc := 125) (tgt := 172) dL_isSale_125 (by decide) (fun _ => ?_) (fun z => absurd z (ne_14 (hp.lt (by omega))))
      refine x_iload X (pc := 172) 0 dL_isSale_172 rfl ?_
      refine x_iload X (pc := 174) 3 dL_isSale_174 rfl ?_
      refine x_icmp_ne X (pc := 176) (tgt := 226) dL_isSale_176 (by decide) (fun z => absurd rfl z) (fun _ => ?_)
      refine x_aload_n X (pc := 179) 6 dL_isSale_179 rfl rfl ?_
      refine x_iconst X (pc := 180) (v := 5) dL_isSale_180 (by decide) ?_
      refine x_callV X ⟨Nat.zero_le _, Nat.zero_le _⟩ (pc := 181) (rest := []) kv_X10_account (q_ac hX1 hI1 (ac_5)) zk_17_0 (zc_17_0 E _) rfl rfl gw_356 ⟨⟨rfl, rfl⟩, Nat.le_of_ble_eq_true rfl, Nat.le_of_ble_eq_true rfl⟩ rfl rfl (Nat.le_of_ble_eq_true rfl) dL_isSale_181 (x_pi ?_)
      refine x_iload X (pc := 184) 1 dL_isSale_184 rfl ?_
      refine x_iload X (pc := 186) 3 dL_isSale_186 rfl ?_
      refine x_iadd X (pc := 188) dL_isSale_188 ?_
      refine x_icmp_ne X (pc := 189) (tgt := 226) dL_isSale_189 (by decide) (fun z => absurd f1 z) (fun _ => ?_)
      refine x_aload_n X (pc := 192) 6 dL_isSale_192 rfl rfl ?_
      refine x_iload_n X (pc := 193) 4 dL_isSale_193 rfl rfl ?_
      refine x_iconst X (pc := 194) (v := 3) dL_isSale_194 (by decide) ?_
      refine x_callV X ⟨Nat.zero_le _, Nat.zero_le _⟩ (pc := 195) (rest := []) kv_X10_musicianOf (q_mu hX1 hI1 (m := b) (by omega) (v := sellG S.1 7 10 b) rfl) zk_17_0 (zc_17_0 E _) rfl rfl gw_404 ⟨⟨rfl, rfl⟩, Nat.le_of_ble_eq_true rfl, Nat.le_of_ble_eq_true rfl⟩ rfl rfl (Nat.le_of_ble_eq_true rfl) dL_isSale_195 (x_pi ?_)
      refine x_iload X (pc := 198) 2 dL_isSale_198 rfl ?_
      refine x_iload X (pc := 200) 3 dL_isSale_200 rfl ?_
      refine x_isub X (pc := 202) dL_isSale_202 ?_
      refine x_icmp_ne X (pc := 203) (tgt := 226) dL_isSale_203 (by decide) (fun z => absurd f2 z) (fun _ => ?_)
      refine x_aload_n X (pc := 206) 6 dL_isSale_206 rfl rfl ?_
      refine x_aload_n X (pc := 207) 6 dL_isSale_207 rfl rfl ?_
      refine x_iload_n X (pc := 208) 4 dL_isSale_208 rfl rfl ?_
      refine x_iconst X (pc := 209) (v := 5) dL_isSale_209 (by decide) ?_
      refine x_callV X ⟨Nat.zero_le _, Nat.zero_le _⟩ (pc := 210) (rest := [.ref (za E 17 0)]) kv_X10_musicianOf (q_mu hX1 hI1 (m := b) (by omega) (v := orN (sellG S.1 7 12 b)) rfl) zk_17_0 (zc_17_0 E _) rfl rfl gw_404 ⟨⟨rfl, rfl⟩, Nat.le_of_ble_eq_true rfl, Nat.le_of_ble_eq_true rfl⟩ rfl rfl (Nat.le_of_ble_eq_true rfl) dL_isSale_210 (x_pi ?_)
      refine x_top (y := (nI c0)) (by rw [f5]; exact orN_nI (by omega)) ?_
      refine x_iconst X (pc := 213) (v := 2) dL_isSale_213 (by decide) ?_
      refine x_callV X ⟨Nat.zero_le _, Nat.zero_le _⟩ (pc := 214) (rest := []) kv_X10_chairOf (q_ch hX1 hI1 (c := c0) (by omega) (v := sellG S.1 7 2 c0) rfl) zk_17_0 (zc_17_0 E _) rfl rfl gw_385 ⟨⟨rfl, rfl⟩, Nat.le_of_ble_eq_true rfl, Nat.le_of_ble_eq_true rfl⟩ rfl rfl (Nat.le_of_ble_eq_true rfl) dL_isSale_214 (x_pi ?_)
      refine x_bipush X (pc := 217) (v := 7) dL_isSale_217 (by decide) ?_
      refine x_icmp_ne X (pc := 219) (tgt := 226) dL_isSale_219 (by decide) (fun z => absurd f6 z) (fun _ => ?_)
      refine x_iconst X (pc := 222) (v := 1) dL_isSale_222 (by decide) ?_
      refine x_goto X (pc := 223) (tgt := 227) dL_isSale_223 (by decide) ?_
      refine x_istore X (pc := 227) (lv1 := [(8, .int 1), (7, .int (price S.1)), (6, .int (S.1 14 0)), (5, .int (S.1 10 b)), (4, .int (price S.1)), (3, .int (nI b)), (1, .long (dig S.1 nc nm)), (0, .ref (za E 17 0))]) dL_isSale_227 (by decide) rfl ?_
      refine x_iconst X (pc := 229) (v := 0) dL_isSale_229 (by decide) ?_
      refine x_istore X (pc := 230) (lv1 := [(9, .int 0), (8, .int 1), (7, .int (price S.1)), (6, .int (S.1 14 0)), (5, .int (S.1 10 b)), (4, .int (price S.1)), (3, .int (nI b)), (1, .long (dig S.1 nc nm)), (0, .ref (za E 17 0))]) dL_isSale_230 (by decide) rfl ?_
      refine x_sub (lv' := [(9, .int 0), (8, .int 1), (1, .long (dig S.1 nc nm)), (0, .ref (za E 17 0))]) [0, 1, 7, 8] rfl ?_
      refine x_eq (lv' := [(9, .int (nI 0)), (8, .int 1), (1, .long (dig S.1 nc nm)), (0, .ref (za E 17 0))]) rfl rfl ?_
      refine x_loop nm 232 (σ := Unit) (fun _ _ => True) (fun k _ => (M1, [(9, .int (nI k)), (8, .int 1), (1, .long (dig S.1 nc nm)), (0, .ref (za E 17 0))])) ?_ 0 () (Nat.zero_le _) trivial
      intro k _ hk _ ih232
      show ZX gg E _ _ _ M1 [(9, .int (nI k)), (8, .int 1), (1, .long (dig S.1 nc nm)), (0, .ref (za E 17 0))] 232 []
      refine x_iload X (pc := 232) 1 dL_isSale_232 rfl ?_
      refine x_if_eq X (pc := 234) (tgt := 270) dL_isSale_234 (by decide) (fun z => absurd z (by decide)) (fun _ => ?_)
      refine x_iload X (pc := 237) 0 dL_isSale_237 rfl ?_
      refine x_aload_n X (pc := 239) 3 dL_isSale_239 rfl rfl ?_
      refine x_iconst X (pc := 240) (v := 1) dL_isSale_240 (by decide) ?_
      refine x_callV X ⟨Nat.zero_le _, Nat.zero_le _⟩ (pc := 241) (rest := [.int (nI k)]) kv_X10_account (q_ac hX1 hI1 (ac_1 hI1)) zk_17_0 (zc_17_0 E _) rfl rfl gw_356 ⟨⟨rfl, rfl⟩, Nat.le_of_ble_eq_true rfl, Nat.le_of_ble_eq_true rfl⟩ rfl rfl (Nat.le_of_ble_eq_true rfl) dL_isSale_241 (x_pi ?_)
      refine x_nicmp_ge X (pc := 244) (a := k) (b := nm) (tgt := 270) dL_isSale_244 (by decide) (by omega) (by omega) (fun c244 => ?_) (fun c244 => ?_)
      · refine x_iload X (pc := 270) 1 dL_isSale_270 rfl ?_
        refine x_if_eq X (pc := 272) (tgt := 295) dL_isSale_272 (by decide) (fun z => absurd z (by decide)) (fun _ => ?_)
        refine x_aload_n X (pc := 275) 3 dL_isSale_275 rfl rfl ?_
        refine x_callV X ⟨Nat.zero_le _, Nat.zero_le _⟩ (pc := 276) (rest := []) kv_X10_undo (q_undo hX1) zk_17_0 (zc_17_0 E _) rfl rfl gw_665 ⟨⟨rfl, rfl⟩, Nat.le_of_ble_eq_true rfl, Nat.le_of_ble_eq_true rfl⟩ rfl rfl (Nat.le_of_ble_eq_true rfl) dL_isSale_276 (x_ri (fun v2 M2 h2 => ?_))
        obtain ⟨hv2, hX2⟩ := h2
        have eu := aUndo_nS (S := S) (o := (price S.1, sellG S.1 7, S.2.2.1)) (hp.lt (by omega))
        rw [eu] at hv2 hX2
        have ht : (S.2.1.take 7).length ≤ 7 := by rw [List.length_take]; omega
        refine x_top (y := (nI ((S.2.1.take 7).length))) hv2 ?_
        refine x_if_lt X (pc := 279) (tgt := 295) dL_isSale_279 (by decide) (fun z => absurd z (nI_pos (by omega))) (fun _ => ?_)
        refine x_aload_n X (pc := 282) 3 dL_isSale_282 rfl rfl ?_
        refine x_callX X (pc := 283) (rest := []) ks_L_digest (c_L_digest _ _ _ hX2 nc nm _ hI) gw_350 x_nopr (fun _ _ _ _ _ _ => trivial) rfl rfl (Nat.le_of_ble_eq_true rfl) (Nat.le_of_ble_eq_true rfl) ⟨Nat.le_of_ble_eq_true rfl, Nat.le_of_ble_eq_true rfl⟩ rfl rfl (Nat.le_of_ble_eq_true rfl) dL_isSale_283 (x_pl ?_)
        refine x_lload_n X (pc := 286) 2 dL_isSale_286 rfl rfl ?_
        refine x_lcmp_eq X (pc := 287) rfl dL_isSale_287 ?_
        refine x_if_ne X (pc := 288) (tgt := 295) dL_isSale_288 (by decide) (fun z => absurd (by decide) z) (fun _ => ?_)
        refine x_iconst X (pc := 291) (v := 1) dL_isSale_291 (by decide) ?_
        refine x_goto X (pc := 292) (tgt := 296) dL_isSale_292 (by decide) ?_
        exact x_zret X Y (by decide) (Nat.le_refl _) (Nat.le_refl _) dL_isSale_296 ⟨_, rfl, rfl, _, hX2, Sm.undo⟩
      · refine x_aload_n X (pc := 247) 3 dL_isSale_247 rfl rfl ?_
        refine x_iload X (pc := 248) 0 dL_isSale_248 rfl ?_
        refine x_iconst X (pc := 250) (v := 4) dL_isSale_250 (by decide) ?_
        refine x_callV X ⟨Nat.zero_le _, Nat.zero_le _⟩ (pc := 251) (rest := []) kv_X10_musicianOf (q_mu hX1 hI1 (m := k) (by omega) (v := sellG S.1 7 11 k) rfl) zk_17_0 (zc_17_0 E _) rfl rfl gw_404 ⟨⟨rfl, rfl⟩, Nat.le_of_ble_eq_true rfl, Nat.le_of_ble_eq_true rfl⟩ rfl rfl (Nat.le_of_ble_eq_true rfl) dL_isSale_251 (x_pi ?_)
        refine x_if_ne X (pc := 254) (tgt := 261) dL_isSale_254 (by decide) (fun z => absurd (f3 k (by omega)) z) (fun _ => ?_)
        refine x_iconst X (pc := 257) (v := 1) dL_isSale_257 (by decide) ?_
        refine x_goto X (pc := 258) (tgt := 262) dL_isSale_258 (by decide) ?_
        refine x_istore X (pc := 262) (lv1 := [(8, .int 1), (9, .int (nI k)), (1, .long (dig S.1 nc nm)), (0, .ref (za E 17 0))]) dL_isSale_262 (by decide) rfl ?_
        refine x_iinc X (pc := 264) (v := (nI (k + 1))) (lv1 := [(9, .int (nI (k + 1))), (8, .int 1), (1, .long (dig S.1 nc nm)), (0, .ref (za E 17 0))]) 1 dL_isSale_264 rfl (nI_1 _) (by decide) rfl ?_
        refine x_goto X (pc := 267) (tgt := 232) dL_isSale_267 (by decide) ?_
        refine x_sub (lv' := [(9, .int (nI (k + 1))), (8, .int 1), (1, .long (dig S.1 nc nm)), (0, .ref (za E 17 0))]) [0, 1, 2, 3] rfl ?_
        exact ih232 () (by omega) trivial
  · rcases salS_no (g := S.1) (n := k) with eb | ⟨b, hb, eb⟩
    · refine x_eq (lv' := [(5, .int (nI k)), (4, .int ((salS S.1 k).2)), (3, .int ((-1))), (1, .long (dig S.1 nc nm)), (0, .ref (za E 17 0))]) (by rw [eb]) rfl ?_
      refine x_aload_n X (pc := 23) 4 dL_isSale_23 rfl rfl ?_
      refine x_iload X (pc := 24) 0 dL_isSale_24 rfl ?_
      refine x_iconst X (pc := 26) (v := 4) dL_isSale_26 (by decide) ?_
      refine x_callV X ⟨Nat.zero_le _, Nat.zero_le _⟩ (pc := 27) (rest := []) kv_X10_musicianOf (q_mu hX hI (m := k) (by omega) (v := S.1 11 k) rfl) zk_17_0 (zc_17_0 E _) rfl rfl gw_404 ⟨⟨rfl, rfl⟩, Nat.le_of_ble_eq_true rfl, Nat.le_of_ble_eq_true rfl⟩ rfl rfl (Nat.le_of_ble_eq_true rfl) dL_isSale_27 (x_pi ?_)
      refine x_istore X (pc := 30) (lv1 := [(6, .int (S.1 11 k)), (5, .int (nI k)), (4, .int ((salS S.1 k).2)), (3, .int ((-1))), (1, .long (dig S.1 nc nm)), (0, .ref (za E 17 0))]) dL_isSale_30 (by decide) rfl ?_
      refine x_iload_n X (pc := 32) 3 dL_isSale_32 rfl rfl ?_
      refine x_if_ge X (pc := 33) (tgt := 40) dL_isSale_33 (by decide) (fun z => absurd z (by decide)) (fun _ => ?_)
      refine x_iconst X (pc := 36) (v := 0) dL_isSale_36 (by decide) ?_
      refine x_goto X (pc := 37) (tgt := 46) dL_isSale_37 (by decide) ?_
      refine x_istore X (pc := 46) (lv1 := [(7, .int 0), (6, .int (S.1 11 k)), (5, .int (nI k)), (4, .int ((salS S.1 k).2)), (3, .int ((-1))), (1, .long (dig S.1 nc nm)), (0, .ref (za E 17 0))]) dL_isSale_46 (by decide) rfl ?_
      refine x_iload X (pc := 48) 1 dL_isSale_48 rfl ?_
      refine x_iload X (pc := 50) 0 dL_isSale_50 rfl ?_
      refine x_icmp_le X (pc := 52) (tgt := 60) dL_isSale_52 (by decide) (fun cc => ?_) (fun cc => ?_)
      · have c50 := i32_nlt.mpr cc
        refine x_iload X (pc := 60) 3 dL_isSale_60 rfl ?_
        refine x_iload X (pc := 62) 1 dL_isSale_62 rfl ?_
        refine x_max X ⟨Nat.zero_le _, Nat.zero_le _⟩ (pc := 64) gw_800 gw_69 gw_70 gw_71 (by decide) (Nat.le_of_ble_eq_true rfl) dL_isSale_64 ?_
        refine x_istore X (pc := 67) (lv1 := [(4, .int (if ((salS S.1 k).2) < (S.1 11 k) then (S.1 11 k) else ((salS S.1 k).2))), (7, .int 0), (6, .int (S.1 11 k)), (5, .int (nI k)), (3, .int ((-1))), (1, .long (dig S.1 nc nm)), (0, .ref (za E 17 0))]) dL_isSale_67 (by decide) rfl ?_
        refine x_iload X (pc := 69) 2 dL_isSale_69 rfl ?_
        refine x_iload X (pc := 71) 1 dL_isSale_71 rfl ?_
        refine x_icmp_le X (pc := 73) (tgt := 81) dL_isSale_73 (by decide) (fun _ => ?_) (fun z => absurd cc z)
        refine x_iload_n X (pc := 81) 4 dL_isSale_81 rfl rfl ?_
        refine x_istore_n X (pc := 82) (lv1 := [(3, .int ((-1))), (4, .int (if ((salS S.1 k).2) < (S.1 11 k) then (S.1 11 k) else ((salS S.1 k).2))), (7, .int 0), (6, .int (S.1 11 k)), (5, .int (nI k)), (1, .long (dig S.1 nc nm)), (0, .ref (za E 17 0))]) dL_isSale_82 rfl (by decide) rfl ?_
        refine x_iinc X (pc := 83) (v := (nI (k + 1))) (lv1 := [(5, .int (nI (k + 1))), (3, .int ((-1))), (4, .int (if ((salS S.1 k).2) < (S.1 11 k) then (S.1 11 k) else ((salS S.1 k).2))), (7, .int 0), (6, .int (S.1 11 k)), (1, .long (dig S.1 nc nm)), (0, .ref (za E 17 0))]) 4 dL_isSale_83 rfl (nI_1 _) (by decide) rfl ?_
        refine x_goto X (pc := 86) (tgt := 13) dL_isSale_86 (by decide) ?_
        refine x_sub (lv' := [(5, .int (nI (k + 1))), (4, .int (if ((salS S.1 k).2) < (S.1 11 k) then (S.1 11 k) else ((salS S.1 k).2))), (3, .int ((-1))), (1, .long (dig S.1 nc nm)), (0, .ref (za E 17 0))]) [0, 2, 1, 5, 6] rfl ?_
        have es := salS_f (g := S.1) (k := k) (most := 0) (by rw [eb, if_pos (by decide)]) c50
        refine x_eq (lv' := [(5, .int (nI (k + 1))), (4, .int ((salS S.1 (k + 1)).2)), (3, .int ((salS S.1 (k + 1)).1)), (1, .long (dig S.1 nc nm)), (0, .ref (za E 17 0))]) (by rw [es, eb]) rfl ?_
        exact ih13 () (by omega) trivial
      · have c50 := i32_nle.mp cc
        refine x_iload X (pc := 55) 0 dL_isSale_55 rfl ?_
        refine x_goto X (pc := 57) (tgt := 67) dL_isSale_57 (by decide) ?_
        refine x_istore X (pc := 67) (lv1 := [(4, .int 0), (7, .int 0), (6, .int (S.1 11 k)), (5, .int (nI k)), (3, .int ((-1))), (1, .long (dig S.1 nc nm)), (0, .ref (za E 17 0))]) dL_isSale_67 (by decide) rfl ?_
        refine x_iload X (pc := 69) 2 dL_isSale_69 rfl ?_
        refine x_iload X (pc := 71) 1 dL_isSale_71 rfl ?_
        refine x_icmp_le X (pc := 73) (tgt := 81) dL_isSale_73 (by decide) (fun z => absurd z cc) (fun _ => ?_)
        refine x_iload X (pc := 76) 3 dL_isSale_76 rfl ?_
        refine x_goto X (pc := 78) (tgt := 82) dL_isSale_78 (by decide) ?_
        refine x_istore_n X (pc := 82) (lv1 := [(3, .int (nI k)), (4, .int 0), (7, .int 0), (6, .int (S.1 11 k)), (5, .int (nI k)), (1, .long (dig S.1 nc nm)), (0, .ref (za E 17 0))]) dL_isSale_82 rfl (by decide) rfl ?_
        refine x_iinc X (pc := 83) (v := (nI (k + 1))) (lv1 := [(5, .int (nI (k + 1))), (3, .int (nI k)), (4, .int 0), (7, .int 0), (6, .int (S.1 11 k)), (1, .long (dig S.1 nc nm)), (0, .ref (za E 17 0))]) 4 dL_isSale_83 rfl (nI_1 _) (by decide) rfl ?_
        refine x_goto X (pc := 86) (tgt := 13) dL_isSale_86 (by decide) ?_
        refine x_sub (lv' := [(5, .int (nI (k + 1))), (4, .int 0), (3, .int (nI k)), (1, .long (dig S.1 nc nm)), (0, .ref (za E 17 0))]) [0, 2, 1, 5, 6] rfl ?_
        have es := salS_t (g := S.1) (k := k) (most := 0) (by rw [eb, if_pos (by decide)]) c50
        refine x_eq (lv' := [(5, .int (nI (k + 1))), (4, .int ((salS S.1 (k + 1)).2)), (3, .int ((salS S.1 (k + 1)).1)), (1, .long (dig S.1 nc nm)), (0, .ref (za E 17 0))]) (by rw [es]) rfl ?_
        exact ih13 () (by omega) trivial
    · refine x_eq (lv' := [(5, .int (nI k)), (4, .int ((salS S.1 k).2)), (3, .int (nI b)), (1, .long (dig S.1 nc nm)), (0, .ref (za E 17 0))]) (by rw [eb]) rfl ?_
      refine x_aload_n X (pc := 23) 4 dL_isSale_23 rfl rfl ?_
      refine x_iload X (pc := 24) 0 dL_isSale_24 rfl ?_
      refine x_iconst X (pc := 26) (v := 4) dL_isSale_26 (by decide) ?_
      refine x_callV X ⟨Nat.zero_le _, Nat.zero_le _⟩ (pc := 27) (rest := []) kv_X10_musicianOf (q_mu hX hI (m := k) (by omega) (v := S.1 11 k) rfl) zk_17_0 (zc_17_0 E _) rfl rfl gw_404 ⟨⟨rfl, rfl⟩, Nat.le_of_ble_eq_true rfl, Nat.le_of_ble_eq_true rfl⟩ rfl rfl (Nat.le_of_ble_eq_true rfl) dL_isSale_27 (x_pi ?_)
      refine x_istore X (pc := 30) (lv1 := [(6, .int (S.1 11 k)), (5, .int (nI k)), (4, .int ((salS S.1 k).2)), (3, .int (nI b)), (1, .long (dig S.1 nc nm)), (0, .ref (za E 17 0))]) dL_isSale_30 (by decide) rfl ?_
      refine x_iload_n X (pc := 32) 3 dL_isSale_32 rfl rfl ?_
      refine x_if_ge X (pc := 33) (tgt := 40) dL_isSale_33 (by decide) (fun _ => ?_) (fun z => absurd (nI_nl (by omega)) z)
      refine x_aload_n X (pc := 40) 5 dL_isSale_40 rfl rfl ?_
      refine x_iload_n X (pc := 41) 3 dL_isSale_41 rfl rfl ?_
      refine x_iconst X (pc := 42) (v := 4) dL_isSale_42 (by decide) ?_
      refine x_callV X ⟨Nat.zero_le _, Nat.zero_le _⟩ (pc := 43) (rest := []) kv_X10_musicianOf (q_mu hX hI (m := b) (by omega) (v := S.1 11 b) rfl) zk_17_0 (zc_17_0 E _) rfl rfl gw_404 ⟨⟨rfl, rfl⟩, Nat.le_of_ble_eq_true rfl, Nat.le_of_ble_eq_true rfl⟩ rfl rfl (Nat.le_of_ble_eq_true rfl) dL_isSale_43 (x_pi ?_)
      refine x_istore X (pc := 46) (lv1 := [(7, .int (S.1 11 b)), (6, .int (S.1 11 k)), (5, .int (nI k)), (4, .int ((salS S.1 k).2)), (3, .int (nI b)), (1, .long (dig S.1 nc nm)), (0, .ref (za E 17 0))]) dL_isSale_46 (by decide) rfl ?_
      refine x_iload X (pc := 48) 1 dL_isSale_48 rfl ?_
      refine x_iload X (pc := 50) 0 dL_isSale_50 rfl ?_
      refine x_icmp_le X (pc := 52) (tgt := 60) dL_isSale_52 (by decide) (fun cc => ?_) (fun cc => ?_)
      · have c50 := i32_nlt.mpr cc
        refine x_iload X (pc := 60) 3 dL_isSale_60 rfl ?_
        refine x_iload X (pc := 62) 1 dL_isSale_62 rfl ?_
        refine x_max X ⟨Nat.zero_le _, Nat.zero_le _⟩ (pc := 64) gw_800 gw_69 gw_70 gw_71 (by decide) (Nat.le_of_ble_eq_true rfl) dL_isSale_64 ?_
        refine x_istore X (pc := 67) (lv1 := [(4, .int (if ((salS S.1 k).2) < (S.1 11 k) then (S.1 11 k) else ((salS S.1 k).2))), (7, .int (S.1 11 b)), (6, .int (S.1 11 k)), (5, .int (nI k)), (3, .int (nI b)), (1, .long (dig S.1 nc nm)), (0, .ref (za E 17 0))]) dL_isSale_67 (by decide) rfl ?_
        refine x_iload X (pc := 69) 2 dL_isSale_69 rfl ?_
        refine x_iload X (pc := 71) 1 dL_isSale_71 rfl ?_
        refine x_icmp_le X (pc := 73) (tgt := 81) dL_isSale_73 (by decide) (fun _ => ?_) (fun z => absurd cc z)
        refine x_iload_n X (pc := 81) 4 dL_isSale_81 rfl rfl ?_
        refine x_istore_n X (pc := 82) (lv1 := [(3, .int (nI b)), (4, .int (if ((salS S.1 k).2) < (S.1 11 k) then (S.1 11 k) else ((salS S.1 k).2))), (7, .int (S.1 11 b)), (6, .int (S.1 11 k)), (5, .int (nI k)), (1, .long (dig S.1 nc nm)), (0, .ref (za E 17 0))]) dL_isSale_82 rfl (by decide) rfl ?_
        refine x_iinc X (pc := 83) (v := (nI (k + 1))) (lv1 := [(5, .int (nI (k + 1))), (3, .int (nI b)), (4, .int (if ((salS S.1 k).2) < (S.1 11 k) then (S.1 11 k) else ((salS S.1 k).2))), (7, .int (S.1 11 b)), (6, .int (S.1 11 k)), (1, .long (dig S.1 nc nm)), (0, .ref (za E 17 0))]) 4 dL_isSale_83 rfl (nI_1 _) (by decide) rfl ?_
        refine x_goto X (pc := 86) (tgt := 13) dL_isSale_86 (by decide) ?_
        refine x_sub (lv' := [(5, .int (nI (k + 1))), (4, .int (if ((salS S.1 k).2) < (S.1 11 k) then (S.1 11 k) else ((salS S.1 k).2))), (3, .int (nI b)), (1, .long (dig S.1 nc nm)), (0, .ref (za E 17 0))]) [0, 2, 1, 5, 6] rfl ?_
        have es := salS_f (g := S.1) (k := k) (most := S.1 11 b) (by rw [eb, if_neg (nI_pos (by omega)), nI_clamp (by omega)]) c50
        refine x_eq (lv' := [(5, .int (nI (k + 1))), (4, .int ((salS S.1 (k + 1)).2)), (3, .int ((salS S.1 (k + 1)).1)), (1, .long (dig S.1 nc nm)), (0, .ref (za E 17 0))]) (by rw [es, eb]) rfl ?_
        exact ih13 () (by omega) trivial
      · have c50 := i32_nle.mp cc
        refine x_iload X (pc := 55) 0 dL_isSale_55 rfl ?_
        refine x_goto X (pc := 57) (tgt := 67) dL_isSale_57 (by decide) ?_
        refine x_istore X (pc := 67) (lv1 := [(4, .int (S.1 11 b)), (7, .int (S.1 11 b)), (6, .int (S.1 11 k)), (5, .int (nI k)), (3, .int (nI b)), (1, .long (dig S.1 nc nm)), (0, .ref (za E 17 0))]) dL_isSale_67 (by decide) rfl ?_
        refine x_iload X (pc := 69) 2 dL_isSale_69 rfl ?_
        refine x_iload X (pc := 71) 1 dL_isSale_71 rfl ?_
        refine x_icmp_le X (pc := 73) (tgt := 81) dL_isSale_73 (by decide) (fun z => absurd z cc) (fun _ => ?_)
        refine x_iload X (pc := 76) 3 dL_isSale_76 rfl ?_
        refine x_goto X (pc := 78) (tgt := 82) dL_isSale_78 (by decide) ?_
        refine x_istore_n X (pc := 82) (lv1 := [(3, .int (nI k)), (4, .int (S.1 11 b)), (7, .int (S.1 11 b)), (6, .int (S.1 11 k)), (5, .int (nI k)), (1, .long (dig S.1 nc nm)), (0, .ref (za E 17 0))]) dL_isSale_82 rfl (by decide) rfl ?_
        refine x_iinc X (pc := 83) (v := (nI (k + 1))) (lv1 := [(5, .int (nI (k + 1))), (3, .int (nI k)), (4, .int (S.1 11 b)), (7, .int (S.1 11 b)), (6, .int (S.1 11 k)), (1, .long (dig S.1 nc nm)), (0, .ref (za E 17 0))]) 4 dL_isSale_83 rfl (nI_1 _) (by decide) rfl ?_
        refine x_goto X (pc := 86) (tgt := 13) dL_isSale_86 (by decide) ?_
        refine x_sub (lv' := [(5, .int (nI (k + 1))), (4, .int (S.1 11 b)), (3, .int (nI k)), (1, .long (dig S.1 nc nm)), (0, .ref (za E 17 0))]) [0, 2, 1, 5, 6] rfl ?_
        have es := salS_t (g := S.1) (k := k) (most := S.1 11 b) (by rw [eb, if_neg (nI_pos (by omega)), nI_clamp (by omega)]) c50
        refine x_eq (lv' := [(5, .int (nI (k + 1))), (4, .int ((salS S.1 (k + 1)).2)), (3, .int ((salS S.1 (k + 1)).1)), (1, .long (dig S.1 nc nm)), (0, .ref (za E 17 0))]) (by rw [es]) rfl ?_
        exact ih13 () (by omega) trivial
