/-! ===== the law's isConcert ===== -/
theorem psum_0 {g : LG} {c : Nat} (h : g 6 c = -1) : paySum g c + 0 / 3 = paySum g (c + 1) := by
  show _ = if taken g c = true then _ else _
  rw [if_neg (by unfold taken; simp [h]), show (0 : Int32) / 3 = 0 from by decide]
  simp
theorem psum_1 {g : LG} {c m : Nat} (h : g 6 c = nI m) (hm : m < 10) : paySum g c + fit g c m / 3 = paySum g (c + 1) := by
  show _ = if taken g c = true then paySum g c + payC g c (who g c) else _
  rw [if_pos (by unfold taken; simp [h]; exact nI_ne_m1 (by omega))]
  unfold who payC
  rw [h, nI_clamp (by omega)]
theorem sit_k : ∀ a, a < 11 → ∀ d, d < 11 → ∀ f, f < 11 → nI a = nI (a + d) - nI (f + d) + nI f := by decide +kernel
theorem con_sits {g : LG} {nc nm n : Nat} {w : Int32} (h : Inv g nc nm n) (hn : n < 100000) (hw : rng w 1 4) : nI (cntB (sits (conG g w nc)) nm) = nI (cntB (sits g) nm) - nI (cntB (fell (conG g w nc)) nc) + nI (cntB (fell g) nc) := by
  have h10 := h.c10
  have m10 := h.m10
  have e1 := conG_fell h hn hw
  have e2 := conG_taken h hn hw
  rw [h.cnt, (conG_inv h hn hw).cnt] at e2
  have l1 := cntB_le (sits g) nm
  have l2 := cntB_le (fell g) nc
  rw [e1, ← e2]
  exact sit_k _ (by omega) _ (by omega) _ (by omega)
theorem con_ans {g : LG} {rs : Rs} {nc nm n : Nat} {w : Int32} (h : Inv g nc nm n) (hn : n < 100000) (hw : rng w 1 4) (hz : ¬ cntB (sits g) nm = 0) : oConcert g rs w = (fitSum g nc, conG g w nc, rs) := by
  unfold oConcert conG
  have hB : inB w 1 4 = true := rng_inB (lo := 1) (hi := 4) hw (by omega)
  rw [if_neg (by rw [hB]; decide), h.mNe, if_neg hz, h.cNe, (conC_rows h hn hw (Nat.le_refl nc)).2.2.1]
theorem con_ref {g : LG} {rs : Rs} {nc nm n : Nat} {w : Int32} (h : Inv g nc nm n) (hw : rng w 1 4) (hz : cntB (sits g) nm = 0) : oConcert g rs w = (-1014, g, [(11, nI nm)]) := by
  unfold oConcert
  have hB : inB w 1 4 = true := rng_inB (lo := 1) (hi := 4) hw (by omega)
  rw [if_neg (by rw [hB]; decide), h.mNe, if_pos hz]
theorem con_pay {g : LG} {nc nm n : Nat} {w : Int32} (h : Inv g nc nm n) (hn : n < 100000) (hw : rng w 1 4) : conG g w nc 14 1 = g 14 1 + paySum g nc := by
  unfold conG
  rw [gu_ne (by omega), (conC_rows h hn hw (Nat.le_refl nc)).2.2.2]
def rm_L_isConcert : Room := { frames := 8, cells := 0, slots := 0, locals := 192 }
theorem ks_L_isConcert : KS yL_isConcert cL_isConcert 13 (some .boolean) 2 := ⟨⟨gw_779, gw_352, gw_780⟩, by decide +kernel⟩
set_option maxRecDepth 100000 in
set_option maxHeartbeats 4000000 in
theorem c_L_isConcert (E : ZE) (M : Mem) (S : LSt) (hX : XS M S) (nc nm n : Nat) (hI : Inv S.1 nc nm n) (hf : SF S.1 nc nm) (h9 : n < 100000) (w : Int32) (hw : rng w 1 4) : MtX E yL_isConcert cL_isConcert 13 (some .boolean) rm_L_isConcert [.ref (za E 17 0), .int w] M (fun _ => True) (RI (fun v M1 => v = 1 ∧ ∃ S1, XS M1 S1 ∧ Sm S S1)) 0 0 := by
  have hn := hI.c10; have hn2 := hI.m10; have b1 := cntB_le (sits S.1) nm; have b2 := cntB_le (fell S.1) nc; have hwB := rng_inB (lo := 1) (hi := 4) hw (by omega)
  have hlz := lasts_zero hI hw; have hFc := conG_fell hI h9 hw; have b3 := cntB_le (fell (conG S.1 w nc)) nc
  refine x_met (own := RL) (lv := [(0, .ref (za E 17 0)), (1, .int w)]) (by decide) rfl (Nat.le_of_ble_eq_true rfl) rfl (fun gg X hPr Y => ?_)
  refine x_aload_n X (pc := 0) 0 dL_isConcert_0 rfl rfl ?_
  refine x_callX X (pc := 1) (rest := []) ks_L_digest (c_L_digest _ _ _ hX nc nm _ hI) gw_350 x_nopr (fun _ _ _ _ _ _ => trivial) rfl rfl (Nat.le_of_ble_eq_true rfl) (Nat.le_of_ble_eq_true rfl) ⟨Nat.le_of_ble_eq_true rfl, Nat.le_of_ble_eq_true rfl⟩ rfl rfl (Nat.le_of_ble_eq_true rfl) dL_isConcert_1 (x_pl ?_)
  refine x_lstore_n X (pc := 4) (lv1 := [(2, .long (dig S.1 nc nm)), (0, .ref (za E 17 0)), (1, .int w)]) dL_isConcert_4 rfl (by decide) rfl ?_
  refine x_aload_n X (pc := 5) 1 dL_isConcert_5 rfl rfl ?_
  refine x_iload_n X (pc := 6) 2 dL_isConcert_6 rfl rfl ?_
  refine x_callV X ⟨Nat.zero_le _, Nat.zero_le _⟩ (pc := 7) (rest := []) kv_X10_lasts (q_lasts hX hI hwB) zk_17_0 (zc_17_0 E _) rfl rfl gw_781 ⟨⟨rfl, rfl⟩, Nat.le_of_ble_eq_true rfl, Nat.le_of_ble_eq_true rfl⟩ rfl rfl (Nat.le_of_ble_eq_true rfl) dL_isConcert_7 (x_pi ?_)
  refine x_istore X (pc := 10) (lv1 := [(4, .int (lastsN S.1 w nc)), (2, .long (dig S.1 nc nm)), (0, .ref (za E 17 0)), (1, .int w)]) dL_isConcert_10 (by decide) rfl ?_
  refine x_aload_n X (pc := 12) 2 dL_isConcert_12 rfl rfl ?_
  refine x_iconst X (pc := 13) (v := 2) dL_isConcert_13 (by decide) ?_
  refine x_callV X ⟨Nat.zero_le _, Nat.zero_le _⟩ (pc := 14) (rest := []) kv_X10_account (q_ac hX hI (ac_2 hI)) zk_17_0 (zc_17_0 E _) rfl rfl gw_356 ⟨⟨rfl, rfl⟩, Nat.le_of_ble_eq_true rfl, Nat.le_of_ble_eq_true rfl⟩ rfl rfl (Nat.le_of_ble_eq_true rfl) dL_isConcert_14 (x_pi ?_)
  refine x_istore X (pc := 17) (lv1 := [(5, .int (nI (cntB (sits S.1) nm))), (4, .int (lastsN S.1 w nc)), (2, .long (dig S.1 nc nm)), (0, .ref (za E 17 0)), (1, .int w)]) dL_isConcert_17 (by decide) rfl ?_
  refine x_aload_n X (pc := 19) 3 dL_isConcert_19 rfl rfl ?_
  refine x_iconst X (pc := 20) (v := 3) dL_isConcert_20 (by decide) ?_
  refine x_callV X ⟨Nat.zero_le _, Nat.zero_le _⟩ (pc := 21) (rest := []) kv_X10_account (q_ac hX hI (ac_3 hI)) zk_17_0 (zc_17_0 E _) rfl rfl gw_356 ⟨⟨rfl, rfl⟩, Nat.le_of_ble_eq_true rfl, Nat.le_of_ble_eq_true rfl⟩ rfl rfl (Nat.le_of_ble_eq_true rfl) dL_isConcert_21 (x_pi ?_)
  refine x_istore X (pc := 24) (lv1 := [(6, .int (nI (cntB (fell S.1) nc))), (5, .int (nI (cntB (sits S.1) nm))), (4, .int (lastsN S.1 w nc)), (2, .long (dig S.1 nc nm)), (0, .ref (za E 17 0)), (1, .int w)]) dL_isConcert_24 (by decide) rfl ?_
  refine x_aload_n X (pc := 26) 4 dL_isConcert_26 rfl rfl ?_
  refine x_bipush X (pc := 27) (v := 6) dL_isConcert_27 (by decide) ?_
  refine x_callV X ⟨Nat.zero_le _, Nat.zero_le _⟩ (pc := 29) (rest := []) kv_X10_account (q_ac hX hI (ac_6)) zk_17_0 (zc_17_0 E _) rfl rfl gw_356 ⟨⟨rfl, rfl⟩, Nat.le_of_ble_eq_true rfl, Nat.le_of_ble_eq_true rfl⟩ rfl rfl (Nat.le_of_ble_eq_true rfl) dL_isConcert_29 (x_pi ?_)
  refine x_istore X (pc := 32) (lv1 := [(7, .int (S.1 14 1)), (6, .int (nI (cntB (fell S.1) nc))), (5, .int (nI (cntB (sits S.1) nm))), (4, .int (lastsN S.1 w nc)), (2, .long (dig S.1 nc nm)), (0, .ref (za E 17 0)), (1, .int w)]) dL_isConcert_32 (by decide) rfl ?_
  refine x_iconst X (pc := 34) (v := 0) dL_isConcert_34 (by decide) ?_
  refine x_istore X (pc := 35) (lv1 := [(8, .int 0), (7, .int (S.1 14 1)), (6, .int (nI (cntB (fell S.1) nc))), (5, .int (nI (cntB (sits S.1) nm))), (4, .int (lastsN S.1 w nc)), (2, .long (dig S.1 nc nm)), (0, .ref (za E 17 0)), (1, .int w)]) dL_isConcert_35 (by decide) rfl ?_
  refine x_iconst X (pc := 37) (v := 0) dL_isConcert_37 (by decide) ?_
  refine x_istore X (pc := 38) (lv1 := [(9, .int 0), (8, .int 0), (7, .int (S.1 14 1)), (6, .int (nI (cntB (fell S.1) nc))), (5, .int (nI (cntB (sits S.1) nm))), (4, .int (lastsN S.1 w nc)), (2, .long (dig S.1 nc nm)), (0, .ref (za E 17 0)), (1, .int w)]) dL_isConcert_38 (by decide) rfl ?_
  refine x_iconst X (pc := 40) (v := 0) dL_isConcert_40 (by decide) ?_
  refine x_istore X (pc := 41) (lv1 := [(10, .int 0), (9, .int 0), (8, .int 0), (7, .int (S.1 14 1)), (6, .int (nI (cntB (fell S.1) nc))), (5, .int (nI (cntB (sits S.1) nm))), (4, .int (lastsN S.1 w nc)), (2, .long (dig S.1 nc nm)), (0, .ref (za E 17 0)), (1, .int w)]) dL_isConcert_41 (by decide) rfl ?_
  refine x_sub (lv' := [(10, .int 0), (9, .int 0), (8, .int 0), (7, .int (S.1 14 1)), (6, .int (nI (cntB (fell S.1) nc))), (5, .int (nI (cntB (sits S.1) nm))), (4, .int (lastsN S.1 w nc)), (2, .long (dig S.1 nc nm)), (1, .int w), (0, .ref (za E 17 0))]) [0, 1, 2, 3, 4, 5, 6, 7, 9, 8] rfl ?_
  refine x_eq (lv' := [(10, .int (nI 0)), (9, .int (fitSum S.1 0)), (8, .int (paySum S.1 0)), (7, .int (S.1 14 1)), (6, .int (nI (cntB (fell S.1) nc))), (5, .int (nI (cntB (sits S.1) nm))), (4, .int (lastsN S.1 w nc)), (2, .long (dig S.1 nc nm)), (1, .int w), (0, .ref (za E 17 0))]) rfl rfl ?_
  refine x_loop nc 43 (σ := Unit) (fun _ _ => True) (fun c _ => (M, [(10, .int (nI c)), (9, .int (fitSum S.1 c)), (8, .int (paySum S.1 c)), (7, .int (S.1 14 1)), (6, .int (nI (cntB (fell S.1) nc))), (5, .int (nI (cntB (sits S.1) nm))), (4, .int (lastsN S.1 w nc)), (2, .long (dig S.1 nc nm)), (1, .int w), (0, .ref (za E 17 0))])) ?_ 0 () (Nat.zero_le _) trivial
  intro c _ hc _ ih43
  show ZX gg E _ _ _ M [(10, .int (nI c)), (9, .int (fitSum S.1 c)), (8, .int (paySum S.1 c)), (7, .int (S.1 14 1)), (6, .int (nI (cntB (fell S.1) nc))), (5, .int (nI (cntB (sits S.1) nm))), (4, .int (lastsN S.1 w nc)), (2, .long (dig S.1 nc nm)), (1, .int w), (0, .ref (za E 17 0))] 43 []
  refine x_iload X (pc := 43) 0 dL_isConcert_43 rfl ?_
  refine x_aload_n X (pc := 45) 9 dL_isConcert_45 rfl rfl ?_
  refine x_iconst X (pc := 46) (v := 0) dL_isConcert_46 (by decide) ?_
  refine x_callV X ⟨Nat.zero_le _, Nat.zero_le _⟩ (pc := 47) (rest := [.int (nI c)]) kv_X10_account (q_ac hX hI (ac_0 hI)) zk_17_0 (zc_17_0 E _) rfl rfl gw_356 ⟨⟨rfl, rfl⟩, Nat.le_of_ble_eq_true rfl, Nat.le_of_ble_eq_true rfl⟩ rfl rfl (Nat.le_of_ble_eq_true rfl) dL_isConcert_47 (x_pi ?_)
  refine x_nicmp_ge X (pc := 50) (a := c) (b := nc) (tgt := 107) dL_isConcert_50 (by decide) (by omega) (by omega) (fun c50 => ?_) (fun c50 => ?_)
  · obtain rfl : nc = c := by omega
    by_cases hz : cntB (sits S.1) nm = 0
    · refine x_aload_n X (pc := 107) 9 dL_isConcert_107 rfl rfl ?_
      refine x_iload_n X (pc := 108) 8 dL_isConcert_108 rfl rfl ?_
      refine x_callV X ⟨Nat.zero_le _, Nat.zero_le _⟩ (pc := 109) (rest := []) kv_X10_concert (q_concert hX hI w) zk_17_0 (zc_17_0 E _) rfl rfl gw_482 ⟨⟨rfl, rfl⟩, Nat.le_of_ble_eq_true rfl, Nat.le_of_ble_eq_true rfl⟩ rfl rfl (Nat.le_of_ble_eq_true rfl) dL_isConcert_109 (x_ri (fun v1 M1 h1 => ?_))
      obtain ⟨hv, hX1⟩ := h1
      rw [con_ref hI hw hz] at hv hX1
      rw [nS_ref (by decide)] at hX1
      refine x_top (y := ((-1014))) hv ?_
      refine x_istore X (pc := 112) (lv1 := [(10, .int ((-1014))), (9, .int (fitSum S.1 nc)), (8, .int (paySum S.1 nc)), (7, .int (S.1 14 1)), (6, .int (nI (cntB (fell S.1) nc))), (5, .int (nI (cntB (sits S.1) nm))), (4, .int (lastsN S.1 w nc)), (2, .long (dig S.1 nc nm)), (1, .int w), (0, .ref (za E 17 0))]) dL_isConcert_112 (by decide) rfl ?_
      refine x_iload X (pc := 114) 0 dL_isConcert_114 rfl ?_
      refine x_sipush X (pc := 116) (v := (-1014)) dL_isConcert_116 (by decide) ?_
      refine x_icmp_ne X (pc := 119) (tgt := 167) dL_isConcert_119 (by decide) (fun z => absurd rfl z) (fun _ => ?_)
      refine x_iload X (pc := 122) 5 dL_isConcert_122 rfl ?_
      refine x_nif_ne X (pc := 124) (tgt := 165) dL_isConcert_124 (by decide) (by omega) (fun z => absurd hz z) (fun _ => ?_)
      refine x_aload_n X (pc := 127) 9 dL_isConcert_127 rfl rfl ?_
      refine x_iconst X (pc := 128) (v := 0) dL_isConcert_128 (by decide) ?_
      refine x_iconst X (pc := 129) (v := 0) dL_isConcert_129 (by decide) ?_
      refine x_callV X ⟨Nat.zero_le _, Nat.zero_le _⟩ (pc := 130) (rest := []) kv_X10_reason (q_reason hX1 (x := 0) (d := 0) (v := 11) ((aReason_0 (a := 11) (b := nI nm) (tl := []) rfl).trans (if_pos rfl))) zk_17_0 (zc_17_0 E _) rfl rfl gw_787 ⟨⟨rfl, rfl⟩, Nat.le_of_ble_eq_true rfl, Nat.le_of_ble_eq_true rfl⟩ rfl rfl (Nat.le_of_ble_eq_true rfl) dL_isConcert_130 (x_pi ?_)
      refine x_bipush X (pc := 133) (v := 11) dL_isConcert_133 (by decide) ?_
      refine x_icmp_ne X (pc := 135) (tgt := 165) dL_isConcert_135 (by decide) (fun z => absurd (by decide) z) (fun _ => ?_)
      refine x_aload_n X (pc := 138) 9 dL_isConcert_138 rfl rfl ?_
      refine x_iconst X (pc := 139) (v := 0) dL_isConcert_139 (by decide) ?_
      refine x_iconst X (pc := 140) (v := 1) dL_isConcert_140 (by decide) ?_
      refine x_callV X ⟨Nat.zero_le _, Nat.zero_le _⟩ (pc := 141) (rest := []) kv_X10_reason (q_reason hX1 (x := 0) (d := 1) (v := nI nm) ((aReason_0 (a := 11) (b := nI nm) (tl := []) rfl).trans (if_neg (by decide)))) zk_17_0 (zc_17_0 E _) rfl rfl gw_787 ⟨⟨rfl, rfl⟩, Nat.le_of_ble_eq_true rfl, Nat.le_of_ble_eq_true rfl⟩ rfl rfl (Nat.le_of_ble_eq_true rfl) dL_isConcert_141 (x_pi ?_)
      refine x_aload_n X (pc := 144) 9 dL_isConcert_144 rfl rfl ?_
      refine x_iconst X (pc := 145) (v := 1) dL_isConcert_145 (by decide) ?_
      refine x_callV X ⟨Nat.zero_le _, Nat.zero_le _⟩ (pc := 146) (rest := [.int (nI nm)]) kv_X10_account (q_ac hX1 hI (ac_1 hI)) zk_17_0 (zc_17_0 E _) rfl rfl gw_356 ⟨⟨rfl, rfl⟩, Nat.le_of_ble_eq_true rfl, Nat.le_of_ble_eq_true rfl⟩ rfl rfl (Nat.le_of_ble_eq_true rfl) dL_isConcert_146 (x_pi ?_)
      refine x_nicmp_ne X (pc := 149) (a := nm) (b := nm) (tgt := 165) dL_isConcert_149 (by decide) (by omega) (by omega) (fun z => absurd rfl z) (fun _ => ?_)
      refine x_aload_n X (pc := 152) 9 dL_isConcert_152 rfl rfl ?_
      refine x_callX X (pc := 153) (rest := []) ks_L_digest (c_L_digest _ _ _ hX1 nc nm _ hI) gw_350 x_nopr (fun _ _ _ _ _ _ => trivial) rfl rfl (Nat.le_of_ble_eq_true rfl) (Nat.le_of_ble_eq_true rfl) ⟨Nat.le_of_ble_eq_true rfl, Nat.le_of_ble_eq_true rfl⟩ rfl rfl (Nat.le_of_ble_eq_true rfl) dL_isConcert_153 (x_pl ?_)
      refine x_lload_n X (pc := 156) 7 dL_isConcert_156 rfl rfl ?_
      refine x_lcmp_eq X (pc := 157) rfl dL_isConcert_157 ?_
      refine x_if_ne X (pc := 158) (tgt := 165) dL_isConcert_158 (by decide) (fun z => absurd (by decide) z) (fun _ => ?_)
      refine x_iconst X (pc := 161) (v := 1) dL_isConcert_161 (by decide) ?_
      refine x_goto X (pc := 162) (tgt := 166) dL_isConcert_162 (by decide) ?_
      exact x_zret X Y (by decide) (Nat.le_refl _) (Nat.le_refl _) dL_isConcert_166 ⟨_, rfl, rfl, _, hX1, rfl, fun _ h => h, rfl, rfl⟩
    · obtain ⟨kf, hkf, ekf⟩ := fitSum_rng hI (Nat.le_refl nc)
      have hfp : ¬ fitSum S.1 nc < 0 := by rw [ekf]; exact nI_pos (by omega)
      have hI1 := conG_inv hI h9 hw
      have hf1 := hf.con hI h9 hw
      have b4 := cntB_le (sits (conG S.1 w nc)) nm
      refine x_aload_n X (pc := 107) 9 dL_isConcert_107 rfl rfl ?_
      refine x_iload_n X (pc := 108) 8 dL_isConcert_108 rfl rfl ?_
      refine x_callV X ⟨Nat.zero_le _, Nat.zero_le _⟩ (pc := 109) (rest := []) kv_X10_concert (q_concert hX hI w) zk_17_0 (zc_17_0 E _) rfl rfl gw_482 ⟨⟨rfl, rfl⟩, Nat.le_of_ble_eq_true rfl, Nat.le_of_ble_eq_true rfl⟩ rfl rfl (Nat.le_of_ble_eq_true rfl) dL_isConcert_109 (x_ri (fun v1 M1 h1 => ?_))
      obtain ⟨hv, hX1⟩ := h1
      rw [con_ans hI h9 hw hz] at hv hX1
      refine x_top (y := (fitSum S.1 nc)) hv ?_
      refine x_istore X (pc := 112) (lv1 := [(10, .int (fitSum S.1 nc)), (9, .int (fitSum S.1 nc)), (8, .int (paySum S.1 nc)), (7, .int (S.1 14 1)), (6, .int (nI (cntB (fell S.1) nc))), (5, .int (nI (cntB (sits S.1) nm))), (4, .int (lastsN S.1 w nc)), (2, .long (dig S.1 nc nm)), (1, .int w), (0, .ref (za E 17 0))]) dL_isConcert_112 (by decide) rfl ?_
      refine x_iload X (pc := 114) 0 dL_isConcert_114 rfl ?_
      refine x_sipush X (pc := 116) (v := (-1014)) dL_isConcert_116 (by decide) ?_
      refine x_icmp_ne X (pc := 119) (tgt := 167) dL_isConcert_119 (by decide) (fun _ => ?_) (fun z => absurd z (ne_14 hfp))
      refine x_iload X (pc := 167) 0 dL_isConcert_167 rfl ?_
      refine x_iload X (pc := 169) 1 dL_isConcert_169 rfl ?_
      refine x_icmp_ne X (pc := 171) (tgt := 246) dL_isConcert_171 (by decide) (fun z => absurd rfl z) (fun _ => ?_)
      refine x_aload_n X (pc := 174) 9 dL_isConcert_174 rfl rfl ?_
      refine x_bipush X (pc := 175) (v := 6) dL_isConcert_175 (by decide) ?_
      refine x_callV X ⟨Nat.zero_le _, Nat.zero_le _⟩ (pc := 177) (rest := []) kv_X10_account (q_ac hX1 hI1 (ac_6)) zk_17_0 (zc_17_0 E _) rfl rfl gw_356 ⟨⟨rfl, rfl⟩, Nat.le_of_ble_eq_true rfl, Nat.le_of_ble_eq_true rfl⟩ rfl rfl (Nat.le_of_ble_eq_true rfl) dL_isConcert_177 (x_pi ?_)
      refine x_iload X (pc := 180) 3 dL_isConcert_180 rfl ?_
      refine x_iload X (pc := 182) 2 dL_isConcert_182 rfl ?_
      refine x_iadd X (pc := 184) dL_isConcert_184 ?_
      refine x_icmp_ne X (pc := 185) (tgt := 246) dL_isConcert_185 (by decide) (fun z => absurd (con_pay hI h9 hw) z) (fun _ => ?_)
      refine x_aload_n X (pc := 188) 9 dL_isConcert_188 rfl rfl ?_
      refine x_iconst X (pc := 189) (v := 3) dL_isConcert_189 (by decide) ?_
      refine x_callV X ⟨Nat.zero_le _, Nat.zero_le _⟩ (pc := 190) (rest := []) kv_X10_account (q_ac hX1 hI1 (ac_3 hI1)) zk_17_0 (zc_17_0 E _) rfl rfl gw_356 ⟨⟨rfl, rfl⟩, Nat.le_of_ble_eq_true rfl, Nat.le_of_ble_eq_true rfl⟩ rfl rfl (Nat.le_of_ble_eq_true rfl) dL_isConcert_190 (x_pi ?_)
      refine x_iload X (pc := 193) 4 dL_isConcert_193 rfl ?_
      refine x_nicmp_le X (pc := 195) (a := cntB (fell (conG S.1 w nc)) nc) (b := cntB (fell S.1) nc) (tgt := 202) dL_isConcert_195 (by decide) (by omega) (by omega) (fun c195 => ?_) (fun c195 => ?_)
      · have hD : cntB (dwn S.1 w) nc = 0 := by omega
        have hl0 : ¬ lastsN S.1 w nc = 0 := fun z => by have := hlz.mp z; omega
        refine x_iconst X (pc := 202) (v := 0) dL_isConcert_202 (by decide) ?_
        refine x_iload X (pc := 203) 6 dL_isConcert_203 rfl ?_
        refine x_if_ne X (pc := 205) (tgt := 212) dL_isConcert_205 (by decide) (fun _ => ?_) (fun z => absurd z hl0)
        refine x_iconst X (pc := 212) (v := 0) dL_isConcert_212 (by decide) ?_
        refine x_icmp_ne X (pc := 213) (tgt := 246) dL_isConcert_213 (by decide) (fun z => absurd (by decide) z) (fun _ => ?_)
        refine x_aload_n X (pc := 216) 9 dL_isConcert_216 rfl rfl ?_
        refine x_iconst X (pc := 217) (v := 2) dL_isConcert_217 (by decide) ?_
        refine x_callV X ⟨Nat.zero_le _, Nat.zero_le _⟩ (pc := 218) (rest := []) kv_X10_account (q_ac hX1 hI1 (ac_2 hI1)) zk_17_0 (zc_17_0 E _) rfl rfl gw_356 ⟨⟨rfl, rfl⟩, Nat.le_of_ble_eq_true rfl, Nat.le_of_ble_eq_true rfl⟩ rfl rfl (Nat.le_of_ble_eq_true rfl) dL_isConcert_218 (x_pi ?_)
        refine x_iload X (pc := 221) 5 dL_isConcert_221 rfl ?_
        refine x_aload_n X (pc := 223) 9 dL_isConcert_223 rfl rfl ?_
        refine x_iconst X (pc := 224) (v := 3) dL_isConcert_224 (by decide) ?_
        refine x_callV X ⟨Nat.zero_le _, Nat.zero_le _⟩ (pc := 225) (rest := [.int (nI (cntB (sits S.1) nm)), .int (nI (cntB (sits (conG S.1 w nc)) nm))]) kv_X10_account (q_ac hX1 hI1 (ac_3 hI1)) zk_17_0 (zc_17_0 E _) rfl rfl gw_356 ⟨⟨rfl, rfl⟩, Nat.le_of_ble_eq_true rfl, Nat.le_of_ble_eq_true rfl⟩ rfl rfl (Nat.le_of_ble_eq_true rfl) dL_isConcert_225 (x_pi ?_)
        refine x_isub X (pc := 228) dL_isConcert_228 ?_
        refine x_iload X (pc := 229) 4 dL_isConcert_229 rfl ?_
        refine x_iadd X (pc := 231) dL_isConcert_231 ?_
        refine x_icmp_ne X (pc := 232) (tgt := 246) dL_isConcert_232 (by decide) (fun z => absurd (con_sits hI h9 hw) z) (fun _ => ?_)
        refine x_aload_n X (pc := 235) 9 dL_isConcert_235 rfl rfl ?_
        refine x_callX X (pc := 236) (rest := []) ks_L_areSeats (c_L_areSeats _ _ _ hX1 nc nm _ hI1 hf1) gw_677 x_nopr (fun _ _ _ _ _ _ => trivial) rfl rfl (Nat.le_of_ble_eq_true rfl) (Nat.le_of_ble_eq_true rfl) ⟨Nat.le_of_ble_eq_true rfl, Nat.le_of_ble_eq_true rfl⟩ rfl rfl (Nat.le_of_ble_eq_true rfl) dL_isConcert_236 (x_ri (fun v2 M2 h2 => ?_))
        obtain ⟨hv2, l2, hX2⟩ := h2
        refine x_top (y := 1) hv2 ?_
        refine x_if_eq X (pc := 239) (tgt := 246) dL_isConcert_239 (by decide) (fun z => absurd z (by decide)) (fun _ => ?_)
        refine x_iconst X (pc := 242) (v := 1) dL_isConcert_242 (by decide) ?_
        refine x_goto X (pc := 243) (tgt := 247) dL_isConcert_243 (by decide) ?_
        refine x_istore X (pc := 247) (lv1 := [(11, .int 1), (10, .int (fitSum S.1 nc)), (9, .int (fitSum S.1 nc)), (8, .int (paySum S.1 nc)), (7, .int (S.1 14 1)), (6, .int (nI (cntB (fell S.1) nc))), (5, .int (nI (cntB (sits S.1) nm))), (4, .int (lastsN S.1 w nc)), (2, .long (dig S.1 nc nm)), (1, .int w), (0, .ref (za E 17 0))]) dL_isConcert_247 (by decide) rfl ?_
        refine x_iload X (pc := 249) 7 dL_isConcert_249 rfl ?_
        refine x_sipush X (pc := 251) (v := (-1015)) dL_isConcert_251 (by decide) ?_
        refine x_icmp_eq X (pc := 254) (tgt := 262) dL_isConcert_254 (by decide) (fun c254 => ?_) (fun c254 => ?_)
        · refine x_iload X (pc := 262) 7 dL_isConcert_262 rfl ?_
          refine x_goto X (pc := 264) (tgt := 271) dL_isConcert_264 (by decide) ?_
          refine x_istore X (pc := 271) (lv1 := [(12, .int (lastsN S.1 w nc)), (11, .int 1), (10, .int (fitSum S.1 nc)), (9, .int (fitSum S.1 nc)), (8, .int (paySum S.1 nc)), (7, .int (S.1 14 1)), (6, .int (nI (cntB (fell S.1) nc))), (5, .int (nI (cntB (sits S.1) nm))), (4, .int (lastsN S.1 w nc)), (2, .long (dig S.1 nc nm)), (1, .int w), (0, .ref (za E 17 0))]) dL_isConcert_271 (by decide) rfl ?_
          refine x_iload X (pc := 273) 1 dL_isConcert_273 rfl ?_
          refine x_if_eq X (pc := 275) (tgt := 297) dL_isConcert_275 (by decide) (fun z => absurd z (by decide)) (fun _ => ?_)
          refine x_iload X (pc := 278) 8 dL_isConcert_278 rfl ?_
          refine x_if_eq X (pc := 280) (tgt := 293) dL_isConcert_280 (by decide) (fun z => absurd z hl0) (fun _ => ?_)
          refine x_aload_n X (pc := 283) 11 dL_isConcert_283 rfl rfl ?_
          refine x_iload_n X (pc := 284) 10 dL_isConcert_284 rfl rfl ?_
          refine x_callV X ⟨Nat.zero_le _, Nat.zero_le _⟩ (pc := 285) (rest := []) kv_X10_lasts (q_lasts hX2 hI1 hwB) zk_17_0 (zc_17_0 E _) rfl rfl gw_781 ⟨⟨rfl, rfl⟩, Nat.le_of_ble_eq_true rfl, Nat.le_of_ble_eq_true rfl⟩ rfl rfl (Nat.le_of_ble_eq_true rfl) dL_isConcert_285 (x_pi ?_)
          refine x_iload X (pc := 288) 0 dL_isConcert_288 rfl ?_
          refine x_icmp_ne X (pc := 290) (tgt := 297) dL_isConcert_290 (by decide) (fun z => absurd ((lasts_next hI h9 hw hD nc (Nat.le_refl nc)).trans (by rw [if_pos c254, c254])) z) (fun _ => ?_)
          refine x_iconst X (pc := 293) (v := 1) dL_isConcert_293 (by decide) ?_
          refine x_goto X (pc := 294) (tgt := 298) dL_isConcert_294 (by decide) ?_
          refine x_istore X (pc := 298) (lv1 := [(11, .int 1), (12, .int (lastsN S.1 w nc)), (10, .int (fitSum S.1 nc)), (9, .int (fitSum S.1 nc)), (8, .int (paySum S.1 nc)), (7, .int (S.1 14 1)), (6, .int (nI (cntB (fell S.1) nc))), (5, .int (nI (cntB (sits S.1) nm))), (4, .int (lastsN S.1 w nc)), (2, .long (dig S.1 nc nm)), (1, .int w), (0, .ref (za E 17 0))]) dL_isConcert_298 (by decide) rfl ?_
          refine x_iload X (pc := 300) 0 dL_isConcert_300 rfl ?_
          refine x_if_eq X (pc := 302) (tgt := 325) dL_isConcert_302 (by decide) (fun z => absurd z (by decide)) (fun _ => ?_)
          refine x_aload_n X (pc := 305) 11 dL_isConcert_305 rfl rfl ?_
          refine x_callV X ⟨Nat.zero_le _, Nat.zero_le _⟩ (pc := 306) (rest := []) kv_X10_undo (q_undo hX2) zk_17_0 (zc_17_0 E _) rfl rfl gw_665 ⟨⟨rfl, rfl⟩, Nat.le_of_ble_eq_true rfl, Nat.le_of_ble_eq_true rfl⟩ rfl rfl (Nat.le_of_ble_eq_true rfl) dL_isConcert_306 (x_ri (fun v3 M3 h3 => ?_))
          obtain ⟨hv3, hX3⟩ := h3
          have eu : aUndo (sL (nS S (fitSum S.1 nc, conG S.1 w nc, S.2.2.1)) l2).1 (sL (nS S (fitSum S.1 nc, conG S.1 w nc, S.2.2.1)) l2).2.1 = _ := aUndo_nS (S := S) (o := (fitSum S.1 nc, conG S.1 w nc, S.2.2.1)) hfp
          rw [eu] at hv3 hX3
          have ht : (S.2.1.take 7).length ≤ 7 := by rw [List.length_take]; omega
          refine x_top (y := (nI ((S.2.1.take 7).length))) hv3 ?_
          refine x_if_lt X (pc := 309) (tgt := 325) dL_isConcert_309 (by decide) (fun z => absurd z (nI_pos (by omega))) (fun _ => ?_)
          refine x_aload_n X (pc := 312) 11 dL_isConcert_312 rfl rfl ?_
          refine x_callX X (pc := 313) (rest := []) ks_L_digest (c_L_digest _ _ _ hX3 nc nm _ hI) gw_350 x_nopr (fun _ _ _ _ _ _ => trivial) rfl rfl (Nat.le_of_ble_eq_true rfl) (Nat.le_of_ble_eq_true rfl) ⟨Nat.le_of_ble_eq_true rfl, Nat.le_of_ble_eq_true rfl⟩ rfl rfl (Nat.le_of_ble_eq_true rfl) dL_isConcert_313 (x_pl ?_)
          refine x_lload_n X (pc := 316) 9 dL_isConcert_316 rfl rfl ?_
          refine x_lcmp_eq X (pc := 317) rfl dL_isConcert_317 ?_
          refine x_if_ne X (pc := 318) (tgt := 325) dL_isConcert_318 (by decide) (fun z => absurd (by decide) z) (fun _ => ?_)
          refine x_iconst X (pc := 321) (v := 1) dL_isConcert_321 (by decide) ?_
          refine x_goto X (pc := 322) (tgt := 326) dL_isConcert_322 (by decide) ?_
          exact x_zret X Y (by decide) (Nat.le_refl _) (Nat.le_refl _) dL_isConcert_326 ⟨_, rfl, rfl, _, hX3, rfl, fun _ h => List.mem_of_mem_take h, rfl, rfl⟩
        · refine x_iload X (pc := 257) 7 dL_isConcert_257 rfl ?_
          refine x_if_ne X (pc := 259) (tgt := 267) dL_isConcert_259 (by decide) (fun _ => ?_) (fun z => absurd z hl0)
          refine x_iload X (pc := 267) 7 dL_isConcert_267 rfl ?_
          refine x_iconst X (pc := 269) (v := 1) dL_isConcert_269 (by decide) ?_
          refine x_isub X (pc := 270) dL_isConcert_270 ?_
          refine x_istore X (pc := 271) (lv1 := [(12, .int ((lastsN S.1 w nc) - 1)), (11, .int 1), (10, .int (fitSum S.1 nc)), (9, .int (fitSum S.1 nc)), (8, .int (paySum S.1 nc)), (7, .int (S.1 14 1)), (6, .int (nI (cntB (fell S.1) nc))), (5, .int (nI (cntB (sits S.1) nm))), (4, .int (lastsN S.1 w nc)), (2, .long (dig S.1 nc nm)), (1, .int w), (0, .ref (za E 17 0))]) dL_isConcert_271 (by decide) rfl ?_
          refine x_iload X (pc := 273) 1 dL_isConcert_273 rfl ?_
          refine x_if_eq X (pc := 275) (tgt := 297) dL_isConcert_275 (by decide) (fun z => absurd z (by decide)) (fun _ => ?_)
          refine x_iload X (pc := 278) 8 dL_isConcert_278 rfl ?_
          refine x_if_eq X (pc := 280) (tgt := 293) dL_isConcert_280 (by decide) (fun z => absurd z hl0) (fun _ => ?_)
          refine x_aload_n X (pc := 283) 11 dL_isConcert_283 rfl rfl ?_
          refine x_iload_n X (pc := 284) 10 dL_isConcert_284 rfl rfl ?_
          refine x_callV X ⟨Nat.zero_le _, Nat.zero_le _⟩ (pc := 285) (rest := []) kv_X10_lasts (q_lasts hX2 hI1 hwB) zk_17_0 (zc_17_0 E _) rfl rfl gw_781 ⟨⟨rfl, rfl⟩, Nat.le_of_ble_eq_true rfl, Nat.le_of_ble_eq_true rfl⟩ rfl rfl (Nat.le_of_ble_eq_true rfl) dL_isConcert_285 (x_pi ?_)
          refine x_iload X (pc := 288) 0 dL_isConcert_288 rfl ?_
          refine x_icmp_ne X (pc := 290) (tgt := 297) dL_isConcert_290 (by decide) (fun z => absurd ((lasts_next hI h9 hw hD nc (Nat.le_refl nc)).trans (by rw [if_neg c254])) z) (fun _ => ?_)
          refine x_iconst X (pc := 293) (v := 1) dL_isConcert_293 (by decide) ?_
          refine x_goto X (pc := 294) (tgt := 298) dL_isConcert_294 (by decide) ?_
          refine x_istore X (pc := 298) (lv1 := [(11, .int 1), (12, .int ((lastsN S.1 w nc) - 1)), (10, .int (fitSum S.1 nc)), (9, .int (fitSum S.1 nc)), (8, .int (paySum S.1 nc)), (7, .int (S.1 14 1)), (6, .int (nI (cntB (fell S.1) nc))), (5, .int (nI (cntB (sits S.1) nm))), (4, .int (lastsN S.1 w nc)), (2, .long (dig S.1 nc nm)), (1, .int w), (0, .ref (za E 17 0))]) dL_isConcert_298 (by decide) rfl ?_
          refine x_iload X (pc := 300) 0 dL_isConcert_300 rfl ?_
          refine x_if_eq X (pc := 302) (tgt := 325) dL_isConcert_302 (by decide) (fun z => absurd z (by decide)) (fun _ => ?_)
          refine x_aload_n X (pc := 305) 11 dL_isConcert_305 rfl rfl ?_
          refine x_callV X ⟨Nat.zero_le _, Nat.zero_le _⟩ (pc := 306) (rest := []) kv_X10_undo (q_undo hX2) zk_17_0 (zc_17_0 E _) rfl rfl gw_665 ⟨⟨rfl, rfl⟩, Nat.le_of_ble_eq_true rfl, Nat.le_of_ble_eq_true rfl⟩ rfl rfl (Nat.le_of_ble_eq_true rfl) dL_isConcert_306 (x_ri (fun v3 M3 h3 => ?_))
          obtain ⟨hv3, hX3⟩ := h3
          have eu : aUndo (sL (nS S (fitSum S.1 nc, conG S.1 w nc, S.2.2.1)) l2).1 (sL (nS S (fitSum S.1 nc, conG S.1 w nc, S.2.2.1)) l2).2.1 = _ := aUndo_nS (S := S) (o := (fitSum S.1 nc, conG S.1 w nc, S.2.2.1)) hfp
          rw [eu] at hv3 hX3
          have ht : (S.2.1.take 7).length ≤ 7 := by rw [List.length_take]; omega
          refine x_top (y := (nI ((S.2.1.take 7).length))) hv3 ?_
          refine x_if_lt X (pc := 309) (tgt := 325) dL_isConcert_309 (by decide) (fun z => absurd z (nI_pos (by omega))) (fun _ => ?_)
          refine x_aload_n X (pc := 312) 11 dL_isConcert_312 rfl rfl ?_
          refine x_callX X (pc := 313) (rest := []) ks_L_digest (c_L_digest _ _ _ hX3 nc nm _ hI) gw_350 x_nopr (fun _ _ _ _ _ _ => trivial) rfl rfl (Nat.le_of_ble_eq_true rfl) (Nat.le_of_ble_eq_true rfl) ⟨Nat.le_of_ble_eq_true rfl, Nat.le_of_ble_eq_true rfl⟩ rfl rfl (Nat.le_of_ble_eq_true rfl) dL_isConcert_313 (x_pl ?_)
          refine x_lload_n X (pc := 316) 9 dL_isConcert_316 rfl rfl ?_
          refine x_lcmp_eq X (pc := 317) rfl dL_isConcert_317 ?_
          refine x_if_ne X (pc := 318) (tgt := 325) dL_isConcert_318 (by decide) (fun z => absurd (by decide) z) (fun _ => ?_)
          refine x_iconst X (pc := 321) (v := 1) dL_isConcert_321 (by decide) ?_
          refine x_goto X (pc := 322) (tgt := 326) dL_isConcert_322 (by decide) ?_
          exact x_zret X Y (by decide) (Nat.le_refl _) (Nat.le_refl _) dL_isConcert_326 ⟨_, rfl, rfl, _, hX3, rfl, fun _ h => List.mem_of_mem_take h, rfl, rfl⟩
      · have hl0 : lastsN S.1 w nc = 0 := hlz.mpr (by omega)
        refine x_iconst X (pc := 198) (v := 1) dL_isConcert_198 (by decide) ?_
        refine x_goto X (pc := 199) (tgt := 203) dL_isConcert_199 (by decide) ?_
        refine x_iload X (pc := 203) 6 dL_isConcert_203 rfl ?_
        refine x_if_ne X (pc := 205) (tgt := 212) dL_isConcert_205 (by decide) (fun z => absurd hl0 z) (fun _ => ?_)
        refine x_iconst X (pc := 208) (v := 1) dL_isConcert_208 (by decide) ?_
        refine x_goto X (pc := 209) (tgt := 213) dL_isConcert_209 (by decide) ?_
        refine x_icmp_ne X (pc := 213) (tgt := 246) dL_isConcert_213 (by decide) (fun z => absurd (by decide) z) (fun _ => ?_)
        refine x_aload_n X (pc := 216) 9 dL_isConcert_216 rfl rfl ?_
        refine x_iconst X (pc := 217) (v := 2) dL_isConcert_217 (by decide) ?_
        refine x_callV X ⟨Nat.zero_le _, Nat.zero_le _⟩ (pc := 218) (rest := []) kv_X10_account (q_ac hX1 hI1 (ac_2 hI1)) zk_17_0 (zc_17_0 E _) rfl rfl gw_356 ⟨⟨rfl, rfl⟩, Nat.le_of_ble_eq_true rfl, Nat.le_of_ble_eq_true rfl⟩ rfl rfl (Nat.le_of_ble_eq_true rfl) dL_isConcert_218 (x_pi ?_)
        refine x_iload X (pc := 221) 5 dL_isConcert_221 rfl ?_
        refine x_aload_n X (pc := 223) 9 dL_isConcert_223 rfl rfl ?_
        refine x_iconst X (pc := 224) (v := 3) dL_isConcert_224 (by decide) ?_
        refine x_callV X ⟨Nat.zero_le _, Nat.zero_le _⟩ (pc := 225) (rest := [.int (nI (cntB (sits S.1) nm)), .int (nI (cntB (sits (conG S.1 w nc)) nm))]) kv_X10_account (q_ac hX1 hI1 (ac_3 hI1)) zk_17_0 (zc_17_0 E _) rfl rfl gw_356 ⟨⟨rfl, rfl⟩, Nat.le_of_ble_eq_true rfl, Nat.le_of_ble_eq_true rfl⟩ rfl rfl (Nat.le_of_ble_eq_true rfl) dL_isConcert_225 (x_pi ?_)
        refine x_isub X (pc := 228) dL_isConcert_228 ?_
        refine x_iload X (pc := 229) 4 dL_isConcert_229 rfl ?_
        refine x_iadd X (pc := 231) dL_isConcert_231 ?_
        refine x_icmp_ne X (pc := 232) (tgt := 246) dL_isConcert_232 (by decide) (fun z => absurd (con_sits hI h9 hw) z) (fun _ => ?_)
        refine x_aload_n X (pc := 235) 9 dL_isConcert_235 rfl rfl ?_
        refine x_callX X (pc := 236) (rest := []) ks_L_areSeats (c_L_areSeats _ _ _ hX1 nc nm _ hI1 hf1) gw_677 x_nopr (fun _ _ _ _ _ _ => trivial) rfl rfl (Nat.le_of_ble_eq_true rfl) (Nat.le_of_ble_eq_true rfl) ⟨Nat.le_of_ble_eq_true rfl, Nat.le_of_ble_eq_true rfl⟩ rfl rfl (Nat.le_of_ble_eq_true rfl) dL_isConcert_236 (x_ri (fun v2 M2 h2 => ?_))
        obtain ⟨hv2, l2, hX2⟩ := h2
        refine x_top (y := 1) hv2 ?_
        refine x_if_eq X (pc := 239) (tgt := 246) dL_isConcert_239 (by decide) (fun z => absurd z (by decide)) (fun _ => ?_)
        refine x_iconst X (pc := 242) (v := 1) dL_isConcert_242 (by decide) ?_
        refine x_goto X (pc := 243) (tgt := 247) dL_isConcert_243 (by decide) ?_
        refine x_istore X (pc := 247) (lv1 := [(11, .int 1), (10, .int (fitSum S.1 nc)), (9, .int (fitSum S.1 nc)), (8, .int (paySum S.1 nc)), (7, .int (S.1 14 1)), (6, .int (nI (cntB (fell S.1) nc))), (5, .int (nI (cntB (sits S.1) nm))), (4, .int (lastsN S.1 w nc)), (2, .long (dig S.1 nc nm)), (1, .int w), (0, .ref (za E 17 0))]) dL_isConcert_247 (by decide) rfl ?_
        refine x_iload X (pc := 249) 7 dL_isConcert_249 rfl ?_
        refine x_sipush X (pc := 251) (v := (-1015)) dL_isConcert_251 (by decide) ?_
        refine x_icmp_eq X (pc := 254) (tgt := 262) dL_isConcert_254 (by decide) (fun z => absurd z (fun z => by rw [hl0] at z; exact absurd z (by decide))) (fun _ => ?_)
        refine x_iload X (pc := 257) 7 dL_isConcert_257 rfl ?_
        refine x_if_ne X (pc := 259) (tgt := 267) dL_isConcert_259 (by decide) (fun z => absurd hl0 z) (fun _ => ?_)
        refine x_iload X (pc := 262) 7 dL_isConcert_262 rfl ?_
        refine x_goto X (pc := 264) (tgt := 271) dL_isConcert_264 (by decide) ?_
        refine x_istore X (pc := 271) (lv1 := [(12, .int (lastsN S.1 w nc)), (11, .int 1), (10, .int (fitSum S.1 nc)), (9, .int (fitSum S.1 nc)), (8, .int (paySum S.1 nc)), (7, .int (S.1 14 1)), (6, .int (nI (cntB (fell S.1) nc))), (5, .int (nI (cntB (sits S.1) nm))), (4, .int (lastsN S.1 w nc)), (2, .long (dig S.1 nc nm)), (1, .int w), (0, .ref (za E 17 0))]) dL_isConcert_271 (by decide) rfl ?_
        refine x_iload X (pc := 273) 1 dL_isConcert_273 rfl ?_
        refine x_if_eq X (pc := 275) (tgt := 297) dL_isConcert_275 (by decide) (fun z => absurd z (by decide)) (fun _ => ?_)
        refine x_iload X (pc := 278) 8 dL_isConcert_278 rfl ?_
        refine x_if_eq X (pc := 280) (tgt := 293) dL_isConcert_280 (by decide) (fun _ => ?_) (fun z => absurd hl0 z)
        refine x_iconst X (pc := 293) (v := 1) dL_isConcert_293 (by decide) ?_
        refine x_goto X (pc := 294) (tgt := 298) dL_isConcert_294 (by decide) ?_
        refine x_istore X (pc := 298) (lv1 := [(11, .int 1), (12, .int (lastsN S.1 w nc)), (10, .int (fitSum S.1 nc)), (9, .int (fitSum S.1 nc)), (8, .int (paySum S.1 nc)), (7, .int (S.1 14 1)), (6, .int (nI (cntB (fell S.1) nc))), (5, .int (nI (cntB (sits S.1) nm))), (4, .int (lastsN S.1 w nc)), (2, .long (dig S.1 nc nm)), (1, .int w), (0, .ref (za E 17 0))]) dL_isConcert_298 (by decide) rfl ?_
        refine x_iload X (pc := 300) 0 dL_isConcert_300 rfl ?_
        refine x_if_eq X (pc := 302) (tgt := 325) dL_isConcert_302 (by decide) (fun z => absurd z (by decide)) (fun _ => ?_)
        refine x_aload_n X (pc := 305) 11 dL_isConcert_305 rfl rfl ?_
        refine x_callV X ⟨Nat.zero_le _, Nat.zero_le _⟩ (pc := 306) (rest := []) kv_X10_undo (q_undo hX2) zk_17_0 (zc_17_0 E _) rfl rfl gw_665 ⟨⟨rfl, rfl⟩, Nat.le_of_ble_eq_true rfl, Nat.le_of_ble_eq_true rfl⟩ rfl rfl (Nat.le_of_ble_eq_true rfl) dL_isConcert_306 (x_ri (fun v3 M3 h3 => ?_))
        obtain ⟨hv3, hX3⟩ := h3
        have eu : aUndo (sL (nS S (fitSum S.1 nc, conG S.1 w nc, S.2.2.1)) l2).1 (sL (nS S (fitSum S.1 nc, conG S.1 w nc, S.2.2.1)) l2).2.1 = _ := aUndo_nS (S := S) (o := (fitSum S.1 nc, conG S.1 w nc, S.2.2.1)) hfp
        rw [eu] at hv3 hX3
        have ht : (S.2.1.take 7).length ≤ 7 := by rw [List.length_take]; omega
        refine x_top (y := (nI ((S.2.1.take 7).length))) hv3 ?_
        refine x_if_lt X (pc := 309) (tgt := 325) dL_isConcert_309 (by decide) (fun z => absurd z (nI_pos (by omega))) (fun _ => ?_)
        refine x_aload_n X (pc := 312) 11 dL_isConcert_312 rfl rfl ?_
        refine x_callX X (pc := 313) (rest := []) ks_L_digest (c_L_digest _ _ _ hX3 nc nm _ hI) gw_350 x_nopr (fun _ _ _ _ _ _ => trivial) rfl rfl (Nat.le_of_ble_eq_true rfl) (Nat.le_of_ble_eq_true rfl) ⟨Nat.le_of_ble_eq_true rfl, Nat.le_of_ble_eq_true rfl⟩ rfl rfl (Nat.le_of_ble_eq_true rfl) dL_isConcert_313 (x_pl ?_)
        refine x_lload_n X (pc := 316) 9 dL_isConcert_316 rfl rfl ?_
        refine x_lcmp_eq X (pc := 317) rfl dL_isConcert_317 ?_
        refine x_if_ne X (pc := 318) (tgt := 325) dL_isConcert_318 (by decide) (fun z => absurd (by decide) z) (fun _ => ?_)
        refine x_iconst X (pc := 321) (v := 1) dL_isConcert_321 (by decide) ?_
        refine x_goto X (pc := 322) (tgt := 326) dL_isConcert_322 (by decide) ?_
        exact x_zret X Y (by decide) (Nat.le_refl _) (Nat.le_refl _) dL_isConcert_326 ⟨_, rfl, rfl, _, hX3, rfl, fun _ h => List.mem_of_mem_take h, rfl, rfl⟩
  · refine x_aload_n X (pc := 53) 9 dL_isConcert_53 rfl rfl ?_
    refine x_iload X (pc := 54) 0 dL_isConcert_54 rfl ?_
    refine x_bipush X (pc := 56) (v := 7) dL_isConcert_56 (by decide) ?_
    refine x_callV X ⟨Nat.zero_le _, Nat.zero_le _⟩ (pc := 58) (rest := []) kv_X10_chairOf (q_ch hX hI (c := c) (by omega) (v := orN (S.1 6 c)) rfl) zk_17_0 (zc_17_0 E _) rfl rfl gw_385 ⟨⟨rfl, rfl⟩, Nat.le_of_ble_eq_true rfl, Nat.le_of_ble_eq_true rfl⟩ rfl rfl (Nat.le_of_ble_eq_true rfl) dL_isConcert_58 (x_pi ?_)
    rcases hI.sit (c := c) (by omega) with e6 | ⟨m0, hm0, e6, e12⟩
    · refine x_top (y := ((-1015))) (by rw [e6]; rfl) ?_
      refine x_istore X (pc := 61) (lv1 := [(11, .int ((-1015))), (10, .int (nI c)), (9, .int (fitSum S.1 c)), (8, .int (paySum S.1 c)), (7, .int (S.1 14 1)), (6, .int (nI (cntB (fell S.1) nc))), (5, .int (nI (cntB (sits S.1) nm))), (4, .int (lastsN S.1 w nc)), (2, .long (dig S.1 nc nm)), (1, .int w), (0, .ref (za E 17 0))]) dL_isConcert_61 (by decide) rfl ?_
      refine x_iload X (pc := 63) 0 dL_isConcert_63 rfl ?_
      refine x_sipush X (pc := 65) (v := (-1015)) dL_isConcert_65 (by decide) ?_
      refine x_icmp_ne X (pc := 68) (tgt := 75) dL_isConcert_68 (by decide) (fun z => absurd rfl z) (fun _ => ?_)
      refine x_iconst X (pc := 71) (v := 0) dL_isConcert_71 (by decide) ?_
      refine x_goto X (pc := 72) (tgt := 83) dL_isConcert_72 (by decide) ?_
      refine x_istore X (pc := 83) (lv1 := [(12, .int 0), (11, .int ((-1015))), (10, .int (nI c)), (9, .int (fitSum S.1 c)), (8, .int (paySum S.1 c)), (7, .int (S.1 14 1)), (6, .int (nI (cntB (fell S.1) nc))), (5, .int (nI (cntB (sits S.1) nm))), (4, .int (lastsN S.1 w nc)), (2, .long (dig S.1 nc nm)), (1, .int w), (0, .ref (za E 17 0))]) dL_isConcert_83 (by decide) rfl ?_
      refine x_iload X (pc := 85) 3 dL_isConcert_85 rfl ?_
      refine x_iload X (pc := 87) 0 dL_isConcert_87 rfl ?_
      refine x_iadd X (pc := 89) dL_isConcert_89 ?_
      refine x_top (y := (fitSum S.1 (c + 1))) (fsum_0 e6) ?_
      refine x_istore X (pc := 90) (lv1 := [(9, .int (fitSum S.1 (c + 1))), (12, .int 0), (11, .int ((-1015))), (10, .int (nI c)), (8, .int (paySum S.1 c)), (7, .int (S.1 14 1)), (6, .int (nI (cntB (fell S.1) nc))), (5, .int (nI (cntB (sits S.1) nm))), (4, .int (lastsN S.1 w nc)), (2, .long (dig S.1 nc nm)), (1, .int w), (0, .ref (za E 17 0))]) dL_isConcert_90 (by decide) rfl ?_
      refine x_iload X (pc := 92) 4 dL_isConcert_92 rfl ?_
      refine x_iload X (pc := 94) 1 dL_isConcert_94 rfl ?_
      refine x_iconst X (pc := 96) (v := 3) dL_isConcert_96 (by decide) ?_
      refine x_idiv X (pc := 97) dL_isConcert_97 (by decide) ?_
      refine x_iadd X (pc := 98) dL_isConcert_98 ?_
      refine x_top (y := (paySum S.1 (c + 1))) (psum_0 e6) ?_
      refine x_istore X (pc := 99) (lv1 := [(8, .int (paySum S.1 (c + 1))), (9, .int (fitSum S.1 (c + 1))), (12, .int 0), (11, .int ((-1015))), (10, .int (nI c)), (7, .int (S.1 14 1)), (6, .int (nI (cntB (fell S.1) nc))), (5, .int (nI (cntB (sits S.1) nm))), (4, .int (lastsN S.1 w nc)), (2, .long (dig S.1 nc nm)), (1, .int w), (0, .ref (za E 17 0))]) dL_isConcert_99 (by decide) rfl ?_
      refine x_iinc X (pc := 101) (v := (nI (c + 1))) (lv1 := [(10, .int (nI (c + 1))), (8, .int (paySum S.1 (c + 1))), (9, .int (fitSum S.1 (c + 1))), (12, .int 0), (11, .int ((-1015))), (7, .int (S.1 14 1)), (6, .int (nI (cntB (fell S.1) nc))), (5, .int (nI (cntB (sits S.1) nm))), (4, .int (lastsN S.1 w nc)), (2, .long (dig S.1 nc nm)), (1, .int w), (0, .ref (za E 17 0))]) 4 dL_isConcert_101 rfl (nI_1 _) (by decide) rfl ?_
      refine x_goto X (pc := 104) (tgt := 43) dL_isConcert_104 (by decide) ?_
      refine x_sub (lv' := [(10, .int (nI (c + 1))), (9, .int (fitSum S.1 (c + 1))), (8, .int (paySum S.1 (c + 1))), (7, .int (S.1 14 1)), (6, .int (nI (cntB (fell S.1) nc))), (5, .int (nI (cntB (sits S.1) nm))), (4, .int (lastsN S.1 w nc)), (2, .long (dig S.1 nc nm)), (1, .int w), (0, .ref (za E 17 0))]) [0, 2, 1, 5, 6, 7, 8, 9, 10, 11] rfl ?_
      exact ih43 () (by omega) trivial
    · refine x_top (y := (nI m0)) (by rw [e6]; exact orN_nI (by omega)) ?_
      refine x_istore X (pc := 61) (lv1 := [(11, .int (nI m0)), (10, .int (nI c)), (9, .int (fitSum S.1 c)), (8, .int (paySum S.1 c)), (7, .int (S.1 14 1)), (6, .int (nI (cntB (fell S.1) nc))), (5, .int (nI (cntB (sits S.1) nm))), (4, .int (lastsN S.1 w nc)), (2, .long (dig S.1 nc nm)), (1, .int w), (0, .ref (za E 17 0))]) dL_isConcert_61 (by decide) rfl ?_
      refine x_iload X (pc := 63) 0 dL_isConcert_63 rfl ?_
      refine x_sipush X (pc := 65) (v := (-1015)) dL_isConcert_65 (by decide) ?_
      refine x_icmp_ne X (pc := 68) (tgt := 75) dL_isConcert_68 (by decide) (fun _ => ?_) (fun z => absurd z (nI_ne_15 (by omega)))
      refine x_aload_n X (pc := 75) 10 dL_isConcert_75 rfl rfl ?_
      refine x_iload X (pc := 76) 1 dL_isConcert_76 rfl ?_
      refine x_iload X (pc := 78) 0 dL_isConcert_78 rfl ?_
      refine x_callV X ⟨Nat.zero_le _, Nat.zero_le _⟩ (pc := 80) (rest := []) kv_X10_fit (q_fit hX hI (c := c) (m := m0) (by omega) (by omega)) zk_17_0 (zc_17_0 E _) rfl rfl gw_681 ⟨⟨rfl, rfl⟩, Nat.le_of_ble_eq_true rfl, Nat.le_of_ble_eq_true rfl⟩ rfl rfl (Nat.le_of_ble_eq_true rfl) dL_isConcert_80 (x_pi ?_)
      refine x_istore X (pc := 83) (lv1 := [(12, .int (fit S.1 c m0)), (11, .int (nI m0)), (10, .int (nI c)), (9, .int (fitSum S.1 c)), (8, .int (paySum S.1 c)), (7, .int (S.1 14 1)), (6, .int (nI (cntB (fell S.1) nc))), (5, .int (nI (cntB (sits S.1) nm))), (4, .int (lastsN S.1 w nc)), (2, .long (dig S.1 nc nm)), (1, .int w), (0, .ref (za E 17 0))]) dL_isConcert_83 (by decide) rfl ?_
      refine x_iload X (pc := 85) 3 dL_isConcert_85 rfl ?_
      refine x_iload X (pc := 87) 0 dL_isConcert_87 rfl ?_
      refine x_iadd X (pc := 89) dL_isConcert_89 ?_
      refine x_top (y := (fitSum S.1 (c + 1))) (fsum_1 e6 (by omega)) ?_
      refine x_istore X (pc := 90) (lv1 := [(9, .int (fitSum S.1 (c + 1))), (12, .int (fit S.1 c m0)), (11, .int (nI m0)), (10, .int (nI c)), (8, .int (paySum S.1 c)), (7, .int (S.1 14 1)), (6, .int (nI (cntB (fell S.1) nc))), (5, .int (nI (cntB (sits S.1) nm))), (4, .int (lastsN S.1 w nc)), (2, .long (dig S.1 nc nm)), (1, .int w), (0, .ref (za E 17 0))]) dL_isConcert_90 (by decide) rfl ?_
      refine x_iload X (pc := 92) 4 dL_isConcert_92 rfl ?_
      refine x_iload X (pc := 94) 1 dL_isConcert_94 rfl ?_
      refine x_iconst X (pc := 96) (v := 3) dL_isConcert_96 (by decide) ?_
      refine x_idiv X (pc := 97) dL_isConcert_97 (by decide) ?_
      refine x_iadd X (pc := 98) dL_isConcert_98 ?_
      refine x_top (y := (paySum S.1 (c + 1))) (psum_1 e6 (by omega)) ?_
      refine x_istore X (pc := 99) (lv1 := [(8, .int (paySum S.1 (c + 1))), (9, .int (fitSum S.1 (c + 1))), (12, .int (fit S.1 c m0)), (11, .int (nI m0)), (10, .int (nI c)), (7, .int (S.1 14 1)), (6, .int (nI (cntB (fell S.1) nc))), (5, .int (nI (cntB (sits S.1) nm))), (4, .int (lastsN S.1 w nc)), (2, .long (dig S.1 nc nm)), (1, .int w), (0, .ref (za E 17 0))]) dL_isConcert_99 (by decide) rfl ?_
      refine x_iinc X (pc := 101) (v := (nI (c + 1))) (lv1 := [(10, .int (nI (c + 1))), (8, .int (paySum S.1 (c + 1))), (9, .int (fitSum S.1 (c + 1))), (12, .int (fit S.1 c m0)), (11, .int (nI m0)), (7, .int (S.1 14 1)), (6, .int (nI (cntB (fell S.1) nc))), (5, .int (nI (cntB (sits S.1) nm))), (4, .int (lastsN S.1 w nc)), (2, .long (dig S.1 nc nm)), (1, .int w), (0, .ref (za E 17 0))]) 4 dL_isConcert_101 rfl (nI_1 _) (by decide) rfl ?_
      refine x_goto X (pc := 104) (tgt := 43) dL_isConcert_104 (by decide) ?_
      refine x_sub (lv' := [(10, .int (nI (c + 1))), (9, .int (fitSum S.1 (c + 1))), (8, .int (paySum S.1 (c + 1))), (7, .int (S.1 14 1)), (6, .int (nI (cntB (fell S.1) nc))), (5, .int (nI (cntB (sits S.1) nm))), (4, .int (lastsN S.1 w nc)), (2, .long (dig S.1 nc nm)), (1, .int w), (0, .ref (za E 17 0))]) [0, 2, 1, 5, 6, 7, 8, 9, 10, 11] rfl ?_
      exact ih43 () (by omega) trivial
