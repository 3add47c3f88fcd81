/-! ===== the law's isSeason ===== -/
theorem x_loopX {g : ZG} {E : ZE} {kc kn : Nat} (N : Nat) (pc : Nat) {σ : Type} (J : Nat → σ → Prop) (F : Nat → σ → va_W × Mem × List (Nat × Value)) (hs : ∀ (i : Nat) (s : σ), i ≤ N → J i s → (∀ s' : σ, i < N → J (i + 1) s' → ZX g E kc kn (F (i + 1) s').1 (F (i + 1) s').2.1 (F (i + 1) s').2.2 pc []) → ZX g E kc kn (F i s).1 (F i s).2.1 (F i s).2.2 pc []) : ∀ (i : Nat) (s : σ), i ≤ N → J i s → ZX g E kc kn (F i s).1 (F i s).2.1 (F i s).2.2 pc [] := by
  intro i s hi hJ
  obtain ⟨d, hd⟩ : ∃ d, d = N - i := ⟨_, rfl⟩
  induction d generalizing i s with
  | zero => exact hs i s hi hJ (fun s' h => absurd h (by omega))
  | succ d ih => exact hs i s hi hJ (fun s' h hJ' => ih (i + 1) s' (by omega) hJ' (by omega))
theorem x_xs {g : ZG} {E : ZE} {kc kn : Nat} {xs xs' : va_W} {M : Mem} {lv : List (Nat × Value)} {pc : Nat} {st : List Value} (h : xs = xs') (k : ZX g E kc kn xs' M lv pc st) : ZX g E kc kn xs M lv pc st := h ▸ k
/-- what is told so far -/
noncomputable def tldF (g : LG) (nc nm c : Nat) : Nat → Int32 := fun k => if k < c then orN (matS g nc nm k) else 0
theorem tldF_0 {g : LG} {nc nm : Nat} : (fun _ => (0 : Int32)) = tldF g nc nm 0 := by
  funext k
  unfold tldF
  rw [if_neg (Nat.not_lt_zero k)]
theorem tldF_s {g : LG} {nc nm c : Nat} : upd (tldF g nc nm c) c (orN (matS g nc nm c)) = tldF g nc nm (c + 1) := by
  funext k
  unfold upd tldF
  by_cases e : k = c
  · subst e; rw [if_pos rfl, if_pos (Nat.lt_succ_self k)]
  · rw [if_neg e]
    by_cases h : k < c
    · rw [if_pos h, if_pos (by omega)]
    · rw [if_neg h, if_neg (by omega)]
theorem tldF_at {g : LG} {nc nm c k : Nat} (h : k < c) : tldF g nc nm c k = orN (matS g nc nm k) := by unfold tldF; rw [if_pos h]
noncomputable def mny (g : LG) (nc nm c : Nat) : Nat := cntB (fun c => !decide (matS g nc nm c = -1)) c
theorem mny_0 {g : LG} {nc nm c : Nat} (h : matS g nc nm c = -1) : nI (mny g nc nm c) + 0 = nI (mny g nc nm (c + 1)) := by
  have e : mny g nc nm (c + 1) = mny g nc nm c := by
    show mny g nc nm c + (if (!decide (matS g nc nm c = -1)) = true then 1 else 0) = _
    rw [if_neg (by simp [h])]
    rfl
  rw [e]
  simp
theorem mny_1 {g : LG} {nc nm c : Nat} (h : ¬ matS g nc nm c = -1) : nI (mny g nc nm c) + 1 = nI (mny g nc nm (c + 1)) := by
  have e : mny g nc nm (c + 1) = mny g nc nm c + 1 := by
    show mny g nc nm c + (if (!decide (matS g nc nm c = -1)) = true then 1 else 0) = _
    rw [if_pos (by simp [h])]
  rw [e, nI_1]
theorem sea_ans {g : LG} {rs : Rs} {nc nm n : Nat} (h : Inv g nc nm n) : oSeason g rs = (nI (mny g nc nm nc), seaG g, rs) := by
  have e : cntB (sits (gu (seasG g) 14 5 (g 14 5 + 1))) nm = mny g nc nm nc := seas_cnt h
  unfold oSeason
  rw [h.mNe, e]
  rfl
def rm_L_isSeason : Room := { frames := 8, cells := 1, slots := 10, locals := 192 }
theorem ks_L_isSeason : KS yL_isSeason cL_isSeason 8 (some .boolean) 1 := ⟨⟨gw_755, gw_352, gw_756⟩, by decide +kernel⟩
set_option maxRecDepth 100000 in
set_option maxHeartbeats 4000000 in
theorem c_L_isSeason (E : ZE) (M : Mem) (S : LSt) (hX : XS M S) (nc nm n : Nat) (hI : Inv S.1 nc nm n) (hf : SF S.1 nc nm) : MtX E yL_isSeason cL_isSeason 8 (some .boolean) rm_L_isSeason [.ref (za E 17 0)] M (fun _ => True) (RI (fun v M1 => v = 1 ∧ ∃ S1, XS M1 S1 ∧ Sm S S1)) 1 10 := by
  have hn := hI.c10; have hn2 := hI.m10; have hF := hI.fb; have b1 : mny S.1 nc nm nc ≤ nc := cntB_le _ nc
  refine x_met (own := RL) (lv := [(0, .ref (za E 17 0))]) (by decide) rfl (Nat.le_of_ble_eq_true rfl) rfl (fun gg X hPr Y => ?_)
  refine x_aload_n X (pc := 0) 0 dL_isSeason_0 rfl rfl ?_
  refine x_callX X (pc := 1) (rest := []) ks_L_digest (c_L_digest _ _ _ hX nc nm _ hI) gw_350 x_nopr (fun _ _ _ _ _ _ => trivial) rfl rfl (Nat.le_of_ble_eq_true rfl) (Nat.le_of_ble_eq_true rfl) ⟨Nat.le_of_ble_eq_true rfl, Nat.le_of_ble_eq_true rfl⟩ rfl rfl (Nat.le_of_ble_eq_true rfl) dL_isSeason_1 (x_pl ?_)
  refine x_lstore_n X (pc := 4) (lv1 := [(1, .long (dig S.1 nc nm)), (0, .ref (za E 17 0))]) dL_isSeason_4 rfl (by decide) rfl ?_
  refine x_aload_n X (pc := 5) 1 dL_isSeason_5 rfl rfl ?_
  refine x_iconst X (pc := 6) (v := 0) dL_isSeason_6 (by decide) ?_
  refine x_callV X ⟨Nat.zero_le _, Nat.zero_le _⟩ (pc := 7) (rest := []) kv_X10_account (q_ac hX hI (ac_0 hI)) zk_17_0 (zc_17_0 E _) rfl rfl gw_356 ⟨⟨rfl, rfl⟩, Nat.le_of_ble_eq_true rfl, Nat.le_of_ble_eq_true rfl⟩ rfl rfl (Nat.le_of_ble_eq_true rfl) dL_isSeason_7 (x_pi ?_)
  refine x_istore_n X (pc := 10) (lv1 := [(3, .int (nI nc)), (1, .long (dig S.1 nc nm)), (0, .ref (za E 17 0))]) dL_isSeason_10 rfl (by decide) rfl ?_
  refine x_iload_n X (pc := 11) 0 dL_isSeason_11 rfl rfl ?_
  refine x_newI X (n := nc) gw_72 (by omega) (Nat.le_of_ble_eq_true rfl) (show _ ≤ 10 by omega) dL_isSeason_12 (fun q => ?_)
  refine x_xs (xs' := [(q, (.inl (zcI E, nc, .inl (tldF S.1 nc nm 0)) : va_E))]) (by rw [← tldF_0]; rfl) ?_
  refine x_astore X (pc := 14) (lv1 := [(4, .ref (q)), (3, .int (nI nc)), (1, .long (dig S.1 nc nm)), (0, .ref (za E 17 0))]) dL_isSeason_14 (by decide) rfl ?_
  refine x_iconst X (pc := 16) (v := 0) dL_isSeason_16 (by decide) ?_
  refine x_istore X (pc := 17) (lv1 := [(5, .int 0), (4, .ref (q)), (3, .int (nI nc)), (1, .long (dig S.1 nc nm)), (0, .ref (za E 17 0))]) dL_isSeason_17 (by decide) rfl ?_
  refine x_iconst X (pc := 19) (v := 1) dL_isSeason_19 (by decide) ?_
  refine x_istore X (pc := 20) (lv1 := [(6, .int 1), (5, .int 0), (4, .ref (q)), (3, .int (nI nc)), (1, .long (dig S.1 nc nm)), (0, .ref (za E 17 0))]) dL_isSeason_20 (by decide) rfl ?_
  refine x_iconst X (pc := 22) (v := 0) dL_isSeason_22 (by decide) ?_
  refine x_istore X (pc := 23) (lv1 := [(7, .int 0), (6, .int 1), (5, .int 0), (4, .ref (q)), (3, .int (nI nc)), (1, .long (dig S.1 nc nm)), (0, .ref (za E 17 0))]) dL_isSeason_23 (by decide) rfl ?_
  refine x_sub (lv' := [(7, .int 0), (6, .int 1), (5, .int 0), (4, .ref (q)), (3, .int (nI nc)), (1, .long (dig S.1 nc nm)), (0, .ref (za E 17 0))]) [0, 1, 2, 3, 4, 5, 6] rfl ?_
  refine x_eq (lv' := [(7, .int (nI 0)), (6, .int 1), (5, .int (nI (mny S.1 nc nm 0))), (4, .ref (q)), (3, .int (nI nc)), (1, .long (dig S.1 nc nm)), (0, .ref (za E 17 0))]) rfl rfl ?_
  refine x_loopX nc 25 (fun _ s => XS s S) (fun c s => ([(q, (.inl (zcI E, nc, .inl (tldF S.1 nc nm c)) : va_E))], s, [(7, .int (nI c)), (6, .int 1), (5, .int (nI (mny S.1 nc nm c))), (4, .ref (q)), (3, .int (nI nc)), (1, .long (dig S.1 nc nm)), (0, .ref (za E 17 0))])) ?_ 0 M (Nat.zero_le _) hX
  intro c M0 hc hX0 ih25
  show ZX gg E _ _ [(q, (.inl (zcI E, nc, .inl (tldF S.1 nc nm c)) : va_E))] M0 [(7, .int (nI c)), (6, .int 1), (5, .int (nI (mny S.1 nc nm c))), (4, .ref (q)), (3, .int (nI nc)), (1, .long (dig S.1 nc nm)), (0, .ref (za E 17 0))] 25 []
  refine x_iload X (pc := 25) 0 dL_isSeason_25 rfl ?_
  refine x_iload_n X (pc := 27) 4 dL_isSeason_27 rfl rfl ?_
  refine x_nicmp_ge X (pc := 28) (a := c) (b := nc) (tgt := 93) dL_isSeason_28 (by decide) (by omega) (by omega) (fun c28 => ?_) (fun c28 => ?_)
  · obtain rfl : nc = c := by omega
    refine x_iload X (pc := 93) 1 dL_isSeason_93 rfl ?_
    refine x_if_eq X (pc := 95) (tgt := 137) dL_isSeason_95 (by decide) (fun z => absurd z (by decide)) (fun _ => ?_)
    refine x_aload_n X (pc := 98) 6 dL_isSeason_98 rfl rfl ?_
    refine x_callX X (pc := 99) (rest := []) ks_L_digest (c_L_digest _ _ _ hX0 nc nm _ hI) gw_350 x_nopr (fun _ _ _ _ _ _ => trivial) rfl rfl (Nat.le_of_ble_eq_true rfl) (show _ ≤ 10 by omega) ⟨Nat.le_of_ble_eq_true rfl, Nat.le_of_ble_eq_true rfl⟩ rfl rfl (Nat.le_of_ble_eq_true rfl) dL_isSeason_99 (x_pl ?_)
    refine x_lload_n X (pc := 102) 5 dL_isSeason_102 rfl rfl ?_
    refine x_lcmp_eq X (pc := 103) rfl dL_isSeason_103 ?_
    refine x_if_ne X (pc := 104) (tgt := 137) dL_isSeason_104 (by decide) (fun z => absurd (by decide) z) (fun _ => ?_)
    refine x_aload_n X (pc := 107) 6 dL_isSeason_107 rfl rfl ?_
    refine x_callV X ⟨Nat.le_of_ble_eq_true rfl, (show _ ≤ 10 by omega)⟩ (pc := 108) (rest := []) kv_X10_season (q_season hX0 hI) zk_17_0 (zc_17_0 E _) rfl rfl gw_233 ⟨⟨rfl, rfl⟩, Nat.le_of_ble_eq_true rfl, Nat.le_of_ble_eq_true rfl⟩ rfl rfl (Nat.le_of_ble_eq_true rfl) dL_isSeason_108 (x_ri (fun v3 M3 h3 => ?_))
    obtain ⟨hv3, hX3⟩ := h3
    rw [sea_ans hI] at hv3 hX3
    have hI1 := seaG_inv hI
    have hf1 : SF (seaG S.1) nc nm := (SF.seas hI).same rfl rfl rfl rfl rfl
    have ec : cntB (sits (seaG S.1)) nm = mny S.1 nc nm nc := seas_cnt hI
    refine x_top (y := (nI (mny S.1 nc nm nc))) hv3 ?_
    refine x_iload X (pc := 111) 2 dL_isSeason_111 rfl ?_
    refine x_nicmp_ne X (pc := 113) (a := mny S.1 nc nm nc) (b := mny S.1 nc nm nc) (tgt := 137) dL_isSeason_113 (by decide) (by omega) (by omega) (fun z => absurd rfl z) (fun _ => ?_)
    refine x_aload_n X (pc := 116) 6 dL_isSeason_116 rfl rfl ?_
    refine x_callV X ⟨Nat.le_of_ble_eq_true rfl, (show _ ≤ 10 by omega)⟩ (pc := 117) (rest := []) kv_X10_restless (q_rest hX3 hI1) zk_17_0 (zc_17_0 E _) rfl rfl gw_765 ⟨⟨rfl, rfl⟩, Nat.le_of_ble_eq_true rfl, Nat.le_of_ble_eq_true rfl⟩ rfl rfl (Nat.le_of_ble_eq_true rfl) dL_isSeason_117 (x_pi ?_)
    refine x_top (y := 0) (show nI (restN (seaG S.1) nm nc) = 0 by rw [seas_rest hI nc (Nat.le_refl nc)]; rfl) ?_
    refine x_if_ne X (pc := 120) (tgt := 137) dL_isSeason_120 (by decide) (fun z => absurd (by decide) z) (fun _ => ?_)
    refine x_aload_n X (pc := 123) 6 dL_isSeason_123 rfl rfl ?_
    refine x_iconst X (pc := 124) (v := 2) dL_isSeason_124 (by decide) ?_
    refine x_callV X ⟨Nat.le_of_ble_eq_true rfl, (show _ ≤ 10 by omega)⟩ (pc := 125) (rest := []) kv_X10_account (q_ac hX3 hI1 (ac_2 hI1)) zk_17_0 (zc_17_0 E _) rfl rfl gw_356 ⟨⟨rfl, rfl⟩, Nat.le_of_ble_eq_true rfl, Nat.le_of_ble_eq_true rfl⟩ rfl rfl (Nat.le_of_ble_eq_true rfl) dL_isSeason_125 (x_pi ?_)
    refine x_iload X (pc := 128) 2 dL_isSeason_128 rfl ?_
    refine x_nicmp_ne X (pc := 130) (a := cntB (sits (seaG S.1)) nm) (b := mny S.1 nc nm nc) (tgt := 137) dL_isSeason_130 (by decide) (by omega) (by omega) (fun z => absurd ec z) (fun _ => ?_)
    refine x_iconst X (pc := 133) (v := 1) dL_isSeason_133 (by decide) ?_
    refine x_goto X (pc := 134) (tgt := 138) dL_isSeason_134 (by decide) ?_
    refine x_istore X (pc := 138) (lv1 := [(6, .int 1), (7, .int (nI nc)), (5, .int (nI (mny S.1 nc nm nc))), (4, .ref (q)), (3, .int (nI nc)), (1, .long (dig S.1 nc nm)), (0, .ref (za E 17 0))]) dL_isSeason_138 (by decide) rfl ?_
    refine x_iconst X (pc := 140) (v := 0) dL_isSeason_140 (by decide) ?_
    refine x_istore X (pc := 141) (lv1 := [(7, .int 0), (6, .int 1), (5, .int (nI (mny S.1 nc nm nc))), (4, .ref (q)), (3, .int (nI nc)), (1, .long (dig S.1 nc nm)), (0, .ref (za E 17 0))]) dL_isSeason_141 (by decide) rfl ?_
    refine x_sub (lv' := [(7, .int 0), (6, .int 1), (5, .int (nI (mny S.1 nc nm nc))), (4, .ref (q)), (3, .int (nI nc)), (1, .long (dig S.1 nc nm)), (0, .ref (za E 17 0))]) [0, 1, 2, 3, 4, 5, 6] rfl ?_
    refine x_eq (lv' := [(7, .int (nI 0)), (6, .int 1), (5, .int (nI (mny S.1 nc nm nc))), (4, .ref (q)), (3, .int (nI nc)), (1, .long (dig S.1 nc nm)), (0, .ref (za E 17 0))]) rfl rfl ?_
    refine x_loop nc 143 (σ := Unit) (fun _ _ => True) (fun c _ => (M3, [(7, .int (nI c)), (6, .int 1), (5, .int (nI (mny S.1 nc nm nc))), (4, .ref (q)), (3, .int (nI nc)), (1, .long (dig S.1 nc nm)), (0, .ref (za E 17 0))])) ?_ 0 () (Nat.zero_le _) trivial
    intro c _ hc _ ih143
    show ZX gg E _ _ [(q, (.inl (zcI E, nc, .inl (tldF S.1 nc nm nc)) : va_E))] M3 [(7, .int (nI c)), (6, .int 1), (5, .int (nI (mny S.1 nc nm nc))), (4, .ref (q)), (3, .int (nI nc)), (1, .long (dig S.1 nc nm)), (0, .ref (za E 17 0))] 143 []
    refine x_iload X (pc := 143) 1 dL_isSeason_143 rfl ?_
    refine x_if_eq X (pc := 145) (tgt := 183) dL_isSeason_145 (by decide) (fun z => absurd z (by decide)) (fun _ => ?_)
    refine x_iload X (pc := 148) 0 dL_isSeason_148 rfl ?_
    refine x_iload_n X (pc := 150) 4 dL_isSeason_150 rfl rfl ?_
    refine x_nicmp_ge X (pc := 151) (a := c) (b := nc) (tgt := 183) dL_isSeason_151 (by decide) (by omega) (by omega) (fun c151 => ?_) (fun c151 => ?_)
    · obtain rfl : nc = c := by omega
      refine x_iload X (pc := 183) 1 dL_isSeason_183 rfl ?_
      refine x_if_eq X (pc := 185) (tgt := 215) dL_isSeason_185 (by decide) (fun z => absurd z (by decide)) (fun _ => ?_)
      refine x_aload_n X (pc := 188) 6 dL_isSeason_188 rfl rfl ?_
      refine x_callX X (pc := 189) (rest := []) ks_L_areSeats (c_L_areSeats _ _ _ hX3 nc nm _ hI1 hf1) gw_677 x_nopr (fun _ _ _ _ _ _ => trivial) rfl rfl (Nat.le_of_ble_eq_true rfl) (show _ ≤ 10 by omega) ⟨Nat.le_of_ble_eq_true rfl, Nat.le_of_ble_eq_true rfl⟩ rfl rfl (Nat.le_of_ble_eq_true rfl) dL_isSeason_189 (x_ri (fun v4 M4 h4 => ?_))
      obtain ⟨hv4, l4, hX4⟩ := h4
      refine x_top (y := 1) hv4 ?_
      refine x_if_eq X (pc := 192) (tgt := 215) dL_isSeason_192 (by decide) (fun z => absurd z (by decide)) (fun _ => ?_)
      refine x_aload_n X (pc := 195) 6 dL_isSeason_195 rfl rfl ?_
      refine x_callV X ⟨Nat.le_of_ble_eq_true rfl, (show _ ≤ 10 by omega)⟩ (pc := 196) (rest := []) kv_X10_undo (q_undo hX4) zk_17_0 (zc_17_0 E _) rfl rfl gw_665 ⟨⟨rfl, rfl⟩, Nat.le_of_ble_eq_true rfl, Nat.le_of_ble_eq_true rfl⟩ rfl rfl (Nat.le_of_ble_eq_true rfl) dL_isSeason_196 (x_ri (fun v5 M5 h5 => ?_))
      obtain ⟨hv5, hX5⟩ := h5
      have eu : aUndo (sL (nS S (nI (mny S.1 nc nm nc), seaG S.1, S.2.2.1)) l4).1 (sL (nS S (nI (mny S.1 nc nm nc), seaG S.1, S.2.2.1)) l4).2.1 = _ := aUndo_nS (S := S) (o := (nI (mny S.1 nc nm nc), seaG S.1, S.2.2.1)) (nI_pos (by omega))
      rw [eu] at hv5 hX5
      have ht : (S.2.1.take 7).length ≤ 7 := by rw [List.length_take]; omega
      refine x_top (y := (nI ((S.2.1.take 7).length))) hv5 ?_
      refine x_if_lt X (pc := 199) (tgt := 215) dL_isSeason_199 (by decide) (fun z => absurd z (nI_pos (by omega))) (fun _ => ?_)
      refine x_aload_n X (pc := 202) 6 dL_isSeason_202 rfl rfl ?_
      refine x_callX X (pc := 203) (rest := []) ks_L_digest (c_L_digest _ _ _ hX5 nc nm _ hI) gw_350 x_nopr (fun _ _ _ _ _ _ => trivial) rfl rfl (Nat.le_of_ble_eq_true rfl) (show _ ≤ 10 by omega) ⟨Nat.le_of_ble_eq_true rfl, Nat.le_of_ble_eq_true rfl⟩ rfl rfl (Nat.le_of_ble_eq_true rfl) dL_isSeason_203 (x_pl ?_)
      refine x_lload_n X (pc := 206) 5 dL_isSeason_206 rfl rfl ?_
      refine x_lcmp_eq X (pc := 207) rfl dL_isSeason_207 ?_
      refine x_if_ne X (pc := 208) (tgt := 215) dL_isSeason_208 (by decide) (fun z => absurd (by decide) z) (fun _ => ?_)
      refine x_iconst X (pc := 211) (v := 1) dL_isSeason_211 (by decide) ?_
      refine x_goto X (pc := 212) (tgt := 216) dL_isSeason_212 (by decide) ?_
      exact x_zret X Y (by decide) (Nat.le_of_ble_eq_true rfl) (by omega) dL_isSeason_216 ⟨_, rfl, rfl, _, hX5, rfl, fun _ h => List.mem_of_mem_take h, rfl, rfl⟩
    · refine x_aload_n X (pc := 154) 6 dL_isSeason_154 rfl rfl ?_
      refine x_iload X (pc := 155) 0 dL_isSeason_155 rfl ?_
      refine x_bipush X (pc := 157) (v := 7) dL_isSeason_157 (by decide) ?_
      refine x_callV X ⟨Nat.le_of_ble_eq_true rfl, (show _ ≤ 10 by omega)⟩ (pc := 159) (rest := []) kv_X10_chairOf (q_ch hX3 hI1 (c := c) (by omega) (v := orN ((seaG S.1) 6 c)) rfl) zk_17_0 (zc_17_0 E _) rfl rfl gw_385 ⟨⟨rfl, rfl⟩, Nat.le_of_ble_eq_true rfl, Nat.le_of_ble_eq_true rfl⟩ rfl rfl (Nat.le_of_ble_eq_true rfl) dL_isSeason_159 (x_pi ?_)
      refine x_aload X (pc := 162) 3 dL_isSeason_162 rfl ?_
      refine x_iload X (pc := 164) 0 dL_isSeason_164 rfl ?_
      refine x_iald X (j := c) rfl (by omega) (by omega) dL_isSeason_166 ?_
      refine x_top (y := (orN (matS S.1 nc nm c))) (tldF_at (by omega)) ?_
      refine x_icmp_ne X (pc := 167) (tgt := 174) dL_isSeason_167 (by decide) (fun z => absurd (by rw [seaG_6 hI (by omega)]) z) (fun _ => ?_)
      refine x_iconst X (pc := 170) (v := 1) dL_isSeason_170 (by decide) ?_
      refine x_goto X (pc := 171) (tgt := 175) dL_isSeason_171 (by decide) ?_
      refine x_istore X (pc := 175) (lv1 := [(6, .int 1), (7, .int (nI c)), (5, .int (nI (mny S.1 nc nm nc))), (4, .ref (q)), (3, .int (nI nc)), (1, .long (dig S.1 nc nm)), (0, .ref (za E 17 0))]) dL_isSeason_175 (by decide) rfl ?_
      refine x_iinc X (pc := 177) (v := (nI (c + 1))) (lv1 := [(7, .int (nI (c + 1))), (6, .int 1), (5, .int (nI (mny S.1 nc nm nc))), (4, .ref (q)), (3, .int (nI nc)), (1, .long (dig S.1 nc nm)), (0, .ref (za E 17 0))]) 1 dL_isSeason_177 rfl (nI_1 _) (by decide) rfl ?_
      refine x_goto X (pc := 180) (tgt := 143) dL_isSeason_180 (by decide) ?_
      refine x_sub (lv' := [(7, .int (nI (c + 1))), (6, .int 1), (5, .int (nI (mny S.1 nc nm nc))), (4, .ref (q)), (3, .int (nI nc)), (1, .long (dig S.1 nc nm)), (0, .ref (za E 17 0))]) [0, 1, 2, 3, 4, 5, 6] rfl ?_
      exact ih143 () (by omega) trivial
  · refine x_aload X (pc := 31) 3 dL_isSeason_31 rfl ?_
    refine x_iload X (pc := 33) 0 dL_isSeason_33 rfl ?_
    refine x_aload_n X (pc := 35) 6 dL_isSeason_35 rfl rfl ?_
    refine x_iload X (pc := 36) 0 dL_isSeason_36 rfl ?_
    refine x_callV X ⟨Nat.le_of_ble_eq_true rfl, (show _ ≤ 10 by omega)⟩ (pc := 38) (rest := [.int (nI c), .ref (q)]) kv_X10_would (q_would hX0 hI (c := c) (by omega)) zk_17_0 (zc_17_0 E _) rfl rfl gw_757 ⟨⟨rfl, rfl⟩, Nat.le_of_ble_eq_true rfl, Nat.le_of_ble_eq_true rfl⟩ rfl rfl (Nat.le_of_ble_eq_true rfl) dL_isSeason_38 (x_ri (fun v1 M1 h1 => ?_))
    have hX1 : XS M1 S := hX0.fw h1.2
    refine x_top (y := (orN (matS S.1 nc nm c))) h1.1 ?_
    refine x_iast X (j := c) rfl (by omega) (by omega) dL_isSeason_41 ?_
    refine x_xs (xs' := [(q, (.inl (zcI E, nc, .inl (tldF S.1 nc nm (c + 1))) : va_E))]) (by rw [tldF_s]) ?_
    refine x_iload X (pc := 42) 1 dL_isSeason_42 rfl ?_
    refine x_aload_n X (pc := 44) 6 dL_isSeason_44 rfl rfl ?_
    refine x_iload X (pc := 45) 0 dL_isSeason_45 rfl ?_
    refine x_callV X ⟨Nat.le_of_ble_eq_true rfl, (show _ ≤ 10 by omega)⟩ (pc := 47) (rest := [.int 1]) kv_X10_wouldAgain (q_wouldA hX1 hI (c := c) (by omega)) zk_17_0 (zc_17_0 E _) rfl rfl gw_761 ⟨⟨rfl, rfl⟩, Nat.le_of_ble_eq_true rfl, Nat.le_of_ble_eq_true rfl⟩ rfl rfl (Nat.le_of_ble_eq_true rfl) dL_isSeason_47 (x_ri (fun v2 M2 h2 => ?_))
    have hX2 : XS M2 S := hX1.fw h2.2
    refine x_top (y := (orN (matS S.1 nc nm c))) h2.1 ?_
    refine x_aload X (pc := 50) 3 dL_isSeason_50 rfl ?_
    refine x_iload X (pc := 52) 0 dL_isSeason_52 rfl ?_
    refine x_iald X (j := c) rfl (by omega) (by omega) dL_isSeason_54 ?_
    refine x_top (y := (orN (matS S.1 nc nm c))) (tldF_at (by omega)) ?_
    refine x_icmp_ne X (pc := 55) (tgt := 62) dL_isSeason_55 (by decide) (fun z => absurd rfl z) (fun _ => ?_)
    refine x_iconst X (pc := 58) (v := 1) dL_isSeason_58 (by decide) ?_
    refine x_goto X (pc := 59) (tgt := 63) dL_isSeason_59 (by decide) ?_
    refine x_iand X (pc := 63) dL_isSeason_63 ?_
    refine x_top (y := 1) (by decide) ?_
    refine x_istore X (pc := 64) (lv1 := [(6, .int 1), (7, .int (nI c)), (5, .int (nI (mny S.1 nc nm c))), (4, .ref (q)), (3, .int (nI nc)), (1, .long (dig S.1 nc nm)), (0, .ref (za E 17 0))]) dL_isSeason_64 (by decide) rfl ?_
    refine x_iload X (pc := 66) 2 dL_isSeason_66 rfl ?_
    refine x_aload X (pc := 68) 3 dL_isSeason_68 rfl ?_
    refine x_iload X (pc := 70) 1 dL_isSeason_70 rfl ?_
    refine x_iald X (j := c) rfl (by omega) (by omega) dL_isSeason_72 ?_
    refine x_top (y := (orN (matS S.1 nc nm c))) (tldF_at (by omega)) ?_
    rcases matS_nq hF (show c < nc by omega) with em | ⟨m0, hm0, em⟩
    · refine x_top (y := ((-1015))) (by rw [em]; rfl) ?_
      refine x_sipush X (pc := 73) (v := (-1015)) dL_isSeason_73 (by decide) ?_
      refine x_icmp_ne X (pc := 76) (tgt := 83) dL_isSeason_76 (by decide) (fun z => absurd rfl z) (fun _ => ?_)
      refine x_iconst X (pc := 79) (v := 0) dL_isSeason_79 (by decide) ?_
      refine x_goto X (pc := 80) (tgt := 84) dL_isSeason_80 (by decide) ?_
      refine x_iadd X (pc := 84) dL_isSeason_84 ?_
      refine x_top (y := (nI (mny S.1 nc nm (c + 1)))) (mny_0 em) ?_
      refine x_istore X (pc := 85) (lv1 := [(5, .int (nI (mny S.1 nc nm (c + 1)))), (6, .int 1), (7, .int (nI c)), (4, .ref (q)), (3, .int (nI nc)), (1, .long (dig S.1 nc nm)), (0, .ref (za E 17 0))]) dL_isSeason_85 (by decide) rfl ?_
      refine x_iinc X (pc := 87) (v := (nI (c + 1))) (lv1 := [(7, .int (nI (c + 1))), (5, .int (nI (mny S.1 nc nm (c + 1)))), (6, .int 1), (4, .ref (q)), (3, .int (nI nc)), (1, .long (dig S.1 nc nm)), (0, .ref (za E 17 0))]) 2 dL_isSeason_87 rfl (nI_1 _) (by decide) rfl ?_
      refine x_goto X (pc := 90) (tgt := 25) dL_isSeason_90 (by decide) ?_
      refine x_sub (lv' := [(7, .int (nI (c + 1))), (6, .int 1), (5, .int (nI (mny S.1 nc nm (c + 1)))), (4, .ref (q)), (3, .int (nI nc)), (1, .long (dig S.1 nc nm)), (0, .ref (za E 17 0))]) [0, 2, 1, 3, 4, 5, 6] rfl ?_
      exact ih25 M2 (by omega) hX2
    · refine x_top (y := (nI m0)) (by rw [em]; exact orN_nI (by omega)) ?_
      refine x_sipush X (pc := 73) (v := (-1015)) dL_isSeason_73 (by decide) ?_
      refine x_icmp_ne X (pc := 76) (tgt := 83) dL_isSeason_76 (by decide) (fun _ => ?_) (fun z => absurd z (nI_ne_15 (by omega)))
      refine x_iconst X (pc := 83) (v := 1) dL_isSeason_83 (by decide) ?_
      refine x_iadd X (pc := 84) dL_isSeason_84 ?_
      refine x_top (y := (nI (mny S.1 nc nm (c + 1)))) (mny_1 (by rw [em]; exact nI_ne_m1 (by omega))) ?_
      refine x_istore X (pc := 85) (lv1 := [(5, .int (nI (mny S.1 nc nm (c + 1)))), (6, .int 1), (7, .int (nI c)), (4, .ref (q)), (3, .int (nI nc)), (1, .long (dig S.1 nc nm)), (0, .ref (za E 17 0))]) dL_isSeason_85 (by decide) rfl ?_
      refine x_iinc X (pc := 87) (v := (nI (c + 1))) (lv1 := [(7, .int (nI (c + 1))), (5, .int (nI (mny S.1 nc nm (c + 1)))), (6, .int 1), (4, .ref (q)), (3, .int (nI nc)), (1, .long (dig S.1 nc nm)), (0, .ref (za E 17 0))]) 2 dL_isSeason_87 rfl (nI_1 _) (by decide) rfl ?_
      refine x_goto X (pc := 90) (tgt := 25) dL_isSeason_90 (by decide) ?_
      refine x_sub (lv' := [(7, .int (nI (c + 1))), (6, .int 1), (5, .int (nI (mny S.1 nc nm (c + 1)))), (4, .ref (q)), (3, .int (nI nc)), (1, .long (dig S.1 nc nm)), (0, .ref (za E 17 0))]) [0, 2, 1, 3, 4, 5, 6] rfl ?_
      exact ih25 M2 (by omega) hX2
