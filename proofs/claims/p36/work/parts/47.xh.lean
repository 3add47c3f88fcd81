/-! ===== the law itself ===== -/
theorem x_loopK {g : ZG} {E : ZE} {kc kn : Nat} {xs : va_W} (N : Nat) (pc : Nat) {σ : Type} (J : Nat → σ → Prop) (F : Nat → σ → Mem × List (Nat × Value)) (hs : ∀ (i : Nat) (s : σ), i ≤ N → J i s → (∀ s' : σ, i < N → J (i + 1) s' → ZX g E (kc + (i + 1)) (kn + 10 * (i + 1)) xs (F (i + 1) s').1 (F (i + 1) s').2 pc []) → ZX g E (kc + i) (kn + 10 * i) xs (F i s).1 (F i s).2 pc []) : ∀ (i : Nat) (s : σ), i ≤ N → J i s → ZX g E (kc + i) (kn + 10 * i) xs (F i s).1 (F i s).2 pc [] := by
  intro i s hi hJ
  obtain ⟨d, hd⟩ : ∃ d, d = N - i := ⟨_, rfl⟩
  induction d generalizing i s with
  | zero => exact hs i s hi hJ (fun s' h => absurd h (by omega))
  | succ d ih => exact hs i s hi hJ (fun s' h hJ' => ih (i + 1) s' (by omega) hJ' (by omega))
theorem rS_nil {S : LSt} (h0 : S.2.2.2.1 = []) : (oRun S.1 S.2.2.1 S.2.2.2.1).1 = -2000 ∧ rS S = S := by
  obtain ⟨g, hs, rs, t, l, sv⟩ := S
  have h0 : t = [] := h0
  subst h0
  refine ⟨by show (oRun g rs []).1 = -2000; rw [oRun_nil], ?_⟩
  show ((oRun g rs []).2.1, hsN g hs (oRun g rs []).1, (oRun g rs []).2.2, [], l, sv) = _
  rw [oRun_nil]
  show (g, hsN g hs (-2000), rs, [], l, sv) = _
  unfold hsN
  rw [if_pos (by decide)]
/-- behind the snapshot -/
def LJ (S : LSt) (g0 : LG) (n : Nat) : Prop := LQ S n ∧ S.2.2.2.1 = [] ∧ S.2.2.2.2.2 = some g0
theorem LJ.sm {S S1 : LSt} {g0 : LG} {n : Nat} (h : LJ S g0 n) (e : Sm S S1) : LJ S1 g0 n := ⟨h.1.sm e, e.2.2.1.trans h.2.1, e.2.2.2.trans h.2.2⟩
theorem LJ.chg {S : LSt} {g0 : LG} {n : Nat} {o : Chg} (h : LJ S g0 n) (hk : Kq n S.1 o) (hn : n < 100000) : LJ (nS S o) g0 (n + 1) := ⟨h.1.chg hk hn, h.2.1, h.2.2⟩
theorem run_ref {S : LSt} {k : Nat} (h0 : S.2.2.2.1 = []) (r1 : (oRun S.1 S.2.2.1 (txt k)).1 = -1014) (r2 : (oRun S.1 S.2.2.1 (txt k)).2.1 = S.1) : Sm S (rS (sT S (txt k))) := by
  refine ⟨r2, fun x hx => ?_, h0.symm, rfl⟩
  have hx : x ∈ hsN S.1 S.2.1 (oRun S.1 S.2.2.1 (txt k)).1 := hx
  unfold hsN at hx
  rw [r1, if_pos (by decide)] at hx
  exact hx
theorem run_undo {S : LSt} {k j : Nat} {l : List Int32} (hj : j ≤ 100) (r1 : (oRun S.1 S.2.2.1 (txt k)).1 = nI j) : aUndo (sL (rS (sT S (txt k))) l).1 (sL (rS (sT S (txt k))) l).2.1 = (nI (S.2.1.take 7).length, S.1, S.2.1.take 7) := by
  show aUndo (oRun S.1 S.2.2.1 (txt k)).2.1 (hsN S.1 S.2.1 (oRun S.1 S.2.2.1 (txt k)).1) = _
  unfold hsN
  rw [r1, if_neg (nI_pos (by omega))]
  rfl
theorem run_sm {S : LSt} {k : Nat} {l : List Int32} (h0 : S.2.2.2.1 = []) : Sm S (sU (sL (rS (sT S (txt k))) l) (S.1, S.2.1.take 7)) := ⟨rfl, fun _ h => List.mem_of_mem_take h, h0.symm, rfl⟩
theorem save_lj {S : LSt} {n : Nat} (h : LQ S n) (h0 : S.2.2.2.1 = []) : LJ (sV S (some S.1)) S.1 n := by
  refine ⟨fun x hx => h x ?_, h0, rfl⟩
  rcases hx with e | e | e
  · exact Or.inl e
  · exact Or.inr (Or.inl e)
  · exact Or.inl (Option.some.inj e).symm
theorem rest_lj {S : LSt} {g0 : LG} {n : Nat} (h : LJ S g0 n) : ∃ a b, Inv g0 a b n ∧ SF g0 a b := h.1 g0 (Or.inr (Or.inr h.2.2))
set_option maxRecDepth 100000 in
set_option maxHeartbeats 4000000 in
theorem law_a {gg : ZG} {E : ZE} {kc kn b L : Nat} {ss : Nat → Int32} (X : Cx gg E RL cL_law 9 room_1) (V : va_X b L ss (gs gg) (gs gg).heap ∧ b < (gs gg).heap.size ∧ ¬ zA E b) (hL : L ≤ 260) (hk : kc + 10 ≤ room_1.cells ∧ kn + 100 ≤ room_1.slots) {M : Mem} {S : LSt} (hX : XS M S) (hq : LQ S 0) (h0 : S.2.2.2.1 = []) (nxt : ∀ (M1 : Mem) (S1 : LSt) (A : Nat), A ≤ 36 → XS M1 S1 → LQ S1 14 → S1.2.2.2.1 = [] → ZX gg E kc kn [] M1 [(1, .ref (za E 17 0)), (0, .ref b)] 91 [.int (nI A)]) : ZX gg E kc kn [] M [(1, .ref (za E 17 0)), (0, .ref b)] 8 [] := by
  refine x_iconst X (pc := 8) (v := 0) dL_law_8 (by decide) ?_
  refine x_istore_n X (pc := 9) (lv1 := [(2, .int 0), (1, .ref (za E 17 0)), (0, .ref (b))]) dL_law_9 rfl (by decide) rfl ?_
  refine x_sub (lv' := [(2, .int 0), (1, .ref (za E 17 0)), (0, .ref (b))]) [0, 1, 2] rfl ?_
  refine x_eq (lv' := [(2, .int (nI 0)), (1, .ref (za E 17 0)), (0, .ref (b))]) rfl rfl ?_
  refine x_loop 4 10 (σ := Mem × LSt) (fun k s => XS s.1 s.2 ∧ LQ s.2 (3 * k) ∧ s.2.2.2.2.1 = []) (fun k s => (s.1, [(2, .int (nI k)), (1, .ref (za E 17 0)), (0, .ref (b))])) ?_ 0 (M, S) (Nat.zero_le _) ⟨hX, hq, h0⟩
  rintro k ⟨Ma, Sa⟩ hk10 ⟨hXa, hqa, ta⟩ ih10
  replace hXa : XS Ma Sa := hXa
  replace hqa : LQ Sa (3 * k) := hqa
  replace ta : Sa.2.2.2.1 = [] := ta
  show ZX gg E _ _ _ Ma [(2, .int (nI k)), (1, .ref (za E 17 0)), (0, .ref (b))] 10 []
  refine x_iload_n X (pc := 10) 0 dL_law_10 rfl rfl ?_
  refine x_iconst X (pc := 11) (v := 4) dL_law_11 (by decide) ?_
  refine x_nicmp_ge X (pc := 12) (a := k) (b := 4) (tgt := 65) dL_law_12 (by decide) (by omega) (by omega) (fun c12 => ?_) (fun c12 => ?_)
  · obtain rfl : k = 4 := by omega
    refine x_aload_n X (pc := 65) 1 dL_law_65 rfl rfl ?_
    obtain ⟨nc2, nm2, hI2, hf2⟩ := hqa.now
    refine x_callV X ⟨by omega, by omega⟩ (pc := 66) (rest := []) kv_X10_season (q_season hXa hI2) zk_17_0 (zc_17_0 E _) rfl rfl gw_233 ⟨⟨rfl, rfl⟩, Nat.le_of_ble_eq_true rfl, Nat.le_of_ble_eq_true rfl⟩ rfl rfl (Nat.le_of_ble_eq_true rfl) dL_law_66 (x_ri (fun v2 M2 h2 => ?_))
    obtain ⟨-, hX2⟩ := h2
    have hq2 := hqa.chg (oSeason_kq (rs := Sa.2.2.1)  hI2 (by omega)) (by omega)
    obtain ⟨S2, eS2⟩ : ∃ z, z = (nS Sa (oSeason Sa.1 Sa.2.2.1)) := ⟨_, rfl⟩
    rw [← eS2] at hX2 hq2
    have t2 : S2.2.2.2.1 = [] := by rw [eS2]; exact ta
    clear eS2
    refine x_pop X (pc := 69) dL_law_69 rfl ?_
    refine x_aload_n X (pc := 70) 1 dL_law_70 rfl rfl ?_
    refine x_iconst X (pc := 71) (v := 0) dL_law_71 (by decide) ?_
    refine x_iconst X (pc := 72) (v := 3) dL_law_72 (by decide) ?_
    obtain ⟨nc3, nm3, hI3, hf3⟩ := hq2.now
    refine x_callV X ⟨by omega, by omega⟩ (pc := 73) (rest := []) kv_X10_bid (q_bid hX2 hI3 0 3) zk_17_0 (zc_17_0 E _) rfl rfl gw_333 ⟨⟨rfl, rfl⟩, Nat.le_of_ble_eq_true rfl, Nat.le_of_ble_eq_true rfl⟩ rfl rfl (Nat.le_of_ble_eq_true rfl) dL_law_73 (x_ri (fun v3 M3 h3 => ?_))
    obtain ⟨-, hX3⟩ := h3
    have hq3 := hq2.chg (oBid_kq (rs := S2.2.2.1) (y := 0) (v := 3) hI3 hf3 (by omega)) (by omega)
    obtain ⟨S3, eS3⟩ : ∃ z, z = (nS S2 (oBid S2.1 S2.2.2.1 0 3)) := ⟨_, rfl⟩
    rw [← eS3] at hX3 hq3
    have t3 : S3.2.2.2.1 = [] := by rw [eS3]; exact t2
    clear eS3
    refine x_pop X (pc := 76) dL_law_76 rfl ?_
    refine x_aload_n X (pc := 77) 2 dL_law_77 rfl rfl ?_
    refine x_slen X (pc := 78) (L := L) V dL_law_78 ?_
    refine x_bipush X (pc := 79) (v := 36) dL_law_79 (by decide) ?_
    refine x_eq (st' := [.int 36, .int (nI L)]) rfl rfl ?_
    refine x_nicmp_ge X (pc := 81) (a := L) (b := 36) (tgt := 89) dL_law_81 (by decide) (by omega) (by omega) (fun c81 => ?_) (fun c81 => ?_)
    · refine x_bipush X (pc := 89) (v := 36) dL_law_89 (by decide) ?_
      refine x_sub (lv' := [(1, .ref (za E 17 0)), (0, .ref (b))]) [1, 2] rfl ?_
      exact nxt M3 S3 36 (by omega) hX3 (hq3.up (by omega) (by omega)) t3
    · refine x_aload_n X (pc := 84) 2 dL_law_84 rfl rfl ?_
      refine x_slen X (pc := 85) (L := L) V dL_law_85 ?_
      refine x_goto X (pc := 86) (tgt := 91) dL_law_86 (by decide) ?_
      refine x_sub (lv' := [(1, .ref (za E 17 0)), (0, .ref (b))]) [1, 2] rfl ?_
      exact nxt M3 S3 L (by omega) hX3 (hq3.up (by omega) (by omega)) t3
  · refine x_aload_n X (pc := 15) 1 dL_law_15 rfl rfl ?_
    refine x_iload_n X (pc := 16) 0 dL_law_16 rfl rfl ?_
    refine x_iconst X (pc := 17) (v := 3) dL_law_17 (by decide) ?_
    refine x_irem X (pc := 18) dL_law_18 (by decide) ?_
    refine x_iconst X (pc := 19) (v := 3) dL_law_19 (by decide) ?_
    refine x_iload_n X (pc := 20) 0 dL_law_20 rfl rfl ?_
    refine x_iadd X (pc := 21) dL_law_21 ?_
    obtain ⟨nc5, nm5, hI5, hf5⟩ := hqa.now
    refine x_callV X ⟨by omega, by omega⟩ (pc := 22) (rest := []) kv_X10_chair (q_chair hXa hI5 ((nI k) - (nI k) / 3 * 3) (3 + (nI k))) zk_17_0 (zc_17_0 E _) rfl rfl gw_132 ⟨⟨rfl, rfl⟩, Nat.le_of_ble_eq_true rfl, Nat.le_of_ble_eq_true rfl⟩ rfl rfl (Nat.le_of_ble_eq_true rfl) dL_law_22 (x_ri (fun v5 M5 h5 => ?_))
    obtain ⟨-, hX5⟩ := h5
    have hq5 := hqa.chg (oBringC_kq (rs := Sa.2.2.1) (s := ((nI k) - (nI k) / 3 * 3)) (d := (3 + (nI k))) hI5 hf5 (by omega)) (by omega)
    obtain ⟨S5, eS5⟩ : ∃ z, z = (nS Sa (oBringC Sa.1 Sa.2.2.1 ((nI k) - (nI k) / 3 * 3) (3 + (nI k)))) := ⟨_, rfl⟩
    rw [← eS5] at hX5 hq5
    have t5 : S5.2.2.2.1 = [] := by rw [eS5]; exact ta
    clear eS5
    refine x_pop X (pc := 25) dL_law_25 rfl ?_
    refine x_aload_n X (pc := 26) 1 dL_law_26 rfl rfl ?_
    refine x_iload_n X (pc := 27) 0 dL_law_27 rfl rfl ?_
    refine x_iconst X (pc := 28) (v := 2) dL_law_28 (by decide) ?_
    refine x_irem X (pc := 29) dL_law_29 (by decide) ?_
    refine x_iconst X (pc := 30) (v := 2) dL_law_30 (by decide) ?_
    refine x_iconst X (pc := 31) (v := 2) dL_law_31 (by decide) ?_
    refine x_iload_n X (pc := 32) 0 dL_law_32 rfl rfl ?_
    refine x_imul X (pc := 33) dL_law_33 ?_
    refine x_iadd X (pc := 34) dL_law_34 ?_
    refine x_iload_n X (pc := 35) 0 dL_law_35 rfl rfl ?_
    refine x_iconst X (pc := 36) (v := 3) dL_law_36 (by decide) ?_
    refine x_nicmp_ne X (pc := 37) (a := k) (b := 3) (tgt := 44) dL_law_37 (by decide) (by omega) (by omega) (fun c37 => ?_) (fun c37 => ?_)
    · refine x_iconst X (pc := 44) (v := 0) dL_law_44 (by decide) ?_
      obtain ⟨nc7, nm7, hI7, hf7⟩ := hq5.now
      refine x_callV X ⟨by omega, by omega⟩ (pc := 45) (rest := []) kv_X10_musician (q_musician hX5 hI7 ((nI k) - (nI k) / 2 * 2) (2 + (2 * (nI k))) 0) zk_17_0 (zc_17_0 E _) rfl rfl gw_218 ⟨⟨rfl, rfl⟩, Nat.le_of_ble_eq_true rfl, Nat.le_of_ble_eq_true rfl⟩ rfl rfl (Nat.le_of_ble_eq_true rfl) dL_law_45 (x_ri (fun v7 M7 h7 => ?_))
      obtain ⟨-, hX7⟩ := h7
      have hq7 := hq5.chg (oBringM_kq (rs := S5.2.2.1) (s := ((nI k) - (nI k) / 2 * 2)) (k := (2 + (2 * (nI k)))) (d := 0) hI7 hf7 (by omega)) (by omega)
      obtain ⟨S7, eS7⟩ : ∃ z, z = (nS S5 (oBringM S5.1 S5.2.2.1 ((nI k) - (nI k) / 2 * 2) (2 + (2 * (nI k))) 0)) := ⟨_, rfl⟩
      rw [← eS7] at hX7 hq7
      have t7 : S7.2.2.2.1 = [] := by rw [eS7]; exact t5
      clear eS7
      refine x_pop X (pc := 48) dL_law_48 rfl ?_
      refine x_aload_n X (pc := 49) 1 dL_law_49 rfl rfl ?_
      refine x_iconst X (pc := 50) (v := 2) dL_law_50 (by decide) ?_
      refine x_iconst X (pc := 51) (v := 4) dL_law_51 (by decide) ?_
      refine x_iload_n X (pc := 52) 0 dL_law_52 rfl rfl ?_
      refine x_iadd X (pc := 53) dL_law_53 ?_
      refine x_iconst X (pc := 54) (v := 0) dL_law_54 (by decide) ?_
      obtain ⟨nc8, nm8, hI8, hf8⟩ := hq7.now
      refine x_callV X ⟨by omega, by omega⟩ (pc := 55) (rest := []) kv_X10_musician (q_musician hX7 hI8 2 (4 + (nI k)) 0) zk_17_0 (zc_17_0 E _) rfl rfl gw_218 ⟨⟨rfl, rfl⟩, Nat.le_of_ble_eq_true rfl, Nat.le_of_ble_eq_true rfl⟩ rfl rfl (Nat.le_of_ble_eq_true rfl) dL_law_55 (x_ri (fun v8 M8 h8 => ?_))
      obtain ⟨-, hX8⟩ := h8
      have hq8 := hq7.chg (oBringM_kq (rs := S7.2.2.1) (s := 2) (k := (4 + (nI k))) (d := 0) hI8 hf8 (by omega)) (by omega)
      obtain ⟨S8, eS8⟩ : ∃ z, z = (nS S7 (oBringM S7.1 S7.2.2.1 2 (4 + (nI k)) 0)) := ⟨_, rfl⟩
      rw [← eS8] at hX8 hq8
      have t8 : S8.2.2.2.1 = [] := by rw [eS8]; exact t7
      clear eS8
      refine x_pop X (pc := 58) dL_law_58 rfl ?_
      refine x_iinc X (pc := 59) (v := (nI (k + 1))) (lv1 := [(2, .int (nI (k + 1))), (1, .ref (za E 17 0)), (0, .ref (b))]) 0 dL_law_59 rfl (nI_1 _) (by decide) rfl ?_
      refine x_goto X (pc := 62) (tgt := 10) dL_law_62 (by decide) ?_
      refine x_sub (lv' := [(2, .int (nI (k + 1))), (1, .ref (za E 17 0)), (0, .ref (b))]) [0, 1, 2] rfl ?_
      exact ih10 (M8, S8) (by omega) ⟨hX8, hq8.up (by omega) (by omega), t8⟩
    · refine x_iconst X (pc := 40) (v := 2) dL_law_40 (by decide) ?_
      refine x_goto X (pc := 41) (tgt := 45) dL_law_41 (by decide) ?_
      obtain ⟨nc9, nm9, hI9, hf9⟩ := hq5.now
      refine x_callV X ⟨by omega, by omega⟩ (pc := 45) (rest := []) kv_X10_musician (q_musician hX5 hI9 ((nI k) - (nI k) / 2 * 2) (2 + (2 * (nI k))) 2) zk_17_0 (zc_17_0 E _) rfl rfl gw_218 ⟨⟨rfl, rfl⟩, Nat.le_of_ble_eq_true rfl, Nat.le_of_ble_eq_true rfl⟩ rfl rfl (Nat.le_of_ble_eq_true rfl) dL_law_45 (x_ri (fun v9 M9 h9 => ?_))
      obtain ⟨-, hX9⟩ := h9
      have hq9 := hq5.chg (oBringM_kq (rs := S5.2.2.1) (s := ((nI k) - (nI k) / 2 * 2)) (k := (2 + (2 * (nI k)))) (d := 2) hI9 hf9 (by omega)) (by omega)
      obtain ⟨S9, eS9⟩ : ∃ z, z = (nS S5 (oBringM S5.1 S5.2.2.1 ((nI k) - (nI k) / 2 * 2) (2 + (2 * (nI k))) 2)) := ⟨_, rfl⟩
      rw [← eS9] at hX9 hq9
      have t9 : S9.2.2.2.1 = [] := by rw [eS9]; exact t5
      clear eS9
      refine x_pop X (pc := 48) dL_law_48 rfl ?_
      refine x_aload_n X (pc := 49) 1 dL_law_49 rfl rfl ?_
      refine x_iconst X (pc := 50) (v := 2) dL_law_50 (by decide) ?_
      refine x_iconst X (pc := 51) (v := 4) dL_law_51 (by decide) ?_
      refine x_iload_n X (pc := 52) 0 dL_law_52 rfl rfl ?_
      refine x_iadd X (pc := 53) dL_law_53 ?_
      refine x_iconst X (pc := 54) (v := 0) dL_law_54 (by decide) ?_
      obtain ⟨nc10, nm10, hI10, hf10⟩ := hq9.now
      refine x_callV X ⟨by omega, by omega⟩ (pc := 55) (rest := []) kv_X10_musician (q_musician hX9 hI10 2 (4 + (nI k)) 0) zk_17_0 (zc_17_0 E _) rfl rfl gw_218 ⟨⟨rfl, rfl⟩, Nat.le_of_ble_eq_true rfl, Nat.le_of_ble_eq_true rfl⟩ rfl rfl (Nat.le_of_ble_eq_true rfl) dL_law_55 (x_ri (fun v10 M10 h10 => ?_))
      obtain ⟨-, hX10⟩ := h10
      have hq10 := hq9.chg (oBringM_kq (rs := S9.2.2.1) (s := 2) (k := (4 + (nI k))) (d := 0) hI10 hf10 (by omega)) (by omega)
      obtain ⟨S10, eS10⟩ : ∃ z, z = (nS S9 (oBringM S9.1 S9.2.2.1 2 (4 + (nI k)) 0)) := ⟨_, rfl⟩
      rw [← eS10] at hX10 hq10
      have t10 : S10.2.2.2.1 = [] := by rw [eS10]; exact t9
      clear eS10
      refine x_pop X (pc := 58) dL_law_58 rfl ?_
      refine x_iinc X (pc := 59) (v := (nI (k + 1))) (lv1 := [(2, .int (nI (k + 1))), (1, .ref (za E 17 0)), (0, .ref (b))]) 0 dL_law_59 rfl (nI_1 _) (by decide) rfl ?_
      refine x_goto X (pc := 62) (tgt := 10) dL_law_62 (by decide) ?_
      refine x_sub (lv' := [(2, .int (nI (k + 1))), (1, .ref (za E 17 0)), (0, .ref (b))]) [0, 1, 2] rfl ?_
      exact ih10 (M10, S10) (by omega) ⟨hX10, hq10.up (by omega) (by omega), t10⟩
set_option maxRecDepth 100000 in
set_option maxHeartbeats 4000000 in
theorem law_b {gg : ZG} {E : ZE} {kc kn b L : Nat} {ss : Nat → Int32} (X : Cx gg E RL cL_law 9 room_1) (V : va_X b L ss (gs gg) (gs gg).heap ∧ b < (gs gg).heap.size ∧ ¬ zA E b) (hL : L ≤ 260) (hk : kc + 10 ≤ room_1.cells ∧ kn + 100 ≤ room_1.slots) {M : Mem} {S : LSt} {A : Nat} (hA : A ≤ 36) (hX : XS M S) (hq : LQ S 14) (h0 : S.2.2.2.1 = []) (nxt : ∀ (M1 : Mem) (S1 : LSt), LQ S1 1200 → XS M1 S1 → S1.2.2.2.1 = [] → ∀ i : Nat, ZX gg E kc kn [] M1 [(3, .int (nI i)), (2, .int (nI A)), (1, .ref (za E 17 0)), (0, .ref b)] 158 []) : ZX gg E kc kn [] M [(1, .ref (za E 17 0)), (0, .ref b)] 91 [.int (nI A)] := by
  refine x_istore_n X (pc := 91) (lv1 := [(2, .int (nI A)), (1, .ref (za E 17 0)), (0, .ref (b))]) dL_law_91 rfl (by decide) rfl ?_
  refine x_iconst X (pc := 92) (v := 0) dL_law_92 (by decide) ?_
  refine x_istore_n X (pc := 93) (lv1 := [(3, .int 0), (2, .int (nI A)), (1, .ref (za E 17 0)), (0, .ref (b))]) dL_law_93 rfl (by decide) rfl ?_
  refine x_sub (lv' := [(3, .int 0), (2, .int (nI A)), (1, .ref (za E 17 0)), (0, .ref (b))]) [0, 1, 2, 3] rfl ?_
  refine x_eq (lv' := [(3, .int (nI 0)), (2, .int (nI A)), (1, .ref (za E 17 0)), (0, .ref (b))]) rfl rfl ?_
  refine x_loop A 94 (σ := Mem × LSt) (fun i s => XS s.1 s.2 ∧ LQ s.2 (14 + 31 * i) ∧ s.2.2.2.2.1 = []) (fun i s => (s.1, [(3, .int (nI i)), (2, .int (nI A)), (1, .ref (za E 17 0)), (0, .ref (b))])) ?_ 0 (M, S) (Nat.zero_le _) ⟨hX, hq, h0⟩
  rintro i ⟨Ma, Sa⟩ hi94 ⟨hXa, hqa, ta⟩ ih94
  replace hXa : XS Ma Sa := hXa
  replace hqa : LQ Sa (14 + 31 * i) := hqa
  replace ta : Sa.2.2.2.1 = [] := ta
  obtain ⟨nc, nm, hI, hf⟩ := hqa.now
  show ZX gg E _ _ _ Ma [(3, .int (nI i)), (2, .int (nI A)), (1, .ref (za E 17 0)), (0, .ref (b))] 94 []
  refine x_iload_n X (pc := 94) 0 dL_law_94 rfl rfl ?_
  refine x_iload_n X (pc := 95) 1 dL_law_95 rfl rfl ?_
  refine x_nicmp_ge X (pc := 96) (a := i) (b := A) (tgt := 158) dL_law_96 (by decide) (by omega) (by omega) (fun c96 => ?_) (fun c96 => ?_)
  · exact nxt Ma Sa (hqa.up (by omega) (by omega)) hXa ta _
  · refine x_aload_n X (pc := 99) 2 dL_law_99 rfl rfl ?_
    refine x_callX X (pc := 100) (rest := []) ks_L_digest (c_L_digest _ _ _ hXa nc nm _ hI) gw_350 x_nopr (fun _ _ _ _ _ _ => trivial) rfl rfl (show _ ≤ room_1.cells by omega) (show _ ≤ room_1.slots by omega) ⟨Nat.le_of_ble_eq_true rfl, Nat.le_of_ble_eq_true rfl⟩ rfl rfl (Nat.le_of_ble_eq_true rfl) dL_law_100 (x_pl ?_)
    refine x_lstore X (pc := 103) (lv1 := [(4, .long (dig Sa.1 nc nm)), (3, .int (nI i)), (2, .int (nI A)), (1, .ref (za E 17 0)), (0, .ref (b))]) dL_law_103 (by decide) rfl ?_
    refine x_aload_n X (pc := 105) 3 dL_law_105 rfl rfl ?_
    refine x_aload_n X (pc := 106) 4 dL_law_106 rfl rfl ?_
    refine x_iload_n X (pc := 107) 1 dL_law_107 rfl rfl ?_
    refine x_callX X (pc := 108) (rest := [.ref (za E 17 0)]) ks_L_cell (c_L_cell (cutX E []) _ b L ss i (by omega) hL) gw_413 (fun _ _ _ _ z => ⟨z.1.moved (Vm.Alike.refl _), z.2⟩) (fun U H locs hS hU hW => ⟨(va_X.moved hW.alike (V.1.kept (by rw [hU]; exact hS.2.1 b V.2.1 V.2.2))), by rw [hU]; exact Nat.lt_of_lt_of_le V.2.1 hS.1, fun z => V.2.2 z.1⟩) rfl rfl (show _ ≤ room_1.cells by omega) (show _ ≤ room_1.slots by omega) ⟨Nat.le_of_ble_eq_true rfl, Nat.le_of_ble_eq_true rfl⟩ rfl rfl (Nat.le_of_ble_eq_true rfl) dL_law_108 (x_ri (fun vc Mc hc => ?_))
    replace hc : Mc = Ma := hc
    subst hc
    refine x_callX X (pc := 111) (rest := []) ks_L_act (c_L_act _ _ Sa hXa (14 + 31 * i) hqa ta (by omega) vc) gw_417 x_nopr (fun _ _ _ _ _ _ => trivial) rfl rfl (show _ ≤ room_1.cells by omega) (show _ ≤ room_1.slots by omega) ⟨Nat.le_of_ble_eq_true rfl, Nat.le_of_ble_eq_true rfl⟩ rfl rfl (Nat.le_of_ble_eq_true rfl) dL_law_111 (x_ri (fun va M2 ha => ?_))
    obtain ⟨S2, hX2, hq2, t2, hE⟩ := ha
    refine x_istore X (pc := 114) (lv1 := [(6, .int va), (4, .long (dig Sa.1 nc nm)), (3, .int (nI i)), (2, .int (nI A)), (1, .ref (za E 17 0)), (0, .ref (b))]) dL_law_114 (by decide) rfl ?_
    refine x_iload X (pc := 116) 0 dL_law_116 rfl ?_
    refine x_sipush X (pc := 118) (v := (-1014)) dL_law_118 (by decide) ?_
    refine x_icmp_eq X (pc := 121) (tgt := 140) dL_law_121 (by decide) (fun c121 => ?_) (fun c121 => ?_)
    · have hE := hE (by rw [c121]; decide)
      refine x_aload_n X (pc := 140) 4 dL_law_140 rfl rfl ?_
      refine x_callX X (pc := 141) (rest := []) ks_L_digest (c_L_digest _ _ _ hX2 nc nm _ (by rw [hE]; exact hI)) gw_350 x_nopr (fun _ _ _ _ _ _ => trivial) rfl rfl (show _ ≤ room_1.cells by omega) (show _ ≤ room_1.slots by omega) ⟨Nat.le_of_ble_eq_true rfl, Nat.le_of_ble_eq_true rfl⟩ rfl rfl (Nat.le_of_ble_eq_true rfl) dL_law_141 (x_pl ?_)
      refine x_lload X (pc := 144) 1 dL_law_144 rfl ?_
      refine x_lcmp_eq X (pc := 146) (by rw [hE]) dL_law_146 ?_
      refine x_if_eq X (pc := 147) (tgt := 152) dL_law_147 (by decide) (fun _ => ?_) (fun z => absurd (by decide) z)
      refine x_iinc X (pc := 152) (v := (nI (i + 1))) (lv1 := [(3, .int (nI (i + 1))), (6, .int va), (4, .long (dig Sa.1 nc nm)), (2, .int (nI A)), (1, .ref (za E 17 0)), (0, .ref (b))]) 2 dL_law_152 rfl (nI_1 _) (by decide) rfl ?_
      refine x_goto X (pc := 155) (tgt := 94) dL_law_155 (by decide) ?_
      refine x_sub (lv' := [(3, .int (nI (i + 1))), (2, .int (nI A)), (1, .ref (za E 17 0)), (0, .ref (b))]) [0, 3, 4, 5] rfl ?_
      exact ih94 (M2, S2) (by omega) ⟨hX2, by rw [Nat.mul_succ]; exact hq2, t2⟩
    · refine x_iload X (pc := 124) 0 dL_law_124 rfl ?_
      refine x_sipush X (pc := 126) (v := (-1012)) dL_law_126 (by decide) ?_
      refine x_icmp_eq X (pc := 129) (tgt := 140) dL_law_129 (by decide) (fun c129 => ?_) (fun c129 => ?_)
      · have hE := hE (by rw [c129]; decide)
        refine x_aload_n X (pc := 140) 4 dL_law_140 rfl rfl ?_
        refine x_callX X (pc := 141) (rest := []) ks_L_digest (c_L_digest _ _ _ hX2 nc nm _ (by rw [hE]; exact hI)) gw_350 x_nopr (fun _ _ _ _ _ _ => trivial) rfl rfl (show _ ≤ room_1.cells by omega) (show _ ≤ room_1.slots by omega) ⟨Nat.le_of_ble_eq_true rfl, Nat.le_of_ble_eq_true rfl⟩ rfl rfl (Nat.le_of_ble_eq_true rfl) dL_law_141 (x_pl ?_)
        refine x_lload X (pc := 144) 1 dL_law_144 rfl ?_
        refine x_lcmp_eq X (pc := 146) (by rw [hE]) dL_law_146 ?_
        refine x_if_eq X (pc := 147) (tgt := 152) dL_law_147 (by decide) (fun _ => ?_) (fun z => absurd (by decide) z)
        refine x_iinc X (pc := 152) (v := (nI (i + 1))) (lv1 := [(3, .int (nI (i + 1))), (6, .int va), (4, .long (dig Sa.1 nc nm)), (2, .int (nI A)), (1, .ref (za E 17 0)), (0, .ref (b))]) 2 dL_law_152 rfl (nI_1 _) (by decide) rfl ?_
        refine x_goto X (pc := 155) (tgt := 94) dL_law_155 (by decide) ?_
        refine x_sub (lv' := [(3, .int (nI (i + 1))), (2, .int (nI A)), (1, .ref (za E 17 0)), (0, .ref (b))]) [0, 3, 4, 5] rfl ?_
        exact ih94 (M2, S2) (by omega) ⟨hX2, by rw [Nat.mul_succ]; exact hq2, t2⟩
      · refine x_iload X (pc := 132) 0 dL_law_132 rfl ?_
        refine x_sipush X (pc := 134) (v := (-1011)) dL_law_134 (by decide) ?_
        refine x_icmp_ne X (pc := 137) (tgt := 152) dL_law_137 (by decide) (fun c137 => ?_) (fun c137 => ?_)
        · refine x_iinc X (pc := 152) (v := (nI (i + 1))) (lv1 := [(3, .int (nI (i + 1))), (6, .int va), (4, .long (dig Sa.1 nc nm)), (2, .int (nI A)), (1, .ref (za E 17 0)), (0, .ref (b))]) 2 dL_law_152 rfl (nI_1 _) (by decide) rfl ?_
          refine x_goto X (pc := 155) (tgt := 94) dL_law_155 (by decide) ?_
          refine x_sub (lv' := [(3, .int (nI (i + 1))), (2, .int (nI A)), (1, .ref (za E 17 0)), (0, .ref (b))]) [0, 3, 4, 5] rfl ?_
          exact ih94 (M2, S2) (by omega) ⟨hX2, by rw [Nat.mul_succ]; exact hq2, t2⟩
        · have hE := hE (by rw [c137]; decide)
          refine x_aload_n X (pc := 140) 4 dL_law_140 rfl rfl ?_
          refine x_callX X (pc := 141) (rest := []) ks_L_digest (c_L_digest _ _ _ hX2 nc nm _ (by rw [hE]; exact hI)) gw_350 x_nopr (fun _ _ _ _ _ _ => trivial) rfl rfl (show _ ≤ room_1.cells by omega) (show _ ≤ room_1.slots by omega) ⟨Nat.le_of_ble_eq_true rfl, Nat.le_of_ble_eq_true rfl⟩ rfl rfl (Nat.le_of_ble_eq_true rfl) dL_law_141 (x_pl ?_)
          refine x_lload X (pc := 144) 1 dL_law_144 rfl ?_
          refine x_lcmp_eq X (pc := 146) (by rw [hE]) dL_law_146 ?_
          refine x_if_eq X (pc := 147) (tgt := 152) dL_law_147 (by decide) (fun _ => ?_) (fun z => absurd (by decide) z)
          refine x_iinc X (pc := 152) (v := (nI (i + 1))) (lv1 := [(3, .int (nI (i + 1))), (6, .int va), (4, .long (dig Sa.1 nc nm)), (2, .int (nI A)), (1, .ref (za E 17 0)), (0, .ref (b))]) 2 dL_law_152 rfl (nI_1 _) (by decide) rfl ?_
          refine x_goto X (pc := 155) (tgt := 94) dL_law_155 (by decide) ?_
          refine x_sub (lv' := [(3, .int (nI (i + 1))), (2, .int (nI A)), (1, .ref (za E 17 0)), (0, .ref (b))]) [0, 3, 4, 5] rfl ?_
          exact ih94 (M2, S2) (by omega) ⟨hX2, by rw [Nat.mul_succ]; exact hq2, t2⟩
set_option maxRecDepth 100000 in
set_option maxHeartbeats 4000000 in
theorem law_c {gg : ZG} {E : ZE} {kc kn b L : Nat} {ss : Nat → Int32} (X : Cx gg E RL cL_law 9 room_1) (V : va_X b L ss (gs gg) (gs gg).heap ∧ b < (gs gg).heap.size ∧ ¬ zA E b) (hL : L ≤ 260) (hk : kc + 10 ≤ room_1.cells ∧ kn + 100 ≤ room_1.slots) {M : Mem} {S : LSt} {A i : Nat} (hX : XS M S) (hq : LQ S 1200) (h0 : S.2.2.2.1 = []) (nxt : ∀ (M1 : Mem) (S2 : LSt) (g0 : LG) (nc nm : Nat), Inv g0 nc nm 1200 → XS M1 S2 → LJ S2 g0 1200 → ∀ k : Nat, ZX gg E (kc + 1) (kn + 10) [] M1 [(7, .int (nI k)), (6, .int (g0 14 7)), (4, .long (dig g0 nc nm)), (3, .int 1), (1, .ref (za E 17 0)), (0, .ref b)] 278 []) : ZX gg E kc kn [] M [(3, .int (nI i)), (2, .int (nI A)), (1, .ref (za E 17 0)), (0, .ref b)] 158 [] := by
  obtain ⟨nc, nm, hI, hf⟩ := hq.now
  refine x_aload_n X (pc := 158) 2 dL_law_158 rfl rfl ?_
  refine x_callX X (pc := 159) (rest := []) ks_L_isFit (c_L_isFit _ _ _ hX nc nm 1200 hI hf (by omega)) gw_674 x_nopr (fun _ _ _ _ _ _ => trivial) rfl rfl (show _ ≤ room_1.cells by omega) (show _ ≤ room_1.slots by omega) ⟨Nat.le_of_ble_eq_true rfl, Nat.le_of_ble_eq_true rfl⟩ rfl rfl (Nat.le_of_ble_eq_true rfl) dL_law_159 (x_ri (fun v1 M1 h1 => ?_))
  obtain ⟨hv1, S1, hX1, sm1⟩ := h1
  have hq1 := hq.sm sm1
  have t1 : S1.2.2.2.1 = [] := sm1.2.2.1.trans h0
  have hI1 : Inv S1.1 nc nm 1200 := by rw [sm1.1]; exact hI
  have hf1 : SF S1.1 nc nm := by rw [sm1.1]; exact hf
  refine x_top (y := 1) hv1 ?_
  refine x_istore_n X (pc := 162) (lv1 := [(3, .int 1), (2, .int (nI A)), (1, .ref (za E 17 0)), (0, .ref (b))]) dL_law_162 rfl (by decide) rfl ?_
  refine x_aload_n X (pc := 163) 2 dL_law_163 rfl rfl ?_
  refine x_callV X ⟨by omega, by omega⟩ (pc := 164) (rest := []) kv_X10_run (q_run hX1 hI1 (by omega)) zk_17_0 (zc_17_0 E _) rfl rfl gw_590 ⟨⟨rfl, rfl⟩, Nat.le_of_ble_eq_true rfl, Nat.le_of_ble_eq_true rfl⟩ rfl rfl (Nat.le_of_ble_eq_true rfl) dL_law_164 (x_ri (fun v2 M2 h2 => ?_))
  obtain ⟨-, hX2⟩ := h2
  rw [(rS_nil t1).2] at hX2
  refine x_pop X (pc := 167) dL_law_167 rfl ?_
  refine x_aload_n X (pc := 168) 2 dL_law_168 rfl rfl ?_
  refine x_callX X (pc := 169) (rest := []) ks_L_digest (c_L_digest _ _ _ hX2 nc nm _ hI1) gw_350 x_nopr (fun _ _ _ _ _ _ => trivial) rfl rfl (show _ ≤ room_1.cells by omega) (show _ ≤ room_1.slots by omega) ⟨Nat.le_of_ble_eq_true rfl, Nat.le_of_ble_eq_true rfl⟩ rfl rfl (Nat.le_of_ble_eq_true rfl) dL_law_169 (x_pl ?_)
  refine x_lstore X (pc := 172) (lv1 := [(4, .long (dig S1.1 nc nm)), (3, .int 1), (2, .int (nI A)), (1, .ref (za E 17 0)), (0, .ref (b))]) dL_law_172 (by decide) rfl ?_
  refine x_aload_n X (pc := 174) 3 dL_law_174 rfl rfl ?_
  refine x_callV X ⟨by omega, by omega⟩ (pc := 175) (rest := []) kv_X10_save (q_save hX2) zk_17_0 (zc_17_0 E _) rfl rfl gw_651 ⟨⟨rfl, rfl⟩, Nat.le_of_ble_eq_true rfl, Nat.le_of_ble_eq_true rfl⟩ rfl rfl (Nat.le_of_ble_eq_true rfl) dL_law_175 (x_ri (fun v3 M3 h3 => ?_))
  obtain ⟨hv3, hX3⟩ := h3
  have hj3 := save_lj hq1 t1
  refine x_top (y := (S1.1 14 7)) hv3 ?_
  refine x_istore X (pc := 178) (lv1 := [(6, .int (S1.1 14 7)), (4, .long (dig S1.1 nc nm)), (3, .int 1), (2, .int (nI A)), (1, .ref (za E 17 0)), (0, .ref (b))]) dL_law_178 (by decide) rfl ?_
  refine x_iconst X (pc := 180) (v := 0) dL_law_180 (by decide) ?_
  refine x_istore X (pc := 181) (lv1 := [(7, .int 0), (6, .int (S1.1 14 7)), (4, .long (dig S1.1 nc nm)), (3, .int 1), (2, .int (nI A)), (1, .ref (za E 17 0)), (0, .ref (b))]) dL_law_181 (by decide) rfl ?_
  refine x_sub (lv' := [(7, .int 0), (6, .int (S1.1 14 7)), (4, .long (dig S1.1 nc nm)), (3, .int 1), (1, .ref (za E 17 0)), (0, .ref (b))]) [0, 1, 2, 3, 5, 6] rfl ?_
  refine x_eq (lv' := [(7, .int (nI 0)), (6, .int (S1.1 14 7)), (4, .long (dig S1.1 nc nm)), (3, .int 1), (1, .ref (za E 17 0)), (0, .ref (b))]) rfl rfl ?_
  refine x_loop 30 183 (σ := Mem × LSt) (fun _ s => XS s.1 s.2 ∧ LJ s.2 S1.1 1200 ∧ s.2.1 = S1.1) (fun k s => (s.1, [(7, .int (nI k)), (6, .int (S1.1 14 7)), (4, .long (dig S1.1 nc nm)), (3, .int 1), (1, .ref (za E 17 0)), (0, .ref (b))])) ?_ 0 (M3, sV S1 (some S1.1)) (Nat.zero_le _) ⟨hX3, hj3, rfl⟩
  rintro k ⟨Ma, Sa⟩ hk183 ⟨hXa, hja, ea⟩ ih183
  replace hXa : XS Ma Sa := hXa
  replace hja : LJ Sa S1.1 1200 := hja
  replace ea : Sa.1 = S1.1 := ea
  have hIa : Inv Sa.1 nc nm 1200 := by rw [ea]; exact hI1
  have hfa : SF Sa.1 nc nm := by rw [ea]; exact hf1
  show ZX gg E _ _ _ Ma [(7, .int (nI k)), (6, .int (S1.1 14 7)), (4, .long (dig S1.1 nc nm)), (3, .int 1), (1, .ref (za E 17 0)), (0, .ref (b))] 183 []
  refine x_iload_n X (pc := 183) 3 dL_law_183 rfl rfl ?_
  refine x_if_eq X (pc := 184) (tgt := 278) dL_law_184 (by decide) (fun z => absurd z (by decide)) (fun _ => ?_)
  refine x_iload X (pc := 187) 0 dL_law_187 rfl ?_
  refine x_texts X (pc := 189) gw_3 rfl dL_law_189 ?_
  refine x_tlen X (pc := 192) dL_law_192 ?_
  refine x_nicmp_ge X (pc := 193) (a := k) (b := 30) (tgt := 278) dL_law_193 (by decide) (by omega) (by omega) (fun c193 => ?_) (fun c193 => ?_)
  · exact nxt Ma Sa S1.1 nc nm hI1 hXa hja k
  · refine x_aload_n X (pc := 196) 4 dL_law_196 rfl rfl ?_
    refine x_texts X (pc := 197) gw_3 rfl dL_law_197 ?_
    refine x_iload X (pc := 200) 0 dL_law_200 rfl ?_
    refine x_tald X (pc := 202) (j := k) rfl (by omega) dL_law_202 ?_
    refine x_callX X (pc := 203) (rest := []) ks_L_write (c_L_write _ _ Sa hXa hja.2.1 k (by omega)) gw_529 x_nopr (fun _ _ _ _ _ _ => trivial) rfl rfl (show _ ≤ room_1.cells by omega) (show _ ≤ room_1.slots by omega) ⟨Nat.le_of_ble_eq_true rfl, Nat.le_of_ble_eq_true rfl⟩ rfl rfl (Nat.le_of_ble_eq_true rfl) dL_law_203 (x_rr (fun M4 h4 => ?_))
    refine x_callV X ⟨by omega, by omega⟩ (pc := 206) (rest := []) kv_X10_run (q_run (nc := nc) (nm := nm) (n := 1200) h4 hIa (by omega)) zk_17_0 (zc_17_0 E _) rfl rfl gw_590 ⟨⟨rfl, rfl⟩, Nat.le_of_ble_eq_true rfl, Nat.le_of_ble_eq_true rfl⟩ rfl rfl (Nat.le_of_ble_eq_true rfl) dL_law_206 (x_ri (fun v5 M5 h5 => ?_))
    obtain ⟨hv5, hX5⟩ := h5
    replace hv5 : v5 = (oRun Sa.1 Sa.2.2.1 (txt k)).1 := hv5
    rcases oRun_is (rs := Sa.2.2.1) hIa hfa (show k < 30 by omega) (by omega) with ⟨r1, r2, j, tl, hj, r3⟩ | ⟨⟨j, hj, r1⟩, nc2, nm2, hI6, hf6⟩
    · have sm5 := run_ref hja.2.1 r1 r2
      have er : (rS (sT Sa (txt k))).2.2.1 = ((15, nI j) :: tl).take 3 := r3
      have hI5 : Inv (rS (sT Sa (txt k))).1 nc nm 1200 := by rw [sm5.1]; exact hIa
      refine x_top (y := ((-1014))) (hv5.trans r1) ?_
      refine x_istore X (pc := 209) (lv1 := [(8, .int ((-1014))), (7, .int (nI k)), (6, .int (S1.1 14 7)), (4, .long (dig S1.1 nc nm)), (3, .int 1), (1, .ref (za E 17 0)), (0, .ref (b))]) dL_law_209 (by decide) rfl ?_
      refine x_iload X (pc := 211) 0 dL_law_211 rfl ?_
      refine x_sipush X (pc := 213) (v := (-1014)) dL_law_213 (by decide) ?_
      refine x_icmp_ne X (pc := 216) (tgt := 242) dL_law_216 (by decide) (fun z => absurd rfl z) (fun _ => ?_)
      refine x_aload_n X (pc := 219) 5 dL_law_219 rfl rfl ?_
      refine x_iconst X (pc := 220) (v := 0) dL_law_220 (by decide) ?_
      refine x_iconst X (pc := 221) (v := 0) dL_law_221 (by decide) ?_
      refine x_callV X ⟨by omega, by omega⟩ (pc := 222) (rest := []) kv_X10_reason (q_reason hX5 (x := 0) (d := 0) (v := 15) ((aReason_0 er).trans (if_pos rfl))) zk_17_0 (zc_17_0 E _) rfl rfl gw_787 ⟨⟨rfl, rfl⟩, Nat.le_of_ble_eq_true rfl, Nat.le_of_ble_eq_true rfl⟩ rfl rfl (Nat.le_of_ble_eq_true rfl) dL_law_222 (x_pi ?_)
      refine x_bipush X (pc := 225) (v := 15) dL_law_225 (by decide) ?_
      refine x_icmp_ne X (pc := 227) (tgt := 270) dL_law_227 (by decide) (fun z => absurd (by decide) z) (fun _ => ?_)
      refine x_aload_n X (pc := 230) 5 dL_law_230 rfl rfl ?_
      refine x_iconst X (pc := 231) (v := 0) dL_law_231 (by decide) ?_
      refine x_iconst X (pc := 232) (v := 1) dL_law_232 (by decide) ?_
      refine x_callV X ⟨by omega, by omega⟩ (pc := 233) (rest := []) kv_X10_reason (q_reason hX5 (x := 0) (d := 1) (v := nI j) ((aReason_0 er).trans (if_neg (by decide)))) zk_17_0 (zc_17_0 E _) rfl rfl gw_787 ⟨⟨rfl, rfl⟩, Nat.le_of_ble_eq_true rfl, Nat.le_of_ble_eq_true rfl⟩ rfl rfl (Nat.le_of_ble_eq_true rfl) dL_law_233 (x_pi ?_)
      refine x_if_lt X (pc := 236) (tgt := 270) dL_law_236 (by decide) (fun z => absurd z (nI_pos (by omega))) (fun _ => ?_)
      refine x_goto X (pc := 239) (tgt := 256) dL_law_239 (by decide) ?_
      refine x_aload_n X (pc := 256) 5 dL_law_256 rfl rfl ?_
      refine x_callX X (pc := 257) (rest := []) ks_L_digest (c_L_digest _ _ _ hX5 nc nm _ hI5) gw_350 x_nopr (fun _ _ _ _ _ _ => trivial) rfl rfl (show _ ≤ room_1.cells by omega) (show _ ≤ room_1.slots by omega) ⟨Nat.le_of_ble_eq_true rfl, Nat.le_of_ble_eq_true rfl⟩ rfl rfl (Nat.le_of_ble_eq_true rfl) dL_law_257 (x_pl ?_)
      refine x_lload X (pc := 260) 3 dL_law_260 rfl ?_
      refine x_lcmp_eq X (pc := 262) (by rw [sm5.1, ea]) dL_law_262 ?_
      refine x_if_ne X (pc := 263) (tgt := 270) dL_law_263 (by decide) (fun z => absurd (by decide) z) (fun _ => ?_)
      refine x_iconst X (pc := 266) (v := 1) dL_law_266 (by decide) ?_
      refine x_goto X (pc := 267) (tgt := 271) dL_law_267 (by decide) ?_
      refine x_istore_n X (pc := 271) (lv1 := [(3, .int 1), (8, .int ((-1014))), (7, .int (nI k)), (6, .int (S1.1 14 7)), (4, .long (dig S1.1 nc nm)), (1, .ref (za E 17 0)), (0, .ref (b))]) dL_law_271 rfl (by decide) rfl ?_
      refine x_iinc X (pc := 272) (v := (nI (k + 1))) (lv1 := [(7, .int (nI (k + 1))), (3, .int 1), (8, .int ((-1014))), (6, .int (S1.1 14 7)), (4, .long (dig S1.1 nc nm)), (1, .ref (za E 17 0)), (0, .ref (b))]) 2 dL_law_272 rfl (nI_1 _) (by decide) rfl ?_
      refine x_goto X (pc := 275) (tgt := 183) dL_law_275 (by decide) ?_
      refine x_sub (lv' := [(7, .int (nI (k + 1))), (6, .int (S1.1 14 7)), (4, .long (dig S1.1 nc nm)), (3, .int 1), (1, .ref (za E 17 0)), (0, .ref (b))]) [0, 3, 4, 1, 5, 6] rfl ?_
      exact ih183 (M5, _) (by omega) ⟨hX5, hja.sm sm5, sm5.1.trans ea⟩
    · refine x_top (y := (nI j)) (hv5.trans r1) ?_
      refine x_istore X (pc := 209) (lv1 := [(8, .int (nI j)), (7, .int (nI k)), (6, .int (S1.1 14 7)), (4, .long (dig S1.1 nc nm)), (3, .int 1), (1, .ref (za E 17 0)), (0, .ref (b))]) dL_law_209 (by decide) rfl ?_
      refine x_iload X (pc := 211) 0 dL_law_211 rfl ?_
      refine x_sipush X (pc := 213) (v := (-1014)) dL_law_213 (by decide) ?_
      refine x_icmp_ne X (pc := 216) (tgt := 242) dL_law_216 (by decide) (fun _ => ?_) (fun z => absurd z (ne_14 (nI_pos (by omega))))
      refine x_aload_n X (pc := 242) 5 dL_law_242 rfl rfl ?_
      refine x_callX X (pc := 243) (rest := []) ks_L_areSeats (c_L_areSeats _ _ _ hX5 nc2 nm2 _ hI6 hf6) gw_677 x_nopr (fun _ _ _ _ _ _ => trivial) rfl rfl (show _ ≤ room_1.cells by omega) (show _ ≤ room_1.slots by omega) ⟨Nat.le_of_ble_eq_true rfl, Nat.le_of_ble_eq_true rfl⟩ rfl rfl (Nat.le_of_ble_eq_true rfl) dL_law_243 (x_ri (fun v6 M6 h6 => ?_))
      obtain ⟨hv6, l6, hX6⟩ := h6
      refine x_top (y := 1) hv6 ?_
      refine x_if_eq X (pc := 246) (tgt := 270) dL_law_246 (by decide) (fun z => absurd z (by decide)) (fun _ => ?_)
      refine x_aload_n X (pc := 249) 5 dL_law_249 rfl rfl ?_
      refine x_callV X ⟨by omega, by omega⟩ (pc := 250) (rest := []) kv_X10_undo (q_undo hX6) zk_17_0 (zc_17_0 E _) rfl rfl gw_665 ⟨⟨rfl, rfl⟩, Nat.le_of_ble_eq_true rfl, Nat.le_of_ble_eq_true rfl⟩ rfl rfl (Nat.le_of_ble_eq_true rfl) dL_law_250 (x_ri (fun v7 M7 h7 => ?_))
      obtain ⟨hv7, hX7⟩ := h7
      rw [run_undo hj r1] at hv7 hX7
      have ht : (Sa.2.1.take 7).length ≤ 7 := by rw [List.length_take]; omega
      refine x_top (y := (nI ((Sa.2.1.take 7).length))) hv7 ?_
      refine x_if_lt X (pc := 253) (tgt := 270) dL_law_253 (by decide) (fun z => absurd z (nI_pos (by omega))) (fun _ => ?_)
      refine x_aload_n X (pc := 256) 5 dL_law_256 rfl rfl ?_
      refine x_callX X (pc := 257) (rest := []) ks_L_digest (c_L_digest _ _ _ hX7 nc nm _ hIa) gw_350 x_nopr (fun _ _ _ _ _ _ => trivial) rfl rfl (show _ ≤ room_1.cells by omega) (show _ ≤ room_1.slots by omega) ⟨Nat.le_of_ble_eq_true rfl, Nat.le_of_ble_eq_true rfl⟩ rfl rfl (Nat.le_of_ble_eq_true rfl) dL_law_257 (x_pl ?_)
      refine x_lload X (pc := 260) 3 dL_law_260 rfl ?_
      refine x_lcmp_eq X (pc := 262) (show dig Sa.1 nc nm = dig S1.1 nc nm by rw [ea]) dL_law_262 ?_
      refine x_if_ne X (pc := 263) (tgt := 270) dL_law_263 (by decide) (fun z => absurd (by decide) z) (fun _ => ?_)
      refine x_iconst X (pc := 266) (v := 1) dL_law_266 (by decide) ?_
      refine x_goto X (pc := 267) (tgt := 271) dL_law_267 (by decide) ?_
      refine x_istore_n X (pc := 271) (lv1 := [(3, .int 1), (8, .int (nI j)), (7, .int (nI k)), (6, .int (S1.1 14 7)), (4, .long (dig S1.1 nc nm)), (1, .ref (za E 17 0)), (0, .ref (b))]) dL_law_271 rfl (by decide) rfl ?_
      refine x_iinc X (pc := 272) (v := (nI (k + 1))) (lv1 := [(7, .int (nI (k + 1))), (3, .int 1), (8, .int (nI j)), (6, .int (S1.1 14 7)), (4, .long (dig S1.1 nc nm)), (1, .ref (za E 17 0)), (0, .ref (b))]) 2 dL_law_272 rfl (nI_1 _) (by decide) rfl ?_
      refine x_goto X (pc := 275) (tgt := 183) dL_law_275 (by decide) ?_
      refine x_sub (lv' := [(7, .int (nI (k + 1))), (6, .int (S1.1 14 7)), (4, .long (dig S1.1 nc nm)), (3, .int 1), (1, .ref (za E 17 0)), (0, .ref (b))]) [0, 3, 4, 1, 5, 6] rfl ?_
      exact ih183 (M7, _) (by omega) ⟨hX7, hja.sm (run_sm (l := l6) hja.2.1), (run_sm (l := l6) hja.2.1).1.trans ea⟩
set_option maxRecDepth 100000 in
set_option maxHeartbeats 4000000 in
theorem law_d {gg : ZG} {E : ZE} {kc kn b L : Nat} {ss : Nat → Int32} (X : Cx gg E RL cL_law 9 room_1) (V : va_X b L ss (gs gg) (gs gg).heap ∧ b < (gs gg).heap.size ∧ ¬ zA E b) (hL : L ≤ 260) (hk : kc + 10 ≤ room_1.cells ∧ kn + 100 ≤ room_1.slots) {M : Mem} {S : LSt} {g0 : LG} {nc nm k0 : Nat} (hI0 : Inv g0 nc nm 1200) (hX : XS M S) (hj : LJ S g0 1200) (fin : ∀ (kc1 kn1 : Nat) (M1 : Mem) (lv : List (Nat × Value)), kc1 ≤ kc + 10 → kn1 ≤ kn + 100 → ZX gg E kc1 kn1 [] M1 lv 389 [.int 1]) : ZX gg E (kc + 1) (kn + 10) [] M [(7, .int (nI k0)), (6, .int (g0 14 7)), (4, .long (dig g0 nc nm)), (3, .int 1), (1, .ref (za E 17 0)), (0, .ref b)] 278 [] := by
  refine x_iconst X (pc := 278) (v := 0) dL_law_278 (by decide) ?_
  refine x_istore X (pc := 279) (lv1 := [(7, .int 0), (6, .int (g0 14 7)), (4, .long (dig g0 nc nm)), (3, .int 1), (1, .ref (za E 17 0)), (0, .ref (b))]) dL_law_279 (by decide) rfl ?_
  refine x_sub (lv' := [(7, .int 0), (6, .int (g0 14 7)), (4, .long (dig g0 nc nm)), (3, .int 1), (1, .ref (za E 17 0)), (0, .ref (b))]) [0, 1, 2, 3, 4, 5] rfl ?_
  refine x_eq (lv' := [(7, .int (nI 0)), (6, .int (g0 14 7)), (4, .long (dig g0 nc nm)), (3, .int 1), (1, .ref (za E 17 0)), (0, .ref (b))]) rfl rfl ?_
  refine x_loopK (kc := kc + 1) (kn := kn + 10) 3 281 (σ := Mem × LSt) (fun k s => XS s.1 s.2 ∧ LJ s.2 g0 (1200 + 6 * k)) (fun k s => (s.1, [(7, .int (nI k)), (6, .int (g0 14 7)), (4, .long (dig g0 nc nm)), (3, .int 1), (1, .ref (za E 17 0)), (0, .ref (b))])) ?_ 0 (M, S) (Nat.zero_le _) ⟨hX, hj⟩
  rintro k ⟨Ma, Sa⟩ hk281 ⟨hXa, hja⟩ ih281
  replace hXa : XS Ma Sa := hXa
  replace hja : LJ Sa g0 (1200 + 6 * k) := hja
  show ZX gg E _ _ _ Ma [(7, .int (nI k)), (6, .int (g0 14 7)), (4, .long (dig g0 nc nm)), (3, .int 1), (1, .ref (za E 17 0)), (0, .ref (b))] 281 []
  refine x_iload_n X (pc := 281) 3 dL_law_281 rfl rfl ?_
  refine x_if_eq X (pc := 282) (tgt := 351) dL_law_282 (by decide) (fun z => absurd z (by decide)) (fun _ => ?_)
  refine x_iload X (pc := 285) 0 dL_law_285 rfl ?_
  refine x_iconst X (pc := 287) (v := 3) dL_law_287 (by decide) ?_
  refine x_nicmp_ge X (pc := 288) (a := k) (b := 3) (tgt := 351) dL_law_288 (by decide) (by omega) (by omega) (fun c288 => ?_) (fun c288 => ?_)
  · refine x_iload_n X (pc := 351) 3 dL_law_351 rfl rfl ?_
    refine x_if_eq X (pc := 352) (tgt := 388) dL_law_352 (by decide) (fun z => absurd z (by decide)) (fun _ => ?_)
    refine x_aload_n X (pc := 355) 4 dL_law_355 rfl rfl ?_
    refine x_callV X ⟨by omega, by omega⟩ (pc := 356) (rest := []) kv_X10_restore (q_restore hXa hja.2.2) zk_17_0 (zc_17_0 E _) rfl rfl gw_657 ⟨⟨rfl, rfl⟩, Nat.le_of_ble_eq_true rfl, Nat.le_of_ble_eq_true rfl⟩ rfl rfl (Nat.le_of_ble_eq_true rfl) dL_law_356 (x_ri (fun vr Mr hr => ?_))
    obtain ⟨hvr, hXr⟩ := hr
    refine x_top (y := (g0 14 7)) hvr ?_
    refine x_iload X (pc := 359) 1 dL_law_359 rfl ?_
    refine x_icmp_ne X (pc := 361) (tgt := 388) dL_law_361 (by decide) (fun z => absurd rfl z) (fun _ => ?_)
    refine x_aload_n X (pc := 364) 4 dL_law_364 rfl rfl ?_
    refine x_callX X (pc := 365) (rest := []) ks_L_digest (c_L_digest _ _ _ hXr nc nm _ hI0) gw_350 x_nopr (fun _ _ _ _ _ _ => trivial) rfl rfl (show _ ≤ room_1.cells by omega) (show _ ≤ room_1.slots by omega) ⟨Nat.le_of_ble_eq_true rfl, Nat.le_of_ble_eq_true rfl⟩ rfl rfl (Nat.le_of_ble_eq_true rfl) dL_law_365 (x_pl ?_)
    refine x_lload X (pc := 368) 2 dL_law_368 rfl ?_
    refine x_lcmp_eq X (pc := 370) rfl dL_law_370 ?_
    refine x_if_ne X (pc := 371) (tgt := 388) dL_law_371 (by decide) (fun z => absurd (by decide) z) (fun _ => ?_)
    refine x_aload_n X (pc := 374) 4 dL_law_374 rfl rfl ?_
    refine x_callV X ⟨by omega, by omega⟩ (pc := 375) (rest := []) kv_X10_undo (q_undo hXr) zk_17_0 (zc_17_0 E _) rfl rfl gw_665 ⟨⟨rfl, rfl⟩, Nat.le_of_ble_eq_true rfl, Nat.le_of_ble_eq_true rfl⟩ rfl rfl (Nat.le_of_ble_eq_true rfl) dL_law_375 (x_ri (fun vu Mu hu => ?_))
    refine x_top (y := ((-1015))) hu.1 ?_
    refine x_sipush X (pc := 378) (v := (-1015)) dL_law_378 (by decide) ?_
    refine x_icmp_ne X (pc := 381) (tgt := 388) dL_law_381 (by decide) (fun z => absurd rfl z) (fun _ => ?_)
    refine x_iconst X (pc := 384) (v := 1) dL_law_384 (by decide) ?_
    refine x_goto X (pc := 385) (tgt := 389) dL_law_385 (by decide) ?_
    exact fin _ _ _ _ (by omega) (by omega)
  · refine x_aload_n X (pc := 291) 4 dL_law_291 rfl rfl ?_
    obtain ⟨nc7, nm7, hI7, hf7⟩ := hja.1.now
    refine x_callV X ⟨by omega, by omega⟩ (pc := 292) (rest := []) kv_X10_season (q_season hXa hI7) zk_17_0 (zc_17_0 E _) rfl rfl gw_233 ⟨⟨rfl, rfl⟩, Nat.le_of_ble_eq_true rfl, Nat.le_of_ble_eq_true rfl⟩ rfl rfl (Nat.le_of_ble_eq_true rfl) dL_law_292 (x_ri (fun v7 M7 h7 => ?_))
    obtain ⟨-, hX7⟩ := h7
    have hq7 := hja.chg (oSeason_kq (rs := Sa.2.2.1)  hI7 (by omega)) (by omega)
    obtain ⟨S7, eS7⟩ : ∃ z, z = (nS Sa (oSeason Sa.1 Sa.2.2.1)) := ⟨_, rfl⟩
    rw [← eS7] at hX7 hq7
    clear eS7
    refine x_pop X (pc := 295) dL_law_295 rfl ?_
    refine x_aload_n X (pc := 296) 4 dL_law_296 rfl rfl ?_
    refine x_iload X (pc := 297) 0 dL_law_297 rfl ?_
    refine x_iconst X (pc := 299) (v := 4) dL_law_299 (by decide) ?_
    obtain ⟨nc8, nm8, hI8, hf8⟩ := hq7.1.now
    refine x_callV X ⟨by omega, by omega⟩ (pc := 300) (rest := []) kv_X10_bid (q_bid hX7 hI8 (nI k) 4) zk_17_0 (zc_17_0 E _) rfl rfl gw_333 ⟨⟨rfl, rfl⟩, Nat.le_of_ble_eq_true rfl, Nat.le_of_ble_eq_true rfl⟩ rfl rfl (Nat.le_of_ble_eq_true rfl) dL_law_300 (x_ri (fun v8 M8 h8 => ?_))
    obtain ⟨-, hX8⟩ := h8
    have hq8 := hq7.chg (oBid_kq (rs := S7.2.2.1) (y := (nI k)) (v := 4) hI8 hf8 (by omega)) (by omega)
    obtain ⟨S8, eS8⟩ : ∃ z, z = (nS S7 (oBid S7.1 S7.2.2.1 (nI k) 4)) := ⟨_, rfl⟩
    rw [← eS8] at hX8 hq8
    clear eS8
    refine x_pop X (pc := 303) dL_law_303 rfl ?_
    refine x_aload_n X (pc := 304) 4 dL_law_304 rfl rfl ?_
    refine x_iload X (pc := 305) 0 dL_law_305 rfl ?_
    refine x_iconst X (pc := 307) (v := 1) dL_law_307 (by decide) ?_
    refine x_iadd X (pc := 308) dL_law_308 ?_
    refine x_iconst X (pc := 309) (v := 2) dL_law_309 (by decide) ?_
    refine x_iload X (pc := 310) 0 dL_law_310 rfl ?_
    refine x_iadd X (pc := 312) dL_law_312 ?_
    obtain ⟨nc9, nm9, hI9, hf9⟩ := hq8.1.now
    refine x_callV X ⟨by omega, by omega⟩ (pc := 313) (rest := []) kv_X10_bid (q_bid hX8 hI9 ((nI k) + 1) (2 + (nI k))) zk_17_0 (zc_17_0 E _) rfl rfl gw_333 ⟨⟨rfl, rfl⟩, Nat.le_of_ble_eq_true rfl, Nat.le_of_ble_eq_true rfl⟩ rfl rfl (Nat.le_of_ble_eq_true rfl) dL_law_313 (x_ri (fun v9 M9 h9 => ?_))
    obtain ⟨-, hX9⟩ := h9
    have hq9 := hq8.chg (oBid_kq (rs := S8.2.2.1) (y := ((nI k) + 1)) (v := (2 + (nI k))) hI9 hf9 (by omega)) (by omega)
    obtain ⟨S9, eS9⟩ : ∃ z, z = (nS S8 (oBid S8.1 S8.2.2.1 ((nI k) + 1) (2 + (nI k)))) := ⟨_, rfl⟩
    rw [← eS9] at hX9 hq9
    clear eS9
    refine x_pop X (pc := 316) dL_law_316 rfl ?_
    refine x_aload_n X (pc := 317) 4 dL_law_317 rfl rfl ?_
    refine x_iconst X (pc := 318) (v := 1) dL_law_318 (by decide) ?_
    refine x_iload X (pc := 319) 0 dL_law_319 rfl ?_
    refine x_iadd X (pc := 321) dL_law_321 ?_
    obtain ⟨nc10, nm10, hI10, hf10⟩ := hq9.1.now
    refine x_callV X ⟨by omega, by omega⟩ (pc := 322) (rest := []) kv_X10_concert (q_concert hX9 hI10 (1 + (nI k))) zk_17_0 (zc_17_0 E _) rfl rfl gw_482 ⟨⟨rfl, rfl⟩, Nat.le_of_ble_eq_true rfl, Nat.le_of_ble_eq_true rfl⟩ rfl rfl (Nat.le_of_ble_eq_true rfl) dL_law_322 (x_ri (fun v10 M10 h10 => ?_))
    obtain ⟨-, hX10⟩ := h10
    have hq10 := hq9.chg (oConcert_kq (rs := S9.2.2.1) (v := (1 + (nI k))) hI10 hf10 (by omega)) (by omega)
    obtain ⟨S10, eS10⟩ : ∃ z, z = (nS S9 (oConcert S9.1 S9.2.2.1 (1 + (nI k)))) := ⟨_, rfl⟩
    rw [← eS10] at hX10 hq10
    clear eS10
    refine x_pop X (pc := 325) dL_law_325 rfl ?_
    refine x_aload_n X (pc := 326) 4 dL_law_326 rfl rfl ?_
    refine x_iload X (pc := 327) 0 dL_law_327 rfl ?_
    obtain ⟨nc11, nm11, hI11, hf11⟩ := hq10.1.now
    refine x_callV X ⟨by omega, by omega⟩ (pc := 329) (rest := []) kv_X10_promote (q_promote hX10 hI11 (nI k)) zk_17_0 (zc_17_0 E _) rfl rfl gw_521 ⟨⟨rfl, rfl⟩, Nat.le_of_ble_eq_true rfl, Nat.le_of_ble_eq_true rfl⟩ rfl rfl (Nat.le_of_ble_eq_true rfl) dL_law_329 (x_ri (fun v11 M11 h11 => ?_))
    obtain ⟨-, hX11⟩ := h11
    have hq11 := hq10.chg (oPromote_kq (rs := S10.2.2.1) (x := (nI k)) hI11 hf11 (by omega)) (by omega)
    obtain ⟨S11, eS11⟩ : ∃ z, z = (nS S10 (oPromote S10.1 S10.2.2.1 (nI k))) := ⟨_, rfl⟩
    rw [← eS11] at hX11 hq11
    clear eS11
    refine x_pop X (pc := 332) dL_law_332 rfl ?_
    refine x_aload_n X (pc := 333) 4 dL_law_333 rfl rfl ?_
    refine x_iload X (pc := 334) 0 dL_law_334 rfl ?_
    obtain ⟨nc12, nm12, hI12, hf12⟩ := hq11.1.now
    refine x_callV X ⟨by omega, by omega⟩ (pc := 336) (rest := []) kv_X10_raise (q_raise hX11 hI12 (nI k)) zk_17_0 (zc_17_0 E _) rfl rfl gw_513 ⟨⟨rfl, rfl⟩, Nat.le_of_ble_eq_true rfl, Nat.le_of_ble_eq_true rfl⟩ rfl rfl (Nat.le_of_ble_eq_true rfl) dL_law_336 (x_ri (fun v12 M12 h12 => ?_))
    obtain ⟨-, hX12⟩ := h12
    have hq12 := hq11.chg (oRaise_kq (rs := S11.2.2.1) (x := (nI k)) hI12 hf12 (by omega)) (by omega)
    obtain ⟨S12, eS12⟩ : ∃ z, z = (nS S11 (oRaise S11.1 S11.2.2.1 (nI k))) := ⟨_, rfl⟩
    rw [← eS12] at hX12 hq12
    clear eS12
    refine x_pop X (pc := 339) dL_law_339 rfl ?_
    refine x_aload_n X (pc := 340) 4 dL_law_340 rfl rfl ?_
    obtain ⟨nc8, nm8, hI8, hf8⟩ := hq12.1.now
    refine x_callX X (pc := 341) (rest := []) ks_L_isFit (c_L_isFit _ _ _ hX12 nc8 nm8 _ hI8 hf8 (by omega)) gw_674 x_nopr (fun _ _ _ _ _ _ => trivial) rfl rfl (show _ ≤ room_1.cells by omega) (show _ ≤ room_1.slots by omega) ⟨Nat.le_of_ble_eq_true rfl, Nat.le_of_ble_eq_true rfl⟩ rfl rfl (Nat.le_of_ble_eq_true rfl) dL_law_341 (x_ri (fun v9 M9 h9 => ?_))
    obtain ⟨hv9, S9, hX9, sm9⟩ := h9
    have hj9 := hq12.sm sm9
    refine x_top (y := 1) hv9 ?_
    refine x_istore_n X (pc := 344) (lv1 := [(3, .int 1), (7, .int (nI k)), (6, .int (g0 14 7)), (4, .long (dig g0 nc nm)), (1, .ref (za E 17 0)), (0, .ref (b))]) dL_law_344 rfl (by decide) rfl ?_
    refine x_iinc X (pc := 345) (v := (nI (k + 1))) (lv1 := [(7, .int (nI (k + 1))), (3, .int 1), (6, .int (g0 14 7)), (4, .long (dig g0 nc nm)), (1, .ref (za E 17 0)), (0, .ref (b))]) 1 dL_law_345 rfl (nI_1 _) (by decide) rfl ?_
    refine x_goto X (pc := 348) (tgt := 281) dL_law_348 (by decide) ?_
    refine x_sub (lv' := [(7, .int (nI (k + 1))), (6, .int (g0 14 7)), (4, .long (dig g0 nc nm)), (3, .int 1), (1, .ref (za E 17 0)), (0, .ref (b))]) [0, 2, 3, 1, 4, 5] rfl ?_
    refine x_widen (kc' := kc + 1 + (k + 1)) (kn' := kn + 10 + 10 * (k + 1)) (by omega) (by omega) ?_
    exact ih281 (M9, _) (by omega) ⟨hX9, by rw [Nat.mul_succ]; exact hj9⟩
theorem law_all {gg : ZG} {E : ZE} {kc kn b L : Nat} {ss : Nat → Int32} (X : Cx gg E RL cL_law 9 room_1) (V : va_X b L ss (gs gg) (gs gg).heap ∧ b < (gs gg).heap.size ∧ ¬ zA E b) (hL : L ≤ 260) (hk : kc + 10 ≤ room_1.cells ∧ kn + 100 ≤ room_1.slots) {M : Mem} {S : LSt} (hX : XS M S) (hq : LQ S 0) (h0 : S.2.2.2.1 = []) (fin : ∀ (kc1 kn1 : Nat) (M1 : Mem) (lv : List (Nat × Value)), kc1 ≤ kc + 10 → kn1 ≤ kn + 100 → ZX gg E kc1 kn1 [] M1 lv 389 [.int 1]) : ZX gg E kc kn [] M [(1, .ref (za E 17 0)), (0, .ref b)] 8 [] :=
  law_a X V hL hk hX hq h0 (fun _ _ _ hA hX1 hq1 h1 => law_b X V hL hk hA hX1 hq1 h1 (fun _ _ hq2 hX2 h2 _ => law_c X V hL hk hX2 hq2 h2 (fun _ _ _ _ _ hI3 hX3 hj3 _ => law_d X V hL hk hI3 hX3 hj3 fin)))
