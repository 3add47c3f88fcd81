/-- at the head of the reference's counting -/
def CoJ (t : List Int32) (i q : Nat) (w : Bool) : Prop := (w = true ∧ (pTxt t 30 0).1 = nI q ∧ q ≤ 60) ∨ (w = false ∧ i < 30 ∧ ∃ p, p ≤ t.length ∧ 2 * i ≤ p ∧ (pOrd t p).1 = true ∧ q = (pOrd t p).2.1 ∧ (pTxt t 30 0).1 = (pTxt t (30 - i) p).1 ∧ (pTxt t 30 0).2.length = i + (pTxt t (30 - i) p).2.length)
theorem CoJ.le {t : List Int32} {i q : Nat} {w : Bool} (h : CoJ t i q w) (hl : t.length ≤ 60) : q ≤ 60 := by
  rcases h with ⟨-, -, h⟩ | ⟨-, -, p, hp, -, -, rfl, -⟩
  · exact h
  · have := (pOrd_le hp).1; omega
theorem CoJ.bad {t : List Int32} {i q : Nat} {w : Bool} (h : CoJ t i q w) (hw : w = true) : (pTxt t 30 0).1 = nI q := by
  rcases h with ⟨-, h, -⟩ | ⟨h, -⟩
  · exact h
  · rw [hw] at h; cases h
theorem CoJ.lt {t : List Int32} {i q : Nat} (h : CoJ t i q false) : i < 30 := by
  rcases h with ⟨h, -⟩ | ⟨-, h, -⟩
  · cases h
  · exact h
theorem CoJ.init {t : List Int32} (hl : t.length ≤ 60) : CoJ t 0 (pOrd t 0).2.1 (!(pOrd t 0).1) := by
    have h0 := (pOrd_le (t := t) (p := 0) (Nat.zero_le _)).1
    cases e : (pOrd t 0).1 with
    | false => exact Or.inl ⟨rfl, by rw [show (30 : Nat) = 30 - 0 from rfl, pT_bad (i := 0) (by decide) e], by omega⟩
    | true => exact Or.inr ⟨rfl, by decide, 0, Nat.zero_le _, by omega, e, rfl, rfl, by simp⟩
theorem CoJ.ends {t : List Int32} {i q : Nat} (hl : t.length ≤ 60) (h : CoJ t i q false) (hq : t.length ≤ q) : (pTxt t 30 0).1 = -1 ∧ (pTxt t 30 0).2.length = i + 1 ∧ (pTxt t 30 0).2.length ≤ 30 := by
  rcases h with ⟨h, -⟩ | ⟨-, hi, p, hp, h2, ho, rfl, e1, e2⟩
  · cases h
  · have hle := (pOrd_le hp).1
    have hg := pT_end hi ho (show (pOrd t p).2.1 = t.length by omega)
    rw [e1, e2, hg]
    exact ⟨rfl, rfl, by show i + 1 ≤ 30; omega⟩
theorem CoJ.sep {t : List Int32} {i q : Nat} (hl : t.length ≤ 60) (h : CoJ t i q false) (hq : ¬ t.length ≤ q) (hc : ¬ chr t q = 59) : CoJ t (i + 1) q true := by
  rcases h with ⟨h, -⟩ | ⟨-, hi, p, hp, h2, ho, rfl, e1, e2⟩
  · cases h
  · have hg := pT_sep hi ho (show ¬ (pOrd t p).2.1 = t.length by omega) hc
    exact Or.inl ⟨rfl, by rw [e1, hg], by omega⟩
theorem CoJ.go {t : List Int32} {i q : Nat} (hl : t.length ≤ 60) (h : CoJ t i q false) (hq : ¬ t.length ≤ q) (hc : chr t q = 59) : CoJ t (i + 1) (pOrd t (q + 1)).2.1 (!(pOrd t (q + 1)).1) := by
  rcases h with ⟨h, -⟩ | ⟨-, hi, p, hp, h2, ho, rfl, e1, e2⟩
  · cases h
  · have hg := pT_go hi ho (show ¬ (pOrd t p).2.1 = t.length by omega) hc
    have hlt := (pOrd_le hp).2 ho
    rw [hg] at e1 e2
    have hp1 : (pOrd t p).2.1 + 1 ≤ t.length := by omega
    have hle1 := (pOrd_le hp1).1
    by_cases h30 : i + 1 < 30
    · cases e : (pOrd t ((pOrd t p).2.1 + 1)).1 with
      | false => exact Or.inl ⟨rfl, by rw [e1, pT_bad h30 e], by omega⟩
      | true => exact Or.inr ⟨rfl, h30, (pOrd t p).2.1 + 1, hp1, by omega, e, rfl, e1, by rw [e2, List.length_cons]; omega⟩
    · have hout := ord_out (t := t) (p := (pOrd t p).2.1 + 1) (by omega)
      rw [hout.1, hout.2]
      refine Or.inl ⟨rfl, ?_, by omega⟩
      rw [e1, show 30 - (i + 1) = 0 by omega]
      rfl
def LetO (x : Int32) : Prop := x = 104 ∨ x = 109 ∨ x = 115 ∨ x = 114 ∨ x = 97 ∨ x = 98 ∨ x = 99 ∨ x = 112 ∨ x = 117 ∨ x = 116
theorem Rm_text {M M1 : Mem} {rs : Rs} {k : Nat} {v : Int32} (h : RSm M rs) (h9 : M1 32 0 9 = v) (h0 : M1 32 1 0 = 15 ∧ M1 32 2 0 = nI k) (h1 : ∀ i, i < rs.length → M1 32 1 (i + 1) = M 32 1 i ∧ M1 32 2 (i + 1) = M 32 2 i) (hl : rs.length ≤ 2 := by decide) (hv : v = nI (rs.length + 1) := by rfl) : RSm M1 ((15, nI k) :: rs) := by
  refine ⟨by rw [h9, hv]; rfl, by show rs.length + 1 ≤ 3; omega, fun i hi => ?_⟩
  cases i with
  | zero => exact h0
  | succ i =>
    have hi : i < rs.length := Nat.lt_of_succ_lt_succ hi
    rw [(h1 i hi).1, (h1 i hi).2]
    exact h.2.2 i hi
theorem Rm_text0 {M1 : Mem} {k : Nat} (h9 : M1 32 0 9 = 1) (h0 : M1 32 1 0 = 15 ∧ M1 32 2 0 = nI k) : RSm M1 [(15, nI k)] := by
  refine ⟨h9, (show 1 ≤ 3 by decide), fun i hi => ?_⟩
  have : i = 0 := by simpa using hi
  subst this
  exact h0
def rm_X11_countOrders : Room := { frames := 5, cells := 0, slots := 0, locals := 111 }
theorem kv_X11_countOrders : KV yX11_countOrders RX11 cX11_countOrders 2 (some .int) 0 := ⟨⟨gw_884, gw_885, gw_5, gw_886⟩, by decide +kernel⟩
set_option maxRecDepth 100000 in
set_option maxHeartbeats 4000000 in
theorem c_X11_countOrders (E : ZE) (M : Mem) (t : List Int32) (hT : TM M t) (h8 : ∀ x, x ∈ t → rng x 32 126) : Mt E yX11_countOrders cX11_countOrders 2 (some .int) rm_X11_countOrders [.ref (za E 32 0)] M (RI (fun v M1 => ∃ q w, PS M1 t q w ∧ Fq tP M M1 ∧ ((w = true ∧ (pTxt t 30 0).1 = nI q ∧ q ≤ 60) ∨ (w = false ∧ (pTxt t 30 0).1 = -1 ∧ v = nI (pTxt t 30 0).2.length ∧ (pTxt t 30 0).2.length ≤ 30)))) := by
  have hl0 : t.length ≤ 60 := hT.2.1
  refine z_met (own := RX11) (lv := [(0, .ref (za E 32 0))]) (by decide) rfl (Nat.le_of_ble_eq_true rfl) rfl (fun gg X Y => ?_)
  refine z_aload_n X (pc := 0) 0 dX11_countOrders_0 rfl rfl ?_
  refine z_iconst X (pc := 1) (v := 0) dX11_countOrders_1 (by decide) ?_
  refine z_put X (pc := 2) 16 zk_32_0 (zc_32_0 E _) rfl inlX11 tyX11 tyX11_ok nmX11 (by decide) gw_882 rfl rfl (ty := .int) (by decide +kernel) rfl rfl (Nat.le_of_ble_eq_true rfl) dX11_countOrders_2 rfl ?_
  refine z_aload_n X (pc := 5) 0 dX11_countOrders_5 rfl rfl ?_
  refine z_iconst X (pc := 6) (v := 0) dX11_countOrders_6 (by decide) ?_
  refine z_put X (pc := 7) 21 zk_32_0 (zc_32_0 E _) rfl inlX11 tyX11 tyX11_ok nmX11 (by decide) gw_881 rfl rfl (ty := .boolean) (by decide +kernel) (by decide) rfl (Nat.le_of_ble_eq_true rfl) dX11_countOrders_7 rfl ?_
  refine z_iconst X (pc := 10) (v := 1) dX11_countOrders_10 (by decide) ?_
  refine z_istore_n X (pc := 11) (lv1 := [(1, .int 1), (0, .ref (za E 32 0))]) dX11_countOrders_11 rfl (by decide) rfl ?_
  refine z_aload_n X (pc := 12) 1 dX11_countOrders_12 rfl rfl ?_
  refine z_callV X (pc := 13) (rest := []) kv_X11_readOrder (c_X11_readOrder E (up3 (up3 M 32 0 16 0) 32 0 21 0) t 0 ⟨(TM.u0 (k := 21) (TM.u0 (k := 16) hT (by decide)) (by decide)), ((up3_ne (by omega)).trans up3_same), up3_same⟩ (by omega) h8) zk_32_0 (zc_32_0 E _) rfl rfl gw_887 (by decide) rfl rfl (Nat.le_of_ble_eq_true rfl) dX11_countOrders_13 (zk_rv (fun M_1 h_2 => ?_))
  refine z_sub (lv' := [(1, .int (nI (0 + 1))), (0, .ref (za E 32 0))]) [0, 1] rfl ?_
  refine z_loop (100) 16 (σ := Mem × Nat × Bool) (fun i s => PS s.1 t s.2.1 s.2.2 ∧ Fq tP M s.1 ∧ CoJ t i s.2.1 s.2.2) (fun i s => (s.1, [(1, .int (nI (i + 1))), (0, .ref (za E 32 0))])) ?_ 0 ⟨M_1, (pOrd t 0).2.1, !(pOrd t 0).1⟩ (Nat.zero_le _) ⟨h_2.1, (Fq.tr (Fq.up (b := 32) (r := 0) (k := 21) (Fq.up (b := 32) (r := 0) (k := 16) (Fq.rf (P := tP) (M := M)) (by unfold tP; omega)) (by unfold tP; omega)) h_2.2.2), CoJ.init hl0⟩
  intro i s hi16 hJ16 ih16
  obtain ⟨M1, q, w⟩ := s
  show Z gg E M1 [(1, .int (nI (i + 1))), (0, .ref (za E 32 0))] 16 []
  replace hJ16 : PS M1 t q w ∧ Fq tP M M1 ∧ CoJ t i q w := hJ16
  obtain ⟨hps, hQ, hC⟩ := hJ16
  have hqb := hC.le hl0
  refine z_aload_n X (pc := 16) 1 dX11_countOrders_16 rfl rfl ?_
  refine z_get X (pc := 17) 21 zk_32_0 (zc_32_0 E _) rfl inlX11 (by decide) gw_881 rfl rfl dX11_countOrders_17 ?_
  refine z_top (y := (zb w)) hps.2.2 ?_
  refine z_bif_ne X (pc := 20) (tgt := 93) dX11_countOrders_20 (by decide) (fun c20 => ?_) (fun c20 => ?_)
  · refine z_iload_n X (pc := 93) 0 dX11_countOrders_93 rfl rfl ?_
    exact z_iret X Y dX11_countOrders_94 ⟨_, rfl, q, w, hps, hQ, Or.inl ⟨c20, hC.bad c20, hqb⟩⟩
  · subst c20
    have hib := hC.lt
    refine z_aload_n X (pc := 23) 1 dX11_countOrders_23 rfl rfl ?_
    refine z_get X (pc := 24) 16 zk_32_0 (zc_32_0 E _) rfl inlX11 (by decide) gw_882 rfl rfl dX11_countOrders_24 ?_
    refine z_top (y := (nI q)) hps.2.1 ?_
    refine z_aload_n X (pc := 27) 1 dX11_countOrders_27 rfl rfl ?_
    refine z_get X (pc := 28) 15 zk_32_0 (zc_32_0 E _) rfl inlX11 (by decide) gw_815 rfl rfl dX11_countOrders_28 ?_
    refine z_top (y := (nI t.length)) (And.left hps.1) ?_
    refine z_nicmp_ge X (pc := 31) (a := q) (b := t.length) (tgt := 93) dX11_countOrders_31 (by decide) (by omega) (by omega) (fun c31 => ?_) (fun c31 => ?_)
    · refine z_iload_n X (pc := 93) 0 dX11_countOrders_93 rfl rfl ?_
      exact z_iret X Y dX11_countOrders_94 ⟨_, rfl, q, false, hps, hQ, Or.inr ⟨rfl, (hC.ends hl0 c31).1, by rw [(hC.ends hl0 c31).2.1], (hC.ends hl0 c31).2.2⟩⟩
    · refine z_aload_n X (pc := 34) 1 dX11_countOrders_34 rfl rfl ?_
      refine z_dup X (pc := 35) dX11_countOrders_35 rfl ?_
      refine z_get X (pc := 36) 21 zk_32_0 (zc_32_0 E _) rfl inlX11 (by decide) gw_881 rfl rfl dX11_countOrders_36 ?_
      refine z_top (y := 0) (show M1 32 0 21 = 0 from hps.2.2) ?_
      refine z_aload_n X (pc := 39) 1 dX11_countOrders_39 rfl rfl ?_
      refine z_get X (pc := 40) 14 zk_32_0 (zc_32_0 E _) rfl inlX11 (by decide) gw_149 rfl rfl dX11_countOrders_40 ?_
      refine z_aload_n X (pc := 43) 1 dX11_countOrders_43 rfl rfl ?_
      refine z_get X (pc := 44) 16 zk_32_0 (zc_32_0 E _) rfl inlX11 (by decide) gw_882 rfl rfl dX11_countOrders_44 ?_
      refine z_top (y := (nI q)) hps.2.1 ?_
      refine z_cald X (pc := 47) (by decide) rfl (show q < 60 by omega) dX11_countOrders_47 ?_
      refine z_top (y := (chr t q)) (TM.at hps.1 (by omega)) ?_
      refine z_bipush X (pc := 48) (v := 59) dX11_countOrders_48 (by decide) ?_
      refine z_icmp_eq X (pc := 50) (tgt := 57) dX11_countOrders_50 (by decide) (fun c50 => ?_) (fun c50 => ?_)
      · refine z_iconst X (pc := 57) (v := 0) dX11_countOrders_57 (by decide) ?_
        refine z_ior X (pc := 58) dX11_countOrders_58 ?_
        refine z_top (y := 0) (by decide) ?_
        refine z_put X (pc := 59) 21 zk_32_0 (zc_32_0 E _) rfl inlX11 tyX11 tyX11_ok nmX11 (by decide) gw_881 rfl rfl (ty := .boolean) (by decide +kernel) (by decide) rfl (Nat.le_of_ble_eq_true rfl) dX11_countOrders_59 rfl ?_
        refine z_aload_n X (pc := 62) 1 dX11_countOrders_62 rfl rfl ?_
        refine z_dup X (pc := 63) dX11_countOrders_63 rfl ?_
        refine z_get X (pc := 64) 16 zk_32_0 (zc_32_0 E _) rfl inlX11 (by decide) gw_882 rfl rfl dX11_countOrders_64 ?_
        refine z_top (y := (nI q)) ((up3_ne (by omega)).trans hps.2.1) ?_
        refine z_aload_n X (pc := 67) 1 dX11_countOrders_67 rfl rfl ?_
        refine z_get X (pc := 68) 21 zk_32_0 (zc_32_0 E _) rfl inlX11 (by decide) gw_881 rfl rfl dX11_countOrders_68 ?_
        refine z_top (y := 0) up3_same ?_
        refine z_if_eq X (pc := 71) (tgt := 78) dX11_countOrders_71 (by decide) (fun c71 => ?_) (fun c71 => ?_)
        · refine z_iconst X (pc := 78) (v := 1) dX11_countOrders_78 (by decide) ?_
          refine z_iadd X (pc := 79) dX11_countOrders_79 ?_
          refine z_top (y := (nI (q + 1))) (nI_1 _) ?_
          refine z_put X (pc := 80) 16 zk_32_0 (zc_32_0 E _) rfl inlX11 tyX11 tyX11_ok nmX11 (by decide) gw_882 rfl rfl (ty := .int) (by decide +kernel) rfl rfl (Nat.le_of_ble_eq_true rfl) dX11_countOrders_80 rfl ?_
          refine z_aload_n X (pc := 83) 1 dX11_countOrders_83 rfl rfl ?_
          refine z_callV X (pc := 84) (rest := []) kv_X11_readOrder (c_X11_readOrder E (up3 (up3 M1 32 0 21 0) 32 0 16 (nI (q + 1))) t (q + 1) ⟨(TM.u0 (k := 16) (TM.u0 (k := 21) hps.1 (by decide)) (by decide)), up3_same, ((up3_ne (by omega)).trans up3_same)⟩ (by omega) h8) zk_32_0 (zc_32_0 E _) rfl rfl gw_887 (by decide) rfl rfl (Nat.le_of_ble_eq_true rfl) dX11_countOrders_84 (zk_rv (fun M_3 h_4 => ?_))
          refine z_iinc X (pc := 87) (v := (nI (i + 1 + 1))) (lv1 := [(1, .int (nI (i + 1 + 1))), (0, .ref (za E 32 0))]) 0 dX11_countOrders_87 rfl (nI_1 _) (by decide) rfl ?_
          refine z_goto X (pc := 90) (tgt := 16) dX11_countOrders_90 (by decide) ?_
          refine z_sub (lv' := [(1, .int (nI (i + 1 + 1))), (0, .ref (za E 32 0))]) [0, 1] rfl ?_
          exact ih16 ⟨M_3, (pOrd t (q + 1)).2.1, !(pOrd t (q + 1)).1⟩ (by omega) ⟨h_4.1, (Fq.tr (Fq.up (b := 32) (r := 0) (k := 16) (Fq.up (b := 32) (r := 0) (k := 21) hQ (by unfold tP; omega)) (by unfold tP; omega)) h_4.2.2), CoJ.go hl0 hC c31 c50⟩
        · exact absurd (by decide) c71
      · refine z_iconst X (pc := 53) (v := 1) dX11_countOrders_53 (by decide) ?_
        refine z_goto X (pc := 54) (tgt := 58) dX11_countOrders_54 (by decide) ?_
        refine z_ior X (pc := 58) dX11_countOrders_58 ?_
        refine z_top (y := 1) (by decide) ?_
        refine z_put X (pc := 59) 21 zk_32_0 (zc_32_0 E _) rfl inlX11 tyX11 tyX11_ok nmX11 (by decide) gw_881 rfl rfl (ty := .boolean) (by decide +kernel) (by decide) rfl (Nat.le_of_ble_eq_true rfl) dX11_countOrders_59 rfl ?_
        refine z_aload_n X (pc := 62) 1 dX11_countOrders_62 rfl rfl ?_
        refine z_dup X (pc := 63) dX11_countOrders_63 rfl ?_
        refine z_get X (pc := 64) 16 zk_32_0 (zc_32_0 E _) rfl inlX11 (by decide) gw_882 rfl rfl dX11_countOrders_64 ?_
        refine z_top (y := (nI q)) ((up3_ne (by omega)).trans hps.2.1) ?_
        refine z_aload_n X (pc := 67) 1 dX11_countOrders_67 rfl rfl ?_
        refine z_get X (pc := 68) 21 zk_32_0 (zc_32_0 E _) rfl inlX11 (by decide) gw_881 rfl rfl dX11_countOrders_68 ?_
        refine z_top (y := 1) up3_same ?_
        refine z_if_eq X (pc := 71) (tgt := 78) dX11_countOrders_71 (by decide) (fun c71 => ?_) (fun c71 => ?_)
        · exact absurd c71 (by decide)
        · refine z_iconst X (pc := 74) (v := 0) dX11_countOrders_74 (by decide) ?_
          refine z_goto X (pc := 75) (tgt := 79) dX11_countOrders_75 (by decide) ?_
          refine z_iadd X (pc := 79) dX11_countOrders_79 ?_
          refine z_top (y := (nI q)) (Int32.add_zero _) ?_
          refine z_put X (pc := 80) 16 zk_32_0 (zc_32_0 E _) rfl inlX11 tyX11 tyX11_ok nmX11 (by decide) gw_882 rfl rfl (ty := .int) (by decide +kernel) rfl rfl (Nat.le_of_ble_eq_true rfl) dX11_countOrders_80 rfl ?_
          refine z_aload_n X (pc := 83) 1 dX11_countOrders_83 rfl rfl ?_
          refine z_callV X (pc := 84) (rest := []) kv_X11_readOrder (c_X11_readOrder_w E (up3 (up3 M1 32 0 21 1) 32 0 16 (nI q)) t q ⟨(TM.u0 (k := 16) (TM.u0 (k := 21) hps.1 (by decide)) (by decide)), up3_same, ((up3_ne (by omega)).trans up3_same)⟩ (by omega) h8) zk_32_0 (zc_32_0 E _) rfl rfl gw_887 (by decide) rfl rfl (Nat.le_of_ble_eq_true rfl) dX11_countOrders_84 (zk_rv (fun M_5 h_6 => ?_))
          refine z_iinc X (pc := 87) (v := (nI (i + 1 + 1))) (lv1 := [(1, .int (nI (i + 1 + 1))), (0, .ref (za E 32 0))]) 0 dX11_countOrders_87 rfl (nI_1 _) (by decide) rfl ?_
          refine z_goto X (pc := 90) (tgt := 16) dX11_countOrders_90 (by decide) ?_
          refine z_sub (lv' := [(1, .int (nI (i + 1 + 1))), (0, .ref (za E 32 0))]) [0, 1] rfl ?_
          exact ih16 ⟨M_5, q, true⟩ (by omega) ⟨h_6.1, (Fq.tr (Fq.up (b := 32) (r := 0) (k := 16) (Fq.up (b := 32) (r := 0) (k := 21) hQ (by unfold tP; omega)) (by unfold tP; omega)) h_6.2), CoJ.sep hl0 hC c31 c50⟩

def rm_X11_carryOut : Room := { frames := 7, cells := 0, slots := 0, locals := 156 }
theorem kv_X11_carryOut : KV yX11_carryOut RX11 cX11_carryOut 1 (some .int) 0 := ⟨⟨gw_992, gw_993, gw_5, gw_994⟩, by decide +kernel⟩
set_option maxRecDepth 100000 in
set_option maxHeartbeats 4000000 in
theorem c_X11_carryOut (E : ZE) (M : Mem) (g : LG) (hg : gF (M 20 0) = g) (nc nm n : Nat) (hI : Inv g nc nm n) (rs : Rs) (hR : RSm M rs) (hy : List LG) (hH : HM M hy) (htx : M 32 0 11 = zb true) (o : Ord) (ho : OrdIs M o) (hlet : LetO o.1) (hn9 : n < 100000) : Mt E yX11_carryOut cX11_carryOut 1 (some .int) rm_X11_carryOut [.ref (za E 32 0)] M (RI (fun v M1 => MX M g hy true (oOrder g rs o) v M1)) := by
  have hnc := hI.nc; have hnm := hI.nm; have hn := hI.c10; have hn2 := hI.m10
  refine z_met (own := RX11) (lv := [(0, .ref (za E 32 0))]) (by decide) rfl (Nat.le_of_ble_eq_true rfl) rfl (fun gg X Y => ?_)
  refine z_aload_n X (pc := 0) 0 dX11_carryOut_0 rfl rfl ?_
  refine z_get X (pc := 1) 20 zk_32_0 (zc_32_0 E _) rfl inlX11 (by decide) gw_891 rfl rfl dX11_carryOut_1 ?_
  refine z_top (y := o.1) ho.1 ?_
  by_cases hs : (o.1).toInt < 97 ∨ (117 : Int) < (o.1).toInt
  · have e97 : ¬ o.1 = 97 := by intro h; rw [h] at hs; revert hs; decide
    have e104 : ¬ o.1 = 104 := by intro h; rw [h] at hs; revert hs; decide
    have e109 : ¬ o.1 = 109 := by intro h; rw [h] at hs; revert hs; decide
    have e115 : ¬ o.1 = 115 := by intro h; rw [h] at hs; revert hs; decide
    have e98 : ¬ o.1 = 98 := by intro h; rw [h] at hs; revert hs; decide
    have e114 : ¬ o.1 = 114 := by intro h; rw [h] at hs; revert hs; decide
    have e99 : ¬ o.1 = 99 := by intro h; rw [h] at hs; revert hs; decide
    have e112 : ¬ o.1 = 112 := by intro h; rw [h] at hs; revert hs; decide
    have e117 : ¬ o.1 = 117 := by intro h; rw [h] at hs; revert hs; decide
    have e116 : ¬ o.1 = 116 := by intro h; rw [h] at hs; revert hs; decide
    refine z_tableOut X (pc := 4) (tgt := 201) dX11_carryOut_4 hs (by decide) ?_
    exact absurd hlet (by simp [LetO, e97, e104, e109, e115, e98, e114, e99, e112, e117, e116])
  · obtain ⟨j, hj, hx⟩ := sw_in (x := o.1) 97 20 (by decide) (by simpa using hs)
    rcases (show j = 0 ∨ j = 1 ∨ j = 2 ∨ j = 3 ∨ j = 4 ∨ j = 5 ∨ j = 6 ∨ j = 7 ∨ j = 8 ∨ j = 9 ∨ j = 10 ∨ j = 11 ∨ j = 12 ∨ j = 13 ∨ j = 14 ∨ j = 15 ∨ j = 16 ∨ j = 17 ∨ j = 18 ∨ j = 19 ∨ j = 20 by omega) with rfl | rfl | rfl | rfl | rfl | rfl | rfl | rfl | rfl | rfl | rfl | rfl | rfl | rfl | rfl | rfl | rfl | rfl | rfl | rfl | rfl
    · replace hx : o.1 = 97 := hx
      refine z_top hx ?_
      refine z_tableIn X (pc := 4) (off := 152) (tgt := 156) dX11_carryOut_4 (by decide) (by decide) (by rfl) (by decide) ?_
      refine z_aload_n X (pc := 156) 0 dX11_carryOut_156 rfl rfl ?_
      refine z_callV X (pc := 157) (rest := []) kv_X11_season (c_X11_season E M g hg nc nm n hI rs hR hy hH true htx ) zk_32_0 (zc_32_0 E _) rfl rfl gw_999 (by decide) rfl rfl (Nat.le_of_ble_eq_true rfl) dX11_carryOut_157 (zk_ri (fun v_3 M_1 h_2 => ?_))
      exact z_iret X Y dX11_carryOut_160 ⟨_, rfl, by rw [show oOrder g rs o = oSeason g rs  from by simp [oOrder, hx]]; exact h_2⟩
    · replace hx : o.1 = 98 := hx
      refine z_top hx ?_
      refine z_tableIn X (pc := 4) (off := 157) (tgt := 161) dX11_carryOut_4 (by decide) (by decide) (by rfl) (by decide) ?_
      refine z_aload_n X (pc := 161) 0 dX11_carryOut_161 rfl rfl ?_
      refine z_aload_n X (pc := 162) 0 dX11_carryOut_162 rfl rfl ?_
      refine z_get X (pc := 163) 17 zk_32_0 (zc_32_0 E _) rfl inlX11 (by decide) gw_892 rfl rfl dX11_carryOut_163 ?_
      refine z_top (y := o.2.1) (ho.2.1 (by rw [hx]; decide)) ?_
      refine z_aload_n X (pc := 166) 0 dX11_carryOut_166 rfl rfl ?_
      refine z_get X (pc := 167) 18 zk_32_0 (zc_32_0 E _) rfl inlX11 (by decide) gw_893 rfl rfl dX11_carryOut_167 ?_
      refine z_top (y := o.2.2.1) (ho.2.2.1 (by rw [hx]; decide)) ?_
      refine z_callV X (pc := 170) (rest := []) kv_X11_bid (c_X11_bid E M g hg nc nm n hI rs hR hy hH true htx o.2.1 o.2.2.1) zk_32_0 (zc_32_0 E _) rfl rfl gw_1000 (by decide) rfl rfl (Nat.le_of_ble_eq_true rfl) dX11_carryOut_170 (zk_ri (fun v_6 M_4 h_5 => ?_))
      exact z_iret X Y dX11_carryOut_173 ⟨_, rfl, by rw [show oOrder g rs o = oBid g rs o.2.1 o.2.2.1 from by simp [oOrder, hx]]; exact h_5⟩
    · replace hx : o.1 = 99 := hx
      refine z_top hx ?_
      refine z_tableIn X (pc := 4) (off := 170) (tgt := 174) dX11_carryOut_4 (by decide) (by decide) (by rfl) (by decide) ?_
      refine z_aload_n X (pc := 174) 0 dX11_carryOut_174 rfl rfl ?_
      refine z_aload_n X (pc := 175) 0 dX11_carryOut_175 rfl rfl ?_
      refine z_get X (pc := 176) 17 zk_32_0 (zc_32_0 E _) rfl inlX11 (by decide) gw_892 rfl rfl dX11_carryOut_176 ?_
      refine z_top (y := o.2.1) (ho.2.1 (by rw [hx]; decide)) ?_
      refine z_callV X (pc := 179) (rest := []) kv_X11_sell (c_X11_sell E M g hg nc nm n hI rs hR hy hH true htx o.2.1) zk_32_0 (zc_32_0 E _) rfl rfl gw_1001 (by decide) rfl rfl (Nat.le_of_ble_eq_true rfl) dX11_carryOut_179 (zk_ri (fun v_9 M_7 h_8 => ?_))
      exact z_iret X Y dX11_carryOut_182 ⟨_, rfl, by rw [show oOrder g rs o = oSell g rs o.2.1 from by simp [oOrder, hx]]; exact h_8⟩
    · replace hx : o.1 = 100 := hx
      refine z_top hx ?_
      refine z_tableIn X (pc := 4) (off := 197) (tgt := 201) dX11_carryOut_4 (by decide) (by decide) (by rfl) (by decide) ?_
      exact absurd hlet (by rw [hx]; unfold LetO; decide)
    · replace hx : o.1 = 101 := hx
      refine z_top hx ?_
      refine z_tableIn X (pc := 4) (off := 197) (tgt := 201) dX11_carryOut_4 (by decide) (by decide) (by rfl) (by decide) ?_
      exact absurd hlet (by rw [hx]; unfold LetO; decide)
    · replace hx : o.1 = 102 := hx
      refine z_top hx ?_
      refine z_tableIn X (pc := 4) (off := 197) (tgt := 201) dX11_carryOut_4 (by decide) (by decide) (by rfl) (by decide) ?_
      exact absurd hlet (by rw [hx]; unfold LetO; decide)
    · replace hx : o.1 = 103 := hx
      refine z_top hx ?_
      refine z_tableIn X (pc := 4) (off := 197) (tgt := 201) dX11_carryOut_4 (by decide) (by decide) (by rfl) (by decide) ?_
      exact absurd hlet (by rw [hx]; unfold LetO; decide)
    · replace hx : o.1 = 104 := hx
      refine z_top hx ?_
      refine z_tableIn X (pc := 4) (off := 100) (tgt := 104) dX11_carryOut_4 (by decide) (by decide) (by rfl) (by decide) ?_
      refine z_aload_n X (pc := 104) 0 dX11_carryOut_104 rfl rfl ?_
      refine z_aload_n X (pc := 105) 0 dX11_carryOut_105 rfl rfl ?_
      refine z_get X (pc := 106) 17 zk_32_0 (zc_32_0 E _) rfl inlX11 (by decide) gw_892 rfl rfl dX11_carryOut_106 ?_
      refine z_top (y := o.2.1) (ho.2.1 (by rw [hx]; decide)) ?_
      refine z_aload_n X (pc := 109) 0 dX11_carryOut_109 rfl rfl ?_
      refine z_get X (pc := 110) 18 zk_32_0 (zc_32_0 E _) rfl inlX11 (by decide) gw_893 rfl rfl dX11_carryOut_110 ?_
      refine z_top (y := o.2.2.1) (ho.2.2.1 (by rw [hx]; decide)) ?_
      refine z_callV X (pc := 113) (rest := []) kv_X11_chair (c_X11_chair E M g hg nc nm n hI rs hR hy hH true htx o.2.1 o.2.2.1) zk_32_0 (zc_32_0 E _) rfl rfl gw_995 (by decide) rfl rfl (Nat.le_of_ble_eq_true rfl) dX11_carryOut_113 (zk_ri (fun v_12 M_10 h_11 => ?_))
      exact z_iret X Y dX11_carryOut_116 ⟨_, rfl, by rw [show oOrder g rs o = oBringC g rs o.2.1 o.2.2.1 from by simp [oOrder, hx]]; exact h_11⟩
    · replace hx : o.1 = 105 := hx
      refine z_top hx ?_
      refine z_tableIn X (pc := 4) (off := 197) (tgt := 201) dX11_carryOut_4 (by decide) (by decide) (by rfl) (by decide) ?_
      exact absurd hlet (by rw [hx]; unfold LetO; decide)
    · replace hx : o.1 = 106 := hx
      refine z_top hx ?_
      refine z_tableIn X (pc := 4) (off := 197) (tgt := 201) dX11_carryOut_4 (by decide) (by decide) (by rfl) (by decide) ?_
      exact absurd hlet (by rw [hx]; unfold LetO; decide)
    · replace hx : o.1 = 107 := hx
      refine z_top hx ?_
      refine z_tableIn X (pc := 4) (off := 197) (tgt := 201) dX11_carryOut_4 (by decide) (by decide) (by rfl) (by decide) ?_
      exact absurd hlet (by rw [hx]; unfold LetO; decide)
    · replace hx : o.1 = 108 := hx
      refine z_top hx ?_
      refine z_tableIn X (pc := 4) (off := 197) (tgt := 201) dX11_carryOut_4 (by decide) (by decide) (by rfl) (by decide) ?_
      exact absurd hlet (by rw [hx]; unfold LetO; decide)
    · replace hx : o.1 = 109 := hx
      refine z_top hx ?_
      refine z_tableIn X (pc := 4) (off := 113) (tgt := 117) dX11_carryOut_4 (by decide) (by decide) (by rfl) (by decide) ?_
      refine z_aload_n X (pc := 117) 0 dX11_carryOut_117 rfl rfl ?_
      refine z_aload_n X (pc := 118) 0 dX11_carryOut_118 rfl rfl ?_
      refine z_get X (pc := 119) 17 zk_32_0 (zc_32_0 E _) rfl inlX11 (by decide) gw_892 rfl rfl dX11_carryOut_119 ?_
      refine z_top (y := o.2.1) (ho.2.1 (by rw [hx]; decide)) ?_
      refine z_aload_n X (pc := 122) 0 dX11_carryOut_122 rfl rfl ?_
      refine z_get X (pc := 123) 18 zk_32_0 (zc_32_0 E _) rfl inlX11 (by decide) gw_893 rfl rfl dX11_carryOut_123 ?_
      refine z_top (y := o.2.2.1) (ho.2.2.1 (by rw [hx]; decide)) ?_
      refine z_aload_n X (pc := 126) 0 dX11_carryOut_126 rfl rfl ?_
      refine z_get X (pc := 127) 19 zk_32_0 (zc_32_0 E _) rfl inlX11 (by decide) gw_894 rfl rfl dX11_carryOut_127 ?_
      refine z_top (y := o.2.2.2) (ho.2.2.2 (by rw [hx])) ?_
      refine z_callV X (pc := 130) (rest := []) kv_X11_musician (c_X11_musician E M g hg nc nm n hI rs hR hy hH true htx o.2.1 o.2.2.1 o.2.2.2) zk_32_0 (zc_32_0 E _) rfl rfl gw_996 (by decide) rfl rfl (Nat.le_of_ble_eq_true rfl) dX11_carryOut_130 (zk_ri (fun v_15 M_13 h_14 => ?_))
      exact z_iret X Y dX11_carryOut_133 ⟨_, rfl, by rw [show oOrder g rs o = oBringM g rs o.2.1 o.2.2.1 o.2.2.2 from by simp [oOrder, hx]]; exact h_14⟩
    · replace hx : o.1 = 110 := hx
      refine z_top hx ?_
      refine z_tableIn X (pc := 4) (off := 197) (tgt := 201) dX11_carryOut_4 (by decide) (by decide) (by rfl) (by decide) ?_
      exact absurd hlet (by rw [hx]; unfold LetO; decide)
    · replace hx : o.1 = 111 := hx
      refine z_top hx ?_
      refine z_tableIn X (pc := 4) (off := 197) (tgt := 201) dX11_carryOut_4 (by decide) (by decide) (by rfl) (by decide) ?_
      exact absurd hlet (by rw [hx]; unfold LetO; decide)
    · replace hx : o.1 = 112 := hx
      refine z_top hx ?_
      refine z_tableIn X (pc := 4) (off := 179) (tgt := 183) dX11_carryOut_4 (by decide) (by decide) (by rfl) (by decide) ?_
      refine z_aload_n X (pc := 183) 0 dX11_carryOut_183 rfl rfl ?_
      refine z_aload_n X (pc := 184) 0 dX11_carryOut_184 rfl rfl ?_
      refine z_get X (pc := 185) 17 zk_32_0 (zc_32_0 E _) rfl inlX11 (by decide) gw_892 rfl rfl dX11_carryOut_185 ?_
      refine z_top (y := o.2.1) (ho.2.1 (by rw [hx]; decide)) ?_
      refine z_callV X (pc := 188) (rest := []) kv_X11_concert (c_X11_concert E M g hg nc nm n hI rs hR hy hH true htx o.2.1 hn9) zk_32_0 (zc_32_0 E _) rfl rfl gw_1002 (by decide) rfl rfl (Nat.le_of_ble_eq_true rfl) dX11_carryOut_188 (zk_ri (fun v_18 M_16 h_17 => ?_))
      exact z_iret X Y dX11_carryOut_191 ⟨_, rfl, by rw [show oOrder g rs o = oConcert g rs o.2.1 from by simp [oOrder, hx]]; exact h_17⟩
    · replace hx : o.1 = 113 := hx
      refine z_top hx ?_
      refine z_tableIn X (pc := 4) (off := 197) (tgt := 201) dX11_carryOut_4 (by decide) (by decide) (by rfl) (by decide) ?_
      exact absurd hlet (by rw [hx]; unfold LetO; decide)
    · replace hx : o.1 = 114 := hx
      refine z_top hx ?_
      refine z_tableIn X (pc := 4) (off := 143) (tgt := 147) dX11_carryOut_4 (by decide) (by decide) (by rfl) (by decide) ?_
      refine z_aload_n X (pc := 147) 0 dX11_carryOut_147 rfl rfl ?_
      refine z_aload_n X (pc := 148) 0 dX11_carryOut_148 rfl rfl ?_
      refine z_get X (pc := 149) 17 zk_32_0 (zc_32_0 E _) rfl inlX11 (by decide) gw_892 rfl rfl dX11_carryOut_149 ?_
      refine z_top (y := o.2.1) (ho.2.1 (by rw [hx]; decide)) ?_
      refine z_callV X (pc := 152) (rest := []) kv_X11_rise (c_X11_rise E M g hg nc nm n hI rs hR hy hH true htx o.2.1) zk_32_0 (zc_32_0 E _) rfl rfl gw_998 (by decide) rfl rfl (Nat.le_of_ble_eq_true rfl) dX11_carryOut_152 (zk_ri (fun v_21 M_19 h_20 => ?_))
      exact z_iret X Y dX11_carryOut_155 ⟨_, rfl, by rw [show oOrder g rs o = oRise g rs o.2.1 from by simp [oOrder, hx]]; exact h_20⟩
    · replace hx : o.1 = 115 := hx
      refine z_top hx ?_
      refine z_tableIn X (pc := 4) (off := 130) (tgt := 134) dX11_carryOut_4 (by decide) (by decide) (by rfl) (by decide) ?_
      refine z_aload_n X (pc := 134) 0 dX11_carryOut_134 rfl rfl ?_
      refine z_aload_n X (pc := 135) 0 dX11_carryOut_135 rfl rfl ?_
      refine z_get X (pc := 136) 17 zk_32_0 (zc_32_0 E _) rfl inlX11 (by decide) gw_892 rfl rfl dX11_carryOut_136 ?_
      refine z_top (y := o.2.1) (ho.2.1 (by rw [hx]; decide)) ?_
      refine z_aload_n X (pc := 139) 0 dX11_carryOut_139 rfl rfl ?_
      refine z_get X (pc := 140) 18 zk_32_0 (zc_32_0 E _) rfl inlX11 (by decide) gw_893 rfl rfl dX11_carryOut_140 ?_
      refine z_top (y := o.2.2.1) (ho.2.2.1 (by rw [hx]; decide)) ?_
      refine z_callV X (pc := 143) (rest := []) kv_X11_seat (c_X11_seat E M g hg nc nm n hI rs hR hy hH true htx o.2.1 o.2.2.1) zk_32_0 (zc_32_0 E _) rfl rfl gw_997 (by decide) rfl rfl (Nat.le_of_ble_eq_true rfl) dX11_carryOut_143 (zk_ri (fun v_24 M_22 h_23 => ?_))
      exact z_iret X Y dX11_carryOut_146 ⟨_, rfl, by rw [show oOrder g rs o = oSeat g rs o.2.1 o.2.2.1 from by simp [oOrder, hx]]; exact h_23⟩
    · replace hx : o.1 = 116 := hx
      refine z_top hx ?_
      refine z_tableIn X (pc := 4) (off := 197) (tgt := 201) dX11_carryOut_4 (by decide) (by decide) (by rfl) (by decide) ?_
      refine z_aload_n X (pc := 201) 0 dX11_carryOut_201 rfl rfl ?_
      refine z_aload_n X (pc := 202) 0 dX11_carryOut_202 rfl rfl ?_
      refine z_get X (pc := 203) 17 zk_32_0 (zc_32_0 E _) rfl inlX11 (by decide) gw_892 rfl rfl dX11_carryOut_203 ?_
      refine z_top (y := o.2.1) (ho.2.1 (by rw [hx]; decide)) ?_
      refine z_callV X (pc := 206) (rest := []) kv_X11_promote (c_X11_promote E M g hg nc nm n hI rs hR hy hH true htx o.2.1) zk_32_0 (zc_32_0 E _) rfl rfl gw_1004 (by decide) rfl rfl (Nat.le_of_ble_eq_true rfl) dX11_carryOut_206 (zk_ri (fun v_27 M_25 h_26 => ?_))
      exact z_iret X Y dX11_carryOut_209 ⟨_, rfl, by rw [show oOrder g rs o = oPromote g rs o.2.1 from by simp [oOrder, hx]]; exact h_26⟩
    · replace hx : o.1 = 117 := hx
      refine z_top hx ?_
      refine z_tableIn X (pc := 4) (off := 188) (tgt := 192) dX11_carryOut_4 (by decide) (by decide) (by rfl) (by decide) ?_
      refine z_aload_n X (pc := 192) 0 dX11_carryOut_192 rfl rfl ?_
      refine z_aload_n X (pc := 193) 0 dX11_carryOut_193 rfl rfl ?_
      refine z_get X (pc := 194) 17 zk_32_0 (zc_32_0 E _) rfl inlX11 (by decide) gw_892 rfl rfl dX11_carryOut_194 ?_
      refine z_top (y := o.2.1) (ho.2.1 (by rw [hx]; decide)) ?_
      refine z_callV X (pc := 197) (rest := []) kv_X11_raise (c_X11_raise E M g hg nc nm n hI rs hR hy hH true htx o.2.1) zk_32_0 (zc_32_0 E _) rfl rfl gw_1003 (by decide) rfl rfl (Nat.le_of_ble_eq_true rfl) dX11_carryOut_197 (zk_ri (fun v_30 M_28 h_29 => ?_))
      exact z_iret X Y dX11_carryOut_200 ⟨_, rfl, by rw [show oOrder g rs o = oRaise g rs o.2.1 from by simp [oOrder, hx]]; exact h_29⟩

def rm_X11_refuseText : Room := { frames := 0, cells := 0, slots := 0, locals := 0 }
theorem kv_X11_refuseText : KV yX11_refuseText RX11 cX11_refuseText 4 none 2 := ⟨⟨gw_1006, gw_1007, gw_5, gw_1008⟩, by decide +kernel⟩
set_option maxRecDepth 100000 in
set_option maxHeartbeats 4000000 in
theorem c_X11_refuseText (E : ZE) (M : Mem) (rs : Rs) (hR : RSm M rs) (k : Nat) (hl : rs.length ≤ 2) : Mt E yX11_refuseText cX11_refuseText 4 none rm_X11_refuseText [.ref (za E 32 0), .int 1, .int (nI k)] M (RV (fun M1 => RSm M1 ((15, nI k) :: rs) ∧ Fq tR M M1)) := by
  refine z_met (own := RX11) (lv := [(0, .ref (za E 32 0)), (1, .int 1), (2, .int (nI k))]) (by decide) rfl (Nat.le_of_ble_eq_true rfl) rfl (fun gg X Y => ?_)
  rcases rs with _ | ⟨a, _ | ⟨b, _ | ⟨c, tl⟩⟩⟩
  · refine z_aload_n X (pc := 0) 0 dX11_refuseText_0 rfl rfl ?_
    refine z_iload_n X (pc := 1) 1 dX11_refuseText_1 rfl rfl ?_
    refine z_if_eq X (pc := 2) (tgt := 12) dX11_refuseText_2 (by decide) (fun c2 => ?_) (fun c2 => ?_)
    · exact absurd c2 (by decide)
    · refine z_aload_n X (pc := 5) 0 dX11_refuseText_5 rfl rfl ?_
      refine z_get X (pc := 6) 9 zk_32_0 (zc_32_0 E _) rfl inlX11 (by decide) gw_247 rfl rfl dX11_refuseText_6 ?_
      refine z_top (y := 0) (show M 32 0 9 = 0 from hR.1) ?_
      refine z_goto X (pc := 9) (tgt := 13) dX11_refuseText_9 (by decide) ?_
      refine z_put X (pc := 13) 9 zk_32_0 (zc_32_0 E _) rfl inlX11 tyX11 tyX11_ok nmX11 (by decide) gw_247 rfl rfl (ty := .int) (by decide +kernel) rfl rfl (Nat.le_of_ble_eq_true rfl) dX11_refuseText_13 rfl ?_
      refine z_aload_n X (pc := 16) 0 dX11_refuseText_16 rfl rfl ?_
      refine z_get X (pc := 17) 9 zk_32_0 (zc_32_0 E _) rfl inlX11 (by decide) gw_247 rfl rfl dX11_refuseText_17 ?_
      refine z_top (y := 0) (show (up3 M 32 0 9 0) 32 0 9 = 0 from by simp [up3]) ?_
      refine z_istore_n X (pc := 20) (lv1 := [(3, .int 0), (0, .ref (za E 32 0)), (1, .int 1), (2, .int (nI k))]) dX11_refuseText_20 rfl (by decide) rfl ?_
      refine z_iload_n X (pc := 21) 0 dX11_refuseText_21 rfl rfl ?_
      refine z_if_le X (pc := 22) (tgt := 59) dX11_refuseText_22 (by decide) (fun c22 => ?_) (fun c22 => ?_)
      · refine z_aload_n X (pc := 59) 1 dX11_refuseText_59 rfl rfl ?_
        refine z_get X (pc := 60) 5 zk_32_0 (zc_32_0 E _) rfl inlX11 (by decide) gw_144 rfl rfl dX11_refuseText_60 ?_
        refine z_iconst X (pc := 63) (v := 0) dX11_refuseText_63 (by decide) ?_
        refine z_bipush X (pc := 64) (v := 15) dX11_refuseText_64 (by decide) ?_
        refine z_iast X (pc := 66) (by decide) (show (0 : Int32) = nI 0 from rfl) (by decide) dX11_refuseText_66 ?_
        refine z_aload_n X (pc := 67) 1 dX11_refuseText_67 rfl rfl ?_
        refine z_get X (pc := 68) 6 zk_32_0 (zc_32_0 E _) rfl inlX11 (by decide) gw_145 rfl rfl dX11_refuseText_68 ?_
        refine z_iconst X (pc := 71) (v := 0) dX11_refuseText_71 (by decide) ?_
        refine z_iload_n X (pc := 72) 3 dX11_refuseText_72 rfl rfl ?_
        refine z_iast X (pc := 73) (by decide) (show (0 : Int32) = nI 0 from rfl) (by decide) dX11_refuseText_73 ?_
        refine z_aload_n X (pc := 74) 1 dX11_refuseText_74 rfl rfl ?_
        refine z_dup X (pc := 75) dX11_refuseText_75 rfl ?_
        refine z_get X (pc := 76) 9 zk_32_0 (zc_32_0 E _) rfl inlX11 (by decide) gw_247 rfl rfl dX11_refuseText_76 ?_
        refine z_top (y := 0) (show (up3 (up3 (up3 M 32 0 9 0) 32 1 0 15) 32 2 0 (nI k)) 32 0 9 = 0 from by simp [up3]) ?_
        refine z_iconst X (pc := 79) (v := 1) dX11_refuseText_79 (by decide) ?_
        refine z_iadd X (pc := 80) dX11_refuseText_80 ?_
        refine z_top (y := 1) (by decide) ?_
        refine z_put X (pc := 81) 9 zk_32_0 (zc_32_0 E _) rfl inlX11 tyX11 tyX11_ok nmX11 (by decide) gw_247 rfl rfl (ty := .int) (by decide +kernel) rfl rfl (Nat.le_of_ble_eq_true rfl) dX11_refuseText_81 rfl ?_
        exact z_vret X Y dX11_refuseText_84 ⟨rfl, Rm_text (rs := []) (M := M) hR up3_same (by simp [up3]) (fun i hi => absurd hi (Nat.not_lt_zero i)) (show 0 ≤ 2 by decide), (((((Fq.rf (P := tR) (M := M)).up (by unfold tR; omega)).up (by unfold tR; omega)).up (by unfold tR; omega)).up (by unfold tR; omega))⟩
      · exact absurd (by decide) c22
  · refine z_aload_n X (pc := 0) 0 dX11_refuseText_0 rfl rfl ?_
    refine z_iload_n X (pc := 1) 1 dX11_refuseText_1 rfl rfl ?_
    refine z_if_eq X (pc := 2) (tgt := 12) dX11_refuseText_2 (by decide) (fun c2 => ?_) (fun c2 => ?_)
    · exact absurd c2 (by decide)
    · refine z_aload_n X (pc := 5) 0 dX11_refuseText_5 rfl rfl ?_
      refine z_get X (pc := 6) 9 zk_32_0 (zc_32_0 E _) rfl inlX11 (by decide) gw_247 rfl rfl dX11_refuseText_6 ?_
      refine z_top (y := 1) (show M 32 0 9 = 1 from hR.1) ?_
      refine z_goto X (pc := 9) (tgt := 13) dX11_refuseText_9 (by decide) ?_
      refine z_put X (pc := 13) 9 zk_32_0 (zc_32_0 E _) rfl inlX11 tyX11 tyX11_ok nmX11 (by decide) gw_247 rfl rfl (ty := .int) (by decide +kernel) rfl rfl (Nat.le_of_ble_eq_true rfl) dX11_refuseText_13 rfl ?_
      refine z_aload_n X (pc := 16) 0 dX11_refuseText_16 rfl rfl ?_
      refine z_get X (pc := 17) 9 zk_32_0 (zc_32_0 E _) rfl inlX11 (by decide) gw_247 rfl rfl dX11_refuseText_17 ?_
      refine z_top (y := 1) (show (up3 M 32 0 9 1) 32 0 9 = 1 from by simp [up3]) ?_
      refine z_istore_n X (pc := 20) (lv1 := [(3, .int 1), (0, .ref (za E 32 0)), (1, .int 1), (2, .int (nI k))]) dX11_refuseText_20 rfl (by decide) rfl ?_
      refine z_iload_n X (pc := 21) 0 dX11_refuseText_21 rfl rfl ?_
      refine z_if_le X (pc := 22) (tgt := 59) dX11_refuseText_22 (by decide) (fun c22 => ?_) (fun c22 => ?_)
      · exact absurd c22 (by decide)
      · refine z_aload_n X (pc := 25) 1 dX11_refuseText_25 rfl rfl ?_
        refine z_get X (pc := 26) 5 zk_32_0 (zc_32_0 E _) rfl inlX11 (by decide) gw_144 rfl rfl dX11_refuseText_26 ?_
        refine z_iload_n X (pc := 29) 0 dX11_refuseText_29 rfl rfl ?_
        refine z_aload_n X (pc := 30) 1 dX11_refuseText_30 rfl rfl ?_
        refine z_get X (pc := 31) 5 zk_32_0 (zc_32_0 E _) rfl inlX11 (by decide) gw_144 rfl rfl dX11_refuseText_31 ?_
        refine z_iload_n X (pc := 34) 0 dX11_refuseText_34 rfl rfl ?_
        refine z_iconst X (pc := 35) (v := 1) dX11_refuseText_35 (by decide) ?_
        refine z_isub X (pc := 36) dX11_refuseText_36 ?_
        refine z_top (y := 0) (by decide) ?_
        refine z_iald X (pc := 37) (by decide) (show (0 : Int32) = nI 0 from rfl) (by decide) dX11_refuseText_37 ?_
        refine z_iast X (pc := 38) (by decide) (show (1 : Int32) = nI 1 from rfl) (by decide) dX11_refuseText_38 ?_
        refine z_aload_n X (pc := 39) 1 dX11_refuseText_39 rfl rfl ?_
        refine z_get X (pc := 40) 6 zk_32_0 (zc_32_0 E _) rfl inlX11 (by decide) gw_145 rfl rfl dX11_refuseText_40 ?_
        refine z_iload_n X (pc := 43) 0 dX11_refuseText_43 rfl rfl ?_
        refine z_aload_n X (pc := 44) 1 dX11_refuseText_44 rfl rfl ?_
        refine z_get X (pc := 45) 6 zk_32_0 (zc_32_0 E _) rfl inlX11 (by decide) gw_145 rfl rfl dX11_refuseText_45 ?_
        refine z_iload_n X (pc := 48) 0 dX11_refuseText_48 rfl rfl ?_
        refine z_iconst X (pc := 49) (v := 1) dX11_refuseText_49 (by decide) ?_
        refine z_isub X (pc := 50) dX11_refuseText_50 ?_
        refine z_top (y := 0) (by decide) ?_
        refine z_iald X (pc := 51) (by decide) (show (0 : Int32) = nI 0 from rfl) (by decide) dX11_refuseText_51 ?_
        refine z_iast X (pc := 52) (by decide) (show (1 : Int32) = nI 1 from rfl) (by decide) dX11_refuseText_52 ?_
        refine z_iinc X (pc := 53) (v := 0) (lv1 := [(3, .int 0), (0, .ref (za E 32 0)), (1, .int 1), (2, .int (nI k))]) 0 dX11_refuseText_53 rfl (by decide) (by decide) rfl ?_
        refine z_goto X (pc := 56) (tgt := 21) dX11_refuseText_56 (by decide) ?_
        refine z_iload_n X (pc := 21) 0 dX11_refuseText_21 rfl rfl ?_
        refine z_if_le X (pc := 22) (tgt := 59) dX11_refuseText_22 (by decide) (fun c22_1 => ?_) (fun c22_1 => ?_)
        · refine z_aload_n X (pc := 59) 1 dX11_refuseText_59 rfl rfl ?_
          refine z_get X (pc := 60) 5 zk_32_0 (zc_32_0 E _) rfl inlX11 (by decide) gw_144 rfl rfl dX11_refuseText_60 ?_
          refine z_iconst X (pc := 63) (v := 0) dX11_refuseText_63 (by decide) ?_
          refine z_bipush X (pc := 64) (v := 15) dX11_refuseText_64 (by decide) ?_
          refine z_iast X (pc := 66) (by decide) (show (0 : Int32) = nI 0 from rfl) (by decide) dX11_refuseText_66 ?_
          refine z_aload_n X (pc := 67) 1 dX11_refuseText_67 rfl rfl ?_
          refine z_get X (pc := 68) 6 zk_32_0 (zc_32_0 E _) rfl inlX11 (by decide) gw_145 rfl rfl dX11_refuseText_68 ?_
          refine z_iconst X (pc := 71) (v := 0) dX11_refuseText_71 (by decide) ?_
          refine z_iload_n X (pc := 72) 3 dX11_refuseText_72 rfl rfl ?_
          refine z_iast X (pc := 73) (by decide) (show (0 : Int32) = nI 0 from rfl) (by decide) dX11_refuseText_73 ?_
          refine z_aload_n X (pc := 74) 1 dX11_refuseText_74 rfl rfl ?_
          refine z_dup X (pc := 75) dX11_refuseText_75 rfl ?_
          refine z_get X (pc := 76) 9 zk_32_0 (zc_32_0 E _) rfl inlX11 (by decide) gw_247 rfl rfl dX11_refuseText_76 ?_
          refine z_top (y := 1) (show (up3 (up3 (up3 (up3 (up3 M 32 0 9 1) 32 1 1 ((up3 M 32 0 9 1) 32 1 0)) 32 2 1 ((up3 (up3 M 32 0 9 1) 32 1 1 ((up3 M 32 0 9 1) 32 1 0)) 32 2 0)) 32 1 0 15) 32 2 0 (nI k)) 32 0 9 = 1 from by simp [up3]) ?_
          refine z_iconst X (pc := 79) (v := 1) dX11_refuseText_79 (by decide) ?_
          refine z_iadd X (pc := 80) dX11_refuseText_80 ?_
          refine z_top (y := 2) (by decide) ?_
          refine z_put X (pc := 81) 9 zk_32_0 (zc_32_0 E _) rfl inlX11 tyX11 tyX11_ok nmX11 (by decide) gw_247 rfl rfl (ty := .int) (by decide +kernel) rfl rfl (Nat.le_of_ble_eq_true rfl) dX11_refuseText_81 rfl ?_
          exact z_vret X Y dX11_refuseText_84 ⟨rfl, Rm_text (rs := [a]) (M := M) hR up3_same (by simp [up3]) (fun i hi => by rcases (show i = 0 by have hi : i < 1 := hi; omega) with rfl <;> simp [up3]) (show 1 ≤ 2 by decide), (((((((Fq.rf (P := tR) (M := M)).up (by unfold tR; omega)).up (by unfold tR; omega)).up (by unfold tR; omega)).up (by unfold tR; omega)).up (by unfold tR; omega)).up (by unfold tR; omega))⟩
        · exact absurd (by decide) c22_1
  · refine z_aload_n X (pc := 0) 0 dX11_refuseText_0 rfl rfl ?_
    refine z_iload_n X (pc := 1) 1 dX11_refuseText_1 rfl rfl ?_
    refine z_if_eq X (pc := 2) (tgt := 12) dX11_refuseText_2 (by decide) (fun c2 => ?_) (fun c2 => ?_)
    · exact absurd c2 (by decide)
    · refine z_aload_n X (pc := 5) 0 dX11_refuseText_5 rfl rfl ?_
      refine z_get X (pc := 6) 9 zk_32_0 (zc_32_0 E _) rfl inlX11 (by decide) gw_247 rfl rfl dX11_refuseText_6 ?_
      refine z_top (y := 2) (show M 32 0 9 = 2 from hR.1) ?_
      refine z_goto X (pc := 9) (tgt := 13) dX11_refuseText_9 (by decide) ?_
      refine z_put X (pc := 13) 9 zk_32_0 (zc_32_0 E _) rfl inlX11 tyX11 tyX11_ok nmX11 (by decide) gw_247 rfl rfl (ty := .int) (by decide +kernel) rfl rfl (Nat.le_of_ble_eq_true rfl) dX11_refuseText_13 rfl ?_
      refine z_aload_n X (pc := 16) 0 dX11_refuseText_16 rfl rfl ?_
      refine z_get X (pc := 17) 9 zk_32_0 (zc_32_0 E _) rfl inlX11 (by decide) gw_247 rfl rfl dX11_refuseText_17 ?_
      refine z_top (y := 2) (show (up3 M 32 0 9 2) 32 0 9 = 2 from by simp [up3]) ?_
      refine z_istore_n X (pc := 20) (lv1 := [(3, .int 2), (0, .ref (za E 32 0)), (1, .int 1), (2, .int (nI k))]) dX11_refuseText_20 rfl (by decide) rfl ?_
      refine z_iload_n X (pc := 21) 0 dX11_refuseText_21 rfl rfl ?_
      refine z_if_le X (pc := 22) (tgt := 59) dX11_refuseText_22 (by decide) (fun c22 => ?_) (fun c22 => ?_)
      · exact absurd c22 (by decide)
      · refine z_aload_n X (pc := 25) 1 dX11_refuseText_25 rfl rfl ?_
        refine z_get X (pc := 26) 5 zk_32_0 (zc_32_0 E _) rfl inlX11 (by decide) gw_144 rfl rfl dX11_refuseText_26 ?_
        refine z_iload_n X (pc := 29) 0 dX11_refuseText_29 rfl rfl ?_
        refine z_aload_n X (pc := 30) 1 dX11_refuseText_30 rfl rfl ?_
        refine z_get X (pc := 31) 5 zk_32_0 (zc_32_0 E _) rfl inlX11 (by decide) gw_144 rfl rfl dX11_refuseText_31 ?_
        refine z_iload_n X (pc := 34) 0 dX11_refuseText_34 rfl rfl ?_
        refine z_iconst X (pc := 35) (v := 1) dX11_refuseText_35 (by decide) ?_
        refine z_isub X (pc := 36) dX11_refuseText_36 ?_
        refine z_top (y := 1) (by decide) ?_
        refine z_iald X (pc := 37) (by decide) (show (1 : Int32) = nI 1 from rfl) (by decide) dX11_refuseText_37 ?_
        refine z_iast X (pc := 38) (by decide) (show (2 : Int32) = nI 2 from rfl) (by decide) dX11_refuseText_38 ?_
        refine z_aload_n X (pc := 39) 1 dX11_refuseText_39 rfl rfl ?_
        refine z_get X (pc := 40) 6 zk_32_0 (zc_32_0 E _) rfl inlX11 (by decide) gw_145 rfl rfl dX11_refuseText_40 ?_
        refine z_iload_n X (pc := 43) 0 dX11_refuseText_43 rfl rfl ?_
        refine z_aload_n X (pc := 44) 1 dX11_refuseText_44 rfl rfl ?_
        refine z_get X (pc := 45) 6 zk_32_0 (zc_32_0 E _) rfl inlX11 (by decide) gw_145 rfl rfl dX11_refuseText_45 ?_
        refine z_iload_n X (pc := 48) 0 dX11_refuseText_48 rfl rfl ?_
        refine z_iconst X (pc := 49) (v := 1) dX11_refuseText_49 (by decide) ?_
        refine z_isub X (pc := 50) dX11_refuseText_50 ?_
        refine z_top (y := 1) (by decide) ?_
        refine z_iald X (pc := 51) (by decide) (show (1 : Int32) = nI 1 from rfl) (by decide) dX11_refuseText_51 ?_
        refine z_iast X (pc := 52) (by decide) (show (2 : Int32) = nI 2 from rfl) (by decide) dX11_refuseText_52 ?_
        refine z_iinc X (pc := 53) (v := 1) (lv1 := [(3, .int 1), (0, .ref (za E 32 0)), (1, .int 1), (2, .int (nI k))]) 0 dX11_refuseText_53 rfl (by decide) (by decide) rfl ?_
        refine z_goto X (pc := 56) (tgt := 21) dX11_refuseText_56 (by decide) ?_
        refine z_iload_n X (pc := 21) 0 dX11_refuseText_21 rfl rfl ?_
        refine z_if_le X (pc := 22) (tgt := 59) dX11_refuseText_22 (by decide) (fun c22_2 => ?_) (fun c22_2 => ?_)
        · exact absurd c22_2 (by decide)
        · refine z_aload_n X (pc := 25) 1 dX11_refuseText_25 rfl rfl ?_
          refine z_get X (pc := 26) 5 zk_32_0 (zc_32_0 E _) rfl inlX11 (by decide) gw_144 rfl rfl dX11_refuseText_26 ?_
          refine z_iload_n X (pc := 29) 0 dX11_refuseText_29 rfl rfl ?_
          refine z_aload_n X (pc := 30) 1 dX11_refuseText_30 rfl rfl ?_
          refine z_get X (pc := 31) 5 zk_32_0 (zc_32_0 E _) rfl inlX11 (by decide) gw_144 rfl rfl dX11_refuseText_31 ?_
          refine z_iload_n X (pc := 34) 0 dX11_refuseText_34 rfl rfl ?_
          refine z_iconst X (pc := 35) (v := 1) dX11_refuseText_35 (by decide) ?_
          refine z_isub X (pc := 36) dX11_refuseText_36 ?_
          refine z_top (y := 0) (by decide) ?_
          refine z_iald X (pc := 37) (by decide) (show (0 : Int32) = nI 0 from rfl) (by decide) dX11_refuseText_37 ?_
          refine z_iast X (pc := 38) (by decide) (show (1 : Int32) = nI 1 from rfl) (by decide) dX11_refuseText_38 ?_
          refine z_aload_n X (pc := 39) 1 dX11_refuseText_39 rfl rfl ?_
          refine z_get X (pc := 40) 6 zk_32_0 (zc_32_0 E _) rfl inlX11 (by decide) gw_145 rfl rfl dX11_refuseText_40 ?_
          refine z_iload_n X (pc := 43) 0 dX11_refuseText_43 rfl rfl ?_
          refine z_aload_n X (pc := 44) 1 dX11_refuseText_44 rfl rfl ?_
          refine z_get X (pc := 45) 6 zk_32_0 (zc_32_0 E _) rfl inlX11 (by decide) gw_145 rfl rfl dX11_refuseText_45 ?_
          refine z_iload_n X (pc := 48) 0 dX11_refuseText_48 rfl rfl ?_
          refine z_iconst X (pc := 49) (v := 1) dX11_refuseText_49 (by decide) ?_
          refine z_isub X (pc := 50) dX11_refuseText_50 ?_
          refine z_top (y := 0) (by decide) ?_
          refine z_iald X (pc := 51) (by decide) (show (0 : Int32) = nI 0 from rfl) (by decide) dX11_refuseText_51 ?_
          refine z_iast X (pc := 52) (by decide) (show (1 : Int32) = nI 1 from rfl) (by decide) dX11_refuseText_52 ?_
          refine z_iinc X (pc := 53) (v := 0) (lv1 := [(3, .int 0), (0, .ref (za E 32 0)), (1, .int 1), (2, .int (nI k))]) 0 dX11_refuseText_53 rfl (by decide) (by decide) rfl ?_
          refine z_goto X (pc := 56) (tgt := 21) dX11_refuseText_56 (by decide) ?_
          refine z_iload_n X (pc := 21) 0 dX11_refuseText_21 rfl rfl ?_
          refine z_if_le X (pc := 22) (tgt := 59) dX11_refuseText_22 (by decide) (fun c22_3 => ?_) (fun c22_3 => ?_)
          · refine z_aload_n X (pc := 59) 1 dX11_refuseText_59 rfl rfl ?_
            refine z_get X (pc := 60) 5 zk_32_0 (zc_32_0 E _) rfl inlX11 (by decide) gw_144 rfl rfl dX11_refuseText_60 ?_
            refine z_iconst X (pc := 63) (v := 0) dX11_refuseText_63 (by decide) ?_
            refine z_bipush X (pc := 64) (v := 15) dX11_refuseText_64 (by decide) ?_
            refine z_iast X (pc := 66) (by decide) (show (0 : Int32) = nI 0 from rfl) (by decide) dX11_refuseText_66 ?_
            refine z_aload_n X (pc := 67) 1 dX11_refuseText_67 rfl rfl ?_
            refine z_get X (pc := 68) 6 zk_32_0 (zc_32_0 E _) rfl inlX11 (by decide) gw_145 rfl rfl dX11_refuseText_68 ?_
            refine z_iconst X (pc := 71) (v := 0) dX11_refuseText_71 (by decide) ?_
            refine z_iload_n X (pc := 72) 3 dX11_refuseText_72 rfl rfl ?_
            refine z_iast X (pc := 73) (by decide) (show (0 : Int32) = nI 0 from rfl) (by decide) dX11_refuseText_73 ?_
            refine z_aload_n X (pc := 74) 1 dX11_refuseText_74 rfl rfl ?_
            refine z_dup X (pc := 75) dX11_refuseText_75 rfl ?_
            refine z_get X (pc := 76) 9 zk_32_0 (zc_32_0 E _) rfl inlX11 (by decide) gw_247 rfl rfl dX11_refuseText_76 ?_
            refine z_top (y := 2) (show (up3 (up3 (up3 (up3 (up3 (up3 (up3 M 32 0 9 2) 32 1 2 ((up3 M 32 0 9 2) 32 1 1)) 32 2 2 ((up3 (up3 M 32 0 9 2) 32 1 2 ((up3 M 32 0 9 2) 32 1 1)) 32 2 1)) 32 1 1 ((up3 (up3 (up3 M 32 0 9 2) 32 1 2 ((up3 M 32 0 9 2) 32 1 1)) 32 2 2 ((up3 (up3 M 32 0 9 2) 32 1 2 ((up3 M 32 0 9 2) 32 1 1)) 32 2 1)) 32 1 0)) 32 2 1 ((up3 (up3 (up3 (up3 M 32 0 9 2) 32 1 2 ((up3 M 32 0 9 2) 32 1 1)) 32 2 2 ((up3 (up3 M 32 0 9 2) 32 1 2 ((up3 M 32 0 9 2) 32 1 1)) 32 2 1)) 32 1 1 ((up3 (up3 (up3 M 32 0 9 2) 32 1 2 ((up3 M 32 0 9 2) 32 1 1)) 32 2 2 ((up3 (up3 M 32 0 9 2) 32 1 2 ((up3 M 32 0 9 2) 32 1 1)) 32 2 1)) 32 1 0)) 32 2 0)) 32 1 0 15) 32 2 0 (nI k)) 32 0 9 = 2 from by simp [up3]) ?_
            refine z_iconst X (pc := 79) (v := 1) dX11_refuseText_79 (by decide) ?_
            refine z_iadd X (pc := 80) dX11_refuseText_80 ?_
            refine z_top (y := 3) (by decide) ?_
            refine z_put X (pc := 81) 9 zk_32_0 (zc_32_0 E _) rfl inlX11 tyX11 tyX11_ok nmX11 (by decide) gw_247 rfl rfl (ty := .int) (by decide +kernel) rfl rfl (Nat.le_of_ble_eq_true rfl) dX11_refuseText_81 rfl ?_
            exact z_vret X Y dX11_refuseText_84 ⟨rfl, Rm_text (rs := [a, b]) (M := M) hR up3_same (by simp [up3]) (fun i hi => by rcases (show i = 0 ∨ i = 1 by have hi : i < 2 := hi; omega) with rfl | rfl <;> simp [up3]) (show 2 ≤ 2 by decide), (((((((((Fq.rf (P := tR) (M := M)).up (by unfold tR; omega)).up (by unfold tR; omega)).up (by unfold tR; omega)).up (by unfold tR; omega)).up (by unfold tR; omega)).up (by unfold tR; omega)).up (by unfold tR; omega)).up (by unfold tR; omega))⟩
          · exact absurd (by decide) c22_3
  · exact absurd hl (by simp only [List.length_cons]; omega)
set_option maxRecDepth 100000 in
set_option maxHeartbeats 4000000 in
theorem c_X11_refuseText_no (E : ZE) (M : Mem) (k : Nat) : Mt E yX11_refuseText cX11_refuseText 4 none rm_X11_refuseText [.ref (za E 32 0), .int 0, .int (nI k)] M (RV (fun M1 => RSm M1 [(15, nI k)] ∧ Fq tR M M1)) := by
  refine z_met (own := RX11) (lv := [(0, .ref (za E 32 0)), (1, .int 0), (2, .int (nI k))]) (by decide) rfl (Nat.le_of_ble_eq_true rfl) rfl (fun gg X Y => ?_)
  refine z_aload_n X (pc := 0) 0 dX11_refuseText_0 rfl rfl ?_
  refine z_iload_n X (pc := 1) 1 dX11_refuseText_1 rfl rfl ?_
  refine z_if_eq X (pc := 2) (tgt := 12) dX11_refuseText_2 (by decide) (fun c2 => ?_) (fun c2 => ?_)
  · refine z_iconst X (pc := 12) (v := 0) dX11_refuseText_12 (by decide) ?_
    refine z_put X (pc := 13) 9 zk_32_0 (zc_32_0 E _) rfl inlX11 tyX11 tyX11_ok nmX11 (by decide) gw_247 rfl rfl (ty := .int) (by decide +kernel) rfl rfl (Nat.le_of_ble_eq_true rfl) dX11_refuseText_13 rfl ?_
    refine z_aload_n X (pc := 16) 0 dX11_refuseText_16 rfl rfl ?_
    refine z_get X (pc := 17) 9 zk_32_0 (zc_32_0 E _) rfl inlX11 (by decide) gw_247 rfl rfl dX11_refuseText_17 ?_
    refine z_top (y := 0) (show (up3 M 32 0 9 0) 32 0 9 = 0 from by simp [up3]) ?_
    refine z_istore_n X (pc := 20) (lv1 := [(3, .int 0), (0, .ref (za E 32 0)), (1, .int 0), (2, .int (nI k))]) dX11_refuseText_20 rfl (by decide) rfl ?_
    refine z_iload_n X (pc := 21) 0 dX11_refuseText_21 rfl rfl ?_
    refine z_if_le X (pc := 22) (tgt := 59) dX11_refuseText_22 (by decide) (fun c22 => ?_) (fun c22 => ?_)
    · refine z_aload_n X (pc := 59) 1 dX11_refuseText_59 rfl rfl ?_
      refine z_get X (pc := 60) 5 zk_32_0 (zc_32_0 E _) rfl inlX11 (by decide) gw_144 rfl rfl dX11_refuseText_60 ?_
      refine z_iconst X (pc := 63) (v := 0) dX11_refuseText_63 (by decide) ?_
      refine z_bipush X (pc := 64) (v := 15) dX11_refuseText_64 (by decide) ?_
      refine z_iast X (pc := 66) (by decide) (show (0 : Int32) = nI 0 from rfl) (by decide) dX11_refuseText_66 ?_
      refine z_aload_n X (pc := 67) 1 dX11_refuseText_67 rfl rfl ?_
      refine z_get X (pc := 68) 6 zk_32_0 (zc_32_0 E _) rfl inlX11 (by decide) gw_145 rfl rfl dX11_refuseText_68 ?_
      refine z_iconst X (pc := 71) (v := 0) dX11_refuseText_71 (by decide) ?_
      refine z_iload_n X (pc := 72) 3 dX11_refuseText_72 rfl rfl ?_
      refine z_iast X (pc := 73) (by decide) (show (0 : Int32) = nI 0 from rfl) (by decide) dX11_refuseText_73 ?_
      refine z_aload_n X (pc := 74) 1 dX11_refuseText_74 rfl rfl ?_
      refine z_dup X (pc := 75) dX11_refuseText_75 rfl ?_
      refine z_get X (pc := 76) 9 zk_32_0 (zc_32_0 E _) rfl inlX11 (by decide) gw_247 rfl rfl dX11_refuseText_76 ?_
      refine z_top (y := 0) (show (up3 (up3 (up3 M 32 0 9 0) 32 1 0 15) 32 2 0 (nI k)) 32 0 9 = 0 from by simp [up3]) ?_
      refine z_iconst X (pc := 79) (v := 1) dX11_refuseText_79 (by decide) ?_
      refine z_iadd X (pc := 80) dX11_refuseText_80 ?_
      refine z_top (y := 1) (by decide) ?_
      refine z_put X (pc := 81) 9 zk_32_0 (zc_32_0 E _) rfl inlX11 tyX11 tyX11_ok nmX11 (by decide) gw_247 rfl rfl (ty := .int) (by decide +kernel) rfl rfl (Nat.le_of_ble_eq_true rfl) dX11_refuseText_81 rfl ?_
      exact z_vret X Y dX11_refuseText_84 ⟨rfl, Rm_text0 up3_same (by simp [up3]), (((((Fq.rf (P := tR) (M := M)).up (by unfold tR; omega)).up (by unfold tR; omega)).up (by unfold tR; omega)).up (by unfold tR; omega))⟩
    · exact absurd (by decide) c22
  · exact absurd (by decide) c2
