noncomputable def runL (g0 : LG) : Nat → LG → Rs → List Ord → Chg
  | k, g, rs, [] => (nI k, g, rs)
  | k, g, rs, o :: os => if (oOrder g rs o).1 < 0 then (-1014, g0, ((15, nI k) :: if (oOrder g rs o).1 = -1014 then (oOrder g rs o).2.2 else []).take 3) else runL g0 (k + 1) (oOrder g rs o).2.1 (oOrder g rs o).2.2 os
noncomputable def oRun (g : LG) (rs : Rs) (t : List Int32) : Chg := if (pTxt t 30 0).1 = -1 then runL g 0 g rs (pTxt t 30 0).2 else (-2000 - (pTxt t 30 0).1, g, rs)
theorem drop_at {l : List Ord} {i : Nat} (h : i < l.length) : l.drop i = l.getD i (0, 0, 0, 0) :: l.drop (i + 1) := by
  rw [List.drop_eq_getElem_cons h]
  simp only [List.getD]
  rw [List.getElem?_eq_getElem h]
  rfl
theorem runL_go {g0 g1 : LG} {rs1 : Rs} {l : List Ord} {i : Nat} {o : Ord} (h : i < l.length) (ho : o = l.getD i (0, 0, 0, 0)) (hv : ¬ (oOrder g1 rs1 o).1 < 0) : runL g0 i g1 rs1 (l.drop i) = runL g0 (i + 1) (oOrder g1 rs1 o).2.1 (oOrder g1 rs1 o).2.2 (l.drop (i + 1)) := by
  rw [drop_at h, ← ho]
  conv => lhs; unfold runL
  rw [if_neg hv]
theorem runL_bad {g0 g1 : LG} {rs1 : Rs} {l : List Ord} {i : Nat} {o : Ord} (h : i < l.length) (ho : o = l.getD i (0, 0, 0, 0)) (hv : (oOrder g1 rs1 o).1 < 0) : runL g0 i g1 rs1 (l.drop i) = (-1014, g0, ((15, nI i) :: if (oOrder g1 rs1 o).1 = -1014 then (oOrder g1 rs1 o).2.2 else []).take 3) := by
  rw [drop_at h, ← ho]
  conv => lhs; unfold runL
  rw [if_pos hv]
theorem runL_end {g0 g1 : LG} {rs1 : Rs} {l : List Ord} {i : Nat} (h : i = l.length) : runL g0 i g1 rs1 (l.drop i) = (nI i, g1, rs1) := by
  rw [h, List.drop_length]
  rfl
theorem pTxt_fst {t : List Int32} {n p : Nat} (hp : p ≤ t.length) : (pTxt t n p).1 = -1 ∨ ∃ q, q ≤ t.length ∧ (pTxt t n p).1 = nI q := by
  induction n generalizing p with
  | zero => exact Or.inr ⟨p, hp, rfl⟩
  | succ n ih =>
    have hq := pOrd_le hp
    unfold pTxt
    split
    · exact Or.inr ⟨_, hq.1, rfl⟩
    · split
      · exact Or.inl rfl
      · split
        · next h => exact ih (chr_is h (by decide))
        · exact Or.inr ⟨_, hq.1, rfl⟩
theorem HX0.like {M M1 : Mem} {nx : Nat} {hs : List LG} (h : HX0 M nx hs) (e : ∀ b, b < 9 ∨ b = 18 → M1 b = M b) : HX0 M1 nx hs := by
  obtain ⟨h1, h2, h3, h4, h5⟩ := h
  refine ⟨by rw [e 18 (Or.inr rfl)]; exact h1, h2, by rw [e 18 (Or.inr rfl)]; exact h3, h4, fun i hi => ?_⟩
  rw [e _ (Or.inl (by omega))]
  exact h5 i hi
def RunP (M : Mem) (g : LG) (hs : List LG) (rs : Rs) (t : List Int32) (v : Int32) (M1 : Mem) : Prop := v = (oRun g rs t).1 ∧ gX (M1 9) = (oRun g rs t).2.1 ∧ RSn M1 (oRun g rs t).2.2 ∧ (∃ nx, HX0 M1 nx (hsN g hs v)) ∧ TS M1 14 [] ∧ ∀ b, 10 ≤ b → b ≠ 11 → b ≠ 12 → b ≠ 13 → b ≠ 14 → b ≠ 16 → b ≠ 18 → M1 b = M b
def RunJ (MB : Mem) (g : LG) (rs : Rs) (l : List Ord) (n i : Nat) (M3 : Mem) (g1 : LG) (rs1 : Rs) : Prop := gX (M3 9) = g1 ∧ RSn M3 rs1 ∧ (∃ nc nm, Inv g1 nc nm (n + i)) ∧ runL g 0 g rs l = runL g i g1 rs1 (l.drop i) ∧ ∀ b, b ≠ 9 → b ≠ 11 → b ≠ 12 → b ≠ 16 → M3 b = MB b
theorem RunJ.init {MB : Mem} {g : LG} {rs : Rs} {l : List Ord} {n : Nat} (hg : gX (MB 9) = g) (hR : RSn MB rs) (hI : ∃ nc nm, Inv g nc nm n) : RunJ MB g rs l n 0 MB g rs := ⟨hg, hR, hI, by rw [List.drop_zero], fun _ _ _ _ _ => rfl⟩
theorem RunJ.go {MB M3 M4 : Mem} {g g1 : LG} {rs rs1 : Rs} {l : List Ord} {n i : Nat} {o : Ord} {v : Int32} (h : RunJ MB g rs l n i M3 g1 rs1) (hi : i < l.length) (ho : o = l.getD i (0, 0, 0, 0)) (hv : 0 ≤ v) (hn : n + i < 100000) (hO : OX M3 (oOrder g1 rs1 o) v M4) : RunJ MB g rs l n (i + 1) M4 (oOrder g1 rs1 o).2.1 (oOrder g1 rs1 o).2.2 := by
  obtain ⟨h1, h2, ⟨nc, nm, h3⟩, h4, h5⟩ := h
  obtain ⟨o1, o2, o3, o4⟩ := hO
  refine ⟨o2, o3, oOrder_kp h3 hn, ?_, fun b h9 h11 h12 h16 => (o4 b h9 h11 h12 h16).trans (h5 b h9 h11 h12 h16)⟩
  rw [h4, runL_go hi ho (by rw [← o1]; exact i32_nlt.mpr hv)]
theorem Run.fault {M M1 M2 : Mem} {g : LG} {hs : List LG} {rs : Rs} {t : List Int32} {v : Int32} (hRd : RdP t M v M1) (hCl : TS M2 14 [] ∧ Off 14 M1 M2) (hg : gX (M2 9) = g) (hR : RSn M2 rs) (hH : ∃ nx, HX0 M2 nx hs) (hT : TS M 14 t) (hv : ¬ v = -1) : RunP M g hs rs t (-2000 - v) M2 := by
  have hl : t.length ≤ 60 := hT.2.1
  have e := hRd.1
  have eo : oRun g rs t = (-2000 - v, g, rs) := by unfold oRun; rw [← e, if_neg hv]
  have hneg : (-2000 - v) < 0 := by
    rcases pTxt_fst (n := 30) (Nat.zero_le t.length) with q | ⟨k, hk, q⟩
    · exact absurd (e.trans q) hv
    · rw [e, q]
      exact (by decide +kernel : ∀ k, k < 61 → (-2000 : Int32) - nI k < 0) k (by omega)
  unfold RunP
  rw [eo]
  refine ⟨rfl, hg, hR, by unfold hsN; rw [if_pos hneg]; exact hH, hCl.1, fun b _ _ _ h13 h14 _ _ => (hCl.2 b h14).trans (hRd.2.1 b h13)⟩
theorem Run.end {M M1 M2 M4 : Mem} {g : LG} {hs : List LG} {rs : Rs} {t : List Int32} {v0 v : Int32} {o : Chg} (hRd : RdP t M v0 M1) (hCl : TS M2 14 [] ∧ Off 14 M1 M2) (hp : PX M2 g hs o v M4) (ho : oRun g rs t = o) : RunP M g hs rs t v M4 := by
  obtain ⟨p1, p2, p3, p4, p5⟩ := hp
  unfold RunP
  rw [ho]
  refine ⟨p1, p2, p3, p4, ?_, fun b h10 h11 h12 h13 h14 h16 h18 => ((p5 b h10 h11 h12 h16 h18).trans (hCl.2 b h14)).trans (hRd.2.1 b h13)⟩
  have e := p5 14 (by decide) (by decide) (by decide) (by decide) (by decide)
  have ht := hCl.1
  unfold TS at ht ⊢
  rw [e]
  exact ht
theorem Run.done {M M1 M2 MB M3 M4 : Mem} {g g1 : LG} {hs : List LG} {rs rs1 : Rs} {t : List Int32} {v0 v : Int32} {n i nx : Nat} (hRd : RdP t M v0 M1) (hCl : TS M2 14 [] ∧ Off 14 M1 M2) (hg : gX (M2 9) = g) (hH : HX0 M2 nx hs) (hm : gX (MB nx) = gX (M2 9) ∧ ∀ b', b' ≠ nx → MB b' = M2 b') (hJ : RunJ MB g rs (pTxt t 30 0).2 n i M3 g1 rs1) (hi : i = (pTxt t 30 0).2.length)
    (hset : v = nI (pTxt t 30 0).2.length ∧ ((nI (pTxt t 30 0).2.length < 0 ∧ M4 = M3) ∨ (¬ nI (pTxt t 30 0).2.length < 0 ∧ M4 = up3 (up3 M3 18 0 1 (nI ((nx + 1) % 9))) 18 0 2 (nI (min (hs.length + 1) 8))))) (hv : v0 = -1) : RunP M g hs rs t v M4 := by
  obtain ⟨h1, h2, -, h4, h5⟩ := hJ
  have hOX : OX MB (nI (pTxt t 30 0).2.length, g1, rs1) (nI (pTxt t 30 0).2.length) M3 := ⟨rfl, h1, h2, h5⟩
  refine Run.end hRd hCl (PX.of hg hH hm hOX hset) ?_
  unfold oRun
  rw [if_pos (hRd.1.symm.trans hv), h4, runL_end hi, hi]
theorem Run.bad {M M1 M2 MB M3 M4 M5 M6 : Mem} {g g1 : LG} {hs : List LG} {rs rs1 : Rs} {t : List Int32} {v0 v v1 : Int32} {n i nx : Nat} {o : Ord} (hRd : RdP t M v0 M1) (hCl : TS M2 14 [] ∧ Off 14 M1 M2) (hg : gX (M2 9) = g) (hH : HX0 M2 nx hs) (hm : gX (MB nx) = gX (M2 9) ∧ ∀ b', b' ≠ nx → MB b' = M2 b') (hJ : RunJ MB g rs (pTxt t 30 0).2 n i M3 g1 rs1) (hi : i < (pTxt t 30 0).2.length)
    (ho : o = (pTxt t 30 0).2.getD i (0, 0, 0, 0)) (hv : ¬ 0 ≤ v) (hO : OX M3 (oOrder g1 rs1 o) v M4) (hbb : gX (M5 9) = gX (M4 nx) ∧ ∀ b', b' ≠ 9 → M5 b' = M4 b') (hro : v1 = -1014 ∧ RSn M6 (((15, nI i) :: if v = -1014 then (oOrder g1 rs1 o).2.2 else []).take 3) ∧ Off 16 M5 M6) (hv0 : v0 = -1) : RunP M g hs rs t v1 M6 := by
  obtain ⟨h1, h2, -, h4, h5⟩ := hJ
  obtain ⟨o1, o2, o3, o4⟩ := hO
  obtain ⟨rfl, r2, r3⟩ := hro
  have hx9 := hH.2.1
  have e9 : gX (M6 9) = g := by rw [r3 9 (by decide), hbb.1, o4 nx (by omega) (by omega) (by omega) (by omega), h5 nx (by omega) (by omega) (by omega) (by omega), hm.1, hg]
  have hOX : OX MB (-1014, g, ((15, nI i) :: if v = -1014 then (oOrder g1 rs1 o).2.2 else []).take 3) (-1014) M6 := ⟨rfl, e9, r2, fun b h9 h11 h12 h16 => by rw [r3 b h16, hbb.2 b h9, o4 b h9 h11 h12 h16, h5 b h9 h11 h12 h16]⟩
  refine Run.end hRd hCl (PX.of hg hH hm hOX ⟨rfl, Or.inl ⟨by decide, rfl⟩⟩) ?_
  unfold oRun
  rw [if_pos (hRd.1.symm.trans hv0), h4, runL_bad hi ho (by rw [← o1]; exact i32_nle.mp hv), ← o1]
def rm_X10_run : Room := { frames := 6, cells := 0, slots := 0, locals := 146 }
theorem kv_X10_run : KV yX10_run RX10 cX10_run 4 (some .int) 0 := ⟨⟨gw_591, gw_592, gw_2, gw_593⟩, by decide +kernel⟩
set_option maxRecDepth 100000 in
set_option maxHeartbeats 4000000 in
theorem c_X10_run (E : ZE) (M : Mem) (g : LG) (hg : gX (M 9) = g) (nc nm n : Nat) (hI : Inv g nc nm n) (rs : Rs) (hR : RSn M rs) (hs : List LG) (nx : Nat) (hH : HX0 M nx hs) (t : List Int32) (hT : TS M 14 t) (hn9 : n + 31 ≤ 100000) : Mt E yX10_run cX10_run 4 (some .int) rm_X10_run [.ref (za E 17 0)] M (RI (fun v M1 => RunP M g hs rs t v M1)) := by
  have hnc := hI.nc; have hnm := hI.nm; have hn := hI.c10; have hn2 := hI.m10; have hx9 := hH.2.1
  refine z_met (own := RX10) (lv := [(0, .ref (za E 17 0))]) (by decide) rfl (Nat.le_of_ble_eq_true rfl) rfl (fun gg X Y => ?_)
  refine z_aload_n X (pc := 0) 0 dX10_run_0 rfl rfl ?_
  refine z_get X (pc := 1) 6 zk_17_0 (zc_17_0 E _) rfl inlX10 (by decide) gw_27 rfl rfl dX10_run_1 ?_
  refine z_callV X (pc := 4) (rest := []) kv_X5_read (c_X5_read E M t hT) zk_13_0 (zc_13_0 E _) rfl rfl gw_594 (by decide) rfl rfl (Nat.le_of_ble_eq_true rfl) dX10_run_4 (zk_ri (fun vR M_1 hRd => ?_))
  refine z_istore_n X (pc := 7) (lv1 := [(1, .int vR), (0, .ref (za E 17 0))]) dX10_run_7 rfl (by decide) rfl ?_
  refine z_aload_n X (pc := 8) 1 dX10_run_8 rfl rfl ?_
  refine z_get X (pc := 9) 6 zk_17_0 (zc_17_0 E _) rfl inlX10 (by decide) gw_27 rfl rfl dX10_run_9 ?_
  refine z_get X (pc := 12) 0 zk_13_0 (zc_13_0 E _) rfl inlX5 (by decide) gw_366 rfl rfl dX10_run_12 ?_
  refine z_callV X (pc := 15) (rest := []) kv_X8_clear (c_X8_clear_14 E M_1) zk_14_0 (zc_14_0 E _) rfl rfl gw_627 (by decide) rfl rfl (Nat.le_of_ble_eq_true rfl) dX10_run_15 (zk_rv (fun M_2 hCl => ?_))
  have hMC : ∀ b, b ≠ 13 → b ≠ 14 → M_2 b = M b := fun b h1 h2 => (hCl.2 b h2).trans (hRd.2.1 b h1)
  have hgC : gX (M_2 9) = g := by rw [hMC 9 (by decide) (by decide)]; exact hg
  have hRC : RSn M_2 rs := hR.like (hMC 16 (by decide) (by decide))
  have hHC : HX0 M_2 nx hs := hH.like (fun b hb => hMC b (by omega) (by omega))
  refine z_iload_n X (pc := 18) 0 dX10_run_18 rfl rfl ?_
  refine z_iconst X (pc := 19) (v := (-1)) dX10_run_19 (by decide) ?_
  refine z_icmp_eq X (pc := 20) (tgt := 29) dX10_run_20 (by decide) (fun c20 => ?_) (fun c20 => ?_)
  · refine z_aload_n X (pc := 29) 1 dX10_run_29 rfl rfl ?_
    refine z_get X (pc := 30) 3 zk_17_0 (zc_17_0 E _) rfl inlX10 (by decide) gw_18 rfl rfl dX10_run_30 ?_
    refine z_aload_n X (pc := 33) 1 dX10_run_33 rfl rfl ?_
    refine z_get X (pc := 34) 0 zk_17_0 (zc_17_0 E _) rfl inlX10 (by decide) gw_13 rfl rfl dX10_run_34 ?_
    refine z_callV X (pc := 37) (rest := []) kv_X3_mark (c_X3_mark E M_2 nx hHC.1 hHC.2.1) zk_18_0 (zc_18_0 E _) rfl rfl gw_136 (by decide) rfl rfl (Nat.le_of_ble_eq_true rfl) dX10_run_37 (zk_rv (fun M_3 hm => ?_))
    have hgB : gX (M_3 9) = g := mk_g hm hx9 hgC
    have hRB : RSn M_3 rs := hRC.like (hm.2 16 (by omega))
    obtain ⟨hc0, hc30, hrows⟩ := hRd.2.2 c20
    have h13 : M_3 13 = M_1 13 := (hm.2 13 (by omega)).trans (hCl.2 13 (by decide))
    refine z_iconst X (pc := 40) (v := 0) dX10_run_40 (by decide) ?_
    refine z_istore_n X (pc := 41) (lv1 := [(2, .int 0), (1, .int vR), (0, .ref (za E 17 0))]) dX10_run_41 rfl (by decide) rfl ?_
    refine z_sub (lv' := [(2, .int (nI 0)), (1, .int vR), (0, .ref (za E 17 0))]) [0, 1, 2] rfl ?_
    refine z_loop (((pTxt t 30 0).2).length) 42 (σ := Mem × LG × Rs) (fun i s => RunJ M_3 g rs (pTxt t 30 0).2 n i s.1 s.2.1 s.2.2) (fun i s => (s.1, [(2, .int (nI i)), (1, .int vR), (0, .ref (za E 17 0))])) ?_ 0 ⟨M_3, g, rs⟩ (Nat.zero_le _) (RunJ.init hgB hRB ⟨nc, nm, hI⟩)
    intro i s hi42 hJ42 ih42
    obtain ⟨M3, g1, rs1⟩ := s
    show Z gg E M3 [(2, .int (nI i)), (1, .int vR), (0, .ref (za E 17 0))] 42 []
    replace hJ42 : RunJ M_3 g rs (pTxt t 30 0).2 n i M3 g1 rs1 := hJ42
    obtain ⟨hg1, hR1, ⟨nc1, nm1, hI1⟩, hrun, hfr⟩ := id hJ42
    replace hg1 : gX (M3 9) = g1 := hg1
    replace hR1 : RSn M3 rs1 := hR1
    replace hI1 : Inv g1 nc1 nm1 (n + i) := hI1
    replace hfr : ∀ b, b ≠ 9 → b ≠ 11 → b ≠ 12 → b ≠ 16 → M3 b = M_3 b := hfr
    refine z_iload_n X (pc := 42) 0 dX10_run_42 rfl rfl ?_
    refine z_aload_n X (pc := 43) 2 dX10_run_43 rfl rfl ?_
    refine z_get X (pc := 44) 6 zk_17_0 (zc_17_0 E _) rfl inlX10 (by decide) gw_27 rfl rfl dX10_run_44 ?_
    refine z_callV X (pc := 47) (rest := [.int (nI i)]) kv_X5_count (c_X5_count E M3) zk_13_0 (zc_13_0 E _) rfl rfl gw_631 (by decide) rfl rfl (Nat.le_of_ble_eq_true rfl) dX10_run_47 (zk_i ?_)
    refine z_top (y := (nI (((pTxt t 30 0).2).length))) (by rw [hfr 13 (by decide) (by decide) (by decide) (by decide), h13]; exact hc0) ?_
    refine z_nicmp_ge X (pc := 50) (a := i) (b := ((pTxt t 30 0).2).length) (tgt := 87) dX10_run_50 (by decide) (by omega) (by omega) (fun c50 => ?_) (fun c50 => ?_)
    · refine z_aload_n X (pc := 87) 2 dX10_run_87 rfl rfl ?_
      refine z_aload_n X (pc := 88) 2 dX10_run_88 rfl rfl ?_
      refine z_get X (pc := 89) 6 zk_17_0 (zc_17_0 E _) rfl inlX10 (by decide) gw_27 rfl rfl dX10_run_89 ?_
      refine z_callV X (pc := 92) (rest := [.ref (za E 17 0)]) kv_X5_count (c_X5_count E M3) zk_13_0 (zc_13_0 E _) rfl rfl gw_631 (by decide) rfl rfl (Nat.le_of_ble_eq_true rfl) dX10_run_92 (zk_i ?_)
      refine z_top (y := (nI (((pTxt t 30 0).2).length))) (by rw [hfr 13 (by decide) (by decide) (by decide) (by decide), h13]; exact hc0) ?_
      refine z_callV X (pc := 95) (rest := []) kv_X10_settled (c_X10_settled E M3 nx hs.length (by rw [hfr 18 (by decide) (by decide) (by decide) (by decide), hm.2 18 (by omega)]; exact hHC.1) hx9 (by rw [hfr 18 (by decide) (by decide) (by decide) (by decide), hm.2 18 (by omega)]; exact hHC.2.2.1) hHC.2.2.2.1 (nI (((pTxt t 30 0).2).length))) zk_17_0 (zc_17_0 E _) rfl rfl gw_208 (by decide) rfl rfl (Nat.le_of_ble_eq_true rfl) dX10_run_95 (zk_ri (fun v_5 M_4 hset => ?_))
      exact z_iret X Y dX10_run_98 ⟨_, rfl, Run.done hRd hCl hgC hHC hm hJ42 (by omega) hset c20⟩
    · refine z_aload_n X (pc := 53) 2 dX10_run_53 rfl rfl ?_
      refine z_iload_n X (pc := 54) 0 dX10_run_54 rfl rfl ?_
      obtain ⟨oi, hoi⟩ : ∃ o, o = ((pTxt t 30 0).2).getD i (0, 0, 0, 0) := ⟨_, rfl⟩
      refine z_callV X (pc := 55) (rest := []) kv_X10_carryOut (c_X10_carryOut E M3 g1 hg1 nc1 nm1 (n + i) hI1 rs1 hR1 i (by omega) oi (by rw [hoi]; have q := hrows i (by omega); rw [← h13, ← hfr 13 (by decide) (by decide) (by decide) (by decide)] at q; exact q)) zk_17_0 (zc_17_0 E _) rfl rfl gw_635 (by decide) rfl rfl (Nat.le_of_ble_eq_true rfl) dX10_run_55 (zk_ri (fun v_7 M_6 ho => ?_))
      refine z_istore_n X (pc := 58) (lv1 := [(3, .int v_7), (2, .int (nI i)), (1, .int vR), (0, .ref (za E 17 0))]) dX10_run_58 rfl (by decide) rfl ?_
      refine z_iload_n X (pc := 59) 0 dX10_run_59 rfl rfl ?_
      refine z_if_ge X (pc := 60) (tgt := 81) dX10_run_60 (by decide) (fun c60 => ?_) (fun c60 => ?_)
      · refine z_iinc X (pc := 81) (v := (nI (i + 1))) (lv1 := [(2, .int (nI (i + 1))), (3, .int v_7), (1, .int vR), (0, .ref (za E 17 0))]) 1 dX10_run_81 rfl (nI_1 _) (by decide) rfl ?_
        refine z_goto X (pc := 84) (tgt := 42) dX10_run_84 (by decide) ?_
        refine z_sub (lv' := [(2, .int (nI (i + 1))), (1, .int vR), (0, .ref (za E 17 0))]) [0, 2, 3] rfl ?_
        exact ih42 ⟨M_6, (oOrder g1 rs1 oi).2.1, (oOrder g1 rs1 oi).2.2⟩ (by omega) (RunJ.go hJ42 (by omega) hoi c60 (by omega) ho)
      · refine z_aload_n X (pc := 63) 3 dX10_run_63 rfl rfl ?_
        refine z_get X (pc := 64) 3 zk_17_0 (zc_17_0 E _) rfl inlX10 (by decide) gw_18 rfl rfl dX10_run_64 ?_
        refine z_aload_n X (pc := 67) 3 dX10_run_67 rfl rfl ?_
        refine z_get X (pc := 68) 0 zk_17_0 (zc_17_0 E _) rfl inlX10 (by decide) gw_13 rfl rfl dX10_run_68 ?_
        refine z_callV X (pc := 71) (rest := []) kv_X3_bringBack (c_X3_bringBack E M_6 nx (by rw [ho.2.2.2 18 (by decide) (by decide) (by decide) (by decide), hfr 18 (by decide) (by decide) (by decide) (by decide), hm.2 18 (by omega)]; exact hHC.1) hx9) zk_18_0 (zc_18_0 E _) rfl rfl gw_643 (by decide) rfl rfl (Nat.le_of_ble_eq_true rfl) dX10_run_71 (zk_rv (fun M_8 hbb => ?_))
        refine z_aload_n X (pc := 74) 3 dX10_run_74 rfl rfl ?_
        refine z_iload_n X (pc := 75) 1 dX10_run_75 rfl rfl ?_
        refine z_iload_n X (pc := 76) 0 dX10_run_76 rfl rfl ?_
        refine z_callV X (pc := 77) (rest := []) kv_X10_refusedOrder (c_X10_refusedOrder E M_8 (oOrder g1 rs1 oi).2.2 (RSn.like ho.2.2.1 (hbb.2 16 (by decide))) i v_7) zk_17_0 (zc_17_0 E _) rfl rfl gw_647 (by decide) rfl rfl (Nat.le_of_ble_eq_true rfl) dX10_run_77 (zk_ri (fun v_10 M_9 hro => ?_))
        exact z_iret X Y dX10_run_80 ⟨_, rfl, Run.bad hRd hCl hgC hHC hm hJ42 (by omega) hoi c60 ho hbb hro c20⟩
  · refine z_sipush X (pc := 23) (v := (-2000)) dX10_run_23 (by decide) ?_
    refine z_iload_n X (pc := 26) 0 dX10_run_26 rfl rfl ?_
    refine z_isub X (pc := 27) dX10_run_27 ?_
    exact z_iret X Y dX10_run_28 ⟨_, rfl, Run.fault hRd hCl hgC hRC ⟨nx, hHC⟩ hT c20⟩
