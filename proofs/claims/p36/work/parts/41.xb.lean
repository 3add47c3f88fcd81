/-! ===== the law's areSeats ===== -/
theorem orN_nI {k : Nat} (hk : k < 2 ^ 31) : orN (nI k) = nI k := by unfold orN; rw [if_neg (nI_pos hk)]
theorem nI_ne_15 {k : Nat} (hk : k < 2 ^ 31) : ¬ nI k = -1015 := fun z => absurd (z ▸ nI_pos hk) (by decide)
theorem fell_1 {g : LG} {c : Nat} (h : g 3 c = 0) : nI (cntB (fell g) c) + 1 = nI (cntB (fell g) (c + 1)) := by
  rw [nI_1]
  show _ = nI (cntB (fell g) c + if fell g c = true then 1 else 0)
  rw [if_pos (show fell g c = true from decide_eq_true h)]
theorem fell_0 {g : LG} {c : Nat} (h : ¬ g 3 c = 0) : nI (cntB (fell g) c) + 0 = nI (cntB (fell g) (c + 1)) := by
  show _ = nI (cntB (fell g) c + if fell g c = true then 1 else 0)
  rw [if_neg (by unfold fell; simp [h])]
  simp
theorem fsum_0 {g : LG} {c : Nat} (h : g 6 c = -1) : fitSum g c + 0 = fitSum g (c + 1) := by
  show _ = if taken g c = true then _ else _
  rw [if_neg (by unfold taken; simp [h])]
  simp
theorem fsum_1 {g : LG} {c m : Nat} (h : g 6 c = nI m) (hm : m < 10) : fitSum g c + fit g c m = fitSum g (c + 1) := by
  show _ = if taken g c = true then fitSum g c + fit g c (who g c) else _
  rw [if_pos (by unfold taken; simp [h]; exact nI_ne_m1 (by omega))]
  unfold who
  rw [h, nI_clamp (by omega)]
theorem sits_1 {g : LG} {m : Nat} (h : ¬ g 12 m = -1) : nI (cntB (sits g) m) + 1 = nI (cntB (sits g) (m + 1)) := by
  rw [nI_1]
  show _ = nI (cntB (sits g) m + if sits g m = true then 1 else 0)
  rw [if_pos (by unfold sits; simp [h])]
theorem sits_0 {g : LG} {m : Nat} (h : g 12 m = -1) : nI (cntB (sits g) m) + 0 = nI (cntB (sits g) (m + 1)) := by
  show _ = nI (cntB (sits g) m + if sits g m = true then 1 else 0)
  rw [if_neg (by unfold sits; simp [h])]
  simp
theorem fit_a {g : LG} {c m : Nat} (h : g 0 c = g 7 m) : fit g c m = 9 - (if 0 ≤ g 1 c - g 8 m then g 1 c - g 8 m else 0 - (g 1 c - g 8 m)) + 4 := by unfold fit zabs; rw [if_pos h]
theorem fit_b {g : LG} {c m : Nat} (h : ¬ g 0 c = g 7 m) : fit g c m = 9 - (if 0 ≤ g 1 c - g 8 m then g 1 c - g 8 m else 0 - (g 1 c - g 8 m)) + 0 := by unfold fit zabs; rw [if_neg h]
theorem rng_inB {x : Int32} {lo hi : Nat} (h : rng x lo hi) (hh : hi < 2 ^ 31) : inB x (nI lo) (nI hi) = true := by
  obtain ⟨k, h1, h2, rfl⟩ := h
  unfold inB
  have a1 : ¬ nI k < nI lo := fun q => by have := (nI_ltI (by omega) (by omega)).mp q; omega
  have a2 : ¬ nI hi < nI k := fun q => by have := (nI_ltI (by omega) (by omega)).mp q; omega
  simp [a1, a2]
theorem digs_pos (k : Nat) : 1 ≤ (digs k).length ∧ (digs k).length ≤ 2 := by unfold digs; split <;> simp
theorem tell7 {g : LG} {nc nm n c : Nat} {l : List Int32} (h : Inv g nc nm n) (hc : c < nc) : ¬ (aTell g l (nI c)).1 < 7 := by
  have h10 := h.c10
  unfold aTell
  rw [h.cNe, inR_nI hc (by omega), if_neg (by decide), nI_clamp (by omega)]
  show ¬ nI (tellL g c).length < nI 7
  obtain ⟨k, -, hk, ek⟩ := (h.ch c hc).2.2.2.2.1
  have a1 := digs_pos c
  have a2 := digs_pos (g 0 c).toNatClampNeg
  have a3 := digs_pos (g 1 c).toNatClampNeg
  have a4 := digs_pos (g 2 c).toNatClampNeg
  have a5 := digs_pos (who g c)
  have hl : 7 ≤ (tellL g c).length ∧ (tellL g c).length < 2 ^ 31 := by
    unfold tellL
    rw [ek, nI_clamp (by omega)]
    simp only [List.length_append, List.length_cons, List.length_nil, List.length_replicate]
    split <;> split <;> simp only [List.length_append, List.length_cons, List.length_nil] <;> omega
  exact fun q => by have := (nI_ltI (by omega) (by omega)).mp q; omega
theorem mean_eq0 {g : LG} {nc nm n : Nat} (h : Inv g nc nm n) (hs : cntB (sits g) nm = 0) : Op.cmpValue (FP.dcmp (meanV (fitSum g nc) (cntB (taken g) nc)) FP.dconst0) .l = 0 := by
  have e : ∀ f, meanV f 0 = FP.dconst0 := fun f => by unfold meanV; rw [if_pos rfl]
  rw [h.cnt, hs, e, ← e (nI 0)]
  exact mean_cmp 0 (by omega) 0 (by omega)
theorem mean_n {g : LG} {nc nm n : Nat} (h : Inv g nc nm n) (hs : ¬ cntB (sits g) nm = 0) : vf_n64 (FP.ddiv (FP.i2d (fitSum g nc)) (FP.i2d (nI (cntB (sits g) nm)))) := by
  have h10 := h.c10
  have m10 := h.m10
  obtain ⟨k, hk, ek⟩ := fitSum_rng h (Nat.le_refl nc)
  have := cntB_le (sits g) nm
  rw [ek]
  exact mean_num k (by omega) _ (by omega) (by omega)
theorem mean_eq1 {g : LG} {nc nm n : Nat} (h : Inv g nc nm n) (hs : ¬ cntB (sits g) nm = 0) : Op.cmpValue (FP.dcmp (meanV (fitSum g nc) (cntB (taken g) nc)) (FP.ddiv (FP.i2d (fitSum g nc)) (FP.i2d (nI (cntB (sits g) nm))))) .l = 0 := by
  have h10 := h.c10
  have m10 := h.m10
  obtain ⟨k, hk, ek⟩ := fitSum_rng h (Nat.le_refl nc)
  have := cntB_le (sits g) nm
  rw [h.cnt, ek]
  have e : FP.ddiv (FP.i2d (nI k)) (FP.i2d (nI (cntB (sits g) nm))) = meanV (nI k) (cntB (sits g) nm) := by unfold meanV; rw [if_neg hs]
  rw [e]
  exact mean_cmp k (by omega) _ (by omega)
theorem share_eq0 {g : LG} : Op.cmpValue (FP.fcmp (shareV (cntB (fell g) 0) 0) FP.fconst0) .l = 0 := by
  have e1 : shareV (cntB (fell g) 0) 0 = FP.fconst0 := by unfold shareV; rw [if_pos rfl]
  have e2 : shareV 0 0 = FP.fconst0 := by unfold shareV; rw [if_pos rfl]
  rw [e1, ← e2]
  exact share_cmp 0 (by omega) 0 (by omega)
theorem share_n {g : LG} {nc nm n : Nat} (h : Inv g nc nm n) (hs : ¬ nc = 0) : vf_n32 (FP.fdiv (FP.i2f (nI (cntB (fell g) nc))) (FP.i2f (nI nc))) := by
  have h10 := h.c10
  have := cntB_le (fell g) nc
  exact share_num _ (by omega) _ (by omega) (by omega)
theorem share_eq1 {g : LG} {nc nm n : Nat} (h : Inv g nc nm n) (hs : ¬ nc = 0) : Op.cmpValue (FP.fcmp (shareV (cntB (fell g) nc) nc) (FP.fdiv (FP.i2f (nI (cntB (fell g) nc))) (FP.i2f (nI nc)))) .l = 0 := by
  have h10 := h.c10
  have := cntB_le (fell g) nc
  have e : FP.fdiv (FP.i2f (nI (cntB (fell g) nc))) (FP.i2f (nI nc)) = shareV (cntB (fell g) nc) nc := by unfold shareV; rw [if_neg hs]
  rw [e]
  exact share_cmp _ (by omega) _ (by omega)
def rm_L_areSeats : Room := { frames := 7, cells := 0, slots := 0, locals := 160 }
theorem ks_L_areSeats : KS yL_areSeats cL_areSeats 13 (some .boolean) 1 := ⟨⟨gw_678, gw_352, gw_679⟩, by decide +kernel⟩
set_option maxRecDepth 100000 in
set_option maxHeartbeats 4000000 in
theorem c_L_areSeats (E : ZE) (M : Mem) (S : LSt) (hX : XS M S) (nc nm n : Nat) (hI : Inv S.1 nc nm n) (hf : SF S.1 nc nm) : MtX E yL_areSeats cL_areSeats 13 (some .boolean) rm_L_areSeats [.ref (za E 17 0)] M (fun _ => True) (RI (fun v M1 => v = 1 ∧ ∃ l, XS M1 (sL S l))) 0 0 := by
  have hn := hI.c10; have hn2 := hI.m10; have b1 := cntB_le (sits S.1) nm; have b2 := cntB_le (fell S.1) nc
  refine x_met (own := RL) (lv := [(0, .ref (za E 17 0))]) (by decide) rfl (Nat.le_of_ble_eq_true rfl) rfl (fun gg X hPr Y => ?_)
  refine x_aload_n X (pc := 0) 0 dL_areSeats_0 rfl rfl ?_
  refine x_iconst X (pc := 1) (v := 0) dL_areSeats_1 (by decide) ?_
  refine x_callV X ⟨Nat.zero_le _, Nat.zero_le _⟩ (pc := 2) (rest := []) kv_X10_account (q_ac hX hI (ac_0 hI)) zk_17_0 (zc_17_0 E _) rfl rfl gw_356 ⟨⟨rfl, rfl⟩, Nat.le_of_ble_eq_true rfl, Nat.le_of_ble_eq_true rfl⟩ rfl rfl (Nat.le_of_ble_eq_true rfl) dL_areSeats_2 (x_pi ?_)
  refine x_istore_n X (pc := 5) (lv1 := [(1, .int (nI nc)), (0, .ref (za E 17 0))]) dL_areSeats_5 rfl (by decide) rfl ?_
  refine x_aload_n X (pc := 6) 1 dL_areSeats_6 rfl rfl ?_
  refine x_iconst X (pc := 7) (v := 1) dL_areSeats_7 (by decide) ?_
  refine x_callV X ⟨Nat.zero_le _, Nat.zero_le _⟩ (pc := 8) (rest := []) kv_X10_account (q_ac hX hI (ac_1 hI)) zk_17_0 (zc_17_0 E _) rfl rfl gw_356 ⟨⟨rfl, rfl⟩, Nat.le_of_ble_eq_true rfl, Nat.le_of_ble_eq_true rfl⟩ rfl rfl (Nat.le_of_ble_eq_true rfl) dL_areSeats_8 (x_pi ?_)
  refine x_istore_n X (pc := 11) (lv1 := [(2, .int (nI nm)), (1, .int (nI nc)), (0, .ref (za E 17 0))]) dL_areSeats_11 rfl (by decide) rfl ?_
  refine x_iconst X (pc := 12) (v := 0) dL_areSeats_12 (by decide) ?_
  refine x_istore_n X (pc := 13) (lv1 := [(3, .int 0), (2, .int (nI nm)), (1, .int (nI nc)), (0, .ref (za E 17 0))]) dL_areSeats_13 rfl (by decide) rfl ?_
  refine x_iconst X (pc := 14) (v := 0) dL_areSeats_14 (by decide) ?_
  refine x_istore X (pc := 15) (lv1 := [(4, .int 0), (3, .int 0), (2, .int (nI nm)), (1, .int (nI nc)), (0, .ref (za E 17 0))]) dL_areSeats_15 (by decide) rfl ?_
  refine x_iconst X (pc := 17) (v := 0) dL_areSeats_17 (by decide) ?_
  refine x_istore X (pc := 18) (lv1 := [(5, .int 0), (4, .int 0), (3, .int 0), (2, .int (nI nm)), (1, .int (nI nc)), (0, .ref (za E 17 0))]) dL_areSeats_18 (by decide) rfl ?_
  refine x_iconst X (pc := 20) (v := 0) dL_areSeats_20 (by decide) ?_
  refine x_istore X (pc := 21) (lv1 := [(6, .int 0), (5, .int 0), (4, .int 0), (3, .int 0), (2, .int (nI nm)), (1, .int (nI nc)), (0, .ref (za E 17 0))]) dL_areSeats_21 (by decide) rfl ?_
  refine x_iconst X (pc := 23) (v := 1) dL_areSeats_23 (by decide) ?_
  refine x_istore X (pc := 24) (lv1 := [(7, .int 1), (6, .int 0), (5, .int 0), (4, .int 0), (3, .int 0), (2, .int (nI nm)), (1, .int (nI nc)), (0, .ref (za E 17 0))]) dL_areSeats_24 (by decide) rfl ?_
  refine x_iconst X (pc := 26) (v := 0) dL_areSeats_26 (by decide) ?_
  refine x_istore X (pc := 27) (lv1 := [(8, .int 0), (7, .int 1), (6, .int 0), (5, .int 0), (4, .int 0), (3, .int 0), (2, .int (nI nm)), (1, .int (nI nc)), (0, .ref (za E 17 0))]) dL_areSeats_27 (by decide) rfl ?_
  refine x_sub (lv' := [(8, .int 0), (7, .int 1), (6, .int 0), (5, .int 0), (4, .int 0), (3, .int 0), (2, .int (nI nm)), (1, .int (nI nc)), (0, .ref (za E 17 0))]) [0, 1, 2, 3, 4, 5, 6, 7, 8] rfl ?_
  refine x_eq (lv' := [(8, .int (nI 0)), (7, .int 1), (6, .int 0), (5, .int (fitSum S.1 0)), (4, .int (nI (cntB (fell S.1) 0))), (3, .int 0), (2, .int (nI nm)), (1, .int (nI nc)), (0, .ref (za E 17 0))]) rfl rfl ?_
  refine x_loop nc 29 (fun _ s => ∃ l, XS s (sL S l)) (fun c s => (s, [(8, .int (nI c)), (7, .int 1), (6, .int 0), (5, .int (fitSum S.1 c)), (4, .int (nI (cntB (fell S.1) c))), (3, .int 0), (2, .int (nI nm)), (1, .int (nI nc)), (0, .ref (za E 17 0))])) ?_ 0 M (Nat.zero_le _) ⟨S.2.2.2.2.1, hX⟩
  intro c M1 hc29 hJ29 ih29
  obtain ⟨l, hX1⟩ := hJ29
  show ZX gg E 0 0 [] M1 [(8, .int (nI c)), (7, .int 1), (6, .int 0), (5, .int (fitSum S.1 c)), (4, .int (nI (cntB (fell S.1) c))), (3, .int 0), (2, .int (nI nm)), (1, .int (nI nc)), (0, .ref (za E 17 0))] 29 []
  refine x_iload X (pc := 29) 1 dL_areSeats_29 rfl ?_
  refine x_if_eq X (pc := 31) (tgt := 302) dL_areSeats_31 (by decide) (fun z => absurd z (by decide)) (fun _ => ?_)
  refine x_iload X (pc := 34) 0 dL_areSeats_34 rfl ?_
  refine x_iload_n X (pc := 36) 7 dL_areSeats_36 rfl rfl ?_
  refine x_nicmp_ge X (pc := 37) (a := c) (b := nc) (tgt := 302) dL_areSeats_37 (by decide) (by omega) (by omega) (fun c37 => ?_) (fun c37 => ?_)
  · obtain rfl : nc = c := by omega
    refine x_iconst X (pc := 302) (v := 0) dL_areSeats_302 (by decide) ?_
    refine x_istore X (pc := 303) (lv1 := [(8, .int 0), (7, .int 1), (6, .int 0), (5, .int (fitSum S.1 nc)), (4, .int (nI (cntB (fell S.1) nc))), (3, .int 0), (2, .int (nI nm)), (1, .int (nI nc)), (0, .ref (za E 17 0))]) dL_areSeats_303 (by decide) rfl ?_
    refine x_sub (lv' := [(8, .int 0), (7, .int 1), (6, .int 0), (3, .int 0), (5, .int (fitSum S.1 nc)), (4, .int (nI (cntB (fell S.1) nc))), (2, .int (nI nm)), (1, .int (nI nc)), (0, .ref (za E 17 0))]) [0, 1, 2, 5, 3, 4, 6, 7, 8] rfl ?_
    refine x_eq (lv' := [(8, .int (nI 0)), (7, .int 1), (6, .int (sumI (S.1 10) 0)), (3, .int (nI (cntB (sits S.1) 0))), (5, .int (fitSum S.1 nc)), (4, .int (nI (cntB (fell S.1) nc))), (2, .int (nI nm)), (1, .int (nI nc)), (0, .ref (za E 17 0))]) rfl rfl ?_
    refine x_loop nm 305 (σ := Unit) (fun _ _ => True) (fun m _ => (M1, [(8, .int (nI m)), (7, .int 1), (6, .int (sumI (S.1 10) m)), (3, .int (nI (cntB (sits S.1) m))), (5, .int (fitSum S.1 nc)), (4, .int (nI (cntB (fell S.1) nc))), (2, .int (nI nm)), (1, .int (nI nc)), (0, .ref (za E 17 0))])) ?_ 0 () (Nat.zero_le _) trivial
    intro m _ hm305 _ ih305
    show ZX gg E 0 0 [] M1 [(8, .int (nI m)), (7, .int 1), (6, .int (sumI (S.1 10) m)), (3, .int (nI (cntB (sits S.1) m))), (5, .int (fitSum S.1 nc)), (4, .int (nI (cntB (fell S.1) nc))), (2, .int (nI nm)), (1, .int (nI nc)), (0, .ref (za E 17 0))] 305 []
    refine x_iload X (pc := 305) 1 dL_areSeats_305 rfl ?_
    refine x_if_eq X (pc := 307) (tgt := 422) dL_areSeats_307 (by decide) (fun z => absurd z (by decide)) (fun _ => ?_)
    refine x_iload X (pc := 310) 0 dL_areSeats_310 rfl ?_
    refine x_iload_n X (pc := 312) 6 dL_areSeats_312 rfl rfl ?_
    refine x_nicmp_ge X (pc := 313) (a := m) (b := nm) (tgt := 422) dL_areSeats_313 (by decide) (by omega) (by omega) (fun c313 => ?_) (fun c313 => ?_)
    · obtain rfl : nm = m := by omega
      refine x_iload X (pc := 422) 1 dL_areSeats_422 rfl ?_
      refine x_if_eq X (pc := 424) (tgt := 507) dL_areSeats_424 (by decide) (fun z => absurd z (by decide)) (fun _ => ?_)
      refine x_iload_n X (pc := 427) 3 dL_areSeats_427 rfl rfl ?_
      refine x_aload_n X (pc := 428) 8 dL_areSeats_428 rfl rfl ?_
      refine x_iconst X (pc := 429) (v := 2) dL_areSeats_429 (by decide) ?_
      refine x_callV X ⟨Nat.zero_le _, Nat.zero_le _⟩ (pc := 430) (rest := [.int (nI (cntB (sits S.1) nm))]) kv_X10_account (q_ac hX1 hI (ac_2 hI)) zk_17_0 (zc_17_0 E _) rfl rfl gw_356 ⟨⟨rfl, rfl⟩, Nat.le_of_ble_eq_true rfl, Nat.le_of_ble_eq_true rfl⟩ rfl rfl (Nat.le_of_ble_eq_true rfl) dL_areSeats_430 (x_pi ?_)
      refine x_nicmp_ne X (pc := 433) (a := cntB (sits S.1) nm) (b := cntB (sits S.1) nm) (tgt := 507) dL_areSeats_433 (by decide) (by omega) (by omega) (fun z => absurd rfl z) (fun _ => ?_)
      refine x_iload X (pc := 436) 5 dL_areSeats_436 rfl ?_
      refine x_aload_n X (pc := 438) 8 dL_areSeats_438 rfl rfl ?_
      refine x_iconst X (pc := 439) (v := 3) dL_areSeats_439 (by decide) ?_
      refine x_callV X ⟨Nat.zero_le _, Nat.zero_le _⟩ (pc := 440) (rest := [.int (nI (cntB (fell S.1) nc))]) kv_X10_account (q_ac hX1 hI (ac_3 hI)) zk_17_0 (zc_17_0 E _) rfl rfl gw_356 ⟨⟨rfl, rfl⟩, Nat.le_of_ble_eq_true rfl, Nat.le_of_ble_eq_true rfl⟩ rfl rfl (Nat.le_of_ble_eq_true rfl) dL_areSeats_440 (x_pi ?_)
      refine x_nicmp_ne X (pc := 443) (a := cntB (fell S.1) nc) (b := cntB (fell S.1) nc) (tgt := 507) dL_areSeats_443 (by decide) (by omega) (by omega) (fun z => absurd rfl z) (fun _ => ?_)
      refine x_iload X (pc := 446) 2 dL_areSeats_446 rfl ?_
      refine x_aload_n X (pc := 448) 8 dL_areSeats_448 rfl rfl ?_
      refine x_iconst X (pc := 449) (v := 4) dL_areSeats_449 (by decide) ?_
      refine x_callV X ⟨Nat.zero_le _, Nat.zero_le _⟩ (pc := 450) (rest := [.int (sumI (S.1 10) nm)]) kv_X10_account (q_ac hX1 hI (ac_4 hI)) zk_17_0 (zc_17_0 E _) rfl rfl gw_356 ⟨⟨rfl, rfl⟩, Nat.le_of_ble_eq_true rfl, Nat.le_of_ble_eq_true rfl⟩ rfl rfl (Nat.le_of_ble_eq_true rfl) dL_areSeats_450 (x_pi ?_)
      refine x_icmp_ne X (pc := 453) (tgt := 507) dL_areSeats_453 (by decide) (fun z => absurd rfl z) (fun _ => ?_)
      refine x_bipush X (pc := 456) (v := 10) dL_areSeats_456 (by decide) ?_
      refine x_bipush X (pc := 458) (v := 8) dL_areSeats_458 (by decide) ?_
      refine x_iload_n X (pc := 460) 6 dL_areSeats_460 rfl rfl ?_
      refine x_imul X (pc := 461) dL_areSeats_461 ?_
      refine x_iadd X (pc := 462) dL_areSeats_462 ?_
      refine x_aload_n X (pc := 463) 8 dL_areSeats_463 rfl rfl ?_
      refine x_bipush X (pc := 464) (v := 6) dL_areSeats_464 (by decide) ?_
      refine x_callV X ⟨Nat.zero_le _, Nat.zero_le _⟩ (pc := 466) (rest := [.int (10 + (8 * (nI nm)))]) kv_X10_account (q_ac hX1 hI (ac_6)) zk_17_0 (zc_17_0 E _) rfl rfl gw_356 ⟨⟨rfl, rfl⟩, Nat.le_of_ble_eq_true rfl, Nat.le_of_ble_eq_true rfl⟩ rfl rfl (Nat.le_of_ble_eq_true rfl) dL_areSeats_466 (x_pi ?_)
      refine x_iadd X (pc := 469) dL_areSeats_469 ?_
      refine x_aload_n X (pc := 470) 8 dL_areSeats_470 rfl rfl ?_
      refine x_iconst X (pc := 471) (v := 5) dL_areSeats_471 (by decide) ?_
      refine x_callV X ⟨Nat.zero_le _, Nat.zero_le _⟩ (pc := 472) (rest := [.int ((10 + (8 * (nI nm))) + (S.1 14 1))]) kv_X10_account (q_ac hX1 hI (ac_5)) zk_17_0 (zc_17_0 E _) rfl rfl gw_356 ⟨⟨rfl, rfl⟩, Nat.le_of_ble_eq_true rfl, Nat.le_of_ble_eq_true rfl⟩ rfl rfl (Nat.le_of_ble_eq_true rfl) dL_areSeats_472 (x_pi ?_)
      refine x_iload X (pc := 475) 2 dL_areSeats_475 rfl ?_
      refine x_iadd X (pc := 477) dL_areSeats_477 ?_
      refine x_aload_n X (pc := 478) 8 dL_areSeats_478 rfl rfl ?_
      refine x_bipush X (pc := 479) (v := 7) dL_areSeats_479 (by decide) ?_
      refine x_callV X ⟨Nat.zero_le _, Nat.zero_le _⟩ (pc := 481) (rest := [.int ((S.1 14 0) + (sumI (S.1 10) nm)), .int ((10 + (8 * (nI nm))) + (S.1 14 1))]) kv_X10_account (q_ac hX1 hI (ac_7)) zk_17_0 (zc_17_0 E _) rfl rfl gw_356 ⟨⟨rfl, rfl⟩, Nat.le_of_ble_eq_true rfl, Nat.le_of_ble_eq_true rfl⟩ rfl rfl (Nat.le_of_ble_eq_true rfl) dL_areSeats_481 (x_pi ?_)
      refine x_iadd X (pc := 484) dL_areSeats_484 ?_
      refine x_aload_n X (pc := 485) 8 dL_areSeats_485 rfl rfl ?_
      refine x_bipush X (pc := 486) (v := 8) dL_areSeats_486 (by decide) ?_
      refine x_callV X ⟨Nat.zero_le _, Nat.zero_le _⟩ (pc := 488) (rest := [.int (((S.1 14 0) + (sumI (S.1 10) nm)) + (S.1 14 2)), .int ((10 + (8 * (nI nm))) + (S.1 14 1))]) kv_X10_account (q_ac hX1 hI (ac_8)) zk_17_0 (zc_17_0 E _) rfl rfl gw_356 ⟨⟨rfl, rfl⟩, Nat.le_of_ble_eq_true rfl, Nat.le_of_ble_eq_true rfl⟩ rfl rfl (Nat.le_of_ble_eq_true rfl) dL_areSeats_488 (x_pi ?_)
      refine x_iadd X (pc := 491) dL_areSeats_491 ?_
      refine x_icmp_ne X (pc := 492) (tgt := 507) dL_areSeats_492 (by decide) (fun z => absurd (by have e := hI.bl; unfold bal at e; rw [hI.nm] at e; exact e) z) (fun _ => ?_)
      refine x_aload_n X (pc := 495) 8 dL_areSeats_495 rfl rfl ?_
      refine x_callV X ⟨Nat.zero_le _, Nat.zero_le _⟩ (pc := 496) (rest := []) kv_X10_isBalanced (q_bal hX1 hI) zk_17_0 (zc_17_0 E _) rfl rfl gw_698 ⟨⟨rfl, rfl⟩, Nat.le_of_ble_eq_true rfl, Nat.le_of_ble_eq_true rfl⟩ rfl rfl (Nat.le_of_ble_eq_true rfl) dL_areSeats_496 (x_ri (fun v3 M3 h3 => ?_))
      have hX3 : XS M3 (sL S l) := hX1.fw h3.2
      refine x_iconst X (pc := 499) (v := 1) dL_areSeats_499 (by decide) ?_
      refine x_icmp_ne X (pc := 500) (tgt := 507) dL_areSeats_500 (by decide) (fun z => absurd h3.1 z) (fun _ => ?_)
      refine x_iconst X (pc := 503) (v := 1) dL_areSeats_503 (by decide) ?_
      refine x_goto X (pc := 504) (tgt := 508) dL_areSeats_504 (by decide) ?_
      refine x_istore X (pc := 508) (lv1 := [(7, .int 1), (8, .int (nI nm)), (6, .int (sumI (S.1 10) nm)), (3, .int (nI (cntB (sits S.1) nm))), (5, .int (fitSum S.1 nc)), (4, .int (nI (cntB (fell S.1) nc))), (2, .int (nI nm)), (1, .int (nI nc)), (0, .ref (za E 17 0))]) dL_areSeats_508 (by decide) rfl ?_
      refine x_iload X (pc := 510) 0 dL_areSeats_510 rfl ?_
      refine x_if_eq X (pc := 512) (tgt := 563) dL_areSeats_512 (by decide) (fun z => absurd z (by decide)) (fun _ => ?_)
      refine x_aload_n X (pc := 515) 8 dL_areSeats_515 rfl rfl ?_
      refine x_callV X ⟨Nat.zero_le _, Nat.zero_le _⟩ (pc := 516) (rest := []) kv_X10_meanFit (q_mean hX3 hI) zk_17_0 (zc_17_0 E _) rfl rfl gw_726 ⟨⟨rfl, rfl⟩, Nat.le_of_ble_eq_true rfl, Nat.le_of_ble_eq_true rfl⟩ rfl rfl (Nat.le_of_ble_eq_true rfl) dL_areSeats_516 (x_pd ?_)
      refine x_iload_n X (pc := 519) 3 dL_areSeats_519 rfl rfl ?_
      refine x_nif_ne X (pc := 520) (tgt := 527) dL_areSeats_520 (by decide) (by omega) (fun c520 => ?_) (fun c520 => ?_)
      · refine x_iload X (pc := 527) 4 dL_areSeats_527 rfl ?_
        refine x_i2d X (pc := 529) dL_areSeats_529 ?_
        refine x_iload_n X (pc := 530) 3 dL_areSeats_530 rfl rfl ?_
        refine x_i2d X (pc := 531) dL_areSeats_531 ?_
        refine x_ddiv X (pc := 532) dL_areSeats_532 (mean_n hI c520) ?_
        refine x_dcmp X (pc := 533) dL_areSeats_533 ?_
        refine x_if_ne X (pc := 534) (tgt := 563) dL_areSeats_534 (by decide) (fun z => absurd (mean_eq1 hI c520) z) (fun _ => ?_)
        refine x_aload_n X (pc := 537) 8 dL_areSeats_537 rfl rfl ?_
        refine x_callV X ⟨Nat.zero_le _, Nat.zero_le _⟩ (pc := 538) (rest := []) kv_X10_fallenShare (q_share hX3 hI) zk_17_0 (zc_17_0 E _) rfl rfl gw_730 ⟨⟨rfl, rfl⟩, Nat.le_of_ble_eq_true rfl, Nat.le_of_ble_eq_true rfl⟩ rfl rfl (Nat.le_of_ble_eq_true rfl) dL_areSeats_538 (x_pf ?_)
        refine x_iload_n X (pc := 541) 7 dL_areSeats_541 rfl rfl ?_
        refine x_nif_ne X (pc := 542) (tgt := 549) dL_areSeats_542 (by decide) (by omega) (fun c542 => ?_) (fun c542 => ?_)
        · refine x_iload X (pc := 549) 5 dL_areSeats_549 rfl ?_
          refine x_i2f X (pc := 551) dL_areSeats_551 ?_
          refine x_iload_n X (pc := 552) 7 dL_areSeats_552 rfl rfl ?_
          refine x_i2f X (pc := 553) dL_areSeats_553 ?_
          refine x_fdiv X (pc := 554) dL_areSeats_554 (share_n hI c542) ?_
          refine x_fcmp X (pc := 555) dL_areSeats_555 ?_
          refine x_if_ne X (pc := 556) (tgt := 563) dL_areSeats_556 (by decide) (fun z => absurd (share_eq1 hI c542) z) (fun _ => ?_)
          refine x_iconst X (pc := 559) (v := 1) dL_areSeats_559 (by decide) ?_
          refine x_goto X (pc := 560) (tgt := 564) dL_areSeats_560 (by decide) ?_
          exact x_zret X Y (by decide) (Nat.le_refl _) (Nat.le_refl _) dL_areSeats_564 ⟨_, rfl, rfl, _, hX3⟩
        · refine x_fconst0 X (pc := 545) dL_areSeats_545 ?_
          refine x_goto X (pc := 546) (tgt := 555) dL_areSeats_546 (by decide) ?_
          refine x_fcmp X (pc := 555) dL_areSeats_555 ?_
          refine x_if_ne X (pc := 556) (tgt := 563) dL_areSeats_556 (by decide) (fun z => absurd (by rw [c542]; exact share_eq0) z) (fun _ => ?_)
          refine x_iconst X (pc := 559) (v := 1) dL_areSeats_559 (by decide) ?_
          refine x_goto X (pc := 560) (tgt := 564) dL_areSeats_560 (by decide) ?_
          exact x_zret X Y (by decide) (Nat.le_refl _) (Nat.le_refl _) dL_areSeats_564 ⟨_, rfl, rfl, _, hX3⟩
      · refine x_dconst0 X (pc := 523) dL_areSeats_523 ?_
        refine x_goto X (pc := 524) (tgt := 533) dL_areSeats_524 (by decide) ?_
        refine x_dcmp X (pc := 533) dL_areSeats_533 ?_
        refine x_if_ne X (pc := 534) (tgt := 563) dL_areSeats_534 (by decide) (fun z => absurd (mean_eq0 hI c520) z) (fun _ => ?_)
        refine x_aload_n X (pc := 537) 8 dL_areSeats_537 rfl rfl ?_
        refine x_callV X ⟨Nat.zero_le _, Nat.zero_le _⟩ (pc := 538) (rest := []) kv_X10_fallenShare (q_share hX3 hI) zk_17_0 (zc_17_0 E _) rfl rfl gw_730 ⟨⟨rfl, rfl⟩, Nat.le_of_ble_eq_true rfl, Nat.le_of_ble_eq_true rfl⟩ rfl rfl (Nat.le_of_ble_eq_true rfl) dL_areSeats_538 (x_pf ?_)
        refine x_iload_n X (pc := 541) 7 dL_areSeats_541 rfl rfl ?_
        refine x_nif_ne X (pc := 542) (tgt := 549) dL_areSeats_542 (by decide) (by omega) (fun c542 => ?_) (fun c542 => ?_)
        · refine x_iload X (pc := 549) 5 dL_areSeats_549 rfl ?_
          refine x_i2f X (pc := 551) dL_areSeats_551 ?_
          refine x_iload_n X (pc := 552) 7 dL_areSeats_552 rfl rfl ?_
          refine x_i2f X (pc := 553) dL_areSeats_553 ?_
          refine x_fdiv X (pc := 554) dL_areSeats_554 (share_n hI c542) ?_
          refine x_fcmp X (pc := 555) dL_areSeats_555 ?_
          refine x_if_ne X (pc := 556) (tgt := 563) dL_areSeats_556 (by decide) (fun z => absurd (share_eq1 hI c542) z) (fun _ => ?_)
          refine x_iconst X (pc := 559) (v := 1) dL_areSeats_559 (by decide) ?_
          refine x_goto X (pc := 560) (tgt := 564) dL_areSeats_560 (by decide) ?_
          exact x_zret X Y (by decide) (Nat.le_refl _) (Nat.le_refl _) dL_areSeats_564 ⟨_, rfl, rfl, _, hX3⟩
        · refine x_fconst0 X (pc := 545) dL_areSeats_545 ?_
          refine x_goto X (pc := 546) (tgt := 555) dL_areSeats_546 (by decide) ?_
          refine x_fcmp X (pc := 555) dL_areSeats_555 ?_
          refine x_if_ne X (pc := 556) (tgt := 563) dL_areSeats_556 (by decide) (fun z => absurd (by rw [c542]; exact share_eq0) z) (fun _ => ?_)
          refine x_iconst X (pc := 559) (v := 1) dL_areSeats_559 (by decide) ?_
          refine x_goto X (pc := 560) (tgt := 564) dL_areSeats_560 (by decide) ?_
          exact x_zret X Y (by decide) (Nat.le_refl _) (Nat.le_refl _) dL_areSeats_564 ⟨_, rfl, rfl, _, hX3⟩
    · refine x_aload_n X (pc := 316) 8 dL_areSeats_316 rfl rfl ?_
      refine x_iload X (pc := 317) 0 dL_areSeats_317 rfl ?_
      refine x_iconst X (pc := 319) (v := 5) dL_areSeats_319 (by decide) ?_
      refine x_callV X ⟨Nat.zero_le _, Nat.zero_le _⟩ (pc := 320) (rest := []) kv_X10_musicianOf (q_mu hX1 hI (m := m) (by omega) (v := orN (S.1 12 m)) rfl) zk_17_0 (zc_17_0 E _) rfl rfl gw_404 ⟨⟨rfl, rfl⟩, Nat.le_of_ble_eq_true rfl, Nat.le_of_ble_eq_true rfl⟩ rfl rfl (Nat.le_of_ble_eq_true rfl) dL_areSeats_320 (x_pi ?_)
      rcases hI.nor12 (m := m) (by omega) with e12 | ⟨c0, hc0, e12⟩
      · refine x_top (y := ((-1015))) (by rw [e12]; rfl) ?_
        refine x_istore X (pc := 323) (lv1 := [(9, .int ((-1015))), (8, .int (nI m)), (7, .int 1), (6, .int (sumI (S.1 10) m)), (3, .int (nI (cntB (sits S.1) m))), (5, .int (fitSum S.1 nc)), (4, .int (nI (cntB (fell S.1) nc))), (2, .int (nI nm)), (1, .int (nI nc)), (0, .ref (za E 17 0))]) dL_areSeats_323 (by decide) rfl ?_
        refine x_iload_n X (pc := 325) 4 dL_areSeats_325 rfl rfl ?_
        refine x_iload X (pc := 326) 0 dL_areSeats_326 rfl ?_
        refine x_sipush X (pc := 328) (v := (-1015)) dL_areSeats_328 (by decide) ?_
        refine x_icmp_ne X (pc := 331) (tgt := 338) dL_areSeats_331 (by decide) (fun z => absurd rfl z) (fun _ => ?_)
        refine x_iconst X (pc := 334) (v := 0) dL_areSeats_334 (by decide) ?_
        refine x_goto X (pc := 335) (tgt := 339) dL_areSeats_335 (by decide) ?_
        refine x_iadd X (pc := 339) dL_areSeats_339 ?_
        refine x_top (y := (nI (cntB (sits S.1) (m + 1)))) (sits_0 e12) ?_
        refine x_istore_n X (pc := 340) (lv1 := [(3, .int (nI (cntB (sits S.1) (m + 1)))), (9, .int ((-1015))), (8, .int (nI m)), (7, .int 1), (6, .int (sumI (S.1 10) m)), (5, .int (fitSum S.1 nc)), (4, .int (nI (cntB (fell S.1) nc))), (2, .int (nI nm)), (1, .int (nI nc)), (0, .ref (za E 17 0))]) dL_areSeats_340 rfl (by decide) rfl ?_
        refine x_iload X (pc := 341) 4 dL_areSeats_341 rfl ?_
        refine x_aload_n X (pc := 343) 9 dL_areSeats_343 rfl rfl ?_
        refine x_iload X (pc := 344) 2 dL_areSeats_344 rfl ?_
        refine x_iconst X (pc := 346) (v := 3) dL_areSeats_346 (by decide) ?_
        refine x_callV X ⟨Nat.zero_le _, Nat.zero_le _⟩ (pc := 347) (rest := [.int (sumI (S.1 10) m)]) kv_X10_musicianOf (q_mu hX1 hI (m := m) (by omega) (v := S.1 10 m) rfl) zk_17_0 (zc_17_0 E _) rfl rfl gw_404 ⟨⟨rfl, rfl⟩, Nat.le_of_ble_eq_true rfl, Nat.le_of_ble_eq_true rfl⟩ rfl rfl (Nat.le_of_ble_eq_true rfl) dL_areSeats_347 (x_pi ?_)
        refine x_iadd X (pc := 350) dL_areSeats_350 ?_
        refine x_top (y := (sumI (S.1 10) (m + 1))) rfl ?_
        refine x_istore X (pc := 351) (lv1 := [(6, .int (sumI (S.1 10) (m + 1))), (3, .int (nI (cntB (sits S.1) (m + 1)))), (9, .int ((-1015))), (8, .int (nI m)), (7, .int 1), (5, .int (fitSum S.1 nc)), (4, .int (nI (cntB (fell S.1) nc))), (2, .int (nI nm)), (1, .int (nI nc)), (0, .ref (za E 17 0))]) dL_areSeats_351 (by decide) rfl ?_
        refine x_iload X (pc := 353) 2 dL_areSeats_353 rfl ?_
        refine x_sipush X (pc := 355) (v := (-1015)) dL_areSeats_355 (by decide) ?_
        refine x_icmp_ne X (pc := 358) (tgt := 379) dL_areSeats_358 (by decide) (fun z => absurd rfl z) (fun _ => ?_)
        refine x_aload_n X (pc := 361) 9 dL_areSeats_361 rfl rfl ?_
        refine x_iload X (pc := 362) 3 dL_areSeats_362 rfl ?_
        refine x_iconst X (pc := 364) (v := 4) dL_areSeats_364 (by decide) ?_
        refine x_callV X ⟨Nat.zero_le _, Nat.zero_le _⟩ (pc := 365) (rest := []) kv_X10_musicianOf (q_mu hX1 hI (m := m) (by omega) (v := S.1 11 m) rfl) zk_17_0 (zc_17_0 E _) rfl rfl gw_404 ⟨⟨rfl, rfl⟩, Nat.le_of_ble_eq_true rfl, Nat.le_of_ble_eq_true rfl⟩ rfl rfl (Nat.le_of_ble_eq_true rfl) dL_areSeats_365 (x_pi ?_)
        refine x_if_ne X (pc := 368) (tgt := 375) dL_areSeats_368 (by decide) (fun z => absurd ((hI.mu m (by omega)).2.2.2.2.2.2.1 e12) z) (fun _ => ?_)
        refine x_iconst X (pc := 371) (v := 1) dL_areSeats_371 (by decide) ?_
        refine x_goto X (pc := 372) (tgt := 414) dL_areSeats_372 (by decide) ?_
        refine x_istore X (pc := 414) (lv1 := [(7, .int 1), (6, .int (sumI (S.1 10) (m + 1))), (3, .int (nI (cntB (sits S.1) (m + 1)))), (9, .int ((-1015))), (8, .int (nI m)), (5, .int (fitSum S.1 nc)), (4, .int (nI (cntB (fell S.1) nc))), (2, .int (nI nm)), (1, .int (nI nc)), (0, .ref (za E 17 0))]) dL_areSeats_414 (by decide) rfl ?_
        refine x_iinc X (pc := 416) (v := (nI (m + 1))) (lv1 := [(8, .int (nI (m + 1))), (7, .int 1), (6, .int (sumI (S.1 10) (m + 1))), (3, .int (nI (cntB (sits S.1) (m + 1)))), (9, .int ((-1015))), (5, .int (fitSum S.1 nc)), (4, .int (nI (cntB (fell S.1) nc))), (2, .int (nI nm)), (1, .int (nI nc)), (0, .ref (za E 17 0))]) 4 dL_areSeats_416 rfl (nI_1 _) (by decide) rfl ?_
        refine x_goto X (pc := 419) (tgt := 305) dL_areSeats_419 (by decide) ?_
        refine x_sub (lv' := [(8, .int (nI (m + 1))), (7, .int 1), (6, .int (sumI (S.1 10) (m + 1))), (3, .int (nI (cntB (sits S.1) (m + 1)))), (5, .int (fitSum S.1 nc)), (4, .int (nI (cntB (fell S.1) nc))), (2, .int (nI nm)), (1, .int (nI nc)), (0, .ref (za E 17 0))]) [0, 1, 2, 3, 5, 6, 7, 8, 9] rfl ?_
        exact ih305 () (by omega) trivial
      · refine x_top (y := (nI c0)) (by rw [e12]; exact orN_nI (by omega)) ?_
        refine x_istore X (pc := 323) (lv1 := [(9, .int (nI c0)), (8, .int (nI m)), (7, .int 1), (6, .int (sumI (S.1 10) m)), (3, .int (nI (cntB (sits S.1) m))), (5, .int (fitSum S.1 nc)), (4, .int (nI (cntB (fell S.1) nc))), (2, .int (nI nm)), (1, .int (nI nc)), (0, .ref (za E 17 0))]) dL_areSeats_323 (by decide) rfl ?_
        refine x_iload_n X (pc := 325) 4 dL_areSeats_325 rfl rfl ?_
        refine x_iload X (pc := 326) 0 dL_areSeats_326 rfl ?_
        refine x_sipush X (pc := 328) (v := (-1015)) dL_areSeats_328 (by decide) ?_
        refine x_icmp_ne X (pc := 331) (tgt := 338) dL_areSeats_331 (by decide) (fun _ => ?_) (fun z => absurd z (nI_ne_15 (by omega)))
        refine x_iconst X (pc := 338) (v := 1) dL_areSeats_338 (by decide) ?_
        refine x_iadd X (pc := 339) dL_areSeats_339 ?_
        refine x_top (y := (nI (cntB (sits S.1) (m + 1)))) (sits_1 (by rw [e12]; exact nI_ne_m1 (by omega))) ?_
        refine x_istore_n X (pc := 340) (lv1 := [(3, .int (nI (cntB (sits S.1) (m + 1)))), (9, .int (nI c0)), (8, .int (nI m)), (7, .int 1), (6, .int (sumI (S.1 10) m)), (5, .int (fitSum S.1 nc)), (4, .int (nI (cntB (fell S.1) nc))), (2, .int (nI nm)), (1, .int (nI nc)), (0, .ref (za E 17 0))]) dL_areSeats_340 rfl (by decide) rfl ?_
        refine x_iload X (pc := 341) 4 dL_areSeats_341 rfl ?_
        refine x_aload_n X (pc := 343) 9 dL_areSeats_343 rfl rfl ?_
        refine x_iload X (pc := 344) 2 dL_areSeats_344 rfl ?_
        refine x_iconst X (pc := 346) (v := 3) dL_areSeats_346 (by decide) ?_
        refine x_callV X ⟨Nat.zero_le _, Nat.zero_le _⟩ (pc := 347) (rest := [.int (sumI (S.1 10) m)]) kv_X10_musicianOf (q_mu hX1 hI (m := m) (by omega) (v := S.1 10 m) rfl) zk_17_0 (zc_17_0 E _) rfl rfl gw_404 ⟨⟨rfl, rfl⟩, Nat.le_of_ble_eq_true rfl, Nat.le_of_ble_eq_true rfl⟩ rfl rfl (Nat.le_of_ble_eq_true rfl) dL_areSeats_347 (x_pi ?_)
        refine x_iadd X (pc := 350) dL_areSeats_350 ?_
        refine x_top (y := (sumI (S.1 10) (m + 1))) rfl ?_
        refine x_istore X (pc := 351) (lv1 := [(6, .int (sumI (S.1 10) (m + 1))), (3, .int (nI (cntB (sits S.1) (m + 1)))), (9, .int (nI c0)), (8, .int (nI m)), (7, .int 1), (5, .int (fitSum S.1 nc)), (4, .int (nI (cntB (fell S.1) nc))), (2, .int (nI nm)), (1, .int (nI nc)), (0, .ref (za E 17 0))]) dL_areSeats_351 (by decide) rfl ?_
        refine x_iload X (pc := 353) 2 dL_areSeats_353 rfl ?_
        refine x_sipush X (pc := 355) (v := (-1015)) dL_areSeats_355 (by decide) ?_
        refine x_icmp_ne X (pc := 358) (tgt := 379) dL_areSeats_358 (by decide) (fun _ => ?_) (fun z => absurd z (nI_ne_15 (by omega)))
        refine x_aload_n X (pc := 379) 9 dL_areSeats_379 rfl rfl ?_
        refine x_iload X (pc := 380) 2 dL_areSeats_380 rfl ?_
        refine x_bipush X (pc := 382) (v := 7) dL_areSeats_382 (by decide) ?_
        refine x_callV X ⟨Nat.zero_le _, Nat.zero_le _⟩ (pc := 384) (rest := []) kv_X10_chairOf (q_ch hX1 hI (c := c0) (by omega) (v := orN (S.1 6 c0)) rfl) zk_17_0 (zc_17_0 E _) rfl rfl gw_385 ⟨⟨rfl, rfl⟩, Nat.le_of_ble_eq_true rfl, Nat.le_of_ble_eq_true rfl⟩ rfl rfl (Nat.le_of_ble_eq_true rfl) dL_areSeats_384 (x_pi ?_)
        refine x_iload X (pc := 387) 3 dL_areSeats_387 rfl ?_
        refine x_icmp_ne X (pc := 389) (tgt := 413) dL_areSeats_389 (by decide) (fun z => absurd (by rw [hI.ef.1 m c0 (by omega) hc0 e12]; exact orN_nI (by omega)) z) (fun _ => ?_)
        refine x_aload_n X (pc := 392) 9 dL_areSeats_392 rfl rfl ?_
        refine x_iload X (pc := 393) 3 dL_areSeats_393 rfl ?_
        refine x_iconst X (pc := 395) (v := 4) dL_areSeats_395 (by decide) ?_
        refine x_callV X ⟨Nat.zero_le _, Nat.zero_le _⟩ (pc := 396) (rest := []) kv_X10_musicianOf (q_mu hX1 hI (m := m) (by omega) (v := S.1 11 m) rfl) zk_17_0 (zc_17_0 E _) rfl rfl gw_404 ⟨⟨rfl, rfl⟩, Nat.le_of_ble_eq_true rfl, Nat.le_of_ble_eq_true rfl⟩ rfl rfl (Nat.le_of_ble_eq_true rfl) dL_areSeats_396 (x_pi ?_)
        refine x_aload_n X (pc := 399) 9 dL_areSeats_399 rfl rfl ?_
        refine x_iload X (pc := 400) 3 dL_areSeats_400 rfl ?_
        refine x_iconst X (pc := 402) (v := 3) dL_areSeats_402 (by decide) ?_
        refine x_callV X ⟨Nat.zero_le _, Nat.zero_le _⟩ (pc := 403) (rest := [.int (S.1 11 m)]) kv_X10_musicianOf (q_mu hX1 hI (m := m) (by omega) (v := S.1 10 m) rfl) zk_17_0 (zc_17_0 E _) rfl rfl gw_404 ⟨⟨rfl, rfl⟩, Nat.le_of_ble_eq_true rfl, Nat.le_of_ble_eq_true rfl⟩ rfl rfl (Nat.le_of_ble_eq_true rfl) dL_areSeats_403 (x_pi ?_)
        refine x_icmp_gt X (pc := 406) (tgt := 413) dL_areSeats_406 (by decide) (fun z => absurd z (i32_nlt.mpr (hI.mu m (by omega)).2.2.2.2.2.1)) (fun _ => ?_)
        refine x_iconst X (pc := 409) (v := 1) dL_areSeats_409 (by decide) ?_
        refine x_goto X (pc := 410) (tgt := 414) dL_areSeats_410 (by decide) ?_
        refine x_istore X (pc := 414) (lv1 := [(7, .int 1), (6, .int (sumI (S.1 10) (m + 1))), (3, .int (nI (cntB (sits S.1) (m + 1)))), (9, .int (nI c0)), (8, .int (nI m)), (5, .int (fitSum S.1 nc)), (4, .int (nI (cntB (fell S.1) nc))), (2, .int (nI nm)), (1, .int (nI nc)), (0, .ref (za E 17 0))]) dL_areSeats_414 (by decide) rfl ?_
        refine x_iinc X (pc := 416) (v := (nI (m + 1))) (lv1 := [(8, .int (nI (m + 1))), (7, .int 1), (6, .int (sumI (S.1 10) (m + 1))), (3, .int (nI (cntB (sits S.1) (m + 1)))), (9, .int (nI c0)), (5, .int (fitSum S.1 nc)), (4, .int (nI (cntB (fell S.1) nc))), (2, .int (nI nm)), (1, .int (nI nc)), (0, .ref (za E 17 0))]) 4 dL_areSeats_416 rfl (nI_1 _) (by decide) rfl ?_
        refine x_goto X (pc := 419) (tgt := 305) dL_areSeats_419 (by decide) ?_
        refine x_sub (lv' := [(8, .int (nI (m + 1))), (7, .int 1), (6, .int (sumI (S.1 10) (m + 1))), (3, .int (nI (cntB (sits S.1) (m + 1)))), (5, .int (fitSum S.1 nc)), (4, .int (nI (cntB (fell S.1) nc))), (2, .int (nI nm)), (1, .int (nI nc)), (0, .ref (za E 17 0))]) [0, 1, 2, 3, 5, 6, 7, 8, 9] rfl ?_
        exact ih305 () (by omega) trivial
  · refine x_aload_n X (pc := 40) 8 dL_areSeats_40 rfl rfl ?_
    refine x_iload X (pc := 41) 0 dL_areSeats_41 rfl ?_
    refine x_bipush X (pc := 43) (v := 7) dL_areSeats_43 (by decide) ?_
    refine x_callV X ⟨Nat.zero_le _, Nat.zero_le _⟩ (pc := 45) (rest := []) kv_X10_chairOf (q_ch hX1 hI (c := c) (by omega) (v := orN (S.1 6 c)) rfl) zk_17_0 (zc_17_0 E _) rfl rfl gw_385 ⟨⟨rfl, rfl⟩, Nat.le_of_ble_eq_true rfl, Nat.le_of_ble_eq_true rfl⟩ rfl rfl (Nat.le_of_ble_eq_true rfl) dL_areSeats_45 (x_pi ?_)
    rcases hI.sit (c := c) (by omega) with e6 | ⟨m0, hm0, e6, e12⟩
    · refine x_top (y := ((-1015))) (by rw [e6]; rfl) ?_
      refine x_istore X (pc := 48) (lv1 := [(9, .int ((-1015))), (8, .int (nI c)), (7, .int 1), (6, .int 0), (5, .int (fitSum S.1 c)), (4, .int (nI (cntB (fell S.1) c))), (3, .int 0), (2, .int (nI nm)), (1, .int (nI nc)), (0, .ref (za E 17 0))]) dL_areSeats_48 (by decide) rfl ?_
      refine x_aload_n X (pc := 50) 9 dL_areSeats_50 rfl rfl ?_
      refine x_iload X (pc := 51) 1 dL_areSeats_51 rfl ?_
      refine x_iconst X (pc := 53) (v := 3) dL_areSeats_53 (by decide) ?_
      refine x_callV X ⟨Nat.zero_le _, Nat.zero_le _⟩ (pc := 54) (rest := []) kv_X10_chairOf (q_ch hX1 hI (c := c) (by omega) (v := S.1 3 c) rfl) zk_17_0 (zc_17_0 E _) rfl rfl gw_385 ⟨⟨rfl, rfl⟩, Nat.le_of_ble_eq_true rfl, Nat.le_of_ble_eq_true rfl⟩ rfl rfl (Nat.le_of_ble_eq_true rfl) dL_areSeats_54 (x_pi ?_)
      refine x_if_ne X (pc := 57) (tgt := 64) dL_areSeats_57 (by decide) (fun h3 => ?_) (fun h3 => ?_)
      · refine x_iconst X (pc := 64) (v := 0) dL_areSeats_64 (by decide) ?_
        refine x_istore X (pc := 65) (lv1 := [(10, .int 0), (9, .int ((-1015))), (8, .int (nI c)), (7, .int 1), (6, .int 0), (5, .int (fitSum S.1 c)), (4, .int (nI (cntB (fell S.1) c))), (3, .int 0), (2, .int (nI nm)), (1, .int (nI nc)), (0, .ref (za E 17 0))]) dL_areSeats_65 (by decide) rfl ?_
        refine x_iload X (pc := 67) 6 dL_areSeats_67 rfl ?_
        refine x_iload X (pc := 69) 0 dL_areSeats_69 rfl ?_
        refine x_if_eq X (pc := 71) (tgt := 78) dL_areSeats_71 (by decide) (fun _ => ?_) (fun z => absurd (by decide) z)
        refine x_iconst X (pc := 78) (v := 0) dL_areSeats_78 (by decide) ?_
        refine x_iadd X (pc := 79) dL_areSeats_79 ?_
        refine x_top (y := (nI (cntB (fell S.1) (c + 1)))) (fell_0 h3) ?_
        refine x_istore X (pc := 80) (lv1 := [(4, .int (nI (cntB (fell S.1) (c + 1)))), (10, .int 0), (9, .int ((-1015))), (8, .int (nI c)), (7, .int 1), (6, .int 0), (5, .int (fitSum S.1 c)), (3, .int 0), (2, .int (nI nm)), (1, .int (nI nc)), (0, .ref (za E 17 0))]) dL_areSeats_80 (by decide) rfl ?_
        refine x_iload X (pc := 82) 6 dL_areSeats_82 rfl ?_
        refine x_iload X (pc := 84) 2 dL_areSeats_84 rfl ?_
        refine x_sipush X (pc := 86) (v := (-1015)) dL_areSeats_86 (by decide) ?_
        refine x_icmp_ne X (pc := 89) (tgt := 96) dL_areSeats_89 (by decide) (fun z => absurd rfl z) (fun _ => ?_)
        refine x_iconst X (pc := 92) (v := 0) dL_areSeats_92 (by decide) ?_
        refine x_goto X (pc := 93) (tgt := 104) dL_areSeats_93 (by decide) ?_
        refine x_iadd X (pc := 104) dL_areSeats_104 ?_
        refine x_top (y := (fitSum S.1 (c + 1))) (fsum_0 e6) ?_
        refine x_istore X (pc := 105) (lv1 := [(5, .int (fitSum S.1 (c + 1))), (4, .int (nI (cntB (fell S.1) (c + 1)))), (10, .int 0), (9, .int ((-1015))), (8, .int (nI c)), (7, .int 1), (6, .int 0), (3, .int 0), (2, .int (nI nm)), (1, .int (nI nc)), (0, .ref (za E 17 0))]) dL_areSeats_105 (by decide) rfl ?_
        refine x_aload_n X (pc := 107) 10 dL_areSeats_107 rfl rfl ?_
        refine x_iload X (pc := 108) 4 dL_areSeats_108 rfl ?_
        refine x_iconst X (pc := 110) (v := 5) dL_areSeats_110 (by decide) ?_
        refine x_callV X ⟨Nat.zero_le _, Nat.zero_le _⟩ (pc := 111) (rest := []) kv_X10_chairOf (q_ch hX1 hI (c := c) (by omega) (v := comf S.1 c) rfl) zk_17_0 (zc_17_0 E _) rfl rfl gw_385 ⟨⟨rfl, rfl⟩, Nat.le_of_ble_eq_true rfl, Nat.le_of_ble_eq_true rfl⟩ rfl rfl (Nat.le_of_ble_eq_true rfl) dL_areSeats_111 (x_pi ?_)
        refine x_aload_n X (pc := 114) 10 dL_areSeats_114 rfl rfl ?_
        refine x_iload X (pc := 115) 4 dL_areSeats_115 rfl ?_
        refine x_iconst X (pc := 117) (v := 2) dL_areSeats_117 (by decide) ?_
        refine x_callV X ⟨Nat.zero_le _, Nat.zero_le _⟩ (pc := 118) (rest := [.int (comf S.1 c)]) kv_X10_chairOf (q_ch hX1 hI (c := c) (by omega) (v := S.1 2 c) rfl) zk_17_0 (zc_17_0 E _) rfl rfl gw_385 ⟨⟨rfl, rfl⟩, Nat.le_of_ble_eq_true rfl, Nat.le_of_ble_eq_true rfl⟩ rfl rfl (Nat.le_of_ble_eq_true rfl) dL_areSeats_118 (x_pi ?_)
        refine x_iconst X (pc := 121) (v := 3) dL_areSeats_121 (by decide) ?_
        refine x_aload_n X (pc := 122) 10 dL_areSeats_122 rfl rfl ?_
        refine x_iload X (pc := 123) 4 dL_areSeats_123 rfl ?_
        refine x_iconst X (pc := 125) (v := 4) dL_areSeats_125 (by decide) ?_
        refine x_callV X ⟨Nat.zero_le _, Nat.zero_le _⟩ (pc := 126) (rest := [.int 3, .int (S.1 2 c), .int (comf S.1 c)]) kv_X10_chairOf (q_ch hX1 hI (c := c) (by omega) (v := S.1 4 c) rfl) zk_17_0 (zc_17_0 E _) rfl rfl gw_385 ⟨⟨rfl, rfl⟩, Nat.le_of_ble_eq_true rfl, Nat.le_of_ble_eq_true rfl⟩ rfl rfl (Nat.le_of_ble_eq_true rfl) dL_areSeats_126 (x_pi ?_)
        refine x_imul X (pc := 129) dL_areSeats_129 ?_
        refine x_iadd X (pc := 130) dL_areSeats_130 ?_
        refine x_icmp_ne X (pc := 131) (tgt := 207) dL_areSeats_131 (by decide) (fun z => absurd rfl z) (fun _ => ?_)
        refine x_iload X (pc := 134) 3 dL_areSeats_134 rfl ?_
        refine x_sipush X (pc := 136) (v := (-1015)) dL_areSeats_136 (by decide) ?_
        refine x_icmp_eq X (pc := 139) (tgt := 172) dL_areSeats_139 (by decide) (fun _ => ?_) (fun z => absurd rfl z)
        refine x_aload_n X (pc := 172) 10 dL_areSeats_172 rfl rfl ?_
        refine x_aload_n X (pc := 173) 10 dL_areSeats_173 rfl rfl ?_
        refine x_iload X (pc := 174) 4 dL_areSeats_174 rfl ?_
        refine x_iconst X (pc := 176) (v := 4) dL_areSeats_176 (by decide) ?_
        refine x_callV X ⟨Nat.zero_le _, Nat.zero_le _⟩ (pc := 177) (rest := [.ref (za E 17 0)]) kv_X10_chairOf (q_ch hX1 hI (c := c) (by omega) (v := S.1 4 c) rfl) zk_17_0 (zc_17_0 E _) rfl rfl gw_385 ⟨⟨rfl, rfl⟩, Nat.le_of_ble_eq_true rfl, Nat.le_of_ble_eq_true rfl⟩ rfl rfl (Nat.le_of_ble_eq_true rfl) dL_areSeats_177 (x_pi ?_)
        refine x_callV X ⟨Nat.zero_le _, Nat.zero_le _⟩ (pc := 180) (rest := []) kv_X10_hall (q_hall hX1 hI (t := (S.1 4 c)) (rng_inB (lo := 0) (hi := 2) (hI.ch c (by omega)).2.2.2.2.1 (by omega))) zk_17_0 (zc_17_0 E _) rfl rfl gw_685 ⟨⟨rfl, rfl⟩, Nat.le_of_ble_eq_true rfl, Nat.le_of_ble_eq_true rfl⟩ rfl rfl (Nat.le_of_ble_eq_true rfl) dL_areSeats_180 (x_pi ?_)
        refine x_iload X (pc := 183) 4 dL_areSeats_183 rfl ?_
        refine x_ishr X (pc := 185) dL_areSeats_185 ?_
        refine x_iconst X (pc := 186) (v := 1) dL_areSeats_186 (by decide) ?_
        refine x_iand X (pc := 187) dL_areSeats_187 ?_
        refine x_iconst X (pc := 188) (v := 1) dL_areSeats_188 (by decide) ?_
        refine x_icmp_ne X (pc := 189) (tgt := 207) dL_areSeats_189 (by decide) (fun z => absurd (hall_in hI (by omega)) z) (fun _ => ?_)
        refine x_aload_n X (pc := 192) 10 dL_areSeats_192 rfl rfl ?_
        refine x_iload X (pc := 193) 4 dL_areSeats_193 rfl ?_
        refine x_callV X ⟨Nat.zero_le _, Nat.zero_le _⟩ (pc := 195) (rest := []) kv_X10_tell (q_tell hX1 hI (nI c)) zk_17_0 (zc_17_0 E _) rfl rfl gw_689 ⟨⟨rfl, rfl⟩, Nat.le_of_ble_eq_true rfl, Nat.le_of_ble_eq_true rfl⟩ rfl rfl (Nat.le_of_ble_eq_true rfl) dL_areSeats_195 (x_ri (fun v2 M2 h2 => ?_))
        have hX2 : XS M2 (sL S _) := xl_step (S := sL S l) hX1 h2.2.1 h2.2.2
        refine x_bipush X (pc := 198) (v := 7) dL_areSeats_198 (by decide) ?_
        refine x_icmp_lt X (pc := 200) (tgt := 207) dL_areSeats_200 (by decide) (fun z => absurd z (by rw [h2.1]; exact tell7 hI (by omega))) (fun _ => ?_)
        refine x_iconst X (pc := 203) (v := 1) dL_areSeats_203 (by decide) ?_
        refine x_goto X (pc := 204) (tgt := 208) dL_areSeats_204 (by decide) ?_
        refine x_istore X (pc := 208) (lv1 := [(7, .int 1), (5, .int (fitSum S.1 (c + 1))), (4, .int (nI (cntB (fell S.1) (c + 1)))), (10, .int 0), (9, .int ((-1015))), (8, .int (nI c)), (6, .int 0), (3, .int 0), (2, .int (nI nm)), (1, .int (nI nc)), (0, .ref (za E 17 0))]) dL_areSeats_208 (by decide) rfl ?_
        refine x_iconst X (pc := 210) (v := 0) dL_areSeats_210 (by decide) ?_
        refine x_istore X (pc := 211) (lv1 := [(11, .int 0), (7, .int 1), (5, .int (fitSum S.1 (c + 1))), (4, .int (nI (cntB (fell S.1) (c + 1)))), (10, .int 0), (9, .int ((-1015))), (8, .int (nI c)), (6, .int 0), (3, .int 0), (2, .int (nI nm)), (1, .int (nI nc)), (0, .ref (za E 17 0))]) dL_areSeats_211 (by decide) rfl ?_
        refine x_sub (lv' := [(11, .int 0), (7, .int 1), (8, .int (nI c)), (6, .int 0), (5, .int (fitSum S.1 (c + 1))), (4, .int (nI (cntB (fell S.1) (c + 1)))), (3, .int 0), (2, .int (nI nm)), (1, .int (nI nc)), (0, .ref (za E 17 0))]) [0, 1, 6, 7, 2, 3, 8, 9, 10, 11] rfl ?_
        refine x_eq (lv' := [(11, .int (nI 0)), (7, .int 1), (8, .int (nI c)), (6, .int 0), (5, .int (fitSum S.1 (c + 1))), (4, .int (nI (cntB (fell S.1) (c + 1)))), (3, .int 0), (2, .int (nI nm)), (1, .int (nI nc)), (0, .ref (za E 17 0))]) rfl rfl ?_
        refine x_loop nm 213 (σ := Unit) (fun _ _ => True) (fun k _ => (M2, [(11, .int (nI k)), (7, .int 1), (8, .int (nI c)), (6, .int 0), (5, .int (fitSum S.1 (c + 1))), (4, .int (nI (cntB (fell S.1) (c + 1)))), (3, .int 0), (2, .int (nI nm)), (1, .int (nI nc)), (0, .ref (za E 17 0))])) ?_ 0 () (Nat.zero_le _) trivial
        intro k _ hk213 _ ih213
        show ZX gg E 0 0 [] M2 [(11, .int (nI k)), (7, .int 1), (8, .int (nI c)), (6, .int 0), (5, .int (fitSum S.1 (c + 1))), (4, .int (nI (cntB (fell S.1) (c + 1)))), (3, .int 0), (2, .int (nI nm)), (1, .int (nI nc)), (0, .ref (za E 17 0))] 213 []
        refine x_iload X (pc := 213) 1 dL_areSeats_213 rfl ?_
        refine x_if_eq X (pc := 215) (tgt := 296) dL_areSeats_215 (by decide) (fun z => absurd z (by decide)) (fun _ => ?_)
        refine x_iload X (pc := 218) 0 dL_areSeats_218 rfl ?_
        refine x_iload_n X (pc := 220) 7 dL_areSeats_220 rfl rfl ?_
        refine x_nicmp_ge X (pc := 221) (a := k) (b := nm) (tgt := 296) dL_areSeats_221 (by decide) (by omega) (by omega) (fun c221 => ?_) (fun c221 => ?_)
        · obtain rfl : nm = k := by omega
          refine x_iinc X (pc := 296) (v := (nI (c + 1))) (lv1 := [(8, .int (nI (c + 1))), (11, .int (nI nm)), (7, .int 1), (6, .int 0), (5, .int (fitSum S.1 (c + 1))), (4, .int (nI (cntB (fell S.1) (c + 1)))), (3, .int 0), (2, .int (nI nm)), (1, .int (nI nc)), (0, .ref (za E 17 0))]) 2 dL_areSeats_296 rfl (nI_1 _) (by decide) rfl ?_
          refine x_goto X (pc := 299) (tgt := 29) dL_areSeats_299 (by decide) ?_
          refine x_sub (lv' := [(8, .int (nI (c + 1))), (7, .int 1), (6, .int 0), (5, .int (fitSum S.1 (c + 1))), (4, .int (nI (cntB (fell S.1) (c + 1)))), (3, .int 0), (2, .int (nI nm)), (1, .int (nI nc)), (0, .ref (za E 17 0))]) [0, 2, 3, 4, 5, 6, 7, 8, 9] rfl ?_
          exact ih29 M2 (by omega) ⟨_, hX2⟩
        · refine x_bipush X (pc := 224) (v := 9) dL_areSeats_224 (by decide) ?_
          refine x_aload_n X (pc := 226) 9 dL_areSeats_226 rfl rfl ?_
          refine x_iload X (pc := 227) 2 dL_areSeats_227 rfl ?_
          refine x_iconst X (pc := 229) (v := 1) dL_areSeats_229 (by decide) ?_
          refine x_callV X ⟨Nat.zero_le _, Nat.zero_le _⟩ (pc := 230) (rest := [.int 9]) kv_X10_chairOf (q_ch hX2 hI (c := c) (by omega) (v := S.1 1 c) rfl) zk_17_0 (zc_17_0 E _) rfl rfl gw_385 ⟨⟨rfl, rfl⟩, Nat.le_of_ble_eq_true rfl, Nat.le_of_ble_eq_true rfl⟩ rfl rfl (Nat.le_of_ble_eq_true rfl) dL_areSeats_230 (x_pi ?_)
          refine x_aload_n X (pc := 233) 9 dL_areSeats_233 rfl rfl ?_
          refine x_iload X (pc := 234) 0 dL_areSeats_234 rfl ?_
          refine x_iconst X (pc := 236) (v := 1) dL_areSeats_236 (by decide) ?_
          refine x_callV X ⟨Nat.zero_le _, Nat.zero_le _⟩ (pc := 237) (rest := [.int (S.1 1 c), .int 9]) kv_X10_musicianOf (q_mu hX2 hI (m := k) (by omega) (v := S.1 8 k) rfl) zk_17_0 (zc_17_0 E _) rfl rfl gw_404 ⟨⟨rfl, rfl⟩, Nat.le_of_ble_eq_true rfl, Nat.le_of_ble_eq_true rfl⟩ rfl rfl (Nat.le_of_ble_eq_true rfl) dL_areSeats_237 (x_pi ?_)
          refine x_isub X (pc := 240) dL_areSeats_240 ?_
          refine x_abs X ⟨Nat.zero_le _, Nat.zero_le _⟩ (pc := 241) gw_680 gw_274 gw_70 gw_275 (by decide) (Nat.le_of_ble_eq_true rfl) dL_areSeats_241 ?_
          refine x_isub X (pc := 244) dL_areSeats_244 ?_
          refine x_aload_n X (pc := 245) 9 dL_areSeats_245 rfl rfl ?_
          refine x_iload X (pc := 246) 2 dL_areSeats_246 rfl ?_
          refine x_iconst X (pc := 248) (v := 0) dL_areSeats_248 (by decide) ?_
          refine x_callV X ⟨Nat.zero_le _, Nat.zero_le _⟩ (pc := 249) (rest := [.int (9 - (if 0 ≤ ((S.1 1 c) - (S.1 8 k)) then ((S.1 1 c) - (S.1 8 k)) else 0 - ((S.1 1 c) - (S.1 8 k))))]) kv_X10_chairOf (q_ch hX2 hI (c := c) (by omega) (v := S.1 0 c) rfl) zk_17_0 (zc_17_0 E _) rfl rfl gw_385 ⟨⟨rfl, rfl⟩, Nat.le_of_ble_eq_true rfl, Nat.le_of_ble_eq_true rfl⟩ rfl rfl (Nat.le_of_ble_eq_true rfl) dL_areSeats_249 (x_pi ?_)
          refine x_aload_n X (pc := 252) 9 dL_areSeats_252 rfl rfl ?_
          refine x_iload X (pc := 253) 0 dL_areSeats_253 rfl ?_
          refine x_iconst X (pc := 255) (v := 0) dL_areSeats_255 (by decide) ?_
          refine x_callV X ⟨Nat.zero_le _, Nat.zero_le _⟩ (pc := 256) (rest := [.int (S.1 0 c), .int (9 - (if 0 ≤ ((S.1 1 c) - (S.1 8 k)) then ((S.1 1 c) - (S.1 8 k)) else 0 - ((S.1 1 c) - (S.1 8 k))))]) kv_X10_musicianOf (q_mu hX2 hI (m := k) (by omega) (v := S.1 7 k) rfl) zk_17_0 (zc_17_0 E _) rfl rfl gw_404 ⟨⟨rfl, rfl⟩, Nat.le_of_ble_eq_true rfl, Nat.le_of_ble_eq_true rfl⟩ rfl rfl (Nat.le_of_ble_eq_true rfl) dL_areSeats_256 (x_pi ?_)
          refine x_icmp_ne X (pc := 259) (tgt := 266) dL_areSeats_259 (by decide) (fun c259 => ?_) (fun c259 => ?_)
          · refine x_iconst X (pc := 266) (v := 0) dL_areSeats_266 (by decide) ?_
            refine x_iadd X (pc := 267) dL_areSeats_267 ?_
            refine x_istore X (pc := 268) (lv1 := [(12, .int ((9 - (if 0 ≤ ((S.1 1 c) - (S.1 8 k)) then ((S.1 1 c) - (S.1 8 k)) else 0 - ((S.1 1 c) - (S.1 8 k)))) + 0)), (11, .int (nI k)), (7, .int 1), (8, .int (nI c)), (6, .int 0), (5, .int (fitSum S.1 (c + 1))), (4, .int (nI (cntB (fell S.1) (c + 1)))), (3, .int 0), (2, .int (nI nm)), (1, .int (nI nc)), (0, .ref (za E 17 0))]) dL_areSeats_268 (by decide) rfl ?_
            refine x_aload_n X (pc := 270) 10 dL_areSeats_270 rfl rfl ?_
            refine x_iload X (pc := 271) 3 dL_areSeats_271 rfl ?_
            refine x_iload X (pc := 273) 1 dL_areSeats_273 rfl ?_
            refine x_callV X ⟨Nat.zero_le _, Nat.zero_le _⟩ (pc := 275) (rest := []) kv_X10_fit (q_fit hX2 hI (c := c) (m := k) (by omega) (by omega)) zk_17_0 (zc_17_0 E _) rfl rfl gw_681 ⟨⟨rfl, rfl⟩, Nat.le_of_ble_eq_true rfl, Nat.le_of_ble_eq_true rfl⟩ rfl rfl (Nat.le_of_ble_eq_true rfl) dL_areSeats_275 (x_pi ?_)
            refine x_iload X (pc := 278) 0 dL_areSeats_278 rfl ?_
            refine x_icmp_ne X (pc := 280) (tgt := 287) dL_areSeats_280 (by decide) (fun z => absurd (fit_b c259) z) (fun _ => ?_)
            refine x_iconst X (pc := 283) (v := 1) dL_areSeats_283 (by decide) ?_
            refine x_goto X (pc := 284) (tgt := 288) dL_areSeats_284 (by decide) ?_
            refine x_istore X (pc := 288) (lv1 := [(7, .int 1), (12, .int ((9 - (if 0 ≤ ((S.1 1 c) - (S.1 8 k)) then ((S.1 1 c) - (S.1 8 k)) else 0 - ((S.1 1 c) - (S.1 8 k)))) + 0)), (11, .int (nI k)), (8, .int (nI c)), (6, .int 0), (5, .int (fitSum S.1 (c + 1))), (4, .int (nI (cntB (fell S.1) (c + 1)))), (3, .int 0), (2, .int (nI nm)), (1, .int (nI nc)), (0, .ref (za E 17 0))]) dL_areSeats_288 (by decide) rfl ?_
            refine x_iinc X (pc := 290) (v := (nI (k + 1))) (lv1 := [(11, .int (nI (k + 1))), (7, .int 1), (12, .int ((9 - (if 0 ≤ ((S.1 1 c) - (S.1 8 k)) then ((S.1 1 c) - (S.1 8 k)) else 0 - ((S.1 1 c) - (S.1 8 k)))) + 0)), (8, .int (nI c)), (6, .int 0), (5, .int (fitSum S.1 (c + 1))), (4, .int (nI (cntB (fell S.1) (c + 1)))), (3, .int 0), (2, .int (nI nm)), (1, .int (nI nc)), (0, .ref (za E 17 0))]) 2 dL_areSeats_290 rfl (nI_1 _) (by decide) rfl ?_
            refine x_goto X (pc := 293) (tgt := 213) dL_areSeats_293 (by decide) ?_
            refine x_sub (lv' := [(11, .int (nI (k + 1))), (7, .int 1), (8, .int (nI c)), (6, .int 0), (5, .int (fitSum S.1 (c + 1))), (4, .int (nI (cntB (fell S.1) (c + 1)))), (3, .int 0), (2, .int (nI nm)), (1, .int (nI nc)), (0, .ref (za E 17 0))]) [0, 1, 3, 4, 5, 6, 7, 8, 9, 10] rfl ?_
            exact ih213 () (by omega) trivial
          · refine x_iconst X (pc := 262) (v := 4) dL_areSeats_262 (by decide) ?_
            refine x_goto X (pc := 263) (tgt := 267) dL_areSeats_263 (by decide) ?_
            refine x_iadd X (pc := 267) dL_areSeats_267 ?_
            refine x_istore X (pc := 268) (lv1 := [(12, .int ((9 - (if 0 ≤ ((S.1 1 c) - (S.1 8 k)) then ((S.1 1 c) - (S.1 8 k)) else 0 - ((S.1 1 c) - (S.1 8 k)))) + 4)), (11, .int (nI k)), (7, .int 1), (8, .int (nI c)), (6, .int 0), (5, .int (fitSum S.1 (c + 1))), (4, .int (nI (cntB (fell S.1) (c + 1)))), (3, .int 0), (2, .int (nI nm)), (1, .int (nI nc)), (0, .ref (za E 17 0))]) dL_areSeats_268 (by decide) rfl ?_
            refine x_aload_n X (pc := 270) 10 dL_areSeats_270 rfl rfl ?_
            refine x_iload X (pc := 271) 3 dL_areSeats_271 rfl ?_
            refine x_iload X (pc := 273) 1 dL_areSeats_273 rfl ?_
            refine x_callV X ⟨Nat.zero_le _, Nat.zero_le _⟩ (pc := 275) (rest := []) kv_X10_fit (q_fit hX2 hI (c := c) (m := k) (by omega) (by omega)) zk_17_0 (zc_17_0 E _) rfl rfl gw_681 ⟨⟨rfl, rfl⟩, Nat.le_of_ble_eq_true rfl, Nat.le_of_ble_eq_true rfl⟩ rfl rfl (Nat.le_of_ble_eq_true rfl) dL_areSeats_275 (x_pi ?_)
            refine x_iload X (pc := 278) 0 dL_areSeats_278 rfl ?_
            refine x_icmp_ne X (pc := 280) (tgt := 287) dL_areSeats_280 (by decide) (fun z => absurd (fit_a c259) z) (fun _ => ?_)
            refine x_iconst X (pc := 283) (v := 1) dL_areSeats_283 (by decide) ?_
            refine x_goto X (pc := 284) (tgt := 288) dL_areSeats_284 (by decide) ?_
            refine x_istore X (pc := 288) (lv1 := [(7, .int 1), (12, .int ((9 - (if 0 ≤ ((S.1 1 c) - (S.1 8 k)) then ((S.1 1 c) - (S.1 8 k)) else 0 - ((S.1 1 c) - (S.1 8 k)))) + 4)), (11, .int (nI k)), (8, .int (nI c)), (6, .int 0), (5, .int (fitSum S.1 (c + 1))), (4, .int (nI (cntB (fell S.1) (c + 1)))), (3, .int 0), (2, .int (nI nm)), (1, .int (nI nc)), (0, .ref (za E 17 0))]) dL_areSeats_288 (by decide) rfl ?_
            refine x_iinc X (pc := 290) (v := (nI (k + 1))) (lv1 := [(11, .int (nI (k + 1))), (7, .int 1), (12, .int ((9 - (if 0 ≤ ((S.1 1 c) - (S.1 8 k)) then ((S.1 1 c) - (S.1 8 k)) else 0 - ((S.1 1 c) - (S.1 8 k)))) + 4)), (8, .int (nI c)), (6, .int 0), (5, .int (fitSum S.1 (c + 1))), (4, .int (nI (cntB (fell S.1) (c + 1)))), (3, .int 0), (2, .int (nI nm)), (1, .int (nI nc)), (0, .ref (za E 17 0))]) 2 dL_areSeats_290 rfl (nI_1 _) (by decide) rfl ?_
            refine x_goto X (pc := 293) (tgt := 213) dL_areSeats_293 (by decide) ?_
            refine x_sub (lv' := [(11, .int (nI (k + 1))), (7, .int 1), (8, .int (nI c)), (6, .int 0), (5, .int (fitSum S.1 (c + 1))), (4, .int (nI (cntB (fell S.1) (c + 1)))), (3, .int 0), (2, .int (nI nm)), (1, .int (nI nc)), (0, .ref (za E 17 0))]) [0, 1, 3, 4, 5, 6, 7, 8, 9, 10] rfl ?_
            exact ih213 () (by omega) trivial
      · refine x_iconst X (pc := 60) (v := 1) dL_areSeats_60 (by decide) ?_
        refine x_goto X (pc := 61) (tgt := 65) dL_areSeats_61 (by decide) ?_
        refine x_istore X (pc := 65) (lv1 := [(10, .int 1), (9, .int ((-1015))), (8, .int (nI c)), (7, .int 1), (6, .int 0), (5, .int (fitSum S.1 c)), (4, .int (nI (cntB (fell S.1) c))), (3, .int 0), (2, .int (nI nm)), (1, .int (nI nc)), (0, .ref (za E 17 0))]) dL_areSeats_65 (by decide) rfl ?_
        refine x_iload X (pc := 67) 6 dL_areSeats_67 rfl ?_
        refine x_iload X (pc := 69) 0 dL_areSeats_69 rfl ?_
        refine x_if_eq X (pc := 71) (tgt := 78) dL_areSeats_71 (by decide) (fun z => absurd z (by decide)) (fun _ => ?_)
        refine x_iconst X (pc := 74) (v := 1) dL_areSeats_74 (by decide) ?_
        refine x_goto X (pc := 75) (tgt := 79) dL_areSeats_75 (by decide) ?_
        refine x_iadd X (pc := 79) dL_areSeats_79 ?_
        refine x_top (y := (nI (cntB (fell S.1) (c + 1)))) (fell_1 h3) ?_
        refine x_istore X (pc := 80) (lv1 := [(4, .int (nI (cntB (fell S.1) (c + 1)))), (10, .int 1), (9, .int ((-1015))), (8, .int (nI c)), (7, .int 1), (6, .int 0), (5, .int (fitSum S.1 c)), (3, .int 0), (2, .int (nI nm)), (1, .int (nI nc)), (0, .ref (za E 17 0))]) dL_areSeats_80 (by decide) rfl ?_
        refine x_iload X (pc := 82) 6 dL_areSeats_82 rfl ?_
        refine x_iload X (pc := 84) 2 dL_areSeats_84 rfl ?_
        refine x_sipush X (pc := 86) (v := (-1015)) dL_areSeats_86 (by decide) ?_
        refine x_icmp_ne X (pc := 89) (tgt := 96) dL_areSeats_89 (by decide) (fun z => absurd rfl z) (fun _ => ?_)
        refine x_iconst X (pc := 92) (v := 0) dL_areSeats_92 (by decide) ?_
        refine x_goto X (pc := 93) (tgt := 104) dL_areSeats_93 (by decide) ?_
        refine x_iadd X (pc := 104) dL_areSeats_104 ?_
        refine x_top (y := (fitSum S.1 (c + 1))) (fsum_0 e6) ?_
        refine x_istore X (pc := 105) (lv1 := [(5, .int (fitSum S.1 (c + 1))), (4, .int (nI (cntB (fell S.1) (c + 1)))), (10, .int 1), (9, .int ((-1015))), (8, .int (nI c)), (7, .int 1), (6, .int 0), (3, .int 0), (2, .int (nI nm)), (1, .int (nI nc)), (0, .ref (za E 17 0))]) dL_areSeats_105 (by decide) rfl ?_
        refine x_aload_n X (pc := 107) 10 dL_areSeats_107 rfl rfl ?_
        refine x_iload X (pc := 108) 4 dL_areSeats_108 rfl ?_
        refine x_iconst X (pc := 110) (v := 5) dL_areSeats_110 (by decide) ?_
        refine x_callV X ⟨Nat.zero_le _, Nat.zero_le _⟩ (pc := 111) (rest := []) kv_X10_chairOf (q_ch hX1 hI (c := c) (by omega) (v := comf S.1 c) rfl) zk_17_0 (zc_17_0 E _) rfl rfl gw_385 ⟨⟨rfl, rfl⟩, Nat.le_of_ble_eq_true rfl, Nat.le_of_ble_eq_true rfl⟩ rfl rfl (Nat.le_of_ble_eq_true rfl) dL_areSeats_111 (x_pi ?_)
        refine x_aload_n X (pc := 114) 10 dL_areSeats_114 rfl rfl ?_
        refine x_iload X (pc := 115) 4 dL_areSeats_115 rfl ?_
        refine x_iconst X (pc := 117) (v := 2) dL_areSeats_117 (by decide) ?_
        refine x_callV X ⟨Nat.zero_le _, Nat.zero_le _⟩ (pc := 118) (rest := [.int (comf S.1 c)]) kv_X10_chairOf (q_ch hX1 hI (c := c) (by omega) (v := S.1 2 c) rfl) zk_17_0 (zc_17_0 E _) rfl rfl gw_385 ⟨⟨rfl, rfl⟩, Nat.le_of_ble_eq_true rfl, Nat.le_of_ble_eq_true rfl⟩ rfl rfl (Nat.le_of_ble_eq_true rfl) dL_areSeats_118 (x_pi ?_)
        refine x_iconst X (pc := 121) (v := 3) dL_areSeats_121 (by decide) ?_
        refine x_aload_n X (pc := 122) 10 dL_areSeats_122 rfl rfl ?_
        refine x_iload X (pc := 123) 4 dL_areSeats_123 rfl ?_
        refine x_iconst X (pc := 125) (v := 4) dL_areSeats_125 (by decide) ?_
        refine x_callV X ⟨Nat.zero_le _, Nat.zero_le _⟩ (pc := 126) (rest := [.int 3, .int (S.1 2 c), .int (comf S.1 c)]) kv_X10_chairOf (q_ch hX1 hI (c := c) (by omega) (v := S.1 4 c) rfl) zk_17_0 (zc_17_0 E _) rfl rfl gw_385 ⟨⟨rfl, rfl⟩, Nat.le_of_ble_eq_true rfl, Nat.le_of_ble_eq_true rfl⟩ rfl rfl (Nat.le_of_ble_eq_true rfl) dL_areSeats_126 (x_pi ?_)
        refine x_imul X (pc := 129) dL_areSeats_129 ?_
        refine x_iadd X (pc := 130) dL_areSeats_130 ?_
        refine x_icmp_ne X (pc := 131) (tgt := 207) dL_areSeats_131 (by decide) (fun z => absurd rfl z) (fun _ => ?_)
        refine x_iload X (pc := 134) 3 dL_areSeats_134 rfl ?_
        refine x_sipush X (pc := 136) (v := (-1015)) dL_areSeats_136 (by decide) ?_
        refine x_icmp_eq X (pc := 139) (tgt := 172) dL_areSeats_139 (by decide) (fun _ => ?_) (fun z => absurd rfl z)
        refine x_aload_n X (pc := 172) 10 dL_areSeats_172 rfl rfl ?_
        refine x_aload_n X (pc := 173) 10 dL_areSeats_173 rfl rfl ?_
        refine x_iload X (pc := 174) 4 dL_areSeats_174 rfl ?_
        refine x_iconst X (pc := 176) (v := 4) dL_areSeats_176 (by decide) ?_
        refine x_callV X ⟨Nat.zero_le _, Nat.zero_le _⟩ (pc := 177) (rest := [.ref (za E 17 0)]) kv_X10_chairOf (q_ch hX1 hI (c := c) (by omega) (v := S.1 4 c) rfl) zk_17_0 (zc_17_0 E _) rfl rfl gw_385 ⟨⟨rfl, rfl⟩, Nat.le_of_ble_eq_true rfl, Nat.le_of_ble_eq_true rfl⟩ rfl rfl (Nat.le_of_ble_eq_true rfl) dL_areSeats_177 (x_pi ?_)
        refine x_callV X ⟨Nat.zero_le _, Nat.zero_le _⟩ (pc := 180) (rest := []) kv_X10_hall (q_hall hX1 hI (t := (S.1 4 c)) (rng_inB (lo := 0) (hi := 2) (hI.ch c (by omega)).2.2.2.2.1 (by omega))) zk_17_0 (zc_17_0 E _) rfl rfl gw_685 ⟨⟨rfl, rfl⟩, Nat.le_of_ble_eq_true rfl, Nat.le_of_ble_eq_true rfl⟩ rfl rfl (Nat.le_of_ble_eq_true rfl) dL_areSeats_180 (x_pi ?_)
        refine x_iload X (pc := 183) 4 dL_areSeats_183 rfl ?_
        refine x_ishr X (pc := 185) dL_areSeats_185 ?_
        refine x_iconst X (pc := 186) (v := 1) dL_areSeats_186 (by decide) ?_
        refine x_iand X (pc := 187) dL_areSeats_187 ?_
        refine x_iconst X (pc := 188) (v := 1) dL_areSeats_188 (by decide) ?_
        refine x_icmp_ne X (pc := 189) (tgt := 207) dL_areSeats_189 (by decide) (fun z => absurd (hall_in hI (by omega)) z) (fun _ => ?_)
        refine x_aload_n X (pc := 192) 10 dL_areSeats_192 rfl rfl ?_
        refine x_iload X (pc := 193) 4 dL_areSeats_193 rfl ?_
        refine x_callV X ⟨Nat.zero_le _, Nat.zero_le _⟩ (pc := 195) (rest := []) kv_X10_tell (q_tell hX1 hI (nI c)) zk_17_0 (zc_17_0 E _) rfl rfl gw_689 ⟨⟨rfl, rfl⟩, Nat.le_of_ble_eq_true rfl, Nat.le_of_ble_eq_true rfl⟩ rfl rfl (Nat.le_of_ble_eq_true rfl) dL_areSeats_195 (x_ri (fun v2 M2 h2 => ?_))
        have hX2 : XS M2 (sL S _) := xl_step (S := sL S l) hX1 h2.2.1 h2.2.2
        refine x_bipush X (pc := 198) (v := 7) dL_areSeats_198 (by decide) ?_
        refine x_icmp_lt X (pc := 200) (tgt := 207) dL_areSeats_200 (by decide) (fun z => absurd z (by rw [h2.1]; exact tell7 hI (by omega))) (fun _ => ?_)
        refine x_iconst X (pc := 203) (v := 1) dL_areSeats_203 (by decide) ?_
        refine x_goto X (pc := 204) (tgt := 208) dL_areSeats_204 (by decide) ?_
        refine x_istore X (pc := 208) (lv1 := [(7, .int 1), (5, .int (fitSum S.1 (c + 1))), (4, .int (nI (cntB (fell S.1) (c + 1)))), (10, .int 1), (9, .int ((-1015))), (8, .int (nI c)), (6, .int 0), (3, .int 0), (2, .int (nI nm)), (1, .int (nI nc)), (0, .ref (za E 17 0))]) dL_areSeats_208 (by decide) rfl ?_
        refine x_iconst X (pc := 210) (v := 0) dL_areSeats_210 (by decide) ?_
        refine x_istore X (pc := 211) (lv1 := [(11, .int 0), (7, .int 1), (5, .int (fitSum S.1 (c + 1))), (4, .int (nI (cntB (fell S.1) (c + 1)))), (10, .int 1), (9, .int ((-1015))), (8, .int (nI c)), (6, .int 0), (3, .int 0), (2, .int (nI nm)), (1, .int (nI nc)), (0, .ref (za E 17 0))]) dL_areSeats_211 (by decide) rfl ?_
        refine x_sub (lv' := [(11, .int 0), (7, .int 1), (8, .int (nI c)), (6, .int 0), (5, .int (fitSum S.1 (c + 1))), (4, .int (nI (cntB (fell S.1) (c + 1)))), (3, .int 0), (2, .int (nI nm)), (1, .int (nI nc)), (0, .ref (za E 17 0))]) [0, 1, 6, 7, 2, 3, 8, 9, 10, 11] rfl ?_
        refine x_eq (lv' := [(11, .int (nI 0)), (7, .int 1), (8, .int (nI c)), (6, .int 0), (5, .int (fitSum S.1 (c + 1))), (4, .int (nI (cntB (fell S.1) (c + 1)))), (3, .int 0), (2, .int (nI nm)), (1, .int (nI nc)), (0, .ref (za E 17 0))]) rfl rfl ?_
        refine x_loop nm 213 (σ := Unit) (fun _ _ => True) (fun k _ => (M2, [(11, .int (nI k)), (7, .int 1), (8, .int (nI c)), (6, .int 0), (5, .int (fitSum S.1 (c + 1))), (4, .int (nI (cntB (fell S.1) (c + 1)))), (3, .int 0), (2, .int (nI nm)), (1, .int (nI nc)), (0, .ref (za E 17 0))])) ?_ 0 () (Nat.zero_le _) trivial
        intro k _ hk213 _ ih213
        show ZX gg E 0 0 [] M2 [(11, .int (nI k)), (7, .int 1), (8, .int (nI c)), (6, .int 0), (5, .int (fitSum S.1 (c + 1))), (4, .int (nI (cntB (fell S.1) (c + 1)))), (3, .int 0), (2, .int (nI nm)), (1, .int (nI nc)), (0, .ref (za E 17 0))] 213 []
        refine x_iload X (pc := 213) 1 dL_areSeats_213 rfl ?_
        refine x_if_eq X (pc := 215) (tgt := 296) dL_areSeats_215 (by decide) (fun z => absurd z (by decide)) (fun _ => ?_)
        refine x_iload X (pc := 218) 0 dL_areSeats_218 rfl ?_
        refine x_iload_n X (pc := 220) 7 dL_areSeats_220 rfl rfl ?_
        refine x_nicmp_ge X (pc := 221) (a := k) (b := nm) (tgt := 296) dL_areSeats_221 (by decide) (by omega) (by omega) (fun c221 => ?_) (fun c221 => ?_)
        · obtain rfl : nm = k := by omega
          refine x_iinc X (pc := 296) (v := (nI (c + 1))) (lv1 := [(8, .int (nI (c + 1))), (11, .int (nI nm)), (7, .int 1), (6, .int 0), (5, .int (fitSum S.1 (c + 1))), (4, .int (nI (cntB (fell S.1) (c + 1)))), (3, .int 0), (2, .int (nI nm)), (1, .int (nI nc)), (0, .ref (za E 17 0))]) 2 dL_areSeats_296 rfl (nI_1 _) (by decide) rfl ?_
          refine x_goto X (pc := 299) (tgt := 29) dL_areSeats_299 (by decide) ?_
          refine x_sub (lv' := [(8, .int (nI (c + 1))), (7, .int 1), (6, .int 0), (5, .int (fitSum S.1 (c + 1))), (4, .int (nI (cntB (fell S.1) (c + 1)))), (3, .int 0), (2, .int (nI nm)), (1, .int (nI nc)), (0, .ref (za E 17 0))]) [0, 2, 3, 4, 5, 6, 7, 8, 9] rfl ?_
          exact ih29 M2 (by omega) ⟨_, hX2⟩
        · refine x_bipush X (pc := 224) (v := 9) dL_areSeats_224 (by decide) ?_
          refine x_aload_n X (pc := 226) 9 dL_areSeats_226 rfl rfl ?_
          refine x_iload X (pc := 227) 2 dL_areSeats_227 rfl ?_
          refine x_iconst X (pc := 229) (v := 1) dL_areSeats_229 (by decide) ?_
          refine x_callV X ⟨Nat.zero_le _, Nat.zero_le _⟩ (pc := 230) (rest := [.int 9]) kv_X10_chairOf (q_ch hX2 hI (c := c) (by omega) (v := S.1 1 c) rfl) zk_17_0 (zc_17_0 E _) rfl rfl gw_385 ⟨⟨rfl, rfl⟩, Nat.le_of_ble_eq_true rfl, Nat.le_of_ble_eq_true rfl⟩ rfl rfl (Nat.le_of_ble_eq_true rfl) dL_areSeats_230 (x_pi ?_)
          refine x_aload_n X (pc := 233) 9 dL_areSeats_233 rfl rfl ?_
          refine x_iload X (pc := 234) 0 dL_areSeats_234 rfl ?_
          refine x_iconst X (pc := 236) (v := 1) dL_areSeats_236 (by decide) ?_
          refine x_callV X ⟨Nat.zero_le _, Nat.zero_le _⟩ (pc := 237) (rest := [.int (S.1 1 c), .int 9]) kv_X10_musicianOf (q_mu hX2 hI (m := k) (by omega) (v := S.1 8 k) rfl) zk_17_0 (zc_17_0 E _) rfl rfl gw_404 ⟨⟨rfl, rfl⟩, Nat.le_of_ble_eq_true rfl, Nat.le_of_ble_eq_true rfl⟩ rfl rfl (Nat.le_of_ble_eq_true rfl) dL_areSeats_237 (x_pi ?_)
          refine x_isub X (pc := 240) dL_areSeats_240 ?_
          refine x_abs X ⟨Nat.zero_le _, Nat.zero_le _⟩ (pc := 241) gw_680 gw_274 gw_70 gw_275 (by decide) (Nat.le_of_ble_eq_true rfl) dL_areSeats_241 ?_
          refine x_isub X (pc := 244) dL_areSeats_244 ?_
          refine x_aload_n X (pc := 245) 9 dL_areSeats_245 rfl rfl ?_
          refine x_iload X (pc := 246) 2 dL_areSeats_246 rfl ?_
          refine x_iconst X (pc := 248) (v := 0) dL_areSeats_248 (by decide) ?_
          refine x_callV X ⟨Nat.zero_le _, Nat.zero_le _⟩ (pc := 249) (rest := [.int (9 - (if 0 ≤ ((S.1 1 c) - (S.1 8 k)) then ((S.1 1 c) - (S.1 8 k)) else 0 - ((S.1 1 c) - (S.1 8 k))))]) kv_X10_chairOf (q_ch hX2 hI (c := c) (by omega) (v := S.1 0 c) rfl) zk_17_0 (zc_17_0 E _) rfl rfl gw_385 ⟨⟨rfl, rfl⟩, Nat.le_of_ble_eq_true rfl, Nat.le_of_ble_eq_true rfl⟩ rfl rfl (Nat.le_of_ble_eq_true rfl) dL_areSeats_249 (x_pi ?_)
          refine x_aload_n X (pc := 252) 9 dL_areSeats_252 rfl rfl ?_
          refine x_iload X (pc := 253) 0 dL_areSeats_253 rfl ?_
          refine x_iconst X (pc := 255) (v := 0) dL_areSeats_255 (by decide) ?_
          refine x_callV X ⟨Nat.zero_le _, Nat.zero_le _⟩ (pc := 256) (rest := [.int (S.1 0 c), .int (9 - (if 0 ≤ ((S.1 1 c) - (S.1 8 k)) then ((S.1 1 c) - (S.1 8 k)) else 0 - ((S.1 1 c) - (S.1 8 k))))]) kv_X10_musicianOf (q_mu hX2 hI (m := k) (by omega) (v := S.1 7 k) rfl) zk_17_0 (zc_17_0 E _) rfl rfl gw_404 ⟨⟨rfl, rfl⟩, Nat.le_of_ble_eq_true rfl, Nat.le_of_ble_eq_true rfl⟩ rfl rfl (Nat.le_of_ble_eq_true rfl) dL_areSeats_256 (x_pi ?_)
          refine x_icmp_ne X (pc := 259) (tgt := 266) dL_areSeats_259 (by decide) (fun c259 => ?_) (fun c259 => ?_)
          · refine x_iconst X (pc := 266) (v := 0) dL_areSeats_266 (by decide) ?_
            refine x_iadd X (pc := 267) dL_areSeats_267 ?_
            refine x_istore X (pc := 268) (lv1 := [(12, .int ((9 - (if 0 ≤ ((S.1 1 c) - (S.1 8 k)) then ((S.1 1 c) - (S.1 8 k)) else 0 - ((S.1 1 c) - (S.1 8 k)))) + 0)), (11, .int (nI k)), (7, .int 1), (8, .int (nI c)), (6, .int 0), (5, .int (fitSum S.1 (c + 1))), (4, .int (nI (cntB (fell S.1) (c + 1)))), (3, .int 0), (2, .int (nI nm)), (1, .int (nI nc)), (0, .ref (za E 17 0))]) dL_areSeats_268 (by decide) rfl ?_
            refine x_aload_n X (pc := 270) 10 dL_areSeats_270 rfl rfl ?_
            refine x_iload X (pc := 271) 3 dL_areSeats_271 rfl ?_
            refine x_iload X (pc := 273) 1 dL_areSeats_273 rfl ?_
            refine x_callV X ⟨Nat.zero_le _, Nat.zero_le _⟩ (pc := 275) (rest := []) kv_X10_fit (q_fit hX2 hI (c := c) (m := k) (by omega) (by omega)) zk_17_0 (zc_17_0 E _) rfl rfl gw_681 ⟨⟨rfl, rfl⟩, Nat.le_of_ble_eq_true rfl, Nat.le_of_ble_eq_true rfl⟩ rfl rfl (Nat.le_of_ble_eq_true rfl) dL_areSeats_275 (x_pi ?_)
            refine x_iload X (pc := 278) 0 dL_areSeats_278 rfl ?_
            refine x_icmp_ne X (pc := 280) (tgt := 287) dL_areSeats_280 (by decide) (fun z => absurd (fit_b c259) z) (fun _ => ?_)
            refine x_iconst X (pc := 283) (v := 1) dL_areSeats_283 (by decide) ?_
            refine x_goto X (pc := 284) (tgt := 288) dL_areSeats_284 (by decide) ?_
            refine x_istore X (pc := 288) (lv1 := [(7, .int 1), (12, .int ((9 - (if 0 ≤ ((S.1 1 c) - (S.1 8 k)) then ((S.1 1 c) - (S.1 8 k)) else 0 - ((S.1 1 c) - (S.1 8 k)))) + 0)), (11, .int (nI k)), (8, .int (nI c)), (6, .int 0), (5, .int (fitSum S.1 (c + 1))), (4, .int (nI (cntB (fell S.1) (c + 1)))), (3, .int 0), (2, .int (nI nm)), (1, .int (nI nc)), (0, .ref (za E 17 0))]) dL_areSeats_288 (by decide) rfl ?_
            refine x_iinc X (pc := 290) (v := (nI (k + 1))) (lv1 := [(11, .int (nI (k + 1))), (7, .int 1), (12, .int ((9 - (if 0 ≤ ((S.1 1 c) - (S.1 8 k)) then ((S.1 1 c) - (S.1 8 k)) else 0 - ((S.1 1 c) - (S.1 8 k)))) + 0)), (8, .int (nI c)), (6, .int 0), (5, .int (fitSum S.1 (c + 1))), (4, .int (nI (cntB (fell S.1) (c + 1)))), (3, .int 0), (2, .int (nI nm)), (1, .int (nI nc)), (0, .ref (za E 17 0))]) 2 dL_areSeats_290 rfl (nI_1 _) (by decide) rfl ?_
            refine x_goto X (pc := 293) (tgt := 213) dL_areSeats_293 (by decide) ?_
            refine x_sub (lv' := [(11, .int (nI (k + 1))), (7, .int 1), (8, .int (nI c)), (6, .int 0), (5, .int (fitSum S.1 (c + 1))), (4, .int (nI (cntB (fell S.1) (c + 1)))), (3, .int 0), (2, .int (nI nm)), (1, .int (nI nc)), (0, .ref (za E 17 0))]) [0, 1, 3, 4, 5, 6, 7, 8, 9, 10] rfl ?_
            exact ih213 () (by omega) trivial
          · refine x_iconst X (pc := 262) (v := 4) dL_areSeats_262 (by decide) ?_
            refine x_goto X (pc := 263) (tgt := 267) dL_areSeats_263 (by decide) ?_
            refine x_iadd X (pc := 267) dL_areSeats_267 ?_
            refine x_istore X (pc := 268) (lv1 := [(12, .int ((9 - (if 0 ≤ ((S.1 1 c) - (S.1 8 k)) then ((S.1 1 c) - (S.1 8 k)) else 0 - ((S.1 1 c) - (S.1 8 k)))) + 4)), (11, .int (nI k)), (7, .int 1), (8, .int (nI c)), (6, .int 0), (5, .int (fitSum S.1 (c + 1))), (4, .int (nI (cntB (fell S.1) (c + 1)))), (3, .int 0), (2, .int (nI nm)), (1, .int (nI nc)), (0, .ref (za E 17 0))]) dL_areSeats_268 (by decide) rfl ?_
            refine x_aload_n X (pc := 270) 10 dL_areSeats_270 rfl rfl ?_
            refine x_iload X (pc := 271) 3 dL_areSeats_271 rfl ?_
            refine x_iload X (pc := 273) 1 dL_areSeats_273 rfl ?_
            refine x_callV X ⟨Nat.zero_le _, Nat.zero_le _⟩ (pc := 275) (rest := []) kv_X10_fit (q_fit hX2 hI (c := c) (m := k) (by omega) (by omega)) zk_17_0 (zc_17_0 E _) rfl rfl gw_681 ⟨⟨rfl, rfl⟩, Nat.le_of_ble_eq_true rfl, Nat.le_of_ble_eq_true rfl⟩ rfl rfl (Nat.le_of_ble_eq_true rfl) dL_areSeats_275 (x_pi ?_)
            refine x_iload X (pc := 278) 0 dL_areSeats_278 rfl ?_
            refine x_icmp_ne X (pc := 280) (tgt := 287) dL_areSeats_280 (by decide) (fun z => absurd (fit_a c259) z) (fun _ => ?_)
            refine x_iconst X (pc := 283) (v := 1) dL_areSeats_283 (by decide) ?_
            refine x_goto X (pc := 284) (tgt := 288) dL_areSeats_284 (by decide) ?_
            refine x_istore X (pc := 288) (lv1 := [(7, .int 1), (12, .int ((9 - (if 0 ≤ ((S.1 1 c) - (S.1 8 k)) then ((S.1 1 c) - (S.1 8 k)) else 0 - ((S.1 1 c) - (S.1 8 k)))) + 4)), (11, .int (nI k)), (8, .int (nI c)), (6, .int 0), (5, .int (fitSum S.1 (c + 1))), (4, .int (nI (cntB (fell S.1) (c + 1)))), (3, .int 0), (2, .int (nI nm)), (1, .int (nI nc)), (0, .ref (za E 17 0))]) dL_areSeats_288 (by decide) rfl ?_
            refine x_iinc X (pc := 290) (v := (nI (k + 1))) (lv1 := [(11, .int (nI (k + 1))), (7, .int 1), (12, .int ((9 - (if 0 ≤ ((S.1 1 c) - (S.1 8 k)) then ((S.1 1 c) - (S.1 8 k)) else 0 - ((S.1 1 c) - (S.1 8 k)))) + 4)), (8, .int (nI c)), (6, .int 0), (5, .int (fitSum S.1 (c + 1))), (4, .int (nI (cntB (fell S.1) (c + 1)))), (3, .int 0), (2, .int (nI nm)), (1, .int (nI nc)), (0, .ref (za E 17 0))]) 2 dL_areSeats_290 rfl (nI_1 _) (by decide) rfl ?_
            refine x_goto X (pc := 293) (tgt := 213) dL_areSeats_293 (by decide) ?_
            refine x_sub (lv' := [(11, .int (nI (k + 1))), (7, .int 1), (8, .int (nI c)), (6, .int 0), (5, .int (fitSum S.1 (c + 1))), (4, .int (nI (cntB (fell S.1) (c + 1)))), (3, .int 0), (2, .int (nI nm)), (1, .int (nI nc)), (0, .ref (za E 17 0))]) [0, 1, 3, 4, 5, 6, 7, 8, 9, 10] rfl ?_
            exact ih213 () (by omega) trivial
    · have h3 : ¬ S.1 3 c = 0 := fun z => nI_ne_m1 (by omega) (e6.symm.trans ((hI.ch c (by omega)).2.2.2.2.2.2 z))
      refine x_top (y := (nI m0)) (by rw [e6]; exact orN_nI (by omega)) ?_
      refine x_istore X (pc := 48) (lv1 := [(9, .int (nI m0)), (8, .int (nI c)), (7, .int 1), (6, .int 0), (5, .int (fitSum S.1 c)), (4, .int (nI (cntB (fell S.1) c))), (3, .int 0), (2, .int (nI nm)), (1, .int (nI nc)), (0, .ref (za E 17 0))]) dL_areSeats_48 (by decide) rfl ?_
      refine x_aload_n X (pc := 50) 9 dL_areSeats_50 rfl rfl ?_
      refine x_iload X (pc := 51) 1 dL_areSeats_51 rfl ?_
      refine x_iconst X (pc := 53) (v := 3) dL_areSeats_53 (by decide) ?_
      refine x_callV X ⟨Nat.zero_le _, Nat.zero_le _⟩ (pc := 54) (rest := []) kv_X10_chairOf (q_ch hX1 hI (c := c) (by omega) (v := S.1 3 c) rfl) zk_17_0 (zc_17_0 E _) rfl rfl gw_385 ⟨⟨rfl, rfl⟩, Nat.le_of_ble_eq_true rfl, Nat.le_of_ble_eq_true rfl⟩ rfl rfl (Nat.le_of_ble_eq_true rfl) dL_areSeats_54 (x_pi ?_)
      refine x_if_ne X (pc := 57) (tgt := 64) dL_areSeats_57 (by decide) (fun _ => ?_) (fun z => absurd z h3)
      refine x_iconst X (pc := 64) (v := 0) dL_areSeats_64 (by decide) ?_
      refine x_istore X (pc := 65) (lv1 := [(10, .int 0), (9, .int (nI m0)), (8, .int (nI c)), (7, .int 1), (6, .int 0), (5, .int (fitSum S.1 c)), (4, .int (nI (cntB (fell S.1) c))), (3, .int 0), (2, .int (nI nm)), (1, .int (nI nc)), (0, .ref (za E 17 0))]) dL_areSeats_65 (by decide) rfl ?_
      refine x_iload X (pc := 67) 6 dL_areSeats_67 rfl ?_
      refine x_iload X (pc := 69) 0 dL_areSeats_69 rfl ?_
      refine x_if_eq X (pc := 71) (tgt := 78) dL_areSeats_71 (by decide) (fun _ => ?_) (fun z => absurd (by decide) z)
      refine x_iconst X (pc := 78) (v := 0) dL_areSeats_78 (by decide) ?_
      refine x_iadd X (pc := 79) dL_areSeats_79 ?_
      refine x_top (y := (nI (cntB (fell S.1) (c + 1)))) (fell_0 h3) ?_
      refine x_istore X (pc := 80) (lv1 := [(4, .int (nI (cntB (fell S.1) (c + 1)))), (10, .int 0), (9, .int (nI m0)), (8, .int (nI c)), (7, .int 1), (6, .int 0), (5, .int (fitSum S.1 c)), (3, .int 0), (2, .int (nI nm)), (1, .int (nI nc)), (0, .ref (za E 17 0))]) dL_areSeats_80 (by decide) rfl ?_
      refine x_iload X (pc := 82) 6 dL_areSeats_82 rfl ?_
      refine x_iload X (pc := 84) 2 dL_areSeats_84 rfl ?_
      refine x_sipush X (pc := 86) (v := (-1015)) dL_areSeats_86 (by decide) ?_
      refine x_icmp_ne X (pc := 89) (tgt := 96) dL_areSeats_89 (by decide) (fun _ => ?_) (fun z => absurd z (nI_ne_15 (by omega)))
      refine x_aload_n X (pc := 96) 10 dL_areSeats_96 rfl rfl ?_
      refine x_iload X (pc := 97) 3 dL_areSeats_97 rfl ?_
      refine x_iload X (pc := 99) 2 dL_areSeats_99 rfl ?_
      refine x_callV X ⟨Nat.zero_le _, Nat.zero_le _⟩ (pc := 101) (rest := [.int (fitSum S.1 c)]) kv_X10_fit (q_fit hX1 hI (c := c) (m := m0) (by omega) (by omega)) zk_17_0 (zc_17_0 E _) rfl rfl gw_681 ⟨⟨rfl, rfl⟩, Nat.le_of_ble_eq_true rfl, Nat.le_of_ble_eq_true rfl⟩ rfl rfl (Nat.le_of_ble_eq_true rfl) dL_areSeats_101 (x_pi ?_)
      refine x_iadd X (pc := 104) dL_areSeats_104 ?_
      refine x_top (y := (fitSum S.1 (c + 1))) (fsum_1 e6 (by omega)) ?_
      refine x_istore X (pc := 105) (lv1 := [(5, .int (fitSum S.1 (c + 1))), (4, .int (nI (cntB (fell S.1) (c + 1)))), (10, .int 0), (9, .int (nI m0)), (8, .int (nI c)), (7, .int 1), (6, .int 0), (3, .int 0), (2, .int (nI nm)), (1, .int (nI nc)), (0, .ref (za E 17 0))]) dL_areSeats_105 (by decide) rfl ?_
      refine x_aload_n X (pc := 107) 10 dL_areSeats_107 rfl rfl ?_
      refine x_iload X (pc := 108) 4 dL_areSeats_108 rfl ?_
      refine x_iconst X (pc := 110) (v := 5) dL_areSeats_110 (by decide) ?_
      refine x_callV X ⟨Nat.zero_le _, Nat.zero_le _⟩ (pc := 111) (rest := []) kv_X10_chairOf (q_ch hX1 hI (c := c) (by omega) (v := comf S.1 c) rfl) zk_17_0 (zc_17_0 E _) rfl rfl gw_385 ⟨⟨rfl, rfl⟩, Nat.le_of_ble_eq_true rfl, Nat.le_of_ble_eq_true rfl⟩ rfl rfl (Nat.le_of_ble_eq_true rfl) dL_areSeats_111 (x_pi ?_)
      refine x_aload_n X (pc := 114) 10 dL_areSeats_114 rfl rfl ?_
      refine x_iload X (pc := 115) 4 dL_areSeats_115 rfl ?_
      refine x_iconst X (pc := 117) (v := 2) dL_areSeats_117 (by decide) ?_
      refine x_callV X ⟨Nat.zero_le _, Nat.zero_le _⟩ (pc := 118) (rest := [.int (comf S.1 c)]) kv_X10_chairOf (q_ch hX1 hI (c := c) (by omega) (v := S.1 2 c) rfl) zk_17_0 (zc_17_0 E _) rfl rfl gw_385 ⟨⟨rfl, rfl⟩, Nat.le_of_ble_eq_true rfl, Nat.le_of_ble_eq_true rfl⟩ rfl rfl (Nat.le_of_ble_eq_true rfl) dL_areSeats_118 (x_pi ?_)
      refine x_iconst X (pc := 121) (v := 3) dL_areSeats_121 (by decide) ?_
      refine x_aload_n X (pc := 122) 10 dL_areSeats_122 rfl rfl ?_
      refine x_iload X (pc := 123) 4 dL_areSeats_123 rfl ?_
      refine x_iconst X (pc := 125) (v := 4) dL_areSeats_125 (by decide) ?_
      refine x_callV X ⟨Nat.zero_le _, Nat.zero_le _⟩ (pc := 126) (rest := [.int 3, .int (S.1 2 c), .int (comf S.1 c)]) kv_X10_chairOf (q_ch hX1 hI (c := c) (by omega) (v := S.1 4 c) rfl) zk_17_0 (zc_17_0 E _) rfl rfl gw_385 ⟨⟨rfl, rfl⟩, Nat.le_of_ble_eq_true rfl, Nat.le_of_ble_eq_true rfl⟩ rfl rfl (Nat.le_of_ble_eq_true rfl) dL_areSeats_126 (x_pi ?_)
      refine x_imul X (pc := 129) dL_areSeats_129 ?_
      refine x_iadd X (pc := 130) dL_areSeats_130 ?_
      refine x_icmp_ne X (pc := 131) (tgt := 207) dL_areSeats_131 (by decide) (fun z => absurd rfl z) (fun _ => ?_)
      refine x_iload X (pc := 134) 3 dL_areSeats_134 rfl ?_
      refine x_sipush X (pc := 136) (v := (-1015)) dL_areSeats_136 (by decide) ?_
      refine x_icmp_eq X (pc := 139) (tgt := 172) dL_areSeats_139 (by decide) (fun z => absurd z (nI_ne_15 (by omega))) (fun _ => ?_)
      refine x_iload X (pc := 142) 2 dL_areSeats_142 rfl ?_
      refine x_if_ne X (pc := 144) (tgt := 207) dL_areSeats_144 (by decide) (fun z => absurd (by decide) z) (fun _ => ?_)
      refine x_aload_n X (pc := 147) 10 dL_areSeats_147 rfl rfl ?_
      refine x_iload X (pc := 148) 3 dL_areSeats_148 rfl ?_
      refine x_iconst X (pc := 150) (v := 5) dL_areSeats_150 (by decide) ?_
      refine x_callV X ⟨Nat.zero_le _, Nat.zero_le _⟩ (pc := 151) (rest := []) kv_X10_musicianOf (q_mu hX1 hI (m := m0) (by omega) (v := orN (S.1 12 m0)) rfl) zk_17_0 (zc_17_0 E _) rfl rfl gw_404 ⟨⟨rfl, rfl⟩, Nat.le_of_ble_eq_true rfl, Nat.le_of_ble_eq_true rfl⟩ rfl rfl (Nat.le_of_ble_eq_true rfl) dL_areSeats_151 (x_pi ?_)
      refine x_iload X (pc := 154) 4 dL_areSeats_154 rfl ?_
      refine x_icmp_ne X (pc := 156) (tgt := 207) dL_areSeats_156 (by decide) (fun z => absurd (by rw [e12]; exact orN_nI (by omega)) z) (fun _ => ?_)
      refine x_aload_n X (pc := 159) 10 dL_areSeats_159 rfl rfl ?_
      refine x_iload X (pc := 160) 4 dL_areSeats_160 rfl ?_
      refine x_iload X (pc := 162) 3 dL_areSeats_162 rfl ?_
      refine x_callV X ⟨Nat.zero_le _, Nat.zero_le _⟩ (pc := 164) (rest := []) kv_X10_fit (q_fit hX1 hI (c := c) (m := m0) (by omega) (by omega)) zk_17_0 (zc_17_0 E _) rfl rfl gw_681 ⟨⟨rfl, rfl⟩, Nat.le_of_ble_eq_true rfl, Nat.le_of_ble_eq_true rfl⟩ rfl rfl (Nat.le_of_ble_eq_true rfl) dL_areSeats_164 (x_pi ?_)
      refine x_bipush X (pc := 167) (v := 6) dL_areSeats_167 (by decide) ?_
      refine x_icmp_lt X (pc := 169) (tgt := 207) dL_areSeats_169 (by decide) (fun z => absurd z (i32_nlt.mpr (of_decide_eq_true (hf c m0 (by omega) hm0 e6)))) (fun _ => ?_)
      refine x_aload_n X (pc := 172) 10 dL_areSeats_172 rfl rfl ?_
      refine x_aload_n X (pc := 173) 10 dL_areSeats_173 rfl rfl ?_
      refine x_iload X (pc := 174) 4 dL_areSeats_174 rfl ?_
      refine x_iconst X (pc := 176) (v := 4) dL_areSeats_176 (by decide) ?_
      refine x_callV X ⟨Nat.zero_le _, Nat.zero_le _⟩ (pc := 177) (rest := [.ref (za E 17 0)]) kv_X10_chairOf (q_ch hX1 hI (c := c) (by omega) (v := S.1 4 c) rfl) zk_17_0 (zc_17_0 E _) rfl rfl gw_385 ⟨⟨rfl, rfl⟩, Nat.le_of_ble_eq_true rfl, Nat.le_of_ble_eq_true rfl⟩ rfl rfl (Nat.le_of_ble_eq_true rfl) dL_areSeats_177 (x_pi ?_)
      refine x_callV X ⟨Nat.zero_le _, Nat.zero_le _⟩ (pc := 180) (rest := []) kv_X10_hall (q_hall hX1 hI (t := (S.1 4 c)) (rng_inB (lo := 0) (hi := 2) (hI.ch c (by omega)).2.2.2.2.1 (by omega))) zk_17_0 (zc_17_0 E _) rfl rfl gw_685 ⟨⟨rfl, rfl⟩, Nat.le_of_ble_eq_true rfl, Nat.le_of_ble_eq_true rfl⟩ rfl rfl (Nat.le_of_ble_eq_true rfl) dL_areSeats_180 (x_pi ?_)
      refine x_iload X (pc := 183) 4 dL_areSeats_183 rfl ?_
      refine x_ishr X (pc := 185) dL_areSeats_185 ?_
      refine x_iconst X (pc := 186) (v := 1) dL_areSeats_186 (by decide) ?_
      refine x_iand X (pc := 187) dL_areSeats_187 ?_
      refine x_iconst X (pc := 188) (v := 1) dL_areSeats_188 (by decide) ?_
      refine x_icmp_ne X (pc := 189) (tgt := 207) dL_areSeats_189 (by decide) (fun z => absurd (hall_in hI (by omega)) z) (fun _ => ?_)
      refine x_aload_n X (pc := 192) 10 dL_areSeats_192 rfl rfl ?_
      refine x_iload X (pc := 193) 4 dL_areSeats_193 rfl ?_
      refine x_callV X ⟨Nat.zero_le _, Nat.zero_le _⟩ (pc := 195) (rest := []) kv_X10_tell (q_tell hX1 hI (nI c)) zk_17_0 (zc_17_0 E _) rfl rfl gw_689 ⟨⟨rfl, rfl⟩, Nat.le_of_ble_eq_true rfl, Nat.le_of_ble_eq_true rfl⟩ rfl rfl (Nat.le_of_ble_eq_true rfl) dL_areSeats_195 (x_ri (fun v2 M2 h2 => ?_))
      have hX2 : XS M2 (sL S _) := xl_step (S := sL S l) hX1 h2.2.1 h2.2.2
      refine x_bipush X (pc := 198) (v := 7) dL_areSeats_198 (by decide) ?_
      refine x_icmp_lt X (pc := 200) (tgt := 207) dL_areSeats_200 (by decide) (fun z => absurd z (by rw [h2.1]; exact tell7 hI (by omega))) (fun _ => ?_)
      refine x_iconst X (pc := 203) (v := 1) dL_areSeats_203 (by decide) ?_
      refine x_goto X (pc := 204) (tgt := 208) dL_areSeats_204 (by decide) ?_
      refine x_istore X (pc := 208) (lv1 := [(7, .int 1), (5, .int (fitSum S.1 (c + 1))), (4, .int (nI (cntB (fell S.1) (c + 1)))), (10, .int 0), (9, .int (nI m0)), (8, .int (nI c)), (6, .int 0), (3, .int 0), (2, .int (nI nm)), (1, .int (nI nc)), (0, .ref (za E 17 0))]) dL_areSeats_208 (by decide) rfl ?_
      refine x_iconst X (pc := 210) (v := 0) dL_areSeats_210 (by decide) ?_
      refine x_istore X (pc := 211) (lv1 := [(11, .int 0), (7, .int 1), (5, .int (fitSum S.1 (c + 1))), (4, .int (nI (cntB (fell S.1) (c + 1)))), (10, .int 0), (9, .int (nI m0)), (8, .int (nI c)), (6, .int 0), (3, .int 0), (2, .int (nI nm)), (1, .int (nI nc)), (0, .ref (za E 17 0))]) dL_areSeats_211 (by decide) rfl ?_
      refine x_sub (lv' := [(11, .int 0), (7, .int 1), (8, .int (nI c)), (6, .int 0), (5, .int (fitSum S.1 (c + 1))), (4, .int (nI (cntB (fell S.1) (c + 1)))), (3, .int 0), (2, .int (nI nm)), (1, .int (nI nc)), (0, .ref (za E 17 0))]) [0, 1, 6, 7, 2, 3, 8, 9, 10, 11] rfl ?_
      refine x_eq (lv' := [(11, .int (nI 0)), (7, .int 1), (8, .int (nI c)), (6, .int 0), (5, .int (fitSum S.1 (c + 1))), (4, .int (nI (cntB (fell S.1) (c + 1)))), (3, .int 0), (2, .int (nI nm)), (1, .int (nI nc)), (0, .ref (za E 17 0))]) rfl rfl ?_
      refine x_loop nm 213 (σ := Unit) (fun _ _ => True) (fun k _ => (M2, [(11, .int (nI k)), (7, .int 1), (8, .int (nI c)), (6, .int 0), (5, .int (fitSum S.1 (c + 1))), (4, .int (nI (cntB (fell S.1) (c + 1)))), (3, .int 0), (2, .int (nI nm)), (1, .int (nI nc)), (0, .ref (za E 17 0))])) ?_ 0 () (Nat.zero_le _) trivial
      intro k _ hk213 _ ih213
      show ZX gg E 0 0 [] M2 [(11, .int (nI k)), (7, .int 1), (8, .int (nI c)), (6, .int 0), (5, .int (fitSum S.1 (c + 1))), (4, .int (nI (cntB (fell S.1) (c + 1)))), (3, .int 0), (2, .int (nI nm)), (1, .int (nI nc)), (0, .ref (za E 17 0))] 213 []
      refine x_iload X (pc := 213) 1 dL_areSeats_213 rfl ?_
      refine x_if_eq X (pc := 215) (tgt := 296) dL_areSeats_215 (by decide) (fun z => absurd z (by decide)) (fun _ => ?_)
      refine x_iload X (pc := 218) 0 dL_areSeats_218 rfl ?_
      refine x_iload_n X (pc := 220) 7 dL_areSeats_220 rfl rfl ?_
      refine x_nicmp_ge X (pc := 221) (a := k) (b := nm) (tgt := 296) dL_areSeats_221 (by decide) (by omega) (by omega) (fun c221 => ?_) (fun c221 => ?_)
      · obtain rfl : nm = k := by omega
        refine x_iinc X (pc := 296) (v := (nI (c + 1))) (lv1 := [(8, .int (nI (c + 1))), (11, .int (nI nm)), (7, .int 1), (6, .int 0), (5, .int (fitSum S.1 (c + 1))), (4, .int (nI (cntB (fell S.1) (c + 1)))), (3, .int 0), (2, .int (nI nm)), (1, .int (nI nc)), (0, .ref (za E 17 0))]) 2 dL_areSeats_296 rfl (nI_1 _) (by decide) rfl ?_
        refine x_goto X (pc := 299) (tgt := 29) dL_areSeats_299 (by decide) ?_
        refine x_sub (lv' := [(8, .int (nI (c + 1))), (7, .int 1), (6, .int 0), (5, .int (fitSum S.1 (c + 1))), (4, .int (nI (cntB (fell S.1) (c + 1)))), (3, .int 0), (2, .int (nI nm)), (1, .int (nI nc)), (0, .ref (za E 17 0))]) [0, 2, 3, 4, 5, 6, 7, 8, 9] rfl ?_
        exact ih29 M2 (by omega) ⟨_, hX2⟩
      · refine x_bipush X (pc := 224) (v := 9) dL_areSeats_224 (by decide) ?_
        refine x_aload_n X (pc := 226) 9 dL_areSeats_226 rfl rfl ?_
        refine x_iload X (pc := 227) 2 dL_areSeats_227 rfl ?_
        refine x_iconst X (pc := 229) (v := 1) dL_areSeats_229 (by decide) ?_
        refine x_callV X ⟨Nat.zero_le _, Nat.zero_le _⟩ (pc := 230) (rest := [.int 9]) kv_X10_chairOf (q_ch hX2 hI (c := c) (by omega) (v := S.1 1 c) rfl) zk_17_0 (zc_17_0 E _) rfl rfl gw_385 ⟨⟨rfl, rfl⟩, Nat.le_of_ble_eq_true rfl, Nat.le_of_ble_eq_true rfl⟩ rfl rfl (Nat.le_of_ble_eq_true rfl) dL_areSeats_230 (x_pi ?_)
        refine x_aload_n X (pc := 233) 9 dL_areSeats_233 rfl rfl ?_
        refine x_iload X (pc := 234) 0 dL_areSeats_234 rfl ?_
        refine x_iconst X (pc := 236) (v := 1) dL_areSeats_236 (by decide) ?_
        refine x_callV X ⟨Nat.zero_le _, Nat.zero_le _⟩ (pc := 237) (rest := [.int (S.1 1 c), .int 9]) kv_X10_musicianOf (q_mu hX2 hI (m := k) (by omega) (v := S.1 8 k) rfl) zk_17_0 (zc_17_0 E _) rfl rfl gw_404 ⟨⟨rfl, rfl⟩, Nat.le_of_ble_eq_true rfl, Nat.le_of_ble_eq_true rfl⟩ rfl rfl (Nat.le_of_ble_eq_true rfl) dL_areSeats_237 (x_pi ?_)
        refine x_isub X (pc := 240) dL_areSeats_240 ?_
        refine x_abs X ⟨Nat.zero_le _, Nat.zero_le _⟩ (pc := 241) gw_680 gw_274 gw_70 gw_275 (by decide) (Nat.le_of_ble_eq_true rfl) dL_areSeats_241 ?_
        refine x_isub X (pc := 244) dL_areSeats_244 ?_
        refine x_aload_n X (pc := 245) 9 dL_areSeats_245 rfl rfl ?_
        refine x_iload X (pc := 246) 2 dL_areSeats_246 rfl ?_
        refine x_iconst X (pc := 248) (v := 0) dL_areSeats_248 (by decide) ?_
        refine x_callV X ⟨Nat.zero_le _, Nat.zero_le _⟩ (pc := 249) (rest := [.int (9 - (if 0 ≤ ((S.1 1 c) - (S.1 8 k)) then ((S.1 1 c) - (S.1 8 k)) else 0 - ((S.1 1 c) - (S.1 8 k))))]) kv_X10_chairOf (q_ch hX2 hI (c := c) (by omega) (v := S.1 0 c) rfl) zk_17_0 (zc_17_0 E _) rfl rfl gw_385 ⟨⟨rfl, rfl⟩, Nat.le_of_ble_eq_true rfl, Nat.le_of_ble_eq_true rfl⟩ rfl rfl (Nat.le_of_ble_eq_true rfl) dL_areSeats_249 (x_pi ?_)
        refine x_aload_n X (pc := 252) 9 dL_areSeats_252 rfl rfl ?_
        refine x_iload X (pc := 253) 0 dL_areSeats_253 rfl ?_
        refine x_iconst X (pc := 255) (v := 0) dL_areSeats_255 (by decide) ?_
        refine x_callV X ⟨Nat.zero_le _, Nat.zero_le _⟩ (pc := 256) (rest := [.int (S.1 0 c), .int (9 - (if 0 ≤ ((S.1 1 c) - (S.1 8 k)) then ((S.1 1 c) - (S.1 8 k)) else 0 - ((S.1 1 c) - (S.1 8 k))))]) kv_X10_musicianOf (q_mu hX2 hI (m := k) (by omega) (v := S.1 7 k) rfl) zk_17_0 (zc_17_0 E _) rfl rfl gw_404 ⟨⟨rfl, rfl⟩, Nat.le_of_ble_eq_true rfl, Nat.le_of_ble_eq_true rfl⟩ rfl rfl (Nat.le_of_ble_eq_true rfl) dL_areSeats_256 (x_pi ?_)
        refine x_icmp_ne X (pc := 259) (tgt := 266) dL_areSeats_259 (by decide) (fun c259 => ?_) (fun c259 => ?_)
        · refine x_iconst X (pc := 266) (v := 0) dL_areSeats_266 (by decide) ?_
          refine x_iadd X (pc := 267) dL_areSeats_267 ?_
          refine x_istore X (pc := 268) (lv1 := [(12, .int ((9 - (if 0 ≤ ((S.1 1 c) - (S.1 8 k)) then ((S.1 1 c) - (S.1 8 k)) else 0 - ((S.1 1 c) - (S.1 8 k)))) + 0)), (11, .int (nI k)), (7, .int 1), (8, .int (nI c)), (6, .int 0), (5, .int (fitSum S.1 (c + 1))), (4, .int (nI (cntB (fell S.1) (c + 1)))), (3, .int 0), (2, .int (nI nm)), (1, .int (nI nc)), (0, .ref (za E 17 0))]) dL_areSeats_268 (by decide) rfl ?_
          refine x_aload_n X (pc := 270) 10 dL_areSeats_270 rfl rfl ?_
          refine x_iload X (pc := 271) 3 dL_areSeats_271 rfl ?_
          refine x_iload X (pc := 273) 1 dL_areSeats_273 rfl ?_
          refine x_callV X ⟨Nat.zero_le _, Nat.zero_le _⟩ (pc := 275) (rest := []) kv_X10_fit (q_fit hX2 hI (c := c) (m := k) (by omega) (by omega)) zk_17_0 (zc_17_0 E _) rfl rfl gw_681 ⟨⟨rfl, rfl⟩, Nat.le_of_ble_eq_true rfl, Nat.le_of_ble_eq_true rfl⟩ rfl rfl (Nat.le_of_ble_eq_true rfl) dL_areSeats_275 (x_pi ?_)
          refine x_iload X (pc := 278) 0 dL_areSeats_278 rfl ?_
          refine x_icmp_ne X (pc := 280) (tgt := 287) dL_areSeats_280 (by decide) (fun z => absurd (fit_b c259) z) (fun _ => ?_)
          refine x_iconst X (pc := 283) (v := 1) dL_areSeats_283 (by decide) ?_
          refine x_goto X (pc := 284) (tgt := 288) dL_areSeats_284 (by decide) ?_
          refine x_istore X (pc := 288) (lv1 := [(7, .int 1), (12, .int ((9 - (if 0 ≤ ((S.1 1 c) - (S.1 8 k)) then ((S.1 1 c) - (S.1 8 k)) else 0 - ((S.1 1 c) - (S.1 8 k)))) + 0)), (11, .int (nI k)), (8, .int (nI c)), (6, .int 0), (5, .int (fitSum S.1 (c + 1))), (4, .int (nI (cntB (fell S.1) (c + 1)))), (3, .int 0), (2, .int (nI nm)), (1, .int (nI nc)), (0, .ref (za E 17 0))]) dL_areSeats_288 (by decide) rfl ?_
          refine x_iinc X (pc := 290) (v := (nI (k + 1))) (lv1 := [(11, .int (nI (k + 1))), (7, .int 1), (12, .int ((9 - (if 0 ≤ ((S.1 1 c) - (S.1 8 k)) then ((S.1 1 c) - (S.1 8 k)) else 0 - ((S.1 1 c) - (S.1 8 k)))) + 0)), (8, .int (nI c)), (6, .int 0), (5, .int (fitSum S.1 (c + 1))), (4, .int (nI (cntB (fell S.1) (c + 1)))), (3, .int 0), (2, .int (nI nm)), (1, .int (nI nc)), (0, .ref (za E 17 0))]) 2 dL_areSeats_290 rfl (nI_1 _) (by decide) rfl ?_
          refine x_goto X (pc := 293) (tgt := 213) dL_areSeats_293 (by decide) ?_
          refine x_sub (lv' := [(11, .int (nI (k + 1))), (7, .int 1), (8, .int (nI c)), (6, .int 0), (5, .int (fitSum S.1 (c + 1))), (4, .int (nI (cntB (fell S.1) (c + 1)))), (3, .int 0), (2, .int (nI nm)), (1, .int (nI nc)), (0, .ref (za E 17 0))]) [0, 1, 3, 4, 5, 6, 7, 8, 9, 10] rfl ?_
          exact ih213 () (by omega) trivial
        · refine x_iconst X (pc := 262) (v := 4) dL_areSeats_262 (by decide) ?_
          refine x_goto X (pc := 263) (tgt := 267) dL_areSeats_263 (by decide) ?_
          refine x_iadd X (pc := 267) dL_areSeats_267 ?_
          refine x_istore X (pc := 268) (lv1 := [(12, .int ((9 - (if 0 ≤ ((S.1 1 c) - (S.1 8 k)) then ((S.1 1 c) - (S.1 8 k)) else 0 - ((S.1 1 c) - (S.1 8 k)))) + 4)), (11, .int (nI k)), (7, .int 1), (8, .int (nI c)), (6, .int 0), (5, .int (fitSum S.1 (c + 1))), (4, .int (nI (cntB (fell S.1) (c + 1)))), (3, .int 0), (2, .int (nI nm)), (1, .int (nI nc)), (0, .ref (za E 17 0))]) dL_areSeats_268 (by decide) rfl ?_
          refine x_aload_n X (pc := 270) 10 dL_areSeats_270 rfl rfl ?_
          refine x_iload X (pc := 271) 3 dL_areSeats_271 rfl ?_
          refine x_iload X (pc := 273) 1 dL_areSeats_273 rfl ?_
          refine x_callV X ⟨Nat.zero_le _, Nat.zero_le _⟩ (pc := 275) (rest := []) kv_X10_fit (q_fit hX2 hI (c := c) (m := k) (by omega) (by omega)) zk_17_0 (zc_17_0 E _) rfl rfl gw_681 ⟨⟨rfl, rfl⟩, Nat.le_of_ble_eq_true rfl, Nat.le_of_ble_eq_true rfl⟩ rfl rfl (Nat.le_of_ble_eq_true rfl) dL_areSeats_275 (x_pi ?_)
          refine x_iload X (pc := 278) 0 dL_areSeats_278 rfl ?_
          refine x_icmp_ne X (pc := 280) (tgt := 287) dL_areSeats_280 (by decide) (fun z => absurd (fit_a c259) z) (fun _ => ?_)
          refine x_iconst X (pc := 283) (v := 1) dL_areSeats_283 (by decide) ?_
          refine x_goto X (pc := 284) (tgt := 288) dL_areSeats_284 (by decide) ?_
          refine x_istore X (pc := 288) (lv1 := [(7, .int 1), (12, .int ((9 - (if 0 ≤ ((S.1 1 c) - (S.1 8 k)) then ((S.1 1 c) - (S.1 8 k)) else 0 - ((S.1 1 c) - (S.1 8 k)))) + 4)), (11, .int (nI k)), (8, .int (nI c)), (6, .int 0), (5, .int (fitSum S.1 (c + 1))), (4, .int (nI (cntB (fell S.1) (c + 1)))), (3, .int 0), (2, .int (nI nm)), (1, .int (nI nc)), (0, .ref (za E 17 0))]) dL_areSeats_288 (by decide) rfl ?_
          refine x_iinc X (pc := 290) (v := (nI (k + 1))) (lv1 := [(11, .int (nI (k + 1))), (7, .int 1), (12, .int ((9 - (if 0 ≤ ((S.1 1 c) - (S.1 8 k)) then ((S.1 1 c) - (S.1 8 k)) else 0 - ((S.1 1 c) - (S.1 8 k)))) + 4)), (8, .int (nI c)), (6, .int 0), (5, .int (fitSum S.1 (c + 1))), (4, .int (nI (cntB (fell S.1) (c + 1)))), (3, .int 0), (2, .int (nI nm)), (1, .int (nI nc)), (0, .ref (za E 17 0))]) 2 dL_areSeats_290 rfl (nI_1 _) (by decide) rfl ?_
          refine x_goto X (pc := 293) (tgt := 213) dL_areSeats_293 (by decide) ?_
          refine x_sub (lv' := [(11, .int (nI (k + 1))), (7, .int 1), (8, .int (nI c)), (6, .int 0), (5, .int (fitSum S.1 (c + 1))), (4, .int (nI (cntB (fell S.1) (c + 1)))), (3, .int 0), (2, .int (nI nm)), (1, .int (nI nc)), (0, .ref (za E 17 0))]) [0, 1, 3, 4, 5, 6, 7, 8, 9, 10] rfl ?_
          exact ih213 () (by omega) trivial
