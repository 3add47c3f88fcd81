def FW (M M1 : Mem) : Prop := ∀ b, b ≠ 11 → b ≠ 12 → M1 b = M b
theorem FW.rf {M : Mem} : FW M M := fun _ _ _ => rfl
theorem FW.tr {M M1 M2 : Mem} (h : FW M M1) (h2 : FW M1 M2) : FW M M2 := fun b h1 h3 => (h2 b h1 h3).trans (h b h1 h3)
theorem FW.sa {K : Nat} {M M1 : Mem} {a : LG} (h : SA K M a M1) (hK : K = 11 ∨ K = 12) : FW M M1 := fun b h1 h2 => h.2 b (by omega)
def aChairN (g : LG) (c : Nat) (q : Int32) : Int32 := if q = 0 then g 0 c else if q = 1 then g 1 c else if q = 2 then g 2 c else if q = 3 then g 3 c else if q = 4 then g 4 c else if q = 5 then comf g c else if q = 6 then g 5 c else if q = 7 then orN (g 6 c) else -1012
def aChairOf (g : LG) (x q : Int32) : Int32 := if inR x (cN g) = false then -1011 else aChairN g x.toNatClampNeg q
def aMusicianN (g : LG) (m : Nat) (q : Int32) : Int32 := if q = 0 then g 7 m else if q = 1 then g 8 m else if q = 2 then g 9 m else if q = 3 then g 10 m else if q = 4 then g 11 m else if q = 5 then orN (g 12 m) else if q = 6 then g 13 m else -1012
def aMusicianOf (g : LG) (x q : Int32) : Int32 := if inR x (mN g) = false then -1011 else aMusicianN g x.toNatClampNeg q
def aFit (g : LG) (x y : Int32) : Int32 := if (inR x (cN g) && inR y (mN g)) = false then -1011 else fit g x.toNatClampNeg y.toNatClampNeg
theorem aChairOf_in {g : LG} {nc nm n c : Nat} {q : Int32} (hI : Inv g nc nm n) (hc : c < nc) : aChairOf g (nI c) q = aChairN g c q := by
  have h1 := hI.c10
  unfold aChairOf
  rw [hI.cNe, inR_nI hc (by omega), nI_clamp (by omega), if_neg (by decide)]
theorem aMusicianOf_in {g : LG} {nc nm n c : Nat} {q : Int32} (hI : Inv g nc nm n) (hc : c < nm) : aMusicianOf g (nI c) q = aMusicianN g c q := by
  have h1 := hI.m10
  unfold aMusicianOf
  rw [hI.mNe, inR_nI hc (by omega), nI_clamp (by omega), if_neg (by decide)]
theorem aFit_in {g : LG} {nc nm n c m : Nat} (hI : Inv g nc nm n) (hc : c < nc) (hm : m < nm) : aFit g (nI c) (nI m) = fit g c m := by
  have h1 := hI.c10
  have h2 := hI.m10
  unfold aFit
  rw [hI.cNe, hI.mNe, inR_nI hc (by omega), inR_nI hm (by omega), nI_clamp (by omega), nI_clamp (by omega), if_neg (by decide)]
def areR (g : LG) (c m : Nat) : Bool := wants g c m && bears g m c && (decide (g 6 c = -1) || rhad g c m (who g c)) && (decide (g 12 m = -1) || rsat g c (g 12 m).toNatClampNeg)
def restN (g : LG) (nm : Nat) : Nat → Nat
  | 0 => 0
  | c + 1 => restN g nm c + cntB (areR g c) nm
def lastsN (g : LG) (w : Int32) : Nat → Int32
  | 0 => -1015
  | c + 1 => if 0 < wearOf g c w then (if lastsN g w c = -1015 then (g 3 c - 1) / wearOf g c w else if (g 3 c - 1) / wearOf g c w < lastsN g w c then (g 3 c - 1) / wearOf g c w else lastsN g w c) else lastsN g w c
def aLasts (g : LG) (w : Int32) : Int32 := if inB w 1 4 = false then -1012 else lastsN g w (cN g)
def hallN (g : LG) (t : Int32) : Nat → Int32
  | 0 => 0
  | c + 1 => if g 4 c = t then hallN g t c ||| (1 <<< (nI c &&& 31)) else hallN g t c
def aHall (g : LG) (t : Int32) : Int32 := if inB t 0 2 = false then -1012 else hallN g t (cN g)
def firstB (p : Nat → Bool) : Nat → Int32
  | 0 => -1011
  | n + 1 => if firstB p n = -1011 then (if p n then nI n else -1011) else firstB p n
theorem nI_ne_1011 {k : Nat} (hk : k < 2 ^ 31) : ¬ nI k = -1011 := by
  intro h
  have := nI_pos hk
  rw [h] at this
  exact this (by decide)
theorem firstB_no {p : Nat → Bool} {n : Nat} (h : ∀ c, c < n → p c = false) : firstB p n = -1011 := by
  induction n with
  | zero => rfl
  | succ n ih => unfold firstB; rw [ih (fun c hc => h c (by omega)), if_pos rfl, h n (by omega)]; rfl
theorem firstB_at {p : Nat → Bool} {n i : Nat} (h : ∀ c, c < i → p c = false) (hp : p i = true) (hi : i < n ∧ n < 2 ^ 31) : firstB p n = nI i := by
  induction n with
  | zero => omega
  | succ n ih =>
    unfold firstB
    by_cases e : i = n
    · subst e
      rw [firstB_no h, if_pos rfl, hp]; rfl
    · rw [ih ⟨by omega, by omega⟩, if_neg (nI_ne_1011 (by omega))]
noncomputable def aWould (g : LG) (x : Int32) : Int32 := if inR x (cN g) = false then -1011 else orN (matS g (cN g) (mN g) x.toNatClampNeg)
theorem aWould_in {g : LG} {nc nm n c : Nat} (hI : Inv g nc nm n) (hc : c < nc) : aWould g (nI c) = orN (matS g nc nm c) := by
  have h1 := hI.c10
  unfold aWould
  rw [hI.cNe, hI.mNe, inR_nI hc (by omega), nI_clamp (by omega), if_neg (by decide)]
theorem restN_le {g : LG} {nm n : Nat} : restN g nm n ≤ n * nm := by
  induction n with
  | zero => simp [restN]
  | succ n ih =>
    have := cntB_le (areR g n) nm
    unfold restN
    rw [Nat.succ_mul]
    omega
def rm_X10_chairOf : Room := { frames := 2, cells := 0, slots := 0, locals := 42 }
theorem kv_X10_chairOf : KV yX10_chairOf RX10 cX10_chairOf 4 (some .int) 2 := ⟨⟨gw_386, gw_387, gw_2, gw_388⟩, by decide +kernel⟩
set_option maxRecDepth 100000 in
set_option maxHeartbeats 4000000 in
theorem c_X10_chairOf (E : ZE) (M : Mem) (g : LG) (hg : gX (M 9) = g) (nc nm n : Nat) (hI : Inv g nc nm n) (x q : Int32) : Mt E yX10_chairOf cX10_chairOf 4 (some .int) rm_X10_chairOf [.ref (za E 17 0), .int x, .int q] M (PI (aChairOf g x q) M) := by
  have hnc := hI.nc; have hnm := hI.nm; have hn := hI.c10; have hn2 := hI.m10
  refine z_met (own := RX10) (lv := [(0, .ref (za E 17 0)), (1, .int x), (2, .int q)]) (by decide) rfl (Nat.le_of_ble_eq_true rfl) rfl (fun gg X Y => ?_)
  refine z_aload_n X (pc := 0) 0 dX10_chairOf_0 rfl rfl ?_
  refine z_get X (pc := 1) 0 zk_17_0 (zc_17_0 E _) rfl inlX10 (by decide) gw_13 rfl rfl dX10_chairOf_1 ?_
  refine z_get X (pc := 4) 0 zk_9_0 (zc_9_0 E _) rfl inlX9 (by decide) gw_185 rfl rfl dX10_chairOf_4 ?_
  refine z_astore_n X (pc := 7) (lv1 := [(3, .ref (za E 9 1)), (0, .ref (za E 17 0)), (1, .int x), (2, .int q)]) dX10_chairOf_7 rfl (by decide) rfl ?_
  refine z_aload_n X (pc := 8) 0 dX10_chairOf_8 rfl rfl ?_
  refine z_iload_n X (pc := 9) 2 dX10_chairOf_9 rfl rfl ?_
  refine z_callV X (pc := 10) (rest := []) kv_X2_has (c_X2_has E M g (And.left (S9.rf hg)) nc hnc (by omega) x) zk_9_1 (zc_9_1 E _) rfl rfl gw_396 (by decide) rfl rfl (Nat.le_of_ble_eq_true rfl) dX10_chairOf_10 (zk_i ?_)
  refine z_bif_ne X (pc := 13) (tgt := 20) dX10_chairOf_13 (by decide) (fun c13 => ?_) (fun c13 => ?_)
  · obtain ⟨c, hc, rfl⟩ := inR_of c13 (by omega)
    refine z_iload_n X (pc := 20) 3 dX10_chairOf_20 rfl rfl ?_
    by_cases hs : (q).toInt < 0 ∨ (7 : Int) < (q).toInt
    · have e0 : ¬ q = 0 := by intro h; rw [h] at hs; revert hs; decide
      have e1 : ¬ q = 1 := by intro h; rw [h] at hs; revert hs; decide
      have e2 : ¬ q = 2 := by intro h; rw [h] at hs; revert hs; decide
      have e3 : ¬ q = 3 := by intro h; rw [h] at hs; revert hs; decide
      have e4 : ¬ q = 4 := by intro h; rw [h] at hs; revert hs; decide
      have e5 : ¬ q = 5 := by intro h; rw [h] at hs; revert hs; decide
      have e6 : ¬ q = 6 := by intro h; rw [h] at hs; revert hs; decide
      have e7 : ¬ q = 7 := by intro h; rw [h] at hs; revert hs; decide
      refine z_tableOut X (pc := 21) (tgt := 140) dX10_chairOf_21 hs (by decide) ?_
      refine z_sipush X (pc := 140) (v := (-1012)) dX10_chairOf_140 (by decide) ?_
      exact z_pret X Y dX10_chairOf_143 (by rw [aChairOf_in hI hc]; simp [aChairN, hI.cNe, hI.mNe, e0, e1, e2, e3, e4, e5, e6, e7]) rfl
    · obtain ⟨j, hj, hx⟩ := sw_in (x := q) 0 7 (by decide) (by simpa using hs)
      rcases (show j = 0 ∨ j = 1 ∨ j = 2 ∨ j = 3 ∨ j = 4 ∨ j = 5 ∨ j = 6 ∨ j = 7 by omega) with rfl | rfl | rfl | rfl | rfl | rfl | rfl | rfl
      · replace hx : q = 0 := hx
        refine z_top hx ?_
        refine z_tableIn X (pc := 21) (off := 47) (tgt := 68) dX10_chairOf_21 (by decide) (by decide) (by rfl) (by decide) ?_
        refine z_aload_n X (pc := 68) 0 dX10_chairOf_68 rfl rfl ?_
        refine z_get X (pc := 69) 1 zk_9_1 (zc_9_1 E _) rfl inlX2 (by decide) gw_389 rfl rfl dX10_chairOf_69 ?_
        refine z_iload_n X (pc := 72) 2 dX10_chairOf_72 rfl rfl ?_
        refine z_callV X (pc := 73) (rest := []) kv_X7_at (c_X7_at E M 9 4 c (by decide) (by decide) (show c < 10 by omega)) zk_9_4 (zc_9_4 E _) rfl rfl gw_348 (by decide) rfl rfl (Nat.le_of_ble_eq_true rfl) dX10_chairOf_73 (zk_i ?_)
        refine z_top (y := (g 0 c)) (S9.row 0 (S9.rf hg) rfl (by decide) (show c < 10 by omega)) ?_
        exact z_pret X Y dX10_chairOf_76 (by rw [aChairOf_in hI hc]; simp [aChairN, hI.cNe, hI.mNe, hx]) rfl
      · replace hx : q = 1 := hx
        refine z_top hx ?_
        refine z_tableIn X (pc := 21) (off := 56) (tgt := 77) dX10_chairOf_21 (by decide) (by decide) (by rfl) (by decide) ?_
        refine z_aload_n X (pc := 77) 0 dX10_chairOf_77 rfl rfl ?_
        refine z_get X (pc := 78) 2 zk_9_1 (zc_9_1 E _) rfl inlX2 (by decide) gw_390 rfl rfl dX10_chairOf_78 ?_
        refine z_iload_n X (pc := 81) 2 dX10_chairOf_81 rfl rfl ?_
        refine z_callV X (pc := 82) (rest := []) kv_X7_at (c_X7_at E M 9 6 c (by decide) (by decide) (show c < 10 by omega)) zk_9_6 (zc_9_6 E _) rfl rfl gw_348 (by decide) rfl rfl (Nat.le_of_ble_eq_true rfl) dX10_chairOf_82 (zk_i ?_)
        refine z_top (y := (g 1 c)) (S9.row 1 (S9.rf hg) rfl (by decide) (show c < 10 by omega)) ?_
        exact z_pret X Y dX10_chairOf_85 (by rw [aChairOf_in hI hc]; simp [aChairN, hI.cNe, hI.mNe, hx]) rfl
      · replace hx : q = 2 := hx
        refine z_top hx ?_
        refine z_tableIn X (pc := 21) (off := 65) (tgt := 86) dX10_chairOf_21 (by decide) (by decide) (by rfl) (by decide) ?_
        refine z_aload_n X (pc := 86) 0 dX10_chairOf_86 rfl rfl ?_
        refine z_get X (pc := 87) 3 zk_9_1 (zc_9_1 E _) rfl inlX2 (by decide) gw_391 rfl rfl dX10_chairOf_87 ?_
        refine z_iload_n X (pc := 90) 2 dX10_chairOf_90 rfl rfl ?_
        refine z_callV X (pc := 91) (rest := []) kv_X7_at (c_X7_at E M 9 8 c (by decide) (by decide) (show c < 10 by omega)) zk_9_8 (zc_9_8 E _) rfl rfl gw_348 (by decide) rfl rfl (Nat.le_of_ble_eq_true rfl) dX10_chairOf_91 (zk_i ?_)
        refine z_top (y := (g 2 c)) (S9.row 2 (S9.rf hg) rfl (by decide) (show c < 10 by omega)) ?_
        exact z_pret X Y dX10_chairOf_94 (by rw [aChairOf_in hI hc]; simp [aChairN, hI.cNe, hI.mNe, hx]) rfl
      · replace hx : q = 3 := hx
        refine z_top hx ?_
        refine z_tableIn X (pc := 21) (off := 74) (tgt := 95) dX10_chairOf_21 (by decide) (by decide) (by rfl) (by decide) ?_
        refine z_aload_n X (pc := 95) 0 dX10_chairOf_95 rfl rfl ?_
        refine z_get X (pc := 96) 4 zk_9_1 (zc_9_1 E _) rfl inlX2 (by decide) gw_392 rfl rfl dX10_chairOf_96 ?_
        refine z_iload_n X (pc := 99) 2 dX10_chairOf_99 rfl rfl ?_
        refine z_callV X (pc := 100) (rest := []) kv_X7_at (c_X7_at E M 9 10 c (by decide) (by decide) (show c < 10 by omega)) zk_9_10 (zc_9_10 E _) rfl rfl gw_348 (by decide) rfl rfl (Nat.le_of_ble_eq_true rfl) dX10_chairOf_100 (zk_i ?_)
        refine z_top (y := (g 3 c)) (S9.row 3 (S9.rf hg) rfl (by decide) (show c < 10 by omega)) ?_
        exact z_pret X Y dX10_chairOf_103 (by rw [aChairOf_in hI hc]; simp [aChairN, hI.cNe, hI.mNe, hx]) rfl
      · replace hx : q = 4 := hx
        refine z_top hx ?_
        refine z_tableIn X (pc := 21) (off := 83) (tgt := 104) dX10_chairOf_21 (by decide) (by decide) (by rfl) (by decide) ?_
        refine z_aload_n X (pc := 104) 0 dX10_chairOf_104 rfl rfl ?_
        refine z_get X (pc := 105) 5 zk_9_1 (zc_9_1 E _) rfl inlX2 (by decide) gw_393 rfl rfl dX10_chairOf_105 ?_
        refine z_iload_n X (pc := 108) 2 dX10_chairOf_108 rfl rfl ?_
        refine z_callV X (pc := 109) (rest := []) kv_X7_at (c_X7_at E M 9 12 c (by decide) (by decide) (show c < 10 by omega)) zk_9_12 (zc_9_12 E _) rfl rfl gw_348 (by decide) rfl rfl (Nat.le_of_ble_eq_true rfl) dX10_chairOf_109 (zk_i ?_)
        refine z_top (y := (g 4 c)) (S9.row 4 (S9.rf hg) rfl (by decide) (show c < 10 by omega)) ?_
        exact z_pret X Y dX10_chairOf_112 (by rw [aChairOf_in hI hc]; simp [aChairN, hI.cNe, hI.mNe, hx]) rfl
      · replace hx : q = 5 := hx
        refine z_top hx ?_
        refine z_tableIn X (pc := 21) (off := 92) (tgt := 113) dX10_chairOf_21 (by decide) (by decide) (by rfl) (by decide) ?_
        refine z_aload_n X (pc := 113) 0 dX10_chairOf_113 rfl rfl ?_
        refine z_iload_n X (pc := 114) 2 dX10_chairOf_114 rfl rfl ?_
        refine z_callV X (pc := 115) (rest := []) kv_X2_comfort (c_X2_comfort E M g (And.left (S9.rf hg))  c (show c < 10 by omega)) zk_9_1 (zc_9_1 E _) rfl rfl gw_400 (by decide) rfl rfl (Nat.le_of_ble_eq_true rfl) dX10_chairOf_115 (zk_i ?_)
        exact z_pret X Y dX10_chairOf_118 (by rw [aChairOf_in hI hc]; simp [aChairN, hI.cNe, hI.mNe, hx]) rfl
      · replace hx : q = 6 := hx
        refine z_top hx ?_
        refine z_tableIn X (pc := 21) (off := 98) (tgt := 119) dX10_chairOf_21 (by decide) (by decide) (by rfl) (by decide) ?_
        refine z_aload_n X (pc := 119) 0 dX10_chairOf_119 rfl rfl ?_
        refine z_get X (pc := 120) 6 zk_9_1 (zc_9_1 E _) rfl inlX2 (by decide) gw_394 rfl rfl dX10_chairOf_120 ?_
        refine z_iload_n X (pc := 123) 2 dX10_chairOf_123 rfl rfl ?_
        refine z_callV X (pc := 124) (rest := []) kv_X7_at (c_X7_at E M 9 14 c (by decide) (by decide) (show c < 10 by omega)) zk_9_14 (zc_9_14 E _) rfl rfl gw_348 (by decide) rfl rfl (Nat.le_of_ble_eq_true rfl) dX10_chairOf_124 (zk_i ?_)
        refine z_top (y := (g 5 c)) (S9.row 5 (S9.rf hg) rfl (by decide) (show c < 10 by omega)) ?_
        exact z_pret X Y dX10_chairOf_127 (by rw [aChairOf_in hI hc]; simp [aChairN, hI.cNe, hI.mNe, hx]) rfl
      · replace hx : q = 7 := hx
        refine z_top hx ?_
        refine z_tableIn X (pc := 21) (off := 107) (tgt := 128) dX10_chairOf_21 (by decide) (by decide) (by rfl) (by decide) ?_
        refine z_aload_n X (pc := 128) 0 dX10_chairOf_128 rfl rfl ?_
        refine z_get X (pc := 129) 7 zk_9_1 (zc_9_1 E _) rfl inlX2 (by decide) gw_395 rfl rfl dX10_chairOf_129 ?_
        refine z_iload_n X (pc := 132) 2 dX10_chairOf_132 rfl rfl ?_
        refine z_callV X (pc := 133) (rest := []) kv_X7_at (c_X7_at E M 9 16 c (by decide) (by decide) (show c < 10 by omega)) zk_9_16 (zc_9_16 E _) rfl rfl gw_348 (by decide) rfl rfl (Nat.le_of_ble_eq_true rfl) dX10_chairOf_133 (zk_i ?_)
        refine z_top (y := (g 6 c)) (S9.row 6 (S9.rf hg) rfl (by decide) (show c < 10 by omega)) ?_
        refine z_callS X (pc := 136) (rest := []) ks_X10_orNothing (c_X10_orNothing E M (g 6 c)) gw_401 (by decide) rfl rfl (Nat.le_of_ble_eq_true rfl) dX10_chairOf_136 (zk_i ?_)
        exact z_pret X Y dX10_chairOf_139 (by rw [aChairOf_in hI hc]; simp [aChairN, hI.cNe, hI.mNe, hx]) rfl
  · refine z_sipush X (pc := 16) (v := (-1011)) dX10_chairOf_16 (by decide) ?_
    exact z_pret X Y dX10_chairOf_19 (by simp [aChairOf, hI.cNe, hI.mNe, c13]) rfl

def rm_X10_musicianOf : Room := { frames := 1, cells := 0, slots := 0, locals := 21 }
theorem kv_X10_musicianOf : KV yX10_musicianOf RX10 cX10_musicianOf 4 (some .int) 2 := ⟨⟨gw_405, gw_406, gw_2, gw_407⟩, by decide +kernel⟩
set_option maxRecDepth 100000 in
set_option maxHeartbeats 4000000 in
theorem c_X10_musicianOf (E : ZE) (M : Mem) (g : LG) (hg : gX (M 9) = g) (nc nm n : Nat) (hI : Inv g nc nm n) (x q : Int32) : Mt E yX10_musicianOf cX10_musicianOf 4 (some .int) rm_X10_musicianOf [.ref (za E 17 0), .int x, .int q] M (PI (aMusicianOf g x q) M) := by
  have hnc := hI.nc; have hnm := hI.nm; have hn := hI.c10; have hn2 := hI.m10
  refine z_met (own := RX10) (lv := [(0, .ref (za E 17 0)), (1, .int x), (2, .int q)]) (by decide) rfl (Nat.le_of_ble_eq_true rfl) rfl (fun gg X Y => ?_)
  refine z_aload_n X (pc := 0) 0 dX10_musicianOf_0 rfl rfl ?_
  refine z_get X (pc := 1) 0 zk_17_0 (zc_17_0 E _) rfl inlX10 (by decide) gw_13 rfl rfl dX10_musicianOf_1 ?_
  refine z_get X (pc := 4) 1 zk_9_0 (zc_9_0 E _) rfl inlX9 (by decide) gw_226 rfl rfl dX10_musicianOf_4 ?_
  refine z_astore_n X (pc := 7) (lv1 := [(3, .ref (za E 9 2)), (0, .ref (za E 17 0)), (1, .int x), (2, .int q)]) dX10_musicianOf_7 rfl (by decide) rfl ?_
  refine z_aload_n X (pc := 8) 0 dX10_musicianOf_8 rfl rfl ?_
  refine z_iload_n X (pc := 9) 2 dX10_musicianOf_9 rfl rfl ?_
  refine z_callV X (pc := 10) (rest := []) kv_X4_has (c_X4_has E M g (And.left (S9.rf hg)) nm hnm (by omega) x) zk_9_2 (zc_9_2 E _) rfl rfl gw_343 (by decide) rfl rfl (Nat.le_of_ble_eq_true rfl) dX10_musicianOf_10 (zk_i ?_)
  refine z_bif_ne X (pc := 13) (tgt := 20) dX10_musicianOf_13 (by decide) (fun c13 => ?_) (fun c13 => ?_)
  · obtain ⟨m, hm, rfl⟩ := inR_of c13 (by omega)
    refine z_iload_n X (pc := 20) 3 dX10_musicianOf_20 rfl rfl ?_
    by_cases hs : (q).toInt < 0 ∨ (6 : Int) < (q).toInt
    · have e0 : ¬ q = 0 := by intro h; rw [h] at hs; revert hs; decide
      have e1 : ¬ q = 1 := by intro h; rw [h] at hs; revert hs; decide
      have e2 : ¬ q = 2 := by intro h; rw [h] at hs; revert hs; decide
      have e3 : ¬ q = 3 := by intro h; rw [h] at hs; revert hs; decide
      have e4 : ¬ q = 4 := by intro h; rw [h] at hs; revert hs; decide
      have e5 : ¬ q = 5 := by intro h; rw [h] at hs; revert hs; decide
      have e6 : ¬ q = 6 := by intro h; rw [h] at hs; revert hs; decide
      refine z_tableOut X (pc := 21) (tgt := 130) dX10_musicianOf_21 hs (by decide) ?_
      refine z_sipush X (pc := 130) (v := (-1012)) dX10_musicianOf_130 (by decide) ?_
      exact z_pret X Y dX10_musicianOf_133 (by rw [aMusicianOf_in hI hm]; simp [aMusicianN, hI.cNe, hI.mNe, e0, e1, e2, e3, e4, e5, e6]) rfl
    · obtain ⟨j, hj, hx⟩ := sw_in (x := q) 0 6 (by decide) (by simpa using hs)
      rcases (show j = 0 ∨ j = 1 ∨ j = 2 ∨ j = 3 ∨ j = 4 ∨ j = 5 ∨ j = 6 by omega) with rfl | rfl | rfl | rfl | rfl | rfl | rfl
      · replace hx : q = 0 := hx
        refine z_top hx ?_
        refine z_tableIn X (pc := 21) (off := 43) (tgt := 64) dX10_musicianOf_21 (by decide) (by decide) (by rfl) (by decide) ?_
        refine z_aload_n X (pc := 64) 0 dX10_musicianOf_64 rfl rfl ?_
        refine z_get X (pc := 65) 1 zk_9_2 (zc_9_2 E _) rfl inlX4 (by decide) gw_408 rfl rfl dX10_musicianOf_65 ?_
        refine z_iload_n X (pc := 68) 2 dX10_musicianOf_68 rfl rfl ?_
        refine z_callV X (pc := 69) (rest := []) kv_X7_at (c_X7_at E M 9 18 m (by decide) (by decide) (show m < 10 by omega)) zk_9_18 (zc_9_18 E _) rfl rfl gw_348 (by decide) rfl rfl (Nat.le_of_ble_eq_true rfl) dX10_musicianOf_69 (zk_i ?_)
        refine z_top (y := (g 7 m)) (S9.row 7 (S9.rf hg) rfl (by decide) (show m < 10 by omega)) ?_
        exact z_pret X Y dX10_musicianOf_72 (by rw [aMusicianOf_in hI hm]; simp [aMusicianN, hI.cNe, hI.mNe, hx]) rfl
      · replace hx : q = 1 := hx
        refine z_top hx ?_
        refine z_tableIn X (pc := 21) (off := 52) (tgt := 73) dX10_musicianOf_21 (by decide) (by decide) (by rfl) (by decide) ?_
        refine z_aload_n X (pc := 73) 0 dX10_musicianOf_73 rfl rfl ?_
        refine z_get X (pc := 74) 2 zk_9_2 (zc_9_2 E _) rfl inlX4 (by decide) gw_409 rfl rfl dX10_musicianOf_74 ?_
        refine z_iload_n X (pc := 77) 2 dX10_musicianOf_77 rfl rfl ?_
        refine z_callV X (pc := 78) (rest := []) kv_X7_at (c_X7_at E M 9 20 m (by decide) (by decide) (show m < 10 by omega)) zk_9_20 (zc_9_20 E _) rfl rfl gw_348 (by decide) rfl rfl (Nat.le_of_ble_eq_true rfl) dX10_musicianOf_78 (zk_i ?_)
        refine z_top (y := (g 8 m)) (S9.row 8 (S9.rf hg) rfl (by decide) (show m < 10 by omega)) ?_
        exact z_pret X Y dX10_musicianOf_81 (by rw [aMusicianOf_in hI hm]; simp [aMusicianN, hI.cNe, hI.mNe, hx]) rfl
      · replace hx : q = 2 := hx
        refine z_top hx ?_
        refine z_tableIn X (pc := 21) (off := 61) (tgt := 82) dX10_musicianOf_21 (by decide) (by decide) (by rfl) (by decide) ?_
        refine z_aload_n X (pc := 82) 0 dX10_musicianOf_82 rfl rfl ?_
        refine z_get X (pc := 83) 3 zk_9_2 (zc_9_2 E _) rfl inlX4 (by decide) gw_410 rfl rfl dX10_musicianOf_83 ?_
        refine z_iload_n X (pc := 86) 2 dX10_musicianOf_86 rfl rfl ?_
        refine z_callV X (pc := 87) (rest := []) kv_X7_at (c_X7_at E M 9 22 m (by decide) (by decide) (show m < 10 by omega)) zk_9_22 (zc_9_22 E _) rfl rfl gw_348 (by decide) rfl rfl (Nat.le_of_ble_eq_true rfl) dX10_musicianOf_87 (zk_i ?_)
        refine z_top (y := (g 9 m)) (S9.row 9 (S9.rf hg) rfl (by decide) (show m < 10 by omega)) ?_
        exact z_pret X Y dX10_musicianOf_90 (by rw [aMusicianOf_in hI hm]; simp [aMusicianN, hI.cNe, hI.mNe, hx]) rfl
      · replace hx : q = 3 := hx
        refine z_top hx ?_
        refine z_tableIn X (pc := 21) (off := 70) (tgt := 91) dX10_musicianOf_21 (by decide) (by decide) (by rfl) (by decide) ?_
        refine z_aload_n X (pc := 91) 0 dX10_musicianOf_91 rfl rfl ?_
        refine z_get X (pc := 92) 4 zk_9_2 (zc_9_2 E _) rfl inlX4 (by decide) gw_341 rfl rfl dX10_musicianOf_92 ?_
        refine z_iload_n X (pc := 95) 2 dX10_musicianOf_95 rfl rfl ?_
        refine z_callV X (pc := 96) (rest := []) kv_X7_at (c_X7_at E M 9 24 m (by decide) (by decide) (show m < 10 by omega)) zk_9_24 (zc_9_24 E _) rfl rfl gw_348 (by decide) rfl rfl (Nat.le_of_ble_eq_true rfl) dX10_musicianOf_96 (zk_i ?_)
        refine z_top (y := (g 10 m)) (S9.row 10 (S9.rf hg) rfl (by decide) (show m < 10 by omega)) ?_
        exact z_pret X Y dX10_musicianOf_99 (by rw [aMusicianOf_in hI hm]; simp [aMusicianN, hI.cNe, hI.mNe, hx]) rfl
      · replace hx : q = 4 := hx
        refine z_top hx ?_
        refine z_tableIn X (pc := 21) (off := 79) (tgt := 100) dX10_musicianOf_21 (by decide) (by decide) (by rfl) (by decide) ?_
        refine z_aload_n X (pc := 100) 0 dX10_musicianOf_100 rfl rfl ?_
        refine z_get X (pc := 101) 5 zk_9_2 (zc_9_2 E _) rfl inlX4 (by decide) gw_342 rfl rfl dX10_musicianOf_101 ?_
        refine z_iload_n X (pc := 104) 2 dX10_musicianOf_104 rfl rfl ?_
        refine z_callV X (pc := 105) (rest := []) kv_X7_at (c_X7_at E M 9 26 m (by decide) (by decide) (show m < 10 by omega)) zk_9_26 (zc_9_26 E _) rfl rfl gw_348 (by decide) rfl rfl (Nat.le_of_ble_eq_true rfl) dX10_musicianOf_105 (zk_i ?_)
        refine z_top (y := (g 11 m)) (S9.row 11 (S9.rf hg) rfl (by decide) (show m < 10 by omega)) ?_
        exact z_pret X Y dX10_musicianOf_108 (by rw [aMusicianOf_in hI hm]; simp [aMusicianN, hI.cNe, hI.mNe, hx]) rfl
      · replace hx : q = 5 := hx
        refine z_top hx ?_
        refine z_tableIn X (pc := 21) (off := 88) (tgt := 109) dX10_musicianOf_21 (by decide) (by decide) (by rfl) (by decide) ?_
        refine z_aload_n X (pc := 109) 0 dX10_musicianOf_109 rfl rfl ?_
        refine z_get X (pc := 110) 6 zk_9_2 (zc_9_2 E _) rfl inlX4 (by decide) gw_411 rfl rfl dX10_musicianOf_110 ?_
        refine z_iload_n X (pc := 113) 2 dX10_musicianOf_113 rfl rfl ?_
        refine z_callV X (pc := 114) (rest := []) kv_X7_at (c_X7_at E M 9 28 m (by decide) (by decide) (show m < 10 by omega)) zk_9_28 (zc_9_28 E _) rfl rfl gw_348 (by decide) rfl rfl (Nat.le_of_ble_eq_true rfl) dX10_musicianOf_114 (zk_i ?_)
        refine z_top (y := (g 12 m)) (S9.row 12 (S9.rf hg) rfl (by decide) (show m < 10 by omega)) ?_
        refine z_callS X (pc := 117) (rest := []) ks_X10_orNothing (c_X10_orNothing E M (g 12 m)) gw_401 (by decide) rfl rfl (Nat.le_of_ble_eq_true rfl) dX10_musicianOf_117 (zk_i ?_)
        exact z_pret X Y dX10_musicianOf_120 (by rw [aMusicianOf_in hI hm]; simp [aMusicianN, hI.cNe, hI.mNe, hx]) rfl
      · replace hx : q = 6 := hx
        refine z_top hx ?_
        refine z_tableIn X (pc := 21) (off := 100) (tgt := 121) dX10_musicianOf_21 (by decide) (by decide) (by rfl) (by decide) ?_
        refine z_aload_n X (pc := 121) 0 dX10_musicianOf_121 rfl rfl ?_
        refine z_get X (pc := 122) 7 zk_9_2 (zc_9_2 E _) rfl inlX4 (by decide) gw_412 rfl rfl dX10_musicianOf_122 ?_
        refine z_iload_n X (pc := 125) 2 dX10_musicianOf_125 rfl rfl ?_
        refine z_callV X (pc := 126) (rest := []) kv_X7_at (c_X7_at E M 9 30 m (by decide) (by decide) (show m < 10 by omega)) zk_9_30 (zc_9_30 E _) rfl rfl gw_348 (by decide) rfl rfl (Nat.le_of_ble_eq_true rfl) dX10_musicianOf_126 (zk_i ?_)
        refine z_top (y := (g 13 m)) (S9.row 13 (S9.rf hg) rfl (by decide) (show m < 10 by omega)) ?_
        exact z_pret X Y dX10_musicianOf_129 (by rw [aMusicianOf_in hI hm]; simp [aMusicianN, hI.cNe, hI.mNe, hx]) rfl
  · refine z_sipush X (pc := 16) (v := (-1011)) dX10_musicianOf_16 (by decide) ?_
    exact z_pret X Y dX10_musicianOf_19 (by simp [aMusicianOf, hI.cNe, hI.mNe, c13]) rfl

def rm_X10_fit : Room := { frames := 2, cells := 0, slots := 0, locals := 45 }
theorem kv_X10_fit : KV yX10_fit RX10 cX10_fit 3 (some .int) 2 := ⟨⟨gw_682, gw_683, gw_2, gw_684⟩, by decide +kernel⟩
set_option maxRecDepth 100000 in
set_option maxHeartbeats 4000000 in
theorem c_X10_fit (E : ZE) (M : Mem) (g : LG) (hg : gX (M 9) = g) (nc nm n : Nat) (hI : Inv g nc nm n) (x y : Int32) : Mt E yX10_fit cX10_fit 3 (some .int) rm_X10_fit [.ref (za E 17 0), .int x, .int y] M (PI (aFit g x y) M) := by
  have hnc := hI.nc; have hnm := hI.nm; have hn := hI.c10; have hn2 := hI.m10
  refine z_met (own := RX10) (lv := [(0, .ref (za E 17 0)), (1, .int x), (2, .int y)]) (by decide) rfl (Nat.le_of_ble_eq_true rfl) rfl (fun gg X Y => ?_)
  refine z_aload_n X (pc := 0) 0 dX10_fit_0 rfl rfl ?_
  refine z_iload_n X (pc := 1) 1 dX10_fit_1 rfl rfl ?_
  refine z_iload_n X (pc := 2) 2 dX10_fit_2 rfl rfl ?_
  refine z_callV X (pc := 3) (rest := []) kv_X10_areThere (c_X10_areThere E M g (And.left (S9.rf hg)) nc nm n hI x y) zk_17_0 (zc_17_0 E _) rfl rfl gw_428 (by decide) rfl rfl (Nat.le_of_ble_eq_true rfl) dX10_fit_3 (zk_i ?_)
  refine z_bif_eq X (pc := 6) (tgt := 21) dX10_fit_6 (by decide) (fun c6 => ?_) (fun c6 => ?_)
  · refine z_sipush X (pc := 21) (v := (-1011)) dX10_fit_21 (by decide) ?_
    exact z_pret X Y dX10_fit_24 (by simp [aFit, hI.cNe, hI.mNe, c6]) rfl
  · simp only [Bool.and_eq_true] at c6
    obtain ⟨c, hc, rfl⟩ := inR_of c6.1 (by omega)
    obtain ⟨m, hm, rfl⟩ := inR_of c6.2 (by omega)
    refine z_aload_n X (pc := 9) 0 dX10_fit_9 rfl rfl ?_
    refine z_get X (pc := 10) 0 zk_17_0 (zc_17_0 E _) rfl inlX10 (by decide) gw_13 rfl rfl dX10_fit_10 ?_
    refine z_iload_n X (pc := 13) 1 dX10_fit_13 rfl rfl ?_
    refine z_iload_n X (pc := 14) 2 dX10_fit_14 rfl rfl ?_
    refine z_callV X (pc := 15) (rest := []) kv_X9_fitOf (c_X9_fitOf E M g (And.left (S9.rf hg))  c m (show c < 10 by omega) (show m < 10 by omega)) zk_9_0 (zc_9_0 E _) rfl rfl gw_452 (by decide) rfl rfl (Nat.le_of_ble_eq_true rfl) dX10_fit_15 (zk_i ?_)
    refine z_goto X (pc := 18) (tgt := 24) dX10_fit_18 (by decide) ?_
    exact z_pret X Y dX10_fit_24 (by rw [aFit_in hI hc hm]) rfl

def rm_X10_areRestless : Room := { frames := 3, cells := 0, slots := 0, locals := 69 }
theorem kv_X10_areRestless : KV yX10_areRestless RX10 cX10_areRestless 5 (some .boolean) 2 := ⟨⟨gw_770, gw_771, gw_2, gw_772⟩, by decide +kernel⟩
set_option maxRecDepth 100000 in
set_option maxHeartbeats 4000000 in
theorem c_X10_areRestless (E : ZE) (M : Mem) (g : LG) (hg : gX (M 9) = g) (nc nm n : Nat) (hI : Inv g nc nm n) (c m : Nat) (hc : c < nc) (hm : m < nm) : Mt E yX10_areRestless cX10_areRestless 5 (some .boolean) rm_X10_areRestless [.ref (za E 17 0), .int (nI c), .int (nI m)] M (PI (zb (areR g c m)) M) := by
  have hnc := hI.nc; have hnm := hI.nm; have hn := hI.c10; have hn2 := hI.m10
  refine z_met (own := RX10) (lv := [(0, .ref (za E 17 0)), (1, .int (nI c)), (2, .int (nI m))]) (by decide) rfl (Nat.le_of_ble_eq_true rfl) rfl (fun gg X Y => ?_)
  refine z_aload_n X (pc := 0) 0 dX10_areRestless_0 rfl rfl ?_
  refine z_get X (pc := 1) 0 zk_17_0 (zc_17_0 E _) rfl inlX10 (by decide) gw_13 rfl rfl dX10_areRestless_1 ?_
  refine z_iload_n X (pc := 4) 1 dX10_areRestless_4 rfl rfl ?_
  refine z_iload_n X (pc := 5) 2 dX10_areRestless_5 rfl rfl ?_
  refine z_callV X (pc := 6) (rest := []) kv_X9_wants (c_X9_wants E M g (And.left (S9.rf hg))  c m (show c < 10 by omega) (show m < 10 by omega)) zk_9_0 (zc_9_0 E _) rfl rfl gw_447 (by decide) rfl rfl (Nat.le_of_ble_eq_true rfl) dX10_areRestless_6 (zk_i ?_)
  refine z_bif_eq X (pc := 9) (tgt := 24) dX10_areRestless_9 (by decide) (fun c9 => ?_) (fun c9 => ?_)
  · refine z_iconst X (pc := 24) (v := 0) dX10_areRestless_24 (by decide) ?_
    exact z_bret X Y dX10_areRestless_25 (by simp [areR, who, zb, c9]) rfl
  · refine z_aload_n X (pc := 12) 0 dX10_areRestless_12 rfl rfl ?_
    refine z_get X (pc := 13) 0 zk_17_0 (zc_17_0 E _) rfl inlX10 (by decide) gw_13 rfl rfl dX10_areRestless_13 ?_
    refine z_iload_n X (pc := 16) 2 dX10_areRestless_16 rfl rfl ?_
    refine z_iload_n X (pc := 17) 1 dX10_areRestless_17 rfl rfl ?_
    refine z_callV X (pc := 18) (rest := []) kv_X9_bears (c_X9_bears E M g (And.left (S9.rf hg))  m c (show m < 10 by omega) (show c < 10 by omega)) zk_9_0 (zc_9_0 E _) rfl rfl gw_453 (by decide) rfl rfl (Nat.le_of_ble_eq_true rfl) dX10_areRestless_18 (zk_i ?_)
    refine z_bif_ne X (pc := 21) (tgt := 26) dX10_areRestless_21 (by decide) (fun c21 => ?_) (fun c21 => ?_)
    · refine z_aload_n X (pc := 26) 0 dX10_areRestless_26 rfl rfl ?_
      refine z_get X (pc := 27) 0 zk_17_0 (zc_17_0 E _) rfl inlX10 (by decide) gw_13 rfl rfl dX10_areRestless_27 ?_
      refine z_get X (pc := 30) 0 zk_9_0 (zc_9_0 E _) rfl inlX9 (by decide) gw_185 rfl rfl dX10_areRestless_30 ?_
      refine z_get X (pc := 33) 7 zk_9_1 (zc_9_1 E _) rfl inlX2 (by decide) gw_395 rfl rfl dX10_areRestless_33 ?_
      refine z_iload_n X (pc := 36) 1 dX10_areRestless_36 rfl rfl ?_
      refine z_callV X (pc := 37) (rest := []) kv_X7_at (c_X7_at E M 9 16 c (by decide) (by decide) (show c < 10 by omega)) zk_9_16 (zc_9_16 E _) rfl rfl gw_348 (by decide) rfl rfl (Nat.le_of_ble_eq_true rfl) dX10_areRestless_37 (zk_i ?_)
      refine z_top (y := (g 6 c)) (S9.row 6 (S9.rf hg) rfl (by decide) (show c < 10 by omega)) ?_
      refine z_istore_n X (pc := 40) (lv1 := [(3, .int (g 6 c)), (0, .ref (za E 17 0)), (1, .int (nI c)), (2, .int (nI m))]) dX10_areRestless_40 rfl (by decide) rfl ?_
      refine z_aload_n X (pc := 41) 1 dX10_areRestless_41 rfl rfl ?_
      refine z_get X (pc := 42) 0 zk_17_0 (zc_17_0 E _) rfl inlX10 (by decide) gw_13 rfl rfl dX10_areRestless_42 ?_
      refine z_get X (pc := 45) 1 zk_9_0 (zc_9_0 E _) rfl inlX9 (by decide) gw_226 rfl rfl dX10_areRestless_45 ?_
      refine z_get X (pc := 48) 6 zk_9_2 (zc_9_2 E _) rfl inlX4 (by decide) gw_411 rfl rfl dX10_areRestless_48 ?_
      refine z_iload_n X (pc := 51) 3 dX10_areRestless_51 rfl rfl ?_
      refine z_callV X (pc := 52) (rest := []) kv_X7_at (c_X7_at E M 9 28 m (by decide) (by decide) (show m < 10 by omega)) zk_9_28 (zc_9_28 E _) rfl rfl gw_348 (by decide) rfl rfl (Nat.le_of_ble_eq_true rfl) dX10_areRestless_52 (zk_i ?_)
      refine z_top (y := (g 12 m)) (S9.row 12 (S9.rf hg) rfl (by decide) (show m < 10 by omega)) ?_
      refine z_istore X (pc := 55) (lv1 := [(4, .int (g 12 m)), (3, .int (g 6 c)), (0, .ref (za E 17 0)), (1, .int (nI c)), (2, .int (nI m))]) dX10_areRestless_55 (by decide) rfl ?_
      refine z_iload_n X (pc := 57) 1 dX10_areRestless_57 rfl rfl ?_
      refine z_iconst X (pc := 58) (v := (-1)) dX10_areRestless_58 (by decide) ?_
      refine z_icmp_eq X (pc := 59) (tgt := 75) dX10_areRestless_59 (by decide) (fun c59 => ?_) (fun c59 => ?_)
      · refine z_iload X (pc := 75) 0 dX10_areRestless_75 rfl ?_
        refine z_iconst X (pc := 77) (v := (-1)) dX10_areRestless_77 (by decide) ?_
        refine z_icmp_eq X (pc := 78) (tgt := 97) dX10_areRestless_78 (by decide) (fun c78 => ?_) (fun c78 => ?_)
        · refine z_iconst X (pc := 97) (v := 1) dX10_areRestless_97 (by decide) ?_
          refine z_goto X (pc := 98) (tgt := 102) dX10_areRestless_98 (by decide) ?_
          exact z_bret X Y dX10_areRestless_102 (by simp [areR, who, zb, c9, c21, c59, c78]) rfl
        · refine z_aload_n X (pc := 81) 2 dX10_areRestless_81 rfl rfl ?_
          refine z_get X (pc := 82) 0 zk_17_0 (zc_17_0 E _) rfl inlX10 (by decide) gw_13 rfl rfl dX10_areRestless_82 ?_
          refine z_get X (pc := 85) 0 zk_9_0 (zc_9_0 E _) rfl inlX9 (by decide) gw_185 rfl rfl dX10_areRestless_85 ?_
          refine z_iload_n X (pc := 88) 3 dX10_areRestless_88 rfl rfl ?_
          refine z_iload X (pc := 89) 0 dX10_areRestless_89 rfl ?_
          obtain ⟨k91, hk91, hp91⟩ : ∃ k, k < nc ∧ g 12 m = nI k := (hI.nor12 hm).resolve_left c78
          refine z_top (y := nI k91) hp91 ?_
          refine z_callV X (pc := 91) (rest := []) kv_X2_isRather (c_X2_isRather E M g (And.left (S9.rf hg))  c k91 (show c < 10 by omega) (show k91 < 10 by omega)) zk_9_1 (zc_9_1 E _) rfl rfl gw_777 (by decide) rfl rfl (Nat.le_of_ble_eq_true rfl) dX10_areRestless_91 (zk_i ?_)
          refine z_bif_eq X (pc := 94) (tgt := 101) dX10_areRestless_94 (by decide) (fun c94 => ?_) (fun c94 => ?_)
          · refine z_iconst X (pc := 101) (v := 0) dX10_areRestless_101 (by decide) ?_
            exact z_bret X Y dX10_areRestless_102 (by simp [areR, who, zb, c9, c21, c59, c78, hp91, (nI_clamp (show k91 < 2 ^ 31 by omega)), (nI_ne_m1 (show k91 < 2 ^ 31 by omega)), c94]) rfl
          · refine z_iconst X (pc := 97) (v := 1) dX10_areRestless_97 (by decide) ?_
            refine z_goto X (pc := 98) (tgt := 102) dX10_areRestless_98 (by decide) ?_
            exact z_bret X Y dX10_areRestless_102 (by simp [areR, who, zb, c9, c21, c59, c78, hp91, (nI_clamp (show k91 < 2 ^ 31 by omega)), (nI_ne_m1 (show k91 < 2 ^ 31 by omega)), c94]) rfl
      · refine z_aload_n X (pc := 62) 2 dX10_areRestless_62 rfl rfl ?_
        refine z_get X (pc := 63) 0 zk_17_0 (zc_17_0 E _) rfl inlX10 (by decide) gw_13 rfl rfl dX10_areRestless_63 ?_
        refine z_iload_n X (pc := 66) 3 dX10_areRestless_66 rfl rfl ?_
        refine z_iload_n X (pc := 67) 4 dX10_areRestless_67 rfl rfl ?_
        refine z_iload_n X (pc := 68) 1 dX10_areRestless_68 rfl rfl ?_
        obtain ⟨k69, hk69, hp69⟩ : ∃ k, k < nm ∧ g 6 c = nI k := (hI.nor6 hc).resolve_left c59
        refine z_top (y := nI k69) hp69 ?_
        refine z_callV X (pc := 69) (rest := []) kv_X9_isRatherHad (c_X9_isRatherHad E M g (And.left (S9.rf hg))  c m k69 (show c < 10 by omega) (show m < 10 by omega) (show k69 < 10 by omega)) zk_9_0 (zc_9_0 E _) rfl rfl gw_773 (by decide) rfl rfl (Nat.le_of_ble_eq_true rfl) dX10_areRestless_69 (zk_i ?_)
        refine z_bif_eq X (pc := 72) (tgt := 101) dX10_areRestless_72 (by decide) (fun c72 => ?_) (fun c72 => ?_)
        · refine z_iconst X (pc := 101) (v := 0) dX10_areRestless_101 (by decide) ?_
          exact z_bret X Y dX10_areRestless_102 (by simp [areR, who, zb, c9, c21, c59, hp69, (nI_clamp (show k69 < 2 ^ 31 by omega)), (nI_ne_m1 (show k69 < 2 ^ 31 by omega)), c72]) rfl
        · refine z_iload X (pc := 75) 0 dX10_areRestless_75 rfl ?_
          refine z_iconst X (pc := 77) (v := (-1)) dX10_areRestless_77 (by decide) ?_
          refine z_icmp_eq X (pc := 78) (tgt := 97) dX10_areRestless_78 (by decide) (fun c78 => ?_) (fun c78 => ?_)
          · refine z_iconst X (pc := 97) (v := 1) dX10_areRestless_97 (by decide) ?_
            refine z_goto X (pc := 98) (tgt := 102) dX10_areRestless_98 (by decide) ?_
            exact z_bret X Y dX10_areRestless_102 (by simp [areR, who, zb, c9, c21, c59, hp69, (nI_clamp (show k69 < 2 ^ 31 by omega)), (nI_ne_m1 (show k69 < 2 ^ 31 by omega)), c72, c78]) rfl
          · refine z_aload_n X (pc := 81) 2 dX10_areRestless_81 rfl rfl ?_
            refine z_get X (pc := 82) 0 zk_17_0 (zc_17_0 E _) rfl inlX10 (by decide) gw_13 rfl rfl dX10_areRestless_82 ?_
            refine z_get X (pc := 85) 0 zk_9_0 (zc_9_0 E _) rfl inlX9 (by decide) gw_185 rfl rfl dX10_areRestless_85 ?_
            refine z_iload_n X (pc := 88) 3 dX10_areRestless_88 rfl rfl ?_
            refine z_iload X (pc := 89) 0 dX10_areRestless_89 rfl ?_
            obtain ⟨k91, hk91, hp91⟩ : ∃ k, k < nc ∧ g 12 m = nI k := (hI.nor12 hm).resolve_left c78
            refine z_top (y := nI k91) hp91 ?_
            refine z_callV X (pc := 91) (rest := []) kv_X2_isRather (c_X2_isRather E M g (And.left (S9.rf hg))  c k91 (show c < 10 by omega) (show k91 < 10 by omega)) zk_9_1 (zc_9_1 E _) rfl rfl gw_777 (by decide) rfl rfl (Nat.le_of_ble_eq_true rfl) dX10_areRestless_91 (zk_i ?_)
            refine z_bif_eq X (pc := 94) (tgt := 101) dX10_areRestless_94 (by decide) (fun c94 => ?_) (fun c94 => ?_)
            · refine z_iconst X (pc := 101) (v := 0) dX10_areRestless_101 (by decide) ?_
              exact z_bret X Y dX10_areRestless_102 (by simp [areR, who, zb, c9, c21, c59, hp69, (nI_clamp (show k69 < 2 ^ 31 by omega)), (nI_ne_m1 (show k69 < 2 ^ 31 by omega)), c72, c78, hp91, (nI_clamp (show k91 < 2 ^ 31 by omega)), (nI_ne_m1 (show k91 < 2 ^ 31 by omega)), c94]) rfl
            · refine z_iconst X (pc := 97) (v := 1) dX10_areRestless_97 (by decide) ?_
              refine z_goto X (pc := 98) (tgt := 102) dX10_areRestless_98 (by decide) ?_
              exact z_bret X Y dX10_areRestless_102 (by simp [areR, who, zb, c9, c21, c59, hp69, (nI_clamp (show k69 < 2 ^ 31 by omega)), (nI_ne_m1 (show k69 < 2 ^ 31 by omega)), c72, c78, hp91, (nI_clamp (show k91 < 2 ^ 31 by omega)), (nI_ne_m1 (show k91 < 2 ^ 31 by omega)), c94]) rfl
    · refine z_iconst X (pc := 24) (v := 0) dX10_areRestless_24 (by decide) ?_
      exact z_bret X Y dX10_areRestless_25 (by simp [areR, who, zb, c9, c21]) rfl

def rm_X10_restless : Room := { frames := 4, cells := 0, slots := 0, locals := 93 }
theorem kv_X10_restless : KV yX10_restless RX10 cX10_restless 4 (some .int) 0 := ⟨⟨gw_766, gw_767, gw_2, gw_768⟩, by decide +kernel⟩
set_option maxRecDepth 100000 in
set_option maxHeartbeats 4000000 in
theorem c_X10_restless (E : ZE) (M : Mem) (g : LG) (hg : gX (M 9) = g) (nc nm n : Nat) (hI : Inv g nc nm n)  : Mt E yX10_restless cX10_restless 4 (some .int) rm_X10_restless [.ref (za E 17 0)] M (PI (nI (restN g nm nc)) M) := by
  have hnc := hI.nc; have hnm := hI.nm; have hn := hI.c10; have hn2 := hI.m10
  refine z_met (own := RX10) (lv := [(0, .ref (za E 17 0))]) (by decide) rfl (Nat.le_of_ble_eq_true rfl) rfl (fun gg X Y => ?_)
  refine z_iconst X (pc := 0) (v := 0) dX10_restless_0 (by decide) ?_
  refine z_istore_n X (pc := 1) (lv1 := [(1, .int 0), (0, .ref (za E 17 0))]) dX10_restless_1 rfl (by decide) rfl ?_
  refine z_iconst X (pc := 2) (v := 0) dX10_restless_2 (by decide) ?_
  refine z_istore_n X (pc := 3) (lv1 := [(2, .int 0), (1, .int 0), (0, .ref (za E 17 0))]) dX10_restless_3 rfl (by decide) rfl ?_
  refine z_sub (lv' := [(2, .int (nI 0)), (1, .int (nI (restN g nm 0))), (0, .ref (za E 17 0))]) [0, 1, 2] rfl ?_
  refine z_loop (nc) 4 (σ := Unit) (fun i s => True) (fun i s => (M, [(2, .int (nI i)), (1, .int (nI (restN g nm i))), (0, .ref (za E 17 0))])) ?_ 0 () (Nat.zero_le _) trivial
  intro i s hi4 hJ4 ih4
  show Z gg E M [(2, .int (nI i)), (1, .int (nI (restN g nm i))), (0, .ref (za E 17 0))] 4 []
  refine z_iload_n X (pc := 4) 0 dX10_restless_4 rfl rfl ?_
  refine z_aload_n X (pc := 5) 2 dX10_restless_5 rfl rfl ?_
  refine z_get X (pc := 6) 0 zk_17_0 (zc_17_0 E _) rfl inlX10 (by decide) gw_13 rfl rfl dX10_restless_6 ?_
  refine z_get X (pc := 9) 0 zk_9_0 (zc_9_0 E _) rfl inlX9 (by decide) gw_185 rfl rfl dX10_restless_9 ?_
  refine z_get X (pc := 12) 0 zk_9_1 (zc_9_1 E _) rfl inlX2 (by decide) gw_186 rfl rfl dX10_restless_12 ?_
  refine z_top (y := (nI nc)) ((S9.cc (S9.rf hg)).trans hnc) ?_
  refine z_nicmp_ge X (pc := 15) (a := i) (b := nc) (tgt := 58) dX10_restless_15 (by decide) (by omega) (by omega) (fun c15 => ?_) (fun c15 => ?_)
  · refine z_iload_n X (pc := 58) 1 dX10_restless_58 rfl rfl ?_
    exact z_pret X Y dX10_restless_59 (by rw [show i = nc by omega]) rfl
  · refine z_iconst X (pc := 18) (v := 0) dX10_restless_18 (by decide) ?_
    refine z_istore_n X (pc := 19) (lv1 := [(3, .int 0), (2, .int (nI i)), (1, .int (nI (restN g nm i))), (0, .ref (za E 17 0))]) dX10_restless_19 rfl (by decide) rfl ?_
    refine z_sub (lv' := [(3, .int (nI 0)), (2, .int (nI i)), (1, .int (nI (restN g nm i + cntB (areR g i) 0))), (0, .ref (za E 17 0))]) [0, 1, 2, 3] rfl ?_
    refine z_loop (nm) 20 (σ := Unit) (fun j s => True) (fun j s => (M, [(3, .int (nI j)), (2, .int (nI i)), (1, .int (nI (restN g nm i + cntB (areR g i) j))), (0, .ref (za E 17 0))])) ?_ 0 () (Nat.zero_le _) trivial
    intro j s hi20 hJ20 ih20
    show Z gg E M [(3, .int (nI j)), (2, .int (nI i)), (1, .int (nI (restN g nm i + cntB (areR g i) j))), (0, .ref (za E 17 0))] 20 []
    refine z_iload_n X (pc := 20) 0 dX10_restless_20 rfl rfl ?_
    refine z_aload_n X (pc := 21) 3 dX10_restless_21 rfl rfl ?_
    refine z_get X (pc := 22) 0 zk_17_0 (zc_17_0 E _) rfl inlX10 (by decide) gw_13 rfl rfl dX10_restless_22 ?_
    refine z_get X (pc := 25) 1 zk_9_0 (zc_9_0 E _) rfl inlX9 (by decide) gw_226 rfl rfl dX10_restless_25 ?_
    refine z_get X (pc := 28) 0 zk_9_2 (zc_9_2 E _) rfl inlX4 (by decide) gw_227 rfl rfl dX10_restless_28 ?_
    refine z_top (y := (nI nm)) ((S9.cm (S9.rf hg)).trans hnm) ?_
    refine z_nicmp_ge X (pc := 31) (a := j) (b := nm) (tgt := 52) dX10_restless_31 (by decide) (by omega) (by omega) (fun c31 => ?_) (fun c31 => ?_)
    · obtain rfl : nm = j := by omega
      refine z_iinc X (pc := 52) (v := (nI (i + 1))) (lv1 := [(2, .int (nI (i + 1))), (3, .int (nI nm)), (1, .int (nI (restN g nm i + cntB (areR g i) nm))), (0, .ref (za E 17 0))]) 1 dX10_restless_52 rfl (nI_1 _) (by decide) rfl ?_
      refine z_goto X (pc := 55) (tgt := 4) dX10_restless_55 (by decide) ?_
      refine z_sub (lv' := [(2, .int (nI (i + 1))), (1, .int (nI (restN g nm i + cntB (areR g i) nm))), (0, .ref (za E 17 0))]) [0, 2, 3] rfl ?_
      refine z_eq (lv' := [(2, .int (nI (i + 1))), (1, .int (nI (restN g nm (i + 1)))), (0, .ref (za E 17 0))]) (by simp [restN]) rfl ?_
      exact ih4 () (by omega) trivial
    · refine z_aload_n X (pc := 34) 3 dX10_restless_34 rfl rfl ?_
      refine z_iload_n X (pc := 35) 1 dX10_restless_35 rfl rfl ?_
      refine z_iload_n X (pc := 36) 0 dX10_restless_36 rfl rfl ?_
      refine z_callV X (pc := 37) (rest := []) kv_X10_areRestless (c_X10_areRestless E M g (And.left (S9.rf hg)) nc nm n hI i j (by omega) (by omega)) zk_17_0 (zc_17_0 E _) rfl rfl gw_769 (by decide) rfl rfl (Nat.le_of_ble_eq_true rfl) dX10_restless_37 (zk_i ?_)
      refine z_bif_eq X (pc := 40) (tgt := 46) dX10_restless_40 (by decide) (fun c40 => ?_) (fun c40 => ?_)
      · refine z_iinc X (pc := 46) (v := (nI (j + 1))) (lv1 := [(3, .int (nI (j + 1))), (2, .int (nI i)), (1, .int (nI (restN g nm i + cntB (areR g i) j))), (0, .ref (za E 17 0))]) 0 dX10_restless_46 rfl (nI_1 _) (by decide) rfl ?_
        refine z_goto X (pc := 49) (tgt := 20) dX10_restless_49 (by decide) ?_
        refine z_sub (lv' := [(3, .int (nI (j + 1))), (2, .int (nI i)), (1, .int (nI (restN g nm i + cntB (areR g i) j))), (0, .ref (za E 17 0))]) [0, 1, 2, 3] rfl ?_
        refine z_eq (lv' := [(3, .int (nI (j + 1))), (2, .int (nI i)), (1, .int (nI (restN g nm i + cntB (areR g i) (j + 1)))), (0, .ref (za E 17 0))]) (by simp [cntB, Nat.add_assoc, c15, c31, c40]) rfl ?_
        exact ih20 () (by omega) trivial
      · refine z_iinc X (pc := 43) (v := (nI (restN g nm i + cntB (areR g i) j + 1))) (lv1 := [(1, .int (nI (restN g nm i + cntB (areR g i) j + 1))), (3, .int (nI j)), (2, .int (nI i)), (0, .ref (za E 17 0))]) 2 dX10_restless_43 rfl (nI_1 _) (by decide) rfl ?_
        refine z_iinc X (pc := 46) (v := (nI (j + 1))) (lv1 := [(3, .int (nI (j + 1))), (1, .int (nI (restN g nm i + cntB (areR g i) j + 1))), (2, .int (nI i)), (0, .ref (za E 17 0))]) 1 dX10_restless_46 rfl (nI_1 _) (by decide) rfl ?_
        refine z_goto X (pc := 49) (tgt := 20) dX10_restless_49 (by decide) ?_
        refine z_sub (lv' := [(3, .int (nI (j + 1))), (2, .int (nI i)), (1, .int (nI (restN g nm i + cntB (areR g i) j + 1))), (0, .ref (za E 17 0))]) [0, 2, 1, 3] rfl ?_
        refine z_eq (lv' := [(3, .int (nI (j + 1))), (2, .int (nI i)), (1, .int (nI (restN g nm i + cntB (areR g i) (j + 1)))), (0, .ref (za E 17 0))]) (by simp [cntB, Nat.add_assoc, c15, c31, c40]) rfl ?_
        exact ih20 () (by omega) trivial

def rm_X10_lasts : Room := { frames := 3, cells := 0, slots := 0, locals := 64 }
theorem kv_X10_lasts : KV yX10_lasts RX10 cX10_lasts 6 (some .int) 1 := ⟨⟨gw_782, gw_783, gw_2, gw_784⟩, by decide +kernel⟩
set_option maxRecDepth 100000 in
set_option maxHeartbeats 4000000 in
theorem c_X10_lasts (E : ZE) (M : Mem) (g : LG) (hg : gX (M 9) = g) (nc nm n : Nat) (hI : Inv g nc nm n) (x : Int32) : Mt E yX10_lasts cX10_lasts 6 (some .int) rm_X10_lasts [.ref (za E 17 0), .int x] M (PI (aLasts g x) M) := by
  have hnc := hI.nc; have hnm := hI.nm; have hn := hI.c10; have hn2 := hI.m10
  refine z_met (own := RX10) (lv := [(0, .ref (za E 17 0)), (1, .int x)]) (by decide) rfl (Nat.le_of_ble_eq_true rfl) rfl (fun gg X Y => ?_)
  refine z_iload_n X (pc := 0) 1 dX10_lasts_0 rfl rfl ?_
  refine z_iconst X (pc := 1) (v := 1) dX10_lasts_1 (by decide) ?_
  refine z_iconst X (pc := 2) (v := 4) dX10_lasts_2 (by decide) ?_
  refine z_callS X (pc := 3) (rest := []) ks_X10_isWithin (c_X10_isWithin E M x 1 4) gw_187 (by decide) rfl rfl (Nat.le_of_ble_eq_true rfl) dX10_lasts_3 (zk_i ?_)
  refine z_bif_ne X (pc := 6) (tgt := 13) dX10_lasts_6 (by decide) (fun c6 => ?_) (fun c6 => ?_)
  · refine z_sipush X (pc := 13) (v := (-1015)) dX10_lasts_13 (by decide) ?_
    refine z_istore_n X (pc := 16) (lv1 := [(2, .int ((-1015))), (0, .ref (za E 17 0)), (1, .int x)]) dX10_lasts_16 rfl (by decide) rfl ?_
    refine z_iconst X (pc := 17) (v := 0) dX10_lasts_17 (by decide) ?_
    refine z_istore_n X (pc := 18) (lv1 := [(3, .int 0), (2, .int ((-1015))), (0, .ref (za E 17 0)), (1, .int x)]) dX10_lasts_18 rfl (by decide) rfl ?_
    refine z_sub (lv' := [(3, .int (nI 0)), (2, .int (lastsN g x 0)), (0, .ref (za E 17 0)), (1, .int x)]) [0, 1, 2, 3] rfl ?_
    refine z_loop (nc) 19 (σ := Unit) (fun i s => True) (fun i s => (M, [(3, .int (nI i)), (2, .int (lastsN g x i)), (0, .ref (za E 17 0)), (1, .int x)])) ?_ 0 () (Nat.zero_le _) trivial
    intro i s hi19 hJ19 ih19
    show Z gg E M [(3, .int (nI i)), (2, .int (lastsN g x i)), (0, .ref (za E 17 0)), (1, .int x)] 19 []
    refine z_iload_n X (pc := 19) 0 dX10_lasts_19 rfl rfl ?_
    refine z_aload_n X (pc := 20) 2 dX10_lasts_20 rfl rfl ?_
    refine z_get X (pc := 21) 0 zk_17_0 (zc_17_0 E _) rfl inlX10 (by decide) gw_13 rfl rfl dX10_lasts_21 ?_
    refine z_get X (pc := 24) 0 zk_9_0 (zc_9_0 E _) rfl inlX9 (by decide) gw_185 rfl rfl dX10_lasts_24 ?_
    refine z_get X (pc := 27) 0 zk_9_1 (zc_9_1 E _) rfl inlX2 (by decide) gw_186 rfl rfl dX10_lasts_27 ?_
    refine z_top (y := (nI nc)) ((S9.cc (S9.rf hg)).trans hnc) ?_
    refine z_nicmp_ge X (pc := 30) (a := i) (b := nc) (tgt := 95) dX10_lasts_30 (by decide) (by omega) (by omega) (fun c30 => ?_) (fun c30 => ?_)
    · refine z_iload_n X (pc := 95) 1 dX10_lasts_95 rfl rfl ?_
      exact z_pret X Y dX10_lasts_96 (by obtain rfl : nc = i := (by omega); simp [aLasts, hI.cNe, hI.mNe, c6, c30, (Nat.not_lt.mpr c30)]) rfl
    · refine z_aload_n X (pc := 33) 2 dX10_lasts_33 rfl rfl ?_
      refine z_get X (pc := 34) 0 zk_17_0 (zc_17_0 E _) rfl inlX10 (by decide) gw_13 rfl rfl dX10_lasts_34 ?_
      refine z_iload_n X (pc := 37) 0 dX10_lasts_37 rfl rfl ?_
      refine z_iload_n X (pc := 38) 3 dX10_lasts_38 rfl rfl ?_
      refine z_callV X (pc := 39) (rest := []) kv_X9_wearOf (c_X9_wearOf E M g (And.left (S9.rf hg)) i x (show i < 10 by omega) ((hI.nor6 (by omega)).le (by omega))) zk_9_0 (zc_9_0 E _) rfl rfl gw_786 (by decide) rfl rfl (Nat.le_of_ble_eq_true rfl) dX10_lasts_39 (zk_i ?_)
      refine z_istore X (pc := 42) (lv1 := [(4, .int (wearOf g i x)), (3, .int (nI i)), (2, .int (lastsN g x i)), (0, .ref (za E 17 0)), (1, .int x)]) dX10_lasts_42 (by decide) rfl ?_
      refine z_iload X (pc := 44) 0 dX10_lasts_44 rfl ?_
      refine z_if_le X (pc := 46) (tgt := 89) dX10_lasts_46 (by decide) (fun c46 => ?_) (fun c46 => ?_)
      · refine z_iinc X (pc := 89) (v := (nI (i + 1))) (lv1 := [(3, .int (nI (i + 1))), (4, .int (wearOf g i x)), (2, .int (lastsN g x i)), (0, .ref (za E 17 0)), (1, .int x)]) 1 dX10_lasts_89 rfl (nI_1 _) (by decide) rfl ?_
        refine z_goto X (pc := 92) (tgt := 19) dX10_lasts_92 (by decide) ?_
        refine z_sub (lv' := [(3, .int (nI (i + 1))), (2, .int (lastsN g x i)), (0, .ref (za E 17 0)), (1, .int x)]) [0, 2, 3, 4] rfl ?_
        refine z_eq (lv' := [(3, .int (nI (i + 1))), (2, .int (lastsN g x (i + 1))), (0, .ref (za E 17 0)), (1, .int x)]) (by simp [lastsN, c6, c30, c46, (i32_nlt.mpr c46)]) rfl ?_
        exact ih19 () (by omega) trivial
      · refine z_aload_n X (pc := 49) 3 dX10_lasts_49 rfl rfl ?_
        refine z_get X (pc := 50) 0 zk_17_0 (zc_17_0 E _) rfl inlX10 (by decide) gw_13 rfl rfl dX10_lasts_50 ?_
        refine z_get X (pc := 53) 0 zk_9_0 (zc_9_0 E _) rfl inlX9 (by decide) gw_185 rfl rfl dX10_lasts_53 ?_
        refine z_get X (pc := 56) 4 zk_9_1 (zc_9_1 E _) rfl inlX2 (by decide) gw_392 rfl rfl dX10_lasts_56 ?_
        refine z_iload_n X (pc := 59) 1 dX10_lasts_59 rfl rfl ?_
        refine z_callV X (pc := 60) (rest := []) kv_X7_at (c_X7_at E M 9 10 i (by decide) (by decide) (show i < 10 by omega)) zk_9_10 (zc_9_10 E _) rfl rfl gw_348 (by decide) rfl rfl (Nat.le_of_ble_eq_true rfl) dX10_lasts_60 (zk_i ?_)
        refine z_top (y := (g 3 i)) (S9.row 3 (S9.rf hg) rfl (by decide) (show i < 10 by omega)) ?_
        refine z_iconst X (pc := 63) (v := 1) dX10_lasts_63 (by decide) ?_
        refine z_isub X (pc := 64) dX10_lasts_64 ?_
        refine z_iload X (pc := 65) 0 dX10_lasts_65 rfl ?_
        refine z_idiv X (pc := 67) dX10_lasts_67 (fun e => by rw [e] at c46; exact c46 (Int32.le_refl 0)) ?_
        refine z_istore X (pc := 68) (lv1 := [(5, .int (((g 3 i) - 1) / (wearOf g i x))), (4, .int (wearOf g i x)), (3, .int (nI i)), (2, .int (lastsN g x i)), (0, .ref (za E 17 0)), (1, .int x)]) dX10_lasts_68 (by decide) rfl ?_
        refine z_iload_n X (pc := 70) 3 dX10_lasts_70 rfl rfl ?_
        refine z_sipush X (pc := 71) (v := (-1015)) dX10_lasts_71 (by decide) ?_
        refine z_icmp_ne X (pc := 74) (tgt := 82) dX10_lasts_74 (by decide) (fun c74 => ?_) (fun c74 => ?_)
        · refine z_iload_n X (pc := 82) 3 dX10_lasts_82 rfl rfl ?_
          refine z_iload X (pc := 83) 0 dX10_lasts_83 rfl ?_
          refine z_min X (pc := 85) gw_785 gw_159 gw_70 gw_160 (by decide) (Nat.le_of_ble_eq_true rfl) dX10_lasts_85 ?_
          refine z_istore_n X (pc := 88) (lv1 := [(2, .int (if (((g 3 i) - 1) / (wearOf g i x)) < (lastsN g x i) then (((g 3 i) - 1) / (wearOf g i x)) else (lastsN g x i))), (5, .int (((g 3 i) - 1) / (wearOf g i x))), (4, .int (wearOf g i x)), (3, .int (nI i)), (0, .ref (za E 17 0)), (1, .int x)]) dX10_lasts_88 rfl (by decide) rfl ?_
          refine z_iinc X (pc := 89) (v := (nI (i + 1))) (lv1 := [(3, .int (nI (i + 1))), (2, .int (if (((g 3 i) - 1) / (wearOf g i x)) < (lastsN g x i) then (((g 3 i) - 1) / (wearOf g i x)) else (lastsN g x i))), (5, .int (((g 3 i) - 1) / (wearOf g i x))), (4, .int (wearOf g i x)), (0, .ref (za E 17 0)), (1, .int x)]) 3 dX10_lasts_89 rfl (nI_1 _) (by decide) rfl ?_
          refine z_goto X (pc := 92) (tgt := 19) dX10_lasts_92 (by decide) ?_
          refine z_sub (lv' := [(3, .int (nI (i + 1))), (2, .int (if (((g 3 i) - 1) / (wearOf g i x)) < (lastsN g x i) then (((g 3 i) - 1) / (wearOf g i x)) else (lastsN g x i))), (0, .ref (za E 17 0)), (1, .int x)]) [0, 1, 4, 5] rfl ?_
          refine z_eq (lv' := [(3, .int (nI (i + 1))), (2, .int (lastsN g x (i + 1))), (0, .ref (za E 17 0)), (1, .int x)]) (by simp [lastsN, c6, c30, c46, c74, (i32_nle.mp c46)]) rfl ?_
          exact ih19 () (by omega) trivial
        · refine z_iload X (pc := 77) 0 dX10_lasts_77 rfl ?_
          refine z_goto X (pc := 79) (tgt := 88) dX10_lasts_79 (by decide) ?_
          refine z_istore_n X (pc := 88) (lv1 := [(2, .int (((g 3 i) - 1) / (wearOf g i x))), (5, .int (((g 3 i) - 1) / (wearOf g i x))), (4, .int (wearOf g i x)), (3, .int (nI i)), (0, .ref (za E 17 0)), (1, .int x)]) dX10_lasts_88 rfl (by decide) rfl ?_
          refine z_iinc X (pc := 89) (v := (nI (i + 1))) (lv1 := [(3, .int (nI (i + 1))), (2, .int (((g 3 i) - 1) / (wearOf g i x))), (5, .int (((g 3 i) - 1) / (wearOf g i x))), (4, .int (wearOf g i x)), (0, .ref (za E 17 0)), (1, .int x)]) 3 dX10_lasts_89 rfl (nI_1 _) (by decide) rfl ?_
          refine z_goto X (pc := 92) (tgt := 19) dX10_lasts_92 (by decide) ?_
          refine z_sub (lv' := [(3, .int (nI (i + 1))), (2, .int (((g 3 i) - 1) / (wearOf g i x))), (0, .ref (za E 17 0)), (1, .int x)]) [0, 1, 4, 5] rfl ?_
          refine z_eq (lv' := [(3, .int (nI (i + 1))), (2, .int (lastsN g x (i + 1))), (0, .ref (za E 17 0)), (1, .int x)]) (by simp [lastsN, c6, c30, c46, c74, (i32_nle.mp c46)]) rfl ?_
          exact ih19 () (by omega) trivial
  · refine z_sipush X (pc := 9) (v := (-1012)) dX10_lasts_9 (by decide) ?_
    exact z_pret X Y dX10_lasts_12 (by simp [aLasts, hI.cNe, hI.mNe, c6]) rfl

def rm_X10_hall : Room := { frames := 1, cells := 0, slots := 0, locals := 22 }
theorem kv_X10_hall : KV yX10_hall RX10 cX10_hall 4 (some .int) 1 := ⟨⟨gw_686, gw_687, gw_2, gw_688⟩, by decide +kernel⟩
set_option maxRecDepth 100000 in
set_option maxHeartbeats 4000000 in
theorem c_X10_hall (E : ZE) (M : Mem) (g : LG) (hg : gX (M 9) = g) (nc nm n : Nat) (hI : Inv g nc nm n) (x : Int32) : Mt E yX10_hall cX10_hall 4 (some .int) rm_X10_hall [.ref (za E 17 0), .int x] M (PI (aHall g x) M) := by
  have hnc := hI.nc; have hnm := hI.nm; have hn := hI.c10; have hn2 := hI.m10
  refine z_met (own := RX10) (lv := [(0, .ref (za E 17 0)), (1, .int x)]) (by decide) rfl (Nat.le_of_ble_eq_true rfl) rfl (fun gg X Y => ?_)
  refine z_iload_n X (pc := 0) 1 dX10_hall_0 rfl rfl ?_
  refine z_iconst X (pc := 1) (v := 0) dX10_hall_1 (by decide) ?_
  refine z_iconst X (pc := 2) (v := 2) dX10_hall_2 (by decide) ?_
  refine z_callS X (pc := 3) (rest := []) ks_X10_isWithin (c_X10_isWithin E M x 0 2) gw_187 (by decide) rfl rfl (Nat.le_of_ble_eq_true rfl) dX10_hall_3 (zk_i ?_)
  refine z_bif_ne X (pc := 6) (tgt := 13) dX10_hall_6 (by decide) (fun c6 => ?_) (fun c6 => ?_)
  · refine z_iconst X (pc := 13) (v := 0) dX10_hall_13 (by decide) ?_
    refine z_istore_n X (pc := 14) (lv1 := [(2, .int 0), (0, .ref (za E 17 0)), (1, .int x)]) dX10_hall_14 rfl (by decide) rfl ?_
    refine z_iconst X (pc := 15) (v := 0) dX10_hall_15 (by decide) ?_
    refine z_istore_n X (pc := 16) (lv1 := [(3, .int 0), (2, .int 0), (0, .ref (za E 17 0)), (1, .int x)]) dX10_hall_16 rfl (by decide) rfl ?_
    refine z_sub (lv' := [(3, .int (nI 0)), (2, .int (hallN g x 0)), (0, .ref (za E 17 0)), (1, .int x)]) [0, 1, 2, 3] rfl ?_
    refine z_loop (nc) 17 (σ := Unit) (fun i s => True) (fun i s => (M, [(3, .int (nI i)), (2, .int (hallN g x i)), (0, .ref (za E 17 0)), (1, .int x)])) ?_ 0 () (Nat.zero_le _) trivial
    intro i s hi17 hJ17 ih17
    show Z gg E M [(3, .int (nI i)), (2, .int (hallN g x i)), (0, .ref (za E 17 0)), (1, .int x)] 17 []
    refine z_iload_n X (pc := 17) 0 dX10_hall_17 rfl rfl ?_
    refine z_aload_n X (pc := 18) 2 dX10_hall_18 rfl rfl ?_
    refine z_get X (pc := 19) 0 zk_17_0 (zc_17_0 E _) rfl inlX10 (by decide) gw_13 rfl rfl dX10_hall_19 ?_
    refine z_get X (pc := 22) 0 zk_9_0 (zc_9_0 E _) rfl inlX9 (by decide) gw_185 rfl rfl dX10_hall_22 ?_
    refine z_get X (pc := 25) 0 zk_9_1 (zc_9_1 E _) rfl inlX2 (by decide) gw_186 rfl rfl dX10_hall_25 ?_
    refine z_top (y := (nI nc)) ((S9.cc (S9.rf hg)).trans hnc) ?_
    refine z_nicmp_ge X (pc := 28) (a := i) (b := nc) (tgt := 61) dX10_hall_28 (by decide) (by omega) (by omega) (fun c28 => ?_) (fun c28 => ?_)
    · refine z_iload_n X (pc := 61) 1 dX10_hall_61 rfl rfl ?_
      exact z_pret X Y dX10_hall_62 (by obtain rfl : nc = i := (by omega); simp [aHall, hI.cNe, hI.mNe, c6, c28, (Nat.not_lt.mpr c28)]) rfl
    · refine z_aload_n X (pc := 31) 2 dX10_hall_31 rfl rfl ?_
      refine z_get X (pc := 32) 0 zk_17_0 (zc_17_0 E _) rfl inlX10 (by decide) gw_13 rfl rfl dX10_hall_32 ?_
      refine z_get X (pc := 35) 0 zk_9_0 (zc_9_0 E _) rfl inlX9 (by decide) gw_185 rfl rfl dX10_hall_35 ?_
      refine z_get X (pc := 38) 5 zk_9_1 (zc_9_1 E _) rfl inlX2 (by decide) gw_393 rfl rfl dX10_hall_38 ?_
      refine z_iload_n X (pc := 41) 0 dX10_hall_41 rfl rfl ?_
      refine z_callV X (pc := 42) (rest := []) kv_X7_at (c_X7_at E M 9 12 i (by decide) (by decide) (show i < 10 by omega)) zk_9_12 (zc_9_12 E _) rfl rfl gw_348 (by decide) rfl rfl (Nat.le_of_ble_eq_true rfl) dX10_hall_42 (zk_i ?_)
      refine z_top (y := (g 4 i)) (S9.row 4 (S9.rf hg) rfl (by decide) (show i < 10 by omega)) ?_
      refine z_iload_n X (pc := 45) 3 dX10_hall_45 rfl rfl ?_
      refine z_icmp_ne X (pc := 46) (tgt := 55) dX10_hall_46 (by decide) (fun c46 => ?_) (fun c46 => ?_)
      · refine z_iinc X (pc := 55) (v := (nI (i + 1))) (lv1 := [(3, .int (nI (i + 1))), (2, .int (hallN g x i)), (0, .ref (za E 17 0)), (1, .int x)]) 0 dX10_hall_55 rfl (nI_1 _) (by decide) rfl ?_
        refine z_goto X (pc := 58) (tgt := 17) dX10_hall_58 (by decide) ?_
        refine z_sub (lv' := [(3, .int (nI (i + 1))), (2, .int (hallN g x i)), (0, .ref (za E 17 0)), (1, .int x)]) [0, 1, 2, 3] rfl ?_
        refine z_eq (lv' := [(3, .int (nI (i + 1))), (2, .int (hallN g x (i + 1))), (0, .ref (za E 17 0)), (1, .int x)]) (by simp [hallN, c6, c28, c46]) rfl ?_
        exact ih17 () (by omega) trivial
      · refine z_iload_n X (pc := 49) 1 dX10_hall_49 rfl rfl ?_
        refine z_iconst X (pc := 50) (v := 1) dX10_hall_50 (by decide) ?_
        refine z_iload_n X (pc := 51) 0 dX10_hall_51 rfl rfl ?_
        refine z_ishl X (pc := 52) dX10_hall_52 ?_
        refine z_ior X (pc := 53) dX10_hall_53 ?_
        refine z_istore_n X (pc := 54) (lv1 := [(2, .int ((hallN g x i) ||| (1 <<< ((nI i) &&& 31)))), (3, .int (nI i)), (0, .ref (za E 17 0)), (1, .int x)]) dX10_hall_54 rfl (by decide) rfl ?_
        refine z_iinc X (pc := 55) (v := (nI (i + 1))) (lv1 := [(3, .int (nI (i + 1))), (2, .int ((hallN g x i) ||| (1 <<< ((nI i) &&& 31)))), (0, .ref (za E 17 0)), (1, .int x)]) 1 dX10_hall_55 rfl (nI_1 _) (by decide) rfl ?_
        refine z_goto X (pc := 58) (tgt := 17) dX10_hall_58 (by decide) ?_
        refine z_sub (lv' := [(3, .int (nI (i + 1))), (2, .int ((hallN g x i) ||| (1 <<< ((nI i) &&& 31)))), (0, .ref (za E 17 0)), (1, .int x)]) [0, 1, 2, 3] rfl ?_
        refine z_eq (lv' := [(3, .int (nI (i + 1))), (2, .int (hallN g x (i + 1))), (0, .ref (za E 17 0)), (1, .int x)]) (by simp [hallN, c6, c28, c46]) rfl ?_
        exact ih17 () (by omega) trivial
  · refine z_sipush X (pc := 9) (v := (-1012)) dX10_hall_9 (by decide) ?_
    exact z_pret X Y dX10_hall_12 (by simp [aHall, hI.cNe, hI.mNe, c6]) rfl

def rm_X10_ranked : Room := { frames := 4, cells := 0, slots := 0, locals := 88 }
theorem kv_X10_ranked : KV yX10_ranked RX10 cX10_ranked 5 (some .int) 1 := ⟨⟨gw_738, gw_739, gw_2, gw_740⟩, by decide +kernel⟩
set_option maxRecDepth 100000 in
set_option maxHeartbeats 4000000 in
theorem c_X10_ranked (E : ZE) (M : Mem) (g : LG) (hg : gX (M 9) = g) (nc nm n : Nat) (hI : Inv g nc nm n) (x : Int32) : Mt E yX10_ranked cX10_ranked 5 (some .int) rm_X10_ranked [.ref (za E 17 0), .int x] M (PI (firstB (fun c => decide (nI (cntB (fun o => cAhead g o c) nc) = x)) nc) M) := by
  have hnc := hI.nc; have hnm := hI.nm; have hn := hI.c10; have hn2 := hI.m10
  refine z_met (own := RX10) (lv := [(0, .ref (za E 17 0)), (1, .int x)]) (by decide) rfl (Nat.le_of_ble_eq_true rfl) rfl (fun gg X Y => ?_)
  refine z_iconst X (pc := 0) (v := 0) dX10_ranked_0 (by decide) ?_
  refine z_istore_n X (pc := 1) (lv1 := [(2, .int 0), (0, .ref (za E 17 0)), (1, .int x)]) dX10_ranked_1 rfl (by decide) rfl ?_
  refine z_sub (lv' := [(2, .int (nI 0)), (0, .ref (za E 17 0)), (1, .int x)]) [0, 1, 2] rfl ?_
  refine z_loop (nc) 2 (σ := Unit) (fun i s => ∀ c, c < i → (fun c => decide (nI (cntB (fun o => cAhead g o c) nc) = x)) c = false) (fun i s => (M, [(2, .int (nI i)), (0, .ref (za E 17 0)), (1, .int x)])) ?_ 0 () (Nat.zero_le _) (fun c hc => absurd hc (Nat.not_lt_zero c))
  intro i s hi2 hJ2 ih2
  show Z gg E M [(2, .int (nI i)), (0, .ref (za E 17 0)), (1, .int x)] 2 []
  refine z_iload_n X (pc := 2) 0 dX10_ranked_2 rfl rfl ?_
  refine z_aload_n X (pc := 3) 1 dX10_ranked_3 rfl rfl ?_
  refine z_get X (pc := 4) 0 zk_17_0 (zc_17_0 E _) rfl inlX10 (by decide) gw_13 rfl rfl dX10_ranked_4 ?_
  refine z_get X (pc := 7) 0 zk_9_0 (zc_9_0 E _) rfl inlX9 (by decide) gw_185 rfl rfl dX10_ranked_7 ?_
  refine z_get X (pc := 10) 0 zk_9_1 (zc_9_1 E _) rfl inlX2 (by decide) gw_186 rfl rfl dX10_ranked_10 ?_
  refine z_top (y := (nI nc)) ((S9.cc (S9.rf hg)).trans hnc) ?_
  refine z_nicmp_ge X (pc := 13) (a := i) (b := nc) (tgt := 74) dX10_ranked_13 (by decide) (by omega) (by omega) (fun c13 => ?_) (fun c13 => ?_)
  · refine z_sipush X (pc := 74) (v := (-1011)) dX10_ranked_74 (by decide) ?_
    exact z_pret X Y dX10_ranked_77 (firstB_no (n := nc) (fun c hc => hJ2 c (by omega))).symm rfl
  · refine z_iconst X (pc := 16) (v := 0) dX10_ranked_16 (by decide) ?_
    refine z_istore_n X (pc := 17) (lv1 := [(3, .int 0), (2, .int (nI i)), (0, .ref (za E 17 0)), (1, .int x)]) dX10_ranked_17 rfl (by decide) rfl ?_
    refine z_iconst X (pc := 18) (v := 0) dX10_ranked_18 (by decide) ?_
    refine z_istore X (pc := 19) (lv1 := [(4, .int 0), (3, .int 0), (2, .int (nI i)), (0, .ref (za E 17 0)), (1, .int x)]) dX10_ranked_19 (by decide) rfl ?_
    refine z_sub (lv' := [(4, .int (nI 0)), (3, .int (nI (cntB (fun o => cAhead g o i) 0))), (2, .int (nI i)), (0, .ref (za E 17 0)), (1, .int x)]) [0, 1, 2, 3, 4] rfl ?_
    refine z_loop (nc) 21 (σ := Unit) (fun j s => True) (fun j s => (M, [(4, .int (nI j)), (3, .int (nI (cntB (fun o => cAhead g o i) j))), (2, .int (nI i)), (0, .ref (za E 17 0)), (1, .int x)])) ?_ 0 () (Nat.zero_le _) trivial
    intro j s hi21 hJ21 ih21
    show Z gg E M [(4, .int (nI j)), (3, .int (nI (cntB (fun o => cAhead g o i) j))), (2, .int (nI i)), (0, .ref (za E 17 0)), (1, .int x)] 21 []
    refine z_iload X (pc := 21) 0 dX10_ranked_21 rfl ?_
    refine z_aload_n X (pc := 23) 3 dX10_ranked_23 rfl rfl ?_
    refine z_get X (pc := 24) 0 zk_17_0 (zc_17_0 E _) rfl inlX10 (by decide) gw_13 rfl rfl dX10_ranked_24 ?_
    refine z_get X (pc := 27) 0 zk_9_0 (zc_9_0 E _) rfl inlX9 (by decide) gw_185 rfl rfl dX10_ranked_27 ?_
    refine z_get X (pc := 30) 0 zk_9_1 (zc_9_1 E _) rfl inlX2 (by decide) gw_186 rfl rfl dX10_ranked_30 ?_
    refine z_top (y := (nI nc)) ((S9.cc (S9.rf hg)).trans hnc) ?_
    refine z_nicmp_ge X (pc := 33) (a := j) (b := nc) (tgt := 61) dX10_ranked_33 (by decide) (by omega) (by omega) (fun c33 => ?_) (fun c33 => ?_)
    · obtain rfl : nc = j := by omega
      refine z_iload_n X (pc := 61) 1 dX10_ranked_61 rfl rfl ?_
      refine z_iload_n X (pc := 62) 4 dX10_ranked_62 rfl rfl ?_
      refine z_icmp_ne X (pc := 63) (tgt := 68) dX10_ranked_63 (by decide) (fun c63 => ?_) (fun c63 => ?_)
      · refine z_iinc X (pc := 68) (v := (nI (i + 1))) (lv1 := [(2, .int (nI (i + 1))), (4, .int (nI nc)), (3, .int (nI (cntB (fun o => cAhead g o i) nc))), (0, .ref (za E 17 0)), (1, .int x)]) 2 dX10_ranked_68 rfl (nI_1 _) (by decide) rfl ?_
        refine z_goto X (pc := 71) (tgt := 2) dX10_ranked_71 (by decide) ?_
        refine z_sub (lv' := [(2, .int (nI (i + 1))), (0, .ref (za E 17 0)), (1, .int x)]) [0, 3, 4] rfl ?_
        exact ih2 () (by omega) (fun c hc => by rcases Nat.lt_or_ge c i with e | e; exact hJ2 c e; rw [show c = i by omega]; exact decide_eq_false c63)
      · refine z_iload_n X (pc := 66) 2 dX10_ranked_66 rfl rfl ?_
        exact z_pret X Y dX10_ranked_67 (firstB_at (n := nc) hJ2 (decide_eq_true c63) (by omega)).symm rfl
    · refine z_aload_n X (pc := 36) 3 dX10_ranked_36 rfl rfl ?_
      refine z_get X (pc := 37) 0 zk_17_0 (zc_17_0 E _) rfl inlX10 (by decide) gw_13 rfl rfl dX10_ranked_37 ?_
      refine z_get X (pc := 40) 0 zk_9_0 (zc_9_0 E _) rfl inlX9 (by decide) gw_185 rfl rfl dX10_ranked_40 ?_
      refine z_iload X (pc := 43) 0 dX10_ranked_43 rfl ?_
      refine z_iload_n X (pc := 45) 2 dX10_ranked_45 rfl rfl ?_
      refine z_callV X (pc := 46) (rest := []) kv_X2_isAhead (c_X2_isAhead E M g (And.left (S9.rf hg))  j i (show j < 10 by omega) (show i < 10 by omega)) zk_9_1 (zc_9_1 E _) rfl rfl gw_741 (by decide) rfl rfl (Nat.le_of_ble_eq_true rfl) dX10_ranked_46 (zk_i ?_)
      refine z_bif_eq X (pc := 49) (tgt := 55) dX10_ranked_49 (by decide) (fun c49 => ?_) (fun c49 => ?_)
      · refine z_iinc X (pc := 55) (v := (nI (j + 1))) (lv1 := [(4, .int (nI (j + 1))), (3, .int (nI (cntB (fun o => cAhead g o i) j))), (2, .int (nI i)), (0, .ref (za E 17 0)), (1, .int x)]) 0 dX10_ranked_55 rfl (nI_1 _) (by decide) rfl ?_
        refine z_goto X (pc := 58) (tgt := 21) dX10_ranked_58 (by decide) ?_
        refine z_sub (lv' := [(4, .int (nI (j + 1))), (3, .int (nI (cntB (fun o => cAhead g o i) j))), (2, .int (nI i)), (0, .ref (za E 17 0)), (1, .int x)]) [0, 1, 2, 3, 4] rfl ?_
        refine z_eq (lv' := [(4, .int (nI (j + 1))), (3, .int (nI (cntB (fun o => cAhead g o i) (j + 1)))), (2, .int (nI i)), (0, .ref (za E 17 0)), (1, .int x)]) (by simp [cntB, c13, c33, c49]) rfl ?_
        exact ih21 () (by omega) trivial
      · refine z_iinc X (pc := 52) (v := (nI (cntB (fun o => cAhead g o i) j + 1))) (lv1 := [(3, .int (nI (cntB (fun o => cAhead g o i) j + 1))), (4, .int (nI j)), (2, .int (nI i)), (0, .ref (za E 17 0)), (1, .int x)]) 1 dX10_ranked_52 rfl (nI_1 _) (by decide) rfl ?_
        refine z_iinc X (pc := 55) (v := (nI (j + 1))) (lv1 := [(4, .int (nI (j + 1))), (3, .int (nI (cntB (fun o => cAhead g o i) j + 1))), (2, .int (nI i)), (0, .ref (za E 17 0)), (1, .int x)]) 1 dX10_ranked_55 rfl (nI_1 _) (by decide) rfl ?_
        refine z_goto X (pc := 58) (tgt := 21) dX10_ranked_58 (by decide) ?_
        refine z_sub (lv' := [(4, .int (nI (j + 1))), (3, .int (nI (cntB (fun o => cAhead g o i) j + 1))), (2, .int (nI i)), (0, .ref (za E 17 0)), (1, .int x)]) [0, 1, 2, 3, 4] rfl ?_
        refine z_eq (lv' := [(4, .int (nI (j + 1))), (3, .int (nI (cntB (fun o => cAhead g o i) (j + 1)))), (2, .int (nI i)), (0, .ref (za E 17 0)), (1, .int x)]) (by simp [cntB, c13, c33, c49]) rfl ?_
        exact ih21 () (by omega) trivial

def rm_X10_richest : Room := { frames := 3, cells := 0, slots := 0, locals := 65 }
theorem kv_X10_richest : KV yX10_richest RX10 cX10_richest 5 (some .int) 1 := ⟨⟨gw_747, gw_748, gw_2, gw_749⟩, by decide +kernel⟩
set_option maxRecDepth 100000 in
set_option maxHeartbeats 4000000 in
theorem c_X10_richest (E : ZE) (M : Mem) (g : LG) (hg : gX (M 9) = g) (nc nm n : Nat) (hI : Inv g nc nm n) (x : Int32) : Mt E yX10_richest cX10_richest 5 (some .int) rm_X10_richest [.ref (za E 17 0), .int x] M (PI (firstB (fun c => decide (nI (cntB (fun o => mAhead g o c) nm) = x)) nm) M) := by
  have hnc := hI.nc; have hnm := hI.nm; have hn := hI.c10; have hn2 := hI.m10
  refine z_met (own := RX10) (lv := [(0, .ref (za E 17 0)), (1, .int x)]) (by decide) rfl (Nat.le_of_ble_eq_true rfl) rfl (fun gg X Y => ?_)
  refine z_iconst X (pc := 0) (v := 0) dX10_richest_0 (by decide) ?_
  refine z_istore_n X (pc := 1) (lv1 := [(2, .int 0), (0, .ref (za E 17 0)), (1, .int x)]) dX10_richest_1 rfl (by decide) rfl ?_
  refine z_sub (lv' := [(2, .int (nI 0)), (0, .ref (za E 17 0)), (1, .int x)]) [0, 1, 2] rfl ?_
  refine z_loop (nm) 2 (σ := Unit) (fun i s => ∀ c, c < i → (fun c => decide (nI (cntB (fun o => mAhead g o c) nm) = x)) c = false) (fun i s => (M, [(2, .int (nI i)), (0, .ref (za E 17 0)), (1, .int x)])) ?_ 0 () (Nat.zero_le _) (fun c hc => absurd hc (Nat.not_lt_zero c))
  intro i s hi2 hJ2 ih2
  show Z gg E M [(2, .int (nI i)), (0, .ref (za E 17 0)), (1, .int x)] 2 []
  refine z_iload_n X (pc := 2) 0 dX10_richest_2 rfl rfl ?_
  refine z_aload_n X (pc := 3) 1 dX10_richest_3 rfl rfl ?_
  refine z_get X (pc := 4) 0 zk_17_0 (zc_17_0 E _) rfl inlX10 (by decide) gw_13 rfl rfl dX10_richest_4 ?_
  refine z_get X (pc := 7) 1 zk_9_0 (zc_9_0 E _) rfl inlX9 (by decide) gw_226 rfl rfl dX10_richest_7 ?_
  refine z_get X (pc := 10) 0 zk_9_2 (zc_9_2 E _) rfl inlX4 (by decide) gw_227 rfl rfl dX10_richest_10 ?_
  refine z_top (y := (nI nm)) ((S9.cm (S9.rf hg)).trans hnm) ?_
  refine z_nicmp_ge X (pc := 13) (a := i) (b := nm) (tgt := 74) dX10_richest_13 (by decide) (by omega) (by omega) (fun c13 => ?_) (fun c13 => ?_)
  · refine z_sipush X (pc := 74) (v := (-1011)) dX10_richest_74 (by decide) ?_
    exact z_pret X Y dX10_richest_77 (firstB_no (n := nm) (fun c hc => hJ2 c (by omega))).symm rfl
  · refine z_iconst X (pc := 16) (v := 0) dX10_richest_16 (by decide) ?_
    refine z_istore_n X (pc := 17) (lv1 := [(3, .int 0), (2, .int (nI i)), (0, .ref (za E 17 0)), (1, .int x)]) dX10_richest_17 rfl (by decide) rfl ?_
    refine z_iconst X (pc := 18) (v := 0) dX10_richest_18 (by decide) ?_
    refine z_istore X (pc := 19) (lv1 := [(4, .int 0), (3, .int 0), (2, .int (nI i)), (0, .ref (za E 17 0)), (1, .int x)]) dX10_richest_19 (by decide) rfl ?_
    refine z_sub (lv' := [(4, .int (nI 0)), (3, .int (nI (cntB (fun o => mAhead g o i) 0))), (2, .int (nI i)), (0, .ref (za E 17 0)), (1, .int x)]) [0, 1, 2, 3, 4] rfl ?_
    refine z_loop (nm) 21 (σ := Unit) (fun j s => True) (fun j s => (M, [(4, .int (nI j)), (3, .int (nI (cntB (fun o => mAhead g o i) j))), (2, .int (nI i)), (0, .ref (za E 17 0)), (1, .int x)])) ?_ 0 () (Nat.zero_le _) trivial
    intro j s hi21 hJ21 ih21
    show Z gg E M [(4, .int (nI j)), (3, .int (nI (cntB (fun o => mAhead g o i) j))), (2, .int (nI i)), (0, .ref (za E 17 0)), (1, .int x)] 21 []
    refine z_iload X (pc := 21) 0 dX10_richest_21 rfl ?_
    refine z_aload_n X (pc := 23) 3 dX10_richest_23 rfl rfl ?_
    refine z_get X (pc := 24) 0 zk_17_0 (zc_17_0 E _) rfl inlX10 (by decide) gw_13 rfl rfl dX10_richest_24 ?_
    refine z_get X (pc := 27) 1 zk_9_0 (zc_9_0 E _) rfl inlX9 (by decide) gw_226 rfl rfl dX10_richest_27 ?_
    refine z_get X (pc := 30) 0 zk_9_2 (zc_9_2 E _) rfl inlX4 (by decide) gw_227 rfl rfl dX10_richest_30 ?_
    refine z_top (y := (nI nm)) ((S9.cm (S9.rf hg)).trans hnm) ?_
    refine z_nicmp_ge X (pc := 33) (a := j) (b := nm) (tgt := 61) dX10_richest_33 (by decide) (by omega) (by omega) (fun c33 => ?_) (fun c33 => ?_)
    · obtain rfl : nm = j := by omega
      refine z_iload_n X (pc := 61) 1 dX10_richest_61 rfl rfl ?_
      refine z_iload_n X (pc := 62) 4 dX10_richest_62 rfl rfl ?_
      refine z_icmp_ne X (pc := 63) (tgt := 68) dX10_richest_63 (by decide) (fun c63 => ?_) (fun c63 => ?_)
      · refine z_iinc X (pc := 68) (v := (nI (i + 1))) (lv1 := [(2, .int (nI (i + 1))), (4, .int (nI nm)), (3, .int (nI (cntB (fun o => mAhead g o i) nm))), (0, .ref (za E 17 0)), (1, .int x)]) 2 dX10_richest_68 rfl (nI_1 _) (by decide) rfl ?_
        refine z_goto X (pc := 71) (tgt := 2) dX10_richest_71 (by decide) ?_
        refine z_sub (lv' := [(2, .int (nI (i + 1))), (0, .ref (za E 17 0)), (1, .int x)]) [0, 3, 4] rfl ?_
        exact ih2 () (by omega) (fun c hc => by rcases Nat.lt_or_ge c i with e | e; exact hJ2 c e; rw [show c = i by omega]; exact decide_eq_false c63)
      · refine z_iload_n X (pc := 66) 2 dX10_richest_66 rfl rfl ?_
        exact z_pret X Y dX10_richest_67 (firstB_at (n := nm) hJ2 (decide_eq_true c63) (by omega)).symm rfl
    · refine z_aload_n X (pc := 36) 3 dX10_richest_36 rfl rfl ?_
      refine z_get X (pc := 37) 0 zk_17_0 (zc_17_0 E _) rfl inlX10 (by decide) gw_13 rfl rfl dX10_richest_37 ?_
      refine z_get X (pc := 40) 1 zk_9_0 (zc_9_0 E _) rfl inlX9 (by decide) gw_226 rfl rfl dX10_richest_40 ?_
      refine z_iload X (pc := 43) 0 dX10_richest_43 rfl ?_
      refine z_iload_n X (pc := 45) 2 dX10_richest_45 rfl rfl ?_
      refine z_callV X (pc := 46) (rest := []) kv_X4_isAhead (c_X4_isAhead E M g (And.left (S9.rf hg))  j i (show j < 10 by omega) (show i < 10 by omega)) zk_9_2 (zc_9_2 E _) rfl rfl gw_750 (by decide) rfl rfl (Nat.le_of_ble_eq_true rfl) dX10_richest_46 (zk_i ?_)
      refine z_bif_eq X (pc := 49) (tgt := 55) dX10_richest_49 (by decide) (fun c49 => ?_) (fun c49 => ?_)
      · refine z_iinc X (pc := 55) (v := (nI (j + 1))) (lv1 := [(4, .int (nI (j + 1))), (3, .int (nI (cntB (fun o => mAhead g o i) j))), (2, .int (nI i)), (0, .ref (za E 17 0)), (1, .int x)]) 0 dX10_richest_55 rfl (nI_1 _) (by decide) rfl ?_
        refine z_goto X (pc := 58) (tgt := 21) dX10_richest_58 (by decide) ?_
        refine z_sub (lv' := [(4, .int (nI (j + 1))), (3, .int (nI (cntB (fun o => mAhead g o i) j))), (2, .int (nI i)), (0, .ref (za E 17 0)), (1, .int x)]) [0, 1, 2, 3, 4] rfl ?_
        refine z_eq (lv' := [(4, .int (nI (j + 1))), (3, .int (nI (cntB (fun o => mAhead g o i) (j + 1)))), (2, .int (nI i)), (0, .ref (za E 17 0)), (1, .int x)]) (by simp [cntB, c13, c33, c49]) rfl ?_
        exact ih21 () (by omega) trivial
      · refine z_iinc X (pc := 52) (v := (nI (cntB (fun o => mAhead g o i) j + 1))) (lv1 := [(3, .int (nI (cntB (fun o => mAhead g o i) j + 1))), (4, .int (nI j)), (2, .int (nI i)), (0, .ref (za E 17 0)), (1, .int x)]) 1 dX10_richest_52 rfl (nI_1 _) (by decide) rfl ?_
        refine z_iinc X (pc := 55) (v := (nI (j + 1))) (lv1 := [(4, .int (nI (j + 1))), (3, .int (nI (cntB (fun o => mAhead g o i) j + 1))), (2, .int (nI i)), (0, .ref (za E 17 0)), (1, .int x)]) 1 dX10_richest_55 rfl (nI_1 _) (by decide) rfl ?_
        refine z_goto X (pc := 58) (tgt := 21) dX10_richest_58 (by decide) ?_
        refine z_sub (lv' := [(4, .int (nI (j + 1))), (3, .int (nI (cntB (fun o => mAhead g o i) j + 1))), (2, .int (nI i)), (0, .ref (za E 17 0)), (1, .int x)]) [0, 1, 2, 3, 4] rfl ?_
        refine z_eq (lv' := [(4, .int (nI (j + 1))), (3, .int (nI (cntB (fun o => mAhead g o i) (j + 1)))), (2, .int (nI i)), (0, .ref (za E 17 0)), (1, .int x)]) (by simp [cntB, c13, c33, c49]) rfl ?_
        exact ih21 () (by omega) trivial

def rm_X10_would : Room := { frames := 4, cells := 0, slots := 0, locals := 96 }
theorem kv_X10_would : KV yX10_would RX10 cX10_would 2 (some .int) 1 := ⟨⟨gw_758, gw_759, gw_2, gw_760⟩, by decide +kernel⟩
set_option maxRecDepth 100000 in
set_option maxHeartbeats 4000000 in
theorem c_X10_would (E : ZE) (M : Mem) (g : LG) (hg : gX (M 9) = g) (nc nm n : Nat) (hI : Inv g nc nm n) (x : Int32) : Mt E yX10_would cX10_would 2 (some .int) rm_X10_would [.ref (za E 17 0), .int x] M (RI (fun v M1 => v = aWould g x ∧ FW M M1)) := by
  have hnc := hI.nc; have hnm := hI.nm; have hn := hI.c10; have hn2 := hI.m10
  refine z_met (own := RX10) (lv := [(0, .ref (za E 17 0)), (1, .int x)]) (by decide) rfl (Nat.le_of_ble_eq_true rfl) rfl (fun gg X Y => ?_)
  refine z_aload_n X (pc := 0) 0 dX10_would_0 rfl rfl ?_
  refine z_get X (pc := 1) 0 zk_17_0 (zc_17_0 E _) rfl inlX10 (by decide) gw_13 rfl rfl dX10_would_1 ?_
  refine z_get X (pc := 4) 0 zk_9_0 (zc_9_0 E _) rfl inlX9 (by decide) gw_185 rfl rfl dX10_would_4 ?_
  refine z_iload_n X (pc := 7) 1 dX10_would_7 rfl rfl ?_
  refine z_callV X (pc := 8) (rest := []) kv_X2_has (c_X2_has E M g (And.left (S9.rf hg)) nc hnc (by omega) x) zk_9_1 (zc_9_1 E _) rfl rfl gw_396 (by decide) rfl rfl (Nat.le_of_ble_eq_true rfl) dX10_would_8 (zk_i ?_)
  refine z_bif_ne X (pc := 11) (tgt := 18) dX10_would_11 (by decide) (fun c11 => ?_) (fun c11 => ?_)
  · obtain ⟨c, hc, rfl⟩ := inR_of c11 (by omega)
    refine z_aload_n X (pc := 18) 0 dX10_would_18 rfl rfl ?_
    refine z_get X (pc := 19) 4 zk_17_0 (zc_17_0 E _) rfl inlX10 (by decide) gw_22 rfl rfl dX10_would_19 ?_
    refine z_aload_n X (pc := 22) 0 dX10_would_22 rfl rfl ?_
    refine z_get X (pc := 23) 0 zk_17_0 (zc_17_0 E _) rfl inlX10 (by decide) gw_13 rfl rfl dX10_would_23 ?_
    refine z_callV X (pc := 26) (rest := []) kv_X0_byTurns (c_X0_byTurns_11 E M g hg nc nm hnc hnm hn hn2 hI.fb) zk_11_0 (zc_11_0 E _) rfl rfl gw_255 (by decide) rfl rfl (Nat.le_of_ble_eq_true rfl) dX10_would_26 (zk_rv (fun M_1 h_2 => ?_))
    obtain ⟨aT, hA, hD⟩ := h_2
    refine z_aload_n X (pc := 29) 0 dX10_would_29 rfl rfl ?_
    refine z_get X (pc := 30) 4 zk_17_0 (zc_17_0 E _) rfl inlX10 (by decide) gw_22 rfl rfl dX10_would_30 ?_
    refine z_iload_n X (pc := 33) 1 dX10_would_33 rfl rfl ?_
    refine z_callV X (pc := 34) (rest := []) kv_X0_sitterOf (c_X0_sitterOf_11 E M_1 aT (SA.self hA) c (by omega)) zk_11_0 (zc_11_0 E _) rfl rfl gw_316 (by decide) rfl rfl (Nat.le_of_ble_eq_true rfl) dX10_would_34 (zk_i ?_)
    refine z_top (y := (matS g nc nm c)) (matS_of hI.fb hD hc) ?_
    refine z_callS X (pc := 37) (rest := []) ks_X10_orNothing (c_X10_orNothing E M_1 (matS g nc nm c)) gw_401 (by decide) rfl rfl (Nat.le_of_ble_eq_true rfl) dX10_would_37 (zk_i ?_)
    exact z_iret X Y dX10_would_40 ⟨_, rfl, (aWould_in hI hc).symm, FW.sa hA (by decide)⟩
  · refine z_sipush X (pc := 14) (v := (-1011)) dX10_would_14 (by decide) ?_
    exact z_iret X Y dX10_would_17 ⟨_, rfl, by simp [aWould, hI.cNe, hI.mNe, c11], FW.rf⟩

def rm_X10_wouldAgain : Room := { frames := 5, cells := 0, slots := 0, locals := 119 }
theorem kv_X10_wouldAgain : KV yX10_wouldAgain RX10 cX10_wouldAgain 2 (some .int) 1 := ⟨⟨gw_762, gw_763, gw_2, gw_764⟩, by decide +kernel⟩
set_option maxRecDepth 100000 in
set_option maxHeartbeats 4000000 in
theorem c_X10_wouldAgain (E : ZE) (M : Mem) (g : LG) (hg : gX (M 9) = g) (nc nm n : Nat) (hI : Inv g nc nm n) (x : Int32) : Mt E yX10_wouldAgain cX10_wouldAgain 2 (some .int) rm_X10_wouldAgain [.ref (za E 17 0), .int x] M (RI (fun v M1 => v = aWould g x ∧ FW M M1)) := by
  have hnc := hI.nc; have hnm := hI.nm; have hn := hI.c10; have hn2 := hI.m10
  refine z_met (own := RX10) (lv := [(0, .ref (za E 17 0)), (1, .int x)]) (by decide) rfl (Nat.le_of_ble_eq_true rfl) rfl (fun gg X Y => ?_)
  refine z_aload_n X (pc := 0) 0 dX10_wouldAgain_0 rfl rfl ?_
  refine z_get X (pc := 1) 0 zk_17_0 (zc_17_0 E _) rfl inlX10 (by decide) gw_13 rfl rfl dX10_wouldAgain_1 ?_
  refine z_get X (pc := 4) 0 zk_9_0 (zc_9_0 E _) rfl inlX9 (by decide) gw_185 rfl rfl dX10_wouldAgain_4 ?_
  refine z_iload_n X (pc := 7) 1 dX10_wouldAgain_7 rfl rfl ?_
  refine z_callV X (pc := 8) (rest := []) kv_X2_has (c_X2_has E M g (And.left (S9.rf hg)) nc hnc (by omega) x) zk_9_1 (zc_9_1 E _) rfl rfl gw_396 (by decide) rfl rfl (Nat.le_of_ble_eq_true rfl) dX10_wouldAgain_8 (zk_i ?_)
  refine z_bif_ne X (pc := 11) (tgt := 18) dX10_wouldAgain_11 (by decide) (fun c11 => ?_) (fun c11 => ?_)
  · obtain ⟨c, hc, rfl⟩ := inR_of c11 (by omega)
    refine z_aload_n X (pc := 18) 0 dX10_wouldAgain_18 rfl rfl ?_
    refine z_get X (pc := 19) 5 zk_17_0 (zc_17_0 E _) rfl inlX10 (by decide) gw_23 rfl rfl dX10_wouldAgain_19 ?_
    refine z_aload_n X (pc := 22) 0 dX10_wouldAgain_22 rfl rfl ?_
    refine z_get X (pc := 23) 0 zk_17_0 (zc_17_0 E _) rfl inlX10 (by decide) gw_13 rfl rfl dX10_wouldAgain_23 ?_
    refine z_callV X (pc := 26) (rest := []) kv_X0_byRounds (c_X0_byRounds_12 E M g hg nc nm hnc hnm hn hn2 hI.fb) zk_12_0 (zc_12_0 E _) rfl rfl gw_714 (by decide) rfl rfl (Nat.le_of_ble_eq_true rfl) dX10_wouldAgain_26 (zk_rv (fun M_1 h_2 => ?_))
    obtain ⟨aT, hA, hD⟩ := h_2
    refine z_aload_n X (pc := 29) 0 dX10_wouldAgain_29 rfl rfl ?_
    refine z_get X (pc := 30) 5 zk_17_0 (zc_17_0 E _) rfl inlX10 (by decide) gw_23 rfl rfl dX10_wouldAgain_30 ?_
    refine z_iload_n X (pc := 33) 1 dX10_wouldAgain_33 rfl rfl ?_
    refine z_callV X (pc := 34) (rest := []) kv_X0_sitterOf (c_X0_sitterOf_12 E M_1 aT (SA.self hA) c (by omega)) zk_12_0 (zc_12_0 E _) rfl rfl gw_316 (by decide) rfl rfl (Nat.le_of_ble_eq_true rfl) dX10_wouldAgain_34 (zk_i ?_)
    refine z_top (y := (matS g nc nm c)) (matS_of hI.fb hD hc) ?_
    refine z_callS X (pc := 37) (rest := []) ks_X10_orNothing (c_X10_orNothing E M_1 (matS g nc nm c)) gw_401 (by decide) rfl rfl (Nat.le_of_ble_eq_true rfl) dX10_wouldAgain_37 (zk_i ?_)
    exact z_iret X Y dX10_wouldAgain_40 ⟨_, rfl, (aWould_in hI hc).symm, FW.sa hA (by decide)⟩
  · refine z_sipush X (pc := 14) (v := (-1011)) dX10_wouldAgain_14 (by decide) ?_
    exact z_iret X Y dX10_wouldAgain_17 ⟨_, rfl, by simp [aWould, hI.cNe, hI.mNe, c11], FW.rf⟩

def rm_X10_areCoinsThere : Room := { frames := 2, cells := 0, slots := 0, locals := 43 }
theorem kv_X10_areCoinsThere : KV yX10_areCoinsThere RX10 cX10_areCoinsThere 3 (some .boolean) 0 := ⟨⟨gw_703, gw_704, gw_2, gw_705⟩, by decide +kernel⟩
set_option maxRecDepth 100000 in
set_option maxHeartbeats 4000000 in
theorem c_X10_areCoinsThere (E : ZE) (M : Mem) (g : LG) (hg : gX (M 9) = g) (nc nm n : Nat) (hI : Inv g nc nm n)  : Mt E yX10_areCoinsThere cX10_areCoinsThere 3 (some .boolean) rm_X10_areCoinsThere [.ref (za E 17 0)] M (PI 1 M) := by
  have hnc := hI.nc; have hnm := hI.nm; have hn := hI.c10; have hn2 := hI.m10
  refine z_met (own := RX10) (lv := [(0, .ref (za E 17 0))]) (by decide) rfl (Nat.le_of_ble_eq_true rfl) rfl (fun gg X Y => ?_)
  refine z_aload_n X (pc := 0) 0 dX10_areCoinsThere_0 rfl rfl ?_
  refine z_get X (pc := 1) 0 zk_17_0 (zc_17_0 E _) rfl inlX10 (by decide) gw_13 rfl rfl dX10_areCoinsThere_1 ?_
  refine z_get X (pc := 4) 2 zk_9_0 (zc_9_0 E _) rfl inlX9 (by decide) gw_241 rfl rfl dX10_areCoinsThere_4 ?_
  refine z_astore_n X (pc := 7) (lv1 := [(1, .ref (za E 9 3)), (0, .ref (za E 17 0))]) dX10_areCoinsThere_7 rfl (by decide) rfl ?_
  refine z_bipush X (pc := 8) (v := 10) dX10_areCoinsThere_8 (by decide) ?_
  refine z_bipush X (pc := 10) (v := 8) dX10_areCoinsThere_10 (by decide) ?_
  refine z_aload_n X (pc := 12) 1 dX10_areCoinsThere_12 rfl rfl ?_
  refine z_get X (pc := 13) 0 zk_17_0 (zc_17_0 E _) rfl inlX10 (by decide) gw_13 rfl rfl dX10_areCoinsThere_13 ?_
  refine z_get X (pc := 16) 1 zk_9_0 (zc_9_0 E _) rfl inlX9 (by decide) gw_226 rfl rfl dX10_areCoinsThere_16 ?_
  refine z_get X (pc := 19) 0 zk_9_2 (zc_9_2 E _) rfl inlX4 (by decide) gw_227 rfl rfl dX10_areCoinsThere_19 ?_
  refine z_top (y := (nI nm)) ((S9.cm (S9.rf hg)).trans hnm) ?_
  refine z_imul X (pc := 22) dX10_areCoinsThere_22 ?_
  refine z_iadd X (pc := 23) dX10_areCoinsThere_23 ?_
  refine z_aload_n X (pc := 24) 0 dX10_areCoinsThere_24 rfl rfl ?_
  refine z_get X (pc := 25) 1 zk_9_3 (zc_9_3 E _) rfl inlX1 (by decide) gw_361 rfl rfl dX10_areCoinsThere_25 ?_
  refine z_top (y := (g 14 1)) (S9.bk (S9.rf hg) (by decide)) ?_
  refine z_iadd X (pc := 28) dX10_areCoinsThere_28 ?_
  refine z_istore_n X (pc := 29) (lv1 := [(2, .int ((10 + (8 * (nI nm))) + (g 14 1))), (1, .ref (za E 9 3)), (0, .ref (za E 17 0))]) dX10_areCoinsThere_29 rfl (by decide) rfl ?_
  refine z_iload_n X (pc := 30) 0 dX10_areCoinsThere_30 rfl rfl ?_
  refine z_aload_n X (pc := 31) 1 dX10_areCoinsThere_31 rfl rfl ?_
  refine z_get X (pc := 32) 0 zk_9_3 (zc_9_3 E _) rfl inlX1 (by decide) gw_360 rfl rfl dX10_areCoinsThere_32 ?_
  refine z_top (y := (g 14 0)) (S9.bk (S9.rf hg) (by decide)) ?_
  refine z_aload_n X (pc := 35) 2 dX10_areCoinsThere_35 rfl rfl ?_
  refine z_get X (pc := 36) 0 zk_17_0 (zc_17_0 E _) rfl inlX10 (by decide) gw_13 rfl rfl dX10_areCoinsThere_36 ?_
  refine z_get X (pc := 39) 1 zk_9_0 (zc_9_0 E _) rfl inlX9 (by decide) gw_226 rfl rfl dX10_areCoinsThere_39 ?_
  refine z_callV X (pc := 42) (rest := [.int (g 14 0), .int ((10 + (8 * (nI nm))) + (g 14 1))]) kv_X4_allCoins (c_X4_allCoins E M g (And.left (S9.rf hg)) nm hnm (by omega)) zk_9_2 (zc_9_2 E _) rfl rfl gw_372 (by decide) rfl rfl (Nat.le_of_ble_eq_true rfl) dX10_areCoinsThere_42 (zk_i ?_)
  refine z_iadd X (pc := 45) dX10_areCoinsThere_45 ?_
  refine z_aload_n X (pc := 46) 1 dX10_areCoinsThere_46 rfl rfl ?_
  refine z_get X (pc := 47) 2 zk_9_3 (zc_9_3 E _) rfl inlX1 (by decide) gw_362 rfl rfl dX10_areCoinsThere_47 ?_
  refine z_top (y := (g 14 2)) (S9.bk (S9.rf hg) (by decide)) ?_
  refine z_iadd X (pc := 50) dX10_areCoinsThere_50 ?_
  refine z_aload_n X (pc := 51) 1 dX10_areCoinsThere_51 rfl rfl ?_
  refine z_get X (pc := 52) 3 zk_9_3 (zc_9_3 E _) rfl inlX1 (by decide) gw_363 rfl rfl dX10_areCoinsThere_52 ?_
  refine z_top (y := (g 14 3)) (S9.bk (S9.rf hg) (by decide)) ?_
  refine z_iadd X (pc := 55) dX10_areCoinsThere_55 ?_
  refine z_icmp_ne X (pc := 56) (tgt := 63) dX10_areCoinsThere_56 (by decide) (fun c56 => ?_) (fun c56 => ?_)
  · refine z_iconst X (pc := 63) (v := 0) dX10_areCoinsThere_63 (by decide) ?_
    exact absurd (by have h := hI.bl; unfold bal at h; rw [hnm] at h; exact h) c56
  · refine z_iconst X (pc := 59) (v := 1) dX10_areCoinsThere_59 (by decide) ?_
    refine z_goto X (pc := 60) (tgt := 64) dX10_areCoinsThere_60 (by decide) ?_
    exact z_zret X Y (by decide) dX10_areCoinsThere_64 ⟨rfl, rfl⟩

def rm_X10_areSeatsPaired : Room := { frames := 1, cells := 0, slots := 0, locals := 21 }
theorem kv_X10_areSeatsPaired : KV yX10_areSeatsPaired RX10 cX10_areSeatsPaired 3 (some .boolean) 0 := ⟨⟨gw_707, gw_708, gw_2, gw_709⟩, by decide +kernel⟩
set_option maxRecDepth 100000 in
set_option maxHeartbeats 4000000 in
theorem c_X10_areSeatsPaired (E : ZE) (M : Mem) (g : LG) (hg : gX (M 9) = g) (nc nm n : Nat) (hI : Inv g nc nm n)  : Mt E yX10_areSeatsPaired cX10_areSeatsPaired 3 (some .boolean) rm_X10_areSeatsPaired [.ref (za E 17 0)] M (PI 1 M) := by
  have hnc := hI.nc; have hnm := hI.nm; have hn := hI.c10; have hn2 := hI.m10
  refine z_met (own := RX10) (lv := [(0, .ref (za E 17 0))]) (by decide) rfl (Nat.le_of_ble_eq_true rfl) rfl (fun gg X Y => ?_)
  refine z_iconst X (pc := 0) (v := 0) dX10_areSeatsPaired_0 (by decide) ?_
  refine z_istore_n X (pc := 1) (lv1 := [(1, .int 0), (0, .ref (za E 17 0))]) dX10_areSeatsPaired_1 rfl (by decide) rfl ?_
  refine z_sub (lv' := [(1, .int (nI 0)), (0, .ref (za E 17 0))]) [0, 1] rfl ?_
  refine z_loop (nm) 2 (σ := Unit) (fun i s => True) (fun i s => (M, [(1, .int (nI i)), (0, .ref (za E 17 0))])) ?_ 0 () (Nat.zero_le _) trivial
  intro i s hi2 hJ2 ih2
  show Z gg E M [(1, .int (nI i)), (0, .ref (za E 17 0))] 2 []
  refine z_iload_n X (pc := 2) 0 dX10_areSeatsPaired_2 rfl rfl ?_
  refine z_aload_n X (pc := 3) 1 dX10_areSeatsPaired_3 rfl rfl ?_
  refine z_get X (pc := 4) 0 zk_17_0 (zc_17_0 E _) rfl inlX10 (by decide) gw_13 rfl rfl dX10_areSeatsPaired_4 ?_
  refine z_get X (pc := 7) 1 zk_9_0 (zc_9_0 E _) rfl inlX9 (by decide) gw_226 rfl rfl dX10_areSeatsPaired_7 ?_
  refine z_get X (pc := 10) 0 zk_9_2 (zc_9_2 E _) rfl inlX4 (by decide) gw_227 rfl rfl dX10_areSeatsPaired_10 ?_
  refine z_top (y := (nI nm)) ((S9.cm (S9.rf hg)).trans hnm) ?_
  refine z_nicmp_ge X (pc := 13) (a := i) (b := nm) (tgt := 62) dX10_areSeatsPaired_13 (by decide) (by omega) (by omega) (fun c13 => ?_) (fun c13 => ?_)
  · refine z_iconst X (pc := 62) (v := 1) dX10_areSeatsPaired_62 (by decide) ?_
    exact z_zret X Y (by decide) dX10_areSeatsPaired_63 ⟨rfl, rfl⟩
  · refine z_aload_n X (pc := 16) 1 dX10_areSeatsPaired_16 rfl rfl ?_
    refine z_get X (pc := 17) 0 zk_17_0 (zc_17_0 E _) rfl inlX10 (by decide) gw_13 rfl rfl dX10_areSeatsPaired_17 ?_
    refine z_get X (pc := 20) 1 zk_9_0 (zc_9_0 E _) rfl inlX9 (by decide) gw_226 rfl rfl dX10_areSeatsPaired_20 ?_
    refine z_get X (pc := 23) 6 zk_9_2 (zc_9_2 E _) rfl inlX4 (by decide) gw_411 rfl rfl dX10_areSeatsPaired_23 ?_
    refine z_iload_n X (pc := 26) 0 dX10_areSeatsPaired_26 rfl rfl ?_
    refine z_callV X (pc := 27) (rest := []) kv_X7_at (c_X7_at E M 9 28 i (by decide) (by decide) (show i < 10 by omega)) zk_9_28 (zc_9_28 E _) rfl rfl gw_348 (by decide) rfl rfl (Nat.le_of_ble_eq_true rfl) dX10_areSeatsPaired_27 (zk_i ?_)
    refine z_top (y := (g 12 i)) (S9.row 12 (S9.rf hg) rfl (by decide) (show i < 10 by omega)) ?_
    refine z_istore_n X (pc := 30) (lv1 := [(2, .int (g 12 i)), (1, .int (nI i)), (0, .ref (za E 17 0))]) dX10_areSeatsPaired_30 rfl (by decide) rfl ?_
    refine z_iload_n X (pc := 31) 0 dX10_areSeatsPaired_31 rfl rfl ?_
    refine z_iconst X (pc := 32) (v := (-1)) dX10_areSeatsPaired_32 (by decide) ?_
    refine z_icmp_eq X (pc := 33) (tgt := 56) dX10_areSeatsPaired_33 (by decide) (fun c33 => ?_) (fun c33 => ?_)
    · refine z_iinc X (pc := 56) (v := (nI (i + 1))) (lv1 := [(1, .int (nI (i + 1))), (2, .int (g 12 i)), (0, .ref (za E 17 0))]) 1 dX10_areSeatsPaired_56 rfl (nI_1 _) (by decide) rfl ?_
      refine z_goto X (pc := 59) (tgt := 2) dX10_areSeatsPaired_59 (by decide) ?_
      refine z_sub (lv' := [(1, .int (nI (i + 1))), (0, .ref (za E 17 0))]) [0, 2] rfl ?_
      exact ih2 () (by omega) trivial
    · refine z_aload_n X (pc := 36) 2 dX10_areSeatsPaired_36 rfl rfl ?_
      refine z_get X (pc := 37) 0 zk_17_0 (zc_17_0 E _) rfl inlX10 (by decide) gw_13 rfl rfl dX10_areSeatsPaired_37 ?_
      refine z_get X (pc := 40) 0 zk_9_0 (zc_9_0 E _) rfl inlX9 (by decide) gw_185 rfl rfl dX10_areSeatsPaired_40 ?_
      refine z_get X (pc := 43) 7 zk_9_1 (zc_9_1 E _) rfl inlX2 (by decide) gw_395 rfl rfl dX10_areSeatsPaired_43 ?_
      refine z_iload_n X (pc := 46) 0 dX10_areSeatsPaired_46 rfl rfl ?_
      obtain ⟨k47, hk47, hp47⟩ : ∃ k, k < nc ∧ g 12 i = nI k := (hI.nor12 (by omega)).resolve_left c33
      refine z_top (y := nI k47) hp47 ?_
      refine z_callV X (pc := 47) (rest := []) kv_X7_at (c_X7_at E M 9 16 k47 (by decide) (by decide) (show k47 < 10 by omega)) zk_9_16 (zc_9_16 E _) rfl rfl gw_348 (by decide) rfl rfl (Nat.le_of_ble_eq_true rfl) dX10_areSeatsPaired_47 (zk_i ?_)
      refine z_top (y := (g 6 k47)) (S9.row 6 (S9.rf hg) rfl (by decide) (show k47 < 10 by omega)) ?_
      refine z_iload_n X (pc := 50) 1 dX10_areSeatsPaired_50 rfl rfl ?_
      refine z_icmp_eq X (pc := 51) (tgt := 56) dX10_areSeatsPaired_51 (by decide) (fun c51 => ?_) (fun c51 => ?_)
      · refine z_iinc X (pc := 56) (v := (nI (i + 1))) (lv1 := [(1, .int (nI (i + 1))), (2, .int (g 12 i)), (0, .ref (za E 17 0))]) 1 dX10_areSeatsPaired_56 rfl (nI_1 _) (by decide) rfl ?_
        refine z_goto X (pc := 59) (tgt := 2) dX10_areSeatsPaired_59 (by decide) ?_
        refine z_sub (lv' := [(1, .int (nI (i + 1))), (0, .ref (za E 17 0))]) [0, 2] rfl ?_
        exact ih2 () (by omega) trivial
      · refine z_iconst X (pc := 54) (v := 0) dX10_areSeatsPaired_54 (by decide) ?_
        exact absurd (hI.ef.1 i k47 (by omega) hk47 hp47) c51

def rm_X10_areWaysAlike : Room := { frames := 5, cells := 0, slots := 0, locals := 119 }
theorem kv_X10_areWaysAlike : KV yX10_areWaysAlike RX10 cX10_areWaysAlike 2 (some .boolean) 0 := ⟨⟨gw_711, gw_712, gw_2, gw_713⟩, by decide +kernel⟩
set_option maxRecDepth 100000 in
set_option maxHeartbeats 4000000 in
theorem c_X10_areWaysAlike (E : ZE) (M : Mem) (g : LG) (hg : gX (M 9) = g) (nc nm n : Nat) (hI : Inv g nc nm n)  : Mt E yX10_areWaysAlike cX10_areWaysAlike 2 (some .boolean) rm_X10_areWaysAlike [.ref (za E 17 0)] M (RI (fun v M1 => v = 1 ∧ FW M M1)) := by
  have hnc := hI.nc; have hnm := hI.nm; have hn := hI.c10; have hn2 := hI.m10
  refine z_met (own := RX10) (lv := [(0, .ref (za E 17 0))]) (by decide) rfl (Nat.le_of_ble_eq_true rfl) rfl (fun gg X Y => ?_)
  refine z_aload_n X (pc := 0) 0 dX10_areWaysAlike_0 rfl rfl ?_
  refine z_get X (pc := 1) 4 zk_17_0 (zc_17_0 E _) rfl inlX10 (by decide) gw_22 rfl rfl dX10_areWaysAlike_1 ?_
  refine z_aload_n X (pc := 4) 0 dX10_areWaysAlike_4 rfl rfl ?_
  refine z_get X (pc := 5) 0 zk_17_0 (zc_17_0 E _) rfl inlX10 (by decide) gw_13 rfl rfl dX10_areWaysAlike_5 ?_
  refine z_callV X (pc := 8) (rest := []) kv_X0_byTurns (c_X0_byTurns_11 E M g hg nc nm hnc hnm hn hn2 hI.fb) zk_11_0 (zc_11_0 E _) rfl rfl gw_255 (by decide) rfl rfl (Nat.le_of_ble_eq_true rfl) dX10_areWaysAlike_8 (zk_rv (fun M_1 h_2 => ?_))
  obtain ⟨aT, hA, hD⟩ := h_2
  have hg2 := SA.g9 hA (by decide) hg
  refine z_aload_n X (pc := 11) 0 dX10_areWaysAlike_11 rfl rfl ?_
  refine z_get X (pc := 12) 5 zk_17_0 (zc_17_0 E _) rfl inlX10 (by decide) gw_23 rfl rfl dX10_areWaysAlike_12 ?_
  refine z_aload_n X (pc := 15) 0 dX10_areWaysAlike_15 rfl rfl ?_
  refine z_get X (pc := 16) 0 zk_17_0 (zc_17_0 E _) rfl inlX10 (by decide) gw_13 rfl rfl dX10_areWaysAlike_16 ?_
  refine z_callV X (pc := 19) (rest := []) kv_X0_byRounds (c_X0_byRounds_12 E M_1 g hg2 nc nm hnc hnm hn hn2 hI.fb) zk_12_0 (zc_12_0 E _) rfl rfl gw_714 (by decide) rfl rfl (Nat.le_of_ble_eq_true rfl) dX10_areWaysAlike_19 (zk_rv (fun M_3 h_4 => ?_))
  obtain ⟨bT, hB, hE⟩ := h_4
  have hA2 : SA 11 M_3 aT M_3 := ⟨fun j k hj hk => by rw [hB.2 11 (by decide)]; exact hA.1 j k hj hk, fun _ _ => rfl⟩
  refine z_iconst X (pc := 22) (v := 0) dX10_areWaysAlike_22 (by decide) ?_
  refine z_istore_n X (pc := 23) (lv1 := [(1, .int 0), (0, .ref (za E 17 0))]) dX10_areWaysAlike_23 rfl (by decide) rfl ?_
  refine z_sub (lv' := [(1, .int (nI 0)), (0, .ref (za E 17 0))]) [0, 1] rfl ?_
  refine z_loop (nc) 24 (σ := Unit) (fun i s => True) (fun i s => (M_3, [(1, .int (nI i)), (0, .ref (za E 17 0))])) ?_ 0 () (Nat.zero_le _) trivial
  intro i s hi24 hJ24 ih24
  show Z gg E M_3 [(1, .int (nI i)), (0, .ref (za E 17 0))] 24 []
  refine z_iload_n X (pc := 24) 0 dX10_areWaysAlike_24 rfl rfl ?_
  refine z_aload_n X (pc := 25) 1 dX10_areWaysAlike_25 rfl rfl ?_
  refine z_get X (pc := 26) 0 zk_17_0 (zc_17_0 E _) rfl inlX10 (by decide) gw_13 rfl rfl dX10_areWaysAlike_26 ?_
  refine z_get X (pc := 29) 0 zk_9_0 (zc_9_0 E _) rfl inlX9 (by decide) gw_185 rfl rfl dX10_areWaysAlike_29 ?_
  refine z_get X (pc := 32) 0 zk_9_1 (zc_9_1 E _) rfl inlX2 (by decide) gw_186 rfl rfl dX10_areWaysAlike_32 ?_
  refine z_top (y := (nI nc)) ((S9.cc (S9.rf (SA.g9 hB (by decide) hg2))).trans hnc) ?_
  refine z_nicmp_ge X (pc := 35) (a := i) (b := nc) (tgt := 65) dX10_areWaysAlike_35 (by decide) (by omega) (by omega) (fun c35 => ?_) (fun c35 => ?_)
  · refine z_iconst X (pc := 65) (v := 1) dX10_areWaysAlike_65 (by decide) ?_
    exact z_zret X Y (by decide) dX10_areWaysAlike_66 ⟨_, rfl, rfl, (FW.sa hA (by decide)).tr (FW.sa hB (by decide))⟩
  · refine z_aload_n X (pc := 38) 1 dX10_areWaysAlike_38 rfl rfl ?_
    refine z_get X (pc := 39) 4 zk_17_0 (zc_17_0 E _) rfl inlX10 (by decide) gw_22 rfl rfl dX10_areWaysAlike_39 ?_
    refine z_iload_n X (pc := 42) 0 dX10_areWaysAlike_42 rfl rfl ?_
    refine z_callV X (pc := 43) (rest := []) kv_X0_sitterOf (c_X0_sitterOf_11 E M_3 aT hA2 i (by omega)) zk_11_0 (zc_11_0 E _) rfl rfl gw_316 (by decide) rfl rfl (Nat.le_of_ble_eq_true rfl) dX10_areWaysAlike_43 (zk_i ?_)
    refine z_aload_n X (pc := 46) 1 dX10_areWaysAlike_46 rfl rfl ?_
    refine z_get X (pc := 47) 5 zk_17_0 (zc_17_0 E _) rfl inlX10 (by decide) gw_23 rfl rfl dX10_areWaysAlike_47 ?_
    refine z_iload_n X (pc := 50) 0 dX10_areWaysAlike_50 rfl rfl ?_
    refine z_callV X (pc := 51) (rest := [.int (aT 2 i)]) kv_X0_sitterOf (c_X0_sitterOf_12 E M_3 bT (SA.self hB) i (by omega)) zk_12_0 (zc_12_0 E _) rfl rfl gw_316 (by decide) rfl rfl (Nat.le_of_ble_eq_true rfl) dX10_areWaysAlike_51 (zk_i ?_)
    refine z_icmp_eq X (pc := 54) (tgt := 59) dX10_areWaysAlike_54 (by decide) (fun c54 => ?_) (fun c54 => ?_)
    · refine z_iinc X (pc := 59) (v := (nI (i + 1))) (lv1 := [(1, .int (nI (i + 1))), (0, .ref (za E 17 0))]) 0 dX10_areWaysAlike_59 rfl (nI_1 _) (by decide) rfl ?_
      refine z_goto X (pc := 62) (tgt := 24) dX10_areWaysAlike_62 (by decide) ?_
      refine z_sub (lv' := [(1, .int (nI (i + 1))), (0, .ref (za E 17 0))]) [0, 1] rfl ?_
      exact ih24 () (by omega) trivial
    · refine z_iconst X (pc := 57) (v := 0) dX10_areWaysAlike_57 (by decide) ?_
      exact absurd (DAr.sitter hI.fb hD hE (by omega)) c54

def rm_X10_isBalanced : Room := { frames := 6, cells := 0, slots := 0, locals := 140 }
theorem kv_X10_isBalanced : KV yX10_isBalanced RX10 cX10_isBalanced 1 (some .int) 0 := ⟨⟨gw_699, gw_700, gw_2, gw_701⟩, by decide +kernel⟩
set_option maxRecDepth 100000 in
set_option maxHeartbeats 4000000 in
theorem c_X10_isBalanced (E : ZE) (M : Mem) (g : LG) (hg : gX (M 9) = g) (nc nm n : Nat) (hI : Inv g nc nm n)  : Mt E yX10_isBalanced cX10_isBalanced 1 (some .int) rm_X10_isBalanced [.ref (za E 17 0)] M (RI (fun v M1 => v = 1 ∧ FW M M1)) := by
  have hnc := hI.nc; have hnm := hI.nm; have hn := hI.c10; have hn2 := hI.m10
  refine z_met (own := RX10) (lv := [(0, .ref (za E 17 0))]) (by decide) rfl (Nat.le_of_ble_eq_true rfl) rfl (fun gg X Y => ?_)
  refine z_aload_n X (pc := 0) 0 dX10_isBalanced_0 rfl rfl ?_
  refine z_callV X (pc := 1) (rest := []) kv_X10_areCoinsThere (c_X10_areCoinsThere E M g hg nc nm n hI) zk_17_0 (zc_17_0 E _) rfl rfl gw_702 (by decide) rfl rfl (Nat.le_of_ble_eq_true rfl) dX10_isBalanced_1 (zk_i ?_)
  refine z_if_eq X (pc := 4) (tgt := 25) dX10_isBalanced_4 (by decide) (fun c4 => ?_) (fun c4 => ?_)
  · exact absurd c4 (by decide)
  · refine z_aload_n X (pc := 7) 0 dX10_isBalanced_7 rfl rfl ?_
    refine z_callV X (pc := 8) (rest := []) kv_X10_areSeatsPaired (c_X10_areSeatsPaired E M g hg nc nm n hI) zk_17_0 (zc_17_0 E _) rfl rfl gw_706 (by decide) rfl rfl (Nat.le_of_ble_eq_true rfl) dX10_isBalanced_8 (zk_i ?_)
    refine z_if_eq X (pc := 11) (tgt := 25) dX10_isBalanced_11 (by decide) (fun c11 => ?_) (fun c11 => ?_)
    · exact absurd c11 (by decide)
    · refine z_aload_n X (pc := 14) 0 dX10_isBalanced_14 rfl rfl ?_
      refine z_callV X (pc := 15) (rest := []) kv_X10_areWaysAlike (c_X10_areWaysAlike E M g hg nc nm n hI) zk_17_0 (zc_17_0 E _) rfl rfl gw_710 (by decide) rfl rfl (Nat.le_of_ble_eq_true rfl) dX10_isBalanced_15 (zk_ri (fun v_3 M_1 h_2 => ?_))
      obtain ⟨rfl, hW⟩ := h_2
      refine z_if_eq X (pc := 18) (tgt := 25) dX10_isBalanced_18 (by decide) (fun c18 => ?_) (fun c18 => ?_)
      · exact absurd c18 (by decide)
      · refine z_iconst X (pc := 21) (v := 1) dX10_isBalanced_21 (by decide) ?_
        refine z_goto X (pc := 22) (tgt := 26) dX10_isBalanced_22 (by decide) ?_
        exact z_iret X Y dX10_isBalanced_26 ⟨_, rfl, rfl, hW⟩
